theorem dX11_entryAhead_17 : decode cX11_entryAhead 17 = .ok (.iload_n 1, 1) := by decide +kernel
theorem dX11_entryAhead_18 : decode cX11_entryAhead 18 = .ok (.invokevirtual 255, 3) := by decide +kernel
theorem dX11_entryAhead_21 : decode cX11_entryAhead 21 = .ok (.ifCond .eq 34, 3) := by decide +kernel
theorem dX11_entryAhead_24 : decode cX11_entryAhead 24 = .ok (.aload_n 0, 1) := by decide +kernel
theorem dX11_entryAhead_25 : decode cX11_entryAhead 25 = .ok (.iload 4, 2) := by decide +kernel
theorem dX11_entryAhead_27 : decode cX11_entryAhead 27 = .ok (.invokevirtual 258, 3) := by decide +kernel
theorem dX11_entryAhead_30 : decode cX11_entryAhead 30 = .ok (.iload_n 2, 1) := by decide +kernel
theorem dX11_entryAhead_31 : decode cX11_entryAhead 31 = .ok (.if_icmp .ge 24, 3) := by decide +kernel
theorem dX11_entryAhead_34 : decode cX11_entryAhead 34 = .ok (.iload_n 3, 1) := by decide +kernel
theorem dX11_entryAhead_35 : decode cX11_entryAhead 35 = .ok (.ifCond .lt 17, 3) := by decide +kernel
theorem dX11_entryAhead_38 : decode cX11_entryAhead 38 = .ok (.aload_n 0, 1) := by decide +kernel
theorem dX11_entryAhead_39 : decode cX11_entryAhead 39 = .ok (.iload 4, 2) := by decide +kernel
theorem dX11_entryAhead_41 : decode cX11_entryAhead 41 = .ok (.invokevirtual 258, 3) := by decide +kernel
theorem dX11_entryAhead_44 : decode cX11_entryAhead 44 = .ok (.aload_n 0, 1) := by decide +kernel
theorem dX11_entryAhead_45 : decode cX11_entryAhead 45 = .ok (.iload_n 3, 1) := by decide +kernel
theorem dX11_entryAhead_46 : decode cX11_entryAhead 46 = .ok (.invokevirtual 258, 3) := by decide +kernel
theorem dX11_entryAhead_49 : decode cX11_entryAhead 49 = .ok (.if_icmp .le 6, 3) := by decide +kernel
theorem dX11_entryAhead_52 : decode cX11_entryAhead 52 = .ok (.iload 4, 2) := by decide +kernel
theorem dX11_entryAhead_54 : decode cX11_entryAhead 54 = .ok (.istore_n 3, 1) := by decide +kernel
theorem dX11_entryAhead_55 : decode cX11_entryAhead 55 = .ok (.iinc 4 1, 3) := by decide +kernel
theorem dX11_entryAhead_58 : decode cX11_entryAhead 58 = .ok (.goto (-52), 3) := by decide +kernel
theorem dX11_entryAhead_61 : decode cX11_entryAhead 61 = .ok (.iload_n 3, 1) := by decide +kernel
theorem dX11_entryAhead_62 : decode cX11_entryAhead 62 = .ok (.ireturn, 1) := by decide +kernel
theorem dX11_entry_0 : decode cX11_entry 0 = .ok (.aload_n 0, 1) := by decide +kernel
theorem dX11_entry_1 : decode cX11_entry 1 = .ok (.iload_n 1, 1) := by decide +kernel
theorem dX11_entry_2 : decode cX11_entry 2 = .ok (.invokevirtual 50, 3) := by decide +kernel
theorem dX11_entry_5 : decode cX11_entry 5 = .ok (.ifCond .eq 18, 3) := by decide +kernel
theorem dX11_entry_8 : decode cX11_entry 8 = .ok (.iload_n 2, 1) := by decide +kernel
theorem dX11_entry_9 : decode cX11_entry 9 = .ok (.iconst 0, 1) := by decide +kernel
theorem dX11_entry_10 : decode cX11_entry 10 = .ok (.aload_n 0, 1) := by decide +kernel
theorem dX11_entry_11 : decode cX11_entry 11 = .ok (.iload_n 1, 1) := by decide +kernel
theorem dX11_entry_12 : decode cX11_entry 12 = .ok (.invokevirtual 241, 3) := by decide +kernel
theorem dX11_entry_15 : decode cX11_entry 15 = .ok (.iconst 1, 1) := by decide +kernel
theorem dX11_entry_16 : decode cX11_entry 16 = .ok (.isub, 1) := by decide +kernel
theorem dX11_entry_17 : decode cX11_entry 17 = .ok (.invokestatic 46, 3) := by decide +kernel
theorem dX11_entry_20 : decode cX11_entry 20 = .ok (.ifCond .ne 5, 3) := by decide +kernel
theorem dX11_entry_23 : decode cX11_entry 23 = .ok (.iconst (-1), 1) := by decide +kernel
theorem dX11_entry_24 : decode cX11_entry 24 = .ok (.ireturn, 1) := by decide +kernel
theorem dX11_entry_25 : decode cX11_entry 25 = .ok (.aload_n 0, 1) := by decide +kernel
theorem dX11_entry_26 : decode cX11_entry 26 = .ok (.iload_n 1, 1) := by decide +kernel
theorem dX11_entry_27 : decode cX11_entry 27 = .ok (.aload_n 0, 1) := by decide +kernel
theorem dX11_entry_28 : decode cX11_entry 28 = .ok (.getfield 11, 3) := by decide +kernel
theorem dX11_entry_31 : decode cX11_entry 31 = .ok (.bipush 6, 2) := by decide +kernel
theorem dX11_entry_33 : decode cX11_entry 33 = .ok (.iaload, 1) := by decide +kernel
theorem dX11_entry_34 : decode cX11_entry 34 = .ok (.iconst 1, 1) := by decide +kernel
theorem dX11_entry_35 : decode cX11_entry 35 = .ok (.iadd, 1) := by decide +kernel
theorem dX11_entry_36 : decode cX11_entry 36 = .ok (.invokevirtual 261, 3) := by decide +kernel
theorem dX11_entry_39 : decode cX11_entry 39 = .ok (.istore_n 3, 1) := by decide +kernel
theorem dX11_entry_40 : decode cX11_entry 40 = .ok (.aload_n 0, 1) := by decide +kernel
theorem dX11_entry_41 : decode cX11_entry 41 = .ok (.iload_n 1, 1) := by decide +kernel
theorem dX11_entry_42 : decode cX11_entry 42 = .ok (.invokevirtual 241, 3) := by decide +kernel
theorem dX11_entry_45 : decode cX11_entry 45 = .ok (.iconst 1, 1) := by decide +kernel
theorem dX11_entry_46 : decode cX11_entry 46 = .ok (.isub, 1) := by decide +kernel
theorem dX11_entry_47 : decode cX11_entry 47 = .ok (.istore 4, 2) := by decide +kernel
theorem dX11_entry_49 : decode cX11_entry 49 = .ok (.iload 4, 2) := by decide +kernel
theorem dX11_entry_51 : decode cX11_entry 51 = .ok (.iload_n 2, 1) := by decide +kernel
theorem dX11_entry_52 : decode cX11_entry 52 = .ok (.if_icmp .le 20, 3) := by decide +kernel
theorem dX11_entry_55 : decode cX11_entry 55 = .ok (.aload_n 0, 1) := by decide +kernel
theorem dX11_entry_56 : decode cX11_entry 56 = .ok (.iload_n 1, 1) := by decide +kernel
theorem dX11_entry_57 : decode cX11_entry 57 = .ok (.aload_n 0, 1) := by decide +kernel
theorem dX11_entry_58 : decode cX11_entry 58 = .ok (.iload_n 3, 1) := by decide +kernel
theorem dX11_entry_59 : decode cX11_entry 59 = .ok (.invokevirtual 258, 3) := by decide +kernel
theorem dX11_entry_62 : decode cX11_entry 62 = .ok (.invokevirtual 261, 3) := by decide +kernel
theorem dX11_entry_65 : decode cX11_entry 65 = .ok (.istore_n 3, 1) := by decide +kernel
theorem dX11_entry_66 : decode cX11_entry 66 = .ok (.iinc 4 (-1), 3) := by decide +kernel
theorem dX11_entry_69 : decode cX11_entry 69 = .ok (.goto (-20), 3) := by decide +kernel
theorem dX11_entry_72 : decode cX11_entry 72 = .ok (.iload_n 3, 1) := by decide +kernel
theorem dX11_entry_73 : decode cX11_entry 73 = .ok (.ireturn, 1) := by decide +kernel
theorem dX11_thing_0 : decode cX11_thing 0 = .ok (.aload_n 0, 1) := by decide +kernel
theorem dX11_thing_1 : decode cX11_thing 1 = .ok (.iload_n 1, 1) := by decide +kernel
theorem dX11_thing_2 : decode cX11_thing 2 = .ok (.invokevirtual 238, 3) := by decide +kernel
theorem dX11_thing_5 : decode cX11_thing 5 = .ok (.ifCond .ne 5, 3) := by decide +kernel
theorem dX11_thing_8 : decode cX11_thing 8 = .ok (.iconst (-1), 1) := by decide +kernel
theorem dX11_thing_9 : decode cX11_thing 9 = .ok (.ireturn, 1) := by decide +kernel
theorem dX11_thing_10 : decode cX11_thing 10 = .ok (.iload_n 2, 1) := by decide +kernel
theorem dX11_thing_11 : decode cX11_thing 11 = .ok (.tableswitch 95 0 3 #[29, 43, 55, 68], 29) := by decide +kernel
theorem dX11_thing_40 : decode cX11_thing 40 = .ok (.aload_n 0, 1) := by decide +kernel
theorem dX11_thing_41 : decode cX11_thing 41 = .ok (.iload_n 1, 1) := by decide +kernel
theorem dX11_thing_42 : decode cX11_thing 42 = .ok (.invokevirtual 119, 3) := by decide +kernel
theorem dX11_thing_45 : decode cX11_thing 45 = .ok (.ifCond .eq 7, 3) := by decide +kernel
theorem dX11_thing_48 : decode cX11_thing 48 = .ok (.iconst 0, 1) := by decide +kernel
theorem dX11_thing_49 : decode cX11_thing 49 = .ok (.goto 4, 3) := by decide +kernel
theorem dX11_thing_52 : decode cX11_thing 52 = .ok (.iconst 1, 1) := by decide +kernel
theorem dX11_thing_53 : decode cX11_thing 53 = .ok (.ireturn, 1) := by decide +kernel
theorem dX11_thing_54 : decode cX11_thing 54 = .ok (.aload_n 0, 1) := by decide +kernel
theorem dX11_thing_55 : decode cX11_thing 55 = .ok (.getfield 11, 3) := by decide +kernel
theorem dX11_thing_58 : decode cX11_thing 58 = .ok (.iload_n 1, 1) := by decide +kernel
theorem dX11_thing_59 : decode cX11_thing 59 = .ok (.iconst 1, 1) := by decide +kernel
theorem dX11_thing_60 : decode cX11_thing 60 = .ok (.iconst 0, 1) := by decide +kernel
theorem dX11_thing_61 : decode cX11_thing 61 = .ok (.invokestatic 54, 3) := by decide +kernel
theorem dX11_thing_64 : decode cX11_thing 64 = .ok (.iaload, 1) := by decide +kernel
theorem dX11_thing_65 : decode cX11_thing 65 = .ok (.ireturn, 1) := by decide +kernel
theorem dX11_thing_66 : decode cX11_thing 66 = .ok (.aload_n 0, 1) := by decide +kernel
theorem dX11_thing_67 : decode cX11_thing 67 = .ok (.getfield 11, 3) := by decide +kernel
theorem dX11_thing_70 : decode cX11_thing 70 = .ok (.iload_n 1, 1) := by decide +kernel
theorem dX11_thing_71 : decode cX11_thing 71 = .ok (.bipush 6, 2) := by decide +kernel
theorem dX11_thing_73 : decode cX11_thing 73 = .ok (.iconst 0, 1) := by decide +kernel
theorem dX11_thing_74 : decode cX11_thing 74 = .ok (.invokestatic 54, 3) := by decide +kernel
theorem dX11_thing_77 : decode cX11_thing 77 = .ok (.iaload, 1) := by decide +kernel
theorem dX11_thing_78 : decode cX11_thing 78 = .ok (.ireturn, 1) := by decide +kernel
theorem dX11_thing_79 : decode cX11_thing 79 = .ok (.aload_n 0, 1) := by decide +kernel
theorem dX11_thing_80 : decode cX11_thing 80 = .ok (.aload_n 0, 1) := by decide +kernel
theorem dX11_thing_81 : decode cX11_thing 81 = .ok (.getfield 11, 3) := by decide +kernel
theorem dX11_thing_84 : decode cX11_thing 84 = .ok (.iload_n 1, 1) := by decide +kernel
theorem dX11_thing_85 : decode cX11_thing 85 = .ok (.iconst 4, 1) := by decide +kernel
theorem dX11_thing_86 : decode cX11_thing 86 = .ok (.iconst 0, 1) := by decide +kernel
theorem dX11_thing_87 : decode cX11_thing 87 = .ok (.invokestatic 54, 3) := by decide +kernel
theorem dX11_thing_90 : decode cX11_thing 90 = .ok (.iaload, 1) := by decide +kernel
theorem dX11_thing_91 : decode cX11_thing 91 = .ok (.aload_n 0, 1) := by decide +kernel
theorem dX11_thing_92 : decode cX11_thing 92 = .ok (.getfield 11, 3) := by decide +kernel
theorem dX11_thing_95 : decode cX11_thing 95 = .ok (.iload_n 1, 1) := by decide +kernel
theorem dX11_thing_96 : decode cX11_thing 96 = .ok (.iconst 5, 1) := by decide +kernel
theorem dX11_thing_97 : decode cX11_thing 97 = .ok (.iconst 0, 1) := by decide +kernel
theorem dX11_thing_98 : decode cX11_thing 98 = .ok (.invokestatic 54, 3) := by decide +kernel
theorem dX11_thing_101 : decode cX11_thing 101 = .ok (.iaload, 1) := by decide +kernel
theorem dX11_thing_102 : decode cX11_thing 102 = .ok (.invokevirtual 226, 3) := by decide +kernel
theorem dX11_thing_105 : decode cX11_thing 105 = .ok (.ireturn, 1) := by decide +kernel
theorem dX11_thing_106 : decode cX11_thing 106 = .ok (.iconst (-1), 1) := by decide +kernel
theorem dX11_thing_107 : decode cX11_thing 107 = .ok (.ireturn, 1) := by decide +kernel
theorem dX11_name_0 : decode cX11_name 0 = .ok (.aload_n 0, 1) := by decide +kernel
theorem dX11_name_1 : decode cX11_name 1 = .ok (.iload_n 1, 1) := by decide +kernel
theorem dX11_name_2 : decode cX11_name 2 = .ok (.invokevirtual 238, 3) := by decide +kernel
theorem dX11_name_5 : decode cX11_name 5 = .ok (.ifCond .eq 24, 3) := by decide +kernel
theorem dX11_name_8 : decode cX11_name 8 = .ok (.iload_n 2, 1) := by decide +kernel
theorem dX11_name_9 : decode cX11_name 9 = .ok (.iconst (-1), 1) := by decide +kernel
theorem dX11_name_10 : decode cX11_name 10 = .ok (.aload_n 0, 1) := by decide +kernel
theorem dX11_name_11 : decode cX11_name 11 = .ok (.getfield 11, 3) := by decide +kernel
theorem dX11_name_14 : decode cX11_name 14 = .ok (.iload_n 1, 1) := by decide +kernel
theorem dX11_name_15 : decode cX11_name 15 = .ok (.iconst 3, 1) := by decide +kernel
theorem dX11_name_16 : decode cX11_name 16 = .ok (.iconst 0, 1) := by decide +kernel
theorem dX11_name_17 : decode cX11_name 17 = .ok (.invokestatic 54, 3) := by decide +kernel
theorem dX11_name_20 : decode cX11_name 20 = .ok (.iaload, 1) := by decide +kernel
theorem dX11_name_21 : decode cX11_name 21 = .ok (.iconst 1, 1) := by decide +kernel
theorem dX11_name_22 : decode cX11_name 22 = .ok (.isub, 1) := by decide +kernel
theorem dX11_name_23 : decode cX11_name 23 = .ok (.invokestatic 46, 3) := by decide +kernel
theorem dX11_name_26 : decode cX11_name 26 = .ok (.ifCond .ne 5, 3) := by decide +kernel
theorem dX11_name_29 : decode cX11_name 29 = .ok (.iconst (-1), 1) := by decide +kernel
theorem dX11_name_30 : decode cX11_name 30 = .ok (.ireturn, 1) := by decide +kernel
theorem dX11_name_31 : decode cX11_name 31 = .ok (.iload_n 2, 1) := by decide +kernel
theorem dX11_name_32 : decode cX11_name 32 = .ok (.ifCond .ge 17, 3) := by decide +kernel
theorem dX11_name_35 : decode cX11_name 35 = .ok (.aload_n 0, 1) := by decide +kernel
theorem dX11_name_36 : decode cX11_name 36 = .ok (.getfield 11, 3) := by decide +kernel
theorem dX11_name_39 : decode cX11_name 39 = .ok (.iload_n 1, 1) := by decide +kernel
theorem dX11_name_40 : decode cX11_name 40 = .ok (.iconst 3, 1) := by decide +kernel
theorem dX11_name_41 : decode cX11_name 41 = .ok (.iconst 0, 1) := by decide +kernel
theorem dX11_name_42 : decode cX11_name 42 = .ok (.invokestatic 54, 3) := by decide +kernel
theorem dX11_name_45 : decode cX11_name 45 = .ok (.iaload, 1) := by decide +kernel
theorem dX11_name_46 : decode cX11_name 46 = .ok (.goto 15, 3) := by decide +kernel
theorem dX11_name_49 : decode cX11_name 49 = .ok (.aload_n 0, 1) := by decide +kernel
theorem dX11_name_50 : decode cX11_name 50 = .ok (.getfield 11, 3) := by decide +kernel
theorem dX11_name_53 : decode cX11_name 53 = .ok (.iload_n 1, 1) := by decide +kernel
theorem dX11_name_54 : decode cX11_name 54 = .ok (.bipush 7, 2) := by decide +kernel
theorem dX11_name_56 : decode cX11_name 56 = .ok (.iload_n 2, 1) := by decide +kernel
theorem dX11_name_57 : decode cX11_name 57 = .ok (.invokestatic 54, 3) := by decide +kernel
theorem dX11_name_60 : decode cX11_name 60 = .ok (.iaload, 1) := by decide +kernel
theorem dX11_name_61 : decode cX11_name 61 = .ok (.ireturn, 1) := by decide +kernel
theorem dX11_find_0 : decode cX11_find 0 = .ok (.aload_n 0, 1) := by decide +kernel
theorem dX11_find_1 : decode cX11_find 1 = .ok (.getfield 61, 3) := by decide +kernel
theorem dX11_find_4 : decode cX11_find 4 = .ok (.istore_n 1, 1) := by decide +kernel
theorem dX11_find_5 : decode cX11_find 5 = .ok (.aload_n 0, 1) := by decide +kernel
theorem dX11_find_6 : decode cX11_find 6 = .ok (.iconst 0, 1) := by decide +kernel
theorem dX11_find_7 : decode cX11_find 7 = .ok (.putfield 61, 3) := by decide +kernel
theorem dX11_find_10 : decode cX11_find 10 = .ok (.aload_n 0, 1) := by decide +kernel
theorem dX11_find_11 : decode cX11_find 11 = .ok (.aload_n 0, 1) := by decide +kernel
theorem dX11_find_12 : decode cX11_find 12 = .ok (.getfield 24, 3) := by decide +kernel
theorem dX11_find_15 : decode cX11_find 15 = .ok (.iconst 0, 1) := by decide +kernel
theorem dX11_find_16 : decode cX11_find 16 = .ok (.iload_n 1, 1) := by decide +kernel
theorem dX11_find_17 : decode cX11_find 17 = .ok (.invokevirtual 163, 3) := by decide +kernel
theorem dX11_find_20 : decode cX11_find 20 = .ok (.ireturn, 1) := by decide +kernel
theorem dX11_against_0 : decode cX11_against 0 = .ok (.aload_n 0, 1) := by decide +kernel
theorem dX11_against_1 : decode cX11_against 1 = .ok (.getfield 11, 3) := by decide +kernel
theorem dX11_against_4 : decode cX11_against 4 = .ok (.iload_n 1, 1) := by decide +kernel
theorem dX11_against_5 : decode cX11_against 5 = .ok (.iconst 3, 1) := by decide +kernel
theorem dX11_against_6 : decode cX11_against 6 = .ok (.iconst 0, 1) := by decide +kernel
theorem dX11_against_7 : decode cX11_against 7 = .ok (.invokestatic 54, 3) := by decide +kernel
theorem dX11_against_10 : decode cX11_against 10 = .ok (.iaload, 1) := by decide +kernel
theorem dX11_against_11 : decode cX11_against 11 = .ok (.istore 5, 2) := by decide +kernel
theorem dX11_against_13 : decode cX11_against 13 = .ok (.iconst 0, 1) := by decide +kernel
theorem dX11_against_14 : decode cX11_against 14 = .ok (.istore 6, 2) := by decide +kernel
theorem dX11_against_16 : decode cX11_against 16 = .ok (.iload 6, 2) := by decide +kernel
theorem dX11_against_18 : decode cX11_against 18 = .ok (.iload 5, 2) := by decide +kernel
theorem dX11_against_20 : decode cX11_against 20 = .ok (.if_icmp .ge 46, 3) := by decide +kernel
theorem dX11_against_23 : decode cX11_against 23 = .ok (.iload 6, 2) := by decide +kernel
theorem dX11_against_25 : decode cX11_against 25 = .ok (.iload 4, 2) := by decide +kernel
theorem dX11_against_27 : decode cX11_against 27 = .ok (.if_icmp .ge 39, 3) := by decide +kernel
theorem dX11_against_30 : decode cX11_against 30 = .ok (.aload_n 0, 1) := by decide +kernel
theorem dX11_against_31 : decode cX11_against 31 = .ok (.getfield 11, 3) := by decide +kernel
theorem dX11_against_34 : decode cX11_against 34 = .ok (.iload_n 1, 1) := by decide +kernel
theorem dX11_against_35 : decode cX11_against 35 = .ok (.bipush 7, 2) := by decide +kernel
theorem dX11_against_37 : decode cX11_against 37 = .ok (.iload 6, 2) := by decide +kernel
theorem dX11_against_39 : decode cX11_against 39 = .ok (.invokestatic 54, 3) := by decide +kernel
theorem dX11_against_42 : decode cX11_against 42 = .ok (.iaload, 1) := by decide +kernel
theorem dX11_against_43 : decode cX11_against 43 = .ok (.aload_n 2, 1) := by decide +kernel
theorem dX11_against_44 : decode cX11_against 44 = .ok (.iload_n 3, 1) := by decide +kernel
theorem dX11_against_45 : decode cX11_against 45 = .ok (.iload 6, 2) := by decide +kernel
theorem dX11_against_47 : decode cX11_against 47 = .ok (.iadd, 1) := by decide +kernel
theorem dX11_against_48 : decode cX11_against 48 = .ok (.iaload, 1) := by decide +kernel
theorem dX11_against_49 : decode cX11_against 49 = .ok (.isub, 1) := by decide +kernel
theorem dX11_against_50 : decode cX11_against 50 = .ok (.istore 7, 2) := by decide +kernel
theorem dX11_against_52 : decode cX11_against 52 = .ok (.iload 7, 2) := by decide +kernel
theorem dX11_against_54 : decode cX11_against 54 = .ok (.ifCond .eq 6, 3) := by decide +kernel
theorem dX11_against_57 : decode cX11_against 57 = .ok (.iload 7, 2) := by decide +kernel
theorem dX11_against_59 : decode cX11_against 59 = .ok (.ireturn, 1) := by decide +kernel
theorem dX11_against_60 : decode cX11_against 60 = .ok (.iinc 6 1, 3) := by decide +kernel
theorem dX11_against_63 : decode cX11_against 63 = .ok (.goto (-47), 3) := by decide +kernel
theorem dX11_against_66 : decode cX11_against 66 = .ok (.iload 5, 2) := by decide +kernel
theorem dX11_against_68 : decode cX11_against 68 = .ok (.iload 4, 2) := by decide +kernel
theorem dX11_against_70 : decode cX11_against 70 = .ok (.isub, 1) := by decide +kernel
theorem dX11_against_71 : decode cX11_against 71 = .ok (.ireturn, 1) := by decide +kernel
theorem dX11_against__0 : decode cX11_against_ 0 = .ok (.aload_n 0, 1) := by decide +kernel
theorem dX11_against__1 : decode cX11_against_ 1 = .ok (.iload_n 1, 1) := by decide +kernel
theorem dX11_against__2 : decode cX11_against_ 2 = .ok (.aload_n 0, 1) := by decide +kernel
theorem dX11_against__3 : decode cX11_against_ 3 = .ok (.getfield 11, 3) := by decide +kernel
theorem dX11_against__6 : decode cX11_against_ 6 = .ok (.iload_n 2, 1) := by decide +kernel
theorem dX11_against__7 : decode cX11_against_ 7 = .ok (.bipush 7, 2) := by decide +kernel
theorem dX11_against__9 : decode cX11_against_ 9 = .ok (.iconst 0, 1) := by decide +kernel
theorem dX11_against__10 : decode cX11_against_ 10 = .ok (.invokestatic 54, 3) := by decide +kernel
theorem dX11_against__13 : decode cX11_against_ 13 = .ok (.aload_n 0, 1) := by decide +kernel
theorem dX11_against__14 : decode cX11_against_ 14 = .ok (.getfield 11, 3) := by decide +kernel
theorem dX11_against__17 : decode cX11_against_ 17 = .ok (.iload_n 2, 1) := by decide +kernel
theorem dX11_against__18 : decode cX11_against_ 18 = .ok (.iconst 3, 1) := by decide +kernel
theorem dX11_against__19 : decode cX11_against_ 19 = .ok (.iconst 0, 1) := by decide +kernel
theorem dX11_against__20 : decode cX11_against_ 20 = .ok (.invokestatic 54, 3) := by decide +kernel
theorem dX11_against__23 : decode cX11_against_ 23 = .ok (.iaload, 1) := by decide +kernel
theorem dX11_against__24 : decode cX11_against_ 24 = .ok (.invokevirtual 264, 3) := by decide +kernel
theorem dX11_against__27 : decode cX11_against_ 27 = .ok (.ireturn, 1) := by decide +kernel
theorem dX11_from_0 : decode cX11_from 0 = .ok (.aload_n 0, 1) := by decide +kernel
theorem dX11_from_1 : decode cX11_from 1 = .ok (.getfield 61, 3) := by decide +kernel
theorem dX11_from_4 : decode cX11_from 4 = .ok (.istore_n 1, 1) := by decide +kernel
theorem dX11_from_5 : decode cX11_from 5 = .ok (.aload_n 0, 1) := by decide +kernel
theorem dX11_from_6 : decode cX11_from 6 = .ok (.iconst 0, 1) := by decide +kernel
theorem dX11_from_7 : decode cX11_from 7 = .ok (.putfield 61, 3) := by decide +kernel
theorem dX11_from_10 : decode cX11_from 10 = .ok (.bipush (-5), 2) := by decide +kernel
theorem dX11_from_12 : decode cX11_from 12 = .ok (.istore_n 2, 1) := by decide +kernel
theorem dX11_from_13 : decode cX11_from 13 = .ok (.iconst 0, 1) := by decide +kernel
theorem dX11_from_14 : decode cX11_from 14 = .ok (.istore_n 3, 1) := by decide +kernel
theorem dX11_from_15 : decode cX11_from 15 = .ok (.iload_n 3, 1) := by decide +kernel
theorem dX11_from_16 : decode cX11_from 16 = .ok (.aload_n 0, 1) := by decide +kernel
theorem dX11_from_17 : decode cX11_from 17 = .ok (.getfield 11, 3) := by decide +kernel
theorem dX11_from_20 : decode cX11_from 20 = .ok (.iconst 1, 1) := by decide +kernel
theorem dX11_from_21 : decode cX11_from 21 = .ok (.iaload, 1) := by decide +kernel
theorem dX11_from_22 : decode cX11_from 22 = .ok (.if_icmp .ge 46, 3) := by decide +kernel
theorem dX11_from_25 : decode cX11_from 25 = .ok (.aload_n 0, 1) := by decide +kernel
theorem dX11_from_26 : decode cX11_from 26 = .ok (.iload_n 3, 1) := by decide +kernel
theorem dX11_from_27 : decode cX11_from 27 = .ok (.invokevirtual 119, 3) := by decide +kernel
theorem dX11_from_30 : decode cX11_from 30 = .ok (.ifCond .eq 32, 3) := by decide +kernel
theorem dX11_from_33 : decode cX11_from 33 = .ok (.aload_n 0, 1) := by decide +kernel
theorem dX11_from_34 : decode cX11_from 34 = .ok (.iload_n 3, 1) := by decide +kernel
theorem dX11_from_35 : decode cX11_from 35 = .ok (.aload_n 0, 1) := by decide +kernel
theorem dX11_from_36 : decode cX11_from 36 = .ok (.getfield 24, 3) := by decide +kernel
theorem dX11_from_39 : decode cX11_from 39 = .ok (.iconst 0, 1) := by decide +kernel
theorem dX11_from_40 : decode cX11_from 40 = .ok (.iload_n 1, 1) := by decide +kernel
theorem dX11_from_41 : decode cX11_from 41 = .ok (.invokevirtual 264, 3) := by decide +kernel
theorem dX11_from_44 : decode cX11_from 44 = .ok (.ifCond .lt 18, 3) := by decide +kernel
theorem dX11_from_47 : decode cX11_from 47 = .ok (.iload_n 2, 1) := by decide +kernel
theorem dX11_from_48 : decode cX11_from 48 = .ok (.ifCond .lt 12, 3) := by decide +kernel
theorem dX11_from_51 : decode cX11_from 51 = .ok (.aload_n 0, 1) := by decide +kernel
theorem dX11_from_52 : decode cX11_from 52 = .ok (.iload_n 3, 1) := by decide +kernel
theorem dX11_from_53 : decode cX11_from 53 = .ok (.iload_n 2, 1) := by decide +kernel
theorem dX11_from_54 : decode cX11_from 54 = .ok (.invokevirtual 268, 3) := by decide +kernel
theorem dX11_from_57 : decode cX11_from 57 = .ok (.ifCond .ge 5, 3) := by decide +kernel
theorem dX11_from_60 : decode cX11_from 60 = .ok (.iload_n 3, 1) := by decide +kernel
theorem dX11_from_61 : decode cX11_from 61 = .ok (.istore_n 2, 1) := by decide +kernel
theorem dX11_from_62 : decode cX11_from 62 = .ok (.iinc 3 1, 3) := by decide +kernel
theorem dX11_from_65 : decode cX11_from 65 = .ok (.goto (-50), 3) := by decide +kernel
theorem dX11_from_68 : decode cX11_from 68 = .ok (.iload_n 2, 1) := by decide +kernel
theorem dX11_from_69 : decode cX11_from 69 = .ok (.ireturn, 1) := by decide +kernel
theorem dX11_rename_0 : decode cX11_rename 0 = .ok (.aload_n 0, 1) := by decide +kernel
theorem dX11_rename_1 : decode cX11_rename 1 = .ok (.iload_n 1, 1) := by decide +kernel
theorem dX11_rename_2 : decode cX11_rename 2 = .ok (.invokevirtual 238, 3) := by decide +kernel
theorem dX11_rename_5 : decode cX11_rename 5 = .ok (.ifCond .ne 5, 3) := by decide +kernel
theorem dX11_rename_8 : decode cX11_rename 8 = .ok (.iconst (-1), 1) := by decide +kernel
theorem dX11_rename_9 : decode cX11_rename 9 = .ok (.ireturn, 1) := by decide +kernel
theorem dX11_rename_10 : decode cX11_rename 10 = .ok (.aload_n 0, 1) := by decide +kernel
theorem dX11_rename_11 : decode cX11_rename 11 = .ok (.iload_n 1, 1) := by decide +kernel
theorem dX11_rename_12 : decode cX11_rename 12 = .ok (.invokevirtual 119, 3) := by decide +kernel
theorem dX11_rename_15 : decode cX11_rename 15 = .ok (.ifCond .ne 6, 3) := by decide +kernel
theorem dX11_rename_18 : decode cX11_rename 18 = .ok (.bipush (-3), 2) := by decide +kernel
theorem dX11_rename_20 : decode cX11_rename 20 = .ok (.ireturn, 1) := by decide +kernel
theorem dX11_rename_21 : decode cX11_rename 21 = .ok (.aload_n 0, 1) := by decide +kernel
theorem dX11_rename_22 : decode cX11_rename 22 = .ok (.getfield 61, 3) := by decide +kernel
theorem dX11_rename_25 : decode cX11_rename 25 = .ok (.istore_n 2, 1) := by decide +kernel
theorem dX11_rename_26 : decode cX11_rename 26 = .ok (.aload_n 0, 1) := by decide +kernel
theorem dX11_rename_27 : decode cX11_rename 27 = .ok (.iconst 0, 1) := by decide +kernel
theorem dX11_rename_28 : decode cX11_rename 28 = .ok (.putfield 61, 3) := by decide +kernel
theorem dX11_rename_31 : decode cX11_rename 31 = .ok (.aload_n 0, 1) := by decide +kernel
theorem dX11_rename_32 : decode cX11_rename 32 = .ok (.aload_n 0, 1) := by decide +kernel
theorem dX11_rename_33 : decode cX11_rename 33 = .ok (.getfield 24, 3) := by decide +kernel
theorem dX11_rename_36 : decode cX11_rename 36 = .ok (.iconst 0, 1) := by decide +kernel
theorem dX11_rename_37 : decode cX11_rename 37 = .ok (.iload_n 2, 1) := by decide +kernel
theorem dX11_rename_38 : decode cX11_rename 38 = .ok (.invokevirtual 115, 3) := by decide +kernel
theorem dX11_rename_41 : decode cX11_rename 41 = .ok (.aload_n 0, 1) := by decide +kernel
theorem dX11_rename_42 : decode cX11_rename 42 = .ok (.invokevirtual 88, 3) := by decide +kernel
theorem dX11_rename_45 : decode cX11_rename 45 = .ok (.ifCond .eq 10, 3) := by decide +kernel
theorem dX11_rename_48 : decode cX11_rename 48 = .ok (.aload_n 0, 1) := by decide +kernel
theorem dX11_rename_49 : decode cX11_rename 49 = .ok (.invokevirtual 217, 3) := by decide +kernel
theorem dX11_rename_52 : decode cX11_rename 52 = .ok (.ifCond .ne 11, 3) := by decide +kernel
theorem dX11_rename_55 : decode cX11_rename 55 = .ok (.bipush (-100), 2) := by decide +kernel
theorem dX11_rename_57 : decode cX11_rename 57 = .ok (.aload_n 0, 1) := by decide +kernel
theorem dX11_rename_58 : decode cX11_rename 58 = .ok (.getfield 71, 3) := by decide +kernel
theorem dX11_rename_61 : decode cX11_rename 61 = .ok (.isub, 1) := by decide +kernel
theorem dX11_rename_62 : decode cX11_rename 62 = .ok (.ireturn, 1) := by decide +kernel
theorem dX11_rename_63 : decode cX11_rename 63 = .ok (.aload_n 0, 1) := by decide +kernel
theorem dX11_rename_64 : decode cX11_rename 64 = .ok (.aload_n 0, 1) := by decide +kernel
theorem dX11_rename_65 : decode cX11_rename 65 = .ok (.getfield 24, 3) := by decide +kernel
theorem dX11_rename_68 : decode cX11_rename 68 = .ok (.iconst 0, 1) := by decide +kernel
theorem dX11_rename_69 : decode cX11_rename 69 = .ok (.iload_n 2, 1) := by decide +kernel
theorem dX11_rename_70 : decode cX11_rename 70 = .ok (.invokevirtual 163, 3) := by decide +kernel
theorem dX11_rename_73 : decode cX11_rename 73 = .ok (.ifCond .lt 6, 3) := by decide +kernel
theorem dX11_rename_76 : decode cX11_rename 76 = .ok (.bipush (-3), 2) := by decide +kernel
theorem dX11_rename_78 : decode cX11_rename 78 = .ok (.ireturn, 1) := by decide +kernel
theorem dX11_rename_79 : decode cX11_rename 79 = .ok (.aload_n 0, 1) := by decide +kernel
theorem dX11_rename_80 : decode cX11_rename 80 = .ok (.iload_n 1, 1) := by decide +kernel
theorem dX11_rename_81 : decode cX11_rename 81 = .ok (.aload_n 0, 1) := by decide +kernel
theorem dX11_rename_82 : decode cX11_rename 82 = .ok (.getfield 24, 3) := by decide +kernel
theorem dX11_rename_85 : decode cX11_rename 85 = .ok (.iconst 0, 1) := by decide +kernel
theorem dX11_rename_86 : decode cX11_rename 86 = .ok (.iload_n 2, 1) := by decide +kernel
theorem dX11_rename_87 : decode cX11_rename 87 = .ok (.invokevirtual 129, 3) := by decide +kernel
theorem dX11_rename_90 : decode cX11_rename 90 = .ok (.iload_n 2, 1) := by decide +kernel
theorem dX11_rename_91 : decode cX11_rename 91 = .ok (.ireturn, 1) := by decide +kernel
theorem dX11_byName_0 : decode cX11_byName 0 = .ok (.iconst 0, 1) := by decide +kernel
theorem dX11_byName_1 : decode cX11_byName 1 = .ok (.istore_n 2, 1) := by decide +kernel
theorem dX11_byName_2 : decode cX11_byName 2 = .ok (.iload_n 2, 1) := by decide +kernel
theorem dX11_byName_3 : decode cX11_byName 3 = .ok (.aload_n 0, 1) := by decide +kernel
theorem dX11_byName_4 : decode cX11_byName 4 = .ok (.getfield 11, 3) := by decide +kernel
theorem dX11_byName_7 : decode cX11_byName 7 = .ok (.iconst 1, 1) := by decide +kernel
theorem dX11_byName_8 : decode cX11_byName 8 = .ok (.iaload, 1) := by decide +kernel
theorem dX11_byName_9 : decode cX11_byName 9 = .ok (.if_icmp .ge 73, 3) := by decide +kernel
theorem dX11_byName_12 : decode cX11_byName 12 = .ok (.iconst 0, 1) := by decide +kernel
theorem dX11_byName_13 : decode cX11_byName 13 = .ok (.istore_n 3, 1) := by decide +kernel
theorem dX11_byName_14 : decode cX11_byName 14 = .ok (.iconst 0, 1) := by decide +kernel
theorem dX11_byName_15 : decode cX11_byName 15 = .ok (.istore 4, 2) := by decide +kernel
theorem dX11_byName_17 : decode cX11_byName 17 = .ok (.iload 4, 2) := by decide +kernel
theorem dX11_byName_19 : decode cX11_byName 19 = .ok (.aload_n 0, 1) := by decide +kernel
theorem dX11_byName_20 : decode cX11_byName 20 = .ok (.getfield 11, 3) := by decide +kernel
theorem dX11_byName_23 : decode cX11_byName 23 = .ok (.iconst 1, 1) := by decide +kernel
theorem dX11_byName_24 : decode cX11_byName 24 = .ok (.iaload, 1) := by decide +kernel
theorem dX11_byName_25 : decode cX11_byName 25 = .ok (.if_icmp .ge 36, 3) := by decide +kernel
theorem dX11_byName_28 : decode cX11_byName 28 = .ok (.iload_n 3, 1) := by decide +kernel
theorem dX11_byName_29 : decode cX11_byName 29 = .ok (.aload_n 0, 1) := by decide +kernel
theorem dX11_byName_30 : decode cX11_byName 30 = .ok (.iload 4, 2) := by decide +kernel
theorem dX11_byName_32 : decode cX11_byName 32 = .ok (.invokevirtual 119, 3) := by decide +kernel
theorem dX11_byName_35 : decode cX11_byName 35 = .ok (.ifCond .eq 17, 3) := by decide +kernel
theorem dX11_byName_38 : decode cX11_byName 38 = .ok (.aload_n 0, 1) := by decide +kernel
theorem dX11_byName_39 : decode cX11_byName 39 = .ok (.iload 4, 2) := by decide +kernel
theorem dX11_byName_41 : decode cX11_byName 41 = .ok (.iload_n 2, 1) := by decide +kernel
theorem dX11_byName_42 : decode cX11_byName 42 = .ok (.invokevirtual 268, 3) := by decide +kernel
theorem dX11_byName_45 : decode cX11_byName 45 = .ok (.ifCond .ge 7, 3) := by decide +kernel
theorem dX11_byName_48 : decode cX11_byName 48 = .ok (.iconst 1, 1) := by decide +kernel
theorem dX11_byName_49 : decode cX11_byName 49 = .ok (.goto 4, 3) := by decide +kernel
theorem dX11_byName_52 : decode cX11_byName 52 = .ok (.iconst 0, 1) := by decide +kernel
theorem dX11_byName_53 : decode cX11_byName 53 = .ok (.iadd, 1) := by decide +kernel
theorem dX11_byName_54 : decode cX11_byName 54 = .ok (.istore_n 3, 1) := by decide +kernel
theorem dX11_byName_55 : decode cX11_byName 55 = .ok (.iinc 4 1, 3) := by decide +kernel
theorem dX11_byName_58 : decode cX11_byName 58 = .ok (.goto (-41), 3) := by decide +kernel
theorem dX11_byName_61 : decode cX11_byName 61 = .ok (.aload_n 0, 1) := by decide +kernel
theorem dX11_byName_62 : decode cX11_byName 62 = .ok (.iload_n 2, 1) := by decide +kernel
theorem dX11_byName_63 : decode cX11_byName 63 = .ok (.invokevirtual 119, 3) := by decide +kernel
theorem dX11_byName_66 : decode cX11_byName 66 = .ok (.ifCond .eq 10, 3) := by decide +kernel
theorem dX11_byName_69 : decode cX11_byName 69 = .ok (.iload_n 3, 1) := by decide +kernel
theorem dX11_byName_70 : decode cX11_byName 70 = .ok (.iload_n 1, 1) := by decide +kernel
theorem dX11_byName_71 : decode cX11_byName 71 = .ok (.if_icmp .ne 5, 3) := by decide +kernel
theorem dX11_byName_74 : decode cX11_byName 74 = .ok (.iload_n 2, 1) := by decide +kernel
theorem dX11_byName_75 : decode cX11_byName 75 = .ok (.ireturn, 1) := by decide +kernel
theorem dX11_byName_76 : decode cX11_byName 76 = .ok (.iinc 2 1, 3) := by decide +kernel
theorem dX11_byName_79 : decode cX11_byName 79 = .ok (.goto (-77), 3) := by decide +kernel
theorem dX11_byName_82 : decode cX11_byName 82 = .ok (.iconst (-1), 1) := by decide +kernel
theorem dX11_byName_83 : decode cX11_byName 83 = .ok (.ireturn, 1) := by decide +kernel
theorem dX11_plansOf_0 : decode cX11_plansOf 0 = .ok (.aload_n 0, 1) := by decide +kernel
theorem dX11_plansOf_1 : decode cX11_plansOf 1 = .ok (.iload_n 1, 1) := by decide +kernel
theorem dX11_plansOf_2 : decode cX11_plansOf 2 = .ok (.aload_n 0, 1) := by decide +kernel
theorem dX11_plansOf_3 : decode cX11_plansOf 3 = .ok (.getfield 11, 3) := by decide +kernel
theorem dX11_plansOf_6 : decode cX11_plansOf 6 = .ok (.bipush 6, 2) := by decide +kernel
theorem dX11_plansOf_8 : decode cX11_plansOf 8 = .ok (.iaload, 1) := by decide +kernel
theorem dX11_plansOf_9 : decode cX11_plansOf 9 = .ok (.iconst 1, 1) := by decide +kernel
theorem dX11_plansOf_10 : decode cX11_plansOf 10 = .ok (.iadd, 1) := by decide +kernel
theorem dX11_plansOf_11 : decode cX11_plansOf 11 = .ok (.invokevirtual 261, 3) := by decide +kernel
theorem dX11_plansOf_14 : decode cX11_plansOf 14 = .ok (.istore_n 2, 1) := by decide +kernel
theorem dX11_plansOf_15 : decode cX11_plansOf 15 = .ok (.iload_n 2, 1) := by decide +kernel
theorem dX11_plansOf_16 : decode cX11_plansOf 16 = .ok (.ifCond .lt 54, 3) := by decide +kernel
theorem dX11_plansOf_19 : decode cX11_plansOf 19 = .ok (.iload_n 2, 1) := by decide +kernel
theorem dX11_plansOf_20 : decode cX11_plansOf 20 = .ok (.bipush 100, 2) := by decide +kernel
theorem dX11_plansOf_22 : decode cX11_plansOf 22 = .ok (.if_icmp .lt 14, 3) := by decide +kernel
theorem dX11_plansOf_25 : decode cX11_plansOf 25 = .ok (.aload_n 0, 1) := by decide +kernel
theorem dX11_plansOf_26 : decode cX11_plansOf 26 = .ok (.iload_n 2, 1) := by decide +kernel
theorem dX11_plansOf_27 : decode cX11_plansOf 27 = .ok (.bipush 100, 2) := by decide +kernel
theorem dX11_plansOf_29 : decode cX11_plansOf 29 = .ok (.isub, 1) := by decide +kernel
theorem dX11_plansOf_30 : decode cX11_plansOf 30 = .ok (.invokevirtual 270, 3) := by decide +kernel
theorem dX11_plansOf_33 : decode cX11_plansOf 33 = .ok (.goto 23, 3) := by decide +kernel
theorem dX11_plansOf_36 : decode cX11_plansOf 36 = .ok (.aload_n 0, 1) := by decide +kernel
theorem dX11_plansOf_37 : decode cX11_plansOf 37 = .ok (.getfield 30, 3) := by decide +kernel
theorem dX11_plansOf_40 : decode cX11_plansOf 40 = .ok (.aload_n 0, 1) := by decide +kernel
theorem dX11_plansOf_41 : decode cX11_plansOf 41 = .ok (.getfield 273, 3) := by decide +kernel
theorem dX11_plansOf_44 : decode cX11_plansOf 44 = .ok (.iload_n 2, 1) := by decide +kernel
theorem dX11_plansOf_45 : decode cX11_plansOf 45 = .ok (.iastore, 1) := by decide +kernel
theorem dX11_plansOf_46 : decode cX11_plansOf 46 = .ok (.aload_n 0, 1) := by decide +kernel
theorem dX11_plansOf_47 : decode cX11_plansOf 47 = .ok (.dup, 1) := by decide +kernel
theorem dX11_plansOf_48 : decode cX11_plansOf 48 = .ok (.getfield 273, 3) := by decide +kernel
theorem dX11_plansOf_51 : decode cX11_plansOf 51 = .ok (.iconst 1, 1) := by decide +kernel
theorem dX11_plansOf_52 : decode cX11_plansOf 52 = .ok (.iadd, 1) := by decide +kernel
theorem dX11_plansOf_53 : decode cX11_plansOf 53 = .ok (.putfield 273, 3) := by decide +kernel
theorem dX11_plansOf_56 : decode cX11_plansOf 56 = .ok (.aload_n 0, 1) := by decide +kernel
theorem dX11_plansOf_57 : decode cX11_plansOf 57 = .ok (.iload_n 1, 1) := by decide +kernel
theorem dX11_plansOf_58 : decode cX11_plansOf 58 = .ok (.aload_n 0, 1) := by decide +kernel
theorem dX11_plansOf_59 : decode cX11_plansOf 59 = .ok (.iload_n 2, 1) := by decide +kernel
theorem dX11_plansOf_60 : decode cX11_plansOf 60 = .ok (.invokevirtual 258, 3) := by decide +kernel
theorem dX11_plansOf_63 : decode cX11_plansOf 63 = .ok (.invokevirtual 261, 3) := by decide +kernel
theorem dX11_plansOf_66 : decode cX11_plansOf 66 = .ok (.istore_n 2, 1) := by decide +kernel
theorem dX11_plansOf_67 : decode cX11_plansOf 67 = .ok (.goto (-52), 3) := by decide +kernel
theorem dX11_plansOf_70 : decode cX11_plansOf 70 = .ok (.return_, 1) := by decide +kernel
theorem dX11_plan_0 : decode cX11_plan 0 = .ok (.aload_n 0, 1) := by decide +kernel
theorem dX11_plan_1 : decode cX11_plan 1 = .ok (.iload_n 1, 1) := by decide +kernel
theorem dX11_plan_2 : decode cX11_plan 2 = .ok (.invokevirtual 50, 3) := by decide +kernel
theorem dX11_plan_5 : decode cX11_plan 5 = .ok (.ifCond .ne 5, 3) := by decide +kernel
theorem dX11_plan_8 : decode cX11_plan 8 = .ok (.iconst (-1), 1) := by decide +kernel
theorem dX11_plan_9 : decode cX11_plan 9 = .ok (.ireturn, 1) := by decide +kernel
theorem dX11_plan_10 : decode cX11_plan 10 = .ok (.aload_n 0, 1) := by decide +kernel
theorem dX11_plan_11 : decode cX11_plan 11 = .ok (.iconst 0, 1) := by decide +kernel
theorem dX11_plan_12 : decode cX11_plan 12 = .ok (.putfield 273, 3) := by decide +kernel
theorem dX11_plan_15 : decode cX11_plan 15 = .ok (.aload_n 0, 1) := by decide +kernel
theorem dX11_plan_16 : decode cX11_plan 16 = .ok (.iload_n 1, 1) := by decide +kernel
theorem dX11_plan_17 : decode cX11_plan 17 = .ok (.invokevirtual 270, 3) := by decide +kernel
theorem dX11_plan_20 : decode cX11_plan 20 = .ok (.iload_n 2, 1) := by decide +kernel
theorem dX11_plan_21 : decode cX11_plan 21 = .ok (.iconst (-1), 1) := by decide +kernel
theorem dX11_plan_22 : decode cX11_plan 22 = .ok (.aload_n 0, 1) := by decide +kernel
theorem dX11_plan_23 : decode cX11_plan 23 = .ok (.getfield 273, 3) := by decide +kernel
theorem dX11_plan_26 : decode cX11_plan 26 = .ok (.iconst 1, 1) := by decide +kernel
theorem dX11_plan_27 : decode cX11_plan 27 = .ok (.isub, 1) := by decide +kernel
theorem dX11_plan_28 : decode cX11_plan 28 = .ok (.invokestatic 46, 3) := by decide +kernel
theorem dX11_plan_31 : decode cX11_plan 31 = .ok (.ifCond .ne 7, 3) := by decide +kernel
theorem dX11_plan_34 : decode cX11_plan 34 = .ok (.iconst (-1), 1) := by decide +kernel
theorem dX11_plan_35 : decode cX11_plan 35 = .ok (.goto 20, 3) := by decide +kernel
theorem dX11_plan_38 : decode cX11_plan 38 = .ok (.iload_n 2, 1) := by decide +kernel
theorem dX11_plan_39 : decode cX11_plan 39 = .ok (.ifCond .ge 10, 3) := by decide +kernel
theorem dX11_plan_42 : decode cX11_plan 42 = .ok (.aload_n 0, 1) := by decide +kernel
theorem dX11_plan_43 : decode cX11_plan 43 = .ok (.getfield 273, 3) := by decide +kernel
theorem dX11_plan_46 : decode cX11_plan 46 = .ok (.goto 9, 3) := by decide +kernel
theorem dX11_plan_49 : decode cX11_plan 49 = .ok (.aload_n 0, 1) := by decide +kernel
theorem dX11_plan_50 : decode cX11_plan 50 = .ok (.getfield 30, 3) := by decide +kernel
theorem dX11_plan_53 : decode cX11_plan 53 = .ok (.iload_n 2, 1) := by decide +kernel
theorem dX11_plan_54 : decode cX11_plan 54 = .ok (.iaload, 1) := by decide +kernel
theorem dX11_plan_55 : decode cX11_plan 55 = .ok (.ireturn, 1) := by decide +kernel
theorem dX11_held_0 : decode cX11_held 0 = .ok (.iconst 0, 1) := by decide +kernel
theorem dX11_held_1 : decode cX11_held 1 = .ok (.istore_n 1, 1) := by decide +kernel
theorem dX11_held_2 : decode cX11_held 2 = .ok (.iconst 0, 1) := by decide +kernel
theorem dX11_held_3 : decode cX11_held 3 = .ok (.istore_n 2, 1) := by decide +kernel
theorem dX11_held_4 : decode cX11_held 4 = .ok (.iload_n 2, 1) := by decide +kernel
theorem dX11_held_5 : decode cX11_held 5 = .ok (.aload_n 0, 1) := by decide +kernel
theorem dX11_held_6 : decode cX11_held 6 = .ok (.getfield 11, 3) := by decide +kernel
theorem dX11_held_9 : decode cX11_held 9 = .ok (.iconst 1, 1) := by decide +kernel
theorem dX11_held_10 : decode cX11_held 10 = .ok (.iaload, 1) := by decide +kernel
theorem dX11_held_11 : decode cX11_held 11 = .ok (.if_icmp .ge 25, 3) := by decide +kernel
theorem dX11_held_14 : decode cX11_held 14 = .ok (.iload_n 1, 1) := by decide +kernel
theorem dX11_held_15 : decode cX11_held 15 = .ok (.aload_n 0, 1) := by decide +kernel
theorem dX11_held_16 : decode cX11_held 16 = .ok (.iload_n 2, 1) := by decide +kernel
theorem dX11_held_17 : decode cX11_held 17 = .ok (.invokevirtual 119, 3) := by decide +kernel
theorem dX11_held_20 : decode cX11_held 20 = .ok (.ifCond .eq 7, 3) := by decide +kernel
theorem dX11_held_23 : decode cX11_held 23 = .ok (.iconst 1, 1) := by decide +kernel
theorem dX11_held_24 : decode cX11_held 24 = .ok (.goto 4, 3) := by decide +kernel
theorem dX11_held_27 : decode cX11_held 27 = .ok (.iconst 0, 1) := by decide +kernel
theorem dX11_held_28 : decode cX11_held 28 = .ok (.iadd, 1) := by decide +kernel
theorem dX11_held_29 : decode cX11_held 29 = .ok (.istore_n 1, 1) := by decide +kernel
theorem dX11_held_30 : decode cX11_held 30 = .ok (.iinc 2 1, 3) := by decide +kernel
theorem dX11_held_33 : decode cX11_held 33 = .ok (.goto (-29), 3) := by decide +kernel
theorem dX11_held_36 : decode cX11_held 36 = .ok (.iload_n 1, 1) := by decide +kernel
theorem dX11_held_37 : decode cX11_held 37 = .ok (.ireturn, 1) := by decide +kernel
theorem dX11_wouldNow_0 : decode cX11_wouldNow 0 = .ok (.iload_n 1, 1) := by decide +kernel
theorem dX11_wouldNow_1 : decode cX11_wouldNow 1 = .ok (.tableswitch 114 0 4 #[35, 42, 64, 86, 100], 35) := by decide +kernel
theorem dX11_wouldNow_36 : decode cX11_wouldNow 36 = .ok (.aload_n 0, 1) := by decide +kernel
theorem dX11_wouldNow_37 : decode cX11_wouldNow 37 = .ok (.getfield 11, 3) := by decide +kernel
theorem dX11_wouldNow_40 : decode cX11_wouldNow 40 = .ok (.iconst 5, 1) := by decide +kernel
theorem dX11_wouldNow_41 : decode cX11_wouldNow 41 = .ok (.iaload, 1) := by decide +kernel
theorem dX11_wouldNow_42 : decode cX11_wouldNow 42 = .ok (.ireturn, 1) := by decide +kernel
theorem dX11_wouldNow_43 : decode cX11_wouldNow 43 = .ok (.aload_n 0, 1) := by decide +kernel
theorem dX11_wouldNow_44 : decode cX11_wouldNow 44 = .ok (.getfield 11, 3) := by decide +kernel
theorem dX11_wouldNow_47 : decode cX11_wouldNow 47 = .ok (.iconst 5, 1) := by decide +kernel
theorem dX11_wouldNow_48 : decode cX11_wouldNow 48 = .ok (.iaload, 1) := by decide +kernel
theorem dX11_wouldNow_49 : decode cX11_wouldNow 49 = .ok (.ifCond .ne 7, 3) := by decide +kernel
theorem dX11_wouldNow_52 : decode cX11_wouldNow 52 = .ok (.iconst 0, 1) := by decide +kernel
theorem dX11_wouldNow_53 : decode cX11_wouldNow 53 = .ok (.goto 11, 3) := by decide +kernel
theorem dX11_wouldNow_56 : decode cX11_wouldNow 56 = .ok (.aload_n 0, 1) := by decide +kernel
theorem dX11_wouldNow_57 : decode cX11_wouldNow 57 = .ok (.getfield 11, 3) := by decide +kernel
theorem dX11_wouldNow_60 : decode cX11_wouldNow 60 = .ok (.sipush 2688, 3) := by decide +kernel
theorem dX11_wouldNow_63 : decode cX11_wouldNow 63 = .ok (.iaload, 1) := by decide +kernel
theorem dX11_wouldNow_64 : decode cX11_wouldNow 64 = .ok (.ireturn, 1) := by decide +kernel
theorem dX11_wouldNow_65 : decode cX11_wouldNow 65 = .ok (.aload_n 0, 1) := by decide +kernel
theorem dX11_wouldNow_66 : decode cX11_wouldNow 66 = .ok (.getfield 11, 3) := by decide +kernel
theorem dX11_wouldNow_69 : decode cX11_wouldNow 69 = .ok (.iconst 5, 1) := by decide +kernel
theorem dX11_wouldNow_70 : decode cX11_wouldNow 70 = .ok (.iaload, 1) := by decide +kernel
theorem dX11_wouldNow_71 : decode cX11_wouldNow 71 = .ok (.ifCond .ne 7, 3) := by decide +kernel
theorem dX11_wouldNow_74 : decode cX11_wouldNow 74 = .ok (.iconst (-1), 1) := by decide +kernel
theorem dX11_wouldNow_75 : decode cX11_wouldNow 75 = .ok (.goto 11, 3) := by decide +kernel
theorem dX11_wouldNow_78 : decode cX11_wouldNow 78 = .ok (.aload_n 0, 1) := by decide +kernel
theorem dX11_wouldNow_79 : decode cX11_wouldNow 79 = .ok (.getfield 11, 3) := by decide +kernel
theorem dX11_wouldNow_82 : decode cX11_wouldNow 82 = .ok (.sipush 2689, 3) := by decide +kernel
theorem dX11_wouldNow_85 : decode cX11_wouldNow 85 = .ok (.iaload, 1) := by decide +kernel
theorem dX11_wouldNow_86 : decode cX11_wouldNow 86 = .ok (.ireturn, 1) := by decide +kernel
theorem dX11_wouldNow_87 : decode cX11_wouldNow 87 = .ok (.aload_n 0, 1) := by decide +kernel
theorem dX11_wouldNow_88 : decode cX11_wouldNow 88 = .ok (.getfield 11, 3) := by decide +kernel
theorem dX11_wouldNow_91 : decode cX11_wouldNow 91 = .ok (.iconst 2, 1) := by decide +kernel
theorem dX11_wouldNow_92 : decode cX11_wouldNow 92 = .ok (.iaload, 1) := by decide +kernel
theorem dX11_wouldNow_93 : decode cX11_wouldNow 93 = .ok (.aload_n 0, 1) := by decide +kernel
theorem dX11_wouldNow_94 : decode cX11_wouldNow 94 = .ok (.getfield 18, 3) := by decide +kernel
theorem dX11_wouldNow_97 : decode cX11_wouldNow 97 = .ok (.iconst 2, 1) := by decide +kernel
theorem dX11_wouldNow_98 : decode cX11_wouldNow 98 = .ok (.iaload, 1) := by decide +kernel
theorem dX11_wouldNow_99 : decode cX11_wouldNow 99 = .ok (.isub, 1) := by decide +kernel
theorem dX11_wouldNow_100 : decode cX11_wouldNow 100 = .ok (.ireturn, 1) := by decide +kernel
theorem dX11_wouldNow_101 : decode cX11_wouldNow 101 = .ok (.aload_n 0, 1) := by decide +kernel
theorem dX11_wouldNow_102 : decode cX11_wouldNow 102 = .ok (.getfield 11, 3) := by decide +kernel
theorem dX11_wouldNow_105 : decode cX11_wouldNow 105 = .ok (.iconst 1, 1) := by decide +kernel
theorem dX11_wouldNow_106 : decode cX11_wouldNow 106 = .ok (.iaload, 1) := by decide +kernel
theorem dX11_wouldNow_107 : decode cX11_wouldNow 107 = .ok (.aload_n 0, 1) := by decide +kernel
theorem dX11_wouldNow_108 : decode cX11_wouldNow 108 = .ok (.getfield 18, 3) := by decide +kernel
theorem dX11_wouldNow_111 : decode cX11_wouldNow 111 = .ok (.iconst 1, 1) := by decide +kernel
theorem dX11_wouldNow_112 : decode cX11_wouldNow 112 = .ok (.iaload, 1) := by decide +kernel
theorem dX11_wouldNow_113 : decode cX11_wouldNow 113 = .ok (.isub, 1) := by decide +kernel
theorem dX11_wouldNow_114 : decode cX11_wouldNow 114 = .ok (.ireturn, 1) := by decide +kernel
theorem dX11_wouldNow_115 : decode cX11_wouldNow 115 = .ok (.aload_n 0, 1) := by decide +kernel
theorem dX11_wouldNow_116 : decode cX11_wouldNow 116 = .ok (.invokevirtual 276, 3) := by decide +kernel
theorem dX11_wouldNow_119 : decode cX11_wouldNow 119 = .ok (.ireturn, 1) := by decide +kernel
theorem dX11_would_0 : decode cX11_would 0 = .ok (.aload_n 0, 1) := by decide +kernel
theorem dX11_would_1 : decode cX11_would 1 = .ok (.iload_n 1, 1) := by decide +kernel
theorem dX11_would_2 : decode cX11_would 2 = .ok (.invokevirtual 50, 3) := by decide +kernel
theorem dX11_would_5 : decode cX11_would 5 = .ok (.ifCond .eq 12, 3) := by decide +kernel
theorem dX11_would_8 : decode cX11_would 8 = .ok (.iload_n 2, 1) := by decide +kernel
theorem dX11_would_9 : decode cX11_would 9 = .ok (.iconst 0, 1) := by decide +kernel
theorem dX11_would_10 : decode cX11_would 10 = .ok (.iconst 5, 1) := by decide +kernel
theorem dX11_would_11 : decode cX11_would 11 = .ok (.invokestatic 46, 3) := by decide +kernel
theorem dX11_would_14 : decode cX11_would 14 = .ok (.ifCond .ne 5, 3) := by decide +kernel
theorem dX11_would_17 : decode cX11_would 17 = .ok (.iconst (-1), 1) := by decide +kernel
theorem dX11_would_18 : decode cX11_would 18 = .ok (.ireturn, 1) := by decide +kernel
theorem dX11_would_19 : decode cX11_would 19 = .ok (.aload_n 0, 1) := by decide +kernel
theorem dX11_would_20 : decode cX11_would 20 = .ok (.iload_n 1, 1) := by decide +kernel
theorem dX11_would_21 : decode cX11_would 21 = .ok (.invokevirtual 146, 3) := by decide +kernel
theorem dX11_would_24 : decode cX11_would 24 = .ok (.ifCond .ne 6, 3) := by decide +kernel
theorem dX11_would_27 : decode cX11_would 27 = .ok (.bipush (-3), 2) := by decide +kernel
theorem dX11_would_29 : decode cX11_would 29 = .ok (.ireturn, 1) := by decide +kernel
theorem dX11_would_30 : decode cX11_would 30 = .ok (.aload_n 0, 1) := by decide +kernel
theorem dX11_would_31 : decode cX11_would 31 = .ok (.getfield 11, 3) := by decide +kernel
theorem dX11_would_34 : decode cX11_would 34 = .ok (.aload_n 0, 1) := by decide +kernel
theorem dX11_would_35 : decode cX11_would 35 = .ok (.getfield 18, 3) := by decide +kernel
theorem dX11_would_38 : decode cX11_would 38 = .ok (.invokestatic 279, 3) := by decide +kernel
theorem dX11_would_41 : decode cX11_would 41 = .ok (.aload_n 0, 1) := by decide +kernel
theorem dX11_would_42 : decode cX11_would 42 = .ok (.iload_n 1, 1) := by decide +kernel
theorem dX11_would_43 : decode cX11_would 43 = .ok (.invokevirtual 283, 3) := by decide +kernel
theorem dX11_would_46 : decode cX11_would 46 = .ok (.pop, 1) := by decide +kernel
theorem dX11_would_47 : decode cX11_would 47 = .ok (.aload_n 0, 1) := by decide +kernel
theorem dX11_would_48 : decode cX11_would 48 = .ok (.iload_n 2, 1) := by decide +kernel
theorem dX11_would_49 : decode cX11_would 49 = .ok (.invokevirtual 286, 3) := by decide +kernel
theorem dX11_would_52 : decode cX11_would 52 = .ok (.istore_n 3, 1) := by decide +kernel
theorem dX11_would_53 : decode cX11_would 53 = .ok (.aload_n 0, 1) := by decide +kernel
theorem dX11_would_54 : decode cX11_would 54 = .ok (.getfield 18, 3) := by decide +kernel
theorem dX11_would_57 : decode cX11_would 57 = .ok (.aload_n 0, 1) := by decide +kernel
theorem dX11_would_58 : decode cX11_would 58 = .ok (.getfield 11, 3) := by decide +kernel
theorem dX11_would_61 : decode cX11_would 61 = .ok (.invokestatic 279, 3) := by decide +kernel
theorem dX11_would_64 : decode cX11_would 64 = .ok (.iload_n 3, 1) := by decide +kernel
theorem dX11_would_65 : decode cX11_would 65 = .ok (.ireturn, 1) := by decide +kernel
theorem dX11_trialNow_0 : decode cX11_trialNow 0 = .ok (.iload_n 2, 1) := by decide +kernel
theorem dX11_trialNow_1 : decode cX11_trialNow 1 = .ok (.tableswitch 105 0 4 #[35, 41, 61, 81, 93], 35) := by decide +kernel
theorem dX11_trialNow_36 : decode cX11_trialNow 36 = .ok (.aload_n 0, 1) := by decide +kernel
theorem dX11_trialNow_37 : decode cX11_trialNow 37 = .ok (.iload_n 1, 1) := by decide +kernel
theorem dX11_trialNow_38 : decode cX11_trialNow 38 = .ok (.invokevirtual 232, 3) := by decide +kernel
theorem dX11_trialNow_41 : decode cX11_trialNow 41 = .ok (.ireturn, 1) := by decide +kernel
theorem dX11_trialNow_42 : decode cX11_trialNow 42 = .ok (.aload_n 0, 1) := by decide +kernel
theorem dX11_trialNow_43 : decode cX11_trialNow 43 = .ok (.iload_n 1, 1) := by decide +kernel
theorem dX11_trialNow_44 : decode cX11_trialNow 44 = .ok (.invokevirtual 232, 3) := by decide +kernel
theorem dX11_trialNow_47 : decode cX11_trialNow 47 = .ok (.ifCond .ne 7, 3) := by decide +kernel
theorem dX11_trialNow_50 : decode cX11_trialNow 50 = .ok (.iconst 0, 1) := by decide +kernel
theorem dX11_trialNow_51 : decode cX11_trialNow 51 = .ok (.goto 10, 3) := by decide +kernel
theorem dX11_trialNow_54 : decode cX11_trialNow 54 = .ok (.aload_n 0, 1) := by decide +kernel
theorem dX11_trialNow_55 : decode cX11_trialNow 55 = .ok (.iload_n 1, 1) := by decide +kernel
theorem dX11_trialNow_56 : decode cX11_trialNow 56 = .ok (.iconst 0, 1) := by decide +kernel
theorem dX11_trialNow_57 : decode cX11_trialNow 57 = .ok (.iconst 0, 1) := by decide +kernel
theorem dX11_trialNow_58 : decode cX11_trialNow 58 = .ok (.invokevirtual 235, 3) := by decide +kernel
theorem dX11_trialNow_61 : decode cX11_trialNow 61 = .ok (.ireturn, 1) := by decide +kernel
theorem dX11_trialNow_62 : decode cX11_trialNow 62 = .ok (.aload_n 0, 1) := by decide +kernel
theorem dX11_trialNow_63 : decode cX11_trialNow 63 = .ok (.iload_n 1, 1) := by decide +kernel
theorem dX11_trialNow_64 : decode cX11_trialNow 64 = .ok (.invokevirtual 232, 3) := by decide +kernel
theorem dX11_trialNow_67 : decode cX11_trialNow 67 = .ok (.ifCond .ne 7, 3) := by decide +kernel
theorem dX11_trialNow_70 : decode cX11_trialNow 70 = .ok (.iconst (-1), 1) := by decide +kernel
theorem dX11_trialNow_71 : decode cX11_trialNow 71 = .ok (.goto 10, 3) := by decide +kernel
theorem dX11_trialNow_74 : decode cX11_trialNow 74 = .ok (.aload_n 0, 1) := by decide +kernel
theorem dX11_trialNow_75 : decode cX11_trialNow 75 = .ok (.iload_n 1, 1) := by decide +kernel
theorem dX11_trialNow_76 : decode cX11_trialNow 76 = .ok (.iconst 0, 1) := by decide +kernel
theorem dX11_trialNow_77 : decode cX11_trialNow 77 = .ok (.iconst 1, 1) := by decide +kernel
theorem dX11_trialNow_78 : decode cX11_trialNow 78 = .ok (.invokevirtual 235, 3) := by decide +kernel
theorem dX11_trialNow_81 : decode cX11_trialNow 81 = .ok (.ireturn, 1) := by decide +kernel
theorem dX11_trialNow_82 : decode cX11_trialNow 82 = .ok (.aload_n 0, 1) := by decide +kernel
theorem dX11_trialNow_83 : decode cX11_trialNow 83 = .ok (.getfield 11, 3) := by decide +kernel
theorem dX11_trialNow_86 : decode cX11_trialNow 86 = .ok (.iload_n 1, 1) := by decide +kernel
theorem dX11_trialNow_87 : decode cX11_trialNow 87 = .ok (.iconst 2, 1) := by decide +kernel
theorem dX11_trialNow_88 : decode cX11_trialNow 88 = .ok (.iconst 0, 1) := by decide +kernel
theorem dX11_trialNow_89 : decode cX11_trialNow 89 = .ok (.invokestatic 58, 3) := by decide +kernel
theorem dX11_trialNow_92 : decode cX11_trialNow 92 = .ok (.iaload, 1) := by decide +kernel
theorem dX11_trialNow_93 : decode cX11_trialNow 93 = .ok (.ireturn, 1) := by decide +kernel
theorem dX11_trialNow_94 : decode cX11_trialNow 94 = .ok (.aload_n 0, 1) := by decide +kernel
theorem dX11_trialNow_95 : decode cX11_trialNow 95 = .ok (.getfield 11, 3) := by decide +kernel
theorem dX11_trialNow_98 : decode cX11_trialNow 98 = .ok (.iload_n 1, 1) := by decide +kernel
theorem dX11_trialNow_99 : decode cX11_trialNow 99 = .ok (.iconst 4, 1) := by decide +kernel
theorem dX11_trialNow_100 : decode cX11_trialNow 100 = .ok (.iconst 0, 1) := by decide +kernel
theorem dX11_trialNow_101 : decode cX11_trialNow 101 = .ok (.invokestatic 58, 3) := by decide +kernel
theorem dX11_trialNow_104 : decode cX11_trialNow 104 = .ok (.iaload, 1) := by decide +kernel
theorem dX11_trialNow_105 : decode cX11_trialNow 105 = .ok (.ireturn, 1) := by decide +kernel
theorem dX11_trialNow_106 : decode cX11_trialNow 106 = .ok (.aload_n 0, 1) := by decide +kernel
theorem dX11_trialNow_107 : decode cX11_trialNow 107 = .ok (.getfield 11, 3) := by decide +kernel
theorem dX11_trialNow_110 : decode cX11_trialNow 110 = .ok (.iconst 2, 1) := by decide +kernel
theorem dX11_trialNow_111 : decode cX11_trialNow 111 = .ok (.iaload, 1) := by decide +kernel
theorem dX11_trialNow_112 : decode cX11_trialNow 112 = .ok (.ireturn, 1) := by decide +kernel
theorem dX11_trial_0 : decode cX11_trial 0 = .ok (.aload_n 0, 1) := by decide +kernel
theorem dX11_trial_1 : decode cX11_trial 1 = .ok (.iload_n 1, 1) := by decide +kernel
theorem dX11_trial_2 : decode cX11_trial 2 = .ok (.invokevirtual 180, 3) := by decide +kernel
theorem dX11_trial_5 : decode cX11_trial 5 = .ok (.ifCond .eq 12, 3) := by decide +kernel
theorem dX11_trial_8 : decode cX11_trial 8 = .ok (.iload_n 3, 1) := by decide +kernel
theorem dX11_trial_9 : decode cX11_trial 9 = .ok (.iconst 0, 1) := by decide +kernel
theorem dX11_trial_10 : decode cX11_trial 10 = .ok (.iconst 5, 1) := by decide +kernel
theorem dX11_trial_11 : decode cX11_trial 11 = .ok (.invokestatic 46, 3) := by decide +kernel
theorem dX11_trial_14 : decode cX11_trial 14 = .ok (.ifCond .ne 5, 3) := by decide +kernel
theorem dX11_trial_17 : decode cX11_trial 17 = .ok (.iconst (-1), 1) := by decide +kernel
theorem dX11_trial_18 : decode cX11_trial 18 = .ok (.ireturn, 1) := by decide +kernel
theorem dX11_trial_19 : decode cX11_trial 19 = .ok (.iload_n 2, 1) := by decide +kernel
theorem dX11_trial_20 : decode cX11_trial 20 = .ok (.iconst 0, 1) := by decide +kernel
theorem dX11_trial_21 : decode cX11_trial 21 = .ok (.bipush 100, 2) := by decide +kernel
theorem dX11_trial_23 : decode cX11_trial 23 = .ok (.invokestatic 46, 3) := by decide +kernel
theorem dX11_trial_26 : decode cX11_trial 26 = .ok (.ifCond .ne 6, 3) := by decide +kernel
theorem dX11_trial_29 : decode cX11_trial 29 = .ok (.bipush (-2), 2) := by decide +kernel
theorem dX11_trial_31 : decode cX11_trial 31 = .ok (.ireturn, 1) := by decide +kernel
theorem dX11_trial_32 : decode cX11_trial 32 = .ok (.aload_n 0, 1) := by decide +kernel
theorem dX11_trial_33 : decode cX11_trial 33 = .ok (.getfield 11, 3) := by decide +kernel
theorem dX11_trial_36 : decode cX11_trial 36 = .ok (.aload_n 0, 1) := by decide +kernel
theorem dX11_trial_37 : decode cX11_trial 37 = .ok (.getfield 18, 3) := by decide +kernel
theorem dX11_trial_40 : decode cX11_trial 40 = .ok (.invokestatic 279, 3) := by decide +kernel
theorem dX11_trial_43 : decode cX11_trial 43 = .ok (.aload_n 0, 1) := by decide +kernel
theorem dX11_trial_44 : decode cX11_trial 44 = .ok (.iload_n 2, 1) := by decide +kernel
theorem dX11_trial_45 : decode cX11_trial 45 = .ok (.invokevirtual 214, 3) := by decide +kernel
theorem dX11_trial_48 : decode cX11_trial 48 = .ok (.pop, 1) := by decide +kernel
theorem dX11_trial_49 : decode cX11_trial 49 = .ok (.aload_n 0, 1) := by decide +kernel
theorem dX11_trial_50 : decode cX11_trial 50 = .ok (.iload_n 1, 1) := by decide +kernel
theorem dX11_trial_51 : decode cX11_trial 51 = .ok (.iload_n 3, 1) := by decide +kernel
theorem dX11_trial_52 : decode cX11_trial 52 = .ok (.invokevirtual 289, 3) := by decide +kernel
theorem dX11_trial_55 : decode cX11_trial 55 = .ok (.istore 4, 2) := by decide +kernel
theorem dX11_trial_57 : decode cX11_trial 57 = .ok (.aload_n 0, 1) := by decide +kernel
theorem dX11_trial_58 : decode cX11_trial 58 = .ok (.getfield 18, 3) := by decide +kernel
theorem dX11_trial_61 : decode cX11_trial 61 = .ok (.aload_n 0, 1) := by decide +kernel
theorem dX11_trial_62 : decode cX11_trial 62 = .ok (.getfield 11, 3) := by decide +kernel
theorem dX11_trial_65 : decode cX11_trial 65 = .ok (.invokestatic 279, 3) := by decide +kernel
theorem dX11_trial_68 : decode cX11_trial 68 = .ok (.iload 4, 2) := by decide +kernel
theorem dX11_trial_70 : decode cX11_trial 70 = .ok (.ireturn, 1) := by decide +kernel
theorem dX11_log_0 : decode cX11_log 0 = .ok (.iload_n 1, 1) := by decide +kernel
theorem dX11_log_1 : decode cX11_log 1 = .ok (.iconst 0, 1) := by decide +kernel
theorem dX11_log_2 : decode cX11_log 2 = .ok (.aload_n 0, 1) := by decide +kernel
theorem dX11_log_3 : decode cX11_log 3 = .ok (.getfield 11, 3) := by decide +kernel
theorem dX11_log_6 : decode cX11_log 6 = .ok (.iconst 2, 1) := by decide +kernel
theorem dX11_log_7 : decode cX11_log 7 = .ok (.iaload, 1) := by decide +kernel
theorem dX11_log_8 : decode cX11_log 8 = .ok (.iconst 1, 1) := by decide +kernel
theorem dX11_log_9 : decode cX11_log 9 = .ok (.isub, 1) := by decide +kernel
theorem dX11_log_10 : decode cX11_log 10 = .ok (.invokestatic 46, 3) := by decide +kernel
theorem dX11_log_13 : decode cX11_log 13 = .ok (.ifCond .eq 16, 3) := by decide +kernel
theorem dX11_log_16 : decode cX11_log 16 = .ok (.aload_n 0, 1) := by decide +kernel
theorem dX11_log_17 : decode cX11_log 17 = .ok (.getfield 11, 3) := by decide +kernel
theorem dX11_log_20 : decode cX11_log 20 = .ok (.sipush 1518, 3) := by decide +kernel
theorem dX11_log_23 : decode cX11_log 23 = .ok (.iload_n 1, 1) := by decide +kernel
theorem dX11_log_24 : decode cX11_log 24 = .ok (.iadd, 1) := by decide +kernel
theorem dX11_log_25 : decode cX11_log 25 = .ok (.iaload, 1) := by decide +kernel
theorem dX11_log_26 : decode cX11_log 26 = .ok (.goto 4, 3) := by decide +kernel
theorem dX11_log_29 : decode cX11_log 29 = .ok (.iconst (-1), 1) := by decide +kernel
theorem dX11_log_30 : decode cX11_log 30 = .ok (.ireturn, 1) := by decide +kernel
theorem dX11_opened_0 : decode cX11_opened 0 = .ok (.iconst 0, 1) := by decide +kernel
theorem dX11_opened_1 : decode cX11_opened 1 = .ok (.istore_n 1, 1) := by decide +kernel
theorem dX11_opened_2 : decode cX11_opened 2 = .ok (.iconst 0, 1) := by decide +kernel
theorem dX11_opened_3 : decode cX11_opened 3 = .ok (.istore_n 2, 1) := by decide +kernel
theorem dX11_opened_4 : decode cX11_opened 4 = .ok (.iload_n 2, 1) := by decide +kernel
theorem dX11_opened_5 : decode cX11_opened 5 = .ok (.aload_n 0, 1) := by decide +kernel
theorem dX11_opened_6 : decode cX11_opened 6 = .ok (.getfield 11, 3) := by decide +kernel
theorem dX11_opened_9 : decode cX11_opened 9 = .ok (.iconst 0, 1) := by decide +kernel
theorem dX11_opened_10 : decode cX11_opened 10 = .ok (.iaload, 1) := by decide +kernel
theorem dX11_opened_11 : decode cX11_opened 11 = .ok (.if_icmp .ge 25, 3) := by decide +kernel
theorem dX11_opened_14 : decode cX11_opened 14 = .ok (.iload_n 1, 1) := by decide +kernel
theorem dX11_opened_15 : decode cX11_opened 15 = .ok (.aload_n 0, 1) := by decide +kernel
theorem dX11_opened_16 : decode cX11_opened 16 = .ok (.iload_n 2, 1) := by decide +kernel
theorem dX11_opened_17 : decode cX11_opened 17 = .ok (.invokevirtual 146, 3) := by decide +kernel
theorem dX11_opened_20 : decode cX11_opened 20 = .ok (.ifCond .eq 7, 3) := by decide +kernel
theorem dX11_opened_23 : decode cX11_opened 23 = .ok (.iconst 1, 1) := by decide +kernel
theorem dX11_opened_24 : decode cX11_opened 24 = .ok (.goto 4, 3) := by decide +kernel
theorem dX11_opened_27 : decode cX11_opened 27 = .ok (.iconst 0, 1) := by decide +kernel
theorem dX11_opened_28 : decode cX11_opened 28 = .ok (.iadd, 1) := by decide +kernel
theorem dX11_opened_29 : decode cX11_opened 29 = .ok (.istore_n 1, 1) := by decide +kernel
theorem dX11_opened_30 : decode cX11_opened 30 = .ok (.iinc 2 1, 3) := by decide +kernel
theorem dX11_opened_33 : decode cX11_opened 33 = .ok (.goto (-29), 3) := by decide +kernel
theorem dX11_opened_36 : decode cX11_opened 36 = .ok (.iload_n 1, 1) := by decide +kernel
theorem dX11_opened_37 : decode cX11_opened 37 = .ok (.ireturn, 1) := by decide +kernel
theorem dX11_readyOnes_0 : decode cX11_readyOnes 0 = .ok (.iconst 0, 1) := by decide +kernel
theorem dX11_readyOnes_1 : decode cX11_readyOnes 1 = .ok (.istore_n 1, 1) := by decide +kernel
theorem dX11_readyOnes_2 : decode cX11_readyOnes 2 = .ok (.iconst 0, 1) := by decide +kernel
theorem dX11_readyOnes_3 : decode cX11_readyOnes 3 = .ok (.istore_n 2, 1) := by decide +kernel
theorem dX11_readyOnes_4 : decode cX11_readyOnes 4 = .ok (.iload_n 2, 1) := by decide +kernel
theorem dX11_readyOnes_5 : decode cX11_readyOnes 5 = .ok (.aload_n 0, 1) := by decide +kernel
theorem dX11_readyOnes_6 : decode cX11_readyOnes 6 = .ok (.getfield 11, 3) := by decide +kernel
theorem dX11_readyOnes_9 : decode cX11_readyOnes 9 = .ok (.iconst 3, 1) := by decide +kernel
theorem dX11_readyOnes_10 : decode cX11_readyOnes 10 = .ok (.iaload, 1) := by decide +kernel
theorem dX11_readyOnes_11 : decode cX11_readyOnes 11 = .ok (.if_icmp .ge 25, 3) := by decide +kernel
theorem dX11_readyOnes_14 : decode cX11_readyOnes 14 = .ok (.iload_n 1, 1) := by decide +kernel
theorem dX11_readyOnes_15 : decode cX11_readyOnes 15 = .ok (.aload_n 0, 1) := by decide +kernel
theorem dX11_readyOnes_16 : decode cX11_readyOnes 16 = .ok (.iload_n 2, 1) := by decide +kernel
theorem dX11_readyOnes_17 : decode cX11_readyOnes 17 = .ok (.invokevirtual 183, 3) := by decide +kernel
theorem dX11_readyOnes_20 : decode cX11_readyOnes 20 = .ok (.ifCond .eq 7, 3) := by decide +kernel
theorem dX11_readyOnes_23 : decode cX11_readyOnes 23 = .ok (.iconst 1, 1) := by decide +kernel
theorem dX11_readyOnes_24 : decode cX11_readyOnes 24 = .ok (.goto 4, 3) := by decide +kernel
theorem dX11_readyOnes_27 : decode cX11_readyOnes 27 = .ok (.iconst 0, 1) := by decide +kernel
theorem dX11_readyOnes_28 : decode cX11_readyOnes 28 = .ok (.iadd, 1) := by decide +kernel
theorem dX11_readyOnes_29 : decode cX11_readyOnes 29 = .ok (.istore_n 1, 1) := by decide +kernel
theorem dX11_readyOnes_30 : decode cX11_readyOnes 30 = .ok (.iinc 2 1, 3) := by decide +kernel
theorem dX11_readyOnes_33 : decode cX11_readyOnes 33 = .ok (.goto (-29), 3) := by decide +kernel
theorem dX11_readyOnes_36 : decode cX11_readyOnes 36 = .ok (.iload_n 1, 1) := by decide +kernel
theorem dX11_readyOnes_37 : decode cX11_readyOnes 37 = .ok (.ireturn, 1) := by decide +kernel
theorem dX11_told_0 : decode cX11_told 0 = .ok (.iload_n 1, 1) := by decide +kernel
theorem dX11_told_1 : decode cX11_told 1 = .ok (.tableswitch 116 0 9 #[55, 62, 67, 74, 79, 86, 91, 99, 106, 111], 55) := by decide +kernel
theorem dX11_told_56 : decode cX11_told 56 = .ok (.aload_n 0, 1) := by decide +kernel
theorem dX11_told_57 : decode cX11_told 57 = .ok (.getfield 11, 3) := by decide +kernel
theorem dX11_told_60 : decode cX11_told 60 = .ok (.iconst 0, 1) := by decide +kernel
theorem dX11_told_61 : decode cX11_told 61 = .ok (.iaload, 1) := by decide +kernel
theorem dX11_told_62 : decode cX11_told 62 = .ok (.ireturn, 1) := by decide +kernel
theorem dX11_told_63 : decode cX11_told 63 = .ok (.aload_n 0, 1) := by decide +kernel
theorem dX11_told_64 : decode cX11_told 64 = .ok (.invokevirtual 292, 3) := by decide +kernel
theorem dX11_told_67 : decode cX11_told 67 = .ok (.ireturn, 1) := by decide +kernel
theorem dX11_told_68 : decode cX11_told 68 = .ok (.aload_n 0, 1) := by decide +kernel
theorem dX11_told_69 : decode cX11_told 69 = .ok (.getfield 11, 3) := by decide +kernel
theorem dX11_told_72 : decode cX11_told 72 = .ok (.iconst 1, 1) := by decide +kernel
theorem dX11_told_73 : decode cX11_told 73 = .ok (.iaload, 1) := by decide +kernel
theorem dX11_told_74 : decode cX11_told 74 = .ok (.ireturn, 1) := by decide +kernel
theorem dX11_told_75 : decode cX11_told 75 = .ok (.aload_n 0, 1) := by decide +kernel
theorem dX11_told_76 : decode cX11_told 76 = .ok (.invokevirtual 276, 3) := by decide +kernel
theorem dX11_told_79 : decode cX11_told 79 = .ok (.ireturn, 1) := by decide +kernel
theorem dX11_told_80 : decode cX11_told 80 = .ok (.aload_n 0, 1) := by decide +kernel
theorem dX11_told_81 : decode cX11_told 81 = .ok (.getfield 11, 3) := by decide +kernel
theorem dX11_told_84 : decode cX11_told 84 = .ok (.iconst 3, 1) := by decide +kernel
theorem dX11_told_85 : decode cX11_told 85 = .ok (.iaload, 1) := by decide +kernel
theorem dX11_told_86 : decode cX11_told 86 = .ok (.ireturn, 1) := by decide +kernel
theorem dX11_told_87 : decode cX11_told 87 = .ok (.aload_n 0, 1) := by decide +kernel
theorem dX11_told_88 : decode cX11_told 88 = .ok (.invokevirtual 295, 3) := by decide +kernel
theorem dX11_told_91 : decode cX11_told 91 = .ok (.ireturn, 1) := by decide +kernel
theorem dX11_told_92 : decode cX11_told 92 = .ok (.aload_n 0, 1) := by decide +kernel
theorem dX11_told_93 : decode cX11_told 93 = .ok (.getfield 11, 3) := by decide +kernel
theorem dX11_told_96 : decode cX11_told 96 = .ok (.bipush 7, 2) := by decide +kernel
theorem dX11_told_98 : decode cX11_told 98 = .ok (.iaload, 1) := by decide +kernel
theorem dX11_told_99 : decode cX11_told 99 = .ok (.ireturn, 1) := by decide +kernel
theorem dX11_told_100 : decode cX11_told 100 = .ok (.aload_n 0, 1) := by decide +kernel
theorem dX11_told_101 : decode cX11_told 101 = .ok (.getfield 11, 3) := by decide +kernel
theorem dX11_told_104 : decode cX11_told 104 = .ok (.iconst 2, 1) := by decide +kernel
theorem dX11_told_105 : decode cX11_told 105 = .ok (.iaload, 1) := by decide +kernel
theorem dX11_told_106 : decode cX11_told 106 = .ok (.ireturn, 1) := by decide +kernel
theorem dX11_told_107 : decode cX11_told 107 = .ok (.aload_n 0, 1) := by decide +kernel
theorem dX11_told_108 : decode cX11_told 108 = .ok (.getfield 61, 3) := by decide +kernel
theorem dX11_told_111 : decode cX11_told 111 = .ok (.ireturn, 1) := by decide +kernel
theorem dX11_told_112 : decode cX11_told 112 = .ok (.aload_n 0, 1) := by decide +kernel
theorem dX11_told_113 : decode cX11_told 113 = .ok (.getfield 298, 3) := by decide +kernel
theorem dX11_told_116 : decode cX11_told 116 = .ok (.ireturn, 1) := by decide +kernel
theorem dX11_told_117 : decode cX11_told 117 = .ok (.iconst (-1), 1) := by decide +kernel
theorem dX11_told_118 : decode cX11_told 118 = .ok (.ireturn, 1) := by decide +kernel
theorem dX11_spells_0 : decode cX11_spells 0 = .ok (.aload_n 0, 1) := by decide +kernel
theorem dX11_spells_1 : decode cX11_spells 1 = .ok (.iconst 0, 1) := by decide +kernel
theorem dX11_spells_2 : decode cX11_spells 2 = .ok (.putfield 298, 3) := by decide +kernel
theorem dX11_spells_5 : decode cX11_spells 5 = .ok (.iconst 0, 1) := by decide +kernel
theorem dX11_spells_6 : decode cX11_spells 6 = .ok (.istore_n 3, 1) := by decide +kernel
theorem dX11_spells_7 : decode cX11_spells 7 = .ok (.iload_n 1, 1) := by decide +kernel
theorem dX11_spells_8 : decode cX11_spells 8 = .ok (.istore 4, 2) := by decide +kernel
theorem dX11_spells_10 : decode cX11_spells 10 = .ok (.iload 4, 2) := by decide +kernel
theorem dX11_spells_12 : decode cX11_spells 12 = .ok (.iload_n 2, 1) := by decide +kernel
theorem dX11_spells_13 : decode cX11_spells 13 = .ok (.if_icmp .ge 149, 3) := by decide +kernel
theorem dX11_spells_16 : decode cX11_spells 16 = .ok (.aload_n 0, 1) := by decide +kernel
theorem dX11_spells_17 : decode cX11_spells 17 = .ok (.getfield 21, 3) := by decide +kernel
theorem dX11_spells_20 : decode cX11_spells 20 = .ok (.iload 4, 2) := by decide +kernel
theorem dX11_spells_22 : decode cX11_spells 22 = .ok (.iaload, 1) := by decide +kernel
theorem dX11_spells_23 : decode cX11_spells 23 = .ok (.istore 5, 2) := by decide +kernel
theorem dX11_spells_25 : decode cX11_spells 25 = .ok (.iload 5, 2) := by decide +kernel
theorem dX11_spells_27 : decode cX11_spells 27 = .ok (.bipush 48, 2) := by decide +kernel
theorem dX11_spells_29 : decode cX11_spells 29 = .ok (.bipush 57, 2) := by decide +kernel
theorem dX11_spells_31 : decode cX11_spells 31 = .ok (.invokestatic 46, 3) := by decide +kernel
theorem dX11_spells_34 : decode cX11_spells 34 = .ok (.istore 6, 2) := by decide +kernel
theorem dX11_spells_36 : decode cX11_spells 36 = .ok (.iload 5, 2) := by decide +kernel
theorem dX11_spells_38 : decode cX11_spells 38 = .ok (.bipush 45, 2) := by decide +kernel
theorem dX11_spells_40 : decode cX11_spells 40 = .ok (.if_icmp .ne 15, 3) := by decide +kernel
theorem dX11_spells_43 : decode cX11_spells 43 = .ok (.aload_n 0, 1) := by decide +kernel
theorem dX11_spells_44 : decode cX11_spells 44 = .ok (.iload 4, 2) := by decide +kernel
theorem dX11_spells_46 : decode cX11_spells 46 = .ok (.invokevirtual 171, 3) := by decide +kernel
theorem dX11_spells_49 : decode cX11_spells 49 = .ok (.ifCond .ne 6, 3) := by decide +kernel
theorem dX11_spells_52 : decode cX11_spells 52 = .ok (.goto 104, 3) := by decide +kernel
theorem dX11_spells_55 : decode cX11_spells 55 = .ok (.iload 5, 2) := by decide +kernel
theorem dX11_spells_57 : decode cX11_spells 57 = .ok (.bipush 48, 2) := by decide +kernel
theorem dX11_spells_59 : decode cX11_spells 59 = .ok (.if_icmp .ne 38, 3) := by decide +kernel
theorem dX11_spells_62 : decode cX11_spells 62 = .ok (.iload_n 3, 1) := by decide +kernel
theorem dX11_spells_63 : decode cX11_spells 63 = .ok (.ifCond .ne 34, 3) := by decide +kernel
theorem dX11_spells_66 : decode cX11_spells 66 = .ok (.iload 4, 2) := by decide +kernel
theorem dX11_spells_68 : decode cX11_spells 68 = .ok (.iconst 1, 1) := by decide +kernel
theorem dX11_spells_69 : decode cX11_spells 69 = .ok (.iadd, 1) := by decide +kernel
theorem dX11_spells_70 : decode cX11_spells 70 = .ok (.iload_n 2, 1) := by decide +kernel
theorem dX11_spells_71 : decode cX11_spells 71 = .ok (.if_icmp .ge 26, 3) := by decide +kernel
theorem dX11_spells_74 : decode cX11_spells 74 = .ok (.aload_n 0, 1) := by decide +kernel
theorem dX11_spells_75 : decode cX11_spells 75 = .ok (.getfield 21, 3) := by decide +kernel
theorem dX11_spells_78 : decode cX11_spells 78 = .ok (.iload 4, 2) := by decide +kernel
theorem dX11_spells_80 : decode cX11_spells 80 = .ok (.iconst 1, 1) := by decide +kernel
theorem dX11_spells_81 : decode cX11_spells 81 = .ok (.iadd, 1) := by decide +kernel
theorem dX11_spells_82 : decode cX11_spells 82 = .ok (.iaload, 1) := by decide +kernel
theorem dX11_spells_83 : decode cX11_spells 83 = .ok (.bipush 48, 2) := by decide +kernel
theorem dX11_spells_85 : decode cX11_spells 85 = .ok (.bipush 57, 2) := by decide +kernel
theorem dX11_spells_87 : decode cX11_spells 87 = .ok (.invokestatic 46, 3) := by decide +kernel
theorem dX11_spells_90 : decode cX11_spells 90 = .ok (.ifCond .eq 7, 3) := by decide +kernel
theorem dX11_spells_93 : decode cX11_spells 93 = .ok (.iconst 1, 1) := by decide +kernel
theorem dX11_spells_94 : decode cX11_spells 94 = .ok (.goto 4, 3) := by decide +kernel
theorem dX11_spells_97 : decode cX11_spells 97 = .ok (.iconst 0, 1) := by decide +kernel
theorem dX11_spells_98 : decode cX11_spells 98 = .ok (.istore 7, 2) := by decide +kernel
theorem dX11_spells_100 : decode cX11_spells 100 = .ok (.iload 6, 2) := by decide +kernel
theorem dX11_spells_102 : decode cX11_spells 102 = .ok (.ifCond .eq 23, 3) := by decide +kernel
theorem dX11_spells_105 : decode cX11_spells 105 = .ok (.iload_n 3, 1) := by decide +kernel
theorem dX11_spells_106 : decode cX11_spells 106 = .ok (.ifCond .ne 15, 3) := by decide +kernel
theorem dX11_spells_109 : decode cX11_spells 109 = .ok (.iload 5, 2) := by decide +kernel
theorem dX11_spells_111 : decode cX11_spells 111 = .ok (.bipush 48, 2) := by decide +kernel
theorem dX11_spells_113 : decode cX11_spells 113 = .ok (.if_icmp .ne 8, 3) := by decide +kernel
theorem dX11_spells_116 : decode cX11_spells 116 = .ok (.iload 7, 2) := by decide +kernel
theorem dX11_spells_118 : decode cX11_spells 118 = .ok (.ifCond .ne 7, 3) := by decide +kernel
theorem dX11_spells_121 : decode cX11_spells 121 = .ok (.iconst 1, 1) := by decide +kernel
theorem dX11_spells_122 : decode cX11_spells 122 = .ok (.goto 4, 3) := by decide +kernel
theorem dX11_spells_125 : decode cX11_spells 125 = .ok (.iconst 0, 1) := by decide +kernel
theorem dX11_spells_126 : decode cX11_spells 126 = .ok (.istore_n 3, 1) := by decide +kernel
theorem dX11_spells_127 : decode cX11_spells 127 = .ok (.iload 7, 2) := by decide +kernel
theorem dX11_spells_129 : decode cX11_spells 129 = .ok (.ifCond .eq 6, 3) := by decide +kernel
theorem dX11_spells_132 : decode cX11_spells 132 = .ok (.goto 24, 3) := by decide +kernel
theorem dX11_spells_135 : decode cX11_spells 135 = .ok (.aload_n 0, 1) := by decide +kernel
theorem dX11_spells_136 : decode cX11_spells 136 = .ok (.getfield 33, 3) := by decide +kernel
theorem dX11_spells_139 : decode cX11_spells 139 = .ok (.aload_n 0, 1) := by decide +kernel
theorem dX11_spells_140 : decode cX11_spells 140 = .ok (.getfield 298, 3) := by decide +kernel
theorem dX11_spells_143 : decode cX11_spells 143 = .ok (.iload 5, 2) := by decide +kernel
theorem dX11_spells_145 : decode cX11_spells 145 = .ok (.iastore, 1) := by decide +kernel
theorem dX11_spells_146 : decode cX11_spells 146 = .ok (.aload_n 0, 1) := by decide +kernel
theorem dX11_spells_147 : decode cX11_spells 147 = .ok (.dup, 1) := by decide +kernel
theorem dX11_spells_148 : decode cX11_spells 148 = .ok (.getfield 298, 3) := by decide +kernel
theorem dX11_spells_151 : decode cX11_spells 151 = .ok (.iconst 1, 1) := by decide +kernel
theorem dX11_spells_152 : decode cX11_spells 152 = .ok (.iadd, 1) := by decide +kernel
theorem dX11_spells_153 : decode cX11_spells 153 = .ok (.putfield 298, 3) := by decide +kernel
theorem dX11_spells_156 : decode cX11_spells 156 = .ok (.iinc 4 1, 3) := by decide +kernel
theorem dX11_spells_159 : decode cX11_spells 159 = .ok (.goto (-149), 3) := by decide +kernel
theorem dX11_spells_162 : decode cX11_spells 162 = .ok (.return_, 1) := by decide +kernel
theorem dX11_spell_0 : decode cX11_spell 0 = .ok (.aload_n 0, 1) := by decide +kernel
theorem dX11_spell_1 : decode cX11_spell 1 = .ok (.iload_n 1, 1) := by decide +kernel
theorem dX11_spell_2 : decode cX11_spell 2 = .ok (.invokevirtual 238, 3) := by decide +kernel
theorem dX11_spell_5 : decode cX11_spell 5 = .ok (.ifCond .ne 5, 3) := by decide +kernel
theorem dX11_spell_8 : decode cX11_spell 8 = .ok (.iconst (-1), 1) := by decide +kernel
theorem dX11_spell_9 : decode cX11_spell 9 = .ok (.ireturn, 1) := by decide +kernel
theorem dX11_spell_10 : decode cX11_spell 10 = .ok (.aload_n 0, 1) := by decide +kernel
theorem dX11_spell_11 : decode cX11_spell 11 = .ok (.aload_n 0, 1) := by decide +kernel
theorem dX11_spell_12 : decode cX11_spell 12 = .ok (.getfield 11, 3) := by decide +kernel
theorem dX11_spell_15 : decode cX11_spell 15 = .ok (.iload_n 1, 1) := by decide +kernel
theorem dX11_spell_16 : decode cX11_spell 16 = .ok (.iconst 4, 1) := by decide +kernel
theorem dX11_spell_17 : decode cX11_spell 17 = .ok (.iconst 0, 1) := by decide +kernel
theorem dX11_spell_18 : decode cX11_spell 18 = .ok (.invokestatic 54, 3) := by decide +kernel
theorem dX11_spell_21 : decode cX11_spell 21 = .ok (.iaload, 1) := by decide +kernel
theorem dX11_spell_22 : decode cX11_spell 22 = .ok (.aload_n 0, 1) := by decide +kernel
theorem dX11_spell_23 : decode cX11_spell 23 = .ok (.getfield 11, 3) := by decide +kernel
theorem dX11_spell_26 : decode cX11_spell 26 = .ok (.iload_n 1, 1) := by decide +kernel
theorem dX11_spell_27 : decode cX11_spell 27 = .ok (.iconst 5, 1) := by decide +kernel
theorem dX11_spell_28 : decode cX11_spell 28 = .ok (.iconst 0, 1) := by decide +kernel
theorem dX11_spell_29 : decode cX11_spell 29 = .ok (.invokestatic 54, 3) := by decide +kernel
theorem dX11_spell_32 : decode cX11_spell 32 = .ok (.iaload, 1) := by decide +kernel
theorem dX11_spell_33 : decode cX11_spell 33 = .ok (.invokevirtual 301, 3) := by decide +kernel
theorem dX11_spell_36 : decode cX11_spell 36 = .ok (.aload_n 0, 1) := by decide +kernel
theorem dX11_spell_37 : decode cX11_spell 37 = .ok (.getfield 298, 3) := by decide +kernel
theorem dX11_spell_40 : decode cX11_spell 40 = .ok (.ireturn, 1) := by decide +kernel
theorem dX11_spellTask_0 : decode cX11_spellTask 0 = .ok (.aload_n 0, 1) := by decide +kernel
theorem dX11_spellTask_1 : decode cX11_spellTask 1 = .ok (.iload_n 1, 1) := by decide +kernel
theorem dX11_spellTask_2 : decode cX11_spellTask 2 = .ok (.invokevirtual 180, 3) := by decide +kernel
theorem dX11_spellTask_5 : decode cX11_spellTask 5 = .ok (.ifCond .ne 5, 3) := by decide +kernel
theorem dX11_spellTask_8 : decode cX11_spellTask 8 = .ok (.iconst (-1), 1) := by decide +kernel
theorem dX11_spellTask_9 : decode cX11_spellTask 9 = .ok (.ireturn, 1) := by decide +kernel
theorem dX11_spellTask_10 : decode cX11_spellTask 10 = .ok (.aload_n 0, 1) := by decide +kernel
theorem dX11_spellTask_11 : decode cX11_spellTask 11 = .ok (.aload_n 0, 1) := by decide +kernel
theorem dX11_spellTask_12 : decode cX11_spellTask 12 = .ok (.getfield 11, 3) := by decide +kernel
theorem dX11_spellTask_15 : decode cX11_spellTask 15 = .ok (.iload_n 1, 1) := by decide +kernel
theorem dX11_spellTask_16 : decode cX11_spellTask 16 = .ok (.bipush 8, 2) := by decide +kernel
theorem dX11_spellTask_18 : decode cX11_spellTask 18 = .ok (.iconst 0, 1) := by decide +kernel
theorem dX11_spellTask_19 : decode cX11_spellTask 19 = .ok (.invokestatic 58, 3) := by decide +kernel
theorem dX11_spellTask_22 : decode cX11_spellTask 22 = .ok (.iaload, 1) := by decide +kernel
theorem dX11_spellTask_23 : decode cX11_spellTask 23 = .ok (.aload_n 0, 1) := by decide +kernel
theorem dX11_spellTask_24 : decode cX11_spellTask 24 = .ok (.getfield 11, 3) := by decide +kernel
theorem dX11_spellTask_27 : decode cX11_spellTask 27 = .ok (.iload_n 1, 1) := by decide +kernel
theorem dX11_spellTask_28 : decode cX11_spellTask 28 = .ok (.bipush 9, 2) := by decide +kernel
theorem dX11_spellTask_30 : decode cX11_spellTask 30 = .ok (.iconst 0, 1) := by decide +kernel
theorem dX11_spellTask_31 : decode cX11_spellTask 31 = .ok (.invokestatic 58, 3) := by decide +kernel
theorem dX11_spellTask_34 : decode cX11_spellTask 34 = .ok (.iaload, 1) := by decide +kernel
theorem dX11_spellTask_35 : decode cX11_spellTask 35 = .ok (.invokevirtual 301, 3) := by decide +kernel
theorem dX11_spellTask_38 : decode cX11_spellTask 38 = .ok (.aload_n 0, 1) := by decide +kernel
theorem dX11_spellTask_39 : decode cX11_spellTask 39 = .ok (.getfield 298, 3) := by decide +kernel
theorem dX11_spellTask_42 : decode cX11_spellTask 42 = .ok (.ireturn, 1) := by decide +kernel
theorem dX11_paper_0 : decode cX11_paper 0 = .ok (.iload_n 1, 1) := by decide +kernel
theorem dX11_paper_1 : decode cX11_paper 1 = .ok (.iconst 0, 1) := by decide +kernel
theorem dX11_paper_2 : decode cX11_paper 2 = .ok (.aload_n 0, 1) := by decide +kernel
theorem dX11_paper_3 : decode cX11_paper 3 = .ok (.getfield 298, 3) := by decide +kernel
theorem dX11_paper_6 : decode cX11_paper 6 = .ok (.iconst 1, 1) := by decide +kernel
theorem dX11_paper_7 : decode cX11_paper 7 = .ok (.isub, 1) := by decide +kernel
theorem dX11_paper_8 : decode cX11_paper 8 = .ok (.invokestatic 46, 3) := by decide +kernel
theorem dX11_paper_11 : decode cX11_paper 11 = .ok (.ifCond .eq 12, 3) := by decide +kernel
theorem dX11_paper_14 : decode cX11_paper 14 = .ok (.aload_n 0, 1) := by decide +kernel
theorem dX11_paper_15 : decode cX11_paper 15 = .ok (.getfield 33, 3) := by decide +kernel
theorem dX11_paper_18 : decode cX11_paper 18 = .ok (.iload_n 1, 1) := by decide +kernel
theorem dX11_paper_19 : decode cX11_paper 19 = .ok (.iaload, 1) := by decide +kernel
theorem dX11_paper_20 : decode cX11_paper 20 = .ok (.goto 4, 3) := by decide +kernel
theorem dX11_paper_23 : decode cX11_paper 23 = .ok (.iconst (-1), 1) := by decide +kernel
theorem dX11_paper_24 : decode cX11_paper 24 = .ok (.ireturn, 1) := by decide +kernel
theorem dX11_isRow_0 : decode cX11_isRow 0 = .ok (.iload_n 0, 1) := by decide +kernel
theorem dX11_isRow_1 : decode cX11_isRow 1 = .ok (.iconst 0, 1) := by decide +kernel
theorem dX11_isRow_2 : decode cX11_isRow 2 = .ok (.iconst 3, 1) := by decide +kernel
theorem dX11_isRow_3 : decode cX11_isRow 3 = .ok (.invokestatic 46, 3) := by decide +kernel
theorem dX11_isRow_6 : decode cX11_isRow 6 = .ok (.ireturn, 1) := by decide +kernel
theorem dX11_wrong_0 : decode cX11_wrong 0 = .ok (.iload_n 1, 1) := by decide +kernel
theorem dX11_wrong_1 : decode cX11_wrong 1 = .ok (.invokestatic 304, 3) := by decide +kernel
theorem dX11_wrong_4 : decode cX11_wrong 4 = .ok (.ifCond .ne 7, 3) := by decide +kernel
theorem dX11_wrong_7 : decode cX11_wrong 7 = .ok (.iconst (-1), 1) := by decide +kernel
theorem dX11_wrong_8 : decode cX11_wrong 8 = .ok (.goto 18, 3) := by decide +kernel
theorem dX11_wrong_11 : decode cX11_wrong 11 = .ok (.aload_n 0, 1) := by decide +kernel
theorem dX11_wrong_12 : decode cX11_wrong 12 = .ok (.getfield 36, 3) := by decide +kernel
theorem dX11_wrong_15 : decode cX11_wrong 15 = .ok (.iload_n 1, 1) := by decide +kernel
theorem dX11_wrong_16 : decode cX11_wrong 16 = .ok (.iaload, 1) := by decide +kernel
theorem dX11_wrong_17 : decode cX11_wrong 17 = .ok (.ifCond .ge 8, 3) := by decide +kernel
theorem dX11_wrong_20 : decode cX11_wrong 20 = .ok (.bipush (-11), 2) := by decide +kernel
theorem dX11_wrong_22 : decode cX11_wrong 22 = .ok (.goto 4, 3) := by decide +kernel
theorem dX11_wrong_25 : decode cX11_wrong 25 = .ok (.iconst 0, 1) := by decide +kernel
theorem dX11_wrong_26 : decode cX11_wrong 26 = .ok (.ireturn, 1) := by decide +kernel
theorem dX11_row_0 : decode cX11_row 0 = .ok (.iload_n 1, 1) := by decide +kernel
theorem dX11_row_1 : decode cX11_row 1 = .ok (.invokestatic 304, 3) := by decide +kernel
theorem dX11_row_4 : decode cX11_row 4 = .ok (.ifCond .ne 5, 3) := by decide +kernel
theorem dX11_row_7 : decode cX11_row 7 = .ok (.iconst (-1), 1) := by decide +kernel
theorem dX11_row_8 : decode cX11_row 8 = .ok (.ireturn, 1) := by decide +kernel
theorem dX11_row_9 : decode cX11_row 9 = .ok (.iload_n 2, 1) := by decide +kernel
theorem dX11_row_10 : decode cX11_row 10 = .ok (.bipush 40, 2) := by decide +kernel
theorem dX11_row_12 : decode cX11_row 12 = .ok (.if_icmp .le 6, 3) := by decide +kernel
theorem dX11_row_15 : decode cX11_row 15 = .ok (.bipush (-2), 2) := by decide +kernel
theorem dX11_row_17 : decode cX11_row 17 = .ok (.ireturn, 1) := by decide +kernel
theorem dX11_row_18 : decode cX11_row 18 = .ok (.iload_n 2, 1) := by decide +kernel
theorem dX11_row_19 : decode cX11_row 19 = .ok (.ifCond .ge 6, 3) := by decide +kernel
theorem dX11_row_22 : decode cX11_row 22 = .ok (.bipush (-14), 2) := by decide +kernel
theorem dX11_row_24 : decode cX11_row 24 = .ok (.ireturn, 1) := by decide +kernel
theorem dX11_row_25 : decode cX11_row 25 = .ok (.aload_n 0, 1) := by decide +kernel
theorem dX11_row_26 : decode cX11_row 26 = .ok (.getfield 36, 3) := by decide +kernel
theorem dX11_row_29 : decode cX11_row 29 = .ok (.iload_n 1, 1) := by decide +kernel
theorem dX11_row_30 : decode cX11_row 30 = .ok (.iload_n 2, 1) := by decide +kernel
theorem dX11_row_31 : decode cX11_row 31 = .ok (.iastore, 1) := by decide +kernel
theorem dX11_row_32 : decode cX11_row 32 = .ok (.iconst 0, 1) := by decide +kernel
theorem dX11_row_33 : decode cX11_row 33 = .ok (.istore_n 3, 1) := by decide +kernel
theorem dX11_row_34 : decode cX11_row 34 = .ok (.iload_n 3, 1) := by decide +kernel
theorem dX11_row_35 : decode cX11_row 35 = .ok (.bipush 40, 2) := by decide +kernel
theorem dX11_row_37 : decode cX11_row 37 = .ok (.if_icmp .ge 21, 3) := by decide +kernel
theorem dX11_row_40 : decode cX11_row 40 = .ok (.aload_n 0, 1) := by decide +kernel
theorem dX11_row_41 : decode cX11_row 41 = .ok (.getfield 39, 3) := by decide +kernel
theorem dX11_row_44 : decode cX11_row 44 = .ok (.bipush 40, 2) := by decide +kernel
theorem dX11_row_46 : decode cX11_row 46 = .ok (.iload_n 1, 1) := by decide +kernel
theorem dX11_row_47 : decode cX11_row 47 = .ok (.imul, 1) := by decide +kernel
theorem dX11_row_48 : decode cX11_row 48 = .ok (.iload_n 3, 1) := by decide +kernel
theorem dX11_row_49 : decode cX11_row 49 = .ok (.iadd, 1) := by decide +kernel
theorem dX11_row_50 : decode cX11_row 50 = .ok (.iconst 0, 1) := by decide +kernel
theorem dX11_row_51 : decode cX11_row 51 = .ok (.iastore, 1) := by decide +kernel
theorem dX11_row_52 : decode cX11_row 52 = .ok (.iinc 3 1, 3) := by decide +kernel
theorem dX11_row_55 : decode cX11_row 55 = .ok (.goto (-21), 3) := by decide +kernel
theorem dX11_row_58 : decode cX11_row 58 = .ok (.iconst 1, 1) := by decide +kernel
theorem dX11_row_59 : decode cX11_row 59 = .ok (.ireturn, 1) := by decide +kernel
theorem dX11_set_0 : decode cX11_set 0 = .ok (.aload_n 0, 1) := by decide +kernel
theorem dX11_set_1 : decode cX11_set 1 = .ok (.iload_n 1, 1) := by decide +kernel
theorem dX11_set_2 : decode cX11_set 2 = .ok (.invokevirtual 307, 3) := by decide +kernel
theorem dX11_set_5 : decode cX11_set 5 = .ok (.istore 4, 2) := by decide +kernel
theorem dX11_set_7 : decode cX11_set 7 = .ok (.iload 4, 2) := by decide +kernel
theorem dX11_set_9 : decode cX11_set 9 = .ok (.ifCond .eq 6, 3) := by decide +kernel
theorem dX11_set_12 : decode cX11_set 12 = .ok (.iload 4, 2) := by decide +kernel
theorem dX11_set_14 : decode cX11_set 14 = .ok (.ireturn, 1) := by decide +kernel
theorem dX11_set_15 : decode cX11_set 15 = .ok (.iload_n 2, 1) := by decide +kernel
theorem dX11_set_16 : decode cX11_set 16 = .ok (.iconst 0, 1) := by decide +kernel
theorem dX11_set_17 : decode cX11_set 17 = .ok (.aload_n 0, 1) := by decide +kernel
theorem dX11_set_18 : decode cX11_set 18 = .ok (.getfield 36, 3) := by decide +kernel
theorem dX11_set_21 : decode cX11_set 21 = .ok (.iload_n 1, 1) := by decide +kernel
theorem dX11_set_22 : decode cX11_set 22 = .ok (.iaload, 1) := by decide +kernel
theorem dX11_set_23 : decode cX11_set 23 = .ok (.iconst 1, 1) := by decide +kernel
theorem dX11_set_24 : decode cX11_set 24 = .ok (.isub, 1) := by decide +kernel
theorem dX11_set_25 : decode cX11_set 25 = .ok (.invokestatic 46, 3) := by decide +kernel
theorem dX11_set_28 : decode cX11_set 28 = .ok (.ifCond .ne 6, 3) := by decide +kernel
theorem dX11_set_31 : decode cX11_set 31 = .ok (.bipush (-13), 2) := by decide +kernel
theorem dX11_set_33 : decode cX11_set 33 = .ok (.ireturn, 1) := by decide +kernel
theorem dX11_set_34 : decode cX11_set 34 = .ok (.aload_n 0, 1) := by decide +kernel
theorem dX11_set_35 : decode cX11_set 35 = .ok (.getfield 39, 3) := by decide +kernel
theorem dX11_set_38 : decode cX11_set 38 = .ok (.bipush 40, 2) := by decide +kernel
theorem dX11_set_40 : decode cX11_set 40 = .ok (.iload_n 1, 1) := by decide +kernel
theorem dX11_set_41 : decode cX11_set 41 = .ok (.imul, 1) := by decide +kernel
theorem dX11_set_42 : decode cX11_set 42 = .ok (.iload_n 2, 1) := by decide +kernel
theorem dX11_set_43 : decode cX11_set 43 = .ok (.iadd, 1) := by decide +kernel
theorem dX11_set_44 : decode cX11_set 44 = .ok (.iload_n 3, 1) := by decide +kernel
theorem dX11_set_45 : decode cX11_set 45 = .ok (.iastore, 1) := by decide +kernel
theorem dX11_set_46 : decode cX11_set 46 = .ok (.iconst 1, 1) := by decide +kernel
theorem dX11_set_47 : decode cX11_set 47 = .ok (.ireturn, 1) := by decide +kernel
theorem dX11_get_0 : decode cX11_get 0 = .ok (.aload_n 0, 1) := by decide +kernel
theorem dX11_get_1 : decode cX11_get 1 = .ok (.iload_n 1, 1) := by decide +kernel
theorem dX11_get_2 : decode cX11_get 2 = .ok (.invokevirtual 307, 3) := by decide +kernel
theorem dX11_get_5 : decode cX11_get 5 = .ok (.ifCond .ne 19, 3) := by decide +kernel
theorem dX11_get_8 : decode cX11_get 8 = .ok (.iload_n 2, 1) := by decide +kernel
theorem dX11_get_9 : decode cX11_get 9 = .ok (.iconst 0, 1) := by decide +kernel
theorem dX11_get_10 : decode cX11_get 10 = .ok (.aload_n 0, 1) := by decide +kernel
theorem dX11_get_11 : decode cX11_get 11 = .ok (.getfield 36, 3) := by decide +kernel
theorem dX11_get_14 : decode cX11_get 14 = .ok (.iload_n 1, 1) := by decide +kernel
theorem dX11_get_15 : decode cX11_get 15 = .ok (.iaload, 1) := by decide +kernel
theorem dX11_get_16 : decode cX11_get 16 = .ok (.iconst 1, 1) := by decide +kernel
theorem dX11_get_17 : decode cX11_get 17 = .ok (.isub, 1) := by decide +kernel
theorem dX11_get_18 : decode cX11_get 18 = .ok (.invokestatic 46, 3) := by decide +kernel
theorem dX11_get_21 : decode cX11_get 21 = .ok (.ifCond .ne 9, 3) := by decide +kernel
theorem dX11_get_24 : decode cX11_get 24 = .ok (.ldc2_w 244, 3) := by decide +kernel
theorem dX11_get_27 : decode cX11_get 27 = .ok (.goto 15, 3) := by decide +kernel
theorem dX11_get_30 : decode cX11_get 30 = .ok (.aload_n 0, 1) := by decide +kernel
theorem dX11_get_31 : decode cX11_get 31 = .ok (.getfield 39, 3) := by decide +kernel
theorem dX11_get_34 : decode cX11_get 34 = .ok (.bipush 40, 2) := by decide +kernel
theorem dX11_get_36 : decode cX11_get 36 = .ok (.iload_n 1, 1) := by decide +kernel
theorem dX11_get_37 : decode cX11_get 37 = .ok (.imul, 1) := by decide +kernel
theorem dX11_get_38 : decode cX11_get 38 = .ok (.iload_n 2, 1) := by decide +kernel
theorem dX11_get_39 : decode cX11_get 39 = .ok (.iadd, 1) := by decide +kernel
theorem dX11_get_40 : decode cX11_get 40 = .ok (.iaload, 1) := by decide +kernel
theorem dX11_get_41 : decode cX11_get 41 = .ok (.i2l, 1) := by decide +kernel
theorem dX11_get_42 : decode cX11_get 42 = .ok (.lreturn, 1) := by decide +kernel
theorem dX11_copy_0 : decode cX11_copy 0 = .ok (.iload_n 1, 1) := by decide +kernel
theorem dX11_copy_1 : decode cX11_copy 1 = .ok (.invokestatic 304, 3) := by decide +kernel
theorem dX11_copy_4 : decode cX11_copy 4 = .ok (.ifCond .eq 10, 3) := by decide +kernel
theorem dX11_copy_7 : decode cX11_copy 7 = .ok (.iload_n 3, 1) := by decide +kernel
theorem dX11_copy_8 : decode cX11_copy 8 = .ok (.invokestatic 304, 3) := by decide +kernel
theorem dX11_copy_11 : decode cX11_copy 11 = .ok (.ifCond .ne 5, 3) := by decide +kernel
theorem dX11_copy_14 : decode cX11_copy 14 = .ok (.iconst (-1), 1) := by decide +kernel
theorem dX11_copy_15 : decode cX11_copy 15 = .ok (.ireturn, 1) := by decide +kernel
theorem dX11_copy_16 : decode cX11_copy 16 = .ok (.aload_n 0, 1) := by decide +kernel
theorem dX11_copy_17 : decode cX11_copy 17 = .ok (.getfield 36, 3) := by decide +kernel
theorem dX11_copy_20 : decode cX11_copy 20 = .ok (.iload_n 1, 1) := by decide +kernel
theorem dX11_copy_21 : decode cX11_copy 21 = .ok (.iaload, 1) := by decide +kernel
theorem dX11_copy_22 : decode cX11_copy 22 = .ok (.ifCond .lt 12, 3) := by decide +kernel
theorem dX11_copy_25 : decode cX11_copy 25 = .ok (.aload_n 0, 1) := by decide +kernel
theorem dX11_copy_26 : decode cX11_copy 26 = .ok (.getfield 36, 3) := by decide +kernel
theorem dX11_copy_29 : decode cX11_copy 29 = .ok (.iload_n 3, 1) := by decide +kernel
theorem dX11_copy_30 : decode cX11_copy 30 = .ok (.iaload, 1) := by decide +kernel
theorem dX11_copy_31 : decode cX11_copy 31 = .ok (.ifCond .ge 6, 3) := by decide +kernel
theorem dX11_copy_34 : decode cX11_copy 34 = .ok (.bipush (-11), 2) := by decide +kernel
theorem dX11_copy_36 : decode cX11_copy 36 = .ok (.ireturn, 1) := by decide +kernel
theorem dX11_copy_37 : decode cX11_copy 37 = .ok (.iload 5, 2) := by decide +kernel
theorem dX11_copy_39 : decode cX11_copy 39 = .ok (.ifCond .lt 39, 3) := by decide +kernel
theorem dX11_copy_42 : decode cX11_copy 42 = .ok (.iload_n 2, 1) := by decide +kernel
theorem dX11_copy_43 : decode cX11_copy 43 = .ok (.ifCond .lt 35, 3) := by decide +kernel
theorem dX11_copy_46 : decode cX11_copy 46 = .ok (.iload 4, 2) := by decide +kernel
theorem dX11_copy_48 : decode cX11_copy 48 = .ok (.ifCond .lt 30, 3) := by decide +kernel
theorem dX11_copy_51 : decode cX11_copy 51 = .ok (.iload 5, 2) := by decide +kernel
theorem dX11_copy_53 : decode cX11_copy 53 = .ok (.aload_n 0, 1) := by decide +kernel
theorem dX11_copy_54 : decode cX11_copy 54 = .ok (.getfield 36, 3) := by decide +kernel
theorem dX11_copy_57 : decode cX11_copy 57 = .ok (.iload_n 1, 1) := by decide +kernel
theorem dX11_copy_58 : decode cX11_copy 58 = .ok (.iaload, 1) := by decide +kernel
theorem dX11_copy_59 : decode cX11_copy 59 = .ok (.iload_n 2, 1) := by decide +kernel
theorem dX11_copy_60 : decode cX11_copy 60 = .ok (.isub, 1) := by decide +kernel
theorem dX11_copy_61 : decode cX11_copy 61 = .ok (.if_icmp .gt 17, 3) := by decide +kernel
theorem dX11_copy_64 : decode cX11_copy 64 = .ok (.iload 5, 2) := by decide +kernel
theorem dX11_copy_66 : decode cX11_copy 66 = .ok (.aload_n 0, 1) := by decide +kernel
theorem dX11_copy_67 : decode cX11_copy 67 = .ok (.getfield 36, 3) := by decide +kernel
theorem dX11_copy_70 : decode cX11_copy 70 = .ok (.iload_n 3, 1) := by decide +kernel
theorem dX11_copy_71 : decode cX11_copy 71 = .ok (.iaload, 1) := by decide +kernel
theorem dX11_copy_72 : decode cX11_copy 72 = .ok (.iload 4, 2) := by decide +kernel
theorem dX11_copy_74 : decode cX11_copy 74 = .ok (.isub, 1) := by decide +kernel
theorem dX11_copy_75 : decode cX11_copy 75 = .ok (.if_icmp .le 6, 3) := by decide +kernel
theorem dX11_copy_78 : decode cX11_copy 78 = .ok (.bipush (-13), 2) := by decide +kernel
theorem dX11_copy_80 : decode cX11_copy 80 = .ok (.ireturn, 1) := by decide +kernel
theorem dX11_copy_81 : decode cX11_copy 81 = .ok (.iconst 0, 1) := by decide +kernel
theorem dX11_copy_82 : decode cX11_copy 82 = .ok (.istore 6, 2) := by decide +kernel
theorem dX11_copy_84 : decode cX11_copy 84 = .ok (.iload 6, 2) := by decide +kernel
theorem dX11_copy_86 : decode cX11_copy 86 = .ok (.iload 5, 2) := by decide +kernel
theorem dX11_copy_88 : decode cX11_copy 88 = .ok (.if_icmp .ge 58, 3) := by decide +kernel
theorem dX11_copy_91 : decode cX11_copy 91 = .ok (.iload_n 2, 1) := by decide +kernel
theorem dX11_copy_92 : decode cX11_copy 92 = .ok (.iload 4, 2) := by decide +kernel
theorem dX11_copy_94 : decode cX11_copy 94 = .ok (.if_icmp .le 8, 3) := by decide +kernel
theorem dX11_copy_97 : decode cX11_copy 97 = .ok (.iload 6, 2) := by decide +kernel
theorem dX11_copy_99 : decode cX11_copy 99 = .ok (.goto 10, 3) := by decide +kernel
theorem dX11_copy_102 : decode cX11_copy 102 = .ok (.iload 5, 2) := by decide +kernel
theorem dX11_copy_104 : decode cX11_copy 104 = .ok (.iconst 1, 1) := by decide +kernel
theorem dX11_copy_105 : decode cX11_copy 105 = .ok (.isub, 1) := by decide +kernel
theorem dX11_copy_106 : decode cX11_copy 106 = .ok (.iload 6, 2) := by decide +kernel
theorem dX11_copy_108 : decode cX11_copy 108 = .ok (.isub, 1) := by decide +kernel
theorem dX11_copy_109 : decode cX11_copy 109 = .ok (.istore 7, 2) := by decide +kernel
theorem dX11_copy_111 : decode cX11_copy 111 = .ok (.aload_n 0, 1) := by decide +kernel
theorem dX11_copy_112 : decode cX11_copy 112 = .ok (.getfield 39, 3) := by decide +kernel
theorem dX11_copy_115 : decode cX11_copy 115 = .ok (.bipush 40, 2) := by decide +kernel
theorem dX11_copy_117 : decode cX11_copy 117 = .ok (.iload_n 3, 1) := by decide +kernel
theorem dX11_copy_118 : decode cX11_copy 118 = .ok (.imul, 1) := by decide +kernel
theorem dX11_copy_119 : decode cX11_copy 119 = .ok (.iload 4, 2) := by decide +kernel
theorem dX11_copy_121 : decode cX11_copy 121 = .ok (.iadd, 1) := by decide +kernel
theorem dX11_copy_122 : decode cX11_copy 122 = .ok (.iload 7, 2) := by decide +kernel
theorem dX11_copy_124 : decode cX11_copy 124 = .ok (.iadd, 1) := by decide +kernel
theorem dX11_copy_125 : decode cX11_copy 125 = .ok (.aload_n 0, 1) := by decide +kernel
theorem dX11_copy_126 : decode cX11_copy 126 = .ok (.getfield 39, 3) := by decide +kernel
theorem dX11_copy_129 : decode cX11_copy 129 = .ok (.bipush 40, 2) := by decide +kernel
theorem dX11_copy_131 : decode cX11_copy 131 = .ok (.iload_n 1, 1) := by decide +kernel
theorem dX11_copy_132 : decode cX11_copy 132 = .ok (.imul, 1) := by decide +kernel
theorem dX11_copy_133 : decode cX11_copy 133 = .ok (.iload_n 2, 1) := by decide +kernel
theorem dX11_copy_134 : decode cX11_copy 134 = .ok (.iadd, 1) := by decide +kernel
theorem dX11_copy_135 : decode cX11_copy 135 = .ok (.iload 7, 2) := by decide +kernel
theorem dX11_copy_137 : decode cX11_copy 137 = .ok (.iadd, 1) := by decide +kernel
theorem dX11_copy_138 : decode cX11_copy 138 = .ok (.iaload, 1) := by decide +kernel
theorem dX11_copy_139 : decode cX11_copy 139 = .ok (.iastore, 1) := by decide +kernel
theorem dX11_copy_140 : decode cX11_copy 140 = .ok (.iinc 6 1, 3) := by decide +kernel
theorem dX11_copy_143 : decode cX11_copy 143 = .ok (.goto (-59), 3) := by decide +kernel
theorem dX11_copy_146 : decode cX11_copy 146 = .ok (.iload 5, 2) := by decide +kernel
theorem dX11_copy_148 : decode cX11_copy 148 = .ok (.ireturn, 1) := by decide +kernel
theorem dX11_lay_0 : decode cX11_lay 0 = .ok (.aload_n 0, 1) := by decide +kernel
theorem dX11_lay_1 : decode cX11_lay 1 = .ok (.iload_n 1, 1) := by decide +kernel
theorem dX11_lay_2 : decode cX11_lay 2 = .ok (.invokevirtual 307, 3) := by decide +kernel
theorem dX11_lay_5 : decode cX11_lay 5 = .ok (.istore_n 3, 1) := by decide +kernel
theorem dX11_lay_6 : decode cX11_lay 6 = .ok (.iload_n 3, 1) := by decide +kernel
theorem dX11_lay_7 : decode cX11_lay 7 = .ok (.ifCond .eq 5, 3) := by decide +kernel
theorem dX11_lay_10 : decode cX11_lay 10 = .ok (.iload_n 3, 1) := by decide +kernel
theorem dX11_lay_11 : decode cX11_lay 11 = .ok (.ireturn, 1) := by decide +kernel
theorem dX11_lay_12 : decode cX11_lay 12 = .ok (.iconst 0, 1) := by decide +kernel
theorem dX11_lay_13 : decode cX11_lay 13 = .ok (.istore 4, 2) := by decide +kernel
theorem dX11_lay_15 : decode cX11_lay 15 = .ok (.iload 4, 2) := by decide +kernel
theorem dX11_lay_17 : decode cX11_lay 17 = .ok (.aload_n 0, 1) := by decide +kernel
theorem dX11_lay_18 : decode cX11_lay 18 = .ok (.getfield 11, 3) := by decide +kernel
theorem dX11_lay_21 : decode cX11_lay 21 = .ok (.iconst 2, 1) := by decide +kernel
theorem dX11_lay_22 : decode cX11_lay 22 = .ok (.iaload, 1) := by decide +kernel
theorem dX11_lay_23 : decode cX11_lay 23 = .ok (.if_icmp .ge 54, 3) := by decide +kernel
theorem dX11_lay_26 : decode cX11_lay 26 = .ok (.iload_n 2, 1) := by decide +kernel
theorem dX11_lay_27 : decode cX11_lay 27 = .ok (.ifCond .lt 16, 3) := by decide +kernel
theorem dX11_lay_30 : decode cX11_lay 30 = .ok (.iload 4, 2) := by decide +kernel
theorem dX11_lay_32 : decode cX11_lay 32 = .ok (.aload_n 0, 1) := by decide +kernel
theorem dX11_lay_33 : decode cX11_lay 33 = .ok (.getfield 36, 3) := by decide +kernel
theorem dX11_lay_36 : decode cX11_lay 36 = .ok (.iload_n 1, 1) := by decide +kernel
theorem dX11_lay_37 : decode cX11_lay 37 = .ok (.iaload, 1) := by decide +kernel
theorem dX11_lay_38 : decode cX11_lay 38 = .ok (.iload_n 2, 1) := by decide +kernel
theorem dX11_lay_39 : decode cX11_lay 39 = .ok (.isub, 1) := by decide +kernel
theorem dX11_lay_40 : decode cX11_lay 40 = .ok (.if_icmp .lt 6, 3) := by decide +kernel
theorem dX11_lay_43 : decode cX11_lay 43 = .ok (.bipush (-13), 2) := by decide +kernel
theorem dX11_lay_45 : decode cX11_lay 45 = .ok (.ireturn, 1) := by decide +kernel
theorem dX11_lay_46 : decode cX11_lay 46 = .ok (.aload_n 0, 1) := by decide +kernel
theorem dX11_lay_47 : decode cX11_lay 47 = .ok (.getfield 39, 3) := by decide +kernel
theorem dX11_lay_50 : decode cX11_lay 50 = .ok (.bipush 40, 2) := by decide +kernel
theorem dX11_lay_52 : decode cX11_lay 52 = .ok (.iload_n 1, 1) := by decide +kernel
theorem dX11_lay_53 : decode cX11_lay 53 = .ok (.imul, 1) := by decide +kernel
theorem dX11_lay_54 : decode cX11_lay 54 = .ok (.iload_n 2, 1) := by decide +kernel
theorem dX11_lay_55 : decode cX11_lay 55 = .ok (.iadd, 1) := by decide +kernel
theorem dX11_lay_56 : decode cX11_lay 56 = .ok (.iload 4, 2) := by decide +kernel
theorem dX11_lay_58 : decode cX11_lay 58 = .ok (.iadd, 1) := by decide +kernel
theorem dX11_lay_59 : decode cX11_lay 59 = .ok (.aload_n 0, 1) := by decide +kernel
theorem dX11_lay_60 : decode cX11_lay 60 = .ok (.getfield 11, 3) := by decide +kernel
theorem dX11_lay_63 : decode cX11_lay 63 = .ok (.sipush 1518, 3) := by decide +kernel
theorem dX11_lay_66 : decode cX11_lay 66 = .ok (.iload 4, 2) := by decide +kernel
theorem dX11_lay_68 : decode cX11_lay 68 = .ok (.iadd, 1) := by decide +kernel
theorem dX11_lay_69 : decode cX11_lay 69 = .ok (.iaload, 1) := by decide +kernel
theorem dX11_lay_70 : decode cX11_lay 70 = .ok (.iastore, 1) := by decide +kernel
theorem dX11_lay_71 : decode cX11_lay 71 = .ok (.iinc 4 1, 3) := by decide +kernel
theorem dX11_lay_74 : decode cX11_lay 74 = .ok (.goto (-59), 3) := by decide +kernel
theorem dX11_lay_77 : decode cX11_lay 77 = .ok (.aload_n 0, 1) := by decide +kernel
theorem dX11_lay_78 : decode cX11_lay 78 = .ok (.getfield 11, 3) := by decide +kernel
theorem dX11_lay_81 : decode cX11_lay 81 = .ok (.iconst 2, 1) := by decide +kernel
theorem dX11_lay_82 : decode cX11_lay 82 = .ok (.iaload, 1) := by decide +kernel
theorem dX11_lay_83 : decode cX11_lay 83 = .ok (.ireturn, 1) := by decide +kernel
theorem dX11_judge_0 : decode cX11_judge 0 = .ok (.aload_n 0, 1) := by decide +kernel
theorem dX11_judge_1 : decode cX11_judge 1 = .ok (.iload_n 1, 1) := by decide +kernel
theorem dX11_judge_2 : decode cX11_judge 2 = .ok (.invokevirtual 307, 3) := by decide +kernel
theorem dX11_judge_5 : decode cX11_judge 5 = .ok (.istore_n 3, 1) := by decide +kernel
theorem dX11_judge_6 : decode cX11_judge 6 = .ok (.iload_n 3, 1) := by decide +kernel
theorem dX11_judge_7 : decode cX11_judge 7 = .ok (.ifCond .eq 5, 3) := by decide +kernel
theorem dX11_judge_10 : decode cX11_judge 10 = .ok (.iload_n 3, 1) := by decide +kernel
theorem dX11_judge_11 : decode cX11_judge 11 = .ok (.ireturn, 1) := by decide +kernel
theorem dX11_judge_12 : decode cX11_judge 12 = .ok (.iconst 0, 1) := by decide +kernel
theorem dX11_judge_13 : decode cX11_judge 13 = .ok (.istore 4, 2) := by decide +kernel
theorem dX11_judge_15 : decode cX11_judge 15 = .ok (.iload 4, 2) := by decide +kernel
theorem dX11_judge_17 : decode cX11_judge 17 = .ok (.aload_n 0, 1) := by decide +kernel
theorem dX11_judge_18 : decode cX11_judge 18 = .ok (.getfield 11, 3) := by decide +kernel
theorem dX11_judge_21 : decode cX11_judge 21 = .ok (.iconst 2, 1) := by decide +kernel
theorem dX11_judge_22 : decode cX11_judge 22 = .ok (.iaload, 1) := by decide +kernel
theorem dX11_judge_23 : decode cX11_judge 23 = .ok (.if_icmp .ge 64, 3) := by decide +kernel
theorem dX11_judge_26 : decode cX11_judge 26 = .ok (.iload_n 2, 1) := by decide +kernel
theorem dX11_judge_27 : decode cX11_judge 27 = .ok (.ifCond .lt 16, 3) := by decide +kernel
theorem dX11_judge_30 : decode cX11_judge 30 = .ok (.iload 4, 2) := by decide +kernel
theorem dX11_judge_32 : decode cX11_judge 32 = .ok (.aload_n 0, 1) := by decide +kernel
theorem dX11_judge_33 : decode cX11_judge 33 = .ok (.getfield 36, 3) := by decide +kernel
theorem dX11_judge_36 : decode cX11_judge 36 = .ok (.iload_n 1, 1) := by decide +kernel
theorem dX11_judge_37 : decode cX11_judge 37 = .ok (.iaload, 1) := by decide +kernel
theorem dX11_judge_38 : decode cX11_judge 38 = .ok (.iload_n 2, 1) := by decide +kernel
theorem dX11_judge_39 : decode cX11_judge 39 = .ok (.isub, 1) := by decide +kernel
theorem dX11_judge_40 : decode cX11_judge 40 = .ok (.if_icmp .lt 10, 3) := by decide +kernel
theorem dX11_judge_43 : decode cX11_judge 43 = .ok (.sipush 200, 3) := by decide +kernel
theorem dX11_judge_46 : decode cX11_judge 46 = .ok (.iload 4, 2) := by decide +kernel
theorem dX11_judge_48 : decode cX11_judge 48 = .ok (.iadd, 1) := by decide +kernel
theorem dX11_judge_49 : decode cX11_judge 49 = .ok (.ireturn, 1) := by decide +kernel
theorem dX11_judge_50 : decode cX11_judge 50 = .ok (.aload_n 0, 1) := by decide +kernel
theorem dX11_judge_51 : decode cX11_judge 51 = .ok (.getfield 39, 3) := by decide +kernel
theorem dX11_judge_54 : decode cX11_judge 54 = .ok (.bipush 40, 2) := by decide +kernel
theorem dX11_judge_56 : decode cX11_judge 56 = .ok (.iload_n 1, 1) := by decide +kernel
theorem dX11_judge_57 : decode cX11_judge 57 = .ok (.imul, 1) := by decide +kernel
theorem dX11_judge_58 : decode cX11_judge 58 = .ok (.iload_n 2, 1) := by decide +kernel
theorem dX11_judge_59 : decode cX11_judge 59 = .ok (.iadd, 1) := by decide +kernel
theorem dX11_judge_60 : decode cX11_judge 60 = .ok (.iload 4, 2) := by decide +kernel
theorem dX11_judge_62 : decode cX11_judge 62 = .ok (.iadd, 1) := by decide +kernel
theorem dX11_judge_63 : decode cX11_judge 63 = .ok (.iaload, 1) := by decide +kernel
theorem dX11_judge_64 : decode cX11_judge 64 = .ok (.aload_n 0, 1) := by decide +kernel
theorem dX11_judge_65 : decode cX11_judge 65 = .ok (.getfield 11, 3) := by decide +kernel
theorem dX11_judge_68 : decode cX11_judge 68 = .ok (.sipush 1518, 3) := by decide +kernel
theorem dX11_judge_71 : decode cX11_judge 71 = .ok (.iload 4, 2) := by decide +kernel
theorem dX11_judge_73 : decode cX11_judge 73 = .ok (.iadd, 1) := by decide +kernel
theorem dX11_judge_74 : decode cX11_judge 74 = .ok (.iaload, 1) := by decide +kernel
theorem dX11_judge_75 : decode cX11_judge 75 = .ok (.if_icmp .eq 6, 3) := by decide +kernel
theorem dX11_judge_78 : decode cX11_judge 78 = .ok (.iload 4, 2) := by decide +kernel
theorem dX11_judge_80 : decode cX11_judge 80 = .ok (.ireturn, 1) := by decide +kernel
theorem dX11_judge_81 : decode cX11_judge 81 = .ok (.iinc 4 1, 3) := by decide +kernel
theorem dX11_judge_84 : decode cX11_judge 84 = .ok (.goto (-69), 3) := by decide +kernel
theorem dX11_judge_87 : decode cX11_judge 87 = .ok (.bipush (-5), 2) := by decide +kernel
theorem dX11_judge_89 : decode cX11_judge 89 = .ok (.ireturn, 1) := by decide +kernel
theorem dX11_image_0 : decode cX11_image 0 = .ok (.aload_n 0, 1) := by decide +kernel
theorem dX11_image_1 : decode cX11_image 1 = .ok (.getfield 11, 3) := by decide +kernel
theorem dX11_image_4 : decode cX11_image 4 = .ok (.aload_n 0, 1) := by decide +kernel
theorem dX11_image_5 : decode cX11_image 5 = .ok (.getfield 15, 3) := by decide +kernel
theorem dX11_image_8 : decode cX11_image 8 = .ok (.invokestatic 279, 3) := by decide +kernel
theorem dX11_image_11 : decode cX11_image 11 = .ok (.aload_n 0, 1) := by decide +kernel
theorem dX11_image_12 : decode cX11_image 12 = .ok (.iconst 1, 1) := by decide +kernel
theorem dX11_image_13 : decode cX11_image 13 = .ok (.putfield 310, 3) := by decide +kernel
theorem dX11_image_16 : decode cX11_image 16 = .ok (.aload_n 0, 1) := by decide +kernel
theorem dX11_image_17 : decode cX11_image 17 = .ok (.invokevirtual 276, 3) := by decide +kernel
theorem dX11_image_20 : decode cX11_image 20 = .ok (.ireturn, 1) := by decide +kernel
theorem dX11_undo_0 : decode cX11_undo 0 = .ok (.aload_n 0, 1) := by decide +kernel
theorem dX11_undo_1 : decode cX11_undo 1 = .ok (.getfield 310, 3) := by decide +kernel
theorem dX11_undo_4 : decode cX11_undo 4 = .ok (.ifCond .ne 6, 3) := by decide +kernel
theorem dX11_undo_7 : decode cX11_undo 7 = .ok (.bipush (-3), 2) := by decide +kernel
theorem dX11_undo_9 : decode cX11_undo 9 = .ok (.ireturn, 1) := by decide +kernel
theorem dX11_undo_10 : decode cX11_undo 10 = .ok (.aload_n 0, 1) := by decide +kernel
theorem dX11_undo_11 : decode cX11_undo 11 = .ok (.getfield 15, 3) := by decide +kernel
theorem dX11_undo_14 : decode cX11_undo 14 = .ok (.aload_n 0, 1) := by decide +kernel
theorem dX11_undo_15 : decode cX11_undo 15 = .ok (.getfield 11, 3) := by decide +kernel
theorem dX11_undo_18 : decode cX11_undo 18 = .ok (.invokestatic 279, 3) := by decide +kernel
theorem dX11_undo_21 : decode cX11_undo 21 = .ok (.aload_n 0, 1) := by decide +kernel
theorem dX11_undo_22 : decode cX11_undo 22 = .ok (.invokevirtual 276, 3) := by decide +kernel
theorem dX11_undo_25 : decode cX11_undo 25 = .ok (.ireturn, 1) := by decide +kernel
