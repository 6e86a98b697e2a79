theorem dX11_pooled_63 : decode cX11_pooled 63 = .ok (.iconst 1, 1) := by decide +kernel
theorem dX11_pooled_64 : decode cX11_pooled 64 = .ok (.iadd, 1) := by decide +kernel
theorem dX11_pooled_65 : decode cX11_pooled 65 = .ok (.iadd, 1) := by decide +kernel
theorem dX11_pooled_66 : decode cX11_pooled 66 = .ok (.iastore, 1) := by decide +kernel
theorem dX11_pooled_67 : decode cX11_pooled 67 = .ok (.iload_n 3, 1) := by decide +kernel
theorem dX11_pooled_68 : decode cX11_pooled 68 = .ok (.ireturn, 1) := by decide +kernel
theorem dX11_isNamed_0 : decode cX11_isNamed 0 = .ok (.aload_n 0, 1) := by decide +kernel
theorem dX11_isNamed_1 : decode cX11_isNamed 1 = .ok (.getfield 11, 3) := by decide +kernel
theorem dX11_isNamed_4 : decode cX11_isNamed 4 = .ok (.iload_n 1, 1) := by decide +kernel
theorem dX11_isNamed_5 : decode cX11_isNamed 5 = .ok (.iconst 3, 1) := by decide +kernel
theorem dX11_isNamed_6 : decode cX11_isNamed 6 = .ok (.iconst 0, 1) := by decide +kernel
theorem dX11_isNamed_7 : decode cX11_isNamed 7 = .ok (.invokestatic 54, 3) := by decide +kernel
theorem dX11_isNamed_10 : decode cX11_isNamed 10 = .ok (.iaload, 1) := by decide +kernel
theorem dX11_isNamed_11 : decode cX11_isNamed 11 = .ok (.iload 4, 2) := by decide +kernel
theorem dX11_isNamed_13 : decode cX11_isNamed 13 = .ok (.iload_n 3, 1) := by decide +kernel
theorem dX11_isNamed_14 : decode cX11_isNamed 14 = .ok (.isub, 1) := by decide +kernel
theorem dX11_isNamed_15 : decode cX11_isNamed 15 = .ok (.if_icmp .eq 5, 3) := by decide +kernel
theorem dX11_isNamed_18 : decode cX11_isNamed 18 = .ok (.iconst 0, 1) := by decide +kernel
theorem dX11_isNamed_19 : decode cX11_isNamed 19 = .ok (.ireturn, 1) := by decide +kernel
theorem dX11_isNamed_20 : decode cX11_isNamed 20 = .ok (.iload_n 3, 1) := by decide +kernel
theorem dX11_isNamed_21 : decode cX11_isNamed 21 = .ok (.istore 5, 2) := by decide +kernel
theorem dX11_isNamed_23 : decode cX11_isNamed 23 = .ok (.iload 5, 2) := by decide +kernel
theorem dX11_isNamed_25 : decode cX11_isNamed 25 = .ok (.iload 4, 2) := by decide +kernel
theorem dX11_isNamed_27 : decode cX11_isNamed 27 = .ok (.if_icmp .ge 33, 3) := by decide +kernel
theorem dX11_isNamed_30 : decode cX11_isNamed 30 = .ok (.aload_n 0, 1) := by decide +kernel
theorem dX11_isNamed_31 : decode cX11_isNamed 31 = .ok (.getfield 11, 3) := by decide +kernel
theorem dX11_isNamed_34 : decode cX11_isNamed 34 = .ok (.iload_n 1, 1) := by decide +kernel
theorem dX11_isNamed_35 : decode cX11_isNamed 35 = .ok (.bipush 7, 2) := by decide +kernel
theorem dX11_isNamed_37 : decode cX11_isNamed 37 = .ok (.iload 5, 2) := by decide +kernel
theorem dX11_isNamed_39 : decode cX11_isNamed 39 = .ok (.iload_n 3, 1) := by decide +kernel
theorem dX11_isNamed_40 : decode cX11_isNamed 40 = .ok (.isub, 1) := by decide +kernel
theorem dX11_isNamed_41 : decode cX11_isNamed 41 = .ok (.invokestatic 54, 3) := by decide +kernel
theorem dX11_isNamed_44 : decode cX11_isNamed 44 = .ok (.iaload, 1) := by decide +kernel
theorem dX11_isNamed_45 : decode cX11_isNamed 45 = .ok (.aload_n 2, 1) := by decide +kernel
theorem dX11_isNamed_46 : decode cX11_isNamed 46 = .ok (.iload 5, 2) := by decide +kernel
theorem dX11_isNamed_48 : decode cX11_isNamed 48 = .ok (.iaload, 1) := by decide +kernel
theorem dX11_isNamed_49 : decode cX11_isNamed 49 = .ok (.if_icmp .eq 5, 3) := by decide +kernel
theorem dX11_isNamed_52 : decode cX11_isNamed 52 = .ok (.iconst 0, 1) := by decide +kernel
theorem dX11_isNamed_53 : decode cX11_isNamed 53 = .ok (.ireturn, 1) := by decide +kernel
theorem dX11_isNamed_54 : decode cX11_isNamed 54 = .ok (.iinc 5 1, 3) := by decide +kernel
theorem dX11_isNamed_57 : decode cX11_isNamed 57 = .ok (.goto (-34), 3) := by decide +kernel
theorem dX11_isNamed_60 : decode cX11_isNamed 60 = .ok (.iconst 1, 1) := by decide +kernel
theorem dX11_isNamed_61 : decode cX11_isNamed 61 = .ok (.ireturn, 1) := by decide +kernel
theorem dX11_heldBy_0 : decode cX11_heldBy 0 = .ok (.iconst 0, 1) := by decide +kernel
theorem dX11_heldBy_1 : decode cX11_heldBy 1 = .ok (.istore 4, 2) := by decide +kernel
theorem dX11_heldBy_3 : decode cX11_heldBy 3 = .ok (.iload 4, 2) := by decide +kernel
theorem dX11_heldBy_5 : decode cX11_heldBy 5 = .ok (.aload_n 0, 1) := by decide +kernel
theorem dX11_heldBy_6 : decode cX11_heldBy 6 = .ok (.getfield 11, 3) := by decide +kernel
theorem dX11_heldBy_9 : decode cX11_heldBy 9 = .ok (.iconst 1, 1) := by decide +kernel
theorem dX11_heldBy_10 : decode cX11_heldBy 10 = .ok (.iaload, 1) := by decide +kernel
theorem dX11_heldBy_11 : decode cX11_heldBy 11 = .ok (.if_icmp .ge 33, 3) := by decide +kernel
theorem dX11_heldBy_14 : decode cX11_heldBy 14 = .ok (.aload_n 0, 1) := by decide +kernel
theorem dX11_heldBy_15 : decode cX11_heldBy 15 = .ok (.iload 4, 2) := by decide +kernel
theorem dX11_heldBy_17 : decode cX11_heldBy 17 = .ok (.invokevirtual 119, 3) := by decide +kernel
theorem dX11_heldBy_20 : decode cX11_heldBy 20 = .ok (.ifCond .eq 18, 3) := by decide +kernel
theorem dX11_heldBy_23 : decode cX11_heldBy 23 = .ok (.aload_n 0, 1) := by decide +kernel
theorem dX11_heldBy_24 : decode cX11_heldBy 24 = .ok (.iload 4, 2) := by decide +kernel
theorem dX11_heldBy_26 : decode cX11_heldBy 26 = .ok (.aload_n 1, 1) := by decide +kernel
theorem dX11_heldBy_27 : decode cX11_heldBy 27 = .ok (.iload_n 2, 1) := by decide +kernel
theorem dX11_heldBy_28 : decode cX11_heldBy 28 = .ok (.iload_n 3, 1) := by decide +kernel
theorem dX11_heldBy_29 : decode cX11_heldBy 29 = .ok (.invokevirtual 122, 3) := by decide +kernel
theorem dX11_heldBy_32 : decode cX11_heldBy 32 = .ok (.ifCond .eq 6, 3) := by decide +kernel
theorem dX11_heldBy_35 : decode cX11_heldBy 35 = .ok (.iload 4, 2) := by decide +kernel
theorem dX11_heldBy_37 : decode cX11_heldBy 37 = .ok (.ireturn, 1) := by decide +kernel
theorem dX11_heldBy_38 : decode cX11_heldBy 38 = .ok (.iinc 4 1, 3) := by decide +kernel
theorem dX11_heldBy_41 : decode cX11_heldBy 41 = .ok (.goto (-38), 3) := by decide +kernel
theorem dX11_heldBy_44 : decode cX11_heldBy 44 = .ok (.bipush (-5), 2) := by decide +kernel
theorem dX11_heldBy_46 : decode cX11_heldBy 46 = .ok (.ireturn, 1) := by decide +kernel
theorem dX11_names_0 : decode cX11_names 0 = .ok (.aload_n 0, 1) := by decide +kernel
theorem dX11_names_1 : decode cX11_names 1 = .ok (.getfield 11, 3) := by decide +kernel
theorem dX11_names_4 : decode cX11_names 4 = .ok (.iload_n 1, 1) := by decide +kernel
theorem dX11_names_5 : decode cX11_names 5 = .ok (.iconst 3, 1) := by decide +kernel
theorem dX11_names_6 : decode cX11_names 6 = .ok (.iconst 0, 1) := by decide +kernel
theorem dX11_names_7 : decode cX11_names 7 = .ok (.invokestatic 54, 3) := by decide +kernel
theorem dX11_names_10 : decode cX11_names 10 = .ok (.iload 4, 2) := by decide +kernel
theorem dX11_names_12 : decode cX11_names 12 = .ok (.iload_n 3, 1) := by decide +kernel
theorem dX11_names_13 : decode cX11_names 13 = .ok (.isub, 1) := by decide +kernel
theorem dX11_names_14 : decode cX11_names 14 = .ok (.iastore, 1) := by decide +kernel
theorem dX11_names_15 : decode cX11_names 15 = .ok (.iload_n 3, 1) := by decide +kernel
theorem dX11_names_16 : decode cX11_names 16 = .ok (.istore 5, 2) := by decide +kernel
theorem dX11_names_18 : decode cX11_names 18 = .ok (.iload 5, 2) := by decide +kernel
theorem dX11_names_20 : decode cX11_names 20 = .ok (.iload 4, 2) := by decide +kernel
theorem dX11_names_22 : decode cX11_names 22 = .ok (.if_icmp .ge 28, 3) := by decide +kernel
theorem dX11_names_25 : decode cX11_names 25 = .ok (.aload_n 0, 1) := by decide +kernel
theorem dX11_names_26 : decode cX11_names 26 = .ok (.getfield 11, 3) := by decide +kernel
theorem dX11_names_29 : decode cX11_names 29 = .ok (.iload_n 1, 1) := by decide +kernel
theorem dX11_names_30 : decode cX11_names 30 = .ok (.bipush 7, 2) := by decide +kernel
theorem dX11_names_32 : decode cX11_names 32 = .ok (.iload 5, 2) := by decide +kernel
theorem dX11_names_34 : decode cX11_names 34 = .ok (.iload_n 3, 1) := by decide +kernel
theorem dX11_names_35 : decode cX11_names 35 = .ok (.isub, 1) := by decide +kernel
theorem dX11_names_36 : decode cX11_names 36 = .ok (.invokestatic 54, 3) := by decide +kernel
theorem dX11_names_39 : decode cX11_names 39 = .ok (.aload_n 2, 1) := by decide +kernel
theorem dX11_names_40 : decode cX11_names 40 = .ok (.iload 5, 2) := by decide +kernel
theorem dX11_names_42 : decode cX11_names 42 = .ok (.iaload, 1) := by decide +kernel
theorem dX11_names_43 : decode cX11_names 43 = .ok (.iastore, 1) := by decide +kernel
theorem dX11_names_44 : decode cX11_names 44 = .ok (.iinc 5 1, 3) := by decide +kernel
theorem dX11_names_47 : decode cX11_names 47 = .ok (.goto (-29), 3) := by decide +kernel
theorem dX11_names_50 : decode cX11_names 50 = .ok (.return_, 1) := by decide +kernel
theorem dX11_takes_0 : decode cX11_takes 0 = .ok (.aload_n 0, 1) := by decide +kernel
theorem dX11_takes_1 : decode cX11_takes 1 = .ok (.getfield 11, 3) := by decide +kernel
theorem dX11_takes_4 : decode cX11_takes 4 = .ok (.iconst 1, 1) := by decide +kernel
theorem dX11_takes_5 : decode cX11_takes 5 = .ok (.iaload, 1) := by decide +kernel
theorem dX11_takes_6 : decode cX11_takes 6 = .ok (.istore 7, 2) := by decide +kernel
theorem dX11_takes_8 : decode cX11_takes 8 = .ok (.aload_n 0, 1) := by decide +kernel
theorem dX11_takes_9 : decode cX11_takes 9 = .ok (.getfield 11, 3) := by decide +kernel
theorem dX11_takes_12 : decode cX11_takes 12 = .ok (.iconst 1, 1) := by decide +kernel
theorem dX11_takes_13 : decode cX11_takes 13 = .ok (.dup2, 1) := by decide +kernel
theorem dX11_takes_14 : decode cX11_takes 14 = .ok (.iaload, 1) := by decide +kernel
theorem dX11_takes_15 : decode cX11_takes 15 = .ok (.iconst 1, 1) := by decide +kernel
theorem dX11_takes_16 : decode cX11_takes 16 = .ok (.iadd, 1) := by decide +kernel
theorem dX11_takes_17 : decode cX11_takes 17 = .ok (.iastore, 1) := by decide +kernel
theorem dX11_takes_18 : decode cX11_takes 18 = .ok (.aload_n 0, 1) := by decide +kernel
theorem dX11_takes_19 : decode cX11_takes 19 = .ok (.getfield 11, 3) := by decide +kernel
theorem dX11_takes_22 : decode cX11_takes 22 = .ok (.iload 7, 2) := by decide +kernel
theorem dX11_takes_24 : decode cX11_takes 24 = .ok (.iconst 0, 1) := by decide +kernel
theorem dX11_takes_25 : decode cX11_takes 25 = .ok (.iconst 0, 1) := by decide +kernel
theorem dX11_takes_26 : decode cX11_takes 26 = .ok (.invokestatic 54, 3) := by decide +kernel
theorem dX11_takes_29 : decode cX11_takes 29 = .ok (.iconst 0, 1) := by decide +kernel
theorem dX11_takes_30 : decode cX11_takes 30 = .ok (.iastore, 1) := by decide +kernel
theorem dX11_takes_31 : decode cX11_takes 31 = .ok (.aload_n 0, 1) := by decide +kernel
theorem dX11_takes_32 : decode cX11_takes 32 = .ok (.getfield 11, 3) := by decide +kernel
theorem dX11_takes_35 : decode cX11_takes 35 = .ok (.iload 7, 2) := by decide +kernel
theorem dX11_takes_37 : decode cX11_takes 37 = .ok (.iconst 1, 1) := by decide +kernel
theorem dX11_takes_38 : decode cX11_takes 38 = .ok (.iconst 0, 1) := by decide +kernel
theorem dX11_takes_39 : decode cX11_takes 39 = .ok (.invokestatic 54, 3) := by decide +kernel
theorem dX11_takes_42 : decode cX11_takes 42 = .ok (.iload_n 1, 1) := by decide +kernel
theorem dX11_takes_43 : decode cX11_takes 43 = .ok (.iastore, 1) := by decide +kernel
theorem dX11_takes_44 : decode cX11_takes 44 = .ok (.aload_n 0, 1) := by decide +kernel
theorem dX11_takes_45 : decode cX11_takes 45 = .ok (.getfield 11, 3) := by decide +kernel
theorem dX11_takes_48 : decode cX11_takes 48 = .ok (.iload 7, 2) := by decide +kernel
theorem dX11_takes_50 : decode cX11_takes 50 = .ok (.iconst 2, 1) := by decide +kernel
theorem dX11_takes_51 : decode cX11_takes 51 = .ok (.iconst 0, 1) := by decide +kernel
theorem dX11_takes_52 : decode cX11_takes 52 = .ok (.invokestatic 54, 3) := by decide +kernel
theorem dX11_takes_55 : decode cX11_takes 55 = .ok (.aload_n 0, 1) := by decide +kernel
theorem dX11_takes_56 : decode cX11_takes 56 = .ok (.invokevirtual 126, 3) := by decide +kernel
theorem dX11_takes_59 : decode cX11_takes 59 = .ok (.iastore, 1) := by decide +kernel
theorem dX11_takes_60 : decode cX11_takes 60 = .ok (.aload_n 0, 1) := by decide +kernel
theorem dX11_takes_61 : decode cX11_takes 61 = .ok (.iload 7, 2) := by decide +kernel
theorem dX11_takes_63 : decode cX11_takes 63 = .ok (.aload_n 2, 1) := by decide +kernel
theorem dX11_takes_64 : decode cX11_takes 64 = .ok (.iload_n 3, 1) := by decide +kernel
theorem dX11_takes_65 : decode cX11_takes 65 = .ok (.iload 4, 2) := by decide +kernel
theorem dX11_takes_67 : decode cX11_takes 67 = .ok (.invokevirtual 129, 3) := by decide +kernel
theorem dX11_takes_70 : decode cX11_takes 70 = .ok (.aload_n 0, 1) := by decide +kernel
theorem dX11_takes_71 : decode cX11_takes 71 = .ok (.getfield 11, 3) := by decide +kernel
theorem dX11_takes_74 : decode cX11_takes 74 = .ok (.iload 7, 2) := by decide +kernel
theorem dX11_takes_76 : decode cX11_takes 76 = .ok (.iconst 4, 1) := by decide +kernel
theorem dX11_takes_77 : decode cX11_takes 77 = .ok (.iconst 0, 1) := by decide +kernel
theorem dX11_takes_78 : decode cX11_takes 78 = .ok (.invokestatic 54, 3) := by decide +kernel
theorem dX11_takes_81 : decode cX11_takes 81 = .ok (.iload 5, 2) := by decide +kernel
theorem dX11_takes_83 : decode cX11_takes 83 = .ok (.iastore, 1) := by decide +kernel
theorem dX11_takes_84 : decode cX11_takes 84 = .ok (.aload_n 0, 1) := by decide +kernel
theorem dX11_takes_85 : decode cX11_takes 85 = .ok (.getfield 11, 3) := by decide +kernel
theorem dX11_takes_88 : decode cX11_takes 88 = .ok (.iload 7, 2) := by decide +kernel
theorem dX11_takes_90 : decode cX11_takes 90 = .ok (.iconst 5, 1) := by decide +kernel
theorem dX11_takes_91 : decode cX11_takes 91 = .ok (.iconst 0, 1) := by decide +kernel
theorem dX11_takes_92 : decode cX11_takes 92 = .ok (.invokestatic 54, 3) := by decide +kernel
theorem dX11_takes_95 : decode cX11_takes 95 = .ok (.iload 6, 2) := by decide +kernel
theorem dX11_takes_97 : decode cX11_takes 97 = .ok (.iastore, 1) := by decide +kernel
theorem dX11_takes_98 : decode cX11_takes 98 = .ok (.aload_n 0, 1) := by decide +kernel
theorem dX11_takes_99 : decode cX11_takes 99 = .ok (.getfield 11, 3) := by decide +kernel
theorem dX11_takes_102 : decode cX11_takes 102 = .ok (.iload 7, 2) := by decide +kernel
theorem dX11_takes_104 : decode cX11_takes 104 = .ok (.bipush 6, 2) := by decide +kernel
theorem dX11_takes_106 : decode cX11_takes 106 = .ok (.iconst 0, 1) := by decide +kernel
theorem dX11_takes_107 : decode cX11_takes 107 = .ok (.invokestatic 54, 3) := by decide +kernel
theorem dX11_takes_110 : decode cX11_takes 110 = .ok (.bipush (-5), 2) := by decide +kernel
theorem dX11_takes_112 : decode cX11_takes 112 = .ok (.iastore, 1) := by decide +kernel
theorem dX11_takes_113 : decode cX11_takes 113 = .ok (.iload 7, 2) := by decide +kernel
theorem dX11_takes_115 : decode cX11_takes 115 = .ok (.ireturn, 1) := by decide +kernel
theorem dX11_moves_0 : decode cX11_moves 0 = .ok (.aload_n 0, 1) := by decide +kernel
theorem dX11_moves_1 : decode cX11_moves 1 = .ok (.getfield 11, 3) := by decide +kernel
theorem dX11_moves_4 : decode cX11_moves 4 = .ok (.iload_n 1, 1) := by decide +kernel
theorem dX11_moves_5 : decode cX11_moves 5 = .ok (.iconst 1, 1) := by decide +kernel
theorem dX11_moves_6 : decode cX11_moves 6 = .ok (.iconst 0, 1) := by decide +kernel
theorem dX11_moves_7 : decode cX11_moves 7 = .ok (.invokestatic 54, 3) := by decide +kernel
theorem dX11_moves_10 : decode cX11_moves 10 = .ok (.iload_n 2, 1) := by decide +kernel
theorem dX11_moves_11 : decode cX11_moves 11 = .ok (.iastore, 1) := by decide +kernel
theorem dX11_moves_12 : decode cX11_moves 12 = .ok (.aload_n 0, 1) := by decide +kernel
theorem dX11_moves_13 : decode cX11_moves 13 = .ok (.getfield 11, 3) := by decide +kernel
theorem dX11_moves_16 : decode cX11_moves 16 = .ok (.iload_n 1, 1) := by decide +kernel
theorem dX11_moves_17 : decode cX11_moves 17 = .ok (.iconst 2, 1) := by decide +kernel
theorem dX11_moves_18 : decode cX11_moves 18 = .ok (.iconst 0, 1) := by decide +kernel
theorem dX11_moves_19 : decode cX11_moves 19 = .ok (.invokestatic 54, 3) := by decide +kernel
theorem dX11_moves_22 : decode cX11_moves 22 = .ok (.aload_n 0, 1) := by decide +kernel
theorem dX11_moves_23 : decode cX11_moves 23 = .ok (.invokevirtual 126, 3) := by decide +kernel
theorem dX11_moves_26 : decode cX11_moves 26 = .ok (.iastore, 1) := by decide +kernel
theorem dX11_moves_27 : decode cX11_moves 27 = .ok (.return_, 1) := by decide +kernel
theorem dX11_gathers_0 : decode cX11_gathers 0 = .ok (.aload_n 0, 1) := by decide +kernel
theorem dX11_gathers_1 : decode cX11_gathers 1 = .ok (.getfield 133, 3) := by decide +kernel
theorem dX11_gathers_4 : decode cX11_gathers 4 = .ok (.ifCond .ge 52, 3) := by decide +kernel
theorem dX11_gathers_7 : decode cX11_gathers 7 = .ok (.aload_n 0, 1) := by decide +kernel
theorem dX11_gathers_8 : decode cX11_gathers 8 = .ok (.getfield 11, 3) := by decide +kernel
theorem dX11_gathers_11 : decode cX11_gathers 11 = .ok (.sipush 2688, 3) := by decide +kernel
theorem dX11_gathers_14 : decode cX11_gathers 14 = .ok (.iconst 2, 1) := by decide +kernel
theorem dX11_gathers_15 : decode cX11_gathers 15 = .ok (.aload_n 0, 1) := by decide +kernel
theorem dX11_gathers_16 : decode cX11_gathers 16 = .ok (.getfield 11, 3) := by decide +kernel
theorem dX11_gathers_19 : decode cX11_gathers 19 = .ok (.iconst 5, 1) := by decide +kernel
theorem dX11_gathers_20 : decode cX11_gathers 20 = .ok (.iaload, 1) := by decide +kernel
theorem dX11_gathers_21 : decode cX11_gathers 21 = .ok (.imul, 1) := by decide +kernel
theorem dX11_gathers_22 : decode cX11_gathers 22 = .ok (.iadd, 1) := by decide +kernel
theorem dX11_gathers_23 : decode cX11_gathers 23 = .ok (.iload_n 1, 1) := by decide +kernel
theorem dX11_gathers_24 : decode cX11_gathers 24 = .ok (.iastore, 1) := by decide +kernel
theorem dX11_gathers_25 : decode cX11_gathers 25 = .ok (.aload_n 0, 1) := by decide +kernel
theorem dX11_gathers_26 : decode cX11_gathers 26 = .ok (.getfield 11, 3) := by decide +kernel
theorem dX11_gathers_29 : decode cX11_gathers 29 = .ok (.sipush 2688, 3) := by decide +kernel
theorem dX11_gathers_32 : decode cX11_gathers 32 = .ok (.iconst 2, 1) := by decide +kernel
theorem dX11_gathers_33 : decode cX11_gathers 33 = .ok (.aload_n 0, 1) := by decide +kernel
theorem dX11_gathers_34 : decode cX11_gathers 34 = .ok (.getfield 11, 3) := by decide +kernel
theorem dX11_gathers_37 : decode cX11_gathers 37 = .ok (.iconst 5, 1) := by decide +kernel
theorem dX11_gathers_38 : decode cX11_gathers 38 = .ok (.iaload, 1) := by decide +kernel
theorem dX11_gathers_39 : decode cX11_gathers 39 = .ok (.imul, 1) := by decide +kernel
theorem dX11_gathers_40 : decode cX11_gathers 40 = .ok (.iadd, 1) := by decide +kernel
theorem dX11_gathers_41 : decode cX11_gathers 41 = .ok (.iconst 1, 1) := by decide +kernel
theorem dX11_gathers_42 : decode cX11_gathers 42 = .ok (.iadd, 1) := by decide +kernel
theorem dX11_gathers_43 : decode cX11_gathers 43 = .ok (.iload_n 2, 1) := by decide +kernel
theorem dX11_gathers_44 : decode cX11_gathers 44 = .ok (.iastore, 1) := by decide +kernel
theorem dX11_gathers_45 : decode cX11_gathers 45 = .ok (.aload_n 0, 1) := by decide +kernel
theorem dX11_gathers_46 : decode cX11_gathers 46 = .ok (.getfield 11, 3) := by decide +kernel
theorem dX11_gathers_49 : decode cX11_gathers 49 = .ok (.iconst 5, 1) := by decide +kernel
theorem dX11_gathers_50 : decode cX11_gathers 50 = .ok (.dup2, 1) := by decide +kernel
theorem dX11_gathers_51 : decode cX11_gathers 51 = .ok (.iaload, 1) := by decide +kernel
theorem dX11_gathers_52 : decode cX11_gathers 52 = .ok (.iconst 1, 1) := by decide +kernel
theorem dX11_gathers_53 : decode cX11_gathers 53 = .ok (.iadd, 1) := by decide +kernel
theorem dX11_gathers_54 : decode cX11_gathers 54 = .ok (.iastore, 1) := by decide +kernel
theorem dX11_gathers_55 : decode cX11_gathers 55 = .ok (.return_, 1) := by decide +kernel
theorem dX11_gathers_56 : decode cX11_gathers 56 = .ok (.sipush 2328, 3) := by decide +kernel
theorem dX11_gathers_59 : decode cX11_gathers 59 = .ok (.iconst 3, 1) := by decide +kernel
theorem dX11_gathers_60 : decode cX11_gathers 60 = .ok (.aload_n 0, 1) := by decide +kernel
theorem dX11_gathers_61 : decode cX11_gathers 61 = .ok (.getfield 11, 3) := by decide +kernel
theorem dX11_gathers_64 : decode cX11_gathers 64 = .ok (.iconst 4, 1) := by decide +kernel
theorem dX11_gathers_65 : decode cX11_gathers 65 = .ok (.iaload, 1) := by decide +kernel
theorem dX11_gathers_66 : decode cX11_gathers 66 = .ok (.imul, 1) := by decide +kernel
theorem dX11_gathers_67 : decode cX11_gathers 67 = .ok (.iadd, 1) := by decide +kernel
theorem dX11_gathers_68 : decode cX11_gathers 68 = .ok (.istore_n 3, 1) := by decide +kernel
theorem dX11_gathers_69 : decode cX11_gathers 69 = .ok (.aload_n 0, 1) := by decide +kernel
theorem dX11_gathers_70 : decode cX11_gathers 70 = .ok (.getfield 11, 3) := by decide +kernel
theorem dX11_gathers_73 : decode cX11_gathers 73 = .ok (.iload_n 3, 1) := by decide +kernel
theorem dX11_gathers_74 : decode cX11_gathers 74 = .ok (.aload_n 0, 1) := by decide +kernel
theorem dX11_gathers_75 : decode cX11_gathers 75 = .ok (.getfield 133, 3) := by decide +kernel
theorem dX11_gathers_78 : decode cX11_gathers 78 = .ok (.iastore, 1) := by decide +kernel
theorem dX11_gathers_79 : decode cX11_gathers 79 = .ok (.aload_n 0, 1) := by decide +kernel
theorem dX11_gathers_80 : decode cX11_gathers 80 = .ok (.getfield 11, 3) := by decide +kernel
theorem dX11_gathers_83 : decode cX11_gathers 83 = .ok (.iload_n 3, 1) := by decide +kernel
theorem dX11_gathers_84 : decode cX11_gathers 84 = .ok (.iconst 1, 1) := by decide +kernel
theorem dX11_gathers_85 : decode cX11_gathers 85 = .ok (.iadd, 1) := by decide +kernel
theorem dX11_gathers_86 : decode cX11_gathers 86 = .ok (.iload_n 1, 1) := by decide +kernel
theorem dX11_gathers_87 : decode cX11_gathers 87 = .ok (.iastore, 1) := by decide +kernel
theorem dX11_gathers_88 : decode cX11_gathers 88 = .ok (.aload_n 0, 1) := by decide +kernel
theorem dX11_gathers_89 : decode cX11_gathers 89 = .ok (.getfield 11, 3) := by decide +kernel
theorem dX11_gathers_92 : decode cX11_gathers 92 = .ok (.iload_n 3, 1) := by decide +kernel
theorem dX11_gathers_93 : decode cX11_gathers 93 = .ok (.iconst 2, 1) := by decide +kernel
theorem dX11_gathers_94 : decode cX11_gathers 94 = .ok (.iadd, 1) := by decide +kernel
theorem dX11_gathers_95 : decode cX11_gathers 95 = .ok (.iload_n 2, 1) := by decide +kernel
theorem dX11_gathers_96 : decode cX11_gathers 96 = .ok (.iastore, 1) := by decide +kernel
theorem dX11_gathers_97 : decode cX11_gathers 97 = .ok (.aload_n 0, 1) := by decide +kernel
theorem dX11_gathers_98 : decode cX11_gathers 98 = .ok (.getfield 11, 3) := by decide +kernel
theorem dX11_gathers_101 : decode cX11_gathers 101 = .ok (.iconst 4, 1) := by decide +kernel
theorem dX11_gathers_102 : decode cX11_gathers 102 = .ok (.dup2, 1) := by decide +kernel
theorem dX11_gathers_103 : decode cX11_gathers 103 = .ok (.iaload, 1) := by decide +kernel
theorem dX11_gathers_104 : decode cX11_gathers 104 = .ok (.iconst 1, 1) := by decide +kernel
theorem dX11_gathers_105 : decode cX11_gathers 105 = .ok (.iadd, 1) := by decide +kernel
theorem dX11_gathers_106 : decode cX11_gathers 106 = .ok (.iastore, 1) := by decide +kernel
theorem dX11_gathers_107 : decode cX11_gathers 107 = .ok (.return_, 1) := by decide +kernel
theorem dX11_closes_0 : decode cX11_closes 0 = .ok (.aload_n 0, 1) := by decide +kernel
theorem dX11_closes_1 : decode cX11_closes 1 = .ok (.iload_n 1, 1) := by decide +kernel
theorem dX11_closes_2 : decode cX11_closes 2 = .ok (.invokevirtual 119, 3) := by decide +kernel
theorem dX11_closes_5 : decode cX11_closes 5 = .ok (.ifCond .ne 4, 3) := by decide +kernel
theorem dX11_closes_8 : decode cX11_closes 8 = .ok (.return_, 1) := by decide +kernel
theorem dX11_closes_9 : decode cX11_closes 9 = .ok (.aload_n 0, 1) := by decide +kernel
theorem dX11_closes_10 : decode cX11_closes 10 = .ok (.getfield 11, 3) := by decide +kernel
theorem dX11_closes_13 : decode cX11_closes 13 = .ok (.iload_n 1, 1) := by decide +kernel
theorem dX11_closes_14 : decode cX11_closes 14 = .ok (.iconst 0, 1) := by decide +kernel
theorem dX11_closes_15 : decode cX11_closes 15 = .ok (.iconst 0, 1) := by decide +kernel
theorem dX11_closes_16 : decode cX11_closes 16 = .ok (.invokestatic 54, 3) := by decide +kernel
theorem dX11_closes_19 : decode cX11_closes 19 = .ok (.iconst 1, 1) := by decide +kernel
theorem dX11_closes_20 : decode cX11_closes 20 = .ok (.iastore, 1) := by decide +kernel
theorem dX11_closes_21 : decode cX11_closes 21 = .ok (.iconst 0, 1) := by decide +kernel
theorem dX11_closes_22 : decode cX11_closes 22 = .ok (.istore_n 2, 1) := by decide +kernel
theorem dX11_closes_23 : decode cX11_closes 23 = .ok (.aload_n 0, 1) := by decide +kernel
theorem dX11_closes_24 : decode cX11_closes 24 = .ok (.getfield 11, 3) := by decide +kernel
theorem dX11_closes_27 : decode cX11_closes 27 = .ok (.iload_n 1, 1) := by decide +kernel
theorem dX11_closes_28 : decode cX11_closes 28 = .ok (.iconst 4, 1) := by decide +kernel
theorem dX11_closes_29 : decode cX11_closes 29 = .ok (.iconst 0, 1) := by decide +kernel
theorem dX11_closes_30 : decode cX11_closes 30 = .ok (.invokestatic 54, 3) := by decide +kernel
theorem dX11_closes_33 : decode cX11_closes 33 = .ok (.iaload, 1) := by decide +kernel
theorem dX11_closes_34 : decode cX11_closes 34 = .ok (.istore_n 3, 1) := by decide +kernel
theorem dX11_closes_35 : decode cX11_closes 35 = .ok (.aload_n 0, 1) := by decide +kernel
theorem dX11_closes_36 : decode cX11_closes 36 = .ok (.getfield 11, 3) := by decide +kernel
theorem dX11_closes_39 : decode cX11_closes 39 = .ok (.iload_n 1, 1) := by decide +kernel
theorem dX11_closes_40 : decode cX11_closes 40 = .ok (.iconst 5, 1) := by decide +kernel
theorem dX11_closes_41 : decode cX11_closes 41 = .ok (.iconst 0, 1) := by decide +kernel
theorem dX11_closes_42 : decode cX11_closes 42 = .ok (.invokestatic 54, 3) := by decide +kernel
theorem dX11_closes_45 : decode cX11_closes 45 = .ok (.iaload, 1) := by decide +kernel
theorem dX11_closes_46 : decode cX11_closes 46 = .ok (.istore 4, 2) := by decide +kernel
theorem dX11_closes_48 : decode cX11_closes 48 = .ok (.iload_n 2, 1) := by decide +kernel
theorem dX11_closes_49 : decode cX11_closes 49 = .ok (.ifCond .ne 39, 3) := by decide +kernel
theorem dX11_closes_52 : decode cX11_closes 52 = .ok (.iload_n 3, 1) := by decide +kernel
theorem dX11_closes_53 : decode cX11_closes 53 = .ok (.iload 4, 2) := by decide +kernel
theorem dX11_closes_55 : decode cX11_closes 55 = .ok (.if_icmp .ge 33, 3) := by decide +kernel
theorem dX11_closes_58 : decode cX11_closes 58 = .ok (.aload_n 0, 1) := by decide +kernel
theorem dX11_closes_59 : decode cX11_closes 59 = .ok (.iload_n 3, 1) := by decide +kernel
theorem dX11_closes_60 : decode cX11_closes 60 = .ok (.aload_n 0, 1) := by decide +kernel
theorem dX11_closes_61 : decode cX11_closes 61 = .ok (.getfield 11, 3) := by decide +kernel
theorem dX11_closes_64 : decode cX11_closes 64 = .ok (.iload_n 1, 1) := by decide +kernel
theorem dX11_closes_65 : decode cX11_closes 65 = .ok (.iconst 1, 1) := by decide +kernel
theorem dX11_closes_66 : decode cX11_closes 66 = .ok (.iconst 0, 1) := by decide +kernel
theorem dX11_closes_67 : decode cX11_closes 67 = .ok (.invokestatic 54, 3) := by decide +kernel
theorem dX11_closes_70 : decode cX11_closes 70 = .ok (.iaload, 1) := by decide +kernel
theorem dX11_closes_71 : decode cX11_closes 71 = .ok (.invokevirtual 136, 3) := by decide +kernel
theorem dX11_closes_74 : decode cX11_closes 74 = .ok (.istore_n 2, 1) := by decide +kernel
theorem dX11_closes_75 : decode cX11_closes 75 = .ok (.aload_n 0, 1) := by decide +kernel
theorem dX11_closes_76 : decode cX11_closes 76 = .ok (.iload_n 3, 1) := by decide +kernel
theorem dX11_closes_77 : decode cX11_closes 77 = .ok (.iload 4, 2) := by decide +kernel
theorem dX11_closes_79 : decode cX11_closes 79 = .ok (.invokevirtual 139, 3) := by decide +kernel
theorem dX11_closes_82 : decode cX11_closes 82 = .ok (.iconst 1, 1) := by decide +kernel
theorem dX11_closes_83 : decode cX11_closes 83 = .ok (.iadd, 1) := by decide +kernel
theorem dX11_closes_84 : decode cX11_closes 84 = .ok (.istore_n 3, 1) := by decide +kernel
theorem dX11_closes_85 : decode cX11_closes 85 = .ok (.goto (-37), 3) := by decide +kernel
theorem dX11_closes_88 : decode cX11_closes 88 = .ok (.iload_n 2, 1) := by decide +kernel
theorem dX11_closes_89 : decode cX11_closes 89 = .ok (.ifCond .eq 9, 3) := by decide +kernel
theorem dX11_closes_92 : decode cX11_closes 92 = .ok (.aload_n 0, 1) := by decide +kernel
theorem dX11_closes_93 : decode cX11_closes 93 = .ok (.iload_n 2, 1) := by decide +kernel
theorem dX11_closes_94 : decode cX11_closes 94 = .ok (.iload_n 1, 1) := by decide +kernel
theorem dX11_closes_95 : decode cX11_closes 95 = .ok (.invokevirtual 142, 3) := by decide +kernel
theorem dX11_closes_98 : decode cX11_closes 98 = .ok (.aload_n 0, 1) := by decide +kernel
theorem dX11_closes_99 : decode cX11_closes 99 = .ok (.getfield 11, 3) := by decide +kernel
theorem dX11_closes_102 : decode cX11_closes 102 = .ok (.iload_n 1, 1) := by decide +kernel
theorem dX11_closes_103 : decode cX11_closes 103 = .ok (.iconst 0, 1) := by decide +kernel
theorem dX11_closes_104 : decode cX11_closes 104 = .ok (.iconst 0, 1) := by decide +kernel
theorem dX11_closes_105 : decode cX11_closes 105 = .ok (.invokestatic 54, 3) := by decide +kernel
theorem dX11_closes_108 : decode cX11_closes 108 = .ok (.iconst 2, 1) := by decide +kernel
theorem dX11_closes_109 : decode cX11_closes 109 = .ok (.iastore, 1) := by decide +kernel
theorem dX11_closes_110 : decode cX11_closes 110 = .ok (.aload_n 0, 1) := by decide +kernel
theorem dX11_closes_111 : decode cX11_closes 111 = .ok (.getfield 11, 3) := by decide +kernel
theorem dX11_closes_114 : decode cX11_closes 114 = .ok (.iload_n 1, 1) := by decide +kernel
theorem dX11_closes_115 : decode cX11_closes 115 = .ok (.bipush 6, 2) := by decide +kernel
theorem dX11_closes_117 : decode cX11_closes 117 = .ok (.iconst 0, 1) := by decide +kernel
theorem dX11_closes_118 : decode cX11_closes 118 = .ok (.invokestatic 54, 3) := by decide +kernel
theorem dX11_closes_121 : decode cX11_closes 121 = .ok (.aload_n 0, 1) := by decide +kernel
theorem dX11_closes_122 : decode cX11_closes 122 = .ok (.getfield 11, 3) := by decide +kernel
theorem dX11_closes_125 : decode cX11_closes 125 = .ok (.iconst 2, 1) := by decide +kernel
theorem dX11_closes_126 : decode cX11_closes 126 = .ok (.iaload, 1) := by decide +kernel
theorem dX11_closes_127 : decode cX11_closes 127 = .ok (.iastore, 1) := by decide +kernel
theorem dX11_closes_128 : decode cX11_closes 128 = .ok (.aload_n 0, 1) := by decide +kernel
theorem dX11_closes_129 : decode cX11_closes 129 = .ok (.getfield 11, 3) := by decide +kernel
theorem dX11_closes_132 : decode cX11_closes 132 = .ok (.sipush 1518, 3) := by decide +kernel
theorem dX11_closes_135 : decode cX11_closes 135 = .ok (.aload_n 0, 1) := by decide +kernel
theorem dX11_closes_136 : decode cX11_closes 136 = .ok (.getfield 11, 3) := by decide +kernel
theorem dX11_closes_139 : decode cX11_closes 139 = .ok (.iconst 2, 1) := by decide +kernel
theorem dX11_closes_140 : decode cX11_closes 140 = .ok (.iaload, 1) := by decide +kernel
theorem dX11_closes_141 : decode cX11_closes 141 = .ok (.iadd, 1) := by decide +kernel
theorem dX11_closes_142 : decode cX11_closes 142 = .ok (.iload_n 1, 1) := by decide +kernel
theorem dX11_closes_143 : decode cX11_closes 143 = .ok (.iastore, 1) := by decide +kernel
theorem dX11_closes_144 : decode cX11_closes 144 = .ok (.aload_n 0, 1) := by decide +kernel
theorem dX11_closes_145 : decode cX11_closes 145 = .ok (.getfield 11, 3) := by decide +kernel
theorem dX11_closes_148 : decode cX11_closes 148 = .ok (.iconst 2, 1) := by decide +kernel
theorem dX11_closes_149 : decode cX11_closes 149 = .ok (.dup2, 1) := by decide +kernel
theorem dX11_closes_150 : decode cX11_closes 150 = .ok (.iaload, 1) := by decide +kernel
theorem dX11_closes_151 : decode cX11_closes 151 = .ok (.iconst 1, 1) := by decide +kernel
theorem dX11_closes_152 : decode cX11_closes 152 = .ok (.iadd, 1) := by decide +kernel
theorem dX11_closes_153 : decode cX11_closes 153 = .ok (.iastore, 1) := by decide +kernel
theorem dX11_closes_154 : decode cX11_closes 154 = .ok (.return_, 1) := by decide +kernel
theorem dX11_behind_0 : decode cX11_behind 0 = .ok (.iload_n 1, 1) := by decide +kernel
theorem dX11_behind_1 : decode cX11_behind 1 = .ok (.istore_n 3, 1) := by decide +kernel
theorem dX11_behind_2 : decode cX11_behind 2 = .ok (.iconst 0, 1) := by decide +kernel
theorem dX11_behind_3 : decode cX11_behind 3 = .ok (.istore 4, 2) := by decide +kernel
theorem dX11_behind_5 : decode cX11_behind 5 = .ok (.iload_n 3, 1) := by decide +kernel
theorem dX11_behind_6 : decode cX11_behind 6 = .ok (.iload_n 2, 1) := by decide +kernel
theorem dX11_behind_7 : decode cX11_behind 7 = .ok (.if_icmp .ge 61, 3) := by decide +kernel
theorem dX11_behind_10 : decode cX11_behind 10 = .ok (.iload 4, 2) := by decide +kernel
theorem dX11_behind_12 : decode cX11_behind 12 = .ok (.ifCond .gt 14, 3) := by decide +kernel
theorem dX11_behind_15 : decode cX11_behind 15 = .ok (.aload_n 0, 1) := by decide +kernel
theorem dX11_behind_16 : decode cX11_behind 16 = .ok (.getfield 21, 3) := by decide +kernel
theorem dX11_behind_19 : decode cX11_behind 19 = .ok (.iload_n 3, 1) := by decide +kernel
theorem dX11_behind_20 : decode cX11_behind 20 = .ok (.iaload, 1) := by decide +kernel
theorem dX11_behind_21 : decode cX11_behind 21 = .ok (.bipush 59, 2) := by decide +kernel
theorem dX11_behind_23 : decode cX11_behind 23 = .ok (.if_icmp .eq 45, 3) := by decide +kernel
theorem dX11_behind_26 : decode cX11_behind 26 = .ok (.iload 4, 2) := by decide +kernel
theorem dX11_behind_28 : decode cX11_behind 28 = .ok (.aload_n 0, 1) := by decide +kernel
theorem dX11_behind_29 : decode cX11_behind 29 = .ok (.getfield 21, 3) := by decide +kernel
theorem dX11_behind_32 : decode cX11_behind 32 = .ok (.iload_n 3, 1) := by decide +kernel
theorem dX11_behind_33 : decode cX11_behind 33 = .ok (.iaload, 1) := by decide +kernel
theorem dX11_behind_34 : decode cX11_behind 34 = .ok (.bipush 123, 2) := by decide +kernel
theorem dX11_behind_36 : decode cX11_behind 36 = .ok (.if_icmp .ne 7, 3) := by decide +kernel
theorem dX11_behind_39 : decode cX11_behind 39 = .ok (.iconst 1, 1) := by decide +kernel
theorem dX11_behind_40 : decode cX11_behind 40 = .ok (.goto 19, 3) := by decide +kernel
theorem dX11_behind_43 : decode cX11_behind 43 = .ok (.aload_n 0, 1) := by decide +kernel
theorem dX11_behind_44 : decode cX11_behind 44 = .ok (.getfield 21, 3) := by decide +kernel
theorem dX11_behind_47 : decode cX11_behind 47 = .ok (.iload_n 3, 1) := by decide +kernel
theorem dX11_behind_48 : decode cX11_behind 48 = .ok (.iaload, 1) := by decide +kernel
theorem dX11_behind_49 : decode cX11_behind 49 = .ok (.bipush 125, 2) := by decide +kernel
theorem dX11_behind_51 : decode cX11_behind 51 = .ok (.if_icmp .ne 7, 3) := by decide +kernel
theorem dX11_behind_54 : decode cX11_behind 54 = .ok (.iconst (-1), 1) := by decide +kernel
theorem dX11_behind_55 : decode cX11_behind 55 = .ok (.goto 4, 3) := by decide +kernel
theorem dX11_behind_58 : decode cX11_behind 58 = .ok (.iconst 0, 1) := by decide +kernel
theorem dX11_behind_59 : decode cX11_behind 59 = .ok (.iadd, 1) := by decide +kernel
theorem dX11_behind_60 : decode cX11_behind 60 = .ok (.istore 4, 2) := by decide +kernel
theorem dX11_behind_62 : decode cX11_behind 62 = .ok (.iinc 3 1, 3) := by decide +kernel
theorem dX11_behind_65 : decode cX11_behind 65 = .ok (.goto (-60), 3) := by decide +kernel
theorem dX11_behind_68 : decode cX11_behind 68 = .ok (.iload_n 3, 1) := by decide +kernel
theorem dX11_behind_69 : decode cX11_behind 69 = .ok (.ireturn, 1) := by decide +kernel
theorem dX11_lastOf_0 : decode cX11_lastOf 0 = .ok (.bipush (-5), 2) := by decide +kernel
theorem dX11_lastOf_2 : decode cX11_lastOf 2 = .ok (.istore_n 2, 1) := by decide +kernel
theorem dX11_lastOf_3 : decode cX11_lastOf 3 = .ok (.iconst (-1), 1) := by decide +kernel
theorem dX11_lastOf_4 : decode cX11_lastOf 4 = .ok (.istore_n 3, 1) := by decide +kernel
theorem dX11_lastOf_5 : decode cX11_lastOf 5 = .ok (.iconst 0, 1) := by decide +kernel
theorem dX11_lastOf_6 : decode cX11_lastOf 6 = .ok (.istore 4, 2) := by decide +kernel
theorem dX11_lastOf_8 : decode cX11_lastOf 8 = .ok (.iload 4, 2) := by decide +kernel
theorem dX11_lastOf_10 : decode cX11_lastOf 10 = .ok (.aload_n 0, 1) := by decide +kernel
theorem dX11_lastOf_11 : decode cX11_lastOf 11 = .ok (.getfield 11, 3) := by decide +kernel
theorem dX11_lastOf_14 : decode cX11_lastOf 14 = .ok (.iconst 1, 1) := by decide +kernel
theorem dX11_lastOf_15 : decode cX11_lastOf 15 = .ok (.iaload, 1) := by decide +kernel
theorem dX11_lastOf_16 : decode cX11_lastOf 16 = .ok (.if_icmp .ge 69, 3) := by decide +kernel
theorem dX11_lastOf_19 : decode cX11_lastOf 19 = .ok (.aload_n 0, 1) := by decide +kernel
theorem dX11_lastOf_20 : decode cX11_lastOf 20 = .ok (.iload 4, 2) := by decide +kernel
theorem dX11_lastOf_22 : decode cX11_lastOf 22 = .ok (.invokevirtual 119, 3) := by decide +kernel
theorem dX11_lastOf_25 : decode cX11_lastOf 25 = .ok (.ifCond .eq 54, 3) := by decide +kernel
theorem dX11_lastOf_28 : decode cX11_lastOf 28 = .ok (.aload_n 0, 1) := by decide +kernel
theorem dX11_lastOf_29 : decode cX11_lastOf 29 = .ok (.getfield 11, 3) := by decide +kernel
theorem dX11_lastOf_32 : decode cX11_lastOf 32 = .ok (.iload 4, 2) := by decide +kernel
theorem dX11_lastOf_34 : decode cX11_lastOf 34 = .ok (.iconst 1, 1) := by decide +kernel
theorem dX11_lastOf_35 : decode cX11_lastOf 35 = .ok (.iconst 0, 1) := by decide +kernel
theorem dX11_lastOf_36 : decode cX11_lastOf 36 = .ok (.invokestatic 54, 3) := by decide +kernel
theorem dX11_lastOf_39 : decode cX11_lastOf 39 = .ok (.iaload, 1) := by decide +kernel
theorem dX11_lastOf_40 : decode cX11_lastOf 40 = .ok (.iload_n 1, 1) := by decide +kernel
theorem dX11_lastOf_41 : decode cX11_lastOf 41 = .ok (.if_icmp .ne 38, 3) := by decide +kernel
theorem dX11_lastOf_44 : decode cX11_lastOf 44 = .ok (.aload_n 0, 1) := by decide +kernel
theorem dX11_lastOf_45 : decode cX11_lastOf 45 = .ok (.getfield 11, 3) := by decide +kernel
theorem dX11_lastOf_48 : decode cX11_lastOf 48 = .ok (.iload 4, 2) := by decide +kernel
theorem dX11_lastOf_50 : decode cX11_lastOf 50 = .ok (.iconst 2, 1) := by decide +kernel
theorem dX11_lastOf_51 : decode cX11_lastOf 51 = .ok (.iconst 0, 1) := by decide +kernel
theorem dX11_lastOf_52 : decode cX11_lastOf 52 = .ok (.invokestatic 54, 3) := by decide +kernel
theorem dX11_lastOf_55 : decode cX11_lastOf 55 = .ok (.iaload, 1) := by decide +kernel
theorem dX11_lastOf_56 : decode cX11_lastOf 56 = .ok (.iload_n 3, 1) := by decide +kernel
theorem dX11_lastOf_57 : decode cX11_lastOf 57 = .ok (.if_icmp .ge 6, 3) := by decide +kernel
theorem dX11_lastOf_60 : decode cX11_lastOf 60 = .ok (.goto 19, 3) := by decide +kernel
theorem dX11_lastOf_63 : decode cX11_lastOf 63 = .ok (.iload 4, 2) := by decide +kernel
theorem dX11_lastOf_65 : decode cX11_lastOf 65 = .ok (.istore_n 2, 1) := by decide +kernel
theorem dX11_lastOf_66 : decode cX11_lastOf 66 = .ok (.aload_n 0, 1) := by decide +kernel
theorem dX11_lastOf_67 : decode cX11_lastOf 67 = .ok (.getfield 11, 3) := by decide +kernel
theorem dX11_lastOf_70 : decode cX11_lastOf 70 = .ok (.iload 4, 2) := by decide +kernel
theorem dX11_lastOf_72 : decode cX11_lastOf 72 = .ok (.iconst 2, 1) := by decide +kernel
theorem dX11_lastOf_73 : decode cX11_lastOf 73 = .ok (.iconst 0, 1) := by decide +kernel
theorem dX11_lastOf_74 : decode cX11_lastOf 74 = .ok (.invokestatic 54, 3) := by decide +kernel
theorem dX11_lastOf_77 : decode cX11_lastOf 77 = .ok (.iaload, 1) := by decide +kernel
theorem dX11_lastOf_78 : decode cX11_lastOf 78 = .ok (.istore_n 3, 1) := by decide +kernel
theorem dX11_lastOf_79 : decode cX11_lastOf 79 = .ok (.iinc 4 1, 3) := by decide +kernel
theorem dX11_lastOf_82 : decode cX11_lastOf 82 = .ok (.goto (-74), 3) := by decide +kernel
theorem dX11_lastOf_85 : decode cX11_lastOf 85 = .ok (.iconst 1, 1) := by decide +kernel
theorem dX11_lastOf_86 : decode cX11_lastOf 86 = .ok (.istore 4, 2) := by decide +kernel
theorem dX11_lastOf_88 : decode cX11_lastOf 88 = .ok (.iload 4, 2) := by decide +kernel
theorem dX11_lastOf_90 : decode cX11_lastOf 90 = .ok (.aload_n 0, 1) := by decide +kernel
theorem dX11_lastOf_91 : decode cX11_lastOf 91 = .ok (.getfield 11, 3) := by decide +kernel
theorem dX11_lastOf_94 : decode cX11_lastOf 94 = .ok (.iconst 0, 1) := by decide +kernel
theorem dX11_lastOf_95 : decode cX11_lastOf 95 = .ok (.iaload, 1) := by decide +kernel
theorem dX11_lastOf_96 : decode cX11_lastOf 96 = .ok (.if_icmp .ge 69, 3) := by decide +kernel
theorem dX11_lastOf_99 : decode cX11_lastOf 99 = .ok (.aload_n 0, 1) := by decide +kernel
theorem dX11_lastOf_100 : decode cX11_lastOf 100 = .ok (.iload 4, 2) := by decide +kernel
theorem dX11_lastOf_102 : decode cX11_lastOf 102 = .ok (.invokevirtual 146, 3) := by decide +kernel
theorem dX11_lastOf_105 : decode cX11_lastOf 105 = .ok (.ifCond .eq 54, 3) := by decide +kernel
theorem dX11_lastOf_108 : decode cX11_lastOf 108 = .ok (.aload_n 0, 1) := by decide +kernel
theorem dX11_lastOf_109 : decode cX11_lastOf 109 = .ok (.getfield 11, 3) := by decide +kernel
theorem dX11_lastOf_112 : decode cX11_lastOf 112 = .ok (.iload 4, 2) := by decide +kernel
theorem dX11_lastOf_114 : decode cX11_lastOf 114 = .ok (.iconst 1, 1) := by decide +kernel
theorem dX11_lastOf_115 : decode cX11_lastOf 115 = .ok (.invokestatic 42, 3) := by decide +kernel
theorem dX11_lastOf_118 : decode cX11_lastOf 118 = .ok (.iaload, 1) := by decide +kernel
theorem dX11_lastOf_119 : decode cX11_lastOf 119 = .ok (.iload_n 1, 1) := by decide +kernel
theorem dX11_lastOf_120 : decode cX11_lastOf 120 = .ok (.if_icmp .ne 39, 3) := by decide +kernel
theorem dX11_lastOf_123 : decode cX11_lastOf 123 = .ok (.aload_n 0, 1) := by decide +kernel
theorem dX11_lastOf_124 : decode cX11_lastOf 124 = .ok (.getfield 11, 3) := by decide +kernel
theorem dX11_lastOf_127 : decode cX11_lastOf 127 = .ok (.iload 4, 2) := by decide +kernel
theorem dX11_lastOf_129 : decode cX11_lastOf 129 = .ok (.iconst 2, 1) := by decide +kernel
theorem dX11_lastOf_130 : decode cX11_lastOf 130 = .ok (.invokestatic 42, 3) := by decide +kernel
theorem dX11_lastOf_133 : decode cX11_lastOf 133 = .ok (.iaload, 1) := by decide +kernel
theorem dX11_lastOf_134 : decode cX11_lastOf 134 = .ok (.iload_n 3, 1) := by decide +kernel
theorem dX11_lastOf_135 : decode cX11_lastOf 135 = .ok (.if_icmp .ge 6, 3) := by decide +kernel
theorem dX11_lastOf_138 : decode cX11_lastOf 138 = .ok (.goto 21, 3) := by decide +kernel
theorem dX11_lastOf_141 : decode cX11_lastOf 141 = .ok (.bipush 100, 2) := by decide +kernel
theorem dX11_lastOf_143 : decode cX11_lastOf 143 = .ok (.iload 4, 2) := by decide +kernel
theorem dX11_lastOf_145 : decode cX11_lastOf 145 = .ok (.iadd, 1) := by decide +kernel
theorem dX11_lastOf_146 : decode cX11_lastOf 146 = .ok (.istore_n 2, 1) := by decide +kernel
theorem dX11_lastOf_147 : decode cX11_lastOf 147 = .ok (.aload_n 0, 1) := by decide +kernel
theorem dX11_lastOf_148 : decode cX11_lastOf 148 = .ok (.getfield 11, 3) := by decide +kernel
theorem dX11_lastOf_151 : decode cX11_lastOf 151 = .ok (.iload 4, 2) := by decide +kernel
theorem dX11_lastOf_153 : decode cX11_lastOf 153 = .ok (.iconst 2, 1) := by decide +kernel
theorem dX11_lastOf_154 : decode cX11_lastOf 154 = .ok (.invokestatic 42, 3) := by decide +kernel
theorem dX11_lastOf_157 : decode cX11_lastOf 157 = .ok (.iaload, 1) := by decide +kernel
theorem dX11_lastOf_158 : decode cX11_lastOf 158 = .ok (.istore_n 3, 1) := by decide +kernel
theorem dX11_lastOf_159 : decode cX11_lastOf 159 = .ok (.iinc 4 1, 3) := by decide +kernel
theorem dX11_lastOf_162 : decode cX11_lastOf 162 = .ok (.goto (-74), 3) := by decide +kernel
theorem dX11_lastOf_165 : decode cX11_lastOf 165 = .ok (.iload_n 2, 1) := by decide +kernel
theorem dX11_lastOf_166 : decode cX11_lastOf 166 = .ok (.ireturn, 1) := by decide +kernel
theorem dX11_shuts_0 : decode cX11_shuts 0 = .ok (.aload_n 0, 1) := by decide +kernel
theorem dX11_shuts_1 : decode cX11_shuts 1 = .ok (.iload_n 1, 1) := by decide +kernel
theorem dX11_shuts_2 : decode cX11_shuts 2 = .ok (.invokevirtual 146, 3) := by decide +kernel
theorem dX11_shuts_5 : decode cX11_shuts 5 = .ok (.ifCond .ne 4, 3) := by decide +kernel
theorem dX11_shuts_8 : decode cX11_shuts 8 = .ok (.return_, 1) := by decide +kernel
theorem dX11_shuts_9 : decode cX11_shuts 9 = .ok (.aload_n 0, 1) := by decide +kernel
theorem dX11_shuts_10 : decode cX11_shuts 10 = .ok (.getfield 11, 3) := by decide +kernel
theorem dX11_shuts_13 : decode cX11_shuts 13 = .ok (.iload_n 1, 1) := by decide +kernel
theorem dX11_shuts_14 : decode cX11_shuts 14 = .ok (.iconst 0, 1) := by decide +kernel
theorem dX11_shuts_15 : decode cX11_shuts 15 = .ok (.invokestatic 42, 3) := by decide +kernel
theorem dX11_shuts_18 : decode cX11_shuts 18 = .ok (.iconst 1, 1) := by decide +kernel
theorem dX11_shuts_19 : decode cX11_shuts 19 = .ok (.iastore, 1) := by decide +kernel
theorem dX11_shuts_20 : decode cX11_shuts 20 = .ok (.aload_n 0, 1) := by decide +kernel
theorem dX11_shuts_21 : decode cX11_shuts 21 = .ok (.iload_n 1, 1) := by decide +kernel
theorem dX11_shuts_22 : decode cX11_shuts 22 = .ok (.invokevirtual 149, 3) := by decide +kernel
theorem dX11_shuts_25 : decode cX11_shuts 25 = .ok (.istore_n 2, 1) := by decide +kernel
theorem dX11_shuts_26 : decode cX11_shuts 26 = .ok (.iload_n 2, 1) := by decide +kernel
theorem dX11_shuts_27 : decode cX11_shuts 27 = .ok (.ifCond .lt 34, 3) := by decide +kernel
theorem dX11_shuts_30 : decode cX11_shuts 30 = .ok (.iload_n 2, 1) := by decide +kernel
theorem dX11_shuts_31 : decode cX11_shuts 31 = .ok (.bipush 100, 2) := by decide +kernel
theorem dX11_shuts_33 : decode cX11_shuts 33 = .ok (.if_icmp .ge 11, 3) := by decide +kernel
theorem dX11_shuts_36 : decode cX11_shuts 36 = .ok (.aload_n 0, 1) := by decide +kernel
theorem dX11_shuts_37 : decode cX11_shuts 37 = .ok (.iload_n 2, 1) := by decide +kernel
theorem dX11_shuts_38 : decode cX11_shuts 38 = .ok (.invokevirtual 153, 3) := by decide +kernel
theorem dX11_shuts_41 : decode cX11_shuts 41 = .ok (.goto 11, 3) := by decide +kernel
theorem dX11_shuts_44 : decode cX11_shuts 44 = .ok (.aload_n 0, 1) := by decide +kernel
theorem dX11_shuts_45 : decode cX11_shuts 45 = .ok (.iload_n 2, 1) := by decide +kernel
theorem dX11_shuts_46 : decode cX11_shuts 46 = .ok (.bipush 100, 2) := by decide +kernel
theorem dX11_shuts_48 : decode cX11_shuts 48 = .ok (.isub, 1) := by decide +kernel
theorem dX11_shuts_49 : decode cX11_shuts 49 = .ok (.invokevirtual 157, 3) := by decide +kernel
theorem dX11_shuts_52 : decode cX11_shuts 52 = .ok (.aload_n 0, 1) := by decide +kernel
theorem dX11_shuts_53 : decode cX11_shuts 53 = .ok (.iload_n 1, 1) := by decide +kernel
theorem dX11_shuts_54 : decode cX11_shuts 54 = .ok (.invokevirtual 149, 3) := by decide +kernel
theorem dX11_shuts_57 : decode cX11_shuts 57 = .ok (.istore_n 2, 1) := by decide +kernel
theorem dX11_shuts_58 : decode cX11_shuts 58 = .ok (.goto (-32), 3) := by decide +kernel
theorem dX11_shuts_61 : decode cX11_shuts 61 = .ok (.aload_n 0, 1) := by decide +kernel
theorem dX11_shuts_62 : decode cX11_shuts 62 = .ok (.getfield 11, 3) := by decide +kernel
theorem dX11_shuts_65 : decode cX11_shuts 65 = .ok (.iload_n 1, 1) := by decide +kernel
theorem dX11_shuts_66 : decode cX11_shuts 66 = .ok (.iconst 0, 1) := by decide +kernel
theorem dX11_shuts_67 : decode cX11_shuts 67 = .ok (.invokestatic 42, 3) := by decide +kernel
theorem dX11_shuts_70 : decode cX11_shuts 70 = .ok (.iload_n 1, 1) := by decide +kernel
theorem dX11_shuts_71 : decode cX11_shuts 71 = .ok (.ifCond .ne 7, 3) := by decide +kernel
theorem dX11_shuts_74 : decode cX11_shuts 74 = .ok (.iconst 0, 1) := by decide +kernel
theorem dX11_shuts_75 : decode cX11_shuts 75 = .ok (.goto 4, 3) := by decide +kernel
theorem dX11_shuts_78 : decode cX11_shuts 78 = .ok (.iconst 2, 1) := by decide +kernel
theorem dX11_shuts_79 : decode cX11_shuts 79 = .ok (.iastore, 1) := by decide +kernel
theorem dX11_shuts_80 : decode cX11_shuts 80 = .ok (.return_, 1) := by decide +kernel
theorem dX11_opens_0 : decode cX11_opens 0 = .ok (.aload_n 0, 1) := by decide +kernel
theorem dX11_opens_1 : decode cX11_opens 1 = .ok (.getfield 11, 3) := by decide +kernel
theorem dX11_opens_4 : decode cX11_opens 4 = .ok (.iconst 0, 1) := by decide +kernel
theorem dX11_opens_5 : decode cX11_opens 5 = .ok (.iaload, 1) := by decide +kernel
theorem dX11_opens_6 : decode cX11_opens 6 = .ok (.istore_n 3, 1) := by decide +kernel
theorem dX11_opens_7 : decode cX11_opens 7 = .ok (.aload_n 0, 1) := by decide +kernel
theorem dX11_opens_8 : decode cX11_opens 8 = .ok (.getfield 11, 3) := by decide +kernel
theorem dX11_opens_11 : decode cX11_opens 11 = .ok (.iconst 0, 1) := by decide +kernel
theorem dX11_opens_12 : decode cX11_opens 12 = .ok (.dup2, 1) := by decide +kernel
theorem dX11_opens_13 : decode cX11_opens 13 = .ok (.iaload, 1) := by decide +kernel
theorem dX11_opens_14 : decode cX11_opens 14 = .ok (.iconst 1, 1) := by decide +kernel
theorem dX11_opens_15 : decode cX11_opens 15 = .ok (.iadd, 1) := by decide +kernel
theorem dX11_opens_16 : decode cX11_opens 16 = .ok (.iastore, 1) := by decide +kernel
theorem dX11_opens_17 : decode cX11_opens 17 = .ok (.aload_n 0, 1) := by decide +kernel
theorem dX11_opens_18 : decode cX11_opens 18 = .ok (.getfield 11, 3) := by decide +kernel
theorem dX11_opens_21 : decode cX11_opens 21 = .ok (.iload_n 3, 1) := by decide +kernel
theorem dX11_opens_22 : decode cX11_opens 22 = .ok (.iconst 0, 1) := by decide +kernel
theorem dX11_opens_23 : decode cX11_opens 23 = .ok (.invokestatic 42, 3) := by decide +kernel
theorem dX11_opens_26 : decode cX11_opens 26 = .ok (.iconst 0, 1) := by decide +kernel
theorem dX11_opens_27 : decode cX11_opens 27 = .ok (.iastore, 1) := by decide +kernel
theorem dX11_opens_28 : decode cX11_opens 28 = .ok (.aload_n 0, 1) := by decide +kernel
theorem dX11_opens_29 : decode cX11_opens 29 = .ok (.getfield 11, 3) := by decide +kernel
theorem dX11_opens_32 : decode cX11_opens 32 = .ok (.iload_n 3, 1) := by decide +kernel
theorem dX11_opens_33 : decode cX11_opens 33 = .ok (.iconst 1, 1) := by decide +kernel
theorem dX11_opens_34 : decode cX11_opens 34 = .ok (.invokestatic 42, 3) := by decide +kernel
theorem dX11_opens_37 : decode cX11_opens 37 = .ok (.iload_n 1, 1) := by decide +kernel
theorem dX11_opens_38 : decode cX11_opens 38 = .ok (.iastore, 1) := by decide +kernel
theorem dX11_opens_39 : decode cX11_opens 39 = .ok (.aload_n 0, 1) := by decide +kernel
theorem dX11_opens_40 : decode cX11_opens 40 = .ok (.getfield 11, 3) := by decide +kernel
theorem dX11_opens_43 : decode cX11_opens 43 = .ok (.iload_n 3, 1) := by decide +kernel
theorem dX11_opens_44 : decode cX11_opens 44 = .ok (.iconst 2, 1) := by decide +kernel
theorem dX11_opens_45 : decode cX11_opens 45 = .ok (.invokestatic 42, 3) := by decide +kernel
theorem dX11_opens_48 : decode cX11_opens 48 = .ok (.aload_n 0, 1) := by decide +kernel
theorem dX11_opens_49 : decode cX11_opens 49 = .ok (.invokevirtual 126, 3) := by decide +kernel
theorem dX11_opens_52 : decode cX11_opens 52 = .ok (.iastore, 1) := by decide +kernel
theorem dX11_opens_53 : decode cX11_opens 53 = .ok (.aload_n 0, 1) := by decide +kernel
theorem dX11_opens_54 : decode cX11_opens 54 = .ok (.getfield 11, 3) := by decide +kernel
theorem dX11_opens_57 : decode cX11_opens 57 = .ok (.iload_n 3, 1) := by decide +kernel
theorem dX11_opens_58 : decode cX11_opens 58 = .ok (.iconst 3, 1) := by decide +kernel
theorem dX11_opens_59 : decode cX11_opens 59 = .ok (.invokestatic 42, 3) := by decide +kernel
theorem dX11_opens_62 : decode cX11_opens 62 = .ok (.iload_n 2, 1) := by decide +kernel
theorem dX11_opens_63 : decode cX11_opens 63 = .ok (.iastore, 1) := by decide +kernel
theorem dX11_opens_64 : decode cX11_opens 64 = .ok (.iload_n 3, 1) := by decide +kernel
theorem dX11_opens_65 : decode cX11_opens 65 = .ok (.ireturn, 1) := by decide +kernel
theorem dX11_numberAt_0 : decode cX11_numberAt 0 = .ok (.aload_n 0, 1) := by decide +kernel
theorem dX11_numberAt_1 : decode cX11_numberAt 1 = .ok (.getfield 21, 3) := by decide +kernel
theorem dX11_numberAt_4 : decode cX11_numberAt 4 = .ok (.iload_n 1, 1) := by decide +kernel
theorem dX11_numberAt_5 : decode cX11_numberAt 5 = .ok (.iaload, 1) := by decide +kernel
theorem dX11_numberAt_6 : decode cX11_numberAt 6 = .ok (.bipush 45, 2) := by decide +kernel
theorem dX11_numberAt_8 : decode cX11_numberAt 8 = .ok (.if_icmp .ne 9, 3) := by decide +kernel
theorem dX11_numberAt_11 : decode cX11_numberAt 11 = .ok (.iload_n 1, 1) := by decide +kernel
theorem dX11_numberAt_12 : decode cX11_numberAt 12 = .ok (.iconst 1, 1) := by decide +kernel
theorem dX11_numberAt_13 : decode cX11_numberAt 13 = .ok (.iadd, 1) := by decide +kernel
theorem dX11_numberAt_14 : decode cX11_numberAt 14 = .ok (.goto 4, 3) := by decide +kernel
theorem dX11_numberAt_17 : decode cX11_numberAt 17 = .ok (.iload_n 1, 1) := by decide +kernel
theorem dX11_numberAt_18 : decode cX11_numberAt 18 = .ok (.istore_n 2, 1) := by decide +kernel
theorem dX11_numberAt_19 : decode cX11_numberAt 19 = .ok (.iconst 0, 1) := by decide +kernel
theorem dX11_numberAt_20 : decode cX11_numberAt 20 = .ok (.istore_n 3, 1) := by decide +kernel
theorem dX11_numberAt_21 : decode cX11_numberAt 21 = .ok (.aload_n 0, 1) := by decide +kernel
theorem dX11_numberAt_22 : decode cX11_numberAt 22 = .ok (.getfield 21, 3) := by decide +kernel
theorem dX11_numberAt_25 : decode cX11_numberAt 25 = .ok (.iload_n 2, 1) := by decide +kernel
theorem dX11_numberAt_26 : decode cX11_numberAt 26 = .ok (.iaload, 1) := by decide +kernel
theorem dX11_numberAt_27 : decode cX11_numberAt 27 = .ok (.bipush 48, 2) := by decide +kernel
theorem dX11_numberAt_29 : decode cX11_numberAt 29 = .ok (.bipush 57, 2) := by decide +kernel
theorem dX11_numberAt_31 : decode cX11_numberAt 31 = .ok (.invokestatic 46, 3) := by decide +kernel
theorem dX11_numberAt_34 : decode cX11_numberAt 34 = .ok (.ifCond .eq 24, 3) := by decide +kernel
theorem dX11_numberAt_37 : decode cX11_numberAt 37 = .ok (.bipush 10, 2) := by decide +kernel
theorem dX11_numberAt_39 : decode cX11_numberAt 39 = .ok (.iload_n 3, 1) := by decide +kernel
theorem dX11_numberAt_40 : decode cX11_numberAt 40 = .ok (.imul, 1) := by decide +kernel
theorem dX11_numberAt_41 : decode cX11_numberAt 41 = .ok (.aload_n 0, 1) := by decide +kernel
theorem dX11_numberAt_42 : decode cX11_numberAt 42 = .ok (.getfield 21, 3) := by decide +kernel
theorem dX11_numberAt_45 : decode cX11_numberAt 45 = .ok (.iload_n 2, 1) := by decide +kernel
theorem dX11_numberAt_46 : decode cX11_numberAt 46 = .ok (.iaload, 1) := by decide +kernel
theorem dX11_numberAt_47 : decode cX11_numberAt 47 = .ok (.iadd, 1) := by decide +kernel
theorem dX11_numberAt_48 : decode cX11_numberAt 48 = .ok (.bipush 48, 2) := by decide +kernel
theorem dX11_numberAt_50 : decode cX11_numberAt 50 = .ok (.isub, 1) := by decide +kernel
theorem dX11_numberAt_51 : decode cX11_numberAt 51 = .ok (.istore_n 3, 1) := by decide +kernel
theorem dX11_numberAt_52 : decode cX11_numberAt 52 = .ok (.iinc 2 1, 3) := by decide +kernel
theorem dX11_numberAt_55 : decode cX11_numberAt 55 = .ok (.goto (-34), 3) := by decide +kernel
theorem dX11_numberAt_58 : decode cX11_numberAt 58 = .ok (.aload_n 0, 1) := by decide +kernel
theorem dX11_numberAt_59 : decode cX11_numberAt 59 = .ok (.getfield 21, 3) := by decide +kernel
theorem dX11_numberAt_62 : decode cX11_numberAt 62 = .ok (.iload_n 1, 1) := by decide +kernel
theorem dX11_numberAt_63 : decode cX11_numberAt 63 = .ok (.iaload, 1) := by decide +kernel
theorem dX11_numberAt_64 : decode cX11_numberAt 64 = .ok (.bipush 45, 2) := by decide +kernel
theorem dX11_numberAt_66 : decode cX11_numberAt 66 = .ok (.if_icmp .ne 8, 3) := by decide +kernel
theorem dX11_numberAt_69 : decode cX11_numberAt 69 = .ok (.iload_n 3, 1) := by decide +kernel
theorem dX11_numberAt_70 : decode cX11_numberAt 70 = .ok (.ineg, 1) := by decide +kernel
theorem dX11_numberAt_71 : decode cX11_numberAt 71 = .ok (.goto 4, 3) := by decide +kernel
theorem dX11_numberAt_74 : decode cX11_numberAt 74 = .ok (.iload_n 3, 1) := by decide +kernel
theorem dX11_numberAt_75 : decode cX11_numberAt 75 = .ok (.ireturn, 1) := by decide +kernel
theorem dX11_nameEnd_0 : decode cX11_nameEnd 0 = .ok (.iload_n 1, 1) := by decide +kernel
theorem dX11_nameEnd_1 : decode cX11_nameEnd 1 = .ok (.istore_n 2, 1) := by decide +kernel
theorem dX11_nameEnd_2 : decode cX11_nameEnd 2 = .ok (.iload_n 2, 1) := by decide +kernel
theorem dX11_nameEnd_3 : decode cX11_nameEnd 3 = .ok (.iload_n 1, 1) := by decide +kernel
theorem dX11_nameEnd_4 : decode cX11_nameEnd 4 = .ok (.isub, 1) := by decide +kernel
theorem dX11_nameEnd_5 : decode cX11_nameEnd 5 = .ok (.bipush 7, 2) := by decide +kernel
theorem dX11_nameEnd_7 : decode cX11_nameEnd 7 = .ok (.if_icmp .ge 25, 3) := by decide +kernel
theorem dX11_nameEnd_10 : decode cX11_nameEnd 10 = .ok (.aload_n 0, 1) := by decide +kernel
theorem dX11_nameEnd_11 : decode cX11_nameEnd 11 = .ok (.getfield 21, 3) := by decide +kernel
theorem dX11_nameEnd_14 : decode cX11_nameEnd 14 = .ok (.iload_n 2, 1) := by decide +kernel
theorem dX11_nameEnd_15 : decode cX11_nameEnd 15 = .ok (.iaload, 1) := by decide +kernel
theorem dX11_nameEnd_16 : decode cX11_nameEnd 16 = .ok (.bipush 97, 2) := by decide +kernel
theorem dX11_nameEnd_18 : decode cX11_nameEnd 18 = .ok (.bipush 122, 2) := by decide +kernel
theorem dX11_nameEnd_20 : decode cX11_nameEnd 20 = .ok (.invokestatic 46, 3) := by decide +kernel
theorem dX11_nameEnd_23 : decode cX11_nameEnd 23 = .ok (.ifCond .eq 9, 3) := by decide +kernel
theorem dX11_nameEnd_26 : decode cX11_nameEnd 26 = .ok (.iinc 2 1, 3) := by decide +kernel
theorem dX11_nameEnd_29 : decode cX11_nameEnd 29 = .ok (.goto (-27), 3) := by decide +kernel
theorem dX11_nameEnd_32 : decode cX11_nameEnd 32 = .ok (.iload_n 2, 1) := by decide +kernel
theorem dX11_nameEnd_33 : decode cX11_nameEnd 33 = .ok (.ireturn, 1) := by decide +kernel
theorem dX11_taken_0 : decode cX11_taken 0 = .ok (.aload_n 0, 1) := by decide +kernel
theorem dX11_taken_1 : decode cX11_taken 1 = .ok (.iload_n 1, 1) := by decide +kernel
theorem dX11_taken_2 : decode cX11_taken 2 = .ok (.invokevirtual 160, 3) := by decide +kernel
theorem dX11_taken_5 : decode cX11_taken 5 = .ok (.istore_n 3, 1) := by decide +kernel
theorem dX11_taken_6 : decode cX11_taken 6 = .ok (.aload_n 0, 1) := by decide +kernel
theorem dX11_taken_7 : decode cX11_taken 7 = .ok (.iload_n 2, 1) := by decide +kernel
theorem dX11_taken_8 : decode cX11_taken 8 = .ok (.invokevirtual 146, 3) := by decide +kernel
theorem dX11_taken_11 : decode cX11_taken 11 = .ok (.ifCond .ne 6, 3) := by decide +kernel
theorem dX11_taken_14 : decode cX11_taken 14 = .ok (.bipush 101, 2) := by decide +kernel
theorem dX11_taken_16 : decode cX11_taken 16 = .ok (.ireturn, 1) := by decide +kernel
theorem dX11_taken_17 : decode cX11_taken 17 = .ok (.aload_n 0, 1) := by decide +kernel
theorem dX11_taken_18 : decode cX11_taken 18 = .ok (.aload_n 0, 1) := by decide +kernel
theorem dX11_taken_19 : decode cX11_taken 19 = .ok (.getfield 21, 3) := by decide +kernel
theorem dX11_taken_22 : decode cX11_taken 22 = .ok (.iload_n 1, 1) := by decide +kernel
theorem dX11_taken_23 : decode cX11_taken 23 = .ok (.iload_n 3, 1) := by decide +kernel
theorem dX11_taken_24 : decode cX11_taken 24 = .ok (.invokevirtual 163, 3) := by decide +kernel
theorem dX11_taken_27 : decode cX11_taken 27 = .ok (.ifCond .lt 6, 3) := by decide +kernel
theorem dX11_taken_30 : decode cX11_taken 30 = .ok (.bipush 102, 2) := by decide +kernel
theorem dX11_taken_32 : decode cX11_taken 32 = .ok (.ireturn, 1) := by decide +kernel
theorem dX11_taken_33 : decode cX11_taken 33 = .ok (.aload_n 0, 1) := by decide +kernel
theorem dX11_taken_34 : decode cX11_taken 34 = .ok (.getfield 11, 3) := by decide +kernel
theorem dX11_taken_37 : decode cX11_taken 37 = .ok (.iconst 1, 1) := by decide +kernel
theorem dX11_taken_38 : decode cX11_taken 38 = .ok (.iaload, 1) := by decide +kernel
theorem dX11_taken_39 : decode cX11_taken 39 = .ok (.bipush 90, 2) := by decide +kernel
theorem dX11_taken_41 : decode cX11_taken 41 = .ok (.if_icmp .ne 6, 3) := by decide +kernel
theorem dX11_taken_44 : decode cX11_taken 44 = .ok (.bipush 103, 2) := by decide +kernel
theorem dX11_taken_46 : decode cX11_taken 46 = .ok (.ireturn, 1) := by decide +kernel
theorem dX11_taken_47 : decode cX11_taken 47 = .ok (.iload_n 3, 1) := by decide +kernel
theorem dX11_taken_48 : decode cX11_taken 48 = .ok (.istore 4, 2) := by decide +kernel
theorem dX11_taken_50 : decode cX11_taken 50 = .ok (.iload_n 3, 1) := by decide +kernel
theorem dX11_taken_51 : decode cX11_taken 51 = .ok (.istore 5, 2) := by decide +kernel
theorem dX11_taken_53 : decode cX11_taken 53 = .ok (.aload_n 0, 1) := by decide +kernel
theorem dX11_taken_54 : decode cX11_taken 54 = .ok (.getfield 21, 3) := by decide +kernel
theorem dX11_taken_57 : decode cX11_taken 57 = .ok (.iload_n 3, 1) := by decide +kernel
theorem dX11_taken_58 : decode cX11_taken 58 = .ok (.iaload, 1) := by decide +kernel
theorem dX11_taken_59 : decode cX11_taken 59 = .ok (.bipush 123, 2) := by decide +kernel
theorem dX11_taken_61 : decode cX11_taken 61 = .ok (.if_icmp .ne 67, 3) := by decide +kernel
theorem dX11_taken_64 : decode cX11_taken 64 = .ok (.iload_n 3, 1) := by decide +kernel
theorem dX11_taken_65 : decode cX11_taken 65 = .ok (.iconst 1, 1) := by decide +kernel
theorem dX11_taken_66 : decode cX11_taken 66 = .ok (.iadd, 1) := by decide +kernel
theorem dX11_taken_67 : decode cX11_taken 67 = .ok (.istore 4, 2) := by decide +kernel
theorem dX11_taken_69 : decode cX11_taken 69 = .ok (.iload 4, 2) := by decide +kernel
theorem dX11_taken_71 : decode cX11_taken 71 = .ok (.istore 5, 2) := by decide +kernel
theorem dX11_taken_73 : decode cX11_taken 73 = .ok (.iconst 1, 1) := by decide +kernel
theorem dX11_taken_74 : decode cX11_taken 74 = .ok (.istore 6, 2) := by decide +kernel
theorem dX11_taken_76 : decode cX11_taken 76 = .ok (.iload 6, 2) := by decide +kernel
theorem dX11_taken_78 : decode cX11_taken 78 = .ok (.ifCond .le 47, 3) := by decide +kernel
theorem dX11_taken_81 : decode cX11_taken 81 = .ok (.iload 6, 2) := by decide +kernel
theorem dX11_taken_83 : decode cX11_taken 83 = .ok (.aload_n 0, 1) := by decide +kernel
theorem dX11_taken_84 : decode cX11_taken 84 = .ok (.getfield 21, 3) := by decide +kernel
theorem dX11_taken_87 : decode cX11_taken 87 = .ok (.iload 5, 2) := by decide +kernel
theorem dX11_taken_89 : decode cX11_taken 89 = .ok (.iaload, 1) := by decide +kernel
theorem dX11_taken_90 : decode cX11_taken 90 = .ok (.bipush 123, 2) := by decide +kernel
theorem dX11_taken_92 : decode cX11_taken 92 = .ok (.if_icmp .ne 7, 3) := by decide +kernel
theorem dX11_taken_95 : decode cX11_taken 95 = .ok (.iconst 1, 1) := by decide +kernel
theorem dX11_taken_96 : decode cX11_taken 96 = .ok (.goto 20, 3) := by decide +kernel
theorem dX11_taken_99 : decode cX11_taken 99 = .ok (.aload_n 0, 1) := by decide +kernel
theorem dX11_taken_100 : decode cX11_taken 100 = .ok (.getfield 21, 3) := by decide +kernel
theorem dX11_taken_103 : decode cX11_taken 103 = .ok (.iload 5, 2) := by decide +kernel
theorem dX11_taken_105 : decode cX11_taken 105 = .ok (.iaload, 1) := by decide +kernel
theorem dX11_taken_106 : decode cX11_taken 106 = .ok (.bipush 125, 2) := by decide +kernel
theorem dX11_taken_108 : decode cX11_taken 108 = .ok (.if_icmp .ne 7, 3) := by decide +kernel
theorem dX11_taken_111 : decode cX11_taken 111 = .ok (.iconst (-1), 1) := by decide +kernel
theorem dX11_taken_112 : decode cX11_taken 112 = .ok (.goto 4, 3) := by decide +kernel
theorem dX11_taken_115 : decode cX11_taken 115 = .ok (.iconst 0, 1) := by decide +kernel
theorem dX11_taken_116 : decode cX11_taken 116 = .ok (.iadd, 1) := by decide +kernel
theorem dX11_taken_117 : decode cX11_taken 117 = .ok (.istore 6, 2) := by decide +kernel
theorem dX11_taken_119 : decode cX11_taken 119 = .ok (.iinc 5 1, 3) := by decide +kernel
theorem dX11_taken_122 : decode cX11_taken 122 = .ok (.goto (-46), 3) := by decide +kernel
theorem dX11_taken_125 : decode cX11_taken 125 = .ok (.iinc 5 (-1), 3) := by decide +kernel
theorem dX11_taken_128 : decode cX11_taken 128 = .ok (.aload_n 0, 1) := by decide +kernel
theorem dX11_taken_129 : decode cX11_taken 129 = .ok (.iload_n 2, 1) := by decide +kernel
theorem dX11_taken_130 : decode cX11_taken 130 = .ok (.aload_n 0, 1) := by decide +kernel
theorem dX11_taken_131 : decode cX11_taken 131 = .ok (.getfield 21, 3) := by decide +kernel
theorem dX11_taken_134 : decode cX11_taken 134 = .ok (.iload_n 1, 1) := by decide +kernel
theorem dX11_taken_135 : decode cX11_taken 135 = .ok (.iload_n 3, 1) := by decide +kernel
theorem dX11_taken_136 : decode cX11_taken 136 = .ok (.iload 4, 2) := by decide +kernel
theorem dX11_taken_138 : decode cX11_taken 138 = .ok (.iload 5, 2) := by decide +kernel
theorem dX11_taken_140 : decode cX11_taken 140 = .ok (.invokevirtual 167, 3) := by decide +kernel
theorem dX11_taken_143 : decode cX11_taken 143 = .ok (.pop, 1) := by decide +kernel
theorem dX11_taken_144 : decode cX11_taken 144 = .ok (.iconst 0, 1) := by decide +kernel
theorem dX11_taken_145 : decode cX11_taken 145 = .ok (.ireturn, 1) := by decide +kernel
theorem dX11_does_0 : decode cX11_does 0 = .ok (.aload_n 0, 1) := by decide +kernel
theorem dX11_does_1 : decode cX11_does 1 = .ok (.getfield 21, 3) := by decide +kernel
theorem dX11_does_4 : decode cX11_does 4 = .ok (.iload_n 1, 1) := by decide +kernel
theorem dX11_does_5 : decode cX11_does 5 = .ok (.iaload, 1) := by decide +kernel
theorem dX11_does_6 : decode cX11_does 6 = .ok (.lookupswitch 330 #[(33, 97), (43, 66), (63, 267), (97, 105), (107, 221), (109, 153), (120, 114)], 66) := by decide +kernel
theorem dX11_does_72 : decode cX11_does 72 = .ok (.aload_n 0, 1) := by decide +kernel
theorem dX11_does_73 : decode cX11_does 73 = .ok (.getfield 11, 3) := by decide +kernel
theorem dX11_does_76 : decode cX11_does 76 = .ok (.bipush 10, 2) := by decide +kernel
theorem dX11_does_78 : decode cX11_does 78 = .ok (.aload_n 0, 1) := by decide +kernel
theorem dX11_does_79 : decode cX11_does 79 = .ok (.getfield 21, 3) := by decide +kernel
theorem dX11_does_82 : decode cX11_does 82 = .ok (.iload_n 1, 1) := by decide +kernel
theorem dX11_does_83 : decode cX11_does 83 = .ok (.iconst 1, 1) := by decide +kernel
theorem dX11_does_84 : decode cX11_does 84 = .ok (.iadd, 1) := by decide +kernel
theorem dX11_does_85 : decode cX11_does 85 = .ok (.iaload, 1) := by decide +kernel
theorem dX11_does_86 : decode cX11_does 86 = .ok (.iadd, 1) := by decide +kernel
theorem dX11_does_87 : decode cX11_does 87 = .ok (.bipush 48, 2) := by decide +kernel
theorem dX11_does_89 : decode cX11_does 89 = .ok (.isub, 1) := by decide +kernel
theorem dX11_does_90 : decode cX11_does 90 = .ok (.dup2, 1) := by decide +kernel
theorem dX11_does_91 : decode cX11_does 91 = .ok (.iaload, 1) := by decide +kernel
theorem dX11_does_92 : decode cX11_does 92 = .ok (.aload_n 0, 1) := by decide +kernel
theorem dX11_does_93 : decode cX11_does 93 = .ok (.iload_n 1, 1) := by decide +kernel
theorem dX11_does_94 : decode cX11_does 94 = .ok (.iconst 3, 1) := by decide +kernel
theorem dX11_does_95 : decode cX11_does 95 = .ok (.iadd, 1) := by decide +kernel
theorem dX11_does_96 : decode cX11_does 96 = .ok (.invokevirtual 171, 3) := by decide +kernel
theorem dX11_does_99 : decode cX11_does 99 = .ok (.iadd, 1) := by decide +kernel
theorem dX11_does_100 : decode cX11_does 100 = .ok (.iastore, 1) := by decide +kernel
theorem dX11_does_101 : decode cX11_does 101 = .ok (.iconst 0, 1) := by decide +kernel
theorem dX11_does_102 : decode cX11_does 102 = .ok (.ireturn, 1) := by decide +kernel
theorem dX11_does_103 : decode cX11_does 103 = .ok (.aload_n 0, 1) := by decide +kernel
theorem dX11_does_104 : decode cX11_does 104 = .ok (.iload_n 1, 1) := by decide +kernel
theorem dX11_does_105 : decode cX11_does 105 = .ok (.iconst 1, 1) := by decide +kernel
theorem dX11_does_106 : decode cX11_does 106 = .ok (.iadd, 1) := by decide +kernel
theorem dX11_does_107 : decode cX11_does 107 = .ok (.invokevirtual 171, 3) := by decide +kernel
theorem dX11_does_110 : decode cX11_does 110 = .ok (.ireturn, 1) := by decide +kernel
theorem dX11_does_111 : decode cX11_does 111 = .ok (.aload_n 0, 1) := by decide +kernel
theorem dX11_does_112 : decode cX11_does 112 = .ok (.iload_n 1, 1) := by decide +kernel
theorem dX11_does_113 : decode cX11_does 113 = .ok (.iconst 1, 1) := by decide +kernel
theorem dX11_does_114 : decode cX11_does 114 = .ok (.iadd, 1) := by decide +kernel
theorem dX11_does_115 : decode cX11_does 115 = .ok (.iload_n 2, 1) := by decide +kernel
theorem dX11_does_116 : decode cX11_does 116 = .ok (.invokevirtual 174, 3) := by decide +kernel
theorem dX11_does_119 : decode cX11_does 119 = .ok (.ireturn, 1) := by decide +kernel
theorem dX11_does_120 : decode cX11_does 120 = .ok (.aload_n 0, 1) := by decide +kernel
theorem dX11_does_121 : decode cX11_does 121 = .ok (.aload_n 0, 1) := by decide +kernel
theorem dX11_does_122 : decode cX11_does 122 = .ok (.getfield 21, 3) := by decide +kernel
theorem dX11_does_125 : decode cX11_does 125 = .ok (.iload_n 1, 1) := by decide +kernel
theorem dX11_does_126 : decode cX11_does 126 = .ok (.iconst 1, 1) := by decide +kernel
theorem dX11_does_127 : decode cX11_does 127 = .ok (.iadd, 1) := by decide +kernel
theorem dX11_does_128 : decode cX11_does 128 = .ok (.aload_n 0, 1) := by decide +kernel
theorem dX11_does_129 : decode cX11_does 129 = .ok (.iload_n 1, 1) := by decide +kernel
theorem dX11_does_130 : decode cX11_does 130 = .ok (.iconst 1, 1) := by decide +kernel
theorem dX11_does_131 : decode cX11_does 131 = .ok (.iadd, 1) := by decide +kernel
theorem dX11_does_132 : decode cX11_does 132 = .ok (.invokevirtual 160, 3) := by decide +kernel
theorem dX11_does_135 : decode cX11_does 135 = .ok (.invokevirtual 163, 3) := by decide +kernel
theorem dX11_does_138 : decode cX11_does 138 = .ok (.istore_n 3, 1) := by decide +kernel
theorem dX11_does_139 : decode cX11_does 139 = .ok (.iload_n 3, 1) := by decide +kernel
theorem dX11_does_140 : decode cX11_does 140 = .ok (.ifCond .lt 8, 3) := by decide +kernel
theorem dX11_does_143 : decode cX11_does 143 = .ok (.aload_n 0, 1) := by decide +kernel
theorem dX11_does_144 : decode cX11_does 144 = .ok (.iload_n 3, 1) := by decide +kernel
theorem dX11_does_145 : decode cX11_does 145 = .ok (.invokevirtual 153, 3) := by decide +kernel
theorem dX11_does_148 : decode cX11_does 148 = .ok (.iload_n 3, 1) := by decide +kernel
theorem dX11_does_149 : decode cX11_does 149 = .ok (.ifCond .ge 8, 3) := by decide +kernel
theorem dX11_does_152 : decode cX11_does 152 = .ok (.bipush 104, 2) := by decide +kernel
theorem dX11_does_154 : decode cX11_does 154 = .ok (.goto 4, 3) := by decide +kernel
theorem dX11_does_157 : decode cX11_does 157 = .ok (.iconst 0, 1) := by decide +kernel
theorem dX11_does_158 : decode cX11_does 158 = .ok (.ireturn, 1) := by decide +kernel
theorem dX11_does_159 : decode cX11_does 159 = .ok (.aload_n 0, 1) := by decide +kernel
theorem dX11_does_160 : decode cX11_does 160 = .ok (.iload_n 1, 1) := by decide +kernel
theorem dX11_does_161 : decode cX11_does 161 = .ok (.iconst 1, 1) := by decide +kernel
theorem dX11_does_162 : decode cX11_does 162 = .ok (.iadd, 1) := by decide +kernel
theorem dX11_does_163 : decode cX11_does 163 = .ok (.invokevirtual 160, 3) := by decide +kernel
theorem dX11_does_166 : decode cX11_does 166 = .ok (.istore_n 3, 1) := by decide +kernel
theorem dX11_does_167 : decode cX11_does 167 = .ok (.aload_n 0, 1) := by decide +kernel
theorem dX11_does_168 : decode cX11_does 168 = .ok (.aload_n 0, 1) := by decide +kernel
theorem dX11_does_169 : decode cX11_does 169 = .ok (.getfield 21, 3) := by decide +kernel
theorem dX11_does_172 : decode cX11_does 172 = .ok (.iload_n 1, 1) := by decide +kernel
theorem dX11_does_173 : decode cX11_does 173 = .ok (.iconst 1, 1) := by decide +kernel
theorem dX11_does_174 : decode cX11_does 174 = .ok (.iadd, 1) := by decide +kernel
theorem dX11_does_175 : decode cX11_does 175 = .ok (.iload_n 3, 1) := by decide +kernel
theorem dX11_does_176 : decode cX11_does 176 = .ok (.invokevirtual 163, 3) := by decide +kernel
theorem dX11_does_179 : decode cX11_does 179 = .ok (.istore 4, 2) := by decide +kernel
theorem dX11_does_181 : decode cX11_does 181 = .ok (.aload_n 0, 1) := by decide +kernel
theorem dX11_does_182 : decode cX11_does 182 = .ok (.iload_n 3, 1) := by decide +kernel
theorem dX11_does_183 : decode cX11_does 183 = .ok (.iconst 1, 1) := by decide +kernel
theorem dX11_does_184 : decode cX11_does 184 = .ok (.iadd, 1) := by decide +kernel
theorem dX11_does_185 : decode cX11_does 185 = .ok (.invokevirtual 171, 3) := by decide +kernel
theorem dX11_does_188 : decode cX11_does 188 = .ok (.istore 5, 2) := by decide +kernel
theorem dX11_does_190 : decode cX11_does 190 = .ok (.iload 4, 2) := by decide +kernel
theorem dX11_does_192 : decode cX11_does 192 = .ok (.ifCond .lt 12, 3) := by decide +kernel
theorem dX11_does_195 : decode cX11_does 195 = .ok (.aload_n 0, 1) := by decide +kernel
theorem dX11_does_196 : decode cX11_does 196 = .ok (.iload 5, 2) := by decide +kernel
theorem dX11_does_198 : decode cX11_does 198 = .ok (.invokevirtual 146, 3) := by decide +kernel
theorem dX11_does_201 : decode cX11_does 201 = .ok (.ifCond .ne 16, 3) := by decide +kernel
theorem dX11_does_204 : decode cX11_does 204 = .ok (.iload 4, 2) := by decide +kernel
theorem dX11_does_206 : decode cX11_does 206 = .ok (.ifCond .ge 8, 3) := by decide +kernel
theorem dX11_does_209 : decode cX11_does 209 = .ok (.bipush 104, 2) := by decide +kernel
theorem dX11_does_211 : decode cX11_does 211 = .ok (.goto 5, 3) := by decide +kernel
theorem dX11_does_214 : decode cX11_does 214 = .ok (.bipush 105, 2) := by decide +kernel
theorem dX11_does_216 : decode cX11_does 216 = .ok (.ireturn, 1) := by decide +kernel
theorem dX11_does_217 : decode cX11_does 217 = .ok (.aload_n 0, 1) := by decide +kernel
theorem dX11_does_218 : decode cX11_does 218 = .ok (.iload 4, 2) := by decide +kernel
theorem dX11_does_220 : decode cX11_does 220 = .ok (.iload 5, 2) := by decide +kernel
theorem dX11_does_222 : decode cX11_does 222 = .ok (.invokevirtual 177, 3) := by decide +kernel
theorem dX11_does_225 : decode cX11_does 225 = .ok (.iconst 0, 1) := by decide +kernel
theorem dX11_does_226 : decode cX11_does 226 = .ok (.ireturn, 1) := by decide +kernel
theorem dX11_does_227 : decode cX11_does 227 = .ok (.aload_n 0, 1) := by decide +kernel
theorem dX11_does_228 : decode cX11_does 228 = .ok (.getfield 21, 3) := by decide +kernel
theorem dX11_does_231 : decode cX11_does 231 = .ok (.iload_n 1, 1) := by decide +kernel
theorem dX11_does_232 : decode cX11_does 232 = .ok (.iconst 1, 1) := by decide +kernel
theorem dX11_does_233 : decode cX11_does 233 = .ok (.iadd, 1) := by decide +kernel
theorem dX11_does_234 : decode cX11_does 234 = .ok (.iaload, 1) := by decide +kernel
theorem dX11_does_235 : decode cX11_does 235 = .ok (.bipush 48, 2) := by decide +kernel
theorem dX11_does_237 : decode cX11_does 237 = .ok (.isub, 1) := by decide +kernel
theorem dX11_does_238 : decode cX11_does 238 = .ok (.istore_n 3, 1) := by decide +kernel
theorem dX11_does_239 : decode cX11_does 239 = .ok (.aload_n 0, 1) := by decide +kernel
theorem dX11_does_240 : decode cX11_does 240 = .ok (.iload_n 3, 1) := by decide +kernel
theorem dX11_does_241 : decode cX11_does 241 = .ok (.invokevirtual 180, 3) := by decide +kernel
theorem dX11_does_244 : decode cX11_does 244 = .ok (.ifCond .eq 11, 3) := by decide +kernel
theorem dX11_does_247 : decode cX11_does 247 = .ok (.aload_n 0, 1) := by decide +kernel
theorem dX11_does_248 : decode cX11_does 248 = .ok (.iload_n 3, 1) := by decide +kernel
theorem dX11_does_249 : decode cX11_does 249 = .ok (.invokevirtual 183, 3) := by decide +kernel
theorem dX11_does_252 : decode cX11_does 252 = .ok (.ifCond .ne 6, 3) := by decide +kernel
theorem dX11_does_255 : decode cX11_does 255 = .ok (.bipush 106, 2) := by decide +kernel
theorem dX11_does_257 : decode cX11_does 257 = .ok (.ireturn, 1) := by decide +kernel
theorem dX11_does_258 : decode cX11_does 258 = .ok (.aload_n 0, 1) := by decide +kernel
theorem dX11_does_259 : decode cX11_does 259 = .ok (.getfield 11, 3) := by decide +kernel
theorem dX11_does_262 : decode cX11_does 262 = .ok (.iload_n 3, 1) := by decide +kernel
theorem dX11_does_263 : decode cX11_does 263 = .ok (.bipush 6, 2) := by decide +kernel
theorem dX11_does_265 : decode cX11_does 265 = .ok (.iconst 0, 1) := by decide +kernel
theorem dX11_does_266 : decode cX11_does 266 = .ok (.invokestatic 58, 3) := by decide +kernel
theorem dX11_does_269 : decode cX11_does 269 = .ok (.iconst 1, 1) := by decide +kernel
theorem dX11_does_270 : decode cX11_does 270 = .ok (.iastore, 1) := by decide +kernel
theorem dX11_does_271 : decode cX11_does 271 = .ok (.iconst 0, 1) := by decide +kernel
theorem dX11_does_272 : decode cX11_does 272 = .ok (.ireturn, 1) := by decide +kernel
theorem dX11_does_273 : decode cX11_does 273 = .ok (.iload_n 1, 1) := by decide +kernel
theorem dX11_does_274 : decode cX11_does 274 = .ok (.iconst 3, 1) := by decide +kernel
theorem dX11_does_275 : decode cX11_does 275 = .ok (.iadd, 1) := by decide +kernel
theorem dX11_does_276 : decode cX11_does 276 = .ok (.istore_n 3, 1) := by decide +kernel
theorem dX11_does_277 : decode cX11_does 277 = .ok (.aload_n 0, 1) := by decide +kernel
theorem dX11_does_278 : decode cX11_does 278 = .ok (.getfield 21, 3) := by decide +kernel
theorem dX11_does_281 : decode cX11_does 281 = .ok (.iload_n 3, 1) := by decide +kernel
theorem dX11_does_282 : decode cX11_does 282 = .ok (.iaload, 1) := by decide +kernel
theorem dX11_does_283 : decode cX11_does 283 = .ok (.bipush 58, 2) := by decide +kernel
theorem dX11_does_285 : decode cX11_does 285 = .ok (.if_icmp .eq 9, 3) := by decide +kernel
theorem dX11_does_288 : decode cX11_does 288 = .ok (.iinc 3 1, 3) := by decide +kernel
theorem dX11_does_291 : decode cX11_does 291 = .ok (.goto (-14), 3) := by decide +kernel
theorem dX11_does_294 : decode cX11_does 294 = .ok (.aload_n 0, 1) := by decide +kernel
theorem dX11_does_295 : decode cX11_does 295 = .ok (.getfield 11, 3) := by decide +kernel
theorem dX11_does_298 : decode cX11_does 298 = .ok (.bipush 10, 2) := by decide +kernel
theorem dX11_does_300 : decode cX11_does 300 = .ok (.aload_n 0, 1) := by decide +kernel
theorem dX11_does_301 : decode cX11_does 301 = .ok (.getfield 21, 3) := by decide +kernel
theorem dX11_does_304 : decode cX11_does 304 = .ok (.iload_n 1, 1) := by decide +kernel
theorem dX11_does_305 : decode cX11_does 305 = .ok (.iconst 1, 1) := by decide +kernel
theorem dX11_does_306 : decode cX11_does 306 = .ok (.iadd, 1) := by decide +kernel
theorem dX11_does_307 : decode cX11_does 307 = .ok (.iaload, 1) := by decide +kernel
theorem dX11_does_308 : decode cX11_does 308 = .ok (.iadd, 1) := by decide +kernel
theorem dX11_does_309 : decode cX11_does 309 = .ok (.bipush 48, 2) := by decide +kernel
theorem dX11_does_311 : decode cX11_does 311 = .ok (.isub, 1) := by decide +kernel
theorem dX11_does_312 : decode cX11_does 312 = .ok (.iaload, 1) := by decide +kernel
theorem dX11_does_313 : decode cX11_does 313 = .ok (.aload_n 0, 1) := by decide +kernel
theorem dX11_does_314 : decode cX11_does 314 = .ok (.iload_n 1, 1) := by decide +kernel
theorem dX11_does_315 : decode cX11_does 315 = .ok (.iconst 3, 1) := by decide +kernel
theorem dX11_does_316 : decode cX11_does 316 = .ok (.iadd, 1) := by decide +kernel
theorem dX11_does_317 : decode cX11_does 317 = .ok (.invokevirtual 171, 3) := by decide +kernel
theorem dX11_does_320 : decode cX11_does 320 = .ok (.if_icmp .ge 14, 3) := by decide +kernel
theorem dX11_does_323 : decode cX11_does 323 = .ok (.aload_n 0, 1) := by decide +kernel
theorem dX11_does_324 : decode cX11_does 324 = .ok (.iload_n 3, 1) := by decide +kernel
theorem dX11_does_325 : decode cX11_does 325 = .ok (.iconst 1, 1) := by decide +kernel
theorem dX11_does_326 : decode cX11_does 326 = .ok (.iadd, 1) := by decide +kernel
theorem dX11_does_327 : decode cX11_does 327 = .ok (.iload_n 2, 1) := by decide +kernel
theorem dX11_does_328 : decode cX11_does 328 = .ok (.invokevirtual 136, 3) := by decide +kernel
theorem dX11_does_331 : decode cX11_does 331 = .ok (.goto 4, 3) := by decide +kernel
theorem dX11_does_334 : decode cX11_does 334 = .ok (.iconst 0, 1) := by decide +kernel
theorem dX11_does_335 : decode cX11_does 335 = .ok (.ireturn, 1) := by decide +kernel
theorem dX11_does_336 : decode cX11_does 336 = .ok (.iconst 0, 1) := by decide +kernel
theorem dX11_does_337 : decode cX11_does 337 = .ok (.ireturn, 1) := by decide +kernel
theorem dX11_isFine_0 : decode cX11_isFine 0 = .ok (.aload_n 0, 1) := by decide +kernel
theorem dX11_isFine_1 : decode cX11_isFine 1 = .ok (.getfield 11, 3) := by decide +kernel
theorem dX11_isFine_4 : decode cX11_isFine 4 = .ok (.iload_n 1, 1) := by decide +kernel
theorem dX11_isFine_5 : decode cX11_isFine 5 = .ok (.bipush 6, 2) := by decide +kernel
theorem dX11_isFine_7 : decode cX11_isFine 7 = .ok (.iconst 0, 1) := by decide +kernel
theorem dX11_isFine_8 : decode cX11_isFine 8 = .ok (.invokestatic 58, 3) := by decide +kernel
theorem dX11_isFine_11 : decode cX11_isFine 11 = .ok (.iaload, 1) := by decide +kernel
theorem dX11_isFine_12 : decode cX11_isFine 12 = .ok (.ifCond .ne 7, 3) := by decide +kernel
theorem dX11_isFine_15 : decode cX11_isFine 15 = .ok (.iconst 1, 1) := by decide +kernel
theorem dX11_isFine_16 : decode cX11_isFine 16 = .ok (.goto 4, 3) := by decide +kernel
theorem dX11_isFine_19 : decode cX11_isFine 19 = .ok (.iconst 0, 1) := by decide +kernel
theorem dX11_isFine_20 : decode cX11_isFine 20 = .ok (.istore_n 2, 1) := by decide +kernel
theorem dX11_isFine_21 : decode cX11_isFine 21 = .ok (.iconst 0, 1) := by decide +kernel
theorem dX11_isFine_22 : decode cX11_isFine 22 = .ok (.istore_n 3, 1) := by decide +kernel
theorem dX11_isFine_23 : decode cX11_isFine 23 = .ok (.iload_n 3, 1) := by decide +kernel
theorem dX11_isFine_24 : decode cX11_isFine 24 = .ok (.aload_n 0, 1) := by decide +kernel
theorem dX11_isFine_25 : decode cX11_isFine 25 = .ok (.getfield 11, 3) := by decide +kernel
theorem dX11_isFine_28 : decode cX11_isFine 28 = .ok (.iload_n 1, 1) := by decide +kernel
theorem dX11_isFine_29 : decode cX11_isFine 29 = .ok (.bipush 11, 2) := by decide +kernel
theorem dX11_isFine_31 : decode cX11_isFine 31 = .ok (.iconst 0, 1) := by decide +kernel
theorem dX11_isFine_32 : decode cX11_isFine 32 = .ok (.invokestatic 58, 3) := by decide +kernel
theorem dX11_isFine_35 : decode cX11_isFine 35 = .ok (.iaload, 1) := by decide +kernel
theorem dX11_isFine_36 : decode cX11_isFine 36 = .ok (.if_icmp .ge 28, 3) := by decide +kernel
theorem dX11_isFine_39 : decode cX11_isFine 39 = .ok (.iload_n 2, 1) := by decide +kernel
theorem dX11_isFine_40 : decode cX11_isFine 40 = .ok (.aload_n 0, 1) := by decide +kernel
theorem dX11_isFine_41 : decode cX11_isFine 41 = .ok (.aload_n 0, 1) := by decide +kernel
theorem dX11_isFine_42 : decode cX11_isFine 42 = .ok (.getfield 11, 3) := by decide +kernel
theorem dX11_isFine_45 : decode cX11_isFine 45 = .ok (.iload_n 1, 1) := by decide +kernel
theorem dX11_isFine_46 : decode cX11_isFine 46 = .ok (.bipush 12, 2) := by decide +kernel
theorem dX11_isFine_48 : decode cX11_isFine 48 = .ok (.iload_n 3, 1) := by decide +kernel
theorem dX11_isFine_49 : decode cX11_isFine 49 = .ok (.invokestatic 58, 3) := by decide +kernel
theorem dX11_isFine_52 : decode cX11_isFine 52 = .ok (.iaload, 1) := by decide +kernel
theorem dX11_isFine_53 : decode cX11_isFine 53 = .ok (.invokevirtual 146, 3) := by decide +kernel
theorem dX11_isFine_56 : decode cX11_isFine 56 = .ok (.iand, 1) := by decide +kernel
theorem dX11_isFine_57 : decode cX11_isFine 57 = .ok (.istore_n 2, 1) := by decide +kernel
theorem dX11_isFine_58 : decode cX11_isFine 58 = .ok (.iinc 3 1, 3) := by decide +kernel
theorem dX11_isFine_61 : decode cX11_isFine 61 = .ok (.goto (-38), 3) := by decide +kernel
theorem dX11_isFine_64 : decode cX11_isFine 64 = .ok (.iload_n 2, 1) := by decide +kernel
theorem dX11_isFine_65 : decode cX11_isFine 65 = .ok (.ireturn, 1) := by decide +kernel
theorem dX11_gatheredBy_0 : decode cX11_gatheredBy 0 = .ok (.iconst 0, 1) := by decide +kernel
theorem dX11_gatheredBy_1 : decode cX11_gatheredBy 1 = .ok (.istore_n 2, 1) := by decide +kernel
theorem dX11_gatheredBy_2 : decode cX11_gatheredBy 2 = .ok (.iconst 0, 1) := by decide +kernel
theorem dX11_gatheredBy_3 : decode cX11_gatheredBy 3 = .ok (.istore_n 3, 1) := by decide +kernel
theorem dX11_gatheredBy_4 : decode cX11_gatheredBy 4 = .ok (.iload_n 3, 1) := by decide +kernel
theorem dX11_gatheredBy_5 : decode cX11_gatheredBy 5 = .ok (.aload_n 0, 1) := by decide +kernel
theorem dX11_gatheredBy_6 : decode cX11_gatheredBy 6 = .ok (.getfield 11, 3) := by decide +kernel
theorem dX11_gatheredBy_9 : decode cX11_gatheredBy 9 = .ok (.iconst 4, 1) := by decide +kernel
theorem dX11_gatheredBy_10 : decode cX11_gatheredBy 10 = .ok (.iaload, 1) := by decide +kernel
theorem dX11_gatheredBy_11 : decode cX11_gatheredBy 11 = .ok (.if_icmp .ge 33, 3) := by decide +kernel
theorem dX11_gatheredBy_14 : decode cX11_gatheredBy 14 = .ok (.iload_n 2, 1) := by decide +kernel
theorem dX11_gatheredBy_15 : decode cX11_gatheredBy 15 = .ok (.aload_n 0, 1) := by decide +kernel
theorem dX11_gatheredBy_16 : decode cX11_gatheredBy 16 = .ok (.getfield 11, 3) := by decide +kernel
theorem dX11_gatheredBy_19 : decode cX11_gatheredBy 19 = .ok (.sipush 2328, 3) := by decide +kernel
theorem dX11_gatheredBy_22 : decode cX11_gatheredBy 22 = .ok (.iconst 3, 1) := by decide +kernel
theorem dX11_gatheredBy_23 : decode cX11_gatheredBy 23 = .ok (.iload_n 3, 1) := by decide +kernel
theorem dX11_gatheredBy_24 : decode cX11_gatheredBy 24 = .ok (.imul, 1) := by decide +kernel
theorem dX11_gatheredBy_25 : decode cX11_gatheredBy 25 = .ok (.iadd, 1) := by decide +kernel
theorem dX11_gatheredBy_26 : decode cX11_gatheredBy 26 = .ok (.iaload, 1) := by decide +kernel
theorem dX11_gatheredBy_27 : decode cX11_gatheredBy 27 = .ok (.iload_n 1, 1) := by decide +kernel
theorem dX11_gatheredBy_28 : decode cX11_gatheredBy 28 = .ok (.if_icmp .ne 7, 3) := by decide +kernel
theorem dX11_gatheredBy_31 : decode cX11_gatheredBy 31 = .ok (.iconst 1, 1) := by decide +kernel
theorem dX11_gatheredBy_32 : decode cX11_gatheredBy 32 = .ok (.goto 4, 3) := by decide +kernel
theorem dX11_gatheredBy_35 : decode cX11_gatheredBy 35 = .ok (.iconst 0, 1) := by decide +kernel
theorem dX11_gatheredBy_36 : decode cX11_gatheredBy 36 = .ok (.iadd, 1) := by decide +kernel
theorem dX11_gatheredBy_37 : decode cX11_gatheredBy 37 = .ok (.istore_n 2, 1) := by decide +kernel
theorem dX11_gatheredBy_38 : decode cX11_gatheredBy 38 = .ok (.iinc 3 1, 3) := by decide +kernel
theorem dX11_gatheredBy_41 : decode cX11_gatheredBy 41 = .ok (.goto (-37), 3) := by decide +kernel
theorem dX11_gatheredBy_44 : decode cX11_gatheredBy 44 = .ok (.iload_n 2, 1) := by decide +kernel
theorem dX11_gatheredBy_45 : decode cX11_gatheredBy 45 = .ok (.ireturn, 1) := by decide +kernel
theorem dX11_isOver_0 : decode cX11_isOver 0 = .ok (.aload_n 0, 1) := by decide +kernel
theorem dX11_isOver_1 : decode cX11_isOver 1 = .ok (.getfield 11, 3) := by decide +kernel
theorem dX11_isOver_4 : decode cX11_isOver 4 = .ok (.iload_n 1, 1) := by decide +kernel
theorem dX11_isOver_5 : decode cX11_isOver 5 = .ok (.iconst 2, 1) := by decide +kernel
theorem dX11_isOver_6 : decode cX11_isOver 6 = .ok (.iconst 0, 1) := by decide +kernel
theorem dX11_isOver_7 : decode cX11_isOver 7 = .ok (.invokestatic 58, 3) := by decide +kernel
theorem dX11_isOver_10 : decode cX11_isOver 10 = .ok (.iload_n 2, 1) := by decide +kernel
theorem dX11_isOver_11 : decode cX11_isOver 11 = .ok (.iastore, 1) := by decide +kernel
theorem dX11_isOver_12 : decode cX11_isOver 12 = .ok (.aload_n 0, 1) := by decide +kernel
theorem dX11_isOver_13 : decode cX11_isOver 13 = .ok (.getfield 11, 3) := by decide +kernel
theorem dX11_isOver_16 : decode cX11_isOver 16 = .ok (.iload_n 1, 1) := by decide +kernel
theorem dX11_isOver_17 : decode cX11_isOver 17 = .ok (.bipush 11, 2) := by decide +kernel
theorem dX11_isOver_19 : decode cX11_isOver 19 = .ok (.iconst 0, 1) := by decide +kernel
theorem dX11_isOver_20 : decode cX11_isOver 20 = .ok (.invokestatic 58, 3) := by decide +kernel
theorem dX11_isOver_23 : decode cX11_isOver 23 = .ok (.iaload, 1) := by decide +kernel
theorem dX11_isOver_24 : decode cX11_isOver 24 = .ok (.iconst 1, 1) := by decide +kernel
theorem dX11_isOver_25 : decode cX11_isOver 25 = .ok (.isub, 1) := by decide +kernel
theorem dX11_isOver_26 : decode cX11_isOver 26 = .ok (.istore_n 3, 1) := by decide +kernel
theorem dX11_isOver_27 : decode cX11_isOver 27 = .ok (.iload_n 3, 1) := by decide +kernel
theorem dX11_isOver_28 : decode cX11_isOver 28 = .ok (.ifCond .lt 25, 3) := by decide +kernel
theorem dX11_isOver_31 : decode cX11_isOver 31 = .ok (.aload_n 0, 1) := by decide +kernel
theorem dX11_isOver_32 : decode cX11_isOver 32 = .ok (.aload_n 0, 1) := by decide +kernel
theorem dX11_isOver_33 : decode cX11_isOver 33 = .ok (.getfield 11, 3) := by decide +kernel
theorem dX11_isOver_36 : decode cX11_isOver 36 = .ok (.iload_n 1, 1) := by decide +kernel
theorem dX11_isOver_37 : decode cX11_isOver 37 = .ok (.bipush 12, 2) := by decide +kernel
theorem dX11_isOver_39 : decode cX11_isOver 39 = .ok (.iload_n 3, 1) := by decide +kernel
theorem dX11_isOver_40 : decode cX11_isOver 40 = .ok (.invokestatic 58, 3) := by decide +kernel
theorem dX11_isOver_43 : decode cX11_isOver 43 = .ok (.iaload, 1) := by decide +kernel
theorem dX11_isOver_44 : decode cX11_isOver 44 = .ok (.invokevirtual 157, 3) := by decide +kernel
theorem dX11_isOver_47 : decode cX11_isOver 47 = .ok (.iinc 3 (-1), 3) := by decide +kernel
theorem dX11_isOver_50 : decode cX11_isOver 50 = .ok (.goto (-23), 3) := by decide +kernel
theorem dX11_isOver_53 : decode cX11_isOver 53 = .ok (.return_, 1) := by decide +kernel
theorem dX11_doesIn_0 : decode cX11_doesIn 0 = .ok (.iload_n 1, 1) := by decide +kernel
theorem dX11_doesIn_1 : decode cX11_doesIn 1 = .ok (.bipush 11, 2) := by decide +kernel
theorem dX11_doesIn_3 : decode cX11_doesIn 3 = .ok (.aload_n 0, 1) := by decide +kernel
theorem dX11_doesIn_4 : decode cX11_doesIn 4 = .ok (.getfield 11, 3) := by decide +kernel
theorem dX11_doesIn_7 : decode cX11_doesIn 7 = .ok (.iload_n 1, 1) := by decide +kernel
theorem dX11_doesIn_8 : decode cX11_doesIn 8 = .ok (.bipush 11, 2) := by decide +kernel
theorem dX11_doesIn_10 : decode cX11_doesIn 10 = .ok (.iconst 0, 1) := by decide +kernel
theorem dX11_doesIn_11 : decode cX11_doesIn 11 = .ok (.invokestatic 58, 3) := by decide +kernel
theorem dX11_doesIn_14 : decode cX11_doesIn 14 = .ok (.iaload, 1) := by decide +kernel
theorem dX11_doesIn_15 : decode cX11_doesIn 15 = .ok (.invokestatic 58, 3) := by decide +kernel
theorem dX11_doesIn_18 : decode cX11_doesIn 18 = .ok (.istore_n 3, 1) := by decide +kernel
theorem dX11_doesIn_19 : decode cX11_doesIn 19 = .ok (.aload_n 0, 1) := by decide +kernel
theorem dX11_doesIn_20 : decode cX11_doesIn 20 = .ok (.getfield 11, 3) := by decide +kernel
theorem dX11_doesIn_23 : decode cX11_doesIn 23 = .ok (.iload_n 3, 1) := by decide +kernel
theorem dX11_doesIn_24 : decode cX11_doesIn 24 = .ok (.iaload, 1) := by decide +kernel
theorem dX11_doesIn_25 : decode cX11_doesIn 25 = .ok (.istore 4, 2) := by decide +kernel
theorem dX11_doesIn_27 : decode cX11_doesIn 27 = .ok (.aload_n 0, 1) := by decide +kernel
theorem dX11_doesIn_28 : decode cX11_doesIn 28 = .ok (.getfield 21, 3) := by decide +kernel
theorem dX11_doesIn_31 : decode cX11_doesIn 31 = .ok (.iload_n 2, 1) := by decide +kernel
theorem dX11_doesIn_32 : decode cX11_doesIn 32 = .ok (.iaload, 1) := by decide +kernel
theorem dX11_doesIn_33 : decode cX11_doesIn 33 = .ok (.bipush 40, 2) := by decide +kernel
theorem dX11_doesIn_35 : decode cX11_doesIn 35 = .ok (.if_icmp .ne 62, 3) := by decide +kernel
theorem dX11_doesIn_38 : decode cX11_doesIn 38 = .ok (.aload_n 0, 1) := by decide +kernel
theorem dX11_doesIn_39 : decode cX11_doesIn 39 = .ok (.getfield 11, 3) := by decide +kernel
theorem dX11_doesIn_42 : decode cX11_doesIn 42 = .ok (.iconst 0, 1) := by decide +kernel
theorem dX11_doesIn_43 : decode cX11_doesIn 43 = .ok (.iaload, 1) := by decide +kernel
theorem dX11_doesIn_44 : decode cX11_doesIn 44 = .ok (.bipush 60, 2) := by decide +kernel
theorem dX11_doesIn_46 : decode cX11_doesIn 46 = .ok (.if_icmp .ne 6, 3) := by decide +kernel
theorem dX11_doesIn_49 : decode cX11_doesIn 49 = .ok (.bipush 107, 2) := by decide +kernel
theorem dX11_doesIn_51 : decode cX11_doesIn 51 = .ok (.ireturn, 1) := by decide +kernel
theorem dX11_doesIn_52 : decode cX11_doesIn 52 = .ok (.aload_n 0, 1) := by decide +kernel
theorem dX11_doesIn_53 : decode cX11_doesIn 53 = .ok (.iload 4, 2) := by decide +kernel
theorem dX11_doesIn_55 : decode cX11_doesIn 55 = .ok (.invokevirtual 146, 3) := by decide +kernel
theorem dX11_doesIn_58 : decode cX11_doesIn 58 = .ok (.ifCond .ne 6, 3) := by decide +kernel
theorem dX11_doesIn_61 : decode cX11_doesIn 61 = .ok (.bipush 101, 2) := by decide +kernel
theorem dX11_doesIn_63 : decode cX11_doesIn 63 = .ok (.ireturn, 1) := by decide +kernel
theorem dX11_doesIn_64 : decode cX11_doesIn 64 = .ok (.aload_n 0, 1) := by decide +kernel
theorem dX11_doesIn_65 : decode cX11_doesIn 65 = .ok (.getfield 11, 3) := by decide +kernel
theorem dX11_doesIn_68 : decode cX11_doesIn 68 = .ok (.iload_n 3, 1) := by decide +kernel
theorem dX11_doesIn_69 : decode cX11_doesIn 69 = .ok (.iconst 1, 1) := by decide +kernel
theorem dX11_doesIn_70 : decode cX11_doesIn 70 = .ok (.iadd, 1) := by decide +kernel
theorem dX11_doesIn_71 : decode cX11_doesIn 71 = .ok (.aload_n 0, 1) := by decide +kernel
theorem dX11_doesIn_72 : decode cX11_doesIn 72 = .ok (.iload 4, 2) := by decide +kernel
theorem dX11_doesIn_74 : decode cX11_doesIn 74 = .ok (.iload_n 1, 1) := by decide +kernel
theorem dX11_doesIn_75 : decode cX11_doesIn 75 = .ok (.invokevirtual 186, 3) := by decide +kernel
theorem dX11_doesIn_78 : decode cX11_doesIn 78 = .ok (.iastore, 1) := by decide +kernel
theorem dX11_doesIn_79 : decode cX11_doesIn 79 = .ok (.aload_n 0, 1) := by decide +kernel
theorem dX11_doesIn_80 : decode cX11_doesIn 80 = .ok (.getfield 11, 3) := by decide +kernel
theorem dX11_doesIn_83 : decode cX11_doesIn 83 = .ok (.iload_n 1, 1) := by decide +kernel
theorem dX11_doesIn_84 : decode cX11_doesIn 84 = .ok (.bipush 11, 2) := by decide +kernel
theorem dX11_doesIn_86 : decode cX11_doesIn 86 = .ok (.iconst 0, 1) := by decide +kernel
theorem dX11_doesIn_87 : decode cX11_doesIn 87 = .ok (.invokestatic 58, 3) := by decide +kernel
theorem dX11_doesIn_90 : decode cX11_doesIn 90 = .ok (.dup2, 1) := by decide +kernel
theorem dX11_doesIn_91 : decode cX11_doesIn 91 = .ok (.iaload, 1) := by decide +kernel
theorem dX11_doesIn_92 : decode cX11_doesIn 92 = .ok (.iconst 1, 1) := by decide +kernel
theorem dX11_doesIn_93 : decode cX11_doesIn 93 = .ok (.iadd, 1) := by decide +kernel
theorem dX11_doesIn_94 : decode cX11_doesIn 94 = .ok (.iastore, 1) := by decide +kernel
theorem dX11_doesIn_95 : decode cX11_doesIn 95 = .ok (.iconst 0, 1) := by decide +kernel
theorem dX11_doesIn_96 : decode cX11_doesIn 96 = .ok (.ireturn, 1) := by decide +kernel
theorem dX11_doesIn_97 : decode cX11_doesIn 97 = .ok (.aload_n 0, 1) := by decide +kernel
theorem dX11_doesIn_98 : decode cX11_doesIn 98 = .ok (.getfield 21, 3) := by decide +kernel
theorem dX11_doesIn_101 : decode cX11_doesIn 101 = .ok (.iload_n 2, 1) := by decide +kernel
theorem dX11_doesIn_102 : decode cX11_doesIn 102 = .ok (.iaload, 1) := by decide +kernel
theorem dX11_doesIn_103 : decode cX11_doesIn 103 = .ok (.bipush 41, 2) := by decide +kernel
theorem dX11_doesIn_105 : decode cX11_doesIn 105 = .ok (.if_icmp .ne 27, 3) := by decide +kernel
theorem dX11_doesIn_108 : decode cX11_doesIn 108 = .ok (.aload_n 0, 1) := by decide +kernel
theorem dX11_doesIn_109 : decode cX11_doesIn 109 = .ok (.getfield 11, 3) := by decide +kernel
theorem dX11_doesIn_112 : decode cX11_doesIn 112 = .ok (.iload_n 1, 1) := by decide +kernel
theorem dX11_doesIn_113 : decode cX11_doesIn 113 = .ok (.bipush 11, 2) := by decide +kernel
theorem dX11_doesIn_115 : decode cX11_doesIn 115 = .ok (.iconst 0, 1) := by decide +kernel
theorem dX11_doesIn_116 : decode cX11_doesIn 116 = .ok (.invokestatic 58, 3) := by decide +kernel
theorem dX11_doesIn_119 : decode cX11_doesIn 119 = .ok (.dup2, 1) := by decide +kernel
theorem dX11_doesIn_120 : decode cX11_doesIn 120 = .ok (.iaload, 1) := by decide +kernel
theorem dX11_doesIn_121 : decode cX11_doesIn 121 = .ok (.iconst 1, 1) := by decide +kernel
theorem dX11_doesIn_122 : decode cX11_doesIn 122 = .ok (.isub, 1) := by decide +kernel
theorem dX11_doesIn_123 : decode cX11_doesIn 123 = .ok (.iastore, 1) := by decide +kernel
theorem dX11_doesIn_124 : decode cX11_doesIn 124 = .ok (.aload_n 0, 1) := by decide +kernel
theorem dX11_doesIn_125 : decode cX11_doesIn 125 = .ok (.iload 4, 2) := by decide +kernel
theorem dX11_doesIn_127 : decode cX11_doesIn 127 = .ok (.invokevirtual 157, 3) := by decide +kernel
theorem dX11_doesIn_130 : decode cX11_doesIn 130 = .ok (.iconst 0, 1) := by decide +kernel
theorem dX11_doesIn_131 : decode cX11_doesIn 131 = .ok (.ireturn, 1) := by decide +kernel
theorem dX11_doesIn_132 : decode cX11_doesIn 132 = .ok (.aload_n 0, 1) := by decide +kernel
theorem dX11_doesIn_133 : decode cX11_doesIn 133 = .ok (.iload_n 2, 1) := by decide +kernel
theorem dX11_doesIn_134 : decode cX11_doesIn 134 = .ok (.iload 4, 2) := by decide +kernel
theorem dX11_doesIn_136 : decode cX11_doesIn 136 = .ok (.invokevirtual 136, 3) := by decide +kernel
theorem dX11_doesIn_139 : decode cX11_doesIn 139 = .ok (.ireturn, 1) := by decide +kernel
theorem dX11_turn_0 : decode cX11_turn 0 = .ok (.aload_n 0, 1) := by decide +kernel
theorem dX11_turn_1 : decode cX11_turn 1 = .ok (.iload_n 1, 1) := by decide +kernel
theorem dX11_turn_2 : decode cX11_turn 2 = .ok (.putfield 133, 3) := by decide +kernel
theorem dX11_turn_5 : decode cX11_turn 5 = .ok (.aload_n 0, 1) := by decide +kernel
theorem dX11_turn_6 : decode cX11_turn 6 = .ok (.getfield 11, 3) := by decide +kernel
theorem dX11_turn_9 : decode cX11_turn 9 = .ok (.bipush 7, 2) := by decide +kernel
theorem dX11_turn_11 : decode cX11_turn 11 = .ok (.dup2, 1) := by decide +kernel
theorem dX11_turn_12 : decode cX11_turn 12 = .ok (.iaload, 1) := by decide +kernel
theorem dX11_turn_13 : decode cX11_turn 13 = .ok (.iconst 1, 1) := by decide +kernel
theorem dX11_turn_14 : decode cX11_turn 14 = .ok (.iadd, 1) := by decide +kernel
theorem dX11_turn_15 : decode cX11_turn 15 = .ok (.iastore, 1) := by decide +kernel
theorem dX11_turn_16 : decode cX11_turn 16 = .ok (.aload_n 0, 1) := by decide +kernel
theorem dX11_turn_17 : decode cX11_turn 17 = .ok (.getfield 11, 3) := by decide +kernel
theorem dX11_turn_20 : decode cX11_turn 20 = .ok (.iload_n 1, 1) := by decide +kernel
theorem dX11_turn_21 : decode cX11_turn 21 = .ok (.iconst 4, 1) := by decide +kernel
theorem dX11_turn_22 : decode cX11_turn 22 = .ok (.iconst 0, 1) := by decide +kernel
theorem dX11_turn_23 : decode cX11_turn 23 = .ok (.invokestatic 58, 3) := by decide +kernel
theorem dX11_turn_26 : decode cX11_turn 26 = .ok (.dup2, 1) := by decide +kernel
theorem dX11_turn_27 : decode cX11_turn 27 = .ok (.iaload, 1) := by decide +kernel
theorem dX11_turn_28 : decode cX11_turn 28 = .ok (.iconst 1, 1) := by decide +kernel
theorem dX11_turn_29 : decode cX11_turn 29 = .ok (.iadd, 1) := by decide +kernel
theorem dX11_turn_30 : decode cX11_turn 30 = .ok (.iastore, 1) := by decide +kernel
theorem dX11_turn_31 : decode cX11_turn 31 = .ok (.aload_n 0, 1) := by decide +kernel
theorem dX11_turn_32 : decode cX11_turn 32 = .ok (.getfield 11, 3) := by decide +kernel
theorem dX11_turn_35 : decode cX11_turn 35 = .ok (.iload_n 1, 1) := by decide +kernel
theorem dX11_turn_36 : decode cX11_turn 36 = .ok (.iconst 5, 1) := by decide +kernel
theorem dX11_turn_37 : decode cX11_turn 37 = .ok (.iconst 0, 1) := by decide +kernel
theorem dX11_turn_38 : decode cX11_turn 38 = .ok (.invokestatic 58, 3) := by decide +kernel
theorem dX11_turn_41 : decode cX11_turn 41 = .ok (.aload_n 0, 1) := by decide +kernel
theorem dX11_turn_42 : decode cX11_turn 42 = .ok (.getfield 11, 3) := by decide +kernel
theorem dX11_turn_45 : decode cX11_turn 45 = .ok (.bipush 7, 2) := by decide +kernel
theorem dX11_turn_47 : decode cX11_turn 47 = .ok (.iaload, 1) := by decide +kernel
theorem dX11_turn_48 : decode cX11_turn 48 = .ok (.iastore, 1) := by decide +kernel
theorem dX11_turn_49 : decode cX11_turn 49 = .ok (.aload_n 0, 1) := by decide +kernel
theorem dX11_turn_50 : decode cX11_turn 50 = .ok (.iload_n 1, 1) := by decide +kernel
theorem dX11_turn_51 : decode cX11_turn 51 = .ok (.invokevirtual 189, 3) := by decide +kernel
theorem dX11_turn_54 : decode cX11_turn 54 = .ok (.ifCond .ne 10, 3) := by decide +kernel
theorem dX11_turn_57 : decode cX11_turn 57 = .ok (.aload_n 0, 1) := by decide +kernel
theorem dX11_turn_58 : decode cX11_turn 58 = .ok (.iload_n 1, 1) := by decide +kernel
theorem dX11_turn_59 : decode cX11_turn 59 = .ok (.iconst 3, 1) := by decide +kernel
theorem dX11_turn_60 : decode cX11_turn 60 = .ok (.invokevirtual 192, 3) := by decide +kernel
theorem dX11_turn_63 : decode cX11_turn 63 = .ok (.return_, 1) := by decide +kernel
theorem dX11_turn_64 : decode cX11_turn 64 = .ok (.aload_n 0, 1) := by decide +kernel
theorem dX11_turn_65 : decode cX11_turn 65 = .ok (.getfield 11, 3) := by decide +kernel
theorem dX11_turn_68 : decode cX11_turn 68 = .ok (.iload_n 1, 1) := by decide +kernel
theorem dX11_turn_69 : decode cX11_turn 69 = .ok (.bipush 9, 2) := by decide +kernel
theorem dX11_turn_71 : decode cX11_turn 71 = .ok (.iconst 0, 1) := by decide +kernel
theorem dX11_turn_72 : decode cX11_turn 72 = .ok (.invokestatic 58, 3) := by decide +kernel
theorem dX11_turn_75 : decode cX11_turn 75 = .ok (.iaload, 1) := by decide +kernel
theorem dX11_turn_76 : decode cX11_turn 76 = .ok (.istore_n 2, 1) := by decide +kernel
theorem dX11_turn_77 : decode cX11_turn 77 = .ok (.aload_n 0, 1) := by decide +kernel
theorem dX11_turn_78 : decode cX11_turn 78 = .ok (.getfield 11, 3) := by decide +kernel
theorem dX11_turn_81 : decode cX11_turn 81 = .ok (.iload_n 1, 1) := by decide +kernel
theorem dX11_turn_82 : decode cX11_turn 82 = .ok (.iconst 3, 1) := by decide +kernel
theorem dX11_turn_83 : decode cX11_turn 83 = .ok (.iconst 0, 1) := by decide +kernel
theorem dX11_turn_84 : decode cX11_turn 84 = .ok (.invokestatic 58, 3) := by decide +kernel
theorem dX11_turn_87 : decode cX11_turn 87 = .ok (.iaload, 1) := by decide +kernel
theorem dX11_turn_88 : decode cX11_turn 88 = .ok (.istore_n 3, 1) := by decide +kernel
theorem dX11_turn_89 : decode cX11_turn 89 = .ok (.iconst 1, 1) := by decide +kernel
theorem dX11_turn_90 : decode cX11_turn 90 = .ok (.istore 4, 2) := by decide +kernel
theorem dX11_turn_92 : decode cX11_turn 92 = .ok (.iload 4, 2) := by decide +kernel
theorem dX11_turn_94 : decode cX11_turn 94 = .ok (.ifCond .eq 88, 3) := by decide +kernel
theorem dX11_turn_97 : decode cX11_turn 97 = .ok (.iload_n 3, 1) := by decide +kernel
theorem dX11_turn_98 : decode cX11_turn 98 = .ok (.iload_n 2, 1) := by decide +kernel
theorem dX11_turn_99 : decode cX11_turn 99 = .ok (.if_icmp .ge 83, 3) := by decide +kernel
theorem dX11_turn_102 : decode cX11_turn 102 = .ok (.aload_n 0, 1) := by decide +kernel
theorem dX11_turn_103 : decode cX11_turn 103 = .ok (.iload_n 1, 1) := by decide +kernel
theorem dX11_turn_104 : decode cX11_turn 104 = .ok (.iload_n 3, 1) := by decide +kernel
theorem dX11_turn_105 : decode cX11_turn 105 = .ok (.invokevirtual 195, 3) := by decide +kernel
theorem dX11_turn_108 : decode cX11_turn 108 = .ok (.istore 5, 2) := by decide +kernel
theorem dX11_turn_110 : decode cX11_turn 110 = .ok (.iload 5, 2) := by decide +kernel
theorem dX11_turn_112 : decode cX11_turn 112 = .ok (.ifCond .eq 24, 3) := by decide +kernel
theorem dX11_turn_115 : decode cX11_turn 115 = .ok (.aload_n 0, 1) := by decide +kernel
theorem dX11_turn_116 : decode cX11_turn 116 = .ok (.getfield 11, 3) := by decide +kernel
theorem dX11_turn_119 : decode cX11_turn 119 = .ok (.iload_n 1, 1) := by decide +kernel
theorem dX11_turn_120 : decode cX11_turn 120 = .ok (.bipush 10, 2) := by decide +kernel
theorem dX11_turn_122 : decode cX11_turn 122 = .ok (.iconst 0, 1) := by decide +kernel
theorem dX11_turn_123 : decode cX11_turn 123 = .ok (.invokestatic 58, 3) := by decide +kernel
theorem dX11_turn_126 : decode cX11_turn 126 = .ok (.iload 5, 2) := by decide +kernel
theorem dX11_turn_128 : decode cX11_turn 128 = .ok (.iastore, 1) := by decide +kernel
theorem dX11_turn_129 : decode cX11_turn 129 = .ok (.aload_n 0, 1) := by decide +kernel
theorem dX11_turn_130 : decode cX11_turn 130 = .ok (.iload_n 1, 1) := by decide +kernel
theorem dX11_turn_131 : decode cX11_turn 131 = .ok (.iconst 2, 1) := by decide +kernel
theorem dX11_turn_132 : decode cX11_turn 132 = .ok (.invokevirtual 192, 3) := by decide +kernel
theorem dX11_turn_135 : decode cX11_turn 135 = .ok (.return_, 1) := by decide +kernel
theorem dX11_turn_136 : decode cX11_turn 136 = .ok (.aload_n 0, 1) := by decide +kernel
theorem dX11_turn_137 : decode cX11_turn 137 = .ok (.getfield 11, 3) := by decide +kernel
theorem dX11_turn_140 : decode cX11_turn 140 = .ok (.iload_n 1, 1) := by decide +kernel
theorem dX11_turn_141 : decode cX11_turn 141 = .ok (.bipush 7, 2) := by decide +kernel
theorem dX11_turn_143 : decode cX11_turn 143 = .ok (.iconst 0, 1) := by decide +kernel
theorem dX11_turn_144 : decode cX11_turn 144 = .ok (.invokestatic 58, 3) := by decide +kernel
theorem dX11_turn_147 : decode cX11_turn 147 = .ok (.dup2, 1) := by decide +kernel
theorem dX11_turn_148 : decode cX11_turn 148 = .ok (.iaload, 1) := by decide +kernel
theorem dX11_turn_149 : decode cX11_turn 149 = .ok (.iconst 1, 1) := by decide +kernel
theorem dX11_turn_150 : decode cX11_turn 150 = .ok (.iadd, 1) := by decide +kernel
theorem dX11_turn_151 : decode cX11_turn 151 = .ok (.iastore, 1) := by decide +kernel
theorem dX11_turn_152 : decode cX11_turn 152 = .ok (.aload_n 0, 1) := by decide +kernel
theorem dX11_turn_153 : decode cX11_turn 153 = .ok (.getfield 21, 3) := by decide +kernel
theorem dX11_turn_156 : decode cX11_turn 156 = .ok (.iload_n 3, 1) := by decide +kernel
theorem dX11_turn_157 : decode cX11_turn 157 = .ok (.iaload, 1) := by decide +kernel
theorem dX11_turn_158 : decode cX11_turn 158 = .ok (.bipush 46, 2) := by decide +kernel
theorem dX11_turn_160 : decode cX11_turn 160 = .ok (.if_icmp .eq 7, 3) := by decide +kernel
theorem dX11_turn_163 : decode cX11_turn 163 = .ok (.iconst 1, 1) := by decide +kernel
theorem dX11_turn_164 : decode cX11_turn 164 = .ok (.goto 4, 3) := by decide +kernel
theorem dX11_turn_167 : decode cX11_turn 167 = .ok (.iconst 0, 1) := by decide +kernel
theorem dX11_turn_168 : decode cX11_turn 168 = .ok (.istore 4, 2) := by decide +kernel
theorem dX11_turn_170 : decode cX11_turn 170 = .ok (.aload_n 0, 1) := by decide +kernel
theorem dX11_turn_171 : decode cX11_turn 171 = .ok (.iload_n 3, 1) := by decide +kernel
theorem dX11_turn_172 : decode cX11_turn 172 = .ok (.iload_n 2, 1) := by decide +kernel
theorem dX11_turn_173 : decode cX11_turn 173 = .ok (.invokevirtual 139, 3) := by decide +kernel
theorem dX11_turn_176 : decode cX11_turn 176 = .ok (.iconst 1, 1) := by decide +kernel
theorem dX11_turn_177 : decode cX11_turn 177 = .ok (.iadd, 1) := by decide +kernel
theorem dX11_turn_178 : decode cX11_turn 178 = .ok (.istore_n 3, 1) := by decide +kernel
theorem dX11_turn_179 : decode cX11_turn 179 = .ok (.goto (-87), 3) := by decide +kernel
theorem dX11_turn_182 : decode cX11_turn 182 = .ok (.aload_n 0, 1) := by decide +kernel
theorem dX11_turn_183 : decode cX11_turn 183 = .ok (.getfield 11, 3) := by decide +kernel
theorem dX11_turn_186 : decode cX11_turn 186 = .ok (.iload_n 1, 1) := by decide +kernel
theorem dX11_turn_187 : decode cX11_turn 187 = .ok (.iconst 3, 1) := by decide +kernel
theorem dX11_turn_188 : decode cX11_turn 188 = .ok (.iconst 0, 1) := by decide +kernel
theorem dX11_turn_189 : decode cX11_turn 189 = .ok (.invokestatic 58, 3) := by decide +kernel
theorem dX11_turn_192 : decode cX11_turn 192 = .ok (.iload_n 3, 1) := by decide +kernel
theorem dX11_turn_193 : decode cX11_turn 193 = .ok (.iastore, 1) := by decide +kernel
theorem dX11_turn_194 : decode cX11_turn 194 = .ok (.iload_n 3, 1) := by decide +kernel
theorem dX11_turn_195 : decode cX11_turn 195 = .ok (.iload_n 2, 1) := by decide +kernel
theorem dX11_turn_196 : decode cX11_turn 196 = .ok (.if_icmp .lt 21, 3) := by decide +kernel
theorem dX11_turn_199 : decode cX11_turn 199 = .ok (.aload_n 0, 1) := by decide +kernel
theorem dX11_turn_200 : decode cX11_turn 200 = .ok (.iload_n 1, 1) := by decide +kernel
theorem dX11_turn_201 : decode cX11_turn 201 = .ok (.aload_n 0, 1) := by decide +kernel
theorem dX11_turn_202 : decode cX11_turn 202 = .ok (.iload_n 1, 1) := by decide +kernel
theorem dX11_turn_203 : decode cX11_turn 203 = .ok (.invokevirtual 198, 3) := by decide +kernel
theorem dX11_turn_206 : decode cX11_turn 206 = .ok (.ifCond .ne 7, 3) := by decide +kernel
theorem dX11_turn_209 : decode cX11_turn 209 = .ok (.iconst 1, 1) := by decide +kernel
theorem dX11_turn_210 : decode cX11_turn 210 = .ok (.goto 4, 3) := by decide +kernel
theorem dX11_turn_213 : decode cX11_turn 213 = .ok (.iconst 2, 1) := by decide +kernel
theorem dX11_turn_214 : decode cX11_turn 214 = .ok (.invokevirtual 192, 3) := by decide +kernel
theorem dX11_turn_217 : decode cX11_turn 217 = .ok (.return_, 1) := by decide +kernel
theorem dX11_isAhead_0 : decode cX11_isAhead 0 = .ok (.aload_n 0, 1) := by decide +kernel
theorem dX11_isAhead_1 : decode cX11_isAhead 1 = .ok (.getfield 11, 3) := by decide +kernel
theorem dX11_isAhead_4 : decode cX11_isAhead 4 = .ok (.iload_n 1, 1) := by decide +kernel
theorem dX11_isAhead_5 : decode cX11_isAhead 5 = .ok (.iconst 1, 1) := by decide +kernel
theorem dX11_isAhead_6 : decode cX11_isAhead 6 = .ok (.iconst 0, 1) := by decide +kernel
theorem dX11_isAhead_7 : decode cX11_isAhead 7 = .ok (.invokestatic 58, 3) := by decide +kernel
theorem dX11_isAhead_10 : decode cX11_isAhead 10 = .ok (.iaload, 1) := by decide +kernel
theorem dX11_isAhead_11 : decode cX11_isAhead 11 = .ok (.aload_n 0, 1) := by decide +kernel
theorem dX11_isAhead_12 : decode cX11_isAhead 12 = .ok (.getfield 11, 3) := by decide +kernel
theorem dX11_isAhead_15 : decode cX11_isAhead 15 = .ok (.iload_n 2, 1) := by decide +kernel
theorem dX11_isAhead_16 : decode cX11_isAhead 16 = .ok (.iconst 1, 1) := by decide +kernel
theorem dX11_isAhead_17 : decode cX11_isAhead 17 = .ok (.iconst 0, 1) := by decide +kernel
theorem dX11_isAhead_18 : decode cX11_isAhead 18 = .ok (.invokestatic 58, 3) := by decide +kernel
theorem dX11_isAhead_21 : decode cX11_isAhead 21 = .ok (.iaload, 1) := by decide +kernel
theorem dX11_isAhead_22 : decode cX11_isAhead 22 = .ok (.isub, 1) := by decide +kernel
theorem dX11_isAhead_23 : decode cX11_isAhead 23 = .ok (.istore_n 3, 1) := by decide +kernel
theorem dX11_isAhead_24 : decode cX11_isAhead 24 = .ok (.iload_n 3, 1) := by decide +kernel
theorem dX11_isAhead_25 : decode cX11_isAhead 25 = .ok (.ifCond .eq 13, 3) := by decide +kernel
theorem dX11_isAhead_28 : decode cX11_isAhead 28 = .ok (.iload_n 3, 1) := by decide +kernel
theorem dX11_isAhead_29 : decode cX11_isAhead 29 = .ok (.ifCond .le 7, 3) := by decide +kernel
theorem dX11_isAhead_32 : decode cX11_isAhead 32 = .ok (.iconst 1, 1) := by decide +kernel
theorem dX11_isAhead_33 : decode cX11_isAhead 33 = .ok (.goto 4, 3) := by decide +kernel
theorem dX11_isAhead_36 : decode cX11_isAhead 36 = .ok (.iconst 0, 1) := by decide +kernel
theorem dX11_isAhead_37 : decode cX11_isAhead 37 = .ok (.ireturn, 1) := by decide +kernel
theorem dX11_isAhead_38 : decode cX11_isAhead 38 = .ok (.aload_n 0, 1) := by decide +kernel
theorem dX11_isAhead_39 : decode cX11_isAhead 39 = .ok (.getfield 11, 3) := by decide +kernel
theorem dX11_isAhead_42 : decode cX11_isAhead 42 = .ok (.iload_n 1, 1) := by decide +kernel
theorem dX11_isAhead_43 : decode cX11_isAhead 43 = .ok (.iconst 5, 1) := by decide +kernel
theorem dX11_isAhead_44 : decode cX11_isAhead 44 = .ok (.iconst 0, 1) := by decide +kernel
theorem dX11_isAhead_45 : decode cX11_isAhead 45 = .ok (.invokestatic 58, 3) := by decide +kernel
theorem dX11_isAhead_48 : decode cX11_isAhead 48 = .ok (.iaload, 1) := by decide +kernel
theorem dX11_isAhead_49 : decode cX11_isAhead 49 = .ok (.aload_n 0, 1) := by decide +kernel
theorem dX11_isAhead_50 : decode cX11_isAhead 50 = .ok (.getfield 11, 3) := by decide +kernel
theorem dX11_isAhead_53 : decode cX11_isAhead 53 = .ok (.iload_n 2, 1) := by decide +kernel
theorem dX11_isAhead_54 : decode cX11_isAhead 54 = .ok (.iconst 5, 1) := by decide +kernel
theorem dX11_isAhead_55 : decode cX11_isAhead 55 = .ok (.iconst 0, 1) := by decide +kernel
theorem dX11_isAhead_56 : decode cX11_isAhead 56 = .ok (.invokestatic 58, 3) := by decide +kernel
theorem dX11_isAhead_59 : decode cX11_isAhead 59 = .ok (.iaload, 1) := by decide +kernel
theorem dX11_isAhead_60 : decode cX11_isAhead 60 = .ok (.if_icmp .eq 36, 3) := by decide +kernel
theorem dX11_isAhead_63 : decode cX11_isAhead 63 = .ok (.aload_n 0, 1) := by decide +kernel
theorem dX11_isAhead_64 : decode cX11_isAhead 64 = .ok (.getfield 11, 3) := by decide +kernel
theorem dX11_isAhead_67 : decode cX11_isAhead 67 = .ok (.iload_n 1, 1) := by decide +kernel
theorem dX11_isAhead_68 : decode cX11_isAhead 68 = .ok (.iconst 5, 1) := by decide +kernel
theorem dX11_isAhead_69 : decode cX11_isAhead 69 = .ok (.iconst 0, 1) := by decide +kernel
theorem dX11_isAhead_70 : decode cX11_isAhead 70 = .ok (.invokestatic 58, 3) := by decide +kernel
theorem dX11_isAhead_73 : decode cX11_isAhead 73 = .ok (.iaload, 1) := by decide +kernel
theorem dX11_isAhead_74 : decode cX11_isAhead 74 = .ok (.aload_n 0, 1) := by decide +kernel
theorem dX11_isAhead_75 : decode cX11_isAhead 75 = .ok (.getfield 11, 3) := by decide +kernel
theorem dX11_isAhead_78 : decode cX11_isAhead 78 = .ok (.iload_n 2, 1) := by decide +kernel
theorem dX11_isAhead_79 : decode cX11_isAhead 79 = .ok (.iconst 5, 1) := by decide +kernel
theorem dX11_isAhead_80 : decode cX11_isAhead 80 = .ok (.iconst 0, 1) := by decide +kernel
theorem dX11_isAhead_81 : decode cX11_isAhead 81 = .ok (.invokestatic 58, 3) := by decide +kernel
theorem dX11_isAhead_84 : decode cX11_isAhead 84 = .ok (.iaload, 1) := by decide +kernel
theorem dX11_isAhead_85 : decode cX11_isAhead 85 = .ok (.if_icmp .ge 7, 3) := by decide +kernel
theorem dX11_isAhead_88 : decode cX11_isAhead 88 = .ok (.iconst 1, 1) := by decide +kernel
theorem dX11_isAhead_89 : decode cX11_isAhead 89 = .ok (.goto 17, 3) := by decide +kernel
theorem dX11_isAhead_92 : decode cX11_isAhead 92 = .ok (.iconst 0, 1) := by decide +kernel
theorem dX11_isAhead_93 : decode cX11_isAhead 93 = .ok (.goto 13, 3) := by decide +kernel
theorem dX11_isAhead_96 : decode cX11_isAhead 96 = .ok (.iload_n 1, 1) := by decide +kernel
theorem dX11_isAhead_97 : decode cX11_isAhead 97 = .ok (.iload_n 2, 1) := by decide +kernel
theorem dX11_isAhead_98 : decode cX11_isAhead 98 = .ok (.if_icmp .ge 7, 3) := by decide +kernel
theorem dX11_isAhead_101 : decode cX11_isAhead 101 = .ok (.iconst 1, 1) := by decide +kernel
theorem dX11_isAhead_102 : decode cX11_isAhead 102 = .ok (.goto 4, 3) := by decide +kernel
theorem dX11_isAhead_105 : decode cX11_isAhead 105 = .ok (.iconst 0, 1) := by decide +kernel
theorem dX11_isAhead_106 : decode cX11_isAhead 106 = .ok (.ireturn, 1) := by decide +kernel
theorem dX11_next_0 : decode cX11_next 0 = .ok (.bipush (-5), 2) := by decide +kernel
theorem dX11_next_2 : decode cX11_next 2 = .ok (.istore_n 1, 1) := by decide +kernel
theorem dX11_next_3 : decode cX11_next 3 = .ok (.iconst 0, 1) := by decide +kernel
theorem dX11_next_4 : decode cX11_next 4 = .ok (.istore_n 2, 1) := by decide +kernel
theorem dX11_next_5 : decode cX11_next 5 = .ok (.iload_n 2, 1) := by decide +kernel
theorem dX11_next_6 : decode cX11_next 6 = .ok (.aload_n 0, 1) := by decide +kernel
theorem dX11_next_7 : decode cX11_next 7 = .ok (.getfield 11, 3) := by decide +kernel
theorem dX11_next_10 : decode cX11_next 10 = .ok (.iconst 3, 1) := by decide +kernel
theorem dX11_next_11 : decode cX11_next 11 = .ok (.iaload, 1) := by decide +kernel
theorem dX11_next_12 : decode cX11_next 12 = .ok (.if_icmp .ge 32, 3) := by decide +kernel
theorem dX11_next_15 : decode cX11_next 15 = .ok (.aload_n 0, 1) := by decide +kernel
theorem dX11_next_16 : decode cX11_next 16 = .ok (.iload_n 2, 1) := by decide +kernel
theorem dX11_next_17 : decode cX11_next 17 = .ok (.invokevirtual 183, 3) := by decide +kernel
theorem dX11_next_20 : decode cX11_next 20 = .ok (.ifCond .eq 18, 3) := by decide +kernel
theorem dX11_next_23 : decode cX11_next 23 = .ok (.iload_n 1, 1) := by decide +kernel
theorem dX11_next_24 : decode cX11_next 24 = .ok (.ifCond .lt 12, 3) := by decide +kernel
theorem dX11_next_27 : decode cX11_next 27 = .ok (.aload_n 0, 1) := by decide +kernel
theorem dX11_next_28 : decode cX11_next 28 = .ok (.iload_n 2, 1) := by decide +kernel
theorem dX11_next_29 : decode cX11_next 29 = .ok (.iload_n 1, 1) := by decide +kernel
theorem dX11_next_30 : decode cX11_next 30 = .ok (.invokevirtual 201, 3) := by decide +kernel
theorem dX11_next_33 : decode cX11_next 33 = .ok (.ifCond .eq 5, 3) := by decide +kernel
theorem dX11_next_36 : decode cX11_next 36 = .ok (.iload_n 2, 1) := by decide +kernel
theorem dX11_next_37 : decode cX11_next 37 = .ok (.istore_n 1, 1) := by decide +kernel
theorem dX11_next_38 : decode cX11_next 38 = .ok (.iinc 2 1, 3) := by decide +kernel
theorem dX11_next_41 : decode cX11_next 41 = .ok (.goto (-36), 3) := by decide +kernel
theorem dX11_next_44 : decode cX11_next 44 = .ok (.iload_n 1, 1) := by decide +kernel
theorem dX11_next_45 : decode cX11_next 45 = .ok (.ireturn, 1) := by decide +kernel
theorem dX11_tick_0 : decode cX11_tick 0 = .ok (.aload_n 0, 1) := by decide +kernel
theorem dX11_tick_1 : decode cX11_tick 1 = .ok (.invokevirtual 205, 3) := by decide +kernel
theorem dX11_tick_4 : decode cX11_tick 4 = .ok (.istore_n 1, 1) := by decide +kernel
theorem dX11_tick_5 : decode cX11_tick 5 = .ok (.iload_n 1, 1) := by decide +kernel
theorem dX11_tick_6 : decode cX11_tick 6 = .ok (.ifCond .lt 8, 3) := by decide +kernel
theorem dX11_tick_9 : decode cX11_tick 9 = .ok (.aload_n 0, 1) := by decide +kernel
theorem dX11_tick_10 : decode cX11_tick 10 = .ok (.iload_n 1, 1) := by decide +kernel
theorem dX11_tick_11 : decode cX11_tick 11 = .ok (.invokevirtual 208, 3) := by decide +kernel
theorem dX11_tick_14 : decode cX11_tick 14 = .ok (.iload_n 1, 1) := by decide +kernel
theorem dX11_tick_15 : decode cX11_tick 15 = .ok (.ireturn, 1) := by decide +kernel
theorem dX11_ticks_0 : decode cX11_ticks 0 = .ok (.iconst 0, 1) := by decide +kernel
theorem dX11_ticks_1 : decode cX11_ticks 1 = .ok (.istore_n 2, 1) := by decide +kernel
theorem dX11_ticks_2 : decode cX11_ticks 2 = .ok (.iload_n 2, 1) := by decide +kernel
theorem dX11_ticks_3 : decode cX11_ticks 3 = .ok (.iload_n 1, 1) := by decide +kernel
theorem dX11_ticks_4 : decode cX11_ticks 4 = .ok (.if_icmp .ge 16, 3) := by decide +kernel
theorem dX11_ticks_7 : decode cX11_ticks 7 = .ok (.aload_n 0, 1) := by decide +kernel
theorem dX11_ticks_8 : decode cX11_ticks 8 = .ok (.invokevirtual 211, 3) := by decide +kernel
theorem dX11_ticks_11 : decode cX11_ticks 11 = .ok (.ifCond .lt 9, 3) := by decide +kernel
theorem dX11_ticks_14 : decode cX11_ticks 14 = .ok (.iinc 2 1, 3) := by decide +kernel
theorem dX11_ticks_17 : decode cX11_ticks 17 = .ok (.goto (-15), 3) := by decide +kernel
theorem dX11_ticks_20 : decode cX11_ticks 20 = .ok (.iload_n 2, 1) := by decide +kernel
theorem dX11_ticks_21 : decode cX11_ticks 21 = .ok (.ireturn, 1) := by decide +kernel
theorem dX11_run_0 : decode cX11_run 0 = .ok (.iload_n 1, 1) := by decide +kernel
theorem dX11_run_1 : decode cX11_run 1 = .ok (.iconst 0, 1) := by decide +kernel
theorem dX11_run_2 : decode cX11_run 2 = .ok (.bipush 100, 2) := by decide +kernel
theorem dX11_run_4 : decode cX11_run 4 = .ok (.invokestatic 46, 3) := by decide +kernel
theorem dX11_run_7 : decode cX11_run 7 = .ok (.ifCond .eq 11, 3) := by decide +kernel
theorem dX11_run_10 : decode cX11_run 10 = .ok (.aload_n 0, 1) := by decide +kernel
theorem dX11_run_11 : decode cX11_run 11 = .ok (.iload_n 1, 1) := by decide +kernel
theorem dX11_run_12 : decode cX11_run 12 = .ok (.invokevirtual 214, 3) := by decide +kernel
theorem dX11_run_15 : decode cX11_run 15 = .ok (.goto 5, 3) := by decide +kernel
theorem dX11_run_18 : decode cX11_run 18 = .ok (.bipush (-2), 2) := by decide +kernel
theorem dX11_run_20 : decode cX11_run 20 = .ok (.ireturn, 1) := by decide +kernel
theorem dX11_task_0 : decode cX11_task 0 = .ok (.aload_n 0, 1) := by decide +kernel
theorem dX11_task_1 : decode cX11_task 1 = .ok (.iload_n 1, 1) := by decide +kernel
theorem dX11_task_2 : decode cX11_task 2 = .ok (.invokevirtual 50, 3) := by decide +kernel
theorem dX11_task_5 : decode cX11_task 5 = .ok (.ifCond .ne 5, 3) := by decide +kernel
theorem dX11_task_8 : decode cX11_task 8 = .ok (.iconst (-1), 1) := by decide +kernel
theorem dX11_task_9 : decode cX11_task 9 = .ok (.ireturn, 1) := by decide +kernel
theorem dX11_task_10 : decode cX11_task 10 = .ok (.iload_n 2, 1) := by decide +kernel
theorem dX11_task_11 : decode cX11_task 11 = .ok (.bipush (-99), 2) := by decide +kernel
theorem dX11_task_13 : decode cX11_task 13 = .ok (.bipush 99, 2) := by decide +kernel
theorem dX11_task_15 : decode cX11_task 15 = .ok (.invokestatic 46, 3) := by decide +kernel
theorem dX11_task_18 : decode cX11_task 18 = .ok (.ifCond .ne 6, 3) := by decide +kernel
theorem dX11_task_21 : decode cX11_task 21 = .ok (.bipush (-2), 2) := by decide +kernel
theorem dX11_task_23 : decode cX11_task 23 = .ok (.ireturn, 1) := by decide +kernel
theorem dX11_task_24 : decode cX11_task 24 = .ok (.aload_n 0, 1) := by decide +kernel
theorem dX11_task_25 : decode cX11_task 25 = .ok (.iload_n 1, 1) := by decide +kernel
theorem dX11_task_26 : decode cX11_task 26 = .ok (.invokevirtual 146, 3) := by decide +kernel
theorem dX11_task_29 : decode cX11_task 29 = .ok (.ifCond .ne 6, 3) := by decide +kernel
theorem dX11_task_32 : decode cX11_task 32 = .ok (.bipush (-3), 2) := by decide +kernel
theorem dX11_task_34 : decode cX11_task 34 = .ok (.ireturn, 1) := by decide +kernel
theorem dX11_task_35 : decode cX11_task 35 = .ok (.aload_n 0, 1) := by decide +kernel
theorem dX11_task_36 : decode cX11_task 36 = .ok (.getfield 11, 3) := by decide +kernel
theorem dX11_task_39 : decode cX11_task 39 = .ok (.iconst 3, 1) := by decide +kernel
theorem dX11_task_40 : decode cX11_task 40 = .ok (.iaload, 1) := by decide +kernel
theorem dX11_task_41 : decode cX11_task 41 = .ok (.bipush 10, 2) := by decide +kernel
theorem dX11_task_43 : decode cX11_task 43 = .ok (.if_icmp .eq 14, 3) := by decide +kernel
theorem dX11_task_46 : decode cX11_task 46 = .ok (.aload_n 0, 1) := by decide +kernel
theorem dX11_task_47 : decode cX11_task 47 = .ok (.getfield 11, 3) := by decide +kernel
theorem dX11_task_50 : decode cX11_task 50 = .ok (.iconst 0, 1) := by decide +kernel
theorem dX11_task_51 : decode cX11_task 51 = .ok (.iaload, 1) := by decide +kernel
theorem dX11_task_52 : decode cX11_task 52 = .ok (.bipush 60, 2) := by decide +kernel
theorem dX11_task_54 : decode cX11_task 54 = .ok (.if_icmp .ne 6, 3) := by decide +kernel
theorem dX11_task_57 : decode cX11_task 57 = .ok (.bipush (-4), 2) := by decide +kernel
theorem dX11_task_59 : decode cX11_task 59 = .ok (.ireturn, 1) := by decide +kernel
theorem dX11_task_60 : decode cX11_task 60 = .ok (.aload_n 0, 1) := by decide +kernel
theorem dX11_task_61 : decode cX11_task 61 = .ok (.getfield 61, 3) := by decide +kernel
theorem dX11_task_64 : decode cX11_task 64 = .ok (.istore_n 3, 1) := by decide +kernel
theorem dX11_task_65 : decode cX11_task 65 = .ok (.aload_n 0, 1) := by decide +kernel
theorem dX11_task_66 : decode cX11_task 66 = .ok (.iconst 0, 1) := by decide +kernel
theorem dX11_task_67 : decode cX11_task 67 = .ok (.putfield 61, 3) := by decide +kernel
theorem dX11_task_70 : decode cX11_task 70 = .ok (.aload_n 0, 1) := by decide +kernel
theorem dX11_task_71 : decode cX11_task 71 = .ok (.aload_n 0, 1) := by decide +kernel
theorem dX11_task_72 : decode cX11_task 72 = .ok (.getfield 24, 3) := by decide +kernel
theorem dX11_task_75 : decode cX11_task 75 = .ok (.iconst 0, 1) := by decide +kernel
theorem dX11_task_76 : decode cX11_task 76 = .ok (.iload_n 3, 1) := by decide +kernel
theorem dX11_task_77 : decode cX11_task 77 = .ok (.invokevirtual 115, 3) := by decide +kernel
theorem dX11_task_80 : decode cX11_task 80 = .ok (.aload_n 0, 1) := by decide +kernel
theorem dX11_task_81 : decode cX11_task 81 = .ok (.iconst 0, 1) := by decide +kernel
theorem dX11_task_82 : decode cX11_task 82 = .ok (.iconst 1, 1) := by decide +kernel
theorem dX11_task_83 : decode cX11_task 83 = .ok (.invokevirtual 92, 3) := by decide +kernel
theorem dX11_task_86 : decode cX11_task 86 = .ok (.ifCond .eq 10, 3) := by decide +kernel
theorem dX11_task_89 : decode cX11_task 89 = .ok (.aload_n 0, 1) := by decide +kernel
theorem dX11_task_90 : decode cX11_task 90 = .ok (.invokevirtual 217, 3) := by decide +kernel
theorem dX11_task_93 : decode cX11_task 93 = .ok (.ifCond .ne 11, 3) := by decide +kernel
theorem dX11_task_96 : decode cX11_task 96 = .ok (.bipush (-100), 2) := by decide +kernel
theorem dX11_task_98 : decode cX11_task 98 = .ok (.aload_n 0, 1) := by decide +kernel
theorem dX11_task_99 : decode cX11_task 99 = .ok (.getfield 71, 3) := by decide +kernel
theorem dX11_task_102 : decode cX11_task 102 = .ok (.isub, 1) := by decide +kernel
theorem dX11_task_103 : decode cX11_task 103 = .ok (.ireturn, 1) := by decide +kernel
theorem dX11_task_104 : decode cX11_task 104 = .ok (.aload_n 0, 1) := by decide +kernel
theorem dX11_task_105 : decode cX11_task 105 = .ok (.getfield 11, 3) := by decide +kernel
theorem dX11_task_108 : decode cX11_task 108 = .ok (.iconst 3, 1) := by decide +kernel
theorem dX11_task_109 : decode cX11_task 109 = .ok (.iaload, 1) := by decide +kernel
theorem dX11_task_110 : decode cX11_task 110 = .ok (.istore 4, 2) := by decide +kernel
theorem dX11_task_112 : decode cX11_task 112 = .ok (.aload_n 0, 1) := by decide +kernel
theorem dX11_task_113 : decode cX11_task 113 = .ok (.getfield 11, 3) := by decide +kernel
theorem dX11_task_116 : decode cX11_task 116 = .ok (.iconst 3, 1) := by decide +kernel
theorem dX11_task_117 : decode cX11_task 117 = .ok (.dup2, 1) := by decide +kernel
theorem dX11_task_118 : decode cX11_task 118 = .ok (.iaload, 1) := by decide +kernel
theorem dX11_task_119 : decode cX11_task 119 = .ok (.iconst 1, 1) := by decide +kernel
theorem dX11_task_120 : decode cX11_task 120 = .ok (.iadd, 1) := by decide +kernel
theorem dX11_task_121 : decode cX11_task 121 = .ok (.iastore, 1) := by decide +kernel
theorem dX11_task_122 : decode cX11_task 122 = .ok (.iconst 0, 1) := by decide +kernel
theorem dX11_task_123 : decode cX11_task 123 = .ok (.istore 5, 2) := by decide +kernel
theorem dX11_task_125 : decode cX11_task 125 = .ok (.iload 5, 2) := by decide +kernel
theorem dX11_task_127 : decode cX11_task 127 = .ok (.bipush 72, 2) := by decide +kernel
theorem dX11_task_129 : decode cX11_task 129 = .ok (.if_icmp .ge 23, 3) := by decide +kernel
theorem dX11_task_132 : decode cX11_task 132 = .ok (.aload_n 0, 1) := by decide +kernel
theorem dX11_task_133 : decode cX11_task 133 = .ok (.getfield 11, 3) := by decide +kernel
theorem dX11_task_136 : decode cX11_task 136 = .ok (.iload 4, 2) := by decide +kernel
theorem dX11_task_138 : decode cX11_task 138 = .ok (.iload 5, 2) := by decide +kernel
theorem dX11_task_140 : decode cX11_task 140 = .ok (.iconst 0, 1) := by decide +kernel
theorem dX11_task_141 : decode cX11_task 141 = .ok (.invokestatic 58, 3) := by decide +kernel
theorem dX11_task_144 : decode cX11_task 144 = .ok (.iconst 0, 1) := by decide +kernel
theorem dX11_task_145 : decode cX11_task 145 = .ok (.iastore, 1) := by decide +kernel
theorem dX11_task_146 : decode cX11_task 146 = .ok (.iinc 5 1, 3) := by decide +kernel
theorem dX11_task_149 : decode cX11_task 149 = .ok (.goto (-24), 3) := by decide +kernel
theorem dX11_task_152 : decode cX11_task 152 = .ok (.aload_n 0, 1) := by decide +kernel
theorem dX11_task_153 : decode cX11_task 153 = .ok (.iconst 0, 1) := by decide +kernel
theorem dX11_task_154 : decode cX11_task 154 = .ok (.iload_n 3, 1) := by decide +kernel
theorem dX11_task_155 : decode cX11_task 155 = .ok (.invokevirtual 220, 3) := by decide +kernel
theorem dX11_task_158 : decode cX11_task 158 = .ok (.istore 5, 2) := by decide +kernel
theorem dX11_task_160 : decode cX11_task 160 = .ok (.aload_n 0, 1) := by decide +kernel
theorem dX11_task_161 : decode cX11_task 161 = .ok (.getfield 11, 3) := by decide +kernel
theorem dX11_task_164 : decode cX11_task 164 = .ok (.iload 4, 2) := by decide +kernel
theorem dX11_task_166 : decode cX11_task 166 = .ok (.iconst 0, 1) := by decide +kernel
theorem dX11_task_167 : decode cX11_task 167 = .ok (.iconst 0, 1) := by decide +kernel
theorem dX11_task_168 : decode cX11_task 168 = .ok (.invokestatic 58, 3) := by decide +kernel
theorem dX11_task_171 : decode cX11_task 171 = .ok (.aload_n 0, 1) := by decide +kernel
theorem dX11_task_172 : decode cX11_task 172 = .ok (.iload_n 1, 1) := by decide +kernel
theorem dX11_task_173 : decode cX11_task 173 = .ok (.iload 4, 2) := by decide +kernel
theorem dX11_task_175 : decode cX11_task 175 = .ok (.invokevirtual 186, 3) := by decide +kernel
theorem dX11_task_178 : decode cX11_task 178 = .ok (.iastore, 1) := by decide +kernel
theorem dX11_task_179 : decode cX11_task 179 = .ok (.aload_n 0, 1) := by decide +kernel
theorem dX11_task_180 : decode cX11_task 180 = .ok (.getfield 11, 3) := by decide +kernel
theorem dX11_task_183 : decode cX11_task 183 = .ok (.iload 4, 2) := by decide +kernel
theorem dX11_task_185 : decode cX11_task 185 = .ok (.iconst 1, 1) := by decide +kernel
theorem dX11_task_186 : decode cX11_task 186 = .ok (.iconst 0, 1) := by decide +kernel
theorem dX11_task_187 : decode cX11_task 187 = .ok (.invokestatic 58, 3) := by decide +kernel
theorem dX11_task_190 : decode cX11_task 190 = .ok (.iload_n 2, 1) := by decide +kernel
theorem dX11_task_191 : decode cX11_task 191 = .ok (.iastore, 1) := by decide +kernel
theorem dX11_task_192 : decode cX11_task 192 = .ok (.aload_n 0, 1) := by decide +kernel
theorem dX11_task_193 : decode cX11_task 193 = .ok (.getfield 11, 3) := by decide +kernel
theorem dX11_task_196 : decode cX11_task 196 = .ok (.iload 4, 2) := by decide +kernel
theorem dX11_task_198 : decode cX11_task 198 = .ok (.iconst 3, 1) := by decide +kernel
theorem dX11_task_199 : decode cX11_task 199 = .ok (.iconst 0, 1) := by decide +kernel
theorem dX11_task_200 : decode cX11_task 200 = .ok (.invokestatic 58, 3) := by decide +kernel
theorem dX11_task_203 : decode cX11_task 203 = .ok (.iload 5, 2) := by decide +kernel
theorem dX11_task_205 : decode cX11_task 205 = .ok (.iastore, 1) := by decide +kernel
theorem dX11_task_206 : decode cX11_task 206 = .ok (.aload_n 0, 1) := by decide +kernel
theorem dX11_task_207 : decode cX11_task 207 = .ok (.getfield 11, 3) := by decide +kernel
theorem dX11_task_210 : decode cX11_task 210 = .ok (.iload 4, 2) := by decide +kernel
theorem dX11_task_212 : decode cX11_task 212 = .ok (.bipush 8, 2) := by decide +kernel
theorem dX11_task_214 : decode cX11_task 214 = .ok (.iconst 0, 1) := by decide +kernel
theorem dX11_task_215 : decode cX11_task 215 = .ok (.invokestatic 58, 3) := by decide +kernel
theorem dX11_task_218 : decode cX11_task 218 = .ok (.iload 5, 2) := by decide +kernel
theorem dX11_task_220 : decode cX11_task 220 = .ok (.iastore, 1) := by decide +kernel
theorem dX11_task_221 : decode cX11_task 221 = .ok (.aload_n 0, 1) := by decide +kernel
theorem dX11_task_222 : decode cX11_task 222 = .ok (.getfield 11, 3) := by decide +kernel
theorem dX11_task_225 : decode cX11_task 225 = .ok (.iload 4, 2) := by decide +kernel
theorem dX11_task_227 : decode cX11_task 227 = .ok (.bipush 9, 2) := by decide +kernel
theorem dX11_task_229 : decode cX11_task 229 = .ok (.iconst 0, 1) := by decide +kernel
theorem dX11_task_230 : decode cX11_task 230 = .ok (.invokestatic 58, 3) := by decide +kernel
theorem dX11_task_233 : decode cX11_task 233 = .ok (.iload 5, 2) := by decide +kernel
theorem dX11_task_235 : decode cX11_task 235 = .ok (.iload_n 3, 1) := by decide +kernel
theorem dX11_task_236 : decode cX11_task 236 = .ok (.iadd, 1) := by decide +kernel
theorem dX11_task_237 : decode cX11_task 237 = .ok (.iastore, 1) := by decide +kernel
theorem dX11_task_238 : decode cX11_task 238 = .ok (.aload_n 0, 1) := by decide +kernel
theorem dX11_task_239 : decode cX11_task 239 = .ok (.getfield 11, 3) := by decide +kernel
theorem dX11_task_242 : decode cX11_task 242 = .ok (.iload 4, 2) := by decide +kernel
theorem dX11_task_244 : decode cX11_task 244 = .ok (.bipush 11, 2) := by decide +kernel
theorem dX11_task_246 : decode cX11_task 246 = .ok (.iconst 0, 1) := by decide +kernel
theorem dX11_task_247 : decode cX11_task 247 = .ok (.invokestatic 58, 3) := by decide +kernel
theorem dX11_task_250 : decode cX11_task 250 = .ok (.iconst 1, 1) := by decide +kernel
theorem dX11_task_251 : decode cX11_task 251 = .ok (.iastore, 1) := by decide +kernel
theorem dX11_task_252 : decode cX11_task 252 = .ok (.aload_n 0, 1) := by decide +kernel
theorem dX11_task_253 : decode cX11_task 253 = .ok (.getfield 11, 3) := by decide +kernel
theorem dX11_task_256 : decode cX11_task 256 = .ok (.iload 4, 2) := by decide +kernel
theorem dX11_task_258 : decode cX11_task 258 = .ok (.bipush 12, 2) := by decide +kernel
theorem dX11_task_260 : decode cX11_task 260 = .ok (.iconst 0, 1) := by decide +kernel
theorem dX11_task_261 : decode cX11_task 261 = .ok (.invokestatic 58, 3) := by decide +kernel
theorem dX11_task_264 : decode cX11_task 264 = .ok (.aload_n 0, 1) := by decide +kernel
theorem dX11_task_265 : decode cX11_task 265 = .ok (.getfield 11, 3) := by decide +kernel
theorem dX11_task_268 : decode cX11_task 268 = .ok (.iload 4, 2) := by decide +kernel
theorem dX11_task_270 : decode cX11_task 270 = .ok (.iconst 0, 1) := by decide +kernel
theorem dX11_task_271 : decode cX11_task 271 = .ok (.iconst 0, 1) := by decide +kernel
theorem dX11_task_272 : decode cX11_task 272 = .ok (.invokestatic 58, 3) := by decide +kernel
theorem dX11_task_275 : decode cX11_task 275 = .ok (.iaload, 1) := by decide +kernel
theorem dX11_task_276 : decode cX11_task 276 = .ok (.iastore, 1) := by decide +kernel
theorem dX11_task_277 : decode cX11_task 277 = .ok (.iload 4, 2) := by decide +kernel
theorem dX11_task_279 : decode cX11_task 279 = .ok (.ireturn, 1) := by decide +kernel
theorem dX11_cancel_0 : decode cX11_cancel 0 = .ok (.aload_n 0, 1) := by decide +kernel
theorem dX11_cancel_1 : decode cX11_cancel 1 = .ok (.iload_n 1, 1) := by decide +kernel
theorem dX11_cancel_2 : decode cX11_cancel 2 = .ok (.invokevirtual 180, 3) := by decide +kernel
theorem dX11_cancel_5 : decode cX11_cancel 5 = .ok (.ifCond .ne 5, 3) := by decide +kernel
theorem dX11_cancel_8 : decode cX11_cancel 8 = .ok (.iconst (-1), 1) := by decide +kernel
theorem dX11_cancel_9 : decode cX11_cancel 9 = .ok (.ireturn, 1) := by decide +kernel
theorem dX11_cancel_10 : decode cX11_cancel 10 = .ok (.aload_n 0, 1) := by decide +kernel
theorem dX11_cancel_11 : decode cX11_cancel 11 = .ok (.iload_n 1, 1) := by decide +kernel
theorem dX11_cancel_12 : decode cX11_cancel 12 = .ok (.invokevirtual 183, 3) := by decide +kernel
theorem dX11_cancel_15 : decode cX11_cancel 15 = .ok (.ifCond .ne 6, 3) := by decide +kernel
theorem dX11_cancel_18 : decode cX11_cancel 18 = .ok (.bipush (-3), 2) := by decide +kernel
theorem dX11_cancel_20 : decode cX11_cancel 20 = .ok (.ireturn, 1) := by decide +kernel
theorem dX11_cancel_21 : decode cX11_cancel 21 = .ok (.aload_n 0, 1) := by decide +kernel
theorem dX11_cancel_22 : decode cX11_cancel 22 = .ok (.getfield 11, 3) := by decide +kernel
theorem dX11_cancel_25 : decode cX11_cancel 25 = .ok (.iload_n 1, 1) := by decide +kernel
theorem dX11_cancel_26 : decode cX11_cancel 26 = .ok (.bipush 6, 2) := by decide +kernel
theorem dX11_cancel_28 : decode cX11_cancel 28 = .ok (.iconst 0, 1) := by decide +kernel
theorem dX11_cancel_29 : decode cX11_cancel 29 = .ok (.invokestatic 58, 3) := by decide +kernel
theorem dX11_cancel_32 : decode cX11_cancel 32 = .ok (.iaload, 1) := by decide +kernel
theorem dX11_cancel_33 : decode cX11_cancel 33 = .ok (.istore_n 2, 1) := by decide +kernel
theorem dX11_cancel_34 : decode cX11_cancel 34 = .ok (.aload_n 0, 1) := by decide +kernel
theorem dX11_cancel_35 : decode cX11_cancel 35 = .ok (.getfield 11, 3) := by decide +kernel
theorem dX11_cancel_38 : decode cX11_cancel 38 = .ok (.iload_n 1, 1) := by decide +kernel
theorem dX11_cancel_39 : decode cX11_cancel 39 = .ok (.bipush 6, 2) := by decide +kernel
theorem dX11_cancel_41 : decode cX11_cancel 41 = .ok (.iconst 0, 1) := by decide +kernel
theorem dX11_cancel_42 : decode cX11_cancel 42 = .ok (.invokestatic 58, 3) := by decide +kernel
theorem dX11_cancel_45 : decode cX11_cancel 45 = .ok (.iconst 1, 1) := by decide +kernel
theorem dX11_cancel_46 : decode cX11_cancel 46 = .ok (.iastore, 1) := by decide +kernel
theorem dX11_cancel_47 : decode cX11_cancel 47 = .ok (.iconst 1, 1) := by decide +kernel
theorem dX11_cancel_48 : decode cX11_cancel 48 = .ok (.iload_n 2, 1) := by decide +kernel
theorem dX11_cancel_49 : decode cX11_cancel 49 = .ok (.isub, 1) := by decide +kernel
theorem dX11_cancel_50 : decode cX11_cancel 50 = .ok (.ireturn, 1) := by decide +kernel
theorem dX11_rank_0 : decode cX11_rank 0 = .ok (.aload_n 0, 1) := by decide +kernel
theorem dX11_rank_1 : decode cX11_rank 1 = .ok (.iload_n 1, 1) := by decide +kernel
theorem dX11_rank_2 : decode cX11_rank 2 = .ok (.invokevirtual 180, 3) := by decide +kernel
theorem dX11_rank_5 : decode cX11_rank 5 = .ok (.ifCond .ne 5, 3) := by decide +kernel
theorem dX11_rank_8 : decode cX11_rank 8 = .ok (.iconst (-1), 1) := by decide +kernel
theorem dX11_rank_9 : decode cX11_rank 9 = .ok (.ireturn, 1) := by decide +kernel
theorem dX11_rank_10 : decode cX11_rank 10 = .ok (.iload_n 2, 1) := by decide +kernel
theorem dX11_rank_11 : decode cX11_rank 11 = .ok (.bipush (-99), 2) := by decide +kernel
theorem dX11_rank_13 : decode cX11_rank 13 = .ok (.bipush 99, 2) := by decide +kernel
theorem dX11_rank_15 : decode cX11_rank 15 = .ok (.invokestatic 46, 3) := by decide +kernel
theorem dX11_rank_18 : decode cX11_rank 18 = .ok (.ifCond .ne 6, 3) := by decide +kernel
theorem dX11_rank_21 : decode cX11_rank 21 = .ok (.bipush (-2), 2) := by decide +kernel
theorem dX11_rank_23 : decode cX11_rank 23 = .ok (.ireturn, 1) := by decide +kernel
theorem dX11_rank_24 : decode cX11_rank 24 = .ok (.aload_n 0, 1) := by decide +kernel
theorem dX11_rank_25 : decode cX11_rank 25 = .ok (.iload_n 1, 1) := by decide +kernel
theorem dX11_rank_26 : decode cX11_rank 26 = .ok (.invokevirtual 183, 3) := by decide +kernel
theorem dX11_rank_29 : decode cX11_rank 29 = .ok (.ifCond .ne 6, 3) := by decide +kernel
theorem dX11_rank_32 : decode cX11_rank 32 = .ok (.bipush (-3), 2) := by decide +kernel
theorem dX11_rank_34 : decode cX11_rank 34 = .ok (.ireturn, 1) := by decide +kernel
theorem dX11_rank_35 : decode cX11_rank 35 = .ok (.aload_n 0, 1) := by decide +kernel
theorem dX11_rank_36 : decode cX11_rank 36 = .ok (.getfield 11, 3) := by decide +kernel
theorem dX11_rank_39 : decode cX11_rank 39 = .ok (.iload_n 1, 1) := by decide +kernel
theorem dX11_rank_40 : decode cX11_rank 40 = .ok (.iconst 1, 1) := by decide +kernel
theorem dX11_rank_41 : decode cX11_rank 41 = .ok (.iconst 0, 1) := by decide +kernel
theorem dX11_rank_42 : decode cX11_rank 42 = .ok (.invokestatic 58, 3) := by decide +kernel
theorem dX11_rank_45 : decode cX11_rank 45 = .ok (.iaload, 1) := by decide +kernel
theorem dX11_rank_46 : decode cX11_rank 46 = .ok (.istore_n 3, 1) := by decide +kernel
theorem dX11_rank_47 : decode cX11_rank 47 = .ok (.aload_n 0, 1) := by decide +kernel
theorem dX11_rank_48 : decode cX11_rank 48 = .ok (.getfield 11, 3) := by decide +kernel
theorem dX11_rank_51 : decode cX11_rank 51 = .ok (.iload_n 1, 1) := by decide +kernel
theorem dX11_rank_52 : decode cX11_rank 52 = .ok (.iconst 1, 1) := by decide +kernel
theorem dX11_rank_53 : decode cX11_rank 53 = .ok (.iconst 0, 1) := by decide +kernel
theorem dX11_rank_54 : decode cX11_rank 54 = .ok (.invokestatic 58, 3) := by decide +kernel
theorem dX11_rank_57 : decode cX11_rank 57 = .ok (.iload_n 2, 1) := by decide +kernel
theorem dX11_rank_58 : decode cX11_rank 58 = .ok (.iastore, 1) := by decide +kernel
theorem dX11_rank_59 : decode cX11_rank 59 = .ok (.iload_n 3, 1) := by decide +kernel
theorem dX11_rank_60 : decode cX11_rank 60 = .ok (.bipush 100, 2) := by decide +kernel
theorem dX11_rank_62 : decode cX11_rank 62 = .ok (.iadd, 1) := by decide +kernel
theorem dX11_rank_63 : decode cX11_rank 63 = .ok (.ireturn, 1) := by decide +kernel
theorem dX11_notShut_0 : decode cX11_notShut 0 = .ok (.iconst 0, 1) := by decide +kernel
theorem dX11_notShut_1 : decode cX11_notShut 1 = .ok (.istore_n 2, 1) := by decide +kernel
theorem dX11_notShut_2 : decode cX11_notShut 2 = .ok (.iconst 0, 1) := by decide +kernel
theorem dX11_notShut_3 : decode cX11_notShut 3 = .ok (.istore_n 3, 1) := by decide +kernel
theorem dX11_notShut_4 : decode cX11_notShut 4 = .ok (.iload_n 3, 1) := by decide +kernel
theorem dX11_notShut_5 : decode cX11_notShut 5 = .ok (.aload_n 0, 1) := by decide +kernel
theorem dX11_notShut_6 : decode cX11_notShut 6 = .ok (.getfield 11, 3) := by decide +kernel
theorem dX11_notShut_9 : decode cX11_notShut 9 = .ok (.iconst 0, 1) := by decide +kernel
theorem dX11_notShut_10 : decode cX11_notShut 10 = .ok (.iaload, 1) := by decide +kernel
theorem dX11_notShut_11 : decode cX11_notShut 11 = .ok (.if_icmp .ge 45, 3) := by decide +kernel
theorem dX11_notShut_14 : decode cX11_notShut 14 = .ok (.iload_n 2, 1) := by decide +kernel
theorem dX11_notShut_15 : decode cX11_notShut 15 = .ok (.aload_n 0, 1) := by decide +kernel
theorem dX11_notShut_16 : decode cX11_notShut 16 = .ok (.getfield 11, 3) := by decide +kernel
theorem dX11_notShut_19 : decode cX11_notShut 19 = .ok (.iload_n 3, 1) := by decide +kernel
theorem dX11_notShut_20 : decode cX11_notShut 20 = .ok (.iconst 3, 1) := by decide +kernel
theorem dX11_notShut_21 : decode cX11_notShut 21 = .ok (.invokestatic 42, 3) := by decide +kernel
theorem dX11_notShut_24 : decode cX11_notShut 24 = .ok (.iaload, 1) := by decide +kernel
theorem dX11_notShut_25 : decode cX11_notShut 25 = .ok (.iload_n 1, 1) := by decide +kernel
theorem dX11_notShut_26 : decode cX11_notShut 26 = .ok (.if_icmp .ne 21, 3) := by decide +kernel
theorem dX11_notShut_29 : decode cX11_notShut 29 = .ok (.aload_n 0, 1) := by decide +kernel
theorem dX11_notShut_30 : decode cX11_notShut 30 = .ok (.getfield 11, 3) := by decide +kernel
theorem dX11_notShut_33 : decode cX11_notShut 33 = .ok (.iload_n 3, 1) := by decide +kernel
theorem dX11_notShut_34 : decode cX11_notShut 34 = .ok (.iconst 0, 1) := by decide +kernel
theorem dX11_notShut_35 : decode cX11_notShut 35 = .ok (.invokestatic 42, 3) := by decide +kernel
theorem dX11_notShut_38 : decode cX11_notShut 38 = .ok (.iaload, 1) := by decide +kernel
theorem dX11_notShut_39 : decode cX11_notShut 39 = .ok (.iconst 2, 1) := by decide +kernel
theorem dX11_notShut_40 : decode cX11_notShut 40 = .ok (.if_icmp .eq 7, 3) := by decide +kernel
theorem dX11_notShut_43 : decode cX11_notShut 43 = .ok (.iconst 1, 1) := by decide +kernel
theorem dX11_notShut_44 : decode cX11_notShut 44 = .ok (.goto 4, 3) := by decide +kernel
theorem dX11_notShut_47 : decode cX11_notShut 47 = .ok (.iconst 0, 1) := by decide +kernel
theorem dX11_notShut_48 : decode cX11_notShut 48 = .ok (.iadd, 1) := by decide +kernel
theorem dX11_notShut_49 : decode cX11_notShut 49 = .ok (.istore_n 2, 1) := by decide +kernel
theorem dX11_notShut_50 : decode cX11_notShut 50 = .ok (.iinc 3 1, 3) := by decide +kernel
theorem dX11_notShut_53 : decode cX11_notShut 53 = .ok (.goto (-49), 3) := by decide +kernel
theorem dX11_notShut_56 : decode cX11_notShut 56 = .ok (.iload_n 2, 1) := by decide +kernel
theorem dX11_notShut_57 : decode cX11_notShut 57 = .ok (.ireturn, 1) := by decide +kernel
theorem dX11_of_0 : decode cX11_of 0 = .ok (.aload_n 0, 1) := by decide +kernel
theorem dX11_of_1 : decode cX11_of 1 = .ok (.iload_n 1, 1) := by decide +kernel
theorem dX11_of_2 : decode cX11_of 2 = .ok (.invokevirtual 180, 3) := by decide +kernel
theorem dX11_of_5 : decode cX11_of 5 = .ok (.ifCond .ne 5, 3) := by decide +kernel
theorem dX11_of_8 : decode cX11_of 8 = .ok (.iconst (-1), 1) := by decide +kernel
theorem dX11_of_9 : decode cX11_of 9 = .ok (.ireturn, 1) := by decide +kernel
theorem dX11_of_10 : decode cX11_of 10 = .ok (.iload_n 2, 1) := by decide +kernel
theorem dX11_of_11 : decode cX11_of 11 = .ok (.tableswitch 157 0 7 #[45, 57, 72, 84, 96, 102, 115, 128], 45) := by decide +kernel
theorem dX11_of_56 : decode cX11_of 56 = .ok (.aload_n 0, 1) := by decide +kernel
theorem dX11_of_57 : decode cX11_of 57 = .ok (.getfield 11, 3) := by decide +kernel
theorem dX11_of_60 : decode cX11_of 60 = .ok (.iload_n 1, 1) := by decide +kernel
theorem dX11_of_61 : decode cX11_of 61 = .ok (.iconst 2, 1) := by decide +kernel
theorem dX11_of_62 : decode cX11_of 62 = .ok (.iconst 0, 1) := by decide +kernel
theorem dX11_of_63 : decode cX11_of 63 = .ok (.invokestatic 58, 3) := by decide +kernel
theorem dX11_of_66 : decode cX11_of 66 = .ok (.iaload, 1) := by decide +kernel
theorem dX11_of_67 : decode cX11_of 67 = .ok (.ireturn, 1) := by decide +kernel
theorem dX11_of_68 : decode cX11_of 68 = .ok (.aload_n 0, 1) := by decide +kernel
theorem dX11_of_69 : decode cX11_of 69 = .ok (.getfield 11, 3) := by decide +kernel
theorem dX11_of_72 : decode cX11_of 72 = .ok (.iload_n 1, 1) := by decide +kernel
theorem dX11_of_73 : decode cX11_of 73 = .ok (.iconst 1, 1) := by decide +kernel
theorem dX11_of_74 : decode cX11_of 74 = .ok (.iconst 0, 1) := by decide +kernel
theorem dX11_of_75 : decode cX11_of 75 = .ok (.invokestatic 58, 3) := by decide +kernel
theorem dX11_of_78 : decode cX11_of 78 = .ok (.iaload, 1) := by decide +kernel
theorem dX11_of_79 : decode cX11_of 79 = .ok (.bipush 100, 2) := by decide +kernel
theorem dX11_of_81 : decode cX11_of 81 = .ok (.iadd, 1) := by decide +kernel
theorem dX11_of_82 : decode cX11_of 82 = .ok (.ireturn, 1) := by decide +kernel
theorem dX11_of_83 : decode cX11_of 83 = .ok (.aload_n 0, 1) := by decide +kernel
theorem dX11_of_84 : decode cX11_of 84 = .ok (.getfield 11, 3) := by decide +kernel
theorem dX11_of_87 : decode cX11_of 87 = .ok (.iload_n 1, 1) := by decide +kernel
theorem dX11_of_88 : decode cX11_of 88 = .ok (.iconst 4, 1) := by decide +kernel
theorem dX11_of_89 : decode cX11_of 89 = .ok (.iconst 0, 1) := by decide +kernel
theorem dX11_of_90 : decode cX11_of 90 = .ok (.invokestatic 58, 3) := by decide +kernel
theorem dX11_of_93 : decode cX11_of 93 = .ok (.iaload, 1) := by decide +kernel
theorem dX11_of_94 : decode cX11_of 94 = .ok (.ireturn, 1) := by decide +kernel
theorem dX11_of_95 : decode cX11_of 95 = .ok (.aload_n 0, 1) := by decide +kernel
theorem dX11_of_96 : decode cX11_of 96 = .ok (.getfield 11, 3) := by decide +kernel
theorem dX11_of_99 : decode cX11_of 99 = .ok (.iload_n 1, 1) := by decide +kernel
theorem dX11_of_100 : decode cX11_of 100 = .ok (.iconst 0, 1) := by decide +kernel
theorem dX11_of_101 : decode cX11_of 101 = .ok (.iconst 0, 1) := by decide +kernel
theorem dX11_of_102 : decode cX11_of 102 = .ok (.invokestatic 58, 3) := by decide +kernel
theorem dX11_of_105 : decode cX11_of 105 = .ok (.iaload, 1) := by decide +kernel
theorem dX11_of_106 : decode cX11_of 106 = .ok (.ireturn, 1) := by decide +kernel
theorem dX11_of_107 : decode cX11_of 107 = .ok (.aload_n 0, 1) := by decide +kernel
theorem dX11_of_108 : decode cX11_of 108 = .ok (.iload_n 1, 1) := by decide +kernel
theorem dX11_of_109 : decode cX11_of 109 = .ok (.invokevirtual 223, 3) := by decide +kernel
theorem dX11_of_112 : decode cX11_of 112 = .ok (.ireturn, 1) := by decide +kernel
theorem dX11_of_113 : decode cX11_of 113 = .ok (.aload_n 0, 1) := by decide +kernel
theorem dX11_of_114 : decode cX11_of 114 = .ok (.getfield 11, 3) := by decide +kernel
theorem dX11_of_117 : decode cX11_of 117 = .ok (.iload_n 1, 1) := by decide +kernel
theorem dX11_of_118 : decode cX11_of 118 = .ok (.bipush 7, 2) := by decide +kernel
theorem dX11_of_120 : decode cX11_of 120 = .ok (.iconst 0, 1) := by decide +kernel
theorem dX11_of_121 : decode cX11_of 121 = .ok (.invokestatic 58, 3) := by decide +kernel
theorem dX11_of_124 : decode cX11_of 124 = .ok (.iaload, 1) := by decide +kernel
theorem dX11_of_125 : decode cX11_of 125 = .ok (.ireturn, 1) := by decide +kernel
theorem dX11_of_126 : decode cX11_of 126 = .ok (.aload_n 0, 1) := by decide +kernel
theorem dX11_of_127 : decode cX11_of 127 = .ok (.getfield 11, 3) := by decide +kernel
theorem dX11_of_130 : decode cX11_of 130 = .ok (.iload_n 1, 1) := by decide +kernel
theorem dX11_of_131 : decode cX11_of 131 = .ok (.bipush 6, 2) := by decide +kernel
theorem dX11_of_133 : decode cX11_of 133 = .ok (.iconst 0, 1) := by decide +kernel
theorem dX11_of_134 : decode cX11_of 134 = .ok (.invokestatic 58, 3) := by decide +kernel
theorem dX11_of_137 : decode cX11_of 137 = .ok (.iaload, 1) := by decide +kernel
theorem dX11_of_138 : decode cX11_of 138 = .ok (.ireturn, 1) := by decide +kernel
theorem dX11_of_139 : decode cX11_of 139 = .ok (.aload_n 0, 1) := by decide +kernel
theorem dX11_of_140 : decode cX11_of 140 = .ok (.aload_n 0, 1) := by decide +kernel
theorem dX11_of_141 : decode cX11_of 141 = .ok (.getfield 11, 3) := by decide +kernel
theorem dX11_of_144 : decode cX11_of 144 = .ok (.iload_n 1, 1) := by decide +kernel
theorem dX11_of_145 : decode cX11_of 145 = .ok (.bipush 8, 2) := by decide +kernel
theorem dX11_of_147 : decode cX11_of 147 = .ok (.iconst 0, 1) := by decide +kernel
theorem dX11_of_148 : decode cX11_of 148 = .ok (.invokestatic 58, 3) := by decide +kernel
theorem dX11_of_151 : decode cX11_of 151 = .ok (.iaload, 1) := by decide +kernel
theorem dX11_of_152 : decode cX11_of 152 = .ok (.aload_n 0, 1) := by decide +kernel
theorem dX11_of_153 : decode cX11_of 153 = .ok (.getfield 11, 3) := by decide +kernel
theorem dX11_of_156 : decode cX11_of 156 = .ok (.iload_n 1, 1) := by decide +kernel
theorem dX11_of_157 : decode cX11_of 157 = .ok (.bipush 9, 2) := by decide +kernel
theorem dX11_of_159 : decode cX11_of 159 = .ok (.iconst 0, 1) := by decide +kernel
theorem dX11_of_160 : decode cX11_of 160 = .ok (.invokestatic 58, 3) := by decide +kernel
theorem dX11_of_163 : decode cX11_of 163 = .ok (.iaload, 1) := by decide +kernel
theorem dX11_of_164 : decode cX11_of 164 = .ok (.invokevirtual 226, 3) := by decide +kernel
theorem dX11_of_167 : decode cX11_of 167 = .ok (.ireturn, 1) := by decide +kernel
theorem dX11_of_168 : decode cX11_of 168 = .ok (.iconst (-1), 1) := by decide +kernel
theorem dX11_of_169 : decode cX11_of 169 = .ok (.ireturn, 1) := by decide +kernel
theorem dX11_ready_0 : decode cX11_ready 0 = .ok (.iload_n 1, 1) := by decide +kernel
theorem dX11_ready_1 : decode cX11_ready 1 = .ok (.ifCond .ge 5, 3) := by decide +kernel
theorem dX11_ready_4 : decode cX11_ready 4 = .ok (.iconst (-1), 1) := by decide +kernel
theorem dX11_ready_5 : decode cX11_ready 5 = .ok (.ireturn, 1) := by decide +kernel
theorem dX11_ready_6 : decode cX11_ready 6 = .ok (.iconst 0, 1) := by decide +kernel
theorem dX11_ready_7 : decode cX11_ready 7 = .ok (.istore_n 2, 1) := by decide +kernel
theorem dX11_ready_8 : decode cX11_ready 8 = .ok (.iload_n 2, 1) := by decide +kernel
theorem dX11_ready_9 : decode cX11_ready 9 = .ok (.aload_n 0, 1) := by decide +kernel
theorem dX11_ready_10 : decode cX11_ready 10 = .ok (.getfield 11, 3) := by decide +kernel
theorem dX11_ready_13 : decode cX11_ready 13 = .ok (.iconst 3, 1) := by decide +kernel
theorem dX11_ready_14 : decode cX11_ready 14 = .ok (.iaload, 1) := by decide +kernel
theorem dX11_ready_15 : decode cX11_ready 15 = .ok (.if_icmp .ge 79, 3) := by decide +kernel
theorem dX11_ready_18 : decode cX11_ready 18 = .ok (.iconst 0, 1) := by decide +kernel
theorem dX11_ready_19 : decode cX11_ready 19 = .ok (.istore_n 3, 1) := by decide +kernel
theorem dX11_ready_20 : decode cX11_ready 20 = .ok (.iconst 0, 1) := by decide +kernel
theorem dX11_ready_21 : decode cX11_ready 21 = .ok (.istore 4, 2) := by decide +kernel
theorem dX11_ready_23 : decode cX11_ready 23 = .ok (.iload 4, 2) := by decide +kernel
theorem dX11_ready_25 : decode cX11_ready 25 = .ok (.aload_n 0, 1) := by decide +kernel
theorem dX11_ready_26 : decode cX11_ready 26 = .ok (.getfield 11, 3) := by decide +kernel
theorem dX11_ready_29 : decode cX11_ready 29 = .ok (.iconst 3, 1) := by decide +kernel
theorem dX11_ready_30 : decode cX11_ready 30 = .ok (.iaload, 1) := by decide +kernel
theorem dX11_ready_31 : decode cX11_ready 31 = .ok (.if_icmp .ge 42, 3) := by decide +kernel
theorem dX11_ready_34 : decode cX11_ready 34 = .ok (.iload_n 3, 1) := by decide +kernel
theorem dX11_ready_35 : decode cX11_ready 35 = .ok (.aload_n 0, 1) := by decide +kernel
theorem dX11_ready_36 : decode cX11_ready 36 = .ok (.iload 4, 2) := by decide +kernel
theorem dX11_ready_38 : decode cX11_ready 38 = .ok (.invokevirtual 183, 3) := by decide +kernel
theorem dX11_ready_41 : decode cX11_ready 41 = .ok (.ifCond .eq 23, 3) := by decide +kernel
theorem dX11_ready_44 : decode cX11_ready 44 = .ok (.iload 4, 2) := by decide +kernel
theorem dX11_ready_46 : decode cX11_ready 46 = .ok (.iload_n 2, 1) := by decide +kernel
theorem dX11_ready_47 : decode cX11_ready 47 = .ok (.if_icmp .eq 17, 3) := by decide +kernel
theorem dX11_ready_50 : decode cX11_ready 50 = .ok (.aload_n 0, 1) := by decide +kernel
theorem dX11_ready_51 : decode cX11_ready 51 = .ok (.iload 4, 2) := by decide +kernel
theorem dX11_ready_53 : decode cX11_ready 53 = .ok (.iload_n 2, 1) := by decide +kernel
theorem dX11_ready_54 : decode cX11_ready 54 = .ok (.invokevirtual 201, 3) := by decide +kernel
theorem dX11_ready_57 : decode cX11_ready 57 = .ok (.ifCond .eq 7, 3) := by decide +kernel
theorem dX11_ready_60 : decode cX11_ready 60 = .ok (.iconst 1, 1) := by decide +kernel
theorem dX11_ready_61 : decode cX11_ready 61 = .ok (.goto 4, 3) := by decide +kernel
theorem dX11_ready_64 : decode cX11_ready 64 = .ok (.iconst 0, 1) := by decide +kernel
theorem dX11_ready_65 : decode cX11_ready 65 = .ok (.iadd, 1) := by decide +kernel
theorem dX11_ready_66 : decode cX11_ready 66 = .ok (.istore_n 3, 1) := by decide +kernel
theorem dX11_ready_67 : decode cX11_ready 67 = .ok (.iinc 4 1, 3) := by decide +kernel
theorem dX11_ready_70 : decode cX11_ready 70 = .ok (.goto (-47), 3) := by decide +kernel
theorem dX11_ready_73 : decode cX11_ready 73 = .ok (.aload_n 0, 1) := by decide +kernel
theorem dX11_ready_74 : decode cX11_ready 74 = .ok (.iload_n 2, 1) := by decide +kernel
theorem dX11_ready_75 : decode cX11_ready 75 = .ok (.invokevirtual 183, 3) := by decide +kernel
theorem dX11_ready_78 : decode cX11_ready 78 = .ok (.ifCond .eq 10, 3) := by decide +kernel
theorem dX11_ready_81 : decode cX11_ready 81 = .ok (.iload_n 3, 1) := by decide +kernel
theorem dX11_ready_82 : decode cX11_ready 82 = .ok (.iload_n 1, 1) := by decide +kernel
theorem dX11_ready_83 : decode cX11_ready 83 = .ok (.if_icmp .ne 5, 3) := by decide +kernel
theorem dX11_ready_86 : decode cX11_ready 86 = .ok (.iload_n 2, 1) := by decide +kernel
theorem dX11_ready_87 : decode cX11_ready 87 = .ok (.ireturn, 1) := by decide +kernel
theorem dX11_ready_88 : decode cX11_ready 88 = .ok (.iinc 2 1, 3) := by decide +kernel
theorem dX11_ready_91 : decode cX11_ready 91 = .ok (.goto (-83), 3) := by decide +kernel
theorem dX11_ready_94 : decode cX11_ready 94 = .ok (.bipush (-5), 2) := by decide +kernel
theorem dX11_ready_96 : decode cX11_ready 96 = .ok (.ireturn, 1) := by decide +kernel
theorem dX11_hasFaults_0 : decode cX11_hasFaults 0 = .ok (.iload_n 1, 1) := by decide +kernel
theorem dX11_hasFaults_1 : decode cX11_hasFaults 1 = .ok (.iconst (-1), 1) := by decide +kernel
theorem dX11_hasFaults_2 : decode cX11_hasFaults 2 = .ok (.if_icmp .eq 11, 3) := by decide +kernel
theorem dX11_hasFaults_5 : decode cX11_hasFaults 5 = .ok (.aload_n 0, 1) := by decide +kernel
theorem dX11_hasFaults_6 : decode cX11_hasFaults 6 = .ok (.iload_n 1, 1) := by decide +kernel
theorem dX11_hasFaults_7 : decode cX11_hasFaults 7 = .ok (.invokevirtual 180, 3) := by decide +kernel
theorem dX11_hasFaults_10 : decode cX11_hasFaults 10 = .ok (.ifCond .eq 7, 3) := by decide +kernel
theorem dX11_hasFaults_13 : decode cX11_hasFaults 13 = .ok (.iconst 1, 1) := by decide +kernel
theorem dX11_hasFaults_14 : decode cX11_hasFaults 14 = .ok (.goto 4, 3) := by decide +kernel
theorem dX11_hasFaults_17 : decode cX11_hasFaults 17 = .ok (.iconst 0, 1) := by decide +kernel
theorem dX11_hasFaults_18 : decode cX11_hasFaults 18 = .ok (.ireturn, 1) := by decide +kernel
theorem dX11_manyFaults_0 : decode cX11_manyFaults 0 = .ok (.iload_n 1, 1) := by decide +kernel
theorem dX11_manyFaults_1 : decode cX11_manyFaults 1 = .ok (.ifCond .ge 12, 3) := by decide +kernel
theorem dX11_manyFaults_4 : decode cX11_manyFaults 4 = .ok (.aload_n 0, 1) := by decide +kernel
theorem dX11_manyFaults_5 : decode cX11_manyFaults 5 = .ok (.getfield 11, 3) := by decide +kernel
theorem dX11_manyFaults_8 : decode cX11_manyFaults 8 = .ok (.iconst 5, 1) := by decide +kernel
theorem dX11_manyFaults_9 : decode cX11_manyFaults 9 = .ok (.iaload, 1) := by decide +kernel
theorem dX11_manyFaults_10 : decode cX11_manyFaults 10 = .ok (.goto 29, 3) := by decide +kernel
theorem dX11_manyFaults_13 : decode cX11_manyFaults 13 = .ok (.aload_n 0, 1) := by decide +kernel
theorem dX11_manyFaults_14 : decode cX11_manyFaults 14 = .ok (.iload_n 1, 1) := by decide +kernel
theorem dX11_manyFaults_15 : decode cX11_manyFaults 15 = .ok (.invokevirtual 198, 3) := by decide +kernel
theorem dX11_manyFaults_18 : decode cX11_manyFaults 18 = .ok (.aload_n 0, 1) := by decide +kernel
theorem dX11_manyFaults_19 : decode cX11_manyFaults 19 = .ok (.getfield 11, 3) := by decide +kernel
theorem dX11_manyFaults_22 : decode cX11_manyFaults 22 = .ok (.iload_n 1, 1) := by decide +kernel
theorem dX11_manyFaults_23 : decode cX11_manyFaults 23 = .ok (.bipush 10, 2) := by decide +kernel
theorem dX11_manyFaults_25 : decode cX11_manyFaults 25 = .ok (.iconst 0, 1) := by decide +kernel
theorem dX11_manyFaults_26 : decode cX11_manyFaults 26 = .ok (.invokestatic 58, 3) := by decide +kernel
theorem dX11_manyFaults_29 : decode cX11_manyFaults 29 = .ok (.iaload, 1) := by decide +kernel
theorem dX11_manyFaults_30 : decode cX11_manyFaults 30 = .ok (.ifCond .eq 7, 3) := by decide +kernel
theorem dX11_manyFaults_33 : decode cX11_manyFaults 33 = .ok (.iconst 1, 1) := by decide +kernel
theorem dX11_manyFaults_34 : decode cX11_manyFaults 34 = .ok (.goto 4, 3) := by decide +kernel
theorem dX11_manyFaults_37 : decode cX11_manyFaults 37 = .ok (.iconst 0, 1) := by decide +kernel
theorem dX11_manyFaults_38 : decode cX11_manyFaults 38 = .ok (.iadd, 1) := by decide +kernel
theorem dX11_manyFaults_39 : decode cX11_manyFaults 39 = .ok (.ireturn, 1) := by decide +kernel
theorem dX11_faultAt_0 : decode cX11_faultAt 0 = .ok (.iload_n 1, 1) := by decide +kernel
theorem dX11_faultAt_1 : decode cX11_faultAt 1 = .ok (.ifCond .ge 18, 3) := by decide +kernel
theorem dX11_faultAt_4 : decode cX11_faultAt 4 = .ok (.aload_n 0, 1) := by decide +kernel
theorem dX11_faultAt_5 : decode cX11_faultAt 5 = .ok (.getfield 11, 3) := by decide +kernel
theorem dX11_faultAt_8 : decode cX11_faultAt 8 = .ok (.sipush 2688, 3) := by decide +kernel
theorem dX11_faultAt_11 : decode cX11_faultAt 11 = .ok (.iconst 2, 1) := by decide +kernel
theorem dX11_faultAt_12 : decode cX11_faultAt 12 = .ok (.iload_n 2, 1) := by decide +kernel
theorem dX11_faultAt_13 : decode cX11_faultAt 13 = .ok (.imul, 1) := by decide +kernel
theorem dX11_faultAt_14 : decode cX11_faultAt 14 = .ok (.iadd, 1) := by decide +kernel
theorem dX11_faultAt_15 : decode cX11_faultAt 15 = .ok (.iload_n 3, 1) := by decide +kernel
theorem dX11_faultAt_16 : decode cX11_faultAt 16 = .ok (.iadd, 1) := by decide +kernel
theorem dX11_faultAt_17 : decode cX11_faultAt 17 = .ok (.iaload, 1) := by decide +kernel
theorem dX11_faultAt_18 : decode cX11_faultAt 18 = .ok (.ireturn, 1) := by decide +kernel
theorem dX11_faultAt_19 : decode cX11_faultAt 19 = .ok (.iload_n 2, 1) := by decide +kernel
theorem dX11_faultAt_20 : decode cX11_faultAt 20 = .ok (.istore 4, 2) := by decide +kernel
theorem dX11_faultAt_22 : decode cX11_faultAt 22 = .ok (.aload_n 0, 1) := by decide +kernel
theorem dX11_faultAt_23 : decode cX11_faultAt 23 = .ok (.getfield 11, 3) := by decide +kernel
theorem dX11_faultAt_26 : decode cX11_faultAt 26 = .ok (.iload_n 1, 1) := by decide +kernel
theorem dX11_faultAt_27 : decode cX11_faultAt 27 = .ok (.bipush 10, 2) := by decide +kernel
theorem dX11_faultAt_29 : decode cX11_faultAt 29 = .ok (.iconst 0, 1) := by decide +kernel
theorem dX11_faultAt_30 : decode cX11_faultAt 30 = .ok (.invokestatic 58, 3) := by decide +kernel
theorem dX11_faultAt_33 : decode cX11_faultAt 33 = .ok (.iaload, 1) := by decide +kernel
theorem dX11_faultAt_34 : decode cX11_faultAt 34 = .ok (.ifCond .eq 32, 3) := by decide +kernel
theorem dX11_faultAt_37 : decode cX11_faultAt 37 = .ok (.iload 4, 2) := by decide +kernel
theorem dX11_faultAt_39 : decode cX11_faultAt 39 = .ok (.ifCond .ne 24, 3) := by decide +kernel
theorem dX11_faultAt_42 : decode cX11_faultAt 42 = .ok (.iload_n 3, 1) := by decide +kernel
theorem dX11_faultAt_43 : decode cX11_faultAt 43 = .ok (.ifCond .ne 18, 3) := by decide +kernel
theorem dX11_faultAt_46 : decode cX11_faultAt 46 = .ok (.aload_n 0, 1) := by decide +kernel
theorem dX11_faultAt_47 : decode cX11_faultAt 47 = .ok (.getfield 11, 3) := by decide +kernel
theorem dX11_faultAt_50 : decode cX11_faultAt 50 = .ok (.iload_n 1, 1) := by decide +kernel
theorem dX11_faultAt_51 : decode cX11_faultAt 51 = .ok (.bipush 10, 2) := by decide +kernel
theorem dX11_faultAt_53 : decode cX11_faultAt 53 = .ok (.iconst 0, 1) := by decide +kernel
theorem dX11_faultAt_54 : decode cX11_faultAt 54 = .ok (.invokestatic 58, 3) := by decide +kernel
theorem dX11_faultAt_57 : decode cX11_faultAt 57 = .ok (.iaload, 1) := by decide +kernel
theorem dX11_faultAt_58 : decode cX11_faultAt 58 = .ok (.goto 4, 3) := by decide +kernel
theorem dX11_faultAt_61 : decode cX11_faultAt 61 = .ok (.iconst (-1), 1) := by decide +kernel
theorem dX11_faultAt_62 : decode cX11_faultAt 62 = .ok (.ireturn, 1) := by decide +kernel
theorem dX11_faultAt_63 : decode cX11_faultAt 63 = .ok (.iinc 4 (-1), 3) := by decide +kernel
theorem dX11_faultAt_66 : decode cX11_faultAt 66 = .ok (.iconst 0, 1) := by decide +kernel
theorem dX11_faultAt_67 : decode cX11_faultAt 67 = .ok (.istore 5, 2) := by decide +kernel
theorem dX11_faultAt_69 : decode cX11_faultAt 69 = .ok (.aload_n 0, 1) := by decide +kernel
theorem dX11_faultAt_70 : decode cX11_faultAt 70 = .ok (.getfield 11, 3) := by decide +kernel
theorem dX11_faultAt_73 : decode cX11_faultAt 73 = .ok (.sipush 2328, 3) := by decide +kernel
theorem dX11_faultAt_76 : decode cX11_faultAt 76 = .ok (.iconst 3, 1) := by decide +kernel
theorem dX11_faultAt_77 : decode cX11_faultAt 77 = .ok (.iload 5, 2) := by decide +kernel
theorem dX11_faultAt_79 : decode cX11_faultAt 79 = .ok (.imul, 1) := by decide +kernel
theorem dX11_faultAt_80 : decode cX11_faultAt 80 = .ok (.iadd, 1) := by decide +kernel
theorem dX11_faultAt_81 : decode cX11_faultAt 81 = .ok (.iaload, 1) := by decide +kernel
theorem dX11_faultAt_82 : decode cX11_faultAt 82 = .ok (.iload_n 1, 1) := by decide +kernel
theorem dX11_faultAt_83 : decode cX11_faultAt 83 = .ok (.if_icmp .ne 8, 3) := by decide +kernel
theorem dX11_faultAt_86 : decode cX11_faultAt 86 = .ok (.iload 4, 2) := by decide +kernel
theorem dX11_faultAt_88 : decode cX11_faultAt 88 = .ok (.ifCond .le 36, 3) := by decide +kernel
theorem dX11_faultAt_91 : decode cX11_faultAt 91 = .ok (.iload 4, 2) := by decide +kernel
theorem dX11_faultAt_93 : decode cX11_faultAt 93 = .ok (.aload_n 0, 1) := by decide +kernel
theorem dX11_faultAt_94 : decode cX11_faultAt 94 = .ok (.getfield 11, 3) := by decide +kernel
theorem dX11_faultAt_97 : decode cX11_faultAt 97 = .ok (.sipush 2328, 3) := by decide +kernel
theorem dX11_faultAt_100 : decode cX11_faultAt 100 = .ok (.iconst 3, 1) := by decide +kernel
theorem dX11_faultAt_101 : decode cX11_faultAt 101 = .ok (.iload 5, 2) := by decide +kernel
theorem dX11_faultAt_103 : decode cX11_faultAt 103 = .ok (.imul, 1) := by decide +kernel
theorem dX11_faultAt_104 : decode cX11_faultAt 104 = .ok (.iadd, 1) := by decide +kernel
theorem dX11_faultAt_105 : decode cX11_faultAt 105 = .ok (.iaload, 1) := by decide +kernel
theorem dX11_faultAt_106 : decode cX11_faultAt 106 = .ok (.iload_n 1, 1) := by decide +kernel
theorem dX11_faultAt_107 : decode cX11_faultAt 107 = .ok (.if_icmp .ne 7, 3) := by decide +kernel
theorem dX11_faultAt_110 : decode cX11_faultAt 110 = .ok (.iconst 1, 1) := by decide +kernel
theorem dX11_faultAt_111 : decode cX11_faultAt 111 = .ok (.goto 4, 3) := by decide +kernel
theorem dX11_faultAt_114 : decode cX11_faultAt 114 = .ok (.iconst 0, 1) := by decide +kernel
theorem dX11_faultAt_115 : decode cX11_faultAt 115 = .ok (.isub, 1) := by decide +kernel
theorem dX11_faultAt_116 : decode cX11_faultAt 116 = .ok (.istore 4, 2) := by decide +kernel
theorem dX11_faultAt_118 : decode cX11_faultAt 118 = .ok (.iinc 5 1, 3) := by decide +kernel
theorem dX11_faultAt_121 : decode cX11_faultAt 121 = .ok (.goto (-52), 3) := by decide +kernel
theorem dX11_faultAt_124 : decode cX11_faultAt 124 = .ok (.aload_n 0, 1) := by decide +kernel
theorem dX11_faultAt_125 : decode cX11_faultAt 125 = .ok (.getfield 11, 3) := by decide +kernel
theorem dX11_faultAt_128 : decode cX11_faultAt 128 = .ok (.sipush 2328, 3) := by decide +kernel
theorem dX11_faultAt_131 : decode cX11_faultAt 131 = .ok (.iconst 3, 1) := by decide +kernel
theorem dX11_faultAt_132 : decode cX11_faultAt 132 = .ok (.iload 5, 2) := by decide +kernel
theorem dX11_faultAt_134 : decode cX11_faultAt 134 = .ok (.imul, 1) := by decide +kernel
theorem dX11_faultAt_135 : decode cX11_faultAt 135 = .ok (.iadd, 1) := by decide +kernel
theorem dX11_faultAt_136 : decode cX11_faultAt 136 = .ok (.iconst 1, 1) := by decide +kernel
theorem dX11_faultAt_137 : decode cX11_faultAt 137 = .ok (.iadd, 1) := by decide +kernel
theorem dX11_faultAt_138 : decode cX11_faultAt 138 = .ok (.iload_n 3, 1) := by decide +kernel
theorem dX11_faultAt_139 : decode cX11_faultAt 139 = .ok (.iadd, 1) := by decide +kernel
theorem dX11_faultAt_140 : decode cX11_faultAt 140 = .ok (.iaload, 1) := by decide +kernel
theorem dX11_faultAt_141 : decode cX11_faultAt 141 = .ok (.ireturn, 1) := by decide +kernel
theorem dX11_fault_0 : decode cX11_fault 0 = .ok (.aload_n 0, 1) := by decide +kernel
theorem dX11_fault_1 : decode cX11_fault 1 = .ok (.iload_n 1, 1) := by decide +kernel
theorem dX11_fault_2 : decode cX11_fault 2 = .ok (.invokevirtual 229, 3) := by decide +kernel
theorem dX11_fault_5 : decode cX11_fault 5 = .ok (.ifCond .eq 37, 3) := by decide +kernel
theorem dX11_fault_8 : decode cX11_fault 8 = .ok (.iload_n 3, 1) := by decide +kernel
theorem dX11_fault_9 : decode cX11_fault 9 = .ok (.iconst 0, 1) := by decide +kernel
theorem dX11_fault_10 : decode cX11_fault 10 = .ok (.iconst 1, 1) := by decide +kernel
theorem dX11_fault_11 : decode cX11_fault 11 = .ok (.invokestatic 46, 3) := by decide +kernel
theorem dX11_fault_14 : decode cX11_fault 14 = .ok (.ifCond .eq 28, 3) := by decide +kernel
theorem dX11_fault_17 : decode cX11_fault 17 = .ok (.iload_n 2, 1) := by decide +kernel
theorem dX11_fault_18 : decode cX11_fault 18 = .ok (.iconst 0, 1) := by decide +kernel
theorem dX11_fault_19 : decode cX11_fault 19 = .ok (.aload_n 0, 1) := by decide +kernel
theorem dX11_fault_20 : decode cX11_fault 20 = .ok (.iload_n 1, 1) := by decide +kernel
theorem dX11_fault_21 : decode cX11_fault 21 = .ok (.invokevirtual 232, 3) := by decide +kernel
theorem dX11_fault_24 : decode cX11_fault 24 = .ok (.iconst 1, 1) := by decide +kernel
theorem dX11_fault_25 : decode cX11_fault 25 = .ok (.isub, 1) := by decide +kernel
theorem dX11_fault_26 : decode cX11_fault 26 = .ok (.invokestatic 46, 3) := by decide +kernel
theorem dX11_fault_29 : decode cX11_fault 29 = .ok (.ifCond .eq 13, 3) := by decide +kernel
theorem dX11_fault_32 : decode cX11_fault 32 = .ok (.aload_n 0, 1) := by decide +kernel
theorem dX11_fault_33 : decode cX11_fault 33 = .ok (.iload_n 1, 1) := by decide +kernel
theorem dX11_fault_34 : decode cX11_fault 34 = .ok (.iload_n 2, 1) := by decide +kernel
theorem dX11_fault_35 : decode cX11_fault 35 = .ok (.iload_n 3, 1) := by decide +kernel
theorem dX11_fault_36 : decode cX11_fault 36 = .ok (.invokevirtual 235, 3) := by decide +kernel
theorem dX11_fault_39 : decode cX11_fault 39 = .ok (.goto 4, 3) := by decide +kernel
theorem dX11_fault_42 : decode cX11_fault 42 = .ok (.iconst (-1), 1) := by decide +kernel
theorem dX11_fault_43 : decode cX11_fault 43 = .ok (.ireturn, 1) := by decide +kernel
theorem dX11_faults_0 : decode cX11_faults 0 = .ok (.aload_n 0, 1) := by decide +kernel
theorem dX11_faults_1 : decode cX11_faults 1 = .ok (.iload_n 1, 1) := by decide +kernel
theorem dX11_faults_2 : decode cX11_faults 2 = .ok (.invokevirtual 229, 3) := by decide +kernel
theorem dX11_faults_5 : decode cX11_faults 5 = .ok (.ifCond .eq 11, 3) := by decide +kernel
theorem dX11_faults_8 : decode cX11_faults 8 = .ok (.aload_n 0, 1) := by decide +kernel
theorem dX11_faults_9 : decode cX11_faults 9 = .ok (.iload_n 1, 1) := by decide +kernel
theorem dX11_faults_10 : decode cX11_faults 10 = .ok (.invokevirtual 232, 3) := by decide +kernel
theorem dX11_faults_13 : decode cX11_faults 13 = .ok (.goto 4, 3) := by decide +kernel
theorem dX11_faults_16 : decode cX11_faults 16 = .ok (.iconst (-1), 1) := by decide +kernel
theorem dX11_faults_17 : decode cX11_faults 17 = .ok (.ireturn, 1) := by decide +kernel
theorem dX11_open_0 : decode cX11_open 0 = .ok (.aload_n 0, 1) := by decide +kernel
theorem dX11_open_1 : decode cX11_open 1 = .ok (.iload_n 1, 1) := by decide +kernel
theorem dX11_open_2 : decode cX11_open 2 = .ok (.invokevirtual 50, 3) := by decide +kernel
theorem dX11_open_5 : decode cX11_open 5 = .ok (.ifCond .ne 5, 3) := by decide +kernel
theorem dX11_open_8 : decode cX11_open 8 = .ok (.iconst (-1), 1) := by decide +kernel
theorem dX11_open_9 : decode cX11_open 9 = .ok (.ireturn, 1) := by decide +kernel
theorem dX11_open_10 : decode cX11_open 10 = .ok (.aload_n 0, 1) := by decide +kernel
theorem dX11_open_11 : decode cX11_open 11 = .ok (.iload_n 1, 1) := by decide +kernel
theorem dX11_open_12 : decode cX11_open 12 = .ok (.invokevirtual 146, 3) := by decide +kernel
theorem dX11_open_15 : decode cX11_open 15 = .ok (.ifCond .ne 6, 3) := by decide +kernel
theorem dX11_open_18 : decode cX11_open 18 = .ok (.bipush (-3), 2) := by decide +kernel
theorem dX11_open_20 : decode cX11_open 20 = .ok (.ireturn, 1) := by decide +kernel
theorem dX11_open_21 : decode cX11_open 21 = .ok (.aload_n 0, 1) := by decide +kernel
theorem dX11_open_22 : decode cX11_open 22 = .ok (.getfield 11, 3) := by decide +kernel
theorem dX11_open_25 : decode cX11_open 25 = .ok (.iconst 0, 1) := by decide +kernel
theorem dX11_open_26 : decode cX11_open 26 = .ok (.iaload, 1) := by decide +kernel
theorem dX11_open_27 : decode cX11_open 27 = .ok (.bipush 60, 2) := by decide +kernel
theorem dX11_open_29 : decode cX11_open 29 = .ok (.if_icmp .ne 8, 3) := by decide +kernel
theorem dX11_open_32 : decode cX11_open 32 = .ok (.bipush (-4), 2) := by decide +kernel
theorem dX11_open_34 : decode cX11_open 34 = .ok (.goto 10, 3) := by decide +kernel
theorem dX11_open_37 : decode cX11_open 37 = .ok (.aload_n 0, 1) := by decide +kernel
theorem dX11_open_38 : decode cX11_open 38 = .ok (.iload_n 1, 1) := by decide +kernel
theorem dX11_open_39 : decode cX11_open 39 = .ok (.bipush (-5), 2) := by decide +kernel
theorem dX11_open_41 : decode cX11_open 41 = .ok (.invokevirtual 186, 3) := by decide +kernel
theorem dX11_open_44 : decode cX11_open 44 = .ok (.ireturn, 1) := by decide +kernel
theorem dX11_take_0 : decode cX11_take 0 = .ok (.aload_n 0, 1) := by decide +kernel
theorem dX11_take_1 : decode cX11_take 1 = .ok (.iload_n 1, 1) := by decide +kernel
theorem dX11_take_2 : decode cX11_take 2 = .ok (.invokevirtual 50, 3) := by decide +kernel
theorem dX11_take_5 : decode cX11_take 5 = .ok (.ifCond .ne 5, 3) := by decide +kernel
theorem dX11_take_8 : decode cX11_take 8 = .ok (.iconst (-1), 1) := by decide +kernel
theorem dX11_take_9 : decode cX11_take 9 = .ok (.ireturn, 1) := by decide +kernel
theorem dX11_take_10 : decode cX11_take 10 = .ok (.aload_n 0, 1) := by decide +kernel
theorem dX11_take_11 : decode cX11_take 11 = .ok (.iload_n 1, 1) := by decide +kernel
theorem dX11_take_12 : decode cX11_take 12 = .ok (.invokevirtual 146, 3) := by decide +kernel
theorem dX11_take_15 : decode cX11_take 15 = .ok (.ifCond .ne 6, 3) := by decide +kernel
theorem dX11_take_18 : decode cX11_take 18 = .ok (.bipush (-3), 2) := by decide +kernel
theorem dX11_take_20 : decode cX11_take 20 = .ok (.ireturn, 1) := by decide +kernel
theorem dX11_take_21 : decode cX11_take 21 = .ok (.aload_n 0, 1) := by decide +kernel
theorem dX11_take_22 : decode cX11_take 22 = .ok (.getfield 61, 3) := by decide +kernel
theorem dX11_take_25 : decode cX11_take 25 = .ok (.istore_n 2, 1) := by decide +kernel
theorem dX11_take_26 : decode cX11_take 26 = .ok (.aload_n 0, 1) := by decide +kernel
theorem dX11_take_27 : decode cX11_take 27 = .ok (.iconst 0, 1) := by decide +kernel
theorem dX11_take_28 : decode cX11_take 28 = .ok (.putfield 61, 3) := by decide +kernel
theorem dX11_take_31 : decode cX11_take 31 = .ok (.aload_n 0, 1) := by decide +kernel
theorem dX11_take_32 : decode cX11_take 32 = .ok (.aload_n 0, 1) := by decide +kernel
theorem dX11_take_33 : decode cX11_take 33 = .ok (.getfield 24, 3) := by decide +kernel
theorem dX11_take_36 : decode cX11_take 36 = .ok (.iconst 0, 1) := by decide +kernel
theorem dX11_take_37 : decode cX11_take 37 = .ok (.iload_n 2, 1) := by decide +kernel
theorem dX11_take_38 : decode cX11_take 38 = .ok (.invokevirtual 115, 3) := by decide +kernel
theorem dX11_take_41 : decode cX11_take 41 = .ok (.aload_n 0, 1) := by decide +kernel
theorem dX11_take_42 : decode cX11_take 42 = .ok (.invokevirtual 88, 3) := by decide +kernel
theorem dX11_take_45 : decode cX11_take 45 = .ok (.istore_n 3, 1) := by decide +kernel
theorem dX11_take_46 : decode cX11_take 46 = .ok (.aload_n 0, 1) := by decide +kernel
theorem dX11_take_47 : decode cX11_take 47 = .ok (.getfield 65, 3) := by decide +kernel
theorem dX11_take_50 : decode cX11_take 50 = .ok (.istore 4, 2) := by decide +kernel
theorem dX11_take_52 : decode cX11_take 52 = .ok (.iload_n 3, 1) := by decide +kernel
theorem dX11_take_53 : decode cX11_take 53 = .ok (.ifCond .eq 29, 3) := by decide +kernel
theorem dX11_take_56 : decode cX11_take 56 = .ok (.aload_n 0, 1) := by decide +kernel
theorem dX11_take_57 : decode cX11_take 57 = .ok (.invokevirtual 74, 3) := by decide +kernel
theorem dX11_take_60 : decode cX11_take 60 = .ok (.bipush 61, 2) := by decide +kernel
theorem dX11_take_62 : decode cX11_take 62 = .ok (.if_icmp .ne 20, 3) := by decide +kernel
theorem dX11_take_65 : decode cX11_take 65 = .ok (.aload_n 0, 1) := by decide +kernel
theorem dX11_take_66 : decode cX11_take 66 = .ok (.dup, 1) := by decide +kernel
theorem dX11_take_67 : decode cX11_take 67 = .ok (.getfield 65, 3) := by decide +kernel
theorem dX11_take_70 : decode cX11_take 70 = .ok (.iconst 1, 1) := by decide +kernel
theorem dX11_take_71 : decode cX11_take 71 = .ok (.iadd, 1) := by decide +kernel
theorem dX11_take_72 : decode cX11_take 72 = .ok (.putfield 65, 3) := by decide +kernel
theorem dX11_take_75 : decode cX11_take 75 = .ok (.aload_n 0, 1) := by decide +kernel
theorem dX11_take_76 : decode cX11_take 76 = .ok (.iconst 1, 1) := by decide +kernel
theorem dX11_take_77 : decode cX11_take 77 = .ok (.iconst 0, 1) := by decide +kernel
theorem dX11_take_78 : decode cX11_take 78 = .ok (.invokevirtual 92, 3) := by decide +kernel
theorem dX11_take_81 : decode cX11_take 81 = .ok (.istore_n 3, 1) := by decide +kernel
theorem dX11_take_82 : decode cX11_take 82 = .ok (.iload_n 3, 1) := by decide +kernel
theorem dX11_take_83 : decode cX11_take 83 = .ok (.ifCond .eq 10, 3) := by decide +kernel
theorem dX11_take_86 : decode cX11_take 86 = .ok (.aload_n 0, 1) := by decide +kernel
theorem dX11_take_87 : decode cX11_take 87 = .ok (.invokevirtual 217, 3) := by decide +kernel
theorem dX11_take_90 : decode cX11_take 90 = .ok (.ifCond .ne 11, 3) := by decide +kernel
theorem dX11_take_93 : decode cX11_take 93 = .ok (.bipush (-100), 2) := by decide +kernel
theorem dX11_take_95 : decode cX11_take 95 = .ok (.aload_n 0, 1) := by decide +kernel
theorem dX11_take_96 : decode cX11_take 96 = .ok (.getfield 71, 3) := by decide +kernel
theorem dX11_take_99 : decode cX11_take 99 = .ok (.isub, 1) := by decide +kernel
theorem dX11_take_100 : decode cX11_take 100 = .ok (.ireturn, 1) := by decide +kernel
theorem dX11_take_101 : decode cX11_take 101 = .ok (.aload_n 0, 1) := by decide +kernel
theorem dX11_take_102 : decode cX11_take 102 = .ok (.getfield 11, 3) := by decide +kernel
theorem dX11_take_105 : decode cX11_take 105 = .ok (.iconst 1, 1) := by decide +kernel
theorem dX11_take_106 : decode cX11_take 106 = .ok (.iaload, 1) := by decide +kernel
theorem dX11_take_107 : decode cX11_take 107 = .ok (.bipush 90, 2) := by decide +kernel
theorem dX11_take_109 : decode cX11_take 109 = .ok (.if_icmp .ne 6, 3) := by decide +kernel
theorem dX11_take_112 : decode cX11_take 112 = .ok (.bipush (-4), 2) := by decide +kernel
theorem dX11_take_114 : decode cX11_take 114 = .ok (.ireturn, 1) := by decide +kernel
theorem dX11_take_115 : decode cX11_take 115 = .ok (.aload_n 0, 1) := by decide +kernel
theorem dX11_take_116 : decode cX11_take 116 = .ok (.aload_n 0, 1) := by decide +kernel
theorem dX11_take_117 : decode cX11_take 117 = .ok (.getfield 24, 3) := by decide +kernel
theorem dX11_take_120 : decode cX11_take 120 = .ok (.iconst 0, 1) := by decide +kernel
theorem dX11_take_121 : decode cX11_take 121 = .ok (.iload 4, 2) := by decide +kernel
theorem dX11_take_123 : decode cX11_take 123 = .ok (.invokevirtual 163, 3) := by decide +kernel
theorem dX11_take_126 : decode cX11_take 126 = .ok (.ifCond .lt 6, 3) := by decide +kernel
theorem dX11_take_129 : decode cX11_take 129 = .ok (.bipush (-3), 2) := by decide +kernel
theorem dX11_take_131 : decode cX11_take 131 = .ok (.ireturn, 1) := by decide +kernel
theorem dX11_take_132 : decode cX11_take 132 = .ok (.iload 4, 2) := by decide +kernel
theorem dX11_take_134 : decode cX11_take 134 = .ok (.iload_n 2, 1) := by decide +kernel
theorem dX11_take_135 : decode cX11_take 135 = .ok (.if_icmp .ne 7, 3) := by decide +kernel
theorem dX11_take_138 : decode cX11_take 138 = .ok (.iconst 0, 1) := by decide +kernel
theorem dX11_take_139 : decode cX11_take 139 = .ok (.goto 12, 3) := by decide +kernel
theorem dX11_take_142 : decode cX11_take 142 = .ok (.aload_n 0, 1) := by decide +kernel
theorem dX11_take_143 : decode cX11_take 143 = .ok (.iload 4, 2) := by decide +kernel
theorem dX11_take_145 : decode cX11_take 145 = .ok (.iconst 1, 1) := by decide +kernel
theorem dX11_take_146 : decode cX11_take 146 = .ok (.iadd, 1) := by decide +kernel
theorem dX11_take_147 : decode cX11_take 147 = .ok (.iload_n 2, 1) := by decide +kernel
theorem dX11_take_148 : decode cX11_take 148 = .ok (.invokevirtual 220, 3) := by decide +kernel
theorem dX11_take_151 : decode cX11_take 151 = .ok (.istore 5, 2) := by decide +kernel
theorem dX11_take_153 : decode cX11_take 153 = .ok (.aload_n 0, 1) := by decide +kernel
theorem dX11_take_154 : decode cX11_take 154 = .ok (.iload_n 1, 1) := by decide +kernel
theorem dX11_take_155 : decode cX11_take 155 = .ok (.aload_n 0, 1) := by decide +kernel
theorem dX11_take_156 : decode cX11_take 156 = .ok (.getfield 24, 3) := by decide +kernel
theorem dX11_take_159 : decode cX11_take 159 = .ok (.iconst 0, 1) := by decide +kernel
theorem dX11_take_160 : decode cX11_take 160 = .ok (.iload 4, 2) := by decide +kernel
theorem dX11_take_162 : decode cX11_take 162 = .ok (.iload 5, 2) := by decide +kernel
theorem dX11_take_164 : decode cX11_take 164 = .ok (.iload 4, 2) := by decide +kernel
theorem dX11_take_166 : decode cX11_take 166 = .ok (.iload_n 2, 1) := by decide +kernel
theorem dX11_take_167 : decode cX11_take 167 = .ok (.if_icmp .ne 7, 3) := by decide +kernel
theorem dX11_take_170 : decode cX11_take 170 = .ok (.iconst 0, 1) := by decide +kernel
theorem dX11_take_171 : decode cX11_take 171 = .ok (.goto 12, 3) := by decide +kernel
theorem dX11_take_174 : decode cX11_take 174 = .ok (.iload 5, 2) := by decide +kernel
theorem dX11_take_176 : decode cX11_take 176 = .ok (.iload_n 2, 1) := by decide +kernel
theorem dX11_take_177 : decode cX11_take 177 = .ok (.iadd, 1) := by decide +kernel
theorem dX11_take_178 : decode cX11_take 178 = .ok (.iload 4, 2) := by decide +kernel
theorem dX11_take_180 : decode cX11_take 180 = .ok (.isub, 1) := by decide +kernel
theorem dX11_take_181 : decode cX11_take 181 = .ok (.iconst 1, 1) := by decide +kernel
theorem dX11_take_182 : decode cX11_take 182 = .ok (.isub, 1) := by decide +kernel
theorem dX11_take_183 : decode cX11_take 183 = .ok (.invokevirtual 167, 3) := by decide +kernel
theorem dX11_take_186 : decode cX11_take 186 = .ok (.ireturn, 1) := by decide +kernel
theorem dX11_close_0 : decode cX11_close 0 = .ok (.aload_n 0, 1) := by decide +kernel
theorem dX11_close_1 : decode cX11_close 1 = .ok (.iload_n 1, 1) := by decide +kernel
theorem dX11_close_2 : decode cX11_close 2 = .ok (.invokevirtual 238, 3) := by decide +kernel
theorem dX11_close_5 : decode cX11_close 5 = .ok (.ifCond .ne 5, 3) := by decide +kernel
theorem dX11_close_8 : decode cX11_close 8 = .ok (.iconst (-1), 1) := by decide +kernel
theorem dX11_close_9 : decode cX11_close 9 = .ok (.ireturn, 1) := by decide +kernel
theorem dX11_close_10 : decode cX11_close 10 = .ok (.aload_n 0, 1) := by decide +kernel
theorem dX11_close_11 : decode cX11_close 11 = .ok (.iload_n 1, 1) := by decide +kernel
theorem dX11_close_12 : decode cX11_close 12 = .ok (.invokevirtual 119, 3) := by decide +kernel
theorem dX11_close_15 : decode cX11_close 15 = .ok (.ifCond .ne 6, 3) := by decide +kernel
theorem dX11_close_18 : decode cX11_close 18 = .ok (.bipush (-3), 2) := by decide +kernel
theorem dX11_close_20 : decode cX11_close 20 = .ok (.ireturn, 1) := by decide +kernel
theorem dX11_close_21 : decode cX11_close 21 = .ok (.aload_n 0, 1) := by decide +kernel
theorem dX11_close_22 : decode cX11_close 22 = .ok (.iconst (-1), 1) := by decide +kernel
theorem dX11_close_23 : decode cX11_close 23 = .ok (.putfield 133, 3) := by decide +kernel
theorem dX11_close_26 : decode cX11_close 26 = .ok (.aload_n 0, 1) := by decide +kernel
theorem dX11_close_27 : decode cX11_close 27 = .ok (.getfield 11, 3) := by decide +kernel
theorem dX11_close_30 : decode cX11_close 30 = .ok (.iconst 5, 1) := by decide +kernel
theorem dX11_close_31 : decode cX11_close 31 = .ok (.iconst 0, 1) := by decide +kernel
theorem dX11_close_32 : decode cX11_close 32 = .ok (.iastore, 1) := by decide +kernel
theorem dX11_close_33 : decode cX11_close 33 = .ok (.aload_n 0, 1) := by decide +kernel
theorem dX11_close_34 : decode cX11_close 34 = .ok (.iload_n 1, 1) := by decide +kernel
theorem dX11_close_35 : decode cX11_close 35 = .ok (.invokevirtual 153, 3) := by decide +kernel
theorem dX11_close_38 : decode cX11_close 38 = .ok (.aload_n 0, 1) := by decide +kernel
theorem dX11_close_39 : decode cX11_close 39 = .ok (.getfield 11, 3) := by decide +kernel
theorem dX11_close_42 : decode cX11_close 42 = .ok (.iconst 5, 1) := by decide +kernel
theorem dX11_close_43 : decode cX11_close 43 = .ok (.iaload, 1) := by decide +kernel
theorem dX11_close_44 : decode cX11_close 44 = .ok (.ireturn, 1) := by decide +kernel
theorem dX11_shut_0 : decode cX11_shut 0 = .ok (.aload_n 0, 1) := by decide +kernel
theorem dX11_shut_1 : decode cX11_shut 1 = .ok (.iload_n 1, 1) := by decide +kernel
theorem dX11_shut_2 : decode cX11_shut 2 = .ok (.invokevirtual 50, 3) := by decide +kernel
theorem dX11_shut_5 : decode cX11_shut 5 = .ok (.ifCond .ne 5, 3) := by decide +kernel
theorem dX11_shut_8 : decode cX11_shut 8 = .ok (.iconst (-1), 1) := by decide +kernel
theorem dX11_shut_9 : decode cX11_shut 9 = .ok (.ireturn, 1) := by decide +kernel
theorem dX11_shut_10 : decode cX11_shut 10 = .ok (.aload_n 0, 1) := by decide +kernel
theorem dX11_shut_11 : decode cX11_shut 11 = .ok (.iload_n 1, 1) := by decide +kernel
theorem dX11_shut_12 : decode cX11_shut 12 = .ok (.invokevirtual 146, 3) := by decide +kernel
theorem dX11_shut_15 : decode cX11_shut 15 = .ok (.ifCond .ne 6, 3) := by decide +kernel
theorem dX11_shut_18 : decode cX11_shut 18 = .ok (.bipush (-3), 2) := by decide +kernel
theorem dX11_shut_20 : decode cX11_shut 20 = .ok (.ireturn, 1) := by decide +kernel
theorem dX11_shut_21 : decode cX11_shut 21 = .ok (.aload_n 0, 1) := by decide +kernel
theorem dX11_shut_22 : decode cX11_shut 22 = .ok (.iconst (-1), 1) := by decide +kernel
theorem dX11_shut_23 : decode cX11_shut 23 = .ok (.putfield 133, 3) := by decide +kernel
theorem dX11_shut_26 : decode cX11_shut 26 = .ok (.aload_n 0, 1) := by decide +kernel
theorem dX11_shut_27 : decode cX11_shut 27 = .ok (.getfield 11, 3) := by decide +kernel
theorem dX11_shut_30 : decode cX11_shut 30 = .ok (.iconst 5, 1) := by decide +kernel
theorem dX11_shut_31 : decode cX11_shut 31 = .ok (.iconst 0, 1) := by decide +kernel
theorem dX11_shut_32 : decode cX11_shut 32 = .ok (.iastore, 1) := by decide +kernel
theorem dX11_shut_33 : decode cX11_shut 33 = .ok (.aload_n 0, 1) := by decide +kernel
theorem dX11_shut_34 : decode cX11_shut 34 = .ok (.iload_n 1, 1) := by decide +kernel
theorem dX11_shut_35 : decode cX11_shut 35 = .ok (.invokevirtual 157, 3) := by decide +kernel
theorem dX11_shut_38 : decode cX11_shut 38 = .ok (.aload_n 0, 1) := by decide +kernel
theorem dX11_shut_39 : decode cX11_shut 39 = .ok (.getfield 11, 3) := by decide +kernel
theorem dX11_shut_42 : decode cX11_shut 42 = .ok (.iconst 5, 1) := by decide +kernel
theorem dX11_shut_43 : decode cX11_shut 43 = .ok (.iaload, 1) := by decide +kernel
theorem dX11_shut_44 : decode cX11_shut 44 = .ok (.ireturn, 1) := by decide +kernel
theorem dX11_entries_0 : decode cX11_entries 0 = .ok (.iconst 0, 1) := by decide +kernel
theorem dX11_entries_1 : decode cX11_entries 1 = .ok (.istore_n 2, 1) := by decide +kernel
theorem dX11_entries_2 : decode cX11_entries 2 = .ok (.iconst 0, 1) := by decide +kernel
theorem dX11_entries_3 : decode cX11_entries 3 = .ok (.istore_n 3, 1) := by decide +kernel
theorem dX11_entries_4 : decode cX11_entries 4 = .ok (.iload_n 3, 1) := by decide +kernel
theorem dX11_entries_5 : decode cX11_entries 5 = .ok (.aload_n 0, 1) := by decide +kernel
theorem dX11_entries_6 : decode cX11_entries 6 = .ok (.getfield 11, 3) := by decide +kernel
theorem dX11_entries_9 : decode cX11_entries 9 = .ok (.iconst 1, 1) := by decide +kernel
theorem dX11_entries_10 : decode cX11_entries 10 = .ok (.iaload, 1) := by decide +kernel
theorem dX11_entries_11 : decode cX11_entries 11 = .ok (.if_icmp .ge 40, 3) := by decide +kernel
theorem dX11_entries_14 : decode cX11_entries 14 = .ok (.iload_n 2, 1) := by decide +kernel
theorem dX11_entries_15 : decode cX11_entries 15 = .ok (.aload_n 0, 1) := by decide +kernel
theorem dX11_entries_16 : decode cX11_entries 16 = .ok (.iload_n 3, 1) := by decide +kernel
theorem dX11_entries_17 : decode cX11_entries 17 = .ok (.invokevirtual 119, 3) := by decide +kernel
theorem dX11_entries_20 : decode cX11_entries 20 = .ok (.ifCond .eq 22, 3) := by decide +kernel
theorem dX11_entries_23 : decode cX11_entries 23 = .ok (.aload_n 0, 1) := by decide +kernel
theorem dX11_entries_24 : decode cX11_entries 24 = .ok (.getfield 11, 3) := by decide +kernel
theorem dX11_entries_27 : decode cX11_entries 27 = .ok (.iload_n 3, 1) := by decide +kernel
theorem dX11_entries_28 : decode cX11_entries 28 = .ok (.iconst 1, 1) := by decide +kernel
theorem dX11_entries_29 : decode cX11_entries 29 = .ok (.iconst 0, 1) := by decide +kernel
theorem dX11_entries_30 : decode cX11_entries 30 = .ok (.invokestatic 54, 3) := by decide +kernel
theorem dX11_entries_33 : decode cX11_entries 33 = .ok (.iaload, 1) := by decide +kernel
theorem dX11_entries_34 : decode cX11_entries 34 = .ok (.iload_n 1, 1) := by decide +kernel
theorem dX11_entries_35 : decode cX11_entries 35 = .ok (.if_icmp .ne 7, 3) := by decide +kernel
theorem dX11_entries_38 : decode cX11_entries 38 = .ok (.iconst 1, 1) := by decide +kernel
theorem dX11_entries_39 : decode cX11_entries 39 = .ok (.goto 4, 3) := by decide +kernel
theorem dX11_entries_42 : decode cX11_entries 42 = .ok (.iconst 0, 1) := by decide +kernel
theorem dX11_entries_43 : decode cX11_entries 43 = .ok (.iadd, 1) := by decide +kernel
theorem dX11_entries_44 : decode cX11_entries 44 = .ok (.istore_n 2, 1) := by decide +kernel
theorem dX11_entries_45 : decode cX11_entries 45 = .ok (.iinc 3 1, 3) := by decide +kernel
theorem dX11_entries_48 : decode cX11_entries 48 = .ok (.goto (-44), 3) := by decide +kernel
theorem dX11_entries_51 : decode cX11_entries 51 = .ok (.iconst 1, 1) := by decide +kernel
theorem dX11_entries_52 : decode cX11_entries 52 = .ok (.istore_n 3, 1) := by decide +kernel
theorem dX11_entries_53 : decode cX11_entries 53 = .ok (.iload_n 3, 1) := by decide +kernel
theorem dX11_entries_54 : decode cX11_entries 54 = .ok (.aload_n 0, 1) := by decide +kernel
theorem dX11_entries_55 : decode cX11_entries 55 = .ok (.getfield 11, 3) := by decide +kernel
theorem dX11_entries_58 : decode cX11_entries 58 = .ok (.iconst 0, 1) := by decide +kernel
theorem dX11_entries_59 : decode cX11_entries 59 = .ok (.iaload, 1) := by decide +kernel
theorem dX11_entries_60 : decode cX11_entries 60 = .ok (.if_icmp .ge 45, 3) := by decide +kernel
theorem dX11_entries_63 : decode cX11_entries 63 = .ok (.iload_n 2, 1) := by decide +kernel
theorem dX11_entries_64 : decode cX11_entries 64 = .ok (.aload_n 0, 1) := by decide +kernel
theorem dX11_entries_65 : decode cX11_entries 65 = .ok (.getfield 11, 3) := by decide +kernel
theorem dX11_entries_68 : decode cX11_entries 68 = .ok (.iload_n 3, 1) := by decide +kernel
theorem dX11_entries_69 : decode cX11_entries 69 = .ok (.iconst 0, 1) := by decide +kernel
theorem dX11_entries_70 : decode cX11_entries 70 = .ok (.invokestatic 42, 3) := by decide +kernel
theorem dX11_entries_73 : decode cX11_entries 73 = .ok (.iaload, 1) := by decide +kernel
theorem dX11_entries_74 : decode cX11_entries 74 = .ok (.iconst 2, 1) := by decide +kernel
theorem dX11_entries_75 : decode cX11_entries 75 = .ok (.if_icmp .eq 21, 3) := by decide +kernel
theorem dX11_entries_78 : decode cX11_entries 78 = .ok (.aload_n 0, 1) := by decide +kernel
theorem dX11_entries_79 : decode cX11_entries 79 = .ok (.getfield 11, 3) := by decide +kernel
theorem dX11_entries_82 : decode cX11_entries 82 = .ok (.iload_n 3, 1) := by decide +kernel
theorem dX11_entries_83 : decode cX11_entries 83 = .ok (.iconst 1, 1) := by decide +kernel
theorem dX11_entries_84 : decode cX11_entries 84 = .ok (.invokestatic 42, 3) := by decide +kernel
theorem dX11_entries_87 : decode cX11_entries 87 = .ok (.iaload, 1) := by decide +kernel
theorem dX11_entries_88 : decode cX11_entries 88 = .ok (.iload_n 1, 1) := by decide +kernel
theorem dX11_entries_89 : decode cX11_entries 89 = .ok (.if_icmp .ne 7, 3) := by decide +kernel
theorem dX11_entries_92 : decode cX11_entries 92 = .ok (.iconst 1, 1) := by decide +kernel
theorem dX11_entries_93 : decode cX11_entries 93 = .ok (.goto 4, 3) := by decide +kernel
theorem dX11_entries_96 : decode cX11_entries 96 = .ok (.iconst 0, 1) := by decide +kernel
theorem dX11_entries_97 : decode cX11_entries 97 = .ok (.iadd, 1) := by decide +kernel
theorem dX11_entries_98 : decode cX11_entries 98 = .ok (.istore_n 2, 1) := by decide +kernel
theorem dX11_entries_99 : decode cX11_entries 99 = .ok (.iinc 3 1, 3) := by decide +kernel
theorem dX11_entries_102 : decode cX11_entries 102 = .ok (.goto (-49), 3) := by decide +kernel
theorem dX11_entries_105 : decode cX11_entries 105 = .ok (.iload_n 2, 1) := by decide +kernel
theorem dX11_entries_106 : decode cX11_entries 106 = .ok (.ireturn, 1) := by decide +kernel
theorem dX11_move_0 : decode cX11_move 0 = .ok (.aload_n 0, 1) := by decide +kernel
theorem dX11_move_1 : decode cX11_move 1 = .ok (.iload_n 1, 1) := by decide +kernel
theorem dX11_move_2 : decode cX11_move 2 = .ok (.invokevirtual 238, 3) := by decide +kernel
theorem dX11_move_5 : decode cX11_move 5 = .ok (.ifCond .eq 11, 3) := by decide +kernel
theorem dX11_move_8 : decode cX11_move 8 = .ok (.aload_n 0, 1) := by decide +kernel
theorem dX11_move_9 : decode cX11_move 9 = .ok (.iload_n 2, 1) := by decide +kernel
theorem dX11_move_10 : decode cX11_move 10 = .ok (.invokevirtual 50, 3) := by decide +kernel
theorem dX11_move_13 : decode cX11_move 13 = .ok (.ifCond .ne 5, 3) := by decide +kernel
theorem dX11_move_16 : decode cX11_move 16 = .ok (.iconst (-1), 1) := by decide +kernel
theorem dX11_move_17 : decode cX11_move 17 = .ok (.ireturn, 1) := by decide +kernel
theorem dX11_move_18 : decode cX11_move 18 = .ok (.aload_n 0, 1) := by decide +kernel
theorem dX11_move_19 : decode cX11_move 19 = .ok (.iload_n 1, 1) := by decide +kernel
theorem dX11_move_20 : decode cX11_move 20 = .ok (.invokevirtual 119, 3) := by decide +kernel
theorem dX11_move_23 : decode cX11_move 23 = .ok (.ifCond .eq 11, 3) := by decide +kernel
theorem dX11_move_26 : decode cX11_move 26 = .ok (.aload_n 0, 1) := by decide +kernel
theorem dX11_move_27 : decode cX11_move 27 = .ok (.iload_n 2, 1) := by decide +kernel
theorem dX11_move_28 : decode cX11_move 28 = .ok (.invokevirtual 146, 3) := by decide +kernel
theorem dX11_move_31 : decode cX11_move 31 = .ok (.ifCond .ne 6, 3) := by decide +kernel
theorem dX11_move_34 : decode cX11_move 34 = .ok (.bipush (-3), 2) := by decide +kernel
theorem dX11_move_36 : decode cX11_move 36 = .ok (.ireturn, 1) := by decide +kernel
theorem dX11_move_37 : decode cX11_move 37 = .ok (.aload_n 0, 1) := by decide +kernel
theorem dX11_move_38 : decode cX11_move 38 = .ok (.iload_n 1, 1) := by decide +kernel
theorem dX11_move_39 : decode cX11_move 39 = .ok (.iload_n 2, 1) := by decide +kernel
theorem dX11_move_40 : decode cX11_move 40 = .ok (.invokevirtual 177, 3) := by decide +kernel
theorem dX11_move_43 : decode cX11_move 43 = .ok (.aload_n 0, 1) := by decide +kernel
theorem dX11_move_44 : decode cX11_move 44 = .ok (.iload_n 2, 1) := by decide +kernel
theorem dX11_move_45 : decode cX11_move 45 = .ok (.invokevirtual 241, 3) := by decide +kernel
theorem dX11_move_48 : decode cX11_move 48 = .ok (.ireturn, 1) := by decide +kernel
theorem dX11_count_0 : decode cX11_count 0 = .ok (.iload_n 1, 1) := by decide +kernel
theorem dX11_count_1 : decode cX11_count 1 = .ok (.iconst 0, 1) := by decide +kernel
theorem dX11_count_2 : decode cX11_count 2 = .ok (.bipush 7, 2) := by decide +kernel
theorem dX11_count_4 : decode cX11_count 4 = .ok (.invokestatic 46, 3) := by decide +kernel
theorem dX11_count_7 : decode cX11_count 7 = .ok (.ifCond .ne 5, 3) := by decide +kernel
theorem dX11_count_10 : decode cX11_count 10 = .ok (.iconst (-1), 1) := by decide +kernel
theorem dX11_count_11 : decode cX11_count 11 = .ok (.ireturn, 1) := by decide +kernel
theorem dX11_count_12 : decode cX11_count 12 = .ok (.aload_n 0, 1) := by decide +kernel
theorem dX11_count_13 : decode cX11_count 13 = .ok (.getfield 11, 3) := by decide +kernel
theorem dX11_count_16 : decode cX11_count 16 = .ok (.bipush 10, 2) := by decide +kernel
theorem dX11_count_18 : decode cX11_count 18 = .ok (.iload_n 1, 1) := by decide +kernel
theorem dX11_count_19 : decode cX11_count 19 = .ok (.iadd, 1) := by decide +kernel
theorem dX11_count_20 : decode cX11_count 20 = .ok (.dup2, 1) := by decide +kernel
theorem dX11_count_21 : decode cX11_count 21 = .ok (.iaload, 1) := by decide +kernel
theorem dX11_count_22 : decode cX11_count 22 = .ok (.iload_n 2, 1) := by decide +kernel
theorem dX11_count_23 : decode cX11_count 23 = .ok (.iadd, 1) := by decide +kernel
theorem dX11_count_24 : decode cX11_count 24 = .ok (.iastore, 1) := by decide +kernel
theorem dX11_count_25 : decode cX11_count 25 = .ok (.aload_n 0, 1) := by decide +kernel
theorem dX11_count_26 : decode cX11_count 26 = .ok (.getfield 11, 3) := by decide +kernel
theorem dX11_count_29 : decode cX11_count 29 = .ok (.bipush 10, 2) := by decide +kernel
theorem dX11_count_31 : decode cX11_count 31 = .ok (.iload_n 1, 1) := by decide +kernel
theorem dX11_count_32 : decode cX11_count 32 = .ok (.iadd, 1) := by decide +kernel
theorem dX11_count_33 : decode cX11_count 33 = .ok (.iaload, 1) := by decide +kernel
theorem dX11_count_34 : decode cX11_count 34 = .ok (.ireturn, 1) := by decide +kernel
theorem dX11_counter_0 : decode cX11_counter 0 = .ok (.iload_n 1, 1) := by decide +kernel
theorem dX11_counter_1 : decode cX11_counter 1 = .ok (.iconst 0, 1) := by decide +kernel
theorem dX11_counter_2 : decode cX11_counter 2 = .ok (.bipush 7, 2) := by decide +kernel
theorem dX11_counter_4 : decode cX11_counter 4 = .ok (.invokestatic 46, 3) := by decide +kernel
theorem dX11_counter_7 : decode cX11_counter 7 = .ok (.ifCond .eq 16, 3) := by decide +kernel
theorem dX11_counter_10 : decode cX11_counter 10 = .ok (.aload_n 0, 1) := by decide +kernel
theorem dX11_counter_11 : decode cX11_counter 11 = .ok (.getfield 11, 3) := by decide +kernel
theorem dX11_counter_14 : decode cX11_counter 14 = .ok (.bipush 10, 2) := by decide +kernel
theorem dX11_counter_16 : decode cX11_counter 16 = .ok (.iload_n 1, 1) := by decide +kernel
theorem dX11_counter_17 : decode cX11_counter 17 = .ok (.iadd, 1) := by decide +kernel
theorem dX11_counter_18 : decode cX11_counter 18 = .ok (.iaload, 1) := by decide +kernel
theorem dX11_counter_19 : decode cX11_counter 19 = .ok (.i2l, 1) := by decide +kernel
theorem dX11_counter_20 : decode cX11_counter 20 = .ok (.goto 6, 3) := by decide +kernel
theorem dX11_counter_23 : decode cX11_counter 23 = .ok (.ldc2_w 244, 3) := by decide +kernel
theorem dX11_counter_26 : decode cX11_counter 26 = .ok (.lreturn, 1) := by decide +kernel
theorem dX11_isBelow_0 : decode cX11_isBelow 0 = .ok (.iload_n 1, 1) := by decide +kernel
theorem dX11_isBelow_1 : decode cX11_isBelow 1 = .ok (.istore_n 3, 1) := by decide +kernel
theorem dX11_isBelow_2 : decode cX11_isBelow 2 = .ok (.iload_n 3, 1) := by decide +kernel
theorem dX11_isBelow_3 : decode cX11_isBelow 3 = .ok (.ifCond .lt 22, 3) := by decide +kernel
theorem dX11_isBelow_6 : decode cX11_isBelow 6 = .ok (.iload_n 3, 1) := by decide +kernel
theorem dX11_isBelow_7 : decode cX11_isBelow 7 = .ok (.iload_n 2, 1) := by decide +kernel
theorem dX11_isBelow_8 : decode cX11_isBelow 8 = .ok (.if_icmp .eq 17, 3) := by decide +kernel
theorem dX11_isBelow_11 : decode cX11_isBelow 11 = .ok (.aload_n 0, 1) := by decide +kernel
theorem dX11_isBelow_12 : decode cX11_isBelow 12 = .ok (.getfield 11, 3) := by decide +kernel
theorem dX11_isBelow_15 : decode cX11_isBelow 15 = .ok (.iload_n 3, 1) := by decide +kernel
theorem dX11_isBelow_16 : decode cX11_isBelow 16 = .ok (.iconst 1, 1) := by decide +kernel
theorem dX11_isBelow_17 : decode cX11_isBelow 17 = .ok (.invokestatic 42, 3) := by decide +kernel
theorem dX11_isBelow_20 : decode cX11_isBelow 20 = .ok (.iaload, 1) := by decide +kernel
theorem dX11_isBelow_21 : decode cX11_isBelow 21 = .ok (.istore_n 3, 1) := by decide +kernel
theorem dX11_isBelow_22 : decode cX11_isBelow 22 = .ok (.goto (-20), 3) := by decide +kernel
theorem dX11_isBelow_25 : decode cX11_isBelow 25 = .ok (.iload_n 3, 1) := by decide +kernel
theorem dX11_isBelow_26 : decode cX11_isBelow 26 = .ok (.iload_n 2, 1) := by decide +kernel
theorem dX11_isBelow_27 : decode cX11_isBelow 27 = .ok (.if_icmp .ne 7, 3) := by decide +kernel
theorem dX11_isBelow_30 : decode cX11_isBelow 30 = .ok (.iconst 1, 1) := by decide +kernel
theorem dX11_isBelow_31 : decode cX11_isBelow 31 = .ok (.goto 4, 3) := by decide +kernel
theorem dX11_isBelow_34 : decode cX11_isBelow 34 = .ok (.iconst 0, 1) := by decide +kernel
theorem dX11_isBelow_35 : decode cX11_isBelow 35 = .ok (.ireturn, 1) := by decide +kernel
theorem dX11_heldIn_0 : decode cX11_heldIn 0 = .ok (.iconst 0, 1) := by decide +kernel
theorem dX11_heldIn_1 : decode cX11_heldIn 1 = .ok (.istore_n 2, 1) := by decide +kernel
theorem dX11_heldIn_2 : decode cX11_heldIn 2 = .ok (.iconst 0, 1) := by decide +kernel
theorem dX11_heldIn_3 : decode cX11_heldIn 3 = .ok (.istore_n 3, 1) := by decide +kernel
theorem dX11_heldIn_4 : decode cX11_heldIn 4 = .ok (.iload_n 3, 1) := by decide +kernel
theorem dX11_heldIn_5 : decode cX11_heldIn 5 = .ok (.aload_n 0, 1) := by decide +kernel
theorem dX11_heldIn_6 : decode cX11_heldIn 6 = .ok (.getfield 11, 3) := by decide +kernel
theorem dX11_heldIn_9 : decode cX11_heldIn 9 = .ok (.iconst 1, 1) := by decide +kernel
theorem dX11_heldIn_10 : decode cX11_heldIn 10 = .ok (.iaload, 1) := by decide +kernel
theorem dX11_heldIn_11 : decode cX11_heldIn 11 = .ok (.if_icmp .ge 44, 3) := by decide +kernel
theorem dX11_heldIn_14 : decode cX11_heldIn 14 = .ok (.iload_n 2, 1) := by decide +kernel
theorem dX11_heldIn_15 : decode cX11_heldIn 15 = .ok (.aload_n 0, 1) := by decide +kernel
theorem dX11_heldIn_16 : decode cX11_heldIn 16 = .ok (.iload_n 3, 1) := by decide +kernel
theorem dX11_heldIn_17 : decode cX11_heldIn 17 = .ok (.invokevirtual 119, 3) := by decide +kernel
theorem dX11_heldIn_20 : decode cX11_heldIn 20 = .ok (.ifCond .eq 26, 3) := by decide +kernel
theorem dX11_heldIn_23 : decode cX11_heldIn 23 = .ok (.aload_n 0, 1) := by decide +kernel
theorem dX11_heldIn_24 : decode cX11_heldIn 24 = .ok (.aload_n 0, 1) := by decide +kernel
theorem dX11_heldIn_25 : decode cX11_heldIn 25 = .ok (.getfield 11, 3) := by decide +kernel
theorem dX11_heldIn_28 : decode cX11_heldIn 28 = .ok (.iload_n 3, 1) := by decide +kernel
theorem dX11_heldIn_29 : decode cX11_heldIn 29 = .ok (.iconst 1, 1) := by decide +kernel
theorem dX11_heldIn_30 : decode cX11_heldIn 30 = .ok (.iconst 0, 1) := by decide +kernel
theorem dX11_heldIn_31 : decode cX11_heldIn 31 = .ok (.invokestatic 54, 3) := by decide +kernel
theorem dX11_heldIn_34 : decode cX11_heldIn 34 = .ok (.iaload, 1) := by decide +kernel
theorem dX11_heldIn_35 : decode cX11_heldIn 35 = .ok (.iload_n 1, 1) := by decide +kernel
theorem dX11_heldIn_36 : decode cX11_heldIn 36 = .ok (.invokevirtual 246, 3) := by decide +kernel
theorem dX11_heldIn_39 : decode cX11_heldIn 39 = .ok (.ifCond .eq 7, 3) := by decide +kernel
theorem dX11_heldIn_42 : decode cX11_heldIn 42 = .ok (.iconst 1, 1) := by decide +kernel
theorem dX11_heldIn_43 : decode cX11_heldIn 43 = .ok (.goto 4, 3) := by decide +kernel
theorem dX11_heldIn_46 : decode cX11_heldIn 46 = .ok (.iconst 0, 1) := by decide +kernel
theorem dX11_heldIn_47 : decode cX11_heldIn 47 = .ok (.iadd, 1) := by decide +kernel
theorem dX11_heldIn_48 : decode cX11_heldIn 48 = .ok (.istore_n 2, 1) := by decide +kernel
theorem dX11_heldIn_49 : decode cX11_heldIn 49 = .ok (.iinc 3 1, 3) := by decide +kernel
theorem dX11_heldIn_52 : decode cX11_heldIn 52 = .ok (.goto (-48), 3) := by decide +kernel
theorem dX11_heldIn_55 : decode cX11_heldIn 55 = .ok (.iload_n 2, 1) := by decide +kernel
theorem dX11_heldIn_56 : decode cX11_heldIn 56 = .ok (.ireturn, 1) := by decide +kernel
theorem dX11_above_0 : decode cX11_above 0 = .ok (.iconst 0, 1) := by decide +kernel
theorem dX11_above_1 : decode cX11_above 1 = .ok (.istore_n 2, 1) := by decide +kernel
theorem dX11_above_2 : decode cX11_above 2 = .ok (.aload_n 0, 1) := by decide +kernel
theorem dX11_above_3 : decode cX11_above 3 = .ok (.getfield 11, 3) := by decide +kernel
theorem dX11_above_6 : decode cX11_above 6 = .ok (.iload_n 1, 1) := by decide +kernel
theorem dX11_above_7 : decode cX11_above 7 = .ok (.iconst 1, 1) := by decide +kernel
theorem dX11_above_8 : decode cX11_above 8 = .ok (.invokestatic 42, 3) := by decide +kernel
theorem dX11_above_11 : decode cX11_above 11 = .ok (.iaload, 1) := by decide +kernel
theorem dX11_above_12 : decode cX11_above 12 = .ok (.istore_n 3, 1) := by decide +kernel
theorem dX11_above_13 : decode cX11_above 13 = .ok (.iload_n 3, 1) := by decide +kernel
theorem dX11_above_14 : decode cX11_above 14 = .ok (.ifCond .lt 20, 3) := by decide +kernel
theorem dX11_above_17 : decode cX11_above 17 = .ok (.iinc 2 1, 3) := by decide +kernel
theorem dX11_above_20 : decode cX11_above 20 = .ok (.aload_n 0, 1) := by decide +kernel
theorem dX11_above_21 : decode cX11_above 21 = .ok (.getfield 11, 3) := by decide +kernel
theorem dX11_above_24 : decode cX11_above 24 = .ok (.iload_n 3, 1) := by decide +kernel
theorem dX11_above_25 : decode cX11_above 25 = .ok (.iconst 1, 1) := by decide +kernel
theorem dX11_above_26 : decode cX11_above 26 = .ok (.invokestatic 42, 3) := by decide +kernel
theorem dX11_above_29 : decode cX11_above 29 = .ok (.iaload, 1) := by decide +kernel
theorem dX11_above_30 : decode cX11_above 30 = .ok (.istore_n 3, 1) := by decide +kernel
theorem dX11_above_31 : decode cX11_above 31 = .ok (.goto (-18), 3) := by decide +kernel
theorem dX11_above_34 : decode cX11_above 34 = .ok (.iload_n 2, 1) := by decide +kernel
theorem dX11_above_35 : decode cX11_above 35 = .ok (.ireturn, 1) := by decide +kernel
theorem dX11_scope_0 : decode cX11_scope 0 = .ok (.aload_n 0, 1) := by decide +kernel
theorem dX11_scope_1 : decode cX11_scope 1 = .ok (.iload_n 1, 1) := by decide +kernel
theorem dX11_scope_2 : decode cX11_scope 2 = .ok (.invokevirtual 50, 3) := by decide +kernel
theorem dX11_scope_5 : decode cX11_scope 5 = .ok (.ifCond .ne 5, 3) := by decide +kernel
theorem dX11_scope_8 : decode cX11_scope 8 = .ok (.iconst (-1), 1) := by decide +kernel
theorem dX11_scope_9 : decode cX11_scope 9 = .ok (.ireturn, 1) := by decide +kernel
theorem dX11_scope_10 : decode cX11_scope 10 = .ok (.iload_n 2, 1) := by decide +kernel
theorem dX11_scope_11 : decode cX11_scope 11 = .ok (.tableswitch 96 0 5 #[37, 56, 67, 73, 79, 85], 37) := by decide +kernel
theorem dX11_scope_48 : decode cX11_scope 48 = .ok (.aload_n 0, 1) := by decide +kernel
theorem dX11_scope_49 : decode cX11_scope 49 = .ok (.getfield 11, 3) := by decide +kernel
theorem dX11_scope_52 : decode cX11_scope 52 = .ok (.iload_n 1, 1) := by decide +kernel
theorem dX11_scope_53 : decode cX11_scope 53 = .ok (.iconst 0, 1) := by decide +kernel
theorem dX11_scope_54 : decode cX11_scope 54 = .ok (.invokestatic 42, 3) := by decide +kernel
theorem dX11_scope_57 : decode cX11_scope 57 = .ok (.iaload, 1) := by decide +kernel
theorem dX11_scope_58 : decode cX11_scope 58 = .ok (.ifCond .ne 7, 3) := by decide +kernel
theorem dX11_scope_61 : decode cX11_scope 61 = .ok (.iconst 0, 1) := by decide +kernel
theorem dX11_scope_62 : decode cX11_scope 62 = .ok (.goto 4, 3) := by decide +kernel
theorem dX11_scope_65 : decode cX11_scope 65 = .ok (.iconst 1, 1) := by decide +kernel
theorem dX11_scope_66 : decode cX11_scope 66 = .ok (.ireturn, 1) := by decide +kernel
theorem dX11_scope_67 : decode cX11_scope 67 = .ok (.aload_n 0, 1) := by decide +kernel
theorem dX11_scope_68 : decode cX11_scope 68 = .ok (.getfield 11, 3) := by decide +kernel
theorem dX11_scope_71 : decode cX11_scope 71 = .ok (.iload_n 1, 1) := by decide +kernel
theorem dX11_scope_72 : decode cX11_scope 72 = .ok (.iconst 1, 1) := by decide +kernel
theorem dX11_scope_73 : decode cX11_scope 73 = .ok (.invokestatic 42, 3) := by decide +kernel
theorem dX11_scope_76 : decode cX11_scope 76 = .ok (.iaload, 1) := by decide +kernel
theorem dX11_scope_77 : decode cX11_scope 77 = .ok (.ireturn, 1) := by decide +kernel
theorem dX11_scope_78 : decode cX11_scope 78 = .ok (.aload_n 0, 1) := by decide +kernel
theorem dX11_scope_79 : decode cX11_scope 79 = .ok (.iload_n 1, 1) := by decide +kernel
theorem dX11_scope_80 : decode cX11_scope 80 = .ok (.invokevirtual 241, 3) := by decide +kernel
theorem dX11_scope_83 : decode cX11_scope 83 = .ok (.ireturn, 1) := by decide +kernel
theorem dX11_scope_84 : decode cX11_scope 84 = .ok (.aload_n 0, 1) := by decide +kernel
theorem dX11_scope_85 : decode cX11_scope 85 = .ok (.iload_n 1, 1) := by decide +kernel
theorem dX11_scope_86 : decode cX11_scope 86 = .ok (.invokevirtual 249, 3) := by decide +kernel
theorem dX11_scope_89 : decode cX11_scope 89 = .ok (.ireturn, 1) := by decide +kernel
theorem dX11_scope_90 : decode cX11_scope 90 = .ok (.aload_n 0, 1) := by decide +kernel
theorem dX11_scope_91 : decode cX11_scope 91 = .ok (.iload_n 1, 1) := by decide +kernel
theorem dX11_scope_92 : decode cX11_scope 92 = .ok (.invokevirtual 252, 3) := by decide +kernel
theorem dX11_scope_95 : decode cX11_scope 95 = .ok (.ireturn, 1) := by decide +kernel
theorem dX11_scope_96 : decode cX11_scope 96 = .ok (.aload_n 0, 1) := by decide +kernel
theorem dX11_scope_97 : decode cX11_scope 97 = .ok (.getfield 11, 3) := by decide +kernel
theorem dX11_scope_100 : decode cX11_scope 100 = .ok (.iload_n 1, 1) := by decide +kernel
theorem dX11_scope_101 : decode cX11_scope 101 = .ok (.iconst 3, 1) := by decide +kernel
theorem dX11_scope_102 : decode cX11_scope 102 = .ok (.invokestatic 42, 3) := by decide +kernel
theorem dX11_scope_105 : decode cX11_scope 105 = .ok (.iaload, 1) := by decide +kernel
theorem dX11_scope_106 : decode cX11_scope 106 = .ok (.ireturn, 1) := by decide +kernel
theorem dX11_scope_107 : decode cX11_scope 107 = .ok (.iconst (-1), 1) := by decide +kernel
theorem dX11_scope_108 : decode cX11_scope 108 = .ok (.ireturn, 1) := by decide +kernel
theorem dX11_below_0 : decode cX11_below 0 = .ok (.aload_n 0, 1) := by decide +kernel
theorem dX11_below_1 : decode cX11_below 1 = .ok (.iload_n 1, 1) := by decide +kernel
theorem dX11_below_2 : decode cX11_below 2 = .ok (.invokevirtual 50, 3) := by decide +kernel
theorem dX11_below_5 : decode cX11_below 5 = .ok (.ifCond .eq 11, 3) := by decide +kernel
theorem dX11_below_8 : decode cX11_below 8 = .ok (.aload_n 0, 1) := by decide +kernel
theorem dX11_below_9 : decode cX11_below 9 = .ok (.iload_n 2, 1) := by decide +kernel
theorem dX11_below_10 : decode cX11_below 10 = .ok (.invokevirtual 50, 3) := by decide +kernel
theorem dX11_below_13 : decode cX11_below 13 = .ok (.ifCond .ne 7, 3) := by decide +kernel
theorem dX11_below_16 : decode cX11_below 16 = .ok (.iconst (-1), 1) := by decide +kernel
theorem dX11_below_17 : decode cX11_below 17 = .ok (.goto 17, 3) := by decide +kernel
theorem dX11_below_20 : decode cX11_below 20 = .ok (.aload_n 0, 1) := by decide +kernel
theorem dX11_below_21 : decode cX11_below 21 = .ok (.iload_n 1, 1) := by decide +kernel
theorem dX11_below_22 : decode cX11_below 22 = .ok (.iload_n 2, 1) := by decide +kernel
theorem dX11_below_23 : decode cX11_below 23 = .ok (.invokevirtual 246, 3) := by decide +kernel
theorem dX11_below_26 : decode cX11_below 26 = .ok (.ifCond .eq 7, 3) := by decide +kernel
theorem dX11_below_29 : decode cX11_below 29 = .ok (.iconst 1, 1) := by decide +kernel
theorem dX11_below_30 : decode cX11_below 30 = .ok (.goto 4, 3) := by decide +kernel
theorem dX11_below_33 : decode cX11_below 33 = .ok (.iconst 0, 1) := by decide +kernel
theorem dX11_below_34 : decode cX11_below 34 = .ok (.ireturn, 1) := by decide +kernel
theorem dX11_youngest_0 : decode cX11_youngest 0 = .ok (.aload_n 0, 1) := by decide +kernel
theorem dX11_youngest_1 : decode cX11_youngest 1 = .ok (.iload_n 1, 1) := by decide +kernel
theorem dX11_youngest_2 : decode cX11_youngest 2 = .ok (.invokevirtual 50, 3) := by decide +kernel
theorem dX11_youngest_5 : decode cX11_youngest 5 = .ok (.ifCond .ne 5, 3) := by decide +kernel
theorem dX11_youngest_8 : decode cX11_youngest 8 = .ok (.iconst (-1), 1) := by decide +kernel
theorem dX11_youngest_9 : decode cX11_youngest 9 = .ok (.ireturn, 1) := by decide +kernel
theorem dX11_youngest_10 : decode cX11_youngest 10 = .ok (.bipush (-5), 2) := by decide +kernel
theorem dX11_youngest_12 : decode cX11_youngest 12 = .ok (.istore_n 2, 1) := by decide +kernel
theorem dX11_youngest_13 : decode cX11_youngest 13 = .ok (.iconst 0, 1) := by decide +kernel
theorem dX11_youngest_14 : decode cX11_youngest 14 = .ok (.istore_n 3, 1) := by decide +kernel
theorem dX11_youngest_15 : decode cX11_youngest 15 = .ok (.iload_n 3, 1) := by decide +kernel
theorem dX11_youngest_16 : decode cX11_youngest 16 = .ok (.aload_n 0, 1) := by decide +kernel
theorem dX11_youngest_17 : decode cX11_youngest 17 = .ok (.getfield 11, 3) := by decide +kernel
theorem dX11_youngest_20 : decode cX11_youngest 20 = .ok (.iconst 1, 1) := by decide +kernel
theorem dX11_youngest_21 : decode cX11_youngest 21 = .ok (.iaload, 1) := by decide +kernel
theorem dX11_youngest_22 : decode cX11_youngest 22 = .ok (.if_icmp .ge 38, 3) := by decide +kernel
theorem dX11_youngest_25 : decode cX11_youngest 25 = .ok (.aload_n 0, 1) := by decide +kernel
theorem dX11_youngest_26 : decode cX11_youngest 26 = .ok (.iload_n 3, 1) := by decide +kernel
theorem dX11_youngest_27 : decode cX11_youngest 27 = .ok (.invokevirtual 119, 3) := by decide +kernel
theorem dX11_youngest_30 : decode cX11_youngest 30 = .ok (.ifCond .eq 24, 3) := by decide +kernel
theorem dX11_youngest_33 : decode cX11_youngest 33 = .ok (.aload_n 0, 1) := by decide +kernel
theorem dX11_youngest_34 : decode cX11_youngest 34 = .ok (.aload_n 0, 1) := by decide +kernel
theorem dX11_youngest_35 : decode cX11_youngest 35 = .ok (.getfield 11, 3) := by decide +kernel
theorem dX11_youngest_38 : decode cX11_youngest 38 = .ok (.iload_n 3, 1) := by decide +kernel
theorem dX11_youngest_39 : decode cX11_youngest 39 = .ok (.iconst 1, 1) := by decide +kernel
theorem dX11_youngest_40 : decode cX11_youngest 40 = .ok (.iconst 0, 1) := by decide +kernel
theorem dX11_youngest_41 : decode cX11_youngest 41 = .ok (.invokestatic 54, 3) := by decide +kernel
theorem dX11_youngest_44 : decode cX11_youngest 44 = .ok (.iaload, 1) := by decide +kernel
theorem dX11_youngest_45 : decode cX11_youngest 45 = .ok (.iload_n 1, 1) := by decide +kernel
theorem dX11_youngest_46 : decode cX11_youngest 46 = .ok (.invokevirtual 246, 3) := by decide +kernel
theorem dX11_youngest_49 : decode cX11_youngest 49 = .ok (.ifCond .eq 5, 3) := by decide +kernel
theorem dX11_youngest_52 : decode cX11_youngest 52 = .ok (.iload_n 3, 1) := by decide +kernel
theorem dX11_youngest_53 : decode cX11_youngest 53 = .ok (.istore_n 2, 1) := by decide +kernel
theorem dX11_youngest_54 : decode cX11_youngest 54 = .ok (.iinc 3 1, 3) := by decide +kernel
theorem dX11_youngest_57 : decode cX11_youngest 57 = .ok (.goto (-42), 3) := by decide +kernel
theorem dX11_youngest_60 : decode cX11_youngest 60 = .ok (.iload_n 2, 1) := by decide +kernel
theorem dX11_youngest_61 : decode cX11_youngest 61 = .ok (.ireturn, 1) := by decide +kernel
theorem dX11_stampOf_0 : decode cX11_stampOf 0 = .ok (.iload_n 1, 1) := by decide +kernel
theorem dX11_stampOf_1 : decode cX11_stampOf 1 = .ok (.bipush 100, 2) := by decide +kernel
theorem dX11_stampOf_3 : decode cX11_stampOf 3 = .ok (.if_icmp .ge 17, 3) := by decide +kernel
theorem dX11_stampOf_6 : decode cX11_stampOf 6 = .ok (.aload_n 0, 1) := by decide +kernel
theorem dX11_stampOf_7 : decode cX11_stampOf 7 = .ok (.getfield 11, 3) := by decide +kernel
theorem dX11_stampOf_10 : decode cX11_stampOf 10 = .ok (.iload_n 1, 1) := by decide +kernel
theorem dX11_stampOf_11 : decode cX11_stampOf 11 = .ok (.iconst 2, 1) := by decide +kernel
theorem dX11_stampOf_12 : decode cX11_stampOf 12 = .ok (.iconst 0, 1) := by decide +kernel
theorem dX11_stampOf_13 : decode cX11_stampOf 13 = .ok (.invokestatic 54, 3) := by decide +kernel
theorem dX11_stampOf_16 : decode cX11_stampOf 16 = .ok (.iaload, 1) := by decide +kernel
theorem dX11_stampOf_17 : decode cX11_stampOf 17 = .ok (.goto 16, 3) := by decide +kernel
theorem dX11_stampOf_20 : decode cX11_stampOf 20 = .ok (.aload_n 0, 1) := by decide +kernel
theorem dX11_stampOf_21 : decode cX11_stampOf 21 = .ok (.getfield 11, 3) := by decide +kernel
theorem dX11_stampOf_24 : decode cX11_stampOf 24 = .ok (.iload_n 1, 1) := by decide +kernel
theorem dX11_stampOf_25 : decode cX11_stampOf 25 = .ok (.bipush 100, 2) := by decide +kernel
theorem dX11_stampOf_27 : decode cX11_stampOf 27 = .ok (.isub, 1) := by decide +kernel
theorem dX11_stampOf_28 : decode cX11_stampOf 28 = .ok (.iconst 2, 1) := by decide +kernel
theorem dX11_stampOf_29 : decode cX11_stampOf 29 = .ok (.invokestatic 42, 3) := by decide +kernel
theorem dX11_stampOf_32 : decode cX11_stampOf 32 = .ok (.iaload, 1) := by decide +kernel
theorem dX11_stampOf_33 : decode cX11_stampOf 33 = .ok (.ireturn, 1) := by decide +kernel
theorem dX11_isEntry_0 : decode cX11_isEntry 0 = .ok (.iload_n 1, 1) := by decide +kernel
theorem dX11_isEntry_1 : decode cX11_isEntry 1 = .ok (.bipush 100, 2) := by decide +kernel
theorem dX11_isEntry_3 : decode cX11_isEntry 3 = .ok (.if_icmp .ge 42, 3) := by decide +kernel
theorem dX11_isEntry_6 : decode cX11_isEntry 6 = .ok (.iload_n 1, 1) := by decide +kernel
theorem dX11_isEntry_7 : decode cX11_isEntry 7 = .ok (.aload_n 0, 1) := by decide +kernel
theorem dX11_isEntry_8 : decode cX11_isEntry 8 = .ok (.getfield 11, 3) := by decide +kernel
theorem dX11_isEntry_11 : decode cX11_isEntry 11 = .ok (.iconst 1, 1) := by decide +kernel
theorem dX11_isEntry_12 : decode cX11_isEntry 12 = .ok (.iaload, 1) := by decide +kernel
theorem dX11_isEntry_13 : decode cX11_isEntry 13 = .ok (.if_icmp .ge 30, 3) := by decide +kernel
theorem dX11_isEntry_16 : decode cX11_isEntry 16 = .ok (.aload_n 0, 1) := by decide +kernel
theorem dX11_isEntry_17 : decode cX11_isEntry 17 = .ok (.iload_n 1, 1) := by decide +kernel
theorem dX11_isEntry_18 : decode cX11_isEntry 18 = .ok (.invokevirtual 119, 3) := by decide +kernel
theorem dX11_isEntry_21 : decode cX11_isEntry 21 = .ok (.ifCond .eq 22, 3) := by decide +kernel
theorem dX11_isEntry_24 : decode cX11_isEntry 24 = .ok (.aload_n 0, 1) := by decide +kernel
theorem dX11_isEntry_25 : decode cX11_isEntry 25 = .ok (.getfield 11, 3) := by decide +kernel
theorem dX11_isEntry_28 : decode cX11_isEntry 28 = .ok (.iload_n 1, 1) := by decide +kernel
theorem dX11_isEntry_29 : decode cX11_isEntry 29 = .ok (.iconst 1, 1) := by decide +kernel
theorem dX11_isEntry_30 : decode cX11_isEntry 30 = .ok (.iconst 0, 1) := by decide +kernel
theorem dX11_isEntry_31 : decode cX11_isEntry 31 = .ok (.invokestatic 54, 3) := by decide +kernel
theorem dX11_isEntry_34 : decode cX11_isEntry 34 = .ok (.iaload, 1) := by decide +kernel
theorem dX11_isEntry_35 : decode cX11_isEntry 35 = .ok (.iload_n 2, 1) := by decide +kernel
theorem dX11_isEntry_36 : decode cX11_isEntry 36 = .ok (.if_icmp .ne 7, 3) := by decide +kernel
theorem dX11_isEntry_39 : decode cX11_isEntry 39 = .ok (.iconst 1, 1) := by decide +kernel
theorem dX11_isEntry_40 : decode cX11_isEntry 40 = .ok (.goto 4, 3) := by decide +kernel
theorem dX11_isEntry_43 : decode cX11_isEntry 43 = .ok (.iconst 0, 1) := by decide +kernel
theorem dX11_isEntry_44 : decode cX11_isEntry 44 = .ok (.ireturn, 1) := by decide +kernel
theorem dX11_isEntry_45 : decode cX11_isEntry 45 = .ok (.iload_n 1, 1) := by decide +kernel
theorem dX11_isEntry_46 : decode cX11_isEntry 46 = .ok (.bipush 100, 2) := by decide +kernel
theorem dX11_isEntry_48 : decode cX11_isEntry 48 = .ok (.isub, 1) := by decide +kernel
theorem dX11_isEntry_49 : decode cX11_isEntry 49 = .ok (.aload_n 0, 1) := by decide +kernel
theorem dX11_isEntry_50 : decode cX11_isEntry 50 = .ok (.getfield 11, 3) := by decide +kernel
theorem dX11_isEntry_53 : decode cX11_isEntry 53 = .ok (.iconst 0, 1) := by decide +kernel
theorem dX11_isEntry_54 : decode cX11_isEntry 54 = .ok (.iaload, 1) := by decide +kernel
theorem dX11_isEntry_55 : decode cX11_isEntry 55 = .ok (.if_icmp .ge 47, 3) := by decide +kernel
theorem dX11_isEntry_58 : decode cX11_isEntry 58 = .ok (.iload_n 1, 1) := by decide +kernel
theorem dX11_isEntry_59 : decode cX11_isEntry 59 = .ok (.bipush 100, 2) := by decide +kernel
theorem dX11_isEntry_61 : decode cX11_isEntry 61 = .ok (.if_icmp .le 41, 3) := by decide +kernel
theorem dX11_isEntry_64 : decode cX11_isEntry 64 = .ok (.aload_n 0, 1) := by decide +kernel
theorem dX11_isEntry_65 : decode cX11_isEntry 65 = .ok (.getfield 11, 3) := by decide +kernel
theorem dX11_isEntry_68 : decode cX11_isEntry 68 = .ok (.iload_n 1, 1) := by decide +kernel
theorem dX11_isEntry_69 : decode cX11_isEntry 69 = .ok (.bipush 100, 2) := by decide +kernel
theorem dX11_isEntry_71 : decode cX11_isEntry 71 = .ok (.isub, 1) := by decide +kernel
theorem dX11_isEntry_72 : decode cX11_isEntry 72 = .ok (.iconst 0, 1) := by decide +kernel
theorem dX11_isEntry_73 : decode cX11_isEntry 73 = .ok (.invokestatic 42, 3) := by decide +kernel
theorem dX11_isEntry_76 : decode cX11_isEntry 76 = .ok (.iaload, 1) := by decide +kernel
theorem dX11_isEntry_77 : decode cX11_isEntry 77 = .ok (.iconst 2, 1) := by decide +kernel
theorem dX11_isEntry_78 : decode cX11_isEntry 78 = .ok (.if_icmp .eq 24, 3) := by decide +kernel
theorem dX11_isEntry_81 : decode cX11_isEntry 81 = .ok (.aload_n 0, 1) := by decide +kernel
theorem dX11_isEntry_82 : decode cX11_isEntry 82 = .ok (.getfield 11, 3) := by decide +kernel
theorem dX11_isEntry_85 : decode cX11_isEntry 85 = .ok (.iload_n 1, 1) := by decide +kernel
theorem dX11_isEntry_86 : decode cX11_isEntry 86 = .ok (.bipush 100, 2) := by decide +kernel
theorem dX11_isEntry_88 : decode cX11_isEntry 88 = .ok (.isub, 1) := by decide +kernel
theorem dX11_isEntry_89 : decode cX11_isEntry 89 = .ok (.iconst 1, 1) := by decide +kernel
theorem dX11_isEntry_90 : decode cX11_isEntry 90 = .ok (.invokestatic 42, 3) := by decide +kernel
theorem dX11_isEntry_93 : decode cX11_isEntry 93 = .ok (.iaload, 1) := by decide +kernel
theorem dX11_isEntry_94 : decode cX11_isEntry 94 = .ok (.iload_n 2, 1) := by decide +kernel
theorem dX11_isEntry_95 : decode cX11_isEntry 95 = .ok (.if_icmp .ne 7, 3) := by decide +kernel
theorem dX11_isEntry_98 : decode cX11_isEntry 98 = .ok (.iconst 1, 1) := by decide +kernel
theorem dX11_isEntry_99 : decode cX11_isEntry 99 = .ok (.goto 4, 3) := by decide +kernel
theorem dX11_isEntry_102 : decode cX11_isEntry 102 = .ok (.iconst 0, 1) := by decide +kernel
theorem dX11_isEntry_103 : decode cX11_isEntry 103 = .ok (.ireturn, 1) := by decide +kernel
theorem dX11_entryAhead_0 : decode cX11_entryAhead 0 = .ok (.bipush (-5), 2) := by decide +kernel
theorem dX11_entryAhead_2 : decode cX11_entryAhead 2 = .ok (.istore_n 3, 1) := by decide +kernel
theorem dX11_entryAhead_3 : decode cX11_entryAhead 3 = .ok (.iconst 0, 1) := by decide +kernel
theorem dX11_entryAhead_4 : decode cX11_entryAhead 4 = .ok (.istore 4, 2) := by decide +kernel
theorem dX11_entryAhead_6 : decode cX11_entryAhead 6 = .ok (.iload 4, 2) := by decide +kernel
theorem dX11_entryAhead_8 : decode cX11_entryAhead 8 = .ok (.sipush 160, 3) := by decide +kernel
theorem dX11_entryAhead_11 : decode cX11_entryAhead 11 = .ok (.if_icmp .ge 50, 3) := by decide +kernel
theorem dX11_entryAhead_14 : decode cX11_entryAhead 14 = .ok (.aload_n 0, 1) := by decide +kernel
theorem dX11_entryAhead_15 : decode cX11_entryAhead 15 = .ok (.iload 4, 2) := by decide +kernel
