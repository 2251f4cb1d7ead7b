theorem dX12_laysFound_16 : decode cX12_laysFound 16 = .ok (.iload 4, 2) := by decide +kernel
theorem dX12_laysFound_18 : decode cX12_laysFound 18 = .ok (.iconst 0, 1) := by decide +kernel
theorem dX12_laysFound_19 : decode cX12_laysFound 19 = .ok (.iastore, 1) := by decide +kernel
theorem dX12_laysFound_20 : decode cX12_laysFound 20 = .ok (.iinc 4 1, 3) := by decide +kernel
theorem dX12_laysFound_23 : decode cX12_laysFound 23 = .ok (.goto (-18), 3) := by decide +kernel
theorem dX12_laysFound_26 : decode cX12_laysFound 26 = .ok (.iconst 0, 1) := by decide +kernel
theorem dX12_laysFound_27 : decode cX12_laysFound 27 = .ok (.istore 4, 2) := by decide +kernel
theorem dX12_laysFound_29 : decode cX12_laysFound 29 = .ok (.iload 4, 2) := by decide +kernel
theorem dX12_laysFound_31 : decode cX12_laysFound 31 = .ok (.aload_n 0, 1) := by decide +kernel
theorem dX12_laysFound_32 : decode cX12_laysFound 32 = .ok (.getfield 223, 3) := by decide +kernel
theorem dX12_laysFound_35 : decode cX12_laysFound 35 = .ok (.if_icmp .ge 69, 3) := by decide +kernel
theorem dX12_laysFound_38 : decode cX12_laysFound 38 = .ok (.aload_n 0, 1) := by decide +kernel
theorem dX12_laysFound_39 : decode cX12_laysFound 39 = .ok (.iload_n 1, 1) := by decide +kernel
theorem dX12_laysFound_40 : decode cX12_laysFound 40 = .ok (.iload 4, 2) := by decide +kernel
theorem dX12_laysFound_42 : decode cX12_laysFound 42 = .ok (.iload_n 2, 1) := by decide +kernel
theorem dX12_laysFound_43 : decode cX12_laysFound 43 = .ok (.invokevirtual 401, 3) := by decide +kernel
theorem dX12_laysFound_46 : decode cX12_laysFound 46 = .ok (.ifCond .ne 6, 3) := by decide +kernel
theorem dX12_laysFound_49 : decode cX12_laysFound 49 = .ok (.goto 49, 3) := by decide +kernel
theorem dX12_laysFound_52 : decode cX12_laysFound 52 = .ok (.iinc 3 1, 3) := by decide +kernel
theorem dX12_laysFound_55 : decode cX12_laysFound 55 = .ok (.iconst 0, 1) := by decide +kernel
theorem dX12_laysFound_56 : decode cX12_laysFound 56 = .ok (.istore 5, 2) := by decide +kernel
theorem dX12_laysFound_58 : decode cX12_laysFound 58 = .ok (.iload 5, 2) := by decide +kernel
theorem dX12_laysFound_60 : decode cX12_laysFound 60 = .ok (.aload_n 0, 1) := by decide +kernel
theorem dX12_laysFound_61 : decode cX12_laysFound 61 = .ok (.getfield 13, 3) := by decide +kernel
theorem dX12_laysFound_64 : decode cX12_laysFound 64 = .ok (.iconst 1, 1) := by decide +kernel
theorem dX12_laysFound_65 : decode cX12_laysFound 65 = .ok (.iaload, 1) := by decide +kernel
theorem dX12_laysFound_66 : decode cX12_laysFound 66 = .ok (.if_icmp .ge 32, 3) := by decide +kernel
theorem dX12_laysFound_69 : decode cX12_laysFound 69 = .ok (.aload_n 0, 1) := by decide +kernel
theorem dX12_laysFound_70 : decode cX12_laysFound 70 = .ok (.getfield 76, 3) := by decide +kernel
theorem dX12_laysFound_73 : decode cX12_laysFound 73 = .ok (.bipush 6, 2) := by decide +kernel
theorem dX12_laysFound_75 : decode cX12_laysFound 75 = .ok (.iload 5, 2) := by decide +kernel
theorem dX12_laysFound_77 : decode cX12_laysFound 77 = .ok (.imul, 1) := by decide +kernel
theorem dX12_laysFound_78 : decode cX12_laysFound 78 = .ok (.aload_n 0, 1) := by decide +kernel
theorem dX12_laysFound_79 : decode cX12_laysFound 79 = .ok (.iload 4, 2) := by decide +kernel
theorem dX12_laysFound_81 : decode cX12_laysFound 81 = .ok (.iload 5, 2) := by decide +kernel
theorem dX12_laysFound_83 : decode cX12_laysFound 83 = .ok (.invokevirtual 251, 3) := by decide +kernel
theorem dX12_laysFound_86 : decode cX12_laysFound 86 = .ok (.iadd, 1) := by decide +kernel
theorem dX12_laysFound_87 : decode cX12_laysFound 87 = .ok (.dup2, 1) := by decide +kernel
theorem dX12_laysFound_88 : decode cX12_laysFound 88 = .ok (.iaload, 1) := by decide +kernel
theorem dX12_laysFound_89 : decode cX12_laysFound 89 = .ok (.iconst 1, 1) := by decide +kernel
theorem dX12_laysFound_90 : decode cX12_laysFound 90 = .ok (.iadd, 1) := by decide +kernel
theorem dX12_laysFound_91 : decode cX12_laysFound 91 = .ok (.iastore, 1) := by decide +kernel
theorem dX12_laysFound_92 : decode cX12_laysFound 92 = .ok (.iinc 5 1, 3) := by decide +kernel
theorem dX12_laysFound_95 : decode cX12_laysFound 95 = .ok (.goto (-37), 3) := by decide +kernel
theorem dX12_laysFound_98 : decode cX12_laysFound 98 = .ok (.iinc 4 1, 3) := by decide +kernel
theorem dX12_laysFound_101 : decode cX12_laysFound 101 = .ok (.goto (-72), 3) := by decide +kernel
theorem dX12_laysFound_104 : decode cX12_laysFound 104 = .ok (.iload_n 3, 1) := by decide +kernel
theorem dX12_laysFound_105 : decode cX12_laysFound 105 = .ok (.ireturn, 1) := by decide +kernel
theorem dX12_found_0 : decode cX12_found 0 = .ok (.aload_n 0, 1) := by decide +kernel
theorem dX12_found_1 : decode cX12_found 1 = .ok (.iconst 0, 1) := by decide +kernel
theorem dX12_found_2 : decode cX12_found 2 = .ok (.putfield 1, 3) := by decide +kernel
theorem dX12_found_5 : decode cX12_found 5 = .ok (.aload_n 0, 1) := by decide +kernel
theorem dX12_found_6 : decode cX12_found 6 = .ok (.iload_n 1, 1) := by decide +kernel
theorem dX12_found_7 : decode cX12_found 7 = .ok (.iload_n 2, 1) := by decide +kernel
theorem dX12_found_8 : decode cX12_found 8 = .ok (.invokevirtual 405, 3) := by decide +kernel
theorem dX12_found_11 : decode cX12_found 11 = .ok (.istore_n 3, 1) := by decide +kernel
theorem dX12_found_12 : decode cX12_found 12 = .ok (.iload_n 3, 1) := by decide +kernel
theorem dX12_found_13 : decode cX12_found 13 = .ok (.ifCond .eq 7, 3) := by decide +kernel
theorem dX12_found_16 : decode cX12_found 16 = .ok (.iload_n 3, 1) := by decide +kernel
theorem dX12_found_17 : decode cX12_found 17 = .ok (.goto 9, 3) := by decide +kernel
theorem dX12_found_20 : decode cX12_found 20 = .ok (.aload_n 0, 1) := by decide +kernel
theorem dX12_found_21 : decode cX12_found 21 = .ok (.iload_n 1, 1) := by decide +kernel
theorem dX12_found_22 : decode cX12_found 22 = .ok (.iload_n 2, 1) := by decide +kernel
theorem dX12_found_23 : decode cX12_found 23 = .ok (.invokevirtual 408, 3) := by decide +kernel
theorem dX12_found_26 : decode cX12_found 26 = .ok (.ireturn, 1) := by decide +kernel
theorem dX12_names_0 : decode cX12_names 0 = .ok (.aload_n 0, 1) := by decide +kernel
theorem dX12_names_1 : decode cX12_names 1 = .ok (.iconst 0, 1) := by decide +kernel
theorem dX12_names_2 : decode cX12_names 2 = .ok (.putfield 1, 3) := by decide +kernel
theorem dX12_names_5 : decode cX12_names 5 = .ok (.iload_n 1, 1) := by decide +kernel
theorem dX12_names_6 : decode cX12_names 6 = .ok (.i2l, 1) := by decide +kernel
theorem dX12_names_7 : decode cX12_names 7 = .ok (.lconst 0, 1) := by decide +kernel
theorem dX12_names_8 : decode cX12_names 8 = .ok (.ldc2_w 312, 3) := by decide +kernel
theorem dX12_names_11 : decode cX12_names 11 = .ok (.invokestatic 157, 3) := by decide +kernel
theorem dX12_names_14 : decode cX12_names 14 = .ok (.ifCond .eq 21, 3) := by decide +kernel
theorem dX12_names_17 : decode cX12_names 17 = .ok (.aload_n 0, 1) := by decide +kernel
theorem dX12_names_18 : decode cX12_names 18 = .ok (.iload_n 2, 1) := by decide +kernel
theorem dX12_names_19 : decode cX12_names 19 = .ok (.i2l, 1) := by decide +kernel
theorem dX12_names_20 : decode cX12_names 20 = .ok (.invokevirtual 261, 3) := by decide +kernel
theorem dX12_names_23 : decode cX12_names 23 = .ok (.ifCond .eq 12, 3) := by decide +kernel
theorem dX12_names_26 : decode cX12_names 26 = .ok (.aload_n 0, 1) := by decide +kernel
theorem dX12_names_27 : decode cX12_names 27 = .ok (.iload_n 3, 1) := by decide +kernel
theorem dX12_names_28 : decode cX12_names 28 = .ok (.i2l, 1) := by decide +kernel
theorem dX12_names_29 : decode cX12_names 29 = .ok (.invokevirtual 261, 3) := by decide +kernel
theorem dX12_names_32 : decode cX12_names 32 = .ok (.ifCond .ne 6, 3) := by decide +kernel
theorem dX12_names_35 : decode cX12_names 35 = .ok (.bipush (-2), 2) := by decide +kernel
theorem dX12_names_37 : decode cX12_names 37 = .ok (.ireturn, 1) := by decide +kernel
theorem dX12_names_38 : decode cX12_names 38 = .ok (.aload_n 0, 1) := by decide +kernel
theorem dX12_names_39 : decode cX12_names 39 = .ok (.iload_n 1, 1) := by decide +kernel
theorem dX12_names_40 : decode cX12_names 40 = .ok (.invokevirtual 398, 3) := by decide +kernel
theorem dX12_names_43 : decode cX12_names 43 = .ok (.istore 4, 2) := by decide +kernel
theorem dX12_names_45 : decode cX12_names 45 = .ok (.iload 4, 2) := by decide +kernel
theorem dX12_names_47 : decode cX12_names 47 = .ok (.ifCond .eq 6, 3) := by decide +kernel
theorem dX12_names_50 : decode cX12_names 50 = .ok (.iload 4, 2) := by decide +kernel
theorem dX12_names_52 : decode cX12_names 52 = .ok (.ireturn, 1) := by decide +kernel
theorem dX12_names_53 : decode cX12_names 53 = .ok (.aload_n 0, 1) := by decide +kernel
theorem dX12_names_54 : decode cX12_names 54 = .ok (.iload_n 1, 1) := by decide +kernel
theorem dX12_names_55 : decode cX12_names 55 = .ok (.iload_n 2, 1) := by decide +kernel
theorem dX12_names_56 : decode cX12_names 56 = .ok (.invokevirtual 408, 3) := by decide +kernel
theorem dX12_names_59 : decode cX12_names 59 = .ok (.pop, 1) := by decide +kernel
theorem dX12_names_60 : decode cX12_names 60 = .ok (.iconst 0, 1) := by decide +kernel
theorem dX12_names_61 : decode cX12_names 61 = .ok (.istore 5, 2) := by decide +kernel
theorem dX12_names_63 : decode cX12_names 63 = .ok (.iconst 0, 1) := by decide +kernel
theorem dX12_names_64 : decode cX12_names 64 = .ok (.istore 6, 2) := by decide +kernel
theorem dX12_names_66 : decode cX12_names 66 = .ok (.iload 6, 2) := by decide +kernel
theorem dX12_names_68 : decode cX12_names 68 = .ok (.bipush 6, 2) := by decide +kernel
theorem dX12_names_70 : decode cX12_names 70 = .ok (.if_icmp .ge 37, 3) := by decide +kernel
theorem dX12_names_73 : decode cX12_names 73 = .ok (.iload 5, 2) := by decide +kernel
theorem dX12_names_75 : decode cX12_names 75 = .ok (.aload_n 0, 1) := by decide +kernel
theorem dX12_names_76 : decode cX12_names 76 = .ok (.getfield 76, 3) := by decide +kernel
theorem dX12_names_79 : decode cX12_names 79 = .ok (.bipush 6, 2) := by decide +kernel
theorem dX12_names_81 : decode cX12_names 81 = .ok (.iload_n 3, 1) := by decide +kernel
theorem dX12_names_82 : decode cX12_names 82 = .ok (.imul, 1) := by decide +kernel
theorem dX12_names_83 : decode cX12_names 83 = .ok (.iload 6, 2) := by decide +kernel
theorem dX12_names_85 : decode cX12_names 85 = .ok (.iadd, 1) := by decide +kernel
theorem dX12_names_86 : decode cX12_names 86 = .ok (.iaload, 1) := by decide +kernel
theorem dX12_names_87 : decode cX12_names 87 = .ok (.ifCond .le 10, 3) := by decide +kernel
theorem dX12_names_90 : decode cX12_names 90 = .ok (.iconst 1, 1) := by decide +kernel
theorem dX12_names_91 : decode cX12_names 91 = .ok (.iload 6, 2) := by decide +kernel
theorem dX12_names_93 : decode cX12_names 93 = .ok (.ishl, 1) := by decide +kernel
theorem dX12_names_94 : decode cX12_names 94 = .ok (.goto 4, 3) := by decide +kernel
theorem dX12_names_97 : decode cX12_names 97 = .ok (.iconst 0, 1) := by decide +kernel
theorem dX12_names_98 : decode cX12_names 98 = .ok (.ior, 1) := by decide +kernel
theorem dX12_names_99 : decode cX12_names 99 = .ok (.istore 5, 2) := by decide +kernel
theorem dX12_names_101 : decode cX12_names 101 = .ok (.iinc 6 1, 3) := by decide +kernel
theorem dX12_names_104 : decode cX12_names 104 = .ok (.goto (-38), 3) := by decide +kernel
theorem dX12_names_107 : decode cX12_names 107 = .ok (.iload 5, 2) := by decide +kernel
theorem dX12_names_109 : decode cX12_names 109 = .ok (.ireturn, 1) := by decide +kernel
theorem dX12_look_0 : decode cX12_look 0 = .ok (.aload_n 0, 1) := by decide +kernel
theorem dX12_look_1 : decode cX12_look 1 = .ok (.iconst 0, 1) := by decide +kernel
theorem dX12_look_2 : decode cX12_look 2 = .ok (.putfield 1, 3) := by decide +kernel
theorem dX12_look_5 : decode cX12_look 5 = .ok (.aload_n 0, 1) := by decide +kernel
theorem dX12_look_6 : decode cX12_look 6 = .ok (.iload_n 1, 1) := by decide +kernel
theorem dX12_look_7 : decode cX12_look 7 = .ok (.iload_n 2, 1) := by decide +kernel
theorem dX12_look_8 : decode cX12_look 8 = .ok (.invokevirtual 405, 3) := by decide +kernel
theorem dX12_look_11 : decode cX12_look 11 = .ok (.istore_n 3, 1) := by decide +kernel
theorem dX12_look_12 : decode cX12_look 12 = .ok (.iload_n 3, 1) := by decide +kernel
theorem dX12_look_13 : decode cX12_look 13 = .ok (.ifCond .eq 5, 3) := by decide +kernel
theorem dX12_look_16 : decode cX12_look 16 = .ok (.iload_n 3, 1) := by decide +kernel
theorem dX12_look_17 : decode cX12_look 17 = .ok (.ireturn, 1) := by decide +kernel
theorem dX12_look_18 : decode cX12_look 18 = .ok (.aload_n 0, 1) := by decide +kernel
theorem dX12_look_19 : decode cX12_look 19 = .ok (.iload_n 1, 1) := by decide +kernel
theorem dX12_look_20 : decode cX12_look 20 = .ok (.iload_n 2, 1) := by decide +kernel
theorem dX12_look_21 : decode cX12_look 21 = .ok (.invokevirtual 408, 3) := by decide +kernel
theorem dX12_look_24 : decode cX12_look 24 = .ok (.ifCond .ne 5, 3) := by decide +kernel
theorem dX12_look_27 : decode cX12_look 27 = .ok (.iconst (-1), 1) := by decide +kernel
theorem dX12_look_28 : decode cX12_look 28 = .ok (.ireturn, 1) := by decide +kernel
theorem dX12_look_29 : decode cX12_look 29 = .ok (.iconst (-1), 1) := by decide +kernel
theorem dX12_look_30 : decode cX12_look 30 = .ok (.istore 4, 2) := by decide +kernel
theorem dX12_look_32 : decode cX12_look 32 = .ok (.ldc_w 368, 3) := by decide +kernel
theorem dX12_look_35 : decode cX12_look 35 = .ok (.istore 5, 2) := by decide +kernel
theorem dX12_look_37 : decode cX12_look 37 = .ok (.iconst 0, 1) := by decide +kernel
theorem dX12_look_38 : decode cX12_look 38 = .ok (.istore 6, 2) := by decide +kernel
theorem dX12_look_40 : decode cX12_look 40 = .ok (.iload 6, 2) := by decide +kernel
theorem dX12_look_42 : decode cX12_look 42 = .ok (.aload_n 0, 1) := by decide +kernel
theorem dX12_look_43 : decode cX12_look 43 = .ok (.getfield 13, 3) := by decide +kernel
theorem dX12_look_46 : decode cX12_look 46 = .ok (.iconst 1, 1) := by decide +kernel
theorem dX12_look_47 : decode cX12_look 47 = .ok (.iaload, 1) := by decide +kernel
theorem dX12_look_48 : decode cX12_look 48 = .ok (.if_icmp .ge 84, 3) := by decide +kernel
theorem dX12_look_51 : decode cX12_look 51 = .ok (.iconst 0, 1) := by decide +kernel
theorem dX12_look_52 : decode cX12_look 52 = .ok (.istore 7, 2) := by decide +kernel
theorem dX12_look_54 : decode cX12_look 54 = .ok (.iconst 0, 1) := by decide +kernel
theorem dX12_look_55 : decode cX12_look 55 = .ok (.istore 8, 2) := by decide +kernel
theorem dX12_look_57 : decode cX12_look 57 = .ok (.iload 8, 2) := by decide +kernel
theorem dX12_look_59 : decode cX12_look 59 = .ok (.bipush 6, 2) := by decide +kernel
theorem dX12_look_61 : decode cX12_look 61 = .ok (.if_icmp .ge 47, 3) := by decide +kernel
theorem dX12_look_64 : decode cX12_look 64 = .ok (.aload_n 0, 1) := by decide +kernel
theorem dX12_look_65 : decode cX12_look 65 = .ok (.getfield 76, 3) := by decide +kernel
theorem dX12_look_68 : decode cX12_look 68 = .ok (.bipush 6, 2) := by decide +kernel
theorem dX12_look_70 : decode cX12_look 70 = .ok (.iload 6, 2) := by decide +kernel
theorem dX12_look_72 : decode cX12_look 72 = .ok (.imul, 1) := by decide +kernel
theorem dX12_look_73 : decode cX12_look 73 = .ok (.iload 8, 2) := by decide +kernel
theorem dX12_look_75 : decode cX12_look 75 = .ok (.iadd, 1) := by decide +kernel
theorem dX12_look_76 : decode cX12_look 76 = .ok (.iaload, 1) := by decide +kernel
theorem dX12_look_77 : decode cX12_look 77 = .ok (.iload 7, 2) := by decide +kernel
theorem dX12_look_79 : decode cX12_look 79 = .ok (.if_icmp .le 19, 3) := by decide +kernel
theorem dX12_look_82 : decode cX12_look 82 = .ok (.aload_n 0, 1) := by decide +kernel
theorem dX12_look_83 : decode cX12_look 83 = .ok (.getfield 76, 3) := by decide +kernel
theorem dX12_look_86 : decode cX12_look 86 = .ok (.bipush 6, 2) := by decide +kernel
theorem dX12_look_88 : decode cX12_look 88 = .ok (.iload 6, 2) := by decide +kernel
theorem dX12_look_90 : decode cX12_look 90 = .ok (.imul, 1) := by decide +kernel
theorem dX12_look_91 : decode cX12_look 91 = .ok (.iload 8, 2) := by decide +kernel
theorem dX12_look_93 : decode cX12_look 93 = .ok (.iadd, 1) := by decide +kernel
theorem dX12_look_94 : decode cX12_look 94 = .ok (.iaload, 1) := by decide +kernel
theorem dX12_look_95 : decode cX12_look 95 = .ok (.goto 5, 3) := by decide +kernel
theorem dX12_look_98 : decode cX12_look 98 = .ok (.iload 7, 2) := by decide +kernel
theorem dX12_look_100 : decode cX12_look 100 = .ok (.istore 7, 2) := by decide +kernel
theorem dX12_look_102 : decode cX12_look 102 = .ok (.iinc 8 1, 3) := by decide +kernel
theorem dX12_look_105 : decode cX12_look 105 = .ok (.goto (-48), 3) := by decide +kernel
theorem dX12_look_108 : decode cX12_look 108 = .ok (.iload 7, 2) := by decide +kernel
theorem dX12_look_110 : decode cX12_look 110 = .ok (.iload 5, 2) := by decide +kernel
theorem dX12_look_112 : decode cX12_look 112 = .ok (.if_icmp .lt 6, 3) := by decide +kernel
theorem dX12_look_115 : decode cX12_look 115 = .ok (.goto 11, 3) := by decide +kernel
theorem dX12_look_118 : decode cX12_look 118 = .ok (.iload 6, 2) := by decide +kernel
theorem dX12_look_120 : decode cX12_look 120 = .ok (.istore 4, 2) := by decide +kernel
theorem dX12_look_122 : decode cX12_look 122 = .ok (.iload 7, 2) := by decide +kernel
theorem dX12_look_124 : decode cX12_look 124 = .ok (.istore 5, 2) := by decide +kernel
theorem dX12_look_126 : decode cX12_look 126 = .ok (.iinc 6 1, 3) := by decide +kernel
theorem dX12_look_129 : decode cX12_look 129 = .ok (.goto (-89), 3) := by decide +kernel
theorem dX12_look_132 : decode cX12_look 132 = .ok (.iload 4, 2) := by decide +kernel
theorem dX12_look_134 : decode cX12_look 134 = .ok (.ireturn, 1) := by decide +kernel
theorem dX12_clues_0 : decode cX12_clues 0 = .ok (.aload_n 0, 1) := by decide +kernel
theorem dX12_clues_1 : decode cX12_clues 1 = .ok (.iconst 0, 1) := by decide +kernel
theorem dX12_clues_2 : decode cX12_clues 2 = .ok (.putfield 1, 3) := by decide +kernel
theorem dX12_clues_5 : decode cX12_clues 5 = .ok (.aload_n 0, 1) := by decide +kernel
theorem dX12_clues_6 : decode cX12_clues 6 = .ok (.iload_n 1, 1) := by decide +kernel
theorem dX12_clues_7 : decode cX12_clues 7 = .ok (.invokevirtual 314, 3) := by decide +kernel
theorem dX12_clues_10 : decode cX12_clues 10 = .ok (.istore_n 2, 1) := by decide +kernel
theorem dX12_clues_11 : decode cX12_clues 11 = .ok (.iload_n 2, 1) := by decide +kernel
theorem dX12_clues_12 : decode cX12_clues 12 = .ok (.ifCond .eq 5, 3) := by decide +kernel
theorem dX12_clues_15 : decode cX12_clues 15 = .ok (.iload_n 2, 1) := by decide +kernel
theorem dX12_clues_16 : decode cX12_clues 16 = .ok (.ireturn, 1) := by decide +kernel
theorem dX12_clues_17 : decode cX12_clues 17 = .ok (.aload_n 0, 1) := by decide +kernel
theorem dX12_clues_18 : decode cX12_clues 18 = .ok (.getfield 82, 3) := by decide +kernel
theorem dX12_clues_21 : decode cX12_clues 21 = .ok (.iload_n 1, 1) := by decide +kernel
theorem dX12_clues_22 : decode cX12_clues 22 = .ok (.iaload, 1) := by decide +kernel
theorem dX12_clues_23 : decode cX12_clues 23 = .ok (.i2l, 1) := by decide +kernel
theorem dX12_clues_24 : decode cX12_clues 24 = .ok (.lconst 1, 1) := by decide +kernel
theorem dX12_clues_25 : decode cX12_clues 25 = .ok (.ldc2_w 394, 3) := by decide +kernel
theorem dX12_clues_28 : decode cX12_clues 28 = .ok (.invokestatic 157, 3) := by decide +kernel
theorem dX12_clues_31 : decode cX12_clues 31 = .ok (.ifCond .ne 6, 3) := by decide +kernel
theorem dX12_clues_34 : decode cX12_clues 34 = .ok (.bipush (-4), 2) := by decide +kernel
theorem dX12_clues_36 : decode cX12_clues 36 = .ok (.ireturn, 1) := by decide +kernel
theorem dX12_clues_37 : decode cX12_clues 37 = .ok (.iconst 0, 1) := by decide +kernel
theorem dX12_clues_38 : decode cX12_clues 38 = .ok (.istore_n 3, 1) := by decide +kernel
theorem dX12_clues_39 : decode cX12_clues 39 = .ok (.iload_n 3, 1) := by decide +kernel
theorem dX12_clues_40 : decode cX12_clues 40 = .ok (.aload_n 0, 1) := by decide +kernel
theorem dX12_clues_41 : decode cX12_clues 41 = .ok (.getfield 82, 3) := by decide +kernel
theorem dX12_clues_44 : decode cX12_clues 44 = .ok (.iload_n 1, 1) := by decide +kernel
theorem dX12_clues_45 : decode cX12_clues 45 = .ok (.iaload, 1) := by decide +kernel
theorem dX12_clues_46 : decode cX12_clues 46 = .ok (.if_icmp .ge 41, 3) := by decide +kernel
theorem dX12_clues_49 : decode cX12_clues 49 = .ok (.aload_n 0, 1) := by decide +kernel
theorem dX12_clues_50 : decode cX12_clues 50 = .ok (.getfield 85, 3) := by decide +kernel
theorem dX12_clues_53 : decode cX12_clues 53 = .ok (.bipush 40, 2) := by decide +kernel
theorem dX12_clues_55 : decode cX12_clues 55 = .ok (.iload_n 1, 1) := by decide +kernel
theorem dX12_clues_56 : decode cX12_clues 56 = .ok (.imul, 1) := by decide +kernel
theorem dX12_clues_57 : decode cX12_clues 57 = .ok (.iload_n 3, 1) := by decide +kernel
theorem dX12_clues_58 : decode cX12_clues 58 = .ok (.iadd, 1) := by decide +kernel
theorem dX12_clues_59 : decode cX12_clues 59 = .ok (.laload, 1) := by decide +kernel
theorem dX12_clues_60 : decode cX12_clues 60 = .ok (.lconst 0, 1) := by decide +kernel
theorem dX12_clues_61 : decode cX12_clues 61 = .ok (.iconst 1, 1) := by decide +kernel
theorem dX12_clues_62 : decode cX12_clues 62 = .ok (.aload_n 0, 1) := by decide +kernel
theorem dX12_clues_63 : decode cX12_clues 63 = .ok (.getfield 13, 3) := by decide +kernel
theorem dX12_clues_66 : decode cX12_clues 66 = .ok (.iconst 1, 1) := by decide +kernel
theorem dX12_clues_67 : decode cX12_clues 67 = .ok (.iaload, 1) := by decide +kernel
theorem dX12_clues_68 : decode cX12_clues 68 = .ok (.ishl, 1) := by decide +kernel
theorem dX12_clues_69 : decode cX12_clues 69 = .ok (.iconst 1, 1) := by decide +kernel
theorem dX12_clues_70 : decode cX12_clues 70 = .ok (.isub, 1) := by decide +kernel
theorem dX12_clues_71 : decode cX12_clues 71 = .ok (.i2l, 1) := by decide +kernel
theorem dX12_clues_72 : decode cX12_clues 72 = .ok (.invokestatic 157, 3) := by decide +kernel
theorem dX12_clues_75 : decode cX12_clues 75 = .ok (.ifCond .ne 6, 3) := by decide +kernel
theorem dX12_clues_78 : decode cX12_clues 78 = .ok (.bipush (-3), 2) := by decide +kernel
theorem dX12_clues_80 : decode cX12_clues 80 = .ok (.ireturn, 1) := by decide +kernel
theorem dX12_clues_81 : decode cX12_clues 81 = .ok (.iinc 3 1, 3) := by decide +kernel
theorem dX12_clues_84 : decode cX12_clues 84 = .ok (.goto (-45), 3) := by decide +kernel
theorem dX12_clues_87 : decode cX12_clues 87 = .ok (.iconst 0, 1) := by decide +kernel
theorem dX12_clues_88 : decode cX12_clues 88 = .ok (.istore_n 3, 1) := by decide +kernel
theorem dX12_clues_89 : decode cX12_clues 89 = .ok (.iconst 0, 1) := by decide +kernel
theorem dX12_clues_90 : decode cX12_clues 90 = .ok (.istore 4, 2) := by decide +kernel
theorem dX12_clues_92 : decode cX12_clues 92 = .ok (.iload 4, 2) := by decide +kernel
theorem dX12_clues_94 : decode cX12_clues 94 = .ok (.bipush 10, 2) := by decide +kernel
theorem dX12_clues_96 : decode cX12_clues 96 = .ok (.if_icmp .ge 100, 3) := by decide +kernel
theorem dX12_clues_99 : decode cX12_clues 99 = .ok (.aload_n 0, 1) := by decide +kernel
theorem dX12_clues_100 : decode cX12_clues 100 = .ok (.getfield 13, 3) := by decide +kernel
theorem dX12_clues_103 : decode cX12_clues 103 = .ok (.bipush 21, 2) := by decide +kernel
theorem dX12_clues_105 : decode cX12_clues 105 = .ok (.iaload, 1) := by decide +kernel
theorem dX12_clues_106 : decode cX12_clues 106 = .ok (.istore 5, 2) := by decide +kernel
theorem dX12_clues_108 : decode cX12_clues 108 = .ok (.iconst 1, 1) := by decide +kernel
theorem dX12_clues_109 : decode cX12_clues 109 = .ok (.istore 6, 2) := by decide +kernel
theorem dX12_clues_111 : decode cX12_clues 111 = .ok (.iconst 0, 1) := by decide +kernel
theorem dX12_clues_112 : decode cX12_clues 112 = .ok (.istore 7, 2) := by decide +kernel
theorem dX12_clues_114 : decode cX12_clues 114 = .ok (.iload 7, 2) := by decide +kernel
theorem dX12_clues_116 : decode cX12_clues 116 = .ok (.aload_n 0, 1) := by decide +kernel
theorem dX12_clues_117 : decode cX12_clues 117 = .ok (.getfield 82, 3) := by decide +kernel
theorem dX12_clues_120 : decode cX12_clues 120 = .ok (.iload_n 1, 1) := by decide +kernel
theorem dX12_clues_121 : decode cX12_clues 121 = .ok (.iaload, 1) := by decide +kernel
theorem dX12_clues_122 : decode cX12_clues 122 = .ok (.if_icmp .ge 52, 3) := by decide +kernel
theorem dX12_clues_125 : decode cX12_clues 125 = .ok (.aload_n 0, 1) := by decide +kernel
theorem dX12_clues_126 : decode cX12_clues 126 = .ok (.iload 5, 2) := by decide +kernel
theorem dX12_clues_128 : decode cX12_clues 128 = .ok (.invokevirtual 268, 3) := by decide +kernel
theorem dX12_clues_131 : decode cX12_clues 131 = .ok (.istore 5, 2) := by decide +kernel
theorem dX12_clues_133 : decode cX12_clues 133 = .ok (.iload 6, 2) := by decide +kernel
theorem dX12_clues_135 : decode cX12_clues 135 = .ok (.aload_n 0, 1) := by decide +kernel
theorem dX12_clues_136 : decode cX12_clues 136 = .ok (.iload 5, 2) := by decide +kernel
theorem dX12_clues_138 : decode cX12_clues 138 = .ok (.iload 4, 2) := by decide +kernel
theorem dX12_clues_140 : decode cX12_clues 140 = .ok (.invokevirtual 258, 3) := by decide +kernel
theorem dX12_clues_143 : decode cX12_clues 143 = .ok (.i2l, 1) := by decide +kernel
theorem dX12_clues_144 : decode cX12_clues 144 = .ok (.aload_n 0, 1) := by decide +kernel
theorem dX12_clues_145 : decode cX12_clues 145 = .ok (.getfield 85, 3) := by decide +kernel
theorem dX12_clues_148 : decode cX12_clues 148 = .ok (.bipush 40, 2) := by decide +kernel
theorem dX12_clues_150 : decode cX12_clues 150 = .ok (.iload_n 1, 1) := by decide +kernel
theorem dX12_clues_151 : decode cX12_clues 151 = .ok (.imul, 1) := by decide +kernel
theorem dX12_clues_152 : decode cX12_clues 152 = .ok (.iload 7, 2) := by decide +kernel
theorem dX12_clues_154 : decode cX12_clues 154 = .ok (.iadd, 1) := by decide +kernel
theorem dX12_clues_155 : decode cX12_clues 155 = .ok (.laload, 1) := by decide +kernel
theorem dX12_clues_156 : decode cX12_clues 156 = .ok (.lcmp, 1) := by decide +kernel
theorem dX12_clues_157 : decode cX12_clues 157 = .ok (.ifCond .ne 7, 3) := by decide +kernel
theorem dX12_clues_160 : decode cX12_clues 160 = .ok (.iconst 1, 1) := by decide +kernel
theorem dX12_clues_161 : decode cX12_clues 161 = .ok (.goto 4, 3) := by decide +kernel
theorem dX12_clues_164 : decode cX12_clues 164 = .ok (.iconst 0, 1) := by decide +kernel
theorem dX12_clues_165 : decode cX12_clues 165 = .ok (.iand, 1) := by decide +kernel
theorem dX12_clues_166 : decode cX12_clues 166 = .ok (.istore 6, 2) := by decide +kernel
theorem dX12_clues_168 : decode cX12_clues 168 = .ok (.iinc 7 1, 3) := by decide +kernel
theorem dX12_clues_171 : decode cX12_clues 171 = .ok (.goto (-57), 3) := by decide +kernel
theorem dX12_clues_174 : decode cX12_clues 174 = .ok (.iload_n 3, 1) := by decide +kernel
theorem dX12_clues_175 : decode cX12_clues 175 = .ok (.iload 6, 2) := by decide +kernel
theorem dX12_clues_177 : decode cX12_clues 177 = .ok (.ifCond .eq 10, 3) := by decide +kernel
theorem dX12_clues_180 : decode cX12_clues 180 = .ok (.iconst 1, 1) := by decide +kernel
theorem dX12_clues_181 : decode cX12_clues 181 = .ok (.iload 4, 2) := by decide +kernel
theorem dX12_clues_183 : decode cX12_clues 183 = .ok (.ishl, 1) := by decide +kernel
theorem dX12_clues_184 : decode cX12_clues 184 = .ok (.goto 4, 3) := by decide +kernel
theorem dX12_clues_187 : decode cX12_clues 187 = .ok (.iconst 0, 1) := by decide +kernel
theorem dX12_clues_188 : decode cX12_clues 188 = .ok (.ior, 1) := by decide +kernel
theorem dX12_clues_189 : decode cX12_clues 189 = .ok (.istore_n 3, 1) := by decide +kernel
theorem dX12_clues_190 : decode cX12_clues 190 = .ok (.iinc 4 1, 3) := by decide +kernel
theorem dX12_clues_193 : decode cX12_clues 193 = .ok (.goto (-101), 3) := by decide +kernel
theorem dX12_clues_196 : decode cX12_clues 196 = .ok (.iload_n 3, 1) := by decide +kernel
theorem dX12_clues_197 : decode cX12_clues 197 = .ok (.ireturn, 1) := by decide +kernel
theorem dX12_forcedTo_0 : decode cX12_forcedTo 0 = .ok (.iload_n 2, 1) := by decide +kernel
theorem dX12_forcedTo_1 : decode cX12_forcedTo 1 = .ok (.aload_n 0, 1) := by decide +kernel
theorem dX12_forcedTo_2 : decode cX12_forcedTo 2 = .ok (.getfield 358, 3) := by decide +kernel
theorem dX12_forcedTo_5 : decode cX12_forcedTo 5 = .ok (.if_icmp .ne 7, 3) := by decide +kernel
theorem dX12_forcedTo_8 : decode cX12_forcedTo 8 = .ok (.iload_n 1, 1) := by decide +kernel
theorem dX12_forcedTo_9 : decode cX12_forcedTo 9 = .ok (.goto 14, 3) := by decide +kernel
theorem dX12_forcedTo_12 : decode cX12_forcedTo 12 = .ok (.aload_n 0, 1) := by decide +kernel
theorem dX12_forcedTo_13 : decode cX12_forcedTo 13 = .ok (.getfield 58, 3) := by decide +kernel
theorem dX12_forcedTo_16 : decode cX12_forcedTo 16 = .ok (.bipush 15, 2) := by decide +kernel
theorem dX12_forcedTo_18 : decode cX12_forcedTo 18 = .ok (.iload_n 1, 1) := by decide +kernel
theorem dX12_forcedTo_19 : decode cX12_forcedTo 19 = .ok (.imul, 1) := by decide +kernel
theorem dX12_forcedTo_20 : decode cX12_forcedTo 20 = .ok (.iload_n 2, 1) := by decide +kernel
theorem dX12_forcedTo_21 : decode cX12_forcedTo 21 = .ok (.iadd, 1) := by decide +kernel
theorem dX12_forcedTo_22 : decode cX12_forcedTo 22 = .ok (.iaload, 1) := by decide +kernel
theorem dX12_forcedTo_23 : decode cX12_forcedTo 23 = .ok (.ireturn, 1) := by decide +kernel
theorem dX12_firstBy_0 : decode cX12_firstBy 0 = .ok (.aload_n 0, 1) := by decide +kernel
theorem dX12_firstBy_1 : decode cX12_firstBy 1 = .ok (.getfield 64, 3) := by decide +kernel
theorem dX12_firstBy_4 : decode cX12_firstBy 4 = .ok (.aload_n 0, 1) := by decide +kernel
theorem dX12_firstBy_5 : decode cX12_firstBy 5 = .ok (.iload_n 1, 1) := by decide +kernel
theorem dX12_firstBy_6 : decode cX12_firstBy 6 = .ok (.iload_n 2, 1) := by decide +kernel
theorem dX12_firstBy_7 : decode cX12_firstBy 7 = .ok (.invokevirtual 411, 3) := by decide +kernel
theorem dX12_firstBy_10 : decode cX12_firstBy 10 = .ok (.iaload, 1) := by decide +kernel
theorem dX12_firstBy_11 : decode cX12_firstBy 11 = .ok (.istore_n 3, 1) := by decide +kernel
theorem dX12_firstBy_12 : decode cX12_firstBy 12 = .ok (.iload_n 3, 1) := by decide +kernel
theorem dX12_firstBy_13 : decode cX12_firstBy 13 = .ok (.ldc_w 368, 3) := by decide +kernel
theorem dX12_firstBy_16 : decode cX12_firstBy 16 = .ok (.if_icmp .ne 9, 3) := by decide +kernel
theorem dX12_firstBy_19 : decode cX12_firstBy 19 = .ok (.ldc_w 368, 3) := by decide +kernel
theorem dX12_firstBy_22 : decode cX12_firstBy 22 = .ok (.goto 6, 3) := by decide +kernel
theorem dX12_firstBy_25 : decode cX12_firstBy 25 = .ok (.iload_n 3, 1) := by decide +kernel
theorem dX12_firstBy_26 : decode cX12_firstBy 26 = .ok (.iconst 1, 1) := by decide +kernel
theorem dX12_firstBy_27 : decode cX12_firstBy 27 = .ok (.iadd, 1) := by decide +kernel
theorem dX12_firstBy_28 : decode cX12_firstBy 28 = .ok (.ireturn, 1) := by decide +kernel
theorem dX12_otherAt_0 : decode cX12_otherAt 0 = .ok (.iconst 0, 1) := by decide +kernel
theorem dX12_otherAt_1 : decode cX12_otherAt 1 = .ok (.istore_n 2, 1) := by decide +kernel
theorem dX12_otherAt_2 : decode cX12_otherAt 2 = .ok (.iconst 0, 1) := by decide +kernel
theorem dX12_otherAt_3 : decode cX12_otherAt 3 = .ok (.istore_n 3, 1) := by decide +kernel
theorem dX12_otherAt_4 : decode cX12_otherAt 4 = .ok (.iload_n 3, 1) := by decide +kernel
theorem dX12_otherAt_5 : decode cX12_otherAt 5 = .ok (.aload_n 0, 1) := by decide +kernel
theorem dX12_otherAt_6 : decode cX12_otherAt 6 = .ok (.getfield 358, 3) := by decide +kernel
theorem dX12_otherAt_9 : decode cX12_otherAt 9 = .ok (.if_icmp .gt 51, 3) := by decide +kernel
theorem dX12_otherAt_12 : decode cX12_otherAt 12 = .ok (.aload_n 0, 1) := by decide +kernel
theorem dX12_otherAt_13 : decode cX12_otherAt 13 = .ok (.getfield 61, 3) := by decide +kernel
theorem dX12_otherAt_16 : decode cX12_otherAt 16 = .ok (.aload_n 0, 1) := by decide +kernel
theorem dX12_otherAt_17 : decode cX12_otherAt 17 = .ok (.iload_n 1, 1) := by decide +kernel
theorem dX12_otherAt_18 : decode cX12_otherAt 18 = .ok (.iload_n 3, 1) := by decide +kernel
theorem dX12_otherAt_19 : decode cX12_otherAt 19 = .ok (.invokevirtual 411, 3) := by decide +kernel
theorem dX12_otherAt_22 : decode cX12_otherAt 22 = .ok (.iaload, 1) := by decide +kernel
theorem dX12_otherAt_23 : decode cX12_otherAt 23 = .ok (.istore 4, 2) := by decide +kernel
theorem dX12_otherAt_25 : decode cX12_otherAt 25 = .ok (.iload 4, 2) := by decide +kernel
theorem dX12_otherAt_27 : decode cX12_otherAt 27 = .ok (.ldc_w 368, 3) := by decide +kernel
theorem dX12_otherAt_30 : decode cX12_otherAt 30 = .ok (.if_icmp .ne 7, 3) := by decide +kernel
theorem dX12_otherAt_33 : decode cX12_otherAt 33 = .ok (.ldc_w 368, 3) := by decide +kernel
theorem dX12_otherAt_36 : decode cX12_otherAt 36 = .ok (.ireturn, 1) := by decide +kernel
theorem dX12_otherAt_37 : decode cX12_otherAt 37 = .ok (.iload 4, 2) := by decide +kernel
theorem dX12_otherAt_39 : decode cX12_otherAt 39 = .ok (.iconst 1, 1) := by decide +kernel
theorem dX12_otherAt_40 : decode cX12_otherAt 40 = .ok (.iadd, 1) := by decide +kernel
theorem dX12_otherAt_41 : decode cX12_otherAt 41 = .ok (.iload_n 2, 1) := by decide +kernel
theorem dX12_otherAt_42 : decode cX12_otherAt 42 = .ok (.if_icmp .le 10, 3) := by decide +kernel
theorem dX12_otherAt_45 : decode cX12_otherAt 45 = .ok (.iload 4, 2) := by decide +kernel
theorem dX12_otherAt_47 : decode cX12_otherAt 47 = .ok (.iconst 1, 1) := by decide +kernel
theorem dX12_otherAt_48 : decode cX12_otherAt 48 = .ok (.iadd, 1) := by decide +kernel
theorem dX12_otherAt_49 : decode cX12_otherAt 49 = .ok (.goto 4, 3) := by decide +kernel
theorem dX12_otherAt_52 : decode cX12_otherAt 52 = .ok (.iload_n 2, 1) := by decide +kernel
theorem dX12_otherAt_53 : decode cX12_otherAt 53 = .ok (.istore_n 2, 1) := by decide +kernel
theorem dX12_otherAt_54 : decode cX12_otherAt 54 = .ok (.iinc 3 1, 3) := by decide +kernel
theorem dX12_otherAt_57 : decode cX12_otherAt 57 = .ok (.goto (-53), 3) := by decide +kernel
theorem dX12_otherAt_60 : decode cX12_otherAt 60 = .ok (.iload_n 2, 1) := by decide +kernel
theorem dX12_otherAt_61 : decode cX12_otherAt 61 = .ok (.ireturn, 1) := by decide +kernel
theorem dX12_laysForce_0 : decode cX12_laysForce 0 = .ok (.aload_n 0, 1) := by decide +kernel
theorem dX12_laysForce_1 : decode cX12_laysForce 1 = .ok (.invokevirtual 361, 3) := by decide +kernel
theorem dX12_laysForce_4 : decode cX12_laysForce 4 = .ok (.iconst 0, 1) := by decide +kernel
theorem dX12_laysForce_5 : decode cX12_laysForce 5 = .ok (.istore_n 2, 1) := by decide +kernel
theorem dX12_laysForce_6 : decode cX12_laysForce 6 = .ok (.iload_n 2, 1) := by decide +kernel
theorem dX12_laysForce_7 : decode cX12_laysForce 7 = .ok (.aload_n 0, 1) := by decide +kernel
theorem dX12_laysForce_8 : decode cX12_laysForce 8 = .ok (.getfield 223, 3) := by decide +kernel
theorem dX12_laysForce_11 : decode cX12_laysForce 11 = .ok (.if_icmp .ge 43, 3) := by decide +kernel
theorem dX12_laysForce_14 : decode cX12_laysForce 14 = .ok (.aload_n 0, 1) := by decide +kernel
theorem dX12_laysForce_15 : decode cX12_laysForce 15 = .ok (.getfield 61, 3) := by decide +kernel
theorem dX12_laysForce_18 : decode cX12_laysForce 18 = .ok (.iload_n 2, 1) := by decide +kernel
theorem dX12_laysForce_19 : decode cX12_laysForce 19 = .ok (.aload_n 0, 1) := by decide +kernel
theorem dX12_laysForce_20 : decode cX12_laysForce 20 = .ok (.iload_n 2, 1) := by decide +kernel
theorem dX12_laysForce_21 : decode cX12_laysForce 21 = .ok (.iload_n 1, 1) := by decide +kernel
theorem dX12_laysForce_22 : decode cX12_laysForce 22 = .ok (.invokevirtual 364, 3) := by decide +kernel
theorem dX12_laysForce_25 : decode cX12_laysForce 25 = .ok (.ifCond .eq 7, 3) := by decide +kernel
theorem dX12_laysForce_28 : decode cX12_laysForce 28 = .ok (.iconst 0, 1) := by decide +kernel
theorem dX12_laysForce_29 : decode cX12_laysForce 29 = .ok (.goto 6, 3) := by decide +kernel
theorem dX12_laysForce_32 : decode cX12_laysForce 32 = .ok (.ldc_w 368, 3) := by decide +kernel
theorem dX12_laysForce_35 : decode cX12_laysForce 35 = .ok (.iastore, 1) := by decide +kernel
theorem dX12_laysForce_36 : decode cX12_laysForce 36 = .ok (.aload_n 0, 1) := by decide +kernel
theorem dX12_laysForce_37 : decode cX12_laysForce 37 = .ok (.getfield 64, 3) := by decide +kernel
theorem dX12_laysForce_40 : decode cX12_laysForce 40 = .ok (.iload_n 2, 1) := by decide +kernel
theorem dX12_laysForce_41 : decode cX12_laysForce 41 = .ok (.aload_n 0, 1) := by decide +kernel
theorem dX12_laysForce_42 : decode cX12_laysForce 42 = .ok (.getfield 61, 3) := by decide +kernel
theorem dX12_laysForce_45 : decode cX12_laysForce 45 = .ok (.iload_n 2, 1) := by decide +kernel
theorem dX12_laysForce_46 : decode cX12_laysForce 46 = .ok (.iaload, 1) := by decide +kernel
theorem dX12_laysForce_47 : decode cX12_laysForce 47 = .ok (.iastore, 1) := by decide +kernel
theorem dX12_laysForce_48 : decode cX12_laysForce 48 = .ok (.iinc 2 1, 3) := by decide +kernel
theorem dX12_laysForce_51 : decode cX12_laysForce 51 = .ok (.goto (-45), 3) := by decide +kernel
theorem dX12_laysForce_54 : decode cX12_laysForce 54 = .ok (.iconst 1, 1) := by decide +kernel
theorem dX12_laysForce_55 : decode cX12_laysForce 55 = .ok (.istore_n 2, 1) := by decide +kernel
theorem dX12_laysForce_56 : decode cX12_laysForce 56 = .ok (.iload_n 2, 1) := by decide +kernel
theorem dX12_laysForce_57 : decode cX12_laysForce 57 = .ok (.ifCond .eq 161, 3) := by decide +kernel
theorem dX12_laysForce_60 : decode cX12_laysForce 60 = .ok (.iconst 0, 1) := by decide +kernel
theorem dX12_laysForce_61 : decode cX12_laysForce 61 = .ok (.istore_n 2, 1) := by decide +kernel
theorem dX12_laysForce_62 : decode cX12_laysForce 62 = .ok (.iconst 0, 1) := by decide +kernel
theorem dX12_laysForce_63 : decode cX12_laysForce 63 = .ok (.istore_n 3, 1) := by decide +kernel
theorem dX12_laysForce_64 : decode cX12_laysForce 64 = .ok (.iload_n 3, 1) := by decide +kernel
theorem dX12_laysForce_65 : decode cX12_laysForce 65 = .ok (.aload_n 0, 1) := by decide +kernel
theorem dX12_laysForce_66 : decode cX12_laysForce 66 = .ok (.getfield 223, 3) := by decide +kernel
theorem dX12_laysForce_69 : decode cX12_laysForce 69 = .ok (.if_icmp .ge 146, 3) := by decide +kernel
theorem dX12_laysForce_72 : decode cX12_laysForce 72 = .ok (.aload_n 0, 1) := by decide +kernel
theorem dX12_laysForce_73 : decode cX12_laysForce 73 = .ok (.iload_n 3, 1) := by decide +kernel
theorem dX12_laysForce_74 : decode cX12_laysForce 74 = .ok (.iload_n 1, 1) := by decide +kernel
theorem dX12_laysForce_75 : decode cX12_laysForce 75 = .ok (.invokevirtual 364, 3) := by decide +kernel
theorem dX12_laysForce_78 : decode cX12_laysForce 78 = .ok (.ifCond .eq 6, 3) := by decide +kernel
theorem dX12_laysForce_81 : decode cX12_laysForce 81 = .ok (.goto 128, 3) := by decide +kernel
theorem dX12_laysForce_84 : decode cX12_laysForce 84 = .ok (.aload_n 0, 1) := by decide +kernel
theorem dX12_laysForce_85 : decode cX12_laysForce 85 = .ok (.getfield 61, 3) := by decide +kernel
theorem dX12_laysForce_88 : decode cX12_laysForce 88 = .ok (.iload_n 3, 1) := by decide +kernel
theorem dX12_laysForce_89 : decode cX12_laysForce 89 = .ok (.iaload, 1) := by decide +kernel
theorem dX12_laysForce_90 : decode cX12_laysForce 90 = .ok (.istore 4, 2) := by decide +kernel
theorem dX12_laysForce_92 : decode cX12_laysForce 92 = .ok (.iconst 0, 1) := by decide +kernel
theorem dX12_laysForce_93 : decode cX12_laysForce 93 = .ok (.istore 5, 2) := by decide +kernel
theorem dX12_laysForce_95 : decode cX12_laysForce 95 = .ok (.iload 5, 2) := by decide +kernel
theorem dX12_laysForce_97 : decode cX12_laysForce 97 = .ok (.aload_n 0, 1) := by decide +kernel
theorem dX12_laysForce_98 : decode cX12_laysForce 98 = .ok (.getfield 358, 3) := by decide +kernel
theorem dX12_laysForce_101 : decode cX12_laysForce 101 = .ok (.if_icmp .gt 35, 3) := by decide +kernel
theorem dX12_laysForce_104 : decode cX12_laysForce 104 = .ok (.aload_n 0, 1) := by decide +kernel
theorem dX12_laysForce_105 : decode cX12_laysForce 105 = .ok (.iload_n 3, 1) := by decide +kernel
theorem dX12_laysForce_106 : decode cX12_laysForce 106 = .ok (.iload 5, 2) := by decide +kernel
theorem dX12_laysForce_108 : decode cX12_laysForce 108 = .ok (.invokevirtual 414, 3) := by decide +kernel
theorem dX12_laysForce_111 : decode cX12_laysForce 111 = .ok (.iload 4, 2) := by decide +kernel
theorem dX12_laysForce_113 : decode cX12_laysForce 113 = .ok (.if_icmp .ge 13, 3) := by decide +kernel
theorem dX12_laysForce_116 : decode cX12_laysForce 116 = .ok (.aload_n 0, 1) := by decide +kernel
theorem dX12_laysForce_117 : decode cX12_laysForce 117 = .ok (.iload_n 3, 1) := by decide +kernel
theorem dX12_laysForce_118 : decode cX12_laysForce 118 = .ok (.iload 5, 2) := by decide +kernel
theorem dX12_laysForce_120 : decode cX12_laysForce 120 = .ok (.invokevirtual 414, 3) := by decide +kernel
theorem dX12_laysForce_123 : decode cX12_laysForce 123 = .ok (.goto 5, 3) := by decide +kernel
theorem dX12_laysForce_126 : decode cX12_laysForce 126 = .ok (.iload 4, 2) := by decide +kernel
theorem dX12_laysForce_128 : decode cX12_laysForce 128 = .ok (.istore 4, 2) := by decide +kernel
theorem dX12_laysForce_130 : decode cX12_laysForce 130 = .ok (.iinc 5 1, 3) := by decide +kernel
theorem dX12_laysForce_133 : decode cX12_laysForce 133 = .ok (.goto (-38), 3) := by decide +kernel
theorem dX12_laysForce_136 : decode cX12_laysForce 136 = .ok (.aload_n 0, 1) := by decide +kernel
theorem dX12_laysForce_137 : decode cX12_laysForce 137 = .ok (.iload_n 3, 1) := by decide +kernel
theorem dX12_laysForce_138 : decode cX12_laysForce 138 = .ok (.invokevirtual 417, 3) := by decide +kernel
theorem dX12_laysForce_141 : decode cX12_laysForce 141 = .ok (.istore 5, 2) := by decide +kernel
theorem dX12_laysForce_143 : decode cX12_laysForce 143 = .ok (.iload_n 2, 1) := by decide +kernel
theorem dX12_laysForce_144 : decode cX12_laysForce 144 = .ok (.iload 4, 2) := by decide +kernel
theorem dX12_laysForce_146 : decode cX12_laysForce 146 = .ok (.aload_n 0, 1) := by decide +kernel
theorem dX12_laysForce_147 : decode cX12_laysForce 147 = .ok (.getfield 61, 3) := by decide +kernel
theorem dX12_laysForce_150 : decode cX12_laysForce 150 = .ok (.iload_n 3, 1) := by decide +kernel
theorem dX12_laysForce_151 : decode cX12_laysForce 151 = .ok (.iaload, 1) := by decide +kernel
theorem dX12_laysForce_152 : decode cX12_laysForce 152 = .ok (.if_icmp .lt 14, 3) := by decide +kernel
theorem dX12_laysForce_155 : decode cX12_laysForce 155 = .ok (.iload 5, 2) := by decide +kernel
theorem dX12_laysForce_157 : decode cX12_laysForce 157 = .ok (.aload_n 0, 1) := by decide +kernel
theorem dX12_laysForce_158 : decode cX12_laysForce 158 = .ok (.getfield 64, 3) := by decide +kernel
theorem dX12_laysForce_161 : decode cX12_laysForce 161 = .ok (.iload_n 3, 1) := by decide +kernel
theorem dX12_laysForce_162 : decode cX12_laysForce 162 = .ok (.iaload, 1) := by decide +kernel
theorem dX12_laysForce_163 : decode cX12_laysForce 163 = .ok (.if_icmp .ge 7, 3) := by decide +kernel
theorem dX12_laysForce_166 : decode cX12_laysForce 166 = .ok (.iconst 1, 1) := by decide +kernel
theorem dX12_laysForce_167 : decode cX12_laysForce 167 = .ok (.goto 4, 3) := by decide +kernel
theorem dX12_laysForce_170 : decode cX12_laysForce 170 = .ok (.iconst 0, 1) := by decide +kernel
theorem dX12_laysForce_171 : decode cX12_laysForce 171 = .ok (.ior, 1) := by decide +kernel
theorem dX12_laysForce_172 : decode cX12_laysForce 172 = .ok (.istore_n 2, 1) := by decide +kernel
theorem dX12_laysForce_173 : decode cX12_laysForce 173 = .ok (.aload_n 0, 1) := by decide +kernel
theorem dX12_laysForce_174 : decode cX12_laysForce 174 = .ok (.getfield 61, 3) := by decide +kernel
theorem dX12_laysForce_177 : decode cX12_laysForce 177 = .ok (.iload_n 3, 1) := by decide +kernel
theorem dX12_laysForce_178 : decode cX12_laysForce 178 = .ok (.iload 4, 2) := by decide +kernel
theorem dX12_laysForce_180 : decode cX12_laysForce 180 = .ok (.iastore, 1) := by decide +kernel
theorem dX12_laysForce_181 : decode cX12_laysForce 181 = .ok (.aload_n 0, 1) := by decide +kernel
theorem dX12_laysForce_182 : decode cX12_laysForce 182 = .ok (.getfield 64, 3) := by decide +kernel
theorem dX12_laysForce_185 : decode cX12_laysForce 185 = .ok (.iload_n 3, 1) := by decide +kernel
theorem dX12_laysForce_186 : decode cX12_laysForce 186 = .ok (.iload 5, 2) := by decide +kernel
theorem dX12_laysForce_188 : decode cX12_laysForce 188 = .ok (.aload_n 0, 1) := by decide +kernel
theorem dX12_laysForce_189 : decode cX12_laysForce 189 = .ok (.getfield 64, 3) := by decide +kernel
theorem dX12_laysForce_192 : decode cX12_laysForce 192 = .ok (.iload_n 3, 1) := by decide +kernel
theorem dX12_laysForce_193 : decode cX12_laysForce 193 = .ok (.iaload, 1) := by decide +kernel
theorem dX12_laysForce_194 : decode cX12_laysForce 194 = .ok (.if_icmp .ge 8, 3) := by decide +kernel
theorem dX12_laysForce_197 : decode cX12_laysForce 197 = .ok (.iload 5, 2) := by decide +kernel
theorem dX12_laysForce_199 : decode cX12_laysForce 199 = .ok (.goto 9, 3) := by decide +kernel
theorem dX12_laysForce_202 : decode cX12_laysForce 202 = .ok (.aload_n 0, 1) := by decide +kernel
theorem dX12_laysForce_203 : decode cX12_laysForce 203 = .ok (.getfield 64, 3) := by decide +kernel
theorem dX12_laysForce_206 : decode cX12_laysForce 206 = .ok (.iload_n 3, 1) := by decide +kernel
theorem dX12_laysForce_207 : decode cX12_laysForce 207 = .ok (.iaload, 1) := by decide +kernel
theorem dX12_laysForce_208 : decode cX12_laysForce 208 = .ok (.iastore, 1) := by decide +kernel
theorem dX12_laysForce_209 : decode cX12_laysForce 209 = .ok (.iinc 3 1, 3) := by decide +kernel
theorem dX12_laysForce_212 : decode cX12_laysForce 212 = .ok (.goto (-148), 3) := by decide +kernel
theorem dX12_laysForce_215 : decode cX12_laysForce 215 = .ok (.goto (-159), 3) := by decide +kernel
theorem dX12_laysForce_218 : decode cX12_laysForce 218 = .ok (.aload_n 0, 1) := by decide +kernel
theorem dX12_laysForce_219 : decode cX12_laysForce 219 = .ok (.getfield 61, 3) := by decide +kernel
theorem dX12_laysForce_222 : decode cX12_laysForce 222 = .ok (.aload_n 0, 1) := by decide +kernel
theorem dX12_laysForce_223 : decode cX12_laysForce 223 = .ok (.getfield 13, 3) := by decide +kernel
theorem dX12_laysForce_226 : decode cX12_laysForce 226 = .ok (.bipush 21, 2) := by decide +kernel
theorem dX12_laysForce_228 : decode cX12_laysForce 228 = .ok (.iaload, 1) := by decide +kernel
theorem dX12_laysForce_229 : decode cX12_laysForce 229 = .ok (.iaload, 1) := by decide +kernel
theorem dX12_laysForce_230 : decode cX12_laysForce 230 = .ok (.ireturn, 1) := by decide +kernel
theorem dX12_forces_0 : decode cX12_forces 0 = .ok (.aload_n 0, 1) := by decide +kernel
theorem dX12_forces_1 : decode cX12_forces 1 = .ok (.iconst 0, 1) := by decide +kernel
theorem dX12_forces_2 : decode cX12_forces 2 = .ok (.putfield 1, 3) := by decide +kernel
theorem dX12_forces_5 : decode cX12_forces 5 = .ok (.iload_n 1, 1) := by decide +kernel
theorem dX12_forces_6 : decode cX12_forces 6 = .ok (.invokestatic 369, 3) := by decide +kernel
theorem dX12_forces_9 : decode cX12_forces 9 = .ok (.ifCond .eq 14, 3) := by decide +kernel
theorem dX12_forces_12 : decode cX12_forces 12 = .ok (.aload_n 0, 1) := by decide +kernel
theorem dX12_forces_13 : decode cX12_forces 13 = .ok (.iload_n 1, 1) := by decide +kernel
theorem dX12_forces_14 : decode cX12_forces 14 = .ok (.invokevirtual 420, 3) := by decide +kernel
theorem dX12_forces_17 : decode cX12_forces 17 = .ok (.invokestatic 375, 3) := by decide +kernel
theorem dX12_forces_20 : decode cX12_forces 20 = .ok (.goto 5, 3) := by decide +kernel
theorem dX12_forces_23 : decode cX12_forces 23 = .ok (.bipush (-2), 2) := by decide +kernel
theorem dX12_forces_25 : decode cX12_forces 25 = .ok (.ireturn, 1) := by decide +kernel
theorem dX12_best_0 : decode cX12_best 0 = .ok (.aload_n 0, 1) := by decide +kernel
theorem dX12_best_1 : decode cX12_best 1 = .ok (.iconst 0, 1) := by decide +kernel
theorem dX12_best_2 : decode cX12_best 2 = .ok (.putfield 1, 3) := by decide +kernel
theorem dX12_best_5 : decode cX12_best 5 = .ok (.iload_n 1, 1) := by decide +kernel
theorem dX12_best_6 : decode cX12_best 6 = .ok (.invokestatic 369, 3) := by decide +kernel
theorem dX12_best_9 : decode cX12_best 9 = .ok (.ifCond .ne 6, 3) := by decide +kernel
theorem dX12_best_12 : decode cX12_best 12 = .ok (.bipush (-2), 2) := by decide +kernel
theorem dX12_best_14 : decode cX12_best 14 = .ok (.ireturn, 1) := by decide +kernel
theorem dX12_best_15 : decode cX12_best 15 = .ok (.aload_n 0, 1) := by decide +kernel
theorem dX12_best_16 : decode cX12_best 16 = .ok (.iload_n 1, 1) := by decide +kernel
theorem dX12_best_17 : decode cX12_best 17 = .ok (.invokevirtual 420, 3) := by decide +kernel
theorem dX12_best_20 : decode cX12_best 20 = .ok (.istore_n 2, 1) := by decide +kernel
theorem dX12_best_21 : decode cX12_best 21 = .ok (.iconst 0, 1) := by decide +kernel
theorem dX12_best_22 : decode cX12_best 22 = .ok (.istore_n 3, 1) := by decide +kernel
theorem dX12_best_23 : decode cX12_best 23 = .ok (.iload_n 3, 1) := by decide +kernel
theorem dX12_best_24 : decode cX12_best 24 = .ok (.aload_n 0, 1) := by decide +kernel
theorem dX12_best_25 : decode cX12_best 25 = .ok (.getfield 358, 3) := by decide +kernel
theorem dX12_best_28 : decode cX12_best 28 = .ok (.if_icmp .gt 56, 3) := by decide +kernel
theorem dX12_best_31 : decode cX12_best 31 = .ok (.iload_n 2, 1) := by decide +kernel
theorem dX12_best_32 : decode cX12_best 32 = .ok (.ifCond .le 52, 3) := by decide +kernel
theorem dX12_best_35 : decode cX12_best 35 = .ok (.iload_n 2, 1) := by decide +kernel
theorem dX12_best_36 : decode cX12_best 36 = .ok (.ldc_w 368, 3) := by decide +kernel
theorem dX12_best_39 : decode cX12_best 39 = .ok (.if_icmp .ge 45, 3) := by decide +kernel
theorem dX12_best_42 : decode cX12_best 42 = .ok (.aload_n 0, 1) := by decide +kernel
theorem dX12_best_43 : decode cX12_best 43 = .ok (.aload_n 0, 1) := by decide +kernel
theorem dX12_best_44 : decode cX12_best 44 = .ok (.getfield 13, 3) := by decide +kernel
theorem dX12_best_47 : decode cX12_best 47 = .ok (.bipush 21, 2) := by decide +kernel
theorem dX12_best_49 : decode cX12_best 49 = .ok (.iaload, 1) := by decide +kernel
theorem dX12_best_50 : decode cX12_best 50 = .ok (.iload_n 3, 1) := by decide +kernel
theorem dX12_best_51 : decode cX12_best 51 = .ok (.invokevirtual 414, 3) := by decide +kernel
theorem dX12_best_54 : decode cX12_best 54 = .ok (.iload_n 2, 1) := by decide +kernel
theorem dX12_best_55 : decode cX12_best 55 = .ok (.if_icmp .ne 23, 3) := by decide +kernel
theorem dX12_best_58 : decode cX12_best 58 = .ok (.iload_n 3, 1) := by decide +kernel
theorem dX12_best_59 : decode cX12_best 59 = .ok (.aload_n 0, 1) := by decide +kernel
theorem dX12_best_60 : decode cX12_best 60 = .ok (.getfield 358, 3) := by decide +kernel
theorem dX12_best_63 : decode cX12_best 63 = .ok (.if_icmp .ne 8, 3) := by decide +kernel
theorem dX12_best_66 : decode cX12_best 66 = .ok (.bipush 100, 2) := by decide +kernel
theorem dX12_best_68 : decode cX12_best 68 = .ok (.goto 9, 3) := by decide +kernel
theorem dX12_best_71 : decode cX12_best 71 = .ok (.aload_n 0, 1) := by decide +kernel
theorem dX12_best_72 : decode cX12_best 72 = .ok (.getfield 52, 3) := by decide +kernel
theorem dX12_best_75 : decode cX12_best 75 = .ok (.iload_n 3, 1) := by decide +kernel
theorem dX12_best_76 : decode cX12_best 76 = .ok (.iaload, 1) := by decide +kernel
theorem dX12_best_77 : decode cX12_best 77 = .ok (.ireturn, 1) := by decide +kernel
theorem dX12_best_78 : decode cX12_best 78 = .ok (.iinc 3 1, 3) := by decide +kernel
theorem dX12_best_81 : decode cX12_best 81 = .ok (.goto (-58), 3) := by decide +kernel
theorem dX12_best_84 : decode cX12_best 84 = .ok (.iconst (-1), 1) := by decide +kernel
theorem dX12_best_85 : decode cX12_best 85 = .ok (.ireturn, 1) := by decide +kernel
theorem dX12_laysLikely_0 : decode cX12_laysLikely 0 = .ok (.aload_n 0, 1) := by decide +kernel
theorem dX12_laysLikely_1 : decode cX12_laysLikely 1 = .ok (.invokevirtual 355, 3) := by decide +kernel
theorem dX12_laysLikely_4 : decode cX12_laysLikely 4 = .ok (.aload_n 0, 1) := by decide +kernel
theorem dX12_laysLikely_5 : decode cX12_laysLikely 5 = .ok (.invokevirtual 382, 3) := by decide +kernel
theorem dX12_laysLikely_8 : decode cX12_laysLikely 8 = .ok (.iconst 0, 1) := by decide +kernel
theorem dX12_laysLikely_9 : decode cX12_laysLikely 9 = .ok (.istore_n 2, 1) := by decide +kernel
theorem dX12_laysLikely_10 : decode cX12_laysLikely 10 = .ok (.iload_n 2, 1) := by decide +kernel
theorem dX12_laysLikely_11 : decode cX12_laysLikely 11 = .ok (.iload_n 1, 1) := by decide +kernel
theorem dX12_laysLikely_12 : decode cX12_laysLikely 12 = .ok (.if_icmp .ge 116, 3) := by decide +kernel
theorem dX12_laysLikely_15 : decode cX12_laysLikely 15 = .ok (.iconst 0, 1) := by decide +kernel
theorem dX12_laysLikely_16 : decode cX12_laysLikely 16 = .ok (.istore_n 3, 1) := by decide +kernel
theorem dX12_laysLikely_17 : decode cX12_laysLikely 17 = .ok (.iload_n 3, 1) := by decide +kernel
theorem dX12_laysLikely_18 : decode cX12_laysLikely 18 = .ok (.aload_n 0, 1) := by decide +kernel
theorem dX12_laysLikely_19 : decode cX12_laysLikely 19 = .ok (.getfield 223, 3) := by decide +kernel
theorem dX12_laysLikely_22 : decode cX12_laysLikely 22 = .ok (.if_icmp .ge 96, 3) := by decide +kernel
theorem dX12_laysLikely_25 : decode cX12_laysLikely 25 = .ok (.aload_n 0, 1) := by decide +kernel
theorem dX12_laysLikely_26 : decode cX12_laysLikely 26 = .ok (.getfield 67, 3) := by decide +kernel
theorem dX12_laysLikely_29 : decode cX12_laysLikely 29 = .ok (.iload_n 3, 1) := by decide +kernel
theorem dX12_laysLikely_30 : decode cX12_laysLikely 30 = .ok (.laload, 1) := by decide +kernel
theorem dX12_laysLikely_31 : decode cX12_laysLikely 31 = .ok (.lconst 0, 1) := by decide +kernel
theorem dX12_laysLikely_32 : decode cX12_laysLikely 32 = .ok (.lcmp, 1) := by decide +kernel
theorem dX12_laysLikely_33 : decode cX12_laysLikely 33 = .ok (.ifCond .ne 6, 3) := by decide +kernel
theorem dX12_laysLikely_36 : decode cX12_laysLikely 36 = .ok (.goto 76, 3) := by decide +kernel
theorem dX12_laysLikely_39 : decode cX12_laysLikely 39 = .ok (.iconst 0, 1) := by decide +kernel
theorem dX12_laysLikely_40 : decode cX12_laysLikely 40 = .ok (.istore 4, 2) := by decide +kernel
theorem dX12_laysLikely_42 : decode cX12_laysLikely 42 = .ok (.iload 4, 2) := by decide +kernel
theorem dX12_laysLikely_44 : decode cX12_laysLikely 44 = .ok (.aload_n 0, 1) := by decide +kernel
theorem dX12_laysLikely_45 : decode cX12_laysLikely 45 = .ok (.getfield 13, 3) := by decide +kernel
theorem dX12_laysLikely_48 : decode cX12_laysLikely 48 = .ok (.iconst 1, 1) := by decide +kernel
theorem dX12_laysLikely_49 : decode cX12_laysLikely 49 = .ok (.iaload, 1) := by decide +kernel
theorem dX12_laysLikely_50 : decode cX12_laysLikely 50 = .ok (.iconst 1, 1) := by decide +kernel
theorem dX12_laysLikely_51 : decode cX12_laysLikely 51 = .ok (.isub, 1) := by decide +kernel
theorem dX12_laysLikely_52 : decode cX12_laysLikely 52 = .ok (.if_icmp .ge 34, 3) := by decide +kernel
theorem dX12_laysLikely_55 : decode cX12_laysLikely 55 = .ok (.aload_n 0, 1) := by decide +kernel
theorem dX12_laysLikely_56 : decode cX12_laysLikely 56 = .ok (.getfield 70, 3) := by decide +kernel
theorem dX12_laysLikely_59 : decode cX12_laysLikely 59 = .ok (.aload_n 0, 1) := by decide +kernel
theorem dX12_laysLikely_60 : decode cX12_laysLikely 60 = .ok (.iload_n 3, 1) := by decide +kernel
theorem dX12_laysLikely_61 : decode cX12_laysLikely 61 = .ok (.iload 4, 2) := by decide +kernel
theorem dX12_laysLikely_63 : decode cX12_laysLikely 63 = .ok (.iload 4, 2) := by decide +kernel
theorem dX12_laysLikely_65 : decode cX12_laysLikely 65 = .ok (.iconst 1, 1) := by decide +kernel
theorem dX12_laysLikely_66 : decode cX12_laysLikely 66 = .ok (.iadd, 1) := by decide +kernel
theorem dX12_laysLikely_67 : decode cX12_laysLikely 67 = .ok (.invokevirtual 278, 3) := by decide +kernel
theorem dX12_laysLikely_70 : decode cX12_laysLikely 70 = .ok (.dup2, 1) := by decide +kernel
theorem dX12_laysLikely_71 : decode cX12_laysLikely 71 = .ok (.laload, 1) := by decide +kernel
theorem dX12_laysLikely_72 : decode cX12_laysLikely 72 = .ok (.aload_n 0, 1) := by decide +kernel
theorem dX12_laysLikely_73 : decode cX12_laysLikely 73 = .ok (.getfield 67, 3) := by decide +kernel
theorem dX12_laysLikely_76 : decode cX12_laysLikely 76 = .ok (.iload_n 3, 1) := by decide +kernel
theorem dX12_laysLikely_77 : decode cX12_laysLikely 77 = .ok (.laload, 1) := by decide +kernel
theorem dX12_laysLikely_78 : decode cX12_laysLikely 78 = .ok (.ladd, 1) := by decide +kernel
theorem dX12_laysLikely_79 : decode cX12_laysLikely 79 = .ok (.lastore, 1) := by decide +kernel
theorem dX12_laysLikely_80 : decode cX12_laysLikely 80 = .ok (.iinc 4 1, 3) := by decide +kernel
theorem dX12_laysLikely_83 : decode cX12_laysLikely 83 = .ok (.goto (-41), 3) := by decide +kernel
theorem dX12_laysLikely_86 : decode cX12_laysLikely 86 = .ok (.aload_n 0, 1) := by decide +kernel
theorem dX12_laysLikely_87 : decode cX12_laysLikely 87 = .ok (.getfield 70, 3) := by decide +kernel
theorem dX12_laysLikely_90 : decode cX12_laysLikely 90 = .ok (.iload_n 3, 1) := by decide +kernel
theorem dX12_laysLikely_91 : decode cX12_laysLikely 91 = .ok (.dup2, 1) := by decide +kernel
theorem dX12_laysLikely_92 : decode cX12_laysLikely 92 = .ok (.laload, 1) := by decide +kernel
theorem dX12_laysLikely_93 : decode cX12_laysLikely 93 = .ok (.aload_n 0, 1) := by decide +kernel
theorem dX12_laysLikely_94 : decode cX12_laysLikely 94 = .ok (.getfield 67, 3) := by decide +kernel
theorem dX12_laysLikely_97 : decode cX12_laysLikely 97 = .ok (.iload_n 3, 1) := by decide +kernel
theorem dX12_laysLikely_98 : decode cX12_laysLikely 98 = .ok (.laload, 1) := by decide +kernel
theorem dX12_laysLikely_99 : decode cX12_laysLikely 99 = .ok (.bipush 11, 2) := by decide +kernel
theorem dX12_laysLikely_101 : decode cX12_laysLikely 101 = .ok (.aload_n 0, 1) := by decide +kernel
theorem dX12_laysLikely_102 : decode cX12_laysLikely 102 = .ok (.getfield 13, 3) := by decide +kernel
theorem dX12_laysLikely_105 : decode cX12_laysLikely 105 = .ok (.iconst 1, 1) := by decide +kernel
theorem dX12_laysLikely_106 : decode cX12_laysLikely 106 = .ok (.iaload, 1) := by decide +kernel
theorem dX12_laysLikely_107 : decode cX12_laysLikely 107 = .ok (.isub, 1) := by decide +kernel
theorem dX12_laysLikely_108 : decode cX12_laysLikely 108 = .ok (.i2l, 1) := by decide +kernel
theorem dX12_laysLikely_109 : decode cX12_laysLikely 109 = .ok (.lmul, 1) := by decide +kernel
theorem dX12_laysLikely_110 : decode cX12_laysLikely 110 = .ok (.ladd, 1) := by decide +kernel
theorem dX12_laysLikely_111 : decode cX12_laysLikely 111 = .ok (.lastore, 1) := by decide +kernel
theorem dX12_laysLikely_112 : decode cX12_laysLikely 112 = .ok (.iinc 3 1, 3) := by decide +kernel
theorem dX12_laysLikely_115 : decode cX12_laysLikely 115 = .ok (.goto (-98), 3) := by decide +kernel
theorem dX12_laysLikely_118 : decode cX12_laysLikely 118 = .ok (.aload_n 0, 1) := by decide +kernel
theorem dX12_laysLikely_119 : decode cX12_laysLikely 119 = .ok (.invokevirtual 385, 3) := by decide +kernel
theorem dX12_laysLikely_122 : decode cX12_laysLikely 122 = .ok (.iinc 2 1, 3) := by decide +kernel
theorem dX12_laysLikely_125 : decode cX12_laysLikely 125 = .ok (.goto (-115), 3) := by decide +kernel
theorem dX12_laysLikely_128 : decode cX12_laysLikely 128 = .ok (.return_, 1) := by decide +kernel
theorem dX12_wholeOf_0 : decode cX12_wholeOf 0 = .ok (.lconst 1, 1) := by decide +kernel
theorem dX12_wholeOf_1 : decode cX12_wholeOf 1 = .ok (.lstore_n 1, 1) := by decide +kernel
theorem dX12_wholeOf_2 : decode cX12_wholeOf 2 = .ok (.iconst 0, 1) := by decide +kernel
theorem dX12_wholeOf_3 : decode cX12_wholeOf 3 = .ok (.istore_n 3, 1) := by decide +kernel
theorem dX12_wholeOf_4 : decode cX12_wholeOf 4 = .ok (.iload_n 3, 1) := by decide +kernel
theorem dX12_wholeOf_5 : decode cX12_wholeOf 5 = .ok (.iload_n 0, 1) := by decide +kernel
theorem dX12_wholeOf_6 : decode cX12_wholeOf 6 = .ok (.if_icmp .ge 15, 3) := by decide +kernel
theorem dX12_wholeOf_9 : decode cX12_wholeOf 9 = .ok (.lload_n 1, 1) := by decide +kernel
theorem dX12_wholeOf_10 : decode cX12_wholeOf 10 = .ok (.ldc2_w 294, 3) := by decide +kernel
theorem dX12_wholeOf_13 : decode cX12_wholeOf 13 = .ok (.lmul, 1) := by decide +kernel
theorem dX12_wholeOf_14 : decode cX12_wholeOf 14 = .ok (.lstore_n 1, 1) := by decide +kernel
theorem dX12_wholeOf_15 : decode cX12_wholeOf 15 = .ok (.iinc 3 1, 3) := by decide +kernel
theorem dX12_wholeOf_18 : decode cX12_wholeOf 18 = .ok (.goto (-14), 3) := by decide +kernel
theorem dX12_wholeOf_21 : decode cX12_wholeOf 21 = .ok (.lload_n 1, 1) := by decide +kernel
theorem dX12_wholeOf_22 : decode cX12_wholeOf 22 = .ok (.lreturn, 1) := by decide +kernel
theorem dX12_commonOf_0 : decode cX12_commonOf 0 = .ok (.lload_n 2, 1) := by decide +kernel
theorem dX12_commonOf_1 : decode cX12_commonOf 1 = .ok (.lconst 0, 1) := by decide +kernel
theorem dX12_commonOf_2 : decode cX12_commonOf 2 = .ok (.lcmp, 1) := by decide +kernel
theorem dX12_commonOf_3 : decode cX12_commonOf 3 = .ok (.ifCond .ne 7, 3) := by decide +kernel
theorem dX12_commonOf_6 : decode cX12_commonOf 6 = .ok (.lload_n 0, 1) := by decide +kernel
theorem dX12_commonOf_7 : decode cX12_commonOf 7 = .ok (.goto 10, 3) := by decide +kernel
theorem dX12_commonOf_10 : decode cX12_commonOf 10 = .ok (.lload_n 2, 1) := by decide +kernel
theorem dX12_commonOf_11 : decode cX12_commonOf 11 = .ok (.lload_n 0, 1) := by decide +kernel
theorem dX12_commonOf_12 : decode cX12_commonOf 12 = .ok (.lload_n 2, 1) := by decide +kernel
theorem dX12_commonOf_13 : decode cX12_commonOf 13 = .ok (.lrem, 1) := by decide +kernel
theorem dX12_commonOf_14 : decode cX12_commonOf 14 = .ok (.invokestatic 423, 3) := by decide +kernel
theorem dX12_commonOf_17 : decode cX12_commonOf 17 = .ok (.lreturn, 1) := by decide +kernel
theorem dX12_part_0 : decode cX12_part 0 = .ok (.iload 4, 2) := by decide +kernel
theorem dX12_part_2 : decode cX12_part 2 = .ok (.ifCond .ne 7, 3) := by decide +kernel
theorem dX12_part_5 : decode cX12_part 5 = .ok (.lload_n 0, 1) := by decide +kernel
theorem dX12_part_6 : decode cX12_part 6 = .ok (.goto 4, 3) := by decide +kernel
theorem dX12_part_9 : decode cX12_part 9 = .ok (.lload_n 2, 1) := by decide +kernel
theorem dX12_part_10 : decode cX12_part 10 = .ok (.lload_n 0, 1) := by decide +kernel
theorem dX12_part_11 : decode cX12_part 11 = .ok (.lload_n 2, 1) := by decide +kernel
theorem dX12_part_12 : decode cX12_part 12 = .ok (.invokestatic 423, 3) := by decide +kernel
theorem dX12_part_15 : decode cX12_part 15 = .ok (.ldiv, 1) := by decide +kernel
theorem dX12_part_16 : decode cX12_part 16 = .ok (.l2i, 1) := by decide +kernel
theorem dX12_part_17 : decode cX12_part 17 = .ok (.ireturn, 1) := by decide +kernel
theorem dX12_chance_0 : decode cX12_chance 0 = .ok (.aload_n 0, 1) := by decide +kernel
theorem dX12_chance_1 : decode cX12_chance 1 = .ok (.iconst 0, 1) := by decide +kernel
theorem dX12_chance_2 : decode cX12_chance 2 = .ok (.putfield 1, 3) := by decide +kernel
theorem dX12_chance_5 : decode cX12_chance 5 = .ok (.iload_n 1, 1) := by decide +kernel
theorem dX12_chance_6 : decode cX12_chance 6 = .ok (.invokestatic 369, 3) := by decide +kernel
theorem dX12_chance_9 : decode cX12_chance 9 = .ok (.ifCond .eq 13, 3) := by decide +kernel
theorem dX12_chance_12 : decode cX12_chance 12 = .ok (.iload_n 3, 1) := by decide +kernel
theorem dX12_chance_13 : decode cX12_chance 13 = .ok (.i2l, 1) := by decide +kernel
theorem dX12_chance_14 : decode cX12_chance 14 = .ok (.lconst 0, 1) := by decide +kernel
theorem dX12_chance_15 : decode cX12_chance 15 = .ok (.lconst 1, 1) := by decide +kernel
theorem dX12_chance_16 : decode cX12_chance 16 = .ok (.invokestatic 157, 3) := by decide +kernel
theorem dX12_chance_19 : decode cX12_chance 19 = .ok (.ifCond .ne 6, 3) := by decide +kernel
theorem dX12_chance_22 : decode cX12_chance 22 = .ok (.bipush (-2), 2) := by decide +kernel
theorem dX12_chance_24 : decode cX12_chance 24 = .ok (.ireturn, 1) := by decide +kernel
theorem dX12_chance_25 : decode cX12_chance 25 = .ok (.iload_n 2, 1) := by decide +kernel
theorem dX12_chance_26 : decode cX12_chance 26 = .ok (.i2l, 1) := by decide +kernel
theorem dX12_chance_27 : decode cX12_chance 27 = .ok (.lconst 0, 1) := by decide +kernel
theorem dX12_chance_28 : decode cX12_chance 28 = .ok (.ldc2_w 380, 3) := by decide +kernel
theorem dX12_chance_31 : decode cX12_chance 31 = .ok (.invokestatic 157, 3) := by decide +kernel
theorem dX12_chance_34 : decode cX12_chance 34 = .ok (.ifCond .ne 6, 3) := by decide +kernel
theorem dX12_chance_37 : decode cX12_chance 37 = .ok (.bipush (-3), 2) := by decide +kernel
theorem dX12_chance_39 : decode cX12_chance 39 = .ok (.ireturn, 1) := by decide +kernel
theorem dX12_chance_40 : decode cX12_chance 40 = .ok (.aload_n 0, 1) := by decide +kernel
theorem dX12_chance_41 : decode cX12_chance 41 = .ok (.iload_n 2, 1) := by decide +kernel
theorem dX12_chance_42 : decode cX12_chance 42 = .ok (.invokevirtual 427, 3) := by decide +kernel
theorem dX12_chance_45 : decode cX12_chance 45 = .ok (.lconst 0, 1) := by decide +kernel
theorem dX12_chance_46 : decode cX12_chance 46 = .ok (.lstore 4, 2) := by decide +kernel
theorem dX12_chance_48 : decode cX12_chance 48 = .ok (.iconst 0, 1) := by decide +kernel
theorem dX12_chance_49 : decode cX12_chance 49 = .ok (.istore 6, 2) := by decide +kernel
theorem dX12_chance_51 : decode cX12_chance 51 = .ok (.iload 6, 2) := by decide +kernel
theorem dX12_chance_53 : decode cX12_chance 53 = .ok (.aload_n 0, 1) := by decide +kernel
theorem dX12_chance_54 : decode cX12_chance 54 = .ok (.getfield 223, 3) := by decide +kernel
theorem dX12_chance_57 : decode cX12_chance 57 = .ok (.if_icmp .ge 35, 3) := by decide +kernel
theorem dX12_chance_60 : decode cX12_chance 60 = .ok (.lload 4, 2) := by decide +kernel
theorem dX12_chance_62 : decode cX12_chance 62 = .ok (.aload_n 0, 1) := by decide +kernel
theorem dX12_chance_63 : decode cX12_chance 63 = .ok (.iload 6, 2) := by decide +kernel
theorem dX12_chance_65 : decode cX12_chance 65 = .ok (.iload_n 1, 1) := by decide +kernel
theorem dX12_chance_66 : decode cX12_chance 66 = .ok (.invokevirtual 364, 3) := by decide +kernel
theorem dX12_chance_69 : decode cX12_chance 69 = .ok (.ifCond .eq 13, 3) := by decide +kernel
theorem dX12_chance_72 : decode cX12_chance 72 = .ok (.aload_n 0, 1) := by decide +kernel
theorem dX12_chance_73 : decode cX12_chance 73 = .ok (.getfield 67, 3) := by decide +kernel
theorem dX12_chance_76 : decode cX12_chance 76 = .ok (.iload 6, 2) := by decide +kernel
theorem dX12_chance_78 : decode cX12_chance 78 = .ok (.laload, 1) := by decide +kernel
theorem dX12_chance_79 : decode cX12_chance 79 = .ok (.goto 4, 3) := by decide +kernel
theorem dX12_chance_82 : decode cX12_chance 82 = .ok (.lconst 0, 1) := by decide +kernel
theorem dX12_chance_83 : decode cX12_chance 83 = .ok (.ladd, 1) := by decide +kernel
theorem dX12_chance_84 : decode cX12_chance 84 = .ok (.lstore 4, 2) := by decide +kernel
theorem dX12_chance_86 : decode cX12_chance 86 = .ok (.iinc 6 1, 3) := by decide +kernel
theorem dX12_chance_89 : decode cX12_chance 89 = .ok (.goto (-38), 3) := by decide +kernel
theorem dX12_chance_92 : decode cX12_chance 92 = .ok (.lload 4, 2) := by decide +kernel
theorem dX12_chance_94 : decode cX12_chance 94 = .ok (.iload_n 2, 1) := by decide +kernel
theorem dX12_chance_95 : decode cX12_chance 95 = .ok (.invokestatic 430, 3) := by decide +kernel
theorem dX12_chance_98 : decode cX12_chance 98 = .ok (.iload_n 3, 1) := by decide +kernel
theorem dX12_chance_99 : decode cX12_chance 99 = .ok (.invokestatic 434, 3) := by decide +kernel
theorem dX12_chance_102 : decode cX12_chance 102 = .ok (.ireturn, 1) := by decide +kernel
theorem dX12_mean_0 : decode cX12_mean 0 = .ok (.aload_n 0, 1) := by decide +kernel
theorem dX12_mean_1 : decode cX12_mean 1 = .ok (.iconst 0, 1) := by decide +kernel
theorem dX12_mean_2 : decode cX12_mean 2 = .ok (.putfield 1, 3) := by decide +kernel
theorem dX12_mean_5 : decode cX12_mean 5 = .ok (.iload_n 2, 1) := by decide +kernel
theorem dX12_mean_6 : decode cX12_mean 6 = .ok (.i2l, 1) := by decide +kernel
theorem dX12_mean_7 : decode cX12_mean 7 = .ok (.lconst 0, 1) := by decide +kernel
theorem dX12_mean_8 : decode cX12_mean 8 = .ok (.lconst 1, 1) := by decide +kernel
theorem dX12_mean_9 : decode cX12_mean 9 = .ok (.invokestatic 157, 3) := by decide +kernel
theorem dX12_mean_12 : decode cX12_mean 12 = .ok (.ifCond .ne 6, 3) := by decide +kernel
theorem dX12_mean_15 : decode cX12_mean 15 = .ok (.bipush (-2), 2) := by decide +kernel
theorem dX12_mean_17 : decode cX12_mean 17 = .ok (.ireturn, 1) := by decide +kernel
theorem dX12_mean_18 : decode cX12_mean 18 = .ok (.iload_n 1, 1) := by decide +kernel
theorem dX12_mean_19 : decode cX12_mean 19 = .ok (.i2l, 1) := by decide +kernel
theorem dX12_mean_20 : decode cX12_mean 20 = .ok (.lconst 0, 1) := by decide +kernel
theorem dX12_mean_21 : decode cX12_mean 21 = .ok (.ldc2_w 380, 3) := by decide +kernel
theorem dX12_mean_24 : decode cX12_mean 24 = .ok (.invokestatic 157, 3) := by decide +kernel
theorem dX12_mean_27 : decode cX12_mean 27 = .ok (.ifCond .ne 6, 3) := by decide +kernel
theorem dX12_mean_30 : decode cX12_mean 30 = .ok (.bipush (-3), 2) := by decide +kernel
theorem dX12_mean_32 : decode cX12_mean 32 = .ok (.ireturn, 1) := by decide +kernel
theorem dX12_mean_33 : decode cX12_mean 33 = .ok (.aload_n 0, 1) := by decide +kernel
theorem dX12_mean_34 : decode cX12_mean 34 = .ok (.iload_n 1, 1) := by decide +kernel
theorem dX12_mean_35 : decode cX12_mean 35 = .ok (.invokevirtual 427, 3) := by decide +kernel
theorem dX12_mean_38 : decode cX12_mean 38 = .ok (.lconst 0, 1) := by decide +kernel
theorem dX12_mean_39 : decode cX12_mean 39 = .ok (.lstore_n 3, 1) := by decide +kernel
theorem dX12_mean_40 : decode cX12_mean 40 = .ok (.iconst 0, 1) := by decide +kernel
theorem dX12_mean_41 : decode cX12_mean 41 = .ok (.istore 5, 2) := by decide +kernel
theorem dX12_mean_43 : decode cX12_mean 43 = .ok (.iload 5, 2) := by decide +kernel
theorem dX12_mean_45 : decode cX12_mean 45 = .ok (.aload_n 0, 1) := by decide +kernel
theorem dX12_mean_46 : decode cX12_mean 46 = .ok (.getfield 223, 3) := by decide +kernel
theorem dX12_mean_49 : decode cX12_mean 49 = .ok (.if_icmp .ge 31, 3) := by decide +kernel
theorem dX12_mean_52 : decode cX12_mean 52 = .ok (.lload_n 3, 1) := by decide +kernel
theorem dX12_mean_53 : decode cX12_mean 53 = .ok (.aload_n 0, 1) := by decide +kernel
theorem dX12_mean_54 : decode cX12_mean 54 = .ok (.getfield 67, 3) := by decide +kernel
theorem dX12_mean_57 : decode cX12_mean 57 = .ok (.iload 5, 2) := by decide +kernel
theorem dX12_mean_59 : decode cX12_mean 59 = .ok (.laload, 1) := by decide +kernel
theorem dX12_mean_60 : decode cX12_mean 60 = .ok (.aload_n 0, 1) := by decide +kernel
theorem dX12_mean_61 : decode cX12_mean 61 = .ok (.getfield 55, 3) := by decide +kernel
theorem dX12_mean_64 : decode cX12_mean 64 = .ok (.iload 5, 2) := by decide +kernel
theorem dX12_mean_66 : decode cX12_mean 66 = .ok (.iaload, 1) := by decide +kernel
theorem dX12_mean_67 : decode cX12_mean 67 = .ok (.invokestatic 284, 3) := by decide +kernel
theorem dX12_mean_70 : decode cX12_mean 70 = .ok (.i2l, 1) := by decide +kernel
theorem dX12_mean_71 : decode cX12_mean 71 = .ok (.lmul, 1) := by decide +kernel
theorem dX12_mean_72 : decode cX12_mean 72 = .ok (.ladd, 1) := by decide +kernel
theorem dX12_mean_73 : decode cX12_mean 73 = .ok (.lstore_n 3, 1) := by decide +kernel
theorem dX12_mean_74 : decode cX12_mean 74 = .ok (.iinc 5 1, 3) := by decide +kernel
theorem dX12_mean_77 : decode cX12_mean 77 = .ok (.goto (-34), 3) := by decide +kernel
theorem dX12_mean_80 : decode cX12_mean 80 = .ok (.lload_n 3, 1) := by decide +kernel
theorem dX12_mean_81 : decode cX12_mean 81 = .ok (.iload_n 1, 1) := by decide +kernel
theorem dX12_mean_82 : decode cX12_mean 82 = .ok (.invokestatic 430, 3) := by decide +kernel
theorem dX12_mean_85 : decode cX12_mean 85 = .ok (.iload_n 2, 1) := by decide +kernel
theorem dX12_mean_86 : decode cX12_mean 86 = .ok (.invokestatic 434, 3) := by decide +kernel
theorem dX12_mean_89 : decode cX12_mean 89 = .ok (.ireturn, 1) := by decide +kernel
theorem dX12_cut_0 : decode cX12_cut 0 = .ok (.iload_n 2, 1) := by decide +kernel
theorem dX12_cut_1 : decode cX12_cut 1 = .ok (.ifCond .ne 10, 3) := by decide +kernel
theorem dX12_cut_4 : decode cX12_cut 4 = .ok (.lload_n 0, 1) := by decide +kernel
theorem dX12_cut_5 : decode cX12_cut 5 = .ok (.l2i, 1) := by decide +kernel
theorem dX12_cut_6 : decode cX12_cut 6 = .ok (.i2b, 1) := by decide +kernel
theorem dX12_cut_7 : decode cX12_cut 7 = .ok (.i2l, 1) := by decide +kernel
theorem dX12_cut_8 : decode cX12_cut 8 = .ok (.goto 27, 3) := by decide +kernel
theorem dX12_cut_11 : decode cX12_cut 11 = .ok (.iload_n 2, 1) := by decide +kernel
theorem dX12_cut_12 : decode cX12_cut 12 = .ok (.iconst 1, 1) := by decide +kernel
theorem dX12_cut_13 : decode cX12_cut 13 = .ok (.if_icmp .ne 10, 3) := by decide +kernel
theorem dX12_cut_16 : decode cX12_cut 16 = .ok (.lload_n 0, 1) := by decide +kernel
theorem dX12_cut_17 : decode cX12_cut 17 = .ok (.l2i, 1) := by decide +kernel
theorem dX12_cut_18 : decode cX12_cut 18 = .ok (.i2s, 1) := by decide +kernel
theorem dX12_cut_19 : decode cX12_cut 19 = .ok (.i2l, 1) := by decide +kernel
theorem dX12_cut_20 : decode cX12_cut 20 = .ok (.goto 15, 3) := by decide +kernel
theorem dX12_cut_23 : decode cX12_cut 23 = .ok (.iload_n 2, 1) := by decide +kernel
theorem dX12_cut_24 : decode cX12_cut 24 = .ok (.iconst 2, 1) := by decide +kernel
theorem dX12_cut_25 : decode cX12_cut 25 = .ok (.if_icmp .ne 9, 3) := by decide +kernel
theorem dX12_cut_28 : decode cX12_cut 28 = .ok (.lload_n 0, 1) := by decide +kernel
theorem dX12_cut_29 : decode cX12_cut 29 = .ok (.l2i, 1) := by decide +kernel
theorem dX12_cut_30 : decode cX12_cut 30 = .ok (.i2l, 1) := by decide +kernel
theorem dX12_cut_31 : decode cX12_cut 31 = .ok (.goto 4, 3) := by decide +kernel
theorem dX12_cut_34 : decode cX12_cut 34 = .ok (.lload_n 0, 1) := by decide +kernel
theorem dX12_cut_35 : decode cX12_cut 35 = .ok (.lreturn, 1) := by decide +kernel
theorem dX12_numbers_0 : decode cX12_numbers 0 = .ok (.aload_n 0, 1) := by decide +kernel
theorem dX12_numbers_1 : decode cX12_numbers 1 = .ok (.iconst 0, 1) := by decide +kernel
theorem dX12_numbers_2 : decode cX12_numbers 2 = .ok (.putfield 1, 3) := by decide +kernel
theorem dX12_numbers_5 : decode cX12_numbers 5 = .ok (.iload_n 1, 1) := by decide +kernel
theorem dX12_numbers_6 : decode cX12_numbers 6 = .ok (.i2l, 1) := by decide +kernel
theorem dX12_numbers_7 : decode cX12_numbers 7 = .ok (.lconst 0, 1) := by decide +kernel
theorem dX12_numbers_8 : decode cX12_numbers 8 = .ok (.ldc2_w 312, 3) := by decide +kernel
theorem dX12_numbers_11 : decode cX12_numbers 11 = .ok (.invokestatic 157, 3) := by decide +kernel
theorem dX12_numbers_14 : decode cX12_numbers 14 = .ok (.ifCond .eq 15, 3) := by decide +kernel
theorem dX12_numbers_17 : decode cX12_numbers 17 = .ok (.iload_n 2, 1) := by decide +kernel
theorem dX12_numbers_18 : decode cX12_numbers 18 = .ok (.i2l, 1) := by decide +kernel
theorem dX12_numbers_19 : decode cX12_numbers 19 = .ok (.lconst 0, 1) := by decide +kernel
theorem dX12_numbers_20 : decode cX12_numbers 20 = .ok (.ldc2_w 312, 3) := by decide +kernel
theorem dX12_numbers_23 : decode cX12_numbers 23 = .ok (.invokestatic 157, 3) := by decide +kernel
theorem dX12_numbers_26 : decode cX12_numbers 26 = .ok (.ifCond .ne 6, 3) := by decide +kernel
theorem dX12_numbers_29 : decode cX12_numbers 29 = .ok (.bipush (-2), 2) := by decide +kernel
theorem dX12_numbers_31 : decode cX12_numbers 31 = .ok (.ireturn, 1) := by decide +kernel
theorem dX12_numbers_32 : decode cX12_numbers 32 = .ok (.iload_n 3, 1) := by decide +kernel
theorem dX12_numbers_33 : decode cX12_numbers 33 = .ok (.i2l, 1) := by decide +kernel
theorem dX12_numbers_34 : decode cX12_numbers 34 = .ok (.lconst 0, 1) := by decide +kernel
theorem dX12_numbers_35 : decode cX12_numbers 35 = .ok (.ldc2_w 330, 3) := by decide +kernel
theorem dX12_numbers_38 : decode cX12_numbers 38 = .ok (.invokestatic 157, 3) := by decide +kernel
theorem dX12_numbers_41 : decode cX12_numbers 41 = .ok (.ifCond .ne 6, 3) := by decide +kernel
theorem dX12_numbers_44 : decode cX12_numbers 44 = .ok (.bipush (-3), 2) := by decide +kernel
theorem dX12_numbers_46 : decode cX12_numbers 46 = .ok (.ireturn, 1) := by decide +kernel
theorem dX12_numbers_47 : decode cX12_numbers 47 = .ok (.aload_n 0, 1) := by decide +kernel
theorem dX12_numbers_48 : decode cX12_numbers 48 = .ok (.getfield 79, 3) := by decide +kernel
theorem dX12_numbers_51 : decode cX12_numbers 51 = .ok (.iload_n 1, 1) := by decide +kernel
theorem dX12_numbers_52 : decode cX12_numbers 52 = .ok (.iload_n 2, 1) := by decide +kernel
theorem dX12_numbers_53 : decode cX12_numbers 53 = .ok (.iastore, 1) := by decide +kernel
theorem dX12_numbers_54 : decode cX12_numbers 54 = .ok (.aload_n 0, 1) := by decide +kernel
theorem dX12_numbers_55 : decode cX12_numbers 55 = .ok (.getfield 82, 3) := by decide +kernel
theorem dX12_numbers_58 : decode cX12_numbers 58 = .ok (.iload_n 1, 1) := by decide +kernel
theorem dX12_numbers_59 : decode cX12_numbers 59 = .ok (.iload_n 3, 1) := by decide +kernel
theorem dX12_numbers_60 : decode cX12_numbers 60 = .ok (.iastore, 1) := by decide +kernel
theorem dX12_numbers_61 : decode cX12_numbers 61 = .ok (.iconst 0, 1) := by decide +kernel
theorem dX12_numbers_62 : decode cX12_numbers 62 = .ok (.istore 4, 2) := by decide +kernel
theorem dX12_numbers_64 : decode cX12_numbers 64 = .ok (.iload 4, 2) := by decide +kernel
theorem dX12_numbers_66 : decode cX12_numbers 66 = .ok (.iload_n 3, 1) := by decide +kernel
theorem dX12_numbers_67 : decode cX12_numbers 67 = .ok (.if_icmp .ge 22, 3) := by decide +kernel
theorem dX12_numbers_70 : decode cX12_numbers 70 = .ok (.aload_n 0, 1) := by decide +kernel
theorem dX12_numbers_71 : decode cX12_numbers 71 = .ok (.getfield 85, 3) := by decide +kernel
theorem dX12_numbers_74 : decode cX12_numbers 74 = .ok (.bipush 40, 2) := by decide +kernel
theorem dX12_numbers_76 : decode cX12_numbers 76 = .ok (.iload_n 1, 1) := by decide +kernel
theorem dX12_numbers_77 : decode cX12_numbers 77 = .ok (.imul, 1) := by decide +kernel
theorem dX12_numbers_78 : decode cX12_numbers 78 = .ok (.iload 4, 2) := by decide +kernel
theorem dX12_numbers_80 : decode cX12_numbers 80 = .ok (.iadd, 1) := by decide +kernel
theorem dX12_numbers_81 : decode cX12_numbers 81 = .ok (.lconst 0, 1) := by decide +kernel
theorem dX12_numbers_82 : decode cX12_numbers 82 = .ok (.lastore, 1) := by decide +kernel
theorem dX12_numbers_83 : decode cX12_numbers 83 = .ok (.iinc 4 1, 3) := by decide +kernel
theorem dX12_numbers_86 : decode cX12_numbers 86 = .ok (.goto (-22), 3) := by decide +kernel
theorem dX12_numbers_89 : decode cX12_numbers 89 = .ok (.iconst 0, 1) := by decide +kernel
theorem dX12_numbers_90 : decode cX12_numbers 90 = .ok (.ireturn, 1) := by decide +kernel
theorem dX12_write_0 : decode cX12_write 0 = .ok (.aload_n 0, 1) := by decide +kernel
theorem dX12_write_1 : decode cX12_write 1 = .ok (.iconst 0, 1) := by decide +kernel
theorem dX12_write_2 : decode cX12_write 2 = .ok (.putfield 1, 3) := by decide +kernel
theorem dX12_write_5 : decode cX12_write 5 = .ok (.aload_n 0, 1) := by decide +kernel
theorem dX12_write_6 : decode cX12_write 6 = .ok (.iload_n 1, 1) := by decide +kernel
theorem dX12_write_7 : decode cX12_write 7 = .ok (.invokevirtual 314, 3) := by decide +kernel
theorem dX12_write_10 : decode cX12_write 10 = .ok (.istore 5, 2) := by decide +kernel
theorem dX12_write_12 : decode cX12_write 12 = .ok (.iload 5, 2) := by decide +kernel
theorem dX12_write_14 : decode cX12_write 14 = .ok (.ifCond .eq 7, 3) := by decide +kernel
theorem dX12_write_17 : decode cX12_write 17 = .ok (.iload 5, 2) := by decide +kernel
theorem dX12_write_19 : decode cX12_write 19 = .ok (.i2l, 1) := by decide +kernel
theorem dX12_write_20 : decode cX12_write 20 = .ok (.lreturn, 1) := by decide +kernel
theorem dX12_write_21 : decode cX12_write 21 = .ok (.iload_n 2, 1) := by decide +kernel
theorem dX12_write_22 : decode cX12_write 22 = .ok (.i2l, 1) := by decide +kernel
theorem dX12_write_23 : decode cX12_write 23 = .ok (.lconst 0, 1) := by decide +kernel
theorem dX12_write_24 : decode cX12_write 24 = .ok (.aload_n 0, 1) := by decide +kernel
theorem dX12_write_25 : decode cX12_write 25 = .ok (.getfield 82, 3) := by decide +kernel
theorem dX12_write_28 : decode cX12_write 28 = .ok (.iload_n 1, 1) := by decide +kernel
theorem dX12_write_29 : decode cX12_write 29 = .ok (.iaload, 1) := by decide +kernel
theorem dX12_write_30 : decode cX12_write 30 = .ok (.iconst 1, 1) := by decide +kernel
theorem dX12_write_31 : decode cX12_write 31 = .ok (.isub, 1) := by decide +kernel
theorem dX12_write_32 : decode cX12_write 32 = .ok (.i2l, 1) := by decide +kernel
theorem dX12_write_33 : decode cX12_write 33 = .ok (.invokestatic 157, 3) := by decide +kernel
theorem dX12_write_36 : decode cX12_write 36 = .ok (.ifCond .ne 7, 3) := by decide +kernel
theorem dX12_write_39 : decode cX12_write 39 = .ok (.ldc2_w 438, 3) := by decide +kernel
theorem dX12_write_42 : decode cX12_write 42 = .ok (.lreturn, 1) := by decide +kernel
theorem dX12_write_43 : decode cX12_write 43 = .ok (.aload_n 0, 1) := by decide +kernel
theorem dX12_write_44 : decode cX12_write 44 = .ok (.getfield 85, 3) := by decide +kernel
theorem dX12_write_47 : decode cX12_write 47 = .ok (.bipush 40, 2) := by decide +kernel
theorem dX12_write_49 : decode cX12_write 49 = .ok (.iload_n 1, 1) := by decide +kernel
theorem dX12_write_50 : decode cX12_write 50 = .ok (.imul, 1) := by decide +kernel
theorem dX12_write_51 : decode cX12_write 51 = .ok (.iload_n 2, 1) := by decide +kernel
theorem dX12_write_52 : decode cX12_write 52 = .ok (.iadd, 1) := by decide +kernel
theorem dX12_write_53 : decode cX12_write 53 = .ok (.lload_n 3, 1) := by decide +kernel
theorem dX12_write_54 : decode cX12_write 54 = .ok (.aload_n 0, 1) := by decide +kernel
theorem dX12_write_55 : decode cX12_write 55 = .ok (.getfield 79, 3) := by decide +kernel
theorem dX12_write_58 : decode cX12_write 58 = .ok (.iload_n 1, 1) := by decide +kernel
theorem dX12_write_59 : decode cX12_write 59 = .ok (.iaload, 1) := by decide +kernel
theorem dX12_write_60 : decode cX12_write 60 = .ok (.invokestatic 440, 3) := by decide +kernel
theorem dX12_write_63 : decode cX12_write 63 = .ok (.lastore, 1) := by decide +kernel
theorem dX12_write_64 : decode cX12_write 64 = .ok (.aload_n 0, 1) := by decide +kernel
theorem dX12_write_65 : decode cX12_write 65 = .ok (.getfield 85, 3) := by decide +kernel
theorem dX12_write_68 : decode cX12_write 68 = .ok (.bipush 40, 2) := by decide +kernel
theorem dX12_write_70 : decode cX12_write 70 = .ok (.iload_n 1, 1) := by decide +kernel
theorem dX12_write_71 : decode cX12_write 71 = .ok (.imul, 1) := by decide +kernel
theorem dX12_write_72 : decode cX12_write 72 = .ok (.iload_n 2, 1) := by decide +kernel
theorem dX12_write_73 : decode cX12_write 73 = .ok (.iadd, 1) := by decide +kernel
theorem dX12_write_74 : decode cX12_write 74 = .ok (.laload, 1) := by decide +kernel
theorem dX12_write_75 : decode cX12_write 75 = .ok (.lreturn, 1) := by decide +kernel
theorem dX12_lists_0 : decode cX12_lists 0 = .ok (.aload_n 0, 1) := by decide +kernel
theorem dX12_lists_1 : decode cX12_lists 1 = .ok (.iconst 0, 1) := by decide +kernel
theorem dX12_lists_2 : decode cX12_lists 2 = .ok (.putfield 1, 3) := by decide +kernel
theorem dX12_lists_5 : decode cX12_lists 5 = .ok (.aload_n 0, 1) := by decide +kernel
theorem dX12_lists_6 : decode cX12_lists 6 = .ok (.iload_n 1, 1) := by decide +kernel
theorem dX12_lists_7 : decode cX12_lists 7 = .ok (.invokevirtual 314, 3) := by decide +kernel
theorem dX12_lists_10 : decode cX12_lists 10 = .ok (.istore_n 3, 1) := by decide +kernel
theorem dX12_lists_11 : decode cX12_lists 11 = .ok (.iload_n 3, 1) := by decide +kernel
theorem dX12_lists_12 : decode cX12_lists 12 = .ok (.ifCond .eq 5, 3) := by decide +kernel
theorem dX12_lists_15 : decode cX12_lists 15 = .ok (.iload_n 3, 1) := by decide +kernel
theorem dX12_lists_16 : decode cX12_lists 16 = .ok (.ireturn, 1) := by decide +kernel
theorem dX12_lists_17 : decode cX12_lists 17 = .ok (.iload_n 2, 1) := by decide +kernel
theorem dX12_lists_18 : decode cX12_lists 18 = .ok (.i2l, 1) := by decide +kernel
theorem dX12_lists_19 : decode cX12_lists 19 = .ok (.lconst 0, 1) := by decide +kernel
theorem dX12_lists_20 : decode cX12_lists 20 = .ok (.aload_n 0, 1) := by decide +kernel
theorem dX12_lists_21 : decode cX12_lists 21 = .ok (.getfield 223, 3) := by decide +kernel
theorem dX12_lists_24 : decode cX12_lists 24 = .ok (.iconst 1, 1) := by decide +kernel
theorem dX12_lists_25 : decode cX12_lists 25 = .ok (.isub, 1) := by decide +kernel
theorem dX12_lists_26 : decode cX12_lists 26 = .ok (.i2l, 1) := by decide +kernel
theorem dX12_lists_27 : decode cX12_lists 27 = .ok (.invokestatic 157, 3) := by decide +kernel
theorem dX12_lists_30 : decode cX12_lists 30 = .ok (.ifCond .ne 6, 3) := by decide +kernel
theorem dX12_lists_33 : decode cX12_lists 33 = .ok (.bipush (-3), 2) := by decide +kernel
theorem dX12_lists_35 : decode cX12_lists 35 = .ok (.ireturn, 1) := by decide +kernel
theorem dX12_lists_36 : decode cX12_lists 36 = .ok (.aload_n 0, 1) := by decide +kernel
theorem dX12_lists_37 : decode cX12_lists 37 = .ok (.getfield 13, 3) := by decide +kernel
theorem dX12_lists_40 : decode cX12_lists 40 = .ok (.iconst 1, 1) := by decide +kernel
theorem dX12_lists_41 : decode cX12_lists 41 = .ok (.iaload, 1) := by decide +kernel
theorem dX12_lists_42 : decode cX12_lists 42 = .ok (.aload_n 0, 1) := by decide +kernel
theorem dX12_lists_43 : decode cX12_lists 43 = .ok (.getfield 82, 3) := by decide +kernel
theorem dX12_lists_46 : decode cX12_lists 46 = .ok (.iload_n 1, 1) := by decide +kernel
theorem dX12_lists_47 : decode cX12_lists 47 = .ok (.iaload, 1) := by decide +kernel
theorem dX12_lists_48 : decode cX12_lists 48 = .ok (.if_icmp .ge 12, 3) := by decide +kernel
theorem dX12_lists_51 : decode cX12_lists 51 = .ok (.aload_n 0, 1) := by decide +kernel
theorem dX12_lists_52 : decode cX12_lists 52 = .ok (.getfield 13, 3) := by decide +kernel
theorem dX12_lists_55 : decode cX12_lists 55 = .ok (.iconst 1, 1) := by decide +kernel
theorem dX12_lists_56 : decode cX12_lists 56 = .ok (.iaload, 1) := by decide +kernel
theorem dX12_lists_57 : decode cX12_lists 57 = .ok (.goto 9, 3) := by decide +kernel
theorem dX12_lists_60 : decode cX12_lists 60 = .ok (.aload_n 0, 1) := by decide +kernel
theorem dX12_lists_61 : decode cX12_lists 61 = .ok (.getfield 82, 3) := by decide +kernel
theorem dX12_lists_64 : decode cX12_lists 64 = .ok (.iload_n 1, 1) := by decide +kernel
theorem dX12_lists_65 : decode cX12_lists 65 = .ok (.iaload, 1) := by decide +kernel
theorem dX12_lists_66 : decode cX12_lists 66 = .ok (.istore 4, 2) := by decide +kernel
theorem dX12_lists_68 : decode cX12_lists 68 = .ok (.iconst 0, 1) := by decide +kernel
theorem dX12_lists_69 : decode cX12_lists 69 = .ok (.istore 5, 2) := by decide +kernel
theorem dX12_lists_71 : decode cX12_lists 71 = .ok (.iload 5, 2) := by decide +kernel
theorem dX12_lists_73 : decode cX12_lists 73 = .ok (.iload 4, 2) := by decide +kernel
theorem dX12_lists_75 : decode cX12_lists 75 = .ok (.if_icmp .ge 29, 3) := by decide +kernel
theorem dX12_lists_78 : decode cX12_lists 78 = .ok (.aload_n 0, 1) := by decide +kernel
theorem dX12_lists_79 : decode cX12_lists 79 = .ok (.getfield 85, 3) := by decide +kernel
theorem dX12_lists_82 : decode cX12_lists 82 = .ok (.bipush 40, 2) := by decide +kernel
theorem dX12_lists_84 : decode cX12_lists 84 = .ok (.iload_n 1, 1) := by decide +kernel
theorem dX12_lists_85 : decode cX12_lists 85 = .ok (.imul, 1) := by decide +kernel
theorem dX12_lists_86 : decode cX12_lists 86 = .ok (.iload 5, 2) := by decide +kernel
theorem dX12_lists_88 : decode cX12_lists 88 = .ok (.iadd, 1) := by decide +kernel
theorem dX12_lists_89 : decode cX12_lists 89 = .ok (.aload_n 0, 1) := by decide +kernel
theorem dX12_lists_90 : decode cX12_lists 90 = .ok (.iload_n 2, 1) := by decide +kernel
theorem dX12_lists_91 : decode cX12_lists 91 = .ok (.iload 5, 2) := by decide +kernel
theorem dX12_lists_93 : decode cX12_lists 93 = .ok (.invokevirtual 251, 3) := by decide +kernel
theorem dX12_lists_96 : decode cX12_lists 96 = .ok (.i2l, 1) := by decide +kernel
theorem dX12_lists_97 : decode cX12_lists 97 = .ok (.lastore, 1) := by decide +kernel
theorem dX12_lists_98 : decode cX12_lists 98 = .ok (.iinc 5 1, 3) := by decide +kernel
theorem dX12_lists_101 : decode cX12_lists 101 = .ok (.goto (-30), 3) := by decide +kernel
theorem dX12_lists_104 : decode cX12_lists 104 = .ok (.iload 4, 2) := by decide +kernel
theorem dX12_lists_106 : decode cX12_lists 106 = .ok (.ireturn, 1) := by decide +kernel
theorem dX12_image_0 : decode cX12_image 0 = .ok (.aload_n 0, 1) := by decide +kernel
theorem dX12_image_1 : decode cX12_image 1 = .ok (.iconst 0, 1) := by decide +kernel
theorem dX12_image_2 : decode cX12_image 2 = .ok (.putfield 1, 3) := by decide +kernel
theorem dX12_image_5 : decode cX12_image 5 = .ok (.iload_n 1, 1) := by decide +kernel
theorem dX12_image_6 : decode cX12_image 6 = .ok (.i2l, 1) := by decide +kernel
theorem dX12_image_7 : decode cX12_image 7 = .ok (.lconst 0, 1) := by decide +kernel
theorem dX12_image_8 : decode cX12_image 8 = .ok (.lconst 1, 1) := by decide +kernel
theorem dX12_image_9 : decode cX12_image 9 = .ok (.invokestatic 157, 3) := by decide +kernel
theorem dX12_image_12 : decode cX12_image 12 = .ok (.ifCond .ne 6, 3) := by decide +kernel
theorem dX12_image_15 : decode cX12_image 15 = .ok (.bipush (-2), 2) := by decide +kernel
theorem dX12_image_17 : decode cX12_image 17 = .ok (.ireturn, 1) := by decide +kernel
theorem dX12_image_18 : decode cX12_image 18 = .ok (.iconst 0, 1) := by decide +kernel
theorem dX12_image_19 : decode cX12_image 19 = .ok (.istore_n 2, 1) := by decide +kernel
theorem dX12_image_20 : decode cX12_image 20 = .ok (.iload_n 2, 1) := by decide +kernel
theorem dX12_image_21 : decode cX12_image 21 = .ok (.sipush 956, 3) := by decide +kernel
theorem dX12_image_24 : decode cX12_image 24 = .ok (.if_icmp .ge 29, 3) := by decide +kernel
theorem dX12_image_27 : decode cX12_image 27 = .ok (.aload_n 0, 1) := by decide +kernel
theorem dX12_image_28 : decode cX12_image 28 = .ok (.getfield 13, 3) := by decide +kernel
theorem dX12_image_31 : decode cX12_image 31 = .ok (.sipush 956, 3) := by decide +kernel
theorem dX12_image_34 : decode cX12_image 34 = .ok (.iload_n 1, 1) := by decide +kernel
theorem dX12_image_35 : decode cX12_image 35 = .ok (.iconst 1, 1) := by decide +kernel
theorem dX12_image_36 : decode cX12_image 36 = .ok (.iadd, 1) := by decide +kernel
theorem dX12_image_37 : decode cX12_image 37 = .ok (.imul, 1) := by decide +kernel
theorem dX12_image_38 : decode cX12_image 38 = .ok (.iload_n 2, 1) := by decide +kernel
theorem dX12_image_39 : decode cX12_image 39 = .ok (.iadd, 1) := by decide +kernel
theorem dX12_image_40 : decode cX12_image 40 = .ok (.aload_n 0, 1) := by decide +kernel
theorem dX12_image_41 : decode cX12_image 41 = .ok (.getfield 13, 3) := by decide +kernel
theorem dX12_image_44 : decode cX12_image 44 = .ok (.iload_n 2, 1) := by decide +kernel
theorem dX12_image_45 : decode cX12_image 45 = .ok (.iaload, 1) := by decide +kernel
theorem dX12_image_46 : decode cX12_image 46 = .ok (.iastore, 1) := by decide +kernel
theorem dX12_image_47 : decode cX12_image 47 = .ok (.iinc 2 1, 3) := by decide +kernel
theorem dX12_image_50 : decode cX12_image 50 = .ok (.goto (-30), 3) := by decide +kernel
theorem dX12_image_53 : decode cX12_image 53 = .ok (.aload_n 0, 1) := by decide +kernel
theorem dX12_image_54 : decode cX12_image 54 = .ok (.getfield 17, 3) := by decide +kernel
theorem dX12_image_57 : decode cX12_image 57 = .ok (.iload_n 1, 1) := by decide +kernel
theorem dX12_image_58 : decode cX12_image 58 = .ok (.iconst 1, 1) := by decide +kernel
theorem dX12_image_59 : decode cX12_image 59 = .ok (.bastore, 1) := by decide +kernel
theorem dX12_image_60 : decode cX12_image 60 = .ok (.iconst 0, 1) := by decide +kernel
theorem dX12_image_61 : decode cX12_image 61 = .ok (.ireturn, 1) := by decide +kernel
theorem dX12_restore_0 : decode cX12_restore 0 = .ok (.aload_n 0, 1) := by decide +kernel
theorem dX12_restore_1 : decode cX12_restore 1 = .ok (.iconst 0, 1) := by decide +kernel
theorem dX12_restore_2 : decode cX12_restore 2 = .ok (.putfield 1, 3) := by decide +kernel
theorem dX12_restore_5 : decode cX12_restore 5 = .ok (.iload_n 1, 1) := by decide +kernel
theorem dX12_restore_6 : decode cX12_restore 6 = .ok (.i2l, 1) := by decide +kernel
theorem dX12_restore_7 : decode cX12_restore 7 = .ok (.lconst 0, 1) := by decide +kernel
theorem dX12_restore_8 : decode cX12_restore 8 = .ok (.lconst 1, 1) := by decide +kernel
theorem dX12_restore_9 : decode cX12_restore 9 = .ok (.invokestatic 157, 3) := by decide +kernel
theorem dX12_restore_12 : decode cX12_restore 12 = .ok (.ifCond .ne 6, 3) := by decide +kernel
theorem dX12_restore_15 : decode cX12_restore 15 = .ok (.bipush (-2), 2) := by decide +kernel
theorem dX12_restore_17 : decode cX12_restore 17 = .ok (.ireturn, 1) := by decide +kernel
theorem dX12_restore_18 : decode cX12_restore 18 = .ok (.aload_n 0, 1) := by decide +kernel
theorem dX12_restore_19 : decode cX12_restore 19 = .ok (.getfield 17, 3) := by decide +kernel
theorem dX12_restore_22 : decode cX12_restore 22 = .ok (.iload_n 1, 1) := by decide +kernel
theorem dX12_restore_23 : decode cX12_restore 23 = .ok (.baload, 1) := by decide +kernel
theorem dX12_restore_24 : decode cX12_restore 24 = .ok (.ifCond .ne 6, 3) := by decide +kernel
theorem dX12_restore_27 : decode cX12_restore 27 = .ok (.bipush (-5), 2) := by decide +kernel
theorem dX12_restore_29 : decode cX12_restore 29 = .ok (.ireturn, 1) := by decide +kernel
theorem dX12_restore_30 : decode cX12_restore 30 = .ok (.iconst 0, 1) := by decide +kernel
theorem dX12_restore_31 : decode cX12_restore 31 = .ok (.istore_n 2, 1) := by decide +kernel
theorem dX12_restore_32 : decode cX12_restore 32 = .ok (.iload_n 2, 1) := by decide +kernel
theorem dX12_restore_33 : decode cX12_restore 33 = .ok (.sipush 956, 3) := by decide +kernel
theorem dX12_restore_36 : decode cX12_restore 36 = .ok (.if_icmp .ge 29, 3) := by decide +kernel
theorem dX12_restore_39 : decode cX12_restore 39 = .ok (.aload_n 0, 1) := by decide +kernel
theorem dX12_restore_40 : decode cX12_restore 40 = .ok (.getfield 13, 3) := by decide +kernel
theorem dX12_restore_43 : decode cX12_restore 43 = .ok (.iload_n 2, 1) := by decide +kernel
theorem dX12_restore_44 : decode cX12_restore 44 = .ok (.aload_n 0, 1) := by decide +kernel
theorem dX12_restore_45 : decode cX12_restore 45 = .ok (.getfield 13, 3) := by decide +kernel
theorem dX12_restore_48 : decode cX12_restore 48 = .ok (.sipush 956, 3) := by decide +kernel
theorem dX12_restore_51 : decode cX12_restore 51 = .ok (.iload_n 1, 1) := by decide +kernel
theorem dX12_restore_52 : decode cX12_restore 52 = .ok (.iconst 1, 1) := by decide +kernel
theorem dX12_restore_53 : decode cX12_restore 53 = .ok (.iadd, 1) := by decide +kernel
theorem dX12_restore_54 : decode cX12_restore 54 = .ok (.imul, 1) := by decide +kernel
theorem dX12_restore_55 : decode cX12_restore 55 = .ok (.iload_n 2, 1) := by decide +kernel
theorem dX12_restore_56 : decode cX12_restore 56 = .ok (.iadd, 1) := by decide +kernel
theorem dX12_restore_57 : decode cX12_restore 57 = .ok (.iaload, 1) := by decide +kernel
theorem dX12_restore_58 : decode cX12_restore 58 = .ok (.iastore, 1) := by decide +kernel
theorem dX12_restore_59 : decode cX12_restore 59 = .ok (.iinc 2 1, 3) := by decide +kernel
theorem dX12_restore_62 : decode cX12_restore 62 = .ok (.goto (-30), 3) := by decide +kernel
theorem dX12_restore_65 : decode cX12_restore 65 = .ok (.aload_n 0, 1) := by decide +kernel
theorem dX12_restore_66 : decode cX12_restore 66 = .ok (.getfield 13, 3) := by decide +kernel
theorem dX12_restore_69 : decode cX12_restore 69 = .ok (.bipush 24, 2) := by decide +kernel
theorem dX12_restore_71 : decode cX12_restore 71 = .ok (.iconst 0, 1) := by decide +kernel
theorem dX12_restore_72 : decode cX12_restore 72 = .ok (.iastore, 1) := by decide +kernel
theorem dX12_restore_73 : decode cX12_restore 73 = .ok (.aload_n 0, 1) := by decide +kernel
theorem dX12_restore_74 : decode cX12_restore 74 = .ok (.invokevirtual 92, 3) := by decide +kernel
theorem dX12_restore_77 : decode cX12_restore 77 = .ok (.iconst 0, 1) := by decide +kernel
theorem dX12_restore_78 : decode cX12_restore 78 = .ok (.ireturn, 1) := by decide +kernel
theorem dX12_count_0 : decode cX12_count 0 = .ok (.aload_n 0, 1) := by decide +kernel
theorem dX12_count_1 : decode cX12_count 1 = .ok (.iconst 0, 1) := by decide +kernel
theorem dX12_count_2 : decode cX12_count 2 = .ok (.putfield 1, 3) := by decide +kernel
theorem dX12_count_5 : decode cX12_count 5 = .ok (.iload_n 1, 1) := by decide +kernel
theorem dX12_count_6 : decode cX12_count 6 = .ok (.tableswitch 113 0 8 #[50, 57, 64, 72, 80, 88, 96, 101, 108], 50) := by decide +kernel
theorem dX12_count_56 : decode cX12_count 56 = .ok (.aload_n 0, 1) := by decide +kernel
theorem dX12_count_57 : decode cX12_count 57 = .ok (.getfield 13, 3) := by decide +kernel
theorem dX12_count_60 : decode cX12_count 60 = .ok (.iconst 1, 1) := by decide +kernel
theorem dX12_count_61 : decode cX12_count 61 = .ok (.iaload, 1) := by decide +kernel
theorem dX12_count_62 : decode cX12_count 62 = .ok (.ireturn, 1) := by decide +kernel
theorem dX12_count_63 : decode cX12_count 63 = .ok (.aload_n 0, 1) := by decide +kernel
theorem dX12_count_64 : decode cX12_count 64 = .ok (.getfield 13, 3) := by decide +kernel
theorem dX12_count_67 : decode cX12_count 67 = .ok (.iconst 2, 1) := by decide +kernel
theorem dX12_count_68 : decode cX12_count 68 = .ok (.iaload, 1) := by decide +kernel
theorem dX12_count_69 : decode cX12_count 69 = .ok (.ireturn, 1) := by decide +kernel
theorem dX12_count_70 : decode cX12_count 70 = .ok (.aload_n 0, 1) := by decide +kernel
theorem dX12_count_71 : decode cX12_count 71 = .ok (.getfield 13, 3) := by decide +kernel
theorem dX12_count_74 : decode cX12_count 74 = .ok (.bipush 22, 2) := by decide +kernel
theorem dX12_count_76 : decode cX12_count 76 = .ok (.iaload, 1) := by decide +kernel
theorem dX12_count_77 : decode cX12_count 77 = .ok (.ireturn, 1) := by decide +kernel
theorem dX12_count_78 : decode cX12_count 78 = .ok (.aload_n 0, 1) := by decide +kernel
theorem dX12_count_79 : decode cX12_count 79 = .ok (.getfield 13, 3) := by decide +kernel
theorem dX12_count_82 : decode cX12_count 82 = .ok (.bipush 23, 2) := by decide +kernel
theorem dX12_count_84 : decode cX12_count 84 = .ok (.iaload, 1) := by decide +kernel
theorem dX12_count_85 : decode cX12_count 85 = .ok (.ireturn, 1) := by decide +kernel
theorem dX12_count_86 : decode cX12_count 86 = .ok (.aload_n 0, 1) := by decide +kernel
theorem dX12_count_87 : decode cX12_count 87 = .ok (.invokevirtual 265, 3) := by decide +kernel
theorem dX12_count_90 : decode cX12_count 90 = .ok (.invokestatic 284, 3) := by decide +kernel
theorem dX12_count_93 : decode cX12_count 93 = .ok (.ireturn, 1) := by decide +kernel
theorem dX12_count_94 : decode cX12_count 94 = .ok (.aload_n 0, 1) := by decide +kernel
theorem dX12_count_95 : decode cX12_count 95 = .ok (.getfield 13, 3) := by decide +kernel
theorem dX12_count_98 : decode cX12_count 98 = .ok (.bipush 24, 2) := by decide +kernel
theorem dX12_count_100 : decode cX12_count 100 = .ok (.iaload, 1) := by decide +kernel
theorem dX12_count_101 : decode cX12_count 101 = .ok (.ireturn, 1) := by decide +kernel
theorem dX12_count_102 : decode cX12_count 102 = .ok (.aload_n 0, 1) := by decide +kernel
theorem dX12_count_103 : decode cX12_count 103 = .ok (.getfield 95, 3) := by decide +kernel
theorem dX12_count_106 : decode cX12_count 106 = .ok (.ireturn, 1) := by decide +kernel
theorem dX12_count_107 : decode cX12_count 107 = .ok (.aload_n 0, 1) := by decide +kernel
theorem dX12_count_108 : decode cX12_count 108 = .ok (.getfield 13, 3) := by decide +kernel
theorem dX12_count_111 : decode cX12_count 111 = .ok (.iconst 0, 1) := by decide +kernel
theorem dX12_count_112 : decode cX12_count 112 = .ok (.iaload, 1) := by decide +kernel
theorem dX12_count_113 : decode cX12_count 113 = .ok (.ireturn, 1) := by decide +kernel
theorem dX12_count_114 : decode cX12_count 114 = .ok (.aload_n 0, 1) := by decide +kernel
theorem dX12_count_115 : decode cX12_count 115 = .ok (.getfield 223, 3) := by decide +kernel
theorem dX12_count_118 : decode cX12_count 118 = .ok (.ireturn, 1) := by decide +kernel
theorem dX12_count_119 : decode cX12_count 119 = .ok (.iconst (-1), 1) := by decide +kernel
theorem dX12_count_120 : decode cX12_count 120 = .ok (.ireturn, 1) := by decide +kernel
