theorem dX12_year_37 : decode cX12_year 37 = .ok (.if_icmp .ge 37, 3) := by decide +kernel
theorem dX12_year_40 : decode cX12_year 40 = .ok (.aload_n 0, 1) := by decide +kernel
theorem dX12_year_41 : decode cX12_year 41 = .ok (.invokevirtual 332, 3) := by decide +kernel
theorem dX12_year_44 : decode cX12_year 44 = .ok (.istore 5, 2) := by decide +kernel
theorem dX12_year_46 : decode cX12_year 46 = .ok (.aload_n 0, 1) := by decide +kernel
theorem dX12_year_47 : decode cX12_year 47 = .ok (.iload 5, 2) := by decide +kernel
theorem dX12_year_49 : decode cX12_year 49 = .ok (.i2l, 1) := by decide +kernel
theorem dX12_year_50 : decode cX12_year 50 = .ok (.invokevirtual 305, 3) := by decide +kernel
theorem dX12_year_53 : decode cX12_year 53 = .ok (.ifCond .eq 6, 3) := by decide +kernel
theorem dX12_year_56 : decode cX12_year 56 = .ok (.goto 12, 3) := by decide +kernel
theorem dX12_year_59 : decode cX12_year 59 = .ok (.aload_n 0, 1) := by decide +kernel
theorem dX12_year_60 : decode cX12_year 60 = .ok (.iload 5, 2) := by decide +kernel
theorem dX12_year_62 : decode cX12_year 62 = .ok (.invokevirtual 309, 3) := by decide +kernel
theorem dX12_year_65 : decode cX12_year 65 = .ok (.iinc 3 1, 3) := by decide +kernel
theorem dX12_year_68 : decode cX12_year 68 = .ok (.iinc 4 1, 3) := by decide +kernel
theorem dX12_year_71 : decode cX12_year 71 = .ok (.goto (-37), 3) := by decide +kernel
theorem dX12_year_74 : decode cX12_year 74 = .ok (.iload_n 3, 1) := by decide +kernel
theorem dX12_year_75 : decode cX12_year 75 = .ok (.ifCond .le 7, 3) := by decide +kernel
theorem dX12_year_78 : decode cX12_year 78 = .ok (.aload_n 0, 1) := by decide +kernel
theorem dX12_year_79 : decode cX12_year 79 = .ok (.invokevirtual 281, 3) := by decide +kernel
theorem dX12_year_82 : decode cX12_year 82 = .ok (.iload_n 3, 1) := by decide +kernel
theorem dX12_year_83 : decode cX12_year 83 = .ok (.ireturn, 1) := by decide +kernel
theorem dX12_roundOf_0 : decode cX12_roundOf 0 = .ok (.iconst 0, 1) := by decide +kernel
theorem dX12_roundOf_1 : decode cX12_roundOf 1 = .ok (.istore_n 3, 1) := by decide +kernel
theorem dX12_roundOf_2 : decode cX12_roundOf 2 = .ok (.iload_n 2, 1) := by decide +kernel
theorem dX12_roundOf_3 : decode cX12_roundOf 3 = .ok (.istore 4, 2) := by decide +kernel
theorem dX12_roundOf_5 : decode cX12_roundOf 5 = .ok (.iload_n 3, 1) := by decide +kernel
theorem dX12_roundOf_6 : decode cX12_roundOf 6 = .ok (.i2l, 1) := by decide +kernel
theorem dX12_roundOf_7 : decode cX12_roundOf 7 = .ok (.iload 4, 2) := by decide +kernel
theorem dX12_roundOf_9 : decode cX12_roundOf 9 = .ok (.invokestatic 230, 3) := by decide +kernel
theorem dX12_roundOf_12 : decode cX12_roundOf 12 = .ok (.ifCond .ne 22, 3) := by decide +kernel
theorem dX12_roundOf_15 : decode cX12_roundOf 15 = .ok (.iload_n 3, 1) := by decide +kernel
theorem dX12_roundOf_16 : decode cX12_roundOf 16 = .ok (.iconst 1, 1) := by decide +kernel
theorem dX12_roundOf_17 : decode cX12_roundOf 17 = .ok (.iload 4, 2) := by decide +kernel
theorem dX12_roundOf_19 : decode cX12_roundOf 19 = .ok (.ishl, 1) := by decide +kernel
theorem dX12_roundOf_20 : decode cX12_roundOf 20 = .ok (.ior, 1) := by decide +kernel
theorem dX12_roundOf_21 : decode cX12_roundOf 21 = .ok (.istore_n 3, 1) := by decide +kernel
theorem dX12_roundOf_22 : decode cX12_roundOf 22 = .ok (.aload_n 0, 1) := by decide +kernel
theorem dX12_roundOf_23 : decode cX12_roundOf 23 = .ok (.iload_n 1, 1) := by decide +kernel
theorem dX12_roundOf_24 : decode cX12_roundOf 24 = .ok (.iload 4, 2) := by decide +kernel
theorem dX12_roundOf_26 : decode cX12_roundOf 26 = .ok (.invokevirtual 251, 3) := by decide +kernel
theorem dX12_roundOf_29 : decode cX12_roundOf 29 = .ok (.istore 4, 2) := by decide +kernel
theorem dX12_roundOf_31 : decode cX12_roundOf 31 = .ok (.goto (-26), 3) := by decide +kernel
theorem dX12_roundOf_34 : decode cX12_roundOf 34 = .ok (.iload_n 3, 1) := by decide +kernel
theorem dX12_roundOf_35 : decode cX12_roundOf 35 = .ok (.ireturn, 1) := by decide +kernel
theorem dX12_common_0 : decode cX12_common 0 = .ok (.iload_n 1, 1) := by decide +kernel
theorem dX12_common_1 : decode cX12_common 1 = .ok (.ifCond .ne 7, 3) := by decide +kernel
theorem dX12_common_4 : decode cX12_common 4 = .ok (.iload_n 0, 1) := by decide +kernel
theorem dX12_common_5 : decode cX12_common 5 = .ok (.goto 10, 3) := by decide +kernel
theorem dX12_common_8 : decode cX12_common 8 = .ok (.iload_n 1, 1) := by decide +kernel
theorem dX12_common_9 : decode cX12_common 9 = .ok (.iload_n 0, 1) := by decide +kernel
theorem dX12_common_10 : decode cX12_common 10 = .ok (.iload_n 1, 1) := by decide +kernel
theorem dX12_common_11 : decode cX12_common 11 = .ok (.irem, 1) := by decide +kernel
theorem dX12_common_12 : decode cX12_common 12 = .ok (.invokestatic 335, 3) := by decide +kernel
theorem dX12_common_15 : decode cX12_common 15 = .ok (.ireturn, 1) := by decide +kernel
theorem dX12_orderOf_0 : decode cX12_orderOf 0 = .ok (.iconst 1, 1) := by decide +kernel
theorem dX12_orderOf_1 : decode cX12_orderOf 1 = .ok (.istore_n 2, 1) := by decide +kernel
theorem dX12_orderOf_2 : decode cX12_orderOf 2 = .ok (.iconst 0, 1) := by decide +kernel
theorem dX12_orderOf_3 : decode cX12_orderOf 3 = .ok (.istore_n 3, 1) := by decide +kernel
theorem dX12_orderOf_4 : decode cX12_orderOf 4 = .ok (.iload_n 3, 1) := by decide +kernel
theorem dX12_orderOf_5 : decode cX12_orderOf 5 = .ok (.aload_n 0, 1) := by decide +kernel
theorem dX12_orderOf_6 : decode cX12_orderOf 6 = .ok (.getfield 13, 3) := by decide +kernel
theorem dX12_orderOf_9 : decode cX12_orderOf 9 = .ok (.iconst 1, 1) := by decide +kernel
theorem dX12_orderOf_10 : decode cX12_orderOf 10 = .ok (.iaload, 1) := by decide +kernel
theorem dX12_orderOf_11 : decode cX12_orderOf 11 = .ok (.if_icmp .ge 32, 3) := by decide +kernel
theorem dX12_orderOf_14 : decode cX12_orderOf 14 = .ok (.aload_n 0, 1) := by decide +kernel
theorem dX12_orderOf_15 : decode cX12_orderOf 15 = .ok (.iload_n 1, 1) := by decide +kernel
theorem dX12_orderOf_16 : decode cX12_orderOf 16 = .ok (.iload_n 3, 1) := by decide +kernel
theorem dX12_orderOf_17 : decode cX12_orderOf 17 = .ok (.invokevirtual 338, 3) := by decide +kernel
theorem dX12_orderOf_20 : decode cX12_orderOf 20 = .ok (.invokestatic 284, 3) := by decide +kernel
theorem dX12_orderOf_23 : decode cX12_orderOf 23 = .ok (.istore 4, 2) := by decide +kernel
theorem dX12_orderOf_25 : decode cX12_orderOf 25 = .ok (.iload_n 2, 1) := by decide +kernel
theorem dX12_orderOf_26 : decode cX12_orderOf 26 = .ok (.iload_n 2, 1) := by decide +kernel
theorem dX12_orderOf_27 : decode cX12_orderOf 27 = .ok (.iload 4, 2) := by decide +kernel
theorem dX12_orderOf_29 : decode cX12_orderOf 29 = .ok (.invokestatic 335, 3) := by decide +kernel
theorem dX12_orderOf_32 : decode cX12_orderOf 32 = .ok (.idiv, 1) := by decide +kernel
theorem dX12_orderOf_33 : decode cX12_orderOf 33 = .ok (.iload 4, 2) := by decide +kernel
theorem dX12_orderOf_35 : decode cX12_orderOf 35 = .ok (.imul, 1) := by decide +kernel
theorem dX12_orderOf_36 : decode cX12_orderOf 36 = .ok (.istore_n 2, 1) := by decide +kernel
theorem dX12_orderOf_37 : decode cX12_orderOf 37 = .ok (.iinc 3 1, 3) := by decide +kernel
theorem dX12_orderOf_40 : decode cX12_orderOf 40 = .ok (.goto (-36), 3) := by decide +kernel
theorem dX12_orderOf_43 : decode cX12_orderOf 43 = .ok (.iload_n 2, 1) := by decide +kernel
theorem dX12_orderOf_44 : decode cX12_orderOf 44 = .ok (.ireturn, 1) := by decide +kernel
theorem dX12_powerOf_0 : decode cX12_powerOf 0 = .ok (.iconst 0, 1) := by decide +kernel
theorem dX12_powerOf_1 : decode cX12_powerOf 1 = .ok (.istore_n 3, 1) := by decide +kernel
theorem dX12_powerOf_2 : decode cX12_powerOf 2 = .ok (.iload_n 3, 1) := by decide +kernel
theorem dX12_powerOf_3 : decode cX12_powerOf 3 = .ok (.aload_n 0, 1) := by decide +kernel
theorem dX12_powerOf_4 : decode cX12_powerOf 4 = .ok (.getfield 13, 3) := by decide +kernel
theorem dX12_powerOf_7 : decode cX12_powerOf 7 = .ok (.iconst 1, 1) := by decide +kernel
theorem dX12_powerOf_8 : decode cX12_powerOf 8 = .ok (.iaload, 1) := by decide +kernel
theorem dX12_powerOf_9 : decode cX12_powerOf 9 = .ok (.if_icmp .ge 44, 3) := by decide +kernel
theorem dX12_powerOf_12 : decode cX12_powerOf 12 = .ok (.iload_n 3, 1) := by decide +kernel
theorem dX12_powerOf_13 : decode cX12_powerOf 13 = .ok (.istore 4, 2) := by decide +kernel
theorem dX12_powerOf_15 : decode cX12_powerOf 15 = .ok (.iconst 0, 1) := by decide +kernel
theorem dX12_powerOf_16 : decode cX12_powerOf 16 = .ok (.istore 5, 2) := by decide +kernel
theorem dX12_powerOf_18 : decode cX12_powerOf 18 = .ok (.iload 5, 2) := by decide +kernel
theorem dX12_powerOf_20 : decode cX12_powerOf 20 = .ok (.iload_n 2, 1) := by decide +kernel
theorem dX12_powerOf_21 : decode cX12_powerOf 21 = .ok (.if_icmp .ge 18, 3) := by decide +kernel
theorem dX12_powerOf_24 : decode cX12_powerOf 24 = .ok (.aload_n 0, 1) := by decide +kernel
theorem dX12_powerOf_25 : decode cX12_powerOf 25 = .ok (.iload_n 1, 1) := by decide +kernel
theorem dX12_powerOf_26 : decode cX12_powerOf 26 = .ok (.iload 4, 2) := by decide +kernel
theorem dX12_powerOf_28 : decode cX12_powerOf 28 = .ok (.invokevirtual 251, 3) := by decide +kernel
theorem dX12_powerOf_31 : decode cX12_powerOf 31 = .ok (.istore 4, 2) := by decide +kernel
theorem dX12_powerOf_33 : decode cX12_powerOf 33 = .ok (.iinc 5 1, 3) := by decide +kernel
theorem dX12_powerOf_36 : decode cX12_powerOf 36 = .ok (.goto (-18), 3) := by decide +kernel
theorem dX12_powerOf_39 : decode cX12_powerOf 39 = .ok (.aload_n 0, 1) := by decide +kernel
theorem dX12_powerOf_40 : decode cX12_powerOf 40 = .ok (.getfield 33, 3) := by decide +kernel
theorem dX12_powerOf_43 : decode cX12_powerOf 43 = .ok (.iload_n 3, 1) := by decide +kernel
theorem dX12_powerOf_44 : decode cX12_powerOf 44 = .ok (.iload 4, 2) := by decide +kernel
theorem dX12_powerOf_46 : decode cX12_powerOf 46 = .ok (.iastore, 1) := by decide +kernel
theorem dX12_powerOf_47 : decode cX12_powerOf 47 = .ok (.iinc 3 1, 3) := by decide +kernel
theorem dX12_powerOf_50 : decode cX12_powerOf 50 = .ok (.goto (-48), 3) := by decide +kernel
theorem dX12_powerOf_53 : decode cX12_powerOf 53 = .ok (.aload_n 0, 1) := by decide +kernel
theorem dX12_powerOf_54 : decode cX12_powerOf 54 = .ok (.invokevirtual 220, 3) := by decide +kernel
theorem dX12_powerOf_57 : decode cX12_powerOf 57 = .ok (.ireturn, 1) := by decide +kernel
theorem dX12_lies_0 : decode cX12_lies 0 = .ok (.aload_n 0, 1) := by decide +kernel
theorem dX12_lies_1 : decode cX12_lies 1 = .ok (.iconst 0, 1) := by decide +kernel
theorem dX12_lies_2 : decode cX12_lies 2 = .ok (.putfield 1, 3) := by decide +kernel
theorem dX12_lies_5 : decode cX12_lies 5 = .ok (.iload_n 1, 1) := by decide +kernel
theorem dX12_lies_6 : decode cX12_lies 6 = .ok (.i2l, 1) := by decide +kernel
theorem dX12_lies_7 : decode cX12_lies 7 = .ok (.lconst 0, 1) := by decide +kernel
theorem dX12_lies_8 : decode cX12_lies 8 = .ok (.ldc2_w 341, 3) := by decide +kernel
theorem dX12_lies_11 : decode cX12_lies 11 = .ok (.invokestatic 157, 3) := by decide +kernel
theorem dX12_lies_14 : decode cX12_lies 14 = .ok (.ifCond .ne 6, 3) := by decide +kernel
theorem dX12_lies_17 : decode cX12_lies 17 = .ok (.bipush (-2), 2) := by decide +kernel
theorem dX12_lies_19 : decode cX12_lies 19 = .ok (.ireturn, 1) := by decide +kernel
theorem dX12_lies_20 : decode cX12_lies 20 = .ok (.aload_n 0, 1) := by decide +kernel
theorem dX12_lies_21 : decode cX12_lies 21 = .ok (.getfield 13, 3) := by decide +kernel
theorem dX12_lies_24 : decode cX12_lies 24 = .ok (.bipush 21, 2) := by decide +kernel
theorem dX12_lies_26 : decode cX12_lies 26 = .ok (.iaload, 1) := by decide +kernel
theorem dX12_lies_27 : decode cX12_lies 27 = .ok (.istore_n 2, 1) := by decide +kernel
theorem dX12_lies_28 : decode cX12_lies 28 = .ok (.iload_n 1, 1) := by decide +kernel
theorem dX12_lies_29 : decode cX12_lies 29 = .ok (.ifCond .ne 5, 3) := by decide +kernel
theorem dX12_lies_32 : decode cX12_lies 32 = .ok (.iload_n 2, 1) := by decide +kernel
theorem dX12_lies_33 : decode cX12_lies 33 = .ok (.ireturn, 1) := by decide +kernel
theorem dX12_lies_34 : decode cX12_lies 34 = .ok (.iload_n 1, 1) := by decide +kernel
theorem dX12_lies_35 : decode cX12_lies 35 = .ok (.iconst 4, 1) := by decide +kernel
theorem dX12_lies_36 : decode cX12_lies 36 = .ok (.if_icmp .ne 9, 3) := by decide +kernel
theorem dX12_lies_39 : decode cX12_lies 39 = .ok (.aload_n 0, 1) := by decide +kernel
theorem dX12_lies_40 : decode cX12_lies 40 = .ok (.iload_n 2, 1) := by decide +kernel
theorem dX12_lies_41 : decode cX12_lies 41 = .ok (.invokevirtual 343, 3) := by decide +kernel
theorem dX12_lies_44 : decode cX12_lies 44 = .ok (.ireturn, 1) := by decide +kernel
theorem dX12_lies_45 : decode cX12_lies 45 = .ok (.iconst 0, 1) := by decide +kernel
theorem dX12_lies_46 : decode cX12_lies 46 = .ok (.istore_n 3, 1) := by decide +kernel
theorem dX12_lies_47 : decode cX12_lies 47 = .ok (.iconst 0, 1) := by decide +kernel
theorem dX12_lies_48 : decode cX12_lies 48 = .ok (.istore 4, 2) := by decide +kernel
theorem dX12_lies_50 : decode cX12_lies 50 = .ok (.iconst 0, 1) := by decide +kernel
theorem dX12_lies_51 : decode cX12_lies 51 = .ok (.istore 5, 2) := by decide +kernel
theorem dX12_lies_53 : decode cX12_lies 53 = .ok (.iconst 0, 1) := by decide +kernel
theorem dX12_lies_54 : decode cX12_lies 54 = .ok (.istore 6, 2) := by decide +kernel
theorem dX12_lies_56 : decode cX12_lies 56 = .ok (.iconst 0, 1) := by decide +kernel
theorem dX12_lies_57 : decode cX12_lies 57 = .ok (.istore 7, 2) := by decide +kernel
theorem dX12_lies_59 : decode cX12_lies 59 = .ok (.iload 7, 2) := by decide +kernel
theorem dX12_lies_61 : decode cX12_lies 61 = .ok (.aload_n 0, 1) := by decide +kernel
theorem dX12_lies_62 : decode cX12_lies 62 = .ok (.getfield 13, 3) := by decide +kernel
theorem dX12_lies_65 : decode cX12_lies 65 = .ok (.iconst 1, 1) := by decide +kernel
theorem dX12_lies_66 : decode cX12_lies 66 = .ok (.iaload, 1) := by decide +kernel
theorem dX12_lies_67 : decode cX12_lies 67 = .ok (.if_icmp .ge 133, 3) := by decide +kernel
theorem dX12_lies_70 : decode cX12_lies 70 = .ok (.aload_n 0, 1) := by decide +kernel
theorem dX12_lies_71 : decode cX12_lies 71 = .ok (.iload_n 2, 1) := by decide +kernel
theorem dX12_lies_72 : decode cX12_lies 72 = .ok (.iload 7, 2) := by decide +kernel
theorem dX12_lies_74 : decode cX12_lies 74 = .ok (.invokevirtual 338, 3) := by decide +kernel
theorem dX12_lies_77 : decode cX12_lies 77 = .ok (.istore 8, 2) := by decide +kernel
theorem dX12_lies_79 : decode cX12_lies 79 = .ok (.iload_n 3, 1) := by decide +kernel
theorem dX12_lies_80 : decode cX12_lies 80 = .ok (.iload 8, 2) := by decide +kernel
theorem dX12_lies_82 : decode cX12_lies 82 = .ok (.iload 7, 2) := by decide +kernel
theorem dX12_lies_84 : decode cX12_lies 84 = .ok (.ishr, 1) := by decide +kernel
theorem dX12_lies_85 : decode cX12_lies 85 = .ok (.iload 7, 2) := by decide +kernel
theorem dX12_lies_87 : decode cX12_lies 87 = .ok (.ishl, 1) := by decide +kernel
theorem dX12_lies_88 : decode cX12_lies 88 = .ok (.iload 8, 2) := by decide +kernel
theorem dX12_lies_90 : decode cX12_lies 90 = .ok (.if_icmp .ne 7, 3) := by decide +kernel
theorem dX12_lies_93 : decode cX12_lies 93 = .ok (.iconst 1, 1) := by decide +kernel
theorem dX12_lies_94 : decode cX12_lies 94 = .ok (.goto 4, 3) := by decide +kernel
theorem dX12_lies_97 : decode cX12_lies 97 = .ok (.iconst 0, 1) := by decide +kernel
theorem dX12_lies_98 : decode cX12_lies 98 = .ok (.iadd, 1) := by decide +kernel
theorem dX12_lies_99 : decode cX12_lies 99 = .ok (.istore_n 3, 1) := by decide +kernel
theorem dX12_lies_100 : decode cX12_lies 100 = .ok (.iload 8, 2) := by decide +kernel
theorem dX12_lies_102 : decode cX12_lies 102 = .ok (.invokestatic 284, 3) := by decide +kernel
theorem dX12_lies_105 : decode cX12_lies 105 = .ok (.iload 4, 2) := by decide +kernel
theorem dX12_lies_107 : decode cX12_lies 107 = .ok (.if_icmp .le 11, 3) := by decide +kernel
theorem dX12_lies_110 : decode cX12_lies 110 = .ok (.iload 8, 2) := by decide +kernel
theorem dX12_lies_112 : decode cX12_lies 112 = .ok (.invokestatic 284, 3) := by decide +kernel
theorem dX12_lies_115 : decode cX12_lies 115 = .ok (.goto 5, 3) := by decide +kernel
theorem dX12_lies_118 : decode cX12_lies 118 = .ok (.iload 4, 2) := by decide +kernel
theorem dX12_lies_120 : decode cX12_lies 120 = .ok (.istore 4, 2) := by decide +kernel
theorem dX12_lies_122 : decode cX12_lies 122 = .ok (.iload 5, 2) := by decide +kernel
theorem dX12_lies_124 : decode cX12_lies 124 = .ok (.aload_n 0, 1) := by decide +kernel
theorem dX12_lies_125 : decode cX12_lies 125 = .ok (.iload_n 2, 1) := by decide +kernel
theorem dX12_lies_126 : decode cX12_lies 126 = .ok (.iload 7, 2) := by decide +kernel
theorem dX12_lies_128 : decode cX12_lies 128 = .ok (.invokevirtual 251, 3) := by decide +kernel
theorem dX12_lies_131 : decode cX12_lies 131 = .ok (.iload 7, 2) := by decide +kernel
theorem dX12_lies_133 : decode cX12_lies 133 = .ok (.if_icmp .ne 7, 3) := by decide +kernel
theorem dX12_lies_136 : decode cX12_lies 136 = .ok (.iconst 1, 1) := by decide +kernel
theorem dX12_lies_137 : decode cX12_lies 137 = .ok (.goto 4, 3) := by decide +kernel
theorem dX12_lies_140 : decode cX12_lies 140 = .ok (.iconst 0, 1) := by decide +kernel
theorem dX12_lies_141 : decode cX12_lies 141 = .ok (.iadd, 1) := by decide +kernel
theorem dX12_lies_142 : decode cX12_lies 142 = .ok (.istore 5, 2) := by decide +kernel
theorem dX12_lies_144 : decode cX12_lies 144 = .ok (.iload 7, 2) := by decide +kernel
theorem dX12_lies_146 : decode cX12_lies 146 = .ok (.iconst 1, 1) := by decide +kernel
theorem dX12_lies_147 : decode cX12_lies 147 = .ok (.iadd, 1) := by decide +kernel
theorem dX12_lies_148 : decode cX12_lies 148 = .ok (.istore 9, 2) := by decide +kernel
theorem dX12_lies_150 : decode cX12_lies 150 = .ok (.iload 9, 2) := by decide +kernel
theorem dX12_lies_152 : decode cX12_lies 152 = .ok (.aload_n 0, 1) := by decide +kernel
theorem dX12_lies_153 : decode cX12_lies 153 = .ok (.getfield 13, 3) := by decide +kernel
theorem dX12_lies_156 : decode cX12_lies 156 = .ok (.iconst 1, 1) := by decide +kernel
theorem dX12_lies_157 : decode cX12_lies 157 = .ok (.iaload, 1) := by decide +kernel
theorem dX12_lies_158 : decode cX12_lies 158 = .ok (.if_icmp .ge 36, 3) := by decide +kernel
theorem dX12_lies_161 : decode cX12_lies 161 = .ok (.iload 6, 2) := by decide +kernel
theorem dX12_lies_163 : decode cX12_lies 163 = .ok (.aload_n 0, 1) := by decide +kernel
theorem dX12_lies_164 : decode cX12_lies 164 = .ok (.iload_n 2, 1) := by decide +kernel
theorem dX12_lies_165 : decode cX12_lies 165 = .ok (.iload 7, 2) := by decide +kernel
theorem dX12_lies_167 : decode cX12_lies 167 = .ok (.invokevirtual 251, 3) := by decide +kernel
theorem dX12_lies_170 : decode cX12_lies 170 = .ok (.aload_n 0, 1) := by decide +kernel
theorem dX12_lies_171 : decode cX12_lies 171 = .ok (.iload_n 2, 1) := by decide +kernel
theorem dX12_lies_172 : decode cX12_lies 172 = .ok (.iload 9, 2) := by decide +kernel
theorem dX12_lies_174 : decode cX12_lies 174 = .ok (.invokevirtual 251, 3) := by decide +kernel
theorem dX12_lies_177 : decode cX12_lies 177 = .ok (.if_icmp .le 7, 3) := by decide +kernel
theorem dX12_lies_180 : decode cX12_lies 180 = .ok (.iconst 1, 1) := by decide +kernel
theorem dX12_lies_181 : decode cX12_lies 181 = .ok (.goto 4, 3) := by decide +kernel
theorem dX12_lies_184 : decode cX12_lies 184 = .ok (.iconst 0, 1) := by decide +kernel
theorem dX12_lies_185 : decode cX12_lies 185 = .ok (.iadd, 1) := by decide +kernel
theorem dX12_lies_186 : decode cX12_lies 186 = .ok (.istore 6, 2) := by decide +kernel
theorem dX12_lies_188 : decode cX12_lies 188 = .ok (.iinc 9 1, 3) := by decide +kernel
theorem dX12_lies_191 : decode cX12_lies 191 = .ok (.goto (-41), 3) := by decide +kernel
theorem dX12_lies_194 : decode cX12_lies 194 = .ok (.iinc 7 1, 3) := by decide +kernel
theorem dX12_lies_197 : decode cX12_lies 197 = .ok (.goto (-138), 3) := by decide +kernel
theorem dX12_lies_200 : decode cX12_lies 200 = .ok (.iload_n 1, 1) := by decide +kernel
theorem dX12_lies_201 : decode cX12_lies 201 = .ok (.iconst 1, 1) := by decide +kernel
theorem dX12_lies_202 : decode cX12_lies 202 = .ok (.if_icmp .ne 7, 3) := by decide +kernel
theorem dX12_lies_205 : decode cX12_lies 205 = .ok (.iload_n 3, 1) := by decide +kernel
theorem dX12_lies_206 : decode cX12_lies 206 = .ok (.goto 25, 3) := by decide +kernel
theorem dX12_lies_209 : decode cX12_lies 209 = .ok (.iload_n 1, 1) := by decide +kernel
theorem dX12_lies_210 : decode cX12_lies 210 = .ok (.iconst 2, 1) := by decide +kernel
theorem dX12_lies_211 : decode cX12_lies 211 = .ok (.if_icmp .ne 8, 3) := by decide +kernel
theorem dX12_lies_214 : decode cX12_lies 214 = .ok (.iload 4, 2) := by decide +kernel
theorem dX12_lies_216 : decode cX12_lies 216 = .ok (.goto 15, 3) := by decide +kernel
theorem dX12_lies_219 : decode cX12_lies 219 = .ok (.iload_n 1, 1) := by decide +kernel
theorem dX12_lies_220 : decode cX12_lies 220 = .ok (.iconst 3, 1) := by decide +kernel
theorem dX12_lies_221 : decode cX12_lies 221 = .ok (.if_icmp .ne 8, 3) := by decide +kernel
theorem dX12_lies_224 : decode cX12_lies 224 = .ok (.iload 5, 2) := by decide +kernel
theorem dX12_lies_226 : decode cX12_lies 226 = .ok (.goto 5, 3) := by decide +kernel
theorem dX12_lies_229 : decode cX12_lies 229 = .ok (.iload 6, 2) := by decide +kernel
theorem dX12_lies_231 : decode cX12_lies 231 = .ok (.ireturn, 1) := by decide +kernel
theorem dX12_round_0 : decode cX12_round 0 = .ok (.aload_n 0, 1) := by decide +kernel
theorem dX12_round_1 : decode cX12_round 1 = .ok (.iconst 0, 1) := by decide +kernel
theorem dX12_round_2 : decode cX12_round 2 = .ok (.putfield 1, 3) := by decide +kernel
theorem dX12_round_5 : decode cX12_round 5 = .ok (.aload_n 0, 1) := by decide +kernel
theorem dX12_round_6 : decode cX12_round 6 = .ok (.iload_n 1, 1) := by decide +kernel
theorem dX12_round_7 : decode cX12_round 7 = .ok (.i2l, 1) := by decide +kernel
theorem dX12_round_8 : decode cX12_round 8 = .ok (.invokevirtual 261, 3) := by decide +kernel
theorem dX12_round_11 : decode cX12_round 11 = .ok (.ifCond .eq 13, 3) := by decide +kernel
theorem dX12_round_14 : decode cX12_round 14 = .ok (.iload_n 2, 1) := by decide +kernel
theorem dX12_round_15 : decode cX12_round 15 = .ok (.i2l, 1) := by decide +kernel
theorem dX12_round_16 : decode cX12_round 16 = .ok (.lconst 0, 1) := by decide +kernel
theorem dX12_round_17 : decode cX12_round 17 = .ok (.lconst 1, 1) := by decide +kernel
theorem dX12_round_18 : decode cX12_round 18 = .ok (.invokestatic 157, 3) := by decide +kernel
theorem dX12_round_21 : decode cX12_round 21 = .ok (.ifCond .ne 6, 3) := by decide +kernel
theorem dX12_round_24 : decode cX12_round 24 = .ok (.bipush (-2), 2) := by decide +kernel
theorem dX12_round_26 : decode cX12_round 26 = .ok (.ireturn, 1) := by decide +kernel
theorem dX12_round_27 : decode cX12_round 27 = .ok (.aload_n 0, 1) := by decide +kernel
theorem dX12_round_28 : decode cX12_round 28 = .ok (.aload_n 0, 1) := by decide +kernel
theorem dX12_round_29 : decode cX12_round 29 = .ok (.getfield 13, 3) := by decide +kernel
theorem dX12_round_32 : decode cX12_round 32 = .ok (.bipush 21, 2) := by decide +kernel
theorem dX12_round_34 : decode cX12_round 34 = .ok (.iaload, 1) := by decide +kernel
theorem dX12_round_35 : decode cX12_round 35 = .ok (.iload_n 1, 1) := by decide +kernel
theorem dX12_round_36 : decode cX12_round 36 = .ok (.invokevirtual 338, 3) := by decide +kernel
theorem dX12_round_39 : decode cX12_round 39 = .ok (.istore_n 3, 1) := by decide +kernel
theorem dX12_round_40 : decode cX12_round 40 = .ok (.iload_n 2, 1) := by decide +kernel
theorem dX12_round_41 : decode cX12_round 41 = .ok (.ifCond .ne 10, 3) := by decide +kernel
theorem dX12_round_44 : decode cX12_round 44 = .ok (.iload_n 3, 1) := by decide +kernel
theorem dX12_round_45 : decode cX12_round 45 = .ok (.invokestatic 284, 3) := by decide +kernel
theorem dX12_round_48 : decode cX12_round 48 = .ok (.goto 4, 3) := by decide +kernel
theorem dX12_round_51 : decode cX12_round 51 = .ok (.iload_n 3, 1) := by decide +kernel
theorem dX12_round_52 : decode cX12_round 52 = .ok (.ireturn, 1) := by decide +kernel
theorem dX12_power_0 : decode cX12_power 0 = .ok (.aload_n 0, 1) := by decide +kernel
theorem dX12_power_1 : decode cX12_power 1 = .ok (.iconst 0, 1) := by decide +kernel
theorem dX12_power_2 : decode cX12_power 2 = .ok (.putfield 1, 3) := by decide +kernel
theorem dX12_power_5 : decode cX12_power 5 = .ok (.lload_n 1, 1) := by decide +kernel
theorem dX12_power_6 : decode cX12_power 6 = .ok (.lconst 0, 1) := by decide +kernel
theorem dX12_power_7 : decode cX12_power 7 = .ok (.ldc2_w 346, 3) := by decide +kernel
theorem dX12_power_10 : decode cX12_power 10 = .ok (.invokestatic 157, 3) := by decide +kernel
theorem dX12_power_13 : decode cX12_power 13 = .ok (.ifCond .eq 32, 3) := by decide +kernel
theorem dX12_power_16 : decode cX12_power 16 = .ok (.aload_n 0, 1) := by decide +kernel
theorem dX12_power_17 : decode cX12_power 17 = .ok (.aload_n 0, 1) := by decide +kernel
theorem dX12_power_18 : decode cX12_power 18 = .ok (.getfield 13, 3) := by decide +kernel
theorem dX12_power_21 : decode cX12_power 21 = .ok (.bipush 21, 2) := by decide +kernel
theorem dX12_power_23 : decode cX12_power 23 = .ok (.iaload, 1) := by decide +kernel
theorem dX12_power_24 : decode cX12_power 24 = .ok (.lload_n 1, 1) := by decide +kernel
theorem dX12_power_25 : decode cX12_power 25 = .ok (.aload_n 0, 1) := by decide +kernel
theorem dX12_power_26 : decode cX12_power 26 = .ok (.aload_n 0, 1) := by decide +kernel
theorem dX12_power_27 : decode cX12_power 27 = .ok (.getfield 13, 3) := by decide +kernel
theorem dX12_power_30 : decode cX12_power 30 = .ok (.bipush 21, 2) := by decide +kernel
theorem dX12_power_32 : decode cX12_power 32 = .ok (.iaload, 1) := by decide +kernel
theorem dX12_power_33 : decode cX12_power 33 = .ok (.invokevirtual 343, 3) := by decide +kernel
theorem dX12_power_36 : decode cX12_power 36 = .ok (.i2l, 1) := by decide +kernel
theorem dX12_power_37 : decode cX12_power 37 = .ok (.lrem, 1) := by decide +kernel
theorem dX12_power_38 : decode cX12_power 38 = .ok (.l2i, 1) := by decide +kernel
theorem dX12_power_39 : decode cX12_power 39 = .ok (.invokevirtual 348, 3) := by decide +kernel
theorem dX12_power_42 : decode cX12_power 42 = .ok (.goto 5, 3) := by decide +kernel
theorem dX12_power_45 : decode cX12_power 45 = .ok (.bipush (-3), 2) := by decide +kernel
theorem dX12_power_47 : decode cX12_power 47 = .ok (.ireturn, 1) := by decide +kernel
theorem dX12_roots_0 : decode cX12_roots 0 = .ok (.aload_n 0, 1) := by decide +kernel
theorem dX12_roots_1 : decode cX12_roots 1 = .ok (.iconst 0, 1) := by decide +kernel
theorem dX12_roots_2 : decode cX12_roots 2 = .ok (.putfield 1, 3) := by decide +kernel
theorem dX12_roots_5 : decode cX12_roots 5 = .ok (.iload_n 1, 1) := by decide +kernel
theorem dX12_roots_6 : decode cX12_roots 6 = .ok (.i2l, 1) := by decide +kernel
theorem dX12_roots_7 : decode cX12_roots 7 = .ok (.lconst 1, 1) := by decide +kernel
theorem dX12_roots_8 : decode cX12_roots 8 = .ok (.ldc2_w 292, 3) := by decide +kernel
theorem dX12_roots_11 : decode cX12_roots 11 = .ok (.invokestatic 157, 3) := by decide +kernel
theorem dX12_roots_14 : decode cX12_roots 14 = .ok (.ifCond .ne 6, 3) := by decide +kernel
theorem dX12_roots_17 : decode cX12_roots 17 = .ok (.bipush (-3), 2) := by decide +kernel
theorem dX12_roots_19 : decode cX12_roots 19 = .ok (.ireturn, 1) := by decide +kernel
theorem dX12_roots_20 : decode cX12_roots 20 = .ok (.iconst 0, 1) := by decide +kernel
theorem dX12_roots_21 : decode cX12_roots 21 = .ok (.istore_n 2, 1) := by decide +kernel
theorem dX12_roots_22 : decode cX12_roots 22 = .ok (.iconst 0, 1) := by decide +kernel
theorem dX12_roots_23 : decode cX12_roots 23 = .ok (.istore_n 3, 1) := by decide +kernel
theorem dX12_roots_24 : decode cX12_roots 24 = .ok (.iload_n 3, 1) := by decide +kernel
theorem dX12_roots_25 : decode cX12_roots 25 = .ok (.aload_n 0, 1) := by decide +kernel
theorem dX12_roots_26 : decode cX12_roots 26 = .ok (.getfield 223, 3) := by decide +kernel
theorem dX12_roots_29 : decode cX12_roots 29 = .ok (.if_icmp .ge 33, 3) := by decide +kernel
theorem dX12_roots_32 : decode cX12_roots 32 = .ok (.iload_n 2, 1) := by decide +kernel
theorem dX12_roots_33 : decode cX12_roots 33 = .ok (.aload_n 0, 1) := by decide +kernel
theorem dX12_roots_34 : decode cX12_roots 34 = .ok (.iload_n 3, 1) := by decide +kernel
theorem dX12_roots_35 : decode cX12_roots 35 = .ok (.iload_n 1, 1) := by decide +kernel
theorem dX12_roots_36 : decode cX12_roots 36 = .ok (.invokevirtual 348, 3) := by decide +kernel
theorem dX12_roots_39 : decode cX12_roots 39 = .ok (.aload_n 0, 1) := by decide +kernel
theorem dX12_roots_40 : decode cX12_roots 40 = .ok (.getfield 13, 3) := by decide +kernel
theorem dX12_roots_43 : decode cX12_roots 43 = .ok (.bipush 21, 2) := by decide +kernel
theorem dX12_roots_45 : decode cX12_roots 45 = .ok (.iaload, 1) := by decide +kernel
theorem dX12_roots_46 : decode cX12_roots 46 = .ok (.if_icmp .ne 7, 3) := by decide +kernel
theorem dX12_roots_49 : decode cX12_roots 49 = .ok (.iconst 1, 1) := by decide +kernel
theorem dX12_roots_50 : decode cX12_roots 50 = .ok (.goto 4, 3) := by decide +kernel
theorem dX12_roots_53 : decode cX12_roots 53 = .ok (.iconst 0, 1) := by decide +kernel
theorem dX12_roots_54 : decode cX12_roots 54 = .ok (.iadd, 1) := by decide +kernel
theorem dX12_roots_55 : decode cX12_roots 55 = .ok (.istore_n 2, 1) := by decide +kernel
theorem dX12_roots_56 : decode cX12_roots 56 = .ok (.iinc 3 1, 3) := by decide +kernel
theorem dX12_roots_59 : decode cX12_roots 59 = .ok (.goto (-35), 3) := by decide +kernel
theorem dX12_roots_62 : decode cX12_roots 62 = .ok (.iload_n 2, 1) := by decide +kernel
theorem dX12_roots_63 : decode cX12_roots 63 = .ok (.ireturn, 1) := by decide +kernel
theorem dX12_bounded_0 : decode cX12_bounded 0 = .ok (.aload_n 0, 1) := by decide +kernel
theorem dX12_bounded_1 : decode cX12_bounded 1 = .ok (.iconst 0, 1) := by decide +kernel
theorem dX12_bounded_2 : decode cX12_bounded 2 = .ok (.putfield 1, 3) := by decide +kernel
theorem dX12_bounded_5 : decode cX12_bounded 5 = .ok (.iload_n 1, 1) := by decide +kernel
theorem dX12_bounded_6 : decode cX12_bounded 6 = .ok (.i2l, 1) := by decide +kernel
theorem dX12_bounded_7 : decode cX12_bounded 7 = .ok (.lconst 1, 1) := by decide +kernel
theorem dX12_bounded_8 : decode cX12_bounded 8 = .ok (.ldc2_w 351, 3) := by decide +kernel
theorem dX12_bounded_11 : decode cX12_bounded 11 = .ok (.invokestatic 157, 3) := by decide +kernel
theorem dX12_bounded_14 : decode cX12_bounded 14 = .ok (.ifCond .eq 15, 3) := by decide +kernel
theorem dX12_bounded_17 : decode cX12_bounded 17 = .ok (.iload_n 2, 1) := by decide +kernel
theorem dX12_bounded_18 : decode cX12_bounded 18 = .ok (.i2l, 1) := by decide +kernel
theorem dX12_bounded_19 : decode cX12_bounded 19 = .ok (.lconst 1, 1) := by decide +kernel
theorem dX12_bounded_20 : decode cX12_bounded 20 = .ok (.ldc2_w 351, 3) := by decide +kernel
theorem dX12_bounded_23 : decode cX12_bounded 23 = .ok (.invokestatic 157, 3) := by decide +kernel
theorem dX12_bounded_26 : decode cX12_bounded 26 = .ok (.ifCond .ne 7, 3) := by decide +kernel
theorem dX12_bounded_29 : decode cX12_bounded 29 = .ok (.ldc2_w 353, 3) := by decide +kernel
theorem dX12_bounded_32 : decode cX12_bounded 32 = .ok (.lreturn, 1) := by decide +kernel
theorem dX12_bounded_33 : decode cX12_bounded 33 = .ok (.aload_n 0, 1) := by decide +kernel
theorem dX12_bounded_34 : decode cX12_bounded 34 = .ok (.getfield 48, 3) := by decide +kernel
theorem dX12_bounded_37 : decode cX12_bounded 37 = .ok (.iconst 0, 1) := by decide +kernel
theorem dX12_bounded_38 : decode cX12_bounded 38 = .ok (.lconst 1, 1) := by decide +kernel
theorem dX12_bounded_39 : decode cX12_bounded 39 = .ok (.lastore, 1) := by decide +kernel
theorem dX12_bounded_40 : decode cX12_bounded 40 = .ok (.iconst 1, 1) := by decide +kernel
theorem dX12_bounded_41 : decode cX12_bounded 41 = .ok (.istore_n 3, 1) := by decide +kernel
theorem dX12_bounded_42 : decode cX12_bounded 42 = .ok (.iload_n 3, 1) := by decide +kernel
theorem dX12_bounded_43 : decode cX12_bounded 43 = .ok (.iload_n 1, 1) := by decide +kernel
theorem dX12_bounded_44 : decode cX12_bounded 44 = .ok (.if_icmp .gt 71, 3) := by decide +kernel
theorem dX12_bounded_47 : decode cX12_bounded 47 = .ok (.lconst 0, 1) := by decide +kernel
theorem dX12_bounded_48 : decode cX12_bounded 48 = .ok (.lstore 4, 2) := by decide +kernel
theorem dX12_bounded_50 : decode cX12_bounded 50 = .ok (.lconst 1, 1) := by decide +kernel
theorem dX12_bounded_51 : decode cX12_bounded 51 = .ok (.lstore 6, 2) := by decide +kernel
theorem dX12_bounded_53 : decode cX12_bounded 53 = .ok (.iconst 1, 1) := by decide +kernel
theorem dX12_bounded_54 : decode cX12_bounded 54 = .ok (.istore 8, 2) := by decide +kernel
theorem dX12_bounded_56 : decode cX12_bounded 56 = .ok (.iload 8, 2) := by decide +kernel
theorem dX12_bounded_58 : decode cX12_bounded 58 = .ok (.iload_n 2, 1) := by decide +kernel
theorem dX12_bounded_59 : decode cX12_bounded 59 = .ok (.if_icmp .gt 42, 3) := by decide +kernel
theorem dX12_bounded_62 : decode cX12_bounded 62 = .ok (.iload 8, 2) := by decide +kernel
theorem dX12_bounded_64 : decode cX12_bounded 64 = .ok (.iload_n 3, 1) := by decide +kernel
theorem dX12_bounded_65 : decode cX12_bounded 65 = .ok (.if_icmp .gt 36, 3) := by decide +kernel
theorem dX12_bounded_68 : decode cX12_bounded 68 = .ok (.lload 4, 2) := by decide +kernel
theorem dX12_bounded_70 : decode cX12_bounded 70 = .ok (.lload 6, 2) := by decide +kernel
theorem dX12_bounded_72 : decode cX12_bounded 72 = .ok (.aload_n 0, 1) := by decide +kernel
theorem dX12_bounded_73 : decode cX12_bounded 73 = .ok (.getfield 48, 3) := by decide +kernel
theorem dX12_bounded_76 : decode cX12_bounded 76 = .ok (.iload_n 3, 1) := by decide +kernel
theorem dX12_bounded_77 : decode cX12_bounded 77 = .ok (.iload 8, 2) := by decide +kernel
theorem dX12_bounded_79 : decode cX12_bounded 79 = .ok (.isub, 1) := by decide +kernel
theorem dX12_bounded_80 : decode cX12_bounded 80 = .ok (.laload, 1) := by decide +kernel
theorem dX12_bounded_81 : decode cX12_bounded 81 = .ok (.lmul, 1) := by decide +kernel
theorem dX12_bounded_82 : decode cX12_bounded 82 = .ok (.ladd, 1) := by decide +kernel
theorem dX12_bounded_83 : decode cX12_bounded 83 = .ok (.lstore 4, 2) := by decide +kernel
theorem dX12_bounded_85 : decode cX12_bounded 85 = .ok (.lload 6, 2) := by decide +kernel
theorem dX12_bounded_87 : decode cX12_bounded 87 = .ok (.iload_n 3, 1) := by decide +kernel
theorem dX12_bounded_88 : decode cX12_bounded 88 = .ok (.iload 8, 2) := by decide +kernel
theorem dX12_bounded_90 : decode cX12_bounded 90 = .ok (.isub, 1) := by decide +kernel
theorem dX12_bounded_91 : decode cX12_bounded 91 = .ok (.i2l, 1) := by decide +kernel
theorem dX12_bounded_92 : decode cX12_bounded 92 = .ok (.lmul, 1) := by decide +kernel
theorem dX12_bounded_93 : decode cX12_bounded 93 = .ok (.lstore 6, 2) := by decide +kernel
theorem dX12_bounded_95 : decode cX12_bounded 95 = .ok (.iinc 8 1, 3) := by decide +kernel
theorem dX12_bounded_98 : decode cX12_bounded 98 = .ok (.goto (-42), 3) := by decide +kernel
theorem dX12_bounded_101 : decode cX12_bounded 101 = .ok (.aload_n 0, 1) := by decide +kernel
theorem dX12_bounded_102 : decode cX12_bounded 102 = .ok (.getfield 48, 3) := by decide +kernel
theorem dX12_bounded_105 : decode cX12_bounded 105 = .ok (.iload_n 3, 1) := by decide +kernel
theorem dX12_bounded_106 : decode cX12_bounded 106 = .ok (.lload 4, 2) := by decide +kernel
theorem dX12_bounded_108 : decode cX12_bounded 108 = .ok (.lastore, 1) := by decide +kernel
theorem dX12_bounded_109 : decode cX12_bounded 109 = .ok (.iinc 3 1, 3) := by decide +kernel
theorem dX12_bounded_112 : decode cX12_bounded 112 = .ok (.goto (-70), 3) := by decide +kernel
theorem dX12_bounded_115 : decode cX12_bounded 115 = .ok (.aload_n 0, 1) := by decide +kernel
theorem dX12_bounded_116 : decode cX12_bounded 116 = .ok (.getfield 48, 3) := by decide +kernel
theorem dX12_bounded_119 : decode cX12_bounded 119 = .ok (.iload_n 1, 1) := by decide +kernel
theorem dX12_bounded_120 : decode cX12_bounded 120 = .ok (.laload, 1) := by decide +kernel
theorem dX12_bounded_121 : decode cX12_bounded 121 = .ok (.lreturn, 1) := by decide +kernel
theorem dX12_laysLet_0 : decode cX12_laysLet 0 = .ok (.iconst 0, 1) := by decide +kernel
theorem dX12_laysLet_1 : decode cX12_laysLet 1 = .ok (.istore_n 1, 1) := by decide +kernel
theorem dX12_laysLet_2 : decode cX12_laysLet 2 = .ok (.iload_n 1, 1) := by decide +kernel
theorem dX12_laysLet_3 : decode cX12_laysLet 3 = .ok (.aload_n 0, 1) := by decide +kernel
theorem dX12_laysLet_4 : decode cX12_laysLet 4 = .ok (.getfield 223, 3) := by decide +kernel
theorem dX12_laysLet_7 : decode cX12_laysLet 7 = .ok (.if_icmp .ge 27, 3) := by decide +kernel
theorem dX12_laysLet_10 : decode cX12_laysLet 10 = .ok (.aload_n 0, 1) := by decide +kernel
theorem dX12_laysLet_11 : decode cX12_laysLet 11 = .ok (.getfield 55, 3) := by decide +kernel
theorem dX12_laysLet_14 : decode cX12_laysLet 14 = .ok (.iload_n 1, 1) := by decide +kernel
theorem dX12_laysLet_15 : decode cX12_laysLet 15 = .ok (.aload_n 0, 1) := by decide +kernel
theorem dX12_laysLet_16 : decode cX12_laysLet 16 = .ok (.iload_n 1, 1) := by decide +kernel
theorem dX12_laysLet_17 : decode cX12_laysLet 17 = .ok (.aload_n 0, 1) := by decide +kernel
theorem dX12_laysLet_18 : decode cX12_laysLet 18 = .ok (.getfield 13, 3) := by decide +kernel
theorem dX12_laysLet_21 : decode cX12_laysLet 21 = .ok (.bipush 22, 2) := by decide +kernel
theorem dX12_laysLet_23 : decode cX12_laysLet 23 = .ok (.iaload, 1) := by decide +kernel
theorem dX12_laysLet_24 : decode cX12_laysLet 24 = .ok (.invokevirtual 258, 3) := by decide +kernel
theorem dX12_laysLet_27 : decode cX12_laysLet 27 = .ok (.iastore, 1) := by decide +kernel
theorem dX12_laysLet_28 : decode cX12_laysLet 28 = .ok (.iinc 1 1, 3) := by decide +kernel
theorem dX12_laysLet_31 : decode cX12_laysLet 31 = .ok (.goto (-29), 3) := by decide +kernel
theorem dX12_laysLet_34 : decode cX12_laysLet 34 = .ok (.return_, 1) := by decide +kernel
theorem dX12_laysThen_0 : decode cX12_laysThen 0 = .ok (.aload_n 0, 1) := by decide +kernel
theorem dX12_laysThen_1 : decode cX12_laysThen 1 = .ok (.invokevirtual 355, 3) := by decide +kernel
theorem dX12_laysThen_4 : decode cX12_laysThen 4 = .ok (.aload_n 0, 1) := by decide +kernel
theorem dX12_laysThen_5 : decode cX12_laysThen 5 = .ok (.iconst 0, 1) := by decide +kernel
theorem dX12_laysThen_6 : decode cX12_laysThen 6 = .ok (.putfield 358, 3) := by decide +kernel
theorem dX12_laysThen_9 : decode cX12_laysThen 9 = .ok (.iconst 0, 1) := by decide +kernel
theorem dX12_laysThen_10 : decode cX12_laysThen 10 = .ok (.istore_n 1, 1) := by decide +kernel
theorem dX12_laysThen_11 : decode cX12_laysThen 11 = .ok (.iload_n 1, 1) := by decide +kernel
theorem dX12_laysThen_12 : decode cX12_laysThen 12 = .ok (.aload_n 0, 1) := by decide +kernel
theorem dX12_laysThen_13 : decode cX12_laysThen 13 = .ok (.getfield 13, 3) := by decide +kernel
theorem dX12_laysThen_16 : decode cX12_laysThen 16 = .ok (.iconst 1, 1) := by decide +kernel
theorem dX12_laysThen_17 : decode cX12_laysThen 17 = .ok (.iaload, 1) := by decide +kernel
theorem dX12_laysThen_18 : decode cX12_laysThen 18 = .ok (.if_icmp .ge 54, 3) := by decide +kernel
theorem dX12_laysThen_21 : decode cX12_laysThen 21 = .ok (.iload_n 1, 1) := by decide +kernel
theorem dX12_laysThen_22 : decode cX12_laysThen 22 = .ok (.iconst 1, 1) := by decide +kernel
theorem dX12_laysThen_23 : decode cX12_laysThen 23 = .ok (.iadd, 1) := by decide +kernel
theorem dX12_laysThen_24 : decode cX12_laysThen 24 = .ok (.istore_n 2, 1) := by decide +kernel
theorem dX12_laysThen_25 : decode cX12_laysThen 25 = .ok (.iload_n 2, 1) := by decide +kernel
theorem dX12_laysThen_26 : decode cX12_laysThen 26 = .ok (.aload_n 0, 1) := by decide +kernel
theorem dX12_laysThen_27 : decode cX12_laysThen 27 = .ok (.getfield 13, 3) := by decide +kernel
theorem dX12_laysThen_30 : decode cX12_laysThen 30 = .ok (.iconst 1, 1) := by decide +kernel
theorem dX12_laysThen_31 : decode cX12_laysThen 31 = .ok (.iaload, 1) := by decide +kernel
theorem dX12_laysThen_32 : decode cX12_laysThen 32 = .ok (.if_icmp .ge 34, 3) := by decide +kernel
theorem dX12_laysThen_35 : decode cX12_laysThen 35 = .ok (.aload_n 0, 1) := by decide +kernel
theorem dX12_laysThen_36 : decode cX12_laysThen 36 = .ok (.getfield 52, 3) := by decide +kernel
theorem dX12_laysThen_39 : decode cX12_laysThen 39 = .ok (.aload_n 0, 1) := by decide +kernel
theorem dX12_laysThen_40 : decode cX12_laysThen 40 = .ok (.getfield 358, 3) := by decide +kernel
theorem dX12_laysThen_43 : decode cX12_laysThen 43 = .ok (.bipush 10, 2) := by decide +kernel
theorem dX12_laysThen_45 : decode cX12_laysThen 45 = .ok (.iload_n 1, 1) := by decide +kernel
theorem dX12_laysThen_46 : decode cX12_laysThen 46 = .ok (.imul, 1) := by decide +kernel
theorem dX12_laysThen_47 : decode cX12_laysThen 47 = .ok (.iload_n 2, 1) := by decide +kernel
theorem dX12_laysThen_48 : decode cX12_laysThen 48 = .ok (.iadd, 1) := by decide +kernel
theorem dX12_laysThen_49 : decode cX12_laysThen 49 = .ok (.iastore, 1) := by decide +kernel
theorem dX12_laysThen_50 : decode cX12_laysThen 50 = .ok (.aload_n 0, 1) := by decide +kernel
theorem dX12_laysThen_51 : decode cX12_laysThen 51 = .ok (.dup, 1) := by decide +kernel
theorem dX12_laysThen_52 : decode cX12_laysThen 52 = .ok (.getfield 358, 3) := by decide +kernel
theorem dX12_laysThen_55 : decode cX12_laysThen 55 = .ok (.iconst 1, 1) := by decide +kernel
theorem dX12_laysThen_56 : decode cX12_laysThen 56 = .ok (.iadd, 1) := by decide +kernel
theorem dX12_laysThen_57 : decode cX12_laysThen 57 = .ok (.putfield 358, 3) := by decide +kernel
theorem dX12_laysThen_60 : decode cX12_laysThen 60 = .ok (.iinc 2 1, 3) := by decide +kernel
theorem dX12_laysThen_63 : decode cX12_laysThen 63 = .ok (.goto (-38), 3) := by decide +kernel
theorem dX12_laysThen_66 : decode cX12_laysThen 66 = .ok (.iinc 1 1, 3) := by decide +kernel
theorem dX12_laysThen_69 : decode cX12_laysThen 69 = .ok (.goto (-58), 3) := by decide +kernel
theorem dX12_laysThen_72 : decode cX12_laysThen 72 = .ok (.iconst 0, 1) := by decide +kernel
theorem dX12_laysThen_73 : decode cX12_laysThen 73 = .ok (.istore_n 1, 1) := by decide +kernel
theorem dX12_laysThen_74 : decode cX12_laysThen 74 = .ok (.iload_n 1, 1) := by decide +kernel
theorem dX12_laysThen_75 : decode cX12_laysThen 75 = .ok (.aload_n 0, 1) := by decide +kernel
theorem dX12_laysThen_76 : decode cX12_laysThen 76 = .ok (.getfield 223, 3) := by decide +kernel
theorem dX12_laysThen_79 : decode cX12_laysThen 79 = .ok (.if_icmp .ge 59, 3) := by decide +kernel
theorem dX12_laysThen_82 : decode cX12_laysThen 82 = .ok (.iconst 0, 1) := by decide +kernel
theorem dX12_laysThen_83 : decode cX12_laysThen 83 = .ok (.istore_n 2, 1) := by decide +kernel
theorem dX12_laysThen_84 : decode cX12_laysThen 84 = .ok (.iload_n 2, 1) := by decide +kernel
theorem dX12_laysThen_85 : decode cX12_laysThen 85 = .ok (.aload_n 0, 1) := by decide +kernel
theorem dX12_laysThen_86 : decode cX12_laysThen 86 = .ok (.getfield 358, 3) := by decide +kernel
theorem dX12_laysThen_89 : decode cX12_laysThen 89 = .ok (.if_icmp .ge 43, 3) := by decide +kernel
theorem dX12_laysThen_92 : decode cX12_laysThen 92 = .ok (.aload_n 0, 1) := by decide +kernel
theorem dX12_laysThen_93 : decode cX12_laysThen 93 = .ok (.getfield 58, 3) := by decide +kernel
theorem dX12_laysThen_96 : decode cX12_laysThen 96 = .ok (.bipush 15, 2) := by decide +kernel
theorem dX12_laysThen_98 : decode cX12_laysThen 98 = .ok (.iload_n 1, 1) := by decide +kernel
theorem dX12_laysThen_99 : decode cX12_laysThen 99 = .ok (.imul, 1) := by decide +kernel
theorem dX12_laysThen_100 : decode cX12_laysThen 100 = .ok (.iload_n 2, 1) := by decide +kernel
theorem dX12_laysThen_101 : decode cX12_laysThen 101 = .ok (.iadd, 1) := by decide +kernel
theorem dX12_laysThen_102 : decode cX12_laysThen 102 = .ok (.aload_n 0, 1) := by decide +kernel
theorem dX12_laysThen_103 : decode cX12_laysThen 103 = .ok (.iload_n 1, 1) := by decide +kernel
theorem dX12_laysThen_104 : decode cX12_laysThen 104 = .ok (.aload_n 0, 1) := by decide +kernel
theorem dX12_laysThen_105 : decode cX12_laysThen 105 = .ok (.getfield 52, 3) := by decide +kernel
theorem dX12_laysThen_108 : decode cX12_laysThen 108 = .ok (.iload_n 2, 1) := by decide +kernel
theorem dX12_laysThen_109 : decode cX12_laysThen 109 = .ok (.iaload, 1) := by decide +kernel
theorem dX12_laysThen_110 : decode cX12_laysThen 110 = .ok (.bipush 10, 2) := by decide +kernel
theorem dX12_laysThen_112 : decode cX12_laysThen 112 = .ok (.idiv, 1) := by decide +kernel
theorem dX12_laysThen_113 : decode cX12_laysThen 113 = .ok (.aload_n 0, 1) := by decide +kernel
theorem dX12_laysThen_114 : decode cX12_laysThen 114 = .ok (.getfield 52, 3) := by decide +kernel
theorem dX12_laysThen_117 : decode cX12_laysThen 117 = .ok (.iload_n 2, 1) := by decide +kernel
theorem dX12_laysThen_118 : decode cX12_laysThen 118 = .ok (.iaload, 1) := by decide +kernel
theorem dX12_laysThen_119 : decode cX12_laysThen 119 = .ok (.bipush 10, 2) := by decide +kernel
theorem dX12_laysThen_121 : decode cX12_laysThen 121 = .ok (.irem, 1) := by decide +kernel
theorem dX12_laysThen_122 : decode cX12_laysThen 122 = .ok (.invokevirtual 278, 3) := by decide +kernel
theorem dX12_laysThen_125 : decode cX12_laysThen 125 = .ok (.iastore, 1) := by decide +kernel
theorem dX12_laysThen_126 : decode cX12_laysThen 126 = .ok (.iinc 2 1, 3) := by decide +kernel
theorem dX12_laysThen_129 : decode cX12_laysThen 129 = .ok (.goto (-45), 3) := by decide +kernel
theorem dX12_laysThen_132 : decode cX12_laysThen 132 = .ok (.iinc 1 1, 3) := by decide +kernel
theorem dX12_laysThen_135 : decode cX12_laysThen 135 = .ok (.goto (-61), 3) := by decide +kernel
theorem dX12_laysThen_138 : decode cX12_laysThen 138 = .ok (.return_, 1) := by decide +kernel
theorem dX12_isAim_0 : decode cX12_isAim 0 = .ok (.iload_n 0, 1) := by decide +kernel
theorem dX12_isAim_1 : decode cX12_isAim 1 = .ok (.i2l, 1) := by decide +kernel
theorem dX12_isAim_2 : decode cX12_isAim 2 = .ok (.lconst 0, 1) := by decide +kernel
theorem dX12_isAim_3 : decode cX12_isAim 3 = .ok (.lconst 1, 1) := by decide +kernel
theorem dX12_isAim_4 : decode cX12_isAim 4 = .ok (.invokestatic 157, 3) := by decide +kernel
theorem dX12_isAim_7 : decode cX12_isAim 7 = .ok (.ireturn, 1) := by decide +kernel
theorem dX12_isSo_0 : decode cX12_isSo 0 = .ok (.aload_n 0, 1) := by decide +kernel
theorem dX12_isSo_1 : decode cX12_isSo 1 = .ok (.getfield 55, 3) := by decide +kernel
theorem dX12_isSo_4 : decode cX12_isSo 4 = .ok (.iload_n 1, 1) := by decide +kernel
theorem dX12_isSo_5 : decode cX12_isSo 5 = .ok (.iaload, 1) := by decide +kernel
theorem dX12_isSo_6 : decode cX12_isSo 6 = .ok (.iload_n 2, 1) := by decide +kernel
theorem dX12_isSo_7 : decode cX12_isSo 7 = .ok (.ifCond .ne 16, 3) := by decide +kernel
theorem dX12_isSo_10 : decode cX12_isSo 10 = .ok (.iconst 1, 1) := by decide +kernel
theorem dX12_isSo_11 : decode cX12_isSo 11 = .ok (.aload_n 0, 1) := by decide +kernel
theorem dX12_isSo_12 : decode cX12_isSo 12 = .ok (.getfield 13, 3) := by decide +kernel
theorem dX12_isSo_15 : decode cX12_isSo 15 = .ok (.iconst 1, 1) := by decide +kernel
theorem dX12_isSo_16 : decode cX12_isSo 16 = .ok (.iaload, 1) := by decide +kernel
theorem dX12_isSo_17 : decode cX12_isSo 17 = .ok (.ishl, 1) := by decide +kernel
theorem dX12_isSo_18 : decode cX12_isSo 18 = .ok (.iconst 1, 1) := by decide +kernel
theorem dX12_isSo_19 : decode cX12_isSo 19 = .ok (.isub, 1) := by decide +kernel
theorem dX12_isSo_20 : decode cX12_isSo 20 = .ok (.goto 4, 3) := by decide +kernel
theorem dX12_isSo_23 : decode cX12_isSo 23 = .ok (.iconst 0, 1) := by decide +kernel
theorem dX12_isSo_24 : decode cX12_isSo 24 = .ok (.if_icmp .ne 7, 3) := by decide +kernel
theorem dX12_isSo_27 : decode cX12_isSo 27 = .ok (.iconst 1, 1) := by decide +kernel
theorem dX12_isSo_28 : decode cX12_isSo 28 = .ok (.goto 4, 3) := by decide +kernel
theorem dX12_isSo_31 : decode cX12_isSo 31 = .ok (.iconst 0, 1) := by decide +kernel
theorem dX12_isSo_32 : decode cX12_isSo 32 = .ok (.ireturn, 1) := by decide +kernel
theorem dX12_laysFar_0 : decode cX12_laysFar 0 = .ok (.aload_n 0, 1) := by decide +kernel
theorem dX12_laysFar_1 : decode cX12_laysFar 1 = .ok (.invokevirtual 361, 3) := by decide +kernel
theorem dX12_laysFar_4 : decode cX12_laysFar 4 = .ok (.iconst 0, 1) := by decide +kernel
theorem dX12_laysFar_5 : decode cX12_laysFar 5 = .ok (.istore_n 2, 1) := by decide +kernel
theorem dX12_laysFar_6 : decode cX12_laysFar 6 = .ok (.iload_n 2, 1) := by decide +kernel
theorem dX12_laysFar_7 : decode cX12_laysFar 7 = .ok (.aload_n 0, 1) := by decide +kernel
theorem dX12_laysFar_8 : decode cX12_laysFar 8 = .ok (.getfield 223, 3) := by decide +kernel
theorem dX12_laysFar_11 : decode cX12_laysFar 11 = .ok (.if_icmp .ge 31, 3) := by decide +kernel
theorem dX12_laysFar_14 : decode cX12_laysFar 14 = .ok (.aload_n 0, 1) := by decide +kernel
theorem dX12_laysFar_15 : decode cX12_laysFar 15 = .ok (.getfield 61, 3) := by decide +kernel
theorem dX12_laysFar_18 : decode cX12_laysFar 18 = .ok (.iload_n 2, 1) := by decide +kernel
theorem dX12_laysFar_19 : decode cX12_laysFar 19 = .ok (.aload_n 0, 1) := by decide +kernel
theorem dX12_laysFar_20 : decode cX12_laysFar 20 = .ok (.iload_n 2, 1) := by decide +kernel
theorem dX12_laysFar_21 : decode cX12_laysFar 21 = .ok (.iload_n 1, 1) := by decide +kernel
theorem dX12_laysFar_22 : decode cX12_laysFar 22 = .ok (.invokevirtual 364, 3) := by decide +kernel
theorem dX12_laysFar_25 : decode cX12_laysFar 25 = .ok (.ifCond .eq 7, 3) := by decide +kernel
theorem dX12_laysFar_28 : decode cX12_laysFar 28 = .ok (.iconst 0, 1) := by decide +kernel
theorem dX12_laysFar_29 : decode cX12_laysFar 29 = .ok (.goto 6, 3) := by decide +kernel
theorem dX12_laysFar_32 : decode cX12_laysFar 32 = .ok (.ldc_w 368, 3) := by decide +kernel
theorem dX12_laysFar_35 : decode cX12_laysFar 35 = .ok (.iastore, 1) := by decide +kernel
theorem dX12_laysFar_36 : decode cX12_laysFar 36 = .ok (.iinc 2 1, 3) := by decide +kernel
theorem dX12_laysFar_39 : decode cX12_laysFar 39 = .ok (.goto (-33), 3) := by decide +kernel
theorem dX12_laysFar_42 : decode cX12_laysFar 42 = .ok (.iconst 1, 1) := by decide +kernel
theorem dX12_laysFar_43 : decode cX12_laysFar 43 = .ok (.istore_n 2, 1) := by decide +kernel
theorem dX12_laysFar_44 : decode cX12_laysFar 44 = .ok (.iload_n 2, 1) := by decide +kernel
theorem dX12_laysFar_45 : decode cX12_laysFar 45 = .ok (.ifCond .eq 97, 3) := by decide +kernel
theorem dX12_laysFar_48 : decode cX12_laysFar 48 = .ok (.iconst 0, 1) := by decide +kernel
theorem dX12_laysFar_49 : decode cX12_laysFar 49 = .ok (.istore_n 2, 1) := by decide +kernel
theorem dX12_laysFar_50 : decode cX12_laysFar 50 = .ok (.iconst 0, 1) := by decide +kernel
theorem dX12_laysFar_51 : decode cX12_laysFar 51 = .ok (.istore_n 3, 1) := by decide +kernel
theorem dX12_laysFar_52 : decode cX12_laysFar 52 = .ok (.iload_n 3, 1) := by decide +kernel
theorem dX12_laysFar_53 : decode cX12_laysFar 53 = .ok (.aload_n 0, 1) := by decide +kernel
theorem dX12_laysFar_54 : decode cX12_laysFar 54 = .ok (.getfield 223, 3) := by decide +kernel
theorem dX12_laysFar_57 : decode cX12_laysFar 57 = .ok (.if_icmp .ge 82, 3) := by decide +kernel
theorem dX12_laysFar_60 : decode cX12_laysFar 60 = .ok (.iconst 0, 1) := by decide +kernel
theorem dX12_laysFar_61 : decode cX12_laysFar 61 = .ok (.istore 4, 2) := by decide +kernel
theorem dX12_laysFar_63 : decode cX12_laysFar 63 = .ok (.iload 4, 2) := by decide +kernel
theorem dX12_laysFar_65 : decode cX12_laysFar 65 = .ok (.aload_n 0, 1) := by decide +kernel
theorem dX12_laysFar_66 : decode cX12_laysFar 66 = .ok (.getfield 358, 3) := by decide +kernel
theorem dX12_laysFar_69 : decode cX12_laysFar 69 = .ok (.if_icmp .ge 64, 3) := by decide +kernel
theorem dX12_laysFar_72 : decode cX12_laysFar 72 = .ok (.aload_n 0, 1) := by decide +kernel
theorem dX12_laysFar_73 : decode cX12_laysFar 73 = .ok (.getfield 61, 3) := by decide +kernel
theorem dX12_laysFar_76 : decode cX12_laysFar 76 = .ok (.aload_n 0, 1) := by decide +kernel
theorem dX12_laysFar_77 : decode cX12_laysFar 77 = .ok (.getfield 58, 3) := by decide +kernel
theorem dX12_laysFar_80 : decode cX12_laysFar 80 = .ok (.bipush 15, 2) := by decide +kernel
theorem dX12_laysFar_82 : decode cX12_laysFar 82 = .ok (.iload_n 3, 1) := by decide +kernel
theorem dX12_laysFar_83 : decode cX12_laysFar 83 = .ok (.imul, 1) := by decide +kernel
theorem dX12_laysFar_84 : decode cX12_laysFar 84 = .ok (.iload 4, 2) := by decide +kernel
theorem dX12_laysFar_86 : decode cX12_laysFar 86 = .ok (.iadd, 1) := by decide +kernel
theorem dX12_laysFar_87 : decode cX12_laysFar 87 = .ok (.iaload, 1) := by decide +kernel
theorem dX12_laysFar_88 : decode cX12_laysFar 88 = .ok (.iaload, 1) := by decide +kernel
theorem dX12_laysFar_89 : decode cX12_laysFar 89 = .ok (.istore 5, 2) := by decide +kernel
theorem dX12_laysFar_91 : decode cX12_laysFar 91 = .ok (.iload 5, 2) := by decide +kernel
theorem dX12_laysFar_93 : decode cX12_laysFar 93 = .ok (.ldc_w 368, 3) := by decide +kernel
theorem dX12_laysFar_96 : decode cX12_laysFar 96 = .ok (.if_icmp .eq 31, 3) := by decide +kernel
theorem dX12_laysFar_99 : decode cX12_laysFar 99 = .ok (.iload 5, 2) := by decide +kernel
theorem dX12_laysFar_101 : decode cX12_laysFar 101 = .ok (.iconst 1, 1) := by decide +kernel
theorem dX12_laysFar_102 : decode cX12_laysFar 102 = .ok (.iadd, 1) := by decide +kernel
theorem dX12_laysFar_103 : decode cX12_laysFar 103 = .ok (.aload_n 0, 1) := by decide +kernel
theorem dX12_laysFar_104 : decode cX12_laysFar 104 = .ok (.getfield 61, 3) := by decide +kernel
theorem dX12_laysFar_107 : decode cX12_laysFar 107 = .ok (.iload_n 3, 1) := by decide +kernel
theorem dX12_laysFar_108 : decode cX12_laysFar 108 = .ok (.iaload, 1) := by decide +kernel
theorem dX12_laysFar_109 : decode cX12_laysFar 109 = .ok (.if_icmp .lt 6, 3) := by decide +kernel
theorem dX12_laysFar_112 : decode cX12_laysFar 112 = .ok (.goto 15, 3) := by decide +kernel
theorem dX12_laysFar_115 : decode cX12_laysFar 115 = .ok (.aload_n 0, 1) := by decide +kernel
theorem dX12_laysFar_116 : decode cX12_laysFar 116 = .ok (.getfield 61, 3) := by decide +kernel
theorem dX12_laysFar_119 : decode cX12_laysFar 119 = .ok (.iload_n 3, 1) := by decide +kernel
theorem dX12_laysFar_120 : decode cX12_laysFar 120 = .ok (.iload 5, 2) := by decide +kernel
theorem dX12_laysFar_122 : decode cX12_laysFar 122 = .ok (.iconst 1, 1) := by decide +kernel
theorem dX12_laysFar_123 : decode cX12_laysFar 123 = .ok (.iadd, 1) := by decide +kernel
theorem dX12_laysFar_124 : decode cX12_laysFar 124 = .ok (.iastore, 1) := by decide +kernel
theorem dX12_laysFar_125 : decode cX12_laysFar 125 = .ok (.iconst 1, 1) := by decide +kernel
theorem dX12_laysFar_126 : decode cX12_laysFar 126 = .ok (.istore_n 2, 1) := by decide +kernel
theorem dX12_laysFar_127 : decode cX12_laysFar 127 = .ok (.iinc 4 1, 3) := by decide +kernel
theorem dX12_laysFar_130 : decode cX12_laysFar 130 = .ok (.goto (-67), 3) := by decide +kernel
theorem dX12_laysFar_133 : decode cX12_laysFar 133 = .ok (.iinc 3 1, 3) := by decide +kernel
theorem dX12_laysFar_136 : decode cX12_laysFar 136 = .ok (.goto (-84), 3) := by decide +kernel
theorem dX12_laysFar_139 : decode cX12_laysFar 139 = .ok (.goto (-95), 3) := by decide +kernel
theorem dX12_laysFar_142 : decode cX12_laysFar 142 = .ok (.aload_n 0, 1) := by decide +kernel
theorem dX12_laysFar_143 : decode cX12_laysFar 143 = .ok (.getfield 61, 3) := by decide +kernel
theorem dX12_laysFar_146 : decode cX12_laysFar 146 = .ok (.aload_n 0, 1) := by decide +kernel
theorem dX12_laysFar_147 : decode cX12_laysFar 147 = .ok (.getfield 13, 3) := by decide +kernel
theorem dX12_laysFar_150 : decode cX12_laysFar 150 = .ok (.bipush 21, 2) := by decide +kernel
theorem dX12_laysFar_152 : decode cX12_laysFar 152 = .ok (.iaload, 1) := by decide +kernel
theorem dX12_laysFar_153 : decode cX12_laysFar 153 = .ok (.iaload, 1) := by decide +kernel
theorem dX12_laysFar_154 : decode cX12_laysFar 154 = .ok (.ireturn, 1) := by decide +kernel
theorem dX12_toldFar_0 : decode cX12_toldFar 0 = .ok (.iload_n 0, 1) := by decide +kernel
theorem dX12_toldFar_1 : decode cX12_toldFar 1 = .ok (.ldc_w 368, 3) := by decide +kernel
theorem dX12_toldFar_4 : decode cX12_toldFar 4 = .ok (.if_icmp .ne 7, 3) := by decide +kernel
theorem dX12_toldFar_7 : decode cX12_toldFar 7 = .ok (.iconst (-1), 1) := by decide +kernel
theorem dX12_toldFar_8 : decode cX12_toldFar 8 = .ok (.goto 4, 3) := by decide +kernel
theorem dX12_toldFar_11 : decode cX12_toldFar 11 = .ok (.iload_n 0, 1) := by decide +kernel
theorem dX12_toldFar_12 : decode cX12_toldFar 12 = .ok (.ireturn, 1) := by decide +kernel
theorem dX12_fewest_0 : decode cX12_fewest 0 = .ok (.aload_n 0, 1) := by decide +kernel
theorem dX12_fewest_1 : decode cX12_fewest 1 = .ok (.iconst 0, 1) := by decide +kernel
theorem dX12_fewest_2 : decode cX12_fewest 2 = .ok (.putfield 1, 3) := by decide +kernel
theorem dX12_fewest_5 : decode cX12_fewest 5 = .ok (.iload_n 1, 1) := by decide +kernel
theorem dX12_fewest_6 : decode cX12_fewest 6 = .ok (.invokestatic 369, 3) := by decide +kernel
theorem dX12_fewest_9 : decode cX12_fewest 9 = .ok (.ifCond .eq 14, 3) := by decide +kernel
theorem dX12_fewest_12 : decode cX12_fewest 12 = .ok (.aload_n 0, 1) := by decide +kernel
theorem dX12_fewest_13 : decode cX12_fewest 13 = .ok (.iload_n 1, 1) := by decide +kernel
theorem dX12_fewest_14 : decode cX12_fewest 14 = .ok (.invokevirtual 372, 3) := by decide +kernel
theorem dX12_fewest_17 : decode cX12_fewest 17 = .ok (.invokestatic 375, 3) := by decide +kernel
theorem dX12_fewest_20 : decode cX12_fewest 20 = .ok (.goto 5, 3) := by decide +kernel
theorem dX12_fewest_23 : decode cX12_fewest 23 = .ok (.bipush (-2), 2) := by decide +kernel
theorem dX12_fewest_25 : decode cX12_fewest 25 = .ok (.ireturn, 1) := by decide +kernel
theorem dX12_way_0 : decode cX12_way 0 = .ok (.aload_n 0, 1) := by decide +kernel
theorem dX12_way_1 : decode cX12_way 1 = .ok (.iconst 0, 1) := by decide +kernel
theorem dX12_way_2 : decode cX12_way 2 = .ok (.putfield 1, 3) := by decide +kernel
theorem dX12_way_5 : decode cX12_way 5 = .ok (.iload_n 1, 1) := by decide +kernel
theorem dX12_way_6 : decode cX12_way 6 = .ok (.invokestatic 369, 3) := by decide +kernel
theorem dX12_way_9 : decode cX12_way 9 = .ok (.ifCond .ne 6, 3) := by decide +kernel
theorem dX12_way_12 : decode cX12_way 12 = .ok (.bipush (-2), 2) := by decide +kernel
theorem dX12_way_14 : decode cX12_way 14 = .ok (.ireturn, 1) := by decide +kernel
theorem dX12_way_15 : decode cX12_way 15 = .ok (.iload_n 2, 1) := by decide +kernel
theorem dX12_way_16 : decode cX12_way 16 = .ok (.ifCond .ge 6, 3) := by decide +kernel
theorem dX12_way_19 : decode cX12_way 19 = .ok (.bipush (-3), 2) := by decide +kernel
theorem dX12_way_21 : decode cX12_way 21 = .ok (.ireturn, 1) := by decide +kernel
theorem dX12_way_22 : decode cX12_way 22 = .ok (.aload_n 0, 1) := by decide +kernel
theorem dX12_way_23 : decode cX12_way 23 = .ok (.iload_n 1, 1) := by decide +kernel
theorem dX12_way_24 : decode cX12_way 24 = .ok (.invokevirtual 372, 3) := by decide +kernel
theorem dX12_way_27 : decode cX12_way 27 = .ok (.pop, 1) := by decide +kernel
theorem dX12_way_28 : decode cX12_way 28 = .ok (.aload_n 0, 1) := by decide +kernel
theorem dX12_way_29 : decode cX12_way 29 = .ok (.getfield 13, 3) := by decide +kernel
theorem dX12_way_32 : decode cX12_way 32 = .ok (.bipush 21, 2) := by decide +kernel
theorem dX12_way_34 : decode cX12_way 34 = .ok (.iaload, 1) := by decide +kernel
theorem dX12_way_35 : decode cX12_way 35 = .ok (.istore_n 3, 1) := by decide +kernel
theorem dX12_way_36 : decode cX12_way 36 = .ok (.iconst 0, 1) := by decide +kernel
theorem dX12_way_37 : decode cX12_way 37 = .ok (.istore 4, 2) := by decide +kernel
theorem dX12_way_39 : decode cX12_way 39 = .ok (.aload_n 0, 1) := by decide +kernel
theorem dX12_way_40 : decode cX12_way 40 = .ok (.getfield 61, 3) := by decide +kernel
theorem dX12_way_43 : decode cX12_way 43 = .ok (.iload_n 3, 1) := by decide +kernel
theorem dX12_way_44 : decode cX12_way 44 = .ok (.iaload, 1) := by decide +kernel
theorem dX12_way_45 : decode cX12_way 45 = .ok (.ifCond .le 85, 3) := by decide +kernel
theorem dX12_way_48 : decode cX12_way 48 = .ok (.aload_n 0, 1) := by decide +kernel
theorem dX12_way_49 : decode cX12_way 49 = .ok (.getfield 61, 3) := by decide +kernel
theorem dX12_way_52 : decode cX12_way 52 = .ok (.iload_n 3, 1) := by decide +kernel
theorem dX12_way_53 : decode cX12_way 53 = .ok (.iaload, 1) := by decide +kernel
theorem dX12_way_54 : decode cX12_way 54 = .ok (.ldc_w 368, 3) := by decide +kernel
theorem dX12_way_57 : decode cX12_way 57 = .ok (.if_icmp .ge 73, 3) := by decide +kernel
theorem dX12_way_60 : decode cX12_way 60 = .ok (.iconst 0, 1) := by decide +kernel
theorem dX12_way_61 : decode cX12_way 61 = .ok (.istore 5, 2) := by decide +kernel
theorem dX12_way_63 : decode cX12_way 63 = .ok (.aload_n 0, 1) := by decide +kernel
theorem dX12_way_64 : decode cX12_way 64 = .ok (.getfield 61, 3) := by decide +kernel
theorem dX12_way_67 : decode cX12_way 67 = .ok (.aload_n 0, 1) := by decide +kernel
theorem dX12_way_68 : decode cX12_way 68 = .ok (.getfield 58, 3) := by decide +kernel
theorem dX12_way_71 : decode cX12_way 71 = .ok (.bipush 15, 2) := by decide +kernel
theorem dX12_way_73 : decode cX12_way 73 = .ok (.iload_n 3, 1) := by decide +kernel
theorem dX12_way_74 : decode cX12_way 74 = .ok (.imul, 1) := by decide +kernel
theorem dX12_way_75 : decode cX12_way 75 = .ok (.iload 5, 2) := by decide +kernel
theorem dX12_way_77 : decode cX12_way 77 = .ok (.iadd, 1) := by decide +kernel
theorem dX12_way_78 : decode cX12_way 78 = .ok (.iaload, 1) := by decide +kernel
theorem dX12_way_79 : decode cX12_way 79 = .ok (.iaload, 1) := by decide +kernel
theorem dX12_way_80 : decode cX12_way 80 = .ok (.aload_n 0, 1) := by decide +kernel
theorem dX12_way_81 : decode cX12_way 81 = .ok (.getfield 61, 3) := by decide +kernel
theorem dX12_way_84 : decode cX12_way 84 = .ok (.iload_n 3, 1) := by decide +kernel
theorem dX12_way_85 : decode cX12_way 85 = .ok (.iaload, 1) := by decide +kernel
theorem dX12_way_86 : decode cX12_way 86 = .ok (.iconst 1, 1) := by decide +kernel
theorem dX12_way_87 : decode cX12_way 87 = .ok (.isub, 1) := by decide +kernel
theorem dX12_way_88 : decode cX12_way 88 = .ok (.if_icmp .eq 9, 3) := by decide +kernel
theorem dX12_way_91 : decode cX12_way 91 = .ok (.iinc 5 1, 3) := by decide +kernel
theorem dX12_way_94 : decode cX12_way 94 = .ok (.goto (-31), 3) := by decide +kernel
theorem dX12_way_97 : decode cX12_way 97 = .ok (.iload 4, 2) := by decide +kernel
theorem dX12_way_99 : decode cX12_way 99 = .ok (.iload_n 2, 1) := by decide +kernel
theorem dX12_way_100 : decode cX12_way 100 = .ok (.if_icmp .ne 11, 3) := by decide +kernel
theorem dX12_way_103 : decode cX12_way 103 = .ok (.aload_n 0, 1) := by decide +kernel
theorem dX12_way_104 : decode cX12_way 104 = .ok (.getfield 52, 3) := by decide +kernel
theorem dX12_way_107 : decode cX12_way 107 = .ok (.iload 5, 2) := by decide +kernel
theorem dX12_way_109 : decode cX12_way 109 = .ok (.iaload, 1) := by decide +kernel
theorem dX12_way_110 : decode cX12_way 110 = .ok (.ireturn, 1) := by decide +kernel
theorem dX12_way_111 : decode cX12_way 111 = .ok (.aload_n 0, 1) := by decide +kernel
theorem dX12_way_112 : decode cX12_way 112 = .ok (.getfield 58, 3) := by decide +kernel
theorem dX12_way_115 : decode cX12_way 115 = .ok (.bipush 15, 2) := by decide +kernel
theorem dX12_way_117 : decode cX12_way 117 = .ok (.iload_n 3, 1) := by decide +kernel
theorem dX12_way_118 : decode cX12_way 118 = .ok (.imul, 1) := by decide +kernel
theorem dX12_way_119 : decode cX12_way 119 = .ok (.iload 5, 2) := by decide +kernel
theorem dX12_way_121 : decode cX12_way 121 = .ok (.iadd, 1) := by decide +kernel
theorem dX12_way_122 : decode cX12_way 122 = .ok (.iaload, 1) := by decide +kernel
theorem dX12_way_123 : decode cX12_way 123 = .ok (.istore_n 3, 1) := by decide +kernel
theorem dX12_way_124 : decode cX12_way 124 = .ok (.iinc 4 1, 3) := by decide +kernel
theorem dX12_way_127 : decode cX12_way 127 = .ok (.goto (-88), 3) := by decide +kernel
theorem dX12_way_130 : decode cX12_way 130 = .ok (.iconst (-1), 1) := by decide +kernel
theorem dX12_way_131 : decode cX12_way 131 = .ok (.ireturn, 1) := by decide +kernel
theorem dX12_beginsMany_0 : decode cX12_beginsMany 0 = .ok (.iconst 0, 1) := by decide +kernel
theorem dX12_beginsMany_1 : decode cX12_beginsMany 1 = .ok (.istore_n 1, 1) := by decide +kernel
theorem dX12_beginsMany_2 : decode cX12_beginsMany 2 = .ok (.iload_n 1, 1) := by decide +kernel
theorem dX12_beginsMany_3 : decode cX12_beginsMany 3 = .ok (.sipush 720, 3) := by decide +kernel
theorem dX12_beginsMany_6 : decode cX12_beginsMany 6 = .ok (.if_icmp .ge 38, 3) := by decide +kernel
theorem dX12_beginsMany_9 : decode cX12_beginsMany 9 = .ok (.aload_n 0, 1) := by decide +kernel
theorem dX12_beginsMany_10 : decode cX12_beginsMany 10 = .ok (.getfield 67, 3) := by decide +kernel
theorem dX12_beginsMany_13 : decode cX12_beginsMany 13 = .ok (.iload_n 1, 1) := by decide +kernel
theorem dX12_beginsMany_14 : decode cX12_beginsMany 14 = .ok (.iload_n 1, 1) := by decide +kernel
theorem dX12_beginsMany_15 : decode cX12_beginsMany 15 = .ok (.aload_n 0, 1) := by decide +kernel
theorem dX12_beginsMany_16 : decode cX12_beginsMany 16 = .ok (.getfield 13, 3) := by decide +kernel
theorem dX12_beginsMany_19 : decode cX12_beginsMany 19 = .ok (.bipush 21, 2) := by decide +kernel
theorem dX12_beginsMany_21 : decode cX12_beginsMany 21 = .ok (.iaload, 1) := by decide +kernel
theorem dX12_beginsMany_22 : decode cX12_beginsMany 22 = .ok (.if_icmp .ne 7, 3) := by decide +kernel
theorem dX12_beginsMany_25 : decode cX12_beginsMany 25 = .ok (.lconst 1, 1) := by decide +kernel
theorem dX12_beginsMany_26 : decode cX12_beginsMany 26 = .ok (.goto 4, 3) := by decide +kernel
theorem dX12_beginsMany_29 : decode cX12_beginsMany 29 = .ok (.lconst 0, 1) := by decide +kernel
theorem dX12_beginsMany_30 : decode cX12_beginsMany 30 = .ok (.lastore, 1) := by decide +kernel
theorem dX12_beginsMany_31 : decode cX12_beginsMany 31 = .ok (.aload_n 0, 1) := by decide +kernel
theorem dX12_beginsMany_32 : decode cX12_beginsMany 32 = .ok (.getfield 70, 3) := by decide +kernel
theorem dX12_beginsMany_35 : decode cX12_beginsMany 35 = .ok (.iload_n 1, 1) := by decide +kernel
theorem dX12_beginsMany_36 : decode cX12_beginsMany 36 = .ok (.lconst 0, 1) := by decide +kernel
theorem dX12_beginsMany_37 : decode cX12_beginsMany 37 = .ok (.lastore, 1) := by decide +kernel
theorem dX12_beginsMany_38 : decode cX12_beginsMany 38 = .ok (.iinc 1 1, 3) := by decide +kernel
theorem dX12_beginsMany_41 : decode cX12_beginsMany 41 = .ok (.goto (-39), 3) := by decide +kernel
theorem dX12_beginsMany_44 : decode cX12_beginsMany 44 = .ok (.return_, 1) := by decide +kernel
theorem dX12_isThen_0 : decode cX12_isThen 0 = .ok (.iconst 0, 1) := by decide +kernel
theorem dX12_isThen_1 : decode cX12_isThen 1 = .ok (.istore_n 1, 1) := by decide +kernel
theorem dX12_isThen_2 : decode cX12_isThen 2 = .ok (.iload_n 1, 1) := by decide +kernel
theorem dX12_isThen_3 : decode cX12_isThen 3 = .ok (.sipush 720, 3) := by decide +kernel
theorem dX12_isThen_6 : decode cX12_isThen 6 = .ok (.if_icmp .ge 28, 3) := by decide +kernel
theorem dX12_isThen_9 : decode cX12_isThen 9 = .ok (.aload_n 0, 1) := by decide +kernel
theorem dX12_isThen_10 : decode cX12_isThen 10 = .ok (.getfield 67, 3) := by decide +kernel
theorem dX12_isThen_13 : decode cX12_isThen 13 = .ok (.iload_n 1, 1) := by decide +kernel
theorem dX12_isThen_14 : decode cX12_isThen 14 = .ok (.aload_n 0, 1) := by decide +kernel
theorem dX12_isThen_15 : decode cX12_isThen 15 = .ok (.getfield 70, 3) := by decide +kernel
theorem dX12_isThen_18 : decode cX12_isThen 18 = .ok (.iload_n 1, 1) := by decide +kernel
theorem dX12_isThen_19 : decode cX12_isThen 19 = .ok (.laload, 1) := by decide +kernel
theorem dX12_isThen_20 : decode cX12_isThen 20 = .ok (.lastore, 1) := by decide +kernel
theorem dX12_isThen_21 : decode cX12_isThen 21 = .ok (.aload_n 0, 1) := by decide +kernel
theorem dX12_isThen_22 : decode cX12_isThen 22 = .ok (.getfield 70, 3) := by decide +kernel
theorem dX12_isThen_25 : decode cX12_isThen 25 = .ok (.iload_n 1, 1) := by decide +kernel
theorem dX12_isThen_26 : decode cX12_isThen 26 = .ok (.lconst 0, 1) := by decide +kernel
theorem dX12_isThen_27 : decode cX12_isThen 27 = .ok (.lastore, 1) := by decide +kernel
theorem dX12_isThen_28 : decode cX12_isThen 28 = .ok (.iinc 1 1, 3) := by decide +kernel
theorem dX12_isThen_31 : decode cX12_isThen 31 = .ok (.goto (-29), 3) := by decide +kernel
theorem dX12_isThen_34 : decode cX12_isThen 34 = .ok (.return_, 1) := by decide +kernel
theorem dX12_rows_0 : decode cX12_rows 0 = .ok (.aload_n 0, 1) := by decide +kernel
theorem dX12_rows_1 : decode cX12_rows 1 = .ok (.iconst 0, 1) := by decide +kernel
theorem dX12_rows_2 : decode cX12_rows 2 = .ok (.putfield 1, 3) := by decide +kernel
theorem dX12_rows_5 : decode cX12_rows 5 = .ok (.iload_n 1, 1) := by decide +kernel
theorem dX12_rows_6 : decode cX12_rows 6 = .ok (.invokestatic 369, 3) := by decide +kernel
theorem dX12_rows_9 : decode cX12_rows 9 = .ok (.ifCond .ne 7, 3) := by decide +kernel
theorem dX12_rows_12 : decode cX12_rows 12 = .ok (.ldc2_w 378, 3) := by decide +kernel
theorem dX12_rows_15 : decode cX12_rows 15 = .ok (.lreturn, 1) := by decide +kernel
theorem dX12_rows_16 : decode cX12_rows 16 = .ok (.iload_n 2, 1) := by decide +kernel
theorem dX12_rows_17 : decode cX12_rows 17 = .ok (.i2l, 1) := by decide +kernel
theorem dX12_rows_18 : decode cX12_rows 18 = .ok (.lconst 0, 1) := by decide +kernel
theorem dX12_rows_19 : decode cX12_rows 19 = .ok (.ldc2_w 380, 3) := by decide +kernel
theorem dX12_rows_22 : decode cX12_rows 22 = .ok (.invokestatic 157, 3) := by decide +kernel
theorem dX12_rows_25 : decode cX12_rows 25 = .ok (.ifCond .ne 7, 3) := by decide +kernel
theorem dX12_rows_28 : decode cX12_rows 28 = .ok (.ldc2_w 353, 3) := by decide +kernel
theorem dX12_rows_31 : decode cX12_rows 31 = .ok (.lreturn, 1) := by decide +kernel
theorem dX12_rows_32 : decode cX12_rows 32 = .ok (.aload_n 0, 1) := by decide +kernel
theorem dX12_rows_33 : decode cX12_rows 33 = .ok (.invokevirtual 361, 3) := by decide +kernel
theorem dX12_rows_36 : decode cX12_rows 36 = .ok (.aload_n 0, 1) := by decide +kernel
theorem dX12_rows_37 : decode cX12_rows 37 = .ok (.invokevirtual 382, 3) := by decide +kernel
theorem dX12_rows_40 : decode cX12_rows 40 = .ok (.iconst 0, 1) := by decide +kernel
theorem dX12_rows_41 : decode cX12_rows 41 = .ok (.istore_n 3, 1) := by decide +kernel
theorem dX12_rows_42 : decode cX12_rows 42 = .ok (.iload_n 3, 1) := by decide +kernel
theorem dX12_rows_43 : decode cX12_rows 43 = .ok (.iload_n 2, 1) := by decide +kernel
theorem dX12_rows_44 : decode cX12_rows 44 = .ok (.if_icmp .ge 77, 3) := by decide +kernel
theorem dX12_rows_47 : decode cX12_rows 47 = .ok (.iconst 0, 1) := by decide +kernel
theorem dX12_rows_48 : decode cX12_rows 48 = .ok (.istore 4, 2) := by decide +kernel
theorem dX12_rows_50 : decode cX12_rows 50 = .ok (.iload 4, 2) := by decide +kernel
theorem dX12_rows_52 : decode cX12_rows 52 = .ok (.aload_n 0, 1) := by decide +kernel
theorem dX12_rows_53 : decode cX12_rows 53 = .ok (.getfield 223, 3) := by decide +kernel
theorem dX12_rows_56 : decode cX12_rows 56 = .ok (.if_icmp .ge 55, 3) := by decide +kernel
theorem dX12_rows_59 : decode cX12_rows 59 = .ok (.iconst 0, 1) := by decide +kernel
theorem dX12_rows_60 : decode cX12_rows 60 = .ok (.istore 5, 2) := by decide +kernel
theorem dX12_rows_62 : decode cX12_rows 62 = .ok (.iload 5, 2) := by decide +kernel
theorem dX12_rows_64 : decode cX12_rows 64 = .ok (.aload_n 0, 1) := by decide +kernel
theorem dX12_rows_65 : decode cX12_rows 65 = .ok (.getfield 358, 3) := by decide +kernel
theorem dX12_rows_68 : decode cX12_rows 68 = .ok (.if_icmp .ge 37, 3) := by decide +kernel
theorem dX12_rows_71 : decode cX12_rows 71 = .ok (.aload_n 0, 1) := by decide +kernel
theorem dX12_rows_72 : decode cX12_rows 72 = .ok (.getfield 70, 3) := by decide +kernel
theorem dX12_rows_75 : decode cX12_rows 75 = .ok (.aload_n 0, 1) := by decide +kernel
theorem dX12_rows_76 : decode cX12_rows 76 = .ok (.getfield 58, 3) := by decide +kernel
theorem dX12_rows_79 : decode cX12_rows 79 = .ok (.bipush 15, 2) := by decide +kernel
theorem dX12_rows_81 : decode cX12_rows 81 = .ok (.iload 4, 2) := by decide +kernel
theorem dX12_rows_83 : decode cX12_rows 83 = .ok (.imul, 1) := by decide +kernel
theorem dX12_rows_84 : decode cX12_rows 84 = .ok (.iload 5, 2) := by decide +kernel
theorem dX12_rows_86 : decode cX12_rows 86 = .ok (.iadd, 1) := by decide +kernel
theorem dX12_rows_87 : decode cX12_rows 87 = .ok (.iaload, 1) := by decide +kernel
theorem dX12_rows_88 : decode cX12_rows 88 = .ok (.dup2, 1) := by decide +kernel
theorem dX12_rows_89 : decode cX12_rows 89 = .ok (.laload, 1) := by decide +kernel
theorem dX12_rows_90 : decode cX12_rows 90 = .ok (.aload_n 0, 1) := by decide +kernel
theorem dX12_rows_91 : decode cX12_rows 91 = .ok (.getfield 67, 3) := by decide +kernel
theorem dX12_rows_94 : decode cX12_rows 94 = .ok (.iload 4, 2) := by decide +kernel
theorem dX12_rows_96 : decode cX12_rows 96 = .ok (.laload, 1) := by decide +kernel
theorem dX12_rows_97 : decode cX12_rows 97 = .ok (.ladd, 1) := by decide +kernel
theorem dX12_rows_98 : decode cX12_rows 98 = .ok (.lastore, 1) := by decide +kernel
theorem dX12_rows_99 : decode cX12_rows 99 = .ok (.iinc 5 1, 3) := by decide +kernel
theorem dX12_rows_102 : decode cX12_rows 102 = .ok (.goto (-40), 3) := by decide +kernel
theorem dX12_rows_105 : decode cX12_rows 105 = .ok (.iinc 4 1, 3) := by decide +kernel
theorem dX12_rows_108 : decode cX12_rows 108 = .ok (.goto (-58), 3) := by decide +kernel
theorem dX12_rows_111 : decode cX12_rows 111 = .ok (.aload_n 0, 1) := by decide +kernel
theorem dX12_rows_112 : decode cX12_rows 112 = .ok (.invokevirtual 385, 3) := by decide +kernel
theorem dX12_rows_115 : decode cX12_rows 115 = .ok (.iinc 3 1, 3) := by decide +kernel
theorem dX12_rows_118 : decode cX12_rows 118 = .ok (.goto (-76), 3) := by decide +kernel
theorem dX12_rows_121 : decode cX12_rows 121 = .ok (.lconst 0, 1) := by decide +kernel
theorem dX12_rows_122 : decode cX12_rows 122 = .ok (.lstore_n 3, 1) := by decide +kernel
theorem dX12_rows_123 : decode cX12_rows 123 = .ok (.iconst 0, 1) := by decide +kernel
theorem dX12_rows_124 : decode cX12_rows 124 = .ok (.istore 5, 2) := by decide +kernel
theorem dX12_rows_126 : decode cX12_rows 126 = .ok (.iload 5, 2) := by decide +kernel
theorem dX12_rows_128 : decode cX12_rows 128 = .ok (.aload_n 0, 1) := by decide +kernel
theorem dX12_rows_129 : decode cX12_rows 129 = .ok (.getfield 223, 3) := by decide +kernel
theorem dX12_rows_132 : decode cX12_rows 132 = .ok (.if_icmp .ge 33, 3) := by decide +kernel
theorem dX12_rows_135 : decode cX12_rows 135 = .ok (.lload_n 3, 1) := by decide +kernel
theorem dX12_rows_136 : decode cX12_rows 136 = .ok (.aload_n 0, 1) := by decide +kernel
theorem dX12_rows_137 : decode cX12_rows 137 = .ok (.iload 5, 2) := by decide +kernel
theorem dX12_rows_139 : decode cX12_rows 139 = .ok (.iload_n 1, 1) := by decide +kernel
theorem dX12_rows_140 : decode cX12_rows 140 = .ok (.invokevirtual 364, 3) := by decide +kernel
theorem dX12_rows_143 : decode cX12_rows 143 = .ok (.ifCond .eq 13, 3) := by decide +kernel
theorem dX12_rows_146 : decode cX12_rows 146 = .ok (.aload_n 0, 1) := by decide +kernel
theorem dX12_rows_147 : decode cX12_rows 147 = .ok (.getfield 67, 3) := by decide +kernel
theorem dX12_rows_150 : decode cX12_rows 150 = .ok (.iload 5, 2) := by decide +kernel
theorem dX12_rows_152 : decode cX12_rows 152 = .ok (.laload, 1) := by decide +kernel
theorem dX12_rows_153 : decode cX12_rows 153 = .ok (.goto 4, 3) := by decide +kernel
theorem dX12_rows_156 : decode cX12_rows 156 = .ok (.lconst 0, 1) := by decide +kernel
theorem dX12_rows_157 : decode cX12_rows 157 = .ok (.ladd, 1) := by decide +kernel
theorem dX12_rows_158 : decode cX12_rows 158 = .ok (.lstore_n 3, 1) := by decide +kernel
theorem dX12_rows_159 : decode cX12_rows 159 = .ok (.iinc 5 1, 3) := by decide +kernel
theorem dX12_rows_162 : decode cX12_rows 162 = .ok (.goto (-36), 3) := by decide +kernel
theorem dX12_rows_165 : decode cX12_rows 165 = .ok (.lload_n 3, 1) := by decide +kernel
theorem dX12_rows_166 : decode cX12_rows 166 = .ok (.lreturn, 1) := by decide +kernel
theorem dX12_ofAll_0 : decode cX12_ofAll 0 = .ok (.aload_n 0, 1) := by decide +kernel
theorem dX12_ofAll_1 : decode cX12_ofAll 1 = .ok (.iconst 0, 1) := by decide +kernel
theorem dX12_ofAll_2 : decode cX12_ofAll 2 = .ok (.putfield 1, 3) := by decide +kernel
theorem dX12_ofAll_5 : decode cX12_ofAll 5 = .ok (.iload_n 1, 1) := by decide +kernel
theorem dX12_ofAll_6 : decode cX12_ofAll 6 = .ok (.invokestatic 369, 3) := by decide +kernel
theorem dX12_ofAll_9 : decode cX12_ofAll 9 = .ok (.ifCond .ne 6, 3) := by decide +kernel
theorem dX12_ofAll_12 : decode cX12_ofAll 12 = .ok (.bipush (-2), 2) := by decide +kernel
theorem dX12_ofAll_14 : decode cX12_ofAll 14 = .ok (.ireturn, 1) := by decide +kernel
theorem dX12_ofAll_15 : decode cX12_ofAll 15 = .ok (.aload_n 0, 1) := by decide +kernel
theorem dX12_ofAll_16 : decode cX12_ofAll 16 = .ok (.invokevirtual 355, 3) := by decide +kernel
theorem dX12_ofAll_19 : decode cX12_ofAll 19 = .ok (.iconst 0, 1) := by decide +kernel
theorem dX12_ofAll_20 : decode cX12_ofAll 20 = .ok (.istore_n 2, 1) := by decide +kernel
theorem dX12_ofAll_21 : decode cX12_ofAll 21 = .ok (.iconst 0, 1) := by decide +kernel
theorem dX12_ofAll_22 : decode cX12_ofAll 22 = .ok (.istore_n 3, 1) := by decide +kernel
theorem dX12_ofAll_23 : decode cX12_ofAll 23 = .ok (.iload_n 3, 1) := by decide +kernel
theorem dX12_ofAll_24 : decode cX12_ofAll 24 = .ok (.aload_n 0, 1) := by decide +kernel
theorem dX12_ofAll_25 : decode cX12_ofAll 25 = .ok (.getfield 223, 3) := by decide +kernel
theorem dX12_ofAll_28 : decode cX12_ofAll 28 = .ok (.if_icmp .ge 26, 3) := by decide +kernel
theorem dX12_ofAll_31 : decode cX12_ofAll 31 = .ok (.iload_n 2, 1) := by decide +kernel
theorem dX12_ofAll_32 : decode cX12_ofAll 32 = .ok (.aload_n 0, 1) := by decide +kernel
theorem dX12_ofAll_33 : decode cX12_ofAll 33 = .ok (.iload_n 3, 1) := by decide +kernel
theorem dX12_ofAll_34 : decode cX12_ofAll 34 = .ok (.iload_n 1, 1) := by decide +kernel
theorem dX12_ofAll_35 : decode cX12_ofAll 35 = .ok (.invokevirtual 364, 3) := by decide +kernel
theorem dX12_ofAll_38 : decode cX12_ofAll 38 = .ok (.ifCond .eq 7, 3) := by decide +kernel
theorem dX12_ofAll_41 : decode cX12_ofAll 41 = .ok (.iconst 1, 1) := by decide +kernel
theorem dX12_ofAll_42 : decode cX12_ofAll 42 = .ok (.goto 4, 3) := by decide +kernel
theorem dX12_ofAll_45 : decode cX12_ofAll 45 = .ok (.iconst 0, 1) := by decide +kernel
theorem dX12_ofAll_46 : decode cX12_ofAll 46 = .ok (.iadd, 1) := by decide +kernel
theorem dX12_ofAll_47 : decode cX12_ofAll 47 = .ok (.istore_n 2, 1) := by decide +kernel
theorem dX12_ofAll_48 : decode cX12_ofAll 48 = .ok (.iinc 3 1, 3) := by decide +kernel
theorem dX12_ofAll_51 : decode cX12_ofAll 51 = .ok (.goto (-28), 3) := by decide +kernel
theorem dX12_ofAll_54 : decode cX12_ofAll 54 = .ok (.iload_n 2, 1) := by decide +kernel
theorem dX12_ofAll_55 : decode cX12_ofAll 55 = .ok (.ireturn, 1) := by decide +kernel
theorem dX12_ofOne_0 : decode cX12_ofOne 0 = .ok (.aload_n 0, 1) := by decide +kernel
theorem dX12_ofOne_1 : decode cX12_ofOne 1 = .ok (.iconst 0, 1) := by decide +kernel
theorem dX12_ofOne_2 : decode cX12_ofOne 2 = .ok (.putfield 1, 3) := by decide +kernel
theorem dX12_ofOne_5 : decode cX12_ofOne 5 = .ok (.aload_n 0, 1) := by decide +kernel
theorem dX12_ofOne_6 : decode cX12_ofOne 6 = .ok (.iload_n 1, 1) := by decide +kernel
theorem dX12_ofOne_7 : decode cX12_ofOne 7 = .ok (.i2l, 1) := by decide +kernel
theorem dX12_ofOne_8 : decode cX12_ofOne 8 = .ok (.invokevirtual 261, 3) := by decide +kernel
theorem dX12_ofOne_11 : decode cX12_ofOne 11 = .ok (.ifCond .ne 6, 3) := by decide +kernel
theorem dX12_ofOne_14 : decode cX12_ofOne 14 = .ok (.bipush (-2), 2) := by decide +kernel
theorem dX12_ofOne_16 : decode cX12_ofOne 16 = .ok (.ireturn, 1) := by decide +kernel
theorem dX12_ofOne_17 : decode cX12_ofOne 17 = .ok (.aload_n 0, 1) := by decide +kernel
theorem dX12_ofOne_18 : decode cX12_ofOne 18 = .ok (.invokevirtual 355, 3) := by decide +kernel
theorem dX12_ofOne_21 : decode cX12_ofOne 21 = .ok (.iconst 0, 1) := by decide +kernel
theorem dX12_ofOne_22 : decode cX12_ofOne 22 = .ok (.istore_n 2, 1) := by decide +kernel
theorem dX12_ofOne_23 : decode cX12_ofOne 23 = .ok (.iconst 0, 1) := by decide +kernel
theorem dX12_ofOne_24 : decode cX12_ofOne 24 = .ok (.istore_n 3, 1) := by decide +kernel
theorem dX12_ofOne_25 : decode cX12_ofOne 25 = .ok (.iload_n 3, 1) := by decide +kernel
theorem dX12_ofOne_26 : decode cX12_ofOne 26 = .ok (.aload_n 0, 1) := by decide +kernel
theorem dX12_ofOne_27 : decode cX12_ofOne 27 = .ok (.getfield 223, 3) := by decide +kernel
theorem dX12_ofOne_30 : decode cX12_ofOne 30 = .ok (.if_icmp .ge 22, 3) := by decide +kernel
theorem dX12_ofOne_33 : decode cX12_ofOne 33 = .ok (.iload_n 2, 1) := by decide +kernel
theorem dX12_ofOne_34 : decode cX12_ofOne 34 = .ok (.aload_n 0, 1) := by decide +kernel
theorem dX12_ofOne_35 : decode cX12_ofOne 35 = .ok (.getfield 55, 3) := by decide +kernel
theorem dX12_ofOne_38 : decode cX12_ofOne 38 = .ok (.iload_n 3, 1) := by decide +kernel
theorem dX12_ofOne_39 : decode cX12_ofOne 39 = .ok (.iaload, 1) := by decide +kernel
theorem dX12_ofOne_40 : decode cX12_ofOne 40 = .ok (.iload_n 1, 1) := by decide +kernel
theorem dX12_ofOne_41 : decode cX12_ofOne 41 = .ok (.ishr, 1) := by decide +kernel
theorem dX12_ofOne_42 : decode cX12_ofOne 42 = .ok (.iconst 1, 1) := by decide +kernel
theorem dX12_ofOne_43 : decode cX12_ofOne 43 = .ok (.iand, 1) := by decide +kernel
theorem dX12_ofOne_44 : decode cX12_ofOne 44 = .ok (.iadd, 1) := by decide +kernel
theorem dX12_ofOne_45 : decode cX12_ofOne 45 = .ok (.istore_n 2, 1) := by decide +kernel
theorem dX12_ofOne_46 : decode cX12_ofOne 46 = .ok (.iinc 3 1, 3) := by decide +kernel
theorem dX12_ofOne_49 : decode cX12_ofOne 49 = .ok (.goto (-24), 3) := by decide +kernel
theorem dX12_ofOne_52 : decode cX12_ofOne 52 = .ok (.iload_n 2, 1) := by decide +kernel
theorem dX12_ofOne_53 : decode cX12_ofOne 53 = .ok (.ireturn, 1) := by decide +kernel
theorem dX12_just_0 : decode cX12_just 0 = .ok (.aload_n 0, 1) := by decide +kernel
theorem dX12_just_1 : decode cX12_just 1 = .ok (.iconst 0, 1) := by decide +kernel
theorem dX12_just_2 : decode cX12_just 2 = .ok (.putfield 1, 3) := by decide +kernel
theorem dX12_just_5 : decode cX12_just 5 = .ok (.iload_n 1, 1) := by decide +kernel
theorem dX12_just_6 : decode cX12_just 6 = .ok (.ifCond .ge 6, 3) := by decide +kernel
theorem dX12_just_9 : decode cX12_just 9 = .ok (.bipush (-3), 2) := by decide +kernel
theorem dX12_just_11 : decode cX12_just 11 = .ok (.ireturn, 1) := by decide +kernel
theorem dX12_just_12 : decode cX12_just 12 = .ok (.aload_n 0, 1) := by decide +kernel
theorem dX12_just_13 : decode cX12_just 13 = .ok (.invokevirtual 355, 3) := by decide +kernel
theorem dX12_just_16 : decode cX12_just 16 = .ok (.iconst 0, 1) := by decide +kernel
theorem dX12_just_17 : decode cX12_just 17 = .ok (.istore_n 2, 1) := by decide +kernel
theorem dX12_just_18 : decode cX12_just 18 = .ok (.iconst 0, 1) := by decide +kernel
theorem dX12_just_19 : decode cX12_just 19 = .ok (.istore_n 3, 1) := by decide +kernel
theorem dX12_just_20 : decode cX12_just 20 = .ok (.iload_n 3, 1) := by decide +kernel
theorem dX12_just_21 : decode cX12_just 21 = .ok (.aload_n 0, 1) := by decide +kernel
theorem dX12_just_22 : decode cX12_just 22 = .ok (.getfield 223, 3) := by decide +kernel
theorem dX12_just_25 : decode cX12_just 25 = .ok (.if_icmp .ge 30, 3) := by decide +kernel
theorem dX12_just_28 : decode cX12_just 28 = .ok (.iload_n 2, 1) := by decide +kernel
theorem dX12_just_29 : decode cX12_just 29 = .ok (.aload_n 0, 1) := by decide +kernel
theorem dX12_just_30 : decode cX12_just 30 = .ok (.getfield 55, 3) := by decide +kernel
theorem dX12_just_33 : decode cX12_just 33 = .ok (.iload_n 3, 1) := by decide +kernel
theorem dX12_just_34 : decode cX12_just 34 = .ok (.iaload, 1) := by decide +kernel
theorem dX12_just_35 : decode cX12_just 35 = .ok (.invokestatic 284, 3) := by decide +kernel
theorem dX12_just_38 : decode cX12_just 38 = .ok (.iload_n 1, 1) := by decide +kernel
theorem dX12_just_39 : decode cX12_just 39 = .ok (.if_icmp .ne 7, 3) := by decide +kernel
theorem dX12_just_42 : decode cX12_just 42 = .ok (.iconst 1, 1) := by decide +kernel
theorem dX12_just_43 : decode cX12_just 43 = .ok (.goto 4, 3) := by decide +kernel
theorem dX12_just_46 : decode cX12_just 46 = .ok (.iconst 0, 1) := by decide +kernel
theorem dX12_just_47 : decode cX12_just 47 = .ok (.iadd, 1) := by decide +kernel
theorem dX12_just_48 : decode cX12_just 48 = .ok (.istore_n 2, 1) := by decide +kernel
theorem dX12_just_49 : decode cX12_just 49 = .ok (.iinc 3 1, 3) := by decide +kernel
theorem dX12_just_52 : decode cX12_just 52 = .ok (.goto (-32), 3) := by decide +kernel
theorem dX12_just_55 : decode cX12_just 55 = .ok (.iload_n 2, 1) := by decide +kernel
theorem dX12_just_56 : decode cX12_just 56 = .ok (.ireturn, 1) := by decide +kernel
theorem dX12_laysLine_0 : decode cX12_laysLine 0 = .ok (.aload_n 0, 1) := by decide +kernel
theorem dX12_laysLine_1 : decode cX12_laysLine 1 = .ok (.getfield 13, 3) := by decide +kernel
theorem dX12_laysLine_4 : decode cX12_laysLine 4 = .ok (.bipush 21, 2) := by decide +kernel
theorem dX12_laysLine_6 : decode cX12_laysLine 6 = .ok (.iaload, 1) := by decide +kernel
theorem dX12_laysLine_7 : decode cX12_laysLine 7 = .ok (.istore_n 1, 1) := by decide +kernel
theorem dX12_laysLine_8 : decode cX12_laysLine 8 = .ok (.aload_n 0, 1) := by decide +kernel
theorem dX12_laysLine_9 : decode cX12_laysLine 9 = .ok (.iconst 0, 1) := by decide +kernel
theorem dX12_laysLine_10 : decode cX12_laysLine 10 = .ok (.putfield 388, 3) := by decide +kernel
theorem dX12_laysLine_13 : decode cX12_laysLine 13 = .ok (.aload_n 0, 1) := by decide +kernel
theorem dX12_laysLine_14 : decode cX12_laysLine 14 = .ok (.getfield 388, 3) := by decide +kernel
theorem dX12_laysLine_17 : decode cX12_laysLine 17 = .ok (.ifCond .eq 14, 3) := by decide +kernel
theorem dX12_laysLine_20 : decode cX12_laysLine 20 = .ok (.iload_n 1, 1) := by decide +kernel
theorem dX12_laysLine_21 : decode cX12_laysLine 21 = .ok (.aload_n 0, 1) := by decide +kernel
theorem dX12_laysLine_22 : decode cX12_laysLine 22 = .ok (.getfield 13, 3) := by decide +kernel
theorem dX12_laysLine_25 : decode cX12_laysLine 25 = .ok (.bipush 21, 2) := by decide +kernel
theorem dX12_laysLine_27 : decode cX12_laysLine 27 = .ok (.iaload, 1) := by decide +kernel
theorem dX12_laysLine_28 : decode cX12_laysLine 28 = .ok (.if_icmp .eq 32, 3) := by decide +kernel
theorem dX12_laysLine_31 : decode cX12_laysLine 31 = .ok (.aload_n 0, 1) := by decide +kernel
theorem dX12_laysLine_32 : decode cX12_laysLine 32 = .ok (.getfield 73, 3) := by decide +kernel
theorem dX12_laysLine_35 : decode cX12_laysLine 35 = .ok (.aload_n 0, 1) := by decide +kernel
theorem dX12_laysLine_36 : decode cX12_laysLine 36 = .ok (.getfield 388, 3) := by decide +kernel
theorem dX12_laysLine_39 : decode cX12_laysLine 39 = .ok (.iload_n 1, 1) := by decide +kernel
theorem dX12_laysLine_40 : decode cX12_laysLine 40 = .ok (.iastore, 1) := by decide +kernel
theorem dX12_laysLine_41 : decode cX12_laysLine 41 = .ok (.aload_n 0, 1) := by decide +kernel
theorem dX12_laysLine_42 : decode cX12_laysLine 42 = .ok (.dup, 1) := by decide +kernel
theorem dX12_laysLine_43 : decode cX12_laysLine 43 = .ok (.getfield 388, 3) := by decide +kernel
theorem dX12_laysLine_46 : decode cX12_laysLine 46 = .ok (.iconst 1, 1) := by decide +kernel
theorem dX12_laysLine_47 : decode cX12_laysLine 47 = .ok (.iadd, 1) := by decide +kernel
theorem dX12_laysLine_48 : decode cX12_laysLine 48 = .ok (.putfield 388, 3) := by decide +kernel
theorem dX12_laysLine_51 : decode cX12_laysLine 51 = .ok (.aload_n 0, 1) := by decide +kernel
theorem dX12_laysLine_52 : decode cX12_laysLine 52 = .ok (.iload_n 1, 1) := by decide +kernel
theorem dX12_laysLine_53 : decode cX12_laysLine 53 = .ok (.invokevirtual 268, 3) := by decide +kernel
theorem dX12_laysLine_56 : decode cX12_laysLine 56 = .ok (.istore_n 1, 1) := by decide +kernel
theorem dX12_laysLine_57 : decode cX12_laysLine 57 = .ok (.goto (-44), 3) := by decide +kernel
theorem dX12_laysLine_60 : decode cX12_laysLine 60 = .ok (.return_, 1) := by decide +kernel
theorem dX12_at_0 : decode cX12_at 0 = .ok (.aload_n 0, 1) := by decide +kernel
theorem dX12_at_1 : decode cX12_at 1 = .ok (.iconst 0, 1) := by decide +kernel
theorem dX12_at_2 : decode cX12_at 2 = .ok (.putfield 1, 3) := by decide +kernel
theorem dX12_at_5 : decode cX12_at 5 = .ok (.lload_n 1, 1) := by decide +kernel
theorem dX12_at_6 : decode cX12_at 6 = .ok (.lconst 0, 1) := by decide +kernel
theorem dX12_at_7 : decode cX12_at 7 = .ok (.ldc2_w 346, 3) := by decide +kernel
theorem dX12_at_10 : decode cX12_at 10 = .ok (.invokestatic 157, 3) := by decide +kernel
theorem dX12_at_13 : decode cX12_at 13 = .ok (.ifCond .ne 6, 3) := by decide +kernel
theorem dX12_at_16 : decode cX12_at 16 = .ok (.bipush (-3), 2) := by decide +kernel
theorem dX12_at_18 : decode cX12_at 18 = .ok (.ireturn, 1) := by decide +kernel
theorem dX12_at_19 : decode cX12_at 19 = .ok (.aload_n 0, 1) := by decide +kernel
theorem dX12_at_20 : decode cX12_at 20 = .ok (.invokevirtual 391, 3) := by decide +kernel
theorem dX12_at_23 : decode cX12_at 23 = .ok (.aload_n 0, 1) := by decide +kernel
theorem dX12_at_24 : decode cX12_at 24 = .ok (.getfield 73, 3) := by decide +kernel
theorem dX12_at_27 : decode cX12_at 27 = .ok (.lload_n 1, 1) := by decide +kernel
theorem dX12_at_28 : decode cX12_at 28 = .ok (.aload_n 0, 1) := by decide +kernel
theorem dX12_at_29 : decode cX12_at 29 = .ok (.getfield 388, 3) := by decide +kernel
theorem dX12_at_32 : decode cX12_at 32 = .ok (.i2l, 1) := by decide +kernel
theorem dX12_at_33 : decode cX12_at 33 = .ok (.lrem, 1) := by decide +kernel
theorem dX12_at_34 : decode cX12_at 34 = .ok (.l2i, 1) := by decide +kernel
theorem dX12_at_35 : decode cX12_at 35 = .ok (.iaload, 1) := by decide +kernel
theorem dX12_at_36 : decode cX12_at 36 = .ok (.ireturn, 1) := by decide +kernel
theorem dX12_comesRound_0 : decode cX12_comesRound 0 = .ok (.aload_n 0, 1) := by decide +kernel
theorem dX12_comesRound_1 : decode cX12_comesRound 1 = .ok (.iconst 0, 1) := by decide +kernel
theorem dX12_comesRound_2 : decode cX12_comesRound 2 = .ok (.putfield 1, 3) := by decide +kernel
theorem dX12_comesRound_5 : decode cX12_comesRound 5 = .ok (.aload_n 0, 1) := by decide +kernel
theorem dX12_comesRound_6 : decode cX12_comesRound 6 = .ok (.invokevirtual 391, 3) := by decide +kernel
theorem dX12_comesRound_9 : decode cX12_comesRound 9 = .ok (.aload_n 0, 1) := by decide +kernel
theorem dX12_comesRound_10 : decode cX12_comesRound 10 = .ok (.getfield 388, 3) := by decide +kernel
theorem dX12_comesRound_13 : decode cX12_comesRound 13 = .ok (.ireturn, 1) := by decide +kernel
theorem dX12_first_0 : decode cX12_first 0 = .ok (.aload_n 0, 1) := by decide +kernel
theorem dX12_first_1 : decode cX12_first 1 = .ok (.iconst 0, 1) := by decide +kernel
theorem dX12_first_2 : decode cX12_first 2 = .ok (.putfield 1, 3) := by decide +kernel
theorem dX12_first_5 : decode cX12_first 5 = .ok (.iload_n 1, 1) := by decide +kernel
theorem dX12_first_6 : decode cX12_first 6 = .ok (.invokestatic 369, 3) := by decide +kernel
theorem dX12_first_9 : decode cX12_first 9 = .ok (.ifCond .ne 6, 3) := by decide +kernel
theorem dX12_first_12 : decode cX12_first 12 = .ok (.bipush (-2), 2) := by decide +kernel
theorem dX12_first_14 : decode cX12_first 14 = .ok (.ireturn, 1) := by decide +kernel
theorem dX12_first_15 : decode cX12_first 15 = .ok (.aload_n 0, 1) := by decide +kernel
theorem dX12_first_16 : decode cX12_first 16 = .ok (.invokevirtual 355, 3) := by decide +kernel
theorem dX12_first_19 : decode cX12_first 19 = .ok (.aload_n 0, 1) := by decide +kernel
theorem dX12_first_20 : decode cX12_first 20 = .ok (.invokevirtual 391, 3) := by decide +kernel
theorem dX12_first_23 : decode cX12_first 23 = .ok (.iconst 0, 1) := by decide +kernel
theorem dX12_first_24 : decode cX12_first 24 = .ok (.istore_n 2, 1) := by decide +kernel
theorem dX12_first_25 : decode cX12_first 25 = .ok (.iload_n 2, 1) := by decide +kernel
theorem dX12_first_26 : decode cX12_first 26 = .ok (.aload_n 0, 1) := by decide +kernel
theorem dX12_first_27 : decode cX12_first 27 = .ok (.getfield 388, 3) := by decide +kernel
theorem dX12_first_30 : decode cX12_first 30 = .ok (.if_icmp .ge 25, 3) := by decide +kernel
theorem dX12_first_33 : decode cX12_first 33 = .ok (.aload_n 0, 1) := by decide +kernel
theorem dX12_first_34 : decode cX12_first 34 = .ok (.aload_n 0, 1) := by decide +kernel
theorem dX12_first_35 : decode cX12_first 35 = .ok (.getfield 73, 3) := by decide +kernel
theorem dX12_first_38 : decode cX12_first 38 = .ok (.iload_n 2, 1) := by decide +kernel
theorem dX12_first_39 : decode cX12_first 39 = .ok (.iaload, 1) := by decide +kernel
theorem dX12_first_40 : decode cX12_first 40 = .ok (.iload_n 1, 1) := by decide +kernel
theorem dX12_first_41 : decode cX12_first 41 = .ok (.invokevirtual 364, 3) := by decide +kernel
theorem dX12_first_44 : decode cX12_first 44 = .ok (.ifCond .eq 5, 3) := by decide +kernel
theorem dX12_first_47 : decode cX12_first 47 = .ok (.iload_n 2, 1) := by decide +kernel
theorem dX12_first_48 : decode cX12_first 48 = .ok (.ireturn, 1) := by decide +kernel
theorem dX12_first_49 : decode cX12_first 49 = .ok (.iinc 2 1, 3) := by decide +kernel
theorem dX12_first_52 : decode cX12_first 52 = .ok (.goto (-27), 3) := by decide +kernel
theorem dX12_first_55 : decode cX12_first 55 = .ok (.iconst (-1), 1) := by decide +kernel
theorem dX12_first_56 : decode cX12_first 56 = .ok (.ireturn, 1) := by decide +kernel
theorem dX12_often_0 : decode cX12_often 0 = .ok (.aload_n 0, 1) := by decide +kernel
theorem dX12_often_1 : decode cX12_often 1 = .ok (.iconst 0, 1) := by decide +kernel
theorem dX12_often_2 : decode cX12_often 2 = .ok (.putfield 1, 3) := by decide +kernel
theorem dX12_often_5 : decode cX12_often 5 = .ok (.iload_n 1, 1) := by decide +kernel
theorem dX12_often_6 : decode cX12_often 6 = .ok (.invokestatic 369, 3) := by decide +kernel
theorem dX12_often_9 : decode cX12_often 9 = .ok (.ifCond .ne 7, 3) := by decide +kernel
theorem dX12_often_12 : decode cX12_often 12 = .ok (.ldc2_w 378, 3) := by decide +kernel
theorem dX12_often_15 : decode cX12_often 15 = .ok (.lreturn, 1) := by decide +kernel
theorem dX12_often_16 : decode cX12_often 16 = .ok (.lload_n 2, 1) := by decide +kernel
theorem dX12_often_17 : decode cX12_often 17 = .ok (.lconst 0, 1) := by decide +kernel
theorem dX12_often_18 : decode cX12_often 18 = .ok (.ldc2_w 346, 3) := by decide +kernel
theorem dX12_often_21 : decode cX12_often 21 = .ok (.invokestatic 157, 3) := by decide +kernel
theorem dX12_often_24 : decode cX12_often 24 = .ok (.ifCond .ne 7, 3) := by decide +kernel
theorem dX12_often_27 : decode cX12_often 27 = .ok (.ldc2_w 353, 3) := by decide +kernel
theorem dX12_often_30 : decode cX12_often 30 = .ok (.lreturn, 1) := by decide +kernel
theorem dX12_often_31 : decode cX12_often 31 = .ok (.aload_n 0, 1) := by decide +kernel
theorem dX12_often_32 : decode cX12_often 32 = .ok (.invokevirtual 355, 3) := by decide +kernel
theorem dX12_often_35 : decode cX12_often 35 = .ok (.aload_n 0, 1) := by decide +kernel
theorem dX12_often_36 : decode cX12_often 36 = .ok (.invokevirtual 391, 3) := by decide +kernel
theorem dX12_often_39 : decode cX12_often 39 = .ok (.lconst 0, 1) := by decide +kernel
theorem dX12_often_40 : decode cX12_often 40 = .ok (.lstore 4, 2) := by decide +kernel
theorem dX12_often_42 : decode cX12_often 42 = .ok (.iconst 1, 1) := by decide +kernel
theorem dX12_often_43 : decode cX12_often 43 = .ok (.istore 6, 2) := by decide +kernel
theorem dX12_often_45 : decode cX12_often 45 = .ok (.iload 6, 2) := by decide +kernel
theorem dX12_often_47 : decode cX12_often 47 = .ok (.aload_n 0, 1) := by decide +kernel
theorem dX12_often_48 : decode cX12_often 48 = .ok (.getfield 388, 3) := by decide +kernel
theorem dX12_often_51 : decode cX12_often 51 = .ok (.if_icmp .gt 55, 3) := by decide +kernel
theorem dX12_often_54 : decode cX12_often 54 = .ok (.aload_n 0, 1) := by decide +kernel
theorem dX12_often_55 : decode cX12_often 55 = .ok (.aload_n 0, 1) := by decide +kernel
theorem dX12_often_56 : decode cX12_often 56 = .ok (.getfield 73, 3) := by decide +kernel
theorem dX12_often_59 : decode cX12_often 59 = .ok (.iload 6, 2) := by decide +kernel
theorem dX12_often_61 : decode cX12_often 61 = .ok (.aload_n 0, 1) := by decide +kernel
theorem dX12_often_62 : decode cX12_often 62 = .ok (.getfield 388, 3) := by decide +kernel
theorem dX12_often_65 : decode cX12_often 65 = .ok (.irem, 1) := by decide +kernel
theorem dX12_often_66 : decode cX12_often 66 = .ok (.iaload, 1) := by decide +kernel
theorem dX12_often_67 : decode cX12_often 67 = .ok (.iload_n 1, 1) := by decide +kernel
theorem dX12_often_68 : decode cX12_often 68 = .ok (.invokevirtual 364, 3) := by decide +kernel
theorem dX12_often_71 : decode cX12_often 71 = .ok (.ifCond .eq 29, 3) := by decide +kernel
theorem dX12_often_74 : decode cX12_often 74 = .ok (.lload_n 2, 1) := by decide +kernel
theorem dX12_often_75 : decode cX12_often 75 = .ok (.iload 6, 2) := by decide +kernel
theorem dX12_often_77 : decode cX12_often 77 = .ok (.i2l, 1) := by decide +kernel
theorem dX12_often_78 : decode cX12_often 78 = .ok (.lcmp, 1) := by decide +kernel
theorem dX12_often_79 : decode cX12_often 79 = .ok (.ifCond .lt 21, 3) := by decide +kernel
theorem dX12_often_82 : decode cX12_often 82 = .ok (.lload 4, 2) := by decide +kernel
theorem dX12_often_84 : decode cX12_often 84 = .ok (.lload_n 2, 1) := by decide +kernel
theorem dX12_often_85 : decode cX12_often 85 = .ok (.iload 6, 2) := by decide +kernel
theorem dX12_often_87 : decode cX12_often 87 = .ok (.i2l, 1) := by decide +kernel
theorem dX12_often_88 : decode cX12_often 88 = .ok (.lsub, 1) := by decide +kernel
theorem dX12_often_89 : decode cX12_often 89 = .ok (.aload_n 0, 1) := by decide +kernel
theorem dX12_often_90 : decode cX12_often 90 = .ok (.getfield 388, 3) := by decide +kernel
theorem dX12_often_93 : decode cX12_often 93 = .ok (.i2l, 1) := by decide +kernel
theorem dX12_often_94 : decode cX12_often 94 = .ok (.ldiv, 1) := by decide +kernel
theorem dX12_often_95 : decode cX12_often 95 = .ok (.lconst 1, 1) := by decide +kernel
theorem dX12_often_96 : decode cX12_often 96 = .ok (.ladd, 1) := by decide +kernel
theorem dX12_often_97 : decode cX12_often 97 = .ok (.ladd, 1) := by decide +kernel
theorem dX12_often_98 : decode cX12_often 98 = .ok (.lstore 4, 2) := by decide +kernel
theorem dX12_often_100 : decode cX12_often 100 = .ok (.iinc 6 1, 3) := by decide +kernel
theorem dX12_often_103 : decode cX12_often 103 = .ok (.goto (-58), 3) := by decide +kernel
theorem dX12_often_106 : decode cX12_often 106 = .ok (.lload 4, 2) := by decide +kernel
theorem dX12_often_108 : decode cX12_often 108 = .ok (.lreturn, 1) := by decide +kernel
theorem dX12_noFound_0 : decode cX12_noFound 0 = .ok (.aload_n 0, 1) := by decide +kernel
theorem dX12_noFound_1 : decode cX12_noFound 1 = .ok (.iload_n 1, 1) := by decide +kernel
theorem dX12_noFound_2 : decode cX12_noFound 2 = .ok (.invokevirtual 314, 3) := by decide +kernel
theorem dX12_noFound_5 : decode cX12_noFound 5 = .ok (.istore_n 2, 1) := by decide +kernel
theorem dX12_noFound_6 : decode cX12_noFound 6 = .ok (.iload_n 2, 1) := by decide +kernel
theorem dX12_noFound_7 : decode cX12_noFound 7 = .ok (.ifCond .eq 5, 3) := by decide +kernel
theorem dX12_noFound_10 : decode cX12_noFound 10 = .ok (.iload_n 2, 1) := by decide +kernel
theorem dX12_noFound_11 : decode cX12_noFound 11 = .ok (.ireturn, 1) := by decide +kernel
theorem dX12_noFound_12 : decode cX12_noFound 12 = .ok (.aload_n 0, 1) := by decide +kernel
theorem dX12_noFound_13 : decode cX12_noFound 13 = .ok (.getfield 82, 3) := by decide +kernel
theorem dX12_noFound_16 : decode cX12_noFound 16 = .ok (.iload_n 1, 1) := by decide +kernel
theorem dX12_noFound_17 : decode cX12_noFound 17 = .ok (.iaload, 1) := by decide +kernel
theorem dX12_noFound_18 : decode cX12_noFound 18 = .ok (.i2l, 1) := by decide +kernel
theorem dX12_noFound_19 : decode cX12_noFound 19 = .ok (.lconst 1, 1) := by decide +kernel
theorem dX12_noFound_20 : decode cX12_noFound 20 = .ok (.ldc2_w 394, 3) := by decide +kernel
theorem dX12_noFound_23 : decode cX12_noFound 23 = .ok (.invokestatic 157, 3) := by decide +kernel
theorem dX12_noFound_26 : decode cX12_noFound 26 = .ok (.ifCond .ne 6, 3) := by decide +kernel
theorem dX12_noFound_29 : decode cX12_noFound 29 = .ok (.bipush (-4), 2) := by decide +kernel
theorem dX12_noFound_31 : decode cX12_noFound 31 = .ok (.ireturn, 1) := by decide +kernel
theorem dX12_noFound_32 : decode cX12_noFound 32 = .ok (.iconst 0, 1) := by decide +kernel
theorem dX12_noFound_33 : decode cX12_noFound 33 = .ok (.istore_n 3, 1) := by decide +kernel
theorem dX12_noFound_34 : decode cX12_noFound 34 = .ok (.iload_n 3, 1) := by decide +kernel
theorem dX12_noFound_35 : decode cX12_noFound 35 = .ok (.aload_n 0, 1) := by decide +kernel
theorem dX12_noFound_36 : decode cX12_noFound 36 = .ok (.getfield 82, 3) := by decide +kernel
theorem dX12_noFound_39 : decode cX12_noFound 39 = .ok (.iload_n 1, 1) := by decide +kernel
theorem dX12_noFound_40 : decode cX12_noFound 40 = .ok (.iaload, 1) := by decide +kernel
theorem dX12_noFound_41 : decode cX12_noFound 41 = .ok (.if_icmp .ge 41, 3) := by decide +kernel
theorem dX12_noFound_44 : decode cX12_noFound 44 = .ok (.aload_n 0, 1) := by decide +kernel
theorem dX12_noFound_45 : decode cX12_noFound 45 = .ok (.getfield 85, 3) := by decide +kernel
theorem dX12_noFound_48 : decode cX12_noFound 48 = .ok (.bipush 40, 2) := by decide +kernel
theorem dX12_noFound_50 : decode cX12_noFound 50 = .ok (.iload_n 1, 1) := by decide +kernel
theorem dX12_noFound_51 : decode cX12_noFound 51 = .ok (.imul, 1) := by decide +kernel
theorem dX12_noFound_52 : decode cX12_noFound 52 = .ok (.iload_n 3, 1) := by decide +kernel
theorem dX12_noFound_53 : decode cX12_noFound 53 = .ok (.iadd, 1) := by decide +kernel
theorem dX12_noFound_54 : decode cX12_noFound 54 = .ok (.laload, 1) := by decide +kernel
theorem dX12_noFound_55 : decode cX12_noFound 55 = .ok (.ldc2_w 396, 3) := by decide +kernel
theorem dX12_noFound_58 : decode cX12_noFound 58 = .ok (.aload_n 0, 1) := by decide +kernel
theorem dX12_noFound_59 : decode cX12_noFound 59 = .ok (.getfield 13, 3) := by decide +kernel
theorem dX12_noFound_62 : decode cX12_noFound 62 = .ok (.iconst 1, 1) := by decide +kernel
theorem dX12_noFound_63 : decode cX12_noFound 63 = .ok (.iaload, 1) := by decide +kernel
theorem dX12_noFound_64 : decode cX12_noFound 64 = .ok (.iconst 1, 1) := by decide +kernel
theorem dX12_noFound_65 : decode cX12_noFound 65 = .ok (.isub, 1) := by decide +kernel
theorem dX12_noFound_66 : decode cX12_noFound 66 = .ok (.i2l, 1) := by decide +kernel
theorem dX12_noFound_67 : decode cX12_noFound 67 = .ok (.invokestatic 157, 3) := by decide +kernel
theorem dX12_noFound_70 : decode cX12_noFound 70 = .ok (.ifCond .ne 6, 3) := by decide +kernel
theorem dX12_noFound_73 : decode cX12_noFound 73 = .ok (.bipush (-3), 2) := by decide +kernel
theorem dX12_noFound_75 : decode cX12_noFound 75 = .ok (.ireturn, 1) := by decide +kernel
theorem dX12_noFound_76 : decode cX12_noFound 76 = .ok (.iinc 3 1, 3) := by decide +kernel
theorem dX12_noFound_79 : decode cX12_noFound 79 = .ok (.goto (-45), 3) := by decide +kernel
theorem dX12_noFound_82 : decode cX12_noFound 82 = .ok (.iconst 0, 1) := by decide +kernel
theorem dX12_noFound_83 : decode cX12_noFound 83 = .ok (.ireturn, 1) := by decide +kernel
theorem dX12_noOne_0 : decode cX12_noOne 0 = .ok (.iload_n 1, 1) := by decide +kernel
theorem dX12_noOne_1 : decode cX12_noOne 1 = .ok (.i2l, 1) := by decide +kernel
theorem dX12_noOne_2 : decode cX12_noOne 2 = .ok (.lconst 0, 1) := by decide +kernel
theorem dX12_noOne_3 : decode cX12_noOne 3 = .ok (.ldc2_w 312, 3) := by decide +kernel
theorem dX12_noOne_6 : decode cX12_noOne 6 = .ok (.invokestatic 157, 3) := by decide +kernel
theorem dX12_noOne_9 : decode cX12_noOne 9 = .ok (.ifCond .eq 12, 3) := by decide +kernel
theorem dX12_noOne_12 : decode cX12_noOne 12 = .ok (.aload_n 0, 1) := by decide +kernel
theorem dX12_noOne_13 : decode cX12_noOne 13 = .ok (.iload_n 2, 1) := by decide +kernel
theorem dX12_noOne_14 : decode cX12_noOne 14 = .ok (.i2l, 1) := by decide +kernel
theorem dX12_noOne_15 : decode cX12_noOne 15 = .ok (.invokevirtual 261, 3) := by decide +kernel
theorem dX12_noOne_18 : decode cX12_noOne 18 = .ok (.ifCond .ne 8, 3) := by decide +kernel
theorem dX12_noOne_21 : decode cX12_noOne 21 = .ok (.bipush (-2), 2) := by decide +kernel
theorem dX12_noOne_23 : decode cX12_noOne 23 = .ok (.goto 8, 3) := by decide +kernel
theorem dX12_noOne_26 : decode cX12_noOne 26 = .ok (.aload_n 0, 1) := by decide +kernel
theorem dX12_noOne_27 : decode cX12_noOne 27 = .ok (.iload_n 1, 1) := by decide +kernel
theorem dX12_noOne_28 : decode cX12_noOne 28 = .ok (.invokevirtual 398, 3) := by decide +kernel
theorem dX12_noOne_31 : decode cX12_noOne 31 = .ok (.ireturn, 1) := by decide +kernel
theorem dX12_isFound_0 : decode cX12_isFound 0 = .ok (.aload_n 0, 1) := by decide +kernel
theorem dX12_isFound_1 : decode cX12_isFound 1 = .ok (.iload_n 2, 1) := by decide +kernel
theorem dX12_isFound_2 : decode cX12_isFound 2 = .ok (.iload_n 3, 1) := by decide +kernel
theorem dX12_isFound_3 : decode cX12_isFound 3 = .ok (.aload_n 0, 1) := by decide +kernel
theorem dX12_isFound_4 : decode cX12_isFound 4 = .ok (.getfield 13, 3) := by decide +kernel
theorem dX12_isFound_7 : decode cX12_isFound 7 = .ok (.bipush 22, 2) := by decide +kernel
theorem dX12_isFound_9 : decode cX12_isFound 9 = .ok (.iaload, 1) := by decide +kernel
theorem dX12_isFound_10 : decode cX12_isFound 10 = .ok (.invokevirtual 254, 3) := by decide +kernel
theorem dX12_isFound_13 : decode cX12_isFound 13 = .ok (.aload_n 0, 1) := by decide +kernel
theorem dX12_isFound_14 : decode cX12_isFound 14 = .ok (.getfield 241, 3) := by decide +kernel
theorem dX12_isFound_17 : decode cX12_isFound 17 = .ok (.aload_n 0, 1) := by decide +kernel
theorem dX12_isFound_18 : decode cX12_isFound 18 = .ok (.getfield 82, 3) := by decide +kernel
theorem dX12_isFound_21 : decode cX12_isFound 21 = .ok (.iload_n 1, 1) := by decide +kernel
theorem dX12_isFound_22 : decode cX12_isFound 22 = .ok (.iaload, 1) := by decide +kernel
theorem dX12_isFound_23 : decode cX12_isFound 23 = .ok (.if_icmp .ge 5, 3) := by decide +kernel
theorem dX12_isFound_26 : decode cX12_isFound 26 = .ok (.iconst 0, 1) := by decide +kernel
theorem dX12_isFound_27 : decode cX12_isFound 27 = .ok (.ireturn, 1) := by decide +kernel
theorem dX12_isFound_28 : decode cX12_isFound 28 = .ok (.iconst 0, 1) := by decide +kernel
theorem dX12_isFound_29 : decode cX12_isFound 29 = .ok (.istore 4, 2) := by decide +kernel
theorem dX12_isFound_31 : decode cX12_isFound 31 = .ok (.iload 4, 2) := by decide +kernel
theorem dX12_isFound_33 : decode cX12_isFound 33 = .ok (.aload_n 0, 1) := by decide +kernel
theorem dX12_isFound_34 : decode cX12_isFound 34 = .ok (.getfield 82, 3) := by decide +kernel
theorem dX12_isFound_37 : decode cX12_isFound 37 = .ok (.iload_n 1, 1) := by decide +kernel
theorem dX12_isFound_38 : decode cX12_isFound 38 = .ok (.iaload, 1) := by decide +kernel
theorem dX12_isFound_39 : decode cX12_isFound 39 = .ok (.if_icmp .ge 53, 3) := by decide +kernel
theorem dX12_isFound_42 : decode cX12_isFound 42 = .ok (.aload_n 0, 1) := by decide +kernel
theorem dX12_isFound_43 : decode cX12_isFound 43 = .ok (.getfield 85, 3) := by decide +kernel
theorem dX12_isFound_46 : decode cX12_isFound 46 = .ok (.bipush 40, 2) := by decide +kernel
theorem dX12_isFound_48 : decode cX12_isFound 48 = .ok (.iload_n 1, 1) := by decide +kernel
theorem dX12_isFound_49 : decode cX12_isFound 49 = .ok (.imul, 1) := by decide +kernel
theorem dX12_isFound_50 : decode cX12_isFound 50 = .ok (.iload 4, 2) := by decide +kernel
theorem dX12_isFound_52 : decode cX12_isFound 52 = .ok (.iadd, 1) := by decide +kernel
theorem dX12_isFound_53 : decode cX12_isFound 53 = .ok (.laload, 1) := by decide +kernel
theorem dX12_isFound_54 : decode cX12_isFound 54 = .ok (.lstore 5, 2) := by decide +kernel
theorem dX12_isFound_56 : decode cX12_isFound 56 = .ok (.lload 5, 2) := by decide +kernel
theorem dX12_isFound_58 : decode cX12_isFound 58 = .ok (.ldc2_w 396, 3) := by decide +kernel
theorem dX12_isFound_61 : decode cX12_isFound 61 = .ok (.lcmp, 1) := by decide +kernel
theorem dX12_isFound_62 : decode cX12_isFound 62 = .ok (.ifCond .eq 24, 3) := by decide +kernel
theorem dX12_isFound_65 : decode cX12_isFound 65 = .ok (.lload 5, 2) := by decide +kernel
theorem dX12_isFound_67 : decode cX12_isFound 67 = .ok (.aload_n 0, 1) := by decide +kernel
theorem dX12_isFound_68 : decode cX12_isFound 68 = .ok (.iload_n 2, 1) := by decide +kernel
theorem dX12_isFound_69 : decode cX12_isFound 69 = .ok (.aload_n 0, 1) := by decide +kernel
theorem dX12_isFound_70 : decode cX12_isFound 70 = .ok (.getfield 42, 3) := by decide +kernel
theorem dX12_isFound_73 : decode cX12_isFound 73 = .ok (.iload 4, 2) := by decide +kernel
theorem dX12_isFound_75 : decode cX12_isFound 75 = .ok (.iaload, 1) := by decide +kernel
theorem dX12_isFound_76 : decode cX12_isFound 76 = .ok (.invokevirtual 251, 3) := by decide +kernel
theorem dX12_isFound_79 : decode cX12_isFound 79 = .ok (.i2l, 1) := by decide +kernel
theorem dX12_isFound_80 : decode cX12_isFound 80 = .ok (.lcmp, 1) := by decide +kernel
theorem dX12_isFound_81 : decode cX12_isFound 81 = .ok (.ifCond .eq 5, 3) := by decide +kernel
theorem dX12_isFound_84 : decode cX12_isFound 84 = .ok (.iconst 0, 1) := by decide +kernel
theorem dX12_isFound_85 : decode cX12_isFound 85 = .ok (.ireturn, 1) := by decide +kernel
theorem dX12_isFound_86 : decode cX12_isFound 86 = .ok (.iinc 4 1, 3) := by decide +kernel
theorem dX12_isFound_89 : decode cX12_isFound 89 = .ok (.goto (-58), 3) := by decide +kernel
theorem dX12_isFound_92 : decode cX12_isFound 92 = .ok (.iconst 1, 1) := by decide +kernel
theorem dX12_isFound_93 : decode cX12_isFound 93 = .ok (.ireturn, 1) := by decide +kernel
theorem dX12_laysFound_0 : decode cX12_laysFound 0 = .ok (.iconst 0, 1) := by decide +kernel
theorem dX12_laysFound_1 : decode cX12_laysFound 1 = .ok (.istore_n 3, 1) := by decide +kernel
theorem dX12_laysFound_2 : decode cX12_laysFound 2 = .ok (.iconst 0, 1) := by decide +kernel
theorem dX12_laysFound_3 : decode cX12_laysFound 3 = .ok (.istore 4, 2) := by decide +kernel
theorem dX12_laysFound_5 : decode cX12_laysFound 5 = .ok (.iload 4, 2) := by decide +kernel
theorem dX12_laysFound_7 : decode cX12_laysFound 7 = .ok (.bipush 36, 2) := by decide +kernel
theorem dX12_laysFound_9 : decode cX12_laysFound 9 = .ok (.if_icmp .ge 17, 3) := by decide +kernel
theorem dX12_laysFound_12 : decode cX12_laysFound 12 = .ok (.aload_n 0, 1) := by decide +kernel
theorem dX12_laysFound_13 : decode cX12_laysFound 13 = .ok (.getfield 76, 3) := by decide +kernel
