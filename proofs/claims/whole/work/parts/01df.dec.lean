theorem dX12_fault_16 : decode cX12_fault 16 = .ok (.iload_n 1, 1) := by decide +kernel
theorem dX12_fault_17 : decode cX12_fault 17 = .ok (.iconst 1, 1) := by decide +kernel
theorem dX12_fault_18 : decode cX12_fault 18 = .ok (.if_icmp .ne 10, 3) := by decide +kernel
theorem dX12_fault_21 : decode cX12_fault 21 = .ok (.aload_n 0, 1) := by decide +kernel
theorem dX12_fault_22 : decode cX12_fault 22 = .ok (.getfield 27, 3) := by decide +kernel
theorem dX12_fault_25 : decode cX12_fault 25 = .ok (.goto 4, 3) := by decide +kernel
theorem dX12_fault_28 : decode cX12_fault 28 = .ok (.iconst (-1), 1) := by decide +kernel
theorem dX12_fault_29 : decode cX12_fault 29 = .ok (.ireturn, 1) := by decide +kernel
theorem dX12_laysAll_0 : decode cX12_laysAll 0 = .ok (.aload_n 0, 1) := by decide +kernel
theorem dX12_laysAll_1 : decode cX12_laysAll 1 = .ok (.iconst 0, 1) := by decide +kernel
theorem dX12_laysAll_2 : decode cX12_laysAll 2 = .ok (.putfield 223, 3) := by decide +kernel
theorem dX12_laysAll_5 : decode cX12_laysAll 5 = .ok (.aload_n 0, 1) := by decide +kernel
theorem dX12_laysAll_6 : decode cX12_laysAll 6 = .ok (.iconst 0, 1) := by decide +kernel
theorem dX12_laysAll_7 : decode cX12_laysAll 7 = .ok (.iconst 0, 1) := by decide +kernel
theorem dX12_laysAll_8 : decode cX12_laysAll 8 = .ok (.invokevirtual 226, 3) := by decide +kernel
theorem dX12_laysAll_11 : decode cX12_laysAll 11 = .ok (.return_, 1) := by decide +kernel
theorem dX12_goesAll_0 : decode cX12_goesAll 0 = .ok (.iload_n 1, 1) := by decide +kernel
theorem dX12_goesAll_1 : decode cX12_goesAll 1 = .ok (.aload_n 0, 1) := by decide +kernel
theorem dX12_goesAll_2 : decode cX12_goesAll 2 = .ok (.getfield 13, 3) := by decide +kernel
theorem dX12_goesAll_5 : decode cX12_goesAll 5 = .ok (.iconst 1, 1) := by decide +kernel
theorem dX12_goesAll_6 : decode cX12_goesAll 6 = .ok (.iaload, 1) := by decide +kernel
theorem dX12_goesAll_7 : decode cX12_goesAll 7 = .ok (.if_icmp .ne 47, 3) := by decide +kernel
theorem dX12_goesAll_10 : decode cX12_goesAll 10 = .ok (.iconst 0, 1) := by decide +kernel
theorem dX12_goesAll_11 : decode cX12_goesAll 11 = .ok (.istore_n 3, 1) := by decide +kernel
theorem dX12_goesAll_12 : decode cX12_goesAll 12 = .ok (.iload_n 3, 1) := by decide +kernel
theorem dX12_goesAll_13 : decode cX12_goesAll 13 = .ok (.iload_n 1, 1) := by decide +kernel
theorem dX12_goesAll_14 : decode cX12_goesAll 14 = .ok (.if_icmp .ge 29, 3) := by decide +kernel
theorem dX12_goesAll_17 : decode cX12_goesAll 17 = .ok (.aload_n 0, 1) := by decide +kernel
theorem dX12_goesAll_18 : decode cX12_goesAll 18 = .ok (.getfield 30, 3) := by decide +kernel
theorem dX12_goesAll_21 : decode cX12_goesAll 21 = .ok (.bipush 6, 2) := by decide +kernel
theorem dX12_goesAll_23 : decode cX12_goesAll 23 = .ok (.aload_n 0, 1) := by decide +kernel
theorem dX12_goesAll_24 : decode cX12_goesAll 24 = .ok (.getfield 223, 3) := by decide +kernel
theorem dX12_goesAll_27 : decode cX12_goesAll 27 = .ok (.imul, 1) := by decide +kernel
theorem dX12_goesAll_28 : decode cX12_goesAll 28 = .ok (.iload_n 3, 1) := by decide +kernel
theorem dX12_goesAll_29 : decode cX12_goesAll 29 = .ok (.iadd, 1) := by decide +kernel
theorem dX12_goesAll_30 : decode cX12_goesAll 30 = .ok (.aload_n 0, 1) := by decide +kernel
theorem dX12_goesAll_31 : decode cX12_goesAll 31 = .ok (.getfield 33, 3) := by decide +kernel
theorem dX12_goesAll_34 : decode cX12_goesAll 34 = .ok (.iload_n 3, 1) := by decide +kernel
theorem dX12_goesAll_35 : decode cX12_goesAll 35 = .ok (.iaload, 1) := by decide +kernel
theorem dX12_goesAll_36 : decode cX12_goesAll 36 = .ok (.iastore, 1) := by decide +kernel
theorem dX12_goesAll_37 : decode cX12_goesAll 37 = .ok (.iinc 3 1, 3) := by decide +kernel
theorem dX12_goesAll_40 : decode cX12_goesAll 40 = .ok (.goto (-28), 3) := by decide +kernel
theorem dX12_goesAll_43 : decode cX12_goesAll 43 = .ok (.aload_n 0, 1) := by decide +kernel
theorem dX12_goesAll_44 : decode cX12_goesAll 44 = .ok (.dup, 1) := by decide +kernel
theorem dX12_goesAll_45 : decode cX12_goesAll 45 = .ok (.getfield 223, 3) := by decide +kernel
theorem dX12_goesAll_48 : decode cX12_goesAll 48 = .ok (.iconst 1, 1) := by decide +kernel
theorem dX12_goesAll_49 : decode cX12_goesAll 49 = .ok (.iadd, 1) := by decide +kernel
theorem dX12_goesAll_50 : decode cX12_goesAll 50 = .ok (.putfield 223, 3) := by decide +kernel
theorem dX12_goesAll_53 : decode cX12_goesAll 53 = .ok (.return_, 1) := by decide +kernel
theorem dX12_goesAll_54 : decode cX12_goesAll 54 = .ok (.iconst 0, 1) := by decide +kernel
theorem dX12_goesAll_55 : decode cX12_goesAll 55 = .ok (.istore_n 3, 1) := by decide +kernel
theorem dX12_goesAll_56 : decode cX12_goesAll 56 = .ok (.iload_n 3, 1) := by decide +kernel
theorem dX12_goesAll_57 : decode cX12_goesAll 57 = .ok (.aload_n 0, 1) := by decide +kernel
theorem dX12_goesAll_58 : decode cX12_goesAll 58 = .ok (.getfield 13, 3) := by decide +kernel
theorem dX12_goesAll_61 : decode cX12_goesAll 61 = .ok (.iconst 1, 1) := by decide +kernel
theorem dX12_goesAll_62 : decode cX12_goesAll 62 = .ok (.iaload, 1) := by decide +kernel
theorem dX12_goesAll_63 : decode cX12_goesAll 63 = .ok (.if_icmp .ge 40, 3) := by decide +kernel
theorem dX12_goesAll_66 : decode cX12_goesAll 66 = .ok (.iload_n 2, 1) := by decide +kernel
theorem dX12_goesAll_67 : decode cX12_goesAll 67 = .ok (.i2l, 1) := by decide +kernel
theorem dX12_goesAll_68 : decode cX12_goesAll 68 = .ok (.iload_n 3, 1) := by decide +kernel
theorem dX12_goesAll_69 : decode cX12_goesAll 69 = .ok (.invokestatic 230, 3) := by decide +kernel
theorem dX12_goesAll_72 : decode cX12_goesAll 72 = .ok (.ifCond .eq 6, 3) := by decide +kernel
theorem dX12_goesAll_75 : decode cX12_goesAll 75 = .ok (.goto 22, 3) := by decide +kernel
theorem dX12_goesAll_78 : decode cX12_goesAll 78 = .ok (.aload_n 0, 1) := by decide +kernel
theorem dX12_goesAll_79 : decode cX12_goesAll 79 = .ok (.getfield 33, 3) := by decide +kernel
theorem dX12_goesAll_82 : decode cX12_goesAll 82 = .ok (.iload_n 1, 1) := by decide +kernel
theorem dX12_goesAll_83 : decode cX12_goesAll 83 = .ok (.iload_n 3, 1) := by decide +kernel
theorem dX12_goesAll_84 : decode cX12_goesAll 84 = .ok (.iastore, 1) := by decide +kernel
theorem dX12_goesAll_85 : decode cX12_goesAll 85 = .ok (.aload_n 0, 1) := by decide +kernel
theorem dX12_goesAll_86 : decode cX12_goesAll 86 = .ok (.iload_n 1, 1) := by decide +kernel
theorem dX12_goesAll_87 : decode cX12_goesAll 87 = .ok (.iconst 1, 1) := by decide +kernel
theorem dX12_goesAll_88 : decode cX12_goesAll 88 = .ok (.iadd, 1) := by decide +kernel
theorem dX12_goesAll_89 : decode cX12_goesAll 89 = .ok (.iload_n 2, 1) := by decide +kernel
theorem dX12_goesAll_90 : decode cX12_goesAll 90 = .ok (.iconst 1, 1) := by decide +kernel
theorem dX12_goesAll_91 : decode cX12_goesAll 91 = .ok (.iload_n 3, 1) := by decide +kernel
theorem dX12_goesAll_92 : decode cX12_goesAll 92 = .ok (.ishl, 1) := by decide +kernel
theorem dX12_goesAll_93 : decode cX12_goesAll 93 = .ok (.ior, 1) := by decide +kernel
theorem dX12_goesAll_94 : decode cX12_goesAll 94 = .ok (.invokevirtual 226, 3) := by decide +kernel
theorem dX12_goesAll_97 : decode cX12_goesAll 97 = .ok (.iinc 3 1, 3) := by decide +kernel
theorem dX12_goesAll_100 : decode cX12_goesAll 100 = .ok (.goto (-44), 3) := by decide +kernel
theorem dX12_goesAll_103 : decode cX12_goesAll 103 = .ok (.return_, 1) := by decide +kernel
theorem dX12_nameIn_0 : decode cX12_nameIn 0 = .ok (.aload_n 0, 1) := by decide +kernel
theorem dX12_nameIn_1 : decode cX12_nameIn 1 = .ok (.getfield 30, 3) := by decide +kernel
theorem dX12_nameIn_4 : decode cX12_nameIn 4 = .ok (.bipush 6, 2) := by decide +kernel
theorem dX12_nameIn_6 : decode cX12_nameIn 6 = .ok (.iload_n 1, 1) := by decide +kernel
theorem dX12_nameIn_7 : decode cX12_nameIn 7 = .ok (.imul, 1) := by decide +kernel
theorem dX12_nameIn_8 : decode cX12_nameIn 8 = .ok (.iload_n 2, 1) := by decide +kernel
theorem dX12_nameIn_9 : decode cX12_nameIn 9 = .ok (.iadd, 1) := by decide +kernel
theorem dX12_nameIn_10 : decode cX12_nameIn 10 = .ok (.iaload, 1) := by decide +kernel
theorem dX12_nameIn_11 : decode cX12_nameIn 11 = .ok (.ireturn, 1) := by decide +kernel
theorem dX12_numberNow_0 : decode cX12_numberNow 0 = .ok (.aload_n 0, 1) := by decide +kernel
theorem dX12_numberNow_1 : decode cX12_numberNow 1 = .ok (.getfield 13, 3) := by decide +kernel
theorem dX12_numberNow_4 : decode cX12_numberNow 4 = .ok (.iconst 1, 1) := by decide +kernel
theorem dX12_numberNow_5 : decode cX12_numberNow 5 = .ok (.iaload, 1) := by decide +kernel
theorem dX12_numberNow_6 : decode cX12_numberNow 6 = .ok (.istore_n 1, 1) := by decide +kernel
theorem dX12_numberNow_7 : decode cX12_numberNow 7 = .ok (.iconst 0, 1) := by decide +kernel
theorem dX12_numberNow_8 : decode cX12_numberNow 8 = .ok (.istore_n 2, 1) := by decide +kernel
theorem dX12_numberNow_9 : decode cX12_numberNow 9 = .ok (.iconst 0, 1) := by decide +kernel
theorem dX12_numberNow_10 : decode cX12_numberNow 10 = .ok (.istore_n 3, 1) := by decide +kernel
theorem dX12_numberNow_11 : decode cX12_numberNow 11 = .ok (.iload_n 3, 1) := by decide +kernel
theorem dX12_numberNow_12 : decode cX12_numberNow 12 = .ok (.iload_n 1, 1) := by decide +kernel
theorem dX12_numberNow_13 : decode cX12_numberNow 13 = .ok (.if_icmp .ge 64, 3) := by decide +kernel
theorem dX12_numberNow_16 : decode cX12_numberNow 16 = .ok (.iconst 0, 1) := by decide +kernel
theorem dX12_numberNow_17 : decode cX12_numberNow 17 = .ok (.istore 4, 2) := by decide +kernel
theorem dX12_numberNow_19 : decode cX12_numberNow 19 = .ok (.iload_n 3, 1) := by decide +kernel
theorem dX12_numberNow_20 : decode cX12_numberNow 20 = .ok (.iconst 1, 1) := by decide +kernel
theorem dX12_numberNow_21 : decode cX12_numberNow 21 = .ok (.iadd, 1) := by decide +kernel
theorem dX12_numberNow_22 : decode cX12_numberNow 22 = .ok (.istore 5, 2) := by decide +kernel
theorem dX12_numberNow_24 : decode cX12_numberNow 24 = .ok (.iload 5, 2) := by decide +kernel
theorem dX12_numberNow_26 : decode cX12_numberNow 26 = .ok (.iload_n 1, 1) := by decide +kernel
theorem dX12_numberNow_27 : decode cX12_numberNow 27 = .ok (.if_icmp .ge 35, 3) := by decide +kernel
theorem dX12_numberNow_30 : decode cX12_numberNow 30 = .ok (.iload 4, 2) := by decide +kernel
theorem dX12_numberNow_32 : decode cX12_numberNow 32 = .ok (.aload_n 0, 1) := by decide +kernel
theorem dX12_numberNow_33 : decode cX12_numberNow 33 = .ok (.getfield 33, 3) := by decide +kernel
theorem dX12_numberNow_36 : decode cX12_numberNow 36 = .ok (.iload 5, 2) := by decide +kernel
theorem dX12_numberNow_38 : decode cX12_numberNow 38 = .ok (.iaload, 1) := by decide +kernel
theorem dX12_numberNow_39 : decode cX12_numberNow 39 = .ok (.aload_n 0, 1) := by decide +kernel
theorem dX12_numberNow_40 : decode cX12_numberNow 40 = .ok (.getfield 33, 3) := by decide +kernel
theorem dX12_numberNow_43 : decode cX12_numberNow 43 = .ok (.iload_n 3, 1) := by decide +kernel
theorem dX12_numberNow_44 : decode cX12_numberNow 44 = .ok (.iaload, 1) := by decide +kernel
theorem dX12_numberNow_45 : decode cX12_numberNow 45 = .ok (.if_icmp .ge 7, 3) := by decide +kernel
theorem dX12_numberNow_48 : decode cX12_numberNow 48 = .ok (.iconst 1, 1) := by decide +kernel
theorem dX12_numberNow_49 : decode cX12_numberNow 49 = .ok (.goto 4, 3) := by decide +kernel
theorem dX12_numberNow_52 : decode cX12_numberNow 52 = .ok (.iconst 0, 1) := by decide +kernel
theorem dX12_numberNow_53 : decode cX12_numberNow 53 = .ok (.iadd, 1) := by decide +kernel
theorem dX12_numberNow_54 : decode cX12_numberNow 54 = .ok (.istore 4, 2) := by decide +kernel
theorem dX12_numberNow_56 : decode cX12_numberNow 56 = .ok (.iinc 5 1, 3) := by decide +kernel
theorem dX12_numberNow_59 : decode cX12_numberNow 59 = .ok (.goto (-35), 3) := by decide +kernel
theorem dX12_numberNow_62 : decode cX12_numberNow 62 = .ok (.iload_n 2, 1) := by decide +kernel
theorem dX12_numberNow_63 : decode cX12_numberNow 63 = .ok (.iload_n 1, 1) := by decide +kernel
theorem dX12_numberNow_64 : decode cX12_numberNow 64 = .ok (.iload_n 3, 1) := by decide +kernel
theorem dX12_numberNow_65 : decode cX12_numberNow 65 = .ok (.isub, 1) := by decide +kernel
theorem dX12_numberNow_66 : decode cX12_numberNow 66 = .ok (.imul, 1) := by decide +kernel
theorem dX12_numberNow_67 : decode cX12_numberNow 67 = .ok (.iload 4, 2) := by decide +kernel
theorem dX12_numberNow_69 : decode cX12_numberNow 69 = .ok (.iadd, 1) := by decide +kernel
theorem dX12_numberNow_70 : decode cX12_numberNow 70 = .ok (.istore_n 2, 1) := by decide +kernel
theorem dX12_numberNow_71 : decode cX12_numberNow 71 = .ok (.iinc 3 1, 3) := by decide +kernel
theorem dX12_numberNow_74 : decode cX12_numberNow 74 = .ok (.goto (-63), 3) := by decide +kernel
theorem dX12_numberNow_77 : decode cX12_numberNow 77 = .ok (.iload_n 2, 1) := by decide +kernel
theorem dX12_numberNow_78 : decode cX12_numberNow 78 = .ok (.ireturn, 1) := by decide +kernel
theorem dX12_isDrawer_0 : decode cX12_isDrawer 0 = .ok (.lload_n 1, 1) := by decide +kernel
theorem dX12_isDrawer_1 : decode cX12_isDrawer 1 = .ok (.lconst 0, 1) := by decide +kernel
theorem dX12_isDrawer_2 : decode cX12_isDrawer 2 = .ok (.aload_n 0, 1) := by decide +kernel
theorem dX12_isDrawer_3 : decode cX12_isDrawer 3 = .ok (.getfield 13, 3) := by decide +kernel
theorem dX12_isDrawer_6 : decode cX12_isDrawer 6 = .ok (.iconst 1, 1) := by decide +kernel
theorem dX12_isDrawer_7 : decode cX12_isDrawer 7 = .ok (.iaload, 1) := by decide +kernel
theorem dX12_isDrawer_8 : decode cX12_isDrawer 8 = .ok (.iconst 1, 1) := by decide +kernel
theorem dX12_isDrawer_9 : decode cX12_isDrawer 9 = .ok (.isub, 1) := by decide +kernel
theorem dX12_isDrawer_10 : decode cX12_isDrawer 10 = .ok (.i2l, 1) := by decide +kernel
theorem dX12_isDrawer_11 : decode cX12_isDrawer 11 = .ok (.invokestatic 157, 3) := by decide +kernel
theorem dX12_isDrawer_14 : decode cX12_isDrawer 14 = .ok (.ireturn, 1) := by decide +kernel
theorem dX12_bitsOf_0 : decode cX12_bitsOf 0 = .ok (.iconst 0, 1) := by decide +kernel
theorem dX12_bitsOf_1 : decode cX12_bitsOf 1 = .ok (.istore_n 1, 1) := by decide +kernel
theorem dX12_bitsOf_2 : decode cX12_bitsOf 2 = .ok (.iconst 0, 1) := by decide +kernel
theorem dX12_bitsOf_3 : decode cX12_bitsOf 3 = .ok (.istore_n 2, 1) := by decide +kernel
theorem dX12_bitsOf_4 : decode cX12_bitsOf 4 = .ok (.iload_n 2, 1) := by decide +kernel
theorem dX12_bitsOf_5 : decode cX12_bitsOf 5 = .ok (.bipush 6, 2) := by decide +kernel
theorem dX12_bitsOf_7 : decode cX12_bitsOf 7 = .ok (.if_icmp .ge 17, 3) := by decide +kernel
theorem dX12_bitsOf_10 : decode cX12_bitsOf 10 = .ok (.iload_n 1, 1) := by decide +kernel
theorem dX12_bitsOf_11 : decode cX12_bitsOf 11 = .ok (.iload_n 0, 1) := by decide +kernel
theorem dX12_bitsOf_12 : decode cX12_bitsOf 12 = .ok (.iload_n 2, 1) := by decide +kernel
theorem dX12_bitsOf_13 : decode cX12_bitsOf 13 = .ok (.ishr, 1) := by decide +kernel
theorem dX12_bitsOf_14 : decode cX12_bitsOf 14 = .ok (.iconst 1, 1) := by decide +kernel
theorem dX12_bitsOf_15 : decode cX12_bitsOf 15 = .ok (.iand, 1) := by decide +kernel
theorem dX12_bitsOf_16 : decode cX12_bitsOf 16 = .ok (.iadd, 1) := by decide +kernel
theorem dX12_bitsOf_17 : decode cX12_bitsOf 17 = .ok (.istore_n 1, 1) := by decide +kernel
theorem dX12_bitsOf_18 : decode cX12_bitsOf 18 = .ok (.iinc 2 1, 3) := by decide +kernel
theorem dX12_bitsOf_21 : decode cX12_bitsOf 21 = .ok (.goto (-17), 3) := by decide +kernel
theorem dX12_bitsOf_24 : decode cX12_bitsOf 24 = .ok (.iload_n 1, 1) := by decide +kernel
theorem dX12_bitsOf_25 : decode cX12_bitsOf 25 = .ok (.ireturn, 1) := by decide +kernel
theorem dX12_between_0 : decode cX12_between 0 = .ok (.iload_n 0, 1) := by decide +kernel
theorem dX12_between_1 : decode cX12_between 1 = .ok (.tableswitch 80 3003 3008 #[39, 50, 61, 80, 72, 76], 39) := by decide +kernel
theorem dX12_between_40 : decode cX12_between 40 = .ok (.iload_n 1, 1) := by decide +kernel
theorem dX12_between_41 : decode cX12_between 41 = .ok (.iload_n 2, 1) := by decide +kernel
theorem dX12_between_42 : decode cX12_between 42 = .ok (.if_icmp .ne 7, 3) := by decide +kernel
theorem dX12_between_45 : decode cX12_between 45 = .ok (.iconst 1, 1) := by decide +kernel
theorem dX12_between_46 : decode cX12_between 46 = .ok (.goto 4, 3) := by decide +kernel
theorem dX12_between_49 : decode cX12_between 49 = .ok (.iconst 0, 1) := by decide +kernel
theorem dX12_between_50 : decode cX12_between 50 = .ok (.ireturn, 1) := by decide +kernel
theorem dX12_between_51 : decode cX12_between 51 = .ok (.iload_n 1, 1) := by decide +kernel
theorem dX12_between_52 : decode cX12_between 52 = .ok (.iload_n 2, 1) := by decide +kernel
theorem dX12_between_53 : decode cX12_between 53 = .ok (.if_icmp .ge 7, 3) := by decide +kernel
theorem dX12_between_56 : decode cX12_between 56 = .ok (.iconst 1, 1) := by decide +kernel
theorem dX12_between_57 : decode cX12_between 57 = .ok (.goto 4, 3) := by decide +kernel
theorem dX12_between_60 : decode cX12_between 60 = .ok (.iconst 0, 1) := by decide +kernel
theorem dX12_between_61 : decode cX12_between 61 = .ok (.ireturn, 1) := by decide +kernel
theorem dX12_between_62 : decode cX12_between 62 = .ok (.iload_n 1, 1) := by decide +kernel
theorem dX12_between_63 : decode cX12_between 63 = .ok (.iload_n 2, 1) := by decide +kernel
theorem dX12_between_64 : decode cX12_between 64 = .ok (.if_icmp .le 7, 3) := by decide +kernel
theorem dX12_between_67 : decode cX12_between 67 = .ok (.iconst 1, 1) := by decide +kernel
theorem dX12_between_68 : decode cX12_between 68 = .ok (.goto 4, 3) := by decide +kernel
theorem dX12_between_71 : decode cX12_between 71 = .ok (.iconst 0, 1) := by decide +kernel
theorem dX12_between_72 : decode cX12_between 72 = .ok (.ireturn, 1) := by decide +kernel
theorem dX12_between_73 : decode cX12_between 73 = .ok (.iload_n 1, 1) := by decide +kernel
theorem dX12_between_74 : decode cX12_between 74 = .ok (.iload_n 2, 1) := by decide +kernel
theorem dX12_between_75 : decode cX12_between 75 = .ok (.iand, 1) := by decide +kernel
theorem dX12_between_76 : decode cX12_between 76 = .ok (.ireturn, 1) := by decide +kernel
theorem dX12_between_77 : decode cX12_between 77 = .ok (.iload_n 1, 1) := by decide +kernel
theorem dX12_between_78 : decode cX12_between 78 = .ok (.iload_n 2, 1) := by decide +kernel
theorem dX12_between_79 : decode cX12_between 79 = .ok (.ior, 1) := by decide +kernel
theorem dX12_between_80 : decode cX12_between 80 = .ok (.ireturn, 1) := by decide +kernel
theorem dX12_between_81 : decode cX12_between 81 = .ok (.iload_n 0, 1) := by decide +kernel
theorem dX12_between_82 : decode cX12_between 82 = .ok (.sipush 3000, 3) := by decide +kernel
theorem dX12_between_85 : decode cX12_between 85 = .ok (.if_icmp .ne 11, 3) := by decide +kernel
theorem dX12_between_88 : decode cX12_between 88 = .ok (.iload_n 1, 1) := by decide +kernel
theorem dX12_between_89 : decode cX12_between 89 = .ok (.i2l, 1) := by decide +kernel
theorem dX12_between_90 : decode cX12_between 90 = .ok (.iload_n 2, 1) := by decide +kernel
theorem dX12_between_91 : decode cX12_between 91 = .ok (.i2l, 1) := by decide +kernel
theorem dX12_between_92 : decode cX12_between 92 = .ok (.ladd, 1) := by decide +kernel
theorem dX12_between_93 : decode cX12_between 93 = .ok (.goto 23, 3) := by decide +kernel
theorem dX12_between_96 : decode cX12_between 96 = .ok (.iload_n 0, 1) := by decide +kernel
theorem dX12_between_97 : decode cX12_between 97 = .ok (.sipush 3001, 3) := by decide +kernel
theorem dX12_between_100 : decode cX12_between 100 = .ok (.if_icmp .ne 11, 3) := by decide +kernel
theorem dX12_between_103 : decode cX12_between 103 = .ok (.iload_n 1, 1) := by decide +kernel
theorem dX12_between_104 : decode cX12_between 104 = .ok (.i2l, 1) := by decide +kernel
theorem dX12_between_105 : decode cX12_between 105 = .ok (.iload_n 2, 1) := by decide +kernel
theorem dX12_between_106 : decode cX12_between 106 = .ok (.i2l, 1) := by decide +kernel
theorem dX12_between_107 : decode cX12_between 107 = .ok (.lsub, 1) := by decide +kernel
theorem dX12_between_108 : decode cX12_between 108 = .ok (.goto 8, 3) := by decide +kernel
theorem dX12_between_111 : decode cX12_between 111 = .ok (.iload_n 1, 1) := by decide +kernel
theorem dX12_between_112 : decode cX12_between 112 = .ok (.i2l, 1) := by decide +kernel
theorem dX12_between_113 : decode cX12_between 113 = .ok (.iload_n 2, 1) := by decide +kernel
theorem dX12_between_114 : decode cX12_between 114 = .ok (.i2l, 1) := by decide +kernel
theorem dX12_between_115 : decode cX12_between 115 = .ok (.lmul, 1) := by decide +kernel
theorem dX12_between_116 : decode cX12_between 116 = .ok (.lstore_n 3, 1) := by decide +kernel
theorem dX12_between_117 : decode cX12_between 117 = .ok (.lload_n 3, 1) := by decide +kernel
theorem dX12_between_118 : decode cX12_between 118 = .ok (.ldc2_w 234, 3) := by decide +kernel
theorem dX12_between_121 : decode cX12_between 121 = .ok (.lcmp, 1) := by decide +kernel
theorem dX12_between_122 : decode cX12_between 122 = .ok (.ifCond .le 9, 3) := by decide +kernel
theorem dX12_between_125 : decode cX12_between 125 = .ok (.ldc2_w 234, 3) := by decide +kernel
theorem dX12_between_128 : decode cX12_between 128 = .ok (.goto 18, 3) := by decide +kernel
theorem dX12_between_131 : decode cX12_between 131 = .ok (.lload_n 3, 1) := by decide +kernel
theorem dX12_between_132 : decode cX12_between 132 = .ok (.ldc2_w 236, 3) := by decide +kernel
theorem dX12_between_135 : decode cX12_between 135 = .ok (.lcmp, 1) := by decide +kernel
theorem dX12_between_136 : decode cX12_between 136 = .ok (.ifCond .ge 9, 3) := by decide +kernel
theorem dX12_between_139 : decode cX12_between 139 = .ok (.ldc2_w 236, 3) := by decide +kernel
theorem dX12_between_142 : decode cX12_between 142 = .ok (.goto 4, 3) := by decide +kernel
theorem dX12_between_145 : decode cX12_between 145 = .ok (.lload_n 3, 1) := by decide +kernel
theorem dX12_between_146 : decode cX12_between 146 = .ok (.l2i, 1) := by decide +kernel
theorem dX12_between_147 : decode cX12_between 147 = .ok (.ireturn, 1) := by decide +kernel
theorem dX12_reckons_0 : decode cX12_reckons 0 = .ok (.iconst 0, 1) := by decide +kernel
theorem dX12_reckons_1 : decode cX12_reckons 1 = .ok (.istore_n 2, 1) := by decide +kernel
theorem dX12_reckons_2 : decode cX12_reckons 2 = .ok (.iconst 0, 1) := by decide +kernel
theorem dX12_reckons_3 : decode cX12_reckons 3 = .ok (.istore_n 3, 1) := by decide +kernel
theorem dX12_reckons_4 : decode cX12_reckons 4 = .ok (.iload_n 3, 1) := by decide +kernel
theorem dX12_reckons_5 : decode cX12_reckons 5 = .ok (.aload_n 0, 1) := by decide +kernel
theorem dX12_reckons_6 : decode cX12_reckons 6 = .ok (.getfield 13, 3) := by decide +kernel
theorem dX12_reckons_9 : decode cX12_reckons 9 = .ok (.bipush 7, 2) := by decide +kernel
theorem dX12_reckons_11 : decode cX12_reckons 11 = .ok (.iload_n 1, 1) := by decide +kernel
theorem dX12_reckons_12 : decode cX12_reckons 12 = .ok (.iadd, 1) := by decide +kernel
theorem dX12_reckons_13 : decode cX12_reckons 13 = .ok (.iaload, 1) := by decide +kernel
theorem dX12_reckons_14 : decode cX12_reckons 14 = .ok (.if_icmp .ge 183, 3) := by decide +kernel
theorem dX12_reckons_17 : decode cX12_reckons 17 = .ok (.aload_n 0, 1) := by decide +kernel
theorem dX12_reckons_18 : decode cX12_reckons 18 = .ok (.getfield 13, 3) := by decide +kernel
theorem dX12_reckons_21 : decode cX12_reckons 21 = .ok (.bipush 56, 2) := by decide +kernel
theorem dX12_reckons_23 : decode cX12_reckons 23 = .ok (.aload_n 0, 1) := by decide +kernel
theorem dX12_reckons_24 : decode cX12_reckons 24 = .ok (.getfield 13, 3) := by decide +kernel
theorem dX12_reckons_27 : decode cX12_reckons 27 = .ok (.iconst 5, 1) := by decide +kernel
theorem dX12_reckons_28 : decode cX12_reckons 28 = .ok (.iload_n 1, 1) := by decide +kernel
theorem dX12_reckons_29 : decode cX12_reckons 29 = .ok (.iadd, 1) := by decide +kernel
theorem dX12_reckons_30 : decode cX12_reckons 30 = .ok (.iaload, 1) := by decide +kernel
theorem dX12_reckons_31 : decode cX12_reckons 31 = .ok (.iadd, 1) := by decide +kernel
theorem dX12_reckons_32 : decode cX12_reckons 32 = .ok (.iload_n 3, 1) := by decide +kernel
theorem dX12_reckons_33 : decode cX12_reckons 33 = .ok (.iadd, 1) := by decide +kernel
theorem dX12_reckons_34 : decode cX12_reckons 34 = .ok (.iaload, 1) := by decide +kernel
theorem dX12_reckons_35 : decode cX12_reckons 35 = .ok (.istore 4, 2) := by decide +kernel
theorem dX12_reckons_37 : decode cX12_reckons 37 = .ok (.iload 4, 2) := by decide +kernel
theorem dX12_reckons_39 : decode cX12_reckons 39 = .ok (.sipush 3000, 3) := by decide +kernel
theorem dX12_reckons_42 : decode cX12_reckons 42 = .ok (.if_icmp .ge 39, 3) := by decide +kernel
theorem dX12_reckons_45 : decode cX12_reckons 45 = .ok (.aload_n 0, 1) := by decide +kernel
theorem dX12_reckons_46 : decode cX12_reckons 46 = .ok (.getfield 36, 3) := by decide +kernel
theorem dX12_reckons_49 : decode cX12_reckons 49 = .ok (.iload_n 2, 1) := by decide +kernel
theorem dX12_reckons_50 : decode cX12_reckons 50 = .ok (.iload 4, 2) := by decide +kernel
theorem dX12_reckons_52 : decode cX12_reckons 52 = .ok (.sipush 1000, 3) := by decide +kernel
theorem dX12_reckons_55 : decode cX12_reckons 55 = .ok (.if_icmp .ge 8, 3) := by decide +kernel
theorem dX12_reckons_58 : decode cX12_reckons 58 = .ok (.iload 4, 2) := by decide +kernel
theorem dX12_reckons_60 : decode cX12_reckons 60 = .ok (.goto 14, 3) := by decide +kernel
theorem dX12_reckons_63 : decode cX12_reckons 63 = .ok (.aload_n 0, 1) := by decide +kernel
theorem dX12_reckons_64 : decode cX12_reckons 64 = .ok (.getfield 39, 3) := by decide +kernel
theorem dX12_reckons_67 : decode cX12_reckons 67 = .ok (.iload 4, 2) := by decide +kernel
theorem dX12_reckons_69 : decode cX12_reckons 69 = .ok (.sipush 1000, 3) := by decide +kernel
theorem dX12_reckons_72 : decode cX12_reckons 72 = .ok (.isub, 1) := by decide +kernel
theorem dX12_reckons_73 : decode cX12_reckons 73 = .ok (.iaload, 1) := by decide +kernel
theorem dX12_reckons_74 : decode cX12_reckons 74 = .ok (.iastore, 1) := by decide +kernel
theorem dX12_reckons_75 : decode cX12_reckons 75 = .ok (.iinc 2 1, 3) := by decide +kernel
theorem dX12_reckons_78 : decode cX12_reckons 78 = .ok (.goto 113, 3) := by decide +kernel
theorem dX12_reckons_81 : decode cX12_reckons 81 = .ok (.iload 4, 2) := by decide +kernel
theorem dX12_reckons_83 : decode cX12_reckons 83 = .ok (.sipush 3006, 3) := by decide +kernel
theorem dX12_reckons_86 : decode cX12_reckons 86 = .ok (.if_icmp .ne 24, 3) := by decide +kernel
theorem dX12_reckons_89 : decode cX12_reckons 89 = .ok (.aload_n 0, 1) := by decide +kernel
theorem dX12_reckons_90 : decode cX12_reckons 90 = .ok (.getfield 36, 3) := by decide +kernel
theorem dX12_reckons_93 : decode cX12_reckons 93 = .ok (.iload_n 2, 1) := by decide +kernel
theorem dX12_reckons_94 : decode cX12_reckons 94 = .ok (.iconst 1, 1) := by decide +kernel
theorem dX12_reckons_95 : decode cX12_reckons 95 = .ok (.isub, 1) := by decide +kernel
theorem dX12_reckons_96 : decode cX12_reckons 96 = .ok (.iconst 1, 1) := by decide +kernel
theorem dX12_reckons_97 : decode cX12_reckons 97 = .ok (.aload_n 0, 1) := by decide +kernel
theorem dX12_reckons_98 : decode cX12_reckons 98 = .ok (.getfield 36, 3) := by decide +kernel
theorem dX12_reckons_101 : decode cX12_reckons 101 = .ok (.iload_n 2, 1) := by decide +kernel
theorem dX12_reckons_102 : decode cX12_reckons 102 = .ok (.iconst 1, 1) := by decide +kernel
theorem dX12_reckons_103 : decode cX12_reckons 103 = .ok (.isub, 1) := by decide +kernel
theorem dX12_reckons_104 : decode cX12_reckons 104 = .ok (.iaload, 1) := by decide +kernel
theorem dX12_reckons_105 : decode cX12_reckons 105 = .ok (.isub, 1) := by decide +kernel
theorem dX12_reckons_106 : decode cX12_reckons 106 = .ok (.iastore, 1) := by decide +kernel
theorem dX12_reckons_107 : decode cX12_reckons 107 = .ok (.goto 84, 3) := by decide +kernel
theorem dX12_reckons_110 : decode cX12_reckons 110 = .ok (.iload 4, 2) := by decide +kernel
theorem dX12_reckons_112 : decode cX12_reckons 112 = .ok (.sipush 3009, 3) := by decide +kernel
theorem dX12_reckons_115 : decode cX12_reckons 115 = .ok (.if_icmp .ne 46, 3) := by decide +kernel
theorem dX12_reckons_118 : decode cX12_reckons 118 = .ok (.iinc 2 (-2), 3) := by decide +kernel
theorem dX12_reckons_121 : decode cX12_reckons 121 = .ok (.aload_n 0, 1) := by decide +kernel
theorem dX12_reckons_122 : decode cX12_reckons 122 = .ok (.getfield 36, 3) := by decide +kernel
theorem dX12_reckons_125 : decode cX12_reckons 125 = .ok (.iload_n 2, 1) := by decide +kernel
theorem dX12_reckons_126 : decode cX12_reckons 126 = .ok (.iconst 1, 1) := by decide +kernel
theorem dX12_reckons_127 : decode cX12_reckons 127 = .ok (.isub, 1) := by decide +kernel
theorem dX12_reckons_128 : decode cX12_reckons 128 = .ok (.aload_n 0, 1) := by decide +kernel
theorem dX12_reckons_129 : decode cX12_reckons 129 = .ok (.getfield 36, 3) := by decide +kernel
theorem dX12_reckons_132 : decode cX12_reckons 132 = .ok (.iload_n 2, 1) := by decide +kernel
theorem dX12_reckons_133 : decode cX12_reckons 133 = .ok (.iconst 1, 1) := by decide +kernel
theorem dX12_reckons_134 : decode cX12_reckons 134 = .ok (.isub, 1) := by decide +kernel
theorem dX12_reckons_135 : decode cX12_reckons 135 = .ok (.iaload, 1) := by decide +kernel
theorem dX12_reckons_136 : decode cX12_reckons 136 = .ok (.iconst 1, 1) := by decide +kernel
theorem dX12_reckons_137 : decode cX12_reckons 137 = .ok (.if_icmp .ne 12, 3) := by decide +kernel
theorem dX12_reckons_140 : decode cX12_reckons 140 = .ok (.aload_n 0, 1) := by decide +kernel
theorem dX12_reckons_141 : decode cX12_reckons 141 = .ok (.getfield 36, 3) := by decide +kernel
theorem dX12_reckons_144 : decode cX12_reckons 144 = .ok (.iload_n 2, 1) := by decide +kernel
theorem dX12_reckons_145 : decode cX12_reckons 145 = .ok (.iaload, 1) := by decide +kernel
theorem dX12_reckons_146 : decode cX12_reckons 146 = .ok (.goto 11, 3) := by decide +kernel
theorem dX12_reckons_149 : decode cX12_reckons 149 = .ok (.aload_n 0, 1) := by decide +kernel
theorem dX12_reckons_150 : decode cX12_reckons 150 = .ok (.getfield 36, 3) := by decide +kernel
theorem dX12_reckons_153 : decode cX12_reckons 153 = .ok (.iload_n 2, 1) := by decide +kernel
theorem dX12_reckons_154 : decode cX12_reckons 154 = .ok (.iconst 1, 1) := by decide +kernel
theorem dX12_reckons_155 : decode cX12_reckons 155 = .ok (.iadd, 1) := by decide +kernel
theorem dX12_reckons_156 : decode cX12_reckons 156 = .ok (.iaload, 1) := by decide +kernel
theorem dX12_reckons_157 : decode cX12_reckons 157 = .ok (.iastore, 1) := by decide +kernel
theorem dX12_reckons_158 : decode cX12_reckons 158 = .ok (.goto 33, 3) := by decide +kernel
theorem dX12_reckons_161 : decode cX12_reckons 161 = .ok (.iinc 2 (-1), 3) := by decide +kernel
theorem dX12_reckons_164 : decode cX12_reckons 164 = .ok (.aload_n 0, 1) := by decide +kernel
theorem dX12_reckons_165 : decode cX12_reckons 165 = .ok (.getfield 36, 3) := by decide +kernel
theorem dX12_reckons_168 : decode cX12_reckons 168 = .ok (.iload_n 2, 1) := by decide +kernel
theorem dX12_reckons_169 : decode cX12_reckons 169 = .ok (.iconst 1, 1) := by decide +kernel
theorem dX12_reckons_170 : decode cX12_reckons 170 = .ok (.isub, 1) := by decide +kernel
theorem dX12_reckons_171 : decode cX12_reckons 171 = .ok (.iload 4, 2) := by decide +kernel
theorem dX12_reckons_173 : decode cX12_reckons 173 = .ok (.aload_n 0, 1) := by decide +kernel
theorem dX12_reckons_174 : decode cX12_reckons 174 = .ok (.getfield 36, 3) := by decide +kernel
theorem dX12_reckons_177 : decode cX12_reckons 177 = .ok (.iload_n 2, 1) := by decide +kernel
theorem dX12_reckons_178 : decode cX12_reckons 178 = .ok (.iconst 1, 1) := by decide +kernel
theorem dX12_reckons_179 : decode cX12_reckons 179 = .ok (.isub, 1) := by decide +kernel
theorem dX12_reckons_180 : decode cX12_reckons 180 = .ok (.iaload, 1) := by decide +kernel
theorem dX12_reckons_181 : decode cX12_reckons 181 = .ok (.aload_n 0, 1) := by decide +kernel
theorem dX12_reckons_182 : decode cX12_reckons 182 = .ok (.getfield 36, 3) := by decide +kernel
theorem dX12_reckons_185 : decode cX12_reckons 185 = .ok (.iload_n 2, 1) := by decide +kernel
theorem dX12_reckons_186 : decode cX12_reckons 186 = .ok (.iaload, 1) := by decide +kernel
theorem dX12_reckons_187 : decode cX12_reckons 187 = .ok (.invokestatic 238, 3) := by decide +kernel
theorem dX12_reckons_190 : decode cX12_reckons 190 = .ok (.iastore, 1) := by decide +kernel
theorem dX12_reckons_191 : decode cX12_reckons 191 = .ok (.iinc 3 1, 3) := by decide +kernel
theorem dX12_reckons_194 : decode cX12_reckons 194 = .ok (.goto (-190), 3) := by decide +kernel
theorem dX12_reckons_197 : decode cX12_reckons 197 = .ok (.aload_n 0, 1) := by decide +kernel
theorem dX12_reckons_198 : decode cX12_reckons 198 = .ok (.getfield 36, 3) := by decide +kernel
theorem dX12_reckons_201 : decode cX12_reckons 201 = .ok (.iconst 0, 1) := by decide +kernel
theorem dX12_reckons_202 : decode cX12_reckons 202 = .ok (.iaload, 1) := by decide +kernel
theorem dX12_reckons_203 : decode cX12_reckons 203 = .ok (.ireturn, 1) := by decide +kernel
theorem dX12_goesVisit_0 : decode cX12_goesVisit 0 = .ok (.aload_n 0, 1) := by decide +kernel
theorem dX12_goesVisit_1 : decode cX12_goesVisit 1 = .ok (.iconst 0, 1) := by decide +kernel
theorem dX12_goesVisit_2 : decode cX12_goesVisit 2 = .ok (.putfield 241, 3) := by decide +kernel
theorem dX12_goesVisit_5 : decode cX12_goesVisit 5 = .ok (.aload_n 0, 1) := by decide +kernel
theorem dX12_goesVisit_6 : decode cX12_goesVisit 6 = .ok (.iconst 0, 1) := by decide +kernel
theorem dX12_goesVisit_7 : decode cX12_goesVisit 7 = .ok (.putfield 244, 3) := by decide +kernel
theorem dX12_goesVisit_10 : decode cX12_goesVisit 10 = .ok (.aload_n 0, 1) := by decide +kernel
theorem dX12_goesVisit_11 : decode cX12_goesVisit 11 = .ok (.getfield 39, 3) := by decide +kernel
theorem dX12_goesVisit_14 : decode cX12_goesVisit 14 = .ok (.iconst 0, 1) := by decide +kernel
theorem dX12_goesVisit_15 : decode cX12_goesVisit 15 = .ok (.iload_n 2, 1) := by decide +kernel
theorem dX12_goesVisit_16 : decode cX12_goesVisit 16 = .ok (.iastore, 1) := by decide +kernel
theorem dX12_goesVisit_17 : decode cX12_goesVisit 17 = .ok (.aload_n 0, 1) := by decide +kernel
theorem dX12_goesVisit_18 : decode cX12_goesVisit 18 = .ok (.getfield 39, 3) := by decide +kernel
theorem dX12_goesVisit_21 : decode cX12_goesVisit 21 = .ok (.iconst 1, 1) := by decide +kernel
theorem dX12_goesVisit_22 : decode cX12_goesVisit 22 = .ok (.iload_n 2, 1) := by decide +kernel
theorem dX12_goesVisit_23 : decode cX12_goesVisit 23 = .ok (.iastore, 1) := by decide +kernel
theorem dX12_goesVisit_24 : decode cX12_goesVisit 24 = .ok (.aload_n 0, 1) := by decide +kernel
theorem dX12_goesVisit_25 : decode cX12_goesVisit 25 = .ok (.getfield 39, 3) := by decide +kernel
theorem dX12_goesVisit_28 : decode cX12_goesVisit 28 = .ok (.iconst 2, 1) := by decide +kernel
theorem dX12_goesVisit_29 : decode cX12_goesVisit 29 = .ok (.iload_n 2, 1) := by decide +kernel
theorem dX12_goesVisit_30 : decode cX12_goesVisit 30 = .ok (.iastore, 1) := by decide +kernel
theorem dX12_goesVisit_31 : decode cX12_goesVisit 31 = .ok (.aload_n 0, 1) := by decide +kernel
theorem dX12_goesVisit_32 : decode cX12_goesVisit 32 = .ok (.getfield 39, 3) := by decide +kernel
theorem dX12_goesVisit_35 : decode cX12_goesVisit 35 = .ok (.iconst 4, 1) := by decide +kernel
theorem dX12_goesVisit_36 : decode cX12_goesVisit 36 = .ok (.iload_n 3, 1) := by decide +kernel
theorem dX12_goesVisit_37 : decode cX12_goesVisit 37 = .ok (.iastore, 1) := by decide +kernel
theorem dX12_goesVisit_38 : decode cX12_goesVisit 38 = .ok (.aload_n 0, 1) := by decide +kernel
theorem dX12_goesVisit_39 : decode cX12_goesVisit 39 = .ok (.getfield 244, 3) := by decide +kernel
theorem dX12_goesVisit_42 : decode cX12_goesVisit 42 = .ok (.ifCond .ne 159, 3) := by decide +kernel
theorem dX12_goesVisit_45 : decode cX12_goesVisit 45 = .ok (.aload_n 0, 1) := by decide +kernel
theorem dX12_goesVisit_46 : decode cX12_goesVisit 46 = .ok (.getfield 241, 3) := by decide +kernel
theorem dX12_goesVisit_49 : decode cX12_goesVisit 49 = .ok (.aload_n 0, 1) := by decide +kernel
theorem dX12_goesVisit_50 : decode cX12_goesVisit 50 = .ok (.getfield 13, 3) := by decide +kernel
theorem dX12_goesVisit_53 : decode cX12_goesVisit 53 = .ok (.iconst 2, 1) := by decide +kernel
theorem dX12_goesVisit_54 : decode cX12_goesVisit 54 = .ok (.iaload, 1) := by decide +kernel
theorem dX12_goesVisit_55 : decode cX12_goesVisit 55 = .ok (.if_icmp .ge 146, 3) := by decide +kernel
theorem dX12_goesVisit_58 : decode cX12_goesVisit 58 = .ok (.aload_n 0, 1) := by decide +kernel
theorem dX12_goesVisit_59 : decode cX12_goesVisit 59 = .ok (.getfield 39, 3) := by decide +kernel
theorem dX12_goesVisit_62 : decode cX12_goesVisit 62 = .ok (.iconst 3, 1) := by decide +kernel
theorem dX12_goesVisit_63 : decode cX12_goesVisit 63 = .ok (.aload_n 0, 1) := by decide +kernel
theorem dX12_goesVisit_64 : decode cX12_goesVisit 64 = .ok (.getfield 241, 3) := by decide +kernel
theorem dX12_goesVisit_67 : decode cX12_goesVisit 67 = .ok (.iastore, 1) := by decide +kernel
theorem dX12_goesVisit_68 : decode cX12_goesVisit 68 = .ok (.aload_n 0, 1) := by decide +kernel
theorem dX12_goesVisit_69 : decode cX12_goesVisit 69 = .ok (.getfield 13, 3) := by decide +kernel
theorem dX12_goesVisit_72 : decode cX12_goesVisit 72 = .ok (.iconst 4, 1) := by decide +kernel
theorem dX12_goesVisit_73 : decode cX12_goesVisit 73 = .ok (.iaload, 1) := by decide +kernel
theorem dX12_goesVisit_74 : decode cX12_goesVisit 74 = .ok (.iconst 1, 1) := by decide +kernel
theorem dX12_goesVisit_75 : decode cX12_goesVisit 75 = .ok (.if_icmp .ne 13, 3) := by decide +kernel
theorem dX12_goesVisit_78 : decode cX12_goesVisit 78 = .ok (.aload_n 0, 1) := by decide +kernel
theorem dX12_goesVisit_79 : decode cX12_goesVisit 79 = .ok (.iconst 1, 1) := by decide +kernel
theorem dX12_goesVisit_80 : decode cX12_goesVisit 80 = .ok (.invokevirtual 248, 3) := by decide +kernel
theorem dX12_goesVisit_83 : decode cX12_goesVisit 83 = .ok (.iconst 1, 1) := by decide +kernel
theorem dX12_goesVisit_84 : decode cX12_goesVisit 84 = .ok (.if_icmp .ne 4, 3) := by decide +kernel
theorem dX12_goesVisit_87 : decode cX12_goesVisit 87 = .ok (.return_, 1) := by decide +kernel
theorem dX12_goesVisit_88 : decode cX12_goesVisit 88 = .ok (.aload_n 0, 1) := by decide +kernel
theorem dX12_goesVisit_89 : decode cX12_goesVisit 89 = .ok (.getfield 13, 3) := by decide +kernel
theorem dX12_goesVisit_92 : decode cX12_goesVisit 92 = .ok (.iconst 3, 1) := by decide +kernel
theorem dX12_goesVisit_93 : decode cX12_goesVisit 93 = .ok (.iaload, 1) := by decide +kernel
theorem dX12_goesVisit_94 : decode cX12_goesVisit 94 = .ok (.iconst 1, 1) := by decide +kernel
theorem dX12_goesVisit_95 : decode cX12_goesVisit 95 = .ok (.if_icmp .ne 18, 3) := by decide +kernel
theorem dX12_goesVisit_98 : decode cX12_goesVisit 98 = .ok (.aload_n 0, 1) := by decide +kernel
theorem dX12_goesVisit_99 : decode cX12_goesVisit 99 = .ok (.iconst 0, 1) := by decide +kernel
theorem dX12_goesVisit_100 : decode cX12_goesVisit 100 = .ok (.invokevirtual 248, 3) := by decide +kernel
theorem dX12_goesVisit_103 : decode cX12_goesVisit 103 = .ok (.aload_n 0, 1) := by decide +kernel
theorem dX12_goesVisit_104 : decode cX12_goesVisit 104 = .ok (.getfield 13, 3) := by decide +kernel
theorem dX12_goesVisit_107 : decode cX12_goesVisit 107 = .ok (.iconst 1, 1) := by decide +kernel
theorem dX12_goesVisit_108 : decode cX12_goesVisit 108 = .ok (.iaload, 1) := by decide +kernel
theorem dX12_goesVisit_109 : decode cX12_goesVisit 109 = .ok (.irem, 1) := by decide +kernel
theorem dX12_goesVisit_110 : decode cX12_goesVisit 110 = .ok (.goto 9, 3) := by decide +kernel
theorem dX12_goesVisit_113 : decode cX12_goesVisit 113 = .ok (.aload_n 0, 1) := by decide +kernel
theorem dX12_goesVisit_114 : decode cX12_goesVisit 114 = .ok (.getfield 39, 3) := by decide +kernel
theorem dX12_goesVisit_117 : decode cX12_goesVisit 117 = .ok (.iconst 1, 1) := by decide +kernel
theorem dX12_goesVisit_118 : decode cX12_goesVisit 118 = .ok (.iaload, 1) := by decide +kernel
theorem dX12_goesVisit_119 : decode cX12_goesVisit 119 = .ok (.istore 4, 2) := by decide +kernel
theorem dX12_goesVisit_121 : decode cX12_goesVisit 121 = .ok (.iload 4, 2) := by decide +kernel
theorem dX12_goesVisit_123 : decode cX12_goesVisit 123 = .ok (.ifCond .ge 14, 3) := by decide +kernel
theorem dX12_goesVisit_126 : decode cX12_goesVisit 126 = .ok (.iload 4, 2) := by decide +kernel
theorem dX12_goesVisit_128 : decode cX12_goesVisit 128 = .ok (.aload_n 0, 1) := by decide +kernel
theorem dX12_goesVisit_129 : decode cX12_goesVisit 129 = .ok (.getfield 13, 3) := by decide +kernel
theorem dX12_goesVisit_132 : decode cX12_goesVisit 132 = .ok (.iconst 1, 1) := by decide +kernel
theorem dX12_goesVisit_133 : decode cX12_goesVisit 133 = .ok (.iaload, 1) := by decide +kernel
theorem dX12_goesVisit_134 : decode cX12_goesVisit 134 = .ok (.iadd, 1) := by decide +kernel
theorem dX12_goesVisit_135 : decode cX12_goesVisit 135 = .ok (.istore 4, 2) := by decide +kernel
theorem dX12_goesVisit_137 : decode cX12_goesVisit 137 = .ok (.aload_n 0, 1) := by decide +kernel
theorem dX12_goesVisit_138 : decode cX12_goesVisit 138 = .ok (.getfield 42, 3) := by decide +kernel
theorem dX12_goesVisit_141 : decode cX12_goesVisit 141 = .ok (.aload_n 0, 1) := by decide +kernel
theorem dX12_goesVisit_142 : decode cX12_goesVisit 142 = .ok (.getfield 241, 3) := by decide +kernel
theorem dX12_goesVisit_145 : decode cX12_goesVisit 145 = .ok (.iload 4, 2) := by decide +kernel
theorem dX12_goesVisit_147 : decode cX12_goesVisit 147 = .ok (.iastore, 1) := by decide +kernel
theorem dX12_goesVisit_148 : decode cX12_goesVisit 148 = .ok (.aload_n 0, 1) := by decide +kernel
theorem dX12_goesVisit_149 : decode cX12_goesVisit 149 = .ok (.dup, 1) := by decide +kernel
theorem dX12_goesVisit_150 : decode cX12_goesVisit 150 = .ok (.getfield 241, 3) := by decide +kernel
theorem dX12_goesVisit_153 : decode cX12_goesVisit 153 = .ok (.iconst 1, 1) := by decide +kernel
theorem dX12_goesVisit_154 : decode cX12_goesVisit 154 = .ok (.iadd, 1) := by decide +kernel
theorem dX12_goesVisit_155 : decode cX12_goesVisit 155 = .ok (.putfield 241, 3) := by decide +kernel
theorem dX12_goesVisit_158 : decode cX12_goesVisit 158 = .ok (.aload_n 0, 1) := by decide +kernel
theorem dX12_goesVisit_159 : decode cX12_goesVisit 159 = .ok (.getfield 39, 3) := by decide +kernel
theorem dX12_goesVisit_162 : decode cX12_goesVisit 162 = .ok (.iconst 1, 1) := by decide +kernel
theorem dX12_goesVisit_163 : decode cX12_goesVisit 163 = .ok (.aload_n 0, 1) := by decide +kernel
theorem dX12_goesVisit_164 : decode cX12_goesVisit 164 = .ok (.iload_n 1, 1) := by decide +kernel
theorem dX12_goesVisit_165 : decode cX12_goesVisit 165 = .ok (.iload 4, 2) := by decide +kernel
theorem dX12_goesVisit_167 : decode cX12_goesVisit 167 = .ok (.invokevirtual 251, 3) := by decide +kernel
theorem dX12_goesVisit_170 : decode cX12_goesVisit 170 = .ok (.iastore, 1) := by decide +kernel
theorem dX12_goesVisit_171 : decode cX12_goesVisit 171 = .ok (.aload_n 0, 1) := by decide +kernel
theorem dX12_goesVisit_172 : decode cX12_goesVisit 172 = .ok (.getfield 39, 3) := by decide +kernel
theorem dX12_goesVisit_175 : decode cX12_goesVisit 175 = .ok (.iconst 2, 1) := by decide +kernel
theorem dX12_goesVisit_176 : decode cX12_goesVisit 176 = .ok (.iload 4, 2) := by decide +kernel
theorem dX12_goesVisit_178 : decode cX12_goesVisit 178 = .ok (.iastore, 1) := by decide +kernel
theorem dX12_goesVisit_179 : decode cX12_goesVisit 179 = .ok (.aload_n 0, 1) := by decide +kernel
theorem dX12_goesVisit_180 : decode cX12_goesVisit 180 = .ok (.aload_n 0, 1) := by decide +kernel
theorem dX12_goesVisit_181 : decode cX12_goesVisit 181 = .ok (.getfield 39, 3) := by decide +kernel
theorem dX12_goesVisit_184 : decode cX12_goesVisit 184 = .ok (.iconst 1, 1) := by decide +kernel
theorem dX12_goesVisit_185 : decode cX12_goesVisit 185 = .ok (.iaload, 1) := by decide +kernel
theorem dX12_goesVisit_186 : decode cX12_goesVisit 186 = .ok (.iload_n 2, 1) := by decide +kernel
theorem dX12_goesVisit_187 : decode cX12_goesVisit 187 = .ok (.if_icmp .ne 7, 3) := by decide +kernel
theorem dX12_goesVisit_190 : decode cX12_goesVisit 190 = .ok (.iconst 1, 1) := by decide +kernel
theorem dX12_goesVisit_191 : decode cX12_goesVisit 191 = .ok (.goto 4, 3) := by decide +kernel
theorem dX12_goesVisit_194 : decode cX12_goesVisit 194 = .ok (.iconst 0, 1) := by decide +kernel
theorem dX12_goesVisit_195 : decode cX12_goesVisit 195 = .ok (.putfield 244, 3) := by decide +kernel
theorem dX12_goesVisit_198 : decode cX12_goesVisit 198 = .ok (.goto (-160), 3) := by decide +kernel
theorem dX12_goesVisit_201 : decode cX12_goesVisit 201 = .ok (.return_, 1) := by decide +kernel
theorem dX12_letIn_0 : decode cX12_letIn 0 = .ok (.iconst 0, 1) := by decide +kernel
theorem dX12_letIn_1 : decode cX12_letIn 1 = .ok (.istore_n 3, 1) := by decide +kernel
theorem dX12_letIn_2 : decode cX12_letIn 2 = .ok (.iconst 0, 1) := by decide +kernel
theorem dX12_letIn_3 : decode cX12_letIn 3 = .ok (.istore 4, 2) := by decide +kernel
theorem dX12_letIn_5 : decode cX12_letIn 5 = .ok (.iload 4, 2) := by decide +kernel
theorem dX12_letIn_7 : decode cX12_letIn 7 = .ok (.aload_n 0, 1) := by decide +kernel
theorem dX12_letIn_8 : decode cX12_letIn 8 = .ok (.getfield 13, 3) := by decide +kernel
theorem dX12_letIn_11 : decode cX12_letIn 11 = .ok (.iconst 1, 1) := by decide +kernel
theorem dX12_letIn_12 : decode cX12_letIn 12 = .ok (.iaload, 1) := by decide +kernel
theorem dX12_letIn_13 : decode cX12_letIn 13 = .ok (.if_icmp .ge 35, 3) := by decide +kernel
theorem dX12_letIn_16 : decode cX12_letIn 16 = .ok (.aload_n 0, 1) := by decide +kernel
theorem dX12_letIn_17 : decode cX12_letIn 17 = .ok (.iload_n 1, 1) := by decide +kernel
theorem dX12_letIn_18 : decode cX12_letIn 18 = .ok (.iload 4, 2) := by decide +kernel
theorem dX12_letIn_20 : decode cX12_letIn 20 = .ok (.iload_n 2, 1) := by decide +kernel
theorem dX12_letIn_21 : decode cX12_letIn 21 = .ok (.invokevirtual 254, 3) := by decide +kernel
theorem dX12_letIn_24 : decode cX12_letIn 24 = .ok (.iload_n 3, 1) := by decide +kernel
theorem dX12_letIn_25 : decode cX12_letIn 25 = .ok (.aload_n 0, 1) := by decide +kernel
theorem dX12_letIn_26 : decode cX12_letIn 26 = .ok (.getfield 244, 3) := by decide +kernel
theorem dX12_letIn_29 : decode cX12_letIn 29 = .ok (.ifCond .eq 10, 3) := by decide +kernel
theorem dX12_letIn_32 : decode cX12_letIn 32 = .ok (.iconst 1, 1) := by decide +kernel
theorem dX12_letIn_33 : decode cX12_letIn 33 = .ok (.iload 4, 2) := by decide +kernel
theorem dX12_letIn_35 : decode cX12_letIn 35 = .ok (.ishl, 1) := by decide +kernel
theorem dX12_letIn_36 : decode cX12_letIn 36 = .ok (.goto 4, 3) := by decide +kernel
theorem dX12_letIn_39 : decode cX12_letIn 39 = .ok (.iconst 0, 1) := by decide +kernel
theorem dX12_letIn_40 : decode cX12_letIn 40 = .ok (.ior, 1) := by decide +kernel
theorem dX12_letIn_41 : decode cX12_letIn 41 = .ok (.istore_n 3, 1) := by decide +kernel
theorem dX12_letIn_42 : decode cX12_letIn 42 = .ok (.iinc 4 1, 3) := by decide +kernel
theorem dX12_letIn_45 : decode cX12_letIn 45 = .ok (.goto (-40), 3) := by decide +kernel
theorem dX12_letIn_48 : decode cX12_letIn 48 = .ok (.iload_n 3, 1) := by decide +kernel
theorem dX12_letIn_49 : decode cX12_letIn 49 = .ok (.ireturn, 1) := by decide +kernel
theorem dX12_letNow_0 : decode cX12_letNow 0 = .ok (.aload_n 0, 1) := by decide +kernel
theorem dX12_letNow_1 : decode cX12_letNow 1 = .ok (.aload_n 0, 1) := by decide +kernel
theorem dX12_letNow_2 : decode cX12_letNow 2 = .ok (.getfield 13, 3) := by decide +kernel
theorem dX12_letNow_5 : decode cX12_letNow 5 = .ok (.bipush 21, 2) := by decide +kernel
theorem dX12_letNow_7 : decode cX12_letNow 7 = .ok (.iaload, 1) := by decide +kernel
theorem dX12_letNow_8 : decode cX12_letNow 8 = .ok (.aload_n 0, 1) := by decide +kernel
theorem dX12_letNow_9 : decode cX12_letNow 9 = .ok (.getfield 13, 3) := by decide +kernel
theorem dX12_letNow_12 : decode cX12_letNow 12 = .ok (.bipush 22, 2) := by decide +kernel
theorem dX12_letNow_14 : decode cX12_letNow 14 = .ok (.iaload, 1) := by decide +kernel
theorem dX12_letNow_15 : decode cX12_letNow 15 = .ok (.invokevirtual 258, 3) := by decide +kernel
theorem dX12_letNow_18 : decode cX12_letNow 18 = .ok (.ireturn, 1) := by decide +kernel
theorem dX12_drawer_0 : decode cX12_drawer 0 = .ok (.aload_n 0, 1) := by decide +kernel
theorem dX12_drawer_1 : decode cX12_drawer 1 = .ok (.iconst 0, 1) := by decide +kernel
theorem dX12_drawer_2 : decode cX12_drawer 2 = .ok (.putfield 1, 3) := by decide +kernel
theorem dX12_drawer_5 : decode cX12_drawer 5 = .ok (.aload_n 0, 1) := by decide +kernel
theorem dX12_drawer_6 : decode cX12_drawer 6 = .ok (.iload_n 1, 1) := by decide +kernel
theorem dX12_drawer_7 : decode cX12_drawer 7 = .ok (.i2l, 1) := by decide +kernel
theorem dX12_drawer_8 : decode cX12_drawer 8 = .ok (.invokevirtual 261, 3) := by decide +kernel
theorem dX12_drawer_11 : decode cX12_drawer 11 = .ok (.ifCond .ne 6, 3) := by decide +kernel
theorem dX12_drawer_14 : decode cX12_drawer 14 = .ok (.bipush (-2), 2) := by decide +kernel
theorem dX12_drawer_16 : decode cX12_drawer 16 = .ok (.ireturn, 1) := by decide +kernel
theorem dX12_drawer_17 : decode cX12_drawer 17 = .ok (.iload_n 2, 1) := by decide +kernel
theorem dX12_drawer_18 : decode cX12_drawer 18 = .ok (.ifCond .ne 18, 3) := by decide +kernel
theorem dX12_drawer_21 : decode cX12_drawer 21 = .ok (.aload_n 0, 1) := by decide +kernel
theorem dX12_drawer_22 : decode cX12_drawer 22 = .ok (.aload_n 0, 1) := by decide +kernel
theorem dX12_drawer_23 : decode cX12_drawer 23 = .ok (.getfield 13, 3) := by decide +kernel
theorem dX12_drawer_26 : decode cX12_drawer 26 = .ok (.bipush 21, 2) := by decide +kernel
theorem dX12_drawer_28 : decode cX12_drawer 28 = .ok (.iaload, 1) := by decide +kernel
theorem dX12_drawer_29 : decode cX12_drawer 29 = .ok (.iload_n 1, 1) := by decide +kernel
theorem dX12_drawer_30 : decode cX12_drawer 30 = .ok (.invokevirtual 251, 3) := by decide +kernel
theorem dX12_drawer_33 : decode cX12_drawer 33 = .ok (.goto 22, 3) := by decide +kernel
theorem dX12_drawer_36 : decode cX12_drawer 36 = .ok (.iload_n 2, 1) := by decide +kernel
theorem dX12_drawer_37 : decode cX12_drawer 37 = .ok (.iconst 1, 1) := by decide +kernel
theorem dX12_drawer_38 : decode cX12_drawer 38 = .ok (.if_icmp .ne 15, 3) := by decide +kernel
theorem dX12_drawer_41 : decode cX12_drawer 41 = .ok (.aload_n 0, 1) := by decide +kernel
theorem dX12_drawer_42 : decode cX12_drawer 42 = .ok (.getfield 13, 3) := by decide +kernel
theorem dX12_drawer_45 : decode cX12_drawer 45 = .ok (.bipush 15, 2) := by decide +kernel
theorem dX12_drawer_47 : decode cX12_drawer 47 = .ok (.iload_n 1, 1) := by decide +kernel
theorem dX12_drawer_48 : decode cX12_drawer 48 = .ok (.iadd, 1) := by decide +kernel
theorem dX12_drawer_49 : decode cX12_drawer 49 = .ok (.iaload, 1) := by decide +kernel
theorem dX12_drawer_50 : decode cX12_drawer 50 = .ok (.goto 5, 3) := by decide +kernel
theorem dX12_drawer_53 : decode cX12_drawer 53 = .ok (.bipush (-2), 2) := by decide +kernel
theorem dX12_drawer_55 : decode cX12_drawer 55 = .ok (.ireturn, 1) := by decide +kernel
theorem dX12_visit_0 : decode cX12_visit 0 = .ok (.aload_n 0, 1) := by decide +kernel
theorem dX12_visit_1 : decode cX12_visit 1 = .ok (.iconst 0, 1) := by decide +kernel
theorem dX12_visit_2 : decode cX12_visit 2 = .ok (.putfield 1, 3) := by decide +kernel
theorem dX12_visit_5 : decode cX12_visit 5 = .ok (.aload_n 0, 1) := by decide +kernel
theorem dX12_visit_6 : decode cX12_visit 6 = .ok (.iload_n 1, 1) := by decide +kernel
theorem dX12_visit_7 : decode cX12_visit 7 = .ok (.i2l, 1) := by decide +kernel
theorem dX12_visit_8 : decode cX12_visit 8 = .ok (.invokevirtual 261, 3) := by decide +kernel
theorem dX12_visit_11 : decode cX12_visit 11 = .ok (.ifCond .eq 13, 3) := by decide +kernel
theorem dX12_visit_14 : decode cX12_visit 14 = .ok (.iload_n 2, 1) := by decide +kernel
theorem dX12_visit_15 : decode cX12_visit 15 = .ok (.i2l, 1) := by decide +kernel
theorem dX12_visit_16 : decode cX12_visit 16 = .ok (.lconst 0, 1) := by decide +kernel
theorem dX12_visit_17 : decode cX12_visit 17 = .ok (.lconst 1, 1) := by decide +kernel
theorem dX12_visit_18 : decode cX12_visit 18 = .ok (.invokestatic 157, 3) := by decide +kernel
theorem dX12_visit_21 : decode cX12_visit 21 = .ok (.ifCond .ne 6, 3) := by decide +kernel
theorem dX12_visit_24 : decode cX12_visit 24 = .ok (.bipush (-2), 2) := by decide +kernel
theorem dX12_visit_26 : decode cX12_visit 26 = .ok (.ireturn, 1) := by decide +kernel
theorem dX12_visit_27 : decode cX12_visit 27 = .ok (.aload_n 0, 1) := by decide +kernel
theorem dX12_visit_28 : decode cX12_visit 28 = .ok (.aload_n 0, 1) := by decide +kernel
theorem dX12_visit_29 : decode cX12_visit 29 = .ok (.getfield 13, 3) := by decide +kernel
theorem dX12_visit_32 : decode cX12_visit 32 = .ok (.bipush 21, 2) := by decide +kernel
theorem dX12_visit_34 : decode cX12_visit 34 = .ok (.iaload, 1) := by decide +kernel
theorem dX12_visit_35 : decode cX12_visit 35 = .ok (.iload_n 1, 1) := by decide +kernel
theorem dX12_visit_36 : decode cX12_visit 36 = .ok (.aload_n 0, 1) := by decide +kernel
theorem dX12_visit_37 : decode cX12_visit 37 = .ok (.getfield 13, 3) := by decide +kernel
theorem dX12_visit_40 : decode cX12_visit 40 = .ok (.bipush 22, 2) := by decide +kernel
theorem dX12_visit_42 : decode cX12_visit 42 = .ok (.iaload, 1) := by decide +kernel
theorem dX12_visit_43 : decode cX12_visit 43 = .ok (.invokevirtual 254, 3) := by decide +kernel
theorem dX12_visit_46 : decode cX12_visit 46 = .ok (.iload_n 2, 1) := by decide +kernel
theorem dX12_visit_47 : decode cX12_visit 47 = .ok (.iconst 1, 1) := by decide +kernel
theorem dX12_visit_48 : decode cX12_visit 48 = .ok (.if_icmp .ne 10, 3) := by decide +kernel
theorem dX12_visit_51 : decode cX12_visit 51 = .ok (.aload_n 0, 1) := by decide +kernel
theorem dX12_visit_52 : decode cX12_visit 52 = .ok (.getfield 241, 3) := by decide +kernel
theorem dX12_visit_55 : decode cX12_visit 55 = .ok (.goto 15, 3) := by decide +kernel
theorem dX12_visit_58 : decode cX12_visit 58 = .ok (.aload_n 0, 1) := by decide +kernel
theorem dX12_visit_59 : decode cX12_visit 59 = .ok (.getfield 244, 3) := by decide +kernel
theorem dX12_visit_62 : decode cX12_visit 62 = .ok (.ifCond .eq 7, 3) := by decide +kernel
theorem dX12_visit_65 : decode cX12_visit 65 = .ok (.iconst 1, 1) := by decide +kernel
theorem dX12_visit_66 : decode cX12_visit 66 = .ok (.goto 4, 3) := by decide +kernel
theorem dX12_visit_69 : decode cX12_visit 69 = .ok (.iconst 0, 1) := by decide +kernel
theorem dX12_visit_70 : decode cX12_visit 70 = .ok (.ireturn, 1) := by decide +kernel
theorem dX12_opened_0 : decode cX12_opened 0 = .ok (.aload_n 0, 1) := by decide +kernel
theorem dX12_opened_1 : decode cX12_opened 1 = .ok (.iconst 0, 1) := by decide +kernel
theorem dX12_opened_2 : decode cX12_opened 2 = .ok (.putfield 1, 3) := by decide +kernel
theorem dX12_opened_5 : decode cX12_opened 5 = .ok (.aload_n 0, 1) := by decide +kernel
theorem dX12_opened_6 : decode cX12_opened 6 = .ok (.iload_n 1, 1) := by decide +kernel
theorem dX12_opened_7 : decode cX12_opened 7 = .ok (.i2l, 1) := by decide +kernel
theorem dX12_opened_8 : decode cX12_opened 8 = .ok (.invokevirtual 261, 3) := by decide +kernel
theorem dX12_opened_11 : decode cX12_opened 11 = .ok (.ifCond .ne 6, 3) := by decide +kernel
theorem dX12_opened_14 : decode cX12_opened 14 = .ok (.bipush (-2), 2) := by decide +kernel
theorem dX12_opened_16 : decode cX12_opened 16 = .ok (.ireturn, 1) := by decide +kernel
theorem dX12_opened_17 : decode cX12_opened 17 = .ok (.iload_n 2, 1) := by decide +kernel
theorem dX12_opened_18 : decode cX12_opened 18 = .ok (.ifCond .ge 6, 3) := by decide +kernel
theorem dX12_opened_21 : decode cX12_opened 21 = .ok (.bipush (-3), 2) := by decide +kernel
theorem dX12_opened_23 : decode cX12_opened 23 = .ok (.ireturn, 1) := by decide +kernel
theorem dX12_opened_24 : decode cX12_opened 24 = .ok (.aload_n 0, 1) := by decide +kernel
theorem dX12_opened_25 : decode cX12_opened 25 = .ok (.aload_n 0, 1) := by decide +kernel
theorem dX12_opened_26 : decode cX12_opened 26 = .ok (.getfield 13, 3) := by decide +kernel
theorem dX12_opened_29 : decode cX12_opened 29 = .ok (.bipush 21, 2) := by decide +kernel
theorem dX12_opened_31 : decode cX12_opened 31 = .ok (.iaload, 1) := by decide +kernel
theorem dX12_opened_32 : decode cX12_opened 32 = .ok (.iload_n 1, 1) := by decide +kernel
theorem dX12_opened_33 : decode cX12_opened 33 = .ok (.aload_n 0, 1) := by decide +kernel
theorem dX12_opened_34 : decode cX12_opened 34 = .ok (.getfield 13, 3) := by decide +kernel
theorem dX12_opened_37 : decode cX12_opened 37 = .ok (.bipush 22, 2) := by decide +kernel
theorem dX12_opened_39 : decode cX12_opened 39 = .ok (.iaload, 1) := by decide +kernel
theorem dX12_opened_40 : decode cX12_opened 40 = .ok (.invokevirtual 254, 3) := by decide +kernel
theorem dX12_opened_43 : decode cX12_opened 43 = .ok (.iload_n 2, 1) := by decide +kernel
theorem dX12_opened_44 : decode cX12_opened 44 = .ok (.aload_n 0, 1) := by decide +kernel
theorem dX12_opened_45 : decode cX12_opened 45 = .ok (.getfield 241, 3) := by decide +kernel
theorem dX12_opened_48 : decode cX12_opened 48 = .ok (.if_icmp .ge 12, 3) := by decide +kernel
theorem dX12_opened_51 : decode cX12_opened 51 = .ok (.aload_n 0, 1) := by decide +kernel
theorem dX12_opened_52 : decode cX12_opened 52 = .ok (.getfield 42, 3) := by decide +kernel
theorem dX12_opened_55 : decode cX12_opened 55 = .ok (.iload_n 2, 1) := by decide +kernel
theorem dX12_opened_56 : decode cX12_opened 56 = .ok (.iaload, 1) := by decide +kernel
theorem dX12_opened_57 : decode cX12_opened 57 = .ok (.goto 4, 3) := by decide +kernel
theorem dX12_opened_60 : decode cX12_opened 60 = .ok (.iconst (-1), 1) := by decide +kernel
theorem dX12_opened_61 : decode cX12_opened 61 = .ok (.ireturn, 1) := by decide +kernel
theorem dX12_letOff_0 : decode cX12_letOff 0 = .ok (.aload_n 0, 1) := by decide +kernel
theorem dX12_letOff_1 : decode cX12_letOff 1 = .ok (.iconst 0, 1) := by decide +kernel
theorem dX12_letOff_2 : decode cX12_letOff 2 = .ok (.putfield 1, 3) := by decide +kernel
theorem dX12_letOff_5 : decode cX12_letOff 5 = .ok (.aload_n 0, 1) := by decide +kernel
theorem dX12_letOff_6 : decode cX12_letOff 6 = .ok (.invokevirtual 265, 3) := by decide +kernel
theorem dX12_letOff_9 : decode cX12_letOff 9 = .ok (.ireturn, 1) := by decide +kernel
theorem dX12_stores_0 : decode cX12_stores 0 = .ok (.iconst 0, 1) := by decide +kernel
theorem dX12_stores_1 : decode cX12_stores 1 = .ok (.istore_n 1, 1) := by decide +kernel
theorem dX12_stores_2 : decode cX12_stores 2 = .ok (.iload_n 1, 1) := by decide +kernel
theorem dX12_stores_3 : decode cX12_stores 3 = .ok (.iconst 3, 1) := by decide +kernel
theorem dX12_stores_4 : decode cX12_stores 4 = .ok (.if_icmp .ge 24, 3) := by decide +kernel
theorem dX12_stores_7 : decode cX12_stores 7 = .ok (.aload_n 0, 1) := by decide +kernel
theorem dX12_stores_8 : decode cX12_stores 8 = .ok (.getfield 45, 3) := by decide +kernel
theorem dX12_stores_11 : decode cX12_stores 11 = .ok (.iload_n 1, 1) := by decide +kernel
theorem dX12_stores_12 : decode cX12_stores 12 = .ok (.aload_n 0, 1) := by decide +kernel
theorem dX12_stores_13 : decode cX12_stores 13 = .ok (.getfield 13, 3) := by decide +kernel
theorem dX12_stores_16 : decode cX12_stores 16 = .ok (.bipush 21, 2) := by decide +kernel
theorem dX12_stores_18 : decode cX12_stores 18 = .ok (.iload_n 1, 1) := by decide +kernel
theorem dX12_stores_19 : decode cX12_stores 19 = .ok (.iadd, 1) := by decide +kernel
theorem dX12_stores_20 : decode cX12_stores 20 = .ok (.iaload, 1) := by decide +kernel
theorem dX12_stores_21 : decode cX12_stores 21 = .ok (.iastore, 1) := by decide +kernel
theorem dX12_stores_22 : decode cX12_stores 22 = .ok (.iinc 1 1, 3) := by decide +kernel
theorem dX12_stores_25 : decode cX12_stores 25 = .ok (.goto (-23), 3) := by decide +kernel
theorem dX12_stores_28 : decode cX12_stores 28 = .ok (.return_, 1) := by decide +kernel
theorem dX12_isAgain_0 : decode cX12_isAgain 0 = .ok (.iconst 0, 1) := by decide +kernel
theorem dX12_isAgain_1 : decode cX12_isAgain 1 = .ok (.istore_n 1, 1) := by decide +kernel
theorem dX12_isAgain_2 : decode cX12_isAgain 2 = .ok (.iload_n 1, 1) := by decide +kernel
theorem dX12_isAgain_3 : decode cX12_isAgain 3 = .ok (.iconst 3, 1) := by decide +kernel
theorem dX12_isAgain_4 : decode cX12_isAgain 4 = .ok (.if_icmp .ge 24, 3) := by decide +kernel
theorem dX12_isAgain_7 : decode cX12_isAgain 7 = .ok (.aload_n 0, 1) := by decide +kernel
theorem dX12_isAgain_8 : decode cX12_isAgain 8 = .ok (.getfield 13, 3) := by decide +kernel
theorem dX12_isAgain_11 : decode cX12_isAgain 11 = .ok (.bipush 21, 2) := by decide +kernel
theorem dX12_isAgain_13 : decode cX12_isAgain 13 = .ok (.iload_n 1, 1) := by decide +kernel
theorem dX12_isAgain_14 : decode cX12_isAgain 14 = .ok (.iadd, 1) := by decide +kernel
theorem dX12_isAgain_15 : decode cX12_isAgain 15 = .ok (.aload_n 0, 1) := by decide +kernel
theorem dX12_isAgain_16 : decode cX12_isAgain 16 = .ok (.getfield 45, 3) := by decide +kernel
theorem dX12_isAgain_19 : decode cX12_isAgain 19 = .ok (.iload_n 1, 1) := by decide +kernel
theorem dX12_isAgain_20 : decode cX12_isAgain 20 = .ok (.iaload, 1) := by decide +kernel
theorem dX12_isAgain_21 : decode cX12_isAgain 21 = .ok (.iastore, 1) := by decide +kernel
theorem dX12_isAgain_22 : decode cX12_isAgain 22 = .ok (.iinc 1 1, 3) := by decide +kernel
theorem dX12_isAgain_25 : decode cX12_isAgain 25 = .ok (.goto (-23), 3) := by decide +kernel
theorem dX12_isAgain_28 : decode cX12_isAgain 28 = .ok (.return_, 1) := by decide +kernel
theorem dX12_notes_0 : decode cX12_notes 0 = .ok (.aload_n 0, 1) := by decide +kernel
theorem dX12_notes_1 : decode cX12_notes 1 = .ok (.getfield 13, 3) := by decide +kernel
theorem dX12_notes_4 : decode cX12_notes 4 = .ok (.bipush 24, 2) := by decide +kernel
theorem dX12_notes_6 : decode cX12_notes 6 = .ok (.iaload, 1) := by decide +kernel
theorem dX12_notes_7 : decode cX12_notes 7 = .ok (.bipush 10, 2) := by decide +kernel
theorem dX12_notes_9 : decode cX12_notes 9 = .ok (.if_icmp .ne 46, 3) := by decide +kernel
theorem dX12_notes_12 : decode cX12_notes 12 = .ok (.iconst 0, 1) := by decide +kernel
theorem dX12_notes_13 : decode cX12_notes 13 = .ok (.istore_n 1, 1) := by decide +kernel
theorem dX12_notes_14 : decode cX12_notes 14 = .ok (.iload_n 1, 1) := by decide +kernel
theorem dX12_notes_15 : decode cX12_notes 15 = .ok (.bipush 27, 2) := by decide +kernel
theorem dX12_notes_17 : decode cX12_notes 17 = .ok (.if_icmp .ge 27, 3) := by decide +kernel
theorem dX12_notes_20 : decode cX12_notes 20 = .ok (.aload_n 0, 1) := by decide +kernel
theorem dX12_notes_21 : decode cX12_notes 21 = .ok (.getfield 13, 3) := by decide +kernel
theorem dX12_notes_24 : decode cX12_notes 24 = .ok (.bipush 25, 2) := by decide +kernel
theorem dX12_notes_26 : decode cX12_notes 26 = .ok (.iload_n 1, 1) := by decide +kernel
theorem dX12_notes_27 : decode cX12_notes 27 = .ok (.iadd, 1) := by decide +kernel
theorem dX12_notes_28 : decode cX12_notes 28 = .ok (.aload_n 0, 1) := by decide +kernel
theorem dX12_notes_29 : decode cX12_notes 29 = .ok (.getfield 13, 3) := by decide +kernel
theorem dX12_notes_32 : decode cX12_notes 32 = .ok (.bipush 28, 2) := by decide +kernel
theorem dX12_notes_34 : decode cX12_notes 34 = .ok (.iload_n 1, 1) := by decide +kernel
theorem dX12_notes_35 : decode cX12_notes 35 = .ok (.iadd, 1) := by decide +kernel
theorem dX12_notes_36 : decode cX12_notes 36 = .ok (.iaload, 1) := by decide +kernel
theorem dX12_notes_37 : decode cX12_notes 37 = .ok (.iastore, 1) := by decide +kernel
theorem dX12_notes_38 : decode cX12_notes 38 = .ok (.iinc 1 1, 3) := by decide +kernel
theorem dX12_notes_41 : decode cX12_notes 41 = .ok (.goto (-27), 3) := by decide +kernel
theorem dX12_notes_44 : decode cX12_notes 44 = .ok (.aload_n 0, 1) := by decide +kernel
theorem dX12_notes_45 : decode cX12_notes 45 = .ok (.getfield 13, 3) := by decide +kernel
theorem dX12_notes_48 : decode cX12_notes 48 = .ok (.bipush 24, 2) := by decide +kernel
theorem dX12_notes_50 : decode cX12_notes 50 = .ok (.dup2, 1) := by decide +kernel
theorem dX12_notes_51 : decode cX12_notes 51 = .ok (.iaload, 1) := by decide +kernel
theorem dX12_notes_52 : decode cX12_notes 52 = .ok (.iconst 1, 1) := by decide +kernel
theorem dX12_notes_53 : decode cX12_notes 53 = .ok (.isub, 1) := by decide +kernel
theorem dX12_notes_54 : decode cX12_notes 54 = .ok (.iastore, 1) := by decide +kernel
theorem dX12_notes_55 : decode cX12_notes 55 = .ok (.iconst 0, 1) := by decide +kernel
theorem dX12_notes_56 : decode cX12_notes 56 = .ok (.istore_n 1, 1) := by decide +kernel
theorem dX12_notes_57 : decode cX12_notes 57 = .ok (.iload_n 1, 1) := by decide +kernel
theorem dX12_notes_58 : decode cX12_notes 58 = .ok (.iconst 3, 1) := by decide +kernel
theorem dX12_notes_59 : decode cX12_notes 59 = .ok (.if_icmp .ge 34, 3) := by decide +kernel
theorem dX12_notes_62 : decode cX12_notes 62 = .ok (.aload_n 0, 1) := by decide +kernel
theorem dX12_notes_63 : decode cX12_notes 63 = .ok (.getfield 13, 3) := by decide +kernel
theorem dX12_notes_66 : decode cX12_notes 66 = .ok (.bipush 25, 2) := by decide +kernel
theorem dX12_notes_68 : decode cX12_notes 68 = .ok (.iconst 3, 1) := by decide +kernel
theorem dX12_notes_69 : decode cX12_notes 69 = .ok (.aload_n 0, 1) := by decide +kernel
theorem dX12_notes_70 : decode cX12_notes 70 = .ok (.getfield 13, 3) := by decide +kernel
theorem dX12_notes_73 : decode cX12_notes 73 = .ok (.bipush 24, 2) := by decide +kernel
theorem dX12_notes_75 : decode cX12_notes 75 = .ok (.iaload, 1) := by decide +kernel
theorem dX12_notes_76 : decode cX12_notes 76 = .ok (.imul, 1) := by decide +kernel
theorem dX12_notes_77 : decode cX12_notes 77 = .ok (.iadd, 1) := by decide +kernel
theorem dX12_notes_78 : decode cX12_notes 78 = .ok (.iload_n 1, 1) := by decide +kernel
theorem dX12_notes_79 : decode cX12_notes 79 = .ok (.iadd, 1) := by decide +kernel
theorem dX12_notes_80 : decode cX12_notes 80 = .ok (.aload_n 0, 1) := by decide +kernel
theorem dX12_notes_81 : decode cX12_notes 81 = .ok (.getfield 45, 3) := by decide +kernel
theorem dX12_notes_84 : decode cX12_notes 84 = .ok (.iload_n 1, 1) := by decide +kernel
theorem dX12_notes_85 : decode cX12_notes 85 = .ok (.iaload, 1) := by decide +kernel
theorem dX12_notes_86 : decode cX12_notes 86 = .ok (.iastore, 1) := by decide +kernel
theorem dX12_notes_87 : decode cX12_notes 87 = .ok (.iinc 1 1, 3) := by decide +kernel
theorem dX12_notes_90 : decode cX12_notes 90 = .ok (.goto (-33), 3) := by decide +kernel
theorem dX12_notes_93 : decode cX12_notes 93 = .ok (.aload_n 0, 1) := by decide +kernel
theorem dX12_notes_94 : decode cX12_notes 94 = .ok (.getfield 13, 3) := by decide +kernel
theorem dX12_notes_97 : decode cX12_notes 97 = .ok (.bipush 24, 2) := by decide +kernel
theorem dX12_notes_99 : decode cX12_notes 99 = .ok (.dup2, 1) := by decide +kernel
theorem dX12_notes_100 : decode cX12_notes 100 = .ok (.iaload, 1) := by decide +kernel
theorem dX12_notes_101 : decode cX12_notes 101 = .ok (.iconst 1, 1) := by decide +kernel
theorem dX12_notes_102 : decode cX12_notes 102 = .ok (.iadd, 1) := by decide +kernel
theorem dX12_notes_103 : decode cX12_notes 103 = .ok (.iastore, 1) := by decide +kernel
theorem dX12_notes_104 : decode cX12_notes 104 = .ok (.return_, 1) := by decide +kernel
theorem dX12_swapTo_0 : decode cX12_swapTo 0 = .ok (.iconst 0, 1) := by decide +kernel
theorem dX12_swapTo_1 : decode cX12_swapTo 1 = .ok (.istore 4, 2) := by decide +kernel
theorem dX12_swapTo_3 : decode cX12_swapTo 3 = .ok (.iload 4, 2) := by decide +kernel
theorem dX12_swapTo_5 : decode cX12_swapTo 5 = .ok (.aload_n 0, 1) := by decide +kernel
theorem dX12_swapTo_6 : decode cX12_swapTo 6 = .ok (.getfield 13, 3) := by decide +kernel
theorem dX12_swapTo_9 : decode cX12_swapTo 9 = .ok (.iconst 1, 1) := by decide +kernel
theorem dX12_swapTo_10 : decode cX12_swapTo 10 = .ok (.iaload, 1) := by decide +kernel
theorem dX12_swapTo_11 : decode cX12_swapTo 11 = .ok (.if_icmp .ge 43, 3) := by decide +kernel
theorem dX12_swapTo_14 : decode cX12_swapTo 14 = .ok (.aload_n 0, 1) := by decide +kernel
theorem dX12_swapTo_15 : decode cX12_swapTo 15 = .ok (.getfield 33, 3) := by decide +kernel
theorem dX12_swapTo_18 : decode cX12_swapTo 18 = .ok (.iload 4, 2) := by decide +kernel
theorem dX12_swapTo_20 : decode cX12_swapTo 20 = .ok (.aload_n 0, 1) := by decide +kernel
theorem dX12_swapTo_21 : decode cX12_swapTo 21 = .ok (.iload_n 1, 1) := by decide +kernel
theorem dX12_swapTo_22 : decode cX12_swapTo 22 = .ok (.iload 4, 2) := by decide +kernel
theorem dX12_swapTo_24 : decode cX12_swapTo 24 = .ok (.iload_n 2, 1) := by decide +kernel
theorem dX12_swapTo_25 : decode cX12_swapTo 25 = .ok (.if_icmp .ne 7, 3) := by decide +kernel
theorem dX12_swapTo_28 : decode cX12_swapTo 28 = .ok (.iload_n 3, 1) := by decide +kernel
theorem dX12_swapTo_29 : decode cX12_swapTo 29 = .ok (.goto 15, 3) := by decide +kernel
theorem dX12_swapTo_32 : decode cX12_swapTo 32 = .ok (.iload 4, 2) := by decide +kernel
theorem dX12_swapTo_34 : decode cX12_swapTo 34 = .ok (.iload_n 3, 1) := by decide +kernel
theorem dX12_swapTo_35 : decode cX12_swapTo 35 = .ok (.if_icmp .ne 7, 3) := by decide +kernel
theorem dX12_swapTo_38 : decode cX12_swapTo 38 = .ok (.iload_n 2, 1) := by decide +kernel
theorem dX12_swapTo_39 : decode cX12_swapTo 39 = .ok (.goto 5, 3) := by decide +kernel
theorem dX12_swapTo_42 : decode cX12_swapTo 42 = .ok (.iload 4, 2) := by decide +kernel
theorem dX12_swapTo_44 : decode cX12_swapTo 44 = .ok (.invokevirtual 251, 3) := by decide +kernel
theorem dX12_swapTo_47 : decode cX12_swapTo 47 = .ok (.iastore, 1) := by decide +kernel
theorem dX12_swapTo_48 : decode cX12_swapTo 48 = .ok (.iinc 4 1, 3) := by decide +kernel
theorem dX12_swapTo_51 : decode cX12_swapTo 51 = .ok (.goto (-48), 3) := by decide +kernel
theorem dX12_swapTo_54 : decode cX12_swapTo 54 = .ok (.aload_n 0, 1) := by decide +kernel
theorem dX12_swapTo_55 : decode cX12_swapTo 55 = .ok (.invokevirtual 220, 3) := by decide +kernel
theorem dX12_swapTo_58 : decode cX12_swapTo 58 = .ok (.ireturn, 1) := by decide +kernel
theorem dX12_nightTo_0 : decode cX12_nightTo 0 = .ok (.iconst 0, 1) := by decide +kernel
theorem dX12_nightTo_1 : decode cX12_nightTo 1 = .ok (.istore_n 2, 1) := by decide +kernel
theorem dX12_nightTo_2 : decode cX12_nightTo 2 = .ok (.iload_n 2, 1) := by decide +kernel
theorem dX12_nightTo_3 : decode cX12_nightTo 3 = .ok (.aload_n 0, 1) := by decide +kernel
theorem dX12_nightTo_4 : decode cX12_nightTo 4 = .ok (.getfield 13, 3) := by decide +kernel
theorem dX12_nightTo_7 : decode cX12_nightTo 7 = .ok (.iconst 1, 1) := by decide +kernel
theorem dX12_nightTo_8 : decode cX12_nightTo 8 = .ok (.iaload, 1) := by decide +kernel
theorem dX12_nightTo_9 : decode cX12_nightTo 9 = .ok (.if_icmp .ge 29, 3) := by decide +kernel
theorem dX12_nightTo_12 : decode cX12_nightTo 12 = .ok (.aload_n 0, 1) := by decide +kernel
theorem dX12_nightTo_13 : decode cX12_nightTo 13 = .ok (.getfield 33, 3) := by decide +kernel
theorem dX12_nightTo_16 : decode cX12_nightTo 16 = .ok (.aload_n 0, 1) := by decide +kernel
theorem dX12_nightTo_17 : decode cX12_nightTo 17 = .ok (.getfield 13, 3) := by decide +kernel
theorem dX12_nightTo_20 : decode cX12_nightTo 20 = .ok (.bipush 15, 2) := by decide +kernel
theorem dX12_nightTo_22 : decode cX12_nightTo 22 = .ok (.iload_n 2, 1) := by decide +kernel
theorem dX12_nightTo_23 : decode cX12_nightTo 23 = .ok (.iadd, 1) := by decide +kernel
theorem dX12_nightTo_24 : decode cX12_nightTo 24 = .ok (.iaload, 1) := by decide +kernel
theorem dX12_nightTo_25 : decode cX12_nightTo 25 = .ok (.aload_n 0, 1) := by decide +kernel
theorem dX12_nightTo_26 : decode cX12_nightTo 26 = .ok (.iload_n 1, 1) := by decide +kernel
theorem dX12_nightTo_27 : decode cX12_nightTo 27 = .ok (.iload_n 2, 1) := by decide +kernel
theorem dX12_nightTo_28 : decode cX12_nightTo 28 = .ok (.invokevirtual 251, 3) := by decide +kernel
theorem dX12_nightTo_31 : decode cX12_nightTo 31 = .ok (.iastore, 1) := by decide +kernel
theorem dX12_nightTo_32 : decode cX12_nightTo 32 = .ok (.iinc 2 1, 3) := by decide +kernel
theorem dX12_nightTo_35 : decode cX12_nightTo 35 = .ok (.goto (-33), 3) := by decide +kernel
theorem dX12_nightTo_38 : decode cX12_nightTo 38 = .ok (.aload_n 0, 1) := by decide +kernel
theorem dX12_nightTo_39 : decode cX12_nightTo 39 = .ok (.invokevirtual 220, 3) := by decide +kernel
theorem dX12_nightTo_42 : decode cX12_nightTo 42 = .ok (.ireturn, 1) := by decide +kernel
theorem dX12_goesNight_0 : decode cX12_goesNight 0 = .ok (.aload_n 0, 1) := by decide +kernel
theorem dX12_goesNight_1 : decode cX12_goesNight 1 = .ok (.getfield 13, 3) := by decide +kernel
theorem dX12_goesNight_4 : decode cX12_goesNight 4 = .ok (.bipush 21, 2) := by decide +kernel
theorem dX12_goesNight_6 : decode cX12_goesNight 6 = .ok (.aload_n 0, 1) := by decide +kernel
theorem dX12_goesNight_7 : decode cX12_goesNight 7 = .ok (.aload_n 0, 1) := by decide +kernel
theorem dX12_goesNight_8 : decode cX12_goesNight 8 = .ok (.getfield 13, 3) := by decide +kernel
theorem dX12_goesNight_11 : decode cX12_goesNight 11 = .ok (.bipush 21, 2) := by decide +kernel
theorem dX12_goesNight_13 : decode cX12_goesNight 13 = .ok (.iaload, 1) := by decide +kernel
theorem dX12_goesNight_14 : decode cX12_goesNight 14 = .ok (.invokevirtual 268, 3) := by decide +kernel
theorem dX12_goesNight_17 : decode cX12_goesNight 17 = .ok (.iastore, 1) := by decide +kernel
theorem dX12_goesNight_18 : decode cX12_goesNight 18 = .ok (.aload_n 0, 1) := by decide +kernel
theorem dX12_goesNight_19 : decode cX12_goesNight 19 = .ok (.getfield 13, 3) := by decide +kernel
theorem dX12_goesNight_22 : decode cX12_goesNight 22 = .ok (.bipush 23, 2) := by decide +kernel
theorem dX12_goesNight_24 : decode cX12_goesNight 24 = .ok (.dup2, 1) := by decide +kernel
theorem dX12_goesNight_25 : decode cX12_goesNight 25 = .ok (.iaload, 1) := by decide +kernel
theorem dX12_goesNight_26 : decode cX12_goesNight 26 = .ok (.iconst 1, 1) := by decide +kernel
theorem dX12_goesNight_27 : decode cX12_goesNight 27 = .ok (.iadd, 1) := by decide +kernel
theorem dX12_goesNight_28 : decode cX12_goesNight 28 = .ok (.iastore, 1) := by decide +kernel
theorem dX12_goesNight_29 : decode cX12_goesNight 29 = .ok (.return_, 1) := by decide +kernel
theorem dX12_canSwap_0 : decode cX12_canSwap 0 = .ok (.aload_n 0, 1) := by decide +kernel
theorem dX12_canSwap_1 : decode cX12_canSwap 1 = .ok (.lload_n 1, 1) := by decide +kernel
theorem dX12_canSwap_2 : decode cX12_canSwap 2 = .ok (.invokevirtual 261, 3) := by decide +kernel
theorem dX12_canSwap_5 : decode cX12_canSwap 5 = .ok (.ifCond .eq 21, 3) := by decide +kernel
theorem dX12_canSwap_8 : decode cX12_canSwap 8 = .ok (.aload_n 0, 1) := by decide +kernel
theorem dX12_canSwap_9 : decode cX12_canSwap 9 = .ok (.lload_n 3, 1) := by decide +kernel
theorem dX12_canSwap_10 : decode cX12_canSwap 10 = .ok (.invokevirtual 261, 3) := by decide +kernel
theorem dX12_canSwap_13 : decode cX12_canSwap 13 = .ok (.ifCond .eq 13, 3) := by decide +kernel
theorem dX12_canSwap_16 : decode cX12_canSwap 16 = .ok (.lload_n 1, 1) := by decide +kernel
theorem dX12_canSwap_17 : decode cX12_canSwap 17 = .ok (.lload_n 3, 1) := by decide +kernel
theorem dX12_canSwap_18 : decode cX12_canSwap 18 = .ok (.lcmp, 1) := by decide +kernel
theorem dX12_canSwap_19 : decode cX12_canSwap 19 = .ok (.ifCond .eq 7, 3) := by decide +kernel
theorem dX12_canSwap_22 : decode cX12_canSwap 22 = .ok (.iconst 1, 1) := by decide +kernel
theorem dX12_canSwap_23 : decode cX12_canSwap 23 = .ok (.goto 4, 3) := by decide +kernel
theorem dX12_canSwap_26 : decode cX12_canSwap 26 = .ok (.iconst 0, 1) := by decide +kernel
theorem dX12_canSwap_27 : decode cX12_canSwap 27 = .ok (.ireturn, 1) := by decide +kernel
theorem dX12_swap_0 : decode cX12_swap 0 = .ok (.aload_n 0, 1) := by decide +kernel
theorem dX12_swap_1 : decode cX12_swap 1 = .ok (.iconst 0, 1) := by decide +kernel
theorem dX12_swap_2 : decode cX12_swap 2 = .ok (.putfield 1, 3) := by decide +kernel
theorem dX12_swap_5 : decode cX12_swap 5 = .ok (.aload_n 0, 1) := by decide +kernel
theorem dX12_swap_6 : decode cX12_swap 6 = .ok (.iload_n 1, 1) := by decide +kernel
theorem dX12_swap_7 : decode cX12_swap 7 = .ok (.i2l, 1) := by decide +kernel
theorem dX12_swap_8 : decode cX12_swap 8 = .ok (.iload_n 2, 1) := by decide +kernel
theorem dX12_swap_9 : decode cX12_swap 9 = .ok (.i2l, 1) := by decide +kernel
theorem dX12_swap_10 : decode cX12_swap 10 = .ok (.invokevirtual 271, 3) := by decide +kernel
theorem dX12_swap_13 : decode cX12_swap 13 = .ok (.ifCond .ne 6, 3) := by decide +kernel
theorem dX12_swap_16 : decode cX12_swap 16 = .ok (.bipush (-11), 2) := by decide +kernel
theorem dX12_swap_18 : decode cX12_swap 18 = .ok (.ireturn, 1) := by decide +kernel
theorem dX12_swap_19 : decode cX12_swap 19 = .ok (.aload_n 0, 1) := by decide +kernel
theorem dX12_swap_20 : decode cX12_swap 20 = .ok (.invokevirtual 275, 3) := by decide +kernel
theorem dX12_swap_23 : decode cX12_swap 23 = .ok (.aload_n 0, 1) := by decide +kernel
theorem dX12_swap_24 : decode cX12_swap 24 = .ok (.getfield 13, 3) := by decide +kernel
theorem dX12_swap_27 : decode cX12_swap 27 = .ok (.bipush 21, 2) := by decide +kernel
theorem dX12_swap_29 : decode cX12_swap 29 = .ok (.aload_n 0, 1) := by decide +kernel
theorem dX12_swap_30 : decode cX12_swap 30 = .ok (.aload_n 0, 1) := by decide +kernel
theorem dX12_swap_31 : decode cX12_swap 31 = .ok (.getfield 13, 3) := by decide +kernel
theorem dX12_swap_34 : decode cX12_swap 34 = .ok (.bipush 21, 2) := by decide +kernel
theorem dX12_swap_36 : decode cX12_swap 36 = .ok (.iaload, 1) := by decide +kernel
theorem dX12_swap_37 : decode cX12_swap 37 = .ok (.iload_n 1, 1) := by decide +kernel
theorem dX12_swap_38 : decode cX12_swap 38 = .ok (.iload_n 2, 1) := by decide +kernel
theorem dX12_swap_39 : decode cX12_swap 39 = .ok (.invokevirtual 278, 3) := by decide +kernel
theorem dX12_swap_42 : decode cX12_swap 42 = .ok (.iastore, 1) := by decide +kernel
theorem dX12_swap_43 : decode cX12_swap 43 = .ok (.aload_n 0, 1) := by decide +kernel
theorem dX12_swap_44 : decode cX12_swap 44 = .ok (.invokevirtual 281, 3) := by decide +kernel
theorem dX12_swap_47 : decode cX12_swap 47 = .ok (.aload_n 0, 1) := by decide +kernel
theorem dX12_swap_48 : decode cX12_swap 48 = .ok (.invokevirtual 265, 3) := by decide +kernel
theorem dX12_swap_51 : decode cX12_swap 51 = .ok (.invokestatic 284, 3) := by decide +kernel
theorem dX12_swap_54 : decode cX12_swap 54 = .ok (.ireturn, 1) := by decide +kernel
theorem dX12_nights_0 : decode cX12_nights 0 = .ok (.aload_n 0, 1) := by decide +kernel
theorem dX12_nights_1 : decode cX12_nights 1 = .ok (.iconst 0, 1) := by decide +kernel
theorem dX12_nights_2 : decode cX12_nights 2 = .ok (.putfield 1, 3) := by decide +kernel
theorem dX12_nights_5 : decode cX12_nights 5 = .ok (.iload_n 1, 1) := by decide +kernel
theorem dX12_nights_6 : decode cX12_nights 6 = .ok (.i2l, 1) := by decide +kernel
theorem dX12_nights_7 : decode cX12_nights 7 = .ok (.lconst 1, 1) := by decide +kernel
theorem dX12_nights_8 : decode cX12_nights 8 = .ok (.ldc2_w 287, 3) := by decide +kernel
theorem dX12_nights_11 : decode cX12_nights 11 = .ok (.invokestatic 157, 3) := by decide +kernel
theorem dX12_nights_14 : decode cX12_nights 14 = .ok (.ifCond .ne 6, 3) := by decide +kernel
theorem dX12_nights_17 : decode cX12_nights 17 = .ok (.bipush (-3), 2) := by decide +kernel
theorem dX12_nights_19 : decode cX12_nights 19 = .ok (.ireturn, 1) := by decide +kernel
theorem dX12_nights_20 : decode cX12_nights 20 = .ok (.aload_n 0, 1) := by decide +kernel
theorem dX12_nights_21 : decode cX12_nights 21 = .ok (.invokevirtual 275, 3) := by decide +kernel
theorem dX12_nights_24 : decode cX12_nights 24 = .ok (.iconst 0, 1) := by decide +kernel
theorem dX12_nights_25 : decode cX12_nights 25 = .ok (.istore_n 2, 1) := by decide +kernel
theorem dX12_nights_26 : decode cX12_nights 26 = .ok (.iload_n 2, 1) := by decide +kernel
theorem dX12_nights_27 : decode cX12_nights 27 = .ok (.iload_n 1, 1) := by decide +kernel
theorem dX12_nights_28 : decode cX12_nights 28 = .ok (.if_icmp .ge 13, 3) := by decide +kernel
theorem dX12_nights_31 : decode cX12_nights 31 = .ok (.aload_n 0, 1) := by decide +kernel
theorem dX12_nights_32 : decode cX12_nights 32 = .ok (.invokevirtual 289, 3) := by decide +kernel
theorem dX12_nights_35 : decode cX12_nights 35 = .ok (.iinc 2 1, 3) := by decide +kernel
theorem dX12_nights_38 : decode cX12_nights 38 = .ok (.goto (-12), 3) := by decide +kernel
theorem dX12_nights_41 : decode cX12_nights 41 = .ok (.aload_n 0, 1) := by decide +kernel
theorem dX12_nights_42 : decode cX12_nights 42 = .ok (.invokevirtual 281, 3) := by decide +kernel
theorem dX12_nights_45 : decode cX12_nights 45 = .ok (.aload_n 0, 1) := by decide +kernel
theorem dX12_nights_46 : decode cX12_nights 46 = .ok (.invokevirtual 265, 3) := by decide +kernel
theorem dX12_nights_49 : decode cX12_nights 49 = .ok (.invokestatic 284, 3) := by decide +kernel
theorem dX12_nights_52 : decode cX12_nights 52 = .ok (.ireturn, 1) := by decide +kernel
theorem dX12_clue_0 : decode cX12_clue 0 = .ok (.aload_n 0, 1) := by decide +kernel
theorem dX12_clue_1 : decode cX12_clue 1 = .ok (.iconst 0, 1) := by decide +kernel
theorem dX12_clue_2 : decode cX12_clue 2 = .ok (.putfield 1, 3) := by decide +kernel
theorem dX12_clue_5 : decode cX12_clue 5 = .ok (.iload_n 1, 1) := by decide +kernel
theorem dX12_clue_6 : decode cX12_clue 6 = .ok (.i2l, 1) := by decide +kernel
theorem dX12_clue_7 : decode cX12_clue 7 = .ok (.lconst 0, 1) := by decide +kernel
theorem dX12_clue_8 : decode cX12_clue 8 = .ok (.ldc2_w 292, 3) := by decide +kernel
theorem dX12_clue_11 : decode cX12_clue 11 = .ok (.invokestatic 157, 3) := by decide +kernel
theorem dX12_clue_14 : decode cX12_clue 14 = .ok (.ifCond .ne 6, 3) := by decide +kernel
theorem dX12_clue_17 : decode cX12_clue 17 = .ok (.bipush (-11), 2) := by decide +kernel
theorem dX12_clue_19 : decode cX12_clue 19 = .ok (.ireturn, 1) := by decide +kernel
theorem dX12_clue_20 : decode cX12_clue 20 = .ok (.aload_n 0, 1) := by decide +kernel
theorem dX12_clue_21 : decode cX12_clue 21 = .ok (.invokevirtual 275, 3) := by decide +kernel
theorem dX12_clue_24 : decode cX12_clue 24 = .ok (.aload_n 0, 1) := by decide +kernel
theorem dX12_clue_25 : decode cX12_clue 25 = .ok (.getfield 13, 3) := by decide +kernel
theorem dX12_clue_28 : decode cX12_clue 28 = .ok (.bipush 22, 2) := by decide +kernel
theorem dX12_clue_30 : decode cX12_clue 30 = .ok (.iload_n 1, 1) := by decide +kernel
theorem dX12_clue_31 : decode cX12_clue 31 = .ok (.iastore, 1) := by decide +kernel
theorem dX12_clue_32 : decode cX12_clue 32 = .ok (.aload_n 0, 1) := by decide +kernel
theorem dX12_clue_33 : decode cX12_clue 33 = .ok (.invokevirtual 281, 3) := by decide +kernel
theorem dX12_clue_36 : decode cX12_clue 36 = .ok (.aload_n 0, 1) := by decide +kernel
theorem dX12_clue_37 : decode cX12_clue 37 = .ok (.getfield 45, 3) := by decide +kernel
theorem dX12_clue_40 : decode cX12_clue 40 = .ok (.iconst 1, 1) := by decide +kernel
theorem dX12_clue_41 : decode cX12_clue 41 = .ok (.iaload, 1) := by decide +kernel
theorem dX12_clue_42 : decode cX12_clue 42 = .ok (.ireturn, 1) := by decide +kernel
theorem dX12_undo_0 : decode cX12_undo 0 = .ok (.aload_n 0, 1) := by decide +kernel
theorem dX12_undo_1 : decode cX12_undo 1 = .ok (.iconst 0, 1) := by decide +kernel
theorem dX12_undo_2 : decode cX12_undo 2 = .ok (.putfield 1, 3) := by decide +kernel
theorem dX12_undo_5 : decode cX12_undo 5 = .ok (.iload_n 1, 1) := by decide +kernel
theorem dX12_undo_6 : decode cX12_undo 6 = .ok (.i2l, 1) := by decide +kernel
theorem dX12_undo_7 : decode cX12_undo 7 = .ok (.lconst 1, 1) := by decide +kernel
theorem dX12_undo_8 : decode cX12_undo 8 = .ok (.ldc2_w 294, 3) := by decide +kernel
theorem dX12_undo_11 : decode cX12_undo 11 = .ok (.invokestatic 157, 3) := by decide +kernel
theorem dX12_undo_14 : decode cX12_undo 14 = .ok (.ifCond .eq 14, 3) := by decide +kernel
theorem dX12_undo_17 : decode cX12_undo 17 = .ok (.iload_n 1, 1) := by decide +kernel
theorem dX12_undo_18 : decode cX12_undo 18 = .ok (.aload_n 0, 1) := by decide +kernel
theorem dX12_undo_19 : decode cX12_undo 19 = .ok (.getfield 13, 3) := by decide +kernel
theorem dX12_undo_22 : decode cX12_undo 22 = .ok (.bipush 24, 2) := by decide +kernel
theorem dX12_undo_24 : decode cX12_undo 24 = .ok (.iaload, 1) := by decide +kernel
theorem dX12_undo_25 : decode cX12_undo 25 = .ok (.if_icmp .le 6, 3) := by decide +kernel
theorem dX12_undo_28 : decode cX12_undo 28 = .ok (.bipush (-3), 2) := by decide +kernel
theorem dX12_undo_30 : decode cX12_undo 30 = .ok (.ireturn, 1) := by decide +kernel
theorem dX12_undo_31 : decode cX12_undo 31 = .ok (.aload_n 0, 1) := by decide +kernel
theorem dX12_undo_32 : decode cX12_undo 32 = .ok (.getfield 13, 3) := by decide +kernel
theorem dX12_undo_35 : decode cX12_undo 35 = .ok (.bipush 24, 2) := by decide +kernel
theorem dX12_undo_37 : decode cX12_undo 37 = .ok (.dup2, 1) := by decide +kernel
theorem dX12_undo_38 : decode cX12_undo 38 = .ok (.iaload, 1) := by decide +kernel
theorem dX12_undo_39 : decode cX12_undo 39 = .ok (.iload_n 1, 1) := by decide +kernel
theorem dX12_undo_40 : decode cX12_undo 40 = .ok (.isub, 1) := by decide +kernel
theorem dX12_undo_41 : decode cX12_undo 41 = .ok (.iastore, 1) := by decide +kernel
theorem dX12_undo_42 : decode cX12_undo 42 = .ok (.iconst 0, 1) := by decide +kernel
theorem dX12_undo_43 : decode cX12_undo 43 = .ok (.istore_n 2, 1) := by decide +kernel
theorem dX12_undo_44 : decode cX12_undo 44 = .ok (.iload_n 2, 1) := by decide +kernel
theorem dX12_undo_45 : decode cX12_undo 45 = .ok (.iconst 3, 1) := by decide +kernel
theorem dX12_undo_46 : decode cX12_undo 46 = .ok (.if_icmp .ge 37, 3) := by decide +kernel
theorem dX12_undo_49 : decode cX12_undo 49 = .ok (.aload_n 0, 1) := by decide +kernel
theorem dX12_undo_50 : decode cX12_undo 50 = .ok (.getfield 13, 3) := by decide +kernel
theorem dX12_undo_53 : decode cX12_undo 53 = .ok (.bipush 21, 2) := by decide +kernel
theorem dX12_undo_55 : decode cX12_undo 55 = .ok (.iload_n 2, 1) := by decide +kernel
theorem dX12_undo_56 : decode cX12_undo 56 = .ok (.iadd, 1) := by decide +kernel
theorem dX12_undo_57 : decode cX12_undo 57 = .ok (.aload_n 0, 1) := by decide +kernel
theorem dX12_undo_58 : decode cX12_undo 58 = .ok (.getfield 13, 3) := by decide +kernel
theorem dX12_undo_61 : decode cX12_undo 61 = .ok (.bipush 25, 2) := by decide +kernel
theorem dX12_undo_63 : decode cX12_undo 63 = .ok (.iconst 3, 1) := by decide +kernel
theorem dX12_undo_64 : decode cX12_undo 64 = .ok (.aload_n 0, 1) := by decide +kernel
theorem dX12_undo_65 : decode cX12_undo 65 = .ok (.getfield 13, 3) := by decide +kernel
theorem dX12_undo_68 : decode cX12_undo 68 = .ok (.bipush 24, 2) := by decide +kernel
theorem dX12_undo_70 : decode cX12_undo 70 = .ok (.iaload, 1) := by decide +kernel
theorem dX12_undo_71 : decode cX12_undo 71 = .ok (.imul, 1) := by decide +kernel
theorem dX12_undo_72 : decode cX12_undo 72 = .ok (.iadd, 1) := by decide +kernel
theorem dX12_undo_73 : decode cX12_undo 73 = .ok (.iload_n 2, 1) := by decide +kernel
theorem dX12_undo_74 : decode cX12_undo 74 = .ok (.iadd, 1) := by decide +kernel
theorem dX12_undo_75 : decode cX12_undo 75 = .ok (.iaload, 1) := by decide +kernel
theorem dX12_undo_76 : decode cX12_undo 76 = .ok (.iastore, 1) := by decide +kernel
theorem dX12_undo_77 : decode cX12_undo 77 = .ok (.iinc 2 1, 3) := by decide +kernel
theorem dX12_undo_80 : decode cX12_undo 80 = .ok (.goto (-36), 3) := by decide +kernel
theorem dX12_undo_83 : decode cX12_undo 83 = .ok (.aload_n 0, 1) := by decide +kernel
theorem dX12_undo_84 : decode cX12_undo 84 = .ok (.getfield 13, 3) := by decide +kernel
theorem dX12_undo_87 : decode cX12_undo 87 = .ok (.bipush 24, 2) := by decide +kernel
theorem dX12_undo_89 : decode cX12_undo 89 = .ok (.iaload, 1) := by decide +kernel
theorem dX12_undo_90 : decode cX12_undo 90 = .ok (.ireturn, 1) := by decide +kernel
theorem dX12_whyNot_0 : decode cX12_whyNot 0 = .ok (.lload_n 1, 1) := by decide +kernel
theorem dX12_whyNot_1 : decode cX12_whyNot 1 = .ok (.lconst 0, 1) := by decide +kernel
theorem dX12_whyNot_2 : decode cX12_whyNot 2 = .ok (.lcmp, 1) := by decide +kernel
theorem dX12_whyNot_3 : decode cX12_whyNot 3 = .ok (.ifCond .eq 16, 3) := by decide +kernel
theorem dX12_whyNot_6 : decode cX12_whyNot 6 = .ok (.lload_n 1, 1) := by decide +kernel
theorem dX12_whyNot_7 : decode cX12_whyNot 7 = .ok (.ldc2_w 294, 3) := by decide +kernel
theorem dX12_whyNot_10 : decode cX12_whyNot 10 = .ok (.ldc2_w 296, 3) := by decide +kernel
theorem dX12_whyNot_13 : decode cX12_whyNot 13 = .ok (.invokestatic 157, 3) := by decide +kernel
theorem dX12_whyNot_16 : decode cX12_whyNot 16 = .ok (.ifCond .eq 5, 3) := by decide +kernel
theorem dX12_whyNot_19 : decode cX12_whyNot 19 = .ok (.iconst 0, 1) := by decide +kernel
theorem dX12_whyNot_20 : decode cX12_whyNot 20 = .ok (.ireturn, 1) := by decide +kernel
theorem dX12_whyNot_21 : decode cX12_whyNot 21 = .ok (.lload_n 1, 1) := by decide +kernel
theorem dX12_whyNot_22 : decode cX12_whyNot 22 = .ok (.ldc2_w 298, 3) := by decide +kernel
theorem dX12_whyNot_25 : decode cX12_whyNot 25 = .ok (.ldc2_w 300, 3) := by decide +kernel
theorem dX12_whyNot_28 : decode cX12_whyNot 28 = .ok (.invokestatic 157, 3) := by decide +kernel
theorem dX12_whyNot_31 : decode cX12_whyNot 31 = .ok (.ifCond .eq 28, 3) := by decide +kernel
theorem dX12_whyNot_34 : decode cX12_whyNot 34 = .ok (.aload_n 0, 1) := by decide +kernel
theorem dX12_whyNot_35 : decode cX12_whyNot 35 = .ok (.lload_n 1, 1) := by decide +kernel
theorem dX12_whyNot_36 : decode cX12_whyNot 36 = .ok (.ldc2_w 298, 3) := by decide +kernel
theorem dX12_whyNot_39 : decode cX12_whyNot 39 = .ok (.lsub, 1) := by decide +kernel
theorem dX12_whyNot_40 : decode cX12_whyNot 40 = .ok (.ldc2_w 294, 3) := by decide +kernel
theorem dX12_whyNot_43 : decode cX12_whyNot 43 = .ok (.ldiv, 1) := by decide +kernel
theorem dX12_whyNot_44 : decode cX12_whyNot 44 = .ok (.lload_n 1, 1) := by decide +kernel
theorem dX12_whyNot_45 : decode cX12_whyNot 45 = .ok (.ldc2_w 294, 3) := by decide +kernel
theorem dX12_whyNot_48 : decode cX12_whyNot 48 = .ok (.lrem, 1) := by decide +kernel
theorem dX12_whyNot_49 : decode cX12_whyNot 49 = .ok (.invokevirtual 271, 3) := by decide +kernel
theorem dX12_whyNot_52 : decode cX12_whyNot 52 = .ok (.ifCond .eq 7, 3) := by decide +kernel
theorem dX12_whyNot_55 : decode cX12_whyNot 55 = .ok (.iconst 0, 1) := by decide +kernel
theorem dX12_whyNot_56 : decode cX12_whyNot 56 = .ok (.goto 4, 3) := by decide +kernel
theorem dX12_whyNot_59 : decode cX12_whyNot 59 = .ok (.iconst 1, 1) := by decide +kernel
theorem dX12_whyNot_60 : decode cX12_whyNot 60 = .ok (.ireturn, 1) := by decide +kernel
theorem dX12_does_0 : decode cX12_does 0 = .ok (.iload_n 1, 1) := by decide +kernel
theorem dX12_does_1 : decode cX12_does 1 = .ok (.ifCond .ne 10, 3) := by decide +kernel
theorem dX12_does_4 : decode cX12_does 4 = .ok (.aload_n 0, 1) := by decide +kernel
theorem dX12_does_5 : decode cX12_does 5 = .ok (.invokevirtual 289, 3) := by decide +kernel
theorem dX12_does_8 : decode cX12_does 8 = .ok (.goto 52, 3) := by decide +kernel
theorem dX12_does_11 : decode cX12_does 11 = .ok (.iload_n 1, 1) := by decide +kernel
theorem dX12_does_12 : decode cX12_does 12 = .ok (.bipush 20, 2) := by decide +kernel
theorem dX12_does_14 : decode cX12_does 14 = .ok (.if_icmp .ge 17, 3) := by decide +kernel
theorem dX12_does_17 : decode cX12_does 17 = .ok (.aload_n 0, 1) := by decide +kernel
theorem dX12_does_18 : decode cX12_does 18 = .ok (.getfield 13, 3) := by decide +kernel
theorem dX12_does_21 : decode cX12_does 21 = .ok (.bipush 22, 2) := by decide +kernel
theorem dX12_does_23 : decode cX12_does 23 = .ok (.iload_n 1, 1) := by decide +kernel
theorem dX12_does_24 : decode cX12_does 24 = .ok (.bipush 10, 2) := by decide +kernel
theorem dX12_does_26 : decode cX12_does 26 = .ok (.isub, 1) := by decide +kernel
theorem dX12_does_27 : decode cX12_does 27 = .ok (.iastore, 1) := by decide +kernel
theorem dX12_does_28 : decode cX12_does 28 = .ok (.goto 32, 3) := by decide +kernel
theorem dX12_does_31 : decode cX12_does 31 = .ok (.aload_n 0, 1) := by decide +kernel
theorem dX12_does_32 : decode cX12_does 32 = .ok (.getfield 13, 3) := by decide +kernel
theorem dX12_does_35 : decode cX12_does 35 = .ok (.bipush 21, 2) := by decide +kernel
theorem dX12_does_37 : decode cX12_does 37 = .ok (.aload_n 0, 1) := by decide +kernel
theorem dX12_does_38 : decode cX12_does 38 = .ok (.aload_n 0, 1) := by decide +kernel
theorem dX12_does_39 : decode cX12_does 39 = .ok (.getfield 13, 3) := by decide +kernel
theorem dX12_does_42 : decode cX12_does 42 = .ok (.bipush 21, 2) := by decide +kernel
theorem dX12_does_44 : decode cX12_does 44 = .ok (.iaload, 1) := by decide +kernel
theorem dX12_does_45 : decode cX12_does 45 = .ok (.iload_n 1, 1) := by decide +kernel
theorem dX12_does_46 : decode cX12_does 46 = .ok (.bipush 100, 2) := by decide +kernel
theorem dX12_does_48 : decode cX12_does 48 = .ok (.isub, 1) := by decide +kernel
theorem dX12_does_49 : decode cX12_does 49 = .ok (.bipush 10, 2) := by decide +kernel
theorem dX12_does_51 : decode cX12_does 51 = .ok (.idiv, 1) := by decide +kernel
theorem dX12_does_52 : decode cX12_does 52 = .ok (.iload_n 1, 1) := by decide +kernel
theorem dX12_does_53 : decode cX12_does 53 = .ok (.bipush 10, 2) := by decide +kernel
theorem dX12_does_55 : decode cX12_does 55 = .ok (.irem, 1) := by decide +kernel
theorem dX12_does_56 : decode cX12_does 56 = .ok (.invokevirtual 278, 3) := by decide +kernel
theorem dX12_does_59 : decode cX12_does 59 = .ok (.iastore, 1) := by decide +kernel
theorem dX12_does_60 : decode cX12_does 60 = .ok (.return_, 1) := by decide +kernel
theorem dX12_tells_0 : decode cX12_tells 0 = .ok (.aload_n 0, 1) := by decide +kernel
theorem dX12_tells_1 : decode cX12_tells 1 = .ok (.iconst 0, 1) := by decide +kernel
theorem dX12_tells_2 : decode cX12_tells 2 = .ok (.putfield 302, 3) := by decide +kernel
theorem dX12_tells_5 : decode cX12_tells 5 = .ok (.iconst 0, 1) := by decide +kernel
theorem dX12_tells_6 : decode cX12_tells 6 = .ok (.istore_n 2, 1) := by decide +kernel
theorem dX12_tells_7 : decode cX12_tells 7 = .ok (.iload_n 2, 1) := by decide +kernel
theorem dX12_tells_8 : decode cX12_tells 8 = .ok (.aload_n 0, 1) := by decide +kernel
theorem dX12_tells_9 : decode cX12_tells 9 = .ok (.getfield 82, 3) := by decide +kernel
theorem dX12_tells_12 : decode cX12_tells 12 = .ok (.iload_n 1, 1) := by decide +kernel
theorem dX12_tells_13 : decode cX12_tells 13 = .ok (.iaload, 1) := by decide +kernel
theorem dX12_tells_14 : decode cX12_tells 14 = .ok (.if_icmp .ge 53, 3) := by decide +kernel
theorem dX12_tells_17 : decode cX12_tells 17 = .ok (.aload_n 0, 1) := by decide +kernel
theorem dX12_tells_18 : decode cX12_tells 18 = .ok (.aload_n 0, 1) := by decide +kernel
theorem dX12_tells_19 : decode cX12_tells 19 = .ok (.aload_n 0, 1) := by decide +kernel
theorem dX12_tells_20 : decode cX12_tells 20 = .ok (.getfield 85, 3) := by decide +kernel
theorem dX12_tells_23 : decode cX12_tells 23 = .ok (.bipush 40, 2) := by decide +kernel
theorem dX12_tells_25 : decode cX12_tells 25 = .ok (.iload_n 1, 1) := by decide +kernel
theorem dX12_tells_26 : decode cX12_tells 26 = .ok (.imul, 1) := by decide +kernel
theorem dX12_tells_27 : decode cX12_tells 27 = .ok (.iload_n 2, 1) := by decide +kernel
theorem dX12_tells_28 : decode cX12_tells 28 = .ok (.iadd, 1) := by decide +kernel
theorem dX12_tells_29 : decode cX12_tells 29 = .ok (.laload, 1) := by decide +kernel
theorem dX12_tells_30 : decode cX12_tells 30 = .ok (.invokevirtual 305, 3) := by decide +kernel
theorem dX12_tells_33 : decode cX12_tells 33 = .ok (.putfield 302, 3) := by decide +kernel
theorem dX12_tells_36 : decode cX12_tells 36 = .ok (.aload_n 0, 1) := by decide +kernel
theorem dX12_tells_37 : decode cX12_tells 37 = .ok (.getfield 302, 3) := by decide +kernel
theorem dX12_tells_40 : decode cX12_tells 40 = .ok (.ifCond .eq 5, 3) := by decide +kernel
theorem dX12_tells_43 : decode cX12_tells 43 = .ok (.iload_n 2, 1) := by decide +kernel
theorem dX12_tells_44 : decode cX12_tells 44 = .ok (.ireturn, 1) := by decide +kernel
theorem dX12_tells_45 : decode cX12_tells 45 = .ok (.aload_n 0, 1) := by decide +kernel
theorem dX12_tells_46 : decode cX12_tells 46 = .ok (.aload_n 0, 1) := by decide +kernel
theorem dX12_tells_47 : decode cX12_tells 47 = .ok (.getfield 85, 3) := by decide +kernel
theorem dX12_tells_50 : decode cX12_tells 50 = .ok (.bipush 40, 2) := by decide +kernel
theorem dX12_tells_52 : decode cX12_tells 52 = .ok (.iload_n 1, 1) := by decide +kernel
theorem dX12_tells_53 : decode cX12_tells 53 = .ok (.imul, 1) := by decide +kernel
theorem dX12_tells_54 : decode cX12_tells 54 = .ok (.iload_n 2, 1) := by decide +kernel
theorem dX12_tells_55 : decode cX12_tells 55 = .ok (.iadd, 1) := by decide +kernel
theorem dX12_tells_56 : decode cX12_tells 56 = .ok (.laload, 1) := by decide +kernel
theorem dX12_tells_57 : decode cX12_tells 57 = .ok (.l2i, 1) := by decide +kernel
theorem dX12_tells_58 : decode cX12_tells 58 = .ok (.invokevirtual 309, 3) := by decide +kernel
theorem dX12_tells_61 : decode cX12_tells 61 = .ok (.iinc 2 1, 3) := by decide +kernel
theorem dX12_tells_64 : decode cX12_tells 64 = .ok (.goto (-57), 3) := by decide +kernel
theorem dX12_tells_67 : decode cX12_tells 67 = .ok (.aload_n 0, 1) := by decide +kernel
theorem dX12_tells_68 : decode cX12_tells 68 = .ok (.getfield 82, 3) := by decide +kernel
theorem dX12_tells_71 : decode cX12_tells 71 = .ok (.iload_n 1, 1) := by decide +kernel
theorem dX12_tells_72 : decode cX12_tells 72 = .ok (.iaload, 1) := by decide +kernel
theorem dX12_tells_73 : decode cX12_tells 73 = .ok (.ireturn, 1) := by decide +kernel
theorem dX12_noTray_0 : decode cX12_noTray 0 = .ok (.iload_n 1, 1) := by decide +kernel
theorem dX12_noTray_1 : decode cX12_noTray 1 = .ok (.i2l, 1) := by decide +kernel
theorem dX12_noTray_2 : decode cX12_noTray 2 = .ok (.lconst 0, 1) := by decide +kernel
theorem dX12_noTray_3 : decode cX12_noTray 3 = .ok (.ldc2_w 312, 3) := by decide +kernel
theorem dX12_noTray_6 : decode cX12_noTray 6 = .ok (.invokestatic 157, 3) := by decide +kernel
theorem dX12_noTray_9 : decode cX12_noTray 9 = .ok (.ifCond .ne 8, 3) := by decide +kernel
theorem dX12_noTray_12 : decode cX12_noTray 12 = .ok (.bipush (-2), 2) := by decide +kernel
theorem dX12_noTray_14 : decode cX12_noTray 14 = .ok (.goto 19, 3) := by decide +kernel
theorem dX12_noTray_17 : decode cX12_noTray 17 = .ok (.aload_n 0, 1) := by decide +kernel
theorem dX12_noTray_18 : decode cX12_noTray 18 = .ok (.getfield 79, 3) := by decide +kernel
theorem dX12_noTray_21 : decode cX12_noTray 21 = .ok (.iload_n 1, 1) := by decide +kernel
theorem dX12_noTray_22 : decode cX12_noTray 22 = .ok (.iaload, 1) := by decide +kernel
theorem dX12_noTray_23 : decode cX12_noTray 23 = .ok (.iconst (-1), 1) := by decide +kernel
theorem dX12_noTray_24 : decode cX12_noTray 24 = .ok (.if_icmp .ne 8, 3) := by decide +kernel
theorem dX12_noTray_27 : decode cX12_noTray 27 = .ok (.bipush (-6), 2) := by decide +kernel
theorem dX12_noTray_29 : decode cX12_noTray 29 = .ok (.goto 4, 3) := by decide +kernel
theorem dX12_noTray_32 : decode cX12_noTray 32 = .ok (.iconst 0, 1) := by decide +kernel
theorem dX12_noTray_33 : decode cX12_noTray 33 = .ok (.ireturn, 1) := by decide +kernel
theorem dX12_judge_0 : decode cX12_judge 0 = .ok (.aload_n 0, 1) := by decide +kernel
theorem dX12_judge_1 : decode cX12_judge 1 = .ok (.iconst 0, 1) := by decide +kernel
theorem dX12_judge_2 : decode cX12_judge 2 = .ok (.putfield 1, 3) := by decide +kernel
theorem dX12_judge_5 : decode cX12_judge 5 = .ok (.iload_n 2, 1) := by decide +kernel
theorem dX12_judge_6 : decode cX12_judge 6 = .ok (.i2l, 1) := by decide +kernel
theorem dX12_judge_7 : decode cX12_judge 7 = .ok (.lconst 0, 1) := by decide +kernel
theorem dX12_judge_8 : decode cX12_judge 8 = .ok (.ldc2_w 312, 3) := by decide +kernel
theorem dX12_judge_11 : decode cX12_judge 11 = .ok (.invokestatic 157, 3) := by decide +kernel
theorem dX12_judge_14 : decode cX12_judge 14 = .ok (.ifCond .ne 6, 3) := by decide +kernel
theorem dX12_judge_17 : decode cX12_judge 17 = .ok (.bipush (-2), 2) := by decide +kernel
theorem dX12_judge_19 : decode cX12_judge 19 = .ok (.ireturn, 1) := by decide +kernel
theorem dX12_judge_20 : decode cX12_judge 20 = .ok (.aload_n 0, 1) := by decide +kernel
theorem dX12_judge_21 : decode cX12_judge 21 = .ok (.iload_n 1, 1) := by decide +kernel
theorem dX12_judge_22 : decode cX12_judge 22 = .ok (.invokevirtual 314, 3) := by decide +kernel
theorem dX12_judge_25 : decode cX12_judge 25 = .ok (.istore_n 3, 1) := by decide +kernel
theorem dX12_judge_26 : decode cX12_judge 26 = .ok (.iload_n 3, 1) := by decide +kernel
theorem dX12_judge_27 : decode cX12_judge 27 = .ok (.ifCond .eq 5, 3) := by decide +kernel
theorem dX12_judge_30 : decode cX12_judge 30 = .ok (.iload_n 3, 1) := by decide +kernel
theorem dX12_judge_31 : decode cX12_judge 31 = .ok (.ireturn, 1) := by decide +kernel
theorem dX12_judge_32 : decode cX12_judge 32 = .ok (.aload_n 0, 1) := by decide +kernel
theorem dX12_judge_33 : decode cX12_judge 33 = .ok (.invokevirtual 275, 3) := by decide +kernel
theorem dX12_judge_36 : decode cX12_judge 36 = .ok (.aload_n 0, 1) := by decide +kernel
theorem dX12_judge_37 : decode cX12_judge 37 = .ok (.iload_n 1, 1) := by decide +kernel
theorem dX12_judge_38 : decode cX12_judge 38 = .ok (.invokevirtual 317, 3) := by decide +kernel
theorem dX12_judge_41 : decode cX12_judge 41 = .ok (.istore 4, 2) := by decide +kernel
theorem dX12_judge_43 : decode cX12_judge 43 = .ok (.aload_n 0, 1) := by decide +kernel
theorem dX12_judge_44 : decode cX12_judge 44 = .ok (.getfield 13, 3) := by decide +kernel
theorem dX12_judge_47 : decode cX12_judge 47 = .ok (.bipush 21, 2) := by decide +kernel
theorem dX12_judge_49 : decode cX12_judge 49 = .ok (.iaload, 1) := by decide +kernel
theorem dX12_judge_50 : decode cX12_judge 50 = .ok (.istore 5, 2) := by decide +kernel
theorem dX12_judge_52 : decode cX12_judge 52 = .ok (.aload_n 0, 1) := by decide +kernel
theorem dX12_judge_53 : decode cX12_judge 53 = .ok (.invokevirtual 265, 3) := by decide +kernel
theorem dX12_judge_56 : decode cX12_judge 56 = .ok (.istore 6, 2) := by decide +kernel
theorem dX12_judge_58 : decode cX12_judge 58 = .ok (.aload_n 0, 1) := by decide +kernel
theorem dX12_judge_59 : decode cX12_judge 59 = .ok (.invokevirtual 320, 3) := by decide +kernel
theorem dX12_judge_62 : decode cX12_judge 62 = .ok (.iload_n 2, 1) := by decide +kernel
theorem dX12_judge_63 : decode cX12_judge 63 = .ok (.ifCond .ne 19, 3) := by decide +kernel
theorem dX12_judge_66 : decode cX12_judge 66 = .ok (.aload_n 0, 1) := by decide +kernel
theorem dX12_judge_67 : decode cX12_judge 67 = .ok (.getfield 302, 3) := by decide +kernel
theorem dX12_judge_70 : decode cX12_judge 70 = .ok (.ifCond .ne 7, 3) := by decide +kernel
theorem dX12_judge_73 : decode cX12_judge 73 = .ok (.iconst (-1), 1) := by decide +kernel
theorem dX12_judge_74 : decode cX12_judge 74 = .ok (.goto 32, 3) := by decide +kernel
theorem dX12_judge_77 : decode cX12_judge 77 = .ok (.iload 4, 2) := by decide +kernel
theorem dX12_judge_79 : decode cX12_judge 79 = .ok (.goto 27, 3) := by decide +kernel
theorem dX12_judge_82 : decode cX12_judge 82 = .ok (.iload_n 2, 1) := by decide +kernel
theorem dX12_judge_83 : decode cX12_judge 83 = .ok (.iconst 1, 1) := by decide +kernel
theorem dX12_judge_84 : decode cX12_judge 84 = .ok (.if_icmp .ne 10, 3) := by decide +kernel
theorem dX12_judge_87 : decode cX12_judge 87 = .ok (.aload_n 0, 1) := by decide +kernel
theorem dX12_judge_88 : decode cX12_judge 88 = .ok (.getfield 302, 3) := by decide +kernel
theorem dX12_judge_91 : decode cX12_judge 91 = .ok (.goto 15, 3) := by decide +kernel
theorem dX12_judge_94 : decode cX12_judge 94 = .ok (.iload_n 2, 1) := by decide +kernel
theorem dX12_judge_95 : decode cX12_judge 95 = .ok (.iconst 2, 1) := by decide +kernel
theorem dX12_judge_96 : decode cX12_judge 96 = .ok (.if_icmp .ne 8, 3) := by decide +kernel
theorem dX12_judge_99 : decode cX12_judge 99 = .ok (.iload 5, 2) := by decide +kernel
theorem dX12_judge_101 : decode cX12_judge 101 = .ok (.goto 5, 3) := by decide +kernel
theorem dX12_judge_104 : decode cX12_judge 104 = .ok (.iload 6, 2) := by decide +kernel
theorem dX12_judge_106 : decode cX12_judge 106 = .ok (.ireturn, 1) := by decide +kernel
theorem dX12_perform_0 : decode cX12_perform 0 = .ok (.aload_n 0, 1) := by decide +kernel
theorem dX12_perform_1 : decode cX12_perform 1 = .ok (.iconst 0, 1) := by decide +kernel
theorem dX12_perform_2 : decode cX12_perform 2 = .ok (.putfield 1, 3) := by decide +kernel
theorem dX12_perform_5 : decode cX12_perform 5 = .ok (.aload_n 0, 1) := by decide +kernel
theorem dX12_perform_6 : decode cX12_perform 6 = .ok (.iload_n 1, 1) := by decide +kernel
theorem dX12_perform_7 : decode cX12_perform 7 = .ok (.invokevirtual 314, 3) := by decide +kernel
theorem dX12_perform_10 : decode cX12_perform 10 = .ok (.istore_n 2, 1) := by decide +kernel
theorem dX12_perform_11 : decode cX12_perform 11 = .ok (.iload_n 2, 1) := by decide +kernel
theorem dX12_perform_12 : decode cX12_perform 12 = .ok (.ifCond .eq 5, 3) := by decide +kernel
theorem dX12_perform_15 : decode cX12_perform 15 = .ok (.iload_n 2, 1) := by decide +kernel
theorem dX12_perform_16 : decode cX12_perform 16 = .ok (.ireturn, 1) := by decide +kernel
theorem dX12_perform_17 : decode cX12_perform 17 = .ok (.aload_n 0, 1) := by decide +kernel
theorem dX12_perform_18 : decode cX12_perform 18 = .ok (.invokevirtual 275, 3) := by decide +kernel
theorem dX12_perform_21 : decode cX12_perform 21 = .ok (.aload_n 0, 1) := by decide +kernel
theorem dX12_perform_22 : decode cX12_perform 22 = .ok (.iload_n 1, 1) := by decide +kernel
theorem dX12_perform_23 : decode cX12_perform 23 = .ok (.invokevirtual 317, 3) := by decide +kernel
theorem dX12_perform_26 : decode cX12_perform 26 = .ok (.istore_n 3, 1) := by decide +kernel
theorem dX12_perform_27 : decode cX12_perform 27 = .ok (.iload_n 3, 1) := by decide +kernel
theorem dX12_perform_28 : decode cX12_perform 28 = .ok (.ifCond .le 7, 3) := by decide +kernel
theorem dX12_perform_31 : decode cX12_perform 31 = .ok (.aload_n 0, 1) := by decide +kernel
theorem dX12_perform_32 : decode cX12_perform 32 = .ok (.invokevirtual 281, 3) := by decide +kernel
theorem dX12_perform_35 : decode cX12_perform 35 = .ok (.iload_n 3, 1) := by decide +kernel
theorem dX12_perform_36 : decode cX12_perform 36 = .ok (.ireturn, 1) := by decide +kernel
theorem dX12_draw_0 : decode cX12_draw 0 = .ok (.aload_n 0, 1) := by decide +kernel
theorem dX12_draw_1 : decode cX12_draw 1 = .ok (.ldc_w 323, 3) := by decide +kernel
theorem dX12_draw_4 : decode cX12_draw 4 = .ok (.aload_n 0, 1) := by decide +kernel
theorem dX12_draw_5 : decode cX12_draw 5 = .ok (.getfield 324, 3) := by decide +kernel
theorem dX12_draw_8 : decode cX12_draw 8 = .ok (.imul, 1) := by decide +kernel
theorem dX12_draw_9 : decode cX12_draw 9 = .ok (.sipush 12345, 3) := by decide +kernel
theorem dX12_draw_12 : decode cX12_draw 12 = .ok (.iadd, 1) := by decide +kernel
theorem dX12_draw_13 : decode cX12_draw 13 = .ok (.putfield 324, 3) := by decide +kernel
theorem dX12_draw_16 : decode cX12_draw 16 = .ok (.aload_n 0, 1) := by decide +kernel
theorem dX12_draw_17 : decode cX12_draw 17 = .ok (.getfield 324, 3) := by decide +kernel
theorem dX12_draw_20 : decode cX12_draw 20 = .ok (.bipush 16, 2) := by decide +kernel
theorem dX12_draw_22 : decode cX12_draw 22 = .ok (.iushr, 1) := by decide +kernel
theorem dX12_draw_23 : decode cX12_draw 23 = .ok (.iload_n 1, 1) := by decide +kernel
theorem dX12_draw_24 : decode cX12_draw 24 = .ok (.irem, 1) := by decide +kernel
theorem dX12_draw_25 : decode cX12_draw 25 = .ok (.ireturn, 1) := by decide +kernel
theorem dX12_drawn_0 : decode cX12_drawn 0 = .ok (.aload_n 0, 1) := by decide +kernel
theorem dX12_drawn_1 : decode cX12_drawn 1 = .ok (.iconst 4, 1) := by decide +kernel
theorem dX12_drawn_2 : decode cX12_drawn 2 = .ok (.invokevirtual 327, 3) := by decide +kernel
theorem dX12_drawn_5 : decode cX12_drawn 5 = .ok (.istore_n 1, 1) := by decide +kernel
theorem dX12_drawn_6 : decode cX12_drawn 6 = .ok (.iload_n 1, 1) := by decide +kernel
theorem dX12_drawn_7 : decode cX12_drawn 7 = .ok (.iconst 3, 1) := by decide +kernel
theorem dX12_drawn_8 : decode cX12_drawn 8 = .ok (.if_icmp .ge 22, 3) := by decide +kernel
theorem dX12_drawn_11 : decode cX12_drawn 11 = .ok (.iload_n 1, 1) := by decide +kernel
theorem dX12_drawn_12 : decode cX12_drawn 12 = .ok (.iconst 2, 1) := by decide +kernel
theorem dX12_drawn_13 : decode cX12_drawn 13 = .ok (.if_icmp .ge 7, 3) := by decide +kernel
theorem dX12_drawn_16 : decode cX12_drawn 16 = .ok (.iconst 0, 1) := by decide +kernel
theorem dX12_drawn_17 : decode cX12_drawn 17 = .ok (.goto 12, 3) := by decide +kernel
theorem dX12_drawn_20 : decode cX12_drawn 20 = .ok (.bipush 10, 2) := by decide +kernel
theorem dX12_drawn_22 : decode cX12_drawn 22 = .ok (.aload_n 0, 1) := by decide +kernel
theorem dX12_drawn_23 : decode cX12_drawn 23 = .ok (.bipush 10, 2) := by decide +kernel
theorem dX12_drawn_25 : decode cX12_drawn 25 = .ok (.invokevirtual 327, 3) := by decide +kernel
theorem dX12_drawn_28 : decode cX12_drawn 28 = .ok (.iadd, 1) := by decide +kernel
theorem dX12_drawn_29 : decode cX12_drawn 29 = .ok (.ireturn, 1) := by decide +kernel
theorem dX12_drawn_30 : decode cX12_drawn 30 = .ok (.aload_n 0, 1) := by decide +kernel
theorem dX12_drawn_31 : decode cX12_drawn 31 = .ok (.bipush 6, 2) := by decide +kernel
theorem dX12_drawn_33 : decode cX12_drawn 33 = .ok (.invokevirtual 327, 3) := by decide +kernel
theorem dX12_drawn_36 : decode cX12_drawn 36 = .ok (.istore_n 2, 1) := by decide +kernel
theorem dX12_drawn_37 : decode cX12_drawn 37 = .ok (.bipush 100, 2) := by decide +kernel
theorem dX12_drawn_39 : decode cX12_drawn 39 = .ok (.bipush 10, 2) := by decide +kernel
theorem dX12_drawn_41 : decode cX12_drawn 41 = .ok (.iload_n 2, 1) := by decide +kernel
theorem dX12_drawn_42 : decode cX12_drawn 42 = .ok (.imul, 1) := by decide +kernel
theorem dX12_drawn_43 : decode cX12_drawn 43 = .ok (.iadd, 1) := by decide +kernel
theorem dX12_drawn_44 : decode cX12_drawn 44 = .ok (.aload_n 0, 1) := by decide +kernel
theorem dX12_drawn_45 : decode cX12_drawn 45 = .ok (.bipush 6, 2) := by decide +kernel
theorem dX12_drawn_47 : decode cX12_drawn 47 = .ok (.invokevirtual 327, 3) := by decide +kernel
theorem dX12_drawn_50 : decode cX12_drawn 50 = .ok (.iadd, 1) := by decide +kernel
theorem dX12_drawn_51 : decode cX12_drawn 51 = .ok (.ireturn, 1) := by decide +kernel
theorem dX12_year_0 : decode cX12_year 0 = .ok (.aload_n 0, 1) := by decide +kernel
theorem dX12_year_1 : decode cX12_year 1 = .ok (.iconst 0, 1) := by decide +kernel
theorem dX12_year_2 : decode cX12_year 2 = .ok (.putfield 1, 3) := by decide +kernel
theorem dX12_year_5 : decode cX12_year 5 = .ok (.iload_n 2, 1) := by decide +kernel
theorem dX12_year_6 : decode cX12_year 6 = .ok (.i2l, 1) := by decide +kernel
theorem dX12_year_7 : decode cX12_year 7 = .ok (.lconst 1, 1) := by decide +kernel
theorem dX12_year_8 : decode cX12_year 8 = .ok (.ldc2_w 330, 3) := by decide +kernel
theorem dX12_year_11 : decode cX12_year 11 = .ok (.invokestatic 157, 3) := by decide +kernel
theorem dX12_year_14 : decode cX12_year 14 = .ok (.ifCond .ne 6, 3) := by decide +kernel
theorem dX12_year_17 : decode cX12_year 17 = .ok (.bipush (-3), 2) := by decide +kernel
theorem dX12_year_19 : decode cX12_year 19 = .ok (.ireturn, 1) := by decide +kernel
theorem dX12_year_20 : decode cX12_year 20 = .ok (.aload_n 0, 1) := by decide +kernel
theorem dX12_year_21 : decode cX12_year 21 = .ok (.invokevirtual 275, 3) := by decide +kernel
theorem dX12_year_24 : decode cX12_year 24 = .ok (.aload_n 0, 1) := by decide +kernel
theorem dX12_year_25 : decode cX12_year 25 = .ok (.iload_n 1, 1) := by decide +kernel
theorem dX12_year_26 : decode cX12_year 26 = .ok (.putfield 324, 3) := by decide +kernel
theorem dX12_year_29 : decode cX12_year 29 = .ok (.iconst 0, 1) := by decide +kernel
theorem dX12_year_30 : decode cX12_year 30 = .ok (.istore_n 3, 1) := by decide +kernel
theorem dX12_year_31 : decode cX12_year 31 = .ok (.iconst 0, 1) := by decide +kernel
theorem dX12_year_32 : decode cX12_year 32 = .ok (.istore 4, 2) := by decide +kernel
theorem dX12_year_34 : decode cX12_year 34 = .ok (.iload 4, 2) := by decide +kernel
theorem dX12_year_36 : decode cX12_year 36 = .ok (.iload_n 2, 1) := by decide +kernel
