theorem dX4_init_0 : decode cX4_init 0 = .ok (.aload_n 0, 1) := by decide +kernel
theorem dX4_init_1 : decode cX4_init 1 = .ok (.invokespecial 3, 3) := by decide +kernel
theorem dX4_init_4 : decode cX4_init 4 = .ok (.aload_n 0, 1) := by decide +kernel
theorem dX4_init_5 : decode cX4_init 5 = .ok (.iconst 0, 1) := by decide +kernel
theorem dX4_init_6 : decode cX4_init 6 = .ok (.putfield 9, 3) := by decide +kernel
theorem dX4_init_9 : decode cX4_init 9 = .ok (.aload_n 0, 1) := by decide +kernel
theorem dX4_init_10 : decode cX4_init 10 = .ok (.iconst 0, 1) := by decide +kernel
theorem dX4_init_11 : decode cX4_init 11 = .ok (.putfield 15, 3) := by decide +kernel
theorem dX4_init_14 : decode cX4_init 14 = .ok (.aload_n 0, 1) := by decide +kernel
theorem dX4_init_15 : decode cX4_init 15 = .ok (.iconst 1, 1) := by decide +kernel
theorem dX4_init_16 : decode cX4_init 16 = .ok (.putfield 18, 3) := by decide +kernel
theorem dX4_init_19 : decode cX4_init 19 = .ok (.aload_n 0, 1) := by decide +kernel
theorem dX4_init_20 : decode cX4_init 20 = .ok (.iconst 1, 1) := by decide +kernel
theorem dX4_init_21 : decode cX4_init 21 = .ok (.putfield 21, 3) := by decide +kernel
theorem dX4_init_24 : decode cX4_init 24 = .ok (.aload_n 0, 1) := by decide +kernel
theorem dX4_init_25 : decode cX4_init 25 = .ok (.iconst 0, 1) := by decide +kernel
theorem dX4_init_26 : decode cX4_init 26 = .ok (.putfield 24, 3) := by decide +kernel
theorem dX4_init_29 : decode cX4_init 29 = .ok (.aload_n 0, 1) := by decide +kernel
theorem dX4_init_30 : decode cX4_init 30 = .ok (.iconst 0, 1) := by decide +kernel
theorem dX4_init_31 : decode cX4_init 31 = .ok (.putfield 27, 3) := by decide +kernel
theorem dX4_init_34 : decode cX4_init 34 = .ok (.aload_n 0, 1) := by decide +kernel
theorem dX4_init_35 : decode cX4_init 35 = .ok (.bipush 6, 2) := by decide +kernel
theorem dX4_init_37 : decode cX4_init 37 = .ok (.newarray .int, 2) := by decide +kernel
theorem dX4_init_39 : decode cX4_init 39 = .ok (.putfield 30, 3) := by decide +kernel
theorem dX4_init_42 : decode cX4_init 42 = .ok (.aload_n 0, 1) := by decide +kernel
theorem dX4_init_43 : decode cX4_init 43 = .ok (.bipush 6, 2) := by decide +kernel
theorem dX4_init_45 : decode cX4_init 45 = .ok (.newarray .int, 2) := by decide +kernel
theorem dX4_init_47 : decode cX4_init 47 = .ok (.putfield 34, 3) := by decide +kernel
theorem dX4_init_50 : decode cX4_init 50 = .ok (.aload_n 0, 1) := by decide +kernel
theorem dX4_init_51 : decode cX4_init 51 = .ok (.new 37, 3) := by decide +kernel
theorem dX4_init_54 : decode cX4_init 54 = .ok (.dup, 1) := by decide +kernel
theorem dX4_init_55 : decode cX4_init 55 = .ok (.invokespecial 39, 3) := by decide +kernel
theorem dX4_init_58 : decode cX4_init 58 = .ok (.putfield 40, 3) := by decide +kernel
theorem dX4_init_61 : decode cX4_init 61 = .ok (.aload_n 0, 1) := by decide +kernel
theorem dX4_init_62 : decode cX4_init 62 = .ok (.new 37, 3) := by decide +kernel
theorem dX4_init_65 : decode cX4_init 65 = .ok (.dup, 1) := by decide +kernel
theorem dX4_init_66 : decode cX4_init 66 = .ok (.invokespecial 39, 3) := by decide +kernel
theorem dX4_init_69 : decode cX4_init 69 = .ok (.putfield 44, 3) := by decide +kernel
theorem dX4_init_72 : decode cX4_init 72 = .ok (.aload_n 0, 1) := by decide +kernel
theorem dX4_init_73 : decode cX4_init 73 = .ok (.aconst_null, 1) := by decide +kernel
theorem dX4_init_74 : decode cX4_init 74 = .ok (.putfield 47, 3) := by decide +kernel
theorem dX4_init_77 : decode cX4_init 77 = .ok (.aload_n 0, 1) := by decide +kernel
theorem dX4_init_78 : decode cX4_init 78 = .ok (.iconst 0, 1) := by decide +kernel
theorem dX4_init_79 : decode cX4_init 79 = .ok (.putfield 51, 3) := by decide +kernel
theorem dX4_init_82 : decode cX4_init 82 = .ok (.aload_n 0, 1) := by decide +kernel
theorem dX4_init_83 : decode cX4_init 83 = .ok (.iconst 0, 1) := by decide +kernel
theorem dX4_init_84 : decode cX4_init 84 = .ok (.putfield 54, 3) := by decide +kernel
theorem dX4_init_87 : decode cX4_init 87 = .ok (.aload_n 0, 1) := by decide +kernel
theorem dX4_init_88 : decode cX4_init 88 = .ok (.iconst 2, 1) := by decide +kernel
theorem dX4_init_89 : decode cX4_init 89 = .ok (.putfield 57, 3) := by decide +kernel
theorem dX4_init_92 : decode cX4_init 92 = .ok (.aload_n 0, 1) := by decide +kernel
theorem dX4_init_93 : decode cX4_init 93 = .ok (.iconst 0, 1) := by decide +kernel
theorem dX4_init_94 : decode cX4_init 94 = .ok (.putfield 60, 3) := by decide +kernel
theorem dX4_init_97 : decode cX4_init 97 = .ok (.aload_n 0, 1) := by decide +kernel
theorem dX4_init_98 : decode cX4_init 98 = .ok (.iconst 0, 1) := by decide +kernel
theorem dX4_init_99 : decode cX4_init 99 = .ok (.putfield 63, 3) := by decide +kernel
theorem dX4_init_102 : decode cX4_init 102 = .ok (.aload_n 0, 1) := by decide +kernel
theorem dX4_init_103 : decode cX4_init 103 = .ok (.iconst 0, 1) := by decide +kernel
theorem dX4_init_104 : decode cX4_init 104 = .ok (.putfield 66, 3) := by decide +kernel
theorem dX4_init_107 : decode cX4_init 107 = .ok (.aload_n 0, 1) := by decide +kernel
theorem dX4_init_108 : decode cX4_init 108 = .ok (.aload_n 0, 1) := by decide +kernel
theorem dX4_init_109 : decode cX4_init 109 = .ok (.getfield 40, 3) := by decide +kernel
theorem dX4_init_112 : decode cX4_init 112 = .ok (.putfield 69, 3) := by decide +kernel
theorem dX4_init_115 : decode cX4_init 115 = .ok (.return_, 1) := by decide +kernel
theorem dX4_read_0 : decode cX4_read 0 = .ok (.aload_n 0, 1) := by decide +kernel
theorem dX4_read_1 : decode cX4_read 1 = .ok (.invokevirtual 72, 3) := by decide +kernel
theorem dX4_read_4 : decode cX4_read 4 = .ok (.aload_n 0, 1) := by decide +kernel
theorem dX4_read_5 : decode cX4_read 5 = .ok (.aload_n 1, 1) := by decide +kernel
theorem dX4_read_6 : decode cX4_read 6 = .ok (.putfield 47, 3) := by decide +kernel
theorem dX4_read_9 : decode cX4_read 9 = .ok (.aload_n 0, 1) := by decide +kernel
theorem dX4_read_10 : decode cX4_read 10 = .ok (.iload_n 2, 1) := by decide +kernel
theorem dX4_read_11 : decode cX4_read 11 = .ok (.aload_n 1, 1) := by decide +kernel
theorem dX4_read_12 : decode cX4_read 12 = .ok (.arraylength, 1) := by decide +kernel
theorem dX4_read_13 : decode cX4_read 13 = .ok (.invokestatic 75, 3) := by decide +kernel
theorem dX4_read_16 : decode cX4_read 16 = .ok (.putfield 51, 3) := by decide +kernel
theorem dX4_read_19 : decode cX4_read 19 = .ok (.aload_n 0, 1) := by decide +kernel
theorem dX4_read_20 : decode cX4_read 20 = .ok (.invokevirtual 81, 3) := by decide +kernel
theorem dX4_read_23 : decode cX4_read 23 = .ok (.aload_n 0, 1) := by decide +kernel
theorem dX4_read_24 : decode cX4_read 24 = .ok (.invokevirtual 84, 3) := by decide +kernel
theorem dX4_read_27 : decode cX4_read 27 = .ok (.iconst 0, 1) := by decide +kernel
theorem dX4_read_28 : decode cX4_read 28 = .ok (.istore_n 3, 1) := by decide +kernel
theorem dX4_read_29 : decode cX4_read 29 = .ok (.iload_n 3, 1) := by decide +kernel
theorem dX4_read_30 : decode cX4_read 30 = .ok (.aload_n 0, 1) := by decide +kernel
theorem dX4_read_31 : decode cX4_read 31 = .ok (.getfield 51, 3) := by decide +kernel
theorem dX4_read_34 : decode cX4_read 34 = .ok (.if_icmp .ge 43, 3) := by decide +kernel
theorem dX4_read_37 : decode cX4_read 37 = .ok (.aload_n 0, 1) := by decide +kernel
theorem dX4_read_38 : decode cX4_read 38 = .ok (.getfield 9, 3) := by decide +kernel
theorem dX4_read_41 : decode cX4_read 41 = .ok (.ifCond .ne 36, 3) := by decide +kernel
theorem dX4_read_44 : decode cX4_read 44 = .ok (.aload_n 0, 1) := by decide +kernel
theorem dX4_read_45 : decode cX4_read 45 = .ok (.getfield 57, 3) := by decide +kernel
theorem dX4_read_48 : decode cX4_read 48 = .ok (.ifCond .eq 29, 3) := by decide +kernel
theorem dX4_read_51 : decode cX4_read 51 = .ok (.aload_n 0, 1) := by decide +kernel
theorem dX4_read_52 : decode cX4_read 52 = .ok (.invokevirtual 87, 3) := by decide +kernel
theorem dX4_read_55 : decode cX4_read 55 = .ok (.aload_n 0, 1) := by decide +kernel
theorem dX4_read_56 : decode cX4_read 56 = .ok (.bipush 59, 2) := by decide +kernel
theorem dX4_read_58 : decode cX4_read 58 = .ok (.invokevirtual 90, 3) := by decide +kernel
theorem dX4_read_61 : decode cX4_read 61 = .ok (.aload_n 0, 1) := by decide +kernel
theorem dX4_read_62 : decode cX4_read 62 = .ok (.dup, 1) := by decide +kernel
theorem dX4_read_63 : decode cX4_read 63 = .ok (.getfield 27, 3) := by decide +kernel
theorem dX4_read_66 : decode cX4_read 66 = .ok (.iconst 1, 1) := by decide +kernel
theorem dX4_read_67 : decode cX4_read 67 = .ok (.iadd, 1) := by decide +kernel
theorem dX4_read_68 : decode cX4_read 68 = .ok (.putfield 27, 3) := by decide +kernel
theorem dX4_read_71 : decode cX4_read 71 = .ok (.iinc 3 1, 3) := by decide +kernel
theorem dX4_read_74 : decode cX4_read 74 = .ok (.goto (-45), 3) := by decide +kernel
theorem dX4_read_77 : decode cX4_read 77 = .ok (.aload_n 0, 1) := by decide +kernel
theorem dX4_read_78 : decode cX4_read 78 = .ok (.aload_n 0, 1) := by decide +kernel
theorem dX4_read_79 : decode cX4_read 79 = .ok (.getfield 30, 3) := by decide +kernel
theorem dX4_read_82 : decode cX4_read 82 = .ok (.invokevirtual 94, 3) := by decide +kernel
theorem dX4_read_85 : decode cX4_read 85 = .ok (.ifCond .eq 14, 3) := by decide +kernel
theorem dX4_read_88 : decode cX4_read 88 = .ok (.aload_n 0, 1) := by decide +kernel
theorem dX4_read_89 : decode cX4_read 89 = .ok (.aload_n 0, 1) := by decide +kernel
theorem dX4_read_90 : decode cX4_read 90 = .ok (.getfield 34, 3) := by decide +kernel
theorem dX4_read_93 : decode cX4_read 93 = .ok (.invokevirtual 94, 3) := by decide +kernel
theorem dX4_read_96 : decode cX4_read 96 = .ok (.ifCond .ne 8, 3) := by decide +kernel
theorem dX4_read_99 : decode cX4_read 99 = .ok (.aload_n 0, 1) := by decide +kernel
theorem dX4_read_100 : decode cX4_read 100 = .ok (.iconst 3, 1) := by decide +kernel
theorem dX4_read_101 : decode cX4_read 101 = .ok (.invokevirtual 98, 3) := by decide +kernel
theorem dX4_read_104 : decode cX4_read 104 = .ok (.return_, 1) := by decide +kernel
theorem dX4_clear_0 : decode cX4_clear 0 = .ok (.aload_n 0, 1) := by decide +kernel
theorem dX4_clear_1 : decode cX4_clear 1 = .ok (.iconst 0, 1) := by decide +kernel
theorem dX4_clear_2 : decode cX4_clear 2 = .ok (.putfield 9, 3) := by decide +kernel
theorem dX4_clear_5 : decode cX4_clear 5 = .ok (.aload_n 0, 1) := by decide +kernel
theorem dX4_clear_6 : decode cX4_clear 6 = .ok (.iconst 0, 1) := by decide +kernel
theorem dX4_clear_7 : decode cX4_clear 7 = .ok (.putfield 24, 3) := by decide +kernel
theorem dX4_clear_10 : decode cX4_clear 10 = .ok (.aload_n 0, 1) := by decide +kernel
theorem dX4_clear_11 : decode cX4_clear 11 = .ok (.iconst 0, 1) := by decide +kernel
theorem dX4_clear_12 : decode cX4_clear 12 = .ok (.putfield 27, 3) := by decide +kernel
theorem dX4_clear_15 : decode cX4_clear 15 = .ok (.aload_n 0, 1) := by decide +kernel
theorem dX4_clear_16 : decode cX4_clear 16 = .ok (.iconst 0, 1) := by decide +kernel
theorem dX4_clear_17 : decode cX4_clear 17 = .ok (.putfield 54, 3) := by decide +kernel
theorem dX4_clear_20 : decode cX4_clear 20 = .ok (.aload_n 0, 1) := by decide +kernel
theorem dX4_clear_21 : decode cX4_clear 21 = .ok (.iconst 0, 1) := by decide +kernel
theorem dX4_clear_22 : decode cX4_clear 22 = .ok (.putfield 66, 3) := by decide +kernel
theorem dX4_clear_25 : decode cX4_clear 25 = .ok (.iconst 0, 1) := by decide +kernel
theorem dX4_clear_26 : decode cX4_clear 26 = .ok (.istore_n 1, 1) := by decide +kernel
theorem dX4_clear_27 : decode cX4_clear 27 = .ok (.iload_n 1, 1) := by decide +kernel
theorem dX4_clear_28 : decode cX4_clear 28 = .ok (.bipush 6, 2) := by decide +kernel
theorem dX4_clear_30 : decode cX4_clear 30 = .ok (.if_icmp .ge 23, 3) := by decide +kernel
theorem dX4_clear_33 : decode cX4_clear 33 = .ok (.aload_n 0, 1) := by decide +kernel
theorem dX4_clear_34 : decode cX4_clear 34 = .ok (.getfield 30, 3) := by decide +kernel
theorem dX4_clear_37 : decode cX4_clear 37 = .ok (.iload_n 1, 1) := by decide +kernel
theorem dX4_clear_38 : decode cX4_clear 38 = .ok (.iload_n 1, 1) := by decide +kernel
theorem dX4_clear_39 : decode cX4_clear 39 = .ok (.iastore, 1) := by decide +kernel
theorem dX4_clear_40 : decode cX4_clear 40 = .ok (.aload_n 0, 1) := by decide +kernel
theorem dX4_clear_41 : decode cX4_clear 41 = .ok (.getfield 34, 3) := by decide +kernel
theorem dX4_clear_44 : decode cX4_clear 44 = .ok (.iload_n 1, 1) := by decide +kernel
theorem dX4_clear_45 : decode cX4_clear 45 = .ok (.iload_n 1, 1) := by decide +kernel
theorem dX4_clear_46 : decode cX4_clear 46 = .ok (.iastore, 1) := by decide +kernel
theorem dX4_clear_47 : decode cX4_clear 47 = .ok (.iinc 1 1, 3) := by decide +kernel
theorem dX4_clear_50 : decode cX4_clear 50 = .ok (.goto (-23), 3) := by decide +kernel
theorem dX4_clear_53 : decode cX4_clear 53 = .ok (.aload_n 0, 1) := by decide +kernel
theorem dX4_clear_54 : decode cX4_clear 54 = .ok (.getfield 40, 3) := by decide +kernel
theorem dX4_clear_57 : decode cX4_clear 57 = .ok (.invokevirtual 101, 3) := by decide +kernel
theorem dX4_clear_60 : decode cX4_clear 60 = .ok (.aload_n 0, 1) := by decide +kernel
theorem dX4_clear_61 : decode cX4_clear 61 = .ok (.getfield 44, 3) := by decide +kernel
theorem dX4_clear_64 : decode cX4_clear 64 = .ok (.invokevirtual 101, 3) := by decide +kernel
theorem dX4_clear_67 : decode cX4_clear 67 = .ok (.return_, 1) := by decide +kernel
theorem dX4_header_0 : decode cX4_header 0 = .ok (.aload_n 0, 1) := by decide +kernel
theorem dX4_header_1 : decode cX4_header 1 = .ok (.sipush 300, 3) := by decide +kernel
theorem dX4_header_4 : decode cX4_header 4 = .ok (.invokevirtual 90, 3) := by decide +kernel
theorem dX4_header_7 : decode cX4_header 7 = .ok (.aload_n 0, 1) := by decide +kernel
theorem dX4_header_8 : decode cX4_header 8 = .ok (.sipush 301, 3) := by decide +kernel
theorem dX4_header_11 : decode cX4_header 11 = .ok (.invokevirtual 90, 3) := by decide +kernel
theorem dX4_header_14 : decode cX4_header 14 = .ok (.aload_n 0, 1) := by decide +kernel
theorem dX4_header_15 : decode cX4_header 15 = .ok (.aload_n 0, 1) := by decide +kernel
theorem dX4_header_16 : decode cX4_header 16 = .ok (.iconst 1, 1) := by decide +kernel
theorem dX4_header_17 : decode cX4_header 17 = .ok (.bipush 6, 2) := by decide +kernel
theorem dX4_header_19 : decode cX4_header 19 = .ok (.invokevirtual 102, 3) := by decide +kernel
theorem dX4_header_22 : decode cX4_header 22 = .ok (.putfield 18, 3) := by decide +kernel
theorem dX4_header_25 : decode cX4_header 25 = .ok (.aload_n 0, 1) := by decide +kernel
theorem dX4_header_26 : decode cX4_header 26 = .ok (.sipush 302, 3) := by decide +kernel
theorem dX4_header_29 : decode cX4_header 29 = .ok (.invokevirtual 90, 3) := by decide +kernel
theorem dX4_header_32 : decode cX4_header 32 = .ok (.aload_n 0, 1) := by decide +kernel
theorem dX4_header_33 : decode cX4_header 33 = .ok (.aload_n 0, 1) := by decide +kernel
theorem dX4_header_34 : decode cX4_header 34 = .ok (.iconst 1, 1) := by decide +kernel
theorem dX4_header_35 : decode cX4_header 35 = .ok (.bipush 9, 2) := by decide +kernel
theorem dX4_header_37 : decode cX4_header 37 = .ok (.invokevirtual 102, 3) := by decide +kernel
theorem dX4_header_40 : decode cX4_header 40 = .ok (.putfield 21, 3) := by decide +kernel
theorem dX4_header_43 : decode cX4_header 43 = .ok (.aload_n 0, 1) := by decide +kernel
theorem dX4_header_44 : decode cX4_header 44 = .ok (.bipush 59, 2) := by decide +kernel
theorem dX4_header_46 : decode cX4_header 46 = .ok (.invokevirtual 90, 3) := by decide +kernel
theorem dX4_header_49 : decode cX4_header 49 = .ok (.aload_n 0, 1) := by decide +kernel
theorem dX4_header_50 : decode cX4_header 50 = .ok (.iconst 1, 1) := by decide +kernel
theorem dX4_header_51 : decode cX4_header 51 = .ok (.putfield 27, 3) := by decide +kernel
theorem dX4_header_54 : decode cX4_header 54 = .ok (.return_, 1) := by decide +kernel
theorem dX4_isWhole_0 : decode cX4_isWhole 0 = .ok (.iconst 0, 1) := by decide +kernel
theorem dX4_isWhole_1 : decode cX4_isWhole 1 = .ok (.istore_n 2, 1) := by decide +kernel
theorem dX4_isWhole_2 : decode cX4_isWhole 2 = .ok (.iconst 0, 1) := by decide +kernel
theorem dX4_isWhole_3 : decode cX4_isWhole 3 = .ok (.istore_n 3, 1) := by decide +kernel
theorem dX4_isWhole_4 : decode cX4_isWhole 4 = .ok (.iload_n 3, 1) := by decide +kernel
theorem dX4_isWhole_5 : decode cX4_isWhole 5 = .ok (.aload_n 0, 1) := by decide +kernel
theorem dX4_isWhole_6 : decode cX4_isWhole 6 = .ok (.getfield 18, 3) := by decide +kernel
theorem dX4_isWhole_9 : decode cX4_isWhole 9 = .ok (.if_icmp .ge 23, 3) := by decide +kernel
theorem dX4_isWhole_12 : decode cX4_isWhole 12 = .ok (.iload_n 3, 1) := by decide +kernel
theorem dX4_isWhole_13 : decode cX4_isWhole 13 = .ok (.aload_n 1, 1) := by decide +kernel
theorem dX4_isWhole_14 : decode cX4_isWhole 14 = .ok (.arraylength, 1) := by decide +kernel
theorem dX4_isWhole_15 : decode cX4_isWhole 15 = .ok (.if_icmp .ge 17, 3) := by decide +kernel
theorem dX4_isWhole_18 : decode cX4_isWhole 18 = .ok (.iload_n 2, 1) := by decide +kernel
theorem dX4_isWhole_19 : decode cX4_isWhole 19 = .ok (.iconst 1, 1) := by decide +kernel
theorem dX4_isWhole_20 : decode cX4_isWhole 20 = .ok (.aload_n 1, 1) := by decide +kernel
theorem dX4_isWhole_21 : decode cX4_isWhole 21 = .ok (.iload_n 3, 1) := by decide +kernel
theorem dX4_isWhole_22 : decode cX4_isWhole 22 = .ok (.iaload, 1) := by decide +kernel
theorem dX4_isWhole_23 : decode cX4_isWhole 23 = .ok (.ishl, 1) := by decide +kernel
theorem dX4_isWhole_24 : decode cX4_isWhole 24 = .ok (.ior, 1) := by decide +kernel
theorem dX4_isWhole_25 : decode cX4_isWhole 25 = .ok (.istore_n 2, 1) := by decide +kernel
theorem dX4_isWhole_26 : decode cX4_isWhole 26 = .ok (.iinc 3 1, 3) := by decide +kernel
theorem dX4_isWhole_29 : decode cX4_isWhole 29 = .ok (.goto (-25), 3) := by decide +kernel
theorem dX4_isWhole_32 : decode cX4_isWhole 32 = .ok (.iload_n 2, 1) := by decide +kernel
theorem dX4_isWhole_33 : decode cX4_isWhole 33 = .ok (.iconst 1, 1) := by decide +kernel
theorem dX4_isWhole_34 : decode cX4_isWhole 34 = .ok (.aload_n 0, 1) := by decide +kernel
theorem dX4_isWhole_35 : decode cX4_isWhole 35 = .ok (.getfield 18, 3) := by decide +kernel
theorem dX4_isWhole_38 : decode cX4_isWhole 38 = .ok (.ishl, 1) := by decide +kernel
theorem dX4_isWhole_39 : decode cX4_isWhole 39 = .ok (.iconst 1, 1) := by decide +kernel
theorem dX4_isWhole_40 : decode cX4_isWhole 40 = .ok (.isub, 1) := by decide +kernel
theorem dX4_isWhole_41 : decode cX4_isWhole 41 = .ok (.if_icmp .ne 7, 3) := by decide +kernel
theorem dX4_isWhole_44 : decode cX4_isWhole 44 = .ok (.iconst 1, 1) := by decide +kernel
theorem dX4_isWhole_45 : decode cX4_isWhole 45 = .ok (.goto 4, 3) := by decide +kernel
theorem dX4_isWhole_48 : decode cX4_isWhole 48 = .ok (.iconst 0, 1) := by decide +kernel
theorem dX4_isWhole_49 : decode cX4_isWhole 49 = .ok (.ireturn, 1) := by decide +kernel
theorem dX4_line_0 : decode cX4_line 0 = .ok (.aload_n 0, 1) := by decide +kernel
theorem dX4_line_1 : decode cX4_line 1 = .ok (.getfield 57, 3) := by decide +kernel
theorem dX4_line_4 : decode cX4_line 4 = .ok (.tableswitch 114 303 307 #[36, 51, 66, 84, 99], 36) := by decide +kernel
theorem dX4_line_40 : decode cX4_line 40 = .ok (.aload_n 0, 1) := by decide +kernel
theorem dX4_line_41 : decode cX4_line 41 = .ok (.invokevirtual 81, 3) := by decide +kernel
theorem dX4_line_44 : decode cX4_line 44 = .ok (.aload_n 0, 1) := by decide +kernel
theorem dX4_line_45 : decode cX4_line 45 = .ok (.aload_n 0, 1) := by decide +kernel
theorem dX4_line_46 : decode cX4_line 46 = .ok (.getfield 30, 3) := by decide +kernel
theorem dX4_line_49 : decode cX4_line 49 = .ok (.invokevirtual 105, 3) := by decide +kernel
theorem dX4_line_52 : decode cX4_line 52 = .ok (.goto 71, 3) := by decide +kernel
theorem dX4_line_55 : decode cX4_line 55 = .ok (.aload_n 0, 1) := by decide +kernel
theorem dX4_line_56 : decode cX4_line 56 = .ok (.invokevirtual 81, 3) := by decide +kernel
theorem dX4_line_59 : decode cX4_line 59 = .ok (.aload_n 0, 1) := by decide +kernel
theorem dX4_line_60 : decode cX4_line 60 = .ok (.aload_n 0, 1) := by decide +kernel
theorem dX4_line_61 : decode cX4_line 61 = .ok (.getfield 34, 3) := by decide +kernel
theorem dX4_line_64 : decode cX4_line 64 = .ok (.invokevirtual 105, 3) := by decide +kernel
theorem dX4_line_67 : decode cX4_line 67 = .ok (.goto 56, 3) := by decide +kernel
theorem dX4_line_70 : decode cX4_line 70 = .ok (.aload_n 0, 1) := by decide +kernel
theorem dX4_line_71 : decode cX4_line 71 = .ok (.invokevirtual 81, 3) := by decide +kernel
theorem dX4_line_74 : decode cX4_line 74 = .ok (.aload_n 0, 1) := by decide +kernel
theorem dX4_line_75 : decode cX4_line 75 = .ok (.aload_n 0, 1) := by decide +kernel
theorem dX4_line_76 : decode cX4_line 76 = .ok (.iconst 0, 1) := by decide +kernel
theorem dX4_line_77 : decode cX4_line 77 = .ok (.bipush 9, 2) := by decide +kernel
theorem dX4_line_79 : decode cX4_line 79 = .ok (.invokevirtual 102, 3) := by decide +kernel
theorem dX4_line_82 : decode cX4_line 82 = .ok (.putfield 24, 3) := by decide +kernel
theorem dX4_line_85 : decode cX4_line 85 = .ok (.goto 38, 3) := by decide +kernel
theorem dX4_line_88 : decode cX4_line 88 = .ok (.aload_n 0, 1) := by decide +kernel
theorem dX4_line_89 : decode cX4_line 89 = .ok (.aload_n 0, 1) := by decide +kernel
theorem dX4_line_90 : decode cX4_line 90 = .ok (.getfield 40, 3) := by decide +kernel
theorem dX4_line_93 : decode cX4_line 93 = .ok (.invokevirtual 109, 3) := by decide +kernel
theorem dX4_line_96 : decode cX4_line 96 = .ok (.aload_n 0, 1) := by decide +kernel
theorem dX4_line_97 : decode cX4_line 97 = .ok (.invokevirtual 113, 3) := by decide +kernel
theorem dX4_line_100 : decode cX4_line 100 = .ok (.goto 23, 3) := by decide +kernel
theorem dX4_line_103 : decode cX4_line 103 = .ok (.aload_n 0, 1) := by decide +kernel
theorem dX4_line_104 : decode cX4_line 104 = .ok (.aload_n 0, 1) := by decide +kernel
theorem dX4_line_105 : decode cX4_line 105 = .ok (.getfield 44, 3) := by decide +kernel
theorem dX4_line_108 : decode cX4_line 108 = .ok (.invokevirtual 109, 3) := by decide +kernel
theorem dX4_line_111 : decode cX4_line 111 = .ok (.aload_n 0, 1) := by decide +kernel
theorem dX4_line_112 : decode cX4_line 112 = .ok (.invokevirtual 116, 3) := by decide +kernel
theorem dX4_line_115 : decode cX4_line 115 = .ok (.goto 8, 3) := by decide +kernel
theorem dX4_line_118 : decode cX4_line 118 = .ok (.aload_n 0, 1) := by decide +kernel
theorem dX4_line_119 : decode cX4_line 119 = .ok (.iconst 2, 1) := by decide +kernel
theorem dX4_line_120 : decode cX4_line 120 = .ok (.invokevirtual 98, 3) := by decide +kernel
theorem dX4_line_123 : decode cX4_line 123 = .ok (.return_, 1) := by decide +kernel
theorem dX4_tell_0 : decode cX4_tell 0 = .ok (.aload_n 0, 1) := by decide +kernel
theorem dX4_tell_1 : decode cX4_tell 1 = .ok (.iconst 0, 1) := by decide +kernel
theorem dX4_tell_2 : decode cX4_tell 2 = .ok (.aload_n 0, 1) := by decide +kernel
theorem dX4_tell_3 : decode cX4_tell 3 = .ok (.getfield 18, 3) := by decide +kernel
theorem dX4_tell_6 : decode cX4_tell 6 = .ok (.iconst 1, 1) := by decide +kernel
theorem dX4_tell_7 : decode cX4_tell 7 = .ok (.isub, 1) := by decide +kernel
theorem dX4_tell_8 : decode cX4_tell 8 = .ok (.invokevirtual 102, 3) := by decide +kernel
theorem dX4_tell_11 : decode cX4_tell 11 = .ok (.istore_n 2, 1) := by decide +kernel
theorem dX4_tell_12 : decode cX4_tell 12 = .ok (.aload_n 0, 1) := by decide +kernel
theorem dX4_tell_13 : decode cX4_tell 13 = .ok (.iconst 0, 1) := by decide +kernel
theorem dX4_tell_14 : decode cX4_tell 14 = .ok (.aload_n 0, 1) := by decide +kernel
theorem dX4_tell_15 : decode cX4_tell 15 = .ok (.getfield 18, 3) := by decide +kernel
theorem dX4_tell_18 : decode cX4_tell 18 = .ok (.iconst 1, 1) := by decide +kernel
theorem dX4_tell_19 : decode cX4_tell 19 = .ok (.isub, 1) := by decide +kernel
theorem dX4_tell_20 : decode cX4_tell 20 = .ok (.invokevirtual 102, 3) := by decide +kernel
theorem dX4_tell_23 : decode cX4_tell 23 = .ok (.istore_n 3, 1) := by decide +kernel
theorem dX4_tell_24 : decode cX4_tell 24 = .ok (.iload_n 2, 1) := by decide +kernel
theorem dX4_tell_25 : decode cX4_tell 25 = .ok (.aload_n 1, 1) := by decide +kernel
theorem dX4_tell_26 : decode cX4_tell 26 = .ok (.arraylength, 1) := by decide +kernel
theorem dX4_tell_27 : decode cX4_tell 27 = .ok (.if_icmp .ge 7, 3) := by decide +kernel
theorem dX4_tell_30 : decode cX4_tell 30 = .ok (.aload_n 1, 1) := by decide +kernel
theorem dX4_tell_31 : decode cX4_tell 31 = .ok (.iload_n 2, 1) := by decide +kernel
theorem dX4_tell_32 : decode cX4_tell 32 = .ok (.iload_n 3, 1) := by decide +kernel
theorem dX4_tell_33 : decode cX4_tell 33 = .ok (.iastore, 1) := by decide +kernel
theorem dX4_tell_34 : decode cX4_tell 34 = .ok (.return_, 1) := by decide +kernel
theorem dX4_begin_0 : decode cX4_begin 0 = .ok (.aload_n 1, 1) := by decide +kernel
theorem dX4_begin_1 : decode cX4_begin 1 = .ok (.invokevirtual 101, 3) := by decide +kernel
theorem dX4_begin_4 : decode cX4_begin 4 = .ok (.aload_n 0, 1) := by decide +kernel
theorem dX4_begin_5 : decode cX4_begin 5 = .ok (.aload_n 1, 1) := by decide +kernel
theorem dX4_begin_6 : decode cX4_begin 6 = .ok (.putfield 69, 3) := by decide +kernel
theorem dX4_begin_9 : decode cX4_begin 9 = .ok (.aload_n 0, 1) := by decide +kernel
theorem dX4_begin_10 : decode cX4_begin 10 = .ok (.invokevirtual 81, 3) := by decide +kernel
theorem dX4_begin_13 : decode cX4_begin 13 = .ok (.aload_n 0, 1) := by decide +kernel
theorem dX4_begin_14 : decode cX4_begin 14 = .ok (.bipush 58, 2) := by decide +kernel
theorem dX4_begin_16 : decode cX4_begin 16 = .ok (.invokevirtual 90, 3) := by decide +kernel
theorem dX4_begin_19 : decode cX4_begin 19 = .ok (.return_, 1) := by decide +kernel
theorem dX4_sum_0 : decode cX4_sum 0 = .ok (.aload_n 0, 1) := by decide +kernel
theorem dX4_sum_1 : decode cX4_sum 1 = .ok (.invokevirtual 119, 3) := by decide +kernel
theorem dX4_sum_4 : decode cX4_sum 4 = .ok (.iconst 0, 1) := by decide +kernel
theorem dX4_sum_5 : decode cX4_sum 5 = .ok (.istore_n 1, 1) := by decide +kernel
theorem dX4_sum_6 : decode cX4_sum 6 = .ok (.iload_n 1, 1) := by decide +kernel
theorem dX4_sum_7 : decode cX4_sum 7 = .ok (.sipush 900, 3) := by decide +kernel
theorem dX4_sum_10 : decode cX4_sum 10 = .ok (.if_icmp .ge 60, 3) := by decide +kernel
theorem dX4_sum_13 : decode cX4_sum 13 = .ok (.aload_n 0, 1) := by decide +kernel
theorem dX4_sum_14 : decode cX4_sum 14 = .ok (.getfield 57, 3) := by decide +kernel
theorem dX4_sum_17 : decode cX4_sum 17 = .ok (.bipush 43, 2) := by decide +kernel
theorem dX4_sum_19 : decode cX4_sum 19 = .ok (.if_icmp .eq 12, 3) := by decide +kernel
theorem dX4_sum_22 : decode cX4_sum 22 = .ok (.aload_n 0, 1) := by decide +kernel
theorem dX4_sum_23 : decode cX4_sum 23 = .ok (.getfield 57, 3) := by decide +kernel
theorem dX4_sum_26 : decode cX4_sum 26 = .ok (.bipush 45, 2) := by decide +kernel
theorem dX4_sum_28 : decode cX4_sum 28 = .ok (.if_icmp .ne 42, 3) := by decide +kernel
theorem dX4_sum_31 : decode cX4_sum 31 = .ok (.aload_n 0, 1) := by decide +kernel
theorem dX4_sum_32 : decode cX4_sum 32 = .ok (.getfield 57, 3) := by decide +kernel
theorem dX4_sum_35 : decode cX4_sum 35 = .ok (.bipush 43, 2) := by decide +kernel
theorem dX4_sum_37 : decode cX4_sum 37 = .ok (.if_icmp .ne 8, 3) := by decide +kernel
theorem dX4_sum_40 : decode cX4_sum 40 = .ok (.bipush (-6), 2) := by decide +kernel
theorem dX4_sum_42 : decode cX4_sum 42 = .ok (.goto 5, 3) := by decide +kernel
theorem dX4_sum_45 : decode cX4_sum 45 = .ok (.bipush (-7), 2) := by decide +kernel
theorem dX4_sum_47 : decode cX4_sum 47 = .ok (.istore_n 2, 1) := by decide +kernel
theorem dX4_sum_48 : decode cX4_sum 48 = .ok (.aload_n 0, 1) := by decide +kernel
theorem dX4_sum_49 : decode cX4_sum 49 = .ok (.invokevirtual 81, 3) := by decide +kernel
theorem dX4_sum_52 : decode cX4_sum 52 = .ok (.aload_n 0, 1) := by decide +kernel
theorem dX4_sum_53 : decode cX4_sum 53 = .ok (.invokevirtual 119, 3) := by decide +kernel
theorem dX4_sum_56 : decode cX4_sum 56 = .ok (.aload_n 0, 1) := by decide +kernel
theorem dX4_sum_57 : decode cX4_sum 57 = .ok (.getfield 69, 3) := by decide +kernel
theorem dX4_sum_60 : decode cX4_sum 60 = .ok (.iload_n 2, 1) := by decide +kernel
theorem dX4_sum_61 : decode cX4_sum 61 = .ok (.invokevirtual 124, 3) := by decide +kernel
theorem dX4_sum_64 : decode cX4_sum 64 = .ok (.iinc 1 1, 3) := by decide +kernel
theorem dX4_sum_67 : decode cX4_sum 67 = .ok (.goto (-61), 3) := by decide +kernel
theorem dX4_sum_70 : decode cX4_sum 70 = .ok (.return_, 1) := by decide +kernel
theorem dX4_term_0 : decode cX4_term 0 = .ok (.aload_n 0, 1) := by decide +kernel
theorem dX4_term_1 : decode cX4_term 1 = .ok (.invokevirtual 127, 3) := by decide +kernel
theorem dX4_term_4 : decode cX4_term 4 = .ok (.iconst 0, 1) := by decide +kernel
theorem dX4_term_5 : decode cX4_term 5 = .ok (.istore_n 1, 1) := by decide +kernel
theorem dX4_term_6 : decode cX4_term 6 = .ok (.iload_n 1, 1) := by decide +kernel
theorem dX4_term_7 : decode cX4_term 7 = .ok (.sipush 900, 3) := by decide +kernel
theorem dX4_term_10 : decode cX4_term 10 = .ok (.if_icmp .ge 35, 3) := by decide +kernel
theorem dX4_term_13 : decode cX4_term 13 = .ok (.aload_n 0, 1) := by decide +kernel
theorem dX4_term_14 : decode cX4_term 14 = .ok (.getfield 57, 3) := by decide +kernel
theorem dX4_term_17 : decode cX4_term 17 = .ok (.bipush 42, 2) := by decide +kernel
theorem dX4_term_19 : decode cX4_term 19 = .ok (.if_icmp .ne 26, 3) := by decide +kernel
theorem dX4_term_22 : decode cX4_term 22 = .ok (.aload_n 0, 1) := by decide +kernel
theorem dX4_term_23 : decode cX4_term 23 = .ok (.invokevirtual 81, 3) := by decide +kernel
theorem dX4_term_26 : decode cX4_term 26 = .ok (.aload_n 0, 1) := by decide +kernel
theorem dX4_term_27 : decode cX4_term 27 = .ok (.invokevirtual 127, 3) := by decide +kernel
theorem dX4_term_30 : decode cX4_term 30 = .ok (.aload_n 0, 1) := by decide +kernel
theorem dX4_term_31 : decode cX4_term 31 = .ok (.getfield 69, 3) := by decide +kernel
theorem dX4_term_34 : decode cX4_term 34 = .ok (.bipush (-8), 2) := by decide +kernel
theorem dX4_term_36 : decode cX4_term 36 = .ok (.invokevirtual 124, 3) := by decide +kernel
theorem dX4_term_39 : decode cX4_term 39 = .ok (.iinc 1 1, 3) := by decide +kernel
theorem dX4_term_42 : decode cX4_term 42 = .ok (.goto (-36), 3) := by decide +kernel
theorem dX4_term_45 : decode cX4_term 45 = .ok (.return_, 1) := by decide +kernel
theorem dX4_atom_0 : decode cX4_atom 0 = .ok (.aload_n 0, 1) := by decide +kernel
theorem dX4_atom_1 : decode cX4_atom 1 = .ok (.getfield 57, 3) := by decide +kernel
theorem dX4_atom_4 : decode cX4_atom 4 = .ok (.lookupswitch 165 #[(1, 76), (40, 131), (305, 122), (308, 158), (312, 87), (313, 95), (314, 104), (315, 113)], 76) := by decide +kernel
theorem dX4_atom_80 : decode cX4_atom 80 = .ok (.aload_n 0, 1) := by decide +kernel
theorem dX4_atom_81 : decode cX4_atom 81 = .ok (.aload_n 0, 1) := by decide +kernel
theorem dX4_atom_82 : decode cX4_atom 82 = .ok (.getfield 63, 3) := by decide +kernel
theorem dX4_atom_85 : decode cX4_atom 85 = .ok (.invokevirtual 130, 3) := by decide +kernel
theorem dX4_atom_88 : decode cX4_atom 88 = .ok (.goto 86, 3) := by decide +kernel
theorem dX4_atom_91 : decode cX4_atom 91 = .ok (.aload_n 0, 1) := by decide +kernel
theorem dX4_atom_92 : decode cX4_atom 92 = .ok (.iconst (-1), 1) := by decide +kernel
theorem dX4_atom_93 : decode cX4_atom 93 = .ok (.invokevirtual 130, 3) := by decide +kernel
theorem dX4_atom_96 : decode cX4_atom 96 = .ok (.goto 78, 3) := by decide +kernel
theorem dX4_atom_99 : decode cX4_atom 99 = .ok (.aload_n 0, 1) := by decide +kernel
theorem dX4_atom_100 : decode cX4_atom 100 = .ok (.bipush (-2), 2) := by decide +kernel
theorem dX4_atom_102 : decode cX4_atom 102 = .ok (.invokevirtual 130, 3) := by decide +kernel
theorem dX4_atom_105 : decode cX4_atom 105 = .ok (.goto 69, 3) := by decide +kernel
theorem dX4_atom_108 : decode cX4_atom 108 = .ok (.aload_n 0, 1) := by decide +kernel
theorem dX4_atom_109 : decode cX4_atom 109 = .ok (.bipush (-3), 2) := by decide +kernel
theorem dX4_atom_111 : decode cX4_atom 111 = .ok (.invokevirtual 130, 3) := by decide +kernel
theorem dX4_atom_114 : decode cX4_atom 114 = .ok (.goto 60, 3) := by decide +kernel
theorem dX4_atom_117 : decode cX4_atom 117 = .ok (.aload_n 0, 1) := by decide +kernel
theorem dX4_atom_118 : decode cX4_atom 118 = .ok (.bipush (-4), 2) := by decide +kernel
theorem dX4_atom_120 : decode cX4_atom 120 = .ok (.invokevirtual 130, 3) := by decide +kernel
theorem dX4_atom_123 : decode cX4_atom 123 = .ok (.goto 51, 3) := by decide +kernel
theorem dX4_atom_126 : decode cX4_atom 126 = .ok (.aload_n 0, 1) := by decide +kernel
theorem dX4_atom_127 : decode cX4_atom 127 = .ok (.bipush (-5), 2) := by decide +kernel
theorem dX4_atom_129 : decode cX4_atom 129 = .ok (.invokevirtual 130, 3) := by decide +kernel
theorem dX4_atom_132 : decode cX4_atom 132 = .ok (.goto 42, 3) := by decide +kernel
theorem dX4_atom_135 : decode cX4_atom 135 = .ok (.aload_n 0, 1) := by decide +kernel
theorem dX4_atom_136 : decode cX4_atom 136 = .ok (.invokevirtual 133, 3) := by decide +kernel
theorem dX4_atom_139 : decode cX4_atom 139 = .ok (.aload_n 0, 1) := by decide +kernel
theorem dX4_atom_140 : decode cX4_atom 140 = .ok (.invokevirtual 113, 3) := by decide +kernel
theorem dX4_atom_143 : decode cX4_atom 143 = .ok (.aload_n 0, 1) := by decide +kernel
theorem dX4_atom_144 : decode cX4_atom 144 = .ok (.bipush 41, 2) := by decide +kernel
theorem dX4_atom_146 : decode cX4_atom 146 = .ok (.invokevirtual 90, 3) := by decide +kernel
theorem dX4_atom_149 : decode cX4_atom 149 = .ok (.aload_n 0, 1) := by decide +kernel
theorem dX4_atom_150 : decode cX4_atom 150 = .ok (.dup, 1) := by decide +kernel
theorem dX4_atom_151 : decode cX4_atom 151 = .ok (.getfield 66, 3) := by decide +kernel
theorem dX4_atom_154 : decode cX4_atom 154 = .ok (.iconst 1, 1) := by decide +kernel
theorem dX4_atom_155 : decode cX4_atom 155 = .ok (.isub, 1) := by decide +kernel
theorem dX4_atom_156 : decode cX4_atom 156 = .ok (.putfield 66, 3) := by decide +kernel
theorem dX4_atom_159 : decode cX4_atom 159 = .ok (.goto 15, 3) := by decide +kernel
theorem dX4_atom_162 : decode cX4_atom 162 = .ok (.aload_n 0, 1) := by decide +kernel
theorem dX4_atom_163 : decode cX4_atom 163 = .ok (.invokevirtual 136, 3) := by decide +kernel
theorem dX4_atom_166 : decode cX4_atom 166 = .ok (.goto 8, 3) := by decide +kernel
theorem dX4_atom_169 : decode cX4_atom 169 = .ok (.aload_n 0, 1) := by decide +kernel
theorem dX4_atom_170 : decode cX4_atom 170 = .ok (.iconst 2, 1) := by decide +kernel
theorem dX4_atom_171 : decode cX4_atom 171 = .ok (.invokevirtual 98, 3) := by decide +kernel
theorem dX4_atom_174 : decode cX4_atom 174 = .ok (.return_, 1) := by decide +kernel
theorem dX4_leaf_0 : decode cX4_leaf 0 = .ok (.aload_n 0, 1) := by decide +kernel
theorem dX4_leaf_1 : decode cX4_leaf 1 = .ok (.getfield 69, 3) := by decide +kernel
theorem dX4_leaf_4 : decode cX4_leaf 4 = .ok (.iload_n 1, 1) := by decide +kernel
theorem dX4_leaf_5 : decode cX4_leaf 5 = .ok (.invokevirtual 124, 3) := by decide +kernel
theorem dX4_leaf_8 : decode cX4_leaf 8 = .ok (.aload_n 0, 1) := by decide +kernel
theorem dX4_leaf_9 : decode cX4_leaf 9 = .ok (.invokevirtual 81, 3) := by decide +kernel
theorem dX4_leaf_12 : decode cX4_leaf 12 = .ok (.return_, 1) := by decide +kernel
theorem dX4_choice_0 : decode cX4_choice 0 = .ok (.aload_n 0, 1) := by decide +kernel
theorem dX4_choice_1 : decode cX4_choice 1 = .ok (.invokevirtual 133, 3) := by decide +kernel
theorem dX4_choice_4 : decode cX4_choice 4 = .ok (.aload_n 0, 1) := by decide +kernel
theorem dX4_choice_5 : decode cX4_choice 5 = .ok (.invokevirtual 116, 3) := by decide +kernel
theorem dX4_choice_8 : decode cX4_choice 8 = .ok (.aload_n 0, 1) := by decide +kernel
theorem dX4_choice_9 : decode cX4_choice 9 = .ok (.sipush 309, 3) := by decide +kernel
theorem dX4_choice_12 : decode cX4_choice 12 = .ok (.invokevirtual 90, 3) := by decide +kernel
theorem dX4_choice_15 : decode cX4_choice 15 = .ok (.aload_n 0, 1) := by decide +kernel
theorem dX4_choice_16 : decode cX4_choice 16 = .ok (.invokevirtual 113, 3) := by decide +kernel
theorem dX4_choice_19 : decode cX4_choice 19 = .ok (.aload_n 0, 1) := by decide +kernel
theorem dX4_choice_20 : decode cX4_choice 20 = .ok (.sipush 310, 3) := by decide +kernel
theorem dX4_choice_23 : decode cX4_choice 23 = .ok (.invokevirtual 90, 3) := by decide +kernel
theorem dX4_choice_26 : decode cX4_choice 26 = .ok (.aload_n 0, 1) := by decide +kernel
theorem dX4_choice_27 : decode cX4_choice 27 = .ok (.invokevirtual 113, 3) := by decide +kernel
theorem dX4_choice_30 : decode cX4_choice 30 = .ok (.aload_n 0, 1) := by decide +kernel
theorem dX4_choice_31 : decode cX4_choice 31 = .ok (.sipush 311, 3) := by decide +kernel
theorem dX4_choice_34 : decode cX4_choice 34 = .ok (.invokevirtual 90, 3) := by decide +kernel
theorem dX4_choice_37 : decode cX4_choice 37 = .ok (.aload_n 0, 1) := by decide +kernel
theorem dX4_choice_38 : decode cX4_choice 38 = .ok (.dup, 1) := by decide +kernel
theorem dX4_choice_39 : decode cX4_choice 39 = .ok (.getfield 66, 3) := by decide +kernel
theorem dX4_choice_42 : decode cX4_choice 42 = .ok (.iconst 1, 1) := by decide +kernel
theorem dX4_choice_43 : decode cX4_choice 43 = .ok (.isub, 1) := by decide +kernel
theorem dX4_choice_44 : decode cX4_choice 44 = .ok (.putfield 66, 3) := by decide +kernel
theorem dX4_choice_47 : decode cX4_choice 47 = .ok (.aload_n 0, 1) := by decide +kernel
theorem dX4_choice_48 : decode cX4_choice 48 = .ok (.getfield 69, 3) := by decide +kernel
theorem dX4_choice_51 : decode cX4_choice 51 = .ok (.bipush (-15), 2) := by decide +kernel
theorem dX4_choice_53 : decode cX4_choice 53 = .ok (.invokevirtual 124, 3) := by decide +kernel
theorem dX4_choice_56 : decode cX4_choice 56 = .ok (.return_, 1) := by decide +kernel
theorem dX4_truth_0 : decode cX4_truth 0 = .ok (.aload_n 0, 1) := by decide +kernel
theorem dX4_truth_1 : decode cX4_truth 1 = .ok (.invokevirtual 139, 3) := by decide +kernel
theorem dX4_truth_4 : decode cX4_truth 4 = .ok (.iconst 0, 1) := by decide +kernel
theorem dX4_truth_5 : decode cX4_truth 5 = .ok (.istore_n 1, 1) := by decide +kernel
theorem dX4_truth_6 : decode cX4_truth 6 = .ok (.iload_n 1, 1) := by decide +kernel
theorem dX4_truth_7 : decode cX4_truth 7 = .ok (.sipush 900, 3) := by decide +kernel
theorem dX4_truth_10 : decode cX4_truth 10 = .ok (.if_icmp .ge 36, 3) := by decide +kernel
theorem dX4_truth_13 : decode cX4_truth 13 = .ok (.aload_n 0, 1) := by decide +kernel
theorem dX4_truth_14 : decode cX4_truth 14 = .ok (.getfield 57, 3) := by decide +kernel
theorem dX4_truth_17 : decode cX4_truth 17 = .ok (.sipush 316, 3) := by decide +kernel
theorem dX4_truth_20 : decode cX4_truth 20 = .ok (.if_icmp .ne 26, 3) := by decide +kernel
theorem dX4_truth_23 : decode cX4_truth 23 = .ok (.aload_n 0, 1) := by decide +kernel
theorem dX4_truth_24 : decode cX4_truth 24 = .ok (.invokevirtual 81, 3) := by decide +kernel
theorem dX4_truth_27 : decode cX4_truth 27 = .ok (.aload_n 0, 1) := by decide +kernel
theorem dX4_truth_28 : decode cX4_truth 28 = .ok (.invokevirtual 139, 3) := by decide +kernel
theorem dX4_truth_31 : decode cX4_truth 31 = .ok (.aload_n 0, 1) := by decide +kernel
theorem dX4_truth_32 : decode cX4_truth 32 = .ok (.getfield 69, 3) := by decide +kernel
theorem dX4_truth_35 : decode cX4_truth 35 = .ok (.bipush (-13), 2) := by decide +kernel
theorem dX4_truth_37 : decode cX4_truth 37 = .ok (.invokevirtual 124, 3) := by decide +kernel
theorem dX4_truth_40 : decode cX4_truth 40 = .ok (.iinc 1 1, 3) := by decide +kernel
theorem dX4_truth_43 : decode cX4_truth 43 = .ok (.goto (-37), 3) := by decide +kernel
theorem dX4_truth_46 : decode cX4_truth 46 = .ok (.return_, 1) := by decide +kernel
theorem dX4_both_0 : decode cX4_both 0 = .ok (.aload_n 0, 1) := by decide +kernel
theorem dX4_both_1 : decode cX4_both 1 = .ok (.invokevirtual 142, 3) := by decide +kernel
theorem dX4_both_4 : decode cX4_both 4 = .ok (.iconst 0, 1) := by decide +kernel
theorem dX4_both_5 : decode cX4_both 5 = .ok (.istore_n 1, 1) := by decide +kernel
theorem dX4_both_6 : decode cX4_both 6 = .ok (.iload_n 1, 1) := by decide +kernel
theorem dX4_both_7 : decode cX4_both 7 = .ok (.sipush 900, 3) := by decide +kernel
theorem dX4_both_10 : decode cX4_both 10 = .ok (.if_icmp .ge 36, 3) := by decide +kernel
theorem dX4_both_13 : decode cX4_both 13 = .ok (.aload_n 0, 1) := by decide +kernel
theorem dX4_both_14 : decode cX4_both 14 = .ok (.getfield 57, 3) := by decide +kernel
theorem dX4_both_17 : decode cX4_both 17 = .ok (.sipush 317, 3) := by decide +kernel
theorem dX4_both_20 : decode cX4_both 20 = .ok (.if_icmp .ne 26, 3) := by decide +kernel
theorem dX4_both_23 : decode cX4_both 23 = .ok (.aload_n 0, 1) := by decide +kernel
theorem dX4_both_24 : decode cX4_both 24 = .ok (.invokevirtual 81, 3) := by decide +kernel
theorem dX4_both_27 : decode cX4_both 27 = .ok (.aload_n 0, 1) := by decide +kernel
theorem dX4_both_28 : decode cX4_both 28 = .ok (.invokevirtual 142, 3) := by decide +kernel
theorem dX4_both_31 : decode cX4_both 31 = .ok (.aload_n 0, 1) := by decide +kernel
theorem dX4_both_32 : decode cX4_both 32 = .ok (.getfield 69, 3) := by decide +kernel
theorem dX4_both_35 : decode cX4_both 35 = .ok (.bipush (-12), 2) := by decide +kernel
theorem dX4_both_37 : decode cX4_both 37 = .ok (.invokevirtual 124, 3) := by decide +kernel
theorem dX4_both_40 : decode cX4_both 40 = .ok (.iinc 1 1, 3) := by decide +kernel
theorem dX4_both_43 : decode cX4_both 43 = .ok (.goto (-37), 3) := by decide +kernel
theorem dX4_both_46 : decode cX4_both 46 = .ok (.return_, 1) := by decide +kernel
theorem dX4_unit_0 : decode cX4_unit 0 = .ok (.aload_n 0, 1) := by decide +kernel
theorem dX4_unit_1 : decode cX4_unit 1 = .ok (.getfield 57, 3) := by decide +kernel
theorem dX4_unit_4 : decode cX4_unit 4 = .ok (.sipush 318, 3) := by decide +kernel
theorem dX4_unit_7 : decode cX4_unit 7 = .ok (.if_icmp .ne 33, 3) := by decide +kernel
theorem dX4_unit_10 : decode cX4_unit 10 = .ok (.aload_n 0, 1) := by decide +kernel
theorem dX4_unit_11 : decode cX4_unit 11 = .ok (.invokevirtual 133, 3) := by decide +kernel
theorem dX4_unit_14 : decode cX4_unit 14 = .ok (.aload_n 0, 1) := by decide +kernel
theorem dX4_unit_15 : decode cX4_unit 15 = .ok (.invokevirtual 142, 3) := by decide +kernel
theorem dX4_unit_18 : decode cX4_unit 18 = .ok (.aload_n 0, 1) := by decide +kernel
theorem dX4_unit_19 : decode cX4_unit 19 = .ok (.dup, 1) := by decide +kernel
theorem dX4_unit_20 : decode cX4_unit 20 = .ok (.getfield 66, 3) := by decide +kernel
theorem dX4_unit_23 : decode cX4_unit 23 = .ok (.iconst 1, 1) := by decide +kernel
theorem dX4_unit_24 : decode cX4_unit 24 = .ok (.isub, 1) := by decide +kernel
theorem dX4_unit_25 : decode cX4_unit 25 = .ok (.putfield 66, 3) := by decide +kernel
theorem dX4_unit_28 : decode cX4_unit 28 = .ok (.aload_n 0, 1) := by decide +kernel
theorem dX4_unit_29 : decode cX4_unit 29 = .ok (.getfield 69, 3) := by decide +kernel
theorem dX4_unit_32 : decode cX4_unit 32 = .ok (.bipush (-14), 2) := by decide +kernel
theorem dX4_unit_34 : decode cX4_unit 34 = .ok (.invokevirtual 124, 3) := by decide +kernel
theorem dX4_unit_37 : decode cX4_unit 37 = .ok (.goto 43, 3) := by decide +kernel
theorem dX4_unit_40 : decode cX4_unit 40 = .ok (.aload_n 0, 1) := by decide +kernel
theorem dX4_unit_41 : decode cX4_unit 41 = .ok (.getfield 57, 3) := by decide +kernel
theorem dX4_unit_44 : decode cX4_unit 44 = .ok (.bipush 91, 2) := by decide +kernel
theorem dX4_unit_46 : decode cX4_unit 46 = .ok (.if_icmp .ne 30, 3) := by decide +kernel
theorem dX4_unit_49 : decode cX4_unit 49 = .ok (.aload_n 0, 1) := by decide +kernel
theorem dX4_unit_50 : decode cX4_unit 50 = .ok (.invokevirtual 133, 3) := by decide +kernel
theorem dX4_unit_53 : decode cX4_unit 53 = .ok (.aload_n 0, 1) := by decide +kernel
theorem dX4_unit_54 : decode cX4_unit 54 = .ok (.invokevirtual 116, 3) := by decide +kernel
theorem dX4_unit_57 : decode cX4_unit 57 = .ok (.aload_n 0, 1) := by decide +kernel
theorem dX4_unit_58 : decode cX4_unit 58 = .ok (.bipush 93, 2) := by decide +kernel
theorem dX4_unit_60 : decode cX4_unit 60 = .ok (.invokevirtual 90, 3) := by decide +kernel
theorem dX4_unit_63 : decode cX4_unit 63 = .ok (.aload_n 0, 1) := by decide +kernel
theorem dX4_unit_64 : decode cX4_unit 64 = .ok (.dup, 1) := by decide +kernel
theorem dX4_unit_65 : decode cX4_unit 65 = .ok (.getfield 66, 3) := by decide +kernel
theorem dX4_unit_68 : decode cX4_unit 68 = .ok (.iconst 1, 1) := by decide +kernel
theorem dX4_unit_69 : decode cX4_unit 69 = .ok (.isub, 1) := by decide +kernel
theorem dX4_unit_70 : decode cX4_unit 70 = .ok (.putfield 66, 3) := by decide +kernel
theorem dX4_unit_73 : decode cX4_unit 73 = .ok (.goto 7, 3) := by decide +kernel
theorem dX4_unit_76 : decode cX4_unit 76 = .ok (.aload_n 0, 1) := by decide +kernel
theorem dX4_unit_77 : decode cX4_unit 77 = .ok (.invokevirtual 145, 3) := by decide +kernel
theorem dX4_unit_80 : decode cX4_unit 80 = .ok (.return_, 1) := by decide +kernel
theorem dX4_comparison_0 : decode cX4_comparison 0 = .ok (.aload_n 0, 1) := by decide +kernel
theorem dX4_comparison_1 : decode cX4_comparison 1 = .ok (.invokevirtual 113, 3) := by decide +kernel
theorem dX4_comparison_4 : decode cX4_comparison 4 = .ok (.aload_n 0, 1) := by decide +kernel
theorem dX4_comparison_5 : decode cX4_comparison 5 = .ok (.invokevirtual 148, 3) := by decide +kernel
theorem dX4_comparison_8 : decode cX4_comparison 8 = .ok (.istore_n 1, 1) := by decide +kernel
theorem dX4_comparison_9 : decode cX4_comparison 9 = .ok (.iload_n 1, 1) := by decide +kernel
theorem dX4_comparison_10 : decode cX4_comparison 10 = .ok (.ifCond .ne 9, 3) := by decide +kernel
theorem dX4_comparison_13 : decode cX4_comparison 13 = .ok (.aload_n 0, 1) := by decide +kernel
theorem dX4_comparison_14 : decode cX4_comparison 14 = .ok (.iconst 2, 1) := by decide +kernel
theorem dX4_comparison_15 : decode cX4_comparison 15 = .ok (.invokevirtual 98, 3) := by decide +kernel
theorem dX4_comparison_18 : decode cX4_comparison 18 = .ok (.return_, 1) := by decide +kernel
theorem dX4_comparison_19 : decode cX4_comparison 19 = .ok (.aload_n 0, 1) := by decide +kernel
theorem dX4_comparison_20 : decode cX4_comparison 20 = .ok (.invokevirtual 81, 3) := by decide +kernel
theorem dX4_comparison_23 : decode cX4_comparison 23 = .ok (.aload_n 0, 1) := by decide +kernel
theorem dX4_comparison_24 : decode cX4_comparison 24 = .ok (.invokevirtual 113, 3) := by decide +kernel
theorem dX4_comparison_27 : decode cX4_comparison 27 = .ok (.aload_n 0, 1) := by decide +kernel
theorem dX4_comparison_28 : decode cX4_comparison 28 = .ok (.getfield 69, 3) := by decide +kernel
theorem dX4_comparison_31 : decode cX4_comparison 31 = .ok (.iload_n 1, 1) := by decide +kernel
theorem dX4_comparison_32 : decode cX4_comparison 32 = .ok (.invokevirtual 124, 3) := by decide +kernel
theorem dX4_comparison_35 : decode cX4_comparison 35 = .ok (.return_, 1) := by decide +kernel
theorem dX4_stepOfSign_0 : decode cX4_stepOfSign 0 = .ok (.aload_n 0, 1) := by decide +kernel
theorem dX4_stepOfSign_1 : decode cX4_stepOfSign 1 = .ok (.getfield 57, 3) := by decide +kernel
theorem dX4_stepOfSign_4 : decode cX4_stepOfSign 4 = .ok (.tableswitch 37 60 62 #[31, 28, 34], 28) := by decide +kernel
theorem dX4_stepOfSign_32 : decode cX4_stepOfSign 32 = .ok (.bipush (-9), 2) := by decide +kernel
theorem dX4_stepOfSign_34 : decode cX4_stepOfSign 34 = .ok (.ireturn, 1) := by decide +kernel
theorem dX4_stepOfSign_35 : decode cX4_stepOfSign 35 = .ok (.bipush (-10), 2) := by decide +kernel
theorem dX4_stepOfSign_37 : decode cX4_stepOfSign 37 = .ok (.ireturn, 1) := by decide +kernel
theorem dX4_stepOfSign_38 : decode cX4_stepOfSign 38 = .ok (.bipush (-11), 2) := by decide +kernel
theorem dX4_stepOfSign_40 : decode cX4_stepOfSign 40 = .ok (.ireturn, 1) := by decide +kernel
theorem dX4_stepOfSign_41 : decode cX4_stepOfSign 41 = .ok (.iconst 0, 1) := by decide +kernel
theorem dX4_stepOfSign_42 : decode cX4_stepOfSign 42 = .ok (.ireturn, 1) := by decide +kernel
theorem dX4_enter_0 : decode cX4_enter 0 = .ok (.aload_n 0, 1) := by decide +kernel
theorem dX4_enter_1 : decode cX4_enter 1 = .ok (.dup, 1) := by decide +kernel
theorem dX4_enter_2 : decode cX4_enter 2 = .ok (.getfield 66, 3) := by decide +kernel
theorem dX4_enter_5 : decode cX4_enter 5 = .ok (.iconst 1, 1) := by decide +kernel
theorem dX4_enter_6 : decode cX4_enter 6 = .ok (.iadd, 1) := by decide +kernel
theorem dX4_enter_7 : decode cX4_enter 7 = .ok (.putfield 66, 3) := by decide +kernel
theorem dX4_enter_10 : decode cX4_enter 10 = .ok (.aload_n 0, 1) := by decide +kernel
theorem dX4_enter_11 : decode cX4_enter 11 = .ok (.getfield 66, 3) := by decide +kernel
theorem dX4_enter_14 : decode cX4_enter 14 = .ok (.bipush 6, 2) := by decide +kernel
theorem dX4_enter_16 : decode cX4_enter 16 = .ok (.if_icmp .le 8, 3) := by decide +kernel
theorem dX4_enter_19 : decode cX4_enter 19 = .ok (.aload_n 0, 1) := by decide +kernel
theorem dX4_enter_20 : decode cX4_enter 20 = .ok (.iconst 4, 1) := by decide +kernel
theorem dX4_enter_21 : decode cX4_enter 21 = .ok (.invokevirtual 98, 3) := by decide +kernel
theorem dX4_enter_24 : decode cX4_enter 24 = .ok (.aload_n 0, 1) := by decide +kernel
theorem dX4_enter_25 : decode cX4_enter 25 = .ok (.invokevirtual 81, 3) := by decide +kernel
theorem dX4_enter_28 : decode cX4_enter 28 = .ok (.return_, 1) := by decide +kernel
theorem dX4_expect_0 : decode cX4_expect 0 = .ok (.aload_n 0, 1) := by decide +kernel
theorem dX4_expect_1 : decode cX4_expect 1 = .ok (.getfield 57, 3) := by decide +kernel
theorem dX4_expect_4 : decode cX4_expect 4 = .ok (.iload_n 1, 1) := by decide +kernel
theorem dX4_expect_5 : decode cX4_expect 5 = .ok (.if_icmp .ne 10, 3) := by decide +kernel
theorem dX4_expect_8 : decode cX4_expect 8 = .ok (.aload_n 0, 1) := by decide +kernel
theorem dX4_expect_9 : decode cX4_expect 9 = .ok (.invokevirtual 81, 3) := by decide +kernel
theorem dX4_expect_12 : decode cX4_expect 12 = .ok (.goto 8, 3) := by decide +kernel
theorem dX4_expect_15 : decode cX4_expect 15 = .ok (.aload_n 0, 1) := by decide +kernel
theorem dX4_expect_16 : decode cX4_expect 16 = .ok (.iconst 2, 1) := by decide +kernel
theorem dX4_expect_17 : decode cX4_expect 17 = .ok (.invokevirtual 98, 3) := by decide +kernel
theorem dX4_expect_20 : decode cX4_expect 20 = .ok (.return_, 1) := by decide +kernel
theorem dX4_number_0 : decode cX4_number 0 = .ok (.aload_n 0, 1) := by decide +kernel
theorem dX4_number_1 : decode cX4_number 1 = .ok (.getfield 57, 3) := by decide +kernel
theorem dX4_number_4 : decode cX4_number 4 = .ok (.iconst 1, 1) := by decide +kernel
theorem dX4_number_5 : decode cX4_number 5 = .ok (.if_icmp .eq 10, 3) := by decide +kernel
theorem dX4_number_8 : decode cX4_number 8 = .ok (.aload_n 0, 1) := by decide +kernel
theorem dX4_number_9 : decode cX4_number 9 = .ok (.iconst 2, 1) := by decide +kernel
theorem dX4_number_10 : decode cX4_number 10 = .ok (.invokevirtual 98, 3) := by decide +kernel
theorem dX4_number_13 : decode cX4_number 13 = .ok (.iload_n 1, 1) := by decide +kernel
theorem dX4_number_14 : decode cX4_number 14 = .ok (.ireturn, 1) := by decide +kernel
theorem dX4_number_15 : decode cX4_number 15 = .ok (.aload_n 0, 1) := by decide +kernel
theorem dX4_number_16 : decode cX4_number 16 = .ok (.getfield 63, 3) := by decide +kernel
theorem dX4_number_19 : decode cX4_number 19 = .ok (.istore_n 3, 1) := by decide +kernel
theorem dX4_number_20 : decode cX4_number 20 = .ok (.iload_n 3, 1) := by decide +kernel
theorem dX4_number_21 : decode cX4_number 21 = .ok (.iload_n 1, 1) := by decide +kernel
theorem dX4_number_22 : decode cX4_number 22 = .ok (.if_icmp .lt 8, 3) := by decide +kernel
theorem dX4_number_25 : decode cX4_number 25 = .ok (.iload_n 3, 1) := by decide +kernel
theorem dX4_number_26 : decode cX4_number 26 = .ok (.iload_n 2, 1) := by decide +kernel
theorem dX4_number_27 : decode cX4_number 27 = .ok (.if_icmp .le 10, 3) := by decide +kernel
theorem dX4_number_30 : decode cX4_number 30 = .ok (.aload_n 0, 1) := by decide +kernel
theorem dX4_number_31 : decode cX4_number 31 = .ok (.iconst 3, 1) := by decide +kernel
theorem dX4_number_32 : decode cX4_number 32 = .ok (.invokevirtual 98, 3) := by decide +kernel
theorem dX4_number_35 : decode cX4_number 35 = .ok (.iload_n 1, 1) := by decide +kernel
theorem dX4_number_36 : decode cX4_number 36 = .ok (.ireturn, 1) := by decide +kernel
theorem dX4_number_37 : decode cX4_number 37 = .ok (.aload_n 0, 1) := by decide +kernel
theorem dX4_number_38 : decode cX4_number 38 = .ok (.invokevirtual 81, 3) := by decide +kernel
theorem dX4_number_41 : decode cX4_number 41 = .ok (.iload_n 3, 1) := by decide +kernel
theorem dX4_number_42 : decode cX4_number 42 = .ok (.ireturn, 1) := by decide +kernel
theorem dX4_fail_0 : decode cX4_fail 0 = .ok (.aload_n 0, 1) := by decide +kernel
theorem dX4_fail_1 : decode cX4_fail 1 = .ok (.getfield 9, 3) := by decide +kernel
theorem dX4_fail_4 : decode cX4_fail 4 = .ok (.ifCond .ne 21, 3) := by decide +kernel
theorem dX4_fail_7 : decode cX4_fail 7 = .ok (.aload_n 0, 1) := by decide +kernel
theorem dX4_fail_8 : decode cX4_fail 8 = .ok (.iload_n 1, 1) := by decide +kernel
theorem dX4_fail_9 : decode cX4_fail 9 = .ok (.putfield 9, 3) := by decide +kernel
theorem dX4_fail_12 : decode cX4_fail 12 = .ok (.aload_n 0, 1) := by decide +kernel
theorem dX4_fail_13 : decode cX4_fail 13 = .ok (.aload_n 0, 1) := by decide +kernel
theorem dX4_fail_14 : decode cX4_fail 14 = .ok (.getfield 60, 3) := by decide +kernel
theorem dX4_fail_17 : decode cX4_fail 17 = .ok (.putfield 15, 3) := by decide +kernel
theorem dX4_fail_20 : decode cX4_fail 20 = .ok (.aload_n 0, 1) := by decide +kernel
theorem dX4_fail_21 : decode cX4_fail 21 = .ok (.iconst 2, 1) := by decide +kernel
theorem dX4_fail_22 : decode cX4_fail 22 = .ok (.putfield 57, 3) := by decide +kernel
theorem dX4_fail_25 : decode cX4_fail 25 = .ok (.return_, 1) := by decide +kernel
theorem dX4_advance_0 : decode cX4_advance 0 = .ok (.aload_n 0, 1) := by decide +kernel
theorem dX4_advance_1 : decode cX4_advance 1 = .ok (.getfield 9, 3) := by decide +kernel
theorem dX4_advance_4 : decode cX4_advance 4 = .ok (.ifCond .ne 10, 3) := by decide +kernel
theorem dX4_advance_7 : decode cX4_advance 7 = .ok (.aload_n 0, 1) := by decide +kernel
theorem dX4_advance_8 : decode cX4_advance 8 = .ok (.getfield 47, 3) := by decide +kernel
theorem dX4_advance_11 : decode cX4_advance 11 = .ok (.ifnonnull 4, 3) := by decide +kernel
theorem dX4_advance_14 : decode cX4_advance 14 = .ok (.return_, 1) := by decide +kernel
theorem dX4_advance_15 : decode cX4_advance 15 = .ok (.aload_n 0, 1) := by decide +kernel
theorem dX4_advance_16 : decode cX4_advance 16 = .ok (.getfield 54, 3) := by decide +kernel
theorem dX4_advance_19 : decode cX4_advance 19 = .ok (.aload_n 0, 1) := by decide +kernel
theorem dX4_advance_20 : decode cX4_advance 20 = .ok (.getfield 51, 3) := by decide +kernel
theorem dX4_advance_23 : decode cX4_advance 23 = .ok (.if_icmp .ge 44, 3) := by decide +kernel
theorem dX4_advance_26 : decode cX4_advance 26 = .ok (.aload_n 0, 1) := by decide +kernel
theorem dX4_advance_27 : decode cX4_advance 27 = .ok (.getfield 47, 3) := by decide +kernel
theorem dX4_advance_30 : decode cX4_advance 30 = .ok (.aload_n 0, 1) := by decide +kernel
theorem dX4_advance_31 : decode cX4_advance 31 = .ok (.getfield 54, 3) := by decide +kernel
theorem dX4_advance_34 : decode cX4_advance 34 = .ok (.baload, 1) := by decide +kernel
theorem dX4_advance_35 : decode cX4_advance 35 = .ok (.bipush 32, 2) := by decide +kernel
theorem dX4_advance_37 : decode cX4_advance 37 = .ok (.if_icmp .eq 17, 3) := by decide +kernel
theorem dX4_advance_40 : decode cX4_advance 40 = .ok (.aload_n 0, 1) := by decide +kernel
theorem dX4_advance_41 : decode cX4_advance 41 = .ok (.getfield 47, 3) := by decide +kernel
theorem dX4_advance_44 : decode cX4_advance 44 = .ok (.aload_n 0, 1) := by decide +kernel
theorem dX4_advance_45 : decode cX4_advance 45 = .ok (.getfield 54, 3) := by decide +kernel
theorem dX4_advance_48 : decode cX4_advance 48 = .ok (.baload, 1) := by decide +kernel
theorem dX4_advance_49 : decode cX4_advance 49 = .ok (.bipush 10, 2) := by decide +kernel
theorem dX4_advance_51 : decode cX4_advance 51 = .ok (.if_icmp .ne 16, 3) := by decide +kernel
theorem dX4_advance_54 : decode cX4_advance 54 = .ok (.aload_n 0, 1) := by decide +kernel
theorem dX4_advance_55 : decode cX4_advance 55 = .ok (.dup, 1) := by decide +kernel
theorem dX4_advance_56 : decode cX4_advance 56 = .ok (.getfield 54, 3) := by decide +kernel
theorem dX4_advance_59 : decode cX4_advance 59 = .ok (.iconst 1, 1) := by decide +kernel
theorem dX4_advance_60 : decode cX4_advance 60 = .ok (.iadd, 1) := by decide +kernel
theorem dX4_advance_61 : decode cX4_advance 61 = .ok (.putfield 54, 3) := by decide +kernel
theorem dX4_advance_64 : decode cX4_advance 64 = .ok (.goto (-49), 3) := by decide +kernel
theorem dX4_advance_67 : decode cX4_advance 67 = .ok (.aload_n 0, 1) := by decide +kernel
theorem dX4_advance_68 : decode cX4_advance 68 = .ok (.aload_n 0, 1) := by decide +kernel
theorem dX4_advance_69 : decode cX4_advance 69 = .ok (.getfield 54, 3) := by decide +kernel
theorem dX4_advance_72 : decode cX4_advance 72 = .ok (.putfield 60, 3) := by decide +kernel
theorem dX4_advance_75 : decode cX4_advance 75 = .ok (.aload_n 0, 1) := by decide +kernel
theorem dX4_advance_76 : decode cX4_advance 76 = .ok (.getfield 54, 3) := by decide +kernel
theorem dX4_advance_79 : decode cX4_advance 79 = .ok (.aload_n 0, 1) := by decide +kernel
theorem dX4_advance_80 : decode cX4_advance 80 = .ok (.getfield 51, 3) := by decide +kernel
theorem dX4_advance_83 : decode cX4_advance 83 = .ok (.if_icmp .lt 9, 3) := by decide +kernel
theorem dX4_advance_86 : decode cX4_advance 86 = .ok (.aload_n 0, 1) := by decide +kernel
theorem dX4_advance_87 : decode cX4_advance 87 = .ok (.iconst 0, 1) := by decide +kernel
theorem dX4_advance_88 : decode cX4_advance 88 = .ok (.putfield 57, 3) := by decide +kernel
theorem dX4_advance_91 : decode cX4_advance 91 = .ok (.return_, 1) := by decide +kernel
theorem dX4_advance_92 : decode cX4_advance 92 = .ok (.aload_n 0, 1) := by decide +kernel
theorem dX4_advance_93 : decode cX4_advance 93 = .ok (.getfield 47, 3) := by decide +kernel
theorem dX4_advance_96 : decode cX4_advance 96 = .ok (.aload_n 0, 1) := by decide +kernel
theorem dX4_advance_97 : decode cX4_advance 97 = .ok (.getfield 54, 3) := by decide +kernel
theorem dX4_advance_100 : decode cX4_advance 100 = .ok (.baload, 1) := by decide +kernel
theorem dX4_advance_101 : decode cX4_advance 101 = .ok (.sipush 255, 3) := by decide +kernel
theorem dX4_advance_104 : decode cX4_advance 104 = .ok (.iand, 1) := by decide +kernel
theorem dX4_advance_105 : decode cX4_advance 105 = .ok (.istore_n 1, 1) := by decide +kernel
theorem dX4_advance_106 : decode cX4_advance 106 = .ok (.iload_n 1, 1) := by decide +kernel
theorem dX4_advance_107 : decode cX4_advance 107 = .ok (.invokestatic 152, 3) := by decide +kernel
theorem dX4_advance_110 : decode cX4_advance 110 = .ok (.ifCond .eq 61, 3) := by decide +kernel
theorem dX4_advance_113 : decode cX4_advance 113 = .ok (.aload_n 0, 1) := by decide +kernel
theorem dX4_advance_114 : decode cX4_advance 114 = .ok (.getfield 54, 3) := by decide +kernel
theorem dX4_advance_117 : decode cX4_advance 117 = .ok (.aload_n 0, 1) := by decide +kernel
theorem dX4_advance_118 : decode cX4_advance 118 = .ok (.getfield 51, 3) := by decide +kernel
theorem dX4_advance_121 : decode cX4_advance 121 = .ok (.if_icmp .ge 31, 3) := by decide +kernel
theorem dX4_advance_124 : decode cX4_advance 124 = .ok (.aload_n 0, 1) := by decide +kernel
theorem dX4_advance_125 : decode cX4_advance 125 = .ok (.getfield 47, 3) := by decide +kernel
theorem dX4_advance_128 : decode cX4_advance 128 = .ok (.aload_n 0, 1) := by decide +kernel
theorem dX4_advance_129 : decode cX4_advance 129 = .ok (.getfield 54, 3) := by decide +kernel
theorem dX4_advance_132 : decode cX4_advance 132 = .ok (.baload, 1) := by decide +kernel
theorem dX4_advance_133 : decode cX4_advance 133 = .ok (.invokestatic 152, 3) := by decide +kernel
theorem dX4_advance_136 : decode cX4_advance 136 = .ok (.ifCond .eq 16, 3) := by decide +kernel
theorem dX4_advance_139 : decode cX4_advance 139 = .ok (.aload_n 0, 1) := by decide +kernel
theorem dX4_advance_140 : decode cX4_advance 140 = .ok (.dup, 1) := by decide +kernel
theorem dX4_advance_141 : decode cX4_advance 141 = .ok (.getfield 54, 3) := by decide +kernel
theorem dX4_advance_144 : decode cX4_advance 144 = .ok (.iconst 1, 1) := by decide +kernel
theorem dX4_advance_145 : decode cX4_advance 145 = .ok (.iadd, 1) := by decide +kernel
theorem dX4_advance_146 : decode cX4_advance 146 = .ok (.putfield 54, 3) := by decide +kernel
theorem dX4_advance_149 : decode cX4_advance 149 = .ok (.goto (-36), 3) := by decide +kernel
theorem dX4_advance_152 : decode cX4_advance 152 = .ok (.aload_n 0, 1) := by decide +kernel
theorem dX4_advance_153 : decode cX4_advance 153 = .ok (.aload_n 0, 1) := by decide +kernel
theorem dX4_advance_154 : decode cX4_advance 154 = .ok (.aload_n 0, 1) := by decide +kernel
theorem dX4_advance_155 : decode cX4_advance 155 = .ok (.getfield 60, 3) := by decide +kernel
theorem dX4_advance_158 : decode cX4_advance 158 = .ok (.aload_n 0, 1) := by decide +kernel
theorem dX4_advance_159 : decode cX4_advance 159 = .ok (.getfield 54, 3) := by decide +kernel
theorem dX4_advance_162 : decode cX4_advance 162 = .ok (.invokevirtual 156, 3) := by decide +kernel
theorem dX4_advance_165 : decode cX4_advance 165 = .ok (.putfield 57, 3) := by decide +kernel
theorem dX4_advance_168 : decode cX4_advance 168 = .ok (.goto 50, 3) := by decide +kernel
theorem dX4_advance_171 : decode cX4_advance 171 = .ok (.iload_n 1, 1) := by decide +kernel
theorem dX4_advance_172 : decode cX4_advance 172 = .ok (.invokestatic 159, 3) := by decide +kernel
theorem dX4_advance_175 : decode cX4_advance 175 = .ok (.ifCond .eq 10, 3) := by decide +kernel
theorem dX4_advance_178 : decode cX4_advance 178 = .ok (.aload_n 0, 1) := by decide +kernel
theorem dX4_advance_179 : decode cX4_advance 179 = .ok (.invokevirtual 162, 3) := by decide +kernel
theorem dX4_advance_182 : decode cX4_advance 182 = .ok (.goto 36, 3) := by decide +kernel
theorem dX4_advance_185 : decode cX4_advance 185 = .ok (.ldc 165, 2) := by decide +kernel
theorem dX4_advance_187 : decode cX4_advance 187 = .ok (.iload_n 1, 1) := by decide +kernel
theorem dX4_advance_188 : decode cX4_advance 188 = .ok (.i2c, 1) := by decide +kernel
theorem dX4_advance_189 : decode cX4_advance 189 = .ok (.invokevirtual 167, 3) := by decide +kernel
theorem dX4_advance_192 : decode cX4_advance 192 = .ok (.ifCond .lt 21, 3) := by decide +kernel
theorem dX4_advance_195 : decode cX4_advance 195 = .ok (.aload_n 0, 1) := by decide +kernel
theorem dX4_advance_196 : decode cX4_advance 196 = .ok (.iload_n 1, 1) := by decide +kernel
theorem dX4_advance_197 : decode cX4_advance 197 = .ok (.putfield 57, 3) := by decide +kernel
theorem dX4_advance_200 : decode cX4_advance 200 = .ok (.aload_n 0, 1) := by decide +kernel
theorem dX4_advance_201 : decode cX4_advance 201 = .ok (.dup, 1) := by decide +kernel
theorem dX4_advance_202 : decode cX4_advance 202 = .ok (.getfield 54, 3) := by decide +kernel
theorem dX4_advance_205 : decode cX4_advance 205 = .ok (.iconst 1, 1) := by decide +kernel
theorem dX4_advance_206 : decode cX4_advance 206 = .ok (.iadd, 1) := by decide +kernel
theorem dX4_advance_207 : decode cX4_advance 207 = .ok (.putfield 54, 3) := by decide +kernel
theorem dX4_advance_210 : decode cX4_advance 210 = .ok (.goto 8, 3) := by decide +kernel
theorem dX4_advance_213 : decode cX4_advance 213 = .ok (.aload_n 0, 1) := by decide +kernel
theorem dX4_advance_214 : decode cX4_advance 214 = .ok (.iconst 1, 1) := by decide +kernel
theorem dX4_advance_215 : decode cX4_advance 215 = .ok (.invokevirtual 98, 3) := by decide +kernel
theorem dX4_advance_218 : decode cX4_advance 218 = .ok (.return_, 1) := by decide +kernel
theorem dX4_isLetter_0 : decode cX4_isLetter 0 = .ok (.iload_n 0, 1) := by decide +kernel
theorem dX4_isLetter_1 : decode cX4_isLetter 1 = .ok (.bipush 97, 2) := by decide +kernel
theorem dX4_isLetter_3 : decode cX4_isLetter 3 = .ok (.if_icmp .lt 13, 3) := by decide +kernel
theorem dX4_isLetter_6 : decode cX4_isLetter 6 = .ok (.iload_n 0, 1) := by decide +kernel
theorem dX4_isLetter_7 : decode cX4_isLetter 7 = .ok (.bipush 122, 2) := by decide +kernel
theorem dX4_isLetter_9 : decode cX4_isLetter 9 = .ok (.if_icmp .gt 7, 3) := by decide +kernel
theorem dX4_isLetter_12 : decode cX4_isLetter 12 = .ok (.iconst 1, 1) := by decide +kernel
theorem dX4_isLetter_13 : decode cX4_isLetter 13 = .ok (.goto 4, 3) := by decide +kernel
theorem dX4_isLetter_16 : decode cX4_isLetter 16 = .ok (.iconst 0, 1) := by decide +kernel
theorem dX4_isLetter_17 : decode cX4_isLetter 17 = .ok (.ireturn, 1) := by decide +kernel
theorem dX4_isDigit_0 : decode cX4_isDigit 0 = .ok (.iload_n 0, 1) := by decide +kernel
theorem dX4_isDigit_1 : decode cX4_isDigit 1 = .ok (.bipush 48, 2) := by decide +kernel
theorem dX4_isDigit_3 : decode cX4_isDigit 3 = .ok (.if_icmp .lt 13, 3) := by decide +kernel
theorem dX4_isDigit_6 : decode cX4_isDigit 6 = .ok (.iload_n 0, 1) := by decide +kernel
theorem dX4_isDigit_7 : decode cX4_isDigit 7 = .ok (.bipush 57, 2) := by decide +kernel
theorem dX4_isDigit_9 : decode cX4_isDigit 9 = .ok (.if_icmp .gt 7, 3) := by decide +kernel
theorem dX4_isDigit_12 : decode cX4_isDigit 12 = .ok (.iconst 1, 1) := by decide +kernel
theorem dX4_isDigit_13 : decode cX4_isDigit 13 = .ok (.goto 4, 3) := by decide +kernel
theorem dX4_isDigit_16 : decode cX4_isDigit 16 = .ok (.iconst 0, 1) := by decide +kernel
theorem dX4_isDigit_17 : decode cX4_isDigit 17 = .ok (.ireturn, 1) := by decide +kernel
theorem dX4_readNumber_0 : decode cX4_readNumber 0 = .ok (.aload_n 0, 1) := by decide +kernel
theorem dX4_readNumber_1 : decode cX4_readNumber 1 = .ok (.iconst 0, 1) := by decide +kernel
theorem dX4_readNumber_2 : decode cX4_readNumber 2 = .ok (.putfield 63, 3) := by decide +kernel
theorem dX4_readNumber_5 : decode cX4_readNumber 5 = .ok (.aload_n 0, 1) := by decide +kernel
theorem dX4_readNumber_6 : decode cX4_readNumber 6 = .ok (.getfield 54, 3) := by decide +kernel
theorem dX4_readNumber_9 : decode cX4_readNumber 9 = .ok (.aload_n 0, 1) := by decide +kernel
theorem dX4_readNumber_10 : decode cX4_readNumber 10 = .ok (.getfield 51, 3) := by decide +kernel
theorem dX4_readNumber_13 : decode cX4_readNumber 13 = .ok (.if_icmp .ge 68, 3) := by decide +kernel
theorem dX4_readNumber_16 : decode cX4_readNumber 16 = .ok (.aload_n 0, 1) := by decide +kernel
theorem dX4_readNumber_17 : decode cX4_readNumber 17 = .ok (.getfield 47, 3) := by decide +kernel
theorem dX4_readNumber_20 : decode cX4_readNumber 20 = .ok (.aload_n 0, 1) := by decide +kernel
theorem dX4_readNumber_21 : decode cX4_readNumber 21 = .ok (.getfield 54, 3) := by decide +kernel
theorem dX4_readNumber_24 : decode cX4_readNumber 24 = .ok (.baload, 1) := by decide +kernel
theorem dX4_readNumber_25 : decode cX4_readNumber 25 = .ok (.invokestatic 159, 3) := by decide +kernel
theorem dX4_readNumber_28 : decode cX4_readNumber 28 = .ok (.ifCond .eq 53, 3) := by decide +kernel
theorem dX4_readNumber_31 : decode cX4_readNumber 31 = .ok (.aload_n 0, 1) := by decide +kernel
theorem dX4_readNumber_32 : decode cX4_readNumber 32 = .ok (.getfield 54, 3) := by decide +kernel
theorem dX4_readNumber_35 : decode cX4_readNumber 35 = .ok (.aload_n 0, 1) := by decide +kernel
theorem dX4_readNumber_36 : decode cX4_readNumber 36 = .ok (.getfield 60, 3) := by decide +kernel
theorem dX4_readNumber_39 : decode cX4_readNumber 39 = .ok (.isub, 1) := by decide +kernel
theorem dX4_readNumber_40 : decode cX4_readNumber 40 = .ok (.iconst 3, 1) := by decide +kernel
theorem dX4_readNumber_41 : decode cX4_readNumber 41 = .ok (.if_icmp .ge 27, 3) := by decide +kernel
theorem dX4_readNumber_44 : decode cX4_readNumber 44 = .ok (.aload_n 0, 1) := by decide +kernel
theorem dX4_readNumber_45 : decode cX4_readNumber 45 = .ok (.aload_n 0, 1) := by decide +kernel
theorem dX4_readNumber_46 : decode cX4_readNumber 46 = .ok (.getfield 63, 3) := by decide +kernel
theorem dX4_readNumber_49 : decode cX4_readNumber 49 = .ok (.bipush 10, 2) := by decide +kernel
theorem dX4_readNumber_51 : decode cX4_readNumber 51 = .ok (.imul, 1) := by decide +kernel
theorem dX4_readNumber_52 : decode cX4_readNumber 52 = .ok (.aload_n 0, 1) := by decide +kernel
theorem dX4_readNumber_53 : decode cX4_readNumber 53 = .ok (.getfield 47, 3) := by decide +kernel
theorem dX4_readNumber_56 : decode cX4_readNumber 56 = .ok (.aload_n 0, 1) := by decide +kernel
theorem dX4_readNumber_57 : decode cX4_readNumber 57 = .ok (.getfield 54, 3) := by decide +kernel
theorem dX4_readNumber_60 : decode cX4_readNumber 60 = .ok (.baload, 1) := by decide +kernel
theorem dX4_readNumber_61 : decode cX4_readNumber 61 = .ok (.iadd, 1) := by decide +kernel
theorem dX4_readNumber_62 : decode cX4_readNumber 62 = .ok (.bipush 48, 2) := by decide +kernel
theorem dX4_readNumber_64 : decode cX4_readNumber 64 = .ok (.isub, 1) := by decide +kernel
theorem dX4_readNumber_65 : decode cX4_readNumber 65 = .ok (.putfield 63, 3) := by decide +kernel
theorem dX4_readNumber_68 : decode cX4_readNumber 68 = .ok (.aload_n 0, 1) := by decide +kernel
theorem dX4_readNumber_69 : decode cX4_readNumber 69 = .ok (.dup, 1) := by decide +kernel
theorem dX4_readNumber_70 : decode cX4_readNumber 70 = .ok (.getfield 54, 3) := by decide +kernel
theorem dX4_readNumber_73 : decode cX4_readNumber 73 = .ok (.iconst 1, 1) := by decide +kernel
theorem dX4_readNumber_74 : decode cX4_readNumber 74 = .ok (.iadd, 1) := by decide +kernel
theorem dX4_readNumber_75 : decode cX4_readNumber 75 = .ok (.putfield 54, 3) := by decide +kernel
theorem dX4_readNumber_78 : decode cX4_readNumber 78 = .ok (.goto (-73), 3) := by decide +kernel
theorem dX4_readNumber_81 : decode cX4_readNumber 81 = .ok (.aload_n 0, 1) := by decide +kernel
theorem dX4_readNumber_82 : decode cX4_readNumber 82 = .ok (.iconst 1, 1) := by decide +kernel
theorem dX4_readNumber_83 : decode cX4_readNumber 83 = .ok (.putfield 57, 3) := by decide +kernel
theorem dX4_readNumber_86 : decode cX4_readNumber 86 = .ok (.aload_n 0, 1) := by decide +kernel
theorem dX4_readNumber_87 : decode cX4_readNumber 87 = .ok (.getfield 54, 3) := by decide +kernel
theorem dX4_readNumber_90 : decode cX4_readNumber 90 = .ok (.aload_n 0, 1) := by decide +kernel
theorem dX4_readNumber_91 : decode cX4_readNumber 91 = .ok (.getfield 60, 3) := by decide +kernel
theorem dX4_readNumber_94 : decode cX4_readNumber 94 = .ok (.isub, 1) := by decide +kernel
theorem dX4_readNumber_95 : decode cX4_readNumber 95 = .ok (.iconst 3, 1) := by decide +kernel
theorem dX4_readNumber_96 : decode cX4_readNumber 96 = .ok (.if_icmp .le 8, 3) := by decide +kernel
theorem dX4_readNumber_99 : decode cX4_readNumber 99 = .ok (.aload_n 0, 1) := by decide +kernel
theorem dX4_readNumber_100 : decode cX4_readNumber 100 = .ok (.iconst 1, 1) := by decide +kernel
theorem dX4_readNumber_101 : decode cX4_readNumber 101 = .ok (.invokevirtual 98, 3) := by decide +kernel
theorem dX4_readNumber_104 : decode cX4_readNumber 104 = .ok (.return_, 1) := by decide +kernel
theorem dX4_wordBetween_0 : decode cX4_wordBetween 0 = .ok (.sipush 300, 3) := by decide +kernel
theorem dX4_wordBetween_3 : decode cX4_wordBetween 3 = .ok (.istore_n 3, 1) := by decide +kernel
theorem dX4_wordBetween_4 : decode cX4_wordBetween 4 = .ok (.iload_n 1, 1) := by decide +kernel
theorem dX4_wordBetween_5 : decode cX4_wordBetween 5 = .ok (.istore 4, 2) := by decide +kernel
theorem dX4_wordBetween_7 : decode cX4_wordBetween 7 = .ok (.iconst 1, 1) := by decide +kernel
theorem dX4_wordBetween_8 : decode cX4_wordBetween 8 = .ok (.istore 5, 2) := by decide +kernel
theorem dX4_wordBetween_10 : decode cX4_wordBetween 10 = .ok (.iconst 0, 1) := by decide +kernel
theorem dX4_wordBetween_11 : decode cX4_wordBetween 11 = .ok (.istore 6, 2) := by decide +kernel
theorem dX4_wordBetween_13 : decode cX4_wordBetween 13 = .ok (.iload 6, 2) := by decide +kernel
theorem dX4_wordBetween_15 : decode cX4_wordBetween 15 = .ok (.ldc 173, 2) := by decide +kernel
theorem dX4_wordBetween_17 : decode cX4_wordBetween 17 = .ok (.invokevirtual 175, 3) := by decide +kernel
theorem dX4_wordBetween_20 : decode cX4_wordBetween 20 = .ok (.if_icmp .ge 83, 3) := by decide +kernel
theorem dX4_wordBetween_23 : decode cX4_wordBetween 23 = .ok (.ldc 173, 2) := by decide +kernel
theorem dX4_wordBetween_25 : decode cX4_wordBetween 25 = .ok (.iload 6, 2) := by decide +kernel
theorem dX4_wordBetween_27 : decode cX4_wordBetween 27 = .ok (.invokevirtual 177, 3) := by decide +kernel
theorem dX4_wordBetween_30 : decode cX4_wordBetween 30 = .ok (.istore 7, 2) := by decide +kernel
theorem dX4_wordBetween_32 : decode cX4_wordBetween 32 = .ok (.iload 7, 2) := by decide +kernel
theorem dX4_wordBetween_34 : decode cX4_wordBetween 34 = .ok (.bipush 32, 2) := by decide +kernel
theorem dX4_wordBetween_36 : decode cX4_wordBetween 36 = .ok (.if_icmp .eq 39, 3) := by decide +kernel
theorem dX4_wordBetween_39 : decode cX4_wordBetween 39 = .ok (.iload 5, 2) := by decide +kernel
theorem dX4_wordBetween_41 : decode cX4_wordBetween 41 = .ok (.ifCond .eq 25, 3) := by decide +kernel
theorem dX4_wordBetween_44 : decode cX4_wordBetween 44 = .ok (.iload 4, 2) := by decide +kernel
theorem dX4_wordBetween_46 : decode cX4_wordBetween 46 = .ok (.iload_n 2, 1) := by decide +kernel
theorem dX4_wordBetween_47 : decode cX4_wordBetween 47 = .ok (.if_icmp .ge 19, 3) := by decide +kernel
theorem dX4_wordBetween_50 : decode cX4_wordBetween 50 = .ok (.aload_n 0, 1) := by decide +kernel
theorem dX4_wordBetween_51 : decode cX4_wordBetween 51 = .ok (.getfield 47, 3) := by decide +kernel
theorem dX4_wordBetween_54 : decode cX4_wordBetween 54 = .ok (.iload 4, 2) := by decide +kernel
theorem dX4_wordBetween_56 : decode cX4_wordBetween 56 = .ok (.baload, 1) := by decide +kernel
theorem dX4_wordBetween_57 : decode cX4_wordBetween 57 = .ok (.iload 7, 2) := by decide +kernel
theorem dX4_wordBetween_59 : decode cX4_wordBetween 59 = .ok (.if_icmp .ne 7, 3) := by decide +kernel
theorem dX4_wordBetween_62 : decode cX4_wordBetween 62 = .ok (.iconst 1, 1) := by decide +kernel
theorem dX4_wordBetween_63 : decode cX4_wordBetween 63 = .ok (.goto 4, 3) := by decide +kernel
theorem dX4_wordBetween_66 : decode cX4_wordBetween 66 = .ok (.iconst 0, 1) := by decide +kernel
theorem dX4_wordBetween_67 : decode cX4_wordBetween 67 = .ok (.istore 5, 2) := by decide +kernel
theorem dX4_wordBetween_69 : decode cX4_wordBetween 69 = .ok (.iinc 4 1, 3) := by decide +kernel
theorem dX4_wordBetween_72 : decode cX4_wordBetween 72 = .ok (.goto 25, 3) := by decide +kernel
theorem dX4_wordBetween_75 : decode cX4_wordBetween 75 = .ok (.iload 5, 2) := by decide +kernel
theorem dX4_wordBetween_77 : decode cX4_wordBetween 77 = .ok (.ifCond .eq 11, 3) := by decide +kernel
theorem dX4_wordBetween_80 : decode cX4_wordBetween 80 = .ok (.iload 4, 2) := by decide +kernel
theorem dX4_wordBetween_82 : decode cX4_wordBetween 82 = .ok (.iload_n 2, 1) := by decide +kernel
theorem dX4_wordBetween_83 : decode cX4_wordBetween 83 = .ok (.if_icmp .ne 5, 3) := by decide +kernel
theorem dX4_wordBetween_86 : decode cX4_wordBetween 86 = .ok (.iload_n 3, 1) := by decide +kernel
theorem dX4_wordBetween_87 : decode cX4_wordBetween 87 = .ok (.ireturn, 1) := by decide +kernel
theorem dX4_wordBetween_88 : decode cX4_wordBetween 88 = .ok (.iinc 3 1, 3) := by decide +kernel
theorem dX4_wordBetween_91 : decode cX4_wordBetween 91 = .ok (.iload_n 1, 1) := by decide +kernel
theorem dX4_wordBetween_92 : decode cX4_wordBetween 92 = .ok (.istore 4, 2) := by decide +kernel
theorem dX4_wordBetween_94 : decode cX4_wordBetween 94 = .ok (.iconst 1, 1) := by decide +kernel
theorem dX4_wordBetween_95 : decode cX4_wordBetween 95 = .ok (.istore 5, 2) := by decide +kernel
theorem dX4_wordBetween_97 : decode cX4_wordBetween 97 = .ok (.iinc 6 1, 3) := by decide +kernel
theorem dX4_wordBetween_100 : decode cX4_wordBetween 100 = .ok (.goto (-87), 3) := by decide +kernel
theorem dX4_wordBetween_103 : decode cX4_wordBetween 103 = .ok (.sipush 319, 3) := by decide +kernel
theorem dX4_wordBetween_106 : decode cX4_wordBetween 106 = .ok (.ireturn, 1) := by decide +kernel
theorem dX9_init_0 : decode cX9_init 0 = .ok (.aload_n 0, 1) := by decide +kernel
theorem dX9_init_1 : decode cX9_init 1 = .ok (.invokespecial 3, 3) := by decide +kernel
theorem dX9_init_4 : decode cX9_init 4 = .ok (.aload_n 0, 1) := by decide +kernel
theorem dX9_init_5 : decode cX9_init 5 = .ok (.aconst_null, 1) := by decide +kernel
theorem dX9_init_6 : decode cX9_init 6 = .ok (.putfield 9, 3) := by decide +kernel
theorem dX9_init_9 : decode cX9_init 9 = .ok (.aload_n 0, 1) := by decide +kernel
theorem dX9_init_10 : decode cX9_init 10 = .ok (.iconst 1, 1) := by decide +kernel
theorem dX9_init_11 : decode cX9_init 11 = .ok (.newarray .byte, 2) := by decide +kernel
theorem dX9_init_13 : decode cX9_init 13 = .ok (.putfield 15, 3) := by decide +kernel
theorem dX9_init_16 : decode cX9_init 16 = .ok (.aload_n 0, 1) := by decide +kernel
theorem dX9_init_17 : decode cX9_init 17 = .ok (.iconst 1, 1) := by decide +kernel
theorem dX9_init_18 : decode cX9_init 18 = .ok (.newarray .byte, 2) := by decide +kernel
theorem dX9_init_20 : decode cX9_init 20 = .ok (.putfield 19, 3) := by decide +kernel
theorem dX9_init_23 : decode cX9_init 23 = .ok (.aload_n 0, 1) := by decide +kernel
theorem dX9_init_24 : decode cX9_init 24 = .ok (.iconst 0, 1) := by decide +kernel
theorem dX9_init_25 : decode cX9_init 25 = .ok (.putfield 22, 3) := by decide +kernel
theorem dX9_init_28 : decode cX9_init 28 = .ok (.aload_n 0, 1) := by decide +kernel
theorem dX9_init_29 : decode cX9_init 29 = .ok (.bipush 10, 2) := by decide +kernel
theorem dX9_init_31 : decode cX9_init 31 = .ok (.newarray .boolean, 2) := by decide +kernel
theorem dX9_init_33 : decode cX9_init 33 = .ok (.putfield 26, 3) := by decide +kernel
theorem dX9_init_36 : decode cX9_init 36 = .ok (.aload_n 0, 1) := by decide +kernel
theorem dX9_init_37 : decode cX9_init 37 = .ok (.iconst 5, 1) := by decide +kernel
theorem dX9_init_38 : decode cX9_init 38 = .ok (.newarray .int, 2) := by decide +kernel
theorem dX9_init_40 : decode cX9_init 40 = .ok (.putfield 32, 3) := by decide +kernel
theorem dX9_init_43 : decode cX9_init 43 = .ok (.aload_n 0, 1) := by decide +kernel
theorem dX9_init_44 : decode cX9_init 44 = .ok (.bipush 9, 2) := by decide +kernel
theorem dX9_init_46 : decode cX9_init 46 = .ok (.newarray .int, 2) := by decide +kernel
theorem dX9_init_48 : decode cX9_init 48 = .ok (.putfield 36, 3) := by decide +kernel
theorem dX9_init_51 : decode cX9_init 51 = .ok (.aload_n 0, 1) := by decide +kernel
theorem dX9_init_52 : decode cX9_init 52 = .ok (.iconst 0, 1) := by decide +kernel
theorem dX9_init_53 : decode cX9_init 53 = .ok (.putfield 39, 3) := by decide +kernel
theorem dX9_init_56 : decode cX9_init 56 = .ok (.aload_n 0, 1) := by decide +kernel
theorem dX9_init_57 : decode cX9_init 57 = .ok (.iconst 0, 1) := by decide +kernel
theorem dX9_init_58 : decode cX9_init 58 = .ok (.putfield 42, 3) := by decide +kernel
theorem dX9_init_61 : decode cX9_init 61 = .ok (.aload_n 0, 1) := by decide +kernel
theorem dX9_init_62 : decode cX9_init 62 = .ok (.aload_n 1, 1) := by decide +kernel
theorem dX9_init_63 : decode cX9_init 63 = .ok (.putfield 46, 3) := by decide +kernel
theorem dX9_init_66 : decode cX9_init 66 = .ok (.return_, 1) := by decide +kernel
theorem dX9_sitAt_0 : decode cX9_sitAt 0 = .ok (.aload_n 0, 1) := by decide +kernel
theorem dX9_sitAt_1 : decode cX9_sitAt 1 = .ok (.aload_n 1, 1) := by decide +kernel
theorem dX9_sitAt_2 : decode cX9_sitAt 2 = .ok (.putfield 9, 3) := by decide +kernel
theorem dX9_sitAt_5 : decode cX9_sitAt 5 = .ok (.aload_n 0, 1) := by decide +kernel
theorem dX9_sitAt_6 : decode cX9_sitAt 6 = .ok (.aload_n 1, 1) := by decide +kernel
theorem dX9_sitAt_7 : decode cX9_sitAt 7 = .ok (.getfield 50, 3) := by decide +kernel
theorem dX9_sitAt_10 : decode cX9_sitAt 10 = .ok (.aload_n 1, 1) := by decide +kernel
theorem dX9_sitAt_11 : decode cX9_sitAt 11 = .ok (.getfield 50, 3) := by decide +kernel
theorem dX9_sitAt_14 : decode cX9_sitAt 14 = .ok (.imul, 1) := by decide +kernel
theorem dX9_sitAt_15 : decode cX9_sitAt 15 = .ok (.aload_n 1, 1) := by decide +kernel
theorem dX9_sitAt_16 : decode cX9_sitAt 16 = .ok (.getfield 50, 3) := by decide +kernel
theorem dX9_sitAt_19 : decode cX9_sitAt 19 = .ok (.imul, 1) := by decide +kernel
theorem dX9_sitAt_20 : decode cX9_sitAt 20 = .ok (.aload_n 1, 1) := by decide +kernel
theorem dX9_sitAt_21 : decode cX9_sitAt 21 = .ok (.getfield 55, 3) := by decide +kernel
theorem dX9_sitAt_24 : decode cX9_sitAt 24 = .ok (.imul, 1) := by decide +kernel
theorem dX9_sitAt_25 : decode cX9_sitAt 25 = .ok (.putfield 22, 3) := by decide +kernel
theorem dX9_sitAt_28 : decode cX9_sitAt 28 = .ok (.iconst 0, 1) := by decide +kernel
theorem dX9_sitAt_29 : decode cX9_sitAt 29 = .ok (.istore_n 2, 1) := by decide +kernel
theorem dX9_sitAt_30 : decode cX9_sitAt 30 = .ok (.iload_n 2, 1) := by decide +kernel
theorem dX9_sitAt_31 : decode cX9_sitAt 31 = .ok (.aload_n 0, 1) := by decide +kernel
theorem dX9_sitAt_32 : decode cX9_sitAt 32 = .ok (.getfield 26, 3) := by decide +kernel
theorem dX9_sitAt_35 : decode cX9_sitAt 35 = .ok (.arraylength, 1) := by decide +kernel
theorem dX9_sitAt_36 : decode cX9_sitAt 36 = .ok (.if_icmp .ge 16, 3) := by decide +kernel
theorem dX9_sitAt_39 : decode cX9_sitAt 39 = .ok (.aload_n 0, 1) := by decide +kernel
theorem dX9_sitAt_40 : decode cX9_sitAt 40 = .ok (.getfield 26, 3) := by decide +kernel
theorem dX9_sitAt_43 : decode cX9_sitAt 43 = .ok (.iload_n 2, 1) := by decide +kernel
theorem dX9_sitAt_44 : decode cX9_sitAt 44 = .ok (.iconst 0, 1) := by decide +kernel
theorem dX9_sitAt_45 : decode cX9_sitAt 45 = .ok (.bastore, 1) := by decide +kernel
theorem dX9_sitAt_46 : decode cX9_sitAt 46 = .ok (.iinc 2 1, 3) := by decide +kernel
theorem dX9_sitAt_49 : decode cX9_sitAt 49 = .ok (.goto (-19), 3) := by decide +kernel
theorem dX9_sitAt_52 : decode cX9_sitAt 52 = .ok (.aload_n 0, 1) := by decide +kernel
theorem dX9_sitAt_53 : decode cX9_sitAt 53 = .ok (.getfield 15, 3) := by decide +kernel
theorem dX9_sitAt_56 : decode cX9_sitAt 56 = .ok (.arraylength, 1) := by decide +kernel
theorem dX9_sitAt_57 : decode cX9_sitAt 57 = .ok (.bipush 10, 2) := by decide +kernel
theorem dX9_sitAt_59 : decode cX9_sitAt 59 = .ok (.aload_n 0, 1) := by decide +kernel
theorem dX9_sitAt_60 : decode cX9_sitAt 60 = .ok (.getfield 22, 3) := by decide +kernel
theorem dX9_sitAt_63 : decode cX9_sitAt 63 = .ok (.imul, 1) := by decide +kernel
theorem dX9_sitAt_64 : decode cX9_sitAt 64 = .ok (.if_icmp .ge 16, 3) := by decide +kernel
theorem dX9_sitAt_67 : decode cX9_sitAt 67 = .ok (.aload_n 0, 1) := by decide +kernel
theorem dX9_sitAt_68 : decode cX9_sitAt 68 = .ok (.bipush 10, 2) := by decide +kernel
theorem dX9_sitAt_70 : decode cX9_sitAt 70 = .ok (.aload_n 0, 1) := by decide +kernel
theorem dX9_sitAt_71 : decode cX9_sitAt 71 = .ok (.getfield 22, 3) := by decide +kernel
theorem dX9_sitAt_74 : decode cX9_sitAt 74 = .ok (.imul, 1) := by decide +kernel
theorem dX9_sitAt_75 : decode cX9_sitAt 75 = .ok (.newarray .byte, 2) := by decide +kernel
theorem dX9_sitAt_77 : decode cX9_sitAt 77 = .ok (.putfield 15, 3) := by decide +kernel
theorem dX9_sitAt_80 : decode cX9_sitAt 80 = .ok (.aload_n 0, 1) := by decide +kernel
theorem dX9_sitAt_81 : decode cX9_sitAt 81 = .ok (.getfield 19, 3) := by decide +kernel
theorem dX9_sitAt_84 : decode cX9_sitAt 84 = .ok (.arraylength, 1) := by decide +kernel
theorem dX9_sitAt_85 : decode cX9_sitAt 85 = .ok (.bipush 10, 2) := by decide +kernel
theorem dX9_sitAt_87 : decode cX9_sitAt 87 = .ok (.aload_n 0, 1) := by decide +kernel
theorem dX9_sitAt_88 : decode cX9_sitAt 88 = .ok (.getfield 46, 3) := by decide +kernel
theorem dX9_sitAt_91 : decode cX9_sitAt 91 = .ok (.getfield 58, 3) := by decide +kernel
theorem dX9_sitAt_94 : decode cX9_sitAt 94 = .ok (.imul, 1) := by decide +kernel
theorem dX9_sitAt_95 : decode cX9_sitAt 95 = .ok (.if_icmp .ge 19, 3) := by decide +kernel
theorem dX9_sitAt_98 : decode cX9_sitAt 98 = .ok (.aload_n 0, 1) := by decide +kernel
theorem dX9_sitAt_99 : decode cX9_sitAt 99 = .ok (.bipush 10, 2) := by decide +kernel
theorem dX9_sitAt_101 : decode cX9_sitAt 101 = .ok (.aload_n 0, 1) := by decide +kernel
theorem dX9_sitAt_102 : decode cX9_sitAt 102 = .ok (.getfield 46, 3) := by decide +kernel
theorem dX9_sitAt_105 : decode cX9_sitAt 105 = .ok (.getfield 58, 3) := by decide +kernel
theorem dX9_sitAt_108 : decode cX9_sitAt 108 = .ok (.imul, 1) := by decide +kernel
theorem dX9_sitAt_109 : decode cX9_sitAt 109 = .ok (.newarray .byte, 2) := by decide +kernel
theorem dX9_sitAt_111 : decode cX9_sitAt 111 = .ok (.putfield 19, 3) := by decide +kernel
theorem dX9_sitAt_114 : decode cX9_sitAt 114 = .ok (.return_, 1) := by decide +kernel
theorem dX9_prepare_0 : decode cX9_prepare 0 = .ok (.iload_n 1, 1) := by decide +kernel
theorem dX9_prepare_1 : decode cX9_prepare 1 = .ok (.ifCond .lt 21, 3) := by decide +kernel
theorem dX9_prepare_4 : decode cX9_prepare 4 = .ok (.iload_n 1, 1) := by decide +kernel
theorem dX9_prepare_5 : decode cX9_prepare 5 = .ok (.aload_n 0, 1) := by decide +kernel
theorem dX9_prepare_6 : decode cX9_prepare 6 = .ok (.getfield 26, 3) := by decide +kernel
theorem dX9_prepare_9 : decode cX9_prepare 9 = .ok (.arraylength, 1) := by decide +kernel
theorem dX9_prepare_10 : decode cX9_prepare 10 = .ok (.if_icmp .ge 12, 3) := by decide +kernel
theorem dX9_prepare_13 : decode cX9_prepare 13 = .ok (.aload_n 0, 1) := by decide +kernel
theorem dX9_prepare_14 : decode cX9_prepare 14 = .ok (.getfield 26, 3) := by decide +kernel
theorem dX9_prepare_17 : decode cX9_prepare 17 = .ok (.iload_n 1, 1) := by decide +kernel
theorem dX9_prepare_18 : decode cX9_prepare 18 = .ok (.baload, 1) := by decide +kernel
theorem dX9_prepare_19 : decode cX9_prepare 19 = .ok (.ifCond .eq 4, 3) := by decide +kernel
theorem dX9_prepare_22 : decode cX9_prepare 22 = .ok (.return_, 1) := by decide +kernel
theorem dX9_prepare_23 : decode cX9_prepare 23 = .ok (.iload_n 1, 1) := by decide +kernel
theorem dX9_prepare_24 : decode cX9_prepare 24 = .ok (.aload_n 0, 1) := by decide +kernel
theorem dX9_prepare_25 : decode cX9_prepare 25 = .ok (.getfield 22, 3) := by decide +kernel
theorem dX9_prepare_28 : decode cX9_prepare 28 = .ok (.imul, 1) := by decide +kernel
theorem dX9_prepare_29 : decode cX9_prepare 29 = .ok (.istore_n 2, 1) := by decide +kernel
theorem dX9_prepare_30 : decode cX9_prepare 30 = .ok (.iload_n 2, 1) := by decide +kernel
theorem dX9_prepare_31 : decode cX9_prepare 31 = .ok (.iload_n 1, 1) := by decide +kernel
theorem dX9_prepare_32 : decode cX9_prepare 32 = .ok (.iconst 1, 1) := by decide +kernel
theorem dX9_prepare_33 : decode cX9_prepare 33 = .ok (.iadd, 1) := by decide +kernel
theorem dX9_prepare_34 : decode cX9_prepare 34 = .ok (.aload_n 0, 1) := by decide +kernel
theorem dX9_prepare_35 : decode cX9_prepare 35 = .ok (.getfield 22, 3) := by decide +kernel
theorem dX9_prepare_38 : decode cX9_prepare 38 = .ok (.imul, 1) := by decide +kernel
theorem dX9_prepare_39 : decode cX9_prepare 39 = .ok (.if_icmp .ge 25, 3) := by decide +kernel
theorem dX9_prepare_42 : decode cX9_prepare 42 = .ok (.iload_n 2, 1) := by decide +kernel
theorem dX9_prepare_43 : decode cX9_prepare 43 = .ok (.aload_n 0, 1) := by decide +kernel
theorem dX9_prepare_44 : decode cX9_prepare 44 = .ok (.getfield 15, 3) := by decide +kernel
theorem dX9_prepare_47 : decode cX9_prepare 47 = .ok (.arraylength, 1) := by decide +kernel
theorem dX9_prepare_48 : decode cX9_prepare 48 = .ok (.if_icmp .ge 16, 3) := by decide +kernel
theorem dX9_prepare_51 : decode cX9_prepare 51 = .ok (.aload_n 0, 1) := by decide +kernel
theorem dX9_prepare_52 : decode cX9_prepare 52 = .ok (.getfield 15, 3) := by decide +kernel
theorem dX9_prepare_55 : decode cX9_prepare 55 = .ok (.iload_n 2, 1) := by decide +kernel
theorem dX9_prepare_56 : decode cX9_prepare 56 = .ok (.iconst 0, 1) := by decide +kernel
theorem dX9_prepare_57 : decode cX9_prepare 57 = .ok (.bastore, 1) := by decide +kernel
theorem dX9_prepare_58 : decode cX9_prepare 58 = .ok (.iinc 2 1, 3) := by decide +kernel
theorem dX9_prepare_61 : decode cX9_prepare 61 = .ok (.goto (-31), 3) := by decide +kernel
theorem dX9_prepare_64 : decode cX9_prepare 64 = .ok (.iload_n 1, 1) := by decide +kernel
theorem dX9_prepare_65 : decode cX9_prepare 65 = .ok (.aload_n 0, 1) := by decide +kernel
theorem dX9_prepare_66 : decode cX9_prepare 66 = .ok (.getfield 46, 3) := by decide +kernel
theorem dX9_prepare_69 : decode cX9_prepare 69 = .ok (.getfield 58, 3) := by decide +kernel
theorem dX9_prepare_72 : decode cX9_prepare 72 = .ok (.imul, 1) := by decide +kernel
theorem dX9_prepare_73 : decode cX9_prepare 73 = .ok (.istore_n 2, 1) := by decide +kernel
theorem dX9_prepare_74 : decode cX9_prepare 74 = .ok (.iload_n 2, 1) := by decide +kernel
theorem dX9_prepare_75 : decode cX9_prepare 75 = .ok (.iload_n 1, 1) := by decide +kernel
theorem dX9_prepare_76 : decode cX9_prepare 76 = .ok (.iconst 1, 1) := by decide +kernel
theorem dX9_prepare_77 : decode cX9_prepare 77 = .ok (.iadd, 1) := by decide +kernel
theorem dX9_prepare_78 : decode cX9_prepare 78 = .ok (.aload_n 0, 1) := by decide +kernel
theorem dX9_prepare_79 : decode cX9_prepare 79 = .ok (.getfield 46, 3) := by decide +kernel
theorem dX9_prepare_82 : decode cX9_prepare 82 = .ok (.getfield 58, 3) := by decide +kernel
theorem dX9_prepare_85 : decode cX9_prepare 85 = .ok (.imul, 1) := by decide +kernel
theorem dX9_prepare_86 : decode cX9_prepare 86 = .ok (.if_icmp .ge 25, 3) := by decide +kernel
theorem dX9_prepare_89 : decode cX9_prepare 89 = .ok (.iload_n 2, 1) := by decide +kernel
theorem dX9_prepare_90 : decode cX9_prepare 90 = .ok (.aload_n 0, 1) := by decide +kernel
theorem dX9_prepare_91 : decode cX9_prepare 91 = .ok (.getfield 19, 3) := by decide +kernel
theorem dX9_prepare_94 : decode cX9_prepare 94 = .ok (.arraylength, 1) := by decide +kernel
theorem dX9_prepare_95 : decode cX9_prepare 95 = .ok (.if_icmp .ge 16, 3) := by decide +kernel
theorem dX9_prepare_98 : decode cX9_prepare 98 = .ok (.aload_n 0, 1) := by decide +kernel
theorem dX9_prepare_99 : decode cX9_prepare 99 = .ok (.getfield 19, 3) := by decide +kernel
theorem dX9_prepare_102 : decode cX9_prepare 102 = .ok (.iload_n 2, 1) := by decide +kernel
theorem dX9_prepare_103 : decode cX9_prepare 103 = .ok (.iconst 0, 1) := by decide +kernel
theorem dX9_prepare_104 : decode cX9_prepare 104 = .ok (.bastore, 1) := by decide +kernel
theorem dX9_prepare_105 : decode cX9_prepare 105 = .ok (.iinc 2 1, 3) := by decide +kernel
theorem dX9_prepare_108 : decode cX9_prepare 108 = .ok (.goto (-34), 3) := by decide +kernel
theorem dX9_prepare_111 : decode cX9_prepare 111 = .ok (.aload_n 0, 1) := by decide +kernel
theorem dX9_prepare_112 : decode cX9_prepare 112 = .ok (.getfield 26, 3) := by decide +kernel
theorem dX9_prepare_115 : decode cX9_prepare 115 = .ok (.iload_n 1, 1) := by decide +kernel
theorem dX9_prepare_116 : decode cX9_prepare 116 = .ok (.iconst 1, 1) := by decide +kernel
theorem dX9_prepare_117 : decode cX9_prepare 117 = .ok (.bastore, 1) := by decide +kernel
theorem dX9_prepare_118 : decode cX9_prepare 118 = .ok (.return_, 1) := by decide +kernel
theorem dX9_goalOf_0 : decode cX9_goalOf 0 = .ok (.iload_n 1, 1) := by decide +kernel
theorem dX9_goalOf_1 : decode cX9_goalOf 1 = .ok (.ifCond .ne 17, 3) := by decide +kernel
theorem dX9_goalOf_4 : decode cX9_goalOf 4 = .ok (.iconst 1, 1) := by decide +kernel
theorem dX9_goalOf_5 : decode cX9_goalOf 5 = .ok (.aload_n 0, 1) := by decide +kernel
theorem dX9_goalOf_6 : decode cX9_goalOf 6 = .ok (.getfield 46, 3) := by decide +kernel
theorem dX9_goalOf_9 : decode cX9_goalOf 9 = .ok (.getfield 63, 3) := by decide +kernel
theorem dX9_goalOf_12 : decode cX9_goalOf 12 = .ok (.ishl, 1) := by decide +kernel
theorem dX9_goalOf_13 : decode cX9_goalOf 13 = .ok (.iconst 1, 1) := by decide +kernel
theorem dX9_goalOf_14 : decode cX9_goalOf 14 = .ok (.isub, 1) := by decide +kernel
theorem dX9_goalOf_15 : decode cX9_goalOf 15 = .ok (.goto 4, 3) := by decide +kernel
theorem dX9_goalOf_18 : decode cX9_goalOf 18 = .ok (.iconst 0, 1) := by decide +kernel
theorem dX9_goalOf_19 : decode cX9_goalOf 19 = .ok (.ireturn, 1) := by decide +kernel
theorem dX9_maskOf_0 : decode cX9_maskOf 0 = .ok (.aload_n 0, 1) := by decide +kernel
theorem dX9_maskOf_1 : decode cX9_maskOf 1 = .ok (.iload_n 2, 1) := by decide +kernel
theorem dX9_maskOf_2 : decode cX9_maskOf 2 = .ok (.invokevirtual 64, 3) := by decide +kernel
theorem dX9_maskOf_5 : decode cX9_maskOf 5 = .ok (.iload_n 2, 1) := by decide +kernel
theorem dX9_maskOf_6 : decode cX9_maskOf 6 = .ok (.aload_n 0, 1) := by decide +kernel
theorem dX9_maskOf_7 : decode cX9_maskOf 7 = .ok (.getfield 46, 3) := by decide +kernel
theorem dX9_maskOf_10 : decode cX9_maskOf 10 = .ok (.getfield 58, 3) := by decide +kernel
theorem dX9_maskOf_13 : decode cX9_maskOf 13 = .ok (.imul, 1) := by decide +kernel
theorem dX9_maskOf_14 : decode cX9_maskOf 14 = .ok (.iload_n 1, 1) := by decide +kernel
theorem dX9_maskOf_15 : decode cX9_maskOf 15 = .ok (.iadd, 1) := by decide +kernel
theorem dX9_maskOf_16 : decode cX9_maskOf 16 = .ok (.istore_n 3, 1) := by decide +kernel
theorem dX9_maskOf_17 : decode cX9_maskOf 17 = .ok (.iload_n 3, 1) := by decide +kernel
theorem dX9_maskOf_18 : decode cX9_maskOf 18 = .ok (.ifCond .lt 12, 3) := by decide +kernel
theorem dX9_maskOf_21 : decode cX9_maskOf 21 = .ok (.iload_n 3, 1) := by decide +kernel
theorem dX9_maskOf_22 : decode cX9_maskOf 22 = .ok (.aload_n 0, 1) := by decide +kernel
theorem dX9_maskOf_23 : decode cX9_maskOf 23 = .ok (.getfield 19, 3) := by decide +kernel
theorem dX9_maskOf_26 : decode cX9_maskOf 26 = .ok (.arraylength, 1) := by decide +kernel
theorem dX9_maskOf_27 : decode cX9_maskOf 27 = .ok (.if_icmp .lt 5, 3) := by decide +kernel
theorem dX9_maskOf_30 : decode cX9_maskOf 30 = .ok (.iconst 0, 1) := by decide +kernel
theorem dX9_maskOf_31 : decode cX9_maskOf 31 = .ok (.ireturn, 1) := by decide +kernel
theorem dX9_maskOf_32 : decode cX9_maskOf 32 = .ok (.aload_n 0, 1) := by decide +kernel
theorem dX9_maskOf_33 : decode cX9_maskOf 33 = .ok (.getfield 19, 3) := by decide +kernel
theorem dX9_maskOf_36 : decode cX9_maskOf 36 = .ok (.iload_n 3, 1) := by decide +kernel
theorem dX9_maskOf_37 : decode cX9_maskOf 37 = .ok (.baload, 1) := by decide +kernel
theorem dX9_maskOf_38 : decode cX9_maskOf 38 = .ok (.ifCond .ne 66, 3) := by decide +kernel
theorem dX9_maskOf_41 : decode cX9_maskOf 41 = .ok (.iconst 0, 1) := by decide +kernel
theorem dX9_maskOf_42 : decode cX9_maskOf 42 = .ok (.istore 4, 2) := by decide +kernel
theorem dX9_maskOf_44 : decode cX9_maskOf 44 = .ok (.iconst 0, 1) := by decide +kernel
theorem dX9_maskOf_45 : decode cX9_maskOf 45 = .ok (.istore 5, 2) := by decide +kernel
theorem dX9_maskOf_47 : decode cX9_maskOf 47 = .ok (.iload 5, 2) := by decide +kernel
theorem dX9_maskOf_49 : decode cX9_maskOf 49 = .ok (.aload_n 0, 1) := by decide +kernel
theorem dX9_maskOf_50 : decode cX9_maskOf 50 = .ok (.getfield 46, 3) := by decide +kernel
theorem dX9_maskOf_53 : decode cX9_maskOf 53 = .ok (.getfield 63, 3) := by decide +kernel
theorem dX9_maskOf_56 : decode cX9_maskOf 56 = .ok (.if_icmp .ge 37, 3) := by decide +kernel
theorem dX9_maskOf_59 : decode cX9_maskOf 59 = .ok (.aload_n 0, 1) := by decide +kernel
theorem dX9_maskOf_60 : decode cX9_maskOf 60 = .ok (.iload 5, 2) := by decide +kernel
theorem dX9_maskOf_62 : decode cX9_maskOf 62 = .ok (.iload_n 1, 1) := by decide +kernel
theorem dX9_maskOf_63 : decode cX9_maskOf 63 = .ok (.iload_n 2, 1) := by decide +kernel
theorem dX9_maskOf_64 : decode cX9_maskOf 64 = .ok (.invokevirtual 68, 3) := by decide +kernel
theorem dX9_maskOf_67 : decode cX9_maskOf 67 = .ok (.iload 4, 2) := by decide +kernel
theorem dX9_maskOf_69 : decode cX9_maskOf 69 = .ok (.aload_n 0, 1) := by decide +kernel
theorem dX9_maskOf_70 : decode cX9_maskOf 70 = .ok (.getfield 42, 3) := by decide +kernel
theorem dX9_maskOf_73 : decode cX9_maskOf 73 = .ok (.ifCond .eq 10, 3) := by decide +kernel
theorem dX9_maskOf_76 : decode cX9_maskOf 76 = .ok (.iconst 1, 1) := by decide +kernel
theorem dX9_maskOf_77 : decode cX9_maskOf 77 = .ok (.iload 5, 2) := by decide +kernel
theorem dX9_maskOf_79 : decode cX9_maskOf 79 = .ok (.ishl, 1) := by decide +kernel
theorem dX9_maskOf_80 : decode cX9_maskOf 80 = .ok (.goto 4, 3) := by decide +kernel
theorem dX9_maskOf_83 : decode cX9_maskOf 83 = .ok (.iconst 0, 1) := by decide +kernel
theorem dX9_maskOf_84 : decode cX9_maskOf 84 = .ok (.ior, 1) := by decide +kernel
theorem dX9_maskOf_85 : decode cX9_maskOf 85 = .ok (.istore 4, 2) := by decide +kernel
theorem dX9_maskOf_87 : decode cX9_maskOf 87 = .ok (.iinc 5 1, 3) := by decide +kernel
theorem dX9_maskOf_90 : decode cX9_maskOf 90 = .ok (.goto (-43), 3) := by decide +kernel
theorem dX9_maskOf_93 : decode cX9_maskOf 93 = .ok (.aload_n 0, 1) := by decide +kernel
theorem dX9_maskOf_94 : decode cX9_maskOf 94 = .ok (.getfield 19, 3) := by decide +kernel
theorem dX9_maskOf_97 : decode cX9_maskOf 97 = .ok (.iload_n 3, 1) := by decide +kernel
theorem dX9_maskOf_98 : decode cX9_maskOf 98 = .ok (.iconst 1, 1) := by decide +kernel
theorem dX9_maskOf_99 : decode cX9_maskOf 99 = .ok (.iload 4, 2) := by decide +kernel
theorem dX9_maskOf_101 : decode cX9_maskOf 101 = .ok (.iadd, 1) := by decide +kernel
theorem dX9_maskOf_102 : decode cX9_maskOf 102 = .ok (.i2b, 1) := by decide +kernel
theorem dX9_maskOf_103 : decode cX9_maskOf 103 = .ok (.bastore, 1) := by decide +kernel
theorem dX9_maskOf_104 : decode cX9_maskOf 104 = .ok (.aload_n 0, 1) := by decide +kernel
theorem dX9_maskOf_105 : decode cX9_maskOf 105 = .ok (.getfield 19, 3) := by decide +kernel
theorem dX9_maskOf_108 : decode cX9_maskOf 108 = .ok (.iload_n 3, 1) := by decide +kernel
theorem dX9_maskOf_109 : decode cX9_maskOf 109 = .ok (.baload, 1) := by decide +kernel
theorem dX9_maskOf_110 : decode cX9_maskOf 110 = .ok (.iconst 1, 1) := by decide +kernel
theorem dX9_maskOf_111 : decode cX9_maskOf 111 = .ok (.isub, 1) := by decide +kernel
theorem dX9_maskOf_112 : decode cX9_maskOf 112 = .ok (.ireturn, 1) := by decide +kernel
theorem dX9_go_0 : decode cX9_go 0 = .ok (.aload_n 0, 1) := by decide +kernel
theorem dX9_go_1 : decode cX9_go 1 = .ok (.iload_n 3, 1) := by decide +kernel
theorem dX9_go_2 : decode cX9_go 2 = .ok (.invokevirtual 64, 3) := by decide +kernel
theorem dX9_go_5 : decode cX9_go 5 = .ok (.aload_n 0, 1) := by decide +kernel
theorem dX9_go_6 : decode cX9_go 6 = .ok (.iconst 0, 1) := by decide +kernel
theorem dX9_go_7 : decode cX9_go 7 = .ok (.putfield 39, 3) := by decide +kernel
theorem dX9_go_10 : decode cX9_go 10 = .ok (.aload_n 0, 1) := by decide +kernel
theorem dX9_go_11 : decode cX9_go 11 = .ok (.iconst 0, 1) := by decide +kernel
theorem dX9_go_12 : decode cX9_go 12 = .ok (.putfield 42, 3) := by decide +kernel
theorem dX9_go_15 : decode cX9_go 15 = .ok (.aload_n 0, 1) := by decide +kernel
theorem dX9_go_16 : decode cX9_go 16 = .ok (.getfield 32, 3) := by decide +kernel
theorem dX9_go_19 : decode cX9_go 19 = .ok (.iconst 0, 1) := by decide +kernel
theorem dX9_go_20 : decode cX9_go 20 = .ok (.iload_n 1, 1) := by decide +kernel
theorem dX9_go_21 : decode cX9_go 21 = .ok (.iastore, 1) := by decide +kernel
theorem dX9_go_22 : decode cX9_go 22 = .ok (.aload_n 0, 1) := by decide +kernel
theorem dX9_go_23 : decode cX9_go 23 = .ok (.getfield 32, 3) := by decide +kernel
theorem dX9_go_26 : decode cX9_go 26 = .ok (.iconst 1, 1) := by decide +kernel
theorem dX9_go_27 : decode cX9_go 27 = .ok (.iload_n 1, 1) := by decide +kernel
theorem dX9_go_28 : decode cX9_go 28 = .ok (.iastore, 1) := by decide +kernel
theorem dX9_go_29 : decode cX9_go 29 = .ok (.aload_n 0, 1) := by decide +kernel
theorem dX9_go_30 : decode cX9_go 30 = .ok (.getfield 32, 3) := by decide +kernel
theorem dX9_go_33 : decode cX9_go 33 = .ok (.iconst 2, 1) := by decide +kernel
theorem dX9_go_34 : decode cX9_go 34 = .ok (.iload_n 1, 1) := by decide +kernel
theorem dX9_go_35 : decode cX9_go 35 = .ok (.iastore, 1) := by decide +kernel
theorem dX9_go_36 : decode cX9_go 36 = .ok (.aload_n 0, 1) := by decide +kernel
theorem dX9_go_37 : decode cX9_go 37 = .ok (.getfield 32, 3) := by decide +kernel
theorem dX9_go_40 : decode cX9_go 40 = .ok (.iconst 4, 1) := by decide +kernel
theorem dX9_go_41 : decode cX9_go 41 = .ok (.iload_n 3, 1) := by decide +kernel
theorem dX9_go_42 : decode cX9_go 42 = .ok (.iastore, 1) := by decide +kernel
theorem dX9_go_43 : decode cX9_go 43 = .ok (.iconst 0, 1) := by decide +kernel
theorem dX9_go_44 : decode cX9_go 44 = .ok (.istore 4, 2) := by decide +kernel
theorem dX9_go_46 : decode cX9_go 46 = .ok (.iload 4, 2) := by decide +kernel
theorem dX9_go_48 : decode cX9_go 48 = .ok (.aload_n 0, 1) := by decide +kernel
theorem dX9_go_49 : decode cX9_go 49 = .ok (.getfield 9, 3) := by decide +kernel
theorem dX9_go_52 : decode cX9_go 52 = .ok (.getfield 55, 3) := by decide +kernel
theorem dX9_go_55 : decode cX9_go 55 = .ok (.if_icmp .ge 117, 3) := by decide +kernel
theorem dX9_go_58 : decode cX9_go 58 = .ok (.iload 4, 2) := by decide +kernel
theorem dX9_go_60 : decode cX9_go 60 = .ok (.aload_n 0, 1) := by decide +kernel
theorem dX9_go_61 : decode cX9_go 61 = .ok (.getfield 36, 3) := by decide +kernel
theorem dX9_go_64 : decode cX9_go 64 = .ok (.arraylength, 1) := by decide +kernel
theorem dX9_go_65 : decode cX9_go 65 = .ok (.if_icmp .ge 107, 3) := by decide +kernel
theorem dX9_go_68 : decode cX9_go 68 = .ok (.aload_n 0, 1) := by decide +kernel
theorem dX9_go_69 : decode cX9_go 69 = .ok (.getfield 42, 3) := by decide +kernel
theorem dX9_go_72 : decode cX9_go 72 = .ok (.ifCond .ne 100, 3) := by decide +kernel
theorem dX9_go_75 : decode cX9_go 75 = .ok (.aload_n 0, 1) := by decide +kernel
theorem dX9_go_76 : decode cX9_go 76 = .ok (.getfield 32, 3) := by decide +kernel
theorem dX9_go_79 : decode cX9_go 79 = .ok (.iconst 3, 1) := by decide +kernel
theorem dX9_go_80 : decode cX9_go 80 = .ok (.iload 4, 2) := by decide +kernel
theorem dX9_go_82 : decode cX9_go 82 = .ok (.iastore, 1) := by decide +kernel
theorem dX9_go_83 : decode cX9_go 83 = .ok (.aload_n 0, 1) := by decide +kernel
theorem dX9_go_84 : decode cX9_go 84 = .ok (.invokevirtual 72, 3) := by decide +kernel
theorem dX9_go_87 : decode cX9_go 87 = .ok (.istore 5, 2) := by decide +kernel
theorem dX9_go_89 : decode cX9_go 89 = .ok (.iload 5, 2) := by decide +kernel
theorem dX9_go_91 : decode cX9_go 91 = .ok (.iconst 2, 1) := by decide +kernel
theorem dX9_go_92 : decode cX9_go 92 = .ok (.if_icmp .ge 4, 3) := by decide +kernel
theorem dX9_go_95 : decode cX9_go 95 = .ok (.return_, 1) := by decide +kernel
theorem dX9_go_96 : decode cX9_go 96 = .ok (.aload_n 0, 1) := by decide +kernel
theorem dX9_go_97 : decode cX9_go 97 = .ok (.getfield 32, 3) := by decide +kernel
theorem dX9_go_100 : decode cX9_go 100 = .ok (.iconst 2, 1) := by decide +kernel
theorem dX9_go_101 : decode cX9_go 101 = .ok (.iload 5, 2) := by decide +kernel
theorem dX9_go_103 : decode cX9_go 103 = .ok (.iconst 2, 1) := by decide +kernel
theorem dX9_go_104 : decode cX9_go 104 = .ok (.isub, 1) := by decide +kernel
theorem dX9_go_105 : decode cX9_go 105 = .ok (.iastore, 1) := by decide +kernel
theorem dX9_go_106 : decode cX9_go 106 = .ok (.aload_n 0, 1) := by decide +kernel
theorem dX9_go_107 : decode cX9_go 107 = .ok (.getfield 32, 3) := by decide +kernel
theorem dX9_go_110 : decode cX9_go 110 = .ok (.iconst 1, 1) := by decide +kernel
theorem dX9_go_111 : decode cX9_go 111 = .ok (.aload_n 0, 1) := by decide +kernel
theorem dX9_go_112 : decode cX9_go 112 = .ok (.getfield 46, 3) := by decide +kernel
theorem dX9_go_115 : decode cX9_go 115 = .ok (.iload_n 2, 1) := by decide +kernel
theorem dX9_go_116 : decode cX9_go 116 = .ok (.aload_n 0, 1) := by decide +kernel
theorem dX9_go_117 : decode cX9_go 117 = .ok (.getfield 32, 3) := by decide +kernel
theorem dX9_go_120 : decode cX9_go 120 = .ok (.iconst 2, 1) := by decide +kernel
theorem dX9_go_121 : decode cX9_go 121 = .ok (.iaload, 1) := by decide +kernel
theorem dX9_go_122 : decode cX9_go 122 = .ok (.invokevirtual 76, 3) := by decide +kernel
theorem dX9_go_125 : decode cX9_go 125 = .ok (.iastore, 1) := by decide +kernel
theorem dX9_go_126 : decode cX9_go 126 = .ok (.aload_n 0, 1) := by decide +kernel
theorem dX9_go_127 : decode cX9_go 127 = .ok (.getfield 36, 3) := by decide +kernel
theorem dX9_go_130 : decode cX9_go 130 = .ok (.iload 4, 2) := by decide +kernel
theorem dX9_go_132 : decode cX9_go 132 = .ok (.aload_n 0, 1) := by decide +kernel
theorem dX9_go_133 : decode cX9_go 133 = .ok (.getfield 32, 3) := by decide +kernel
theorem dX9_go_136 : decode cX9_go 136 = .ok (.iconst 2, 1) := by decide +kernel
theorem dX9_go_137 : decode cX9_go 137 = .ok (.iaload, 1) := by decide +kernel
theorem dX9_go_138 : decode cX9_go 138 = .ok (.iastore, 1) := by decide +kernel
theorem dX9_go_139 : decode cX9_go 139 = .ok (.aload_n 0, 1) := by decide +kernel
theorem dX9_go_140 : decode cX9_go 140 = .ok (.iload 4, 2) := by decide +kernel
theorem dX9_go_142 : decode cX9_go 142 = .ok (.iconst 1, 1) := by decide +kernel
theorem dX9_go_143 : decode cX9_go 143 = .ok (.iadd, 1) := by decide +kernel
theorem dX9_go_144 : decode cX9_go 144 = .ok (.putfield 39, 3) := by decide +kernel
theorem dX9_go_147 : decode cX9_go 147 = .ok (.aload_n 0, 1) := by decide +kernel
theorem dX9_go_148 : decode cX9_go 148 = .ok (.aload_n 0, 1) := by decide +kernel
theorem dX9_go_149 : decode cX9_go 149 = .ok (.getfield 32, 3) := by decide +kernel
theorem dX9_go_152 : decode cX9_go 152 = .ok (.iconst 1, 1) := by decide +kernel
theorem dX9_go_153 : decode cX9_go 153 = .ok (.iaload, 1) := by decide +kernel
theorem dX9_go_154 : decode cX9_go 154 = .ok (.iload_n 1, 1) := by decide +kernel
theorem dX9_go_155 : decode cX9_go 155 = .ok (.if_icmp .ne 7, 3) := by decide +kernel
theorem dX9_go_158 : decode cX9_go 158 = .ok (.iconst 1, 1) := by decide +kernel
theorem dX9_go_159 : decode cX9_go 159 = .ok (.goto 4, 3) := by decide +kernel
theorem dX9_go_162 : decode cX9_go 162 = .ok (.iconst 0, 1) := by decide +kernel
theorem dX9_go_163 : decode cX9_go 163 = .ok (.putfield 42, 3) := by decide +kernel
theorem dX9_go_166 : decode cX9_go 166 = .ok (.iinc 4 1, 3) := by decide +kernel
theorem dX9_go_169 : decode cX9_go 169 = .ok (.goto (-123), 3) := by decide +kernel
theorem dX9_go_172 : decode cX9_go 172 = .ok (.return_, 1) := by decide +kernel
theorem dX9_openedAt_0 : decode cX9_openedAt 0 = .ok (.iload_n 1, 1) := by decide +kernel
theorem dX9_openedAt_1 : decode cX9_openedAt 1 = .ok (.ifCond .lt 21, 3) := by decide +kernel
theorem dX9_openedAt_4 : decode cX9_openedAt 4 = .ok (.iload_n 1, 1) := by decide +kernel
theorem dX9_openedAt_5 : decode cX9_openedAt 5 = .ok (.aload_n 0, 1) := by decide +kernel
theorem dX9_openedAt_6 : decode cX9_openedAt 6 = .ok (.getfield 36, 3) := by decide +kernel
theorem dX9_openedAt_9 : decode cX9_openedAt 9 = .ok (.arraylength, 1) := by decide +kernel
theorem dX9_openedAt_10 : decode cX9_openedAt 10 = .ok (.if_icmp .ge 12, 3) := by decide +kernel
theorem dX9_openedAt_13 : decode cX9_openedAt 13 = .ok (.aload_n 0, 1) := by decide +kernel
theorem dX9_openedAt_14 : decode cX9_openedAt 14 = .ok (.getfield 36, 3) := by decide +kernel
theorem dX9_openedAt_17 : decode cX9_openedAt 17 = .ok (.iload_n 1, 1) := by decide +kernel
theorem dX9_openedAt_18 : decode cX9_openedAt 18 = .ok (.iaload, 1) := by decide +kernel
theorem dX9_openedAt_19 : decode cX9_openedAt 19 = .ok (.goto 4, 3) := by decide +kernel
theorem dX9_openedAt_22 : decode cX9_openedAt 22 = .ok (.iconst 0, 1) := by decide +kernel
theorem dX9_openedAt_23 : decode cX9_openedAt 23 = .ok (.ireturn, 1) := by decide +kernel
theorem dX9_nextMove_0 : decode cX9_nextMove 0 = .ok (.aload_n 0, 1) := by decide +kernel
theorem dX9_nextMove_1 : decode cX9_nextMove 1 = .ok (.getfield 46, 3) := by decide +kernel
theorem dX9_nextMove_4 : decode cX9_nextMove 4 = .ok (.getfield 63, 3) := by decide +kernel
theorem dX9_nextMove_7 : decode cX9_nextMove 7 = .ok (.istore_n 1, 1) := by decide +kernel
theorem dX9_nextMove_8 : decode cX9_nextMove 8 = .ok (.aload_n 0, 1) := by decide +kernel
theorem dX9_nextMove_9 : decode cX9_nextMove 9 = .ok (.getfield 32, 3) := by decide +kernel
theorem dX9_nextMove_12 : decode cX9_nextMove 12 = .ok (.iconst 4, 1) := by decide +kernel
theorem dX9_nextMove_13 : decode cX9_nextMove 13 = .ok (.iaload, 1) := by decide +kernel
theorem dX9_nextMove_14 : decode cX9_nextMove 14 = .ok (.iload_n 1, 1) := by decide +kernel
theorem dX9_nextMove_15 : decode cX9_nextMove 15 = .ok (.imul, 1) := by decide +kernel
theorem dX9_nextMove_16 : decode cX9_nextMove 16 = .ok (.aload_n 0, 1) := by decide +kernel
theorem dX9_nextMove_17 : decode cX9_nextMove 17 = .ok (.getfield 32, 3) := by decide +kernel
theorem dX9_nextMove_20 : decode cX9_nextMove 20 = .ok (.iconst 0, 1) := by decide +kernel
theorem dX9_nextMove_21 : decode cX9_nextMove 21 = .ok (.iaload, 1) := by decide +kernel
theorem dX9_nextMove_22 : decode cX9_nextMove 22 = .ok (.iadd, 1) := by decide +kernel
theorem dX9_nextMove_23 : decode cX9_nextMove 23 = .ok (.iload_n 1, 1) := by decide +kernel
theorem dX9_nextMove_24 : decode cX9_nextMove 24 = .ok (.imul, 1) := by decide +kernel
theorem dX9_nextMove_25 : decode cX9_nextMove 25 = .ok (.aload_n 0, 1) := by decide +kernel
theorem dX9_nextMove_26 : decode cX9_nextMove 26 = .ok (.getfield 32, 3) := by decide +kernel
theorem dX9_nextMove_29 : decode cX9_nextMove 29 = .ok (.iconst 1, 1) := by decide +kernel
theorem dX9_nextMove_30 : decode cX9_nextMove 30 = .ok (.iaload, 1) := by decide +kernel
theorem dX9_nextMove_31 : decode cX9_nextMove 31 = .ok (.iadd, 1) := by decide +kernel
theorem dX9_nextMove_32 : decode cX9_nextMove 32 = .ok (.iload_n 1, 1) := by decide +kernel
theorem dX9_nextMove_33 : decode cX9_nextMove 33 = .ok (.imul, 1) := by decide +kernel
theorem dX9_nextMove_34 : decode cX9_nextMove 34 = .ok (.aload_n 0, 1) := by decide +kernel
theorem dX9_nextMove_35 : decode cX9_nextMove 35 = .ok (.getfield 32, 3) := by decide +kernel
theorem dX9_nextMove_38 : decode cX9_nextMove 38 = .ok (.iconst 2, 1) := by decide +kernel
theorem dX9_nextMove_39 : decode cX9_nextMove 39 = .ok (.iaload, 1) := by decide +kernel
theorem dX9_nextMove_40 : decode cX9_nextMove 40 = .ok (.iadd, 1) := by decide +kernel
theorem dX9_nextMove_41 : decode cX9_nextMove 41 = .ok (.aload_n 0, 1) := by decide +kernel
theorem dX9_nextMove_42 : decode cX9_nextMove 42 = .ok (.getfield 9, 3) := by decide +kernel
theorem dX9_nextMove_45 : decode cX9_nextMove 45 = .ok (.getfield 55, 3) := by decide +kernel
theorem dX9_nextMove_48 : decode cX9_nextMove 48 = .ok (.imul, 1) := by decide +kernel
theorem dX9_nextMove_49 : decode cX9_nextMove 49 = .ok (.aload_n 0, 1) := by decide +kernel
theorem dX9_nextMove_50 : decode cX9_nextMove 50 = .ok (.getfield 32, 3) := by decide +kernel
theorem dX9_nextMove_53 : decode cX9_nextMove 53 = .ok (.iconst 3, 1) := by decide +kernel
theorem dX9_nextMove_54 : decode cX9_nextMove 54 = .ok (.iaload, 1) := by decide +kernel
theorem dX9_nextMove_55 : decode cX9_nextMove 55 = .ok (.iadd, 1) := by decide +kernel
theorem dX9_nextMove_56 : decode cX9_nextMove 56 = .ok (.istore_n 2, 1) := by decide +kernel
theorem dX9_nextMove_57 : decode cX9_nextMove 57 = .ok (.iload_n 2, 1) := by decide +kernel
theorem dX9_nextMove_58 : decode cX9_nextMove 58 = .ok (.ifCond .lt 12, 3) := by decide +kernel
theorem dX9_nextMove_61 : decode cX9_nextMove 61 = .ok (.iload_n 2, 1) := by decide +kernel
theorem dX9_nextMove_62 : decode cX9_nextMove 62 = .ok (.aload_n 0, 1) := by decide +kernel
theorem dX9_nextMove_63 : decode cX9_nextMove 63 = .ok (.getfield 15, 3) := by decide +kernel
theorem dX9_nextMove_66 : decode cX9_nextMove 66 = .ok (.arraylength, 1) := by decide +kernel
theorem dX9_nextMove_67 : decode cX9_nextMove 67 = .ok (.if_icmp .lt 5, 3) := by decide +kernel
theorem dX9_nextMove_70 : decode cX9_nextMove 70 = .ok (.iconst 1, 1) := by decide +kernel
theorem dX9_nextMove_71 : decode cX9_nextMove 71 = .ok (.ireturn, 1) := by decide +kernel
theorem dX9_nextMove_72 : decode cX9_nextMove 72 = .ok (.aload_n 0, 1) := by decide +kernel
theorem dX9_nextMove_73 : decode cX9_nextMove 73 = .ok (.getfield 15, 3) := by decide +kernel
theorem dX9_nextMove_76 : decode cX9_nextMove 76 = .ok (.iload_n 2, 1) := by decide +kernel
theorem dX9_nextMove_77 : decode cX9_nextMove 77 = .ok (.baload, 1) := by decide +kernel
theorem dX9_nextMove_78 : decode cX9_nextMove 78 = .ok (.ifCond .ne 98, 3) := by decide +kernel
theorem dX9_nextMove_81 : decode cX9_nextMove 81 = .ok (.aload_n 0, 1) := by decide +kernel
theorem dX9_nextMove_82 : decode cX9_nextMove 82 = .ok (.getfield 9, 3) := by decide +kernel
theorem dX9_nextMove_85 : decode cX9_nextMove 85 = .ok (.getfield 80, 3) := by decide +kernel
theorem dX9_nextMove_88 : decode cX9_nextMove 88 = .ok (.ifnull 24, 3) := by decide +kernel
theorem dX9_nextMove_91 : decode cX9_nextMove 91 = .ok (.aload_n 0, 1) := by decide +kernel
theorem dX9_nextMove_92 : decode cX9_nextMove 92 = .ok (.getfield 9, 3) := by decide +kernel
theorem dX9_nextMove_95 : decode cX9_nextMove 95 = .ok (.getfield 80, 3) := by decide +kernel
theorem dX9_nextMove_98 : decode cX9_nextMove 98 = .ok (.aload_n 0, 1) := by decide +kernel
theorem dX9_nextMove_99 : decode cX9_nextMove 99 = .ok (.getfield 32, 3) := by decide +kernel
theorem dX9_nextMove_102 : decode cX9_nextMove 102 = .ok (.invokevirtual 84, 3) := by decide +kernel
theorem dX9_nextMove_105 : decode cX9_nextMove 105 = .ok (.ifCond .eq 7, 3) := by decide +kernel
theorem dX9_nextMove_108 : decode cX9_nextMove 108 = .ok (.iconst 1, 1) := by decide +kernel
theorem dX9_nextMove_109 : decode cX9_nextMove 109 = .ok (.goto 4, 3) := by decide +kernel
theorem dX9_nextMove_112 : decode cX9_nextMove 112 = .ok (.iconst 0, 1) := by decide +kernel
theorem dX9_nextMove_113 : decode cX9_nextMove 113 = .ok (.istore_n 3, 1) := by decide +kernel
theorem dX9_nextMove_114 : decode cX9_nextMove 114 = .ok (.aload_n 0, 1) := by decide +kernel
theorem dX9_nextMove_115 : decode cX9_nextMove 115 = .ok (.getfield 9, 3) := by decide +kernel
theorem dX9_nextMove_118 : decode cX9_nextMove 118 = .ok (.getfield 88, 3) := by decide +kernel
theorem dX9_nextMove_121 : decode cX9_nextMove 121 = .ok (.ifnonnull 12, 3) := by decide +kernel
theorem dX9_nextMove_124 : decode cX9_nextMove 124 = .ok (.aload_n 0, 1) := by decide +kernel
theorem dX9_nextMove_125 : decode cX9_nextMove 125 = .ok (.getfield 32, 3) := by decide +kernel
theorem dX9_nextMove_128 : decode cX9_nextMove 128 = .ok (.iconst 1, 1) := by decide +kernel
theorem dX9_nextMove_129 : decode cX9_nextMove 129 = .ok (.iaload, 1) := by decide +kernel
theorem dX9_nextMove_130 : decode cX9_nextMove 130 = .ok (.goto 17, 3) := by decide +kernel
theorem dX9_nextMove_133 : decode cX9_nextMove 133 = .ok (.aload_n 0, 1) := by decide +kernel
theorem dX9_nextMove_134 : decode cX9_nextMove 134 = .ok (.getfield 9, 3) := by decide +kernel
theorem dX9_nextMove_137 : decode cX9_nextMove 137 = .ok (.getfield 88, 3) := by decide +kernel
theorem dX9_nextMove_140 : decode cX9_nextMove 140 = .ok (.aload_n 0, 1) := by decide +kernel
theorem dX9_nextMove_141 : decode cX9_nextMove 141 = .ok (.getfield 32, 3) := by decide +kernel
theorem dX9_nextMove_144 : decode cX9_nextMove 144 = .ok (.invokevirtual 84, 3) := by decide +kernel
theorem dX9_nextMove_147 : decode cX9_nextMove 147 = .ok (.istore 4, 2) := by decide +kernel
theorem dX9_nextMove_149 : decode cX9_nextMove 149 = .ok (.aload_n 0, 1) := by decide +kernel
theorem dX9_nextMove_150 : decode cX9_nextMove 150 = .ok (.getfield 15, 3) := by decide +kernel
theorem dX9_nextMove_153 : decode cX9_nextMove 153 = .ok (.iload_n 2, 1) := by decide +kernel
theorem dX9_nextMove_154 : decode cX9_nextMove 154 = .ok (.iload_n 3, 1) := by decide +kernel
theorem dX9_nextMove_155 : decode cX9_nextMove 155 = .ok (.ifCond .eq 7, 3) := by decide +kernel
theorem dX9_nextMove_158 : decode cX9_nextMove 158 = .ok (.iconst 1, 1) := by decide +kernel
theorem dX9_nextMove_159 : decode cX9_nextMove 159 = .ok (.goto 15, 3) := by decide +kernel
theorem dX9_nextMove_162 : decode cX9_nextMove 162 = .ok (.iconst 2, 1) := by decide +kernel
theorem dX9_nextMove_163 : decode cX9_nextMove 163 = .ok (.iload 4, 2) := by decide +kernel
theorem dX9_nextMove_165 : decode cX9_nextMove 165 = .ok (.iconst 1, 1) := by decide +kernel
theorem dX9_nextMove_166 : decode cX9_nextMove 166 = .ok (.iload_n 1, 1) := by decide +kernel
theorem dX9_nextMove_167 : decode cX9_nextMove 167 = .ok (.invokestatic 91, 3) := by decide +kernel
theorem dX9_nextMove_170 : decode cX9_nextMove 170 = .ok (.invokestatic 96, 3) := by decide +kernel
theorem dX9_nextMove_173 : decode cX9_nextMove 173 = .ok (.iadd, 1) := by decide +kernel
theorem dX9_nextMove_174 : decode cX9_nextMove 174 = .ok (.i2b, 1) := by decide +kernel
theorem dX9_nextMove_175 : decode cX9_nextMove 175 = .ok (.bastore, 1) := by decide +kernel
theorem dX9_nextMove_176 : decode cX9_nextMove 176 = .ok (.aload_n 0, 1) := by decide +kernel
theorem dX9_nextMove_177 : decode cX9_nextMove 177 = .ok (.getfield 15, 3) := by decide +kernel
theorem dX9_nextMove_180 : decode cX9_nextMove 180 = .ok (.iload_n 2, 1) := by decide +kernel
theorem dX9_nextMove_181 : decode cX9_nextMove 181 = .ok (.baload, 1) := by decide +kernel
theorem dX9_nextMove_182 : decode cX9_nextMove 182 = .ok (.ireturn, 1) := by decide +kernel
theorem dX6_init_0 : decode cX6_init 0 = .ok (.aload_n 0, 1) := by decide +kernel
theorem dX6_init_1 : decode cX6_init 1 = .ok (.invokespecial 3, 3) := by decide +kernel
theorem dX6_init_4 : decode cX6_init 4 = .ok (.aload_n 0, 1) := by decide +kernel
theorem dX6_init_5 : decode cX6_init 5 = .ok (.iconst 1, 1) := by decide +kernel
theorem dX6_init_6 : decode cX6_init 6 = .ok (.newarray .long, 2) := by decide +kernel
theorem dX6_init_8 : decode cX6_init 8 = .ok (.putfield 9, 3) := by decide +kernel
theorem dX6_init_11 : decode cX6_init 11 = .ok (.aload_n 0, 1) := by decide +kernel
theorem dX6_init_12 : decode cX6_init 12 = .ok (.iconst 1, 1) := by decide +kernel
theorem dX6_init_13 : decode cX6_init 13 = .ok (.newarray .long, 2) := by decide +kernel
theorem dX6_init_15 : decode cX6_init 15 = .ok (.putfield 15, 3) := by decide +kernel
theorem dX6_init_18 : decode cX6_init 18 = .ok (.aload_n 0, 1) := by decide +kernel
theorem dX6_init_19 : decode cX6_init 19 = .ok (.aload_n 1, 1) := by decide +kernel
theorem dX6_init_20 : decode cX6_init 20 = .ok (.putfield 18, 3) := by decide +kernel
theorem dX6_init_23 : decode cX6_init 23 = .ok (.return_, 1) := by decide +kernel
theorem dX6_begin_0 : decode cX6_begin 0 = .ok (.aload_n 0, 1) := by decide +kernel
theorem dX6_begin_1 : decode cX6_begin 1 = .ok (.getfield 18, 3) := by decide +kernel
theorem dX6_begin_4 : decode cX6_begin 4 = .ok (.invokevirtual 22, 3) := by decide +kernel
theorem dX6_begin_7 : decode cX6_begin 7 = .ok (.aload_n 0, 1) := by decide +kernel
theorem dX6_begin_8 : decode cX6_begin 8 = .ok (.getfield 9, 3) := by decide +kernel
theorem dX6_begin_11 : decode cX6_begin 11 = .ok (.arraylength, 1) := by decide +kernel
theorem dX6_begin_12 : decode cX6_begin 12 = .ok (.aload_n 0, 1) := by decide +kernel
theorem dX6_begin_13 : decode cX6_begin 13 = .ok (.getfield 18, 3) := by decide +kernel
theorem dX6_begin_16 : decode cX6_begin 16 = .ok (.getfield 27, 3) := by decide +kernel
theorem dX6_begin_19 : decode cX6_begin 19 = .ok (.if_icmp .ge 29, 3) := by decide +kernel
theorem dX6_begin_22 : decode cX6_begin 22 = .ok (.aload_n 0, 1) := by decide +kernel
theorem dX6_begin_23 : decode cX6_begin 23 = .ok (.aload_n 0, 1) := by decide +kernel
theorem dX6_begin_24 : decode cX6_begin 24 = .ok (.getfield 18, 3) := by decide +kernel
theorem dX6_begin_27 : decode cX6_begin 27 = .ok (.getfield 27, 3) := by decide +kernel
theorem dX6_begin_30 : decode cX6_begin 30 = .ok (.newarray .long, 2) := by decide +kernel
theorem dX6_begin_32 : decode cX6_begin 32 = .ok (.putfield 9, 3) := by decide +kernel
theorem dX6_begin_35 : decode cX6_begin 35 = .ok (.aload_n 0, 1) := by decide +kernel
theorem dX6_begin_36 : decode cX6_begin 36 = .ok (.aload_n 0, 1) := by decide +kernel
theorem dX6_begin_37 : decode cX6_begin 37 = .ok (.getfield 18, 3) := by decide +kernel
theorem dX6_begin_40 : decode cX6_begin 40 = .ok (.getfield 27, 3) := by decide +kernel
theorem dX6_begin_43 : decode cX6_begin 43 = .ok (.newarray .long, 2) := by decide +kernel
theorem dX6_begin_45 : decode cX6_begin 45 = .ok (.putfield 15, 3) := by decide +kernel
theorem dX6_begin_48 : decode cX6_begin 48 = .ok (.aload_n 0, 1) := by decide +kernel
theorem dX6_begin_49 : decode cX6_begin 49 = .ok (.getfield 9, 3) := by decide +kernel
theorem dX6_begin_52 : decode cX6_begin 52 = .ok (.lconst 0, 1) := by decide +kernel
theorem dX6_begin_53 : decode cX6_begin 53 = .ok (.invokestatic 31, 3) := by decide +kernel
theorem dX6_begin_56 : decode cX6_begin 56 = .ok (.iload_n 1, 1) := by decide +kernel
theorem dX6_begin_57 : decode cX6_begin 57 = .ok (.ifCond .lt 19, 3) := by decide +kernel
theorem dX6_begin_60 : decode cX6_begin 60 = .ok (.iload_n 1, 1) := by decide +kernel
theorem dX6_begin_61 : decode cX6_begin 61 = .ok (.aload_n 0, 1) := by decide +kernel
theorem dX6_begin_62 : decode cX6_begin 62 = .ok (.getfield 9, 3) := by decide +kernel
theorem dX6_begin_65 : decode cX6_begin 65 = .ok (.arraylength, 1) := by decide +kernel
theorem dX6_begin_66 : decode cX6_begin 66 = .ok (.if_icmp .ge 10, 3) := by decide +kernel
theorem dX6_begin_69 : decode cX6_begin 69 = .ok (.aload_n 0, 1) := by decide +kernel
theorem dX6_begin_70 : decode cX6_begin 70 = .ok (.getfield 9, 3) := by decide +kernel
theorem dX6_begin_73 : decode cX6_begin 73 = .ok (.iload_n 1, 1) := by decide +kernel
theorem dX6_begin_74 : decode cX6_begin 74 = .ok (.lconst 1, 1) := by decide +kernel
theorem dX6_begin_75 : decode cX6_begin 75 = .ok (.lastore, 1) := by decide +kernel
theorem dX6_begin_76 : decode cX6_begin 76 = .ok (.return_, 1) := by decide +kernel
theorem dX6_weightAt_0 : decode cX6_weightAt 0 = .ok (.iload_n 1, 1) := by decide +kernel
theorem dX6_weightAt_1 : decode cX6_weightAt 1 = .ok (.ifCond .lt 21, 3) := by decide +kernel
theorem dX6_weightAt_4 : decode cX6_weightAt 4 = .ok (.iload_n 1, 1) := by decide +kernel
theorem dX6_weightAt_5 : decode cX6_weightAt 5 = .ok (.aload_n 0, 1) := by decide +kernel
theorem dX6_weightAt_6 : decode cX6_weightAt 6 = .ok (.getfield 9, 3) := by decide +kernel
theorem dX6_weightAt_9 : decode cX6_weightAt 9 = .ok (.arraylength, 1) := by decide +kernel
theorem dX6_weightAt_10 : decode cX6_weightAt 10 = .ok (.if_icmp .ge 12, 3) := by decide +kernel
theorem dX6_weightAt_13 : decode cX6_weightAt 13 = .ok (.aload_n 0, 1) := by decide +kernel
theorem dX6_weightAt_14 : decode cX6_weightAt 14 = .ok (.getfield 9, 3) := by decide +kernel
theorem dX6_weightAt_17 : decode cX6_weightAt 17 = .ok (.iload_n 1, 1) := by decide +kernel
theorem dX6_weightAt_18 : decode cX6_weightAt 18 = .ok (.laload, 1) := by decide +kernel
theorem dX6_weightAt_19 : decode cX6_weightAt 19 = .ok (.goto 4, 3) := by decide +kernel
theorem dX6_weightAt_22 : decode cX6_weightAt 22 = .ok (.lconst 0, 1) := by decide +kernel
theorem dX6_weightAt_23 : decode cX6_weightAt 23 = .ok (.lreturn, 1) := by decide +kernel
theorem dX6_bySwaps_0 : decode cX6_bySwaps 0 = .ok (.aload_n 0, 1) := by decide +kernel
theorem dX6_bySwaps_1 : decode cX6_bySwaps 1 = .ok (.getfield 15, 3) := by decide +kernel
theorem dX6_bySwaps_4 : decode cX6_bySwaps 4 = .ok (.lconst 0, 1) := by decide +kernel
theorem dX6_bySwaps_5 : decode cX6_bySwaps 5 = .ok (.invokestatic 31, 3) := by decide +kernel
theorem dX6_bySwaps_8 : decode cX6_bySwaps 8 = .ok (.iconst 0, 1) := by decide +kernel
theorem dX6_bySwaps_9 : decode cX6_bySwaps 9 = .ok (.istore_n 1, 1) := by decide +kernel
theorem dX6_bySwaps_10 : decode cX6_bySwaps 10 = .ok (.iload_n 1, 1) := by decide +kernel
theorem dX6_bySwaps_11 : decode cX6_bySwaps 11 = .ok (.aload_n 0, 1) := by decide +kernel
theorem dX6_bySwaps_12 : decode cX6_bySwaps 12 = .ok (.getfield 18, 3) := by decide +kernel
theorem dX6_bySwaps_15 : decode cX6_bySwaps 15 = .ok (.getfield 27, 3) := by decide +kernel
theorem dX6_bySwaps_18 : decode cX6_bySwaps 18 = .ok (.if_icmp .ge 57, 3) := by decide +kernel
theorem dX6_bySwaps_21 : decode cX6_bySwaps 21 = .ok (.aload_n 0, 1) := by decide +kernel
theorem dX6_bySwaps_22 : decode cX6_bySwaps 22 = .ok (.iload_n 1, 1) := by decide +kernel
theorem dX6_bySwaps_23 : decode cX6_bySwaps 23 = .ok (.invokevirtual 37, 3) := by decide +kernel
theorem dX6_bySwaps_26 : decode cX6_bySwaps 26 = .ok (.lstore_n 2, 1) := by decide +kernel
theorem dX6_bySwaps_27 : decode cX6_bySwaps 27 = .ok (.iconst 0, 1) := by decide +kernel
theorem dX6_bySwaps_28 : decode cX6_bySwaps 28 = .ok (.istore 4, 2) := by decide +kernel
theorem dX6_bySwaps_30 : decode cX6_bySwaps 30 = .ok (.iload 4, 2) := by decide +kernel
theorem dX6_bySwaps_32 : decode cX6_bySwaps 32 = .ok (.aload_n 0, 1) := by decide +kernel
theorem dX6_bySwaps_33 : decode cX6_bySwaps 33 = .ok (.getfield 18, 3) := by decide +kernel
theorem dX6_bySwaps_36 : decode cX6_bySwaps 36 = .ok (.getfield 41, 3) := by decide +kernel
theorem dX6_bySwaps_39 : decode cX6_bySwaps 39 = .ok (.if_icmp .ge 30, 3) := by decide +kernel
theorem dX6_bySwaps_42 : decode cX6_bySwaps 42 = .ok (.lload_n 2, 1) := by decide +kernel
theorem dX6_bySwaps_43 : decode cX6_bySwaps 43 = .ok (.lconst 0, 1) := by decide +kernel
theorem dX6_bySwaps_44 : decode cX6_bySwaps 44 = .ok (.lcmp, 1) := by decide +kernel
theorem dX6_bySwaps_45 : decode cX6_bySwaps 45 = .ok (.ifCond .eq 24, 3) := by decide +kernel
theorem dX6_bySwaps_48 : decode cX6_bySwaps 48 = .ok (.aload_n 0, 1) := by decide +kernel
theorem dX6_bySwaps_49 : decode cX6_bySwaps 49 = .ok (.aload_n 0, 1) := by decide +kernel
theorem dX6_bySwaps_50 : decode cX6_bySwaps 50 = .ok (.getfield 18, 3) := by decide +kernel
theorem dX6_bySwaps_53 : decode cX6_bySwaps 53 = .ok (.iload_n 1, 1) := by decide +kernel
theorem dX6_bySwaps_54 : decode cX6_bySwaps 54 = .ok (.iload 4, 2) := by decide +kernel
theorem dX6_bySwaps_56 : decode cX6_bySwaps 56 = .ok (.invokevirtual 44, 3) := by decide +kernel
theorem dX6_bySwaps_59 : decode cX6_bySwaps 59 = .ok (.lload_n 2, 1) := by decide +kernel
theorem dX6_bySwaps_60 : decode cX6_bySwaps 60 = .ok (.invokevirtual 48, 3) := by decide +kernel
theorem dX6_bySwaps_63 : decode cX6_bySwaps 63 = .ok (.iinc 4 1, 3) := by decide +kernel
theorem dX6_bySwaps_66 : decode cX6_bySwaps 66 = .ok (.goto (-36), 3) := by decide +kernel
theorem dX6_bySwaps_69 : decode cX6_bySwaps 69 = .ok (.iinc 1 1, 3) := by decide +kernel
theorem dX6_bySwaps_72 : decode cX6_bySwaps 72 = .ok (.goto (-62), 3) := by decide +kernel
theorem dX6_bySwaps_75 : decode cX6_bySwaps 75 = .ok (.aload_n 0, 1) := by decide +kernel
theorem dX6_bySwaps_76 : decode cX6_bySwaps 76 = .ok (.invokevirtual 52, 3) := by decide +kernel
theorem dX6_bySwaps_79 : decode cX6_bySwaps 79 = .ok (.return_, 1) := by decide +kernel
theorem dX6_byLots_0 : decode cX6_byLots 0 = .ok (.aload_n 0, 1) := by decide +kernel
theorem dX6_byLots_1 : decode cX6_byLots 1 = .ok (.getfield 15, 3) := by decide +kernel
theorem dX6_byLots_4 : decode cX6_byLots 4 = .ok (.lconst 0, 1) := by decide +kernel
theorem dX6_byLots_5 : decode cX6_byLots 5 = .ok (.invokestatic 31, 3) := by decide +kernel
theorem dX6_byLots_8 : decode cX6_byLots 8 = .ok (.iconst 0, 1) := by decide +kernel
theorem dX6_byLots_9 : decode cX6_byLots 9 = .ok (.istore_n 1, 1) := by decide +kernel
theorem dX6_byLots_10 : decode cX6_byLots 10 = .ok (.iload_n 1, 1) := by decide +kernel
theorem dX6_byLots_11 : decode cX6_byLots 11 = .ok (.aload_n 0, 1) := by decide +kernel
theorem dX6_byLots_12 : decode cX6_byLots 12 = .ok (.getfield 18, 3) := by decide +kernel
theorem dX6_byLots_15 : decode cX6_byLots 15 = .ok (.getfield 27, 3) := by decide +kernel
theorem dX6_byLots_18 : decode cX6_byLots 18 = .ok (.if_icmp .ge 24, 3) := by decide +kernel
theorem dX6_byLots_21 : decode cX6_byLots 21 = .ok (.aload_n 0, 1) := by decide +kernel
theorem dX6_byLots_22 : decode cX6_byLots 22 = .ok (.iload_n 1, 1) := by decide +kernel
theorem dX6_byLots_23 : decode cX6_byLots 23 = .ok (.invokevirtual 37, 3) := by decide +kernel
theorem dX6_byLots_26 : decode cX6_byLots 26 = .ok (.lconst 0, 1) := by decide +kernel
theorem dX6_byLots_27 : decode cX6_byLots 27 = .ok (.lcmp, 1) := by decide +kernel
theorem dX6_byLots_28 : decode cX6_byLots 28 = .ok (.ifCond .eq 8, 3) := by decide +kernel
theorem dX6_byLots_31 : decode cX6_byLots 31 = .ok (.aload_n 0, 1) := by decide +kernel
theorem dX6_byLots_32 : decode cX6_byLots 32 = .ok (.iload_n 1, 1) := by decide +kernel
theorem dX6_byLots_33 : decode cX6_byLots 33 = .ok (.invokevirtual 55, 3) := by decide +kernel
theorem dX6_byLots_36 : decode cX6_byLots 36 = .ok (.iinc 1 1, 3) := by decide +kernel
theorem dX6_byLots_39 : decode cX6_byLots 39 = .ok (.goto (-29), 3) := by decide +kernel
theorem dX6_byLots_42 : decode cX6_byLots 42 = .ok (.aload_n 0, 1) := by decide +kernel
theorem dX6_byLots_43 : decode cX6_byLots 43 = .ok (.invokevirtual 52, 3) := by decide +kernel
theorem dX6_byLots_46 : decode cX6_byLots 46 = .ok (.return_, 1) := by decide +kernel
theorem dX6_addLots_0 : decode cX6_addLots 0 = .ok (.aload_n 0, 1) := by decide +kernel
theorem dX6_addLots_1 : decode cX6_addLots 1 = .ok (.iload_n 1, 1) := by decide +kernel
theorem dX6_addLots_2 : decode cX6_addLots 2 = .ok (.aload_n 0, 1) := by decide +kernel
theorem dX6_addLots_3 : decode cX6_addLots 3 = .ok (.iload_n 1, 1) := by decide +kernel
theorem dX6_addLots_4 : decode cX6_addLots 4 = .ok (.invokevirtual 37, 3) := by decide +kernel
theorem dX6_addLots_7 : decode cX6_addLots 7 = .ok (.bipush 10, 2) := by decide +kernel
theorem dX6_addLots_9 : decode cX6_addLots 9 = .ok (.aload_n 0, 1) := by decide +kernel
theorem dX6_addLots_10 : decode cX6_addLots 10 = .ok (.getfield 18, 3) := by decide +kernel
theorem dX6_addLots_13 : decode cX6_addLots 13 = .ok (.getfield 59, 3) := by decide +kernel
theorem dX6_addLots_16 : decode cX6_addLots 16 = .ok (.isub, 1) := by decide +kernel
theorem dX6_addLots_17 : decode cX6_addLots 17 = .ok (.iconst 1, 1) := by decide +kernel
theorem dX6_addLots_18 : decode cX6_addLots 18 = .ok (.iadd, 1) := by decide +kernel
theorem dX6_addLots_19 : decode cX6_addLots 19 = .ok (.i2l, 1) := by decide +kernel
theorem dX6_addLots_20 : decode cX6_addLots 20 = .ok (.lmul, 1) := by decide +kernel
theorem dX6_addLots_21 : decode cX6_addLots 21 = .ok (.invokevirtual 48, 3) := by decide +kernel
theorem dX6_addLots_24 : decode cX6_addLots 24 = .ok (.iconst 0, 1) := by decide +kernel
theorem dX6_addLots_25 : decode cX6_addLots 25 = .ok (.istore_n 2, 1) := by decide +kernel
theorem dX6_addLots_26 : decode cX6_addLots 26 = .ok (.iload_n 2, 1) := by decide +kernel
theorem dX6_addLots_27 : decode cX6_addLots 27 = .ok (.aload_n 0, 1) := by decide +kernel
theorem dX6_addLots_28 : decode cX6_addLots 28 = .ok (.getfield 18, 3) := by decide +kernel
theorem dX6_addLots_31 : decode cX6_addLots 31 = .ok (.getfield 41, 3) := by decide +kernel
theorem dX6_addLots_34 : decode cX6_addLots 34 = .ok (.if_icmp .ge 41, 3) := by decide +kernel
theorem dX6_addLots_37 : decode cX6_addLots 37 = .ok (.aload_n 0, 1) := by decide +kernel
theorem dX6_addLots_38 : decode cX6_addLots 38 = .ok (.getfield 18, 3) := by decide +kernel
theorem dX6_addLots_41 : decode cX6_addLots 41 = .ok (.iload_n 2, 1) := by decide +kernel
theorem dX6_addLots_42 : decode cX6_addLots 42 = .ok (.invokevirtual 62, 3) := by decide +kernel
theorem dX6_addLots_45 : decode cX6_addLots 45 = .ok (.invokestatic 66, 3) := by decide +kernel
theorem dX6_addLots_48 : decode cX6_addLots 48 = .ok (.ifCond .eq 21, 3) := by decide +kernel
theorem dX6_addLots_51 : decode cX6_addLots 51 = .ok (.aload_n 0, 1) := by decide +kernel
theorem dX6_addLots_52 : decode cX6_addLots 52 = .ok (.aload_n 0, 1) := by decide +kernel
theorem dX6_addLots_53 : decode cX6_addLots 53 = .ok (.getfield 18, 3) := by decide +kernel
theorem dX6_addLots_56 : decode cX6_addLots 56 = .ok (.iload_n 1, 1) := by decide +kernel
theorem dX6_addLots_57 : decode cX6_addLots 57 = .ok (.iload_n 2, 1) := by decide +kernel
theorem dX6_addLots_58 : decode cX6_addLots 58 = .ok (.invokevirtual 44, 3) := by decide +kernel
theorem dX6_addLots_61 : decode cX6_addLots 61 = .ok (.aload_n 0, 1) := by decide +kernel
theorem dX6_addLots_62 : decode cX6_addLots 62 = .ok (.iload_n 1, 1) := by decide +kernel
theorem dX6_addLots_63 : decode cX6_addLots 63 = .ok (.invokevirtual 37, 3) := by decide +kernel
theorem dX6_addLots_66 : decode cX6_addLots 66 = .ok (.invokevirtual 48, 3) := by decide +kernel
theorem dX6_addLots_69 : decode cX6_addLots 69 = .ok (.iinc 2 1, 3) := by decide +kernel
theorem dX6_addLots_72 : decode cX6_addLots 72 = .ok (.goto (-46), 3) := by decide +kernel
theorem dX6_addLots_75 : decode cX6_addLots 75 = .ok (.return_, 1) := by decide +kernel
theorem dX6_isOfNeighbours_0 : decode cX6_isOfNeighbours 0 = .ok (.iload_n 0, 1) := by decide +kernel
theorem dX6_isOfNeighbours_1 : decode cX6_isOfNeighbours 1 = .ok (.bipush 10, 2) := by decide +kernel
theorem dX6_isOfNeighbours_3 : decode cX6_isOfNeighbours 3 = .ok (.idiv, 1) := by decide +kernel
theorem dX6_isOfNeighbours_4 : decode cX6_isOfNeighbours 4 = .ok (.iconst 1, 1) := by decide +kernel
theorem dX6_isOfNeighbours_5 : decode cX6_isOfNeighbours 5 = .ok (.iadd, 1) := by decide +kernel
theorem dX6_isOfNeighbours_6 : decode cX6_isOfNeighbours 6 = .ok (.iload_n 0, 1) := by decide +kernel
theorem dX6_isOfNeighbours_7 : decode cX6_isOfNeighbours 7 = .ok (.bipush 10, 2) := by decide +kernel
theorem dX6_isOfNeighbours_9 : decode cX6_isOfNeighbours 9 = .ok (.irem, 1) := by decide +kernel
theorem dX6_isOfNeighbours_10 : decode cX6_isOfNeighbours 10 = .ok (.if_icmp .ne 7, 3) := by decide +kernel
theorem dX6_isOfNeighbours_13 : decode cX6_isOfNeighbours 13 = .ok (.iconst 1, 1) := by decide +kernel
theorem dX6_isOfNeighbours_14 : decode cX6_isOfNeighbours 14 = .ok (.goto 4, 3) := by decide +kernel
theorem dX6_isOfNeighbours_17 : decode cX6_isOfNeighbours 17 = .ok (.iconst 0, 1) := by decide +kernel
theorem dX6_isOfNeighbours_18 : decode cX6_isOfNeighbours 18 = .ok (.ireturn, 1) := by decide +kernel
theorem dX6_addLater_0 : decode cX6_addLater 0 = .ok (.iload_n 1, 1) := by decide +kernel
theorem dX6_addLater_1 : decode cX6_addLater 1 = .ok (.ifCond .lt 22, 3) := by decide +kernel
theorem dX6_addLater_4 : decode cX6_addLater 4 = .ok (.iload_n 1, 1) := by decide +kernel
theorem dX6_addLater_5 : decode cX6_addLater 5 = .ok (.aload_n 0, 1) := by decide +kernel
theorem dX6_addLater_6 : decode cX6_addLater 6 = .ok (.getfield 15, 3) := by decide +kernel
theorem dX6_addLater_9 : decode cX6_addLater 9 = .ok (.arraylength, 1) := by decide +kernel
theorem dX6_addLater_10 : decode cX6_addLater 10 = .ok (.if_icmp .ge 13, 3) := by decide +kernel
theorem dX6_addLater_13 : decode cX6_addLater 13 = .ok (.aload_n 0, 1) := by decide +kernel
theorem dX6_addLater_14 : decode cX6_addLater 14 = .ok (.getfield 15, 3) := by decide +kernel
theorem dX6_addLater_17 : decode cX6_addLater 17 = .ok (.iload_n 1, 1) := by decide +kernel
theorem dX6_addLater_18 : decode cX6_addLater 18 = .ok (.dup2, 1) := by decide +kernel
theorem dX6_addLater_19 : decode cX6_addLater 19 = .ok (.laload, 1) := by decide +kernel
theorem dX6_addLater_20 : decode cX6_addLater 20 = .ok (.lload_n 2, 1) := by decide +kernel
theorem dX6_addLater_21 : decode cX6_addLater 21 = .ok (.ladd, 1) := by decide +kernel
theorem dX6_addLater_22 : decode cX6_addLater 22 = .ok (.lastore, 1) := by decide +kernel
theorem dX6_addLater_23 : decode cX6_addLater 23 = .ok (.return_, 1) := by decide +kernel
theorem dX6_goOn_0 : decode cX6_goOn 0 = .ok (.aload_n 0, 1) := by decide +kernel
theorem dX6_goOn_1 : decode cX6_goOn 1 = .ok (.getfield 9, 3) := by decide +kernel
theorem dX6_goOn_4 : decode cX6_goOn 4 = .ok (.astore_n 1, 1) := by decide +kernel
theorem dX6_goOn_5 : decode cX6_goOn 5 = .ok (.aload_n 0, 1) := by decide +kernel
theorem dX6_goOn_6 : decode cX6_goOn 6 = .ok (.aload_n 0, 1) := by decide +kernel
theorem dX6_goOn_7 : decode cX6_goOn 7 = .ok (.getfield 15, 3) := by decide +kernel
theorem dX6_goOn_10 : decode cX6_goOn 10 = .ok (.putfield 9, 3) := by decide +kernel
theorem dX6_goOn_13 : decode cX6_goOn 13 = .ok (.aload_n 0, 1) := by decide +kernel
theorem dX6_goOn_14 : decode cX6_goOn 14 = .ok (.aload_n 1, 1) := by decide +kernel
theorem dX6_goOn_15 : decode cX6_goOn 15 = .ok (.putfield 15, 3) := by decide +kernel
theorem dX6_goOn_18 : decode cX6_goOn 18 = .ok (.return_, 1) := by decide +kernel
theorem dX10_init_0 : decode cX10_init 0 = .ok (.aload_n 0, 1) := by decide +kernel
theorem dX10_init_1 : decode cX10_init 1 = .ok (.invokespecial 3, 3) := by decide +kernel
theorem dX10_init_4 : decode cX10_init 4 = .ok (.aload_n 0, 1) := by decide +kernel
theorem dX10_init_5 : decode cX10_init 5 = .ok (.iconst 1, 1) := by decide +kernel
theorem dX10_init_6 : decode cX10_init 6 = .ok (.newarray .int, 2) := by decide +kernel
theorem dX10_init_8 : decode cX10_init 8 = .ok (.putfield 9, 3) := by decide +kernel
theorem dX10_init_11 : decode cX10_init 11 = .ok (.aload_n 0, 1) := by decide +kernel
theorem dX10_init_12 : decode cX10_init 12 = .ok (.iconst 1, 1) := by decide +kernel
theorem dX10_init_13 : decode cX10_init 13 = .ok (.newarray .int, 2) := by decide +kernel
theorem dX10_init_15 : decode cX10_init 15 = .ok (.putfield 15, 3) := by decide +kernel
theorem dX10_init_18 : decode cX10_init 18 = .ok (.aload_n 0, 1) := by decide +kernel
theorem dX10_init_19 : decode cX10_init 19 = .ok (.iconst 0, 1) := by decide +kernel
theorem dX10_init_20 : decode cX10_init 20 = .ok (.putfield 18, 3) := by decide +kernel
theorem dX10_init_23 : decode cX10_init 23 = .ok (.aload_n 0, 1) := by decide +kernel
theorem dX10_init_24 : decode cX10_init 24 = .ok (.aload_n 1, 1) := by decide +kernel
theorem dX10_init_25 : decode cX10_init 25 = .ok (.putfield 22, 3) := by decide +kernel
theorem dX10_init_28 : decode cX10_init 28 = .ok (.aload_n 0, 1) := by decide +kernel
theorem dX10_init_29 : decode cX10_init 29 = .ok (.aload_n 2, 1) := by decide +kernel
theorem dX10_init_30 : decode cX10_init 30 = .ok (.putfield 26, 3) := by decide +kernel
theorem dX10_init_33 : decode cX10_init 33 = .ok (.return_, 1) := by decide +kernel
theorem dX10_measure_0 : decode cX10_measure 0 = .ok (.aload_n 0, 1) := by decide +kernel
theorem dX10_measure_1 : decode cX10_measure 1 = .ok (.getfield 22, 3) := by decide +kernel
theorem dX10_measure_4 : decode cX10_measure 4 = .ok (.invokevirtual 30, 3) := by decide +kernel
theorem dX10_measure_7 : decode cX10_measure 7 = .ok (.aload_n 0, 1) := by decide +kernel
theorem dX10_measure_8 : decode cX10_measure 8 = .ok (.getfield 9, 3) := by decide +kernel
theorem dX10_measure_11 : decode cX10_measure 11 = .ok (.arraylength, 1) := by decide +kernel
theorem dX10_measure_12 : decode cX10_measure 12 = .ok (.aload_n 0, 1) := by decide +kernel
theorem dX10_measure_13 : decode cX10_measure 13 = .ok (.getfield 22, 3) := by decide +kernel
theorem dX10_measure_16 : decode cX10_measure 16 = .ok (.getfield 35, 3) := by decide +kernel
theorem dX10_measure_19 : decode cX10_measure 19 = .ok (.if_icmp .ge 29, 3) := by decide +kernel
theorem dX10_measure_22 : decode cX10_measure 22 = .ok (.aload_n 0, 1) := by decide +kernel
theorem dX10_measure_23 : decode cX10_measure 23 = .ok (.aload_n 0, 1) := by decide +kernel
theorem dX10_measure_24 : decode cX10_measure 24 = .ok (.getfield 22, 3) := by decide +kernel
theorem dX10_measure_27 : decode cX10_measure 27 = .ok (.getfield 35, 3) := by decide +kernel
theorem dX10_measure_30 : decode cX10_measure 30 = .ok (.newarray .int, 2) := by decide +kernel
theorem dX10_measure_32 : decode cX10_measure 32 = .ok (.putfield 9, 3) := by decide +kernel
theorem dX10_measure_35 : decode cX10_measure 35 = .ok (.aload_n 0, 1) := by decide +kernel
theorem dX10_measure_36 : decode cX10_measure 36 = .ok (.aload_n 0, 1) := by decide +kernel
theorem dX10_measure_37 : decode cX10_measure 37 = .ok (.getfield 22, 3) := by decide +kernel
theorem dX10_measure_40 : decode cX10_measure 40 = .ok (.getfield 35, 3) := by decide +kernel
theorem dX10_measure_43 : decode cX10_measure 43 = .ok (.newarray .int, 2) := by decide +kernel
theorem dX10_measure_45 : decode cX10_measure 45 = .ok (.putfield 15, 3) := by decide +kernel
theorem dX10_measure_48 : decode cX10_measure 48 = .ok (.aload_n 0, 1) := by decide +kernel
theorem dX10_measure_49 : decode cX10_measure 49 = .ok (.iconst 0, 1) := by decide +kernel
theorem dX10_measure_50 : decode cX10_measure 50 = .ok (.putfield 18, 3) := by decide +kernel
theorem dX10_measure_53 : decode cX10_measure 53 = .ok (.aload_n 0, 1) := by decide +kernel
theorem dX10_measure_54 : decode cX10_measure 54 = .ok (.getfield 26, 3) := by decide +kernel
theorem dX10_measure_57 : decode cX10_measure 57 = .ok (.iload_n 1, 1) := by decide +kernel
theorem dX10_measure_58 : decode cX10_measure 58 = .ok (.invokevirtual 38, 3) := by decide +kernel
theorem dX10_measure_61 : decode cX10_measure 61 = .ok (.istore_n 3, 1) := by decide +kernel
theorem dX10_measure_62 : decode cX10_measure 62 = .ok (.iconst 0, 1) := by decide +kernel
theorem dX10_measure_63 : decode cX10_measure 63 = .ok (.istore 4, 2) := by decide +kernel
theorem dX10_measure_65 : decode cX10_measure 65 = .ok (.iload 4, 2) := by decide +kernel
theorem dX10_measure_67 : decode cX10_measure 67 = .ok (.aload_n 0, 1) := by decide +kernel
theorem dX10_measure_68 : decode cX10_measure 68 = .ok (.getfield 22, 3) := by decide +kernel
theorem dX10_measure_71 : decode cX10_measure 71 = .ok (.getfield 35, 3) := by decide +kernel
theorem dX10_measure_74 : decode cX10_measure 74 = .ok (.if_icmp .ge 38, 3) := by decide +kernel
theorem dX10_measure_77 : decode cX10_measure 77 = .ok (.aload_n 0, 1) := by decide +kernel
theorem dX10_measure_78 : decode cX10_measure 78 = .ok (.getfield 9, 3) := by decide +kernel
theorem dX10_measure_81 : decode cX10_measure 81 = .ok (.iload 4, 2) := by decide +kernel
theorem dX10_measure_83 : decode cX10_measure 83 = .ok (.iconst (-1), 1) := by decide +kernel
theorem dX10_measure_84 : decode cX10_measure 84 = .ok (.iastore, 1) := by decide +kernel
theorem dX10_measure_85 : decode cX10_measure 85 = .ok (.aload_n 0, 1) := by decide +kernel
theorem dX10_measure_86 : decode cX10_measure 86 = .ok (.getfield 26, 3) := by decide +kernel
theorem dX10_measure_89 : decode cX10_measure 89 = .ok (.iload 4, 2) := by decide +kernel
theorem dX10_measure_91 : decode cX10_measure 91 = .ok (.iload_n 2, 1) := by decide +kernel
theorem dX10_measure_92 : decode cX10_measure 92 = .ok (.invokevirtual 44, 3) := by decide +kernel
theorem dX10_measure_95 : decode cX10_measure 95 = .ok (.iload_n 3, 1) := by decide +kernel
theorem dX10_measure_96 : decode cX10_measure 96 = .ok (.if_icmp .ne 10, 3) := by decide +kernel
theorem dX10_measure_99 : decode cX10_measure 99 = .ok (.aload_n 0, 1) := by decide +kernel
theorem dX10_measure_100 : decode cX10_measure 100 = .ok (.iload 4, 2) := by decide +kernel
theorem dX10_measure_102 : decode cX10_measure 102 = .ok (.iconst 0, 1) := by decide +kernel
theorem dX10_measure_103 : decode cX10_measure 103 = .ok (.invokevirtual 48, 3) := by decide +kernel
theorem dX10_measure_106 : decode cX10_measure 106 = .ok (.iinc 4 1, 3) := by decide +kernel
theorem dX10_measure_109 : decode cX10_measure 109 = .ok (.goto (-44), 3) := by decide +kernel
theorem dX10_measure_112 : decode cX10_measure 112 = .ok (.iconst 0, 1) := by decide +kernel
theorem dX10_measure_113 : decode cX10_measure 113 = .ok (.istore 4, 2) := by decide +kernel
theorem dX10_measure_115 : decode cX10_measure 115 = .ok (.iload 4, 2) := by decide +kernel
theorem dX10_measure_117 : decode cX10_measure 117 = .ok (.aload_n 0, 1) := by decide +kernel
theorem dX10_measure_118 : decode cX10_measure 118 = .ok (.getfield 18, 3) := by decide +kernel
theorem dX10_measure_121 : decode cX10_measure 121 = .ok (.if_icmp .ge 30, 3) := by decide +kernel
theorem dX10_measure_124 : decode cX10_measure 124 = .ok (.iload 4, 2) := by decide +kernel
theorem dX10_measure_126 : decode cX10_measure 126 = .ok (.aload_n 0, 1) := by decide +kernel
theorem dX10_measure_127 : decode cX10_measure 127 = .ok (.getfield 15, 3) := by decide +kernel
theorem dX10_measure_130 : decode cX10_measure 130 = .ok (.arraylength, 1) := by decide +kernel
theorem dX10_measure_131 : decode cX10_measure 131 = .ok (.if_icmp .ge 20, 3) := by decide +kernel
theorem dX10_measure_134 : decode cX10_measure 134 = .ok (.aload_n 0, 1) := by decide +kernel
theorem dX10_measure_135 : decode cX10_measure 135 = .ok (.aload_n 0, 1) := by decide +kernel
theorem dX10_measure_136 : decode cX10_measure 136 = .ok (.getfield 15, 3) := by decide +kernel
theorem dX10_measure_139 : decode cX10_measure 139 = .ok (.iload 4, 2) := by decide +kernel
theorem dX10_measure_141 : decode cX10_measure 141 = .ok (.iaload, 1) := by decide +kernel
theorem dX10_measure_142 : decode cX10_measure 142 = .ok (.invokevirtual 52, 3) := by decide +kernel
theorem dX10_measure_145 : decode cX10_measure 145 = .ok (.iinc 4 1, 3) := by decide +kernel
theorem dX10_measure_148 : decode cX10_measure 148 = .ok (.goto (-33), 3) := by decide +kernel
theorem dX10_measure_151 : decode cX10_measure 151 = .ok (.return_, 1) := by decide +kernel
theorem dX10_reachNeighbours_0 : decode cX10_reachNeighbours 0 = .ok (.aload_n 0, 1) := by decide +kernel
theorem dX10_reachNeighbours_1 : decode cX10_reachNeighbours 1 = .ok (.iload_n 1, 1) := by decide +kernel
theorem dX10_reachNeighbours_2 : decode cX10_reachNeighbours 2 = .ok (.invokevirtual 56, 3) := by decide +kernel
theorem dX10_reachNeighbours_5 : decode cX10_reachNeighbours 5 = .ok (.iconst 1, 1) := by decide +kernel
theorem dX10_reachNeighbours_6 : decode cX10_reachNeighbours 6 = .ok (.iadd, 1) := by decide +kernel
theorem dX10_reachNeighbours_7 : decode cX10_reachNeighbours 7 = .ok (.istore_n 2, 1) := by decide +kernel
theorem dX10_reachNeighbours_8 : decode cX10_reachNeighbours 8 = .ok (.iconst 0, 1) := by decide +kernel
theorem dX10_reachNeighbours_9 : decode cX10_reachNeighbours 9 = .ok (.istore_n 3, 1) := by decide +kernel
theorem dX10_reachNeighbours_10 : decode cX10_reachNeighbours 10 = .ok (.iload_n 3, 1) := by decide +kernel
theorem dX10_reachNeighbours_11 : decode cX10_reachNeighbours 11 = .ok (.aload_n 0, 1) := by decide +kernel
theorem dX10_reachNeighbours_12 : decode cX10_reachNeighbours 12 = .ok (.getfield 22, 3) := by decide +kernel
theorem dX10_reachNeighbours_15 : decode cX10_reachNeighbours 15 = .ok (.getfield 59, 3) := by decide +kernel
theorem dX10_reachNeighbours_18 : decode cX10_reachNeighbours 18 = .ok (.if_icmp .ge 37, 3) := by decide +kernel
theorem dX10_reachNeighbours_21 : decode cX10_reachNeighbours 21 = .ok (.aload_n 0, 1) := by decide +kernel
theorem dX10_reachNeighbours_22 : decode cX10_reachNeighbours 22 = .ok (.getfield 22, 3) := by decide +kernel
theorem dX10_reachNeighbours_25 : decode cX10_reachNeighbours 25 = .ok (.iload_n 1, 1) := by decide +kernel
theorem dX10_reachNeighbours_26 : decode cX10_reachNeighbours 26 = .ok (.iload_n 3, 1) := by decide +kernel
theorem dX10_reachNeighbours_27 : decode cX10_reachNeighbours 27 = .ok (.invokevirtual 62, 3) := by decide +kernel
theorem dX10_reachNeighbours_30 : decode cX10_reachNeighbours 30 = .ok (.istore 4, 2) := by decide +kernel
theorem dX10_reachNeighbours_32 : decode cX10_reachNeighbours 32 = .ok (.aload_n 0, 1) := by decide +kernel
theorem dX10_reachNeighbours_33 : decode cX10_reachNeighbours 33 = .ok (.iload 4, 2) := by decide +kernel
theorem dX10_reachNeighbours_35 : decode cX10_reachNeighbours 35 = .ok (.invokevirtual 56, 3) := by decide +kernel
theorem dX10_reachNeighbours_38 : decode cX10_reachNeighbours 38 = .ok (.iconst (-1), 1) := by decide +kernel
theorem dX10_reachNeighbours_39 : decode cX10_reachNeighbours 39 = .ok (.if_icmp .ne 10, 3) := by decide +kernel
theorem dX10_reachNeighbours_42 : decode cX10_reachNeighbours 42 = .ok (.aload_n 0, 1) := by decide +kernel
theorem dX10_reachNeighbours_43 : decode cX10_reachNeighbours 43 = .ok (.iload 4, 2) := by decide +kernel
theorem dX10_reachNeighbours_45 : decode cX10_reachNeighbours 45 = .ok (.iload_n 2, 1) := by decide +kernel
theorem dX10_reachNeighbours_46 : decode cX10_reachNeighbours 46 = .ok (.invokevirtual 48, 3) := by decide +kernel
theorem dX10_reachNeighbours_49 : decode cX10_reachNeighbours 49 = .ok (.iinc 3 1, 3) := by decide +kernel
theorem dX10_reachNeighbours_52 : decode cX10_reachNeighbours 52 = .ok (.goto (-42), 3) := by decide +kernel
theorem dX10_reachNeighbours_55 : decode cX10_reachNeighbours 55 = .ok (.return_, 1) := by decide +kernel
theorem dX10_reach_0 : decode cX10_reach 0 = .ok (.iload_n 1, 1) := by decide +kernel
theorem dX10_reach_1 : decode cX10_reach 1 = .ok (.ifCond .lt 51, 3) := by decide +kernel
theorem dX10_reach_4 : decode cX10_reach 4 = .ok (.iload_n 1, 1) := by decide +kernel
theorem dX10_reach_5 : decode cX10_reach 5 = .ok (.aload_n 0, 1) := by decide +kernel
theorem dX10_reach_6 : decode cX10_reach 6 = .ok (.getfield 9, 3) := by decide +kernel
theorem dX10_reach_9 : decode cX10_reach 9 = .ok (.arraylength, 1) := by decide +kernel
theorem dX10_reach_10 : decode cX10_reach 10 = .ok (.if_icmp .ge 42, 3) := by decide +kernel
theorem dX10_reach_13 : decode cX10_reach 13 = .ok (.aload_n 0, 1) := by decide +kernel
theorem dX10_reach_14 : decode cX10_reach 14 = .ok (.getfield 18, 3) := by decide +kernel
theorem dX10_reach_17 : decode cX10_reach 17 = .ok (.aload_n 0, 1) := by decide +kernel
theorem dX10_reach_18 : decode cX10_reach 18 = .ok (.getfield 15, 3) := by decide +kernel
theorem dX10_reach_21 : decode cX10_reach 21 = .ok (.arraylength, 1) := by decide +kernel
theorem dX10_reach_22 : decode cX10_reach 22 = .ok (.if_icmp .ge 30, 3) := by decide +kernel
theorem dX10_reach_25 : decode cX10_reach 25 = .ok (.aload_n 0, 1) := by decide +kernel
theorem dX10_reach_26 : decode cX10_reach 26 = .ok (.getfield 9, 3) := by decide +kernel
theorem dX10_reach_29 : decode cX10_reach 29 = .ok (.iload_n 1, 1) := by decide +kernel
theorem dX10_reach_30 : decode cX10_reach 30 = .ok (.iload_n 2, 1) := by decide +kernel
theorem dX10_reach_31 : decode cX10_reach 31 = .ok (.iastore, 1) := by decide +kernel
theorem dX10_reach_32 : decode cX10_reach 32 = .ok (.aload_n 0, 1) := by decide +kernel
theorem dX10_reach_33 : decode cX10_reach 33 = .ok (.getfield 15, 3) := by decide +kernel
theorem dX10_reach_36 : decode cX10_reach 36 = .ok (.aload_n 0, 1) := by decide +kernel
theorem dX10_reach_37 : decode cX10_reach 37 = .ok (.getfield 18, 3) := by decide +kernel
theorem dX10_reach_40 : decode cX10_reach 40 = .ok (.iload_n 1, 1) := by decide +kernel
theorem dX10_reach_41 : decode cX10_reach 41 = .ok (.iastore, 1) := by decide +kernel
theorem dX10_reach_42 : decode cX10_reach 42 = .ok (.aload_n 0, 1) := by decide +kernel
theorem dX10_reach_43 : decode cX10_reach 43 = .ok (.dup, 1) := by decide +kernel
theorem dX10_reach_44 : decode cX10_reach 44 = .ok (.getfield 18, 3) := by decide +kernel
theorem dX10_reach_47 : decode cX10_reach 47 = .ok (.iconst 1, 1) := by decide +kernel
theorem dX10_reach_48 : decode cX10_reach 48 = .ok (.iadd, 1) := by decide +kernel
theorem dX10_reach_49 : decode cX10_reach 49 = .ok (.putfield 18, 3) := by decide +kernel
theorem dX10_reach_52 : decode cX10_reach 52 = .ok (.return_, 1) := by decide +kernel
theorem dX10_stepsFrom_0 : decode cX10_stepsFrom 0 = .ok (.iload_n 1, 1) := by decide +kernel
theorem dX10_stepsFrom_1 : decode cX10_stepsFrom 1 = .ok (.ifCond .lt 21, 3) := by decide +kernel
theorem dX10_stepsFrom_4 : decode cX10_stepsFrom 4 = .ok (.iload_n 1, 1) := by decide +kernel
theorem dX10_stepsFrom_5 : decode cX10_stepsFrom 5 = .ok (.aload_n 0, 1) := by decide +kernel
theorem dX10_stepsFrom_6 : decode cX10_stepsFrom 6 = .ok (.getfield 9, 3) := by decide +kernel
theorem dX10_stepsFrom_9 : decode cX10_stepsFrom 9 = .ok (.arraylength, 1) := by decide +kernel
theorem dX10_stepsFrom_10 : decode cX10_stepsFrom 10 = .ok (.if_icmp .ge 12, 3) := by decide +kernel
theorem dX10_stepsFrom_13 : decode cX10_stepsFrom 13 = .ok (.aload_n 0, 1) := by decide +kernel
theorem dX10_stepsFrom_14 : decode cX10_stepsFrom 14 = .ok (.getfield 9, 3) := by decide +kernel
theorem dX10_stepsFrom_17 : decode cX10_stepsFrom 17 = .ok (.iload_n 1, 1) := by decide +kernel
theorem dX10_stepsFrom_18 : decode cX10_stepsFrom 18 = .ok (.iaload, 1) := by decide +kernel
theorem dX10_stepsFrom_19 : decode cX10_stepsFrom 19 = .ok (.goto 4, 3) := by decide +kernel
theorem dX10_stepsFrom_22 : decode cX10_stepsFrom 22 = .ok (.iconst (-1), 1) := by decide +kernel
theorem dX10_stepsFrom_23 : decode cX10_stepsFrom 23 = .ok (.ireturn, 1) := by decide +kernel
theorem dX10_pairFrom_0 : decode cX10_pairFrom 0 = .ok (.iconst 0, 1) := by decide +kernel
theorem dX10_pairFrom_1 : decode cX10_pairFrom 1 = .ok (.istore_n 2, 1) := by decide +kernel
theorem dX10_pairFrom_2 : decode cX10_pairFrom 2 = .ok (.iload_n 2, 1) := by decide +kernel
theorem dX10_pairFrom_3 : decode cX10_pairFrom 3 = .ok (.aload_n 0, 1) := by decide +kernel
theorem dX10_pairFrom_4 : decode cX10_pairFrom 4 = .ok (.getfield 22, 3) := by decide +kernel
theorem dX10_pairFrom_7 : decode cX10_pairFrom 7 = .ok (.getfield 59, 3) := by decide +kernel
theorem dX10_pairFrom_10 : decode cX10_pairFrom 10 = .ok (.if_icmp .ge 34, 3) := by decide +kernel
theorem dX10_pairFrom_13 : decode cX10_pairFrom 13 = .ok (.aload_n 0, 1) := by decide +kernel
theorem dX10_pairFrom_14 : decode cX10_pairFrom 14 = .ok (.aload_n 0, 1) := by decide +kernel
theorem dX10_pairFrom_15 : decode cX10_pairFrom 15 = .ok (.getfield 22, 3) := by decide +kernel
theorem dX10_pairFrom_18 : decode cX10_pairFrom 18 = .ok (.iload_n 1, 1) := by decide +kernel
theorem dX10_pairFrom_19 : decode cX10_pairFrom 19 = .ok (.iload_n 2, 1) := by decide +kernel
theorem dX10_pairFrom_20 : decode cX10_pairFrom 20 = .ok (.invokevirtual 62, 3) := by decide +kernel
theorem dX10_pairFrom_23 : decode cX10_pairFrom 23 = .ok (.invokevirtual 56, 3) := by decide +kernel
theorem dX10_pairFrom_26 : decode cX10_pairFrom 26 = .ok (.aload_n 0, 1) := by decide +kernel
theorem dX10_pairFrom_27 : decode cX10_pairFrom 27 = .ok (.iload_n 1, 1) := by decide +kernel
theorem dX10_pairFrom_28 : decode cX10_pairFrom 28 = .ok (.invokevirtual 56, 3) := by decide +kernel
theorem dX10_pairFrom_31 : decode cX10_pairFrom 31 = .ok (.iconst 1, 1) := by decide +kernel
theorem dX10_pairFrom_32 : decode cX10_pairFrom 32 = .ok (.isub, 1) := by decide +kernel
theorem dX10_pairFrom_33 : decode cX10_pairFrom 33 = .ok (.if_icmp .ne 5, 3) := by decide +kernel
theorem dX10_pairFrom_36 : decode cX10_pairFrom 36 = .ok (.iload_n 2, 1) := by decide +kernel
theorem dX10_pairFrom_37 : decode cX10_pairFrom 37 = .ok (.ireturn, 1) := by decide +kernel
theorem dX10_pairFrom_38 : decode cX10_pairFrom 38 = .ok (.iinc 2 1, 3) := by decide +kernel
theorem dX10_pairFrom_41 : decode cX10_pairFrom 41 = .ok (.goto (-39), 3) := by decide +kernel
theorem dX10_pairFrom_44 : decode cX10_pairFrom 44 = .ok (.iconst (-1), 1) := by decide +kernel
theorem dX10_pairFrom_45 : decode cX10_pairFrom 45 = .ok (.ireturn, 1) := by decide +kernel
