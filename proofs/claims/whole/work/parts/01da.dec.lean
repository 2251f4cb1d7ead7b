theorem dX5_init_0 : decode cX5_init 0 = .ok (.aload_n 0, 1) := by decide +kernel
theorem dX5_init_1 : decode cX5_init 1 = .ok (.invokespecial 3, 3) := by decide +kernel
theorem dX5_init_4 : decode cX5_init 4 = .ok (.aload_n 0, 1) := by decide +kernel
theorem dX5_init_5 : decode cX5_init 5 = .ok (.iconst 0, 1) := by decide +kernel
theorem dX5_init_6 : decode cX5_init 6 = .ok (.putfield 9, 3) := by decide +kernel
theorem dX5_init_9 : decode cX5_init 9 = .ok (.aload_n 0, 1) := by decide +kernel
theorem dX5_init_10 : decode cX5_init 10 = .ok (.iconst 0, 1) := by decide +kernel
theorem dX5_init_11 : decode cX5_init 11 = .ok (.putfield 15, 3) := by decide +kernel
theorem dX5_init_14 : decode cX5_init 14 = .ok (.aload_n 0, 1) := by decide +kernel
theorem dX5_init_15 : decode cX5_init 15 = .ok (.iconst 0, 1) := by decide +kernel
theorem dX5_init_16 : decode cX5_init 16 = .ok (.putfield 18, 3) := by decide +kernel
theorem dX5_init_19 : decode cX5_init 19 = .ok (.aload_n 0, 1) := by decide +kernel
theorem dX5_init_20 : decode cX5_init 20 = .ok (.iconst 0, 1) := by decide +kernel
theorem dX5_init_21 : decode cX5_init 21 = .ok (.putfield 21, 3) := by decide +kernel
theorem dX5_init_24 : decode cX5_init 24 = .ok (.aload_n 0, 1) := by decide +kernel
theorem dX5_init_25 : decode cX5_init 25 = .ok (.iconst 1, 1) := by decide +kernel
theorem dX5_init_26 : decode cX5_init 26 = .ok (.newarray .byte, 2) := by decide +kernel
theorem dX5_init_28 : decode cX5_init 28 = .ok (.putfield 25, 3) := by decide +kernel
theorem dX5_init_31 : decode cX5_init 31 = .ok (.aload_n 0, 1) := by decide +kernel
theorem dX5_init_32 : decode cX5_init 32 = .ok (.iconst 1, 1) := by decide +kernel
theorem dX5_init_33 : decode cX5_init 33 = .ok (.newarray .int, 2) := by decide +kernel
theorem dX5_init_35 : decode cX5_init 35 = .ok (.putfield 29, 3) := by decide +kernel
theorem dX5_init_38 : decode cX5_init 38 = .ok (.aload_n 0, 1) := by decide +kernel
theorem dX5_init_39 : decode cX5_init 39 = .ok (.bipush 15, 2) := by decide +kernel
theorem dX5_init_41 : decode cX5_init 41 = .ok (.newarray .int, 2) := by decide +kernel
theorem dX5_init_43 : decode cX5_init 43 = .ok (.putfield 33, 3) := by decide +kernel
theorem dX5_init_46 : decode cX5_init 46 = .ok (.aload_n 0, 1) := by decide +kernel
theorem dX5_init_47 : decode cX5_init 47 = .ok (.bipush 6, 2) := by decide +kernel
theorem dX5_init_49 : decode cX5_init 49 = .ok (.newarray .int, 2) := by decide +kernel
theorem dX5_init_51 : decode cX5_init 51 = .ok (.putfield 36, 3) := by decide +kernel
theorem dX5_init_54 : decode cX5_init 54 = .ok (.return_, 1) := by decide +kernel
theorem dX5_hold_0 : decode cX5_hold 0 = .ok (.iload_n 1, 1) := by decide +kernel
theorem dX5_hold_1 : decode cX5_hold 1 = .ok (.aload_n 0, 1) := by decide +kernel
theorem dX5_hold_2 : decode cX5_hold 2 = .ok (.getfield 9, 3) := by decide +kernel
theorem dX5_hold_5 : decode cX5_hold 5 = .ok (.if_icmp .eq 14, 3) := by decide +kernel
theorem dX5_hold_8 : decode cX5_hold 8 = .ok (.iload_n 1, 1) := by decide +kernel
theorem dX5_hold_9 : decode cX5_hold 9 = .ok (.iconst 1, 1) := by decide +kernel
theorem dX5_hold_10 : decode cX5_hold 10 = .ok (.if_icmp .lt 9, 3) := by decide +kernel
theorem dX5_hold_13 : decode cX5_hold 13 = .ok (.iload_n 1, 1) := by decide +kernel
theorem dX5_hold_14 : decode cX5_hold 14 = .ok (.bipush 6, 2) := by decide +kernel
theorem dX5_hold_16 : decode cX5_hold 16 = .ok (.if_icmp .le 4, 3) := by decide +kernel
theorem dX5_hold_19 : decode cX5_hold 19 = .ok (.return_, 1) := by decide +kernel
theorem dX5_hold_20 : decode cX5_hold 20 = .ok (.aload_n 0, 1) := by decide +kernel
theorem dX5_hold_21 : decode cX5_hold 21 = .ok (.iload_n 1, 1) := by decide +kernel
theorem dX5_hold_22 : decode cX5_hold 22 = .ok (.putfield 9, 3) := by decide +kernel
theorem dX5_hold_25 : decode cX5_hold 25 = .ok (.aload_n 0, 1) := by decide +kernel
theorem dX5_hold_26 : decode cX5_hold 26 = .ok (.getstatic 39, 3) := by decide +kernel
theorem dX5_hold_29 : decode cX5_hold 29 = .ok (.iload_n 1, 1) := by decide +kernel
theorem dX5_hold_30 : decode cX5_hold 30 = .ok (.iaload, 1) := by decide +kernel
theorem dX5_hold_31 : decode cX5_hold 31 = .ok (.putfield 15, 3) := by decide +kernel
theorem dX5_hold_34 : decode cX5_hold 34 = .ok (.aload_n 0, 1) := by decide +kernel
theorem dX5_hold_35 : decode cX5_hold 35 = .ok (.iload_n 1, 1) := by decide +kernel
theorem dX5_hold_36 : decode cX5_hold 36 = .ok (.iload_n 1, 1) := by decide +kernel
theorem dX5_hold_37 : decode cX5_hold 37 = .ok (.iconst 1, 1) := by decide +kernel
theorem dX5_hold_38 : decode cX5_hold 38 = .ok (.isub, 1) := by decide +kernel
theorem dX5_hold_39 : decode cX5_hold 39 = .ok (.imul, 1) := by decide +kernel
theorem dX5_hold_40 : decode cX5_hold 40 = .ok (.iconst 2, 1) := by decide +kernel
theorem dX5_hold_41 : decode cX5_hold 41 = .ok (.idiv, 1) := by decide +kernel
theorem dX5_hold_42 : decode cX5_hold 42 = .ok (.putfield 18, 3) := by decide +kernel
theorem dX5_hold_45 : decode cX5_hold 45 = .ok (.aload_n 0, 1) := by decide +kernel
theorem dX5_hold_46 : decode cX5_hold 46 = .ok (.iconst 0, 1) := by decide +kernel
theorem dX5_hold_47 : decode cX5_hold 47 = .ok (.putfield 21, 3) := by decide +kernel
theorem dX5_hold_50 : decode cX5_hold 50 = .ok (.aload_n 0, 1) := by decide +kernel
theorem dX5_hold_51 : decode cX5_hold 51 = .ok (.getfield 25, 3) := by decide +kernel
theorem dX5_hold_54 : decode cX5_hold 54 = .ok (.arraylength, 1) := by decide +kernel
theorem dX5_hold_55 : decode cX5_hold 55 = .ok (.aload_n 0, 1) := by decide +kernel
theorem dX5_hold_56 : decode cX5_hold 56 = .ok (.getfield 15, 3) := by decide +kernel
theorem dX5_hold_59 : decode cX5_hold 59 = .ok (.iload_n 1, 1) := by decide +kernel
theorem dX5_hold_60 : decode cX5_hold 60 = .ok (.imul, 1) := by decide +kernel
theorem dX5_hold_61 : decode cX5_hold 61 = .ok (.if_icmp .ge 15, 3) := by decide +kernel
theorem dX5_hold_64 : decode cX5_hold 64 = .ok (.aload_n 0, 1) := by decide +kernel
theorem dX5_hold_65 : decode cX5_hold 65 = .ok (.aload_n 0, 1) := by decide +kernel
theorem dX5_hold_66 : decode cX5_hold 66 = .ok (.getfield 15, 3) := by decide +kernel
theorem dX5_hold_69 : decode cX5_hold 69 = .ok (.iload_n 1, 1) := by decide +kernel
theorem dX5_hold_70 : decode cX5_hold 70 = .ok (.imul, 1) := by decide +kernel
theorem dX5_hold_71 : decode cX5_hold 71 = .ok (.newarray .byte, 2) := by decide +kernel
theorem dX5_hold_73 : decode cX5_hold 73 = .ok (.putfield 25, 3) := by decide +kernel
theorem dX5_hold_76 : decode cX5_hold 76 = .ok (.iconst 0, 1) := by decide +kernel
theorem dX5_hold_77 : decode cX5_hold 77 = .ok (.istore_n 2, 1) := by decide +kernel
theorem dX5_hold_78 : decode cX5_hold 78 = .ok (.iload_n 2, 1) := by decide +kernel
theorem dX5_hold_79 : decode cX5_hold 79 = .ok (.aload_n 0, 1) := by decide +kernel
theorem dX5_hold_80 : decode cX5_hold 80 = .ok (.getfield 15, 3) := by decide +kernel
theorem dX5_hold_83 : decode cX5_hold 83 = .ok (.if_icmp .ge 14, 3) := by decide +kernel
theorem dX5_hold_86 : decode cX5_hold 86 = .ok (.aload_n 0, 1) := by decide +kernel
theorem dX5_hold_87 : decode cX5_hold 87 = .ok (.iload_n 2, 1) := by decide +kernel
theorem dX5_hold_88 : decode cX5_hold 88 = .ok (.invokevirtual 42, 3) := by decide +kernel
theorem dX5_hold_91 : decode cX5_hold 91 = .ok (.iinc 2 1, 3) := by decide +kernel
theorem dX5_hold_94 : decode cX5_hold 94 = .ok (.goto (-16), 3) := by decide +kernel
theorem dX5_hold_97 : decode cX5_hold 97 = .ok (.return_, 1) := by decide +kernel
theorem dX5_fillRow_0 : decode cX5_fillRow 0 = .ok (.iload_n 1, 1) := by decide +kernel
theorem dX5_fillRow_1 : decode cX5_fillRow 1 = .ok (.istore_n 2, 1) := by decide +kernel
theorem dX5_fillRow_2 : decode cX5_fillRow 2 = .ok (.iconst 0, 1) := by decide +kernel
theorem dX5_fillRow_3 : decode cX5_fillRow 3 = .ok (.istore_n 3, 1) := by decide +kernel
theorem dX5_fillRow_4 : decode cX5_fillRow 4 = .ok (.iconst 0, 1) := by decide +kernel
theorem dX5_fillRow_5 : decode cX5_fillRow 5 = .ok (.istore 4, 2) := by decide +kernel
theorem dX5_fillRow_7 : decode cX5_fillRow 7 = .ok (.iload 4, 2) := by decide +kernel
theorem dX5_fillRow_9 : decode cX5_fillRow 9 = .ok (.aload_n 0, 1) := by decide +kernel
theorem dX5_fillRow_10 : decode cX5_fillRow 10 = .ok (.getfield 9, 3) := by decide +kernel
theorem dX5_fillRow_13 : decode cX5_fillRow 13 = .ok (.if_icmp .ge 64, 3) := by decide +kernel
theorem dX5_fillRow_16 : decode cX5_fillRow 16 = .ok (.getstatic 39, 3) := by decide +kernel
theorem dX5_fillRow_19 : decode cX5_fillRow 19 = .ok (.aload_n 0, 1) := by decide +kernel
theorem dX5_fillRow_20 : decode cX5_fillRow 20 = .ok (.getfield 9, 3) := by decide +kernel
theorem dX5_fillRow_23 : decode cX5_fillRow 23 = .ok (.iconst 1, 1) := by decide +kernel
theorem dX5_fillRow_24 : decode cX5_fillRow 24 = .ok (.isub, 1) := by decide +kernel
theorem dX5_fillRow_25 : decode cX5_fillRow 25 = .ok (.iload 4, 2) := by decide +kernel
theorem dX5_fillRow_27 : decode cX5_fillRow 27 = .ok (.isub, 1) := by decide +kernel
theorem dX5_fillRow_28 : decode cX5_fillRow 28 = .ok (.iaload, 1) := by decide +kernel
theorem dX5_fillRow_29 : decode cX5_fillRow 29 = .ok (.istore 5, 2) := by decide +kernel
theorem dX5_fillRow_31 : decode cX5_fillRow 31 = .ok (.aload_n 0, 1) := by decide +kernel
theorem dX5_fillRow_32 : decode cX5_fillRow 32 = .ok (.iload_n 3, 1) := by decide +kernel
theorem dX5_fillRow_33 : decode cX5_fillRow 33 = .ok (.iload_n 2, 1) := by decide +kernel
theorem dX5_fillRow_34 : decode cX5_fillRow 34 = .ok (.iload 5, 2) := by decide +kernel
theorem dX5_fillRow_36 : decode cX5_fillRow 36 = .ok (.idiv, 1) := by decide +kernel
theorem dX5_fillRow_37 : decode cX5_fillRow 37 = .ok (.invokevirtual 46, 3) := by decide +kernel
theorem dX5_fillRow_40 : decode cX5_fillRow 40 = .ok (.istore 6, 2) := by decide +kernel
theorem dX5_fillRow_42 : decode cX5_fillRow 42 = .ok (.iload_n 2, 1) := by decide +kernel
theorem dX5_fillRow_43 : decode cX5_fillRow 43 = .ok (.iload 5, 2) := by decide +kernel
theorem dX5_fillRow_45 : decode cX5_fillRow 45 = .ok (.irem, 1) := by decide +kernel
theorem dX5_fillRow_46 : decode cX5_fillRow 46 = .ok (.istore_n 2, 1) := by decide +kernel
theorem dX5_fillRow_47 : decode cX5_fillRow 47 = .ok (.iload_n 3, 1) := by decide +kernel
theorem dX5_fillRow_48 : decode cX5_fillRow 48 = .ok (.iconst 1, 1) := by decide +kernel
theorem dX5_fillRow_49 : decode cX5_fillRow 49 = .ok (.iload 6, 2) := by decide +kernel
theorem dX5_fillRow_51 : decode cX5_fillRow 51 = .ok (.ishl, 1) := by decide +kernel
theorem dX5_fillRow_52 : decode cX5_fillRow 52 = .ok (.ior, 1) := by decide +kernel
theorem dX5_fillRow_53 : decode cX5_fillRow 53 = .ok (.istore_n 3, 1) := by decide +kernel
theorem dX5_fillRow_54 : decode cX5_fillRow 54 = .ok (.aload_n 0, 1) := by decide +kernel
theorem dX5_fillRow_55 : decode cX5_fillRow 55 = .ok (.getfield 25, 3) := by decide +kernel
theorem dX5_fillRow_58 : decode cX5_fillRow 58 = .ok (.iload_n 1, 1) := by decide +kernel
theorem dX5_fillRow_59 : decode cX5_fillRow 59 = .ok (.aload_n 0, 1) := by decide +kernel
theorem dX5_fillRow_60 : decode cX5_fillRow 60 = .ok (.getfield 9, 3) := by decide +kernel
theorem dX5_fillRow_63 : decode cX5_fillRow 63 = .ok (.imul, 1) := by decide +kernel
theorem dX5_fillRow_64 : decode cX5_fillRow 64 = .ok (.iload 4, 2) := by decide +kernel
theorem dX5_fillRow_66 : decode cX5_fillRow 66 = .ok (.iadd, 1) := by decide +kernel
theorem dX5_fillRow_67 : decode cX5_fillRow 67 = .ok (.iload 6, 2) := by decide +kernel
theorem dX5_fillRow_69 : decode cX5_fillRow 69 = .ok (.i2b, 1) := by decide +kernel
theorem dX5_fillRow_70 : decode cX5_fillRow 70 = .ok (.bastore, 1) := by decide +kernel
theorem dX5_fillRow_71 : decode cX5_fillRow 71 = .ok (.iinc 4 1, 3) := by decide +kernel
theorem dX5_fillRow_74 : decode cX5_fillRow 74 = .ok (.goto (-67), 3) := by decide +kernel
theorem dX5_fillRow_77 : decode cX5_fillRow 77 = .ok (.return_, 1) := by decide +kernel
theorem dX5_unusedName_0 : decode cX5_unusedName 0 = .ok (.iload_n 2, 1) := by decide +kernel
theorem dX5_unusedName_1 : decode cX5_unusedName 1 = .ok (.istore_n 3, 1) := by decide +kernel
theorem dX5_unusedName_2 : decode cX5_unusedName 2 = .ok (.iconst 0, 1) := by decide +kernel
theorem dX5_unusedName_3 : decode cX5_unusedName 3 = .ok (.istore 4, 2) := by decide +kernel
theorem dX5_unusedName_5 : decode cX5_unusedName 5 = .ok (.iload 4, 2) := by decide +kernel
theorem dX5_unusedName_7 : decode cX5_unusedName 7 = .ok (.aload_n 0, 1) := by decide +kernel
theorem dX5_unusedName_8 : decode cX5_unusedName 8 = .ok (.getfield 9, 3) := by decide +kernel
theorem dX5_unusedName_11 : decode cX5_unusedName 11 = .ok (.if_icmp .ge 28, 3) := by decide +kernel
theorem dX5_unusedName_14 : decode cX5_unusedName 14 = .ok (.iload_n 1, 1) := by decide +kernel
theorem dX5_unusedName_15 : decode cX5_unusedName 15 = .ok (.iload 4, 2) := by decide +kernel
theorem dX5_unusedName_17 : decode cX5_unusedName 17 = .ok (.ishr, 1) := by decide +kernel
theorem dX5_unusedName_18 : decode cX5_unusedName 18 = .ok (.iconst 1, 1) := by decide +kernel
theorem dX5_unusedName_19 : decode cX5_unusedName 19 = .ok (.iand, 1) := by decide +kernel
theorem dX5_unusedName_20 : decode cX5_unusedName 20 = .ok (.ifCond .ne 13, 3) := by decide +kernel
theorem dX5_unusedName_23 : decode cX5_unusedName 23 = .ok (.iload_n 3, 1) := by decide +kernel
theorem dX5_unusedName_24 : decode cX5_unusedName 24 = .ok (.ifCond .ne 6, 3) := by decide +kernel
theorem dX5_unusedName_27 : decode cX5_unusedName 27 = .ok (.iload 4, 2) := by decide +kernel
theorem dX5_unusedName_29 : decode cX5_unusedName 29 = .ok (.ireturn, 1) := by decide +kernel
theorem dX5_unusedName_30 : decode cX5_unusedName 30 = .ok (.iinc 3 (-1), 3) := by decide +kernel
theorem dX5_unusedName_33 : decode cX5_unusedName 33 = .ok (.iinc 4 1, 3) := by decide +kernel
theorem dX5_unusedName_36 : decode cX5_unusedName 36 = .ok (.goto (-31), 3) := by decide +kernel
theorem dX5_unusedName_39 : decode cX5_unusedName 39 = .ok (.iconst 0, 1) := by decide +kernel
theorem dX5_unusedName_40 : decode cX5_unusedName 40 = .ok (.ireturn, 1) := by decide +kernel
theorem dX5_nameIn_0 : decode cX5_nameIn 0 = .ok (.iload_n 1, 1) := by decide +kernel
theorem dX5_nameIn_1 : decode cX5_nameIn 1 = .ok (.aload_n 0, 1) := by decide +kernel
theorem dX5_nameIn_2 : decode cX5_nameIn 2 = .ok (.getfield 9, 3) := by decide +kernel
theorem dX5_nameIn_5 : decode cX5_nameIn 5 = .ok (.imul, 1) := by decide +kernel
theorem dX5_nameIn_6 : decode cX5_nameIn 6 = .ok (.iload_n 2, 1) := by decide +kernel
theorem dX5_nameIn_7 : decode cX5_nameIn 7 = .ok (.iadd, 1) := by decide +kernel
theorem dX5_nameIn_8 : decode cX5_nameIn 8 = .ok (.istore_n 3, 1) := by decide +kernel
theorem dX5_nameIn_9 : decode cX5_nameIn 9 = .ok (.iload_n 3, 1) := by decide +kernel
theorem dX5_nameIn_10 : decode cX5_nameIn 10 = .ok (.ifCond .lt 21, 3) := by decide +kernel
theorem dX5_nameIn_13 : decode cX5_nameIn 13 = .ok (.iload_n 3, 1) := by decide +kernel
theorem dX5_nameIn_14 : decode cX5_nameIn 14 = .ok (.aload_n 0, 1) := by decide +kernel
theorem dX5_nameIn_15 : decode cX5_nameIn 15 = .ok (.getfield 25, 3) := by decide +kernel
theorem dX5_nameIn_18 : decode cX5_nameIn 18 = .ok (.arraylength, 1) := by decide +kernel
theorem dX5_nameIn_19 : decode cX5_nameIn 19 = .ok (.if_icmp .ge 12, 3) := by decide +kernel
theorem dX5_nameIn_22 : decode cX5_nameIn 22 = .ok (.aload_n 0, 1) := by decide +kernel
theorem dX5_nameIn_23 : decode cX5_nameIn 23 = .ok (.getfield 25, 3) := by decide +kernel
theorem dX5_nameIn_26 : decode cX5_nameIn 26 = .ok (.iload_n 3, 1) := by decide +kernel
theorem dX5_nameIn_27 : decode cX5_nameIn 27 = .ok (.baload, 1) := by decide +kernel
theorem dX5_nameIn_28 : decode cX5_nameIn 28 = .ok (.goto 4, 3) := by decide +kernel
theorem dX5_nameIn_31 : decode cX5_nameIn 31 = .ok (.iconst 0, 1) := by decide +kernel
theorem dX5_nameIn_32 : decode cX5_nameIn 32 = .ok (.ireturn, 1) := by decide +kernel
theorem dX5_numberOf_0 : decode cX5_numberOf 0 = .ok (.iconst 0, 1) := by decide +kernel
theorem dX5_numberOf_1 : decode cX5_numberOf 1 = .ok (.istore_n 2, 1) := by decide +kernel
theorem dX5_numberOf_2 : decode cX5_numberOf 2 = .ok (.iconst 0, 1) := by decide +kernel
theorem dX5_numberOf_3 : decode cX5_numberOf 3 = .ok (.istore_n 3, 1) := by decide +kernel
theorem dX5_numberOf_4 : decode cX5_numberOf 4 = .ok (.iload_n 3, 1) := by decide +kernel
theorem dX5_numberOf_5 : decode cX5_numberOf 5 = .ok (.iload_n 1, 1) := by decide +kernel
theorem dX5_numberOf_6 : decode cX5_numberOf 6 = .ok (.if_icmp .ge 64, 3) := by decide +kernel
theorem dX5_numberOf_9 : decode cX5_numberOf 9 = .ok (.iload_n 3, 1) := by decide +kernel
theorem dX5_numberOf_10 : decode cX5_numberOf 10 = .ok (.aload_n 0, 1) := by decide +kernel
theorem dX5_numberOf_11 : decode cX5_numberOf 11 = .ok (.arraylength, 1) := by decide +kernel
theorem dX5_numberOf_12 : decode cX5_numberOf 12 = .ok (.if_icmp .ge 58, 3) := by decide +kernel
theorem dX5_numberOf_15 : decode cX5_numberOf 15 = .ok (.iconst 0, 1) := by decide +kernel
theorem dX5_numberOf_16 : decode cX5_numberOf 16 = .ok (.istore 4, 2) := by decide +kernel
theorem dX5_numberOf_18 : decode cX5_numberOf 18 = .ok (.iload_n 3, 1) := by decide +kernel
theorem dX5_numberOf_19 : decode cX5_numberOf 19 = .ok (.iconst 1, 1) := by decide +kernel
theorem dX5_numberOf_20 : decode cX5_numberOf 20 = .ok (.iadd, 1) := by decide +kernel
theorem dX5_numberOf_21 : decode cX5_numberOf 21 = .ok (.istore 5, 2) := by decide +kernel
theorem dX5_numberOf_23 : decode cX5_numberOf 23 = .ok (.iload 5, 2) := by decide +kernel
theorem dX5_numberOf_25 : decode cX5_numberOf 25 = .ok (.iload_n 1, 1) := by decide +kernel
theorem dX5_numberOf_26 : decode cX5_numberOf 26 = .ok (.if_icmp .ge 29, 3) := by decide +kernel
theorem dX5_numberOf_29 : decode cX5_numberOf 29 = .ok (.iload 5, 2) := by decide +kernel
theorem dX5_numberOf_31 : decode cX5_numberOf 31 = .ok (.aload_n 0, 1) := by decide +kernel
theorem dX5_numberOf_32 : decode cX5_numberOf 32 = .ok (.arraylength, 1) := by decide +kernel
theorem dX5_numberOf_33 : decode cX5_numberOf 33 = .ok (.if_icmp .ge 22, 3) := by decide +kernel
theorem dX5_numberOf_36 : decode cX5_numberOf 36 = .ok (.aload_n 0, 1) := by decide +kernel
theorem dX5_numberOf_37 : decode cX5_numberOf 37 = .ok (.iload 5, 2) := by decide +kernel
theorem dX5_numberOf_39 : decode cX5_numberOf 39 = .ok (.iaload, 1) := by decide +kernel
theorem dX5_numberOf_40 : decode cX5_numberOf 40 = .ok (.aload_n 0, 1) := by decide +kernel
theorem dX5_numberOf_41 : decode cX5_numberOf 41 = .ok (.iload_n 3, 1) := by decide +kernel
theorem dX5_numberOf_42 : decode cX5_numberOf 42 = .ok (.iaload, 1) := by decide +kernel
theorem dX5_numberOf_43 : decode cX5_numberOf 43 = .ok (.if_icmp .ge 6, 3) := by decide +kernel
theorem dX5_numberOf_46 : decode cX5_numberOf 46 = .ok (.iinc 4 1, 3) := by decide +kernel
theorem dX5_numberOf_49 : decode cX5_numberOf 49 = .ok (.iinc 5 1, 3) := by decide +kernel
theorem dX5_numberOf_52 : decode cX5_numberOf 52 = .ok (.goto (-29), 3) := by decide +kernel
theorem dX5_numberOf_55 : decode cX5_numberOf 55 = .ok (.iload_n 2, 1) := by decide +kernel
theorem dX5_numberOf_56 : decode cX5_numberOf 56 = .ok (.iload_n 1, 1) := by decide +kernel
theorem dX5_numberOf_57 : decode cX5_numberOf 57 = .ok (.iload_n 3, 1) := by decide +kernel
theorem dX5_numberOf_58 : decode cX5_numberOf 58 = .ok (.isub, 1) := by decide +kernel
theorem dX5_numberOf_59 : decode cX5_numberOf 59 = .ok (.imul, 1) := by decide +kernel
theorem dX5_numberOf_60 : decode cX5_numberOf 60 = .ok (.iload 4, 2) := by decide +kernel
theorem dX5_numberOf_62 : decode cX5_numberOf 62 = .ok (.iadd, 1) := by decide +kernel
theorem dX5_numberOf_63 : decode cX5_numberOf 63 = .ok (.istore_n 2, 1) := by decide +kernel
theorem dX5_numberOf_64 : decode cX5_numberOf 64 = .ok (.iinc 3 1, 3) := by decide +kernel
theorem dX5_numberOf_67 : decode cX5_numberOf 67 = .ok (.goto (-63), 3) := by decide +kernel
theorem dX5_numberOf_70 : decode cX5_numberOf 70 = .ok (.iload_n 2, 1) := by decide +kernel
theorem dX5_numberOf_71 : decode cX5_numberOf 71 = .ok (.ireturn, 1) := by decide +kernel
theorem dX5_swappedRow_0 : decode cX5_swappedRow 0 = .ok (.iconst 0, 1) := by decide +kernel
theorem dX5_swappedRow_1 : decode cX5_swappedRow 1 = .ok (.istore 4, 2) := by decide +kernel
theorem dX5_swappedRow_3 : decode cX5_swappedRow 3 = .ok (.iload 4, 2) := by decide +kernel
theorem dX5_swappedRow_5 : decode cX5_swappedRow 5 = .ok (.aload_n 0, 1) := by decide +kernel
theorem dX5_swappedRow_6 : decode cX5_swappedRow 6 = .ok (.getfield 9, 3) := by decide +kernel
theorem dX5_swappedRow_9 : decode cX5_swappedRow 9 = .ok (.if_icmp .ge 43, 3) := by decide +kernel
theorem dX5_swappedRow_12 : decode cX5_swappedRow 12 = .ok (.aload_n 0, 1) := by decide +kernel
theorem dX5_swappedRow_13 : decode cX5_swappedRow 13 = .ok (.getfield 36, 3) := by decide +kernel
theorem dX5_swappedRow_16 : decode cX5_swappedRow 16 = .ok (.iload 4, 2) := by decide +kernel
theorem dX5_swappedRow_18 : decode cX5_swappedRow 18 = .ok (.aload_n 0, 1) := by decide +kernel
theorem dX5_swappedRow_19 : decode cX5_swappedRow 19 = .ok (.iload_n 1, 1) := by decide +kernel
theorem dX5_swappedRow_20 : decode cX5_swappedRow 20 = .ok (.iload 4, 2) := by decide +kernel
theorem dX5_swappedRow_22 : decode cX5_swappedRow 22 = .ok (.iload_n 2, 1) := by decide +kernel
theorem dX5_swappedRow_23 : decode cX5_swappedRow 23 = .ok (.if_icmp .ne 7, 3) := by decide +kernel
theorem dX5_swappedRow_26 : decode cX5_swappedRow 26 = .ok (.iload_n 3, 1) := by decide +kernel
theorem dX5_swappedRow_27 : decode cX5_swappedRow 27 = .ok (.goto 15, 3) := by decide +kernel
theorem dX5_swappedRow_30 : decode cX5_swappedRow 30 = .ok (.iload 4, 2) := by decide +kernel
theorem dX5_swappedRow_32 : decode cX5_swappedRow 32 = .ok (.iload_n 3, 1) := by decide +kernel
theorem dX5_swappedRow_33 : decode cX5_swappedRow 33 = .ok (.if_icmp .ne 7, 3) := by decide +kernel
theorem dX5_swappedRow_36 : decode cX5_swappedRow 36 = .ok (.iload_n 2, 1) := by decide +kernel
theorem dX5_swappedRow_37 : decode cX5_swappedRow 37 = .ok (.goto 5, 3) := by decide +kernel
theorem dX5_swappedRow_40 : decode cX5_swappedRow 40 = .ok (.iload 4, 2) := by decide +kernel
theorem dX5_swappedRow_42 : decode cX5_swappedRow 42 = .ok (.invokevirtual 50, 3) := by decide +kernel
theorem dX5_swappedRow_45 : decode cX5_swappedRow 45 = .ok (.iastore, 1) := by decide +kernel
theorem dX5_swappedRow_46 : decode cX5_swappedRow 46 = .ok (.iinc 4 1, 3) := by decide +kernel
theorem dX5_swappedRow_49 : decode cX5_swappedRow 49 = .ok (.goto (-46), 3) := by decide +kernel
theorem dX5_swappedRow_52 : decode cX5_swappedRow 52 = .ok (.aload_n 0, 1) := by decide +kernel
theorem dX5_swappedRow_53 : decode cX5_swappedRow 53 = .ok (.getfield 36, 3) := by decide +kernel
theorem dX5_swappedRow_56 : decode cX5_swappedRow 56 = .ok (.aload_n 0, 1) := by decide +kernel
theorem dX5_swappedRow_57 : decode cX5_swappedRow 57 = .ok (.getfield 9, 3) := by decide +kernel
theorem dX5_swappedRow_60 : decode cX5_swappedRow 60 = .ok (.invokestatic 53, 3) := by decide +kernel
theorem dX5_swappedRow_63 : decode cX5_swappedRow 63 = .ok (.ireturn, 1) := by decide +kernel
theorem dX5_movedRow_0 : decode cX5_movedRow 0 = .ok (.iconst 0, 1) := by decide +kernel
theorem dX5_movedRow_1 : decode cX5_movedRow 1 = .ok (.istore_n 3, 1) := by decide +kernel
theorem dX5_movedRow_2 : decode cX5_movedRow 2 = .ok (.iload_n 3, 1) := by decide +kernel
theorem dX5_movedRow_3 : decode cX5_movedRow 3 = .ok (.aload_n 0, 1) := by decide +kernel
theorem dX5_movedRow_4 : decode cX5_movedRow 4 = .ok (.getfield 9, 3) := by decide +kernel
theorem dX5_movedRow_7 : decode cX5_movedRow 7 = .ok (.if_icmp .ge 45, 3) := by decide +kernel
theorem dX5_movedRow_10 : decode cX5_movedRow 10 = .ok (.aload_n 0, 1) := by decide +kernel
theorem dX5_movedRow_11 : decode cX5_movedRow 11 = .ok (.iload_n 2, 1) := by decide +kernel
theorem dX5_movedRow_12 : decode cX5_movedRow 12 = .ok (.iload_n 3, 1) := by decide +kernel
theorem dX5_movedRow_13 : decode cX5_movedRow 13 = .ok (.invokevirtual 50, 3) := by decide +kernel
theorem dX5_movedRow_16 : decode cX5_movedRow 16 = .ok (.istore 4, 2) := by decide +kernel
theorem dX5_movedRow_18 : decode cX5_movedRow 18 = .ok (.iload 4, 2) := by decide +kernel
theorem dX5_movedRow_20 : decode cX5_movedRow 20 = .ok (.ifCond .lt 26, 3) := by decide +kernel
theorem dX5_movedRow_23 : decode cX5_movedRow 23 = .ok (.iload 4, 2) := by decide +kernel
theorem dX5_movedRow_25 : decode cX5_movedRow 25 = .ok (.aload_n 0, 1) := by decide +kernel
theorem dX5_movedRow_26 : decode cX5_movedRow 26 = .ok (.getfield 36, 3) := by decide +kernel
theorem dX5_movedRow_29 : decode cX5_movedRow 29 = .ok (.arraylength, 1) := by decide +kernel
theorem dX5_movedRow_30 : decode cX5_movedRow 30 = .ok (.if_icmp .ge 16, 3) := by decide +kernel
theorem dX5_movedRow_33 : decode cX5_movedRow 33 = .ok (.aload_n 0, 1) := by decide +kernel
theorem dX5_movedRow_34 : decode cX5_movedRow 34 = .ok (.getfield 36, 3) := by decide +kernel
theorem dX5_movedRow_37 : decode cX5_movedRow 37 = .ok (.iload 4, 2) := by decide +kernel
theorem dX5_movedRow_39 : decode cX5_movedRow 39 = .ok (.aload_n 0, 1) := by decide +kernel
theorem dX5_movedRow_40 : decode cX5_movedRow 40 = .ok (.iload_n 1, 1) := by decide +kernel
theorem dX5_movedRow_41 : decode cX5_movedRow 41 = .ok (.iload_n 3, 1) := by decide +kernel
theorem dX5_movedRow_42 : decode cX5_movedRow 42 = .ok (.invokevirtual 50, 3) := by decide +kernel
theorem dX5_movedRow_45 : decode cX5_movedRow 45 = .ok (.iastore, 1) := by decide +kernel
theorem dX5_movedRow_46 : decode cX5_movedRow 46 = .ok (.iinc 3 1, 3) := by decide +kernel
theorem dX5_movedRow_49 : decode cX5_movedRow 49 = .ok (.goto (-47), 3) := by decide +kernel
theorem dX5_movedRow_52 : decode cX5_movedRow 52 = .ok (.aload_n 0, 1) := by decide +kernel
theorem dX5_movedRow_53 : decode cX5_movedRow 53 = .ok (.getfield 36, 3) := by decide +kernel
theorem dX5_movedRow_56 : decode cX5_movedRow 56 = .ok (.aload_n 0, 1) := by decide +kernel
theorem dX5_movedRow_57 : decode cX5_movedRow 57 = .ok (.getfield 9, 3) := by decide +kernel
theorem dX5_movedRow_60 : decode cX5_movedRow 60 = .ok (.invokestatic 53, 3) := by decide +kernel
theorem dX5_movedRow_63 : decode cX5_movedRow 63 = .ok (.ireturn, 1) := by decide +kernel
theorem dX5_powerOf_0 : decode cX5_powerOf 0 = .ok (.iconst 0, 1) := by decide +kernel
theorem dX5_powerOf_1 : decode cX5_powerOf 1 = .ok (.istore 4, 2) := by decide +kernel
theorem dX5_powerOf_3 : decode cX5_powerOf 3 = .ok (.iload 4, 2) := by decide +kernel
theorem dX5_powerOf_5 : decode cX5_powerOf 5 = .ok (.aload_n 0, 1) := by decide +kernel
theorem dX5_powerOf_6 : decode cX5_powerOf 6 = .ok (.getfield 9, 3) := by decide +kernel
theorem dX5_powerOf_9 : decode cX5_powerOf 9 = .ok (.if_icmp .ge 45, 3) := by decide +kernel
theorem dX5_powerOf_12 : decode cX5_powerOf 12 = .ok (.iconst 1, 1) := by decide +kernel
theorem dX5_powerOf_13 : decode cX5_powerOf 13 = .ok (.aload_n 0, 1) := by decide +kernel
theorem dX5_powerOf_14 : decode cX5_powerOf 14 = .ok (.iload_n 1, 1) := by decide +kernel
theorem dX5_powerOf_15 : decode cX5_powerOf 15 = .ok (.iload 4, 2) := by decide +kernel
theorem dX5_powerOf_17 : decode cX5_powerOf 17 = .ok (.invokevirtual 57, 3) := by decide +kernel
theorem dX5_powerOf_20 : decode cX5_powerOf 20 = .ok (.invokestatic 60, 3) := by decide +kernel
theorem dX5_powerOf_23 : decode cX5_powerOf 23 = .ok (.invokestatic 66, 3) := by decide +kernel
theorem dX5_powerOf_26 : decode cX5_powerOf 26 = .ok (.istore 5, 2) := by decide +kernel
theorem dX5_powerOf_28 : decode cX5_powerOf 28 = .ok (.aload_n 0, 1) := by decide +kernel
theorem dX5_powerOf_29 : decode cX5_powerOf 29 = .ok (.getfield 36, 3) := by decide +kernel
theorem dX5_powerOf_32 : decode cX5_powerOf 32 = .ok (.iload 4, 2) := by decide +kernel
theorem dX5_powerOf_34 : decode cX5_powerOf 34 = .ok (.aload_n 0, 1) := by decide +kernel
theorem dX5_powerOf_35 : decode cX5_powerOf 35 = .ok (.iload_n 1, 1) := by decide +kernel
theorem dX5_powerOf_36 : decode cX5_powerOf 36 = .ok (.iload 4, 2) := by decide +kernel
theorem dX5_powerOf_38 : decode cX5_powerOf 38 = .ok (.lload_n 2, 1) := by decide +kernel
theorem dX5_powerOf_39 : decode cX5_powerOf 39 = .ok (.iload 5, 2) := by decide +kernel
theorem dX5_powerOf_41 : decode cX5_powerOf 41 = .ok (.i2l, 1) := by decide +kernel
theorem dX5_powerOf_42 : decode cX5_powerOf 42 = .ok (.lrem, 1) := by decide +kernel
theorem dX5_powerOf_43 : decode cX5_powerOf 43 = .ok (.l2i, 1) := by decide +kernel
theorem dX5_powerOf_44 : decode cX5_powerOf 44 = .ok (.invokevirtual 71, 3) := by decide +kernel
theorem dX5_powerOf_47 : decode cX5_powerOf 47 = .ok (.iastore, 1) := by decide +kernel
theorem dX5_powerOf_48 : decode cX5_powerOf 48 = .ok (.iinc 4 1, 3) := by decide +kernel
theorem dX5_powerOf_51 : decode cX5_powerOf 51 = .ok (.goto (-48), 3) := by decide +kernel
theorem dX5_powerOf_54 : decode cX5_powerOf 54 = .ok (.aload_n 0, 1) := by decide +kernel
theorem dX5_powerOf_55 : decode cX5_powerOf 55 = .ok (.getfield 36, 3) := by decide +kernel
theorem dX5_powerOf_58 : decode cX5_powerOf 58 = .ok (.aload_n 0, 1) := by decide +kernel
theorem dX5_powerOf_59 : decode cX5_powerOf 59 = .ok (.getfield 9, 3) := by decide +kernel
theorem dX5_powerOf_62 : decode cX5_powerOf 62 = .ok (.invokestatic 53, 3) := by decide +kernel
theorem dX5_powerOf_65 : decode cX5_powerOf 65 = .ok (.ireturn, 1) := by decide +kernel
theorem dX5_nameBehind_0 : decode cX5_nameBehind 0 = .ok (.iload_n 2, 1) := by decide +kernel
theorem dX5_nameBehind_1 : decode cX5_nameBehind 1 = .ok (.istore 4, 2) := by decide +kernel
theorem dX5_nameBehind_3 : decode cX5_nameBehind 3 = .ok (.iconst 0, 1) := by decide +kernel
theorem dX5_nameBehind_4 : decode cX5_nameBehind 4 = .ok (.istore 5, 2) := by decide +kernel
theorem dX5_nameBehind_6 : decode cX5_nameBehind 6 = .ok (.iload 5, 2) := by decide +kernel
theorem dX5_nameBehind_8 : decode cX5_nameBehind 8 = .ok (.iload_n 3, 1) := by decide +kernel
theorem dX5_nameBehind_9 : decode cX5_nameBehind 9 = .ok (.if_icmp .ge 18, 3) := by decide +kernel
theorem dX5_nameBehind_12 : decode cX5_nameBehind 12 = .ok (.aload_n 0, 1) := by decide +kernel
theorem dX5_nameBehind_13 : decode cX5_nameBehind 13 = .ok (.iload_n 1, 1) := by decide +kernel
theorem dX5_nameBehind_14 : decode cX5_nameBehind 14 = .ok (.iload 4, 2) := by decide +kernel
theorem dX5_nameBehind_16 : decode cX5_nameBehind 16 = .ok (.invokevirtual 50, 3) := by decide +kernel
theorem dX5_nameBehind_19 : decode cX5_nameBehind 19 = .ok (.istore 4, 2) := by decide +kernel
theorem dX5_nameBehind_21 : decode cX5_nameBehind 21 = .ok (.iinc 5 1, 3) := by decide +kernel
theorem dX5_nameBehind_24 : decode cX5_nameBehind 24 = .ok (.goto (-18), 3) := by decide +kernel
theorem dX5_nameBehind_27 : decode cX5_nameBehind 27 = .ok (.iload 4, 2) := by decide +kernel
theorem dX5_nameBehind_29 : decode cX5_nameBehind 29 = .ok (.ireturn, 1) := by decide +kernel
theorem dX5_isRoot_0 : decode cX5_isRoot 0 = .ok (.iconst 0, 1) := by decide +kernel
theorem dX5_isRoot_1 : decode cX5_isRoot 1 = .ok (.istore 4, 2) := by decide +kernel
theorem dX5_isRoot_3 : decode cX5_isRoot 3 = .ok (.iload 4, 2) := by decide +kernel
theorem dX5_isRoot_5 : decode cX5_isRoot 5 = .ok (.aload_n 0, 1) := by decide +kernel
theorem dX5_isRoot_6 : decode cX5_isRoot 6 = .ok (.getfield 9, 3) := by decide +kernel
theorem dX5_isRoot_9 : decode cX5_isRoot 9 = .ok (.if_icmp .ge 29, 3) := by decide +kernel
theorem dX5_isRoot_12 : decode cX5_isRoot 12 = .ok (.aload_n 0, 1) := by decide +kernel
theorem dX5_isRoot_13 : decode cX5_isRoot 13 = .ok (.iload_n 1, 1) := by decide +kernel
theorem dX5_isRoot_14 : decode cX5_isRoot 14 = .ok (.iload 4, 2) := by decide +kernel
theorem dX5_isRoot_16 : decode cX5_isRoot 16 = .ok (.iload_n 2, 1) := by decide +kernel
theorem dX5_isRoot_17 : decode cX5_isRoot 17 = .ok (.invokevirtual 71, 3) := by decide +kernel
theorem dX5_isRoot_20 : decode cX5_isRoot 20 = .ok (.aload_n 0, 1) := by decide +kernel
theorem dX5_isRoot_21 : decode cX5_isRoot 21 = .ok (.iload_n 3, 1) := by decide +kernel
theorem dX5_isRoot_22 : decode cX5_isRoot 22 = .ok (.iload 4, 2) := by decide +kernel
theorem dX5_isRoot_24 : decode cX5_isRoot 24 = .ok (.invokevirtual 50, 3) := by decide +kernel
theorem dX5_isRoot_27 : decode cX5_isRoot 27 = .ok (.if_icmp .eq 5, 3) := by decide +kernel
theorem dX5_isRoot_30 : decode cX5_isRoot 30 = .ok (.iconst 0, 1) := by decide +kernel
theorem dX5_isRoot_31 : decode cX5_isRoot 31 = .ok (.ireturn, 1) := by decide +kernel
theorem dX5_isRoot_32 : decode cX5_isRoot 32 = .ok (.iinc 4 1, 3) := by decide +kernel
theorem dX5_isRoot_35 : decode cX5_isRoot 35 = .ok (.goto (-32), 3) := by decide +kernel
theorem dX5_isRoot_38 : decode cX5_isRoot 38 = .ok (.iconst 1, 1) := by decide +kernel
theorem dX5_isRoot_39 : decode cX5_isRoot 39 = .ok (.ireturn, 1) := by decide +kernel
theorem dX5_roundBits_0 : decode cX5_roundBits 0 = .ok (.iconst 0, 1) := by decide +kernel
theorem dX5_roundBits_1 : decode cX5_roundBits 1 = .ok (.istore_n 3, 1) := by decide +kernel
theorem dX5_roundBits_2 : decode cX5_roundBits 2 = .ok (.iload_n 2, 1) := by decide +kernel
theorem dX5_roundBits_3 : decode cX5_roundBits 3 = .ok (.istore 4, 2) := by decide +kernel
theorem dX5_roundBits_5 : decode cX5_roundBits 5 = .ok (.iconst 0, 1) := by decide +kernel
theorem dX5_roundBits_6 : decode cX5_roundBits 6 = .ok (.istore 5, 2) := by decide +kernel
theorem dX5_roundBits_8 : decode cX5_roundBits 8 = .ok (.iload 5, 2) := by decide +kernel
theorem dX5_roundBits_10 : decode cX5_roundBits 10 = .ok (.aload_n 0, 1) := by decide +kernel
theorem dX5_roundBits_11 : decode cX5_roundBits 11 = .ok (.getfield 9, 3) := by decide +kernel
theorem dX5_roundBits_14 : decode cX5_roundBits 14 = .ok (.if_icmp .ge 25, 3) := by decide +kernel
theorem dX5_roundBits_17 : decode cX5_roundBits 17 = .ok (.iload_n 3, 1) := by decide +kernel
theorem dX5_roundBits_18 : decode cX5_roundBits 18 = .ok (.iconst 1, 1) := by decide +kernel
theorem dX5_roundBits_19 : decode cX5_roundBits 19 = .ok (.iload 4, 2) := by decide +kernel
theorem dX5_roundBits_21 : decode cX5_roundBits 21 = .ok (.ishl, 1) := by decide +kernel
theorem dX5_roundBits_22 : decode cX5_roundBits 22 = .ok (.ior, 1) := by decide +kernel
theorem dX5_roundBits_23 : decode cX5_roundBits 23 = .ok (.istore_n 3, 1) := by decide +kernel
theorem dX5_roundBits_24 : decode cX5_roundBits 24 = .ok (.aload_n 0, 1) := by decide +kernel
theorem dX5_roundBits_25 : decode cX5_roundBits 25 = .ok (.iload_n 1, 1) := by decide +kernel
theorem dX5_roundBits_26 : decode cX5_roundBits 26 = .ok (.iload 4, 2) := by decide +kernel
theorem dX5_roundBits_28 : decode cX5_roundBits 28 = .ok (.invokevirtual 50, 3) := by decide +kernel
theorem dX5_roundBits_31 : decode cX5_roundBits 31 = .ok (.istore 4, 2) := by decide +kernel
theorem dX5_roundBits_33 : decode cX5_roundBits 33 = .ok (.iinc 5 1, 3) := by decide +kernel
theorem dX5_roundBits_36 : decode cX5_roundBits 36 = .ok (.goto (-28), 3) := by decide +kernel
theorem dX5_roundBits_39 : decode cX5_roundBits 39 = .ok (.iload_n 3, 1) := by decide +kernel
theorem dX5_roundBits_40 : decode cX5_roundBits 40 = .ok (.ireturn, 1) := by decide +kernel
theorem dX5_roundsOf_0 : decode cX5_roundsOf 0 = .ok (.iconst 0, 1) := by decide +kernel
theorem dX5_roundsOf_1 : decode cX5_roundsOf 1 = .ok (.istore_n 2, 1) := by decide +kernel
theorem dX5_roundsOf_2 : decode cX5_roundsOf 2 = .ok (.iconst 0, 1) := by decide +kernel
theorem dX5_roundsOf_3 : decode cX5_roundsOf 3 = .ok (.istore_n 3, 1) := by decide +kernel
theorem dX5_roundsOf_4 : decode cX5_roundsOf 4 = .ok (.iload_n 3, 1) := by decide +kernel
theorem dX5_roundsOf_5 : decode cX5_roundsOf 5 = .ok (.aload_n 0, 1) := by decide +kernel
theorem dX5_roundsOf_6 : decode cX5_roundsOf 6 = .ok (.getfield 9, 3) := by decide +kernel
theorem dX5_roundsOf_9 : decode cX5_roundsOf 9 = .ok (.if_icmp .ge 25, 3) := by decide +kernel
theorem dX5_roundsOf_12 : decode cX5_roundsOf 12 = .ok (.aload_n 0, 1) := by decide +kernel
theorem dX5_roundsOf_13 : decode cX5_roundsOf 13 = .ok (.iload_n 1, 1) := by decide +kernel
theorem dX5_roundsOf_14 : decode cX5_roundsOf 14 = .ok (.iload_n 3, 1) := by decide +kernel
theorem dX5_roundsOf_15 : decode cX5_roundsOf 15 = .ok (.invokevirtual 57, 3) := by decide +kernel
theorem dX5_roundsOf_18 : decode cX5_roundsOf 18 = .ok (.invokestatic 75, 3) := by decide +kernel
theorem dX5_roundsOf_21 : decode cX5_roundsOf 21 = .ok (.iload_n 3, 1) := by decide +kernel
theorem dX5_roundsOf_22 : decode cX5_roundsOf 22 = .ok (.if_icmp .ne 6, 3) := by decide +kernel
theorem dX5_roundsOf_25 : decode cX5_roundsOf 25 = .ok (.iinc 2 1, 3) := by decide +kernel
theorem dX5_roundsOf_28 : decode cX5_roundsOf 28 = .ok (.iinc 3 1, 3) := by decide +kernel
theorem dX5_roundsOf_31 : decode cX5_roundsOf 31 = .ok (.goto (-27), 3) := by decide +kernel
theorem dX5_roundsOf_34 : decode cX5_roundsOf 34 = .ok (.iload_n 2, 1) := by decide +kernel
theorem dX5_roundsOf_35 : decode cX5_roundsOf 35 = .ok (.ireturn, 1) := by decide +kernel
theorem dX5_longestOf_0 : decode cX5_longestOf 0 = .ok (.iconst 0, 1) := by decide +kernel
theorem dX5_longestOf_1 : decode cX5_longestOf 1 = .ok (.istore_n 2, 1) := by decide +kernel
theorem dX5_longestOf_2 : decode cX5_longestOf 2 = .ok (.iconst 0, 1) := by decide +kernel
theorem dX5_longestOf_3 : decode cX5_longestOf 3 = .ok (.istore_n 3, 1) := by decide +kernel
theorem dX5_longestOf_4 : decode cX5_longestOf 4 = .ok (.iload_n 3, 1) := by decide +kernel
theorem dX5_longestOf_5 : decode cX5_longestOf 5 = .ok (.aload_n 0, 1) := by decide +kernel
theorem dX5_longestOf_6 : decode cX5_longestOf 6 = .ok (.getfield 9, 3) := by decide +kernel
theorem dX5_longestOf_9 : decode cX5_longestOf 9 = .ok (.if_icmp .ge 23, 3) := by decide +kernel
theorem dX5_longestOf_12 : decode cX5_longestOf 12 = .ok (.iload_n 2, 1) := by decide +kernel
theorem dX5_longestOf_13 : decode cX5_longestOf 13 = .ok (.aload_n 0, 1) := by decide +kernel
theorem dX5_longestOf_14 : decode cX5_longestOf 14 = .ok (.iload_n 1, 1) := by decide +kernel
theorem dX5_longestOf_15 : decode cX5_longestOf 15 = .ok (.iload_n 3, 1) := by decide +kernel
theorem dX5_longestOf_16 : decode cX5_longestOf 16 = .ok (.invokevirtual 57, 3) := by decide +kernel
theorem dX5_longestOf_19 : decode cX5_longestOf 19 = .ok (.invokestatic 60, 3) := by decide +kernel
theorem dX5_longestOf_22 : decode cX5_longestOf 22 = .ok (.invokestatic 66, 3) := by decide +kernel
theorem dX5_longestOf_25 : decode cX5_longestOf 25 = .ok (.istore_n 2, 1) := by decide +kernel
theorem dX5_longestOf_26 : decode cX5_longestOf 26 = .ok (.iinc 3 1, 3) := by decide +kernel
theorem dX5_longestOf_29 : decode cX5_longestOf 29 = .ok (.goto (-25), 3) := by decide +kernel
theorem dX5_longestOf_32 : decode cX5_longestOf 32 = .ok (.iload_n 2, 1) := by decide +kernel
theorem dX5_longestOf_33 : decode cX5_longestOf 33 = .ok (.ireturn, 1) := by decide +kernel
theorem dX5_fixedOf_0 : decode cX5_fixedOf 0 = .ok (.iconst 0, 1) := by decide +kernel
theorem dX5_fixedOf_1 : decode cX5_fixedOf 1 = .ok (.istore_n 2, 1) := by decide +kernel
theorem dX5_fixedOf_2 : decode cX5_fixedOf 2 = .ok (.iconst 0, 1) := by decide +kernel
theorem dX5_fixedOf_3 : decode cX5_fixedOf 3 = .ok (.istore_n 3, 1) := by decide +kernel
theorem dX5_fixedOf_4 : decode cX5_fixedOf 4 = .ok (.iload_n 3, 1) := by decide +kernel
theorem dX5_fixedOf_5 : decode cX5_fixedOf 5 = .ok (.aload_n 0, 1) := by decide +kernel
theorem dX5_fixedOf_6 : decode cX5_fixedOf 6 = .ok (.getfield 9, 3) := by decide +kernel
theorem dX5_fixedOf_9 : decode cX5_fixedOf 9 = .ok (.if_icmp .ge 22, 3) := by decide +kernel
theorem dX5_fixedOf_12 : decode cX5_fixedOf 12 = .ok (.aload_n 0, 1) := by decide +kernel
theorem dX5_fixedOf_13 : decode cX5_fixedOf 13 = .ok (.iload_n 1, 1) := by decide +kernel
theorem dX5_fixedOf_14 : decode cX5_fixedOf 14 = .ok (.iload_n 3, 1) := by decide +kernel
theorem dX5_fixedOf_15 : decode cX5_fixedOf 15 = .ok (.invokevirtual 50, 3) := by decide +kernel
theorem dX5_fixedOf_18 : decode cX5_fixedOf 18 = .ok (.iload_n 3, 1) := by decide +kernel
theorem dX5_fixedOf_19 : decode cX5_fixedOf 19 = .ok (.if_icmp .ne 6, 3) := by decide +kernel
theorem dX5_fixedOf_22 : decode cX5_fixedOf 22 = .ok (.iinc 2 1, 3) := by decide +kernel
theorem dX5_fixedOf_25 : decode cX5_fixedOf 25 = .ok (.iinc 3 1, 3) := by decide +kernel
theorem dX5_fixedOf_28 : decode cX5_fixedOf 28 = .ok (.goto (-24), 3) := by decide +kernel
theorem dX5_fixedOf_31 : decode cX5_fixedOf 31 = .ok (.iload_n 2, 1) := by decide +kernel
theorem dX5_fixedOf_32 : decode cX5_fixedOf 32 = .ok (.ireturn, 1) := by decide +kernel
theorem dX5_orderOf_0 : decode cX5_orderOf 0 = .ok (.iconst 1, 1) := by decide +kernel
theorem dX5_orderOf_1 : decode cX5_orderOf 1 = .ok (.istore_n 2, 1) := by decide +kernel
theorem dX5_orderOf_2 : decode cX5_orderOf 2 = .ok (.iload_n 2, 1) := by decide +kernel
theorem dX5_orderOf_3 : decode cX5_orderOf 3 = .ok (.bipush 6, 2) := by decide +kernel
theorem dX5_orderOf_5 : decode cX5_orderOf 5 = .ok (.if_icmp .ge 21, 3) := by decide +kernel
theorem dX5_orderOf_8 : decode cX5_orderOf 8 = .ok (.aload_n 0, 1) := by decide +kernel
theorem dX5_orderOf_9 : decode cX5_orderOf 9 = .ok (.iload_n 1, 1) := by decide +kernel
theorem dX5_orderOf_10 : decode cX5_orderOf 10 = .ok (.iload_n 2, 1) := by decide +kernel
theorem dX5_orderOf_11 : decode cX5_orderOf 11 = .ok (.i2l, 1) := by decide +kernel
theorem dX5_orderOf_12 : decode cX5_orderOf 12 = .ok (.invokevirtual 78, 3) := by decide +kernel
theorem dX5_orderOf_15 : decode cX5_orderOf 15 = .ok (.ifCond .ne 5, 3) := by decide +kernel
theorem dX5_orderOf_18 : decode cX5_orderOf 18 = .ok (.iload_n 2, 1) := by decide +kernel
theorem dX5_orderOf_19 : decode cX5_orderOf 19 = .ok (.ireturn, 1) := by decide +kernel
theorem dX5_orderOf_20 : decode cX5_orderOf 20 = .ok (.iinc 2 1, 3) := by decide +kernel
theorem dX5_orderOf_23 : decode cX5_orderOf 23 = .ok (.goto (-21), 3) := by decide +kernel
theorem dX5_orderOf_26 : decode cX5_orderOf 26 = .ok (.bipush 6, 2) := by decide +kernel
theorem dX5_orderOf_28 : decode cX5_orderOf 28 = .ok (.ireturn, 1) := by decide +kernel
theorem dX5_inversionsOf_0 : decode cX5_inversionsOf 0 = .ok (.iconst 0, 1) := by decide +kernel
theorem dX5_inversionsOf_1 : decode cX5_inversionsOf 1 = .ok (.istore_n 2, 1) := by decide +kernel
theorem dX5_inversionsOf_2 : decode cX5_inversionsOf 2 = .ok (.iconst 0, 1) := by decide +kernel
theorem dX5_inversionsOf_3 : decode cX5_inversionsOf 3 = .ok (.istore_n 3, 1) := by decide +kernel
theorem dX5_inversionsOf_4 : decode cX5_inversionsOf 4 = .ok (.iload_n 3, 1) := by decide +kernel
theorem dX5_inversionsOf_5 : decode cX5_inversionsOf 5 = .ok (.aload_n 0, 1) := by decide +kernel
theorem dX5_inversionsOf_6 : decode cX5_inversionsOf 6 = .ok (.getfield 9, 3) := by decide +kernel
theorem dX5_inversionsOf_9 : decode cX5_inversionsOf 9 = .ok (.if_icmp .ge 48, 3) := by decide +kernel
theorem dX5_inversionsOf_12 : decode cX5_inversionsOf 12 = .ok (.iload_n 3, 1) := by decide +kernel
theorem dX5_inversionsOf_13 : decode cX5_inversionsOf 13 = .ok (.iconst 1, 1) := by decide +kernel
theorem dX5_inversionsOf_14 : decode cX5_inversionsOf 14 = .ok (.iadd, 1) := by decide +kernel
theorem dX5_inversionsOf_15 : decode cX5_inversionsOf 15 = .ok (.istore 4, 2) := by decide +kernel
theorem dX5_inversionsOf_17 : decode cX5_inversionsOf 17 = .ok (.iload 4, 2) := by decide +kernel
theorem dX5_inversionsOf_19 : decode cX5_inversionsOf 19 = .ok (.aload_n 0, 1) := by decide +kernel
theorem dX5_inversionsOf_20 : decode cX5_inversionsOf 20 = .ok (.getfield 9, 3) := by decide +kernel
theorem dX5_inversionsOf_23 : decode cX5_inversionsOf 23 = .ok (.if_icmp .ge 28, 3) := by decide +kernel
theorem dX5_inversionsOf_26 : decode cX5_inversionsOf 26 = .ok (.aload_n 0, 1) := by decide +kernel
theorem dX5_inversionsOf_27 : decode cX5_inversionsOf 27 = .ok (.iload_n 1, 1) := by decide +kernel
theorem dX5_inversionsOf_28 : decode cX5_inversionsOf 28 = .ok (.iload_n 3, 1) := by decide +kernel
theorem dX5_inversionsOf_29 : decode cX5_inversionsOf 29 = .ok (.invokevirtual 50, 3) := by decide +kernel
theorem dX5_inversionsOf_32 : decode cX5_inversionsOf 32 = .ok (.aload_n 0, 1) := by decide +kernel
theorem dX5_inversionsOf_33 : decode cX5_inversionsOf 33 = .ok (.iload_n 1, 1) := by decide +kernel
theorem dX5_inversionsOf_34 : decode cX5_inversionsOf 34 = .ok (.iload 4, 2) := by decide +kernel
theorem dX5_inversionsOf_36 : decode cX5_inversionsOf 36 = .ok (.invokevirtual 50, 3) := by decide +kernel
theorem dX5_inversionsOf_39 : decode cX5_inversionsOf 39 = .ok (.if_icmp .le 6, 3) := by decide +kernel
theorem dX5_inversionsOf_42 : decode cX5_inversionsOf 42 = .ok (.iinc 2 1, 3) := by decide +kernel
theorem dX5_inversionsOf_45 : decode cX5_inversionsOf 45 = .ok (.iinc 4 1, 3) := by decide +kernel
theorem dX5_inversionsOf_48 : decode cX5_inversionsOf 48 = .ok (.goto (-31), 3) := by decide +kernel
theorem dX5_inversionsOf_51 : decode cX5_inversionsOf 51 = .ok (.iinc 3 1, 3) := by decide +kernel
theorem dX5_inversionsOf_54 : decode cX5_inversionsOf 54 = .ok (.goto (-50), 3) := by decide +kernel
theorem dX5_inversionsOf_57 : decode cX5_inversionsOf 57 = .ok (.iload_n 2, 1) := by decide +kernel
theorem dX5_inversionsOf_58 : decode cX5_inversionsOf 58 = .ok (.ireturn, 1) := by decide +kernel
theorem dX5_prepareSwaps_0 : decode cX5_prepareSwaps 0 = .ok (.aload_n 0, 1) := by decide +kernel
theorem dX5_prepareSwaps_1 : decode cX5_prepareSwaps 1 = .ok (.getfield 21, 3) := by decide +kernel
theorem dX5_prepareSwaps_4 : decode cX5_prepareSwaps 4 = .ok (.ifCond .eq 4, 3) := by decide +kernel
theorem dX5_prepareSwaps_7 : decode cX5_prepareSwaps 7 = .ok (.return_, 1) := by decide +kernel
theorem dX5_prepareSwaps_8 : decode cX5_prepareSwaps 8 = .ok (.aload_n 0, 1) := by decide +kernel
theorem dX5_prepareSwaps_9 : decode cX5_prepareSwaps 9 = .ok (.getfield 29, 3) := by decide +kernel
theorem dX5_prepareSwaps_12 : decode cX5_prepareSwaps 12 = .ok (.arraylength, 1) := by decide +kernel
theorem dX5_prepareSwaps_13 : decode cX5_prepareSwaps 13 = .ok (.aload_n 0, 1) := by decide +kernel
theorem dX5_prepareSwaps_14 : decode cX5_prepareSwaps 14 = .ok (.getfield 15, 3) := by decide +kernel
theorem dX5_prepareSwaps_17 : decode cX5_prepareSwaps 17 = .ok (.aload_n 0, 1) := by decide +kernel
theorem dX5_prepareSwaps_18 : decode cX5_prepareSwaps 18 = .ok (.getfield 18, 3) := by decide +kernel
theorem dX5_prepareSwaps_21 : decode cX5_prepareSwaps 21 = .ok (.imul, 1) := by decide +kernel
theorem dX5_prepareSwaps_22 : decode cX5_prepareSwaps 22 = .ok (.if_icmp .ge 18, 3) := by decide +kernel
theorem dX5_prepareSwaps_25 : decode cX5_prepareSwaps 25 = .ok (.aload_n 0, 1) := by decide +kernel
theorem dX5_prepareSwaps_26 : decode cX5_prepareSwaps 26 = .ok (.aload_n 0, 1) := by decide +kernel
theorem dX5_prepareSwaps_27 : decode cX5_prepareSwaps 27 = .ok (.getfield 15, 3) := by decide +kernel
theorem dX5_prepareSwaps_30 : decode cX5_prepareSwaps 30 = .ok (.aload_n 0, 1) := by decide +kernel
theorem dX5_prepareSwaps_31 : decode cX5_prepareSwaps 31 = .ok (.getfield 18, 3) := by decide +kernel
theorem dX5_prepareSwaps_34 : decode cX5_prepareSwaps 34 = .ok (.imul, 1) := by decide +kernel
theorem dX5_prepareSwaps_35 : decode cX5_prepareSwaps 35 = .ok (.newarray .int, 2) := by decide +kernel
theorem dX5_prepareSwaps_37 : decode cX5_prepareSwaps 37 = .ok (.putfield 29, 3) := by decide +kernel
theorem dX5_prepareSwaps_40 : decode cX5_prepareSwaps 40 = .ok (.iconst 0, 1) := by decide +kernel
theorem dX5_prepareSwaps_41 : decode cX5_prepareSwaps 41 = .ok (.istore_n 1, 1) := by decide +kernel
theorem dX5_prepareSwaps_42 : decode cX5_prepareSwaps 42 = .ok (.iconst 0, 1) := by decide +kernel
theorem dX5_prepareSwaps_43 : decode cX5_prepareSwaps 43 = .ok (.istore_n 2, 1) := by decide +kernel
theorem dX5_prepareSwaps_44 : decode cX5_prepareSwaps 44 = .ok (.iload_n 2, 1) := by decide +kernel
theorem dX5_prepareSwaps_45 : decode cX5_prepareSwaps 45 = .ok (.aload_n 0, 1) := by decide +kernel
theorem dX5_prepareSwaps_46 : decode cX5_prepareSwaps 46 = .ok (.getfield 9, 3) := by decide +kernel
theorem dX5_prepareSwaps_49 : decode cX5_prepareSwaps 49 = .ok (.if_icmp .ge 55, 3) := by decide +kernel
theorem dX5_prepareSwaps_52 : decode cX5_prepareSwaps 52 = .ok (.iload_n 2, 1) := by decide +kernel
theorem dX5_prepareSwaps_53 : decode cX5_prepareSwaps 53 = .ok (.iconst 1, 1) := by decide +kernel
theorem dX5_prepareSwaps_54 : decode cX5_prepareSwaps 54 = .ok (.iadd, 1) := by decide +kernel
theorem dX5_prepareSwaps_55 : decode cX5_prepareSwaps 55 = .ok (.istore_n 3, 1) := by decide +kernel
theorem dX5_prepareSwaps_56 : decode cX5_prepareSwaps 56 = .ok (.iload_n 3, 1) := by decide +kernel
theorem dX5_prepareSwaps_57 : decode cX5_prepareSwaps 57 = .ok (.aload_n 0, 1) := by decide +kernel
theorem dX5_prepareSwaps_58 : decode cX5_prepareSwaps 58 = .ok (.getfield 9, 3) := by decide +kernel
theorem dX5_prepareSwaps_61 : decode cX5_prepareSwaps 61 = .ok (.if_icmp .ge 37, 3) := by decide +kernel
theorem dX5_prepareSwaps_64 : decode cX5_prepareSwaps 64 = .ok (.iload_n 1, 1) := by decide +kernel
theorem dX5_prepareSwaps_65 : decode cX5_prepareSwaps 65 = .ok (.bipush 15, 2) := by decide +kernel
theorem dX5_prepareSwaps_67 : decode cX5_prepareSwaps 67 = .ok (.if_icmp .ge 31, 3) := by decide +kernel
theorem dX5_prepareSwaps_70 : decode cX5_prepareSwaps 70 = .ok (.aload_n 0, 1) := by decide +kernel
theorem dX5_prepareSwaps_71 : decode cX5_prepareSwaps 71 = .ok (.getfield 33, 3) := by decide +kernel
theorem dX5_prepareSwaps_74 : decode cX5_prepareSwaps 74 = .ok (.iload_n 1, 1) := by decide +kernel
theorem dX5_prepareSwaps_75 : decode cX5_prepareSwaps 75 = .ok (.bipush 10, 2) := by decide +kernel
theorem dX5_prepareSwaps_77 : decode cX5_prepareSwaps 77 = .ok (.iload_n 2, 1) := by decide +kernel
theorem dX5_prepareSwaps_78 : decode cX5_prepareSwaps 78 = .ok (.imul, 1) := by decide +kernel
theorem dX5_prepareSwaps_79 : decode cX5_prepareSwaps 79 = .ok (.iload_n 3, 1) := by decide +kernel
theorem dX5_prepareSwaps_80 : decode cX5_prepareSwaps 80 = .ok (.iadd, 1) := by decide +kernel
theorem dX5_prepareSwaps_81 : decode cX5_prepareSwaps 81 = .ok (.iastore, 1) := by decide +kernel
theorem dX5_prepareSwaps_82 : decode cX5_prepareSwaps 82 = .ok (.aload_n 0, 1) := by decide +kernel
theorem dX5_prepareSwaps_83 : decode cX5_prepareSwaps 83 = .ok (.iload_n 1, 1) := by decide +kernel
theorem dX5_prepareSwaps_84 : decode cX5_prepareSwaps 84 = .ok (.iload_n 2, 1) := by decide +kernel
theorem dX5_prepareSwaps_85 : decode cX5_prepareSwaps 85 = .ok (.iload_n 3, 1) := by decide +kernel
theorem dX5_prepareSwaps_86 : decode cX5_prepareSwaps 86 = .ok (.invokevirtual 82, 3) := by decide +kernel
theorem dX5_prepareSwaps_89 : decode cX5_prepareSwaps 89 = .ok (.iinc 1 1, 3) := by decide +kernel
theorem dX5_prepareSwaps_92 : decode cX5_prepareSwaps 92 = .ok (.iinc 3 1, 3) := by decide +kernel
theorem dX5_prepareSwaps_95 : decode cX5_prepareSwaps 95 = .ok (.goto (-39), 3) := by decide +kernel
theorem dX5_prepareSwaps_98 : decode cX5_prepareSwaps 98 = .ok (.iinc 2 1, 3) := by decide +kernel
theorem dX5_prepareSwaps_101 : decode cX5_prepareSwaps 101 = .ok (.goto (-57), 3) := by decide +kernel
theorem dX5_prepareSwaps_104 : decode cX5_prepareSwaps 104 = .ok (.aload_n 0, 1) := by decide +kernel
theorem dX5_prepareSwaps_105 : decode cX5_prepareSwaps 105 = .ok (.iconst 1, 1) := by decide +kernel
theorem dX5_prepareSwaps_106 : decode cX5_prepareSwaps 106 = .ok (.putfield 21, 3) := by decide +kernel
theorem dX5_prepareSwaps_109 : decode cX5_prepareSwaps 109 = .ok (.return_, 1) := by decide +kernel
theorem dX5_fillSwapped_0 : decode cX5_fillSwapped 0 = .ok (.iconst 0, 1) := by decide +kernel
theorem dX5_fillSwapped_1 : decode cX5_fillSwapped 1 = .ok (.istore 4, 2) := by decide +kernel
theorem dX5_fillSwapped_3 : decode cX5_fillSwapped 3 = .ok (.iload 4, 2) := by decide +kernel
theorem dX5_fillSwapped_5 : decode cX5_fillSwapped 5 = .ok (.aload_n 0, 1) := by decide +kernel
theorem dX5_fillSwapped_6 : decode cX5_fillSwapped 6 = .ok (.getfield 15, 3) := by decide +kernel
theorem dX5_fillSwapped_9 : decode cX5_fillSwapped 9 = .ok (.if_icmp .ge 31, 3) := by decide +kernel
theorem dX5_fillSwapped_12 : decode cX5_fillSwapped 12 = .ok (.aload_n 0, 1) := by decide +kernel
theorem dX5_fillSwapped_13 : decode cX5_fillSwapped 13 = .ok (.getfield 29, 3) := by decide +kernel
theorem dX5_fillSwapped_16 : decode cX5_fillSwapped 16 = .ok (.iload 4, 2) := by decide +kernel
theorem dX5_fillSwapped_18 : decode cX5_fillSwapped 18 = .ok (.aload_n 0, 1) := by decide +kernel
theorem dX5_fillSwapped_19 : decode cX5_fillSwapped 19 = .ok (.getfield 18, 3) := by decide +kernel
theorem dX5_fillSwapped_22 : decode cX5_fillSwapped 22 = .ok (.imul, 1) := by decide +kernel
theorem dX5_fillSwapped_23 : decode cX5_fillSwapped 23 = .ok (.iload_n 1, 1) := by decide +kernel
theorem dX5_fillSwapped_24 : decode cX5_fillSwapped 24 = .ok (.iadd, 1) := by decide +kernel
theorem dX5_fillSwapped_25 : decode cX5_fillSwapped 25 = .ok (.aload_n 0, 1) := by decide +kernel
theorem dX5_fillSwapped_26 : decode cX5_fillSwapped 26 = .ok (.iload 4, 2) := by decide +kernel
theorem dX5_fillSwapped_28 : decode cX5_fillSwapped 28 = .ok (.iload_n 2, 1) := by decide +kernel
theorem dX5_fillSwapped_29 : decode cX5_fillSwapped 29 = .ok (.iload_n 3, 1) := by decide +kernel
theorem dX5_fillSwapped_30 : decode cX5_fillSwapped 30 = .ok (.invokevirtual 86, 3) := by decide +kernel
theorem dX5_fillSwapped_33 : decode cX5_fillSwapped 33 = .ok (.iastore, 1) := by decide +kernel
theorem dX5_fillSwapped_34 : decode cX5_fillSwapped 34 = .ok (.iinc 4 1, 3) := by decide +kernel
theorem dX5_fillSwapped_37 : decode cX5_fillSwapped 37 = .ok (.goto (-34), 3) := by decide +kernel
theorem dX5_fillSwapped_40 : decode cX5_fillSwapped 40 = .ok (.return_, 1) := by decide +kernel
theorem dX5_bySwap_0 : decode cX5_bySwap 0 = .ok (.iload_n 1, 1) := by decide +kernel
theorem dX5_bySwap_1 : decode cX5_bySwap 1 = .ok (.aload_n 0, 1) := by decide +kernel
theorem dX5_bySwap_2 : decode cX5_bySwap 2 = .ok (.getfield 18, 3) := by decide +kernel
theorem dX5_bySwap_5 : decode cX5_bySwap 5 = .ok (.imul, 1) := by decide +kernel
theorem dX5_bySwap_6 : decode cX5_bySwap 6 = .ok (.iload_n 2, 1) := by decide +kernel
theorem dX5_bySwap_7 : decode cX5_bySwap 7 = .ok (.iadd, 1) := by decide +kernel
theorem dX5_bySwap_8 : decode cX5_bySwap 8 = .ok (.istore_n 3, 1) := by decide +kernel
theorem dX5_bySwap_9 : decode cX5_bySwap 9 = .ok (.iload_n 3, 1) := by decide +kernel
theorem dX5_bySwap_10 : decode cX5_bySwap 10 = .ok (.ifCond .lt 21, 3) := by decide +kernel
theorem dX5_bySwap_13 : decode cX5_bySwap 13 = .ok (.iload_n 3, 1) := by decide +kernel
theorem dX5_bySwap_14 : decode cX5_bySwap 14 = .ok (.aload_n 0, 1) := by decide +kernel
theorem dX5_bySwap_15 : decode cX5_bySwap 15 = .ok (.getfield 29, 3) := by decide +kernel
theorem dX5_bySwap_18 : decode cX5_bySwap 18 = .ok (.arraylength, 1) := by decide +kernel
theorem dX5_bySwap_19 : decode cX5_bySwap 19 = .ok (.if_icmp .ge 12, 3) := by decide +kernel
theorem dX5_bySwap_22 : decode cX5_bySwap 22 = .ok (.aload_n 0, 1) := by decide +kernel
theorem dX5_bySwap_23 : decode cX5_bySwap 23 = .ok (.getfield 29, 3) := by decide +kernel
theorem dX5_bySwap_26 : decode cX5_bySwap 26 = .ok (.iload_n 3, 1) := by decide +kernel
theorem dX5_bySwap_27 : decode cX5_bySwap 27 = .ok (.iaload, 1) := by decide +kernel
theorem dX5_bySwap_28 : decode cX5_bySwap 28 = .ok (.goto 4, 3) := by decide +kernel
theorem dX5_bySwap_31 : decode cX5_bySwap 31 = .ok (.iload_n 1, 1) := by decide +kernel
theorem dX5_bySwap_32 : decode cX5_bySwap 32 = .ok (.ireturn, 1) := by decide +kernel
theorem dX5_codeOf_0 : decode cX5_codeOf 0 = .ok (.iload_n 1, 1) := by decide +kernel
theorem dX5_codeOf_1 : decode cX5_codeOf 1 = .ok (.ifCond .lt 20, 3) := by decide +kernel
theorem dX5_codeOf_4 : decode cX5_codeOf 4 = .ok (.iload_n 1, 1) := by decide +kernel
theorem dX5_codeOf_5 : decode cX5_codeOf 5 = .ok (.aload_n 0, 1) := by decide +kernel
theorem dX5_codeOf_6 : decode cX5_codeOf 6 = .ok (.getfield 18, 3) := by decide +kernel
theorem dX5_codeOf_9 : decode cX5_codeOf 9 = .ok (.if_icmp .ge 12, 3) := by decide +kernel
theorem dX5_codeOf_12 : decode cX5_codeOf 12 = .ok (.aload_n 0, 1) := by decide +kernel
theorem dX5_codeOf_13 : decode cX5_codeOf 13 = .ok (.getfield 33, 3) := by decide +kernel
theorem dX5_codeOf_16 : decode cX5_codeOf 16 = .ok (.iload_n 1, 1) := by decide +kernel
theorem dX5_codeOf_17 : decode cX5_codeOf 17 = .ok (.iaload, 1) := by decide +kernel
theorem dX5_codeOf_18 : decode cX5_codeOf 18 = .ok (.goto 4, 3) := by decide +kernel
theorem dX5_codeOf_21 : decode cX5_codeOf 21 = .ok (.iconst (-1), 1) := by decide +kernel
theorem dX5_codeOf_22 : decode cX5_codeOf 22 = .ok (.ireturn, 1) := by decide +kernel
theorem dX7_init_0 : decode cX7_init 0 = .ok (.aload_n 0, 1) := by decide +kernel
theorem dX7_init_1 : decode cX7_init 1 = .ok (.invokespecial 1, 3) := by decide +kernel
theorem dX7_init_4 : decode cX7_init 4 = .ok (.aload_n 0, 1) := by decide +kernel
theorem dX7_init_5 : decode cX7_init 5 = .ok (.iconst 0, 1) := by decide +kernel
theorem dX7_init_6 : decode cX7_init 6 = .ok (.putfield 7, 3) := by decide +kernel
theorem dX7_init_9 : decode cX7_init 9 = .ok (.aload_n 0, 1) := by decide +kernel
theorem dX7_init_10 : decode cX7_init 10 = .ok (.iconst 0, 1) := by decide +kernel
theorem dX7_init_11 : decode cX7_init 11 = .ok (.putfield 13, 3) := by decide +kernel
theorem dX7_init_14 : decode cX7_init 14 = .ok (.aload_n 0, 1) := by decide +kernel
theorem dX7_init_15 : decode cX7_init 15 = .ok (.iconst 0, 1) := by decide +kernel
theorem dX7_init_16 : decode cX7_init 16 = .ok (.putfield 16, 3) := by decide +kernel
theorem dX7_init_19 : decode cX7_init 19 = .ok (.return_, 1) := by decide +kernel
theorem dX7_become_0 : decode cX7_become 0 = .ok (.aload_n 0, 1) := by decide +kernel
theorem dX7_become_1 : decode cX7_become 1 = .ok (.aload_n 1, 1) := by decide +kernel
theorem dX7_become_2 : decode cX7_become 2 = .ok (.getfield 7, 3) := by decide +kernel
theorem dX7_become_5 : decode cX7_become 5 = .ok (.putfield 7, 3) := by decide +kernel
theorem dX7_become_8 : decode cX7_become 8 = .ok (.aload_n 0, 1) := by decide +kernel
theorem dX7_become_9 : decode cX7_become 9 = .ok (.aload_n 1, 1) := by decide +kernel
theorem dX7_become_10 : decode cX7_become 10 = .ok (.getfield 13, 3) := by decide +kernel
theorem dX7_become_13 : decode cX7_become 13 = .ok (.putfield 13, 3) := by decide +kernel
theorem dX7_become_16 : decode cX7_become 16 = .ok (.aload_n 0, 1) := by decide +kernel
theorem dX7_become_17 : decode cX7_become 17 = .ok (.aload_n 1, 1) := by decide +kernel
theorem dX7_become_18 : decode cX7_become 18 = .ok (.getfield 16, 3) := by decide +kernel
theorem dX7_become_21 : decode cX7_become 21 = .ok (.putfield 16, 3) := by decide +kernel
theorem dX7_become_24 : decode cX7_become 24 = .ok (.return_, 1) := by decide +kernel
theorem dX8_init_0 : decode cX8_init 0 = .ok (.aload_n 0, 1) := by decide +kernel
theorem dX8_init_1 : decode cX8_init 1 = .ok (.invokespecial 3, 3) := by decide +kernel
theorem dX8_init_4 : decode cX8_init 4 = .ok (.aload_n 0, 1) := by decide +kernel
theorem dX8_init_5 : decode cX8_init 5 = .ok (.iconst 0, 1) := by decide +kernel
theorem dX8_init_6 : decode cX8_init 6 = .ok (.putfield 9, 3) := by decide +kernel
theorem dX8_init_9 : decode cX8_init 9 = .ok (.aload_n 0, 1) := by decide +kernel
theorem dX8_init_10 : decode cX8_init 10 = .ok (.iconst (-1), 1) := by decide +kernel
theorem dX8_init_11 : decode cX8_init 11 = .ok (.putfield 15, 3) := by decide +kernel
theorem dX8_init_14 : decode cX8_init 14 = .ok (.aload_n 0, 1) := by decide +kernel
theorem dX8_init_15 : decode cX8_init 15 = .ok (.bipush 40, 2) := by decide +kernel
theorem dX8_init_17 : decode cX8_init 17 = .ok (.newarray .long, 2) := by decide +kernel
theorem dX8_init_19 : decode cX8_init 19 = .ok (.putfield 18, 3) := by decide +kernel
theorem dX8_init_22 : decode cX8_init 22 = .ok (.return_, 1) := by decide +kernel
theorem dX8_isMissing_0 : decode cX8_isMissing 0 = .ok (.aload_n 0, 1) := by decide +kernel
theorem dX8_isMissing_1 : decode cX8_isMissing 1 = .ok (.getfield 15, 3) := by decide +kernel
theorem dX8_isMissing_4 : decode cX8_isMissing 4 = .ok (.ifCond .ge 7, 3) := by decide +kernel
theorem dX8_isMissing_7 : decode cX8_isMissing 7 = .ok (.iconst 1, 1) := by decide +kernel
theorem dX8_isMissing_8 : decode cX8_isMissing 8 = .ok (.goto 4, 3) := by decide +kernel
theorem dX8_isMissing_11 : decode cX8_isMissing 11 = .ok (.iconst 0, 1) := by decide +kernel
theorem dX8_isMissing_12 : decode cX8_isMissing 12 = .ok (.ireturn, 1) := by decide +kernel
theorem dX8_empty_0 : decode cX8_empty 0 = .ok (.aload_n 0, 1) := by decide +kernel
theorem dX8_empty_1 : decode cX8_empty 1 = .ok (.iload_n 1, 1) := by decide +kernel
theorem dX8_empty_2 : decode cX8_empty 2 = .ok (.putfield 9, 3) := by decide +kernel
theorem dX8_empty_5 : decode cX8_empty 5 = .ok (.aload_n 0, 1) := by decide +kernel
theorem dX8_empty_6 : decode cX8_empty 6 = .ok (.iload_n 2, 1) := by decide +kernel
theorem dX8_empty_7 : decode cX8_empty 7 = .ok (.putfield 15, 3) := by decide +kernel
theorem dX8_empty_10 : decode cX8_empty 10 = .ok (.aload_n 0, 1) := by decide +kernel
theorem dX8_empty_11 : decode cX8_empty 11 = .ok (.getfield 18, 3) := by decide +kernel
theorem dX8_empty_14 : decode cX8_empty 14 = .ok (.lconst 0, 1) := by decide +kernel
theorem dX8_empty_15 : decode cX8_empty 15 = .ok (.invokestatic 22, 3) := by decide +kernel
theorem dX8_empty_18 : decode cX8_empty 18 = .ok (.return_, 1) := by decide +kernel
theorem dX8_valueAt_0 : decode cX8_valueAt 0 = .ok (.iload_n 1, 1) := by decide +kernel
theorem dX8_valueAt_1 : decode cX8_valueAt 1 = .ok (.ifCond .lt 21, 3) := by decide +kernel
theorem dX8_valueAt_4 : decode cX8_valueAt 4 = .ok (.iload_n 1, 1) := by decide +kernel
theorem dX8_valueAt_5 : decode cX8_valueAt 5 = .ok (.aload_n 0, 1) := by decide +kernel
theorem dX8_valueAt_6 : decode cX8_valueAt 6 = .ok (.getfield 18, 3) := by decide +kernel
theorem dX8_valueAt_9 : decode cX8_valueAt 9 = .ok (.arraylength, 1) := by decide +kernel
theorem dX8_valueAt_10 : decode cX8_valueAt 10 = .ok (.if_icmp .ge 12, 3) := by decide +kernel
theorem dX8_valueAt_13 : decode cX8_valueAt 13 = .ok (.aload_n 0, 1) := by decide +kernel
theorem dX8_valueAt_14 : decode cX8_valueAt 14 = .ok (.getfield 18, 3) := by decide +kernel
theorem dX8_valueAt_17 : decode cX8_valueAt 17 = .ok (.iload_n 1, 1) := by decide +kernel
theorem dX8_valueAt_18 : decode cX8_valueAt 18 = .ok (.laload, 1) := by decide +kernel
theorem dX8_valueAt_19 : decode cX8_valueAt 19 = .ok (.goto 4, 3) := by decide +kernel
theorem dX8_valueAt_22 : decode cX8_valueAt 22 = .ok (.lconst 0, 1) := by decide +kernel
theorem dX8_valueAt_23 : decode cX8_valueAt 23 = .ok (.lreturn, 1) := by decide +kernel
theorem dX8_put_0 : decode cX8_put 0 = .ok (.aload_n 0, 1) := by decide +kernel
theorem dX8_put_1 : decode cX8_put 1 = .ok (.lload_n 2, 1) := by decide +kernel
theorem dX8_put_2 : decode cX8_put 2 = .ok (.invokevirtual 28, 3) := by decide +kernel
theorem dX8_put_5 : decode cX8_put 5 = .ok (.lstore 4, 2) := by decide +kernel
theorem dX8_put_7 : decode cX8_put 7 = .ok (.iload_n 1, 1) := by decide +kernel
theorem dX8_put_8 : decode cX8_put 8 = .ok (.ifCond .lt 20, 3) := by decide +kernel
theorem dX8_put_11 : decode cX8_put 11 = .ok (.iload_n 1, 1) := by decide +kernel
theorem dX8_put_12 : decode cX8_put 12 = .ok (.aload_n 0, 1) := by decide +kernel
theorem dX8_put_13 : decode cX8_put 13 = .ok (.getfield 18, 3) := by decide +kernel
theorem dX8_put_16 : decode cX8_put 16 = .ok (.arraylength, 1) := by decide +kernel
theorem dX8_put_17 : decode cX8_put 17 = .ok (.if_icmp .ge 11, 3) := by decide +kernel
theorem dX8_put_20 : decode cX8_put 20 = .ok (.aload_n 0, 1) := by decide +kernel
theorem dX8_put_21 : decode cX8_put 21 = .ok (.getfield 18, 3) := by decide +kernel
theorem dX8_put_24 : decode cX8_put 24 = .ok (.iload_n 1, 1) := by decide +kernel
theorem dX8_put_25 : decode cX8_put 25 = .ok (.lload 4, 2) := by decide +kernel
theorem dX8_put_27 : decode cX8_put 27 = .ok (.lastore, 1) := by decide +kernel
theorem dX8_put_28 : decode cX8_put 28 = .ok (.lload 4, 2) := by decide +kernel
theorem dX8_put_30 : decode cX8_put 30 = .ok (.lreturn, 1) := by decide +kernel
theorem dX8_cutToSort_0 : decode cX8_cutToSort 0 = .ok (.aload_n 0, 1) := by decide +kernel
theorem dX8_cutToSort_1 : decode cX8_cutToSort 1 = .ok (.getfield 9, 3) := by decide +kernel
theorem dX8_cutToSort_4 : decode cX8_cutToSort 4 = .ok (.tableswitch 42 0 2 #[28, 33, 38], 28) := by decide +kernel
theorem dX8_cutToSort_32 : decode cX8_cutToSort 32 = .ok (.lload_n 1, 1) := by decide +kernel
theorem dX8_cutToSort_33 : decode cX8_cutToSort 33 = .ok (.l2i, 1) := by decide +kernel
theorem dX8_cutToSort_34 : decode cX8_cutToSort 34 = .ok (.i2b, 1) := by decide +kernel
theorem dX8_cutToSort_35 : decode cX8_cutToSort 35 = .ok (.i2l, 1) := by decide +kernel
theorem dX8_cutToSort_36 : decode cX8_cutToSort 36 = .ok (.lreturn, 1) := by decide +kernel
theorem dX8_cutToSort_37 : decode cX8_cutToSort 37 = .ok (.lload_n 1, 1) := by decide +kernel
theorem dX8_cutToSort_38 : decode cX8_cutToSort 38 = .ok (.l2i, 1) := by decide +kernel
theorem dX8_cutToSort_39 : decode cX8_cutToSort 39 = .ok (.i2s, 1) := by decide +kernel
theorem dX8_cutToSort_40 : decode cX8_cutToSort 40 = .ok (.i2l, 1) := by decide +kernel
theorem dX8_cutToSort_41 : decode cX8_cutToSort 41 = .ok (.lreturn, 1) := by decide +kernel
theorem dX8_cutToSort_42 : decode cX8_cutToSort 42 = .ok (.lload_n 1, 1) := by decide +kernel
theorem dX8_cutToSort_43 : decode cX8_cutToSort 43 = .ok (.l2i, 1) := by decide +kernel
theorem dX8_cutToSort_44 : decode cX8_cutToSort 44 = .ok (.i2l, 1) := by decide +kernel
theorem dX8_cutToSort_45 : decode cX8_cutToSort 45 = .ok (.lreturn, 1) := by decide +kernel
theorem dX8_cutToSort_46 : decode cX8_cutToSort 46 = .ok (.lload_n 1, 1) := by decide +kernel
theorem dX8_cutToSort_47 : decode cX8_cutToSort 47 = .ok (.lreturn, 1) := by decide +kernel
theorem dX3_init_0 : decode cX3_init 0 = .ok (.aload_n 0, 1) := by decide +kernel
theorem dX3_init_1 : decode cX3_init 1 = .ok (.invokespecial 1, 3) := by decide +kernel
theorem dX3_init_4 : decode cX3_init 4 = .ok (.aload_n 0, 1) := by decide +kernel
theorem dX3_init_5 : decode cX3_init 5 = .ok (.aconst_null, 1) := by decide +kernel
theorem dX3_init_6 : decode cX3_init 6 = .ok (.putfield 7, 3) := by decide +kernel
theorem dX3_init_9 : decode cX3_init 9 = .ok (.aload_n 0, 1) := by decide +kernel
theorem dX3_init_10 : decode cX3_init 10 = .ok (.new 13, 3) := by decide +kernel
theorem dX3_init_13 : decode cX3_init 13 = .ok (.dup, 1) := by decide +kernel
theorem dX3_init_14 : decode cX3_init 14 = .ok (.invokespecial 15, 3) := by decide +kernel
theorem dX3_init_17 : decode cX3_init 17 = .ok (.putfield 16, 3) := by decide +kernel
theorem dX3_init_20 : decode cX3_init 20 = .ok (.return_, 1) := by decide +kernel
theorem dX1_init_0 : decode cX1_init 0 = .ok (.aload_n 0, 1) := by decide +kernel
theorem dX1_init_1 : decode cX1_init 1 = .ok (.invokespecial 3, 3) := by decide +kernel
theorem dX1_init_4 : decode cX1_init 4 = .ok (.aload_n 0, 1) := by decide +kernel
theorem dX1_init_5 : decode cX1_init 5 = .ok (.sipush 900, 3) := by decide +kernel
theorem dX1_init_8 : decode cX1_init 8 = .ok (.newarray .int, 2) := by decide +kernel
theorem dX1_init_10 : decode cX1_init 10 = .ok (.putfield 9, 3) := by decide +kernel
theorem dX1_init_13 : decode cX1_init 13 = .ok (.aload_n 0, 1) := by decide +kernel
theorem dX1_init_14 : decode cX1_init 14 = .ok (.iconst 0, 1) := by decide +kernel
theorem dX1_init_15 : decode cX1_init 15 = .ok (.putfield 15, 3) := by decide +kernel
theorem dX1_init_18 : decode cX1_init 18 = .ok (.aload_n 0, 1) := by decide +kernel
theorem dX1_init_19 : decode cX1_init 19 = .ok (.iconst 0, 1) := by decide +kernel
theorem dX1_init_20 : decode cX1_init 20 = .ok (.putfield 19, 3) := by decide +kernel
theorem dX1_init_23 : decode cX1_init 23 = .ok (.aload_n 0, 1) := by decide +kernel
theorem dX1_init_24 : decode cX1_init 24 = .ok (.iconst 0, 1) := by decide +kernel
theorem dX1_init_25 : decode cX1_init 25 = .ok (.putfield 22, 3) := by decide +kernel
theorem dX1_init_28 : decode cX1_init 28 = .ok (.return_, 1) := by decide +kernel
theorem dX1_clear_0 : decode cX1_clear 0 = .ok (.aload_n 0, 1) := by decide +kernel
theorem dX1_clear_1 : decode cX1_clear 1 = .ok (.iconst 0, 1) := by decide +kernel
theorem dX1_clear_2 : decode cX1_clear 2 = .ok (.putfield 15, 3) := by decide +kernel
theorem dX1_clear_5 : decode cX1_clear 5 = .ok (.aload_n 0, 1) := by decide +kernel
theorem dX1_clear_6 : decode cX1_clear 6 = .ok (.iconst 0, 1) := by decide +kernel
theorem dX1_clear_7 : decode cX1_clear 7 = .ok (.putfield 19, 3) := by decide +kernel
theorem dX1_clear_10 : decode cX1_clear 10 = .ok (.aload_n 0, 1) := by decide +kernel
theorem dX1_clear_11 : decode cX1_clear 11 = .ok (.iconst 0, 1) := by decide +kernel
theorem dX1_clear_12 : decode cX1_clear 12 = .ok (.putfield 22, 3) := by decide +kernel
theorem dX1_clear_15 : decode cX1_clear 15 = .ok (.return_, 1) := by decide +kernel
theorem dX1_add_0 : decode cX1_add 0 = .ok (.aload_n 0, 1) := by decide +kernel
theorem dX1_add_1 : decode cX1_add 1 = .ok (.getfield 15, 3) := by decide +kernel
theorem dX1_add_4 : decode cX1_add 4 = .ok (.aload_n 0, 1) := by decide +kernel
theorem dX1_add_5 : decode cX1_add 5 = .ok (.getfield 9, 3) := by decide +kernel
theorem dX1_add_8 : decode cX1_add 8 = .ok (.arraylength, 1) := by decide +kernel
theorem dX1_add_9 : decode cX1_add 9 = .ok (.if_icmp .ge 23, 3) := by decide +kernel
theorem dX1_add_12 : decode cX1_add 12 = .ok (.aload_n 0, 1) := by decide +kernel
theorem dX1_add_13 : decode cX1_add 13 = .ok (.getfield 9, 3) := by decide +kernel
theorem dX1_add_16 : decode cX1_add 16 = .ok (.aload_n 0, 1) := by decide +kernel
theorem dX1_add_17 : decode cX1_add 17 = .ok (.getfield 15, 3) := by decide +kernel
theorem dX1_add_20 : decode cX1_add 20 = .ok (.iload_n 1, 1) := by decide +kernel
theorem dX1_add_21 : decode cX1_add 21 = .ok (.iastore, 1) := by decide +kernel
theorem dX1_add_22 : decode cX1_add 22 = .ok (.aload_n 0, 1) := by decide +kernel
theorem dX1_add_23 : decode cX1_add 23 = .ok (.dup, 1) := by decide +kernel
theorem dX1_add_24 : decode cX1_add 24 = .ok (.getfield 15, 3) := by decide +kernel
theorem dX1_add_27 : decode cX1_add 27 = .ok (.iconst 1, 1) := by decide +kernel
theorem dX1_add_28 : decode cX1_add 28 = .ok (.iadd, 1) := by decide +kernel
theorem dX1_add_29 : decode cX1_add 29 = .ok (.putfield 15, 3) := by decide +kernel
theorem dX1_add_32 : decode cX1_add 32 = .ok (.aload_n 0, 1) := by decide +kernel
theorem dX1_add_33 : decode cX1_add 33 = .ok (.dup, 1) := by decide +kernel
theorem dX1_add_34 : decode cX1_add 34 = .ok (.getfield 19, 3) := by decide +kernel
theorem dX1_add_37 : decode cX1_add 37 = .ok (.iload_n 1, 1) := by decide +kernel
theorem dX1_add_38 : decode cX1_add 38 = .ok (.invokestatic 25, 3) := by decide +kernel
theorem dX1_add_41 : decode cX1_add 41 = .ok (.iadd, 1) := by decide +kernel
theorem dX1_add_42 : decode cX1_add 42 = .ok (.putfield 19, 3) := by decide +kernel
theorem dX1_add_45 : decode cX1_add 45 = .ok (.aload_n 0, 1) := by decide +kernel
theorem dX1_add_46 : decode cX1_add 46 = .ok (.aload_n 0, 1) := by decide +kernel
theorem dX1_add_47 : decode cX1_add 47 = .ok (.getfield 22, 3) := by decide +kernel
theorem dX1_add_50 : decode cX1_add 50 = .ok (.aload_n 0, 1) := by decide +kernel
theorem dX1_add_51 : decode cX1_add 51 = .ok (.getfield 19, 3) := by decide +kernel
theorem dX1_add_54 : decode cX1_add 54 = .ok (.invokestatic 29, 3) := by decide +kernel
theorem dX1_add_57 : decode cX1_add 57 = .ok (.putfield 22, 3) := by decide +kernel
theorem dX1_add_60 : decode cX1_add 60 = .ok (.return_, 1) := by decide +kernel
theorem dX1_growth_0 : decode cX1_growth 0 = .ok (.iload_n 0, 1) := by decide +kernel
theorem dX1_growth_1 : decode cX1_growth 1 = .ok (.bipush (-5), 2) := by decide +kernel
theorem dX1_growth_3 : decode cX1_growth 3 = .ok (.if_icmp .lt 5, 3) := by decide +kernel
theorem dX1_growth_6 : decode cX1_growth 6 = .ok (.iconst 1, 1) := by decide +kernel
theorem dX1_growth_7 : decode cX1_growth 7 = .ok (.ireturn, 1) := by decide +kernel
theorem dX1_growth_8 : decode cX1_growth 8 = .ok (.iload_n 0, 1) := by decide +kernel
theorem dX1_growth_9 : decode cX1_growth 9 = .ok (.bipush (-14), 2) := by decide +kernel
theorem dX1_growth_11 : decode cX1_growth 11 = .ok (.if_icmp .ne 5, 3) := by decide +kernel
theorem dX1_growth_14 : decode cX1_growth 14 = .ok (.iconst 0, 1) := by decide +kernel
theorem dX1_growth_15 : decode cX1_growth 15 = .ok (.ireturn, 1) := by decide +kernel
theorem dX1_growth_16 : decode cX1_growth 16 = .ok (.iload_n 0, 1) := by decide +kernel
theorem dX1_growth_17 : decode cX1_growth 17 = .ok (.bipush (-15), 2) := by decide +kernel
theorem dX1_growth_19 : decode cX1_growth 19 = .ok (.if_icmp .ne 8, 3) := by decide +kernel
theorem dX1_growth_22 : decode cX1_growth 22 = .ok (.bipush (-2), 2) := by decide +kernel
theorem dX1_growth_24 : decode cX1_growth 24 = .ok (.goto 4, 3) := by decide +kernel
theorem dX1_growth_27 : decode cX1_growth 27 = .ok (.iconst (-1), 1) := by decide +kernel
theorem dX1_growth_28 : decode cX1_growth 28 = .ok (.ireturn, 1) := by decide +kernel
theorem dX1_asLaw_0 : decode cX1_asLaw 0 = .ok (.aload_n 0, 1) := by decide +kernel
theorem dX1_asLaw_1 : decode cX1_asLaw 1 = .ok (.getfield 15, 3) := by decide +kernel
theorem dX1_asLaw_4 : decode cX1_asLaw 4 = .ok (.ifCond .ne 7, 3) := by decide +kernel
theorem dX1_asLaw_7 : decode cX1_asLaw 7 = .ok (.aconst_null, 1) := by decide +kernel
theorem dX1_asLaw_8 : decode cX1_asLaw 8 = .ok (.goto 25, 3) := by decide +kernel
theorem dX1_asLaw_11 : decode cX1_asLaw 11 = .ok (.new 35, 3) := by decide +kernel
theorem dX1_asLaw_14 : decode cX1_asLaw 14 = .ok (.dup, 1) := by decide +kernel
theorem dX1_asLaw_15 : decode cX1_asLaw 15 = .ok (.aload_n 0, 1) := by decide +kernel
theorem dX1_asLaw_16 : decode cX1_asLaw 16 = .ok (.getfield 9, 3) := by decide +kernel
theorem dX1_asLaw_19 : decode cX1_asLaw 19 = .ok (.aload_n 0, 1) := by decide +kernel
theorem dX1_asLaw_20 : decode cX1_asLaw 20 = .ok (.getfield 15, 3) := by decide +kernel
theorem dX1_asLaw_23 : decode cX1_asLaw 23 = .ok (.invokestatic 37, 3) := by decide +kernel
theorem dX1_asLaw_26 : decode cX1_asLaw 26 = .ok (.aload_n 0, 1) := by decide +kernel
theorem dX1_asLaw_27 : decode cX1_asLaw 27 = .ok (.getfield 22, 3) := by decide +kernel
theorem dX1_asLaw_30 : decode cX1_asLaw 30 = .ok (.invokespecial 43, 3) := by decide +kernel
theorem dX1_asLaw_33 : decode cX1_asLaw 33 = .ok (.areturn, 1) := by decide +kernel
theorem dX2_init_0 : decode cX2_init 0 = .ok (.aload_n 0, 1) := by decide +kernel
theorem dX2_init_1 : decode cX2_init 1 = .ok (.invokespecial 1, 3) := by decide +kernel
theorem dX2_init_4 : decode cX2_init 4 = .ok (.aload_n 0, 1) := by decide +kernel
theorem dX2_init_5 : decode cX2_init 5 = .ok (.aload_n 1, 1) := by decide +kernel
theorem dX2_init_6 : decode cX2_init 6 = .ok (.putfield 7, 3) := by decide +kernel
theorem dX2_init_9 : decode cX2_init 9 = .ok (.aload_n 0, 1) := by decide +kernel
theorem dX2_init_10 : decode cX2_init 10 = .ok (.iconst 1, 1) := by decide +kernel
theorem dX2_init_11 : decode cX2_init 11 = .ok (.iload_n 2, 1) := by decide +kernel
theorem dX2_init_12 : decode cX2_init 12 = .ok (.invokestatic 13, 3) := by decide +kernel
theorem dX2_init_15 : decode cX2_init 15 = .ok (.newarray .int, 2) := by decide +kernel
theorem dX2_init_17 : decode cX2_init 17 = .ok (.putfield 19, 3) := by decide +kernel
theorem dX2_init_20 : decode cX2_init 20 = .ok (.return_, 1) := by decide +kernel
theorem dX2_tell_0 : decode cX2_tell 0 = .ok (.iconst 0, 1) := by decide +kernel
theorem dX2_tell_1 : decode cX2_tell 1 = .ok (.istore_n 2, 1) := by decide +kernel
theorem dX2_tell_2 : decode cX2_tell 2 = .ok (.iconst 0, 1) := by decide +kernel
theorem dX2_tell_3 : decode cX2_tell 3 = .ok (.istore_n 3, 1) := by decide +kernel
theorem dX2_tell_4 : decode cX2_tell 4 = .ok (.iload_n 3, 1) := by decide +kernel
theorem dX2_tell_5 : decode cX2_tell 5 = .ok (.aload_n 0, 1) := by decide +kernel
theorem dX2_tell_6 : decode cX2_tell 6 = .ok (.getfield 7, 3) := by decide +kernel
theorem dX2_tell_9 : decode cX2_tell 9 = .ok (.arraylength, 1) := by decide +kernel
theorem dX2_tell_10 : decode cX2_tell 10 = .ok (.if_icmp .ge 196, 3) := by decide +kernel
theorem dX2_tell_13 : decode cX2_tell 13 = .ok (.aload_n 0, 1) := by decide +kernel
theorem dX2_tell_14 : decode cX2_tell 14 = .ok (.getfield 7, 3) := by decide +kernel
theorem dX2_tell_17 : decode cX2_tell 17 = .ok (.iload_n 3, 1) := by decide +kernel
theorem dX2_tell_18 : decode cX2_tell 18 = .ok (.iaload, 1) := by decide +kernel
theorem dX2_tell_19 : decode cX2_tell 19 = .ok (.istore 4, 2) := by decide +kernel
theorem dX2_tell_21 : decode cX2_tell 21 = .ok (.iload 4, 2) := by decide +kernel
theorem dX2_tell_23 : decode cX2_tell 23 = .ok (.bipush (-5), 2) := by decide +kernel
theorem dX2_tell_25 : decode cX2_tell 25 = .ok (.if_icmp .lt 49, 3) := by decide +kernel
theorem dX2_tell_28 : decode cX2_tell 28 = .ok (.iload_n 2, 1) := by decide +kernel
theorem dX2_tell_29 : decode cX2_tell 29 = .ok (.aload_n 0, 1) := by decide +kernel
theorem dX2_tell_30 : decode cX2_tell 30 = .ok (.getfield 19, 3) := by decide +kernel
theorem dX2_tell_33 : decode cX2_tell 33 = .ok (.arraylength, 1) := by decide +kernel
theorem dX2_tell_34 : decode cX2_tell 34 = .ok (.if_icmp .ge 166, 3) := by decide +kernel
theorem dX2_tell_37 : decode cX2_tell 37 = .ok (.iload 4, 2) := by decide +kernel
theorem dX2_tell_39 : decode cX2_tell 39 = .ok (.ineg, 1) := by decide +kernel
theorem dX2_tell_40 : decode cX2_tell 40 = .ok (.aload_n 1, 1) := by decide +kernel
theorem dX2_tell_41 : decode cX2_tell 41 = .ok (.arraylength, 1) := by decide +kernel
theorem dX2_tell_42 : decode cX2_tell 42 = .ok (.if_icmp .gt 158, 3) := by decide +kernel
theorem dX2_tell_45 : decode cX2_tell 45 = .ok (.aload_n 0, 1) := by decide +kernel
theorem dX2_tell_46 : decode cX2_tell 46 = .ok (.getfield 19, 3) := by decide +kernel
theorem dX2_tell_49 : decode cX2_tell 49 = .ok (.iload_n 2, 1) := by decide +kernel
theorem dX2_tell_50 : decode cX2_tell 50 = .ok (.iload 4, 2) := by decide +kernel
theorem dX2_tell_52 : decode cX2_tell 52 = .ok (.ifCond .lt 8, 3) := by decide +kernel
theorem dX2_tell_55 : decode cX2_tell 55 = .ok (.iload 4, 2) := by decide +kernel
theorem dX2_tell_57 : decode cX2_tell 57 = .ok (.goto 10, 3) := by decide +kernel
theorem dX2_tell_60 : decode cX2_tell 60 = .ok (.aload_n 1, 1) := by decide +kernel
theorem dX2_tell_61 : decode cX2_tell 61 = .ok (.iload 4, 2) := by decide +kernel
theorem dX2_tell_63 : decode cX2_tell 63 = .ok (.ineg, 1) := by decide +kernel
theorem dX2_tell_64 : decode cX2_tell 64 = .ok (.iconst 1, 1) := by decide +kernel
theorem dX2_tell_65 : decode cX2_tell 65 = .ok (.isub, 1) := by decide +kernel
theorem dX2_tell_66 : decode cX2_tell 66 = .ok (.iaload, 1) := by decide +kernel
theorem dX2_tell_67 : decode cX2_tell 67 = .ok (.iastore, 1) := by decide +kernel
theorem dX2_tell_68 : decode cX2_tell 68 = .ok (.iinc 2 1, 3) := by decide +kernel
theorem dX2_tell_71 : decode cX2_tell 71 = .ok (.goto 129, 3) := by decide +kernel
theorem dX2_tell_74 : decode cX2_tell 74 = .ok (.iload 4, 2) := by decide +kernel
theorem dX2_tell_76 : decode cX2_tell 76 = .ok (.bipush (-14), 2) := by decide +kernel
theorem dX2_tell_78 : decode cX2_tell 78 = .ok (.if_icmp .ne 29, 3) := by decide +kernel
theorem dX2_tell_81 : decode cX2_tell 81 = .ok (.iload_n 2, 1) := by decide +kernel
theorem dX2_tell_82 : decode cX2_tell 82 = .ok (.iconst 1, 1) := by decide +kernel
theorem dX2_tell_83 : decode cX2_tell 83 = .ok (.if_icmp .lt 117, 3) := by decide +kernel
theorem dX2_tell_86 : decode cX2_tell 86 = .ok (.aload_n 0, 1) := by decide +kernel
theorem dX2_tell_87 : decode cX2_tell 87 = .ok (.getfield 19, 3) := by decide +kernel
theorem dX2_tell_90 : decode cX2_tell 90 = .ok (.iload_n 2, 1) := by decide +kernel
theorem dX2_tell_91 : decode cX2_tell 91 = .ok (.iconst 1, 1) := by decide +kernel
theorem dX2_tell_92 : decode cX2_tell 92 = .ok (.isub, 1) := by decide +kernel
theorem dX2_tell_93 : decode cX2_tell 93 = .ok (.iconst 1, 1) := by decide +kernel
theorem dX2_tell_94 : decode cX2_tell 94 = .ok (.aload_n 0, 1) := by decide +kernel
theorem dX2_tell_95 : decode cX2_tell 95 = .ok (.getfield 19, 3) := by decide +kernel
theorem dX2_tell_98 : decode cX2_tell 98 = .ok (.iload_n 2, 1) := by decide +kernel
theorem dX2_tell_99 : decode cX2_tell 99 = .ok (.iconst 1, 1) := by decide +kernel
theorem dX2_tell_100 : decode cX2_tell 100 = .ok (.isub, 1) := by decide +kernel
theorem dX2_tell_101 : decode cX2_tell 101 = .ok (.iaload, 1) := by decide +kernel
theorem dX2_tell_102 : decode cX2_tell 102 = .ok (.isub, 1) := by decide +kernel
theorem dX2_tell_103 : decode cX2_tell 103 = .ok (.iastore, 1) := by decide +kernel
theorem dX2_tell_104 : decode cX2_tell 104 = .ok (.goto 96, 3) := by decide +kernel
theorem dX2_tell_107 : decode cX2_tell 107 = .ok (.iload 4, 2) := by decide +kernel
theorem dX2_tell_109 : decode cX2_tell 109 = .ok (.bipush (-15), 2) := by decide +kernel
theorem dX2_tell_111 : decode cX2_tell 111 = .ok (.if_icmp .ne 52, 3) := by decide +kernel
theorem dX2_tell_114 : decode cX2_tell 114 = .ok (.iload_n 2, 1) := by decide +kernel
theorem dX2_tell_115 : decode cX2_tell 115 = .ok (.iconst 3, 1) := by decide +kernel
theorem dX2_tell_116 : decode cX2_tell 116 = .ok (.if_icmp .lt 84, 3) := by decide +kernel
theorem dX2_tell_119 : decode cX2_tell 119 = .ok (.aload_n 0, 1) := by decide +kernel
theorem dX2_tell_120 : decode cX2_tell 120 = .ok (.getfield 19, 3) := by decide +kernel
theorem dX2_tell_123 : decode cX2_tell 123 = .ok (.iload_n 2, 1) := by decide +kernel
theorem dX2_tell_124 : decode cX2_tell 124 = .ok (.iconst 3, 1) := by decide +kernel
theorem dX2_tell_125 : decode cX2_tell 125 = .ok (.isub, 1) := by decide +kernel
theorem dX2_tell_126 : decode cX2_tell 126 = .ok (.aload_n 0, 1) := by decide +kernel
theorem dX2_tell_127 : decode cX2_tell 127 = .ok (.getfield 19, 3) := by decide +kernel
theorem dX2_tell_130 : decode cX2_tell 130 = .ok (.iload_n 2, 1) := by decide +kernel
theorem dX2_tell_131 : decode cX2_tell 131 = .ok (.iconst 3, 1) := by decide +kernel
theorem dX2_tell_132 : decode cX2_tell 132 = .ok (.isub, 1) := by decide +kernel
theorem dX2_tell_133 : decode cX2_tell 133 = .ok (.iaload, 1) := by decide +kernel
theorem dX2_tell_134 : decode cX2_tell 134 = .ok (.ifCond .eq 14, 3) := by decide +kernel
theorem dX2_tell_137 : decode cX2_tell 137 = .ok (.aload_n 0, 1) := by decide +kernel
theorem dX2_tell_138 : decode cX2_tell 138 = .ok (.getfield 19, 3) := by decide +kernel
theorem dX2_tell_141 : decode cX2_tell 141 = .ok (.iload_n 2, 1) := by decide +kernel
theorem dX2_tell_142 : decode cX2_tell 142 = .ok (.iconst 2, 1) := by decide +kernel
theorem dX2_tell_143 : decode cX2_tell 143 = .ok (.isub, 1) := by decide +kernel
theorem dX2_tell_144 : decode cX2_tell 144 = .ok (.iaload, 1) := by decide +kernel
theorem dX2_tell_145 : decode cX2_tell 145 = .ok (.goto 11, 3) := by decide +kernel
theorem dX2_tell_148 : decode cX2_tell 148 = .ok (.aload_n 0, 1) := by decide +kernel
theorem dX2_tell_149 : decode cX2_tell 149 = .ok (.getfield 19, 3) := by decide +kernel
theorem dX2_tell_152 : decode cX2_tell 152 = .ok (.iload_n 2, 1) := by decide +kernel
theorem dX2_tell_153 : decode cX2_tell 153 = .ok (.iconst 1, 1) := by decide +kernel
theorem dX2_tell_154 : decode cX2_tell 154 = .ok (.isub, 1) := by decide +kernel
theorem dX2_tell_155 : decode cX2_tell 155 = .ok (.iaload, 1) := by decide +kernel
theorem dX2_tell_156 : decode cX2_tell 156 = .ok (.iastore, 1) := by decide +kernel
theorem dX2_tell_157 : decode cX2_tell 157 = .ok (.iinc 2 (-2), 3) := by decide +kernel
theorem dX2_tell_160 : decode cX2_tell 160 = .ok (.goto 40, 3) := by decide +kernel
theorem dX2_tell_163 : decode cX2_tell 163 = .ok (.iload_n 2, 1) := by decide +kernel
theorem dX2_tell_164 : decode cX2_tell 164 = .ok (.iconst 2, 1) := by decide +kernel
theorem dX2_tell_165 : decode cX2_tell 165 = .ok (.if_icmp .lt 35, 3) := by decide +kernel
theorem dX2_tell_168 : decode cX2_tell 168 = .ok (.aload_n 0, 1) := by decide +kernel
theorem dX2_tell_169 : decode cX2_tell 169 = .ok (.getfield 19, 3) := by decide +kernel
theorem dX2_tell_172 : decode cX2_tell 172 = .ok (.iload_n 2, 1) := by decide +kernel
theorem dX2_tell_173 : decode cX2_tell 173 = .ok (.iconst 2, 1) := by decide +kernel
theorem dX2_tell_174 : decode cX2_tell 174 = .ok (.isub, 1) := by decide +kernel
theorem dX2_tell_175 : decode cX2_tell 175 = .ok (.iload 4, 2) := by decide +kernel
theorem dX2_tell_177 : decode cX2_tell 177 = .ok (.aload_n 0, 1) := by decide +kernel
theorem dX2_tell_178 : decode cX2_tell 178 = .ok (.getfield 19, 3) := by decide +kernel
theorem dX2_tell_181 : decode cX2_tell 181 = .ok (.iload_n 2, 1) := by decide +kernel
theorem dX2_tell_182 : decode cX2_tell 182 = .ok (.iconst 2, 1) := by decide +kernel
theorem dX2_tell_183 : decode cX2_tell 183 = .ok (.isub, 1) := by decide +kernel
theorem dX2_tell_184 : decode cX2_tell 184 = .ok (.iaload, 1) := by decide +kernel
theorem dX2_tell_185 : decode cX2_tell 185 = .ok (.aload_n 0, 1) := by decide +kernel
theorem dX2_tell_186 : decode cX2_tell 186 = .ok (.getfield 19, 3) := by decide +kernel
theorem dX2_tell_189 : decode cX2_tell 189 = .ok (.iload_n 2, 1) := by decide +kernel
theorem dX2_tell_190 : decode cX2_tell 190 = .ok (.iconst 1, 1) := by decide +kernel
theorem dX2_tell_191 : decode cX2_tell 191 = .ok (.isub, 1) := by decide +kernel
theorem dX2_tell_192 : decode cX2_tell 192 = .ok (.iaload, 1) := by decide +kernel
theorem dX2_tell_193 : decode cX2_tell 193 = .ok (.invokestatic 22, 3) := by decide +kernel
theorem dX2_tell_196 : decode cX2_tell 196 = .ok (.iastore, 1) := by decide +kernel
theorem dX2_tell_197 : decode cX2_tell 197 = .ok (.iinc 2 (-1), 3) := by decide +kernel
theorem dX2_tell_200 : decode cX2_tell 200 = .ok (.iinc 3 1, 3) := by decide +kernel
theorem dX2_tell_203 : decode cX2_tell 203 = .ok (.goto (-199), 3) := by decide +kernel
theorem dX2_tell_206 : decode cX2_tell 206 = .ok (.aload_n 0, 1) := by decide +kernel
theorem dX2_tell_207 : decode cX2_tell 207 = .ok (.getfield 19, 3) := by decide +kernel
theorem dX2_tell_210 : decode cX2_tell 210 = .ok (.iconst 0, 1) := by decide +kernel
theorem dX2_tell_211 : decode cX2_tell 211 = .ok (.iaload, 1) := by decide +kernel
theorem dX2_tell_212 : decode cX2_tell 212 = .ok (.ireturn, 1) := by decide +kernel
theorem dX2_joined_0 : decode cX2_joined 0 = .ok (.iload_n 0, 1) := by decide +kernel
theorem dX2_joined_1 : decode cX2_joined 1 = .ok (.tableswitch 115 (-13) (-6) #[111, 107, 96, 85, 74, 65, 56, 47], 47) := by decide +kernel
theorem dX2_joined_48 : decode cX2_joined 48 = .ok (.iload_n 1, 1) := by decide +kernel
theorem dX2_joined_49 : decode cX2_joined 49 = .ok (.i2l, 1) := by decide +kernel
theorem dX2_joined_50 : decode cX2_joined 50 = .ok (.iload_n 2, 1) := by decide +kernel
theorem dX2_joined_51 : decode cX2_joined 51 = .ok (.i2l, 1) := by decide +kernel
theorem dX2_joined_52 : decode cX2_joined 52 = .ok (.ladd, 1) := by decide +kernel
theorem dX2_joined_53 : decode cX2_joined 53 = .ok (.invokestatic 26, 3) := by decide +kernel
theorem dX2_joined_56 : decode cX2_joined 56 = .ok (.ireturn, 1) := by decide +kernel
theorem dX2_joined_57 : decode cX2_joined 57 = .ok (.iload_n 1, 1) := by decide +kernel
theorem dX2_joined_58 : decode cX2_joined 58 = .ok (.i2l, 1) := by decide +kernel
theorem dX2_joined_59 : decode cX2_joined 59 = .ok (.iload_n 2, 1) := by decide +kernel
theorem dX2_joined_60 : decode cX2_joined 60 = .ok (.i2l, 1) := by decide +kernel
theorem dX2_joined_61 : decode cX2_joined 61 = .ok (.lsub, 1) := by decide +kernel
theorem dX2_joined_62 : decode cX2_joined 62 = .ok (.invokestatic 26, 3) := by decide +kernel
theorem dX2_joined_65 : decode cX2_joined 65 = .ok (.ireturn, 1) := by decide +kernel
theorem dX2_joined_66 : decode cX2_joined 66 = .ok (.iload_n 1, 1) := by decide +kernel
theorem dX2_joined_67 : decode cX2_joined 67 = .ok (.i2l, 1) := by decide +kernel
theorem dX2_joined_68 : decode cX2_joined 68 = .ok (.iload_n 2, 1) := by decide +kernel
theorem dX2_joined_69 : decode cX2_joined 69 = .ok (.i2l, 1) := by decide +kernel
theorem dX2_joined_70 : decode cX2_joined 70 = .ok (.lmul, 1) := by decide +kernel
theorem dX2_joined_71 : decode cX2_joined 71 = .ok (.invokestatic 26, 3) := by decide +kernel
theorem dX2_joined_74 : decode cX2_joined 74 = .ok (.ireturn, 1) := by decide +kernel
theorem dX2_joined_75 : decode cX2_joined 75 = .ok (.iload_n 1, 1) := by decide +kernel
theorem dX2_joined_76 : decode cX2_joined 76 = .ok (.iload_n 2, 1) := by decide +kernel
theorem dX2_joined_77 : decode cX2_joined 77 = .ok (.if_icmp .ne 7, 3) := by decide +kernel
theorem dX2_joined_80 : decode cX2_joined 80 = .ok (.iconst 1, 1) := by decide +kernel
theorem dX2_joined_81 : decode cX2_joined 81 = .ok (.goto 4, 3) := by decide +kernel
theorem dX2_joined_84 : decode cX2_joined 84 = .ok (.iconst 0, 1) := by decide +kernel
theorem dX2_joined_85 : decode cX2_joined 85 = .ok (.ireturn, 1) := by decide +kernel
theorem dX2_joined_86 : decode cX2_joined 86 = .ok (.iload_n 1, 1) := by decide +kernel
theorem dX2_joined_87 : decode cX2_joined 87 = .ok (.iload_n 2, 1) := by decide +kernel
theorem dX2_joined_88 : decode cX2_joined 88 = .ok (.if_icmp .ge 7, 3) := by decide +kernel
theorem dX2_joined_91 : decode cX2_joined 91 = .ok (.iconst 1, 1) := by decide +kernel
theorem dX2_joined_92 : decode cX2_joined 92 = .ok (.goto 4, 3) := by decide +kernel
theorem dX2_joined_95 : decode cX2_joined 95 = .ok (.iconst 0, 1) := by decide +kernel
theorem dX2_joined_96 : decode cX2_joined 96 = .ok (.ireturn, 1) := by decide +kernel
theorem dX2_joined_97 : decode cX2_joined 97 = .ok (.iload_n 1, 1) := by decide +kernel
theorem dX2_joined_98 : decode cX2_joined 98 = .ok (.iload_n 2, 1) := by decide +kernel
theorem dX2_joined_99 : decode cX2_joined 99 = .ok (.if_icmp .le 7, 3) := by decide +kernel
theorem dX2_joined_102 : decode cX2_joined 102 = .ok (.iconst 1, 1) := by decide +kernel
theorem dX2_joined_103 : decode cX2_joined 103 = .ok (.goto 4, 3) := by decide +kernel
theorem dX2_joined_106 : decode cX2_joined 106 = .ok (.iconst 0, 1) := by decide +kernel
theorem dX2_joined_107 : decode cX2_joined 107 = .ok (.ireturn, 1) := by decide +kernel
theorem dX2_joined_108 : decode cX2_joined 108 = .ok (.iload_n 1, 1) := by decide +kernel
theorem dX2_joined_109 : decode cX2_joined 109 = .ok (.iload_n 2, 1) := by decide +kernel
theorem dX2_joined_110 : decode cX2_joined 110 = .ok (.iand, 1) := by decide +kernel
theorem dX2_joined_111 : decode cX2_joined 111 = .ok (.ireturn, 1) := by decide +kernel
theorem dX2_joined_112 : decode cX2_joined 112 = .ok (.iload_n 1, 1) := by decide +kernel
theorem dX2_joined_113 : decode cX2_joined 113 = .ok (.iload_n 2, 1) := by decide +kernel
theorem dX2_joined_114 : decode cX2_joined 114 = .ok (.ior, 1) := by decide +kernel
theorem dX2_joined_115 : decode cX2_joined 115 = .ok (.ireturn, 1) := by decide +kernel
theorem dX2_joined_116 : decode cX2_joined 116 = .ok (.iconst 0, 1) := by decide +kernel
theorem dX2_joined_117 : decode cX2_joined 117 = .ok (.ireturn, 1) := by decide +kernel
theorem dX2_kept_0 : decode cX2_kept 0 = .ok (.lload_n 0, 1) := by decide +kernel
theorem dX2_kept_1 : decode cX2_kept 1 = .ok (.ldc2_w 30, 3) := by decide +kernel
theorem dX2_kept_4 : decode cX2_kept 4 = .ok (.lcmp, 1) := by decide +kernel
theorem dX2_kept_5 : decode cX2_kept 5 = .ok (.ifCond .le 6, 3) := by decide +kernel
theorem dX2_kept_8 : decode cX2_kept 8 = .ok (.ldc 32, 2) := by decide +kernel
theorem dX2_kept_10 : decode cX2_kept 10 = .ok (.ireturn, 1) := by decide +kernel
theorem dX2_kept_11 : decode cX2_kept 11 = .ok (.lload_n 0, 1) := by decide +kernel
theorem dX2_kept_12 : decode cX2_kept 12 = .ok (.ldc2_w 33, 3) := by decide +kernel
theorem dX2_kept_15 : decode cX2_kept 15 = .ok (.lcmp, 1) := by decide +kernel
theorem dX2_kept_16 : decode cX2_kept 16 = .ok (.ifCond .ge 8, 3) := by decide +kernel
theorem dX2_kept_19 : decode cX2_kept 19 = .ok (.ldc 35, 2) := by decide +kernel
theorem dX2_kept_21 : decode cX2_kept 21 = .ok (.goto 5, 3) := by decide +kernel
theorem dX2_kept_24 : decode cX2_kept 24 = .ok (.lload_n 0, 1) := by decide +kernel
theorem dX2_kept_25 : decode cX2_kept 25 = .ok (.l2i, 1) := by decide +kernel
theorem dX2_kept_26 : decode cX2_kept 26 = .ok (.ireturn, 1) := by decide +kernel
theorem dX0_init_0 : decode cX0_init 0 = .ok (.aload_n 0, 1) := by decide +kernel
theorem dX0_init_1 : decode cX0_init 1 = .ok (.invokespecial 1, 3) := by decide +kernel
theorem dX0_init_4 : decode cX0_init 4 = .ok (.aload_n 0, 1) := by decide +kernel
theorem dX0_init_5 : decode cX0_init 5 = .ok (.aload_n 1, 1) := by decide +kernel
theorem dX0_init_6 : decode cX0_init 6 = .ok (.getfield 7, 3) := by decide +kernel
theorem dX0_init_9 : decode cX0_init 9 = .ok (.putfield 13, 3) := by decide +kernel
theorem dX0_init_12 : decode cX0_init 12 = .ok (.aload_n 0, 1) := by decide +kernel
theorem dX0_init_13 : decode cX0_init 13 = .ok (.aload_n 1, 1) := by decide +kernel
theorem dX0_init_14 : decode cX0_init 14 = .ok (.getfield 16, 3) := by decide +kernel
theorem dX0_init_17 : decode cX0_init 17 = .ok (.putfield 19, 3) := by decide +kernel
theorem dX0_init_20 : decode cX0_init 20 = .ok (.aload_n 0, 1) := by decide +kernel
theorem dX0_init_21 : decode cX0_init 21 = .ok (.aload_n 1, 1) := by decide +kernel
theorem dX0_init_22 : decode cX0_init 22 = .ok (.getfield 20, 3) := by decide +kernel
theorem dX0_init_25 : decode cX0_init 25 = .ok (.putfield 23, 3) := by decide +kernel
theorem dX0_init_28 : decode cX0_init 28 = .ok (.aload_n 0, 1) := by decide +kernel
theorem dX0_init_29 : decode cX0_init 29 = .ok (.aload_n 1, 1) := by decide +kernel
theorem dX0_init_30 : decode cX0_init 30 = .ok (.getfield 26, 3) := by decide +kernel
theorem dX0_init_33 : decode cX0_init 33 = .ok (.aload_n 1, 1) := by decide +kernel
theorem dX0_init_34 : decode cX0_init 34 = .ok (.getfield 7, 3) := by decide +kernel
theorem dX0_init_37 : decode cX0_init 37 = .ok (.invokestatic 30, 3) := by decide +kernel
theorem dX0_init_40 : decode cX0_init 40 = .ok (.putfield 36, 3) := by decide +kernel
theorem dX0_init_43 : decode cX0_init 43 = .ok (.aload_n 0, 1) := by decide +kernel
theorem dX0_init_44 : decode cX0_init 44 = .ok (.aload_n 1, 1) := by decide +kernel
theorem dX0_init_45 : decode cX0_init 45 = .ok (.getfield 39, 3) := by decide +kernel
theorem dX0_init_48 : decode cX0_init 48 = .ok (.aload_n 1, 1) := by decide +kernel
theorem dX0_init_49 : decode cX0_init 49 = .ok (.getfield 7, 3) := by decide +kernel
theorem dX0_init_52 : decode cX0_init 52 = .ok (.invokestatic 30, 3) := by decide +kernel
theorem dX0_init_55 : decode cX0_init 55 = .ok (.putfield 42, 3) := by decide +kernel
theorem dX0_init_58 : decode cX0_init 58 = .ok (.aload_n 0, 1) := by decide +kernel
theorem dX0_init_59 : decode cX0_init 59 = .ok (.aload_n 1, 1) := by decide +kernel
theorem dX0_init_60 : decode cX0_init 60 = .ok (.getfield 45, 3) := by decide +kernel
theorem dX0_init_63 : decode cX0_init 63 = .ok (.putfield 48, 3) := by decide +kernel
theorem dX0_init_66 : decode cX0_init 66 = .ok (.aload_n 0, 1) := by decide +kernel
theorem dX0_init_67 : decode cX0_init 67 = .ok (.aload_n 1, 1) := by decide +kernel
theorem dX0_init_68 : decode cX0_init 68 = .ok (.getfield 49, 3) := by decide +kernel
theorem dX0_init_71 : decode cX0_init 71 = .ok (.invokevirtual 53, 3) := by decide +kernel
theorem dX0_init_74 : decode cX0_init 74 = .ok (.putfield 59, 3) := by decide +kernel
theorem dX0_init_77 : decode cX0_init 77 = .ok (.aload_n 0, 1) := by decide +kernel
theorem dX0_init_78 : decode cX0_init 78 = .ok (.aload_n 1, 1) := by decide +kernel
theorem dX0_init_79 : decode cX0_init 79 = .ok (.getfield 62, 3) := by decide +kernel
theorem dX0_init_82 : decode cX0_init 82 = .ok (.invokevirtual 53, 3) := by decide +kernel
theorem dX0_init_85 : decode cX0_init 85 = .ok (.putfield 65, 3) := by decide +kernel
theorem dX0_init_88 : decode cX0_init 88 = .ok (.return_, 1) := by decide +kernel
