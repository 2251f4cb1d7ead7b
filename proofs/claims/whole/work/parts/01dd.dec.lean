theorem dX11_weightOf_9 : decode cX11_weightOf 9 = .ok (.lconst 0, 1) := by decide +kernel
theorem dX11_weightOf_10 : decode cX11_weightOf 10 = .ok (.lstore_n 3, 1) := by decide +kernel
theorem dX11_weightOf_11 : decode cX11_weightOf 11 = .ok (.iconst 0, 1) := by decide +kernel
theorem dX11_weightOf_12 : decode cX11_weightOf 12 = .ok (.istore 5, 2) := by decide +kernel
theorem dX11_weightOf_14 : decode cX11_weightOf 14 = .ok (.iload 5, 2) := by decide +kernel
theorem dX11_weightOf_16 : decode cX11_weightOf 16 = .ok (.aload_n 0, 1) := by decide +kernel
theorem dX11_weightOf_17 : decode cX11_weightOf 17 = .ok (.getfield 62, 3) := by decide +kernel
theorem dX11_weightOf_20 : decode cX11_weightOf 20 = .ok (.getfield 281, 3) := by decide +kernel
theorem dX11_weightOf_23 : decode cX11_weightOf 23 = .ok (.if_icmp .ge 52, 3) := by decide +kernel
theorem dX11_weightOf_26 : decode cX11_weightOf 26 = .ok (.aload_n 0, 1) := by decide +kernel
theorem dX11_weightOf_27 : decode cX11_weightOf 27 = .ok (.getfield 87, 3) := by decide +kernel
theorem dX11_weightOf_30 : decode cX11_weightOf 30 = .ok (.iload 5, 2) := by decide +kernel
theorem dX11_weightOf_32 : decode cX11_weightOf 32 = .ok (.invokevirtual 327, 3) := by decide +kernel
theorem dX11_weightOf_35 : decode cX11_weightOf 35 = .ok (.lstore 6, 2) := by decide +kernel
theorem dX11_weightOf_37 : decode cX11_weightOf 37 = .ok (.lload 6, 2) := by decide +kernel
theorem dX11_weightOf_39 : decode cX11_weightOf 39 = .ok (.lconst 0, 1) := by decide +kernel
theorem dX11_weightOf_40 : decode cX11_weightOf 40 = .ok (.lcmp, 1) := by decide +kernel
theorem dX11_weightOf_41 : decode cX11_weightOf 41 = .ok (.ifCond .eq 28, 3) := by decide +kernel
theorem dX11_weightOf_44 : decode cX11_weightOf 44 = .ok (.aload_n 0, 1) := by decide +kernel
theorem dX11_weightOf_45 : decode cX11_weightOf 45 = .ok (.getfield 71, 3) := by decide +kernel
theorem dX11_weightOf_48 : decode cX11_weightOf 48 = .ok (.iload 5, 2) := by decide +kernel
theorem dX11_weightOf_50 : decode cX11_weightOf 50 = .ok (.aload_n 0, 1) := by decide +kernel
theorem dX11_weightOf_51 : decode cX11_weightOf 51 = .ok (.getfield 27, 3) := by decide +kernel
theorem dX11_weightOf_54 : decode cX11_weightOf 54 = .ok (.getfield 134, 3) := by decide +kernel
theorem dX11_weightOf_57 : decode cX11_weightOf 57 = .ok (.invokevirtual 183, 3) := by decide +kernel
theorem dX11_weightOf_60 : decode cX11_weightOf 60 = .ok (.iload_n 2, 1) := by decide +kernel
theorem dX11_weightOf_61 : decode cX11_weightOf 61 = .ok (.if_icmp .ne 8, 3) := by decide +kernel
theorem dX11_weightOf_64 : decode cX11_weightOf 64 = .ok (.lload_n 3, 1) := by decide +kernel
theorem dX11_weightOf_65 : decode cX11_weightOf 65 = .ok (.lload 6, 2) := by decide +kernel
theorem dX11_weightOf_67 : decode cX11_weightOf 67 = .ok (.ladd, 1) := by decide +kernel
theorem dX11_weightOf_68 : decode cX11_weightOf 68 = .ok (.lstore_n 3, 1) := by decide +kernel
theorem dX11_weightOf_69 : decode cX11_weightOf 69 = .ok (.iinc 5 1, 3) := by decide +kernel
theorem dX11_weightOf_72 : decode cX11_weightOf 72 = .ok (.goto (-58), 3) := by decide +kernel
theorem dX11_weightOf_75 : decode cX11_weightOf 75 = .ok (.lload_n 3, 1) := by decide +kernel
theorem dX11_weightOf_76 : decode cX11_weightOf 76 = .ok (.lreturn, 1) := by decide +kernel
theorem dX11_ofAll_0 : decode cX11_ofAll 0 = .ok (.iload_n 1, 1) := by decide +kernel
theorem dX11_ofAll_1 : decode cX11_ofAll 1 = .ok (.invokestatic 294, 3) := by decide +kernel
theorem dX11_ofAll_4 : decode cX11_ofAll 4 = .ok (.ifCond .ne 6, 3) := by decide +kernel
theorem dX11_ofAll_7 : decode cX11_ofAll 7 = .ok (.bipush (-2), 2) := by decide +kernel
theorem dX11_ofAll_9 : decode cX11_ofAll 9 = .ok (.ireturn, 1) := by decide +kernel
theorem dX11_ofAll_10 : decode cX11_ofAll 10 = .ok (.aload_n 0, 1) := by decide +kernel
theorem dX11_ofAll_11 : decode cX11_ofAll 11 = .ok (.iload_n 1, 1) := by decide +kernel
theorem dX11_ofAll_12 : decode cX11_ofAll 12 = .ok (.ifCond .ne 13, 3) := by decide +kernel
theorem dX11_ofAll_15 : decode cX11_ofAll 15 = .ok (.aload_n 0, 1) := by decide +kernel
theorem dX11_ofAll_16 : decode cX11_ofAll 16 = .ok (.getfield 106, 3) := by decide +kernel
theorem dX11_ofAll_19 : decode cX11_ofAll 19 = .ok (.getfield 143, 3) := by decide +kernel
theorem dX11_ofAll_22 : decode cX11_ofAll 22 = .ok (.goto 4, 3) := by decide +kernel
theorem dX11_ofAll_25 : decode cX11_ofAll 25 = .ok (.iconst 0, 1) := by decide +kernel
theorem dX11_ofAll_26 : decode cX11_ofAll 26 = .ok (.invokevirtual 330, 3) := by decide +kernel
theorem dX11_ofAll_29 : decode cX11_ofAll 29 = .ok (.ireturn, 1) := by decide +kernel
theorem dX11_ofOne_0 : decode cX11_ofOne 0 = .ok (.aload_n 0, 1) := by decide +kernel
theorem dX11_ofOne_1 : decode cX11_ofOne 1 = .ok (.iload_n 1, 1) := by decide +kernel
theorem dX11_ofOne_2 : decode cX11_ofOne 2 = .ok (.invokevirtual 153, 3) := by decide +kernel
theorem dX11_ofOne_5 : decode cX11_ofOne 5 = .ok (.ifCond .ne 6, 3) := by decide +kernel
theorem dX11_ofOne_8 : decode cX11_ofOne 8 = .ok (.bipush (-2), 2) := by decide +kernel
theorem dX11_ofOne_10 : decode cX11_ofOne 10 = .ok (.ireturn, 1) := by decide +kernel
theorem dX11_ofOne_11 : decode cX11_ofOne 11 = .ok (.iconst 0, 1) := by decide +kernel
theorem dX11_ofOne_12 : decode cX11_ofOne 12 = .ok (.istore_n 2, 1) := by decide +kernel
theorem dX11_ofOne_13 : decode cX11_ofOne 13 = .ok (.iconst 0, 1) := by decide +kernel
theorem dX11_ofOne_14 : decode cX11_ofOne 14 = .ok (.istore_n 3, 1) := by decide +kernel
theorem dX11_ofOne_15 : decode cX11_ofOne 15 = .ok (.iload_n 3, 1) := by decide +kernel
theorem dX11_ofOne_16 : decode cX11_ofOne 16 = .ok (.aload_n 0, 1) := by decide +kernel
theorem dX11_ofOne_17 : decode cX11_ofOne 17 = .ok (.getfield 62, 3) := by decide +kernel
theorem dX11_ofOne_20 : decode cX11_ofOne 20 = .ok (.getfield 281, 3) := by decide +kernel
theorem dX11_ofOne_23 : decode cX11_ofOne 23 = .ok (.if_icmp .ge 31, 3) := by decide +kernel
theorem dX11_ofOne_26 : decode cX11_ofOne 26 = .ok (.iload_n 2, 1) := by decide +kernel
theorem dX11_ofOne_27 : decode cX11_ofOne 27 = .ok (.aload_n 0, 1) := by decide +kernel
theorem dX11_ofOne_28 : decode cX11_ofOne 28 = .ok (.getfield 71, 3) := by decide +kernel
theorem dX11_ofOne_31 : decode cX11_ofOne 31 = .ok (.iload_n 3, 1) := by decide +kernel
theorem dX11_ofOne_32 : decode cX11_ofOne 32 = .ok (.aload_n 0, 1) := by decide +kernel
theorem dX11_ofOne_33 : decode cX11_ofOne 33 = .ok (.getfield 27, 3) := by decide +kernel
theorem dX11_ofOne_36 : decode cX11_ofOne 36 = .ok (.getfield 134, 3) := by decide +kernel
theorem dX11_ofOne_39 : decode cX11_ofOne 39 = .ok (.invokevirtual 183, 3) := by decide +kernel
theorem dX11_ofOne_42 : decode cX11_ofOne 42 = .ok (.iload_n 1, 1) := by decide +kernel
theorem dX11_ofOne_43 : decode cX11_ofOne 43 = .ok (.ishr, 1) := by decide +kernel
theorem dX11_ofOne_44 : decode cX11_ofOne 44 = .ok (.iconst 1, 1) := by decide +kernel
theorem dX11_ofOne_45 : decode cX11_ofOne 45 = .ok (.iand, 1) := by decide +kernel
theorem dX11_ofOne_46 : decode cX11_ofOne 46 = .ok (.iadd, 1) := by decide +kernel
theorem dX11_ofOne_47 : decode cX11_ofOne 47 = .ok (.istore_n 2, 1) := by decide +kernel
theorem dX11_ofOne_48 : decode cX11_ofOne 48 = .ok (.iinc 3 1, 3) := by decide +kernel
theorem dX11_ofOne_51 : decode cX11_ofOne 51 = .ok (.goto (-36), 3) := by decide +kernel
theorem dX11_ofOne_54 : decode cX11_ofOne 54 = .ok (.iload_n 2, 1) := by decide +kernel
theorem dX11_ofOne_55 : decode cX11_ofOne 55 = .ok (.ireturn, 1) := by decide +kernel
theorem dX11_just_0 : decode cX11_just 0 = .ok (.iload_n 1, 1) := by decide +kernel
theorem dX11_just_1 : decode cX11_just 1 = .ok (.ifCond .ge 8, 3) := by decide +kernel
theorem dX11_just_4 : decode cX11_just 4 = .ok (.bipush (-3), 2) := by decide +kernel
theorem dX11_just_6 : decode cX11_just 6 = .ok (.goto 8, 3) := by decide +kernel
theorem dX11_just_9 : decode cX11_just 9 = .ok (.aload_n 0, 1) := by decide +kernel
theorem dX11_just_10 : decode cX11_just 10 = .ok (.iload_n 1, 1) := by decide +kernel
theorem dX11_just_11 : decode cX11_just 11 = .ok (.invokevirtual 330, 3) := by decide +kernel
theorem dX11_just_14 : decode cX11_just 14 = .ok (.ireturn, 1) := by decide +kernel
theorem dX11_rowsWithJust_0 : decode cX11_rowsWithJust 0 = .ok (.iconst 0, 1) := by decide +kernel
theorem dX11_rowsWithJust_1 : decode cX11_rowsWithJust 1 = .ok (.istore_n 2, 1) := by decide +kernel
theorem dX11_rowsWithJust_2 : decode cX11_rowsWithJust 2 = .ok (.iconst 0, 1) := by decide +kernel
theorem dX11_rowsWithJust_3 : decode cX11_rowsWithJust 3 = .ok (.istore_n 3, 1) := by decide +kernel
theorem dX11_rowsWithJust_4 : decode cX11_rowsWithJust 4 = .ok (.iload_n 3, 1) := by decide +kernel
theorem dX11_rowsWithJust_5 : decode cX11_rowsWithJust 5 = .ok (.aload_n 0, 1) := by decide +kernel
theorem dX11_rowsWithJust_6 : decode cX11_rowsWithJust 6 = .ok (.getfield 62, 3) := by decide +kernel
theorem dX11_rowsWithJust_9 : decode cX11_rowsWithJust 9 = .ok (.getfield 281, 3) := by decide +kernel
theorem dX11_rowsWithJust_12 : decode cX11_rowsWithJust 12 = .ok (.if_icmp .ge 34, 3) := by decide +kernel
theorem dX11_rowsWithJust_15 : decode cX11_rowsWithJust 15 = .ok (.aload_n 0, 1) := by decide +kernel
theorem dX11_rowsWithJust_16 : decode cX11_rowsWithJust 16 = .ok (.getfield 71, 3) := by decide +kernel
theorem dX11_rowsWithJust_19 : decode cX11_rowsWithJust 19 = .ok (.iload_n 3, 1) := by decide +kernel
theorem dX11_rowsWithJust_20 : decode cX11_rowsWithJust 20 = .ok (.aload_n 0, 1) := by decide +kernel
theorem dX11_rowsWithJust_21 : decode cX11_rowsWithJust 21 = .ok (.getfield 27, 3) := by decide +kernel
theorem dX11_rowsWithJust_24 : decode cX11_rowsWithJust 24 = .ok (.getfield 134, 3) := by decide +kernel
theorem dX11_rowsWithJust_27 : decode cX11_rowsWithJust 27 = .ok (.invokevirtual 183, 3) := by decide +kernel
theorem dX11_rowsWithJust_30 : decode cX11_rowsWithJust 30 = .ok (.invokestatic 186, 3) := by decide +kernel
theorem dX11_rowsWithJust_33 : decode cX11_rowsWithJust 33 = .ok (.iload_n 1, 1) := by decide +kernel
theorem dX11_rowsWithJust_34 : decode cX11_rowsWithJust 34 = .ok (.if_icmp .ne 6, 3) := by decide +kernel
theorem dX11_rowsWithJust_37 : decode cX11_rowsWithJust 37 = .ok (.iinc 2 1, 3) := by decide +kernel
theorem dX11_rowsWithJust_40 : decode cX11_rowsWithJust 40 = .ok (.iinc 3 1, 3) := by decide +kernel
theorem dX11_rowsWithJust_43 : decode cX11_rowsWithJust 43 = .ok (.goto (-39), 3) := by decide +kernel
theorem dX11_rowsWithJust_46 : decode cX11_rowsWithJust 46 = .ok (.iload_n 2, 1) := by decide +kernel
theorem dX11_rowsWithJust_47 : decode cX11_rowsWithJust 47 = .ok (.ireturn, 1) := by decide +kernel
theorem dX11_at_0 : decode cX11_at 0 = .ok (.lload_n 1, 1) := by decide +kernel
theorem dX11_at_1 : decode cX11_at 1 = .ok (.lconst 0, 1) := by decide +kernel
theorem dX11_at_2 : decode cX11_at 2 = .ok (.lcmp, 1) := by decide +kernel
theorem dX11_at_3 : decode cX11_at 3 = .ok (.ifCond .lt 11, 3) := by decide +kernel
theorem dX11_at_6 : decode cX11_at 6 = .ok (.lload_n 1, 1) := by decide +kernel
theorem dX11_at_7 : decode cX11_at 7 = .ok (.ldc2_w 279, 3) := by decide +kernel
theorem dX11_at_10 : decode cX11_at 10 = .ok (.lcmp, 1) := by decide +kernel
theorem dX11_at_11 : decode cX11_at 11 = .ok (.ifCond .le 6, 3) := by decide +kernel
theorem dX11_at_14 : decode cX11_at 14 = .ok (.bipush (-3), 2) := by decide +kernel
theorem dX11_at_16 : decode cX11_at 16 = .ok (.ireturn, 1) := by decide +kernel
theorem dX11_at_17 : decode cX11_at 17 = .ok (.aload_n 0, 1) := by decide +kernel
theorem dX11_at_18 : decode cX11_at 18 = .ok (.lload_n 1, 1) := by decide +kernel
theorem dX11_at_19 : decode cX11_at 19 = .ok (.invokevirtual 206, 3) := by decide +kernel
theorem dX11_at_22 : decode cX11_at 22 = .ok (.ireturn, 1) := by decide +kernel
theorem dX11_comesRound_0 : decode cX11_comesRound 0 = .ok (.aload_n 0, 1) := by decide +kernel
theorem dX11_comesRound_1 : decode cX11_comesRound 1 = .ok (.getfield 62, 3) := by decide +kernel
theorem dX11_comesRound_4 : decode cX11_comesRound 4 = .ok (.aload_n 0, 1) := by decide +kernel
theorem dX11_comesRound_5 : decode cX11_comesRound 5 = .ok (.getfield 106, 3) := by decide +kernel
theorem dX11_comesRound_8 : decode cX11_comesRound 8 = .ok (.getfield 161, 3) := by decide +kernel
theorem dX11_comesRound_11 : decode cX11_comesRound 11 = .ok (.invokevirtual 270, 3) := by decide +kernel
theorem dX11_comesRound_14 : decode cX11_comesRound 14 = .ok (.ireturn, 1) := by decide +kernel
theorem dX11_first_0 : decode cX11_first 0 = .ok (.iload_n 1, 1) := by decide +kernel
theorem dX11_first_1 : decode cX11_first 1 = .ok (.invokestatic 294, 3) := by decide +kernel
theorem dX11_first_4 : decode cX11_first 4 = .ok (.ifCond .ne 6, 3) := by decide +kernel
theorem dX11_first_7 : decode cX11_first 7 = .ok (.bipush (-2), 2) := by decide +kernel
theorem dX11_first_9 : decode cX11_first 9 = .ok (.ireturn, 1) := by decide +kernel
theorem dX11_first_10 : decode cX11_first 10 = .ok (.aload_n 0, 1) := by decide +kernel
theorem dX11_first_11 : decode cX11_first 11 = .ok (.getfield 62, 3) := by decide +kernel
theorem dX11_first_14 : decode cX11_first 14 = .ok (.aload_n 0, 1) := by decide +kernel
theorem dX11_first_15 : decode cX11_first 15 = .ok (.getfield 106, 3) := by decide +kernel
theorem dX11_first_18 : decode cX11_first 18 = .ok (.getfield 161, 3) := by decide +kernel
theorem dX11_first_21 : decode cX11_first 21 = .ok (.invokevirtual 270, 3) := by decide +kernel
theorem dX11_first_24 : decode cX11_first 24 = .ok (.istore_n 2, 1) := by decide +kernel
theorem dX11_first_25 : decode cX11_first 25 = .ok (.aload_n 0, 1) := by decide +kernel
theorem dX11_first_26 : decode cX11_first 26 = .ok (.getfield 71, 3) := by decide +kernel
theorem dX11_first_29 : decode cX11_first 29 = .ok (.iload_n 1, 1) := by decide +kernel
theorem dX11_first_30 : decode cX11_first 30 = .ok (.invokevirtual 324, 3) := by decide +kernel
theorem dX11_first_33 : decode cX11_first 33 = .ok (.istore_n 3, 1) := by decide +kernel
theorem dX11_first_34 : decode cX11_first 34 = .ok (.iconst 0, 1) := by decide +kernel
theorem dX11_first_35 : decode cX11_first 35 = .ok (.istore 4, 2) := by decide +kernel
theorem dX11_first_37 : decode cX11_first 37 = .ok (.iload 4, 2) := by decide +kernel
theorem dX11_first_39 : decode cX11_first 39 = .ok (.iload_n 2, 1) := by decide +kernel
theorem dX11_first_40 : decode cX11_first 40 = .ok (.if_icmp .ge 37, 3) := by decide +kernel
theorem dX11_first_43 : decode cX11_first 43 = .ok (.aload_n 0, 1) := by decide +kernel
theorem dX11_first_44 : decode cX11_first 44 = .ok (.getfield 71, 3) := by decide +kernel
theorem dX11_first_47 : decode cX11_first 47 = .ok (.aload_n 0, 1) := by decide +kernel
theorem dX11_first_48 : decode cX11_first 48 = .ok (.iload 4, 2) := by decide +kernel
theorem dX11_first_50 : decode cX11_first 50 = .ok (.i2l, 1) := by decide +kernel
theorem dX11_first_51 : decode cX11_first 51 = .ok (.invokevirtual 206, 3) := by decide +kernel
theorem dX11_first_54 : decode cX11_first 54 = .ok (.aload_n 0, 1) := by decide +kernel
theorem dX11_first_55 : decode cX11_first 55 = .ok (.getfield 27, 3) := by decide +kernel
theorem dX11_first_58 : decode cX11_first 58 = .ok (.getfield 134, 3) := by decide +kernel
theorem dX11_first_61 : decode cX11_first 61 = .ok (.invokevirtual 183, 3) := by decide +kernel
theorem dX11_first_64 : decode cX11_first 64 = .ok (.iload_n 3, 1) := by decide +kernel
theorem dX11_first_65 : decode cX11_first 65 = .ok (.if_icmp .ne 6, 3) := by decide +kernel
theorem dX11_first_68 : decode cX11_first 68 = .ok (.iload 4, 2) := by decide +kernel
theorem dX11_first_70 : decode cX11_first 70 = .ok (.ireturn, 1) := by decide +kernel
theorem dX11_first_71 : decode cX11_first 71 = .ok (.iinc 4 1, 3) := by decide +kernel
theorem dX11_first_74 : decode cX11_first 74 = .ok (.goto (-37), 3) := by decide +kernel
theorem dX11_first_77 : decode cX11_first 77 = .ok (.iconst (-1), 1) := by decide +kernel
theorem dX11_first_78 : decode cX11_first 78 = .ok (.ireturn, 1) := by decide +kernel
theorem dX11_often_0 : decode cX11_often 0 = .ok (.iload_n 1, 1) := by decide +kernel
theorem dX11_often_1 : decode cX11_often 1 = .ok (.invokestatic 294, 3) := by decide +kernel
theorem dX11_often_4 : decode cX11_often 4 = .ok (.ifCond .ne 7, 3) := by decide +kernel
theorem dX11_often_7 : decode cX11_often 7 = .ok (.ldc2_w 313, 3) := by decide +kernel
theorem dX11_often_10 : decode cX11_often 10 = .ok (.lreturn, 1) := by decide +kernel
theorem dX11_often_11 : decode cX11_often 11 = .ok (.lload_n 2, 1) := by decide +kernel
theorem dX11_often_12 : decode cX11_often 12 = .ok (.lconst 0, 1) := by decide +kernel
theorem dX11_often_13 : decode cX11_often 13 = .ok (.lcmp, 1) := by decide +kernel
theorem dX11_often_14 : decode cX11_often 14 = .ok (.ifCond .lt 11, 3) := by decide +kernel
theorem dX11_often_17 : decode cX11_often 17 = .ok (.lload_n 2, 1) := by decide +kernel
theorem dX11_often_18 : decode cX11_often 18 = .ok (.ldc2_w 279, 3) := by decide +kernel
theorem dX11_often_21 : decode cX11_often 21 = .ok (.lcmp, 1) := by decide +kernel
theorem dX11_often_22 : decode cX11_often 22 = .ok (.ifCond .le 7, 3) := by decide +kernel
theorem dX11_often_25 : decode cX11_often 25 = .ok (.ldc2_w 288, 3) := by decide +kernel
theorem dX11_often_28 : decode cX11_often 28 = .ok (.lreturn, 1) := by decide +kernel
theorem dX11_often_29 : decode cX11_often 29 = .ok (.iconst 1, 1) := by decide +kernel
theorem dX11_often_30 : decode cX11_often 30 = .ok (.aload_n 0, 1) := by decide +kernel
theorem dX11_often_31 : decode cX11_often 31 = .ok (.getfield 62, 3) := by decide +kernel
theorem dX11_often_34 : decode cX11_often 34 = .ok (.aload_n 0, 1) := by decide +kernel
theorem dX11_often_35 : decode cX11_often 35 = .ok (.getfield 106, 3) := by decide +kernel
theorem dX11_often_38 : decode cX11_often 38 = .ok (.getfield 161, 3) := by decide +kernel
theorem dX11_often_41 : decode cX11_often 41 = .ok (.invokevirtual 270, 3) := by decide +kernel
theorem dX11_often_44 : decode cX11_often 44 = .ok (.invokestatic 333, 3) := by decide +kernel
theorem dX11_often_47 : decode cX11_often 47 = .ok (.istore 4, 2) := by decide +kernel
theorem dX11_often_49 : decode cX11_often 49 = .ok (.lload_n 2, 1) := by decide +kernel
theorem dX11_often_50 : decode cX11_often 50 = .ok (.iload 4, 2) := by decide +kernel
theorem dX11_often_52 : decode cX11_often 52 = .ok (.i2l, 1) := by decide +kernel
theorem dX11_often_53 : decode cX11_often 53 = .ok (.ldiv, 1) := by decide +kernel
theorem dX11_often_54 : decode cX11_often 54 = .ok (.aload_n 0, 1) := by decide +kernel
theorem dX11_often_55 : decode cX11_often 55 = .ok (.iload_n 1, 1) := by decide +kernel
theorem dX11_often_56 : decode cX11_often 56 = .ok (.iload 4, 2) := by decide +kernel
theorem dX11_often_58 : decode cX11_often 58 = .ok (.invokevirtual 338, 3) := by decide +kernel
theorem dX11_often_61 : decode cX11_often 61 = .ok (.i2l, 1) := by decide +kernel
theorem dX11_often_62 : decode cX11_often 62 = .ok (.lmul, 1) := by decide +kernel
theorem dX11_often_63 : decode cX11_often 63 = .ok (.aload_n 0, 1) := by decide +kernel
theorem dX11_often_64 : decode cX11_often 64 = .ok (.iload_n 1, 1) := by decide +kernel
theorem dX11_often_65 : decode cX11_often 65 = .ok (.lload_n 2, 1) := by decide +kernel
theorem dX11_often_66 : decode cX11_often 66 = .ok (.iload 4, 2) := by decide +kernel
theorem dX11_often_68 : decode cX11_often 68 = .ok (.i2l, 1) := by decide +kernel
theorem dX11_often_69 : decode cX11_often 69 = .ok (.lrem, 1) := by decide +kernel
theorem dX11_often_70 : decode cX11_often 70 = .ok (.l2i, 1) := by decide +kernel
theorem dX11_often_71 : decode cX11_often 71 = .ok (.invokevirtual 338, 3) := by decide +kernel
theorem dX11_often_74 : decode cX11_often 74 = .ok (.i2l, 1) := by decide +kernel
theorem dX11_often_75 : decode cX11_often 75 = .ok (.ladd, 1) := by decide +kernel
theorem dX11_often_76 : decode cX11_often 76 = .ok (.lreturn, 1) := by decide +kernel
theorem dX11_hitsWithin_0 : decode cX11_hitsWithin 0 = .ok (.aload_n 0, 1) := by decide +kernel
theorem dX11_hitsWithin_1 : decode cX11_hitsWithin 1 = .ok (.getfield 71, 3) := by decide +kernel
theorem dX11_hitsWithin_4 : decode cX11_hitsWithin 4 = .ok (.iload_n 1, 1) := by decide +kernel
theorem dX11_hitsWithin_5 : decode cX11_hitsWithin 5 = .ok (.invokevirtual 324, 3) := by decide +kernel
theorem dX11_hitsWithin_8 : decode cX11_hitsWithin 8 = .ok (.istore_n 3, 1) := by decide +kernel
theorem dX11_hitsWithin_9 : decode cX11_hitsWithin 9 = .ok (.iconst 0, 1) := by decide +kernel
theorem dX11_hitsWithin_10 : decode cX11_hitsWithin 10 = .ok (.istore 4, 2) := by decide +kernel
theorem dX11_hitsWithin_12 : decode cX11_hitsWithin 12 = .ok (.iconst 1, 1) := by decide +kernel
theorem dX11_hitsWithin_13 : decode cX11_hitsWithin 13 = .ok (.istore 5, 2) := by decide +kernel
theorem dX11_hitsWithin_15 : decode cX11_hitsWithin 15 = .ok (.iload 5, 2) := by decide +kernel
theorem dX11_hitsWithin_17 : decode cX11_hitsWithin 17 = .ok (.iload_n 2, 1) := by decide +kernel
theorem dX11_hitsWithin_18 : decode cX11_hitsWithin 18 = .ok (.if_icmp .gt 37, 3) := by decide +kernel
theorem dX11_hitsWithin_21 : decode cX11_hitsWithin 21 = .ok (.aload_n 0, 1) := by decide +kernel
theorem dX11_hitsWithin_22 : decode cX11_hitsWithin 22 = .ok (.getfield 71, 3) := by decide +kernel
theorem dX11_hitsWithin_25 : decode cX11_hitsWithin 25 = .ok (.aload_n 0, 1) := by decide +kernel
theorem dX11_hitsWithin_26 : decode cX11_hitsWithin 26 = .ok (.iload 5, 2) := by decide +kernel
theorem dX11_hitsWithin_28 : decode cX11_hitsWithin 28 = .ok (.i2l, 1) := by decide +kernel
theorem dX11_hitsWithin_29 : decode cX11_hitsWithin 29 = .ok (.invokevirtual 206, 3) := by decide +kernel
theorem dX11_hitsWithin_32 : decode cX11_hitsWithin 32 = .ok (.aload_n 0, 1) := by decide +kernel
theorem dX11_hitsWithin_33 : decode cX11_hitsWithin 33 = .ok (.getfield 27, 3) := by decide +kernel
theorem dX11_hitsWithin_36 : decode cX11_hitsWithin 36 = .ok (.getfield 134, 3) := by decide +kernel
theorem dX11_hitsWithin_39 : decode cX11_hitsWithin 39 = .ok (.invokevirtual 183, 3) := by decide +kernel
theorem dX11_hitsWithin_42 : decode cX11_hitsWithin 42 = .ok (.iload_n 3, 1) := by decide +kernel
theorem dX11_hitsWithin_43 : decode cX11_hitsWithin 43 = .ok (.if_icmp .ne 6, 3) := by decide +kernel
theorem dX11_hitsWithin_46 : decode cX11_hitsWithin 46 = .ok (.iinc 4 1, 3) := by decide +kernel
theorem dX11_hitsWithin_49 : decode cX11_hitsWithin 49 = .ok (.iinc 5 1, 3) := by decide +kernel
theorem dX11_hitsWithin_52 : decode cX11_hitsWithin 52 = .ok (.goto (-37), 3) := by decide +kernel
theorem dX11_hitsWithin_55 : decode cX11_hitsWithin 55 = .ok (.iload 4, 2) := by decide +kernel
theorem dX11_hitsWithin_57 : decode cX11_hitsWithin 57 = .ok (.ireturn, 1) := by decide +kernel
theorem dX11_found_0 : decode cX11_found 0 = .ok (.aload_n 0, 1) := by decide +kernel
theorem dX11_found_1 : decode cX11_found 1 = .ok (.iload_n 1, 1) := by decide +kernel
theorem dX11_found_2 : decode cX11_found 2 = .ok (.iload_n 2, 1) := by decide +kernel
theorem dX11_found_3 : decode cX11_found 3 = .ok (.iconst 0, 1) := by decide +kernel
theorem dX11_found_4 : decode cX11_found 4 = .ok (.invokevirtual 341, 3) := by decide +kernel
theorem dX11_found_7 : decode cX11_found 7 = .ok (.istore_n 3, 1) := by decide +kernel
theorem dX11_found_8 : decode cX11_found 8 = .ok (.iload_n 3, 1) := by decide +kernel
theorem dX11_found_9 : decode cX11_found 9 = .ok (.ifCond .eq 7, 3) := by decide +kernel
theorem dX11_found_12 : decode cX11_found 12 = .ok (.iload_n 3, 1) := by decide +kernel
theorem dX11_found_13 : decode cX11_found 13 = .ok (.goto 14, 3) := by decide +kernel
theorem dX11_found_16 : decode cX11_found 16 = .ok (.aload_n 0, 1) := by decide +kernel
theorem dX11_found_17 : decode cX11_found 17 = .ok (.aload_n 0, 1) := by decide +kernel
theorem dX11_found_18 : decode cX11_found 18 = .ok (.getfield 49, 3) := by decide +kernel
theorem dX11_found_21 : decode cX11_found 21 = .ok (.iload_n 1, 1) := by decide +kernel
theorem dX11_found_22 : decode cX11_found 22 = .ok (.aaload, 1) := by decide +kernel
theorem dX11_found_23 : decode cX11_found 23 = .ok (.iload_n 2, 1) := by decide +kernel
theorem dX11_found_24 : decode cX11_found 24 = .ok (.invokevirtual 344, 3) := by decide +kernel
theorem dX11_found_27 : decode cX11_found 27 = .ok (.ireturn, 1) := by decide +kernel
theorem dX11_names_0 : decode cX11_names 0 = .ok (.aload_n 0, 1) := by decide +kernel
theorem dX11_names_1 : decode cX11_names 1 = .ok (.iload_n 1, 1) := by decide +kernel
theorem dX11_names_2 : decode cX11_names 2 = .ok (.iload_n 2, 1) := by decide +kernel
theorem dX11_names_3 : decode cX11_names 3 = .ok (.iload_n 3, 1) := by decide +kernel
theorem dX11_names_4 : decode cX11_names 4 = .ok (.invokevirtual 341, 3) := by decide +kernel
theorem dX11_names_7 : decode cX11_names 7 = .ok (.istore 4, 2) := by decide +kernel
theorem dX11_names_9 : decode cX11_names 9 = .ok (.iload 4, 2) := by decide +kernel
theorem dX11_names_11 : decode cX11_names 11 = .ok (.ifCond .eq 6, 3) := by decide +kernel
theorem dX11_names_14 : decode cX11_names 14 = .ok (.iload 4, 2) := by decide +kernel
theorem dX11_names_16 : decode cX11_names 16 = .ok (.ireturn, 1) := by decide +kernel
theorem dX11_names_17 : decode cX11_names 17 = .ok (.aload_n 0, 1) := by decide +kernel
theorem dX11_names_18 : decode cX11_names 18 = .ok (.aload_n 0, 1) := by decide +kernel
theorem dX11_names_19 : decode cX11_names 19 = .ok (.getfield 49, 3) := by decide +kernel
theorem dX11_names_22 : decode cX11_names 22 = .ok (.iload_n 1, 1) := by decide +kernel
theorem dX11_names_23 : decode cX11_names 23 = .ok (.aaload, 1) := by decide +kernel
theorem dX11_names_24 : decode cX11_names 24 = .ok (.iload_n 2, 1) := by decide +kernel
theorem dX11_names_25 : decode cX11_names 25 = .ok (.invokevirtual 344, 3) := by decide +kernel
theorem dX11_names_28 : decode cX11_names 28 = .ok (.pop, 1) := by decide +kernel
theorem dX11_names_29 : decode cX11_names 29 = .ok (.iconst 0, 1) := by decide +kernel
theorem dX11_names_30 : decode cX11_names 30 = .ok (.istore 5, 2) := by decide +kernel
theorem dX11_names_32 : decode cX11_names 32 = .ok (.iconst 0, 1) := by decide +kernel
theorem dX11_names_33 : decode cX11_names 33 = .ok (.istore 6, 2) := by decide +kernel
theorem dX11_names_35 : decode cX11_names 35 = .ok (.iload 6, 2) := by decide +kernel
theorem dX11_names_37 : decode cX11_names 37 = .ok (.aload_n 0, 1) := by decide +kernel
theorem dX11_names_38 : decode cX11_names 38 = .ok (.getfield 106, 3) := by decide +kernel
theorem dX11_names_41 : decode cX11_names 41 = .ok (.getfield 143, 3) := by decide +kernel
theorem dX11_names_44 : decode cX11_names 44 = .ok (.if_icmp .ge 33, 3) := by decide +kernel
theorem dX11_names_47 : decode cX11_names 47 = .ok (.aload_n 0, 1) := by decide +kernel
theorem dX11_names_48 : decode cX11_names 48 = .ok (.getfield 91, 3) := by decide +kernel
theorem dX11_names_51 : decode cX11_names 51 = .ok (.iload_n 3, 1) := by decide +kernel
theorem dX11_names_52 : decode cX11_names 52 = .ok (.bipush 6, 2) := by decide +kernel
theorem dX11_names_54 : decode cX11_names 54 = .ok (.imul, 1) := by decide +kernel
theorem dX11_names_55 : decode cX11_names 55 = .ok (.iload 6, 2) := by decide +kernel
theorem dX11_names_57 : decode cX11_names 57 = .ok (.iadd, 1) := by decide +kernel
theorem dX11_names_58 : decode cX11_names 58 = .ok (.iaload, 1) := by decide +kernel
theorem dX11_names_59 : decode cX11_names 59 = .ok (.ifCond .le 12, 3) := by decide +kernel
theorem dX11_names_62 : decode cX11_names 62 = .ok (.iload 5, 2) := by decide +kernel
theorem dX11_names_64 : decode cX11_names 64 = .ok (.iconst 1, 1) := by decide +kernel
theorem dX11_names_65 : decode cX11_names 65 = .ok (.iload 6, 2) := by decide +kernel
theorem dX11_names_67 : decode cX11_names 67 = .ok (.ishl, 1) := by decide +kernel
theorem dX11_names_68 : decode cX11_names 68 = .ok (.ior, 1) := by decide +kernel
theorem dX11_names_69 : decode cX11_names 69 = .ok (.istore 5, 2) := by decide +kernel
theorem dX11_names_71 : decode cX11_names 71 = .ok (.iinc 6 1, 3) := by decide +kernel
theorem dX11_names_74 : decode cX11_names 74 = .ok (.goto (-39), 3) := by decide +kernel
theorem dX11_names_77 : decode cX11_names 77 = .ok (.iload 5, 2) := by decide +kernel
theorem dX11_names_79 : decode cX11_names 79 = .ok (.ireturn, 1) := by decide +kernel
theorem dX11_look_0 : decode cX11_look 0 = .ok (.aload_n 0, 1) := by decide +kernel
theorem dX11_look_1 : decode cX11_look 1 = .ok (.iload_n 1, 1) := by decide +kernel
theorem dX11_look_2 : decode cX11_look 2 = .ok (.iload_n 2, 1) := by decide +kernel
theorem dX11_look_3 : decode cX11_look 3 = .ok (.iconst 0, 1) := by decide +kernel
theorem dX11_look_4 : decode cX11_look 4 = .ok (.invokevirtual 341, 3) := by decide +kernel
theorem dX11_look_7 : decode cX11_look 7 = .ok (.istore_n 3, 1) := by decide +kernel
theorem dX11_look_8 : decode cX11_look 8 = .ok (.iload_n 3, 1) := by decide +kernel
theorem dX11_look_9 : decode cX11_look 9 = .ok (.ifCond .eq 5, 3) := by decide +kernel
theorem dX11_look_12 : decode cX11_look 12 = .ok (.iload_n 3, 1) := by decide +kernel
theorem dX11_look_13 : decode cX11_look 13 = .ok (.ireturn, 1) := by decide +kernel
theorem dX11_look_14 : decode cX11_look 14 = .ok (.aload_n 0, 1) := by decide +kernel
theorem dX11_look_15 : decode cX11_look 15 = .ok (.aload_n 0, 1) := by decide +kernel
theorem dX11_look_16 : decode cX11_look 16 = .ok (.getfield 49, 3) := by decide +kernel
theorem dX11_look_19 : decode cX11_look 19 = .ok (.iload_n 1, 1) := by decide +kernel
theorem dX11_look_20 : decode cX11_look 20 = .ok (.aaload, 1) := by decide +kernel
theorem dX11_look_21 : decode cX11_look 21 = .ok (.iload_n 2, 1) := by decide +kernel
theorem dX11_look_22 : decode cX11_look 22 = .ok (.invokevirtual 344, 3) := by decide +kernel
theorem dX11_look_25 : decode cX11_look 25 = .ok (.ifCond .ne 5, 3) := by decide +kernel
theorem dX11_look_28 : decode cX11_look 28 = .ok (.iconst (-1), 1) := by decide +kernel
theorem dX11_look_29 : decode cX11_look 29 = .ok (.ireturn, 1) := by decide +kernel
theorem dX11_look_30 : decode cX11_look 30 = .ok (.iconst 0, 1) := by decide +kernel
theorem dX11_look_31 : decode cX11_look 31 = .ok (.istore 4, 2) := by decide +kernel
theorem dX11_look_33 : decode cX11_look 33 = .ok (.iconst 1, 1) := by decide +kernel
theorem dX11_look_34 : decode cX11_look 34 = .ok (.istore 5, 2) := by decide +kernel
theorem dX11_look_36 : decode cX11_look 36 = .ok (.iload 5, 2) := by decide +kernel
theorem dX11_look_38 : decode cX11_look 38 = .ok (.aload_n 0, 1) := by decide +kernel
theorem dX11_look_39 : decode cX11_look 39 = .ok (.getfield 106, 3) := by decide +kernel
theorem dX11_look_42 : decode cX11_look 42 = .ok (.getfield 143, 3) := by decide +kernel
theorem dX11_look_45 : decode cX11_look 45 = .ok (.if_icmp .ge 28, 3) := by decide +kernel
theorem dX11_look_48 : decode cX11_look 48 = .ok (.aload_n 0, 1) := by decide +kernel
theorem dX11_look_49 : decode cX11_look 49 = .ok (.iload 5, 2) := by decide +kernel
theorem dX11_look_51 : decode cX11_look 51 = .ok (.invokevirtual 348, 3) := by decide +kernel
theorem dX11_look_54 : decode cX11_look 54 = .ok (.aload_n 0, 1) := by decide +kernel
theorem dX11_look_55 : decode cX11_look 55 = .ok (.iload 4, 2) := by decide +kernel
theorem dX11_look_57 : decode cX11_look 57 = .ok (.invokevirtual 348, 3) := by decide +kernel
theorem dX11_look_60 : decode cX11_look 60 = .ok (.if_icmp .ge 7, 3) := by decide +kernel
theorem dX11_look_63 : decode cX11_look 63 = .ok (.iload 5, 2) := by decide +kernel
theorem dX11_look_65 : decode cX11_look 65 = .ok (.istore 4, 2) := by decide +kernel
theorem dX11_look_67 : decode cX11_look 67 = .ok (.iinc 5 1, 3) := by decide +kernel
theorem dX11_look_70 : decode cX11_look 70 = .ok (.goto (-34), 3) := by decide +kernel
theorem dX11_look_73 : decode cX11_look 73 = .ok (.iload 4, 2) := by decide +kernel
theorem dX11_look_75 : decode cX11_look 75 = .ok (.ireturn, 1) := by decide +kernel
theorem dX11_mostLying_0 : decode cX11_mostLying 0 = .ok (.iconst 0, 1) := by decide +kernel
theorem dX11_mostLying_1 : decode cX11_mostLying 1 = .ok (.istore_n 2, 1) := by decide +kernel
theorem dX11_mostLying_2 : decode cX11_mostLying 2 = .ok (.iconst 0, 1) := by decide +kernel
theorem dX11_mostLying_3 : decode cX11_mostLying 3 = .ok (.istore_n 3, 1) := by decide +kernel
theorem dX11_mostLying_4 : decode cX11_mostLying 4 = .ok (.iload_n 3, 1) := by decide +kernel
theorem dX11_mostLying_5 : decode cX11_mostLying 5 = .ok (.aload_n 0, 1) := by decide +kernel
theorem dX11_mostLying_6 : decode cX11_mostLying 6 = .ok (.getfield 106, 3) := by decide +kernel
theorem dX11_mostLying_9 : decode cX11_mostLying 9 = .ok (.getfield 143, 3) := by decide +kernel
theorem dX11_mostLying_12 : decode cX11_mostLying 12 = .ok (.if_icmp .ge 25, 3) := by decide +kernel
theorem dX11_mostLying_15 : decode cX11_mostLying 15 = .ok (.iload_n 2, 1) := by decide +kernel
theorem dX11_mostLying_16 : decode cX11_mostLying 16 = .ok (.aload_n 0, 1) := by decide +kernel
theorem dX11_mostLying_17 : decode cX11_mostLying 17 = .ok (.getfield 91, 3) := by decide +kernel
theorem dX11_mostLying_20 : decode cX11_mostLying 20 = .ok (.iload_n 1, 1) := by decide +kernel
theorem dX11_mostLying_21 : decode cX11_mostLying 21 = .ok (.bipush 6, 2) := by decide +kernel
theorem dX11_mostLying_23 : decode cX11_mostLying 23 = .ok (.imul, 1) := by decide +kernel
theorem dX11_mostLying_24 : decode cX11_mostLying 24 = .ok (.iload_n 3, 1) := by decide +kernel
theorem dX11_mostLying_25 : decode cX11_mostLying 25 = .ok (.iadd, 1) := by decide +kernel
theorem dX11_mostLying_26 : decode cX11_mostLying 26 = .ok (.iaload, 1) := by decide +kernel
theorem dX11_mostLying_27 : decode cX11_mostLying 27 = .ok (.invokestatic 333, 3) := by decide +kernel
theorem dX11_mostLying_30 : decode cX11_mostLying 30 = .ok (.istore_n 2, 1) := by decide +kernel
theorem dX11_mostLying_31 : decode cX11_mostLying 31 = .ok (.iinc 3 1, 3) := by decide +kernel
theorem dX11_mostLying_34 : decode cX11_mostLying 34 = .ok (.goto (-30), 3) := by decide +kernel
theorem dX11_mostLying_37 : decode cX11_mostLying 37 = .ok (.iload_n 2, 1) := by decide +kernel
theorem dX11_mostLying_38 : decode cX11_mostLying 38 = .ok (.ireturn, 1) := by decide +kernel
theorem dX11_refusalOfFound_0 : decode cX11_refusalOfFound 0 = .ok (.iload_n 1, 1) := by decide +kernel
theorem dX11_refusalOfFound_1 : decode cX11_refusalOfFound 1 = .ok (.iconst 4, 1) := by decide +kernel
theorem dX11_refusalOfFound_2 : decode cX11_refusalOfFound 2 = .ok (.invokestatic 157, 3) := by decide +kernel
theorem dX11_refusalOfFound_5 : decode cX11_refusalOfFound 5 = .ok (.ifCond .eq 19, 3) := by decide +kernel
theorem dX11_refusalOfFound_8 : decode cX11_refusalOfFound 8 = .ok (.aload_n 0, 1) := by decide +kernel
theorem dX11_refusalOfFound_9 : decode cX11_refusalOfFound 9 = .ok (.iload_n 2, 1) := by decide +kernel
theorem dX11_refusalOfFound_10 : decode cX11_refusalOfFound 10 = .ok (.invokevirtual 153, 3) := by decide +kernel
theorem dX11_refusalOfFound_13 : decode cX11_refusalOfFound 13 = .ok (.ifCond .eq 11, 3) := by decide +kernel
theorem dX11_refusalOfFound_16 : decode cX11_refusalOfFound 16 = .ok (.aload_n 0, 1) := by decide +kernel
theorem dX11_refusalOfFound_17 : decode cX11_refusalOfFound 17 = .ok (.iload_n 3, 1) := by decide +kernel
theorem dX11_refusalOfFound_18 : decode cX11_refusalOfFound 18 = .ok (.invokevirtual 153, 3) := by decide +kernel
theorem dX11_refusalOfFound_21 : decode cX11_refusalOfFound 21 = .ok (.ifCond .ne 6, 3) := by decide +kernel
theorem dX11_refusalOfFound_24 : decode cX11_refusalOfFound 24 = .ok (.bipush (-2), 2) := by decide +kernel
theorem dX11_refusalOfFound_26 : decode cX11_refusalOfFound 26 = .ok (.ireturn, 1) := by decide +kernel
theorem dX11_refusalOfFound_27 : decode cX11_refusalOfFound 27 = .ok (.aload_n 0, 1) := by decide +kernel
theorem dX11_refusalOfFound_28 : decode cX11_refusalOfFound 28 = .ok (.getfield 49, 3) := by decide +kernel
theorem dX11_refusalOfFound_31 : decode cX11_refusalOfFound 31 = .ok (.iload_n 1, 1) := by decide +kernel
theorem dX11_refusalOfFound_32 : decode cX11_refusalOfFound 32 = .ok (.aaload, 1) := by decide +kernel
theorem dX11_refusalOfFound_33 : decode cX11_refusalOfFound 33 = .ok (.iconst (-1), 1) := by decide +kernel
theorem dX11_refusalOfFound_34 : decode cX11_refusalOfFound 34 = .ok (.aload_n 0, 1) := by decide +kernel
theorem dX11_refusalOfFound_35 : decode cX11_refusalOfFound 35 = .ok (.getfield 106, 3) := by decide +kernel
theorem dX11_refusalOfFound_38 : decode cX11_refusalOfFound 38 = .ok (.getfield 143, 3) := by decide +kernel
theorem dX11_refusalOfFound_41 : decode cX11_refusalOfFound 41 = .ok (.iconst 1, 1) := by decide +kernel
theorem dX11_refusalOfFound_42 : decode cX11_refusalOfFound 42 = .ok (.isub, 1) := by decide +kernel
theorem dX11_refusalOfFound_43 : decode cX11_refusalOfFound 43 = .ok (.invokestatic 351, 3) := by decide +kernel
theorem dX11_refusalOfFound_46 : decode cX11_refusalOfFound 46 = .ok (.ireturn, 1) := by decide +kernel
theorem dX11_refusalOfNumbers_0 : decode cX11_refusalOfNumbers 0 = .ok (.aload_n 0, 1) := by decide +kernel
theorem dX11_refusalOfNumbers_1 : decode cX11_refusalOfNumbers 1 = .ok (.invokevirtual 223, 3) := by decide +kernel
theorem dX11_refusalOfNumbers_4 : decode cX11_refusalOfNumbers 4 = .ok (.ifCond .eq 6, 3) := by decide +kernel
theorem dX11_refusalOfNumbers_7 : decode cX11_refusalOfNumbers 7 = .ok (.bipush (-6), 2) := by decide +kernel
theorem dX11_refusalOfNumbers_9 : decode cX11_refusalOfNumbers 9 = .ok (.ireturn, 1) := by decide +kernel
theorem dX11_refusalOfNumbers_10 : decode cX11_refusalOfNumbers 10 = .ok (.aload_n 0, 1) := by decide +kernel
theorem dX11_refusalOfNumbers_11 : decode cX11_refusalOfNumbers 11 = .ok (.getfield 231, 3) := by decide +kernel
theorem dX11_refusalOfNumbers_14 : decode cX11_refusalOfNumbers 14 = .ok (.iconst 1, 1) := by decide +kernel
theorem dX11_refusalOfNumbers_15 : decode cX11_refusalOfNumbers 15 = .ok (.if_icmp .lt 12, 3) := by decide +kernel
theorem dX11_refusalOfNumbers_18 : decode cX11_refusalOfNumbers 18 = .ok (.aload_n 0, 1) := by decide +kernel
theorem dX11_refusalOfNumbers_19 : decode cX11_refusalOfNumbers 19 = .ok (.getfield 231, 3) := by decide +kernel
theorem dX11_refusalOfNumbers_22 : decode cX11_refusalOfNumbers 22 = .ok (.bipush 8, 2) := by decide +kernel
theorem dX11_refusalOfNumbers_24 : decode cX11_refusalOfNumbers 24 = .ok (.if_icmp .le 6, 3) := by decide +kernel
theorem dX11_refusalOfNumbers_27 : decode cX11_refusalOfNumbers 27 = .ok (.bipush (-4), 2) := by decide +kernel
theorem dX11_refusalOfNumbers_29 : decode cX11_refusalOfNumbers 29 = .ok (.ireturn, 1) := by decide +kernel
theorem dX11_refusalOfNumbers_30 : decode cX11_refusalOfNumbers 30 = .ok (.iconst 0, 1) := by decide +kernel
theorem dX11_refusalOfNumbers_31 : decode cX11_refusalOfNumbers 31 = .ok (.istore_n 3, 1) := by decide +kernel
theorem dX11_refusalOfNumbers_32 : decode cX11_refusalOfNumbers 32 = .ok (.iload_n 3, 1) := by decide +kernel
theorem dX11_refusalOfNumbers_33 : decode cX11_refusalOfNumbers 33 = .ok (.aload_n 0, 1) := by decide +kernel
theorem dX11_refusalOfNumbers_34 : decode cX11_refusalOfNumbers 34 = .ok (.getfield 231, 3) := by decide +kernel
theorem dX11_refusalOfNumbers_37 : decode cX11_refusalOfNumbers 37 = .ok (.if_icmp .ge 34, 3) := by decide +kernel
theorem dX11_refusalOfNumbers_40 : decode cX11_refusalOfNumbers 40 = .ok (.aload_n 0, 1) := by decide +kernel
theorem dX11_refusalOfNumbers_41 : decode cX11_refusalOfNumbers 41 = .ok (.iload_n 3, 1) := by decide +kernel
theorem dX11_refusalOfNumbers_42 : decode cX11_refusalOfNumbers 42 = .ok (.invokevirtual 234, 3) := by decide +kernel
theorem dX11_refusalOfNumbers_45 : decode cX11_refusalOfNumbers 45 = .ok (.iload_n 1, 1) := by decide +kernel
theorem dX11_refusalOfNumbers_46 : decode cX11_refusalOfNumbers 46 = .ok (.i2l, 1) := by decide +kernel
theorem dX11_refusalOfNumbers_47 : decode cX11_refusalOfNumbers 47 = .ok (.lcmp, 1) := by decide +kernel
theorem dX11_refusalOfNumbers_48 : decode cX11_refusalOfNumbers 48 = .ok (.ifCond .lt 14, 3) := by decide +kernel
theorem dX11_refusalOfNumbers_51 : decode cX11_refusalOfNumbers 51 = .ok (.aload_n 0, 1) := by decide +kernel
theorem dX11_refusalOfNumbers_52 : decode cX11_refusalOfNumbers 52 = .ok (.iload_n 3, 1) := by decide +kernel
theorem dX11_refusalOfNumbers_53 : decode cX11_refusalOfNumbers 53 = .ok (.invokevirtual 234, 3) := by decide +kernel
theorem dX11_refusalOfNumbers_56 : decode cX11_refusalOfNumbers 56 = .ok (.iload_n 2, 1) := by decide +kernel
theorem dX11_refusalOfNumbers_57 : decode cX11_refusalOfNumbers 57 = .ok (.i2l, 1) := by decide +kernel
theorem dX11_refusalOfNumbers_58 : decode cX11_refusalOfNumbers 58 = .ok (.lcmp, 1) := by decide +kernel
theorem dX11_refusalOfNumbers_59 : decode cX11_refusalOfNumbers 59 = .ok (.ifCond .le 6, 3) := by decide +kernel
theorem dX11_refusalOfNumbers_62 : decode cX11_refusalOfNumbers 62 = .ok (.bipush (-3), 2) := by decide +kernel
theorem dX11_refusalOfNumbers_64 : decode cX11_refusalOfNumbers 64 = .ok (.ireturn, 1) := by decide +kernel
theorem dX11_refusalOfNumbers_65 : decode cX11_refusalOfNumbers 65 = .ok (.iinc 3 1, 3) := by decide +kernel
theorem dX11_refusalOfNumbers_68 : decode cX11_refusalOfNumbers 68 = .ok (.goto (-36), 3) := by decide +kernel
theorem dX11_refusalOfNumbers_71 : decode cX11_refusalOfNumbers 71 = .ok (.iconst 0, 1) := by decide +kernel
theorem dX11_refusalOfNumbers_72 : decode cX11_refusalOfNumbers 72 = .ok (.ireturn, 1) := by decide +kernel
theorem dX11_gatherFound_0 : decode cX11_gatherFound 0 = .ok (.aload_n 0, 1) := by decide +kernel
theorem dX11_gatherFound_1 : decode cX11_gatherFound 1 = .ok (.getfield 91, 3) := by decide +kernel
theorem dX11_gatherFound_4 : decode cX11_gatherFound 4 = .ok (.iconst 0, 1) := by decide +kernel
theorem dX11_gatherFound_5 : decode cX11_gatherFound 5 = .ok (.invokestatic 355, 3) := by decide +kernel
theorem dX11_gatherFound_8 : decode cX11_gatherFound 8 = .ok (.iconst 0, 1) := by decide +kernel
theorem dX11_gatherFound_9 : decode cX11_gatherFound 9 = .ok (.istore_n 3, 1) := by decide +kernel
theorem dX11_gatherFound_10 : decode cX11_gatherFound 10 = .ok (.iconst 0, 1) := by decide +kernel
theorem dX11_gatherFound_11 : decode cX11_gatherFound 11 = .ok (.istore 4, 2) := by decide +kernel
theorem dX11_gatherFound_13 : decode cX11_gatherFound 13 = .ok (.iload 4, 2) := by decide +kernel
theorem dX11_gatherFound_15 : decode cX11_gatherFound 15 = .ok (.aload_n 0, 1) := by decide +kernel
theorem dX11_gatherFound_16 : decode cX11_gatherFound 16 = .ok (.getfield 62, 3) := by decide +kernel
theorem dX11_gatherFound_19 : decode cX11_gatherFound 19 = .ok (.getfield 281, 3) := by decide +kernel
theorem dX11_gatherFound_22 : decode cX11_gatherFound 22 = .ok (.if_icmp .ge 29, 3) := by decide +kernel
theorem dX11_gatherFound_25 : decode cX11_gatherFound 25 = .ok (.aload_n 0, 1) := by decide +kernel
theorem dX11_gatherFound_26 : decode cX11_gatherFound 26 = .ok (.aload_n 1, 1) := by decide +kernel
theorem dX11_gatherFound_27 : decode cX11_gatherFound 27 = .ok (.iload_n 2, 1) := by decide +kernel
theorem dX11_gatherFound_28 : decode cX11_gatherFound 28 = .ok (.iload 4, 2) := by decide +kernel
theorem dX11_gatherFound_30 : decode cX11_gatherFound 30 = .ok (.invokevirtual 361, 3) := by decide +kernel
theorem dX11_gatherFound_33 : decode cX11_gatherFound 33 = .ok (.ifCond .eq 12, 3) := by decide +kernel
theorem dX11_gatherFound_36 : decode cX11_gatherFound 36 = .ok (.iinc 3 1, 3) := by decide +kernel
theorem dX11_gatherFound_39 : decode cX11_gatherFound 39 = .ok (.aload_n 0, 1) := by decide +kernel
theorem dX11_gatherFound_40 : decode cX11_gatherFound 40 = .ok (.iload 4, 2) := by decide +kernel
theorem dX11_gatherFound_42 : decode cX11_gatherFound 42 = .ok (.invokevirtual 365, 3) := by decide +kernel
theorem dX11_gatherFound_45 : decode cX11_gatherFound 45 = .ok (.iinc 4 1, 3) := by decide +kernel
theorem dX11_gatherFound_48 : decode cX11_gatherFound 48 = .ok (.goto (-35), 3) := by decide +kernel
theorem dX11_gatherFound_51 : decode cX11_gatherFound 51 = .ok (.iload_n 3, 1) := by decide +kernel
theorem dX11_gatherFound_52 : decode cX11_gatherFound 52 = .ok (.ireturn, 1) := by decide +kernel
theorem dX11_countLying_0 : decode cX11_countLying 0 = .ok (.iconst 0, 1) := by decide +kernel
theorem dX11_countLying_1 : decode cX11_countLying 1 = .ok (.istore_n 2, 1) := by decide +kernel
theorem dX11_countLying_2 : decode cX11_countLying 2 = .ok (.iload_n 2, 1) := by decide +kernel
theorem dX11_countLying_3 : decode cX11_countLying 3 = .ok (.aload_n 0, 1) := by decide +kernel
theorem dX11_countLying_4 : decode cX11_countLying 4 = .ok (.getfield 106, 3) := by decide +kernel
theorem dX11_countLying_7 : decode cX11_countLying 7 = .ok (.getfield 143, 3) := by decide +kernel
theorem dX11_countLying_10 : decode cX11_countLying 10 = .ok (.if_icmp .ge 47, 3) := by decide +kernel
theorem dX11_countLying_13 : decode cX11_countLying 13 = .ok (.iload_n 2, 1) := by decide +kernel
theorem dX11_countLying_14 : decode cX11_countLying 14 = .ok (.bipush 6, 2) := by decide +kernel
theorem dX11_countLying_16 : decode cX11_countLying 16 = .ok (.imul, 1) := by decide +kernel
theorem dX11_countLying_17 : decode cX11_countLying 17 = .ok (.aload_n 0, 1) := by decide +kernel
theorem dX11_countLying_18 : decode cX11_countLying 18 = .ok (.getfield 62, 3) := by decide +kernel
theorem dX11_countLying_21 : decode cX11_countLying 21 = .ok (.iload_n 1, 1) := by decide +kernel
theorem dX11_countLying_22 : decode cX11_countLying 22 = .ok (.iload_n 2, 1) := by decide +kernel
theorem dX11_countLying_23 : decode cX11_countLying 23 = .ok (.invokevirtual 164, 3) := by decide +kernel
theorem dX11_countLying_26 : decode cX11_countLying 26 = .ok (.iadd, 1) := by decide +kernel
theorem dX11_countLying_27 : decode cX11_countLying 27 = .ok (.istore_n 3, 1) := by decide +kernel
theorem dX11_countLying_28 : decode cX11_countLying 28 = .ok (.iload_n 3, 1) := by decide +kernel
theorem dX11_countLying_29 : decode cX11_countLying 29 = .ok (.ifCond .lt 22, 3) := by decide +kernel
theorem dX11_countLying_32 : decode cX11_countLying 32 = .ok (.iload_n 3, 1) := by decide +kernel
theorem dX11_countLying_33 : decode cX11_countLying 33 = .ok (.aload_n 0, 1) := by decide +kernel
theorem dX11_countLying_34 : decode cX11_countLying 34 = .ok (.getfield 91, 3) := by decide +kernel
theorem dX11_countLying_37 : decode cX11_countLying 37 = .ok (.arraylength, 1) := by decide +kernel
theorem dX11_countLying_38 : decode cX11_countLying 38 = .ok (.if_icmp .ge 13, 3) := by decide +kernel
theorem dX11_countLying_41 : decode cX11_countLying 41 = .ok (.aload_n 0, 1) := by decide +kernel
theorem dX11_countLying_42 : decode cX11_countLying 42 = .ok (.getfield 91, 3) := by decide +kernel
theorem dX11_countLying_45 : decode cX11_countLying 45 = .ok (.iload_n 3, 1) := by decide +kernel
theorem dX11_countLying_46 : decode cX11_countLying 46 = .ok (.dup2, 1) := by decide +kernel
theorem dX11_countLying_47 : decode cX11_countLying 47 = .ok (.iaload, 1) := by decide +kernel
theorem dX11_countLying_48 : decode cX11_countLying 48 = .ok (.iconst 1, 1) := by decide +kernel
theorem dX11_countLying_49 : decode cX11_countLying 49 = .ok (.iadd, 1) := by decide +kernel
theorem dX11_countLying_50 : decode cX11_countLying 50 = .ok (.iastore, 1) := by decide +kernel
theorem dX11_countLying_51 : decode cX11_countLying 51 = .ok (.iinc 2 1, 3) := by decide +kernel
theorem dX11_countLying_54 : decode cX11_countLying 54 = .ok (.goto (-52), 3) := by decide +kernel
theorem dX11_countLying_57 : decode cX11_countLying 57 = .ok (.return_, 1) := by decide +kernel
theorem dX11_fits_0 : decode cX11_fits 0 = .ok (.aload_n 0, 1) := by decide +kernel
theorem dX11_fits_1 : decode cX11_fits 1 = .ok (.getfield 71, 3) := by decide +kernel
theorem dX11_fits_4 : decode cX11_fits 4 = .ok (.iload_n 2, 1) := by decide +kernel
theorem dX11_fits_5 : decode cX11_fits 5 = .ok (.iload_n 3, 1) := by decide +kernel
theorem dX11_fits_6 : decode cX11_fits 6 = .ok (.aload_n 0, 1) := by decide +kernel
theorem dX11_fits_7 : decode cX11_fits 7 = .ok (.getfield 27, 3) := by decide +kernel
theorem dX11_fits_10 : decode cX11_fits 10 = .ok (.getfield 134, 3) := by decide +kernel
theorem dX11_fits_13 : decode cX11_fits 13 = .ok (.invokevirtual 168, 3) := by decide +kernel
theorem dX11_fits_16 : decode cX11_fits 16 = .ok (.aload_n 0, 1) := by decide +kernel
theorem dX11_fits_17 : decode cX11_fits 17 = .ok (.getfield 71, 3) := by decide +kernel
theorem dX11_fits_20 : decode cX11_fits 20 = .ok (.getfield 172, 3) := by decide +kernel
theorem dX11_fits_23 : decode cX11_fits 23 = .ok (.aload_n 1, 1) := by decide +kernel
theorem dX11_fits_24 : decode cX11_fits 24 = .ok (.getfield 231, 3) := by decide +kernel
theorem dX11_fits_27 : decode cX11_fits 27 = .ok (.if_icmp .ge 5, 3) := by decide +kernel
theorem dX11_fits_30 : decode cX11_fits 30 = .ok (.iconst 0, 1) := by decide +kernel
theorem dX11_fits_31 : decode cX11_fits 31 = .ok (.ireturn, 1) := by decide +kernel
theorem dX11_fits_32 : decode cX11_fits 32 = .ok (.iconst 0, 1) := by decide +kernel
theorem dX11_fits_33 : decode cX11_fits 33 = .ok (.istore 4, 2) := by decide +kernel
theorem dX11_fits_35 : decode cX11_fits 35 = .ok (.iload 4, 2) := by decide +kernel
theorem dX11_fits_37 : decode cX11_fits 37 = .ok (.aload_n 1, 1) := by decide +kernel
theorem dX11_fits_38 : decode cX11_fits 38 = .ok (.getfield 231, 3) := by decide +kernel
theorem dX11_fits_41 : decode cX11_fits 41 = .ok (.if_icmp .ge 52, 3) := by decide +kernel
theorem dX11_fits_44 : decode cX11_fits 44 = .ok (.aload_n 1, 1) := by decide +kernel
theorem dX11_fits_45 : decode cX11_fits 45 = .ok (.iload 4, 2) := by decide +kernel
theorem dX11_fits_47 : decode cX11_fits 47 = .ok (.invokevirtual 234, 3) := by decide +kernel
theorem dX11_fits_50 : decode cX11_fits 50 = .ok (.lstore 5, 2) := by decide +kernel
theorem dX11_fits_52 : decode cX11_fits 52 = .ok (.lload 5, 2) := by decide +kernel
theorem dX11_fits_54 : decode cX11_fits 54 = .ok (.ldc2_w 368, 3) := by decide +kernel
theorem dX11_fits_57 : decode cX11_fits 57 = .ok (.lcmp, 1) := by decide +kernel
theorem dX11_fits_58 : decode cX11_fits 58 = .ok (.ifCond .eq 29, 3) := by decide +kernel
theorem dX11_fits_61 : decode cX11_fits 61 = .ok (.lload 5, 2) := by decide +kernel
theorem dX11_fits_63 : decode cX11_fits 63 = .ok (.aload_n 0, 1) := by decide +kernel
theorem dX11_fits_64 : decode cX11_fits 64 = .ok (.getfield 62, 3) := by decide +kernel
theorem dX11_fits_67 : decode cX11_fits 67 = .ok (.iload_n 3, 1) := by decide +kernel
theorem dX11_fits_68 : decode cX11_fits 68 = .ok (.aload_n 0, 1) := by decide +kernel
theorem dX11_fits_69 : decode cX11_fits 69 = .ok (.getfield 71, 3) := by decide +kernel
theorem dX11_fits_72 : decode cX11_fits 72 = .ok (.iload 4, 2) := by decide +kernel
theorem dX11_fits_74 : decode cX11_fits 74 = .ok (.invokevirtual 179, 3) := by decide +kernel
theorem dX11_fits_77 : decode cX11_fits 77 = .ok (.invokevirtual 164, 3) := by decide +kernel
theorem dX11_fits_80 : decode cX11_fits 80 = .ok (.i2l, 1) := by decide +kernel
theorem dX11_fits_81 : decode cX11_fits 81 = .ok (.lcmp, 1) := by decide +kernel
theorem dX11_fits_82 : decode cX11_fits 82 = .ok (.ifCond .eq 5, 3) := by decide +kernel
theorem dX11_fits_85 : decode cX11_fits 85 = .ok (.iconst 0, 1) := by decide +kernel
theorem dX11_fits_86 : decode cX11_fits 86 = .ok (.ireturn, 1) := by decide +kernel
theorem dX11_fits_87 : decode cX11_fits 87 = .ok (.iinc 4 1, 3) := by decide +kernel
theorem dX11_fits_90 : decode cX11_fits 90 = .ok (.goto (-55), 3) := by decide +kernel
theorem dX11_fits_93 : decode cX11_fits 93 = .ok (.iconst 1, 1) := by decide +kernel
theorem dX11_fits_94 : decode cX11_fits 94 = .ok (.ireturn, 1) := by decide +kernel
theorem dX11_clues_0 : decode cX11_clues 0 = .ok (.iload_n 1, 1) := by decide +kernel
theorem dX11_clues_1 : decode cX11_clues 1 = .ok (.iconst 4, 1) := by decide +kernel
theorem dX11_clues_2 : decode cX11_clues 2 = .ok (.invokestatic 157, 3) := by decide +kernel
theorem dX11_clues_5 : decode cX11_clues 5 = .ok (.ifCond .ne 6, 3) := by decide +kernel
theorem dX11_clues_8 : decode cX11_clues 8 = .ok (.bipush (-2), 2) := by decide +kernel
theorem dX11_clues_10 : decode cX11_clues 10 = .ok (.ireturn, 1) := by decide +kernel
theorem dX11_clues_11 : decode cX11_clues 11 = .ok (.aload_n 0, 1) := by decide +kernel
theorem dX11_clues_12 : decode cX11_clues 12 = .ok (.getfield 49, 3) := by decide +kernel
theorem dX11_clues_15 : decode cX11_clues 15 = .ok (.iload_n 1, 1) := by decide +kernel
theorem dX11_clues_16 : decode cX11_clues 16 = .ok (.aaload, 1) := by decide +kernel
theorem dX11_clues_17 : decode cX11_clues 17 = .ok (.astore_n 2, 1) := by decide +kernel
theorem dX11_clues_18 : decode cX11_clues 18 = .ok (.aload_n 2, 1) := by decide +kernel
theorem dX11_clues_19 : decode cX11_clues 19 = .ok (.iconst 0, 1) := by decide +kernel
theorem dX11_clues_20 : decode cX11_clues 20 = .ok (.iconst 1, 1) := by decide +kernel
theorem dX11_clues_21 : decode cX11_clues 21 = .ok (.aload_n 0, 1) := by decide +kernel
theorem dX11_clues_22 : decode cX11_clues 22 = .ok (.getfield 106, 3) := by decide +kernel
theorem dX11_clues_25 : decode cX11_clues 25 = .ok (.getfield 143, 3) := by decide +kernel
theorem dX11_clues_28 : decode cX11_clues 28 = .ok (.ishl, 1) := by decide +kernel
theorem dX11_clues_29 : decode cX11_clues 29 = .ok (.iconst 1, 1) := by decide +kernel
theorem dX11_clues_30 : decode cX11_clues 30 = .ok (.isub, 1) := by decide +kernel
theorem dX11_clues_31 : decode cX11_clues 31 = .ok (.invokestatic 351, 3) := by decide +kernel
theorem dX11_clues_34 : decode cX11_clues 34 = .ok (.istore_n 3, 1) := by decide +kernel
theorem dX11_clues_35 : decode cX11_clues 35 = .ok (.iload_n 3, 1) := by decide +kernel
theorem dX11_clues_36 : decode cX11_clues 36 = .ok (.ifCond .eq 5, 3) := by decide +kernel
theorem dX11_clues_39 : decode cX11_clues 39 = .ok (.iload_n 3, 1) := by decide +kernel
theorem dX11_clues_40 : decode cX11_clues 40 = .ok (.ireturn, 1) := by decide +kernel
theorem dX11_clues_41 : decode cX11_clues 41 = .ok (.iconst 0, 1) := by decide +kernel
theorem dX11_clues_42 : decode cX11_clues 42 = .ok (.istore 4, 2) := by decide +kernel
theorem dX11_clues_44 : decode cX11_clues 44 = .ok (.iconst 0, 1) := by decide +kernel
theorem dX11_clues_45 : decode cX11_clues 45 = .ok (.istore 5, 2) := by decide +kernel
theorem dX11_clues_47 : decode cX11_clues 47 = .ok (.iload 5, 2) := by decide +kernel
theorem dX11_clues_49 : decode cX11_clues 49 = .ok (.bipush 10, 2) := by decide +kernel
theorem dX11_clues_51 : decode cX11_clues 51 = .ok (.if_icmp .ge 28, 3) := by decide +kernel
theorem dX11_clues_54 : decode cX11_clues 54 = .ok (.aload_n 0, 1) := by decide +kernel
theorem dX11_clues_55 : decode cX11_clues 55 = .ok (.aload_n 2, 1) := by decide +kernel
theorem dX11_clues_56 : decode cX11_clues 56 = .ok (.iload 5, 2) := by decide +kernel
theorem dX11_clues_58 : decode cX11_clues 58 = .ok (.invokevirtual 370, 3) := by decide +kernel
theorem dX11_clues_61 : decode cX11_clues 61 = .ok (.ifCond .eq 12, 3) := by decide +kernel
theorem dX11_clues_64 : decode cX11_clues 64 = .ok (.iload 4, 2) := by decide +kernel
theorem dX11_clues_66 : decode cX11_clues 66 = .ok (.iconst 1, 1) := by decide +kernel
theorem dX11_clues_67 : decode cX11_clues 67 = .ok (.iload 5, 2) := by decide +kernel
theorem dX11_clues_69 : decode cX11_clues 69 = .ok (.ishl, 1) := by decide +kernel
theorem dX11_clues_70 : decode cX11_clues 70 = .ok (.ior, 1) := by decide +kernel
theorem dX11_clues_71 : decode cX11_clues 71 = .ok (.istore 4, 2) := by decide +kernel
theorem dX11_clues_73 : decode cX11_clues 73 = .ok (.iinc 5 1, 3) := by decide +kernel
theorem dX11_clues_76 : decode cX11_clues 76 = .ok (.goto (-29), 3) := by decide +kernel
theorem dX11_clues_79 : decode cX11_clues 79 = .ok (.iload 4, 2) := by decide +kernel
theorem dX11_clues_81 : decode cX11_clues 81 = .ok (.ireturn, 1) := by decide +kernel
theorem dX11_wereLetOff_0 : decode cX11_wereLetOff 0 = .ok (.aload_n 0, 1) := by decide +kernel
theorem dX11_wereLetOff_1 : decode cX11_wereLetOff 1 = .ok (.getfield 27, 3) := by decide +kernel
theorem dX11_wereLetOff_4 : decode cX11_wereLetOff 4 = .ok (.getfield 128, 3) := by decide +kernel
theorem dX11_wereLetOff_7 : decode cX11_wereLetOff 7 = .ok (.istore_n 3, 1) := by decide +kernel
theorem dX11_wereLetOff_8 : decode cX11_wereLetOff 8 = .ok (.iconst 0, 1) := by decide +kernel
theorem dX11_wereLetOff_9 : decode cX11_wereLetOff 9 = .ok (.istore 4, 2) := by decide +kernel
theorem dX11_wereLetOff_11 : decode cX11_wereLetOff 11 = .ok (.iload 4, 2) := by decide +kernel
theorem dX11_wereLetOff_13 : decode cX11_wereLetOff 13 = .ok (.aload_n 1, 1) := by decide +kernel
theorem dX11_wereLetOff_14 : decode cX11_wereLetOff 14 = .ok (.getfield 231, 3) := by decide +kernel
theorem dX11_wereLetOff_17 : decode cX11_wereLetOff 17 = .ok (.if_icmp .ge 47, 3) := by decide +kernel
theorem dX11_wereLetOff_20 : decode cX11_wereLetOff 20 = .ok (.aload_n 0, 1) := by decide +kernel
theorem dX11_wereLetOff_21 : decode cX11_wereLetOff 21 = .ok (.getfield 62, 3) := by decide +kernel
theorem dX11_wereLetOff_24 : decode cX11_wereLetOff 24 = .ok (.iload_n 3, 1) := by decide +kernel
theorem dX11_wereLetOff_25 : decode cX11_wereLetOff 25 = .ok (.aload_n 0, 1) := by decide +kernel
theorem dX11_wereLetOff_26 : decode cX11_wereLetOff 26 = .ok (.getfield 106, 3) := by decide +kernel
theorem dX11_wereLetOff_29 : decode cX11_wereLetOff 29 = .ok (.getfield 161, 3) := by decide +kernel
theorem dX11_wereLetOff_32 : decode cX11_wereLetOff 32 = .ok (.invokevirtual 214, 3) := by decide +kernel
theorem dX11_wereLetOff_35 : decode cX11_wereLetOff 35 = .ok (.istore_n 3, 1) := by decide +kernel
theorem dX11_wereLetOff_36 : decode cX11_wereLetOff 36 = .ok (.aload_n 0, 1) := by decide +kernel
theorem dX11_wereLetOff_37 : decode cX11_wereLetOff 37 = .ok (.getfield 71, 3) := by decide +kernel
theorem dX11_wereLetOff_40 : decode cX11_wereLetOff 40 = .ok (.iload_n 3, 1) := by decide +kernel
theorem dX11_wereLetOff_41 : decode cX11_wereLetOff 41 = .ok (.iload_n 2, 1) := by decide +kernel
theorem dX11_wereLetOff_42 : decode cX11_wereLetOff 42 = .ok (.invokevirtual 183, 3) := by decide +kernel
theorem dX11_wereLetOff_45 : decode cX11_wereLetOff 45 = .ok (.i2l, 1) := by decide +kernel
theorem dX11_wereLetOff_46 : decode cX11_wereLetOff 46 = .ok (.aload_n 1, 1) := by decide +kernel
theorem dX11_wereLetOff_47 : decode cX11_wereLetOff 47 = .ok (.iload 4, 2) := by decide +kernel
theorem dX11_wereLetOff_49 : decode cX11_wereLetOff 49 = .ok (.invokevirtual 234, 3) := by decide +kernel
theorem dX11_wereLetOff_52 : decode cX11_wereLetOff 52 = .ok (.lcmp, 1) := by decide +kernel
theorem dX11_wereLetOff_53 : decode cX11_wereLetOff 53 = .ok (.ifCond .eq 5, 3) := by decide +kernel
theorem dX11_wereLetOff_56 : decode cX11_wereLetOff 56 = .ok (.iconst 0, 1) := by decide +kernel
theorem dX11_wereLetOff_57 : decode cX11_wereLetOff 57 = .ok (.ireturn, 1) := by decide +kernel
theorem dX11_wereLetOff_58 : decode cX11_wereLetOff 58 = .ok (.iinc 4 1, 3) := by decide +kernel
theorem dX11_wereLetOff_61 : decode cX11_wereLetOff 61 = .ok (.goto (-50), 3) := by decide +kernel
theorem dX11_wereLetOff_64 : decode cX11_wereLetOff 64 = .ok (.iconst 1, 1) := by decide +kernel
theorem dX11_wereLetOff_65 : decode cX11_wereLetOff 65 = .ok (.ireturn, 1) := by decide +kernel
theorem dX11_forces_0 : decode cX11_forces 0 = .ok (.iload_n 1, 1) := by decide +kernel
theorem dX11_forces_1 : decode cX11_forces 1 = .ok (.invokestatic 294, 3) := by decide +kernel
theorem dX11_forces_4 : decode cX11_forces 4 = .ok (.ifCond .ne 6, 3) := by decide +kernel
theorem dX11_forces_7 : decode cX11_forces 7 = .ok (.bipush (-2), 2) := by decide +kernel
theorem dX11_forces_9 : decode cX11_forces 9 = .ok (.ireturn, 1) := by decide +kernel
theorem dX11_forces_10 : decode cX11_forces 10 = .ok (.aload_n 0, 1) := by decide +kernel
theorem dX11_forces_11 : decode cX11_forces 11 = .ok (.getfield 71, 3) := by decide +kernel
theorem dX11_forces_14 : decode cX11_forces 14 = .ok (.aload_n 0, 1) := by decide +kernel
theorem dX11_forces_15 : decode cX11_forces 15 = .ok (.getfield 27, 3) := by decide +kernel
theorem dX11_forces_18 : decode cX11_forces 18 = .ok (.getfield 128, 3) := by decide +kernel
theorem dX11_forces_21 : decode cX11_forces 21 = .ok (.aload_n 0, 1) := by decide +kernel
theorem dX11_forces_22 : decode cX11_forces 22 = .ok (.getfield 27, 3) := by decide +kernel
theorem dX11_forces_25 : decode cX11_forces 25 = .ok (.getfield 134, 3) := by decide +kernel
theorem dX11_forces_28 : decode cX11_forces 28 = .ok (.invokevirtual 183, 3) := by decide +kernel
theorem dX11_forces_31 : decode cX11_forces 31 = .ok (.aload_n 0, 1) := by decide +kernel
theorem dX11_forces_32 : decode cX11_forces 32 = .ok (.getfield 71, 3) := by decide +kernel
theorem dX11_forces_35 : decode cX11_forces 35 = .ok (.iload_n 1, 1) := by decide +kernel
theorem dX11_forces_36 : decode cX11_forces 36 = .ok (.invokevirtual 324, 3) := by decide +kernel
theorem dX11_forces_39 : decode cX11_forces 39 = .ok (.if_icmp .ne 5, 3) := by decide +kernel
theorem dX11_forces_42 : decode cX11_forces 42 = .ok (.iconst 0, 1) := by decide +kernel
theorem dX11_forces_43 : decode cX11_forces 43 = .ok (.ireturn, 1) := by decide +kernel
theorem dX11_forces_44 : decode cX11_forces 44 = .ok (.aload_n 0, 1) := by decide +kernel
theorem dX11_forces_45 : decode cX11_forces 45 = .ok (.iload_n 1, 1) := by decide +kernel
theorem dX11_forces_46 : decode cX11_forces 46 = .ok (.invokevirtual 374, 3) := by decide +kernel
theorem dX11_forces_49 : decode cX11_forces 49 = .ok (.iconst (-1), 1) := by decide +kernel
theorem dX11_forces_50 : decode cX11_forces 50 = .ok (.if_icmp .ne 7, 3) := by decide +kernel
theorem dX11_forces_53 : decode cX11_forces 53 = .ok (.iconst (-1), 1) := by decide +kernel
theorem dX11_forces_54 : decode cX11_forces 54 = .ok (.goto 4, 3) := by decide +kernel
theorem dX11_forces_57 : decode cX11_forces 57 = .ok (.iconst 1, 1) := by decide +kernel
theorem dX11_forces_58 : decode cX11_forces 58 = .ok (.ireturn, 1) := by decide +kernel
theorem dX11_best_0 : decode cX11_best 0 = .ok (.iload_n 1, 1) := by decide +kernel
theorem dX11_best_1 : decode cX11_best 1 = .ok (.invokestatic 294, 3) := by decide +kernel
theorem dX11_best_4 : decode cX11_best 4 = .ok (.ifCond .ne 6, 3) := by decide +kernel
theorem dX11_best_7 : decode cX11_best 7 = .ok (.bipush (-2), 2) := by decide +kernel
theorem dX11_best_9 : decode cX11_best 9 = .ok (.ireturn, 1) := by decide +kernel
theorem dX11_best_10 : decode cX11_best 10 = .ok (.aload_n 0, 1) := by decide +kernel
theorem dX11_best_11 : decode cX11_best 11 = .ok (.getfield 71, 3) := by decide +kernel
theorem dX11_best_14 : decode cX11_best 14 = .ok (.aload_n 0, 1) := by decide +kernel
theorem dX11_best_15 : decode cX11_best 15 = .ok (.getfield 27, 3) := by decide +kernel
theorem dX11_best_18 : decode cX11_best 18 = .ok (.getfield 128, 3) := by decide +kernel
theorem dX11_best_21 : decode cX11_best 21 = .ok (.aload_n 0, 1) := by decide +kernel
theorem dX11_best_22 : decode cX11_best 22 = .ok (.getfield 27, 3) := by decide +kernel
theorem dX11_best_25 : decode cX11_best 25 = .ok (.getfield 134, 3) := by decide +kernel
theorem dX11_best_28 : decode cX11_best 28 = .ok (.invokevirtual 183, 3) := by decide +kernel
theorem dX11_best_31 : decode cX11_best 31 = .ok (.aload_n 0, 1) := by decide +kernel
theorem dX11_best_32 : decode cX11_best 32 = .ok (.getfield 71, 3) := by decide +kernel
theorem dX11_best_35 : decode cX11_best 35 = .ok (.iload_n 1, 1) := by decide +kernel
theorem dX11_best_36 : decode cX11_best 36 = .ok (.invokevirtual 324, 3) := by decide +kernel
theorem dX11_best_39 : decode cX11_best 39 = .ok (.if_icmp .ne 5, 3) := by decide +kernel
theorem dX11_best_42 : decode cX11_best 42 = .ok (.iconst (-1), 1) := by decide +kernel
theorem dX11_best_43 : decode cX11_best 43 = .ok (.ireturn, 1) := by decide +kernel
theorem dX11_best_44 : decode cX11_best 44 = .ok (.aload_n 0, 1) := by decide +kernel
theorem dX11_best_45 : decode cX11_best 45 = .ok (.iload_n 1, 1) := by decide +kernel
theorem dX11_best_46 : decode cX11_best 46 = .ok (.invokevirtual 374, 3) := by decide +kernel
theorem dX11_best_49 : decode cX11_best 49 = .ok (.istore_n 2, 1) := by decide +kernel
theorem dX11_best_50 : decode cX11_best 50 = .ok (.iload_n 2, 1) := by decide +kernel
theorem dX11_best_51 : decode cX11_best 51 = .ok (.iconst (-1), 1) := by decide +kernel
theorem dX11_best_52 : decode cX11_best 52 = .ok (.if_icmp .ne 7, 3) := by decide +kernel
theorem dX11_best_55 : decode cX11_best 55 = .ok (.iconst (-1), 1) := by decide +kernel
theorem dX11_best_56 : decode cX11_best 56 = .ok (.goto 11, 3) := by decide +kernel
theorem dX11_best_59 : decode cX11_best 59 = .ok (.aload_n 0, 1) := by decide +kernel
theorem dX11_best_60 : decode cX11_best 60 = .ok (.getfield 62, 3) := by decide +kernel
theorem dX11_best_63 : decode cX11_best 63 = .ok (.iload_n 2, 1) := by decide +kernel
theorem dX11_best_64 : decode cX11_best 64 = .ok (.invokevirtual 310, 3) := by decide +kernel
theorem dX11_best_67 : decode cX11_best 67 = .ok (.ireturn, 1) := by decide +kernel
theorem dX11_pairTo_0 : decode cX11_pairTo 0 = .ok (.aload_n 0, 1) := by decide +kernel
theorem dX11_pairTo_1 : decode cX11_pairTo 1 = .ok (.getfield 71, 3) := by decide +kernel
theorem dX11_pairTo_4 : decode cX11_pairTo 4 = .ok (.iload_n 1, 1) := by decide +kernel
theorem dX11_pairTo_5 : decode cX11_pairTo 5 = .ok (.invokevirtual 324, 3) := by decide +kernel
theorem dX11_pairTo_8 : decode cX11_pairTo 8 = .ok (.istore_n 2, 1) := by decide +kernel
theorem dX11_pairTo_9 : decode cX11_pairTo 9 = .ok (.aload_n 0, 1) := by decide +kernel
theorem dX11_pairTo_10 : decode cX11_pairTo 10 = .ok (.getfield 62, 3) := by decide +kernel
theorem dX11_pairTo_13 : decode cX11_pairTo 13 = .ok (.invokevirtual 377, 3) := by decide +kernel
theorem dX11_pairTo_16 : decode cX11_pairTo 16 = .ok (.iconst 0, 1) := by decide +kernel
theorem dX11_pairTo_17 : decode cX11_pairTo 17 = .ok (.istore_n 3, 1) := by decide +kernel
theorem dX11_pairTo_18 : decode cX11_pairTo 18 = .ok (.iload_n 3, 1) := by decide +kernel
theorem dX11_pairTo_19 : decode cX11_pairTo 19 = .ok (.aload_n 0, 1) := by decide +kernel
theorem dX11_pairTo_20 : decode cX11_pairTo 20 = .ok (.getfield 62, 3) := by decide +kernel
theorem dX11_pairTo_23 : decode cX11_pairTo 23 = .ok (.getfield 380, 3) := by decide +kernel
theorem dX11_pairTo_26 : decode cX11_pairTo 26 = .ok (.if_icmp .ge 44, 3) := by decide +kernel
theorem dX11_pairTo_29 : decode cX11_pairTo 29 = .ok (.aload_n 0, 1) := by decide +kernel
theorem dX11_pairTo_30 : decode cX11_pairTo 30 = .ok (.getfield 71, 3) := by decide +kernel
theorem dX11_pairTo_33 : decode cX11_pairTo 33 = .ok (.aload_n 0, 1) := by decide +kernel
theorem dX11_pairTo_34 : decode cX11_pairTo 34 = .ok (.getfield 62, 3) := by decide +kernel
theorem dX11_pairTo_37 : decode cX11_pairTo 37 = .ok (.aload_n 0, 1) := by decide +kernel
theorem dX11_pairTo_38 : decode cX11_pairTo 38 = .ok (.getfield 27, 3) := by decide +kernel
theorem dX11_pairTo_41 : decode cX11_pairTo 41 = .ok (.getfield 128, 3) := by decide +kernel
theorem dX11_pairTo_44 : decode cX11_pairTo 44 = .ok (.iload_n 3, 1) := by decide +kernel
theorem dX11_pairTo_45 : decode cX11_pairTo 45 = .ok (.invokevirtual 307, 3) := by decide +kernel
theorem dX11_pairTo_48 : decode cX11_pairTo 48 = .ok (.aload_n 0, 1) := by decide +kernel
theorem dX11_pairTo_49 : decode cX11_pairTo 49 = .ok (.getfield 27, 3) := by decide +kernel
theorem dX11_pairTo_52 : decode cX11_pairTo 52 = .ok (.getfield 134, 3) := by decide +kernel
theorem dX11_pairTo_55 : decode cX11_pairTo 55 = .ok (.invokevirtual 183, 3) := by decide +kernel
theorem dX11_pairTo_58 : decode cX11_pairTo 58 = .ok (.iload_n 2, 1) := by decide +kernel
theorem dX11_pairTo_59 : decode cX11_pairTo 59 = .ok (.if_icmp .ne 5, 3) := by decide +kernel
theorem dX11_pairTo_62 : decode cX11_pairTo 62 = .ok (.iload_n 3, 1) := by decide +kernel
theorem dX11_pairTo_63 : decode cX11_pairTo 63 = .ok (.ireturn, 1) := by decide +kernel
theorem dX11_pairTo_64 : decode cX11_pairTo 64 = .ok (.iinc 3 1, 3) := by decide +kernel
theorem dX11_pairTo_67 : decode cX11_pairTo 67 = .ok (.goto (-49), 3) := by decide +kernel
theorem dX11_pairTo_70 : decode cX11_pairTo 70 = .ok (.iconst (-1), 1) := by decide +kernel
theorem dX11_pairTo_71 : decode cX11_pairTo 71 = .ok (.ireturn, 1) := by decide +kernel
theorem dX11_chance_0 : decode cX11_chance 0 = .ok (.iload_n 1, 1) := by decide +kernel
theorem dX11_chance_1 : decode cX11_chance 1 = .ok (.invokestatic 294, 3) := by decide +kernel
theorem dX11_chance_4 : decode cX11_chance 4 = .ok (.ifCond .eq 11, 3) := by decide +kernel
theorem dX11_chance_7 : decode cX11_chance 7 = .ok (.iload_n 3, 1) := by decide +kernel
theorem dX11_chance_8 : decode cX11_chance 8 = .ok (.iconst 2, 1) := by decide +kernel
theorem dX11_chance_9 : decode cX11_chance 9 = .ok (.invokestatic 157, 3) := by decide +kernel
theorem dX11_chance_12 : decode cX11_chance 12 = .ok (.ifCond .ne 6, 3) := by decide +kernel
theorem dX11_chance_15 : decode cX11_chance 15 = .ok (.bipush (-2), 2) := by decide +kernel
theorem dX11_chance_17 : decode cX11_chance 17 = .ok (.ireturn, 1) := by decide +kernel
theorem dX11_chance_18 : decode cX11_chance 18 = .ok (.iload_n 2, 1) := by decide +kernel
theorem dX11_chance_19 : decode cX11_chance 19 = .ok (.ifCond .lt 9, 3) := by decide +kernel
theorem dX11_chance_22 : decode cX11_chance 22 = .ok (.iload_n 2, 1) := by decide +kernel
theorem dX11_chance_23 : decode cX11_chance 23 = .ok (.bipush 7, 2) := by decide +kernel
theorem dX11_chance_25 : decode cX11_chance 25 = .ok (.if_icmp .le 6, 3) := by decide +kernel
theorem dX11_chance_28 : decode cX11_chance 28 = .ok (.bipush (-3), 2) := by decide +kernel
theorem dX11_chance_30 : decode cX11_chance 30 = .ok (.ireturn, 1) := by decide +kernel
theorem dX11_chance_31 : decode cX11_chance 31 = .ok (.aload_n 0, 1) := by decide +kernel
theorem dX11_chance_32 : decode cX11_chance 32 = .ok (.iload_n 2, 1) := by decide +kernel
theorem dX11_chance_33 : decode cX11_chance 33 = .ok (.invokevirtual 383, 3) := by decide +kernel
theorem dX11_chance_36 : decode cX11_chance 36 = .ok (.lstore 4, 2) := by decide +kernel
theorem dX11_chance_38 : decode cX11_chance 38 = .ok (.aload_n 0, 1) := by decide +kernel
theorem dX11_chance_39 : decode cX11_chance 39 = .ok (.iload_n 1, 1) := by decide +kernel
theorem dX11_chance_40 : decode cX11_chance 40 = .ok (.invokevirtual 321, 3) := by decide +kernel
theorem dX11_chance_43 : decode cX11_chance 43 = .ok (.lload 4, 2) := by decide +kernel
theorem dX11_chance_45 : decode cX11_chance 45 = .ok (.iload_n 3, 1) := by decide +kernel
theorem dX11_chance_46 : decode cX11_chance 46 = .ok (.invokestatic 386, 3) := by decide +kernel
theorem dX11_chance_49 : decode cX11_chance 49 = .ok (.ireturn, 1) := by decide +kernel
theorem dX11_mean_0 : decode cX11_mean 0 = .ok (.iload_n 2, 1) := by decide +kernel
theorem dX11_mean_1 : decode cX11_mean 1 = .ok (.iconst 2, 1) := by decide +kernel
theorem dX11_mean_2 : decode cX11_mean 2 = .ok (.invokestatic 157, 3) := by decide +kernel
theorem dX11_mean_5 : decode cX11_mean 5 = .ok (.ifCond .ne 6, 3) := by decide +kernel
theorem dX11_mean_8 : decode cX11_mean 8 = .ok (.bipush (-2), 2) := by decide +kernel
theorem dX11_mean_10 : decode cX11_mean 10 = .ok (.ireturn, 1) := by decide +kernel
theorem dX11_mean_11 : decode cX11_mean 11 = .ok (.iload_n 1, 1) := by decide +kernel
theorem dX11_mean_12 : decode cX11_mean 12 = .ok (.ifCond .lt 9, 3) := by decide +kernel
theorem dX11_mean_15 : decode cX11_mean 15 = .ok (.iload_n 1, 1) := by decide +kernel
theorem dX11_mean_16 : decode cX11_mean 16 = .ok (.bipush 7, 2) := by decide +kernel
theorem dX11_mean_18 : decode cX11_mean 18 = .ok (.if_icmp .le 6, 3) := by decide +kernel
theorem dX11_mean_21 : decode cX11_mean 21 = .ok (.bipush (-3), 2) := by decide +kernel
theorem dX11_mean_23 : decode cX11_mean 23 = .ok (.ireturn, 1) := by decide +kernel
theorem dX11_mean_24 : decode cX11_mean 24 = .ok (.aload_n 0, 1) := by decide +kernel
theorem dX11_mean_25 : decode cX11_mean 25 = .ok (.iload_n 1, 1) := by decide +kernel
theorem dX11_mean_26 : decode cX11_mean 26 = .ok (.invokevirtual 383, 3) := by decide +kernel
theorem dX11_mean_29 : decode cX11_mean 29 = .ok (.lstore_n 3, 1) := by decide +kernel
theorem dX11_mean_30 : decode cX11_mean 30 = .ok (.lconst 0, 1) := by decide +kernel
theorem dX11_mean_31 : decode cX11_mean 31 = .ok (.lstore 5, 2) := by decide +kernel
theorem dX11_mean_33 : decode cX11_mean 33 = .ok (.iconst 0, 1) := by decide +kernel
theorem dX11_mean_34 : decode cX11_mean 34 = .ok (.istore 7, 2) := by decide +kernel
theorem dX11_mean_36 : decode cX11_mean 36 = .ok (.iload 7, 2) := by decide +kernel
theorem dX11_mean_38 : decode cX11_mean 38 = .ok (.aload_n 0, 1) := by decide +kernel
theorem dX11_mean_39 : decode cX11_mean 39 = .ok (.getfield 62, 3) := by decide +kernel
theorem dX11_mean_42 : decode cX11_mean 42 = .ok (.getfield 281, 3) := by decide +kernel
theorem dX11_mean_45 : decode cX11_mean 45 = .ok (.if_icmp .ge 55, 3) := by decide +kernel
theorem dX11_mean_48 : decode cX11_mean 48 = .ok (.aload_n 0, 1) := by decide +kernel
theorem dX11_mean_49 : decode cX11_mean 49 = .ok (.getfield 87, 3) := by decide +kernel
theorem dX11_mean_52 : decode cX11_mean 52 = .ok (.iload 7, 2) := by decide +kernel
theorem dX11_mean_54 : decode cX11_mean 54 = .ok (.invokevirtual 327, 3) := by decide +kernel
theorem dX11_mean_57 : decode cX11_mean 57 = .ok (.lstore 8, 2) := by decide +kernel
theorem dX11_mean_59 : decode cX11_mean 59 = .ok (.lload 8, 2) := by decide +kernel
theorem dX11_mean_61 : decode cX11_mean 61 = .ok (.lconst 0, 1) := by decide +kernel
theorem dX11_mean_62 : decode cX11_mean 62 = .ok (.lcmp, 1) := by decide +kernel
theorem dX11_mean_63 : decode cX11_mean 63 = .ok (.ifCond .eq 31, 3) := by decide +kernel
theorem dX11_mean_66 : decode cX11_mean 66 = .ok (.lload 5, 2) := by decide +kernel
theorem dX11_mean_68 : decode cX11_mean 68 = .ok (.lload 8, 2) := by decide +kernel
theorem dX11_mean_70 : decode cX11_mean 70 = .ok (.aload_n 0, 1) := by decide +kernel
theorem dX11_mean_71 : decode cX11_mean 71 = .ok (.getfield 71, 3) := by decide +kernel
theorem dX11_mean_74 : decode cX11_mean 74 = .ok (.iload 7, 2) := by decide +kernel
theorem dX11_mean_76 : decode cX11_mean 76 = .ok (.aload_n 0, 1) := by decide +kernel
theorem dX11_mean_77 : decode cX11_mean 77 = .ok (.getfield 27, 3) := by decide +kernel
theorem dX11_mean_80 : decode cX11_mean 80 = .ok (.getfield 134, 3) := by decide +kernel
theorem dX11_mean_83 : decode cX11_mean 83 = .ok (.invokevirtual 183, 3) := by decide +kernel
theorem dX11_mean_86 : decode cX11_mean 86 = .ok (.invokestatic 186, 3) := by decide +kernel
theorem dX11_mean_89 : decode cX11_mean 89 = .ok (.i2l, 1) := by decide +kernel
theorem dX11_mean_90 : decode cX11_mean 90 = .ok (.lmul, 1) := by decide +kernel
theorem dX11_mean_91 : decode cX11_mean 91 = .ok (.ladd, 1) := by decide +kernel
theorem dX11_mean_92 : decode cX11_mean 92 = .ok (.lstore 5, 2) := by decide +kernel
theorem dX11_mean_94 : decode cX11_mean 94 = .ok (.iinc 7 1, 3) := by decide +kernel
theorem dX11_mean_97 : decode cX11_mean 97 = .ok (.goto (-61), 3) := by decide +kernel
theorem dX11_mean_100 : decode cX11_mean 100 = .ok (.lload 5, 2) := by decide +kernel
theorem dX11_mean_102 : decode cX11_mean 102 = .ok (.lload_n 3, 1) := by decide +kernel
theorem dX11_mean_103 : decode cX11_mean 103 = .ok (.iload_n 2, 1) := by decide +kernel
theorem dX11_mean_104 : decode cX11_mean 104 = .ok (.invokestatic 386, 3) := by decide +kernel
theorem dX11_mean_107 : decode cX11_mean 107 = .ok (.ireturn, 1) := by decide +kernel
theorem dX11_drawLots_0 : decode cX11_drawLots 0 = .ok (.lconst 1, 1) := by decide +kernel
theorem dX11_drawLots_1 : decode cX11_drawLots 1 = .ok (.lstore_n 2, 1) := by decide +kernel
theorem dX11_drawLots_2 : decode cX11_drawLots 2 = .ok (.aload_n 0, 1) := by decide +kernel
theorem dX11_drawLots_3 : decode cX11_drawLots 3 = .ok (.getfield 87, 3) := by decide +kernel
theorem dX11_drawLots_6 : decode cX11_drawLots 6 = .ok (.aload_n 0, 1) := by decide +kernel
theorem dX11_drawLots_7 : decode cX11_drawLots 7 = .ok (.getfield 27, 3) := by decide +kernel
theorem dX11_drawLots_10 : decode cX11_drawLots 10 = .ok (.getfield 128, 3) := by decide +kernel
theorem dX11_drawLots_13 : decode cX11_drawLots 13 = .ok (.invokevirtual 315, 3) := by decide +kernel
theorem dX11_drawLots_16 : decode cX11_drawLots 16 = .ok (.iconst 0, 1) := by decide +kernel
theorem dX11_drawLots_17 : decode cX11_drawLots 17 = .ok (.istore 4, 2) := by decide +kernel
theorem dX11_drawLots_19 : decode cX11_drawLots 19 = .ok (.iload 4, 2) := by decide +kernel
theorem dX11_drawLots_21 : decode cX11_drawLots 21 = .ok (.iload_n 1, 1) := by decide +kernel
theorem dX11_drawLots_22 : decode cX11_drawLots 22 = .ok (.if_icmp .ge 22, 3) := by decide +kernel
theorem dX11_drawLots_25 : decode cX11_drawLots 25 = .ok (.aload_n 0, 1) := by decide +kernel
theorem dX11_drawLots_26 : decode cX11_drawLots 26 = .ok (.getfield 87, 3) := by decide +kernel
theorem dX11_drawLots_29 : decode cX11_drawLots 29 = .ok (.invokevirtual 390, 3) := by decide +kernel
theorem dX11_drawLots_32 : decode cX11_drawLots 32 = .ok (.lload_n 2, 1) := by decide +kernel
theorem dX11_drawLots_33 : decode cX11_drawLots 33 = .ok (.ldc2_w 242, 3) := by decide +kernel
theorem dX11_drawLots_36 : decode cX11_drawLots 36 = .ok (.lmul, 1) := by decide +kernel
theorem dX11_drawLots_37 : decode cX11_drawLots 37 = .ok (.lstore_n 2, 1) := by decide +kernel
theorem dX11_drawLots_38 : decode cX11_drawLots 38 = .ok (.iinc 4 1, 3) := by decide +kernel
theorem dX11_drawLots_41 : decode cX11_drawLots 41 = .ok (.goto (-22), 3) := by decide +kernel
theorem dX11_drawLots_44 : decode cX11_drawLots 44 = .ok (.lload_n 2, 1) := by decide +kernel
theorem dX11_drawLots_45 : decode cX11_drawLots 45 = .ok (.lreturn, 1) := by decide +kernel
theorem dX11_inLowestTerms_0 : decode cX11_inLowestTerms 0 = .ok (.lconst 1, 1) := by decide +kernel
theorem dX11_inLowestTerms_1 : decode cX11_inLowestTerms 1 = .ok (.lload_n 0, 1) := by decide +kernel
theorem dX11_inLowestTerms_2 : decode cX11_inLowestTerms 2 = .ok (.lload_n 2, 1) := by decide +kernel
theorem dX11_inLowestTerms_3 : decode cX11_inLowestTerms 3 = .ok (.invokestatic 393, 3) := by decide +kernel
theorem dX11_inLowestTerms_6 : decode cX11_inLowestTerms 6 = .ok (.invokestatic 397, 3) := by decide +kernel
theorem dX11_inLowestTerms_9 : decode cX11_inLowestTerms 9 = .ok (.lstore 5, 2) := by decide +kernel
theorem dX11_inLowestTerms_11 : decode cX11_inLowestTerms 11 = .ok (.iload 4, 2) := by decide +kernel
theorem dX11_inLowestTerms_13 : decode cX11_inLowestTerms 13 = .ok (.ifCond .ne 7, 3) := by decide +kernel
theorem dX11_inLowestTerms_16 : decode cX11_inLowestTerms 16 = .ok (.lload_n 0, 1) := by decide +kernel
theorem dX11_inLowestTerms_17 : decode cX11_inLowestTerms 17 = .ok (.goto 4, 3) := by decide +kernel
theorem dX11_inLowestTerms_20 : decode cX11_inLowestTerms 20 = .ok (.lload_n 2, 1) := by decide +kernel
theorem dX11_inLowestTerms_21 : decode cX11_inLowestTerms 21 = .ok (.lload 5, 2) := by decide +kernel
theorem dX11_inLowestTerms_23 : decode cX11_inLowestTerms 23 = .ok (.ldiv, 1) := by decide +kernel
theorem dX11_inLowestTerms_24 : decode cX11_inLowestTerms 24 = .ok (.l2i, 1) := by decide +kernel
theorem dX11_inLowestTerms_25 : decode cX11_inLowestTerms 25 = .ok (.ireturn, 1) := by decide +kernel
theorem dX11_greatestDivisor_0 : decode cX11_greatestDivisor 0 = .ok (.lload_n 0, 1) := by decide +kernel
theorem dX11_greatestDivisor_1 : decode cX11_greatestDivisor 1 = .ok (.lstore 4, 2) := by decide +kernel
theorem dX11_greatestDivisor_3 : decode cX11_greatestDivisor 3 = .ok (.lload_n 2, 1) := by decide +kernel
theorem dX11_greatestDivisor_4 : decode cX11_greatestDivisor 4 = .ok (.lstore 6, 2) := by decide +kernel
theorem dX11_greatestDivisor_6 : decode cX11_greatestDivisor 6 = .ok (.iconst 0, 1) := by decide +kernel
theorem dX11_greatestDivisor_7 : decode cX11_greatestDivisor 7 = .ok (.istore 8, 2) := by decide +kernel
theorem dX11_greatestDivisor_9 : decode cX11_greatestDivisor 9 = .ok (.iload 8, 2) := by decide +kernel
theorem dX11_greatestDivisor_11 : decode cX11_greatestDivisor 11 = .ok (.sipush 200, 3) := by decide +kernel
theorem dX11_greatestDivisor_14 : decode cX11_greatestDivisor 14 = .ok (.if_icmp .ge 31, 3) := by decide +kernel
theorem dX11_greatestDivisor_17 : decode cX11_greatestDivisor 17 = .ok (.lload 6, 2) := by decide +kernel
theorem dX11_greatestDivisor_19 : decode cX11_greatestDivisor 19 = .ok (.lconst 0, 1) := by decide +kernel
theorem dX11_greatestDivisor_20 : decode cX11_greatestDivisor 20 = .ok (.lcmp, 1) := by decide +kernel
theorem dX11_greatestDivisor_21 : decode cX11_greatestDivisor 21 = .ok (.ifCond .eq 24, 3) := by decide +kernel
theorem dX11_greatestDivisor_24 : decode cX11_greatestDivisor 24 = .ok (.lload 4, 2) := by decide +kernel
theorem dX11_greatestDivisor_26 : decode cX11_greatestDivisor 26 = .ok (.lload 6, 2) := by decide +kernel
theorem dX11_greatestDivisor_28 : decode cX11_greatestDivisor 28 = .ok (.lrem, 1) := by decide +kernel
theorem dX11_greatestDivisor_29 : decode cX11_greatestDivisor 29 = .ok (.lstore 9, 2) := by decide +kernel
theorem dX11_greatestDivisor_31 : decode cX11_greatestDivisor 31 = .ok (.lload 6, 2) := by decide +kernel
theorem dX11_greatestDivisor_33 : decode cX11_greatestDivisor 33 = .ok (.lstore 4, 2) := by decide +kernel
theorem dX11_greatestDivisor_35 : decode cX11_greatestDivisor 35 = .ok (.lload 9, 2) := by decide +kernel
theorem dX11_greatestDivisor_37 : decode cX11_greatestDivisor 37 = .ok (.lstore 6, 2) := by decide +kernel
theorem dX11_greatestDivisor_39 : decode cX11_greatestDivisor 39 = .ok (.iinc 8 1, 3) := by decide +kernel
theorem dX11_greatestDivisor_42 : decode cX11_greatestDivisor 42 = .ok (.goto (-33), 3) := by decide +kernel
theorem dX11_greatestDivisor_45 : decode cX11_greatestDivisor 45 = .ok (.lload 4, 2) := by decide +kernel
theorem dX11_greatestDivisor_47 : decode cX11_greatestDivisor 47 = .ok (.lreturn, 1) := by decide +kernel
theorem dX11_numbers_0 : decode cX11_numbers 0 = .ok (.iload_n 1, 1) := by decide +kernel
theorem dX11_numbers_1 : decode cX11_numbers 1 = .ok (.iconst 4, 1) := by decide +kernel
theorem dX11_numbers_2 : decode cX11_numbers 2 = .ok (.invokestatic 157, 3) := by decide +kernel
theorem dX11_numbers_5 : decode cX11_numbers 5 = .ok (.ifCond .eq 11, 3) := by decide +kernel
theorem dX11_numbers_8 : decode cX11_numbers 8 = .ok (.iload_n 2, 1) := by decide +kernel
theorem dX11_numbers_9 : decode cX11_numbers 9 = .ok (.iconst 4, 1) := by decide +kernel
theorem dX11_numbers_10 : decode cX11_numbers 10 = .ok (.invokestatic 157, 3) := by decide +kernel
theorem dX11_numbers_13 : decode cX11_numbers 13 = .ok (.ifCond .ne 6, 3) := by decide +kernel
theorem dX11_numbers_16 : decode cX11_numbers 16 = .ok (.bipush (-2), 2) := by decide +kernel
theorem dX11_numbers_18 : decode cX11_numbers 18 = .ok (.ireturn, 1) := by decide +kernel
theorem dX11_numbers_19 : decode cX11_numbers 19 = .ok (.iload_n 3, 1) := by decide +kernel
theorem dX11_numbers_20 : decode cX11_numbers 20 = .ok (.ifCond .lt 9, 3) := by decide +kernel
theorem dX11_numbers_23 : decode cX11_numbers 23 = .ok (.iload_n 3, 1) := by decide +kernel
theorem dX11_numbers_24 : decode cX11_numbers 24 = .ok (.bipush 40, 2) := by decide +kernel
theorem dX11_numbers_26 : decode cX11_numbers 26 = .ok (.if_icmp .le 6, 3) := by decide +kernel
theorem dX11_numbers_29 : decode cX11_numbers 29 = .ok (.bipush (-3), 2) := by decide +kernel
theorem dX11_numbers_31 : decode cX11_numbers 31 = .ok (.ireturn, 1) := by decide +kernel
theorem dX11_numbers_32 : decode cX11_numbers 32 = .ok (.aload_n 0, 1) := by decide +kernel
theorem dX11_numbers_33 : decode cX11_numbers 33 = .ok (.getfield 49, 3) := by decide +kernel
theorem dX11_numbers_36 : decode cX11_numbers 36 = .ok (.iload_n 1, 1) := by decide +kernel
theorem dX11_numbers_37 : decode cX11_numbers 37 = .ok (.aaload, 1) := by decide +kernel
theorem dX11_numbers_38 : decode cX11_numbers 38 = .ok (.iload_n 2, 1) := by decide +kernel
theorem dX11_numbers_39 : decode cX11_numbers 39 = .ok (.iload_n 3, 1) := by decide +kernel
theorem dX11_numbers_40 : decode cX11_numbers 40 = .ok (.invokevirtual 399, 3) := by decide +kernel
theorem dX11_numbers_43 : decode cX11_numbers 43 = .ok (.iconst 0, 1) := by decide +kernel
theorem dX11_numbers_44 : decode cX11_numbers 44 = .ok (.ireturn, 1) := by decide +kernel
theorem dX11_write_0 : decode cX11_write 0 = .ok (.iload_n 1, 1) := by decide +kernel
theorem dX11_write_1 : decode cX11_write 1 = .ok (.iconst 4, 1) := by decide +kernel
theorem dX11_write_2 : decode cX11_write 2 = .ok (.invokestatic 157, 3) := by decide +kernel
theorem dX11_write_5 : decode cX11_write 5 = .ok (.ifCond .ne 7, 3) := by decide +kernel
theorem dX11_write_8 : decode cX11_write 8 = .ok (.ldc2_w 313, 3) := by decide +kernel
theorem dX11_write_11 : decode cX11_write 11 = .ok (.lreturn, 1) := by decide +kernel
theorem dX11_write_12 : decode cX11_write 12 = .ok (.aload_n 0, 1) := by decide +kernel
theorem dX11_write_13 : decode cX11_write 13 = .ok (.getfield 49, 3) := by decide +kernel
theorem dX11_write_16 : decode cX11_write 16 = .ok (.iload_n 1, 1) := by decide +kernel
theorem dX11_write_17 : decode cX11_write 17 = .ok (.aaload, 1) := by decide +kernel
theorem dX11_write_18 : decode cX11_write 18 = .ok (.astore 5, 2) := by decide +kernel
theorem dX11_write_20 : decode cX11_write 20 = .ok (.aload 5, 2) := by decide +kernel
theorem dX11_write_22 : decode cX11_write 22 = .ok (.invokevirtual 223, 3) := by decide +kernel
theorem dX11_write_25 : decode cX11_write 25 = .ok (.ifCond .eq 7, 3) := by decide +kernel
theorem dX11_write_28 : decode cX11_write 28 = .ok (.ldc2_w 402, 3) := by decide +kernel
theorem dX11_write_31 : decode cX11_write 31 = .ok (.lreturn, 1) := by decide +kernel
theorem dX11_write_32 : decode cX11_write 32 = .ok (.iload_n 2, 1) := by decide +kernel
theorem dX11_write_33 : decode cX11_write 33 = .ok (.aload 5, 2) := by decide +kernel
theorem dX11_write_35 : decode cX11_write 35 = .ok (.getfield 231, 3) := by decide +kernel
theorem dX11_write_38 : decode cX11_write 38 = .ok (.invokestatic 157, 3) := by decide +kernel
theorem dX11_write_41 : decode cX11_write 41 = .ok (.ifCond .ne 7, 3) := by decide +kernel
theorem dX11_write_44 : decode cX11_write 44 = .ok (.ldc2_w 404, 3) := by decide +kernel
theorem dX11_write_47 : decode cX11_write 47 = .ok (.lreturn, 1) := by decide +kernel
theorem dX11_write_48 : decode cX11_write 48 = .ok (.aload 5, 2) := by decide +kernel
theorem dX11_write_50 : decode cX11_write 50 = .ok (.iload_n 2, 1) := by decide +kernel
theorem dX11_write_51 : decode cX11_write 51 = .ok (.lload_n 3, 1) := by decide +kernel
theorem dX11_write_52 : decode cX11_write 52 = .ok (.invokevirtual 406, 3) := by decide +kernel
theorem dX11_write_55 : decode cX11_write 55 = .ok (.lreturn, 1) := by decide +kernel
theorem dX11_lists_0 : decode cX11_lists 0 = .ok (.iload_n 1, 1) := by decide +kernel
theorem dX11_lists_1 : decode cX11_lists 1 = .ok (.iconst 4, 1) := by decide +kernel
theorem dX11_lists_2 : decode cX11_lists 2 = .ok (.invokestatic 157, 3) := by decide +kernel
theorem dX11_lists_5 : decode cX11_lists 5 = .ok (.ifCond .ne 6, 3) := by decide +kernel
theorem dX11_lists_8 : decode cX11_lists 8 = .ok (.bipush (-2), 2) := by decide +kernel
theorem dX11_lists_10 : decode cX11_lists 10 = .ok (.ireturn, 1) := by decide +kernel
theorem dX11_lists_11 : decode cX11_lists 11 = .ok (.aload_n 0, 1) := by decide +kernel
theorem dX11_lists_12 : decode cX11_lists 12 = .ok (.getfield 49, 3) := by decide +kernel
theorem dX11_lists_15 : decode cX11_lists 15 = .ok (.iload_n 1, 1) := by decide +kernel
theorem dX11_lists_16 : decode cX11_lists 16 = .ok (.aaload, 1) := by decide +kernel
theorem dX11_lists_17 : decode cX11_lists 17 = .ok (.astore_n 3, 1) := by decide +kernel
theorem dX11_lists_18 : decode cX11_lists 18 = .ok (.aload_n 3, 1) := by decide +kernel
theorem dX11_lists_19 : decode cX11_lists 19 = .ok (.invokevirtual 223, 3) := by decide +kernel
theorem dX11_lists_22 : decode cX11_lists 22 = .ok (.ifCond .eq 6, 3) := by decide +kernel
theorem dX11_lists_25 : decode cX11_lists 25 = .ok (.bipush (-6), 2) := by decide +kernel
theorem dX11_lists_27 : decode cX11_lists 27 = .ok (.ireturn, 1) := by decide +kernel
theorem dX11_lists_28 : decode cX11_lists 28 = .ok (.iload_n 2, 1) := by decide +kernel
theorem dX11_lists_29 : decode cX11_lists 29 = .ok (.aload_n 0, 1) := by decide +kernel
theorem dX11_lists_30 : decode cX11_lists 30 = .ok (.getfield 62, 3) := by decide +kernel
theorem dX11_lists_33 : decode cX11_lists 33 = .ok (.getfield 281, 3) := by decide +kernel
theorem dX11_lists_36 : decode cX11_lists 36 = .ok (.invokestatic 157, 3) := by decide +kernel
theorem dX11_lists_39 : decode cX11_lists 39 = .ok (.ifCond .ne 6, 3) := by decide +kernel
theorem dX11_lists_42 : decode cX11_lists 42 = .ok (.bipush (-3), 2) := by decide +kernel
theorem dX11_lists_44 : decode cX11_lists 44 = .ok (.ireturn, 1) := by decide +kernel
theorem dX11_lists_45 : decode cX11_lists 45 = .ok (.aload_n 3, 1) := by decide +kernel
theorem dX11_lists_46 : decode cX11_lists 46 = .ok (.getfield 231, 3) := by decide +kernel
theorem dX11_lists_49 : decode cX11_lists 49 = .ok (.aload_n 0, 1) := by decide +kernel
theorem dX11_lists_50 : decode cX11_lists 50 = .ok (.getfield 106, 3) := by decide +kernel
theorem dX11_lists_53 : decode cX11_lists 53 = .ok (.getfield 143, 3) := by decide +kernel
theorem dX11_lists_56 : decode cX11_lists 56 = .ok (.invokestatic 410, 3) := by decide +kernel
theorem dX11_lists_59 : decode cX11_lists 59 = .ok (.istore 4, 2) := by decide +kernel
theorem dX11_lists_61 : decode cX11_lists 61 = .ok (.iconst 0, 1) := by decide +kernel
theorem dX11_lists_62 : decode cX11_lists 62 = .ok (.istore 5, 2) := by decide +kernel
theorem dX11_lists_64 : decode cX11_lists 64 = .ok (.iload 5, 2) := by decide +kernel
theorem dX11_lists_66 : decode cX11_lists 66 = .ok (.iload 4, 2) := by decide +kernel
theorem dX11_lists_68 : decode cX11_lists 68 = .ok (.if_icmp .ge 27, 3) := by decide +kernel
theorem dX11_lists_71 : decode cX11_lists 71 = .ok (.aload_n 3, 1) := by decide +kernel
theorem dX11_lists_72 : decode cX11_lists 72 = .ok (.iload 5, 2) := by decide +kernel
theorem dX11_lists_74 : decode cX11_lists 74 = .ok (.aload_n 0, 1) := by decide +kernel
theorem dX11_lists_75 : decode cX11_lists 75 = .ok (.getfield 62, 3) := by decide +kernel
theorem dX11_lists_78 : decode cX11_lists 78 = .ok (.iload_n 2, 1) := by decide +kernel
theorem dX11_lists_79 : decode cX11_lists 79 = .ok (.iload 5, 2) := by decide +kernel
theorem dX11_lists_81 : decode cX11_lists 81 = .ok (.invokevirtual 164, 3) := by decide +kernel
theorem dX11_lists_84 : decode cX11_lists 84 = .ok (.i2l, 1) := by decide +kernel
theorem dX11_lists_85 : decode cX11_lists 85 = .ok (.invokevirtual 406, 3) := by decide +kernel
theorem dX11_lists_88 : decode cX11_lists 88 = .ok (.pop2, 1) := by decide +kernel
theorem dX11_lists_89 : decode cX11_lists 89 = .ok (.iinc 5 1, 3) := by decide +kernel
theorem dX11_lists_92 : decode cX11_lists 92 = .ok (.goto (-28), 3) := by decide +kernel
theorem dX11_lists_95 : decode cX11_lists 95 = .ok (.iload 4, 2) := by decide +kernel
theorem dX11_lists_97 : decode cX11_lists 97 = .ok (.ireturn, 1) := by decide +kernel
theorem dX11_image_0 : decode cX11_image 0 = .ok (.iload_n 1, 1) := by decide +kernel
theorem dX11_image_1 : decode cX11_image 1 = .ok (.iconst 2, 1) := by decide +kernel
theorem dX11_image_2 : decode cX11_image 2 = .ok (.invokestatic 157, 3) := by decide +kernel
theorem dX11_image_5 : decode cX11_image 5 = .ok (.ifCond .ne 6, 3) := by decide +kernel
theorem dX11_image_8 : decode cX11_image 8 = .ok (.bipush (-2), 2) := by decide +kernel
theorem dX11_image_10 : decode cX11_image 10 = .ok (.ireturn, 1) := by decide +kernel
theorem dX11_image_11 : decode cX11_image 11 = .ok (.aload_n 0, 1) := by decide +kernel
theorem dX11_image_12 : decode cX11_image 12 = .ok (.getfield 55, 3) := by decide +kernel
theorem dX11_image_15 : decode cX11_image 15 = .ok (.iload_n 1, 1) := by decide +kernel
theorem dX11_image_16 : decode cX11_image 16 = .ok (.aaload, 1) := by decide +kernel
theorem dX11_image_17 : decode cX11_image 17 = .ok (.aload_n 0, 1) := by decide +kernel
theorem dX11_image_18 : decode cX11_image 18 = .ok (.getfield 106, 3) := by decide +kernel
theorem dX11_image_21 : decode cX11_image 21 = .ok (.putfield 413, 3) := by decide +kernel
theorem dX11_image_24 : decode cX11_image 24 = .ok (.aload_n 0, 1) := by decide +kernel
theorem dX11_image_25 : decode cX11_image 25 = .ok (.getfield 55, 3) := by decide +kernel
theorem dX11_image_28 : decode cX11_image 28 = .ok (.iload_n 1, 1) := by decide +kernel
theorem dX11_image_29 : decode cX11_image 29 = .ok (.aaload, 1) := by decide +kernel
theorem dX11_image_30 : decode cX11_image 30 = .ok (.getfield 414, 3) := by decide +kernel
theorem dX11_image_33 : decode cX11_image 33 = .ok (.aload_n 0, 1) := by decide +kernel
theorem dX11_image_34 : decode cX11_image 34 = .ok (.getfield 27, 3) := by decide +kernel
theorem dX11_image_37 : decode cX11_image 37 = .ok (.invokevirtual 217, 3) := by decide +kernel
theorem dX11_image_40 : decode cX11_image 40 = .ok (.iconst 0, 1) := by decide +kernel
theorem dX11_image_41 : decode cX11_image 41 = .ok (.ireturn, 1) := by decide +kernel
theorem dX11_restore_0 : decode cX11_restore 0 = .ok (.iload_n 1, 1) := by decide +kernel
theorem dX11_restore_1 : decode cX11_restore 1 = .ok (.iconst 2, 1) := by decide +kernel
theorem dX11_restore_2 : decode cX11_restore 2 = .ok (.invokestatic 157, 3) := by decide +kernel
theorem dX11_restore_5 : decode cX11_restore 5 = .ok (.ifCond .ne 6, 3) := by decide +kernel
theorem dX11_restore_8 : decode cX11_restore 8 = .ok (.bipush (-2), 2) := by decide +kernel
theorem dX11_restore_10 : decode cX11_restore 10 = .ok (.ireturn, 1) := by decide +kernel
theorem dX11_restore_11 : decode cX11_restore 11 = .ok (.aload_n 0, 1) := by decide +kernel
theorem dX11_restore_12 : decode cX11_restore 12 = .ok (.getfield 55, 3) := by decide +kernel
theorem dX11_restore_15 : decode cX11_restore 15 = .ok (.iload_n 1, 1) := by decide +kernel
theorem dX11_restore_16 : decode cX11_restore 16 = .ok (.aaload, 1) := by decide +kernel
theorem dX11_restore_17 : decode cX11_restore 17 = .ok (.getfield 413, 3) := by decide +kernel
theorem dX11_restore_20 : decode cX11_restore 20 = .ok (.astore_n 2, 1) := by decide +kernel
theorem dX11_restore_21 : decode cX11_restore 21 = .ok (.aload_n 2, 1) := by decide +kernel
theorem dX11_restore_22 : decode cX11_restore 22 = .ok (.ifnonnull 6, 3) := by decide +kernel
theorem dX11_restore_25 : decode cX11_restore 25 = .ok (.bipush (-5), 2) := by decide +kernel
theorem dX11_restore_27 : decode cX11_restore 27 = .ok (.ireturn, 1) := by decide +kernel
theorem dX11_restore_28 : decode cX11_restore 28 = .ok (.aload_n 0, 1) := by decide +kernel
theorem dX11_restore_29 : decode cX11_restore 29 = .ok (.aload_n 2, 1) := by decide +kernel
theorem dX11_restore_30 : decode cX11_restore 30 = .ok (.invokevirtual 110, 3) := by decide +kernel
theorem dX11_restore_33 : decode cX11_restore 33 = .ok (.aload_n 0, 1) := by decide +kernel
theorem dX11_restore_34 : decode cX11_restore 34 = .ok (.getfield 27, 3) := by decide +kernel
theorem dX11_restore_37 : decode cX11_restore 37 = .ok (.aload_n 0, 1) := by decide +kernel
theorem dX11_restore_38 : decode cX11_restore 38 = .ok (.getfield 55, 3) := by decide +kernel
theorem dX11_restore_41 : decode cX11_restore 41 = .ok (.iload_n 1, 1) := by decide +kernel
theorem dX11_restore_42 : decode cX11_restore 42 = .ok (.aaload, 1) := by decide +kernel
theorem dX11_restore_43 : decode cX11_restore 43 = .ok (.getfield 414, 3) := by decide +kernel
theorem dX11_restore_46 : decode cX11_restore 46 = .ok (.invokevirtual 217, 3) := by decide +kernel
theorem dX11_restore_49 : decode cX11_restore 49 = .ok (.aload_n 0, 1) := by decide +kernel
theorem dX11_restore_50 : decode cX11_restore 50 = .ok (.iconst 0, 1) := by decide +kernel
theorem dX11_restore_51 : decode cX11_restore 51 = .ok (.putfield 41, 3) := by decide +kernel
theorem dX11_restore_54 : decode cX11_restore 54 = .ok (.iconst 0, 1) := by decide +kernel
theorem dX11_restore_55 : decode cX11_restore 55 = .ok (.ireturn, 1) := by decide +kernel
theorem dX11_count_0 : decode cX11_count 0 = .ok (.iload_n 1, 1) := by decide +kernel
theorem dX11_count_1 : decode cX11_count 1 = .ok (.tableswitch 114 0 8 #[51, 59, 67, 75, 83, 88, 93, 98, 106], 51) := by decide +kernel
theorem dX11_count_52 : decode cX11_count 52 = .ok (.aload_n 0, 1) := by decide +kernel
theorem dX11_count_53 : decode cX11_count 53 = .ok (.getfield 106, 3) := by decide +kernel
theorem dX11_count_56 : decode cX11_count 56 = .ok (.getfield 143, 3) := by decide +kernel
theorem dX11_count_59 : decode cX11_count 59 = .ok (.ireturn, 1) := by decide +kernel
theorem dX11_count_60 : decode cX11_count 60 = .ok (.aload_n 0, 1) := by decide +kernel
theorem dX11_count_61 : decode cX11_count 61 = .ok (.getfield 106, 3) := by decide +kernel
theorem dX11_count_64 : decode cX11_count 64 = .ok (.getfield 417, 3) := by decide +kernel
theorem dX11_count_67 : decode cX11_count 67 = .ok (.ireturn, 1) := by decide +kernel
theorem dX11_count_68 : decode cX11_count 68 = .ok (.aload_n 0, 1) := by decide +kernel
theorem dX11_count_69 : decode cX11_count 69 = .ok (.getfield 27, 3) := by decide +kernel
theorem dX11_count_72 : decode cX11_count 72 = .ok (.getfield 134, 3) := by decide +kernel
theorem dX11_count_75 : decode cX11_count 75 = .ok (.ireturn, 1) := by decide +kernel
theorem dX11_count_76 : decode cX11_count 76 = .ok (.aload_n 0, 1) := by decide +kernel
theorem dX11_count_77 : decode cX11_count 77 = .ok (.getfield 27, 3) := by decide +kernel
theorem dX11_count_80 : decode cX11_count 80 = .ok (.getfield 137, 3) := by decide +kernel
theorem dX11_count_83 : decode cX11_count 83 = .ok (.ireturn, 1) := by decide +kernel
theorem dX11_count_84 : decode cX11_count 84 = .ok (.aload_n 0, 1) := by decide +kernel
theorem dX11_count_85 : decode cX11_count 85 = .ok (.invokevirtual 202, 3) := by decide +kernel
theorem dX11_count_88 : decode cX11_count 88 = .ok (.ireturn, 1) := by decide +kernel
theorem dX11_count_89 : decode cX11_count 89 = .ok (.aload_n 0, 1) := by decide +kernel
theorem dX11_count_90 : decode cX11_count 90 = .ok (.getfield 41, 3) := by decide +kernel
theorem dX11_count_93 : decode cX11_count 93 = .ok (.ireturn, 1) := by decide +kernel
theorem dX11_count_94 : decode cX11_count 94 = .ok (.aload_n 0, 1) := by decide +kernel
theorem dX11_count_95 : decode cX11_count 95 = .ok (.getfield 13, 3) := by decide +kernel
theorem dX11_count_98 : decode cX11_count 98 = .ok (.ireturn, 1) := by decide +kernel
theorem dX11_count_99 : decode cX11_count 99 = .ok (.aload_n 0, 1) := by decide +kernel
theorem dX11_count_100 : decode cX11_count 100 = .ok (.getfield 106, 3) := by decide +kernel
theorem dX11_count_103 : decode cX11_count 103 = .ok (.getfield 140, 3) := by decide +kernel
theorem dX11_count_106 : decode cX11_count 106 = .ok (.ireturn, 1) := by decide +kernel
theorem dX11_count_107 : decode cX11_count 107 = .ok (.aload_n 0, 1) := by decide +kernel
theorem dX11_count_108 : decode cX11_count 108 = .ok (.getfield 62, 3) := by decide +kernel
theorem dX11_count_111 : decode cX11_count 111 = .ok (.getfield 281, 3) := by decide +kernel
theorem dX11_count_114 : decode cX11_count 114 = .ok (.ireturn, 1) := by decide +kernel
theorem dX11_count_115 : decode cX11_count 115 = .ok (.iconst (-1), 1) := by decide +kernel
theorem dX11_count_116 : decode cX11_count 116 = .ok (.ireturn, 1) := by decide +kernel
