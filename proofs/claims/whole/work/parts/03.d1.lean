theorem dX0_init_0 : decode cX0_init 0 = .ok (.aload_n 0, 1) := by decide +kernel
theorem dX0_init_1 : decode cX0_init 1 = .ok (.invokespecial 3, 3) := by decide +kernel
theorem dX0_init_4 : decode cX0_init 4 = .ok (.aload_n 0, 1) := by decide +kernel
theorem dX0_init_5 : decode cX0_init 5 = .ok (.bipush 9, 2) := by decide +kernel
theorem dX0_init_7 : decode cX0_init 7 = .ok (.anewarray 9, 3) := by decide +kernel
theorem dX0_init_10 : decode cX0_init 10 = .ok (.putfield 11, 3) := by decide +kernel
theorem dX0_init_13 : decode cX0_init 13 = .ok (.aload_n 0, 1) := by decide +kernel
theorem dX0_init_14 : decode cX0_init 14 = .ok (.iconst 0, 1) := by decide +kernel
theorem dX0_init_15 : decode cX0_init 15 = .ok (.putfield 17, 3) := by decide +kernel
theorem dX0_init_18 : decode cX0_init 18 = .ok (.aload_n 0, 1) := by decide +kernel
theorem dX0_init_19 : decode cX0_init 19 = .ok (.iconst 0, 1) := by decide +kernel
theorem dX0_init_20 : decode cX0_init 20 = .ok (.putfield 21, 3) := by decide +kernel
theorem dX0_init_23 : decode cX0_init 23 = .ok (.aload_n 0, 1) := by decide +kernel
theorem dX0_init_24 : decode cX0_init 24 = .ok (.iconst 0, 1) := by decide +kernel
theorem dX0_init_25 : decode cX0_init 25 = .ok (.putfield 24, 3) := by decide +kernel
theorem dX0_init_28 : decode cX0_init 28 = .ok (.aload_n 0, 1) := by decide +kernel
theorem dX0_init_29 : decode cX0_init 29 = .ok (.iconst 0, 1) := by decide +kernel
theorem dX0_init_30 : decode cX0_init 30 = .ok (.putfield 27, 3) := by decide +kernel
theorem dX0_init_33 : decode cX0_init 33 = .ok (.aload_n 0, 1) := by decide +kernel
theorem dX0_init_34 : decode cX0_init 34 = .ok (.lconst 0, 1) := by decide +kernel
theorem dX0_init_35 : decode cX0_init 35 = .ok (.putfield 30, 3) := by decide +kernel
theorem dX0_init_38 : decode cX0_init 38 = .ok (.aload_n 0, 1) := by decide +kernel
theorem dX0_init_39 : decode cX0_init 39 = .ok (.iconst 0, 1) := by decide +kernel
theorem dX0_init_40 : decode cX0_init 40 = .ok (.putfield 34, 3) := by decide +kernel
theorem dX0_init_43 : decode cX0_init 43 = .ok (.aload_n 0, 1) := by decide +kernel
theorem dX0_init_44 : decode cX0_init 44 = .ok (.iconst 0, 1) := by decide +kernel
theorem dX0_init_45 : decode cX0_init 45 = .ok (.putfield 37, 3) := by decide +kernel
theorem dX0_init_48 : decode cX0_init 48 = .ok (.aload_n 0, 1) := by decide +kernel
theorem dX0_init_49 : decode cX0_init 49 = .ok (.iconst 0, 1) := by decide +kernel
theorem dX0_init_50 : decode cX0_init 50 = .ok (.putfield 40, 3) := by decide +kernel
theorem dX0_init_53 : decode cX0_init 53 = .ok (.iconst 0, 1) := by decide +kernel
theorem dX0_init_54 : decode cX0_init 54 = .ok (.istore_n 1, 1) := by decide +kernel
theorem dX0_init_55 : decode cX0_init 55 = .ok (.iload_n 1, 1) := by decide +kernel
theorem dX0_init_56 : decode cX0_init 56 = .ok (.bipush 9, 2) := by decide +kernel
theorem dX0_init_58 : decode cX0_init 58 = .ok (.if_icmp .ge 22, 3) := by decide +kernel
theorem dX0_init_61 : decode cX0_init 61 = .ok (.aload_n 0, 1) := by decide +kernel
theorem dX0_init_62 : decode cX0_init 62 = .ok (.getfield 11, 3) := by decide +kernel
theorem dX0_init_65 : decode cX0_init 65 = .ok (.iload_n 1, 1) := by decide +kernel
theorem dX0_init_66 : decode cX0_init 66 = .ok (.new 9, 3) := by decide +kernel
theorem dX0_init_69 : decode cX0_init 69 = .ok (.dup, 1) := by decide +kernel
theorem dX0_init_70 : decode cX0_init 70 = .ok (.invokespecial 43, 3) := by decide +kernel
theorem dX0_init_73 : decode cX0_init 73 = .ok (.aastore, 1) := by decide +kernel
theorem dX0_init_74 : decode cX0_init 74 = .ok (.iinc 1 1, 3) := by decide +kernel
theorem dX0_init_77 : decode cX0_init 77 = .ok (.goto (-22), 3) := by decide +kernel
theorem dX0_init_80 : decode cX0_init 80 = .ok (.return_, 1) := by decide +kernel
theorem dX0_findNearest_0 : decode cX0_findNearest 0 = .ok (.aload_n 0, 1) := by decide +kernel
theorem dX0_findNearest_1 : decode cX0_findNearest 1 = .ok (.ldc2_w 44, 3) := by decide +kernel
theorem dX0_findNearest_4 : decode cX0_findNearest 4 = .ok (.putfield 30, 3) := by decide +kernel
theorem dX0_findNearest_7 : decode cX0_findNearest 7 = .ok (.aload_n 0, 1) := by decide +kernel
theorem dX0_findNearest_8 : decode cX0_findNearest 8 = .ok (.invokevirtual 46, 3) := by decide +kernel
theorem dX0_findNearest_11 : decode cX0_findNearest 11 = .ok (.iconst 0, 1) := by decide +kernel
theorem dX0_findNearest_12 : decode cX0_findNearest 12 = .ok (.istore 4, 2) := by decide +kernel
theorem dX0_findNearest_14 : decode cX0_findNearest 14 = .ok (.iload 4, 2) := by decide +kernel
theorem dX0_findNearest_16 : decode cX0_findNearest 16 = .ok (.iload_n 3, 1) := by decide +kernel
theorem dX0_findNearest_17 : decode cX0_findNearest 17 = .ok (.if_icmp .gt 61, 3) := by decide +kernel
theorem dX0_findNearest_20 : decode cX0_findNearest 20 = .ok (.aload_n 0, 1) := by decide +kernel
theorem dX0_findNearest_21 : decode cX0_findNearest 21 = .ok (.invokevirtual 49, 3) := by decide +kernel
theorem dX0_findNearest_24 : decode cX0_findNearest 24 = .ok (.lstore 5, 2) := by decide +kernel
theorem dX0_findNearest_26 : decode cX0_findNearest 26 = .ok (.lload 5, 2) := by decide +kernel
theorem dX0_findNearest_28 : decode cX0_findNearest 28 = .ok (.aload_n 0, 1) := by decide +kernel
theorem dX0_findNearest_29 : decode cX0_findNearest 29 = .ok (.getfield 30, 3) := by decide +kernel
theorem dX0_findNearest_32 : decode cX0_findNearest 32 = .ok (.lcmp, 1) := by decide +kernel
theorem dX0_findNearest_33 : decode cX0_findNearest 33 = .ok (.ifCond .ge 31, 3) := by decide +kernel
theorem dX0_findNearest_36 : decode cX0_findNearest 36 = .ok (.aload_n 0, 1) := by decide +kernel
theorem dX0_findNearest_37 : decode cX0_findNearest 37 = .ok (.lload 5, 2) := by decide +kernel
theorem dX0_findNearest_39 : decode cX0_findNearest 39 = .ok (.putfield 30, 3) := by decide +kernel
theorem dX0_findNearest_42 : decode cX0_findNearest 42 = .ok (.aload_n 0, 1) := by decide +kernel
theorem dX0_findNearest_43 : decode cX0_findNearest 43 = .ok (.iload 4, 2) := by decide +kernel
theorem dX0_findNearest_45 : decode cX0_findNearest 45 = .ok (.putfield 34, 3) := by decide +kernel
theorem dX0_findNearest_48 : decode cX0_findNearest 48 = .ok (.aload_n 0, 1) := by decide +kernel
theorem dX0_findNearest_49 : decode cX0_findNearest 49 = .ok (.aload_n 0, 1) := by decide +kernel
theorem dX0_findNearest_50 : decode cX0_findNearest 50 = .ok (.getfield 24, 3) := by decide +kernel
theorem dX0_findNearest_53 : decode cX0_findNearest 53 = .ok (.putfield 37, 3) := by decide +kernel
theorem dX0_findNearest_56 : decode cX0_findNearest 56 = .ok (.aload_n 0, 1) := by decide +kernel
theorem dX0_findNearest_57 : decode cX0_findNearest 57 = .ok (.aload_n 0, 1) := by decide +kernel
theorem dX0_findNearest_58 : decode cX0_findNearest 58 = .ok (.getfield 27, 3) := by decide +kernel
theorem dX0_findNearest_61 : decode cX0_findNearest 61 = .ok (.putfield 40, 3) := by decide +kernel
theorem dX0_findNearest_64 : decode cX0_findNearest 64 = .ok (.aload_n 0, 1) := by decide +kernel
theorem dX0_findNearest_65 : decode cX0_findNearest 65 = .ok (.aload_n 1, 1) := by decide +kernel
theorem dX0_findNearest_66 : decode cX0_findNearest 66 = .ok (.aload_n 2, 1) := by decide +kernel
theorem dX0_findNearest_67 : decode cX0_findNearest 67 = .ok (.iload 4, 2) := by decide +kernel
theorem dX0_findNearest_69 : decode cX0_findNearest 69 = .ok (.invokevirtual 53, 3) := by decide +kernel
theorem dX0_findNearest_72 : decode cX0_findNearest 72 = .ok (.iinc 4 1, 3) := by decide +kernel
theorem dX0_findNearest_75 : decode cX0_findNearest 75 = .ok (.goto (-61), 3) := by decide +kernel
theorem dX0_findNearest_78 : decode cX0_findNearest 78 = .ok (.return_, 1) := by decide +kernel
theorem dX0_minutesNearer_0 : decode cX0_minutesNearer 0 = .ok (.iload 4, 2) := by decide +kernel
theorem dX0_minutesNearer_2 : decode cX0_minutesNearer 2 = .ok (.i2l, 1) := by decide +kernel
theorem dX0_minutesNearer_3 : decode cX0_minutesNearer 3 = .ok (.iload 4, 2) := by decide +kernel
theorem dX0_minutesNearer_5 : decode cX0_minutesNearer 5 = .ok (.i2l, 1) := by decide +kernel
theorem dX0_minutesNearer_6 : decode cX0_minutesNearer 6 = .ok (.lmul, 1) := by decide +kernel
theorem dX0_minutesNearer_7 : decode cX0_minutesNearer 7 = .ok (.lstore 5, 2) := by decide +kernel
theorem dX0_minutesNearer_9 : decode cX0_minutesNearer 9 = .ok (.iconst 0, 1) := by decide +kernel
theorem dX0_minutesNearer_10 : decode cX0_minutesNearer 10 = .ok (.istore 7, 2) := by decide +kernel
theorem dX0_minutesNearer_12 : decode cX0_minutesNearer 12 = .ok (.aload_n 0, 1) := by decide +kernel
theorem dX0_minutesNearer_13 : decode cX0_minutesNearer 13 = .ok (.invokevirtual 46, 3) := by decide +kernel
theorem dX0_minutesNearer_16 : decode cX0_minutesNearer 16 = .ok (.iconst 0, 1) := by decide +kernel
theorem dX0_minutesNearer_17 : decode cX0_minutesNearer 17 = .ok (.istore 8, 2) := by decide +kernel
theorem dX0_minutesNearer_19 : decode cX0_minutesNearer 19 = .ok (.iload 8, 2) := by decide +kernel
theorem dX0_minutesNearer_21 : decode cX0_minutesNearer 21 = .ok (.iload_n 3, 1) := by decide +kernel
theorem dX0_minutesNearer_22 : decode cX0_minutesNearer 22 = .ok (.if_icmp .gt 30, 3) := by decide +kernel
theorem dX0_minutesNearer_25 : decode cX0_minutesNearer 25 = .ok (.aload_n 0, 1) := by decide +kernel
theorem dX0_minutesNearer_26 : decode cX0_minutesNearer 26 = .ok (.invokevirtual 49, 3) := by decide +kernel
theorem dX0_minutesNearer_29 : decode cX0_minutesNearer 29 = .ok (.lload 5, 2) := by decide +kernel
theorem dX0_minutesNearer_31 : decode cX0_minutesNearer 31 = .ok (.lcmp, 1) := by decide +kernel
theorem dX0_minutesNearer_32 : decode cX0_minutesNearer 32 = .ok (.ifCond .ge 6, 3) := by decide +kernel
theorem dX0_minutesNearer_35 : decode cX0_minutesNearer 35 = .ok (.iinc 7 1, 3) := by decide +kernel
theorem dX0_minutesNearer_38 : decode cX0_minutesNearer 38 = .ok (.aload_n 0, 1) := by decide +kernel
theorem dX0_minutesNearer_39 : decode cX0_minutesNearer 39 = .ok (.aload_n 1, 1) := by decide +kernel
theorem dX0_minutesNearer_40 : decode cX0_minutesNearer 40 = .ok (.aload_n 2, 1) := by decide +kernel
theorem dX0_minutesNearer_41 : decode cX0_minutesNearer 41 = .ok (.iload 8, 2) := by decide +kernel
theorem dX0_minutesNearer_43 : decode cX0_minutesNearer 43 = .ok (.invokevirtual 53, 3) := by decide +kernel
theorem dX0_minutesNearer_46 : decode cX0_minutesNearer 46 = .ok (.iinc 8 1, 3) := by decide +kernel
theorem dX0_minutesNearer_49 : decode cX0_minutesNearer 49 = .ok (.goto (-30), 3) := by decide +kernel
theorem dX0_minutesNearer_52 : decode cX0_minutesNearer 52 = .ok (.iload 7, 2) := by decide +kernel
theorem dX0_minutesNearer_54 : decode cX0_minutesNearer 54 = .ok (.ireturn, 1) := by decide +kernel
theorem dX0_beginAll_0 : decode cX0_beginAll 0 = .ok (.iconst 0, 1) := by decide +kernel
theorem dX0_beginAll_1 : decode cX0_beginAll 1 = .ok (.istore_n 1, 1) := by decide +kernel
theorem dX0_beginAll_2 : decode cX0_beginAll 2 = .ok (.iload_n 1, 1) := by decide +kernel
theorem dX0_beginAll_3 : decode cX0_beginAll 3 = .ok (.aload_n 0, 1) := by decide +kernel
theorem dX0_beginAll_4 : decode cX0_beginAll 4 = .ok (.getfield 17, 3) := by decide +kernel
theorem dX0_beginAll_7 : decode cX0_beginAll 7 = .ok (.if_icmp .ge 18, 3) := by decide +kernel
theorem dX0_beginAll_10 : decode cX0_beginAll 10 = .ok (.aload_n 0, 1) := by decide +kernel
theorem dX0_beginAll_11 : decode cX0_beginAll 11 = .ok (.getfield 11, 3) := by decide +kernel
theorem dX0_beginAll_14 : decode cX0_beginAll 14 = .ok (.iload_n 1, 1) := by decide +kernel
theorem dX0_beginAll_15 : decode cX0_beginAll 15 = .ok (.aaload, 1) := by decide +kernel
theorem dX0_beginAll_16 : decode cX0_beginAll 16 = .ok (.invokevirtual 57, 3) := by decide +kernel
theorem dX0_beginAll_19 : decode cX0_beginAll 19 = .ok (.iinc 1 1, 3) := by decide +kernel
theorem dX0_beginAll_22 : decode cX0_beginAll 22 = .ok (.goto (-20), 3) := by decide +kernel
theorem dX0_beginAll_25 : decode cX0_beginAll 25 = .ok (.return_, 1) := by decide +kernel
theorem dX0_moveAll_0 : decode cX0_moveAll 0 = .ok (.iconst 0, 1) := by decide +kernel
theorem dX0_moveAll_1 : decode cX0_moveAll 1 = .ok (.istore 4, 2) := by decide +kernel
theorem dX0_moveAll_3 : decode cX0_moveAll 3 = .ok (.iload 4, 2) := by decide +kernel
theorem dX0_moveAll_5 : decode cX0_moveAll 5 = .ok (.aload_n 0, 1) := by decide +kernel
theorem dX0_moveAll_6 : decode cX0_moveAll 6 = .ok (.getfield 17, 3) := by decide +kernel
theorem dX0_moveAll_9 : decode cX0_moveAll 9 = .ok (.if_icmp .ge 22, 3) := by decide +kernel
theorem dX0_moveAll_12 : decode cX0_moveAll 12 = .ok (.aload_n 0, 1) := by decide +kernel
theorem dX0_moveAll_13 : decode cX0_moveAll 13 = .ok (.getfield 11, 3) := by decide +kernel
theorem dX0_moveAll_16 : decode cX0_moveAll 16 = .ok (.iload 4, 2) := by decide +kernel
theorem dX0_moveAll_18 : decode cX0_moveAll 18 = .ok (.aaload, 1) := by decide +kernel
theorem dX0_moveAll_19 : decode cX0_moveAll 19 = .ok (.aload_n 1, 1) := by decide +kernel
theorem dX0_moveAll_20 : decode cX0_moveAll 20 = .ok (.aload_n 2, 1) := by decide +kernel
theorem dX0_moveAll_21 : decode cX0_moveAll 21 = .ok (.iload_n 3, 1) := by decide +kernel
theorem dX0_moveAll_22 : decode cX0_moveAll 22 = .ok (.invokevirtual 60, 3) := by decide +kernel
theorem dX0_moveAll_25 : decode cX0_moveAll 25 = .ok (.iinc 4 1, 3) := by decide +kernel
theorem dX0_moveAll_28 : decode cX0_moveAll 28 = .ok (.goto (-25), 3) := by decide +kernel
theorem dX0_moveAll_31 : decode cX0_moveAll 31 = .ok (.return_, 1) := by decide +kernel
theorem dX0_squareOfPair_0 : decode cX0_squareOfPair 0 = .ok (.ldc2_w 44, 3) := by decide +kernel
theorem dX0_squareOfPair_3 : decode cX0_squareOfPair 3 = .ok (.lstore_n 1, 1) := by decide +kernel
theorem dX0_squareOfPair_4 : decode cX0_squareOfPair 4 = .ok (.iconst 0, 1) := by decide +kernel
theorem dX0_squareOfPair_5 : decode cX0_squareOfPair 5 = .ok (.istore_n 3, 1) := by decide +kernel
theorem dX0_squareOfPair_6 : decode cX0_squareOfPair 6 = .ok (.iload_n 3, 1) := by decide +kernel
theorem dX0_squareOfPair_7 : decode cX0_squareOfPair 7 = .ok (.aload_n 0, 1) := by decide +kernel
theorem dX0_squareOfPair_8 : decode cX0_squareOfPair 8 = .ok (.getfield 17, 3) := by decide +kernel
theorem dX0_squareOfPair_11 : decode cX0_squareOfPair 11 = .ok (.if_icmp .ge 95, 3) := by decide +kernel
theorem dX0_squareOfPair_14 : decode cX0_squareOfPair 14 = .ok (.iload_n 3, 1) := by decide +kernel
theorem dX0_squareOfPair_15 : decode cX0_squareOfPair 15 = .ok (.iconst 1, 1) := by decide +kernel
theorem dX0_squareOfPair_16 : decode cX0_squareOfPair 16 = .ok (.iadd, 1) := by decide +kernel
theorem dX0_squareOfPair_17 : decode cX0_squareOfPair 17 = .ok (.istore 4, 2) := by decide +kernel
theorem dX0_squareOfPair_19 : decode cX0_squareOfPair 19 = .ok (.iload 4, 2) := by decide +kernel
theorem dX0_squareOfPair_21 : decode cX0_squareOfPair 21 = .ok (.aload_n 0, 1) := by decide +kernel
theorem dX0_squareOfPair_22 : decode cX0_squareOfPair 22 = .ok (.getfield 17, 3) := by decide +kernel
theorem dX0_squareOfPair_25 : decode cX0_squareOfPair 25 = .ok (.if_icmp .ge 75, 3) := by decide +kernel
theorem dX0_squareOfPair_28 : decode cX0_squareOfPair 28 = .ok (.aload_n 0, 1) := by decide +kernel
theorem dX0_squareOfPair_29 : decode cX0_squareOfPair 29 = .ok (.getfield 11, 3) := by decide +kernel
theorem dX0_squareOfPair_32 : decode cX0_squareOfPair 32 = .ok (.iload_n 3, 1) := by decide +kernel
theorem dX0_squareOfPair_33 : decode cX0_squareOfPair 33 = .ok (.aaload, 1) := by decide +kernel
theorem dX0_squareOfPair_34 : decode cX0_squareOfPair 34 = .ok (.getfield 63, 3) := by decide +kernel
theorem dX0_squareOfPair_37 : decode cX0_squareOfPair 37 = .ok (.aload_n 0, 1) := by decide +kernel
theorem dX0_squareOfPair_38 : decode cX0_squareOfPair 38 = .ok (.getfield 11, 3) := by decide +kernel
theorem dX0_squareOfPair_41 : decode cX0_squareOfPair 41 = .ok (.iload 4, 2) := by decide +kernel
theorem dX0_squareOfPair_43 : decode cX0_squareOfPair 43 = .ok (.aaload, 1) := by decide +kernel
theorem dX0_squareOfPair_44 : decode cX0_squareOfPair 44 = .ok (.getfield 63, 3) := by decide +kernel
theorem dX0_squareOfPair_47 : decode cX0_squareOfPair 47 = .ok (.lsub, 1) := by decide +kernel
theorem dX0_squareOfPair_48 : decode cX0_squareOfPair 48 = .ok (.aload_n 0, 1) := by decide +kernel
theorem dX0_squareOfPair_49 : decode cX0_squareOfPair 49 = .ok (.getfield 11, 3) := by decide +kernel
theorem dX0_squareOfPair_52 : decode cX0_squareOfPair 52 = .ok (.iload_n 3, 1) := by decide +kernel
theorem dX0_squareOfPair_53 : decode cX0_squareOfPair 53 = .ok (.aaload, 1) := by decide +kernel
theorem dX0_squareOfPair_54 : decode cX0_squareOfPair 54 = .ok (.getfield 66, 3) := by decide +kernel
theorem dX0_squareOfPair_57 : decode cX0_squareOfPair 57 = .ok (.aload_n 0, 1) := by decide +kernel
theorem dX0_squareOfPair_58 : decode cX0_squareOfPair 58 = .ok (.getfield 11, 3) := by decide +kernel
theorem dX0_squareOfPair_61 : decode cX0_squareOfPair 61 = .ok (.iload 4, 2) := by decide +kernel
theorem dX0_squareOfPair_63 : decode cX0_squareOfPair 63 = .ok (.aaload, 1) := by decide +kernel
theorem dX0_squareOfPair_64 : decode cX0_squareOfPair 64 = .ok (.getfield 66, 3) := by decide +kernel
theorem dX0_squareOfPair_67 : decode cX0_squareOfPair 67 = .ok (.lsub, 1) := by decide +kernel
theorem dX0_squareOfPair_68 : decode cX0_squareOfPair 68 = .ok (.invokestatic 69, 3) := by decide +kernel
theorem dX0_squareOfPair_71 : decode cX0_squareOfPair 71 = .ok (.lstore 5, 2) := by decide +kernel
theorem dX0_squareOfPair_73 : decode cX0_squareOfPair 73 = .ok (.lload 5, 2) := by decide +kernel
theorem dX0_squareOfPair_75 : decode cX0_squareOfPair 75 = .ok (.lload_n 1, 1) := by decide +kernel
theorem dX0_squareOfPair_76 : decode cX0_squareOfPair 76 = .ok (.lcmp, 1) := by decide +kernel
theorem dX0_squareOfPair_77 : decode cX0_squareOfPair 77 = .ok (.ifCond .ge 17, 3) := by decide +kernel
theorem dX0_squareOfPair_80 : decode cX0_squareOfPair 80 = .ok (.lload 5, 2) := by decide +kernel
theorem dX0_squareOfPair_82 : decode cX0_squareOfPair 82 = .ok (.lstore_n 1, 1) := by decide +kernel
theorem dX0_squareOfPair_83 : decode cX0_squareOfPair 83 = .ok (.aload_n 0, 1) := by decide +kernel
theorem dX0_squareOfPair_84 : decode cX0_squareOfPair 84 = .ok (.iload_n 3, 1) := by decide +kernel
theorem dX0_squareOfPair_85 : decode cX0_squareOfPair 85 = .ok (.putfield 24, 3) := by decide +kernel
theorem dX0_squareOfPair_88 : decode cX0_squareOfPair 88 = .ok (.aload_n 0, 1) := by decide +kernel
theorem dX0_squareOfPair_89 : decode cX0_squareOfPair 89 = .ok (.iload 4, 2) := by decide +kernel
theorem dX0_squareOfPair_91 : decode cX0_squareOfPair 91 = .ok (.putfield 27, 3) := by decide +kernel
theorem dX0_squareOfPair_94 : decode cX0_squareOfPair 94 = .ok (.iinc 4 1, 3) := by decide +kernel
theorem dX0_squareOfPair_97 : decode cX0_squareOfPair 97 = .ok (.goto (-78), 3) := by decide +kernel
theorem dX0_squareOfPair_100 : decode cX0_squareOfPair 100 = .ok (.iinc 3 1, 3) := by decide +kernel
theorem dX0_squareOfPair_103 : decode cX0_squareOfPair 103 = .ok (.goto (-97), 3) := by decide +kernel
theorem dX0_squareOfPair_106 : decode cX0_squareOfPair 106 = .ok (.lload_n 1, 1) := by decide +kernel
theorem dX0_squareOfPair_107 : decode cX0_squareOfPair 107 = .ok (.lreturn, 1) := by decide +kernel
theorem dX1_init_0 : decode cX1_init 0 = .ok (.aload_n 0, 1) := by decide +kernel
theorem dX1_init_1 : decode cX1_init 1 = .ok (.invokespecial 1, 3) := by decide +kernel
theorem dX1_init_4 : decode cX1_init 4 = .ok (.aload_n 0, 1) := by decide +kernel
theorem dX1_init_5 : decode cX1_init 5 = .ok (.iconst 0, 1) := by decide +kernel
theorem dX1_init_6 : decode cX1_init 6 = .ok (.putfield 7, 3) := by decide +kernel
theorem dX1_init_9 : decode cX1_init 9 = .ok (.aload_n 0, 1) := by decide +kernel
theorem dX1_init_10 : decode cX1_init 10 = .ok (.iconst 0, 1) := by decide +kernel
theorem dX1_init_11 : decode cX1_init 11 = .ok (.putfield 13, 3) := by decide +kernel
theorem dX1_init_14 : decode cX1_init 14 = .ok (.return_, 1) := by decide +kernel
theorem dX1_hides_0 : decode cX1_hides 0 = .ok (.iload_n 1, 1) := by decide +kernel
theorem dX1_hides_1 : decode cX1_hides 1 = .ok (.aload_n 0, 1) := by decide +kernel
theorem dX1_hides_2 : decode cX1_hides 2 = .ok (.getfield 7, 3) := by decide +kernel
theorem dX1_hides_5 : decode cX1_hides 5 = .ok (.if_icmp .lt 15, 3) := by decide +kernel
theorem dX1_hides_8 : decode cX1_hides 8 = .ok (.iload_n 1, 1) := by decide +kernel
theorem dX1_hides_9 : decode cX1_hides 9 = .ok (.aload_n 0, 1) := by decide +kernel
theorem dX1_hides_10 : decode cX1_hides 10 = .ok (.getfield 13, 3) := by decide +kernel
theorem dX1_hides_13 : decode cX1_hides 13 = .ok (.if_icmp .ge 7, 3) := by decide +kernel
theorem dX1_hides_16 : decode cX1_hides 16 = .ok (.iconst 1, 1) := by decide +kernel
theorem dX1_hides_17 : decode cX1_hides 17 = .ok (.goto 4, 3) := by decide +kernel
theorem dX1_hides_20 : decode cX1_hides 20 = .ok (.iconst 0, 1) := by decide +kernel
theorem dX1_hides_21 : decode cX1_hides 21 = .ok (.ireturn, 1) := by decide +kernel
theorem dX1_clearMinutes_0 : decode cX1_clearMinutes 0 = .ok (.iconst 0, 1) := by decide +kernel
theorem dX1_clearMinutes_1 : decode cX1_clearMinutes 1 = .ok (.iload_n 2, 1) := by decide +kernel
theorem dX1_clearMinutes_2 : decode cX1_clearMinutes 2 = .ok (.iload_n 1, 1) := by decide +kernel
theorem dX1_clearMinutes_3 : decode cX1_clearMinutes 3 = .ok (.isub, 1) := by decide +kernel
theorem dX1_clearMinutes_4 : decode cX1_clearMinutes 4 = .ok (.invokestatic 16, 3) := by decide +kernel
theorem dX1_clearMinutes_7 : decode cX1_clearMinutes 7 = .ok (.istore_n 3, 1) := by decide +kernel
theorem dX1_clearMinutes_8 : decode cX1_clearMinutes 8 = .ok (.iload_n 3, 1) := by decide +kernel
theorem dX1_clearMinutes_9 : decode cX1_clearMinutes 9 = .ok (.iconst 0, 1) := by decide +kernel
theorem dX1_clearMinutes_10 : decode cX1_clearMinutes 10 = .ok (.iload_n 2, 1) := by decide +kernel
theorem dX1_clearMinutes_11 : decode cX1_clearMinutes 11 = .ok (.aload_n 0, 1) := by decide +kernel
theorem dX1_clearMinutes_12 : decode cX1_clearMinutes 12 = .ok (.getfield 13, 3) := by decide +kernel
theorem dX1_clearMinutes_15 : decode cX1_clearMinutes 15 = .ok (.invokestatic 22, 3) := by decide +kernel
theorem dX1_clearMinutes_18 : decode cX1_clearMinutes 18 = .ok (.iload_n 1, 1) := by decide +kernel
theorem dX1_clearMinutes_19 : decode cX1_clearMinutes 19 = .ok (.aload_n 0, 1) := by decide +kernel
theorem dX1_clearMinutes_20 : decode cX1_clearMinutes 20 = .ok (.getfield 7, 3) := by decide +kernel
theorem dX1_clearMinutes_23 : decode cX1_clearMinutes 23 = .ok (.invokestatic 16, 3) := by decide +kernel
theorem dX1_clearMinutes_26 : decode cX1_clearMinutes 26 = .ok (.isub, 1) := by decide +kernel
theorem dX1_clearMinutes_27 : decode cX1_clearMinutes 27 = .ok (.invokestatic 16, 3) := by decide +kernel
theorem dX1_clearMinutes_30 : decode cX1_clearMinutes 30 = .ok (.isub, 1) := by decide +kernel
theorem dX1_clearMinutes_31 : decode cX1_clearMinutes 31 = .ok (.ireturn, 1) := by decide +kernel
theorem dX2_init_0 : decode cX2_init 0 = .ok (.aload_n 0, 1) := by decide +kernel
theorem dX2_init_1 : decode cX2_init 1 = .ok (.invokespecial 3, 3) := by decide +kernel
theorem dX2_init_4 : decode cX2_init 4 = .ok (.aload_n 0, 1) := by decide +kernel
theorem dX2_init_5 : decode cX2_init 5 = .ok (.bipush 12, 2) := by decide +kernel
theorem dX2_init_7 : decode cX2_init 7 = .ok (.newarray .int, 2) := by decide +kernel
theorem dX2_init_9 : decode cX2_init 9 = .ok (.putfield 9, 3) := by decide +kernel
theorem dX2_init_12 : decode cX2_init 12 = .ok (.aload_n 0, 1) := by decide +kernel
theorem dX2_init_13 : decode cX2_init 13 = .ok (.bipush 12, 2) := by decide +kernel
theorem dX2_init_15 : decode cX2_init 15 = .ok (.newarray .int, 2) := by decide +kernel
theorem dX2_init_17 : decode cX2_init 17 = .ok (.putfield 15, 3) := by decide +kernel
theorem dX2_init_20 : decode cX2_init 20 = .ok (.aload_n 0, 1) := by decide +kernel
theorem dX2_init_21 : decode cX2_init 21 = .ok (.bipush 12, 2) := by decide +kernel
theorem dX2_init_23 : decode cX2_init 23 = .ok (.newarray .int, 2) := by decide +kernel
theorem dX2_init_25 : decode cX2_init 25 = .ok (.putfield 18, 3) := by decide +kernel
theorem dX2_init_28 : decode cX2_init 28 = .ok (.aload_n 0, 1) := by decide +kernel
theorem dX2_init_29 : decode cX2_init 29 = .ok (.iconst 0, 1) := by decide +kernel
theorem dX2_init_30 : decode cX2_init 30 = .ok (.putfield 21, 3) := by decide +kernel
theorem dX2_init_33 : decode cX2_init 33 = .ok (.aload_n 0, 1) := by decide +kernel
theorem dX2_init_34 : decode cX2_init 34 = .ok (.new 25, 3) := by decide +kernel
theorem dX2_init_37 : decode cX2_init 37 = .ok (.dup, 1) := by decide +kernel
theorem dX2_init_38 : decode cX2_init 38 = .ok (.invokespecial 27, 3) := by decide +kernel
theorem dX2_init_41 : decode cX2_init 41 = .ok (.putfield 28, 3) := by decide +kernel
theorem dX2_init_44 : decode cX2_init 44 = .ok (.aload_n 0, 1) := by decide +kernel
theorem dX2_init_45 : decode cX2_init 45 = .ok (.sipush 601, 3) := by decide +kernel
theorem dX2_init_48 : decode cX2_init 48 = .ok (.newarray .long, 2) := by decide +kernel
theorem dX2_init_50 : decode cX2_init 50 = .ok (.putfield 32, 3) := by decide +kernel
theorem dX2_init_53 : decode cX2_init 53 = .ok (.aload_n 0, 1) := by decide +kernel
theorem dX2_init_54 : decode cX2_init 54 = .ok (.sipush 601, 3) := by decide +kernel
theorem dX2_init_57 : decode cX2_init 57 = .ok (.newarray .long, 2) := by decide +kernel
theorem dX2_init_59 : decode cX2_init 59 = .ok (.putfield 36, 3) := by decide +kernel
theorem dX2_init_62 : decode cX2_init 62 = .ok (.aload_n 0, 1) := by decide +kernel
theorem dX2_init_63 : decode cX2_init 63 = .ok (.lconst 0, 1) := by decide +kernel
theorem dX2_init_64 : decode cX2_init 64 = .ok (.putfield 39, 3) := by decide +kernel
theorem dX2_init_67 : decode cX2_init 67 = .ok (.aload_n 0, 1) := by decide +kernel
theorem dX2_init_68 : decode cX2_init 68 = .ok (.iconst 0, 1) := by decide +kernel
theorem dX2_init_69 : decode cX2_init 69 = .ok (.putfield 43, 3) := by decide +kernel
theorem dX2_init_72 : decode cX2_init 72 = .ok (.aload_n 0, 1) := by decide +kernel
theorem dX2_init_73 : decode cX2_init 73 = .ok (.bipush (-6), 2) := by decide +kernel
theorem dX2_init_75 : decode cX2_init 75 = .ok (.putfield 46, 3) := by decide +kernel
theorem dX2_init_78 : decode cX2_init 78 = .ok (.aload_n 0, 1) := by decide +kernel
theorem dX2_init_79 : decode cX2_init 79 = .ok (.bipush (-6), 2) := by decide +kernel
theorem dX2_init_81 : decode cX2_init 81 = .ok (.putfield 49, 3) := by decide +kernel
theorem dX2_init_84 : decode cX2_init 84 = .ok (.return_, 1) := by decide +kernel
theorem dX2_add_0 : decode cX2_add 0 = .ok (.aload_n 0, 1) := by decide +kernel
theorem dX2_add_1 : decode cX2_add 1 = .ok (.getfield 9, 3) := by decide +kernel
theorem dX2_add_4 : decode cX2_add 4 = .ok (.aload_n 0, 1) := by decide +kernel
theorem dX2_add_5 : decode cX2_add 5 = .ok (.getfield 21, 3) := by decide +kernel
theorem dX2_add_8 : decode cX2_add 8 = .ok (.iload_n 1, 1) := by decide +kernel
theorem dX2_add_9 : decode cX2_add 9 = .ok (.iastore, 1) := by decide +kernel
theorem dX2_add_10 : decode cX2_add 10 = .ok (.aload_n 0, 1) := by decide +kernel
theorem dX2_add_11 : decode cX2_add 11 = .ok (.getfield 15, 3) := by decide +kernel
theorem dX2_add_14 : decode cX2_add 14 = .ok (.aload_n 0, 1) := by decide +kernel
theorem dX2_add_15 : decode cX2_add 15 = .ok (.getfield 21, 3) := by decide +kernel
theorem dX2_add_18 : decode cX2_add 18 = .ok (.iload_n 2, 1) := by decide +kernel
theorem dX2_add_19 : decode cX2_add 19 = .ok (.iastore, 1) := by decide +kernel
theorem dX2_add_20 : decode cX2_add 20 = .ok (.aload_n 0, 1) := by decide +kernel
theorem dX2_add_21 : decode cX2_add 21 = .ok (.getfield 18, 3) := by decide +kernel
theorem dX2_add_24 : decode cX2_add 24 = .ok (.aload_n 0, 1) := by decide +kernel
theorem dX2_add_25 : decode cX2_add 25 = .ok (.getfield 21, 3) := by decide +kernel
theorem dX2_add_28 : decode cX2_add 28 = .ok (.iload_n 3, 1) := by decide +kernel
theorem dX2_add_29 : decode cX2_add 29 = .ok (.iastore, 1) := by decide +kernel
theorem dX2_add_30 : decode cX2_add 30 = .ok (.aload_n 0, 1) := by decide +kernel
theorem dX2_add_31 : decode cX2_add 31 = .ok (.dup, 1) := by decide +kernel
theorem dX2_add_32 : decode cX2_add 32 = .ok (.getfield 21, 3) := by decide +kernel
theorem dX2_add_35 : decode cX2_add 35 = .ok (.iconst 1, 1) := by decide +kernel
theorem dX2_add_36 : decode cX2_add 36 = .ok (.iadd, 1) := by decide +kernel
theorem dX2_add_37 : decode cX2_add 37 = .ok (.putfield 21, 3) := by decide +kernel
theorem dX2_add_40 : decode cX2_add 40 = .ok (.return_, 1) := by decide +kernel
theorem dX2_explain_0 : decode cX2_explain 0 = .ok (.aload_n 0, 1) := by decide +kernel
theorem dX2_explain_1 : decode cX2_explain 1 = .ok (.ldc2_w 52, 3) := by decide +kernel
theorem dX2_explain_4 : decode cX2_explain 4 = .ok (.putfield 39, 3) := by decide +kernel
theorem dX2_explain_7 : decode cX2_explain 7 = .ok (.iconst 0, 1) := by decide +kernel
theorem dX2_explain_8 : decode cX2_explain 8 = .ok (.istore_n 3, 1) := by decide +kernel
theorem dX2_explain_9 : decode cX2_explain 9 = .ok (.iload_n 3, 1) := by decide +kernel
theorem dX2_explain_10 : decode cX2_explain 10 = .ok (.getstatic 54, 3) := by decide +kernel
theorem dX2_explain_13 : decode cX2_explain 13 = .ok (.arraylength, 1) := by decide +kernel
theorem dX2_explain_14 : decode cX2_explain 14 = .ok (.if_icmp .ge 68, 3) := by decide +kernel
theorem dX2_explain_17 : decode cX2_explain 17 = .ok (.aload_n 0, 1) := by decide +kernel
theorem dX2_explain_18 : decode cX2_explain 18 = .ok (.getfield 28, 3) := by decide +kernel
theorem dX2_explain_21 : decode cX2_explain 21 = .ok (.getstatic 54, 3) := by decide +kernel
theorem dX2_explain_24 : decode cX2_explain 24 = .ok (.iload_n 3, 1) := by decide +kernel
theorem dX2_explain_25 : decode cX2_explain 25 = .ok (.iaload, 1) := by decide +kernel
theorem dX2_explain_26 : decode cX2_explain 26 = .ok (.putfield 57, 3) := by decide +kernel
theorem dX2_explain_29 : decode cX2_explain 29 = .ok (.aload_n 0, 1) := by decide +kernel
theorem dX2_explain_30 : decode cX2_explain 30 = .ok (.aload_n 1, 1) := by decide +kernel
theorem dX2_explain_31 : decode cX2_explain 31 = .ok (.aload_n 2, 1) := by decide +kernel
theorem dX2_explain_32 : decode cX2_explain 32 = .ok (.invokevirtual 58, 3) := by decide +kernel
theorem dX2_explain_35 : decode cX2_explain 35 = .ok (.aload_n 0, 1) := by decide +kernel
theorem dX2_explain_36 : decode cX2_explain 36 = .ok (.aload_n 0, 1) := by decide +kernel
theorem dX2_explain_37 : decode cX2_explain 37 = .ok (.aload_n 2, 1) := by decide +kernel
theorem dX2_explain_38 : decode cX2_explain 38 = .ok (.iconst 0, 1) := by decide +kernel
theorem dX2_explain_39 : decode cX2_explain 39 = .ok (.iconst 0, 1) := by decide +kernel
theorem dX2_explain_40 : decode cX2_explain 40 = .ok (.iconst 0, 1) := by decide +kernel
theorem dX2_explain_41 : decode cX2_explain 41 = .ok (.iconst 0, 1) := by decide +kernel
theorem dX2_explain_42 : decode cX2_explain 42 = .ok (.invokevirtual 62, 3) := by decide +kernel
theorem dX2_explain_45 : decode cX2_explain 45 = .ok (.bipush (-6), 2) := by decide +kernel
theorem dX2_explain_47 : decode cX2_explain 47 = .ok (.bipush (-6), 2) := by decide +kernel
theorem dX2_explain_49 : decode cX2_explain 49 = .ok (.invokevirtual 66, 3) := by decide +kernel
theorem dX2_explain_52 : decode cX2_explain 52 = .ok (.iconst 0, 1) := by decide +kernel
theorem dX2_explain_53 : decode cX2_explain 53 = .ok (.istore 4, 2) := by decide +kernel
theorem dX2_explain_55 : decode cX2_explain 55 = .ok (.iload 4, 2) := by decide +kernel
theorem dX2_explain_57 : decode cX2_explain 57 = .ok (.bipush 10, 2) := by decide +kernel
theorem dX2_explain_59 : decode cX2_explain 59 = .ok (.if_icmp .ge 17, 3) := by decide +kernel
theorem dX2_explain_62 : decode cX2_explain 62 = .ok (.aload_n 0, 1) := by decide +kernel
theorem dX2_explain_63 : decode cX2_explain 63 = .ok (.aload_n 1, 1) := by decide +kernel
theorem dX2_explain_64 : decode cX2_explain 64 = .ok (.aload_n 2, 1) := by decide +kernel
theorem dX2_explain_65 : decode cX2_explain 65 = .ok (.iload 4, 2) := by decide +kernel
theorem dX2_explain_67 : decode cX2_explain 67 = .ok (.invokevirtual 70, 3) := by decide +kernel
theorem dX2_explain_70 : decode cX2_explain 70 = .ok (.iinc 4 1, 3) := by decide +kernel
theorem dX2_explain_73 : decode cX2_explain 73 = .ok (.goto (-18), 3) := by decide +kernel
theorem dX2_explain_76 : decode cX2_explain 76 = .ok (.iinc 3 1, 3) := by decide +kernel
theorem dX2_explain_79 : decode cX2_explain 79 = .ok (.goto (-70), 3) := by decide +kernel
theorem dX2_explain_82 : decode cX2_explain 82 = .ok (.return_, 1) := by decide +kernel
theorem dX2_goTheWay_0 : decode cX2_goTheWay 0 = .ok (.aload_n 0, 1) := by decide +kernel
theorem dX2_goTheWay_1 : decode cX2_goTheWay 1 = .ok (.getfield 28, 3) := by decide +kernel
theorem dX2_goTheWay_4 : decode cX2_goTheWay 4 = .ok (.invokevirtual 74, 3) := by decide +kernel
theorem dX2_goTheWay_7 : decode cX2_goTheWay 7 = .ok (.iconst 0, 1) := by decide +kernel
theorem dX2_goTheWay_8 : decode cX2_goTheWay 8 = .ok (.istore_n 3, 1) := by decide +kernel
theorem dX2_goTheWay_9 : decode cX2_goTheWay 9 = .ok (.iload_n 3, 1) := by decide +kernel
theorem dX2_goTheWay_10 : decode cX2_goTheWay 10 = .ok (.sipush 600, 3) := by decide +kernel
theorem dX2_goTheWay_13 : decode cX2_goTheWay 13 = .ok (.if_icmp .gt 45, 3) := by decide +kernel
theorem dX2_goTheWay_16 : decode cX2_goTheWay 16 = .ok (.aload_n 0, 1) := by decide +kernel
theorem dX2_goTheWay_17 : decode cX2_goTheWay 17 = .ok (.getfield 32, 3) := by decide +kernel
theorem dX2_goTheWay_20 : decode cX2_goTheWay 20 = .ok (.iload_n 3, 1) := by decide +kernel
theorem dX2_goTheWay_21 : decode cX2_goTheWay 21 = .ok (.aload_n 0, 1) := by decide +kernel
theorem dX2_goTheWay_22 : decode cX2_goTheWay 22 = .ok (.getfield 28, 3) := by decide +kernel
theorem dX2_goTheWay_25 : decode cX2_goTheWay 25 = .ok (.getfield 77, 3) := by decide +kernel
theorem dX2_goTheWay_28 : decode cX2_goTheWay 28 = .ok (.lastore, 1) := by decide +kernel
theorem dX2_goTheWay_29 : decode cX2_goTheWay 29 = .ok (.aload_n 0, 1) := by decide +kernel
theorem dX2_goTheWay_30 : decode cX2_goTheWay 30 = .ok (.getfield 36, 3) := by decide +kernel
theorem dX2_goTheWay_33 : decode cX2_goTheWay 33 = .ok (.iload_n 3, 1) := by decide +kernel
theorem dX2_goTheWay_34 : decode cX2_goTheWay 34 = .ok (.aload_n 0, 1) := by decide +kernel
theorem dX2_goTheWay_35 : decode cX2_goTheWay 35 = .ok (.getfield 28, 3) := by decide +kernel
theorem dX2_goTheWay_38 : decode cX2_goTheWay 38 = .ok (.getfield 80, 3) := by decide +kernel
theorem dX2_goTheWay_41 : decode cX2_goTheWay 41 = .ok (.lastore, 1) := by decide +kernel
theorem dX2_goTheWay_42 : decode cX2_goTheWay 42 = .ok (.aload_n 0, 1) := by decide +kernel
theorem dX2_goTheWay_43 : decode cX2_goTheWay 43 = .ok (.getfield 28, 3) := by decide +kernel
theorem dX2_goTheWay_46 : decode cX2_goTheWay 46 = .ok (.aload_n 1, 1) := by decide +kernel
theorem dX2_goTheWay_47 : decode cX2_goTheWay 47 = .ok (.aload_n 2, 1) := by decide +kernel
theorem dX2_goTheWay_48 : decode cX2_goTheWay 48 = .ok (.iload_n 3, 1) := by decide +kernel
theorem dX2_goTheWay_49 : decode cX2_goTheWay 49 = .ok (.invokevirtual 83, 3) := by decide +kernel
theorem dX2_goTheWay_52 : decode cX2_goTheWay 52 = .ok (.iinc 3 1, 3) := by decide +kernel
theorem dX2_goTheWay_55 : decode cX2_goTheWay 55 = .ok (.goto (-46), 3) := by decide +kernel
theorem dX2_goTheWay_58 : decode cX2_goTheWay 58 = .ok (.return_, 1) := by decide +kernel
theorem dX2_considerMisses_0 : decode cX2_considerMisses 0 = .ok (.bipush 60, 2) := by decide +kernel
theorem dX2_considerMisses_2 : decode cX2_considerMisses 2 = .ok (.iload_n 3, 1) := by decide +kernel
theorem dX2_considerMisses_3 : decode cX2_considerMisses 3 = .ok (.imul, 1) := by decide +kernel
theorem dX2_considerMisses_4 : decode cX2_considerMisses 4 = .ok (.aload_n 0, 1) := by decide +kernel
theorem dX2_considerMisses_5 : decode cX2_considerMisses 5 = .ok (.getfield 28, 3) := by decide +kernel
theorem dX2_considerMisses_8 : decode cX2_considerMisses 8 = .ok (.getfield 57, 3) := by decide +kernel
theorem dX2_considerMisses_11 : decode cX2_considerMisses 11 = .ok (.isub, 1) := by decide +kernel
theorem dX2_considerMisses_12 : decode cX2_considerMisses 12 = .ok (.istore 4, 2) := by decide +kernel
theorem dX2_considerMisses_14 : decode cX2_considerMisses 14 = .ok (.iconst 0, 1) := by decide +kernel
theorem dX2_considerMisses_15 : decode cX2_considerMisses 15 = .ok (.istore 5, 2) := by decide +kernel
theorem dX2_considerMisses_17 : decode cX2_considerMisses 17 = .ok (.iload 5, 2) := by decide +kernel
theorem dX2_considerMisses_19 : decode cX2_considerMisses 19 = .ok (.aload_n 1, 1) := by decide +kernel
theorem dX2_considerMisses_20 : decode cX2_considerMisses 20 = .ok (.getfield 86, 3) := by decide +kernel
theorem dX2_considerMisses_23 : decode cX2_considerMisses 23 = .ok (.if_icmp .ge 116, 3) := by decide +kernel
theorem dX2_considerMisses_26 : decode cX2_considerMisses 26 = .ok (.aload_n 1, 1) := by decide +kernel
theorem dX2_considerMisses_27 : decode cX2_considerMisses 27 = .ok (.iload 5, 2) := by decide +kernel
theorem dX2_considerMisses_29 : decode cX2_considerMisses 29 = .ok (.invokevirtual 89, 3) := by decide +kernel
theorem dX2_considerMisses_32 : decode cX2_considerMisses 32 = .ok (.istore 6, 2) := by decide +kernel
theorem dX2_considerMisses_34 : decode cX2_considerMisses 34 = .ok (.aload_n 0, 1) := by decide +kernel
theorem dX2_considerMisses_35 : decode cX2_considerMisses 35 = .ok (.getfield 28, 3) := by decide +kernel
theorem dX2_considerMisses_38 : decode cX2_considerMisses 38 = .ok (.getfield 93, 3) := by decide +kernel
theorem dX2_considerMisses_41 : decode cX2_considerMisses 41 = .ok (.iload 6, 2) := by decide +kernel
theorem dX2_considerMisses_43 : decode cX2_considerMisses 43 = .ok (.iconst 0, 1) := by decide +kernel
theorem dX2_considerMisses_44 : decode cX2_considerMisses 44 = .ok (.invokestatic 96, 3) := by decide +kernel
theorem dX2_considerMisses_47 : decode cX2_considerMisses 47 = .ok (.aload_n 1, 1) := by decide +kernel
theorem dX2_considerMisses_48 : decode cX2_considerMisses 48 = .ok (.getfield 100, 3) := by decide +kernel
theorem dX2_considerMisses_51 : decode cX2_considerMisses 51 = .ok (.iload 5, 2) := by decide +kernel
theorem dX2_considerMisses_53 : decode cX2_considerMisses 53 = .ok (.iaload, 1) := by decide +kernel
theorem dX2_considerMisses_54 : decode cX2_considerMisses 54 = .ok (.iconst 0, 1) := by decide +kernel
theorem dX2_considerMisses_55 : decode cX2_considerMisses 55 = .ok (.invokestatic 96, 3) := by decide +kernel
theorem dX2_considerMisses_58 : decode cX2_considerMisses 58 = .ok (.isub, 1) := by decide +kernel
theorem dX2_considerMisses_59 : decode cX2_considerMisses 59 = .ok (.imul, 1) := by decide +kernel
theorem dX2_considerMisses_60 : decode cX2_considerMisses 60 = .ok (.istore 7, 2) := by decide +kernel
theorem dX2_considerMisses_62 : decode cX2_considerMisses 62 = .ok (.aload_n 0, 1) := by decide +kernel
theorem dX2_considerMisses_63 : decode cX2_considerMisses 63 = .ok (.getfield 28, 3) := by decide +kernel
theorem dX2_considerMisses_66 : decode cX2_considerMisses 66 = .ok (.getfield 93, 3) := by decide +kernel
theorem dX2_considerMisses_69 : decode cX2_considerMisses 69 = .ok (.iload 6, 2) := by decide +kernel
theorem dX2_considerMisses_71 : decode cX2_considerMisses 71 = .ok (.iconst 1, 1) := by decide +kernel
theorem dX2_considerMisses_72 : decode cX2_considerMisses 72 = .ok (.invokestatic 96, 3) := by decide +kernel
theorem dX2_considerMisses_75 : decode cX2_considerMisses 75 = .ok (.aload_n 1, 1) := by decide +kernel
theorem dX2_considerMisses_76 : decode cX2_considerMisses 76 = .ok (.getfield 100, 3) := by decide +kernel
theorem dX2_considerMisses_79 : decode cX2_considerMisses 79 = .ok (.iload 5, 2) := by decide +kernel
theorem dX2_considerMisses_81 : decode cX2_considerMisses 81 = .ok (.iaload, 1) := by decide +kernel
theorem dX2_considerMisses_82 : decode cX2_considerMisses 82 = .ok (.iconst 1, 1) := by decide +kernel
theorem dX2_considerMisses_83 : decode cX2_considerMisses 83 = .ok (.invokestatic 96, 3) := by decide +kernel
theorem dX2_considerMisses_86 : decode cX2_considerMisses 86 = .ok (.isub, 1) := by decide +kernel
theorem dX2_considerMisses_87 : decode cX2_considerMisses 87 = .ok (.imul, 1) := by decide +kernel
theorem dX2_considerMisses_88 : decode cX2_considerMisses 88 = .ok (.istore 8, 2) := by decide +kernel
theorem dX2_considerMisses_90 : decode cX2_considerMisses 90 = .ok (.iconst 0, 1) := by decide +kernel
theorem dX2_considerMisses_91 : decode cX2_considerMisses 91 = .ok (.iload 4, 2) := by decide +kernel
theorem dX2_considerMisses_93 : decode cX2_considerMisses 93 = .ok (.aload_n 1, 1) := by decide +kernel
theorem dX2_considerMisses_94 : decode cX2_considerMisses 94 = .ok (.getfield 103, 3) := by decide +kernel
theorem dX2_considerMisses_97 : decode cX2_considerMisses 97 = .ok (.iload 5, 2) := by decide +kernel
theorem dX2_considerMisses_99 : decode cX2_considerMisses 99 = .ok (.iaload, 1) := by decide +kernel
theorem dX2_considerMisses_100 : decode cX2_considerMisses 100 = .ok (.iadd, 1) := by decide +kernel
theorem dX2_considerMisses_101 : decode cX2_considerMisses 101 = .ok (.invokestatic 104, 3) := by decide +kernel
theorem dX2_considerMisses_104 : decode cX2_considerMisses 104 = .ok (.istore 9, 2) := by decide +kernel
theorem dX2_considerMisses_106 : decode cX2_considerMisses 106 = .ok (.aload_n 0, 1) := by decide +kernel
theorem dX2_considerMisses_107 : decode cX2_considerMisses 107 = .ok (.aload_n 0, 1) := by decide +kernel
theorem dX2_considerMisses_108 : decode cX2_considerMisses 108 = .ok (.aload_n 2, 1) := by decide +kernel
theorem dX2_considerMisses_109 : decode cX2_considerMisses 109 = .ok (.iload 9, 2) := by decide +kernel
theorem dX2_considerMisses_111 : decode cX2_considerMisses 111 = .ok (.iload 4, 2) := by decide +kernel
theorem dX2_considerMisses_113 : decode cX2_considerMisses 113 = .ok (.aload_n 1, 1) := by decide +kernel
theorem dX2_considerMisses_114 : decode cX2_considerMisses 114 = .ok (.iload 5, 2) := by decide +kernel
theorem dX2_considerMisses_116 : decode cX2_considerMisses 116 = .ok (.invokevirtual 109, 3) := by decide +kernel
theorem dX2_considerMisses_119 : decode cX2_considerMisses 119 = .ok (.iadd, 1) := by decide +kernel
theorem dX2_considerMisses_120 : decode cX2_considerMisses 120 = .ok (.iload 7, 2) := by decide +kernel
theorem dX2_considerMisses_122 : decode cX2_considerMisses 122 = .ok (.iload 8, 2) := by decide +kernel
theorem dX2_considerMisses_124 : decode cX2_considerMisses 124 = .ok (.invokevirtual 62, 3) := by decide +kernel
theorem dX2_considerMisses_127 : decode cX2_considerMisses 127 = .ok (.iload_n 3, 1) := by decide +kernel
theorem dX2_considerMisses_128 : decode cX2_considerMisses 128 = .ok (.iload 5, 2) := by decide +kernel
theorem dX2_considerMisses_130 : decode cX2_considerMisses 130 = .ok (.invokevirtual 66, 3) := by decide +kernel
theorem dX2_considerMisses_133 : decode cX2_considerMisses 133 = .ok (.iinc 5 1, 3) := by decide +kernel
theorem dX2_considerMisses_136 : decode cX2_considerMisses 136 = .ok (.goto (-119), 3) := by decide +kernel
theorem dX2_considerMisses_139 : decode cX2_considerMisses 139 = .ok (.return_, 1) := by decide +kernel
theorem dX2_misfitLess_0 : decode cX2_misfitLess 0 = .ok (.lconst 0, 1) := by decide +kernel
theorem dX2_misfitLess_1 : decode cX2_misfitLess 1 = .ok (.lstore 6, 2) := by decide +kernel
theorem dX2_misfitLess_3 : decode cX2_misfitLess 3 = .ok (.iconst 0, 1) := by decide +kernel
theorem dX2_misfitLess_4 : decode cX2_misfitLess 4 = .ok (.istore 8, 2) := by decide +kernel
theorem dX2_misfitLess_6 : decode cX2_misfitLess 6 = .ok (.iload 8, 2) := by decide +kernel
theorem dX2_misfitLess_8 : decode cX2_misfitLess 8 = .ok (.aload_n 0, 1) := by decide +kernel
theorem dX2_misfitLess_9 : decode cX2_misfitLess 9 = .ok (.getfield 21, 3) := by decide +kernel
theorem dX2_misfitLess_12 : decode cX2_misfitLess 12 = .ok (.if_icmp .ge 94, 3) := by decide +kernel
theorem dX2_misfitLess_15 : decode cX2_misfitLess 15 = .ok (.aload_n 0, 1) := by decide +kernel
theorem dX2_misfitLess_16 : decode cX2_misfitLess 16 = .ok (.getfield 9, 3) := by decide +kernel
theorem dX2_misfitLess_19 : decode cX2_misfitLess 19 = .ok (.iload 8, 2) := by decide +kernel
theorem dX2_misfitLess_21 : decode cX2_misfitLess 21 = .ok (.iaload, 1) := by decide +kernel
theorem dX2_misfitLess_22 : decode cX2_misfitLess 22 = .ok (.istore 9, 2) := by decide +kernel
theorem dX2_misfitLess_24 : decode cX2_misfitLess 24 = .ok (.aload_n 1, 1) := by decide +kernel
theorem dX2_misfitLess_25 : decode cX2_misfitLess 25 = .ok (.iload_n 2, 1) := by decide +kernel
theorem dX2_misfitLess_26 : decode cX2_misfitLess 26 = .ok (.iload_n 3, 1) := by decide +kernel
theorem dX2_misfitLess_27 : decode cX2_misfitLess 27 = .ok (.iload 9, 2) := by decide +kernel
theorem dX2_misfitLess_29 : decode cX2_misfitLess 29 = .ok (.invokestatic 112, 3) := by decide +kernel
theorem dX2_misfitLess_32 : decode cX2_misfitLess 32 = .ok (.invokevirtual 115, 3) := by decide +kernel
theorem dX2_misfitLess_35 : decode cX2_misfitLess 35 = .ok (.i2l, 1) := by decide +kernel
theorem dX2_misfitLess_36 : decode cX2_misfitLess 36 = .ok (.lstore 10, 2) := by decide +kernel
theorem dX2_misfitLess_38 : decode cX2_misfitLess 38 = .ok (.lload 6, 2) := by decide +kernel
theorem dX2_misfitLess_40 : decode cX2_misfitLess 40 = .ok (.aload_n 0, 1) := by decide +kernel
theorem dX2_misfitLess_41 : decode cX2_misfitLess 41 = .ok (.getfield 32, 3) := by decide +kernel
theorem dX2_misfitLess_44 : decode cX2_misfitLess 44 = .ok (.iload 9, 2) := by decide +kernel
theorem dX2_misfitLess_46 : decode cX2_misfitLess 46 = .ok (.laload, 1) := by decide +kernel
theorem dX2_misfitLess_47 : decode cX2_misfitLess 47 = .ok (.lload 10, 2) := by decide +kernel
theorem dX2_misfitLess_49 : decode cX2_misfitLess 49 = .ok (.iload 4, 2) := by decide +kernel
theorem dX2_misfitLess_51 : decode cX2_misfitLess 51 = .ok (.i2l, 1) := by decide +kernel
theorem dX2_misfitLess_52 : decode cX2_misfitLess 52 = .ok (.lmul, 1) := by decide +kernel
theorem dX2_misfitLess_53 : decode cX2_misfitLess 53 = .ok (.ladd, 1) := by decide +kernel
theorem dX2_misfitLess_54 : decode cX2_misfitLess 54 = .ok (.aload_n 0, 1) := by decide +kernel
theorem dX2_misfitLess_55 : decode cX2_misfitLess 55 = .ok (.getfield 15, 3) := by decide +kernel
theorem dX2_misfitLess_58 : decode cX2_misfitLess 58 = .ok (.iload 8, 2) := by decide +kernel
theorem dX2_misfitLess_60 : decode cX2_misfitLess 60 = .ok (.iaload, 1) := by decide +kernel
theorem dX2_misfitLess_61 : decode cX2_misfitLess 61 = .ok (.i2l, 1) := by decide +kernel
theorem dX2_misfitLess_62 : decode cX2_misfitLess 62 = .ok (.lsub, 1) := by decide +kernel
theorem dX2_misfitLess_63 : decode cX2_misfitLess 63 = .ok (.invokestatic 120, 3) := by decide +kernel
theorem dX2_misfitLess_66 : decode cX2_misfitLess 66 = .ok (.ladd, 1) := by decide +kernel
theorem dX2_misfitLess_67 : decode cX2_misfitLess 67 = .ok (.lstore 6, 2) := by decide +kernel
theorem dX2_misfitLess_69 : decode cX2_misfitLess 69 = .ok (.lload 6, 2) := by decide +kernel
theorem dX2_misfitLess_71 : decode cX2_misfitLess 71 = .ok (.aload_n 0, 1) := by decide +kernel
theorem dX2_misfitLess_72 : decode cX2_misfitLess 72 = .ok (.getfield 36, 3) := by decide +kernel
theorem dX2_misfitLess_75 : decode cX2_misfitLess 75 = .ok (.iload 9, 2) := by decide +kernel
theorem dX2_misfitLess_77 : decode cX2_misfitLess 77 = .ok (.laload, 1) := by decide +kernel
theorem dX2_misfitLess_78 : decode cX2_misfitLess 78 = .ok (.lload 10, 2) := by decide +kernel
theorem dX2_misfitLess_80 : decode cX2_misfitLess 80 = .ok (.iload 5, 2) := by decide +kernel
theorem dX2_misfitLess_82 : decode cX2_misfitLess 82 = .ok (.i2l, 1) := by decide +kernel
theorem dX2_misfitLess_83 : decode cX2_misfitLess 83 = .ok (.lmul, 1) := by decide +kernel
theorem dX2_misfitLess_84 : decode cX2_misfitLess 84 = .ok (.ladd, 1) := by decide +kernel
theorem dX2_misfitLess_85 : decode cX2_misfitLess 85 = .ok (.aload_n 0, 1) := by decide +kernel
theorem dX2_misfitLess_86 : decode cX2_misfitLess 86 = .ok (.getfield 18, 3) := by decide +kernel
theorem dX2_misfitLess_89 : decode cX2_misfitLess 89 = .ok (.iload 8, 2) := by decide +kernel
theorem dX2_misfitLess_91 : decode cX2_misfitLess 91 = .ok (.iaload, 1) := by decide +kernel
theorem dX2_misfitLess_92 : decode cX2_misfitLess 92 = .ok (.i2l, 1) := by decide +kernel
theorem dX2_misfitLess_93 : decode cX2_misfitLess 93 = .ok (.lsub, 1) := by decide +kernel
theorem dX2_misfitLess_94 : decode cX2_misfitLess 94 = .ok (.invokestatic 120, 3) := by decide +kernel
theorem dX2_misfitLess_97 : decode cX2_misfitLess 97 = .ok (.ladd, 1) := by decide +kernel
theorem dX2_misfitLess_98 : decode cX2_misfitLess 98 = .ok (.lstore 6, 2) := by decide +kernel
theorem dX2_misfitLess_100 : decode cX2_misfitLess 100 = .ok (.iinc 8 1, 3) := by decide +kernel
theorem dX2_misfitLess_103 : decode cX2_misfitLess 103 = .ok (.goto (-97), 3) := by decide +kernel
theorem dX2_misfitLess_106 : decode cX2_misfitLess 106 = .ok (.lload 6, 2) := by decide +kernel
theorem dX2_misfitLess_108 : decode cX2_misfitLess 108 = .ok (.lreturn, 1) := by decide +kernel
theorem dX2_consider_0 : decode cX2_consider 0 = .ok (.lload_n 1, 1) := by decide +kernel
theorem dX2_consider_1 : decode cX2_consider 1 = .ok (.aload_n 0, 1) := by decide +kernel
theorem dX2_consider_2 : decode cX2_consider 2 = .ok (.getfield 39, 3) := by decide +kernel
theorem dX2_consider_5 : decode cX2_consider 5 = .ok (.lcmp, 1) := by decide +kernel
theorem dX2_consider_6 : decode cX2_consider 6 = .ok (.ifCond .ge 30, 3) := by decide +kernel
theorem dX2_consider_9 : decode cX2_consider 9 = .ok (.aload_n 0, 1) := by decide +kernel
theorem dX2_consider_10 : decode cX2_consider 10 = .ok (.lload_n 1, 1) := by decide +kernel
theorem dX2_consider_11 : decode cX2_consider 11 = .ok (.putfield 39, 3) := by decide +kernel
theorem dX2_consider_14 : decode cX2_consider 14 = .ok (.aload_n 0, 1) := by decide +kernel
theorem dX2_consider_15 : decode cX2_consider 15 = .ok (.aload_n 0, 1) := by decide +kernel
theorem dX2_consider_16 : decode cX2_consider 16 = .ok (.getfield 28, 3) := by decide +kernel
theorem dX2_consider_19 : decode cX2_consider 19 = .ok (.getfield 57, 3) := by decide +kernel
theorem dX2_consider_22 : decode cX2_consider 22 = .ok (.putfield 43, 3) := by decide +kernel
theorem dX2_consider_25 : decode cX2_consider 25 = .ok (.aload_n 0, 1) := by decide +kernel
theorem dX2_consider_26 : decode cX2_consider 26 = .ok (.iload_n 3, 1) := by decide +kernel
theorem dX2_consider_27 : decode cX2_consider 27 = .ok (.putfield 46, 3) := by decide +kernel
theorem dX2_consider_30 : decode cX2_consider 30 = .ok (.aload_n 0, 1) := by decide +kernel
theorem dX2_consider_31 : decode cX2_consider 31 = .ok (.iload 4, 2) := by decide +kernel
theorem dX2_consider_33 : decode cX2_consider 33 = .ok (.putfield 49, 3) := by decide +kernel
theorem dX2_consider_36 : decode cX2_consider 36 = .ok (.return_, 1) := by decide +kernel
theorem dX3_init_0 : decode cX3_init 0 = .ok (.aload_n 0, 1) := by decide +kernel
theorem dX3_init_1 : decode cX3_init 1 = .ok (.invokespecial 3, 3) := by decide +kernel
theorem dX3_init_4 : decode cX3_init 4 = .ok (.aload_n 0, 1) := by decide +kernel
theorem dX3_init_5 : decode cX3_init 5 = .ok (.ldc 9, 2) := by decide +kernel
theorem dX3_init_7 : decode cX3_init 7 = .ok (.putfield 10, 3) := by decide +kernel
theorem dX3_init_10 : decode cX3_init 10 = .ok (.aload_n 0, 1) := by decide +kernel
theorem dX3_init_11 : decode cX3_init 11 = .ok (.iconst 0, 1) := by decide +kernel
theorem dX3_init_12 : decode cX3_init 12 = .ok (.putfield 16, 3) := by decide +kernel
theorem dX3_init_15 : decode cX3_init 15 = .ok (.aload_n 0, 1) := by decide +kernel
theorem dX3_init_16 : decode cX3_init 16 = .ok (.iconst 5, 1) := by decide +kernel
theorem dX3_init_17 : decode cX3_init 17 = .ok (.putfield 19, 3) := by decide +kernel
theorem dX3_init_20 : decode cX3_init 20 = .ok (.aload_n 0, 1) := by decide +kernel
theorem dX3_init_21 : decode cX3_init 21 = .ok (.sipush 20000, 3) := by decide +kernel
theorem dX3_init_24 : decode cX3_init 24 = .ok (.putfield 22, 3) := by decide +kernel
theorem dX3_init_27 : decode cX3_init 27 = .ok (.aload_n 0, 1) := by decide +kernel
theorem dX3_init_28 : decode cX3_init 28 = .ok (.iconst 4, 1) := by decide +kernel
theorem dX3_init_29 : decode cX3_init 29 = .ok (.newarray .long, 2) := by decide +kernel
theorem dX3_init_31 : decode cX3_init 31 = .ok (.putfield 25, 3) := by decide +kernel
theorem dX3_init_34 : decode cX3_init 34 = .ok (.aload_n 0, 1) := by decide +kernel
theorem dX3_init_35 : decode cX3_init 35 = .ok (.iconst 4, 1) := by decide +kernel
theorem dX3_init_36 : decode cX3_init 36 = .ok (.newarray .long, 2) := by decide +kernel
theorem dX3_init_38 : decode cX3_init 38 = .ok (.putfield 29, 3) := by decide +kernel
theorem dX3_init_41 : decode cX3_init 41 = .ok (.aload_n 0, 1) := by decide +kernel
theorem dX3_init_42 : decode cX3_init 42 = .ok (.iconst 4, 1) := by decide +kernel
theorem dX3_init_43 : decode cX3_init 43 = .ok (.newarray .int, 2) := by decide +kernel
theorem dX3_init_45 : decode cX3_init 45 = .ok (.putfield 32, 3) := by decide +kernel
theorem dX3_init_48 : decode cX3_init 48 = .ok (.aload_n 0, 1) := by decide +kernel
theorem dX3_init_49 : decode cX3_init 49 = .ok (.iconst 0, 1) := by decide +kernel
theorem dX3_init_50 : decode cX3_init 50 = .ok (.putfield 36, 3) := by decide +kernel
theorem dX3_init_53 : decode cX3_init 53 = .ok (.aload_n 0, 1) := by decide +kernel
theorem dX3_init_54 : decode cX3_init 54 = .ok (.bipush (-6), 2) := by decide +kernel
theorem dX3_init_56 : decode cX3_init 56 = .ok (.putfield 39, 3) := by decide +kernel
theorem dX3_init_59 : decode cX3_init 59 = .ok (.aload_n 0, 1) := by decide +kernel
theorem dX3_init_60 : decode cX3_init 60 = .ok (.iconst 4, 1) := by decide +kernel
theorem dX3_init_61 : decode cX3_init 61 = .ok (.newarray .int, 2) := by decide +kernel
theorem dX3_init_63 : decode cX3_init 63 = .ok (.putfield 42, 3) := by decide +kernel
theorem dX3_init_66 : decode cX3_init 66 = .ok (.aload_n 0, 1) := by decide +kernel
theorem dX3_init_67 : decode cX3_init 67 = .ok (.iconst 0, 1) := by decide +kernel
theorem dX3_init_68 : decode cX3_init 68 = .ok (.putfield 45, 3) := by decide +kernel
theorem dX3_init_71 : decode cX3_init 71 = .ok (.return_, 1) := by decide +kernel
theorem dX3_canBeWithin_0 : decode cX3_canBeWithin 0 = .ok (.ldc2_w 48, 3) := by decide +kernel
theorem dX3_canBeWithin_3 : decode cX3_canBeWithin 3 = .ok (.aload_n 0, 1) := by decide +kernel
theorem dX3_canBeWithin_4 : decode cX3_canBeWithin 4 = .ok (.getfield 19, 3) := by decide +kernel
theorem dX3_canBeWithin_7 : decode cX3_canBeWithin 7 = .ok (.i2l, 1) := by decide +kernel
theorem dX3_canBeWithin_8 : decode cX3_canBeWithin 8 = .ok (.lmul, 1) := by decide +kernel
theorem dX3_canBeWithin_9 : decode cX3_canBeWithin 9 = .ok (.iload 5, 2) := by decide +kernel
theorem dX3_canBeWithin_11 : decode cX3_canBeWithin 11 = .ok (.i2l, 1) := by decide +kernel
theorem dX3_canBeWithin_12 : decode cX3_canBeWithin 12 = .ok (.lmul, 1) := by decide +kernel
theorem dX3_canBeWithin_13 : decode cX3_canBeWithin 13 = .ok (.iload 6, 2) := by decide +kernel
theorem dX3_canBeWithin_15 : decode cX3_canBeWithin 15 = .ok (.i2l, 1) := by decide +kernel
theorem dX3_canBeWithin_16 : decode cX3_canBeWithin 16 = .ok (.ladd, 1) := by decide +kernel
theorem dX3_canBeWithin_17 : decode cX3_canBeWithin 17 = .ok (.lstore 7, 2) := by decide +kernel
theorem dX3_canBeWithin_19 : decode cX3_canBeWithin 19 = .ok (.lload_n 1, 1) := by decide +kernel
theorem dX3_canBeWithin_20 : decode cX3_canBeWithin 20 = .ok (.aload_n 0, 1) := by decide +kernel
theorem dX3_canBeWithin_21 : decode cX3_canBeWithin 21 = .ok (.getfield 10, 3) := by decide +kernel
theorem dX3_canBeWithin_24 : decode cX3_canBeWithin 24 = .ok (.i2l, 1) := by decide +kernel
theorem dX3_canBeWithin_25 : decode cX3_canBeWithin 25 = .ok (.lsub, 1) := by decide +kernel
theorem dX3_canBeWithin_26 : decode cX3_canBeWithin 26 = .ok (.lload_n 3, 1) := by decide +kernel
theorem dX3_canBeWithin_27 : decode cX3_canBeWithin 27 = .ok (.aload_n 0, 1) := by decide +kernel
theorem dX3_canBeWithin_28 : decode cX3_canBeWithin 28 = .ok (.getfield 16, 3) := by decide +kernel
theorem dX3_canBeWithin_31 : decode cX3_canBeWithin 31 = .ok (.i2l, 1) := by decide +kernel
theorem dX3_canBeWithin_32 : decode cX3_canBeWithin 32 = .ok (.lsub, 1) := by decide +kernel
theorem dX3_canBeWithin_33 : decode cX3_canBeWithin 33 = .ok (.invokestatic 50, 3) := by decide +kernel
theorem dX3_canBeWithin_36 : decode cX3_canBeWithin 36 = .ok (.lload 7, 2) := by decide +kernel
theorem dX3_canBeWithin_38 : decode cX3_canBeWithin 38 = .ok (.lload 7, 2) := by decide +kernel
theorem dX3_canBeWithin_40 : decode cX3_canBeWithin 40 = .ok (.lmul, 1) := by decide +kernel
theorem dX3_canBeWithin_41 : decode cX3_canBeWithin 41 = .ok (.lcmp, 1) := by decide +kernel
theorem dX3_canBeWithin_42 : decode cX3_canBeWithin 42 = .ok (.ifCond .gt 7, 3) := by decide +kernel
theorem dX3_canBeWithin_45 : decode cX3_canBeWithin 45 = .ok (.iconst 1, 1) := by decide +kernel
theorem dX3_canBeWithin_46 : decode cX3_canBeWithin 46 = .ok (.goto 4, 3) := by decide +kernel
theorem dX3_canBeWithin_49 : decode cX3_canBeWithin 49 = .ok (.iconst 0, 1) := by decide +kernel
theorem dX3_canBeWithin_50 : decode cX3_canBeWithin 50 = .ok (.ireturn, 1) := by decide +kernel
theorem dX3_waitAt_0 : decode cX3_waitAt 0 = .ok (.iconst 0, 1) := by decide +kernel
theorem dX3_waitAt_1 : decode cX3_waitAt 1 = .ok (.istore 4, 2) := by decide +kernel
theorem dX3_waitAt_3 : decode cX3_waitAt 3 = .ok (.iload 4, 2) := by decide +kernel
theorem dX3_waitAt_5 : decode cX3_waitAt 5 = .ok (.iconst 4, 1) := by decide +kernel
theorem dX3_waitAt_6 : decode cX3_waitAt 6 = .ok (.if_icmp .ge 47, 3) := by decide +kernel
theorem dX3_waitAt_9 : decode cX3_waitAt 9 = .ok (.aload_n 0, 1) := by decide +kernel
theorem dX3_waitAt_10 : decode cX3_waitAt 10 = .ok (.getfield 25, 3) := by decide +kernel
theorem dX3_waitAt_13 : decode cX3_waitAt 13 = .ok (.iload 4, 2) := by decide +kernel
theorem dX3_waitAt_15 : decode cX3_waitAt 15 = .ok (.iload_n 2, 1) := by decide +kernel
theorem dX3_waitAt_16 : decode cX3_waitAt 16 = .ok (.i2l, 1) := by decide +kernel
theorem dX3_waitAt_17 : decode cX3_waitAt 17 = .ok (.aload_n 1, 1) := by decide +kernel
theorem dX3_waitAt_18 : decode cX3_waitAt 18 = .ok (.iload 4, 2) := by decide +kernel
theorem dX3_waitAt_20 : decode cX3_waitAt 20 = .ok (.aaload, 1) := by decide +kernel
theorem dX3_waitAt_21 : decode cX3_waitAt 21 = .ok (.iload_n 3, 1) := by decide +kernel
theorem dX3_waitAt_22 : decode cX3_waitAt 22 = .ok (.iconst 0, 1) := by decide +kernel
theorem dX3_waitAt_23 : decode cX3_waitAt 23 = .ok (.invokevirtual 54, 3) := by decide +kernel
theorem dX3_waitAt_26 : decode cX3_waitAt 26 = .ok (.lmul, 1) := by decide +kernel
theorem dX3_waitAt_27 : decode cX3_waitAt 27 = .ok (.lastore, 1) := by decide +kernel
theorem dX3_waitAt_28 : decode cX3_waitAt 28 = .ok (.aload_n 0, 1) := by decide +kernel
theorem dX3_waitAt_29 : decode cX3_waitAt 29 = .ok (.getfield 29, 3) := by decide +kernel
theorem dX3_waitAt_32 : decode cX3_waitAt 32 = .ok (.iload 4, 2) := by decide +kernel
theorem dX3_waitAt_34 : decode cX3_waitAt 34 = .ok (.iload_n 2, 1) := by decide +kernel
theorem dX3_waitAt_35 : decode cX3_waitAt 35 = .ok (.i2l, 1) := by decide +kernel
theorem dX3_waitAt_36 : decode cX3_waitAt 36 = .ok (.aload_n 1, 1) := by decide +kernel
theorem dX3_waitAt_37 : decode cX3_waitAt 37 = .ok (.iload 4, 2) := by decide +kernel
theorem dX3_waitAt_39 : decode cX3_waitAt 39 = .ok (.aaload, 1) := by decide +kernel
theorem dX3_waitAt_40 : decode cX3_waitAt 40 = .ok (.iload_n 3, 1) := by decide +kernel
theorem dX3_waitAt_41 : decode cX3_waitAt 41 = .ok (.iconst 1, 1) := by decide +kernel
theorem dX3_waitAt_42 : decode cX3_waitAt 42 = .ok (.invokevirtual 54, 3) := by decide +kernel
theorem dX3_waitAt_45 : decode cX3_waitAt 45 = .ok (.lmul, 1) := by decide +kernel
theorem dX3_waitAt_46 : decode cX3_waitAt 46 = .ok (.lastore, 1) := by decide +kernel
theorem dX3_waitAt_47 : decode cX3_waitAt 47 = .ok (.iinc 4 1, 3) := by decide +kernel
theorem dX3_waitAt_50 : decode cX3_waitAt 50 = .ok (.goto (-47), 3) := by decide +kernel
theorem dX3_waitAt_53 : decode cX3_waitAt 53 = .ok (.iconst 0, 1) := by decide +kernel
theorem dX3_waitAt_54 : decode cX3_waitAt 54 = .ok (.istore 4, 2) := by decide +kernel
theorem dX3_waitAt_56 : decode cX3_waitAt 56 = .ok (.iload 4, 2) := by decide +kernel
theorem dX3_waitAt_58 : decode cX3_waitAt 58 = .ok (.iconst 4, 1) := by decide +kernel
theorem dX3_waitAt_59 : decode cX3_waitAt 59 = .ok (.if_icmp .ge 49, 3) := by decide +kernel
theorem dX3_waitAt_62 : decode cX3_waitAt 62 = .ok (.aload_n 0, 1) := by decide +kernel
theorem dX3_waitAt_63 : decode cX3_waitAt 63 = .ok (.getfield 32, 3) := by decide +kernel
theorem dX3_waitAt_66 : decode cX3_waitAt 66 = .ok (.iload 4, 2) := by decide +kernel
theorem dX3_waitAt_68 : decode cX3_waitAt 68 = .ok (.aload_n 0, 1) := by decide +kernel
theorem dX3_waitAt_69 : decode cX3_waitAt 69 = .ok (.aload_n 0, 1) := by decide +kernel
theorem dX3_waitAt_70 : decode cX3_waitAt 70 = .ok (.getfield 25, 3) := by decide +kernel
theorem dX3_waitAt_73 : decode cX3_waitAt 73 = .ok (.iload 4, 2) := by decide +kernel
theorem dX3_waitAt_75 : decode cX3_waitAt 75 = .ok (.laload, 1) := by decide +kernel
theorem dX3_waitAt_76 : decode cX3_waitAt 76 = .ok (.aload_n 0, 1) := by decide +kernel
theorem dX3_waitAt_77 : decode cX3_waitAt 77 = .ok (.getfield 29, 3) := by decide +kernel
theorem dX3_waitAt_80 : decode cX3_waitAt 80 = .ok (.iload 4, 2) := by decide +kernel
theorem dX3_waitAt_82 : decode cX3_waitAt 82 = .ok (.laload, 1) := by decide +kernel
theorem dX3_waitAt_83 : decode cX3_waitAt 83 = .ok (.iload_n 3, 1) := by decide +kernel
theorem dX3_waitAt_84 : decode cX3_waitAt 84 = .ok (.iconst 0, 1) := by decide +kernel
theorem dX3_waitAt_85 : decode cX3_waitAt 85 = .ok (.invokevirtual 60, 3) := by decide +kernel
theorem dX3_waitAt_88 : decode cX3_waitAt 88 = .ok (.ifCond .eq 12, 3) := by decide +kernel
theorem dX3_waitAt_91 : decode cX3_waitAt 91 = .ok (.aload_n 0, 1) := by decide +kernel
theorem dX3_waitAt_92 : decode cX3_waitAt 92 = .ok (.iload 4, 2) := by decide +kernel
theorem dX3_waitAt_94 : decode cX3_waitAt 94 = .ok (.invokevirtual 64, 3) := by decide +kernel
theorem dX3_waitAt_97 : decode cX3_waitAt 97 = .ok (.goto 4, 3) := by decide +kernel
theorem dX3_waitAt_100 : decode cX3_waitAt 100 = .ok (.iconst 0, 1) := by decide +kernel
theorem dX3_waitAt_101 : decode cX3_waitAt 101 = .ok (.iastore, 1) := by decide +kernel
theorem dX3_waitAt_102 : decode cX3_waitAt 102 = .ok (.iinc 4 1, 3) := by decide +kernel
theorem dX3_waitAt_105 : decode cX3_waitAt 105 = .ok (.goto (-49), 3) := by decide +kernel
theorem dX3_waitAt_108 : decode cX3_waitAt 108 = .ok (.return_, 1) := by decide +kernel
theorem dX3_plansInReach_0 : decode cX3_plansInReach 0 = .ok (.aload_n 0, 1) := by decide +kernel
theorem dX3_plansInReach_1 : decode cX3_plansInReach 1 = .ok (.getfield 22, 3) := by decide +kernel
theorem dX3_plansInReach_4 : decode cX3_plansInReach 4 = .ok (.i2l, 1) := by decide +kernel
theorem dX3_plansInReach_5 : decode cX3_plansInReach 5 = .ok (.aload_n 0, 1) := by decide +kernel
theorem dX3_plansInReach_6 : decode cX3_plansInReach 6 = .ok (.getfield 22, 3) := by decide +kernel
theorem dX3_plansInReach_9 : decode cX3_plansInReach 9 = .ok (.i2l, 1) := by decide +kernel
theorem dX3_plansInReach_10 : decode cX3_plansInReach 10 = .ok (.lmul, 1) := by decide +kernel
theorem dX3_plansInReach_11 : decode cX3_plansInReach 11 = .ok (.lstore_n 2, 1) := by decide +kernel
theorem dX3_plansInReach_12 : decode cX3_plansInReach 12 = .ok (.iconst 0, 1) := by decide +kernel
theorem dX3_plansInReach_13 : decode cX3_plansInReach 13 = .ok (.istore 4, 2) := by decide +kernel
theorem dX3_plansInReach_15 : decode cX3_plansInReach 15 = .ok (.iconst 0, 1) := by decide +kernel
theorem dX3_plansInReach_16 : decode cX3_plansInReach 16 = .ok (.istore 5, 2) := by decide +kernel
theorem dX3_plansInReach_18 : decode cX3_plansInReach 18 = .ok (.iload 5, 2) := by decide +kernel
theorem dX3_plansInReach_20 : decode cX3_plansInReach 20 = .ok (.iconst 4, 1) := by decide +kernel
theorem dX3_plansInReach_21 : decode cX3_plansInReach 21 = .ok (.if_icmp .ge 54, 3) := by decide +kernel
theorem dX3_plansInReach_24 : decode cX3_plansInReach 24 = .ok (.aload_n 0, 1) := by decide +kernel
theorem dX3_plansInReach_25 : decode cX3_plansInReach 25 = .ok (.getfield 25, 3) := by decide +kernel
theorem dX3_plansInReach_28 : decode cX3_plansInReach 28 = .ok (.iload 5, 2) := by decide +kernel
theorem dX3_plansInReach_30 : decode cX3_plansInReach 30 = .ok (.laload, 1) := by decide +kernel
theorem dX3_plansInReach_31 : decode cX3_plansInReach 31 = .ok (.aload_n 0, 1) := by decide +kernel
theorem dX3_plansInReach_32 : decode cX3_plansInReach 32 = .ok (.getfield 25, 3) := by decide +kernel
theorem dX3_plansInReach_35 : decode cX3_plansInReach 35 = .ok (.iload_n 1, 1) := by decide +kernel
theorem dX3_plansInReach_36 : decode cX3_plansInReach 36 = .ok (.laload, 1) := by decide +kernel
theorem dX3_plansInReach_37 : decode cX3_plansInReach 37 = .ok (.lsub, 1) := by decide +kernel
theorem dX3_plansInReach_38 : decode cX3_plansInReach 38 = .ok (.aload_n 0, 1) := by decide +kernel
theorem dX3_plansInReach_39 : decode cX3_plansInReach 39 = .ok (.getfield 29, 3) := by decide +kernel
theorem dX3_plansInReach_42 : decode cX3_plansInReach 42 = .ok (.iload 5, 2) := by decide +kernel
theorem dX3_plansInReach_44 : decode cX3_plansInReach 44 = .ok (.laload, 1) := by decide +kernel
theorem dX3_plansInReach_45 : decode cX3_plansInReach 45 = .ok (.aload_n 0, 1) := by decide +kernel
theorem dX3_plansInReach_46 : decode cX3_plansInReach 46 = .ok (.getfield 29, 3) := by decide +kernel
theorem dX3_plansInReach_49 : decode cX3_plansInReach 49 = .ok (.iload_n 1, 1) := by decide +kernel
theorem dX3_plansInReach_50 : decode cX3_plansInReach 50 = .ok (.laload, 1) := by decide +kernel
theorem dX3_plansInReach_51 : decode cX3_plansInReach 51 = .ok (.lsub, 1) := by decide +kernel
theorem dX3_plansInReach_52 : decode cX3_plansInReach 52 = .ok (.invokestatic 50, 3) := by decide +kernel
theorem dX3_plansInReach_55 : decode cX3_plansInReach 55 = .ok (.lload_n 2, 1) := by decide +kernel
theorem dX3_plansInReach_56 : decode cX3_plansInReach 56 = .ok (.lcmp, 1) := by decide +kernel
theorem dX3_plansInReach_57 : decode cX3_plansInReach 57 = .ok (.ifCond .gt 12, 3) := by decide +kernel
theorem dX3_plansInReach_60 : decode cX3_plansInReach 60 = .ok (.iload 4, 2) := by decide +kernel
theorem dX3_plansInReach_62 : decode cX3_plansInReach 62 = .ok (.iconst 1, 1) := by decide +kernel
theorem dX3_plansInReach_63 : decode cX3_plansInReach 63 = .ok (.iload 5, 2) := by decide +kernel
theorem dX3_plansInReach_65 : decode cX3_plansInReach 65 = .ok (.ishl, 1) := by decide +kernel
theorem dX3_plansInReach_66 : decode cX3_plansInReach 66 = .ok (.ior, 1) := by decide +kernel
theorem dX3_plansInReach_67 : decode cX3_plansInReach 67 = .ok (.istore 4, 2) := by decide +kernel
theorem dX3_plansInReach_69 : decode cX3_plansInReach 69 = .ok (.iinc 5 1, 3) := by decide +kernel
theorem dX3_plansInReach_72 : decode cX3_plansInReach 72 = .ok (.goto (-54), 3) := by decide +kernel
theorem dX3_plansInReach_75 : decode cX3_plansInReach 75 = .ok (.iload 4, 2) := by decide +kernel
theorem dX3_plansInReach_77 : decode cX3_plansInReach 77 = .ok (.ireturn, 1) := by decide +kernel
theorem dX3_choose_0 : decode cX3_choose 0 = .ok (.aload_n 0, 1) := by decide +kernel
theorem dX3_choose_1 : decode cX3_choose 1 = .ok (.iconst 0, 1) := by decide +kernel
theorem dX3_choose_2 : decode cX3_choose 2 = .ok (.putfield 36, 3) := by decide +kernel
theorem dX3_choose_5 : decode cX3_choose 5 = .ok (.aload_n 0, 1) := by decide +kernel
theorem dX3_choose_6 : decode cX3_choose 6 = .ok (.bipush (-6), 2) := by decide +kernel
theorem dX3_choose_8 : decode cX3_choose 8 = .ok (.putfield 39, 3) := by decide +kernel
theorem dX3_choose_11 : decode cX3_choose 11 = .ok (.iconst 0, 1) := by decide +kernel
theorem dX3_choose_12 : decode cX3_choose 12 = .ok (.istore 5, 2) := by decide +kernel
theorem dX3_choose_14 : decode cX3_choose 14 = .ok (.iload 5, 2) := by decide +kernel
theorem dX3_choose_16 : decode cX3_choose 16 = .ok (.iconst 4, 1) := by decide +kernel
theorem dX3_choose_17 : decode cX3_choose 17 = .ok (.if_icmp .ge 89, 3) := by decide +kernel
theorem dX3_choose_20 : decode cX3_choose 20 = .ok (.aload_n 0, 1) := by decide +kernel
theorem dX3_choose_21 : decode cX3_choose 21 = .ok (.getfield 32, 3) := by decide +kernel
theorem dX3_choose_24 : decode cX3_choose 24 = .ok (.iload 5, 2) := by decide +kernel
theorem dX3_choose_26 : decode cX3_choose 26 = .ok (.iaload, 1) := by decide +kernel
theorem dX3_choose_27 : decode cX3_choose 27 = .ok (.istore 6, 2) := by decide +kernel
theorem dX3_choose_29 : decode cX3_choose 29 = .ok (.iload_n 1, 1) := by decide +kernel
theorem dX3_choose_30 : decode cX3_choose 30 = .ok (.iload 6, 2) := by decide +kernel
theorem dX3_choose_32 : decode cX3_choose 32 = .ok (.iconst 1, 1) := by decide +kernel
theorem dX3_choose_33 : decode cX3_choose 33 = .ok (.iand, 1) := by decide +kernel
theorem dX3_choose_34 : decode cX3_choose 34 = .ok (.imul, 1) := by decide +kernel
theorem dX3_choose_35 : decode cX3_choose 35 = .ok (.iload_n 2, 1) := by decide +kernel
theorem dX3_choose_36 : decode cX3_choose 36 = .ok (.iload 6, 2) := by decide +kernel
theorem dX3_choose_38 : decode cX3_choose 38 = .ok (.iconst 1, 1) := by decide +kernel
theorem dX3_choose_39 : decode cX3_choose 39 = .ok (.ishr, 1) := by decide +kernel
theorem dX3_choose_40 : decode cX3_choose 40 = .ok (.iconst 1, 1) := by decide +kernel
theorem dX3_choose_41 : decode cX3_choose 41 = .ok (.iand, 1) := by decide +kernel
theorem dX3_choose_42 : decode cX3_choose 42 = .ok (.imul, 1) := by decide +kernel
theorem dX3_choose_43 : decode cX3_choose 43 = .ok (.iadd, 1) := by decide +kernel
theorem dX3_choose_44 : decode cX3_choose 44 = .ok (.iload_n 3, 1) := by decide +kernel
theorem dX3_choose_45 : decode cX3_choose 45 = .ok (.iload 6, 2) := by decide +kernel
theorem dX3_choose_47 : decode cX3_choose 47 = .ok (.iconst 2, 1) := by decide +kernel
theorem dX3_choose_48 : decode cX3_choose 48 = .ok (.ishr, 1) := by decide +kernel
theorem dX3_choose_49 : decode cX3_choose 49 = .ok (.iconst 1, 1) := by decide +kernel
theorem dX3_choose_50 : decode cX3_choose 50 = .ok (.iand, 1) := by decide +kernel
theorem dX3_choose_51 : decode cX3_choose 51 = .ok (.imul, 1) := by decide +kernel
theorem dX3_choose_52 : decode cX3_choose 52 = .ok (.iadd, 1) := by decide +kernel
theorem dX3_choose_53 : decode cX3_choose 53 = .ok (.iload 4, 2) := by decide +kernel
theorem dX3_choose_55 : decode cX3_choose 55 = .ok (.iload 6, 2) := by decide +kernel
theorem dX3_choose_57 : decode cX3_choose 57 = .ok (.iconst 3, 1) := by decide +kernel
theorem dX3_choose_58 : decode cX3_choose 58 = .ok (.ishr, 1) := by decide +kernel
theorem dX3_choose_59 : decode cX3_choose 59 = .ok (.iconst 1, 1) := by decide +kernel
theorem dX3_choose_60 : decode cX3_choose 60 = .ok (.iand, 1) := by decide +kernel
theorem dX3_choose_61 : decode cX3_choose 61 = .ok (.imul, 1) := by decide +kernel
theorem dX3_choose_62 : decode cX3_choose 62 = .ok (.iadd, 1) := by decide +kernel
theorem dX3_choose_63 : decode cX3_choose 63 = .ok (.istore 7, 2) := by decide +kernel
theorem dX3_choose_65 : decode cX3_choose 65 = .ok (.iload 6, 2) := by decide +kernel
theorem dX3_choose_67 : decode cX3_choose 67 = .ok (.ifCond .eq 33, 3) := by decide +kernel
theorem dX3_choose_70 : decode cX3_choose 70 = .ok (.aload_n 0, 1) := by decide +kernel
theorem dX3_choose_71 : decode cX3_choose 71 = .ok (.getfield 39, 3) := by decide +kernel
theorem dX3_choose_74 : decode cX3_choose 74 = .ok (.bipush (-6), 2) := by decide +kernel
theorem dX3_choose_76 : decode cX3_choose 76 = .ok (.if_icmp .eq 12, 3) := by decide +kernel
theorem dX3_choose_79 : decode cX3_choose 79 = .ok (.iload 7, 2) := by decide +kernel
theorem dX3_choose_81 : decode cX3_choose 81 = .ok (.aload_n 0, 1) := by decide +kernel
theorem dX3_choose_82 : decode cX3_choose 82 = .ok (.getfield 36, 3) := by decide +kernel
theorem dX3_choose_85 : decode cX3_choose 85 = .ok (.if_icmp .le 15, 3) := by decide +kernel
theorem dX3_choose_88 : decode cX3_choose 88 = .ok (.aload_n 0, 1) := by decide +kernel
theorem dX3_choose_89 : decode cX3_choose 89 = .ok (.iload 7, 2) := by decide +kernel
theorem dX3_choose_91 : decode cX3_choose 91 = .ok (.putfield 36, 3) := by decide +kernel
theorem dX3_choose_94 : decode cX3_choose 94 = .ok (.aload_n 0, 1) := by decide +kernel
theorem dX3_choose_95 : decode cX3_choose 95 = .ok (.iload 5, 2) := by decide +kernel
theorem dX3_choose_97 : decode cX3_choose 97 = .ok (.putfield 39, 3) := by decide +kernel
theorem dX3_choose_100 : decode cX3_choose 100 = .ok (.iinc 5 1, 3) := by decide +kernel
theorem dX3_choose_103 : decode cX3_choose 103 = .ok (.goto (-89), 3) := by decide +kernel
theorem dX3_choose_106 : decode cX3_choose 106 = .ok (.return_, 1) := by decide +kernel
theorem dX3_findMix_0 : decode cX3_findMix 0 = .ok (.aload_n 0, 1) := by decide +kernel
theorem dX3_findMix_1 : decode cX3_findMix 1 = .ok (.iload_n 1, 1) := by decide +kernel
theorem dX3_findMix_2 : decode cX3_findMix 2 = .ok (.iconst 1, 1) := by decide +kernel
theorem dX3_findMix_3 : decode cX3_findMix 3 = .ok (.iadd, 1) := by decide +kernel
theorem dX3_findMix_4 : decode cX3_findMix 4 = .ok (.putfield 45, 3) := by decide +kernel
theorem dX3_findMix_7 : decode cX3_findMix 7 = .ok (.iconst 0, 1) := by decide +kernel
theorem dX3_findMix_8 : decode cX3_findMix 8 = .ok (.istore_n 2, 1) := by decide +kernel
theorem dX3_findMix_9 : decode cX3_findMix 9 = .ok (.iload_n 2, 1) := by decide +kernel
theorem dX3_findMix_10 : decode cX3_findMix 10 = .ok (.iload_n 1, 1) := by decide +kernel
theorem dX3_findMix_11 : decode cX3_findMix 11 = .ok (.if_icmp .gt 59, 3) := by decide +kernel
theorem dX3_findMix_14 : decode cX3_findMix 14 = .ok (.iconst 0, 1) := by decide +kernel
theorem dX3_findMix_15 : decode cX3_findMix 15 = .ok (.istore_n 3, 1) := by decide +kernel
theorem dX3_findMix_16 : decode cX3_findMix 16 = .ok (.iload_n 3, 1) := by decide +kernel
theorem dX3_findMix_17 : decode cX3_findMix 17 = .ok (.iload_n 1, 1) := by decide +kernel
theorem dX3_findMix_18 : decode cX3_findMix 18 = .ok (.iload_n 2, 1) := by decide +kernel
theorem dX3_findMix_19 : decode cX3_findMix 19 = .ok (.isub, 1) := by decide +kernel
theorem dX3_findMix_20 : decode cX3_findMix 20 = .ok (.if_icmp .gt 44, 3) := by decide +kernel
theorem dX3_findMix_23 : decode cX3_findMix 23 = .ok (.iconst 0, 1) := by decide +kernel
theorem dX3_findMix_24 : decode cX3_findMix 24 = .ok (.istore 4, 2) := by decide +kernel
theorem dX3_findMix_26 : decode cX3_findMix 26 = .ok (.iload 4, 2) := by decide +kernel
theorem dX3_findMix_28 : decode cX3_findMix 28 = .ok (.iload_n 1, 1) := by decide +kernel
theorem dX3_findMix_29 : decode cX3_findMix 29 = .ok (.iload_n 2, 1) := by decide +kernel
theorem dX3_findMix_30 : decode cX3_findMix 30 = .ok (.isub, 1) := by decide +kernel
theorem dX3_findMix_31 : decode cX3_findMix 31 = .ok (.iload_n 3, 1) := by decide +kernel
theorem dX3_findMix_32 : decode cX3_findMix 32 = .ok (.isub, 1) := by decide +kernel
theorem dX3_findMix_33 : decode cX3_findMix 33 = .ok (.if_icmp .gt 25, 3) := by decide +kernel
theorem dX3_findMix_36 : decode cX3_findMix 36 = .ok (.aload_n 0, 1) := by decide +kernel
theorem dX3_findMix_37 : decode cX3_findMix 37 = .ok (.iload_n 2, 1) := by decide +kernel
theorem dX3_findMix_38 : decode cX3_findMix 38 = .ok (.iload_n 3, 1) := by decide +kernel
theorem dX3_findMix_39 : decode cX3_findMix 39 = .ok (.iload 4, 2) := by decide +kernel
theorem dX3_findMix_41 : decode cX3_findMix 41 = .ok (.iload_n 1, 1) := by decide +kernel
theorem dX3_findMix_42 : decode cX3_findMix 42 = .ok (.iload_n 2, 1) := by decide +kernel
theorem dX3_findMix_43 : decode cX3_findMix 43 = .ok (.isub, 1) := by decide +kernel
theorem dX3_findMix_44 : decode cX3_findMix 44 = .ok (.iload_n 3, 1) := by decide +kernel
theorem dX3_findMix_45 : decode cX3_findMix 45 = .ok (.isub, 1) := by decide +kernel
theorem dX3_findMix_46 : decode cX3_findMix 46 = .ok (.iload 4, 2) := by decide +kernel
theorem dX3_findMix_48 : decode cX3_findMix 48 = .ok (.isub, 1) := by decide +kernel
theorem dX3_findMix_49 : decode cX3_findMix 49 = .ok (.invokevirtual 68, 3) := by decide +kernel
theorem dX3_findMix_52 : decode cX3_findMix 52 = .ok (.iinc 4 1, 3) := by decide +kernel
theorem dX3_findMix_55 : decode cX3_findMix 55 = .ok (.goto (-29), 3) := by decide +kernel
theorem dX3_findMix_58 : decode cX3_findMix 58 = .ok (.iinc 3 1, 3) := by decide +kernel
theorem dX3_findMix_61 : decode cX3_findMix 61 = .ok (.goto (-45), 3) := by decide +kernel
theorem dX3_findMix_64 : decode cX3_findMix 64 = .ok (.iinc 2 1, 3) := by decide +kernel
theorem dX3_findMix_67 : decode cX3_findMix 67 = .ok (.goto (-58), 3) := by decide +kernel
theorem dX3_findMix_70 : decode cX3_findMix 70 = .ok (.return_, 1) := by decide +kernel
theorem dX3_considerMix_0 : decode cX3_considerMix 0 = .ok (.aload_n 0, 1) := by decide +kernel
theorem dX3_considerMix_1 : decode cX3_considerMix 1 = .ok (.iload_n 1, 1) := by decide +kernel
theorem dX3_considerMix_2 : decode cX3_considerMix 2 = .ok (.iload_n 2, 1) := by decide +kernel
theorem dX3_considerMix_3 : decode cX3_considerMix 3 = .ok (.iload_n 3, 1) := by decide +kernel
theorem dX3_considerMix_4 : decode cX3_considerMix 4 = .ok (.iload 4, 2) := by decide +kernel
theorem dX3_considerMix_6 : decode cX3_considerMix 6 = .ok (.invokevirtual 72, 3) := by decide +kernel
theorem dX3_considerMix_9 : decode cX3_considerMix 9 = .ok (.aload_n 0, 1) := by decide +kernel
theorem dX3_considerMix_10 : decode cX3_considerMix 10 = .ok (.getfield 36, 3) := by decide +kernel
theorem dX3_considerMix_13 : decode cX3_considerMix 13 = .ok (.aload_n 0, 1) := by decide +kernel
theorem dX3_considerMix_14 : decode cX3_considerMix 14 = .ok (.getfield 45, 3) := by decide +kernel
theorem dX3_considerMix_17 : decode cX3_considerMix 17 = .ok (.if_icmp .ge 40, 3) := by decide +kernel
theorem dX3_considerMix_20 : decode cX3_considerMix 20 = .ok (.aload_n 0, 1) := by decide +kernel
theorem dX3_considerMix_21 : decode cX3_considerMix 21 = .ok (.aload_n 0, 1) := by decide +kernel
theorem dX3_considerMix_22 : decode cX3_considerMix 22 = .ok (.getfield 36, 3) := by decide +kernel
theorem dX3_considerMix_25 : decode cX3_considerMix 25 = .ok (.putfield 45, 3) := by decide +kernel
theorem dX3_considerMix_28 : decode cX3_considerMix 28 = .ok (.aload_n 0, 1) := by decide +kernel
theorem dX3_considerMix_29 : decode cX3_considerMix 29 = .ok (.getfield 42, 3) := by decide +kernel
theorem dX3_considerMix_32 : decode cX3_considerMix 32 = .ok (.iconst 0, 1) := by decide +kernel
theorem dX3_considerMix_33 : decode cX3_considerMix 33 = .ok (.iload_n 1, 1) := by decide +kernel
theorem dX3_considerMix_34 : decode cX3_considerMix 34 = .ok (.iastore, 1) := by decide +kernel
theorem dX3_considerMix_35 : decode cX3_considerMix 35 = .ok (.aload_n 0, 1) := by decide +kernel
theorem dX3_considerMix_36 : decode cX3_considerMix 36 = .ok (.getfield 42, 3) := by decide +kernel
theorem dX3_considerMix_39 : decode cX3_considerMix 39 = .ok (.iconst 1, 1) := by decide +kernel
theorem dX3_considerMix_40 : decode cX3_considerMix 40 = .ok (.iload_n 2, 1) := by decide +kernel
theorem dX3_considerMix_41 : decode cX3_considerMix 41 = .ok (.iastore, 1) := by decide +kernel
theorem dX3_considerMix_42 : decode cX3_considerMix 42 = .ok (.aload_n 0, 1) := by decide +kernel
theorem dX3_considerMix_43 : decode cX3_considerMix 43 = .ok (.getfield 42, 3) := by decide +kernel
theorem dX3_considerMix_46 : decode cX3_considerMix 46 = .ok (.iconst 2, 1) := by decide +kernel
theorem dX3_considerMix_47 : decode cX3_considerMix 47 = .ok (.iload_n 3, 1) := by decide +kernel
theorem dX3_considerMix_48 : decode cX3_considerMix 48 = .ok (.iastore, 1) := by decide +kernel
theorem dX3_considerMix_49 : decode cX3_considerMix 49 = .ok (.aload_n 0, 1) := by decide +kernel
theorem dX3_considerMix_50 : decode cX3_considerMix 50 = .ok (.getfield 42, 3) := by decide +kernel
theorem dX3_considerMix_53 : decode cX3_considerMix 53 = .ok (.iconst 3, 1) := by decide +kernel
theorem dX3_considerMix_54 : decode cX3_considerMix 54 = .ok (.iload 4, 2) := by decide +kernel
theorem dX3_considerMix_56 : decode cX3_considerMix 56 = .ok (.iastore, 1) := by decide +kernel
theorem dX3_considerMix_57 : decode cX3_considerMix 57 = .ok (.return_, 1) := by decide +kernel
theorem dX5_init_0 : decode cX5_init 0 = .ok (.aload_n 0, 1) := by decide +kernel
theorem dX5_init_1 : decode cX5_init 1 = .ok (.invokespecial 3, 3) := by decide +kernel
theorem dX5_init_4 : decode cX5_init 4 = .ok (.aload_n 0, 1) := by decide +kernel
theorem dX5_init_5 : decode cX5_init 5 = .ok (.bipush 12, 2) := by decide +kernel
theorem dX5_init_7 : decode cX5_init 7 = .ok (.newarray .int, 2) := by decide +kernel
theorem dX5_init_9 : decode cX5_init 9 = .ok (.putfield 9, 3) := by decide +kernel
theorem dX5_init_12 : decode cX5_init 12 = .ok (.aload_n 0, 1) := by decide +kernel
theorem dX5_init_13 : decode cX5_init 13 = .ok (.bipush 12, 2) := by decide +kernel
theorem dX5_init_15 : decode cX5_init 15 = .ok (.newarray .int, 2) := by decide +kernel
theorem dX5_init_17 : decode cX5_init 17 = .ok (.putfield 15, 3) := by decide +kernel
theorem dX5_init_20 : decode cX5_init 20 = .ok (.aload_n 0, 1) := by decide +kernel
theorem dX5_init_21 : decode cX5_init 21 = .ok (.iconst 0, 1) := by decide +kernel
theorem dX5_init_22 : decode cX5_init 22 = .ok (.putfield 18, 3) := by decide +kernel
theorem dX5_init_25 : decode cX5_init 25 = .ok (.return_, 1) := by decide +kernel
theorem dX5_turnsAt_0 : decode cX5_turnsAt 0 = .ok (.iconst 0, 1) := by decide +kernel
theorem dX5_turnsAt_1 : decode cX5_turnsAt 1 = .ok (.istore_n 2, 1) := by decide +kernel
theorem dX5_turnsAt_2 : decode cX5_turnsAt 2 = .ok (.iload_n 2, 1) := by decide +kernel
theorem dX5_turnsAt_3 : decode cX5_turnsAt 3 = .ok (.aload_n 0, 1) := by decide +kernel
theorem dX5_turnsAt_4 : decode cX5_turnsAt 4 = .ok (.getfield 18, 3) := by decide +kernel
theorem dX5_turnsAt_7 : decode cX5_turnsAt 7 = .ok (.if_icmp .ge 21, 3) := by decide +kernel
theorem dX5_turnsAt_10 : decode cX5_turnsAt 10 = .ok (.aload_n 0, 1) := by decide +kernel
theorem dX5_turnsAt_11 : decode cX5_turnsAt 11 = .ok (.getfield 9, 3) := by decide +kernel
theorem dX5_turnsAt_14 : decode cX5_turnsAt 14 = .ok (.iload_n 2, 1) := by decide +kernel
theorem dX5_turnsAt_15 : decode cX5_turnsAt 15 = .ok (.iaload, 1) := by decide +kernel
theorem dX5_turnsAt_16 : decode cX5_turnsAt 16 = .ok (.iload_n 1, 1) := by decide +kernel
theorem dX5_turnsAt_17 : decode cX5_turnsAt 17 = .ok (.if_icmp .ne 5, 3) := by decide +kernel
theorem dX5_turnsAt_20 : decode cX5_turnsAt 20 = .ok (.iconst 1, 1) := by decide +kernel
theorem dX5_turnsAt_21 : decode cX5_turnsAt 21 = .ok (.ireturn, 1) := by decide +kernel
theorem dX5_turnsAt_22 : decode cX5_turnsAt 22 = .ok (.iinc 2 1, 3) := by decide +kernel
theorem dX5_turnsAt_25 : decode cX5_turnsAt 25 = .ok (.goto (-23), 3) := by decide +kernel
theorem dX5_turnsAt_28 : decode cX5_turnsAt 28 = .ok (.iconst 0, 1) := by decide +kernel
theorem dX5_turnsAt_29 : decode cX5_turnsAt 29 = .ok (.ireturn, 1) := by decide +kernel
theorem dX5_insert_0 : decode cX5_insert 0 = .ok (.aload_n 0, 1) := by decide +kernel
theorem dX5_insert_1 : decode cX5_insert 1 = .ok (.getfield 18, 3) := by decide +kernel
theorem dX5_insert_4 : decode cX5_insert 4 = .ok (.istore_n 3, 1) := by decide +kernel
theorem dX5_insert_5 : decode cX5_insert 5 = .ok (.iload_n 3, 1) := by decide +kernel
theorem dX5_insert_6 : decode cX5_insert 6 = .ok (.ifCond .le 49, 3) := by decide +kernel
theorem dX5_insert_9 : decode cX5_insert 9 = .ok (.aload_n 0, 1) := by decide +kernel
theorem dX5_insert_10 : decode cX5_insert 10 = .ok (.getfield 9, 3) := by decide +kernel
theorem dX5_insert_13 : decode cX5_insert 13 = .ok (.iload_n 3, 1) := by decide +kernel
theorem dX5_insert_14 : decode cX5_insert 14 = .ok (.iconst 1, 1) := by decide +kernel
theorem dX5_insert_15 : decode cX5_insert 15 = .ok (.isub, 1) := by decide +kernel
theorem dX5_insert_16 : decode cX5_insert 16 = .ok (.iaload, 1) := by decide +kernel
theorem dX5_insert_17 : decode cX5_insert 17 = .ok (.iload_n 1, 1) := by decide +kernel
theorem dX5_insert_18 : decode cX5_insert 18 = .ok (.if_icmp .le 37, 3) := by decide +kernel
theorem dX5_insert_21 : decode cX5_insert 21 = .ok (.aload_n 0, 1) := by decide +kernel
theorem dX5_insert_22 : decode cX5_insert 22 = .ok (.getfield 9, 3) := by decide +kernel
theorem dX5_insert_25 : decode cX5_insert 25 = .ok (.iload_n 3, 1) := by decide +kernel
theorem dX5_insert_26 : decode cX5_insert 26 = .ok (.aload_n 0, 1) := by decide +kernel
theorem dX5_insert_27 : decode cX5_insert 27 = .ok (.getfield 9, 3) := by decide +kernel
theorem dX5_insert_30 : decode cX5_insert 30 = .ok (.iload_n 3, 1) := by decide +kernel
theorem dX5_insert_31 : decode cX5_insert 31 = .ok (.iconst 1, 1) := by decide +kernel
theorem dX5_insert_32 : decode cX5_insert 32 = .ok (.isub, 1) := by decide +kernel
theorem dX5_insert_33 : decode cX5_insert 33 = .ok (.iaload, 1) := by decide +kernel
theorem dX5_insert_34 : decode cX5_insert 34 = .ok (.iastore, 1) := by decide +kernel
theorem dX5_insert_35 : decode cX5_insert 35 = .ok (.aload_n 0, 1) := by decide +kernel
theorem dX5_insert_36 : decode cX5_insert 36 = .ok (.getfield 15, 3) := by decide +kernel
theorem dX5_insert_39 : decode cX5_insert 39 = .ok (.iload_n 3, 1) := by decide +kernel
theorem dX5_insert_40 : decode cX5_insert 40 = .ok (.aload_n 0, 1) := by decide +kernel
theorem dX5_insert_41 : decode cX5_insert 41 = .ok (.getfield 15, 3) := by decide +kernel
theorem dX5_insert_44 : decode cX5_insert 44 = .ok (.iload_n 3, 1) := by decide +kernel
theorem dX5_insert_45 : decode cX5_insert 45 = .ok (.iconst 1, 1) := by decide +kernel
theorem dX5_insert_46 : decode cX5_insert 46 = .ok (.isub, 1) := by decide +kernel
theorem dX5_insert_47 : decode cX5_insert 47 = .ok (.iaload, 1) := by decide +kernel
theorem dX5_insert_48 : decode cX5_insert 48 = .ok (.iastore, 1) := by decide +kernel
theorem dX5_insert_49 : decode cX5_insert 49 = .ok (.iinc 3 (-1), 3) := by decide +kernel
theorem dX5_insert_52 : decode cX5_insert 52 = .ok (.goto (-47), 3) := by decide +kernel
theorem dX5_insert_55 : decode cX5_insert 55 = .ok (.aload_n 0, 1) := by decide +kernel
theorem dX5_insert_56 : decode cX5_insert 56 = .ok (.getfield 9, 3) := by decide +kernel
theorem dX5_insert_59 : decode cX5_insert 59 = .ok (.iload_n 3, 1) := by decide +kernel
theorem dX5_insert_60 : decode cX5_insert 60 = .ok (.iload_n 1, 1) := by decide +kernel
theorem dX5_insert_61 : decode cX5_insert 61 = .ok (.iastore, 1) := by decide +kernel
theorem dX5_insert_62 : decode cX5_insert 62 = .ok (.aload_n 0, 1) := by decide +kernel
theorem dX5_insert_63 : decode cX5_insert 63 = .ok (.getfield 15, 3) := by decide +kernel
theorem dX5_insert_66 : decode cX5_insert 66 = .ok (.iload_n 3, 1) := by decide +kernel
theorem dX5_insert_67 : decode cX5_insert 67 = .ok (.iload_n 2, 1) := by decide +kernel
theorem dX5_insert_68 : decode cX5_insert 68 = .ok (.iastore, 1) := by decide +kernel
theorem dX5_insert_69 : decode cX5_insert 69 = .ok (.aload_n 0, 1) := by decide +kernel
theorem dX5_insert_70 : decode cX5_insert 70 = .ok (.dup, 1) := by decide +kernel
theorem dX5_insert_71 : decode cX5_insert 71 = .ok (.getfield 18, 3) := by decide +kernel
theorem dX5_insert_74 : decode cX5_insert 74 = .ok (.iconst 1, 1) := by decide +kernel
theorem dX5_insert_75 : decode cX5_insert 75 = .ok (.iadd, 1) := by decide +kernel
theorem dX5_insert_76 : decode cX5_insert 76 = .ok (.putfield 18, 3) := by decide +kernel
theorem dX5_insert_79 : decode cX5_insert 79 = .ok (.return_, 1) := by decide +kernel
theorem dX5_heading_0 : decode cX5_heading 0 = .ok (.iconst 0, 1) := by decide +kernel
theorem dX5_heading_1 : decode cX5_heading 1 = .ok (.istore_n 3, 1) := by decide +kernel
theorem dX5_heading_2 : decode cX5_heading 2 = .ok (.iconst 0, 1) := by decide +kernel
theorem dX5_heading_3 : decode cX5_heading 3 = .ok (.istore 4, 2) := by decide +kernel
theorem dX5_heading_5 : decode cX5_heading 5 = .ok (.iload 4, 2) := by decide +kernel
theorem dX5_heading_7 : decode cX5_heading 7 = .ok (.aload_n 0, 1) := by decide +kernel
theorem dX5_heading_8 : decode cX5_heading 8 = .ok (.getfield 18, 3) := by decide +kernel
theorem dX5_heading_11 : decode cX5_heading 11 = .ok (.if_icmp .ge 37, 3) := by decide +kernel
theorem dX5_heading_14 : decode cX5_heading 14 = .ok (.aload_n 0, 1) := by decide +kernel
theorem dX5_heading_15 : decode cX5_heading 15 = .ok (.getfield 9, 3) := by decide +kernel
theorem dX5_heading_18 : decode cX5_heading 18 = .ok (.iload 4, 2) := by decide +kernel
theorem dX5_heading_20 : decode cX5_heading 20 = .ok (.iaload, 1) := by decide +kernel
theorem dX5_heading_21 : decode cX5_heading 21 = .ok (.iload_n 1, 1) := by decide +kernel
theorem dX5_heading_22 : decode cX5_heading 22 = .ok (.if_icmp .gt 26, 3) := by decide +kernel
theorem dX5_heading_25 : decode cX5_heading 25 = .ok (.iload_n 2, 1) := by decide +kernel
theorem dX5_heading_26 : decode cX5_heading 26 = .ok (.iload 4, 2) := by decide +kernel
theorem dX5_heading_28 : decode cX5_heading 28 = .ok (.ishr, 1) := by decide +kernel
theorem dX5_heading_29 : decode cX5_heading 29 = .ok (.iconst 1, 1) := by decide +kernel
theorem dX5_heading_30 : decode cX5_heading 30 = .ok (.iand, 1) := by decide +kernel
theorem dX5_heading_31 : decode cX5_heading 31 = .ok (.ifCond .ne 11, 3) := by decide +kernel
theorem dX5_heading_34 : decode cX5_heading 34 = .ok (.aload_n 0, 1) := by decide +kernel
theorem dX5_heading_35 : decode cX5_heading 35 = .ok (.getfield 15, 3) := by decide +kernel
theorem dX5_heading_38 : decode cX5_heading 38 = .ok (.iload 4, 2) := by decide +kernel
theorem dX5_heading_40 : decode cX5_heading 40 = .ok (.iaload, 1) := by decide +kernel
theorem dX5_heading_41 : decode cX5_heading 41 = .ok (.istore_n 3, 1) := by decide +kernel
theorem dX5_heading_42 : decode cX5_heading 42 = .ok (.iinc 4 1, 3) := by decide +kernel
theorem dX5_heading_45 : decode cX5_heading 45 = .ok (.goto (-40), 3) := by decide +kernel
theorem dX5_heading_48 : decode cX5_heading 48 = .ok (.iload_n 3, 1) := by decide +kernel
theorem dX5_heading_49 : decode cX5_heading 49 = .ok (.ireturn, 1) := by decide +kernel
theorem dX5_legEnd_0 : decode cX5_legEnd 0 = .ok (.iload_n 1, 1) := by decide +kernel
theorem dX5_legEnd_1 : decode cX5_legEnd 1 = .ok (.iconst 1, 1) := by decide +kernel
theorem dX5_legEnd_2 : decode cX5_legEnd 2 = .ok (.iadd, 1) := by decide +kernel
theorem dX5_legEnd_3 : decode cX5_legEnd 3 = .ok (.aload_n 0, 1) := by decide +kernel
theorem dX5_legEnd_4 : decode cX5_legEnd 4 = .ok (.getfield 18, 3) := by decide +kernel
theorem dX5_legEnd_7 : decode cX5_legEnd 7 = .ok (.if_icmp .ge 14, 3) := by decide +kernel
theorem dX5_legEnd_10 : decode cX5_legEnd 10 = .ok (.aload_n 0, 1) := by decide +kernel
theorem dX5_legEnd_11 : decode cX5_legEnd 11 = .ok (.getfield 9, 3) := by decide +kernel
theorem dX5_legEnd_14 : decode cX5_legEnd 14 = .ok (.iload_n 1, 1) := by decide +kernel
theorem dX5_legEnd_15 : decode cX5_legEnd 15 = .ok (.iconst 1, 1) := by decide +kernel
theorem dX5_legEnd_16 : decode cX5_legEnd 16 = .ok (.iadd, 1) := by decide +kernel
theorem dX5_legEnd_17 : decode cX5_legEnd 17 = .ok (.iaload, 1) := by decide +kernel
theorem dX5_legEnd_18 : decode cX5_legEnd 18 = .ok (.goto 5, 3) := by decide +kernel
theorem dX5_legEnd_21 : decode cX5_legEnd 21 = .ok (.bipush 60, 2) := by decide +kernel
theorem dX5_legEnd_23 : decode cX5_legEnd 23 = .ok (.ireturn, 1) := by decide +kernel
theorem dX5_courseAhead_0 : decode cX5_courseAhead 0 = .ok (.iload_n 1, 1) := by decide +kernel
theorem dX5_courseAhead_1 : decode cX5_courseAhead 1 = .ok (.ifCond .le 14, 3) := by decide +kernel
theorem dX5_courseAhead_4 : decode cX5_courseAhead 4 = .ok (.aload_n 0, 1) := by decide +kernel
theorem dX5_courseAhead_5 : decode cX5_courseAhead 5 = .ok (.getfield 15, 3) := by decide +kernel
theorem dX5_courseAhead_8 : decode cX5_courseAhead 8 = .ok (.iload_n 1, 1) := by decide +kernel
theorem dX5_courseAhead_9 : decode cX5_courseAhead 9 = .ok (.iconst 1, 1) := by decide +kernel
theorem dX5_courseAhead_10 : decode cX5_courseAhead 10 = .ok (.isub, 1) := by decide +kernel
theorem dX5_courseAhead_11 : decode cX5_courseAhead 11 = .ok (.iaload, 1) := by decide +kernel
theorem dX5_courseAhead_12 : decode cX5_courseAhead 12 = .ok (.goto 4, 3) := by decide +kernel
theorem dX5_courseAhead_15 : decode cX5_courseAhead 15 = .ok (.iconst 0, 1) := by decide +kernel
theorem dX5_courseAhead_16 : decode cX5_courseAhead 16 = .ok (.ireturn, 1) := by decide +kernel
theorem dX5_gain_0 : decode cX5_gain 0 = .ok (.iconst 0, 1) := by decide +kernel
theorem dX5_gain_1 : decode cX5_gain 1 = .ok (.iload_n 2, 1) := by decide +kernel
theorem dX5_gain_2 : decode cX5_gain 2 = .ok (.invokestatic 22, 3) := by decide +kernel
theorem dX5_gain_5 : decode cX5_gain 5 = .ok (.istore_n 3, 1) := by decide +kernel
theorem dX5_gain_6 : decode cX5_gain 6 = .ok (.iload_n 3, 1) := by decide +kernel
theorem dX5_gain_7 : decode cX5_gain 7 = .ok (.i2l, 1) := by decide +kernel
theorem dX5_gain_8 : decode cX5_gain 8 = .ok (.iload_n 1, 1) := by decide +kernel
theorem dX5_gain_9 : decode cX5_gain 9 = .ok (.i2l, 1) := by decide +kernel
theorem dX5_gain_10 : decode cX5_gain 10 = .ok (.lmul, 1) := by decide +kernel
theorem dX5_gain_11 : decode cX5_gain 11 = .ok (.lstore 4, 2) := by decide +kernel
theorem dX5_gain_13 : decode cX5_gain 13 = .ok (.iconst 0, 1) := by decide +kernel
theorem dX5_gain_14 : decode cX5_gain 14 = .ok (.istore 6, 2) := by decide +kernel
theorem dX5_gain_16 : decode cX5_gain 16 = .ok (.iload 6, 2) := by decide +kernel
theorem dX5_gain_18 : decode cX5_gain 18 = .ok (.aload_n 0, 1) := by decide +kernel
theorem dX5_gain_19 : decode cX5_gain 19 = .ok (.getfield 18, 3) := by decide +kernel
theorem dX5_gain_22 : decode cX5_gain 22 = .ok (.if_icmp .ge 85, 3) := by decide +kernel
theorem dX5_gain_25 : decode cX5_gain 25 = .ok (.aload_n 0, 1) := by decide +kernel
theorem dX5_gain_26 : decode cX5_gain 26 = .ok (.iload 6, 2) := by decide +kernel
theorem dX5_gain_28 : decode cX5_gain 28 = .ok (.invokevirtual 26, 3) := by decide +kernel
theorem dX5_gain_31 : decode cX5_gain 31 = .ok (.aload_n 0, 1) := by decide +kernel
theorem dX5_gain_32 : decode cX5_gain 32 = .ok (.getfield 9, 3) := by decide +kernel
theorem dX5_gain_35 : decode cX5_gain 35 = .ok (.iload 6, 2) := by decide +kernel
theorem dX5_gain_37 : decode cX5_gain 37 = .ok (.iaload, 1) := by decide +kernel
theorem dX5_gain_38 : decode cX5_gain 38 = .ok (.isub, 1) := by decide +kernel
theorem dX5_gain_39 : decode cX5_gain 39 = .ok (.istore 7, 2) := by decide +kernel
theorem dX5_gain_41 : decode cX5_gain 41 = .ok (.iconst 0, 1) := by decide +kernel
theorem dX5_gain_42 : decode cX5_gain 42 = .ok (.iload_n 1, 1) := by decide +kernel
theorem dX5_gain_43 : decode cX5_gain 43 = .ok (.bipush 60, 2) := by decide +kernel
theorem dX5_gain_45 : decode cX5_gain 45 = .ok (.irem, 1) := by decide +kernel
theorem dX5_gain_46 : decode cX5_gain 46 = .ok (.aload_n 0, 1) := by decide +kernel
theorem dX5_gain_47 : decode cX5_gain 47 = .ok (.getfield 9, 3) := by decide +kernel
theorem dX5_gain_50 : decode cX5_gain 50 = .ok (.iload 6, 2) := by decide +kernel
theorem dX5_gain_52 : decode cX5_gain 52 = .ok (.iaload, 1) := by decide +kernel
theorem dX5_gain_53 : decode cX5_gain 53 = .ok (.isub, 1) := by decide +kernel
theorem dX5_gain_54 : decode cX5_gain 54 = .ok (.iload 7, 2) := by decide +kernel
theorem dX5_gain_56 : decode cX5_gain 56 = .ok (.invokestatic 30, 3) := by decide +kernel
theorem dX5_gain_59 : decode cX5_gain 59 = .ok (.invokestatic 35, 3) := by decide +kernel
theorem dX5_gain_62 : decode cX5_gain 62 = .ok (.istore 8, 2) := by decide +kernel
theorem dX5_gain_64 : decode cX5_gain 64 = .ok (.iload_n 1, 1) := by decide +kernel
theorem dX5_gain_65 : decode cX5_gain 65 = .ok (.bipush 60, 2) := by decide +kernel
theorem dX5_gain_67 : decode cX5_gain 67 = .ok (.idiv, 1) := by decide +kernel
theorem dX5_gain_68 : decode cX5_gain 68 = .ok (.i2l, 1) := by decide +kernel
theorem dX5_gain_69 : decode cX5_gain 69 = .ok (.iload 7, 2) := by decide +kernel
theorem dX5_gain_71 : decode cX5_gain 71 = .ok (.i2l, 1) := by decide +kernel
theorem dX5_gain_72 : decode cX5_gain 72 = .ok (.lmul, 1) := by decide +kernel
theorem dX5_gain_73 : decode cX5_gain 73 = .ok (.iload 8, 2) := by decide +kernel
theorem dX5_gain_75 : decode cX5_gain 75 = .ok (.i2l, 1) := by decide +kernel
theorem dX5_gain_76 : decode cX5_gain 76 = .ok (.ladd, 1) := by decide +kernel
theorem dX5_gain_77 : decode cX5_gain 77 = .ok (.lstore 9, 2) := by decide +kernel
theorem dX5_gain_79 : decode cX5_gain 79 = .ok (.lload 4, 2) := by decide +kernel
theorem dX5_gain_81 : decode cX5_gain 81 = .ok (.lload 9, 2) := by decide +kernel
theorem dX5_gain_83 : decode cX5_gain 83 = .ok (.aload_n 0, 1) := by decide +kernel
theorem dX5_gain_84 : decode cX5_gain 84 = .ok (.getfield 15, 3) := by decide +kernel
theorem dX5_gain_87 : decode cX5_gain 87 = .ok (.iload 6, 2) := by decide +kernel
theorem dX5_gain_89 : decode cX5_gain 89 = .ok (.iaload, 1) := by decide +kernel
theorem dX5_gain_90 : decode cX5_gain 90 = .ok (.iload_n 2, 1) := by decide +kernel
theorem dX5_gain_91 : decode cX5_gain 91 = .ok (.invokestatic 22, 3) := by decide +kernel
theorem dX5_gain_94 : decode cX5_gain 94 = .ok (.iload_n 3, 1) := by decide +kernel
theorem dX5_gain_95 : decode cX5_gain 95 = .ok (.isub, 1) := by decide +kernel
theorem dX5_gain_96 : decode cX5_gain 96 = .ok (.i2l, 1) := by decide +kernel
theorem dX5_gain_97 : decode cX5_gain 97 = .ok (.lmul, 1) := by decide +kernel
theorem dX5_gain_98 : decode cX5_gain 98 = .ok (.ladd, 1) := by decide +kernel
theorem dX5_gain_99 : decode cX5_gain 99 = .ok (.lstore 4, 2) := by decide +kernel
theorem dX5_gain_101 : decode cX5_gain 101 = .ok (.iinc 6 1, 3) := by decide +kernel
theorem dX5_gain_104 : decode cX5_gain 104 = .ok (.goto (-88), 3) := by decide +kernel
theorem dX5_gain_107 : decode cX5_gain 107 = .ok (.lload 4, 2) := by decide +kernel
theorem dX5_gain_109 : decode cX5_gain 109 = .ok (.lreturn, 1) := by decide +kernel
theorem dX6_init_0 : decode cX6_init 0 = .ok (.aload_n 0, 1) := by decide +kernel
theorem dX6_init_1 : decode cX6_init 1 = .ok (.invokespecial 3, 3) := by decide +kernel
theorem dX6_init_4 : decode cX6_init 4 = .ok (.aload_n 0, 1) := by decide +kernel
theorem dX6_init_5 : decode cX6_init 5 = .ok (.bipush 10, 2) := by decide +kernel
theorem dX6_init_7 : decode cX6_init 7 = .ok (.newarray .int, 2) := by decide +kernel
theorem dX6_init_9 : decode cX6_init 9 = .ok (.putfield 9, 3) := by decide +kernel
theorem dX6_init_12 : decode cX6_init 12 = .ok (.aload_n 0, 1) := by decide +kernel
theorem dX6_init_13 : decode cX6_init 13 = .ok (.bipush 10, 2) := by decide +kernel
theorem dX6_init_15 : decode cX6_init 15 = .ok (.newarray .int, 2) := by decide +kernel
theorem dX6_init_17 : decode cX6_init 17 = .ok (.putfield 15, 3) := by decide +kernel
theorem dX6_init_20 : decode cX6_init 20 = .ok (.aload_n 0, 1) := by decide +kernel
theorem dX6_init_21 : decode cX6_init 21 = .ok (.bipush 10, 2) := by decide +kernel
theorem dX6_init_23 : decode cX6_init 23 = .ok (.newarray .int, 2) := by decide +kernel
theorem dX6_init_25 : decode cX6_init 25 = .ok (.putfield 18, 3) := by decide +kernel
theorem dX6_init_28 : decode cX6_init 28 = .ok (.aload_n 0, 1) := by decide +kernel
theorem dX6_init_29 : decode cX6_init 29 = .ok (.iconst 0, 1) := by decide +kernel
theorem dX6_init_30 : decode cX6_init 30 = .ok (.putfield 21, 3) := by decide +kernel
theorem dX6_init_33 : decode cX6_init 33 = .ok (.aload_n 0, 1) := by decide +kernel
theorem dX6_init_34 : decode cX6_init 34 = .ok (.sipush 400, 3) := by decide +kernel
theorem dX6_init_37 : decode cX6_init 37 = .ok (.newarray .int, 2) := by decide +kernel
theorem dX6_init_39 : decode cX6_init 39 = .ok (.putfield 25, 3) := by decide +kernel
theorem dX6_init_42 : decode cX6_init 42 = .ok (.aload_n 0, 1) := by decide +kernel
theorem dX6_init_43 : decode cX6_init 43 = .ok (.iconst 0, 1) := by decide +kernel
theorem dX6_init_44 : decode cX6_init 44 = .ok (.putfield 28, 3) := by decide +kernel
theorem dX6_init_47 : decode cX6_init 47 = .ok (.return_, 1) := by decide +kernel
theorem dX6_add_0 : decode cX6_add 0 = .ok (.aload_n 0, 1) := by decide +kernel
theorem dX6_add_1 : decode cX6_add 1 = .ok (.getfield 9, 3) := by decide +kernel
theorem dX6_add_4 : decode cX6_add 4 = .ok (.aload_n 0, 1) := by decide +kernel
theorem dX6_add_5 : decode cX6_add 5 = .ok (.getfield 21, 3) := by decide +kernel
theorem dX6_add_8 : decode cX6_add 8 = .ok (.iload_n 1, 1) := by decide +kernel
theorem dX6_add_9 : decode cX6_add 9 = .ok (.iastore, 1) := by decide +kernel
theorem dX6_add_10 : decode cX6_add 10 = .ok (.aload_n 0, 1) := by decide +kernel
theorem dX6_add_11 : decode cX6_add 11 = .ok (.getfield 15, 3) := by decide +kernel
theorem dX6_add_14 : decode cX6_add 14 = .ok (.aload_n 0, 1) := by decide +kernel
theorem dX6_add_15 : decode cX6_add 15 = .ok (.getfield 21, 3) := by decide +kernel
theorem dX6_add_18 : decode cX6_add 18 = .ok (.iload_n 2, 1) := by decide +kernel
theorem dX6_add_19 : decode cX6_add 19 = .ok (.iastore, 1) := by decide +kernel
theorem dX6_add_20 : decode cX6_add 20 = .ok (.aload_n 0, 1) := by decide +kernel
theorem dX6_add_21 : decode cX6_add 21 = .ok (.getfield 18, 3) := by decide +kernel
theorem dX6_add_24 : decode cX6_add 24 = .ok (.aload_n 0, 1) := by decide +kernel
theorem dX6_add_25 : decode cX6_add 25 = .ok (.getfield 21, 3) := by decide +kernel
theorem dX6_add_28 : decode cX6_add 28 = .ok (.iload_n 3, 1) := by decide +kernel
theorem dX6_add_29 : decode cX6_add 29 = .ok (.iastore, 1) := by decide +kernel
theorem dX6_add_30 : decode cX6_add 30 = .ok (.aload_n 0, 1) := by decide +kernel
theorem dX6_add_31 : decode cX6_add 31 = .ok (.dup, 1) := by decide +kernel
theorem dX6_add_32 : decode cX6_add 32 = .ok (.getfield 21, 3) := by decide +kernel
theorem dX6_add_35 : decode cX6_add 35 = .ok (.iconst 1, 1) := by decide +kernel
theorem dX6_add_36 : decode cX6_add 36 = .ok (.iadd, 1) := by decide +kernel
theorem dX6_add_37 : decode cX6_add 37 = .ok (.putfield 21, 3) := by decide +kernel
theorem dX6_add_40 : decode cX6_add 40 = .ok (.return_, 1) := by decide +kernel
theorem dX6_watchRing_0 : decode cX6_watchRing 0 = .ok (.aload_n 0, 1) := by decide +kernel
theorem dX6_watchRing_1 : decode cX6_watchRing 1 = .ok (.iconst 0, 1) := by decide +kernel
theorem dX6_watchRing_2 : decode cX6_watchRing 2 = .ok (.putfield 28, 3) := by decide +kernel
theorem dX6_watchRing_5 : decode cX6_watchRing 5 = .ok (.iload_n 1, 1) := by decide +kernel
theorem dX6_watchRing_6 : decode cX6_watchRing 6 = .ok (.ineg, 1) := by decide +kernel
theorem dX6_watchRing_7 : decode cX6_watchRing 7 = .ok (.istore_n 2, 1) := by decide +kernel
theorem dX6_watchRing_8 : decode cX6_watchRing 8 = .ok (.iload_n 2, 1) := by decide +kernel
theorem dX6_watchRing_9 : decode cX6_watchRing 9 = .ok (.iload_n 1, 1) := by decide +kernel
theorem dX6_watchRing_10 : decode cX6_watchRing 10 = .ok (.if_icmp .ge 37, 3) := by decide +kernel
theorem dX6_watchRing_13 : decode cX6_watchRing 13 = .ok (.aload_n 0, 1) := by decide +kernel
theorem dX6_watchRing_14 : decode cX6_watchRing 14 = .ok (.iload_n 2, 1) := by decide +kernel
theorem dX6_watchRing_15 : decode cX6_watchRing 15 = .ok (.iload_n 1, 1) := by decide +kernel
theorem dX6_watchRing_16 : decode cX6_watchRing 16 = .ok (.ineg, 1) := by decide +kernel
theorem dX6_watchRing_17 : decode cX6_watchRing 17 = .ok (.invokevirtual 31, 3) := by decide +kernel
theorem dX6_watchRing_20 : decode cX6_watchRing 20 = .ok (.aload_n 0, 1) := by decide +kernel
theorem dX6_watchRing_21 : decode cX6_watchRing 21 = .ok (.iload_n 1, 1) := by decide +kernel
theorem dX6_watchRing_22 : decode cX6_watchRing 22 = .ok (.iload_n 2, 1) := by decide +kernel
theorem dX6_watchRing_23 : decode cX6_watchRing 23 = .ok (.invokevirtual 31, 3) := by decide +kernel
theorem dX6_watchRing_26 : decode cX6_watchRing 26 = .ok (.aload_n 0, 1) := by decide +kernel
theorem dX6_watchRing_27 : decode cX6_watchRing 27 = .ok (.iload_n 2, 1) := by decide +kernel
theorem dX6_watchRing_28 : decode cX6_watchRing 28 = .ok (.ineg, 1) := by decide +kernel
theorem dX6_watchRing_29 : decode cX6_watchRing 29 = .ok (.iload_n 1, 1) := by decide +kernel
theorem dX6_watchRing_30 : decode cX6_watchRing 30 = .ok (.invokevirtual 31, 3) := by decide +kernel
theorem dX6_watchRing_33 : decode cX6_watchRing 33 = .ok (.aload_n 0, 1) := by decide +kernel
theorem dX6_watchRing_34 : decode cX6_watchRing 34 = .ok (.iload_n 1, 1) := by decide +kernel
theorem dX6_watchRing_35 : decode cX6_watchRing 35 = .ok (.ineg, 1) := by decide +kernel
theorem dX6_watchRing_36 : decode cX6_watchRing 36 = .ok (.iload_n 2, 1) := by decide +kernel
theorem dX6_watchRing_37 : decode cX6_watchRing 37 = .ok (.ineg, 1) := by decide +kernel
theorem dX6_watchRing_38 : decode cX6_watchRing 38 = .ok (.invokevirtual 31, 3) := by decide +kernel
theorem dX6_watchRing_41 : decode cX6_watchRing 41 = .ok (.iinc 2 1, 3) := by decide +kernel
theorem dX6_watchRing_44 : decode cX6_watchRing 44 = .ok (.goto (-36), 3) := by decide +kernel
theorem dX6_watchRing_47 : decode cX6_watchRing 47 = .ok (.return_, 1) := by decide +kernel
theorem dX6_watchPoint_0 : decode cX6_watchPoint 0 = .ok (.iconst 0, 1) := by decide +kernel
theorem dX6_watchPoint_1 : decode cX6_watchPoint 1 = .ok (.istore_n 3, 1) := by decide +kernel
theorem dX6_watchPoint_2 : decode cX6_watchPoint 2 = .ok (.iconst 0, 1) := by decide +kernel
theorem dX6_watchPoint_3 : decode cX6_watchPoint 3 = .ok (.istore 4, 2) := by decide +kernel
theorem dX6_watchPoint_5 : decode cX6_watchPoint 5 = .ok (.iload 4, 2) := by decide +kernel
theorem dX6_watchPoint_7 : decode cX6_watchPoint 7 = .ok (.aload_n 0, 1) := by decide +kernel
theorem dX6_watchPoint_8 : decode cX6_watchPoint 8 = .ok (.getfield 21, 3) := by decide +kernel
theorem dX6_watchPoint_11 : decode cX6_watchPoint 11 = .ok (.if_icmp .ge 60, 3) := by decide +kernel
theorem dX6_watchPoint_14 : decode cX6_watchPoint 14 = .ok (.iload_n 1, 1) := by decide +kernel
theorem dX6_watchPoint_15 : decode cX6_watchPoint 15 = .ok (.aload_n 0, 1) := by decide +kernel
theorem dX6_watchPoint_16 : decode cX6_watchPoint 16 = .ok (.getfield 9, 3) := by decide +kernel
theorem dX6_watchPoint_19 : decode cX6_watchPoint 19 = .ok (.iload 4, 2) := by decide +kernel
theorem dX6_watchPoint_21 : decode cX6_watchPoint 21 = .ok (.iaload, 1) := by decide +kernel
theorem dX6_watchPoint_22 : decode cX6_watchPoint 22 = .ok (.isub, 1) := by decide +kernel
theorem dX6_watchPoint_23 : decode cX6_watchPoint 23 = .ok (.i2l, 1) := by decide +kernel
theorem dX6_watchPoint_24 : decode cX6_watchPoint 24 = .ok (.iload_n 2, 1) := by decide +kernel
theorem dX6_watchPoint_25 : decode cX6_watchPoint 25 = .ok (.aload_n 0, 1) := by decide +kernel
theorem dX6_watchPoint_26 : decode cX6_watchPoint 26 = .ok (.getfield 15, 3) := by decide +kernel
theorem dX6_watchPoint_29 : decode cX6_watchPoint 29 = .ok (.iload 4, 2) := by decide +kernel
theorem dX6_watchPoint_31 : decode cX6_watchPoint 31 = .ok (.iaload, 1) := by decide +kernel
theorem dX6_watchPoint_32 : decode cX6_watchPoint 32 = .ok (.isub, 1) := by decide +kernel
theorem dX6_watchPoint_33 : decode cX6_watchPoint 33 = .ok (.i2l, 1) := by decide +kernel
theorem dX6_watchPoint_34 : decode cX6_watchPoint 34 = .ok (.invokestatic 35, 3) := by decide +kernel
theorem dX6_watchPoint_37 : decode cX6_watchPoint 37 = .ok (.aload_n 0, 1) := by decide +kernel
theorem dX6_watchPoint_38 : decode cX6_watchPoint 38 = .ok (.getfield 18, 3) := by decide +kernel
theorem dX6_watchPoint_41 : decode cX6_watchPoint 41 = .ok (.iload 4, 2) := by decide +kernel
theorem dX6_watchPoint_43 : decode cX6_watchPoint 43 = .ok (.iaload, 1) := by decide +kernel
theorem dX6_watchPoint_44 : decode cX6_watchPoint 44 = .ok (.i2l, 1) := by decide +kernel
theorem dX6_watchPoint_45 : decode cX6_watchPoint 45 = .ok (.aload_n 0, 1) := by decide +kernel
theorem dX6_watchPoint_46 : decode cX6_watchPoint 46 = .ok (.getfield 18, 3) := by decide +kernel
theorem dX6_watchPoint_49 : decode cX6_watchPoint 49 = .ok (.iload 4, 2) := by decide +kernel
theorem dX6_watchPoint_51 : decode cX6_watchPoint 51 = .ok (.iaload, 1) := by decide +kernel
theorem dX6_watchPoint_52 : decode cX6_watchPoint 52 = .ok (.i2l, 1) := by decide +kernel
theorem dX6_watchPoint_53 : decode cX6_watchPoint 53 = .ok (.lmul, 1) := by decide +kernel
theorem dX6_watchPoint_54 : decode cX6_watchPoint 54 = .ok (.lcmp, 1) := by decide +kernel
theorem dX6_watchPoint_55 : decode cX6_watchPoint 55 = .ok (.ifCond .gt 10, 3) := by decide +kernel
theorem dX6_watchPoint_58 : decode cX6_watchPoint 58 = .ok (.iload_n 3, 1) := by decide +kernel
theorem dX6_watchPoint_59 : decode cX6_watchPoint 59 = .ok (.iconst 1, 1) := by decide +kernel
theorem dX6_watchPoint_60 : decode cX6_watchPoint 60 = .ok (.iload 4, 2) := by decide +kernel
theorem dX6_watchPoint_62 : decode cX6_watchPoint 62 = .ok (.ishl, 1) := by decide +kernel
theorem dX6_watchPoint_63 : decode cX6_watchPoint 63 = .ok (.ior, 1) := by decide +kernel
theorem dX6_watchPoint_64 : decode cX6_watchPoint 64 = .ok (.istore_n 3, 1) := by decide +kernel
theorem dX6_watchPoint_65 : decode cX6_watchPoint 65 = .ok (.iinc 4 1, 3) := by decide +kernel
theorem dX6_watchPoint_68 : decode cX6_watchPoint 68 = .ok (.goto (-63), 3) := by decide +kernel
theorem dX6_watchPoint_71 : decode cX6_watchPoint 71 = .ok (.aload_n 0, 1) := by decide +kernel
theorem dX6_watchPoint_72 : decode cX6_watchPoint 72 = .ok (.getfield 25, 3) := by decide +kernel
theorem dX6_watchPoint_75 : decode cX6_watchPoint 75 = .ok (.aload_n 0, 1) := by decide +kernel
theorem dX6_watchPoint_76 : decode cX6_watchPoint 76 = .ok (.getfield 28, 3) := by decide +kernel
theorem dX6_watchPoint_79 : decode cX6_watchPoint 79 = .ok (.iload_n 3, 1) := by decide +kernel
theorem dX6_watchPoint_80 : decode cX6_watchPoint 80 = .ok (.iastore, 1) := by decide +kernel
theorem dX6_watchPoint_81 : decode cX6_watchPoint 81 = .ok (.aload_n 0, 1) := by decide +kernel
theorem dX6_watchPoint_82 : decode cX6_watchPoint 82 = .ok (.dup, 1) := by decide +kernel
theorem dX6_watchPoint_83 : decode cX6_watchPoint 83 = .ok (.getfield 28, 3) := by decide +kernel
theorem dX6_watchPoint_86 : decode cX6_watchPoint 86 = .ok (.iconst 1, 1) := by decide +kernel
theorem dX6_watchPoint_87 : decode cX6_watchPoint 87 = .ok (.iadd, 1) := by decide +kernel
theorem dX6_watchPoint_88 : decode cX6_watchPoint 88 = .ok (.putfield 28, 3) := by decide +kernel
theorem dX6_watchPoint_91 : decode cX6_watchPoint 91 = .ok (.return_, 1) := by decide +kernel
theorem dX6_pointsSeen_0 : decode cX6_pointsSeen 0 = .ok (.iconst 0, 1) := by decide +kernel
theorem dX6_pointsSeen_1 : decode cX6_pointsSeen 1 = .ok (.istore_n 2, 1) := by decide +kernel
theorem dX6_pointsSeen_2 : decode cX6_pointsSeen 2 = .ok (.iconst 0, 1) := by decide +kernel
theorem dX6_pointsSeen_3 : decode cX6_pointsSeen 3 = .ok (.istore_n 3, 1) := by decide +kernel
theorem dX6_pointsSeen_4 : decode cX6_pointsSeen 4 = .ok (.iload_n 3, 1) := by decide +kernel
theorem dX6_pointsSeen_5 : decode cX6_pointsSeen 5 = .ok (.aload_n 0, 1) := by decide +kernel
theorem dX6_pointsSeen_6 : decode cX6_pointsSeen 6 = .ok (.getfield 28, 3) := by decide +kernel
theorem dX6_pointsSeen_9 : decode cX6_pointsSeen 9 = .ok (.if_icmp .ge 23, 3) := by decide +kernel
theorem dX6_pointsSeen_12 : decode cX6_pointsSeen 12 = .ok (.aload_n 0, 1) := by decide +kernel
theorem dX6_pointsSeen_13 : decode cX6_pointsSeen 13 = .ok (.getfield 25, 3) := by decide +kernel
theorem dX6_pointsSeen_16 : decode cX6_pointsSeen 16 = .ok (.iload_n 3, 1) := by decide +kernel
theorem dX6_pointsSeen_17 : decode cX6_pointsSeen 17 = .ok (.iaload, 1) := by decide +kernel
theorem dX6_pointsSeen_18 : decode cX6_pointsSeen 18 = .ok (.iload_n 1, 1) := by decide +kernel
theorem dX6_pointsSeen_19 : decode cX6_pointsSeen 19 = .ok (.iand, 1) := by decide +kernel
theorem dX6_pointsSeen_20 : decode cX6_pointsSeen 20 = .ok (.ifCond .eq 6, 3) := by decide +kernel
theorem dX6_pointsSeen_23 : decode cX6_pointsSeen 23 = .ok (.iinc 2 1, 3) := by decide +kernel
theorem dX6_pointsSeen_26 : decode cX6_pointsSeen 26 = .ok (.iinc 3 1, 3) := by decide +kernel
theorem dX6_pointsSeen_29 : decode cX6_pointsSeen 29 = .ok (.goto (-25), 3) := by decide +kernel
theorem dX6_pointsSeen_32 : decode cX6_pointsSeen 32 = .ok (.iload_n 2, 1) := by decide +kernel
theorem dX6_pointsSeen_33 : decode cX6_pointsSeen 33 = .ok (.ireturn, 1) := by decide +kernel
theorem dX6_bestPosts_0 : decode cX6_bestPosts 0 = .ok (.iconst 0, 1) := by decide +kernel
theorem dX6_bestPosts_1 : decode cX6_bestPosts 1 = .ok (.istore_n 2, 1) := by decide +kernel
theorem dX6_bestPosts_2 : decode cX6_bestPosts 2 = .ok (.iconst (-1), 1) := by decide +kernel
theorem dX6_bestPosts_3 : decode cX6_bestPosts 3 = .ok (.istore_n 3, 1) := by decide +kernel
theorem dX6_bestPosts_4 : decode cX6_bestPosts 4 = .ok (.iconst 0, 1) := by decide +kernel
theorem dX6_bestPosts_5 : decode cX6_bestPosts 5 = .ok (.istore 4, 2) := by decide +kernel
theorem dX6_bestPosts_7 : decode cX6_bestPosts 7 = .ok (.iload 4, 2) := by decide +kernel
theorem dX6_bestPosts_9 : decode cX6_bestPosts 9 = .ok (.iconst 1, 1) := by decide +kernel
theorem dX6_bestPosts_10 : decode cX6_bestPosts 10 = .ok (.aload_n 0, 1) := by decide +kernel
theorem dX6_bestPosts_11 : decode cX6_bestPosts 11 = .ok (.getfield 21, 3) := by decide +kernel
theorem dX6_bestPosts_14 : decode cX6_bestPosts 14 = .ok (.ishl, 1) := by decide +kernel
theorem dX6_bestPosts_15 : decode cX6_bestPosts 15 = .ok (.if_icmp .ge 38, 3) := by decide +kernel
theorem dX6_bestPosts_18 : decode cX6_bestPosts 18 = .ok (.iload 4, 2) := by decide +kernel
theorem dX6_bestPosts_20 : decode cX6_bestPosts 20 = .ok (.invokestatic 39, 3) := by decide +kernel
theorem dX6_bestPosts_23 : decode cX6_bestPosts 23 = .ok (.iload_n 1, 1) := by decide +kernel
theorem dX6_bestPosts_24 : decode cX6_bestPosts 24 = .ok (.if_icmp .ne 23, 3) := by decide +kernel
theorem dX6_bestPosts_27 : decode cX6_bestPosts 27 = .ok (.aload_n 0, 1) := by decide +kernel
theorem dX6_bestPosts_28 : decode cX6_bestPosts 28 = .ok (.iload 4, 2) := by decide +kernel
theorem dX6_bestPosts_30 : decode cX6_bestPosts 30 = .ok (.invokevirtual 45, 3) := by decide +kernel
theorem dX6_bestPosts_33 : decode cX6_bestPosts 33 = .ok (.istore 5, 2) := by decide +kernel
theorem dX6_bestPosts_35 : decode cX6_bestPosts 35 = .ok (.iload 5, 2) := by decide +kernel
theorem dX6_bestPosts_37 : decode cX6_bestPosts 37 = .ok (.iload_n 3, 1) := by decide +kernel
theorem dX6_bestPosts_38 : decode cX6_bestPosts 38 = .ok (.if_icmp .le 9, 3) := by decide +kernel
theorem dX6_bestPosts_41 : decode cX6_bestPosts 41 = .ok (.iload 5, 2) := by decide +kernel
theorem dX6_bestPosts_43 : decode cX6_bestPosts 43 = .ok (.istore_n 3, 1) := by decide +kernel
theorem dX6_bestPosts_44 : decode cX6_bestPosts 44 = .ok (.iload 4, 2) := by decide +kernel
theorem dX6_bestPosts_46 : decode cX6_bestPosts 46 = .ok (.istore_n 2, 1) := by decide +kernel
theorem dX6_bestPosts_47 : decode cX6_bestPosts 47 = .ok (.iinc 4 1, 3) := by decide +kernel
theorem dX6_bestPosts_50 : decode cX6_bestPosts 50 = .ok (.goto (-43), 3) := by decide +kernel
theorem dX6_bestPosts_53 : decode cX6_bestPosts 53 = .ok (.iload_n 2, 1) := by decide +kernel
theorem dX6_bestPosts_54 : decode cX6_bestPosts 54 = .ok (.ireturn, 1) := by decide +kernel
theorem dX7_init_0 : decode cX7_init 0 = .ok (.aload_n 0, 1) := by decide +kernel
theorem dX7_init_1 : decode cX7_init 1 = .ok (.invokespecial 3, 3) := by decide +kernel
theorem dX7_init_4 : decode cX7_init 4 = .ok (.aload_n 0, 1) := by decide +kernel
theorem dX7_init_5 : decode cX7_init 5 = .ok (.iconst 0, 1) := by decide +kernel
theorem dX7_init_6 : decode cX7_init 6 = .ok (.putfield 9, 3) := by decide +kernel
theorem dX7_init_9 : decode cX7_init 9 = .ok (.aload_n 0, 1) := by decide +kernel
theorem dX7_init_10 : decode cX7_init 10 = .ok (.iconst 0, 1) := by decide +kernel
theorem dX7_init_11 : decode cX7_init 11 = .ok (.putfield 15, 3) := by decide +kernel
theorem dX7_init_14 : decode cX7_init 14 = .ok (.aload_n 0, 1) := by decide +kernel
theorem dX7_init_15 : decode cX7_init 15 = .ok (.iconst 1, 1) := by decide +kernel
theorem dX7_init_16 : decode cX7_init 16 = .ok (.putfield 18, 3) := by decide +kernel
theorem dX7_init_19 : decode cX7_init 19 = .ok (.aload_n 0, 1) := by decide +kernel
theorem dX7_init_20 : decode cX7_init 20 = .ok (.iconst 0, 1) := by decide +kernel
theorem dX7_init_21 : decode cX7_init 21 = .ok (.putfield 21, 3) := by decide +kernel
theorem dX7_init_24 : decode cX7_init 24 = .ok (.aload_n 0, 1) := by decide +kernel
theorem dX7_init_25 : decode cX7_init 25 = .ok (.bipush 10, 2) := by decide +kernel
theorem dX7_init_27 : decode cX7_init 27 = .ok (.newarray .int, 2) := by decide +kernel
theorem dX7_init_29 : decode cX7_init 29 = .ok (.putfield 24, 3) := by decide +kernel
theorem dX7_init_32 : decode cX7_init 32 = .ok (.aload_n 0, 1) := by decide +kernel
theorem dX7_init_33 : decode cX7_init 33 = .ok (.lconst 0, 1) := by decide +kernel
theorem dX7_init_34 : decode cX7_init 34 = .ok (.putfield 28, 3) := by decide +kernel
theorem dX7_init_37 : decode cX7_init 37 = .ok (.aload_n 0, 1) := by decide +kernel
theorem dX7_init_38 : decode cX7_init 38 = .ok (.lconst 0, 1) := by decide +kernel
theorem dX7_init_39 : decode cX7_init 39 = .ok (.putfield 32, 3) := by decide +kernel
theorem dX7_init_42 : decode cX7_init 42 = .ok (.return_, 1) := by decide +kernel
theorem dX7_set_0 : decode cX7_set 0 = .ok (.aload_n 0, 1) := by decide +kernel
theorem dX7_set_1 : decode cX7_set 1 = .ok (.iload_n 1, 1) := by decide +kernel
theorem dX7_set_2 : decode cX7_set 2 = .ok (.putfield 9, 3) := by decide +kernel
theorem dX7_set_5 : decode cX7_set 5 = .ok (.aload_n 0, 1) := by decide +kernel
theorem dX7_set_6 : decode cX7_set 6 = .ok (.iload_n 2, 1) := by decide +kernel
theorem dX7_set_7 : decode cX7_set 7 = .ok (.putfield 15, 3) := by decide +kernel
theorem dX7_set_10 : decode cX7_set 10 = .ok (.aload_n 0, 1) := by decide +kernel
theorem dX7_set_11 : decode cX7_set 11 = .ok (.iload_n 3, 1) := by decide +kernel
theorem dX7_set_12 : decode cX7_set 12 = .ok (.putfield 18, 3) := by decide +kernel
theorem dX7_set_15 : decode cX7_set 15 = .ok (.aload_n 0, 1) := by decide +kernel
theorem dX7_set_16 : decode cX7_set 16 = .ok (.iload 4, 2) := by decide +kernel
theorem dX7_set_18 : decode cX7_set 18 = .ok (.putfield 21, 3) := by decide +kernel
theorem dX7_set_21 : decode cX7_set 21 = .ok (.return_, 1) := by decide +kernel
theorem dX7_begin_0 : decode cX7_begin 0 = .ok (.aload_n 0, 1) := by decide +kernel
theorem dX7_begin_1 : decode cX7_begin 1 = .ok (.aload_n 0, 1) := by decide +kernel
theorem dX7_begin_2 : decode cX7_begin 2 = .ok (.getfield 9, 3) := by decide +kernel
theorem dX7_begin_5 : decode cX7_begin 5 = .ok (.i2l, 1) := by decide +kernel
theorem dX7_begin_6 : decode cX7_begin 6 = .ok (.putfield 28, 3) := by decide +kernel
theorem dX7_begin_9 : decode cX7_begin 9 = .ok (.aload_n 0, 1) := by decide +kernel
theorem dX7_begin_10 : decode cX7_begin 10 = .ok (.aload_n 0, 1) := by decide +kernel
theorem dX7_begin_11 : decode cX7_begin 11 = .ok (.getfield 15, 3) := by decide +kernel
theorem dX7_begin_14 : decode cX7_begin 14 = .ok (.i2l, 1) := by decide +kernel
theorem dX7_begin_15 : decode cX7_begin 15 = .ok (.putfield 32, 3) := by decide +kernel
theorem dX7_begin_18 : decode cX7_begin 18 = .ok (.return_, 1) := by decide +kernel
theorem dX7_move_0 : decode cX7_move 0 = .ok (.aload_n 2, 1) := by decide +kernel
theorem dX7_move_1 : decode cX7_move 1 = .ok (.iload_n 3, 1) := by decide +kernel
theorem dX7_move_2 : decode cX7_move 2 = .ok (.invokevirtual 35, 3) := by decide +kernel
theorem dX7_move_5 : decode cX7_move 5 = .ok (.ifCond .eq 7, 3) := by decide +kernel
theorem dX7_move_8 : decode cX7_move 8 = .ok (.iconst 0, 1) := by decide +kernel
theorem dX7_move_9 : decode cX7_move 9 = .ok (.goto 14, 3) := by decide +kernel
theorem dX7_move_12 : decode cX7_move 12 = .ok (.aload_n 0, 1) := by decide +kernel
theorem dX7_move_13 : decode cX7_move 13 = .ok (.aload_n 1, 1) := by decide +kernel
theorem dX7_move_14 : decode cX7_move 14 = .ok (.iload_n 3, 1) := by decide +kernel
theorem dX7_move_15 : decode cX7_move 15 = .ok (.aload_n 0, 1) := by decide +kernel
theorem dX7_move_16 : decode cX7_move 16 = .ok (.getfield 21, 3) := by decide +kernel
theorem dX7_move_19 : decode cX7_move 19 = .ok (.iadd, 1) := by decide +kernel
theorem dX7_move_20 : decode cX7_move 20 = .ok (.invokevirtual 41, 3) := by decide +kernel
theorem dX7_move_23 : decode cX7_move 23 = .ok (.istore 4, 2) := by decide +kernel
theorem dX7_move_25 : decode cX7_move 25 = .ok (.aload_n 0, 1) := by decide +kernel
theorem dX7_move_26 : decode cX7_move 26 = .ok (.dup, 1) := by decide +kernel
theorem dX7_move_27 : decode cX7_move 27 = .ok (.getfield 28, 3) := by decide +kernel
theorem dX7_move_30 : decode cX7_move 30 = .ok (.aload_n 0, 1) := by decide +kernel
theorem dX7_move_31 : decode cX7_move 31 = .ok (.getfield 18, 3) := by decide +kernel
theorem dX7_move_34 : decode cX7_move 34 = .ok (.iload 4, 2) := by decide +kernel
theorem dX7_move_36 : decode cX7_move 36 = .ok (.iconst 0, 1) := by decide +kernel
theorem dX7_move_37 : decode cX7_move 37 = .ok (.invokestatic 45, 3) := by decide +kernel
theorem dX7_move_40 : decode cX7_move 40 = .ok (.imul, 1) := by decide +kernel
theorem dX7_move_41 : decode cX7_move 41 = .ok (.i2l, 1) := by decide +kernel
theorem dX7_move_42 : decode cX7_move 42 = .ok (.ladd, 1) := by decide +kernel
theorem dX7_move_43 : decode cX7_move 43 = .ok (.putfield 28, 3) := by decide +kernel
theorem dX7_move_46 : decode cX7_move 46 = .ok (.aload_n 0, 1) := by decide +kernel
theorem dX7_move_47 : decode cX7_move 47 = .ok (.dup, 1) := by decide +kernel
theorem dX7_move_48 : decode cX7_move 48 = .ok (.getfield 32, 3) := by decide +kernel
theorem dX7_move_51 : decode cX7_move 51 = .ok (.aload_n 0, 1) := by decide +kernel
theorem dX7_move_52 : decode cX7_move 52 = .ok (.getfield 18, 3) := by decide +kernel
theorem dX7_move_55 : decode cX7_move 55 = .ok (.iload 4, 2) := by decide +kernel
theorem dX7_move_57 : decode cX7_move 57 = .ok (.iconst 1, 1) := by decide +kernel
theorem dX7_move_58 : decode cX7_move 58 = .ok (.invokestatic 45, 3) := by decide +kernel
theorem dX7_move_61 : decode cX7_move 61 = .ok (.imul, 1) := by decide +kernel
theorem dX7_move_62 : decode cX7_move 62 = .ok (.i2l, 1) := by decide +kernel
theorem dX7_move_63 : decode cX7_move 63 = .ok (.ladd, 1) := by decide +kernel
theorem dX7_move_64 : decode cX7_move 64 = .ok (.putfield 32, 3) := by decide +kernel
theorem dX7_move_67 : decode cX7_move 67 = .ok (.return_, 1) := by decide +kernel
theorem dX7_heading_0 : decode cX7_heading 0 = .ok (.iload_n 2, 1) := by decide +kernel
theorem dX7_heading_1 : decode cX7_heading 1 = .ok (.ifCond .ge 5, 3) := by decide +kernel
theorem dX7_heading_4 : decode cX7_heading 4 = .ok (.iconst 0, 1) := by decide +kernel
theorem dX7_heading_5 : decode cX7_heading 5 = .ok (.ireturn, 1) := by decide +kernel
theorem dX7_heading_6 : decode cX7_heading 6 = .ok (.iload_n 2, 1) := by decide +kernel
theorem dX7_heading_7 : decode cX7_heading 7 = .ok (.bipush 60, 2) := by decide +kernel
theorem dX7_heading_9 : decode cX7_heading 9 = .ok (.idiv, 1) := by decide +kernel
theorem dX7_heading_10 : decode cX7_heading 10 = .ok (.istore_n 3, 1) := by decide +kernel
theorem dX7_heading_11 : decode cX7_heading 11 = .ok (.aload_n 1, 1) := by decide +kernel
theorem dX7_heading_12 : decode cX7_heading 12 = .ok (.iload_n 2, 1) := by decide +kernel
theorem dX7_heading_13 : decode cX7_heading 13 = .ok (.bipush 60, 2) := by decide +kernel
theorem dX7_heading_15 : decode cX7_heading 15 = .ok (.irem, 1) := by decide +kernel
theorem dX7_heading_16 : decode cX7_heading 16 = .ok (.iload_n 3, 1) := by decide +kernel
theorem dX7_heading_17 : decode cX7_heading 17 = .ok (.bipush 10, 2) := by decide +kernel
theorem dX7_heading_19 : decode cX7_heading 19 = .ok (.if_icmp .ge 12, 3) := by decide +kernel
theorem dX7_heading_22 : decode cX7_heading 22 = .ok (.aload_n 0, 1) := by decide +kernel
theorem dX7_heading_23 : decode cX7_heading 23 = .ok (.getfield 24, 3) := by decide +kernel
theorem dX7_heading_26 : decode cX7_heading 26 = .ok (.iload_n 3, 1) := by decide +kernel
theorem dX7_heading_27 : decode cX7_heading 27 = .ok (.iaload, 1) := by decide +kernel
theorem dX7_heading_28 : decode cX7_heading 28 = .ok (.goto 4, 3) := by decide +kernel
theorem dX7_heading_31 : decode cX7_heading 31 = .ok (.iconst 0, 1) := by decide +kernel
theorem dX7_heading_32 : decode cX7_heading 32 = .ok (.invokevirtual 49, 3) := by decide +kernel
theorem dX7_heading_35 : decode cX7_heading 35 = .ok (.ireturn, 1) := by decide +kernel
theorem dX8_init_0 : decode cX8_init 0 = .ok (.aload_n 0, 1) := by decide +kernel
theorem dX8_init_1 : decode cX8_init 1 = .ok (.invokespecial 3, 3) := by decide +kernel
theorem dX8_init_4 : decode cX8_init 4 = .ok (.aload_n 0, 1) := by decide +kernel
theorem dX8_init_5 : decode cX8_init 5 = .ok (.iconst 0, 1) := by decide +kernel
theorem dX8_init_6 : decode cX8_init 6 = .ok (.putfield 9, 3) := by decide +kernel
theorem dX8_init_9 : decode cX8_init 9 = .ok (.aload_n 0, 1) := by decide +kernel
theorem dX8_init_10 : decode cX8_init 10 = .ok (.bipush 41, 2) := by decide +kernel
theorem dX8_init_12 : decode cX8_init 12 = .ok (.newarray .int, 2) := by decide +kernel
theorem dX8_init_14 : decode cX8_init 14 = .ok (.putfield 15, 3) := by decide +kernel
theorem dX8_init_17 : decode cX8_init 17 = .ok (.aload_n 0, 1) := by decide +kernel
theorem dX8_init_18 : decode cX8_init 18 = .ok (.iconst 0, 1) := by decide +kernel
theorem dX8_init_19 : decode cX8_init 19 = .ok (.putfield 19, 3) := by decide +kernel
theorem dX8_init_22 : decode cX8_init 22 = .ok (.aload_n 0, 1) := by decide +kernel
theorem dX8_init_23 : decode cX8_init 23 = .ok (.iconst 0, 1) := by decide +kernel
theorem dX8_init_24 : decode cX8_init 24 = .ok (.putfield 23, 3) := by decide +kernel
theorem dX8_init_27 : decode cX8_init 27 = .ok (.aload_n 0, 1) := by decide +kernel
theorem dX8_init_28 : decode cX8_init 28 = .ok (.iconst 0, 1) := by decide +kernel
theorem dX8_init_29 : decode cX8_init 29 = .ok (.putfield 26, 3) := by decide +kernel
theorem dX8_init_32 : decode cX8_init 32 = .ok (.aload_n 0, 1) := by decide +kernel
theorem dX8_init_33 : decode cX8_init 33 = .ok (.iconst 0, 1) := by decide +kernel
theorem dX8_init_34 : decode cX8_init 34 = .ok (.putfield 29, 3) := by decide +kernel
theorem dX8_init_37 : decode cX8_init 37 = .ok (.return_, 1) := by decide +kernel
theorem dX8_cellOn_0 : decode cX8_cellOn 0 = .ok (.aload_n 0, 1) := by decide +kernel
theorem dX8_cellOn_1 : decode cX8_cellOn 1 = .ok (.getfield 15, 3) := by decide +kernel
theorem dX8_cellOn_4 : decode cX8_cellOn 4 = .ok (.iload_n 1, 1) := by decide +kernel
theorem dX8_cellOn_5 : decode cX8_cellOn 5 = .ok (.aload_n 0, 1) := by decide +kernel
theorem dX8_cellOn_6 : decode cX8_cellOn 6 = .ok (.getfield 19, 3) := by decide +kernel
theorem dX8_cellOn_9 : decode cX8_cellOn 9 = .ok (.if_icmp .ge 7, 3) := by decide +kernel
theorem dX8_cellOn_12 : decode cX8_cellOn 12 = .ok (.iload_n 1, 1) := by decide +kernel
theorem dX8_cellOn_13 : decode cX8_cellOn 13 = .ok (.goto 7, 3) := by decide +kernel
theorem dX8_cellOn_16 : decode cX8_cellOn 16 = .ok (.aload_n 0, 1) := by decide +kernel
theorem dX8_cellOn_17 : decode cX8_cellOn 17 = .ok (.getfield 19, 3) := by decide +kernel
theorem dX8_cellOn_20 : decode cX8_cellOn 20 = .ok (.iaload, 1) := by decide +kernel
theorem dX8_cellOn_21 : decode cX8_cellOn 21 = .ok (.ireturn, 1) := by decide +kernel
theorem dX8_fuelTill_0 : decode cX8_fuelTill 0 = .ok (.iconst 0, 1) := by decide +kernel
theorem dX8_fuelTill_1 : decode cX8_fuelTill 1 = .ok (.istore_n 2, 1) := by decide +kernel
theorem dX8_fuelTill_2 : decode cX8_fuelTill 2 = .ok (.iconst 1, 1) := by decide +kernel
theorem dX8_fuelTill_3 : decode cX8_fuelTill 3 = .ok (.istore_n 3, 1) := by decide +kernel
theorem dX8_fuelTill_4 : decode cX8_fuelTill 4 = .ok (.iload_n 3, 1) := by decide +kernel
theorem dX8_fuelTill_5 : decode cX8_fuelTill 5 = .ok (.iload_n 1, 1) := by decide +kernel
theorem dX8_fuelTill_6 : decode cX8_fuelTill 6 = .ok (.if_icmp .gt 37, 3) := by decide +kernel
theorem dX8_fuelTill_9 : decode cX8_fuelTill 9 = .ok (.iload_n 3, 1) := by decide +kernel
theorem dX8_fuelTill_10 : decode cX8_fuelTill 10 = .ok (.aload_n 0, 1) := by decide +kernel
theorem dX8_fuelTill_11 : decode cX8_fuelTill 11 = .ok (.getfield 19, 3) := by decide +kernel
theorem dX8_fuelTill_14 : decode cX8_fuelTill 14 = .ok (.if_icmp .gt 29, 3) := by decide +kernel
theorem dX8_fuelTill_17 : decode cX8_fuelTill 17 = .ok (.aload_n 0, 1) := by decide +kernel
theorem dX8_fuelTill_18 : decode cX8_fuelTill 18 = .ok (.getfield 15, 3) := by decide +kernel
theorem dX8_fuelTill_21 : decode cX8_fuelTill 21 = .ok (.iload_n 3, 1) := by decide +kernel
theorem dX8_fuelTill_22 : decode cX8_fuelTill 22 = .ok (.iaload, 1) := by decide +kernel
theorem dX8_fuelTill_23 : decode cX8_fuelTill 23 = .ok (.aload_n 0, 1) := by decide +kernel
theorem dX8_fuelTill_24 : decode cX8_fuelTill 24 = .ok (.getfield 15, 3) := by decide +kernel
theorem dX8_fuelTill_27 : decode cX8_fuelTill 27 = .ok (.iload_n 3, 1) := by decide +kernel
theorem dX8_fuelTill_28 : decode cX8_fuelTill 28 = .ok (.iconst 1, 1) := by decide +kernel
theorem dX8_fuelTill_29 : decode cX8_fuelTill 29 = .ok (.isub, 1) := by decide +kernel
theorem dX8_fuelTill_30 : decode cX8_fuelTill 30 = .ok (.iaload, 1) := by decide +kernel
theorem dX8_fuelTill_31 : decode cX8_fuelTill 31 = .ok (.if_icmp .eq 6, 3) := by decide +kernel
theorem dX8_fuelTill_34 : decode cX8_fuelTill 34 = .ok (.iinc 2 1, 3) := by decide +kernel
theorem dX8_fuelTill_37 : decode cX8_fuelTill 37 = .ok (.iinc 3 1, 3) := by decide +kernel
theorem dX8_fuelTill_40 : decode cX8_fuelTill 40 = .ok (.goto (-36), 3) := by decide +kernel
theorem dX8_fuelTill_43 : decode cX8_fuelTill 43 = .ok (.iload_n 2, 1) := by decide +kernel
theorem dX8_fuelTill_44 : decode cX8_fuelTill 44 = .ok (.ireturn, 1) := by decide +kernel
theorem dJ6_bitCount_0f7a4_0 : decode cJ6_bitCount_0f7a4 0 = .ok (.iload_n 0, 1) := by decide +kernel
theorem dJ6_bitCount_0f7a4_1 : decode cJ6_bitCount_0f7a4 1 = .ok (.iload_n 0, 1) := by decide +kernel
theorem dJ6_bitCount_0f7a4_2 : decode cJ6_bitCount_0f7a4 2 = .ok (.iconst 1, 1) := by decide +kernel
theorem dJ6_bitCount_0f7a4_3 : decode cJ6_bitCount_0f7a4 3 = .ok (.iushr, 1) := by decide +kernel
theorem dJ6_bitCount_0f7a4_4 : decode cJ6_bitCount_0f7a4 4 = .ok (.ldc_w 265, 3) := by decide +kernel
theorem dJ6_bitCount_0f7a4_7 : decode cJ6_bitCount_0f7a4 7 = .ok (.iand, 1) := by decide +kernel
theorem dJ6_bitCount_0f7a4_8 : decode cJ6_bitCount_0f7a4 8 = .ok (.isub, 1) := by decide +kernel
theorem dJ6_bitCount_0f7a4_9 : decode cJ6_bitCount_0f7a4 9 = .ok (.istore_n 0, 1) := by decide +kernel
theorem dJ6_bitCount_0f7a4_10 : decode cJ6_bitCount_0f7a4 10 = .ok (.iload_n 0, 1) := by decide +kernel
theorem dJ6_bitCount_0f7a4_11 : decode cJ6_bitCount_0f7a4 11 = .ok (.ldc_w 266, 3) := by decide +kernel
theorem dJ6_bitCount_0f7a4_14 : decode cJ6_bitCount_0f7a4 14 = .ok (.iand, 1) := by decide +kernel
theorem dJ6_bitCount_0f7a4_15 : decode cJ6_bitCount_0f7a4 15 = .ok (.iload_n 0, 1) := by decide +kernel
theorem dJ6_bitCount_0f7a4_16 : decode cJ6_bitCount_0f7a4 16 = .ok (.iconst 2, 1) := by decide +kernel
theorem dJ6_bitCount_0f7a4_17 : decode cJ6_bitCount_0f7a4 17 = .ok (.iushr, 1) := by decide +kernel
theorem dJ6_bitCount_0f7a4_18 : decode cJ6_bitCount_0f7a4 18 = .ok (.ldc_w 266, 3) := by decide +kernel
theorem dJ6_bitCount_0f7a4_21 : decode cJ6_bitCount_0f7a4 21 = .ok (.iand, 1) := by decide +kernel
theorem dJ6_bitCount_0f7a4_22 : decode cJ6_bitCount_0f7a4 22 = .ok (.iadd, 1) := by decide +kernel
theorem dJ6_bitCount_0f7a4_23 : decode cJ6_bitCount_0f7a4 23 = .ok (.istore_n 0, 1) := by decide +kernel
theorem dJ6_bitCount_0f7a4_24 : decode cJ6_bitCount_0f7a4 24 = .ok (.iload_n 0, 1) := by decide +kernel
theorem dJ6_bitCount_0f7a4_25 : decode cJ6_bitCount_0f7a4 25 = .ok (.iload_n 0, 1) := by decide +kernel
theorem dJ6_bitCount_0f7a4_26 : decode cJ6_bitCount_0f7a4 26 = .ok (.iconst 4, 1) := by decide +kernel
theorem dJ6_bitCount_0f7a4_27 : decode cJ6_bitCount_0f7a4 27 = .ok (.iushr, 1) := by decide +kernel
theorem dJ6_bitCount_0f7a4_28 : decode cJ6_bitCount_0f7a4 28 = .ok (.iadd, 1) := by decide +kernel
theorem dJ6_bitCount_0f7a4_29 : decode cJ6_bitCount_0f7a4 29 = .ok (.ldc_w 267, 3) := by decide +kernel
theorem dJ6_bitCount_0f7a4_32 : decode cJ6_bitCount_0f7a4 32 = .ok (.iand, 1) := by decide +kernel
theorem dJ6_bitCount_0f7a4_33 : decode cJ6_bitCount_0f7a4 33 = .ok (.istore_n 0, 1) := by decide +kernel
theorem dJ6_bitCount_0f7a4_34 : decode cJ6_bitCount_0f7a4 34 = .ok (.iload_n 0, 1) := by decide +kernel
theorem dJ6_bitCount_0f7a4_35 : decode cJ6_bitCount_0f7a4 35 = .ok (.iload_n 0, 1) := by decide +kernel
theorem dJ6_bitCount_0f7a4_36 : decode cJ6_bitCount_0f7a4 36 = .ok (.bipush 8, 2) := by decide +kernel
theorem dJ6_bitCount_0f7a4_38 : decode cJ6_bitCount_0f7a4 38 = .ok (.iushr, 1) := by decide +kernel
theorem dJ6_bitCount_0f7a4_39 : decode cJ6_bitCount_0f7a4 39 = .ok (.iadd, 1) := by decide +kernel
theorem dJ6_bitCount_0f7a4_40 : decode cJ6_bitCount_0f7a4 40 = .ok (.istore_n 0, 1) := by decide +kernel
theorem dJ6_bitCount_0f7a4_41 : decode cJ6_bitCount_0f7a4 41 = .ok (.iload_n 0, 1) := by decide +kernel
theorem dJ6_bitCount_0f7a4_42 : decode cJ6_bitCount_0f7a4 42 = .ok (.iload_n 0, 1) := by decide +kernel
theorem dJ6_bitCount_0f7a4_43 : decode cJ6_bitCount_0f7a4 43 = .ok (.bipush 16, 2) := by decide +kernel
theorem dJ6_bitCount_0f7a4_45 : decode cJ6_bitCount_0f7a4 45 = .ok (.iushr, 1) := by decide +kernel
theorem dJ6_bitCount_0f7a4_46 : decode cJ6_bitCount_0f7a4 46 = .ok (.iadd, 1) := by decide +kernel
theorem dJ6_bitCount_0f7a4_47 : decode cJ6_bitCount_0f7a4 47 = .ok (.istore_n 0, 1) := by decide +kernel
theorem dJ6_bitCount_0f7a4_48 : decode cJ6_bitCount_0f7a4 48 = .ok (.iload_n 0, 1) := by decide +kernel
theorem dJ6_bitCount_0f7a4_49 : decode cJ6_bitCount_0f7a4 49 = .ok (.bipush 63, 2) := by decide +kernel
theorem dJ6_bitCount_0f7a4_51 : decode cJ6_bitCount_0f7a4 51 = .ok (.iand, 1) := by decide +kernel
theorem dJ6_bitCount_0f7a4_52 : decode cJ6_bitCount_0f7a4 52 = .ok (.ireturn, 1) := by decide +kernel
theorem dJ9_abs_0f7a4_0 : decode cJ9_abs_0f7a4 0 = .ok (.iload_n 0, 1) := by decide +kernel
theorem dJ9_abs_0f7a4_1 : decode cJ9_abs_0f7a4 1 = .ok (.ifCond .ge 8, 3) := by decide +kernel
theorem dJ9_abs_0f7a4_4 : decode cJ9_abs_0f7a4 4 = .ok (.iload_n 0, 1) := by decide +kernel
theorem dJ9_abs_0f7a4_5 : decode cJ9_abs_0f7a4 5 = .ok (.ineg, 1) := by decide +kernel
theorem dJ9_abs_0f7a4_6 : decode cJ9_abs_0f7a4 6 = .ok (.goto 4, 3) := by decide +kernel
theorem dJ9_abs_0f7a4_9 : decode cJ9_abs_0f7a4 9 = .ok (.iload_n 0, 1) := by decide +kernel
theorem dJ9_abs_0f7a4_10 : decode cJ9_abs_0f7a4 10 = .ok (.ireturn, 1) := by decide +kernel
theorem dJ9_abs_067f4_0 : decode cJ9_abs_067f4 0 = .ok (.lload_n 0, 1) := by decide +kernel
theorem dJ9_abs_067f4_1 : decode cJ9_abs_067f4 1 = .ok (.lconst 0, 1) := by decide +kernel
theorem dJ9_abs_067f4_2 : decode cJ9_abs_067f4 2 = .ok (.lcmp, 1) := by decide +kernel
theorem dJ9_abs_067f4_3 : decode cJ9_abs_067f4 3 = .ok (.ifCond .ge 8, 3) := by decide +kernel
theorem dJ9_abs_067f4_6 : decode cJ9_abs_067f4 6 = .ok (.lload_n 0, 1) := by decide +kernel
theorem dJ9_abs_067f4_7 : decode cJ9_abs_067f4 7 = .ok (.lneg, 1) := by decide +kernel
theorem dJ9_abs_067f4_8 : decode cJ9_abs_067f4 8 = .ok (.goto 4, 3) := by decide +kernel
theorem dJ9_abs_067f4_11 : decode cJ9_abs_067f4 11 = .ok (.lload_n 0, 1) := by decide +kernel
theorem dJ9_abs_067f4_12 : decode cJ9_abs_067f4 12 = .ok (.lreturn, 1) := by decide +kernel
theorem dJ9_max_7cf53_0 : decode cJ9_max_7cf53 0 = .ok (.iload_n 0, 1) := by decide +kernel
theorem dJ9_max_7cf53_1 : decode cJ9_max_7cf53 1 = .ok (.iload_n 1, 1) := by decide +kernel
theorem dJ9_max_7cf53_2 : decode cJ9_max_7cf53 2 = .ok (.if_icmp .lt 7, 3) := by decide +kernel
theorem dJ9_max_7cf53_5 : decode cJ9_max_7cf53 5 = .ok (.iload_n 0, 1) := by decide +kernel
theorem dJ9_max_7cf53_6 : decode cJ9_max_7cf53 6 = .ok (.goto 4, 3) := by decide +kernel
theorem dJ9_max_7cf53_9 : decode cJ9_max_7cf53 9 = .ok (.iload_n 1, 1) := by decide +kernel
theorem dJ9_max_7cf53_10 : decode cJ9_max_7cf53 10 = .ok (.ireturn, 1) := by decide +kernel
theorem dJ9_min_7cf53_0 : decode cJ9_min_7cf53 0 = .ok (.iload_n 0, 1) := by decide +kernel
theorem dJ9_min_7cf53_1 : decode cJ9_min_7cf53 1 = .ok (.iload_n 1, 1) := by decide +kernel
theorem dJ9_min_7cf53_2 : decode cJ9_min_7cf53 2 = .ok (.if_icmp .gt 7, 3) := by decide +kernel
theorem dJ9_min_7cf53_5 : decode cJ9_min_7cf53 5 = .ok (.iload_n 0, 1) := by decide +kernel
theorem dJ9_min_7cf53_6 : decode cJ9_min_7cf53 6 = .ok (.goto 4, 3) := by decide +kernel
theorem dJ9_min_7cf53_9 : decode cJ9_min_7cf53 9 = .ok (.iload_n 1, 1) := by decide +kernel
theorem dJ9_min_7cf53_10 : decode cJ9_min_7cf53 10 = .ok (.ireturn, 1) := by decide +kernel
