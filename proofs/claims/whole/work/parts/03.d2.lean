theorem dX4_init_0 : decode cX4_init 0 = .ok (.aload_n 0, 1) := by decide +kernel
theorem dX4_init_1 : decode cX4_init 1 = .ok (.invokespecial 5, 3) := by decide +kernel
theorem dX4_init_4 : decode cX4_init 4 = .ok (.aload_n 0, 1) := by decide +kernel
theorem dX4_init_5 : decode cX4_init 5 = .ok (.sipush 5904, 3) := by decide +kernel
theorem dX4_init_8 : decode cX4_init 8 = .ok (.newarray .int, 2) := by decide +kernel
theorem dX4_init_10 : decode cX4_init 10 = .ok (.putfield 11, 3) := by decide +kernel
theorem dX4_init_13 : decode cX4_init 13 = .ok (.aload_n 0, 1) := by decide +kernel
theorem dX4_init_14 : decode cX4_init 14 = .ok (.sipush 3969, 3) := by decide +kernel
theorem dX4_init_17 : decode cX4_init 17 = .ok (.newarray .long, 2) := by decide +kernel
theorem dX4_init_19 : decode cX4_init 19 = .ok (.putfield 15, 3) := by decide +kernel
theorem dX4_init_22 : decode cX4_init 22 = .ok (.aload_n 0, 1) := by decide +kernel
theorem dX4_init_23 : decode cX4_init 23 = .ok (.iconst 0, 1) := by decide +kernel
theorem dX4_init_24 : decode cX4_init 24 = .ok (.putfield 19, 3) := by decide +kernel
theorem dX4_init_27 : decode cX4_init 27 = .ok (.aload_n 0, 1) := by decide +kernel
theorem dX4_init_28 : decode cX4_init 28 = .ok (.iconst 0, 1) := by decide +kernel
theorem dX4_init_29 : decode cX4_init 29 = .ok (.putfield 23, 3) := by decide +kernel
theorem dX4_init_32 : decode cX4_init 32 = .ok (.aload_n 0, 1) := by decide +kernel
theorem dX4_init_33 : decode cX4_init 33 = .ok (.iconst 0, 1) := by decide +kernel
theorem dX4_init_34 : decode cX4_init 34 = .ok (.putfield 26, 3) := by decide +kernel
theorem dX4_init_37 : decode cX4_init 37 = .ok (.aload_n 0, 1) := by decide +kernel
theorem dX4_init_38 : decode cX4_init 38 = .ok (.iconst 0, 1) := by decide +kernel
theorem dX4_init_39 : decode cX4_init 39 = .ok (.putfield 29, 3) := by decide +kernel
theorem dX4_init_42 : decode cX4_init 42 = .ok (.aload_n 0, 1) := by decide +kernel
theorem dX4_init_43 : decode cX4_init 43 = .ok (.iconst (-1), 1) := by decide +kernel
theorem dX4_init_44 : decode cX4_init 44 = .ok (.putfield 32, 3) := by decide +kernel
theorem dX4_init_47 : decode cX4_init 47 = .ok (.aload_n 0, 1) := by decide +kernel
theorem dX4_init_48 : decode cX4_init 48 = .ok (.iconst 0, 1) := by decide +kernel
theorem dX4_init_49 : decode cX4_init 49 = .ok (.putfield 35, 3) := by decide +kernel
theorem dX4_init_52 : decode cX4_init 52 = .ok (.aload_n 0, 1) := by decide +kernel
theorem dX4_init_53 : decode cX4_init 53 = .ok (.ldc 38, 2) := by decide +kernel
theorem dX4_init_55 : decode cX4_init 55 = .ok (.putfield 39, 3) := by decide +kernel
theorem dX4_init_58 : decode cX4_init 58 = .ok (.aload_n 0, 1) := by decide +kernel
theorem dX4_init_59 : decode cX4_init 59 = .ok (.aload_n 1, 1) := by decide +kernel
theorem dX4_init_60 : decode cX4_init 60 = .ok (.putfield 42, 3) := by decide +kernel
theorem dX4_init_63 : decode cX4_init 63 = .ok (.aload_n 0, 1) := by decide +kernel
theorem dX4_init_64 : decode cX4_init 64 = .ok (.aload_n 2, 1) := by decide +kernel
theorem dX4_init_65 : decode cX4_init 65 = .ok (.putfield 45, 3) := by decide +kernel
theorem dX4_init_68 : decode cX4_init 68 = .ok (.return_, 1) := by decide +kernel
theorem dX4_foundDanger_0 : decode cX4_foundDanger 0 = .ok (.aload_n 0, 1) := by decide +kernel
theorem dX4_foundDanger_1 : decode cX4_foundDanger 1 = .ok (.getfield 39, 3) := by decide +kernel
theorem dX4_foundDanger_4 : decode cX4_foundDanger 4 = .ok (.sipush 4096, 3) := by decide +kernel
theorem dX4_foundDanger_7 : decode cX4_foundDanger 7 = .ok (.idiv, 1) := by decide +kernel
theorem dX4_foundDanger_8 : decode cX4_foundDanger 8 = .ok (.ireturn, 1) := by decide +kernel
theorem dX4_foundFuel_0 : decode cX4_foundFuel 0 = .ok (.aload_n 0, 1) := by decide +kernel
theorem dX4_foundFuel_1 : decode cX4_foundFuel 1 = .ok (.getfield 39, 3) := by decide +kernel
theorem dX4_foundFuel_4 : decode cX4_foundFuel 4 = .ok (.bipush 64, 2) := by decide +kernel
theorem dX4_foundFuel_6 : decode cX4_foundFuel 6 = .ok (.irem, 1) := by decide +kernel
theorem dX4_foundFuel_7 : decode cX4_foundFuel 7 = .ok (.ireturn, 1) := by decide +kernel
theorem dX4_findAlone_0 : decode cX4_findAlone 0 = .ok (.aload_n 0, 1) := by decide +kernel
theorem dX4_findAlone_1 : decode cX4_findAlone 1 = .ok (.iload_n 1, 1) := by decide +kernel
theorem dX4_findAlone_2 : decode cX4_findAlone 2 = .ok (.putfield 19, 3) := by decide +kernel
theorem dX4_findAlone_5 : decode cX4_findAlone 5 = .ok (.aload_n 0, 1) := by decide +kernel
theorem dX4_findAlone_6 : decode cX4_findAlone 6 = .ok (.iload_n 2, 1) := by decide +kernel
theorem dX4_findAlone_7 : decode cX4_findAlone 7 = .ok (.putfield 23, 3) := by decide +kernel
theorem dX4_findAlone_10 : decode cX4_findAlone 10 = .ok (.aload_n 0, 1) := by decide +kernel
theorem dX4_findAlone_11 : decode cX4_findAlone 11 = .ok (.iconst (-1), 1) := by decide +kernel
theorem dX4_findAlone_12 : decode cX4_findAlone 12 = .ok (.putfield 32, 3) := by decide +kernel
theorem dX4_findAlone_15 : decode cX4_findAlone 15 = .ok (.aload_n 0, 1) := by decide +kernel
theorem dX4_findAlone_16 : decode cX4_findAlone 16 = .ok (.iconst 0, 1) := by decide +kernel
theorem dX4_findAlone_17 : decode cX4_findAlone 17 = .ok (.putfield 35, 3) := by decide +kernel
theorem dX4_findAlone_20 : decode cX4_findAlone 20 = .ok (.aload_n 0, 1) := by decide +kernel
theorem dX4_findAlone_21 : decode cX4_findAlone 21 = .ok (.iload_n 3, 1) := by decide +kernel
theorem dX4_findAlone_22 : decode cX4_findAlone 22 = .ok (.iload 4, 2) := by decide +kernel
theorem dX4_findAlone_24 : decode cX4_findAlone 24 = .ok (.invokestatic 49, 3) := by decide +kernel
theorem dX4_findAlone_27 : decode cX4_findAlone 27 = .ok (.iconst 0, 1) := by decide +kernel
theorem dX4_findAlone_28 : decode cX4_findAlone 28 = .ok (.invokevirtual 55, 3) := by decide +kernel
theorem dX4_findAlone_31 : decode cX4_findAlone 31 = .ok (.aload_n 0, 1) := by decide +kernel
theorem dX4_findAlone_32 : decode cX4_findAlone 32 = .ok (.getfield 39, 3) := by decide +kernel
theorem dX4_findAlone_35 : decode cX4_findAlone 35 = .ok (.ldc 38, 2) := by decide +kernel
theorem dX4_findAlone_37 : decode cX4_findAlone 37 = .ok (.if_icmp .ge 7, 3) := by decide +kernel
theorem dX4_findAlone_40 : decode cX4_findAlone 40 = .ok (.iconst 1, 1) := by decide +kernel
theorem dX4_findAlone_41 : decode cX4_findAlone 41 = .ok (.goto 4, 3) := by decide +kernel
theorem dX4_findAlone_44 : decode cX4_findAlone 44 = .ok (.iconst 0, 1) := by decide +kernel
theorem dX4_findAlone_45 : decode cX4_findAlone 45 = .ok (.ireturn, 1) := by decide +kernel
theorem dX4_findApart_0 : decode cX4_findApart 0 = .ok (.aload_n 0, 1) := by decide +kernel
theorem dX4_findApart_1 : decode cX4_findApart 1 = .ok (.iload_n 1, 1) := by decide +kernel
theorem dX4_findApart_2 : decode cX4_findApart 2 = .ok (.putfield 19, 3) := by decide +kernel
theorem dX4_findApart_5 : decode cX4_findApart 5 = .ok (.aload_n 0, 1) := by decide +kernel
theorem dX4_findApart_6 : decode cX4_findApart 6 = .ok (.iload_n 2, 1) := by decide +kernel
theorem dX4_findApart_7 : decode cX4_findApart 7 = .ok (.putfield 23, 3) := by decide +kernel
theorem dX4_findApart_10 : decode cX4_findApart 10 = .ok (.aload_n 0, 1) := by decide +kernel
theorem dX4_findApart_11 : decode cX4_findApart 11 = .ok (.iload 5, 2) := by decide +kernel
theorem dX4_findApart_13 : decode cX4_findApart 13 = .ok (.putfield 32, 3) := by decide +kernel
theorem dX4_findApart_16 : decode cX4_findApart 16 = .ok (.aload_n 0, 1) := by decide +kernel
theorem dX4_findApart_17 : decode cX4_findApart 17 = .ok (.bipush 42, 2) := by decide +kernel
theorem dX4_findApart_19 : decode cX4_findApart 19 = .ok (.putfield 35, 3) := by decide +kernel
theorem dX4_findApart_22 : decode cX4_findApart 22 = .ok (.bipush 41, 2) := by decide +kernel
theorem dX4_findApart_24 : decode cX4_findApart 24 = .ok (.istore 6, 2) := by decide +kernel
theorem dX4_findApart_26 : decode cX4_findApart 26 = .ok (.iload 6, 2) := by decide +kernel
theorem dX4_findApart_28 : decode cX4_findApart 28 = .ok (.ifCond .lt 28, 3) := by decide +kernel
theorem dX4_findApart_31 : decode cX4_findApart 31 = .ok (.aload_n 0, 1) := by decide +kernel
theorem dX4_findApart_32 : decode cX4_findApart 32 = .ok (.aload_n 0, 1) := by decide +kernel
theorem dX4_findApart_33 : decode cX4_findApart 33 = .ok (.getfield 23, 3) := by decide +kernel
theorem dX4_findApart_36 : decode cX4_findApart 36 = .ok (.iload 6, 2) := by decide +kernel
theorem dX4_findApart_38 : decode cX4_findApart 38 = .ok (.invokevirtual 59, 3) := by decide +kernel
theorem dX4_findApart_41 : decode cX4_findApart 41 = .ok (.ifCond .eq 15, 3) := by decide +kernel
theorem dX4_findApart_44 : decode cX4_findApart 44 = .ok (.aload_n 0, 1) := by decide +kernel
theorem dX4_findApart_45 : decode cX4_findApart 45 = .ok (.iload 6, 2) := by decide +kernel
theorem dX4_findApart_47 : decode cX4_findApart 47 = .ok (.putfield 35, 3) := by decide +kernel
theorem dX4_findApart_50 : decode cX4_findApart 50 = .ok (.iinc 6 (-1), 3) := by decide +kernel
theorem dX4_findApart_53 : decode cX4_findApart 53 = .ok (.goto (-27), 3) := by decide +kernel
theorem dX4_findApart_56 : decode cX4_findApart 56 = .ok (.aload_n 0, 1) := by decide +kernel
theorem dX4_findApart_57 : decode cX4_findApart 57 = .ok (.iload_n 3, 1) := by decide +kernel
theorem dX4_findApart_58 : decode cX4_findApart 58 = .ok (.iconst 0, 1) := by decide +kernel
theorem dX4_findApart_59 : decode cX4_findApart 59 = .ok (.invokevirtual 55, 3) := by decide +kernel
theorem dX4_findApart_62 : decode cX4_findApart 62 = .ok (.aload_n 0, 1) := by decide +kernel
theorem dX4_findApart_63 : decode cX4_findApart 63 = .ok (.getfield 39, 3) := by decide +kernel
theorem dX4_findApart_66 : decode cX4_findApart 66 = .ok (.ldc 38, 2) := by decide +kernel
theorem dX4_findApart_68 : decode cX4_findApart 68 = .ok (.if_icmp .ge 22, 3) := by decide +kernel
theorem dX4_findApart_71 : decode cX4_findApart 71 = .ok (.aload_n 0, 1) := by decide +kernel
theorem dX4_findApart_72 : decode cX4_findApart 72 = .ok (.invokevirtual 63, 3) := by decide +kernel
theorem dX4_findApart_75 : decode cX4_findApart 75 = .ok (.iload 4, 2) := by decide +kernel
theorem dX4_findApart_77 : decode cX4_findApart 77 = .ok (.if_icmp .le 13, 3) := by decide +kernel
theorem dX4_findApart_80 : decode cX4_findApart 80 = .ok (.aload_n 0, 1) := by decide +kernel
theorem dX4_findApart_81 : decode cX4_findApart 81 = .ok (.iload 4, 2) := by decide +kernel
theorem dX4_findApart_83 : decode cX4_findApart 83 = .ok (.iload_n 3, 1) := by decide +kernel
theorem dX4_findApart_84 : decode cX4_findApart 84 = .ok (.iload 4, 2) := by decide +kernel
theorem dX4_findApart_86 : decode cX4_findApart 86 = .ok (.isub, 1) := by decide +kernel
theorem dX4_findApart_87 : decode cX4_findApart 87 = .ok (.invokevirtual 55, 3) := by decide +kernel
theorem dX4_findApart_90 : decode cX4_findApart 90 = .ok (.aload_n 0, 1) := by decide +kernel
theorem dX4_findApart_91 : decode cX4_findApart 91 = .ok (.getfield 39, 3) := by decide +kernel
theorem dX4_findApart_94 : decode cX4_findApart 94 = .ok (.ldc 38, 2) := by decide +kernel
theorem dX4_findApart_96 : decode cX4_findApart 96 = .ok (.if_icmp .ge 7, 3) := by decide +kernel
theorem dX4_findApart_99 : decode cX4_findApart 99 = .ok (.iconst 1, 1) := by decide +kernel
theorem dX4_findApart_100 : decode cX4_findApart 100 = .ok (.goto 4, 3) := by decide +kernel
theorem dX4_findApart_103 : decode cX4_findApart 103 = .ok (.iconst 0, 1) := by decide +kernel
theorem dX4_findApart_104 : decode cX4_findApart 104 = .ok (.ireturn, 1) := by decide +kernel
theorem dX4_search_0 : decode cX4_search 0 = .ok (.aload_n 0, 1) := by decide +kernel
theorem dX4_search_1 : decode cX4_search 1 = .ok (.iconst 0, 1) := by decide +kernel
theorem dX4_search_2 : decode cX4_search 2 = .ok (.iload_n 1, 1) := by decide +kernel
theorem dX4_search_3 : decode cX4_search 3 = .ok (.bipush 40, 2) := by decide +kernel
theorem dX4_search_5 : decode cX4_search 5 = .ok (.invokestatic 49, 3) := by decide +kernel
theorem dX4_search_8 : decode cX4_search 8 = .ok (.invokestatic 67, 3) := by decide +kernel
theorem dX4_search_11 : decode cX4_search 11 = .ok (.putfield 26, 3) := by decide +kernel
theorem dX4_search_14 : decode cX4_search 14 = .ok (.aload_n 0, 1) := by decide +kernel
theorem dX4_search_15 : decode cX4_search 15 = .ok (.iconst 0, 1) := by decide +kernel
theorem dX4_search_16 : decode cX4_search 16 = .ok (.iload_n 2, 1) := by decide +kernel
theorem dX4_search_17 : decode cX4_search 17 = .ok (.bipush 40, 2) := by decide +kernel
theorem dX4_search_19 : decode cX4_search 19 = .ok (.aload_n 0, 1) := by decide +kernel
theorem dX4_search_20 : decode cX4_search 20 = .ok (.getfield 26, 3) := by decide +kernel
theorem dX4_search_23 : decode cX4_search 23 = .ok (.isub, 1) := by decide +kernel
theorem dX4_search_24 : decode cX4_search 24 = .ok (.invokestatic 49, 3) := by decide +kernel
theorem dX4_search_27 : decode cX4_search 27 = .ok (.invokestatic 67, 3) := by decide +kernel
theorem dX4_search_30 : decode cX4_search 30 = .ok (.putfield 29, 3) := by decide +kernel
theorem dX4_search_33 : decode cX4_search 33 = .ok (.iconst 0, 1) := by decide +kernel
theorem dX4_search_34 : decode cX4_search 34 = .ok (.istore_n 3, 1) := by decide +kernel
theorem dX4_search_35 : decode cX4_search 35 = .ok (.iload_n 3, 1) := by decide +kernel
theorem dX4_search_36 : decode cX4_search 36 = .ok (.aload_n 0, 1) := by decide +kernel
theorem dX4_search_37 : decode cX4_search 37 = .ok (.getfield 26, 3) := by decide +kernel
theorem dX4_search_40 : decode cX4_search 40 = .ok (.iconst 1, 1) := by decide +kernel
theorem dX4_search_41 : decode cX4_search 41 = .ok (.iadd, 1) := by decide +kernel
theorem dX4_search_42 : decode cX4_search 42 = .ok (.sipush 144, 3) := by decide +kernel
theorem dX4_search_45 : decode cX4_search 45 = .ok (.imul, 1) := by decide +kernel
theorem dX4_search_46 : decode cX4_search 46 = .ok (.if_icmp .ge 17, 3) := by decide +kernel
theorem dX4_search_49 : decode cX4_search 49 = .ok (.aload_n 0, 1) := by decide +kernel
theorem dX4_search_50 : decode cX4_search 50 = .ok (.getfield 11, 3) := by decide +kernel
theorem dX4_search_53 : decode cX4_search 53 = .ok (.iload_n 3, 1) := by decide +kernel
theorem dX4_search_54 : decode cX4_search 54 = .ok (.ldc 38, 2) := by decide +kernel
theorem dX4_search_56 : decode cX4_search 56 = .ok (.iastore, 1) := by decide +kernel
theorem dX4_search_57 : decode cX4_search 57 = .ok (.iinc 3 1, 3) := by decide +kernel
theorem dX4_search_60 : decode cX4_search 60 = .ok (.goto (-25), 3) := by decide +kernel
theorem dX4_search_63 : decode cX4_search 63 = .ok (.iconst 0, 1) := by decide +kernel
theorem dX4_search_64 : decode cX4_search 64 = .ok (.istore_n 3, 1) := by decide +kernel
theorem dX4_search_65 : decode cX4_search 65 = .ok (.iload_n 3, 1) := by decide +kernel
theorem dX4_search_66 : decode cX4_search 66 = .ok (.aload_n 0, 1) := by decide +kernel
theorem dX4_search_67 : decode cX4_search 67 = .ok (.getfield 29, 3) := by decide +kernel
theorem dX4_search_70 : decode cX4_search 70 = .ok (.if_icmp .gt 34, 3) := by decide +kernel
theorem dX4_search_73 : decode cX4_search 73 = .ok (.iconst 0, 1) := by decide +kernel
theorem dX4_search_74 : decode cX4_search 74 = .ok (.istore 4, 2) := by decide +kernel
theorem dX4_search_76 : decode cX4_search 76 = .ok (.iload 4, 2) := by decide +kernel
theorem dX4_search_78 : decode cX4_search 78 = .ok (.aload_n 0, 1) := by decide +kernel
theorem dX4_search_79 : decode cX4_search 79 = .ok (.getfield 26, 3) := by decide +kernel
theorem dX4_search_82 : decode cX4_search 82 = .ok (.if_icmp .gt 16, 3) := by decide +kernel
theorem dX4_search_85 : decode cX4_search 85 = .ok (.aload_n 0, 1) := by decide +kernel
theorem dX4_search_86 : decode cX4_search 86 = .ok (.iload 4, 2) := by decide +kernel
theorem dX4_search_88 : decode cX4_search 88 = .ok (.iload_n 3, 1) := by decide +kernel
theorem dX4_search_89 : decode cX4_search 89 = .ok (.invokevirtual 70, 3) := by decide +kernel
theorem dX4_search_92 : decode cX4_search 92 = .ok (.iinc 4 1, 3) := by decide +kernel
theorem dX4_search_95 : decode cX4_search 95 = .ok (.goto (-19), 3) := by decide +kernel
theorem dX4_search_98 : decode cX4_search 98 = .ok (.iinc 3 1, 3) := by decide +kernel
theorem dX4_search_101 : decode cX4_search 101 = .ok (.goto (-36), 3) := by decide +kernel
theorem dX4_search_104 : decode cX4_search 104 = .ok (.aload_n 0, 1) := by decide +kernel
theorem dX4_search_105 : decode cX4_search 105 = .ok (.aload_n 0, 1) := by decide +kernel
theorem dX4_search_106 : decode cX4_search 106 = .ok (.getfield 11, 3) := by decide +kernel
theorem dX4_search_109 : decode cX4_search 109 = .ok (.aload_n 0, 1) := by decide +kernel
theorem dX4_search_110 : decode cX4_search 110 = .ok (.getfield 26, 3) := by decide +kernel
theorem dX4_search_113 : decode cX4_search 113 = .ok (.sipush 144, 3) := by decide +kernel
theorem dX4_search_116 : decode cX4_search 116 = .ok (.imul, 1) := by decide +kernel
theorem dX4_search_117 : decode cX4_search 117 = .ok (.aload_n 0, 1) := by decide +kernel
theorem dX4_search_118 : decode cX4_search 118 = .ok (.getfield 19, 3) := by decide +kernel
theorem dX4_search_121 : decode cX4_search 121 = .ok (.iadd, 1) := by decide +kernel
theorem dX4_search_122 : decode cX4_search 122 = .ok (.iaload, 1) := by decide +kernel
theorem dX4_search_123 : decode cX4_search 123 = .ok (.putfield 39, 3) := by decide +kernel
theorem dX4_search_126 : decode cX4_search 126 = .ok (.return_, 1) := by decide +kernel
theorem dX4_weighRow_0 : decode cX4_weighRow 0 = .ok (.aload_n 0, 1) := by decide +kernel
theorem dX4_weighRow_1 : decode cX4_weighRow 1 = .ok (.getfield 26, 3) := by decide +kernel
theorem dX4_weighRow_4 : decode cX4_weighRow 4 = .ok (.iload_n 1, 1) := by decide +kernel
theorem dX4_weighRow_5 : decode cX4_weighRow 5 = .ok (.isub, 1) := by decide +kernel
theorem dX4_weighRow_6 : decode cX4_weighRow 6 = .ok (.istore_n 3, 1) := by decide +kernel
theorem dX4_weighRow_7 : decode cX4_weighRow 7 = .ok (.iconst 0, 1) := by decide +kernel
theorem dX4_weighRow_8 : decode cX4_weighRow 8 = .ok (.aload_n 0, 1) := by decide +kernel
theorem dX4_weighRow_9 : decode cX4_weighRow 9 = .ok (.getfield 19, 3) := by decide +kernel
theorem dX4_weighRow_12 : decode cX4_weighRow 12 = .ok (.bipush 12, 2) := by decide +kernel
theorem dX4_weighRow_14 : decode cX4_weighRow 14 = .ok (.irem, 1) := by decide +kernel
theorem dX4_weighRow_15 : decode cX4_weighRow 15 = .ok (.iload_n 3, 1) := by decide +kernel
theorem dX4_weighRow_16 : decode cX4_weighRow 16 = .ok (.isub, 1) := by decide +kernel
theorem dX4_weighRow_17 : decode cX4_weighRow 17 = .ok (.aload_n 0, 1) := by decide +kernel
theorem dX4_weighRow_18 : decode cX4_weighRow 18 = .ok (.getfield 23, 3) := by decide +kernel
theorem dX4_weighRow_21 : decode cX4_weighRow 21 = .ok (.bipush 12, 2) := by decide +kernel
theorem dX4_weighRow_23 : decode cX4_weighRow 23 = .ok (.irem, 1) := by decide +kernel
theorem dX4_weighRow_24 : decode cX4_weighRow 24 = .ok (.iload_n 1, 1) := by decide +kernel
theorem dX4_weighRow_25 : decode cX4_weighRow 25 = .ok (.isub, 1) := by decide +kernel
theorem dX4_weighRow_26 : decode cX4_weighRow 26 = .ok (.invokestatic 67, 3) := by decide +kernel
theorem dX4_weighRow_29 : decode cX4_weighRow 29 = .ok (.invokestatic 67, 3) := by decide +kernel
theorem dX4_weighRow_32 : decode cX4_weighRow 32 = .ok (.istore 4, 2) := by decide +kernel
theorem dX4_weighRow_34 : decode cX4_weighRow 34 = .ok (.bipush 11, 2) := by decide +kernel
theorem dX4_weighRow_36 : decode cX4_weighRow 36 = .ok (.aload_n 0, 1) := by decide +kernel
theorem dX4_weighRow_37 : decode cX4_weighRow 37 = .ok (.getfield 19, 3) := by decide +kernel
theorem dX4_weighRow_40 : decode cX4_weighRow 40 = .ok (.bipush 12, 2) := by decide +kernel
theorem dX4_weighRow_42 : decode cX4_weighRow 42 = .ok (.irem, 1) := by decide +kernel
theorem dX4_weighRow_43 : decode cX4_weighRow 43 = .ok (.iload_n 3, 1) := by decide +kernel
theorem dX4_weighRow_44 : decode cX4_weighRow 44 = .ok (.iadd, 1) := by decide +kernel
theorem dX4_weighRow_45 : decode cX4_weighRow 45 = .ok (.aload_n 0, 1) := by decide +kernel
theorem dX4_weighRow_46 : decode cX4_weighRow 46 = .ok (.getfield 23, 3) := by decide +kernel
theorem dX4_weighRow_49 : decode cX4_weighRow 49 = .ok (.bipush 12, 2) := by decide +kernel
theorem dX4_weighRow_51 : decode cX4_weighRow 51 = .ok (.irem, 1) := by decide +kernel
theorem dX4_weighRow_52 : decode cX4_weighRow 52 = .ok (.iload_n 1, 1) := by decide +kernel
theorem dX4_weighRow_53 : decode cX4_weighRow 53 = .ok (.iadd, 1) := by decide +kernel
theorem dX4_weighRow_54 : decode cX4_weighRow 54 = .ok (.invokestatic 49, 3) := by decide +kernel
theorem dX4_weighRow_57 : decode cX4_weighRow 57 = .ok (.invokestatic 49, 3) := by decide +kernel
theorem dX4_weighRow_60 : decode cX4_weighRow 60 = .ok (.istore 5, 2) := by decide +kernel
theorem dX4_weighRow_62 : decode cX4_weighRow 62 = .ok (.iconst 0, 1) := by decide +kernel
theorem dX4_weighRow_63 : decode cX4_weighRow 63 = .ok (.aload_n 0, 1) := by decide +kernel
theorem dX4_weighRow_64 : decode cX4_weighRow 64 = .ok (.getfield 19, 3) := by decide +kernel
theorem dX4_weighRow_67 : decode cX4_weighRow 67 = .ok (.bipush 12, 2) := by decide +kernel
theorem dX4_weighRow_69 : decode cX4_weighRow 69 = .ok (.idiv, 1) := by decide +kernel
theorem dX4_weighRow_70 : decode cX4_weighRow 70 = .ok (.iload_n 3, 1) := by decide +kernel
theorem dX4_weighRow_71 : decode cX4_weighRow 71 = .ok (.isub, 1) := by decide +kernel
theorem dX4_weighRow_72 : decode cX4_weighRow 72 = .ok (.aload_n 0, 1) := by decide +kernel
theorem dX4_weighRow_73 : decode cX4_weighRow 73 = .ok (.getfield 23, 3) := by decide +kernel
theorem dX4_weighRow_76 : decode cX4_weighRow 76 = .ok (.bipush 12, 2) := by decide +kernel
theorem dX4_weighRow_78 : decode cX4_weighRow 78 = .ok (.idiv, 1) := by decide +kernel
theorem dX4_weighRow_79 : decode cX4_weighRow 79 = .ok (.iload_n 1, 1) := by decide +kernel
theorem dX4_weighRow_80 : decode cX4_weighRow 80 = .ok (.isub, 1) := by decide +kernel
theorem dX4_weighRow_81 : decode cX4_weighRow 81 = .ok (.invokestatic 67, 3) := by decide +kernel
theorem dX4_weighRow_84 : decode cX4_weighRow 84 = .ok (.invokestatic 67, 3) := by decide +kernel
theorem dX4_weighRow_87 : decode cX4_weighRow 87 = .ok (.istore 6, 2) := by decide +kernel
theorem dX4_weighRow_89 : decode cX4_weighRow 89 = .ok (.bipush 11, 2) := by decide +kernel
theorem dX4_weighRow_91 : decode cX4_weighRow 91 = .ok (.aload_n 0, 1) := by decide +kernel
theorem dX4_weighRow_92 : decode cX4_weighRow 92 = .ok (.getfield 19, 3) := by decide +kernel
theorem dX4_weighRow_95 : decode cX4_weighRow 95 = .ok (.bipush 12, 2) := by decide +kernel
theorem dX4_weighRow_97 : decode cX4_weighRow 97 = .ok (.idiv, 1) := by decide +kernel
theorem dX4_weighRow_98 : decode cX4_weighRow 98 = .ok (.iload_n 3, 1) := by decide +kernel
theorem dX4_weighRow_99 : decode cX4_weighRow 99 = .ok (.iadd, 1) := by decide +kernel
theorem dX4_weighRow_100 : decode cX4_weighRow 100 = .ok (.aload_n 0, 1) := by decide +kernel
theorem dX4_weighRow_101 : decode cX4_weighRow 101 = .ok (.getfield 23, 3) := by decide +kernel
theorem dX4_weighRow_104 : decode cX4_weighRow 104 = .ok (.bipush 12, 2) := by decide +kernel
theorem dX4_weighRow_106 : decode cX4_weighRow 106 = .ok (.idiv, 1) := by decide +kernel
theorem dX4_weighRow_107 : decode cX4_weighRow 107 = .ok (.iload_n 1, 1) := by decide +kernel
theorem dX4_weighRow_108 : decode cX4_weighRow 108 = .ok (.iadd, 1) := by decide +kernel
theorem dX4_weighRow_109 : decode cX4_weighRow 109 = .ok (.invokestatic 49, 3) := by decide +kernel
theorem dX4_weighRow_112 : decode cX4_weighRow 112 = .ok (.invokestatic 49, 3) := by decide +kernel
theorem dX4_weighRow_115 : decode cX4_weighRow 115 = .ok (.istore 7, 2) := by decide +kernel
theorem dX4_weighRow_117 : decode cX4_weighRow 117 = .ok (.iload 6, 2) := by decide +kernel
theorem dX4_weighRow_119 : decode cX4_weighRow 119 = .ok (.istore 8, 2) := by decide +kernel
theorem dX4_weighRow_121 : decode cX4_weighRow 121 = .ok (.iload 8, 2) := by decide +kernel
theorem dX4_weighRow_123 : decode cX4_weighRow 123 = .ok (.iload 7, 2) := by decide +kernel
theorem dX4_weighRow_125 : decode cX4_weighRow 125 = .ok (.if_icmp .gt 59, 3) := by decide +kernel
theorem dX4_weighRow_128 : decode cX4_weighRow 128 = .ok (.iload 4, 2) := by decide +kernel
theorem dX4_weighRow_130 : decode cX4_weighRow 130 = .ok (.istore 9, 2) := by decide +kernel
theorem dX4_weighRow_132 : decode cX4_weighRow 132 = .ok (.iload 9, 2) := by decide +kernel
theorem dX4_weighRow_134 : decode cX4_weighRow 134 = .ok (.iload 5, 2) := by decide +kernel
theorem dX4_weighRow_136 : decode cX4_weighRow 136 = .ok (.if_icmp .gt 42, 3) := by decide +kernel
theorem dX4_weighRow_139 : decode cX4_weighRow 139 = .ok (.iload_n 1, 1) := by decide +kernel
theorem dX4_weighRow_140 : decode cX4_weighRow 140 = .ok (.sipush 144, 3) := by decide +kernel
theorem dX4_weighRow_143 : decode cX4_weighRow 143 = .ok (.imul, 1) := by decide +kernel
theorem dX4_weighRow_144 : decode cX4_weighRow 144 = .ok (.bipush 12, 2) := by decide +kernel
theorem dX4_weighRow_146 : decode cX4_weighRow 146 = .ok (.iload 8, 2) := by decide +kernel
theorem dX4_weighRow_148 : decode cX4_weighRow 148 = .ok (.imul, 1) := by decide +kernel
theorem dX4_weighRow_149 : decode cX4_weighRow 149 = .ok (.iadd, 1) := by decide +kernel
theorem dX4_weighRow_150 : decode cX4_weighRow 150 = .ok (.iload 9, 2) := by decide +kernel
theorem dX4_weighRow_152 : decode cX4_weighRow 152 = .ok (.iadd, 1) := by decide +kernel
theorem dX4_weighRow_153 : decode cX4_weighRow 153 = .ok (.istore 10, 2) := by decide +kernel
theorem dX4_weighRow_155 : decode cX4_weighRow 155 = .ok (.aload_n 0, 1) := by decide +kernel
theorem dX4_weighRow_156 : decode cX4_weighRow 156 = .ok (.getfield 11, 3) := by decide +kernel
theorem dX4_weighRow_159 : decode cX4_weighRow 159 = .ok (.iload 10, 2) := by decide +kernel
theorem dX4_weighRow_161 : decode cX4_weighRow 161 = .ok (.aload_n 0, 1) := by decide +kernel
theorem dX4_weighRow_162 : decode cX4_weighRow 162 = .ok (.iload_n 1, 1) := by decide +kernel
theorem dX4_weighRow_163 : decode cX4_weighRow 163 = .ok (.iload_n 2, 1) := by decide +kernel
theorem dX4_weighRow_164 : decode cX4_weighRow 164 = .ok (.iload 9, 2) := by decide +kernel
theorem dX4_weighRow_166 : decode cX4_weighRow 166 = .ok (.iload 8, 2) := by decide +kernel
theorem dX4_weighRow_168 : decode cX4_weighRow 168 = .ok (.invokevirtual 73, 3) := by decide +kernel
theorem dX4_weighRow_171 : decode cX4_weighRow 171 = .ok (.iastore, 1) := by decide +kernel
theorem dX4_weighRow_172 : decode cX4_weighRow 172 = .ok (.iinc 9 1, 3) := by decide +kernel
theorem dX4_weighRow_175 : decode cX4_weighRow 175 = .ok (.goto (-43), 3) := by decide +kernel
theorem dX4_weighRow_178 : decode cX4_weighRow 178 = .ok (.iinc 8 1, 3) := by decide +kernel
theorem dX4_weighRow_181 : decode cX4_weighRow 181 = .ok (.goto (-60), 3) := by decide +kernel
theorem dX4_weighRow_184 : decode cX4_weighRow 184 = .ok (.return_, 1) := by decide +kernel
theorem dX4_weigh_0 : decode cX4_weigh 0 = .ok (.bipush 12, 2) := by decide +kernel
theorem dX4_weigh_2 : decode cX4_weigh 2 = .ok (.iload 4, 2) := by decide +kernel
theorem dX4_weigh_4 : decode cX4_weigh 4 = .ok (.imul, 1) := by decide +kernel
theorem dX4_weigh_5 : decode cX4_weigh 5 = .ok (.iload_n 3, 1) := by decide +kernel
theorem dX4_weigh_6 : decode cX4_weigh 6 = .ok (.iadd, 1) := by decide +kernel
theorem dX4_weigh_7 : decode cX4_weigh 7 = .ok (.istore 5, 2) := by decide +kernel
theorem dX4_weigh_9 : decode cX4_weigh 9 = .ok (.aload_n 0, 1) := by decide +kernel
theorem dX4_weigh_10 : decode cX4_weigh 10 = .ok (.iload_n 1, 1) := by decide +kernel
theorem dX4_weigh_11 : decode cX4_weigh 11 = .ok (.iload_n 2, 1) := by decide +kernel
theorem dX4_weigh_12 : decode cX4_weigh 12 = .ok (.invokevirtual 77, 3) := by decide +kernel
theorem dX4_weigh_15 : decode cX4_weigh 15 = .ok (.istore 6, 2) := by decide +kernel
theorem dX4_weigh_17 : decode cX4_weigh 17 = .ok (.aload_n 0, 1) := by decide +kernel
theorem dX4_weigh_18 : decode cX4_weigh 18 = .ok (.getfield 42, 3) := by decide +kernel
theorem dX4_weigh_21 : decode cX4_weigh 21 = .ok (.iload 5, 2) := by decide +kernel
theorem dX4_weigh_23 : decode cX4_weigh 23 = .ok (.iaload, 1) := by decide +kernel
theorem dX4_weigh_24 : decode cX4_weigh 24 = .ok (.iconst (-1), 1) := by decide +kernel
theorem dX4_weigh_25 : decode cX4_weigh 25 = .ok (.if_icmp .eq 14, 3) := by decide +kernel
theorem dX4_weigh_28 : decode cX4_weigh 28 = .ok (.aload_n 0, 1) := by decide +kernel
theorem dX4_weigh_29 : decode cX4_weigh 29 = .ok (.iload 5, 2) := by decide +kernel
theorem dX4_weigh_31 : decode cX4_weigh 31 = .ok (.iload 6, 2) := by decide +kernel
theorem dX4_weigh_33 : decode cX4_weigh 33 = .ok (.invokevirtual 59, 3) := by decide +kernel
theorem dX4_weigh_36 : decode cX4_weigh 36 = .ok (.ifCond .ne 6, 3) := by decide +kernel
theorem dX4_weigh_39 : decode cX4_weigh 39 = .ok (.ldc 38, 2) := by decide +kernel
theorem dX4_weigh_41 : decode cX4_weigh 41 = .ok (.ireturn, 1) := by decide +kernel
theorem dX4_weigh_42 : decode cX4_weigh 42 = .ok (.aload_n 0, 1) := by decide +kernel
theorem dX4_weigh_43 : decode cX4_weigh 43 = .ok (.iload 5, 2) := by decide +kernel
theorem dX4_weigh_45 : decode cX4_weigh 45 = .ok (.iload 6, 2) := by decide +kernel
theorem dX4_weigh_47 : decode cX4_weigh 47 = .ok (.invokevirtual 80, 3) := by decide +kernel
theorem dX4_weigh_50 : decode cX4_weigh 50 = .ok (.ifCond .eq 5, 3) := by decide +kernel
theorem dX4_weigh_53 : decode cX4_weigh 53 = .ok (.iconst 0, 1) := by decide +kernel
theorem dX4_weigh_54 : decode cX4_weigh 54 = .ok (.ireturn, 1) := by decide +kernel
theorem dX4_weigh_55 : decode cX4_weigh 55 = .ok (.aload_n 0, 1) := by decide +kernel
theorem dX4_weigh_56 : decode cX4_weigh 56 = .ok (.iload_n 1, 1) := by decide +kernel
theorem dX4_weigh_57 : decode cX4_weigh 57 = .ok (.iload_n 2, 1) := by decide +kernel
theorem dX4_weigh_58 : decode cX4_weigh 58 = .ok (.iload 5, 2) := by decide +kernel
theorem dX4_weigh_60 : decode cX4_weigh 60 = .ok (.invokevirtual 83, 3) := by decide +kernel
theorem dX4_weigh_63 : decode cX4_weigh 63 = .ok (.istore 7, 2) := by decide +kernel
theorem dX4_weigh_65 : decode cX4_weigh 65 = .ok (.iconst 0, 1) := by decide +kernel
theorem dX4_weigh_66 : decode cX4_weigh 66 = .ok (.istore 8, 2) := by decide +kernel
theorem dX4_weigh_68 : decode cX4_weigh 68 = .ok (.iconst 1, 1) := by decide +kernel
theorem dX4_weigh_69 : decode cX4_weigh 69 = .ok (.istore 9, 2) := by decide +kernel
theorem dX4_weigh_71 : decode cX4_weigh 71 = .ok (.iload 9, 2) := by decide +kernel
theorem dX4_weigh_73 : decode cX4_weigh 73 = .ok (.getstatic 87, 3) := by decide +kernel
theorem dX4_weigh_76 : decode cX4_weigh 76 = .ok (.arraylength, 1) := by decide +kernel
theorem dX4_weigh_77 : decode cX4_weigh 77 = .ok (.if_icmp .ge 54, 3) := by decide +kernel
theorem dX4_weigh_80 : decode cX4_weigh 80 = .ok (.iload_n 1, 1) := by decide +kernel
theorem dX4_weigh_81 : decode cX4_weigh 81 = .ok (.ifCond .le 50, 3) := by decide +kernel
theorem dX4_weigh_84 : decode cX4_weigh 84 = .ok (.aload_n 0, 1) := by decide +kernel
theorem dX4_weigh_85 : decode cX4_weigh 85 = .ok (.iload_n 1, 1) := by decide +kernel
theorem dX4_weigh_86 : decode cX4_weigh 86 = .ok (.iconst 1, 1) := by decide +kernel
theorem dX4_weigh_87 : decode cX4_weigh 87 = .ok (.isub, 1) := by decide +kernel
theorem dX4_weigh_88 : decode cX4_weigh 88 = .ok (.iload_n 3, 1) := by decide +kernel
theorem dX4_weigh_89 : decode cX4_weigh 89 = .ok (.getstatic 87, 3) := by decide +kernel
theorem dX4_weigh_92 : decode cX4_weigh 92 = .ok (.iload 9, 2) := by decide +kernel
theorem dX4_weigh_94 : decode cX4_weigh 94 = .ok (.iaload, 1) := by decide +kernel
theorem dX4_weigh_95 : decode cX4_weigh 95 = .ok (.iadd, 1) := by decide +kernel
theorem dX4_weigh_96 : decode cX4_weigh 96 = .ok (.iload 4, 2) := by decide +kernel
theorem dX4_weigh_98 : decode cX4_weigh 98 = .ok (.getstatic 90, 3) := by decide +kernel
theorem dX4_weigh_101 : decode cX4_weigh 101 = .ok (.iload 9, 2) := by decide +kernel
theorem dX4_weigh_103 : decode cX4_weigh 103 = .ok (.iaload, 1) := by decide +kernel
theorem dX4_weigh_104 : decode cX4_weigh 104 = .ok (.iadd, 1) := by decide +kernel
theorem dX4_weigh_105 : decode cX4_weigh 105 = .ok (.invokevirtual 93, 3) := by decide +kernel
theorem dX4_weigh_108 : decode cX4_weigh 108 = .ok (.istore 10, 2) := by decide +kernel
theorem dX4_weigh_110 : decode cX4_weigh 110 = .ok (.iload 10, 2) := by decide +kernel
theorem dX4_weigh_112 : decode cX4_weigh 112 = .ok (.iload 7, 2) := by decide +kernel
theorem dX4_weigh_114 : decode cX4_weigh 114 = .ok (.if_icmp .ge 11, 3) := by decide +kernel
theorem dX4_weigh_117 : decode cX4_weigh 117 = .ok (.iload 10, 2) := by decide +kernel
theorem dX4_weigh_119 : decode cX4_weigh 119 = .ok (.istore 7, 2) := by decide +kernel
theorem dX4_weigh_121 : decode cX4_weigh 121 = .ok (.iload 9, 2) := by decide +kernel
theorem dX4_weigh_123 : decode cX4_weigh 123 = .ok (.istore 8, 2) := by decide +kernel
theorem dX4_weigh_125 : decode cX4_weigh 125 = .ok (.iinc 9 1, 3) := by decide +kernel
theorem dX4_weigh_128 : decode cX4_weigh 128 = .ok (.goto (-57), 3) := by decide +kernel
theorem dX4_weigh_131 : decode cX4_weigh 131 = .ok (.aload_n 0, 1) := by decide +kernel
theorem dX4_weigh_132 : decode cX4_weigh 132 = .ok (.iload_n 1, 1) := by decide +kernel
theorem dX4_weigh_133 : decode cX4_weigh 133 = .ok (.iload_n 2, 1) := by decide +kernel
theorem dX4_weigh_134 : decode cX4_weigh 134 = .ok (.iload 5, 2) := by decide +kernel
theorem dX4_weigh_136 : decode cX4_weigh 136 = .ok (.iload 8, 2) := by decide +kernel
theorem dX4_weigh_138 : decode cX4_weigh 138 = .ok (.invokevirtual 96, 3) := by decide +kernel
theorem dX4_weigh_141 : decode cX4_weigh 141 = .ok (.iload 7, 2) := by decide +kernel
theorem dX4_weigh_143 : decode cX4_weigh 143 = .ok (.ireturn, 1) := by decide +kernel
theorem dX4_worthOfStaying_0 : decode cX4_worthOfStaying 0 = .ok (.ldc 38, 2) := by decide +kernel
theorem dX4_worthOfStaying_2 : decode cX4_worthOfStaying 2 = .ok (.istore 4, 2) := by decide +kernel
theorem dX4_worthOfStaying_4 : decode cX4_worthOfStaying 4 = .ok (.iload_n 2, 1) := by decide +kernel
theorem dX4_worthOfStaying_5 : decode cX4_worthOfStaying 5 = .ok (.ifCond .le 20, 3) := by decide +kernel
theorem dX4_worthOfStaying_8 : decode cX4_worthOfStaying 8 = .ok (.aload_n 0, 1) := by decide +kernel
theorem dX4_worthOfStaying_9 : decode cX4_worthOfStaying 9 = .ok (.getfield 11, 3) := by decide +kernel
theorem dX4_worthOfStaying_12 : decode cX4_worthOfStaying 12 = .ok (.iload_n 1, 1) := by decide +kernel
theorem dX4_worthOfStaying_13 : decode cX4_worthOfStaying 13 = .ok (.sipush 144, 3) := by decide +kernel
theorem dX4_worthOfStaying_16 : decode cX4_worthOfStaying 16 = .ok (.imul, 1) := by decide +kernel
theorem dX4_worthOfStaying_17 : decode cX4_worthOfStaying 17 = .ok (.iload_n 3, 1) := by decide +kernel
theorem dX4_worthOfStaying_18 : decode cX4_worthOfStaying 18 = .ok (.iadd, 1) := by decide +kernel
theorem dX4_worthOfStaying_19 : decode cX4_worthOfStaying 19 = .ok (.iaload, 1) := by decide +kernel
theorem dX4_worthOfStaying_20 : decode cX4_worthOfStaying 20 = .ok (.istore 4, 2) := by decide +kernel
theorem dX4_worthOfStaying_22 : decode cX4_worthOfStaying 22 = .ok (.goto 23, 3) := by decide +kernel
theorem dX4_worthOfStaying_25 : decode cX4_worthOfStaying 25 = .ok (.iload_n 1, 1) := by decide +kernel
theorem dX4_worthOfStaying_26 : decode cX4_worthOfStaying 26 = .ok (.ifCond .le 19, 3) := by decide +kernel
theorem dX4_worthOfStaying_29 : decode cX4_worthOfStaying 29 = .ok (.aload_n 0, 1) := by decide +kernel
theorem dX4_worthOfStaying_30 : decode cX4_worthOfStaying 30 = .ok (.getfield 11, 3) := by decide +kernel
theorem dX4_worthOfStaying_33 : decode cX4_worthOfStaying 33 = .ok (.iload_n 1, 1) := by decide +kernel
theorem dX4_worthOfStaying_34 : decode cX4_worthOfStaying 34 = .ok (.iconst 1, 1) := by decide +kernel
theorem dX4_worthOfStaying_35 : decode cX4_worthOfStaying 35 = .ok (.isub, 1) := by decide +kernel
theorem dX4_worthOfStaying_36 : decode cX4_worthOfStaying 36 = .ok (.sipush 144, 3) := by decide +kernel
theorem dX4_worthOfStaying_39 : decode cX4_worthOfStaying 39 = .ok (.imul, 1) := by decide +kernel
theorem dX4_worthOfStaying_40 : decode cX4_worthOfStaying 40 = .ok (.iload_n 3, 1) := by decide +kernel
theorem dX4_worthOfStaying_41 : decode cX4_worthOfStaying 41 = .ok (.iadd, 1) := by decide +kernel
theorem dX4_worthOfStaying_42 : decode cX4_worthOfStaying 42 = .ok (.iaload, 1) := by decide +kernel
theorem dX4_worthOfStaying_43 : decode cX4_worthOfStaying 43 = .ok (.istore 4, 2) := by decide +kernel
theorem dX4_worthOfStaying_45 : decode cX4_worthOfStaying 45 = .ok (.iload 4, 2) := by decide +kernel
theorem dX4_worthOfStaying_47 : decode cX4_worthOfStaying 47 = .ok (.ldc 38, 2) := by decide +kernel
theorem dX4_worthOfStaying_49 : decode cX4_worthOfStaying 49 = .ok (.if_icmp .ge 22, 3) := by decide +kernel
theorem dX4_worthOfStaying_52 : decode cX4_worthOfStaying 52 = .ok (.iload 4, 2) := by decide +kernel
theorem dX4_worthOfStaying_54 : decode cX4_worthOfStaying 54 = .ok (.aload_n 0, 1) := by decide +kernel
theorem dX4_worthOfStaying_55 : decode cX4_worthOfStaying 55 = .ok (.getfield 42, 3) := by decide +kernel
theorem dX4_worthOfStaying_58 : decode cX4_worthOfStaying 58 = .ok (.iload_n 3, 1) := by decide +kernel
theorem dX4_worthOfStaying_59 : decode cX4_worthOfStaying 59 = .ok (.iaload, 1) := by decide +kernel
theorem dX4_worthOfStaying_60 : decode cX4_worthOfStaying 60 = .ok (.sipush 4096, 3) := by decide +kernel
theorem dX4_worthOfStaying_63 : decode cX4_worthOfStaying 63 = .ok (.imul, 1) := by decide +kernel
theorem dX4_worthOfStaying_64 : decode cX4_worthOfStaying 64 = .ok (.iadd, 1) := by decide +kernel
theorem dX4_worthOfStaying_65 : decode cX4_worthOfStaying 65 = .ok (.bipush 64, 2) := by decide +kernel
theorem dX4_worthOfStaying_67 : decode cX4_worthOfStaying 67 = .ok (.iadd, 1) := by decide +kernel
theorem dX4_worthOfStaying_68 : decode cX4_worthOfStaying 68 = .ok (.goto 5, 3) := by decide +kernel
theorem dX4_worthOfStaying_71 : decode cX4_worthOfStaying 71 = .ok (.ldc 38, 2) := by decide +kernel
theorem dX4_worthOfStaying_73 : decode cX4_worthOfStaying 73 = .ok (.ireturn, 1) := by decide +kernel
theorem dX4_worthOfGoing_0 : decode cX4_worthOfGoing 0 = .ok (.iload_n 2, 1) := by decide +kernel
theorem dX4_worthOfGoing_1 : decode cX4_worthOfGoing 1 = .ok (.ifCond .lt 19, 3) := by decide +kernel
theorem dX4_worthOfGoing_4 : decode cX4_worthOfGoing 4 = .ok (.iload_n 2, 1) := by decide +kernel
theorem dX4_worthOfGoing_5 : decode cX4_worthOfGoing 5 = .ok (.bipush 12, 2) := by decide +kernel
theorem dX4_worthOfGoing_7 : decode cX4_worthOfGoing 7 = .ok (.if_icmp .ge 13, 3) := by decide +kernel
theorem dX4_worthOfGoing_10 : decode cX4_worthOfGoing 10 = .ok (.iload_n 3, 1) := by decide +kernel
theorem dX4_worthOfGoing_11 : decode cX4_worthOfGoing 11 = .ok (.ifCond .lt 9, 3) := by decide +kernel
theorem dX4_worthOfGoing_14 : decode cX4_worthOfGoing 14 = .ok (.iload_n 3, 1) := by decide +kernel
theorem dX4_worthOfGoing_15 : decode cX4_worthOfGoing 15 = .ok (.bipush 12, 2) := by decide +kernel
theorem dX4_worthOfGoing_17 : decode cX4_worthOfGoing 17 = .ok (.if_icmp .lt 6, 3) := by decide +kernel
theorem dX4_worthOfGoing_20 : decode cX4_worthOfGoing 20 = .ok (.ldc 38, 2) := by decide +kernel
theorem dX4_worthOfGoing_22 : decode cX4_worthOfGoing 22 = .ok (.ireturn, 1) := by decide +kernel
theorem dX4_worthOfGoing_23 : decode cX4_worthOfGoing 23 = .ok (.bipush 12, 2) := by decide +kernel
theorem dX4_worthOfGoing_25 : decode cX4_worthOfGoing 25 = .ok (.iload_n 3, 1) := by decide +kernel
theorem dX4_worthOfGoing_26 : decode cX4_worthOfGoing 26 = .ok (.imul, 1) := by decide +kernel
theorem dX4_worthOfGoing_27 : decode cX4_worthOfGoing 27 = .ok (.iload_n 2, 1) := by decide +kernel
theorem dX4_worthOfGoing_28 : decode cX4_worthOfGoing 28 = .ok (.iadd, 1) := by decide +kernel
theorem dX4_worthOfGoing_29 : decode cX4_worthOfGoing 29 = .ok (.istore 4, 2) := by decide +kernel
theorem dX4_worthOfGoing_31 : decode cX4_worthOfGoing 31 = .ok (.aload_n 0, 1) := by decide +kernel
theorem dX4_worthOfGoing_32 : decode cX4_worthOfGoing 32 = .ok (.getfield 11, 3) := by decide +kernel
theorem dX4_worthOfGoing_35 : decode cX4_worthOfGoing 35 = .ok (.iload_n 1, 1) := by decide +kernel
theorem dX4_worthOfGoing_36 : decode cX4_worthOfGoing 36 = .ok (.sipush 144, 3) := by decide +kernel
theorem dX4_worthOfGoing_39 : decode cX4_worthOfGoing 39 = .ok (.imul, 1) := by decide +kernel
theorem dX4_worthOfGoing_40 : decode cX4_worthOfGoing 40 = .ok (.iload 4, 2) := by decide +kernel
theorem dX4_worthOfGoing_42 : decode cX4_worthOfGoing 42 = .ok (.iadd, 1) := by decide +kernel
theorem dX4_worthOfGoing_43 : decode cX4_worthOfGoing 43 = .ok (.iaload, 1) := by decide +kernel
theorem dX4_worthOfGoing_44 : decode cX4_worthOfGoing 44 = .ok (.istore 5, 2) := by decide +kernel
theorem dX4_worthOfGoing_46 : decode cX4_worthOfGoing 46 = .ok (.iload 5, 2) := by decide +kernel
theorem dX4_worthOfGoing_48 : decode cX4_worthOfGoing 48 = .ok (.ldc 38, 2) := by decide +kernel
theorem dX4_worthOfGoing_50 : decode cX4_worthOfGoing 50 = .ok (.if_icmp .ge 25, 3) := by decide +kernel
theorem dX4_worthOfGoing_53 : decode cX4_worthOfGoing 53 = .ok (.iload 5, 2) := by decide +kernel
theorem dX4_worthOfGoing_55 : decode cX4_worthOfGoing 55 = .ok (.aload_n 0, 1) := by decide +kernel
theorem dX4_worthOfGoing_56 : decode cX4_worthOfGoing 56 = .ok (.getfield 42, 3) := by decide +kernel
theorem dX4_worthOfGoing_59 : decode cX4_worthOfGoing 59 = .ok (.iload 4, 2) := by decide +kernel
theorem dX4_worthOfGoing_61 : decode cX4_worthOfGoing 61 = .ok (.iaload, 1) := by decide +kernel
theorem dX4_worthOfGoing_62 : decode cX4_worthOfGoing 62 = .ok (.sipush 4096, 3) := by decide +kernel
theorem dX4_worthOfGoing_65 : decode cX4_worthOfGoing 65 = .ok (.imul, 1) := by decide +kernel
theorem dX4_worthOfGoing_66 : decode cX4_worthOfGoing 66 = .ok (.iadd, 1) := by decide +kernel
theorem dX4_worthOfGoing_67 : decode cX4_worthOfGoing 67 = .ok (.bipush 64, 2) := by decide +kernel
theorem dX4_worthOfGoing_69 : decode cX4_worthOfGoing 69 = .ok (.iadd, 1) := by decide +kernel
theorem dX4_worthOfGoing_70 : decode cX4_worthOfGoing 70 = .ok (.iconst 1, 1) := by decide +kernel
theorem dX4_worthOfGoing_71 : decode cX4_worthOfGoing 71 = .ok (.iadd, 1) := by decide +kernel
theorem dX4_worthOfGoing_72 : decode cX4_worthOfGoing 72 = .ok (.goto 5, 3) := by decide +kernel
theorem dX4_worthOfGoing_75 : decode cX4_worthOfGoing 75 = .ok (.ldc 38, 2) := by decide +kernel
theorem dX4_worthOfGoing_77 : decode cX4_worthOfGoing 77 = .ok (.ireturn, 1) := by decide +kernel
theorem dX4_dayOf_0 : decode cX4_dayOf 0 = .ok (.aload_n 0, 1) := by decide +kernel
theorem dX4_dayOf_1 : decode cX4_dayOf 1 = .ok (.getfield 26, 3) := by decide +kernel
theorem dX4_dayOf_4 : decode cX4_dayOf 4 = .ok (.aload_n 0, 1) := by decide +kernel
theorem dX4_dayOf_5 : decode cX4_dayOf 5 = .ok (.getfield 29, 3) := by decide +kernel
theorem dX4_dayOf_8 : decode cX4_dayOf 8 = .ok (.iadd, 1) := by decide +kernel
theorem dX4_dayOf_9 : decode cX4_dayOf 9 = .ok (.iload_n 1, 1) := by decide +kernel
theorem dX4_dayOf_10 : decode cX4_dayOf 10 = .ok (.isub, 1) := by decide +kernel
theorem dX4_dayOf_11 : decode cX4_dayOf 11 = .ok (.iload_n 2, 1) := by decide +kernel
theorem dX4_dayOf_12 : decode cX4_dayOf 12 = .ok (.isub, 1) := by decide +kernel
theorem dX4_dayOf_13 : decode cX4_dayOf 13 = .ok (.ireturn, 1) := by decide +kernel
theorem dX4_endsAt_0 : decode cX4_endsAt 0 = .ok (.iload_n 1, 1) := by decide +kernel
theorem dX4_endsAt_1 : decode cX4_endsAt 1 = .ok (.aload_n 0, 1) := by decide +kernel
theorem dX4_endsAt_2 : decode cX4_endsAt 2 = .ok (.getfield 23, 3) := by decide +kernel
theorem dX4_endsAt_5 : decode cX4_endsAt 5 = .ok (.if_icmp .ne 15, 3) := by decide +kernel
theorem dX4_endsAt_8 : decode cX4_endsAt 8 = .ok (.iload_n 2, 1) := by decide +kernel
theorem dX4_endsAt_9 : decode cX4_endsAt 9 = .ok (.aload_n 0, 1) := by decide +kernel
theorem dX4_endsAt_10 : decode cX4_endsAt 10 = .ok (.getfield 35, 3) := by decide +kernel
theorem dX4_endsAt_13 : decode cX4_endsAt 13 = .ok (.if_icmp .lt 7, 3) := by decide +kernel
theorem dX4_endsAt_16 : decode cX4_endsAt 16 = .ok (.iconst 1, 1) := by decide +kernel
theorem dX4_endsAt_17 : decode cX4_endsAt 17 = .ok (.goto 4, 3) := by decide +kernel
theorem dX4_endsAt_20 : decode cX4_endsAt 20 = .ok (.iconst 0, 1) := by decide +kernel
theorem dX4_endsAt_21 : decode cX4_endsAt 21 = .ok (.ireturn, 1) := by decide +kernel
theorem dX4_isApart_0 : decode cX4_isApart 0 = .ok (.aload_n 0, 1) := by decide +kernel
theorem dX4_isApart_1 : decode cX4_isApart 1 = .ok (.getfield 32, 3) := by decide +kernel
theorem dX4_isApart_4 : decode cX4_isApart 4 = .ok (.iconst (-1), 1) := by decide +kernel
theorem dX4_isApart_5 : decode cX4_isApart 5 = .ok (.if_icmp .ne 5, 3) := by decide +kernel
theorem dX4_isApart_8 : decode cX4_isApart 8 = .ok (.iconst 1, 1) := by decide +kernel
theorem dX4_isApart_9 : decode cX4_isApart 9 = .ok (.ireturn, 1) := by decide +kernel
theorem dX4_isApart_10 : decode cX4_isApart 10 = .ok (.iload_n 2, 1) := by decide +kernel
theorem dX4_isApart_11 : decode cX4_isApart 11 = .ok (.iconst 1, 1) := by decide +kernel
theorem dX4_isApart_12 : decode cX4_isApart 12 = .ok (.if_icmp .lt 21, 3) := by decide +kernel
theorem dX4_isApart_15 : decode cX4_isApart 15 = .ok (.aload_n 0, 1) := by decide +kernel
theorem dX4_isApart_16 : decode cX4_isApart 16 = .ok (.iload_n 1, 1) := by decide +kernel
theorem dX4_isApart_17 : decode cX4_isApart 17 = .ok (.aload_n 0, 1) := by decide +kernel
theorem dX4_isApart_18 : decode cX4_isApart 18 = .ok (.getfield 45, 3) := by decide +kernel
theorem dX4_isApart_21 : decode cX4_isApart 21 = .ok (.iload_n 2, 1) := by decide +kernel
theorem dX4_isApart_22 : decode cX4_isApart 22 = .ok (.iconst 1, 1) := by decide +kernel
theorem dX4_isApart_23 : decode cX4_isApart 23 = .ok (.isub, 1) := by decide +kernel
theorem dX4_isApart_24 : decode cX4_isApart 24 = .ok (.invokevirtual 100, 3) := by decide +kernel
theorem dX4_isApart_27 : decode cX4_isApart 27 = .ok (.invokevirtual 106, 3) := by decide +kernel
theorem dX4_isApart_30 : decode cX4_isApart 30 = .ok (.ifCond .eq 41, 3) := by decide +kernel
theorem dX4_isApart_33 : decode cX4_isApart 33 = .ok (.aload_n 0, 1) := by decide +kernel
theorem dX4_isApart_34 : decode cX4_isApart 34 = .ok (.iload_n 1, 1) := by decide +kernel
theorem dX4_isApart_35 : decode cX4_isApart 35 = .ok (.aload_n 0, 1) := by decide +kernel
theorem dX4_isApart_36 : decode cX4_isApart 36 = .ok (.getfield 45, 3) := by decide +kernel
theorem dX4_isApart_39 : decode cX4_isApart 39 = .ok (.iload_n 2, 1) := by decide +kernel
theorem dX4_isApart_40 : decode cX4_isApart 40 = .ok (.invokevirtual 100, 3) := by decide +kernel
theorem dX4_isApart_43 : decode cX4_isApart 43 = .ok (.invokevirtual 106, 3) := by decide +kernel
theorem dX4_isApart_46 : decode cX4_isApart 46 = .ok (.ifCond .eq 25, 3) := by decide +kernel
theorem dX4_isApart_49 : decode cX4_isApart 49 = .ok (.aload_n 0, 1) := by decide +kernel
theorem dX4_isApart_50 : decode cX4_isApart 50 = .ok (.iload_n 1, 1) := by decide +kernel
theorem dX4_isApart_51 : decode cX4_isApart 51 = .ok (.aload_n 0, 1) := by decide +kernel
theorem dX4_isApart_52 : decode cX4_isApart 52 = .ok (.getfield 45, 3) := by decide +kernel
theorem dX4_isApart_55 : decode cX4_isApart 55 = .ok (.iload_n 2, 1) := by decide +kernel
theorem dX4_isApart_56 : decode cX4_isApart 56 = .ok (.iconst 1, 1) := by decide +kernel
theorem dX4_isApart_57 : decode cX4_isApart 57 = .ok (.iadd, 1) := by decide +kernel
theorem dX4_isApart_58 : decode cX4_isApart 58 = .ok (.invokevirtual 100, 3) := by decide +kernel
theorem dX4_isApart_61 : decode cX4_isApart 61 = .ok (.invokevirtual 106, 3) := by decide +kernel
theorem dX4_isApart_64 : decode cX4_isApart 64 = .ok (.ifCond .eq 7, 3) := by decide +kernel
theorem dX4_isApart_67 : decode cX4_isApart 67 = .ok (.iconst 1, 1) := by decide +kernel
theorem dX4_isApart_68 : decode cX4_isApart 68 = .ok (.goto 4, 3) := by decide +kernel
theorem dX4_isApart_71 : decode cX4_isApart 71 = .ok (.iconst 0, 1) := by decide +kernel
theorem dX4_isApart_72 : decode cX4_isApart 72 = .ok (.ireturn, 1) := by decide +kernel
theorem dX4_isBeyondGap_0 : decode cX4_isBeyondGap 0 = .ok (.iload_n 1, 1) := by decide +kernel
theorem dX4_isBeyondGap_1 : decode cX4_isBeyondGap 1 = .ok (.bipush 12, 2) := by decide +kernel
theorem dX4_isBeyondGap_3 : decode cX4_isBeyondGap 3 = .ok (.irem, 1) := by decide +kernel
theorem dX4_isBeyondGap_4 : decode cX4_isBeyondGap 4 = .ok (.iload_n 2, 1) := by decide +kernel
theorem dX4_isBeyondGap_5 : decode cX4_isBeyondGap 5 = .ok (.bipush 12, 2) := by decide +kernel
theorem dX4_isBeyondGap_7 : decode cX4_isBeyondGap 7 = .ok (.irem, 1) := by decide +kernel
theorem dX4_isBeyondGap_8 : decode cX4_isBeyondGap 8 = .ok (.isub, 1) := by decide +kernel
theorem dX4_isBeyondGap_9 : decode cX4_isBeyondGap 9 = .ok (.istore_n 3, 1) := by decide +kernel
theorem dX4_isBeyondGap_10 : decode cX4_isBeyondGap 10 = .ok (.iload_n 1, 1) := by decide +kernel
theorem dX4_isBeyondGap_11 : decode cX4_isBeyondGap 11 = .ok (.bipush 12, 2) := by decide +kernel
theorem dX4_isBeyondGap_13 : decode cX4_isBeyondGap 13 = .ok (.idiv, 1) := by decide +kernel
theorem dX4_isBeyondGap_14 : decode cX4_isBeyondGap 14 = .ok (.iload_n 2, 1) := by decide +kernel
theorem dX4_isBeyondGap_15 : decode cX4_isBeyondGap 15 = .ok (.bipush 12, 2) := by decide +kernel
theorem dX4_isBeyondGap_17 : decode cX4_isBeyondGap 17 = .ok (.idiv, 1) := by decide +kernel
theorem dX4_isBeyondGap_18 : decode cX4_isBeyondGap 18 = .ok (.isub, 1) := by decide +kernel
theorem dX4_isBeyondGap_19 : decode cX4_isBeyondGap 19 = .ok (.istore 4, 2) := by decide +kernel
theorem dX4_isBeyondGap_21 : decode cX4_isBeyondGap 21 = .ok (.iload_n 3, 1) := by decide +kernel
theorem dX4_isBeyondGap_22 : decode cX4_isBeyondGap 22 = .ok (.aload_n 0, 1) := by decide +kernel
theorem dX4_isBeyondGap_23 : decode cX4_isBeyondGap 23 = .ok (.getfield 32, 3) := by decide +kernel
theorem dX4_isBeyondGap_26 : decode cX4_isBeyondGap 26 = .ok (.if_icmp .gt 31, 3) := by decide +kernel
theorem dX4_isBeyondGap_29 : decode cX4_isBeyondGap 29 = .ok (.iload_n 3, 1) := by decide +kernel
theorem dX4_isBeyondGap_30 : decode cX4_isBeyondGap 30 = .ok (.aload_n 0, 1) := by decide +kernel
theorem dX4_isBeyondGap_31 : decode cX4_isBeyondGap 31 = .ok (.getfield 32, 3) := by decide +kernel
theorem dX4_isBeyondGap_34 : decode cX4_isBeyondGap 34 = .ok (.ineg, 1) := by decide +kernel
theorem dX4_isBeyondGap_35 : decode cX4_isBeyondGap 35 = .ok (.if_icmp .lt 22, 3) := by decide +kernel
theorem dX4_isBeyondGap_38 : decode cX4_isBeyondGap 38 = .ok (.iload 4, 2) := by decide +kernel
theorem dX4_isBeyondGap_40 : decode cX4_isBeyondGap 40 = .ok (.aload_n 0, 1) := by decide +kernel
theorem dX4_isBeyondGap_41 : decode cX4_isBeyondGap 41 = .ok (.getfield 32, 3) := by decide +kernel
theorem dX4_isBeyondGap_44 : decode cX4_isBeyondGap 44 = .ok (.if_icmp .gt 13, 3) := by decide +kernel
theorem dX4_isBeyondGap_47 : decode cX4_isBeyondGap 47 = .ok (.iload 4, 2) := by decide +kernel
theorem dX4_isBeyondGap_49 : decode cX4_isBeyondGap 49 = .ok (.aload_n 0, 1) := by decide +kernel
theorem dX4_isBeyondGap_50 : decode cX4_isBeyondGap 50 = .ok (.getfield 32, 3) := by decide +kernel
theorem dX4_isBeyondGap_53 : decode cX4_isBeyondGap 53 = .ok (.ineg, 1) := by decide +kernel
theorem dX4_isBeyondGap_54 : decode cX4_isBeyondGap 54 = .ok (.if_icmp .ge 7, 3) := by decide +kernel
theorem dX4_isBeyondGap_57 : decode cX4_isBeyondGap 57 = .ok (.iconst 1, 1) := by decide +kernel
theorem dX4_isBeyondGap_58 : decode cX4_isBeyondGap 58 = .ok (.goto 4, 3) := by decide +kernel
theorem dX4_isBeyondGap_61 : decode cX4_isBeyondGap 61 = .ok (.iconst 0, 1) := by decide +kernel
theorem dX4_isBeyondGap_62 : decode cX4_isBeyondGap 62 = .ok (.ireturn, 1) := by decide +kernel
theorem dX4_longOf_0 : decode cX4_longOf 0 = .ok (.iload_n 2, 1) := by decide +kernel
theorem dX4_longOf_1 : decode cX4_longOf 1 = .ok (.aload_n 0, 1) := by decide +kernel
theorem dX4_longOf_2 : decode cX4_longOf 2 = .ok (.getfield 26, 3) := by decide +kernel
theorem dX4_longOf_5 : decode cX4_longOf 5 = .ok (.iconst 1, 1) := by decide +kernel
theorem dX4_longOf_6 : decode cX4_longOf 6 = .ok (.iadd, 1) := by decide +kernel
theorem dX4_longOf_7 : decode cX4_longOf 7 = .ok (.imul, 1) := by decide +kernel
theorem dX4_longOf_8 : decode cX4_longOf 8 = .ok (.iload_n 1, 1) := by decide +kernel
theorem dX4_longOf_9 : decode cX4_longOf 9 = .ok (.iadd, 1) := by decide +kernel
theorem dX4_longOf_10 : decode cX4_longOf 10 = .ok (.bipush 9, 2) := by decide +kernel
theorem dX4_longOf_12 : decode cX4_longOf 12 = .ok (.imul, 1) := by decide +kernel
theorem dX4_longOf_13 : decode cX4_longOf 13 = .ok (.iload_n 3, 1) := by decide +kernel
theorem dX4_longOf_14 : decode cX4_longOf 14 = .ok (.bipush 16, 2) := by decide +kernel
theorem dX4_longOf_16 : decode cX4_longOf 16 = .ok (.idiv, 1) := by decide +kernel
theorem dX4_longOf_17 : decode cX4_longOf 17 = .ok (.iadd, 1) := by decide +kernel
theorem dX4_longOf_18 : decode cX4_longOf 18 = .ok (.ireturn, 1) := by decide +kernel
theorem dX4_shiftOf_0 : decode cX4_shiftOf 0 = .ok (.iload_n 0, 1) := by decide +kernel
theorem dX4_shiftOf_1 : decode cX4_shiftOf 1 = .ok (.bipush 16, 2) := by decide +kernel
theorem dX4_shiftOf_3 : decode cX4_shiftOf 3 = .ok (.irem, 1) := by decide +kernel
theorem dX4_shiftOf_4 : decode cX4_shiftOf 4 = .ok (.iconst 4, 1) := by decide +kernel
theorem dX4_shiftOf_5 : decode cX4_shiftOf 5 = .ok (.imul, 1) := by decide +kernel
theorem dX4_shiftOf_6 : decode cX4_shiftOf 6 = .ok (.ireturn, 1) := by decide +kernel
theorem dX4_keepMove_0 : decode cX4_keepMove 0 = .ok (.aload_n 0, 1) := by decide +kernel
theorem dX4_keepMove_1 : decode cX4_keepMove 1 = .ok (.iload_n 1, 1) := by decide +kernel
theorem dX4_keepMove_2 : decode cX4_keepMove 2 = .ok (.iload_n 2, 1) := by decide +kernel
theorem dX4_keepMove_3 : decode cX4_keepMove 3 = .ok (.iload_n 3, 1) := by decide +kernel
theorem dX4_keepMove_4 : decode cX4_keepMove 4 = .ok (.invokevirtual 109, 3) := by decide +kernel
theorem dX4_keepMove_7 : decode cX4_keepMove 7 = .ok (.istore 5, 2) := by decide +kernel
theorem dX4_keepMove_9 : decode cX4_keepMove 9 = .ok (.aload_n 0, 1) := by decide +kernel
theorem dX4_keepMove_10 : decode cX4_keepMove 10 = .ok (.getfield 15, 3) := by decide +kernel
theorem dX4_keepMove_13 : decode cX4_keepMove 13 = .ok (.iload 5, 2) := by decide +kernel
theorem dX4_keepMove_15 : decode cX4_keepMove 15 = .ok (.laload, 1) := by decide +kernel
theorem dX4_keepMove_16 : decode cX4_keepMove 16 = .ok (.ldc2_w 112, 3) := by decide +kernel
theorem dX4_keepMove_19 : decode cX4_keepMove 19 = .ok (.iload_n 3, 1) := by decide +kernel
theorem dX4_keepMove_20 : decode cX4_keepMove 20 = .ok (.invokestatic 114, 3) := by decide +kernel
theorem dX4_keepMove_23 : decode cX4_keepMove 23 = .ok (.lshl, 1) := by decide +kernel
theorem dX4_keepMove_24 : decode cX4_keepMove 24 = .ok (.ldc2_w 117, 3) := by decide +kernel
theorem dX4_keepMove_27 : decode cX4_keepMove 27 = .ok (.lxor, 1) := by decide +kernel
theorem dX4_keepMove_28 : decode cX4_keepMove 28 = .ok (.land, 1) := by decide +kernel
theorem dX4_keepMove_29 : decode cX4_keepMove 29 = .ok (.lstore 6, 2) := by decide +kernel
theorem dX4_keepMove_31 : decode cX4_keepMove 31 = .ok (.aload_n 0, 1) := by decide +kernel
theorem dX4_keepMove_32 : decode cX4_keepMove 32 = .ok (.getfield 15, 3) := by decide +kernel
theorem dX4_keepMove_35 : decode cX4_keepMove 35 = .ok (.iload 5, 2) := by decide +kernel
theorem dX4_keepMove_37 : decode cX4_keepMove 37 = .ok (.lload 6, 2) := by decide +kernel
theorem dX4_keepMove_39 : decode cX4_keepMove 39 = .ok (.iload 4, 2) := by decide +kernel
theorem dX4_keepMove_41 : decode cX4_keepMove 41 = .ok (.i2l, 1) := by decide +kernel
theorem dX4_keepMove_42 : decode cX4_keepMove 42 = .ok (.iload_n 3, 1) := by decide +kernel
theorem dX4_keepMove_43 : decode cX4_keepMove 43 = .ok (.invokestatic 114, 3) := by decide +kernel
theorem dX4_keepMove_46 : decode cX4_keepMove 46 = .ok (.lshl, 1) := by decide +kernel
theorem dX4_keepMove_47 : decode cX4_keepMove 47 = .ok (.lor, 1) := by decide +kernel
theorem dX4_keepMove_48 : decode cX4_keepMove 48 = .ok (.lastore, 1) := by decide +kernel
theorem dX4_keepMove_49 : decode cX4_keepMove 49 = .ok (.return_, 1) := by decide +kernel
theorem dX4_keptMove_0 : decode cX4_keptMove 0 = .ok (.aload_n 0, 1) := by decide +kernel
theorem dX4_keptMove_1 : decode cX4_keptMove 1 = .ok (.getfield 15, 3) := by decide +kernel
theorem dX4_keptMove_4 : decode cX4_keptMove 4 = .ok (.aload_n 0, 1) := by decide +kernel
theorem dX4_keptMove_5 : decode cX4_keptMove 5 = .ok (.iload_n 1, 1) := by decide +kernel
theorem dX4_keptMove_6 : decode cX4_keptMove 6 = .ok (.iload_n 2, 1) := by decide +kernel
theorem dX4_keptMove_7 : decode cX4_keptMove 7 = .ok (.iload_n 3, 1) := by decide +kernel
theorem dX4_keptMove_8 : decode cX4_keptMove 8 = .ok (.invokevirtual 109, 3) := by decide +kernel
theorem dX4_keptMove_11 : decode cX4_keptMove 11 = .ok (.laload, 1) := by decide +kernel
theorem dX4_keptMove_12 : decode cX4_keptMove 12 = .ok (.iload_n 3, 1) := by decide +kernel
theorem dX4_keptMove_13 : decode cX4_keptMove 13 = .ok (.invokestatic 114, 3) := by decide +kernel
theorem dX4_keptMove_16 : decode cX4_keptMove 16 = .ok (.lshr, 1) := by decide +kernel
theorem dX4_keptMove_17 : decode cX4_keptMove 17 = .ok (.ldc2_w 112, 3) := by decide +kernel
theorem dX4_keptMove_20 : decode cX4_keptMove 20 = .ok (.land, 1) := by decide +kernel
theorem dX4_keptMove_21 : decode cX4_keptMove 21 = .ok (.l2i, 1) := by decide +kernel
theorem dX4_keptMove_22 : decode cX4_keptMove 22 = .ok (.ireturn, 1) := by decide +kernel
theorem dX4_write_0 : decode cX4_write 0 = .ok (.aload_n 0, 1) := by decide +kernel
theorem dX4_write_1 : decode cX4_write 1 = .ok (.getfield 19, 3) := by decide +kernel
theorem dX4_write_4 : decode cX4_write 4 = .ok (.istore 4, 2) := by decide +kernel
theorem dX4_write_6 : decode cX4_write 6 = .ok (.aload_n 0, 1) := by decide +kernel
theorem dX4_write_7 : decode cX4_write 7 = .ok (.getfield 26, 3) := by decide +kernel
theorem dX4_write_10 : decode cX4_write 10 = .ok (.istore 5, 2) := by decide +kernel
theorem dX4_write_12 : decode cX4_write 12 = .ok (.aload_n 0, 1) := by decide +kernel
theorem dX4_write_13 : decode cX4_write 13 = .ok (.getfield 29, 3) := by decide +kernel
theorem dX4_write_16 : decode cX4_write 16 = .ok (.istore 6, 2) := by decide +kernel
theorem dX4_write_18 : decode cX4_write 18 = .ok (.iload_n 2, 1) := by decide +kernel
theorem dX4_write_19 : decode cX4_write 19 = .ok (.istore 7, 2) := by decide +kernel
theorem dX4_write_21 : decode cX4_write 21 = .ok (.aload_n 1, 1) := by decide +kernel
theorem dX4_write_22 : decode cX4_write 22 = .ok (.getfield 119, 3) := by decide +kernel
theorem dX4_write_25 : decode cX4_write 25 = .ok (.iload 7, 2) := by decide +kernel
theorem dX4_write_27 : decode cX4_write 27 = .ok (.iload 4, 2) := by decide +kernel
theorem dX4_write_29 : decode cX4_write 29 = .ok (.iastore, 1) := by decide +kernel
theorem dX4_write_30 : decode cX4_write 30 = .ok (.iload 7, 2) := by decide +kernel
theorem dX4_write_32 : decode cX4_write 32 = .ok (.bipush 40, 2) := by decide +kernel
theorem dX4_write_34 : decode cX4_write 34 = .ok (.if_icmp .ge 104, 3) := by decide +kernel
theorem dX4_write_37 : decode cX4_write 37 = .ok (.iload 5, 2) := by decide +kernel
theorem dX4_write_39 : decode cX4_write 39 = .ok (.iload 6, 2) := by decide +kernel
theorem dX4_write_41 : decode cX4_write 41 = .ok (.iadd, 1) := by decide +kernel
theorem dX4_write_42 : decode cX4_write 42 = .ok (.ifCond .le 96, 3) := by decide +kernel
theorem dX4_write_45 : decode cX4_write 45 = .ok (.aload_n 0, 1) := by decide +kernel
theorem dX4_write_46 : decode cX4_write 46 = .ok (.iload 4, 2) := by decide +kernel
theorem dX4_write_48 : decode cX4_write 48 = .ok (.aload_n 0, 1) := by decide +kernel
theorem dX4_write_49 : decode cX4_write 49 = .ok (.iload 5, 2) := by decide +kernel
theorem dX4_write_51 : decode cX4_write 51 = .ok (.iload 6, 2) := by decide +kernel
theorem dX4_write_53 : decode cX4_write 53 = .ok (.invokevirtual 77, 3) := by decide +kernel
theorem dX4_write_56 : decode cX4_write 56 = .ok (.invokevirtual 80, 3) := by decide +kernel
theorem dX4_write_59 : decode cX4_write 59 = .ok (.ifCond .ne 79, 3) := by decide +kernel
theorem dX4_write_62 : decode cX4_write 62 = .ok (.aload_n 0, 1) := by decide +kernel
theorem dX4_write_63 : decode cX4_write 63 = .ok (.iload 5, 2) := by decide +kernel
theorem dX4_write_65 : decode cX4_write 65 = .ok (.iload 6, 2) := by decide +kernel
theorem dX4_write_67 : decode cX4_write 67 = .ok (.iload 4, 2) := by decide +kernel
theorem dX4_write_69 : decode cX4_write 69 = .ok (.invokevirtual 122, 3) := by decide +kernel
theorem dX4_write_72 : decode cX4_write 72 = .ok (.getstatic 87, 3) := by decide +kernel
theorem dX4_write_75 : decode cX4_write 75 = .ok (.arraylength, 1) := by decide +kernel
theorem dX4_write_76 : decode cX4_write 76 = .ok (.iconst 1, 1) := by decide +kernel
theorem dX4_write_77 : decode cX4_write 77 = .ok (.isub, 1) := by decide +kernel
theorem dX4_write_78 : decode cX4_write 78 = .ok (.invokestatic 49, 3) := by decide +kernel
theorem dX4_write_81 : decode cX4_write 81 = .ok (.istore 8, 2) := by decide +kernel
theorem dX4_write_83 : decode cX4_write 83 = .ok (.iload 8, 2) := by decide +kernel
theorem dX4_write_85 : decode cX4_write 85 = .ok (.ifCond .ne 14, 3) := by decide +kernel
theorem dX4_write_88 : decode cX4_write 88 = .ok (.iload 6, 2) := by decide +kernel
theorem dX4_write_90 : decode cX4_write 90 = .ok (.ifCond .le 9, 3) := by decide +kernel
theorem dX4_write_93 : decode cX4_write 93 = .ok (.iinc 6 (-1), 3) := by decide +kernel
theorem dX4_write_96 : decode cX4_write 96 = .ok (.goto 6, 3) := by decide +kernel
theorem dX4_write_99 : decode cX4_write 99 = .ok (.iinc 5 (-1), 3) := by decide +kernel
theorem dX4_write_102 : decode cX4_write 102 = .ok (.iload 4, 2) := by decide +kernel
theorem dX4_write_104 : decode cX4_write 104 = .ok (.bipush 12, 2) := by decide +kernel
theorem dX4_write_106 : decode cX4_write 106 = .ok (.getstatic 90, 3) := by decide +kernel
theorem dX4_write_109 : decode cX4_write 109 = .ok (.iload 8, 2) := by decide +kernel
theorem dX4_write_111 : decode cX4_write 111 = .ok (.iaload, 1) := by decide +kernel
theorem dX4_write_112 : decode cX4_write 112 = .ok (.imul, 1) := by decide +kernel
theorem dX4_write_113 : decode cX4_write 113 = .ok (.getstatic 87, 3) := by decide +kernel
theorem dX4_write_116 : decode cX4_write 116 = .ok (.iload 8, 2) := by decide +kernel
theorem dX4_write_118 : decode cX4_write 118 = .ok (.iaload, 1) := by decide +kernel
theorem dX4_write_119 : decode cX4_write 119 = .ok (.iadd, 1) := by decide +kernel
theorem dX4_write_120 : decode cX4_write 120 = .ok (.iadd, 1) := by decide +kernel
theorem dX4_write_121 : decode cX4_write 121 = .ok (.istore 4, 2) := by decide +kernel
theorem dX4_write_123 : decode cX4_write 123 = .ok (.iinc 7 1, 3) := by decide +kernel
theorem dX4_write_126 : decode cX4_write 126 = .ok (.aload_n 1, 1) := by decide +kernel
theorem dX4_write_127 : decode cX4_write 127 = .ok (.getfield 119, 3) := by decide +kernel
theorem dX4_write_130 : decode cX4_write 130 = .ok (.iload 7, 2) := by decide +kernel
theorem dX4_write_132 : decode cX4_write 132 = .ok (.iload 4, 2) := by decide +kernel
theorem dX4_write_134 : decode cX4_write 134 = .ok (.iastore, 1) := by decide +kernel
theorem dX4_write_135 : decode cX4_write 135 = .ok (.goto (-105), 3) := by decide +kernel
theorem dX4_write_138 : decode cX4_write 138 = .ok (.aload_n 1, 1) := by decide +kernel
theorem dX4_write_139 : decode cX4_write 139 = .ok (.iload 7, 2) := by decide +kernel
theorem dX4_write_141 : decode cX4_write 141 = .ok (.putfield 125, 3) := by decide +kernel
theorem dX4_write_144 : decode cX4_write 144 = .ok (.aload_n 1, 1) := by decide +kernel
theorem dX4_write_145 : decode cX4_write 145 = .ok (.iload_n 3, 1) := by decide +kernel
theorem dX4_write_146 : decode cX4_write 146 = .ok (.aload_n 0, 1) := by decide +kernel
theorem dX4_write_147 : decode cX4_write 147 = .ok (.invokevirtual 63, 3) := by decide +kernel
theorem dX4_write_150 : decode cX4_write 150 = .ok (.iadd, 1) := by decide +kernel
theorem dX4_write_151 : decode cX4_write 151 = .ok (.putfield 128, 3) := by decide +kernel
theorem dX4_write_154 : decode cX4_write 154 = .ok (.aload_n 1, 1) := by decide +kernel
theorem dX4_write_155 : decode cX4_write 155 = .ok (.iconst 1, 1) := by decide +kernel
theorem dX4_write_156 : decode cX4_write 156 = .ok (.putfield 131, 3) := by decide +kernel
theorem dX4_write_159 : decode cX4_write 159 = .ok (.return_, 1) := by decide +kernel
theorem dX9_init_0 : decode cX9_init 0 = .ok (.aload_n 0, 1) := by decide +kernel
theorem dX9_init_1 : decode cX9_init 1 = .ok (.invokespecial 3, 3) := by decide +kernel
theorem dX9_init_4 : decode cX9_init 4 = .ok (.aload_n 0, 1) := by decide +kernel
theorem dX9_init_5 : decode cX9_init 5 = .ok (.iconst 4, 1) := by decide +kernel
theorem dX9_init_6 : decode cX9_init 6 = .ok (.anewarray 9, 3) := by decide +kernel
theorem dX9_init_9 : decode cX9_init 9 = .ok (.putfield 11, 3) := by decide +kernel
theorem dX9_init_12 : decode cX9_init 12 = .ok (.aload_n 0, 1) := by decide +kernel
theorem dX9_init_13 : decode cX9_init 13 = .ok (.iconst 0, 1) := by decide +kernel
theorem dX9_init_14 : decode cX9_init 14 = .ok (.putfield 15, 3) := by decide +kernel
theorem dX9_init_17 : decode cX9_init 17 = .ok (.aload_n 0, 1) := by decide +kernel
theorem dX9_init_18 : decode cX9_init 18 = .ok (.new 19, 3) := by decide +kernel
theorem dX9_init_21 : decode cX9_init 21 = .ok (.dup, 1) := by decide +kernel
theorem dX9_init_22 : decode cX9_init 22 = .ok (.invokespecial 21, 3) := by decide +kernel
theorem dX9_init_25 : decode cX9_init 25 = .ok (.putfield 22, 3) := by decide +kernel
theorem dX9_init_28 : decode cX9_init 28 = .ok (.aload_n 0, 1) := by decide +kernel
theorem dX9_init_29 : decode cX9_init 29 = .ok (.new 26, 3) := by decide +kernel
theorem dX9_init_32 : decode cX9_init 32 = .ok (.dup, 1) := by decide +kernel
theorem dX9_init_33 : decode cX9_init 33 = .ok (.invokespecial 28, 3) := by decide +kernel
theorem dX9_init_36 : decode cX9_init 36 = .ok (.putfield 29, 3) := by decide +kernel
theorem dX9_init_39 : decode cX9_init 39 = .ok (.aload_n 0, 1) := by decide +kernel
theorem dX9_init_40 : decode cX9_init 40 = .ok (.bipush 10, 2) := by decide +kernel
theorem dX9_init_42 : decode cX9_init 42 = .ok (.putfield 33, 3) := by decide +kernel
theorem dX9_init_45 : decode cX9_init 45 = .ok (.aload_n 0, 1) := by decide +kernel
theorem dX9_init_46 : decode cX9_init 46 = .ok (.new 36, 3) := by decide +kernel
theorem dX9_init_49 : decode cX9_init 49 = .ok (.dup, 1) := by decide +kernel
theorem dX9_init_50 : decode cX9_init 50 = .ok (.invokespecial 38, 3) := by decide +kernel
theorem dX9_init_53 : decode cX9_init 53 = .ok (.putfield 39, 3) := by decide +kernel
theorem dX9_init_56 : decode cX9_init 56 = .ok (.aload_n 0, 1) := by decide +kernel
theorem dX9_init_57 : decode cX9_init 57 = .ok (.new 43, 3) := by decide +kernel
theorem dX9_init_60 : decode cX9_init 60 = .ok (.dup, 1) := by decide +kernel
theorem dX9_init_61 : decode cX9_init 61 = .ok (.invokespecial 45, 3) := by decide +kernel
theorem dX9_init_64 : decode cX9_init 64 = .ok (.putfield 46, 3) := by decide +kernel
theorem dX9_init_67 : decode cX9_init 67 = .ok (.aload_n 0, 1) := by decide +kernel
theorem dX9_init_68 : decode cX9_init 68 = .ok (.sipush 144, 3) := by decide +kernel
theorem dX9_init_71 : decode cX9_init 71 = .ok (.newarray .int, 2) := by decide +kernel
theorem dX9_init_73 : decode cX9_init 73 = .ok (.putfield 50, 3) := by decide +kernel
theorem dX9_init_76 : decode cX9_init 76 = .ok (.aload_n 0, 1) := by decide +kernel
theorem dX9_init_77 : decode cX9_init 77 = .ok (.new 54, 3) := by decide +kernel
theorem dX9_init_80 : decode cX9_init 80 = .ok (.dup, 1) := by decide +kernel
theorem dX9_init_81 : decode cX9_init 81 = .ok (.invokespecial 56, 3) := by decide +kernel
theorem dX9_init_84 : decode cX9_init 84 = .ok (.putfield 57, 3) := by decide +kernel
theorem dX9_init_87 : decode cX9_init 87 = .ok (.aload_n 0, 1) := by decide +kernel
theorem dX9_init_88 : decode cX9_init 88 = .ok (.new 54, 3) := by decide +kernel
theorem dX9_init_91 : decode cX9_init 91 = .ok (.dup, 1) := by decide +kernel
theorem dX9_init_92 : decode cX9_init 92 = .ok (.invokespecial 56, 3) := by decide +kernel
theorem dX9_init_95 : decode cX9_init 95 = .ok (.putfield 61, 3) := by decide +kernel
theorem dX9_init_98 : decode cX9_init 98 = .ok (.aload_n 0, 1) := by decide +kernel
theorem dX9_init_99 : decode cX9_init 99 = .ok (.aconst_null, 1) := by decide +kernel
theorem dX9_init_100 : decode cX9_init 100 = .ok (.putfield 64, 3) := by decide +kernel
theorem dX9_init_103 : decode cX9_init 103 = .ok (.aload_n 0, 1) := by decide +kernel
theorem dX9_init_104 : decode cX9_init 104 = .ok (.new 68, 3) := by decide +kernel
theorem dX9_init_107 : decode cX9_init 107 = .ok (.dup, 1) := by decide +kernel
theorem dX9_init_108 : decode cX9_init 108 = .ok (.invokespecial 70, 3) := by decide +kernel
theorem dX9_init_111 : decode cX9_init 111 = .ok (.putfield 71, 3) := by decide +kernel
theorem dX9_init_114 : decode cX9_init 114 = .ok (.iconst 0, 1) := by decide +kernel
theorem dX9_init_115 : decode cX9_init 115 = .ok (.istore_n 1, 1) := by decide +kernel
theorem dX9_init_116 : decode cX9_init 116 = .ok (.iload_n 1, 1) := by decide +kernel
theorem dX9_init_117 : decode cX9_init 117 = .ok (.iconst 4, 1) := by decide +kernel
theorem dX9_init_118 : decode cX9_init 118 = .ok (.if_icmp .ge 22, 3) := by decide +kernel
theorem dX9_init_121 : decode cX9_init 121 = .ok (.aload_n 0, 1) := by decide +kernel
theorem dX9_init_122 : decode cX9_init 122 = .ok (.getfield 11, 3) := by decide +kernel
theorem dX9_init_125 : decode cX9_init 125 = .ok (.iload_n 1, 1) := by decide +kernel
theorem dX9_init_126 : decode cX9_init 126 = .ok (.new 9, 3) := by decide +kernel
theorem dX9_init_129 : decode cX9_init 129 = .ok (.dup, 1) := by decide +kernel
theorem dX9_init_130 : decode cX9_init 130 = .ok (.invokespecial 75, 3) := by decide +kernel
theorem dX9_init_133 : decode cX9_init 133 = .ok (.aastore, 1) := by decide +kernel
theorem dX9_init_134 : decode cX9_init 134 = .ok (.iinc 1 1, 3) := by decide +kernel
theorem dX9_init_137 : decode cX9_init 137 = .ok (.goto (-21), 3) := by decide +kernel
theorem dX9_init_140 : decode cX9_init 140 = .ok (.return_, 1) := by decide +kernel
theorem dX9_turn_0 : decode cX9_turn 0 = .ok (.iload_n 1, 1) := by decide +kernel
theorem dX9_turn_1 : decode cX9_turn 1 = .ok (.i2l, 1) := by decide +kernel
theorem dX9_turn_2 : decode cX9_turn 2 = .ok (.invokestatic 76, 3) := by decide +kernel
theorem dX9_turn_5 : decode cX9_turn 5 = .ok (.ifCond .ne 5, 3) := by decide +kernel
theorem dX9_turn_8 : decode cX9_turn 8 = .ok (.iconst (-1), 1) := by decide +kernel
theorem dX9_turn_9 : decode cX9_turn 9 = .ok (.ireturn, 1) := by decide +kernel
theorem dX9_turn_10 : decode cX9_turn 10 = .ok (.iload_n 2, 1) := by decide +kernel
theorem dX9_turn_11 : decode cX9_turn 11 = .ok (.iconst 0, 1) := by decide +kernel
theorem dX9_turn_12 : decode cX9_turn 12 = .ok (.bipush 59, 2) := by decide +kernel
theorem dX9_turn_14 : decode cX9_turn 14 = .ok (.invokestatic 80, 3) := by decide +kernel
theorem dX9_turn_17 : decode cX9_turn 17 = .ok (.ifCond .eq 13, 3) := by decide +kernel
theorem dX9_turn_20 : decode cX9_turn 20 = .ok (.iload_n 3, 1) := by decide +kernel
theorem dX9_turn_21 : decode cX9_turn 21 = .ok (.bipush (-4), 2) := by decide +kernel
theorem dX9_turn_23 : decode cX9_turn 23 = .ok (.iconst 4, 1) := by decide +kernel
theorem dX9_turn_24 : decode cX9_turn 24 = .ok (.invokestatic 80, 3) := by decide +kernel
theorem dX9_turn_27 : decode cX9_turn 27 = .ok (.ifCond .ne 6, 3) := by decide +kernel
theorem dX9_turn_30 : decode cX9_turn 30 = .ok (.bipush (-2), 2) := by decide +kernel
theorem dX9_turn_32 : decode cX9_turn 32 = .ok (.ireturn, 1) := by decide +kernel
theorem dX9_turn_33 : decode cX9_turn 33 = .ok (.aload_n 0, 1) := by decide +kernel
theorem dX9_turn_34 : decode cX9_turn 34 = .ok (.getfield 11, 3) := by decide +kernel
theorem dX9_turn_37 : decode cX9_turn 37 = .ok (.iload_n 1, 1) := by decide +kernel
theorem dX9_turn_38 : decode cX9_turn 38 = .ok (.aaload, 1) := by decide +kernel
theorem dX9_turn_39 : decode cX9_turn 39 = .ok (.astore 4, 2) := by decide +kernel
theorem dX9_turn_41 : decode cX9_turn 41 = .ok (.aload 4, 2) := by decide +kernel
theorem dX9_turn_43 : decode cX9_turn 43 = .ok (.getfield 84, 3) := by decide +kernel
theorem dX9_turn_46 : decode cX9_turn 46 = .ok (.bipush 12, 2) := by decide +kernel
theorem dX9_turn_48 : decode cX9_turn 48 = .ok (.if_icmp .lt 6, 3) := by decide +kernel
theorem dX9_turn_51 : decode cX9_turn 51 = .ok (.bipush (-4), 2) := by decide +kernel
theorem dX9_turn_53 : decode cX9_turn 53 = .ok (.ireturn, 1) := by decide +kernel
theorem dX9_turn_54 : decode cX9_turn 54 = .ok (.aload 4, 2) := by decide +kernel
theorem dX9_turn_56 : decode cX9_turn 56 = .ok (.iload_n 2, 1) := by decide +kernel
theorem dX9_turn_57 : decode cX9_turn 57 = .ok (.invokevirtual 87, 3) := by decide +kernel
theorem dX9_turn_60 : decode cX9_turn 60 = .ok (.ifCond .eq 6, 3) := by decide +kernel
theorem dX9_turn_63 : decode cX9_turn 63 = .ok (.bipush (-5), 2) := by decide +kernel
theorem dX9_turn_65 : decode cX9_turn 65 = .ok (.ireturn, 1) := by decide +kernel
theorem dX9_turn_66 : decode cX9_turn 66 = .ok (.aload 4, 2) := by decide +kernel
theorem dX9_turn_68 : decode cX9_turn 68 = .ok (.iload_n 2, 1) := by decide +kernel
theorem dX9_turn_69 : decode cX9_turn 69 = .ok (.iload_n 3, 1) := by decide +kernel
theorem dX9_turn_70 : decode cX9_turn 70 = .ok (.invokevirtual 91, 3) := by decide +kernel
theorem dX9_turn_73 : decode cX9_turn 73 = .ok (.aload 4, 2) := by decide +kernel
theorem dX9_turn_75 : decode cX9_turn 75 = .ok (.getfield 84, 3) := by decide +kernel
theorem dX9_turn_78 : decode cX9_turn 78 = .ok (.ireturn, 1) := by decide +kernel
theorem dX9_clear_0 : decode cX9_clear 0 = .ok (.iload_n 1, 1) := by decide +kernel
theorem dX9_clear_1 : decode cX9_clear 1 = .ok (.i2l, 1) := by decide +kernel
theorem dX9_clear_2 : decode cX9_clear 2 = .ok (.invokestatic 76, 3) := by decide +kernel
theorem dX9_clear_5 : decode cX9_clear 5 = .ok (.ifCond .ne 5, 3) := by decide +kernel
theorem dX9_clear_8 : decode cX9_clear 8 = .ok (.iconst (-1), 1) := by decide +kernel
theorem dX9_clear_9 : decode cX9_clear 9 = .ok (.ireturn, 1) := by decide +kernel
theorem dX9_clear_10 : decode cX9_clear 10 = .ok (.aload_n 0, 1) := by decide +kernel
theorem dX9_clear_11 : decode cX9_clear 11 = .ok (.getfield 11, 3) := by decide +kernel
theorem dX9_clear_14 : decode cX9_clear 14 = .ok (.iload_n 1, 1) := by decide +kernel
theorem dX9_clear_15 : decode cX9_clear 15 = .ok (.aaload, 1) := by decide +kernel
theorem dX9_clear_16 : decode cX9_clear 16 = .ok (.getfield 84, 3) := by decide +kernel
theorem dX9_clear_19 : decode cX9_clear 19 = .ok (.istore_n 2, 1) := by decide +kernel
theorem dX9_clear_20 : decode cX9_clear 20 = .ok (.aload_n 0, 1) := by decide +kernel
theorem dX9_clear_21 : decode cX9_clear 21 = .ok (.getfield 11, 3) := by decide +kernel
theorem dX9_clear_24 : decode cX9_clear 24 = .ok (.iload_n 1, 1) := by decide +kernel
theorem dX9_clear_25 : decode cX9_clear 25 = .ok (.aaload, 1) := by decide +kernel
theorem dX9_clear_26 : decode cX9_clear 26 = .ok (.iconst 0, 1) := by decide +kernel
theorem dX9_clear_27 : decode cX9_clear 27 = .ok (.putfield 84, 3) := by decide +kernel
theorem dX9_clear_30 : decode cX9_clear 30 = .ok (.iload_n 2, 1) := by decide +kernel
theorem dX9_clear_31 : decode cX9_clear 31 = .ok (.ireturn, 1) := by decide +kernel
theorem dX9_ofTurn_0 : decode cX9_ofTurn 0 = .ok (.iload_n 1, 1) := by decide +kernel
theorem dX9_ofTurn_1 : decode cX9_ofTurn 1 = .ok (.i2l, 1) := by decide +kernel
theorem dX9_ofTurn_2 : decode cX9_ofTurn 2 = .ok (.invokestatic 76, 3) := by decide +kernel
theorem dX9_ofTurn_5 : decode cX9_ofTurn 5 = .ok (.ifCond .eq 22, 3) := by decide +kernel
theorem dX9_ofTurn_8 : decode cX9_ofTurn 8 = .ok (.iload_n 2, 1) := by decide +kernel
theorem dX9_ofTurn_9 : decode cX9_ofTurn 9 = .ok (.iconst 0, 1) := by decide +kernel
theorem dX9_ofTurn_10 : decode cX9_ofTurn 10 = .ok (.aload_n 0, 1) := by decide +kernel
theorem dX9_ofTurn_11 : decode cX9_ofTurn 11 = .ok (.getfield 11, 3) := by decide +kernel
theorem dX9_ofTurn_14 : decode cX9_ofTurn 14 = .ok (.iload_n 1, 1) := by decide +kernel
theorem dX9_ofTurn_15 : decode cX9_ofTurn 15 = .ok (.aaload, 1) := by decide +kernel
theorem dX9_ofTurn_16 : decode cX9_ofTurn 16 = .ok (.getfield 84, 3) := by decide +kernel
theorem dX9_ofTurn_19 : decode cX9_ofTurn 19 = .ok (.iconst 1, 1) := by decide +kernel
theorem dX9_ofTurn_20 : decode cX9_ofTurn 20 = .ok (.isub, 1) := by decide +kernel
theorem dX9_ofTurn_21 : decode cX9_ofTurn 21 = .ok (.invokestatic 80, 3) := by decide +kernel
theorem dX9_ofTurn_24 : decode cX9_ofTurn 24 = .ok (.ifCond .ne 6, 3) := by decide +kernel
theorem dX9_ofTurn_27 : decode cX9_ofTurn 27 = .ok (.bipush (-101), 2) := by decide +kernel
theorem dX9_ofTurn_29 : decode cX9_ofTurn 29 = .ok (.ireturn, 1) := by decide +kernel
theorem dX9_ofTurn_30 : decode cX9_ofTurn 30 = .ok (.iload_n 3, 1) := by decide +kernel
theorem dX9_ofTurn_31 : decode cX9_ofTurn 31 = .ok (.iconst 0, 1) := by decide +kernel
theorem dX9_ofTurn_32 : decode cX9_ofTurn 32 = .ok (.iconst 1, 1) := by decide +kernel
theorem dX9_ofTurn_33 : decode cX9_ofTurn 33 = .ok (.invokestatic 80, 3) := by decide +kernel
theorem dX9_ofTurn_36 : decode cX9_ofTurn 36 = .ok (.ifCond .ne 6, 3) := by decide +kernel
theorem dX9_ofTurn_39 : decode cX9_ofTurn 39 = .ok (.bipush (-102), 2) := by decide +kernel
theorem dX9_ofTurn_41 : decode cX9_ofTurn 41 = .ok (.ireturn, 1) := by decide +kernel
theorem dX9_ofTurn_42 : decode cX9_ofTurn 42 = .ok (.iload_n 3, 1) := by decide +kernel
theorem dX9_ofTurn_43 : decode cX9_ofTurn 43 = .ok (.ifCond .ne 17, 3) := by decide +kernel
theorem dX9_ofTurn_46 : decode cX9_ofTurn 46 = .ok (.aload_n 0, 1) := by decide +kernel
theorem dX9_ofTurn_47 : decode cX9_ofTurn 47 = .ok (.getfield 11, 3) := by decide +kernel
theorem dX9_ofTurn_50 : decode cX9_ofTurn 50 = .ok (.iload_n 1, 1) := by decide +kernel
theorem dX9_ofTurn_51 : decode cX9_ofTurn 51 = .ok (.aaload, 1) := by decide +kernel
theorem dX9_ofTurn_52 : decode cX9_ofTurn 52 = .ok (.getfield 95, 3) := by decide +kernel
theorem dX9_ofTurn_55 : decode cX9_ofTurn 55 = .ok (.iload_n 2, 1) := by decide +kernel
theorem dX9_ofTurn_56 : decode cX9_ofTurn 56 = .ok (.iaload, 1) := by decide +kernel
theorem dX9_ofTurn_57 : decode cX9_ofTurn 57 = .ok (.goto 14, 3) := by decide +kernel
theorem dX9_ofTurn_60 : decode cX9_ofTurn 60 = .ok (.aload_n 0, 1) := by decide +kernel
theorem dX9_ofTurn_61 : decode cX9_ofTurn 61 = .ok (.getfield 11, 3) := by decide +kernel
theorem dX9_ofTurn_64 : decode cX9_ofTurn 64 = .ok (.iload_n 1, 1) := by decide +kernel
theorem dX9_ofTurn_65 : decode cX9_ofTurn 65 = .ok (.aaload, 1) := by decide +kernel
theorem dX9_ofTurn_66 : decode cX9_ofTurn 66 = .ok (.getfield 98, 3) := by decide +kernel
theorem dX9_ofTurn_69 : decode cX9_ofTurn 69 = .ok (.iload_n 2, 1) := by decide +kernel
theorem dX9_ofTurn_70 : decode cX9_ofTurn 70 = .ok (.iaload, 1) := by decide +kernel
theorem dX9_ofTurn_71 : decode cX9_ofTurn 71 = .ok (.ireturn, 1) := by decide +kernel
theorem dX9_course_0 : decode cX9_course 0 = .ok (.iload_n 1, 1) := by decide +kernel
theorem dX9_course_1 : decode cX9_course 1 = .ok (.i2l, 1) := by decide +kernel
theorem dX9_course_2 : decode cX9_course 2 = .ok (.invokestatic 76, 3) := by decide +kernel
theorem dX9_course_5 : decode cX9_course 5 = .ok (.ifCond .ne 6, 3) := by decide +kernel
theorem dX9_course_8 : decode cX9_course 8 = .ok (.bipush (-101), 2) := by decide +kernel
theorem dX9_course_10 : decode cX9_course 10 = .ok (.ireturn, 1) := by decide +kernel
theorem dX9_course_11 : decode cX9_course 11 = .ok (.iload_n 2, 1) := by decide +kernel
theorem dX9_course_12 : decode cX9_course 12 = .ok (.iconst 0, 1) := by decide +kernel
theorem dX9_course_13 : decode cX9_course 13 = .ok (.sipush 600, 3) := by decide +kernel
theorem dX9_course_16 : decode cX9_course 16 = .ok (.invokestatic 80, 3) := by decide +kernel
theorem dX9_course_19 : decode cX9_course 19 = .ok (.ifCond .ne 6, 3) := by decide +kernel
theorem dX9_course_22 : decode cX9_course 22 = .ok (.bipush (-102), 2) := by decide +kernel
theorem dX9_course_24 : decode cX9_course 24 = .ok (.ireturn, 1) := by decide +kernel
theorem dX9_course_25 : decode cX9_course 25 = .ok (.aload_n 0, 1) := by decide +kernel
theorem dX9_course_26 : decode cX9_course 26 = .ok (.getfield 11, 3) := by decide +kernel
theorem dX9_course_29 : decode cX9_course 29 = .ok (.iload_n 1, 1) := by decide +kernel
theorem dX9_course_30 : decode cX9_course 30 = .ok (.aaload, 1) := by decide +kernel
theorem dX9_course_31 : decode cX9_course 31 = .ok (.iload_n 2, 1) := by decide +kernel
theorem dX9_course_32 : decode cX9_course 32 = .ok (.bipush 60, 2) := by decide +kernel
theorem dX9_course_34 : decode cX9_course 34 = .ok (.irem, 1) := by decide +kernel
theorem dX9_course_35 : decode cX9_course 35 = .ok (.iconst 0, 1) := by decide +kernel
theorem dX9_course_36 : decode cX9_course 36 = .ok (.invokevirtual 101, 3) := by decide +kernel
theorem dX9_course_39 : decode cX9_course 39 = .ok (.ireturn, 1) := by decide +kernel
theorem dX9_ground_0 : decode cX9_ground 0 = .ok (.iload_n 1, 1) := by decide +kernel
theorem dX9_ground_1 : decode cX9_ground 1 = .ok (.i2l, 1) := by decide +kernel
theorem dX9_ground_2 : decode cX9_ground 2 = .ok (.invokestatic 76, 3) := by decide +kernel
theorem dX9_ground_5 : decode cX9_ground 5 = .ok (.ifCond .ne 7, 3) := by decide +kernel
theorem dX9_ground_8 : decode cX9_ground 8 = .ok (.ldc2_w 105, 3) := by decide +kernel
theorem dX9_ground_11 : decode cX9_ground 11 = .ok (.lreturn, 1) := by decide +kernel
theorem dX9_ground_12 : decode cX9_ground 12 = .ok (.iload_n 2, 1) := by decide +kernel
theorem dX9_ground_13 : decode cX9_ground 13 = .ok (.iconst 0, 1) := by decide +kernel
theorem dX9_ground_14 : decode cX9_ground 14 = .ok (.sipush 600, 3) := by decide +kernel
theorem dX9_ground_17 : decode cX9_ground 17 = .ok (.invokestatic 80, 3) := by decide +kernel
theorem dX9_ground_20 : decode cX9_ground 20 = .ok (.ifCond .eq 12, 3) := by decide +kernel
theorem dX9_ground_23 : decode cX9_ground 23 = .ok (.iload_n 3, 1) := by decide +kernel
theorem dX9_ground_24 : decode cX9_ground 24 = .ok (.iconst 0, 1) := by decide +kernel
theorem dX9_ground_25 : decode cX9_ground 25 = .ok (.iconst 1, 1) := by decide +kernel
theorem dX9_ground_26 : decode cX9_ground 26 = .ok (.invokestatic 80, 3) := by decide +kernel
theorem dX9_ground_29 : decode cX9_ground 29 = .ok (.ifCond .ne 7, 3) := by decide +kernel
theorem dX9_ground_32 : decode cX9_ground 32 = .ok (.ldc2_w 107, 3) := by decide +kernel
theorem dX9_ground_35 : decode cX9_ground 35 = .ok (.lreturn, 1) := by decide +kernel
theorem dX9_ground_36 : decode cX9_ground 36 = .ok (.aload_n 0, 1) := by decide +kernel
theorem dX9_ground_37 : decode cX9_ground 37 = .ok (.getfield 11, 3) := by decide +kernel
theorem dX9_ground_40 : decode cX9_ground 40 = .ok (.iload_n 1, 1) := by decide +kernel
theorem dX9_ground_41 : decode cX9_ground 41 = .ok (.aaload, 1) := by decide +kernel
theorem dX9_ground_42 : decode cX9_ground 42 = .ok (.iload_n 2, 1) := by decide +kernel
theorem dX9_ground_43 : decode cX9_ground 43 = .ok (.iload_n 3, 1) := by decide +kernel
theorem dX9_ground_44 : decode cX9_ground 44 = .ok (.invokevirtual 109, 3) := by decide +kernel
theorem dX9_ground_47 : decode cX9_ground 47 = .ok (.lreturn, 1) := by decide +kernel
theorem dX9_steer_0 : decode cX9_steer 0 = .ok (.iload_n 1, 1) := by decide +kernel
theorem dX9_steer_1 : decode cX9_steer 1 = .ok (.i2l, 1) := by decide +kernel
theorem dX9_steer_2 : decode cX9_steer 2 = .ok (.invokestatic 76, 3) := by decide +kernel
theorem dX9_steer_5 : decode cX9_steer 5 = .ok (.ifCond .ne 5, 3) := by decide +kernel
theorem dX9_steer_8 : decode cX9_steer 8 = .ok (.iconst (-1), 1) := by decide +kernel
theorem dX9_steer_9 : decode cX9_steer 9 = .ok (.ireturn, 1) := by decide +kernel
theorem dX9_steer_10 : decode cX9_steer 10 = .ok (.aload_n 0, 1) := by decide +kernel
theorem dX9_steer_11 : decode cX9_steer 11 = .ok (.getfield 15, 3) := by decide +kernel
theorem dX9_steer_14 : decode cX9_steer 14 = .ok (.istore_n 2, 1) := by decide +kernel
theorem dX9_steer_15 : decode cX9_steer 15 = .ok (.aload_n 0, 1) := by decide +kernel
theorem dX9_steer_16 : decode cX9_steer 16 = .ok (.iload_n 1, 1) := by decide +kernel
theorem dX9_steer_17 : decode cX9_steer 17 = .ok (.putfield 15, 3) := by decide +kernel
theorem dX9_steer_20 : decode cX9_steer 20 = .ok (.iload_n 2, 1) := by decide +kernel
theorem dX9_steer_21 : decode cX9_steer 21 = .ok (.ireturn, 1) := by decide +kernel
theorem dX9_ship_0 : decode cX9_ship 0 = .ok (.iload_n 1, 1) := by decide +kernel
theorem dX9_ship_1 : decode cX9_ship 1 = .ok (.iload_n 2, 1) := by decide +kernel
theorem dX9_ship_2 : decode cX9_ship 2 = .ok (.iload_n 3, 1) := by decide +kernel
theorem dX9_ship_3 : decode cX9_ship 3 = .ok (.invokestatic 113, 3) := by decide +kernel
theorem dX9_ship_6 : decode cX9_ship 6 = .ok (.ifCond .eq 14, 3) := by decide +kernel
theorem dX9_ship_9 : decode cX9_ship 9 = .ok (.iload 4, 2) := by decide +kernel
theorem dX9_ship_11 : decode cX9_ship 11 = .ok (.bipush (-5), 2) := by decide +kernel
theorem dX9_ship_13 : decode cX9_ship 13 = .ok (.iconst 5, 1) := by decide +kernel
theorem dX9_ship_14 : decode cX9_ship 14 = .ok (.invokestatic 80, 3) := by decide +kernel
theorem dX9_ship_17 : decode cX9_ship 17 = .ok (.ifCond .ne 6, 3) := by decide +kernel
theorem dX9_ship_20 : decode cX9_ship 20 = .ok (.bipush (-2), 2) := by decide +kernel
theorem dX9_ship_22 : decode cX9_ship 22 = .ok (.ireturn, 1) := by decide +kernel
theorem dX9_ship_23 : decode cX9_ship 23 = .ok (.aload_n 0, 1) := by decide +kernel
theorem dX9_ship_24 : decode cX9_ship 24 = .ok (.getfield 29, 3) := by decide +kernel
theorem dX9_ship_27 : decode cX9_ship 27 = .ok (.getfield 116, 3) := by decide +kernel
theorem dX9_ship_30 : decode cX9_ship 30 = .ok (.bipush 9, 2) := by decide +kernel
theorem dX9_ship_32 : decode cX9_ship 32 = .ok (.if_icmp .lt 6, 3) := by decide +kernel
theorem dX9_ship_35 : decode cX9_ship 35 = .ok (.bipush (-4), 2) := by decide +kernel
theorem dX9_ship_37 : decode cX9_ship 37 = .ok (.ireturn, 1) := by decide +kernel
theorem dX9_ship_38 : decode cX9_ship 38 = .ok (.aload_n 0, 1) := by decide +kernel
theorem dX9_ship_39 : decode cX9_ship 39 = .ok (.getfield 29, 3) := by decide +kernel
theorem dX9_ship_42 : decode cX9_ship 42 = .ok (.getfield 117, 3) := by decide +kernel
theorem dX9_ship_45 : decode cX9_ship 45 = .ok (.aload_n 0, 1) := by decide +kernel
theorem dX9_ship_46 : decode cX9_ship 46 = .ok (.getfield 29, 3) := by decide +kernel
theorem dX9_ship_49 : decode cX9_ship 49 = .ok (.getfield 116, 3) := by decide +kernel
theorem dX9_ship_52 : decode cX9_ship 52 = .ok (.aaload, 1) := by decide +kernel
theorem dX9_ship_53 : decode cX9_ship 53 = .ok (.iload_n 1, 1) := by decide +kernel
theorem dX9_ship_54 : decode cX9_ship 54 = .ok (.iload_n 2, 1) := by decide +kernel
theorem dX9_ship_55 : decode cX9_ship 55 = .ok (.iload_n 3, 1) := by decide +kernel
theorem dX9_ship_56 : decode cX9_ship 56 = .ok (.iload 4, 2) := by decide +kernel
theorem dX9_ship_58 : decode cX9_ship 58 = .ok (.invokevirtual 121, 3) := by decide +kernel
theorem dX9_ship_61 : decode cX9_ship 61 = .ok (.aload_n 0, 1) := by decide +kernel
theorem dX9_ship_62 : decode cX9_ship 62 = .ok (.getfield 29, 3) := by decide +kernel
theorem dX9_ship_65 : decode cX9_ship 65 = .ok (.dup, 1) := by decide +kernel
theorem dX9_ship_66 : decode cX9_ship 66 = .ok (.getfield 116, 3) := by decide +kernel
theorem dX9_ship_69 : decode cX9_ship 69 = .ok (.iconst 1, 1) := by decide +kernel
theorem dX9_ship_70 : decode cX9_ship 70 = .ok (.iadd, 1) := by decide +kernel
theorem dX9_ship_71 : decode cX9_ship 71 = .ok (.putfield 116, 3) := by decide +kernel
theorem dX9_ship_74 : decode cX9_ship 74 = .ok (.aload_n 0, 1) := by decide +kernel
theorem dX9_ship_75 : decode cX9_ship 75 = .ok (.getfield 29, 3) := by decide +kernel
theorem dX9_ship_78 : decode cX9_ship 78 = .ok (.getfield 116, 3) := by decide +kernel
theorem dX9_ship_81 : decode cX9_ship 81 = .ok (.iconst 1, 1) := by decide +kernel
theorem dX9_ship_82 : decode cX9_ship 82 = .ok (.isub, 1) := by decide +kernel
theorem dX9_ship_83 : decode cX9_ship 83 = .ok (.ireturn, 1) := by decide +kernel
theorem dX9_miss_0 : decode cX9_miss 0 = .ok (.aload_n 0, 1) := by decide +kernel
theorem dX9_miss_1 : decode cX9_miss 1 = .ok (.iload_n 1, 1) := by decide +kernel
theorem dX9_miss_2 : decode cX9_miss 2 = .ok (.invokevirtual 127, 3) := by decide +kernel
theorem dX9_miss_5 : decode cX9_miss 5 = .ok (.ifCond .ne 5, 3) := by decide +kernel
theorem dX9_miss_8 : decode cX9_miss 8 = .ok (.iconst (-1), 1) := by decide +kernel
theorem dX9_miss_9 : decode cX9_miss 9 = .ok (.ireturn, 1) := by decide +kernel
theorem dX9_miss_10 : decode cX9_miss 10 = .ok (.iload_n 2, 1) := by decide +kernel
theorem dX9_miss_11 : decode cX9_miss 11 = .ok (.iconst 0, 1) := by decide +kernel
theorem dX9_miss_12 : decode cX9_miss 12 = .ok (.bipush 9, 2) := by decide +kernel
theorem dX9_miss_14 : decode cX9_miss 14 = .ok (.invokestatic 80, 3) := by decide +kernel
theorem dX9_miss_17 : decode cX9_miss 17 = .ok (.ifCond .eq 13, 3) := by decide +kernel
theorem dX9_miss_20 : decode cX9_miss 20 = .ok (.iload_n 3, 1) := by decide +kernel
theorem dX9_miss_21 : decode cX9_miss 21 = .ok (.iconst 0, 1) := by decide +kernel
theorem dX9_miss_22 : decode cX9_miss 22 = .ok (.bipush 11, 2) := by decide +kernel
theorem dX9_miss_24 : decode cX9_miss 24 = .ok (.invokestatic 80, 3) := by decide +kernel
theorem dX9_miss_27 : decode cX9_miss 27 = .ok (.ifCond .ne 6, 3) := by decide +kernel
theorem dX9_miss_30 : decode cX9_miss 30 = .ok (.bipush (-2), 2) := by decide +kernel
theorem dX9_miss_32 : decode cX9_miss 32 = .ok (.ireturn, 1) := by decide +kernel
theorem dX9_miss_33 : decode cX9_miss 33 = .ok (.aload_n 0, 1) := by decide +kernel
theorem dX9_miss_34 : decode cX9_miss 34 = .ok (.getfield 29, 3) := by decide +kernel
theorem dX9_miss_37 : decode cX9_miss 37 = .ok (.getfield 130, 3) := by decide +kernel
theorem dX9_miss_40 : decode cX9_miss 40 = .ok (.bipush 20, 2) := by decide +kernel
theorem dX9_miss_42 : decode cX9_miss 42 = .ok (.if_icmp .lt 6, 3) := by decide +kernel
theorem dX9_miss_45 : decode cX9_miss 45 = .ok (.bipush (-4), 2) := by decide +kernel
theorem dX9_miss_47 : decode cX9_miss 47 = .ok (.ireturn, 1) := by decide +kernel
theorem dX9_miss_48 : decode cX9_miss 48 = .ok (.aload_n 0, 1) := by decide +kernel
theorem dX9_miss_49 : decode cX9_miss 49 = .ok (.getfield 29, 3) := by decide +kernel
theorem dX9_miss_52 : decode cX9_miss 52 = .ok (.getfield 117, 3) := by decide +kernel
theorem dX9_miss_55 : decode cX9_miss 55 = .ok (.iload_n 1, 1) := by decide +kernel
theorem dX9_miss_56 : decode cX9_miss 56 = .ok (.aaload, 1) := by decide +kernel
theorem dX9_miss_57 : decode cX9_miss 57 = .ok (.getfield 133, 3) := by decide +kernel
theorem dX9_miss_60 : decode cX9_miss 60 = .ok (.astore 4, 2) := by decide +kernel
theorem dX9_miss_62 : decode cX9_miss 62 = .ok (.aload 4, 2) := by decide +kernel
theorem dX9_miss_64 : decode cX9_miss 64 = .ok (.iload_n 2, 1) := by decide +kernel
theorem dX9_miss_65 : decode cX9_miss 65 = .ok (.iaload, 1) := by decide +kernel
theorem dX9_miss_66 : decode cX9_miss 66 = .ok (.iload_n 3, 1) := by decide +kernel
theorem dX9_miss_67 : decode cX9_miss 67 = .ok (.ishr, 1) := by decide +kernel
theorem dX9_miss_68 : decode cX9_miss 68 = .ok (.iconst 1, 1) := by decide +kernel
theorem dX9_miss_69 : decode cX9_miss 69 = .ok (.iand, 1) := by decide +kernel
theorem dX9_miss_70 : decode cX9_miss 70 = .ok (.iconst 1, 1) := by decide +kernel
theorem dX9_miss_71 : decode cX9_miss 71 = .ok (.if_icmp .ne 6, 3) := by decide +kernel
theorem dX9_miss_74 : decode cX9_miss 74 = .ok (.bipush (-5), 2) := by decide +kernel
theorem dX9_miss_76 : decode cX9_miss 76 = .ok (.ireturn, 1) := by decide +kernel
theorem dX9_miss_77 : decode cX9_miss 77 = .ok (.aload 4, 2) := by decide +kernel
theorem dX9_miss_79 : decode cX9_miss 79 = .ok (.iload_n 2, 1) := by decide +kernel
theorem dX9_miss_80 : decode cX9_miss 80 = .ok (.dup2, 1) := by decide +kernel
theorem dX9_miss_81 : decode cX9_miss 81 = .ok (.iaload, 1) := by decide +kernel
theorem dX9_miss_82 : decode cX9_miss 82 = .ok (.iconst 1, 1) := by decide +kernel
theorem dX9_miss_83 : decode cX9_miss 83 = .ok (.iload_n 3, 1) := by decide +kernel
theorem dX9_miss_84 : decode cX9_miss 84 = .ok (.ishl, 1) := by decide +kernel
theorem dX9_miss_85 : decode cX9_miss 85 = .ok (.ior, 1) := by decide +kernel
theorem dX9_miss_86 : decode cX9_miss 86 = .ok (.iastore, 1) := by decide +kernel
theorem dX9_miss_87 : decode cX9_miss 87 = .ok (.aload_n 0, 1) := by decide +kernel
theorem dX9_miss_88 : decode cX9_miss 88 = .ok (.getfield 29, 3) := by decide +kernel
theorem dX9_miss_91 : decode cX9_miss 91 = .ok (.dup, 1) := by decide +kernel
theorem dX9_miss_92 : decode cX9_miss 92 = .ok (.getfield 130, 3) := by decide +kernel
theorem dX9_miss_95 : decode cX9_miss 95 = .ok (.iconst 1, 1) := by decide +kernel
theorem dX9_miss_96 : decode cX9_miss 96 = .ok (.iadd, 1) := by decide +kernel
theorem dX9_miss_97 : decode cX9_miss 97 = .ok (.putfield 130, 3) := by decide +kernel
theorem dX9_miss_100 : decode cX9_miss 100 = .ok (.aload_n 0, 1) := by decide +kernel
theorem dX9_miss_101 : decode cX9_miss 101 = .ok (.getfield 29, 3) := by decide +kernel
theorem dX9_miss_104 : decode cX9_miss 104 = .ok (.getfield 130, 3) := by decide +kernel
theorem dX9_miss_107 : decode cX9_miss 107 = .ok (.ireturn, 1) := by decide +kernel
theorem dX9_fog_0 : decode cX9_fog 0 = .ok (.iload_n 1, 1) := by decide +kernel
theorem dX9_fog_1 : decode cX9_fog 1 = .ok (.iconst 0, 1) := by decide +kernel
theorem dX9_fog_2 : decode cX9_fog 2 = .ok (.sipush 600, 3) := by decide +kernel
theorem dX9_fog_5 : decode cX9_fog 5 = .ok (.invokestatic 80, 3) := by decide +kernel
theorem dX9_fog_8 : decode cX9_fog 8 = .ok (.ifCond .eq 14, 3) := by decide +kernel
theorem dX9_fog_11 : decode cX9_fog 11 = .ok (.iload_n 2, 1) := by decide +kernel
theorem dX9_fog_12 : decode cX9_fog 12 = .ok (.iload_n 1, 1) := by decide +kernel
theorem dX9_fog_13 : decode cX9_fog 13 = .ok (.sipush 600, 3) := by decide +kernel
theorem dX9_fog_16 : decode cX9_fog 16 = .ok (.invokestatic 80, 3) := by decide +kernel
theorem dX9_fog_19 : decode cX9_fog 19 = .ok (.ifCond .ne 6, 3) := by decide +kernel
theorem dX9_fog_22 : decode cX9_fog 22 = .ok (.bipush (-2), 2) := by decide +kernel
theorem dX9_fog_24 : decode cX9_fog 24 = .ok (.ireturn, 1) := by decide +kernel
theorem dX9_fog_25 : decode cX9_fog 25 = .ok (.aload_n 0, 1) := by decide +kernel
theorem dX9_fog_26 : decode cX9_fog 26 = .ok (.getfield 22, 3) := by decide +kernel
theorem dX9_fog_29 : decode cX9_fog 29 = .ok (.iload_n 1, 1) := by decide +kernel
theorem dX9_fog_30 : decode cX9_fog 30 = .ok (.putfield 136, 3) := by decide +kernel
theorem dX9_fog_33 : decode cX9_fog 33 = .ok (.aload_n 0, 1) := by decide +kernel
theorem dX9_fog_34 : decode cX9_fog 34 = .ok (.getfield 22, 3) := by decide +kernel
theorem dX9_fog_37 : decode cX9_fog 37 = .ok (.iload_n 2, 1) := by decide +kernel
theorem dX9_fog_38 : decode cX9_fog 38 = .ok (.putfield 139, 3) := by decide +kernel
theorem dX9_fog_41 : decode cX9_fog 41 = .ok (.iconst 1, 1) := by decide +kernel
theorem dX9_fog_42 : decode cX9_fog 42 = .ok (.ireturn, 1) := by decide +kernel
theorem dX9_place_0 : decode cX9_place 0 = .ok (.aload_n 0, 1) := by decide +kernel
theorem dX9_place_1 : decode cX9_place 1 = .ok (.iload_n 1, 1) := by decide +kernel
theorem dX9_place_2 : decode cX9_place 2 = .ok (.invokevirtual 127, 3) := by decide +kernel
theorem dX9_place_5 : decode cX9_place 5 = .ok (.ifCond .ne 7, 3) := by decide +kernel
theorem dX9_place_8 : decode cX9_place 8 = .ok (.ldc2_w 105, 3) := by decide +kernel
theorem dX9_place_11 : decode cX9_place 11 = .ok (.lreturn, 1) := by decide +kernel
theorem dX9_place_12 : decode cX9_place 12 = .ok (.iload_n 2, 1) := by decide +kernel
theorem dX9_place_13 : decode cX9_place 13 = .ok (.iconst 0, 1) := by decide +kernel
theorem dX9_place_14 : decode cX9_place 14 = .ok (.sipush 600, 3) := by decide +kernel
theorem dX9_place_17 : decode cX9_place 17 = .ok (.invokestatic 80, 3) := by decide +kernel
theorem dX9_place_20 : decode cX9_place 20 = .ok (.ifCond .eq 12, 3) := by decide +kernel
theorem dX9_place_23 : decode cX9_place 23 = .ok (.iload_n 3, 1) := by decide +kernel
theorem dX9_place_24 : decode cX9_place 24 = .ok (.iconst 0, 1) := by decide +kernel
theorem dX9_place_25 : decode cX9_place 25 = .ok (.iconst 1, 1) := by decide +kernel
theorem dX9_place_26 : decode cX9_place 26 = .ok (.invokestatic 80, 3) := by decide +kernel
theorem dX9_place_29 : decode cX9_place 29 = .ok (.ifCond .ne 7, 3) := by decide +kernel
theorem dX9_place_32 : decode cX9_place 32 = .ok (.ldc2_w 107, 3) := by decide +kernel
theorem dX9_place_35 : decode cX9_place 35 = .ok (.lreturn, 1) := by decide +kernel
theorem dX9_place_36 : decode cX9_place 36 = .ok (.aload_n 0, 1) := by decide +kernel
theorem dX9_place_37 : decode cX9_place 37 = .ok (.getfield 29, 3) := by decide +kernel
theorem dX9_place_40 : decode cX9_place 40 = .ok (.getfield 117, 3) := by decide +kernel
theorem dX9_place_43 : decode cX9_place 43 = .ok (.iload_n 1, 1) := by decide +kernel
theorem dX9_place_44 : decode cX9_place 44 = .ok (.aaload, 1) := by decide +kernel
theorem dX9_place_45 : decode cX9_place 45 = .ok (.astore 4, 2) := by decide +kernel
theorem dX9_place_47 : decode cX9_place 47 = .ok (.aload 4, 2) := by decide +kernel
theorem dX9_place_49 : decode cX9_place 49 = .ok (.invokevirtual 142, 3) := by decide +kernel
theorem dX9_place_52 : decode cX9_place 52 = .ok (.iconst 0, 1) := by decide +kernel
theorem dX9_place_53 : decode cX9_place 53 = .ok (.istore 5, 2) := by decide +kernel
theorem dX9_place_55 : decode cX9_place 55 = .ok (.iload 5, 2) := by decide +kernel
theorem dX9_place_57 : decode cX9_place 57 = .ok (.iload_n 2, 1) := by decide +kernel
theorem dX9_place_58 : decode cX9_place 58 = .ok (.if_icmp .ge 29, 3) := by decide +kernel
theorem dX9_place_61 : decode cX9_place 61 = .ok (.aload 4, 2) := by decide +kernel
theorem dX9_place_63 : decode cX9_place 63 = .ok (.aload_n 0, 1) := by decide +kernel
theorem dX9_place_64 : decode cX9_place 64 = .ok (.getfield 11, 3) := by decide +kernel
theorem dX9_place_67 : decode cX9_place 67 = .ok (.aload_n 0, 1) := by decide +kernel
theorem dX9_place_68 : decode cX9_place 68 = .ok (.getfield 15, 3) := by decide +kernel
theorem dX9_place_71 : decode cX9_place 71 = .ok (.aaload, 1) := by decide +kernel
theorem dX9_place_72 : decode cX9_place 72 = .ok (.aload_n 0, 1) := by decide +kernel
theorem dX9_place_73 : decode cX9_place 73 = .ok (.getfield 22, 3) := by decide +kernel
theorem dX9_place_76 : decode cX9_place 76 = .ok (.iload 5, 2) := by decide +kernel
theorem dX9_place_78 : decode cX9_place 78 = .ok (.invokevirtual 145, 3) := by decide +kernel
theorem dX9_place_81 : decode cX9_place 81 = .ok (.iinc 5 1, 3) := by decide +kernel
theorem dX9_place_84 : decode cX9_place 84 = .ok (.goto (-29), 3) := by decide +kernel
theorem dX9_place_87 : decode cX9_place 87 = .ok (.iload_n 3, 1) := by decide +kernel
theorem dX9_place_88 : decode cX9_place 88 = .ok (.ifCond .ne 11, 3) := by decide +kernel
theorem dX9_place_91 : decode cX9_place 91 = .ok (.aload 4, 2) := by decide +kernel
theorem dX9_place_93 : decode cX9_place 93 = .ok (.getfield 149, 3) := by decide +kernel
theorem dX9_place_96 : decode cX9_place 96 = .ok (.goto 8, 3) := by decide +kernel
theorem dX9_place_99 : decode cX9_place 99 = .ok (.aload 4, 2) := by decide +kernel
theorem dX9_place_101 : decode cX9_place 101 = .ok (.getfield 153, 3) := by decide +kernel
theorem dX9_place_104 : decode cX9_place 104 = .ok (.lreturn, 1) := by decide +kernel
theorem dX9_nearest_0 : decode cX9_nearest 0 = .ok (.iload_n 1, 1) := by decide +kernel
theorem dX9_nearest_1 : decode cX9_nearest 1 = .ok (.iconst 0, 1) := by decide +kernel
theorem dX9_nearest_2 : decode cX9_nearest 2 = .ok (.sipush 600, 3) := by decide +kernel
theorem dX9_nearest_5 : decode cX9_nearest 5 = .ok (.invokestatic 80, 3) := by decide +kernel
theorem dX9_nearest_8 : decode cX9_nearest 8 = .ok (.ifCond .eq 12, 3) := by decide +kernel
theorem dX9_nearest_11 : decode cX9_nearest 11 = .ok (.iload_n 2, 1) := by decide +kernel
theorem dX9_nearest_12 : decode cX9_nearest 12 = .ok (.iconst 0, 1) := by decide +kernel
theorem dX9_nearest_13 : decode cX9_nearest 13 = .ok (.iconst 3, 1) := by decide +kernel
theorem dX9_nearest_14 : decode cX9_nearest 14 = .ok (.invokestatic 80, 3) := by decide +kernel
theorem dX9_nearest_17 : decode cX9_nearest 17 = .ok (.ifCond .ne 7, 3) := by decide +kernel
theorem dX9_nearest_20 : decode cX9_nearest 20 = .ok (.ldc2_w 107, 3) := by decide +kernel
theorem dX9_nearest_23 : decode cX9_nearest 23 = .ok (.lreturn, 1) := by decide +kernel
theorem dX9_nearest_24 : decode cX9_nearest 24 = .ok (.aload_n 0, 1) := by decide +kernel
theorem dX9_nearest_25 : decode cX9_nearest 25 = .ok (.getfield 29, 3) := by decide +kernel
theorem dX9_nearest_28 : decode cX9_nearest 28 = .ok (.getfield 116, 3) := by decide +kernel
theorem dX9_nearest_31 : decode cX9_nearest 31 = .ok (.iconst 2, 1) := by decide +kernel
theorem dX9_nearest_32 : decode cX9_nearest 32 = .ok (.if_icmp .ge 7, 3) := by decide +kernel
theorem dX9_nearest_35 : decode cX9_nearest 35 = .ok (.ldc2_w 156, 3) := by decide +kernel
theorem dX9_nearest_38 : decode cX9_nearest 38 = .ok (.lreturn, 1) := by decide +kernel
theorem dX9_nearest_39 : decode cX9_nearest 39 = .ok (.aload_n 0, 1) := by decide +kernel
theorem dX9_nearest_40 : decode cX9_nearest 40 = .ok (.getfield 29, 3) := by decide +kernel
theorem dX9_nearest_43 : decode cX9_nearest 43 = .ok (.aload_n 0, 1) := by decide +kernel
theorem dX9_nearest_44 : decode cX9_nearest 44 = .ok (.getfield 11, 3) := by decide +kernel
theorem dX9_nearest_47 : decode cX9_nearest 47 = .ok (.aload_n 0, 1) := by decide +kernel
theorem dX9_nearest_48 : decode cX9_nearest 48 = .ok (.getfield 15, 3) := by decide +kernel
theorem dX9_nearest_51 : decode cX9_nearest 51 = .ok (.aaload, 1) := by decide +kernel
theorem dX9_nearest_52 : decode cX9_nearest 52 = .ok (.aload_n 0, 1) := by decide +kernel
theorem dX9_nearest_53 : decode cX9_nearest 53 = .ok (.getfield 22, 3) := by decide +kernel
theorem dX9_nearest_56 : decode cX9_nearest 56 = .ok (.iload_n 1, 1) := by decide +kernel
theorem dX9_nearest_57 : decode cX9_nearest 57 = .ok (.invokevirtual 158, 3) := by decide +kernel
theorem dX9_nearest_60 : decode cX9_nearest 60 = .ok (.iload_n 2, 1) := by decide +kernel
theorem dX9_nearest_61 : decode cX9_nearest 61 = .ok (.tableswitch 53 0 2 #[27, 35, 44], 27) := by decide +kernel
theorem dX9_nearest_88 : decode cX9_nearest 88 = .ok (.aload_n 0, 1) := by decide +kernel
theorem dX9_nearest_89 : decode cX9_nearest 89 = .ok (.getfield 29, 3) := by decide +kernel
theorem dX9_nearest_92 : decode cX9_nearest 92 = .ok (.getfield 161, 3) := by decide +kernel
theorem dX9_nearest_95 : decode cX9_nearest 95 = .ok (.lreturn, 1) := by decide +kernel
theorem dX9_nearest_96 : decode cX9_nearest 96 = .ok (.aload_n 0, 1) := by decide +kernel
theorem dX9_nearest_97 : decode cX9_nearest 97 = .ok (.getfield 29, 3) := by decide +kernel
theorem dX9_nearest_100 : decode cX9_nearest 100 = .ok (.getfield 164, 3) := by decide +kernel
theorem dX9_nearest_103 : decode cX9_nearest 103 = .ok (.i2l, 1) := by decide +kernel
theorem dX9_nearest_104 : decode cX9_nearest 104 = .ok (.lreturn, 1) := by decide +kernel
theorem dX9_nearest_105 : decode cX9_nearest 105 = .ok (.aload_n 0, 1) := by decide +kernel
theorem dX9_nearest_106 : decode cX9_nearest 106 = .ok (.getfield 29, 3) := by decide +kernel
theorem dX9_nearest_109 : decode cX9_nearest 109 = .ok (.getfield 167, 3) := by decide +kernel
theorem dX9_nearest_112 : decode cX9_nearest 112 = .ok (.i2l, 1) := by decide +kernel
theorem dX9_nearest_113 : decode cX9_nearest 113 = .ok (.lreturn, 1) := by decide +kernel
theorem dX9_nearest_114 : decode cX9_nearest 114 = .ok (.aload_n 0, 1) := by decide +kernel
theorem dX9_nearest_115 : decode cX9_nearest 115 = .ok (.getfield 29, 3) := by decide +kernel
theorem dX9_nearest_118 : decode cX9_nearest 118 = .ok (.getfield 170, 3) := by decide +kernel
theorem dX9_nearest_121 : decode cX9_nearest 121 = .ok (.i2l, 1) := by decide +kernel
theorem dX9_nearest_122 : decode cX9_nearest 122 = .ok (.lreturn, 1) := by decide +kernel
theorem dX9_close_0 : decode cX9_close 0 = .ok (.iload_n 1, 1) := by decide +kernel
theorem dX9_close_1 : decode cX9_close 1 = .ok (.iconst 0, 1) := by decide +kernel
theorem dX9_close_2 : decode cX9_close 2 = .ok (.sipush 600, 3) := by decide +kernel
theorem dX9_close_5 : decode cX9_close 5 = .ok (.invokestatic 80, 3) := by decide +kernel
theorem dX9_close_8 : decode cX9_close 8 = .ok (.ifCond .eq 13, 3) := by decide +kernel
theorem dX9_close_11 : decode cX9_close 11 = .ok (.iload_n 2, 1) := by decide +kernel
theorem dX9_close_12 : decode cX9_close 12 = .ok (.iconst 0, 1) := by decide +kernel
theorem dX9_close_13 : decode cX9_close 13 = .ok (.ldc 173, 2) := by decide +kernel
theorem dX9_close_15 : decode cX9_close 15 = .ok (.invokestatic 80, 3) := by decide +kernel
theorem dX9_close_18 : decode cX9_close 18 = .ok (.ifCond .ne 6, 3) := by decide +kernel
theorem dX9_close_21 : decode cX9_close 21 = .ok (.bipush (-2), 2) := by decide +kernel
theorem dX9_close_23 : decode cX9_close 23 = .ok (.ireturn, 1) := by decide +kernel
theorem dX9_close_24 : decode cX9_close 24 = .ok (.aload_n 0, 1) := by decide +kernel
theorem dX9_close_25 : decode cX9_close 25 = .ok (.getfield 29, 3) := by decide +kernel
theorem dX9_close_28 : decode cX9_close 28 = .ok (.aload_n 0, 1) := by decide +kernel
theorem dX9_close_29 : decode cX9_close 29 = .ok (.getfield 11, 3) := by decide +kernel
theorem dX9_close_32 : decode cX9_close 32 = .ok (.aload_n 0, 1) := by decide +kernel
theorem dX9_close_33 : decode cX9_close 33 = .ok (.getfield 15, 3) := by decide +kernel
theorem dX9_close_36 : decode cX9_close 36 = .ok (.aaload, 1) := by decide +kernel
theorem dX9_close_37 : decode cX9_close 37 = .ok (.aload_n 0, 1) := by decide +kernel
theorem dX9_close_38 : decode cX9_close 38 = .ok (.getfield 22, 3) := by decide +kernel
theorem dX9_close_41 : decode cX9_close 41 = .ok (.iload_n 1, 1) := by decide +kernel
theorem dX9_close_42 : decode cX9_close 42 = .ok (.iload_n 2, 1) := by decide +kernel
theorem dX9_close_43 : decode cX9_close 43 = .ok (.invokevirtual 174, 3) := by decide +kernel
theorem dX9_close_46 : decode cX9_close 46 = .ok (.ireturn, 1) := by decide +kernel
theorem dX9_centre_0 : decode cX9_centre 0 = .ok (.iload_n 1, 1) := by decide +kernel
theorem dX9_centre_1 : decode cX9_centre 1 = .ok (.iconst 1, 1) := by decide +kernel
theorem dX9_centre_2 : decode cX9_centre 2 = .ok (.bipush 20, 2) := by decide +kernel
theorem dX9_centre_4 : decode cX9_centre 4 = .ok (.invokestatic 80, 3) := by decide +kernel
theorem dX9_centre_7 : decode cX9_centre 7 = .ok (.ifCond .ne 6, 3) := by decide +kernel
theorem dX9_centre_10 : decode cX9_centre 10 = .ok (.bipush (-2), 2) := by decide +kernel
theorem dX9_centre_12 : decode cX9_centre 12 = .ok (.ireturn, 1) := by decide +kernel
theorem dX9_centre_13 : decode cX9_centre 13 = .ok (.aload_n 0, 1) := by decide +kernel
theorem dX9_centre_14 : decode cX9_centre 14 = .ok (.getfield 33, 3) := by decide +kernel
theorem dX9_centre_17 : decode cX9_centre 17 = .ok (.istore_n 2, 1) := by decide +kernel
theorem dX9_centre_18 : decode cX9_centre 18 = .ok (.aload_n 0, 1) := by decide +kernel
theorem dX9_centre_19 : decode cX9_centre 19 = .ok (.iload_n 1, 1) := by decide +kernel
theorem dX9_centre_20 : decode cX9_centre 20 = .ok (.putfield 33, 3) := by decide +kernel
theorem dX9_centre_23 : decode cX9_centre 23 = .ok (.iload_n 2, 1) := by decide +kernel
theorem dX9_centre_24 : decode cX9_centre 24 = .ok (.ireturn, 1) := by decide +kernel
theorem dX9_lurk_0 : decode cX9_lurk 0 = .ok (.iload_n 1, 1) := by decide +kernel
theorem dX9_lurk_1 : decode cX9_lurk 1 = .ok (.ldc 178, 2) := by decide +kernel
theorem dX9_lurk_3 : decode cX9_lurk 3 = .ok (.ldc 179, 2) := by decide +kernel
theorem dX9_lurk_5 : decode cX9_lurk 5 = .ok (.invokestatic 80, 3) := by decide +kernel
theorem dX9_lurk_8 : decode cX9_lurk 8 = .ok (.ifCond .eq 35, 3) := by decide +kernel
theorem dX9_lurk_11 : decode cX9_lurk 11 = .ok (.iload_n 2, 1) := by decide +kernel
theorem dX9_lurk_12 : decode cX9_lurk 12 = .ok (.ldc 178, 2) := by decide +kernel
theorem dX9_lurk_14 : decode cX9_lurk 14 = .ok (.ldc 179, 2) := by decide +kernel
theorem dX9_lurk_16 : decode cX9_lurk 16 = .ok (.invokestatic 80, 3) := by decide +kernel
theorem dX9_lurk_19 : decode cX9_lurk 19 = .ok (.ifCond .eq 24, 3) := by decide +kernel
theorem dX9_lurk_22 : decode cX9_lurk 22 = .ok (.iload_n 3, 1) := by decide +kernel
theorem dX9_lurk_23 : decode cX9_lurk 23 = .ok (.iconst 1, 1) := by decide +kernel
theorem dX9_lurk_24 : decode cX9_lurk 24 = .ok (.bipush 20, 2) := by decide +kernel
theorem dX9_lurk_26 : decode cX9_lurk 26 = .ok (.invokestatic 80, 3) := by decide +kernel
theorem dX9_lurk_29 : decode cX9_lurk 29 = .ok (.ifCond .eq 14, 3) := by decide +kernel
theorem dX9_lurk_32 : decode cX9_lurk 32 = .ok (.iload 4, 2) := by decide +kernel
theorem dX9_lurk_34 : decode cX9_lurk 34 = .ok (.iconst 0, 1) := by decide +kernel
theorem dX9_lurk_35 : decode cX9_lurk 35 = .ok (.ldc 180, 2) := by decide +kernel
theorem dX9_lurk_37 : decode cX9_lurk 37 = .ok (.invokestatic 80, 3) := by decide +kernel
theorem dX9_lurk_40 : decode cX9_lurk 40 = .ok (.ifCond .ne 6, 3) := by decide +kernel
theorem dX9_lurk_43 : decode cX9_lurk 43 = .ok (.bipush (-2), 2) := by decide +kernel
theorem dX9_lurk_45 : decode cX9_lurk 45 = .ok (.ireturn, 1) := by decide +kernel
theorem dX9_lurk_46 : decode cX9_lurk 46 = .ok (.aload_n 0, 1) := by decide +kernel
theorem dX9_lurk_47 : decode cX9_lurk 47 = .ok (.getfield 39, 3) := by decide +kernel
theorem dX9_lurk_50 : decode cX9_lurk 50 = .ok (.iload_n 1, 1) := by decide +kernel
theorem dX9_lurk_51 : decode cX9_lurk 51 = .ok (.putfield 181, 3) := by decide +kernel
theorem dX9_lurk_54 : decode cX9_lurk 54 = .ok (.aload_n 0, 1) := by decide +kernel
theorem dX9_lurk_55 : decode cX9_lurk 55 = .ok (.getfield 39, 3) := by decide +kernel
theorem dX9_lurk_58 : decode cX9_lurk 58 = .ok (.iload_n 2, 1) := by decide +kernel
theorem dX9_lurk_59 : decode cX9_lurk 59 = .ok (.putfield 184, 3) := by decide +kernel
theorem dX9_lurk_62 : decode cX9_lurk 62 = .ok (.aload_n 0, 1) := by decide +kernel
theorem dX9_lurk_63 : decode cX9_lurk 63 = .ok (.getfield 39, 3) := by decide +kernel
theorem dX9_lurk_66 : decode cX9_lurk 66 = .ok (.iload_n 3, 1) := by decide +kernel
theorem dX9_lurk_67 : decode cX9_lurk 67 = .ok (.putfield 187, 3) := by decide +kernel
theorem dX9_lurk_70 : decode cX9_lurk 70 = .ok (.aload_n 0, 1) := by decide +kernel
theorem dX9_lurk_71 : decode cX9_lurk 71 = .ok (.getfield 39, 3) := by decide +kernel
theorem dX9_lurk_74 : decode cX9_lurk 74 = .ok (.iload 4, 2) := by decide +kernel
theorem dX9_lurk_76 : decode cX9_lurk 76 = .ok (.putfield 190, 3) := by decide +kernel
theorem dX9_lurk_79 : decode cX9_lurk 79 = .ok (.iconst 1, 1) := by decide +kernel
theorem dX9_lurk_80 : decode cX9_lurk 80 = .ok (.ireturn, 1) := by decide +kernel
theorem dX9_comes_0 : decode cX9_comes 0 = .ok (.iload_n 1, 1) := by decide +kernel
theorem dX9_comes_1 : decode cX9_comes 1 = .ok (.i2l, 1) := by decide +kernel
theorem dX9_comes_2 : decode cX9_comes 2 = .ok (.invokestatic 76, 3) := by decide +kernel
theorem dX9_comes_5 : decode cX9_comes 5 = .ok (.ifCond .ne 5, 3) := by decide +kernel
theorem dX9_comes_8 : decode cX9_comes 8 = .ok (.iconst (-1), 1) := by decide +kernel
theorem dX9_comes_9 : decode cX9_comes 9 = .ok (.ireturn, 1) := by decide +kernel
theorem dX9_comes_10 : decode cX9_comes 10 = .ok (.iconst 0, 1) := by decide +kernel
theorem dX9_comes_11 : decode cX9_comes 11 = .ok (.istore_n 2, 1) := by decide +kernel
theorem dX9_comes_12 : decode cX9_comes 12 = .ok (.iload_n 2, 1) := by decide +kernel
theorem dX9_comes_13 : decode cX9_comes 13 = .ok (.sipush 600, 3) := by decide +kernel
theorem dX9_comes_16 : decode cX9_comes 16 = .ok (.if_icmp .gt 69, 3) := by decide +kernel
theorem dX9_comes_19 : decode cX9_comes 19 = .ok (.aload_n 0, 1) := by decide +kernel
theorem dX9_comes_20 : decode cX9_comes 20 = .ok (.getfield 33, 3) := by decide +kernel
theorem dX9_comes_23 : decode cX9_comes 23 = .ok (.i2l, 1) := by decide +kernel
theorem dX9_comes_24 : decode cX9_comes 24 = .ok (.aload_n 0, 1) := by decide +kernel
theorem dX9_comes_25 : decode cX9_comes 25 = .ok (.getfield 11, 3) := by decide +kernel
theorem dX9_comes_28 : decode cX9_comes 28 = .ok (.iload_n 1, 1) := by decide +kernel
theorem dX9_comes_29 : decode cX9_comes 29 = .ok (.aaload, 1) := by decide +kernel
theorem dX9_comes_30 : decode cX9_comes 30 = .ok (.iload_n 2, 1) := by decide +kernel
theorem dX9_comes_31 : decode cX9_comes 31 = .ok (.iconst 0, 1) := by decide +kernel
theorem dX9_comes_32 : decode cX9_comes 32 = .ok (.invokevirtual 109, 3) := by decide +kernel
theorem dX9_comes_35 : decode cX9_comes 35 = .ok (.lmul, 1) := by decide +kernel
theorem dX9_comes_36 : decode cX9_comes 36 = .ok (.lstore_n 3, 1) := by decide +kernel
theorem dX9_comes_37 : decode cX9_comes 37 = .ok (.aload_n 0, 1) := by decide +kernel
theorem dX9_comes_38 : decode cX9_comes 38 = .ok (.getfield 33, 3) := by decide +kernel
theorem dX9_comes_41 : decode cX9_comes 41 = .ok (.i2l, 1) := by decide +kernel
theorem dX9_comes_42 : decode cX9_comes 42 = .ok (.aload_n 0, 1) := by decide +kernel
theorem dX9_comes_43 : decode cX9_comes 43 = .ok (.getfield 11, 3) := by decide +kernel
theorem dX9_comes_46 : decode cX9_comes 46 = .ok (.iload_n 1, 1) := by decide +kernel
theorem dX9_comes_47 : decode cX9_comes 47 = .ok (.aaload, 1) := by decide +kernel
theorem dX9_comes_48 : decode cX9_comes 48 = .ok (.iload_n 2, 1) := by decide +kernel
theorem dX9_comes_49 : decode cX9_comes 49 = .ok (.iconst 1, 1) := by decide +kernel
theorem dX9_comes_50 : decode cX9_comes 50 = .ok (.invokevirtual 109, 3) := by decide +kernel
theorem dX9_comes_53 : decode cX9_comes 53 = .ok (.lmul, 1) := by decide +kernel
theorem dX9_comes_54 : decode cX9_comes 54 = .ok (.lstore 5, 2) := by decide +kernel
theorem dX9_comes_56 : decode cX9_comes 56 = .ok (.aload_n 0, 1) := by decide +kernel
theorem dX9_comes_57 : decode cX9_comes 57 = .ok (.getfield 39, 3) := by decide +kernel
theorem dX9_comes_60 : decode cX9_comes 60 = .ok (.lload_n 3, 1) := by decide +kernel
theorem dX9_comes_61 : decode cX9_comes 61 = .ok (.lload 5, 2) := by decide +kernel
theorem dX9_comes_63 : decode cX9_comes 63 = .ok (.iload_n 2, 1) := by decide +kernel
theorem dX9_comes_64 : decode cX9_comes 64 = .ok (.aload_n 0, 1) := by decide +kernel
theorem dX9_comes_65 : decode cX9_comes 65 = .ok (.getfield 39, 3) := by decide +kernel
theorem dX9_comes_68 : decode cX9_comes 68 = .ok (.getfield 190, 3) := by decide +kernel
theorem dX9_comes_71 : decode cX9_comes 71 = .ok (.invokevirtual 193, 3) := by decide +kernel
theorem dX9_comes_74 : decode cX9_comes 74 = .ok (.ifCond .eq 5, 3) := by decide +kernel
theorem dX9_comes_77 : decode cX9_comes 77 = .ok (.iload_n 2, 1) := by decide +kernel
theorem dX9_comes_78 : decode cX9_comes 78 = .ok (.ireturn, 1) := by decide +kernel
theorem dX9_comes_79 : decode cX9_comes 79 = .ok (.iinc 2 1, 3) := by decide +kernel
theorem dX9_comes_82 : decode cX9_comes 82 = .ok (.goto (-70), 3) := by decide +kernel
theorem dX9_comes_85 : decode cX9_comes 85 = .ok (.bipush (-6), 2) := by decide +kernel
theorem dX9_comes_87 : decode cX9_comes 87 = .ok (.ireturn, 1) := by decide +kernel
theorem dX9_gets_0 : decode cX9_gets 0 = .ok (.iload_n 1, 1) := by decide +kernel
theorem dX9_gets_1 : decode cX9_gets 1 = .ok (.i2l, 1) := by decide +kernel
theorem dX9_gets_2 : decode cX9_gets 2 = .ok (.invokestatic 76, 3) := by decide +kernel
theorem dX9_gets_5 : decode cX9_gets 5 = .ok (.ifCond .ne 5, 3) := by decide +kernel
theorem dX9_gets_8 : decode cX9_gets 8 = .ok (.iconst (-1), 1) := by decide +kernel
theorem dX9_gets_9 : decode cX9_gets 9 = .ok (.ireturn, 1) := by decide +kernel
theorem dX9_gets_10 : decode cX9_gets 10 = .ok (.iload_n 2, 1) := by decide +kernel
theorem dX9_gets_11 : decode cX9_gets 11 = .ok (.iconst 0, 1) := by decide +kernel
theorem dX9_gets_12 : decode cX9_gets 12 = .ok (.sipush 600, 3) := by decide +kernel
theorem dX9_gets_15 : decode cX9_gets 15 = .ok (.invokestatic 80, 3) := by decide +kernel
theorem dX9_gets_18 : decode cX9_gets 18 = .ok (.ifCond .ne 6, 3) := by decide +kernel
theorem dX9_gets_21 : decode cX9_gets 21 = .ok (.bipush (-2), 2) := by decide +kernel
theorem dX9_gets_23 : decode cX9_gets 23 = .ok (.ireturn, 1) := by decide +kernel
theorem dX9_gets_24 : decode cX9_gets 24 = .ok (.aload_n 0, 1) := by decide +kernel
theorem dX9_gets_25 : decode cX9_gets 25 = .ok (.getfield 39, 3) := by decide +kernel
theorem dX9_gets_28 : decode cX9_gets 28 = .ok (.aload_n 0, 1) := by decide +kernel
theorem dX9_gets_29 : decode cX9_gets 29 = .ok (.getfield 11, 3) := by decide +kernel
theorem dX9_gets_32 : decode cX9_gets 32 = .ok (.aload_n 0, 1) := by decide +kernel
theorem dX9_gets_33 : decode cX9_gets 33 = .ok (.getfield 33, 3) := by decide +kernel
theorem dX9_gets_36 : decode cX9_gets 36 = .ok (.iload_n 2, 1) := by decide +kernel
theorem dX9_gets_37 : decode cX9_gets 37 = .ok (.invokevirtual 197, 3) := by decide +kernel
theorem dX9_gets_40 : decode cX9_gets 40 = .ok (.aload_n 0, 1) := by decide +kernel
theorem dX9_gets_41 : decode cX9_gets 41 = .ok (.getfield 39, 3) := by decide +kernel
theorem dX9_gets_44 : decode cX9_gets 44 = .ok (.getfield 201, 3) := by decide +kernel
theorem dX9_gets_47 : decode cX9_gets 47 = .ok (.iload_n 1, 1) := by decide +kernel
theorem dX9_gets_48 : decode cX9_gets 48 = .ok (.iaload, 1) := by decide +kernel
theorem dX9_gets_49 : decode cX9_gets 49 = .ok (.ireturn, 1) := by decide +kernel
theorem dX9_worst_0 : decode cX9_worst 0 = .ok (.iload_n 1, 1) := by decide +kernel
theorem dX9_worst_1 : decode cX9_worst 1 = .ok (.iconst 0, 1) := by decide +kernel
theorem dX9_worst_2 : decode cX9_worst 2 = .ok (.sipush 600, 3) := by decide +kernel
theorem dX9_worst_5 : decode cX9_worst 5 = .ok (.invokestatic 80, 3) := by decide +kernel
theorem dX9_worst_8 : decode cX9_worst 8 = .ok (.ifCond .eq 43, 3) := by decide +kernel
theorem dX9_worst_11 : decode cX9_worst 11 = .ok (.iload_n 2, 1) := by decide +kernel
theorem dX9_worst_12 : decode cX9_worst 12 = .ok (.invokestatic 204, 3) := by decide +kernel
theorem dX9_worst_15 : decode cX9_worst 15 = .ok (.ifCond .eq 36, 3) := by decide +kernel
theorem dX9_worst_18 : decode cX9_worst 18 = .ok (.iload_n 3, 1) := by decide +kernel
theorem dX9_worst_19 : decode cX9_worst 19 = .ok (.invokestatic 204, 3) := by decide +kernel
theorem dX9_worst_22 : decode cX9_worst 22 = .ok (.ifCond .eq 29, 3) := by decide +kernel
theorem dX9_worst_25 : decode cX9_worst 25 = .ok (.iload 4, 2) := by decide +kernel
theorem dX9_worst_27 : decode cX9_worst 27 = .ok (.invokestatic 204, 3) := by decide +kernel
theorem dX9_worst_30 : decode cX9_worst 30 = .ok (.ifCond .eq 21, 3) := by decide +kernel
theorem dX9_worst_33 : decode cX9_worst 33 = .ok (.iload 5, 2) := by decide +kernel
theorem dX9_worst_35 : decode cX9_worst 35 = .ok (.invokestatic 204, 3) := by decide +kernel
theorem dX9_worst_38 : decode cX9_worst 38 = .ok (.ifCond .eq 13, 3) := by decide +kernel
theorem dX9_worst_41 : decode cX9_worst 41 = .ok (.iload 6, 2) := by decide +kernel
theorem dX9_worst_43 : decode cX9_worst 43 = .ok (.iconst 0, 1) := by decide +kernel
theorem dX9_worst_44 : decode cX9_worst 44 = .ok (.iconst 1, 1) := by decide +kernel
theorem dX9_worst_45 : decode cX9_worst 45 = .ok (.invokestatic 80, 3) := by decide +kernel
theorem dX9_worst_48 : decode cX9_worst 48 = .ok (.ifCond .ne 6, 3) := by decide +kernel
theorem dX9_worst_51 : decode cX9_worst 51 = .ok (.bipush (-2), 2) := by decide +kernel
theorem dX9_worst_53 : decode cX9_worst 53 = .ok (.ireturn, 1) := by decide +kernel
theorem dX9_worst_54 : decode cX9_worst 54 = .ok (.aload_n 0, 1) := by decide +kernel
theorem dX9_worst_55 : decode cX9_worst 55 = .ok (.getfield 39, 3) := by decide +kernel
theorem dX9_worst_58 : decode cX9_worst 58 = .ok (.aload_n 0, 1) := by decide +kernel
theorem dX9_worst_59 : decode cX9_worst 59 = .ok (.getfield 11, 3) := by decide +kernel
theorem dX9_worst_62 : decode cX9_worst 62 = .ok (.aload_n 0, 1) := by decide +kernel
theorem dX9_worst_63 : decode cX9_worst 63 = .ok (.getfield 33, 3) := by decide +kernel
theorem dX9_worst_66 : decode cX9_worst 66 = .ok (.iload_n 1, 1) := by decide +kernel
theorem dX9_worst_67 : decode cX9_worst 67 = .ok (.invokevirtual 197, 3) := by decide +kernel
theorem dX9_worst_70 : decode cX9_worst 70 = .ok (.aload_n 0, 1) := by decide +kernel
theorem dX9_worst_71 : decode cX9_worst 71 = .ok (.getfield 39, 3) := by decide +kernel
theorem dX9_worst_74 : decode cX9_worst 74 = .ok (.iload_n 2, 1) := by decide +kernel
theorem dX9_worst_75 : decode cX9_worst 75 = .ok (.iload_n 3, 1) := by decide +kernel
theorem dX9_worst_76 : decode cX9_worst 76 = .ok (.iload 4, 2) := by decide +kernel
theorem dX9_worst_78 : decode cX9_worst 78 = .ok (.iload 5, 2) := by decide +kernel
theorem dX9_worst_80 : decode cX9_worst 80 = .ok (.invokevirtual 207, 3) := by decide +kernel
theorem dX9_worst_83 : decode cX9_worst 83 = .ok (.iload 6, 2) := by decide +kernel
theorem dX9_worst_85 : decode cX9_worst 85 = .ok (.ifCond .ne 13, 3) := by decide +kernel
theorem dX9_worst_88 : decode cX9_worst 88 = .ok (.aload_n 0, 1) := by decide +kernel
theorem dX9_worst_89 : decode cX9_worst 89 = .ok (.getfield 39, 3) := by decide +kernel
theorem dX9_worst_92 : decode cX9_worst 92 = .ok (.getfield 210, 3) := by decide +kernel
theorem dX9_worst_95 : decode cX9_worst 95 = .ok (.goto 10, 3) := by decide +kernel
theorem dX9_worst_98 : decode cX9_worst 98 = .ok (.aload_n 0, 1) := by decide +kernel
theorem dX9_worst_99 : decode cX9_worst 99 = .ok (.getfield 39, 3) := by decide +kernel
theorem dX9_worst_102 : decode cX9_worst 102 = .ok (.getfield 213, 3) := by decide +kernel
theorem dX9_worst_105 : decode cX9_worst 105 = .ok (.ireturn, 1) := by decide +kernel
theorem dX9_mix_0 : decode cX9_mix 0 = .ok (.iload_n 1, 1) := by decide +kernel
theorem dX9_mix_1 : decode cX9_mix 1 = .ok (.iconst 0, 1) := by decide +kernel
theorem dX9_mix_2 : decode cX9_mix 2 = .ok (.sipush 600, 3) := by decide +kernel
theorem dX9_mix_5 : decode cX9_mix 5 = .ok (.invokestatic 80, 3) := by decide +kernel
theorem dX9_mix_8 : decode cX9_mix 8 = .ok (.ifCond .eq 22, 3) := by decide +kernel
theorem dX9_mix_11 : decode cX9_mix 11 = .ok (.iload_n 2, 1) := by decide +kernel
theorem dX9_mix_12 : decode cX9_mix 12 = .ok (.iconst 1, 1) := by decide +kernel
theorem dX9_mix_13 : decode cX9_mix 13 = .ok (.bipush 12, 2) := by decide +kernel
theorem dX9_mix_15 : decode cX9_mix 15 = .ok (.invokestatic 80, 3) := by decide +kernel
theorem dX9_mix_18 : decode cX9_mix 18 = .ok (.ifCond .eq 12, 3) := by decide +kernel
theorem dX9_mix_21 : decode cX9_mix 21 = .ok (.iload_n 3, 1) := by decide +kernel
theorem dX9_mix_22 : decode cX9_mix 22 = .ok (.iconst 0, 1) := by decide +kernel
theorem dX9_mix_23 : decode cX9_mix 23 = .ok (.iconst 4, 1) := by decide +kernel
theorem dX9_mix_24 : decode cX9_mix 24 = .ok (.invokestatic 80, 3) := by decide +kernel
theorem dX9_mix_27 : decode cX9_mix 27 = .ok (.ifCond .ne 6, 3) := by decide +kernel
theorem dX9_mix_30 : decode cX9_mix 30 = .ok (.bipush (-2), 2) := by decide +kernel
theorem dX9_mix_32 : decode cX9_mix 32 = .ok (.ireturn, 1) := by decide +kernel
theorem dX9_mix_33 : decode cX9_mix 33 = .ok (.aload_n 0, 1) := by decide +kernel
theorem dX9_mix_34 : decode cX9_mix 34 = .ok (.getfield 39, 3) := by decide +kernel
theorem dX9_mix_37 : decode cX9_mix 37 = .ok (.aload_n 0, 1) := by decide +kernel
theorem dX9_mix_38 : decode cX9_mix 38 = .ok (.getfield 11, 3) := by decide +kernel
theorem dX9_mix_41 : decode cX9_mix 41 = .ok (.aload_n 0, 1) := by decide +kernel
theorem dX9_mix_42 : decode cX9_mix 42 = .ok (.getfield 33, 3) := by decide +kernel
theorem dX9_mix_45 : decode cX9_mix 45 = .ok (.iload_n 1, 1) := by decide +kernel
theorem dX9_mix_46 : decode cX9_mix 46 = .ok (.invokevirtual 197, 3) := by decide +kernel
theorem dX9_mix_49 : decode cX9_mix 49 = .ok (.aload_n 0, 1) := by decide +kernel
theorem dX9_mix_50 : decode cX9_mix 50 = .ok (.getfield 39, 3) := by decide +kernel
theorem dX9_mix_53 : decode cX9_mix 53 = .ok (.iload_n 2, 1) := by decide +kernel
theorem dX9_mix_54 : decode cX9_mix 54 = .ok (.invokevirtual 216, 3) := by decide +kernel
theorem dX9_mix_57 : decode cX9_mix 57 = .ok (.iload_n 3, 1) := by decide +kernel
theorem dX9_mix_58 : decode cX9_mix 58 = .ok (.iconst 4, 1) := by decide +kernel
theorem dX9_mix_59 : decode cX9_mix 59 = .ok (.if_icmp .ne 13, 3) := by decide +kernel
theorem dX9_mix_62 : decode cX9_mix 62 = .ok (.aload_n 0, 1) := by decide +kernel
theorem dX9_mix_63 : decode cX9_mix 63 = .ok (.getfield 39, 3) := by decide +kernel
theorem dX9_mix_66 : decode cX9_mix 66 = .ok (.getfield 220, 3) := by decide +kernel
theorem dX9_mix_69 : decode cX9_mix 69 = .ok (.goto 12, 3) := by decide +kernel
theorem dX9_mix_72 : decode cX9_mix 72 = .ok (.aload_n 0, 1) := by decide +kernel
theorem dX9_mix_73 : decode cX9_mix 73 = .ok (.getfield 39, 3) := by decide +kernel
theorem dX9_mix_76 : decode cX9_mix 76 = .ok (.getfield 223, 3) := by decide +kernel
theorem dX9_mix_79 : decode cX9_mix 79 = .ok (.iload_n 3, 1) := by decide +kernel
theorem dX9_mix_80 : decode cX9_mix 80 = .ok (.iaload, 1) := by decide +kernel
theorem dX9_mix_81 : decode cX9_mix 81 = .ok (.ireturn, 1) := by decide +kernel
theorem dX9_post_0 : decode cX9_post 0 = .ok (.iload_n 1, 1) := by decide +kernel
theorem dX9_post_1 : decode cX9_post 1 = .ok (.bipush (-50), 2) := by decide +kernel
theorem dX9_post_3 : decode cX9_post 3 = .ok (.bipush 50, 2) := by decide +kernel
theorem dX9_post_5 : decode cX9_post 5 = .ok (.invokestatic 80, 3) := by decide +kernel
theorem dX9_post_8 : decode cX9_post 8 = .ok (.ifCond .eq 24, 3) := by decide +kernel
theorem dX9_post_11 : decode cX9_post 11 = .ok (.iload_n 2, 1) := by decide +kernel
theorem dX9_post_12 : decode cX9_post 12 = .ok (.bipush (-50), 2) := by decide +kernel
theorem dX9_post_14 : decode cX9_post 14 = .ok (.bipush 50, 2) := by decide +kernel
theorem dX9_post_16 : decode cX9_post 16 = .ok (.invokestatic 80, 3) := by decide +kernel
theorem dX9_post_19 : decode cX9_post 19 = .ok (.ifCond .eq 13, 3) := by decide +kernel
theorem dX9_post_22 : decode cX9_post 22 = .ok (.iload_n 3, 1) := by decide +kernel
theorem dX9_post_23 : decode cX9_post 23 = .ok (.iconst 1, 1) := by decide +kernel
theorem dX9_post_24 : decode cX9_post 24 = .ok (.bipush 40, 2) := by decide +kernel
theorem dX9_post_26 : decode cX9_post 26 = .ok (.invokestatic 80, 3) := by decide +kernel
theorem dX9_post_29 : decode cX9_post 29 = .ok (.ifCond .ne 6, 3) := by decide +kernel
theorem dX9_post_32 : decode cX9_post 32 = .ok (.bipush (-2), 2) := by decide +kernel
theorem dX9_post_34 : decode cX9_post 34 = .ok (.ireturn, 1) := by decide +kernel
theorem dX9_post_35 : decode cX9_post 35 = .ok (.aload_n 0, 1) := by decide +kernel
theorem dX9_post_36 : decode cX9_post 36 = .ok (.getfield 46, 3) := by decide +kernel
theorem dX9_post_39 : decode cX9_post 39 = .ok (.getfield 226, 3) := by decide +kernel
theorem dX9_post_42 : decode cX9_post 42 = .ok (.bipush 10, 2) := by decide +kernel
theorem dX9_post_44 : decode cX9_post 44 = .ok (.if_icmp .lt 6, 3) := by decide +kernel
theorem dX9_post_47 : decode cX9_post 47 = .ok (.bipush (-4), 2) := by decide +kernel
theorem dX9_post_49 : decode cX9_post 49 = .ok (.ireturn, 1) := by decide +kernel
theorem dX9_post_50 : decode cX9_post 50 = .ok (.aload_n 0, 1) := by decide +kernel
theorem dX9_post_51 : decode cX9_post 51 = .ok (.getfield 46, 3) := by decide +kernel
theorem dX9_post_54 : decode cX9_post 54 = .ok (.iload_n 1, 1) := by decide +kernel
theorem dX9_post_55 : decode cX9_post 55 = .ok (.iload_n 2, 1) := by decide +kernel
theorem dX9_post_56 : decode cX9_post 56 = .ok (.iload_n 3, 1) := by decide +kernel
theorem dX9_post_57 : decode cX9_post 57 = .ok (.invokevirtual 227, 3) := by decide +kernel
theorem dX9_post_60 : decode cX9_post 60 = .ok (.aload_n 0, 1) := by decide +kernel
theorem dX9_post_61 : decode cX9_post 61 = .ok (.getfield 46, 3) := by decide +kernel
theorem dX9_post_64 : decode cX9_post 64 = .ok (.getfield 226, 3) := by decide +kernel
theorem dX9_post_67 : decode cX9_post 67 = .ok (.iconst 1, 1) := by decide +kernel
theorem dX9_post_68 : decode cX9_post 68 = .ok (.isub, 1) := by decide +kernel
theorem dX9_post_69 : decode cX9_post 69 = .ok (.ireturn, 1) := by decide +kernel
theorem dX9_seen_0 : decode cX9_seen 0 = .ok (.iload_n 1, 1) := by decide +kernel
theorem dX9_seen_1 : decode cX9_seen 1 = .ok (.iconst 0, 1) := by decide +kernel
theorem dX9_seen_2 : decode cX9_seen 2 = .ok (.iconst 1, 1) := by decide +kernel
theorem dX9_seen_3 : decode cX9_seen 3 = .ok (.aload_n 0, 1) := by decide +kernel
theorem dX9_seen_4 : decode cX9_seen 4 = .ok (.getfield 46, 3) := by decide +kernel
theorem dX9_seen_7 : decode cX9_seen 7 = .ok (.getfield 226, 3) := by decide +kernel
theorem dX9_seen_10 : decode cX9_seen 10 = .ok (.ishl, 1) := by decide +kernel
theorem dX9_seen_11 : decode cX9_seen 11 = .ok (.iconst 1, 1) := by decide +kernel
theorem dX9_seen_12 : decode cX9_seen 12 = .ok (.isub, 1) := by decide +kernel
theorem dX9_seen_13 : decode cX9_seen 13 = .ok (.invokestatic 80, 3) := by decide +kernel
theorem dX9_seen_16 : decode cX9_seen 16 = .ok (.ifCond .eq 13, 3) := by decide +kernel
theorem dX9_seen_19 : decode cX9_seen 19 = .ok (.iload_n 2, 1) := by decide +kernel
theorem dX9_seen_20 : decode cX9_seen 20 = .ok (.iconst 1, 1) := by decide +kernel
theorem dX9_seen_21 : decode cX9_seen 21 = .ok (.bipush 50, 2) := by decide +kernel
theorem dX9_seen_23 : decode cX9_seen 23 = .ok (.invokestatic 80, 3) := by decide +kernel
theorem dX9_seen_26 : decode cX9_seen 26 = .ok (.ifCond .ne 6, 3) := by decide +kernel
theorem dX9_seen_29 : decode cX9_seen 29 = .ok (.bipush (-2), 2) := by decide +kernel
theorem dX9_seen_31 : decode cX9_seen 31 = .ok (.ireturn, 1) := by decide +kernel
theorem dX9_seen_32 : decode cX9_seen 32 = .ok (.aload_n 0, 1) := by decide +kernel
theorem dX9_seen_33 : decode cX9_seen 33 = .ok (.getfield 46, 3) := by decide +kernel
theorem dX9_seen_36 : decode cX9_seen 36 = .ok (.iload_n 2, 1) := by decide +kernel
theorem dX9_seen_37 : decode cX9_seen 37 = .ok (.invokevirtual 231, 3) := by decide +kernel
theorem dX9_seen_40 : decode cX9_seen 40 = .ok (.aload_n 0, 1) := by decide +kernel
theorem dX9_seen_41 : decode cX9_seen 41 = .ok (.getfield 46, 3) := by decide +kernel
theorem dX9_seen_44 : decode cX9_seen 44 = .ok (.iload_n 1, 1) := by decide +kernel
theorem dX9_seen_45 : decode cX9_seen 45 = .ok (.invokevirtual 234, 3) := by decide +kernel
theorem dX9_seen_48 : decode cX9_seen 48 = .ok (.ireturn, 1) := by decide +kernel
theorem dX9_best_0 : decode cX9_best 0 = .ok (.iload_n 1, 1) := by decide +kernel
theorem dX9_best_1 : decode cX9_best 1 = .ok (.iconst 0, 1) := by decide +kernel
theorem dX9_best_2 : decode cX9_best 2 = .ok (.aload_n 0, 1) := by decide +kernel
theorem dX9_best_3 : decode cX9_best 3 = .ok (.getfield 46, 3) := by decide +kernel
theorem dX9_best_6 : decode cX9_best 6 = .ok (.getfield 226, 3) := by decide +kernel
theorem dX9_best_9 : decode cX9_best 9 = .ok (.invokestatic 80, 3) := by decide +kernel
theorem dX9_best_12 : decode cX9_best 12 = .ok (.ifCond .eq 13, 3) := by decide +kernel
theorem dX9_best_15 : decode cX9_best 15 = .ok (.iload_n 2, 1) := by decide +kernel
theorem dX9_best_16 : decode cX9_best 16 = .ok (.iconst 1, 1) := by decide +kernel
theorem dX9_best_17 : decode cX9_best 17 = .ok (.bipush 50, 2) := by decide +kernel
theorem dX9_best_19 : decode cX9_best 19 = .ok (.invokestatic 80, 3) := by decide +kernel
theorem dX9_best_22 : decode cX9_best 22 = .ok (.ifCond .ne 6, 3) := by decide +kernel
theorem dX9_best_25 : decode cX9_best 25 = .ok (.bipush (-2), 2) := by decide +kernel
theorem dX9_best_27 : decode cX9_best 27 = .ok (.ireturn, 1) := by decide +kernel
theorem dX9_best_28 : decode cX9_best 28 = .ok (.aload_n 0, 1) := by decide +kernel
theorem dX9_best_29 : decode cX9_best 29 = .ok (.getfield 46, 3) := by decide +kernel
theorem dX9_best_32 : decode cX9_best 32 = .ok (.iload_n 2, 1) := by decide +kernel
theorem dX9_best_33 : decode cX9_best 33 = .ok (.invokevirtual 231, 3) := by decide +kernel
theorem dX9_best_36 : decode cX9_best 36 = .ok (.aload_n 0, 1) := by decide +kernel
theorem dX9_best_37 : decode cX9_best 37 = .ok (.getfield 46, 3) := by decide +kernel
theorem dX9_best_40 : decode cX9_best 40 = .ok (.iload_n 1, 1) := by decide +kernel
theorem dX9_best_41 : decode cX9_best 41 = .ok (.invokevirtual 238, 3) := by decide +kernel
theorem dX9_best_44 : decode cX9_best 44 = .ok (.ireturn, 1) := by decide +kernel
theorem dX9_danger_0 : decode cX9_danger 0 = .ok (.iload_n 1, 1) := by decide +kernel
theorem dX9_danger_1 : decode cX9_danger 1 = .ok (.iconst 0, 1) := by decide +kernel
theorem dX9_danger_2 : decode cX9_danger 2 = .ok (.bipush 11, 2) := by decide +kernel
theorem dX9_danger_4 : decode cX9_danger 4 = .ok (.invokestatic 80, 3) := by decide +kernel
theorem dX9_danger_7 : decode cX9_danger 7 = .ok (.ifCond .eq 13, 3) := by decide +kernel
theorem dX9_danger_10 : decode cX9_danger 10 = .ok (.iload_n 2, 1) := by decide +kernel
theorem dX9_danger_11 : decode cX9_danger 11 = .ok (.iconst 0, 1) := by decide +kernel
theorem dX9_danger_12 : decode cX9_danger 12 = .ok (.bipush 11, 2) := by decide +kernel
theorem dX9_danger_14 : decode cX9_danger 14 = .ok (.invokestatic 80, 3) := by decide +kernel
theorem dX9_danger_17 : decode cX9_danger 17 = .ok (.ifCond .ne 6, 3) := by decide +kernel
theorem dX9_danger_20 : decode cX9_danger 20 = .ok (.bipush (-101), 2) := by decide +kernel
theorem dX9_danger_22 : decode cX9_danger 22 = .ok (.ireturn, 1) := by decide +kernel
theorem dX9_danger_23 : decode cX9_danger 23 = .ok (.iload_n 3, 1) := by decide +kernel
theorem dX9_danger_24 : decode cX9_danger 24 = .ok (.iconst (-1), 1) := by decide +kernel
theorem dX9_danger_25 : decode cX9_danger 25 = .ok (.bipush 99, 2) := by decide +kernel
theorem dX9_danger_27 : decode cX9_danger 27 = .ok (.invokestatic 80, 3) := by decide +kernel
theorem dX9_danger_30 : decode cX9_danger 30 = .ok (.ifCond .ne 6, 3) := by decide +kernel
theorem dX9_danger_33 : decode cX9_danger 33 = .ok (.bipush (-102), 2) := by decide +kernel
theorem dX9_danger_35 : decode cX9_danger 35 = .ok (.ireturn, 1) := by decide +kernel
theorem dX9_danger_36 : decode cX9_danger 36 = .ok (.aload_n 0, 1) := by decide +kernel
theorem dX9_danger_37 : decode cX9_danger 37 = .ok (.getfield 50, 3) := by decide +kernel
theorem dX9_danger_40 : decode cX9_danger 40 = .ok (.bipush 12, 2) := by decide +kernel
theorem dX9_danger_42 : decode cX9_danger 42 = .ok (.iload_n 2, 1) := by decide +kernel
theorem dX9_danger_43 : decode cX9_danger 43 = .ok (.imul, 1) := by decide +kernel
theorem dX9_danger_44 : decode cX9_danger 44 = .ok (.iload_n 1, 1) := by decide +kernel
theorem dX9_danger_45 : decode cX9_danger 45 = .ok (.iadd, 1) := by decide +kernel
theorem dX9_danger_46 : decode cX9_danger 46 = .ok (.iaload, 1) := by decide +kernel
theorem dX9_danger_47 : decode cX9_danger 47 = .ok (.istore 4, 2) := by decide +kernel
theorem dX9_danger_49 : decode cX9_danger 49 = .ok (.aload_n 0, 1) := by decide +kernel
theorem dX9_danger_50 : decode cX9_danger 50 = .ok (.getfield 50, 3) := by decide +kernel
theorem dX9_danger_53 : decode cX9_danger 53 = .ok (.bipush 12, 2) := by decide +kernel
theorem dX9_danger_55 : decode cX9_danger 55 = .ok (.iload_n 2, 1) := by decide +kernel
theorem dX9_danger_56 : decode cX9_danger 56 = .ok (.imul, 1) := by decide +kernel
theorem dX9_danger_57 : decode cX9_danger 57 = .ok (.iload_n 1, 1) := by decide +kernel
theorem dX9_danger_58 : decode cX9_danger 58 = .ok (.iadd, 1) := by decide +kernel
theorem dX9_danger_59 : decode cX9_danger 59 = .ok (.iload_n 3, 1) := by decide +kernel
theorem dX9_danger_60 : decode cX9_danger 60 = .ok (.iastore, 1) := by decide +kernel
theorem dX9_danger_61 : decode cX9_danger 61 = .ok (.iload 4, 2) := by decide +kernel
theorem dX9_danger_63 : decode cX9_danger 63 = .ok (.ireturn, 1) := by decide +kernel
theorem dX9_route_0 : decode cX9_route 0 = .ok (.iload_n 1, 1) := by decide +kernel
theorem dX9_route_1 : decode cX9_route 1 = .ok (.invokestatic 241, 3) := by decide +kernel
theorem dX9_route_4 : decode cX9_route 4 = .ok (.ifCond .eq 10, 3) := by decide +kernel
theorem dX9_route_7 : decode cX9_route 7 = .ok (.iload_n 2, 1) := by decide +kernel
theorem dX9_route_8 : decode cX9_route 8 = .ok (.invokestatic 241, 3) := by decide +kernel
theorem dX9_route_11 : decode cX9_route 11 = .ok (.ifCond .ne 5, 3) := by decide +kernel
theorem dX9_route_14 : decode cX9_route 14 = .ok (.iconst (-1), 1) := by decide +kernel
theorem dX9_route_15 : decode cX9_route 15 = .ok (.ireturn, 1) := by decide +kernel
theorem dX9_route_16 : decode cX9_route 16 = .ok (.iload_n 3, 1) := by decide +kernel
theorem dX9_route_17 : decode cX9_route 17 = .ok (.iload 4, 2) := by decide +kernel
theorem dX9_route_19 : decode cX9_route 19 = .ok (.invokestatic 244, 3) := by decide +kernel
theorem dX9_route_22 : decode cX9_route 22 = .ok (.ifCond .ne 6, 3) := by decide +kernel
theorem dX9_route_25 : decode cX9_route 25 = .ok (.bipush (-2), 2) := by decide +kernel
theorem dX9_route_27 : decode cX9_route 27 = .ok (.ireturn, 1) := by decide +kernel
theorem dX9_route_28 : decode cX9_route 28 = .ok (.aload_n 0, 1) := by decide +kernel
theorem dX9_route_29 : decode cX9_route 29 = .ok (.invokevirtual 248, 3) := by decide +kernel
theorem dX9_route_32 : decode cX9_route 32 = .ok (.astore 5, 2) := by decide +kernel
theorem dX9_route_34 : decode cX9_route 34 = .ok (.aload 5, 2) := by decide +kernel
theorem dX9_route_36 : decode cX9_route 36 = .ok (.iload_n 1, 1) := by decide +kernel
theorem dX9_route_37 : decode cX9_route 37 = .ok (.iload_n 2, 1) := by decide +kernel
theorem dX9_route_38 : decode cX9_route 38 = .ok (.iload_n 3, 1) := by decide +kernel
theorem dX9_route_39 : decode cX9_route 39 = .ok (.iload 4, 2) := by decide +kernel
theorem dX9_route_41 : decode cX9_route 41 = .ok (.invokevirtual 252, 3) := by decide +kernel
theorem dX9_route_44 : decode cX9_route 44 = .ok (.ifCond .ne 6, 3) := by decide +kernel
theorem dX9_route_47 : decode cX9_route 47 = .ok (.bipush (-5), 2) := by decide +kernel
theorem dX9_route_49 : decode cX9_route 49 = .ok (.ireturn, 1) := by decide +kernel
theorem dX9_route_50 : decode cX9_route 50 = .ok (.aload 5, 2) := by decide +kernel
theorem dX9_route_52 : decode cX9_route 52 = .ok (.aload_n 0, 1) := by decide +kernel
theorem dX9_route_53 : decode cX9_route 53 = .ok (.getfield 57, 3) := by decide +kernel
theorem dX9_route_56 : decode cX9_route 56 = .ok (.iconst 0, 1) := by decide +kernel
theorem dX9_route_57 : decode cX9_route 57 = .ok (.iconst 0, 1) := by decide +kernel
theorem dX9_route_58 : decode cX9_route 58 = .ok (.invokevirtual 258, 3) := by decide +kernel
theorem dX9_route_61 : decode cX9_route 61 = .ok (.aload_n 0, 1) := by decide +kernel
theorem dX9_route_62 : decode cX9_route 62 = .ok (.getfield 57, 3) := by decide +kernel
theorem dX9_route_65 : decode cX9_route 65 = .ok (.iload_n 3, 1) := by decide +kernel
theorem dX9_route_66 : decode cX9_route 66 = .ok (.putfield 262, 3) := by decide +kernel
theorem dX9_route_69 : decode cX9_route 69 = .ok (.aload_n 0, 1) := by decide +kernel
theorem dX9_route_70 : decode cX9_route 70 = .ok (.getfield 57, 3) := by decide +kernel
theorem dX9_route_73 : decode cX9_route 73 = .ok (.iload 4, 2) := by decide +kernel
theorem dX9_route_75 : decode cX9_route 75 = .ok (.putfield 265, 3) := by decide +kernel
theorem dX9_route_78 : decode cX9_route 78 = .ok (.aload 5, 2) := by decide +kernel
theorem dX9_route_80 : decode cX9_route 80 = .ok (.invokevirtual 268, 3) := by decide +kernel
theorem dX9_route_83 : decode cX9_route 83 = .ok (.ireturn, 1) := by decide +kernel
theorem dX9_apart_0 : decode cX9_apart 0 = .ok (.iload_n 1, 1) := by decide +kernel
theorem dX9_apart_1 : decode cX9_apart 1 = .ok (.invokestatic 241, 3) := by decide +kernel
theorem dX9_apart_4 : decode cX9_apart 4 = .ok (.ifCond .eq 10, 3) := by decide +kernel
theorem dX9_apart_7 : decode cX9_apart 7 = .ok (.iload_n 2, 1) := by decide +kernel
theorem dX9_apart_8 : decode cX9_apart 8 = .ok (.invokestatic 241, 3) := by decide +kernel
theorem dX9_apart_11 : decode cX9_apart 11 = .ok (.ifCond .ne 5, 3) := by decide +kernel
theorem dX9_apart_14 : decode cX9_apart 14 = .ok (.iconst (-1), 1) := by decide +kernel
theorem dX9_apart_15 : decode cX9_apart 15 = .ok (.ireturn, 1) := by decide +kernel
theorem dX9_apart_16 : decode cX9_apart 16 = .ok (.iload_n 3, 1) := by decide +kernel
theorem dX9_apart_17 : decode cX9_apart 17 = .ok (.iload 4, 2) := by decide +kernel
theorem dX9_apart_19 : decode cX9_apart 19 = .ok (.invokestatic 244, 3) := by decide +kernel
theorem dX9_apart_22 : decode cX9_apart 22 = .ok (.ifCond .eq 13, 3) := by decide +kernel
theorem dX9_apart_25 : decode cX9_apart 25 = .ok (.iload 5, 2) := by decide +kernel
theorem dX9_apart_27 : decode cX9_apart 27 = .ok (.iconst 0, 1) := by decide +kernel
theorem dX9_apart_28 : decode cX9_apart 28 = .ok (.iconst 5, 1) := by decide +kernel
theorem dX9_apart_29 : decode cX9_apart 29 = .ok (.invokestatic 80, 3) := by decide +kernel
theorem dX9_apart_32 : decode cX9_apart 32 = .ok (.ifCond .ne 6, 3) := by decide +kernel
theorem dX9_apart_35 : decode cX9_apart 35 = .ok (.bipush (-2), 2) := by decide +kernel
theorem dX9_apart_37 : decode cX9_apart 37 = .ok (.ireturn, 1) := by decide +kernel
theorem dX9_apart_38 : decode cX9_apart 38 = .ok (.aload_n 0, 1) := by decide +kernel
theorem dX9_apart_39 : decode cX9_apart 39 = .ok (.getfield 57, 3) := by decide +kernel
theorem dX9_apart_42 : decode cX9_apart 42 = .ok (.getfield 272, 3) := by decide +kernel
theorem dX9_apart_45 : decode cX9_apart 45 = .ok (.ifCond .ne 6, 3) := by decide +kernel
theorem dX9_apart_48 : decode cX9_apart 48 = .ok (.bipush (-3), 2) := by decide +kernel
theorem dX9_apart_50 : decode cX9_apart 50 = .ok (.ireturn, 1) := by decide +kernel
theorem dX9_apart_51 : decode cX9_apart 51 = .ok (.aload_n 0, 1) := by decide +kernel
theorem dX9_apart_52 : decode cX9_apart 52 = .ok (.invokevirtual 248, 3) := by decide +kernel
theorem dX9_apart_55 : decode cX9_apart 55 = .ok (.astore 6, 2) := by decide +kernel
theorem dX9_apart_57 : decode cX9_apart 57 = .ok (.aload 6, 2) := by decide +kernel
theorem dX9_apart_59 : decode cX9_apart 59 = .ok (.iload_n 1, 1) := by decide +kernel
theorem dX9_apart_60 : decode cX9_apart 60 = .ok (.iload_n 2, 1) := by decide +kernel
theorem dX9_apart_61 : decode cX9_apart 61 = .ok (.iload_n 3, 1) := by decide +kernel
theorem dX9_apart_62 : decode cX9_apart 62 = .ok (.iload 4, 2) := by decide +kernel
theorem dX9_apart_64 : decode cX9_apart 64 = .ok (.iload 5, 2) := by decide +kernel
theorem dX9_apart_66 : decode cX9_apart 66 = .ok (.invokevirtual 276, 3) := by decide +kernel
theorem dX9_apart_69 : decode cX9_apart 69 = .ok (.ifCond .ne 6, 3) := by decide +kernel
theorem dX9_apart_72 : decode cX9_apart 72 = .ok (.bipush (-5), 2) := by decide +kernel
theorem dX9_apart_74 : decode cX9_apart 74 = .ok (.ireturn, 1) := by decide +kernel
theorem dX9_apart_75 : decode cX9_apart 75 = .ok (.aload 6, 2) := by decide +kernel
theorem dX9_apart_77 : decode cX9_apart 77 = .ok (.aload_n 0, 1) := by decide +kernel
theorem dX9_apart_78 : decode cX9_apart 78 = .ok (.getfield 61, 3) := by decide +kernel
theorem dX9_apart_81 : decode cX9_apart 81 = .ok (.iconst 0, 1) := by decide +kernel
theorem dX9_apart_82 : decode cX9_apart 82 = .ok (.iconst 0, 1) := by decide +kernel
theorem dX9_apart_83 : decode cX9_apart 83 = .ok (.invokevirtual 258, 3) := by decide +kernel
theorem dX9_apart_86 : decode cX9_apart 86 = .ok (.aload 6, 2) := by decide +kernel
theorem dX9_apart_88 : decode cX9_apart 88 = .ok (.invokevirtual 268, 3) := by decide +kernel
theorem dX9_apart_91 : decode cX9_apart 91 = .ok (.ireturn, 1) := by decide +kernel
theorem dX9_cell_0 : decode cX9_cell 0 = .ok (.iload_n 1, 1) := by decide +kernel
theorem dX9_cell_1 : decode cX9_cell 1 = .ok (.iconst 0, 1) := by decide +kernel
theorem dX9_cell_2 : decode cX9_cell 2 = .ok (.iconst 1, 1) := by decide +kernel
theorem dX9_cell_3 : decode cX9_cell 3 = .ok (.invokestatic 80, 3) := by decide +kernel
theorem dX9_cell_6 : decode cX9_cell 6 = .ok (.ifCond .eq 14, 3) := by decide +kernel
theorem dX9_cell_9 : decode cX9_cell 9 = .ok (.iload_n 2, 1) := by decide +kernel
theorem dX9_cell_10 : decode cX9_cell 10 = .ok (.bipush (-2), 2) := by decide +kernel
theorem dX9_cell_12 : decode cX9_cell 12 = .ok (.bipush 40, 2) := by decide +kernel
theorem dX9_cell_14 : decode cX9_cell 14 = .ok (.invokestatic 80, 3) := by decide +kernel
theorem dX9_cell_17 : decode cX9_cell 17 = .ok (.ifCond .ne 6, 3) := by decide +kernel
theorem dX9_cell_20 : decode cX9_cell 20 = .ok (.bipush (-2), 2) := by decide +kernel
theorem dX9_cell_22 : decode cX9_cell 22 = .ok (.ireturn, 1) := by decide +kernel
theorem dX9_cell_23 : decode cX9_cell 23 = .ok (.iload_n 1, 1) := by decide +kernel
theorem dX9_cell_24 : decode cX9_cell 24 = .ok (.ifCond .ne 10, 3) := by decide +kernel
theorem dX9_cell_27 : decode cX9_cell 27 = .ok (.aload_n 0, 1) := by decide +kernel
theorem dX9_cell_28 : decode cX9_cell 28 = .ok (.getfield 57, 3) := by decide +kernel
theorem dX9_cell_31 : decode cX9_cell 31 = .ok (.goto 7, 3) := by decide +kernel
theorem dX9_cell_34 : decode cX9_cell 34 = .ok (.aload_n 0, 1) := by decide +kernel
theorem dX9_cell_35 : decode cX9_cell 35 = .ok (.getfield 61, 3) := by decide +kernel
theorem dX9_cell_38 : decode cX9_cell 38 = .ok (.astore_n 3, 1) := by decide +kernel
theorem dX9_cell_39 : decode cX9_cell 39 = .ok (.aload_n 3, 1) := by decide +kernel
theorem dX9_cell_40 : decode cX9_cell 40 = .ok (.getfield 272, 3) := by decide +kernel
theorem dX9_cell_43 : decode cX9_cell 43 = .ok (.ifCond .ne 6, 3) := by decide +kernel
theorem dX9_cell_46 : decode cX9_cell 46 = .ok (.bipush (-6), 2) := by decide +kernel
theorem dX9_cell_48 : decode cX9_cell 48 = .ok (.ireturn, 1) := by decide +kernel
theorem dX9_cell_49 : decode cX9_cell 49 = .ok (.iload_n 2, 1) := by decide +kernel
theorem dX9_cell_50 : decode cX9_cell 50 = .ok (.iconst (-1), 1) := by decide +kernel
theorem dX9_cell_51 : decode cX9_cell 51 = .ok (.if_icmp .ne 8, 3) := by decide +kernel
theorem dX9_cell_54 : decode cX9_cell 54 = .ok (.aload_n 3, 1) := by decide +kernel
theorem dX9_cell_55 : decode cX9_cell 55 = .ok (.getfield 280, 3) := by decide +kernel
theorem dX9_cell_58 : decode cX9_cell 58 = .ok (.ireturn, 1) := by decide +kernel
theorem dX9_cell_59 : decode cX9_cell 59 = .ok (.iload_n 2, 1) := by decide +kernel
theorem dX9_cell_60 : decode cX9_cell 60 = .ok (.bipush (-2), 2) := by decide +kernel
theorem dX9_cell_62 : decode cX9_cell 62 = .ok (.if_icmp .ne 10, 3) := by decide +kernel
theorem dX9_cell_65 : decode cX9_cell 65 = .ok (.aload_n 3, 1) := by decide +kernel
theorem dX9_cell_66 : decode cX9_cell 66 = .ok (.getfield 283, 3) := by decide +kernel
theorem dX9_cell_69 : decode cX9_cell 69 = .ok (.goto 8, 3) := by decide +kernel
theorem dX9_cell_72 : decode cX9_cell 72 = .ok (.aload_n 3, 1) := by decide +kernel
theorem dX9_cell_73 : decode cX9_cell 73 = .ok (.iload_n 2, 1) := by decide +kernel
theorem dX9_cell_74 : decode cX9_cell 74 = .ok (.invokevirtual 286, 3) := by decide +kernel
theorem dX9_cell_77 : decode cX9_cell 77 = .ok (.ireturn, 1) := by decide +kernel
theorem dX9_word_0 : decode cX9_word 0 = .ok (.iload_n 2, 1) := by decide +kernel
theorem dX9_word_1 : decode cX9_word 1 = .ok (.invokestatic 241, 3) := by decide +kernel
theorem dX9_word_4 : decode cX9_word 4 = .ok (.ifCond .ne 5, 3) := by decide +kernel
theorem dX9_word_7 : decode cX9_word 7 = .ok (.iconst (-1), 1) := by decide +kernel
theorem dX9_word_8 : decode cX9_word 8 = .ok (.ireturn, 1) := by decide +kernel
theorem dX9_word_9 : decode cX9_word 9 = .ok (.iload_n 1, 1) := by decide +kernel
theorem dX9_word_10 : decode cX9_word 10 = .ok (.iconst 0, 1) := by decide +kernel
theorem dX9_word_11 : decode cX9_word 11 = .ok (.bipush 40, 2) := by decide +kernel
theorem dX9_word_13 : decode cX9_word 13 = .ok (.invokestatic 80, 3) := by decide +kernel
theorem dX9_word_16 : decode cX9_word 16 = .ok (.ifCond .ne 6, 3) := by decide +kernel
theorem dX9_word_19 : decode cX9_word 19 = .ok (.bipush (-2), 2) := by decide +kernel
theorem dX9_word_21 : decode cX9_word 21 = .ok (.ireturn, 1) := by decide +kernel
theorem dX9_word_22 : decode cX9_word 22 = .ok (.aload_n 0, 1) := by decide +kernel
theorem dX9_word_23 : decode cX9_word 23 = .ok (.getfield 57, 3) := by decide +kernel
theorem dX9_word_26 : decode cX9_word 26 = .ok (.getfield 272, 3) := by decide +kernel
theorem dX9_word_29 : decode cX9_word 29 = .ok (.ifCond .ne 6, 3) := by decide +kernel
theorem dX9_word_32 : decode cX9_word 32 = .ok (.bipush (-3), 2) := by decide +kernel
theorem dX9_word_34 : decode cX9_word 34 = .ok (.ireturn, 1) := by decide +kernel
theorem dX9_word_35 : decode cX9_word 35 = .ok (.iload_n 1, 1) := by decide +kernel
theorem dX9_word_36 : decode cX9_word 36 = .ok (.aload_n 0, 1) := by decide +kernel
theorem dX9_word_37 : decode cX9_word 37 = .ok (.getfield 57, 3) := by decide +kernel
theorem dX9_word_40 : decode cX9_word 40 = .ok (.getfield 280, 3) := by decide +kernel
theorem dX9_word_43 : decode cX9_word 43 = .ok (.if_icmp .le 6, 3) := by decide +kernel
theorem dX9_word_46 : decode cX9_word 46 = .ok (.bipush (-2), 2) := by decide +kernel
theorem dX9_word_48 : decode cX9_word 48 = .ok (.ireturn, 1) := by decide +kernel
theorem dX9_word_49 : decode cX9_word 49 = .ok (.aload_n 0, 1) := by decide +kernel
theorem dX9_word_50 : decode cX9_word 50 = .ok (.getfield 57, 3) := by decide +kernel
theorem dX9_word_53 : decode cX9_word 53 = .ok (.iload_n 1, 1) := by decide +kernel
theorem dX9_word_54 : decode cX9_word 54 = .ok (.invokevirtual 289, 3) := by decide +kernel
theorem dX9_word_57 : decode cX9_word 57 = .ok (.istore_n 3, 1) := by decide +kernel
theorem dX9_word_58 : decode cX9_word 58 = .ok (.aload_n 0, 1) := by decide +kernel
theorem dX9_word_59 : decode cX9_word 59 = .ok (.invokevirtual 248, 3) := by decide +kernel
theorem dX9_word_62 : decode cX9_word 62 = .ok (.astore 4, 2) := by decide +kernel
theorem dX9_word_64 : decode cX9_word 64 = .ok (.aload 4, 2) := by decide +kernel
theorem dX9_word_66 : decode cX9_word 66 = .ok (.aload_n 0, 1) := by decide +kernel
theorem dX9_word_67 : decode cX9_word 67 = .ok (.getfield 57, 3) := by decide +kernel
theorem dX9_word_70 : decode cX9_word 70 = .ok (.iload_n 1, 1) := by decide +kernel
theorem dX9_word_71 : decode cX9_word 71 = .ok (.invokevirtual 286, 3) := by decide +kernel
theorem dX9_word_74 : decode cX9_word 74 = .ok (.iload_n 2, 1) := by decide +kernel
theorem dX9_word_75 : decode cX9_word 75 = .ok (.aload_n 0, 1) := by decide +kernel
theorem dX9_word_76 : decode cX9_word 76 = .ok (.getfield 57, 3) := by decide +kernel
theorem dX9_word_79 : decode cX9_word 79 = .ok (.getfield 262, 3) := by decide +kernel
theorem dX9_word_82 : decode cX9_word 82 = .ok (.iload_n 1, 1) := by decide +kernel
theorem dX9_word_83 : decode cX9_word 83 = .ok (.isub, 1) := by decide +kernel
theorem dX9_word_84 : decode cX9_word 84 = .ok (.aload_n 0, 1) := by decide +kernel
theorem dX9_word_85 : decode cX9_word 85 = .ok (.getfield 57, 3) := by decide +kernel
theorem dX9_word_88 : decode cX9_word 88 = .ok (.getfield 265, 3) := by decide +kernel
theorem dX9_word_91 : decode cX9_word 91 = .ok (.iload_n 3, 1) := by decide +kernel
theorem dX9_word_92 : decode cX9_word 92 = .ok (.isub, 1) := by decide +kernel
theorem dX9_word_93 : decode cX9_word 93 = .ok (.invokevirtual 252, 3) := by decide +kernel
theorem dX9_word_96 : decode cX9_word 96 = .ok (.ifCond .ne 6, 3) := by decide +kernel
theorem dX9_word_99 : decode cX9_word 99 = .ok (.bipush (-5), 2) := by decide +kernel
theorem dX9_word_101 : decode cX9_word 101 = .ok (.ireturn, 1) := by decide +kernel
theorem dX9_word_102 : decode cX9_word 102 = .ok (.aload 4, 2) := by decide +kernel
theorem dX9_word_104 : decode cX9_word 104 = .ok (.aload_n 0, 1) := by decide +kernel
theorem dX9_word_105 : decode cX9_word 105 = .ok (.getfield 57, 3) := by decide +kernel
theorem dX9_word_108 : decode cX9_word 108 = .ok (.iload_n 1, 1) := by decide +kernel
theorem dX9_word_109 : decode cX9_word 109 = .ok (.iload_n 3, 1) := by decide +kernel
theorem dX9_word_110 : decode cX9_word 110 = .ok (.invokevirtual 258, 3) := by decide +kernel
theorem dX9_word_113 : decode cX9_word 113 = .ok (.aload 4, 2) := by decide +kernel
theorem dX9_word_115 : decode cX9_word 115 = .ok (.invokevirtual 268, 3) := by decide +kernel
theorem dX9_word_118 : decode cX9_word 118 = .ok (.ireturn, 1) := by decide +kernel
theorem dX9_sight_0 : decode cX9_sight 0 = .ok (.iload_n 1, 1) := by decide +kernel
theorem dX9_sight_1 : decode cX9_sight 1 = .ok (.iconst 0, 1) := by decide +kernel
theorem dX9_sight_2 : decode cX9_sight 2 = .ok (.sipush 600, 3) := by decide +kernel
theorem dX9_sight_5 : decode cX9_sight 5 = .ok (.invokestatic 80, 3) := by decide +kernel
theorem dX9_sight_8 : decode cX9_sight 8 = .ok (.ifCond .eq 29, 3) := by decide +kernel
theorem dX9_sight_11 : decode cX9_sight 11 = .ok (.iload_n 2, 1) := by decide +kernel
theorem dX9_sight_12 : decode cX9_sight 12 = .ok (.ldc_w 292, 3) := by decide +kernel
theorem dX9_sight_15 : decode cX9_sight 15 = .ok (.ldc_w 293, 3) := by decide +kernel
theorem dX9_sight_18 : decode cX9_sight 18 = .ok (.invokestatic 80, 3) := by decide +kernel
theorem dX9_sight_21 : decode cX9_sight 21 = .ok (.ifCond .eq 16, 3) := by decide +kernel
theorem dX9_sight_24 : decode cX9_sight 24 = .ok (.iload_n 3, 1) := by decide +kernel
theorem dX9_sight_25 : decode cX9_sight 25 = .ok (.ldc_w 292, 3) := by decide +kernel
theorem dX9_sight_28 : decode cX9_sight 28 = .ok (.ldc_w 293, 3) := by decide +kernel
theorem dX9_sight_31 : decode cX9_sight 31 = .ok (.invokestatic 80, 3) := by decide +kernel
theorem dX9_sight_34 : decode cX9_sight 34 = .ok (.ifCond .ne 6, 3) := by decide +kernel
theorem dX9_sight_37 : decode cX9_sight 37 = .ok (.bipush (-2), 2) := by decide +kernel
theorem dX9_sight_39 : decode cX9_sight 39 = .ok (.ireturn, 1) := by decide +kernel
theorem dX9_sight_40 : decode cX9_sight 40 = .ok (.aload_n 0, 1) := by decide +kernel
theorem dX9_sight_41 : decode cX9_sight 41 = .ok (.getfield 71, 3) := by decide +kernel
theorem dX9_sight_44 : decode cX9_sight 44 = .ok (.getfield 294, 3) := by decide +kernel
theorem dX9_sight_47 : decode cX9_sight 47 = .ok (.bipush 12, 2) := by decide +kernel
theorem dX9_sight_49 : decode cX9_sight 49 = .ok (.if_icmp .lt 6, 3) := by decide +kernel
theorem dX9_sight_52 : decode cX9_sight 52 = .ok (.bipush (-4), 2) := by decide +kernel
theorem dX9_sight_54 : decode cX9_sight 54 = .ok (.ireturn, 1) := by decide +kernel
theorem dX9_sight_55 : decode cX9_sight 55 = .ok (.aload_n 0, 1) := by decide +kernel
theorem dX9_sight_56 : decode cX9_sight 56 = .ok (.getfield 71, 3) := by decide +kernel
theorem dX9_sight_59 : decode cX9_sight 59 = .ok (.iload_n 1, 1) := by decide +kernel
theorem dX9_sight_60 : decode cX9_sight 60 = .ok (.iload_n 2, 1) := by decide +kernel
theorem dX9_sight_61 : decode cX9_sight 61 = .ok (.iload_n 3, 1) := by decide +kernel
theorem dX9_sight_62 : decode cX9_sight 62 = .ok (.invokevirtual 295, 3) := by decide +kernel
theorem dX9_sight_65 : decode cX9_sight 65 = .ok (.aload_n 0, 1) := by decide +kernel
theorem dX9_sight_66 : decode cX9_sight 66 = .ok (.getfield 71, 3) := by decide +kernel
theorem dX9_sight_69 : decode cX9_sight 69 = .ok (.getfield 294, 3) := by decide +kernel
theorem dX9_sight_72 : decode cX9_sight 72 = .ok (.ireturn, 1) := by decide +kernel
theorem dX9_forget_0 : decode cX9_forget 0 = .ok (.aload_n 0, 1) := by decide +kernel
theorem dX9_forget_1 : decode cX9_forget 1 = .ok (.getfield 71, 3) := by decide +kernel
theorem dX9_forget_4 : decode cX9_forget 4 = .ok (.getfield 294, 3) := by decide +kernel
theorem dX9_forget_7 : decode cX9_forget 7 = .ok (.istore_n 1, 1) := by decide +kernel
theorem dX9_forget_8 : decode cX9_forget 8 = .ok (.aload_n 0, 1) := by decide +kernel
theorem dX9_forget_9 : decode cX9_forget 9 = .ok (.getfield 71, 3) := by decide +kernel
theorem dX9_forget_12 : decode cX9_forget 12 = .ok (.iconst 0, 1) := by decide +kernel
theorem dX9_forget_13 : decode cX9_forget 13 = .ok (.putfield 294, 3) := by decide +kernel
theorem dX9_forget_16 : decode cX9_forget 16 = .ok (.iload_n 1, 1) := by decide +kernel
theorem dX9_forget_17 : decode cX9_forget 17 = .ok (.ireturn, 1) := by decide +kernel
theorem dX9_told_0 : decode cX9_told 0 = .ok (.iload_n 1, 1) := by decide +kernel
theorem dX9_told_1 : decode cX9_told 1 = .ok (.iload_n 2, 1) := by decide +kernel
theorem dX9_told_2 : decode cX9_told 2 = .ok (.iload_n 3, 1) := by decide +kernel
theorem dX9_told_3 : decode cX9_told 3 = .ok (.invokestatic 113, 3) := by decide +kernel
theorem dX9_told_6 : decode cX9_told 6 = .ok (.ifCond .eq 13, 3) := by decide +kernel
theorem dX9_told_9 : decode cX9_told 9 = .ok (.iload 4, 2) := by decide +kernel
theorem dX9_told_11 : decode cX9_told 11 = .ok (.iconst 0, 1) := by decide +kernel
theorem dX9_told_12 : decode cX9_told 12 = .ok (.iconst 3, 1) := by decide +kernel
theorem dX9_told_13 : decode cX9_told 13 = .ok (.invokestatic 80, 3) := by decide +kernel
theorem dX9_told_16 : decode cX9_told 16 = .ok (.ifCond .ne 7, 3) := by decide +kernel
theorem dX9_told_19 : decode cX9_told 19 = .ok (.ldc2_w 107, 3) := by decide +kernel
theorem dX9_told_22 : decode cX9_told 22 = .ok (.lreturn, 1) := by decide +kernel
theorem dX9_told_23 : decode cX9_told 23 = .ok (.aload_n 0, 1) := by decide +kernel
theorem dX9_told_24 : decode cX9_told 24 = .ok (.getfield 71, 3) := by decide +kernel
theorem dX9_told_27 : decode cX9_told 27 = .ok (.getfield 294, 3) := by decide +kernel
theorem dX9_told_30 : decode cX9_told 30 = .ok (.ifCond .ne 7, 3) := by decide +kernel
theorem dX9_told_33 : decode cX9_told 33 = .ok (.ldc2_w 156, 3) := by decide +kernel
theorem dX9_told_36 : decode cX9_told 36 = .ok (.lreturn, 1) := by decide +kernel
theorem dX9_told_37 : decode cX9_told 37 = .ok (.aload_n 0, 1) := by decide +kernel
theorem dX9_told_38 : decode cX9_told 38 = .ok (.getfield 71, 3) := by decide +kernel
theorem dX9_told_41 : decode cX9_told 41 = .ok (.getfield 296, 3) := by decide +kernel
theorem dX9_told_44 : decode cX9_told 44 = .ok (.iload_n 1, 1) := by decide +kernel
theorem dX9_told_45 : decode cX9_told 45 = .ok (.iload_n 2, 1) := by decide +kernel
theorem dX9_told_46 : decode cX9_told 46 = .ok (.iload_n 3, 1) := by decide +kernel
theorem dX9_told_47 : decode cX9_told 47 = .ok (.iconst 0, 1) := by decide +kernel
theorem dX9_told_48 : decode cX9_told 48 = .ok (.invokevirtual 121, 3) := by decide +kernel
theorem dX9_told_51 : decode cX9_told 51 = .ok (.aload_n 0, 1) := by decide +kernel
theorem dX9_told_52 : decode cX9_told 52 = .ok (.getfield 71, 3) := by decide +kernel
theorem dX9_told_55 : decode cX9_told 55 = .ok (.aload_n 0, 1) := by decide +kernel
theorem dX9_told_56 : decode cX9_told 56 = .ok (.getfield 11, 3) := by decide +kernel
theorem dX9_told_59 : decode cX9_told 59 = .ok (.aload_n 0, 1) := by decide +kernel
theorem dX9_told_60 : decode cX9_told 60 = .ok (.getfield 15, 3) := by decide +kernel
theorem dX9_told_63 : decode cX9_told 63 = .ok (.aaload, 1) := by decide +kernel
theorem dX9_told_64 : decode cX9_told 64 = .ok (.aload_n 0, 1) := by decide +kernel
theorem dX9_told_65 : decode cX9_told 65 = .ok (.getfield 22, 3) := by decide +kernel
theorem dX9_told_68 : decode cX9_told 68 = .ok (.invokevirtual 300, 3) := by decide +kernel
theorem dX9_told_71 : decode cX9_told 71 = .ok (.iload 4, 2) := by decide +kernel
theorem dX9_told_73 : decode cX9_told 73 = .ok (.tableswitch 53 0 2 #[27, 35, 44], 27) := by decide +kernel
theorem dX9_told_100 : decode cX9_told 100 = .ok (.aload_n 0, 1) := by decide +kernel
theorem dX9_told_101 : decode cX9_told 101 = .ok (.getfield 71, 3) := by decide +kernel
theorem dX9_told_104 : decode cX9_told 104 = .ok (.getfield 304, 3) := by decide +kernel
theorem dX9_told_107 : decode cX9_told 107 = .ok (.lreturn, 1) := by decide +kernel
theorem dX9_told_108 : decode cX9_told 108 = .ok (.aload_n 0, 1) := by decide +kernel
theorem dX9_told_109 : decode cX9_told 109 = .ok (.getfield 71, 3) := by decide +kernel
theorem dX9_told_112 : decode cX9_told 112 = .ok (.getfield 307, 3) := by decide +kernel
theorem dX9_told_115 : decode cX9_told 115 = .ok (.i2l, 1) := by decide +kernel
theorem dX9_told_116 : decode cX9_told 116 = .ok (.lreturn, 1) := by decide +kernel
theorem dX9_told_117 : decode cX9_told 117 = .ok (.aload_n 0, 1) := by decide +kernel
theorem dX9_told_118 : decode cX9_told 118 = .ok (.getfield 71, 3) := by decide +kernel
theorem dX9_told_121 : decode cX9_told 121 = .ok (.getfield 310, 3) := by decide +kernel
theorem dX9_told_124 : decode cX9_told 124 = .ok (.i2l, 1) := by decide +kernel
theorem dX9_told_125 : decode cX9_told 125 = .ok (.lreturn, 1) := by decide +kernel
theorem dX9_told_126 : decode cX9_told 126 = .ok (.aload_n 0, 1) := by decide +kernel
theorem dX9_told_127 : decode cX9_told 127 = .ok (.getfield 71, 3) := by decide +kernel
theorem dX9_told_130 : decode cX9_told 130 = .ok (.getfield 313, 3) := by decide +kernel
theorem dX9_told_133 : decode cX9_told 133 = .ok (.i2l, 1) := by decide +kernel
theorem dX9_told_134 : decode cX9_told 134 = .ok (.lreturn, 1) := by decide +kernel
theorem dX9_about_0 : decode cX9_about 0 = .ok (.iload_n 1, 1) := by decide +kernel
theorem dX9_about_1 : decode cX9_about 1 = .ok (.tableswitch 105 0 7 #[47, 52, 60, 68, 76, 84, 92, 97], 47) := by decide +kernel
theorem dX9_about_48 : decode cX9_about 48 = .ok (.aload_n 0, 1) := by decide +kernel
theorem dX9_about_49 : decode cX9_about 49 = .ok (.getfield 15, 3) := by decide +kernel
theorem dX9_about_52 : decode cX9_about 52 = .ok (.ireturn, 1) := by decide +kernel
theorem dX9_about_53 : decode cX9_about 53 = .ok (.aload_n 0, 1) := by decide +kernel
theorem dX9_about_54 : decode cX9_about 54 = .ok (.getfield 29, 3) := by decide +kernel
theorem dX9_about_57 : decode cX9_about 57 = .ok (.getfield 116, 3) := by decide +kernel
theorem dX9_about_60 : decode cX9_about 60 = .ok (.ireturn, 1) := by decide +kernel
theorem dX9_about_61 : decode cX9_about 61 = .ok (.aload_n 0, 1) := by decide +kernel
theorem dX9_about_62 : decode cX9_about 62 = .ok (.getfield 29, 3) := by decide +kernel
theorem dX9_about_65 : decode cX9_about 65 = .ok (.getfield 130, 3) := by decide +kernel
theorem dX9_about_68 : decode cX9_about 68 = .ok (.ireturn, 1) := by decide +kernel
theorem dX9_about_69 : decode cX9_about 69 = .ok (.aload_n 0, 1) := by decide +kernel
theorem dX9_about_70 : decode cX9_about 70 = .ok (.getfield 22, 3) := by decide +kernel
theorem dX9_about_73 : decode cX9_about 73 = .ok (.getfield 136, 3) := by decide +kernel
theorem dX9_about_76 : decode cX9_about 76 = .ok (.ireturn, 1) := by decide +kernel
theorem dX9_about_77 : decode cX9_about 77 = .ok (.aload_n 0, 1) := by decide +kernel
theorem dX9_about_78 : decode cX9_about 78 = .ok (.getfield 22, 3) := by decide +kernel
theorem dX9_about_81 : decode cX9_about 81 = .ok (.getfield 139, 3) := by decide +kernel
theorem dX9_about_84 : decode cX9_about 84 = .ok (.ireturn, 1) := by decide +kernel
theorem dX9_about_85 : decode cX9_about 85 = .ok (.aload_n 0, 1) := by decide +kernel
theorem dX9_about_86 : decode cX9_about 86 = .ok (.getfield 46, 3) := by decide +kernel
theorem dX9_about_89 : decode cX9_about 89 = .ok (.getfield 226, 3) := by decide +kernel
theorem dX9_about_92 : decode cX9_about 92 = .ok (.ireturn, 1) := by decide +kernel
theorem dX9_about_93 : decode cX9_about 93 = .ok (.aload_n 0, 1) := by decide +kernel
theorem dX9_about_94 : decode cX9_about 94 = .ok (.invokevirtual 316, 3) := by decide +kernel
theorem dX9_about_97 : decode cX9_about 97 = .ok (.ireturn, 1) := by decide +kernel
theorem dX9_about_98 : decode cX9_about 98 = .ok (.aload_n 0, 1) := by decide +kernel
theorem dX9_about_99 : decode cX9_about 99 = .ok (.getfield 71, 3) := by decide +kernel
theorem dX9_about_102 : decode cX9_about 102 = .ok (.getfield 294, 3) := by decide +kernel
theorem dX9_about_105 : decode cX9_about 105 = .ok (.ireturn, 1) := by decide +kernel
theorem dX9_about_106 : decode cX9_about 106 = .ok (.iload_n 1, 1) := by decide +kernel
theorem dX9_about_107 : decode cX9_about 107 = .ok (.i2l, 1) := by decide +kernel
theorem dX9_about_108 : decode cX9_about 108 = .ok (.ldc2_w 319, 3) := by decide +kernel
theorem dX9_about_111 : decode cX9_about 111 = .ok (.lsub, 1) := by decide +kernel
theorem dX9_about_112 : decode cX9_about 112 = .ok (.invokestatic 76, 3) := by decide +kernel
theorem dX9_about_115 : decode cX9_about 115 = .ok (.ifCond .eq 18, 3) := by decide +kernel
theorem dX9_about_118 : decode cX9_about 118 = .ok (.aload_n 0, 1) := by decide +kernel
theorem dX9_about_119 : decode cX9_about 119 = .ok (.getfield 11, 3) := by decide +kernel
theorem dX9_about_122 : decode cX9_about 122 = .ok (.iload_n 1, 1) := by decide +kernel
theorem dX9_about_123 : decode cX9_about 123 = .ok (.bipush 10, 2) := by decide +kernel
theorem dX9_about_125 : decode cX9_about 125 = .ok (.isub, 1) := by decide +kernel
theorem dX9_about_126 : decode cX9_about 126 = .ok (.aaload, 1) := by decide +kernel
theorem dX9_about_127 : decode cX9_about 127 = .ok (.getfield 84, 3) := by decide +kernel
theorem dX9_about_130 : decode cX9_about 130 = .ok (.goto 5, 3) := by decide +kernel
theorem dX9_about_133 : decode cX9_about 133 = .ok (.bipush (-2), 2) := by decide +kernel
theorem dX9_about_135 : decode cX9_about 135 = .ok (.ireturn, 1) := by decide +kernel
theorem dX9_within_0 : decode cX9_within 0 = .ok (.iload_n 0, 1) := by decide +kernel
theorem dX9_within_1 : decode cX9_within 1 = .ok (.iload_n 1, 1) := by decide +kernel
theorem dX9_within_2 : decode cX9_within 2 = .ok (.if_icmp .lt 12, 3) := by decide +kernel
theorem dX9_within_5 : decode cX9_within 5 = .ok (.iload_n 0, 1) := by decide +kernel
theorem dX9_within_6 : decode cX9_within 6 = .ok (.iload_n 2, 1) := by decide +kernel
theorem dX9_within_7 : decode cX9_within 7 = .ok (.if_icmp .gt 7, 3) := by decide +kernel
theorem dX9_within_10 : decode cX9_within 10 = .ok (.iconst 1, 1) := by decide +kernel
theorem dX9_within_11 : decode cX9_within 11 = .ok (.goto 4, 3) := by decide +kernel
theorem dX9_within_14 : decode cX9_within 14 = .ok (.iconst 0, 1) := by decide +kernel
theorem dX9_within_15 : decode cX9_within 15 = .ok (.ireturn, 1) := by decide +kernel
theorem dX9_isPlan_0 : decode cX9_isPlan 0 = .ok (.lload_n 0, 1) := by decide +kernel
theorem dX9_isPlan_1 : decode cX9_isPlan 1 = .ok (.lconst 0, 1) := by decide +kernel
theorem dX9_isPlan_2 : decode cX9_isPlan 2 = .ok (.lcmp, 1) := by decide +kernel
theorem dX9_isPlan_3 : decode cX9_isPlan 3 = .ok (.ifCond .lt 15, 3) := by decide +kernel
theorem dX9_isPlan_6 : decode cX9_isPlan 6 = .ok (.lload_n 0, 1) := by decide +kernel
theorem dX9_isPlan_7 : decode cX9_isPlan 7 = .ok (.ldc2_w 321, 3) := by decide +kernel
theorem dX9_isPlan_10 : decode cX9_isPlan 10 = .ok (.lcmp, 1) := by decide +kernel
theorem dX9_isPlan_11 : decode cX9_isPlan 11 = .ok (.ifCond .ge 7, 3) := by decide +kernel
theorem dX9_isPlan_14 : decode cX9_isPlan 14 = .ok (.iconst 1, 1) := by decide +kernel
theorem dX9_isPlan_15 : decode cX9_isPlan 15 = .ok (.goto 4, 3) := by decide +kernel
theorem dX9_isPlan_18 : decode cX9_isPlan 18 = .ok (.iconst 0, 1) := by decide +kernel
theorem dX9_isPlan_19 : decode cX9_isPlan 19 = .ok (.ireturn, 1) := by decide +kernel
theorem dX9_isShip_0 : decode cX9_isShip 0 = .ok (.iload_n 1, 1) := by decide +kernel
theorem dX9_isShip_1 : decode cX9_isShip 1 = .ok (.iconst 0, 1) := by decide +kernel
theorem dX9_isShip_2 : decode cX9_isShip 2 = .ok (.aload_n 0, 1) := by decide +kernel
theorem dX9_isShip_3 : decode cX9_isShip 3 = .ok (.getfield 29, 3) := by decide +kernel
theorem dX9_isShip_6 : decode cX9_isShip 6 = .ok (.getfield 116, 3) := by decide +kernel
theorem dX9_isShip_9 : decode cX9_isShip 9 = .ok (.iconst 1, 1) := by decide +kernel
theorem dX9_isShip_10 : decode cX9_isShip 10 = .ok (.isub, 1) := by decide +kernel
theorem dX9_isShip_11 : decode cX9_isShip 11 = .ok (.invokestatic 80, 3) := by decide +kernel
theorem dX9_isShip_14 : decode cX9_isShip 14 = .ok (.ireturn, 1) := by decide +kernel
theorem dX9_isStart_0 : decode cX9_isStart 0 = .ok (.iload_n 0, 1) := by decide +kernel
theorem dX9_isStart_1 : decode cX9_isStart 1 = .ok (.ldc_w 323, 3) := by decide +kernel
theorem dX9_isStart_4 : decode cX9_isStart 4 = .ok (.ldc_w 324, 3) := by decide +kernel
theorem dX9_isStart_7 : decode cX9_isStart 7 = .ok (.invokestatic 80, 3) := by decide +kernel
theorem dX9_isStart_10 : decode cX9_isStart 10 = .ok (.ifCond .eq 30, 3) := by decide +kernel
theorem dX9_isStart_13 : decode cX9_isStart 13 = .ok (.iload_n 1, 1) := by decide +kernel
theorem dX9_isStart_14 : decode cX9_isStart 14 = .ok (.ldc_w 323, 3) := by decide +kernel
theorem dX9_isStart_17 : decode cX9_isStart 17 = .ok (.ldc_w 324, 3) := by decide +kernel
theorem dX9_isStart_20 : decode cX9_isStart 20 = .ok (.invokestatic 80, 3) := by decide +kernel
theorem dX9_isStart_23 : decode cX9_isStart 23 = .ok (.ifCond .eq 17, 3) := by decide +kernel
theorem dX9_isStart_26 : decode cX9_isStart 26 = .ok (.iload_n 2, 1) := by decide +kernel
theorem dX9_isStart_27 : decode cX9_isStart 27 = .ok (.iconst 1, 1) := by decide +kernel
theorem dX9_isStart_28 : decode cX9_isStart 28 = .ok (.bipush 20, 2) := by decide +kernel
theorem dX9_isStart_30 : decode cX9_isStart 30 = .ok (.invokestatic 80, 3) := by decide +kernel
theorem dX9_isStart_33 : decode cX9_isStart 33 = .ok (.ifCond .eq 7, 3) := by decide +kernel
theorem dX9_isStart_36 : decode cX9_isStart 36 = .ok (.iconst 1, 1) := by decide +kernel
theorem dX9_isStart_37 : decode cX9_isStart 37 = .ok (.goto 4, 3) := by decide +kernel
theorem dX9_isStart_40 : decode cX9_isStart 40 = .ok (.iconst 0, 1) := by decide +kernel
theorem dX9_isStart_41 : decode cX9_isStart 41 = .ok (.ireturn, 1) := by decide +kernel
theorem dX9_isWeight_0 : decode cX9_isWeight 0 = .ok (.iload_n 0, 1) := by decide +kernel
theorem dX9_isWeight_1 : decode cX9_isWeight 1 = .ok (.iconst 0, 1) := by decide +kernel
theorem dX9_isWeight_2 : decode cX9_isWeight 2 = .ok (.bipush 20, 2) := by decide +kernel
theorem dX9_isWeight_4 : decode cX9_isWeight 4 = .ok (.invokestatic 80, 3) := by decide +kernel
theorem dX9_isWeight_7 : decode cX9_isWeight 7 = .ok (.ireturn, 1) := by decide +kernel
theorem dX9_isCell_0 : decode cX9_isCell 0 = .ok (.iload_n 0, 1) := by decide +kernel
theorem dX9_isCell_1 : decode cX9_isCell 1 = .ok (.iconst 0, 1) := by decide +kernel
theorem dX9_isCell_2 : decode cX9_isCell 2 = .ok (.sipush 143, 3) := by decide +kernel
theorem dX9_isCell_5 : decode cX9_isCell 5 = .ok (.invokestatic 80, 3) := by decide +kernel
theorem dX9_isCell_8 : decode cX9_isCell 8 = .ok (.ireturn, 1) := by decide +kernel
theorem dX9_isVoyage_0 : decode cX9_isVoyage 0 = .ok (.iload_n 0, 1) := by decide +kernel
theorem dX9_isVoyage_1 : decode cX9_isVoyage 1 = .ok (.iconst 0, 1) := by decide +kernel
theorem dX9_isVoyage_2 : decode cX9_isVoyage 2 = .ok (.bipush 40, 2) := by decide +kernel
theorem dX9_isVoyage_4 : decode cX9_isVoyage 4 = .ok (.invokestatic 80, 3) := by decide +kernel
theorem dX9_isVoyage_7 : decode cX9_isVoyage 7 = .ok (.ifCond .eq 17, 3) := by decide +kernel
theorem dX9_isVoyage_10 : decode cX9_isVoyage 10 = .ok (.iload_n 1, 1) := by decide +kernel
theorem dX9_isVoyage_11 : decode cX9_isVoyage 11 = .ok (.iconst 0, 1) := by decide +kernel
theorem dX9_isVoyage_12 : decode cX9_isVoyage 12 = .ok (.bipush 40, 2) := by decide +kernel
theorem dX9_isVoyage_14 : decode cX9_isVoyage 14 = .ok (.invokestatic 80, 3) := by decide +kernel
theorem dX9_isVoyage_17 : decode cX9_isVoyage 17 = .ok (.ifCond .eq 7, 3) := by decide +kernel
theorem dX9_isVoyage_20 : decode cX9_isVoyage 20 = .ok (.iconst 1, 1) := by decide +kernel
theorem dX9_isVoyage_21 : decode cX9_isVoyage 21 = .ok (.goto 4, 3) := by decide +kernel
theorem dX9_isVoyage_24 : decode cX9_isVoyage 24 = .ok (.iconst 0, 1) := by decide +kernel
theorem dX9_isVoyage_25 : decode cX9_isVoyage 25 = .ok (.ireturn, 1) := by decide +kernel
theorem dX9_landCells_0 : decode cX9_landCells 0 = .ok (.iconst 0, 1) := by decide +kernel
theorem dX9_landCells_1 : decode cX9_landCells 1 = .ok (.istore_n 1, 1) := by decide +kernel
theorem dX9_landCells_2 : decode cX9_landCells 2 = .ok (.iconst 0, 1) := by decide +kernel
theorem dX9_landCells_3 : decode cX9_landCells 3 = .ok (.istore_n 2, 1) := by decide +kernel
theorem dX9_landCells_4 : decode cX9_landCells 4 = .ok (.iload_n 2, 1) := by decide +kernel
theorem dX9_landCells_5 : decode cX9_landCells 5 = .ok (.sipush 144, 3) := by decide +kernel
theorem dX9_landCells_8 : decode cX9_landCells 8 = .ok (.if_icmp .ge 22, 3) := by decide +kernel
theorem dX9_landCells_11 : decode cX9_landCells 11 = .ok (.aload_n 0, 1) := by decide +kernel
theorem dX9_landCells_12 : decode cX9_landCells 12 = .ok (.getfield 50, 3) := by decide +kernel
theorem dX9_landCells_15 : decode cX9_landCells 15 = .ok (.iload_n 2, 1) := by decide +kernel
theorem dX9_landCells_16 : decode cX9_landCells 16 = .ok (.iaload, 1) := by decide +kernel
theorem dX9_landCells_17 : decode cX9_landCells 17 = .ok (.iconst (-1), 1) := by decide +kernel
theorem dX9_landCells_18 : decode cX9_landCells 18 = .ok (.if_icmp .ne 6, 3) := by decide +kernel
theorem dX9_landCells_21 : decode cX9_landCells 21 = .ok (.iinc 1 1, 3) := by decide +kernel
theorem dX9_landCells_24 : decode cX9_landCells 24 = .ok (.iinc 2 1, 3) := by decide +kernel
theorem dX9_landCells_27 : decode cX9_landCells 27 = .ok (.goto (-23), 3) := by decide +kernel
theorem dX9_landCells_30 : decode cX9_landCells 30 = .ok (.iload_n 1, 1) := by decide +kernel
theorem dX9_landCells_31 : decode cX9_landCells 31 = .ok (.ireturn, 1) := by decide +kernel
theorem dX9_readyPilot_0 : decode cX9_readyPilot 0 = .ok (.aload_n 0, 1) := by decide +kernel
theorem dX9_readyPilot_1 : decode cX9_readyPilot 1 = .ok (.getfield 64, 3) := by decide +kernel
theorem dX9_readyPilot_4 : decode cX9_readyPilot 4 = .ok (.ifnonnull 22, 3) := by decide +kernel
theorem dX9_readyPilot_7 : decode cX9_readyPilot 7 = .ok (.aload_n 0, 1) := by decide +kernel
theorem dX9_readyPilot_8 : decode cX9_readyPilot 8 = .ok (.new 253, 3) := by decide +kernel
theorem dX9_readyPilot_11 : decode cX9_readyPilot 11 = .ok (.dup, 1) := by decide +kernel
theorem dX9_readyPilot_12 : decode cX9_readyPilot 12 = .ok (.aload_n 0, 1) := by decide +kernel
theorem dX9_readyPilot_13 : decode cX9_readyPilot 13 = .ok (.getfield 50, 3) := by decide +kernel
theorem dX9_readyPilot_16 : decode cX9_readyPilot 16 = .ok (.aload_n 0, 1) := by decide +kernel
theorem dX9_readyPilot_17 : decode cX9_readyPilot 17 = .ok (.getfield 57, 3) := by decide +kernel
theorem dX9_readyPilot_20 : decode cX9_readyPilot 20 = .ok (.invokespecial 325, 3) := by decide +kernel
theorem dX9_readyPilot_23 : decode cX9_readyPilot 23 = .ok (.putfield 64, 3) := by decide +kernel
theorem dX9_readyPilot_26 : decode cX9_readyPilot 26 = .ok (.aload_n 0, 1) := by decide +kernel
theorem dX9_readyPilot_27 : decode cX9_readyPilot 27 = .ok (.getfield 64, 3) := by decide +kernel
theorem dX9_readyPilot_30 : decode cX9_readyPilot 30 = .ok (.areturn, 1) := by decide +kernel
theorem dX9_pace_0 : decode cX9_pace 0 = .ok (.iload_n 0, 1) := by decide +kernel
theorem dX9_pace_1 : decode cX9_pace 1 = .ok (.invokestatic 328, 3) := by decide +kernel
theorem dX9_pace_4 : decode cX9_pace 4 = .ok (.iconst 4, 1) := by decide +kernel
theorem dX9_pace_5 : decode cX9_pace 5 = .ok (.invokestatic 333, 3) := by decide +kernel
theorem dX9_pace_8 : decode cX9_pace 8 = .ok (.istore_n 2, 1) := by decide +kernel
theorem dX9_pace_9 : decode cX9_pace 9 = .ok (.iload_n 1, 1) := by decide +kernel
theorem dX9_pace_10 : decode cX9_pace 10 = .ok (.ifCond .ne 9, 3) := by decide +kernel
theorem dX9_pace_13 : decode cX9_pace 13 = .ok (.getstatic 336, 3) := by decide +kernel
theorem dX9_pace_16 : decode cX9_pace 16 = .ok (.iload_n 2, 1) := by decide +kernel
theorem dX9_pace_17 : decode cX9_pace 17 = .ok (.iaload, 1) := by decide +kernel
theorem dX9_pace_18 : decode cX9_pace 18 = .ok (.ireturn, 1) := by decide +kernel
theorem dX9_pace_19 : decode cX9_pace 19 = .ok (.iload_n 0, 1) := by decide +kernel
theorem dX9_pace_20 : decode cX9_pace 20 = .ok (.ifCond .ge 12, 3) := by decide +kernel
theorem dX9_pace_23 : decode cX9_pace 23 = .ok (.getstatic 339, 3) := by decide +kernel
theorem dX9_pace_26 : decode cX9_pace 26 = .ok (.iload_n 2, 1) := by decide +kernel
theorem dX9_pace_27 : decode cX9_pace 27 = .ok (.iaload, 1) := by decide +kernel
theorem dX9_pace_28 : decode cX9_pace 28 = .ok (.ineg, 1) := by decide +kernel
theorem dX9_pace_29 : decode cX9_pace 29 = .ok (.goto 8, 3) := by decide +kernel
theorem dX9_pace_32 : decode cX9_pace 32 = .ok (.getstatic 339, 3) := by decide +kernel
theorem dX9_pace_35 : decode cX9_pace 35 = .ok (.iload_n 2, 1) := by decide +kernel
theorem dX9_pace_36 : decode cX9_pace 36 = .ok (.iaload, 1) := by decide +kernel
theorem dX9_pace_37 : decode cX9_pace 37 = .ok (.ireturn, 1) := by decide +kernel
theorem dX9_squareOf_0 : decode cX9_squareOf 0 = .ok (.lload_n 0, 1) := by decide +kernel
theorem dX9_squareOf_1 : decode cX9_squareOf 1 = .ok (.lload_n 0, 1) := by decide +kernel
theorem dX9_squareOf_2 : decode cX9_squareOf 2 = .ok (.lmul, 1) := by decide +kernel
theorem dX9_squareOf_3 : decode cX9_squareOf 3 = .ok (.lload_n 2, 1) := by decide +kernel
theorem dX9_squareOf_4 : decode cX9_squareOf 4 = .ok (.lload_n 2, 1) := by decide +kernel
theorem dX9_squareOf_5 : decode cX9_squareOf 5 = .ok (.lmul, 1) := by decide +kernel
theorem dX9_squareOf_6 : decode cX9_squareOf 6 = .ok (.ladd, 1) := by decide +kernel
theorem dX9_squareOf_7 : decode cX9_squareOf 7 = .ok (.lreturn, 1) := by decide +kernel
