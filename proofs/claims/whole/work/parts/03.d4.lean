theorem dX10_worst_33 : decode cX10_worst 33 = .ok (.ifCond .eq 40, 3) := by decide +kernel
theorem dX10_worst_36 : decode cX10_worst 36 = .ok (.iload 4, 2) := by decide +kernel
theorem dX10_worst_38 : decode cX10_worst 38 = .ok (.i2l, 1) := by decide +kernel
theorem dX10_worst_39 : decode cX10_worst 39 = .ok (.lconst 0, 1) := by decide +kernel
theorem dX10_worst_40 : decode cX10_worst 40 = .ok (.ldc2_w 184, 3) := by decide +kernel
theorem dX10_worst_43 : decode cX10_worst 43 = .ok (.invokestatic 122, 3) := by decide +kernel
theorem dX10_worst_46 : decode cX10_worst 46 = .ok (.ifCond .eq 27, 3) := by decide +kernel
theorem dX10_worst_49 : decode cX10_worst 49 = .ok (.iload 5, 2) := by decide +kernel
theorem dX10_worst_51 : decode cX10_worst 51 = .ok (.i2l, 1) := by decide +kernel
theorem dX10_worst_52 : decode cX10_worst 52 = .ok (.lconst 0, 1) := by decide +kernel
theorem dX10_worst_53 : decode cX10_worst 53 = .ok (.ldc2_w 184, 3) := by decide +kernel
theorem dX10_worst_56 : decode cX10_worst 56 = .ok (.invokestatic 122, 3) := by decide +kernel
theorem dX10_worst_59 : decode cX10_worst 59 = .ok (.ifCond .eq 14, 3) := by decide +kernel
theorem dX10_worst_62 : decode cX10_worst 62 = .ok (.iload 6, 2) := by decide +kernel
theorem dX10_worst_64 : decode cX10_worst 64 = .ok (.i2l, 1) := by decide +kernel
theorem dX10_worst_65 : decode cX10_worst 65 = .ok (.lconst 0, 1) := by decide +kernel
theorem dX10_worst_66 : decode cX10_worst 66 = .ok (.lconst 1, 1) := by decide +kernel
theorem dX10_worst_67 : decode cX10_worst 67 = .ok (.invokestatic 122, 3) := by decide +kernel
theorem dX10_worst_70 : decode cX10_worst 70 = .ok (.ifCond .ne 6, 3) := by decide +kernel
theorem dX10_worst_73 : decode cX10_worst 73 = .ok (.bipush (-2), 2) := by decide +kernel
theorem dX10_worst_75 : decode cX10_worst 75 = .ok (.ireturn, 1) := by decide +kernel
theorem dX10_worst_76 : decode cX10_worst 76 = .ok (.aload_n 0, 1) := by decide +kernel
theorem dX10_worst_77 : decode cX10_worst 77 = .ok (.iload_n 1, 1) := by decide +kernel
theorem dX10_worst_78 : decode cX10_worst 78 = .ok (.invokevirtual 260, 3) := by decide +kernel
theorem dX10_worst_81 : decode cX10_worst 81 = .ok (.aload_n 0, 1) := by decide +kernel
theorem dX10_worst_82 : decode cX10_worst 82 = .ok (.getfield 70, 3) := by decide +kernel
theorem dX10_worst_85 : decode cX10_worst 85 = .ok (.iconst 0, 1) := by decide +kernel
theorem dX10_worst_86 : decode cX10_worst 86 = .ok (.iload_n 2, 1) := by decide +kernel
theorem dX10_worst_87 : decode cX10_worst 87 = .ok (.iastore, 1) := by decide +kernel
theorem dX10_worst_88 : decode cX10_worst 88 = .ok (.aload_n 0, 1) := by decide +kernel
theorem dX10_worst_89 : decode cX10_worst 89 = .ok (.getfield 70, 3) := by decide +kernel
theorem dX10_worst_92 : decode cX10_worst 92 = .ok (.iconst 1, 1) := by decide +kernel
theorem dX10_worst_93 : decode cX10_worst 93 = .ok (.iload_n 3, 1) := by decide +kernel
theorem dX10_worst_94 : decode cX10_worst 94 = .ok (.iastore, 1) := by decide +kernel
theorem dX10_worst_95 : decode cX10_worst 95 = .ok (.aload_n 0, 1) := by decide +kernel
theorem dX10_worst_96 : decode cX10_worst 96 = .ok (.getfield 70, 3) := by decide +kernel
theorem dX10_worst_99 : decode cX10_worst 99 = .ok (.iconst 2, 1) := by decide +kernel
theorem dX10_worst_100 : decode cX10_worst 100 = .ok (.iload 4, 2) := by decide +kernel
theorem dX10_worst_102 : decode cX10_worst 102 = .ok (.iastore, 1) := by decide +kernel
theorem dX10_worst_103 : decode cX10_worst 103 = .ok (.aload_n 0, 1) := by decide +kernel
theorem dX10_worst_104 : decode cX10_worst 104 = .ok (.getfield 70, 3) := by decide +kernel
theorem dX10_worst_107 : decode cX10_worst 107 = .ok (.iconst 3, 1) := by decide +kernel
theorem dX10_worst_108 : decode cX10_worst 108 = .ok (.iload 5, 2) := by decide +kernel
theorem dX10_worst_110 : decode cX10_worst 110 = .ok (.iastore, 1) := by decide +kernel
theorem dX10_worst_111 : decode cX10_worst 111 = .ok (.aload_n 0, 1) := by decide +kernel
theorem dX10_worst_112 : decode cX10_worst 112 = .ok (.invokevirtual 263, 3) := by decide +kernel
theorem dX10_worst_115 : decode cX10_worst 115 = .ok (.istore 7, 2) := by decide +kernel
theorem dX10_worst_117 : decode cX10_worst 117 = .ok (.iload 6, 2) := by decide +kernel
theorem dX10_worst_119 : decode cX10_worst 119 = .ok (.ifCond .ne 8, 3) := by decide +kernel
theorem dX10_worst_122 : decode cX10_worst 122 = .ok (.iload 7, 2) := by decide +kernel
theorem dX10_worst_124 : decode cX10_worst 124 = .ok (.goto 7, 3) := by decide +kernel
theorem dX10_worst_127 : decode cX10_worst 127 = .ok (.aload_n 0, 1) := by decide +kernel
theorem dX10_worst_128 : decode cX10_worst 128 = .ok (.getfield 257, 3) := by decide +kernel
theorem dX10_worst_131 : decode cX10_worst 131 = .ok (.ireturn, 1) := by decide +kernel
theorem dX10_mix_0 : decode cX10_mix 0 = .ok (.iload_n 1, 1) := by decide +kernel
theorem dX10_mix_1 : decode cX10_mix 1 = .ok (.i2l, 1) := by decide +kernel
theorem dX10_mix_2 : decode cX10_mix 2 = .ok (.lconst 0, 1) := by decide +kernel
theorem dX10_mix_3 : decode cX10_mix 3 = .ok (.ldc2_w 136, 3) := by decide +kernel
theorem dX10_mix_6 : decode cX10_mix 6 = .ok (.invokestatic 122, 3) := by decide +kernel
theorem dX10_mix_9 : decode cX10_mix 9 = .ok (.ifCond .eq 27, 3) := by decide +kernel
theorem dX10_mix_12 : decode cX10_mix 12 = .ok (.iload_n 2, 1) := by decide +kernel
theorem dX10_mix_13 : decode cX10_mix 13 = .ok (.i2l, 1) := by decide +kernel
theorem dX10_mix_14 : decode cX10_mix 14 = .ok (.lconst 1, 1) := by decide +kernel
theorem dX10_mix_15 : decode cX10_mix 15 = .ok (.ldc2_w 267, 3) := by decide +kernel
theorem dX10_mix_18 : decode cX10_mix 18 = .ok (.invokestatic 122, 3) := by decide +kernel
theorem dX10_mix_21 : decode cX10_mix 21 = .ok (.ifCond .eq 15, 3) := by decide +kernel
theorem dX10_mix_24 : decode cX10_mix 24 = .ok (.iload_n 3, 1) := by decide +kernel
theorem dX10_mix_25 : decode cX10_mix 25 = .ok (.i2l, 1) := by decide +kernel
theorem dX10_mix_26 : decode cX10_mix 26 = .ok (.lconst 0, 1) := by decide +kernel
theorem dX10_mix_27 : decode cX10_mix 27 = .ok (.ldc2_w 134, 3) := by decide +kernel
theorem dX10_mix_30 : decode cX10_mix 30 = .ok (.invokestatic 122, 3) := by decide +kernel
theorem dX10_mix_33 : decode cX10_mix 33 = .ok (.ifCond .ne 6, 3) := by decide +kernel
theorem dX10_mix_36 : decode cX10_mix 36 = .ok (.bipush (-2), 2) := by decide +kernel
theorem dX10_mix_38 : decode cX10_mix 38 = .ok (.ireturn, 1) := by decide +kernel
theorem dX10_mix_39 : decode cX10_mix 39 = .ok (.aload_n 0, 1) := by decide +kernel
theorem dX10_mix_40 : decode cX10_mix 40 = .ok (.iload_n 1, 1) := by decide +kernel
theorem dX10_mix_41 : decode cX10_mix 41 = .ok (.invokevirtual 260, 3) := by decide +kernel
theorem dX10_mix_44 : decode cX10_mix 44 = .ok (.iconst (-1), 1) := by decide +kernel
theorem dX10_mix_45 : decode cX10_mix 45 = .ok (.istore 4, 2) := by decide +kernel
theorem dX10_mix_47 : decode cX10_mix 47 = .ok (.iconst 0, 1) := by decide +kernel
theorem dX10_mix_48 : decode cX10_mix 48 = .ok (.istore 5, 2) := by decide +kernel
theorem dX10_mix_50 : decode cX10_mix 50 = .ok (.iload 5, 2) := by decide +kernel
theorem dX10_mix_52 : decode cX10_mix 52 = .ok (.sipush 2197, 3) := by decide +kernel
theorem dX10_mix_55 : decode cX10_mix 55 = .ok (.if_icmp .ge 134, 3) := by decide +kernel
theorem dX10_mix_58 : decode cX10_mix 58 = .ok (.aload_n 0, 1) := by decide +kernel
theorem dX10_mix_59 : decode cX10_mix 59 = .ok (.getfield 70, 3) := by decide +kernel
theorem dX10_mix_62 : decode cX10_mix 62 = .ok (.iconst 0, 1) := by decide +kernel
theorem dX10_mix_63 : decode cX10_mix 63 = .ok (.iload 5, 2) := by decide +kernel
theorem dX10_mix_65 : decode cX10_mix 65 = .ok (.sipush 169, 3) := by decide +kernel
theorem dX10_mix_68 : decode cX10_mix 68 = .ok (.idiv, 1) := by decide +kernel
theorem dX10_mix_69 : decode cX10_mix 69 = .ok (.iastore, 1) := by decide +kernel
theorem dX10_mix_70 : decode cX10_mix 70 = .ok (.aload_n 0, 1) := by decide +kernel
theorem dX10_mix_71 : decode cX10_mix 71 = .ok (.getfield 70, 3) := by decide +kernel
theorem dX10_mix_74 : decode cX10_mix 74 = .ok (.iconst 1, 1) := by decide +kernel
theorem dX10_mix_75 : decode cX10_mix 75 = .ok (.iload 5, 2) := by decide +kernel
theorem dX10_mix_77 : decode cX10_mix 77 = .ok (.bipush 13, 2) := by decide +kernel
theorem dX10_mix_79 : decode cX10_mix 79 = .ok (.idiv, 1) := by decide +kernel
theorem dX10_mix_80 : decode cX10_mix 80 = .ok (.bipush 13, 2) := by decide +kernel
theorem dX10_mix_82 : decode cX10_mix 82 = .ok (.irem, 1) := by decide +kernel
theorem dX10_mix_83 : decode cX10_mix 83 = .ok (.iastore, 1) := by decide +kernel
theorem dX10_mix_84 : decode cX10_mix 84 = .ok (.aload_n 0, 1) := by decide +kernel
theorem dX10_mix_85 : decode cX10_mix 85 = .ok (.getfield 70, 3) := by decide +kernel
theorem dX10_mix_88 : decode cX10_mix 88 = .ok (.iconst 2, 1) := by decide +kernel
theorem dX10_mix_89 : decode cX10_mix 89 = .ok (.iload 5, 2) := by decide +kernel
theorem dX10_mix_91 : decode cX10_mix 91 = .ok (.bipush 13, 2) := by decide +kernel
theorem dX10_mix_93 : decode cX10_mix 93 = .ok (.irem, 1) := by decide +kernel
theorem dX10_mix_94 : decode cX10_mix 94 = .ok (.iastore, 1) := by decide +kernel
theorem dX10_mix_95 : decode cX10_mix 95 = .ok (.aload_n 0, 1) := by decide +kernel
theorem dX10_mix_96 : decode cX10_mix 96 = .ok (.getfield 70, 3) := by decide +kernel
theorem dX10_mix_99 : decode cX10_mix 99 = .ok (.iconst 3, 1) := by decide +kernel
theorem dX10_mix_100 : decode cX10_mix 100 = .ok (.iload_n 2, 1) := by decide +kernel
theorem dX10_mix_101 : decode cX10_mix 101 = .ok (.aload_n 0, 1) := by decide +kernel
theorem dX10_mix_102 : decode cX10_mix 102 = .ok (.getfield 70, 3) := by decide +kernel
theorem dX10_mix_105 : decode cX10_mix 105 = .ok (.iconst 0, 1) := by decide +kernel
theorem dX10_mix_106 : decode cX10_mix 106 = .ok (.iaload, 1) := by decide +kernel
theorem dX10_mix_107 : decode cX10_mix 107 = .ok (.isub, 1) := by decide +kernel
theorem dX10_mix_108 : decode cX10_mix 108 = .ok (.aload_n 0, 1) := by decide +kernel
theorem dX10_mix_109 : decode cX10_mix 109 = .ok (.getfield 70, 3) := by decide +kernel
theorem dX10_mix_112 : decode cX10_mix 112 = .ok (.iconst 1, 1) := by decide +kernel
theorem dX10_mix_113 : decode cX10_mix 113 = .ok (.iaload, 1) := by decide +kernel
theorem dX10_mix_114 : decode cX10_mix 114 = .ok (.isub, 1) := by decide +kernel
theorem dX10_mix_115 : decode cX10_mix 115 = .ok (.aload_n 0, 1) := by decide +kernel
theorem dX10_mix_116 : decode cX10_mix 116 = .ok (.getfield 70, 3) := by decide +kernel
theorem dX10_mix_119 : decode cX10_mix 119 = .ok (.iconst 2, 1) := by decide +kernel
theorem dX10_mix_120 : decode cX10_mix 120 = .ok (.iaload, 1) := by decide +kernel
theorem dX10_mix_121 : decode cX10_mix 121 = .ok (.isub, 1) := by decide +kernel
theorem dX10_mix_122 : decode cX10_mix 122 = .ok (.iastore, 1) := by decide +kernel
theorem dX10_mix_123 : decode cX10_mix 123 = .ok (.aload_n 0, 1) := by decide +kernel
theorem dX10_mix_124 : decode cX10_mix 124 = .ok (.getfield 70, 3) := by decide +kernel
theorem dX10_mix_127 : decode cX10_mix 127 = .ok (.iconst 3, 1) := by decide +kernel
theorem dX10_mix_128 : decode cX10_mix 128 = .ok (.iaload, 1) := by decide +kernel
theorem dX10_mix_129 : decode cX10_mix 129 = .ok (.ifCond .lt 54, 3) := by decide +kernel
theorem dX10_mix_132 : decode cX10_mix 132 = .ok (.aload_n 0, 1) := by decide +kernel
theorem dX10_mix_133 : decode cX10_mix 133 = .ok (.invokevirtual 263, 3) := by decide +kernel
theorem dX10_mix_136 : decode cX10_mix 136 = .ok (.istore 6, 2) := by decide +kernel
theorem dX10_mix_138 : decode cX10_mix 138 = .ok (.iload 4, 2) := by decide +kernel
theorem dX10_mix_140 : decode cX10_mix 140 = .ok (.ifCond .lt 10, 3) := by decide +kernel
theorem dX10_mix_143 : decode cX10_mix 143 = .ok (.iload 6, 2) := by decide +kernel
theorem dX10_mix_145 : decode cX10_mix 145 = .ok (.iload 4, 2) := by decide +kernel
theorem dX10_mix_147 : decode cX10_mix 147 = .ok (.if_icmp .ge 36, 3) := by decide +kernel
theorem dX10_mix_150 : decode cX10_mix 150 = .ok (.iload 6, 2) := by decide +kernel
theorem dX10_mix_152 : decode cX10_mix 152 = .ok (.istore 4, 2) := by decide +kernel
theorem dX10_mix_154 : decode cX10_mix 154 = .ok (.iconst 0, 1) := by decide +kernel
theorem dX10_mix_155 : decode cX10_mix 155 = .ok (.istore 7, 2) := by decide +kernel
theorem dX10_mix_157 : decode cX10_mix 157 = .ok (.iload 7, 2) := by decide +kernel
theorem dX10_mix_159 : decode cX10_mix 159 = .ok (.iconst 4, 1) := by decide +kernel
theorem dX10_mix_160 : decode cX10_mix 160 = .ok (.if_icmp .ge 23, 3) := by decide +kernel
theorem dX10_mix_163 : decode cX10_mix 163 = .ok (.aload_n 0, 1) := by decide +kernel
theorem dX10_mix_164 : decode cX10_mix 164 = .ok (.getfield 76, 3) := by decide +kernel
theorem dX10_mix_167 : decode cX10_mix 167 = .ok (.iload 7, 2) := by decide +kernel
theorem dX10_mix_169 : decode cX10_mix 169 = .ok (.aload_n 0, 1) := by decide +kernel
theorem dX10_mix_170 : decode cX10_mix 170 = .ok (.getfield 70, 3) := by decide +kernel
theorem dX10_mix_173 : decode cX10_mix 173 = .ok (.iload 7, 2) := by decide +kernel
theorem dX10_mix_175 : decode cX10_mix 175 = .ok (.iaload, 1) := by decide +kernel
theorem dX10_mix_176 : decode cX10_mix 176 = .ok (.iastore, 1) := by decide +kernel
theorem dX10_mix_177 : decode cX10_mix 177 = .ok (.iinc 7 1, 3) := by decide +kernel
theorem dX10_mix_180 : decode cX10_mix 180 = .ok (.goto (-23), 3) := by decide +kernel
theorem dX10_mix_183 : decode cX10_mix 183 = .ok (.iinc 5 1, 3) := by decide +kernel
theorem dX10_mix_186 : decode cX10_mix 186 = .ok (.goto (-136), 3) := by decide +kernel
theorem dX10_mix_189 : decode cX10_mix 189 = .ok (.iload_n 3, 1) := by decide +kernel
theorem dX10_mix_190 : decode cX10_mix 190 = .ok (.iconst 4, 1) := by decide +kernel
theorem dX10_mix_191 : decode cX10_mix 191 = .ok (.if_icmp .ne 8, 3) := by decide +kernel
theorem dX10_mix_194 : decode cX10_mix 194 = .ok (.iload 4, 2) := by decide +kernel
theorem dX10_mix_196 : decode cX10_mix 196 = .ok (.goto 9, 3) := by decide +kernel
theorem dX10_mix_199 : decode cX10_mix 199 = .ok (.aload_n 0, 1) := by decide +kernel
theorem dX10_mix_200 : decode cX10_mix 200 = .ok (.getfield 76, 3) := by decide +kernel
theorem dX10_mix_203 : decode cX10_mix 203 = .ok (.iload_n 3, 1) := by decide +kernel
theorem dX10_mix_204 : decode cX10_mix 204 = .ok (.iaload, 1) := by decide +kernel
theorem dX10_mix_205 : decode cX10_mix 205 = .ok (.ireturn, 1) := by decide +kernel
theorem dX10_post_0 : decode cX10_post 0 = .ok (.iload_n 1, 1) := by decide +kernel
theorem dX10_post_1 : decode cX10_post 1 = .ok (.i2l, 1) := by decide +kernel
theorem dX10_post_2 : decode cX10_post 2 = .ok (.ldc2_w 269, 3) := by decide +kernel
theorem dX10_post_5 : decode cX10_post 5 = .ok (.ldc2_w 271, 3) := by decide +kernel
theorem dX10_post_8 : decode cX10_post 8 = .ok (.invokestatic 122, 3) := by decide +kernel
theorem dX10_post_11 : decode cX10_post 11 = .ok (.ifCond .eq 29, 3) := by decide +kernel
theorem dX10_post_14 : decode cX10_post 14 = .ok (.iload_n 2, 1) := by decide +kernel
theorem dX10_post_15 : decode cX10_post 15 = .ok (.i2l, 1) := by decide +kernel
theorem dX10_post_16 : decode cX10_post 16 = .ok (.ldc2_w 269, 3) := by decide +kernel
theorem dX10_post_19 : decode cX10_post 19 = .ok (.ldc2_w 271, 3) := by decide +kernel
theorem dX10_post_22 : decode cX10_post 22 = .ok (.invokestatic 122, 3) := by decide +kernel
theorem dX10_post_25 : decode cX10_post 25 = .ok (.ifCond .eq 15, 3) := by decide +kernel
theorem dX10_post_28 : decode cX10_post 28 = .ok (.iload_n 3, 1) := by decide +kernel
theorem dX10_post_29 : decode cX10_post 29 = .ok (.i2l, 1) := by decide +kernel
theorem dX10_post_30 : decode cX10_post 30 = .ok (.lconst 1, 1) := by decide +kernel
theorem dX10_post_31 : decode cX10_post 31 = .ok (.ldc2_w 273, 3) := by decide +kernel
theorem dX10_post_34 : decode cX10_post 34 = .ok (.invokestatic 122, 3) := by decide +kernel
theorem dX10_post_37 : decode cX10_post 37 = .ok (.ifCond .ne 6, 3) := by decide +kernel
theorem dX10_post_40 : decode cX10_post 40 = .ok (.bipush (-2), 2) := by decide +kernel
theorem dX10_post_42 : decode cX10_post 42 = .ok (.ireturn, 1) := by decide +kernel
theorem dX10_post_43 : decode cX10_post 43 = .ok (.aload_n 0, 1) := by decide +kernel
theorem dX10_post_44 : decode cX10_post 44 = .ok (.getfield 275, 3) := by decide +kernel
theorem dX10_post_47 : decode cX10_post 47 = .ok (.bipush 10, 2) := by decide +kernel
theorem dX10_post_49 : decode cX10_post 49 = .ok (.if_icmp .ne 6, 3) := by decide +kernel
theorem dX10_post_52 : decode cX10_post 52 = .ok (.bipush (-4), 2) := by decide +kernel
theorem dX10_post_54 : decode cX10_post 54 = .ok (.ireturn, 1) := by decide +kernel
theorem dX10_post_55 : decode cX10_post 55 = .ok (.aload_n 0, 1) := by decide +kernel
theorem dX10_post_56 : decode cX10_post 56 = .ok (.getfield 79, 3) := by decide +kernel
theorem dX10_post_59 : decode cX10_post 59 = .ok (.aload_n 0, 1) := by decide +kernel
theorem dX10_post_60 : decode cX10_post 60 = .ok (.getfield 275, 3) := by decide +kernel
theorem dX10_post_63 : decode cX10_post 63 = .ok (.iload_n 1, 1) := by decide +kernel
theorem dX10_post_64 : decode cX10_post 64 = .ok (.iastore, 1) := by decide +kernel
theorem dX10_post_65 : decode cX10_post 65 = .ok (.aload_n 0, 1) := by decide +kernel
theorem dX10_post_66 : decode cX10_post 66 = .ok (.getfield 82, 3) := by decide +kernel
theorem dX10_post_69 : decode cX10_post 69 = .ok (.aload_n 0, 1) := by decide +kernel
theorem dX10_post_70 : decode cX10_post 70 = .ok (.getfield 275, 3) := by decide +kernel
theorem dX10_post_73 : decode cX10_post 73 = .ok (.iload_n 2, 1) := by decide +kernel
theorem dX10_post_74 : decode cX10_post 74 = .ok (.iastore, 1) := by decide +kernel
theorem dX10_post_75 : decode cX10_post 75 = .ok (.aload_n 0, 1) := by decide +kernel
theorem dX10_post_76 : decode cX10_post 76 = .ok (.getfield 85, 3) := by decide +kernel
theorem dX10_post_79 : decode cX10_post 79 = .ok (.aload_n 0, 1) := by decide +kernel
theorem dX10_post_80 : decode cX10_post 80 = .ok (.getfield 275, 3) := by decide +kernel
theorem dX10_post_83 : decode cX10_post 83 = .ok (.iload_n 3, 1) := by decide +kernel
theorem dX10_post_84 : decode cX10_post 84 = .ok (.iastore, 1) := by decide +kernel
theorem dX10_post_85 : decode cX10_post 85 = .ok (.aload_n 0, 1) := by decide +kernel
theorem dX10_post_86 : decode cX10_post 86 = .ok (.dup, 1) := by decide +kernel
theorem dX10_post_87 : decode cX10_post 87 = .ok (.getfield 275, 3) := by decide +kernel
theorem dX10_post_90 : decode cX10_post 90 = .ok (.iconst 1, 1) := by decide +kernel
theorem dX10_post_91 : decode cX10_post 91 = .ok (.iadd, 1) := by decide +kernel
theorem dX10_post_92 : decode cX10_post 92 = .ok (.putfield 275, 3) := by decide +kernel
theorem dX10_post_95 : decode cX10_post 95 = .ok (.aload_n 0, 1) := by decide +kernel
theorem dX10_post_96 : decode cX10_post 96 = .ok (.getfield 275, 3) := by decide +kernel
theorem dX10_post_99 : decode cX10_post 99 = .ok (.iconst 1, 1) := by decide +kernel
theorem dX10_post_100 : decode cX10_post 100 = .ok (.isub, 1) := by decide +kernel
theorem dX10_post_101 : decode cX10_post 101 = .ok (.ireturn, 1) := by decide +kernel
theorem dX10_findSeers_0 : decode cX10_findSeers 0 = .ok (.iconst 0, 1) := by decide +kernel
theorem dX10_findSeers_1 : decode cX10_findSeers 1 = .ok (.istore_n 2, 1) := by decide +kernel
theorem dX10_findSeers_2 : decode cX10_findSeers 2 = .ok (.iload_n 1, 1) := by decide +kernel
theorem dX10_findSeers_3 : decode cX10_findSeers 3 = .ok (.ineg, 1) := by decide +kernel
theorem dX10_findSeers_4 : decode cX10_findSeers 4 = .ok (.istore_n 3, 1) := by decide +kernel
theorem dX10_findSeers_5 : decode cX10_findSeers 5 = .ok (.iload_n 3, 1) := by decide +kernel
theorem dX10_findSeers_6 : decode cX10_findSeers 6 = .ok (.iload_n 1, 1) := by decide +kernel
theorem dX10_findSeers_7 : decode cX10_findSeers 7 = .ok (.if_icmp .gt 122, 3) := by decide +kernel
theorem dX10_findSeers_10 : decode cX10_findSeers 10 = .ok (.iload_n 1, 1) := by decide +kernel
theorem dX10_findSeers_11 : decode cX10_findSeers 11 = .ok (.ineg, 1) := by decide +kernel
theorem dX10_findSeers_12 : decode cX10_findSeers 12 = .ok (.istore 4, 2) := by decide +kernel
theorem dX10_findSeers_14 : decode cX10_findSeers 14 = .ok (.iload 4, 2) := by decide +kernel
theorem dX10_findSeers_16 : decode cX10_findSeers 16 = .ok (.iload_n 1, 1) := by decide +kernel
theorem dX10_findSeers_17 : decode cX10_findSeers 17 = .ok (.if_icmp .gt 106, 3) := by decide +kernel
theorem dX10_findSeers_20 : decode cX10_findSeers 20 = .ok (.iload_n 3, 1) := by decide +kernel
theorem dX10_findSeers_21 : decode cX10_findSeers 21 = .ok (.invokestatic 145, 3) := by decide +kernel
theorem dX10_findSeers_24 : decode cX10_findSeers 24 = .ok (.iload_n 1, 1) := by decide +kernel
theorem dX10_findSeers_25 : decode cX10_findSeers 25 = .ok (.if_icmp .eq 12, 3) := by decide +kernel
theorem dX10_findSeers_28 : decode cX10_findSeers 28 = .ok (.iload 4, 2) := by decide +kernel
theorem dX10_findSeers_30 : decode cX10_findSeers 30 = .ok (.invokestatic 145, 3) := by decide +kernel
theorem dX10_findSeers_33 : decode cX10_findSeers 33 = .ok (.iload_n 1, 1) := by decide +kernel
theorem dX10_findSeers_34 : decode cX10_findSeers 34 = .ok (.if_icmp .ne 83, 3) := by decide +kernel
theorem dX10_findSeers_37 : decode cX10_findSeers 37 = .ok (.aload_n 0, 1) := by decide +kernel
theorem dX10_findSeers_38 : decode cX10_findSeers 38 = .ok (.getfield 88, 3) := by decide +kernel
theorem dX10_findSeers_41 : decode cX10_findSeers 41 = .ok (.iload_n 2, 1) := by decide +kernel
theorem dX10_findSeers_42 : decode cX10_findSeers 42 = .ok (.iconst 0, 1) := by decide +kernel
theorem dX10_findSeers_43 : decode cX10_findSeers 43 = .ok (.iastore, 1) := by decide +kernel
theorem dX10_findSeers_44 : decode cX10_findSeers 44 = .ok (.iconst 0, 1) := by decide +kernel
theorem dX10_findSeers_45 : decode cX10_findSeers 45 = .ok (.istore 5, 2) := by decide +kernel
theorem dX10_findSeers_47 : decode cX10_findSeers 47 = .ok (.iload 5, 2) := by decide +kernel
theorem dX10_findSeers_49 : decode cX10_findSeers 49 = .ok (.aload_n 0, 1) := by decide +kernel
theorem dX10_findSeers_50 : decode cX10_findSeers 50 = .ok (.getfield 275, 3) := by decide +kernel
theorem dX10_findSeers_53 : decode cX10_findSeers 53 = .ok (.if_icmp .ge 61, 3) := by decide +kernel
theorem dX10_findSeers_56 : decode cX10_findSeers 56 = .ok (.aload_n 0, 1) := by decide +kernel
theorem dX10_findSeers_57 : decode cX10_findSeers 57 = .ok (.getfield 88, 3) := by decide +kernel
theorem dX10_findSeers_60 : decode cX10_findSeers 60 = .ok (.iload_n 2, 1) := by decide +kernel
theorem dX10_findSeers_61 : decode cX10_findSeers 61 = .ok (.dup2, 1) := by decide +kernel
theorem dX10_findSeers_62 : decode cX10_findSeers 62 = .ok (.iaload, 1) := by decide +kernel
theorem dX10_findSeers_63 : decode cX10_findSeers 63 = .ok (.iload_n 3, 1) := by decide +kernel
theorem dX10_findSeers_64 : decode cX10_findSeers 64 = .ok (.aload_n 0, 1) := by decide +kernel
theorem dX10_findSeers_65 : decode cX10_findSeers 65 = .ok (.getfield 79, 3) := by decide +kernel
theorem dX10_findSeers_68 : decode cX10_findSeers 68 = .ok (.iload 5, 2) := by decide +kernel
theorem dX10_findSeers_70 : decode cX10_findSeers 70 = .ok (.iaload, 1) := by decide +kernel
theorem dX10_findSeers_71 : decode cX10_findSeers 71 = .ok (.isub, 1) := by decide +kernel
theorem dX10_findSeers_72 : decode cX10_findSeers 72 = .ok (.i2l, 1) := by decide +kernel
theorem dX10_findSeers_73 : decode cX10_findSeers 73 = .ok (.iload 4, 2) := by decide +kernel
theorem dX10_findSeers_75 : decode cX10_findSeers 75 = .ok (.aload_n 0, 1) := by decide +kernel
theorem dX10_findSeers_76 : decode cX10_findSeers 76 = .ok (.getfield 82, 3) := by decide +kernel
theorem dX10_findSeers_79 : decode cX10_findSeers 79 = .ok (.iload 5, 2) := by decide +kernel
theorem dX10_findSeers_81 : decode cX10_findSeers 81 = .ok (.iaload, 1) := by decide +kernel
theorem dX10_findSeers_82 : decode cX10_findSeers 82 = .ok (.isub, 1) := by decide +kernel
theorem dX10_findSeers_83 : decode cX10_findSeers 83 = .ok (.i2l, 1) := by decide +kernel
theorem dX10_findSeers_84 : decode cX10_findSeers 84 = .ok (.aload_n 0, 1) := by decide +kernel
theorem dX10_findSeers_85 : decode cX10_findSeers 85 = .ok (.getfield 85, 3) := by decide +kernel
theorem dX10_findSeers_88 : decode cX10_findSeers 88 = .ok (.iload 5, 2) := by decide +kernel
theorem dX10_findSeers_90 : decode cX10_findSeers 90 = .ok (.iaload, 1) := by decide +kernel
theorem dX10_findSeers_91 : decode cX10_findSeers 91 = .ok (.i2l, 1) := by decide +kernel
theorem dX10_findSeers_92 : decode cX10_findSeers 92 = .ok (.invokestatic 244, 3) := by decide +kernel
theorem dX10_findSeers_95 : decode cX10_findSeers 95 = .ok (.ifCond .eq 10, 3) := by decide +kernel
theorem dX10_findSeers_98 : decode cX10_findSeers 98 = .ok (.iconst 1, 1) := by decide +kernel
theorem dX10_findSeers_99 : decode cX10_findSeers 99 = .ok (.iload 5, 2) := by decide +kernel
theorem dX10_findSeers_101 : decode cX10_findSeers 101 = .ok (.ishl, 1) := by decide +kernel
theorem dX10_findSeers_102 : decode cX10_findSeers 102 = .ok (.goto 4, 3) := by decide +kernel
theorem dX10_findSeers_105 : decode cX10_findSeers 105 = .ok (.iconst 0, 1) := by decide +kernel
theorem dX10_findSeers_106 : decode cX10_findSeers 106 = .ok (.ior, 1) := by decide +kernel
theorem dX10_findSeers_107 : decode cX10_findSeers 107 = .ok (.iastore, 1) := by decide +kernel
theorem dX10_findSeers_108 : decode cX10_findSeers 108 = .ok (.iinc 5 1, 3) := by decide +kernel
theorem dX10_findSeers_111 : decode cX10_findSeers 111 = .ok (.goto (-64), 3) := by decide +kernel
theorem dX10_findSeers_114 : decode cX10_findSeers 114 = .ok (.iinc 2 1, 3) := by decide +kernel
theorem dX10_findSeers_117 : decode cX10_findSeers 117 = .ok (.iinc 4 1, 3) := by decide +kernel
theorem dX10_findSeers_120 : decode cX10_findSeers 120 = .ok (.goto (-106), 3) := by decide +kernel
theorem dX10_findSeers_123 : decode cX10_findSeers 123 = .ok (.iinc 3 1, 3) := by decide +kernel
theorem dX10_findSeers_126 : decode cX10_findSeers 126 = .ok (.goto (-121), 3) := by decide +kernel
theorem dX10_findSeers_129 : decode cX10_findSeers 129 = .ok (.return_, 1) := by decide +kernel
theorem dX10_seenBy_0 : decode cX10_seenBy 0 = .ok (.iconst 0, 1) := by decide +kernel
theorem dX10_seenBy_1 : decode cX10_seenBy 1 = .ok (.istore_n 3, 1) := by decide +kernel
theorem dX10_seenBy_2 : decode cX10_seenBy 2 = .ok (.iconst 0, 1) := by decide +kernel
theorem dX10_seenBy_3 : decode cX10_seenBy 3 = .ok (.istore 4, 2) := by decide +kernel
theorem dX10_seenBy_5 : decode cX10_seenBy 5 = .ok (.iload 4, 2) := by decide +kernel
theorem dX10_seenBy_7 : decode cX10_seenBy 7 = .ok (.bipush 8, 2) := by decide +kernel
theorem dX10_seenBy_9 : decode cX10_seenBy 9 = .ok (.iload_n 2, 1) := by decide +kernel
theorem dX10_seenBy_10 : decode cX10_seenBy 10 = .ok (.imul, 1) := by decide +kernel
theorem dX10_seenBy_11 : decode cX10_seenBy 11 = .ok (.if_icmp .ge 29, 3) := by decide +kernel
theorem dX10_seenBy_14 : decode cX10_seenBy 14 = .ok (.iload_n 3, 1) := by decide +kernel
theorem dX10_seenBy_15 : decode cX10_seenBy 15 = .ok (.aload_n 0, 1) := by decide +kernel
theorem dX10_seenBy_16 : decode cX10_seenBy 16 = .ok (.getfield 88, 3) := by decide +kernel
theorem dX10_seenBy_19 : decode cX10_seenBy 19 = .ok (.iload 4, 2) := by decide +kernel
theorem dX10_seenBy_21 : decode cX10_seenBy 21 = .ok (.iaload, 1) := by decide +kernel
theorem dX10_seenBy_22 : decode cX10_seenBy 22 = .ok (.iload_n 1, 1) := by decide +kernel
theorem dX10_seenBy_23 : decode cX10_seenBy 23 = .ok (.iand, 1) := by decide +kernel
theorem dX10_seenBy_24 : decode cX10_seenBy 24 = .ok (.ifCond .eq 7, 3) := by decide +kernel
theorem dX10_seenBy_27 : decode cX10_seenBy 27 = .ok (.iconst 1, 1) := by decide +kernel
theorem dX10_seenBy_28 : decode cX10_seenBy 28 = .ok (.goto 4, 3) := by decide +kernel
theorem dX10_seenBy_31 : decode cX10_seenBy 31 = .ok (.iconst 0, 1) := by decide +kernel
theorem dX10_seenBy_32 : decode cX10_seenBy 32 = .ok (.iadd, 1) := by decide +kernel
theorem dX10_seenBy_33 : decode cX10_seenBy 33 = .ok (.istore_n 3, 1) := by decide +kernel
theorem dX10_seenBy_34 : decode cX10_seenBy 34 = .ok (.iinc 4 1, 3) := by decide +kernel
theorem dX10_seenBy_37 : decode cX10_seenBy 37 = .ok (.goto (-32), 3) := by decide +kernel
theorem dX10_seenBy_40 : decode cX10_seenBy 40 = .ok (.iload_n 3, 1) := by decide +kernel
theorem dX10_seenBy_41 : decode cX10_seenBy 41 = .ok (.ireturn, 1) := by decide +kernel
theorem dX10_seen_0 : decode cX10_seen 0 = .ok (.iload_n 1, 1) := by decide +kernel
theorem dX10_seen_1 : decode cX10_seen 1 = .ok (.i2l, 1) := by decide +kernel
theorem dX10_seen_2 : decode cX10_seen 2 = .ok (.lconst 0, 1) := by decide +kernel
theorem dX10_seen_3 : decode cX10_seen 3 = .ok (.iconst 1, 1) := by decide +kernel
theorem dX10_seen_4 : decode cX10_seen 4 = .ok (.aload_n 0, 1) := by decide +kernel
theorem dX10_seen_5 : decode cX10_seen 5 = .ok (.getfield 275, 3) := by decide +kernel
theorem dX10_seen_8 : decode cX10_seen 8 = .ok (.ishl, 1) := by decide +kernel
theorem dX10_seen_9 : decode cX10_seen 9 = .ok (.iconst 1, 1) := by decide +kernel
theorem dX10_seen_10 : decode cX10_seen 10 = .ok (.isub, 1) := by decide +kernel
theorem dX10_seen_11 : decode cX10_seen 11 = .ok (.i2l, 1) := by decide +kernel
theorem dX10_seen_12 : decode cX10_seen 12 = .ok (.invokestatic 122, 3) := by decide +kernel
theorem dX10_seen_15 : decode cX10_seen 15 = .ok (.ifCond .eq 15, 3) := by decide +kernel
theorem dX10_seen_18 : decode cX10_seen 18 = .ok (.iload_n 2, 1) := by decide +kernel
theorem dX10_seen_19 : decode cX10_seen 19 = .ok (.i2l, 1) := by decide +kernel
theorem dX10_seen_20 : decode cX10_seen 20 = .ok (.lconst 1, 1) := by decide +kernel
theorem dX10_seen_21 : decode cX10_seen 21 = .ok (.ldc2_w 271, 3) := by decide +kernel
theorem dX10_seen_24 : decode cX10_seen 24 = .ok (.invokestatic 122, 3) := by decide +kernel
theorem dX10_seen_27 : decode cX10_seen 27 = .ok (.ifCond .ne 6, 3) := by decide +kernel
theorem dX10_seen_30 : decode cX10_seen 30 = .ok (.bipush (-2), 2) := by decide +kernel
theorem dX10_seen_32 : decode cX10_seen 32 = .ok (.ireturn, 1) := by decide +kernel
theorem dX10_seen_33 : decode cX10_seen 33 = .ok (.aload_n 0, 1) := by decide +kernel
theorem dX10_seen_34 : decode cX10_seen 34 = .ok (.iload_n 2, 1) := by decide +kernel
theorem dX10_seen_35 : decode cX10_seen 35 = .ok (.invokevirtual 278, 3) := by decide +kernel
theorem dX10_seen_38 : decode cX10_seen 38 = .ok (.aload_n 0, 1) := by decide +kernel
theorem dX10_seen_39 : decode cX10_seen 39 = .ok (.iload_n 1, 1) := by decide +kernel
theorem dX10_seen_40 : decode cX10_seen 40 = .ok (.iload_n 2, 1) := by decide +kernel
theorem dX10_seen_41 : decode cX10_seen 41 = .ok (.invokevirtual 281, 3) := by decide +kernel
theorem dX10_seen_44 : decode cX10_seen 44 = .ok (.ireturn, 1) := by decide +kernel
theorem dX10_ones_0 : decode cX10_ones 0 = .ok (.iconst 0, 1) := by decide +kernel
theorem dX10_ones_1 : decode cX10_ones 1 = .ok (.istore_n 1, 1) := by decide +kernel
theorem dX10_ones_2 : decode cX10_ones 2 = .ok (.iconst 0, 1) := by decide +kernel
theorem dX10_ones_3 : decode cX10_ones 3 = .ok (.istore_n 2, 1) := by decide +kernel
theorem dX10_ones_4 : decode cX10_ones 4 = .ok (.iload_n 2, 1) := by decide +kernel
theorem dX10_ones_5 : decode cX10_ones 5 = .ok (.bipush 10, 2) := by decide +kernel
theorem dX10_ones_7 : decode cX10_ones 7 = .ok (.if_icmp .ge 17, 3) := by decide +kernel
theorem dX10_ones_10 : decode cX10_ones 10 = .ok (.iload_n 1, 1) := by decide +kernel
theorem dX10_ones_11 : decode cX10_ones 11 = .ok (.iload_n 0, 1) := by decide +kernel
theorem dX10_ones_12 : decode cX10_ones 12 = .ok (.iload_n 2, 1) := by decide +kernel
theorem dX10_ones_13 : decode cX10_ones 13 = .ok (.ishr, 1) := by decide +kernel
theorem dX10_ones_14 : decode cX10_ones 14 = .ok (.iconst 1, 1) := by decide +kernel
theorem dX10_ones_15 : decode cX10_ones 15 = .ok (.iand, 1) := by decide +kernel
theorem dX10_ones_16 : decode cX10_ones 16 = .ok (.iadd, 1) := by decide +kernel
theorem dX10_ones_17 : decode cX10_ones 17 = .ok (.istore_n 1, 1) := by decide +kernel
theorem dX10_ones_18 : decode cX10_ones 18 = .ok (.iinc 2 1, 3) := by decide +kernel
theorem dX10_ones_21 : decode cX10_ones 21 = .ok (.goto (-17), 3) := by decide +kernel
theorem dX10_ones_24 : decode cX10_ones 24 = .ok (.iload_n 1, 1) := by decide +kernel
theorem dX10_ones_25 : decode cX10_ones 25 = .ok (.ireturn, 1) := by decide +kernel
theorem dX10_best_0 : decode cX10_best 0 = .ok (.iload_n 1, 1) := by decide +kernel
theorem dX10_best_1 : decode cX10_best 1 = .ok (.i2l, 1) := by decide +kernel
theorem dX10_best_2 : decode cX10_best 2 = .ok (.lconst 0, 1) := by decide +kernel
theorem dX10_best_3 : decode cX10_best 3 = .ok (.aload_n 0, 1) := by decide +kernel
theorem dX10_best_4 : decode cX10_best 4 = .ok (.getfield 275, 3) := by decide +kernel
theorem dX10_best_7 : decode cX10_best 7 = .ok (.i2l, 1) := by decide +kernel
theorem dX10_best_8 : decode cX10_best 8 = .ok (.invokestatic 122, 3) := by decide +kernel
theorem dX10_best_11 : decode cX10_best 11 = .ok (.ifCond .eq 15, 3) := by decide +kernel
theorem dX10_best_14 : decode cX10_best 14 = .ok (.iload_n 2, 1) := by decide +kernel
theorem dX10_best_15 : decode cX10_best 15 = .ok (.i2l, 1) := by decide +kernel
theorem dX10_best_16 : decode cX10_best 16 = .ok (.lconst 1, 1) := by decide +kernel
theorem dX10_best_17 : decode cX10_best 17 = .ok (.ldc2_w 271, 3) := by decide +kernel
theorem dX10_best_20 : decode cX10_best 20 = .ok (.invokestatic 122, 3) := by decide +kernel
theorem dX10_best_23 : decode cX10_best 23 = .ok (.ifCond .ne 6, 3) := by decide +kernel
theorem dX10_best_26 : decode cX10_best 26 = .ok (.bipush (-2), 2) := by decide +kernel
theorem dX10_best_28 : decode cX10_best 28 = .ok (.ireturn, 1) := by decide +kernel
theorem dX10_best_29 : decode cX10_best 29 = .ok (.aload_n 0, 1) := by decide +kernel
theorem dX10_best_30 : decode cX10_best 30 = .ok (.iload_n 2, 1) := by decide +kernel
theorem dX10_best_31 : decode cX10_best 31 = .ok (.invokevirtual 278, 3) := by decide +kernel
theorem dX10_best_34 : decode cX10_best 34 = .ok (.iconst 0, 1) := by decide +kernel
theorem dX10_best_35 : decode cX10_best 35 = .ok (.istore_n 3, 1) := by decide +kernel
theorem dX10_best_36 : decode cX10_best 36 = .ok (.iconst (-1), 1) := by decide +kernel
theorem dX10_best_37 : decode cX10_best 37 = .ok (.istore 4, 2) := by decide +kernel
theorem dX10_best_39 : decode cX10_best 39 = .ok (.iconst 0, 1) := by decide +kernel
theorem dX10_best_40 : decode cX10_best 40 = .ok (.istore 5, 2) := by decide +kernel
theorem dX10_best_42 : decode cX10_best 42 = .ok (.iload 5, 2) := by decide +kernel
theorem dX10_best_44 : decode cX10_best 44 = .ok (.iconst 1, 1) := by decide +kernel
theorem dX10_best_45 : decode cX10_best 45 = .ok (.aload_n 0, 1) := by decide +kernel
theorem dX10_best_46 : decode cX10_best 46 = .ok (.getfield 275, 3) := by decide +kernel
theorem dX10_best_49 : decode cX10_best 49 = .ok (.ishl, 1) := by decide +kernel
theorem dX10_best_50 : decode cX10_best 50 = .ok (.if_icmp .ge 42, 3) := by decide +kernel
theorem dX10_best_53 : decode cX10_best 53 = .ok (.iload 5, 2) := by decide +kernel
theorem dX10_best_55 : decode cX10_best 55 = .ok (.invokestatic 284, 3) := by decide +kernel
theorem dX10_best_58 : decode cX10_best 58 = .ok (.iload_n 1, 1) := by decide +kernel
theorem dX10_best_59 : decode cX10_best 59 = .ok (.if_icmp .ne 27, 3) := by decide +kernel
theorem dX10_best_62 : decode cX10_best 62 = .ok (.aload_n 0, 1) := by decide +kernel
theorem dX10_best_63 : decode cX10_best 63 = .ok (.iload 5, 2) := by decide +kernel
theorem dX10_best_65 : decode cX10_best 65 = .ok (.iload_n 2, 1) := by decide +kernel
theorem dX10_best_66 : decode cX10_best 66 = .ok (.invokevirtual 281, 3) := by decide +kernel
theorem dX10_best_69 : decode cX10_best 69 = .ok (.iload 4, 2) := by decide +kernel
theorem dX10_best_71 : decode cX10_best 71 = .ok (.if_icmp .le 15, 3) := by decide +kernel
theorem dX10_best_74 : decode cX10_best 74 = .ok (.aload_n 0, 1) := by decide +kernel
theorem dX10_best_75 : decode cX10_best 75 = .ok (.iload 5, 2) := by decide +kernel
theorem dX10_best_77 : decode cX10_best 77 = .ok (.iload_n 2, 1) := by decide +kernel
theorem dX10_best_78 : decode cX10_best 78 = .ok (.invokevirtual 281, 3) := by decide +kernel
theorem dX10_best_81 : decode cX10_best 81 = .ok (.istore 4, 2) := by decide +kernel
theorem dX10_best_83 : decode cX10_best 83 = .ok (.iload 5, 2) := by decide +kernel
theorem dX10_best_85 : decode cX10_best 85 = .ok (.istore_n 3, 1) := by decide +kernel
theorem dX10_best_86 : decode cX10_best 86 = .ok (.iinc 5 1, 3) := by decide +kernel
theorem dX10_best_89 : decode cX10_best 89 = .ok (.goto (-47), 3) := by decide +kernel
theorem dX10_best_92 : decode cX10_best 92 = .ok (.iload_n 3, 1) := by decide +kernel
theorem dX10_best_93 : decode cX10_best 93 = .ok (.ireturn, 1) := by decide +kernel
theorem dX10_danger_0 : decode cX10_danger 0 = .ok (.iload_n 1, 1) := by decide +kernel
theorem dX10_danger_1 : decode cX10_danger 1 = .ok (.i2l, 1) := by decide +kernel
theorem dX10_danger_2 : decode cX10_danger 2 = .ok (.lconst 0, 1) := by decide +kernel
theorem dX10_danger_3 : decode cX10_danger 3 = .ok (.ldc2_w 199, 3) := by decide +kernel
theorem dX10_danger_6 : decode cX10_danger 6 = .ok (.invokestatic 122, 3) := by decide +kernel
theorem dX10_danger_9 : decode cX10_danger 9 = .ok (.ifCond .eq 15, 3) := by decide +kernel
theorem dX10_danger_12 : decode cX10_danger 12 = .ok (.iload_n 2, 1) := by decide +kernel
theorem dX10_danger_13 : decode cX10_danger 13 = .ok (.i2l, 1) := by decide +kernel
theorem dX10_danger_14 : decode cX10_danger 14 = .ok (.lconst 0, 1) := by decide +kernel
theorem dX10_danger_15 : decode cX10_danger 15 = .ok (.ldc2_w 199, 3) := by decide +kernel
theorem dX10_danger_18 : decode cX10_danger 18 = .ok (.invokestatic 122, 3) := by decide +kernel
theorem dX10_danger_21 : decode cX10_danger 21 = .ok (.ifCond .ne 6, 3) := by decide +kernel
theorem dX10_danger_24 : decode cX10_danger 24 = .ok (.bipush (-101), 2) := by decide +kernel
theorem dX10_danger_26 : decode cX10_danger 26 = .ok (.ireturn, 1) := by decide +kernel
theorem dX10_danger_27 : decode cX10_danger 27 = .ok (.iload_n 3, 1) := by decide +kernel
theorem dX10_danger_28 : decode cX10_danger 28 = .ok (.i2l, 1) := by decide +kernel
theorem dX10_danger_29 : decode cX10_danger 29 = .ok (.ldc2_w 219, 3) := by decide +kernel
theorem dX10_danger_32 : decode cX10_danger 32 = .ok (.ldc2_w 287, 3) := by decide +kernel
theorem dX10_danger_35 : decode cX10_danger 35 = .ok (.invokestatic 122, 3) := by decide +kernel
theorem dX10_danger_38 : decode cX10_danger 38 = .ok (.ifCond .ne 6, 3) := by decide +kernel
theorem dX10_danger_41 : decode cX10_danger 41 = .ok (.bipush (-102), 2) := by decide +kernel
theorem dX10_danger_43 : decode cX10_danger 43 = .ok (.ireturn, 1) := by decide +kernel
theorem dX10_danger_44 : decode cX10_danger 44 = .ok (.aload_n 0, 1) := by decide +kernel
theorem dX10_danger_45 : decode cX10_danger 45 = .ok (.getfield 91, 3) := by decide +kernel
theorem dX10_danger_48 : decode cX10_danger 48 = .ok (.bipush 12, 2) := by decide +kernel
theorem dX10_danger_50 : decode cX10_danger 50 = .ok (.iload_n 2, 1) := by decide +kernel
theorem dX10_danger_51 : decode cX10_danger 51 = .ok (.imul, 1) := by decide +kernel
theorem dX10_danger_52 : decode cX10_danger 52 = .ok (.iload_n 1, 1) := by decide +kernel
theorem dX10_danger_53 : decode cX10_danger 53 = .ok (.iadd, 1) := by decide +kernel
theorem dX10_danger_54 : decode cX10_danger 54 = .ok (.iaload, 1) := by decide +kernel
theorem dX10_danger_55 : decode cX10_danger 55 = .ok (.istore 4, 2) := by decide +kernel
theorem dX10_danger_57 : decode cX10_danger 57 = .ok (.aload_n 0, 1) := by decide +kernel
theorem dX10_danger_58 : decode cX10_danger 58 = .ok (.getfield 91, 3) := by decide +kernel
theorem dX10_danger_61 : decode cX10_danger 61 = .ok (.bipush 12, 2) := by decide +kernel
theorem dX10_danger_63 : decode cX10_danger 63 = .ok (.iload_n 2, 1) := by decide +kernel
theorem dX10_danger_64 : decode cX10_danger 64 = .ok (.imul, 1) := by decide +kernel
theorem dX10_danger_65 : decode cX10_danger 65 = .ok (.iload_n 1, 1) := by decide +kernel
theorem dX10_danger_66 : decode cX10_danger 66 = .ok (.iadd, 1) := by decide +kernel
theorem dX10_danger_67 : decode cX10_danger 67 = .ok (.iload_n 3, 1) := by decide +kernel
theorem dX10_danger_68 : decode cX10_danger 68 = .ok (.iastore, 1) := by decide +kernel
theorem dX10_danger_69 : decode cX10_danger 69 = .ok (.iload 4, 2) := by decide +kernel
theorem dX10_danger_71 : decode cX10_danger 71 = .ok (.ireturn, 1) := by decide +kernel
theorem dX10_isCell_0 : decode cX10_isCell 0 = .ok (.iload_n 0, 1) := by decide +kernel
theorem dX10_isCell_1 : decode cX10_isCell 1 = .ok (.i2l, 1) := by decide +kernel
theorem dX10_isCell_2 : decode cX10_isCell 2 = .ok (.lconst 0, 1) := by decide +kernel
theorem dX10_isCell_3 : decode cX10_isCell 3 = .ok (.ldc2_w 289, 3) := by decide +kernel
theorem dX10_isCell_6 : decode cX10_isCell 6 = .ok (.invokestatic 122, 3) := by decide +kernel
theorem dX10_isCell_9 : decode cX10_isCell 9 = .ok (.ireturn, 1) := by decide +kernel
theorem dX10_areBeside_0 : decode cX10_areBeside 0 = .ok (.iload_n 0, 1) := by decide +kernel
theorem dX10_areBeside_1 : decode cX10_areBeside 1 = .ok (.bipush 12, 2) := by decide +kernel
theorem dX10_areBeside_3 : decode cX10_areBeside 3 = .ok (.irem, 1) := by decide +kernel
theorem dX10_areBeside_4 : decode cX10_areBeside 4 = .ok (.iload_n 1, 1) := by decide +kernel
theorem dX10_areBeside_5 : decode cX10_areBeside 5 = .ok (.bipush 12, 2) := by decide +kernel
theorem dX10_areBeside_7 : decode cX10_areBeside 7 = .ok (.irem, 1) := by decide +kernel
theorem dX10_areBeside_8 : decode cX10_areBeside 8 = .ok (.isub, 1) := by decide +kernel
theorem dX10_areBeside_9 : decode cX10_areBeside 9 = .ok (.invokestatic 145, 3) := by decide +kernel
theorem dX10_areBeside_12 : decode cX10_areBeside 12 = .ok (.iconst 2, 1) := by decide +kernel
theorem dX10_areBeside_13 : decode cX10_areBeside 13 = .ok (.if_icmp .ge 23, 3) := by decide +kernel
theorem dX10_areBeside_16 : decode cX10_areBeside 16 = .ok (.iload_n 0, 1) := by decide +kernel
theorem dX10_areBeside_17 : decode cX10_areBeside 17 = .ok (.bipush 12, 2) := by decide +kernel
theorem dX10_areBeside_19 : decode cX10_areBeside 19 = .ok (.idiv, 1) := by decide +kernel
theorem dX10_areBeside_20 : decode cX10_areBeside 20 = .ok (.iload_n 1, 1) := by decide +kernel
theorem dX10_areBeside_21 : decode cX10_areBeside 21 = .ok (.bipush 12, 2) := by decide +kernel
theorem dX10_areBeside_23 : decode cX10_areBeside 23 = .ok (.idiv, 1) := by decide +kernel
theorem dX10_areBeside_24 : decode cX10_areBeside 24 = .ok (.isub, 1) := by decide +kernel
theorem dX10_areBeside_25 : decode cX10_areBeside 25 = .ok (.invokestatic 145, 3) := by decide +kernel
theorem dX10_areBeside_28 : decode cX10_areBeside 28 = .ok (.iconst 2, 1) := by decide +kernel
theorem dX10_areBeside_29 : decode cX10_areBeside 29 = .ok (.if_icmp .ge 7, 3) := by decide +kernel
theorem dX10_areBeside_32 : decode cX10_areBeside 32 = .ok (.iconst 1, 1) := by decide +kernel
theorem dX10_areBeside_33 : decode cX10_areBeside 33 = .ok (.goto 4, 3) := by decide +kernel
theorem dX10_areBeside_36 : decode cX10_areBeside 36 = .ok (.iconst 0, 1) := by decide +kernel
theorem dX10_areBeside_37 : decode cX10_areBeside 37 = .ok (.ireturn, 1) := by decide +kernel
theorem dX10_cellOf_0 : decode cX10_cellOf 0 = .ok (.aload_n 0, 1) := by decide +kernel
theorem dX10_cellOf_1 : decode cX10_cellOf 1 = .ok (.getfield 94, 3) := by decide +kernel
theorem dX10_cellOf_4 : decode cX10_cellOf 4 = .ok (.bipush 41, 2) := by decide +kernel
theorem dX10_cellOf_6 : decode cX10_cellOf 6 = .ok (.iload_n 1, 1) := by decide +kernel
theorem dX10_cellOf_7 : decode cX10_cellOf 7 = .ok (.imul, 1) := by decide +kernel
theorem dX10_cellOf_8 : decode cX10_cellOf 8 = .ok (.iload_n 2, 1) := by decide +kernel
theorem dX10_cellOf_9 : decode cX10_cellOf 9 = .ok (.aload_n 0, 1) := by decide +kernel
theorem dX10_cellOf_10 : decode cX10_cellOf 10 = .ok (.getfield 97, 3) := by decide +kernel
theorem dX10_cellOf_13 : decode cX10_cellOf 13 = .ok (.iload_n 1, 1) := by decide +kernel
theorem dX10_cellOf_14 : decode cX10_cellOf 14 = .ok (.iaload, 1) := by decide +kernel
theorem dX10_cellOf_15 : decode cX10_cellOf 15 = .ok (.if_icmp .le 12, 3) := by decide +kernel
theorem dX10_cellOf_18 : decode cX10_cellOf 18 = .ok (.aload_n 0, 1) := by decide +kernel
theorem dX10_cellOf_19 : decode cX10_cellOf 19 = .ok (.getfield 97, 3) := by decide +kernel
theorem dX10_cellOf_22 : decode cX10_cellOf 22 = .ok (.iload_n 1, 1) := by decide +kernel
theorem dX10_cellOf_23 : decode cX10_cellOf 23 = .ok (.iaload, 1) := by decide +kernel
theorem dX10_cellOf_24 : decode cX10_cellOf 24 = .ok (.goto 4, 3) := by decide +kernel
theorem dX10_cellOf_27 : decode cX10_cellOf 27 = .ok (.iload_n 2, 1) := by decide +kernel
theorem dX10_cellOf_28 : decode cX10_cellOf 28 = .ok (.iadd, 1) := by decide +kernel
theorem dX10_cellOf_29 : decode cX10_cellOf 29 = .ok (.iaload, 1) := by decide +kernel
theorem dX10_cellOf_30 : decode cX10_cellOf 30 = .ok (.ireturn, 1) := by decide +kernel
theorem dX10_isNear_0 : decode cX10_isNear 0 = .ok (.iload_n 2, 1) := by decide +kernel
theorem dX10_isNear_1 : decode cX10_isNear 1 = .ok (.ifCond .ge 5, 3) := by decide +kernel
theorem dX10_isNear_4 : decode cX10_isNear 4 = .ok (.iconst 0, 1) := by decide +kernel
theorem dX10_isNear_5 : decode cX10_isNear 5 = .ok (.ireturn, 1) := by decide +kernel
theorem dX10_isNear_6 : decode cX10_isNear 6 = .ok (.aload_n 0, 1) := by decide +kernel
theorem dX10_isNear_7 : decode cX10_isNear 7 = .ok (.iconst 0, 1) := by decide +kernel
theorem dX10_isNear_8 : decode cX10_isNear 8 = .ok (.iload_n 2, 1) := by decide +kernel
theorem dX10_isNear_9 : decode cX10_isNear 9 = .ok (.invokevirtual 291, 3) := by decide +kernel
theorem dX10_isNear_12 : decode cX10_isNear 12 = .ok (.istore_n 3, 1) := by decide +kernel
theorem dX10_isNear_13 : decode cX10_isNear 13 = .ok (.iload_n 1, 1) := by decide +kernel
theorem dX10_isNear_14 : decode cX10_isNear 14 = .ok (.bipush 12, 2) := by decide +kernel
theorem dX10_isNear_16 : decode cX10_isNear 16 = .ok (.irem, 1) := by decide +kernel
theorem dX10_isNear_17 : decode cX10_isNear 17 = .ok (.iload_n 3, 1) := by decide +kernel
theorem dX10_isNear_18 : decode cX10_isNear 18 = .ok (.bipush 12, 2) := by decide +kernel
theorem dX10_isNear_20 : decode cX10_isNear 20 = .ok (.irem, 1) := by decide +kernel
theorem dX10_isNear_21 : decode cX10_isNear 21 = .ok (.isub, 1) := by decide +kernel
theorem dX10_isNear_22 : decode cX10_isNear 22 = .ok (.invokestatic 145, 3) := by decide +kernel
theorem dX10_isNear_25 : decode cX10_isNear 25 = .ok (.aload_n 0, 1) := by decide +kernel
theorem dX10_isNear_26 : decode cX10_isNear 26 = .ok (.getfield 104, 3) := by decide +kernel
theorem dX10_isNear_29 : decode cX10_isNear 29 = .ok (.if_icmp .gt 26, 3) := by decide +kernel
theorem dX10_isNear_32 : decode cX10_isNear 32 = .ok (.iload_n 1, 1) := by decide +kernel
theorem dX10_isNear_33 : decode cX10_isNear 33 = .ok (.bipush 12, 2) := by decide +kernel
theorem dX10_isNear_35 : decode cX10_isNear 35 = .ok (.idiv, 1) := by decide +kernel
theorem dX10_isNear_36 : decode cX10_isNear 36 = .ok (.iload_n 3, 1) := by decide +kernel
theorem dX10_isNear_37 : decode cX10_isNear 37 = .ok (.bipush 12, 2) := by decide +kernel
theorem dX10_isNear_39 : decode cX10_isNear 39 = .ok (.idiv, 1) := by decide +kernel
theorem dX10_isNear_40 : decode cX10_isNear 40 = .ok (.isub, 1) := by decide +kernel
theorem dX10_isNear_41 : decode cX10_isNear 41 = .ok (.invokestatic 145, 3) := by decide +kernel
theorem dX10_isNear_44 : decode cX10_isNear 44 = .ok (.aload_n 0, 1) := by decide +kernel
theorem dX10_isNear_45 : decode cX10_isNear 45 = .ok (.getfield 104, 3) := by decide +kernel
theorem dX10_isNear_48 : decode cX10_isNear 48 = .ok (.if_icmp .gt 7, 3) := by decide +kernel
theorem dX10_isNear_51 : decode cX10_isNear 51 = .ok (.iconst 1, 1) := by decide +kernel
theorem dX10_isNear_52 : decode cX10_isNear 52 = .ok (.goto 4, 3) := by decide +kernel
theorem dX10_isNear_55 : decode cX10_isNear 55 = .ok (.iconst 0, 1) := by decide +kernel
theorem dX10_isNear_56 : decode cX10_isNear 56 = .ok (.ireturn, 1) := by decide +kernel
theorem dX10_isFree_0 : decode cX10_isFree 0 = .ok (.aload_n 0, 1) := by decide +kernel
theorem dX10_isFree_1 : decode cX10_isFree 1 = .ok (.getfield 91, 3) := by decide +kernel
theorem dX10_isFree_4 : decode cX10_isFree 4 = .ok (.iload_n 1, 1) := by decide +kernel
theorem dX10_isFree_5 : decode cX10_isFree 5 = .ok (.iaload, 1) := by decide +kernel
theorem dX10_isFree_6 : decode cX10_isFree 6 = .ok (.ifCond .ge 5, 3) := by decide +kernel
theorem dX10_isFree_9 : decode cX10_isFree 9 = .ok (.iconst 0, 1) := by decide +kernel
theorem dX10_isFree_10 : decode cX10_isFree 10 = .ok (.ireturn, 1) := by decide +kernel
theorem dX10_isFree_11 : decode cX10_isFree 11 = .ok (.aload_n 0, 1) := by decide +kernel
theorem dX10_isFree_12 : decode cX10_isFree 12 = .ok (.getfield 104, 3) := by decide +kernel
theorem dX10_isFree_15 : decode cX10_isFree 15 = .ok (.ifCond .lt 34, 3) := by decide +kernel
theorem dX10_isFree_18 : decode cX10_isFree 18 = .ok (.aload_n 0, 1) := by decide +kernel
theorem dX10_isFree_19 : decode cX10_isFree 19 = .ok (.iload_n 1, 1) := by decide +kernel
theorem dX10_isFree_20 : decode cX10_isFree 20 = .ok (.iload_n 2, 1) := by decide +kernel
theorem dX10_isFree_21 : decode cX10_isFree 21 = .ok (.iconst 1, 1) := by decide +kernel
theorem dX10_isFree_22 : decode cX10_isFree 22 = .ok (.isub, 1) := by decide +kernel
theorem dX10_isFree_23 : decode cX10_isFree 23 = .ok (.invokevirtual 294, 3) := by decide +kernel
theorem dX10_isFree_26 : decode cX10_isFree 26 = .ok (.ifCond .ne 27, 3) := by decide +kernel
theorem dX10_isFree_29 : decode cX10_isFree 29 = .ok (.aload_n 0, 1) := by decide +kernel
theorem dX10_isFree_30 : decode cX10_isFree 30 = .ok (.iload_n 1, 1) := by decide +kernel
theorem dX10_isFree_31 : decode cX10_isFree 31 = .ok (.iload_n 2, 1) := by decide +kernel
theorem dX10_isFree_32 : decode cX10_isFree 32 = .ok (.invokevirtual 294, 3) := by decide +kernel
theorem dX10_isFree_35 : decode cX10_isFree 35 = .ok (.ifCond .ne 18, 3) := by decide +kernel
theorem dX10_isFree_38 : decode cX10_isFree 38 = .ok (.aload_n 0, 1) := by decide +kernel
theorem dX10_isFree_39 : decode cX10_isFree 39 = .ok (.iload_n 1, 1) := by decide +kernel
theorem dX10_isFree_40 : decode cX10_isFree 40 = .ok (.iload_n 2, 1) := by decide +kernel
theorem dX10_isFree_41 : decode cX10_isFree 41 = .ok (.iconst 1, 1) := by decide +kernel
theorem dX10_isFree_42 : decode cX10_isFree 42 = .ok (.iadd, 1) := by decide +kernel
theorem dX10_isFree_43 : decode cX10_isFree 43 = .ok (.invokevirtual 294, 3) := by decide +kernel
theorem dX10_isFree_46 : decode cX10_isFree 46 = .ok (.ifCond .ne 7, 3) := by decide +kernel
theorem dX10_isFree_49 : decode cX10_isFree 49 = .ok (.iconst 1, 1) := by decide +kernel
theorem dX10_isFree_50 : decode cX10_isFree 50 = .ok (.goto 4, 3) := by decide +kernel
theorem dX10_isFree_53 : decode cX10_isFree 53 = .ok (.iconst 0, 1) := by decide +kernel
theorem dX10_isFree_54 : decode cX10_isFree 54 = .ok (.ireturn, 1) := by decide +kernel
theorem dX10_canStay_0 : decode cX10_canStay 0 = .ok (.aload_n 0, 1) := by decide +kernel
theorem dX10_canStay_1 : decode cX10_canStay 1 = .ok (.iload_n 1, 1) := by decide +kernel
theorem dX10_canStay_2 : decode cX10_canStay 2 = .ok (.iload_n 2, 1) := by decide +kernel
theorem dX10_canStay_3 : decode cX10_canStay 3 = .ok (.invokevirtual 297, 3) := by decide +kernel
theorem dX10_canStay_6 : decode cX10_canStay 6 = .ok (.istore_n 3, 1) := by decide +kernel
theorem dX10_canStay_7 : decode cX10_canStay 7 = .ok (.iload_n 2, 1) := by decide +kernel
theorem dX10_canStay_8 : decode cX10_canStay 8 = .ok (.istore 4, 2) := by decide +kernel
theorem dX10_canStay_10 : decode cX10_canStay 10 = .ok (.iload 4, 2) := by decide +kernel
theorem dX10_canStay_12 : decode cX10_canStay 12 = .ok (.bipush 41, 2) := by decide +kernel
theorem dX10_canStay_14 : decode cX10_canStay 14 = .ok (.if_icmp .gt 21, 3) := by decide +kernel
theorem dX10_canStay_17 : decode cX10_canStay 17 = .ok (.iload_n 3, 1) := by decide +kernel
theorem dX10_canStay_18 : decode cX10_canStay 18 = .ok (.ifCond .eq 17, 3) := by decide +kernel
theorem dX10_canStay_21 : decode cX10_canStay 21 = .ok (.aload_n 0, 1) := by decide +kernel
theorem dX10_canStay_22 : decode cX10_canStay 22 = .ok (.iload_n 1, 1) := by decide +kernel
theorem dX10_canStay_23 : decode cX10_canStay 23 = .ok (.iload 4, 2) := by decide +kernel
theorem dX10_canStay_25 : decode cX10_canStay 25 = .ok (.invokevirtual 297, 3) := by decide +kernel
theorem dX10_canStay_28 : decode cX10_canStay 28 = .ok (.istore_n 3, 1) := by decide +kernel
theorem dX10_canStay_29 : decode cX10_canStay 29 = .ok (.iinc 4 1, 3) := by decide +kernel
theorem dX10_canStay_32 : decode cX10_canStay 32 = .ok (.goto (-22), 3) := by decide +kernel
theorem dX10_canStay_35 : decode cX10_canStay 35 = .ok (.iload_n 3, 1) := by decide +kernel
theorem dX10_canStay_36 : decode cX10_canStay 36 = .ok (.ireturn, 1) := by decide +kernel
theorem dX10_placeOf_0 : decode cX10_placeOf 0 = .ok (.sipush 144, 3) := by decide +kernel
theorem dX10_placeOf_3 : decode cX10_placeOf 3 = .ok (.bipush 41, 2) := by decide +kernel
theorem dX10_placeOf_5 : decode cX10_placeOf 5 = .ok (.iload_n 0, 1) := by decide +kernel
theorem dX10_placeOf_6 : decode cX10_placeOf 6 = .ok (.imul, 1) := by decide +kernel
theorem dX10_placeOf_7 : decode cX10_placeOf 7 = .ok (.iload_n 1, 1) := by decide +kernel
theorem dX10_placeOf_8 : decode cX10_placeOf 8 = .ok (.iadd, 1) := by decide +kernel
theorem dX10_placeOf_9 : decode cX10_placeOf 9 = .ok (.imul, 1) := by decide +kernel
theorem dX10_placeOf_10 : decode cX10_placeOf 10 = .ok (.iload_n 2, 1) := by decide +kernel
theorem dX10_placeOf_11 : decode cX10_placeOf 11 = .ok (.iadd, 1) := by decide +kernel
theorem dX10_placeOf_12 : decode cX10_placeOf 12 = .ok (.ireturn, 1) := by decide +kernel
theorem dX10_byMove_0 : decode cX10_byMove 0 = .ok (.iload_n 3, 1) := by decide +kernel
theorem dX10_byMove_1 : decode cX10_byMove 1 = .ok (.iload 4, 2) := by decide +kernel
theorem dX10_byMove_3 : decode cX10_byMove 3 = .ok (.if_icmp .eq 7, 3) := by decide +kernel
theorem dX10_byMove_6 : decode cX10_byMove 6 = .ok (.iconst 1, 1) := by decide +kernel
theorem dX10_byMove_7 : decode cX10_byMove 7 = .ok (.goto 4, 3) := by decide +kernel
theorem dX10_byMove_10 : decode cX10_byMove 10 = .ok (.iconst 0, 1) := by decide +kernel
theorem dX10_byMove_11 : decode cX10_byMove 11 = .ok (.istore 5, 2) := by decide +kernel
theorem dX10_byMove_13 : decode cX10_byMove 13 = .ok (.iload 5, 2) := by decide +kernel
theorem dX10_byMove_15 : decode cX10_byMove 15 = .ok (.ifCond .eq 7, 3) := by decide +kernel
theorem dX10_byMove_18 : decode cX10_byMove 18 = .ok (.iload_n 2, 1) := by decide +kernel
theorem dX10_byMove_19 : decode cX10_byMove 19 = .ok (.ifCond .eq 15, 3) := by decide +kernel
theorem dX10_byMove_22 : decode cX10_byMove 22 = .ok (.aload_n 0, 1) := by decide +kernel
theorem dX10_byMove_23 : decode cX10_byMove 23 = .ok (.iload 4, 2) := by decide +kernel
theorem dX10_byMove_25 : decode cX10_byMove 25 = .ok (.iload_n 1, 1) := by decide +kernel
theorem dX10_byMove_26 : decode cX10_byMove 26 = .ok (.iconst 1, 1) := by decide +kernel
theorem dX10_byMove_27 : decode cX10_byMove 27 = .ok (.iadd, 1) := by decide +kernel
theorem dX10_byMove_28 : decode cX10_byMove 28 = .ok (.invokevirtual 297, 3) := by decide +kernel
theorem dX10_byMove_31 : decode cX10_byMove 31 = .ok (.ifCond .ne 7, 3) := by decide +kernel
theorem dX10_byMove_34 : decode cX10_byMove 34 = .ok (.ldc_w 300, 3) := by decide +kernel
theorem dX10_byMove_37 : decode cX10_byMove 37 = .ok (.ireturn, 1) := by decide +kernel
theorem dX10_byMove_38 : decode cX10_byMove 38 = .ok (.aload_n 0, 1) := by decide +kernel
theorem dX10_byMove_39 : decode cX10_byMove 39 = .ok (.getfield 108, 3) := by decide +kernel
theorem dX10_byMove_42 : decode cX10_byMove 42 = .ok (.iload_n 1, 1) := by decide +kernel
theorem dX10_byMove_43 : decode cX10_byMove 43 = .ok (.iconst 1, 1) := by decide +kernel
theorem dX10_byMove_44 : decode cX10_byMove 44 = .ok (.iadd, 1) := by decide +kernel
theorem dX10_byMove_45 : decode cX10_byMove 45 = .ok (.iload 5, 2) := by decide +kernel
theorem dX10_byMove_47 : decode cX10_byMove 47 = .ok (.ifCond .eq 9, 3) := by decide +kernel
theorem dX10_byMove_50 : decode cX10_byMove 50 = .ok (.iload_n 2, 1) := by decide +kernel
theorem dX10_byMove_51 : decode cX10_byMove 51 = .ok (.iconst 1, 1) := by decide +kernel
theorem dX10_byMove_52 : decode cX10_byMove 52 = .ok (.isub, 1) := by decide +kernel
theorem dX10_byMove_53 : decode cX10_byMove 53 = .ok (.goto 4, 3) := by decide +kernel
theorem dX10_byMove_56 : decode cX10_byMove 56 = .ok (.iload_n 2, 1) := by decide +kernel
theorem dX10_byMove_57 : decode cX10_byMove 57 = .ok (.iload 4, 2) := by decide +kernel
theorem dX10_byMove_59 : decode cX10_byMove 59 = .ok (.invokestatic 301, 3) := by decide +kernel
theorem dX10_byMove_62 : decode cX10_byMove 62 = .ok (.iaload, 1) := by decide +kernel
theorem dX10_byMove_63 : decode cX10_byMove 63 = .ok (.istore 6, 2) := by decide +kernel
theorem dX10_byMove_65 : decode cX10_byMove 65 = .ok (.iload 6, 2) := by decide +kernel
theorem dX10_byMove_67 : decode cX10_byMove 67 = .ok (.ldc_w 300, 3) := by decide +kernel
theorem dX10_byMove_70 : decode cX10_byMove 70 = .ok (.if_icmp .ne 9, 3) := by decide +kernel
theorem dX10_byMove_73 : decode cX10_byMove 73 = .ok (.ldc_w 300, 3) := by decide +kernel
theorem dX10_byMove_76 : decode cX10_byMove 76 = .ok (.goto 31, 3) := by decide +kernel
theorem dX10_byMove_79 : decode cX10_byMove 79 = .ok (.iload 6, 2) := by decide +kernel
theorem dX10_byMove_81 : decode cX10_byMove 81 = .ok (.sipush 10000, 3) := by decide +kernel
theorem dX10_byMove_84 : decode cX10_byMove 84 = .ok (.aload_n 0, 1) := by decide +kernel
theorem dX10_byMove_85 : decode cX10_byMove 85 = .ok (.getfield 91, 3) := by decide +kernel
theorem dX10_byMove_88 : decode cX10_byMove 88 = .ok (.iload 4, 2) := by decide +kernel
theorem dX10_byMove_90 : decode cX10_byMove 90 = .ok (.iaload, 1) := by decide +kernel
theorem dX10_byMove_91 : decode cX10_byMove 91 = .ok (.imul, 1) := by decide +kernel
theorem dX10_byMove_92 : decode cX10_byMove 92 = .ok (.iadd, 1) := by decide +kernel
theorem dX10_byMove_93 : decode cX10_byMove 93 = .ok (.bipush 100, 2) := by decide +kernel
theorem dX10_byMove_95 : decode cX10_byMove 95 = .ok (.iadd, 1) := by decide +kernel
theorem dX10_byMove_96 : decode cX10_byMove 96 = .ok (.iload 5, 2) := by decide +kernel
theorem dX10_byMove_98 : decode cX10_byMove 98 = .ok (.ifCond .eq 7, 3) := by decide +kernel
theorem dX10_byMove_101 : decode cX10_byMove 101 = .ok (.iconst 1, 1) := by decide +kernel
theorem dX10_byMove_102 : decode cX10_byMove 102 = .ok (.goto 4, 3) := by decide +kernel
theorem dX10_byMove_105 : decode cX10_byMove 105 = .ok (.iconst 0, 1) := by decide +kernel
theorem dX10_byMove_106 : decode cX10_byMove 106 = .ok (.iadd, 1) := by decide +kernel
theorem dX10_byMove_107 : decode cX10_byMove 107 = .ok (.ireturn, 1) := by decide +kernel
theorem dX10_findCosts_0 : decode cX10_findCosts 0 = .ok (.iload_n 2, 1) := by decide +kernel
theorem dX10_findCosts_1 : decode cX10_findCosts 1 = .ok (.istore 4, 2) := by decide +kernel
theorem dX10_findCosts_3 : decode cX10_findCosts 3 = .ok (.iload 4, 2) := by decide +kernel
theorem dX10_findCosts_5 : decode cX10_findCosts 5 = .ok (.ifCond .lt 98, 3) := by decide +kernel
theorem dX10_findCosts_8 : decode cX10_findCosts 8 = .ok (.iconst 0, 1) := by decide +kernel
theorem dX10_findCosts_9 : decode cX10_findCosts 9 = .ok (.istore 5, 2) := by decide +kernel
theorem dX10_findCosts_11 : decode cX10_findCosts 11 = .ok (.iload 5, 2) := by decide +kernel
theorem dX10_findCosts_13 : decode cX10_findCosts 13 = .ok (.iload_n 3, 1) := by decide +kernel
theorem dX10_findCosts_14 : decode cX10_findCosts 14 = .ok (.if_icmp .gt 83, 3) := by decide +kernel
theorem dX10_findCosts_17 : decode cX10_findCosts 17 = .ok (.iconst 0, 1) := by decide +kernel
theorem dX10_findCosts_18 : decode cX10_findCosts 18 = .ok (.istore 6, 2) := by decide +kernel
theorem dX10_findCosts_20 : decode cX10_findCosts 20 = .ok (.iload 6, 2) := by decide +kernel
theorem dX10_findCosts_22 : decode cX10_findCosts 22 = .ok (.sipush 144, 3) := by decide +kernel
theorem dX10_findCosts_25 : decode cX10_findCosts 25 = .ok (.if_icmp .ge 66, 3) := by decide +kernel
theorem dX10_findCosts_28 : decode cX10_findCosts 28 = .ok (.aload_n 0, 1) := by decide +kernel
theorem dX10_findCosts_29 : decode cX10_findCosts 29 = .ok (.getfield 108, 3) := by decide +kernel
theorem dX10_findCosts_32 : decode cX10_findCosts 32 = .ok (.iload 4, 2) := by decide +kernel
theorem dX10_findCosts_34 : decode cX10_findCosts 34 = .ok (.iload 5, 2) := by decide +kernel
theorem dX10_findCosts_36 : decode cX10_findCosts 36 = .ok (.iload 6, 2) := by decide +kernel
theorem dX10_findCosts_38 : decode cX10_findCosts 38 = .ok (.invokestatic 301, 3) := by decide +kernel
theorem dX10_findCosts_41 : decode cX10_findCosts 41 = .ok (.iload 6, 2) := by decide +kernel
theorem dX10_findCosts_43 : decode cX10_findCosts 43 = .ok (.iload_n 1, 1) := by decide +kernel
theorem dX10_findCosts_44 : decode cX10_findCosts 44 = .ok (.if_icmp .ne 18, 3) := by decide +kernel
theorem dX10_findCosts_47 : decode cX10_findCosts 47 = .ok (.aload_n 0, 1) := by decide +kernel
theorem dX10_findCosts_48 : decode cX10_findCosts 48 = .ok (.iload 6, 2) := by decide +kernel
theorem dX10_findCosts_50 : decode cX10_findCosts 50 = .ok (.iload 4, 2) := by decide +kernel
theorem dX10_findCosts_52 : decode cX10_findCosts 52 = .ok (.invokevirtual 305, 3) := by decide +kernel
theorem dX10_findCosts_55 : decode cX10_findCosts 55 = .ok (.ifCond .eq 7, 3) := by decide +kernel
theorem dX10_findCosts_58 : decode cX10_findCosts 58 = .ok (.iconst 0, 1) := by decide +kernel
theorem dX10_findCosts_59 : decode cX10_findCosts 59 = .ok (.goto 25, 3) := by decide +kernel
theorem dX10_findCosts_62 : decode cX10_findCosts 62 = .ok (.iload 4, 2) := by decide +kernel
theorem dX10_findCosts_64 : decode cX10_findCosts 64 = .ok (.iload_n 2, 1) := by decide +kernel
theorem dX10_findCosts_65 : decode cX10_findCosts 65 = .ok (.if_icmp .ne 9, 3) := by decide +kernel
theorem dX10_findCosts_68 : decode cX10_findCosts 68 = .ok (.ldc_w 300, 3) := by decide +kernel
theorem dX10_findCosts_71 : decode cX10_findCosts 71 = .ok (.goto 13, 3) := by decide +kernel
theorem dX10_findCosts_74 : decode cX10_findCosts 74 = .ok (.aload_n 0, 1) := by decide +kernel
theorem dX10_findCosts_75 : decode cX10_findCosts 75 = .ok (.iload 4, 2) := by decide +kernel
theorem dX10_findCosts_77 : decode cX10_findCosts 77 = .ok (.iload 5, 2) := by decide +kernel
theorem dX10_findCosts_79 : decode cX10_findCosts 79 = .ok (.iload 6, 2) := by decide +kernel
theorem dX10_findCosts_81 : decode cX10_findCosts 81 = .ok (.invokevirtual 308, 3) := by decide +kernel
theorem dX10_findCosts_84 : decode cX10_findCosts 84 = .ok (.iastore, 1) := by decide +kernel
theorem dX10_findCosts_85 : decode cX10_findCosts 85 = .ok (.iinc 6 1, 3) := by decide +kernel
theorem dX10_findCosts_88 : decode cX10_findCosts 88 = .ok (.goto (-68), 3) := by decide +kernel
theorem dX10_findCosts_91 : decode cX10_findCosts 91 = .ok (.iinc 5 1, 3) := by decide +kernel
theorem dX10_findCosts_94 : decode cX10_findCosts 94 = .ok (.goto (-83), 3) := by decide +kernel
theorem dX10_findCosts_97 : decode cX10_findCosts 97 = .ok (.iinc 4 (-1), 3) := by decide +kernel
theorem dX10_findCosts_100 : decode cX10_findCosts 100 = .ok (.goto (-97), 3) := by decide +kernel
theorem dX10_findCosts_103 : decode cX10_findCosts 103 = .ok (.return_, 1) := by decide +kernel
theorem dX10_cheapest_0 : decode cX10_cheapest 0 = .ok (.aload_n 0, 1) := by decide +kernel
theorem dX10_cheapest_1 : decode cX10_cheapest 1 = .ok (.iload_n 1, 1) := by decide +kernel
theorem dX10_cheapest_2 : decode cX10_cheapest 2 = .ok (.iload_n 2, 1) := by decide +kernel
theorem dX10_cheapest_3 : decode cX10_cheapest 3 = .ok (.iload_n 3, 1) := by decide +kernel
theorem dX10_cheapest_4 : decode cX10_cheapest 4 = .ok (.iload_n 3, 1) := by decide +kernel
theorem dX10_cheapest_5 : decode cX10_cheapest 5 = .ok (.invokevirtual 311, 3) := by decide +kernel
theorem dX10_cheapest_8 : decode cX10_cheapest 8 = .ok (.istore 4, 2) := by decide +kernel
theorem dX10_cheapest_10 : decode cX10_cheapest 10 = .ok (.iconst (-1), 1) := by decide +kernel
theorem dX10_cheapest_11 : decode cX10_cheapest 11 = .ok (.istore 5, 2) := by decide +kernel
theorem dX10_cheapest_13 : decode cX10_cheapest 13 = .ok (.iload 5, 2) := by decide +kernel
theorem dX10_cheapest_15 : decode cX10_cheapest 15 = .ok (.iconst 2, 1) := by decide +kernel
theorem dX10_cheapest_16 : decode cX10_cheapest 16 = .ok (.if_icmp .ge 111, 3) := by decide +kernel
theorem dX10_cheapest_19 : decode cX10_cheapest 19 = .ok (.iconst (-1), 1) := by decide +kernel
theorem dX10_cheapest_20 : decode cX10_cheapest 20 = .ok (.istore 6, 2) := by decide +kernel
theorem dX10_cheapest_22 : decode cX10_cheapest 22 = .ok (.iload 6, 2) := by decide +kernel
theorem dX10_cheapest_24 : decode cX10_cheapest 24 = .ok (.iconst 2, 1) := by decide +kernel
theorem dX10_cheapest_25 : decode cX10_cheapest 25 = .ok (.if_icmp .ge 96, 3) := by decide +kernel
theorem dX10_cheapest_28 : decode cX10_cheapest 28 = .ok (.iload_n 3, 1) := by decide +kernel
theorem dX10_cheapest_29 : decode cX10_cheapest 29 = .ok (.bipush 12, 2) := by decide +kernel
theorem dX10_cheapest_31 : decode cX10_cheapest 31 = .ok (.irem, 1) := by decide +kernel
theorem dX10_cheapest_32 : decode cX10_cheapest 32 = .ok (.iload 6, 2) := by decide +kernel
theorem dX10_cheapest_34 : decode cX10_cheapest 34 = .ok (.iadd, 1) := by decide +kernel
theorem dX10_cheapest_35 : decode cX10_cheapest 35 = .ok (.istore 7, 2) := by decide +kernel
theorem dX10_cheapest_37 : decode cX10_cheapest 37 = .ok (.iload_n 3, 1) := by decide +kernel
theorem dX10_cheapest_38 : decode cX10_cheapest 38 = .ok (.bipush 12, 2) := by decide +kernel
theorem dX10_cheapest_40 : decode cX10_cheapest 40 = .ok (.idiv, 1) := by decide +kernel
theorem dX10_cheapest_41 : decode cX10_cheapest 41 = .ok (.iload 5, 2) := by decide +kernel
theorem dX10_cheapest_43 : decode cX10_cheapest 43 = .ok (.iadd, 1) := by decide +kernel
theorem dX10_cheapest_44 : decode cX10_cheapest 44 = .ok (.istore 8, 2) := by decide +kernel
theorem dX10_cheapest_46 : decode cX10_cheapest 46 = .ok (.iload 6, 2) := by decide +kernel
theorem dX10_cheapest_48 : decode cX10_cheapest 48 = .ok (.ifCond .ne 8, 3) := by decide +kernel
theorem dX10_cheapest_51 : decode cX10_cheapest 51 = .ok (.iload 5, 2) := by decide +kernel
theorem dX10_cheapest_53 : decode cX10_cheapest 53 = .ok (.ifCond .eq 62, 3) := by decide +kernel
theorem dX10_cheapest_56 : decode cX10_cheapest 56 = .ok (.iload 7, 2) := by decide +kernel
theorem dX10_cheapest_58 : decode cX10_cheapest 58 = .ok (.i2l, 1) := by decide +kernel
theorem dX10_cheapest_59 : decode cX10_cheapest 59 = .ok (.lconst 0, 1) := by decide +kernel
theorem dX10_cheapest_60 : decode cX10_cheapest 60 = .ok (.ldc2_w 199, 3) := by decide +kernel
theorem dX10_cheapest_63 : decode cX10_cheapest 63 = .ok (.invokestatic 122, 3) := by decide +kernel
theorem dX10_cheapest_66 : decode cX10_cheapest 66 = .ok (.ifCond .eq 49, 3) := by decide +kernel
theorem dX10_cheapest_69 : decode cX10_cheapest 69 = .ok (.iload 8, 2) := by decide +kernel
theorem dX10_cheapest_71 : decode cX10_cheapest 71 = .ok (.i2l, 1) := by decide +kernel
theorem dX10_cheapest_72 : decode cX10_cheapest 72 = .ok (.lconst 0, 1) := by decide +kernel
theorem dX10_cheapest_73 : decode cX10_cheapest 73 = .ok (.ldc2_w 199, 3) := by decide +kernel
theorem dX10_cheapest_76 : decode cX10_cheapest 76 = .ok (.invokestatic 122, 3) := by decide +kernel
theorem dX10_cheapest_79 : decode cX10_cheapest 79 = .ok (.ifCond .eq 36, 3) := by decide +kernel
theorem dX10_cheapest_82 : decode cX10_cheapest 82 = .ok (.aload_n 0, 1) := by decide +kernel
theorem dX10_cheapest_83 : decode cX10_cheapest 83 = .ok (.iload_n 1, 1) := by decide +kernel
theorem dX10_cheapest_84 : decode cX10_cheapest 84 = .ok (.iload_n 2, 1) := by decide +kernel
theorem dX10_cheapest_85 : decode cX10_cheapest 85 = .ok (.iload_n 3, 1) := by decide +kernel
theorem dX10_cheapest_86 : decode cX10_cheapest 86 = .ok (.bipush 12, 2) := by decide +kernel
theorem dX10_cheapest_88 : decode cX10_cheapest 88 = .ok (.iload 8, 2) := by decide +kernel
theorem dX10_cheapest_90 : decode cX10_cheapest 90 = .ok (.imul, 1) := by decide +kernel
theorem dX10_cheapest_91 : decode cX10_cheapest 91 = .ok (.iload 7, 2) := by decide +kernel
theorem dX10_cheapest_93 : decode cX10_cheapest 93 = .ok (.iadd, 1) := by decide +kernel
theorem dX10_cheapest_94 : decode cX10_cheapest 94 = .ok (.invokevirtual 311, 3) := by decide +kernel
theorem dX10_cheapest_97 : decode cX10_cheapest 97 = .ok (.istore 9, 2) := by decide +kernel
theorem dX10_cheapest_99 : decode cX10_cheapest 99 = .ok (.iload 9, 2) := by decide +kernel
theorem dX10_cheapest_101 : decode cX10_cheapest 101 = .ok (.iload 4, 2) := by decide +kernel
theorem dX10_cheapest_103 : decode cX10_cheapest 103 = .ok (.if_icmp .ge 8, 3) := by decide +kernel
theorem dX10_cheapest_106 : decode cX10_cheapest 106 = .ok (.iload 9, 2) := by decide +kernel
theorem dX10_cheapest_108 : decode cX10_cheapest 108 = .ok (.goto 5, 3) := by decide +kernel
theorem dX10_cheapest_111 : decode cX10_cheapest 111 = .ok (.iload 4, 2) := by decide +kernel
theorem dX10_cheapest_113 : decode cX10_cheapest 113 = .ok (.istore 4, 2) := by decide +kernel
theorem dX10_cheapest_115 : decode cX10_cheapest 115 = .ok (.iinc 6 1, 3) := by decide +kernel
theorem dX10_cheapest_118 : decode cX10_cheapest 118 = .ok (.goto (-96), 3) := by decide +kernel
theorem dX10_cheapest_121 : decode cX10_cheapest 121 = .ok (.iinc 5 1, 3) := by decide +kernel
theorem dX10_cheapest_124 : decode cX10_cheapest 124 = .ok (.goto (-111), 3) := by decide +kernel
theorem dX10_cheapest_127 : decode cX10_cheapest 127 = .ok (.iload 4, 2) := by decide +kernel
theorem dX10_cheapest_129 : decode cX10_cheapest 129 = .ok (.ireturn, 1) := by decide +kernel
theorem dX10_firstMove_0 : decode cX10_firstMove 0 = .ok (.aload_n 0, 1) := by decide +kernel
theorem dX10_firstMove_1 : decode cX10_firstMove 1 = .ok (.getfield 108, 3) := by decide +kernel
theorem dX10_firstMove_4 : decode cX10_firstMove 4 = .ok (.iload_n 1, 1) := by decide +kernel
theorem dX10_firstMove_5 : decode cX10_firstMove 5 = .ok (.iload_n 2, 1) := by decide +kernel
theorem dX10_firstMove_6 : decode cX10_firstMove 6 = .ok (.iload_n 3, 1) := by decide +kernel
theorem dX10_firstMove_7 : decode cX10_firstMove 7 = .ok (.invokestatic 301, 3) := by decide +kernel
theorem dX10_firstMove_10 : decode cX10_firstMove 10 = .ok (.iaload, 1) := by decide +kernel
theorem dX10_firstMove_11 : decode cX10_firstMove 11 = .ok (.istore 4, 2) := by decide +kernel
theorem dX10_firstMove_13 : decode cX10_firstMove 13 = .ok (.aload_n 0, 1) := by decide +kernel
theorem dX10_firstMove_14 : decode cX10_firstMove 14 = .ok (.iload_n 1, 1) := by decide +kernel
theorem dX10_firstMove_15 : decode cX10_firstMove 15 = .ok (.iload_n 2, 1) := by decide +kernel
theorem dX10_firstMove_16 : decode cX10_firstMove 16 = .ok (.iload_n 3, 1) := by decide +kernel
theorem dX10_firstMove_17 : decode cX10_firstMove 17 = .ok (.iload_n 3, 1) := by decide +kernel
theorem dX10_firstMove_18 : decode cX10_firstMove 18 = .ok (.invokevirtual 311, 3) := by decide +kernel
theorem dX10_firstMove_21 : decode cX10_firstMove 21 = .ok (.iload 4, 2) := by decide +kernel
theorem dX10_firstMove_23 : decode cX10_firstMove 23 = .ok (.if_icmp .ne 5, 3) := by decide +kernel
theorem dX10_firstMove_26 : decode cX10_firstMove 26 = .ok (.iload_n 3, 1) := by decide +kernel
theorem dX10_firstMove_27 : decode cX10_firstMove 27 = .ok (.ireturn, 1) := by decide +kernel
theorem dX10_firstMove_28 : decode cX10_firstMove 28 = .ok (.iconst 0, 1) := by decide +kernel
theorem dX10_firstMove_29 : decode cX10_firstMove 29 = .ok (.istore 5, 2) := by decide +kernel
theorem dX10_firstMove_31 : decode cX10_firstMove 31 = .ok (.iload 5, 2) := by decide +kernel
theorem dX10_firstMove_33 : decode cX10_firstMove 33 = .ok (.sipush 144, 3) := by decide +kernel
theorem dX10_firstMove_36 : decode cX10_firstMove 36 = .ok (.if_icmp .ge 41, 3) := by decide +kernel
theorem dX10_firstMove_39 : decode cX10_firstMove 39 = .ok (.iload 5, 2) := by decide +kernel
theorem dX10_firstMove_41 : decode cX10_firstMove 41 = .ok (.iload_n 3, 1) := by decide +kernel
theorem dX10_firstMove_42 : decode cX10_firstMove 42 = .ok (.if_icmp .eq 29, 3) := by decide +kernel
theorem dX10_firstMove_45 : decode cX10_firstMove 45 = .ok (.iload_n 3, 1) := by decide +kernel
theorem dX10_firstMove_46 : decode cX10_firstMove 46 = .ok (.iload 5, 2) := by decide +kernel
theorem dX10_firstMove_48 : decode cX10_firstMove 48 = .ok (.invokestatic 315, 3) := by decide +kernel
theorem dX10_firstMove_51 : decode cX10_firstMove 51 = .ok (.ifCond .eq 20, 3) := by decide +kernel
theorem dX10_firstMove_54 : decode cX10_firstMove 54 = .ok (.aload_n 0, 1) := by decide +kernel
theorem dX10_firstMove_55 : decode cX10_firstMove 55 = .ok (.iload_n 1, 1) := by decide +kernel
theorem dX10_firstMove_56 : decode cX10_firstMove 56 = .ok (.iload_n 2, 1) := by decide +kernel
theorem dX10_firstMove_57 : decode cX10_firstMove 57 = .ok (.iload_n 3, 1) := by decide +kernel
theorem dX10_firstMove_58 : decode cX10_firstMove 58 = .ok (.iload 5, 2) := by decide +kernel
theorem dX10_firstMove_60 : decode cX10_firstMove 60 = .ok (.invokevirtual 311, 3) := by decide +kernel
theorem dX10_firstMove_63 : decode cX10_firstMove 63 = .ok (.iload 4, 2) := by decide +kernel
theorem dX10_firstMove_65 : decode cX10_firstMove 65 = .ok (.if_icmp .ne 6, 3) := by decide +kernel
theorem dX10_firstMove_68 : decode cX10_firstMove 68 = .ok (.iload 5, 2) := by decide +kernel
theorem dX10_firstMove_70 : decode cX10_firstMove 70 = .ok (.ireturn, 1) := by decide +kernel
theorem dX10_firstMove_71 : decode cX10_firstMove 71 = .ok (.iinc 5 1, 3) := by decide +kernel
theorem dX10_firstMove_74 : decode cX10_firstMove 74 = .ok (.goto (-43), 3) := by decide +kernel
theorem dX10_firstMove_77 : decode cX10_firstMove 77 = .ok (.iload_n 3, 1) := by decide +kernel
theorem dX10_firstMove_78 : decode cX10_firstMove 78 = .ok (.ireturn, 1) := by decide +kernel
theorem dX10_find_0 : decode cX10_find 0 = .ok (.aload_n 0, 1) := by decide +kernel
theorem dX10_find_1 : decode cX10_find 1 = .ok (.iload_n 2, 1) := by decide +kernel
theorem dX10_find_2 : decode cX10_find 2 = .ok (.iconst 0, 1) := by decide +kernel
theorem dX10_find_3 : decode cX10_find 3 = .ok (.invokevirtual 297, 3) := by decide +kernel
theorem dX10_find_6 : decode cX10_find 6 = .ok (.ifCond .ne 7, 3) := by decide +kernel
theorem dX10_find_9 : decode cX10_find 9 = .ok (.ldc_w 300, 3) := by decide +kernel
theorem dX10_find_12 : decode cX10_find 12 = .ok (.ireturn, 1) := by decide +kernel
theorem dX10_find_13 : decode cX10_find 13 = .ok (.aload_n 0, 1) := by decide +kernel
theorem dX10_find_14 : decode cX10_find 14 = .ok (.iload_n 3, 1) := by decide +kernel
theorem dX10_find_15 : decode cX10_find 15 = .ok (.iload 4, 2) := by decide +kernel
theorem dX10_find_17 : decode cX10_find 17 = .ok (.iload 5, 2) := by decide +kernel
theorem dX10_find_19 : decode cX10_find 19 = .ok (.invokevirtual 318, 3) := by decide +kernel
theorem dX10_find_22 : decode cX10_find 22 = .ok (.aload_n 0, 1) := by decide +kernel
theorem dX10_find_23 : decode cX10_find 23 = .ok (.getfield 108, 3) := by decide +kernel
theorem dX10_find_26 : decode cX10_find 26 = .ok (.iconst 0, 1) := by decide +kernel
theorem dX10_find_27 : decode cX10_find 27 = .ok (.iload 5, 2) := by decide +kernel
theorem dX10_find_29 : decode cX10_find 29 = .ok (.iload_n 2, 1) := by decide +kernel
theorem dX10_find_30 : decode cX10_find 30 = .ok (.invokestatic 301, 3) := by decide +kernel
theorem dX10_find_33 : decode cX10_find 33 = .ok (.iaload, 1) := by decide +kernel
theorem dX10_find_34 : decode cX10_find 34 = .ok (.istore 7, 2) := by decide +kernel
theorem dX10_find_36 : decode cX10_find 36 = .ok (.iload 7, 2) := by decide +kernel
theorem dX10_find_38 : decode cX10_find 38 = .ok (.ldc_w 300, 3) := by decide +kernel
theorem dX10_find_41 : decode cX10_find 41 = .ok (.if_icmp .ne 7, 3) := by decide +kernel
theorem dX10_find_44 : decode cX10_find 44 = .ok (.ldc_w 300, 3) := by decide +kernel
theorem dX10_find_47 : decode cX10_find 47 = .ok (.ireturn, 1) := by decide +kernel
theorem dX10_find_48 : decode cX10_find 48 = .ok (.iload_n 2, 1) := by decide +kernel
theorem dX10_find_49 : decode cX10_find 49 = .ok (.istore 8, 2) := by decide +kernel
theorem dX10_find_51 : decode cX10_find 51 = .ok (.iload 5, 2) := by decide +kernel
theorem dX10_find_53 : decode cX10_find 53 = .ok (.istore 9, 2) := by decide +kernel
theorem dX10_find_55 : decode cX10_find 55 = .ok (.iconst 0, 1) := by decide +kernel
theorem dX10_find_56 : decode cX10_find 56 = .ok (.istore 10, 2) := by decide +kernel
theorem dX10_find_58 : decode cX10_find 58 = .ok (.aload_n 0, 1) := by decide +kernel
theorem dX10_find_59 : decode cX10_find 59 = .ok (.getfield 94, 3) := by decide +kernel
theorem dX10_find_62 : decode cX10_find 62 = .ok (.bipush 41, 2) := by decide +kernel
theorem dX10_find_64 : decode cX10_find 64 = .ok (.iload_n 1, 1) := by decide +kernel
theorem dX10_find_65 : decode cX10_find 65 = .ok (.imul, 1) := by decide +kernel
theorem dX10_find_66 : decode cX10_find 66 = .ok (.iload 6, 2) := by decide +kernel
theorem dX10_find_68 : decode cX10_find 68 = .ok (.iadd, 1) := by decide +kernel
theorem dX10_find_69 : decode cX10_find 69 = .ok (.iload_n 2, 1) := by decide +kernel
theorem dX10_find_70 : decode cX10_find 70 = .ok (.iastore, 1) := by decide +kernel
theorem dX10_find_71 : decode cX10_find 71 = .ok (.aload_n 0, 1) := by decide +kernel
theorem dX10_find_72 : decode cX10_find 72 = .ok (.getfield 108, 3) := by decide +kernel
theorem dX10_find_75 : decode cX10_find 75 = .ok (.iload 10, 2) := by decide +kernel
theorem dX10_find_77 : decode cX10_find 77 = .ok (.iload 9, 2) := by decide +kernel
theorem dX10_find_79 : decode cX10_find 79 = .ok (.iload 8, 2) := by decide +kernel
theorem dX10_find_81 : decode cX10_find 81 = .ok (.invokestatic 301, 3) := by decide +kernel
theorem dX10_find_84 : decode cX10_find 84 = .ok (.iaload, 1) := by decide +kernel
theorem dX10_find_85 : decode cX10_find 85 = .ok (.ifCond .le 59, 3) := by decide +kernel
theorem dX10_find_88 : decode cX10_find 88 = .ok (.aload_n 0, 1) := by decide +kernel
theorem dX10_find_89 : decode cX10_find 89 = .ok (.iload 10, 2) := by decide +kernel
theorem dX10_find_91 : decode cX10_find 91 = .ok (.iload 9, 2) := by decide +kernel
theorem dX10_find_93 : decode cX10_find 93 = .ok (.iload 8, 2) := by decide +kernel
theorem dX10_find_95 : decode cX10_find 95 = .ok (.invokevirtual 321, 3) := by decide +kernel
theorem dX10_find_98 : decode cX10_find 98 = .ok (.istore 11, 2) := by decide +kernel
theorem dX10_find_100 : decode cX10_find 100 = .ok (.iload 9, 2) := by decide +kernel
theorem dX10_find_102 : decode cX10_find 102 = .ok (.iload 11, 2) := by decide +kernel
theorem dX10_find_104 : decode cX10_find 104 = .ok (.iload 8, 2) := by decide +kernel
theorem dX10_find_106 : decode cX10_find 106 = .ok (.if_icmp .ne 7, 3) := by decide +kernel
theorem dX10_find_109 : decode cX10_find 109 = .ok (.iconst 0, 1) := by decide +kernel
theorem dX10_find_110 : decode cX10_find 110 = .ok (.goto 4, 3) := by decide +kernel
theorem dX10_find_113 : decode cX10_find 113 = .ok (.iconst 1, 1) := by decide +kernel
theorem dX10_find_114 : decode cX10_find 114 = .ok (.isub, 1) := by decide +kernel
theorem dX10_find_115 : decode cX10_find 115 = .ok (.istore 9, 2) := by decide +kernel
theorem dX10_find_117 : decode cX10_find 117 = .ok (.iload 11, 2) := by decide +kernel
theorem dX10_find_119 : decode cX10_find 119 = .ok (.istore 8, 2) := by decide +kernel
theorem dX10_find_121 : decode cX10_find 121 = .ok (.iinc 10 1, 3) := by decide +kernel
theorem dX10_find_124 : decode cX10_find 124 = .ok (.aload_n 0, 1) := by decide +kernel
theorem dX10_find_125 : decode cX10_find 125 = .ok (.getfield 94, 3) := by decide +kernel
theorem dX10_find_128 : decode cX10_find 128 = .ok (.bipush 41, 2) := by decide +kernel
theorem dX10_find_130 : decode cX10_find 130 = .ok (.iload_n 1, 1) := by decide +kernel
theorem dX10_find_131 : decode cX10_find 131 = .ok (.imul, 1) := by decide +kernel
theorem dX10_find_132 : decode cX10_find 132 = .ok (.iload 6, 2) := by decide +kernel
theorem dX10_find_134 : decode cX10_find 134 = .ok (.iadd, 1) := by decide +kernel
theorem dX10_find_135 : decode cX10_find 135 = .ok (.iload 10, 2) := by decide +kernel
theorem dX10_find_137 : decode cX10_find 137 = .ok (.iadd, 1) := by decide +kernel
theorem dX10_find_138 : decode cX10_find 138 = .ok (.iload 8, 2) := by decide +kernel
theorem dX10_find_140 : decode cX10_find 140 = .ok (.iastore, 1) := by decide +kernel
theorem dX10_find_141 : decode cX10_find 141 = .ok (.goto (-70), 3) := by decide +kernel
theorem dX10_find_144 : decode cX10_find 144 = .ok (.aload_n 0, 1) := by decide +kernel
theorem dX10_find_145 : decode cX10_find 145 = .ok (.getfield 97, 3) := by decide +kernel
theorem dX10_find_148 : decode cX10_find 148 = .ok (.iload_n 1, 1) := by decide +kernel
theorem dX10_find_149 : decode cX10_find 149 = .ok (.iload 6, 2) := by decide +kernel
theorem dX10_find_151 : decode cX10_find 151 = .ok (.iload 10, 2) := by decide +kernel
theorem dX10_find_153 : decode cX10_find 153 = .ok (.iadd, 1) := by decide +kernel
theorem dX10_find_154 : decode cX10_find 154 = .ok (.iastore, 1) := by decide +kernel
theorem dX10_find_155 : decode cX10_find 155 = .ok (.aload_n 0, 1) := by decide +kernel
theorem dX10_find_156 : decode cX10_find 156 = .ok (.getfield 100, 3) := by decide +kernel
theorem dX10_find_159 : decode cX10_find 159 = .ok (.iload_n 1, 1) := by decide +kernel
theorem dX10_find_160 : decode cX10_find 160 = .ok (.iconst 1, 1) := by decide +kernel
theorem dX10_find_161 : decode cX10_find 161 = .ok (.bastore, 1) := by decide +kernel
theorem dX10_find_162 : decode cX10_find 162 = .ok (.iload 7, 2) := by decide +kernel
theorem dX10_find_164 : decode cX10_find 164 = .ok (.ireturn, 1) := by decide +kernel
theorem dX10_isAllowed_0 : decode cX10_isAllowed 0 = .ok (.iload_n 0, 1) := by decide +kernel
theorem dX10_isAllowed_1 : decode cX10_isAllowed 1 = .ok (.i2l, 1) := by decide +kernel
theorem dX10_isAllowed_2 : decode cX10_isAllowed 2 = .ok (.lconst 0, 1) := by decide +kernel
theorem dX10_isAllowed_3 : decode cX10_isAllowed 3 = .ok (.ldc2_w 273, 3) := by decide +kernel
theorem dX10_isAllowed_6 : decode cX10_isAllowed 6 = .ok (.invokestatic 122, 3) := by decide +kernel
theorem dX10_isAllowed_9 : decode cX10_isAllowed 9 = .ok (.ifCond .eq 19, 3) := by decide +kernel
theorem dX10_isAllowed_12 : decode cX10_isAllowed 12 = .ok (.iload_n 1, 1) := by decide +kernel
theorem dX10_isAllowed_13 : decode cX10_isAllowed 13 = .ok (.i2l, 1) := by decide +kernel
theorem dX10_isAllowed_14 : decode cX10_isAllowed 14 = .ok (.lconst 0, 1) := by decide +kernel
theorem dX10_isAllowed_15 : decode cX10_isAllowed 15 = .ok (.ldc2_w 273, 3) := by decide +kernel
theorem dX10_isAllowed_18 : decode cX10_isAllowed 18 = .ok (.invokestatic 122, 3) := by decide +kernel
theorem dX10_isAllowed_21 : decode cX10_isAllowed 21 = .ok (.ifCond .eq 7, 3) := by decide +kernel
theorem dX10_isAllowed_24 : decode cX10_isAllowed 24 = .ok (.iconst 1, 1) := by decide +kernel
theorem dX10_isAllowed_25 : decode cX10_isAllowed 25 = .ok (.goto 4, 3) := by decide +kernel
theorem dX10_isAllowed_28 : decode cX10_isAllowed 28 = .ok (.iconst 0, 1) := by decide +kernel
theorem dX10_isAllowed_29 : decode cX10_isAllowed 29 = .ok (.ireturn, 1) := by decide +kernel
theorem dX10_route_0 : decode cX10_route 0 = .ok (.iload_n 1, 1) := by decide +kernel
theorem dX10_route_1 : decode cX10_route 1 = .ok (.invokestatic 324, 3) := by decide +kernel
theorem dX10_route_4 : decode cX10_route 4 = .ok (.ifCond .eq 10, 3) := by decide +kernel
theorem dX10_route_7 : decode cX10_route 7 = .ok (.iload_n 2, 1) := by decide +kernel
theorem dX10_route_8 : decode cX10_route 8 = .ok (.invokestatic 324, 3) := by decide +kernel
theorem dX10_route_11 : decode cX10_route 11 = .ok (.ifCond .ne 5, 3) := by decide +kernel
theorem dX10_route_14 : decode cX10_route 14 = .ok (.iconst (-1), 1) := by decide +kernel
theorem dX10_route_15 : decode cX10_route 15 = .ok (.ireturn, 1) := by decide +kernel
theorem dX10_route_16 : decode cX10_route 16 = .ok (.iload_n 3, 1) := by decide +kernel
theorem dX10_route_17 : decode cX10_route 17 = .ok (.iload 4, 2) := by decide +kernel
theorem dX10_route_19 : decode cX10_route 19 = .ok (.invokestatic 327, 3) := by decide +kernel
theorem dX10_route_22 : decode cX10_route 22 = .ok (.ifCond .ne 6, 3) := by decide +kernel
theorem dX10_route_25 : decode cX10_route 25 = .ok (.bipush (-2), 2) := by decide +kernel
theorem dX10_route_27 : decode cX10_route 27 = .ok (.ireturn, 1) := by decide +kernel
theorem dX10_route_28 : decode cX10_route 28 = .ok (.aload_n 0, 1) := by decide +kernel
theorem dX10_route_29 : decode cX10_route 29 = .ok (.iconst (-1), 1) := by decide +kernel
theorem dX10_route_30 : decode cX10_route 30 = .ok (.putfield 104, 3) := by decide +kernel
theorem dX10_route_33 : decode cX10_route 33 = .ok (.aload_n 0, 1) := by decide +kernel
theorem dX10_route_34 : decode cX10_route 34 = .ok (.iconst 0, 1) := by decide +kernel
theorem dX10_route_35 : decode cX10_route 35 = .ok (.iload_n 1, 1) := by decide +kernel
theorem dX10_route_36 : decode cX10_route 36 = .ok (.iload_n 2, 1) := by decide +kernel
theorem dX10_route_37 : decode cX10_route 37 = .ok (.iload_n 3, 1) := by decide +kernel
theorem dX10_route_38 : decode cX10_route 38 = .ok (.iload 4, 2) := by decide +kernel
theorem dX10_route_40 : decode cX10_route 40 = .ok (.iconst 0, 1) := by decide +kernel
theorem dX10_route_41 : decode cX10_route 41 = .ok (.invokevirtual 330, 3) := by decide +kernel
theorem dX10_route_44 : decode cX10_route 44 = .ok (.istore 5, 2) := by decide +kernel
theorem dX10_route_46 : decode cX10_route 46 = .ok (.iload 5, 2) := by decide +kernel
theorem dX10_route_48 : decode cX10_route 48 = .ok (.ldc_w 300, 3) := by decide +kernel
theorem dX10_route_51 : decode cX10_route 51 = .ok (.if_icmp .ne 6, 3) := by decide +kernel
theorem dX10_route_54 : decode cX10_route 54 = .ok (.bipush (-5), 2) := by decide +kernel
theorem dX10_route_56 : decode cX10_route 56 = .ok (.ireturn, 1) := by decide +kernel
theorem dX10_route_57 : decode cX10_route 57 = .ok (.aload_n 0, 1) := by decide +kernel
theorem dX10_route_58 : decode cX10_route 58 = .ok (.iload_n 3, 1) := by decide +kernel
theorem dX10_route_59 : decode cX10_route 59 = .ok (.putfield 334, 3) := by decide +kernel
theorem dX10_route_62 : decode cX10_route 62 = .ok (.aload_n 0, 1) := by decide +kernel
theorem dX10_route_63 : decode cX10_route 63 = .ok (.iload 4, 2) := by decide +kernel
theorem dX10_route_65 : decode cX10_route 65 = .ok (.putfield 337, 3) := by decide +kernel
theorem dX10_route_68 : decode cX10_route 68 = .ok (.iload 5, 2) := by decide +kernel
theorem dX10_route_70 : decode cX10_route 70 = .ok (.sipush 10000, 3) := by decide +kernel
theorem dX10_route_73 : decode cX10_route 73 = .ok (.idiv, 1) := by decide +kernel
theorem dX10_route_74 : decode cX10_route 74 = .ok (.ireturn, 1) := by decide +kernel
theorem dX10_apart_0 : decode cX10_apart 0 = .ok (.iload_n 1, 1) := by decide +kernel
theorem dX10_apart_1 : decode cX10_apart 1 = .ok (.invokestatic 324, 3) := by decide +kernel
theorem dX10_apart_4 : decode cX10_apart 4 = .ok (.ifCond .eq 10, 3) := by decide +kernel
theorem dX10_apart_7 : decode cX10_apart 7 = .ok (.iload_n 2, 1) := by decide +kernel
theorem dX10_apart_8 : decode cX10_apart 8 = .ok (.invokestatic 324, 3) := by decide +kernel
theorem dX10_apart_11 : decode cX10_apart 11 = .ok (.ifCond .ne 5, 3) := by decide +kernel
theorem dX10_apart_14 : decode cX10_apart 14 = .ok (.iconst (-1), 1) := by decide +kernel
theorem dX10_apart_15 : decode cX10_apart 15 = .ok (.ireturn, 1) := by decide +kernel
theorem dX10_apart_16 : decode cX10_apart 16 = .ok (.iload_n 3, 1) := by decide +kernel
theorem dX10_apart_17 : decode cX10_apart 17 = .ok (.iload 4, 2) := by decide +kernel
theorem dX10_apart_19 : decode cX10_apart 19 = .ok (.invokestatic 327, 3) := by decide +kernel
theorem dX10_apart_22 : decode cX10_apart 22 = .ok (.ifCond .eq 16, 3) := by decide +kernel
theorem dX10_apart_25 : decode cX10_apart 25 = .ok (.iload 5, 2) := by decide +kernel
theorem dX10_apart_27 : decode cX10_apart 27 = .ok (.i2l, 1) := by decide +kernel
theorem dX10_apart_28 : decode cX10_apart 28 = .ok (.lconst 0, 1) := by decide +kernel
theorem dX10_apart_29 : decode cX10_apart 29 = .ok (.ldc2_w 192, 3) := by decide +kernel
theorem dX10_apart_32 : decode cX10_apart 32 = .ok (.invokestatic 122, 3) := by decide +kernel
theorem dX10_apart_35 : decode cX10_apart 35 = .ok (.ifCond .ne 6, 3) := by decide +kernel
theorem dX10_apart_38 : decode cX10_apart 38 = .ok (.bipush (-2), 2) := by decide +kernel
theorem dX10_apart_40 : decode cX10_apart 40 = .ok (.ireturn, 1) := by decide +kernel
theorem dX10_apart_41 : decode cX10_apart 41 = .ok (.aload_n 0, 1) := by decide +kernel
theorem dX10_apart_42 : decode cX10_apart 42 = .ok (.getfield 100, 3) := by decide +kernel
theorem dX10_apart_45 : decode cX10_apart 45 = .ok (.iconst 0, 1) := by decide +kernel
theorem dX10_apart_46 : decode cX10_apart 46 = .ok (.baload, 1) := by decide +kernel
theorem dX10_apart_47 : decode cX10_apart 47 = .ok (.ifCond .ne 6, 3) := by decide +kernel
theorem dX10_apart_50 : decode cX10_apart 50 = .ok (.bipush (-3), 2) := by decide +kernel
theorem dX10_apart_52 : decode cX10_apart 52 = .ok (.ireturn, 1) := by decide +kernel
theorem dX10_apart_53 : decode cX10_apart 53 = .ok (.aload_n 0, 1) := by decide +kernel
theorem dX10_apart_54 : decode cX10_apart 54 = .ok (.iload 5, 2) := by decide +kernel
theorem dX10_apart_56 : decode cX10_apart 56 = .ok (.putfield 104, 3) := by decide +kernel
theorem dX10_apart_59 : decode cX10_apart 59 = .ok (.aload_n 0, 1) := by decide +kernel
theorem dX10_apart_60 : decode cX10_apart 60 = .ok (.iconst 1, 1) := by decide +kernel
theorem dX10_apart_61 : decode cX10_apart 61 = .ok (.iload_n 1, 1) := by decide +kernel
theorem dX10_apart_62 : decode cX10_apart 62 = .ok (.iload_n 2, 1) := by decide +kernel
theorem dX10_apart_63 : decode cX10_apart 63 = .ok (.iload_n 3, 1) := by decide +kernel
theorem dX10_apart_64 : decode cX10_apart 64 = .ok (.iload 4, 2) := by decide +kernel
theorem dX10_apart_66 : decode cX10_apart 66 = .ok (.iconst 0, 1) := by decide +kernel
theorem dX10_apart_67 : decode cX10_apart 67 = .ok (.invokevirtual 330, 3) := by decide +kernel
theorem dX10_apart_70 : decode cX10_apart 70 = .ok (.istore 6, 2) := by decide +kernel
theorem dX10_apart_72 : decode cX10_apart 72 = .ok (.iload 6, 2) := by decide +kernel
theorem dX10_apart_74 : decode cX10_apart 74 = .ok (.ldc_w 300, 3) := by decide +kernel
theorem dX10_apart_77 : decode cX10_apart 77 = .ok (.if_icmp .ne 8, 3) := by decide +kernel
theorem dX10_apart_80 : decode cX10_apart 80 = .ok (.bipush (-5), 2) := by decide +kernel
theorem dX10_apart_82 : decode cX10_apart 82 = .ok (.goto 9, 3) := by decide +kernel
theorem dX10_apart_85 : decode cX10_apart 85 = .ok (.iload 6, 2) := by decide +kernel
theorem dX10_apart_87 : decode cX10_apart 87 = .ok (.sipush 10000, 3) := by decide +kernel
theorem dX10_apart_90 : decode cX10_apart 90 = .ok (.idiv, 1) := by decide +kernel
theorem dX10_apart_91 : decode cX10_apart 91 = .ok (.ireturn, 1) := by decide +kernel
theorem dX10_fuelTill_0 : decode cX10_fuelTill 0 = .ok (.iconst 0, 1) := by decide +kernel
theorem dX10_fuelTill_1 : decode cX10_fuelTill 1 = .ok (.istore_n 3, 1) := by decide +kernel
theorem dX10_fuelTill_2 : decode cX10_fuelTill 2 = .ok (.iconst 1, 1) := by decide +kernel
theorem dX10_fuelTill_3 : decode cX10_fuelTill 3 = .ok (.istore 4, 2) := by decide +kernel
theorem dX10_fuelTill_5 : decode cX10_fuelTill 5 = .ok (.iload 4, 2) := by decide +kernel
theorem dX10_fuelTill_7 : decode cX10_fuelTill 7 = .ok (.iload_n 2, 1) := by decide +kernel
theorem dX10_fuelTill_8 : decode cX10_fuelTill 8 = .ok (.if_icmp .gt 46, 3) := by decide +kernel
theorem dX10_fuelTill_11 : decode cX10_fuelTill 11 = .ok (.iload_n 3, 1) := by decide +kernel
theorem dX10_fuelTill_12 : decode cX10_fuelTill 12 = .ok (.aload_n 0, 1) := by decide +kernel
theorem dX10_fuelTill_13 : decode cX10_fuelTill 13 = .ok (.getfield 94, 3) := by decide +kernel
theorem dX10_fuelTill_16 : decode cX10_fuelTill 16 = .ok (.bipush 41, 2) := by decide +kernel
theorem dX10_fuelTill_18 : decode cX10_fuelTill 18 = .ok (.iload_n 1, 1) := by decide +kernel
theorem dX10_fuelTill_19 : decode cX10_fuelTill 19 = .ok (.imul, 1) := by decide +kernel
theorem dX10_fuelTill_20 : decode cX10_fuelTill 20 = .ok (.iload 4, 2) := by decide +kernel
theorem dX10_fuelTill_22 : decode cX10_fuelTill 22 = .ok (.iadd, 1) := by decide +kernel
theorem dX10_fuelTill_23 : decode cX10_fuelTill 23 = .ok (.iaload, 1) := by decide +kernel
theorem dX10_fuelTill_24 : decode cX10_fuelTill 24 = .ok (.aload_n 0, 1) := by decide +kernel
theorem dX10_fuelTill_25 : decode cX10_fuelTill 25 = .ok (.getfield 94, 3) := by decide +kernel
theorem dX10_fuelTill_28 : decode cX10_fuelTill 28 = .ok (.bipush 41, 2) := by decide +kernel
theorem dX10_fuelTill_30 : decode cX10_fuelTill 30 = .ok (.iload_n 1, 1) := by decide +kernel
theorem dX10_fuelTill_31 : decode cX10_fuelTill 31 = .ok (.imul, 1) := by decide +kernel
theorem dX10_fuelTill_32 : decode cX10_fuelTill 32 = .ok (.iload 4, 2) := by decide +kernel
theorem dX10_fuelTill_34 : decode cX10_fuelTill 34 = .ok (.iadd, 1) := by decide +kernel
theorem dX10_fuelTill_35 : decode cX10_fuelTill 35 = .ok (.iconst 1, 1) := by decide +kernel
theorem dX10_fuelTill_36 : decode cX10_fuelTill 36 = .ok (.isub, 1) := by decide +kernel
theorem dX10_fuelTill_37 : decode cX10_fuelTill 37 = .ok (.iaload, 1) := by decide +kernel
theorem dX10_fuelTill_38 : decode cX10_fuelTill 38 = .ok (.if_icmp .ne 7, 3) := by decide +kernel
theorem dX10_fuelTill_41 : decode cX10_fuelTill 41 = .ok (.iconst 0, 1) := by decide +kernel
theorem dX10_fuelTill_42 : decode cX10_fuelTill 42 = .ok (.goto 4, 3) := by decide +kernel
theorem dX10_fuelTill_45 : decode cX10_fuelTill 45 = .ok (.iconst 1, 1) := by decide +kernel
theorem dX10_fuelTill_46 : decode cX10_fuelTill 46 = .ok (.iadd, 1) := by decide +kernel
theorem dX10_fuelTill_47 : decode cX10_fuelTill 47 = .ok (.istore_n 3, 1) := by decide +kernel
theorem dX10_fuelTill_48 : decode cX10_fuelTill 48 = .ok (.iinc 4 1, 3) := by decide +kernel
theorem dX10_fuelTill_51 : decode cX10_fuelTill 51 = .ok (.goto (-46), 3) := by decide +kernel
theorem dX10_fuelTill_54 : decode cX10_fuelTill 54 = .ok (.iload_n 3, 1) := by decide +kernel
theorem dX10_fuelTill_55 : decode cX10_fuelTill 55 = .ok (.ireturn, 1) := by decide +kernel
theorem dX10_cell_0 : decode cX10_cell 0 = .ok (.iload_n 1, 1) := by decide +kernel
theorem dX10_cell_1 : decode cX10_cell 1 = .ok (.i2l, 1) := by decide +kernel
theorem dX10_cell_2 : decode cX10_cell 2 = .ok (.lconst 0, 1) := by decide +kernel
theorem dX10_cell_3 : decode cX10_cell 3 = .ok (.lconst 1, 1) := by decide +kernel
theorem dX10_cell_4 : decode cX10_cell 4 = .ok (.invokestatic 122, 3) := by decide +kernel
theorem dX10_cell_7 : decode cX10_cell 7 = .ok (.ifCond .eq 17, 3) := by decide +kernel
theorem dX10_cell_10 : decode cX10_cell 10 = .ok (.iload_n 2, 1) := by decide +kernel
theorem dX10_cell_11 : decode cX10_cell 11 = .ok (.i2l, 1) := by decide +kernel
theorem dX10_cell_12 : decode cX10_cell 12 = .ok (.ldc2_w 340, 3) := by decide +kernel
theorem dX10_cell_15 : decode cX10_cell 15 = .ok (.ldc2_w 273, 3) := by decide +kernel
theorem dX10_cell_18 : decode cX10_cell 18 = .ok (.invokestatic 122, 3) := by decide +kernel
theorem dX10_cell_21 : decode cX10_cell 21 = .ok (.ifCond .ne 6, 3) := by decide +kernel
theorem dX10_cell_24 : decode cX10_cell 24 = .ok (.bipush (-2), 2) := by decide +kernel
theorem dX10_cell_26 : decode cX10_cell 26 = .ok (.ireturn, 1) := by decide +kernel
theorem dX10_cell_27 : decode cX10_cell 27 = .ok (.aload_n 0, 1) := by decide +kernel
theorem dX10_cell_28 : decode cX10_cell 28 = .ok (.getfield 100, 3) := by decide +kernel
theorem dX10_cell_31 : decode cX10_cell 31 = .ok (.iload_n 1, 1) := by decide +kernel
theorem dX10_cell_32 : decode cX10_cell 32 = .ok (.baload, 1) := by decide +kernel
theorem dX10_cell_33 : decode cX10_cell 33 = .ok (.ifCond .ne 6, 3) := by decide +kernel
theorem dX10_cell_36 : decode cX10_cell 36 = .ok (.bipush (-6), 2) := by decide +kernel
theorem dX10_cell_38 : decode cX10_cell 38 = .ok (.ireturn, 1) := by decide +kernel
theorem dX10_cell_39 : decode cX10_cell 39 = .ok (.iload_n 2, 1) := by decide +kernel
theorem dX10_cell_40 : decode cX10_cell 40 = .ok (.iconst (-1), 1) := by decide +kernel
theorem dX10_cell_41 : decode cX10_cell 41 = .ok (.if_icmp .ne 12, 3) := by decide +kernel
theorem dX10_cell_44 : decode cX10_cell 44 = .ok (.aload_n 0, 1) := by decide +kernel
theorem dX10_cell_45 : decode cX10_cell 45 = .ok (.getfield 97, 3) := by decide +kernel
theorem dX10_cell_48 : decode cX10_cell 48 = .ok (.iload_n 1, 1) := by decide +kernel
theorem dX10_cell_49 : decode cX10_cell 49 = .ok (.iaload, 1) := by decide +kernel
theorem dX10_cell_50 : decode cX10_cell 50 = .ok (.goto 29, 3) := by decide +kernel
theorem dX10_cell_53 : decode cX10_cell 53 = .ok (.iload_n 2, 1) := by decide +kernel
theorem dX10_cell_54 : decode cX10_cell 54 = .ok (.bipush (-2), 2) := by decide +kernel
theorem dX10_cell_56 : decode cX10_cell 56 = .ok (.if_icmp .ne 17, 3) := by decide +kernel
theorem dX10_cell_59 : decode cX10_cell 59 = .ok (.aload_n 0, 1) := by decide +kernel
theorem dX10_cell_60 : decode cX10_cell 60 = .ok (.iload_n 1, 1) := by decide +kernel
theorem dX10_cell_61 : decode cX10_cell 61 = .ok (.aload_n 0, 1) := by decide +kernel
theorem dX10_cell_62 : decode cX10_cell 62 = .ok (.getfield 97, 3) := by decide +kernel
theorem dX10_cell_65 : decode cX10_cell 65 = .ok (.iload_n 1, 1) := by decide +kernel
theorem dX10_cell_66 : decode cX10_cell 66 = .ok (.iaload, 1) := by decide +kernel
theorem dX10_cell_67 : decode cX10_cell 67 = .ok (.invokevirtual 342, 3) := by decide +kernel
theorem dX10_cell_70 : decode cX10_cell 70 = .ok (.goto 9, 3) := by decide +kernel
theorem dX10_cell_73 : decode cX10_cell 73 = .ok (.aload_n 0, 1) := by decide +kernel
theorem dX10_cell_74 : decode cX10_cell 74 = .ok (.iload_n 1, 1) := by decide +kernel
theorem dX10_cell_75 : decode cX10_cell 75 = .ok (.iload_n 2, 1) := by decide +kernel
theorem dX10_cell_76 : decode cX10_cell 76 = .ok (.invokevirtual 291, 3) := by decide +kernel
theorem dX10_cell_79 : decode cX10_cell 79 = .ok (.ireturn, 1) := by decide +kernel
theorem dX10_word_0 : decode cX10_word 0 = .ok (.iload_n 2, 1) := by decide +kernel
theorem dX10_word_1 : decode cX10_word 1 = .ok (.invokestatic 324, 3) := by decide +kernel
theorem dX10_word_4 : decode cX10_word 4 = .ok (.ifCond .ne 5, 3) := by decide +kernel
theorem dX10_word_7 : decode cX10_word 7 = .ok (.iconst (-1), 1) := by decide +kernel
theorem dX10_word_8 : decode cX10_word 8 = .ok (.ireturn, 1) := by decide +kernel
theorem dX10_word_9 : decode cX10_word 9 = .ok (.iload_n 1, 1) := by decide +kernel
theorem dX10_word_10 : decode cX10_word 10 = .ok (.i2l, 1) := by decide +kernel
theorem dX10_word_11 : decode cX10_word 11 = .ok (.lconst 0, 1) := by decide +kernel
theorem dX10_word_12 : decode cX10_word 12 = .ok (.ldc2_w 273, 3) := by decide +kernel
theorem dX10_word_15 : decode cX10_word 15 = .ok (.invokestatic 122, 3) := by decide +kernel
theorem dX10_word_18 : decode cX10_word 18 = .ok (.ifCond .ne 6, 3) := by decide +kernel
theorem dX10_word_21 : decode cX10_word 21 = .ok (.bipush (-2), 2) := by decide +kernel
theorem dX10_word_23 : decode cX10_word 23 = .ok (.ireturn, 1) := by decide +kernel
theorem dX10_word_24 : decode cX10_word 24 = .ok (.aload_n 0, 1) := by decide +kernel
theorem dX10_word_25 : decode cX10_word 25 = .ok (.getfield 100, 3) := by decide +kernel
theorem dX10_word_28 : decode cX10_word 28 = .ok (.iconst 0, 1) := by decide +kernel
theorem dX10_word_29 : decode cX10_word 29 = .ok (.baload, 1) := by decide +kernel
theorem dX10_word_30 : decode cX10_word 30 = .ok (.ifCond .ne 6, 3) := by decide +kernel
theorem dX10_word_33 : decode cX10_word 33 = .ok (.bipush (-3), 2) := by decide +kernel
theorem dX10_word_35 : decode cX10_word 35 = .ok (.ireturn, 1) := by decide +kernel
theorem dX10_word_36 : decode cX10_word 36 = .ok (.iload_n 1, 1) := by decide +kernel
theorem dX10_word_37 : decode cX10_word 37 = .ok (.aload_n 0, 1) := by decide +kernel
theorem dX10_word_38 : decode cX10_word 38 = .ok (.getfield 97, 3) := by decide +kernel
theorem dX10_word_41 : decode cX10_word 41 = .ok (.iconst 0, 1) := by decide +kernel
theorem dX10_word_42 : decode cX10_word 42 = .ok (.iaload, 1) := by decide +kernel
theorem dX10_word_43 : decode cX10_word 43 = .ok (.if_icmp .le 6, 3) := by decide +kernel
theorem dX10_word_46 : decode cX10_word 46 = .ok (.bipush (-2), 2) := by decide +kernel
theorem dX10_word_48 : decode cX10_word 48 = .ok (.ireturn, 1) := by decide +kernel
theorem dX10_word_49 : decode cX10_word 49 = .ok (.aload_n 0, 1) := by decide +kernel
theorem dX10_word_50 : decode cX10_word 50 = .ok (.iconst (-1), 1) := by decide +kernel
theorem dX10_word_51 : decode cX10_word 51 = .ok (.putfield 104, 3) := by decide +kernel
theorem dX10_word_54 : decode cX10_word 54 = .ok (.aload_n 0, 1) := by decide +kernel
theorem dX10_word_55 : decode cX10_word 55 = .ok (.iconst 0, 1) := by decide +kernel
theorem dX10_word_56 : decode cX10_word 56 = .ok (.aload_n 0, 1) := by decide +kernel
theorem dX10_word_57 : decode cX10_word 57 = .ok (.getfield 94, 3) := by decide +kernel
theorem dX10_word_60 : decode cX10_word 60 = .ok (.iload_n 1, 1) := by decide +kernel
theorem dX10_word_61 : decode cX10_word 61 = .ok (.iaload, 1) := by decide +kernel
theorem dX10_word_62 : decode cX10_word 62 = .ok (.iload_n 2, 1) := by decide +kernel
theorem dX10_word_63 : decode cX10_word 63 = .ok (.aload_n 0, 1) := by decide +kernel
theorem dX10_word_64 : decode cX10_word 64 = .ok (.getfield 334, 3) := by decide +kernel
theorem dX10_word_67 : decode cX10_word 67 = .ok (.iload_n 1, 1) := by decide +kernel
theorem dX10_word_68 : decode cX10_word 68 = .ok (.isub, 1) := by decide +kernel
theorem dX10_word_69 : decode cX10_word 69 = .ok (.aload_n 0, 1) := by decide +kernel
theorem dX10_word_70 : decode cX10_word 70 = .ok (.getfield 337, 3) := by decide +kernel
theorem dX10_word_73 : decode cX10_word 73 = .ok (.aload_n 0, 1) := by decide +kernel
theorem dX10_word_74 : decode cX10_word 74 = .ok (.iconst 0, 1) := by decide +kernel
theorem dX10_word_75 : decode cX10_word 75 = .ok (.iload_n 1, 1) := by decide +kernel
theorem dX10_word_76 : decode cX10_word 76 = .ok (.invokevirtual 342, 3) := by decide +kernel
theorem dX10_word_79 : decode cX10_word 79 = .ok (.isub, 1) := by decide +kernel
theorem dX10_word_80 : decode cX10_word 80 = .ok (.iload_n 1, 1) := by decide +kernel
theorem dX10_word_81 : decode cX10_word 81 = .ok (.invokevirtual 330, 3) := by decide +kernel
theorem dX10_word_84 : decode cX10_word 84 = .ok (.istore_n 3, 1) := by decide +kernel
theorem dX10_word_85 : decode cX10_word 85 = .ok (.iload_n 3, 1) := by decide +kernel
theorem dX10_word_86 : decode cX10_word 86 = .ok (.ldc_w 300, 3) := by decide +kernel
theorem dX10_word_89 : decode cX10_word 89 = .ok (.if_icmp .ne 8, 3) := by decide +kernel
theorem dX10_word_92 : decode cX10_word 92 = .ok (.bipush (-5), 2) := by decide +kernel
theorem dX10_word_94 : decode cX10_word 94 = .ok (.goto 8, 3) := by decide +kernel
theorem dX10_word_97 : decode cX10_word 97 = .ok (.iload_n 3, 1) := by decide +kernel
theorem dX10_word_98 : decode cX10_word 98 = .ok (.sipush 10000, 3) := by decide +kernel
theorem dX10_word_101 : decode cX10_word 101 = .ok (.idiv, 1) := by decide +kernel
theorem dX10_word_102 : decode cX10_word 102 = .ok (.ireturn, 1) := by decide +kernel
theorem dX10_sight_0 : decode cX10_sight 0 = .ok (.iload_n 1, 1) := by decide +kernel
theorem dX10_sight_1 : decode cX10_sight 1 = .ok (.i2l, 1) := by decide +kernel
theorem dX10_sight_2 : decode cX10_sight 2 = .ok (.lconst 0, 1) := by decide +kernel
theorem dX10_sight_3 : decode cX10_sight 3 = .ok (.ldc2_w 136, 3) := by decide +kernel
theorem dX10_sight_6 : decode cX10_sight 6 = .ok (.invokestatic 122, 3) := by decide +kernel
theorem dX10_sight_9 : decode cX10_sight 9 = .ok (.ifCond .eq 31, 3) := by decide +kernel
theorem dX10_sight_12 : decode cX10_sight 12 = .ok (.iload_n 2, 1) := by decide +kernel
theorem dX10_sight_13 : decode cX10_sight 13 = .ok (.i2l, 1) := by decide +kernel
theorem dX10_sight_14 : decode cX10_sight 14 = .ok (.ldc2_w 345, 3) := by decide +kernel
theorem dX10_sight_17 : decode cX10_sight 17 = .ok (.ldc2_w 347, 3) := by decide +kernel
theorem dX10_sight_20 : decode cX10_sight 20 = .ok (.invokestatic 122, 3) := by decide +kernel
theorem dX10_sight_23 : decode cX10_sight 23 = .ok (.ifCond .eq 17, 3) := by decide +kernel
theorem dX10_sight_26 : decode cX10_sight 26 = .ok (.iload_n 3, 1) := by decide +kernel
theorem dX10_sight_27 : decode cX10_sight 27 = .ok (.i2l, 1) := by decide +kernel
theorem dX10_sight_28 : decode cX10_sight 28 = .ok (.ldc2_w 345, 3) := by decide +kernel
theorem dX10_sight_31 : decode cX10_sight 31 = .ok (.ldc2_w 347, 3) := by decide +kernel
theorem dX10_sight_34 : decode cX10_sight 34 = .ok (.invokestatic 122, 3) := by decide +kernel
theorem dX10_sight_37 : decode cX10_sight 37 = .ok (.ifCond .ne 6, 3) := by decide +kernel
theorem dX10_sight_40 : decode cX10_sight 40 = .ok (.bipush (-2), 2) := by decide +kernel
theorem dX10_sight_42 : decode cX10_sight 42 = .ok (.ireturn, 1) := by decide +kernel
theorem dX10_sight_43 : decode cX10_sight 43 = .ok (.aload_n 0, 1) := by decide +kernel
theorem dX10_sight_44 : decode cX10_sight 44 = .ok (.getfield 349, 3) := by decide +kernel
theorem dX10_sight_47 : decode cX10_sight 47 = .ok (.bipush 12, 2) := by decide +kernel
theorem dX10_sight_49 : decode cX10_sight 49 = .ok (.if_icmp .ne 6, 3) := by decide +kernel
theorem dX10_sight_52 : decode cX10_sight 52 = .ok (.bipush (-4), 2) := by decide +kernel
theorem dX10_sight_54 : decode cX10_sight 54 = .ok (.ireturn, 1) := by decide +kernel
theorem dX10_sight_55 : decode cX10_sight 55 = .ok (.aload_n 0, 1) := by decide +kernel
theorem dX10_sight_56 : decode cX10_sight 56 = .ok (.getfield 111, 3) := by decide +kernel
theorem dX10_sight_59 : decode cX10_sight 59 = .ok (.aload_n 0, 1) := by decide +kernel
theorem dX10_sight_60 : decode cX10_sight 60 = .ok (.getfield 349, 3) := by decide +kernel
theorem dX10_sight_63 : decode cX10_sight 63 = .ok (.iload_n 1, 1) := by decide +kernel
theorem dX10_sight_64 : decode cX10_sight 64 = .ok (.iastore, 1) := by decide +kernel
theorem dX10_sight_65 : decode cX10_sight 65 = .ok (.aload_n 0, 1) := by decide +kernel
theorem dX10_sight_66 : decode cX10_sight 66 = .ok (.getfield 114, 3) := by decide +kernel
theorem dX10_sight_69 : decode cX10_sight 69 = .ok (.aload_n 0, 1) := by decide +kernel
theorem dX10_sight_70 : decode cX10_sight 70 = .ok (.getfield 349, 3) := by decide +kernel
theorem dX10_sight_73 : decode cX10_sight 73 = .ok (.iload_n 2, 1) := by decide +kernel
theorem dX10_sight_74 : decode cX10_sight 74 = .ok (.iastore, 1) := by decide +kernel
theorem dX10_sight_75 : decode cX10_sight 75 = .ok (.aload_n 0, 1) := by decide +kernel
theorem dX10_sight_76 : decode cX10_sight 76 = .ok (.getfield 117, 3) := by decide +kernel
theorem dX10_sight_79 : decode cX10_sight 79 = .ok (.aload_n 0, 1) := by decide +kernel
theorem dX10_sight_80 : decode cX10_sight 80 = .ok (.getfield 349, 3) := by decide +kernel
theorem dX10_sight_83 : decode cX10_sight 83 = .ok (.iload_n 3, 1) := by decide +kernel
theorem dX10_sight_84 : decode cX10_sight 84 = .ok (.iastore, 1) := by decide +kernel
theorem dX10_sight_85 : decode cX10_sight 85 = .ok (.aload_n 0, 1) := by decide +kernel
theorem dX10_sight_86 : decode cX10_sight 86 = .ok (.dup, 1) := by decide +kernel
theorem dX10_sight_87 : decode cX10_sight 87 = .ok (.getfield 349, 3) := by decide +kernel
theorem dX10_sight_90 : decode cX10_sight 90 = .ok (.iconst 1, 1) := by decide +kernel
theorem dX10_sight_91 : decode cX10_sight 91 = .ok (.iadd, 1) := by decide +kernel
theorem dX10_sight_92 : decode cX10_sight 92 = .ok (.putfield 349, 3) := by decide +kernel
theorem dX10_sight_95 : decode cX10_sight 95 = .ok (.aload_n 0, 1) := by decide +kernel
theorem dX10_sight_96 : decode cX10_sight 96 = .ok (.getfield 349, 3) := by decide +kernel
theorem dX10_sight_99 : decode cX10_sight 99 = .ok (.ireturn, 1) := by decide +kernel
theorem dX10_forget_0 : decode cX10_forget 0 = .ok (.aload_n 0, 1) := by decide +kernel
theorem dX10_forget_1 : decode cX10_forget 1 = .ok (.getfield 349, 3) := by decide +kernel
theorem dX10_forget_4 : decode cX10_forget 4 = .ok (.istore_n 1, 1) := by decide +kernel
theorem dX10_forget_5 : decode cX10_forget 5 = .ok (.aload_n 0, 1) := by decide +kernel
theorem dX10_forget_6 : decode cX10_forget 6 = .ok (.iconst 0, 1) := by decide +kernel
theorem dX10_forget_7 : decode cX10_forget 7 = .ok (.putfield 349, 3) := by decide +kernel
theorem dX10_forget_10 : decode cX10_forget 10 = .ok (.iload_n 1, 1) := by decide +kernel
theorem dX10_forget_11 : decode cX10_forget 11 = .ok (.ireturn, 1) := by decide +kernel
theorem dX10_far_0 : decode cX10_far 0 = .ok (.lload_n 0, 1) := by decide +kernel
theorem dX10_far_1 : decode cX10_far 1 = .ok (.lload_n 2, 1) := by decide +kernel
theorem dX10_far_2 : decode cX10_far 2 = .ok (.lcmp, 1) := by decide +kernel
theorem dX10_far_3 : decode cX10_far 3 = .ok (.ifCond .ge 9, 3) := by decide +kernel
theorem dX10_far_6 : decode cX10_far 6 = .ok (.lload_n 2, 1) := by decide +kernel
theorem dX10_far_7 : decode cX10_far 7 = .ok (.lload_n 0, 1) := by decide +kernel
theorem dX10_far_8 : decode cX10_far 8 = .ok (.lsub, 1) := by decide +kernel
theorem dX10_far_9 : decode cX10_far 9 = .ok (.goto 6, 3) := by decide +kernel
theorem dX10_far_12 : decode cX10_far 12 = .ok (.lload_n 0, 1) := by decide +kernel
theorem dX10_far_13 : decode cX10_far 13 = .ok (.lload_n 2, 1) := by decide +kernel
theorem dX10_far_14 : decode cX10_far 14 = .ok (.lsub, 1) := by decide +kernel
theorem dX10_far_15 : decode cX10_far 15 = .ok (.lreturn, 1) := by decide +kernel
theorem dX10_misfit_0 : decode cX10_misfit 0 = .ok (.lconst 0, 1) := by decide +kernel
theorem dX10_misfit_1 : decode cX10_misfit 1 = .ok (.lstore 5, 2) := by decide +kernel
theorem dX10_misfit_3 : decode cX10_misfit 3 = .ok (.aload_n 0, 1) := by decide +kernel
theorem dX10_misfit_4 : decode cX10_misfit 4 = .ok (.iload_n 1, 1) := by decide +kernel
theorem dX10_misfit_5 : decode cX10_misfit 5 = .ok (.i2l, 1) := by decide +kernel
theorem dX10_misfit_6 : decode cX10_misfit 6 = .ok (.putfield 152, 3) := by decide +kernel
theorem dX10_misfit_9 : decode cX10_misfit 9 = .ok (.aload_n 0, 1) := by decide +kernel
theorem dX10_misfit_10 : decode cX10_misfit 10 = .ok (.iload_n 2, 1) := by decide +kernel
theorem dX10_misfit_11 : decode cX10_misfit 11 = .ok (.i2l, 1) := by decide +kernel
theorem dX10_misfit_12 : decode cX10_misfit 12 = .ok (.putfield 159, 3) := by decide +kernel
theorem dX10_misfit_15 : decode cX10_misfit 15 = .ok (.iconst 0, 1) := by decide +kernel
theorem dX10_misfit_16 : decode cX10_misfit 16 = .ok (.istore 7, 2) := by decide +kernel
theorem dX10_misfit_18 : decode cX10_misfit 18 = .ok (.iload 7, 2) := by decide +kernel
theorem dX10_misfit_20 : decode cX10_misfit 20 = .ok (.sipush 600, 3) := by decide +kernel
theorem dX10_misfit_23 : decode cX10_misfit 23 = .ok (.if_icmp .gt 88, 3) := by decide +kernel
theorem dX10_misfit_26 : decode cX10_misfit 26 = .ok (.iconst 0, 1) := by decide +kernel
theorem dX10_misfit_27 : decode cX10_misfit 27 = .ok (.istore 8, 2) := by decide +kernel
theorem dX10_misfit_29 : decode cX10_misfit 29 = .ok (.iload 8, 2) := by decide +kernel
theorem dX10_misfit_31 : decode cX10_misfit 31 = .ok (.aload_n 0, 1) := by decide +kernel
theorem dX10_misfit_32 : decode cX10_misfit 32 = .ok (.getfield 349, 3) := by decide +kernel
theorem dX10_misfit_35 : decode cX10_misfit 35 = .ok (.if_icmp .ge 61, 3) := by decide +kernel
theorem dX10_misfit_38 : decode cX10_misfit 38 = .ok (.lload 5, 2) := by decide +kernel
theorem dX10_misfit_40 : decode cX10_misfit 40 = .ok (.aload_n 0, 1) := by decide +kernel
theorem dX10_misfit_41 : decode cX10_misfit 41 = .ok (.getfield 111, 3) := by decide +kernel
theorem dX10_misfit_44 : decode cX10_misfit 44 = .ok (.iload 8, 2) := by decide +kernel
theorem dX10_misfit_46 : decode cX10_misfit 46 = .ok (.iaload, 1) := by decide +kernel
theorem dX10_misfit_47 : decode cX10_misfit 47 = .ok (.iload 7, 2) := by decide +kernel
theorem dX10_misfit_49 : decode cX10_misfit 49 = .ok (.if_icmp .ne 37, 3) := by decide +kernel
theorem dX10_misfit_52 : decode cX10_misfit 52 = .ok (.aload_n 0, 1) := by decide +kernel
theorem dX10_misfit_53 : decode cX10_misfit 53 = .ok (.getfield 152, 3) := by decide +kernel
theorem dX10_misfit_56 : decode cX10_misfit 56 = .ok (.aload_n 0, 1) := by decide +kernel
theorem dX10_misfit_57 : decode cX10_misfit 57 = .ok (.getfield 114, 3) := by decide +kernel
theorem dX10_misfit_60 : decode cX10_misfit 60 = .ok (.iload 8, 2) := by decide +kernel
theorem dX10_misfit_62 : decode cX10_misfit 62 = .ok (.iaload, 1) := by decide +kernel
theorem dX10_misfit_63 : decode cX10_misfit 63 = .ok (.i2l, 1) := by decide +kernel
theorem dX10_misfit_64 : decode cX10_misfit 64 = .ok (.invokestatic 352, 3) := by decide +kernel
theorem dX10_misfit_67 : decode cX10_misfit 67 = .ok (.aload_n 0, 1) := by decide +kernel
theorem dX10_misfit_68 : decode cX10_misfit 68 = .ok (.getfield 159, 3) := by decide +kernel
theorem dX10_misfit_71 : decode cX10_misfit 71 = .ok (.aload_n 0, 1) := by decide +kernel
theorem dX10_misfit_72 : decode cX10_misfit 72 = .ok (.getfield 117, 3) := by decide +kernel
theorem dX10_misfit_75 : decode cX10_misfit 75 = .ok (.iload 8, 2) := by decide +kernel
theorem dX10_misfit_77 : decode cX10_misfit 77 = .ok (.iaload, 1) := by decide +kernel
theorem dX10_misfit_78 : decode cX10_misfit 78 = .ok (.i2l, 1) := by decide +kernel
theorem dX10_misfit_79 : decode cX10_misfit 79 = .ok (.invokestatic 352, 3) := by decide +kernel
theorem dX10_misfit_82 : decode cX10_misfit 82 = .ok (.ladd, 1) := by decide +kernel
theorem dX10_misfit_83 : decode cX10_misfit 83 = .ok (.goto 4, 3) := by decide +kernel
theorem dX10_misfit_86 : decode cX10_misfit 86 = .ok (.lconst 0, 1) := by decide +kernel
theorem dX10_misfit_87 : decode cX10_misfit 87 = .ok (.ladd, 1) := by decide +kernel
theorem dX10_misfit_88 : decode cX10_misfit 88 = .ok (.lstore 5, 2) := by decide +kernel
theorem dX10_misfit_90 : decode cX10_misfit 90 = .ok (.iinc 8 1, 3) := by decide +kernel
theorem dX10_misfit_93 : decode cX10_misfit 93 = .ok (.goto (-64), 3) := by decide +kernel
theorem dX10_misfit_96 : decode cX10_misfit 96 = .ok (.aload_n 0, 1) := by decide +kernel
theorem dX10_misfit_97 : decode cX10_misfit 97 = .ok (.iload 7, 2) := by decide +kernel
theorem dX10_misfit_99 : decode cX10_misfit 99 = .ok (.iload 4, 2) := by decide +kernel
theorem dX10_misfit_101 : decode cX10_misfit 101 = .ok (.iload_n 3, 1) := by decide +kernel
theorem dX10_misfit_102 : decode cX10_misfit 102 = .ok (.invokevirtual 214, 3) := by decide +kernel
theorem dX10_misfit_105 : decode cX10_misfit 105 = .ok (.iinc 7 1, 3) := by decide +kernel
theorem dX10_misfit_108 : decode cX10_misfit 108 = .ok (.goto (-90), 3) := by decide +kernel
theorem dX10_misfit_111 : decode cX10_misfit 111 = .ok (.lload 5, 2) := by decide +kernel
theorem dX10_misfit_113 : decode cX10_misfit 113 = .ok (.lreturn, 1) := by decide +kernel
theorem dX10_tryFit_0 : decode cX10_tryFit 0 = .ok (.aload_n 0, 1) := by decide +kernel
theorem dX10_tryFit_1 : decode cX10_tryFit 1 = .ok (.invokevirtual 138, 3) := by decide +kernel
theorem dX10_tryFit_4 : decode cX10_tryFit 4 = .ok (.iload 5, 2) := by decide +kernel
theorem dX10_tryFit_6 : decode cX10_tryFit 6 = .ok (.ifCond .lt 14, 3) := by decide +kernel
theorem dX10_tryFit_9 : decode cX10_tryFit 9 = .ok (.aload_n 0, 1) := by decide +kernel
theorem dX10_tryFit_10 : decode cX10_tryFit 10 = .ok (.getfield 19, 3) := by decide +kernel
theorem dX10_tryFit_13 : decode cX10_tryFit 13 = .ok (.iload 5, 2) := by decide +kernel
theorem dX10_tryFit_15 : decode cX10_tryFit 15 = .ok (.iconst 1, 1) := by decide +kernel
theorem dX10_tryFit_16 : decode cX10_tryFit 16 = .ok (.iload 6, 2) := by decide +kernel
theorem dX10_tryFit_18 : decode cX10_tryFit 18 = .ok (.ishl, 1) := by decide +kernel
theorem dX10_tryFit_19 : decode cX10_tryFit 19 = .ok (.iastore, 1) := by decide +kernel
theorem dX10_tryFit_20 : decode cX10_tryFit 20 = .ok (.aload_n 0, 1) := by decide +kernel
theorem dX10_tryFit_21 : decode cX10_tryFit 21 = .ok (.iload_n 1, 1) := by decide +kernel
theorem dX10_tryFit_22 : decode cX10_tryFit 22 = .ok (.iload_n 2, 1) := by decide +kernel
theorem dX10_tryFit_23 : decode cX10_tryFit 23 = .ok (.iload_n 3, 1) := by decide +kernel
theorem dX10_tryFit_24 : decode cX10_tryFit 24 = .ok (.iload 4, 2) := by decide +kernel
theorem dX10_tryFit_26 : decode cX10_tryFit 26 = .ok (.invokevirtual 356, 3) := by decide +kernel
theorem dX10_tryFit_29 : decode cX10_tryFit 29 = .ok (.lstore 7, 2) := by decide +kernel
theorem dX10_tryFit_31 : decode cX10_tryFit 31 = .ok (.aload_n 0, 1) := by decide +kernel
theorem dX10_tryFit_32 : decode cX10_tryFit 32 = .ok (.getfield 360, 3) := by decide +kernel
theorem dX10_tryFit_35 : decode cX10_tryFit 35 = .ok (.lconst 0, 1) := by decide +kernel
theorem dX10_tryFit_36 : decode cX10_tryFit 36 = .ok (.lcmp, 1) := by decide +kernel
theorem dX10_tryFit_37 : decode cX10_tryFit 37 = .ok (.ifCond .lt 13, 3) := by decide +kernel
theorem dX10_tryFit_40 : decode cX10_tryFit 40 = .ok (.lload 7, 2) := by decide +kernel
theorem dX10_tryFit_42 : decode cX10_tryFit 42 = .ok (.aload_n 0, 1) := by decide +kernel
theorem dX10_tryFit_43 : decode cX10_tryFit 43 = .ok (.getfield 360, 3) := by decide +kernel
theorem dX10_tryFit_46 : decode cX10_tryFit 46 = .ok (.lcmp, 1) := by decide +kernel
theorem dX10_tryFit_47 : decode cX10_tryFit 47 = .ok (.ifCond .ge 27, 3) := by decide +kernel
theorem dX10_tryFit_50 : decode cX10_tryFit 50 = .ok (.aload_n 0, 1) := by decide +kernel
theorem dX10_tryFit_51 : decode cX10_tryFit 51 = .ok (.lload 7, 2) := by decide +kernel
theorem dX10_tryFit_53 : decode cX10_tryFit 53 = .ok (.putfield 360, 3) := by decide +kernel
theorem dX10_tryFit_56 : decode cX10_tryFit 56 = .ok (.aload_n 0, 1) := by decide +kernel
theorem dX10_tryFit_57 : decode cX10_tryFit 57 = .ok (.iload 4, 2) := by decide +kernel
theorem dX10_tryFit_59 : decode cX10_tryFit 59 = .ok (.putfield 363, 3) := by decide +kernel
theorem dX10_tryFit_62 : decode cX10_tryFit 62 = .ok (.aload_n 0, 1) := by decide +kernel
theorem dX10_tryFit_63 : decode cX10_tryFit 63 = .ok (.iload 5, 2) := by decide +kernel
theorem dX10_tryFit_65 : decode cX10_tryFit 65 = .ok (.putfield 366, 3) := by decide +kernel
theorem dX10_tryFit_68 : decode cX10_tryFit 68 = .ok (.aload_n 0, 1) := by decide +kernel
theorem dX10_tryFit_69 : decode cX10_tryFit 69 = .ok (.iload 6, 2) := by decide +kernel
theorem dX10_tryFit_71 : decode cX10_tryFit 71 = .ok (.putfield 369, 3) := by decide +kernel
theorem dX10_tryFit_74 : decode cX10_tryFit 74 = .ok (.return_, 1) := by decide +kernel
theorem dX10_told_0 : decode cX10_told 0 = .ok (.iload_n 1, 1) := by decide +kernel
theorem dX10_told_1 : decode cX10_told 1 = .ok (.iload_n 2, 1) := by decide +kernel
theorem dX10_told_2 : decode cX10_told 2 = .ok (.iload_n 3, 1) := by decide +kernel
theorem dX10_told_3 : decode cX10_told 3 = .ok (.invokestatic 186, 3) := by decide +kernel
theorem dX10_told_6 : decode cX10_told 6 = .ok (.ifCond .eq 16, 3) := by decide +kernel
theorem dX10_told_9 : decode cX10_told 9 = .ok (.iload 4, 2) := by decide +kernel
theorem dX10_told_11 : decode cX10_told 11 = .ok (.i2l, 1) := by decide +kernel
theorem dX10_told_12 : decode cX10_told 12 = .ok (.lconst 0, 1) := by decide +kernel
theorem dX10_told_13 : decode cX10_told 13 = .ok (.ldc2_w 120, 3) := by decide +kernel
theorem dX10_told_16 : decode cX10_told 16 = .ok (.invokestatic 122, 3) := by decide +kernel
theorem dX10_told_19 : decode cX10_told 19 = .ok (.ifCond .ne 7, 3) := by decide +kernel
theorem dX10_told_22 : decode cX10_told 22 = .ok (.ldc2_w 171, 3) := by decide +kernel
theorem dX10_told_25 : decode cX10_told 25 = .ok (.lreturn, 1) := by decide +kernel
theorem dX10_told_26 : decode cX10_told 26 = .ok (.aload_n 0, 1) := by decide +kernel
theorem dX10_told_27 : decode cX10_told 27 = .ok (.getfield 349, 3) := by decide +kernel
theorem dX10_told_30 : decode cX10_told 30 = .ok (.ifCond .ne 7, 3) := by decide +kernel
theorem dX10_told_33 : decode cX10_told 33 = .ok (.ldc2_w 217, 3) := by decide +kernel
theorem dX10_told_36 : decode cX10_told 36 = .ok (.lreturn, 1) := by decide +kernel
theorem dX10_told_37 : decode cX10_told 37 = .ok (.aload_n 0, 1) := by decide +kernel
theorem dX10_told_38 : decode cX10_told 38 = .ok (.ldc2_w 219, 3) := by decide +kernel
theorem dX10_told_41 : decode cX10_told 41 = .ok (.putfield 360, 3) := by decide +kernel
theorem dX10_told_44 : decode cX10_told 44 = .ok (.iconst 0, 1) := by decide +kernel
theorem dX10_told_45 : decode cX10_told 45 = .ok (.istore 5, 2) := by decide +kernel
theorem dX10_told_47 : decode cX10_told 47 = .ok (.iload 5, 2) := by decide +kernel
theorem dX10_told_49 : decode cX10_told 49 = .ok (.bipush 11, 2) := by decide +kernel
theorem dX10_told_51 : decode cX10_told 51 = .ok (.if_icmp .ge 97, 3) := by decide +kernel
theorem dX10_told_54 : decode cX10_told 54 = .ok (.iload 5, 2) := by decide +kernel
theorem dX10_told_56 : decode cX10_told 56 = .ok (.iconst 2, 1) := by decide +kernel
theorem dX10_told_57 : decode cX10_told 57 = .ok (.irem, 1) := by decide +kernel
theorem dX10_told_58 : decode cX10_told 58 = .ok (.ifCond .ne 10, 3) := by decide +kernel
theorem dX10_told_61 : decode cX10_told 61 = .ok (.iload 5, 2) := by decide +kernel
theorem dX10_told_63 : decode cX10_told 63 = .ok (.iconst 2, 1) := by decide +kernel
theorem dX10_told_64 : decode cX10_told 64 = .ok (.idiv, 1) := by decide +kernel
theorem dX10_told_65 : decode cX10_told 65 = .ok (.goto 10, 3) := by decide +kernel
theorem dX10_told_68 : decode cX10_told 68 = .ok (.iload 5, 2) := by decide +kernel
theorem dX10_told_70 : decode cX10_told 70 = .ok (.iconst 1, 1) := by decide +kernel
theorem dX10_told_71 : decode cX10_told 71 = .ok (.iadd, 1) := by decide +kernel
theorem dX10_told_72 : decode cX10_told 72 = .ok (.ineg, 1) := by decide +kernel
theorem dX10_told_73 : decode cX10_told 73 = .ok (.iconst 2, 1) := by decide +kernel
theorem dX10_told_74 : decode cX10_told 74 = .ok (.idiv, 1) := by decide +kernel
theorem dX10_told_75 : decode cX10_told 75 = .ok (.istore 6, 2) := by decide +kernel
theorem dX10_told_77 : decode cX10_told 77 = .ok (.aload_n 0, 1) := by decide +kernel
theorem dX10_told_78 : decode cX10_told 78 = .ok (.iload_n 1, 1) := by decide +kernel
theorem dX10_told_79 : decode cX10_told 79 = .ok (.iload_n 2, 1) := by decide +kernel
theorem dX10_told_80 : decode cX10_told 80 = .ok (.iload_n 3, 1) := by decide +kernel
theorem dX10_told_81 : decode cX10_told 81 = .ok (.iload 6, 2) := by decide +kernel
theorem dX10_told_83 : decode cX10_told 83 = .ok (.bipush (-6), 2) := by decide +kernel
theorem dX10_told_85 : decode cX10_told 85 = .ok (.bipush (-6), 2) := by decide +kernel
theorem dX10_told_87 : decode cX10_told 87 = .ok (.invokevirtual 372, 3) := by decide +kernel
theorem dX10_told_90 : decode cX10_told 90 = .ok (.iconst 0, 1) := by decide +kernel
theorem dX10_told_91 : decode cX10_told 91 = .ok (.istore 7, 2) := by decide +kernel
theorem dX10_told_93 : decode cX10_told 93 = .ok (.iload 7, 2) := by decide +kernel
theorem dX10_told_95 : decode cX10_told 95 = .ok (.bipush 10, 2) := by decide +kernel
theorem dX10_told_97 : decode cX10_told 97 = .ok (.if_icmp .ge 45, 3) := by decide +kernel
theorem dX10_told_100 : decode cX10_told 100 = .ok (.iconst 0, 1) := by decide +kernel
theorem dX10_told_101 : decode cX10_told 101 = .ok (.istore 8, 2) := by decide +kernel
theorem dX10_told_103 : decode cX10_told 103 = .ok (.iload 8, 2) := by decide +kernel
theorem dX10_told_105 : decode cX10_told 105 = .ok (.aload_n 0, 1) := by decide +kernel
theorem dX10_told_106 : decode cX10_told 106 = .ok (.getfield 16, 3) := by decide +kernel
theorem dX10_told_109 : decode cX10_told 109 = .ok (.aload_n 0, 1) := by decide +kernel
theorem dX10_told_110 : decode cX10_told 110 = .ok (.getfield 177, 3) := by decide +kernel
theorem dX10_told_113 : decode cX10_told 113 = .ok (.iaload, 1) := by decide +kernel
theorem dX10_told_114 : decode cX10_told 114 = .ok (.if_icmp .ge 22, 3) := by decide +kernel
theorem dX10_told_117 : decode cX10_told 117 = .ok (.aload_n 0, 1) := by decide +kernel
theorem dX10_told_118 : decode cX10_told 118 = .ok (.iload_n 1, 1) := by decide +kernel
theorem dX10_told_119 : decode cX10_told 119 = .ok (.iload_n 2, 1) := by decide +kernel
theorem dX10_told_120 : decode cX10_told 120 = .ok (.iload_n 3, 1) := by decide +kernel
theorem dX10_told_121 : decode cX10_told 121 = .ok (.iload 6, 2) := by decide +kernel
theorem dX10_told_123 : decode cX10_told 123 = .ok (.iload 7, 2) := by decide +kernel
theorem dX10_told_125 : decode cX10_told 125 = .ok (.iload 8, 2) := by decide +kernel
theorem dX10_told_127 : decode cX10_told 127 = .ok (.invokevirtual 372, 3) := by decide +kernel
theorem dX10_told_130 : decode cX10_told 130 = .ok (.iinc 8 1, 3) := by decide +kernel
theorem dX10_told_133 : decode cX10_told 133 = .ok (.goto (-30), 3) := by decide +kernel
theorem dX10_told_136 : decode cX10_told 136 = .ok (.iinc 7 1, 3) := by decide +kernel
theorem dX10_told_139 : decode cX10_told 139 = .ok (.goto (-46), 3) := by decide +kernel
theorem dX10_told_142 : decode cX10_told 142 = .ok (.iinc 5 1, 3) := by decide +kernel
theorem dX10_told_145 : decode cX10_told 145 = .ok (.goto (-98), 3) := by decide +kernel
theorem dX10_told_148 : decode cX10_told 148 = .ok (.iload 4, 2) := by decide +kernel
theorem dX10_told_150 : decode cX10_told 150 = .ok (.ifCond .ne 10, 3) := by decide +kernel
theorem dX10_told_153 : decode cX10_told 153 = .ok (.aload_n 0, 1) := by decide +kernel
theorem dX10_told_154 : decode cX10_told 154 = .ok (.getfield 360, 3) := by decide +kernel
theorem dX10_told_157 : decode cX10_told 157 = .ok (.goto 36, 3) := by decide +kernel
theorem dX10_told_160 : decode cX10_told 160 = .ok (.iload 4, 2) := by decide +kernel
theorem dX10_told_162 : decode cX10_told 162 = .ok (.iconst 1, 1) := by decide +kernel
theorem dX10_told_163 : decode cX10_told 163 = .ok (.if_icmp .ne 11, 3) := by decide +kernel
theorem dX10_told_166 : decode cX10_told 166 = .ok (.aload_n 0, 1) := by decide +kernel
theorem dX10_told_167 : decode cX10_told 167 = .ok (.getfield 363, 3) := by decide +kernel
theorem dX10_told_170 : decode cX10_told 170 = .ok (.i2l, 1) := by decide +kernel
theorem dX10_told_171 : decode cX10_told 171 = .ok (.goto 22, 3) := by decide +kernel
theorem dX10_told_174 : decode cX10_told 174 = .ok (.iload 4, 2) := by decide +kernel
theorem dX10_told_176 : decode cX10_told 176 = .ok (.iconst 2, 1) := by decide +kernel
theorem dX10_told_177 : decode cX10_told 177 = .ok (.if_icmp .ne 11, 3) := by decide +kernel
theorem dX10_told_180 : decode cX10_told 180 = .ok (.aload_n 0, 1) := by decide +kernel
theorem dX10_told_181 : decode cX10_told 181 = .ok (.getfield 366, 3) := by decide +kernel
theorem dX10_told_184 : decode cX10_told 184 = .ok (.i2l, 1) := by decide +kernel
theorem dX10_told_185 : decode cX10_told 185 = .ok (.goto 8, 3) := by decide +kernel
theorem dX10_told_188 : decode cX10_told 188 = .ok (.aload_n 0, 1) := by decide +kernel
theorem dX10_told_189 : decode cX10_told 189 = .ok (.getfield 369, 3) := by decide +kernel
theorem dX10_told_192 : decode cX10_told 192 = .ok (.i2l, 1) := by decide +kernel
theorem dX10_told_193 : decode cX10_told 193 = .ok (.lreturn, 1) := by decide +kernel
theorem dX10_about_0 : decode cX10_about 0 = .ok (.iload_n 1, 1) := by decide +kernel
theorem dX10_about_1 : decode cX10_about 1 = .ok (.i2l, 1) := by decide +kernel
theorem dX10_about_2 : decode cX10_about 2 = .ok (.ldc2_w 376, 3) := by decide +kernel
theorem dX10_about_5 : decode cX10_about 5 = .ok (.ldc2_w 378, 3) := by decide +kernel
theorem dX10_about_8 : decode cX10_about 8 = .ok (.invokestatic 122, 3) := by decide +kernel
theorem dX10_about_11 : decode cX10_about 11 = .ok (.ifCond .eq 13, 3) := by decide +kernel
theorem dX10_about_14 : decode cX10_about 14 = .ok (.aload_n 0, 1) := by decide +kernel
theorem dX10_about_15 : decode cX10_about 15 = .ok (.getfield 16, 3) := by decide +kernel
theorem dX10_about_18 : decode cX10_about 18 = .ok (.iload_n 1, 1) := by decide +kernel
theorem dX10_about_19 : decode cX10_about 19 = .ok (.bipush 10, 2) := by decide +kernel
theorem dX10_about_21 : decode cX10_about 21 = .ok (.isub, 1) := by decide +kernel
theorem dX10_about_22 : decode cX10_about 22 = .ok (.iaload, 1) := by decide +kernel
theorem dX10_about_23 : decode cX10_about 23 = .ok (.ireturn, 1) := by decide +kernel
theorem dX10_about_24 : decode cX10_about 24 = .ok (.iconst 0, 1) := by decide +kernel
theorem dX10_about_25 : decode cX10_about 25 = .ok (.istore_n 2, 1) := by decide +kernel
theorem dX10_about_26 : decode cX10_about 26 = .ok (.iconst 0, 1) := by decide +kernel
theorem dX10_about_27 : decode cX10_about 27 = .ok (.istore_n 3, 1) := by decide +kernel
theorem dX10_about_28 : decode cX10_about 28 = .ok (.iload_n 3, 1) := by decide +kernel
theorem dX10_about_29 : decode cX10_about 29 = .ok (.sipush 144, 3) := by decide +kernel
theorem dX10_about_32 : decode cX10_about 32 = .ok (.if_icmp .ge 26, 3) := by decide +kernel
theorem dX10_about_35 : decode cX10_about 35 = .ok (.iload_n 2, 1) := by decide +kernel
theorem dX10_about_36 : decode cX10_about 36 = .ok (.aload_n 0, 1) := by decide +kernel
theorem dX10_about_37 : decode cX10_about 37 = .ok (.getfield 91, 3) := by decide +kernel
theorem dX10_about_40 : decode cX10_about 40 = .ok (.iload_n 3, 1) := by decide +kernel
theorem dX10_about_41 : decode cX10_about 41 = .ok (.iaload, 1) := by decide +kernel
theorem dX10_about_42 : decode cX10_about 42 = .ok (.ifCond .ge 7, 3) := by decide +kernel
theorem dX10_about_45 : decode cX10_about 45 = .ok (.iconst 1, 1) := by decide +kernel
theorem dX10_about_46 : decode cX10_about 46 = .ok (.goto 4, 3) := by decide +kernel
theorem dX10_about_49 : decode cX10_about 49 = .ok (.iconst 0, 1) := by decide +kernel
theorem dX10_about_50 : decode cX10_about 50 = .ok (.iadd, 1) := by decide +kernel
theorem dX10_about_51 : decode cX10_about 51 = .ok (.istore_n 2, 1) := by decide +kernel
theorem dX10_about_52 : decode cX10_about 52 = .ok (.iinc 3 1, 3) := by decide +kernel
theorem dX10_about_55 : decode cX10_about 55 = .ok (.goto (-27), 3) := by decide +kernel
theorem dX10_about_58 : decode cX10_about 58 = .ok (.iload_n 1, 1) := by decide +kernel
theorem dX10_about_59 : decode cX10_about 59 = .ok (.tableswitch 82 0 7 #[45, 50, 55, 60, 65, 70, 75, 77], 45) := by decide +kernel
theorem dX10_about_104 : decode cX10_about 104 = .ok (.aload_n 0, 1) := by decide +kernel
theorem dX10_about_105 : decode cX10_about 105 = .ok (.getfield 177, 3) := by decide +kernel
theorem dX10_about_108 : decode cX10_about 108 = .ok (.ireturn, 1) := by decide +kernel
theorem dX10_about_109 : decode cX10_about 109 = .ok (.aload_n 0, 1) := by decide +kernel
theorem dX10_about_110 : decode cX10_about 110 = .ok (.getfield 194, 3) := by decide +kernel
theorem dX10_about_113 : decode cX10_about 113 = .ok (.ireturn, 1) := by decide +kernel
theorem dX10_about_114 : decode cX10_about 114 = .ok (.aload_n 0, 1) := by decide +kernel
theorem dX10_about_115 : decode cX10_about 115 = .ok (.getfield 201, 3) := by decide +kernel
theorem dX10_about_118 : decode cX10_about 118 = .ok (.ireturn, 1) := by decide +kernel
theorem dX10_about_119 : decode cX10_about 119 = .ok (.aload_n 0, 1) := by decide +kernel
theorem dX10_about_120 : decode cX10_about 120 = .ok (.getfield 204, 3) := by decide +kernel
theorem dX10_about_123 : decode cX10_about 123 = .ok (.ireturn, 1) := by decide +kernel
theorem dX10_about_124 : decode cX10_about 124 = .ok (.aload_n 0, 1) := by decide +kernel
theorem dX10_about_125 : decode cX10_about 125 = .ok (.getfield 207, 3) := by decide +kernel
theorem dX10_about_128 : decode cX10_about 128 = .ok (.ireturn, 1) := by decide +kernel
theorem dX10_about_129 : decode cX10_about 129 = .ok (.aload_n 0, 1) := by decide +kernel
theorem dX10_about_130 : decode cX10_about 130 = .ok (.getfield 275, 3) := by decide +kernel
theorem dX10_about_133 : decode cX10_about 133 = .ok (.ireturn, 1) := by decide +kernel
theorem dX10_about_134 : decode cX10_about 134 = .ok (.iload_n 2, 1) := by decide +kernel
theorem dX10_about_135 : decode cX10_about 135 = .ok (.ireturn, 1) := by decide +kernel
theorem dX10_about_136 : decode cX10_about 136 = .ok (.aload_n 0, 1) := by decide +kernel
theorem dX10_about_137 : decode cX10_about 137 = .ok (.getfield 349, 3) := by decide +kernel
theorem dX10_about_140 : decode cX10_about 140 = .ok (.ireturn, 1) := by decide +kernel
theorem dX10_about_141 : decode cX10_about 141 = .ok (.bipush (-2), 2) := by decide +kernel
theorem dX10_about_143 : decode cX10_about 143 = .ok (.ireturn, 1) := by decide +kernel
