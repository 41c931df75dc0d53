theorem dX10_init_0 : decode cX10_init 0 = .ok (.aload_n 0, 1) := by decide +kernel
theorem dX10_init_1 : decode cX10_init 1 = .ok (.invokespecial 1, 3) := by decide +kernel
theorem dX10_init_4 : decode cX10_init 4 = .ok (.aload_n 0, 1) := by decide +kernel
theorem dX10_init_5 : decode cX10_init 5 = .ok (.bipush 48, 2) := by decide +kernel
theorem dX10_init_7 : decode cX10_init 7 = .ok (.newarray .int, 2) := by decide +kernel
theorem dX10_init_9 : decode cX10_init 9 = .ok (.putfield 7, 3) := by decide +kernel
theorem dX10_init_12 : decode cX10_init 12 = .ok (.aload_n 0, 1) := by decide +kernel
theorem dX10_init_13 : decode cX10_init 13 = .ok (.bipush 48, 2) := by decide +kernel
theorem dX10_init_15 : decode cX10_init 15 = .ok (.newarray .int, 2) := by decide +kernel
theorem dX10_init_17 : decode cX10_init 17 = .ok (.putfield 13, 3) := by decide +kernel
theorem dX10_init_20 : decode cX10_init 20 = .ok (.aload_n 0, 1) := by decide +kernel
theorem dX10_init_21 : decode cX10_init 21 = .ok (.iconst 4, 1) := by decide +kernel
theorem dX10_init_22 : decode cX10_init 22 = .ok (.newarray .int, 2) := by decide +kernel
theorem dX10_init_24 : decode cX10_init 24 = .ok (.putfield 16, 3) := by decide +kernel
theorem dX10_init_27 : decode cX10_init 27 = .ok (.aload_n 0, 1) := by decide +kernel
theorem dX10_init_28 : decode cX10_init 28 = .ok (.bipush 11, 2) := by decide +kernel
theorem dX10_init_30 : decode cX10_init 30 = .ok (.newarray .int, 2) := by decide +kernel
theorem dX10_init_32 : decode cX10_init 32 = .ok (.putfield 19, 3) := by decide +kernel
theorem dX10_init_35 : decode cX10_init 35 = .ok (.aload_n 0, 1) := by decide +kernel
theorem dX10_init_36 : decode cX10_init 36 = .ok (.bipush 9, 2) := by decide +kernel
theorem dX10_init_38 : decode cX10_init 38 = .ok (.newarray .int, 2) := by decide +kernel
theorem dX10_init_40 : decode cX10_init 40 = .ok (.putfield 22, 3) := by decide +kernel
theorem dX10_init_43 : decode cX10_init 43 = .ok (.aload_n 0, 1) := by decide +kernel
theorem dX10_init_44 : decode cX10_init 44 = .ok (.bipush 9, 2) := by decide +kernel
theorem dX10_init_46 : decode cX10_init 46 = .ok (.newarray .int, 2) := by decide +kernel
theorem dX10_init_48 : decode cX10_init 48 = .ok (.putfield 25, 3) := by decide +kernel
theorem dX10_init_51 : decode cX10_init 51 = .ok (.aload_n 0, 1) := by decide +kernel
theorem dX10_init_52 : decode cX10_init 52 = .ok (.bipush 9, 2) := by decide +kernel
theorem dX10_init_54 : decode cX10_init 54 = .ok (.newarray .int, 2) := by decide +kernel
theorem dX10_init_56 : decode cX10_init 56 = .ok (.putfield 28, 3) := by decide +kernel
theorem dX10_init_59 : decode cX10_init 59 = .ok (.aload_n 0, 1) := by decide +kernel
theorem dX10_init_60 : decode cX10_init 60 = .ok (.bipush 9, 2) := by decide +kernel
theorem dX10_init_62 : decode cX10_init 62 = .ok (.newarray .int, 2) := by decide +kernel
theorem dX10_init_64 : decode cX10_init 64 = .ok (.putfield 31, 3) := by decide +kernel
theorem dX10_init_67 : decode cX10_init 67 = .ok (.aload_n 0, 1) := by decide +kernel
theorem dX10_init_68 : decode cX10_init 68 = .ok (.bipush 20, 2) := by decide +kernel
theorem dX10_init_70 : decode cX10_init 70 = .ok (.newarray .int, 2) := by decide +kernel
theorem dX10_init_72 : decode cX10_init 72 = .ok (.putfield 34, 3) := by decide +kernel
theorem dX10_init_75 : decode cX10_init 75 = .ok (.aload_n 0, 1) := by decide +kernel
theorem dX10_init_76 : decode cX10_init 76 = .ok (.bipush 20, 2) := by decide +kernel
theorem dX10_init_78 : decode cX10_init 78 = .ok (.newarray .int, 2) := by decide +kernel
theorem dX10_init_80 : decode cX10_init 80 = .ok (.putfield 37, 3) := by decide +kernel
theorem dX10_init_83 : decode cX10_init 83 = .ok (.aload_n 0, 1) := by decide +kernel
theorem dX10_init_84 : decode cX10_init 84 = .ok (.bipush 20, 2) := by decide +kernel
theorem dX10_init_86 : decode cX10_init 86 = .ok (.newarray .int, 2) := by decide +kernel
theorem dX10_init_88 : decode cX10_init 88 = .ok (.putfield 40, 3) := by decide +kernel
theorem dX10_init_91 : decode cX10_init 91 = .ok (.aload_n 0, 1) := by decide +kernel
theorem dX10_init_92 : decode cX10_init 92 = .ok (.bipush 9, 2) := by decide +kernel
theorem dX10_init_94 : decode cX10_init 94 = .ok (.newarray .long, 2) := by decide +kernel
theorem dX10_init_96 : decode cX10_init 96 = .ok (.putfield 43, 3) := by decide +kernel
theorem dX10_init_99 : decode cX10_init 99 = .ok (.aload_n 0, 1) := by decide +kernel
theorem dX10_init_100 : decode cX10_init 100 = .ok (.bipush 9, 2) := by decide +kernel
theorem dX10_init_102 : decode cX10_init 102 = .ok (.newarray .long, 2) := by decide +kernel
theorem dX10_init_104 : decode cX10_init 104 = .ok (.putfield 47, 3) := by decide +kernel
theorem dX10_init_107 : decode cX10_init 107 = .ok (.aload_n 0, 1) := by decide +kernel
theorem dX10_init_108 : decode cX10_init 108 = .ok (.bipush 10, 2) := by decide +kernel
theorem dX10_init_110 : decode cX10_init 110 = .ok (.putfield 50, 3) := by decide +kernel
theorem dX10_init_113 : decode cX10_init 113 = .ok (.aload_n 0, 1) := by decide +kernel
theorem dX10_init_114 : decode cX10_init 114 = .ok (.ldc 54, 2) := by decide +kernel
theorem dX10_init_116 : decode cX10_init 116 = .ok (.putfield 55, 3) := by decide +kernel
theorem dX10_init_119 : decode cX10_init 119 = .ok (.aload_n 0, 1) := by decide +kernel
theorem dX10_init_120 : decode cX10_init 120 = .ok (.iconst 5, 1) := by decide +kernel
theorem dX10_init_121 : decode cX10_init 121 = .ok (.putfield 58, 3) := by decide +kernel
theorem dX10_init_124 : decode cX10_init 124 = .ok (.aload_n 0, 1) := by decide +kernel
theorem dX10_init_125 : decode cX10_init 125 = .ok (.sipush 20000, 3) := by decide +kernel
theorem dX10_init_128 : decode cX10_init 128 = .ok (.putfield 61, 3) := by decide +kernel
theorem dX10_init_131 : decode cX10_init 131 = .ok (.aload_n 0, 1) := by decide +kernel
theorem dX10_init_132 : decode cX10_init 132 = .ok (.iconst 4, 1) := by decide +kernel
theorem dX10_init_133 : decode cX10_init 133 = .ok (.newarray .long, 2) := by decide +kernel
theorem dX10_init_135 : decode cX10_init 135 = .ok (.putfield 64, 3) := by decide +kernel
theorem dX10_init_138 : decode cX10_init 138 = .ok (.aload_n 0, 1) := by decide +kernel
theorem dX10_init_139 : decode cX10_init 139 = .ok (.iconst 4, 1) := by decide +kernel
theorem dX10_init_140 : decode cX10_init 140 = .ok (.newarray .long, 2) := by decide +kernel
theorem dX10_init_142 : decode cX10_init 142 = .ok (.putfield 67, 3) := by decide +kernel
theorem dX10_init_145 : decode cX10_init 145 = .ok (.aload_n 0, 1) := by decide +kernel
theorem dX10_init_146 : decode cX10_init 146 = .ok (.iconst 4, 1) := by decide +kernel
theorem dX10_init_147 : decode cX10_init 147 = .ok (.newarray .int, 2) := by decide +kernel
theorem dX10_init_149 : decode cX10_init 149 = .ok (.putfield 70, 3) := by decide +kernel
theorem dX10_init_152 : decode cX10_init 152 = .ok (.aload_n 0, 1) := by decide +kernel
theorem dX10_init_153 : decode cX10_init 153 = .ok (.iconst 4, 1) := by decide +kernel
theorem dX10_init_154 : decode cX10_init 154 = .ok (.newarray .int, 2) := by decide +kernel
theorem dX10_init_156 : decode cX10_init 156 = .ok (.putfield 73, 3) := by decide +kernel
theorem dX10_init_159 : decode cX10_init 159 = .ok (.aload_n 0, 1) := by decide +kernel
theorem dX10_init_160 : decode cX10_init 160 = .ok (.iconst 4, 1) := by decide +kernel
theorem dX10_init_161 : decode cX10_init 161 = .ok (.newarray .int, 2) := by decide +kernel
theorem dX10_init_163 : decode cX10_init 163 = .ok (.putfield 76, 3) := by decide +kernel
theorem dX10_init_166 : decode cX10_init 166 = .ok (.aload_n 0, 1) := by decide +kernel
theorem dX10_init_167 : decode cX10_init 167 = .ok (.bipush 10, 2) := by decide +kernel
theorem dX10_init_169 : decode cX10_init 169 = .ok (.newarray .int, 2) := by decide +kernel
theorem dX10_init_171 : decode cX10_init 171 = .ok (.putfield 79, 3) := by decide +kernel
theorem dX10_init_174 : decode cX10_init 174 = .ok (.aload_n 0, 1) := by decide +kernel
theorem dX10_init_175 : decode cX10_init 175 = .ok (.bipush 10, 2) := by decide +kernel
theorem dX10_init_177 : decode cX10_init 177 = .ok (.newarray .int, 2) := by decide +kernel
theorem dX10_init_179 : decode cX10_init 179 = .ok (.putfield 82, 3) := by decide +kernel
theorem dX10_init_182 : decode cX10_init 182 = .ok (.aload_n 0, 1) := by decide +kernel
theorem dX10_init_183 : decode cX10_init 183 = .ok (.bipush 10, 2) := by decide +kernel
theorem dX10_init_185 : decode cX10_init 185 = .ok (.newarray .int, 2) := by decide +kernel
theorem dX10_init_187 : decode cX10_init 187 = .ok (.putfield 85, 3) := by decide +kernel
theorem dX10_init_190 : decode cX10_init 190 = .ok (.aload_n 0, 1) := by decide +kernel
theorem dX10_init_191 : decode cX10_init 191 = .ok (.sipush 400, 3) := by decide +kernel
theorem dX10_init_194 : decode cX10_init 194 = .ok (.newarray .int, 2) := by decide +kernel
theorem dX10_init_196 : decode cX10_init 196 = .ok (.putfield 88, 3) := by decide +kernel
theorem dX10_init_199 : decode cX10_init 199 = .ok (.aload_n 0, 1) := by decide +kernel
theorem dX10_init_200 : decode cX10_init 200 = .ok (.sipush 144, 3) := by decide +kernel
theorem dX10_init_203 : decode cX10_init 203 = .ok (.newarray .int, 2) := by decide +kernel
theorem dX10_init_205 : decode cX10_init 205 = .ok (.putfield 91, 3) := by decide +kernel
theorem dX10_init_208 : decode cX10_init 208 = .ok (.aload_n 0, 1) := by decide +kernel
theorem dX10_init_209 : decode cX10_init 209 = .ok (.bipush 82, 2) := by decide +kernel
theorem dX10_init_211 : decode cX10_init 211 = .ok (.newarray .int, 2) := by decide +kernel
theorem dX10_init_213 : decode cX10_init 213 = .ok (.putfield 94, 3) := by decide +kernel
theorem dX10_init_216 : decode cX10_init 216 = .ok (.aload_n 0, 1) := by decide +kernel
theorem dX10_init_217 : decode cX10_init 217 = .ok (.iconst 2, 1) := by decide +kernel
theorem dX10_init_218 : decode cX10_init 218 = .ok (.newarray .int, 2) := by decide +kernel
theorem dX10_init_220 : decode cX10_init 220 = .ok (.putfield 97, 3) := by decide +kernel
theorem dX10_init_223 : decode cX10_init 223 = .ok (.aload_n 0, 1) := by decide +kernel
theorem dX10_init_224 : decode cX10_init 224 = .ok (.iconst 2, 1) := by decide +kernel
theorem dX10_init_225 : decode cX10_init 225 = .ok (.newarray .boolean, 2) := by decide +kernel
theorem dX10_init_227 : decode cX10_init 227 = .ok (.putfield 100, 3) := by decide +kernel
theorem dX10_init_230 : decode cX10_init 230 = .ok (.aload_n 0, 1) := by decide +kernel
theorem dX10_init_231 : decode cX10_init 231 = .ok (.iconst (-1), 1) := by decide +kernel
theorem dX10_init_232 : decode cX10_init 232 = .ok (.putfield 104, 3) := by decide +kernel
theorem dX10_init_235 : decode cX10_init 235 = .ok (.aload_n 0, 1) := by decide +kernel
theorem dX10_init_236 : decode cX10_init 236 = .ok (.ldc 107, 2) := by decide +kernel
theorem dX10_init_238 : decode cX10_init 238 = .ok (.newarray .int, 2) := by decide +kernel
theorem dX10_init_240 : decode cX10_init 240 = .ok (.putfield 108, 3) := by decide +kernel
theorem dX10_init_243 : decode cX10_init 243 = .ok (.aload_n 0, 1) := by decide +kernel
theorem dX10_init_244 : decode cX10_init 244 = .ok (.bipush 12, 2) := by decide +kernel
theorem dX10_init_246 : decode cX10_init 246 = .ok (.newarray .int, 2) := by decide +kernel
theorem dX10_init_248 : decode cX10_init 248 = .ok (.putfield 111, 3) := by decide +kernel
theorem dX10_init_251 : decode cX10_init 251 = .ok (.aload_n 0, 1) := by decide +kernel
theorem dX10_init_252 : decode cX10_init 252 = .ok (.bipush 12, 2) := by decide +kernel
theorem dX10_init_254 : decode cX10_init 254 = .ok (.newarray .int, 2) := by decide +kernel
theorem dX10_init_256 : decode cX10_init 256 = .ok (.putfield 114, 3) := by decide +kernel
theorem dX10_init_259 : decode cX10_init 259 = .ok (.aload_n 0, 1) := by decide +kernel
theorem dX10_init_260 : decode cX10_init 260 = .ok (.bipush 12, 2) := by decide +kernel
theorem dX10_init_262 : decode cX10_init 262 = .ok (.newarray .int, 2) := by decide +kernel
theorem dX10_init_264 : decode cX10_init 264 = .ok (.putfield 117, 3) := by decide +kernel
theorem dX10_init_267 : decode cX10_init 267 = .ok (.return_, 1) := by decide +kernel
theorem dX10_in_0 : decode cX10_in 0 = .ok (.lload_n 0, 1) := by decide +kernel
theorem dX10_in_1 : decode cX10_in 1 = .ok (.lload_n 2, 1) := by decide +kernel
theorem dX10_in_2 : decode cX10_in 2 = .ok (.lcmp, 1) := by decide +kernel
theorem dX10_in_3 : decode cX10_in 3 = .ok (.ifCond .lt 14, 3) := by decide +kernel
theorem dX10_in_6 : decode cX10_in 6 = .ok (.lload_n 0, 1) := by decide +kernel
theorem dX10_in_7 : decode cX10_in 7 = .ok (.lload 4, 2) := by decide +kernel
theorem dX10_in_9 : decode cX10_in 9 = .ok (.lcmp, 1) := by decide +kernel
theorem dX10_in_10 : decode cX10_in 10 = .ok (.ifCond .gt 7, 3) := by decide +kernel
theorem dX10_in_13 : decode cX10_in 13 = .ok (.iconst 1, 1) := by decide +kernel
theorem dX10_in_14 : decode cX10_in 14 = .ok (.goto 4, 3) := by decide +kernel
theorem dX10_in_17 : decode cX10_in 17 = .ok (.iconst 0, 1) := by decide +kernel
theorem dX10_in_18 : decode cX10_in 18 = .ok (.ireturn, 1) := by decide +kernel
theorem dX10_size_0 : decode cX10_size 0 = .ok (.iload_n 0, 1) := by decide +kernel
theorem dX10_size_1 : decode cX10_size 1 = .ok (.ifCond .ge 8, 3) := by decide +kernel
theorem dX10_size_4 : decode cX10_size 4 = .ok (.iload_n 0, 1) := by decide +kernel
theorem dX10_size_5 : decode cX10_size 5 = .ok (.ineg, 1) := by decide +kernel
theorem dX10_size_6 : decode cX10_size 6 = .ok (.goto 4, 3) := by decide +kernel
theorem dX10_size_9 : decode cX10_size 9 = .ok (.iload_n 0, 1) := by decide +kernel
theorem dX10_size_10 : decode cX10_size 10 = .ok (.ireturn, 1) := by decide +kernel
theorem dX10_isPlan_0 : decode cX10_isPlan 0 = .ok (.iload_n 0, 1) := by decide +kernel
theorem dX10_isPlan_1 : decode cX10_isPlan 1 = .ok (.i2l, 1) := by decide +kernel
theorem dX10_isPlan_2 : decode cX10_isPlan 2 = .ok (.lconst 0, 1) := by decide +kernel
theorem dX10_isPlan_3 : decode cX10_isPlan 3 = .ok (.ldc2_w 120, 3) := by decide +kernel
theorem dX10_isPlan_6 : decode cX10_isPlan 6 = .ok (.invokestatic 122, 3) := by decide +kernel
theorem dX10_isPlan_9 : decode cX10_isPlan 9 = .ok (.ireturn, 1) := by decide +kernel
theorem dX10_turn_0 : decode cX10_turn 0 = .ok (.iload_n 1, 1) := by decide +kernel
theorem dX10_turn_1 : decode cX10_turn 1 = .ok (.invokestatic 126, 3) := by decide +kernel
theorem dX10_turn_4 : decode cX10_turn 4 = .ok (.ifCond .ne 5, 3) := by decide +kernel
theorem dX10_turn_7 : decode cX10_turn 7 = .ok (.iconst (-1), 1) := by decide +kernel
theorem dX10_turn_8 : decode cX10_turn 8 = .ok (.ireturn, 1) := by decide +kernel
theorem dX10_turn_9 : decode cX10_turn 9 = .ok (.iload_n 2, 1) := by decide +kernel
theorem dX10_turn_10 : decode cX10_turn 10 = .ok (.i2l, 1) := by decide +kernel
theorem dX10_turn_11 : decode cX10_turn 11 = .ok (.lconst 0, 1) := by decide +kernel
theorem dX10_turn_12 : decode cX10_turn 12 = .ok (.ldc2_w 130, 3) := by decide +kernel
theorem dX10_turn_15 : decode cX10_turn 15 = .ok (.invokestatic 122, 3) := by decide +kernel
theorem dX10_turn_18 : decode cX10_turn 18 = .ok (.ifCond .eq 17, 3) := by decide +kernel
theorem dX10_turn_21 : decode cX10_turn 21 = .ok (.iload_n 3, 1) := by decide +kernel
theorem dX10_turn_22 : decode cX10_turn 22 = .ok (.i2l, 1) := by decide +kernel
theorem dX10_turn_23 : decode cX10_turn 23 = .ok (.ldc2_w 132, 3) := by decide +kernel
theorem dX10_turn_26 : decode cX10_turn 26 = .ok (.ldc2_w 134, 3) := by decide +kernel
theorem dX10_turn_29 : decode cX10_turn 29 = .ok (.invokestatic 122, 3) := by decide +kernel
theorem dX10_turn_32 : decode cX10_turn 32 = .ok (.ifCond .ne 6, 3) := by decide +kernel
theorem dX10_turn_35 : decode cX10_turn 35 = .ok (.bipush (-2), 2) := by decide +kernel
theorem dX10_turn_37 : decode cX10_turn 37 = .ok (.ireturn, 1) := by decide +kernel
theorem dX10_turn_38 : decode cX10_turn 38 = .ok (.aload_n 0, 1) := by decide +kernel
theorem dX10_turn_39 : decode cX10_turn 39 = .ok (.getfield 16, 3) := by decide +kernel
theorem dX10_turn_42 : decode cX10_turn 42 = .ok (.iload_n 1, 1) := by decide +kernel
theorem dX10_turn_43 : decode cX10_turn 43 = .ok (.iaload, 1) := by decide +kernel
theorem dX10_turn_44 : decode cX10_turn 44 = .ok (.istore 4, 2) := by decide +kernel
theorem dX10_turn_46 : decode cX10_turn 46 = .ok (.iload 4, 2) := by decide +kernel
theorem dX10_turn_48 : decode cX10_turn 48 = .ok (.bipush 12, 2) := by decide +kernel
theorem dX10_turn_50 : decode cX10_turn 50 = .ok (.if_icmp .ne 6, 3) := by decide +kernel
theorem dX10_turn_53 : decode cX10_turn 53 = .ok (.bipush (-4), 2) := by decide +kernel
theorem dX10_turn_55 : decode cX10_turn 55 = .ok (.ireturn, 1) := by decide +kernel
theorem dX10_turn_56 : decode cX10_turn 56 = .ok (.iload 4, 2) := by decide +kernel
theorem dX10_turn_58 : decode cX10_turn 58 = .ok (.istore 5, 2) := by decide +kernel
theorem dX10_turn_60 : decode cX10_turn 60 = .ok (.iconst 0, 1) := by decide +kernel
theorem dX10_turn_61 : decode cX10_turn 61 = .ok (.istore 6, 2) := by decide +kernel
theorem dX10_turn_63 : decode cX10_turn 63 = .ok (.iload 6, 2) := by decide +kernel
theorem dX10_turn_65 : decode cX10_turn 65 = .ok (.iload 4, 2) := by decide +kernel
theorem dX10_turn_67 : decode cX10_turn 67 = .ok (.if_icmp .ge 28, 3) := by decide +kernel
theorem dX10_turn_70 : decode cX10_turn 70 = .ok (.aload_n 0, 1) := by decide +kernel
theorem dX10_turn_71 : decode cX10_turn 71 = .ok (.getfield 7, 3) := by decide +kernel
theorem dX10_turn_74 : decode cX10_turn 74 = .ok (.bipush 12, 2) := by decide +kernel
theorem dX10_turn_76 : decode cX10_turn 76 = .ok (.iload_n 1, 1) := by decide +kernel
theorem dX10_turn_77 : decode cX10_turn 77 = .ok (.imul, 1) := by decide +kernel
theorem dX10_turn_78 : decode cX10_turn 78 = .ok (.iload 6, 2) := by decide +kernel
theorem dX10_turn_80 : decode cX10_turn 80 = .ok (.iadd, 1) := by decide +kernel
theorem dX10_turn_81 : decode cX10_turn 81 = .ok (.iaload, 1) := by decide +kernel
theorem dX10_turn_82 : decode cX10_turn 82 = .ok (.iload_n 2, 1) := by decide +kernel
theorem dX10_turn_83 : decode cX10_turn 83 = .ok (.if_icmp .ne 6, 3) := by decide +kernel
theorem dX10_turn_86 : decode cX10_turn 86 = .ok (.bipush (-5), 2) := by decide +kernel
theorem dX10_turn_88 : decode cX10_turn 88 = .ok (.ireturn, 1) := by decide +kernel
theorem dX10_turn_89 : decode cX10_turn 89 = .ok (.iinc 6 1, 3) := by decide +kernel
theorem dX10_turn_92 : decode cX10_turn 92 = .ok (.goto (-29), 3) := by decide +kernel
theorem dX10_turn_95 : decode cX10_turn 95 = .ok (.iload 5, 2) := by decide +kernel
theorem dX10_turn_97 : decode cX10_turn 97 = .ok (.ifCond .le 79, 3) := by decide +kernel
theorem dX10_turn_100 : decode cX10_turn 100 = .ok (.aload_n 0, 1) := by decide +kernel
theorem dX10_turn_101 : decode cX10_turn 101 = .ok (.getfield 7, 3) := by decide +kernel
theorem dX10_turn_104 : decode cX10_turn 104 = .ok (.bipush 12, 2) := by decide +kernel
theorem dX10_turn_106 : decode cX10_turn 106 = .ok (.iload_n 1, 1) := by decide +kernel
theorem dX10_turn_107 : decode cX10_turn 107 = .ok (.imul, 1) := by decide +kernel
theorem dX10_turn_108 : decode cX10_turn 108 = .ok (.iload 5, 2) := by decide +kernel
theorem dX10_turn_110 : decode cX10_turn 110 = .ok (.iadd, 1) := by decide +kernel
theorem dX10_turn_111 : decode cX10_turn 111 = .ok (.iconst 1, 1) := by decide +kernel
theorem dX10_turn_112 : decode cX10_turn 112 = .ok (.isub, 1) := by decide +kernel
theorem dX10_turn_113 : decode cX10_turn 113 = .ok (.iaload, 1) := by decide +kernel
theorem dX10_turn_114 : decode cX10_turn 114 = .ok (.iload_n 2, 1) := by decide +kernel
theorem dX10_turn_115 : decode cX10_turn 115 = .ok (.if_icmp .le 61, 3) := by decide +kernel
theorem dX10_turn_118 : decode cX10_turn 118 = .ok (.aload_n 0, 1) := by decide +kernel
theorem dX10_turn_119 : decode cX10_turn 119 = .ok (.getfield 7, 3) := by decide +kernel
theorem dX10_turn_122 : decode cX10_turn 122 = .ok (.bipush 12, 2) := by decide +kernel
theorem dX10_turn_124 : decode cX10_turn 124 = .ok (.iload_n 1, 1) := by decide +kernel
theorem dX10_turn_125 : decode cX10_turn 125 = .ok (.imul, 1) := by decide +kernel
theorem dX10_turn_126 : decode cX10_turn 126 = .ok (.iload 5, 2) := by decide +kernel
theorem dX10_turn_128 : decode cX10_turn 128 = .ok (.iadd, 1) := by decide +kernel
theorem dX10_turn_129 : decode cX10_turn 129 = .ok (.aload_n 0, 1) := by decide +kernel
theorem dX10_turn_130 : decode cX10_turn 130 = .ok (.getfield 7, 3) := by decide +kernel
theorem dX10_turn_133 : decode cX10_turn 133 = .ok (.bipush 12, 2) := by decide +kernel
theorem dX10_turn_135 : decode cX10_turn 135 = .ok (.iload_n 1, 1) := by decide +kernel
theorem dX10_turn_136 : decode cX10_turn 136 = .ok (.imul, 1) := by decide +kernel
theorem dX10_turn_137 : decode cX10_turn 137 = .ok (.iload 5, 2) := by decide +kernel
theorem dX10_turn_139 : decode cX10_turn 139 = .ok (.iadd, 1) := by decide +kernel
theorem dX10_turn_140 : decode cX10_turn 140 = .ok (.iconst 1, 1) := by decide +kernel
theorem dX10_turn_141 : decode cX10_turn 141 = .ok (.isub, 1) := by decide +kernel
theorem dX10_turn_142 : decode cX10_turn 142 = .ok (.iaload, 1) := by decide +kernel
theorem dX10_turn_143 : decode cX10_turn 143 = .ok (.iastore, 1) := by decide +kernel
theorem dX10_turn_144 : decode cX10_turn 144 = .ok (.aload_n 0, 1) := by decide +kernel
theorem dX10_turn_145 : decode cX10_turn 145 = .ok (.getfield 13, 3) := by decide +kernel
theorem dX10_turn_148 : decode cX10_turn 148 = .ok (.bipush 12, 2) := by decide +kernel
theorem dX10_turn_150 : decode cX10_turn 150 = .ok (.iload_n 1, 1) := by decide +kernel
theorem dX10_turn_151 : decode cX10_turn 151 = .ok (.imul, 1) := by decide +kernel
theorem dX10_turn_152 : decode cX10_turn 152 = .ok (.iload 5, 2) := by decide +kernel
theorem dX10_turn_154 : decode cX10_turn 154 = .ok (.iadd, 1) := by decide +kernel
theorem dX10_turn_155 : decode cX10_turn 155 = .ok (.aload_n 0, 1) := by decide +kernel
theorem dX10_turn_156 : decode cX10_turn 156 = .ok (.getfield 13, 3) := by decide +kernel
theorem dX10_turn_159 : decode cX10_turn 159 = .ok (.bipush 12, 2) := by decide +kernel
theorem dX10_turn_161 : decode cX10_turn 161 = .ok (.iload_n 1, 1) := by decide +kernel
theorem dX10_turn_162 : decode cX10_turn 162 = .ok (.imul, 1) := by decide +kernel
theorem dX10_turn_163 : decode cX10_turn 163 = .ok (.iload 5, 2) := by decide +kernel
theorem dX10_turn_165 : decode cX10_turn 165 = .ok (.iadd, 1) := by decide +kernel
theorem dX10_turn_166 : decode cX10_turn 166 = .ok (.iconst 1, 1) := by decide +kernel
theorem dX10_turn_167 : decode cX10_turn 167 = .ok (.isub, 1) := by decide +kernel
theorem dX10_turn_168 : decode cX10_turn 168 = .ok (.iaload, 1) := by decide +kernel
theorem dX10_turn_169 : decode cX10_turn 169 = .ok (.iastore, 1) := by decide +kernel
theorem dX10_turn_170 : decode cX10_turn 170 = .ok (.iinc 5 (-1), 3) := by decide +kernel
theorem dX10_turn_173 : decode cX10_turn 173 = .ok (.goto (-78), 3) := by decide +kernel
theorem dX10_turn_176 : decode cX10_turn 176 = .ok (.aload_n 0, 1) := by decide +kernel
theorem dX10_turn_177 : decode cX10_turn 177 = .ok (.getfield 7, 3) := by decide +kernel
theorem dX10_turn_180 : decode cX10_turn 180 = .ok (.bipush 12, 2) := by decide +kernel
theorem dX10_turn_182 : decode cX10_turn 182 = .ok (.iload_n 1, 1) := by decide +kernel
theorem dX10_turn_183 : decode cX10_turn 183 = .ok (.imul, 1) := by decide +kernel
theorem dX10_turn_184 : decode cX10_turn 184 = .ok (.iload 5, 2) := by decide +kernel
theorem dX10_turn_186 : decode cX10_turn 186 = .ok (.iadd, 1) := by decide +kernel
theorem dX10_turn_187 : decode cX10_turn 187 = .ok (.iload_n 2, 1) := by decide +kernel
theorem dX10_turn_188 : decode cX10_turn 188 = .ok (.iastore, 1) := by decide +kernel
theorem dX10_turn_189 : decode cX10_turn 189 = .ok (.aload_n 0, 1) := by decide +kernel
theorem dX10_turn_190 : decode cX10_turn 190 = .ok (.getfield 13, 3) := by decide +kernel
theorem dX10_turn_193 : decode cX10_turn 193 = .ok (.bipush 12, 2) := by decide +kernel
theorem dX10_turn_195 : decode cX10_turn 195 = .ok (.iload_n 1, 1) := by decide +kernel
theorem dX10_turn_196 : decode cX10_turn 196 = .ok (.imul, 1) := by decide +kernel
theorem dX10_turn_197 : decode cX10_turn 197 = .ok (.iload 5, 2) := by decide +kernel
theorem dX10_turn_199 : decode cX10_turn 199 = .ok (.iadd, 1) := by decide +kernel
theorem dX10_turn_200 : decode cX10_turn 200 = .ok (.iload_n 3, 1) := by decide +kernel
theorem dX10_turn_201 : decode cX10_turn 201 = .ok (.iastore, 1) := by decide +kernel
theorem dX10_turn_202 : decode cX10_turn 202 = .ok (.aload_n 0, 1) := by decide +kernel
theorem dX10_turn_203 : decode cX10_turn 203 = .ok (.getfield 16, 3) := by decide +kernel
theorem dX10_turn_206 : decode cX10_turn 206 = .ok (.iload_n 1, 1) := by decide +kernel
theorem dX10_turn_207 : decode cX10_turn 207 = .ok (.dup2, 1) := by decide +kernel
theorem dX10_turn_208 : decode cX10_turn 208 = .ok (.iaload, 1) := by decide +kernel
theorem dX10_turn_209 : decode cX10_turn 209 = .ok (.iconst 1, 1) := by decide +kernel
theorem dX10_turn_210 : decode cX10_turn 210 = .ok (.iadd, 1) := by decide +kernel
theorem dX10_turn_211 : decode cX10_turn 211 = .ok (.iastore, 1) := by decide +kernel
theorem dX10_turn_212 : decode cX10_turn 212 = .ok (.aload_n 0, 1) := by decide +kernel
theorem dX10_turn_213 : decode cX10_turn 213 = .ok (.getfield 16, 3) := by decide +kernel
theorem dX10_turn_216 : decode cX10_turn 216 = .ok (.iload_n 1, 1) := by decide +kernel
theorem dX10_turn_217 : decode cX10_turn 217 = .ok (.iaload, 1) := by decide +kernel
theorem dX10_turn_218 : decode cX10_turn 218 = .ok (.ireturn, 1) := by decide +kernel
theorem dX10_clear_0 : decode cX10_clear 0 = .ok (.iload_n 1, 1) := by decide +kernel
theorem dX10_clear_1 : decode cX10_clear 1 = .ok (.invokestatic 126, 3) := by decide +kernel
theorem dX10_clear_4 : decode cX10_clear 4 = .ok (.ifCond .ne 5, 3) := by decide +kernel
theorem dX10_clear_7 : decode cX10_clear 7 = .ok (.iconst (-1), 1) := by decide +kernel
theorem dX10_clear_8 : decode cX10_clear 8 = .ok (.ireturn, 1) := by decide +kernel
theorem dX10_clear_9 : decode cX10_clear 9 = .ok (.aload_n 0, 1) := by decide +kernel
theorem dX10_clear_10 : decode cX10_clear 10 = .ok (.getfield 16, 3) := by decide +kernel
theorem dX10_clear_13 : decode cX10_clear 13 = .ok (.iload_n 1, 1) := by decide +kernel
theorem dX10_clear_14 : decode cX10_clear 14 = .ok (.iaload, 1) := by decide +kernel
theorem dX10_clear_15 : decode cX10_clear 15 = .ok (.istore_n 2, 1) := by decide +kernel
theorem dX10_clear_16 : decode cX10_clear 16 = .ok (.aload_n 0, 1) := by decide +kernel
theorem dX10_clear_17 : decode cX10_clear 17 = .ok (.getfield 16, 3) := by decide +kernel
theorem dX10_clear_20 : decode cX10_clear 20 = .ok (.iload_n 1, 1) := by decide +kernel
theorem dX10_clear_21 : decode cX10_clear 21 = .ok (.iconst 0, 1) := by decide +kernel
theorem dX10_clear_22 : decode cX10_clear 22 = .ok (.iastore, 1) := by decide +kernel
theorem dX10_clear_23 : decode cX10_clear 23 = .ok (.iload_n 2, 1) := by decide +kernel
theorem dX10_clear_24 : decode cX10_clear 24 = .ok (.ireturn, 1) := by decide +kernel
theorem dX10_ofTurn_0 : decode cX10_ofTurn 0 = .ok (.iload_n 1, 1) := by decide +kernel
theorem dX10_ofTurn_1 : decode cX10_ofTurn 1 = .ok (.invokestatic 126, 3) := by decide +kernel
theorem dX10_ofTurn_4 : decode cX10_ofTurn 4 = .ok (.ifCond .eq 21, 3) := by decide +kernel
theorem dX10_ofTurn_7 : decode cX10_ofTurn 7 = .ok (.iload_n 2, 1) := by decide +kernel
theorem dX10_ofTurn_8 : decode cX10_ofTurn 8 = .ok (.i2l, 1) := by decide +kernel
theorem dX10_ofTurn_9 : decode cX10_ofTurn 9 = .ok (.lconst 0, 1) := by decide +kernel
theorem dX10_ofTurn_10 : decode cX10_ofTurn 10 = .ok (.aload_n 0, 1) := by decide +kernel
theorem dX10_ofTurn_11 : decode cX10_ofTurn 11 = .ok (.getfield 16, 3) := by decide +kernel
theorem dX10_ofTurn_14 : decode cX10_ofTurn 14 = .ok (.iload_n 1, 1) := by decide +kernel
theorem dX10_ofTurn_15 : decode cX10_ofTurn 15 = .ok (.iaload, 1) := by decide +kernel
theorem dX10_ofTurn_16 : decode cX10_ofTurn 16 = .ok (.iconst 1, 1) := by decide +kernel
theorem dX10_ofTurn_17 : decode cX10_ofTurn 17 = .ok (.isub, 1) := by decide +kernel
theorem dX10_ofTurn_18 : decode cX10_ofTurn 18 = .ok (.i2l, 1) := by decide +kernel
theorem dX10_ofTurn_19 : decode cX10_ofTurn 19 = .ok (.invokestatic 122, 3) := by decide +kernel
theorem dX10_ofTurn_22 : decode cX10_ofTurn 22 = .ok (.ifCond .ne 6, 3) := by decide +kernel
theorem dX10_ofTurn_25 : decode cX10_ofTurn 25 = .ok (.bipush (-101), 2) := by decide +kernel
theorem dX10_ofTurn_27 : decode cX10_ofTurn 27 = .ok (.ireturn, 1) := by decide +kernel
theorem dX10_ofTurn_28 : decode cX10_ofTurn 28 = .ok (.iload_n 3, 1) := by decide +kernel
theorem dX10_ofTurn_29 : decode cX10_ofTurn 29 = .ok (.ifCond .ne 17, 3) := by decide +kernel
theorem dX10_ofTurn_32 : decode cX10_ofTurn 32 = .ok (.aload_n 0, 1) := by decide +kernel
theorem dX10_ofTurn_33 : decode cX10_ofTurn 33 = .ok (.getfield 7, 3) := by decide +kernel
theorem dX10_ofTurn_36 : decode cX10_ofTurn 36 = .ok (.bipush 12, 2) := by decide +kernel
theorem dX10_ofTurn_38 : decode cX10_ofTurn 38 = .ok (.iload_n 1, 1) := by decide +kernel
theorem dX10_ofTurn_39 : decode cX10_ofTurn 39 = .ok (.imul, 1) := by decide +kernel
theorem dX10_ofTurn_40 : decode cX10_ofTurn 40 = .ok (.iload_n 2, 1) := by decide +kernel
theorem dX10_ofTurn_41 : decode cX10_ofTurn 41 = .ok (.iadd, 1) := by decide +kernel
theorem dX10_ofTurn_42 : decode cX10_ofTurn 42 = .ok (.iaload, 1) := by decide +kernel
theorem dX10_ofTurn_43 : decode cX10_ofTurn 43 = .ok (.goto 24, 3) := by decide +kernel
theorem dX10_ofTurn_46 : decode cX10_ofTurn 46 = .ok (.iload_n 3, 1) := by decide +kernel
theorem dX10_ofTurn_47 : decode cX10_ofTurn 47 = .ok (.iconst 1, 1) := by decide +kernel
theorem dX10_ofTurn_48 : decode cX10_ofTurn 48 = .ok (.if_icmp .ne 17, 3) := by decide +kernel
theorem dX10_ofTurn_51 : decode cX10_ofTurn 51 = .ok (.aload_n 0, 1) := by decide +kernel
theorem dX10_ofTurn_52 : decode cX10_ofTurn 52 = .ok (.getfield 13, 3) := by decide +kernel
theorem dX10_ofTurn_55 : decode cX10_ofTurn 55 = .ok (.bipush 12, 2) := by decide +kernel
theorem dX10_ofTurn_57 : decode cX10_ofTurn 57 = .ok (.iload_n 1, 1) := by decide +kernel
theorem dX10_ofTurn_58 : decode cX10_ofTurn 58 = .ok (.imul, 1) := by decide +kernel
theorem dX10_ofTurn_59 : decode cX10_ofTurn 59 = .ok (.iload_n 2, 1) := by decide +kernel
theorem dX10_ofTurn_60 : decode cX10_ofTurn 60 = .ok (.iadd, 1) := by decide +kernel
theorem dX10_ofTurn_61 : decode cX10_ofTurn 61 = .ok (.iaload, 1) := by decide +kernel
theorem dX10_ofTurn_62 : decode cX10_ofTurn 62 = .ok (.goto 5, 3) := by decide +kernel
theorem dX10_ofTurn_65 : decode cX10_ofTurn 65 = .ok (.bipush (-102), 2) := by decide +kernel
theorem dX10_ofTurn_67 : decode cX10_ofTurn 67 = .ok (.ireturn, 1) := by decide +kernel
theorem dX10_missNone_0 : decode cX10_missNone 0 = .ok (.iconst 0, 1) := by decide +kernel
theorem dX10_missNone_1 : decode cX10_missNone 1 = .ok (.istore_n 1, 1) := by decide +kernel
theorem dX10_missNone_2 : decode cX10_missNone 2 = .ok (.iload_n 1, 1) := by decide +kernel
theorem dX10_missNone_3 : decode cX10_missNone 3 = .ok (.bipush 11, 2) := by decide +kernel
theorem dX10_missNone_5 : decode cX10_missNone 5 = .ok (.if_icmp .ge 16, 3) := by decide +kernel
theorem dX10_missNone_8 : decode cX10_missNone 8 = .ok (.aload_n 0, 1) := by decide +kernel
theorem dX10_missNone_9 : decode cX10_missNone 9 = .ok (.getfield 19, 3) := by decide +kernel
theorem dX10_missNone_12 : decode cX10_missNone 12 = .ok (.iload_n 1, 1) := by decide +kernel
theorem dX10_missNone_13 : decode cX10_missNone 13 = .ok (.iconst 0, 1) := by decide +kernel
theorem dX10_missNone_14 : decode cX10_missNone 14 = .ok (.iastore, 1) := by decide +kernel
theorem dX10_missNone_15 : decode cX10_missNone 15 = .ok (.iinc 1 1, 3) := by decide +kernel
theorem dX10_missNone_18 : decode cX10_missNone 18 = .ok (.goto (-16), 3) := by decide +kernel
theorem dX10_missNone_21 : decode cX10_missNone 21 = .ok (.return_, 1) := by decide +kernel
theorem dX10_courseAt_0 : decode cX10_courseAt 0 = .ok (.iconst 0, 1) := by decide +kernel
theorem dX10_courseAt_1 : decode cX10_courseAt 1 = .ok (.istore_n 3, 1) := by decide +kernel
theorem dX10_courseAt_2 : decode cX10_courseAt 2 = .ok (.iload_n 2, 1) := by decide +kernel
theorem dX10_courseAt_3 : decode cX10_courseAt 3 = .ok (.ifCond .ge 5, 3) := by decide +kernel
theorem dX10_courseAt_6 : decode cX10_courseAt 6 = .ok (.iconst 0, 1) := by decide +kernel
theorem dX10_courseAt_7 : decode cX10_courseAt 7 = .ok (.ireturn, 1) := by decide +kernel
theorem dX10_courseAt_8 : decode cX10_courseAt 8 = .ok (.iload_n 2, 1) := by decide +kernel
theorem dX10_courseAt_9 : decode cX10_courseAt 9 = .ok (.bipush 60, 2) := by decide +kernel
theorem dX10_courseAt_11 : decode cX10_courseAt 11 = .ok (.idiv, 1) := by decide +kernel
theorem dX10_courseAt_12 : decode cX10_courseAt 12 = .ok (.istore 4, 2) := by decide +kernel
theorem dX10_courseAt_14 : decode cX10_courseAt 14 = .ok (.iconst 0, 1) := by decide +kernel
theorem dX10_courseAt_15 : decode cX10_courseAt 15 = .ok (.istore 5, 2) := by decide +kernel
theorem dX10_courseAt_17 : decode cX10_courseAt 17 = .ok (.iload 5, 2) := by decide +kernel
theorem dX10_courseAt_19 : decode cX10_courseAt 19 = .ok (.aload_n 0, 1) := by decide +kernel
theorem dX10_courseAt_20 : decode cX10_courseAt 20 = .ok (.getfield 16, 3) := by decide +kernel
theorem dX10_courseAt_23 : decode cX10_courseAt 23 = .ok (.iload_n 1, 1) := by decide +kernel
theorem dX10_courseAt_24 : decode cX10_courseAt 24 = .ok (.iaload, 1) := by decide +kernel
theorem dX10_courseAt_25 : decode cX10_courseAt 25 = .ok (.if_icmp .ge 72, 3) := by decide +kernel
theorem dX10_courseAt_28 : decode cX10_courseAt 28 = .ok (.aload_n 0, 1) := by decide +kernel
theorem dX10_courseAt_29 : decode cX10_courseAt 29 = .ok (.getfield 7, 3) := by decide +kernel
theorem dX10_courseAt_32 : decode cX10_courseAt 32 = .ok (.bipush 12, 2) := by decide +kernel
theorem dX10_courseAt_34 : decode cX10_courseAt 34 = .ok (.iload_n 1, 1) := by decide +kernel
theorem dX10_courseAt_35 : decode cX10_courseAt 35 = .ok (.imul, 1) := by decide +kernel
theorem dX10_courseAt_36 : decode cX10_courseAt 36 = .ok (.iload 5, 2) := by decide +kernel
theorem dX10_courseAt_38 : decode cX10_courseAt 38 = .ok (.iadd, 1) := by decide +kernel
theorem dX10_courseAt_39 : decode cX10_courseAt 39 = .ok (.iaload, 1) := by decide +kernel
theorem dX10_courseAt_40 : decode cX10_courseAt 40 = .ok (.iload_n 2, 1) := by decide +kernel
theorem dX10_courseAt_41 : decode cX10_courseAt 41 = .ok (.bipush 60, 2) := by decide +kernel
theorem dX10_courseAt_43 : decode cX10_courseAt 43 = .ok (.irem, 1) := by decide +kernel
theorem dX10_courseAt_44 : decode cX10_courseAt 44 = .ok (.if_icmp .gt 22, 3) := by decide +kernel
theorem dX10_courseAt_47 : decode cX10_courseAt 47 = .ok (.aload_n 0, 1) := by decide +kernel
theorem dX10_courseAt_48 : decode cX10_courseAt 48 = .ok (.getfield 19, 3) := by decide +kernel
theorem dX10_courseAt_51 : decode cX10_courseAt 51 = .ok (.iload 4, 2) := by decide +kernel
theorem dX10_courseAt_53 : decode cX10_courseAt 53 = .ok (.iaload, 1) := by decide +kernel
theorem dX10_courseAt_54 : decode cX10_courseAt 54 = .ok (.iload 5, 2) := by decide +kernel
theorem dX10_courseAt_56 : decode cX10_courseAt 56 = .ok (.ishr, 1) := by decide +kernel
theorem dX10_courseAt_57 : decode cX10_courseAt 57 = .ok (.iconst 1, 1) := by decide +kernel
theorem dX10_courseAt_58 : decode cX10_courseAt 58 = .ok (.iand, 1) := by decide +kernel
theorem dX10_courseAt_59 : decode cX10_courseAt 59 = .ok (.ifCond .ne 7, 3) := by decide +kernel
theorem dX10_courseAt_62 : decode cX10_courseAt 62 = .ok (.iconst 1, 1) := by decide +kernel
theorem dX10_courseAt_63 : decode cX10_courseAt 63 = .ok (.goto 4, 3) := by decide +kernel
theorem dX10_courseAt_66 : decode cX10_courseAt 66 = .ok (.iconst 0, 1) := by decide +kernel
theorem dX10_courseAt_67 : decode cX10_courseAt 67 = .ok (.istore 6, 2) := by decide +kernel
theorem dX10_courseAt_69 : decode cX10_courseAt 69 = .ok (.iload 6, 2) := by decide +kernel
theorem dX10_courseAt_71 : decode cX10_courseAt 71 = .ok (.ifCond .eq 18, 3) := by decide +kernel
theorem dX10_courseAt_74 : decode cX10_courseAt 74 = .ok (.aload_n 0, 1) := by decide +kernel
theorem dX10_courseAt_75 : decode cX10_courseAt 75 = .ok (.getfield 13, 3) := by decide +kernel
theorem dX10_courseAt_78 : decode cX10_courseAt 78 = .ok (.bipush 12, 2) := by decide +kernel
theorem dX10_courseAt_80 : decode cX10_courseAt 80 = .ok (.iload_n 1, 1) := by decide +kernel
theorem dX10_courseAt_81 : decode cX10_courseAt 81 = .ok (.imul, 1) := by decide +kernel
theorem dX10_courseAt_82 : decode cX10_courseAt 82 = .ok (.iload 5, 2) := by decide +kernel
theorem dX10_courseAt_84 : decode cX10_courseAt 84 = .ok (.iadd, 1) := by decide +kernel
theorem dX10_courseAt_85 : decode cX10_courseAt 85 = .ok (.iaload, 1) := by decide +kernel
theorem dX10_courseAt_86 : decode cX10_courseAt 86 = .ok (.goto 4, 3) := by decide +kernel
theorem dX10_courseAt_89 : decode cX10_courseAt 89 = .ok (.iload_n 3, 1) := by decide +kernel
theorem dX10_courseAt_90 : decode cX10_courseAt 90 = .ok (.istore_n 3, 1) := by decide +kernel
theorem dX10_courseAt_91 : decode cX10_courseAt 91 = .ok (.iinc 5 1, 3) := by decide +kernel
theorem dX10_courseAt_94 : decode cX10_courseAt 94 = .ok (.goto (-77), 3) := by decide +kernel
theorem dX10_courseAt_97 : decode cX10_courseAt 97 = .ok (.iload_n 3, 1) := by decide +kernel
theorem dX10_courseAt_98 : decode cX10_courseAt 98 = .ok (.ireturn, 1) := by decide +kernel
theorem dX10_course_0 : decode cX10_course 0 = .ok (.iload_n 1, 1) := by decide +kernel
theorem dX10_course_1 : decode cX10_course 1 = .ok (.invokestatic 126, 3) := by decide +kernel
theorem dX10_course_4 : decode cX10_course 4 = .ok (.ifCond .ne 6, 3) := by decide +kernel
theorem dX10_course_7 : decode cX10_course 7 = .ok (.bipush (-101), 2) := by decide +kernel
theorem dX10_course_9 : decode cX10_course 9 = .ok (.ireturn, 1) := by decide +kernel
theorem dX10_course_10 : decode cX10_course 10 = .ok (.iload_n 2, 1) := by decide +kernel
theorem dX10_course_11 : decode cX10_course 11 = .ok (.i2l, 1) := by decide +kernel
theorem dX10_course_12 : decode cX10_course 12 = .ok (.lconst 0, 1) := by decide +kernel
theorem dX10_course_13 : decode cX10_course 13 = .ok (.ldc2_w 136, 3) := by decide +kernel
theorem dX10_course_16 : decode cX10_course 16 = .ok (.invokestatic 122, 3) := by decide +kernel
theorem dX10_course_19 : decode cX10_course 19 = .ok (.ifCond .ne 6, 3) := by decide +kernel
theorem dX10_course_22 : decode cX10_course 22 = .ok (.bipush (-102), 2) := by decide +kernel
theorem dX10_course_24 : decode cX10_course 24 = .ok (.ireturn, 1) := by decide +kernel
theorem dX10_course_25 : decode cX10_course 25 = .ok (.aload_n 0, 1) := by decide +kernel
theorem dX10_course_26 : decode cX10_course 26 = .ok (.invokevirtual 138, 3) := by decide +kernel
theorem dX10_course_29 : decode cX10_course 29 = .ok (.aload_n 0, 1) := by decide +kernel
theorem dX10_course_30 : decode cX10_course 30 = .ok (.iload_n 1, 1) := by decide +kernel
theorem dX10_course_31 : decode cX10_course 31 = .ok (.iload_n 2, 1) := by decide +kernel
theorem dX10_course_32 : decode cX10_course 32 = .ok (.invokevirtual 141, 3) := by decide +kernel
theorem dX10_course_35 : decode cX10_course 35 = .ok (.ireturn, 1) := by decide +kernel
theorem dX10_part_0 : decode cX10_part 0 = .ok (.iload_n 0, 1) := by decide +kernel
theorem dX10_part_1 : decode cX10_part 1 = .ok (.tableswitch 47 0 3 #[31, 35, 39, 43], 31) := by decide +kernel
theorem dX10_part_32 : decode cX10_part 32 = .ok (.sipush 1000, 3) := by decide +kernel
theorem dX10_part_35 : decode cX10_part 35 = .ok (.ireturn, 1) := by decide +kernel
theorem dX10_part_36 : decode cX10_part 36 = .ok (.sipush 924, 3) := by decide +kernel
theorem dX10_part_39 : decode cX10_part 39 = .ok (.ireturn, 1) := by decide +kernel
theorem dX10_part_40 : decode cX10_part 40 = .ok (.sipush 707, 3) := by decide +kernel
theorem dX10_part_43 : decode cX10_part 43 = .ok (.ireturn, 1) := by decide +kernel
theorem dX10_part_44 : decode cX10_part 44 = .ok (.sipush 383, 3) := by decide +kernel
theorem dX10_part_47 : decode cX10_part 47 = .ok (.ireturn, 1) := by decide +kernel
theorem dX10_part_48 : decode cX10_part 48 = .ok (.iconst 0, 1) := by decide +kernel
theorem dX10_part_49 : decode cX10_part 49 = .ok (.ireturn, 1) := by decide +kernel
theorem dX10_alongOf_0 : decode cX10_alongOf 0 = .ok (.iload_n 0, 1) := by decide +kernel
theorem dX10_alongOf_1 : decode cX10_alongOf 1 = .ok (.invokestatic 145, 3) := by decide +kernel
theorem dX10_alongOf_4 : decode cX10_alongOf 4 = .ok (.invokestatic 149, 3) := by decide +kernel
theorem dX10_alongOf_7 : decode cX10_alongOf 7 = .ok (.ireturn, 1) := by decide +kernel
theorem dX10_acrossOf_0 : decode cX10_acrossOf 0 = .ok (.iconst 4, 1) := by decide +kernel
theorem dX10_acrossOf_1 : decode cX10_acrossOf 1 = .ok (.iload_n 0, 1) := by decide +kernel
theorem dX10_acrossOf_2 : decode cX10_acrossOf 2 = .ok (.invokestatic 145, 3) := by decide +kernel
theorem dX10_acrossOf_5 : decode cX10_acrossOf 5 = .ok (.isub, 1) := by decide +kernel
theorem dX10_acrossOf_6 : decode cX10_acrossOf 6 = .ok (.invokestatic 149, 3) := by decide +kernel
theorem dX10_acrossOf_9 : decode cX10_acrossOf 9 = .ok (.istore_n 1, 1) := by decide +kernel
theorem dX10_acrossOf_10 : decode cX10_acrossOf 10 = .ok (.iload_n 0, 1) := by decide +kernel
theorem dX10_acrossOf_11 : decode cX10_acrossOf 11 = .ok (.ifCond .ge 8, 3) := by decide +kernel
theorem dX10_acrossOf_14 : decode cX10_acrossOf 14 = .ok (.iload_n 1, 1) := by decide +kernel
theorem dX10_acrossOf_15 : decode cX10_acrossOf 15 = .ok (.ineg, 1) := by decide +kernel
theorem dX10_acrossOf_16 : decode cX10_acrossOf 16 = .ok (.goto 4, 3) := by decide +kernel
theorem dX10_acrossOf_19 : decode cX10_acrossOf 19 = .ok (.iload_n 1, 1) := by decide +kernel
theorem dX10_acrossOf_20 : decode cX10_acrossOf 20 = .ok (.ireturn, 1) := by decide +kernel
theorem dX10_go_0 : decode cX10_go 0 = .ok (.aload_n 0, 1) := by decide +kernel
theorem dX10_go_1 : decode cX10_go 1 = .ok (.dup, 1) := by decide +kernel
theorem dX10_go_2 : decode cX10_go 2 = .ok (.getfield 152, 3) := by decide +kernel
theorem dX10_go_5 : decode cX10_go 5 = .ok (.iload_n 1, 1) := by decide +kernel
theorem dX10_go_6 : decode cX10_go 6 = .ok (.invokestatic 156, 3) := by decide +kernel
theorem dX10_go_9 : decode cX10_go 9 = .ok (.i2l, 1) := by decide +kernel
theorem dX10_go_10 : decode cX10_go 10 = .ok (.iload_n 2, 1) := by decide +kernel
theorem dX10_go_11 : decode cX10_go 11 = .ok (.i2l, 1) := by decide +kernel
theorem dX10_go_12 : decode cX10_go 12 = .ok (.lmul, 1) := by decide +kernel
theorem dX10_go_13 : decode cX10_go 13 = .ok (.ladd, 1) := by decide +kernel
theorem dX10_go_14 : decode cX10_go 14 = .ok (.putfield 152, 3) := by decide +kernel
theorem dX10_go_17 : decode cX10_go 17 = .ok (.aload_n 0, 1) := by decide +kernel
theorem dX10_go_18 : decode cX10_go 18 = .ok (.dup, 1) := by decide +kernel
theorem dX10_go_19 : decode cX10_go 19 = .ok (.getfield 159, 3) := by decide +kernel
theorem dX10_go_22 : decode cX10_go 22 = .ok (.iload_n 1, 1) := by decide +kernel
theorem dX10_go_23 : decode cX10_go 23 = .ok (.invokestatic 162, 3) := by decide +kernel
theorem dX10_go_26 : decode cX10_go 26 = .ok (.i2l, 1) := by decide +kernel
theorem dX10_go_27 : decode cX10_go 27 = .ok (.iload_n 2, 1) := by decide +kernel
theorem dX10_go_28 : decode cX10_go 28 = .ok (.i2l, 1) := by decide +kernel
theorem dX10_go_29 : decode cX10_go 29 = .ok (.lmul, 1) := by decide +kernel
theorem dX10_go_30 : decode cX10_go 30 = .ok (.ladd, 1) := by decide +kernel
theorem dX10_go_31 : decode cX10_go 31 = .ok (.putfield 159, 3) := by decide +kernel
theorem dX10_go_34 : decode cX10_go 34 = .ok (.return_, 1) := by decide +kernel
theorem dX10_runPlan_0 : decode cX10_runPlan 0 = .ok (.aload_n 0, 1) := by decide +kernel
theorem dX10_runPlan_1 : decode cX10_runPlan 1 = .ok (.invokevirtual 138, 3) := by decide +kernel
theorem dX10_runPlan_4 : decode cX10_runPlan 4 = .ok (.aload_n 0, 1) := by decide +kernel
theorem dX10_runPlan_5 : decode cX10_runPlan 5 = .ok (.lconst 0, 1) := by decide +kernel
theorem dX10_runPlan_6 : decode cX10_runPlan 6 = .ok (.putfield 152, 3) := by decide +kernel
theorem dX10_runPlan_9 : decode cX10_runPlan 9 = .ok (.aload_n 0, 1) := by decide +kernel
theorem dX10_runPlan_10 : decode cX10_runPlan 10 = .ok (.lconst 0, 1) := by decide +kernel
theorem dX10_runPlan_11 : decode cX10_runPlan 11 = .ok (.putfield 159, 3) := by decide +kernel
theorem dX10_runPlan_14 : decode cX10_runPlan 14 = .ok (.iconst 0, 1) := by decide +kernel
theorem dX10_runPlan_15 : decode cX10_runPlan 15 = .ok (.istore 4, 2) := by decide +kernel
theorem dX10_runPlan_17 : decode cX10_runPlan 17 = .ok (.iload 4, 2) := by decide +kernel
theorem dX10_runPlan_19 : decode cX10_runPlan 19 = .ok (.iload_n 2, 1) := by decide +kernel
theorem dX10_runPlan_20 : decode cX10_runPlan 20 = .ok (.if_icmp .ge 21, 3) := by decide +kernel
theorem dX10_runPlan_23 : decode cX10_runPlan 23 = .ok (.aload_n 0, 1) := by decide +kernel
theorem dX10_runPlan_24 : decode cX10_runPlan 24 = .ok (.aload_n 0, 1) := by decide +kernel
theorem dX10_runPlan_25 : decode cX10_runPlan 25 = .ok (.iload_n 1, 1) := by decide +kernel
theorem dX10_runPlan_26 : decode cX10_runPlan 26 = .ok (.iload 4, 2) := by decide +kernel
theorem dX10_runPlan_28 : decode cX10_runPlan 28 = .ok (.invokevirtual 141, 3) := by decide +kernel
theorem dX10_runPlan_31 : decode cX10_runPlan 31 = .ok (.iload_n 3, 1) := by decide +kernel
theorem dX10_runPlan_32 : decode cX10_runPlan 32 = .ok (.invokevirtual 165, 3) := by decide +kernel
theorem dX10_runPlan_35 : decode cX10_runPlan 35 = .ok (.iinc 4 1, 3) := by decide +kernel
theorem dX10_runPlan_38 : decode cX10_runPlan 38 = .ok (.goto (-21), 3) := by decide +kernel
theorem dX10_runPlan_41 : decode cX10_runPlan 41 = .ok (.return_, 1) := by decide +kernel
theorem dX10_ground_0 : decode cX10_ground 0 = .ok (.iload_n 1, 1) := by decide +kernel
theorem dX10_ground_1 : decode cX10_ground 1 = .ok (.invokestatic 126, 3) := by decide +kernel
theorem dX10_ground_4 : decode cX10_ground 4 = .ok (.ifCond .ne 7, 3) := by decide +kernel
theorem dX10_ground_7 : decode cX10_ground 7 = .ok (.ldc2_w 169, 3) := by decide +kernel
theorem dX10_ground_10 : decode cX10_ground 10 = .ok (.lreturn, 1) := by decide +kernel
theorem dX10_ground_11 : decode cX10_ground 11 = .ok (.iload_n 2, 1) := by decide +kernel
theorem dX10_ground_12 : decode cX10_ground 12 = .ok (.i2l, 1) := by decide +kernel
theorem dX10_ground_13 : decode cX10_ground 13 = .ok (.lconst 0, 1) := by decide +kernel
theorem dX10_ground_14 : decode cX10_ground 14 = .ok (.ldc2_w 136, 3) := by decide +kernel
theorem dX10_ground_17 : decode cX10_ground 17 = .ok (.invokestatic 122, 3) := by decide +kernel
theorem dX10_ground_20 : decode cX10_ground 20 = .ok (.ifCond .eq 13, 3) := by decide +kernel
theorem dX10_ground_23 : decode cX10_ground 23 = .ok (.iload_n 3, 1) := by decide +kernel
theorem dX10_ground_24 : decode cX10_ground 24 = .ok (.i2l, 1) := by decide +kernel
theorem dX10_ground_25 : decode cX10_ground 25 = .ok (.lconst 0, 1) := by decide +kernel
theorem dX10_ground_26 : decode cX10_ground 26 = .ok (.lconst 1, 1) := by decide +kernel
theorem dX10_ground_27 : decode cX10_ground 27 = .ok (.invokestatic 122, 3) := by decide +kernel
theorem dX10_ground_30 : decode cX10_ground 30 = .ok (.ifCond .ne 7, 3) := by decide +kernel
theorem dX10_ground_33 : decode cX10_ground 33 = .ok (.ldc2_w 171, 3) := by decide +kernel
theorem dX10_ground_36 : decode cX10_ground 36 = .ok (.lreturn, 1) := by decide +kernel
theorem dX10_ground_37 : decode cX10_ground 37 = .ok (.aload_n 0, 1) := by decide +kernel
theorem dX10_ground_38 : decode cX10_ground 38 = .ok (.iload_n 1, 1) := by decide +kernel
theorem dX10_ground_39 : decode cX10_ground 39 = .ok (.iload_n 2, 1) := by decide +kernel
theorem dX10_ground_40 : decode cX10_ground 40 = .ok (.iconst 1, 1) := by decide +kernel
theorem dX10_ground_41 : decode cX10_ground 41 = .ok (.invokevirtual 173, 3) := by decide +kernel
theorem dX10_ground_44 : decode cX10_ground 44 = .ok (.iload_n 3, 1) := by decide +kernel
theorem dX10_ground_45 : decode cX10_ground 45 = .ok (.ifCond .ne 10, 3) := by decide +kernel
theorem dX10_ground_48 : decode cX10_ground 48 = .ok (.aload_n 0, 1) := by decide +kernel
theorem dX10_ground_49 : decode cX10_ground 49 = .ok (.getfield 152, 3) := by decide +kernel
theorem dX10_ground_52 : decode cX10_ground 52 = .ok (.goto 7, 3) := by decide +kernel
theorem dX10_ground_55 : decode cX10_ground 55 = .ok (.aload_n 0, 1) := by decide +kernel
theorem dX10_ground_56 : decode cX10_ground 56 = .ok (.getfield 159, 3) := by decide +kernel
theorem dX10_ground_59 : decode cX10_ground 59 = .ok (.lreturn, 1) := by decide +kernel
theorem dX10_steer_0 : decode cX10_steer 0 = .ok (.iload_n 1, 1) := by decide +kernel
theorem dX10_steer_1 : decode cX10_steer 1 = .ok (.invokestatic 126, 3) := by decide +kernel
theorem dX10_steer_4 : decode cX10_steer 4 = .ok (.ifCond .ne 5, 3) := by decide +kernel
theorem dX10_steer_7 : decode cX10_steer 7 = .ok (.iconst (-1), 1) := by decide +kernel
theorem dX10_steer_8 : decode cX10_steer 8 = .ok (.ireturn, 1) := by decide +kernel
theorem dX10_steer_9 : decode cX10_steer 9 = .ok (.aload_n 0, 1) := by decide +kernel
theorem dX10_steer_10 : decode cX10_steer 10 = .ok (.getfield 177, 3) := by decide +kernel
theorem dX10_steer_13 : decode cX10_steer 13 = .ok (.istore_n 2, 1) := by decide +kernel
theorem dX10_steer_14 : decode cX10_steer 14 = .ok (.aload_n 0, 1) := by decide +kernel
theorem dX10_steer_15 : decode cX10_steer 15 = .ok (.iload_n 1, 1) := by decide +kernel
theorem dX10_steer_16 : decode cX10_steer 16 = .ok (.putfield 177, 3) := by decide +kernel
theorem dX10_steer_19 : decode cX10_steer 19 = .ok (.iload_n 2, 1) := by decide +kernel
theorem dX10_steer_20 : decode cX10_steer 20 = .ok (.ireturn, 1) := by decide +kernel
theorem dX10_isStart_0 : decode cX10_isStart 0 = .ok (.iload_n 0, 1) := by decide +kernel
theorem dX10_isStart_1 : decode cX10_isStart 1 = .ok (.i2l, 1) := by decide +kernel
theorem dX10_isStart_2 : decode cX10_isStart 2 = .ok (.ldc2_w 180, 3) := by decide +kernel
theorem dX10_isStart_5 : decode cX10_isStart 5 = .ok (.ldc2_w 182, 3) := by decide +kernel
theorem dX10_isStart_8 : decode cX10_isStart 8 = .ok (.invokestatic 122, 3) := by decide +kernel
theorem dX10_isStart_11 : decode cX10_isStart 11 = .ok (.ifCond .eq 33, 3) := by decide +kernel
theorem dX10_isStart_14 : decode cX10_isStart 14 = .ok (.iload_n 1, 1) := by decide +kernel
theorem dX10_isStart_15 : decode cX10_isStart 15 = .ok (.i2l, 1) := by decide +kernel
theorem dX10_isStart_16 : decode cX10_isStart 16 = .ok (.ldc2_w 180, 3) := by decide +kernel
theorem dX10_isStart_19 : decode cX10_isStart 19 = .ok (.ldc2_w 182, 3) := by decide +kernel
theorem dX10_isStart_22 : decode cX10_isStart 22 = .ok (.invokestatic 122, 3) := by decide +kernel
theorem dX10_isStart_25 : decode cX10_isStart 25 = .ok (.ifCond .eq 19, 3) := by decide +kernel
theorem dX10_isStart_28 : decode cX10_isStart 28 = .ok (.iload_n 2, 1) := by decide +kernel
theorem dX10_isStart_29 : decode cX10_isStart 29 = .ok (.i2l, 1) := by decide +kernel
theorem dX10_isStart_30 : decode cX10_isStart 30 = .ok (.lconst 1, 1) := by decide +kernel
theorem dX10_isStart_31 : decode cX10_isStart 31 = .ok (.ldc2_w 184, 3) := by decide +kernel
theorem dX10_isStart_34 : decode cX10_isStart 34 = .ok (.invokestatic 122, 3) := by decide +kernel
theorem dX10_isStart_37 : decode cX10_isStart 37 = .ok (.ifCond .eq 7, 3) := by decide +kernel
theorem dX10_isStart_40 : decode cX10_isStart 40 = .ok (.iconst 1, 1) := by decide +kernel
theorem dX10_isStart_41 : decode cX10_isStart 41 = .ok (.goto 4, 3) := by decide +kernel
theorem dX10_isStart_44 : decode cX10_isStart 44 = .ok (.iconst 0, 1) := by decide +kernel
theorem dX10_isStart_45 : decode cX10_isStart 45 = .ok (.ireturn, 1) := by decide +kernel
theorem dX10_ship_0 : decode cX10_ship 0 = .ok (.iload_n 1, 1) := by decide +kernel
theorem dX10_ship_1 : decode cX10_ship 1 = .ok (.iload_n 2, 1) := by decide +kernel
theorem dX10_ship_2 : decode cX10_ship 2 = .ok (.iload_n 3, 1) := by decide +kernel
theorem dX10_ship_3 : decode cX10_ship 3 = .ok (.invokestatic 186, 3) := by decide +kernel
theorem dX10_ship_6 : decode cX10_ship 6 = .ok (.ifCond .eq 18, 3) := by decide +kernel
theorem dX10_ship_9 : decode cX10_ship 9 = .ok (.iload 4, 2) := by decide +kernel
theorem dX10_ship_11 : decode cX10_ship 11 = .ok (.i2l, 1) := by decide +kernel
theorem dX10_ship_12 : decode cX10_ship 12 = .ok (.ldc2_w 190, 3) := by decide +kernel
theorem dX10_ship_15 : decode cX10_ship 15 = .ok (.ldc2_w 192, 3) := by decide +kernel
theorem dX10_ship_18 : decode cX10_ship 18 = .ok (.invokestatic 122, 3) := by decide +kernel
theorem dX10_ship_21 : decode cX10_ship 21 = .ok (.ifCond .ne 6, 3) := by decide +kernel
theorem dX10_ship_24 : decode cX10_ship 24 = .ok (.bipush (-2), 2) := by decide +kernel
theorem dX10_ship_26 : decode cX10_ship 26 = .ok (.ireturn, 1) := by decide +kernel
theorem dX10_ship_27 : decode cX10_ship 27 = .ok (.aload_n 0, 1) := by decide +kernel
theorem dX10_ship_28 : decode cX10_ship 28 = .ok (.getfield 194, 3) := by decide +kernel
theorem dX10_ship_31 : decode cX10_ship 31 = .ok (.bipush 9, 2) := by decide +kernel
theorem dX10_ship_33 : decode cX10_ship 33 = .ok (.if_icmp .ne 6, 3) := by decide +kernel
theorem dX10_ship_36 : decode cX10_ship 36 = .ok (.bipush (-4), 2) := by decide +kernel
theorem dX10_ship_38 : decode cX10_ship 38 = .ok (.ireturn, 1) := by decide +kernel
theorem dX10_ship_39 : decode cX10_ship 39 = .ok (.aload_n 0, 1) := by decide +kernel
theorem dX10_ship_40 : decode cX10_ship 40 = .ok (.getfield 22, 3) := by decide +kernel
theorem dX10_ship_43 : decode cX10_ship 43 = .ok (.aload_n 0, 1) := by decide +kernel
theorem dX10_ship_44 : decode cX10_ship 44 = .ok (.getfield 194, 3) := by decide +kernel
theorem dX10_ship_47 : decode cX10_ship 47 = .ok (.iload_n 1, 1) := by decide +kernel
theorem dX10_ship_48 : decode cX10_ship 48 = .ok (.iastore, 1) := by decide +kernel
theorem dX10_ship_49 : decode cX10_ship 49 = .ok (.aload_n 0, 1) := by decide +kernel
theorem dX10_ship_50 : decode cX10_ship 50 = .ok (.getfield 25, 3) := by decide +kernel
theorem dX10_ship_53 : decode cX10_ship 53 = .ok (.aload_n 0, 1) := by decide +kernel
theorem dX10_ship_54 : decode cX10_ship 54 = .ok (.getfield 194, 3) := by decide +kernel
theorem dX10_ship_57 : decode cX10_ship 57 = .ok (.iload_n 2, 1) := by decide +kernel
theorem dX10_ship_58 : decode cX10_ship 58 = .ok (.iastore, 1) := by decide +kernel
theorem dX10_ship_59 : decode cX10_ship 59 = .ok (.aload_n 0, 1) := by decide +kernel
theorem dX10_ship_60 : decode cX10_ship 60 = .ok (.getfield 28, 3) := by decide +kernel
theorem dX10_ship_63 : decode cX10_ship 63 = .ok (.aload_n 0, 1) := by decide +kernel
theorem dX10_ship_64 : decode cX10_ship 64 = .ok (.getfield 194, 3) := by decide +kernel
theorem dX10_ship_67 : decode cX10_ship 67 = .ok (.iload_n 3, 1) := by decide +kernel
theorem dX10_ship_68 : decode cX10_ship 68 = .ok (.iastore, 1) := by decide +kernel
theorem dX10_ship_69 : decode cX10_ship 69 = .ok (.aload_n 0, 1) := by decide +kernel
theorem dX10_ship_70 : decode cX10_ship 70 = .ok (.getfield 31, 3) := by decide +kernel
theorem dX10_ship_73 : decode cX10_ship 73 = .ok (.aload_n 0, 1) := by decide +kernel
theorem dX10_ship_74 : decode cX10_ship 74 = .ok (.getfield 194, 3) := by decide +kernel
theorem dX10_ship_77 : decode cX10_ship 77 = .ok (.iload 4, 2) := by decide +kernel
theorem dX10_ship_79 : decode cX10_ship 79 = .ok (.iastore, 1) := by decide +kernel
theorem dX10_ship_80 : decode cX10_ship 80 = .ok (.aload_n 0, 1) := by decide +kernel
theorem dX10_ship_81 : decode cX10_ship 81 = .ok (.dup, 1) := by decide +kernel
theorem dX10_ship_82 : decode cX10_ship 82 = .ok (.getfield 194, 3) := by decide +kernel
theorem dX10_ship_85 : decode cX10_ship 85 = .ok (.iconst 1, 1) := by decide +kernel
theorem dX10_ship_86 : decode cX10_ship 86 = .ok (.iadd, 1) := by decide +kernel
theorem dX10_ship_87 : decode cX10_ship 87 = .ok (.putfield 194, 3) := by decide +kernel
theorem dX10_ship_90 : decode cX10_ship 90 = .ok (.aload_n 0, 1) := by decide +kernel
theorem dX10_ship_91 : decode cX10_ship 91 = .ok (.getfield 194, 3) := by decide +kernel
theorem dX10_ship_94 : decode cX10_ship 94 = .ok (.iconst 1, 1) := by decide +kernel
theorem dX10_ship_95 : decode cX10_ship 95 = .ok (.isub, 1) := by decide +kernel
theorem dX10_ship_96 : decode cX10_ship 96 = .ok (.ireturn, 1) := by decide +kernel
theorem dX10_miss_0 : decode cX10_miss 0 = .ok (.iload_n 1, 1) := by decide +kernel
theorem dX10_miss_1 : decode cX10_miss 1 = .ok (.i2l, 1) := by decide +kernel
theorem dX10_miss_2 : decode cX10_miss 2 = .ok (.lconst 0, 1) := by decide +kernel
theorem dX10_miss_3 : decode cX10_miss 3 = .ok (.aload_n 0, 1) := by decide +kernel
theorem dX10_miss_4 : decode cX10_miss 4 = .ok (.getfield 194, 3) := by decide +kernel
theorem dX10_miss_7 : decode cX10_miss 7 = .ok (.iconst 1, 1) := by decide +kernel
theorem dX10_miss_8 : decode cX10_miss 8 = .ok (.isub, 1) := by decide +kernel
theorem dX10_miss_9 : decode cX10_miss 9 = .ok (.i2l, 1) := by decide +kernel
theorem dX10_miss_10 : decode cX10_miss 10 = .ok (.invokestatic 122, 3) := by decide +kernel
theorem dX10_miss_13 : decode cX10_miss 13 = .ok (.ifCond .ne 5, 3) := by decide +kernel
theorem dX10_miss_16 : decode cX10_miss 16 = .ok (.iconst (-1), 1) := by decide +kernel
theorem dX10_miss_17 : decode cX10_miss 17 = .ok (.ireturn, 1) := by decide +kernel
theorem dX10_miss_18 : decode cX10_miss 18 = .ok (.iload_n 2, 1) := by decide +kernel
theorem dX10_miss_19 : decode cX10_miss 19 = .ok (.i2l, 1) := by decide +kernel
theorem dX10_miss_20 : decode cX10_miss 20 = .ok (.lconst 0, 1) := by decide +kernel
theorem dX10_miss_21 : decode cX10_miss 21 = .ok (.ldc2_w 197, 3) := by decide +kernel
theorem dX10_miss_24 : decode cX10_miss 24 = .ok (.invokestatic 122, 3) := by decide +kernel
theorem dX10_miss_27 : decode cX10_miss 27 = .ok (.ifCond .eq 15, 3) := by decide +kernel
theorem dX10_miss_30 : decode cX10_miss 30 = .ok (.iload_n 3, 1) := by decide +kernel
theorem dX10_miss_31 : decode cX10_miss 31 = .ok (.i2l, 1) := by decide +kernel
theorem dX10_miss_32 : decode cX10_miss 32 = .ok (.lconst 0, 1) := by decide +kernel
theorem dX10_miss_33 : decode cX10_miss 33 = .ok (.ldc2_w 199, 3) := by decide +kernel
theorem dX10_miss_36 : decode cX10_miss 36 = .ok (.invokestatic 122, 3) := by decide +kernel
theorem dX10_miss_39 : decode cX10_miss 39 = .ok (.ifCond .ne 6, 3) := by decide +kernel
theorem dX10_miss_42 : decode cX10_miss 42 = .ok (.bipush (-2), 2) := by decide +kernel
theorem dX10_miss_44 : decode cX10_miss 44 = .ok (.ireturn, 1) := by decide +kernel
theorem dX10_miss_45 : decode cX10_miss 45 = .ok (.aload_n 0, 1) := by decide +kernel
theorem dX10_miss_46 : decode cX10_miss 46 = .ok (.getfield 201, 3) := by decide +kernel
theorem dX10_miss_49 : decode cX10_miss 49 = .ok (.bipush 20, 2) := by decide +kernel
theorem dX10_miss_51 : decode cX10_miss 51 = .ok (.if_icmp .ne 6, 3) := by decide +kernel
theorem dX10_miss_54 : decode cX10_miss 54 = .ok (.bipush (-4), 2) := by decide +kernel
theorem dX10_miss_56 : decode cX10_miss 56 = .ok (.ireturn, 1) := by decide +kernel
theorem dX10_miss_57 : decode cX10_miss 57 = .ok (.iconst 0, 1) := by decide +kernel
theorem dX10_miss_58 : decode cX10_miss 58 = .ok (.istore 4, 2) := by decide +kernel
theorem dX10_miss_60 : decode cX10_miss 60 = .ok (.iload 4, 2) := by decide +kernel
theorem dX10_miss_62 : decode cX10_miss 62 = .ok (.aload_n 0, 1) := by decide +kernel
theorem dX10_miss_63 : decode cX10_miss 63 = .ok (.getfield 201, 3) := by decide +kernel
theorem dX10_miss_66 : decode cX10_miss 66 = .ok (.if_icmp .ge 45, 3) := by decide +kernel
theorem dX10_miss_69 : decode cX10_miss 69 = .ok (.aload_n 0, 1) := by decide +kernel
theorem dX10_miss_70 : decode cX10_miss 70 = .ok (.getfield 34, 3) := by decide +kernel
theorem dX10_miss_73 : decode cX10_miss 73 = .ok (.iload 4, 2) := by decide +kernel
theorem dX10_miss_75 : decode cX10_miss 75 = .ok (.iaload, 1) := by decide +kernel
theorem dX10_miss_76 : decode cX10_miss 76 = .ok (.iload_n 1, 1) := by decide +kernel
theorem dX10_miss_77 : decode cX10_miss 77 = .ok (.if_icmp .ne 28, 3) := by decide +kernel
theorem dX10_miss_80 : decode cX10_miss 80 = .ok (.aload_n 0, 1) := by decide +kernel
theorem dX10_miss_81 : decode cX10_miss 81 = .ok (.getfield 37, 3) := by decide +kernel
theorem dX10_miss_84 : decode cX10_miss 84 = .ok (.iload 4, 2) := by decide +kernel
theorem dX10_miss_86 : decode cX10_miss 86 = .ok (.iaload, 1) := by decide +kernel
theorem dX10_miss_87 : decode cX10_miss 87 = .ok (.iload_n 2, 1) := by decide +kernel
theorem dX10_miss_88 : decode cX10_miss 88 = .ok (.if_icmp .ne 17, 3) := by decide +kernel
theorem dX10_miss_91 : decode cX10_miss 91 = .ok (.aload_n 0, 1) := by decide +kernel
theorem dX10_miss_92 : decode cX10_miss 92 = .ok (.getfield 40, 3) := by decide +kernel
theorem dX10_miss_95 : decode cX10_miss 95 = .ok (.iload 4, 2) := by decide +kernel
theorem dX10_miss_97 : decode cX10_miss 97 = .ok (.iaload, 1) := by decide +kernel
theorem dX10_miss_98 : decode cX10_miss 98 = .ok (.iload_n 3, 1) := by decide +kernel
theorem dX10_miss_99 : decode cX10_miss 99 = .ok (.if_icmp .ne 6, 3) := by decide +kernel
theorem dX10_miss_102 : decode cX10_miss 102 = .ok (.bipush (-5), 2) := by decide +kernel
theorem dX10_miss_104 : decode cX10_miss 104 = .ok (.ireturn, 1) := by decide +kernel
theorem dX10_miss_105 : decode cX10_miss 105 = .ok (.iinc 4 1, 3) := by decide +kernel
theorem dX10_miss_108 : decode cX10_miss 108 = .ok (.goto (-48), 3) := by decide +kernel
theorem dX10_miss_111 : decode cX10_miss 111 = .ok (.aload_n 0, 1) := by decide +kernel
theorem dX10_miss_112 : decode cX10_miss 112 = .ok (.getfield 34, 3) := by decide +kernel
theorem dX10_miss_115 : decode cX10_miss 115 = .ok (.aload_n 0, 1) := by decide +kernel
theorem dX10_miss_116 : decode cX10_miss 116 = .ok (.getfield 201, 3) := by decide +kernel
theorem dX10_miss_119 : decode cX10_miss 119 = .ok (.iload_n 1, 1) := by decide +kernel
theorem dX10_miss_120 : decode cX10_miss 120 = .ok (.iastore, 1) := by decide +kernel
theorem dX10_miss_121 : decode cX10_miss 121 = .ok (.aload_n 0, 1) := by decide +kernel
theorem dX10_miss_122 : decode cX10_miss 122 = .ok (.getfield 37, 3) := by decide +kernel
theorem dX10_miss_125 : decode cX10_miss 125 = .ok (.aload_n 0, 1) := by decide +kernel
theorem dX10_miss_126 : decode cX10_miss 126 = .ok (.getfield 201, 3) := by decide +kernel
theorem dX10_miss_129 : decode cX10_miss 129 = .ok (.iload_n 2, 1) := by decide +kernel
theorem dX10_miss_130 : decode cX10_miss 130 = .ok (.iastore, 1) := by decide +kernel
theorem dX10_miss_131 : decode cX10_miss 131 = .ok (.aload_n 0, 1) := by decide +kernel
theorem dX10_miss_132 : decode cX10_miss 132 = .ok (.getfield 40, 3) := by decide +kernel
theorem dX10_miss_135 : decode cX10_miss 135 = .ok (.aload_n 0, 1) := by decide +kernel
theorem dX10_miss_136 : decode cX10_miss 136 = .ok (.getfield 201, 3) := by decide +kernel
theorem dX10_miss_139 : decode cX10_miss 139 = .ok (.iload_n 3, 1) := by decide +kernel
theorem dX10_miss_140 : decode cX10_miss 140 = .ok (.iastore, 1) := by decide +kernel
theorem dX10_miss_141 : decode cX10_miss 141 = .ok (.aload_n 0, 1) := by decide +kernel
theorem dX10_miss_142 : decode cX10_miss 142 = .ok (.dup, 1) := by decide +kernel
theorem dX10_miss_143 : decode cX10_miss 143 = .ok (.getfield 201, 3) := by decide +kernel
theorem dX10_miss_146 : decode cX10_miss 146 = .ok (.iconst 1, 1) := by decide +kernel
theorem dX10_miss_147 : decode cX10_miss 147 = .ok (.iadd, 1) := by decide +kernel
theorem dX10_miss_148 : decode cX10_miss 148 = .ok (.putfield 201, 3) := by decide +kernel
theorem dX10_miss_151 : decode cX10_miss 151 = .ok (.aload_n 0, 1) := by decide +kernel
theorem dX10_miss_152 : decode cX10_miss 152 = .ok (.getfield 201, 3) := by decide +kernel
theorem dX10_miss_155 : decode cX10_miss 155 = .ok (.ireturn, 1) := by decide +kernel
theorem dX10_fog_0 : decode cX10_fog 0 = .ok (.iload_n 1, 1) := by decide +kernel
theorem dX10_fog_1 : decode cX10_fog 1 = .ok (.i2l, 1) := by decide +kernel
theorem dX10_fog_2 : decode cX10_fog 2 = .ok (.lconst 0, 1) := by decide +kernel
theorem dX10_fog_3 : decode cX10_fog 3 = .ok (.iload_n 2, 1) := by decide +kernel
theorem dX10_fog_4 : decode cX10_fog 4 = .ok (.i2l, 1) := by decide +kernel
theorem dX10_fog_5 : decode cX10_fog 5 = .ok (.invokestatic 122, 3) := by decide +kernel
theorem dX10_fog_8 : decode cX10_fog 8 = .ok (.ifCond .eq 15, 3) := by decide +kernel
theorem dX10_fog_11 : decode cX10_fog 11 = .ok (.iload_n 2, 1) := by decide +kernel
theorem dX10_fog_12 : decode cX10_fog 12 = .ok (.i2l, 1) := by decide +kernel
theorem dX10_fog_13 : decode cX10_fog 13 = .ok (.lconst 0, 1) := by decide +kernel
theorem dX10_fog_14 : decode cX10_fog 14 = .ok (.ldc2_w 136, 3) := by decide +kernel
theorem dX10_fog_17 : decode cX10_fog 17 = .ok (.invokestatic 122, 3) := by decide +kernel
theorem dX10_fog_20 : decode cX10_fog 20 = .ok (.ifCond .ne 6, 3) := by decide +kernel
theorem dX10_fog_23 : decode cX10_fog 23 = .ok (.bipush (-2), 2) := by decide +kernel
theorem dX10_fog_25 : decode cX10_fog 25 = .ok (.ireturn, 1) := by decide +kernel
theorem dX10_fog_26 : decode cX10_fog 26 = .ok (.aload_n 0, 1) := by decide +kernel
theorem dX10_fog_27 : decode cX10_fog 27 = .ok (.iload_n 1, 1) := by decide +kernel
theorem dX10_fog_28 : decode cX10_fog 28 = .ok (.putfield 204, 3) := by decide +kernel
theorem dX10_fog_31 : decode cX10_fog 31 = .ok (.aload_n 0, 1) := by decide +kernel
theorem dX10_fog_32 : decode cX10_fog 32 = .ok (.iload_n 2, 1) := by decide +kernel
theorem dX10_fog_33 : decode cX10_fog 33 = .ok (.putfield 207, 3) := by decide +kernel
theorem dX10_fog_36 : decode cX10_fog 36 = .ok (.iconst 1, 1) := by decide +kernel
theorem dX10_fog_37 : decode cX10_fog 37 = .ok (.ireturn, 1) := by decide +kernel
theorem dX10_step_0 : decode cX10_step 0 = .ok (.iload_n 1, 1) := by decide +kernel
theorem dX10_step_1 : decode cX10_step 1 = .ok (.aload_n 0, 1) := by decide +kernel
theorem dX10_step_2 : decode cX10_step 2 = .ok (.getfield 204, 3) := by decide +kernel
theorem dX10_step_5 : decode cX10_step 5 = .ok (.if_icmp .lt 15, 3) := by decide +kernel
theorem dX10_step_8 : decode cX10_step 8 = .ok (.iload_n 1, 1) := by decide +kernel
theorem dX10_step_9 : decode cX10_step 9 = .ok (.aload_n 0, 1) := by decide +kernel
theorem dX10_step_10 : decode cX10_step 10 = .ok (.getfield 207, 3) := by decide +kernel
theorem dX10_step_13 : decode cX10_step 13 = .ok (.if_icmp .ge 7, 3) := by decide +kernel
theorem dX10_step_16 : decode cX10_step 16 = .ok (.iconst 1, 1) := by decide +kernel
theorem dX10_step_17 : decode cX10_step 17 = .ok (.goto 4, 3) := by decide +kernel
theorem dX10_step_20 : decode cX10_step 20 = .ok (.iconst 0, 1) := by decide +kernel
theorem dX10_step_21 : decode cX10_step 21 = .ok (.istore 4, 2) := by decide +kernel
theorem dX10_step_23 : decode cX10_step 23 = .ok (.aload_n 0, 1) := by decide +kernel
theorem dX10_step_24 : decode cX10_step 24 = .ok (.iload 4, 2) := by decide +kernel
theorem dX10_step_26 : decode cX10_step 26 = .ok (.ifCond .eq 7, 3) := by decide +kernel
theorem dX10_step_29 : decode cX10_step 29 = .ok (.iconst 0, 1) := by decide +kernel
theorem dX10_step_30 : decode cX10_step 30 = .ok (.goto 14, 3) := by decide +kernel
theorem dX10_step_33 : decode cX10_step 33 = .ok (.aload_n 0, 1) := by decide +kernel
theorem dX10_step_34 : decode cX10_step 34 = .ok (.aload_n 0, 1) := by decide +kernel
theorem dX10_step_35 : decode cX10_step 35 = .ok (.getfield 177, 3) := by decide +kernel
theorem dX10_step_38 : decode cX10_step 38 = .ok (.iload_n 1, 1) := by decide +kernel
theorem dX10_step_39 : decode cX10_step 39 = .ok (.iload_n 2, 1) := by decide +kernel
theorem dX10_step_40 : decode cX10_step 40 = .ok (.iadd, 1) := by decide +kernel
theorem dX10_step_41 : decode cX10_step 41 = .ok (.invokevirtual 141, 3) := by decide +kernel
theorem dX10_step_44 : decode cX10_step 44 = .ok (.iload_n 3, 1) := by decide +kernel
theorem dX10_step_45 : decode cX10_step 45 = .ok (.invokevirtual 165, 3) := by decide +kernel
theorem dX10_step_48 : decode cX10_step 48 = .ok (.return_, 1) := by decide +kernel
theorem dX10_layMisses_0 : decode cX10_layMisses 0 = .ok (.aload_n 0, 1) := by decide +kernel
theorem dX10_layMisses_1 : decode cX10_layMisses 1 = .ok (.invokevirtual 138, 3) := by decide +kernel
theorem dX10_layMisses_4 : decode cX10_layMisses 4 = .ok (.iconst 0, 1) := by decide +kernel
theorem dX10_layMisses_5 : decode cX10_layMisses 5 = .ok (.istore_n 2, 1) := by decide +kernel
theorem dX10_layMisses_6 : decode cX10_layMisses 6 = .ok (.iload_n 2, 1) := by decide +kernel
theorem dX10_layMisses_7 : decode cX10_layMisses 7 = .ok (.aload_n 0, 1) := by decide +kernel
theorem dX10_layMisses_8 : decode cX10_layMisses 8 = .ok (.getfield 201, 3) := by decide +kernel
theorem dX10_layMisses_11 : decode cX10_layMisses 11 = .ok (.if_icmp .ge 45, 3) := by decide +kernel
theorem dX10_layMisses_14 : decode cX10_layMisses 14 = .ok (.aload_n 0, 1) := by decide +kernel
theorem dX10_layMisses_15 : decode cX10_layMisses 15 = .ok (.getfield 19, 3) := by decide +kernel
theorem dX10_layMisses_18 : decode cX10_layMisses 18 = .ok (.aload_n 0, 1) := by decide +kernel
theorem dX10_layMisses_19 : decode cX10_layMisses 19 = .ok (.getfield 37, 3) := by decide +kernel
theorem dX10_layMisses_22 : decode cX10_layMisses 22 = .ok (.iload_n 2, 1) := by decide +kernel
theorem dX10_layMisses_23 : decode cX10_layMisses 23 = .ok (.iaload, 1) := by decide +kernel
theorem dX10_layMisses_24 : decode cX10_layMisses 24 = .ok (.dup2, 1) := by decide +kernel
theorem dX10_layMisses_25 : decode cX10_layMisses 25 = .ok (.iaload, 1) := by decide +kernel
theorem dX10_layMisses_26 : decode cX10_layMisses 26 = .ok (.aload_n 0, 1) := by decide +kernel
theorem dX10_layMisses_27 : decode cX10_layMisses 27 = .ok (.getfield 34, 3) := by decide +kernel
theorem dX10_layMisses_30 : decode cX10_layMisses 30 = .ok (.iload_n 2, 1) := by decide +kernel
theorem dX10_layMisses_31 : decode cX10_layMisses 31 = .ok (.iaload, 1) := by decide +kernel
theorem dX10_layMisses_32 : decode cX10_layMisses 32 = .ok (.iload_n 1, 1) := by decide +kernel
theorem dX10_layMisses_33 : decode cX10_layMisses 33 = .ok (.if_icmp .ne 14, 3) := by decide +kernel
theorem dX10_layMisses_36 : decode cX10_layMisses 36 = .ok (.iconst 1, 1) := by decide +kernel
theorem dX10_layMisses_37 : decode cX10_layMisses 37 = .ok (.aload_n 0, 1) := by decide +kernel
theorem dX10_layMisses_38 : decode cX10_layMisses 38 = .ok (.getfield 40, 3) := by decide +kernel
theorem dX10_layMisses_41 : decode cX10_layMisses 41 = .ok (.iload_n 2, 1) := by decide +kernel
theorem dX10_layMisses_42 : decode cX10_layMisses 42 = .ok (.iaload, 1) := by decide +kernel
theorem dX10_layMisses_43 : decode cX10_layMisses 43 = .ok (.ishl, 1) := by decide +kernel
theorem dX10_layMisses_44 : decode cX10_layMisses 44 = .ok (.goto 4, 3) := by decide +kernel
theorem dX10_layMisses_47 : decode cX10_layMisses 47 = .ok (.iconst 0, 1) := by decide +kernel
theorem dX10_layMisses_48 : decode cX10_layMisses 48 = .ok (.ior, 1) := by decide +kernel
theorem dX10_layMisses_49 : decode cX10_layMisses 49 = .ok (.iastore, 1) := by decide +kernel
theorem dX10_layMisses_50 : decode cX10_layMisses 50 = .ok (.iinc 2 1, 3) := by decide +kernel
theorem dX10_layMisses_53 : decode cX10_layMisses 53 = .ok (.goto (-47), 3) := by decide +kernel
theorem dX10_layMisses_56 : decode cX10_layMisses 56 = .ok (.return_, 1) := by decide +kernel
theorem dX10_place_0 : decode cX10_place 0 = .ok (.iload_n 1, 1) := by decide +kernel
theorem dX10_place_1 : decode cX10_place 1 = .ok (.i2l, 1) := by decide +kernel
theorem dX10_place_2 : decode cX10_place 2 = .ok (.lconst 0, 1) := by decide +kernel
theorem dX10_place_3 : decode cX10_place 3 = .ok (.aload_n 0, 1) := by decide +kernel
theorem dX10_place_4 : decode cX10_place 4 = .ok (.getfield 194, 3) := by decide +kernel
theorem dX10_place_7 : decode cX10_place 7 = .ok (.iconst 1, 1) := by decide +kernel
theorem dX10_place_8 : decode cX10_place 8 = .ok (.isub, 1) := by decide +kernel
theorem dX10_place_9 : decode cX10_place 9 = .ok (.i2l, 1) := by decide +kernel
theorem dX10_place_10 : decode cX10_place 10 = .ok (.invokestatic 122, 3) := by decide +kernel
theorem dX10_place_13 : decode cX10_place 13 = .ok (.ifCond .ne 7, 3) := by decide +kernel
theorem dX10_place_16 : decode cX10_place 16 = .ok (.ldc2_w 169, 3) := by decide +kernel
theorem dX10_place_19 : decode cX10_place 19 = .ok (.lreturn, 1) := by decide +kernel
theorem dX10_place_20 : decode cX10_place 20 = .ok (.iload_n 2, 1) := by decide +kernel
theorem dX10_place_21 : decode cX10_place 21 = .ok (.i2l, 1) := by decide +kernel
theorem dX10_place_22 : decode cX10_place 22 = .ok (.lconst 0, 1) := by decide +kernel
theorem dX10_place_23 : decode cX10_place 23 = .ok (.ldc2_w 136, 3) := by decide +kernel
theorem dX10_place_26 : decode cX10_place 26 = .ok (.invokestatic 122, 3) := by decide +kernel
theorem dX10_place_29 : decode cX10_place 29 = .ok (.ifCond .eq 13, 3) := by decide +kernel
theorem dX10_place_32 : decode cX10_place 32 = .ok (.iload_n 3, 1) := by decide +kernel
theorem dX10_place_33 : decode cX10_place 33 = .ok (.i2l, 1) := by decide +kernel
theorem dX10_place_34 : decode cX10_place 34 = .ok (.lconst 0, 1) := by decide +kernel
theorem dX10_place_35 : decode cX10_place 35 = .ok (.lconst 1, 1) := by decide +kernel
theorem dX10_place_36 : decode cX10_place 36 = .ok (.invokestatic 122, 3) := by decide +kernel
theorem dX10_place_39 : decode cX10_place 39 = .ok (.ifCond .ne 7, 3) := by decide +kernel
theorem dX10_place_42 : decode cX10_place 42 = .ok (.ldc2_w 171, 3) := by decide +kernel
theorem dX10_place_45 : decode cX10_place 45 = .ok (.lreturn, 1) := by decide +kernel
theorem dX10_place_46 : decode cX10_place 46 = .ok (.aload_n 0, 1) := by decide +kernel
theorem dX10_place_47 : decode cX10_place 47 = .ok (.iload_n 1, 1) := by decide +kernel
theorem dX10_place_48 : decode cX10_place 48 = .ok (.invokevirtual 210, 3) := by decide +kernel
theorem dX10_place_51 : decode cX10_place 51 = .ok (.aload_n 0, 1) := by decide +kernel
theorem dX10_place_52 : decode cX10_place 52 = .ok (.aload_n 0, 1) := by decide +kernel
theorem dX10_place_53 : decode cX10_place 53 = .ok (.getfield 22, 3) := by decide +kernel
theorem dX10_place_56 : decode cX10_place 56 = .ok (.iload_n 1, 1) := by decide +kernel
theorem dX10_place_57 : decode cX10_place 57 = .ok (.iaload, 1) := by decide +kernel
theorem dX10_place_58 : decode cX10_place 58 = .ok (.i2l, 1) := by decide +kernel
theorem dX10_place_59 : decode cX10_place 59 = .ok (.putfield 152, 3) := by decide +kernel
theorem dX10_place_62 : decode cX10_place 62 = .ok (.aload_n 0, 1) := by decide +kernel
theorem dX10_place_63 : decode cX10_place 63 = .ok (.aload_n 0, 1) := by decide +kernel
theorem dX10_place_64 : decode cX10_place 64 = .ok (.getfield 25, 3) := by decide +kernel
theorem dX10_place_67 : decode cX10_place 67 = .ok (.iload_n 1, 1) := by decide +kernel
theorem dX10_place_68 : decode cX10_place 68 = .ok (.iaload, 1) := by decide +kernel
theorem dX10_place_69 : decode cX10_place 69 = .ok (.i2l, 1) := by decide +kernel
theorem dX10_place_70 : decode cX10_place 70 = .ok (.putfield 159, 3) := by decide +kernel
theorem dX10_place_73 : decode cX10_place 73 = .ok (.iconst 0, 1) := by decide +kernel
theorem dX10_place_74 : decode cX10_place 74 = .ok (.istore 4, 2) := by decide +kernel
theorem dX10_place_76 : decode cX10_place 76 = .ok (.iload 4, 2) := by decide +kernel
theorem dX10_place_78 : decode cX10_place 78 = .ok (.iload_n 2, 1) := by decide +kernel
theorem dX10_place_79 : decode cX10_place 79 = .ok (.if_icmp .ge 27, 3) := by decide +kernel
theorem dX10_place_82 : decode cX10_place 82 = .ok (.aload_n 0, 1) := by decide +kernel
theorem dX10_place_83 : decode cX10_place 83 = .ok (.iload 4, 2) := by decide +kernel
theorem dX10_place_85 : decode cX10_place 85 = .ok (.aload_n 0, 1) := by decide +kernel
theorem dX10_place_86 : decode cX10_place 86 = .ok (.getfield 31, 3) := by decide +kernel
theorem dX10_place_89 : decode cX10_place 89 = .ok (.iload_n 1, 1) := by decide +kernel
theorem dX10_place_90 : decode cX10_place 90 = .ok (.iaload, 1) := by decide +kernel
theorem dX10_place_91 : decode cX10_place 91 = .ok (.aload_n 0, 1) := by decide +kernel
theorem dX10_place_92 : decode cX10_place 92 = .ok (.getfield 28, 3) := by decide +kernel
theorem dX10_place_95 : decode cX10_place 95 = .ok (.iload_n 1, 1) := by decide +kernel
theorem dX10_place_96 : decode cX10_place 96 = .ok (.iaload, 1) := by decide +kernel
theorem dX10_place_97 : decode cX10_place 97 = .ok (.invokevirtual 214, 3) := by decide +kernel
theorem dX10_place_100 : decode cX10_place 100 = .ok (.iinc 4 1, 3) := by decide +kernel
theorem dX10_place_103 : decode cX10_place 103 = .ok (.goto (-27), 3) := by decide +kernel
theorem dX10_place_106 : decode cX10_place 106 = .ok (.iload_n 3, 1) := by decide +kernel
theorem dX10_place_107 : decode cX10_place 107 = .ok (.ifCond .ne 10, 3) := by decide +kernel
theorem dX10_place_110 : decode cX10_place 110 = .ok (.aload_n 0, 1) := by decide +kernel
theorem dX10_place_111 : decode cX10_place 111 = .ok (.getfield 152, 3) := by decide +kernel
theorem dX10_place_114 : decode cX10_place 114 = .ok (.goto 7, 3) := by decide +kernel
theorem dX10_place_117 : decode cX10_place 117 = .ok (.aload_n 0, 1) := by decide +kernel
theorem dX10_place_118 : decode cX10_place 118 = .ok (.getfield 159, 3) := by decide +kernel
theorem dX10_place_121 : decode cX10_place 121 = .ok (.lreturn, 1) := by decide +kernel
theorem dX10_begin_0 : decode cX10_begin 0 = .ok (.iconst 0, 1) := by decide +kernel
theorem dX10_begin_1 : decode cX10_begin 1 = .ok (.istore_n 1, 1) := by decide +kernel
theorem dX10_begin_2 : decode cX10_begin 2 = .ok (.iload_n 1, 1) := by decide +kernel
theorem dX10_begin_3 : decode cX10_begin 3 = .ok (.aload_n 0, 1) := by decide +kernel
theorem dX10_begin_4 : decode cX10_begin 4 = .ok (.getfield 194, 3) := by decide +kernel
theorem dX10_begin_7 : decode cX10_begin 7 = .ok (.if_icmp .ge 35, 3) := by decide +kernel
theorem dX10_begin_10 : decode cX10_begin 10 = .ok (.aload_n 0, 1) := by decide +kernel
theorem dX10_begin_11 : decode cX10_begin 11 = .ok (.getfield 43, 3) := by decide +kernel
theorem dX10_begin_14 : decode cX10_begin 14 = .ok (.iload_n 1, 1) := by decide +kernel
theorem dX10_begin_15 : decode cX10_begin 15 = .ok (.aload_n 0, 1) := by decide +kernel
theorem dX10_begin_16 : decode cX10_begin 16 = .ok (.getfield 22, 3) := by decide +kernel
theorem dX10_begin_19 : decode cX10_begin 19 = .ok (.iload_n 1, 1) := by decide +kernel
theorem dX10_begin_20 : decode cX10_begin 20 = .ok (.iaload, 1) := by decide +kernel
theorem dX10_begin_21 : decode cX10_begin 21 = .ok (.i2l, 1) := by decide +kernel
theorem dX10_begin_22 : decode cX10_begin 22 = .ok (.lastore, 1) := by decide +kernel
theorem dX10_begin_23 : decode cX10_begin 23 = .ok (.aload_n 0, 1) := by decide +kernel
theorem dX10_begin_24 : decode cX10_begin 24 = .ok (.getfield 47, 3) := by decide +kernel
theorem dX10_begin_27 : decode cX10_begin 27 = .ok (.iload_n 1, 1) := by decide +kernel
theorem dX10_begin_28 : decode cX10_begin 28 = .ok (.aload_n 0, 1) := by decide +kernel
theorem dX10_begin_29 : decode cX10_begin 29 = .ok (.getfield 25, 3) := by decide +kernel
theorem dX10_begin_32 : decode cX10_begin 32 = .ok (.iload_n 1, 1) := by decide +kernel
theorem dX10_begin_33 : decode cX10_begin 33 = .ok (.iaload, 1) := by decide +kernel
theorem dX10_begin_34 : decode cX10_begin 34 = .ok (.i2l, 1) := by decide +kernel
theorem dX10_begin_35 : decode cX10_begin 35 = .ok (.lastore, 1) := by decide +kernel
theorem dX10_begin_36 : decode cX10_begin 36 = .ok (.iinc 1 1, 3) := by decide +kernel
theorem dX10_begin_39 : decode cX10_begin 39 = .ok (.goto (-37), 3) := by decide +kernel
theorem dX10_begin_42 : decode cX10_begin 42 = .ok (.return_, 1) := by decide +kernel
theorem dX10_stepAll_0 : decode cX10_stepAll 0 = .ok (.iconst 0, 1) := by decide +kernel
theorem dX10_stepAll_1 : decode cX10_stepAll 1 = .ok (.istore_n 2, 1) := by decide +kernel
theorem dX10_stepAll_2 : decode cX10_stepAll 2 = .ok (.iload_n 2, 1) := by decide +kernel
theorem dX10_stepAll_3 : decode cX10_stepAll 3 = .ok (.aload_n 0, 1) := by decide +kernel
theorem dX10_stepAll_4 : decode cX10_stepAll 4 = .ok (.getfield 194, 3) := by decide +kernel
theorem dX10_stepAll_7 : decode cX10_stepAll 7 = .ok (.if_icmp .ge 71, 3) := by decide +kernel
theorem dX10_stepAll_10 : decode cX10_stepAll 10 = .ok (.aload_n 0, 1) := by decide +kernel
theorem dX10_stepAll_11 : decode cX10_stepAll 11 = .ok (.iload_n 2, 1) := by decide +kernel
theorem dX10_stepAll_12 : decode cX10_stepAll 12 = .ok (.invokevirtual 210, 3) := by decide +kernel
theorem dX10_stepAll_15 : decode cX10_stepAll 15 = .ok (.aload_n 0, 1) := by decide +kernel
theorem dX10_stepAll_16 : decode cX10_stepAll 16 = .ok (.aload_n 0, 1) := by decide +kernel
theorem dX10_stepAll_17 : decode cX10_stepAll 17 = .ok (.getfield 43, 3) := by decide +kernel
theorem dX10_stepAll_20 : decode cX10_stepAll 20 = .ok (.iload_n 2, 1) := by decide +kernel
theorem dX10_stepAll_21 : decode cX10_stepAll 21 = .ok (.laload, 1) := by decide +kernel
theorem dX10_stepAll_22 : decode cX10_stepAll 22 = .ok (.putfield 152, 3) := by decide +kernel
theorem dX10_stepAll_25 : decode cX10_stepAll 25 = .ok (.aload_n 0, 1) := by decide +kernel
theorem dX10_stepAll_26 : decode cX10_stepAll 26 = .ok (.aload_n 0, 1) := by decide +kernel
theorem dX10_stepAll_27 : decode cX10_stepAll 27 = .ok (.getfield 47, 3) := by decide +kernel
theorem dX10_stepAll_30 : decode cX10_stepAll 30 = .ok (.iload_n 2, 1) := by decide +kernel
theorem dX10_stepAll_31 : decode cX10_stepAll 31 = .ok (.laload, 1) := by decide +kernel
theorem dX10_stepAll_32 : decode cX10_stepAll 32 = .ok (.putfield 159, 3) := by decide +kernel
theorem dX10_stepAll_35 : decode cX10_stepAll 35 = .ok (.aload_n 0, 1) := by decide +kernel
theorem dX10_stepAll_36 : decode cX10_stepAll 36 = .ok (.iload_n 1, 1) := by decide +kernel
theorem dX10_stepAll_37 : decode cX10_stepAll 37 = .ok (.aload_n 0, 1) := by decide +kernel
theorem dX10_stepAll_38 : decode cX10_stepAll 38 = .ok (.getfield 31, 3) := by decide +kernel
theorem dX10_stepAll_41 : decode cX10_stepAll 41 = .ok (.iload_n 2, 1) := by decide +kernel
theorem dX10_stepAll_42 : decode cX10_stepAll 42 = .ok (.iaload, 1) := by decide +kernel
theorem dX10_stepAll_43 : decode cX10_stepAll 43 = .ok (.aload_n 0, 1) := by decide +kernel
theorem dX10_stepAll_44 : decode cX10_stepAll 44 = .ok (.getfield 28, 3) := by decide +kernel
theorem dX10_stepAll_47 : decode cX10_stepAll 47 = .ok (.iload_n 2, 1) := by decide +kernel
theorem dX10_stepAll_48 : decode cX10_stepAll 48 = .ok (.iaload, 1) := by decide +kernel
theorem dX10_stepAll_49 : decode cX10_stepAll 49 = .ok (.invokevirtual 214, 3) := by decide +kernel
theorem dX10_stepAll_52 : decode cX10_stepAll 52 = .ok (.aload_n 0, 1) := by decide +kernel
theorem dX10_stepAll_53 : decode cX10_stepAll 53 = .ok (.getfield 43, 3) := by decide +kernel
theorem dX10_stepAll_56 : decode cX10_stepAll 56 = .ok (.iload_n 2, 1) := by decide +kernel
theorem dX10_stepAll_57 : decode cX10_stepAll 57 = .ok (.aload_n 0, 1) := by decide +kernel
theorem dX10_stepAll_58 : decode cX10_stepAll 58 = .ok (.getfield 152, 3) := by decide +kernel
theorem dX10_stepAll_61 : decode cX10_stepAll 61 = .ok (.lastore, 1) := by decide +kernel
theorem dX10_stepAll_62 : decode cX10_stepAll 62 = .ok (.aload_n 0, 1) := by decide +kernel
theorem dX10_stepAll_63 : decode cX10_stepAll 63 = .ok (.getfield 47, 3) := by decide +kernel
theorem dX10_stepAll_66 : decode cX10_stepAll 66 = .ok (.iload_n 2, 1) := by decide +kernel
theorem dX10_stepAll_67 : decode cX10_stepAll 67 = .ok (.aload_n 0, 1) := by decide +kernel
theorem dX10_stepAll_68 : decode cX10_stepAll 68 = .ok (.getfield 159, 3) := by decide +kernel
theorem dX10_stepAll_71 : decode cX10_stepAll 71 = .ok (.lastore, 1) := by decide +kernel
theorem dX10_stepAll_72 : decode cX10_stepAll 72 = .ok (.iinc 2 1, 3) := by decide +kernel
theorem dX10_stepAll_75 : decode cX10_stepAll 75 = .ok (.goto (-73), 3) := by decide +kernel
theorem dX10_stepAll_78 : decode cX10_stepAll 78 = .ok (.return_, 1) := by decide +kernel
theorem dX10_apartOf_0 : decode cX10_apartOf 0 = .ok (.aload_n 0, 1) := by decide +kernel
theorem dX10_apartOf_1 : decode cX10_apartOf 1 = .ok (.getfield 43, 3) := by decide +kernel
theorem dX10_apartOf_4 : decode cX10_apartOf 4 = .ok (.iload_n 1, 1) := by decide +kernel
theorem dX10_apartOf_5 : decode cX10_apartOf 5 = .ok (.laload, 1) := by decide +kernel
theorem dX10_apartOf_6 : decode cX10_apartOf 6 = .ok (.aload_n 0, 1) := by decide +kernel
theorem dX10_apartOf_7 : decode cX10_apartOf 7 = .ok (.getfield 43, 3) := by decide +kernel
theorem dX10_apartOf_10 : decode cX10_apartOf 10 = .ok (.iload_n 2, 1) := by decide +kernel
theorem dX10_apartOf_11 : decode cX10_apartOf 11 = .ok (.laload, 1) := by decide +kernel
theorem dX10_apartOf_12 : decode cX10_apartOf 12 = .ok (.lsub, 1) := by decide +kernel
theorem dX10_apartOf_13 : decode cX10_apartOf 13 = .ok (.lstore_n 3, 1) := by decide +kernel
theorem dX10_apartOf_14 : decode cX10_apartOf 14 = .ok (.aload_n 0, 1) := by decide +kernel
theorem dX10_apartOf_15 : decode cX10_apartOf 15 = .ok (.getfield 47, 3) := by decide +kernel
theorem dX10_apartOf_18 : decode cX10_apartOf 18 = .ok (.iload_n 1, 1) := by decide +kernel
theorem dX10_apartOf_19 : decode cX10_apartOf 19 = .ok (.laload, 1) := by decide +kernel
theorem dX10_apartOf_20 : decode cX10_apartOf 20 = .ok (.aload_n 0, 1) := by decide +kernel
theorem dX10_apartOf_21 : decode cX10_apartOf 21 = .ok (.getfield 47, 3) := by decide +kernel
theorem dX10_apartOf_24 : decode cX10_apartOf 24 = .ok (.iload_n 2, 1) := by decide +kernel
theorem dX10_apartOf_25 : decode cX10_apartOf 25 = .ok (.laload, 1) := by decide +kernel
theorem dX10_apartOf_26 : decode cX10_apartOf 26 = .ok (.lsub, 1) := by decide +kernel
theorem dX10_apartOf_27 : decode cX10_apartOf 27 = .ok (.lstore 5, 2) := by decide +kernel
theorem dX10_apartOf_29 : decode cX10_apartOf 29 = .ok (.lload_n 3, 1) := by decide +kernel
theorem dX10_apartOf_30 : decode cX10_apartOf 30 = .ok (.lload_n 3, 1) := by decide +kernel
theorem dX10_apartOf_31 : decode cX10_apartOf 31 = .ok (.lmul, 1) := by decide +kernel
theorem dX10_apartOf_32 : decode cX10_apartOf 32 = .ok (.lload 5, 2) := by decide +kernel
theorem dX10_apartOf_34 : decode cX10_apartOf 34 = .ok (.lload 5, 2) := by decide +kernel
theorem dX10_apartOf_36 : decode cX10_apartOf 36 = .ok (.lmul, 1) := by decide +kernel
theorem dX10_apartOf_37 : decode cX10_apartOf 37 = .ok (.ladd, 1) := by decide +kernel
theorem dX10_apartOf_38 : decode cX10_apartOf 38 = .ok (.lreturn, 1) := by decide +kernel
theorem dX10_nearest_0 : decode cX10_nearest 0 = .ok (.iload_n 1, 1) := by decide +kernel
theorem dX10_nearest_1 : decode cX10_nearest 1 = .ok (.i2l, 1) := by decide +kernel
theorem dX10_nearest_2 : decode cX10_nearest 2 = .ok (.lconst 0, 1) := by decide +kernel
theorem dX10_nearest_3 : decode cX10_nearest 3 = .ok (.ldc2_w 136, 3) := by decide +kernel
theorem dX10_nearest_6 : decode cX10_nearest 6 = .ok (.invokestatic 122, 3) := by decide +kernel
theorem dX10_nearest_9 : decode cX10_nearest 9 = .ok (.ifCond .eq 15, 3) := by decide +kernel
theorem dX10_nearest_12 : decode cX10_nearest 12 = .ok (.iload_n 2, 1) := by decide +kernel
theorem dX10_nearest_13 : decode cX10_nearest 13 = .ok (.i2l, 1) := by decide +kernel
theorem dX10_nearest_14 : decode cX10_nearest 14 = .ok (.lconst 0, 1) := by decide +kernel
theorem dX10_nearest_15 : decode cX10_nearest 15 = .ok (.ldc2_w 120, 3) := by decide +kernel
theorem dX10_nearest_18 : decode cX10_nearest 18 = .ok (.invokestatic 122, 3) := by decide +kernel
theorem dX10_nearest_21 : decode cX10_nearest 21 = .ok (.ifCond .ne 7, 3) := by decide +kernel
theorem dX10_nearest_24 : decode cX10_nearest 24 = .ok (.ldc2_w 171, 3) := by decide +kernel
theorem dX10_nearest_27 : decode cX10_nearest 27 = .ok (.lreturn, 1) := by decide +kernel
theorem dX10_nearest_28 : decode cX10_nearest 28 = .ok (.aload_n 0, 1) := by decide +kernel
theorem dX10_nearest_29 : decode cX10_nearest 29 = .ok (.getfield 194, 3) := by decide +kernel
theorem dX10_nearest_32 : decode cX10_nearest 32 = .ok (.iconst 2, 1) := by decide +kernel
theorem dX10_nearest_33 : decode cX10_nearest 33 = .ok (.if_icmp .ge 7, 3) := by decide +kernel
theorem dX10_nearest_36 : decode cX10_nearest 36 = .ok (.ldc2_w 217, 3) := by decide +kernel
theorem dX10_nearest_39 : decode cX10_nearest 39 = .ok (.lreturn, 1) := by decide +kernel
theorem dX10_nearest_40 : decode cX10_nearest 40 = .ok (.ldc2_w 219, 3) := by decide +kernel
theorem dX10_nearest_43 : decode cX10_nearest 43 = .ok (.lstore_n 3, 1) := by decide +kernel
theorem dX10_nearest_44 : decode cX10_nearest 44 = .ok (.iconst 0, 1) := by decide +kernel
theorem dX10_nearest_45 : decode cX10_nearest 45 = .ok (.istore 5, 2) := by decide +kernel
theorem dX10_nearest_47 : decode cX10_nearest 47 = .ok (.iconst 0, 1) := by decide +kernel
theorem dX10_nearest_48 : decode cX10_nearest 48 = .ok (.istore 6, 2) := by decide +kernel
theorem dX10_nearest_50 : decode cX10_nearest 50 = .ok (.iconst 0, 1) := by decide +kernel
theorem dX10_nearest_51 : decode cX10_nearest 51 = .ok (.istore 7, 2) := by decide +kernel
theorem dX10_nearest_53 : decode cX10_nearest 53 = .ok (.aload_n 0, 1) := by decide +kernel
theorem dX10_nearest_54 : decode cX10_nearest 54 = .ok (.invokevirtual 221, 3) := by decide +kernel
theorem dX10_nearest_57 : decode cX10_nearest 57 = .ok (.iconst 0, 1) := by decide +kernel
theorem dX10_nearest_58 : decode cX10_nearest 58 = .ok (.istore 8, 2) := by decide +kernel
theorem dX10_nearest_60 : decode cX10_nearest 60 = .ok (.iload 8, 2) := by decide +kernel
theorem dX10_nearest_62 : decode cX10_nearest 62 = .ok (.iload_n 1, 1) := by decide +kernel
theorem dX10_nearest_63 : decode cX10_nearest 63 = .ok (.if_icmp .gt 94, 3) := by decide +kernel
theorem dX10_nearest_66 : decode cX10_nearest 66 = .ok (.iconst 0, 1) := by decide +kernel
theorem dX10_nearest_67 : decode cX10_nearest 67 = .ok (.istore 9, 2) := by decide +kernel
theorem dX10_nearest_69 : decode cX10_nearest 69 = .ok (.iload 9, 2) := by decide +kernel
theorem dX10_nearest_71 : decode cX10_nearest 71 = .ok (.aload_n 0, 1) := by decide +kernel
theorem dX10_nearest_72 : decode cX10_nearest 72 = .ok (.getfield 194, 3) := by decide +kernel
theorem dX10_nearest_75 : decode cX10_nearest 75 = .ok (.if_icmp .ge 70, 3) := by decide +kernel
theorem dX10_nearest_78 : decode cX10_nearest 78 = .ok (.iload 9, 2) := by decide +kernel
theorem dX10_nearest_80 : decode cX10_nearest 80 = .ok (.iconst 1, 1) := by decide +kernel
theorem dX10_nearest_81 : decode cX10_nearest 81 = .ok (.iadd, 1) := by decide +kernel
theorem dX10_nearest_82 : decode cX10_nearest 82 = .ok (.istore 10, 2) := by decide +kernel
theorem dX10_nearest_84 : decode cX10_nearest 84 = .ok (.iload 10, 2) := by decide +kernel
theorem dX10_nearest_86 : decode cX10_nearest 86 = .ok (.aload_n 0, 1) := by decide +kernel
theorem dX10_nearest_87 : decode cX10_nearest 87 = .ok (.getfield 194, 3) := by decide +kernel
theorem dX10_nearest_90 : decode cX10_nearest 90 = .ok (.if_icmp .ge 49, 3) := by decide +kernel
theorem dX10_nearest_93 : decode cX10_nearest 93 = .ok (.lload_n 3, 1) := by decide +kernel
theorem dX10_nearest_94 : decode cX10_nearest 94 = .ok (.lconst 0, 1) := by decide +kernel
theorem dX10_nearest_95 : decode cX10_nearest 95 = .ok (.lcmp, 1) := by decide +kernel
theorem dX10_nearest_96 : decode cX10_nearest 96 = .ok (.ifCond .lt 16, 3) := by decide +kernel
theorem dX10_nearest_99 : decode cX10_nearest 99 = .ok (.aload_n 0, 1) := by decide +kernel
theorem dX10_nearest_100 : decode cX10_nearest 100 = .ok (.iload 9, 2) := by decide +kernel
theorem dX10_nearest_102 : decode cX10_nearest 102 = .ok (.iload 10, 2) := by decide +kernel
theorem dX10_nearest_104 : decode cX10_nearest 104 = .ok (.invokevirtual 224, 3) := by decide +kernel
theorem dX10_nearest_107 : decode cX10_nearest 107 = .ok (.lload_n 3, 1) := by decide +kernel
theorem dX10_nearest_108 : decode cX10_nearest 108 = .ok (.lcmp, 1) := by decide +kernel
theorem dX10_nearest_109 : decode cX10_nearest 109 = .ok (.ifCond .ge 24, 3) := by decide +kernel
theorem dX10_nearest_112 : decode cX10_nearest 112 = .ok (.aload_n 0, 1) := by decide +kernel
theorem dX10_nearest_113 : decode cX10_nearest 113 = .ok (.iload 9, 2) := by decide +kernel
theorem dX10_nearest_115 : decode cX10_nearest 115 = .ok (.iload 10, 2) := by decide +kernel
theorem dX10_nearest_117 : decode cX10_nearest 117 = .ok (.invokevirtual 224, 3) := by decide +kernel
theorem dX10_nearest_120 : decode cX10_nearest 120 = .ok (.lstore_n 3, 1) := by decide +kernel
theorem dX10_nearest_121 : decode cX10_nearest 121 = .ok (.iload 8, 2) := by decide +kernel
theorem dX10_nearest_123 : decode cX10_nearest 123 = .ok (.istore 5, 2) := by decide +kernel
theorem dX10_nearest_125 : decode cX10_nearest 125 = .ok (.iload 9, 2) := by decide +kernel
theorem dX10_nearest_127 : decode cX10_nearest 127 = .ok (.istore 6, 2) := by decide +kernel
theorem dX10_nearest_129 : decode cX10_nearest 129 = .ok (.iload 10, 2) := by decide +kernel
theorem dX10_nearest_131 : decode cX10_nearest 131 = .ok (.istore 7, 2) := by decide +kernel
theorem dX10_nearest_133 : decode cX10_nearest 133 = .ok (.iinc 10 1, 3) := by decide +kernel
theorem dX10_nearest_136 : decode cX10_nearest 136 = .ok (.goto (-52), 3) := by decide +kernel
theorem dX10_nearest_139 : decode cX10_nearest 139 = .ok (.iinc 9 1, 3) := by decide +kernel
theorem dX10_nearest_142 : decode cX10_nearest 142 = .ok (.goto (-73), 3) := by decide +kernel
theorem dX10_nearest_145 : decode cX10_nearest 145 = .ok (.aload_n 0, 1) := by decide +kernel
theorem dX10_nearest_146 : decode cX10_nearest 146 = .ok (.iload 8, 2) := by decide +kernel
theorem dX10_nearest_148 : decode cX10_nearest 148 = .ok (.invokevirtual 228, 3) := by decide +kernel
theorem dX10_nearest_151 : decode cX10_nearest 151 = .ok (.iinc 8 1, 3) := by decide +kernel
theorem dX10_nearest_154 : decode cX10_nearest 154 = .ok (.goto (-94), 3) := by decide +kernel
theorem dX10_nearest_157 : decode cX10_nearest 157 = .ok (.iload_n 2, 1) := by decide +kernel
theorem dX10_nearest_158 : decode cX10_nearest 158 = .ok (.ifCond .ne 7, 3) := by decide +kernel
theorem dX10_nearest_161 : decode cX10_nearest 161 = .ok (.lload_n 3, 1) := by decide +kernel
theorem dX10_nearest_162 : decode cX10_nearest 162 = .ok (.goto 28, 3) := by decide +kernel
theorem dX10_nearest_165 : decode cX10_nearest 165 = .ok (.iload_n 2, 1) := by decide +kernel
theorem dX10_nearest_166 : decode cX10_nearest 166 = .ok (.iconst 1, 1) := by decide +kernel
theorem dX10_nearest_167 : decode cX10_nearest 167 = .ok (.if_icmp .ne 9, 3) := by decide +kernel
theorem dX10_nearest_170 : decode cX10_nearest 170 = .ok (.iload 5, 2) := by decide +kernel
theorem dX10_nearest_172 : decode cX10_nearest 172 = .ok (.i2l, 1) := by decide +kernel
theorem dX10_nearest_173 : decode cX10_nearest 173 = .ok (.goto 17, 3) := by decide +kernel
theorem dX10_nearest_176 : decode cX10_nearest 176 = .ok (.iload_n 2, 1) := by decide +kernel
theorem dX10_nearest_177 : decode cX10_nearest 177 = .ok (.iconst 2, 1) := by decide +kernel
theorem dX10_nearest_178 : decode cX10_nearest 178 = .ok (.if_icmp .ne 9, 3) := by decide +kernel
theorem dX10_nearest_181 : decode cX10_nearest 181 = .ok (.iload 6, 2) := by decide +kernel
theorem dX10_nearest_183 : decode cX10_nearest 183 = .ok (.i2l, 1) := by decide +kernel
theorem dX10_nearest_184 : decode cX10_nearest 184 = .ok (.goto 6, 3) := by decide +kernel
theorem dX10_nearest_187 : decode cX10_nearest 187 = .ok (.iload 7, 2) := by decide +kernel
theorem dX10_nearest_189 : decode cX10_nearest 189 = .ok (.i2l, 1) := by decide +kernel
theorem dX10_nearest_190 : decode cX10_nearest 190 = .ok (.lreturn, 1) := by decide +kernel
theorem dX10_close_0 : decode cX10_close 0 = .ok (.iload_n 1, 1) := by decide +kernel
theorem dX10_close_1 : decode cX10_close 1 = .ok (.i2l, 1) := by decide +kernel
theorem dX10_close_2 : decode cX10_close 2 = .ok (.lconst 0, 1) := by decide +kernel
theorem dX10_close_3 : decode cX10_close 3 = .ok (.ldc2_w 136, 3) := by decide +kernel
theorem dX10_close_6 : decode cX10_close 6 = .ok (.invokestatic 122, 3) := by decide +kernel
theorem dX10_close_9 : decode cX10_close 9 = .ok (.ifCond .eq 15, 3) := by decide +kernel
theorem dX10_close_12 : decode cX10_close 12 = .ok (.iload_n 2, 1) := by decide +kernel
theorem dX10_close_13 : decode cX10_close 13 = .ok (.i2l, 1) := by decide +kernel
theorem dX10_close_14 : decode cX10_close 14 = .ok (.lconst 0, 1) := by decide +kernel
theorem dX10_close_15 : decode cX10_close 15 = .ok (.ldc2_w 231, 3) := by decide +kernel
theorem dX10_close_18 : decode cX10_close 18 = .ok (.invokestatic 122, 3) := by decide +kernel
theorem dX10_close_21 : decode cX10_close 21 = .ok (.ifCond .ne 6, 3) := by decide +kernel
theorem dX10_close_24 : decode cX10_close 24 = .ok (.bipush (-2), 2) := by decide +kernel
theorem dX10_close_26 : decode cX10_close 26 = .ok (.ireturn, 1) := by decide +kernel
theorem dX10_close_27 : decode cX10_close 27 = .ok (.iconst 0, 1) := by decide +kernel
theorem dX10_close_28 : decode cX10_close 28 = .ok (.istore_n 3, 1) := by decide +kernel
theorem dX10_close_29 : decode cX10_close 29 = .ok (.aload_n 0, 1) := by decide +kernel
theorem dX10_close_30 : decode cX10_close 30 = .ok (.invokevirtual 221, 3) := by decide +kernel
theorem dX10_close_33 : decode cX10_close 33 = .ok (.iconst 0, 1) := by decide +kernel
theorem dX10_close_34 : decode cX10_close 34 = .ok (.istore 4, 2) := by decide +kernel
theorem dX10_close_36 : decode cX10_close 36 = .ok (.iload 4, 2) := by decide +kernel
theorem dX10_close_38 : decode cX10_close 38 = .ok (.iload_n 1, 1) := by decide +kernel
theorem dX10_close_39 : decode cX10_close 39 = .ok (.if_icmp .gt 99, 3) := by decide +kernel
theorem dX10_close_42 : decode cX10_close 42 = .ok (.iconst 0, 1) := by decide +kernel
theorem dX10_close_43 : decode cX10_close 43 = .ok (.istore 5, 2) := by decide +kernel
theorem dX10_close_45 : decode cX10_close 45 = .ok (.iconst 0, 1) := by decide +kernel
theorem dX10_close_46 : decode cX10_close 46 = .ok (.istore 6, 2) := by decide +kernel
theorem dX10_close_48 : decode cX10_close 48 = .ok (.iload 6, 2) := by decide +kernel
theorem dX10_close_50 : decode cX10_close 50 = .ok (.aload_n 0, 1) := by decide +kernel
theorem dX10_close_51 : decode cX10_close 51 = .ok (.getfield 194, 3) := by decide +kernel
theorem dX10_close_54 : decode cX10_close 54 = .ok (.if_icmp .ge 59, 3) := by decide +kernel
theorem dX10_close_57 : decode cX10_close 57 = .ok (.iload 6, 2) := by decide +kernel
theorem dX10_close_59 : decode cX10_close 59 = .ok (.iconst 1, 1) := by decide +kernel
theorem dX10_close_60 : decode cX10_close 60 = .ok (.iadd, 1) := by decide +kernel
theorem dX10_close_61 : decode cX10_close 61 = .ok (.istore 7, 2) := by decide +kernel
theorem dX10_close_63 : decode cX10_close 63 = .ok (.iload 7, 2) := by decide +kernel
theorem dX10_close_65 : decode cX10_close 65 = .ok (.aload_n 0, 1) := by decide +kernel
theorem dX10_close_66 : decode cX10_close 66 = .ok (.getfield 194, 3) := by decide +kernel
theorem dX10_close_69 : decode cX10_close 69 = .ok (.if_icmp .ge 38, 3) := by decide +kernel
theorem dX10_close_72 : decode cX10_close 72 = .ok (.iload 5, 2) := by decide +kernel
theorem dX10_close_74 : decode cX10_close 74 = .ok (.ifCond .ne 20, 3) := by decide +kernel
theorem dX10_close_77 : decode cX10_close 77 = .ok (.aload_n 0, 1) := by decide +kernel
theorem dX10_close_78 : decode cX10_close 78 = .ok (.iload 6, 2) := by decide +kernel
theorem dX10_close_80 : decode cX10_close 80 = .ok (.iload 7, 2) := by decide +kernel
theorem dX10_close_82 : decode cX10_close 82 = .ok (.invokevirtual 224, 3) := by decide +kernel
theorem dX10_close_85 : decode cX10_close 85 = .ok (.iload_n 2, 1) := by decide +kernel
theorem dX10_close_86 : decode cX10_close 86 = .ok (.i2l, 1) := by decide +kernel
theorem dX10_close_87 : decode cX10_close 87 = .ok (.iload_n 2, 1) := by decide +kernel
theorem dX10_close_88 : decode cX10_close 88 = .ok (.i2l, 1) := by decide +kernel
theorem dX10_close_89 : decode cX10_close 89 = .ok (.lmul, 1) := by decide +kernel
theorem dX10_close_90 : decode cX10_close 90 = .ok (.lcmp, 1) := by decide +kernel
theorem dX10_close_91 : decode cX10_close 91 = .ok (.ifCond .ge 7, 3) := by decide +kernel
theorem dX10_close_94 : decode cX10_close 94 = .ok (.iconst 1, 1) := by decide +kernel
theorem dX10_close_95 : decode cX10_close 95 = .ok (.goto 4, 3) := by decide +kernel
theorem dX10_close_98 : decode cX10_close 98 = .ok (.iconst 0, 1) := by decide +kernel
theorem dX10_close_99 : decode cX10_close 99 = .ok (.istore 5, 2) := by decide +kernel
theorem dX10_close_101 : decode cX10_close 101 = .ok (.iinc 7 1, 3) := by decide +kernel
theorem dX10_close_104 : decode cX10_close 104 = .ok (.goto (-41), 3) := by decide +kernel
theorem dX10_close_107 : decode cX10_close 107 = .ok (.iinc 6 1, 3) := by decide +kernel
theorem dX10_close_110 : decode cX10_close 110 = .ok (.goto (-62), 3) := by decide +kernel
theorem dX10_close_113 : decode cX10_close 113 = .ok (.iload_n 3, 1) := by decide +kernel
theorem dX10_close_114 : decode cX10_close 114 = .ok (.iload 5, 2) := by decide +kernel
theorem dX10_close_116 : decode cX10_close 116 = .ok (.ifCond .eq 7, 3) := by decide +kernel
theorem dX10_close_119 : decode cX10_close 119 = .ok (.iconst 1, 1) := by decide +kernel
theorem dX10_close_120 : decode cX10_close 120 = .ok (.goto 4, 3) := by decide +kernel
theorem dX10_close_123 : decode cX10_close 123 = .ok (.iconst 0, 1) := by decide +kernel
theorem dX10_close_124 : decode cX10_close 124 = .ok (.iadd, 1) := by decide +kernel
theorem dX10_close_125 : decode cX10_close 125 = .ok (.istore_n 3, 1) := by decide +kernel
theorem dX10_close_126 : decode cX10_close 126 = .ok (.aload_n 0, 1) := by decide +kernel
theorem dX10_close_127 : decode cX10_close 127 = .ok (.iload 4, 2) := by decide +kernel
theorem dX10_close_129 : decode cX10_close 129 = .ok (.invokevirtual 228, 3) := by decide +kernel
theorem dX10_close_132 : decode cX10_close 132 = .ok (.iinc 4 1, 3) := by decide +kernel
theorem dX10_close_135 : decode cX10_close 135 = .ok (.goto (-99), 3) := by decide +kernel
theorem dX10_close_138 : decode cX10_close 138 = .ok (.iload_n 3, 1) := by decide +kernel
theorem dX10_close_139 : decode cX10_close 139 = .ok (.ireturn, 1) := by decide +kernel
theorem dX10_centre_0 : decode cX10_centre 0 = .ok (.iload_n 1, 1) := by decide +kernel
theorem dX10_centre_1 : decode cX10_centre 1 = .ok (.i2l, 1) := by decide +kernel
theorem dX10_centre_2 : decode cX10_centre 2 = .ok (.lconst 1, 1) := by decide +kernel
theorem dX10_centre_3 : decode cX10_centre 3 = .ok (.ldc2_w 184, 3) := by decide +kernel
theorem dX10_centre_6 : decode cX10_centre 6 = .ok (.invokestatic 122, 3) := by decide +kernel
theorem dX10_centre_9 : decode cX10_centre 9 = .ok (.ifCond .ne 6, 3) := by decide +kernel
theorem dX10_centre_12 : decode cX10_centre 12 = .ok (.bipush (-2), 2) := by decide +kernel
theorem dX10_centre_14 : decode cX10_centre 14 = .ok (.ireturn, 1) := by decide +kernel
theorem dX10_centre_15 : decode cX10_centre 15 = .ok (.aload_n 0, 1) := by decide +kernel
theorem dX10_centre_16 : decode cX10_centre 16 = .ok (.getfield 50, 3) := by decide +kernel
theorem dX10_centre_19 : decode cX10_centre 19 = .ok (.istore_n 2, 1) := by decide +kernel
theorem dX10_centre_20 : decode cX10_centre 20 = .ok (.aload_n 0, 1) := by decide +kernel
theorem dX10_centre_21 : decode cX10_centre 21 = .ok (.iload_n 1, 1) := by decide +kernel
theorem dX10_centre_22 : decode cX10_centre 22 = .ok (.putfield 50, 3) := by decide +kernel
theorem dX10_centre_25 : decode cX10_centre 25 = .ok (.iload_n 2, 1) := by decide +kernel
theorem dX10_centre_26 : decode cX10_centre 26 = .ok (.ireturn, 1) := by decide +kernel
theorem dX10_lurk_0 : decode cX10_lurk 0 = .ok (.iload_n 1, 1) := by decide +kernel
theorem dX10_lurk_1 : decode cX10_lurk 1 = .ok (.i2l, 1) := by decide +kernel
theorem dX10_lurk_2 : decode cX10_lurk 2 = .ok (.ldc2_w 233, 3) := by decide +kernel
theorem dX10_lurk_5 : decode cX10_lurk 5 = .ok (.ldc2_w 235, 3) := by decide +kernel
theorem dX10_lurk_8 : decode cX10_lurk 8 = .ok (.invokestatic 122, 3) := by decide +kernel
theorem dX10_lurk_11 : decode cX10_lurk 11 = .ok (.ifCond .eq 42, 3) := by decide +kernel
theorem dX10_lurk_14 : decode cX10_lurk 14 = .ok (.iload_n 2, 1) := by decide +kernel
theorem dX10_lurk_15 : decode cX10_lurk 15 = .ok (.i2l, 1) := by decide +kernel
theorem dX10_lurk_16 : decode cX10_lurk 16 = .ok (.ldc2_w 233, 3) := by decide +kernel
theorem dX10_lurk_19 : decode cX10_lurk 19 = .ok (.ldc2_w 235, 3) := by decide +kernel
theorem dX10_lurk_22 : decode cX10_lurk 22 = .ok (.invokestatic 122, 3) := by decide +kernel
theorem dX10_lurk_25 : decode cX10_lurk 25 = .ok (.ifCond .eq 28, 3) := by decide +kernel
theorem dX10_lurk_28 : decode cX10_lurk 28 = .ok (.iload_n 3, 1) := by decide +kernel
theorem dX10_lurk_29 : decode cX10_lurk 29 = .ok (.i2l, 1) := by decide +kernel
theorem dX10_lurk_30 : decode cX10_lurk 30 = .ok (.lconst 1, 1) := by decide +kernel
theorem dX10_lurk_31 : decode cX10_lurk 31 = .ok (.ldc2_w 184, 3) := by decide +kernel
theorem dX10_lurk_34 : decode cX10_lurk 34 = .ok (.invokestatic 122, 3) := by decide +kernel
theorem dX10_lurk_37 : decode cX10_lurk 37 = .ok (.ifCond .eq 16, 3) := by decide +kernel
theorem dX10_lurk_40 : decode cX10_lurk 40 = .ok (.iload 4, 2) := by decide +kernel
theorem dX10_lurk_42 : decode cX10_lurk 42 = .ok (.i2l, 1) := by decide +kernel
theorem dX10_lurk_43 : decode cX10_lurk 43 = .ok (.lconst 0, 1) := by decide +kernel
theorem dX10_lurk_44 : decode cX10_lurk 44 = .ok (.ldc2_w 237, 3) := by decide +kernel
theorem dX10_lurk_47 : decode cX10_lurk 47 = .ok (.invokestatic 122, 3) := by decide +kernel
theorem dX10_lurk_50 : decode cX10_lurk 50 = .ok (.ifCond .ne 6, 3) := by decide +kernel
theorem dX10_lurk_53 : decode cX10_lurk 53 = .ok (.bipush (-2), 2) := by decide +kernel
theorem dX10_lurk_55 : decode cX10_lurk 55 = .ok (.ireturn, 1) := by decide +kernel
theorem dX10_lurk_56 : decode cX10_lurk 56 = .ok (.aload_n 0, 1) := by decide +kernel
theorem dX10_lurk_57 : decode cX10_lurk 57 = .ok (.iload_n 1, 1) := by decide +kernel
theorem dX10_lurk_58 : decode cX10_lurk 58 = .ok (.putfield 55, 3) := by decide +kernel
theorem dX10_lurk_61 : decode cX10_lurk 61 = .ok (.aload_n 0, 1) := by decide +kernel
theorem dX10_lurk_62 : decode cX10_lurk 62 = .ok (.iload_n 2, 1) := by decide +kernel
theorem dX10_lurk_63 : decode cX10_lurk 63 = .ok (.putfield 239, 3) := by decide +kernel
theorem dX10_lurk_66 : decode cX10_lurk 66 = .ok (.aload_n 0, 1) := by decide +kernel
theorem dX10_lurk_67 : decode cX10_lurk 67 = .ok (.iload_n 3, 1) := by decide +kernel
theorem dX10_lurk_68 : decode cX10_lurk 68 = .ok (.putfield 58, 3) := by decide +kernel
theorem dX10_lurk_71 : decode cX10_lurk 71 = .ok (.aload_n 0, 1) := by decide +kernel
theorem dX10_lurk_72 : decode cX10_lurk 72 = .ok (.iload 4, 2) := by decide +kernel
theorem dX10_lurk_74 : decode cX10_lurk 74 = .ok (.putfield 61, 3) := by decide +kernel
theorem dX10_lurk_77 : decode cX10_lurk 77 = .ok (.iconst 1, 1) := by decide +kernel
theorem dX10_lurk_78 : decode cX10_lurk 78 = .ok (.ireturn, 1) := by decide +kernel
theorem dX10_isWithin_0 : decode cX10_isWithin 0 = .ok (.lload_n 0, 1) := by decide +kernel
theorem dX10_isWithin_1 : decode cX10_isWithin 1 = .ok (.lload_n 0, 1) := by decide +kernel
theorem dX10_isWithin_2 : decode cX10_isWithin 2 = .ok (.lmul, 1) := by decide +kernel
theorem dX10_isWithin_3 : decode cX10_isWithin 3 = .ok (.lload_n 2, 1) := by decide +kernel
theorem dX10_isWithin_4 : decode cX10_isWithin 4 = .ok (.lload_n 2, 1) := by decide +kernel
theorem dX10_isWithin_5 : decode cX10_isWithin 5 = .ok (.lmul, 1) := by decide +kernel
theorem dX10_isWithin_6 : decode cX10_isWithin 6 = .ok (.ladd, 1) := by decide +kernel
theorem dX10_isWithin_7 : decode cX10_isWithin 7 = .ok (.lload 4, 2) := by decide +kernel
theorem dX10_isWithin_9 : decode cX10_isWithin 9 = .ok (.lload 4, 2) := by decide +kernel
theorem dX10_isWithin_11 : decode cX10_isWithin 11 = .ok (.lmul, 1) := by decide +kernel
theorem dX10_isWithin_12 : decode cX10_isWithin 12 = .ok (.lcmp, 1) := by decide +kernel
theorem dX10_isWithin_13 : decode cX10_isWithin 13 = .ok (.ifCond .gt 7, 3) := by decide +kernel
theorem dX10_isWithin_16 : decode cX10_isWithin 16 = .ok (.iconst 1, 1) := by decide +kernel
theorem dX10_isWithin_17 : decode cX10_isWithin 17 = .ok (.goto 4, 3) := by decide +kernel
theorem dX10_isWithin_20 : decode cX10_isWithin 20 = .ok (.iconst 0, 1) := by decide +kernel
theorem dX10_isWithin_21 : decode cX10_isWithin 21 = .ok (.ireturn, 1) := by decide +kernel
theorem dX10_comes_0 : decode cX10_comes 0 = .ok (.iload_n 1, 1) := by decide +kernel
theorem dX10_comes_1 : decode cX10_comes 1 = .ok (.invokestatic 126, 3) := by decide +kernel
theorem dX10_comes_4 : decode cX10_comes 4 = .ok (.ifCond .ne 5, 3) := by decide +kernel
theorem dX10_comes_7 : decode cX10_comes 7 = .ok (.iconst (-1), 1) := by decide +kernel
theorem dX10_comes_8 : decode cX10_comes 8 = .ok (.ireturn, 1) := by decide +kernel
theorem dX10_comes_9 : decode cX10_comes 9 = .ok (.aload_n 0, 1) := by decide +kernel
theorem dX10_comes_10 : decode cX10_comes 10 = .ok (.invokevirtual 138, 3) := by decide +kernel
theorem dX10_comes_13 : decode cX10_comes 13 = .ok (.aload_n 0, 1) := by decide +kernel
theorem dX10_comes_14 : decode cX10_comes 14 = .ok (.lconst 0, 1) := by decide +kernel
theorem dX10_comes_15 : decode cX10_comes 15 = .ok (.putfield 152, 3) := by decide +kernel
theorem dX10_comes_18 : decode cX10_comes 18 = .ok (.aload_n 0, 1) := by decide +kernel
theorem dX10_comes_19 : decode cX10_comes 19 = .ok (.lconst 0, 1) := by decide +kernel
theorem dX10_comes_20 : decode cX10_comes 20 = .ok (.putfield 159, 3) := by decide +kernel
theorem dX10_comes_23 : decode cX10_comes 23 = .ok (.iconst 0, 1) := by decide +kernel
theorem dX10_comes_24 : decode cX10_comes 24 = .ok (.istore_n 2, 1) := by decide +kernel
theorem dX10_comes_25 : decode cX10_comes 25 = .ok (.iload_n 2, 1) := by decide +kernel
theorem dX10_comes_26 : decode cX10_comes 26 = .ok (.sipush 600, 3) := by decide +kernel
theorem dX10_comes_29 : decode cX10_comes 29 = .ok (.if_icmp .gt 69, 3) := by decide +kernel
theorem dX10_comes_32 : decode cX10_comes 32 = .ok (.aload_n 0, 1) := by decide +kernel
theorem dX10_comes_33 : decode cX10_comes 33 = .ok (.getfield 152, 3) := by decide +kernel
theorem dX10_comes_36 : decode cX10_comes 36 = .ok (.aload_n 0, 1) := by decide +kernel
theorem dX10_comes_37 : decode cX10_comes 37 = .ok (.getfield 55, 3) := by decide +kernel
theorem dX10_comes_40 : decode cX10_comes 40 = .ok (.i2l, 1) := by decide +kernel
theorem dX10_comes_41 : decode cX10_comes 41 = .ok (.lsub, 1) := by decide +kernel
theorem dX10_comes_42 : decode cX10_comes 42 = .ok (.aload_n 0, 1) := by decide +kernel
theorem dX10_comes_43 : decode cX10_comes 43 = .ok (.getfield 159, 3) := by decide +kernel
theorem dX10_comes_46 : decode cX10_comes 46 = .ok (.aload_n 0, 1) := by decide +kernel
theorem dX10_comes_47 : decode cX10_comes 47 = .ok (.getfield 239, 3) := by decide +kernel
theorem dX10_comes_50 : decode cX10_comes 50 = .ok (.i2l, 1) := by decide +kernel
theorem dX10_comes_51 : decode cX10_comes 51 = .ok (.lsub, 1) := by decide +kernel
theorem dX10_comes_52 : decode cX10_comes 52 = .ok (.ldc2_w 242, 3) := by decide +kernel
theorem dX10_comes_55 : decode cX10_comes 55 = .ok (.aload_n 0, 1) := by decide +kernel
theorem dX10_comes_56 : decode cX10_comes 56 = .ok (.getfield 58, 3) := by decide +kernel
theorem dX10_comes_59 : decode cX10_comes 59 = .ok (.i2l, 1) := by decide +kernel
theorem dX10_comes_60 : decode cX10_comes 60 = .ok (.lmul, 1) := by decide +kernel
theorem dX10_comes_61 : decode cX10_comes 61 = .ok (.iload_n 2, 1) := by decide +kernel
theorem dX10_comes_62 : decode cX10_comes 62 = .ok (.i2l, 1) := by decide +kernel
theorem dX10_comes_63 : decode cX10_comes 63 = .ok (.lmul, 1) := by decide +kernel
theorem dX10_comes_64 : decode cX10_comes 64 = .ok (.aload_n 0, 1) := by decide +kernel
theorem dX10_comes_65 : decode cX10_comes 65 = .ok (.getfield 61, 3) := by decide +kernel
theorem dX10_comes_68 : decode cX10_comes 68 = .ok (.i2l, 1) := by decide +kernel
theorem dX10_comes_69 : decode cX10_comes 69 = .ok (.ladd, 1) := by decide +kernel
theorem dX10_comes_70 : decode cX10_comes 70 = .ok (.invokestatic 244, 3) := by decide +kernel
theorem dX10_comes_73 : decode cX10_comes 73 = .ok (.ifCond .eq 5, 3) := by decide +kernel
theorem dX10_comes_76 : decode cX10_comes 76 = .ok (.iload_n 2, 1) := by decide +kernel
theorem dX10_comes_77 : decode cX10_comes 77 = .ok (.ireturn, 1) := by decide +kernel
theorem dX10_comes_78 : decode cX10_comes 78 = .ok (.aload_n 0, 1) := by decide +kernel
theorem dX10_comes_79 : decode cX10_comes 79 = .ok (.aload_n 0, 1) := by decide +kernel
theorem dX10_comes_80 : decode cX10_comes 80 = .ok (.iload_n 1, 1) := by decide +kernel
theorem dX10_comes_81 : decode cX10_comes 81 = .ok (.iload_n 2, 1) := by decide +kernel
theorem dX10_comes_82 : decode cX10_comes 82 = .ok (.invokevirtual 141, 3) := by decide +kernel
theorem dX10_comes_85 : decode cX10_comes 85 = .ok (.aload_n 0, 1) := by decide +kernel
theorem dX10_comes_86 : decode cX10_comes 86 = .ok (.getfield 50, 3) := by decide +kernel
theorem dX10_comes_89 : decode cX10_comes 89 = .ok (.invokevirtual 165, 3) := by decide +kernel
theorem dX10_comes_92 : decode cX10_comes 92 = .ok (.iinc 2 1, 3) := by decide +kernel
theorem dX10_comes_95 : decode cX10_comes 95 = .ok (.goto (-70), 3) := by decide +kernel
theorem dX10_comes_98 : decode cX10_comes 98 = .ok (.bipush (-6), 2) := by decide +kernel
theorem dX10_comes_100 : decode cX10_comes 100 = .ok (.ireturn, 1) := by decide +kernel
theorem dX10_layPlans_0 : decode cX10_layPlans 0 = .ok (.iconst 0, 1) := by decide +kernel
theorem dX10_layPlans_1 : decode cX10_layPlans 1 = .ok (.istore_n 2, 1) := by decide +kernel
theorem dX10_layPlans_2 : decode cX10_layPlans 2 = .ok (.iload_n 2, 1) := by decide +kernel
theorem dX10_layPlans_3 : decode cX10_layPlans 3 = .ok (.iconst 4, 1) := by decide +kernel
theorem dX10_layPlans_4 : decode cX10_layPlans 4 = .ok (.if_icmp .ge 39, 3) := by decide +kernel
theorem dX10_layPlans_7 : decode cX10_layPlans 7 = .ok (.aload_n 0, 1) := by decide +kernel
theorem dX10_layPlans_8 : decode cX10_layPlans 8 = .ok (.iload_n 2, 1) := by decide +kernel
theorem dX10_layPlans_9 : decode cX10_layPlans 9 = .ok (.iload_n 1, 1) := by decide +kernel
theorem dX10_layPlans_10 : decode cX10_layPlans 10 = .ok (.aload_n 0, 1) := by decide +kernel
theorem dX10_layPlans_11 : decode cX10_layPlans 11 = .ok (.getfield 50, 3) := by decide +kernel
theorem dX10_layPlans_14 : decode cX10_layPlans 14 = .ok (.invokevirtual 173, 3) := by decide +kernel
theorem dX10_layPlans_17 : decode cX10_layPlans 17 = .ok (.aload_n 0, 1) := by decide +kernel
theorem dX10_layPlans_18 : decode cX10_layPlans 18 = .ok (.getfield 64, 3) := by decide +kernel
theorem dX10_layPlans_21 : decode cX10_layPlans 21 = .ok (.iload_n 2, 1) := by decide +kernel
theorem dX10_layPlans_22 : decode cX10_layPlans 22 = .ok (.aload_n 0, 1) := by decide +kernel
theorem dX10_layPlans_23 : decode cX10_layPlans 23 = .ok (.getfield 152, 3) := by decide +kernel
theorem dX10_layPlans_26 : decode cX10_layPlans 26 = .ok (.lastore, 1) := by decide +kernel
theorem dX10_layPlans_27 : decode cX10_layPlans 27 = .ok (.aload_n 0, 1) := by decide +kernel
theorem dX10_layPlans_28 : decode cX10_layPlans 28 = .ok (.getfield 67, 3) := by decide +kernel
theorem dX10_layPlans_31 : decode cX10_layPlans 31 = .ok (.iload_n 2, 1) := by decide +kernel
theorem dX10_layPlans_32 : decode cX10_layPlans 32 = .ok (.aload_n 0, 1) := by decide +kernel
theorem dX10_layPlans_33 : decode cX10_layPlans 33 = .ok (.getfield 159, 3) := by decide +kernel
theorem dX10_layPlans_36 : decode cX10_layPlans 36 = .ok (.lastore, 1) := by decide +kernel
theorem dX10_layPlans_37 : decode cX10_layPlans 37 = .ok (.iinc 2 1, 3) := by decide +kernel
theorem dX10_layPlans_40 : decode cX10_layPlans 40 = .ok (.goto (-38), 3) := by decide +kernel
theorem dX10_layPlans_43 : decode cX10_layPlans 43 = .ok (.return_, 1) := by decide +kernel
theorem dX10_canBe_0 : decode cX10_canBe 0 = .ok (.aload_n 0, 1) := by decide +kernel
theorem dX10_canBe_1 : decode cX10_canBe 1 = .ok (.getfield 64, 3) := by decide +kernel
theorem dX10_canBe_4 : decode cX10_canBe 4 = .ok (.iload_n 1, 1) := by decide +kernel
theorem dX10_canBe_5 : decode cX10_canBe 5 = .ok (.laload, 1) := by decide +kernel
theorem dX10_canBe_6 : decode cX10_canBe 6 = .ok (.aload_n 0, 1) := by decide +kernel
theorem dX10_canBe_7 : decode cX10_canBe 7 = .ok (.getfield 55, 3) := by decide +kernel
theorem dX10_canBe_10 : decode cX10_canBe 10 = .ok (.i2l, 1) := by decide +kernel
theorem dX10_canBe_11 : decode cX10_canBe 11 = .ok (.lsub, 1) := by decide +kernel
theorem dX10_canBe_12 : decode cX10_canBe 12 = .ok (.aload_n 0, 1) := by decide +kernel
theorem dX10_canBe_13 : decode cX10_canBe 13 = .ok (.getfield 67, 3) := by decide +kernel
theorem dX10_canBe_16 : decode cX10_canBe 16 = .ok (.iload_n 1, 1) := by decide +kernel
theorem dX10_canBe_17 : decode cX10_canBe 17 = .ok (.laload, 1) := by decide +kernel
theorem dX10_canBe_18 : decode cX10_canBe 18 = .ok (.aload_n 0, 1) := by decide +kernel
theorem dX10_canBe_19 : decode cX10_canBe 19 = .ok (.getfield 239, 3) := by decide +kernel
theorem dX10_canBe_22 : decode cX10_canBe 22 = .ok (.i2l, 1) := by decide +kernel
theorem dX10_canBe_23 : decode cX10_canBe 23 = .ok (.lsub, 1) := by decide +kernel
theorem dX10_canBe_24 : decode cX10_canBe 24 = .ok (.ldc2_w 242, 3) := by decide +kernel
theorem dX10_canBe_27 : decode cX10_canBe 27 = .ok (.aload_n 0, 1) := by decide +kernel
theorem dX10_canBe_28 : decode cX10_canBe 28 = .ok (.getfield 58, 3) := by decide +kernel
theorem dX10_canBe_31 : decode cX10_canBe 31 = .ok (.i2l, 1) := by decide +kernel
theorem dX10_canBe_32 : decode cX10_canBe 32 = .ok (.lmul, 1) := by decide +kernel
theorem dX10_canBe_33 : decode cX10_canBe 33 = .ok (.iload_n 2, 1) := by decide +kernel
theorem dX10_canBe_34 : decode cX10_canBe 34 = .ok (.i2l, 1) := by decide +kernel
theorem dX10_canBe_35 : decode cX10_canBe 35 = .ok (.lmul, 1) := by decide +kernel
theorem dX10_canBe_36 : decode cX10_canBe 36 = .ok (.invokestatic 244, 3) := by decide +kernel
theorem dX10_canBe_39 : decode cX10_canBe 39 = .ok (.ireturn, 1) := by decide +kernel
theorem dX10_getsAt_0 : decode cX10_getsAt 0 = .ok (.iconst 0, 1) := by decide +kernel
theorem dX10_getsAt_1 : decode cX10_getsAt 1 = .ok (.istore_n 3, 1) := by decide +kernel
theorem dX10_getsAt_2 : decode cX10_getsAt 2 = .ok (.iconst 0, 1) := by decide +kernel
theorem dX10_getsAt_3 : decode cX10_getsAt 3 = .ok (.istore 4, 2) := by decide +kernel
theorem dX10_getsAt_5 : decode cX10_getsAt 5 = .ok (.iload 4, 2) := by decide +kernel
theorem dX10_getsAt_7 : decode cX10_getsAt 7 = .ok (.iconst 4, 1) := by decide +kernel
theorem dX10_getsAt_8 : decode cX10_getsAt 8 = .ok (.if_icmp .ge 68, 3) := by decide +kernel
theorem dX10_getsAt_11 : decode cX10_getsAt 11 = .ok (.aload_n 0, 1) := by decide +kernel
theorem dX10_getsAt_12 : decode cX10_getsAt 12 = .ok (.iload_n 1, 1) := by decide +kernel
theorem dX10_getsAt_13 : decode cX10_getsAt 13 = .ok (.iload_n 2, 1) := by decide +kernel
theorem dX10_getsAt_14 : decode cX10_getsAt 14 = .ok (.invokevirtual 247, 3) := by decide +kernel
theorem dX10_getsAt_17 : decode cX10_getsAt 17 = .ok (.ifCond .eq 59, 3) := by decide +kernel
theorem dX10_getsAt_20 : decode cX10_getsAt 20 = .ok (.iload_n 3, 1) := by decide +kernel
theorem dX10_getsAt_21 : decode cX10_getsAt 21 = .ok (.aload_n 0, 1) := by decide +kernel
theorem dX10_getsAt_22 : decode cX10_getsAt 22 = .ok (.getfield 64, 3) := by decide +kernel
theorem dX10_getsAt_25 : decode cX10_getsAt 25 = .ok (.iload 4, 2) := by decide +kernel
theorem dX10_getsAt_27 : decode cX10_getsAt 27 = .ok (.laload, 1) := by decide +kernel
theorem dX10_getsAt_28 : decode cX10_getsAt 28 = .ok (.aload_n 0, 1) := by decide +kernel
theorem dX10_getsAt_29 : decode cX10_getsAt 29 = .ok (.getfield 64, 3) := by decide +kernel
theorem dX10_getsAt_32 : decode cX10_getsAt 32 = .ok (.iload_n 1, 1) := by decide +kernel
theorem dX10_getsAt_33 : decode cX10_getsAt 33 = .ok (.laload, 1) := by decide +kernel
theorem dX10_getsAt_34 : decode cX10_getsAt 34 = .ok (.lsub, 1) := by decide +kernel
theorem dX10_getsAt_35 : decode cX10_getsAt 35 = .ok (.aload_n 0, 1) := by decide +kernel
theorem dX10_getsAt_36 : decode cX10_getsAt 36 = .ok (.getfield 67, 3) := by decide +kernel
theorem dX10_getsAt_39 : decode cX10_getsAt 39 = .ok (.iload 4, 2) := by decide +kernel
theorem dX10_getsAt_41 : decode cX10_getsAt 41 = .ok (.laload, 1) := by decide +kernel
theorem dX10_getsAt_42 : decode cX10_getsAt 42 = .ok (.aload_n 0, 1) := by decide +kernel
theorem dX10_getsAt_43 : decode cX10_getsAt 43 = .ok (.getfield 67, 3) := by decide +kernel
theorem dX10_getsAt_46 : decode cX10_getsAt 46 = .ok (.iload_n 1, 1) := by decide +kernel
theorem dX10_getsAt_47 : decode cX10_getsAt 47 = .ok (.laload, 1) := by decide +kernel
theorem dX10_getsAt_48 : decode cX10_getsAt 48 = .ok (.lsub, 1) := by decide +kernel
theorem dX10_getsAt_49 : decode cX10_getsAt 49 = .ok (.aload_n 0, 1) := by decide +kernel
theorem dX10_getsAt_50 : decode cX10_getsAt 50 = .ok (.getfield 61, 3) := by decide +kernel
theorem dX10_getsAt_53 : decode cX10_getsAt 53 = .ok (.i2l, 1) := by decide +kernel
theorem dX10_getsAt_54 : decode cX10_getsAt 54 = .ok (.invokestatic 244, 3) := by decide +kernel
theorem dX10_getsAt_57 : decode cX10_getsAt 57 = .ok (.ifCond .eq 10, 3) := by decide +kernel
theorem dX10_getsAt_60 : decode cX10_getsAt 60 = .ok (.iconst 1, 1) := by decide +kernel
theorem dX10_getsAt_61 : decode cX10_getsAt 61 = .ok (.iload 4, 2) := by decide +kernel
theorem dX10_getsAt_63 : decode cX10_getsAt 63 = .ok (.ishl, 1) := by decide +kernel
theorem dX10_getsAt_64 : decode cX10_getsAt 64 = .ok (.goto 4, 3) := by decide +kernel
theorem dX10_getsAt_67 : decode cX10_getsAt 67 = .ok (.iconst 0, 1) := by decide +kernel
theorem dX10_getsAt_68 : decode cX10_getsAt 68 = .ok (.ior, 1) := by decide +kernel
theorem dX10_getsAt_69 : decode cX10_getsAt 69 = .ok (.istore_n 3, 1) := by decide +kernel
theorem dX10_getsAt_70 : decode cX10_getsAt 70 = .ok (.iinc 4 1, 3) := by decide +kernel
theorem dX10_getsAt_73 : decode cX10_getsAt 73 = .ok (.goto (-68), 3) := by decide +kernel
theorem dX10_getsAt_76 : decode cX10_getsAt 76 = .ok (.iload_n 3, 1) := by decide +kernel
theorem dX10_getsAt_77 : decode cX10_getsAt 77 = .ok (.ireturn, 1) := by decide +kernel
theorem dX10_gets_0 : decode cX10_gets 0 = .ok (.iload_n 1, 1) := by decide +kernel
theorem dX10_gets_1 : decode cX10_gets 1 = .ok (.invokestatic 126, 3) := by decide +kernel
theorem dX10_gets_4 : decode cX10_gets 4 = .ok (.ifCond .ne 5, 3) := by decide +kernel
theorem dX10_gets_7 : decode cX10_gets 7 = .ok (.iconst (-1), 1) := by decide +kernel
theorem dX10_gets_8 : decode cX10_gets 8 = .ok (.ireturn, 1) := by decide +kernel
theorem dX10_gets_9 : decode cX10_gets 9 = .ok (.iload_n 2, 1) := by decide +kernel
theorem dX10_gets_10 : decode cX10_gets 10 = .ok (.i2l, 1) := by decide +kernel
theorem dX10_gets_11 : decode cX10_gets 11 = .ok (.lconst 0, 1) := by decide +kernel
theorem dX10_gets_12 : decode cX10_gets 12 = .ok (.ldc2_w 136, 3) := by decide +kernel
theorem dX10_gets_15 : decode cX10_gets 15 = .ok (.invokestatic 122, 3) := by decide +kernel
theorem dX10_gets_18 : decode cX10_gets 18 = .ok (.ifCond .ne 6, 3) := by decide +kernel
theorem dX10_gets_21 : decode cX10_gets 21 = .ok (.bipush (-2), 2) := by decide +kernel
theorem dX10_gets_23 : decode cX10_gets 23 = .ok (.ireturn, 1) := by decide +kernel
theorem dX10_gets_24 : decode cX10_gets 24 = .ok (.aload_n 0, 1) := by decide +kernel
theorem dX10_gets_25 : decode cX10_gets 25 = .ok (.iload_n 2, 1) := by decide +kernel
theorem dX10_gets_26 : decode cX10_gets 26 = .ok (.invokevirtual 251, 3) := by decide +kernel
theorem dX10_gets_29 : decode cX10_gets 29 = .ok (.aload_n 0, 1) := by decide +kernel
theorem dX10_gets_30 : decode cX10_gets 30 = .ok (.iload_n 1, 1) := by decide +kernel
theorem dX10_gets_31 : decode cX10_gets 31 = .ok (.iload_n 2, 1) := by decide +kernel
theorem dX10_gets_32 : decode cX10_gets 32 = .ok (.invokevirtual 254, 3) := by decide +kernel
theorem dX10_gets_35 : decode cX10_gets 35 = .ok (.ireturn, 1) := by decide +kernel
theorem dX10_layCaught_0 : decode cX10_layCaught 0 = .ok (.aload_n 0, 1) := by decide +kernel
theorem dX10_layCaught_1 : decode cX10_layCaught 1 = .ok (.iload_n 1, 1) := by decide +kernel
theorem dX10_layCaught_2 : decode cX10_layCaught 2 = .ok (.invokevirtual 251, 3) := by decide +kernel
theorem dX10_layCaught_5 : decode cX10_layCaught 5 = .ok (.iconst 0, 1) := by decide +kernel
theorem dX10_layCaught_6 : decode cX10_layCaught 6 = .ok (.istore_n 2, 1) := by decide +kernel
theorem dX10_layCaught_7 : decode cX10_layCaught 7 = .ok (.iload_n 2, 1) := by decide +kernel
theorem dX10_layCaught_8 : decode cX10_layCaught 8 = .ok (.iconst 4, 1) := by decide +kernel
theorem dX10_layCaught_9 : decode cX10_layCaught 9 = .ok (.if_icmp .ge 21, 3) := by decide +kernel
theorem dX10_layCaught_12 : decode cX10_layCaught 12 = .ok (.aload_n 0, 1) := by decide +kernel
theorem dX10_layCaught_13 : decode cX10_layCaught 13 = .ok (.getfield 73, 3) := by decide +kernel
theorem dX10_layCaught_16 : decode cX10_layCaught 16 = .ok (.iload_n 2, 1) := by decide +kernel
theorem dX10_layCaught_17 : decode cX10_layCaught 17 = .ok (.aload_n 0, 1) := by decide +kernel
theorem dX10_layCaught_18 : decode cX10_layCaught 18 = .ok (.iload_n 2, 1) := by decide +kernel
theorem dX10_layCaught_19 : decode cX10_layCaught 19 = .ok (.iload_n 1, 1) := by decide +kernel
theorem dX10_layCaught_20 : decode cX10_layCaught 20 = .ok (.invokevirtual 254, 3) := by decide +kernel
theorem dX10_layCaught_23 : decode cX10_layCaught 23 = .ok (.iastore, 1) := by decide +kernel
theorem dX10_layCaught_24 : decode cX10_layCaught 24 = .ok (.iinc 2 1, 3) := by decide +kernel
theorem dX10_layCaught_27 : decode cX10_layCaught 27 = .ok (.goto (-20), 3) := by decide +kernel
theorem dX10_layCaught_30 : decode cX10_layCaught 30 = .ok (.return_, 1) := by decide +kernel
theorem dX10_worstOf_0 : decode cX10_worstOf 0 = .ok (.iconst 0, 1) := by decide +kernel
theorem dX10_worstOf_1 : decode cX10_worstOf 1 = .ok (.istore_n 1, 1) := by decide +kernel
theorem dX10_worstOf_2 : decode cX10_worstOf 2 = .ok (.aload_n 0, 1) := by decide +kernel
theorem dX10_worstOf_3 : decode cX10_worstOf 3 = .ok (.bipush (-6), 2) := by decide +kernel
theorem dX10_worstOf_5 : decode cX10_worstOf 5 = .ok (.putfield 257, 3) := by decide +kernel
theorem dX10_worstOf_8 : decode cX10_worstOf 8 = .ok (.iconst 0, 1) := by decide +kernel
theorem dX10_worstOf_9 : decode cX10_worstOf 9 = .ok (.istore_n 2, 1) := by decide +kernel
theorem dX10_worstOf_10 : decode cX10_worstOf 10 = .ok (.iload_n 2, 1) := by decide +kernel
theorem dX10_worstOf_11 : decode cX10_worstOf 11 = .ok (.iconst 4, 1) := by decide +kernel
theorem dX10_worstOf_12 : decode cX10_worstOf 12 = .ok (.if_icmp .ge 83, 3) := by decide +kernel
theorem dX10_worstOf_15 : decode cX10_worstOf 15 = .ok (.iconst 0, 1) := by decide +kernel
theorem dX10_worstOf_16 : decode cX10_worstOf 16 = .ok (.istore_n 3, 1) := by decide +kernel
theorem dX10_worstOf_17 : decode cX10_worstOf 17 = .ok (.iconst 0, 1) := by decide +kernel
theorem dX10_worstOf_18 : decode cX10_worstOf 18 = .ok (.istore 4, 2) := by decide +kernel
theorem dX10_worstOf_20 : decode cX10_worstOf 20 = .ok (.iload 4, 2) := by decide +kernel
theorem dX10_worstOf_22 : decode cX10_worstOf 22 = .ok (.iconst 4, 1) := by decide +kernel
theorem dX10_worstOf_23 : decode cX10_worstOf 23 = .ok (.if_icmp .ge 38, 3) := by decide +kernel
theorem dX10_worstOf_26 : decode cX10_worstOf 26 = .ok (.iload_n 3, 1) := by decide +kernel
theorem dX10_worstOf_27 : decode cX10_worstOf 27 = .ok (.aload_n 0, 1) := by decide +kernel
theorem dX10_worstOf_28 : decode cX10_worstOf 28 = .ok (.getfield 73, 3) := by decide +kernel
theorem dX10_worstOf_31 : decode cX10_worstOf 31 = .ok (.iload_n 2, 1) := by decide +kernel
theorem dX10_worstOf_32 : decode cX10_worstOf 32 = .ok (.iaload, 1) := by decide +kernel
theorem dX10_worstOf_33 : decode cX10_worstOf 33 = .ok (.iload 4, 2) := by decide +kernel
theorem dX10_worstOf_35 : decode cX10_worstOf 35 = .ok (.ishr, 1) := by decide +kernel
theorem dX10_worstOf_36 : decode cX10_worstOf 36 = .ok (.iconst 1, 1) := by decide +kernel
theorem dX10_worstOf_37 : decode cX10_worstOf 37 = .ok (.iand, 1) := by decide +kernel
theorem dX10_worstOf_38 : decode cX10_worstOf 38 = .ok (.iconst 1, 1) := by decide +kernel
theorem dX10_worstOf_39 : decode cX10_worstOf 39 = .ok (.if_icmp .ne 13, 3) := by decide +kernel
theorem dX10_worstOf_42 : decode cX10_worstOf 42 = .ok (.aload_n 0, 1) := by decide +kernel
theorem dX10_worstOf_43 : decode cX10_worstOf 43 = .ok (.getfield 70, 3) := by decide +kernel
theorem dX10_worstOf_46 : decode cX10_worstOf 46 = .ok (.iload 4, 2) := by decide +kernel
theorem dX10_worstOf_48 : decode cX10_worstOf 48 = .ok (.iaload, 1) := by decide +kernel
theorem dX10_worstOf_49 : decode cX10_worstOf 49 = .ok (.goto 4, 3) := by decide +kernel
theorem dX10_worstOf_52 : decode cX10_worstOf 52 = .ok (.iconst 0, 1) := by decide +kernel
theorem dX10_worstOf_53 : decode cX10_worstOf 53 = .ok (.iadd, 1) := by decide +kernel
theorem dX10_worstOf_54 : decode cX10_worstOf 54 = .ok (.istore_n 3, 1) := by decide +kernel
theorem dX10_worstOf_55 : decode cX10_worstOf 55 = .ok (.iinc 4 1, 3) := by decide +kernel
theorem dX10_worstOf_58 : decode cX10_worstOf 58 = .ok (.goto (-38), 3) := by decide +kernel
theorem dX10_worstOf_61 : decode cX10_worstOf 61 = .ok (.aload_n 0, 1) := by decide +kernel
theorem dX10_worstOf_62 : decode cX10_worstOf 62 = .ok (.getfield 73, 3) := by decide +kernel
theorem dX10_worstOf_65 : decode cX10_worstOf 65 = .ok (.iload_n 2, 1) := by decide +kernel
theorem dX10_worstOf_66 : decode cX10_worstOf 66 = .ok (.iaload, 1) := by decide +kernel
theorem dX10_worstOf_67 : decode cX10_worstOf 67 = .ok (.ifCond .eq 22, 3) := by decide +kernel
theorem dX10_worstOf_70 : decode cX10_worstOf 70 = .ok (.aload_n 0, 1) := by decide +kernel
theorem dX10_worstOf_71 : decode cX10_worstOf 71 = .ok (.getfield 257, 3) := by decide +kernel
theorem dX10_worstOf_74 : decode cX10_worstOf 74 = .ok (.ifCond .lt 8, 3) := by decide +kernel
theorem dX10_worstOf_77 : decode cX10_worstOf 77 = .ok (.iload_n 3, 1) := by decide +kernel
theorem dX10_worstOf_78 : decode cX10_worstOf 78 = .ok (.iload_n 1, 1) := by decide +kernel
theorem dX10_worstOf_79 : decode cX10_worstOf 79 = .ok (.if_icmp .le 10, 3) := by decide +kernel
theorem dX10_worstOf_82 : decode cX10_worstOf 82 = .ok (.iload_n 3, 1) := by decide +kernel
theorem dX10_worstOf_83 : decode cX10_worstOf 83 = .ok (.istore_n 1, 1) := by decide +kernel
theorem dX10_worstOf_84 : decode cX10_worstOf 84 = .ok (.aload_n 0, 1) := by decide +kernel
theorem dX10_worstOf_85 : decode cX10_worstOf 85 = .ok (.iload_n 2, 1) := by decide +kernel
theorem dX10_worstOf_86 : decode cX10_worstOf 86 = .ok (.putfield 257, 3) := by decide +kernel
theorem dX10_worstOf_89 : decode cX10_worstOf 89 = .ok (.iinc 2 1, 3) := by decide +kernel
theorem dX10_worstOf_92 : decode cX10_worstOf 92 = .ok (.goto (-82), 3) := by decide +kernel
theorem dX10_worstOf_95 : decode cX10_worstOf 95 = .ok (.iload_n 1, 1) := by decide +kernel
theorem dX10_worstOf_96 : decode cX10_worstOf 96 = .ok (.ireturn, 1) := by decide +kernel
theorem dX10_worst_0 : decode cX10_worst 0 = .ok (.iload_n 1, 1) := by decide +kernel
theorem dX10_worst_1 : decode cX10_worst 1 = .ok (.i2l, 1) := by decide +kernel
theorem dX10_worst_2 : decode cX10_worst 2 = .ok (.lconst 0, 1) := by decide +kernel
theorem dX10_worst_3 : decode cX10_worst 3 = .ok (.ldc2_w 136, 3) := by decide +kernel
theorem dX10_worst_6 : decode cX10_worst 6 = .ok (.invokestatic 122, 3) := by decide +kernel
theorem dX10_worst_9 : decode cX10_worst 9 = .ok (.ifCond .eq 64, 3) := by decide +kernel
theorem dX10_worst_12 : decode cX10_worst 12 = .ok (.iload_n 2, 1) := by decide +kernel
theorem dX10_worst_13 : decode cX10_worst 13 = .ok (.i2l, 1) := by decide +kernel
theorem dX10_worst_14 : decode cX10_worst 14 = .ok (.lconst 0, 1) := by decide +kernel
theorem dX10_worst_15 : decode cX10_worst 15 = .ok (.ldc2_w 184, 3) := by decide +kernel
theorem dX10_worst_18 : decode cX10_worst 18 = .ok (.invokestatic 122, 3) := by decide +kernel
theorem dX10_worst_21 : decode cX10_worst 21 = .ok (.ifCond .eq 52, 3) := by decide +kernel
theorem dX10_worst_24 : decode cX10_worst 24 = .ok (.iload_n 3, 1) := by decide +kernel
theorem dX10_worst_25 : decode cX10_worst 25 = .ok (.i2l, 1) := by decide +kernel
theorem dX10_worst_26 : decode cX10_worst 26 = .ok (.lconst 0, 1) := by decide +kernel
theorem dX10_worst_27 : decode cX10_worst 27 = .ok (.ldc2_w 184, 3) := by decide +kernel
theorem dX10_worst_30 : decode cX10_worst 30 = .ok (.invokestatic 122, 3) := by decide +kernel
