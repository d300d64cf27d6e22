theorem dX11_init_0 : decode cX11_init 0 = .ok (.aload_n 0, 1) := by decide +kernel
theorem dX11_init_1 : decode cX11_init 1 = .ok (.invokespecial 1, 3) := by decide +kernel
theorem dX11_init_4 : decode cX11_init 4 = .ok (.aload_n 0, 1) := by decide +kernel
theorem dX11_init_5 : decode cX11_init 5 = .ok (.bipush 7, 2) := by decide +kernel
theorem dX11_init_7 : decode cX11_init 7 = .ok (.newarray .int, 2) := by decide +kernel
theorem dX11_init_9 : decode cX11_init 9 = .ok (.putfield 7, 3) := by decide +kernel
theorem dX11_init_12 : decode cX11_init 12 = .ok (.aload_n 0, 1) := by decide +kernel
theorem dX11_init_13 : decode cX11_init 13 = .ok (.bipush 56, 2) := by decide +kernel
theorem dX11_init_15 : decode cX11_init 15 = .ok (.newarray .int, 2) := by decide +kernel
theorem dX11_init_17 : decode cX11_init 17 = .ok (.putfield 13, 3) := by decide +kernel
theorem dX11_init_20 : decode cX11_init 20 = .ok (.aload_n 0, 1) := by decide +kernel
theorem dX11_init_21 : decode cX11_init 21 = .ok (.iconst 3, 1) := by decide +kernel
theorem dX11_init_22 : decode cX11_init 22 = .ok (.newarray .int, 2) := by decide +kernel
theorem dX11_init_24 : decode cX11_init 24 = .ok (.putfield 16, 3) := by decide +kernel
theorem dX11_init_27 : decode cX11_init 27 = .ok (.aload_n 0, 1) := by decide +kernel
theorem dX11_init_28 : decode cX11_init 28 = .ok (.bipush 80, 2) := by decide +kernel
theorem dX11_init_30 : decode cX11_init 30 = .ok (.newarray .int, 2) := by decide +kernel
theorem dX11_init_32 : decode cX11_init 32 = .ok (.putfield 19, 3) := by decide +kernel
theorem dX11_init_35 : decode cX11_init 35 = .ok (.aload_n 0, 1) := by decide +kernel
theorem dX11_init_36 : decode cX11_init 36 = .ok (.bipush 80, 2) := by decide +kernel
theorem dX11_init_38 : decode cX11_init 38 = .ok (.newarray .int, 2) := by decide +kernel
theorem dX11_init_40 : decode cX11_init 40 = .ok (.putfield 22, 3) := by decide +kernel
theorem dX11_init_43 : decode cX11_init 43 = .ok (.aload_n 0, 1) := by decide +kernel
theorem dX11_init_44 : decode cX11_init 44 = .ok (.bipush 80, 2) := by decide +kernel
theorem dX11_init_46 : decode cX11_init 46 = .ok (.newarray .int, 2) := by decide +kernel
theorem dX11_init_48 : decode cX11_init 48 = .ok (.putfield 25, 3) := by decide +kernel
theorem dX11_init_51 : decode cX11_init 51 = .ok (.aload_n 0, 1) := by decide +kernel
theorem dX11_init_52 : decode cX11_init 52 = .ok (.bipush 80, 2) := by decide +kernel
theorem dX11_init_54 : decode cX11_init 54 = .ok (.newarray .int, 2) := by decide +kernel
theorem dX11_init_56 : decode cX11_init 56 = .ok (.putfield 28, 3) := by decide +kernel
theorem dX11_init_59 : decode cX11_init 59 = .ok (.aload_n 0, 1) := by decide +kernel
theorem dX11_init_60 : decode cX11_init 60 = .ok (.bipush 80, 2) := by decide +kernel
theorem dX11_init_62 : decode cX11_init 62 = .ok (.newarray .int, 2) := by decide +kernel
theorem dX11_init_64 : decode cX11_init 64 = .ok (.putfield 31, 3) := by decide +kernel
theorem dX11_init_67 : decode cX11_init 67 = .ok (.aload_n 0, 1) := by decide +kernel
theorem dX11_init_68 : decode cX11_init 68 = .ok (.iconst 4, 1) := by decide +kernel
theorem dX11_init_69 : decode cX11_init 69 = .ok (.newarray .int, 2) := by decide +kernel
theorem dX11_init_71 : decode cX11_init 71 = .ok (.putfield 34, 3) := by decide +kernel
theorem dX11_init_74 : decode cX11_init 74 = .ok (.aload_n 0, 1) := by decide +kernel
theorem dX11_init_75 : decode cX11_init 75 = .ok (.iconst 4, 1) := by decide +kernel
theorem dX11_init_76 : decode cX11_init 76 = .ok (.newarray .boolean, 2) := by decide +kernel
theorem dX11_init_78 : decode cX11_init 78 = .ok (.putfield 37, 3) := by decide +kernel
theorem dX11_init_81 : decode cX11_init 81 = .ok (.aload_n 0, 1) := by decide +kernel
theorem dX11_init_82 : decode cX11_init 82 = .ok (.bipush 12, 2) := by decide +kernel
theorem dX11_init_84 : decode cX11_init 84 = .ok (.newarray .int, 2) := by decide +kernel
theorem dX11_init_86 : decode cX11_init 86 = .ok (.putfield 41, 3) := by decide +kernel
theorem dX11_init_89 : decode cX11_init 89 = .ok (.aload_n 0, 1) := by decide +kernel
theorem dX11_init_90 : decode cX11_init 90 = .ok (.bipush 48, 2) := by decide +kernel
theorem dX11_init_92 : decode cX11_init 92 = .ok (.newarray .int, 2) := by decide +kernel
theorem dX11_init_94 : decode cX11_init 94 = .ok (.putfield 44, 3) := by decide +kernel
theorem dX11_init_97 : decode cX11_init 97 = .ok (.aload_n 0, 1) := by decide +kernel
theorem dX11_init_98 : decode cX11_init 98 = .ok (.bipush 48, 2) := by decide +kernel
theorem dX11_init_100 : decode cX11_init 100 = .ok (.newarray .int, 2) := by decide +kernel
theorem dX11_init_102 : decode cX11_init 102 = .ok (.putfield 47, 3) := by decide +kernel
theorem dX11_init_105 : decode cX11_init 105 = .ok (.aload_n 0, 1) := by decide +kernel
theorem dX11_init_106 : decode cX11_init 106 = .ok (.bipush 80, 2) := by decide +kernel
theorem dX11_init_108 : decode cX11_init 108 = .ok (.newarray .int, 2) := by decide +kernel
theorem dX11_init_110 : decode cX11_init 110 = .ok (.putfield 50, 3) := by decide +kernel
theorem dX11_init_113 : decode cX11_init 113 = .ok (.aload_n 0, 1) := by decide +kernel
theorem dX11_init_114 : decode cX11_init 114 = .ok (.bipush 80, 2) := by decide +kernel
theorem dX11_init_116 : decode cX11_init 116 = .ok (.newarray .int, 2) := by decide +kernel
theorem dX11_init_118 : decode cX11_init 118 = .ok (.putfield 53, 3) := by decide +kernel
theorem dX11_init_121 : decode cX11_init 121 = .ok (.aload_n 0, 1) := by decide +kernel
theorem dX11_init_122 : decode cX11_init 122 = .ok (.iconst 4, 1) := by decide +kernel
theorem dX11_init_123 : decode cX11_init 123 = .ok (.newarray .int, 2) := by decide +kernel
theorem dX11_init_125 : decode cX11_init 125 = .ok (.putfield 56, 3) := by decide +kernel
theorem dX11_init_128 : decode cX11_init 128 = .ok (.aload_n 0, 1) := by decide +kernel
theorem dX11_init_129 : decode cX11_init 129 = .ok (.iconst 4, 1) := by decide +kernel
theorem dX11_init_130 : decode cX11_init 130 = .ok (.newarray .int, 2) := by decide +kernel
theorem dX11_init_132 : decode cX11_init 132 = .ok (.putfield 59, 3) := by decide +kernel
theorem dX11_init_135 : decode cX11_init 135 = .ok (.aload_n 0, 1) := by decide +kernel
theorem dX11_init_136 : decode cX11_init 136 = .ok (.sipush 686, 3) := by decide +kernel
theorem dX11_init_139 : decode cX11_init 139 = .ok (.newarray .int, 2) := by decide +kernel
theorem dX11_init_141 : decode cX11_init 141 = .ok (.putfield 62, 3) := by decide +kernel
theorem dX11_init_144 : decode cX11_init 144 = .ok (.aload_n 0, 1) := by decide +kernel
theorem dX11_init_145 : decode cX11_init 145 = .ok (.sipush 686, 3) := by decide +kernel
theorem dX11_init_148 : decode cX11_init 148 = .ok (.newarray .int, 2) := by decide +kernel
theorem dX11_init_150 : decode cX11_init 150 = .ok (.putfield 65, 3) := by decide +kernel
theorem dX11_init_153 : decode cX11_init 153 = .ok (.aload_n 0, 1) := by decide +kernel
theorem dX11_init_154 : decode cX11_init 154 = .ok (.sipush 2058, 3) := by decide +kernel
theorem dX11_init_157 : decode cX11_init 157 = .ok (.newarray .int, 2) := by decide +kernel
theorem dX11_init_159 : decode cX11_init 159 = .ok (.putfield 68, 3) := by decide +kernel
theorem dX11_init_162 : decode cX11_init 162 = .ok (.aload_n 0, 1) := by decide +kernel
theorem dX11_init_163 : decode cX11_init 163 = .ok (.sipush 2058, 3) := by decide +kernel
theorem dX11_init_166 : decode cX11_init 166 = .ok (.newarray .int, 2) := by decide +kernel
theorem dX11_init_168 : decode cX11_init 168 = .ok (.putfield 71, 3) := by decide +kernel
theorem dX11_init_171 : decode cX11_init 171 = .ok (.aload_n 0, 1) := by decide +kernel
theorem dX11_init_172 : decode cX11_init 172 = .ok (.iconst 3, 1) := by decide +kernel
theorem dX11_init_173 : decode cX11_init 173 = .ok (.newarray .int, 2) := by decide +kernel
theorem dX11_init_175 : decode cX11_init 175 = .ok (.putfield 74, 3) := by decide +kernel
theorem dX11_init_178 : decode cX11_init 178 = .ok (.aload_n 0, 1) := by decide +kernel
theorem dX11_init_179 : decode cX11_init 179 = .ok (.iconst 4, 1) := by decide +kernel
theorem dX11_init_180 : decode cX11_init 180 = .ok (.newarray .long, 2) := by decide +kernel
theorem dX11_init_182 : decode cX11_init 182 = .ok (.putfield 77, 3) := by decide +kernel
theorem dX11_init_185 : decode cX11_init 185 = .ok (.aload_n 0, 1) := by decide +kernel
theorem dX11_init_186 : decode cX11_init 186 = .ok (.iconst 4, 1) := by decide +kernel
theorem dX11_init_187 : decode cX11_init 187 = .ok (.newarray .long, 2) := by decide +kernel
theorem dX11_init_189 : decode cX11_init 189 = .ok (.putfield 81, 3) := by decide +kernel
theorem dX11_init_192 : decode cX11_init 192 = .ok (.aload_n 0, 1) := by decide +kernel
theorem dX11_init_193 : decode cX11_init 193 = .ok (.iconst 3, 1) := by decide +kernel
theorem dX11_init_194 : decode cX11_init 194 = .ok (.newarray .int, 2) := by decide +kernel
theorem dX11_init_196 : decode cX11_init 196 = .ok (.putfield 84, 3) := by decide +kernel
theorem dX11_init_199 : decode cX11_init 199 = .ok (.aload_n 0, 1) := by decide +kernel
theorem dX11_init_200 : decode cX11_init 200 = .ok (.getfield 7, 3) := by decide +kernel
theorem dX11_init_203 : decode cX11_init 203 = .ok (.iconst 4, 1) := by decide +kernel
theorem dX11_init_204 : decode cX11_init 204 = .ok (.iconst 2, 1) := by decide +kernel
theorem dX11_init_205 : decode cX11_init 205 = .ok (.iastore, 1) := by decide +kernel
theorem dX11_init_206 : decode cX11_init 206 = .ok (.aload_n 0, 1) := by decide +kernel
theorem dX11_init_207 : decode cX11_init 207 = .ok (.getfield 7, 3) := by decide +kernel
theorem dX11_init_210 : decode cX11_init 210 = .ok (.bipush 6, 2) := by decide +kernel
theorem dX11_init_212 : decode cX11_init 212 = .ok (.bipush 10, 2) := by decide +kernel
theorem dX11_init_214 : decode cX11_init 214 = .ok (.iastore, 1) := by decide +kernel
theorem dX11_init_215 : decode cX11_init 215 = .ok (.return_, 1) := by decide +kernel
theorem dX11_in_0 : decode cX11_in 0 = .ok (.lload_n 0, 1) := by decide +kernel
theorem dX11_in_1 : decode cX11_in 1 = .ok (.lload_n 2, 1) := by decide +kernel
theorem dX11_in_2 : decode cX11_in 2 = .ok (.lcmp, 1) := by decide +kernel
theorem dX11_in_3 : decode cX11_in 3 = .ok (.ifCond .lt 14, 3) := by decide +kernel
theorem dX11_in_6 : decode cX11_in 6 = .ok (.lload_n 0, 1) := by decide +kernel
theorem dX11_in_7 : decode cX11_in 7 = .ok (.lload 4, 2) := by decide +kernel
theorem dX11_in_9 : decode cX11_in 9 = .ok (.lcmp, 1) := by decide +kernel
theorem dX11_in_10 : decode cX11_in 10 = .ok (.ifCond .gt 7, 3) := by decide +kernel
theorem dX11_in_13 : decode cX11_in 13 = .ok (.iconst 1, 1) := by decide +kernel
theorem dX11_in_14 : decode cX11_in 14 = .ok (.goto 4, 3) := by decide +kernel
theorem dX11_in_17 : decode cX11_in 17 = .ok (.iconst 0, 1) := by decide +kernel
theorem dX11_in_18 : decode cX11_in 18 = .ok (.ireturn, 1) := by decide +kernel
theorem dX11_bad_0 : decode cX11_bad 0 = .ok (.aload_n 0, 1) := by decide +kernel
theorem dX11_bad_1 : decode cX11_bad 1 = .ok (.getfield 16, 3) := by decide +kernel
theorem dX11_bad_4 : decode cX11_bad 4 = .ok (.iconst 0, 1) := by decide +kernel
theorem dX11_bad_5 : decode cX11_bad 5 = .ok (.dup2, 1) := by decide +kernel
theorem dX11_bad_6 : decode cX11_bad 6 = .ok (.iaload, 1) := by decide +kernel
theorem dX11_bad_7 : decode cX11_bad 7 = .ok (.iconst 1, 1) := by decide +kernel
theorem dX11_bad_8 : decode cX11_bad 8 = .ok (.iadd, 1) := by decide +kernel
theorem dX11_bad_9 : decode cX11_bad 9 = .ok (.iastore, 1) := by decide +kernel
theorem dX11_bad_10 : decode cX11_bad 10 = .ok (.bipush (-2), 2) := by decide +kernel
theorem dX11_bad_12 : decode cX11_bad 12 = .ok (.ireturn, 1) := by decide +kernel
theorem dX11_no_0 : decode cX11_no 0 = .ok (.aload_n 0, 1) := by decide +kernel
theorem dX11_no_1 : decode cX11_no 1 = .ok (.getfield 16, 3) := by decide +kernel
theorem dX11_no_4 : decode cX11_no 4 = .ok (.iconst 1, 1) := by decide +kernel
theorem dX11_no_5 : decode cX11_no 5 = .ok (.dup2, 1) := by decide +kernel
theorem dX11_no_6 : decode cX11_no 6 = .ok (.iaload, 1) := by decide +kernel
theorem dX11_no_7 : decode cX11_no 7 = .ok (.iconst 1, 1) := by decide +kernel
theorem dX11_no_8 : decode cX11_no 8 = .ok (.iadd, 1) := by decide +kernel
theorem dX11_no_9 : decode cX11_no 9 = .ok (.iastore, 1) := by decide +kernel
theorem dX11_no_10 : decode cX11_no 10 = .ok (.bipush (-3), 2) := by decide +kernel
theorem dX11_no_12 : decode cX11_no 12 = .ok (.ireturn, 1) := by decide +kernel
theorem dX11_full_0 : decode cX11_full 0 = .ok (.aload_n 0, 1) := by decide +kernel
theorem dX11_full_1 : decode cX11_full 1 = .ok (.getfield 16, 3) := by decide +kernel
theorem dX11_full_4 : decode cX11_full 4 = .ok (.iconst 2, 1) := by decide +kernel
theorem dX11_full_5 : decode cX11_full 5 = .ok (.dup2, 1) := by decide +kernel
theorem dX11_full_6 : decode cX11_full 6 = .ok (.iaload, 1) := by decide +kernel
theorem dX11_full_7 : decode cX11_full 7 = .ok (.iconst 1, 1) := by decide +kernel
theorem dX11_full_8 : decode cX11_full 8 = .ok (.iadd, 1) := by decide +kernel
theorem dX11_full_9 : decode cX11_full 9 = .ok (.iastore, 1) := by decide +kernel
theorem dX11_full_10 : decode cX11_full 10 = .ok (.bipush (-4), 2) := by decide +kernel
theorem dX11_full_12 : decode cX11_full 12 = .ok (.ireturn, 1) := by decide +kernel
theorem dX11_isLine_0 : decode cX11_isLine 0 = .ok (.iload_n 0, 1) := by decide +kernel
theorem dX11_isLine_1 : decode cX11_isLine 1 = .ok (.i2l, 1) := by decide +kernel
theorem dX11_isLine_2 : decode cX11_isLine 2 = .ok (.lconst 0, 1) := by decide +kernel
theorem dX11_isLine_3 : decode cX11_isLine 3 = .ok (.ldc2_w 87, 3) := by decide +kernel
theorem dX11_isLine_6 : decode cX11_isLine 6 = .ok (.invokestatic 89, 3) := by decide +kernel
theorem dX11_isLine_9 : decode cX11_isLine 9 = .ok (.ireturn, 1) := by decide +kernel
theorem dX11_at_0 : decode cX11_at 0 = .ok (.iload_n 1, 1) := by decide +kernel
theorem dX11_at_1 : decode cX11_at 1 = .ok (.ifCond .ne 7, 3) := by decide +kernel
theorem dX11_at_4 : decode cX11_at 4 = .ok (.iload_n 0, 1) := by decide +kernel
theorem dX11_at_5 : decode cX11_at 5 = .ok (.goto 19, 3) := by decide +kernel
theorem dX11_at_8 : decode cX11_at 8 = .ok (.iload_n 1, 1) := by decide +kernel
theorem dX11_at_9 : decode cX11_at 9 = .ok (.iconst 1, 1) := by decide +kernel
theorem dX11_at_10 : decode cX11_at 10 = .ok (.if_icmp .ne 10, 3) := by decide +kernel
theorem dX11_at_13 : decode cX11_at 13 = .ok (.iload_n 0, 1) := by decide +kernel
theorem dX11_at_14 : decode cX11_at 14 = .ok (.bipush 7, 2) := by decide +kernel
theorem dX11_at_16 : decode cX11_at 16 = .ok (.idiv, 1) := by decide +kernel
theorem dX11_at_17 : decode cX11_at 17 = .ok (.goto 7, 3) := by decide +kernel
theorem dX11_at_20 : decode cX11_at 20 = .ok (.iload_n 0, 1) := by decide +kernel
theorem dX11_at_21 : decode cX11_at 21 = .ok (.bipush 49, 2) := by decide +kernel
theorem dX11_at_23 : decode cX11_at 23 = .ok (.idiv, 1) := by decide +kernel
theorem dX11_at_24 : decode cX11_at 24 = .ok (.bipush 7, 2) := by decide +kernel
theorem dX11_at_26 : decode cX11_at 26 = .ok (.irem, 1) := by decide +kernel
theorem dX11_at_27 : decode cX11_at 27 = .ok (.iconst 1, 1) := by decide +kernel
theorem dX11_at_28 : decode cX11_at 28 = .ok (.isub, 1) := by decide +kernel
theorem dX11_at_29 : decode cX11_at 29 = .ok (.ireturn, 1) := by decide +kernel
theorem dX11_longOf_0 : decode cX11_longOf 0 = .ok (.iload_n 0, 1) := by decide +kernel
theorem dX11_longOf_1 : decode cX11_longOf 1 = .ok (.bipush 49, 2) := by decide +kernel
theorem dX11_longOf_3 : decode cX11_longOf 3 = .ok (.if_icmp .lt 7, 3) := by decide +kernel
theorem dX11_longOf_6 : decode cX11_longOf 6 = .ok (.iconst 3, 1) := by decide +kernel
theorem dX11_longOf_7 : decode cX11_longOf 7 = .ok (.goto 22, 3) := by decide +kernel
theorem dX11_longOf_10 : decode cX11_longOf 10 = .ok (.iload_n 0, 1) := by decide +kernel
theorem dX11_longOf_11 : decode cX11_longOf 11 = .ok (.bipush 7, 2) := by decide +kernel
theorem dX11_longOf_13 : decode cX11_longOf 13 = .ok (.if_icmp .lt 7, 3) := by decide +kernel
theorem dX11_longOf_16 : decode cX11_longOf 16 = .ok (.iconst 2, 1) := by decide +kernel
theorem dX11_longOf_17 : decode cX11_longOf 17 = .ok (.goto 12, 3) := by decide +kernel
theorem dX11_longOf_20 : decode cX11_longOf 20 = .ok (.iload_n 0, 1) := by decide +kernel
theorem dX11_longOf_21 : decode cX11_longOf 21 = .ok (.ifCond .le 7, 3) := by decide +kernel
theorem dX11_longOf_24 : decode cX11_longOf 24 = .ok (.iconst 1, 1) := by decide +kernel
theorem dX11_longOf_25 : decode cX11_longOf 25 = .ok (.goto 4, 3) := by decide +kernel
theorem dX11_longOf_28 : decode cX11_longOf 28 = .ok (.iconst 0, 1) := by decide +kernel
theorem dX11_longOf_29 : decode cX11_longOf 29 = .ok (.ireturn, 1) := by decide +kernel
theorem dX11_rowOf_0 : decode cX11_rowOf 0 = .ok (.iload_n 0, 1) := by decide +kernel
theorem dX11_rowOf_1 : decode cX11_rowOf 1 = .ok (.iconst 1, 1) := by decide +kernel
theorem dX11_rowOf_2 : decode cX11_rowOf 2 = .ok (.iadd, 1) := by decide +kernel
theorem dX11_rowOf_3 : decode cX11_rowOf 3 = .ok (.bipush 7, 2) := by decide +kernel
theorem dX11_rowOf_5 : decode cX11_rowOf 5 = .ok (.iload_n 1, 1) := by decide +kernel
theorem dX11_rowOf_6 : decode cX11_rowOf 6 = .ok (.iconst 1, 1) := by decide +kernel
theorem dX11_rowOf_7 : decode cX11_rowOf 7 = .ok (.iadd, 1) := by decide +kernel
theorem dX11_rowOf_8 : decode cX11_rowOf 8 = .ok (.imul, 1) := by decide +kernel
theorem dX11_rowOf_9 : decode cX11_rowOf 9 = .ok (.iadd, 1) := by decide +kernel
theorem dX11_rowOf_10 : decode cX11_rowOf 10 = .ok (.bipush 49, 2) := by decide +kernel
theorem dX11_rowOf_12 : decode cX11_rowOf 12 = .ok (.iload_n 2, 1) := by decide +kernel
theorem dX11_rowOf_13 : decode cX11_rowOf 13 = .ok (.iconst 1, 1) := by decide +kernel
theorem dX11_rowOf_14 : decode cX11_rowOf 14 = .ok (.iadd, 1) := by decide +kernel
theorem dX11_rowOf_15 : decode cX11_rowOf 15 = .ok (.imul, 1) := by decide +kernel
theorem dX11_rowOf_16 : decode cX11_rowOf 16 = .ok (.iadd, 1) := by decide +kernel
theorem dX11_rowOf_17 : decode cX11_rowOf 17 = .ok (.ireturn, 1) := by decide +kernel
theorem dX11_placeOf_0 : decode cX11_placeOf 0 = .ok (.iload_n 0, 1) := by decide +kernel
theorem dX11_placeOf_1 : decode cX11_placeOf 1 = .ok (.iconst 0, 1) := by decide +kernel
theorem dX11_placeOf_2 : decode cX11_placeOf 2 = .ok (.invokestatic 93, 3) := by decide +kernel
theorem dX11_placeOf_5 : decode cX11_placeOf 5 = .ok (.iload_n 1, 1) := by decide +kernel
theorem dX11_placeOf_6 : decode cX11_placeOf 6 = .ok (.if_icmp .ne 7, 3) := by decide +kernel
theorem dX11_placeOf_9 : decode cX11_placeOf 9 = .ok (.iconst 0, 1) := by decide +kernel
theorem dX11_placeOf_10 : decode cX11_placeOf 10 = .ok (.goto 30, 3) := by decide +kernel
theorem dX11_placeOf_13 : decode cX11_placeOf 13 = .ok (.iload_n 0, 1) := by decide +kernel
theorem dX11_placeOf_14 : decode cX11_placeOf 14 = .ok (.iconst 1, 1) := by decide +kernel
theorem dX11_placeOf_15 : decode cX11_placeOf 15 = .ok (.invokestatic 93, 3) := by decide +kernel
theorem dX11_placeOf_18 : decode cX11_placeOf 18 = .ok (.iload_n 1, 1) := by decide +kernel
theorem dX11_placeOf_19 : decode cX11_placeOf 19 = .ok (.if_icmp .ne 7, 3) := by decide +kernel
theorem dX11_placeOf_22 : decode cX11_placeOf 22 = .ok (.iconst 1, 1) := by decide +kernel
theorem dX11_placeOf_23 : decode cX11_placeOf 23 = .ok (.goto 17, 3) := by decide +kernel
theorem dX11_placeOf_26 : decode cX11_placeOf 26 = .ok (.iload_n 0, 1) := by decide +kernel
theorem dX11_placeOf_27 : decode cX11_placeOf 27 = .ok (.iconst 2, 1) := by decide +kernel
theorem dX11_placeOf_28 : decode cX11_placeOf 28 = .ok (.invokestatic 93, 3) := by decide +kernel
theorem dX11_placeOf_31 : decode cX11_placeOf 31 = .ok (.iload_n 1, 1) := by decide +kernel
theorem dX11_placeOf_32 : decode cX11_placeOf 32 = .ok (.if_icmp .ne 7, 3) := by decide +kernel
theorem dX11_placeOf_35 : decode cX11_placeOf 35 = .ok (.iconst 2, 1) := by decide +kernel
theorem dX11_placeOf_36 : decode cX11_placeOf 36 = .ok (.goto 4, 3) := by decide +kernel
theorem dX11_placeOf_39 : decode cX11_placeOf 39 = .ok (.iconst (-1), 1) := by decide +kernel
theorem dX11_placeOf_40 : decode cX11_placeOf 40 = .ok (.ireturn, 1) := by decide +kernel
theorem dX11_toFront_0 : decode cX11_toFront 0 = .ok (.iload_n 0, 1) := by decide +kernel
theorem dX11_toFront_1 : decode cX11_toFront 1 = .ok (.iconst 0, 1) := by decide +kernel
theorem dX11_toFront_2 : decode cX11_toFront 2 = .ok (.invokestatic 93, 3) := by decide +kernel
theorem dX11_toFront_5 : decode cX11_toFront 5 = .ok (.istore_n 3, 1) := by decide +kernel
theorem dX11_toFront_6 : decode cX11_toFront 6 = .ok (.iload_n 0, 1) := by decide +kernel
theorem dX11_toFront_7 : decode cX11_toFront 7 = .ok (.iconst 1, 1) := by decide +kernel
theorem dX11_toFront_8 : decode cX11_toFront 8 = .ok (.invokestatic 93, 3) := by decide +kernel
theorem dX11_toFront_11 : decode cX11_toFront 11 = .ok (.istore 4, 2) := by decide +kernel
theorem dX11_toFront_13 : decode cX11_toFront 13 = .ok (.iload_n 0, 1) := by decide +kernel
theorem dX11_toFront_14 : decode cX11_toFront 14 = .ok (.iconst 2, 1) := by decide +kernel
theorem dX11_toFront_15 : decode cX11_toFront 15 = .ok (.invokestatic 93, 3) := by decide +kernel
theorem dX11_toFront_18 : decode cX11_toFront 18 = .ok (.istore 5, 2) := by decide +kernel
theorem dX11_toFront_20 : decode cX11_toFront 20 = .ok (.iload_n 2, 1) := by decide +kernel
theorem dX11_toFront_21 : decode cX11_toFront 21 = .ok (.ifCond .ne 7, 3) := by decide +kernel
theorem dX11_toFront_24 : decode cX11_toFront 24 = .ok (.iload_n 0, 1) := by decide +kernel
theorem dX11_toFront_25 : decode cX11_toFront 25 = .ok (.goto 25, 3) := by decide +kernel
theorem dX11_toFront_28 : decode cX11_toFront 28 = .ok (.iload_n 2, 1) := by decide +kernel
theorem dX11_toFront_29 : decode cX11_toFront 29 = .ok (.iconst 1, 1) := by decide +kernel
theorem dX11_toFront_30 : decode cX11_toFront 30 = .ok (.if_icmp .ne 13, 3) := by decide +kernel
theorem dX11_toFront_33 : decode cX11_toFront 33 = .ok (.iload_n 1, 1) := by decide +kernel
theorem dX11_toFront_34 : decode cX11_toFront 34 = .ok (.iload_n 3, 1) := by decide +kernel
theorem dX11_toFront_35 : decode cX11_toFront 35 = .ok (.iload 5, 2) := by decide +kernel
theorem dX11_toFront_37 : decode cX11_toFront 37 = .ok (.invokestatic 97, 3) := by decide +kernel
theorem dX11_toFront_40 : decode cX11_toFront 40 = .ok (.goto 10, 3) := by decide +kernel
theorem dX11_toFront_43 : decode cX11_toFront 43 = .ok (.iload_n 1, 1) := by decide +kernel
theorem dX11_toFront_44 : decode cX11_toFront 44 = .ok (.iload_n 3, 1) := by decide +kernel
theorem dX11_toFront_45 : decode cX11_toFront 45 = .ok (.iload 4, 2) := by decide +kernel
theorem dX11_toFront_47 : decode cX11_toFront 47 = .ok (.invokestatic 97, 3) := by decide +kernel
theorem dX11_toFront_50 : decode cX11_toFront 50 = .ok (.ireturn, 1) := by decide +kernel
theorem dX11_cut_0 : decode cX11_cut 0 = .ok (.iload_n 1, 1) := by decide +kernel
theorem dX11_cut_1 : decode cX11_cut 1 = .ok (.iconst 1, 1) := by decide +kernel
theorem dX11_cut_2 : decode cX11_cut 2 = .ok (.if_icmp .ne 10, 3) := by decide +kernel
theorem dX11_cut_5 : decode cX11_cut 5 = .ok (.iload_n 0, 1) := by decide +kernel
theorem dX11_cut_6 : decode cX11_cut 6 = .ok (.bipush 7, 2) := by decide +kernel
theorem dX11_cut_8 : decode cX11_cut 8 = .ok (.irem, 1) := by decide +kernel
theorem dX11_cut_9 : decode cX11_cut 9 = .ok (.goto 16, 3) := by decide +kernel
theorem dX11_cut_12 : decode cX11_cut 12 = .ok (.iload_n 1, 1) := by decide +kernel
theorem dX11_cut_13 : decode cX11_cut 13 = .ok (.iconst 2, 1) := by decide +kernel
theorem dX11_cut_14 : decode cX11_cut 14 = .ok (.if_icmp .ne 10, 3) := by decide +kernel
theorem dX11_cut_17 : decode cX11_cut 17 = .ok (.iload_n 0, 1) := by decide +kernel
theorem dX11_cut_18 : decode cX11_cut 18 = .ok (.bipush 49, 2) := by decide +kernel
theorem dX11_cut_20 : decode cX11_cut 20 = .ok (.irem, 1) := by decide +kernel
theorem dX11_cut_21 : decode cX11_cut 21 = .ok (.goto 4, 3) := by decide +kernel
theorem dX11_cut_24 : decode cX11_cut 24 = .ok (.iload_n 0, 1) := by decide +kernel
theorem dX11_cut_25 : decode cX11_cut 25 = .ok (.ireturn, 1) := by decide +kernel
theorem dX11_after_0 : decode cX11_after 0 = .ok (.iload_n 0, 1) := by decide +kernel
theorem dX11_after_1 : decode cX11_after 1 = .ok (.iload_n 1, 1) := by decide +kernel
theorem dX11_after_2 : decode cX11_after 2 = .ok (.invokestatic 101, 3) := by decide +kernel
theorem dX11_after_5 : decode cX11_after 5 = .ok (.istore 4, 2) := by decide +kernel
theorem dX11_after_7 : decode cX11_after 7 = .ok (.iload 4, 2) := by decide +kernel
theorem dX11_after_9 : decode cX11_after 9 = .ok (.iconst (-1), 1) := by decide +kernel
theorem dX11_after_10 : decode cX11_after 10 = .ok (.if_icmp .ne 14, 3) := by decide +kernel
theorem dX11_after_13 : decode cX11_after 13 = .ok (.iload_n 0, 1) := by decide +kernel
theorem dX11_after_14 : decode cX11_after 14 = .ok (.iload_n 1, 1) := by decide +kernel
theorem dX11_after_15 : decode cX11_after 15 = .ok (.iconst 2, 1) := by decide +kernel
theorem dX11_after_16 : decode cX11_after 16 = .ok (.invokestatic 104, 3) := by decide +kernel
theorem dX11_after_19 : decode cX11_after 19 = .ok (.iload_n 2, 1) := by decide +kernel
theorem dX11_after_20 : decode cX11_after 20 = .ok (.invokestatic 107, 3) := by decide +kernel
theorem dX11_after_23 : decode cX11_after 23 = .ok (.ireturn, 1) := by decide +kernel
theorem dX11_after_24 : decode cX11_after 24 = .ok (.iload 4, 2) := by decide +kernel
theorem dX11_after_26 : decode cX11_after 26 = .ok (.ifCond .eq 29, 3) := by decide +kernel
theorem dX11_after_29 : decode cX11_after 29 = .ok (.iload_n 3, 1) := by decide +kernel
theorem dX11_after_30 : decode cX11_after 30 = .ok (.iconst 1, 1) := by decide +kernel
theorem dX11_after_31 : decode cX11_after 31 = .ok (.if_icmp .eq 24, 3) := by decide +kernel
theorem dX11_after_34 : decode cX11_after 34 = .ok (.iload_n 3, 1) := by decide +kernel
theorem dX11_after_35 : decode cX11_after 35 = .ok (.iconst 3, 1) := by decide +kernel
theorem dX11_after_36 : decode cX11_after 36 = .ok (.if_icmp .ne 23, 3) := by decide +kernel
theorem dX11_after_39 : decode cX11_after 39 = .ok (.iload_n 0, 1) := by decide +kernel
theorem dX11_after_40 : decode cX11_after 40 = .ok (.invokestatic 110, 3) := by decide +kernel
theorem dX11_after_43 : decode cX11_after 43 = .ok (.iload_n 2, 1) := by decide +kernel
theorem dX11_after_44 : decode cX11_after 44 = .ok (.if_icmp .ne 15, 3) := by decide +kernel
theorem dX11_after_47 : decode cX11_after 47 = .ok (.iload 4, 2) := by decide +kernel
theorem dX11_after_49 : decode cX11_after 49 = .ok (.iload_n 2, 1) := by decide +kernel
theorem dX11_after_50 : decode cX11_after 50 = .ok (.iconst 1, 1) := by decide +kernel
theorem dX11_after_51 : decode cX11_after 51 = .ok (.isub, 1) := by decide +kernel
theorem dX11_after_52 : decode cX11_after 52 = .ok (.if_icmp .ne 7, 3) := by decide +kernel
theorem dX11_after_55 : decode cX11_after 55 = .ok (.iconst 1, 1) := by decide +kernel
theorem dX11_after_56 : decode cX11_after 56 = .ok (.goto 4, 3) := by decide +kernel
theorem dX11_after_59 : decode cX11_after 59 = .ok (.iconst 0, 1) := by decide +kernel
theorem dX11_after_60 : decode cX11_after 60 = .ok (.istore 5, 2) := by decide +kernel
theorem dX11_after_62 : decode cX11_after 62 = .ok (.iload 5, 2) := by decide +kernel
theorem dX11_after_64 : decode cX11_after 64 = .ok (.ifCond .eq 5, 3) := by decide +kernel
theorem dX11_after_67 : decode cX11_after 67 = .ok (.iload_n 0, 1) := by decide +kernel
theorem dX11_after_68 : decode cX11_after 68 = .ok (.ireturn, 1) := by decide +kernel
theorem dX11_after_69 : decode cX11_after 69 = .ok (.iload_n 3, 1) := by decide +kernel
theorem dX11_after_70 : decode cX11_after 70 = .ok (.iconst 2, 1) := by decide +kernel
theorem dX11_after_71 : decode cX11_after 71 = .ok (.if_icmp .ne 24, 3) := by decide +kernel
theorem dX11_after_74 : decode cX11_after 74 = .ok (.iload 4, 2) := by decide +kernel
theorem dX11_after_76 : decode cX11_after 76 = .ok (.iconst 2, 1) := by decide +kernel
theorem dX11_after_77 : decode cX11_after 77 = .ok (.if_icmp .ne 18, 3) := by decide +kernel
theorem dX11_after_80 : decode cX11_after 80 = .ok (.iload_n 0, 1) := by decide +kernel
theorem dX11_after_81 : decode cX11_after 81 = .ok (.iconst 0, 1) := by decide +kernel
theorem dX11_after_82 : decode cX11_after 82 = .ok (.invokestatic 93, 3) := by decide +kernel
theorem dX11_after_85 : decode cX11_after 85 = .ok (.iload_n 1, 1) := by decide +kernel
theorem dX11_after_86 : decode cX11_after 86 = .ok (.iload_n 0, 1) := by decide +kernel
theorem dX11_after_87 : decode cX11_after 87 = .ok (.iconst 1, 1) := by decide +kernel
theorem dX11_after_88 : decode cX11_after 88 = .ok (.invokestatic 93, 3) := by decide +kernel
theorem dX11_after_91 : decode cX11_after 91 = .ok (.invokestatic 97, 3) := by decide +kernel
theorem dX11_after_94 : decode cX11_after 94 = .ok (.ireturn, 1) := by decide +kernel
theorem dX11_after_95 : decode cX11_after 95 = .ok (.iload_n 0, 1) := by decide +kernel
theorem dX11_after_96 : decode cX11_after 96 = .ok (.iload_n 1, 1) := by decide +kernel
theorem dX11_after_97 : decode cX11_after 97 = .ok (.iload 4, 2) := by decide +kernel
theorem dX11_after_99 : decode cX11_after 99 = .ok (.invokestatic 104, 3) := by decide +kernel
theorem dX11_after_102 : decode cX11_after 102 = .ok (.ireturn, 1) := by decide +kernel
theorem dX11_rowNow_0 : decode cX11_rowNow 0 = .ok (.aload_n 0, 1) := by decide +kernel
theorem dX11_rowNow_1 : decode cX11_rowNow 1 = .ok (.getfield 7, 3) := by decide +kernel
theorem dX11_rowNow_4 : decode cX11_rowNow 4 = .ok (.iconst 0, 1) := by decide +kernel
theorem dX11_rowNow_5 : decode cX11_rowNow 5 = .ok (.iaload, 1) := by decide +kernel
theorem dX11_rowNow_6 : decode cX11_rowNow 6 = .ok (.ifCond .le 12, 3) := by decide +kernel
theorem dX11_rowNow_9 : decode cX11_rowNow 9 = .ok (.aload_n 0, 1) := by decide +kernel
theorem dX11_rowNow_10 : decode cX11_rowNow 10 = .ok (.getfield 7, 3) := by decide +kernel
theorem dX11_rowNow_13 : decode cX11_rowNow 13 = .ok (.iconst 1, 1) := by decide +kernel
theorem dX11_rowNow_14 : decode cX11_rowNow 14 = .ok (.iaload, 1) := by decide +kernel
theorem dX11_rowNow_15 : decode cX11_rowNow 15 = .ok (.goto 4, 3) := by decide +kernel
theorem dX11_rowNow_18 : decode cX11_rowNow 18 = .ok (.iconst (-1), 1) := by decide +kernel
theorem dX11_rowNow_19 : decode cX11_rowNow 19 = .ok (.aload_n 0, 1) := by decide +kernel
theorem dX11_rowNow_20 : decode cX11_rowNow 20 = .ok (.getfield 7, 3) := by decide +kernel
theorem dX11_rowNow_23 : decode cX11_rowNow 23 = .ok (.iconst 0, 1) := by decide +kernel
theorem dX11_rowNow_24 : decode cX11_rowNow 24 = .ok (.iaload, 1) := by decide +kernel
theorem dX11_rowNow_25 : decode cX11_rowNow 25 = .ok (.iconst 1, 1) := by decide +kernel
theorem dX11_rowNow_26 : decode cX11_rowNow 26 = .ok (.if_icmp .le 12, 3) := by decide +kernel
theorem dX11_rowNow_29 : decode cX11_rowNow 29 = .ok (.aload_n 0, 1) := by decide +kernel
theorem dX11_rowNow_30 : decode cX11_rowNow 30 = .ok (.getfield 7, 3) := by decide +kernel
theorem dX11_rowNow_33 : decode cX11_rowNow 33 = .ok (.iconst 2, 1) := by decide +kernel
theorem dX11_rowNow_34 : decode cX11_rowNow 34 = .ok (.iaload, 1) := by decide +kernel
theorem dX11_rowNow_35 : decode cX11_rowNow 35 = .ok (.goto 4, 3) := by decide +kernel
theorem dX11_rowNow_38 : decode cX11_rowNow 38 = .ok (.iconst (-1), 1) := by decide +kernel
theorem dX11_rowNow_39 : decode cX11_rowNow 39 = .ok (.aload_n 0, 1) := by decide +kernel
theorem dX11_rowNow_40 : decode cX11_rowNow 40 = .ok (.getfield 7, 3) := by decide +kernel
theorem dX11_rowNow_43 : decode cX11_rowNow 43 = .ok (.iconst 0, 1) := by decide +kernel
theorem dX11_rowNow_44 : decode cX11_rowNow 44 = .ok (.iaload, 1) := by decide +kernel
theorem dX11_rowNow_45 : decode cX11_rowNow 45 = .ok (.iconst 2, 1) := by decide +kernel
theorem dX11_rowNow_46 : decode cX11_rowNow 46 = .ok (.if_icmp .le 12, 3) := by decide +kernel
theorem dX11_rowNow_49 : decode cX11_rowNow 49 = .ok (.aload_n 0, 1) := by decide +kernel
theorem dX11_rowNow_50 : decode cX11_rowNow 50 = .ok (.getfield 7, 3) := by decide +kernel
theorem dX11_rowNow_53 : decode cX11_rowNow 53 = .ok (.iconst 3, 1) := by decide +kernel
theorem dX11_rowNow_54 : decode cX11_rowNow 54 = .ok (.iaload, 1) := by decide +kernel
theorem dX11_rowNow_55 : decode cX11_rowNow 55 = .ok (.goto 4, 3) := by decide +kernel
theorem dX11_rowNow_58 : decode cX11_rowNow 58 = .ok (.iconst (-1), 1) := by decide +kernel
theorem dX11_rowNow_59 : decode cX11_rowNow 59 = .ok (.invokestatic 97, 3) := by decide +kernel
theorem dX11_rowNow_62 : decode cX11_rowNow 62 = .ok (.ireturn, 1) := by decide +kernel
theorem dX11_layRow_0 : decode cX11_layRow 0 = .ok (.aload_n 0, 1) := by decide +kernel
theorem dX11_layRow_1 : decode cX11_layRow 1 = .ok (.getfield 7, 3) := by decide +kernel
theorem dX11_layRow_4 : decode cX11_layRow 4 = .ok (.iconst 0, 1) := by decide +kernel
theorem dX11_layRow_5 : decode cX11_layRow 5 = .ok (.iload_n 1, 1) := by decide +kernel
theorem dX11_layRow_6 : decode cX11_layRow 6 = .ok (.invokestatic 110, 3) := by decide +kernel
theorem dX11_layRow_9 : decode cX11_layRow 9 = .ok (.iastore, 1) := by decide +kernel
theorem dX11_layRow_10 : decode cX11_layRow 10 = .ok (.iconst 0, 1) := by decide +kernel
theorem dX11_layRow_11 : decode cX11_layRow 11 = .ok (.istore_n 2, 1) := by decide +kernel
theorem dX11_layRow_12 : decode cX11_layRow 12 = .ok (.iload_n 2, 1) := by decide +kernel
theorem dX11_layRow_13 : decode cX11_layRow 13 = .ok (.iconst 3, 1) := by decide +kernel
theorem dX11_layRow_14 : decode cX11_layRow 14 = .ok (.if_icmp .ge 36, 3) := by decide +kernel
theorem dX11_layRow_17 : decode cX11_layRow 17 = .ok (.aload_n 0, 1) := by decide +kernel
theorem dX11_layRow_18 : decode cX11_layRow 18 = .ok (.getfield 7, 3) := by decide +kernel
theorem dX11_layRow_21 : decode cX11_layRow 21 = .ok (.iconst 1, 1) := by decide +kernel
theorem dX11_layRow_22 : decode cX11_layRow 22 = .ok (.iload_n 2, 1) := by decide +kernel
theorem dX11_layRow_23 : decode cX11_layRow 23 = .ok (.iadd, 1) := by decide +kernel
theorem dX11_layRow_24 : decode cX11_layRow 24 = .ok (.iload_n 2, 1) := by decide +kernel
theorem dX11_layRow_25 : decode cX11_layRow 25 = .ok (.aload_n 0, 1) := by decide +kernel
theorem dX11_layRow_26 : decode cX11_layRow 26 = .ok (.getfield 7, 3) := by decide +kernel
theorem dX11_layRow_29 : decode cX11_layRow 29 = .ok (.iconst 0, 1) := by decide +kernel
theorem dX11_layRow_30 : decode cX11_layRow 30 = .ok (.iaload, 1) := by decide +kernel
theorem dX11_layRow_31 : decode cX11_layRow 31 = .ok (.if_icmp .ge 11, 3) := by decide +kernel
theorem dX11_layRow_34 : decode cX11_layRow 34 = .ok (.iload_n 1, 1) := by decide +kernel
theorem dX11_layRow_35 : decode cX11_layRow 35 = .ok (.iload_n 2, 1) := by decide +kernel
theorem dX11_layRow_36 : decode cX11_layRow 36 = .ok (.invokestatic 93, 3) := by decide +kernel
theorem dX11_layRow_39 : decode cX11_layRow 39 = .ok (.goto 4, 3) := by decide +kernel
theorem dX11_layRow_42 : decode cX11_layRow 42 = .ok (.iconst 0, 1) := by decide +kernel
theorem dX11_layRow_43 : decode cX11_layRow 43 = .ok (.iastore, 1) := by decide +kernel
theorem dX11_layRow_44 : decode cX11_layRow 44 = .ok (.iinc 2 1, 3) := by decide +kernel
theorem dX11_layRow_47 : decode cX11_layRow 47 = .ok (.goto (-35), 3) := by decide +kernel
theorem dX11_layRow_50 : decode cX11_layRow 50 = .ok (.return_, 1) := by decide +kernel
theorem dX11_keep_0 : decode cX11_keep 0 = .ok (.aload_n 0, 1) := by decide +kernel
theorem dX11_keep_1 : decode cX11_keep 1 = .ok (.getfield 114, 3) := by decide +kernel
theorem dX11_keep_4 : decode cX11_keep 4 = .ok (.bipush 8, 2) := by decide +kernel
theorem dX11_keep_6 : decode cX11_keep 6 = .ok (.if_icmp .ne 42, 3) := by decide +kernel
theorem dX11_keep_9 : decode cX11_keep 9 = .ok (.iconst 0, 1) := by decide +kernel
theorem dX11_keep_10 : decode cX11_keep 10 = .ok (.istore_n 1, 1) := by decide +kernel
theorem dX11_keep_11 : decode cX11_keep 11 = .ok (.iload_n 1, 1) := by decide +kernel
theorem dX11_keep_12 : decode cX11_keep 12 = .ok (.bipush 49, 2) := by decide +kernel
theorem dX11_keep_14 : decode cX11_keep 14 = .ok (.if_icmp .ge 24, 3) := by decide +kernel
theorem dX11_keep_17 : decode cX11_keep 17 = .ok (.aload_n 0, 1) := by decide +kernel
theorem dX11_keep_18 : decode cX11_keep 18 = .ok (.getfield 13, 3) := by decide +kernel
theorem dX11_keep_21 : decode cX11_keep 21 = .ok (.iload_n 1, 1) := by decide +kernel
theorem dX11_keep_22 : decode cX11_keep 22 = .ok (.aload_n 0, 1) := by decide +kernel
theorem dX11_keep_23 : decode cX11_keep 23 = .ok (.getfield 13, 3) := by decide +kernel
theorem dX11_keep_26 : decode cX11_keep 26 = .ok (.iload_n 1, 1) := by decide +kernel
theorem dX11_keep_27 : decode cX11_keep 27 = .ok (.bipush 7, 2) := by decide +kernel
theorem dX11_keep_29 : decode cX11_keep 29 = .ok (.iadd, 1) := by decide +kernel
theorem dX11_keep_30 : decode cX11_keep 30 = .ok (.iaload, 1) := by decide +kernel
theorem dX11_keep_31 : decode cX11_keep 31 = .ok (.iastore, 1) := by decide +kernel
theorem dX11_keep_32 : decode cX11_keep 32 = .ok (.iinc 1 1, 3) := by decide +kernel
theorem dX11_keep_35 : decode cX11_keep 35 = .ok (.goto (-24), 3) := by decide +kernel
theorem dX11_keep_38 : decode cX11_keep 38 = .ok (.aload_n 0, 1) := by decide +kernel
theorem dX11_keep_39 : decode cX11_keep 39 = .ok (.dup, 1) := by decide +kernel
theorem dX11_keep_40 : decode cX11_keep 40 = .ok (.getfield 114, 3) := by decide +kernel
theorem dX11_keep_43 : decode cX11_keep 43 = .ok (.iconst 1, 1) := by decide +kernel
theorem dX11_keep_44 : decode cX11_keep 44 = .ok (.isub, 1) := by decide +kernel
theorem dX11_keep_45 : decode cX11_keep 45 = .ok (.putfield 114, 3) := by decide +kernel
theorem dX11_keep_48 : decode cX11_keep 48 = .ok (.iconst 0, 1) := by decide +kernel
theorem dX11_keep_49 : decode cX11_keep 49 = .ok (.istore_n 1, 1) := by decide +kernel
theorem dX11_keep_50 : decode cX11_keep 50 = .ok (.iload_n 1, 1) := by decide +kernel
theorem dX11_keep_51 : decode cX11_keep 51 = .ok (.bipush 7, 2) := by decide +kernel
theorem dX11_keep_53 : decode cX11_keep 53 = .ok (.if_icmp .ge 29, 3) := by decide +kernel
theorem dX11_keep_56 : decode cX11_keep 56 = .ok (.aload_n 0, 1) := by decide +kernel
theorem dX11_keep_57 : decode cX11_keep 57 = .ok (.getfield 13, 3) := by decide +kernel
theorem dX11_keep_60 : decode cX11_keep 60 = .ok (.bipush 7, 2) := by decide +kernel
theorem dX11_keep_62 : decode cX11_keep 62 = .ok (.aload_n 0, 1) := by decide +kernel
theorem dX11_keep_63 : decode cX11_keep 63 = .ok (.getfield 114, 3) := by decide +kernel
theorem dX11_keep_66 : decode cX11_keep 66 = .ok (.imul, 1) := by decide +kernel
theorem dX11_keep_67 : decode cX11_keep 67 = .ok (.iload_n 1, 1) := by decide +kernel
theorem dX11_keep_68 : decode cX11_keep 68 = .ok (.iadd, 1) := by decide +kernel
theorem dX11_keep_69 : decode cX11_keep 69 = .ok (.aload_n 0, 1) := by decide +kernel
theorem dX11_keep_70 : decode cX11_keep 70 = .ok (.getfield 7, 3) := by decide +kernel
theorem dX11_keep_73 : decode cX11_keep 73 = .ok (.iload_n 1, 1) := by decide +kernel
theorem dX11_keep_74 : decode cX11_keep 74 = .ok (.iaload, 1) := by decide +kernel
theorem dX11_keep_75 : decode cX11_keep 75 = .ok (.iastore, 1) := by decide +kernel
theorem dX11_keep_76 : decode cX11_keep 76 = .ok (.iinc 1 1, 3) := by decide +kernel
theorem dX11_keep_79 : decode cX11_keep 79 = .ok (.goto (-29), 3) := by decide +kernel
theorem dX11_keep_82 : decode cX11_keep 82 = .ok (.aload_n 0, 1) := by decide +kernel
theorem dX11_keep_83 : decode cX11_keep 83 = .ok (.dup, 1) := by decide +kernel
theorem dX11_keep_84 : decode cX11_keep 84 = .ok (.getfield 114, 3) := by decide +kernel
theorem dX11_keep_87 : decode cX11_keep 87 = .ok (.iconst 1, 1) := by decide +kernel
theorem dX11_keep_88 : decode cX11_keep 88 = .ok (.iadd, 1) := by decide +kernel
theorem dX11_keep_89 : decode cX11_keep 89 = .ok (.putfield 114, 3) := by decide +kernel
theorem dX11_keep_92 : decode cX11_keep 92 = .ok (.return_, 1) := by decide +kernel
theorem dX11_ways_0 : decode cX11_ways 0 = .ok (.iload_n 1, 1) := by decide +kernel
theorem dX11_ways_1 : decode cX11_ways 1 = .ok (.i2l, 1) := by decide +kernel
theorem dX11_ways_2 : decode cX11_ways 2 = .ok (.lconst 1, 1) := by decide +kernel
theorem dX11_ways_3 : decode cX11_ways 3 = .ok (.ldc2_w 118, 3) := by decide +kernel
theorem dX11_ways_6 : decode cX11_ways 6 = .ok (.invokestatic 89, 3) := by decide +kernel
theorem dX11_ways_9 : decode cX11_ways 9 = .ok (.ifCond .ne 8, 3) := by decide +kernel
theorem dX11_ways_12 : decode cX11_ways 12 = .ok (.aload_n 0, 1) := by decide +kernel
theorem dX11_ways_13 : decode cX11_ways 13 = .ok (.invokevirtual 120, 3) := by decide +kernel
theorem dX11_ways_16 : decode cX11_ways 16 = .ok (.ireturn, 1) := by decide +kernel
theorem dX11_ways_17 : decode cX11_ways 17 = .ok (.aload_n 0, 1) := by decide +kernel
theorem dX11_ways_18 : decode cX11_ways 18 = .ok (.invokevirtual 124, 3) := by decide +kernel
theorem dX11_ways_21 : decode cX11_ways 21 = .ok (.aload_n 0, 1) := by decide +kernel
theorem dX11_ways_22 : decode cX11_ways 22 = .ok (.getfield 7, 3) := by decide +kernel
theorem dX11_ways_25 : decode cX11_ways 25 = .ok (.iconst 4, 1) := by decide +kernel
theorem dX11_ways_26 : decode cX11_ways 26 = .ok (.iaload, 1) := by decide +kernel
theorem dX11_ways_27 : decode cX11_ways 27 = .ok (.istore_n 2, 1) := by decide +kernel
theorem dX11_ways_28 : decode cX11_ways 28 = .ok (.aload_n 0, 1) := by decide +kernel
theorem dX11_ways_29 : decode cX11_ways 29 = .ok (.getfield 7, 3) := by decide +kernel
theorem dX11_ways_32 : decode cX11_ways 32 = .ok (.iconst 4, 1) := by decide +kernel
theorem dX11_ways_33 : decode cX11_ways 33 = .ok (.iload_n 1, 1) := by decide +kernel
theorem dX11_ways_34 : decode cX11_ways 34 = .ok (.iastore, 1) := by decide +kernel
theorem dX11_ways_35 : decode cX11_ways 35 = .ok (.aload_n 0, 1) := by decide +kernel
theorem dX11_ways_36 : decode cX11_ways 36 = .ok (.aload_n 0, 1) := by decide +kernel
theorem dX11_ways_37 : decode cX11_ways 37 = .ok (.invokevirtual 127, 3) := by decide +kernel
theorem dX11_ways_40 : decode cX11_ways 40 = .ok (.iload_n 1, 1) := by decide +kernel
theorem dX11_ways_41 : decode cX11_ways 41 = .ok (.invokestatic 107, 3) := by decide +kernel
theorem dX11_ways_44 : decode cX11_ways 44 = .ok (.invokevirtual 130, 3) := by decide +kernel
theorem dX11_ways_47 : decode cX11_ways 47 = .ok (.iload_n 2, 1) := by decide +kernel
theorem dX11_ways_48 : decode cX11_ways 48 = .ok (.ireturn, 1) := by decide +kernel
theorem dX11_kind_0 : decode cX11_kind 0 = .ok (.iload_n 1, 1) := by decide +kernel
theorem dX11_kind_1 : decode cX11_kind 1 = .ok (.i2l, 1) := by decide +kernel
theorem dX11_kind_2 : decode cX11_kind 2 = .ok (.lconst 0, 1) := by decide +kernel
theorem dX11_kind_3 : decode cX11_kind 3 = .ok (.ldc2_w 118, 3) := by decide +kernel
theorem dX11_kind_6 : decode cX11_kind 6 = .ok (.invokestatic 89, 3) := by decide +kernel
theorem dX11_kind_9 : decode cX11_kind 9 = .ok (.ifCond .ne 8, 3) := by decide +kernel
theorem dX11_kind_12 : decode cX11_kind 12 = .ok (.aload_n 0, 1) := by decide +kernel
theorem dX11_kind_13 : decode cX11_kind 13 = .ok (.invokevirtual 120, 3) := by decide +kernel
theorem dX11_kind_16 : decode cX11_kind 16 = .ok (.ireturn, 1) := by decide +kernel
theorem dX11_kind_17 : decode cX11_kind 17 = .ok (.aload_n 0, 1) := by decide +kernel
theorem dX11_kind_18 : decode cX11_kind 18 = .ok (.invokevirtual 124, 3) := by decide +kernel
theorem dX11_kind_21 : decode cX11_kind 21 = .ok (.aload_n 0, 1) := by decide +kernel
theorem dX11_kind_22 : decode cX11_kind 22 = .ok (.getfield 7, 3) := by decide +kernel
theorem dX11_kind_25 : decode cX11_kind 25 = .ok (.iconst 5, 1) := by decide +kernel
theorem dX11_kind_26 : decode cX11_kind 26 = .ok (.iaload, 1) := by decide +kernel
theorem dX11_kind_27 : decode cX11_kind 27 = .ok (.istore_n 2, 1) := by decide +kernel
theorem dX11_kind_28 : decode cX11_kind 28 = .ok (.aload_n 0, 1) := by decide +kernel
theorem dX11_kind_29 : decode cX11_kind 29 = .ok (.getfield 7, 3) := by decide +kernel
theorem dX11_kind_32 : decode cX11_kind 32 = .ok (.iconst 5, 1) := by decide +kernel
theorem dX11_kind_33 : decode cX11_kind 33 = .ok (.iload_n 1, 1) := by decide +kernel
theorem dX11_kind_34 : decode cX11_kind 34 = .ok (.iastore, 1) := by decide +kernel
theorem dX11_kind_35 : decode cX11_kind 35 = .ok (.iload_n 2, 1) := by decide +kernel
theorem dX11_kind_36 : decode cX11_kind 36 = .ok (.ireturn, 1) := by decide +kernel
theorem dX11_price_0 : decode cX11_price 0 = .ok (.iload_n 1, 1) := by decide +kernel
theorem dX11_price_1 : decode cX11_price 1 = .ok (.i2l, 1) := by decide +kernel
theorem dX11_price_2 : decode cX11_price 2 = .ok (.ldc2_w 134, 3) := by decide +kernel
theorem dX11_price_5 : decode cX11_price 5 = .ok (.ldc2_w 136, 3) := by decide +kernel
theorem dX11_price_8 : decode cX11_price 8 = .ok (.invokestatic 89, 3) := by decide +kernel
theorem dX11_price_11 : decode cX11_price 11 = .ok (.ifCond .ne 8, 3) := by decide +kernel
theorem dX11_price_14 : decode cX11_price 14 = .ok (.aload_n 0, 1) := by decide +kernel
theorem dX11_price_15 : decode cX11_price 15 = .ok (.invokevirtual 120, 3) := by decide +kernel
theorem dX11_price_18 : decode cX11_price 18 = .ok (.ireturn, 1) := by decide +kernel
theorem dX11_price_19 : decode cX11_price 19 = .ok (.aload_n 0, 1) := by decide +kernel
theorem dX11_price_20 : decode cX11_price 20 = .ok (.invokevirtual 124, 3) := by decide +kernel
theorem dX11_price_23 : decode cX11_price 23 = .ok (.aload_n 0, 1) := by decide +kernel
theorem dX11_price_24 : decode cX11_price 24 = .ok (.getfield 7, 3) := by decide +kernel
theorem dX11_price_27 : decode cX11_price 27 = .ok (.bipush 6, 2) := by decide +kernel
theorem dX11_price_29 : decode cX11_price 29 = .ok (.iaload, 1) := by decide +kernel
theorem dX11_price_30 : decode cX11_price 30 = .ok (.istore_n 2, 1) := by decide +kernel
theorem dX11_price_31 : decode cX11_price 31 = .ok (.aload_n 0, 1) := by decide +kernel
theorem dX11_price_32 : decode cX11_price 32 = .ok (.getfield 7, 3) := by decide +kernel
theorem dX11_price_35 : decode cX11_price 35 = .ok (.bipush 6, 2) := by decide +kernel
theorem dX11_price_37 : decode cX11_price 37 = .ok (.iload_n 1, 1) := by decide +kernel
theorem dX11_price_38 : decode cX11_price 38 = .ok (.iastore, 1) := by decide +kernel
theorem dX11_price_39 : decode cX11_price 39 = .ok (.iload_n 2, 1) := by decide +kernel
theorem dX11_price_40 : decode cX11_price 40 = .ok (.ireturn, 1) := by decide +kernel
theorem dX11_empties_0 : decode cX11_empties 0 = .ok (.aload_n 0, 1) := by decide +kernel
theorem dX11_empties_1 : decode cX11_empties 1 = .ok (.invokevirtual 124, 3) := by decide +kernel
theorem dX11_empties_4 : decode cX11_empties 4 = .ok (.aload_n 0, 1) := by decide +kernel
theorem dX11_empties_5 : decode cX11_empties 5 = .ok (.getfield 7, 3) := by decide +kernel
theorem dX11_empties_8 : decode cX11_empties 8 = .ok (.iconst 0, 1) := by decide +kernel
theorem dX11_empties_9 : decode cX11_empties 9 = .ok (.iaload, 1) := by decide +kernel
theorem dX11_empties_10 : decode cX11_empties 10 = .ok (.istore_n 1, 1) := by decide +kernel
theorem dX11_empties_11 : decode cX11_empties 11 = .ok (.aload_n 0, 1) := by decide +kernel
theorem dX11_empties_12 : decode cX11_empties 12 = .ok (.iconst 0, 1) := by decide +kernel
theorem dX11_empties_13 : decode cX11_empties 13 = .ok (.invokevirtual 130, 3) := by decide +kernel
theorem dX11_empties_16 : decode cX11_empties 16 = .ok (.iload_n 1, 1) := by decide +kernel
theorem dX11_empties_17 : decode cX11_empties 17 = .ok (.ireturn, 1) := by decide +kernel
theorem dX11_costs_0 : decode cX11_costs 0 = .ok (.iload_n 1, 1) := by decide +kernel
theorem dX11_costs_1 : decode cX11_costs 1 = .ok (.iload_n 2, 1) := by decide +kernel
theorem dX11_costs_2 : decode cX11_costs 2 = .ok (.invokestatic 101, 3) := by decide +kernel
theorem dX11_costs_5 : decode cX11_costs 5 = .ok (.iconst (-1), 1) := by decide +kernel
theorem dX11_costs_6 : decode cX11_costs 6 = .ok (.if_icmp .ne 13, 3) := by decide +kernel
theorem dX11_costs_9 : decode cX11_costs 9 = .ok (.aload_n 0, 1) := by decide +kernel
theorem dX11_costs_10 : decode cX11_costs 10 = .ok (.getfield 7, 3) := by decide +kernel
theorem dX11_costs_13 : decode cX11_costs 13 = .ok (.bipush 6, 2) := by decide +kernel
theorem dX11_costs_15 : decode cX11_costs 15 = .ok (.iaload, 1) := by decide +kernel
theorem dX11_costs_16 : decode cX11_costs 16 = .ok (.goto 4, 3) := by decide +kernel
theorem dX11_costs_19 : decode cX11_costs 19 = .ok (.iconst 1, 1) := by decide +kernel
theorem dX11_costs_20 : decode cX11_costs 20 = .ok (.ireturn, 1) := by decide +kernel
theorem dX11_look_0 : decode cX11_look 0 = .ok (.iload_n 1, 1) := by decide +kernel
theorem dX11_look_1 : decode cX11_look 1 = .ok (.invokestatic 138, 3) := by decide +kernel
theorem dX11_look_4 : decode cX11_look 4 = .ok (.ifCond .ne 8, 3) := by decide +kernel
theorem dX11_look_7 : decode cX11_look 7 = .ok (.aload_n 0, 1) := by decide +kernel
theorem dX11_look_8 : decode cX11_look 8 = .ok (.invokevirtual 120, 3) := by decide +kernel
theorem dX11_look_11 : decode cX11_look 11 = .ok (.ireturn, 1) := by decide +kernel
theorem dX11_look_12 : decode cX11_look 12 = .ok (.aload_n 0, 1) := by decide +kernel
theorem dX11_look_13 : decode cX11_look 13 = .ok (.invokevirtual 124, 3) := by decide +kernel
theorem dX11_look_16 : decode cX11_look 16 = .ok (.aload_n 0, 1) := by decide +kernel
theorem dX11_look_17 : decode cX11_look 17 = .ok (.invokevirtual 127, 3) := by decide +kernel
theorem dX11_look_20 : decode cX11_look 20 = .ok (.istore_n 2, 1) := by decide +kernel
theorem dX11_look_21 : decode cX11_look 21 = .ok (.aload_n 0, 1) := by decide +kernel
theorem dX11_look_22 : decode cX11_look 22 = .ok (.iload_n 2, 1) := by decide +kernel
theorem dX11_look_23 : decode cX11_look 23 = .ok (.iload_n 1, 1) := by decide +kernel
theorem dX11_look_24 : decode cX11_look 24 = .ok (.aload_n 0, 1) := by decide +kernel
theorem dX11_look_25 : decode cX11_look 25 = .ok (.getfield 7, 3) := by decide +kernel
theorem dX11_look_28 : decode cX11_look 28 = .ok (.iconst 4, 1) := by decide +kernel
theorem dX11_look_29 : decode cX11_look 29 = .ok (.iaload, 1) := by decide +kernel
theorem dX11_look_30 : decode cX11_look 30 = .ok (.aload_n 0, 1) := by decide +kernel
theorem dX11_look_31 : decode cX11_look 31 = .ok (.getfield 7, 3) := by decide +kernel
theorem dX11_look_34 : decode cX11_look 34 = .ok (.iconst 5, 1) := by decide +kernel
theorem dX11_look_35 : decode cX11_look 35 = .ok (.iaload, 1) := by decide +kernel
theorem dX11_look_36 : decode cX11_look 36 = .ok (.invokestatic 142, 3) := by decide +kernel
theorem dX11_look_39 : decode cX11_look 39 = .ok (.invokevirtual 130, 3) := by decide +kernel
theorem dX11_look_42 : decode cX11_look 42 = .ok (.aload_n 0, 1) := by decide +kernel
theorem dX11_look_43 : decode cX11_look 43 = .ok (.iload_n 2, 1) := by decide +kernel
theorem dX11_look_44 : decode cX11_look 44 = .ok (.iload_n 1, 1) := by decide +kernel
theorem dX11_look_45 : decode cX11_look 45 = .ok (.invokevirtual 146, 3) := by decide +kernel
theorem dX11_look_48 : decode cX11_look 48 = .ok (.ireturn, 1) := by decide +kernel
theorem dX11_held_0 : decode cX11_held 0 = .ok (.iload_n 1, 1) := by decide +kernel
theorem dX11_held_1 : decode cX11_held 1 = .ok (.ifCond .ge 8, 3) := by decide +kernel
theorem dX11_held_4 : decode cX11_held 4 = .ok (.aload_n 0, 1) := by decide +kernel
theorem dX11_held_5 : decode cX11_held 5 = .ok (.invokevirtual 120, 3) := by decide +kernel
theorem dX11_held_8 : decode cX11_held 8 = .ok (.ireturn, 1) := by decide +kernel
theorem dX11_held_9 : decode cX11_held 9 = .ok (.iload_n 1, 1) := by decide +kernel
theorem dX11_held_10 : decode cX11_held 10 = .ok (.aload_n 0, 1) := by decide +kernel
theorem dX11_held_11 : decode cX11_held 11 = .ok (.getfield 7, 3) := by decide +kernel
theorem dX11_held_14 : decode cX11_held 14 = .ok (.iconst 0, 1) := by decide +kernel
theorem dX11_held_15 : decode cX11_held 15 = .ok (.iaload, 1) := by decide +kernel
theorem dX11_held_16 : decode cX11_held 16 = .ok (.if_icmp .ge 14, 3) := by decide +kernel
theorem dX11_held_19 : decode cX11_held 19 = .ok (.aload_n 0, 1) := by decide +kernel
theorem dX11_held_20 : decode cX11_held 20 = .ok (.getfield 7, 3) := by decide +kernel
theorem dX11_held_23 : decode cX11_held 23 = .ok (.iconst 1, 1) := by decide +kernel
theorem dX11_held_24 : decode cX11_held 24 = .ok (.iload_n 1, 1) := by decide +kernel
theorem dX11_held_25 : decode cX11_held 25 = .ok (.iadd, 1) := by decide +kernel
theorem dX11_held_26 : decode cX11_held 26 = .ok (.iaload, 1) := by decide +kernel
theorem dX11_held_27 : decode cX11_held 27 = .ok (.goto 4, 3) := by decide +kernel
theorem dX11_held_30 : decode cX11_held 30 = .ok (.iconst (-1), 1) := by decide +kernel
theorem dX11_held_31 : decode cX11_held 31 = .ok (.ireturn, 1) := by decide +kernel
theorem dX11_type_0 : decode cX11_type 0 = .ok (.iload_n 1, 1) := by decide +kernel
theorem dX11_type_1 : decode cX11_type 1 = .ok (.i2l, 1) := by decide +kernel
theorem dX11_type_2 : decode cX11_type 2 = .ok (.lconst 0, 1) := by decide +kernel
theorem dX11_type_3 : decode cX11_type 3 = .ok (.ldc2_w 149, 3) := by decide +kernel
theorem dX11_type_6 : decode cX11_type 6 = .ok (.invokestatic 89, 3) := by decide +kernel
theorem dX11_type_9 : decode cX11_type 9 = .ok (.ifCond .ne 8, 3) := by decide +kernel
theorem dX11_type_12 : decode cX11_type 12 = .ok (.aload_n 0, 1) := by decide +kernel
theorem dX11_type_13 : decode cX11_type 13 = .ok (.invokevirtual 120, 3) := by decide +kernel
theorem dX11_type_16 : decode cX11_type 16 = .ok (.ireturn, 1) := by decide +kernel
theorem dX11_type_17 : decode cX11_type 17 = .ok (.aload_n 0, 1) := by decide +kernel
theorem dX11_type_18 : decode cX11_type 18 = .ok (.getfield 151, 3) := by decide +kernel
theorem dX11_type_21 : decode cX11_type 21 = .ok (.bipush 80, 2) := by decide +kernel
theorem dX11_type_23 : decode cX11_type 23 = .ok (.if_icmp .ne 8, 3) := by decide +kernel
theorem dX11_type_26 : decode cX11_type 26 = .ok (.aload_n 0, 1) := by decide +kernel
theorem dX11_type_27 : decode cX11_type 27 = .ok (.invokevirtual 154, 3) := by decide +kernel
theorem dX11_type_30 : decode cX11_type 30 = .ok (.ireturn, 1) := by decide +kernel
theorem dX11_type_31 : decode cX11_type 31 = .ok (.aload_n 0, 1) := by decide +kernel
theorem dX11_type_32 : decode cX11_type 32 = .ok (.getfield 28, 3) := by decide +kernel
theorem dX11_type_35 : decode cX11_type 35 = .ok (.aload_n 0, 1) := by decide +kernel
theorem dX11_type_36 : decode cX11_type 36 = .ok (.getfield 151, 3) := by decide +kernel
theorem dX11_type_39 : decode cX11_type 39 = .ok (.iload_n 1, 1) := by decide +kernel
theorem dX11_type_40 : decode cX11_type 40 = .ok (.iastore, 1) := by decide +kernel
theorem dX11_type_41 : decode cX11_type 41 = .ok (.aload_n 0, 1) := by decide +kernel
theorem dX11_type_42 : decode cX11_type 42 = .ok (.dup, 1) := by decide +kernel
theorem dX11_type_43 : decode cX11_type 43 = .ok (.getfield 151, 3) := by decide +kernel
theorem dX11_type_46 : decode cX11_type 46 = .ok (.iconst 1, 1) := by decide +kernel
theorem dX11_type_47 : decode cX11_type 47 = .ok (.iadd, 1) := by decide +kernel
theorem dX11_type_48 : decode cX11_type 48 = .ok (.putfield 151, 3) := by decide +kernel
theorem dX11_type_51 : decode cX11_type 51 = .ok (.aload_n 0, 1) := by decide +kernel
theorem dX11_type_52 : decode cX11_type 52 = .ok (.getfield 151, 3) := by decide +kernel
theorem dX11_type_55 : decode cX11_type 55 = .ok (.ireturn, 1) := by decide +kernel
theorem dX11_clear_0 : decode cX11_clear 0 = .ok (.aload_n 0, 1) := by decide +kernel
theorem dX11_clear_1 : decode cX11_clear 1 = .ok (.getfield 151, 3) := by decide +kernel
theorem dX11_clear_4 : decode cX11_clear 4 = .ok (.istore_n 1, 1) := by decide +kernel
theorem dX11_clear_5 : decode cX11_clear 5 = .ok (.aload_n 0, 1) := by decide +kernel
theorem dX11_clear_6 : decode cX11_clear 6 = .ok (.iconst 0, 1) := by decide +kernel
theorem dX11_clear_7 : decode cX11_clear 7 = .ok (.putfield 151, 3) := by decide +kernel
theorem dX11_clear_10 : decode cX11_clear 10 = .ok (.iload_n 1, 1) := by decide +kernel
theorem dX11_clear_11 : decode cX11_clear 11 = .ok (.ireturn, 1) := by decide +kernel
theorem dX11_isLook_0 : decode cX11_isLook 0 = .ok (.iload_n 0, 1) := by decide +kernel
theorem dX11_isLook_1 : decode cX11_isLook 1 = .ok (.i2l, 1) := by decide +kernel
theorem dX11_isLook_2 : decode cX11_isLook 2 = .ok (.ldc2_w 157, 3) := by decide +kernel
theorem dX11_isLook_5 : decode cX11_isLook 5 = .ok (.ldc2_w 159, 3) := by decide +kernel
theorem dX11_isLook_8 : decode cX11_isLook 8 = .ok (.invokestatic 89, 3) := by decide +kernel
theorem dX11_isLook_11 : decode cX11_isLook 11 = .ok (.ireturn, 1) := by decide +kernel
theorem dX11_isFigure_0 : decode cX11_isFigure 0 = .ok (.iload_n 0, 1) := by decide +kernel
theorem dX11_isFigure_1 : decode cX11_isFigure 1 = .ok (.i2l, 1) := by decide +kernel
theorem dX11_isFigure_2 : decode cX11_isFigure 2 = .ok (.ldc2_w 161, 3) := by decide +kernel
theorem dX11_isFigure_5 : decode cX11_isFigure 5 = .ok (.ldc2_w 163, 3) := by decide +kernel
theorem dX11_isFigure_8 : decode cX11_isFigure 8 = .ok (.invokestatic 89, 3) := by decide +kernel
theorem dX11_isFigure_11 : decode cX11_isFigure 11 = .ok (.ireturn, 1) := by decide +kernel
theorem dX11_faultOf_0 : decode cX11_faultOf 0 = .ok (.iconst 0, 1) := by decide +kernel
theorem dX11_faultOf_1 : decode cX11_faultOf 1 = .ok (.istore_n 1, 1) := by decide +kernel
theorem dX11_faultOf_2 : decode cX11_faultOf 2 = .ok (.iconst 0, 1) := by decide +kernel
theorem dX11_faultOf_3 : decode cX11_faultOf 3 = .ok (.istore_n 2, 1) := by decide +kernel
theorem dX11_faultOf_4 : decode cX11_faultOf 4 = .ok (.iconst 0, 1) := by decide +kernel
theorem dX11_faultOf_5 : decode cX11_faultOf 5 = .ok (.istore_n 3, 1) := by decide +kernel
theorem dX11_faultOf_6 : decode cX11_faultOf 6 = .ok (.aload_n 0, 1) := by decide +kernel
theorem dX11_faultOf_7 : decode cX11_faultOf 7 = .ok (.iconst 0, 1) := by decide +kernel
theorem dX11_faultOf_8 : decode cX11_faultOf 8 = .ok (.putfield 165, 3) := by decide +kernel
theorem dX11_faultOf_11 : decode cX11_faultOf 11 = .ok (.iconst 0, 1) := by decide +kernel
theorem dX11_faultOf_12 : decode cX11_faultOf 12 = .ok (.istore 4, 2) := by decide +kernel
theorem dX11_faultOf_14 : decode cX11_faultOf 14 = .ok (.iload 4, 2) := by decide +kernel
theorem dX11_faultOf_16 : decode cX11_faultOf 16 = .ok (.aload_n 0, 1) := by decide +kernel
theorem dX11_faultOf_17 : decode cX11_faultOf 17 = .ok (.getfield 151, 3) := by decide +kernel
theorem dX11_faultOf_20 : decode cX11_faultOf 20 = .ok (.if_icmp .ge 366, 3) := by decide +kernel
theorem dX11_faultOf_23 : decode cX11_faultOf 23 = .ok (.aload_n 0, 1) := by decide +kernel
theorem dX11_faultOf_24 : decode cX11_faultOf 24 = .ok (.getfield 28, 3) := by decide +kernel
theorem dX11_faultOf_27 : decode cX11_faultOf 27 = .ok (.iload 4, 2) := by decide +kernel
theorem dX11_faultOf_29 : decode cX11_faultOf 29 = .ok (.iaload, 1) := by decide +kernel
theorem dX11_faultOf_30 : decode cX11_faultOf 30 = .ok (.istore 5, 2) := by decide +kernel
theorem dX11_faultOf_32 : decode cX11_faultOf 32 = .ok (.iload 5, 2) := by decide +kernel
theorem dX11_faultOf_34 : decode cX11_faultOf 34 = .ok (.bipush 32, 2) := by decide +kernel
theorem dX11_faultOf_36 : decode cX11_faultOf 36 = .ok (.if_icmp .ne 7, 3) := by decide +kernel
theorem dX11_faultOf_39 : decode cX11_faultOf 39 = .ok (.iconst 1, 1) := by decide +kernel
theorem dX11_faultOf_40 : decode cX11_faultOf 40 = .ok (.goto 4, 3) := by decide +kernel
theorem dX11_faultOf_43 : decode cX11_faultOf 43 = .ok (.iconst 0, 1) := by decide +kernel
theorem dX11_faultOf_44 : decode cX11_faultOf 44 = .ok (.istore 6, 2) := by decide +kernel
theorem dX11_faultOf_46 : decode cX11_faultOf 46 = .ok (.iload_n 3, 1) := by decide +kernel
theorem dX11_faultOf_47 : decode cX11_faultOf 47 = .ok (.ifCond .eq 38, 3) := by decide +kernel
theorem dX11_faultOf_50 : decode cX11_faultOf 50 = .ok (.iload 6, 2) := by decide +kernel
theorem dX11_faultOf_52 : decode cX11_faultOf 52 = .ok (.ifCond .ne 10, 3) := by decide +kernel
theorem dX11_faultOf_55 : decode cX11_faultOf 55 = .ok (.iload 5, 2) := by decide +kernel
theorem dX11_faultOf_57 : decode cX11_faultOf 57 = .ok (.bipush 91, 2) := by decide +kernel
theorem dX11_faultOf_59 : decode cX11_faultOf 59 = .ok (.if_icmp .ne 7, 3) := by decide +kernel
theorem dX11_faultOf_62 : decode cX11_faultOf 62 = .ok (.iconst 1, 1) := by decide +kernel
theorem dX11_faultOf_63 : decode cX11_faultOf 63 = .ok (.goto 4, 3) := by decide +kernel
theorem dX11_faultOf_66 : decode cX11_faultOf 66 = .ok (.iconst 0, 1) := by decide +kernel
theorem dX11_faultOf_67 : decode cX11_faultOf 67 = .ok (.istore 6, 2) := by decide +kernel
theorem dX11_faultOf_69 : decode cX11_faultOf 69 = .ok (.iload 5, 2) := by decide +kernel
theorem dX11_faultOf_71 : decode cX11_faultOf 71 = .ok (.bipush 91, 2) := by decide +kernel
theorem dX11_faultOf_73 : decode cX11_faultOf 73 = .ok (.if_icmp .eq 7, 3) := by decide +kernel
theorem dX11_faultOf_76 : decode cX11_faultOf 76 = .ok (.iconst 1, 1) := by decide +kernel
theorem dX11_faultOf_77 : decode cX11_faultOf 77 = .ok (.goto 4, 3) := by decide +kernel
theorem dX11_faultOf_80 : decode cX11_faultOf 80 = .ok (.iconst 0, 1) := by decide +kernel
theorem dX11_faultOf_81 : decode cX11_faultOf 81 = .ok (.istore_n 3, 1) := by decide +kernel
theorem dX11_faultOf_82 : decode cX11_faultOf 82 = .ok (.goto 255, 3) := by decide +kernel
theorem dX11_faultOf_85 : decode cX11_faultOf 85 = .ok (.iload 5, 2) := by decide +kernel
theorem dX11_faultOf_87 : decode cX11_faultOf 87 = .ok (.invokestatic 168, 3) := by decide +kernel
theorem dX11_faultOf_90 : decode cX11_faultOf 90 = .ok (.ifCond .eq 22, 3) := by decide +kernel
theorem dX11_faultOf_93 : decode cX11_faultOf 93 = .ok (.iinc 2 1, 3) := by decide +kernel
theorem dX11_faultOf_96 : decode cX11_faultOf 96 = .ok (.iload_n 2, 1) := by decide +kernel
theorem dX11_faultOf_97 : decode cX11_faultOf 97 = .ok (.bipush 24, 2) := by decide +kernel
theorem dX11_faultOf_99 : decode cX11_faultOf 99 = .ok (.if_icmp .gt 7, 3) := by decide +kernel
theorem dX11_faultOf_102 : decode cX11_faultOf 102 = .ok (.iconst 1, 1) := by decide +kernel
theorem dX11_faultOf_103 : decode cX11_faultOf 103 = .ok (.goto 4, 3) := by decide +kernel
theorem dX11_faultOf_106 : decode cX11_faultOf 106 = .ok (.iconst 0, 1) := by decide +kernel
theorem dX11_faultOf_107 : decode cX11_faultOf 107 = .ok (.istore 6, 2) := by decide +kernel
theorem dX11_faultOf_109 : decode cX11_faultOf 109 = .ok (.goto 228, 3) := by decide +kernel
theorem dX11_faultOf_112 : decode cX11_faultOf 112 = .ok (.iload 5, 2) := by decide +kernel
theorem dX11_faultOf_114 : decode cX11_faultOf 114 = .ok (.bipush 40, 2) := by decide +kernel
theorem dX11_faultOf_116 : decode cX11_faultOf 116 = .ok (.if_icmp .eq 11, 3) := by decide +kernel
theorem dX11_faultOf_119 : decode cX11_faultOf 119 = .ok (.iload 5, 2) := by decide +kernel
theorem dX11_faultOf_121 : decode cX11_faultOf 121 = .ok (.invokestatic 171, 3) := by decide +kernel
theorem dX11_faultOf_124 : decode cX11_faultOf 124 = .ok (.ifCond .eq 47, 3) := by decide +kernel
theorem dX11_faultOf_127 : decode cX11_faultOf 127 = .ok (.iload_n 1, 1) := by decide +kernel
theorem dX11_faultOf_128 : decode cX11_faultOf 128 = .ok (.iconst 3, 1) := by decide +kernel
theorem dX11_faultOf_129 : decode cX11_faultOf 129 = .ok (.if_icmp .ge 7, 3) := by decide +kernel
theorem dX11_faultOf_132 : decode cX11_faultOf 132 = .ok (.iconst 1, 1) := by decide +kernel
theorem dX11_faultOf_133 : decode cX11_faultOf 133 = .ok (.goto 4, 3) := by decide +kernel
theorem dX11_faultOf_136 : decode cX11_faultOf 136 = .ok (.iconst 0, 1) := by decide +kernel
theorem dX11_faultOf_137 : decode cX11_faultOf 137 = .ok (.istore 6, 2) := by decide +kernel
theorem dX11_faultOf_139 : decode cX11_faultOf 139 = .ok (.iload 6, 2) := by decide +kernel
theorem dX11_faultOf_141 : decode cX11_faultOf 141 = .ok (.ifCond .eq 21, 3) := by decide +kernel
theorem dX11_faultOf_144 : decode cX11_faultOf 144 = .ok (.aload_n 0, 1) := by decide +kernel
theorem dX11_faultOf_145 : decode cX11_faultOf 145 = .ok (.getfield 34, 3) := by decide +kernel
theorem dX11_faultOf_148 : decode cX11_faultOf 148 = .ok (.iload_n 1, 1) := by decide +kernel
theorem dX11_faultOf_149 : decode cX11_faultOf 149 = .ok (.iload 5, 2) := by decide +kernel
theorem dX11_faultOf_151 : decode cX11_faultOf 151 = .ok (.iastore, 1) := by decide +kernel
theorem dX11_faultOf_152 : decode cX11_faultOf 152 = .ok (.aload_n 0, 1) := by decide +kernel
theorem dX11_faultOf_153 : decode cX11_faultOf 153 = .ok (.getfield 37, 3) := by decide +kernel
theorem dX11_faultOf_156 : decode cX11_faultOf 156 = .ok (.iload_n 1, 1) := by decide +kernel
theorem dX11_faultOf_157 : decode cX11_faultOf 157 = .ok (.iconst 0, 1) := by decide +kernel
theorem dX11_faultOf_158 : decode cX11_faultOf 158 = .ok (.bastore, 1) := by decide +kernel
theorem dX11_faultOf_159 : decode cX11_faultOf 159 = .ok (.iinc 1 1, 3) := by decide +kernel
theorem dX11_faultOf_162 : decode cX11_faultOf 162 = .ok (.iload 5, 2) := by decide +kernel
theorem dX11_faultOf_164 : decode cX11_faultOf 164 = .ok (.invokestatic 171, 3) := by decide +kernel
theorem dX11_faultOf_167 : decode cX11_faultOf 167 = .ok (.istore_n 3, 1) := by decide +kernel
theorem dX11_faultOf_168 : decode cX11_faultOf 168 = .ok (.goto 169, 3) := by decide +kernel
theorem dX11_faultOf_171 : decode cX11_faultOf 171 = .ok (.iload 5, 2) := by decide +kernel
theorem dX11_faultOf_173 : decode cX11_faultOf 173 = .ok (.bipush 124, 2) := by decide +kernel
theorem dX11_faultOf_175 : decode cX11_faultOf 175 = .ok (.if_icmp .ne 55, 3) := by decide +kernel
theorem dX11_faultOf_178 : decode cX11_faultOf 178 = .ok (.iload_n 1, 1) := by decide +kernel
theorem dX11_faultOf_179 : decode cX11_faultOf 179 = .ok (.ifCond .le 31, 3) := by decide +kernel
theorem dX11_faultOf_182 : decode cX11_faultOf 182 = .ok (.aload_n 0, 1) := by decide +kernel
theorem dX11_faultOf_183 : decode cX11_faultOf 183 = .ok (.getfield 34, 3) := by decide +kernel
theorem dX11_faultOf_186 : decode cX11_faultOf 186 = .ok (.iload_n 1, 1) := by decide +kernel
theorem dX11_faultOf_187 : decode cX11_faultOf 187 = .ok (.iconst 1, 1) := by decide +kernel
theorem dX11_faultOf_188 : decode cX11_faultOf 188 = .ok (.isub, 1) := by decide +kernel
theorem dX11_faultOf_189 : decode cX11_faultOf 189 = .ok (.iaload, 1) := by decide +kernel
theorem dX11_faultOf_190 : decode cX11_faultOf 190 = .ok (.bipush 40, 2) := by decide +kernel
theorem dX11_faultOf_192 : decode cX11_faultOf 192 = .ok (.if_icmp .ne 18, 3) := by decide +kernel
theorem dX11_faultOf_195 : decode cX11_faultOf 195 = .ok (.aload_n 0, 1) := by decide +kernel
theorem dX11_faultOf_196 : decode cX11_faultOf 196 = .ok (.getfield 37, 3) := by decide +kernel
theorem dX11_faultOf_199 : decode cX11_faultOf 199 = .ok (.iload_n 1, 1) := by decide +kernel
theorem dX11_faultOf_200 : decode cX11_faultOf 200 = .ok (.iconst 1, 1) := by decide +kernel
theorem dX11_faultOf_201 : decode cX11_faultOf 201 = .ok (.isub, 1) := by decide +kernel
theorem dX11_faultOf_202 : decode cX11_faultOf 202 = .ok (.baload, 1) := by decide +kernel
theorem dX11_faultOf_203 : decode cX11_faultOf 203 = .ok (.ifCond .ne 7, 3) := by decide +kernel
theorem dX11_faultOf_206 : decode cX11_faultOf 206 = .ok (.iconst 1, 1) := by decide +kernel
theorem dX11_faultOf_207 : decode cX11_faultOf 207 = .ok (.goto 4, 3) := by decide +kernel
theorem dX11_faultOf_210 : decode cX11_faultOf 210 = .ok (.iconst 0, 1) := by decide +kernel
theorem dX11_faultOf_211 : decode cX11_faultOf 211 = .ok (.istore 6, 2) := by decide +kernel
theorem dX11_faultOf_213 : decode cX11_faultOf 213 = .ok (.iload 6, 2) := by decide +kernel
theorem dX11_faultOf_215 : decode cX11_faultOf 215 = .ok (.ifCond .eq 122, 3) := by decide +kernel
theorem dX11_faultOf_218 : decode cX11_faultOf 218 = .ok (.aload_n 0, 1) := by decide +kernel
theorem dX11_faultOf_219 : decode cX11_faultOf 219 = .ok (.getfield 37, 3) := by decide +kernel
theorem dX11_faultOf_222 : decode cX11_faultOf 222 = .ok (.iload_n 1, 1) := by decide +kernel
theorem dX11_faultOf_223 : decode cX11_faultOf 223 = .ok (.iconst 1, 1) := by decide +kernel
theorem dX11_faultOf_224 : decode cX11_faultOf 224 = .ok (.isub, 1) := by decide +kernel
theorem dX11_faultOf_225 : decode cX11_faultOf 225 = .ok (.iconst 1, 1) := by decide +kernel
theorem dX11_faultOf_226 : decode cX11_faultOf 226 = .ok (.bastore, 1) := by decide +kernel
theorem dX11_faultOf_227 : decode cX11_faultOf 227 = .ok (.goto 110, 3) := by decide +kernel
theorem dX11_faultOf_230 : decode cX11_faultOf 230 = .ok (.iload 5, 2) := by decide +kernel
theorem dX11_faultOf_232 : decode cX11_faultOf 232 = .ok (.bipush 41, 2) := by decide +kernel
theorem dX11_faultOf_234 : decode cX11_faultOf 234 = .ok (.if_icmp .eq 10, 3) := by decide +kernel
theorem dX11_faultOf_237 : decode cX11_faultOf 237 = .ok (.iload 5, 2) := by decide +kernel
theorem dX11_faultOf_239 : decode cX11_faultOf 239 = .ok (.bipush 93, 2) := by decide +kernel
theorem dX11_faultOf_241 : decode cX11_faultOf 241 = .ok (.if_icmp .ne 77, 3) := by decide +kernel
theorem dX11_faultOf_244 : decode cX11_faultOf 244 = .ok (.iload_n 1, 1) := by decide +kernel
theorem dX11_faultOf_245 : decode cX11_faultOf 245 = .ok (.ifCond .le 54, 3) := by decide +kernel
theorem dX11_faultOf_248 : decode cX11_faultOf 248 = .ok (.iload 5, 2) := by decide +kernel
theorem dX11_faultOf_250 : decode cX11_faultOf 250 = .ok (.bipush 41, 2) := by decide +kernel
theorem dX11_faultOf_252 : decode cX11_faultOf 252 = .ok (.if_icmp .ne 30, 3) := by decide +kernel
theorem dX11_faultOf_255 : decode cX11_faultOf 255 = .ok (.aload_n 0, 1) := by decide +kernel
theorem dX11_faultOf_256 : decode cX11_faultOf 256 = .ok (.getfield 34, 3) := by decide +kernel
theorem dX11_faultOf_259 : decode cX11_faultOf 259 = .ok (.iload_n 1, 1) := by decide +kernel
theorem dX11_faultOf_260 : decode cX11_faultOf 260 = .ok (.iconst 1, 1) := by decide +kernel
theorem dX11_faultOf_261 : decode cX11_faultOf 261 = .ok (.isub, 1) := by decide +kernel
theorem dX11_faultOf_262 : decode cX11_faultOf 262 = .ok (.iaload, 1) := by decide +kernel
theorem dX11_faultOf_263 : decode cX11_faultOf 263 = .ok (.bipush 40, 2) := by decide +kernel
theorem dX11_faultOf_265 : decode cX11_faultOf 265 = .ok (.if_icmp .ne 34, 3) := by decide +kernel
theorem dX11_faultOf_268 : decode cX11_faultOf 268 = .ok (.aload_n 0, 1) := by decide +kernel
theorem dX11_faultOf_269 : decode cX11_faultOf 269 = .ok (.getfield 37, 3) := by decide +kernel
theorem dX11_faultOf_272 : decode cX11_faultOf 272 = .ok (.iload_n 1, 1) := by decide +kernel
theorem dX11_faultOf_273 : decode cX11_faultOf 273 = .ok (.iconst 1, 1) := by decide +kernel
theorem dX11_faultOf_274 : decode cX11_faultOf 274 = .ok (.isub, 1) := by decide +kernel
theorem dX11_faultOf_275 : decode cX11_faultOf 275 = .ok (.baload, 1) := by decide +kernel
theorem dX11_faultOf_276 : decode cX11_faultOf 276 = .ok (.ifCond .eq 23, 3) := by decide +kernel
theorem dX11_faultOf_279 : decode cX11_faultOf 279 = .ok (.goto 16, 3) := by decide +kernel
theorem dX11_faultOf_282 : decode cX11_faultOf 282 = .ok (.aload_n 0, 1) := by decide +kernel
theorem dX11_faultOf_283 : decode cX11_faultOf 283 = .ok (.getfield 34, 3) := by decide +kernel
theorem dX11_faultOf_286 : decode cX11_faultOf 286 = .ok (.iload_n 1, 1) := by decide +kernel
theorem dX11_faultOf_287 : decode cX11_faultOf 287 = .ok (.iconst 1, 1) := by decide +kernel
theorem dX11_faultOf_288 : decode cX11_faultOf 288 = .ok (.isub, 1) := by decide +kernel
theorem dX11_faultOf_289 : decode cX11_faultOf 289 = .ok (.iaload, 1) := by decide +kernel
theorem dX11_faultOf_290 : decode cX11_faultOf 290 = .ok (.bipush 40, 2) := by decide +kernel
theorem dX11_faultOf_292 : decode cX11_faultOf 292 = .ok (.if_icmp .eq 7, 3) := by decide +kernel
theorem dX11_faultOf_295 : decode cX11_faultOf 295 = .ok (.iconst 1, 1) := by decide +kernel
theorem dX11_faultOf_296 : decode cX11_faultOf 296 = .ok (.goto 4, 3) := by decide +kernel
theorem dX11_faultOf_299 : decode cX11_faultOf 299 = .ok (.iconst 0, 1) := by decide +kernel
theorem dX11_faultOf_300 : decode cX11_faultOf 300 = .ok (.istore 6, 2) := by decide +kernel
theorem dX11_faultOf_302 : decode cX11_faultOf 302 = .ok (.iload_n 1, 1) := by decide +kernel
theorem dX11_faultOf_303 : decode cX11_faultOf 303 = .ok (.iload 6, 2) := by decide +kernel
theorem dX11_faultOf_305 : decode cX11_faultOf 305 = .ok (.ifCond .eq 7, 3) := by decide +kernel
theorem dX11_faultOf_308 : decode cX11_faultOf 308 = .ok (.iconst 1, 1) := by decide +kernel
theorem dX11_faultOf_309 : decode cX11_faultOf 309 = .ok (.goto 4, 3) := by decide +kernel
theorem dX11_faultOf_312 : decode cX11_faultOf 312 = .ok (.iconst 0, 1) := by decide +kernel
theorem dX11_faultOf_313 : decode cX11_faultOf 313 = .ok (.isub, 1) := by decide +kernel
theorem dX11_faultOf_314 : decode cX11_faultOf 314 = .ok (.istore_n 1, 1) := by decide +kernel
theorem dX11_faultOf_315 : decode cX11_faultOf 315 = .ok (.goto 22, 3) := by decide +kernel
theorem dX11_faultOf_318 : decode cX11_faultOf 318 = .ok (.iload 6, 2) := by decide +kernel
theorem dX11_faultOf_320 : decode cX11_faultOf 320 = .ok (.ifCond .ne 10, 3) := by decide +kernel
theorem dX11_faultOf_323 : decode cX11_faultOf 323 = .ok (.iload 5, 2) := by decide +kernel
theorem dX11_faultOf_325 : decode cX11_faultOf 325 = .ok (.bipush 46, 2) := by decide +kernel
theorem dX11_faultOf_327 : decode cX11_faultOf 327 = .ok (.if_icmp .ne 7, 3) := by decide +kernel
theorem dX11_faultOf_330 : decode cX11_faultOf 330 = .ok (.iconst 1, 1) := by decide +kernel
theorem dX11_faultOf_331 : decode cX11_faultOf 331 = .ok (.goto 4, 3) := by decide +kernel
theorem dX11_faultOf_334 : decode cX11_faultOf 334 = .ok (.iconst 0, 1) := by decide +kernel
theorem dX11_faultOf_335 : decode cX11_faultOf 335 = .ok (.istore 6, 2) := by decide +kernel
theorem dX11_faultOf_337 : decode cX11_faultOf 337 = .ok (.iload 6, 2) := by decide +kernel
theorem dX11_faultOf_339 : decode cX11_faultOf 339 = .ok (.ifCond .ne 6, 3) := by decide +kernel
theorem dX11_faultOf_342 : decode cX11_faultOf 342 = .ok (.iload 4, 2) := by decide +kernel
theorem dX11_faultOf_344 : decode cX11_faultOf 344 = .ok (.ireturn, 1) := by decide +kernel
theorem dX11_faultOf_345 : decode cX11_faultOf 345 = .ok (.iload 5, 2) := by decide +kernel
theorem dX11_faultOf_347 : decode cX11_faultOf 347 = .ok (.bipush 32, 2) := by decide +kernel
theorem dX11_faultOf_349 : decode cX11_faultOf 349 = .ok (.if_icmp .eq 31, 3) := by decide +kernel
theorem dX11_faultOf_352 : decode cX11_faultOf 352 = .ok (.iload 5, 2) := by decide +kernel
theorem dX11_faultOf_354 : decode cX11_faultOf 354 = .ok (.bipush 91, 2) := by decide +kernel
theorem dX11_faultOf_356 : decode cX11_faultOf 356 = .ok (.if_icmp .eq 24, 3) := by decide +kernel
theorem dX11_faultOf_359 : decode cX11_faultOf 359 = .ok (.aload_n 0, 1) := by decide +kernel
theorem dX11_faultOf_360 : decode cX11_faultOf 360 = .ok (.getfield 31, 3) := by decide +kernel
theorem dX11_faultOf_363 : decode cX11_faultOf 363 = .ok (.aload_n 0, 1) := by decide +kernel
theorem dX11_faultOf_364 : decode cX11_faultOf 364 = .ok (.getfield 165, 3) := by decide +kernel
theorem dX11_faultOf_367 : decode cX11_faultOf 367 = .ok (.iload 5, 2) := by decide +kernel
theorem dX11_faultOf_369 : decode cX11_faultOf 369 = .ok (.iastore, 1) := by decide +kernel
theorem dX11_faultOf_370 : decode cX11_faultOf 370 = .ok (.aload_n 0, 1) := by decide +kernel
theorem dX11_faultOf_371 : decode cX11_faultOf 371 = .ok (.dup, 1) := by decide +kernel
theorem dX11_faultOf_372 : decode cX11_faultOf 372 = .ok (.getfield 165, 3) := by decide +kernel
theorem dX11_faultOf_375 : decode cX11_faultOf 375 = .ok (.iconst 1, 1) := by decide +kernel
theorem dX11_faultOf_376 : decode cX11_faultOf 376 = .ok (.iadd, 1) := by decide +kernel
theorem dX11_faultOf_377 : decode cX11_faultOf 377 = .ok (.putfield 165, 3) := by decide +kernel
theorem dX11_faultOf_380 : decode cX11_faultOf 380 = .ok (.iinc 4 1, 3) := by decide +kernel
theorem dX11_faultOf_383 : decode cX11_faultOf 383 = .ok (.goto (-369), 3) := by decide +kernel
theorem dX11_faultOf_386 : decode cX11_faultOf 386 = .ok (.iload_n 1, 1) := by decide +kernel
theorem dX11_faultOf_387 : decode cX11_faultOf 387 = .ok (.ifCond .gt 7, 3) := by decide +kernel
theorem dX11_faultOf_390 : decode cX11_faultOf 390 = .ok (.iload_n 3, 1) := by decide +kernel
theorem dX11_faultOf_391 : decode cX11_faultOf 391 = .ok (.ifCond .eq 10, 3) := by decide +kernel
theorem dX11_faultOf_394 : decode cX11_faultOf 394 = .ok (.aload_n 0, 1) := by decide +kernel
theorem dX11_faultOf_395 : decode cX11_faultOf 395 = .ok (.getfield 151, 3) := by decide +kernel
theorem dX11_faultOf_398 : decode cX11_faultOf 398 = .ok (.goto 4, 3) := by decide +kernel
theorem dX11_faultOf_401 : decode cX11_faultOf 401 = .ok (.iconst (-1), 1) := by decide +kernel
theorem dX11_faultOf_402 : decode cX11_faultOf 402 = .ok (.ireturn, 1) := by decide +kernel
theorem dX11_reads_0 : decode cX11_reads 0 = .ok (.aload_n 0, 1) := by decide +kernel
theorem dX11_reads_1 : decode cX11_reads 1 = .ok (.invokevirtual 174, 3) := by decide +kernel
theorem dX11_reads_4 : decode cX11_reads 4 = .ok (.istore_n 1, 1) := by decide +kernel
theorem dX11_reads_5 : decode cX11_reads 5 = .ok (.iload_n 1, 1) := by decide +kernel
theorem dX11_reads_6 : decode cX11_reads 6 = .ok (.iconst (-1), 1) := by decide +kernel
theorem dX11_reads_7 : decode cX11_reads 7 = .ok (.if_icmp .eq 8, 3) := by decide +kernel
theorem dX11_reads_10 : decode cX11_reads 10 = .ok (.bipush (-10), 2) := by decide +kernel
theorem dX11_reads_12 : decode cX11_reads 12 = .ok (.iload_n 1, 1) := by decide +kernel
theorem dX11_reads_13 : decode cX11_reads 13 = .ok (.isub, 1) := by decide +kernel
theorem dX11_reads_14 : decode cX11_reads 14 = .ok (.ireturn, 1) := by decide +kernel
theorem dX11_reads_15 : decode cX11_reads 15 = .ok (.iconst 0, 1) := by decide +kernel
theorem dX11_reads_16 : decode cX11_reads 16 = .ok (.istore_n 2, 1) := by decide +kernel
theorem dX11_reads_17 : decode cX11_reads 17 = .ok (.aload_n 0, 1) := by decide +kernel
theorem dX11_reads_18 : decode cX11_reads 18 = .ok (.aload_n 0, 1) := by decide +kernel
theorem dX11_reads_19 : decode cX11_reads 19 = .ok (.getfield 165, 3) := by decide +kernel
theorem dX11_reads_22 : decode cX11_reads 22 = .ok (.putfield 177, 3) := by decide +kernel
theorem dX11_reads_25 : decode cX11_reads 25 = .ok (.iconst 0, 1) := by decide +kernel
theorem dX11_reads_26 : decode cX11_reads 26 = .ok (.istore_n 3, 1) := by decide +kernel
theorem dX11_reads_27 : decode cX11_reads 27 = .ok (.iload_n 3, 1) := by decide +kernel
theorem dX11_reads_28 : decode cX11_reads 28 = .ok (.aload_n 0, 1) := by decide +kernel
theorem dX11_reads_29 : decode cX11_reads 29 = .ok (.getfield 177, 3) := by decide +kernel
theorem dX11_reads_32 : decode cX11_reads 32 = .ok (.if_icmp .ge 118, 3) := by decide +kernel
theorem dX11_reads_35 : decode cX11_reads 35 = .ok (.aload_n 0, 1) := by decide +kernel
theorem dX11_reads_36 : decode cX11_reads 36 = .ok (.getfield 31, 3) := by decide +kernel
theorem dX11_reads_39 : decode cX11_reads 39 = .ok (.iload_n 3, 1) := by decide +kernel
theorem dX11_reads_40 : decode cX11_reads 40 = .ok (.iaload, 1) := by decide +kernel
theorem dX11_reads_41 : decode cX11_reads 41 = .ok (.istore 4, 2) := by decide +kernel
theorem dX11_reads_43 : decode cX11_reads 43 = .ok (.aload_n 0, 1) := by decide +kernel
theorem dX11_reads_44 : decode cX11_reads 44 = .ok (.getfield 19, 3) := by decide +kernel
theorem dX11_reads_47 : decode cX11_reads 47 = .ok (.iload_n 3, 1) := by decide +kernel
theorem dX11_reads_48 : decode cX11_reads 48 = .ok (.iload 4, 2) := by decide +kernel
theorem dX11_reads_50 : decode cX11_reads 50 = .ok (.iastore, 1) := by decide +kernel
theorem dX11_reads_51 : decode cX11_reads 51 = .ok (.iload 4, 2) := by decide +kernel
theorem dX11_reads_53 : decode cX11_reads 53 = .ok (.bipush 40, 2) := by decide +kernel
theorem dX11_reads_55 : decode cX11_reads 55 = .ok (.if_icmp .eq 11, 3) := by decide +kernel
theorem dX11_reads_58 : decode cX11_reads 58 = .ok (.iload 4, 2) := by decide +kernel
theorem dX11_reads_60 : decode cX11_reads 60 = .ok (.invokestatic 171, 3) := by decide +kernel
theorem dX11_reads_63 : decode cX11_reads 63 = .ok (.ifCond .eq 16, 3) := by decide +kernel
theorem dX11_reads_66 : decode cX11_reads 66 = .ok (.aload_n 0, 1) := by decide +kernel
theorem dX11_reads_67 : decode cX11_reads 67 = .ok (.getfield 34, 3) := by decide +kernel
theorem dX11_reads_70 : decode cX11_reads 70 = .ok (.iload_n 2, 1) := by decide +kernel
theorem dX11_reads_71 : decode cX11_reads 71 = .ok (.iload_n 3, 1) := by decide +kernel
theorem dX11_reads_72 : decode cX11_reads 72 = .ok (.iastore, 1) := by decide +kernel
theorem dX11_reads_73 : decode cX11_reads 73 = .ok (.iinc 2 1, 3) := by decide +kernel
theorem dX11_reads_76 : decode cX11_reads 76 = .ok (.goto 68, 3) := by decide +kernel
theorem dX11_reads_79 : decode cX11_reads 79 = .ok (.iload 4, 2) := by decide +kernel
theorem dX11_reads_81 : decode cX11_reads 81 = .ok (.bipush 124, 2) := by decide +kernel
theorem dX11_reads_83 : decode cX11_reads 83 = .ok (.if_icmp .ne 20, 3) := by decide +kernel
theorem dX11_reads_86 : decode cX11_reads 86 = .ok (.aload_n 0, 1) := by decide +kernel
theorem dX11_reads_87 : decode cX11_reads 87 = .ok (.getfield 25, 3) := by decide +kernel
theorem dX11_reads_90 : decode cX11_reads 90 = .ok (.aload_n 0, 1) := by decide +kernel
theorem dX11_reads_91 : decode cX11_reads 91 = .ok (.getfield 34, 3) := by decide +kernel
theorem dX11_reads_94 : decode cX11_reads 94 = .ok (.iload_n 2, 1) := by decide +kernel
theorem dX11_reads_95 : decode cX11_reads 95 = .ok (.iconst 1, 1) := by decide +kernel
theorem dX11_reads_96 : decode cX11_reads 96 = .ok (.isub, 1) := by decide +kernel
theorem dX11_reads_97 : decode cX11_reads 97 = .ok (.iaload, 1) := by decide +kernel
theorem dX11_reads_98 : decode cX11_reads 98 = .ok (.iload_n 3, 1) := by decide +kernel
theorem dX11_reads_99 : decode cX11_reads 99 = .ok (.iastore, 1) := by decide +kernel
theorem dX11_reads_100 : decode cX11_reads 100 = .ok (.goto 44, 3) := by decide +kernel
theorem dX11_reads_103 : decode cX11_reads 103 = .ok (.iload 4, 2) := by decide +kernel
theorem dX11_reads_105 : decode cX11_reads 105 = .ok (.bipush 41, 2) := by decide +kernel
theorem dX11_reads_107 : decode cX11_reads 107 = .ok (.if_icmp .eq 10, 3) := by decide +kernel
theorem dX11_reads_110 : decode cX11_reads 110 = .ok (.iload 4, 2) := by decide +kernel
theorem dX11_reads_112 : decode cX11_reads 112 = .ok (.bipush 93, 2) := by decide +kernel
theorem dX11_reads_114 : decode cX11_reads 114 = .ok (.if_icmp .ne 30, 3) := by decide +kernel
theorem dX11_reads_117 : decode cX11_reads 117 = .ok (.iinc 2 (-1), 3) := by decide +kernel
theorem dX11_reads_120 : decode cX11_reads 120 = .ok (.aload_n 0, 1) := by decide +kernel
theorem dX11_reads_121 : decode cX11_reads 121 = .ok (.getfield 22, 3) := by decide +kernel
theorem dX11_reads_124 : decode cX11_reads 124 = .ok (.aload_n 0, 1) := by decide +kernel
theorem dX11_reads_125 : decode cX11_reads 125 = .ok (.getfield 34, 3) := by decide +kernel
theorem dX11_reads_128 : decode cX11_reads 128 = .ok (.iload_n 2, 1) := by decide +kernel
theorem dX11_reads_129 : decode cX11_reads 129 = .ok (.iaload, 1) := by decide +kernel
theorem dX11_reads_130 : decode cX11_reads 130 = .ok (.iload_n 3, 1) := by decide +kernel
theorem dX11_reads_131 : decode cX11_reads 131 = .ok (.iastore, 1) := by decide +kernel
theorem dX11_reads_132 : decode cX11_reads 132 = .ok (.aload_n 0, 1) := by decide +kernel
theorem dX11_reads_133 : decode cX11_reads 133 = .ok (.getfield 22, 3) := by decide +kernel
theorem dX11_reads_136 : decode cX11_reads 136 = .ok (.iload_n 3, 1) := by decide +kernel
theorem dX11_reads_137 : decode cX11_reads 137 = .ok (.aload_n 0, 1) := by decide +kernel
theorem dX11_reads_138 : decode cX11_reads 138 = .ok (.getfield 34, 3) := by decide +kernel
theorem dX11_reads_141 : decode cX11_reads 141 = .ok (.iload_n 2, 1) := by decide +kernel
theorem dX11_reads_142 : decode cX11_reads 142 = .ok (.iaload, 1) := by decide +kernel
theorem dX11_reads_143 : decode cX11_reads 143 = .ok (.iastore, 1) := by decide +kernel
theorem dX11_reads_144 : decode cX11_reads 144 = .ok (.iinc 3 1, 3) := by decide +kernel
theorem dX11_reads_147 : decode cX11_reads 147 = .ok (.goto (-120), 3) := by decide +kernel
theorem dX11_reads_150 : decode cX11_reads 150 = .ok (.aload_n 0, 1) := by decide +kernel
theorem dX11_reads_151 : decode cX11_reads 151 = .ok (.iconst 0, 1) := by decide +kernel
theorem dX11_reads_152 : decode cX11_reads 152 = .ok (.invokevirtual 180, 3) := by decide +kernel
theorem dX11_reads_155 : decode cX11_reads 155 = .ok (.ireturn, 1) := by decide +kernel
theorem dX11_countOf_0 : decode cX11_countOf 0 = .ok (.iconst 0, 1) := by decide +kernel
theorem dX11_countOf_1 : decode cX11_countOf 1 = .ok (.istore_n 2, 1) := by decide +kernel
theorem dX11_countOf_2 : decode cX11_countOf 2 = .ok (.iconst 0, 1) := by decide +kernel
theorem dX11_countOf_3 : decode cX11_countOf 3 = .ok (.istore_n 3, 1) := by decide +kernel
theorem dX11_countOf_4 : decode cX11_countOf 4 = .ok (.iload_n 3, 1) := by decide +kernel
theorem dX11_countOf_5 : decode cX11_countOf 5 = .ok (.aload_n 0, 1) := by decide +kernel
theorem dX11_countOf_6 : decode cX11_countOf 6 = .ok (.getfield 177, 3) := by decide +kernel
theorem dX11_countOf_9 : decode cX11_countOf 9 = .ok (.if_icmp .ge 73, 3) := by decide +kernel
theorem dX11_countOf_12 : decode cX11_countOf 12 = .ok (.iload_n 1, 1) := by decide +kernel
theorem dX11_countOf_13 : decode cX11_countOf 13 = .ok (.ifCond .ne 15, 3) := by decide +kernel
theorem dX11_countOf_16 : decode cX11_countOf 16 = .ok (.aload_n 0, 1) := by decide +kernel
theorem dX11_countOf_17 : decode cX11_countOf 17 = .ok (.getfield 19, 3) := by decide +kernel
theorem dX11_countOf_20 : decode cX11_countOf 20 = .ok (.iload_n 3, 1) := by decide +kernel
theorem dX11_countOf_21 : decode cX11_countOf 21 = .ok (.iaload, 1) := by decide +kernel
theorem dX11_countOf_22 : decode cX11_countOf 22 = .ok (.invokestatic 168, 3) := by decide +kernel
theorem dX11_countOf_25 : decode cX11_countOf 25 = .ok (.goto 36, 3) := by decide +kernel
theorem dX11_countOf_28 : decode cX11_countOf 28 = .ok (.iload_n 1, 1) := by decide +kernel
theorem dX11_countOf_29 : decode cX11_countOf 29 = .ok (.iconst 1, 1) := by decide +kernel
theorem dX11_countOf_30 : decode cX11_countOf 30 = .ok (.if_icmp .ne 22, 3) := by decide +kernel
theorem dX11_countOf_33 : decode cX11_countOf 33 = .ok (.aload_n 0, 1) := by decide +kernel
theorem dX11_countOf_34 : decode cX11_countOf 34 = .ok (.getfield 19, 3) := by decide +kernel
theorem dX11_countOf_37 : decode cX11_countOf 37 = .ok (.iload_n 3, 1) := by decide +kernel
theorem dX11_countOf_38 : decode cX11_countOf 38 = .ok (.iaload, 1) := by decide +kernel
theorem dX11_countOf_39 : decode cX11_countOf 39 = .ok (.bipush 40, 2) := by decide +kernel
theorem dX11_countOf_41 : decode cX11_countOf 41 = .ok (.if_icmp .ne 7, 3) := by decide +kernel
theorem dX11_countOf_44 : decode cX11_countOf 44 = .ok (.iconst 1, 1) := by decide +kernel
theorem dX11_countOf_45 : decode cX11_countOf 45 = .ok (.goto 16, 3) := by decide +kernel
theorem dX11_countOf_48 : decode cX11_countOf 48 = .ok (.iconst 0, 1) := by decide +kernel
theorem dX11_countOf_49 : decode cX11_countOf 49 = .ok (.goto 12, 3) := by decide +kernel
theorem dX11_countOf_52 : decode cX11_countOf 52 = .ok (.aload_n 0, 1) := by decide +kernel
theorem dX11_countOf_53 : decode cX11_countOf 53 = .ok (.getfield 19, 3) := by decide +kernel
theorem dX11_countOf_56 : decode cX11_countOf 56 = .ok (.iload_n 3, 1) := by decide +kernel
theorem dX11_countOf_57 : decode cX11_countOf 57 = .ok (.iaload, 1) := by decide +kernel
theorem dX11_countOf_58 : decode cX11_countOf 58 = .ok (.invokestatic 171, 3) := by decide +kernel
theorem dX11_countOf_61 : decode cX11_countOf 61 = .ok (.istore 4, 2) := by decide +kernel
theorem dX11_countOf_63 : decode cX11_countOf 63 = .ok (.iload_n 2, 1) := by decide +kernel
theorem dX11_countOf_64 : decode cX11_countOf 64 = .ok (.iload 4, 2) := by decide +kernel
theorem dX11_countOf_66 : decode cX11_countOf 66 = .ok (.ifCond .eq 7, 3) := by decide +kernel
theorem dX11_countOf_69 : decode cX11_countOf 69 = .ok (.iconst 1, 1) := by decide +kernel
theorem dX11_countOf_70 : decode cX11_countOf 70 = .ok (.goto 4, 3) := by decide +kernel
theorem dX11_countOf_73 : decode cX11_countOf 73 = .ok (.iconst 0, 1) := by decide +kernel
theorem dX11_countOf_74 : decode cX11_countOf 74 = .ok (.iadd, 1) := by decide +kernel
theorem dX11_countOf_75 : decode cX11_countOf 75 = .ok (.istore_n 2, 1) := by decide +kernel
theorem dX11_countOf_76 : decode cX11_countOf 76 = .ok (.iinc 3 1, 3) := by decide +kernel
theorem dX11_countOf_79 : decode cX11_countOf 79 = .ok (.goto (-75), 3) := by decide +kernel
theorem dX11_countOf_82 : decode cX11_countOf 82 = .ok (.iload_n 2, 1) := by decide +kernel
theorem dX11_countOf_83 : decode cX11_countOf 83 = .ok (.ireturn, 1) := by decide +kernel
theorem dX11_deepest_0 : decode cX11_deepest 0 = .ok (.iconst 0, 1) := by decide +kernel
theorem dX11_deepest_1 : decode cX11_deepest 1 = .ok (.istore_n 1, 1) := by decide +kernel
theorem dX11_deepest_2 : decode cX11_deepest 2 = .ok (.iconst 0, 1) := by decide +kernel
theorem dX11_deepest_3 : decode cX11_deepest 3 = .ok (.istore_n 2, 1) := by decide +kernel
theorem dX11_deepest_4 : decode cX11_deepest 4 = .ok (.iconst 0, 1) := by decide +kernel
theorem dX11_deepest_5 : decode cX11_deepest 5 = .ok (.istore_n 3, 1) := by decide +kernel
theorem dX11_deepest_6 : decode cX11_deepest 6 = .ok (.iload_n 3, 1) := by decide +kernel
theorem dX11_deepest_7 : decode cX11_deepest 7 = .ok (.aload_n 0, 1) := by decide +kernel
theorem dX11_deepest_8 : decode cX11_deepest 8 = .ok (.getfield 177, 3) := by decide +kernel
theorem dX11_deepest_11 : decode cX11_deepest 11 = .ok (.if_icmp .ge 77, 3) := by decide +kernel
theorem dX11_deepest_14 : decode cX11_deepest 14 = .ok (.iload_n 1, 1) := by decide +kernel
theorem dX11_deepest_15 : decode cX11_deepest 15 = .ok (.aload_n 0, 1) := by decide +kernel
theorem dX11_deepest_16 : decode cX11_deepest 16 = .ok (.getfield 19, 3) := by decide +kernel
theorem dX11_deepest_19 : decode cX11_deepest 19 = .ok (.iload_n 3, 1) := by decide +kernel
theorem dX11_deepest_20 : decode cX11_deepest 20 = .ok (.iaload, 1) := by decide +kernel
theorem dX11_deepest_21 : decode cX11_deepest 21 = .ok (.bipush 40, 2) := by decide +kernel
theorem dX11_deepest_23 : decode cX11_deepest 23 = .ok (.if_icmp .eq 15, 3) := by decide +kernel
theorem dX11_deepest_26 : decode cX11_deepest 26 = .ok (.aload_n 0, 1) := by decide +kernel
theorem dX11_deepest_27 : decode cX11_deepest 27 = .ok (.getfield 19, 3) := by decide +kernel
theorem dX11_deepest_30 : decode cX11_deepest 30 = .ok (.iload_n 3, 1) := by decide +kernel
theorem dX11_deepest_31 : decode cX11_deepest 31 = .ok (.iaload, 1) := by decide +kernel
theorem dX11_deepest_32 : decode cX11_deepest 32 = .ok (.invokestatic 171, 3) := by decide +kernel
theorem dX11_deepest_35 : decode cX11_deepest 35 = .ok (.ifCond .eq 7, 3) := by decide +kernel
theorem dX11_deepest_38 : decode cX11_deepest 38 = .ok (.iconst 1, 1) := by decide +kernel
theorem dX11_deepest_39 : decode cX11_deepest 39 = .ok (.goto 30, 3) := by decide +kernel
theorem dX11_deepest_42 : decode cX11_deepest 42 = .ok (.aload_n 0, 1) := by decide +kernel
theorem dX11_deepest_43 : decode cX11_deepest 43 = .ok (.getfield 19, 3) := by decide +kernel
theorem dX11_deepest_46 : decode cX11_deepest 46 = .ok (.iload_n 3, 1) := by decide +kernel
theorem dX11_deepest_47 : decode cX11_deepest 47 = .ok (.iaload, 1) := by decide +kernel
theorem dX11_deepest_48 : decode cX11_deepest 48 = .ok (.bipush 41, 2) := by decide +kernel
theorem dX11_deepest_50 : decode cX11_deepest 50 = .ok (.if_icmp .eq 14, 3) := by decide +kernel
theorem dX11_deepest_53 : decode cX11_deepest 53 = .ok (.aload_n 0, 1) := by decide +kernel
theorem dX11_deepest_54 : decode cX11_deepest 54 = .ok (.getfield 19, 3) := by decide +kernel
theorem dX11_deepest_57 : decode cX11_deepest 57 = .ok (.iload_n 3, 1) := by decide +kernel
theorem dX11_deepest_58 : decode cX11_deepest 58 = .ok (.iaload, 1) := by decide +kernel
theorem dX11_deepest_59 : decode cX11_deepest 59 = .ok (.bipush 93, 2) := by decide +kernel
theorem dX11_deepest_61 : decode cX11_deepest 61 = .ok (.if_icmp .ne 7, 3) := by decide +kernel
theorem dX11_deepest_64 : decode cX11_deepest 64 = .ok (.iconst (-1), 1) := by decide +kernel
theorem dX11_deepest_65 : decode cX11_deepest 65 = .ok (.goto 4, 3) := by decide +kernel
theorem dX11_deepest_68 : decode cX11_deepest 68 = .ok (.iconst 0, 1) := by decide +kernel
theorem dX11_deepest_69 : decode cX11_deepest 69 = .ok (.iadd, 1) := by decide +kernel
theorem dX11_deepest_70 : decode cX11_deepest 70 = .ok (.istore_n 1, 1) := by decide +kernel
theorem dX11_deepest_71 : decode cX11_deepest 71 = .ok (.iload_n 1, 1) := by decide +kernel
theorem dX11_deepest_72 : decode cX11_deepest 72 = .ok (.iload_n 2, 1) := by decide +kernel
theorem dX11_deepest_73 : decode cX11_deepest 73 = .ok (.if_icmp .le 7, 3) := by decide +kernel
theorem dX11_deepest_76 : decode cX11_deepest 76 = .ok (.iload_n 1, 1) := by decide +kernel
theorem dX11_deepest_77 : decode cX11_deepest 77 = .ok (.goto 4, 3) := by decide +kernel
theorem dX11_deepest_80 : decode cX11_deepest 80 = .ok (.iload_n 2, 1) := by decide +kernel
theorem dX11_deepest_81 : decode cX11_deepest 81 = .ok (.istore_n 2, 1) := by decide +kernel
theorem dX11_deepest_82 : decode cX11_deepest 82 = .ok (.iinc 3 1, 3) := by decide +kernel
theorem dX11_deepest_85 : decode cX11_deepest 85 = .ok (.goto (-79), 3) := by decide +kernel
theorem dX11_deepest_88 : decode cX11_deepest 88 = .ok (.iload_n 2, 1) := by decide +kernel
theorem dX11_deepest_89 : decode cX11_deepest 89 = .ok (.ireturn, 1) := by decide +kernel
theorem dX11_linesIn_0 : decode cX11_linesIn 0 = .ok (.iconst 0, 1) := by decide +kernel
theorem dX11_linesIn_1 : decode cX11_linesIn 1 = .ok (.istore_n 3, 1) := by decide +kernel
theorem dX11_linesIn_2 : decode cX11_linesIn 2 = .ok (.iload_n 1, 1) := by decide +kernel
theorem dX11_linesIn_3 : decode cX11_linesIn 3 = .ok (.istore 4, 2) := by decide +kernel
theorem dX11_linesIn_5 : decode cX11_linesIn 5 = .ok (.iload 4, 2) := by decide +kernel
theorem dX11_linesIn_7 : decode cX11_linesIn 7 = .ok (.iload_n 2, 1) := by decide +kernel
theorem dX11_linesIn_8 : decode cX11_linesIn 8 = .ok (.if_icmp .ge 41, 3) := by decide +kernel
theorem dX11_linesIn_11 : decode cX11_linesIn 11 = .ok (.iload_n 3, 1) := by decide +kernel
theorem dX11_linesIn_12 : decode cX11_linesIn 12 = .ok (.aload_n 0, 1) := by decide +kernel
theorem dX11_linesIn_13 : decode cX11_linesIn 13 = .ok (.getfield 19, 3) := by decide +kernel
theorem dX11_linesIn_16 : decode cX11_linesIn 16 = .ok (.iload 4, 2) := by decide +kernel
theorem dX11_linesIn_18 : decode cX11_linesIn 18 = .ok (.iaload, 1) := by decide +kernel
theorem dX11_linesIn_19 : decode cX11_linesIn 19 = .ok (.invokestatic 168, 3) := by decide +kernel
theorem dX11_linesIn_22 : decode cX11_linesIn 22 = .ok (.ifCond .eq 18, 3) := by decide +kernel
theorem dX11_linesIn_25 : decode cX11_linesIn 25 = .ok (.iconst 1, 1) := by decide +kernel
theorem dX11_linesIn_26 : decode cX11_linesIn 26 = .ok (.aload_n 0, 1) := by decide +kernel
theorem dX11_linesIn_27 : decode cX11_linesIn 27 = .ok (.getfield 19, 3) := by decide +kernel
theorem dX11_linesIn_30 : decode cX11_linesIn 30 = .ok (.iload 4, 2) := by decide +kernel
theorem dX11_linesIn_32 : decode cX11_linesIn 32 = .ok (.iaload, 1) := by decide +kernel
theorem dX11_linesIn_33 : decode cX11_linesIn 33 = .ok (.bipush 97, 2) := by decide +kernel
theorem dX11_linesIn_35 : decode cX11_linesIn 35 = .ok (.isub, 1) := by decide +kernel
theorem dX11_linesIn_36 : decode cX11_linesIn 36 = .ok (.ishl, 1) := by decide +kernel
theorem dX11_linesIn_37 : decode cX11_linesIn 37 = .ok (.goto 4, 3) := by decide +kernel
theorem dX11_linesIn_40 : decode cX11_linesIn 40 = .ok (.iconst 0, 1) := by decide +kernel
theorem dX11_linesIn_41 : decode cX11_linesIn 41 = .ok (.ior, 1) := by decide +kernel
theorem dX11_linesIn_42 : decode cX11_linesIn 42 = .ok (.istore_n 3, 1) := by decide +kernel
theorem dX11_linesIn_43 : decode cX11_linesIn 43 = .ok (.iinc 4 1, 3) := by decide +kernel
theorem dX11_linesIn_46 : decode cX11_linesIn 46 = .ok (.goto (-41), 3) := by decide +kernel
theorem dX11_linesIn_49 : decode cX11_linesIn 49 = .ok (.iload_n 3, 1) := by decide +kernel
theorem dX11_linesIn_50 : decode cX11_linesIn 50 = .ok (.ireturn, 1) := by decide +kernel
theorem dX11_bits_0 : decode cX11_bits 0 = .ok (.iconst 0, 1) := by decide +kernel
theorem dX11_bits_1 : decode cX11_bits 1 = .ok (.istore_n 1, 1) := by decide +kernel
theorem dX11_bits_2 : decode cX11_bits 2 = .ok (.iload_n 0, 1) := by decide +kernel
theorem dX11_bits_3 : decode cX11_bits 3 = .ok (.istore_n 2, 1) := by decide +kernel
theorem dX11_bits_4 : decode cX11_bits 4 = .ok (.iload_n 2, 1) := by decide +kernel
theorem dX11_bits_5 : decode cX11_bits 5 = .ok (.ifCond .le 16, 3) := by decide +kernel
theorem dX11_bits_8 : decode cX11_bits 8 = .ok (.iload_n 1, 1) := by decide +kernel
theorem dX11_bits_9 : decode cX11_bits 9 = .ok (.iload_n 2, 1) := by decide +kernel
theorem dX11_bits_10 : decode cX11_bits 10 = .ok (.iconst 1, 1) := by decide +kernel
theorem dX11_bits_11 : decode cX11_bits 11 = .ok (.iand, 1) := by decide +kernel
theorem dX11_bits_12 : decode cX11_bits 12 = .ok (.iadd, 1) := by decide +kernel
theorem dX11_bits_13 : decode cX11_bits 13 = .ok (.istore_n 1, 1) := by decide +kernel
theorem dX11_bits_14 : decode cX11_bits 14 = .ok (.iload_n 2, 1) := by decide +kernel
theorem dX11_bits_15 : decode cX11_bits 15 = .ok (.iconst 1, 1) := by decide +kernel
theorem dX11_bits_16 : decode cX11_bits 16 = .ok (.ishr, 1) := by decide +kernel
theorem dX11_bits_17 : decode cX11_bits 17 = .ok (.istore_n 2, 1) := by decide +kernel
theorem dX11_bits_18 : decode cX11_bits 18 = .ok (.goto (-14), 3) := by decide +kernel
theorem dX11_bits_21 : decode cX11_bits 21 = .ok (.iload_n 1, 1) := by decide +kernel
theorem dX11_bits_22 : decode cX11_bits 22 = .ok (.ireturn, 1) := by decide +kernel
theorem dX11_toldOf_0 : decode cX11_toldOf 0 = .ok (.iload_n 1, 1) := by decide +kernel
theorem dX11_toldOf_1 : decode cX11_toldOf 1 = .ok (.iconst 3, 1) := by decide +kernel
theorem dX11_toldOf_2 : decode cX11_toldOf 2 = .ok (.if_icmp .ge 11, 3) := by decide +kernel
theorem dX11_toldOf_5 : decode cX11_toldOf 5 = .ok (.aload_n 0, 1) := by decide +kernel
theorem dX11_toldOf_6 : decode cX11_toldOf 6 = .ok (.iload_n 1, 1) := by decide +kernel
theorem dX11_toldOf_7 : decode cX11_toldOf 7 = .ok (.invokevirtual 180, 3) := by decide +kernel
theorem dX11_toldOf_10 : decode cX11_toldOf 10 = .ok (.goto 24, 3) := by decide +kernel
theorem dX11_toldOf_13 : decode cX11_toldOf 13 = .ok (.iload_n 1, 1) := by decide +kernel
theorem dX11_toldOf_14 : decode cX11_toldOf 14 = .ok (.iconst 3, 1) := by decide +kernel
theorem dX11_toldOf_15 : decode cX11_toldOf 15 = .ok (.if_icmp .ne 10, 3) := by decide +kernel
theorem dX11_toldOf_18 : decode cX11_toldOf 18 = .ok (.aload_n 0, 1) := by decide +kernel
theorem dX11_toldOf_19 : decode cX11_toldOf 19 = .ok (.invokevirtual 183, 3) := by decide +kernel
theorem dX11_toldOf_22 : decode cX11_toldOf 22 = .ok (.goto 12, 3) := by decide +kernel
theorem dX11_toldOf_25 : decode cX11_toldOf 25 = .ok (.aload_n 0, 1) := by decide +kernel
theorem dX11_toldOf_26 : decode cX11_toldOf 26 = .ok (.iconst 0, 1) := by decide +kernel
theorem dX11_toldOf_27 : decode cX11_toldOf 27 = .ok (.aload_n 0, 1) := by decide +kernel
theorem dX11_toldOf_28 : decode cX11_toldOf 28 = .ok (.getfield 177, 3) := by decide +kernel
theorem dX11_toldOf_31 : decode cX11_toldOf 31 = .ok (.invokevirtual 186, 3) := by decide +kernel
theorem dX11_toldOf_34 : decode cX11_toldOf 34 = .ok (.ireturn, 1) := by decide +kernel
theorem dX11_told_0 : decode cX11_told 0 = .ok (.iload_n 1, 1) := by decide +kernel
theorem dX11_told_1 : decode cX11_told 1 = .ok (.i2l, 1) := by decide +kernel
theorem dX11_told_2 : decode cX11_told 2 = .ok (.lconst 0, 1) := by decide +kernel
theorem dX11_told_3 : decode cX11_told 3 = .ok (.ldc2_w 189, 3) := by decide +kernel
theorem dX11_told_6 : decode cX11_told 6 = .ok (.invokestatic 89, 3) := by decide +kernel
theorem dX11_told_9 : decode cX11_told 9 = .ok (.ifCond .eq 11, 3) := by decide +kernel
theorem dX11_told_12 : decode cX11_told 12 = .ok (.aload_n 0, 1) := by decide +kernel
theorem dX11_told_13 : decode cX11_told 13 = .ok (.iload_n 1, 1) := by decide +kernel
theorem dX11_told_14 : decode cX11_told 14 = .ok (.invokevirtual 191, 3) := by decide +kernel
theorem dX11_told_17 : decode cX11_told 17 = .ok (.goto 7, 3) := by decide +kernel
theorem dX11_told_20 : decode cX11_told 20 = .ok (.aload_n 0, 1) := by decide +kernel
theorem dX11_told_21 : decode cX11_told 21 = .ok (.invokevirtual 120, 3) := by decide +kernel
theorem dX11_told_24 : decode cX11_told 24 = .ok (.ireturn, 1) := by decide +kernel
theorem dX11_looksAt_0 : decode cX11_looksAt 0 = .ok (.aload_n 0, 1) := by decide +kernel
theorem dX11_looksAt_1 : decode cX11_looksAt 1 = .ok (.getfield 19, 3) := by decide +kernel
theorem dX11_looksAt_4 : decode cX11_looksAt 4 = .ok (.iload_n 1, 1) := by decide +kernel
theorem dX11_looksAt_5 : decode cX11_looksAt 5 = .ok (.iaload, 1) := by decide +kernel
theorem dX11_looksAt_6 : decode cX11_looksAt 6 = .ok (.bipush 97, 2) := by decide +kernel
theorem dX11_looksAt_8 : decode cX11_looksAt 8 = .ok (.isub, 1) := by decide +kernel
theorem dX11_looksAt_9 : decode cX11_looksAt 9 = .ok (.istore_n 2, 1) := by decide +kernel
theorem dX11_looksAt_10 : decode cX11_looksAt 10 = .ok (.aload_n 0, 1) := by decide +kernel
theorem dX11_looksAt_11 : decode cX11_looksAt 11 = .ok (.getfield 41, 3) := by decide +kernel
theorem dX11_looksAt_14 : decode cX11_looksAt 14 = .ok (.iload_n 2, 1) := by decide +kernel
theorem dX11_looksAt_15 : decode cX11_looksAt 15 = .ok (.iaload, 1) := by decide +kernel
theorem dX11_looksAt_16 : decode cX11_looksAt 16 = .ok (.istore_n 3, 1) := by decide +kernel
theorem dX11_looksAt_17 : decode cX11_looksAt 17 = .ok (.aload_n 0, 1) := by decide +kernel
theorem dX11_looksAt_18 : decode cX11_looksAt 18 = .ok (.getfield 41, 3) := by decide +kernel
theorem dX11_looksAt_21 : decode cX11_looksAt 21 = .ok (.bipush 6, 2) := by decide +kernel
theorem dX11_looksAt_23 : decode cX11_looksAt 23 = .ok (.iload_n 2, 1) := by decide +kernel
theorem dX11_looksAt_24 : decode cX11_looksAt 24 = .ok (.iadd, 1) := by decide +kernel
theorem dX11_looksAt_25 : decode cX11_looksAt 25 = .ok (.iaload, 1) := by decide +kernel
theorem dX11_looksAt_26 : decode cX11_looksAt 26 = .ok (.istore 4, 2) := by decide +kernel
theorem dX11_looksAt_28 : decode cX11_looksAt 28 = .ok (.aload_n 0, 1) := by decide +kernel
theorem dX11_looksAt_29 : decode cX11_looksAt 29 = .ok (.getfield 7, 3) := by decide +kernel
theorem dX11_looksAt_32 : decode cX11_looksAt 32 = .ok (.iconst 4, 1) := by decide +kernel
theorem dX11_looksAt_33 : decode cX11_looksAt 33 = .ok (.iaload, 1) := by decide +kernel
theorem dX11_looksAt_34 : decode cX11_looksAt 34 = .ok (.istore 5, 2) := by decide +kernel
theorem dX11_looksAt_36 : decode cX11_looksAt 36 = .ok (.aload_n 0, 1) := by decide +kernel
theorem dX11_looksAt_37 : decode cX11_looksAt 37 = .ok (.getfield 50, 3) := by decide +kernel
theorem dX11_looksAt_40 : decode cX11_looksAt 40 = .ok (.iload_n 1, 1) := by decide +kernel
theorem dX11_looksAt_41 : decode cX11_looksAt 41 = .ok (.iload_n 3, 1) := by decide +kernel
theorem dX11_looksAt_42 : decode cX11_looksAt 42 = .ok (.iastore, 1) := by decide +kernel
theorem dX11_looksAt_43 : decode cX11_looksAt 43 = .ok (.aload_n 0, 1) := by decide +kernel
theorem dX11_looksAt_44 : decode cX11_looksAt 44 = .ok (.getfield 53, 3) := by decide +kernel
theorem dX11_looksAt_47 : decode cX11_looksAt 47 = .ok (.iload_n 1, 1) := by decide +kernel
theorem dX11_looksAt_48 : decode cX11_looksAt 48 = .ok (.iload 4, 2) := by decide +kernel
theorem dX11_looksAt_50 : decode cX11_looksAt 50 = .ok (.iastore, 1) := by decide +kernel
theorem dX11_looksAt_51 : decode cX11_looksAt 51 = .ok (.iconst 0, 1) := by decide +kernel
theorem dX11_looksAt_52 : decode cX11_looksAt 52 = .ok (.istore 6, 2) := by decide +kernel
theorem dX11_looksAt_54 : decode cX11_looksAt 54 = .ok (.iload 6, 2) := by decide +kernel
theorem dX11_looksAt_56 : decode cX11_looksAt 56 = .ok (.bipush 6, 2) := by decide +kernel
theorem dX11_looksAt_58 : decode cX11_looksAt 58 = .ok (.if_icmp .ge 101, 3) := by decide +kernel
theorem dX11_looksAt_61 : decode cX11_looksAt 61 = .ok (.iload 6, 2) := by decide +kernel
theorem dX11_looksAt_63 : decode cX11_looksAt 63 = .ok (.iload_n 2, 1) := by decide +kernel
theorem dX11_looksAt_64 : decode cX11_looksAt 64 = .ok (.if_icmp .eq 89, 3) := by decide +kernel
theorem dX11_looksAt_67 : decode cX11_looksAt 67 = .ok (.aload_n 0, 1) := by decide +kernel
theorem dX11_looksAt_68 : decode cX11_looksAt 68 = .ok (.getfield 41, 3) := by decide +kernel
theorem dX11_looksAt_71 : decode cX11_looksAt 71 = .ok (.iload 6, 2) := by decide +kernel
theorem dX11_looksAt_73 : decode cX11_looksAt 73 = .ok (.dup2, 1) := by decide +kernel
theorem dX11_looksAt_74 : decode cX11_looksAt 74 = .ok (.iaload, 1) := by decide +kernel
theorem dX11_looksAt_75 : decode cX11_looksAt 75 = .ok (.aload_n 0, 1) := by decide +kernel
theorem dX11_looksAt_76 : decode cX11_looksAt 76 = .ok (.getfield 41, 3) := by decide +kernel
theorem dX11_looksAt_79 : decode cX11_looksAt 79 = .ok (.iload 6, 2) := by decide +kernel
theorem dX11_looksAt_81 : decode cX11_looksAt 81 = .ok (.iaload, 1) := by decide +kernel
theorem dX11_looksAt_82 : decode cX11_looksAt 82 = .ok (.iload_n 3, 1) := by decide +kernel
theorem dX11_looksAt_83 : decode cX11_looksAt 83 = .ok (.if_icmp .ge 7, 3) := by decide +kernel
theorem dX11_looksAt_86 : decode cX11_looksAt 86 = .ok (.iconst 1, 1) := by decide +kernel
theorem dX11_looksAt_87 : decode cX11_looksAt 87 = .ok (.goto 4, 3) := by decide +kernel
theorem dX11_looksAt_90 : decode cX11_looksAt 90 = .ok (.iconst 0, 1) := by decide +kernel
theorem dX11_looksAt_91 : decode cX11_looksAt 91 = .ok (.iadd, 1) := by decide +kernel
theorem dX11_looksAt_92 : decode cX11_looksAt 92 = .ok (.iastore, 1) := by decide +kernel
theorem dX11_looksAt_93 : decode cX11_looksAt 93 = .ok (.aload_n 0, 1) := by decide +kernel
theorem dX11_looksAt_94 : decode cX11_looksAt 94 = .ok (.getfield 41, 3) := by decide +kernel
theorem dX11_looksAt_97 : decode cX11_looksAt 97 = .ok (.bipush 6, 2) := by decide +kernel
theorem dX11_looksAt_99 : decode cX11_looksAt 99 = .ok (.iload 6, 2) := by decide +kernel
theorem dX11_looksAt_101 : decode cX11_looksAt 101 = .ok (.iadd, 1) := by decide +kernel
theorem dX11_looksAt_102 : decode cX11_looksAt 102 = .ok (.iaload, 1) := by decide +kernel
theorem dX11_looksAt_103 : decode cX11_looksAt 103 = .ok (.iload 4, 2) := by decide +kernel
theorem dX11_looksAt_105 : decode cX11_looksAt 105 = .ok (.if_icmp .gt 22, 3) := by decide +kernel
theorem dX11_looksAt_108 : decode cX11_looksAt 108 = .ok (.aload_n 0, 1) := by decide +kernel
theorem dX11_looksAt_109 : decode cX11_looksAt 109 = .ok (.getfield 41, 3) := by decide +kernel
theorem dX11_looksAt_112 : decode cX11_looksAt 112 = .ok (.bipush 6, 2) := by decide +kernel
theorem dX11_looksAt_114 : decode cX11_looksAt 114 = .ok (.iload 6, 2) := by decide +kernel
theorem dX11_looksAt_116 : decode cX11_looksAt 116 = .ok (.iadd, 1) := by decide +kernel
theorem dX11_looksAt_117 : decode cX11_looksAt 117 = .ok (.iaload, 1) := by decide +kernel
theorem dX11_looksAt_118 : decode cX11_looksAt 118 = .ok (.iload 5, 2) := by decide +kernel
theorem dX11_looksAt_120 : decode cX11_looksAt 120 = .ok (.if_icmp .ge 7, 3) := by decide +kernel
theorem dX11_looksAt_123 : decode cX11_looksAt 123 = .ok (.iconst 1, 1) := by decide +kernel
theorem dX11_looksAt_124 : decode cX11_looksAt 124 = .ok (.goto 4, 3) := by decide +kernel
theorem dX11_looksAt_127 : decode cX11_looksAt 127 = .ok (.iconst 0, 1) := by decide +kernel
theorem dX11_looksAt_128 : decode cX11_looksAt 128 = .ok (.istore 7, 2) := by decide +kernel
theorem dX11_looksAt_130 : decode cX11_looksAt 130 = .ok (.aload_n 0, 1) := by decide +kernel
theorem dX11_looksAt_131 : decode cX11_looksAt 131 = .ok (.getfield 41, 3) := by decide +kernel
theorem dX11_looksAt_134 : decode cX11_looksAt 134 = .ok (.bipush 6, 2) := by decide +kernel
theorem dX11_looksAt_136 : decode cX11_looksAt 136 = .ok (.iload 6, 2) := by decide +kernel
theorem dX11_looksAt_138 : decode cX11_looksAt 138 = .ok (.iadd, 1) := by decide +kernel
theorem dX11_looksAt_139 : decode cX11_looksAt 139 = .ok (.dup2, 1) := by decide +kernel
theorem dX11_looksAt_140 : decode cX11_looksAt 140 = .ok (.iaload, 1) := by decide +kernel
theorem dX11_looksAt_141 : decode cX11_looksAt 141 = .ok (.iload 7, 2) := by decide +kernel
theorem dX11_looksAt_143 : decode cX11_looksAt 143 = .ok (.ifCond .eq 7, 3) := by decide +kernel
theorem dX11_looksAt_146 : decode cX11_looksAt 146 = .ok (.iconst 1, 1) := by decide +kernel
theorem dX11_looksAt_147 : decode cX11_looksAt 147 = .ok (.goto 4, 3) := by decide +kernel
theorem dX11_looksAt_150 : decode cX11_looksAt 150 = .ok (.iconst 0, 1) := by decide +kernel
theorem dX11_looksAt_151 : decode cX11_looksAt 151 = .ok (.iadd, 1) := by decide +kernel
theorem dX11_looksAt_152 : decode cX11_looksAt 152 = .ok (.iastore, 1) := by decide +kernel
theorem dX11_looksAt_153 : decode cX11_looksAt 153 = .ok (.iinc 6 1, 3) := by decide +kernel
theorem dX11_looksAt_156 : decode cX11_looksAt 156 = .ok (.goto (-102), 3) := by decide +kernel
theorem dX11_looksAt_159 : decode cX11_looksAt 159 = .ok (.aload_n 0, 1) := by decide +kernel
theorem dX11_looksAt_160 : decode cX11_looksAt 160 = .ok (.getfield 41, 3) := by decide +kernel
theorem dX11_looksAt_163 : decode cX11_looksAt 163 = .ok (.iload_n 2, 1) := by decide +kernel
theorem dX11_looksAt_164 : decode cX11_looksAt 164 = .ok (.iconst 0, 1) := by decide +kernel
theorem dX11_looksAt_165 : decode cX11_looksAt 165 = .ok (.iastore, 1) := by decide +kernel
theorem dX11_looksAt_166 : decode cX11_looksAt 166 = .ok (.aload_n 0, 1) := by decide +kernel
theorem dX11_looksAt_167 : decode cX11_looksAt 167 = .ok (.getfield 41, 3) := by decide +kernel
theorem dX11_looksAt_170 : decode cX11_looksAt 170 = .ok (.bipush 6, 2) := by decide +kernel
theorem dX11_looksAt_172 : decode cX11_looksAt 172 = .ok (.iload_n 2, 1) := by decide +kernel
theorem dX11_looksAt_173 : decode cX11_looksAt 173 = .ok (.iadd, 1) := by decide +kernel
theorem dX11_looksAt_174 : decode cX11_looksAt 174 = .ok (.iconst 0, 1) := by decide +kernel
theorem dX11_looksAt_175 : decode cX11_looksAt 175 = .ok (.iastore, 1) := by decide +kernel
theorem dX11_looksAt_176 : decode cX11_looksAt 176 = .ok (.return_, 1) := by decide +kernel
theorem dX11_saves_0 : decode cX11_saves 0 = .ok (.iconst 0, 1) := by decide +kernel
theorem dX11_saves_1 : decode cX11_saves 1 = .ok (.istore_n 3, 1) := by decide +kernel
theorem dX11_saves_2 : decode cX11_saves 2 = .ok (.iload_n 3, 1) := by decide +kernel
theorem dX11_saves_3 : decode cX11_saves 3 = .ok (.bipush 12, 2) := by decide +kernel
theorem dX11_saves_5 : decode cX11_saves 5 = .ok (.if_icmp .ge 23, 3) := by decide +kernel
theorem dX11_saves_8 : decode cX11_saves 8 = .ok (.aload_n 1, 1) := by decide +kernel
theorem dX11_saves_9 : decode cX11_saves 9 = .ok (.bipush 12, 2) := by decide +kernel
theorem dX11_saves_11 : decode cX11_saves 11 = .ok (.iload_n 2, 1) := by decide +kernel
theorem dX11_saves_12 : decode cX11_saves 12 = .ok (.imul, 1) := by decide +kernel
theorem dX11_saves_13 : decode cX11_saves 13 = .ok (.iload_n 3, 1) := by decide +kernel
theorem dX11_saves_14 : decode cX11_saves 14 = .ok (.iadd, 1) := by decide +kernel
theorem dX11_saves_15 : decode cX11_saves 15 = .ok (.aload_n 0, 1) := by decide +kernel
theorem dX11_saves_16 : decode cX11_saves 16 = .ok (.getfield 41, 3) := by decide +kernel
theorem dX11_saves_19 : decode cX11_saves 19 = .ok (.iload_n 3, 1) := by decide +kernel
theorem dX11_saves_20 : decode cX11_saves 20 = .ok (.iaload, 1) := by decide +kernel
theorem dX11_saves_21 : decode cX11_saves 21 = .ok (.iastore, 1) := by decide +kernel
theorem dX11_saves_22 : decode cX11_saves 22 = .ok (.iinc 3 1, 3) := by decide +kernel
theorem dX11_saves_25 : decode cX11_saves 25 = .ok (.goto (-23), 3) := by decide +kernel
theorem dX11_saves_28 : decode cX11_saves 28 = .ok (.return_, 1) := by decide +kernel
theorem dX11_brings_0 : decode cX11_brings 0 = .ok (.iconst 0, 1) := by decide +kernel
theorem dX11_brings_1 : decode cX11_brings 1 = .ok (.istore_n 3, 1) := by decide +kernel
theorem dX11_brings_2 : decode cX11_brings 2 = .ok (.iload_n 3, 1) := by decide +kernel
theorem dX11_brings_3 : decode cX11_brings 3 = .ok (.bipush 12, 2) := by decide +kernel
theorem dX11_brings_5 : decode cX11_brings 5 = .ok (.if_icmp .ge 23, 3) := by decide +kernel
theorem dX11_brings_8 : decode cX11_brings 8 = .ok (.aload_n 0, 1) := by decide +kernel
theorem dX11_brings_9 : decode cX11_brings 9 = .ok (.getfield 41, 3) := by decide +kernel
theorem dX11_brings_12 : decode cX11_brings 12 = .ok (.iload_n 3, 1) := by decide +kernel
theorem dX11_brings_13 : decode cX11_brings 13 = .ok (.aload_n 1, 1) := by decide +kernel
theorem dX11_brings_14 : decode cX11_brings 14 = .ok (.bipush 12, 2) := by decide +kernel
theorem dX11_brings_16 : decode cX11_brings 16 = .ok (.iload_n 2, 1) := by decide +kernel
theorem dX11_brings_17 : decode cX11_brings 17 = .ok (.imul, 1) := by decide +kernel
theorem dX11_brings_18 : decode cX11_brings 18 = .ok (.iload_n 3, 1) := by decide +kernel
theorem dX11_brings_19 : decode cX11_brings 19 = .ok (.iadd, 1) := by decide +kernel
theorem dX11_brings_20 : decode cX11_brings 20 = .ok (.iaload, 1) := by decide +kernel
theorem dX11_brings_21 : decode cX11_brings 21 = .ok (.iastore, 1) := by decide +kernel
theorem dX11_brings_22 : decode cX11_brings 22 = .ok (.iinc 3 1, 3) := by decide +kernel
theorem dX11_brings_25 : decode cX11_brings 25 = .ok (.goto (-23), 3) := by decide +kernel
theorem dX11_brings_28 : decode cX11_brings 28 = .ok (.return_, 1) := by decide +kernel
theorem dX11_together_0 : decode cX11_together 0 = .ok (.iload_n 1, 1) := by decide +kernel
theorem dX11_together_1 : decode cX11_together 1 = .ok (.iload_n 2, 1) := by decide +kernel
theorem dX11_together_2 : decode cX11_together 2 = .ok (.if_icmp .le 7, 3) := by decide +kernel
theorem dX11_together_5 : decode cX11_together 5 = .ok (.iconst 1, 1) := by decide +kernel
theorem dX11_together_6 : decode cX11_together 6 = .ok (.goto 4, 3) := by decide +kernel
theorem dX11_together_9 : decode cX11_together 9 = .ok (.iconst 0, 1) := by decide +kernel
theorem dX11_together_10 : decode cX11_together 10 = .ok (.istore_n 3, 1) := by decide +kernel
theorem dX11_together_11 : decode cX11_together 11 = .ok (.iload_n 0, 1) := by decide +kernel
theorem dX11_together_12 : decode cX11_together 12 = .ok (.bipush 6, 2) := by decide +kernel
theorem dX11_together_14 : decode cX11_together 14 = .ok (.if_icmp .ge 7, 3) := by decide +kernel
theorem dX11_together_17 : decode cX11_together 17 = .ok (.iconst 1, 1) := by decide +kernel
theorem dX11_together_18 : decode cX11_together 18 = .ok (.goto 4, 3) := by decide +kernel
theorem dX11_together_21 : decode cX11_together 21 = .ok (.iconst 0, 1) := by decide +kernel
theorem dX11_together_22 : decode cX11_together 22 = .ok (.iload_n 3, 1) := by decide +kernel
theorem dX11_together_23 : decode cX11_together 23 = .ok (.if_icmp .ne 7, 3) := by decide +kernel
theorem dX11_together_26 : decode cX11_together 26 = .ok (.iload_n 1, 1) := by decide +kernel
theorem dX11_together_27 : decode cX11_together 27 = .ok (.goto 4, 3) := by decide +kernel
theorem dX11_together_30 : decode cX11_together 30 = .ok (.iload_n 2, 1) := by decide +kernel
theorem dX11_together_31 : decode cX11_together 31 = .ok (.ireturn, 1) := by decide +kernel
theorem dX11_follows_0 : decode cX11_follows 0 = .ok (.iconst 0, 1) := by decide +kernel
theorem dX11_follows_1 : decode cX11_follows 1 = .ok (.istore_n 1, 1) := by decide +kernel
theorem dX11_follows_2 : decode cX11_follows 2 = .ok (.iconst 0, 1) := by decide +kernel
theorem dX11_follows_3 : decode cX11_follows 3 = .ok (.istore_n 2, 1) := by decide +kernel
theorem dX11_follows_4 : decode cX11_follows 4 = .ok (.iload_n 2, 1) := by decide +kernel
theorem dX11_follows_5 : decode cX11_follows 5 = .ok (.bipush 12, 2) := by decide +kernel
theorem dX11_follows_7 : decode cX11_follows 7 = .ok (.if_icmp .ge 21, 3) := by decide +kernel
theorem dX11_follows_10 : decode cX11_follows 10 = .ok (.aload_n 0, 1) := by decide +kernel
theorem dX11_follows_11 : decode cX11_follows 11 = .ok (.getfield 41, 3) := by decide +kernel
theorem dX11_follows_14 : decode cX11_follows 14 = .ok (.iload_n 2, 1) := by decide +kernel
theorem dX11_follows_15 : decode cX11_follows 15 = .ok (.aload_n 0, 1) := by decide +kernel
theorem dX11_follows_16 : decode cX11_follows 16 = .ok (.getfield 7, 3) := by decide +kernel
theorem dX11_follows_19 : decode cX11_follows 19 = .ok (.iconst 4, 1) := by decide +kernel
theorem dX11_follows_20 : decode cX11_follows 20 = .ok (.iaload, 1) := by decide +kernel
theorem dX11_follows_21 : decode cX11_follows 21 = .ok (.iastore, 1) := by decide +kernel
theorem dX11_follows_22 : decode cX11_follows 22 = .ok (.iinc 2 1, 3) := by decide +kernel
theorem dX11_follows_25 : decode cX11_follows 25 = .ok (.goto (-21), 3) := by decide +kernel
theorem dX11_follows_28 : decode cX11_follows 28 = .ok (.iconst 0, 1) := by decide +kernel
theorem dX11_follows_29 : decode cX11_follows 29 = .ok (.istore_n 2, 1) := by decide +kernel
theorem dX11_follows_30 : decode cX11_follows 30 = .ok (.iload_n 2, 1) := by decide +kernel
theorem dX11_follows_31 : decode cX11_follows 31 = .ok (.aload_n 0, 1) := by decide +kernel
theorem dX11_follows_32 : decode cX11_follows 32 = .ok (.getfield 177, 3) := by decide +kernel
theorem dX11_follows_35 : decode cX11_follows 35 = .ok (.if_icmp .ge 272, 3) := by decide +kernel
theorem dX11_follows_38 : decode cX11_follows 38 = .ok (.aload_n 0, 1) := by decide +kernel
theorem dX11_follows_39 : decode cX11_follows 39 = .ok (.getfield 19, 3) := by decide +kernel
theorem dX11_follows_42 : decode cX11_follows 42 = .ok (.iload_n 2, 1) := by decide +kernel
theorem dX11_follows_43 : decode cX11_follows 43 = .ok (.iaload, 1) := by decide +kernel
theorem dX11_follows_44 : decode cX11_follows 44 = .ok (.istore_n 3, 1) := by decide +kernel
theorem dX11_follows_45 : decode cX11_follows 45 = .ok (.iload_n 2, 1) := by decide +kernel
theorem dX11_follows_46 : decode cX11_follows 46 = .ok (.iconst 1, 1) := by decide +kernel
theorem dX11_follows_47 : decode cX11_follows 47 = .ok (.iadd, 1) := by decide +kernel
theorem dX11_follows_48 : decode cX11_follows 48 = .ok (.istore 4, 2) := by decide +kernel
theorem dX11_follows_50 : decode cX11_follows 50 = .ok (.iload_n 3, 1) := by decide +kernel
theorem dX11_follows_51 : decode cX11_follows 51 = .ok (.invokestatic 168, 3) := by decide +kernel
theorem dX11_follows_54 : decode cX11_follows 54 = .ok (.ifCond .eq 11, 3) := by decide +kernel
theorem dX11_follows_57 : decode cX11_follows 57 = .ok (.aload_n 0, 1) := by decide +kernel
theorem dX11_follows_58 : decode cX11_follows 58 = .ok (.iload_n 2, 1) := by decide +kernel
theorem dX11_follows_59 : decode cX11_follows 59 = .ok (.invokevirtual 194, 3) := by decide +kernel
theorem dX11_follows_62 : decode cX11_follows 62 = .ok (.goto 239, 3) := by decide +kernel
theorem dX11_follows_65 : decode cX11_follows 65 = .ok (.iload_n 3, 1) := by decide +kernel
theorem dX11_follows_66 : decode cX11_follows 66 = .ok (.bipush 40, 2) := by decide +kernel
theorem dX11_follows_68 : decode cX11_follows 68 = .ok (.if_icmp .eq 10, 3) := by decide +kernel
theorem dX11_follows_71 : decode cX11_follows 71 = .ok (.iload_n 3, 1) := by decide +kernel
theorem dX11_follows_72 : decode cX11_follows 72 = .ok (.invokestatic 171, 3) := by decide +kernel
theorem dX11_follows_75 : decode cX11_follows 75 = .ok (.ifCond .eq 18, 3) := by decide +kernel
theorem dX11_follows_78 : decode cX11_follows 78 = .ok (.aload_n 0, 1) := by decide +kernel
theorem dX11_follows_79 : decode cX11_follows 79 = .ok (.aload_n 0, 1) := by decide +kernel
theorem dX11_follows_80 : decode cX11_follows 80 = .ok (.getfield 44, 3) := by decide +kernel
theorem dX11_follows_83 : decode cX11_follows 83 = .ok (.iload_n 1, 1) := by decide +kernel
theorem dX11_follows_84 : decode cX11_follows 84 = .ok (.invokevirtual 197, 3) := by decide +kernel
theorem dX11_follows_87 : decode cX11_follows 87 = .ok (.iinc 1 1, 3) := by decide +kernel
theorem dX11_follows_90 : decode cX11_follows 90 = .ok (.goto 211, 3) := by decide +kernel
theorem dX11_follows_93 : decode cX11_follows 93 = .ok (.iload_n 3, 1) := by decide +kernel
theorem dX11_follows_94 : decode cX11_follows 94 = .ok (.bipush 124, 2) := by decide +kernel
theorem dX11_follows_96 : decode cX11_follows 96 = .ok (.if_icmp .ne 28, 3) := by decide +kernel
theorem dX11_follows_99 : decode cX11_follows 99 = .ok (.aload_n 0, 1) := by decide +kernel
theorem dX11_follows_100 : decode cX11_follows 100 = .ok (.aload_n 0, 1) := by decide +kernel
theorem dX11_follows_101 : decode cX11_follows 101 = .ok (.getfield 47, 3) := by decide +kernel
theorem dX11_follows_104 : decode cX11_follows 104 = .ok (.iload_n 1, 1) := by decide +kernel
theorem dX11_follows_105 : decode cX11_follows 105 = .ok (.iconst 1, 1) := by decide +kernel
theorem dX11_follows_106 : decode cX11_follows 106 = .ok (.isub, 1) := by decide +kernel
theorem dX11_follows_107 : decode cX11_follows 107 = .ok (.invokevirtual 197, 3) := by decide +kernel
theorem dX11_follows_110 : decode cX11_follows 110 = .ok (.aload_n 0, 1) := by decide +kernel
theorem dX11_follows_111 : decode cX11_follows 111 = .ok (.aload_n 0, 1) := by decide +kernel
theorem dX11_follows_112 : decode cX11_follows 112 = .ok (.getfield 44, 3) := by decide +kernel
theorem dX11_follows_115 : decode cX11_follows 115 = .ok (.iload_n 1, 1) := by decide +kernel
theorem dX11_follows_116 : decode cX11_follows 116 = .ok (.iconst 1, 1) := by decide +kernel
theorem dX11_follows_117 : decode cX11_follows 117 = .ok (.isub, 1) := by decide +kernel
theorem dX11_follows_118 : decode cX11_follows 118 = .ok (.invokevirtual 201, 3) := by decide +kernel
theorem dX11_follows_121 : decode cX11_follows 121 = .ok (.goto 180, 3) := by decide +kernel
theorem dX11_follows_124 : decode cX11_follows 124 = .ok (.iload_n 3, 1) := by decide +kernel
theorem dX11_follows_125 : decode cX11_follows 125 = .ok (.bipush 41, 2) := by decide +kernel
theorem dX11_follows_127 : decode cX11_follows 127 = .ok (.if_icmp .ne 56, 3) := by decide +kernel
theorem dX11_follows_130 : decode cX11_follows 130 = .ok (.iinc 1 (-1), 3) := by decide +kernel
theorem dX11_follows_133 : decode cX11_follows 133 = .ok (.iconst 0, 1) := by decide +kernel
theorem dX11_follows_134 : decode cX11_follows 134 = .ok (.istore 5, 2) := by decide +kernel
theorem dX11_follows_136 : decode cX11_follows 136 = .ok (.iload 5, 2) := by decide +kernel
theorem dX11_follows_138 : decode cX11_follows 138 = .ok (.bipush 12, 2) := by decide +kernel
theorem dX11_follows_140 : decode cX11_follows 140 = .ok (.if_icmp .ge 40, 3) := by decide +kernel
theorem dX11_follows_143 : decode cX11_follows 143 = .ok (.aload_n 0, 1) := by decide +kernel
theorem dX11_follows_144 : decode cX11_follows 144 = .ok (.getfield 41, 3) := by decide +kernel
theorem dX11_follows_147 : decode cX11_follows 147 = .ok (.iload 5, 2) := by decide +kernel
theorem dX11_follows_149 : decode cX11_follows 149 = .ok (.iload 5, 2) := by decide +kernel
theorem dX11_follows_151 : decode cX11_follows 151 = .ok (.aload_n 0, 1) := by decide +kernel
theorem dX11_follows_152 : decode cX11_follows 152 = .ok (.getfield 41, 3) := by decide +kernel
theorem dX11_follows_155 : decode cX11_follows 155 = .ok (.iload 5, 2) := by decide +kernel
theorem dX11_follows_157 : decode cX11_follows 157 = .ok (.iaload, 1) := by decide +kernel
theorem dX11_follows_158 : decode cX11_follows 158 = .ok (.aload_n 0, 1) := by decide +kernel
theorem dX11_follows_159 : decode cX11_follows 159 = .ok (.getfield 47, 3) := by decide +kernel
theorem dX11_follows_162 : decode cX11_follows 162 = .ok (.bipush 12, 2) := by decide +kernel
theorem dX11_follows_164 : decode cX11_follows 164 = .ok (.iload_n 1, 1) := by decide +kernel
theorem dX11_follows_165 : decode cX11_follows 165 = .ok (.imul, 1) := by decide +kernel
theorem dX11_follows_166 : decode cX11_follows 166 = .ok (.iload 5, 2) := by decide +kernel
theorem dX11_follows_168 : decode cX11_follows 168 = .ok (.iadd, 1) := by decide +kernel
theorem dX11_follows_169 : decode cX11_follows 169 = .ok (.iaload, 1) := by decide +kernel
theorem dX11_follows_170 : decode cX11_follows 170 = .ok (.invokestatic 204, 3) := by decide +kernel
theorem dX11_follows_173 : decode cX11_follows 173 = .ok (.iastore, 1) := by decide +kernel
theorem dX11_follows_174 : decode cX11_follows 174 = .ok (.iinc 5 1, 3) := by decide +kernel
theorem dX11_follows_177 : decode cX11_follows 177 = .ok (.goto (-41), 3) := by decide +kernel
theorem dX11_follows_180 : decode cX11_follows 180 = .ok (.goto 121, 3) := by decide +kernel
theorem dX11_follows_183 : decode cX11_follows 183 = .ok (.iload_n 3, 1) := by decide +kernel
theorem dX11_follows_184 : decode cX11_follows 184 = .ok (.bipush 93, 2) := by decide +kernel
theorem dX11_follows_186 : decode cX11_follows 186 = .ok (.if_icmp .ne 115, 3) := by decide +kernel
theorem dX11_follows_189 : decode cX11_follows 189 = .ok (.iconst 0, 1) := by decide +kernel
theorem dX11_follows_190 : decode cX11_follows 190 = .ok (.istore 5, 2) := by decide +kernel
theorem dX11_follows_192 : decode cX11_follows 192 = .ok (.iconst 0, 1) := by decide +kernel
theorem dX11_follows_193 : decode cX11_follows 193 = .ok (.istore 6, 2) := by decide +kernel
theorem dX11_follows_195 : decode cX11_follows 195 = .ok (.iload 6, 2) := by decide +kernel
theorem dX11_follows_197 : decode cX11_follows 197 = .ok (.bipush 12, 2) := by decide +kernel
theorem dX11_follows_199 : decode cX11_follows 199 = .ok (.if_icmp .ge 70, 3) := by decide +kernel
theorem dX11_follows_202 : decode cX11_follows 202 = .ok (.aload_n 0, 1) := by decide +kernel
theorem dX11_follows_203 : decode cX11_follows 203 = .ok (.getfield 44, 3) := by decide +kernel
theorem dX11_follows_206 : decode cX11_follows 206 = .ok (.bipush 12, 2) := by decide +kernel
theorem dX11_follows_208 : decode cX11_follows 208 = .ok (.iload_n 1, 1) := by decide +kernel
theorem dX11_follows_209 : decode cX11_follows 209 = .ok (.iconst 1, 1) := by decide +kernel
theorem dX11_follows_210 : decode cX11_follows 210 = .ok (.isub, 1) := by decide +kernel
theorem dX11_follows_211 : decode cX11_follows 211 = .ok (.imul, 1) := by decide +kernel
theorem dX11_follows_212 : decode cX11_follows 212 = .ok (.iload 6, 2) := by decide +kernel
theorem dX11_follows_214 : decode cX11_follows 214 = .ok (.iadd, 1) := by decide +kernel
theorem dX11_follows_215 : decode cX11_follows 215 = .ok (.iaload, 1) := by decide +kernel
theorem dX11_follows_216 : decode cX11_follows 216 = .ok (.istore 7, 2) := by decide +kernel
theorem dX11_follows_218 : decode cX11_follows 218 = .ok (.aload_n 0, 1) := by decide +kernel
theorem dX11_follows_219 : decode cX11_follows 219 = .ok (.getfield 41, 3) := by decide +kernel
theorem dX11_follows_222 : decode cX11_follows 222 = .ok (.iload 6, 2) := by decide +kernel
theorem dX11_follows_224 : decode cX11_follows 224 = .ok (.iload 6, 2) := by decide +kernel
theorem dX11_follows_226 : decode cX11_follows 226 = .ok (.aload_n 0, 1) := by decide +kernel
theorem dX11_follows_227 : decode cX11_follows 227 = .ok (.getfield 41, 3) := by decide +kernel
theorem dX11_follows_230 : decode cX11_follows 230 = .ok (.iload 6, 2) := by decide +kernel
theorem dX11_follows_232 : decode cX11_follows 232 = .ok (.iaload, 1) := by decide +kernel
theorem dX11_follows_233 : decode cX11_follows 233 = .ok (.iload 7, 2) := by decide +kernel
theorem dX11_follows_235 : decode cX11_follows 235 = .ok (.invokestatic 204, 3) := by decide +kernel
theorem dX11_follows_238 : decode cX11_follows 238 = .ok (.iastore, 1) := by decide +kernel
theorem dX11_follows_239 : decode cX11_follows 239 = .ok (.iload 5, 2) := by decide +kernel
theorem dX11_follows_241 : decode cX11_follows 241 = .ok (.ifCond .ne 15, 3) := by decide +kernel
theorem dX11_follows_244 : decode cX11_follows 244 = .ok (.aload_n 0, 1) := by decide +kernel
theorem dX11_follows_245 : decode cX11_follows 245 = .ok (.getfield 41, 3) := by decide +kernel
theorem dX11_follows_248 : decode cX11_follows 248 = .ok (.iload 6, 2) := by decide +kernel
theorem dX11_follows_250 : decode cX11_follows 250 = .ok (.iaload, 1) := by decide +kernel
theorem dX11_follows_251 : decode cX11_follows 251 = .ok (.iload 7, 2) := by decide +kernel
theorem dX11_follows_253 : decode cX11_follows 253 = .ok (.if_icmp .eq 7, 3) := by decide +kernel
theorem dX11_follows_256 : decode cX11_follows 256 = .ok (.iconst 1, 1) := by decide +kernel
theorem dX11_follows_257 : decode cX11_follows 257 = .ok (.goto 4, 3) := by decide +kernel
theorem dX11_follows_260 : decode cX11_follows 260 = .ok (.iconst 0, 1) := by decide +kernel
theorem dX11_follows_261 : decode cX11_follows 261 = .ok (.istore 5, 2) := by decide +kernel
theorem dX11_follows_263 : decode cX11_follows 263 = .ok (.iinc 6 1, 3) := by decide +kernel
theorem dX11_follows_266 : decode cX11_follows 266 = .ok (.goto (-71), 3) := by decide +kernel
theorem dX11_follows_269 : decode cX11_follows 269 = .ok (.iload 5, 2) := by decide +kernel
theorem dX11_follows_271 : decode cX11_follows 271 = .ok (.ifCond .eq 27, 3) := by decide +kernel
theorem dX11_follows_274 : decode cX11_follows 274 = .ok (.aload_n 0, 1) := by decide +kernel
theorem dX11_follows_275 : decode cX11_follows 275 = .ok (.aload_n 0, 1) := by decide +kernel
theorem dX11_follows_276 : decode cX11_follows 276 = .ok (.getfield 44, 3) := by decide +kernel
theorem dX11_follows_279 : decode cX11_follows 279 = .ok (.iload_n 1, 1) := by decide +kernel
theorem dX11_follows_280 : decode cX11_follows 280 = .ok (.iconst 1, 1) := by decide +kernel
theorem dX11_follows_281 : decode cX11_follows 281 = .ok (.isub, 1) := by decide +kernel
theorem dX11_follows_282 : decode cX11_follows 282 = .ok (.invokevirtual 197, 3) := by decide +kernel
theorem dX11_follows_285 : decode cX11_follows 285 = .ok (.aload_n 0, 1) := by decide +kernel
theorem dX11_follows_286 : decode cX11_follows 286 = .ok (.getfield 22, 3) := by decide +kernel
theorem dX11_follows_289 : decode cX11_follows 289 = .ok (.iload_n 2, 1) := by decide +kernel
theorem dX11_follows_290 : decode cX11_follows 290 = .ok (.iaload, 1) := by decide +kernel
theorem dX11_follows_291 : decode cX11_follows 291 = .ok (.iconst 1, 1) := by decide +kernel
theorem dX11_follows_292 : decode cX11_follows 292 = .ok (.iadd, 1) := by decide +kernel
theorem dX11_follows_293 : decode cX11_follows 293 = .ok (.istore 4, 2) := by decide +kernel
theorem dX11_follows_295 : decode cX11_follows 295 = .ok (.goto 6, 3) := by decide +kernel
theorem dX11_follows_298 : decode cX11_follows 298 = .ok (.iinc 1 (-1), 3) := by decide +kernel
theorem dX11_follows_301 : decode cX11_follows 301 = .ok (.iload 4, 2) := by decide +kernel
theorem dX11_follows_303 : decode cX11_follows 303 = .ok (.istore_n 2, 1) := by decide +kernel
theorem dX11_follows_304 : decode cX11_follows 304 = .ok (.goto (-274), 3) := by decide +kernel
theorem dX11_follows_307 : decode cX11_follows 307 = .ok (.return_, 1) := by decide +kernel
theorem dX11_lookAt_0 : decode cX11_lookAt 0 = .ok (.iload_n 1, 1) := by decide +kernel
theorem dX11_lookAt_1 : decode cX11_lookAt 1 = .ok (.istore_n 2, 1) := by decide +kernel
theorem dX11_lookAt_2 : decode cX11_lookAt 2 = .ok (.iconst 0, 1) := by decide +kernel
theorem dX11_lookAt_3 : decode cX11_lookAt 3 = .ok (.istore_n 3, 1) := by decide +kernel
theorem dX11_lookAt_4 : decode cX11_lookAt 4 = .ok (.aload_n 0, 1) := by decide +kernel
theorem dX11_lookAt_5 : decode cX11_lookAt 5 = .ok (.getfield 19, 3) := by decide +kernel
theorem dX11_lookAt_8 : decode cX11_lookAt 8 = .ok (.iload_n 3, 1) := by decide +kernel
theorem dX11_lookAt_9 : decode cX11_lookAt 9 = .ok (.iaload, 1) := by decide +kernel
theorem dX11_lookAt_10 : decode cX11_lookAt 10 = .ok (.invokestatic 168, 3) := by decide +kernel
theorem dX11_lookAt_13 : decode cX11_lookAt 13 = .ok (.ifCond .eq 7, 3) := by decide +kernel
theorem dX11_lookAt_16 : decode cX11_lookAt 16 = .ok (.iload_n 2, 1) := by decide +kernel
theorem dX11_lookAt_17 : decode cX11_lookAt 17 = .ok (.ifCond .le 29, 3) := by decide +kernel
theorem dX11_lookAt_20 : decode cX11_lookAt 20 = .ok (.iload_n 2, 1) := by decide +kernel
theorem dX11_lookAt_21 : decode cX11_lookAt 21 = .ok (.aload_n 0, 1) := by decide +kernel
theorem dX11_lookAt_22 : decode cX11_lookAt 22 = .ok (.getfield 19, 3) := by decide +kernel
theorem dX11_lookAt_25 : decode cX11_lookAt 25 = .ok (.iload_n 3, 1) := by decide +kernel
theorem dX11_lookAt_26 : decode cX11_lookAt 26 = .ok (.iaload, 1) := by decide +kernel
theorem dX11_lookAt_27 : decode cX11_lookAt 27 = .ok (.invokestatic 168, 3) := by decide +kernel
theorem dX11_lookAt_30 : decode cX11_lookAt 30 = .ok (.ifCond .eq 7, 3) := by decide +kernel
theorem dX11_lookAt_33 : decode cX11_lookAt 33 = .ok (.iconst 1, 1) := by decide +kernel
theorem dX11_lookAt_34 : decode cX11_lookAt 34 = .ok (.goto 4, 3) := by decide +kernel
theorem dX11_lookAt_37 : decode cX11_lookAt 37 = .ok (.iconst 0, 1) := by decide +kernel
theorem dX11_lookAt_38 : decode cX11_lookAt 38 = .ok (.isub, 1) := by decide +kernel
theorem dX11_lookAt_39 : decode cX11_lookAt 39 = .ok (.istore_n 2, 1) := by decide +kernel
theorem dX11_lookAt_40 : decode cX11_lookAt 40 = .ok (.iinc 3 1, 3) := by decide +kernel
theorem dX11_lookAt_43 : decode cX11_lookAt 43 = .ok (.goto (-39), 3) := by decide +kernel
theorem dX11_lookAt_46 : decode cX11_lookAt 46 = .ok (.iload_n 3, 1) := by decide +kernel
theorem dX11_lookAt_47 : decode cX11_lookAt 47 = .ok (.ireturn, 1) := by decide +kernel
theorem dX11_loopAround_0 : decode cX11_loopAround 0 = .ok (.iconst (-1), 1) := by decide +kernel
theorem dX11_loopAround_1 : decode cX11_loopAround 1 = .ok (.istore_n 2, 1) := by decide +kernel
theorem dX11_loopAround_2 : decode cX11_loopAround 2 = .ok (.iconst 0, 1) := by decide +kernel
theorem dX11_loopAround_3 : decode cX11_loopAround 3 = .ok (.istore_n 3, 1) := by decide +kernel
theorem dX11_loopAround_4 : decode cX11_loopAround 4 = .ok (.iload_n 3, 1) := by decide +kernel
theorem dX11_loopAround_5 : decode cX11_loopAround 5 = .ok (.iload_n 1, 1) := by decide +kernel
theorem dX11_loopAround_6 : decode cX11_loopAround 6 = .ok (.if_icmp .ge 37, 3) := by decide +kernel
theorem dX11_loopAround_9 : decode cX11_loopAround 9 = .ok (.aload_n 0, 1) := by decide +kernel
theorem dX11_loopAround_10 : decode cX11_loopAround 10 = .ok (.getfield 19, 3) := by decide +kernel
theorem dX11_loopAround_13 : decode cX11_loopAround 13 = .ok (.iload_n 3, 1) := by decide +kernel
theorem dX11_loopAround_14 : decode cX11_loopAround 14 = .ok (.iaload, 1) := by decide +kernel
theorem dX11_loopAround_15 : decode cX11_loopAround 15 = .ok (.invokestatic 171, 3) := by decide +kernel
theorem dX11_loopAround_18 : decode cX11_loopAround 18 = .ok (.ifCond .eq 17, 3) := by decide +kernel
theorem dX11_loopAround_21 : decode cX11_loopAround 21 = .ok (.aload_n 0, 1) := by decide +kernel
theorem dX11_loopAround_22 : decode cX11_loopAround 22 = .ok (.getfield 22, 3) := by decide +kernel
theorem dX11_loopAround_25 : decode cX11_loopAround 25 = .ok (.iload_n 3, 1) := by decide +kernel
theorem dX11_loopAround_26 : decode cX11_loopAround 26 = .ok (.iaload, 1) := by decide +kernel
theorem dX11_loopAround_27 : decode cX11_loopAround 27 = .ok (.iload_n 1, 1) := by decide +kernel
theorem dX11_loopAround_28 : decode cX11_loopAround 28 = .ok (.if_icmp .le 7, 3) := by decide +kernel
theorem dX11_loopAround_31 : decode cX11_loopAround 31 = .ok (.iload_n 3, 1) := by decide +kernel
theorem dX11_loopAround_32 : decode cX11_loopAround 32 = .ok (.goto 4, 3) := by decide +kernel
theorem dX11_loopAround_35 : decode cX11_loopAround 35 = .ok (.iload_n 2, 1) := by decide +kernel
theorem dX11_loopAround_36 : decode cX11_loopAround 36 = .ok (.istore_n 2, 1) := by decide +kernel
theorem dX11_loopAround_37 : decode cX11_loopAround 37 = .ok (.iinc 3 1, 3) := by decide +kernel
theorem dX11_loopAround_40 : decode cX11_loopAround 40 = .ok (.goto (-36), 3) := by decide +kernel
theorem dX11_loopAround_43 : decode cX11_loopAround 43 = .ok (.iload_n 2, 1) := by decide +kernel
theorem dX11_loopAround_44 : decode cX11_loopAround 44 = .ok (.ireturn, 1) := by decide +kernel
theorem dX11_sureOf_0 : decode cX11_sureOf 0 = .ok (.aload_n 0, 1) := by decide +kernel
theorem dX11_sureOf_1 : decode cX11_sureOf 1 = .ok (.getfield 50, 3) := by decide +kernel
theorem dX11_sureOf_4 : decode cX11_sureOf 4 = .ok (.iload_n 1, 1) := by decide +kernel
theorem dX11_sureOf_5 : decode cX11_sureOf 5 = .ok (.iaload, 1) := by decide +kernel
theorem dX11_sureOf_6 : decode cX11_sureOf 6 = .ok (.aload_n 0, 1) := by decide +kernel
theorem dX11_sureOf_7 : decode cX11_sureOf 7 = .ok (.getfield 7, 3) := by decide +kernel
theorem dX11_sureOf_10 : decode cX11_sureOf 10 = .ok (.iconst 4, 1) := by decide +kernel
theorem dX11_sureOf_11 : decode cX11_sureOf 11 = .ok (.iaload, 1) := by decide +kernel
theorem dX11_sureOf_12 : decode cX11_sureOf 12 = .ok (.if_icmp .ge 7, 3) := by decide +kernel
theorem dX11_sureOf_15 : decode cX11_sureOf 15 = .ok (.iconst 1, 1) := by decide +kernel
theorem dX11_sureOf_16 : decode cX11_sureOf 16 = .ok (.goto 23, 3) := by decide +kernel
theorem dX11_sureOf_19 : decode cX11_sureOf 19 = .ok (.aload_n 0, 1) := by decide +kernel
theorem dX11_sureOf_20 : decode cX11_sureOf 20 = .ok (.getfield 53, 3) := by decide +kernel
theorem dX11_sureOf_23 : decode cX11_sureOf 23 = .ok (.iload_n 1, 1) := by decide +kernel
theorem dX11_sureOf_24 : decode cX11_sureOf 24 = .ok (.iaload, 1) := by decide +kernel
theorem dX11_sureOf_25 : decode cX11_sureOf 25 = .ok (.aload_n 0, 1) := by decide +kernel
theorem dX11_sureOf_26 : decode cX11_sureOf 26 = .ok (.getfield 7, 3) := by decide +kernel
theorem dX11_sureOf_29 : decode cX11_sureOf 29 = .ok (.iconst 4, 1) := by decide +kernel
theorem dX11_sureOf_30 : decode cX11_sureOf 30 = .ok (.iaload, 1) := by decide +kernel
theorem dX11_sureOf_31 : decode cX11_sureOf 31 = .ok (.if_icmp .ne 7, 3) := by decide +kernel
theorem dX11_sureOf_34 : decode cX11_sureOf 34 = .ok (.iconst 2, 1) := by decide +kernel
theorem dX11_sureOf_35 : decode cX11_sureOf 35 = .ok (.goto 4, 3) := by decide +kernel
theorem dX11_sureOf_38 : decode cX11_sureOf 38 = .ok (.iconst 0, 1) := by decide +kernel
theorem dX11_sureOf_39 : decode cX11_sureOf 39 = .ok (.ireturn, 1) := by decide +kernel
theorem dX11_isKept_0 : decode cX11_isKept 0 = .ok (.aload_n 0, 1) := by decide +kernel
theorem dX11_isKept_1 : decode cX11_isKept 1 = .ok (.iload_n 1, 1) := by decide +kernel
theorem dX11_isKept_2 : decode cX11_isKept 2 = .ok (.invokevirtual 207, 3) := by decide +kernel
theorem dX11_isKept_5 : decode cX11_isKept 5 = .ok (.istore_n 2, 1) := by decide +kernel
theorem dX11_isKept_6 : decode cX11_isKept 6 = .ok (.aload_n 0, 1) := by decide +kernel
theorem dX11_isKept_7 : decode cX11_isKept 7 = .ok (.iload_n 1, 1) := by decide +kernel
theorem dX11_isKept_8 : decode cX11_isKept 8 = .ok (.invokevirtual 210, 3) := by decide +kernel
theorem dX11_isKept_11 : decode cX11_isKept 11 = .ok (.iconst 1, 1) := by decide +kernel
theorem dX11_isKept_12 : decode cX11_isKept 12 = .ok (.if_icmp .eq 35, 3) := by decide +kernel
theorem dX11_isKept_15 : decode cX11_isKept 15 = .ok (.iload_n 2, 1) := by decide +kernel
theorem dX11_isKept_16 : decode cX11_isKept 16 = .ok (.iconst (-1), 1) := by decide +kernel
theorem dX11_isKept_17 : decode cX11_isKept 17 = .ok (.if_icmp .eq 30, 3) := by decide +kernel
theorem dX11_isKept_20 : decode cX11_isKept 20 = .ok (.aload_n 0, 1) := by decide +kernel
theorem dX11_isKept_21 : decode cX11_isKept 21 = .ok (.iload_n 2, 1) := by decide +kernel
theorem dX11_isKept_22 : decode cX11_isKept 22 = .ok (.aload_n 0, 1) := by decide +kernel
theorem dX11_isKept_23 : decode cX11_isKept 23 = .ok (.getfield 22, 3) := by decide +kernel
theorem dX11_isKept_26 : decode cX11_isKept 26 = .ok (.iload_n 2, 1) := by decide +kernel
theorem dX11_isKept_27 : decode cX11_isKept 27 = .ok (.iaload, 1) := by decide +kernel
theorem dX11_isKept_28 : decode cX11_isKept 28 = .ok (.invokevirtual 186, 3) := by decide +kernel
theorem dX11_isKept_31 : decode cX11_isKept 31 = .ok (.invokestatic 213, 3) := by decide +kernel
theorem dX11_isKept_34 : decode cX11_isKept 34 = .ok (.aload_n 0, 1) := by decide +kernel
theorem dX11_isKept_35 : decode cX11_isKept 35 = .ok (.getfield 7, 3) := by decide +kernel
theorem dX11_isKept_38 : decode cX11_isKept 38 = .ok (.iconst 4, 1) := by decide +kernel
theorem dX11_isKept_39 : decode cX11_isKept 39 = .ok (.iaload, 1) := by decide +kernel
theorem dX11_isKept_40 : decode cX11_isKept 40 = .ok (.if_icmp .gt 7, 3) := by decide +kernel
theorem dX11_isKept_43 : decode cX11_isKept 43 = .ok (.iconst 1, 1) := by decide +kernel
theorem dX11_isKept_44 : decode cX11_isKept 44 = .ok (.goto 4, 3) := by decide +kernel
theorem dX11_isKept_47 : decode cX11_isKept 47 = .ok (.iconst 0, 1) := by decide +kernel
theorem dX11_isKept_48 : decode cX11_isKept 48 = .ok (.ireturn, 1) := by decide +kernel
theorem dX11_of_0 : decode cX11_of 0 = .ok (.iload_n 1, 1) := by decide +kernel
theorem dX11_of_1 : decode cX11_of 1 = .ok (.i2l, 1) := by decide +kernel
theorem dX11_of_2 : decode cX11_of 2 = .ok (.lconst 0, 1) := by decide +kernel
theorem dX11_of_3 : decode cX11_of 3 = .ok (.aload_n 0, 1) := by decide +kernel
theorem dX11_of_4 : decode cX11_of 4 = .ok (.iconst 0, 1) := by decide +kernel
theorem dX11_of_5 : decode cX11_of 5 = .ok (.invokevirtual 180, 3) := by decide +kernel
theorem dX11_of_8 : decode cX11_of 8 = .ok (.iconst 1, 1) := by decide +kernel
theorem dX11_of_9 : decode cX11_of 9 = .ok (.isub, 1) := by decide +kernel
theorem dX11_of_10 : decode cX11_of 10 = .ok (.i2l, 1) := by decide +kernel
theorem dX11_of_11 : decode cX11_of 11 = .ok (.invokestatic 89, 3) := by decide +kernel
theorem dX11_of_14 : decode cX11_of 14 = .ok (.ifCond .eq 15, 3) := by decide +kernel
theorem dX11_of_17 : decode cX11_of 17 = .ok (.iload_n 2, 1) := by decide +kernel
theorem dX11_of_18 : decode cX11_of 18 = .ok (.i2l, 1) := by decide +kernel
theorem dX11_of_19 : decode cX11_of 19 = .ok (.lconst 0, 1) := by decide +kernel
theorem dX11_of_20 : decode cX11_of 20 = .ok (.ldc2_w 87, 3) := by decide +kernel
theorem dX11_of_23 : decode cX11_of 23 = .ok (.invokestatic 89, 3) := by decide +kernel
theorem dX11_of_26 : decode cX11_of 26 = .ok (.ifCond .ne 8, 3) := by decide +kernel
theorem dX11_of_29 : decode cX11_of 29 = .ok (.aload_n 0, 1) := by decide +kernel
theorem dX11_of_30 : decode cX11_of 30 = .ok (.invokevirtual 120, 3) := by decide +kernel
