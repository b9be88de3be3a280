theorem dX6_init_0 : decode cX6_init 0 = .ok (.aload_n 0, 1) := by decide +kernel
theorem dX6_init_1 : decode cX6_init 1 = .ok (.invokespecial 1, 3) := by decide +kernel
theorem dX6_init_4 : decode cX6_init 4 = .ok (.aload_n 0, 1) := by decide +kernel
theorem dX6_init_5 : decode cX6_init 5 = .ok (.iconst 3, 1) := by decide +kernel
theorem dX6_init_6 : decode cX6_init 6 = .ok (.newarray .int, 2) := by decide +kernel
theorem dX6_init_8 : decode cX6_init 8 = .ok (.putfield 7, 3) := by decide +kernel
theorem dX6_init_11 : decode cX6_init 11 = .ok (.aload_n 0, 1) := by decide +kernel
theorem dX6_init_12 : decode cX6_init 12 = .ok (.bipush 117, 2) := by decide +kernel
theorem dX6_init_14 : decode cX6_init 14 = .ok (.newarray .int, 2) := by decide +kernel
theorem dX6_init_16 : decode cX6_init 16 = .ok (.putfield 13, 3) := by decide +kernel
theorem dX6_init_19 : decode cX6_init 19 = .ok (.aload_n 0, 1) := by decide +kernel
theorem dX6_init_20 : decode cX6_init 20 = .ok (.bipush 9, 2) := by decide +kernel
theorem dX6_init_22 : decode cX6_init 22 = .ok (.newarray .int, 2) := by decide +kernel
theorem dX6_init_24 : decode cX6_init 24 = .ok (.putfield 16, 3) := by decide +kernel
theorem dX6_init_27 : decode cX6_init 27 = .ok (.aload_n 0, 1) := by decide +kernel
theorem dX6_init_28 : decode cX6_init 28 = .ok (.bipush 9, 2) := by decide +kernel
theorem dX6_init_30 : decode cX6_init 30 = .ok (.newarray .int, 2) := by decide +kernel
theorem dX6_init_32 : decode cX6_init 32 = .ok (.putfield 19, 3) := by decide +kernel
theorem dX6_init_35 : decode cX6_init 35 = .ok (.aload_n 0, 1) := by decide +kernel
theorem dX6_init_36 : decode cX6_init 36 = .ok (.bipush 9, 2) := by decide +kernel
theorem dX6_init_38 : decode cX6_init 38 = .ok (.newarray .int, 2) := by decide +kernel
theorem dX6_init_40 : decode cX6_init 40 = .ok (.putfield 22, 3) := by decide +kernel
theorem dX6_init_43 : decode cX6_init 43 = .ok (.aload_n 0, 1) := by decide +kernel
theorem dX6_init_44 : decode cX6_init 44 = .ok (.bipush 9, 2) := by decide +kernel
theorem dX6_init_46 : decode cX6_init 46 = .ok (.newarray .int, 2) := by decide +kernel
theorem dX6_init_48 : decode cX6_init 48 = .ok (.putfield 25, 3) := by decide +kernel
theorem dX6_init_51 : decode cX6_init 51 = .ok (.aload_n 0, 1) := by decide +kernel
theorem dX6_init_52 : decode cX6_init 52 = .ok (.bipush 9, 2) := by decide +kernel
theorem dX6_init_54 : decode cX6_init 54 = .ok (.newarray .int, 2) := by decide +kernel
theorem dX6_init_56 : decode cX6_init 56 = .ok (.putfield 28, 3) := by decide +kernel
theorem dX6_init_59 : decode cX6_init 59 = .ok (.aload_n 0, 1) := by decide +kernel
theorem dX6_init_60 : decode cX6_init 60 = .ok (.bipush 9, 2) := by decide +kernel
theorem dX6_init_62 : decode cX6_init 62 = .ok (.newarray .int, 2) := by decide +kernel
theorem dX6_init_64 : decode cX6_init 64 = .ok (.putfield 31, 3) := by decide +kernel
theorem dX6_init_67 : decode cX6_init 67 = .ok (.aload_n 0, 1) := by decide +kernel
theorem dX6_init_68 : decode cX6_init 68 = .ok (.bipush 7, 2) := by decide +kernel
theorem dX6_init_70 : decode cX6_init 70 = .ok (.newarray .int, 2) := by decide +kernel
theorem dX6_init_72 : decode cX6_init 72 = .ok (.putfield 34, 3) := by decide +kernel
theorem dX6_init_75 : decode cX6_init 75 = .ok (.aload_n 0, 1) := by decide +kernel
theorem dX6_init_76 : decode cX6_init 76 = .ok (.bipush 7, 2) := by decide +kernel
theorem dX6_init_78 : decode cX6_init 78 = .ok (.newarray .int, 2) := by decide +kernel
theorem dX6_init_80 : decode cX6_init 80 = .ok (.putfield 37, 3) := by decide +kernel
theorem dX6_init_83 : decode cX6_init 83 = .ok (.aload_n 0, 1) := by decide +kernel
theorem dX6_init_84 : decode cX6_init 84 = .ok (.bipush 7, 2) := by decide +kernel
theorem dX6_init_86 : decode cX6_init 86 = .ok (.newarray .int, 2) := by decide +kernel
theorem dX6_init_88 : decode cX6_init 88 = .ok (.putfield 40, 3) := by decide +kernel
theorem dX6_init_91 : decode cX6_init 91 = .ok (.aload_n 0, 1) := by decide +kernel
theorem dX6_init_92 : decode cX6_init 92 = .ok (.bipush 7, 2) := by decide +kernel
theorem dX6_init_94 : decode cX6_init 94 = .ok (.newarray .int, 2) := by decide +kernel
theorem dX6_init_96 : decode cX6_init 96 = .ok (.putfield 43, 3) := by decide +kernel
theorem dX6_init_99 : decode cX6_init 99 = .ok (.aload_n 0, 1) := by decide +kernel
theorem dX6_init_100 : decode cX6_init 100 = .ok (.bipush 8, 2) := by decide +kernel
theorem dX6_init_102 : decode cX6_init 102 = .ok (.newarray .int, 2) := by decide +kernel
theorem dX6_init_104 : decode cX6_init 104 = .ok (.putfield 46, 3) := by decide +kernel
theorem dX6_init_107 : decode cX6_init 107 = .ok (.aload_n 0, 1) := by decide +kernel
theorem dX6_init_108 : decode cX6_init 108 = .ok (.bipush 8, 2) := by decide +kernel
theorem dX6_init_110 : decode cX6_init 110 = .ok (.newarray .int, 2) := by decide +kernel
theorem dX6_init_112 : decode cX6_init 112 = .ok (.putfield 49, 3) := by decide +kernel
theorem dX6_init_115 : decode cX6_init 115 = .ok (.aload_n 0, 1) := by decide +kernel
theorem dX6_init_116 : decode cX6_init 116 = .ok (.bipush 8, 2) := by decide +kernel
theorem dX6_init_118 : decode cX6_init 118 = .ok (.newarray .int, 2) := by decide +kernel
theorem dX6_init_120 : decode cX6_init 120 = .ok (.putfield 52, 3) := by decide +kernel
theorem dX6_init_123 : decode cX6_init 123 = .ok (.aload_n 0, 1) := by decide +kernel
theorem dX6_init_124 : decode cX6_init 124 = .ok (.bipush 8, 2) := by decide +kernel
theorem dX6_init_126 : decode cX6_init 126 = .ok (.newarray .int, 2) := by decide +kernel
theorem dX6_init_128 : decode cX6_init 128 = .ok (.putfield 55, 3) := by decide +kernel
theorem dX6_init_131 : decode cX6_init 131 = .ok (.aload_n 0, 1) := by decide +kernel
theorem dX6_init_132 : decode cX6_init 132 = .ok (.bipush 6, 2) := by decide +kernel
theorem dX6_init_134 : decode cX6_init 134 = .ok (.newarray .int, 2) := by decide +kernel
theorem dX6_init_136 : decode cX6_init 136 = .ok (.putfield 58, 3) := by decide +kernel
theorem dX6_init_139 : decode cX6_init 139 = .ok (.aload_n 0, 1) := by decide +kernel
theorem dX6_init_140 : decode cX6_init 140 = .ok (.bipush 6, 2) := by decide +kernel
theorem dX6_init_142 : decode cX6_init 142 = .ok (.newarray .int, 2) := by decide +kernel
theorem dX6_init_144 : decode cX6_init 144 = .ok (.putfield 61, 3) := by decide +kernel
theorem dX6_init_147 : decode cX6_init 147 = .ok (.aload_n 0, 1) := by decide +kernel
theorem dX6_init_148 : decode cX6_init 148 = .ok (.bipush 6, 2) := by decide +kernel
theorem dX6_init_150 : decode cX6_init 150 = .ok (.newarray .int, 2) := by decide +kernel
theorem dX6_init_152 : decode cX6_init 152 = .ok (.putfield 64, 3) := by decide +kernel
theorem dX6_init_155 : decode cX6_init 155 = .ok (.aload_n 0, 1) := by decide +kernel
theorem dX6_init_156 : decode cX6_init 156 = .ok (.bipush 8, 2) := by decide +kernel
theorem dX6_init_158 : decode cX6_init 158 = .ok (.newarray .int, 2) := by decide +kernel
theorem dX6_init_160 : decode cX6_init 160 = .ok (.putfield 67, 3) := by decide +kernel
theorem dX6_init_163 : decode cX6_init 163 = .ok (.aload_n 0, 1) := by decide +kernel
theorem dX6_init_164 : decode cX6_init 164 = .ok (.iconst 2, 1) := by decide +kernel
theorem dX6_init_165 : decode cX6_init 165 = .ok (.newarray .int, 2) := by decide +kernel
theorem dX6_init_167 : decode cX6_init 167 = .ok (.putfield 70, 3) := by decide +kernel
theorem dX6_init_170 : decode cX6_init 170 = .ok (.aload_n 0, 1) := by decide +kernel
theorem dX6_init_171 : decode cX6_init 171 = .ok (.bipush 8, 2) := by decide +kernel
theorem dX6_init_173 : decode cX6_init 173 = .ok (.newarray .int, 2) := by decide +kernel
theorem dX6_init_175 : decode cX6_init 175 = .ok (.putfield 73, 3) := by decide +kernel
theorem dX6_init_178 : decode cX6_init 178 = .ok (.aload_n 0, 1) := by decide +kernel
theorem dX6_init_179 : decode cX6_init 179 = .ok (.bipush 8, 2) := by decide +kernel
theorem dX6_init_181 : decode cX6_init 181 = .ok (.newarray .int, 2) := by decide +kernel
theorem dX6_init_183 : decode cX6_init 183 = .ok (.putfield 76, 3) := by decide +kernel
theorem dX6_init_186 : decode cX6_init 186 = .ok (.aload_n 0, 1) := by decide +kernel
theorem dX6_init_187 : decode cX6_init 187 = .ok (.bipush 8, 2) := by decide +kernel
theorem dX6_init_189 : decode cX6_init 189 = .ok (.newarray .int, 2) := by decide +kernel
theorem dX6_init_191 : decode cX6_init 191 = .ok (.putfield 79, 3) := by decide +kernel
theorem dX6_init_194 : decode cX6_init 194 = .ok (.aload_n 0, 1) := by decide +kernel
theorem dX6_init_195 : decode cX6_init 195 = .ok (.bipush 48, 2) := by decide +kernel
theorem dX6_init_197 : decode cX6_init 197 = .ok (.newarray .int, 2) := by decide +kernel
theorem dX6_init_199 : decode cX6_init 199 = .ok (.putfield 82, 3) := by decide +kernel
theorem dX6_init_202 : decode cX6_init 202 = .ok (.aload_n 0, 1) := by decide +kernel
theorem dX6_init_203 : decode cX6_init 203 = .ok (.iconst 4, 1) := by decide +kernel
theorem dX6_init_204 : decode cX6_init 204 = .ok (.newarray .boolean, 2) := by decide +kernel
theorem dX6_init_206 : decode cX6_init 206 = .ok (.putfield 85, 3) := by decide +kernel
theorem dX6_init_209 : decode cX6_init 209 = .ok (.aload_n 0, 1) := by decide +kernel
theorem dX6_init_210 : decode cX6_init 210 = .ok (.iconst 4, 1) := by decide +kernel
theorem dX6_init_211 : decode cX6_init 211 = .ok (.newarray .int, 2) := by decide +kernel
theorem dX6_init_213 : decode cX6_init 213 = .ok (.putfield 89, 3) := by decide +kernel
theorem dX6_init_216 : decode cX6_init 216 = .ok (.aload_n 0, 1) := by decide +kernel
theorem dX6_init_217 : decode cX6_init 217 = .ok (.iconst 4, 1) := by decide +kernel
theorem dX6_init_218 : decode cX6_init 218 = .ok (.newarray .int, 2) := by decide +kernel
theorem dX6_init_220 : decode cX6_init 220 = .ok (.putfield 92, 3) := by decide +kernel
theorem dX6_init_223 : decode cX6_init 223 = .ok (.aload_n 0, 1) := by decide +kernel
theorem dX6_init_224 : decode cX6_init 224 = .ok (.sipush 240, 3) := by decide +kernel
theorem dX6_init_227 : decode cX6_init 227 = .ok (.newarray .int, 2) := by decide +kernel
theorem dX6_init_229 : decode cX6_init 229 = .ok (.putfield 95, 3) := by decide +kernel
theorem dX6_init_232 : decode cX6_init 232 = .ok (.aload_n 0, 1) := by decide +kernel
theorem dX6_init_233 : decode cX6_init 233 = .ok (.bipush 60, 2) := by decide +kernel
theorem dX6_init_235 : decode cX6_init 235 = .ok (.newarray .int, 2) := by decide +kernel
theorem dX6_init_237 : decode cX6_init 237 = .ok (.putfield 98, 3) := by decide +kernel
theorem dX6_init_240 : decode cX6_init 240 = .ok (.aload_n 0, 1) := by decide +kernel
theorem dX6_init_241 : decode cX6_init 241 = .ok (.bipush 9, 2) := by decide +kernel
theorem dX6_init_243 : decode cX6_init 243 = .ok (.putfield 101, 3) := by decide +kernel
theorem dX6_init_246 : decode cX6_init 246 = .ok (.return_, 1) := by decide +kernel
theorem dX6_in_0 : decode cX6_in 0 = .ok (.iload_n 0, 1) := by decide +kernel
theorem dX6_in_1 : decode cX6_in 1 = .ok (.iload_n 1, 1) := by decide +kernel
theorem dX6_in_2 : decode cX6_in 2 = .ok (.if_icmp .lt 12, 3) := by decide +kernel
theorem dX6_in_5 : decode cX6_in 5 = .ok (.iload_n 0, 1) := by decide +kernel
theorem dX6_in_6 : decode cX6_in 6 = .ok (.iload_n 2, 1) := by decide +kernel
theorem dX6_in_7 : decode cX6_in 7 = .ok (.if_icmp .gt 7, 3) := by decide +kernel
theorem dX6_in_10 : decode cX6_in 10 = .ok (.iconst 1, 1) := by decide +kernel
theorem dX6_in_11 : decode cX6_in 11 = .ok (.goto 4, 3) := by decide +kernel
theorem dX6_in_14 : decode cX6_in 14 = .ok (.iconst 0, 1) := by decide +kernel
theorem dX6_in_15 : decode cX6_in 15 = .ok (.ireturn, 1) := by decide +kernel
theorem dX6_isIn_0 : decode cX6_isIn 0 = .ok (.iload_n 0, 1) := by decide +kernel
theorem dX6_isIn_1 : decode cX6_isIn 1 = .ok (.iload_n 1, 1) := by decide +kernel
theorem dX6_isIn_2 : decode cX6_isIn 2 = .ok (.ishr, 1) := by decide +kernel
theorem dX6_isIn_3 : decode cX6_isIn 3 = .ok (.iconst 1, 1) := by decide +kernel
theorem dX6_isIn_4 : decode cX6_isIn 4 = .ok (.iand, 1) := by decide +kernel
theorem dX6_isIn_5 : decode cX6_isIn 5 = .ok (.iconst 1, 1) := by decide +kernel
theorem dX6_isIn_6 : decode cX6_isIn 6 = .ok (.if_icmp .ne 7, 3) := by decide +kernel
theorem dX6_isIn_9 : decode cX6_isIn 9 = .ok (.iconst 1, 1) := by decide +kernel
theorem dX6_isIn_10 : decode cX6_isIn 10 = .ok (.goto 4, 3) := by decide +kernel
theorem dX6_isIn_13 : decode cX6_isIn 13 = .ok (.iconst 0, 1) := by decide +kernel
theorem dX6_isIn_14 : decode cX6_isIn 14 = .ok (.ireturn, 1) := by decide +kernel
theorem dX6_ones_0 : decode cX6_ones 0 = .ok (.iconst 0, 1) := by decide +kernel
theorem dX6_ones_1 : decode cX6_ones 1 = .ok (.istore_n 1, 1) := by decide +kernel
theorem dX6_ones_2 : decode cX6_ones 2 = .ok (.iconst 0, 1) := by decide +kernel
theorem dX6_ones_3 : decode cX6_ones 3 = .ok (.istore_n 2, 1) := by decide +kernel
theorem dX6_ones_4 : decode cX6_ones 4 = .ok (.iload_n 2, 1) := by decide +kernel
theorem dX6_ones_5 : decode cX6_ones 5 = .ok (.bipush 8, 2) := by decide +kernel
theorem dX6_ones_7 : decode cX6_ones 7 = .ok (.if_icmp .ge 17, 3) := by decide +kernel
theorem dX6_ones_10 : decode cX6_ones 10 = .ok (.iload_n 1, 1) := by decide +kernel
theorem dX6_ones_11 : decode cX6_ones 11 = .ok (.iload_n 0, 1) := by decide +kernel
theorem dX6_ones_12 : decode cX6_ones 12 = .ok (.iload_n 2, 1) := by decide +kernel
theorem dX6_ones_13 : decode cX6_ones 13 = .ok (.ishr, 1) := by decide +kernel
theorem dX6_ones_14 : decode cX6_ones 14 = .ok (.iconst 1, 1) := by decide +kernel
theorem dX6_ones_15 : decode cX6_ones 15 = .ok (.iand, 1) := by decide +kernel
theorem dX6_ones_16 : decode cX6_ones 16 = .ok (.iadd, 1) := by decide +kernel
theorem dX6_ones_17 : decode cX6_ones 17 = .ok (.istore_n 1, 1) := by decide +kernel
theorem dX6_ones_18 : decode cX6_ones 18 = .ok (.iinc 2 1, 3) := by decide +kernel
theorem dX6_ones_21 : decode cX6_ones 21 = .ok (.goto (-17), 3) := by decide +kernel
theorem dX6_ones_24 : decode cX6_ones 24 = .ok (.iload_n 1, 1) := by decide +kernel
theorem dX6_ones_25 : decode cX6_ones 25 = .ok (.ireturn, 1) := by decide +kernel
theorem dX6_no_0 : decode cX6_no 0 = .ok (.ldc2_w 105, 3) := by decide +kernel
theorem dX6_no_3 : decode cX6_no 3 = .ok (.iload_n 0, 1) := by decide +kernel
theorem dX6_no_4 : decode cX6_no 4 = .ok (.i2l, 1) := by decide +kernel
theorem dX6_no_5 : decode cX6_no 5 = .ok (.lsub, 1) := by decide +kernel
theorem dX6_no_6 : decode cX6_no 6 = .ok (.lreturn, 1) := by decide +kernel
theorem dX6_lowest_0 : decode cX6_lowest 0 = .ok (.lload_n 0, 1) := by decide +kernel
theorem dX6_lowest_1 : decode cX6_lowest 1 = .ok (.lstore 5, 2) := by decide +kernel
theorem dX6_lowest_3 : decode cX6_lowest 3 = .ok (.lload_n 2, 1) := by decide +kernel
theorem dX6_lowest_4 : decode cX6_lowest 4 = .ok (.lstore 7, 2) := by decide +kernel
theorem dX6_lowest_6 : decode cX6_lowest 6 = .ok (.lload 7, 2) := by decide +kernel
theorem dX6_lowest_8 : decode cX6_lowest 8 = .ok (.lconst 0, 1) := by decide +kernel
theorem dX6_lowest_9 : decode cX6_lowest 9 = .ok (.lcmp, 1) := by decide +kernel
theorem dX6_lowest_10 : decode cX6_lowest 10 = .ok (.ifCond .eq 21, 3) := by decide +kernel
theorem dX6_lowest_13 : decode cX6_lowest 13 = .ok (.lload 5, 2) := by decide +kernel
theorem dX6_lowest_15 : decode cX6_lowest 15 = .ok (.lload 7, 2) := by decide +kernel
theorem dX6_lowest_17 : decode cX6_lowest 17 = .ok (.lrem, 1) := by decide +kernel
theorem dX6_lowest_18 : decode cX6_lowest 18 = .ok (.lstore 9, 2) := by decide +kernel
theorem dX6_lowest_20 : decode cX6_lowest 20 = .ok (.lload 7, 2) := by decide +kernel
theorem dX6_lowest_22 : decode cX6_lowest 22 = .ok (.lstore 5, 2) := by decide +kernel
theorem dX6_lowest_24 : decode cX6_lowest 24 = .ok (.lload 9, 2) := by decide +kernel
theorem dX6_lowest_26 : decode cX6_lowest 26 = .ok (.lstore 7, 2) := by decide +kernel
theorem dX6_lowest_28 : decode cX6_lowest 28 = .ok (.goto (-22), 3) := by decide +kernel
theorem dX6_lowest_31 : decode cX6_lowest 31 = .ok (.iload 4, 2) := by decide +kernel
theorem dX6_lowest_33 : decode cX6_lowest 33 = .ok (.ifCond .ne 10, 3) := by decide +kernel
theorem dX6_lowest_36 : decode cX6_lowest 36 = .ok (.lload_n 0, 1) := by decide +kernel
theorem dX6_lowest_37 : decode cX6_lowest 37 = .ok (.lload 5, 2) := by decide +kernel
theorem dX6_lowest_39 : decode cX6_lowest 39 = .ok (.ldiv, 1) := by decide +kernel
theorem dX6_lowest_40 : decode cX6_lowest 40 = .ok (.goto 7, 3) := by decide +kernel
theorem dX6_lowest_43 : decode cX6_lowest 43 = .ok (.lload_n 2, 1) := by decide +kernel
theorem dX6_lowest_44 : decode cX6_lowest 44 = .ok (.lload 5, 2) := by decide +kernel
theorem dX6_lowest_46 : decode cX6_lowest 46 = .ok (.ldiv, 1) := by decide +kernel
theorem dX6_lowest_47 : decode cX6_lowest 47 = .ok (.lreturn, 1) := by decide +kernel
theorem dX6_isText_0 : decode cX6_isText 0 = .ok (.iload_n 0, 1) := by decide +kernel
theorem dX6_isText_1 : decode cX6_isText 1 = .ok (.iconst 0, 1) := by decide +kernel
theorem dX6_isText_2 : decode cX6_isText 2 = .ok (.iconst 2, 1) := by decide +kernel
theorem dX6_isText_3 : decode cX6_isText 3 = .ok (.invokestatic 107, 3) := by decide +kernel
theorem dX6_isText_6 : decode cX6_isText 6 = .ok (.ireturn, 1) := by decide +kernel
theorem dX6_isDay_0 : decode cX6_isDay 0 = .ok (.iload_n 0, 1) := by decide +kernel
theorem dX6_isDay_1 : decode cX6_isDay 1 = .ok (.iconst 0, 1) := by decide +kernel
theorem dX6_isDay_2 : decode cX6_isDay 2 = .ok (.bipush 29, 2) := by decide +kernel
theorem dX6_isDay_4 : decode cX6_isDay 4 = .ok (.invokestatic 107, 3) := by decide +kernel
theorem dX6_isDay_7 : decode cX6_isDay 7 = .ok (.ireturn, 1) := by decide +kernel
theorem dX6_type_0 : decode cX6_type 0 = .ok (.iload_n 1, 1) := by decide +kernel
theorem dX6_type_1 : decode cX6_type 1 = .ok (.invokestatic 111, 3) := by decide +kernel
theorem dX6_type_4 : decode cX6_type 4 = .ok (.ifCond .eq 14, 3) := by decide +kernel
theorem dX6_type_7 : decode cX6_type 7 = .ok (.iload_n 2, 1) := by decide +kernel
theorem dX6_type_8 : decode cX6_type 8 = .ok (.iconst 0, 1) := by decide +kernel
theorem dX6_type_9 : decode cX6_type 9 = .ok (.sipush 255, 3) := by decide +kernel
theorem dX6_type_12 : decode cX6_type 12 = .ok (.invokestatic 107, 3) := by decide +kernel
theorem dX6_type_15 : decode cX6_type 15 = .ok (.ifCond .ne 6, 3) := by decide +kernel
theorem dX6_type_18 : decode cX6_type 18 = .ok (.bipush (-2), 2) := by decide +kernel
theorem dX6_type_20 : decode cX6_type 20 = .ok (.ireturn, 1) := by decide +kernel
theorem dX6_type_21 : decode cX6_type 21 = .ok (.aload_n 0, 1) := by decide +kernel
theorem dX6_type_22 : decode cX6_type 22 = .ok (.getfield 7, 3) := by decide +kernel
theorem dX6_type_25 : decode cX6_type 25 = .ok (.iload_n 1, 1) := by decide +kernel
theorem dX6_type_26 : decode cX6_type 26 = .ok (.iaload, 1) := by decide +kernel
theorem dX6_type_27 : decode cX6_type 27 = .ok (.iload_n 1, 1) := by decide +kernel
theorem dX6_type_28 : decode cX6_type 28 = .ok (.ifCond .ne 8, 3) := by decide +kernel
theorem dX6_type_31 : decode cX6_type 31 = .ok (.bipush 39, 2) := by decide +kernel
theorem dX6_type_33 : decode cX6_type 33 = .ok (.goto 15, 3) := by decide +kernel
theorem dX6_type_36 : decode cX6_type 36 = .ok (.iload_n 1, 1) := by decide +kernel
theorem dX6_type_37 : decode cX6_type 37 = .ok (.iconst 1, 1) := by decide +kernel
theorem dX6_type_38 : decode cX6_type 38 = .ok (.if_icmp .ne 8, 3) := by decide +kernel
theorem dX6_type_41 : decode cX6_type 41 = .ok (.bipush 23, 2) := by decide +kernel
theorem dX6_type_43 : decode cX6_type 43 = .ok (.goto 5, 3) := by decide +kernel
theorem dX6_type_46 : decode cX6_type 46 = .ok (.bipush 35, 2) := by decide +kernel
theorem dX6_type_48 : decode cX6_type 48 = .ok (.if_icmp .ne 6, 3) := by decide +kernel
theorem dX6_type_51 : decode cX6_type 51 = .ok (.bipush (-4), 2) := by decide +kernel
theorem dX6_type_53 : decode cX6_type 53 = .ok (.ireturn, 1) := by decide +kernel
theorem dX6_type_54 : decode cX6_type 54 = .ok (.aload_n 0, 1) := by decide +kernel
theorem dX6_type_55 : decode cX6_type 55 = .ok (.getfield 13, 3) := by decide +kernel
theorem dX6_type_58 : decode cX6_type 58 = .ok (.bipush 39, 2) := by decide +kernel
theorem dX6_type_60 : decode cX6_type 60 = .ok (.iload_n 1, 1) := by decide +kernel
theorem dX6_type_61 : decode cX6_type 61 = .ok (.imul, 1) := by decide +kernel
theorem dX6_type_62 : decode cX6_type 62 = .ok (.aload_n 0, 1) := by decide +kernel
theorem dX6_type_63 : decode cX6_type 63 = .ok (.getfield 7, 3) := by decide +kernel
theorem dX6_type_66 : decode cX6_type 66 = .ok (.iload_n 1, 1) := by decide +kernel
theorem dX6_type_67 : decode cX6_type 67 = .ok (.iaload, 1) := by decide +kernel
theorem dX6_type_68 : decode cX6_type 68 = .ok (.iadd, 1) := by decide +kernel
theorem dX6_type_69 : decode cX6_type 69 = .ok (.iload_n 2, 1) := by decide +kernel
theorem dX6_type_70 : decode cX6_type 70 = .ok (.iastore, 1) := by decide +kernel
theorem dX6_type_71 : decode cX6_type 71 = .ok (.aload_n 0, 1) := by decide +kernel
theorem dX6_type_72 : decode cX6_type 72 = .ok (.getfield 7, 3) := by decide +kernel
theorem dX6_type_75 : decode cX6_type 75 = .ok (.iload_n 1, 1) := by decide +kernel
theorem dX6_type_76 : decode cX6_type 76 = .ok (.dup2, 1) := by decide +kernel
theorem dX6_type_77 : decode cX6_type 77 = .ok (.iaload, 1) := by decide +kernel
theorem dX6_type_78 : decode cX6_type 78 = .ok (.iconst 1, 1) := by decide +kernel
theorem dX6_type_79 : decode cX6_type 79 = .ok (.iadd, 1) := by decide +kernel
theorem dX6_type_80 : decode cX6_type 80 = .ok (.iastore, 1) := by decide +kernel
theorem dX6_type_81 : decode cX6_type 81 = .ok (.aload_n 0, 1) := by decide +kernel
theorem dX6_type_82 : decode cX6_type 82 = .ok (.getfield 7, 3) := by decide +kernel
theorem dX6_type_85 : decode cX6_type 85 = .ok (.iload_n 1, 1) := by decide +kernel
theorem dX6_type_86 : decode cX6_type 86 = .ok (.iaload, 1) := by decide +kernel
theorem dX6_type_87 : decode cX6_type 87 = .ok (.ireturn, 1) := by decide +kernel
theorem dX6_wipe_0 : decode cX6_wipe 0 = .ok (.iload_n 1, 1) := by decide +kernel
theorem dX6_wipe_1 : decode cX6_wipe 1 = .ok (.invokestatic 111, 3) := by decide +kernel
theorem dX6_wipe_4 : decode cX6_wipe 4 = .ok (.ifCond .ne 6, 3) := by decide +kernel
theorem dX6_wipe_7 : decode cX6_wipe 7 = .ok (.bipush (-2), 2) := by decide +kernel
theorem dX6_wipe_9 : decode cX6_wipe 9 = .ok (.ireturn, 1) := by decide +kernel
theorem dX6_wipe_10 : decode cX6_wipe 10 = .ok (.aload_n 0, 1) := by decide +kernel
theorem dX6_wipe_11 : decode cX6_wipe 11 = .ok (.getfield 7, 3) := by decide +kernel
theorem dX6_wipe_14 : decode cX6_wipe 14 = .ok (.iload_n 1, 1) := by decide +kernel
theorem dX6_wipe_15 : decode cX6_wipe 15 = .ok (.iaload, 1) := by decide +kernel
theorem dX6_wipe_16 : decode cX6_wipe 16 = .ok (.istore_n 2, 1) := by decide +kernel
theorem dX6_wipe_17 : decode cX6_wipe 17 = .ok (.aload_n 0, 1) := by decide +kernel
theorem dX6_wipe_18 : decode cX6_wipe 18 = .ok (.getfield 7, 3) := by decide +kernel
theorem dX6_wipe_21 : decode cX6_wipe 21 = .ok (.iload_n 1, 1) := by decide +kernel
theorem dX6_wipe_22 : decode cX6_wipe 22 = .ok (.iconst 0, 1) := by decide +kernel
theorem dX6_wipe_23 : decode cX6_wipe 23 = .ok (.iastore, 1) := by decide +kernel
theorem dX6_wipe_24 : decode cX6_wipe 24 = .ok (.iload_n 2, 1) := by decide +kernel
theorem dX6_wipe_25 : decode cX6_wipe 25 = .ok (.ireturn, 1) := by decide +kernel
theorem dX6_undo_0 : decode cX6_undo 0 = .ok (.iload_n 1, 1) := by decide +kernel
theorem dX6_undo_1 : decode cX6_undo 1 = .ok (.invokestatic 111, 3) := by decide +kernel
theorem dX6_undo_4 : decode cX6_undo 4 = .ok (.ifCond .ne 6, 3) := by decide +kernel
theorem dX6_undo_7 : decode cX6_undo 7 = .ok (.bipush (-2), 2) := by decide +kernel
theorem dX6_undo_9 : decode cX6_undo 9 = .ok (.ireturn, 1) := by decide +kernel
theorem dX6_undo_10 : decode cX6_undo 10 = .ok (.aload_n 0, 1) := by decide +kernel
theorem dX6_undo_11 : decode cX6_undo 11 = .ok (.getfield 7, 3) := by decide +kernel
theorem dX6_undo_14 : decode cX6_undo 14 = .ok (.iload_n 1, 1) := by decide +kernel
theorem dX6_undo_15 : decode cX6_undo 15 = .ok (.iaload, 1) := by decide +kernel
theorem dX6_undo_16 : decode cX6_undo 16 = .ok (.ifCond .ne 6, 3) := by decide +kernel
theorem dX6_undo_19 : decode cX6_undo 19 = .ok (.bipush (-3), 2) := by decide +kernel
theorem dX6_undo_21 : decode cX6_undo 21 = .ok (.ireturn, 1) := by decide +kernel
theorem dX6_undo_22 : decode cX6_undo 22 = .ok (.aload_n 0, 1) := by decide +kernel
theorem dX6_undo_23 : decode cX6_undo 23 = .ok (.getfield 7, 3) := by decide +kernel
theorem dX6_undo_26 : decode cX6_undo 26 = .ok (.iload_n 1, 1) := by decide +kernel
theorem dX6_undo_27 : decode cX6_undo 27 = .ok (.dup2, 1) := by decide +kernel
theorem dX6_undo_28 : decode cX6_undo 28 = .ok (.iaload, 1) := by decide +kernel
theorem dX6_undo_29 : decode cX6_undo 29 = .ok (.iconst 1, 1) := by decide +kernel
theorem dX6_undo_30 : decode cX6_undo 30 = .ok (.isub, 1) := by decide +kernel
theorem dX6_undo_31 : decode cX6_undo 31 = .ok (.iastore, 1) := by decide +kernel
theorem dX6_undo_32 : decode cX6_undo 32 = .ok (.aload_n 0, 1) := by decide +kernel
theorem dX6_undo_33 : decode cX6_undo 33 = .ok (.getfield 7, 3) := by decide +kernel
theorem dX6_undo_36 : decode cX6_undo 36 = .ok (.iload_n 1, 1) := by decide +kernel
theorem dX6_undo_37 : decode cX6_undo 37 = .ok (.iaload, 1) := by decide +kernel
theorem dX6_undo_38 : decode cX6_undo 38 = .ok (.ireturn, 1) := by decide +kernel
theorem dX6_byteAt_0 : decode cX6_byteAt 0 = .ok (.iload_n 2, 1) := by decide +kernel
theorem dX6_byteAt_1 : decode cX6_byteAt 1 = .ok (.aload_n 0, 1) := by decide +kernel
theorem dX6_byteAt_2 : decode cX6_byteAt 2 = .ok (.getfield 7, 3) := by decide +kernel
theorem dX6_byteAt_5 : decode cX6_byteAt 5 = .ok (.iload_n 1, 1) := by decide +kernel
theorem dX6_byteAt_6 : decode cX6_byteAt 6 = .ok (.iaload, 1) := by decide +kernel
theorem dX6_byteAt_7 : decode cX6_byteAt 7 = .ok (.if_icmp .ge 17, 3) := by decide +kernel
theorem dX6_byteAt_10 : decode cX6_byteAt 10 = .ok (.aload_n 0, 1) := by decide +kernel
theorem dX6_byteAt_11 : decode cX6_byteAt 11 = .ok (.getfield 13, 3) := by decide +kernel
theorem dX6_byteAt_14 : decode cX6_byteAt 14 = .ok (.bipush 39, 2) := by decide +kernel
theorem dX6_byteAt_16 : decode cX6_byteAt 16 = .ok (.iload_n 1, 1) := by decide +kernel
theorem dX6_byteAt_17 : decode cX6_byteAt 17 = .ok (.imul, 1) := by decide +kernel
theorem dX6_byteAt_18 : decode cX6_byteAt 18 = .ok (.iload_n 2, 1) := by decide +kernel
theorem dX6_byteAt_19 : decode cX6_byteAt 19 = .ok (.iadd, 1) := by decide +kernel
theorem dX6_byteAt_20 : decode cX6_byteAt 20 = .ok (.iaload, 1) := by decide +kernel
theorem dX6_byteAt_21 : decode cX6_byteAt 21 = .ok (.goto 4, 3) := by decide +kernel
theorem dX6_byteAt_24 : decode cX6_byteAt 24 = .ok (.iconst (-1), 1) := by decide +kernel
theorem dX6_byteAt_25 : decode cX6_byteAt 25 = .ok (.ireturn, 1) := by decide +kernel
theorem dX6_figureAt_0 : decode cX6_figureAt 0 = .ok (.aload_n 0, 1) := by decide +kernel
theorem dX6_figureAt_1 : decode cX6_figureAt 1 = .ok (.iload_n 1, 1) := by decide +kernel
theorem dX6_figureAt_2 : decode cX6_figureAt 2 = .ok (.iload_n 2, 1) := by decide +kernel
theorem dX6_figureAt_3 : decode cX6_figureAt 3 = .ok (.invokevirtual 115, 3) := by decide +kernel
theorem dX6_figureAt_6 : decode cX6_figureAt 6 = .ok (.bipush 48, 2) := by decide +kernel
theorem dX6_figureAt_8 : decode cX6_figureAt 8 = .ok (.isub, 1) := by decide +kernel
theorem dX6_figureAt_9 : decode cX6_figureAt 9 = .ok (.istore 5, 2) := by decide +kernel
theorem dX6_figureAt_11 : decode cX6_figureAt 11 = .ok (.iload 5, 2) := by decide +kernel
theorem dX6_figureAt_13 : decode cX6_figureAt 13 = .ok (.iload_n 3, 1) := by decide +kernel
theorem dX6_figureAt_14 : decode cX6_figureAt 14 = .ok (.iload 4, 2) := by decide +kernel
theorem dX6_figureAt_16 : decode cX6_figureAt 16 = .ok (.invokestatic 107, 3) := by decide +kernel
theorem dX6_figureAt_19 : decode cX6_figureAt 19 = .ok (.ifCond .eq 8, 3) := by decide +kernel
theorem dX6_figureAt_22 : decode cX6_figureAt 22 = .ok (.iload 5, 2) := by decide +kernel
theorem dX6_figureAt_24 : decode cX6_figureAt 24 = .ok (.goto 4, 3) := by decide +kernel
theorem dX6_figureAt_27 : decode cX6_figureAt 27 = .ok (.iconst (-1), 1) := by decide +kernel
theorem dX6_figureAt_28 : decode cX6_figureAt 28 = .ok (.ireturn, 1) := by decide +kernel
theorem dX6_readsSailor_0 : decode cX6_readsSailor 0 = .ok (.aload_n 0, 1) := by decide +kernel
theorem dX6_readsSailor_1 : decode cX6_readsSailor 1 = .ok (.iconst 0, 1) := by decide +kernel
theorem dX6_readsSailor_2 : decode cX6_readsSailor 2 = .ok (.iload_n 2, 1) := by decide +kernel
theorem dX6_readsSailor_3 : decode cX6_readsSailor 3 = .ok (.invokevirtual 115, 3) := by decide +kernel
theorem dX6_readsSailor_6 : decode cX6_readsSailor 6 = .ok (.istore_n 3, 1) := by decide +kernel
theorem dX6_readsSailor_7 : decode cX6_readsSailor 7 = .ok (.iload_n 3, 1) := by decide +kernel
theorem dX6_readsSailor_8 : decode cX6_readsSailor 8 = .ok (.bipush 97, 2) := by decide +kernel
theorem dX6_readsSailor_10 : decode cX6_readsSailor 10 = .ok (.if_icmp .ne 7, 3) := by decide +kernel
theorem dX6_readsSailor_13 : decode cX6_readsSailor 13 = .ok (.iconst 0, 1) := by decide +kernel
theorem dX6_readsSailor_14 : decode cX6_readsSailor 14 = .ok (.goto 34, 3) := by decide +kernel
theorem dX6_readsSailor_17 : decode cX6_readsSailor 17 = .ok (.iload_n 3, 1) := by decide +kernel
theorem dX6_readsSailor_18 : decode cX6_readsSailor 18 = .ok (.bipush 115, 2) := by decide +kernel
theorem dX6_readsSailor_20 : decode cX6_readsSailor 20 = .ok (.if_icmp .ne 7, 3) := by decide +kernel
theorem dX6_readsSailor_23 : decode cX6_readsSailor 23 = .ok (.iconst 1, 1) := by decide +kernel
theorem dX6_readsSailor_24 : decode cX6_readsSailor 24 = .ok (.goto 24, 3) := by decide +kernel
theorem dX6_readsSailor_27 : decode cX6_readsSailor 27 = .ok (.iload_n 3, 1) := by decide +kernel
theorem dX6_readsSailor_28 : decode cX6_readsSailor 28 = .ok (.bipush 116, 2) := by decide +kernel
theorem dX6_readsSailor_30 : decode cX6_readsSailor 30 = .ok (.if_icmp .ne 7, 3) := by decide +kernel
theorem dX6_readsSailor_33 : decode cX6_readsSailor 33 = .ok (.iconst 2, 1) := by decide +kernel
theorem dX6_readsSailor_34 : decode cX6_readsSailor 34 = .ok (.goto 14, 3) := by decide +kernel
theorem dX6_readsSailor_37 : decode cX6_readsSailor 37 = .ok (.iload_n 3, 1) := by decide +kernel
theorem dX6_readsSailor_38 : decode cX6_readsSailor 38 = .ok (.bipush 100, 2) := by decide +kernel
theorem dX6_readsSailor_40 : decode cX6_readsSailor 40 = .ok (.if_icmp .ne 7, 3) := by decide +kernel
theorem dX6_readsSailor_43 : decode cX6_readsSailor 43 = .ok (.iconst 3, 1) := by decide +kernel
theorem dX6_readsSailor_44 : decode cX6_readsSailor 44 = .ok (.goto 4, 3) := by decide +kernel
theorem dX6_readsSailor_47 : decode cX6_readsSailor 47 = .ok (.iconst (-1), 1) := by decide +kernel
theorem dX6_readsSailor_48 : decode cX6_readsSailor 48 = .ok (.istore 4, 2) := by decide +kernel
theorem dX6_readsSailor_50 : decode cX6_readsSailor 50 = .ok (.aload_n 0, 1) := by decide +kernel
theorem dX6_readsSailor_51 : decode cX6_readsSailor 51 = .ok (.iconst 0, 1) := by decide +kernel
theorem dX6_readsSailor_52 : decode cX6_readsSailor 52 = .ok (.iload_n 2, 1) := by decide +kernel
theorem dX6_readsSailor_53 : decode cX6_readsSailor 53 = .ok (.iconst 1, 1) := by decide +kernel
theorem dX6_readsSailor_54 : decode cX6_readsSailor 54 = .ok (.iadd, 1) := by decide +kernel
theorem dX6_readsSailor_55 : decode cX6_readsSailor 55 = .ok (.iconst 0, 1) := by decide +kernel
theorem dX6_readsSailor_56 : decode cX6_readsSailor 56 = .ok (.bipush 9, 2) := by decide +kernel
theorem dX6_readsSailor_58 : decode cX6_readsSailor 58 = .ok (.invokevirtual 119, 3) := by decide +kernel
theorem dX6_readsSailor_61 : decode cX6_readsSailor 61 = .ok (.istore 5, 2) := by decide +kernel
theorem dX6_readsSailor_63 : decode cX6_readsSailor 63 = .ok (.aload_n 0, 1) := by decide +kernel
theorem dX6_readsSailor_64 : decode cX6_readsSailor 64 = .ok (.iconst 0, 1) := by decide +kernel
theorem dX6_readsSailor_65 : decode cX6_readsSailor 65 = .ok (.iload_n 2, 1) := by decide +kernel
theorem dX6_readsSailor_66 : decode cX6_readsSailor 66 = .ok (.iconst 2, 1) := by decide +kernel
theorem dX6_readsSailor_67 : decode cX6_readsSailor 67 = .ok (.iadd, 1) := by decide +kernel
theorem dX6_readsSailor_68 : decode cX6_readsSailor 68 = .ok (.iconst 0, 1) := by decide +kernel
theorem dX6_readsSailor_69 : decode cX6_readsSailor 69 = .ok (.bipush 9, 2) := by decide +kernel
theorem dX6_readsSailor_71 : decode cX6_readsSailor 71 = .ok (.invokevirtual 119, 3) := by decide +kernel
theorem dX6_readsSailor_74 : decode cX6_readsSailor 74 = .ok (.istore 6, 2) := by decide +kernel
theorem dX6_readsSailor_76 : decode cX6_readsSailor 76 = .ok (.aload_n 0, 1) := by decide +kernel
theorem dX6_readsSailor_77 : decode cX6_readsSailor 77 = .ok (.iconst 0, 1) := by decide +kernel
theorem dX6_readsSailor_78 : decode cX6_readsSailor 78 = .ok (.iload_n 2, 1) := by decide +kernel
theorem dX6_readsSailor_79 : decode cX6_readsSailor 79 = .ok (.iconst 3, 1) := by decide +kernel
theorem dX6_readsSailor_80 : decode cX6_readsSailor 80 = .ok (.iadd, 1) := by decide +kernel
theorem dX6_readsSailor_81 : decode cX6_readsSailor 81 = .ok (.iconst 0, 1) := by decide +kernel
theorem dX6_readsSailor_82 : decode cX6_readsSailor 82 = .ok (.bipush 7, 2) := by decide +kernel
theorem dX6_readsSailor_84 : decode cX6_readsSailor 84 = .ok (.invokevirtual 119, 3) := by decide +kernel
theorem dX6_readsSailor_87 : decode cX6_readsSailor 87 = .ok (.istore 7, 2) := by decide +kernel
theorem dX6_readsSailor_89 : decode cX6_readsSailor 89 = .ok (.iload 4, 2) := by decide +kernel
theorem dX6_readsSailor_91 : decode cX6_readsSailor 91 = .ok (.iconst (-1), 1) := by decide +kernel
theorem dX6_readsSailor_92 : decode cX6_readsSailor 92 = .ok (.if_icmp .ne 5, 3) := by decide +kernel
theorem dX6_readsSailor_95 : decode cX6_readsSailor 95 = .ok (.iconst 0, 1) := by decide +kernel
theorem dX6_readsSailor_96 : decode cX6_readsSailor 96 = .ok (.ireturn, 1) := by decide +kernel
theorem dX6_readsSailor_97 : decode cX6_readsSailor 97 = .ok (.iload 5, 2) := by decide +kernel
theorem dX6_readsSailor_99 : decode cX6_readsSailor 99 = .ok (.iconst (-1), 1) := by decide +kernel
theorem dX6_readsSailor_100 : decode cX6_readsSailor 100 = .ok (.if_icmp .ne 5, 3) := by decide +kernel
theorem dX6_readsSailor_103 : decode cX6_readsSailor 103 = .ok (.iconst 1, 1) := by decide +kernel
theorem dX6_readsSailor_104 : decode cX6_readsSailor 104 = .ok (.ireturn, 1) := by decide +kernel
theorem dX6_readsSailor_105 : decode cX6_readsSailor 105 = .ok (.iload 6, 2) := by decide +kernel
theorem dX6_readsSailor_107 : decode cX6_readsSailor 107 = .ok (.iconst (-1), 1) := by decide +kernel
theorem dX6_readsSailor_108 : decode cX6_readsSailor 108 = .ok (.if_icmp .ne 5, 3) := by decide +kernel
theorem dX6_readsSailor_111 : decode cX6_readsSailor 111 = .ok (.iconst 2, 1) := by decide +kernel
theorem dX6_readsSailor_112 : decode cX6_readsSailor 112 = .ok (.ireturn, 1) := by decide +kernel
theorem dX6_readsSailor_113 : decode cX6_readsSailor 113 = .ok (.iload 7, 2) := by decide +kernel
theorem dX6_readsSailor_115 : decode cX6_readsSailor 115 = .ok (.iconst (-1), 1) := by decide +kernel
theorem dX6_readsSailor_116 : decode cX6_readsSailor 116 = .ok (.if_icmp .ne 5, 3) := by decide +kernel
theorem dX6_readsSailor_119 : decode cX6_readsSailor 119 = .ok (.iconst 3, 1) := by decide +kernel
theorem dX6_readsSailor_120 : decode cX6_readsSailor 120 = .ok (.ireturn, 1) := by decide +kernel
theorem dX6_readsSailor_121 : decode cX6_readsSailor 121 = .ok (.aload_n 0, 1) := by decide +kernel
theorem dX6_readsSailor_122 : decode cX6_readsSailor 122 = .ok (.getfield 16, 3) := by decide +kernel
theorem dX6_readsSailor_125 : decode cX6_readsSailor 125 = .ok (.iload_n 1, 1) := by decide +kernel
theorem dX6_readsSailor_126 : decode cX6_readsSailor 126 = .ok (.iload 4, 2) := by decide +kernel
theorem dX6_readsSailor_128 : decode cX6_readsSailor 128 = .ok (.iastore, 1) := by decide +kernel
theorem dX6_readsSailor_129 : decode cX6_readsSailor 129 = .ok (.aload_n 0, 1) := by decide +kernel
theorem dX6_readsSailor_130 : decode cX6_readsSailor 130 = .ok (.getfield 19, 3) := by decide +kernel
theorem dX6_readsSailor_133 : decode cX6_readsSailor 133 = .ok (.iload_n 1, 1) := by decide +kernel
theorem dX6_readsSailor_134 : decode cX6_readsSailor 134 = .ok (.iload 5, 2) := by decide +kernel
theorem dX6_readsSailor_136 : decode cX6_readsSailor 136 = .ok (.iastore, 1) := by decide +kernel
theorem dX6_readsSailor_137 : decode cX6_readsSailor 137 = .ok (.aload_n 0, 1) := by decide +kernel
theorem dX6_readsSailor_138 : decode cX6_readsSailor 138 = .ok (.getfield 22, 3) := by decide +kernel
theorem dX6_readsSailor_141 : decode cX6_readsSailor 141 = .ok (.iload_n 1, 1) := by decide +kernel
theorem dX6_readsSailor_142 : decode cX6_readsSailor 142 = .ok (.iload 6, 2) := by decide +kernel
theorem dX6_readsSailor_144 : decode cX6_readsSailor 144 = .ok (.iastore, 1) := by decide +kernel
theorem dX6_readsSailor_145 : decode cX6_readsSailor 145 = .ok (.aload_n 0, 1) := by decide +kernel
theorem dX6_readsSailor_146 : decode cX6_readsSailor 146 = .ok (.getfield 25, 3) := by decide +kernel
theorem dX6_readsSailor_149 : decode cX6_readsSailor 149 = .ok (.iload_n 1, 1) := by decide +kernel
theorem dX6_readsSailor_150 : decode cX6_readsSailor 150 = .ok (.iload 7, 2) := by decide +kernel
theorem dX6_readsSailor_152 : decode cX6_readsSailor 152 = .ok (.iastore, 1) := by decide +kernel
theorem dX6_readsSailor_153 : decode cX6_readsSailor 153 = .ok (.iconst 4, 1) := by decide +kernel
theorem dX6_readsSailor_154 : decode cX6_readsSailor 154 = .ok (.ireturn, 1) := by decide +kernel
theorem dX6_readsHouse_0 : decode cX6_readsHouse 0 = .ok (.aload_n 0, 1) := by decide +kernel
theorem dX6_readsHouse_1 : decode cX6_readsHouse 1 = .ok (.iconst 1, 1) := by decide +kernel
theorem dX6_readsHouse_2 : decode cX6_readsHouse 2 = .ok (.iload_n 2, 1) := by decide +kernel
theorem dX6_readsHouse_3 : decode cX6_readsHouse 3 = .ok (.iconst 0, 1) := by decide +kernel
theorem dX6_readsHouse_4 : decode cX6_readsHouse 4 = .ok (.bipush 9, 2) := by decide +kernel
theorem dX6_readsHouse_6 : decode cX6_readsHouse 6 = .ok (.invokevirtual 119, 3) := by decide +kernel
theorem dX6_readsHouse_9 : decode cX6_readsHouse 9 = .ok (.istore_n 3, 1) := by decide +kernel
theorem dX6_readsHouse_10 : decode cX6_readsHouse 10 = .ok (.aload_n 0, 1) := by decide +kernel
theorem dX6_readsHouse_11 : decode cX6_readsHouse 11 = .ok (.iconst 1, 1) := by decide +kernel
theorem dX6_readsHouse_12 : decode cX6_readsHouse 12 = .ok (.iload_n 2, 1) := by decide +kernel
theorem dX6_readsHouse_13 : decode cX6_readsHouse 13 = .ok (.iconst 1, 1) := by decide +kernel
theorem dX6_readsHouse_14 : decode cX6_readsHouse 14 = .ok (.iadd, 1) := by decide +kernel
theorem dX6_readsHouse_15 : decode cX6_readsHouse 15 = .ok (.iconst 1, 1) := by decide +kernel
theorem dX6_readsHouse_16 : decode cX6_readsHouse 16 = .ok (.bipush 9, 2) := by decide +kernel
theorem dX6_readsHouse_18 : decode cX6_readsHouse 18 = .ok (.invokevirtual 119, 3) := by decide +kernel
theorem dX6_readsHouse_21 : decode cX6_readsHouse 21 = .ok (.istore 4, 2) := by decide +kernel
theorem dX6_readsHouse_23 : decode cX6_readsHouse 23 = .ok (.iload_n 3, 1) := by decide +kernel
theorem dX6_readsHouse_24 : decode cX6_readsHouse 24 = .ok (.iconst (-1), 1) := by decide +kernel
theorem dX6_readsHouse_25 : decode cX6_readsHouse 25 = .ok (.if_icmp .ne 5, 3) := by decide +kernel
theorem dX6_readsHouse_28 : decode cX6_readsHouse 28 = .ok (.iconst 0, 1) := by decide +kernel
theorem dX6_readsHouse_29 : decode cX6_readsHouse 29 = .ok (.ireturn, 1) := by decide +kernel
theorem dX6_readsHouse_30 : decode cX6_readsHouse 30 = .ok (.iload 4, 2) := by decide +kernel
theorem dX6_readsHouse_32 : decode cX6_readsHouse 32 = .ok (.iconst (-1), 1) := by decide +kernel
theorem dX6_readsHouse_33 : decode cX6_readsHouse 33 = .ok (.if_icmp .ne 5, 3) := by decide +kernel
theorem dX6_readsHouse_36 : decode cX6_readsHouse 36 = .ok (.iconst 1, 1) := by decide +kernel
theorem dX6_readsHouse_37 : decode cX6_readsHouse 37 = .ok (.ireturn, 1) := by decide +kernel
theorem dX6_readsHouse_38 : decode cX6_readsHouse 38 = .ok (.aload_n 0, 1) := by decide +kernel
theorem dX6_readsHouse_39 : decode cX6_readsHouse 39 = .ok (.getfield 28, 3) := by decide +kernel
theorem dX6_readsHouse_42 : decode cX6_readsHouse 42 = .ok (.iload_n 1, 1) := by decide +kernel
theorem dX6_readsHouse_43 : decode cX6_readsHouse 43 = .ok (.iload_n 3, 1) := by decide +kernel
theorem dX6_readsHouse_44 : decode cX6_readsHouse 44 = .ok (.iastore, 1) := by decide +kernel
theorem dX6_readsHouse_45 : decode cX6_readsHouse 45 = .ok (.aload_n 0, 1) := by decide +kernel
theorem dX6_readsHouse_46 : decode cX6_readsHouse 46 = .ok (.getfield 31, 3) := by decide +kernel
theorem dX6_readsHouse_49 : decode cX6_readsHouse 49 = .ok (.iload_n 1, 1) := by decide +kernel
theorem dX6_readsHouse_50 : decode cX6_readsHouse 50 = .ok (.iload 4, 2) := by decide +kernel
theorem dX6_readsHouse_52 : decode cX6_readsHouse 52 = .ok (.iastore, 1) := by decide +kernel
theorem dX6_readsHouse_53 : decode cX6_readsHouse 53 = .ok (.iconst 2, 1) := by decide +kernel
theorem dX6_readsHouse_54 : decode cX6_readsHouse 54 = .ok (.ireturn, 1) := by decide +kernel
theorem dX6_readsShip_0 : decode cX6_readsShip 0 = .ok (.iconst 0, 1) := by decide +kernel
theorem dX6_readsShip_1 : decode cX6_readsShip 1 = .ok (.istore_n 3, 1) := by decide +kernel
theorem dX6_readsShip_2 : decode cX6_readsShip 2 = .ok (.iload_n 3, 1) := by decide +kernel
theorem dX6_readsShip_3 : decode cX6_readsShip 3 = .ok (.iconst 5, 1) := by decide +kernel
theorem dX6_readsShip_4 : decode cX6_readsShip 4 = .ok (.if_icmp .ge 43, 3) := by decide +kernel
theorem dX6_readsShip_7 : decode cX6_readsShip 7 = .ok (.aload_n 0, 1) := by decide +kernel
theorem dX6_readsShip_8 : decode cX6_readsShip 8 = .ok (.iconst 2, 1) := by decide +kernel
theorem dX6_readsShip_9 : decode cX6_readsShip 9 = .ok (.iload_n 2, 1) := by decide +kernel
theorem dX6_readsShip_10 : decode cX6_readsShip 10 = .ok (.iload_n 3, 1) := by decide +kernel
theorem dX6_readsShip_11 : decode cX6_readsShip 11 = .ok (.iadd, 1) := by decide +kernel
theorem dX6_readsShip_12 : decode cX6_readsShip 12 = .ok (.iload_n 3, 1) := by decide +kernel
theorem dX6_readsShip_13 : decode cX6_readsShip 13 = .ok (.iconst 2, 1) := by decide +kernel
theorem dX6_readsShip_14 : decode cX6_readsShip 14 = .ok (.if_icmp .ne 7, 3) := by decide +kernel
theorem dX6_readsShip_17 : decode cX6_readsShip 17 = .ok (.iconst 1, 1) := by decide +kernel
theorem dX6_readsShip_18 : decode cX6_readsShip 18 = .ok (.goto 4, 3) := by decide +kernel
theorem dX6_readsShip_21 : decode cX6_readsShip 21 = .ok (.iconst 0, 1) := by decide +kernel
theorem dX6_readsShip_22 : decode cX6_readsShip 22 = .ok (.iload_n 3, 1) := by decide +kernel
theorem dX6_readsShip_23 : decode cX6_readsShip 23 = .ok (.ifCond .ne 7, 3) := by decide +kernel
theorem dX6_readsShip_26 : decode cX6_readsShip 26 = .ok (.iconst 2, 1) := by decide +kernel
theorem dX6_readsShip_27 : decode cX6_readsShip 27 = .ok (.goto 5, 3) := by decide +kernel
theorem dX6_readsShip_30 : decode cX6_readsShip 30 = .ok (.bipush 9, 2) := by decide +kernel
theorem dX6_readsShip_32 : decode cX6_readsShip 32 = .ok (.invokevirtual 119, 3) := by decide +kernel
theorem dX6_readsShip_35 : decode cX6_readsShip 35 = .ok (.iconst (-1), 1) := by decide +kernel
theorem dX6_readsShip_36 : decode cX6_readsShip 36 = .ok (.if_icmp .ne 5, 3) := by decide +kernel
theorem dX6_readsShip_39 : decode cX6_readsShip 39 = .ok (.iload_n 3, 1) := by decide +kernel
theorem dX6_readsShip_40 : decode cX6_readsShip 40 = .ok (.ireturn, 1) := by decide +kernel
theorem dX6_readsShip_41 : decode cX6_readsShip 41 = .ok (.iinc 3 1, 3) := by decide +kernel
theorem dX6_readsShip_44 : decode cX6_readsShip 44 = .ok (.goto (-42), 3) := by decide +kernel
theorem dX6_readsShip_47 : decode cX6_readsShip 47 = .ok (.aload_n 0, 1) := by decide +kernel
theorem dX6_readsShip_48 : decode cX6_readsShip 48 = .ok (.getfield 34, 3) := by decide +kernel
theorem dX6_readsShip_51 : decode cX6_readsShip 51 = .ok (.iload_n 1, 1) := by decide +kernel
theorem dX6_readsShip_52 : decode cX6_readsShip 52 = .ok (.bipush 10, 2) := by decide +kernel
theorem dX6_readsShip_54 : decode cX6_readsShip 54 = .ok (.aload_n 0, 1) := by decide +kernel
theorem dX6_readsShip_55 : decode cX6_readsShip 55 = .ok (.iconst 2, 1) := by decide +kernel
theorem dX6_readsShip_56 : decode cX6_readsShip 56 = .ok (.iload_n 2, 1) := by decide +kernel
theorem dX6_readsShip_57 : decode cX6_readsShip 57 = .ok (.iconst 0, 1) := by decide +kernel
theorem dX6_readsShip_58 : decode cX6_readsShip 58 = .ok (.iconst 2, 1) := by decide +kernel
theorem dX6_readsShip_59 : decode cX6_readsShip 59 = .ok (.invokevirtual 119, 3) := by decide +kernel
theorem dX6_readsShip_62 : decode cX6_readsShip 62 = .ok (.imul, 1) := by decide +kernel
theorem dX6_readsShip_63 : decode cX6_readsShip 63 = .ok (.aload_n 0, 1) := by decide +kernel
theorem dX6_readsShip_64 : decode cX6_readsShip 64 = .ok (.iconst 2, 1) := by decide +kernel
theorem dX6_readsShip_65 : decode cX6_readsShip 65 = .ok (.iload_n 2, 1) := by decide +kernel
theorem dX6_readsShip_66 : decode cX6_readsShip 66 = .ok (.iconst 1, 1) := by decide +kernel
theorem dX6_readsShip_67 : decode cX6_readsShip 67 = .ok (.iadd, 1) := by decide +kernel
theorem dX6_readsShip_68 : decode cX6_readsShip 68 = .ok (.iconst 0, 1) := by decide +kernel
theorem dX6_readsShip_69 : decode cX6_readsShip 69 = .ok (.bipush 9, 2) := by decide +kernel
theorem dX6_readsShip_71 : decode cX6_readsShip 71 = .ok (.invokevirtual 119, 3) := by decide +kernel
theorem dX6_readsShip_74 : decode cX6_readsShip 74 = .ok (.iadd, 1) := by decide +kernel
theorem dX6_readsShip_75 : decode cX6_readsShip 75 = .ok (.iastore, 1) := by decide +kernel
theorem dX6_readsShip_76 : decode cX6_readsShip 76 = .ok (.aload_n 0, 1) := by decide +kernel
theorem dX6_readsShip_77 : decode cX6_readsShip 77 = .ok (.getfield 37, 3) := by decide +kernel
theorem dX6_readsShip_80 : decode cX6_readsShip 80 = .ok (.iload_n 1, 1) := by decide +kernel
theorem dX6_readsShip_81 : decode cX6_readsShip 81 = .ok (.aload_n 0, 1) := by decide +kernel
theorem dX6_readsShip_82 : decode cX6_readsShip 82 = .ok (.iconst 2, 1) := by decide +kernel
theorem dX6_readsShip_83 : decode cX6_readsShip 83 = .ok (.iload_n 2, 1) := by decide +kernel
theorem dX6_readsShip_84 : decode cX6_readsShip 84 = .ok (.iconst 2, 1) := by decide +kernel
theorem dX6_readsShip_85 : decode cX6_readsShip 85 = .ok (.iadd, 1) := by decide +kernel
theorem dX6_readsShip_86 : decode cX6_readsShip 86 = .ok (.iconst 1, 1) := by decide +kernel
theorem dX6_readsShip_87 : decode cX6_readsShip 87 = .ok (.bipush 9, 2) := by decide +kernel
theorem dX6_readsShip_89 : decode cX6_readsShip 89 = .ok (.invokevirtual 119, 3) := by decide +kernel
theorem dX6_readsShip_92 : decode cX6_readsShip 92 = .ok (.iastore, 1) := by decide +kernel
theorem dX6_readsShip_93 : decode cX6_readsShip 93 = .ok (.aload_n 0, 1) := by decide +kernel
theorem dX6_readsShip_94 : decode cX6_readsShip 94 = .ok (.getfield 40, 3) := by decide +kernel
theorem dX6_readsShip_97 : decode cX6_readsShip 97 = .ok (.iload_n 1, 1) := by decide +kernel
theorem dX6_readsShip_98 : decode cX6_readsShip 98 = .ok (.aload_n 0, 1) := by decide +kernel
theorem dX6_readsShip_99 : decode cX6_readsShip 99 = .ok (.iconst 2, 1) := by decide +kernel
theorem dX6_readsShip_100 : decode cX6_readsShip 100 = .ok (.iload_n 2, 1) := by decide +kernel
theorem dX6_readsShip_101 : decode cX6_readsShip 101 = .ok (.iconst 3, 1) := by decide +kernel
theorem dX6_readsShip_102 : decode cX6_readsShip 102 = .ok (.iadd, 1) := by decide +kernel
theorem dX6_readsShip_103 : decode cX6_readsShip 103 = .ok (.iconst 0, 1) := by decide +kernel
theorem dX6_readsShip_104 : decode cX6_readsShip 104 = .ok (.bipush 9, 2) := by decide +kernel
theorem dX6_readsShip_106 : decode cX6_readsShip 106 = .ok (.invokevirtual 119, 3) := by decide +kernel
theorem dX6_readsShip_109 : decode cX6_readsShip 109 = .ok (.iastore, 1) := by decide +kernel
theorem dX6_readsShip_110 : decode cX6_readsShip 110 = .ok (.aload_n 0, 1) := by decide +kernel
theorem dX6_readsShip_111 : decode cX6_readsShip 111 = .ok (.getfield 43, 3) := by decide +kernel
theorem dX6_readsShip_114 : decode cX6_readsShip 114 = .ok (.iload_n 1, 1) := by decide +kernel
theorem dX6_readsShip_115 : decode cX6_readsShip 115 = .ok (.aload_n 0, 1) := by decide +kernel
theorem dX6_readsShip_116 : decode cX6_readsShip 116 = .ok (.iconst 2, 1) := by decide +kernel
theorem dX6_readsShip_117 : decode cX6_readsShip 117 = .ok (.iload_n 2, 1) := by decide +kernel
theorem dX6_readsShip_118 : decode cX6_readsShip 118 = .ok (.iconst 4, 1) := by decide +kernel
theorem dX6_readsShip_119 : decode cX6_readsShip 119 = .ok (.iadd, 1) := by decide +kernel
theorem dX6_readsShip_120 : decode cX6_readsShip 120 = .ok (.iconst 0, 1) := by decide +kernel
theorem dX6_readsShip_121 : decode cX6_readsShip 121 = .ok (.bipush 9, 2) := by decide +kernel
theorem dX6_readsShip_123 : decode cX6_readsShip 123 = .ok (.invokevirtual 119, 3) := by decide +kernel
theorem dX6_readsShip_126 : decode cX6_readsShip 126 = .ok (.iastore, 1) := by decide +kernel
theorem dX6_readsShip_127 : decode cX6_readsShip 127 = .ok (.iconst 5, 1) := by decide +kernel
theorem dX6_readsShip_128 : decode cX6_readsShip 128 = .ok (.ireturn, 1) := by decide +kernel
theorem dX6_keeps_0 : decode cX6_keeps 0 = .ok (.aload_n 0, 1) := by decide +kernel
theorem dX6_keeps_1 : decode cX6_keeps 1 = .ok (.iload_n 1, 1) := by decide +kernel
theorem dX6_keeps_2 : decode cX6_keeps 2 = .ok (.ifCond .ne 7, 3) := by decide +kernel
theorem dX6_keeps_5 : decode cX6_keeps 5 = .ok (.iload_n 2, 1) := by decide +kernel
theorem dX6_keeps_6 : decode cX6_keeps 6 = .ok (.goto 7, 3) := by decide +kernel
theorem dX6_keeps_9 : decode cX6_keeps 9 = .ok (.aload_n 0, 1) := by decide +kernel
theorem dX6_keeps_10 : decode cX6_keeps 10 = .ok (.getfield 123, 3) := by decide +kernel
theorem dX6_keeps_13 : decode cX6_keeps 13 = .ok (.putfield 123, 3) := by decide +kernel
theorem dX6_keeps_16 : decode cX6_keeps 16 = .ok (.aload_n 0, 1) := by decide +kernel
theorem dX6_keeps_17 : decode cX6_keeps 17 = .ok (.iload_n 1, 1) := by decide +kernel
theorem dX6_keeps_18 : decode cX6_keeps 18 = .ok (.iconst 1, 1) := by decide +kernel
theorem dX6_keeps_19 : decode cX6_keeps 19 = .ok (.if_icmp .ne 7, 3) := by decide +kernel
theorem dX6_keeps_22 : decode cX6_keeps 22 = .ok (.iload_n 2, 1) := by decide +kernel
theorem dX6_keeps_23 : decode cX6_keeps 23 = .ok (.goto 7, 3) := by decide +kernel
theorem dX6_keeps_26 : decode cX6_keeps 26 = .ok (.aload_n 0, 1) := by decide +kernel
theorem dX6_keeps_27 : decode cX6_keeps 27 = .ok (.getfield 126, 3) := by decide +kernel
theorem dX6_keeps_30 : decode cX6_keeps 30 = .ok (.putfield 126, 3) := by decide +kernel
theorem dX6_keeps_33 : decode cX6_keeps 33 = .ok (.aload_n 0, 1) := by decide +kernel
theorem dX6_keeps_34 : decode cX6_keeps 34 = .ok (.iload_n 1, 1) := by decide +kernel
theorem dX6_keeps_35 : decode cX6_keeps 35 = .ok (.iconst 2, 1) := by decide +kernel
theorem dX6_keeps_36 : decode cX6_keeps 36 = .ok (.if_icmp .ne 7, 3) := by decide +kernel
theorem dX6_keeps_39 : decode cX6_keeps 39 = .ok (.iload_n 2, 1) := by decide +kernel
theorem dX6_keeps_40 : decode cX6_keeps 40 = .ok (.goto 7, 3) := by decide +kernel
theorem dX6_keeps_43 : decode cX6_keeps 43 = .ok (.aload_n 0, 1) := by decide +kernel
theorem dX6_keeps_44 : decode cX6_keeps 44 = .ok (.getfield 129, 3) := by decide +kernel
theorem dX6_keeps_47 : decode cX6_keeps 47 = .ok (.putfield 129, 3) := by decide +kernel
theorem dX6_keeps_50 : decode cX6_keeps 50 = .ok (.return_, 1) := by decide +kernel
theorem dX6_readsParts_0 : decode cX6_readsParts 0 = .ok (.iload_n 1, 1) := by decide +kernel
theorem dX6_readsParts_1 : decode cX6_readsParts 1 = .ok (.ifCond .ne 7, 3) := by decide +kernel
theorem dX6_readsParts_4 : decode cX6_readsParts 4 = .ok (.iconst 4, 1) := by decide +kernel
theorem dX6_readsParts_5 : decode cX6_readsParts 5 = .ok (.goto 13, 3) := by decide +kernel
theorem dX6_readsParts_8 : decode cX6_readsParts 8 = .ok (.iload_n 1, 1) := by decide +kernel
theorem dX6_readsParts_9 : decode cX6_readsParts 9 = .ok (.iconst 1, 1) := by decide +kernel
theorem dX6_readsParts_10 : decode cX6_readsParts 10 = .ok (.if_icmp .ne 7, 3) := by decide +kernel
theorem dX6_readsParts_13 : decode cX6_readsParts 13 = .ok (.iconst 2, 1) := by decide +kernel
theorem dX6_readsParts_14 : decode cX6_readsParts 14 = .ok (.goto 4, 3) := by decide +kernel
theorem dX6_readsParts_17 : decode cX6_readsParts 17 = .ok (.iconst 5, 1) := by decide +kernel
theorem dX6_readsParts_18 : decode cX6_readsParts 18 = .ok (.istore_n 2, 1) := by decide +kernel
theorem dX6_readsParts_19 : decode cX6_readsParts 19 = .ok (.iload_n 1, 1) := by decide +kernel
theorem dX6_readsParts_20 : decode cX6_readsParts 20 = .ok (.iconst 2, 1) := by decide +kernel
theorem dX6_readsParts_21 : decode cX6_readsParts 21 = .ok (.if_icmp .ne 8, 3) := by decide +kernel
theorem dX6_readsParts_24 : decode cX6_readsParts 24 = .ok (.bipush 6, 2) := by decide +kernel
theorem dX6_readsParts_26 : decode cX6_readsParts 26 = .ok (.goto 5, 3) := by decide +kernel
theorem dX6_readsParts_29 : decode cX6_readsParts 29 = .ok (.bipush 8, 2) := by decide +kernel
theorem dX6_readsParts_31 : decode cX6_readsParts 31 = .ok (.istore_n 3, 1) := by decide +kernel
theorem dX6_readsParts_32 : decode cX6_readsParts 32 = .ok (.iconst 0, 1) := by decide +kernel
theorem dX6_readsParts_33 : decode cX6_readsParts 33 = .ok (.istore 4, 2) := by decide +kernel
theorem dX6_readsParts_35 : decode cX6_readsParts 35 = .ok (.iconst 0, 1) := by decide +kernel
theorem dX6_readsParts_36 : decode cX6_readsParts 36 = .ok (.istore 5, 2) := by decide +kernel
theorem dX6_readsParts_38 : decode cX6_readsParts 38 = .ok (.aload_n 0, 1) := by decide +kernel
theorem dX6_readsParts_39 : decode cX6_readsParts 39 = .ok (.iload_n 1, 1) := by decide +kernel
theorem dX6_readsParts_40 : decode cX6_readsParts 40 = .ok (.iconst 0, 1) := by decide +kernel
theorem dX6_readsParts_41 : decode cX6_readsParts 41 = .ok (.invokevirtual 132, 3) := by decide +kernel
theorem dX6_readsParts_44 : decode cX6_readsParts 44 = .ok (.iload 5, 2) := by decide +kernel
theorem dX6_readsParts_46 : decode cX6_readsParts 46 = .ok (.aload_n 0, 1) := by decide +kernel
theorem dX6_readsParts_47 : decode cX6_readsParts 47 = .ok (.getfield 7, 3) := by decide +kernel
theorem dX6_readsParts_50 : decode cX6_readsParts 50 = .ok (.iload_n 1, 1) := by decide +kernel
theorem dX6_readsParts_51 : decode cX6_readsParts 51 = .ok (.iaload, 1) := by decide +kernel
theorem dX6_readsParts_52 : decode cX6_readsParts 52 = .ok (.if_icmp .lt 8, 3) := by decide +kernel
theorem dX6_readsParts_55 : decode cX6_readsParts 55 = .ok (.iload 5, 2) := by decide +kernel
theorem dX6_readsParts_57 : decode cX6_readsParts 57 = .ok (.ifCond .le 116, 3) := by decide +kernel
theorem dX6_readsParts_60 : decode cX6_readsParts 60 = .ok (.iload 4, 2) := by decide +kernel
theorem dX6_readsParts_62 : decode cX6_readsParts 62 = .ok (.iload_n 3, 1) := by decide +kernel
theorem dX6_readsParts_63 : decode cX6_readsParts 63 = .ok (.if_icmp .ne 7, 3) := by decide +kernel
theorem dX6_readsParts_66 : decode cX6_readsParts 66 = .ok (.iconst 0, 1) := by decide +kernel
theorem dX6_readsParts_67 : decode cX6_readsParts 67 = .ok (.goto 42, 3) := by decide +kernel
theorem dX6_readsParts_70 : decode cX6_readsParts 70 = .ok (.iload_n 1, 1) := by decide +kernel
theorem dX6_readsParts_71 : decode cX6_readsParts 71 = .ok (.ifCond .ne 14, 3) := by decide +kernel
theorem dX6_readsParts_74 : decode cX6_readsParts 74 = .ok (.aload_n 0, 1) := by decide +kernel
theorem dX6_readsParts_75 : decode cX6_readsParts 75 = .ok (.iload 4, 2) := by decide +kernel
theorem dX6_readsParts_77 : decode cX6_readsParts 77 = .ok (.iload 5, 2) := by decide +kernel
theorem dX6_readsParts_79 : decode cX6_readsParts 79 = .ok (.invokevirtual 136, 3) := by decide +kernel
theorem dX6_readsParts_82 : decode cX6_readsParts 82 = .ok (.goto 27, 3) := by decide +kernel
theorem dX6_readsParts_85 : decode cX6_readsParts 85 = .ok (.iload_n 1, 1) := by decide +kernel
theorem dX6_readsParts_86 : decode cX6_readsParts 86 = .ok (.iconst 1, 1) := by decide +kernel
theorem dX6_readsParts_87 : decode cX6_readsParts 87 = .ok (.if_icmp .ne 14, 3) := by decide +kernel
theorem dX6_readsParts_90 : decode cX6_readsParts 90 = .ok (.aload_n 0, 1) := by decide +kernel
theorem dX6_readsParts_91 : decode cX6_readsParts 91 = .ok (.iload 4, 2) := by decide +kernel
theorem dX6_readsParts_93 : decode cX6_readsParts 93 = .ok (.iload 5, 2) := by decide +kernel
theorem dX6_readsParts_95 : decode cX6_readsParts 95 = .ok (.invokevirtual 139, 3) := by decide +kernel
theorem dX6_readsParts_98 : decode cX6_readsParts 98 = .ok (.goto 11, 3) := by decide +kernel
theorem dX6_readsParts_101 : decode cX6_readsParts 101 = .ok (.aload_n 0, 1) := by decide +kernel
theorem dX6_readsParts_102 : decode cX6_readsParts 102 = .ok (.iload 4, 2) := by decide +kernel
theorem dX6_readsParts_104 : decode cX6_readsParts 104 = .ok (.iload 5, 2) := by decide +kernel
theorem dX6_readsParts_106 : decode cX6_readsParts 106 = .ok (.invokevirtual 142, 3) := by decide +kernel
theorem dX6_readsParts_109 : decode cX6_readsParts 109 = .ok (.istore 6, 2) := by decide +kernel
theorem dX6_readsParts_111 : decode cX6_readsParts 111 = .ok (.iload 6, 2) := by decide +kernel
theorem dX6_readsParts_113 : decode cX6_readsParts 113 = .ok (.iload_n 2, 1) := by decide +kernel
theorem dX6_readsParts_114 : decode cX6_readsParts 114 = .ok (.if_icmp .ge 9, 3) := by decide +kernel
theorem dX6_readsParts_117 : decode cX6_readsParts 117 = .ok (.iload 5, 2) := by decide +kernel
theorem dX6_readsParts_119 : decode cX6_readsParts 119 = .ok (.iload 6, 2) := by decide +kernel
theorem dX6_readsParts_121 : decode cX6_readsParts 121 = .ok (.iadd, 1) := by decide +kernel
theorem dX6_readsParts_122 : decode cX6_readsParts 122 = .ok (.ireturn, 1) := by decide +kernel
theorem dX6_readsParts_123 : decode cX6_readsParts 123 = .ok (.iinc 4 1, 3) := by decide +kernel
theorem dX6_readsParts_126 : decode cX6_readsParts 126 = .ok (.iload 5, 2) := by decide +kernel
theorem dX6_readsParts_128 : decode cX6_readsParts 128 = .ok (.iload_n 2, 1) := by decide +kernel
theorem dX6_readsParts_129 : decode cX6_readsParts 129 = .ok (.iadd, 1) := by decide +kernel
theorem dX6_readsParts_130 : decode cX6_readsParts 130 = .ok (.istore 5, 2) := by decide +kernel
theorem dX6_readsParts_132 : decode cX6_readsParts 132 = .ok (.iload 5, 2) := by decide +kernel
theorem dX6_readsParts_134 : decode cX6_readsParts 134 = .ok (.aload_n 0, 1) := by decide +kernel
theorem dX6_readsParts_135 : decode cX6_readsParts 135 = .ok (.getfield 7, 3) := by decide +kernel
theorem dX6_readsParts_138 : decode cX6_readsParts 138 = .ok (.iload_n 1, 1) := by decide +kernel
theorem dX6_readsParts_139 : decode cX6_readsParts 139 = .ok (.iaload, 1) := by decide +kernel
theorem dX6_readsParts_140 : decode cX6_readsParts 140 = .ok (.if_icmp .ne 12, 3) := by decide +kernel
theorem dX6_readsParts_143 : decode cX6_readsParts 143 = .ok (.aload_n 0, 1) := by decide +kernel
theorem dX6_readsParts_144 : decode cX6_readsParts 144 = .ok (.iload_n 1, 1) := by decide +kernel
theorem dX6_readsParts_145 : decode cX6_readsParts 145 = .ok (.iload 4, 2) := by decide +kernel
theorem dX6_readsParts_147 : decode cX6_readsParts 147 = .ok (.invokevirtual 132, 3) := by decide +kernel
theorem dX6_readsParts_150 : decode cX6_readsParts 150 = .ok (.iconst (-1), 1) := by decide +kernel
theorem dX6_readsParts_151 : decode cX6_readsParts 151 = .ok (.ireturn, 1) := by decide +kernel
theorem dX6_readsParts_152 : decode cX6_readsParts 152 = .ok (.aload_n 0, 1) := by decide +kernel
theorem dX6_readsParts_153 : decode cX6_readsParts 153 = .ok (.iload_n 1, 1) := by decide +kernel
theorem dX6_readsParts_154 : decode cX6_readsParts 154 = .ok (.iload 5, 2) := by decide +kernel
theorem dX6_readsParts_156 : decode cX6_readsParts 156 = .ok (.invokevirtual 115, 3) := by decide +kernel
theorem dX6_readsParts_159 : decode cX6_readsParts 159 = .ok (.bipush 59, 2) := by decide +kernel
theorem dX6_readsParts_161 : decode cX6_readsParts 161 = .ok (.if_icmp .eq 6, 3) := by decide +kernel
theorem dX6_readsParts_164 : decode cX6_readsParts 164 = .ok (.iload 5, 2) := by decide +kernel
theorem dX6_readsParts_166 : decode cX6_readsParts 166 = .ok (.ireturn, 1) := by decide +kernel
theorem dX6_readsParts_167 : decode cX6_readsParts 167 = .ok (.iinc 5 1, 3) := by decide +kernel
theorem dX6_readsParts_170 : decode cX6_readsParts 170 = .ok (.goto (-126), 3) := by decide +kernel
theorem dX6_readsParts_173 : decode cX6_readsParts 173 = .ok (.iconst (-1), 1) := by decide +kernel
theorem dX6_readsParts_174 : decode cX6_readsParts 174 = .ok (.ireturn, 1) := by decide +kernel
theorem dX6_faultOf_0 : decode cX6_faultOf 0 = .ok (.aload_n 0, 1) := by decide +kernel
theorem dX6_faultOf_1 : decode cX6_faultOf 1 = .ok (.iconst 0, 1) := by decide +kernel
theorem dX6_faultOf_2 : decode cX6_faultOf 2 = .ok (.invokevirtual 145, 3) := by decide +kernel
theorem dX6_faultOf_5 : decode cX6_faultOf 5 = .ok (.istore_n 2, 1) := by decide +kernel
theorem dX6_faultOf_6 : decode cX6_faultOf 6 = .ok (.aload_n 0, 1) := by decide +kernel
theorem dX6_faultOf_7 : decode cX6_faultOf 7 = .ok (.iconst 1, 1) := by decide +kernel
theorem dX6_faultOf_8 : decode cX6_faultOf 8 = .ok (.invokevirtual 145, 3) := by decide +kernel
theorem dX6_faultOf_11 : decode cX6_faultOf 11 = .ok (.istore_n 3, 1) := by decide +kernel
theorem dX6_faultOf_12 : decode cX6_faultOf 12 = .ok (.aload_n 0, 1) := by decide +kernel
theorem dX6_faultOf_13 : decode cX6_faultOf 13 = .ok (.iconst 2, 1) := by decide +kernel
theorem dX6_faultOf_14 : decode cX6_faultOf 14 = .ok (.invokevirtual 145, 3) := by decide +kernel
theorem dX6_faultOf_17 : decode cX6_faultOf 17 = .ok (.istore 4, 2) := by decide +kernel
theorem dX6_faultOf_19 : decode cX6_faultOf 19 = .ok (.iload_n 1, 1) := by decide +kernel
theorem dX6_faultOf_20 : decode cX6_faultOf 20 = .ok (.ifCond .ne 7, 3) := by decide +kernel
theorem dX6_faultOf_23 : decode cX6_faultOf 23 = .ok (.iload_n 2, 1) := by decide +kernel
theorem dX6_faultOf_24 : decode cX6_faultOf 24 = .ok (.goto 14, 3) := by decide +kernel
theorem dX6_faultOf_27 : decode cX6_faultOf 27 = .ok (.iload_n 1, 1) := by decide +kernel
theorem dX6_faultOf_28 : decode cX6_faultOf 28 = .ok (.iconst 1, 1) := by decide +kernel
theorem dX6_faultOf_29 : decode cX6_faultOf 29 = .ok (.if_icmp .ne 7, 3) := by decide +kernel
theorem dX6_faultOf_32 : decode cX6_faultOf 32 = .ok (.iload_n 3, 1) := by decide +kernel
theorem dX6_faultOf_33 : decode cX6_faultOf 33 = .ok (.goto 5, 3) := by decide +kernel
theorem dX6_faultOf_36 : decode cX6_faultOf 36 = .ok (.iload 4, 2) := by decide +kernel
theorem dX6_faultOf_38 : decode cX6_faultOf 38 = .ok (.ireturn, 1) := by decide +kernel
theorem dX6_reads_0 : decode cX6_reads 0 = .ok (.aload_n 0, 1) := by decide +kernel
theorem dX6_reads_1 : decode cX6_reads 1 = .ok (.iconst 0, 1) := by decide +kernel
theorem dX6_reads_2 : decode cX6_reads 2 = .ok (.invokevirtual 149, 3) := by decide +kernel
theorem dX6_reads_5 : decode cX6_reads 5 = .ok (.istore_n 1, 1) := by decide +kernel
theorem dX6_reads_6 : decode cX6_reads 6 = .ok (.return_, 1) := by decide +kernel
theorem dX6_fault_0 : decode cX6_fault 0 = .ok (.iload_n 1, 1) := by decide +kernel
theorem dX6_fault_1 : decode cX6_fault 1 = .ok (.invokestatic 111, 3) := by decide +kernel
theorem dX6_fault_4 : decode cX6_fault 4 = .ok (.ifCond .eq 11, 3) := by decide +kernel
theorem dX6_fault_7 : decode cX6_fault 7 = .ok (.aload_n 0, 1) := by decide +kernel
theorem dX6_fault_8 : decode cX6_fault 8 = .ok (.iload_n 1, 1) := by decide +kernel
theorem dX6_fault_9 : decode cX6_fault 9 = .ok (.invokevirtual 149, 3) := by decide +kernel
theorem dX6_fault_12 : decode cX6_fault 12 = .ok (.goto 5, 3) := by decide +kernel
theorem dX6_fault_15 : decode cX6_fault 15 = .ok (.bipush (-2), 2) := by decide +kernel
theorem dX6_fault_17 : decode cX6_fault 17 = .ok (.ireturn, 1) := by decide +kernel
theorem dX6_isSailor_0 : decode cX6_isSailor 0 = .ok (.aload_n 0, 1) := by decide +kernel
theorem dX6_isSailor_1 : decode cX6_isSailor 1 = .ok (.invokevirtual 152, 3) := by decide +kernel
theorem dX6_isSailor_4 : decode cX6_isSailor 4 = .ok (.iload_n 1, 1) := by decide +kernel
theorem dX6_isSailor_5 : decode cX6_isSailor 5 = .ok (.iconst 0, 1) := by decide +kernel
theorem dX6_isSailor_6 : decode cX6_isSailor 6 = .ok (.aload_n 0, 1) := by decide +kernel
theorem dX6_isSailor_7 : decode cX6_isSailor 7 = .ok (.getfield 123, 3) := by decide +kernel
theorem dX6_isSailor_10 : decode cX6_isSailor 10 = .ok (.iconst 1, 1) := by decide +kernel
theorem dX6_isSailor_11 : decode cX6_isSailor 11 = .ok (.isub, 1) := by decide +kernel
theorem dX6_isSailor_12 : decode cX6_isSailor 12 = .ok (.invokestatic 107, 3) := by decide +kernel
theorem dX6_isSailor_15 : decode cX6_isSailor 15 = .ok (.ireturn, 1) := by decide +kernel
theorem dX6_isHouse_0 : decode cX6_isHouse 0 = .ok (.aload_n 0, 1) := by decide +kernel
theorem dX6_isHouse_1 : decode cX6_isHouse 1 = .ok (.invokevirtual 152, 3) := by decide +kernel
theorem dX6_isHouse_4 : decode cX6_isHouse 4 = .ok (.iload_n 1, 1) := by decide +kernel
theorem dX6_isHouse_5 : decode cX6_isHouse 5 = .ok (.iconst 0, 1) := by decide +kernel
theorem dX6_isHouse_6 : decode cX6_isHouse 6 = .ok (.aload_n 0, 1) := by decide +kernel
theorem dX6_isHouse_7 : decode cX6_isHouse 7 = .ok (.getfield 126, 3) := by decide +kernel
theorem dX6_isHouse_10 : decode cX6_isHouse 10 = .ok (.iconst 1, 1) := by decide +kernel
theorem dX6_isHouse_11 : decode cX6_isHouse 11 = .ok (.isub, 1) := by decide +kernel
theorem dX6_isHouse_12 : decode cX6_isHouse 12 = .ok (.invokestatic 107, 3) := by decide +kernel
theorem dX6_isHouse_15 : decode cX6_isHouse 15 = .ok (.ireturn, 1) := by decide +kernel
theorem dX6_isShip_0 : decode cX6_isShip 0 = .ok (.aload_n 0, 1) := by decide +kernel
theorem dX6_isShip_1 : decode cX6_isShip 1 = .ok (.invokevirtual 152, 3) := by decide +kernel
theorem dX6_isShip_4 : decode cX6_isShip 4 = .ok (.iload_n 1, 1) := by decide +kernel
theorem dX6_isShip_5 : decode cX6_isShip 5 = .ok (.iconst 0, 1) := by decide +kernel
theorem dX6_isShip_6 : decode cX6_isShip 6 = .ok (.aload_n 0, 1) := by decide +kernel
theorem dX6_isShip_7 : decode cX6_isShip 7 = .ok (.getfield 129, 3) := by decide +kernel
theorem dX6_isShip_10 : decode cX6_isShip 10 = .ok (.iconst 1, 1) := by decide +kernel
theorem dX6_isShip_11 : decode cX6_isShip 11 = .ok (.isub, 1) := by decide +kernel
theorem dX6_isShip_12 : decode cX6_isShip 12 = .ok (.invokestatic 107, 3) := by decide +kernel
theorem dX6_isShip_15 : decode cX6_isShip 15 = .ok (.ireturn, 1) := by decide +kernel
theorem dX6_sailorOf_0 : decode cX6_sailorOf 0 = .ok (.iload_n 2, 1) := by decide +kernel
theorem dX6_sailorOf_1 : decode cX6_sailorOf 1 = .ok (.ifCond .ne 12, 3) := by decide +kernel
theorem dX6_sailorOf_4 : decode cX6_sailorOf 4 = .ok (.aload_n 0, 1) := by decide +kernel
theorem dX6_sailorOf_5 : decode cX6_sailorOf 5 = .ok (.getfield 16, 3) := by decide +kernel
theorem dX6_sailorOf_8 : decode cX6_sailorOf 8 = .ok (.iload_n 1, 1) := by decide +kernel
theorem dX6_sailorOf_9 : decode cX6_sailorOf 9 = .ok (.iaload, 1) := by decide +kernel
theorem dX6_sailorOf_10 : decode cX6_sailorOf 10 = .ok (.goto 37, 3) := by decide +kernel
theorem dX6_sailorOf_13 : decode cX6_sailorOf 13 = .ok (.iload_n 2, 1) := by decide +kernel
theorem dX6_sailorOf_14 : decode cX6_sailorOf 14 = .ok (.iconst 1, 1) := by decide +kernel
theorem dX6_sailorOf_15 : decode cX6_sailorOf 15 = .ok (.if_icmp .ne 12, 3) := by decide +kernel
theorem dX6_sailorOf_18 : decode cX6_sailorOf 18 = .ok (.aload_n 0, 1) := by decide +kernel
theorem dX6_sailorOf_19 : decode cX6_sailorOf 19 = .ok (.getfield 19, 3) := by decide +kernel
theorem dX6_sailorOf_22 : decode cX6_sailorOf 22 = .ok (.iload_n 1, 1) := by decide +kernel
theorem dX6_sailorOf_23 : decode cX6_sailorOf 23 = .ok (.iaload, 1) := by decide +kernel
theorem dX6_sailorOf_24 : decode cX6_sailorOf 24 = .ok (.goto 23, 3) := by decide +kernel
theorem dX6_sailorOf_27 : decode cX6_sailorOf 27 = .ok (.iload_n 2, 1) := by decide +kernel
theorem dX6_sailorOf_28 : decode cX6_sailorOf 28 = .ok (.iconst 2, 1) := by decide +kernel
theorem dX6_sailorOf_29 : decode cX6_sailorOf 29 = .ok (.if_icmp .ne 12, 3) := by decide +kernel
theorem dX6_sailorOf_32 : decode cX6_sailorOf 32 = .ok (.aload_n 0, 1) := by decide +kernel
theorem dX6_sailorOf_33 : decode cX6_sailorOf 33 = .ok (.getfield 22, 3) := by decide +kernel
theorem dX6_sailorOf_36 : decode cX6_sailorOf 36 = .ok (.iload_n 1, 1) := by decide +kernel
theorem dX6_sailorOf_37 : decode cX6_sailorOf 37 = .ok (.iaload, 1) := by decide +kernel
theorem dX6_sailorOf_38 : decode cX6_sailorOf 38 = .ok (.goto 9, 3) := by decide +kernel
theorem dX6_sailorOf_41 : decode cX6_sailorOf 41 = .ok (.aload_n 0, 1) := by decide +kernel
theorem dX6_sailorOf_42 : decode cX6_sailorOf 42 = .ok (.getfield 25, 3) := by decide +kernel
theorem dX6_sailorOf_45 : decode cX6_sailorOf 45 = .ok (.iload_n 1, 1) := by decide +kernel
theorem dX6_sailorOf_46 : decode cX6_sailorOf 46 = .ok (.iaload, 1) := by decide +kernel
theorem dX6_sailorOf_47 : decode cX6_sailorOf 47 = .ok (.ireturn, 1) := by decide +kernel
theorem dX6_sailor_0 : decode cX6_sailor 0 = .ok (.aload_n 0, 1) := by decide +kernel
theorem dX6_sailor_1 : decode cX6_sailor 1 = .ok (.iload_n 1, 1) := by decide +kernel
theorem dX6_sailor_2 : decode cX6_sailor 2 = .ok (.invokevirtual 155, 3) := by decide +kernel
theorem dX6_sailor_5 : decode cX6_sailor 5 = .ok (.ifCond .eq 21, 3) := by decide +kernel
theorem dX6_sailor_8 : decode cX6_sailor 8 = .ok (.iload_n 2, 1) := by decide +kernel
theorem dX6_sailor_9 : decode cX6_sailor 9 = .ok (.iconst 0, 1) := by decide +kernel
theorem dX6_sailor_10 : decode cX6_sailor 10 = .ok (.iconst 3, 1) := by decide +kernel
theorem dX6_sailor_11 : decode cX6_sailor 11 = .ok (.invokestatic 107, 3) := by decide +kernel
theorem dX6_sailor_14 : decode cX6_sailor 14 = .ok (.ifCond .eq 12, 3) := by decide +kernel
theorem dX6_sailor_17 : decode cX6_sailor 17 = .ok (.aload_n 0, 1) := by decide +kernel
theorem dX6_sailor_18 : decode cX6_sailor 18 = .ok (.iload_n 1, 1) := by decide +kernel
theorem dX6_sailor_19 : decode cX6_sailor 19 = .ok (.iload_n 2, 1) := by decide +kernel
theorem dX6_sailor_20 : decode cX6_sailor 20 = .ok (.invokevirtual 158, 3) := by decide +kernel
theorem dX6_sailor_23 : decode cX6_sailor 23 = .ok (.goto 5, 3) := by decide +kernel
theorem dX6_sailor_26 : decode cX6_sailor 26 = .ok (.bipush (-2), 2) := by decide +kernel
theorem dX6_sailor_28 : decode cX6_sailor 28 = .ok (.ireturn, 1) := by decide +kernel
theorem dX6_house_0 : decode cX6_house 0 = .ok (.aload_n 0, 1) := by decide +kernel
theorem dX6_house_1 : decode cX6_house 1 = .ok (.iload_n 1, 1) := by decide +kernel
theorem dX6_house_2 : decode cX6_house 2 = .ok (.invokevirtual 161, 3) := by decide +kernel
theorem dX6_house_5 : decode cX6_house 5 = .ok (.ifCond .eq 34, 3) := by decide +kernel
theorem dX6_house_8 : decode cX6_house 8 = .ok (.iload_n 2, 1) := by decide +kernel
theorem dX6_house_9 : decode cX6_house 9 = .ok (.iconst 0, 1) := by decide +kernel
theorem dX6_house_10 : decode cX6_house 10 = .ok (.iconst 1, 1) := by decide +kernel
theorem dX6_house_11 : decode cX6_house 11 = .ok (.invokestatic 107, 3) := by decide +kernel
theorem dX6_house_14 : decode cX6_house 14 = .ok (.ifCond .eq 25, 3) := by decide +kernel
theorem dX6_house_17 : decode cX6_house 17 = .ok (.iload_n 2, 1) := by decide +kernel
theorem dX6_house_18 : decode cX6_house 18 = .ok (.ifCond .ne 12, 3) := by decide +kernel
theorem dX6_house_21 : decode cX6_house 21 = .ok (.aload_n 0, 1) := by decide +kernel
theorem dX6_house_22 : decode cX6_house 22 = .ok (.getfield 28, 3) := by decide +kernel
theorem dX6_house_25 : decode cX6_house 25 = .ok (.iload_n 1, 1) := by decide +kernel
theorem dX6_house_26 : decode cX6_house 26 = .ok (.iaload, 1) := by decide +kernel
theorem dX6_house_27 : decode cX6_house 27 = .ok (.goto 14, 3) := by decide +kernel
theorem dX6_house_30 : decode cX6_house 30 = .ok (.aload_n 0, 1) := by decide +kernel
theorem dX6_house_31 : decode cX6_house 31 = .ok (.getfield 31, 3) := by decide +kernel
theorem dX6_house_34 : decode cX6_house 34 = .ok (.iload_n 1, 1) := by decide +kernel
theorem dX6_house_35 : decode cX6_house 35 = .ok (.iaload, 1) := by decide +kernel
theorem dX6_house_36 : decode cX6_house 36 = .ok (.goto 5, 3) := by decide +kernel
theorem dX6_house_39 : decode cX6_house 39 = .ok (.bipush (-2), 2) := by decide +kernel
theorem dX6_house_41 : decode cX6_house 41 = .ok (.ireturn, 1) := by decide +kernel
theorem dX6_shipOf_0 : decode cX6_shipOf 0 = .ok (.iload_n 2, 1) := by decide +kernel
theorem dX6_shipOf_1 : decode cX6_shipOf 1 = .ok (.ifCond .ne 12, 3) := by decide +kernel
theorem dX6_shipOf_4 : decode cX6_shipOf 4 = .ok (.aload_n 0, 1) := by decide +kernel
theorem dX6_shipOf_5 : decode cX6_shipOf 5 = .ok (.getfield 34, 3) := by decide +kernel
theorem dX6_shipOf_8 : decode cX6_shipOf 8 = .ok (.iload_n 1, 1) := by decide +kernel
theorem dX6_shipOf_9 : decode cX6_shipOf 9 = .ok (.iaload, 1) := by decide +kernel
theorem dX6_shipOf_10 : decode cX6_shipOf 10 = .ok (.goto 37, 3) := by decide +kernel
theorem dX6_shipOf_13 : decode cX6_shipOf 13 = .ok (.iload_n 2, 1) := by decide +kernel
theorem dX6_shipOf_14 : decode cX6_shipOf 14 = .ok (.iconst 1, 1) := by decide +kernel
theorem dX6_shipOf_15 : decode cX6_shipOf 15 = .ok (.if_icmp .ne 12, 3) := by decide +kernel
theorem dX6_shipOf_18 : decode cX6_shipOf 18 = .ok (.aload_n 0, 1) := by decide +kernel
theorem dX6_shipOf_19 : decode cX6_shipOf 19 = .ok (.getfield 37, 3) := by decide +kernel
theorem dX6_shipOf_22 : decode cX6_shipOf 22 = .ok (.iload_n 1, 1) := by decide +kernel
theorem dX6_shipOf_23 : decode cX6_shipOf 23 = .ok (.iaload, 1) := by decide +kernel
theorem dX6_shipOf_24 : decode cX6_shipOf 24 = .ok (.goto 23, 3) := by decide +kernel
theorem dX6_shipOf_27 : decode cX6_shipOf 27 = .ok (.iload_n 2, 1) := by decide +kernel
theorem dX6_shipOf_28 : decode cX6_shipOf 28 = .ok (.iconst 2, 1) := by decide +kernel
theorem dX6_shipOf_29 : decode cX6_shipOf 29 = .ok (.if_icmp .ne 12, 3) := by decide +kernel
theorem dX6_shipOf_32 : decode cX6_shipOf 32 = .ok (.aload_n 0, 1) := by decide +kernel
theorem dX6_shipOf_33 : decode cX6_shipOf 33 = .ok (.getfield 40, 3) := by decide +kernel
theorem dX6_shipOf_36 : decode cX6_shipOf 36 = .ok (.iload_n 1, 1) := by decide +kernel
theorem dX6_shipOf_37 : decode cX6_shipOf 37 = .ok (.iaload, 1) := by decide +kernel
theorem dX6_shipOf_38 : decode cX6_shipOf 38 = .ok (.goto 9, 3) := by decide +kernel
theorem dX6_shipOf_41 : decode cX6_shipOf 41 = .ok (.aload_n 0, 1) := by decide +kernel
theorem dX6_shipOf_42 : decode cX6_shipOf 42 = .ok (.getfield 43, 3) := by decide +kernel
theorem dX6_shipOf_45 : decode cX6_shipOf 45 = .ok (.iload_n 1, 1) := by decide +kernel
theorem dX6_shipOf_46 : decode cX6_shipOf 46 = .ok (.iaload, 1) := by decide +kernel
theorem dX6_shipOf_47 : decode cX6_shipOf 47 = .ok (.ireturn, 1) := by decide +kernel
theorem dX6_ship_0 : decode cX6_ship 0 = .ok (.aload_n 0, 1) := by decide +kernel
theorem dX6_ship_1 : decode cX6_ship 1 = .ok (.iload_n 1, 1) := by decide +kernel
theorem dX6_ship_2 : decode cX6_ship 2 = .ok (.invokevirtual 164, 3) := by decide +kernel
theorem dX6_ship_5 : decode cX6_ship 5 = .ok (.ifCond .eq 21, 3) := by decide +kernel
theorem dX6_ship_8 : decode cX6_ship 8 = .ok (.iload_n 2, 1) := by decide +kernel
theorem dX6_ship_9 : decode cX6_ship 9 = .ok (.iconst 0, 1) := by decide +kernel
theorem dX6_ship_10 : decode cX6_ship 10 = .ok (.iconst 3, 1) := by decide +kernel
theorem dX6_ship_11 : decode cX6_ship 11 = .ok (.invokestatic 107, 3) := by decide +kernel
theorem dX6_ship_14 : decode cX6_ship 14 = .ok (.ifCond .eq 12, 3) := by decide +kernel
theorem dX6_ship_17 : decode cX6_ship 17 = .ok (.aload_n 0, 1) := by decide +kernel
theorem dX6_ship_18 : decode cX6_ship 18 = .ok (.iload_n 1, 1) := by decide +kernel
theorem dX6_ship_19 : decode cX6_ship 19 = .ok (.iload_n 2, 1) := by decide +kernel
theorem dX6_ship_20 : decode cX6_ship 20 = .ok (.invokevirtual 167, 3) := by decide +kernel
theorem dX6_ship_23 : decode cX6_ship 23 = .ok (.goto 5, 3) := by decide +kernel
theorem dX6_ship_26 : decode cX6_ship 26 = .ok (.bipush (-2), 2) := by decide +kernel
theorem dX6_ship_28 : decode cX6_ship 28 = .ok (.ireturn, 1) := by decide +kernel
theorem dX6_cap_0 : decode cX6_cap 0 = .ok (.iload_n 1, 1) := by decide +kernel
theorem dX6_cap_1 : decode cX6_cap 1 = .ok (.iconst 0, 1) := by decide +kernel
theorem dX6_cap_2 : decode cX6_cap 2 = .ok (.bipush 9, 2) := by decide +kernel
theorem dX6_cap_4 : decode cX6_cap 4 = .ok (.invokestatic 107, 3) := by decide +kernel
theorem dX6_cap_7 : decode cX6_cap 7 = .ok (.ifCond .ne 6, 3) := by decide +kernel
theorem dX6_cap_10 : decode cX6_cap 10 = .ok (.bipush (-2), 2) := by decide +kernel
theorem dX6_cap_12 : decode cX6_cap 12 = .ok (.ireturn, 1) := by decide +kernel
theorem dX6_cap_13 : decode cX6_cap 13 = .ok (.aload_n 0, 1) := by decide +kernel
theorem dX6_cap_14 : decode cX6_cap 14 = .ok (.getfield 101, 3) := by decide +kernel
theorem dX6_cap_17 : decode cX6_cap 17 = .ok (.istore_n 2, 1) := by decide +kernel
theorem dX6_cap_18 : decode cX6_cap 18 = .ok (.aload_n 0, 1) := by decide +kernel
theorem dX6_cap_19 : decode cX6_cap 19 = .ok (.iload_n 1, 1) := by decide +kernel
theorem dX6_cap_20 : decode cX6_cap 20 = .ok (.putfield 101, 3) := by decide +kernel
theorem dX6_cap_23 : decode cX6_cap 23 = .ok (.iload_n 2, 1) := by decide +kernel
theorem dX6_cap_24 : decode cX6_cap 24 = .ok (.ireturn, 1) := by decide +kernel
theorem dX6_begins_0 : decode cX6_begins 0 = .ok (.iconst 0, 1) := by decide +kernel
theorem dX6_begins_1 : decode cX6_begins 1 = .ok (.istore_n 1, 1) := by decide +kernel
theorem dX6_begins_2 : decode cX6_begins 2 = .ok (.iload_n 1, 1) := by decide +kernel
theorem dX6_begins_3 : decode cX6_begins 3 = .ok (.bipush 8, 2) := by decide +kernel
theorem dX6_begins_5 : decode cX6_begins 5 = .ok (.if_icmp .ge 16, 3) := by decide +kernel
theorem dX6_begins_8 : decode cX6_begins 8 = .ok (.aload_n 0, 1) := by decide +kernel
theorem dX6_begins_9 : decode cX6_begins 9 = .ok (.getfield 55, 3) := by decide +kernel
theorem dX6_begins_12 : decode cX6_begins 12 = .ok (.iload_n 1, 1) := by decide +kernel
theorem dX6_begins_13 : decode cX6_begins 13 = .ok (.iconst 0, 1) := by decide +kernel
theorem dX6_begins_14 : decode cX6_begins 14 = .ok (.iastore, 1) := by decide +kernel
theorem dX6_begins_15 : decode cX6_begins 15 = .ok (.iinc 1 1, 3) := by decide +kernel
theorem dX6_begins_18 : decode cX6_begins 18 = .ok (.goto (-16), 3) := by decide +kernel
theorem dX6_begins_21 : decode cX6_begins 21 = .ok (.iconst 0, 1) := by decide +kernel
theorem dX6_begins_22 : decode cX6_begins 22 = .ok (.istore_n 1, 1) := by decide +kernel
theorem dX6_begins_23 : decode cX6_begins 23 = .ok (.iload_n 1, 1) := by decide +kernel
theorem dX6_begins_24 : decode cX6_begins 24 = .ok (.bipush 6, 2) := by decide +kernel
theorem dX6_begins_26 : decode cX6_begins 26 = .ok (.if_icmp .ge 30, 3) := by decide +kernel
theorem dX6_begins_29 : decode cX6_begins 29 = .ok (.aload_n 0, 1) := by decide +kernel
theorem dX6_begins_30 : decode cX6_begins 30 = .ok (.getfield 58, 3) := by decide +kernel
theorem dX6_begins_33 : decode cX6_begins 33 = .ok (.iload_n 1, 1) := by decide +kernel
theorem dX6_begins_34 : decode cX6_begins 34 = .ok (.iconst 0, 1) := by decide +kernel
theorem dX6_begins_35 : decode cX6_begins 35 = .ok (.iastore, 1) := by decide +kernel
theorem dX6_begins_36 : decode cX6_begins 36 = .ok (.aload_n 0, 1) := by decide +kernel
theorem dX6_begins_37 : decode cX6_begins 37 = .ok (.getfield 61, 3) := by decide +kernel
theorem dX6_begins_40 : decode cX6_begins 40 = .ok (.iload_n 1, 1) := by decide +kernel
theorem dX6_begins_41 : decode cX6_begins 41 = .ok (.iconst 0, 1) := by decide +kernel
theorem dX6_begins_42 : decode cX6_begins 42 = .ok (.iastore, 1) := by decide +kernel
theorem dX6_begins_43 : decode cX6_begins 43 = .ok (.aload_n 0, 1) := by decide +kernel
theorem dX6_begins_44 : decode cX6_begins 44 = .ok (.getfield 64, 3) := by decide +kernel
theorem dX6_begins_47 : decode cX6_begins 47 = .ok (.iload_n 1, 1) := by decide +kernel
theorem dX6_begins_48 : decode cX6_begins 48 = .ok (.iconst 0, 1) := by decide +kernel
theorem dX6_begins_49 : decode cX6_begins 49 = .ok (.iastore, 1) := by decide +kernel
theorem dX6_begins_50 : decode cX6_begins 50 = .ok (.iinc 1 1, 3) := by decide +kernel
theorem dX6_begins_53 : decode cX6_begins 53 = .ok (.goto (-30), 3) := by decide +kernel
theorem dX6_begins_56 : decode cX6_begins 56 = .ok (.aload_n 0, 1) := by decide +kernel
theorem dX6_begins_57 : decode cX6_begins 57 = .ok (.iconst (-1), 1) := by decide +kernel
theorem dX6_begins_58 : decode cX6_begins 58 = .ok (.putfield 170, 3) := by decide +kernel
theorem dX6_begins_61 : decode cX6_begins 61 = .ok (.iconst 0, 1) := by decide +kernel
theorem dX6_begins_62 : decode cX6_begins 62 = .ok (.istore_n 1, 1) := by decide +kernel
theorem dX6_begins_63 : decode cX6_begins 63 = .ok (.iload_n 1, 1) := by decide +kernel
theorem dX6_begins_64 : decode cX6_begins 64 = .ok (.aload_n 0, 1) := by decide +kernel
theorem dX6_begins_65 : decode cX6_begins 65 = .ok (.getfield 123, 3) := by decide +kernel
theorem dX6_begins_68 : decode cX6_begins 68 = .ok (.if_icmp .ge 144, 3) := by decide +kernel
theorem dX6_begins_71 : decode cX6_begins 71 = .ok (.aload_n 0, 1) := by decide +kernel
theorem dX6_begins_72 : decode cX6_begins 72 = .ok (.getfield 46, 3) := by decide +kernel
theorem dX6_begins_75 : decode cX6_begins 75 = .ok (.iload_n 1, 1) := by decide +kernel
theorem dX6_begins_76 : decode cX6_begins 76 = .ok (.aload_n 0, 1) := by decide +kernel
theorem dX6_begins_77 : decode cX6_begins 77 = .ok (.getfield 16, 3) := by decide +kernel
theorem dX6_begins_80 : decode cX6_begins 80 = .ok (.iload_n 1, 1) := by decide +kernel
theorem dX6_begins_81 : decode cX6_begins 81 = .ok (.iaload, 1) := by decide +kernel
theorem dX6_begins_82 : decode cX6_begins 82 = .ok (.iconst 3, 1) := by decide +kernel
theorem dX6_begins_83 : decode cX6_begins 83 = .ok (.if_icmp .ne 7, 3) := by decide +kernel
theorem dX6_begins_86 : decode cX6_begins 86 = .ok (.iconst 1, 1) := by decide +kernel
theorem dX6_begins_87 : decode cX6_begins 87 = .ok (.goto 4, 3) := by decide +kernel
theorem dX6_begins_90 : decode cX6_begins 90 = .ok (.iconst 0, 1) := by decide +kernel
theorem dX6_begins_91 : decode cX6_begins 91 = .ok (.iastore, 1) := by decide +kernel
theorem dX6_begins_92 : decode cX6_begins 92 = .ok (.aload_n 0, 1) := by decide +kernel
theorem dX6_begins_93 : decode cX6_begins 93 = .ok (.getfield 49, 3) := by decide +kernel
theorem dX6_begins_96 : decode cX6_begins 96 = .ok (.iload_n 1, 1) := by decide +kernel
theorem dX6_begins_97 : decode cX6_begins 97 = .ok (.bipush 10, 2) := by decide +kernel
theorem dX6_begins_99 : decode cX6_begins 99 = .ok (.aload_n 0, 1) := by decide +kernel
theorem dX6_begins_100 : decode cX6_begins 100 = .ok (.getfield 22, 3) := by decide +kernel
theorem dX6_begins_103 : decode cX6_begins 103 = .ok (.iload_n 1, 1) := by decide +kernel
theorem dX6_begins_104 : decode cX6_begins 104 = .ok (.iaload, 1) := by decide +kernel
theorem dX6_begins_105 : decode cX6_begins 105 = .ok (.imul, 1) := by decide +kernel
theorem dX6_begins_106 : decode cX6_begins 106 = .ok (.iastore, 1) := by decide +kernel
theorem dX6_begins_107 : decode cX6_begins 107 = .ok (.aload_n 0, 1) := by decide +kernel
theorem dX6_begins_108 : decode cX6_begins 108 = .ok (.getfield 67, 3) := by decide +kernel
theorem dX6_begins_111 : decode cX6_begins 111 = .ok (.iload_n 1, 1) := by decide +kernel
theorem dX6_begins_112 : decode cX6_begins 112 = .ok (.iconst (-1), 1) := by decide +kernel
theorem dX6_begins_113 : decode cX6_begins 113 = .ok (.iastore, 1) := by decide +kernel
theorem dX6_begins_114 : decode cX6_begins 114 = .ok (.iconst 0, 1) := by decide +kernel
theorem dX6_begins_115 : decode cX6_begins 115 = .ok (.istore_n 2, 1) := by decide +kernel
theorem dX6_begins_116 : decode cX6_begins 116 = .ok (.iconst 0, 1) := by decide +kernel
theorem dX6_begins_117 : decode cX6_begins 117 = .ok (.istore_n 3, 1) := by decide +kernel
theorem dX6_begins_118 : decode cX6_begins 118 = .ok (.iload_n 3, 1) := by decide +kernel
theorem dX6_begins_119 : decode cX6_begins 119 = .ok (.iload_n 1, 1) := by decide +kernel
theorem dX6_begins_120 : decode cX6_begins 120 = .ok (.if_icmp .ge 32, 3) := by decide +kernel
theorem dX6_begins_123 : decode cX6_begins 123 = .ok (.iload_n 2, 1) := by decide +kernel
theorem dX6_begins_124 : decode cX6_begins 124 = .ok (.aload_n 0, 1) := by decide +kernel
theorem dX6_begins_125 : decode cX6_begins 125 = .ok (.getfield 25, 3) := by decide +kernel
theorem dX6_begins_128 : decode cX6_begins 128 = .ok (.iload_n 3, 1) := by decide +kernel
theorem dX6_begins_129 : decode cX6_begins 129 = .ok (.iaload, 1) := by decide +kernel
theorem dX6_begins_130 : decode cX6_begins 130 = .ok (.aload_n 0, 1) := by decide +kernel
theorem dX6_begins_131 : decode cX6_begins 131 = .ok (.getfield 25, 3) := by decide +kernel
theorem dX6_begins_134 : decode cX6_begins 134 = .ok (.iload_n 1, 1) := by decide +kernel
theorem dX6_begins_135 : decode cX6_begins 135 = .ok (.iaload, 1) := by decide +kernel
theorem dX6_begins_136 : decode cX6_begins 136 = .ok (.if_icmp .ne 7, 3) := by decide +kernel
theorem dX6_begins_139 : decode cX6_begins 139 = .ok (.iconst 1, 1) := by decide +kernel
theorem dX6_begins_140 : decode cX6_begins 140 = .ok (.goto 4, 3) := by decide +kernel
theorem dX6_begins_143 : decode cX6_begins 143 = .ok (.iconst 0, 1) := by decide +kernel
theorem dX6_begins_144 : decode cX6_begins 144 = .ok (.iadd, 1) := by decide +kernel
theorem dX6_begins_145 : decode cX6_begins 145 = .ok (.istore_n 2, 1) := by decide +kernel
theorem dX6_begins_146 : decode cX6_begins 146 = .ok (.iinc 3 1, 3) := by decide +kernel
theorem dX6_begins_149 : decode cX6_begins 149 = .ok (.goto (-31), 3) := by decide +kernel
theorem dX6_begins_152 : decode cX6_begins 152 = .ok (.aload_n 0, 1) := by decide +kernel
theorem dX6_begins_153 : decode cX6_begins 153 = .ok (.getfield 25, 3) := by decide +kernel
theorem dX6_begins_156 : decode cX6_begins 156 = .ok (.iload_n 1, 1) := by decide +kernel
theorem dX6_begins_157 : decode cX6_begins 157 = .ok (.iaload, 1) := by decide +kernel
theorem dX6_begins_158 : decode cX6_begins 158 = .ok (.aload_n 0, 1) := by decide +kernel
theorem dX6_begins_159 : decode cX6_begins 159 = .ok (.getfield 126, 3) := by decide +kernel
theorem dX6_begins_162 : decode cX6_begins 162 = .ok (.if_icmp .ge 22, 3) := by decide +kernel
theorem dX6_begins_165 : decode cX6_begins 165 = .ok (.iload_n 2, 1) := by decide +kernel
theorem dX6_begins_166 : decode cX6_begins 166 = .ok (.aload_n 0, 1) := by decide +kernel
theorem dX6_begins_167 : decode cX6_begins 167 = .ok (.getfield 31, 3) := by decide +kernel
theorem dX6_begins_170 : decode cX6_begins 170 = .ok (.aload_n 0, 1) := by decide +kernel
theorem dX6_begins_171 : decode cX6_begins 171 = .ok (.getfield 25, 3) := by decide +kernel
theorem dX6_begins_174 : decode cX6_begins 174 = .ok (.iload_n 1, 1) := by decide +kernel
theorem dX6_begins_175 : decode cX6_begins 175 = .ok (.iaload, 1) := by decide +kernel
theorem dX6_begins_176 : decode cX6_begins 176 = .ok (.iaload, 1) := by decide +kernel
theorem dX6_begins_177 : decode cX6_begins 177 = .ok (.if_icmp .ge 7, 3) := by decide +kernel
theorem dX6_begins_180 : decode cX6_begins 180 = .ok (.iconst 1, 1) := by decide +kernel
theorem dX6_begins_181 : decode cX6_begins 181 = .ok (.goto 4, 3) := by decide +kernel
theorem dX6_begins_184 : decode cX6_begins 184 = .ok (.iconst 0, 1) := by decide +kernel
theorem dX6_begins_185 : decode cX6_begins 185 = .ok (.istore_n 3, 1) := by decide +kernel
theorem dX6_begins_186 : decode cX6_begins 186 = .ok (.aload_n 0, 1) := by decide +kernel
theorem dX6_begins_187 : decode cX6_begins 187 = .ok (.getfield 52, 3) := by decide +kernel
theorem dX6_begins_190 : decode cX6_begins 190 = .ok (.iload_n 1, 1) := by decide +kernel
theorem dX6_begins_191 : decode cX6_begins 191 = .ok (.iload_n 3, 1) := by decide +kernel
theorem dX6_begins_192 : decode cX6_begins 192 = .ok (.ifCond .eq 12, 3) := by decide +kernel
theorem dX6_begins_195 : decode cX6_begins 195 = .ok (.aload_n 0, 1) := by decide +kernel
theorem dX6_begins_196 : decode cX6_begins 196 = .ok (.getfield 25, 3) := by decide +kernel
theorem dX6_begins_199 : decode cX6_begins 199 = .ok (.iload_n 1, 1) := by decide +kernel
theorem dX6_begins_200 : decode cX6_begins 200 = .ok (.iaload, 1) := by decide +kernel
theorem dX6_begins_201 : decode cX6_begins 201 = .ok (.goto 4, 3) := by decide +kernel
theorem dX6_begins_204 : decode cX6_begins 204 = .ok (.iconst (-1), 1) := by decide +kernel
theorem dX6_begins_205 : decode cX6_begins 205 = .ok (.iastore, 1) := by decide +kernel
theorem dX6_begins_206 : decode cX6_begins 206 = .ok (.iinc 1 1, 3) := by decide +kernel
theorem dX6_begins_209 : decode cX6_begins 209 = .ok (.goto (-146), 3) := by decide +kernel
theorem dX6_begins_212 : decode cX6_begins 212 = .ok (.return_, 1) := by decide +kernel
theorem dX6_nextFor_0 : decode cX6_nextFor 0 = .ok (.iconst (-1), 1) := by decide +kernel
theorem dX6_nextFor_1 : decode cX6_nextFor 1 = .ok (.istore_n 2, 1) := by decide +kernel
theorem dX6_nextFor_2 : decode cX6_nextFor 2 = .ok (.iconst 0, 1) := by decide +kernel
theorem dX6_nextFor_3 : decode cX6_nextFor 3 = .ok (.istore_n 3, 1) := by decide +kernel
theorem dX6_nextFor_4 : decode cX6_nextFor 4 = .ok (.iload_n 3, 1) := by decide +kernel
theorem dX6_nextFor_5 : decode cX6_nextFor 5 = .ok (.aload_n 0, 1) := by decide +kernel
theorem dX6_nextFor_6 : decode cX6_nextFor 6 = .ok (.getfield 123, 3) := by decide +kernel
theorem dX6_nextFor_9 : decode cX6_nextFor 9 = .ok (.if_icmp .ge 84, 3) := by decide +kernel
theorem dX6_nextFor_12 : decode cX6_nextFor 12 = .ok (.aload_n 0, 1) := by decide +kernel
theorem dX6_nextFor_13 : decode cX6_nextFor 13 = .ok (.getfield 52, 3) := by decide +kernel
theorem dX6_nextFor_16 : decode cX6_nextFor 16 = .ok (.iload_n 3, 1) := by decide +kernel
theorem dX6_nextFor_17 : decode cX6_nextFor 17 = .ok (.iaload, 1) := by decide +kernel
theorem dX6_nextFor_18 : decode cX6_nextFor 18 = .ok (.iconst 0, 1) := by decide +kernel
theorem dX6_nextFor_19 : decode cX6_nextFor 19 = .ok (.bipush 7, 2) := by decide +kernel
theorem dX6_nextFor_21 : decode cX6_nextFor 21 = .ok (.invokestatic 107, 3) := by decide +kernel
theorem dX6_nextFor_24 : decode cX6_nextFor 24 = .ok (.ifCond .eq 29, 3) := by decide +kernel
theorem dX6_nextFor_27 : decode cX6_nextFor 27 = .ok (.aload_n 0, 1) := by decide +kernel
theorem dX6_nextFor_28 : decode cX6_nextFor 28 = .ok (.getfield 46, 3) := by decide +kernel
theorem dX6_nextFor_31 : decode cX6_nextFor 31 = .ok (.iload_n 3, 1) := by decide +kernel
theorem dX6_nextFor_32 : decode cX6_nextFor 32 = .ok (.iaload, 1) := by decide +kernel
theorem dX6_nextFor_33 : decode cX6_nextFor 33 = .ok (.ifCond .le 20, 3) := by decide +kernel
theorem dX6_nextFor_36 : decode cX6_nextFor 36 = .ok (.aload_n 0, 1) := by decide +kernel
theorem dX6_nextFor_37 : decode cX6_nextFor 37 = .ok (.getfield 58, 3) := by decide +kernel
theorem dX6_nextFor_40 : decode cX6_nextFor 40 = .ok (.iload_n 1, 1) := by decide +kernel
theorem dX6_nextFor_41 : decode cX6_nextFor 41 = .ok (.iaload, 1) := by decide +kernel
theorem dX6_nextFor_42 : decode cX6_nextFor 42 = .ok (.iload_n 3, 1) := by decide +kernel
theorem dX6_nextFor_43 : decode cX6_nextFor 43 = .ok (.invokestatic 173, 3) := by decide +kernel
theorem dX6_nextFor_46 : decode cX6_nextFor 46 = .ok (.ifCond .ne 7, 3) := by decide +kernel
theorem dX6_nextFor_49 : decode cX6_nextFor 49 = .ok (.iconst 1, 1) := by decide +kernel
theorem dX6_nextFor_50 : decode cX6_nextFor 50 = .ok (.goto 4, 3) := by decide +kernel
theorem dX6_nextFor_53 : decode cX6_nextFor 53 = .ok (.iconst 0, 1) := by decide +kernel
theorem dX6_nextFor_54 : decode cX6_nextFor 54 = .ok (.istore 4, 2) := by decide +kernel
theorem dX6_nextFor_56 : decode cX6_nextFor 56 = .ok (.iload 4, 2) := by decide +kernel
theorem dX6_nextFor_58 : decode cX6_nextFor 58 = .ok (.ifCond .eq 27, 3) := by decide +kernel
theorem dX6_nextFor_61 : decode cX6_nextFor 61 = .ok (.iload_n 2, 1) := by decide +kernel
theorem dX6_nextFor_62 : decode cX6_nextFor 62 = .ok (.iconst (-1), 1) := by decide +kernel
theorem dX6_nextFor_63 : decode cX6_nextFor 63 = .ok (.if_icmp .eq 18, 3) := by decide +kernel
theorem dX6_nextFor_66 : decode cX6_nextFor 66 = .ok (.aload_n 0, 1) := by decide +kernel
theorem dX6_nextFor_67 : decode cX6_nextFor 67 = .ok (.getfield 46, 3) := by decide +kernel
theorem dX6_nextFor_70 : decode cX6_nextFor 70 = .ok (.iload_n 3, 1) := by decide +kernel
theorem dX6_nextFor_71 : decode cX6_nextFor 71 = .ok (.iaload, 1) := by decide +kernel
theorem dX6_nextFor_72 : decode cX6_nextFor 72 = .ok (.aload_n 0, 1) := by decide +kernel
theorem dX6_nextFor_73 : decode cX6_nextFor 73 = .ok (.getfield 46, 3) := by decide +kernel
theorem dX6_nextFor_76 : decode cX6_nextFor 76 = .ok (.iload_n 2, 1) := by decide +kernel
theorem dX6_nextFor_77 : decode cX6_nextFor 77 = .ok (.iaload, 1) := by decide +kernel
theorem dX6_nextFor_78 : decode cX6_nextFor 78 = .ok (.if_icmp .le 7, 3) := by decide +kernel
theorem dX6_nextFor_81 : decode cX6_nextFor 81 = .ok (.iload_n 3, 1) := by decide +kernel
theorem dX6_nextFor_82 : decode cX6_nextFor 82 = .ok (.goto 4, 3) := by decide +kernel
theorem dX6_nextFor_85 : decode cX6_nextFor 85 = .ok (.iload_n 2, 1) := by decide +kernel
theorem dX6_nextFor_86 : decode cX6_nextFor 86 = .ok (.istore_n 2, 1) := by decide +kernel
theorem dX6_nextFor_87 : decode cX6_nextFor 87 = .ok (.iinc 3 1, 3) := by decide +kernel
theorem dX6_nextFor_90 : decode cX6_nextFor 90 = .ok (.goto (-86), 3) := by decide +kernel
theorem dX6_nextFor_93 : decode cX6_nextFor 93 = .ok (.iload_n 2, 1) := by decide +kernel
theorem dX6_nextFor_94 : decode cX6_nextFor 94 = .ok (.ireturn, 1) := by decide +kernel
theorem dX6_comes_0 : decode cX6_comes 0 = .ok (.bipush 10, 2) := by decide +kernel
theorem dX6_comes_2 : decode cX6_comes 2 = .ok (.aload_n 0, 1) := by decide +kernel
theorem dX6_comes_3 : decode cX6_comes 3 = .ok (.getfield 40, 3) := by decide +kernel
theorem dX6_comes_6 : decode cX6_comes 6 = .ok (.iload_n 1, 1) := by decide +kernel
theorem dX6_comes_7 : decode cX6_comes 7 = .ok (.iaload, 1) := by decide +kernel
theorem dX6_comes_8 : decode cX6_comes 8 = .ok (.aload_n 0, 1) := by decide +kernel
theorem dX6_comes_9 : decode cX6_comes 9 = .ok (.getfield 101, 3) := by decide +kernel
theorem dX6_comes_12 : decode cX6_comes 12 = .ok (.if_icmp .ge 12, 3) := by decide +kernel
theorem dX6_comes_15 : decode cX6_comes 15 = .ok (.aload_n 0, 1) := by decide +kernel
theorem dX6_comes_16 : decode cX6_comes 16 = .ok (.getfield 40, 3) := by decide +kernel
theorem dX6_comes_19 : decode cX6_comes 19 = .ok (.iload_n 1, 1) := by decide +kernel
theorem dX6_comes_20 : decode cX6_comes 20 = .ok (.iaload, 1) := by decide +kernel
theorem dX6_comes_21 : decode cX6_comes 21 = .ok (.goto 7, 3) := by decide +kernel
theorem dX6_comes_24 : decode cX6_comes 24 = .ok (.aload_n 0, 1) := by decide +kernel
theorem dX6_comes_25 : decode cX6_comes 25 = .ok (.getfield 101, 3) := by decide +kernel
theorem dX6_comes_28 : decode cX6_comes 28 = .ok (.imul, 1) := by decide +kernel
theorem dX6_comes_29 : decode cX6_comes 29 = .ok (.istore_n 3, 1) := by decide +kernel
theorem dX6_comes_30 : decode cX6_comes 30 = .ok (.iconst 0, 1) := by decide +kernel
theorem dX6_comes_31 : decode cX6_comes 31 = .ok (.istore 4, 2) := by decide +kernel
theorem dX6_comes_33 : decode cX6_comes 33 = .ok (.iload 4, 2) := by decide +kernel
theorem dX6_comes_35 : decode cX6_comes 35 = .ok (.aload_n 0, 1) := by decide +kernel
theorem dX6_comes_36 : decode cX6_comes 36 = .ok (.getfield 37, 3) := by decide +kernel
theorem dX6_comes_39 : decode cX6_comes 39 = .ok (.iload_n 1, 1) := by decide +kernel
theorem dX6_comes_40 : decode cX6_comes 40 = .ok (.iaload, 1) := by decide +kernel
theorem dX6_comes_41 : decode cX6_comes 41 = .ok (.if_icmp .ge 74, 3) := by decide +kernel
theorem dX6_comes_44 : decode cX6_comes 44 = .ok (.aload_n 0, 1) := by decide +kernel
theorem dX6_comes_45 : decode cX6_comes 45 = .ok (.iload_n 1, 1) := by decide +kernel
theorem dX6_comes_46 : decode cX6_comes 46 = .ok (.invokevirtual 177, 3) := by decide +kernel
theorem dX6_comes_49 : decode cX6_comes 49 = .ok (.istore 5, 2) := by decide +kernel
theorem dX6_comes_51 : decode cX6_comes 51 = .ok (.iload 5, 2) := by decide +kernel
theorem dX6_comes_53 : decode cX6_comes 53 = .ok (.iconst (-1), 1) := by decide +kernel
theorem dX6_comes_54 : decode cX6_comes 54 = .ok (.if_icmp .eq 55, 3) := by decide +kernel
theorem dX6_comes_57 : decode cX6_comes 57 = .ok (.aload_n 0, 1) := by decide +kernel
theorem dX6_comes_58 : decode cX6_comes 58 = .ok (.getfield 58, 3) := by decide +kernel
theorem dX6_comes_61 : decode cX6_comes 61 = .ok (.iload_n 1, 1) := by decide +kernel
theorem dX6_comes_62 : decode cX6_comes 62 = .ok (.dup2, 1) := by decide +kernel
theorem dX6_comes_63 : decode cX6_comes 63 = .ok (.iaload, 1) := by decide +kernel
theorem dX6_comes_64 : decode cX6_comes 64 = .ok (.iconst 1, 1) := by decide +kernel
theorem dX6_comes_65 : decode cX6_comes 65 = .ok (.iload 5, 2) := by decide +kernel
theorem dX6_comes_67 : decode cX6_comes 67 = .ok (.ishl, 1) := by decide +kernel
theorem dX6_comes_68 : decode cX6_comes 68 = .ok (.ior, 1) := by decide +kernel
theorem dX6_comes_69 : decode cX6_comes 69 = .ok (.iastore, 1) := by decide +kernel
theorem dX6_comes_70 : decode cX6_comes 70 = .ok (.aload_n 0, 1) := by decide +kernel
theorem dX6_comes_71 : decode cX6_comes 71 = .ok (.getfield 61, 3) := by decide +kernel
theorem dX6_comes_74 : decode cX6_comes 74 = .ok (.iload_n 1, 1) := by decide +kernel
theorem dX6_comes_75 : decode cX6_comes 75 = .ok (.dup2, 1) := by decide +kernel
theorem dX6_comes_76 : decode cX6_comes 76 = .ok (.iaload, 1) := by decide +kernel
theorem dX6_comes_77 : decode cX6_comes 77 = .ok (.iload 4, 2) := by decide +kernel
theorem dX6_comes_79 : decode cX6_comes 79 = .ok (.aload_n 0, 1) := by decide +kernel
theorem dX6_comes_80 : decode cX6_comes 80 = .ok (.getfield 43, 3) := by decide +kernel
theorem dX6_comes_83 : decode cX6_comes 83 = .ok (.iload_n 1, 1) := by decide +kernel
theorem dX6_comes_84 : decode cX6_comes 84 = .ok (.iaload, 1) := by decide +kernel
theorem dX6_comes_85 : decode cX6_comes 85 = .ok (.if_icmp .ge 21, 3) := by decide +kernel
theorem dX6_comes_88 : decode cX6_comes 88 = .ok (.aload_n 0, 1) := by decide +kernel
theorem dX6_comes_89 : decode cX6_comes 89 = .ok (.getfield 16, 3) := by decide +kernel
theorem dX6_comes_92 : decode cX6_comes 92 = .ok (.iload 5, 2) := by decide +kernel
theorem dX6_comes_94 : decode cX6_comes 94 = .ok (.iaload, 1) := by decide +kernel
theorem dX6_comes_95 : decode cX6_comes 95 = .ok (.iconst 1, 1) := by decide +kernel
theorem dX6_comes_96 : decode cX6_comes 96 = .ok (.if_icmp .le 10, 3) := by decide +kernel
theorem dX6_comes_99 : decode cX6_comes 99 = .ok (.iconst 1, 1) := by decide +kernel
theorem dX6_comes_100 : decode cX6_comes 100 = .ok (.iload 5, 2) := by decide +kernel
theorem dX6_comes_102 : decode cX6_comes 102 = .ok (.ishl, 1) := by decide +kernel
theorem dX6_comes_103 : decode cX6_comes 103 = .ok (.goto 4, 3) := by decide +kernel
theorem dX6_comes_106 : decode cX6_comes 106 = .ok (.iconst 0, 1) := by decide +kernel
theorem dX6_comes_107 : decode cX6_comes 107 = .ok (.ior, 1) := by decide +kernel
theorem dX6_comes_108 : decode cX6_comes 108 = .ok (.iastore, 1) := by decide +kernel
theorem dX6_comes_109 : decode cX6_comes 109 = .ok (.iinc 4 1, 3) := by decide +kernel
theorem dX6_comes_112 : decode cX6_comes 112 = .ok (.goto (-79), 3) := by decide +kernel
theorem dX6_comes_115 : decode cX6_comes 115 = .ok (.aload_n 0, 1) := by decide +kernel
theorem dX6_comes_116 : decode cX6_comes 116 = .ok (.getfield 64, 3) := by decide +kernel
theorem dX6_comes_119 : decode cX6_comes 119 = .ok (.iload_n 1, 1) := by decide +kernel
theorem dX6_comes_120 : decode cX6_comes 120 = .ok (.aload_n 0, 1) := by decide +kernel
theorem dX6_comes_121 : decode cX6_comes 121 = .ok (.getfield 58, 3) := by decide +kernel
theorem dX6_comes_124 : decode cX6_comes 124 = .ok (.iload_n 1, 1) := by decide +kernel
theorem dX6_comes_125 : decode cX6_comes 125 = .ok (.iaload, 1) := by decide +kernel
theorem dX6_comes_126 : decode cX6_comes 126 = .ok (.aload_n 0, 1) := by decide +kernel
theorem dX6_comes_127 : decode cX6_comes 127 = .ok (.getfield 61, 3) := by decide +kernel
theorem dX6_comes_130 : decode cX6_comes 130 = .ok (.iload_n 1, 1) := by decide +kernel
theorem dX6_comes_131 : decode cX6_comes 131 = .ok (.iaload, 1) := by decide +kernel
theorem dX6_comes_132 : decode cX6_comes 132 = .ok (.iconst (-1), 1) := by decide +kernel
theorem dX6_comes_133 : decode cX6_comes 133 = .ok (.ixor, 1) := by decide +kernel
theorem dX6_comes_134 : decode cX6_comes 134 = .ok (.iand, 1) := by decide +kernel
theorem dX6_comes_135 : decode cX6_comes 135 = .ok (.iastore, 1) := by decide +kernel
theorem dX6_comes_136 : decode cX6_comes 136 = .ok (.iconst 0, 1) := by decide +kernel
theorem dX6_comes_137 : decode cX6_comes 137 = .ok (.istore 4, 2) := by decide +kernel
theorem dX6_comes_139 : decode cX6_comes 139 = .ok (.iload 4, 2) := by decide +kernel
theorem dX6_comes_141 : decode cX6_comes 141 = .ok (.aload_n 0, 1) := by decide +kernel
theorem dX6_comes_142 : decode cX6_comes 142 = .ok (.getfield 123, 3) := by decide +kernel
theorem dX6_comes_145 : decode cX6_comes 145 = .ok (.if_icmp .ge 72, 3) := by decide +kernel
theorem dX6_comes_148 : decode cX6_comes 148 = .ok (.aload_n 0, 1) := by decide +kernel
theorem dX6_comes_149 : decode cX6_comes 149 = .ok (.getfield 64, 3) := by decide +kernel
theorem dX6_comes_152 : decode cX6_comes 152 = .ok (.iload_n 1, 1) := by decide +kernel
theorem dX6_comes_153 : decode cX6_comes 153 = .ok (.iaload, 1) := by decide +kernel
theorem dX6_comes_154 : decode cX6_comes 154 = .ok (.iload 4, 2) := by decide +kernel
theorem dX6_comes_156 : decode cX6_comes 156 = .ok (.invokestatic 173, 3) := by decide +kernel
theorem dX6_comes_159 : decode cX6_comes 159 = .ok (.ifCond .eq 52, 3) := by decide +kernel
theorem dX6_comes_162 : decode cX6_comes 162 = .ok (.aload_n 0, 1) := by decide +kernel
theorem dX6_comes_163 : decode cX6_comes 163 = .ok (.getfield 55, 3) := by decide +kernel
theorem dX6_comes_166 : decode cX6_comes 166 = .ok (.aload_n 0, 1) := by decide +kernel
theorem dX6_comes_167 : decode cX6_comes 167 = .ok (.getfield 52, 3) := by decide +kernel
theorem dX6_comes_170 : decode cX6_comes 170 = .ok (.iload 4, 2) := by decide +kernel
theorem dX6_comes_172 : decode cX6_comes 172 = .ok (.iaload, 1) := by decide +kernel
theorem dX6_comes_173 : decode cX6_comes 173 = .ok (.dup2, 1) := by decide +kernel
theorem dX6_comes_174 : decode cX6_comes 174 = .ok (.iaload, 1) := by decide +kernel
theorem dX6_comes_175 : decode cX6_comes 175 = .ok (.iload_n 3, 1) := by decide +kernel
theorem dX6_comes_176 : decode cX6_comes 176 = .ok (.iadd, 1) := by decide +kernel
theorem dX6_comes_177 : decode cX6_comes 177 = .ok (.iastore, 1) := by decide +kernel
theorem dX6_comes_178 : decode cX6_comes 178 = .ok (.aload_n 0, 1) := by decide +kernel
theorem dX6_comes_179 : decode cX6_comes 179 = .ok (.getfield 52, 3) := by decide +kernel
theorem dX6_comes_182 : decode cX6_comes 182 = .ok (.iload 4, 2) := by decide +kernel
theorem dX6_comes_184 : decode cX6_comes 184 = .ok (.bipush 8, 2) := by decide +kernel
theorem dX6_comes_186 : decode cX6_comes 186 = .ok (.iload_n 1, 1) := by decide +kernel
theorem dX6_comes_187 : decode cX6_comes 187 = .ok (.iadd, 1) := by decide +kernel
theorem dX6_comes_188 : decode cX6_comes 188 = .ok (.iastore, 1) := by decide +kernel
theorem dX6_comes_189 : decode cX6_comes 189 = .ok (.aload_n 0, 1) := by decide +kernel
theorem dX6_comes_190 : decode cX6_comes 190 = .ok (.getfield 46, 3) := by decide +kernel
theorem dX6_comes_193 : decode cX6_comes 193 = .ok (.iload 4, 2) := by decide +kernel
theorem dX6_comes_195 : decode cX6_comes 195 = .ok (.iconst 0, 1) := by decide +kernel
theorem dX6_comes_196 : decode cX6_comes 196 = .ok (.iastore, 1) := by decide +kernel
theorem dX6_comes_197 : decode cX6_comes 197 = .ok (.aload_n 0, 1) := by decide +kernel
theorem dX6_comes_198 : decode cX6_comes 198 = .ok (.getfield 67, 3) := by decide +kernel
theorem dX6_comes_201 : decode cX6_comes 201 = .ok (.iload 4, 2) := by decide +kernel
theorem dX6_comes_203 : decode cX6_comes 203 = .ok (.iload_n 2, 1) := by decide +kernel
theorem dX6_comes_204 : decode cX6_comes 204 = .ok (.iastore, 1) := by decide +kernel
theorem dX6_comes_205 : decode cX6_comes 205 = .ok (.aload_n 0, 1) := by decide +kernel
theorem dX6_comes_206 : decode cX6_comes 206 = .ok (.iload 4, 2) := by decide +kernel
theorem dX6_comes_208 : decode cX6_comes 208 = .ok (.putfield 170, 3) := by decide +kernel
theorem dX6_comes_211 : decode cX6_comes 211 = .ok (.iinc 4 1, 3) := by decide +kernel
theorem dX6_comes_214 : decode cX6_comes 214 = .ok (.goto (-75), 3) := by decide +kernel
theorem dX6_comes_217 : decode cX6_comes 217 = .ok (.return_, 1) := by decide +kernel
theorem dX6_goesBy_0 : decode cX6_goesBy 0 = .ok (.iconst 0, 1) := by decide +kernel
theorem dX6_goesBy_1 : decode cX6_goesBy 1 = .ok (.istore_n 2, 1) := by decide +kernel
theorem dX6_goesBy_2 : decode cX6_goesBy 2 = .ok (.iload_n 2, 1) := by decide +kernel
theorem dX6_goesBy_3 : decode cX6_goesBy 3 = .ok (.aload_n 0, 1) := by decide +kernel
theorem dX6_goesBy_4 : decode cX6_goesBy 4 = .ok (.getfield 129, 3) := by decide +kernel
theorem dX6_goesBy_7 : decode cX6_goesBy 7 = .ok (.if_icmp .ge 36, 3) := by decide +kernel
theorem dX6_goesBy_10 : decode cX6_goesBy 10 = .ok (.aload_n 0, 1) := by decide +kernel
theorem dX6_goesBy_11 : decode cX6_goesBy 11 = .ok (.getfield 34, 3) := by decide +kernel
theorem dX6_goesBy_14 : decode cX6_goesBy 14 = .ok (.iload_n 2, 1) := by decide +kernel
theorem dX6_goesBy_15 : decode cX6_goesBy 15 = .ok (.iaload, 1) := by decide +kernel
theorem dX6_goesBy_16 : decode cX6_goesBy 16 = .ok (.iload_n 1, 1) := by decide +kernel
theorem dX6_goesBy_17 : decode cX6_goesBy 17 = .ok (.if_icmp .ne 20, 3) := by decide +kernel
theorem dX6_goesBy_20 : decode cX6_goesBy 20 = .ok (.aload_n 0, 1) := by decide +kernel
theorem dX6_goesBy_21 : decode cX6_goesBy 21 = .ok (.getfield 180, 3) := by decide +kernel
theorem dX6_goesBy_24 : decode cX6_goesBy 24 = .ok (.iload_n 2, 1) := by decide +kernel
theorem dX6_goesBy_25 : decode cX6_goesBy 25 = .ok (.invokestatic 173, 3) := by decide +kernel
theorem dX6_goesBy_28 : decode cX6_goesBy 28 = .ok (.ifCond .ne 9, 3) := by decide +kernel
theorem dX6_goesBy_31 : decode cX6_goesBy 31 = .ok (.aload_n 0, 1) := by decide +kernel
theorem dX6_goesBy_32 : decode cX6_goesBy 32 = .ok (.iload_n 2, 1) := by decide +kernel
theorem dX6_goesBy_33 : decode cX6_goesBy 33 = .ok (.iload_n 1, 1) := by decide +kernel
theorem dX6_goesBy_34 : decode cX6_goesBy 34 = .ok (.invokevirtual 183, 3) := by decide +kernel
theorem dX6_goesBy_37 : decode cX6_goesBy 37 = .ok (.iinc 2 1, 3) := by decide +kernel
theorem dX6_goesBy_40 : decode cX6_goesBy 40 = .ok (.goto (-38), 3) := by decide +kernel
theorem dX6_goesBy_43 : decode cX6_goesBy 43 = .ok (.iconst 0, 1) := by decide +kernel
theorem dX6_goesBy_44 : decode cX6_goesBy 44 = .ok (.istore_n 2, 1) := by decide +kernel
theorem dX6_goesBy_45 : decode cX6_goesBy 45 = .ok (.iload_n 2, 1) := by decide +kernel
theorem dX6_goesBy_46 : decode cX6_goesBy 46 = .ok (.aload_n 0, 1) := by decide +kernel
theorem dX6_goesBy_47 : decode cX6_goesBy 47 = .ok (.getfield 123, 3) := by decide +kernel
theorem dX6_goesBy_50 : decode cX6_goesBy 50 = .ok (.if_icmp .ge 141, 3) := by decide +kernel
theorem dX6_goesBy_53 : decode cX6_goesBy 53 = .ok (.aload_n 0, 1) := by decide +kernel
theorem dX6_goesBy_54 : decode cX6_goesBy 54 = .ok (.getfield 52, 3) := by decide +kernel
theorem dX6_goesBy_57 : decode cX6_goesBy 57 = .ok (.iload_n 2, 1) := by decide +kernel
theorem dX6_goesBy_58 : decode cX6_goesBy 58 = .ok (.iaload, 1) := by decide +kernel
theorem dX6_goesBy_59 : decode cX6_goesBy 59 = .ok (.iconst 0, 1) := by decide +kernel
theorem dX6_goesBy_60 : decode cX6_goesBy 60 = .ok (.bipush 7, 2) := by decide +kernel
theorem dX6_goesBy_62 : decode cX6_goesBy 62 = .ok (.invokestatic 107, 3) := by decide +kernel
theorem dX6_goesBy_65 : decode cX6_goesBy 65 = .ok (.ifCond .eq 120, 3) := by decide +kernel
theorem dX6_goesBy_68 : decode cX6_goesBy 68 = .ok (.aload_n 0, 1) := by decide +kernel
theorem dX6_goesBy_69 : decode cX6_goesBy 69 = .ok (.getfield 28, 3) := by decide +kernel
theorem dX6_goesBy_72 : decode cX6_goesBy 72 = .ok (.aload_n 0, 1) := by decide +kernel
theorem dX6_goesBy_73 : decode cX6_goesBy 73 = .ok (.getfield 52, 3) := by decide +kernel
theorem dX6_goesBy_76 : decode cX6_goesBy 76 = .ok (.iload_n 2, 1) := by decide +kernel
theorem dX6_goesBy_77 : decode cX6_goesBy 77 = .ok (.iaload, 1) := by decide +kernel
theorem dX6_goesBy_78 : decode cX6_goesBy 78 = .ok (.iaload, 1) := by decide +kernel
theorem dX6_goesBy_79 : decode cX6_goesBy 79 = .ok (.istore_n 3, 1) := by decide +kernel
theorem dX6_goesBy_80 : decode cX6_goesBy 80 = .ok (.aload_n 0, 1) := by decide +kernel
theorem dX6_goesBy_81 : decode cX6_goesBy 81 = .ok (.getfield 16, 3) := by decide +kernel
theorem dX6_goesBy_84 : decode cX6_goesBy 84 = .ok (.iload_n 2, 1) := by decide +kernel
theorem dX6_goesBy_85 : decode cX6_goesBy 85 = .ok (.iaload, 1) := by decide +kernel
theorem dX6_goesBy_86 : decode cX6_goesBy 86 = .ok (.iconst 1, 1) := by decide +kernel
theorem dX6_goesBy_87 : decode cX6_goesBy 87 = .ok (.if_icmp .ne 9, 3) := by decide +kernel
theorem dX6_goesBy_90 : decode cX6_goesBy 90 = .ok (.iconst 2, 1) := by decide +kernel
theorem dX6_goesBy_91 : decode cX6_goesBy 91 = .ok (.iload_n 3, 1) := by decide +kernel
theorem dX6_goesBy_92 : decode cX6_goesBy 92 = .ok (.imul, 1) := by decide +kernel
theorem dX6_goesBy_93 : decode cX6_goesBy 93 = .ok (.goto 25, 3) := by decide +kernel
theorem dX6_goesBy_96 : decode cX6_goesBy 96 = .ok (.aload_n 0, 1) := by decide +kernel
theorem dX6_goesBy_97 : decode cX6_goesBy 97 = .ok (.getfield 16, 3) := by decide +kernel
theorem dX6_goesBy_100 : decode cX6_goesBy 100 = .ok (.iload_n 2, 1) := by decide +kernel
theorem dX6_goesBy_101 : decode cX6_goesBy 101 = .ok (.iaload, 1) := by decide +kernel
theorem dX6_goesBy_102 : decode cX6_goesBy 102 = .ok (.iconst 3, 1) := by decide +kernel
theorem dX6_goesBy_103 : decode cX6_goesBy 103 = .ok (.if_icmp .ne 7, 3) := by decide +kernel
theorem dX6_goesBy_106 : decode cX6_goesBy 106 = .ok (.iconst 0, 1) := by decide +kernel
theorem dX6_goesBy_107 : decode cX6_goesBy 107 = .ok (.goto 11, 3) := by decide +kernel
theorem dX6_goesBy_110 : decode cX6_goesBy 110 = .ok (.iload_n 3, 1) := by decide +kernel
theorem dX6_goesBy_111 : decode cX6_goesBy 111 = .ok (.aload_n 0, 1) := by decide +kernel
theorem dX6_goesBy_112 : decode cX6_goesBy 112 = .ok (.getfield 19, 3) := by decide +kernel
theorem dX6_goesBy_115 : decode cX6_goesBy 115 = .ok (.iload_n 2, 1) := by decide +kernel
theorem dX6_goesBy_116 : decode cX6_goesBy 116 = .ok (.iaload, 1) := by decide +kernel
theorem dX6_goesBy_117 : decode cX6_goesBy 117 = .ok (.iadd, 1) := by decide +kernel
theorem dX6_goesBy_118 : decode cX6_goesBy 118 = .ok (.istore 4, 2) := by decide +kernel
theorem dX6_goesBy_120 : decode cX6_goesBy 120 = .ok (.iload 4, 2) := by decide +kernel
theorem dX6_goesBy_122 : decode cX6_goesBy 122 = .ok (.aload_n 0, 1) := by decide +kernel
theorem dX6_goesBy_123 : decode cX6_goesBy 123 = .ok (.getfield 49, 3) := by decide +kernel
theorem dX6_goesBy_126 : decode cX6_goesBy 126 = .ok (.iload_n 2, 1) := by decide +kernel
theorem dX6_goesBy_127 : decode cX6_goesBy 127 = .ok (.iaload, 1) := by decide +kernel
theorem dX6_goesBy_128 : decode cX6_goesBy 128 = .ok (.if_icmp .ge 8, 3) := by decide +kernel
theorem dX6_goesBy_131 : decode cX6_goesBy 131 = .ok (.iload 4, 2) := by decide +kernel
theorem dX6_goesBy_133 : decode cX6_goesBy 133 = .ok (.goto 9, 3) := by decide +kernel
theorem dX6_goesBy_136 : decode cX6_goesBy 136 = .ok (.aload_n 0, 1) := by decide +kernel
theorem dX6_goesBy_137 : decode cX6_goesBy 137 = .ok (.getfield 49, 3) := by decide +kernel
theorem dX6_goesBy_140 : decode cX6_goesBy 140 = .ok (.iload_n 2, 1) := by decide +kernel
theorem dX6_goesBy_141 : decode cX6_goesBy 141 = .ok (.iaload, 1) := by decide +kernel
theorem dX6_goesBy_142 : decode cX6_goesBy 142 = .ok (.istore 5, 2) := by decide +kernel
theorem dX6_goesBy_144 : decode cX6_goesBy 144 = .ok (.aload_n 0, 1) := by decide +kernel
theorem dX6_goesBy_145 : decode cX6_goesBy 145 = .ok (.getfield 49, 3) := by decide +kernel
theorem dX6_goesBy_148 : decode cX6_goesBy 148 = .ok (.iload_n 2, 1) := by decide +kernel
theorem dX6_goesBy_149 : decode cX6_goesBy 149 = .ok (.dup2, 1) := by decide +kernel
theorem dX6_goesBy_150 : decode cX6_goesBy 150 = .ok (.iaload, 1) := by decide +kernel
theorem dX6_goesBy_151 : decode cX6_goesBy 151 = .ok (.iload 5, 2) := by decide +kernel
theorem dX6_goesBy_153 : decode cX6_goesBy 153 = .ok (.isub, 1) := by decide +kernel
theorem dX6_goesBy_154 : decode cX6_goesBy 154 = .ok (.iastore, 1) := by decide +kernel
theorem dX6_goesBy_155 : decode cX6_goesBy 155 = .ok (.aload_n 0, 1) := by decide +kernel
theorem dX6_goesBy_156 : decode cX6_goesBy 156 = .ok (.getfield 55, 3) := by decide +kernel
theorem dX6_goesBy_159 : decode cX6_goesBy 159 = .ok (.aload_n 0, 1) := by decide +kernel
theorem dX6_goesBy_160 : decode cX6_goesBy 160 = .ok (.getfield 52, 3) := by decide +kernel
theorem dX6_goesBy_163 : decode cX6_goesBy 163 = .ok (.iload_n 2, 1) := by decide +kernel
theorem dX6_goesBy_164 : decode cX6_goesBy 164 = .ok (.iaload, 1) := by decide +kernel
theorem dX6_goesBy_165 : decode cX6_goesBy 165 = .ok (.dup2, 1) := by decide +kernel
theorem dX6_goesBy_166 : decode cX6_goesBy 166 = .ok (.iaload, 1) := by decide +kernel
theorem dX6_goesBy_167 : decode cX6_goesBy 167 = .ok (.iload 5, 2) := by decide +kernel
theorem dX6_goesBy_169 : decode cX6_goesBy 169 = .ok (.iadd, 1) := by decide +kernel
theorem dX6_goesBy_170 : decode cX6_goesBy 170 = .ok (.iastore, 1) := by decide +kernel
theorem dX6_goesBy_171 : decode cX6_goesBy 171 = .ok (.aload_n 0, 1) := by decide +kernel
theorem dX6_goesBy_172 : decode cX6_goesBy 172 = .ok (.getfield 46, 3) := by decide +kernel
theorem dX6_goesBy_175 : decode cX6_goesBy 175 = .ok (.iload_n 2, 1) := by decide +kernel
theorem dX6_goesBy_176 : decode cX6_goesBy 176 = .ok (.dup2, 1) := by decide +kernel
theorem dX6_goesBy_177 : decode cX6_goesBy 177 = .ok (.iaload, 1) := by decide +kernel
theorem dX6_goesBy_178 : decode cX6_goesBy 178 = .ok (.iload 4, 2) := by decide +kernel
theorem dX6_goesBy_180 : decode cX6_goesBy 180 = .ok (.iload 5, 2) := by decide +kernel
theorem dX6_goesBy_182 : decode cX6_goesBy 182 = .ok (.isub, 1) := by decide +kernel
theorem dX6_goesBy_183 : decode cX6_goesBy 183 = .ok (.iadd, 1) := by decide +kernel
theorem dX6_goesBy_184 : decode cX6_goesBy 184 = .ok (.iastore, 1) := by decide +kernel
theorem dX6_goesBy_185 : decode cX6_goesBy 185 = .ok (.iinc 2 1, 3) := by decide +kernel
theorem dX6_goesBy_188 : decode cX6_goesBy 188 = .ok (.goto (-143), 3) := by decide +kernel
theorem dX6_goesBy_191 : decode cX6_goesBy 191 = .ok (.return_, 1) := by decide +kernel
theorem dX6_runs_0 : decode cX6_runs 0 = .ok (.aload_n 0, 1) := by decide +kernel
theorem dX6_runs_1 : decode cX6_runs 1 = .ok (.invokevirtual 186, 3) := by decide +kernel
theorem dX6_runs_4 : decode cX6_runs 4 = .ok (.iconst 0, 1) := by decide +kernel
theorem dX6_runs_5 : decode cX6_runs 5 = .ok (.istore_n 2, 1) := by decide +kernel
theorem dX6_runs_6 : decode cX6_runs 6 = .ok (.iload_n 2, 1) := by decide +kernel
theorem dX6_runs_7 : decode cX6_runs 7 = .ok (.iload_n 1, 1) := by decide +kernel
theorem dX6_runs_8 : decode cX6_runs 8 = .ok (.if_icmp .gt 14, 3) := by decide +kernel
theorem dX6_runs_11 : decode cX6_runs 11 = .ok (.aload_n 0, 1) := by decide +kernel
theorem dX6_runs_12 : decode cX6_runs 12 = .ok (.iload_n 2, 1) := by decide +kernel
theorem dX6_runs_13 : decode cX6_runs 13 = .ok (.invokevirtual 189, 3) := by decide +kernel
theorem dX6_runs_16 : decode cX6_runs 16 = .ok (.iinc 2 1, 3) := by decide +kernel
theorem dX6_runs_19 : decode cX6_runs 19 = .ok (.goto (-13), 3) := by decide +kernel
theorem dX6_runs_22 : decode cX6_runs 22 = .ok (.return_, 1) := by decide +kernel
theorem dX6_runsTold_0 : decode cX6_runsTold 0 = .ok (.aload_n 0, 1) := by decide +kernel
theorem dX6_runsTold_1 : decode cX6_runsTold 1 = .ok (.invokevirtual 152, 3) := by decide +kernel
theorem dX6_runsTold_4 : decode cX6_runsTold 4 = .ok (.aload_n 0, 1) := by decide +kernel
theorem dX6_runsTold_5 : decode cX6_runsTold 5 = .ok (.iconst 0, 1) := by decide +kernel
theorem dX6_runsTold_6 : decode cX6_runsTold 6 = .ok (.putfield 180, 3) := by decide +kernel
theorem dX6_runsTold_9 : decode cX6_runsTold 9 = .ok (.aload_n 0, 1) := by decide +kernel
theorem dX6_runsTold_10 : decode cX6_runsTold 10 = .ok (.iload_n 1, 1) := by decide +kernel
theorem dX6_runsTold_11 : decode cX6_runsTold 11 = .ok (.invokevirtual 193, 3) := by decide +kernel
theorem dX6_runsTold_14 : decode cX6_runsTold 14 = .ok (.return_, 1) := by decide +kernel
theorem dX6_owesOf_0 : decode cX6_owesOf 0 = .ok (.aload_n 0, 1) := by decide +kernel
theorem dX6_owesOf_1 : decode cX6_owesOf 1 = .ok (.iload_n 1, 1) := by decide +kernel
theorem dX6_owesOf_2 : decode cX6_owesOf 2 = .ok (.invokevirtual 196, 3) := by decide +kernel
theorem dX6_owesOf_5 : decode cX6_owesOf 5 = .ok (.aload_n 0, 1) := by decide +kernel
theorem dX6_owesOf_6 : decode cX6_owesOf 6 = .ok (.getfield 46, 3) := by decide +kernel
theorem dX6_owesOf_9 : decode cX6_owesOf 9 = .ok (.iload_n 2, 1) := by decide +kernel
theorem dX6_owesOf_10 : decode cX6_owesOf 10 = .ok (.iaload, 1) := by decide +kernel
theorem dX6_owesOf_11 : decode cX6_owesOf 11 = .ok (.ireturn, 1) := by decide +kernel
theorem dX6_owes_0 : decode cX6_owes 0 = .ok (.iload_n 1, 1) := by decide +kernel
theorem dX6_owes_1 : decode cX6_owes 1 = .ok (.invokestatic 199, 3) := by decide +kernel
theorem dX6_owes_4 : decode cX6_owes 4 = .ok (.ifCond .eq 20, 3) := by decide +kernel
theorem dX6_owes_7 : decode cX6_owes 7 = .ok (.aload_n 0, 1) := by decide +kernel
theorem dX6_owes_8 : decode cX6_owes 8 = .ok (.iload_n 2, 1) := by decide +kernel
theorem dX6_owes_9 : decode cX6_owes 9 = .ok (.invokevirtual 155, 3) := by decide +kernel
theorem dX6_owes_12 : decode cX6_owes 12 = .ok (.ifCond .eq 12, 3) := by decide +kernel
theorem dX6_owes_15 : decode cX6_owes 15 = .ok (.aload_n 0, 1) := by decide +kernel
theorem dX6_owes_16 : decode cX6_owes 16 = .ok (.iload_n 1, 1) := by decide +kernel
theorem dX6_owes_17 : decode cX6_owes 17 = .ok (.iload_n 2, 1) := by decide +kernel
theorem dX6_owes_18 : decode cX6_owes 18 = .ok (.invokevirtual 202, 3) := by decide +kernel
theorem dX6_owes_21 : decode cX6_owes 21 = .ok (.goto 5, 3) := by decide +kernel
theorem dX6_owes_24 : decode cX6_owes 24 = .ok (.bipush (-2), 2) := by decide +kernel
theorem dX6_owes_26 : decode cX6_owes 26 = .ok (.ireturn, 1) := by decide +kernel
theorem dX6_purseOf_0 : decode cX6_purseOf 0 = .ok (.aload_n 0, 1) := by decide +kernel
theorem dX6_purseOf_1 : decode cX6_purseOf 1 = .ok (.iload_n 1, 1) := by decide +kernel
theorem dX6_purseOf_2 : decode cX6_purseOf 2 = .ok (.invokevirtual 196, 3) := by decide +kernel
theorem dX6_purseOf_5 : decode cX6_purseOf 5 = .ok (.aload_n 0, 1) := by decide +kernel
theorem dX6_purseOf_6 : decode cX6_purseOf 6 = .ok (.getfield 49, 3) := by decide +kernel
theorem dX6_purseOf_9 : decode cX6_purseOf 9 = .ok (.iload_n 2, 1) := by decide +kernel
theorem dX6_purseOf_10 : decode cX6_purseOf 10 = .ok (.iaload, 1) := by decide +kernel
theorem dX6_purseOf_11 : decode cX6_purseOf 11 = .ok (.ireturn, 1) := by decide +kernel
theorem dX6_purse_0 : decode cX6_purse 0 = .ok (.iload_n 1, 1) := by decide +kernel
theorem dX6_purse_1 : decode cX6_purse 1 = .ok (.invokestatic 199, 3) := by decide +kernel
theorem dX6_purse_4 : decode cX6_purse 4 = .ok (.ifCond .eq 20, 3) := by decide +kernel
theorem dX6_purse_7 : decode cX6_purse 7 = .ok (.aload_n 0, 1) := by decide +kernel
theorem dX6_purse_8 : decode cX6_purse 8 = .ok (.iload_n 2, 1) := by decide +kernel
theorem dX6_purse_9 : decode cX6_purse 9 = .ok (.invokevirtual 155, 3) := by decide +kernel
theorem dX6_purse_12 : decode cX6_purse 12 = .ok (.ifCond .eq 12, 3) := by decide +kernel
theorem dX6_purse_15 : decode cX6_purse 15 = .ok (.aload_n 0, 1) := by decide +kernel
theorem dX6_purse_16 : decode cX6_purse 16 = .ok (.iload_n 1, 1) := by decide +kernel
theorem dX6_purse_17 : decode cX6_purse 17 = .ok (.iload_n 2, 1) := by decide +kernel
theorem dX6_purse_18 : decode cX6_purse 18 = .ok (.invokevirtual 205, 3) := by decide +kernel
theorem dX6_purse_21 : decode cX6_purse 21 = .ok (.goto 5, 3) := by decide +kernel
theorem dX6_purse_24 : decode cX6_purse 24 = .ok (.bipush (-2), 2) := by decide +kernel
theorem dX6_purse_26 : decode cX6_purse 26 = .ok (.ireturn, 1) := by decide +kernel
theorem dX6_whereOf_0 : decode cX6_whereOf 0 = .ok (.aload_n 0, 1) := by decide +kernel
theorem dX6_whereOf_1 : decode cX6_whereOf 1 = .ok (.iload_n 1, 1) := by decide +kernel
theorem dX6_whereOf_2 : decode cX6_whereOf 2 = .ok (.invokevirtual 196, 3) := by decide +kernel
theorem dX6_whereOf_5 : decode cX6_whereOf 5 = .ok (.aload_n 0, 1) := by decide +kernel
theorem dX6_whereOf_6 : decode cX6_whereOf 6 = .ok (.getfield 52, 3) := by decide +kernel
theorem dX6_whereOf_9 : decode cX6_whereOf 9 = .ok (.iload_n 2, 1) := by decide +kernel
theorem dX6_whereOf_10 : decode cX6_whereOf 10 = .ok (.iaload, 1) := by decide +kernel
theorem dX6_whereOf_11 : decode cX6_whereOf 11 = .ok (.ireturn, 1) := by decide +kernel
theorem dX6_where_0 : decode cX6_where 0 = .ok (.iload_n 1, 1) := by decide +kernel
theorem dX6_where_1 : decode cX6_where 1 = .ok (.invokestatic 199, 3) := by decide +kernel
theorem dX6_where_4 : decode cX6_where 4 = .ok (.ifCond .eq 20, 3) := by decide +kernel
theorem dX6_where_7 : decode cX6_where 7 = .ok (.aload_n 0, 1) := by decide +kernel
theorem dX6_where_8 : decode cX6_where 8 = .ok (.iload_n 2, 1) := by decide +kernel
theorem dX6_where_9 : decode cX6_where 9 = .ok (.invokevirtual 155, 3) := by decide +kernel
theorem dX6_where_12 : decode cX6_where 12 = .ok (.ifCond .eq 12, 3) := by decide +kernel
theorem dX6_where_15 : decode cX6_where 15 = .ok (.aload_n 0, 1) := by decide +kernel
theorem dX6_where_16 : decode cX6_where 16 = .ok (.iload_n 1, 1) := by decide +kernel
theorem dX6_where_17 : decode cX6_where 17 = .ok (.iload_n 2, 1) := by decide +kernel
theorem dX6_where_18 : decode cX6_where 18 = .ok (.invokevirtual 208, 3) := by decide +kernel
theorem dX6_where_21 : decode cX6_where 21 = .ok (.goto 5, 3) := by decide +kernel
theorem dX6_where_24 : decode cX6_where 24 = .ok (.bipush (-2), 2) := by decide +kernel
theorem dX6_where_26 : decode cX6_where 26 = .ok (.ireturn, 1) := by decide +kernel
theorem dX6_takesOf_0 : decode cX6_takesOf 0 = .ok (.aload_n 0, 1) := by decide +kernel
theorem dX6_takesOf_1 : decode cX6_takesOf 1 = .ok (.iload_n 1, 1) := by decide +kernel
theorem dX6_takesOf_2 : decode cX6_takesOf 2 = .ok (.invokevirtual 196, 3) := by decide +kernel
theorem dX6_takesOf_5 : decode cX6_takesOf 5 = .ok (.iconst 0, 1) := by decide +kernel
theorem dX6_takesOf_6 : decode cX6_takesOf 6 = .ok (.istore 4, 2) := by decide +kernel
theorem dX6_takesOf_8 : decode cX6_takesOf 8 = .ok (.iconst 0, 1) := by decide +kernel
theorem dX6_takesOf_9 : decode cX6_takesOf 9 = .ok (.istore 5, 2) := by decide +kernel
theorem dX6_takesOf_11 : decode cX6_takesOf 11 = .ok (.iload 5, 2) := by decide +kernel
theorem dX6_takesOf_13 : decode cX6_takesOf 13 = .ok (.aload_n 0, 1) := by decide +kernel
theorem dX6_takesOf_14 : decode cX6_takesOf 14 = .ok (.getfield 123, 3) := by decide +kernel
theorem dX6_takesOf_17 : decode cX6_takesOf 17 = .ok (.if_icmp .ge 36, 3) := by decide +kernel
theorem dX6_takesOf_20 : decode cX6_takesOf 20 = .ok (.iload 4, 2) := by decide +kernel
theorem dX6_takesOf_22 : decode cX6_takesOf 22 = .ok (.aload_n 0, 1) := by decide +kernel
theorem dX6_takesOf_23 : decode cX6_takesOf 23 = .ok (.getfield 52, 3) := by decide +kernel
theorem dX6_takesOf_26 : decode cX6_takesOf 26 = .ok (.iload 5, 2) := by decide +kernel
theorem dX6_takesOf_28 : decode cX6_takesOf 28 = .ok (.iaload, 1) := by decide +kernel
theorem dX6_takesOf_29 : decode cX6_takesOf 29 = .ok (.iload_n 2, 1) := by decide +kernel
theorem dX6_takesOf_30 : decode cX6_takesOf 30 = .ok (.if_icmp .ne 13, 3) := by decide +kernel
theorem dX6_takesOf_33 : decode cX6_takesOf 33 = .ok (.aload_n 0, 1) := by decide +kernel
theorem dX6_takesOf_34 : decode cX6_takesOf 34 = .ok (.getfield 46, 3) := by decide +kernel
theorem dX6_takesOf_37 : decode cX6_takesOf 37 = .ok (.iload 5, 2) := by decide +kernel
theorem dX6_takesOf_39 : decode cX6_takesOf 39 = .ok (.iaload, 1) := by decide +kernel
theorem dX6_takesOf_40 : decode cX6_takesOf 40 = .ok (.goto 4, 3) := by decide +kernel
theorem dX6_takesOf_43 : decode cX6_takesOf 43 = .ok (.iconst 0, 1) := by decide +kernel
theorem dX6_takesOf_44 : decode cX6_takesOf 44 = .ok (.iadd, 1) := by decide +kernel
theorem dX6_takesOf_45 : decode cX6_takesOf 45 = .ok (.istore 4, 2) := by decide +kernel
theorem dX6_takesOf_47 : decode cX6_takesOf 47 = .ok (.iinc 5 1, 3) := by decide +kernel
theorem dX6_takesOf_50 : decode cX6_takesOf 50 = .ok (.goto (-39), 3) := by decide +kernel
theorem dX6_takesOf_53 : decode cX6_takesOf 53 = .ok (.iload_n 3, 1) := by decide +kernel
theorem dX6_takesOf_54 : decode cX6_takesOf 54 = .ok (.ifCond .ne 12, 3) := by decide +kernel
theorem dX6_takesOf_57 : decode cX6_takesOf 57 = .ok (.aload_n 0, 1) := by decide +kernel
theorem dX6_takesOf_58 : decode cX6_takesOf 58 = .ok (.getfield 55, 3) := by decide +kernel
theorem dX6_takesOf_61 : decode cX6_takesOf 61 = .ok (.iload_n 2, 1) := by decide +kernel
theorem dX6_takesOf_62 : decode cX6_takesOf 62 = .ok (.iaload, 1) := by decide +kernel
theorem dX6_takesOf_63 : decode cX6_takesOf 63 = .ok (.goto 5, 3) := by decide +kernel
theorem dX6_takesOf_66 : decode cX6_takesOf 66 = .ok (.iload 4, 2) := by decide +kernel
theorem dX6_takesOf_68 : decode cX6_takesOf 68 = .ok (.ireturn, 1) := by decide +kernel
theorem dX6_takes_0 : decode cX6_takes 0 = .ok (.iload_n 1, 1) := by decide +kernel
theorem dX6_takes_1 : decode cX6_takes 1 = .ok (.invokestatic 199, 3) := by decide +kernel
theorem dX6_takes_4 : decode cX6_takes 4 = .ok (.ifCond .eq 30, 3) := by decide +kernel
theorem dX6_takes_7 : decode cX6_takes 7 = .ok (.aload_n 0, 1) := by decide +kernel
theorem dX6_takes_8 : decode cX6_takes 8 = .ok (.iload_n 2, 1) := by decide +kernel
theorem dX6_takes_9 : decode cX6_takes 9 = .ok (.invokevirtual 161, 3) := by decide +kernel
theorem dX6_takes_12 : decode cX6_takes 12 = .ok (.ifCond .eq 22, 3) := by decide +kernel
theorem dX6_takes_15 : decode cX6_takes 15 = .ok (.iload_n 3, 1) := by decide +kernel
theorem dX6_takes_16 : decode cX6_takes 16 = .ok (.iconst 0, 1) := by decide +kernel
theorem dX6_takes_17 : decode cX6_takes 17 = .ok (.iconst 1, 1) := by decide +kernel
theorem dX6_takes_18 : decode cX6_takes 18 = .ok (.invokestatic 107, 3) := by decide +kernel
theorem dX6_takes_21 : decode cX6_takes 21 = .ok (.ifCond .eq 13, 3) := by decide +kernel
theorem dX6_takes_24 : decode cX6_takes 24 = .ok (.aload_n 0, 1) := by decide +kernel
theorem dX6_takes_25 : decode cX6_takes 25 = .ok (.iload_n 1, 1) := by decide +kernel
theorem dX6_takes_26 : decode cX6_takes 26 = .ok (.iload_n 2, 1) := by decide +kernel
theorem dX6_takes_27 : decode cX6_takes 27 = .ok (.iload_n 3, 1) := by decide +kernel
theorem dX6_takes_28 : decode cX6_takes 28 = .ok (.invokevirtual 211, 3) := by decide +kernel
theorem dX6_takes_31 : decode cX6_takes 31 = .ok (.goto 5, 3) := by decide +kernel
theorem dX6_takes_34 : decode cX6_takes 34 = .ok (.bipush (-2), 2) := by decide +kernel
theorem dX6_takes_36 : decode cX6_takes 36 = .ok (.ireturn, 1) := by decide +kernel
theorem dX6_soundNow_0 : decode cX6_soundNow 0 = .ok (.iconst 0, 1) := by decide +kernel
theorem dX6_soundNow_1 : decode cX6_soundNow 1 = .ok (.istore_n 2, 1) := by decide +kernel
theorem dX6_soundNow_2 : decode cX6_soundNow 2 = .ok (.iconst 0, 1) := by decide +kernel
theorem dX6_soundNow_3 : decode cX6_soundNow 3 = .ok (.istore_n 3, 1) := by decide +kernel
theorem dX6_soundNow_4 : decode cX6_soundNow 4 = .ok (.iload_n 3, 1) := by decide +kernel
theorem dX6_soundNow_5 : decode cX6_soundNow 5 = .ok (.aload_n 0, 1) := by decide +kernel
theorem dX6_soundNow_6 : decode cX6_soundNow 6 = .ok (.getfield 123, 3) := by decide +kernel
theorem dX6_soundNow_9 : decode cX6_soundNow 9 = .ok (.if_icmp .ge 40, 3) := by decide +kernel
theorem dX6_soundNow_12 : decode cX6_soundNow 12 = .ok (.iload_n 2, 1) := by decide +kernel
theorem dX6_soundNow_13 : decode cX6_soundNow 13 = .ok (.aload_n 0, 1) := by decide +kernel
theorem dX6_soundNow_14 : decode cX6_soundNow 14 = .ok (.getfield 64, 3) := by decide +kernel
theorem dX6_soundNow_17 : decode cX6_soundNow 17 = .ok (.iload_n 1, 1) := by decide +kernel
theorem dX6_soundNow_18 : decode cX6_soundNow 18 = .ok (.iaload, 1) := by decide +kernel
theorem dX6_soundNow_19 : decode cX6_soundNow 19 = .ok (.iload_n 3, 1) := by decide +kernel
theorem dX6_soundNow_20 : decode cX6_soundNow 20 = .ok (.invokestatic 173, 3) := by decide +kernel
theorem dX6_soundNow_23 : decode cX6_soundNow 23 = .ok (.ifCond .eq 17, 3) := by decide +kernel
theorem dX6_soundNow_26 : decode cX6_soundNow 26 = .ok (.aload_n 0, 1) := by decide +kernel
theorem dX6_soundNow_27 : decode cX6_soundNow 27 = .ok (.getfield 16, 3) := by decide +kernel
theorem dX6_soundNow_30 : decode cX6_soundNow 30 = .ok (.iload_n 3, 1) := by decide +kernel
theorem dX6_soundNow_31 : decode cX6_soundNow 31 = .ok (.iaload, 1) := by decide +kernel
theorem dX6_soundNow_32 : decode cX6_soundNow 32 = .ok (.iconst 2, 1) := by decide +kernel
theorem dX6_soundNow_33 : decode cX6_soundNow 33 = .ok (.if_icmp .ge 7, 3) := by decide +kernel
theorem dX6_soundNow_36 : decode cX6_soundNow 36 = .ok (.iconst 1, 1) := by decide +kernel
theorem dX6_soundNow_37 : decode cX6_soundNow 37 = .ok (.goto 4, 3) := by decide +kernel
theorem dX6_soundNow_40 : decode cX6_soundNow 40 = .ok (.iconst 0, 1) := by decide +kernel
theorem dX6_soundNow_41 : decode cX6_soundNow 41 = .ok (.iadd, 1) := by decide +kernel
theorem dX6_soundNow_42 : decode cX6_soundNow 42 = .ok (.istore_n 2, 1) := by decide +kernel
theorem dX6_soundNow_43 : decode cX6_soundNow 43 = .ok (.iinc 3 1, 3) := by decide +kernel
theorem dX6_soundNow_46 : decode cX6_soundNow 46 = .ok (.goto (-42), 3) := by decide +kernel
theorem dX6_soundNow_49 : decode cX6_soundNow 49 = .ok (.iload_n 2, 1) := by decide +kernel
theorem dX6_soundNow_50 : decode cX6_soundNow 50 = .ok (.ireturn, 1) := by decide +kernel
theorem dX6_crewOf_0 : decode cX6_crewOf 0 = .ok (.aload_n 0, 1) := by decide +kernel
theorem dX6_crewOf_1 : decode cX6_crewOf 1 = .ok (.bipush 29, 2) := by decide +kernel
theorem dX6_crewOf_3 : decode cX6_crewOf 3 = .ok (.invokevirtual 196, 3) := by decide +kernel
theorem dX6_crewOf_6 : decode cX6_crewOf 6 = .ok (.iload_n 2, 1) := by decide +kernel
theorem dX6_crewOf_7 : decode cX6_crewOf 7 = .ok (.ifCond .ne 12, 3) := by decide +kernel
theorem dX6_crewOf_10 : decode cX6_crewOf 10 = .ok (.aload_n 0, 1) := by decide +kernel
theorem dX6_crewOf_11 : decode cX6_crewOf 11 = .ok (.getfield 58, 3) := by decide +kernel
theorem dX6_crewOf_14 : decode cX6_crewOf 14 = .ok (.iload_n 1, 1) := by decide +kernel
theorem dX6_crewOf_15 : decode cX6_crewOf 15 = .ok (.iaload, 1) := by decide +kernel
theorem dX6_crewOf_16 : decode cX6_crewOf 16 = .ok (.goto 60, 3) := by decide +kernel
theorem dX6_crewOf_19 : decode cX6_crewOf 19 = .ok (.iload_n 2, 1) := by decide +kernel
theorem dX6_crewOf_20 : decode cX6_crewOf 20 = .ok (.iconst 1, 1) := by decide +kernel
theorem dX6_crewOf_21 : decode cX6_crewOf 21 = .ok (.if_icmp .ne 12, 3) := by decide +kernel
theorem dX6_crewOf_24 : decode cX6_crewOf 24 = .ok (.aload_n 0, 1) := by decide +kernel
theorem dX6_crewOf_25 : decode cX6_crewOf 25 = .ok (.getfield 61, 3) := by decide +kernel
theorem dX6_crewOf_28 : decode cX6_crewOf 28 = .ok (.iload_n 1, 1) := by decide +kernel
theorem dX6_crewOf_29 : decode cX6_crewOf 29 = .ok (.iaload, 1) := by decide +kernel
theorem dX6_crewOf_30 : decode cX6_crewOf 30 = .ok (.goto 46, 3) := by decide +kernel
theorem dX6_crewOf_33 : decode cX6_crewOf 33 = .ok (.iload_n 2, 1) := by decide +kernel
theorem dX6_crewOf_34 : decode cX6_crewOf 34 = .ok (.iconst 2, 1) := by decide +kernel
theorem dX6_crewOf_35 : decode cX6_crewOf 35 = .ok (.if_icmp .ne 12, 3) := by decide +kernel
theorem dX6_crewOf_38 : decode cX6_crewOf 38 = .ok (.aload_n 0, 1) := by decide +kernel
theorem dX6_crewOf_39 : decode cX6_crewOf 39 = .ok (.getfield 64, 3) := by decide +kernel
theorem dX6_crewOf_42 : decode cX6_crewOf 42 = .ok (.iload_n 1, 1) := by decide +kernel
theorem dX6_crewOf_43 : decode cX6_crewOf 43 = .ok (.iaload, 1) := by decide +kernel
theorem dX6_crewOf_44 : decode cX6_crewOf 44 = .ok (.goto 32, 3) := by decide +kernel
theorem dX6_crewOf_47 : decode cX6_crewOf 47 = .ok (.iload_n 2, 1) := by decide +kernel
theorem dX6_crewOf_48 : decode cX6_crewOf 48 = .ok (.iconst 3, 1) := by decide +kernel
theorem dX6_crewOf_49 : decode cX6_crewOf 49 = .ok (.if_icmp .ne 11, 3) := by decide +kernel
theorem dX6_crewOf_52 : decode cX6_crewOf 52 = .ok (.aload_n 0, 1) := by decide +kernel
theorem dX6_crewOf_53 : decode cX6_crewOf 53 = .ok (.iload_n 1, 1) := by decide +kernel
theorem dX6_crewOf_54 : decode cX6_crewOf 54 = .ok (.invokevirtual 215, 3) := by decide +kernel
theorem dX6_crewOf_57 : decode cX6_crewOf 57 = .ok (.goto 19, 3) := by decide +kernel
theorem dX6_crewOf_60 : decode cX6_crewOf 60 = .ok (.aload_n 0, 1) := by decide +kernel
theorem dX6_crewOf_61 : decode cX6_crewOf 61 = .ok (.getfield 37, 3) := by decide +kernel
theorem dX6_crewOf_64 : decode cX6_crewOf 64 = .ok (.iload_n 1, 1) := by decide +kernel
theorem dX6_crewOf_65 : decode cX6_crewOf 65 = .ok (.iaload, 1) := by decide +kernel
theorem dX6_crewOf_66 : decode cX6_crewOf 66 = .ok (.aload_n 0, 1) := by decide +kernel
theorem dX6_crewOf_67 : decode cX6_crewOf 67 = .ok (.getfield 64, 3) := by decide +kernel
theorem dX6_crewOf_70 : decode cX6_crewOf 70 = .ok (.iload_n 1, 1) := by decide +kernel
theorem dX6_crewOf_71 : decode cX6_crewOf 71 = .ok (.iaload, 1) := by decide +kernel
theorem dX6_crewOf_72 : decode cX6_crewOf 72 = .ok (.invokestatic 218, 3) := by decide +kernel
theorem dX6_crewOf_75 : decode cX6_crewOf 75 = .ok (.isub, 1) := by decide +kernel
theorem dX6_crewOf_76 : decode cX6_crewOf 76 = .ok (.ireturn, 1) := by decide +kernel
theorem dX6_crew_0 : decode cX6_crew 0 = .ok (.aload_n 0, 1) := by decide +kernel
theorem dX6_crew_1 : decode cX6_crew 1 = .ok (.iload_n 1, 1) := by decide +kernel
theorem dX6_crew_2 : decode cX6_crew 2 = .ok (.invokevirtual 164, 3) := by decide +kernel
theorem dX6_crew_5 : decode cX6_crew 5 = .ok (.ifCond .eq 21, 3) := by decide +kernel
theorem dX6_crew_8 : decode cX6_crew 8 = .ok (.iload_n 2, 1) := by decide +kernel
theorem dX6_crew_9 : decode cX6_crew 9 = .ok (.iconst 0, 1) := by decide +kernel
theorem dX6_crew_10 : decode cX6_crew 10 = .ok (.iconst 4, 1) := by decide +kernel
theorem dX6_crew_11 : decode cX6_crew 11 = .ok (.invokestatic 107, 3) := by decide +kernel
theorem dX6_crew_14 : decode cX6_crew 14 = .ok (.ifCond .eq 12, 3) := by decide +kernel
theorem dX6_crew_17 : decode cX6_crew 17 = .ok (.aload_n 0, 1) := by decide +kernel
theorem dX6_crew_18 : decode cX6_crew 18 = .ok (.iload_n 1, 1) := by decide +kernel
theorem dX6_crew_19 : decode cX6_crew 19 = .ok (.iload_n 2, 1) := by decide +kernel
theorem dX6_crew_20 : decode cX6_crew 20 = .ok (.invokevirtual 221, 3) := by decide +kernel
theorem dX6_crew_23 : decode cX6_crew 23 = .ok (.goto 5, 3) := by decide +kernel
theorem dX6_crew_26 : decode cX6_crew 26 = .ok (.bipush (-2), 2) := by decide +kernel
theorem dX6_crew_28 : decode cX6_crew 28 = .ok (.ireturn, 1) := by decide +kernel
theorem dX6_richestOf_0 : decode cX6_richestOf 0 = .ok (.aload_n 0, 1) := by decide +kernel
theorem dX6_richestOf_1 : decode cX6_richestOf 1 = .ok (.iload_n 1, 1) := by decide +kernel
theorem dX6_richestOf_2 : decode cX6_richestOf 2 = .ok (.invokevirtual 196, 3) := by decide +kernel
theorem dX6_richestOf_5 : decode cX6_richestOf 5 = .ok (.iconst (-1), 1) := by decide +kernel
theorem dX6_richestOf_6 : decode cX6_richestOf 6 = .ok (.istore_n 2, 1) := by decide +kernel
theorem dX6_richestOf_7 : decode cX6_richestOf 7 = .ok (.iconst 0, 1) := by decide +kernel
theorem dX6_richestOf_8 : decode cX6_richestOf 8 = .ok (.istore_n 3, 1) := by decide +kernel
theorem dX6_richestOf_9 : decode cX6_richestOf 9 = .ok (.iload_n 3, 1) := by decide +kernel
theorem dX6_richestOf_10 : decode cX6_richestOf 10 = .ok (.aload_n 0, 1) := by decide +kernel
theorem dX6_richestOf_11 : decode cX6_richestOf 11 = .ok (.getfield 126, 3) := by decide +kernel
theorem dX6_richestOf_14 : decode cX6_richestOf 14 = .ok (.if_icmp .ge 35, 3) := by decide +kernel
theorem dX6_richestOf_17 : decode cX6_richestOf 17 = .ok (.iload_n 2, 1) := by decide +kernel
theorem dX6_richestOf_18 : decode cX6_richestOf 18 = .ok (.iconst (-1), 1) := by decide +kernel
theorem dX6_richestOf_19 : decode cX6_richestOf 19 = .ok (.if_icmp .eq 18, 3) := by decide +kernel
theorem dX6_richestOf_22 : decode cX6_richestOf 22 = .ok (.aload_n 0, 1) := by decide +kernel
theorem dX6_richestOf_23 : decode cX6_richestOf 23 = .ok (.getfield 55, 3) := by decide +kernel
theorem dX6_richestOf_26 : decode cX6_richestOf 26 = .ok (.iload_n 3, 1) := by decide +kernel
theorem dX6_richestOf_27 : decode cX6_richestOf 27 = .ok (.iaload, 1) := by decide +kernel
theorem dX6_richestOf_28 : decode cX6_richestOf 28 = .ok (.aload_n 0, 1) := by decide +kernel
theorem dX6_richestOf_29 : decode cX6_richestOf 29 = .ok (.getfield 55, 3) := by decide +kernel
theorem dX6_richestOf_32 : decode cX6_richestOf 32 = .ok (.iload_n 2, 1) := by decide +kernel
theorem dX6_richestOf_33 : decode cX6_richestOf 33 = .ok (.iaload, 1) := by decide +kernel
theorem dX6_richestOf_34 : decode cX6_richestOf 34 = .ok (.if_icmp .le 7, 3) := by decide +kernel
theorem dX6_richestOf_37 : decode cX6_richestOf 37 = .ok (.iload_n 3, 1) := by decide +kernel
theorem dX6_richestOf_38 : decode cX6_richestOf 38 = .ok (.goto 4, 3) := by decide +kernel
theorem dX6_richestOf_41 : decode cX6_richestOf 41 = .ok (.iload_n 2, 1) := by decide +kernel
theorem dX6_richestOf_42 : decode cX6_richestOf 42 = .ok (.istore_n 2, 1) := by decide +kernel
theorem dX6_richestOf_43 : decode cX6_richestOf 43 = .ok (.iinc 3 1, 3) := by decide +kernel
theorem dX6_richestOf_46 : decode cX6_richestOf 46 = .ok (.goto (-37), 3) := by decide +kernel
theorem dX6_richestOf_49 : decode cX6_richestOf 49 = .ok (.iload_n 2, 1) := by decide +kernel
theorem dX6_richestOf_50 : decode cX6_richestOf 50 = .ok (.ireturn, 1) := by decide +kernel
theorem dX6_richest_0 : decode cX6_richest 0 = .ok (.iload_n 1, 1) := by decide +kernel
theorem dX6_richest_1 : decode cX6_richest 1 = .ok (.invokestatic 199, 3) := by decide +kernel
theorem dX6_richest_4 : decode cX6_richest 4 = .ok (.ifCond .eq 11, 3) := by decide +kernel
theorem dX6_richest_7 : decode cX6_richest 7 = .ok (.aload_n 0, 1) := by decide +kernel
theorem dX6_richest_8 : decode cX6_richest 8 = .ok (.iload_n 1, 1) := by decide +kernel
theorem dX6_richest_9 : decode cX6_richest 9 = .ok (.invokevirtual 224, 3) := by decide +kernel
theorem dX6_richest_12 : decode cX6_richest 12 = .ok (.goto 5, 3) := by decide +kernel
theorem dX6_richest_15 : decode cX6_richest 15 = .ok (.bipush (-2), 2) := by decide +kernel
theorem dX6_richest_17 : decode cX6_richest 17 = .ok (.ireturn, 1) := by decide +kernel
theorem dX6_lastOf_0 : decode cX6_lastOf 0 = .ok (.aload_n 0, 1) := by decide +kernel
theorem dX6_lastOf_1 : decode cX6_lastOf 1 = .ok (.bipush 29, 2) := by decide +kernel
theorem dX6_lastOf_3 : decode cX6_lastOf 3 = .ok (.invokevirtual 196, 3) := by decide +kernel
theorem dX6_lastOf_6 : decode cX6_lastOf 6 = .ok (.aload_n 0, 1) := by decide +kernel
theorem dX6_lastOf_7 : decode cX6_lastOf 7 = .ok (.getfield 170, 3) := by decide +kernel
theorem dX6_lastOf_10 : decode cX6_lastOf 10 = .ok (.ireturn, 1) := by decide +kernel
theorem dX6_last_0 : decode cX6_last 0 = .ok (.aload_n 0, 1) := by decide +kernel
theorem dX6_last_1 : decode cX6_last 1 = .ok (.invokevirtual 227, 3) := by decide +kernel
theorem dX6_last_4 : decode cX6_last 4 = .ok (.ireturn, 1) := by decide +kernel
theorem dX6_priceOf_0 : decode cX6_priceOf 0 = .ok (.aload_n 0, 1) := by decide +kernel
theorem dX6_priceOf_1 : decode cX6_priceOf 1 = .ok (.invokevirtual 152, 3) := by decide +kernel
theorem dX6_priceOf_4 : decode cX6_priceOf 4 = .ok (.aload_n 0, 1) := by decide +kernel
theorem dX6_priceOf_5 : decode cX6_priceOf 5 = .ok (.iconst 0, 1) := by decide +kernel
theorem dX6_priceOf_6 : decode cX6_priceOf 6 = .ok (.putfield 180, 3) := by decide +kernel
theorem dX6_priceOf_9 : decode cX6_priceOf 9 = .ok (.aload_n 0, 1) := by decide +kernel
theorem dX6_priceOf_10 : decode cX6_priceOf 10 = .ok (.getfield 28, 3) := by decide +kernel
theorem dX6_priceOf_13 : decode cX6_priceOf 13 = .ok (.iload_n 1, 1) := by decide +kernel
theorem dX6_priceOf_14 : decode cX6_priceOf 14 = .ok (.iaload, 1) := by decide +kernel
theorem dX6_priceOf_15 : decode cX6_priceOf 15 = .ok (.istore_n 3, 1) := by decide +kernel
theorem dX6_priceOf_16 : decode cX6_priceOf 16 = .ok (.iconst (-1), 1) := by decide +kernel
theorem dX6_priceOf_17 : decode cX6_priceOf 17 = .ok (.istore 4, 2) := by decide +kernel
theorem dX6_priceOf_19 : decode cX6_priceOf 19 = .ok (.iconst 0, 1) := by decide +kernel
theorem dX6_priceOf_20 : decode cX6_priceOf 20 = .ok (.istore 5, 2) := by decide +kernel
theorem dX6_priceOf_22 : decode cX6_priceOf 22 = .ok (.iconst 0, 1) := by decide +kernel
theorem dX6_priceOf_23 : decode cX6_priceOf 23 = .ok (.istore 6, 2) := by decide +kernel
theorem dX6_priceOf_25 : decode cX6_priceOf 25 = .ok (.iload 6, 2) := by decide +kernel
theorem dX6_priceOf_27 : decode cX6_priceOf 27 = .ok (.bipush 10, 2) := by decide +kernel
theorem dX6_priceOf_29 : decode cX6_priceOf 29 = .ok (.if_icmp .ge 79, 3) := by decide +kernel
theorem dX6_priceOf_32 : decode cX6_priceOf 32 = .ok (.aload_n 0, 1) := by decide +kernel
theorem dX6_priceOf_33 : decode cX6_priceOf 33 = .ok (.getfield 28, 3) := by decide +kernel
theorem dX6_priceOf_36 : decode cX6_priceOf 36 = .ok (.iload_n 1, 1) := by decide +kernel
theorem dX6_priceOf_37 : decode cX6_priceOf 37 = .ok (.iload 6, 2) := by decide +kernel
theorem dX6_priceOf_39 : decode cX6_priceOf 39 = .ok (.iastore, 1) := by decide +kernel
theorem dX6_priceOf_40 : decode cX6_priceOf 40 = .ok (.aload_n 0, 1) := by decide +kernel
theorem dX6_priceOf_41 : decode cX6_priceOf 41 = .ok (.bipush 29, 2) := by decide +kernel
theorem dX6_priceOf_43 : decode cX6_priceOf 43 = .ok (.invokevirtual 193, 3) := by decide +kernel
theorem dX6_priceOf_46 : decode cX6_priceOf 46 = .ok (.iload 4, 2) := by decide +kernel
theorem dX6_priceOf_48 : decode cX6_priceOf 48 = .ok (.iconst (-1), 1) := by decide +kernel
theorem dX6_priceOf_49 : decode cX6_priceOf 49 = .ok (.if_icmp .eq 14, 3) := by decide +kernel
theorem dX6_priceOf_52 : decode cX6_priceOf 52 = .ok (.aload_n 0, 1) := by decide +kernel
theorem dX6_priceOf_53 : decode cX6_priceOf 53 = .ok (.getfield 55, 3) := by decide +kernel
theorem dX6_priceOf_56 : decode cX6_priceOf 56 = .ok (.iload_n 1, 1) := by decide +kernel
theorem dX6_priceOf_57 : decode cX6_priceOf 57 = .ok (.iaload, 1) := by decide +kernel
theorem dX6_priceOf_58 : decode cX6_priceOf 58 = .ok (.iload 5, 2) := by decide +kernel
theorem dX6_priceOf_60 : decode cX6_priceOf 60 = .ok (.if_icmp .le 7, 3) := by decide +kernel
theorem dX6_priceOf_63 : decode cX6_priceOf 63 = .ok (.iconst 1, 1) := by decide +kernel
theorem dX6_priceOf_64 : decode cX6_priceOf 64 = .ok (.goto 4, 3) := by decide +kernel
theorem dX6_priceOf_67 : decode cX6_priceOf 67 = .ok (.iconst 0, 1) := by decide +kernel
theorem dX6_priceOf_68 : decode cX6_priceOf 68 = .ok (.istore 7, 2) := by decide +kernel
theorem dX6_priceOf_70 : decode cX6_priceOf 70 = .ok (.iload 7, 2) := by decide +kernel
theorem dX6_priceOf_72 : decode cX6_priceOf 72 = .ok (.ifCond .eq 8, 3) := by decide +kernel
theorem dX6_priceOf_75 : decode cX6_priceOf 75 = .ok (.iload 6, 2) := by decide +kernel
theorem dX6_priceOf_77 : decode cX6_priceOf 77 = .ok (.goto 5, 3) := by decide +kernel
theorem dX6_priceOf_80 : decode cX6_priceOf 80 = .ok (.iload 4, 2) := by decide +kernel
theorem dX6_priceOf_82 : decode cX6_priceOf 82 = .ok (.istore 4, 2) := by decide +kernel
theorem dX6_priceOf_84 : decode cX6_priceOf 84 = .ok (.iload 7, 2) := by decide +kernel
theorem dX6_priceOf_86 : decode cX6_priceOf 86 = .ok (.ifCond .eq 12, 3) := by decide +kernel
theorem dX6_priceOf_89 : decode cX6_priceOf 89 = .ok (.aload_n 0, 1) := by decide +kernel
theorem dX6_priceOf_90 : decode cX6_priceOf 90 = .ok (.getfield 55, 3) := by decide +kernel
theorem dX6_priceOf_93 : decode cX6_priceOf 93 = .ok (.iload_n 1, 1) := by decide +kernel
theorem dX6_priceOf_94 : decode cX6_priceOf 94 = .ok (.iaload, 1) := by decide +kernel
theorem dX6_priceOf_95 : decode cX6_priceOf 95 = .ok (.goto 5, 3) := by decide +kernel
theorem dX6_priceOf_98 : decode cX6_priceOf 98 = .ok (.iload 5, 2) := by decide +kernel
theorem dX6_priceOf_100 : decode cX6_priceOf 100 = .ok (.istore 5, 2) := by decide +kernel
theorem dX6_priceOf_102 : decode cX6_priceOf 102 = .ok (.iinc 6 1, 3) := by decide +kernel
theorem dX6_priceOf_105 : decode cX6_priceOf 105 = .ok (.goto (-80), 3) := by decide +kernel
theorem dX6_priceOf_108 : decode cX6_priceOf 108 = .ok (.aload_n 0, 1) := by decide +kernel
theorem dX6_priceOf_109 : decode cX6_priceOf 109 = .ok (.getfield 28, 3) := by decide +kernel
theorem dX6_priceOf_112 : decode cX6_priceOf 112 = .ok (.iload_n 1, 1) := by decide +kernel
theorem dX6_priceOf_113 : decode cX6_priceOf 113 = .ok (.iload_n 3, 1) := by decide +kernel
theorem dX6_priceOf_114 : decode cX6_priceOf 114 = .ok (.iastore, 1) := by decide +kernel
theorem dX6_priceOf_115 : decode cX6_priceOf 115 = .ok (.iload_n 2, 1) := by decide +kernel
theorem dX6_priceOf_116 : decode cX6_priceOf 116 = .ok (.ifCond .ne 8, 3) := by decide +kernel
theorem dX6_priceOf_119 : decode cX6_priceOf 119 = .ok (.iload 4, 2) := by decide +kernel
theorem dX6_priceOf_121 : decode cX6_priceOf 121 = .ok (.goto 5, 3) := by decide +kernel
theorem dX6_priceOf_124 : decode cX6_priceOf 124 = .ok (.iload 5, 2) := by decide +kernel
theorem dX6_priceOf_126 : decode cX6_priceOf 126 = .ok (.ireturn, 1) := by decide +kernel
theorem dX6_price_0 : decode cX6_price 0 = .ok (.aload_n 0, 1) := by decide +kernel
theorem dX6_price_1 : decode cX6_price 1 = .ok (.iload_n 1, 1) := by decide +kernel
theorem dX6_price_2 : decode cX6_price 2 = .ok (.invokevirtual 161, 3) := by decide +kernel
theorem dX6_price_5 : decode cX6_price 5 = .ok (.ifCond .eq 21, 3) := by decide +kernel
theorem dX6_price_8 : decode cX6_price 8 = .ok (.iload_n 2, 1) := by decide +kernel
theorem dX6_price_9 : decode cX6_price 9 = .ok (.iconst 0, 1) := by decide +kernel
theorem dX6_price_10 : decode cX6_price 10 = .ok (.iconst 1, 1) := by decide +kernel
theorem dX6_price_11 : decode cX6_price 11 = .ok (.invokestatic 107, 3) := by decide +kernel
theorem dX6_price_14 : decode cX6_price 14 = .ok (.ifCond .eq 12, 3) := by decide +kernel
theorem dX6_price_17 : decode cX6_price 17 = .ok (.aload_n 0, 1) := by decide +kernel
theorem dX6_price_18 : decode cX6_price 18 = .ok (.iload_n 1, 1) := by decide +kernel
theorem dX6_price_19 : decode cX6_price 19 = .ok (.iload_n 2, 1) := by decide +kernel
theorem dX6_price_20 : decode cX6_price 20 = .ok (.invokevirtual 231, 3) := by decide +kernel
theorem dX6_price_23 : decode cX6_price 23 = .ok (.goto 5, 3) := by decide +kernel
theorem dX6_price_26 : decode cX6_price 26 = .ok (.bipush (-2), 2) := by decide +kernel
theorem dX6_price_28 : decode cX6_price 28 = .ok (.ireturn, 1) := by decide +kernel
theorem dX6_lodgeOf_0 : decode cX6_lodgeOf 0 = .ok (.aload_n 0, 1) := by decide +kernel
theorem dX6_lodgeOf_1 : decode cX6_lodgeOf 1 = .ok (.invokevirtual 152, 3) := by decide +kernel
theorem dX6_lodgeOf_4 : decode cX6_lodgeOf 4 = .ok (.aload_n 0, 1) := by decide +kernel
theorem dX6_lodgeOf_5 : decode cX6_lodgeOf 5 = .ok (.iconst 0, 1) := by decide +kernel
theorem dX6_lodgeOf_6 : decode cX6_lodgeOf 6 = .ok (.putfield 180, 3) := by decide +kernel
theorem dX6_lodgeOf_9 : decode cX6_lodgeOf 9 = .ok (.aload_n 0, 1) := by decide +kernel
theorem dX6_lodgeOf_10 : decode cX6_lodgeOf 10 = .ok (.getfield 25, 3) := by decide +kernel
theorem dX6_lodgeOf_13 : decode cX6_lodgeOf 13 = .ok (.iload_n 1, 1) := by decide +kernel
theorem dX6_lodgeOf_14 : decode cX6_lodgeOf 14 = .ok (.iaload, 1) := by decide +kernel
theorem dX6_lodgeOf_15 : decode cX6_lodgeOf 15 = .ok (.istore_n 3, 1) := by decide +kernel
theorem dX6_lodgeOf_16 : decode cX6_lodgeOf 16 = .ok (.iconst (-1), 1) := by decide +kernel
theorem dX6_lodgeOf_17 : decode cX6_lodgeOf 17 = .ok (.istore 4, 2) := by decide +kernel
theorem dX6_lodgeOf_19 : decode cX6_lodgeOf 19 = .ok (.iconst 0, 1) := by decide +kernel
theorem dX6_lodgeOf_20 : decode cX6_lodgeOf 20 = .ok (.istore 5, 2) := by decide +kernel
theorem dX6_lodgeOf_22 : decode cX6_lodgeOf 22 = .ok (.iconst 0, 1) := by decide +kernel
theorem dX6_lodgeOf_23 : decode cX6_lodgeOf 23 = .ok (.istore 6, 2) := by decide +kernel
theorem dX6_lodgeOf_25 : decode cX6_lodgeOf 25 = .ok (.iload 6, 2) := by decide +kernel
theorem dX6_lodgeOf_27 : decode cX6_lodgeOf 27 = .ok (.aload_n 0, 1) := by decide +kernel
theorem dX6_lodgeOf_28 : decode cX6_lodgeOf 28 = .ok (.getfield 126, 3) := by decide +kernel
theorem dX6_lodgeOf_31 : decode cX6_lodgeOf 31 = .ok (.if_icmp .ge 104, 3) := by decide +kernel
theorem dX6_lodgeOf_34 : decode cX6_lodgeOf 34 = .ok (.aload_n 0, 1) := by decide +kernel
theorem dX6_lodgeOf_35 : decode cX6_lodgeOf 35 = .ok (.getfield 25, 3) := by decide +kernel
theorem dX6_lodgeOf_38 : decode cX6_lodgeOf 38 = .ok (.iload_n 1, 1) := by decide +kernel
theorem dX6_lodgeOf_39 : decode cX6_lodgeOf 39 = .ok (.iload 6, 2) := by decide +kernel
theorem dX6_lodgeOf_41 : decode cX6_lodgeOf 41 = .ok (.iastore, 1) := by decide +kernel
theorem dX6_lodgeOf_42 : decode cX6_lodgeOf 42 = .ok (.aload_n 0, 1) := by decide +kernel
theorem dX6_lodgeOf_43 : decode cX6_lodgeOf 43 = .ok (.bipush 29, 2) := by decide +kernel
theorem dX6_lodgeOf_45 : decode cX6_lodgeOf 45 = .ok (.invokevirtual 193, 3) := by decide +kernel
theorem dX6_lodgeOf_48 : decode cX6_lodgeOf 48 = .ok (.aload_n 0, 1) := by decide +kernel
theorem dX6_lodgeOf_49 : decode cX6_lodgeOf 49 = .ok (.getfield 67, 3) := by decide +kernel
theorem dX6_lodgeOf_52 : decode cX6_lodgeOf 52 = .ok (.iload_n 1, 1) := by decide +kernel
theorem dX6_lodgeOf_53 : decode cX6_lodgeOf 53 = .ok (.iaload, 1) := by decide +kernel
theorem dX6_lodgeOf_54 : decode cX6_lodgeOf 54 = .ok (.iconst (-1), 1) := by decide +kernel
theorem dX6_lodgeOf_55 : decode cX6_lodgeOf 55 = .ok (.if_icmp .ne 8, 3) := by decide +kernel
theorem dX6_lodgeOf_58 : decode cX6_lodgeOf 58 = .ok (.bipush 99, 2) := by decide +kernel
theorem dX6_lodgeOf_60 : decode cX6_lodgeOf 60 = .ok (.goto 9, 3) := by decide +kernel
theorem dX6_lodgeOf_63 : decode cX6_lodgeOf 63 = .ok (.aload_n 0, 1) := by decide +kernel
theorem dX6_lodgeOf_64 : decode cX6_lodgeOf 64 = .ok (.getfield 67, 3) := by decide +kernel
theorem dX6_lodgeOf_67 : decode cX6_lodgeOf 67 = .ok (.iload_n 1, 1) := by decide +kernel
theorem dX6_lodgeOf_68 : decode cX6_lodgeOf 68 = .ok (.iaload, 1) := by decide +kernel
theorem dX6_lodgeOf_69 : decode cX6_lodgeOf 69 = .ok (.istore 7, 2) := by decide +kernel
theorem dX6_lodgeOf_71 : decode cX6_lodgeOf 71 = .ok (.aload_n 0, 1) := by decide +kernel
theorem dX6_lodgeOf_72 : decode cX6_lodgeOf 72 = .ok (.getfield 52, 3) := by decide +kernel
theorem dX6_lodgeOf_75 : decode cX6_lodgeOf 75 = .ok (.iload_n 1, 1) := by decide +kernel
theorem dX6_lodgeOf_76 : decode cX6_lodgeOf 76 = .ok (.iaload, 1) := by decide +kernel
theorem dX6_lodgeOf_77 : decode cX6_lodgeOf 77 = .ok (.iconst (-1), 1) := by decide +kernel
theorem dX6_lodgeOf_78 : decode cX6_lodgeOf 78 = .ok (.if_icmp .eq 20, 3) := by decide +kernel
theorem dX6_lodgeOf_81 : decode cX6_lodgeOf 81 = .ok (.iload 4, 2) := by decide +kernel
theorem dX6_lodgeOf_83 : decode cX6_lodgeOf 83 = .ok (.iconst (-1), 1) := by decide +kernel
theorem dX6_lodgeOf_84 : decode cX6_lodgeOf 84 = .ok (.if_icmp .eq 10, 3) := by decide +kernel
theorem dX6_lodgeOf_87 : decode cX6_lodgeOf 87 = .ok (.iload 7, 2) := by decide +kernel
theorem dX6_lodgeOf_89 : decode cX6_lodgeOf 89 = .ok (.iload 5, 2) := by decide +kernel
theorem dX6_lodgeOf_91 : decode cX6_lodgeOf 91 = .ok (.if_icmp .le 7, 3) := by decide +kernel
theorem dX6_lodgeOf_94 : decode cX6_lodgeOf 94 = .ok (.iconst 1, 1) := by decide +kernel
theorem dX6_lodgeOf_95 : decode cX6_lodgeOf 95 = .ok (.goto 4, 3) := by decide +kernel
theorem dX6_lodgeOf_98 : decode cX6_lodgeOf 98 = .ok (.iconst 0, 1) := by decide +kernel
theorem dX6_lodgeOf_99 : decode cX6_lodgeOf 99 = .ok (.istore 8, 2) := by decide +kernel
theorem dX6_lodgeOf_101 : decode cX6_lodgeOf 101 = .ok (.iload 8, 2) := by decide +kernel
theorem dX6_lodgeOf_103 : decode cX6_lodgeOf 103 = .ok (.ifCond .eq 8, 3) := by decide +kernel
theorem dX6_lodgeOf_106 : decode cX6_lodgeOf 106 = .ok (.iload 6, 2) := by decide +kernel
theorem dX6_lodgeOf_108 : decode cX6_lodgeOf 108 = .ok (.goto 5, 3) := by decide +kernel
theorem dX6_lodgeOf_111 : decode cX6_lodgeOf 111 = .ok (.iload 4, 2) := by decide +kernel
theorem dX6_lodgeOf_113 : decode cX6_lodgeOf 113 = .ok (.istore 4, 2) := by decide +kernel
theorem dX6_lodgeOf_115 : decode cX6_lodgeOf 115 = .ok (.iload 8, 2) := by decide +kernel
theorem dX6_lodgeOf_117 : decode cX6_lodgeOf 117 = .ok (.ifCond .eq 8, 3) := by decide +kernel
theorem dX6_lodgeOf_120 : decode cX6_lodgeOf 120 = .ok (.iload 7, 2) := by decide +kernel
theorem dX6_lodgeOf_122 : decode cX6_lodgeOf 122 = .ok (.goto 5, 3) := by decide +kernel
theorem dX6_lodgeOf_125 : decode cX6_lodgeOf 125 = .ok (.iload 5, 2) := by decide +kernel
theorem dX6_lodgeOf_127 : decode cX6_lodgeOf 127 = .ok (.istore 5, 2) := by decide +kernel
theorem dX6_lodgeOf_129 : decode cX6_lodgeOf 129 = .ok (.iinc 6 1, 3) := by decide +kernel
theorem dX6_lodgeOf_132 : decode cX6_lodgeOf 132 = .ok (.goto (-107), 3) := by decide +kernel
theorem dX6_lodgeOf_135 : decode cX6_lodgeOf 135 = .ok (.aload_n 0, 1) := by decide +kernel
theorem dX6_lodgeOf_136 : decode cX6_lodgeOf 136 = .ok (.getfield 25, 3) := by decide +kernel
theorem dX6_lodgeOf_139 : decode cX6_lodgeOf 139 = .ok (.iload_n 1, 1) := by decide +kernel
theorem dX6_lodgeOf_140 : decode cX6_lodgeOf 140 = .ok (.iload_n 3, 1) := by decide +kernel
theorem dX6_lodgeOf_141 : decode cX6_lodgeOf 141 = .ok (.iastore, 1) := by decide +kernel
theorem dX6_lodgeOf_142 : decode cX6_lodgeOf 142 = .ok (.iload_n 2, 1) := by decide +kernel
theorem dX6_lodgeOf_143 : decode cX6_lodgeOf 143 = .ok (.ifCond .ne 8, 3) := by decide +kernel
theorem dX6_lodgeOf_146 : decode cX6_lodgeOf 146 = .ok (.iload 4, 2) := by decide +kernel
theorem dX6_lodgeOf_148 : decode cX6_lodgeOf 148 = .ok (.goto 22, 3) := by decide +kernel
theorem dX6_lodgeOf_151 : decode cX6_lodgeOf 151 = .ok (.iload 4, 2) := by decide +kernel
theorem dX6_lodgeOf_153 : decode cX6_lodgeOf 153 = .ok (.iconst (-1), 1) := by decide +kernel
theorem dX6_lodgeOf_154 : decode cX6_lodgeOf 154 = .ok (.if_icmp .eq 10, 3) := by decide +kernel
theorem dX6_lodgeOf_157 : decode cX6_lodgeOf 157 = .ok (.iload 5, 2) := by decide +kernel
theorem dX6_lodgeOf_159 : decode cX6_lodgeOf 159 = .ok (.bipush 99, 2) := by decide +kernel
theorem dX6_lodgeOf_161 : decode cX6_lodgeOf 161 = .ok (.if_icmp .ne 7, 3) := by decide +kernel
theorem dX6_lodgeOf_164 : decode cX6_lodgeOf 164 = .ok (.iconst (-1), 1) := by decide +kernel
theorem dX6_lodgeOf_165 : decode cX6_lodgeOf 165 = .ok (.goto 5, 3) := by decide +kernel
theorem dX6_lodgeOf_168 : decode cX6_lodgeOf 168 = .ok (.iload 5, 2) := by decide +kernel
theorem dX6_lodgeOf_170 : decode cX6_lodgeOf 170 = .ok (.ireturn, 1) := by decide +kernel
theorem dX6_lodge_0 : decode cX6_lodge 0 = .ok (.aload_n 0, 1) := by decide +kernel
theorem dX6_lodge_1 : decode cX6_lodge 1 = .ok (.iload_n 1, 1) := by decide +kernel
theorem dX6_lodge_2 : decode cX6_lodge 2 = .ok (.invokevirtual 155, 3) := by decide +kernel
theorem dX6_lodge_5 : decode cX6_lodge 5 = .ok (.ifCond .eq 21, 3) := by decide +kernel
theorem dX6_lodge_8 : decode cX6_lodge 8 = .ok (.iload_n 2, 1) := by decide +kernel
theorem dX6_lodge_9 : decode cX6_lodge 9 = .ok (.iconst 0, 1) := by decide +kernel
theorem dX6_lodge_10 : decode cX6_lodge 10 = .ok (.iconst 1, 1) := by decide +kernel
theorem dX6_lodge_11 : decode cX6_lodge 11 = .ok (.invokestatic 107, 3) := by decide +kernel
theorem dX6_lodge_14 : decode cX6_lodge 14 = .ok (.ifCond .eq 12, 3) := by decide +kernel
theorem dX6_lodge_17 : decode cX6_lodge 17 = .ok (.aload_n 0, 1) := by decide +kernel
theorem dX6_lodge_18 : decode cX6_lodge 18 = .ok (.iload_n 1, 1) := by decide +kernel
theorem dX6_lodge_19 : decode cX6_lodge 19 = .ok (.iload_n 2, 1) := by decide +kernel
theorem dX6_lodge_20 : decode cX6_lodge 20 = .ok (.invokevirtual 234, 3) := by decide +kernel
theorem dX6_lodge_23 : decode cX6_lodge 23 = .ok (.goto 5, 3) := by decide +kernel
theorem dX6_lodge_26 : decode cX6_lodge 26 = .ok (.bipush (-2), 2) := by decide +kernel
theorem dX6_lodge_28 : decode cX6_lodge 28 = .ok (.ireturn, 1) := by decide +kernel
theorem dX6_lookOf_0 : decode cX6_lookOf 0 = .ok (.aload_n 0, 1) := by decide +kernel
theorem dX6_lookOf_1 : decode cX6_lookOf 1 = .ok (.invokevirtual 152, 3) := by decide +kernel
theorem dX6_lookOf_4 : decode cX6_lookOf 4 = .ok (.aload_n 0, 1) := by decide +kernel
theorem dX6_lookOf_5 : decode cX6_lookOf 5 = .ok (.iconst 0, 1) := by decide +kernel
theorem dX6_lookOf_6 : decode cX6_lookOf 6 = .ok (.putfield 180, 3) := by decide +kernel
theorem dX6_lookOf_9 : decode cX6_lookOf 9 = .ok (.aload_n 0, 1) := by decide +kernel
theorem dX6_lookOf_10 : decode cX6_lookOf 10 = .ok (.getfield 43, 3) := by decide +kernel
theorem dX6_lookOf_13 : decode cX6_lookOf 13 = .ok (.iload_n 1, 1) := by decide +kernel
theorem dX6_lookOf_14 : decode cX6_lookOf 14 = .ok (.iaload, 1) := by decide +kernel
theorem dX6_lookOf_15 : decode cX6_lookOf 15 = .ok (.istore_n 2, 1) := by decide +kernel
theorem dX6_lookOf_16 : decode cX6_lookOf 16 = .ok (.iconst (-1), 1) := by decide +kernel
theorem dX6_lookOf_17 : decode cX6_lookOf 17 = .ok (.istore_n 3, 1) := by decide +kernel
theorem dX6_lookOf_18 : decode cX6_lookOf 18 = .ok (.iconst 0, 1) := by decide +kernel
theorem dX6_lookOf_19 : decode cX6_lookOf 19 = .ok (.istore 4, 2) := by decide +kernel
theorem dX6_lookOf_21 : decode cX6_lookOf 21 = .ok (.iload 4, 2) := by decide +kernel
theorem dX6_lookOf_23 : decode cX6_lookOf 23 = .ok (.bipush 10, 2) := by decide +kernel
theorem dX6_lookOf_25 : decode cX6_lookOf 25 = .ok (.if_icmp .ge 52, 3) := by decide +kernel
theorem dX6_lookOf_28 : decode cX6_lookOf 28 = .ok (.iload_n 3, 1) := by decide +kernel
theorem dX6_lookOf_29 : decode cX6_lookOf 29 = .ok (.iconst (-1), 1) := by decide +kernel
theorem dX6_lookOf_30 : decode cX6_lookOf 30 = .ok (.if_icmp .ne 47, 3) := by decide +kernel
theorem dX6_lookOf_33 : decode cX6_lookOf 33 = .ok (.aload_n 0, 1) := by decide +kernel
theorem dX6_lookOf_34 : decode cX6_lookOf 34 = .ok (.getfield 43, 3) := by decide +kernel
theorem dX6_lookOf_37 : decode cX6_lookOf 37 = .ok (.iload_n 1, 1) := by decide +kernel
theorem dX6_lookOf_38 : decode cX6_lookOf 38 = .ok (.iload 4, 2) := by decide +kernel
theorem dX6_lookOf_40 : decode cX6_lookOf 40 = .ok (.iastore, 1) := by decide +kernel
theorem dX6_lookOf_41 : decode cX6_lookOf 41 = .ok (.aload_n 0, 1) := by decide +kernel
theorem dX6_lookOf_42 : decode cX6_lookOf 42 = .ok (.bipush 29, 2) := by decide +kernel
theorem dX6_lookOf_44 : decode cX6_lookOf 44 = .ok (.invokevirtual 193, 3) := by decide +kernel
theorem dX6_lookOf_47 : decode cX6_lookOf 47 = .ok (.aload_n 0, 1) := by decide +kernel
theorem dX6_lookOf_48 : decode cX6_lookOf 48 = .ok (.iload_n 1, 1) := by decide +kernel
theorem dX6_lookOf_49 : decode cX6_lookOf 49 = .ok (.invokevirtual 215, 3) := by decide +kernel
theorem dX6_lookOf_52 : decode cX6_lookOf 52 = .ok (.aload_n 0, 1) := by decide +kernel
theorem dX6_lookOf_53 : decode cX6_lookOf 53 = .ok (.getfield 64, 3) := by decide +kernel
theorem dX6_lookOf_56 : decode cX6_lookOf 56 = .ok (.iload_n 1, 1) := by decide +kernel
theorem dX6_lookOf_57 : decode cX6_lookOf 57 = .ok (.iaload, 1) := by decide +kernel
theorem dX6_lookOf_58 : decode cX6_lookOf 58 = .ok (.invokestatic 218, 3) := by decide +kernel
theorem dX6_lookOf_61 : decode cX6_lookOf 61 = .ok (.if_icmp .ne 8, 3) := by decide +kernel
theorem dX6_lookOf_64 : decode cX6_lookOf 64 = .ok (.iload 4, 2) := by decide +kernel
theorem dX6_lookOf_66 : decode cX6_lookOf 66 = .ok (.goto 4, 3) := by decide +kernel
theorem dX6_lookOf_69 : decode cX6_lookOf 69 = .ok (.iconst (-1), 1) := by decide +kernel
theorem dX6_lookOf_70 : decode cX6_lookOf 70 = .ok (.istore_n 3, 1) := by decide +kernel
theorem dX6_lookOf_71 : decode cX6_lookOf 71 = .ok (.iinc 4 1, 3) := by decide +kernel
theorem dX6_lookOf_74 : decode cX6_lookOf 74 = .ok (.goto (-53), 3) := by decide +kernel
theorem dX6_lookOf_77 : decode cX6_lookOf 77 = .ok (.aload_n 0, 1) := by decide +kernel
theorem dX6_lookOf_78 : decode cX6_lookOf 78 = .ok (.getfield 43, 3) := by decide +kernel
theorem dX6_lookOf_81 : decode cX6_lookOf 81 = .ok (.iload_n 1, 1) := by decide +kernel
theorem dX6_lookOf_82 : decode cX6_lookOf 82 = .ok (.iload_n 2, 1) := by decide +kernel
theorem dX6_lookOf_83 : decode cX6_lookOf 83 = .ok (.iastore, 1) := by decide +kernel
theorem dX6_lookOf_84 : decode cX6_lookOf 84 = .ok (.iload_n 3, 1) := by decide +kernel
theorem dX6_lookOf_85 : decode cX6_lookOf 85 = .ok (.ireturn, 1) := by decide +kernel
theorem dX6_look_0 : decode cX6_look 0 = .ok (.aload_n 0, 1) := by decide +kernel
theorem dX6_look_1 : decode cX6_look 1 = .ok (.iload_n 1, 1) := by decide +kernel
theorem dX6_look_2 : decode cX6_look 2 = .ok (.invokevirtual 164, 3) := by decide +kernel
theorem dX6_look_5 : decode cX6_look 5 = .ok (.ifCond .eq 11, 3) := by decide +kernel
theorem dX6_look_8 : decode cX6_look 8 = .ok (.aload_n 0, 1) := by decide +kernel
theorem dX6_look_9 : decode cX6_look 9 = .ok (.iload_n 1, 1) := by decide +kernel
theorem dX6_look_10 : decode cX6_look 10 = .ok (.invokevirtual 237, 3) := by decide +kernel
theorem dX6_look_13 : decode cX6_look 13 = .ok (.goto 5, 3) := by decide +kernel
theorem dX6_look_16 : decode cX6_look 16 = .ok (.bipush (-2), 2) := by decide +kernel
theorem dX6_look_18 : decode cX6_look 18 = .ok (.ireturn, 1) := by decide +kernel
theorem dX6_isLeft_0 : decode cX6_isLeft 0 = .ok (.aload_n 0, 1) := by decide +kernel
theorem dX6_isLeft_1 : decode cX6_isLeft 1 = .ok (.iload_n 2, 1) := by decide +kernel
theorem dX6_isLeft_2 : decode cX6_isLeft 2 = .ok (.putfield 180, 3) := by decide +kernel
theorem dX6_isLeft_5 : decode cX6_isLeft 5 = .ok (.aload_n 0, 1) := by decide +kernel
theorem dX6_isLeft_6 : decode cX6_isLeft 6 = .ok (.bipush 29, 2) := by decide +kernel
theorem dX6_isLeft_8 : decode cX6_isLeft 8 = .ok (.invokevirtual 193, 3) := by decide +kernel
theorem dX6_isLeft_11 : decode cX6_isLeft 11 = .ok (.aload_n 0, 1) := by decide +kernel
theorem dX6_isLeft_12 : decode cX6_isLeft 12 = .ok (.getfield 67, 3) := by decide +kernel
theorem dX6_isLeft_15 : decode cX6_isLeft 15 = .ok (.iload_n 1, 1) := by decide +kernel
theorem dX6_isLeft_16 : decode cX6_isLeft 16 = .ok (.iaload, 1) := by decide +kernel
theorem dX6_isLeft_17 : decode cX6_isLeft 17 = .ok (.iconst (-1), 1) := by decide +kernel
theorem dX6_isLeft_18 : decode cX6_isLeft 18 = .ok (.if_icmp .ne 7, 3) := by decide +kernel
theorem dX6_isLeft_21 : decode cX6_isLeft 21 = .ok (.iconst 1, 1) := by decide +kernel
theorem dX6_isLeft_22 : decode cX6_isLeft 22 = .ok (.goto 4, 3) := by decide +kernel
theorem dX6_isLeft_25 : decode cX6_isLeft 25 = .ok (.iconst 0, 1) := by decide +kernel
theorem dX6_isLeft_26 : decode cX6_isLeft 26 = .ok (.ireturn, 1) := by decide +kernel
theorem dX6_leaveBy_0 : decode cX6_leaveBy 0 = .ok (.aload_n 0, 1) := by decide +kernel
theorem dX6_leaveBy_1 : decode cX6_leaveBy 1 = .ok (.invokevirtual 152, 3) := by decide +kernel
theorem dX6_leaveBy_4 : decode cX6_leaveBy 4 = .ok (.aload_n 0, 1) := by decide +kernel
theorem dX6_leaveBy_5 : decode cX6_leaveBy 5 = .ok (.iload_n 1, 1) := by decide +kernel
theorem dX6_leaveBy_6 : decode cX6_leaveBy 6 = .ok (.iconst 0, 1) := by decide +kernel
theorem dX6_leaveBy_7 : decode cX6_leaveBy 7 = .ok (.invokevirtual 240, 3) := by decide +kernel
theorem dX6_leaveBy_10 : decode cX6_leaveBy 10 = .ok (.ifCond .eq 5, 3) := by decide +kernel
theorem dX6_leaveBy_13 : decode cX6_leaveBy 13 = .ok (.iconst 0, 1) := by decide +kernel
theorem dX6_leaveBy_14 : decode cX6_leaveBy 14 = .ok (.ireturn, 1) := by decide +kernel
theorem dX6_leaveBy_15 : decode cX6_leaveBy 15 = .ok (.iconst 0, 1) := by decide +kernel
theorem dX6_leaveBy_16 : decode cX6_leaveBy 16 = .ok (.istore_n 2, 1) := by decide +kernel
theorem dX6_leaveBy_17 : decode cX6_leaveBy 17 = .ok (.iload_n 2, 1) := by decide +kernel
theorem dX6_leaveBy_18 : decode cX6_leaveBy 18 = .ok (.aload_n 0, 1) := by decide +kernel
theorem dX6_leaveBy_19 : decode cX6_leaveBy 19 = .ok (.getfield 129, 3) := by decide +kernel
theorem dX6_leaveBy_22 : decode cX6_leaveBy 22 = .ok (.if_icmp .ge 29, 3) := by decide +kernel
theorem dX6_leaveBy_25 : decode cX6_leaveBy 25 = .ok (.aload_n 0, 1) := by decide +kernel
theorem dX6_leaveBy_26 : decode cX6_leaveBy 26 = .ok (.getfield 70, 3) := by decide +kernel
theorem dX6_leaveBy_29 : decode cX6_leaveBy 29 = .ok (.iconst 0, 1) := by decide +kernel
theorem dX6_leaveBy_30 : decode cX6_leaveBy 30 = .ok (.iload_n 2, 1) := by decide +kernel
theorem dX6_leaveBy_31 : decode cX6_leaveBy 31 = .ok (.iastore, 1) := by decide +kernel
theorem dX6_leaveBy_32 : decode cX6_leaveBy 32 = .ok (.aload_n 0, 1) := by decide +kernel
theorem dX6_leaveBy_33 : decode cX6_leaveBy 33 = .ok (.iload_n 1, 1) := by decide +kernel
theorem dX6_leaveBy_34 : decode cX6_leaveBy 34 = .ok (.iconst 1, 1) := by decide +kernel
theorem dX6_leaveBy_35 : decode cX6_leaveBy 35 = .ok (.iload_n 2, 1) := by decide +kernel
theorem dX6_leaveBy_36 : decode cX6_leaveBy 36 = .ok (.ishl, 1) := by decide +kernel
theorem dX6_leaveBy_37 : decode cX6_leaveBy 37 = .ok (.invokevirtual 240, 3) := by decide +kernel
theorem dX6_leaveBy_40 : decode cX6_leaveBy 40 = .ok (.ifCond .eq 5, 3) := by decide +kernel
theorem dX6_leaveBy_43 : decode cX6_leaveBy 43 = .ok (.iconst 1, 1) := by decide +kernel
theorem dX6_leaveBy_44 : decode cX6_leaveBy 44 = .ok (.ireturn, 1) := by decide +kernel
theorem dX6_leaveBy_45 : decode cX6_leaveBy 45 = .ok (.iinc 2 1, 3) := by decide +kernel
theorem dX6_leaveBy_48 : decode cX6_leaveBy 48 = .ok (.goto (-31), 3) := by decide +kernel
theorem dX6_leaveBy_51 : decode cX6_leaveBy 51 = .ok (.iconst 0, 1) := by decide +kernel
theorem dX6_leaveBy_52 : decode cX6_leaveBy 52 = .ok (.istore_n 2, 1) := by decide +kernel
theorem dX6_leaveBy_53 : decode cX6_leaveBy 53 = .ok (.iload_n 2, 1) := by decide +kernel
theorem dX6_leaveBy_54 : decode cX6_leaveBy 54 = .ok (.aload_n 0, 1) := by decide +kernel
theorem dX6_leaveBy_55 : decode cX6_leaveBy 55 = .ok (.getfield 129, 3) := by decide +kernel
theorem dX6_leaveBy_58 : decode cX6_leaveBy 58 = .ok (.if_icmp .ge 58, 3) := by decide +kernel
theorem dX6_leaveBy_61 : decode cX6_leaveBy 61 = .ok (.iload_n 2, 1) := by decide +kernel
theorem dX6_leaveBy_62 : decode cX6_leaveBy 62 = .ok (.iconst 1, 1) := by decide +kernel
theorem dX6_leaveBy_63 : decode cX6_leaveBy 63 = .ok (.iadd, 1) := by decide +kernel
theorem dX6_leaveBy_64 : decode cX6_leaveBy 64 = .ok (.istore_n 3, 1) := by decide +kernel
theorem dX6_leaveBy_65 : decode cX6_leaveBy 65 = .ok (.iload_n 3, 1) := by decide +kernel
theorem dX6_leaveBy_66 : decode cX6_leaveBy 66 = .ok (.aload_n 0, 1) := by decide +kernel
theorem dX6_leaveBy_67 : decode cX6_leaveBy 67 = .ok (.getfield 129, 3) := by decide +kernel
theorem dX6_leaveBy_70 : decode cX6_leaveBy 70 = .ok (.if_icmp .ge 40, 3) := by decide +kernel
theorem dX6_leaveBy_73 : decode cX6_leaveBy 73 = .ok (.aload_n 0, 1) := by decide +kernel
theorem dX6_leaveBy_74 : decode cX6_leaveBy 74 = .ok (.getfield 70, 3) := by decide +kernel
theorem dX6_leaveBy_77 : decode cX6_leaveBy 77 = .ok (.iconst 0, 1) := by decide +kernel
theorem dX6_leaveBy_78 : decode cX6_leaveBy 78 = .ok (.iload_n 2, 1) := by decide +kernel
theorem dX6_leaveBy_79 : decode cX6_leaveBy 79 = .ok (.iastore, 1) := by decide +kernel
theorem dX6_leaveBy_80 : decode cX6_leaveBy 80 = .ok (.aload_n 0, 1) := by decide +kernel
theorem dX6_leaveBy_81 : decode cX6_leaveBy 81 = .ok (.getfield 70, 3) := by decide +kernel
theorem dX6_leaveBy_84 : decode cX6_leaveBy 84 = .ok (.iconst 1, 1) := by decide +kernel
theorem dX6_leaveBy_85 : decode cX6_leaveBy 85 = .ok (.iload_n 3, 1) := by decide +kernel
theorem dX6_leaveBy_86 : decode cX6_leaveBy 86 = .ok (.iastore, 1) := by decide +kernel
theorem dX6_leaveBy_87 : decode cX6_leaveBy 87 = .ok (.aload_n 0, 1) := by decide +kernel
theorem dX6_leaveBy_88 : decode cX6_leaveBy 88 = .ok (.iload_n 1, 1) := by decide +kernel
theorem dX6_leaveBy_89 : decode cX6_leaveBy 89 = .ok (.iconst 1, 1) := by decide +kernel
theorem dX6_leaveBy_90 : decode cX6_leaveBy 90 = .ok (.iload_n 2, 1) := by decide +kernel
theorem dX6_leaveBy_91 : decode cX6_leaveBy 91 = .ok (.ishl, 1) := by decide +kernel
theorem dX6_leaveBy_92 : decode cX6_leaveBy 92 = .ok (.iconst 1, 1) := by decide +kernel
theorem dX6_leaveBy_93 : decode cX6_leaveBy 93 = .ok (.iload_n 3, 1) := by decide +kernel
theorem dX6_leaveBy_94 : decode cX6_leaveBy 94 = .ok (.ishl, 1) := by decide +kernel
theorem dX6_leaveBy_95 : decode cX6_leaveBy 95 = .ok (.ior, 1) := by decide +kernel
theorem dX6_leaveBy_96 : decode cX6_leaveBy 96 = .ok (.invokevirtual 240, 3) := by decide +kernel
theorem dX6_leaveBy_99 : decode cX6_leaveBy 99 = .ok (.ifCond .eq 5, 3) := by decide +kernel
theorem dX6_leaveBy_102 : decode cX6_leaveBy 102 = .ok (.iconst 2, 1) := by decide +kernel
theorem dX6_leaveBy_103 : decode cX6_leaveBy 103 = .ok (.ireturn, 1) := by decide +kernel
theorem dX6_leaveBy_104 : decode cX6_leaveBy 104 = .ok (.iinc 3 1, 3) := by decide +kernel
theorem dX6_leaveBy_107 : decode cX6_leaveBy 107 = .ok (.goto (-42), 3) := by decide +kernel
theorem dX6_leaveBy_110 : decode cX6_leaveBy 110 = .ok (.iinc 2 1, 3) := by decide +kernel
theorem dX6_leaveBy_113 : decode cX6_leaveBy 113 = .ok (.goto (-60), 3) := by decide +kernel
theorem dX6_leaveBy_116 : decode cX6_leaveBy 116 = .ok (.iconst (-1), 1) := by decide +kernel
theorem dX6_leaveBy_117 : decode cX6_leaveBy 117 = .ok (.ireturn, 1) := by decide +kernel
theorem dX6_ofRow_0 : decode cX6_ofRow 0 = .ok (.iload_n 2, 1) := by decide +kernel
theorem dX6_ofRow_1 : decode cX6_ofRow 1 = .ok (.iconst (-1), 1) := by decide +kernel
theorem dX6_ofRow_2 : decode cX6_ofRow 2 = .ok (.if_icmp .ne 7, 3) := by decide +kernel
theorem dX6_ofRow_5 : decode cX6_ofRow 5 = .ok (.iload_n 1, 1) := by decide +kernel
theorem dX6_ofRow_6 : decode cX6_ofRow 6 = .ok (.goto 18, 3) := by decide +kernel
theorem dX6_ofRow_9 : decode cX6_ofRow 9 = .ok (.iload_n 2, 1) := by decide +kernel
theorem dX6_ofRow_10 : decode cX6_ofRow 10 = .ok (.iload_n 1, 1) := by decide +kernel
theorem dX6_ofRow_11 : decode cX6_ofRow 11 = .ok (.if_icmp .ge 12, 3) := by decide +kernel
theorem dX6_ofRow_14 : decode cX6_ofRow 14 = .ok (.aload_n 0, 1) := by decide +kernel
theorem dX6_ofRow_15 : decode cX6_ofRow 15 = .ok (.getfield 70, 3) := by decide +kernel
theorem dX6_ofRow_18 : decode cX6_ofRow 18 = .ok (.iload_n 2, 1) := by decide +kernel
theorem dX6_ofRow_19 : decode cX6_ofRow 19 = .ok (.iaload, 1) := by decide +kernel
theorem dX6_ofRow_20 : decode cX6_ofRow 20 = .ok (.goto 4, 3) := by decide +kernel
theorem dX6_ofRow_23 : decode cX6_ofRow 23 = .ok (.iconst (-1), 1) := by decide +kernel
theorem dX6_ofRow_24 : decode cX6_ofRow 24 = .ok (.ireturn, 1) := by decide +kernel
theorem dX6_leave_0 : decode cX6_leave 0 = .ok (.aload_n 0, 1) := by decide +kernel
theorem dX6_leave_1 : decode cX6_leave 1 = .ok (.iload_n 1, 1) := by decide +kernel
theorem dX6_leave_2 : decode cX6_leave 2 = .ok (.invokevirtual 155, 3) := by decide +kernel
theorem dX6_leave_5 : decode cX6_leave 5 = .ok (.ifCond .eq 25, 3) := by decide +kernel
theorem dX6_leave_8 : decode cX6_leave 8 = .ok (.iload_n 2, 1) := by decide +kernel
theorem dX6_leave_9 : decode cX6_leave 9 = .ok (.iconst (-1), 1) := by decide +kernel
theorem dX6_leave_10 : decode cX6_leave 10 = .ok (.iconst 1, 1) := by decide +kernel
theorem dX6_leave_11 : decode cX6_leave 11 = .ok (.invokestatic 107, 3) := by decide +kernel
theorem dX6_leave_14 : decode cX6_leave 14 = .ok (.ifCond .eq 16, 3) := by decide +kernel
theorem dX6_leave_17 : decode cX6_leave 17 = .ok (.aload_n 0, 1) := by decide +kernel
theorem dX6_leave_18 : decode cX6_leave 18 = .ok (.aload_n 0, 1) := by decide +kernel
theorem dX6_leave_19 : decode cX6_leave 19 = .ok (.iload_n 1, 1) := by decide +kernel
theorem dX6_leave_20 : decode cX6_leave 20 = .ok (.invokevirtual 243, 3) := by decide +kernel
theorem dX6_leave_23 : decode cX6_leave 23 = .ok (.iload_n 2, 1) := by decide +kernel
theorem dX6_leave_24 : decode cX6_leave 24 = .ok (.invokevirtual 246, 3) := by decide +kernel
theorem dX6_leave_27 : decode cX6_leave 27 = .ok (.goto 5, 3) := by decide +kernel
theorem dX6_leave_30 : decode cX6_leave 30 = .ok (.bipush (-2), 2) := by decide +kernel
theorem dX6_leave_32 : decode cX6_leave 32 = .ok (.ireturn, 1) := by decide +kernel
theorem dX6_seen_0 : decode cX6_seen 0 = .ok (.iload_n 1, 1) := by decide +kernel
theorem dX6_seen_1 : decode cX6_seen 1 = .ok (.invokestatic 199, 3) := by decide +kernel
theorem dX6_seen_4 : decode cX6_seen 4 = .ok (.ifCond .eq 24, 3) := by decide +kernel
theorem dX6_seen_7 : decode cX6_seen 7 = .ok (.iload_n 2, 1) := by decide +kernel
theorem dX6_seen_8 : decode cX6_seen 8 = .ok (.iconst 0, 1) := by decide +kernel
theorem dX6_seen_9 : decode cX6_seen 9 = .ok (.bipush 7, 2) := by decide +kernel
theorem dX6_seen_11 : decode cX6_seen 11 = .ok (.invokestatic 107, 3) := by decide +kernel
theorem dX6_seen_14 : decode cX6_seen 14 = .ok (.ifCond .eq 14, 3) := by decide +kernel
theorem dX6_seen_17 : decode cX6_seen 17 = .ok (.iload_n 3, 1) := by decide +kernel
theorem dX6_seen_18 : decode cX6_seen 18 = .ok (.iconst 0, 1) := by decide +kernel
theorem dX6_seen_19 : decode cX6_seen 19 = .ok (.sipush 999, 3) := by decide +kernel
theorem dX6_seen_22 : decode cX6_seen 22 = .ok (.invokestatic 107, 3) := by decide +kernel
theorem dX6_seen_25 : decode cX6_seen 25 = .ok (.ifCond .ne 6, 3) := by decide +kernel
theorem dX6_seen_28 : decode cX6_seen 28 = .ok (.bipush (-2), 2) := by decide +kernel
theorem dX6_seen_30 : decode cX6_seen 30 = .ok (.ireturn, 1) := by decide +kernel
theorem dX6_seen_31 : decode cX6_seen 31 = .ok (.aload_n 0, 1) := by decide +kernel
theorem dX6_seen_32 : decode cX6_seen 32 = .ok (.getfield 249, 3) := by decide +kernel
theorem dX6_seen_35 : decode cX6_seen 35 = .ok (.bipush 8, 2) := by decide +kernel
theorem dX6_seen_37 : decode cX6_seen 37 = .ok (.if_icmp .ne 6, 3) := by decide +kernel
theorem dX6_seen_40 : decode cX6_seen 40 = .ok (.bipush (-4), 2) := by decide +kernel
theorem dX6_seen_42 : decode cX6_seen 42 = .ok (.ireturn, 1) := by decide +kernel
theorem dX6_seen_43 : decode cX6_seen 43 = .ok (.aload_n 0, 1) := by decide +kernel
theorem dX6_seen_44 : decode cX6_seen 44 = .ok (.getfield 73, 3) := by decide +kernel
theorem dX6_seen_47 : decode cX6_seen 47 = .ok (.aload_n 0, 1) := by decide +kernel
theorem dX6_seen_48 : decode cX6_seen 48 = .ok (.getfield 249, 3) := by decide +kernel
theorem dX6_seen_51 : decode cX6_seen 51 = .ok (.iload_n 1, 1) := by decide +kernel
theorem dX6_seen_52 : decode cX6_seen 52 = .ok (.iastore, 1) := by decide +kernel
theorem dX6_seen_53 : decode cX6_seen 53 = .ok (.aload_n 0, 1) := by decide +kernel
theorem dX6_seen_54 : decode cX6_seen 54 = .ok (.getfield 76, 3) := by decide +kernel
theorem dX6_seen_57 : decode cX6_seen 57 = .ok (.aload_n 0, 1) := by decide +kernel
theorem dX6_seen_58 : decode cX6_seen 58 = .ok (.getfield 249, 3) := by decide +kernel
theorem dX6_seen_61 : decode cX6_seen 61 = .ok (.iload_n 2, 1) := by decide +kernel
theorem dX6_seen_62 : decode cX6_seen 62 = .ok (.iastore, 1) := by decide +kernel
theorem dX6_seen_63 : decode cX6_seen 63 = .ok (.aload_n 0, 1) := by decide +kernel
theorem dX6_seen_64 : decode cX6_seen 64 = .ok (.getfield 79, 3) := by decide +kernel
theorem dX6_seen_67 : decode cX6_seen 67 = .ok (.aload_n 0, 1) := by decide +kernel
theorem dX6_seen_68 : decode cX6_seen 68 = .ok (.getfield 249, 3) := by decide +kernel
theorem dX6_seen_71 : decode cX6_seen 71 = .ok (.iload_n 3, 1) := by decide +kernel
theorem dX6_seen_72 : decode cX6_seen 72 = .ok (.iastore, 1) := by decide +kernel
theorem dX6_seen_73 : decode cX6_seen 73 = .ok (.aload_n 0, 1) := by decide +kernel
theorem dX6_seen_74 : decode cX6_seen 74 = .ok (.dup, 1) := by decide +kernel
theorem dX6_seen_75 : decode cX6_seen 75 = .ok (.getfield 249, 3) := by decide +kernel
theorem dX6_seen_78 : decode cX6_seen 78 = .ok (.iconst 1, 1) := by decide +kernel
theorem dX6_seen_79 : decode cX6_seen 79 = .ok (.iadd, 1) := by decide +kernel
theorem dX6_seen_80 : decode cX6_seen 80 = .ok (.putfield 249, 3) := by decide +kernel
theorem dX6_seen_83 : decode cX6_seen 83 = .ok (.aload_n 0, 1) := by decide +kernel
theorem dX6_seen_84 : decode cX6_seen 84 = .ok (.getfield 249, 3) := by decide +kernel
theorem dX6_seen_87 : decode cX6_seen 87 = .ok (.ireturn, 1) := by decide +kernel
theorem dX6_forget_0 : decode cX6_forget 0 = .ok (.aload_n 0, 1) := by decide +kernel
theorem dX6_forget_1 : decode cX6_forget 1 = .ok (.getfield 249, 3) := by decide +kernel
theorem dX6_forget_4 : decode cX6_forget 4 = .ok (.istore_n 1, 1) := by decide +kernel
theorem dX6_forget_5 : decode cX6_forget 5 = .ok (.aload_n 0, 1) := by decide +kernel
theorem dX6_forget_6 : decode cX6_forget 6 = .ok (.iconst 0, 1) := by decide +kernel
theorem dX6_forget_7 : decode cX6_forget 7 = .ok (.putfield 249, 3) := by decide +kernel
theorem dX6_forget_10 : decode cX6_forget 10 = .ok (.iload_n 1, 1) := by decide +kernel
theorem dX6_forget_11 : decode cX6_forget 11 = .ok (.ireturn, 1) := by decide +kernel
theorem dX6_read_0 : decode cX6_read 0 = .ok (.iload_n 1, 1) := by decide +kernel
theorem dX6_read_1 : decode cX6_read 1 = .ok (.invokestatic 252, 3) := by decide +kernel
theorem dX6_read_4 : decode cX6_read 4 = .ok (.ifCond .ne 6, 3) := by decide +kernel
theorem dX6_read_7 : decode cX6_read 7 = .ok (.bipush (-2), 2) := by decide +kernel
theorem dX6_read_9 : decode cX6_read 9 = .ok (.ireturn, 1) := by decide +kernel
theorem dX6_read_10 : decode cX6_read 10 = .ok (.aload_n 0, 1) := by decide +kernel
theorem dX6_read_11 : decode cX6_read 11 = .ok (.getfield 85, 3) := by decide +kernel
theorem dX6_read_14 : decode cX6_read 14 = .ok (.iload_n 1, 1) := by decide +kernel
theorem dX6_read_15 : decode cX6_read 15 = .ok (.baload, 1) := by decide +kernel
theorem dX6_read_16 : decode cX6_read 16 = .ok (.ifCond .ne 9, 3) := by decide +kernel
theorem dX6_read_19 : decode cX6_read 19 = .ok (.aload_n 0, 1) := by decide +kernel
theorem dX6_read_20 : decode cX6_read 20 = .ok (.iconst 1, 1) := by decide +kernel
theorem dX6_read_21 : decode cX6_read 21 = .ok (.invokevirtual 255, 3) := by decide +kernel
theorem dX6_read_24 : decode cX6_read 24 = .ok (.ireturn, 1) := by decide +kernel
theorem dX6_read_25 : decode cX6_read 25 = .ok (.iconst 0, 1) := by decide +kernel
theorem dX6_read_26 : decode cX6_read 26 = .ok (.istore_n 2, 1) := by decide +kernel
theorem dX6_read_27 : decode cX6_read 27 = .ok (.iconst 3, 1) := by decide +kernel
theorem dX6_read_28 : decode cX6_read 28 = .ok (.iload_n 2, 1) := by decide +kernel
theorem dX6_read_29 : decode cX6_read 29 = .ok (.imul, 1) := by decide +kernel
theorem dX6_read_30 : decode cX6_read 30 = .ok (.iconst 2, 1) := by decide +kernel
theorem dX6_read_31 : decode cX6_read 31 = .ok (.iadd, 1) := by decide +kernel
theorem dX6_read_32 : decode cX6_read 32 = .ok (.aload_n 0, 1) := by decide +kernel
theorem dX6_read_33 : decode cX6_read 33 = .ok (.getfield 92, 3) := by decide +kernel
theorem dX6_read_36 : decode cX6_read 36 = .ok (.iload_n 1, 1) := by decide +kernel
theorem dX6_read_37 : decode cX6_read 37 = .ok (.iaload, 1) := by decide +kernel
theorem dX6_read_38 : decode cX6_read 38 = .ok (.if_icmp .ge 59, 3) := by decide +kernel
theorem dX6_read_41 : decode cX6_read 41 = .ok (.aload_n 0, 1) := by decide +kernel
theorem dX6_read_42 : decode cX6_read 42 = .ok (.aload_n 0, 1) := by decide +kernel
theorem dX6_read_43 : decode cX6_read 43 = .ok (.getfield 95, 3) := by decide +kernel
theorem dX6_read_46 : decode cX6_read 46 = .ok (.bipush 60, 2) := by decide +kernel
theorem dX6_read_48 : decode cX6_read 48 = .ok (.iload_n 1, 1) := by decide +kernel
theorem dX6_read_49 : decode cX6_read 49 = .ok (.imul, 1) := by decide +kernel
theorem dX6_read_50 : decode cX6_read 50 = .ok (.iconst 3, 1) := by decide +kernel
theorem dX6_read_51 : decode cX6_read 51 = .ok (.iload_n 2, 1) := by decide +kernel
theorem dX6_read_52 : decode cX6_read 52 = .ok (.imul, 1) := by decide +kernel
theorem dX6_read_53 : decode cX6_read 53 = .ok (.iadd, 1) := by decide +kernel
theorem dX6_read_54 : decode cX6_read 54 = .ok (.iaload, 1) := by decide +kernel
theorem dX6_read_55 : decode cX6_read 55 = .ok (.aload_n 0, 1) := by decide +kernel
theorem dX6_read_56 : decode cX6_read 56 = .ok (.getfield 95, 3) := by decide +kernel
theorem dX6_read_59 : decode cX6_read 59 = .ok (.bipush 60, 2) := by decide +kernel
theorem dX6_read_61 : decode cX6_read 61 = .ok (.iload_n 1, 1) := by decide +kernel
theorem dX6_read_62 : decode cX6_read 62 = .ok (.imul, 1) := by decide +kernel
theorem dX6_read_63 : decode cX6_read 63 = .ok (.iconst 3, 1) := by decide +kernel
theorem dX6_read_64 : decode cX6_read 64 = .ok (.iload_n 2, 1) := by decide +kernel
theorem dX6_read_65 : decode cX6_read 65 = .ok (.imul, 1) := by decide +kernel
theorem dX6_read_66 : decode cX6_read 66 = .ok (.iadd, 1) := by decide +kernel
theorem dX6_read_67 : decode cX6_read 67 = .ok (.iconst 1, 1) := by decide +kernel
theorem dX6_read_68 : decode cX6_read 68 = .ok (.iadd, 1) := by decide +kernel
theorem dX6_read_69 : decode cX6_read 69 = .ok (.iaload, 1) := by decide +kernel
theorem dX6_read_70 : decode cX6_read 70 = .ok (.aload_n 0, 1) := by decide +kernel
theorem dX6_read_71 : decode cX6_read 71 = .ok (.getfield 95, 3) := by decide +kernel
theorem dX6_read_74 : decode cX6_read 74 = .ok (.bipush 60, 2) := by decide +kernel
theorem dX6_read_76 : decode cX6_read 76 = .ok (.iload_n 1, 1) := by decide +kernel
theorem dX6_read_77 : decode cX6_read 77 = .ok (.imul, 1) := by decide +kernel
theorem dX6_read_78 : decode cX6_read 78 = .ok (.iconst 3, 1) := by decide +kernel
theorem dX6_read_79 : decode cX6_read 79 = .ok (.iload_n 2, 1) := by decide +kernel
theorem dX6_read_80 : decode cX6_read 80 = .ok (.imul, 1) := by decide +kernel
theorem dX6_read_81 : decode cX6_read 81 = .ok (.iadd, 1) := by decide +kernel
theorem dX6_read_82 : decode cX6_read 82 = .ok (.iconst 2, 1) := by decide +kernel
theorem dX6_read_83 : decode cX6_read 83 = .ok (.iadd, 1) := by decide +kernel
theorem dX6_read_84 : decode cX6_read 84 = .ok (.iaload, 1) := by decide +kernel
theorem dX6_read_85 : decode cX6_read 85 = .ok (.invokevirtual 258, 3) := by decide +kernel
theorem dX6_read_88 : decode cX6_read 88 = .ok (.ifCond .le 9, 3) := by decide +kernel
theorem dX6_read_91 : decode cX6_read 91 = .ok (.iinc 2 1, 3) := by decide +kernel
theorem dX6_read_94 : decode cX6_read 94 = .ok (.goto (-67), 3) := by decide +kernel
theorem dX6_read_97 : decode cX6_read 97 = .ok (.iload_n 2, 1) := by decide +kernel
theorem dX6_read_98 : decode cX6_read 98 = .ok (.ireturn, 1) := by decide +kernel
theorem dX6_isSeen_0 : decode cX6_isSeen 0 = .ok (.iconst 1, 1) := by decide +kernel
theorem dX6_isSeen_1 : decode cX6_isSeen 1 = .ok (.istore_n 1, 1) := by decide +kernel
theorem dX6_isSeen_2 : decode cX6_isSeen 2 = .ok (.aload_n 0, 1) := by decide +kernel
theorem dX6_isSeen_3 : decode cX6_isSeen 3 = .ok (.invokevirtual 186, 3) := by decide +kernel
theorem dX6_isSeen_6 : decode cX6_isSeen 6 = .ok (.iconst 0, 1) := by decide +kernel
theorem dX6_isSeen_7 : decode cX6_isSeen 7 = .ok (.istore_n 2, 1) := by decide +kernel
theorem dX6_isSeen_8 : decode cX6_isSeen 8 = .ok (.iload_n 2, 1) := by decide +kernel
theorem dX6_isSeen_9 : decode cX6_isSeen 9 = .ok (.bipush 30, 2) := by decide +kernel
theorem dX6_isSeen_11 : decode cX6_isSeen 11 = .ok (.if_icmp .ge 83, 3) := by decide +kernel
theorem dX6_isSeen_14 : decode cX6_isSeen 14 = .ok (.aload_n 0, 1) := by decide +kernel
theorem dX6_isSeen_15 : decode cX6_isSeen 15 = .ok (.iload_n 2, 1) := by decide +kernel
theorem dX6_isSeen_16 : decode cX6_isSeen 16 = .ok (.invokevirtual 189, 3) := by decide +kernel
theorem dX6_isSeen_19 : decode cX6_isSeen 19 = .ok (.iconst 0, 1) := by decide +kernel
theorem dX6_isSeen_20 : decode cX6_isSeen 20 = .ok (.istore_n 3, 1) := by decide +kernel
theorem dX6_isSeen_21 : decode cX6_isSeen 21 = .ok (.iload_n 3, 1) := by decide +kernel
theorem dX6_isSeen_22 : decode cX6_isSeen 22 = .ok (.aload_n 0, 1) := by decide +kernel
theorem dX6_isSeen_23 : decode cX6_isSeen 23 = .ok (.getfield 249, 3) := by decide +kernel
theorem dX6_isSeen_26 : decode cX6_isSeen 26 = .ok (.if_icmp .ge 62, 3) := by decide +kernel
theorem dX6_isSeen_29 : decode cX6_isSeen 29 = .ok (.iload_n 1, 1) := by decide +kernel
theorem dX6_isSeen_30 : decode cX6_isSeen 30 = .ok (.ifCond .eq 50, 3) := by decide +kernel
theorem dX6_isSeen_33 : decode cX6_isSeen 33 = .ok (.aload_n 0, 1) := by decide +kernel
theorem dX6_isSeen_34 : decode cX6_isSeen 34 = .ok (.getfield 73, 3) := by decide +kernel
theorem dX6_isSeen_37 : decode cX6_isSeen 37 = .ok (.iload_n 3, 1) := by decide +kernel
theorem dX6_isSeen_38 : decode cX6_isSeen 38 = .ok (.iaload, 1) := by decide +kernel
theorem dX6_isSeen_39 : decode cX6_isSeen 39 = .ok (.iload_n 2, 1) := by decide +kernel
theorem dX6_isSeen_40 : decode cX6_isSeen 40 = .ok (.if_icmp .ne 36, 3) := by decide +kernel
theorem dX6_isSeen_43 : decode cX6_isSeen 43 = .ok (.aload_n 0, 1) := by decide +kernel
theorem dX6_isSeen_44 : decode cX6_isSeen 44 = .ok (.getfield 76, 3) := by decide +kernel
theorem dX6_isSeen_47 : decode cX6_isSeen 47 = .ok (.iload_n 3, 1) := by decide +kernel
theorem dX6_isSeen_48 : decode cX6_isSeen 48 = .ok (.iaload, 1) := by decide +kernel
theorem dX6_isSeen_49 : decode cX6_isSeen 49 = .ok (.aload_n 0, 1) := by decide +kernel
theorem dX6_isSeen_50 : decode cX6_isSeen 50 = .ok (.getfield 126, 3) := by decide +kernel
theorem dX6_isSeen_53 : decode cX6_isSeen 53 = .ok (.if_icmp .ge 27, 3) := by decide +kernel
theorem dX6_isSeen_56 : decode cX6_isSeen 56 = .ok (.aload_n 0, 1) := by decide +kernel
theorem dX6_isSeen_57 : decode cX6_isSeen 57 = .ok (.getfield 55, 3) := by decide +kernel
theorem dX6_isSeen_60 : decode cX6_isSeen 60 = .ok (.aload_n 0, 1) := by decide +kernel
theorem dX6_isSeen_61 : decode cX6_isSeen 61 = .ok (.getfield 76, 3) := by decide +kernel
theorem dX6_isSeen_64 : decode cX6_isSeen 64 = .ok (.iload_n 3, 1) := by decide +kernel
theorem dX6_isSeen_65 : decode cX6_isSeen 65 = .ok (.iaload, 1) := by decide +kernel
theorem dX6_isSeen_66 : decode cX6_isSeen 66 = .ok (.iaload, 1) := by decide +kernel
theorem dX6_isSeen_67 : decode cX6_isSeen 67 = .ok (.aload_n 0, 1) := by decide +kernel
theorem dX6_isSeen_68 : decode cX6_isSeen 68 = .ok (.getfield 79, 3) := by decide +kernel
theorem dX6_isSeen_71 : decode cX6_isSeen 71 = .ok (.iload_n 3, 1) := by decide +kernel
theorem dX6_isSeen_72 : decode cX6_isSeen 72 = .ok (.iaload, 1) := by decide +kernel
theorem dX6_isSeen_73 : decode cX6_isSeen 73 = .ok (.if_icmp .ne 7, 3) := by decide +kernel
theorem dX6_isSeen_76 : decode cX6_isSeen 76 = .ok (.iconst 1, 1) := by decide +kernel
theorem dX6_isSeen_77 : decode cX6_isSeen 77 = .ok (.goto 4, 3) := by decide +kernel
theorem dX6_isSeen_80 : decode cX6_isSeen 80 = .ok (.iconst 0, 1) := by decide +kernel
theorem dX6_isSeen_81 : decode cX6_isSeen 81 = .ok (.istore_n 1, 1) := by decide +kernel
theorem dX6_isSeen_82 : decode cX6_isSeen 82 = .ok (.iinc 3 1, 3) := by decide +kernel
theorem dX6_isSeen_85 : decode cX6_isSeen 85 = .ok (.goto (-64), 3) := by decide +kernel
theorem dX6_isSeen_88 : decode cX6_isSeen 88 = .ok (.iinc 2 1, 3) := by decide +kernel
theorem dX6_isSeen_91 : decode cX6_isSeen 91 = .ok (.goto (-83), 3) := by decide +kernel
theorem dX6_isSeen_94 : decode cX6_isSeen 94 = .ok (.iload_n 1, 1) := by decide +kernel
theorem dX6_isSeen_95 : decode cX6_isSeen 95 = .ok (.ireturn, 1) := by decide +kernel
theorem dX6_neverNow_0 : decode cX6_neverNow 0 = .ok (.aload_n 0, 1) := by decide +kernel
theorem dX6_neverNow_1 : decode cX6_neverNow 1 = .ok (.invokevirtual 152, 3) := by decide +kernel
theorem dX6_neverNow_4 : decode cX6_neverNow 4 = .ok (.iconst 0, 1) := by decide +kernel
theorem dX6_neverNow_5 : decode cX6_neverNow 5 = .ok (.istore_n 1, 1) := by decide +kernel
theorem dX6_neverNow_6 : decode cX6_neverNow 6 = .ok (.iconst 0, 1) := by decide +kernel
theorem dX6_neverNow_7 : decode cX6_neverNow 7 = .ok (.istore_n 2, 1) := by decide +kernel
theorem dX6_neverNow_8 : decode cX6_neverNow 8 = .ok (.iload_n 2, 1) := by decide +kernel
theorem dX6_neverNow_9 : decode cX6_neverNow 9 = .ok (.aload_n 0, 1) := by decide +kernel
theorem dX6_neverNow_10 : decode cX6_neverNow 10 = .ok (.getfield 129, 3) := by decide +kernel
theorem dX6_neverNow_13 : decode cX6_neverNow 13 = .ok (.if_icmp .ge 33, 3) := by decide +kernel
theorem dX6_neverNow_16 : decode cX6_neverNow 16 = .ok (.aload_n 0, 1) := by decide +kernel
theorem dX6_neverNow_17 : decode cX6_neverNow 17 = .ok (.iconst 1, 1) := by decide +kernel
theorem dX6_neverNow_18 : decode cX6_neverNow 18 = .ok (.iload_n 2, 1) := by decide +kernel
theorem dX6_neverNow_19 : decode cX6_neverNow 19 = .ok (.ishl, 1) := by decide +kernel
theorem dX6_neverNow_20 : decode cX6_neverNow 20 = .ok (.putfield 180, 3) := by decide +kernel
theorem dX6_neverNow_23 : decode cX6_neverNow 23 = .ok (.iload_n 1, 1) := by decide +kernel
theorem dX6_neverNow_24 : decode cX6_neverNow 24 = .ok (.aload_n 0, 1) := by decide +kernel
theorem dX6_neverNow_25 : decode cX6_neverNow 25 = .ok (.invokevirtual 261, 3) := by decide +kernel
theorem dX6_neverNow_28 : decode cX6_neverNow 28 = .ok (.ifCond .eq 9, 3) := by decide +kernel
theorem dX6_neverNow_31 : decode cX6_neverNow 31 = .ok (.iconst 1, 1) := by decide +kernel
theorem dX6_neverNow_32 : decode cX6_neverNow 32 = .ok (.iload_n 2, 1) := by decide +kernel
theorem dX6_neverNow_33 : decode cX6_neverNow 33 = .ok (.ishl, 1) := by decide +kernel
theorem dX6_neverNow_34 : decode cX6_neverNow 34 = .ok (.goto 4, 3) := by decide +kernel
theorem dX6_neverNow_37 : decode cX6_neverNow 37 = .ok (.iconst 0, 1) := by decide +kernel
theorem dX6_neverNow_38 : decode cX6_neverNow 38 = .ok (.ior, 1) := by decide +kernel
theorem dX6_neverNow_39 : decode cX6_neverNow 39 = .ok (.istore_n 1, 1) := by decide +kernel
theorem dX6_neverNow_40 : decode cX6_neverNow 40 = .ok (.iinc 2 1, 3) := by decide +kernel
theorem dX6_neverNow_43 : decode cX6_neverNow 43 = .ok (.goto (-35), 3) := by decide +kernel
theorem dX6_neverNow_46 : decode cX6_neverNow 46 = .ok (.iload_n 1, 1) := by decide +kernel
theorem dX6_neverNow_47 : decode cX6_neverNow 47 = .ok (.ireturn, 1) := by decide +kernel
theorem dX6_never_0 : decode cX6_never 0 = .ok (.aload_n 0, 1) := by decide +kernel
theorem dX6_never_1 : decode cX6_never 1 = .ok (.invokevirtual 265, 3) := by decide +kernel
theorem dX6_never_4 : decode cX6_never 4 = .ok (.ireturn, 1) := by decide +kernel
theorem dX6_wasOf_0 : decode cX6_wasOf 0 = .ok (.aload_n 0, 1) := by decide +kernel
theorem dX6_wasOf_1 : decode cX6_wasOf 1 = .ok (.invokevirtual 152, 3) := by decide +kernel
theorem dX6_wasOf_4 : decode cX6_wasOf 4 = .ok (.aload_n 0, 1) := by decide +kernel
theorem dX6_wasOf_5 : decode cX6_wasOf 5 = .ok (.iconst 0, 1) := by decide +kernel
theorem dX6_wasOf_6 : decode cX6_wasOf 6 = .ok (.putfield 180, 3) := by decide +kernel
theorem dX6_wasOf_9 : decode cX6_wasOf 9 = .ok (.aload_n 0, 1) := by decide +kernel
theorem dX6_wasOf_10 : decode cX6_wasOf 10 = .ok (.getfield 16, 3) := by decide +kernel
theorem dX6_wasOf_13 : decode cX6_wasOf 13 = .ok (.iload_n 1, 1) := by decide +kernel
theorem dX6_wasOf_14 : decode cX6_wasOf 14 = .ok (.iaload, 1) := by decide +kernel
theorem dX6_wasOf_15 : decode cX6_wasOf 15 = .ok (.istore_n 3, 1) := by decide +kernel
theorem dX6_wasOf_16 : decode cX6_wasOf 16 = .ok (.aload_n 0, 1) := by decide +kernel
theorem dX6_wasOf_17 : decode cX6_wasOf 17 = .ok (.getfield 19, 3) := by decide +kernel
theorem dX6_wasOf_20 : decode cX6_wasOf 20 = .ok (.iload_n 1, 1) := by decide +kernel
theorem dX6_wasOf_21 : decode cX6_wasOf 21 = .ok (.iaload, 1) := by decide +kernel
theorem dX6_wasOf_22 : decode cX6_wasOf 22 = .ok (.istore 4, 2) := by decide +kernel
theorem dX6_wasOf_24 : decode cX6_wasOf 24 = .ok (.iconst 0, 1) := by decide +kernel
theorem dX6_wasOf_25 : decode cX6_wasOf 25 = .ok (.istore 5, 2) := by decide +kernel
theorem dX6_wasOf_27 : decode cX6_wasOf 27 = .ok (.iconst 0, 1) := by decide +kernel
theorem dX6_wasOf_28 : decode cX6_wasOf 28 = .ok (.istore 6, 2) := by decide +kernel
theorem dX6_wasOf_30 : decode cX6_wasOf 30 = .ok (.iload 6, 2) := by decide +kernel
theorem dX6_wasOf_32 : decode cX6_wasOf 32 = .ok (.iload_n 2, 1) := by decide +kernel
theorem dX6_wasOf_33 : decode cX6_wasOf 33 = .ok (.ifCond .ne 7, 3) := by decide +kernel
theorem dX6_wasOf_36 : decode cX6_wasOf 36 = .ok (.iconst 4, 1) := by decide +kernel
theorem dX6_wasOf_37 : decode cX6_wasOf 37 = .ok (.goto 5, 3) := by decide +kernel
theorem dX6_wasOf_40 : decode cX6_wasOf 40 = .ok (.bipush 10, 2) := by decide +kernel
theorem dX6_wasOf_42 : decode cX6_wasOf 42 = .ok (.if_icmp .ge 63, 3) := by decide +kernel
theorem dX6_wasOf_45 : decode cX6_wasOf 45 = .ok (.aload_n 0, 1) := by decide +kernel
theorem dX6_wasOf_46 : decode cX6_wasOf 46 = .ok (.getfield 16, 3) := by decide +kernel
theorem dX6_wasOf_49 : decode cX6_wasOf 49 = .ok (.iload_n 1, 1) := by decide +kernel
theorem dX6_wasOf_50 : decode cX6_wasOf 50 = .ok (.iload_n 2, 1) := by decide +kernel
theorem dX6_wasOf_51 : decode cX6_wasOf 51 = .ok (.ifCond .ne 8, 3) := by decide +kernel
theorem dX6_wasOf_54 : decode cX6_wasOf 54 = .ok (.iload 6, 2) := by decide +kernel
theorem dX6_wasOf_56 : decode cX6_wasOf 56 = .ok (.goto 4, 3) := by decide +kernel
theorem dX6_wasOf_59 : decode cX6_wasOf 59 = .ok (.iload_n 3, 1) := by decide +kernel
theorem dX6_wasOf_60 : decode cX6_wasOf 60 = .ok (.iastore, 1) := by decide +kernel
theorem dX6_wasOf_61 : decode cX6_wasOf 61 = .ok (.aload_n 0, 1) := by decide +kernel
theorem dX6_wasOf_62 : decode cX6_wasOf 62 = .ok (.getfield 19, 3) := by decide +kernel
theorem dX6_wasOf_65 : decode cX6_wasOf 65 = .ok (.iload_n 1, 1) := by decide +kernel
theorem dX6_wasOf_66 : decode cX6_wasOf 66 = .ok (.iload_n 2, 1) := by decide +kernel
theorem dX6_wasOf_67 : decode cX6_wasOf 67 = .ok (.iconst 1, 1) := by decide +kernel
theorem dX6_wasOf_68 : decode cX6_wasOf 68 = .ok (.if_icmp .ne 8, 3) := by decide +kernel
theorem dX6_wasOf_71 : decode cX6_wasOf 71 = .ok (.iload 6, 2) := by decide +kernel
theorem dX6_wasOf_73 : decode cX6_wasOf 73 = .ok (.goto 5, 3) := by decide +kernel
theorem dX6_wasOf_76 : decode cX6_wasOf 76 = .ok (.iload 4, 2) := by decide +kernel
theorem dX6_wasOf_78 : decode cX6_wasOf 78 = .ok (.iastore, 1) := by decide +kernel
theorem dX6_wasOf_79 : decode cX6_wasOf 79 = .ok (.iload 5, 2) := by decide +kernel
theorem dX6_wasOf_81 : decode cX6_wasOf 81 = .ok (.aload_n 0, 1) := by decide +kernel
theorem dX6_wasOf_82 : decode cX6_wasOf 82 = .ok (.invokevirtual 261, 3) := by decide +kernel
theorem dX6_wasOf_85 : decode cX6_wasOf 85 = .ok (.ifCond .eq 10, 3) := by decide +kernel
theorem dX6_wasOf_88 : decode cX6_wasOf 88 = .ok (.iconst 1, 1) := by decide +kernel
theorem dX6_wasOf_89 : decode cX6_wasOf 89 = .ok (.iload 6, 2) := by decide +kernel
theorem dX6_wasOf_91 : decode cX6_wasOf 91 = .ok (.ishl, 1) := by decide +kernel
theorem dX6_wasOf_92 : decode cX6_wasOf 92 = .ok (.goto 4, 3) := by decide +kernel
theorem dX6_wasOf_95 : decode cX6_wasOf 95 = .ok (.iconst 0, 1) := by decide +kernel
theorem dX6_wasOf_96 : decode cX6_wasOf 96 = .ok (.ior, 1) := by decide +kernel
theorem dX6_wasOf_97 : decode cX6_wasOf 97 = .ok (.istore 5, 2) := by decide +kernel
theorem dX6_wasOf_99 : decode cX6_wasOf 99 = .ok (.iinc 6 1, 3) := by decide +kernel
theorem dX6_wasOf_102 : decode cX6_wasOf 102 = .ok (.goto (-72), 3) := by decide +kernel
theorem dX6_wasOf_105 : decode cX6_wasOf 105 = .ok (.aload_n 0, 1) := by decide +kernel
theorem dX6_wasOf_106 : decode cX6_wasOf 106 = .ok (.getfield 16, 3) := by decide +kernel
theorem dX6_wasOf_109 : decode cX6_wasOf 109 = .ok (.iload_n 1, 1) := by decide +kernel
theorem dX6_wasOf_110 : decode cX6_wasOf 110 = .ok (.iload_n 3, 1) := by decide +kernel
theorem dX6_wasOf_111 : decode cX6_wasOf 111 = .ok (.iastore, 1) := by decide +kernel
theorem dX6_wasOf_112 : decode cX6_wasOf 112 = .ok (.aload_n 0, 1) := by decide +kernel
theorem dX6_wasOf_113 : decode cX6_wasOf 113 = .ok (.getfield 19, 3) := by decide +kernel
theorem dX6_wasOf_116 : decode cX6_wasOf 116 = .ok (.iload_n 1, 1) := by decide +kernel
theorem dX6_wasOf_117 : decode cX6_wasOf 117 = .ok (.iload 4, 2) := by decide +kernel
theorem dX6_wasOf_119 : decode cX6_wasOf 119 = .ok (.iastore, 1) := by decide +kernel
theorem dX6_wasOf_120 : decode cX6_wasOf 120 = .ok (.iload 5, 2) := by decide +kernel
theorem dX6_wasOf_122 : decode cX6_wasOf 122 = .ok (.ireturn, 1) := by decide +kernel
theorem dX6_was_0 : decode cX6_was 0 = .ok (.aload_n 0, 1) := by decide +kernel
theorem dX6_was_1 : decode cX6_was 1 = .ok (.iload_n 1, 1) := by decide +kernel
theorem dX6_was_2 : decode cX6_was 2 = .ok (.invokevirtual 155, 3) := by decide +kernel
theorem dX6_was_5 : decode cX6_was 5 = .ok (.ifCond .eq 21, 3) := by decide +kernel
theorem dX6_was_8 : decode cX6_was 8 = .ok (.iload_n 2, 1) := by decide +kernel
theorem dX6_was_9 : decode cX6_was 9 = .ok (.iconst 0, 1) := by decide +kernel
theorem dX6_was_10 : decode cX6_was 10 = .ok (.iconst 1, 1) := by decide +kernel
theorem dX6_was_11 : decode cX6_was 11 = .ok (.invokestatic 107, 3) := by decide +kernel
theorem dX6_was_14 : decode cX6_was 14 = .ok (.ifCond .eq 12, 3) := by decide +kernel
theorem dX6_was_17 : decode cX6_was 17 = .ok (.aload_n 0, 1) := by decide +kernel
theorem dX6_was_18 : decode cX6_was 18 = .ok (.iload_n 1, 1) := by decide +kernel
theorem dX6_was_19 : decode cX6_was 19 = .ok (.iload_n 2, 1) := by decide +kernel
theorem dX6_was_20 : decode cX6_was 20 = .ok (.invokevirtual 268, 3) := by decide +kernel
theorem dX6_was_23 : decode cX6_was 23 = .ok (.goto 5, 3) := by decide +kernel
theorem dX6_was_26 : decode cX6_was 26 = .ok (.bipush (-2), 2) := by decide +kernel
theorem dX6_was_28 : decode cX6_was 28 = .ok (.ireturn, 1) := by decide +kernel
theorem dX6_askOf_0 : decode cX6_askOf 0 = .ok (.aload_n 0, 1) := by decide +kernel
theorem dX6_askOf_1 : decode cX6_askOf 1 = .ok (.invokevirtual 265, 3) := by decide +kernel
theorem dX6_askOf_4 : decode cX6_askOf 4 = .ok (.istore_n 2, 1) := by decide +kernel
theorem dX6_askOf_5 : decode cX6_askOf 5 = .ok (.iconst 0, 1) := by decide +kernel
theorem dX6_askOf_6 : decode cX6_askOf 6 = .ok (.istore_n 3, 1) := by decide +kernel
theorem dX6_askOf_7 : decode cX6_askOf 7 = .ok (.iload_n 3, 1) := by decide +kernel
theorem dX6_askOf_8 : decode cX6_askOf 8 = .ok (.aload_n 0, 1) := by decide +kernel
theorem dX6_askOf_9 : decode cX6_askOf 9 = .ok (.getfield 129, 3) := by decide +kernel
theorem dX6_askOf_12 : decode cX6_askOf 12 = .ok (.if_icmp .ge 58, 3) := by decide +kernel
theorem dX6_askOf_15 : decode cX6_askOf 15 = .ok (.aload_n 0, 1) := by decide +kernel
theorem dX6_askOf_16 : decode cX6_askOf 16 = .ok (.iconst 1, 1) := by decide +kernel
theorem dX6_askOf_17 : decode cX6_askOf 17 = .ok (.iload_n 3, 1) := by decide +kernel
theorem dX6_askOf_18 : decode cX6_askOf 18 = .ok (.ishl, 1) := by decide +kernel
theorem dX6_askOf_19 : decode cX6_askOf 19 = .ok (.putfield 180, 3) := by decide +kernel
theorem dX6_askOf_22 : decode cX6_askOf 22 = .ok (.aload_n 0, 1) := by decide +kernel
theorem dX6_askOf_23 : decode cX6_askOf 23 = .ok (.iload_n 1, 1) := by decide +kernel
theorem dX6_askOf_24 : decode cX6_askOf 24 = .ok (.invokevirtual 193, 3) := by decide +kernel
theorem dX6_askOf_27 : decode cX6_askOf 27 = .ok (.iconst 0, 1) := by decide +kernel
theorem dX6_askOf_28 : decode cX6_askOf 28 = .ok (.istore 4, 2) := by decide +kernel
theorem dX6_askOf_30 : decode cX6_askOf 30 = .ok (.iload 4, 2) := by decide +kernel
theorem dX6_askOf_32 : decode cX6_askOf 32 = .ok (.aload_n 0, 1) := by decide +kernel
theorem dX6_askOf_33 : decode cX6_askOf 33 = .ok (.getfield 126, 3) := by decide +kernel
theorem dX6_askOf_36 : decode cX6_askOf 36 = .ok (.if_icmp .ge 28, 3) := by decide +kernel
theorem dX6_askOf_39 : decode cX6_askOf 39 = .ok (.aload_n 0, 1) := by decide +kernel
theorem dX6_askOf_40 : decode cX6_askOf 40 = .ok (.getfield 82, 3) := by decide +kernel
theorem dX6_askOf_43 : decode cX6_askOf 43 = .ok (.bipush 8, 2) := by decide +kernel
theorem dX6_askOf_45 : decode cX6_askOf 45 = .ok (.iload_n 3, 1) := by decide +kernel
theorem dX6_askOf_46 : decode cX6_askOf 46 = .ok (.imul, 1) := by decide +kernel
theorem dX6_askOf_47 : decode cX6_askOf 47 = .ok (.iload 4, 2) := by decide +kernel
theorem dX6_askOf_49 : decode cX6_askOf 49 = .ok (.iadd, 1) := by decide +kernel
theorem dX6_askOf_50 : decode cX6_askOf 50 = .ok (.aload_n 0, 1) := by decide +kernel
theorem dX6_askOf_51 : decode cX6_askOf 51 = .ok (.getfield 55, 3) := by decide +kernel
theorem dX6_askOf_54 : decode cX6_askOf 54 = .ok (.iload 4, 2) := by decide +kernel
theorem dX6_askOf_56 : decode cX6_askOf 56 = .ok (.iaload, 1) := by decide +kernel
theorem dX6_askOf_57 : decode cX6_askOf 57 = .ok (.iastore, 1) := by decide +kernel
theorem dX6_askOf_58 : decode cX6_askOf 58 = .ok (.iinc 4 1, 3) := by decide +kernel
theorem dX6_askOf_61 : decode cX6_askOf 61 = .ok (.goto (-31), 3) := by decide +kernel
theorem dX6_askOf_64 : decode cX6_askOf 64 = .ok (.iinc 3 1, 3) := by decide +kernel
theorem dX6_askOf_67 : decode cX6_askOf 67 = .ok (.goto (-60), 3) := by decide +kernel
theorem dX6_askOf_70 : decode cX6_askOf 70 = .ok (.iconst (-1), 1) := by decide +kernel
theorem dX6_askOf_71 : decode cX6_askOf 71 = .ok (.istore_n 3, 1) := by decide +kernel
theorem dX6_askOf_72 : decode cX6_askOf 72 = .ok (.iconst 0, 1) := by decide +kernel
theorem dX6_askOf_73 : decode cX6_askOf 73 = .ok (.istore 4, 2) := by decide +kernel
theorem dX6_askOf_75 : decode cX6_askOf 75 = .ok (.iconst 0, 1) := by decide +kernel
theorem dX6_askOf_76 : decode cX6_askOf 76 = .ok (.istore 5, 2) := by decide +kernel
theorem dX6_askOf_78 : decode cX6_askOf 78 = .ok (.iload 5, 2) := by decide +kernel
theorem dX6_askOf_80 : decode cX6_askOf 80 = .ok (.aload_n 0, 1) := by decide +kernel
theorem dX6_askOf_81 : decode cX6_askOf 81 = .ok (.getfield 126, 3) := by decide +kernel
theorem dX6_askOf_84 : decode cX6_askOf 84 = .ok (.if_icmp .ge 169, 3) := by decide +kernel
theorem dX6_askOf_87 : decode cX6_askOf 87 = .ok (.iconst 0, 1) := by decide +kernel
theorem dX6_askOf_88 : decode cX6_askOf 88 = .ok (.istore 6, 2) := by decide +kernel
theorem dX6_askOf_90 : decode cX6_askOf 90 = .ok (.iconst 0, 1) := by decide +kernel
theorem dX6_askOf_91 : decode cX6_askOf 91 = .ok (.istore 7, 2) := by decide +kernel
theorem dX6_askOf_93 : decode cX6_askOf 93 = .ok (.iload 7, 2) := by decide +kernel
theorem dX6_askOf_95 : decode cX6_askOf 95 = .ok (.aload_n 0, 1) := by decide +kernel
theorem dX6_askOf_96 : decode cX6_askOf 96 = .ok (.getfield 129, 3) := by decide +kernel
theorem dX6_askOf_99 : decode cX6_askOf 99 = .ok (.if_icmp .ge 103, 3) := by decide +kernel
theorem dX6_askOf_102 : decode cX6_askOf 102 = .ok (.iconst 0, 1) := by decide +kernel
theorem dX6_askOf_103 : decode cX6_askOf 103 = .ok (.istore 8, 2) := by decide +kernel
theorem dX6_askOf_105 : decode cX6_askOf 105 = .ok (.iconst 0, 1) := by decide +kernel
theorem dX6_askOf_106 : decode cX6_askOf 106 = .ok (.istore 9, 2) := by decide +kernel
theorem dX6_askOf_108 : decode cX6_askOf 108 = .ok (.iload 9, 2) := by decide +kernel
theorem dX6_askOf_110 : decode cX6_askOf 110 = .ok (.aload_n 0, 1) := by decide +kernel
theorem dX6_askOf_111 : decode cX6_askOf 111 = .ok (.getfield 129, 3) := by decide +kernel
theorem dX6_askOf_114 : decode cX6_askOf 114 = .ok (.if_icmp .ge 66, 3) := by decide +kernel
theorem dX6_askOf_117 : decode cX6_askOf 117 = .ok (.iload 8, 2) := by decide +kernel
theorem dX6_askOf_119 : decode cX6_askOf 119 = .ok (.iload_n 2, 1) := by decide +kernel
theorem dX6_askOf_120 : decode cX6_askOf 120 = .ok (.iload 7, 2) := by decide +kernel
theorem dX6_askOf_122 : decode cX6_askOf 122 = .ok (.invokestatic 173, 3) := by decide +kernel
theorem dX6_askOf_125 : decode cX6_askOf 125 = .ok (.ifCond .eq 45, 3) := by decide +kernel
theorem dX6_askOf_128 : decode cX6_askOf 128 = .ok (.iload_n 2, 1) := by decide +kernel
theorem dX6_askOf_129 : decode cX6_askOf 129 = .ok (.iload 9, 2) := by decide +kernel
theorem dX6_askOf_131 : decode cX6_askOf 131 = .ok (.invokestatic 173, 3) := by decide +kernel
theorem dX6_askOf_134 : decode cX6_askOf 134 = .ok (.ifCond .eq 36, 3) := by decide +kernel
theorem dX6_askOf_137 : decode cX6_askOf 137 = .ok (.aload_n 0, 1) := by decide +kernel
theorem dX6_askOf_138 : decode cX6_askOf 138 = .ok (.getfield 82, 3) := by decide +kernel
theorem dX6_askOf_141 : decode cX6_askOf 141 = .ok (.bipush 8, 2) := by decide +kernel
theorem dX6_askOf_143 : decode cX6_askOf 143 = .ok (.iload 7, 2) := by decide +kernel
theorem dX6_askOf_145 : decode cX6_askOf 145 = .ok (.imul, 1) := by decide +kernel
theorem dX6_askOf_146 : decode cX6_askOf 146 = .ok (.iload 5, 2) := by decide +kernel
theorem dX6_askOf_148 : decode cX6_askOf 148 = .ok (.iadd, 1) := by decide +kernel
theorem dX6_askOf_149 : decode cX6_askOf 149 = .ok (.iaload, 1) := by decide +kernel
theorem dX6_askOf_150 : decode cX6_askOf 150 = .ok (.aload_n 0, 1) := by decide +kernel
theorem dX6_askOf_151 : decode cX6_askOf 151 = .ok (.getfield 82, 3) := by decide +kernel
theorem dX6_askOf_154 : decode cX6_askOf 154 = .ok (.bipush 8, 2) := by decide +kernel
theorem dX6_askOf_156 : decode cX6_askOf 156 = .ok (.iload 9, 2) := by decide +kernel
theorem dX6_askOf_158 : decode cX6_askOf 158 = .ok (.imul, 1) := by decide +kernel
theorem dX6_askOf_159 : decode cX6_askOf 159 = .ok (.iload 5, 2) := by decide +kernel
theorem dX6_askOf_161 : decode cX6_askOf 161 = .ok (.iadd, 1) := by decide +kernel
theorem dX6_askOf_162 : decode cX6_askOf 162 = .ok (.iaload, 1) := by decide +kernel
theorem dX6_askOf_163 : decode cX6_askOf 163 = .ok (.if_icmp .ne 7, 3) := by decide +kernel
theorem dX6_askOf_166 : decode cX6_askOf 166 = .ok (.iconst 1, 1) := by decide +kernel
theorem dX6_askOf_167 : decode cX6_askOf 167 = .ok (.goto 4, 3) := by decide +kernel
theorem dX6_askOf_170 : decode cX6_askOf 170 = .ok (.iconst 0, 1) := by decide +kernel
theorem dX6_askOf_171 : decode cX6_askOf 171 = .ok (.iadd, 1) := by decide +kernel
theorem dX6_askOf_172 : decode cX6_askOf 172 = .ok (.istore 8, 2) := by decide +kernel
theorem dX6_askOf_174 : decode cX6_askOf 174 = .ok (.iinc 9 1, 3) := by decide +kernel
theorem dX6_askOf_177 : decode cX6_askOf 177 = .ok (.goto (-69), 3) := by decide +kernel
theorem dX6_askOf_180 : decode cX6_askOf 180 = .ok (.iload 8, 2) := by decide +kernel
theorem dX6_askOf_182 : decode cX6_askOf 182 = .ok (.iload 6, 2) := by decide +kernel
theorem dX6_askOf_184 : decode cX6_askOf 184 = .ok (.if_icmp .le 8, 3) := by decide +kernel
theorem dX6_askOf_187 : decode cX6_askOf 187 = .ok (.iload 8, 2) := by decide +kernel
theorem dX6_askOf_189 : decode cX6_askOf 189 = .ok (.goto 5, 3) := by decide +kernel
theorem dX6_askOf_192 : decode cX6_askOf 192 = .ok (.iload 6, 2) := by decide +kernel
theorem dX6_askOf_194 : decode cX6_askOf 194 = .ok (.istore 6, 2) := by decide +kernel
theorem dX6_askOf_196 : decode cX6_askOf 196 = .ok (.iinc 7 1, 3) := by decide +kernel
theorem dX6_askOf_199 : decode cX6_askOf 199 = .ok (.goto (-106), 3) := by decide +kernel
theorem dX6_askOf_202 : decode cX6_askOf 202 = .ok (.iload_n 3, 1) := by decide +kernel
theorem dX6_askOf_203 : decode cX6_askOf 203 = .ok (.iconst (-1), 1) := by decide +kernel
theorem dX6_askOf_204 : decode cX6_askOf 204 = .ok (.if_icmp .eq 10, 3) := by decide +kernel
theorem dX6_askOf_207 : decode cX6_askOf 207 = .ok (.iload 6, 2) := by decide +kernel
theorem dX6_askOf_209 : decode cX6_askOf 209 = .ok (.iload 4, 2) := by decide +kernel
theorem dX6_askOf_211 : decode cX6_askOf 211 = .ok (.if_icmp .ge 7, 3) := by decide +kernel
theorem dX6_askOf_214 : decode cX6_askOf 214 = .ok (.iconst 1, 1) := by decide +kernel
theorem dX6_askOf_215 : decode cX6_askOf 215 = .ok (.goto 4, 3) := by decide +kernel
theorem dX6_askOf_218 : decode cX6_askOf 218 = .ok (.iconst 0, 1) := by decide +kernel
theorem dX6_askOf_219 : decode cX6_askOf 219 = .ok (.istore 7, 2) := by decide +kernel
theorem dX6_askOf_221 : decode cX6_askOf 221 = .ok (.iload 7, 2) := by decide +kernel
theorem dX6_askOf_223 : decode cX6_askOf 223 = .ok (.ifCond .eq 8, 3) := by decide +kernel
theorem dX6_askOf_226 : decode cX6_askOf 226 = .ok (.iload 5, 2) := by decide +kernel
theorem dX6_askOf_228 : decode cX6_askOf 228 = .ok (.goto 4, 3) := by decide +kernel
theorem dX6_askOf_231 : decode cX6_askOf 231 = .ok (.iload_n 3, 1) := by decide +kernel
theorem dX6_askOf_232 : decode cX6_askOf 232 = .ok (.istore_n 3, 1) := by decide +kernel
theorem dX6_askOf_233 : decode cX6_askOf 233 = .ok (.iload 7, 2) := by decide +kernel
theorem dX6_askOf_235 : decode cX6_askOf 235 = .ok (.ifCond .eq 8, 3) := by decide +kernel
theorem dX6_askOf_238 : decode cX6_askOf 238 = .ok (.iload 6, 2) := by decide +kernel
theorem dX6_askOf_240 : decode cX6_askOf 240 = .ok (.goto 5, 3) := by decide +kernel
theorem dX6_askOf_243 : decode cX6_askOf 243 = .ok (.iload 4, 2) := by decide +kernel
theorem dX6_askOf_245 : decode cX6_askOf 245 = .ok (.istore 4, 2) := by decide +kernel
theorem dX6_askOf_247 : decode cX6_askOf 247 = .ok (.iinc 5 1, 3) := by decide +kernel
theorem dX6_askOf_250 : decode cX6_askOf 250 = .ok (.goto (-172), 3) := by decide +kernel
theorem dX6_askOf_253 : decode cX6_askOf 253 = .ok (.iload_n 3, 1) := by decide +kernel
theorem dX6_askOf_254 : decode cX6_askOf 254 = .ok (.ireturn, 1) := by decide +kernel
theorem dX6_ask_0 : decode cX6_ask 0 = .ok (.iload_n 1, 1) := by decide +kernel
theorem dX6_ask_1 : decode cX6_ask 1 = .ok (.invokestatic 199, 3) := by decide +kernel
theorem dX6_ask_4 : decode cX6_ask 4 = .ok (.ifCond .eq 11, 3) := by decide +kernel
theorem dX6_ask_7 : decode cX6_ask 7 = .ok (.aload_n 0, 1) := by decide +kernel
theorem dX6_ask_8 : decode cX6_ask 8 = .ok (.iload_n 1, 1) := by decide +kernel
theorem dX6_ask_9 : decode cX6_ask 9 = .ok (.invokevirtual 271, 3) := by decide +kernel
theorem dX6_ask_12 : decode cX6_ask 12 = .ok (.goto 5, 3) := by decide +kernel
theorem dX6_ask_15 : decode cX6_ask 15 = .ok (.bipush (-2), 2) := by decide +kernel
theorem dX6_ask_17 : decode cX6_ask 17 = .ok (.ireturn, 1) := by decide +kernel
theorem dX6_stormOf_0 : decode cX6_stormOf 0 = .ok (.aload_n 0, 1) := by decide +kernel
theorem dX6_stormOf_1 : decode cX6_stormOf 1 = .ok (.invokevirtual 152, 3) := by decide +kernel
theorem dX6_stormOf_4 : decode cX6_stormOf 4 = .ok (.lconst 0, 1) := by decide +kernel
theorem dX6_stormOf_5 : decode cX6_stormOf 5 = .ok (.lstore 5, 2) := by decide +kernel
theorem dX6_stormOf_7 : decode cX6_stormOf 7 = .ok (.iconst 0, 1) := by decide +kernel
theorem dX6_stormOf_8 : decode cX6_stormOf 8 = .ok (.istore 7, 2) := by decide +kernel
theorem dX6_stormOf_10 : decode cX6_stormOf 10 = .ok (.iload 7, 2) := by decide +kernel
theorem dX6_stormOf_12 : decode cX6_stormOf 12 = .ok (.iconst 1, 1) := by decide +kernel
theorem dX6_stormOf_13 : decode cX6_stormOf 13 = .ok (.aload_n 0, 1) := by decide +kernel
theorem dX6_stormOf_14 : decode cX6_stormOf 14 = .ok (.getfield 129, 3) := by decide +kernel
theorem dX6_stormOf_17 : decode cX6_stormOf 17 = .ok (.ishl, 1) := by decide +kernel
theorem dX6_stormOf_18 : decode cX6_stormOf 18 = .ok (.if_icmp .ge 87, 3) := by decide +kernel
theorem dX6_stormOf_21 : decode cX6_stormOf 21 = .ok (.lconst 1, 1) := by decide +kernel
theorem dX6_stormOf_22 : decode cX6_stormOf 22 = .ok (.lstore 8, 2) := by decide +kernel
theorem dX6_stormOf_24 : decode cX6_stormOf 24 = .ok (.iconst 0, 1) := by decide +kernel
theorem dX6_stormOf_25 : decode cX6_stormOf 25 = .ok (.istore 10, 2) := by decide +kernel
theorem dX6_stormOf_27 : decode cX6_stormOf 27 = .ok (.iload 10, 2) := by decide +kernel
theorem dX6_stormOf_29 : decode cX6_stormOf 29 = .ok (.aload_n 0, 1) := by decide +kernel
theorem dX6_stormOf_30 : decode cX6_stormOf 30 = .ok (.getfield 129, 3) := by decide +kernel
theorem dX6_stormOf_33 : decode cX6_stormOf 33 = .ok (.if_icmp .ge 34, 3) := by decide +kernel
theorem dX6_stormOf_36 : decode cX6_stormOf 36 = .ok (.lload 8, 2) := by decide +kernel
theorem dX6_stormOf_38 : decode cX6_stormOf 38 = .ok (.iload 7, 2) := by decide +kernel
theorem dX6_stormOf_40 : decode cX6_stormOf 40 = .ok (.iload 10, 2) := by decide +kernel
theorem dX6_stormOf_42 : decode cX6_stormOf 42 = .ok (.invokestatic 173, 3) := by decide +kernel
theorem dX6_stormOf_45 : decode cX6_stormOf 45 = .ok (.ifCond .eq 11, 3) := by decide +kernel
theorem dX6_stormOf_48 : decode cX6_stormOf 48 = .ok (.bipush 16, 2) := by decide +kernel
theorem dX6_stormOf_50 : decode cX6_stormOf 50 = .ok (.iload_n 1, 1) := by decide +kernel
theorem dX6_stormOf_51 : decode cX6_stormOf 51 = .ok (.isub, 1) := by decide +kernel
theorem dX6_stormOf_52 : decode cX6_stormOf 52 = .ok (.i2l, 1) := by decide +kernel
theorem dX6_stormOf_53 : decode cX6_stormOf 53 = .ok (.goto 5, 3) := by decide +kernel
theorem dX6_stormOf_56 : decode cX6_stormOf 56 = .ok (.iload_n 1, 1) := by decide +kernel
theorem dX6_stormOf_57 : decode cX6_stormOf 57 = .ok (.i2l, 1) := by decide +kernel
theorem dX6_stormOf_58 : decode cX6_stormOf 58 = .ok (.lmul, 1) := by decide +kernel
theorem dX6_stormOf_59 : decode cX6_stormOf 59 = .ok (.lstore 8, 2) := by decide +kernel
theorem dX6_stormOf_61 : decode cX6_stormOf 61 = .ok (.iinc 10 1, 3) := by decide +kernel
theorem dX6_stormOf_64 : decode cX6_stormOf 64 = .ok (.goto (-37), 3) := by decide +kernel
theorem dX6_stormOf_67 : decode cX6_stormOf 67 = .ok (.aload_n 0, 1) := by decide +kernel
theorem dX6_stormOf_68 : decode cX6_stormOf 68 = .ok (.iload 7, 2) := by decide +kernel
theorem dX6_stormOf_70 : decode cX6_stormOf 70 = .ok (.putfield 180, 3) := by decide +kernel
theorem dX6_stormOf_73 : decode cX6_stormOf 73 = .ok (.aload_n 0, 1) := by decide +kernel
theorem dX6_stormOf_74 : decode cX6_stormOf 74 = .ok (.iload_n 3, 1) := by decide +kernel
theorem dX6_stormOf_75 : decode cX6_stormOf 75 = .ok (.invokevirtual 193, 3) := by decide +kernel
theorem dX6_stormOf_78 : decode cX6_stormOf 78 = .ok (.lload 5, 2) := by decide +kernel
theorem dX6_stormOf_80 : decode cX6_stormOf 80 = .ok (.aload_n 0, 1) := by decide +kernel
theorem dX6_stormOf_81 : decode cX6_stormOf 81 = .ok (.getfield 67, 3) := by decide +kernel
theorem dX6_stormOf_84 : decode cX6_stormOf 84 = .ok (.iload_n 2, 1) := by decide +kernel
theorem dX6_stormOf_85 : decode cX6_stormOf 85 = .ok (.iaload, 1) := by decide +kernel
theorem dX6_stormOf_86 : decode cX6_stormOf 86 = .ok (.iconst (-1), 1) := by decide +kernel
theorem dX6_stormOf_87 : decode cX6_stormOf 87 = .ok (.if_icmp .eq 8, 3) := by decide +kernel
theorem dX6_stormOf_90 : decode cX6_stormOf 90 = .ok (.lload 8, 2) := by decide +kernel
theorem dX6_stormOf_92 : decode cX6_stormOf 92 = .ok (.goto 4, 3) := by decide +kernel
theorem dX6_stormOf_95 : decode cX6_stormOf 95 = .ok (.lconst 0, 1) := by decide +kernel
theorem dX6_stormOf_96 : decode cX6_stormOf 96 = .ok (.ladd, 1) := by decide +kernel
theorem dX6_stormOf_97 : decode cX6_stormOf 97 = .ok (.lstore 5, 2) := by decide +kernel
theorem dX6_stormOf_99 : decode cX6_stormOf 99 = .ok (.iinc 7 1, 3) := by decide +kernel
theorem dX6_stormOf_102 : decode cX6_stormOf 102 = .ok (.goto (-92), 3) := by decide +kernel
theorem dX6_stormOf_105 : decode cX6_stormOf 105 = .ok (.lload 5, 2) := by decide +kernel
theorem dX6_stormOf_107 : decode cX6_stormOf 107 = .ok (.lconst 1, 1) := by decide +kernel
theorem dX6_stormOf_108 : decode cX6_stormOf 108 = .ok (.iconst 4, 1) := by decide +kernel
theorem dX6_stormOf_109 : decode cX6_stormOf 109 = .ok (.aload_n 0, 1) := by decide +kernel
theorem dX6_stormOf_110 : decode cX6_stormOf 110 = .ok (.getfield 129, 3) := by decide +kernel
theorem dX6_stormOf_113 : decode cX6_stormOf 113 = .ok (.imul, 1) := by decide +kernel
theorem dX6_stormOf_114 : decode cX6_stormOf 114 = .ok (.lshl, 1) := by decide +kernel
theorem dX6_stormOf_115 : decode cX6_stormOf 115 = .ok (.iload 4, 2) := by decide +kernel
theorem dX6_stormOf_117 : decode cX6_stormOf 117 = .ok (.invokestatic 274, 3) := by decide +kernel
theorem dX6_stormOf_120 : decode cX6_stormOf 120 = .ok (.lreturn, 1) := by decide +kernel
theorem dX6_storm_0 : decode cX6_storm 0 = .ok (.iload_n 1, 1) := by decide +kernel
theorem dX6_storm_1 : decode cX6_storm 1 = .ok (.iconst 0, 1) := by decide +kernel
theorem dX6_storm_2 : decode cX6_storm 2 = .ok (.bipush 16, 2) := by decide +kernel
theorem dX6_storm_4 : decode cX6_storm 4 = .ok (.invokestatic 107, 3) := by decide +kernel
theorem dX6_storm_7 : decode cX6_storm 7 = .ok (.ifCond .eq 40, 3) := by decide +kernel
theorem dX6_storm_10 : decode cX6_storm 10 = .ok (.aload_n 0, 1) := by decide +kernel
theorem dX6_storm_11 : decode cX6_storm 11 = .ok (.iload_n 2, 1) := by decide +kernel
theorem dX6_storm_12 : decode cX6_storm 12 = .ok (.invokevirtual 155, 3) := by decide +kernel
theorem dX6_storm_15 : decode cX6_storm 15 = .ok (.ifCond .eq 32, 3) := by decide +kernel
theorem dX6_storm_18 : decode cX6_storm 18 = .ok (.iload_n 3, 1) := by decide +kernel
theorem dX6_storm_19 : decode cX6_storm 19 = .ok (.invokestatic 199, 3) := by decide +kernel
theorem dX6_storm_22 : decode cX6_storm 22 = .ok (.ifCond .eq 25, 3) := by decide +kernel
theorem dX6_storm_25 : decode cX6_storm 25 = .ok (.iload 4, 2) := by decide +kernel
theorem dX6_storm_27 : decode cX6_storm 27 = .ok (.iconst 0, 1) := by decide +kernel
theorem dX6_storm_28 : decode cX6_storm 28 = .ok (.iconst 1, 1) := by decide +kernel
theorem dX6_storm_29 : decode cX6_storm 29 = .ok (.invokestatic 107, 3) := by decide +kernel
theorem dX6_storm_32 : decode cX6_storm 32 = .ok (.ifCond .eq 15, 3) := by decide +kernel
theorem dX6_storm_35 : decode cX6_storm 35 = .ok (.aload_n 0, 1) := by decide +kernel
theorem dX6_storm_36 : decode cX6_storm 36 = .ok (.iload_n 1, 1) := by decide +kernel
theorem dX6_storm_37 : decode cX6_storm 37 = .ok (.iload_n 2, 1) := by decide +kernel
theorem dX6_storm_38 : decode cX6_storm 38 = .ok (.iload_n 3, 1) := by decide +kernel
theorem dX6_storm_39 : decode cX6_storm 39 = .ok (.iload 4, 2) := by decide +kernel
theorem dX6_storm_41 : decode cX6_storm 41 = .ok (.invokevirtual 278, 3) := by decide +kernel
theorem dX6_storm_44 : decode cX6_storm 44 = .ok (.goto 8, 3) := by decide +kernel
theorem dX6_storm_47 : decode cX6_storm 47 = .ok (.bipush (-2), 2) := by decide +kernel
theorem dX6_storm_49 : decode cX6_storm 49 = .ok (.invokestatic 282, 3) := by decide +kernel
theorem dX6_storm_52 : decode cX6_storm 52 = .ok (.lreturn, 1) := by decide +kernel
theorem dX6_sailNow_0 : decode cX6_sailNow 0 = .ok (.iconst 0, 1) := by decide +kernel
theorem dX6_sailNow_1 : decode cX6_sailNow 1 = .ok (.istore_n 1, 1) := by decide +kernel
theorem dX6_sailNow_2 : decode cX6_sailNow 2 = .ok (.iconst 0, 1) := by decide +kernel
theorem dX6_sailNow_3 : decode cX6_sailNow 3 = .ok (.istore_n 2, 1) := by decide +kernel
theorem dX6_sailNow_4 : decode cX6_sailNow 4 = .ok (.iload_n 2, 1) := by decide +kernel
theorem dX6_sailNow_5 : decode cX6_sailNow 5 = .ok (.aload_n 0, 1) := by decide +kernel
theorem dX6_sailNow_6 : decode cX6_sailNow 6 = .ok (.getfield 123, 3) := by decide +kernel
theorem dX6_sailNow_9 : decode cX6_sailNow 9 = .ok (.if_icmp .ge 27, 3) := by decide +kernel
theorem dX6_sailNow_12 : decode cX6_sailNow 12 = .ok (.iload_n 1, 1) := by decide +kernel
theorem dX6_sailNow_13 : decode cX6_sailNow 13 = .ok (.aload_n 0, 1) := by decide +kernel
theorem dX6_sailNow_14 : decode cX6_sailNow 14 = .ok (.getfield 67, 3) := by decide +kernel
theorem dX6_sailNow_17 : decode cX6_sailNow 17 = .ok (.iload_n 2, 1) := by decide +kernel
theorem dX6_sailNow_18 : decode cX6_sailNow 18 = .ok (.iaload, 1) := by decide +kernel
theorem dX6_sailNow_19 : decode cX6_sailNow 19 = .ok (.iconst (-1), 1) := by decide +kernel
theorem dX6_sailNow_20 : decode cX6_sailNow 20 = .ok (.if_icmp .eq 7, 3) := by decide +kernel
theorem dX6_sailNow_23 : decode cX6_sailNow 23 = .ok (.iconst 1, 1) := by decide +kernel
theorem dX6_sailNow_24 : decode cX6_sailNow 24 = .ok (.goto 4, 3) := by decide +kernel
theorem dX6_sailNow_27 : decode cX6_sailNow 27 = .ok (.iconst 0, 1) := by decide +kernel
theorem dX6_sailNow_28 : decode cX6_sailNow 28 = .ok (.iadd, 1) := by decide +kernel
theorem dX6_sailNow_29 : decode cX6_sailNow 29 = .ok (.istore_n 1, 1) := by decide +kernel
theorem dX6_sailNow_30 : decode cX6_sailNow 30 = .ok (.iinc 2 1, 3) := by decide +kernel
theorem dX6_sailNow_33 : decode cX6_sailNow 33 = .ok (.goto (-29), 3) := by decide +kernel
theorem dX6_sailNow_36 : decode cX6_sailNow 36 = .ok (.iload_n 1, 1) := by decide +kernel
theorem dX6_sailNow_37 : decode cX6_sailNow 37 = .ok (.ireturn, 1) := by decide +kernel
theorem dX6_portOf_0 : decode cX6_portOf 0 = .ok (.aload_n 0, 1) := by decide +kernel
theorem dX6_portOf_1 : decode cX6_portOf 1 = .ok (.invokevirtual 152, 3) := by decide +kernel
theorem dX6_portOf_4 : decode cX6_portOf 4 = .ok (.aload_n 0, 1) := by decide +kernel
theorem dX6_portOf_5 : decode cX6_portOf 5 = .ok (.iconst 0, 1) := by decide +kernel
theorem dX6_portOf_6 : decode cX6_portOf 6 = .ok (.putfield 180, 3) := by decide +kernel
theorem dX6_portOf_9 : decode cX6_portOf 9 = .ok (.iload_n 1, 1) := by decide +kernel
theorem dX6_portOf_10 : decode cX6_portOf 10 = .ok (.istore_n 3, 1) := by decide +kernel
theorem dX6_portOf_11 : decode cX6_portOf 11 = .ok (.iconst 0, 1) := by decide +kernel
theorem dX6_portOf_12 : decode cX6_portOf 12 = .ok (.istore 4, 2) := by decide +kernel
theorem dX6_portOf_14 : decode cX6_portOf 14 = .ok (.iload 4, 2) := by decide +kernel
theorem dX6_portOf_16 : decode cX6_portOf 16 = .ok (.aload_n 0, 1) := by decide +kernel
theorem dX6_portOf_17 : decode cX6_portOf 17 = .ok (.getfield 123, 3) := by decide +kernel
theorem dX6_portOf_20 : decode cX6_portOf 20 = .ok (.if_icmp .ge 42, 3) := by decide +kernel
theorem dX6_portOf_23 : decode cX6_portOf 23 = .ok (.aload_n 0, 1) := by decide +kernel
theorem dX6_portOf_24 : decode cX6_portOf 24 = .ok (.getfield 126, 3) := by decide +kernel
theorem dX6_portOf_27 : decode cX6_portOf 27 = .ok (.ifCond .le 35, 3) := by decide +kernel
theorem dX6_portOf_30 : decode cX6_portOf 30 = .ok (.ldc_w 286, 3) := by decide +kernel
theorem dX6_portOf_33 : decode cX6_portOf 33 = .ok (.iload_n 3, 1) := by decide +kernel
theorem dX6_portOf_34 : decode cX6_portOf 34 = .ok (.imul, 1) := by decide +kernel
theorem dX6_portOf_35 : decode cX6_portOf 35 = .ok (.sipush 12345, 3) := by decide +kernel
theorem dX6_portOf_38 : decode cX6_portOf 38 = .ok (.iadd, 1) := by decide +kernel
theorem dX6_portOf_39 : decode cX6_portOf 39 = .ok (.istore_n 3, 1) := by decide +kernel
theorem dX6_portOf_40 : decode cX6_portOf 40 = .ok (.aload_n 0, 1) := by decide +kernel
theorem dX6_portOf_41 : decode cX6_portOf 41 = .ok (.getfield 25, 3) := by decide +kernel
theorem dX6_portOf_44 : decode cX6_portOf 44 = .ok (.iload 4, 2) := by decide +kernel
theorem dX6_portOf_46 : decode cX6_portOf 46 = .ok (.iload_n 3, 1) := by decide +kernel
theorem dX6_portOf_47 : decode cX6_portOf 47 = .ok (.bipush 16, 2) := by decide +kernel
theorem dX6_portOf_49 : decode cX6_portOf 49 = .ok (.iushr, 1) := by decide +kernel
theorem dX6_portOf_50 : decode cX6_portOf 50 = .ok (.aload_n 0, 1) := by decide +kernel
theorem dX6_portOf_51 : decode cX6_portOf 51 = .ok (.getfield 126, 3) := by decide +kernel
theorem dX6_portOf_54 : decode cX6_portOf 54 = .ok (.irem, 1) := by decide +kernel
theorem dX6_portOf_55 : decode cX6_portOf 55 = .ok (.iastore, 1) := by decide +kernel
theorem dX6_portOf_56 : decode cX6_portOf 56 = .ok (.iinc 4 1, 3) := by decide +kernel
theorem dX6_portOf_59 : decode cX6_portOf 59 = .ok (.goto (-45), 3) := by decide +kernel
theorem dX6_portOf_62 : decode cX6_portOf 62 = .ok (.aload_n 0, 1) := by decide +kernel
theorem dX6_portOf_63 : decode cX6_portOf 63 = .ok (.bipush 29, 2) := by decide +kernel
theorem dX6_portOf_65 : decode cX6_portOf 65 = .ok (.invokevirtual 193, 3) := by decide +kernel
theorem dX6_portOf_68 : decode cX6_portOf 68 = .ok (.iload_n 2, 1) := by decide +kernel
theorem dX6_portOf_69 : decode cX6_portOf 69 = .ok (.iconst (-1), 1) := by decide +kernel
theorem dX6_portOf_70 : decode cX6_portOf 70 = .ok (.if_icmp .ne 10, 3) := by decide +kernel
theorem dX6_portOf_73 : decode cX6_portOf 73 = .ok (.aload_n 0, 1) := by decide +kernel
theorem dX6_portOf_74 : decode cX6_portOf 74 = .ok (.invokevirtual 287, 3) := by decide +kernel
theorem dX6_portOf_77 : decode cX6_portOf 77 = .ok (.goto 9, 3) := by decide +kernel
theorem dX6_portOf_80 : decode cX6_portOf 80 = .ok (.aload_n 0, 1) := by decide +kernel
theorem dX6_portOf_81 : decode cX6_portOf 81 = .ok (.getfield 55, 3) := by decide +kernel
theorem dX6_portOf_84 : decode cX6_portOf 84 = .ok (.iload_n 2, 1) := by decide +kernel
theorem dX6_portOf_85 : decode cX6_portOf 85 = .ok (.iaload, 1) := by decide +kernel
theorem dX6_portOf_86 : decode cX6_portOf 86 = .ok (.ireturn, 1) := by decide +kernel
theorem dX6_port_0 : decode cX6_port 0 = .ok (.iload_n 2, 1) := by decide +kernel
theorem dX6_port_1 : decode cX6_port 1 = .ok (.iconst (-1), 1) := by decide +kernel
theorem dX6_port_2 : decode cX6_port 2 = .ok (.if_icmp .eq 11, 3) := by decide +kernel
theorem dX6_port_5 : decode cX6_port 5 = .ok (.aload_n 0, 1) := by decide +kernel
theorem dX6_port_6 : decode cX6_port 6 = .ok (.iload_n 2, 1) := by decide +kernel
theorem dX6_port_7 : decode cX6_port 7 = .ok (.invokevirtual 161, 3) := by decide +kernel
theorem dX6_port_10 : decode cX6_port 10 = .ok (.ifCond .eq 12, 3) := by decide +kernel
theorem dX6_port_13 : decode cX6_port 13 = .ok (.aload_n 0, 1) := by decide +kernel
theorem dX6_port_14 : decode cX6_port 14 = .ok (.iload_n 1, 1) := by decide +kernel
theorem dX6_port_15 : decode cX6_port 15 = .ok (.iload_n 2, 1) := by decide +kernel
theorem dX6_port_16 : decode cX6_port 16 = .ok (.invokevirtual 290, 3) := by decide +kernel
theorem dX6_port_19 : decode cX6_port 19 = .ok (.goto 5, 3) := by decide +kernel
theorem dX6_port_22 : decode cX6_port 22 = .ok (.bipush (-2), 2) := by decide +kernel
theorem dX6_port_24 : decode cX6_port 24 = .ok (.ireturn, 1) := by decide +kernel
theorem dX6_meets_0 : decode cX6_meets 0 = .ok (.aload_n 0, 1) := by decide +kernel
theorem dX6_meets_1 : decode cX6_meets 1 = .ok (.iload_n 1, 1) := by decide +kernel
theorem dX6_meets_2 : decode cX6_meets 2 = .ok (.putfield 293, 3) := by decide +kernel
theorem dX6_meets_5 : decode cX6_meets 5 = .ok (.bipush (-10), 2) := by decide +kernel
theorem dX6_meets_7 : decode cX6_meets 7 = .ok (.iload_n 1, 1) := by decide +kernel
theorem dX6_meets_8 : decode cX6_meets 8 = .ok (.isub, 1) := by decide +kernel
theorem dX6_meets_9 : decode cX6_meets 9 = .ok (.ireturn, 1) := by decide +kernel
theorem dX6_isSheet_0 : decode cX6_isSheet 0 = .ok (.iload_n 0, 1) := by decide +kernel
theorem dX6_isSheet_1 : decode cX6_isSheet 1 = .ok (.iconst 0, 1) := by decide +kernel
theorem dX6_isSheet_2 : decode cX6_isSheet 2 = .ok (.iconst 3, 1) := by decide +kernel
theorem dX6_isSheet_3 : decode cX6_isSheet 3 = .ok (.invokestatic 107, 3) := by decide +kernel
theorem dX6_isSheet_6 : decode cX6_isSheet 6 = .ok (.ireturn, 1) := by decide +kernel
theorem dX6_sheet_0 : decode cX6_sheet 0 = .ok (.iload_n 1, 1) := by decide +kernel
theorem dX6_sheet_1 : decode cX6_sheet 1 = .ok (.invokestatic 252, 3) := by decide +kernel
theorem dX6_sheet_4 : decode cX6_sheet 4 = .ok (.ifCond .eq 18, 3) := by decide +kernel
theorem dX6_sheet_7 : decode cX6_sheet 7 = .ok (.iload_n 2, 1) := by decide +kernel
theorem dX6_sheet_8 : decode cX6_sheet 8 = .ok (.iconst 0, 1) := by decide +kernel
theorem dX6_sheet_9 : decode cX6_sheet 9 = .ok (.iconst 2, 1) := by decide +kernel
theorem dX6_sheet_10 : decode cX6_sheet 10 = .ok (.invokestatic 107, 3) := by decide +kernel
theorem dX6_sheet_13 : decode cX6_sheet 13 = .ok (.ifCond .eq 9, 3) := by decide +kernel
theorem dX6_sheet_16 : decode cX6_sheet 16 = .ok (.iload_n 3, 1) := by decide +kernel
theorem dX6_sheet_17 : decode cX6_sheet 17 = .ok (.bipush 60, 2) := by decide +kernel
theorem dX6_sheet_19 : decode cX6_sheet 19 = .ok (.if_icmp .le 6, 3) := by decide +kernel
theorem dX6_sheet_22 : decode cX6_sheet 22 = .ok (.bipush (-2), 2) := by decide +kernel
theorem dX6_sheet_24 : decode cX6_sheet 24 = .ok (.ireturn, 1) := by decide +kernel
theorem dX6_sheet_25 : decode cX6_sheet 25 = .ok (.iload_n 3, 1) := by decide +kernel
theorem dX6_sheet_26 : decode cX6_sheet 26 = .ok (.ifCond .ge 9, 3) := by decide +kernel
theorem dX6_sheet_29 : decode cX6_sheet 29 = .ok (.aload_n 0, 1) := by decide +kernel
theorem dX6_sheet_30 : decode cX6_sheet 30 = .ok (.iconst 5, 1) := by decide +kernel
theorem dX6_sheet_31 : decode cX6_sheet 31 = .ok (.invokevirtual 255, 3) := by decide +kernel
theorem dX6_sheet_34 : decode cX6_sheet 34 = .ok (.ireturn, 1) := by decide +kernel
theorem dX6_sheet_35 : decode cX6_sheet 35 = .ok (.aload_n 0, 1) := by decide +kernel
theorem dX6_sheet_36 : decode cX6_sheet 36 = .ok (.getfield 85, 3) := by decide +kernel
theorem dX6_sheet_39 : decode cX6_sheet 39 = .ok (.iload_n 1, 1) := by decide +kernel
theorem dX6_sheet_40 : decode cX6_sheet 40 = .ok (.iconst 1, 1) := by decide +kernel
theorem dX6_sheet_41 : decode cX6_sheet 41 = .ok (.bastore, 1) := by decide +kernel
theorem dX6_sheet_42 : decode cX6_sheet 42 = .ok (.aload_n 0, 1) := by decide +kernel
theorem dX6_sheet_43 : decode cX6_sheet 43 = .ok (.getfield 89, 3) := by decide +kernel
theorem dX6_sheet_46 : decode cX6_sheet 46 = .ok (.iload_n 1, 1) := by decide +kernel
theorem dX6_sheet_47 : decode cX6_sheet 47 = .ok (.iload_n 2, 1) := by decide +kernel
theorem dX6_sheet_48 : decode cX6_sheet 48 = .ok (.iastore, 1) := by decide +kernel
theorem dX6_sheet_49 : decode cX6_sheet 49 = .ok (.aload_n 0, 1) := by decide +kernel
theorem dX6_sheet_50 : decode cX6_sheet 50 = .ok (.getfield 92, 3) := by decide +kernel
theorem dX6_sheet_53 : decode cX6_sheet 53 = .ok (.iload_n 1, 1) := by decide +kernel
theorem dX6_sheet_54 : decode cX6_sheet 54 = .ok (.iload_n 3, 1) := by decide +kernel
theorem dX6_sheet_55 : decode cX6_sheet 55 = .ok (.iastore, 1) := by decide +kernel
theorem dX6_sheet_56 : decode cX6_sheet 56 = .ok (.iconst 0, 1) := by decide +kernel
theorem dX6_sheet_57 : decode cX6_sheet 57 = .ok (.istore 4, 2) := by decide +kernel
theorem dX6_sheet_59 : decode cX6_sheet 59 = .ok (.iload 4, 2) := by decide +kernel
theorem dX6_sheet_61 : decode cX6_sheet 61 = .ok (.bipush 60, 2) := by decide +kernel
theorem dX6_sheet_63 : decode cX6_sheet 63 = .ok (.if_icmp .ge 22, 3) := by decide +kernel
theorem dX6_sheet_66 : decode cX6_sheet 66 = .ok (.aload_n 0, 1) := by decide +kernel
theorem dX6_sheet_67 : decode cX6_sheet 67 = .ok (.getfield 95, 3) := by decide +kernel
theorem dX6_sheet_70 : decode cX6_sheet 70 = .ok (.bipush 60, 2) := by decide +kernel
theorem dX6_sheet_72 : decode cX6_sheet 72 = .ok (.iload_n 1, 1) := by decide +kernel
theorem dX6_sheet_73 : decode cX6_sheet 73 = .ok (.imul, 1) := by decide +kernel
theorem dX6_sheet_74 : decode cX6_sheet 74 = .ok (.iload 4, 2) := by decide +kernel
theorem dX6_sheet_76 : decode cX6_sheet 76 = .ok (.iadd, 1) := by decide +kernel
theorem dX6_sheet_77 : decode cX6_sheet 77 = .ok (.iconst 0, 1) := by decide +kernel
theorem dX6_sheet_78 : decode cX6_sheet 78 = .ok (.iastore, 1) := by decide +kernel
theorem dX6_sheet_79 : decode cX6_sheet 79 = .ok (.iinc 4 1, 3) := by decide +kernel
theorem dX6_sheet_82 : decode cX6_sheet 82 = .ok (.goto (-23), 3) := by decide +kernel
theorem dX6_sheet_85 : decode cX6_sheet 85 = .ok (.iload_n 3, 1) := by decide +kernel
theorem dX6_sheet_86 : decode cX6_sheet 86 = .ok (.ireturn, 1) := by decide +kernel
theorem dX6_lose_0 : decode cX6_lose 0 = .ok (.iload_n 1, 1) := by decide +kernel
theorem dX6_lose_1 : decode cX6_lose 1 = .ok (.invokestatic 252, 3) := by decide +kernel
theorem dX6_lose_4 : decode cX6_lose 4 = .ok (.ifCond .ne 6, 3) := by decide +kernel
theorem dX6_lose_7 : decode cX6_lose 7 = .ok (.bipush (-2), 2) := by decide +kernel
theorem dX6_lose_9 : decode cX6_lose 9 = .ok (.ireturn, 1) := by decide +kernel
theorem dX6_lose_10 : decode cX6_lose 10 = .ok (.aload_n 0, 1) := by decide +kernel
theorem dX6_lose_11 : decode cX6_lose 11 = .ok (.getfield 85, 3) := by decide +kernel
theorem dX6_lose_14 : decode cX6_lose 14 = .ok (.iload_n 1, 1) := by decide +kernel
theorem dX6_lose_15 : decode cX6_lose 15 = .ok (.baload, 1) := by decide +kernel
theorem dX6_lose_16 : decode cX6_lose 16 = .ok (.ifCond .ne 9, 3) := by decide +kernel
theorem dX6_lose_19 : decode cX6_lose 19 = .ok (.aload_n 0, 1) := by decide +kernel
theorem dX6_lose_20 : decode cX6_lose 20 = .ok (.iconst 1, 1) := by decide +kernel
theorem dX6_lose_21 : decode cX6_lose 21 = .ok (.invokevirtual 255, 3) := by decide +kernel
theorem dX6_lose_24 : decode cX6_lose 24 = .ok (.ireturn, 1) := by decide +kernel
theorem dX6_lose_25 : decode cX6_lose 25 = .ok (.aload_n 0, 1) := by decide +kernel
theorem dX6_lose_26 : decode cX6_lose 26 = .ok (.getfield 85, 3) := by decide +kernel
theorem dX6_lose_29 : decode cX6_lose 29 = .ok (.iload_n 1, 1) := by decide +kernel
theorem dX6_lose_30 : decode cX6_lose 30 = .ok (.iconst 0, 1) := by decide +kernel
theorem dX6_lose_31 : decode cX6_lose 31 = .ok (.bastore, 1) := by decide +kernel
theorem dX6_lose_32 : decode cX6_lose 32 = .ok (.aload_n 0, 1) := by decide +kernel
theorem dX6_lose_33 : decode cX6_lose 33 = .ok (.getfield 92, 3) := by decide +kernel
theorem dX6_lose_36 : decode cX6_lose 36 = .ok (.iload_n 1, 1) := by decide +kernel
theorem dX6_lose_37 : decode cX6_lose 37 = .ok (.iaload, 1) := by decide +kernel
theorem dX6_lose_38 : decode cX6_lose 38 = .ok (.ireturn, 1) := by decide +kernel
theorem dX6_lacks_0 : decode cX6_lacks 0 = .ok (.aload_n 0, 1) := by decide +kernel
theorem dX6_lacks_1 : decode cX6_lacks 1 = .ok (.getfield 85, 3) := by decide +kernel
theorem dX6_lacks_4 : decode cX6_lacks 4 = .ok (.iload_n 1, 1) := by decide +kernel
theorem dX6_lacks_5 : decode cX6_lacks 5 = .ok (.baload, 1) := by decide +kernel
theorem dX6_lacks_6 : decode cX6_lacks 6 = .ok (.ifCond .ne 7, 3) := by decide +kernel
theorem dX6_lacks_9 : decode cX6_lacks 9 = .ok (.iconst 1, 1) := by decide +kernel
theorem dX6_lacks_10 : decode cX6_lacks 10 = .ok (.goto 38, 3) := by decide +kernel
theorem dX6_lacks_13 : decode cX6_lacks 13 = .ok (.aload_n 0, 1) := by decide +kernel
theorem dX6_lacks_14 : decode cX6_lacks 14 = .ok (.getfield 89, 3) := by decide +kernel
theorem dX6_lacks_17 : decode cX6_lacks 17 = .ok (.iload_n 1, 1) := by decide +kernel
theorem dX6_lacks_18 : decode cX6_lacks 18 = .ok (.iaload, 1) := by decide +kernel
theorem dX6_lacks_19 : decode cX6_lacks 19 = .ok (.iload_n 2, 1) := by decide +kernel
theorem dX6_lacks_20 : decode cX6_lacks 20 = .ok (.if_icmp .eq 7, 3) := by decide +kernel
theorem dX6_lacks_23 : decode cX6_lacks 23 = .ok (.iconst 3, 1) := by decide +kernel
theorem dX6_lacks_24 : decode cX6_lacks 24 = .ok (.goto 24, 3) := by decide +kernel
theorem dX6_lacks_27 : decode cX6_lacks 27 = .ok (.iload_n 3, 1) := by decide +kernel
theorem dX6_lacks_28 : decode cX6_lacks 28 = .ok (.iconst 0, 1) := by decide +kernel
theorem dX6_lacks_29 : decode cX6_lacks 29 = .ok (.aload_n 0, 1) := by decide +kernel
theorem dX6_lacks_30 : decode cX6_lacks 30 = .ok (.getfield 92, 3) := by decide +kernel
theorem dX6_lacks_33 : decode cX6_lacks 33 = .ok (.iload_n 1, 1) := by decide +kernel
theorem dX6_lacks_34 : decode cX6_lacks 34 = .ok (.iaload, 1) := by decide +kernel
theorem dX6_lacks_35 : decode cX6_lacks 35 = .ok (.iconst 1, 1) := by decide +kernel
theorem dX6_lacks_36 : decode cX6_lacks 36 = .ok (.isub, 1) := by decide +kernel
theorem dX6_lacks_37 : decode cX6_lacks 37 = .ok (.invokestatic 107, 3) := by decide +kernel
theorem dX6_lacks_40 : decode cX6_lacks 40 = .ok (.ifCond .eq 7, 3) := by decide +kernel
theorem dX6_lacks_43 : decode cX6_lacks 43 = .ok (.iconst 0, 1) := by decide +kernel
theorem dX6_lacks_44 : decode cX6_lacks 44 = .ok (.goto 4, 3) := by decide +kernel
theorem dX6_lacks_47 : decode cX6_lacks 47 = .ok (.iconst 2, 1) := by decide +kernel
theorem dX6_lacks_48 : decode cX6_lacks 48 = .ok (.ireturn, 1) := by decide +kernel
theorem dX6_keep_0 : decode cX6_keep 0 = .ok (.aload_n 0, 1) := by decide +kernel
theorem dX6_keep_1 : decode cX6_keep 1 = .ok (.getfield 95, 3) := by decide +kernel
theorem dX6_keep_4 : decode cX6_keep 4 = .ok (.bipush 60, 2) := by decide +kernel
theorem dX6_keep_6 : decode cX6_keep 6 = .ok (.iload_n 1, 1) := by decide +kernel
theorem dX6_keep_7 : decode cX6_keep 7 = .ok (.imul, 1) := by decide +kernel
theorem dX6_keep_8 : decode cX6_keep 8 = .ok (.iload_n 2, 1) := by decide +kernel
theorem dX6_keep_9 : decode cX6_keep 9 = .ok (.iadd, 1) := by decide +kernel
theorem dX6_keep_10 : decode cX6_keep 10 = .ok (.aload_n 0, 1) := by decide +kernel
theorem dX6_keep_11 : decode cX6_keep 11 = .ok (.getfield 89, 3) := by decide +kernel
theorem dX6_keep_14 : decode cX6_keep 14 = .ok (.iload_n 1, 1) := by decide +kernel
theorem dX6_keep_15 : decode cX6_keep 15 = .ok (.iaload, 1) := by decide +kernel
theorem dX6_keep_16 : decode cX6_keep 16 = .ok (.ifCond .ne 8, 3) := by decide +kernel
theorem dX6_keep_19 : decode cX6_keep 19 = .ok (.iload_n 3, 1) := by decide +kernel
theorem dX6_keep_20 : decode cX6_keep 20 = .ok (.i2b, 1) := by decide +kernel
theorem dX6_keep_21 : decode cX6_keep 21 = .ok (.goto 19, 3) := by decide +kernel
theorem dX6_keep_24 : decode cX6_keep 24 = .ok (.aload_n 0, 1) := by decide +kernel
theorem dX6_keep_25 : decode cX6_keep 25 = .ok (.getfield 89, 3) := by decide +kernel
theorem dX6_keep_28 : decode cX6_keep 28 = .ok (.iload_n 1, 1) := by decide +kernel
theorem dX6_keep_29 : decode cX6_keep 29 = .ok (.iaload, 1) := by decide +kernel
theorem dX6_keep_30 : decode cX6_keep 30 = .ok (.iconst 1, 1) := by decide +kernel
theorem dX6_keep_31 : decode cX6_keep 31 = .ok (.if_icmp .ne 8, 3) := by decide +kernel
theorem dX6_keep_34 : decode cX6_keep 34 = .ok (.iload_n 3, 1) := by decide +kernel
theorem dX6_keep_35 : decode cX6_keep 35 = .ok (.i2s, 1) := by decide +kernel
theorem dX6_keep_36 : decode cX6_keep 36 = .ok (.goto 4, 3) := by decide +kernel
theorem dX6_keep_39 : decode cX6_keep 39 = .ok (.iload_n 3, 1) := by decide +kernel
theorem dX6_keep_40 : decode cX6_keep 40 = .ok (.iastore, 1) := by decide +kernel
theorem dX6_keep_41 : decode cX6_keep 41 = .ok (.return_, 1) := by decide +kernel
theorem dX6_put_0 : decode cX6_put 0 = .ok (.iload_n 1, 1) := by decide +kernel
theorem dX6_put_1 : decode cX6_put 1 = .ok (.invokestatic 252, 3) := by decide +kernel
theorem dX6_put_4 : decode cX6_put 4 = .ok (.ifCond .eq 12, 3) := by decide +kernel
theorem dX6_put_7 : decode cX6_put 7 = .ok (.iload_n 2, 1) := by decide +kernel
theorem dX6_put_8 : decode cX6_put 8 = .ok (.iconst 0, 1) := by decide +kernel
theorem dX6_put_9 : decode cX6_put 9 = .ok (.iconst 2, 1) := by decide +kernel
theorem dX6_put_10 : decode cX6_put 10 = .ok (.invokestatic 107, 3) := by decide +kernel
theorem dX6_put_13 : decode cX6_put 13 = .ok (.ifCond .ne 6, 3) := by decide +kernel
theorem dX6_put_16 : decode cX6_put 16 = .ok (.bipush (-2), 2) := by decide +kernel
theorem dX6_put_18 : decode cX6_put 18 = .ok (.ireturn, 1) := by decide +kernel
theorem dX6_put_19 : decode cX6_put 19 = .ok (.aload_n 0, 1) := by decide +kernel
theorem dX6_put_20 : decode cX6_put 20 = .ok (.iload_n 1, 1) := by decide +kernel
theorem dX6_put_21 : decode cX6_put 21 = .ok (.iload_n 2, 1) := by decide +kernel
theorem dX6_put_22 : decode cX6_put 22 = .ok (.iload_n 3, 1) := by decide +kernel
theorem dX6_put_23 : decode cX6_put 23 = .ok (.invokevirtual 296, 3) := by decide +kernel
theorem dX6_put_26 : decode cX6_put 26 = .ok (.istore 5, 2) := by decide +kernel
theorem dX6_put_28 : decode cX6_put 28 = .ok (.iload 5, 2) := by decide +kernel
theorem dX6_put_30 : decode cX6_put 30 = .ok (.ifCond .le 10, 3) := by decide +kernel
theorem dX6_put_33 : decode cX6_put 33 = .ok (.aload_n 0, 1) := by decide +kernel
theorem dX6_put_34 : decode cX6_put 34 = .ok (.iload 5, 2) := by decide +kernel
theorem dX6_put_36 : decode cX6_put 36 = .ok (.invokevirtual 255, 3) := by decide +kernel
theorem dX6_put_39 : decode cX6_put 39 = .ok (.ireturn, 1) := by decide +kernel
theorem dX6_put_40 : decode cX6_put 40 = .ok (.aload_n 0, 1) := by decide +kernel
theorem dX6_put_41 : decode cX6_put 41 = .ok (.iload_n 1, 1) := by decide +kernel
theorem dX6_put_42 : decode cX6_put 42 = .ok (.iload_n 3, 1) := by decide +kernel
theorem dX6_put_43 : decode cX6_put 43 = .ok (.iload 4, 2) := by decide +kernel
theorem dX6_put_45 : decode cX6_put 45 = .ok (.invokevirtual 299, 3) := by decide +kernel
theorem dX6_put_48 : decode cX6_put 48 = .ok (.iconst 1, 1) := by decide +kernel
theorem dX6_put_49 : decode cX6_put 49 = .ok (.ireturn, 1) := by decide +kernel
theorem dX6_get_0 : decode cX6_get 0 = .ok (.iload_n 1, 1) := by decide +kernel
theorem dX6_get_1 : decode cX6_get 1 = .ok (.invokestatic 252, 3) := by decide +kernel
theorem dX6_get_4 : decode cX6_get 4 = .ok (.ifCond .eq 12, 3) := by decide +kernel
theorem dX6_get_7 : decode cX6_get 7 = .ok (.iload_n 2, 1) := by decide +kernel
theorem dX6_get_8 : decode cX6_get 8 = .ok (.iconst 0, 1) := by decide +kernel
theorem dX6_get_9 : decode cX6_get 9 = .ok (.iconst 2, 1) := by decide +kernel
theorem dX6_get_10 : decode cX6_get 10 = .ok (.invokestatic 107, 3) := by decide +kernel
theorem dX6_get_13 : decode cX6_get 13 = .ok (.ifCond .ne 7, 3) := by decide +kernel
theorem dX6_get_16 : decode cX6_get 16 = .ok (.ldc_w 303, 3) := by decide +kernel
theorem dX6_get_19 : decode cX6_get 19 = .ok (.ireturn, 1) := by decide +kernel
theorem dX6_get_20 : decode cX6_get 20 = .ok (.aload_n 0, 1) := by decide +kernel
theorem dX6_get_21 : decode cX6_get 21 = .ok (.iload_n 1, 1) := by decide +kernel
theorem dX6_get_22 : decode cX6_get 22 = .ok (.iload_n 2, 1) := by decide +kernel
theorem dX6_get_23 : decode cX6_get 23 = .ok (.iload_n 3, 1) := by decide +kernel
theorem dX6_get_24 : decode cX6_get 24 = .ok (.invokevirtual 296, 3) := by decide +kernel
theorem dX6_get_27 : decode cX6_get 27 = .ok (.istore 4, 2) := by decide +kernel
theorem dX6_get_29 : decode cX6_get 29 = .ok (.iload 4, 2) := by decide +kernel
theorem dX6_get_31 : decode cX6_get 31 = .ok (.ifCond .le 13, 3) := by decide +kernel
theorem dX6_get_34 : decode cX6_get 34 = .ok (.aload_n 0, 1) := by decide +kernel
theorem dX6_get_35 : decode cX6_get 35 = .ok (.iload 4, 2) := by decide +kernel
theorem dX6_get_37 : decode cX6_get 37 = .ok (.putfield 293, 3) := by decide +kernel
theorem dX6_get_40 : decode cX6_get 40 = .ok (.ldc_w 303, 3) := by decide +kernel
theorem dX6_get_43 : decode cX6_get 43 = .ok (.ireturn, 1) := by decide +kernel
theorem dX6_get_44 : decode cX6_get 44 = .ok (.aload_n 0, 1) := by decide +kernel
theorem dX6_get_45 : decode cX6_get 45 = .ok (.getfield 95, 3) := by decide +kernel
theorem dX6_get_48 : decode cX6_get 48 = .ok (.bipush 60, 2) := by decide +kernel
theorem dX6_get_50 : decode cX6_get 50 = .ok (.iload_n 1, 1) := by decide +kernel
theorem dX6_get_51 : decode cX6_get 51 = .ok (.imul, 1) := by decide +kernel
theorem dX6_get_52 : decode cX6_get 52 = .ok (.iload_n 3, 1) := by decide +kernel
theorem dX6_get_53 : decode cX6_get 53 = .ok (.iadd, 1) := by decide +kernel
theorem dX6_get_54 : decode cX6_get 54 = .ok (.iaload, 1) := by decide +kernel
theorem dX6_get_55 : decode cX6_get 55 = .ok (.ireturn, 1) := by decide +kernel
theorem dX6_copy_0 : decode cX6_copy 0 = .ok (.iload_n 1, 1) := by decide +kernel
theorem dX6_copy_1 : decode cX6_copy 1 = .ok (.invokestatic 252, 3) := by decide +kernel
theorem dX6_copy_4 : decode cX6_copy 4 = .ok (.ifCond .eq 10, 3) := by decide +kernel
theorem dX6_copy_7 : decode cX6_copy 7 = .ok (.iload_n 3, 1) := by decide +kernel
theorem dX6_copy_8 : decode cX6_copy 8 = .ok (.invokestatic 252, 3) := by decide +kernel
theorem dX6_copy_11 : decode cX6_copy 11 = .ok (.ifCond .ne 6, 3) := by decide +kernel
theorem dX6_copy_14 : decode cX6_copy 14 = .ok (.bipush (-2), 2) := by decide +kernel
theorem dX6_copy_16 : decode cX6_copy 16 = .ok (.ireturn, 1) := by decide +kernel
theorem dX6_copy_17 : decode cX6_copy 17 = .ok (.aload_n 0, 1) := by decide +kernel
theorem dX6_copy_18 : decode cX6_copy 18 = .ok (.getfield 85, 3) := by decide +kernel
theorem dX6_copy_21 : decode cX6_copy 21 = .ok (.iload_n 1, 1) := by decide +kernel
theorem dX6_copy_22 : decode cX6_copy 22 = .ok (.baload, 1) := by decide +kernel
theorem dX6_copy_23 : decode cX6_copy 23 = .ok (.ifCond .eq 12, 3) := by decide +kernel
theorem dX6_copy_26 : decode cX6_copy 26 = .ok (.aload_n 0, 1) := by decide +kernel
theorem dX6_copy_27 : decode cX6_copy 27 = .ok (.getfield 85, 3) := by decide +kernel
theorem dX6_copy_30 : decode cX6_copy 30 = .ok (.iload_n 3, 1) := by decide +kernel
theorem dX6_copy_31 : decode cX6_copy 31 = .ok (.baload, 1) := by decide +kernel
theorem dX6_copy_32 : decode cX6_copy 32 = .ok (.ifCond .ne 9, 3) := by decide +kernel
theorem dX6_copy_35 : decode cX6_copy 35 = .ok (.aload_n 0, 1) := by decide +kernel
theorem dX6_copy_36 : decode cX6_copy 36 = .ok (.iconst 1, 1) := by decide +kernel
theorem dX6_copy_37 : decode cX6_copy 37 = .ok (.invokevirtual 255, 3) := by decide +kernel
theorem dX6_copy_40 : decode cX6_copy 40 = .ok (.ireturn, 1) := by decide +kernel
theorem dX6_copy_41 : decode cX6_copy 41 = .ok (.aload_n 0, 1) := by decide +kernel
theorem dX6_copy_42 : decode cX6_copy 42 = .ok (.getfield 89, 3) := by decide +kernel
theorem dX6_copy_45 : decode cX6_copy 45 = .ok (.iload_n 1, 1) := by decide +kernel
theorem dX6_copy_46 : decode cX6_copy 46 = .ok (.iaload, 1) := by decide +kernel
theorem dX6_copy_47 : decode cX6_copy 47 = .ok (.aload_n 0, 1) := by decide +kernel
theorem dX6_copy_48 : decode cX6_copy 48 = .ok (.getfield 89, 3) := by decide +kernel
theorem dX6_copy_51 : decode cX6_copy 51 = .ok (.iload_n 3, 1) := by decide +kernel
theorem dX6_copy_52 : decode cX6_copy 52 = .ok (.iaload, 1) := by decide +kernel
theorem dX6_copy_53 : decode cX6_copy 53 = .ok (.if_icmp .eq 9, 3) := by decide +kernel
theorem dX6_copy_56 : decode cX6_copy 56 = .ok (.aload_n 0, 1) := by decide +kernel
theorem dX6_copy_57 : decode cX6_copy 57 = .ok (.iconst 4, 1) := by decide +kernel
theorem dX6_copy_58 : decode cX6_copy 58 = .ok (.invokevirtual 255, 3) := by decide +kernel
theorem dX6_copy_61 : decode cX6_copy 61 = .ok (.ireturn, 1) := by decide +kernel
theorem dX6_copy_62 : decode cX6_copy 62 = .ok (.iload_n 2, 1) := by decide +kernel
theorem dX6_copy_63 : decode cX6_copy 63 = .ok (.ifCond .lt 48, 3) := by decide +kernel
theorem dX6_copy_66 : decode cX6_copy 66 = .ok (.iload 4, 2) := by decide +kernel
theorem dX6_copy_68 : decode cX6_copy 68 = .ok (.ifCond .lt 43, 3) := by decide +kernel
theorem dX6_copy_71 : decode cX6_copy 71 = .ok (.iload 5, 2) := by decide +kernel
theorem dX6_copy_73 : decode cX6_copy 73 = .ok (.ifCond .lt 38, 3) := by decide +kernel
theorem dX6_copy_76 : decode cX6_copy 76 = .ok (.iload_n 2, 1) := by decide +kernel
theorem dX6_copy_77 : decode cX6_copy 77 = .ok (.i2l, 1) := by decide +kernel
theorem dX6_copy_78 : decode cX6_copy 78 = .ok (.iload 5, 2) := by decide +kernel
theorem dX6_copy_80 : decode cX6_copy 80 = .ok (.i2l, 1) := by decide +kernel
theorem dX6_copy_81 : decode cX6_copy 81 = .ok (.ladd, 1) := by decide +kernel
theorem dX6_copy_82 : decode cX6_copy 82 = .ok (.aload_n 0, 1) := by decide +kernel
theorem dX6_copy_83 : decode cX6_copy 83 = .ok (.getfield 92, 3) := by decide +kernel
theorem dX6_copy_86 : decode cX6_copy 86 = .ok (.iload_n 1, 1) := by decide +kernel
theorem dX6_copy_87 : decode cX6_copy 87 = .ok (.iaload, 1) := by decide +kernel
theorem dX6_copy_88 : decode cX6_copy 88 = .ok (.i2l, 1) := by decide +kernel
theorem dX6_copy_89 : decode cX6_copy 89 = .ok (.lcmp, 1) := by decide +kernel
theorem dX6_copy_90 : decode cX6_copy 90 = .ok (.ifCond .gt 21, 3) := by decide +kernel
theorem dX6_copy_93 : decode cX6_copy 93 = .ok (.iload 4, 2) := by decide +kernel
theorem dX6_copy_95 : decode cX6_copy 95 = .ok (.i2l, 1) := by decide +kernel
theorem dX6_copy_96 : decode cX6_copy 96 = .ok (.iload 5, 2) := by decide +kernel
theorem dX6_copy_98 : decode cX6_copy 98 = .ok (.i2l, 1) := by decide +kernel
theorem dX6_copy_99 : decode cX6_copy 99 = .ok (.ladd, 1) := by decide +kernel
theorem dX6_copy_100 : decode cX6_copy 100 = .ok (.aload_n 0, 1) := by decide +kernel
theorem dX6_copy_101 : decode cX6_copy 101 = .ok (.getfield 92, 3) := by decide +kernel
theorem dX6_copy_104 : decode cX6_copy 104 = .ok (.iload_n 3, 1) := by decide +kernel
theorem dX6_copy_105 : decode cX6_copy 105 = .ok (.iaload, 1) := by decide +kernel
theorem dX6_copy_106 : decode cX6_copy 106 = .ok (.i2l, 1) := by decide +kernel
theorem dX6_copy_107 : decode cX6_copy 107 = .ok (.lcmp, 1) := by decide +kernel
theorem dX6_copy_108 : decode cX6_copy 108 = .ok (.ifCond .le 9, 3) := by decide +kernel
theorem dX6_copy_111 : decode cX6_copy 111 = .ok (.aload_n 0, 1) := by decide +kernel
theorem dX6_copy_112 : decode cX6_copy 112 = .ok (.iconst 2, 1) := by decide +kernel
theorem dX6_copy_113 : decode cX6_copy 113 = .ok (.invokevirtual 255, 3) := by decide +kernel
theorem dX6_copy_116 : decode cX6_copy 116 = .ok (.ireturn, 1) := by decide +kernel
theorem dX6_copy_117 : decode cX6_copy 117 = .ok (.iconst 0, 1) := by decide +kernel
theorem dX6_copy_118 : decode cX6_copy 118 = .ok (.istore 6, 2) := by decide +kernel
theorem dX6_copy_120 : decode cX6_copy 120 = .ok (.iload 6, 2) := by decide +kernel
theorem dX6_copy_122 : decode cX6_copy 122 = .ok (.iload 5, 2) := by decide +kernel
theorem dX6_copy_124 : decode cX6_copy 124 = .ok (.if_icmp .ge 30, 3) := by decide +kernel
theorem dX6_copy_127 : decode cX6_copy 127 = .ok (.aload_n 0, 1) := by decide +kernel
theorem dX6_copy_128 : decode cX6_copy 128 = .ok (.getfield 98, 3) := by decide +kernel
theorem dX6_copy_131 : decode cX6_copy 131 = .ok (.iload 6, 2) := by decide +kernel
theorem dX6_copy_133 : decode cX6_copy 133 = .ok (.aload_n 0, 1) := by decide +kernel
theorem dX6_copy_134 : decode cX6_copy 134 = .ok (.getfield 95, 3) := by decide +kernel
theorem dX6_copy_137 : decode cX6_copy 137 = .ok (.bipush 60, 2) := by decide +kernel
theorem dX6_copy_139 : decode cX6_copy 139 = .ok (.iload_n 1, 1) := by decide +kernel
theorem dX6_copy_140 : decode cX6_copy 140 = .ok (.imul, 1) := by decide +kernel
theorem dX6_copy_141 : decode cX6_copy 141 = .ok (.iload_n 2, 1) := by decide +kernel
theorem dX6_copy_142 : decode cX6_copy 142 = .ok (.iadd, 1) := by decide +kernel
theorem dX6_copy_143 : decode cX6_copy 143 = .ok (.iload 6, 2) := by decide +kernel
theorem dX6_copy_145 : decode cX6_copy 145 = .ok (.iadd, 1) := by decide +kernel
theorem dX6_copy_146 : decode cX6_copy 146 = .ok (.iaload, 1) := by decide +kernel
theorem dX6_copy_147 : decode cX6_copy 147 = .ok (.iastore, 1) := by decide +kernel
theorem dX6_copy_148 : decode cX6_copy 148 = .ok (.iinc 6 1, 3) := by decide +kernel
theorem dX6_copy_151 : decode cX6_copy 151 = .ok (.goto (-31), 3) := by decide +kernel
theorem dX6_copy_154 : decode cX6_copy 154 = .ok (.iconst 0, 1) := by decide +kernel
theorem dX6_copy_155 : decode cX6_copy 155 = .ok (.istore 6, 2) := by decide +kernel
theorem dX6_copy_157 : decode cX6_copy 157 = .ok (.iload 6, 2) := by decide +kernel
theorem dX6_copy_159 : decode cX6_copy 159 = .ok (.iload 5, 2) := by decide +kernel
theorem dX6_copy_161 : decode cX6_copy 161 = .ok (.if_icmp .ge 31, 3) := by decide +kernel
theorem dX6_copy_164 : decode cX6_copy 164 = .ok (.aload_n 0, 1) := by decide +kernel
theorem dX6_copy_165 : decode cX6_copy 165 = .ok (.getfield 95, 3) := by decide +kernel
theorem dX6_copy_168 : decode cX6_copy 168 = .ok (.bipush 60, 2) := by decide +kernel
theorem dX6_copy_170 : decode cX6_copy 170 = .ok (.iload_n 3, 1) := by decide +kernel
theorem dX6_copy_171 : decode cX6_copy 171 = .ok (.imul, 1) := by decide +kernel
theorem dX6_copy_172 : decode cX6_copy 172 = .ok (.iload 4, 2) := by decide +kernel
theorem dX6_copy_174 : decode cX6_copy 174 = .ok (.iadd, 1) := by decide +kernel
theorem dX6_copy_175 : decode cX6_copy 175 = .ok (.iload 6, 2) := by decide +kernel
theorem dX6_copy_177 : decode cX6_copy 177 = .ok (.iadd, 1) := by decide +kernel
theorem dX6_copy_178 : decode cX6_copy 178 = .ok (.aload_n 0, 1) := by decide +kernel
theorem dX6_copy_179 : decode cX6_copy 179 = .ok (.getfield 98, 3) := by decide +kernel
theorem dX6_copy_182 : decode cX6_copy 182 = .ok (.iload 6, 2) := by decide +kernel
theorem dX6_copy_184 : decode cX6_copy 184 = .ok (.iaload, 1) := by decide +kernel
theorem dX6_copy_185 : decode cX6_copy 185 = .ok (.iastore, 1) := by decide +kernel
theorem dX6_copy_186 : decode cX6_copy 186 = .ok (.iinc 6 1, 3) := by decide +kernel
theorem dX6_copy_189 : decode cX6_copy 189 = .ok (.goto (-32), 3) := by decide +kernel
theorem dX6_copy_192 : decode cX6_copy 192 = .ok (.iconst 1, 1) := by decide +kernel
theorem dX6_copy_193 : decode cX6_copy 193 = .ok (.ireturn, 1) := by decide +kernel
theorem dX6_write_0 : decode cX6_write 0 = .ok (.iload_n 1, 1) := by decide +kernel
theorem dX6_write_1 : decode cX6_write 1 = .ok (.invokestatic 199, 3) := by decide +kernel
theorem dX6_write_4 : decode cX6_write 4 = .ok (.ifCond .eq 10, 3) := by decide +kernel
theorem dX6_write_7 : decode cX6_write 7 = .ok (.iload_n 2, 1) := by decide +kernel
theorem dX6_write_8 : decode cX6_write 8 = .ok (.invokestatic 252, 3) := by decide +kernel
theorem dX6_write_11 : decode cX6_write 11 = .ok (.ifCond .ne 6, 3) := by decide +kernel
theorem dX6_write_14 : decode cX6_write 14 = .ok (.bipush (-2), 2) := by decide +kernel
theorem dX6_write_16 : decode cX6_write 16 = .ok (.ireturn, 1) := by decide +kernel
theorem dX6_write_17 : decode cX6_write 17 = .ok (.aload_n 0, 1) := by decide +kernel
theorem dX6_write_18 : decode cX6_write 18 = .ok (.getfield 85, 3) := by decide +kernel
theorem dX6_write_21 : decode cX6_write 21 = .ok (.iload_n 2, 1) := by decide +kernel
theorem dX6_write_22 : decode cX6_write 22 = .ok (.baload, 1) := by decide +kernel
theorem dX6_write_23 : decode cX6_write 23 = .ok (.ifCond .ne 9, 3) := by decide +kernel
theorem dX6_write_26 : decode cX6_write 26 = .ok (.aload_n 0, 1) := by decide +kernel
theorem dX6_write_27 : decode cX6_write 27 = .ok (.iconst 1, 1) := by decide +kernel
theorem dX6_write_28 : decode cX6_write 28 = .ok (.invokevirtual 255, 3) := by decide +kernel
theorem dX6_write_31 : decode cX6_write 31 = .ok (.ireturn, 1) := by decide +kernel
theorem dX6_write_32 : decode cX6_write 32 = .ok (.aload_n 0, 1) := by decide +kernel
theorem dX6_write_33 : decode cX6_write 33 = .ok (.iload_n 1, 1) := by decide +kernel
theorem dX6_write_34 : decode cX6_write 34 = .ok (.invokevirtual 196, 3) := by decide +kernel
theorem dX6_write_37 : decode cX6_write 37 = .ok (.iconst 0, 1) := by decide +kernel
theorem dX6_write_38 : decode cX6_write 38 = .ok (.istore_n 3, 1) := by decide +kernel
theorem dX6_write_39 : decode cX6_write 39 = .ok (.iload_n 3, 1) := by decide +kernel
theorem dX6_write_40 : decode cX6_write 40 = .ok (.aload_n 0, 1) := by decide +kernel
theorem dX6_write_41 : decode cX6_write 41 = .ok (.getfield 92, 3) := by decide +kernel
theorem dX6_write_44 : decode cX6_write 44 = .ok (.iload_n 2, 1) := by decide +kernel
theorem dX6_write_45 : decode cX6_write 45 = .ok (.iaload, 1) := by decide +kernel
theorem dX6_write_46 : decode cX6_write 46 = .ok (.if_icmp .ge 29, 3) := by decide +kernel
theorem dX6_write_49 : decode cX6_write 49 = .ok (.iload_n 3, 1) := by decide +kernel
theorem dX6_write_50 : decode cX6_write 50 = .ok (.aload_n 0, 1) := by decide +kernel
theorem dX6_write_51 : decode cX6_write 51 = .ok (.getfield 123, 3) := by decide +kernel
theorem dX6_write_54 : decode cX6_write 54 = .ok (.if_icmp .ge 21, 3) := by decide +kernel
theorem dX6_write_57 : decode cX6_write 57 = .ok (.aload_n 0, 1) := by decide +kernel
theorem dX6_write_58 : decode cX6_write 58 = .ok (.iload_n 2, 1) := by decide +kernel
theorem dX6_write_59 : decode cX6_write 59 = .ok (.iload_n 3, 1) := by decide +kernel
theorem dX6_write_60 : decode cX6_write 60 = .ok (.aload_n 0, 1) := by decide +kernel
theorem dX6_write_61 : decode cX6_write 61 = .ok (.getfield 46, 3) := by decide +kernel
theorem dX6_write_64 : decode cX6_write 64 = .ok (.iload_n 3, 1) := by decide +kernel
theorem dX6_write_65 : decode cX6_write 65 = .ok (.iaload, 1) := by decide +kernel
theorem dX6_write_66 : decode cX6_write 66 = .ok (.invokevirtual 299, 3) := by decide +kernel
theorem dX6_write_69 : decode cX6_write 69 = .ok (.iinc 3 1, 3) := by decide +kernel
theorem dX6_write_72 : decode cX6_write 72 = .ok (.goto (-33), 3) := by decide +kernel
theorem dX6_write_75 : decode cX6_write 75 = .ok (.iload_n 3, 1) := by decide +kernel
theorem dX6_write_76 : decode cX6_write 76 = .ok (.ireturn, 1) := by decide +kernel
theorem dX6_sumOf_0 : decode cX6_sumOf 0 = .ok (.aload_n 0, 1) := by decide +kernel
theorem dX6_sumOf_1 : decode cX6_sumOf 1 = .ok (.bipush 29, 2) := by decide +kernel
theorem dX6_sumOf_3 : decode cX6_sumOf 3 = .ok (.invokevirtual 196, 3) := by decide +kernel
theorem dX6_sumOf_6 : decode cX6_sumOf 6 = .ok (.iload_n 1, 1) := by decide +kernel
theorem dX6_sumOf_7 : decode cX6_sumOf 7 = .ok (.ifCond .ne 10, 3) := by decide +kernel
theorem dX6_sumOf_10 : decode cX6_sumOf 10 = .ok (.aload_n 0, 1) := by decide +kernel
theorem dX6_sumOf_11 : decode cX6_sumOf 11 = .ok (.getfield 123, 3) := by decide +kernel
theorem dX6_sumOf_14 : decode cX6_sumOf 14 = .ok (.goto 31, 3) := by decide +kernel
theorem dX6_sumOf_17 : decode cX6_sumOf 17 = .ok (.iload_n 1, 1) := by decide +kernel
theorem dX6_sumOf_18 : decode cX6_sumOf 18 = .ok (.iconst 1, 1) := by decide +kernel
theorem dX6_sumOf_19 : decode cX6_sumOf 19 = .ok (.if_icmp .ne 10, 3) := by decide +kernel
theorem dX6_sumOf_22 : decode cX6_sumOf 22 = .ok (.aload_n 0, 1) := by decide +kernel
theorem dX6_sumOf_23 : decode cX6_sumOf 23 = .ok (.getfield 126, 3) := by decide +kernel
theorem dX6_sumOf_26 : decode cX6_sumOf 26 = .ok (.goto 19, 3) := by decide +kernel
theorem dX6_sumOf_29 : decode cX6_sumOf 29 = .ok (.iload_n 1, 1) := by decide +kernel
theorem dX6_sumOf_30 : decode cX6_sumOf 30 = .ok (.iconst 2, 1) := by decide +kernel
theorem dX6_sumOf_31 : decode cX6_sumOf 31 = .ok (.if_icmp .ne 10, 3) := by decide +kernel
theorem dX6_sumOf_34 : decode cX6_sumOf 34 = .ok (.aload_n 0, 1) := by decide +kernel
theorem dX6_sumOf_35 : decode cX6_sumOf 35 = .ok (.getfield 129, 3) := by decide +kernel
theorem dX6_sumOf_38 : decode cX6_sumOf 38 = .ok (.goto 7, 3) := by decide +kernel
theorem dX6_sumOf_41 : decode cX6_sumOf 41 = .ok (.aload_n 0, 1) := by decide +kernel
theorem dX6_sumOf_42 : decode cX6_sumOf 42 = .ok (.invokevirtual 287, 3) := by decide +kernel
theorem dX6_sumOf_45 : decode cX6_sumOf 45 = .ok (.ireturn, 1) := by decide +kernel
theorem dX6_count_0 : decode cX6_count 0 = .ok (.iload_n 1, 1) := by decide +kernel
theorem dX6_count_1 : decode cX6_count 1 = .ok (.tableswitch 76 0 8 #[51, 51, 51, 57, 57, 57, 51, 66, 71], 51) := by decide +kernel
theorem dX6_count_52 : decode cX6_count 52 = .ok (.aload_n 0, 1) := by decide +kernel
theorem dX6_count_53 : decode cX6_count 53 = .ok (.iload_n 1, 1) := by decide +kernel
theorem dX6_count_54 : decode cX6_count 54 = .ok (.invokevirtual 304, 3) := by decide +kernel
theorem dX6_count_57 : decode cX6_count 57 = .ok (.ireturn, 1) := by decide +kernel
theorem dX6_count_58 : decode cX6_count 58 = .ok (.aload_n 0, 1) := by decide +kernel
theorem dX6_count_59 : decode cX6_count 59 = .ok (.getfield 7, 3) := by decide +kernel
theorem dX6_count_62 : decode cX6_count 62 = .ok (.iload_n 1, 1) := by decide +kernel
theorem dX6_count_63 : decode cX6_count 63 = .ok (.iconst 3, 1) := by decide +kernel
theorem dX6_count_64 : decode cX6_count 64 = .ok (.isub, 1) := by decide +kernel
theorem dX6_count_65 : decode cX6_count 65 = .ok (.iaload, 1) := by decide +kernel
theorem dX6_count_66 : decode cX6_count 66 = .ok (.ireturn, 1) := by decide +kernel
theorem dX6_count_67 : decode cX6_count 67 = .ok (.aload_n 0, 1) := by decide +kernel
theorem dX6_count_68 : decode cX6_count 68 = .ok (.getfield 249, 3) := by decide +kernel
theorem dX6_count_71 : decode cX6_count 71 = .ok (.ireturn, 1) := by decide +kernel
theorem dX6_count_72 : decode cX6_count 72 = .ok (.aload_n 0, 1) := by decide +kernel
theorem dX6_count_73 : decode cX6_count 73 = .ok (.getfield 293, 3) := by decide +kernel
theorem dX6_count_76 : decode cX6_count 76 = .ok (.ireturn, 1) := by decide +kernel
theorem dX6_count_77 : decode cX6_count 77 = .ok (.bipush (-2), 2) := by decide +kernel
theorem dX6_count_79 : decode cX6_count 79 = .ok (.ireturn, 1) := by decide +kernel
theorem dX6_sailorDigest_0 : decode cX6_sailorDigest 0 = .ok (.lload_n 1, 1) := by decide +kernel
theorem dX6_sailorDigest_1 : decode cX6_sailorDigest 1 = .ok (.lstore 4, 2) := by decide +kernel
theorem dX6_sailorDigest_3 : decode cX6_sailorDigest 3 = .ok (.iconst 0, 1) := by decide +kernel
theorem dX6_sailorDigest_4 : decode cX6_sailorDigest 4 = .ok (.istore 6, 2) := by decide +kernel
theorem dX6_sailorDigest_6 : decode cX6_sailorDigest 6 = .ok (.iload 6, 2) := by decide +kernel
theorem dX6_sailorDigest_8 : decode cX6_sailorDigest 8 = .ok (.iconst 4, 1) := by decide +kernel
theorem dX6_sailorDigest_9 : decode cX6_sailorDigest 9 = .ok (.if_icmp .ge 26, 3) := by decide +kernel
theorem dX6_sailorDigest_12 : decode cX6_sailorDigest 12 = .ok (.ldc2_w 307, 3) := by decide +kernel
theorem dX6_sailorDigest_15 : decode cX6_sailorDigest 15 = .ok (.lload 4, 2) := by decide +kernel
theorem dX6_sailorDigest_17 : decode cX6_sailorDigest 17 = .ok (.lmul, 1) := by decide +kernel
theorem dX6_sailorDigest_18 : decode cX6_sailorDigest 18 = .ok (.aload_n 0, 1) := by decide +kernel
theorem dX6_sailorDigest_19 : decode cX6_sailorDigest 19 = .ok (.iload_n 3, 1) := by decide +kernel
theorem dX6_sailorDigest_20 : decode cX6_sailorDigest 20 = .ok (.iload 6, 2) := by decide +kernel
theorem dX6_sailorDigest_22 : decode cX6_sailorDigest 22 = .ok (.invokevirtual 158, 3) := by decide +kernel
theorem dX6_sailorDigest_25 : decode cX6_sailorDigest 25 = .ok (.i2l, 1) := by decide +kernel
theorem dX6_sailorDigest_26 : decode cX6_sailorDigest 26 = .ok (.ladd, 1) := by decide +kernel
theorem dX6_sailorDigest_27 : decode cX6_sailorDigest 27 = .ok (.lstore 4, 2) := by decide +kernel
theorem dX6_sailorDigest_29 : decode cX6_sailorDigest 29 = .ok (.iinc 6 1, 3) := by decide +kernel
theorem dX6_sailorDigest_32 : decode cX6_sailorDigest 32 = .ok (.goto (-26), 3) := by decide +kernel
theorem dX6_sailorDigest_35 : decode cX6_sailorDigest 35 = .ok (.ldc2_w 307, 3) := by decide +kernel
theorem dX6_sailorDigest_38 : decode cX6_sailorDigest 38 = .ok (.lload 4, 2) := by decide +kernel
theorem dX6_sailorDigest_40 : decode cX6_sailorDigest 40 = .ok (.lmul, 1) := by decide +kernel
theorem dX6_sailorDigest_41 : decode cX6_sailorDigest 41 = .ok (.aload_n 0, 1) := by decide +kernel
theorem dX6_sailorDigest_42 : decode cX6_sailorDigest 42 = .ok (.bipush 9, 2) := by decide +kernel
theorem dX6_sailorDigest_44 : decode cX6_sailorDigest 44 = .ok (.iload_n 3, 1) := by decide +kernel
theorem dX6_sailorDigest_45 : decode cX6_sailorDigest 45 = .ok (.invokevirtual 202, 3) := by decide +kernel
theorem dX6_sailorDigest_48 : decode cX6_sailorDigest 48 = .ok (.i2l, 1) := by decide +kernel
theorem dX6_sailorDigest_49 : decode cX6_sailorDigest 49 = .ok (.ladd, 1) := by decide +kernel
theorem dX6_sailorDigest_50 : decode cX6_sailorDigest 50 = .ok (.lstore 4, 2) := by decide +kernel
theorem dX6_sailorDigest_52 : decode cX6_sailorDigest 52 = .ok (.ldc2_w 307, 3) := by decide +kernel
theorem dX6_sailorDigest_55 : decode cX6_sailorDigest 55 = .ok (.lload 4, 2) := by decide +kernel
theorem dX6_sailorDigest_57 : decode cX6_sailorDigest 57 = .ok (.lmul, 1) := by decide +kernel
theorem dX6_sailorDigest_58 : decode cX6_sailorDigest 58 = .ok (.aload_n 0, 1) := by decide +kernel
theorem dX6_sailorDigest_59 : decode cX6_sailorDigest 59 = .ok (.bipush 29, 2) := by decide +kernel
theorem dX6_sailorDigest_61 : decode cX6_sailorDigest 61 = .ok (.iload_n 3, 1) := by decide +kernel
theorem dX6_sailorDigest_62 : decode cX6_sailorDigest 62 = .ok (.invokevirtual 202, 3) := by decide +kernel
theorem dX6_sailorDigest_65 : decode cX6_sailorDigest 65 = .ok (.i2l, 1) := by decide +kernel
theorem dX6_sailorDigest_66 : decode cX6_sailorDigest 66 = .ok (.ladd, 1) := by decide +kernel
theorem dX6_sailorDigest_67 : decode cX6_sailorDigest 67 = .ok (.lstore 4, 2) := by decide +kernel
theorem dX6_sailorDigest_69 : decode cX6_sailorDigest 69 = .ok (.ldc2_w 307, 3) := by decide +kernel
theorem dX6_sailorDigest_72 : decode cX6_sailorDigest 72 = .ok (.lload 4, 2) := by decide +kernel
theorem dX6_sailorDigest_74 : decode cX6_sailorDigest 74 = .ok (.lmul, 1) := by decide +kernel
theorem dX6_sailorDigest_75 : decode cX6_sailorDigest 75 = .ok (.aload_n 0, 1) := by decide +kernel
theorem dX6_sailorDigest_76 : decode cX6_sailorDigest 76 = .ok (.bipush 9, 2) := by decide +kernel
theorem dX6_sailorDigest_78 : decode cX6_sailorDigest 78 = .ok (.iload_n 3, 1) := by decide +kernel
theorem dX6_sailorDigest_79 : decode cX6_sailorDigest 79 = .ok (.invokevirtual 205, 3) := by decide +kernel
theorem dX6_sailorDigest_82 : decode cX6_sailorDigest 82 = .ok (.i2l, 1) := by decide +kernel
theorem dX6_sailorDigest_83 : decode cX6_sailorDigest 83 = .ok (.ladd, 1) := by decide +kernel
theorem dX6_sailorDigest_84 : decode cX6_sailorDigest 84 = .ok (.lstore 4, 2) := by decide +kernel
theorem dX6_sailorDigest_86 : decode cX6_sailorDigest 86 = .ok (.ldc2_w 307, 3) := by decide +kernel
theorem dX6_sailorDigest_89 : decode cX6_sailorDigest 89 = .ok (.lload 4, 2) := by decide +kernel
theorem dX6_sailorDigest_91 : decode cX6_sailorDigest 91 = .ok (.lmul, 1) := by decide +kernel
theorem dX6_sailorDigest_92 : decode cX6_sailorDigest 92 = .ok (.aload_n 0, 1) := by decide +kernel
theorem dX6_sailorDigest_93 : decode cX6_sailorDigest 93 = .ok (.bipush 9, 2) := by decide +kernel
theorem dX6_sailorDigest_95 : decode cX6_sailorDigest 95 = .ok (.iload_n 3, 1) := by decide +kernel
theorem dX6_sailorDigest_96 : decode cX6_sailorDigest 96 = .ok (.invokevirtual 208, 3) := by decide +kernel
theorem dX6_sailorDigest_99 : decode cX6_sailorDigest 99 = .ok (.i2l, 1) := by decide +kernel
theorem dX6_sailorDigest_100 : decode cX6_sailorDigest 100 = .ok (.ladd, 1) := by decide +kernel
theorem dX6_sailorDigest_101 : decode cX6_sailorDigest 101 = .ok (.lstore 4, 2) := by decide +kernel
theorem dX6_sailorDigest_103 : decode cX6_sailorDigest 103 = .ok (.ldc2_w 307, 3) := by decide +kernel
theorem dX6_sailorDigest_106 : decode cX6_sailorDigest 106 = .ok (.lload 4, 2) := by decide +kernel
theorem dX6_sailorDigest_108 : decode cX6_sailorDigest 108 = .ok (.lmul, 1) := by decide +kernel
theorem dX6_sailorDigest_109 : decode cX6_sailorDigest 109 = .ok (.aload_n 0, 1) := by decide +kernel
theorem dX6_sailorDigest_110 : decode cX6_sailorDigest 110 = .ok (.bipush 29, 2) := by decide +kernel
theorem dX6_sailorDigest_112 : decode cX6_sailorDigest 112 = .ok (.iload_n 3, 1) := by decide +kernel
theorem dX6_sailorDigest_113 : decode cX6_sailorDigest 113 = .ok (.invokevirtual 208, 3) := by decide +kernel
theorem dX6_sailorDigest_116 : decode cX6_sailorDigest 116 = .ok (.i2l, 1) := by decide +kernel
theorem dX6_sailorDigest_117 : decode cX6_sailorDigest 117 = .ok (.ladd, 1) := by decide +kernel
theorem dX6_sailorDigest_118 : decode cX6_sailorDigest 118 = .ok (.lstore 4, 2) := by decide +kernel
theorem dX6_sailorDigest_120 : decode cX6_sailorDigest 120 = .ok (.ldc2_w 307, 3) := by decide +kernel
theorem dX6_sailorDigest_123 : decode cX6_sailorDigest 123 = .ok (.lload 4, 2) := by decide +kernel
theorem dX6_sailorDigest_125 : decode cX6_sailorDigest 125 = .ok (.lmul, 1) := by decide +kernel
theorem dX6_sailorDigest_126 : decode cX6_sailorDigest 126 = .ok (.aload_n 0, 1) := by decide +kernel
theorem dX6_sailorDigest_127 : decode cX6_sailorDigest 127 = .ok (.iload_n 3, 1) := by decide +kernel
theorem dX6_sailorDigest_128 : decode cX6_sailorDigest 128 = .ok (.iconst 0, 1) := by decide +kernel
theorem dX6_sailorDigest_129 : decode cX6_sailorDigest 129 = .ok (.invokevirtual 234, 3) := by decide +kernel
theorem dX6_sailorDigest_132 : decode cX6_sailorDigest 132 = .ok (.i2l, 1) := by decide +kernel
theorem dX6_sailorDigest_133 : decode cX6_sailorDigest 133 = .ok (.ladd, 1) := by decide +kernel
theorem dX6_sailorDigest_134 : decode cX6_sailorDigest 134 = .ok (.lstore 4, 2) := by decide +kernel
theorem dX6_sailorDigest_136 : decode cX6_sailorDigest 136 = .ok (.ldc2_w 307, 3) := by decide +kernel
theorem dX6_sailorDigest_139 : decode cX6_sailorDigest 139 = .ok (.lload 4, 2) := by decide +kernel
theorem dX6_sailorDigest_141 : decode cX6_sailorDigest 141 = .ok (.lmul, 1) := by decide +kernel
theorem dX6_sailorDigest_142 : decode cX6_sailorDigest 142 = .ok (.aload_n 0, 1) := by decide +kernel
theorem dX6_sailorDigest_143 : decode cX6_sailorDigest 143 = .ok (.iload_n 3, 1) := by decide +kernel
theorem dX6_sailorDigest_144 : decode cX6_sailorDigest 144 = .ok (.iconst 1, 1) := by decide +kernel
theorem dX6_sailorDigest_145 : decode cX6_sailorDigest 145 = .ok (.invokevirtual 234, 3) := by decide +kernel
theorem dX6_sailorDigest_148 : decode cX6_sailorDigest 148 = .ok (.i2l, 1) := by decide +kernel
theorem dX6_sailorDigest_149 : decode cX6_sailorDigest 149 = .ok (.ladd, 1) := by decide +kernel
theorem dX6_sailorDigest_150 : decode cX6_sailorDigest 150 = .ok (.lstore 4, 2) := by decide +kernel
theorem dX6_sailorDigest_152 : decode cX6_sailorDigest 152 = .ok (.aload_n 0, 1) := by decide +kernel
theorem dX6_sailorDigest_153 : decode cX6_sailorDigest 153 = .ok (.iload_n 3, 1) := by decide +kernel
theorem dX6_sailorDigest_154 : decode cX6_sailorDigest 154 = .ok (.invokevirtual 243, 3) := by decide +kernel
theorem dX6_sailorDigest_157 : decode cX6_sailorDigest 157 = .ok (.istore 6, 2) := by decide +kernel
theorem dX6_sailorDigest_159 : decode cX6_sailorDigest 159 = .ok (.ldc2_w 307, 3) := by decide +kernel
theorem dX6_sailorDigest_162 : decode cX6_sailorDigest 162 = .ok (.lload 4, 2) := by decide +kernel
theorem dX6_sailorDigest_164 : decode cX6_sailorDigest 164 = .ok (.lmul, 1) := by decide +kernel
theorem dX6_sailorDigest_165 : decode cX6_sailorDigest 165 = .ok (.iload 6, 2) := by decide +kernel
theorem dX6_sailorDigest_167 : decode cX6_sailorDigest 167 = .ok (.i2l, 1) := by decide +kernel
theorem dX6_sailorDigest_168 : decode cX6_sailorDigest 168 = .ok (.ladd, 1) := by decide +kernel
theorem dX6_sailorDigest_169 : decode cX6_sailorDigest 169 = .ok (.lstore 4, 2) := by decide +kernel
theorem dX6_sailorDigest_171 : decode cX6_sailorDigest 171 = .ok (.ldc2_w 307, 3) := by decide +kernel
theorem dX6_sailorDigest_174 : decode cX6_sailorDigest 174 = .ok (.lload 4, 2) := by decide +kernel
theorem dX6_sailorDigest_176 : decode cX6_sailorDigest 176 = .ok (.lmul, 1) := by decide +kernel
theorem dX6_sailorDigest_177 : decode cX6_sailorDigest 177 = .ok (.aload_n 0, 1) := by decide +kernel
theorem dX6_sailorDigest_178 : decode cX6_sailorDigest 178 = .ok (.iload 6, 2) := by decide +kernel
theorem dX6_sailorDigest_180 : decode cX6_sailorDigest 180 = .ok (.iconst 0, 1) := by decide +kernel
theorem dX6_sailorDigest_181 : decode cX6_sailorDigest 181 = .ok (.invokevirtual 246, 3) := by decide +kernel
theorem dX6_sailorDigest_184 : decode cX6_sailorDigest 184 = .ok (.i2l, 1) := by decide +kernel
theorem dX6_sailorDigest_185 : decode cX6_sailorDigest 185 = .ok (.ladd, 1) := by decide +kernel
theorem dX6_sailorDigest_186 : decode cX6_sailorDigest 186 = .ok (.lstore 4, 2) := by decide +kernel
theorem dX6_sailorDigest_188 : decode cX6_sailorDigest 188 = .ok (.ldc2_w 307, 3) := by decide +kernel
theorem dX6_sailorDigest_191 : decode cX6_sailorDigest 191 = .ok (.lload 4, 2) := by decide +kernel
theorem dX6_sailorDigest_193 : decode cX6_sailorDigest 193 = .ok (.lmul, 1) := by decide +kernel
theorem dX6_sailorDigest_194 : decode cX6_sailorDigest 194 = .ok (.aload_n 0, 1) := by decide +kernel
theorem dX6_sailorDigest_195 : decode cX6_sailorDigest 195 = .ok (.iload_n 3, 1) := by decide +kernel
theorem dX6_sailorDigest_196 : decode cX6_sailorDigest 196 = .ok (.iconst 0, 1) := by decide +kernel
theorem dX6_sailorDigest_197 : decode cX6_sailorDigest 197 = .ok (.invokevirtual 268, 3) := by decide +kernel
theorem dX6_sailorDigest_200 : decode cX6_sailorDigest 200 = .ok (.i2l, 1) := by decide +kernel
theorem dX6_sailorDigest_201 : decode cX6_sailorDigest 201 = .ok (.ladd, 1) := by decide +kernel
theorem dX6_sailorDigest_202 : decode cX6_sailorDigest 202 = .ok (.lstore 4, 2) := by decide +kernel
theorem dX6_sailorDigest_204 : decode cX6_sailorDigest 204 = .ok (.ldc2_w 307, 3) := by decide +kernel
theorem dX6_sailorDigest_207 : decode cX6_sailorDigest 207 = .ok (.lload 4, 2) := by decide +kernel
theorem dX6_sailorDigest_209 : decode cX6_sailorDigest 209 = .ok (.lmul, 1) := by decide +kernel
theorem dX6_sailorDigest_210 : decode cX6_sailorDigest 210 = .ok (.aload_n 0, 1) := by decide +kernel
theorem dX6_sailorDigest_211 : decode cX6_sailorDigest 211 = .ok (.iload_n 3, 1) := by decide +kernel
theorem dX6_sailorDigest_212 : decode cX6_sailorDigest 212 = .ok (.iconst 1, 1) := by decide +kernel
theorem dX6_sailorDigest_213 : decode cX6_sailorDigest 213 = .ok (.invokevirtual 268, 3) := by decide +kernel
theorem dX6_sailorDigest_216 : decode cX6_sailorDigest 216 = .ok (.i2l, 1) := by decide +kernel
theorem dX6_sailorDigest_217 : decode cX6_sailorDigest 217 = .ok (.ladd, 1) := by decide +kernel
theorem dX6_sailorDigest_218 : decode cX6_sailorDigest 218 = .ok (.lstore 4, 2) := by decide +kernel
theorem dX6_sailorDigest_220 : decode cX6_sailorDigest 220 = .ok (.ldc2_w 307, 3) := by decide +kernel
theorem dX6_sailorDigest_223 : decode cX6_sailorDigest 223 = .ok (.lload 4, 2) := by decide +kernel
theorem dX6_sailorDigest_225 : decode cX6_sailorDigest 225 = .ok (.lmul, 1) := by decide +kernel
theorem dX6_sailorDigest_226 : decode cX6_sailorDigest 226 = .ok (.aload_n 0, 1) := by decide +kernel
theorem dX6_sailorDigest_227 : decode cX6_sailorDigest 227 = .ok (.iconst 5, 1) := by decide +kernel
theorem dX6_sailorDigest_228 : decode cX6_sailorDigest 228 = .ok (.iload_n 3, 1) := by decide +kernel
theorem dX6_sailorDigest_229 : decode cX6_sailorDigest 229 = .ok (.bipush 20, 2) := by decide +kernel
theorem dX6_sailorDigest_231 : decode cX6_sailorDigest 231 = .ok (.iconst 0, 1) := by decide +kernel
theorem dX6_sailorDigest_232 : decode cX6_sailorDigest 232 = .ok (.invokevirtual 278, 3) := by decide +kernel
theorem dX6_sailorDigest_235 : decode cX6_sailorDigest 235 = .ok (.ladd, 1) := by decide +kernel
theorem dX6_sailorDigest_236 : decode cX6_sailorDigest 236 = .ok (.lstore 4, 2) := by decide +kernel
theorem dX6_sailorDigest_238 : decode cX6_sailorDigest 238 = .ok (.ldc2_w 307, 3) := by decide +kernel
theorem dX6_sailorDigest_241 : decode cX6_sailorDigest 241 = .ok (.lload 4, 2) := by decide +kernel
theorem dX6_sailorDigest_243 : decode cX6_sailorDigest 243 = .ok (.lmul, 1) := by decide +kernel
theorem dX6_sailorDigest_244 : decode cX6_sailorDigest 244 = .ok (.aload_n 0, 1) := by decide +kernel
theorem dX6_sailorDigest_245 : decode cX6_sailorDigest 245 = .ok (.iconst 5, 1) := by decide +kernel
theorem dX6_sailorDigest_246 : decode cX6_sailorDigest 246 = .ok (.iload_n 3, 1) := by decide +kernel
theorem dX6_sailorDigest_247 : decode cX6_sailorDigest 247 = .ok (.bipush 20, 2) := by decide +kernel
theorem dX6_sailorDigest_249 : decode cX6_sailorDigest 249 = .ok (.iconst 1, 1) := by decide +kernel
theorem dX6_sailorDigest_250 : decode cX6_sailorDigest 250 = .ok (.invokevirtual 278, 3) := by decide +kernel
theorem dX6_sailorDigest_253 : decode cX6_sailorDigest 253 = .ok (.ladd, 1) := by decide +kernel
theorem dX6_sailorDigest_254 : decode cX6_sailorDigest 254 = .ok (.lreturn, 1) := by decide +kernel
theorem dX6_houseDigest_0 : decode cX6_houseDigest 0 = .ok (.ldc2_w 307, 3) := by decide +kernel
theorem dX6_houseDigest_3 : decode cX6_houseDigest 3 = .ok (.lload_n 1, 1) := by decide +kernel
theorem dX6_houseDigest_4 : decode cX6_houseDigest 4 = .ok (.lmul, 1) := by decide +kernel
theorem dX6_houseDigest_5 : decode cX6_houseDigest 5 = .ok (.aload_n 0, 1) := by decide +kernel
theorem dX6_houseDigest_6 : decode cX6_houseDigest 6 = .ok (.getfield 28, 3) := by decide +kernel
theorem dX6_houseDigest_9 : decode cX6_houseDigest 9 = .ok (.iload_n 3, 1) := by decide +kernel
theorem dX6_houseDigest_10 : decode cX6_houseDigest 10 = .ok (.iaload, 1) := by decide +kernel
theorem dX6_houseDigest_11 : decode cX6_houseDigest 11 = .ok (.i2l, 1) := by decide +kernel
theorem dX6_houseDigest_12 : decode cX6_houseDigest 12 = .ok (.ladd, 1) := by decide +kernel
theorem dX6_houseDigest_13 : decode cX6_houseDigest 13 = .ok (.lstore 4, 2) := by decide +kernel
theorem dX6_houseDigest_15 : decode cX6_houseDigest 15 = .ok (.ldc2_w 307, 3) := by decide +kernel
theorem dX6_houseDigest_18 : decode cX6_houseDigest 18 = .ok (.lload 4, 2) := by decide +kernel
theorem dX6_houseDigest_20 : decode cX6_houseDigest 20 = .ok (.lmul, 1) := by decide +kernel
theorem dX6_houseDigest_21 : decode cX6_houseDigest 21 = .ok (.aload_n 0, 1) := by decide +kernel
theorem dX6_houseDigest_22 : decode cX6_houseDigest 22 = .ok (.getfield 31, 3) := by decide +kernel
theorem dX6_houseDigest_25 : decode cX6_houseDigest 25 = .ok (.iload_n 3, 1) := by decide +kernel
theorem dX6_houseDigest_26 : decode cX6_houseDigest 26 = .ok (.iaload, 1) := by decide +kernel
theorem dX6_houseDigest_27 : decode cX6_houseDigest 27 = .ok (.i2l, 1) := by decide +kernel
theorem dX6_houseDigest_28 : decode cX6_houseDigest 28 = .ok (.ladd, 1) := by decide +kernel
theorem dX6_houseDigest_29 : decode cX6_houseDigest 29 = .ok (.lstore 4, 2) := by decide +kernel
theorem dX6_houseDigest_31 : decode cX6_houseDigest 31 = .ok (.ldc2_w 307, 3) := by decide +kernel
theorem dX6_houseDigest_34 : decode cX6_houseDigest 34 = .ok (.lload 4, 2) := by decide +kernel
theorem dX6_houseDigest_36 : decode cX6_houseDigest 36 = .ok (.lmul, 1) := by decide +kernel
theorem dX6_houseDigest_37 : decode cX6_houseDigest 37 = .ok (.aload_n 0, 1) := by decide +kernel
theorem dX6_houseDigest_38 : decode cX6_houseDigest 38 = .ok (.bipush 9, 2) := by decide +kernel
theorem dX6_houseDigest_40 : decode cX6_houseDigest 40 = .ok (.iload_n 3, 1) := by decide +kernel
theorem dX6_houseDigest_41 : decode cX6_houseDigest 41 = .ok (.iconst 0, 1) := by decide +kernel
theorem dX6_houseDigest_42 : decode cX6_houseDigest 42 = .ok (.invokevirtual 211, 3) := by decide +kernel
theorem dX6_houseDigest_45 : decode cX6_houseDigest 45 = .ok (.i2l, 1) := by decide +kernel
theorem dX6_houseDigest_46 : decode cX6_houseDigest 46 = .ok (.ladd, 1) := by decide +kernel
theorem dX6_houseDigest_47 : decode cX6_houseDigest 47 = .ok (.lstore 4, 2) := by decide +kernel
theorem dX6_houseDigest_49 : decode cX6_houseDigest 49 = .ok (.ldc2_w 307, 3) := by decide +kernel
theorem dX6_houseDigest_52 : decode cX6_houseDigest 52 = .ok (.lload 4, 2) := by decide +kernel
theorem dX6_houseDigest_54 : decode cX6_houseDigest 54 = .ok (.lmul, 1) := by decide +kernel
theorem dX6_houseDigest_55 : decode cX6_houseDigest 55 = .ok (.aload_n 0, 1) := by decide +kernel
theorem dX6_houseDigest_56 : decode cX6_houseDigest 56 = .ok (.bipush 9, 2) := by decide +kernel
theorem dX6_houseDigest_58 : decode cX6_houseDigest 58 = .ok (.iload_n 3, 1) := by decide +kernel
theorem dX6_houseDigest_59 : decode cX6_houseDigest 59 = .ok (.iconst 1, 1) := by decide +kernel
theorem dX6_houseDigest_60 : decode cX6_houseDigest 60 = .ok (.invokevirtual 211, 3) := by decide +kernel
theorem dX6_houseDigest_63 : decode cX6_houseDigest 63 = .ok (.i2l, 1) := by decide +kernel
theorem dX6_houseDigest_64 : decode cX6_houseDigest 64 = .ok (.ladd, 1) := by decide +kernel
theorem dX6_houseDigest_65 : decode cX6_houseDigest 65 = .ok (.lstore 4, 2) := by decide +kernel
theorem dX6_houseDigest_67 : decode cX6_houseDigest 67 = .ok (.ldc2_w 307, 3) := by decide +kernel
theorem dX6_houseDigest_70 : decode cX6_houseDigest 70 = .ok (.lload 4, 2) := by decide +kernel
theorem dX6_houseDigest_72 : decode cX6_houseDigest 72 = .ok (.lmul, 1) := by decide +kernel
theorem dX6_houseDigest_73 : decode cX6_houseDigest 73 = .ok (.aload_n 0, 1) := by decide +kernel
theorem dX6_houseDigest_74 : decode cX6_houseDigest 74 = .ok (.bipush 29, 2) := by decide +kernel
theorem dX6_houseDigest_76 : decode cX6_houseDigest 76 = .ok (.iload_n 3, 1) := by decide +kernel
theorem dX6_houseDigest_77 : decode cX6_houseDigest 77 = .ok (.iconst 0, 1) := by decide +kernel
theorem dX6_houseDigest_78 : decode cX6_houseDigest 78 = .ok (.invokevirtual 211, 3) := by decide +kernel
theorem dX6_houseDigest_81 : decode cX6_houseDigest 81 = .ok (.i2l, 1) := by decide +kernel
theorem dX6_houseDigest_82 : decode cX6_houseDigest 82 = .ok (.ladd, 1) := by decide +kernel
theorem dX6_houseDigest_83 : decode cX6_houseDigest 83 = .ok (.lstore 4, 2) := by decide +kernel
theorem dX6_houseDigest_85 : decode cX6_houseDigest 85 = .ok (.ldc2_w 307, 3) := by decide +kernel
theorem dX6_houseDigest_88 : decode cX6_houseDigest 88 = .ok (.lload 4, 2) := by decide +kernel
theorem dX6_houseDigest_90 : decode cX6_houseDigest 90 = .ok (.lmul, 1) := by decide +kernel
theorem dX6_houseDigest_91 : decode cX6_houseDigest 91 = .ok (.aload_n 0, 1) := by decide +kernel
theorem dX6_houseDigest_92 : decode cX6_houseDigest 92 = .ok (.bipush 29, 2) := by decide +kernel
theorem dX6_houseDigest_94 : decode cX6_houseDigest 94 = .ok (.iload_n 3, 1) := by decide +kernel
theorem dX6_houseDigest_95 : decode cX6_houseDigest 95 = .ok (.iconst 1, 1) := by decide +kernel
theorem dX6_houseDigest_96 : decode cX6_houseDigest 96 = .ok (.invokevirtual 211, 3) := by decide +kernel
theorem dX6_houseDigest_99 : decode cX6_houseDigest 99 = .ok (.i2l, 1) := by decide +kernel
theorem dX6_houseDigest_100 : decode cX6_houseDigest 100 = .ok (.ladd, 1) := by decide +kernel
theorem dX6_houseDigest_101 : decode cX6_houseDigest 101 = .ok (.lstore 4, 2) := by decide +kernel
theorem dX6_houseDigest_103 : decode cX6_houseDigest 103 = .ok (.ldc2_w 307, 3) := by decide +kernel
theorem dX6_houseDigest_106 : decode cX6_houseDigest 106 = .ok (.lload 4, 2) := by decide +kernel
theorem dX6_houseDigest_108 : decode cX6_houseDigest 108 = .ok (.lmul, 1) := by decide +kernel
theorem dX6_houseDigest_109 : decode cX6_houseDigest 109 = .ok (.aload_n 0, 1) := by decide +kernel
theorem dX6_houseDigest_110 : decode cX6_houseDigest 110 = .ok (.iload_n 3, 1) := by decide +kernel
theorem dX6_houseDigest_111 : decode cX6_houseDigest 111 = .ok (.iconst 0, 1) := by decide +kernel
theorem dX6_houseDigest_112 : decode cX6_houseDigest 112 = .ok (.invokevirtual 231, 3) := by decide +kernel
theorem dX6_houseDigest_115 : decode cX6_houseDigest 115 = .ok (.i2l, 1) := by decide +kernel
theorem dX6_houseDigest_116 : decode cX6_houseDigest 116 = .ok (.ladd, 1) := by decide +kernel
theorem dX6_houseDigest_117 : decode cX6_houseDigest 117 = .ok (.lstore 4, 2) := by decide +kernel
theorem dX6_houseDigest_119 : decode cX6_houseDigest 119 = .ok (.ldc2_w 307, 3) := by decide +kernel
theorem dX6_houseDigest_122 : decode cX6_houseDigest 122 = .ok (.lload 4, 2) := by decide +kernel
theorem dX6_houseDigest_124 : decode cX6_houseDigest 124 = .ok (.lmul, 1) := by decide +kernel
theorem dX6_houseDigest_125 : decode cX6_houseDigest 125 = .ok (.aload_n 0, 1) := by decide +kernel
theorem dX6_houseDigest_126 : decode cX6_houseDigest 126 = .ok (.iload_n 3, 1) := by decide +kernel
theorem dX6_houseDigest_127 : decode cX6_houseDigest 127 = .ok (.iconst 1, 1) := by decide +kernel
theorem dX6_houseDigest_128 : decode cX6_houseDigest 128 = .ok (.invokevirtual 231, 3) := by decide +kernel
theorem dX6_houseDigest_131 : decode cX6_houseDigest 131 = .ok (.i2l, 1) := by decide +kernel
theorem dX6_houseDigest_132 : decode cX6_houseDigest 132 = .ok (.ladd, 1) := by decide +kernel
theorem dX6_houseDigest_133 : decode cX6_houseDigest 133 = .ok (.lstore 4, 2) := by decide +kernel
theorem dX6_houseDigest_135 : decode cX6_houseDigest 135 = .ok (.ldc2_w 307, 3) := by decide +kernel
theorem dX6_houseDigest_138 : decode cX6_houseDigest 138 = .ok (.lload 4, 2) := by decide +kernel
theorem dX6_houseDigest_140 : decode cX6_houseDigest 140 = .ok (.lmul, 1) := by decide +kernel
theorem dX6_houseDigest_141 : decode cX6_houseDigest 141 = .ok (.aload_n 0, 1) := by decide +kernel
theorem dX6_houseDigest_142 : decode cX6_houseDigest 142 = .ok (.bipush 7, 2) := by decide +kernel
theorem dX6_houseDigest_144 : decode cX6_houseDigest 144 = .ok (.iload_n 3, 1) := by decide +kernel
theorem dX6_houseDigest_145 : decode cX6_houseDigest 145 = .ok (.invokevirtual 290, 3) := by decide +kernel
theorem dX6_houseDigest_148 : decode cX6_houseDigest 148 = .ok (.i2l, 1) := by decide +kernel
theorem dX6_houseDigest_149 : decode cX6_houseDigest 149 = .ok (.ladd, 1) := by decide +kernel
theorem dX6_houseDigest_150 : decode cX6_houseDigest 150 = .ok (.lreturn, 1) := by decide +kernel
theorem dX6_shipDigest_0 : decode cX6_shipDigest 0 = .ok (.lload_n 1, 1) := by decide +kernel
theorem dX6_shipDigest_1 : decode cX6_shipDigest 1 = .ok (.lstore 4, 2) := by decide +kernel
theorem dX6_shipDigest_3 : decode cX6_shipDigest 3 = .ok (.iconst 0, 1) := by decide +kernel
theorem dX6_shipDigest_4 : decode cX6_shipDigest 4 = .ok (.istore 6, 2) := by decide +kernel
theorem dX6_shipDigest_6 : decode cX6_shipDigest 6 = .ok (.iload 6, 2) := by decide +kernel
theorem dX6_shipDigest_8 : decode cX6_shipDigest 8 = .ok (.iconst 4, 1) := by decide +kernel
theorem dX6_shipDigest_9 : decode cX6_shipDigest 9 = .ok (.if_icmp .ge 26, 3) := by decide +kernel
theorem dX6_shipDigest_12 : decode cX6_shipDigest 12 = .ok (.ldc2_w 307, 3) := by decide +kernel
theorem dX6_shipDigest_15 : decode cX6_shipDigest 15 = .ok (.lload 4, 2) := by decide +kernel
theorem dX6_shipDigest_17 : decode cX6_shipDigest 17 = .ok (.lmul, 1) := by decide +kernel
theorem dX6_shipDigest_18 : decode cX6_shipDigest 18 = .ok (.aload_n 0, 1) := by decide +kernel
theorem dX6_shipDigest_19 : decode cX6_shipDigest 19 = .ok (.iload_n 3, 1) := by decide +kernel
theorem dX6_shipDigest_20 : decode cX6_shipDigest 20 = .ok (.iload 6, 2) := by decide +kernel
theorem dX6_shipDigest_22 : decode cX6_shipDigest 22 = .ok (.invokevirtual 167, 3) := by decide +kernel
theorem dX6_shipDigest_25 : decode cX6_shipDigest 25 = .ok (.i2l, 1) := by decide +kernel
theorem dX6_shipDigest_26 : decode cX6_shipDigest 26 = .ok (.ladd, 1) := by decide +kernel
theorem dX6_shipDigest_27 : decode cX6_shipDigest 27 = .ok (.lstore 4, 2) := by decide +kernel
theorem dX6_shipDigest_29 : decode cX6_shipDigest 29 = .ok (.iinc 6 1, 3) := by decide +kernel
theorem dX6_shipDigest_32 : decode cX6_shipDigest 32 = .ok (.goto (-26), 3) := by decide +kernel
theorem dX6_shipDigest_35 : decode cX6_shipDigest 35 = .ok (.iconst 0, 1) := by decide +kernel
theorem dX6_shipDigest_36 : decode cX6_shipDigest 36 = .ok (.istore 6, 2) := by decide +kernel
theorem dX6_shipDigest_38 : decode cX6_shipDigest 38 = .ok (.iload 6, 2) := by decide +kernel
theorem dX6_shipDigest_40 : decode cX6_shipDigest 40 = .ok (.iconst 5, 1) := by decide +kernel
theorem dX6_shipDigest_41 : decode cX6_shipDigest 41 = .ok (.if_icmp .ge 26, 3) := by decide +kernel
theorem dX6_shipDigest_44 : decode cX6_shipDigest 44 = .ok (.ldc2_w 307, 3) := by decide +kernel
theorem dX6_shipDigest_47 : decode cX6_shipDigest 47 = .ok (.lload 4, 2) := by decide +kernel
theorem dX6_shipDigest_49 : decode cX6_shipDigest 49 = .ok (.lmul, 1) := by decide +kernel
theorem dX6_shipDigest_50 : decode cX6_shipDigest 50 = .ok (.aload_n 0, 1) := by decide +kernel
theorem dX6_shipDigest_51 : decode cX6_shipDigest 51 = .ok (.iload_n 3, 1) := by decide +kernel
theorem dX6_shipDigest_52 : decode cX6_shipDigest 52 = .ok (.iload 6, 2) := by decide +kernel
theorem dX6_shipDigest_54 : decode cX6_shipDigest 54 = .ok (.invokevirtual 221, 3) := by decide +kernel
theorem dX6_shipDigest_57 : decode cX6_shipDigest 57 = .ok (.i2l, 1) := by decide +kernel
theorem dX6_shipDigest_58 : decode cX6_shipDigest 58 = .ok (.ladd, 1) := by decide +kernel
theorem dX6_shipDigest_59 : decode cX6_shipDigest 59 = .ok (.lstore 4, 2) := by decide +kernel
theorem dX6_shipDigest_61 : decode cX6_shipDigest 61 = .ok (.iinc 6 1, 3) := by decide +kernel
theorem dX6_shipDigest_64 : decode cX6_shipDigest 64 = .ok (.goto (-26), 3) := by decide +kernel
theorem dX6_shipDigest_67 : decode cX6_shipDigest 67 = .ok (.ldc2_w 307, 3) := by decide +kernel
theorem dX6_shipDigest_70 : decode cX6_shipDigest 70 = .ok (.lload 4, 2) := by decide +kernel
theorem dX6_shipDigest_72 : decode cX6_shipDigest 72 = .ok (.lmul, 1) := by decide +kernel
theorem dX6_shipDigest_73 : decode cX6_shipDigest 73 = .ok (.aload_n 0, 1) := by decide +kernel
theorem dX6_shipDigest_74 : decode cX6_shipDigest 74 = .ok (.iload_n 3, 1) := by decide +kernel
theorem dX6_shipDigest_75 : decode cX6_shipDigest 75 = .ok (.invokevirtual 237, 3) := by decide +kernel
theorem dX6_shipDigest_78 : decode cX6_shipDigest 78 = .ok (.i2l, 1) := by decide +kernel
theorem dX6_shipDigest_79 : decode cX6_shipDigest 79 = .ok (.ladd, 1) := by decide +kernel
theorem dX6_shipDigest_80 : decode cX6_shipDigest 80 = .ok (.lreturn, 1) := by decide +kernel
theorem dX6_digest_0 : decode cX6_digest 0 = .ok (.ldc2_w 309, 3) := by decide +kernel
theorem dX6_digest_3 : decode cX6_digest 3 = .ok (.lstore_n 1, 1) := by decide +kernel
theorem dX6_digest_4 : decode cX6_digest 4 = .ok (.iconst 0, 1) := by decide +kernel
theorem dX6_digest_5 : decode cX6_digest 5 = .ok (.istore_n 3, 1) := by decide +kernel
theorem dX6_digest_6 : decode cX6_digest 6 = .ok (.iload_n 3, 1) := by decide +kernel
theorem dX6_digest_7 : decode cX6_digest 7 = .ok (.bipush 8, 2) := by decide +kernel
theorem dX6_digest_9 : decode cX6_digest 9 = .ok (.if_icmp .ge 22, 3) := by decide +kernel
theorem dX6_digest_12 : decode cX6_digest 12 = .ok (.ldc2_w 307, 3) := by decide +kernel
theorem dX6_digest_15 : decode cX6_digest 15 = .ok (.lload_n 1, 1) := by decide +kernel
theorem dX6_digest_16 : decode cX6_digest 16 = .ok (.lmul, 1) := by decide +kernel
theorem dX6_digest_17 : decode cX6_digest 17 = .ok (.aload_n 0, 1) := by decide +kernel
theorem dX6_digest_18 : decode cX6_digest 18 = .ok (.iload_n 3, 1) := by decide +kernel
theorem dX6_digest_19 : decode cX6_digest 19 = .ok (.invokevirtual 311, 3) := by decide +kernel
theorem dX6_digest_22 : decode cX6_digest 22 = .ok (.i2l, 1) := by decide +kernel
theorem dX6_digest_23 : decode cX6_digest 23 = .ok (.ladd, 1) := by decide +kernel
theorem dX6_digest_24 : decode cX6_digest 24 = .ok (.lstore_n 1, 1) := by decide +kernel
theorem dX6_digest_25 : decode cX6_digest 25 = .ok (.iinc 3 1, 3) := by decide +kernel
theorem dX6_digest_28 : decode cX6_digest 28 = .ok (.goto (-22), 3) := by decide +kernel
theorem dX6_digest_31 : decode cX6_digest 31 = .ok (.iconst 0, 1) := by decide +kernel
theorem dX6_digest_32 : decode cX6_digest 32 = .ok (.istore_n 3, 1) := by decide +kernel
theorem dX6_digest_33 : decode cX6_digest 33 = .ok (.iload_n 3, 1) := by decide +kernel
theorem dX6_digest_34 : decode cX6_digest 34 = .ok (.iconst 3, 1) := by decide +kernel
theorem dX6_digest_35 : decode cX6_digest 35 = .ok (.if_icmp .ge 22, 3) := by decide +kernel
theorem dX6_digest_38 : decode cX6_digest 38 = .ok (.ldc2_w 307, 3) := by decide +kernel
theorem dX6_digest_41 : decode cX6_digest 41 = .ok (.lload_n 1, 1) := by decide +kernel
theorem dX6_digest_42 : decode cX6_digest 42 = .ok (.lmul, 1) := by decide +kernel
theorem dX6_digest_43 : decode cX6_digest 43 = .ok (.aload_n 0, 1) := by decide +kernel
theorem dX6_digest_44 : decode cX6_digest 44 = .ok (.iload_n 3, 1) := by decide +kernel
theorem dX6_digest_45 : decode cX6_digest 45 = .ok (.invokevirtual 149, 3) := by decide +kernel
theorem dX6_digest_48 : decode cX6_digest 48 = .ok (.i2l, 1) := by decide +kernel
theorem dX6_digest_49 : decode cX6_digest 49 = .ok (.ladd, 1) := by decide +kernel
theorem dX6_digest_50 : decode cX6_digest 50 = .ok (.lstore_n 1, 1) := by decide +kernel
theorem dX6_digest_51 : decode cX6_digest 51 = .ok (.iinc 3 1, 3) := by decide +kernel
theorem dX6_digest_54 : decode cX6_digest 54 = .ok (.goto (-21), 3) := by decide +kernel
theorem dX6_digest_57 : decode cX6_digest 57 = .ok (.iconst 0, 1) := by decide +kernel
theorem dX6_digest_58 : decode cX6_digest 58 = .ok (.istore_n 3, 1) := by decide +kernel
theorem dX6_digest_59 : decode cX6_digest 59 = .ok (.iload_n 3, 1) := by decide +kernel
theorem dX6_digest_60 : decode cX6_digest 60 = .ok (.aload_n 0, 1) := by decide +kernel
theorem dX6_digest_61 : decode cX6_digest 61 = .ok (.getfield 123, 3) := by decide +kernel
theorem dX6_digest_64 : decode cX6_digest 64 = .ok (.if_icmp .ge 16, 3) := by decide +kernel
theorem dX6_digest_67 : decode cX6_digest 67 = .ok (.aload_n 0, 1) := by decide +kernel
theorem dX6_digest_68 : decode cX6_digest 68 = .ok (.lload_n 1, 1) := by decide +kernel
theorem dX6_digest_69 : decode cX6_digest 69 = .ok (.iload_n 3, 1) := by decide +kernel
theorem dX6_digest_70 : decode cX6_digest 70 = .ok (.invokevirtual 314, 3) := by decide +kernel
theorem dX6_digest_73 : decode cX6_digest 73 = .ok (.lstore_n 1, 1) := by decide +kernel
theorem dX6_digest_74 : decode cX6_digest 74 = .ok (.iinc 3 1, 3) := by decide +kernel
theorem dX6_digest_77 : decode cX6_digest 77 = .ok (.goto (-18), 3) := by decide +kernel
theorem dX6_digest_80 : decode cX6_digest 80 = .ok (.iconst 0, 1) := by decide +kernel
theorem dX6_digest_81 : decode cX6_digest 81 = .ok (.istore_n 3, 1) := by decide +kernel
theorem dX6_digest_82 : decode cX6_digest 82 = .ok (.iload_n 3, 1) := by decide +kernel
theorem dX6_digest_83 : decode cX6_digest 83 = .ok (.aload_n 0, 1) := by decide +kernel
theorem dX6_digest_84 : decode cX6_digest 84 = .ok (.getfield 126, 3) := by decide +kernel
theorem dX6_digest_87 : decode cX6_digest 87 = .ok (.if_icmp .ge 16, 3) := by decide +kernel
theorem dX6_digest_90 : decode cX6_digest 90 = .ok (.aload_n 0, 1) := by decide +kernel
theorem dX6_digest_91 : decode cX6_digest 91 = .ok (.lload_n 1, 1) := by decide +kernel
theorem dX6_digest_92 : decode cX6_digest 92 = .ok (.iload_n 3, 1) := by decide +kernel
theorem dX6_digest_93 : decode cX6_digest 93 = .ok (.invokevirtual 318, 3) := by decide +kernel
theorem dX6_digest_96 : decode cX6_digest 96 = .ok (.lstore_n 1, 1) := by decide +kernel
theorem dX6_digest_97 : decode cX6_digest 97 = .ok (.iinc 3 1, 3) := by decide +kernel
theorem dX6_digest_100 : decode cX6_digest 100 = .ok (.goto (-18), 3) := by decide +kernel
theorem dX6_digest_103 : decode cX6_digest 103 = .ok (.iconst 0, 1) := by decide +kernel
theorem dX6_digest_104 : decode cX6_digest 104 = .ok (.istore_n 3, 1) := by decide +kernel
theorem dX6_digest_105 : decode cX6_digest 105 = .ok (.iload_n 3, 1) := by decide +kernel
theorem dX6_digest_106 : decode cX6_digest 106 = .ok (.aload_n 0, 1) := by decide +kernel
theorem dX6_digest_107 : decode cX6_digest 107 = .ok (.getfield 129, 3) := by decide +kernel
theorem dX6_digest_110 : decode cX6_digest 110 = .ok (.if_icmp .ge 16, 3) := by decide +kernel
theorem dX6_digest_113 : decode cX6_digest 113 = .ok (.aload_n 0, 1) := by decide +kernel
theorem dX6_digest_114 : decode cX6_digest 114 = .ok (.lload_n 1, 1) := by decide +kernel
theorem dX6_digest_115 : decode cX6_digest 115 = .ok (.iload_n 3, 1) := by decide +kernel
theorem dX6_digest_116 : decode cX6_digest 116 = .ok (.invokevirtual 321, 3) := by decide +kernel
theorem dX6_digest_119 : decode cX6_digest 119 = .ok (.lstore_n 1, 1) := by decide +kernel
theorem dX6_digest_120 : decode cX6_digest 120 = .ok (.iinc 3 1, 3) := by decide +kernel
theorem dX6_digest_123 : decode cX6_digest 123 = .ok (.goto (-18), 3) := by decide +kernel
theorem dX6_digest_126 : decode cX6_digest 126 = .ok (.ldc2_w 307, 3) := by decide +kernel
theorem dX6_digest_129 : decode cX6_digest 129 = .ok (.lload_n 1, 1) := by decide +kernel
theorem dX6_digest_130 : decode cX6_digest 130 = .ok (.lmul, 1) := by decide +kernel
theorem dX6_digest_131 : decode cX6_digest 131 = .ok (.aload_n 0, 1) := by decide +kernel
theorem dX6_digest_132 : decode cX6_digest 132 = .ok (.bipush 9, 2) := by decide +kernel
theorem dX6_digest_134 : decode cX6_digest 134 = .ok (.invokevirtual 224, 3) := by decide +kernel
theorem dX6_digest_137 : decode cX6_digest 137 = .ok (.i2l, 1) := by decide +kernel
theorem dX6_digest_138 : decode cX6_digest 138 = .ok (.ladd, 1) := by decide +kernel
theorem dX6_digest_139 : decode cX6_digest 139 = .ok (.lstore_n 1, 1) := by decide +kernel
theorem dX6_digest_140 : decode cX6_digest 140 = .ok (.ldc2_w 307, 3) := by decide +kernel
theorem dX6_digest_143 : decode cX6_digest 143 = .ok (.lload_n 1, 1) := by decide +kernel
theorem dX6_digest_144 : decode cX6_digest 144 = .ok (.lmul, 1) := by decide +kernel
theorem dX6_digest_145 : decode cX6_digest 145 = .ok (.aload_n 0, 1) := by decide +kernel
theorem dX6_digest_146 : decode cX6_digest 146 = .ok (.bipush 29, 2) := by decide +kernel
theorem dX6_digest_148 : decode cX6_digest 148 = .ok (.invokevirtual 224, 3) := by decide +kernel
theorem dX6_digest_151 : decode cX6_digest 151 = .ok (.i2l, 1) := by decide +kernel
theorem dX6_digest_152 : decode cX6_digest 152 = .ok (.ladd, 1) := by decide +kernel
theorem dX6_digest_153 : decode cX6_digest 153 = .ok (.lstore_n 1, 1) := by decide +kernel
theorem dX6_digest_154 : decode cX6_digest 154 = .ok (.ldc2_w 307, 3) := by decide +kernel
theorem dX6_digest_157 : decode cX6_digest 157 = .ok (.lload_n 1, 1) := by decide +kernel
theorem dX6_digest_158 : decode cX6_digest 158 = .ok (.lmul, 1) := by decide +kernel
theorem dX6_digest_159 : decode cX6_digest 159 = .ok (.aload_n 0, 1) := by decide +kernel
theorem dX6_digest_160 : decode cX6_digest 160 = .ok (.invokevirtual 227, 3) := by decide +kernel
theorem dX6_digest_163 : decode cX6_digest 163 = .ok (.i2l, 1) := by decide +kernel
theorem dX6_digest_164 : decode cX6_digest 164 = .ok (.ladd, 1) := by decide +kernel
theorem dX6_digest_165 : decode cX6_digest 165 = .ok (.lstore_n 1, 1) := by decide +kernel
theorem dX6_digest_166 : decode cX6_digest 166 = .ok (.ldc2_w 307, 3) := by decide +kernel
theorem dX6_digest_169 : decode cX6_digest 169 = .ok (.lload_n 1, 1) := by decide +kernel
theorem dX6_digest_170 : decode cX6_digest 170 = .ok (.lmul, 1) := by decide +kernel
theorem dX6_digest_171 : decode cX6_digest 171 = .ok (.aload_n 0, 1) := by decide +kernel
theorem dX6_digest_172 : decode cX6_digest 172 = .ok (.invokevirtual 265, 3) := by decide +kernel
theorem dX6_digest_175 : decode cX6_digest 175 = .ok (.i2l, 1) := by decide +kernel
theorem dX6_digest_176 : decode cX6_digest 176 = .ok (.ladd, 1) := by decide +kernel
theorem dX6_digest_177 : decode cX6_digest 177 = .ok (.lstore_n 1, 1) := by decide +kernel
theorem dX6_digest_178 : decode cX6_digest 178 = .ok (.ldc2_w 307, 3) := by decide +kernel
theorem dX6_digest_181 : decode cX6_digest 181 = .ok (.lload_n 1, 1) := by decide +kernel
theorem dX6_digest_182 : decode cX6_digest 182 = .ok (.lmul, 1) := by decide +kernel
theorem dX6_digest_183 : decode cX6_digest 183 = .ok (.aload_n 0, 1) := by decide +kernel
theorem dX6_digest_184 : decode cX6_digest 184 = .ok (.bipush 9, 2) := by decide +kernel
theorem dX6_digest_186 : decode cX6_digest 186 = .ok (.invokevirtual 271, 3) := by decide +kernel
theorem dX6_digest_189 : decode cX6_digest 189 = .ok (.i2l, 1) := by decide +kernel
theorem dX6_digest_190 : decode cX6_digest 190 = .ok (.ladd, 1) := by decide +kernel
theorem dX6_digest_191 : decode cX6_digest 191 = .ok (.lstore_n 1, 1) := by decide +kernel
theorem dX6_digest_192 : decode cX6_digest 192 = .ok (.ldc2_w 307, 3) := by decide +kernel
theorem dX6_digest_195 : decode cX6_digest 195 = .ok (.lload_n 1, 1) := by decide +kernel
theorem dX6_digest_196 : decode cX6_digest 196 = .ok (.lmul, 1) := by decide +kernel
theorem dX6_digest_197 : decode cX6_digest 197 = .ok (.aload_n 0, 1) := by decide +kernel
theorem dX6_digest_198 : decode cX6_digest 198 = .ok (.bipush 29, 2) := by decide +kernel
theorem dX6_digest_200 : decode cX6_digest 200 = .ok (.invokevirtual 271, 3) := by decide +kernel
theorem dX6_digest_203 : decode cX6_digest 203 = .ok (.i2l, 1) := by decide +kernel
theorem dX6_digest_204 : decode cX6_digest 204 = .ok (.ladd, 1) := by decide +kernel
theorem dX6_digest_205 : decode cX6_digest 205 = .ok (.lstore_n 1, 1) := by decide +kernel
theorem dX6_digest_206 : decode cX6_digest 206 = .ok (.ldc2_w 307, 3) := by decide +kernel
theorem dX6_digest_209 : decode cX6_digest 209 = .ok (.lload_n 1, 1) := by decide +kernel
theorem dX6_digest_210 : decode cX6_digest 210 = .ok (.lmul, 1) := by decide +kernel
theorem dX6_digest_211 : decode cX6_digest 211 = .ok (.aload_n 0, 1) := by decide +kernel
theorem dX6_digest_212 : decode cX6_digest 212 = .ok (.bipush 7, 2) := by decide +kernel
theorem dX6_digest_214 : decode cX6_digest 214 = .ok (.iconst (-1), 1) := by decide +kernel
theorem dX6_digest_215 : decode cX6_digest 215 = .ok (.invokevirtual 290, 3) := by decide +kernel
theorem dX6_digest_218 : decode cX6_digest 218 = .ok (.i2l, 1) := by decide +kernel
theorem dX6_digest_219 : decode cX6_digest 219 = .ok (.ladd, 1) := by decide +kernel
theorem dX6_digest_220 : decode cX6_digest 220 = .ok (.lreturn, 1) := by decide +kernel
