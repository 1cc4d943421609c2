theorem d_Mo_init_0 : decode prog_11_method_1_code 0 = .ok (.aload_n 0, 1) := by decide +kernel
theorem d_Mo_init_1 : decode prog_11_method_1_code 1 = .ok (.invokespecial 1, 3) := by decide +kernel
theorem d_Mo_init_4 : decode prog_11_method_1_code 4 = .ok (.aload_n 0, 1) := by decide +kernel
theorem d_Mo_init_5 : decode prog_11_method_1_code 5 = .ok (.bipush 9, 2) := by decide +kernel
theorem d_Mo_init_7 : decode prog_11_method_1_code 7 = .ok (.newarray .int, 2) := by decide +kernel
theorem d_Mo_init_9 : decode prog_11_method_1_code 9 = .ok (.putfield 7, 3) := by decide +kernel
theorem d_Mo_init_12 : decode prog_11_method_1_code 12 = .ok (.aload_n 0, 1) := by decide +kernel
theorem d_Mo_init_13 : decode prog_11_method_1_code 13 = .ok (.bipush 9, 2) := by decide +kernel
theorem d_Mo_init_15 : decode prog_11_method_1_code 15 = .ok (.newarray .int, 2) := by decide +kernel
theorem d_Mo_init_17 : decode prog_11_method_1_code 17 = .ok (.putfield 13, 3) := by decide +kernel
theorem d_Mo_init_20 : decode prog_11_method_1_code 20 = .ok (.aload_n 0, 1) := by decide +kernel
theorem d_Mo_init_21 : decode prog_11_method_1_code 21 = .ok (.bipush 54, 2) := by decide +kernel
theorem d_Mo_init_23 : decode prog_11_method_1_code 23 = .ok (.newarray .int, 2) := by decide +kernel
theorem d_Mo_init_25 : decode prog_11_method_1_code 25 = .ok (.putfield 16, 3) := by decide +kernel
theorem d_Mo_init_28 : decode prog_11_method_1_code 28 = .ok (.aload_n 0, 1) := by decide +kernel
theorem d_Mo_init_29 : decode prog_11_method_1_code 29 = .ok (.bipush 54, 2) := by decide +kernel
theorem d_Mo_init_31 : decode prog_11_method_1_code 31 = .ok (.newarray .int, 2) := by decide +kernel
theorem d_Mo_init_33 : decode prog_11_method_1_code 33 = .ok (.putfield 19, 3) := by decide +kernel
theorem d_Mo_init_36 : decode prog_11_method_1_code 36 = .ok (.aload_n 0, 1) := by decide +kernel
theorem d_Mo_init_37 : decode prog_11_method_1_code 37 = .ok (.bipush 54, 2) := by decide +kernel
theorem d_Mo_init_39 : decode prog_11_method_1_code 39 = .ok (.newarray .int, 2) := by decide +kernel
theorem d_Mo_init_41 : decode prog_11_method_1_code 41 = .ok (.putfield 22, 3) := by decide +kernel
theorem d_Mo_init_44 : decode prog_11_method_1_code 44 = .ok (.aload_n 0, 1) := by decide +kernel
theorem d_Mo_init_45 : decode prog_11_method_1_code 45 = .ok (.bipush 37, 2) := by decide +kernel
theorem d_Mo_init_47 : decode prog_11_method_1_code 47 = .ok (.newarray .long, 2) := by decide +kernel
theorem d_Mo_init_49 : decode prog_11_method_1_code 49 = .ok (.putfield 25, 3) := by decide +kernel
theorem d_Mo_init_52 : decode prog_11_method_1_code 52 = .ok (.aload_n 0, 1) := by decide +kernel
theorem d_Mo_init_53 : decode prog_11_method_1_code 53 = .ok (.bipush 37, 2) := by decide +kernel
theorem d_Mo_init_55 : decode prog_11_method_1_code 55 = .ok (.newarray .long, 2) := by decide +kernel
theorem d_Mo_init_57 : decode prog_11_method_1_code 57 = .ok (.putfield 29, 3) := by decide +kernel
theorem d_Mo_init_60 : decode prog_11_method_1_code 60 = .ok (.aload_n 0, 1) := by decide +kernel
theorem d_Mo_init_61 : decode prog_11_method_1_code 61 = .ok (.bipush 10, 2) := by decide +kernel
theorem d_Mo_init_63 : decode prog_11_method_1_code 63 = .ok (.newarray .int, 2) := by decide +kernel
theorem d_Mo_init_65 : decode prog_11_method_1_code 65 = .ok (.putfield 32, 3) := by decide +kernel
theorem d_Mo_init_68 : decode prog_11_method_1_code 68 = .ok (.aload_n 0, 1) := by decide +kernel
theorem d_Mo_init_69 : decode prog_11_method_1_code 69 = .ok (.bipush 10, 2) := by decide +kernel
theorem d_Mo_init_71 : decode prog_11_method_1_code 71 = .ok (.newarray .int, 2) := by decide +kernel
theorem d_Mo_init_73 : decode prog_11_method_1_code 73 = .ok (.putfield 35, 3) := by decide +kernel
theorem d_Mo_init_76 : decode prog_11_method_1_code 76 = .ok (.aload_n 0, 1) := by decide +kernel
theorem d_Mo_init_77 : decode prog_11_method_1_code 77 = .ok (.bipush 10, 2) := by decide +kernel
theorem d_Mo_init_79 : decode prog_11_method_1_code 79 = .ok (.newarray .int, 2) := by decide +kernel
theorem d_Mo_init_81 : decode prog_11_method_1_code 81 = .ok (.putfield 38, 3) := by decide +kernel
theorem d_Mo_init_84 : decode prog_11_method_1_code 84 = .ok (.aload_n 0, 1) := by decide +kernel
theorem d_Mo_init_85 : decode prog_11_method_1_code 85 = .ok (.bipush 10, 2) := by decide +kernel
theorem d_Mo_init_87 : decode prog_11_method_1_code 87 = .ok (.newarray .int, 2) := by decide +kernel
theorem d_Mo_init_89 : decode prog_11_method_1_code 89 = .ok (.putfield 41, 3) := by decide +kernel
theorem d_Mo_init_92 : decode prog_11_method_1_code 92 = .ok (.aload_n 0, 1) := by decide +kernel
theorem d_Mo_init_93 : decode prog_11_method_1_code 93 = .ok (.ldc 44, 2) := by decide +kernel
theorem d_Mo_init_95 : decode prog_11_method_1_code 95 = .ok (.newarray .long, 2) := by decide +kernel
theorem d_Mo_init_97 : decode prog_11_method_1_code 97 = .ok (.putfield 45, 3) := by decide +kernel
theorem d_Mo_init_100 : decode prog_11_method_1_code 100 = .ok (.aload_n 0, 1) := by decide +kernel
theorem d_Mo_init_101 : decode prog_11_method_1_code 101 = .ok (.bipush 24, 2) := by decide +kernel
theorem d_Mo_init_103 : decode prog_11_method_1_code 103 = .ok (.newarray .int, 2) := by decide +kernel
theorem d_Mo_init_105 : decode prog_11_method_1_code 105 = .ok (.putfield 48, 3) := by decide +kernel
theorem d_Mo_init_108 : decode prog_11_method_1_code 108 = .ok (.aload_n 0, 1) := by decide +kernel
theorem d_Mo_init_109 : decode prog_11_method_1_code 109 = .ok (.bipush 35, 2) := by decide +kernel
theorem d_Mo_init_111 : decode prog_11_method_1_code 111 = .ok (.newarray .boolean, 2) := by decide +kernel
theorem d_Mo_init_113 : decode prog_11_method_1_code 113 = .ok (.putfield 51, 3) := by decide +kernel
theorem d_Mo_init_116 : decode prog_11_method_1_code 116 = .ok (.aload_n 0, 1) := by decide +kernel
theorem d_Mo_init_117 : decode prog_11_method_1_code 117 = .ok (.bipush 35, 2) := by decide +kernel
theorem d_Mo_init_119 : decode prog_11_method_1_code 119 = .ok (.newarray .long, 2) := by decide +kernel
theorem d_Mo_init_121 : decode prog_11_method_1_code 121 = .ok (.putfield 55, 3) := by decide +kernel
theorem d_Mo_init_124 : decode prog_11_method_1_code 124 = .ok (.aload_n 0, 1) := by decide +kernel
theorem d_Mo_init_125 : decode prog_11_method_1_code 125 = .ok (.bipush 35, 2) := by decide +kernel
theorem d_Mo_init_127 : decode prog_11_method_1_code 127 = .ok (.newarray .long, 2) := by decide +kernel
theorem d_Mo_init_129 : decode prog_11_method_1_code 129 = .ok (.putfield 58, 3) := by decide +kernel
theorem d_Mo_init_132 : decode prog_11_method_1_code 132 = .ok (.aload_n 0, 1) := by decide +kernel
theorem d_Mo_init_133 : decode prog_11_method_1_code 133 = .ok (.bipush 35, 2) := by decide +kernel
theorem d_Mo_init_135 : decode prog_11_method_1_code 135 = .ok (.newarray .int, 2) := by decide +kernel
theorem d_Mo_init_137 : decode prog_11_method_1_code 137 = .ok (.putfield 61, 3) := by decide +kernel
theorem d_Mo_init_140 : decode prog_11_method_1_code 140 = .ok (.aload_n 0, 1) := by decide +kernel
theorem d_Mo_init_141 : decode prog_11_method_1_code 141 = .ok (.sipush 1295, 3) := by decide +kernel
theorem d_Mo_init_144 : decode prog_11_method_1_code 144 = .ok (.newarray .long, 2) := by decide +kernel
theorem d_Mo_init_146 : decode prog_11_method_1_code 146 = .ok (.putfield 64, 3) := by decide +kernel
theorem d_Mo_init_149 : decode prog_11_method_1_code 149 = .ok (.aload_n 0, 1) := by decide +kernel
theorem d_Mo_init_150 : decode prog_11_method_1_code 150 = .ok (.bipush 80, 2) := by decide +kernel
theorem d_Mo_init_152 : decode prog_11_method_1_code 152 = .ok (.newarray .int, 2) := by decide +kernel
theorem d_Mo_init_154 : decode prog_11_method_1_code 154 = .ok (.putfield 67, 3) := by decide +kernel
theorem d_Mo_init_157 : decode prog_11_method_1_code 157 = .ok (.aload_n 0, 1) := by decide +kernel
theorem d_Mo_init_158 : decode prog_11_method_1_code 158 = .ok (.bipush 12, 2) := by decide +kernel
theorem d_Mo_init_160 : decode prog_11_method_1_code 160 = .ok (.newarray .int, 2) := by decide +kernel
theorem d_Mo_init_162 : decode prog_11_method_1_code 162 = .ok (.putfield 70, 3) := by decide +kernel
theorem d_Mo_init_165 : decode prog_11_method_1_code 165 = .ok (.aload_n 0, 1) := by decide +kernel
theorem d_Mo_init_166 : decode prog_11_method_1_code 166 = .ok (.bipush 12, 2) := by decide +kernel
theorem d_Mo_init_168 : decode prog_11_method_1_code 168 = .ok (.newarray .int, 2) := by decide +kernel
theorem d_Mo_init_170 : decode prog_11_method_1_code 170 = .ok (.putfield 73, 3) := by decide +kernel
theorem d_Mo_init_173 : decode prog_11_method_1_code 173 = .ok (.aload_n 0, 1) := by decide +kernel
theorem d_Mo_init_174 : decode prog_11_method_1_code 174 = .ok (.bipush 100, 2) := by decide +kernel
theorem d_Mo_init_176 : decode prog_11_method_1_code 176 = .ok (.newarray .int, 2) := by decide +kernel
theorem d_Mo_init_178 : decode prog_11_method_1_code 178 = .ok (.putfield 76, 3) := by decide +kernel
theorem d_Mo_init_181 : decode prog_11_method_1_code 181 = .ok (.aload_n 0, 1) := by decide +kernel
theorem d_Mo_init_182 : decode prog_11_method_1_code 182 = .ok (.bipush 100, 2) := by decide +kernel
theorem d_Mo_init_184 : decode prog_11_method_1_code 184 = .ok (.newarray .int, 2) := by decide +kernel
theorem d_Mo_init_186 : decode prog_11_method_1_code 186 = .ok (.putfield 79, 3) := by decide +kernel
theorem d_Mo_init_189 : decode prog_11_method_1_code 189 = .ok (.aload_n 0, 1) := by decide +kernel
theorem d_Mo_init_190 : decode prog_11_method_1_code 190 = .ok (.sipush 1200, 3) := by decide +kernel
theorem d_Mo_init_193 : decode prog_11_method_1_code 193 = .ok (.newarray .int, 2) := by decide +kernel
theorem d_Mo_init_195 : decode prog_11_method_1_code 195 = .ok (.putfield 82, 3) := by decide +kernel
theorem d_Mo_init_198 : decode prog_11_method_1_code 198 = .ok (.aload_n 0, 1) := by decide +kernel
theorem d_Mo_init_199 : decode prog_11_method_1_code 199 = .ok (.sipush 1100, 3) := by decide +kernel
theorem d_Mo_init_202 : decode prog_11_method_1_code 202 = .ok (.newarray .long, 2) := by decide +kernel
theorem d_Mo_init_204 : decode prog_11_method_1_code 204 = .ok (.putfield 85, 3) := by decide +kernel
theorem d_Mo_init_207 : decode prog_11_method_1_code 207 = .ok (.aload_n 0, 1) := by decide +kernel
theorem d_Mo_init_208 : decode prog_11_method_1_code 208 = .ok (.bipush 12, 2) := by decide +kernel
theorem d_Mo_init_210 : decode prog_11_method_1_code 210 = .ok (.newarray .int, 2) := by decide +kernel
theorem d_Mo_init_212 : decode prog_11_method_1_code 212 = .ok (.putfield 88, 3) := by decide +kernel
theorem d_Mo_init_215 : decode prog_11_method_1_code 215 = .ok (.aload_n 0, 1) := by decide +kernel
theorem d_Mo_init_216 : decode prog_11_method_1_code 216 = .ok (.bipush 8, 2) := by decide +kernel
theorem d_Mo_init_218 : decode prog_11_method_1_code 218 = .ok (.newarray .long, 2) := by decide +kernel
theorem d_Mo_init_220 : decode prog_11_method_1_code 220 = .ok (.putfield 91, 3) := by decide +kernel
theorem d_Mo_init_223 : decode prog_11_method_1_code 223 = .ok (.aload_n 0, 1) := by decide +kernel
theorem d_Mo_init_224 : decode prog_11_method_1_code 224 = .ok (.iconst 4, 1) := by decide +kernel
theorem d_Mo_init_225 : decode prog_11_method_1_code 225 = .ok (.newarray .int, 2) := by decide +kernel
theorem d_Mo_init_227 : decode prog_11_method_1_code 227 = .ok (.dup, 1) := by decide +kernel
theorem d_Mo_init_228 : decode prog_11_method_1_code 228 = .ok (.iconst 0, 1) := by decide +kernel
theorem d_Mo_init_229 : decode prog_11_method_1_code 229 = .ok (.bipush (-4), 2) := by decide +kernel
theorem d_Mo_init_231 : decode prog_11_method_1_code 231 = .ok (.iastore, 1) := by decide +kernel
theorem d_Mo_init_232 : decode prog_11_method_1_code 232 = .ok (.dup, 1) := by decide +kernel
theorem d_Mo_init_233 : decode prog_11_method_1_code 233 = .ok (.iconst 1, 1) := by decide +kernel
theorem d_Mo_init_234 : decode prog_11_method_1_code 234 = .ok (.bipush (-4), 2) := by decide +kernel
theorem d_Mo_init_236 : decode prog_11_method_1_code 236 = .ok (.iastore, 1) := by decide +kernel
theorem d_Mo_init_237 : decode prog_11_method_1_code 237 = .ok (.dup, 1) := by decide +kernel
theorem d_Mo_init_238 : decode prog_11_method_1_code 238 = .ok (.iconst 2, 1) := by decide +kernel
theorem d_Mo_init_239 : decode prog_11_method_1_code 239 = .ok (.bipush (-4), 2) := by decide +kernel
theorem d_Mo_init_241 : decode prog_11_method_1_code 241 = .ok (.iastore, 1) := by decide +kernel
theorem d_Mo_init_242 : decode prog_11_method_1_code 242 = .ok (.dup, 1) := by decide +kernel
theorem d_Mo_init_243 : decode prog_11_method_1_code 243 = .ok (.iconst 3, 1) := by decide +kernel
theorem d_Mo_init_244 : decode prog_11_method_1_code 244 = .ok (.bipush (-4), 2) := by decide +kernel
theorem d_Mo_init_246 : decode prog_11_method_1_code 246 = .ok (.iastore, 1) := by decide +kernel
theorem d_Mo_init_247 : decode prog_11_method_1_code 247 = .ok (.putfield 94, 3) := by decide +kernel
theorem d_Mo_init_250 : decode prog_11_method_1_code 250 = .ok (.aload_n 0, 1) := by decide +kernel
theorem d_Mo_init_251 : decode prog_11_method_1_code 251 = .ok (.iconst 4, 1) := by decide +kernel
theorem d_Mo_init_252 : decode prog_11_method_1_code 252 = .ok (.newarray .int, 2) := by decide +kernel
theorem d_Mo_init_254 : decode prog_11_method_1_code 254 = .ok (.putfield 97, 3) := by decide +kernel
theorem d_Mo_init_257 : decode prog_11_method_1_code 257 = .ok (.aload_n 0, 1) := by decide +kernel
theorem d_Mo_init_258 : decode prog_11_method_1_code 258 = .ok (.sipush 240, 3) := by decide +kernel
theorem d_Mo_init_261 : decode prog_11_method_1_code 261 = .ok (.newarray .int, 2) := by decide +kernel
theorem d_Mo_init_263 : decode prog_11_method_1_code 263 = .ok (.putfield 100, 3) := by decide +kernel
theorem d_Mo_init_266 : decode prog_11_method_1_code 266 = .ok (.return_, 1) := by decide +kernel
theorem d_Mo_in_0 : decode prog_11_method_3_code 0 = .ok (.lload_n 0, 1) := by decide +kernel
theorem d_Mo_in_1 : decode prog_11_method_3_code 1 = .ok (.lload_n 2, 1) := by decide +kernel
theorem d_Mo_in_2 : decode prog_11_method_3_code 2 = .ok (.lcmp, 1) := by decide +kernel
theorem d_Mo_in_3 : decode prog_11_method_3_code 3 = .ok (.ifCond .lt 14, 3) := by decide +kernel
theorem d_Mo_in_6 : decode prog_11_method_3_code 6 = .ok (.lload_n 0, 1) := by decide +kernel
theorem d_Mo_in_7 : decode prog_11_method_3_code 7 = .ok (.lload 4, 2) := by decide +kernel
theorem d_Mo_in_9 : decode prog_11_method_3_code 9 = .ok (.lcmp, 1) := by decide +kernel
theorem d_Mo_in_10 : decode prog_11_method_3_code 10 = .ok (.ifCond .gt 7, 3) := by decide +kernel
theorem d_Mo_in_13 : decode prog_11_method_3_code 13 = .ok (.iconst 1, 1) := by decide +kernel
theorem d_Mo_in_14 : decode prog_11_method_3_code 14 = .ok (.goto 4, 3) := by decide +kernel
theorem d_Mo_in_17 : decode prog_11_method_3_code 17 = .ok (.iconst 0, 1) := by decide +kernel
theorem d_Mo_in_18 : decode prog_11_method_3_code 18 = .ok (.ireturn, 1) := by decide +kernel
theorem d_Mo_is_0 : decode prog_11_method_4_code 0 = .ok (.iload_n 1, 1) := by decide +kernel
theorem d_Mo_is_1 : decode prog_11_method_4_code 1 = .ok (.i2l, 1) := by decide +kernel
theorem d_Mo_is_2 : decode prog_11_method_4_code 2 = .ok (.lconst 0, 1) := by decide +kernel
theorem d_Mo_is_3 : decode prog_11_method_4_code 3 = .ok (.aload_n 0, 1) := by decide +kernel
theorem d_Mo_is_4 : decode prog_11_method_4_code 4 = .ok (.getfield 103, 3) := by decide +kernel
theorem d_Mo_is_7 : decode prog_11_method_4_code 7 = .ok (.iconst 1, 1) := by decide +kernel
theorem d_Mo_is_8 : decode prog_11_method_4_code 8 = .ok (.isub, 1) := by decide +kernel
theorem d_Mo_is_9 : decode prog_11_method_4_code 9 = .ok (.i2l, 1) := by decide +kernel
theorem d_Mo_is_10 : decode prog_11_method_4_code 10 = .ok (.invokestatic 107, 3) := by decide +kernel
theorem d_Mo_is_13 : decode prog_11_method_4_code 13 = .ok (.ireturn, 1) := by decide +kernel
theorem d_Mo_picture_0 : decode prog_11_method_5_code 0 = .ok (.iload_n 1, 1) := by decide +kernel
theorem d_Mo_picture_1 : decode prog_11_method_5_code 1 = .ok (.i2l, 1) := by decide +kernel
theorem d_Mo_picture_2 : decode prog_11_method_5_code 2 = .ok (.lconst 1, 1) := by decide +kernel
theorem d_Mo_picture_3 : decode prog_11_method_5_code 3 = .ok (.ldc2_w 111, 3) := by decide +kernel
theorem d_Mo_picture_6 : decode prog_11_method_5_code 6 = .ok (.invokestatic 107, 3) := by decide +kernel
theorem d_Mo_picture_9 : decode prog_11_method_5_code 9 = .ok (.ifCond .ne 5, 3) := by decide +kernel
theorem d_Mo_picture_12 : decode prog_11_method_5_code 12 = .ok (.iconst (-1), 1) := by decide +kernel
theorem d_Mo_picture_13 : decode prog_11_method_5_code 13 = .ok (.ireturn, 1) := by decide +kernel
theorem d_Mo_picture_14 : decode prog_11_method_5_code 14 = .ok (.aload_n 0, 1) := by decide +kernel
theorem d_Mo_picture_15 : decode prog_11_method_5_code 15 = .ok (.getfield 103, 3) := by decide +kernel
theorem d_Mo_picture_18 : decode prog_11_method_5_code 18 = .ok (.bipush 8, 2) := by decide +kernel
theorem d_Mo_picture_20 : decode prog_11_method_5_code 20 = .ok (.if_icmp .ne 6, 3) := by decide +kernel
theorem d_Mo_picture_23 : decode prog_11_method_5_code 23 = .ok (.bipush (-3), 2) := by decide +kernel
theorem d_Mo_picture_25 : decode prog_11_method_5_code 25 = .ok (.ireturn, 1) := by decide +kernel
theorem d_Mo_picture_26 : decode prog_11_method_5_code 26 = .ok (.aload_n 0, 1) := by decide +kernel
theorem d_Mo_picture_27 : decode prog_11_method_5_code 27 = .ok (.getfield 7, 3) := by decide +kernel
theorem d_Mo_picture_30 : decode prog_11_method_5_code 30 = .ok (.aload_n 0, 1) := by decide +kernel
theorem d_Mo_picture_31 : decode prog_11_method_5_code 31 = .ok (.getfield 103, 3) := by decide +kernel
theorem d_Mo_picture_34 : decode prog_11_method_5_code 34 = .ok (.iload_n 1, 1) := by decide +kernel
theorem d_Mo_picture_35 : decode prog_11_method_5_code 35 = .ok (.iastore, 1) := by decide +kernel
theorem d_Mo_picture_36 : decode prog_11_method_5_code 36 = .ok (.aload_n 0, 1) := by decide +kernel
theorem d_Mo_picture_37 : decode prog_11_method_5_code 37 = .ok (.getfield 13, 3) := by decide +kernel
theorem d_Mo_picture_40 : decode prog_11_method_5_code 40 = .ok (.aload_n 0, 1) := by decide +kernel
theorem d_Mo_picture_41 : decode prog_11_method_5_code 41 = .ok (.getfield 103, 3) := by decide +kernel
theorem d_Mo_picture_44 : decode prog_11_method_5_code 44 = .ok (.iconst 0, 1) := by decide +kernel
theorem d_Mo_picture_45 : decode prog_11_method_5_code 45 = .ok (.iastore, 1) := by decide +kernel
theorem d_Mo_picture_46 : decode prog_11_method_5_code 46 = .ok (.aload_n 0, 1) := by decide +kernel
theorem d_Mo_picture_47 : decode prog_11_method_5_code 47 = .ok (.dup, 1) := by decide +kernel
theorem d_Mo_picture_48 : decode prog_11_method_5_code 48 = .ok (.getfield 103, 3) := by decide +kernel
theorem d_Mo_picture_51 : decode prog_11_method_5_code 51 = .ok (.iconst 1, 1) := by decide +kernel
theorem d_Mo_picture_52 : decode prog_11_method_5_code 52 = .ok (.iadd, 1) := by decide +kernel
theorem d_Mo_picture_53 : decode prog_11_method_5_code 53 = .ok (.putfield 103, 3) := by decide +kernel
theorem d_Mo_picture_56 : decode prog_11_method_5_code 56 = .ok (.aload_n 0, 1) := by decide +kernel
theorem d_Mo_picture_57 : decode prog_11_method_5_code 57 = .ok (.getfield 103, 3) := by decide +kernel
theorem d_Mo_picture_60 : decode prog_11_method_5_code 60 = .ok (.iconst 1, 1) := by decide +kernel
theorem d_Mo_picture_61 : decode prog_11_method_5_code 61 = .ok (.isub, 1) := by decide +kernel
theorem d_Mo_picture_62 : decode prog_11_method_5_code 62 = .ok (.ireturn, 1) := by decide +kernel
theorem d_Mo_isStair_0 : decode prog_11_method_6_code 0 = .ok (.iload_n 1, 1) := by decide +kernel
theorem d_Mo_isStair_1 : decode prog_11_method_6_code 1 = .ok (.ifCond .lt 29, 3) := by decide +kernel
theorem d_Mo_isStair_4 : decode prog_11_method_6_code 4 = .ok (.iload_n 1, 1) := by decide +kernel
theorem d_Mo_isStair_5 : decode prog_11_method_6_code 5 = .ok (.iload_n 2, 1) := by decide +kernel
theorem d_Mo_isStair_6 : decode prog_11_method_6_code 6 = .ok (.if_icmp .ge 24, 3) := by decide +kernel
theorem d_Mo_isStair_9 : decode prog_11_method_6_code 9 = .ok (.iload_n 2, 1) := by decide +kernel
theorem d_Mo_isStair_10 : decode prog_11_method_6_code 10 = .ok (.iload_n 0, 1) := by decide +kernel
theorem d_Mo_isStair_11 : decode prog_11_method_6_code 11 = .ok (.if_icmp .ge 19, 3) := by decide +kernel
theorem d_Mo_isStair_14 : decode prog_11_method_6_code 14 = .ok (.iload_n 3, 1) := by decide +kernel
theorem d_Mo_isStair_15 : decode prog_11_method_6_code 15 = .ok (.i2l, 1) := by decide +kernel
theorem d_Mo_isStair_16 : decode prog_11_method_6_code 16 = .ok (.lconst 1, 1) := by decide +kernel
theorem d_Mo_isStair_17 : decode prog_11_method_6_code 17 = .ok (.ldc2_w 111, 3) := by decide +kernel
theorem d_Mo_isStair_20 : decode prog_11_method_6_code 20 = .ok (.invokestatic 107, 3) := by decide +kernel
theorem d_Mo_isStair_23 : decode prog_11_method_6_code 23 = .ok (.ifCond .eq 7, 3) := by decide +kernel
theorem d_Mo_isStair_26 : decode prog_11_method_6_code 26 = .ok (.iconst 1, 1) := by decide +kernel
theorem d_Mo_isStair_27 : decode prog_11_method_6_code 27 = .ok (.goto 4, 3) := by decide +kernel
theorem d_Mo_isStair_30 : decode prog_11_method_6_code 30 = .ok (.iconst 0, 1) := by decide +kernel
theorem d_Mo_isStair_31 : decode prog_11_method_6_code 31 = .ok (.ireturn, 1) := by decide +kernel
theorem d_Mo_isAhead_0 : decode prog_11_method_7_code 0 = .ok (.aload_n 0, 1) := by decide +kernel
theorem d_Mo_isAhead_1 : decode prog_11_method_7_code 1 = .ok (.getfield 16, 3) := by decide +kernel
theorem d_Mo_isAhead_4 : decode prog_11_method_7_code 4 = .ok (.iload_n 1, 1) := by decide +kernel
theorem d_Mo_isAhead_5 : decode prog_11_method_7_code 5 = .ok (.iaload, 1) := by decide +kernel
theorem d_Mo_isAhead_6 : decode prog_11_method_7_code 6 = .ok (.iload_n 2, 1) := by decide +kernel
theorem d_Mo_isAhead_7 : decode prog_11_method_7_code 7 = .ok (.if_icmp .lt 44, 3) := by decide +kernel
theorem d_Mo_isAhead_10 : decode prog_11_method_7_code 10 = .ok (.aload_n 0, 1) := by decide +kernel
theorem d_Mo_isAhead_11 : decode prog_11_method_7_code 11 = .ok (.getfield 16, 3) := by decide +kernel
theorem d_Mo_isAhead_14 : decode prog_11_method_7_code 14 = .ok (.iload_n 1, 1) := by decide +kernel
theorem d_Mo_isAhead_15 : decode prog_11_method_7_code 15 = .ok (.iaload, 1) := by decide +kernel
theorem d_Mo_isAhead_16 : decode prog_11_method_7_code 16 = .ok (.iload_n 2, 1) := by decide +kernel
theorem d_Mo_isAhead_17 : decode prog_11_method_7_code 17 = .ok (.if_icmp .ne 38, 3) := by decide +kernel
theorem d_Mo_isAhead_20 : decode prog_11_method_7_code 20 = .ok (.aload_n 0, 1) := by decide +kernel
theorem d_Mo_isAhead_21 : decode prog_11_method_7_code 21 = .ok (.getfield 19, 3) := by decide +kernel
theorem d_Mo_isAhead_24 : decode prog_11_method_7_code 24 = .ok (.iload_n 1, 1) := by decide +kernel
theorem d_Mo_isAhead_25 : decode prog_11_method_7_code 25 = .ok (.iaload, 1) := by decide +kernel
theorem d_Mo_isAhead_26 : decode prog_11_method_7_code 26 = .ok (.iload_n 3, 1) := by decide +kernel
theorem d_Mo_isAhead_27 : decode prog_11_method_7_code 27 = .ok (.if_icmp .lt 24, 3) := by decide +kernel
theorem d_Mo_isAhead_30 : decode prog_11_method_7_code 30 = .ok (.aload_n 0, 1) := by decide +kernel
theorem d_Mo_isAhead_31 : decode prog_11_method_7_code 31 = .ok (.getfield 19, 3) := by decide +kernel
theorem d_Mo_isAhead_34 : decode prog_11_method_7_code 34 = .ok (.iload_n 1, 1) := by decide +kernel
theorem d_Mo_isAhead_35 : decode prog_11_method_7_code 35 = .ok (.iaload, 1) := by decide +kernel
theorem d_Mo_isAhead_36 : decode prog_11_method_7_code 36 = .ok (.iload_n 3, 1) := by decide +kernel
theorem d_Mo_isAhead_37 : decode prog_11_method_7_code 37 = .ok (.if_icmp .ne 18, 3) := by decide +kernel
theorem d_Mo_isAhead_40 : decode prog_11_method_7_code 40 = .ok (.aload_n 0, 1) := by decide +kernel
theorem d_Mo_isAhead_41 : decode prog_11_method_7_code 41 = .ok (.getfield 22, 3) := by decide +kernel
theorem d_Mo_isAhead_44 : decode prog_11_method_7_code 44 = .ok (.iload_n 1, 1) := by decide +kernel
theorem d_Mo_isAhead_45 : decode prog_11_method_7_code 45 = .ok (.iaload, 1) := by decide +kernel
theorem d_Mo_isAhead_46 : decode prog_11_method_7_code 46 = .ok (.iload 4, 2) := by decide +kernel
theorem d_Mo_isAhead_48 : decode prog_11_method_7_code 48 = .ok (.if_icmp .gt 7, 3) := by decide +kernel
theorem d_Mo_isAhead_51 : decode prog_11_method_7_code 51 = .ok (.iconst 1, 1) := by decide +kernel
theorem d_Mo_isAhead_52 : decode prog_11_method_7_code 52 = .ok (.goto 4, 3) := by decide +kernel
theorem d_Mo_isAhead_55 : decode prog_11_method_7_code 55 = .ok (.iconst 0, 1) := by decide +kernel
theorem d_Mo_isAhead_56 : decode prog_11_method_7_code 56 = .ok (.ireturn, 1) := by decide +kernel
theorem d_Mo_put_0 : decode prog_11_method_8_code 0 = .ok (.bipush 6, 2) := by decide +kernel
theorem d_Mo_put_2 : decode prog_11_method_8_code 2 = .ok (.iload_n 1, 1) := by decide +kernel
theorem d_Mo_put_3 : decode prog_11_method_8_code 3 = .ok (.imul, 1) := by decide +kernel
theorem d_Mo_put_4 : decode prog_11_method_8_code 4 = .ok (.aload_n 0, 1) := by decide +kernel
theorem d_Mo_put_5 : decode prog_11_method_8_code 5 = .ok (.getfield 13, 3) := by decide +kernel
theorem d_Mo_put_8 : decode prog_11_method_8_code 8 = .ok (.iload_n 1, 1) := by decide +kernel
theorem d_Mo_put_9 : decode prog_11_method_8_code 9 = .ok (.iaload, 1) := by decide +kernel
theorem d_Mo_put_10 : decode prog_11_method_8_code 10 = .ok (.iadd, 1) := by decide +kernel
theorem d_Mo_put_11 : decode prog_11_method_8_code 11 = .ok (.istore 5, 2) := by decide +kernel
theorem d_Mo_put_13 : decode prog_11_method_8_code 13 = .ok (.iload 5, 2) := by decide +kernel
theorem d_Mo_put_15 : decode prog_11_method_8_code 15 = .ok (.bipush 6, 2) := by decide +kernel
theorem d_Mo_put_17 : decode prog_11_method_8_code 17 = .ok (.iload_n 1, 1) := by decide +kernel
theorem d_Mo_put_18 : decode prog_11_method_8_code 18 = .ok (.imul, 1) := by decide +kernel
theorem d_Mo_put_19 : decode prog_11_method_8_code 19 = .ok (.if_icmp .le 72, 3) := by decide +kernel
theorem d_Mo_put_22 : decode prog_11_method_8_code 22 = .ok (.aload_n 0, 1) := by decide +kernel
theorem d_Mo_put_23 : decode prog_11_method_8_code 23 = .ok (.iload 5, 2) := by decide +kernel
theorem d_Mo_put_25 : decode prog_11_method_8_code 25 = .ok (.iconst 1, 1) := by decide +kernel
theorem d_Mo_put_26 : decode prog_11_method_8_code 26 = .ok (.isub, 1) := by decide +kernel
theorem d_Mo_put_27 : decode prog_11_method_8_code 27 = .ok (.iload_n 2, 1) := by decide +kernel
theorem d_Mo_put_28 : decode prog_11_method_8_code 28 = .ok (.iload_n 3, 1) := by decide +kernel
theorem d_Mo_put_29 : decode prog_11_method_8_code 29 = .ok (.iload 4, 2) := by decide +kernel
theorem d_Mo_put_31 : decode prog_11_method_8_code 31 = .ok (.invokevirtual 113, 3) := by decide +kernel
theorem d_Mo_put_34 : decode prog_11_method_8_code 34 = .ok (.ifCond .ne 57, 3) := by decide +kernel
theorem d_Mo_put_37 : decode prog_11_method_8_code 37 = .ok (.aload_n 0, 1) := by decide +kernel
theorem d_Mo_put_38 : decode prog_11_method_8_code 38 = .ok (.getfield 16, 3) := by decide +kernel
theorem d_Mo_put_41 : decode prog_11_method_8_code 41 = .ok (.iload 5, 2) := by decide +kernel
theorem d_Mo_put_43 : decode prog_11_method_8_code 43 = .ok (.aload_n 0, 1) := by decide +kernel
theorem d_Mo_put_44 : decode prog_11_method_8_code 44 = .ok (.getfield 16, 3) := by decide +kernel
theorem d_Mo_put_47 : decode prog_11_method_8_code 47 = .ok (.iload 5, 2) := by decide +kernel
theorem d_Mo_put_49 : decode prog_11_method_8_code 49 = .ok (.iconst 1, 1) := by decide +kernel
theorem d_Mo_put_50 : decode prog_11_method_8_code 50 = .ok (.isub, 1) := by decide +kernel
theorem d_Mo_put_51 : decode prog_11_method_8_code 51 = .ok (.iaload, 1) := by decide +kernel
theorem d_Mo_put_52 : decode prog_11_method_8_code 52 = .ok (.iastore, 1) := by decide +kernel
theorem d_Mo_put_53 : decode prog_11_method_8_code 53 = .ok (.aload_n 0, 1) := by decide +kernel
theorem d_Mo_put_54 : decode prog_11_method_8_code 54 = .ok (.getfield 19, 3) := by decide +kernel
theorem d_Mo_put_57 : decode prog_11_method_8_code 57 = .ok (.iload 5, 2) := by decide +kernel
theorem d_Mo_put_59 : decode prog_11_method_8_code 59 = .ok (.aload_n 0, 1) := by decide +kernel
theorem d_Mo_put_60 : decode prog_11_method_8_code 60 = .ok (.getfield 19, 3) := by decide +kernel
theorem d_Mo_put_63 : decode prog_11_method_8_code 63 = .ok (.iload 5, 2) := by decide +kernel
theorem d_Mo_put_65 : decode prog_11_method_8_code 65 = .ok (.iconst 1, 1) := by decide +kernel
theorem d_Mo_put_66 : decode prog_11_method_8_code 66 = .ok (.isub, 1) := by decide +kernel
theorem d_Mo_put_67 : decode prog_11_method_8_code 67 = .ok (.iaload, 1) := by decide +kernel
theorem d_Mo_put_68 : decode prog_11_method_8_code 68 = .ok (.iastore, 1) := by decide +kernel
theorem d_Mo_put_69 : decode prog_11_method_8_code 69 = .ok (.aload_n 0, 1) := by decide +kernel
theorem d_Mo_put_70 : decode prog_11_method_8_code 70 = .ok (.getfield 22, 3) := by decide +kernel
theorem d_Mo_put_73 : decode prog_11_method_8_code 73 = .ok (.iload 5, 2) := by decide +kernel
theorem d_Mo_put_75 : decode prog_11_method_8_code 75 = .ok (.aload_n 0, 1) := by decide +kernel
theorem d_Mo_put_76 : decode prog_11_method_8_code 76 = .ok (.getfield 22, 3) := by decide +kernel
theorem d_Mo_put_79 : decode prog_11_method_8_code 79 = .ok (.iload 5, 2) := by decide +kernel
theorem d_Mo_put_81 : decode prog_11_method_8_code 81 = .ok (.iconst 1, 1) := by decide +kernel
theorem d_Mo_put_82 : decode prog_11_method_8_code 82 = .ok (.isub, 1) := by decide +kernel
theorem d_Mo_put_83 : decode prog_11_method_8_code 83 = .ok (.iaload, 1) := by decide +kernel
theorem d_Mo_put_84 : decode prog_11_method_8_code 84 = .ok (.iastore, 1) := by decide +kernel
theorem d_Mo_put_85 : decode prog_11_method_8_code 85 = .ok (.iinc 5 (-1), 3) := by decide +kernel
theorem d_Mo_put_88 : decode prog_11_method_8_code 88 = .ok (.goto (-75), 3) := by decide +kernel
theorem d_Mo_put_91 : decode prog_11_method_8_code 91 = .ok (.aload_n 0, 1) := by decide +kernel
theorem d_Mo_put_92 : decode prog_11_method_8_code 92 = .ok (.getfield 16, 3) := by decide +kernel
theorem d_Mo_put_95 : decode prog_11_method_8_code 95 = .ok (.iload 5, 2) := by decide +kernel
theorem d_Mo_put_97 : decode prog_11_method_8_code 97 = .ok (.iload_n 2, 1) := by decide +kernel
theorem d_Mo_put_98 : decode prog_11_method_8_code 98 = .ok (.iastore, 1) := by decide +kernel
theorem d_Mo_put_99 : decode prog_11_method_8_code 99 = .ok (.aload_n 0, 1) := by decide +kernel
theorem d_Mo_put_100 : decode prog_11_method_8_code 100 = .ok (.getfield 19, 3) := by decide +kernel
theorem d_Mo_put_103 : decode prog_11_method_8_code 103 = .ok (.iload 5, 2) := by decide +kernel
theorem d_Mo_put_105 : decode prog_11_method_8_code 105 = .ok (.iload_n 3, 1) := by decide +kernel
theorem d_Mo_put_106 : decode prog_11_method_8_code 106 = .ok (.iastore, 1) := by decide +kernel
theorem d_Mo_put_107 : decode prog_11_method_8_code 107 = .ok (.aload_n 0, 1) := by decide +kernel
theorem d_Mo_put_108 : decode prog_11_method_8_code 108 = .ok (.getfield 22, 3) := by decide +kernel
theorem d_Mo_put_111 : decode prog_11_method_8_code 111 = .ok (.iload 5, 2) := by decide +kernel
theorem d_Mo_put_113 : decode prog_11_method_8_code 113 = .ok (.iload 4, 2) := by decide +kernel
theorem d_Mo_put_115 : decode prog_11_method_8_code 115 = .ok (.iastore, 1) := by decide +kernel
theorem d_Mo_put_116 : decode prog_11_method_8_code 116 = .ok (.aload_n 0, 1) := by decide +kernel
theorem d_Mo_put_117 : decode prog_11_method_8_code 117 = .ok (.getfield 13, 3) := by decide +kernel
theorem d_Mo_put_120 : decode prog_11_method_8_code 120 = .ok (.iload_n 1, 1) := by decide +kernel
theorem d_Mo_put_121 : decode prog_11_method_8_code 121 = .ok (.dup2, 1) := by decide +kernel
theorem d_Mo_put_122 : decode prog_11_method_8_code 122 = .ok (.iaload, 1) := by decide +kernel
theorem d_Mo_put_123 : decode prog_11_method_8_code 123 = .ok (.iconst 1, 1) := by decide +kernel
theorem d_Mo_put_124 : decode prog_11_method_8_code 124 = .ok (.iadd, 1) := by decide +kernel
theorem d_Mo_put_125 : decode prog_11_method_8_code 125 = .ok (.iastore, 1) := by decide +kernel
theorem d_Mo_put_126 : decode prog_11_method_8_code 126 = .ok (.return_, 1) := by decide +kernel
theorem d_Mo_stair_0 : decode prog_11_method_9_code 0 = .ok (.aload_n 0, 1) := by decide +kernel
theorem d_Mo_stair_1 : decode prog_11_method_9_code 1 = .ok (.iload_n 1, 1) := by decide +kernel
theorem d_Mo_stair_2 : decode prog_11_method_9_code 2 = .ok (.invokevirtual 117, 3) := by decide +kernel
theorem d_Mo_stair_5 : decode prog_11_method_9_code 5 = .ok (.ifCond .eq 19, 3) := by decide +kernel
theorem d_Mo_stair_8 : decode prog_11_method_9_code 8 = .ok (.aload_n 0, 1) := by decide +kernel
theorem d_Mo_stair_9 : decode prog_11_method_9_code 9 = .ok (.getfield 7, 3) := by decide +kernel
theorem d_Mo_stair_12 : decode prog_11_method_9_code 12 = .ok (.iload_n 1, 1) := by decide +kernel
theorem d_Mo_stair_13 : decode prog_11_method_9_code 13 = .ok (.iaload, 1) := by decide +kernel
theorem d_Mo_stair_14 : decode prog_11_method_9_code 14 = .ok (.iload_n 2, 1) := by decide +kernel
theorem d_Mo_stair_15 : decode prog_11_method_9_code 15 = .ok (.iload_n 3, 1) := by decide +kernel
theorem d_Mo_stair_16 : decode prog_11_method_9_code 16 = .ok (.iload 4, 2) := by decide +kernel
theorem d_Mo_stair_18 : decode prog_11_method_9_code 18 = .ok (.invokestatic 121, 3) := by decide +kernel
theorem d_Mo_stair_21 : decode prog_11_method_9_code 21 = .ok (.ifCond .ne 5, 3) := by decide +kernel
theorem d_Mo_stair_24 : decode prog_11_method_9_code 24 = .ok (.iconst (-1), 1) := by decide +kernel
theorem d_Mo_stair_25 : decode prog_11_method_9_code 25 = .ok (.ireturn, 1) := by decide +kernel
theorem d_Mo_stair_26 : decode prog_11_method_9_code 26 = .ok (.aload_n 0, 1) := by decide +kernel
theorem d_Mo_stair_27 : decode prog_11_method_9_code 27 = .ok (.getfield 13, 3) := by decide +kernel
theorem d_Mo_stair_30 : decode prog_11_method_9_code 30 = .ok (.iload_n 1, 1) := by decide +kernel
theorem d_Mo_stair_31 : decode prog_11_method_9_code 31 = .ok (.iaload, 1) := by decide +kernel
theorem d_Mo_stair_32 : decode prog_11_method_9_code 32 = .ok (.bipush 6, 2) := by decide +kernel
theorem d_Mo_stair_34 : decode prog_11_method_9_code 34 = .ok (.if_icmp .ne 6, 3) := by decide +kernel
theorem d_Mo_stair_37 : decode prog_11_method_9_code 37 = .ok (.bipush (-3), 2) := by decide +kernel
theorem d_Mo_stair_39 : decode prog_11_method_9_code 39 = .ok (.ireturn, 1) := by decide +kernel
theorem d_Mo_stair_40 : decode prog_11_method_9_code 40 = .ok (.aload_n 0, 1) := by decide +kernel
theorem d_Mo_stair_41 : decode prog_11_method_9_code 41 = .ok (.iload_n 1, 1) := by decide +kernel
theorem d_Mo_stair_42 : decode prog_11_method_9_code 42 = .ok (.iload_n 2, 1) := by decide +kernel
theorem d_Mo_stair_43 : decode prog_11_method_9_code 43 = .ok (.iload_n 3, 1) := by decide +kernel
theorem d_Mo_stair_44 : decode prog_11_method_9_code 44 = .ok (.iload 4, 2) := by decide +kernel
theorem d_Mo_stair_46 : decode prog_11_method_9_code 46 = .ok (.invokevirtual 124, 3) := by decide +kernel
theorem d_Mo_stair_49 : decode prog_11_method_9_code 49 = .ok (.aload_n 0, 1) := by decide +kernel
theorem d_Mo_stair_50 : decode prog_11_method_9_code 50 = .ok (.getfield 13, 3) := by decide +kernel
theorem d_Mo_stair_53 : decode prog_11_method_9_code 53 = .ok (.iload_n 1, 1) := by decide +kernel
theorem d_Mo_stair_54 : decode prog_11_method_9_code 54 = .ok (.iaload, 1) := by decide +kernel
theorem d_Mo_stair_55 : decode prog_11_method_9_code 55 = .ok (.ireturn, 1) := by decide +kernel
theorem d_Mo_cut_0 : decode prog_11_method_10_code 0 = .ok (.aload_n 0, 1) := by decide +kernel
theorem d_Mo_cut_1 : decode prog_11_method_10_code 1 = .ok (.iload_n 1, 1) := by decide +kernel
theorem d_Mo_cut_2 : decode prog_11_method_10_code 2 = .ok (.invokevirtual 117, 3) := by decide +kernel
theorem d_Mo_cut_5 : decode prog_11_method_10_code 5 = .ok (.ifCond .eq 19, 3) := by decide +kernel
theorem d_Mo_cut_8 : decode prog_11_method_10_code 8 = .ok (.aload_n 0, 1) := by decide +kernel
theorem d_Mo_cut_9 : decode prog_11_method_10_code 9 = .ok (.getfield 7, 3) := by decide +kernel
theorem d_Mo_cut_12 : decode prog_11_method_10_code 12 = .ok (.iload_n 1, 1) := by decide +kernel
theorem d_Mo_cut_13 : decode prog_11_method_10_code 13 = .ok (.iaload, 1) := by decide +kernel
theorem d_Mo_cut_14 : decode prog_11_method_10_code 14 = .ok (.iload_n 2, 1) := by decide +kernel
theorem d_Mo_cut_15 : decode prog_11_method_10_code 15 = .ok (.iload_n 3, 1) := by decide +kernel
theorem d_Mo_cut_16 : decode prog_11_method_10_code 16 = .ok (.iload 4, 2) := by decide +kernel
theorem d_Mo_cut_18 : decode prog_11_method_10_code 18 = .ok (.invokestatic 121, 3) := by decide +kernel
theorem d_Mo_cut_21 : decode prog_11_method_10_code 21 = .ok (.ifCond .ne 5, 3) := by decide +kernel
theorem d_Mo_cut_24 : decode prog_11_method_10_code 24 = .ok (.iconst (-1), 1) := by decide +kernel
theorem d_Mo_cut_25 : decode prog_11_method_10_code 25 = .ok (.ireturn, 1) := by decide +kernel
theorem d_Mo_cut_26 : decode prog_11_method_10_code 26 = .ok (.bipush 6, 2) := by decide +kernel
theorem d_Mo_cut_28 : decode prog_11_method_10_code 28 = .ok (.iload_n 1, 1) := by decide +kernel
theorem d_Mo_cut_29 : decode prog_11_method_10_code 29 = .ok (.imul, 1) := by decide +kernel
theorem d_Mo_cut_30 : decode prog_11_method_10_code 30 = .ok (.aload_n 0, 1) := by decide +kernel
theorem d_Mo_cut_31 : decode prog_11_method_10_code 31 = .ok (.getfield 13, 3) := by decide +kernel
theorem d_Mo_cut_34 : decode prog_11_method_10_code 34 = .ok (.iload_n 1, 1) := by decide +kernel
theorem d_Mo_cut_35 : decode prog_11_method_10_code 35 = .ok (.iaload, 1) := by decide +kernel
theorem d_Mo_cut_36 : decode prog_11_method_10_code 36 = .ok (.iadd, 1) := by decide +kernel
theorem d_Mo_cut_37 : decode prog_11_method_10_code 37 = .ok (.istore 5, 2) := by decide +kernel
theorem d_Mo_cut_39 : decode prog_11_method_10_code 39 = .ok (.bipush 6, 2) := by decide +kernel
theorem d_Mo_cut_41 : decode prog_11_method_10_code 41 = .ok (.iload_n 1, 1) := by decide +kernel
theorem d_Mo_cut_42 : decode prog_11_method_10_code 42 = .ok (.imul, 1) := by decide +kernel
theorem d_Mo_cut_43 : decode prog_11_method_10_code 43 = .ok (.istore 6, 2) := by decide +kernel
theorem d_Mo_cut_45 : decode prog_11_method_10_code 45 = .ok (.iload 6, 2) := by decide +kernel
theorem d_Mo_cut_47 : decode prog_11_method_10_code 47 = .ok (.iload 5, 2) := by decide +kernel
theorem d_Mo_cut_49 : decode prog_11_method_10_code 49 = .ok (.if_icmp .ge 43, 3) := by decide +kernel
theorem d_Mo_cut_52 : decode prog_11_method_10_code 52 = .ok (.aload_n 0, 1) := by decide +kernel
theorem d_Mo_cut_53 : decode prog_11_method_10_code 53 = .ok (.getfield 16, 3) := by decide +kernel
theorem d_Mo_cut_56 : decode prog_11_method_10_code 56 = .ok (.iload 6, 2) := by decide +kernel
theorem d_Mo_cut_58 : decode prog_11_method_10_code 58 = .ok (.iaload, 1) := by decide +kernel
theorem d_Mo_cut_59 : decode prog_11_method_10_code 59 = .ok (.iload_n 2, 1) := by decide +kernel
theorem d_Mo_cut_60 : decode prog_11_method_10_code 60 = .ok (.if_icmp .ne 26, 3) := by decide +kernel
theorem d_Mo_cut_63 : decode prog_11_method_10_code 63 = .ok (.aload_n 0, 1) := by decide +kernel
theorem d_Mo_cut_64 : decode prog_11_method_10_code 64 = .ok (.getfield 19, 3) := by decide +kernel
theorem d_Mo_cut_67 : decode prog_11_method_10_code 67 = .ok (.iload 6, 2) := by decide +kernel
theorem d_Mo_cut_69 : decode prog_11_method_10_code 69 = .ok (.iaload, 1) := by decide +kernel
theorem d_Mo_cut_70 : decode prog_11_method_10_code 70 = .ok (.iload_n 3, 1) := by decide +kernel
theorem d_Mo_cut_71 : decode prog_11_method_10_code 71 = .ok (.if_icmp .ne 15, 3) := by decide +kernel
theorem d_Mo_cut_74 : decode prog_11_method_10_code 74 = .ok (.aload_n 0, 1) := by decide +kernel
theorem d_Mo_cut_75 : decode prog_11_method_10_code 75 = .ok (.getfield 22, 3) := by decide +kernel
theorem d_Mo_cut_78 : decode prog_11_method_10_code 78 = .ok (.iload 6, 2) := by decide +kernel
theorem d_Mo_cut_80 : decode prog_11_method_10_code 80 = .ok (.iaload, 1) := by decide +kernel
theorem d_Mo_cut_81 : decode prog_11_method_10_code 81 = .ok (.iload 4, 2) := by decide +kernel
theorem d_Mo_cut_83 : decode prog_11_method_10_code 83 = .ok (.if_icmp .eq 9, 3) := by decide +kernel
theorem d_Mo_cut_86 : decode prog_11_method_10_code 86 = .ok (.iinc 6 1, 3) := by decide +kernel
theorem d_Mo_cut_89 : decode prog_11_method_10_code 89 = .ok (.goto (-44), 3) := by decide +kernel
theorem d_Mo_cut_92 : decode prog_11_method_10_code 92 = .ok (.iload 6, 2) := by decide +kernel
theorem d_Mo_cut_94 : decode prog_11_method_10_code 94 = .ok (.iload 5, 2) := by decide +kernel
theorem d_Mo_cut_96 : decode prog_11_method_10_code 96 = .ok (.if_icmp .ne 6, 3) := by decide +kernel
theorem d_Mo_cut_99 : decode prog_11_method_10_code 99 = .ok (.bipush (-2), 2) := by decide +kernel
theorem d_Mo_cut_101 : decode prog_11_method_10_code 101 = .ok (.ireturn, 1) := by decide +kernel
theorem d_Mo_cut_102 : decode prog_11_method_10_code 102 = .ok (.iload 6, 2) := by decide +kernel
theorem d_Mo_cut_104 : decode prog_11_method_10_code 104 = .ok (.iconst 1, 1) := by decide +kernel
theorem d_Mo_cut_105 : decode prog_11_method_10_code 105 = .ok (.iadd, 1) := by decide +kernel
theorem d_Mo_cut_106 : decode prog_11_method_10_code 106 = .ok (.istore 7, 2) := by decide +kernel
theorem d_Mo_cut_108 : decode prog_11_method_10_code 108 = .ok (.iload 7, 2) := by decide +kernel
theorem d_Mo_cut_110 : decode prog_11_method_10_code 110 = .ok (.iload 5, 2) := by decide +kernel
theorem d_Mo_cut_112 : decode prog_11_method_10_code 112 = .ok (.if_icmp .ge 57, 3) := by decide +kernel
theorem d_Mo_cut_115 : decode prog_11_method_10_code 115 = .ok (.aload_n 0, 1) := by decide +kernel
theorem d_Mo_cut_116 : decode prog_11_method_10_code 116 = .ok (.getfield 16, 3) := by decide +kernel
theorem d_Mo_cut_119 : decode prog_11_method_10_code 119 = .ok (.iload 7, 2) := by decide +kernel
theorem d_Mo_cut_121 : decode prog_11_method_10_code 121 = .ok (.iconst 1, 1) := by decide +kernel
theorem d_Mo_cut_122 : decode prog_11_method_10_code 122 = .ok (.isub, 1) := by decide +kernel
theorem d_Mo_cut_123 : decode prog_11_method_10_code 123 = .ok (.aload_n 0, 1) := by decide +kernel
theorem d_Mo_cut_124 : decode prog_11_method_10_code 124 = .ok (.getfield 16, 3) := by decide +kernel
theorem d_Mo_cut_127 : decode prog_11_method_10_code 127 = .ok (.iload 7, 2) := by decide +kernel
theorem d_Mo_cut_129 : decode prog_11_method_10_code 129 = .ok (.iaload, 1) := by decide +kernel
theorem d_Mo_cut_130 : decode prog_11_method_10_code 130 = .ok (.iastore, 1) := by decide +kernel
theorem d_Mo_cut_131 : decode prog_11_method_10_code 131 = .ok (.aload_n 0, 1) := by decide +kernel
theorem d_Mo_cut_132 : decode prog_11_method_10_code 132 = .ok (.getfield 19, 3) := by decide +kernel
theorem d_Mo_cut_135 : decode prog_11_method_10_code 135 = .ok (.iload 7, 2) := by decide +kernel
theorem d_Mo_cut_137 : decode prog_11_method_10_code 137 = .ok (.iconst 1, 1) := by decide +kernel
theorem d_Mo_cut_138 : decode prog_11_method_10_code 138 = .ok (.isub, 1) := by decide +kernel
theorem d_Mo_cut_139 : decode prog_11_method_10_code 139 = .ok (.aload_n 0, 1) := by decide +kernel
theorem d_Mo_cut_140 : decode prog_11_method_10_code 140 = .ok (.getfield 19, 3) := by decide +kernel
theorem d_Mo_cut_143 : decode prog_11_method_10_code 143 = .ok (.iload 7, 2) := by decide +kernel
theorem d_Mo_cut_145 : decode prog_11_method_10_code 145 = .ok (.iaload, 1) := by decide +kernel
theorem d_Mo_cut_146 : decode prog_11_method_10_code 146 = .ok (.iastore, 1) := by decide +kernel
theorem d_Mo_cut_147 : decode prog_11_method_10_code 147 = .ok (.aload_n 0, 1) := by decide +kernel
theorem d_Mo_cut_148 : decode prog_11_method_10_code 148 = .ok (.getfield 22, 3) := by decide +kernel
theorem d_Mo_cut_151 : decode prog_11_method_10_code 151 = .ok (.iload 7, 2) := by decide +kernel
theorem d_Mo_cut_153 : decode prog_11_method_10_code 153 = .ok (.iconst 1, 1) := by decide +kernel
theorem d_Mo_cut_154 : decode prog_11_method_10_code 154 = .ok (.isub, 1) := by decide +kernel
theorem d_Mo_cut_155 : decode prog_11_method_10_code 155 = .ok (.aload_n 0, 1) := by decide +kernel
theorem d_Mo_cut_156 : decode prog_11_method_10_code 156 = .ok (.getfield 22, 3) := by decide +kernel
theorem d_Mo_cut_159 : decode prog_11_method_10_code 159 = .ok (.iload 7, 2) := by decide +kernel
theorem d_Mo_cut_161 : decode prog_11_method_10_code 161 = .ok (.iaload, 1) := by decide +kernel
theorem d_Mo_cut_162 : decode prog_11_method_10_code 162 = .ok (.iastore, 1) := by decide +kernel
theorem d_Mo_cut_163 : decode prog_11_method_10_code 163 = .ok (.iinc 7 1, 3) := by decide +kernel
theorem d_Mo_cut_166 : decode prog_11_method_10_code 166 = .ok (.goto (-58), 3) := by decide +kernel
theorem d_Mo_cut_169 : decode prog_11_method_10_code 169 = .ok (.aload_n 0, 1) := by decide +kernel
theorem d_Mo_cut_170 : decode prog_11_method_10_code 170 = .ok (.getfield 13, 3) := by decide +kernel
theorem d_Mo_cut_173 : decode prog_11_method_10_code 173 = .ok (.iload_n 1, 1) := by decide +kernel
theorem d_Mo_cut_174 : decode prog_11_method_10_code 174 = .ok (.dup2, 1) := by decide +kernel
theorem d_Mo_cut_175 : decode prog_11_method_10_code 175 = .ok (.iaload, 1) := by decide +kernel
theorem d_Mo_cut_176 : decode prog_11_method_10_code 176 = .ok (.iconst 1, 1) := by decide +kernel
theorem d_Mo_cut_177 : decode prog_11_method_10_code 177 = .ok (.isub, 1) := by decide +kernel
theorem d_Mo_cut_178 : decode prog_11_method_10_code 178 = .ok (.iastore, 1) := by decide +kernel
theorem d_Mo_cut_179 : decode prog_11_method_10_code 179 = .ok (.aload_n 0, 1) := by decide +kernel
theorem d_Mo_cut_180 : decode prog_11_method_10_code 180 = .ok (.getfield 13, 3) := by decide +kernel
theorem d_Mo_cut_183 : decode prog_11_method_10_code 183 = .ok (.iload_n 1, 1) := by decide +kernel
theorem d_Mo_cut_184 : decode prog_11_method_10_code 184 = .ok (.iaload, 1) := by decide +kernel
theorem d_Mo_cut_185 : decode prog_11_method_10_code 185 = .ok (.ireturn, 1) := by decide +kernel
theorem d_Mo_drop_0 : decode prog_11_method_11_code 0 = .ok (.aload_n 0, 1) := by decide +kernel
theorem d_Mo_drop_1 : decode prog_11_method_11_code 1 = .ok (.getfield 103, 3) := by decide +kernel
theorem d_Mo_drop_4 : decode prog_11_method_11_code 4 = .ok (.ifCond .ne 6, 3) := by decide +kernel
theorem d_Mo_drop_7 : decode prog_11_method_11_code 7 = .ok (.bipush (-4), 2) := by decide +kernel
theorem d_Mo_drop_9 : decode prog_11_method_11_code 9 = .ok (.ireturn, 1) := by decide +kernel
theorem d_Mo_drop_10 : decode prog_11_method_11_code 10 = .ok (.aload_n 0, 1) := by decide +kernel
theorem d_Mo_drop_11 : decode prog_11_method_11_code 11 = .ok (.dup, 1) := by decide +kernel
theorem d_Mo_drop_12 : decode prog_11_method_11_code 12 = .ok (.getfield 103, 3) := by decide +kernel
theorem d_Mo_drop_15 : decode prog_11_method_11_code 15 = .ok (.iconst 1, 1) := by decide +kernel
theorem d_Mo_drop_16 : decode prog_11_method_11_code 16 = .ok (.isub, 1) := by decide +kernel
theorem d_Mo_drop_17 : decode prog_11_method_11_code 17 = .ok (.putfield 103, 3) := by decide +kernel
theorem d_Mo_drop_20 : decode prog_11_method_11_code 20 = .ok (.aload_n 0, 1) := by decide +kernel
theorem d_Mo_drop_21 : decode prog_11_method_11_code 21 = .ok (.getfield 103, 3) := by decide +kernel
theorem d_Mo_drop_24 : decode prog_11_method_11_code 24 = .ok (.ireturn, 1) := by decide +kernel
theorem d_Mo_outOf_0 : decode prog_11_method_12_code 0 = .ok (.iconst 0, 1) := by decide +kernel
theorem d_Mo_outOf_1 : decode prog_11_method_12_code 1 = .ok (.istore_n 3, 1) := by decide +kernel
theorem d_Mo_outOf_2 : decode prog_11_method_12_code 2 = .ok (.bipush 6, 2) := by decide +kernel
theorem d_Mo_outOf_4 : decode prog_11_method_12_code 4 = .ok (.iload_n 1, 1) := by decide +kernel
theorem d_Mo_outOf_5 : decode prog_11_method_12_code 5 = .ok (.imul, 1) := by decide +kernel
theorem d_Mo_outOf_6 : decode prog_11_method_12_code 6 = .ok (.istore 4, 2) := by decide +kernel
theorem d_Mo_outOf_8 : decode prog_11_method_12_code 8 = .ok (.iload 4, 2) := by decide +kernel
theorem d_Mo_outOf_10 : decode prog_11_method_12_code 10 = .ok (.bipush 6, 2) := by decide +kernel
theorem d_Mo_outOf_12 : decode prog_11_method_12_code 12 = .ok (.iload_n 1, 1) := by decide +kernel
theorem d_Mo_outOf_13 : decode prog_11_method_12_code 13 = .ok (.imul, 1) := by decide +kernel
theorem d_Mo_outOf_14 : decode prog_11_method_12_code 14 = .ok (.aload_n 0, 1) := by decide +kernel
theorem d_Mo_outOf_15 : decode prog_11_method_12_code 15 = .ok (.getfield 13, 3) := by decide +kernel
theorem d_Mo_outOf_18 : decode prog_11_method_12_code 18 = .ok (.iload_n 1, 1) := by decide +kernel
theorem d_Mo_outOf_19 : decode prog_11_method_12_code 19 = .ok (.iaload, 1) := by decide +kernel
theorem d_Mo_outOf_20 : decode prog_11_method_12_code 20 = .ok (.iadd, 1) := by decide +kernel
theorem d_Mo_outOf_21 : decode prog_11_method_12_code 21 = .ok (.if_icmp .ge 56, 3) := by decide +kernel
theorem d_Mo_outOf_24 : decode prog_11_method_12_code 24 = .ok (.iload_n 3, 1) := by decide +kernel
theorem d_Mo_outOf_25 : decode prog_11_method_12_code 25 = .ok (.aload_n 0, 1) := by decide +kernel
theorem d_Mo_outOf_26 : decode prog_11_method_12_code 26 = .ok (.getfield 16, 3) := by decide +kernel
theorem d_Mo_outOf_29 : decode prog_11_method_12_code 29 = .ok (.iload 4, 2) := by decide +kernel
theorem d_Mo_outOf_31 : decode prog_11_method_12_code 31 = .ok (.iaload, 1) := by decide +kernel
theorem d_Mo_outOf_32 : decode prog_11_method_12_code 32 = .ok (.iload_n 2, 1) := by decide +kernel
theorem d_Mo_outOf_33 : decode prog_11_method_12_code 33 = .ok (.if_icmp .ne 13, 3) := by decide +kernel
theorem d_Mo_outOf_36 : decode prog_11_method_12_code 36 = .ok (.aload_n 0, 1) := by decide +kernel
theorem d_Mo_outOf_37 : decode prog_11_method_12_code 37 = .ok (.getfield 22, 3) := by decide +kernel
theorem d_Mo_outOf_40 : decode prog_11_method_12_code 40 = .ok (.iload 4, 2) := by decide +kernel
theorem d_Mo_outOf_42 : decode prog_11_method_12_code 42 = .ok (.iaload, 1) := by decide +kernel
theorem d_Mo_outOf_43 : decode prog_11_method_12_code 43 = .ok (.goto 26, 3) := by decide +kernel
theorem d_Mo_outOf_46 : decode prog_11_method_12_code 46 = .ok (.aload_n 0, 1) := by decide +kernel
theorem d_Mo_outOf_47 : decode prog_11_method_12_code 47 = .ok (.getfield 19, 3) := by decide +kernel
theorem d_Mo_outOf_50 : decode prog_11_method_12_code 50 = .ok (.iload 4, 2) := by decide +kernel
theorem d_Mo_outOf_52 : decode prog_11_method_12_code 52 = .ok (.iaload, 1) := by decide +kernel
theorem d_Mo_outOf_53 : decode prog_11_method_12_code 53 = .ok (.iload_n 2, 1) := by decide +kernel
theorem d_Mo_outOf_54 : decode prog_11_method_12_code 54 = .ok (.if_icmp .ne 14, 3) := by decide +kernel
theorem d_Mo_outOf_57 : decode prog_11_method_12_code 57 = .ok (.aload_n 0, 1) := by decide +kernel
theorem d_Mo_outOf_58 : decode prog_11_method_12_code 58 = .ok (.getfield 22, 3) := by decide +kernel
theorem d_Mo_outOf_61 : decode prog_11_method_12_code 61 = .ok (.iload 4, 2) := by decide +kernel
theorem d_Mo_outOf_63 : decode prog_11_method_12_code 63 = .ok (.iaload, 1) := by decide +kernel
theorem d_Mo_outOf_64 : decode prog_11_method_12_code 64 = .ok (.ineg, 1) := by decide +kernel
theorem d_Mo_outOf_65 : decode prog_11_method_12_code 65 = .ok (.goto 4, 3) := by decide +kernel
theorem d_Mo_outOf_68 : decode prog_11_method_12_code 68 = .ok (.iconst 0, 1) := by decide +kernel
theorem d_Mo_outOf_69 : decode prog_11_method_12_code 69 = .ok (.iadd, 1) := by decide +kernel
theorem d_Mo_outOf_70 : decode prog_11_method_12_code 70 = .ok (.istore_n 3, 1) := by decide +kernel
theorem d_Mo_outOf_71 : decode prog_11_method_12_code 71 = .ok (.iinc 4 1, 3) := by decide +kernel
theorem d_Mo_outOf_74 : decode prog_11_method_12_code 74 = .ok (.goto (-66), 3) := by decide +kernel
theorem d_Mo_outOf_77 : decode prog_11_method_12_code 77 = .ok (.iload_n 3, 1) := by decide +kernel
theorem d_Mo_outOf_78 : decode prog_11_method_12_code 78 = .ok (.ireturn, 1) := by decide +kernel
theorem d_Mo_isRight_0 : decode prog_11_method_13_code 0 = .ok (.iconst 1, 1) := by decide +kernel
theorem d_Mo_isRight_1 : decode prog_11_method_13_code 1 = .ok (.istore_n 2, 1) := by decide +kernel
theorem d_Mo_isRight_2 : decode prog_11_method_13_code 2 = .ok (.iconst 0, 1) := by decide +kernel
theorem d_Mo_isRight_3 : decode prog_11_method_13_code 3 = .ok (.istore_n 3, 1) := by decide +kernel
theorem d_Mo_isRight_4 : decode prog_11_method_13_code 4 = .ok (.iload_n 3, 1) := by decide +kernel
theorem d_Mo_isRight_5 : decode prog_11_method_13_code 5 = .ok (.aload_n 0, 1) := by decide +kernel
theorem d_Mo_isRight_6 : decode prog_11_method_13_code 6 = .ok (.getfield 7, 3) := by decide +kernel
theorem d_Mo_isRight_9 : decode prog_11_method_13_code 9 = .ok (.iload_n 1, 1) := by decide +kernel
theorem d_Mo_isRight_10 : decode prog_11_method_13_code 10 = .ok (.iaload, 1) := by decide +kernel
theorem d_Mo_isRight_11 : decode prog_11_method_13_code 11 = .ok (.if_icmp .ge 29, 3) := by decide +kernel
theorem d_Mo_isRight_14 : decode prog_11_method_13_code 14 = .ok (.iload_n 2, 1) := by decide +kernel
theorem d_Mo_isRight_15 : decode prog_11_method_13_code 15 = .ok (.ifCond .eq 17, 3) := by decide +kernel
theorem d_Mo_isRight_18 : decode prog_11_method_13_code 18 = .ok (.aload_n 0, 1) := by decide +kernel
theorem d_Mo_isRight_19 : decode prog_11_method_13_code 19 = .ok (.iload_n 1, 1) := by decide +kernel
theorem d_Mo_isRight_20 : decode prog_11_method_13_code 20 = .ok (.iload_n 3, 1) := by decide +kernel
theorem d_Mo_isRight_21 : decode prog_11_method_13_code 21 = .ok (.invokevirtual 128, 3) := by decide +kernel
theorem d_Mo_isRight_24 : decode prog_11_method_13_code 24 = .ok (.iconst 1, 1) := by decide +kernel
theorem d_Mo_isRight_25 : decode prog_11_method_13_code 25 = .ok (.if_icmp .gt 7, 3) := by decide +kernel
theorem d_Mo_isRight_28 : decode prog_11_method_13_code 28 = .ok (.iconst 1, 1) := by decide +kernel
theorem d_Mo_isRight_29 : decode prog_11_method_13_code 29 = .ok (.goto 4, 3) := by decide +kernel
theorem d_Mo_isRight_32 : decode prog_11_method_13_code 32 = .ok (.iconst 0, 1) := by decide +kernel
theorem d_Mo_isRight_33 : decode prog_11_method_13_code 33 = .ok (.istore_n 2, 1) := by decide +kernel
theorem d_Mo_isRight_34 : decode prog_11_method_13_code 34 = .ok (.iinc 3 1, 3) := by decide +kernel
theorem d_Mo_isRight_37 : decode prog_11_method_13_code 37 = .ok (.goto (-33), 3) := by decide +kernel
theorem d_Mo_isRight_40 : decode prog_11_method_13_code 40 = .ok (.iload_n 2, 1) := by decide +kernel
theorem d_Mo_isRight_41 : decode prog_11_method_13_code 41 = .ok (.ireturn, 1) := by decide +kernel
theorem d_Mo_knots_0 : decode prog_11_method_14_code 0 = .ok (.aload_n 0, 1) := by decide +kernel
theorem d_Mo_knots_1 : decode prog_11_method_14_code 1 = .ok (.getfield 7, 3) := by decide +kernel
theorem d_Mo_knots_4 : decode prog_11_method_14_code 4 = .ok (.iload_n 1, 1) := by decide +kernel
theorem d_Mo_knots_5 : decode prog_11_method_14_code 5 = .ok (.iaload, 1) := by decide +kernel
theorem d_Mo_knots_6 : decode prog_11_method_14_code 6 = .ok (.aload_n 0, 1) := by decide +kernel
theorem d_Mo_knots_7 : decode prog_11_method_14_code 7 = .ok (.getfield 7, 3) := by decide +kernel
theorem d_Mo_knots_10 : decode prog_11_method_14_code 10 = .ok (.iload_n 1, 1) := by decide +kernel
theorem d_Mo_knots_11 : decode prog_11_method_14_code 11 = .ok (.iaload, 1) := by decide +kernel
theorem d_Mo_knots_12 : decode prog_11_method_14_code 12 = .ok (.iconst 1, 1) := by decide +kernel
theorem d_Mo_knots_13 : decode prog_11_method_14_code 13 = .ok (.isub, 1) := by decide +kernel
theorem d_Mo_knots_14 : decode prog_11_method_14_code 14 = .ok (.imul, 1) := by decide +kernel
theorem d_Mo_knots_15 : decode prog_11_method_14_code 15 = .ok (.iconst 2, 1) := by decide +kernel
theorem d_Mo_knots_16 : decode prog_11_method_14_code 16 = .ok (.idiv, 1) := by decide +kernel
theorem d_Mo_knots_17 : decode prog_11_method_14_code 17 = .ok (.aload_n 0, 1) := by decide +kernel
theorem d_Mo_knots_18 : decode prog_11_method_14_code 18 = .ok (.getfield 13, 3) := by decide +kernel
theorem d_Mo_knots_21 : decode prog_11_method_14_code 21 = .ok (.iload_n 1, 1) := by decide +kernel
theorem d_Mo_knots_22 : decode prog_11_method_14_code 22 = .ok (.iaload, 1) := by decide +kernel
theorem d_Mo_knots_23 : decode prog_11_method_14_code 23 = .ok (.isub, 1) := by decide +kernel
theorem d_Mo_knots_24 : decode prog_11_method_14_code 24 = .ok (.ireturn, 1) := by decide +kernel
theorem d_Mo_partsOf_0 : decode prog_11_method_15_code 0 = .ok (.iconst 0, 1) := by decide +kernel
theorem d_Mo_partsOf_1 : decode prog_11_method_15_code 1 = .ok (.istore_n 2, 1) := by decide +kernel
theorem d_Mo_partsOf_2 : decode prog_11_method_15_code 2 = .ok (.iconst 0, 1) := by decide +kernel
theorem d_Mo_partsOf_3 : decode prog_11_method_15_code 3 = .ok (.istore_n 3, 1) := by decide +kernel
theorem d_Mo_partsOf_4 : decode prog_11_method_15_code 4 = .ok (.iconst 0, 1) := by decide +kernel
theorem d_Mo_partsOf_5 : decode prog_11_method_15_code 5 = .ok (.istore 4, 2) := by decide +kernel
theorem d_Mo_partsOf_7 : decode prog_11_method_15_code 7 = .ok (.iload 4, 2) := by decide +kernel
theorem d_Mo_partsOf_9 : decode prog_11_method_15_code 9 = .ok (.aload_n 0, 1) := by decide +kernel
theorem d_Mo_partsOf_10 : decode prog_11_method_15_code 10 = .ok (.getfield 7, 3) := by decide +kernel
theorem d_Mo_partsOf_13 : decode prog_11_method_15_code 13 = .ok (.iload_n 1, 1) := by decide +kernel
theorem d_Mo_partsOf_14 : decode prog_11_method_15_code 14 = .ok (.iaload, 1) := by decide +kernel
theorem d_Mo_partsOf_15 : decode prog_11_method_15_code 15 = .ok (.if_icmp .ge 115, 3) := by decide +kernel
theorem d_Mo_partsOf_18 : decode prog_11_method_15_code 18 = .ok (.iload_n 3, 1) := by decide +kernel
theorem d_Mo_partsOf_19 : decode prog_11_method_15_code 19 = .ok (.iload 4, 2) := by decide +kernel
theorem d_Mo_partsOf_21 : decode prog_11_method_15_code 21 = .ok (.ishr, 1) := by decide +kernel
theorem d_Mo_partsOf_22 : decode prog_11_method_15_code 22 = .ok (.iconst 1, 1) := by decide +kernel
theorem d_Mo_partsOf_23 : decode prog_11_method_15_code 23 = .ok (.iand, 1) := by decide +kernel
theorem d_Mo_partsOf_24 : decode prog_11_method_15_code 24 = .ok (.ifCond .ne 100, 3) := by decide +kernel
theorem d_Mo_partsOf_27 : decode prog_11_method_15_code 27 = .ok (.iinc 2 1, 3) := by decide +kernel
theorem d_Mo_partsOf_30 : decode prog_11_method_15_code 30 = .ok (.iconst 1, 1) := by decide +kernel
theorem d_Mo_partsOf_31 : decode prog_11_method_15_code 31 = .ok (.iload 4, 2) := by decide +kernel
theorem d_Mo_partsOf_33 : decode prog_11_method_15_code 33 = .ok (.ishl, 1) := by decide +kernel
theorem d_Mo_partsOf_34 : decode prog_11_method_15_code 34 = .ok (.istore 5, 2) := by decide +kernel
theorem d_Mo_partsOf_36 : decode prog_11_method_15_code 36 = .ok (.iconst 0, 1) := by decide +kernel
theorem d_Mo_partsOf_37 : decode prog_11_method_15_code 37 = .ok (.istore 6, 2) := by decide +kernel
theorem d_Mo_partsOf_39 : decode prog_11_method_15_code 39 = .ok (.iload 6, 2) := by decide +kernel
theorem d_Mo_partsOf_41 : decode prog_11_method_15_code 41 = .ok (.iconst 4, 1) := by decide +kernel
theorem d_Mo_partsOf_42 : decode prog_11_method_15_code 42 = .ok (.if_icmp .ge 77, 3) := by decide +kernel
theorem d_Mo_partsOf_45 : decode prog_11_method_15_code 45 = .ok (.bipush 6, 2) := by decide +kernel
theorem d_Mo_partsOf_47 : decode prog_11_method_15_code 47 = .ok (.iload_n 1, 1) := by decide +kernel
theorem d_Mo_partsOf_48 : decode prog_11_method_15_code 48 = .ok (.imul, 1) := by decide +kernel
theorem d_Mo_partsOf_49 : decode prog_11_method_15_code 49 = .ok (.istore 7, 2) := by decide +kernel
theorem d_Mo_partsOf_51 : decode prog_11_method_15_code 51 = .ok (.iload 7, 2) := by decide +kernel
theorem d_Mo_partsOf_53 : decode prog_11_method_15_code 53 = .ok (.bipush 6, 2) := by decide +kernel
theorem d_Mo_partsOf_55 : decode prog_11_method_15_code 55 = .ok (.iload_n 1, 1) := by decide +kernel
theorem d_Mo_partsOf_56 : decode prog_11_method_15_code 56 = .ok (.imul, 1) := by decide +kernel
theorem d_Mo_partsOf_57 : decode prog_11_method_15_code 57 = .ok (.aload_n 0, 1) := by decide +kernel
theorem d_Mo_partsOf_58 : decode prog_11_method_15_code 58 = .ok (.getfield 13, 3) := by decide +kernel
theorem d_Mo_partsOf_61 : decode prog_11_method_15_code 61 = .ok (.iload_n 1, 1) := by decide +kernel
theorem d_Mo_partsOf_62 : decode prog_11_method_15_code 62 = .ok (.iaload, 1) := by decide +kernel
theorem d_Mo_partsOf_63 : decode prog_11_method_15_code 63 = .ok (.iadd, 1) := by decide +kernel
theorem d_Mo_partsOf_64 : decode prog_11_method_15_code 64 = .ok (.if_icmp .ge 49, 3) := by decide +kernel
theorem d_Mo_partsOf_67 : decode prog_11_method_15_code 67 = .ok (.iconst 1, 1) := by decide +kernel
theorem d_Mo_partsOf_68 : decode prog_11_method_15_code 68 = .ok (.aload_n 0, 1) := by decide +kernel
theorem d_Mo_partsOf_69 : decode prog_11_method_15_code 69 = .ok (.getfield 16, 3) := by decide +kernel
theorem d_Mo_partsOf_72 : decode prog_11_method_15_code 72 = .ok (.iload 7, 2) := by decide +kernel
theorem d_Mo_partsOf_74 : decode prog_11_method_15_code 74 = .ok (.iaload, 1) := by decide +kernel
theorem d_Mo_partsOf_75 : decode prog_11_method_15_code 75 = .ok (.ishl, 1) := by decide +kernel
theorem d_Mo_partsOf_76 : decode prog_11_method_15_code 76 = .ok (.iconst 1, 1) := by decide +kernel
theorem d_Mo_partsOf_77 : decode prog_11_method_15_code 77 = .ok (.aload_n 0, 1) := by decide +kernel
theorem d_Mo_partsOf_78 : decode prog_11_method_15_code 78 = .ok (.getfield 19, 3) := by decide +kernel
theorem d_Mo_partsOf_81 : decode prog_11_method_15_code 81 = .ok (.iload 7, 2) := by decide +kernel
theorem d_Mo_partsOf_83 : decode prog_11_method_15_code 83 = .ok (.iaload, 1) := by decide +kernel
theorem d_Mo_partsOf_84 : decode prog_11_method_15_code 84 = .ok (.ishl, 1) := by decide +kernel
theorem d_Mo_partsOf_85 : decode prog_11_method_15_code 85 = .ok (.ior, 1) := by decide +kernel
theorem d_Mo_partsOf_86 : decode prog_11_method_15_code 86 = .ok (.istore 8, 2) := by decide +kernel
theorem d_Mo_partsOf_88 : decode prog_11_method_15_code 88 = .ok (.iload 5, 2) := by decide +kernel
theorem d_Mo_partsOf_90 : decode prog_11_method_15_code 90 = .ok (.iload 5, 2) := by decide +kernel
theorem d_Mo_partsOf_92 : decode prog_11_method_15_code 92 = .ok (.iload 8, 2) := by decide +kernel
theorem d_Mo_partsOf_94 : decode prog_11_method_15_code 94 = .ok (.iand, 1) := by decide +kernel
theorem d_Mo_partsOf_95 : decode prog_11_method_15_code 95 = .ok (.ifCond .eq 8, 3) := by decide +kernel
theorem d_Mo_partsOf_98 : decode prog_11_method_15_code 98 = .ok (.iload 8, 2) := by decide +kernel
theorem d_Mo_partsOf_100 : decode prog_11_method_15_code 100 = .ok (.goto 4, 3) := by decide +kernel
theorem d_Mo_partsOf_103 : decode prog_11_method_15_code 103 = .ok (.iconst 0, 1) := by decide +kernel
theorem d_Mo_partsOf_104 : decode prog_11_method_15_code 104 = .ok (.ior, 1) := by decide +kernel
theorem d_Mo_partsOf_105 : decode prog_11_method_15_code 105 = .ok (.istore 5, 2) := by decide +kernel
theorem d_Mo_partsOf_107 : decode prog_11_method_15_code 107 = .ok (.iinc 7 1, 3) := by decide +kernel
theorem d_Mo_partsOf_110 : decode prog_11_method_15_code 110 = .ok (.goto (-59), 3) := by decide +kernel
theorem d_Mo_partsOf_113 : decode prog_11_method_15_code 113 = .ok (.iinc 6 1, 3) := by decide +kernel
theorem d_Mo_partsOf_116 : decode prog_11_method_15_code 116 = .ok (.goto (-77), 3) := by decide +kernel
theorem d_Mo_partsOf_119 : decode prog_11_method_15_code 119 = .ok (.iload_n 3, 1) := by decide +kernel
theorem d_Mo_partsOf_120 : decode prog_11_method_15_code 120 = .ok (.iload 5, 2) := by decide +kernel
theorem d_Mo_partsOf_122 : decode prog_11_method_15_code 122 = .ok (.ior, 1) := by decide +kernel
theorem d_Mo_partsOf_123 : decode prog_11_method_15_code 123 = .ok (.istore_n 3, 1) := by decide +kernel
theorem d_Mo_partsOf_124 : decode prog_11_method_15_code 124 = .ok (.iinc 4 1, 3) := by decide +kernel
theorem d_Mo_partsOf_127 : decode prog_11_method_15_code 127 = .ok (.goto (-120), 3) := by decide +kernel
theorem d_Mo_partsOf_130 : decode prog_11_method_15_code 130 = .ok (.iload_n 2, 1) := by decide +kernel
theorem d_Mo_partsOf_131 : decode prog_11_method_15_code 131 = .ok (.ireturn, 1) := by decide +kernel
theorem d_Mo_multOf_0 : decode prog_11_method_16_code 0 = .ok (.iconst 1, 1) := by decide +kernel
theorem d_Mo_multOf_1 : decode prog_11_method_16_code 1 = .ok (.istore_n 2, 1) := by decide +kernel
theorem d_Mo_multOf_2 : decode prog_11_method_16_code 2 = .ok (.bipush 6, 2) := by decide +kernel
theorem d_Mo_multOf_4 : decode prog_11_method_16_code 4 = .ok (.iload_n 1, 1) := by decide +kernel
theorem d_Mo_multOf_5 : decode prog_11_method_16_code 5 = .ok (.imul, 1) := by decide +kernel
theorem d_Mo_multOf_6 : decode prog_11_method_16_code 6 = .ok (.istore_n 3, 1) := by decide +kernel
theorem d_Mo_multOf_7 : decode prog_11_method_16_code 7 = .ok (.iload_n 3, 1) := by decide +kernel
theorem d_Mo_multOf_8 : decode prog_11_method_16_code 8 = .ok (.bipush 6, 2) := by decide +kernel
theorem d_Mo_multOf_10 : decode prog_11_method_16_code 10 = .ok (.iload_n 1, 1) := by decide +kernel
theorem d_Mo_multOf_11 : decode prog_11_method_16_code 11 = .ok (.imul, 1) := by decide +kernel
theorem d_Mo_multOf_12 : decode prog_11_method_16_code 12 = .ok (.aload_n 0, 1) := by decide +kernel
theorem d_Mo_multOf_13 : decode prog_11_method_16_code 13 = .ok (.getfield 13, 3) := by decide +kernel
theorem d_Mo_multOf_16 : decode prog_11_method_16_code 16 = .ok (.iload_n 1, 1) := by decide +kernel
theorem d_Mo_multOf_17 : decode prog_11_method_16_code 17 = .ok (.iaload, 1) := by decide +kernel
theorem d_Mo_multOf_18 : decode prog_11_method_16_code 18 = .ok (.iadd, 1) := by decide +kernel
theorem d_Mo_multOf_19 : decode prog_11_method_16_code 19 = .ok (.if_icmp .ge 25, 3) := by decide +kernel
theorem d_Mo_multOf_22 : decode prog_11_method_16_code 22 = .ok (.iload_n 2, 1) := by decide +kernel
theorem d_Mo_multOf_23 : decode prog_11_method_16_code 23 = .ok (.aload_n 0, 1) := by decide +kernel
theorem d_Mo_multOf_24 : decode prog_11_method_16_code 24 = .ok (.getfield 22, 3) := by decide +kernel
theorem d_Mo_multOf_27 : decode prog_11_method_16_code 27 = .ok (.iload_n 3, 1) := by decide +kernel
theorem d_Mo_multOf_28 : decode prog_11_method_16_code 28 = .ok (.iaload, 1) := by decide +kernel
theorem d_Mo_multOf_29 : decode prog_11_method_16_code 29 = .ok (.aload_n 0, 1) := by decide +kernel
theorem d_Mo_multOf_30 : decode prog_11_method_16_code 30 = .ok (.getfield 22, 3) := by decide +kernel
theorem d_Mo_multOf_33 : decode prog_11_method_16_code 33 = .ok (.iload_n 3, 1) := by decide +kernel
theorem d_Mo_multOf_34 : decode prog_11_method_16_code 34 = .ok (.iaload, 1) := by decide +kernel
theorem d_Mo_multOf_35 : decode prog_11_method_16_code 35 = .ok (.imul, 1) := by decide +kernel
theorem d_Mo_multOf_36 : decode prog_11_method_16_code 36 = .ok (.imul, 1) := by decide +kernel
theorem d_Mo_multOf_37 : decode prog_11_method_16_code 37 = .ok (.istore_n 2, 1) := by decide +kernel
theorem d_Mo_multOf_38 : decode prog_11_method_16_code 38 = .ok (.iinc 3 1, 3) := by decide +kernel
theorem d_Mo_multOf_41 : decode prog_11_method_16_code 41 = .ok (.goto (-34), 3) := by decide +kernel
theorem d_Mo_multOf_44 : decode prog_11_method_16_code 44 = .ok (.iload_n 2, 1) := by decide +kernel
theorem d_Mo_multOf_45 : decode prog_11_method_16_code 45 = .ok (.ireturn, 1) := by decide +kernel
theorem d_Mo_signOf_0 : decode prog_11_method_17_code 0 = .ok (.iconst 1, 1) := by decide +kernel
theorem d_Mo_signOf_1 : decode prog_11_method_17_code 1 = .ok (.istore_n 2, 1) := by decide +kernel
theorem d_Mo_signOf_2 : decode prog_11_method_17_code 2 = .ok (.bipush 6, 2) := by decide +kernel
theorem d_Mo_signOf_4 : decode prog_11_method_17_code 4 = .ok (.iload_n 1, 1) := by decide +kernel
theorem d_Mo_signOf_5 : decode prog_11_method_17_code 5 = .ok (.imul, 1) := by decide +kernel
theorem d_Mo_signOf_6 : decode prog_11_method_17_code 6 = .ok (.istore_n 3, 1) := by decide +kernel
theorem d_Mo_signOf_7 : decode prog_11_method_17_code 7 = .ok (.iload_n 3, 1) := by decide +kernel
theorem d_Mo_signOf_8 : decode prog_11_method_17_code 8 = .ok (.bipush 6, 2) := by decide +kernel
theorem d_Mo_signOf_10 : decode prog_11_method_17_code 10 = .ok (.iload_n 1, 1) := by decide +kernel
theorem d_Mo_signOf_11 : decode prog_11_method_17_code 11 = .ok (.imul, 1) := by decide +kernel
theorem d_Mo_signOf_12 : decode prog_11_method_17_code 12 = .ok (.aload_n 0, 1) := by decide +kernel
theorem d_Mo_signOf_13 : decode prog_11_method_17_code 13 = .ok (.getfield 13, 3) := by decide +kernel
theorem d_Mo_signOf_16 : decode prog_11_method_17_code 16 = .ok (.iload_n 1, 1) := by decide +kernel
theorem d_Mo_signOf_17 : decode prog_11_method_17_code 17 = .ok (.iaload, 1) := by decide +kernel
theorem d_Mo_signOf_18 : decode prog_11_method_17_code 18 = .ok (.iadd, 1) := by decide +kernel
theorem d_Mo_signOf_19 : decode prog_11_method_17_code 19 = .ok (.if_icmp .ge 26, 3) := by decide +kernel
theorem d_Mo_signOf_22 : decode prog_11_method_17_code 22 = .ok (.aload_n 0, 1) := by decide +kernel
theorem d_Mo_signOf_23 : decode prog_11_method_17_code 23 = .ok (.getfield 22, 3) := by decide +kernel
theorem d_Mo_signOf_26 : decode prog_11_method_17_code 26 = .ok (.iload_n 3, 1) := by decide +kernel
theorem d_Mo_signOf_27 : decode prog_11_method_17_code 27 = .ok (.iaload, 1) := by decide +kernel
theorem d_Mo_signOf_28 : decode prog_11_method_17_code 28 = .ok (.iconst 2, 1) := by decide +kernel
theorem d_Mo_signOf_29 : decode prog_11_method_17_code 29 = .ok (.irem, 1) := by decide +kernel
theorem d_Mo_signOf_30 : decode prog_11_method_17_code 30 = .ok (.ifCond .ne 7, 3) := by decide +kernel
theorem d_Mo_signOf_33 : decode prog_11_method_17_code 33 = .ok (.iconst 0, 1) := by decide +kernel
theorem d_Mo_signOf_34 : decode prog_11_method_17_code 34 = .ok (.goto 4, 3) := by decide +kernel
theorem d_Mo_signOf_37 : decode prog_11_method_17_code 37 = .ok (.iload_n 2, 1) := by decide +kernel
theorem d_Mo_signOf_38 : decode prog_11_method_17_code 38 = .ok (.istore_n 2, 1) := by decide +kernel
theorem d_Mo_signOf_39 : decode prog_11_method_17_code 39 = .ok (.iinc 3 1, 3) := by decide +kernel
theorem d_Mo_signOf_42 : decode prog_11_method_17_code 42 = .ok (.goto (-35), 3) := by decide +kernel
theorem d_Mo_signOf_45 : decode prog_11_method_17_code 45 = .ok (.iload_n 2, 1) := by decide +kernel
theorem d_Mo_signOf_46 : decode prog_11_method_17_code 46 = .ok (.ireturn, 1) := by decide +kernel
theorem d_Mo_about_0 : decode prog_11_method_18_code 0 = .ok (.aload_n 0, 1) := by decide +kernel
theorem d_Mo_about_1 : decode prog_11_method_18_code 1 = .ok (.iload_n 1, 1) := by decide +kernel
theorem d_Mo_about_2 : decode prog_11_method_18_code 2 = .ok (.invokevirtual 117, 3) := by decide +kernel
theorem d_Mo_about_5 : decode prog_11_method_18_code 5 = .ok (.ifCond .eq 15, 3) := by decide +kernel
theorem d_Mo_about_8 : decode prog_11_method_18_code 8 = .ok (.iload_n 2, 1) := by decide +kernel
theorem d_Mo_about_9 : decode prog_11_method_18_code 9 = .ok (.i2l, 1) := by decide +kernel
theorem d_Mo_about_10 : decode prog_11_method_18_code 10 = .ok (.lconst 0, 1) := by decide +kernel
theorem d_Mo_about_11 : decode prog_11_method_18_code 11 = .ok (.ldc2_w 132, 3) := by decide +kernel
theorem d_Mo_about_14 : decode prog_11_method_18_code 14 = .ok (.invokestatic 107, 3) := by decide +kernel
theorem d_Mo_about_17 : decode prog_11_method_18_code 17 = .ok (.ifCond .ne 5, 3) := by decide +kernel
theorem d_Mo_about_20 : decode prog_11_method_18_code 20 = .ok (.iconst (-1), 1) := by decide +kernel
theorem d_Mo_about_21 : decode prog_11_method_18_code 21 = .ok (.ireturn, 1) := by decide +kernel
theorem d_Mo_about_22 : decode prog_11_method_18_code 22 = .ok (.iload_n 2, 1) := by decide +kernel
theorem d_Mo_about_23 : decode prog_11_method_18_code 23 = .ok (.ifCond .ne 12, 3) := by decide +kernel
theorem d_Mo_about_26 : decode prog_11_method_18_code 26 = .ok (.aload_n 0, 1) := by decide +kernel
theorem d_Mo_about_27 : decode prog_11_method_18_code 27 = .ok (.getfield 7, 3) := by decide +kernel
theorem d_Mo_about_30 : decode prog_11_method_18_code 30 = .ok (.iload_n 1, 1) := by decide +kernel
theorem d_Mo_about_31 : decode prog_11_method_18_code 31 = .ok (.iaload, 1) := by decide +kernel
theorem d_Mo_about_32 : decode prog_11_method_18_code 32 = .ok (.goto 82, 3) := by decide +kernel
theorem d_Mo_about_35 : decode prog_11_method_18_code 35 = .ok (.iload_n 2, 1) := by decide +kernel
theorem d_Mo_about_36 : decode prog_11_method_18_code 36 = .ok (.iconst 1, 1) := by decide +kernel
theorem d_Mo_about_37 : decode prog_11_method_18_code 37 = .ok (.if_icmp .ne 12, 3) := by decide +kernel
theorem d_Mo_about_40 : decode prog_11_method_18_code 40 = .ok (.aload_n 0, 1) := by decide +kernel
theorem d_Mo_about_41 : decode prog_11_method_18_code 41 = .ok (.getfield 13, 3) := by decide +kernel
theorem d_Mo_about_44 : decode prog_11_method_18_code 44 = .ok (.iload_n 1, 1) := by decide +kernel
theorem d_Mo_about_45 : decode prog_11_method_18_code 45 = .ok (.iaload, 1) := by decide +kernel
theorem d_Mo_about_46 : decode prog_11_method_18_code 46 = .ok (.goto 68, 3) := by decide +kernel
theorem d_Mo_about_49 : decode prog_11_method_18_code 49 = .ok (.iload_n 2, 1) := by decide +kernel
theorem d_Mo_about_50 : decode prog_11_method_18_code 50 = .ok (.iconst 2, 1) := by decide +kernel
theorem d_Mo_about_51 : decode prog_11_method_18_code 51 = .ok (.if_icmp .ne 19, 3) := by decide +kernel
theorem d_Mo_about_54 : decode prog_11_method_18_code 54 = .ok (.aload_n 0, 1) := by decide +kernel
theorem d_Mo_about_55 : decode prog_11_method_18_code 55 = .ok (.iload_n 1, 1) := by decide +kernel
theorem d_Mo_about_56 : decode prog_11_method_18_code 56 = .ok (.invokevirtual 134, 3) := by decide +kernel
theorem d_Mo_about_59 : decode prog_11_method_18_code 59 = .ok (.ifCond .eq 7, 3) := by decide +kernel
theorem d_Mo_about_62 : decode prog_11_method_18_code 62 = .ok (.iconst 1, 1) := by decide +kernel
theorem d_Mo_about_63 : decode prog_11_method_18_code 63 = .ok (.goto 51, 3) := by decide +kernel
theorem d_Mo_about_66 : decode prog_11_method_18_code 66 = .ok (.iconst 0, 1) := by decide +kernel
theorem d_Mo_about_67 : decode prog_11_method_18_code 67 = .ok (.goto 47, 3) := by decide +kernel
theorem d_Mo_about_70 : decode prog_11_method_18_code 70 = .ok (.iload_n 2, 1) := by decide +kernel
theorem d_Mo_about_71 : decode prog_11_method_18_code 71 = .ok (.iconst 3, 1) := by decide +kernel
theorem d_Mo_about_72 : decode prog_11_method_18_code 72 = .ok (.if_icmp .ne 11, 3) := by decide +kernel
theorem d_Mo_about_75 : decode prog_11_method_18_code 75 = .ok (.aload_n 0, 1) := by decide +kernel
theorem d_Mo_about_76 : decode prog_11_method_18_code 76 = .ok (.iload_n 1, 1) := by decide +kernel
theorem d_Mo_about_77 : decode prog_11_method_18_code 77 = .ok (.invokevirtual 137, 3) := by decide +kernel
theorem d_Mo_about_80 : decode prog_11_method_18_code 80 = .ok (.goto 34, 3) := by decide +kernel
theorem d_Mo_about_83 : decode prog_11_method_18_code 83 = .ok (.iload_n 2, 1) := by decide +kernel
theorem d_Mo_about_84 : decode prog_11_method_18_code 84 = .ok (.iconst 4, 1) := by decide +kernel
theorem d_Mo_about_85 : decode prog_11_method_18_code 85 = .ok (.if_icmp .ne 11, 3) := by decide +kernel
theorem d_Mo_about_88 : decode prog_11_method_18_code 88 = .ok (.aload_n 0, 1) := by decide +kernel
theorem d_Mo_about_89 : decode prog_11_method_18_code 89 = .ok (.iload_n 1, 1) := by decide +kernel
theorem d_Mo_about_90 : decode prog_11_method_18_code 90 = .ok (.invokevirtual 141, 3) := by decide +kernel
theorem d_Mo_about_93 : decode prog_11_method_18_code 93 = .ok (.goto 21, 3) := by decide +kernel
theorem d_Mo_about_96 : decode prog_11_method_18_code 96 = .ok (.iload_n 2, 1) := by decide +kernel
theorem d_Mo_about_97 : decode prog_11_method_18_code 97 = .ok (.iconst 5, 1) := by decide +kernel
theorem d_Mo_about_98 : decode prog_11_method_18_code 98 = .ok (.if_icmp .ne 11, 3) := by decide +kernel
theorem d_Mo_about_101 : decode prog_11_method_18_code 101 = .ok (.aload_n 0, 1) := by decide +kernel
theorem d_Mo_about_102 : decode prog_11_method_18_code 102 = .ok (.iload_n 1, 1) := by decide +kernel
theorem d_Mo_about_103 : decode prog_11_method_18_code 103 = .ok (.invokevirtual 144, 3) := by decide +kernel
theorem d_Mo_about_106 : decode prog_11_method_18_code 106 = .ok (.goto 8, 3) := by decide +kernel
theorem d_Mo_about_109 : decode prog_11_method_18_code 109 = .ok (.aload_n 0, 1) := by decide +kernel
theorem d_Mo_about_110 : decode prog_11_method_18_code 110 = .ok (.iload_n 1, 1) := by decide +kernel
theorem d_Mo_about_111 : decode prog_11_method_18_code 111 = .ok (.invokevirtual 147, 3) := by decide +kernel
theorem d_Mo_about_114 : decode prog_11_method_18_code 114 = .ok (.ireturn, 1) := by decide +kernel
theorem d_Mo_told_0 : decode prog_11_method_19_code 0 = .ok (.aload_n 0, 1) := by decide +kernel
theorem d_Mo_told_1 : decode prog_11_method_19_code 1 = .ok (.iload_n 1, 1) := by decide +kernel
theorem d_Mo_told_2 : decode prog_11_method_19_code 2 = .ok (.invokevirtual 117, 3) := by decide +kernel
theorem d_Mo_told_5 : decode prog_11_method_19_code 5 = .ok (.ifCond .eq 33, 3) := by decide +kernel
theorem d_Mo_told_8 : decode prog_11_method_19_code 8 = .ok (.iload_n 2, 1) := by decide +kernel
theorem d_Mo_told_9 : decode prog_11_method_19_code 9 = .ok (.i2l, 1) := by decide +kernel
theorem d_Mo_told_10 : decode prog_11_method_19_code 10 = .ok (.lconst 0, 1) := by decide +kernel
theorem d_Mo_told_11 : decode prog_11_method_19_code 11 = .ok (.aload_n 0, 1) := by decide +kernel
theorem d_Mo_told_12 : decode prog_11_method_19_code 12 = .ok (.getfield 13, 3) := by decide +kernel
theorem d_Mo_told_15 : decode prog_11_method_19_code 15 = .ok (.iload_n 1, 1) := by decide +kernel
theorem d_Mo_told_16 : decode prog_11_method_19_code 16 = .ok (.iaload, 1) := by decide +kernel
theorem d_Mo_told_17 : decode prog_11_method_19_code 17 = .ok (.iconst 1, 1) := by decide +kernel
theorem d_Mo_told_18 : decode prog_11_method_19_code 18 = .ok (.isub, 1) := by decide +kernel
theorem d_Mo_told_19 : decode prog_11_method_19_code 19 = .ok (.i2l, 1) := by decide +kernel
theorem d_Mo_told_20 : decode prog_11_method_19_code 20 = .ok (.invokestatic 107, 3) := by decide +kernel
theorem d_Mo_told_23 : decode prog_11_method_19_code 23 = .ok (.ifCond .eq 15, 3) := by decide +kernel
theorem d_Mo_told_26 : decode prog_11_method_19_code 26 = .ok (.iload_n 3, 1) := by decide +kernel
theorem d_Mo_told_27 : decode prog_11_method_19_code 27 = .ok (.i2l, 1) := by decide +kernel
theorem d_Mo_told_28 : decode prog_11_method_19_code 28 = .ok (.lconst 0, 1) := by decide +kernel
theorem d_Mo_told_29 : decode prog_11_method_19_code 29 = .ok (.ldc2_w 150, 3) := by decide +kernel
theorem d_Mo_told_32 : decode prog_11_method_19_code 32 = .ok (.invokestatic 107, 3) := by decide +kernel
theorem d_Mo_told_35 : decode prog_11_method_19_code 35 = .ok (.ifCond .ne 5, 3) := by decide +kernel
theorem d_Mo_told_38 : decode prog_11_method_19_code 38 = .ok (.iconst (-1), 1) := by decide +kernel
theorem d_Mo_told_39 : decode prog_11_method_19_code 39 = .ok (.ireturn, 1) := by decide +kernel
theorem d_Mo_told_40 : decode prog_11_method_19_code 40 = .ok (.bipush 6, 2) := by decide +kernel
theorem d_Mo_told_42 : decode prog_11_method_19_code 42 = .ok (.iload_n 1, 1) := by decide +kernel
theorem d_Mo_told_43 : decode prog_11_method_19_code 43 = .ok (.imul, 1) := by decide +kernel
theorem d_Mo_told_44 : decode prog_11_method_19_code 44 = .ok (.iload_n 2, 1) := by decide +kernel
theorem d_Mo_told_45 : decode prog_11_method_19_code 45 = .ok (.iadd, 1) := by decide +kernel
theorem d_Mo_told_46 : decode prog_11_method_19_code 46 = .ok (.istore 4, 2) := by decide +kernel
theorem d_Mo_told_48 : decode prog_11_method_19_code 48 = .ok (.iload_n 3, 1) := by decide +kernel
theorem d_Mo_told_49 : decode prog_11_method_19_code 49 = .ok (.ifCond .ne 13, 3) := by decide +kernel
theorem d_Mo_told_52 : decode prog_11_method_19_code 52 = .ok (.aload_n 0, 1) := by decide +kernel
theorem d_Mo_told_53 : decode prog_11_method_19_code 53 = .ok (.getfield 16, 3) := by decide +kernel
theorem d_Mo_told_56 : decode prog_11_method_19_code 56 = .ok (.iload 4, 2) := by decide +kernel
theorem d_Mo_told_58 : decode prog_11_method_19_code 58 = .ok (.iaload, 1) := by decide +kernel
theorem d_Mo_told_59 : decode prog_11_method_19_code 59 = .ok (.goto 25, 3) := by decide +kernel
theorem d_Mo_told_62 : decode prog_11_method_19_code 62 = .ok (.iload_n 3, 1) := by decide +kernel
theorem d_Mo_told_63 : decode prog_11_method_19_code 63 = .ok (.iconst 1, 1) := by decide +kernel
theorem d_Mo_told_64 : decode prog_11_method_19_code 64 = .ok (.if_icmp .ne 13, 3) := by decide +kernel
theorem d_Mo_told_67 : decode prog_11_method_19_code 67 = .ok (.aload_n 0, 1) := by decide +kernel
theorem d_Mo_told_68 : decode prog_11_method_19_code 68 = .ok (.getfield 19, 3) := by decide +kernel
theorem d_Mo_told_71 : decode prog_11_method_19_code 71 = .ok (.iload 4, 2) := by decide +kernel
theorem d_Mo_told_73 : decode prog_11_method_19_code 73 = .ok (.iaload, 1) := by decide +kernel
theorem d_Mo_told_74 : decode prog_11_method_19_code 74 = .ok (.goto 10, 3) := by decide +kernel
theorem d_Mo_told_77 : decode prog_11_method_19_code 77 = .ok (.aload_n 0, 1) := by decide +kernel
theorem d_Mo_told_78 : decode prog_11_method_19_code 78 = .ok (.getfield 22, 3) := by decide +kernel
theorem d_Mo_told_81 : decode prog_11_method_19_code 81 = .ok (.iload 4, 2) := by decide +kernel
theorem d_Mo_told_83 : decode prog_11_method_19_code 83 = .ok (.iaload, 1) := by decide +kernel
theorem d_Mo_told_84 : decode prog_11_method_19_code 84 = .ok (.ireturn, 1) := by decide +kernel
theorem d_Mo_out_0 : decode prog_11_method_20_code 0 = .ok (.aload_n 0, 1) := by decide +kernel
theorem d_Mo_out_1 : decode prog_11_method_20_code 1 = .ok (.iload_n 1, 1) := by decide +kernel
theorem d_Mo_out_2 : decode prog_11_method_20_code 2 = .ok (.invokevirtual 117, 3) := by decide +kernel
theorem d_Mo_out_5 : decode prog_11_method_20_code 5 = .ok (.ifCond .eq 30, 3) := by decide +kernel
theorem d_Mo_out_8 : decode prog_11_method_20_code 8 = .ok (.iload_n 2, 1) := by decide +kernel
theorem d_Mo_out_9 : decode prog_11_method_20_code 9 = .ok (.i2l, 1) := by decide +kernel
theorem d_Mo_out_10 : decode prog_11_method_20_code 10 = .ok (.lconst 0, 1) := by decide +kernel
theorem d_Mo_out_11 : decode prog_11_method_20_code 11 = .ok (.aload_n 0, 1) := by decide +kernel
theorem d_Mo_out_12 : decode prog_11_method_20_code 12 = .ok (.getfield 7, 3) := by decide +kernel
theorem d_Mo_out_15 : decode prog_11_method_20_code 15 = .ok (.iload_n 1, 1) := by decide +kernel
theorem d_Mo_out_16 : decode prog_11_method_20_code 16 = .ok (.iaload, 1) := by decide +kernel
theorem d_Mo_out_17 : decode prog_11_method_20_code 17 = .ok (.iconst 1, 1) := by decide +kernel
theorem d_Mo_out_18 : decode prog_11_method_20_code 18 = .ok (.isub, 1) := by decide +kernel
theorem d_Mo_out_19 : decode prog_11_method_20_code 19 = .ok (.i2l, 1) := by decide +kernel
theorem d_Mo_out_20 : decode prog_11_method_20_code 20 = .ok (.invokestatic 107, 3) := by decide +kernel
theorem d_Mo_out_23 : decode prog_11_method_20_code 23 = .ok (.ifCond .eq 12, 3) := by decide +kernel
theorem d_Mo_out_26 : decode prog_11_method_20_code 26 = .ok (.aload_n 0, 1) := by decide +kernel
theorem d_Mo_out_27 : decode prog_11_method_20_code 27 = .ok (.iload_n 1, 1) := by decide +kernel
theorem d_Mo_out_28 : decode prog_11_method_20_code 28 = .ok (.iload_n 2, 1) := by decide +kernel
theorem d_Mo_out_29 : decode prog_11_method_20_code 29 = .ok (.invokevirtual 128, 3) := by decide +kernel
theorem d_Mo_out_32 : decode prog_11_method_20_code 32 = .ok (.goto 6, 3) := by decide +kernel
theorem d_Mo_out_35 : decode prog_11_method_20_code 35 = .ok (.sipush (-1000), 3) := by decide +kernel
theorem d_Mo_out_38 : decode prog_11_method_20_code 38 = .ok (.ireturn, 1) := by decide +kernel
theorem d_Mo_layPowers_0 : decode prog_11_method_21_code 0 = .ok (.iconst 0, 1) := by decide +kernel
theorem d_Mo_layPowers_1 : decode prog_11_method_21_code 1 = .ok (.istore_n 2, 1) := by decide +kernel
theorem d_Mo_layPowers_2 : decode prog_11_method_21_code 2 = .ok (.iload_n 2, 1) := by decide +kernel
theorem d_Mo_layPowers_3 : decode prog_11_method_21_code 3 = .ok (.bipush 37, 2) := by decide +kernel
theorem d_Mo_layPowers_5 : decode prog_11_method_21_code 5 = .ok (.if_icmp .ge 26, 3) := by decide +kernel
theorem d_Mo_layPowers_8 : decode prog_11_method_21_code 8 = .ok (.aload_n 0, 1) := by decide +kernel
theorem d_Mo_layPowers_9 : decode prog_11_method_21_code 9 = .ok (.getfield 25, 3) := by decide +kernel
theorem d_Mo_layPowers_12 : decode prog_11_method_21_code 12 = .ok (.iload_n 2, 1) := by decide +kernel
theorem d_Mo_layPowers_13 : decode prog_11_method_21_code 13 = .ok (.iload_n 2, 1) := by decide +kernel
theorem d_Mo_layPowers_14 : decode prog_11_method_21_code 14 = .ok (.bipush 18, 2) := by decide +kernel
theorem d_Mo_layPowers_16 : decode prog_11_method_21_code 16 = .ok (.if_icmp .ne 7, 3) := by decide +kernel
theorem d_Mo_layPowers_19 : decode prog_11_method_21_code 19 = .ok (.lconst 1, 1) := by decide +kernel
theorem d_Mo_layPowers_20 : decode prog_11_method_21_code 20 = .ok (.goto 4, 3) := by decide +kernel
theorem d_Mo_layPowers_23 : decode prog_11_method_21_code 23 = .ok (.lconst 0, 1) := by decide +kernel
theorem d_Mo_layPowers_24 : decode prog_11_method_21_code 24 = .ok (.lastore, 1) := by decide +kernel
theorem d_Mo_layPowers_25 : decode prog_11_method_21_code 25 = .ok (.iinc 2 1, 3) := by decide +kernel
theorem d_Mo_layPowers_28 : decode prog_11_method_21_code 28 = .ok (.goto (-26), 3) := by decide +kernel
theorem d_Mo_layPowers_31 : decode prog_11_method_21_code 31 = .ok (.bipush 6, 2) := by decide +kernel
theorem d_Mo_layPowers_33 : decode prog_11_method_21_code 33 = .ok (.iload_n 1, 1) := by decide +kernel
theorem d_Mo_layPowers_34 : decode prog_11_method_21_code 34 = .ok (.imul, 1) := by decide +kernel
theorem d_Mo_layPowers_35 : decode prog_11_method_21_code 35 = .ok (.istore_n 2, 1) := by decide +kernel
theorem d_Mo_layPowers_36 : decode prog_11_method_21_code 36 = .ok (.iload_n 2, 1) := by decide +kernel
theorem d_Mo_layPowers_37 : decode prog_11_method_21_code 37 = .ok (.bipush 6, 2) := by decide +kernel
theorem d_Mo_layPowers_39 : decode prog_11_method_21_code 39 = .ok (.iload_n 1, 1) := by decide +kernel
theorem d_Mo_layPowers_40 : decode prog_11_method_21_code 40 = .ok (.imul, 1) := by decide +kernel
theorem d_Mo_layPowers_41 : decode prog_11_method_21_code 41 = .ok (.aload_n 0, 1) := by decide +kernel
theorem d_Mo_layPowers_42 : decode prog_11_method_21_code 42 = .ok (.getfield 13, 3) := by decide +kernel
theorem d_Mo_layPowers_45 : decode prog_11_method_21_code 45 = .ok (.iload_n 1, 1) := by decide +kernel
theorem d_Mo_layPowers_46 : decode prog_11_method_21_code 46 = .ok (.iaload, 1) := by decide +kernel
theorem d_Mo_layPowers_47 : decode prog_11_method_21_code 47 = .ok (.iadd, 1) := by decide +kernel
theorem d_Mo_layPowers_48 : decode prog_11_method_21_code 48 = .ok (.if_icmp .ge 143, 3) := by decide +kernel
theorem d_Mo_layPowers_51 : decode prog_11_method_21_code 51 = .ok (.aload_n 0, 1) := by decide +kernel
theorem d_Mo_layPowers_52 : decode prog_11_method_21_code 52 = .ok (.getfield 22, 3) := by decide +kernel
theorem d_Mo_layPowers_55 : decode prog_11_method_21_code 55 = .ok (.iload_n 2, 1) := by decide +kernel
theorem d_Mo_layPowers_56 : decode prog_11_method_21_code 56 = .ok (.iaload, 1) := by decide +kernel
theorem d_Mo_layPowers_57 : decode prog_11_method_21_code 57 = .ok (.istore_n 3, 1) := by decide +kernel
theorem d_Mo_layPowers_58 : decode prog_11_method_21_code 58 = .ok (.iconst 0, 1) := by decide +kernel
theorem d_Mo_layPowers_59 : decode prog_11_method_21_code 59 = .ok (.istore 4, 2) := by decide +kernel
theorem d_Mo_layPowers_61 : decode prog_11_method_21_code 61 = .ok (.iload 4, 2) := by decide +kernel
theorem d_Mo_layPowers_63 : decode prog_11_method_21_code 63 = .ok (.bipush 37, 2) := by decide +kernel
theorem d_Mo_layPowers_65 : decode prog_11_method_21_code 65 = .ok (.if_icmp .ge 90, 3) := by decide +kernel
theorem d_Mo_layPowers_68 : decode prog_11_method_21_code 68 = .ok (.lconst 0, 1) := by decide +kernel
theorem d_Mo_layPowers_69 : decode prog_11_method_21_code 69 = .ok (.lstore 5, 2) := by decide +kernel
theorem d_Mo_layPowers_71 : decode prog_11_method_21_code 71 = .ok (.iconst 1, 1) := by decide +kernel
theorem d_Mo_layPowers_72 : decode prog_11_method_21_code 72 = .ok (.iload_n 3, 1) := by decide +kernel
theorem d_Mo_layPowers_73 : decode prog_11_method_21_code 73 = .ok (.isub, 1) := by decide +kernel
theorem d_Mo_layPowers_74 : decode prog_11_method_21_code 74 = .ok (.istore 7, 2) := by decide +kernel
theorem d_Mo_layPowers_76 : decode prog_11_method_21_code 76 = .ok (.iload 7, 2) := by decide +kernel
theorem d_Mo_layPowers_78 : decode prog_11_method_21_code 78 = .ok (.iload_n 3, 1) := by decide +kernel
theorem d_Mo_layPowers_79 : decode prog_11_method_21_code 79 = .ok (.if_icmp .ge 61, 3) := by decide +kernel
theorem d_Mo_layPowers_82 : decode prog_11_method_21_code 82 = .ok (.lload 5, 2) := by decide +kernel
theorem d_Mo_layPowers_84 : decode prog_11_method_21_code 84 = .ok (.iload 4, 2) := by decide +kernel
theorem d_Mo_layPowers_86 : decode prog_11_method_21_code 86 = .ok (.iload 7, 2) := by decide +kernel
theorem d_Mo_layPowers_88 : decode prog_11_method_21_code 88 = .ok (.isub, 1) := by decide +kernel
theorem d_Mo_layPowers_89 : decode prog_11_method_21_code 89 = .ok (.i2l, 1) := by decide +kernel
theorem d_Mo_layPowers_90 : decode prog_11_method_21_code 90 = .ok (.lconst 0, 1) := by decide +kernel
theorem d_Mo_layPowers_91 : decode prog_11_method_21_code 91 = .ok (.ldc2_w 152, 3) := by decide +kernel
theorem d_Mo_layPowers_94 : decode prog_11_method_21_code 94 = .ok (.invokestatic 107, 3) := by decide +kernel
theorem d_Mo_layPowers_97 : decode prog_11_method_21_code 97 = .ok (.ifCond .eq 33, 3) := by decide +kernel
theorem d_Mo_layPowers_100 : decode prog_11_method_21_code 100 = .ok (.iload_n 3, 1) := by decide +kernel
theorem d_Mo_layPowers_101 : decode prog_11_method_21_code 101 = .ok (.iload 7, 2) := by decide +kernel
theorem d_Mo_layPowers_103 : decode prog_11_method_21_code 103 = .ok (.ifCond .ge 9, 3) := by decide +kernel
theorem d_Mo_layPowers_106 : decode prog_11_method_21_code 106 = .ok (.iload 7, 2) := by decide +kernel
theorem d_Mo_layPowers_108 : decode prog_11_method_21_code 108 = .ok (.ineg, 1) := by decide +kernel
theorem d_Mo_layPowers_109 : decode prog_11_method_21_code 109 = .ok (.goto 5, 3) := by decide +kernel
theorem d_Mo_layPowers_112 : decode prog_11_method_21_code 112 = .ok (.iload 7, 2) := by decide +kernel
theorem d_Mo_layPowers_114 : decode prog_11_method_21_code 114 = .ok (.isub, 1) := by decide +kernel
theorem d_Mo_layPowers_115 : decode prog_11_method_21_code 115 = .ok (.i2l, 1) := by decide +kernel
theorem d_Mo_layPowers_116 : decode prog_11_method_21_code 116 = .ok (.aload_n 0, 1) := by decide +kernel
theorem d_Mo_layPowers_117 : decode prog_11_method_21_code 117 = .ok (.getfield 25, 3) := by decide +kernel
theorem d_Mo_layPowers_120 : decode prog_11_method_21_code 120 = .ok (.iload 4, 2) := by decide +kernel
theorem d_Mo_layPowers_122 : decode prog_11_method_21_code 122 = .ok (.iload 7, 2) := by decide +kernel
theorem d_Mo_layPowers_124 : decode prog_11_method_21_code 124 = .ok (.isub, 1) := by decide +kernel
theorem d_Mo_layPowers_125 : decode prog_11_method_21_code 125 = .ok (.laload, 1) := by decide +kernel
theorem d_Mo_layPowers_126 : decode prog_11_method_21_code 126 = .ok (.lmul, 1) := by decide +kernel
theorem d_Mo_layPowers_127 : decode prog_11_method_21_code 127 = .ok (.goto 4, 3) := by decide +kernel
theorem d_Mo_layPowers_130 : decode prog_11_method_21_code 130 = .ok (.lconst 0, 1) := by decide +kernel
theorem d_Mo_layPowers_131 : decode prog_11_method_21_code 131 = .ok (.ladd, 1) := by decide +kernel
theorem d_Mo_layPowers_132 : decode prog_11_method_21_code 132 = .ok (.lstore 5, 2) := by decide +kernel
theorem d_Mo_layPowers_134 : decode prog_11_method_21_code 134 = .ok (.iinc 7 1, 3) := by decide +kernel
theorem d_Mo_layPowers_137 : decode prog_11_method_21_code 137 = .ok (.goto (-61), 3) := by decide +kernel
theorem d_Mo_layPowers_140 : decode prog_11_method_21_code 140 = .ok (.aload_n 0, 1) := by decide +kernel
theorem d_Mo_layPowers_141 : decode prog_11_method_21_code 141 = .ok (.getfield 29, 3) := by decide +kernel
theorem d_Mo_layPowers_144 : decode prog_11_method_21_code 144 = .ok (.iload 4, 2) := by decide +kernel
theorem d_Mo_layPowers_146 : decode prog_11_method_21_code 146 = .ok (.lload 5, 2) := by decide +kernel
theorem d_Mo_layPowers_148 : decode prog_11_method_21_code 148 = .ok (.lastore, 1) := by decide +kernel
theorem d_Mo_layPowers_149 : decode prog_11_method_21_code 149 = .ok (.iinc 4 1, 3) := by decide +kernel
theorem d_Mo_layPowers_152 : decode prog_11_method_21_code 152 = .ok (.goto (-91), 3) := by decide +kernel
theorem d_Mo_layPowers_155 : decode prog_11_method_21_code 155 = .ok (.iconst 0, 1) := by decide +kernel
theorem d_Mo_layPowers_156 : decode prog_11_method_21_code 156 = .ok (.istore 4, 2) := by decide +kernel
theorem d_Mo_layPowers_158 : decode prog_11_method_21_code 158 = .ok (.iload 4, 2) := by decide +kernel
theorem d_Mo_layPowers_160 : decode prog_11_method_21_code 160 = .ok (.bipush 37, 2) := by decide +kernel
theorem d_Mo_layPowers_162 : decode prog_11_method_21_code 162 = .ok (.if_icmp .ge 23, 3) := by decide +kernel
theorem d_Mo_layPowers_165 : decode prog_11_method_21_code 165 = .ok (.aload_n 0, 1) := by decide +kernel
theorem d_Mo_layPowers_166 : decode prog_11_method_21_code 166 = .ok (.getfield 25, 3) := by decide +kernel
theorem d_Mo_layPowers_169 : decode prog_11_method_21_code 169 = .ok (.iload 4, 2) := by decide +kernel
theorem d_Mo_layPowers_171 : decode prog_11_method_21_code 171 = .ok (.aload_n 0, 1) := by decide +kernel
theorem d_Mo_layPowers_172 : decode prog_11_method_21_code 172 = .ok (.getfield 29, 3) := by decide +kernel
theorem d_Mo_layPowers_175 : decode prog_11_method_21_code 175 = .ok (.iload 4, 2) := by decide +kernel
theorem d_Mo_layPowers_177 : decode prog_11_method_21_code 177 = .ok (.laload, 1) := by decide +kernel
theorem d_Mo_layPowers_178 : decode prog_11_method_21_code 178 = .ok (.lastore, 1) := by decide +kernel
theorem d_Mo_layPowers_179 : decode prog_11_method_21_code 179 = .ok (.iinc 4 1, 3) := by decide +kernel
theorem d_Mo_layPowers_182 : decode prog_11_method_21_code 182 = .ok (.goto (-24), 3) := by decide +kernel
theorem d_Mo_layPowers_185 : decode prog_11_method_21_code 185 = .ok (.iinc 2 1, 3) := by decide +kernel
theorem d_Mo_layPowers_188 : decode prog_11_method_21_code 188 = .ok (.goto (-152), 3) := by decide +kernel
theorem d_Mo_layPowers_191 : decode prog_11_method_21_code 191 = .ok (.return_, 1) := by decide +kernel
theorem d_Mo_spread_0 : decode prog_11_method_22_code 0 = .ok (.aload_n 0, 1) := by decide +kernel
theorem d_Mo_spread_1 : decode prog_11_method_22_code 1 = .ok (.iload_n 1, 1) := by decide +kernel
theorem d_Mo_spread_2 : decode prog_11_method_22_code 2 = .ok (.invokevirtual 117, 3) := by decide +kernel
theorem d_Mo_spread_5 : decode prog_11_method_22_code 5 = .ok (.ifCond .ne 7, 3) := by decide +kernel
theorem d_Mo_spread_8 : decode prog_11_method_22_code 8 = .ok (.ldc2_w 154, 3) := by decide +kernel
theorem d_Mo_spread_11 : decode prog_11_method_22_code 11 = .ok (.lreturn, 1) := by decide +kernel
theorem d_Mo_spread_12 : decode prog_11_method_22_code 12 = .ok (.aload_n 0, 1) := by decide +kernel
theorem d_Mo_spread_13 : decode prog_11_method_22_code 13 = .ok (.iload_n 1, 1) := by decide +kernel
theorem d_Mo_spread_14 : decode prog_11_method_22_code 14 = .ok (.invokevirtual 156, 3) := by decide +kernel
theorem d_Mo_spread_17 : decode prog_11_method_22_code 17 = .ok (.iload_n 2, 1) := by decide +kernel
theorem d_Mo_spread_18 : decode prog_11_method_22_code 18 = .ok (.i2l, 1) := by decide +kernel
theorem d_Mo_spread_19 : decode prog_11_method_22_code 19 = .ok (.ldc2_w 160, 3) := by decide +kernel
theorem d_Mo_spread_22 : decode prog_11_method_22_code 22 = .ok (.ldc2_w 162, 3) := by decide +kernel
theorem d_Mo_spread_25 : decode prog_11_method_22_code 25 = .ok (.invokestatic 107, 3) := by decide +kernel
theorem d_Mo_spread_28 : decode prog_11_method_22_code 28 = .ok (.ifCond .eq 15, 3) := by decide +kernel
theorem d_Mo_spread_31 : decode prog_11_method_22_code 31 = .ok (.aload_n 0, 1) := by decide +kernel
theorem d_Mo_spread_32 : decode prog_11_method_22_code 32 = .ok (.getfield 25, 3) := by decide +kernel
theorem d_Mo_spread_35 : decode prog_11_method_22_code 35 = .ok (.bipush 18, 2) := by decide +kernel
theorem d_Mo_spread_37 : decode prog_11_method_22_code 37 = .ok (.iload_n 2, 1) := by decide +kernel
theorem d_Mo_spread_38 : decode prog_11_method_22_code 38 = .ok (.iadd, 1) := by decide +kernel
theorem d_Mo_spread_39 : decode prog_11_method_22_code 39 = .ok (.laload, 1) := by decide +kernel
theorem d_Mo_spread_40 : decode prog_11_method_22_code 40 = .ok (.goto 4, 3) := by decide +kernel
theorem d_Mo_spread_43 : decode prog_11_method_22_code 43 = .ok (.lconst 0, 1) := by decide +kernel
theorem d_Mo_spread_44 : decode prog_11_method_22_code 44 = .ok (.lreturn, 1) := by decide +kernel
theorem d_Mo_kind_0 : decode prog_11_method_23_code 0 = .ok (.aload_n 0, 1) := by decide +kernel
theorem d_Mo_kind_1 : decode prog_11_method_23_code 1 = .ok (.getfield 32, 3) := by decide +kernel
theorem d_Mo_kind_4 : decode prog_11_method_23_code 4 = .ok (.aload_n 0, 1) := by decide +kernel
theorem d_Mo_kind_5 : decode prog_11_method_23_code 5 = .ok (.getfield 164, 3) := by decide +kernel
theorem d_Mo_kind_8 : decode prog_11_method_23_code 8 = .ok (.iload_n 1, 1) := by decide +kernel
theorem d_Mo_kind_9 : decode prog_11_method_23_code 9 = .ok (.iastore, 1) := by decide +kernel
theorem d_Mo_kind_10 : decode prog_11_method_23_code 10 = .ok (.aload_n 0, 1) := by decide +kernel
theorem d_Mo_kind_11 : decode prog_11_method_23_code 11 = .ok (.getfield 35, 3) := by decide +kernel
theorem d_Mo_kind_14 : decode prog_11_method_23_code 14 = .ok (.aload_n 0, 1) := by decide +kernel
theorem d_Mo_kind_15 : decode prog_11_method_23_code 15 = .ok (.getfield 164, 3) := by decide +kernel
theorem d_Mo_kind_18 : decode prog_11_method_23_code 18 = .ok (.iload_n 2, 1) := by decide +kernel
theorem d_Mo_kind_19 : decode prog_11_method_23_code 19 = .ok (.iastore, 1) := by decide +kernel
theorem d_Mo_kind_20 : decode prog_11_method_23_code 20 = .ok (.aload_n 0, 1) := by decide +kernel
theorem d_Mo_kind_21 : decode prog_11_method_23_code 21 = .ok (.getfield 38, 3) := by decide +kernel
theorem d_Mo_kind_24 : decode prog_11_method_23_code 24 = .ok (.aload_n 0, 1) := by decide +kernel
theorem d_Mo_kind_25 : decode prog_11_method_23_code 25 = .ok (.getfield 164, 3) := by decide +kernel
theorem d_Mo_kind_28 : decode prog_11_method_23_code 28 = .ok (.iload_n 3, 1) := by decide +kernel
theorem d_Mo_kind_29 : decode prog_11_method_23_code 29 = .ok (.iastore, 1) := by decide +kernel
theorem d_Mo_kind_30 : decode prog_11_method_23_code 30 = .ok (.aload_n 0, 1) := by decide +kernel
theorem d_Mo_kind_31 : decode prog_11_method_23_code 31 = .ok (.getfield 41, 3) := by decide +kernel
theorem d_Mo_kind_34 : decode prog_11_method_23_code 34 = .ok (.aload_n 0, 1) := by decide +kernel
theorem d_Mo_kind_35 : decode prog_11_method_23_code 35 = .ok (.getfield 164, 3) := by decide +kernel
theorem d_Mo_kind_38 : decode prog_11_method_23_code 38 = .ok (.aload_n 0, 1) := by decide +kernel
theorem d_Mo_kind_39 : decode prog_11_method_23_code 39 = .ok (.getfield 167, 3) := by decide +kernel
theorem d_Mo_kind_42 : decode prog_11_method_23_code 42 = .ok (.iastore, 1) := by decide +kernel
theorem d_Mo_kind_43 : decode prog_11_method_23_code 43 = .ok (.aload_n 0, 1) := by decide +kernel
theorem d_Mo_kind_44 : decode prog_11_method_23_code 44 = .ok (.dup, 1) := by decide +kernel
theorem d_Mo_kind_45 : decode prog_11_method_23_code 45 = .ok (.getfield 167, 3) := by decide +kernel
theorem d_Mo_kind_48 : decode prog_11_method_23_code 48 = .ok (.iload_n 3, 1) := by decide +kernel
theorem d_Mo_kind_49 : decode prog_11_method_23_code 49 = .ok (.iconst 1, 1) := by decide +kernel
theorem d_Mo_kind_50 : decode prog_11_method_23_code 50 = .ok (.iadd, 1) := by decide +kernel
theorem d_Mo_kind_51 : decode prog_11_method_23_code 51 = .ok (.imul, 1) := by decide +kernel
theorem d_Mo_kind_52 : decode prog_11_method_23_code 52 = .ok (.putfield 167, 3) := by decide +kernel
theorem d_Mo_kind_55 : decode prog_11_method_23_code 55 = .ok (.aload_n 0, 1) := by decide +kernel
theorem d_Mo_kind_56 : decode prog_11_method_23_code 56 = .ok (.dup, 1) := by decide +kernel
theorem d_Mo_kind_57 : decode prog_11_method_23_code 57 = .ok (.getfield 164, 3) := by decide +kernel
theorem d_Mo_kind_60 : decode prog_11_method_23_code 60 = .ok (.iconst 1, 1) := by decide +kernel
theorem d_Mo_kind_61 : decode prog_11_method_23_code 61 = .ok (.iadd, 1) := by decide +kernel
theorem d_Mo_kind_62 : decode prog_11_method_23_code 62 = .ok (.putfield 164, 3) := by decide +kernel
theorem d_Mo_kind_65 : decode prog_11_method_23_code 65 = .ok (.return_, 1) := by decide +kernel
theorem d_Mo_layKinds_0 : decode prog_11_method_24_code 0 = .ok (.aload_n 0, 1) := by decide +kernel
theorem d_Mo_layKinds_1 : decode prog_11_method_24_code 1 = .ok (.iconst 0, 1) := by decide +kernel
theorem d_Mo_layKinds_2 : decode prog_11_method_24_code 2 = .ok (.putfield 164, 3) := by decide +kernel
theorem d_Mo_layKinds_5 : decode prog_11_method_24_code 5 = .ok (.aload_n 0, 1) := by decide +kernel
theorem d_Mo_layKinds_6 : decode prog_11_method_24_code 6 = .ok (.iconst 1, 1) := by decide +kernel
theorem d_Mo_layKinds_7 : decode prog_11_method_24_code 7 = .ok (.putfield 167, 3) := by decide +kernel
theorem d_Mo_layKinds_10 : decode prog_11_method_24_code 10 = .ok (.aload_n 0, 1) := by decide +kernel
theorem d_Mo_layKinds_11 : decode prog_11_method_24_code 11 = .ok (.getfield 7, 3) := by decide +kernel
theorem d_Mo_layKinds_14 : decode prog_11_method_24_code 14 = .ok (.iload_n 1, 1) := by decide +kernel
theorem d_Mo_layKinds_15 : decode prog_11_method_24_code 15 = .ok (.iaload, 1) := by decide +kernel
theorem d_Mo_layKinds_16 : decode prog_11_method_24_code 16 = .ok (.istore_n 2, 1) := by decide +kernel
theorem d_Mo_layKinds_17 : decode prog_11_method_24_code 17 = .ok (.iconst 0, 1) := by decide +kernel
theorem d_Mo_layKinds_18 : decode prog_11_method_24_code 18 = .ok (.istore_n 3, 1) := by decide +kernel
theorem d_Mo_layKinds_19 : decode prog_11_method_24_code 19 = .ok (.iload_n 3, 1) := by decide +kernel
theorem d_Mo_layKinds_20 : decode prog_11_method_24_code 20 = .ok (.iload_n 2, 1) := by decide +kernel
theorem d_Mo_layKinds_21 : decode prog_11_method_24_code 21 = .ok (.if_icmp .ge 33, 3) := by decide +kernel
theorem d_Mo_layKinds_24 : decode prog_11_method_24_code 24 = .ok (.aload_n 0, 1) := by decide +kernel
theorem d_Mo_layKinds_25 : decode prog_11_method_24_code 25 = .ok (.iload_n 1, 1) := by decide +kernel
theorem d_Mo_layKinds_26 : decode prog_11_method_24_code 26 = .ok (.iload_n 3, 1) := by decide +kernel
theorem d_Mo_layKinds_27 : decode prog_11_method_24_code 27 = .ok (.invokevirtual 128, 3) := by decide +kernel
theorem d_Mo_layKinds_30 : decode prog_11_method_24_code 30 = .ok (.iconst 1, 1) := by decide +kernel
theorem d_Mo_layKinds_31 : decode prog_11_method_24_code 31 = .ok (.if_icmp .ge 17, 3) := by decide +kernel
theorem d_Mo_layKinds_34 : decode prog_11_method_24_code 34 = .ok (.aload_n 0, 1) := by decide +kernel
theorem d_Mo_layKinds_35 : decode prog_11_method_24_code 35 = .ok (.iload_n 3, 1) := by decide +kernel
theorem d_Mo_layKinds_36 : decode prog_11_method_24_code 36 = .ok (.iload_n 2, 1) := by decide +kernel
theorem d_Mo_layKinds_37 : decode prog_11_method_24_code 37 = .ok (.iconst 1, 1) := by decide +kernel
theorem d_Mo_layKinds_38 : decode prog_11_method_24_code 38 = .ok (.aload_n 0, 1) := by decide +kernel
theorem d_Mo_layKinds_39 : decode prog_11_method_24_code 39 = .ok (.iload_n 1, 1) := by decide +kernel
theorem d_Mo_layKinds_40 : decode prog_11_method_24_code 40 = .ok (.iload_n 3, 1) := by decide +kernel
theorem d_Mo_layKinds_41 : decode prog_11_method_24_code 41 = .ok (.invokevirtual 128, 3) := by decide +kernel
theorem d_Mo_layKinds_44 : decode prog_11_method_24_code 44 = .ok (.isub, 1) := by decide +kernel
theorem d_Mo_layKinds_45 : decode prog_11_method_24_code 45 = .ok (.invokevirtual 170, 3) := by decide +kernel
theorem d_Mo_layKinds_48 : decode prog_11_method_24_code 48 = .ok (.iinc 3 1, 3) := by decide +kernel
theorem d_Mo_layKinds_51 : decode prog_11_method_24_code 51 = .ok (.goto (-32), 3) := by decide +kernel
theorem d_Mo_layKinds_54 : decode prog_11_method_24_code 54 = .ok (.bipush 6, 2) := by decide +kernel
theorem d_Mo_layKinds_56 : decode prog_11_method_24_code 56 = .ok (.iload_n 1, 1) := by decide +kernel
theorem d_Mo_layKinds_57 : decode prog_11_method_24_code 57 = .ok (.imul, 1) := by decide +kernel
theorem d_Mo_layKinds_58 : decode prog_11_method_24_code 58 = .ok (.istore_n 3, 1) := by decide +kernel
theorem d_Mo_layKinds_59 : decode prog_11_method_24_code 59 = .ok (.iload_n 3, 1) := by decide +kernel
theorem d_Mo_layKinds_60 : decode prog_11_method_24_code 60 = .ok (.bipush 6, 2) := by decide +kernel
theorem d_Mo_layKinds_62 : decode prog_11_method_24_code 62 = .ok (.iload_n 1, 1) := by decide +kernel
theorem d_Mo_layKinds_63 : decode prog_11_method_24_code 63 = .ok (.imul, 1) := by decide +kernel
theorem d_Mo_layKinds_64 : decode prog_11_method_24_code 64 = .ok (.aload_n 0, 1) := by decide +kernel
theorem d_Mo_layKinds_65 : decode prog_11_method_24_code 65 = .ok (.getfield 13, 3) := by decide +kernel
theorem d_Mo_layKinds_68 : decode prog_11_method_24_code 68 = .ok (.iload_n 1, 1) := by decide +kernel
theorem d_Mo_layKinds_69 : decode prog_11_method_24_code 69 = .ok (.iaload, 1) := by decide +kernel
theorem d_Mo_layKinds_70 : decode prog_11_method_24_code 70 = .ok (.iadd, 1) := by decide +kernel
theorem d_Mo_layKinds_71 : decode prog_11_method_24_code 71 = .ok (.if_icmp .ge 110, 3) := by decide +kernel
theorem d_Mo_layKinds_74 : decode prog_11_method_24_code 74 = .ok (.iconst 1, 1) := by decide +kernel
theorem d_Mo_layKinds_75 : decode prog_11_method_24_code 75 = .ok (.istore 4, 2) := by decide +kernel
theorem d_Mo_layKinds_77 : decode prog_11_method_24_code 77 = .ok (.iload_n 3, 1) := by decide +kernel
theorem d_Mo_layKinds_78 : decode prog_11_method_24_code 78 = .ok (.iload 4, 2) := by decide +kernel
theorem d_Mo_layKinds_80 : decode prog_11_method_24_code 80 = .ok (.iadd, 1) := by decide +kernel
theorem d_Mo_layKinds_81 : decode prog_11_method_24_code 81 = .ok (.bipush 6, 2) := by decide +kernel
theorem d_Mo_layKinds_83 : decode prog_11_method_24_code 83 = .ok (.iload_n 1, 1) := by decide +kernel
theorem d_Mo_layKinds_84 : decode prog_11_method_24_code 84 = .ok (.imul, 1) := by decide +kernel
theorem d_Mo_layKinds_85 : decode prog_11_method_24_code 85 = .ok (.aload_n 0, 1) := by decide +kernel
theorem d_Mo_layKinds_86 : decode prog_11_method_24_code 86 = .ok (.getfield 13, 3) := by decide +kernel
theorem d_Mo_layKinds_89 : decode prog_11_method_24_code 89 = .ok (.iload_n 1, 1) := by decide +kernel
theorem d_Mo_layKinds_90 : decode prog_11_method_24_code 90 = .ok (.iaload, 1) := by decide +kernel
theorem d_Mo_layKinds_91 : decode prog_11_method_24_code 91 = .ok (.iadd, 1) := by decide +kernel
theorem d_Mo_layKinds_92 : decode prog_11_method_24_code 92 = .ok (.if_icmp .ge 63, 3) := by decide +kernel
theorem d_Mo_layKinds_95 : decode prog_11_method_24_code 95 = .ok (.aload_n 0, 1) := by decide +kernel
theorem d_Mo_layKinds_96 : decode prog_11_method_24_code 96 = .ok (.getfield 16, 3) := by decide +kernel
theorem d_Mo_layKinds_99 : decode prog_11_method_24_code 99 = .ok (.iload_n 3, 1) := by decide +kernel
theorem d_Mo_layKinds_100 : decode prog_11_method_24_code 100 = .ok (.iload 4, 2) := by decide +kernel
theorem d_Mo_layKinds_102 : decode prog_11_method_24_code 102 = .ok (.iadd, 1) := by decide +kernel
theorem d_Mo_layKinds_103 : decode prog_11_method_24_code 103 = .ok (.iaload, 1) := by decide +kernel
theorem d_Mo_layKinds_104 : decode prog_11_method_24_code 104 = .ok (.aload_n 0, 1) := by decide +kernel
theorem d_Mo_layKinds_105 : decode prog_11_method_24_code 105 = .ok (.getfield 16, 3) := by decide +kernel
theorem d_Mo_layKinds_108 : decode prog_11_method_24_code 108 = .ok (.iload_n 3, 1) := by decide +kernel
theorem d_Mo_layKinds_109 : decode prog_11_method_24_code 109 = .ok (.iaload, 1) := by decide +kernel
theorem d_Mo_layKinds_110 : decode prog_11_method_24_code 110 = .ok (.if_icmp .ne 45, 3) := by decide +kernel
theorem d_Mo_layKinds_113 : decode prog_11_method_24_code 113 = .ok (.aload_n 0, 1) := by decide +kernel
theorem d_Mo_layKinds_114 : decode prog_11_method_24_code 114 = .ok (.getfield 19, 3) := by decide +kernel
theorem d_Mo_layKinds_117 : decode prog_11_method_24_code 117 = .ok (.iload_n 3, 1) := by decide +kernel
theorem d_Mo_layKinds_118 : decode prog_11_method_24_code 118 = .ok (.iload 4, 2) := by decide +kernel
theorem d_Mo_layKinds_120 : decode prog_11_method_24_code 120 = .ok (.iadd, 1) := by decide +kernel
theorem d_Mo_layKinds_121 : decode prog_11_method_24_code 121 = .ok (.iaload, 1) := by decide +kernel
theorem d_Mo_layKinds_122 : decode prog_11_method_24_code 122 = .ok (.aload_n 0, 1) := by decide +kernel
theorem d_Mo_layKinds_123 : decode prog_11_method_24_code 123 = .ok (.getfield 19, 3) := by decide +kernel
theorem d_Mo_layKinds_126 : decode prog_11_method_24_code 126 = .ok (.iload_n 3, 1) := by decide +kernel
theorem d_Mo_layKinds_127 : decode prog_11_method_24_code 127 = .ok (.iaload, 1) := by decide +kernel
theorem d_Mo_layKinds_128 : decode prog_11_method_24_code 128 = .ok (.if_icmp .ne 27, 3) := by decide +kernel
theorem d_Mo_layKinds_131 : decode prog_11_method_24_code 131 = .ok (.aload_n 0, 1) := by decide +kernel
theorem d_Mo_layKinds_132 : decode prog_11_method_24_code 132 = .ok (.getfield 22, 3) := by decide +kernel
theorem d_Mo_layKinds_135 : decode prog_11_method_24_code 135 = .ok (.iload_n 3, 1) := by decide +kernel
theorem d_Mo_layKinds_136 : decode prog_11_method_24_code 136 = .ok (.iload 4, 2) := by decide +kernel
theorem d_Mo_layKinds_138 : decode prog_11_method_24_code 138 = .ok (.iadd, 1) := by decide +kernel
theorem d_Mo_layKinds_139 : decode prog_11_method_24_code 139 = .ok (.iaload, 1) := by decide +kernel
theorem d_Mo_layKinds_140 : decode prog_11_method_24_code 140 = .ok (.aload_n 0, 1) := by decide +kernel
theorem d_Mo_layKinds_141 : decode prog_11_method_24_code 141 = .ok (.getfield 22, 3) := by decide +kernel
theorem d_Mo_layKinds_144 : decode prog_11_method_24_code 144 = .ok (.iload_n 3, 1) := by decide +kernel
theorem d_Mo_layKinds_145 : decode prog_11_method_24_code 145 = .ok (.iaload, 1) := by decide +kernel
theorem d_Mo_layKinds_146 : decode prog_11_method_24_code 146 = .ok (.if_icmp .ne 9, 3) := by decide +kernel
theorem d_Mo_layKinds_149 : decode prog_11_method_24_code 149 = .ok (.iinc 4 1, 3) := by decide +kernel
theorem d_Mo_layKinds_152 : decode prog_11_method_24_code 152 = .ok (.goto (-75), 3) := by decide +kernel
theorem d_Mo_layKinds_155 : decode prog_11_method_24_code 155 = .ok (.aload_n 0, 1) := by decide +kernel
theorem d_Mo_layKinds_156 : decode prog_11_method_24_code 156 = .ok (.aload_n 0, 1) := by decide +kernel
theorem d_Mo_layKinds_157 : decode prog_11_method_24_code 157 = .ok (.getfield 16, 3) := by decide +kernel
theorem d_Mo_layKinds_160 : decode prog_11_method_24_code 160 = .ok (.iload_n 3, 1) := by decide +kernel
theorem d_Mo_layKinds_161 : decode prog_11_method_24_code 161 = .ok (.iaload, 1) := by decide +kernel
theorem d_Mo_layKinds_162 : decode prog_11_method_24_code 162 = .ok (.aload_n 0, 1) := by decide +kernel
theorem d_Mo_layKinds_163 : decode prog_11_method_24_code 163 = .ok (.getfield 19, 3) := by decide +kernel
theorem d_Mo_layKinds_166 : decode prog_11_method_24_code 166 = .ok (.iload_n 3, 1) := by decide +kernel
theorem d_Mo_layKinds_167 : decode prog_11_method_24_code 167 = .ok (.iaload, 1) := by decide +kernel
theorem d_Mo_layKinds_168 : decode prog_11_method_24_code 168 = .ok (.iload 4, 2) := by decide +kernel
theorem d_Mo_layKinds_170 : decode prog_11_method_24_code 170 = .ok (.invokevirtual 170, 3) := by decide +kernel
theorem d_Mo_layKinds_173 : decode prog_11_method_24_code 173 = .ok (.iload_n 3, 1) := by decide +kernel
theorem d_Mo_layKinds_174 : decode prog_11_method_24_code 174 = .ok (.iload 4, 2) := by decide +kernel
theorem d_Mo_layKinds_176 : decode prog_11_method_24_code 176 = .ok (.iadd, 1) := by decide +kernel
theorem d_Mo_layKinds_177 : decode prog_11_method_24_code 177 = .ok (.istore_n 3, 1) := by decide +kernel
theorem d_Mo_layKinds_178 : decode prog_11_method_24_code 178 = .ok (.goto (-119), 3) := by decide +kernel
theorem d_Mo_layKinds_181 : decode prog_11_method_24_code 181 = .ok (.return_, 1) := by decide +kernel
theorem d_Mo_usedOf_0 : decode prog_11_method_25_code 0 = .ok (.iload_n 1, 1) := by decide +kernel
theorem d_Mo_usedOf_1 : decode prog_11_method_25_code 1 = .ok (.aload_n 0, 1) := by decide +kernel
theorem d_Mo_usedOf_2 : decode prog_11_method_25_code 2 = .ok (.getfield 41, 3) := by decide +kernel
theorem d_Mo_usedOf_5 : decode prog_11_method_25_code 5 = .ok (.iload_n 2, 1) := by decide +kernel
theorem d_Mo_usedOf_6 : decode prog_11_method_25_code 6 = .ok (.iaload, 1) := by decide +kernel
theorem d_Mo_usedOf_7 : decode prog_11_method_25_code 7 = .ok (.idiv, 1) := by decide +kernel
theorem d_Mo_usedOf_8 : decode prog_11_method_25_code 8 = .ok (.aload_n 0, 1) := by decide +kernel
theorem d_Mo_usedOf_9 : decode prog_11_method_25_code 9 = .ok (.getfield 38, 3) := by decide +kernel
theorem d_Mo_usedOf_12 : decode prog_11_method_25_code 12 = .ok (.iload_n 2, 1) := by decide +kernel
theorem d_Mo_usedOf_13 : decode prog_11_method_25_code 13 = .ok (.iaload, 1) := by decide +kernel
theorem d_Mo_usedOf_14 : decode prog_11_method_25_code 14 = .ok (.iconst 1, 1) := by decide +kernel
theorem d_Mo_usedOf_15 : decode prog_11_method_25_code 15 = .ok (.iadd, 1) := by decide +kernel
theorem d_Mo_usedOf_16 : decode prog_11_method_25_code 16 = .ok (.irem, 1) := by decide +kernel
theorem d_Mo_usedOf_17 : decode prog_11_method_25_code 17 = .ok (.ireturn, 1) := by decide +kernel
theorem d_Mo_marked_0 : decode prog_11_method_26_code 0 = .ok (.aload_n 0, 1) := by decide +kernel
theorem d_Mo_marked_1 : decode prog_11_method_26_code 1 = .ok (.iload_n 1, 1) := by decide +kernel
theorem d_Mo_marked_2 : decode prog_11_method_26_code 2 = .ok (.invokevirtual 174, 3) := by decide +kernel
theorem d_Mo_marked_5 : decode prog_11_method_26_code 5 = .ok (.aload_n 0, 1) := by decide +kernel
theorem d_Mo_marked_6 : decode prog_11_method_26_code 6 = .ok (.getfield 7, 3) := by decide +kernel
theorem d_Mo_marked_9 : decode prog_11_method_26_code 9 = .ok (.iload_n 1, 1) := by decide +kernel
theorem d_Mo_marked_10 : decode prog_11_method_26_code 10 = .ok (.iaload, 1) := by decide +kernel
theorem d_Mo_marked_11 : decode prog_11_method_26_code 11 = .ok (.istore 4, 2) := by decide +kernel
theorem d_Mo_marked_13 : decode prog_11_method_26_code 13 = .ok (.iload_n 2, 1) := by decide +kernel
theorem d_Mo_marked_14 : decode prog_11_method_26_code 14 = .ok (.bipush (-4), 2) := by decide +kernel
theorem d_Mo_marked_16 : decode prog_11_method_26_code 16 = .ok (.if_icmp .ne 7, 3) := by decide +kernel
theorem d_Mo_marked_19 : decode prog_11_method_26_code 19 = .ok (.iconst 1, 1) := by decide +kernel
theorem d_Mo_marked_20 : decode prog_11_method_26_code 20 = .ok (.goto 5, 3) := by decide +kernel
theorem d_Mo_marked_23 : decode prog_11_method_26_code 23 = .ok (.bipush 11, 2) := by decide +kernel
theorem d_Mo_marked_25 : decode prog_11_method_26_code 25 = .ok (.istore 5, 2) := by decide +kernel
theorem d_Mo_marked_27 : decode prog_11_method_26_code 27 = .ok (.iconst 0, 1) := by decide +kernel
theorem d_Mo_marked_28 : decode prog_11_method_26_code 28 = .ok (.istore 6, 2) := by decide +kernel
theorem d_Mo_marked_30 : decode prog_11_method_26_code 30 = .ok (.iload 6, 2) := by decide +kernel
theorem d_Mo_marked_32 : decode prog_11_method_26_code 32 = .ok (.iload 4, 2) := by decide +kernel
theorem d_Mo_marked_34 : decode prog_11_method_26_code 34 = .ok (.iconst 1, 1) := by decide +kernel
theorem d_Mo_marked_35 : decode prog_11_method_26_code 35 = .ok (.iadd, 1) := by decide +kernel
theorem d_Mo_marked_36 : decode prog_11_method_26_code 36 = .ok (.aload_n 0, 1) := by decide +kernel
theorem d_Mo_marked_37 : decode prog_11_method_26_code 37 = .ok (.getfield 167, 3) := by decide +kernel
theorem d_Mo_marked_40 : decode prog_11_method_26_code 40 = .ok (.imul, 1) := by decide +kernel
theorem d_Mo_marked_41 : decode prog_11_method_26_code 41 = .ok (.iload 5, 2) := by decide +kernel
theorem d_Mo_marked_43 : decode prog_11_method_26_code 43 = .ok (.imul, 1) := by decide +kernel
theorem d_Mo_marked_44 : decode prog_11_method_26_code 44 = .ok (.if_icmp .ge 17, 3) := by decide +kernel
theorem d_Mo_marked_47 : decode prog_11_method_26_code 47 = .ok (.aload_n 0, 1) := by decide +kernel
theorem d_Mo_marked_48 : decode prog_11_method_26_code 48 = .ok (.getfield 45, 3) := by decide +kernel
theorem d_Mo_marked_51 : decode prog_11_method_26_code 51 = .ok (.iload 6, 2) := by decide +kernel
theorem d_Mo_marked_53 : decode prog_11_method_26_code 53 = .ok (.lconst 0, 1) := by decide +kernel
theorem d_Mo_marked_54 : decode prog_11_method_26_code 54 = .ok (.lastore, 1) := by decide +kernel
theorem d_Mo_marked_55 : decode prog_11_method_26_code 55 = .ok (.iinc 6 1, 3) := by decide +kernel
theorem d_Mo_marked_58 : decode prog_11_method_26_code 58 = .ok (.goto (-28), 3) := by decide +kernel
theorem d_Mo_marked_61 : decode prog_11_method_26_code 61 = .ok (.aload_n 0, 1) := by decide +kernel
theorem d_Mo_marked_62 : decode prog_11_method_26_code 62 = .ok (.getfield 45, 3) := by decide +kernel
theorem d_Mo_marked_65 : decode prog_11_method_26_code 65 = .ok (.iconst 0, 1) := by decide +kernel
theorem d_Mo_marked_66 : decode prog_11_method_26_code 66 = .ok (.lconst 1, 1) := by decide +kernel
theorem d_Mo_marked_67 : decode prog_11_method_26_code 67 = .ok (.lastore, 1) := by decide +kernel
theorem d_Mo_marked_68 : decode prog_11_method_26_code 68 = .ok (.iconst 0, 1) := by decide +kernel
theorem d_Mo_marked_69 : decode prog_11_method_26_code 69 = .ok (.istore 6, 2) := by decide +kernel
theorem d_Mo_marked_71 : decode prog_11_method_26_code 71 = .ok (.iload 6, 2) := by decide +kernel
theorem d_Mo_marked_73 : decode prog_11_method_26_code 73 = .ok (.iload 4, 2) := by decide +kernel
theorem d_Mo_marked_75 : decode prog_11_method_26_code 75 = .ok (.if_icmp .gt 90, 3) := by decide +kernel
theorem d_Mo_marked_78 : decode prog_11_method_26_code 78 = .ok (.iconst 0, 1) := by decide +kernel
theorem d_Mo_marked_79 : decode prog_11_method_26_code 79 = .ok (.istore 7, 2) := by decide +kernel
theorem d_Mo_marked_81 : decode prog_11_method_26_code 81 = .ok (.iload 7, 2) := by decide +kernel
theorem d_Mo_marked_83 : decode prog_11_method_26_code 83 = .ok (.aload_n 0, 1) := by decide +kernel
theorem d_Mo_marked_84 : decode prog_11_method_26_code 84 = .ok (.getfield 167, 3) := by decide +kernel
theorem d_Mo_marked_87 : decode prog_11_method_26_code 87 = .ok (.if_icmp .ge 72, 3) := by decide +kernel
theorem d_Mo_marked_90 : decode prog_11_method_26_code 90 = .ok (.iconst 0, 1) := by decide +kernel
theorem d_Mo_marked_91 : decode prog_11_method_26_code 91 = .ok (.istore 8, 2) := by decide +kernel
theorem d_Mo_marked_93 : decode prog_11_method_26_code 93 = .ok (.iload 8, 2) := by decide +kernel
theorem d_Mo_marked_95 : decode prog_11_method_26_code 95 = .ok (.iload 5, 2) := by decide +kernel
theorem d_Mo_marked_97 : decode prog_11_method_26_code 97 = .ok (.if_icmp .ge 56, 3) := by decide +kernel
theorem d_Mo_marked_100 : decode prog_11_method_26_code 100 = .ok (.aload_n 0, 1) := by decide +kernel
theorem d_Mo_marked_101 : decode prog_11_method_26_code 101 = .ok (.getfield 45, 3) := by decide +kernel
theorem d_Mo_marked_104 : decode prog_11_method_26_code 104 = .ok (.iload 6, 2) := by decide +kernel
theorem d_Mo_marked_106 : decode prog_11_method_26_code 106 = .ok (.aload_n 0, 1) := by decide +kernel
theorem d_Mo_marked_107 : decode prog_11_method_26_code 107 = .ok (.getfield 167, 3) := by decide +kernel
theorem d_Mo_marked_110 : decode prog_11_method_26_code 110 = .ok (.imul, 1) := by decide +kernel
theorem d_Mo_marked_111 : decode prog_11_method_26_code 111 = .ok (.iload 7, 2) := by decide +kernel
theorem d_Mo_marked_113 : decode prog_11_method_26_code 113 = .ok (.iadd, 1) := by decide +kernel
theorem d_Mo_marked_114 : decode prog_11_method_26_code 114 = .ok (.iload 5, 2) := by decide +kernel
theorem d_Mo_marked_116 : decode prog_11_method_26_code 116 = .ok (.imul, 1) := by decide +kernel
theorem d_Mo_marked_117 : decode prog_11_method_26_code 117 = .ok (.iload 8, 2) := by decide +kernel
theorem d_Mo_marked_119 : decode prog_11_method_26_code 119 = .ok (.iadd, 1) := by decide +kernel
theorem d_Mo_marked_120 : decode prog_11_method_26_code 120 = .ok (.laload, 1) := by decide +kernel
theorem d_Mo_marked_121 : decode prog_11_method_26_code 121 = .ok (.lstore 9, 2) := by decide +kernel
theorem d_Mo_marked_123 : decode prog_11_method_26_code 123 = .ok (.lload 9, 2) := by decide +kernel
theorem d_Mo_marked_125 : decode prog_11_method_26_code 125 = .ok (.lconst 0, 1) := by decide +kernel
theorem d_Mo_marked_126 : decode prog_11_method_26_code 126 = .ok (.lcmp, 1) := by decide +kernel
theorem d_Mo_marked_127 : decode prog_11_method_26_code 127 = .ok (.ifCond .eq 20, 3) := by decide +kernel
theorem d_Mo_marked_130 : decode prog_11_method_26_code 130 = .ok (.aload_n 0, 1) := by decide +kernel
theorem d_Mo_marked_131 : decode prog_11_method_26_code 131 = .ok (.iload 6, 2) := by decide +kernel
theorem d_Mo_marked_133 : decode prog_11_method_26_code 133 = .ok (.iload 7, 2) := by decide +kernel
theorem d_Mo_marked_135 : decode prog_11_method_26_code 135 = .ok (.iload 8, 2) := by decide +kernel
theorem d_Mo_marked_137 : decode prog_11_method_26_code 137 = .ok (.lload 9, 2) := by decide +kernel
theorem d_Mo_marked_139 : decode prog_11_method_26_code 139 = .ok (.iload 4, 2) := by decide +kernel
theorem d_Mo_marked_141 : decode prog_11_method_26_code 141 = .ok (.iload_n 2, 1) := by decide +kernel
theorem d_Mo_marked_142 : decode prog_11_method_26_code 142 = .ok (.iload 5, 2) := by decide +kernel
theorem d_Mo_marked_144 : decode prog_11_method_26_code 144 = .ok (.invokevirtual 177, 3) := by decide +kernel
theorem d_Mo_marked_147 : decode prog_11_method_26_code 147 = .ok (.iinc 8 1, 3) := by decide +kernel
theorem d_Mo_marked_150 : decode prog_11_method_26_code 150 = .ok (.goto (-57), 3) := by decide +kernel
theorem d_Mo_marked_153 : decode prog_11_method_26_code 153 = .ok (.iinc 7 1, 3) := by decide +kernel
theorem d_Mo_marked_156 : decode prog_11_method_26_code 156 = .ok (.goto (-75), 3) := by decide +kernel
theorem d_Mo_marked_159 : decode prog_11_method_26_code 159 = .ok (.iinc 6 1, 3) := by decide +kernel
theorem d_Mo_marked_162 : decode prog_11_method_26_code 162 = .ok (.goto (-91), 3) := by decide +kernel
theorem d_Mo_marked_165 : decode prog_11_method_26_code 165 = .ok (.iload_n 3, 1) := by decide +kernel
theorem d_Mo_marked_166 : decode prog_11_method_26_code 166 = .ok (.i2l, 1) := by decide +kernel
theorem d_Mo_marked_167 : decode prog_11_method_26_code 167 = .ok (.lconst 0, 1) := by decide +kernel
theorem d_Mo_marked_168 : decode prog_11_method_26_code 168 = .ok (.iload 5, 2) := by decide +kernel
theorem d_Mo_marked_170 : decode prog_11_method_26_code 170 = .ok (.iconst 1, 1) := by decide +kernel
theorem d_Mo_marked_171 : decode prog_11_method_26_code 171 = .ok (.isub, 1) := by decide +kernel
theorem d_Mo_marked_172 : decode prog_11_method_26_code 172 = .ok (.i2l, 1) := by decide +kernel
theorem d_Mo_marked_173 : decode prog_11_method_26_code 173 = .ok (.invokestatic 107, 3) := by decide +kernel
theorem d_Mo_marked_176 : decode prog_11_method_26_code 176 = .ok (.ifCond .eq 30, 3) := by decide +kernel
theorem d_Mo_marked_179 : decode prog_11_method_26_code 179 = .ok (.aload_n 0, 1) := by decide +kernel
theorem d_Mo_marked_180 : decode prog_11_method_26_code 180 = .ok (.getfield 45, 3) := by decide +kernel
theorem d_Mo_marked_183 : decode prog_11_method_26_code 183 = .ok (.iload 4, 2) := by decide +kernel
theorem d_Mo_marked_185 : decode prog_11_method_26_code 185 = .ok (.aload_n 0, 1) := by decide +kernel
theorem d_Mo_marked_186 : decode prog_11_method_26_code 186 = .ok (.getfield 167, 3) := by decide +kernel
theorem d_Mo_marked_189 : decode prog_11_method_26_code 189 = .ok (.imul, 1) := by decide +kernel
theorem d_Mo_marked_190 : decode prog_11_method_26_code 190 = .ok (.aload_n 0, 1) := by decide +kernel
theorem d_Mo_marked_191 : decode prog_11_method_26_code 191 = .ok (.getfield 167, 3) := by decide +kernel
theorem d_Mo_marked_194 : decode prog_11_method_26_code 194 = .ok (.iadd, 1) := by decide +kernel
theorem d_Mo_marked_195 : decode prog_11_method_26_code 195 = .ok (.iconst 1, 1) := by decide +kernel
theorem d_Mo_marked_196 : decode prog_11_method_26_code 196 = .ok (.isub, 1) := by decide +kernel
theorem d_Mo_marked_197 : decode prog_11_method_26_code 197 = .ok (.iload 5, 2) := by decide +kernel
theorem d_Mo_marked_199 : decode prog_11_method_26_code 199 = .ok (.imul, 1) := by decide +kernel
theorem d_Mo_marked_200 : decode prog_11_method_26_code 200 = .ok (.iload_n 3, 1) := by decide +kernel
theorem d_Mo_marked_201 : decode prog_11_method_26_code 201 = .ok (.iadd, 1) := by decide +kernel
theorem d_Mo_marked_202 : decode prog_11_method_26_code 202 = .ok (.laload, 1) := by decide +kernel
theorem d_Mo_marked_203 : decode prog_11_method_26_code 203 = .ok (.goto 4, 3) := by decide +kernel
theorem d_Mo_marked_206 : decode prog_11_method_26_code 206 = .ok (.lconst 0, 1) := by decide +kernel
theorem d_Mo_marked_207 : decode prog_11_method_26_code 207 = .ok (.lreturn, 1) := by decide +kernel
theorem d_Mo_goOn_0 : decode prog_11_method_27_code 0 = .ok (.iload_n 1, 1) := by decide +kernel
theorem d_Mo_goOn_1 : decode prog_11_method_27_code 1 = .ok (.iload 6, 2) := by decide +kernel
theorem d_Mo_goOn_3 : decode prog_11_method_27_code 3 = .ok (.if_icmp .ge 7, 3) := by decide +kernel
theorem d_Mo_goOn_6 : decode prog_11_method_27_code 6 = .ok (.iconst 1, 1) := by decide +kernel
theorem d_Mo_goOn_7 : decode prog_11_method_27_code 7 = .ok (.goto 4, 3) := by decide +kernel
theorem d_Mo_goOn_10 : decode prog_11_method_27_code 10 = .ok (.iconst 0, 1) := by decide +kernel
theorem d_Mo_goOn_11 : decode prog_11_method_27_code 11 = .ok (.istore 9, 2) := by decide +kernel
theorem d_Mo_goOn_13 : decode prog_11_method_27_code 13 = .ok (.iconst 0, 1) := by decide +kernel
theorem d_Mo_goOn_14 : decode prog_11_method_27_code 14 = .ok (.istore 10, 2) := by decide +kernel
theorem d_Mo_goOn_16 : decode prog_11_method_27_code 16 = .ok (.iload 10, 2) := by decide +kernel
theorem d_Mo_goOn_18 : decode prog_11_method_27_code 18 = .ok (.aload_n 0, 1) := by decide +kernel
theorem d_Mo_goOn_19 : decode prog_11_method_27_code 19 = .ok (.getfield 164, 3) := by decide +kernel
theorem d_Mo_goOn_22 : decode prog_11_method_27_code 22 = .ok (.if_icmp .ge 137, 3) := by decide +kernel
theorem d_Mo_goOn_25 : decode prog_11_method_27_code 25 = .ok (.aload_n 0, 1) := by decide +kernel
theorem d_Mo_goOn_26 : decode prog_11_method_27_code 26 = .ok (.iload_n 2, 1) := by decide +kernel
theorem d_Mo_goOn_27 : decode prog_11_method_27_code 27 = .ok (.iload 10, 2) := by decide +kernel
theorem d_Mo_goOn_29 : decode prog_11_method_27_code 29 = .ok (.invokevirtual 181, 3) := by decide +kernel
theorem d_Mo_goOn_32 : decode prog_11_method_27_code 32 = .ok (.aload_n 0, 1) := by decide +kernel
theorem d_Mo_goOn_33 : decode prog_11_method_27_code 33 = .ok (.getfield 38, 3) := by decide +kernel
theorem d_Mo_goOn_36 : decode prog_11_method_27_code 36 = .ok (.iload 10, 2) := by decide +kernel
theorem d_Mo_goOn_38 : decode prog_11_method_27_code 38 = .ok (.iaload, 1) := by decide +kernel
theorem d_Mo_goOn_39 : decode prog_11_method_27_code 39 = .ok (.if_icmp .ge 7, 3) := by decide +kernel
theorem d_Mo_goOn_42 : decode prog_11_method_27_code 42 = .ok (.iconst 1, 1) := by decide +kernel
theorem d_Mo_goOn_43 : decode prog_11_method_27_code 43 = .ok (.goto 4, 3) := by decide +kernel
theorem d_Mo_goOn_46 : decode prog_11_method_27_code 46 = .ok (.iconst 0, 1) := by decide +kernel
theorem d_Mo_goOn_47 : decode prog_11_method_27_code 47 = .ok (.istore 11, 2) := by decide +kernel
theorem d_Mo_goOn_49 : decode prog_11_method_27_code 49 = .ok (.iload 11, 2) := by decide +kernel
theorem d_Mo_goOn_51 : decode prog_11_method_27_code 51 = .ok (.ifCond .eq 74, 3) := by decide +kernel
theorem d_Mo_goOn_54 : decode prog_11_method_27_code 54 = .ok (.aload_n 0, 1) := by decide +kernel
theorem d_Mo_goOn_55 : decode prog_11_method_27_code 55 = .ok (.getfield 32, 3) := by decide +kernel
theorem d_Mo_goOn_58 : decode prog_11_method_27_code 58 = .ok (.iload 10, 2) := by decide +kernel
theorem d_Mo_goOn_60 : decode prog_11_method_27_code 60 = .ok (.iaload, 1) := by decide +kernel
theorem d_Mo_goOn_61 : decode prog_11_method_27_code 61 = .ok (.iload_n 1, 1) := by decide +kernel
theorem d_Mo_goOn_62 : decode prog_11_method_27_code 62 = .ok (.if_icmp .ge 63, 3) := by decide +kernel
theorem d_Mo_goOn_65 : decode prog_11_method_27_code 65 = .ok (.aload_n 0, 1) := by decide +kernel
theorem d_Mo_goOn_66 : decode prog_11_method_27_code 66 = .ok (.getfield 35, 3) := by decide +kernel
theorem d_Mo_goOn_69 : decode prog_11_method_27_code 69 = .ok (.iload 10, 2) := by decide +kernel
theorem d_Mo_goOn_71 : decode prog_11_method_27_code 71 = .ok (.iaload, 1) := by decide +kernel
theorem d_Mo_goOn_72 : decode prog_11_method_27_code 72 = .ok (.iload_n 1, 1) := by decide +kernel
theorem d_Mo_goOn_73 : decode prog_11_method_27_code 73 = .ok (.if_icmp .lt 52, 3) := by decide +kernel
theorem d_Mo_goOn_76 : decode prog_11_method_27_code 76 = .ok (.iload 7, 2) := by decide +kernel
theorem d_Mo_goOn_78 : decode prog_11_method_27_code 78 = .ok (.iload_n 1, 1) := by decide +kernel
theorem d_Mo_goOn_79 : decode prog_11_method_27_code 79 = .ok (.iconst 1, 1) := by decide +kernel
theorem d_Mo_goOn_80 : decode prog_11_method_27_code 80 = .ok (.isub, 1) := by decide +kernel
theorem d_Mo_goOn_81 : decode prog_11_method_27_code 81 = .ok (.if_icmp .ne 9, 3) := by decide +kernel
theorem d_Mo_goOn_84 : decode prog_11_method_27_code 84 = .ok (.iload_n 3, 1) := by decide +kernel
theorem d_Mo_goOn_85 : decode prog_11_method_27_code 85 = .ok (.iconst 1, 1) := by decide +kernel
theorem d_Mo_goOn_86 : decode prog_11_method_27_code 86 = .ok (.iadd, 1) := by decide +kernel
theorem d_Mo_goOn_87 : decode prog_11_method_27_code 87 = .ok (.goto 4, 3) := by decide +kernel
theorem d_Mo_goOn_90 : decode prog_11_method_27_code 90 = .ok (.iload_n 3, 1) := by decide +kernel
theorem d_Mo_goOn_91 : decode prog_11_method_27_code 91 = .ok (.istore 12, 2) := by decide +kernel
theorem d_Mo_goOn_93 : decode prog_11_method_27_code 93 = .ok (.aload_n 0, 1) := by decide +kernel
theorem d_Mo_goOn_94 : decode prog_11_method_27_code 94 = .ok (.getfield 45, 3) := by decide +kernel
theorem d_Mo_goOn_97 : decode prog_11_method_27_code 97 = .ok (.iload_n 1, 1) := by decide +kernel
theorem d_Mo_goOn_98 : decode prog_11_method_27_code 98 = .ok (.aload_n 0, 1) := by decide +kernel
theorem d_Mo_goOn_99 : decode prog_11_method_27_code 99 = .ok (.getfield 167, 3) := by decide +kernel
theorem d_Mo_goOn_102 : decode prog_11_method_27_code 102 = .ok (.imul, 1) := by decide +kernel
theorem d_Mo_goOn_103 : decode prog_11_method_27_code 103 = .ok (.iload_n 2, 1) := by decide +kernel
theorem d_Mo_goOn_104 : decode prog_11_method_27_code 104 = .ok (.iadd, 1) := by decide +kernel
theorem d_Mo_goOn_105 : decode prog_11_method_27_code 105 = .ok (.aload_n 0, 1) := by decide +kernel
theorem d_Mo_goOn_106 : decode prog_11_method_27_code 106 = .ok (.getfield 41, 3) := by decide +kernel
theorem d_Mo_goOn_109 : decode prog_11_method_27_code 109 = .ok (.iload 10, 2) := by decide +kernel
theorem d_Mo_goOn_111 : decode prog_11_method_27_code 111 = .ok (.iaload, 1) := by decide +kernel
theorem d_Mo_goOn_112 : decode prog_11_method_27_code 112 = .ok (.iadd, 1) := by decide +kernel
theorem d_Mo_goOn_113 : decode prog_11_method_27_code 113 = .ok (.iload 8, 2) := by decide +kernel
theorem d_Mo_goOn_115 : decode prog_11_method_27_code 115 = .ok (.imul, 1) := by decide +kernel
theorem d_Mo_goOn_116 : decode prog_11_method_27_code 116 = .ok (.iload 12, 2) := by decide +kernel
theorem d_Mo_goOn_118 : decode prog_11_method_27_code 118 = .ok (.iadd, 1) := by decide +kernel
theorem d_Mo_goOn_119 : decode prog_11_method_27_code 119 = .ok (.dup2, 1) := by decide +kernel
theorem d_Mo_goOn_120 : decode prog_11_method_27_code 120 = .ok (.laload, 1) := by decide +kernel
theorem d_Mo_goOn_121 : decode prog_11_method_27_code 121 = .ok (.lload 4, 2) := by decide +kernel
theorem d_Mo_goOn_123 : decode prog_11_method_27_code 123 = .ok (.ladd, 1) := by decide +kernel
theorem d_Mo_goOn_124 : decode prog_11_method_27_code 124 = .ok (.lastore, 1) := by decide +kernel
theorem d_Mo_goOn_125 : decode prog_11_method_27_code 125 = .ok (.iload 9, 2) := by decide +kernel
theorem d_Mo_goOn_127 : decode prog_11_method_27_code 127 = .ok (.ifCond .eq 23, 3) := by decide +kernel
theorem d_Mo_goOn_130 : decode prog_11_method_27_code 130 = .ok (.iload 11, 2) := by decide +kernel
theorem d_Mo_goOn_132 : decode prog_11_method_27_code 132 = .ok (.ifCond .eq 14, 3) := by decide +kernel
theorem d_Mo_goOn_135 : decode prog_11_method_27_code 135 = .ok (.aload_n 0, 1) := by decide +kernel
theorem d_Mo_goOn_136 : decode prog_11_method_27_code 136 = .ok (.getfield 35, 3) := by decide +kernel
theorem d_Mo_goOn_139 : decode prog_11_method_27_code 139 = .ok (.iload 10, 2) := by decide +kernel
theorem d_Mo_goOn_141 : decode prog_11_method_27_code 141 = .ok (.iaload, 1) := by decide +kernel
theorem d_Mo_goOn_142 : decode prog_11_method_27_code 142 = .ok (.iload_n 1, 1) := by decide +kernel
theorem d_Mo_goOn_143 : decode prog_11_method_27_code 143 = .ok (.if_icmp .eq 7, 3) := by decide +kernel
theorem d_Mo_goOn_146 : decode prog_11_method_27_code 146 = .ok (.iconst 1, 1) := by decide +kernel
theorem d_Mo_goOn_147 : decode prog_11_method_27_code 147 = .ok (.goto 4, 3) := by decide +kernel
theorem d_Mo_goOn_150 : decode prog_11_method_27_code 150 = .ok (.iconst 0, 1) := by decide +kernel
theorem d_Mo_goOn_151 : decode prog_11_method_27_code 151 = .ok (.istore 9, 2) := by decide +kernel
theorem d_Mo_goOn_153 : decode prog_11_method_27_code 153 = .ok (.iinc 10 1, 3) := by decide +kernel
theorem d_Mo_goOn_156 : decode prog_11_method_27_code 156 = .ok (.goto (-140), 3) := by decide +kernel
theorem d_Mo_goOn_159 : decode prog_11_method_27_code 159 = .ok (.iload 9, 2) := by decide +kernel
theorem d_Mo_goOn_161 : decode prog_11_method_27_code 161 = .ok (.ifCond .eq 28, 3) := by decide +kernel
theorem d_Mo_goOn_164 : decode prog_11_method_27_code 164 = .ok (.aload_n 0, 1) := by decide +kernel
theorem d_Mo_goOn_165 : decode prog_11_method_27_code 165 = .ok (.getfield 45, 3) := by decide +kernel
theorem d_Mo_goOn_168 : decode prog_11_method_27_code 168 = .ok (.iload_n 1, 1) := by decide +kernel
theorem d_Mo_goOn_169 : decode prog_11_method_27_code 169 = .ok (.iconst 1, 1) := by decide +kernel
theorem d_Mo_goOn_170 : decode prog_11_method_27_code 170 = .ok (.iadd, 1) := by decide +kernel
theorem d_Mo_goOn_171 : decode prog_11_method_27_code 171 = .ok (.aload_n 0, 1) := by decide +kernel
theorem d_Mo_goOn_172 : decode prog_11_method_27_code 172 = .ok (.getfield 167, 3) := by decide +kernel
theorem d_Mo_goOn_175 : decode prog_11_method_27_code 175 = .ok (.imul, 1) := by decide +kernel
theorem d_Mo_goOn_176 : decode prog_11_method_27_code 176 = .ok (.iload_n 2, 1) := by decide +kernel
theorem d_Mo_goOn_177 : decode prog_11_method_27_code 177 = .ok (.iadd, 1) := by decide +kernel
theorem d_Mo_goOn_178 : decode prog_11_method_27_code 178 = .ok (.iload 8, 2) := by decide +kernel
theorem d_Mo_goOn_180 : decode prog_11_method_27_code 180 = .ok (.imul, 1) := by decide +kernel
theorem d_Mo_goOn_181 : decode prog_11_method_27_code 181 = .ok (.iload_n 3, 1) := by decide +kernel
theorem d_Mo_goOn_182 : decode prog_11_method_27_code 182 = .ok (.iadd, 1) := by decide +kernel
theorem d_Mo_goOn_183 : decode prog_11_method_27_code 183 = .ok (.dup2, 1) := by decide +kernel
theorem d_Mo_goOn_184 : decode prog_11_method_27_code 184 = .ok (.laload, 1) := by decide +kernel
theorem d_Mo_goOn_185 : decode prog_11_method_27_code 185 = .ok (.lload 4, 2) := by decide +kernel
theorem d_Mo_goOn_187 : decode prog_11_method_27_code 187 = .ok (.ladd, 1) := by decide +kernel
theorem d_Mo_goOn_188 : decode prog_11_method_27_code 188 = .ok (.lastore, 1) := by decide +kernel
theorem d_Mo_goOn_189 : decode prog_11_method_27_code 189 = .ok (.return_, 1) := by decide +kernel
theorem d_Mo_markings_0 : decode prog_11_method_28_code 0 = .ok (.aload_n 0, 1) := by decide +kernel
theorem d_Mo_markings_1 : decode prog_11_method_28_code 1 = .ok (.iload_n 1, 1) := by decide +kernel
theorem d_Mo_markings_2 : decode prog_11_method_28_code 2 = .ok (.invokevirtual 117, 3) := by decide +kernel
theorem d_Mo_markings_5 : decode prog_11_method_28_code 5 = .ok (.ifCond .ne 7, 3) := by decide +kernel
theorem d_Mo_markings_8 : decode prog_11_method_28_code 8 = .ok (.ldc2_w 154, 3) := by decide +kernel
theorem d_Mo_markings_11 : decode prog_11_method_28_code 11 = .ok (.lreturn, 1) := by decide +kernel
theorem d_Mo_markings_12 : decode prog_11_method_28_code 12 = .ok (.aload_n 0, 1) := by decide +kernel
theorem d_Mo_markings_13 : decode prog_11_method_28_code 13 = .ok (.iload_n 1, 1) := by decide +kernel
theorem d_Mo_markings_14 : decode prog_11_method_28_code 14 = .ok (.invokevirtual 134, 3) := by decide +kernel
theorem d_Mo_markings_17 : decode prog_11_method_28_code 17 = .ok (.ifCond .eq 14, 3) := by decide +kernel
theorem d_Mo_markings_20 : decode prog_11_method_28_code 20 = .ok (.aload_n 0, 1) := by decide +kernel
theorem d_Mo_markings_21 : decode prog_11_method_28_code 21 = .ok (.iload_n 1, 1) := by decide +kernel
theorem d_Mo_markings_22 : decode prog_11_method_28_code 22 = .ok (.bipush (-4), 2) := by decide +kernel
theorem d_Mo_markings_24 : decode prog_11_method_28_code 24 = .ok (.iconst 0, 1) := by decide +kernel
theorem d_Mo_markings_25 : decode prog_11_method_28_code 25 = .ok (.invokevirtual 184, 3) := by decide +kernel
theorem d_Mo_markings_28 : decode prog_11_method_28_code 28 = .ok (.goto 6, 3) := by decide +kernel
theorem d_Mo_markings_31 : decode prog_11_method_28_code 31 = .ok (.ldc2_w 188, 3) := by decide +kernel
theorem d_Mo_markings_34 : decode prog_11_method_28_code 34 = .ok (.lreturn, 1) := by decide +kernel
theorem d_Mo_between_0 : decode prog_11_method_29_code 0 = .ok (.aload_n 0, 1) := by decide +kernel
theorem d_Mo_between_1 : decode prog_11_method_29_code 1 = .ok (.iload_n 1, 1) := by decide +kernel
theorem d_Mo_between_2 : decode prog_11_method_29_code 2 = .ok (.invokevirtual 117, 3) := by decide +kernel
theorem d_Mo_between_5 : decode prog_11_method_29_code 5 = .ok (.ifCond .eq 25, 3) := by decide +kernel
theorem d_Mo_between_8 : decode prog_11_method_29_code 8 = .ok (.iload_n 2, 1) := by decide +kernel
theorem d_Mo_between_9 : decode prog_11_method_29_code 9 = .ok (.i2l, 1) := by decide +kernel
theorem d_Mo_between_10 : decode prog_11_method_29_code 10 = .ok (.lconst 0, 1) := by decide +kernel
theorem d_Mo_between_11 : decode prog_11_method_29_code 11 = .ok (.aload_n 0, 1) := by decide +kernel
theorem d_Mo_between_12 : decode prog_11_method_29_code 12 = .ok (.getfield 7, 3) := by decide +kernel
theorem d_Mo_between_15 : decode prog_11_method_29_code 15 = .ok (.iload_n 1, 1) := by decide +kernel
theorem d_Mo_between_16 : decode prog_11_method_29_code 16 = .ok (.iaload, 1) := by decide +kernel
theorem d_Mo_between_17 : decode prog_11_method_29_code 17 = .ok (.iconst 1, 1) := by decide +kernel
theorem d_Mo_between_18 : decode prog_11_method_29_code 18 = .ok (.isub, 1) := by decide +kernel
theorem d_Mo_between_19 : decode prog_11_method_29_code 19 = .ok (.i2l, 1) := by decide +kernel
theorem d_Mo_between_20 : decode prog_11_method_29_code 20 = .ok (.invokestatic 107, 3) := by decide +kernel
theorem d_Mo_between_23 : decode prog_11_method_29_code 23 = .ok (.ifCond .eq 7, 3) := by decide +kernel
theorem d_Mo_between_26 : decode prog_11_method_29_code 26 = .ok (.iload_n 3, 1) := by decide +kernel
theorem d_Mo_between_27 : decode prog_11_method_29_code 27 = .ok (.ifCond .ge 7, 3) := by decide +kernel
theorem d_Mo_between_30 : decode prog_11_method_29_code 30 = .ok (.ldc2_w 154, 3) := by decide +kernel
theorem d_Mo_between_33 : decode prog_11_method_29_code 33 = .ok (.lreturn, 1) := by decide +kernel
theorem d_Mo_between_34 : decode prog_11_method_29_code 34 = .ok (.aload_n 0, 1) := by decide +kernel
theorem d_Mo_between_35 : decode prog_11_method_29_code 35 = .ok (.iload_n 1, 1) := by decide +kernel
theorem d_Mo_between_36 : decode prog_11_method_29_code 36 = .ok (.invokevirtual 134, 3) := by decide +kernel
theorem d_Mo_between_39 : decode prog_11_method_29_code 39 = .ok (.ifCond .eq 13, 3) := by decide +kernel
theorem d_Mo_between_42 : decode prog_11_method_29_code 42 = .ok (.aload_n 0, 1) := by decide +kernel
theorem d_Mo_between_43 : decode prog_11_method_29_code 43 = .ok (.iload_n 1, 1) := by decide +kernel
theorem d_Mo_between_44 : decode prog_11_method_29_code 44 = .ok (.iload_n 2, 1) := by decide +kernel
theorem d_Mo_between_45 : decode prog_11_method_29_code 45 = .ok (.iload_n 3, 1) := by decide +kernel
theorem d_Mo_between_46 : decode prog_11_method_29_code 46 = .ok (.invokevirtual 184, 3) := by decide +kernel
theorem d_Mo_between_49 : decode prog_11_method_29_code 49 = .ok (.goto 6, 3) := by decide +kernel
theorem d_Mo_between_52 : decode prog_11_method_29_code 52 = .ok (.ldc2_w 188, 3) := by decide +kernel
theorem d_Mo_between_55 : decode prog_11_method_29_code 55 = .ok (.lreturn, 1) := by decide +kernel
theorem d_Mo_unlikeAt_0 : decode prog_11_method_30_code 0 = .ok (.bipush 6, 2) := by decide +kernel
theorem d_Mo_unlikeAt_2 : decode prog_11_method_30_code 2 = .ok (.iload_n 1, 1) := by decide +kernel
theorem d_Mo_unlikeAt_3 : decode prog_11_method_30_code 3 = .ok (.imul, 1) := by decide +kernel
theorem d_Mo_unlikeAt_4 : decode prog_11_method_30_code 4 = .ok (.istore 4, 2) := by decide +kernel
theorem d_Mo_unlikeAt_6 : decode prog_11_method_30_code 6 = .ok (.bipush 6, 2) := by decide +kernel
theorem d_Mo_unlikeAt_8 : decode prog_11_method_30_code 8 = .ok (.iload_n 2, 1) := by decide +kernel
theorem d_Mo_unlikeAt_9 : decode prog_11_method_30_code 9 = .ok (.imul, 1) := by decide +kernel
theorem d_Mo_unlikeAt_10 : decode prog_11_method_30_code 10 = .ok (.istore 5, 2) := by decide +kernel
theorem d_Mo_unlikeAt_12 : decode prog_11_method_30_code 12 = .ok (.iload 4, 2) := by decide +kernel
theorem d_Mo_unlikeAt_14 : decode prog_11_method_30_code 14 = .ok (.aload_n 0, 1) := by decide +kernel
theorem d_Mo_unlikeAt_15 : decode prog_11_method_30_code 15 = .ok (.getfield 13, 3) := by decide +kernel
theorem d_Mo_unlikeAt_18 : decode prog_11_method_30_code 18 = .ok (.iload_n 1, 1) := by decide +kernel
theorem d_Mo_unlikeAt_19 : decode prog_11_method_30_code 19 = .ok (.iaload, 1) := by decide +kernel
theorem d_Mo_unlikeAt_20 : decode prog_11_method_30_code 20 = .ok (.iadd, 1) := by decide +kernel
theorem d_Mo_unlikeAt_21 : decode prog_11_method_30_code 21 = .ok (.istore 6, 2) := by decide +kernel
theorem d_Mo_unlikeAt_23 : decode prog_11_method_30_code 23 = .ok (.iload 5, 2) := by decide +kernel
theorem d_Mo_unlikeAt_25 : decode prog_11_method_30_code 25 = .ok (.aload_n 0, 1) := by decide +kernel
theorem d_Mo_unlikeAt_26 : decode prog_11_method_30_code 26 = .ok (.getfield 13, 3) := by decide +kernel
theorem d_Mo_unlikeAt_29 : decode prog_11_method_30_code 29 = .ok (.iload_n 2, 1) := by decide +kernel
theorem d_Mo_unlikeAt_30 : decode prog_11_method_30_code 30 = .ok (.iaload, 1) := by decide +kernel
theorem d_Mo_unlikeAt_31 : decode prog_11_method_30_code 31 = .ok (.iadd, 1) := by decide +kernel
theorem d_Mo_unlikeAt_32 : decode prog_11_method_30_code 32 = .ok (.istore 7, 2) := by decide +kernel
theorem d_Mo_unlikeAt_34 : decode prog_11_method_30_code 34 = .ok (.iload 4, 2) := by decide +kernel
theorem d_Mo_unlikeAt_36 : decode prog_11_method_30_code 36 = .ok (.iload 6, 2) := by decide +kernel
theorem d_Mo_unlikeAt_38 : decode prog_11_method_30_code 38 = .ok (.if_icmp .ge 20, 3) := by decide +kernel
theorem d_Mo_unlikeAt_41 : decode prog_11_method_30_code 41 = .ok (.aload_n 0, 1) := by decide +kernel
theorem d_Mo_unlikeAt_42 : decode prog_11_method_30_code 42 = .ok (.getfield 16, 3) := by decide +kernel
theorem d_Mo_unlikeAt_45 : decode prog_11_method_30_code 45 = .ok (.iload 4, 2) := by decide +kernel
theorem d_Mo_unlikeAt_47 : decode prog_11_method_30_code 47 = .ok (.iaload, 1) := by decide +kernel
theorem d_Mo_unlikeAt_48 : decode prog_11_method_30_code 48 = .ok (.iload_n 3, 1) := by decide +kernel
theorem d_Mo_unlikeAt_49 : decode prog_11_method_30_code 49 = .ok (.if_icmp .ge 9, 3) := by decide +kernel
theorem d_Mo_unlikeAt_52 : decode prog_11_method_30_code 52 = .ok (.iinc 4 1, 3) := by decide +kernel
theorem d_Mo_unlikeAt_55 : decode prog_11_method_30_code 55 = .ok (.goto (-21), 3) := by decide +kernel
theorem d_Mo_unlikeAt_58 : decode prog_11_method_30_code 58 = .ok (.iload 5, 2) := by decide +kernel
theorem d_Mo_unlikeAt_60 : decode prog_11_method_30_code 60 = .ok (.iload 7, 2) := by decide +kernel
theorem d_Mo_unlikeAt_62 : decode prog_11_method_30_code 62 = .ok (.if_icmp .ge 20, 3) := by decide +kernel
theorem d_Mo_unlikeAt_65 : decode prog_11_method_30_code 65 = .ok (.aload_n 0, 1) := by decide +kernel
theorem d_Mo_unlikeAt_66 : decode prog_11_method_30_code 66 = .ok (.getfield 16, 3) := by decide +kernel
theorem d_Mo_unlikeAt_69 : decode prog_11_method_30_code 69 = .ok (.iload 5, 2) := by decide +kernel
theorem d_Mo_unlikeAt_71 : decode prog_11_method_30_code 71 = .ok (.iaload, 1) := by decide +kernel
theorem d_Mo_unlikeAt_72 : decode prog_11_method_30_code 72 = .ok (.iload_n 3, 1) := by decide +kernel
theorem d_Mo_unlikeAt_73 : decode prog_11_method_30_code 73 = .ok (.if_icmp .ge 9, 3) := by decide +kernel
theorem d_Mo_unlikeAt_76 : decode prog_11_method_30_code 76 = .ok (.iinc 5 1, 3) := by decide +kernel
theorem d_Mo_unlikeAt_79 : decode prog_11_method_30_code 79 = .ok (.goto (-21), 3) := by decide +kernel
theorem d_Mo_unlikeAt_82 : decode prog_11_method_30_code 82 = .ok (.iload 4, 2) := by decide +kernel
theorem d_Mo_unlikeAt_84 : decode prog_11_method_30_code 84 = .ok (.iload 6, 2) := by decide +kernel
theorem d_Mo_unlikeAt_86 : decode prog_11_method_30_code 86 = .ok (.if_icmp .ge 75, 3) := by decide +kernel
theorem d_Mo_unlikeAt_89 : decode prog_11_method_30_code 89 = .ok (.aload_n 0, 1) := by decide +kernel
theorem d_Mo_unlikeAt_90 : decode prog_11_method_30_code 90 = .ok (.getfield 16, 3) := by decide +kernel
theorem d_Mo_unlikeAt_93 : decode prog_11_method_30_code 93 = .ok (.iload 4, 2) := by decide +kernel
theorem d_Mo_unlikeAt_95 : decode prog_11_method_30_code 95 = .ok (.iaload, 1) := by decide +kernel
theorem d_Mo_unlikeAt_96 : decode prog_11_method_30_code 96 = .ok (.iload_n 3, 1) := by decide +kernel
theorem d_Mo_unlikeAt_97 : decode prog_11_method_30_code 97 = .ok (.if_icmp .ne 64, 3) := by decide +kernel
theorem d_Mo_unlikeAt_100 : decode prog_11_method_30_code 100 = .ok (.iload 5, 2) := by decide +kernel
theorem d_Mo_unlikeAt_102 : decode prog_11_method_30_code 102 = .ok (.iload 7, 2) := by decide +kernel
theorem d_Mo_unlikeAt_104 : decode prog_11_method_30_code 104 = .ok (.if_icmp .ge 57, 3) := by decide +kernel
theorem d_Mo_unlikeAt_107 : decode prog_11_method_30_code 107 = .ok (.aload_n 0, 1) := by decide +kernel
theorem d_Mo_unlikeAt_108 : decode prog_11_method_30_code 108 = .ok (.getfield 16, 3) := by decide +kernel
theorem d_Mo_unlikeAt_111 : decode prog_11_method_30_code 111 = .ok (.iload 5, 2) := by decide +kernel
theorem d_Mo_unlikeAt_113 : decode prog_11_method_30_code 113 = .ok (.iaload, 1) := by decide +kernel
theorem d_Mo_unlikeAt_114 : decode prog_11_method_30_code 114 = .ok (.iload_n 3, 1) := by decide +kernel
theorem d_Mo_unlikeAt_115 : decode prog_11_method_30_code 115 = .ok (.if_icmp .ne 46, 3) := by decide +kernel
theorem d_Mo_unlikeAt_118 : decode prog_11_method_30_code 118 = .ok (.aload_n 0, 1) := by decide +kernel
theorem d_Mo_unlikeAt_119 : decode prog_11_method_30_code 119 = .ok (.getfield 19, 3) := by decide +kernel
theorem d_Mo_unlikeAt_122 : decode prog_11_method_30_code 122 = .ok (.iload 4, 2) := by decide +kernel
theorem d_Mo_unlikeAt_124 : decode prog_11_method_30_code 124 = .ok (.iaload, 1) := by decide +kernel
theorem d_Mo_unlikeAt_125 : decode prog_11_method_30_code 125 = .ok (.aload_n 0, 1) := by decide +kernel
theorem d_Mo_unlikeAt_126 : decode prog_11_method_30_code 126 = .ok (.getfield 19, 3) := by decide +kernel
theorem d_Mo_unlikeAt_129 : decode prog_11_method_30_code 129 = .ok (.iload 5, 2) := by decide +kernel
theorem d_Mo_unlikeAt_131 : decode prog_11_method_30_code 131 = .ok (.iaload, 1) := by decide +kernel
theorem d_Mo_unlikeAt_132 : decode prog_11_method_30_code 132 = .ok (.if_icmp .ne 29, 3) := by decide +kernel
theorem d_Mo_unlikeAt_135 : decode prog_11_method_30_code 135 = .ok (.aload_n 0, 1) := by decide +kernel
theorem d_Mo_unlikeAt_136 : decode prog_11_method_30_code 136 = .ok (.getfield 22, 3) := by decide +kernel
theorem d_Mo_unlikeAt_139 : decode prog_11_method_30_code 139 = .ok (.iload 4, 2) := by decide +kernel
theorem d_Mo_unlikeAt_141 : decode prog_11_method_30_code 141 = .ok (.iaload, 1) := by decide +kernel
theorem d_Mo_unlikeAt_142 : decode prog_11_method_30_code 142 = .ok (.aload_n 0, 1) := by decide +kernel
theorem d_Mo_unlikeAt_143 : decode prog_11_method_30_code 143 = .ok (.getfield 22, 3) := by decide +kernel
theorem d_Mo_unlikeAt_146 : decode prog_11_method_30_code 146 = .ok (.iload 5, 2) := by decide +kernel
theorem d_Mo_unlikeAt_148 : decode prog_11_method_30_code 148 = .ok (.iaload, 1) := by decide +kernel
theorem d_Mo_unlikeAt_149 : decode prog_11_method_30_code 149 = .ok (.if_icmp .ne 12, 3) := by decide +kernel
theorem d_Mo_unlikeAt_152 : decode prog_11_method_30_code 152 = .ok (.iinc 4 1, 3) := by decide +kernel
theorem d_Mo_unlikeAt_155 : decode prog_11_method_30_code 155 = .ok (.iinc 5 1, 3) := by decide +kernel
theorem d_Mo_unlikeAt_158 : decode prog_11_method_30_code 158 = .ok (.goto (-76), 3) := by decide +kernel
theorem d_Mo_unlikeAt_161 : decode prog_11_method_30_code 161 = .ok (.iload 4, 2) := by decide +kernel
theorem d_Mo_unlikeAt_163 : decode prog_11_method_30_code 163 = .ok (.iload 6, 2) := by decide +kernel
theorem d_Mo_unlikeAt_165 : decode prog_11_method_30_code 165 = .ok (.if_icmp .ge 14, 3) := by decide +kernel
theorem d_Mo_unlikeAt_168 : decode prog_11_method_30_code 168 = .ok (.aload_n 0, 1) := by decide +kernel
theorem d_Mo_unlikeAt_169 : decode prog_11_method_30_code 169 = .ok (.getfield 16, 3) := by decide +kernel
theorem d_Mo_unlikeAt_172 : decode prog_11_method_30_code 172 = .ok (.iload 4, 2) := by decide +kernel
theorem d_Mo_unlikeAt_174 : decode prog_11_method_30_code 174 = .ok (.iaload, 1) := by decide +kernel
theorem d_Mo_unlikeAt_175 : decode prog_11_method_30_code 175 = .ok (.iload_n 3, 1) := by decide +kernel
theorem d_Mo_unlikeAt_176 : decode prog_11_method_30_code 176 = .ok (.if_icmp .eq 21, 3) := by decide +kernel
theorem d_Mo_unlikeAt_179 : decode prog_11_method_30_code 179 = .ok (.iload 5, 2) := by decide +kernel
theorem d_Mo_unlikeAt_181 : decode prog_11_method_30_code 181 = .ok (.iload 7, 2) := by decide +kernel
theorem d_Mo_unlikeAt_183 : decode prog_11_method_30_code 183 = .ok (.if_icmp .ge 18, 3) := by decide +kernel
theorem d_Mo_unlikeAt_186 : decode prog_11_method_30_code 186 = .ok (.aload_n 0, 1) := by decide +kernel
theorem d_Mo_unlikeAt_187 : decode prog_11_method_30_code 187 = .ok (.getfield 16, 3) := by decide +kernel
theorem d_Mo_unlikeAt_190 : decode prog_11_method_30_code 190 = .ok (.iload 5, 2) := by decide +kernel
theorem d_Mo_unlikeAt_192 : decode prog_11_method_30_code 192 = .ok (.iaload, 1) := by decide +kernel
theorem d_Mo_unlikeAt_193 : decode prog_11_method_30_code 193 = .ok (.iload_n 3, 1) := by decide +kernel
theorem d_Mo_unlikeAt_194 : decode prog_11_method_30_code 194 = .ok (.if_icmp .ne 7, 3) := by decide +kernel
theorem d_Mo_unlikeAt_197 : decode prog_11_method_30_code 197 = .ok (.iconst 1, 1) := by decide +kernel
theorem d_Mo_unlikeAt_198 : decode prog_11_method_30_code 198 = .ok (.goto 4, 3) := by decide +kernel
theorem d_Mo_unlikeAt_201 : decode prog_11_method_30_code 201 = .ok (.iconst 0, 1) := by decide +kernel
theorem d_Mo_unlikeAt_202 : decode prog_11_method_30_code 202 = .ok (.istore 8, 2) := by decide +kernel
theorem d_Mo_unlikeAt_204 : decode prog_11_method_30_code 204 = .ok (.iload 8, 2) := by decide +kernel
theorem d_Mo_unlikeAt_206 : decode prog_11_method_30_code 206 = .ok (.ifCond .eq 7, 3) := by decide +kernel
theorem d_Mo_unlikeAt_209 : decode prog_11_method_30_code 209 = .ok (.iconst 1, 1) := by decide +kernel
theorem d_Mo_unlikeAt_210 : decode prog_11_method_30_code 210 = .ok (.goto 4, 3) := by decide +kernel
theorem d_Mo_unlikeAt_213 : decode prog_11_method_30_code 213 = .ok (.iconst 0, 1) := by decide +kernel
theorem d_Mo_unlikeAt_214 : decode prog_11_method_30_code 214 = .ok (.ireturn, 1) := by decide +kernel
theorem d_Mo_unlike_0 : decode prog_11_method_31_code 0 = .ok (.aload_n 0, 1) := by decide +kernel
theorem d_Mo_unlike_1 : decode prog_11_method_31_code 1 = .ok (.iload_n 1, 1) := by decide +kernel
theorem d_Mo_unlike_2 : decode prog_11_method_31_code 2 = .ok (.invokevirtual 117, 3) := by decide +kernel
theorem d_Mo_unlike_5 : decode prog_11_method_31_code 5 = .ok (.ifCond .eq 11, 3) := by decide +kernel
theorem d_Mo_unlike_8 : decode prog_11_method_31_code 8 = .ok (.aload_n 0, 1) := by decide +kernel
theorem d_Mo_unlike_9 : decode prog_11_method_31_code 9 = .ok (.iload_n 2, 1) := by decide +kernel
theorem d_Mo_unlike_10 : decode prog_11_method_31_code 10 = .ok (.invokevirtual 117, 3) := by decide +kernel
theorem d_Mo_unlike_13 : decode prog_11_method_31_code 13 = .ok (.ifCond .ne 5, 3) := by decide +kernel
theorem d_Mo_unlike_16 : decode prog_11_method_31_code 16 = .ok (.iconst (-1), 1) := by decide +kernel
theorem d_Mo_unlike_17 : decode prog_11_method_31_code 17 = .ok (.ireturn, 1) := by decide +kernel
theorem d_Mo_unlike_18 : decode prog_11_method_31_code 18 = .ok (.aload_n 0, 1) := by decide +kernel
theorem d_Mo_unlike_19 : decode prog_11_method_31_code 19 = .ok (.getfield 7, 3) := by decide +kernel
theorem d_Mo_unlike_22 : decode prog_11_method_31_code 22 = .ok (.iload_n 1, 1) := by decide +kernel
theorem d_Mo_unlike_23 : decode prog_11_method_31_code 23 = .ok (.iaload, 1) := by decide +kernel
theorem d_Mo_unlike_24 : decode prog_11_method_31_code 24 = .ok (.aload_n 0, 1) := by decide +kernel
theorem d_Mo_unlike_25 : decode prog_11_method_31_code 25 = .ok (.getfield 7, 3) := by decide +kernel
theorem d_Mo_unlike_28 : decode prog_11_method_31_code 28 = .ok (.iload_n 2, 1) := by decide +kernel
theorem d_Mo_unlike_29 : decode prog_11_method_31_code 29 = .ok (.iaload, 1) := by decide +kernel
theorem d_Mo_unlike_30 : decode prog_11_method_31_code 30 = .ok (.if_icmp .eq 34, 3) := by decide +kernel
theorem d_Mo_unlike_33 : decode prog_11_method_31_code 33 = .ok (.aload_n 0, 1) := by decide +kernel
theorem d_Mo_unlike_34 : decode prog_11_method_31_code 34 = .ok (.getfield 7, 3) := by decide +kernel
theorem d_Mo_unlike_37 : decode prog_11_method_31_code 37 = .ok (.iload_n 1, 1) := by decide +kernel
theorem d_Mo_unlike_38 : decode prog_11_method_31_code 38 = .ok (.iaload, 1) := by decide +kernel
theorem d_Mo_unlike_39 : decode prog_11_method_31_code 39 = .ok (.aload_n 0, 1) := by decide +kernel
theorem d_Mo_unlike_40 : decode prog_11_method_31_code 40 = .ok (.getfield 7, 3) := by decide +kernel
theorem d_Mo_unlike_43 : decode prog_11_method_31_code 43 = .ok (.iload_n 2, 1) := by decide +kernel
theorem d_Mo_unlike_44 : decode prog_11_method_31_code 44 = .ok (.iaload, 1) := by decide +kernel
theorem d_Mo_unlike_45 : decode prog_11_method_31_code 45 = .ok (.if_icmp .ge 12, 3) := by decide +kernel
theorem d_Mo_unlike_48 : decode prog_11_method_31_code 48 = .ok (.aload_n 0, 1) := by decide +kernel
theorem d_Mo_unlike_49 : decode prog_11_method_31_code 49 = .ok (.getfield 7, 3) := by decide +kernel
theorem d_Mo_unlike_52 : decode prog_11_method_31_code 52 = .ok (.iload_n 1, 1) := by decide +kernel
theorem d_Mo_unlike_53 : decode prog_11_method_31_code 53 = .ok (.iaload, 1) := by decide +kernel
theorem d_Mo_unlike_54 : decode prog_11_method_31_code 54 = .ok (.goto 9, 3) := by decide +kernel
theorem d_Mo_unlike_57 : decode prog_11_method_31_code 57 = .ok (.aload_n 0, 1) := by decide +kernel
theorem d_Mo_unlike_58 : decode prog_11_method_31_code 58 = .ok (.getfield 7, 3) := by decide +kernel
theorem d_Mo_unlike_61 : decode prog_11_method_31_code 61 = .ok (.iload_n 2, 1) := by decide +kernel
theorem d_Mo_unlike_62 : decode prog_11_method_31_code 62 = .ok (.iaload, 1) := by decide +kernel
theorem d_Mo_unlike_63 : decode prog_11_method_31_code 63 = .ok (.ireturn, 1) := by decide +kernel
theorem d_Mo_unlike_64 : decode prog_11_method_31_code 64 = .ok (.iconst 0, 1) := by decide +kernel
theorem d_Mo_unlike_65 : decode prog_11_method_31_code 65 = .ok (.istore_n 3, 1) := by decide +kernel
theorem d_Mo_unlike_66 : decode prog_11_method_31_code 66 = .ok (.iload_n 3, 1) := by decide +kernel
theorem d_Mo_unlike_67 : decode prog_11_method_31_code 67 = .ok (.aload_n 0, 1) := by decide +kernel
theorem d_Mo_unlike_68 : decode prog_11_method_31_code 68 = .ok (.getfield 7, 3) := by decide +kernel
theorem d_Mo_unlike_71 : decode prog_11_method_31_code 71 = .ok (.iload_n 1, 1) := by decide +kernel
theorem d_Mo_unlike_72 : decode prog_11_method_31_code 72 = .ok (.iaload, 1) := by decide +kernel
theorem d_Mo_unlike_73 : decode prog_11_method_31_code 73 = .ok (.if_icmp .ge 22, 3) := by decide +kernel
theorem d_Mo_unlike_76 : decode prog_11_method_31_code 76 = .ok (.aload_n 0, 1) := by decide +kernel
theorem d_Mo_unlike_77 : decode prog_11_method_31_code 77 = .ok (.iload_n 1, 1) := by decide +kernel
theorem d_Mo_unlike_78 : decode prog_11_method_31_code 78 = .ok (.iload_n 2, 1) := by decide +kernel
theorem d_Mo_unlike_79 : decode prog_11_method_31_code 79 = .ok (.iload_n 3, 1) := by decide +kernel
theorem d_Mo_unlike_80 : decode prog_11_method_31_code 80 = .ok (.invokevirtual 190, 3) := by decide +kernel
theorem d_Mo_unlike_83 : decode prog_11_method_31_code 83 = .ok (.iconst 1, 1) := by decide +kernel
theorem d_Mo_unlike_84 : decode prog_11_method_31_code 84 = .ok (.if_icmp .ne 5, 3) := by decide +kernel
theorem d_Mo_unlike_87 : decode prog_11_method_31_code 87 = .ok (.iload_n 3, 1) := by decide +kernel
theorem d_Mo_unlike_88 : decode prog_11_method_31_code 88 = .ok (.ireturn, 1) := by decide +kernel
theorem d_Mo_unlike_89 : decode prog_11_method_31_code 89 = .ok (.iinc 3 1, 3) := by decide +kernel
theorem d_Mo_unlike_92 : decode prog_11_method_31_code 92 = .ok (.goto (-26), 3) := by decide +kernel
theorem d_Mo_unlike_95 : decode prog_11_method_31_code 95 = .ok (.bipush (-4), 2) := by decide +kernel
theorem d_Mo_unlike_97 : decode prog_11_method_31_code 97 = .ok (.ireturn, 1) := by decide +kernel
theorem d_Mo_turned_0 : decode prog_11_method_32_code 0 = .ok (.aload_n 0, 1) := by decide +kernel
theorem d_Mo_turned_1 : decode prog_11_method_32_code 1 = .ok (.iload_n 1, 1) := by decide +kernel
theorem d_Mo_turned_2 : decode prog_11_method_32_code 2 = .ok (.invokevirtual 117, 3) := by decide +kernel
theorem d_Mo_turned_5 : decode prog_11_method_32_code 5 = .ok (.ifCond .ne 5, 3) := by decide +kernel
theorem d_Mo_turned_8 : decode prog_11_method_32_code 8 = .ok (.iconst (-1), 1) := by decide +kernel
theorem d_Mo_turned_9 : decode prog_11_method_32_code 9 = .ok (.ireturn, 1) := by decide +kernel
theorem d_Mo_turned_10 : decode prog_11_method_32_code 10 = .ok (.iconst 1, 1) := by decide +kernel
theorem d_Mo_turned_11 : decode prog_11_method_32_code 11 = .ok (.istore_n 2, 1) := by decide +kernel
theorem d_Mo_turned_12 : decode prog_11_method_32_code 12 = .ok (.iconst 0, 1) := by decide +kernel
theorem d_Mo_turned_13 : decode prog_11_method_32_code 13 = .ok (.istore_n 3, 1) := by decide +kernel
theorem d_Mo_turned_14 : decode prog_11_method_32_code 14 = .ok (.iload_n 3, 1) := by decide +kernel
theorem d_Mo_turned_15 : decode prog_11_method_32_code 15 = .ok (.aload_n 0, 1) := by decide +kernel
theorem d_Mo_turned_16 : decode prog_11_method_32_code 16 = .ok (.getfield 7, 3) := by decide +kernel
theorem d_Mo_turned_19 : decode prog_11_method_32_code 19 = .ok (.iload_n 1, 1) := by decide +kernel
theorem d_Mo_turned_20 : decode prog_11_method_32_code 20 = .ok (.iaload, 1) := by decide +kernel
theorem d_Mo_turned_21 : decode prog_11_method_32_code 21 = .ok (.if_icmp .ge 25, 3) := by decide +kernel
theorem d_Mo_turned_24 : decode prog_11_method_32_code 24 = .ok (.aload_n 0, 1) := by decide +kernel
theorem d_Mo_turned_25 : decode prog_11_method_32_code 25 = .ok (.iload_n 1, 1) := by decide +kernel
theorem d_Mo_turned_26 : decode prog_11_method_32_code 26 = .ok (.iload_n 3, 1) := by decide +kernel
theorem d_Mo_turned_27 : decode prog_11_method_32_code 27 = .ok (.invokevirtual 128, 3) := by decide +kernel
theorem d_Mo_turned_30 : decode prog_11_method_32_code 30 = .ok (.iconst (-1), 1) := by decide +kernel
theorem d_Mo_turned_31 : decode prog_11_method_32_code 31 = .ok (.if_icmp .ge 7, 3) := by decide +kernel
theorem d_Mo_turned_34 : decode prog_11_method_32_code 34 = .ok (.iconst 0, 1) := by decide +kernel
theorem d_Mo_turned_35 : decode prog_11_method_32_code 35 = .ok (.goto 4, 3) := by decide +kernel
theorem d_Mo_turned_38 : decode prog_11_method_32_code 38 = .ok (.iload_n 2, 1) := by decide +kernel
theorem d_Mo_turned_39 : decode prog_11_method_32_code 39 = .ok (.istore_n 2, 1) := by decide +kernel
theorem d_Mo_turned_40 : decode prog_11_method_32_code 40 = .ok (.iinc 3 1, 3) := by decide +kernel
theorem d_Mo_turned_43 : decode prog_11_method_32_code 43 = .ok (.goto (-29), 3) := by decide +kernel
theorem d_Mo_turned_46 : decode prog_11_method_32_code 46 = .ok (.iload_n 2, 1) := by decide +kernel
theorem d_Mo_turned_47 : decode prog_11_method_32_code 47 = .ok (.ireturn, 1) := by decide +kernel
theorem d_Mo_pairOf_0 : decode prog_11_method_33_code 0 = .ok (.iload_n 0, 1) := by decide +kernel
theorem d_Mo_pairOf_1 : decode prog_11_method_33_code 1 = .ok (.ifCond .ne 9, 3) := by decide +kernel
theorem d_Mo_pairOf_4 : decode prog_11_method_33_code 4 = .ok (.iload_n 1, 1) := by decide +kernel
theorem d_Mo_pairOf_5 : decode prog_11_method_33_code 5 = .ok (.iconst 1, 1) := by decide +kernel
theorem d_Mo_pairOf_6 : decode prog_11_method_33_code 6 = .ok (.isub, 1) := by decide +kernel
theorem d_Mo_pairOf_7 : decode prog_11_method_33_code 7 = .ok (.goto 15, 3) := by decide +kernel
theorem d_Mo_pairOf_10 : decode prog_11_method_33_code 10 = .ok (.iload_n 0, 1) := by decide +kernel
theorem d_Mo_pairOf_11 : decode prog_11_method_33_code 11 = .ok (.iconst 1, 1) := by decide +kernel
theorem d_Mo_pairOf_12 : decode prog_11_method_33_code 12 = .ok (.if_icmp .ne 9, 3) := by decide +kernel
theorem d_Mo_pairOf_15 : decode prog_11_method_33_code 15 = .ok (.iload_n 1, 1) := by decide +kernel
theorem d_Mo_pairOf_16 : decode prog_11_method_33_code 16 = .ok (.iconst 1, 1) := by decide +kernel
theorem d_Mo_pairOf_17 : decode prog_11_method_33_code 17 = .ok (.iadd, 1) := by decide +kernel
theorem d_Mo_pairOf_18 : decode prog_11_method_33_code 18 = .ok (.goto 4, 3) := by decide +kernel
theorem d_Mo_pairOf_21 : decode prog_11_method_33_code 21 = .ok (.iconst 5, 1) := by decide +kernel
theorem d_Mo_pairOf_22 : decode prog_11_method_33_code 22 = .ok (.ireturn, 1) := by decide +kernel
theorem d_Mo_weighedFrom_0 : decode prog_11_method_34_code 0 = .ok (.iconst 0, 1) := by decide +kernel
theorem d_Mo_weighedFrom_1 : decode prog_11_method_34_code 1 = .ok (.istore_n 2, 1) := by decide +kernel
theorem d_Mo_weighedFrom_2 : decode prog_11_method_34_code 2 = .ok (.iload_n 1, 1) := by decide +kernel
theorem d_Mo_weighedFrom_3 : decode prog_11_method_34_code 3 = .ok (.iconst 1, 1) := by decide +kernel
theorem d_Mo_weighedFrom_4 : decode prog_11_method_34_code 4 = .ok (.iadd, 1) := by decide +kernel
theorem d_Mo_weighedFrom_5 : decode prog_11_method_34_code 5 = .ok (.istore_n 3, 1) := by decide +kernel
theorem d_Mo_weighedFrom_6 : decode prog_11_method_34_code 6 = .ok (.iload_n 3, 1) := by decide +kernel
theorem d_Mo_weighedFrom_7 : decode prog_11_method_34_code 7 = .ok (.iconst 4, 1) := by decide +kernel
theorem d_Mo_weighedFrom_8 : decode prog_11_method_34_code 8 = .ok (.if_icmp .ge 47, 3) := by decide +kernel
theorem d_Mo_weighedFrom_11 : decode prog_11_method_34_code 11 = .ok (.iconst 1, 1) := by decide +kernel
theorem d_Mo_weighedFrom_12 : decode prog_11_method_34_code 12 = .ok (.istore 4, 2) := by decide +kernel
theorem d_Mo_weighedFrom_14 : decode prog_11_method_34_code 14 = .ok (.iload 4, 2) := by decide +kernel
theorem d_Mo_weighedFrom_16 : decode prog_11_method_34_code 16 = .ok (.iconst 4, 1) := by decide +kernel
theorem d_Mo_weighedFrom_17 : decode prog_11_method_34_code 17 = .ok (.if_icmp .gt 32, 3) := by decide +kernel
theorem d_Mo_weighedFrom_20 : decode prog_11_method_34_code 20 = .ok (.iload_n 2, 1) := by decide +kernel
theorem d_Mo_weighedFrom_21 : decode prog_11_method_34_code 21 = .ok (.iload 4, 2) := by decide +kernel
theorem d_Mo_weighedFrom_23 : decode prog_11_method_34_code 23 = .ok (.aload_n 0, 1) := by decide +kernel
theorem d_Mo_weighedFrom_24 : decode prog_11_method_34_code 24 = .ok (.getfield 48, 3) := by decide +kernel
theorem d_Mo_weighedFrom_27 : decode prog_11_method_34_code 27 = .ok (.iconst 4, 1) := by decide +kernel
theorem d_Mo_weighedFrom_28 : decode prog_11_method_34_code 28 = .ok (.iload_n 1, 1) := by decide +kernel
theorem d_Mo_weighedFrom_29 : decode prog_11_method_34_code 29 = .ok (.iload_n 3, 1) := by decide +kernel
theorem d_Mo_weighedFrom_30 : decode prog_11_method_34_code 30 = .ok (.invokestatic 194, 3) := by decide +kernel
theorem d_Mo_weighedFrom_33 : decode prog_11_method_34_code 33 = .ok (.imul, 1) := by decide +kernel
theorem d_Mo_weighedFrom_34 : decode prog_11_method_34_code 34 = .ok (.iload 4, 2) := by decide +kernel
theorem d_Mo_weighedFrom_36 : decode prog_11_method_34_code 36 = .ok (.iadd, 1) := by decide +kernel
theorem d_Mo_weighedFrom_37 : decode prog_11_method_34_code 37 = .ok (.iconst 1, 1) := by decide +kernel
theorem d_Mo_weighedFrom_38 : decode prog_11_method_34_code 38 = .ok (.isub, 1) := by decide +kernel
theorem d_Mo_weighedFrom_39 : decode prog_11_method_34_code 39 = .ok (.iaload, 1) := by decide +kernel
theorem d_Mo_weighedFrom_40 : decode prog_11_method_34_code 40 = .ok (.imul, 1) := by decide +kernel
theorem d_Mo_weighedFrom_41 : decode prog_11_method_34_code 41 = .ok (.iadd, 1) := by decide +kernel
theorem d_Mo_weighedFrom_42 : decode prog_11_method_34_code 42 = .ok (.istore_n 2, 1) := by decide +kernel
theorem d_Mo_weighedFrom_43 : decode prog_11_method_34_code 43 = .ok (.iinc 4 1, 3) := by decide +kernel
theorem d_Mo_weighedFrom_46 : decode prog_11_method_34_code 46 = .ok (.goto (-32), 3) := by decide +kernel
theorem d_Mo_weighedFrom_49 : decode prog_11_method_34_code 49 = .ok (.iinc 3 1, 3) := by decide +kernel
theorem d_Mo_weighedFrom_52 : decode prog_11_method_34_code 52 = .ok (.goto (-46), 3) := by decide +kernel
theorem d_Mo_weighedFrom_55 : decode prog_11_method_34_code 55 = .ok (.iload_n 2, 1) := by decide +kernel
theorem d_Mo_weighedFrom_56 : decode prog_11_method_34_code 56 = .ok (.ireturn, 1) := by decide +kernel
theorem d_Mo_weighedTo_0 : decode prog_11_method_35_code 0 = .ok (.iconst 0, 1) := by decide +kernel
theorem d_Mo_weighedTo_1 : decode prog_11_method_35_code 1 = .ok (.istore_n 2, 1) := by decide +kernel
theorem d_Mo_weighedTo_2 : decode prog_11_method_35_code 2 = .ok (.iconst 0, 1) := by decide +kernel
theorem d_Mo_weighedTo_3 : decode prog_11_method_35_code 3 = .ok (.istore_n 3, 1) := by decide +kernel
theorem d_Mo_weighedTo_4 : decode prog_11_method_35_code 4 = .ok (.iload_n 3, 1) := by decide +kernel
theorem d_Mo_weighedTo_5 : decode prog_11_method_35_code 5 = .ok (.iload_n 1, 1) := by decide +kernel
theorem d_Mo_weighedTo_6 : decode prog_11_method_35_code 6 = .ok (.if_icmp .ge 47, 3) := by decide +kernel
theorem d_Mo_weighedTo_9 : decode prog_11_method_35_code 9 = .ok (.iconst 1, 1) := by decide +kernel
theorem d_Mo_weighedTo_10 : decode prog_11_method_35_code 10 = .ok (.istore 4, 2) := by decide +kernel
theorem d_Mo_weighedTo_12 : decode prog_11_method_35_code 12 = .ok (.iload 4, 2) := by decide +kernel
theorem d_Mo_weighedTo_14 : decode prog_11_method_35_code 14 = .ok (.iconst 4, 1) := by decide +kernel
theorem d_Mo_weighedTo_15 : decode prog_11_method_35_code 15 = .ok (.if_icmp .gt 32, 3) := by decide +kernel
theorem d_Mo_weighedTo_18 : decode prog_11_method_35_code 18 = .ok (.iload_n 2, 1) := by decide +kernel
theorem d_Mo_weighedTo_19 : decode prog_11_method_35_code 19 = .ok (.iload 4, 2) := by decide +kernel
theorem d_Mo_weighedTo_21 : decode prog_11_method_35_code 21 = .ok (.aload_n 0, 1) := by decide +kernel
theorem d_Mo_weighedTo_22 : decode prog_11_method_35_code 22 = .ok (.getfield 48, 3) := by decide +kernel
theorem d_Mo_weighedTo_25 : decode prog_11_method_35_code 25 = .ok (.iconst 4, 1) := by decide +kernel
theorem d_Mo_weighedTo_26 : decode prog_11_method_35_code 26 = .ok (.iload_n 3, 1) := by decide +kernel
theorem d_Mo_weighedTo_27 : decode prog_11_method_35_code 27 = .ok (.iload_n 1, 1) := by decide +kernel
theorem d_Mo_weighedTo_28 : decode prog_11_method_35_code 28 = .ok (.invokestatic 194, 3) := by decide +kernel
theorem d_Mo_weighedTo_31 : decode prog_11_method_35_code 31 = .ok (.imul, 1) := by decide +kernel
theorem d_Mo_weighedTo_32 : decode prog_11_method_35_code 32 = .ok (.iload 4, 2) := by decide +kernel
theorem d_Mo_weighedTo_34 : decode prog_11_method_35_code 34 = .ok (.iadd, 1) := by decide +kernel
theorem d_Mo_weighedTo_35 : decode prog_11_method_35_code 35 = .ok (.iconst 1, 1) := by decide +kernel
theorem d_Mo_weighedTo_36 : decode prog_11_method_35_code 36 = .ok (.isub, 1) := by decide +kernel
theorem d_Mo_weighedTo_37 : decode prog_11_method_35_code 37 = .ok (.iaload, 1) := by decide +kernel
theorem d_Mo_weighedTo_38 : decode prog_11_method_35_code 38 = .ok (.imul, 1) := by decide +kernel
theorem d_Mo_weighedTo_39 : decode prog_11_method_35_code 39 = .ok (.iadd, 1) := by decide +kernel
theorem d_Mo_weighedTo_40 : decode prog_11_method_35_code 40 = .ok (.istore_n 2, 1) := by decide +kernel
theorem d_Mo_weighedTo_41 : decode prog_11_method_35_code 41 = .ok (.iinc 4 1, 3) := by decide +kernel
theorem d_Mo_weighedTo_44 : decode prog_11_method_35_code 44 = .ok (.goto (-32), 3) := by decide +kernel
theorem d_Mo_weighedTo_47 : decode prog_11_method_35_code 47 = .ok (.iinc 3 1, 3) := by decide +kernel
theorem d_Mo_weighedTo_50 : decode prog_11_method_35_code 50 = .ok (.goto (-46), 3) := by decide +kernel
theorem d_Mo_weighedTo_53 : decode prog_11_method_35_code 53 = .ok (.iload_n 2, 1) := by decide +kernel
theorem d_Mo_weighedTo_54 : decode prog_11_method_35_code 54 = .ok (.ireturn, 1) := by decide +kernel
theorem d_Mo_fromOf_0 : decode prog_11_method_36_code 0 = .ok (.iload_n 0, 1) := by decide +kernel
theorem d_Mo_fromOf_1 : decode prog_11_method_36_code 1 = .ok (.bipush 12, 2) := by decide +kernel
theorem d_Mo_fromOf_3 : decode prog_11_method_36_code 3 = .ok (.if_icmp .ge 7, 3) := by decide +kernel
theorem d_Mo_fromOf_6 : decode prog_11_method_36_code 6 = .ok (.iconst 0, 1) := by decide +kernel
theorem d_Mo_fromOf_7 : decode prog_11_method_36_code 7 = .ok (.goto 14, 3) := by decide +kernel
theorem d_Mo_fromOf_10 : decode prog_11_method_36_code 10 = .ok (.iload_n 0, 1) := by decide +kernel
theorem d_Mo_fromOf_11 : decode prog_11_method_36_code 11 = .ok (.bipush 20, 2) := by decide +kernel
theorem d_Mo_fromOf_13 : decode prog_11_method_36_code 13 = .ok (.if_icmp .ge 7, 3) := by decide +kernel
theorem d_Mo_fromOf_16 : decode prog_11_method_36_code 16 = .ok (.iconst 1, 1) := by decide +kernel
theorem d_Mo_fromOf_17 : decode prog_11_method_36_code 17 = .ok (.goto 4, 3) := by decide +kernel
theorem d_Mo_fromOf_20 : decode prog_11_method_36_code 20 = .ok (.iconst 2, 1) := by decide +kernel
theorem d_Mo_fromOf_21 : decode prog_11_method_36_code 21 = .ok (.ireturn, 1) := by decide +kernel
theorem d_Mo_toOf_0 : decode prog_11_method_37_code 0 = .ok (.iload_n 0, 1) := by decide +kernel
theorem d_Mo_toOf_1 : decode prog_11_method_37_code 1 = .ok (.iconst 4, 1) := by decide +kernel
theorem d_Mo_toOf_2 : decode prog_11_method_37_code 2 = .ok (.idiv, 1) := by decide +kernel
theorem d_Mo_toOf_3 : decode prog_11_method_37_code 3 = .ok (.istore_n 1, 1) := by decide +kernel
theorem d_Mo_toOf_4 : decode prog_11_method_37_code 4 = .ok (.iload_n 1, 1) := by decide +kernel
theorem d_Mo_toOf_5 : decode prog_11_method_37_code 5 = .ok (.iconst 3, 1) := by decide +kernel
theorem d_Mo_toOf_6 : decode prog_11_method_37_code 6 = .ok (.if_icmp .ge 9, 3) := by decide +kernel
theorem d_Mo_toOf_9 : decode prog_11_method_37_code 9 = .ok (.iload_n 1, 1) := by decide +kernel
theorem d_Mo_toOf_10 : decode prog_11_method_37_code 10 = .ok (.iconst 1, 1) := by decide +kernel
theorem d_Mo_toOf_11 : decode prog_11_method_37_code 11 = .ok (.iadd, 1) := by decide +kernel
theorem d_Mo_toOf_12 : decode prog_11_method_37_code 12 = .ok (.goto 15, 3) := by decide +kernel
theorem d_Mo_toOf_15 : decode prog_11_method_37_code 15 = .ok (.iload_n 1, 1) := by decide +kernel
theorem d_Mo_toOf_16 : decode prog_11_method_37_code 16 = .ok (.iconst 5, 1) := by decide +kernel
theorem d_Mo_toOf_17 : decode prog_11_method_37_code 17 = .ok (.if_icmp .ge 9, 3) := by decide +kernel
theorem d_Mo_toOf_20 : decode prog_11_method_37_code 20 = .ok (.iload_n 1, 1) := by decide +kernel
theorem d_Mo_toOf_21 : decode prog_11_method_37_code 21 = .ok (.iconst 1, 1) := by decide +kernel
theorem d_Mo_toOf_22 : decode prog_11_method_37_code 22 = .ok (.isub, 1) := by decide +kernel
theorem d_Mo_toOf_23 : decode prog_11_method_37_code 23 = .ok (.goto 4, 3) := by decide +kernel
theorem d_Mo_toOf_26 : decode prog_11_method_37_code 26 = .ok (.iconst 3, 1) := by decide +kernel
theorem d_Mo_toOf_27 : decode prog_11_method_37_code 27 = .ok (.ireturn, 1) := by decide +kernel
theorem d_Mo_nextRow_0 : decode prog_11_method_38_code 0 = .ok (.bipush 23, 2) := by decide +kernel
theorem d_Mo_nextRow_2 : decode prog_11_method_38_code 2 = .ok (.istore_n 2, 1) := by decide +kernel
theorem d_Mo_nextRow_3 : decode prog_11_method_38_code 3 = .ok (.iload_n 2, 1) := by decide +kernel
theorem d_Mo_nextRow_4 : decode prog_11_method_38_code 4 = .ok (.ifCond .lt 56, 3) := by decide +kernel
theorem d_Mo_nextRow_7 : decode prog_11_method_38_code 7 = .ok (.iload_n 2, 1) := by decide +kernel
theorem d_Mo_nextRow_8 : decode prog_11_method_38_code 8 = .ok (.invokestatic 197, 3) := by decide +kernel
theorem d_Mo_nextRow_11 : decode prog_11_method_38_code 11 = .ok (.iload_n 1, 1) := by decide +kernel
theorem d_Mo_nextRow_12 : decode prog_11_method_38_code 12 = .ok (.if_icmp .ge 35, 3) := by decide +kernel
theorem d_Mo_nextRow_15 : decode prog_11_method_38_code 15 = .ok (.aload_n 0, 1) := by decide +kernel
theorem d_Mo_nextRow_16 : decode prog_11_method_38_code 16 = .ok (.getfield 48, 3) := by decide +kernel
theorem d_Mo_nextRow_19 : decode prog_11_method_38_code 19 = .ok (.iload_n 2, 1) := by decide +kernel
theorem d_Mo_nextRow_20 : decode prog_11_method_38_code 20 = .ok (.dup2, 1) := by decide +kernel
theorem d_Mo_nextRow_21 : decode prog_11_method_38_code 21 = .ok (.iaload, 1) := by decide +kernel
theorem d_Mo_nextRow_22 : decode prog_11_method_38_code 22 = .ok (.iconst 1, 1) := by decide +kernel
theorem d_Mo_nextRow_23 : decode prog_11_method_38_code 23 = .ok (.iadd, 1) := by decide +kernel
theorem d_Mo_nextRow_24 : decode prog_11_method_38_code 24 = .ok (.iastore, 1) := by decide +kernel
theorem d_Mo_nextRow_25 : decode prog_11_method_38_code 25 = .ok (.iload_n 2, 1) := by decide +kernel
theorem d_Mo_nextRow_26 : decode prog_11_method_38_code 26 = .ok (.invokestatic 200, 3) := by decide +kernel
theorem d_Mo_nextRow_29 : decode prog_11_method_38_code 29 = .ok (.istore_n 3, 1) := by decide +kernel
theorem d_Mo_nextRow_30 : decode prog_11_method_38_code 30 = .ok (.aload_n 0, 1) := by decide +kernel
theorem d_Mo_nextRow_31 : decode prog_11_method_38_code 31 = .ok (.iload_n 3, 1) := by decide +kernel
theorem d_Mo_nextRow_32 : decode prog_11_method_38_code 32 = .ok (.invokevirtual 203, 3) := by decide +kernel
theorem d_Mo_nextRow_35 : decode prog_11_method_38_code 35 = .ok (.iconst 1, 1) := by decide +kernel
theorem d_Mo_nextRow_36 : decode prog_11_method_38_code 36 = .ok (.aload_n 0, 1) := by decide +kernel
theorem d_Mo_nextRow_37 : decode prog_11_method_38_code 37 = .ok (.iload_n 3, 1) := by decide +kernel
theorem d_Mo_nextRow_38 : decode prog_11_method_38_code 38 = .ok (.invokevirtual 206, 3) := by decide +kernel
theorem d_Mo_nextRow_41 : decode prog_11_method_38_code 41 = .ok (.iadd, 1) := by decide +kernel
theorem d_Mo_nextRow_42 : decode prog_11_method_38_code 42 = .ok (.if_icmp .gt 5, 3) := by decide +kernel
theorem d_Mo_nextRow_45 : decode prog_11_method_38_code 45 = .ok (.iconst 1, 1) := by decide +kernel
theorem d_Mo_nextRow_46 : decode prog_11_method_38_code 46 = .ok (.ireturn, 1) := by decide +kernel
theorem d_Mo_nextRow_47 : decode prog_11_method_38_code 47 = .ok (.aload_n 0, 1) := by decide +kernel
theorem d_Mo_nextRow_48 : decode prog_11_method_38_code 48 = .ok (.getfield 48, 3) := by decide +kernel
theorem d_Mo_nextRow_51 : decode prog_11_method_38_code 51 = .ok (.iload_n 2, 1) := by decide +kernel
theorem d_Mo_nextRow_52 : decode prog_11_method_38_code 52 = .ok (.iconst 0, 1) := by decide +kernel
theorem d_Mo_nextRow_53 : decode prog_11_method_38_code 53 = .ok (.iastore, 1) := by decide +kernel
theorem d_Mo_nextRow_54 : decode prog_11_method_38_code 54 = .ok (.iinc 2 (-1), 3) := by decide +kernel
theorem d_Mo_nextRow_57 : decode prog_11_method_38_code 57 = .ok (.goto (-54), 3) := by decide +kernel
theorem d_Mo_nextRow_60 : decode prog_11_method_38_code 60 = .ok (.iconst 0, 1) := by decide +kernel
theorem d_Mo_nextRow_61 : decode prog_11_method_38_code 61 = .ok (.ireturn, 1) := by decide +kernel
