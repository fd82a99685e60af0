theorem dX9_init_0 : decode cX9_init 0 = .ok (.aload_n 0, 1) := by decide +kernel
theorem dX9_init_1 : decode cX9_init 1 = .ok (.invokespecial 3, 3) := by decide +kernel
theorem dX9_init_4 : decode cX9_init 4 = .ok (.aload_n 0, 1) := by decide +kernel
theorem dX9_init_5 : decode cX9_init 5 = .ok (.bipush 29, 2) := by decide +kernel
theorem dX9_init_7 : decode cX9_init 7 = .ok (.newarray .int, 2) := by decide +kernel
theorem dX9_init_9 : decode cX9_init 9 = .ok (.putfield 9, 3) := by decide +kernel
theorem dX9_init_12 : decode cX9_init 12 = .ok (.aload_n 0, 1) := by decide +kernel
theorem dX9_init_13 : decode cX9_init 13 = .ok (.bipush 8, 2) := by decide +kernel
theorem dX9_init_15 : decode cX9_init 15 = .ok (.newarray .int, 2) := by decide +kernel
theorem dX9_init_17 : decode cX9_init 17 = .ok (.putfield 13, 3) := by decide +kernel
theorem dX9_init_20 : decode cX9_init 20 = .ok (.aload_n 0, 1) := by decide +kernel
theorem dX9_init_21 : decode cX9_init 21 = .ok (.bipush 8, 2) := by decide +kernel
theorem dX9_init_23 : decode cX9_init 23 = .ok (.newarray .int, 2) := by decide +kernel
theorem dX9_init_25 : decode cX9_init 25 = .ok (.putfield 16, 3) := by decide +kernel
theorem dX9_init_28 : decode cX9_init 28 = .ok (.aload_n 0, 1) := by decide +kernel
theorem dX9_init_29 : decode cX9_init 29 = .ok (.bipush 8, 2) := by decide +kernel
theorem dX9_init_31 : decode cX9_init 31 = .ok (.newarray .int, 2) := by decide +kernel
theorem dX9_init_33 : decode cX9_init 33 = .ok (.putfield 19, 3) := by decide +kernel
theorem dX9_init_36 : decode cX9_init 36 = .ok (.aload_n 0, 1) := by decide +kernel
theorem dX9_init_37 : decode cX9_init 37 = .ok (.bipush 16, 2) := by decide +kernel
theorem dX9_init_39 : decode cX9_init 39 = .ok (.newarray .int, 2) := by decide +kernel
theorem dX9_init_41 : decode cX9_init 41 = .ok (.putfield 22, 3) := by decide +kernel
theorem dX9_init_44 : decode cX9_init 44 = .ok (.aload_n 0, 1) := by decide +kernel
theorem dX9_init_45 : decode cX9_init 45 = .ok (.iconst 1, 1) := by decide +kernel
theorem dX9_init_46 : decode cX9_init 46 = .ok (.putfield 25, 3) := by decide +kernel
theorem dX9_init_49 : decode cX9_init 49 = .ok (.aload_n 0, 1) := by decide +kernel
theorem dX9_init_50 : decode cX9_init 50 = .ok (.bipush 80, 2) := by decide +kernel
theorem dX9_init_52 : decode cX9_init 52 = .ok (.newarray .byte, 2) := by decide +kernel
theorem dX9_init_54 : decode cX9_init 54 = .ok (.putfield 29, 3) := by decide +kernel
theorem dX9_init_57 : decode cX9_init 57 = .ok (.aload_n 0, 1) := by decide +kernel
theorem dX9_init_58 : decode cX9_init 58 = .ok (.bipush 16, 2) := by decide +kernel
theorem dX9_init_60 : decode cX9_init 60 = .ok (.newarray .long, 2) := by decide +kernel
theorem dX9_init_62 : decode cX9_init 62 = .ok (.putfield 33, 3) := by decide +kernel
theorem dX9_init_65 : decode cX9_init 65 = .ok (.aload_n 0, 1) := by decide +kernel
theorem dX9_init_66 : decode cX9_init 66 = .ok (.bipush 24, 2) := by decide +kernel
theorem dX9_init_68 : decode cX9_init 68 = .ok (.newarray .int, 2) := by decide +kernel
theorem dX9_init_70 : decode cX9_init 70 = .ok (.putfield 37, 3) := by decide +kernel
theorem dX9_init_73 : decode cX9_init 73 = .ok (.aload_n 0, 1) := by decide +kernel
theorem dX9_init_74 : decode cX9_init 74 = .ok (.bipush 40, 2) := by decide +kernel
theorem dX9_init_76 : decode cX9_init 76 = .ok (.newarray .byte, 2) := by decide +kernel
theorem dX9_init_78 : decode cX9_init 78 = .ok (.putfield 40, 3) := by decide +kernel
theorem dX9_init_81 : decode cX9_init 81 = .ok (.aload_n 0, 1) := by decide +kernel
theorem dX9_init_82 : decode cX9_init 82 = .ok (.bipush 40, 2) := by decide +kernel
theorem dX9_init_84 : decode cX9_init 84 = .ok (.newarray .byte, 2) := by decide +kernel
theorem dX9_init_86 : decode cX9_init 86 = .ok (.putfield 43, 3) := by decide +kernel
theorem dX9_init_89 : decode cX9_init 89 = .ok (.aload_n 0, 1) := by decide +kernel
theorem dX9_init_90 : decode cX9_init 90 = .ok (.bipush 7, 2) := by decide +kernel
theorem dX9_init_92 : decode cX9_init 92 = .ok (.newarray .int, 2) := by decide +kernel
theorem dX9_init_94 : decode cX9_init 94 = .ok (.putfield 46, 3) := by decide +kernel
theorem dX9_init_97 : decode cX9_init 97 = .ok (.aload_n 0, 1) := by decide +kernel
theorem dX9_init_98 : decode cX9_init 98 = .ok (.sipush 348, 3) := by decide +kernel
theorem dX9_init_101 : decode cX9_init 101 = .ok (.newarray .int, 2) := by decide +kernel
theorem dX9_init_103 : decode cX9_init 103 = .ok (.putfield 49, 3) := by decide +kernel
theorem dX9_init_106 : decode cX9_init 106 = .ok (.aload_n 0, 1) := by decide +kernel
theorem dX9_init_107 : decode cX9_init 107 = .ok (.bipush 29, 2) := by decide +kernel
theorem dX9_init_109 : decode cX9_init 109 = .ok (.newarray .int, 2) := by decide +kernel
theorem dX9_init_111 : decode cX9_init 111 = .ok (.putfield 52, 3) := by decide +kernel
theorem dX9_init_114 : decode cX9_init 114 = .ok (.aload_n 0, 1) := by decide +kernel
theorem dX9_init_115 : decode cX9_init 115 = .ok (.bipush 29, 2) := by decide +kernel
theorem dX9_init_117 : decode cX9_init 117 = .ok (.newarray .int, 2) := by decide +kernel
theorem dX9_init_119 : decode cX9_init 119 = .ok (.putfield 55, 3) := by decide +kernel
theorem dX9_init_122 : decode cX9_init 122 = .ok (.aload_n 0, 1) := by decide +kernel
theorem dX9_init_123 : decode cX9_init 123 = .ok (.bipush 29, 2) := by decide +kernel
theorem dX9_init_125 : decode cX9_init 125 = .ok (.newarray .int, 2) := by decide +kernel
theorem dX9_init_127 : decode cX9_init 127 = .ok (.putfield 58, 3) := by decide +kernel
theorem dX9_init_130 : decode cX9_init 130 = .ok (.aload_n 0, 1) := by decide +kernel
theorem dX9_init_131 : decode cX9_init 131 = .ok (.bipush 8, 2) := by decide +kernel
theorem dX9_init_133 : decode cX9_init 133 = .ok (.newarray .int, 2) := by decide +kernel
theorem dX9_init_135 : decode cX9_init 135 = .ok (.putfield 61, 3) := by decide +kernel
theorem dX9_init_138 : decode cX9_init 138 = .ok (.aload_n 0, 1) := by decide +kernel
theorem dX9_init_139 : decode cX9_init 139 = .ok (.bipush 8, 2) := by decide +kernel
theorem dX9_init_141 : decode cX9_init 141 = .ok (.newarray .int, 2) := by decide +kernel
theorem dX9_init_143 : decode cX9_init 143 = .ok (.putfield 64, 3) := by decide +kernel
theorem dX9_init_146 : decode cX9_init 146 = .ok (.aload_n 0, 1) := by decide +kernel
theorem dX9_init_147 : decode cX9_init 147 = .ok (.sipush 240, 3) := by decide +kernel
theorem dX9_init_150 : decode cX9_init 150 = .ok (.newarray .int, 2) := by decide +kernel
theorem dX9_init_152 : decode cX9_init 152 = .ok (.putfield 67, 3) := by decide +kernel
theorem dX9_init_155 : decode cX9_init 155 = .ok (.aload_n 0, 1) := by decide +kernel
theorem dX9_init_156 : decode cX9_init 156 = .ok (.bipush 8, 2) := by decide +kernel
theorem dX9_init_158 : decode cX9_init 158 = .ok (.newarray .int, 2) := by decide +kernel
theorem dX9_init_160 : decode cX9_init 160 = .ok (.putfield 70, 3) := by decide +kernel
theorem dX9_init_163 : decode cX9_init 163 = .ok (.aload_n 0, 1) := by decide +kernel
theorem dX9_init_164 : decode cX9_init 164 = .ok (.bipush 8, 2) := by decide +kernel
theorem dX9_init_166 : decode cX9_init 166 = .ok (.newarray .int, 2) := by decide +kernel
theorem dX9_init_168 : decode cX9_init 168 = .ok (.putfield 73, 3) := by decide +kernel
theorem dX9_init_171 : decode cX9_init 171 = .ok (.aload_n 0, 1) := by decide +kernel
theorem dX9_init_172 : decode cX9_init 172 = .ok (.bipush 8, 2) := by decide +kernel
theorem dX9_init_174 : decode cX9_init 174 = .ok (.newarray .int, 2) := by decide +kernel
theorem dX9_init_176 : decode cX9_init 176 = .ok (.putfield 76, 3) := by decide +kernel
theorem dX9_init_179 : decode cX9_init 179 = .ok (.aload_n 0, 1) := by decide +kernel
theorem dX9_init_180 : decode cX9_init 180 = .ok (.sipush 189, 3) := by decide +kernel
theorem dX9_init_183 : decode cX9_init 183 = .ok (.newarray .long, 2) := by decide +kernel
theorem dX9_init_185 : decode cX9_init 185 = .ok (.putfield 79, 3) := by decide +kernel
theorem dX9_init_188 : decode cX9_init 188 = .ok (.aload_n 0, 1) := by decide +kernel
theorem dX9_init_189 : decode cX9_init 189 = .ok (.sipush 610, 3) := by decide +kernel
theorem dX9_init_192 : decode cX9_init 192 = .ok (.newarray .int, 2) := by decide +kernel
theorem dX9_init_194 : decode cX9_init 194 = .ok (.putfield 82, 3) := by decide +kernel
theorem dX9_init_197 : decode cX9_init 197 = .ok (.aload_n 0, 1) := by decide +kernel
theorem dX9_init_198 : decode cX9_init 198 = .ok (.bipush 12, 2) := by decide +kernel
theorem dX9_init_200 : decode cX9_init 200 = .ok (.newarray .int, 2) := by decide +kernel
theorem dX9_init_202 : decode cX9_init 202 = .ok (.putfield 85, 3) := by decide +kernel
theorem dX9_init_205 : decode cX9_init 205 = .ok (.aload_n 0, 1) := by decide +kernel
theorem dX9_init_206 : decode cX9_init 206 = .ok (.bipush 100, 2) := by decide +kernel
theorem dX9_init_208 : decode cX9_init 208 = .ok (.newarray .long, 2) := by decide +kernel
theorem dX9_init_210 : decode cX9_init 210 = .ok (.putfield 88, 3) := by decide +kernel
theorem dX9_init_213 : decode cX9_init 213 = .ok (.aload_n 0, 1) := by decide +kernel
theorem dX9_init_214 : decode cX9_init 214 = .ok (.bipush 12, 2) := by decide +kernel
theorem dX9_init_216 : decode cX9_init 216 = .ok (.newarray .int, 2) := by decide +kernel
theorem dX9_init_218 : decode cX9_init 218 = .ok (.putfield 91, 3) := by decide +kernel
theorem dX9_init_221 : decode cX9_init 221 = .ok (.aload_n 0, 1) := by decide +kernel
theorem dX9_init_222 : decode cX9_init 222 = .ok (.bipush 12, 2) := by decide +kernel
theorem dX9_init_224 : decode cX9_init 224 = .ok (.newarray .int, 2) := by decide +kernel
theorem dX9_init_226 : decode cX9_init 226 = .ok (.putfield 94, 3) := by decide +kernel
theorem dX9_init_229 : decode cX9_init 229 = .ok (.aload_n 0, 1) := by decide +kernel
theorem dX9_init_230 : decode cX9_init 230 = .ok (.bipush 58, 2) := by decide +kernel
theorem dX9_init_232 : decode cX9_init 232 = .ok (.newarray .int, 2) := by decide +kernel
theorem dX9_init_234 : decode cX9_init 234 = .ok (.putfield 97, 3) := by decide +kernel
theorem dX9_init_237 : decode cX9_init 237 = .ok (.aload_n 0, 1) := by decide +kernel
theorem dX9_init_238 : decode cX9_init 238 = .ok (.iconst 2, 1) := by decide +kernel
theorem dX9_init_239 : decode cX9_init 239 = .ok (.newarray .boolean, 2) := by decide +kernel
theorem dX9_init_241 : decode cX9_init 241 = .ok (.putfield 100, 3) := by decide +kernel
theorem dX9_init_244 : decode cX9_init 244 = .ok (.aload_n 0, 1) := by decide +kernel
theorem dX9_init_245 : decode cX9_init 245 = .ok (.iconst 2, 1) := by decide +kernel
theorem dX9_init_246 : decode cX9_init 246 = .ok (.newarray .int, 2) := by decide +kernel
theorem dX9_init_248 : decode cX9_init 248 = .ok (.putfield 104, 3) := by decide +kernel
theorem dX9_init_251 : decode cX9_init 251 = .ok (.aload_n 0, 1) := by decide +kernel
theorem dX9_init_252 : decode cX9_init 252 = .ok (.getfield 9, 3) := by decide +kernel
theorem dX9_init_255 : decode cX9_init 255 = .ok (.bipush 25, 2) := by decide +kernel
theorem dX9_init_257 : decode cX9_init 257 = .ok (.bipush 20, 2) := by decide +kernel
theorem dX9_init_259 : decode cX9_init 259 = .ok (.iastore, 1) := by decide +kernel
theorem dX9_init_260 : decode cX9_init 260 = .ok (.aload_n 0, 1) := by decide +kernel
theorem dX9_init_261 : decode cX9_init 261 = .ok (.getfield 9, 3) := by decide +kernel
theorem dX9_init_264 : decode cX9_init 264 = .ok (.bipush 27, 2) := by decide +kernel
theorem dX9_init_266 : decode cX9_init 266 = .ok (.iconst 1, 1) := by decide +kernel
theorem dX9_init_267 : decode cX9_init 267 = .ok (.iastore, 1) := by decide +kernel
theorem dX9_init_268 : decode cX9_init 268 = .ok (.return_, 1) := by decide +kernel
theorem dX9_thrown_0 : decode cX9_thrown 0 = .ok (.aload_n 0, 1) := by decide +kernel
theorem dX9_thrown_1 : decode cX9_thrown 1 = .ok (.getfield 107, 3) := by decide +kernel
theorem dX9_thrown_4 : decode cX9_thrown 4 = .ok (.ireturn, 1) := by decide +kernel
theorem dX9_in_0 : decode cX9_in 0 = .ok (.iload_n 0, 1) := by decide +kernel
theorem dX9_in_1 : decode cX9_in 1 = .ok (.iload_n 1, 1) := by decide +kernel
theorem dX9_in_2 : decode cX9_in 2 = .ok (.if_icmp .lt 12, 3) := by decide +kernel
theorem dX9_in_5 : decode cX9_in 5 = .ok (.iload_n 0, 1) := by decide +kernel
theorem dX9_in_6 : decode cX9_in 6 = .ok (.iload_n 2, 1) := by decide +kernel
theorem dX9_in_7 : decode cX9_in 7 = .ok (.if_icmp .gt 7, 3) := by decide +kernel
theorem dX9_in_10 : decode cX9_in 10 = .ok (.iconst 1, 1) := by decide +kernel
theorem dX9_in_11 : decode cX9_in 11 = .ok (.goto 4, 3) := by decide +kernel
theorem dX9_in_14 : decode cX9_in 14 = .ok (.iconst 0, 1) := by decide +kernel
theorem dX9_in_15 : decode cX9_in 15 = .ok (.ireturn, 1) := by decide +kernel
theorem dX9_has_0 : decode cX9_has 0 = .ok (.iload_n 0, 1) := by decide +kernel
theorem dX9_has_1 : decode cX9_has 1 = .ok (.iload_n 1, 1) := by decide +kernel
theorem dX9_has_2 : decode cX9_has 2 = .ok (.ishr, 1) := by decide +kernel
theorem dX9_has_3 : decode cX9_has 3 = .ok (.iconst 1, 1) := by decide +kernel
theorem dX9_has_4 : decode cX9_has 4 = .ok (.iand, 1) := by decide +kernel
theorem dX9_has_5 : decode cX9_has 5 = .ok (.iconst 1, 1) := by decide +kernel
theorem dX9_has_6 : decode cX9_has 6 = .ok (.if_icmp .ne 7, 3) := by decide +kernel
theorem dX9_has_9 : decode cX9_has 9 = .ok (.iconst 1, 1) := by decide +kernel
theorem dX9_has_10 : decode cX9_has 10 = .ok (.goto 4, 3) := by decide +kernel
theorem dX9_has_13 : decode cX9_has 13 = .ok (.iconst 0, 1) := by decide +kernel
theorem dX9_has_14 : decode cX9_has 14 = .ok (.ireturn, 1) := by decide +kernel
theorem dX9_lost_0 : decode cX9_lost 0 = .ok (.aload_n 0, 1) := by decide +kernel
theorem dX9_lost_1 : decode cX9_lost 1 = .ok (.iconst 1, 1) := by decide +kernel
theorem dX9_lost_2 : decode cX9_lost 2 = .ok (.putfield 107, 3) := by decide +kernel
theorem dX9_lost_5 : decode cX9_lost 5 = .ok (.iconst 0, 1) := by decide +kernel
theorem dX9_lost_6 : decode cX9_lost 6 = .ok (.ireturn, 1) := by decide +kernel
theorem dX9_tell_0 : decode cX9_tell 0 = .ok (.aload_n 0, 1) := by decide +kernel
theorem dX9_tell_1 : decode cX9_tell 1 = .ok (.getfield 33, 3) := by decide +kernel
theorem dX9_tell_4 : decode cX9_tell 4 = .ok (.aload_n 0, 1) := by decide +kernel
theorem dX9_tell_5 : decode cX9_tell 5 = .ok (.getfield 110, 3) := by decide +kernel
theorem dX9_tell_8 : decode cX9_tell 8 = .ok (.lload_n 1, 1) := by decide +kernel
theorem dX9_tell_9 : decode cX9_tell 9 = .ok (.lastore, 1) := by decide +kernel
theorem dX9_tell_10 : decode cX9_tell 10 = .ok (.aload_n 0, 1) := by decide +kernel
theorem dX9_tell_11 : decode cX9_tell 11 = .ok (.dup, 1) := by decide +kernel
theorem dX9_tell_12 : decode cX9_tell 12 = .ok (.getfield 110, 3) := by decide +kernel
theorem dX9_tell_15 : decode cX9_tell 15 = .ok (.iconst 1, 1) := by decide +kernel
theorem dX9_tell_16 : decode cX9_tell 16 = .ok (.iadd, 1) := by decide +kernel
theorem dX9_tell_17 : decode cX9_tell 17 = .ok (.putfield 110, 3) := by decide +kernel
theorem dX9_tell_20 : decode cX9_tell 20 = .ok (.return_, 1) := by decide +kernel
theorem dX9_isMan_0 : decode cX9_isMan 0 = .ok (.iload_n 1, 1) := by decide +kernel
theorem dX9_isMan_1 : decode cX9_isMan 1 = .ok (.iconst 0, 1) := by decide +kernel
theorem dX9_isMan_2 : decode cX9_isMan 2 = .ok (.aload_n 0, 1) := by decide +kernel
theorem dX9_isMan_3 : decode cX9_isMan 3 = .ok (.getfield 113, 3) := by decide +kernel
theorem dX9_isMan_6 : decode cX9_isMan 6 = .ok (.iconst 1, 1) := by decide +kernel
theorem dX9_isMan_7 : decode cX9_isMan 7 = .ok (.isub, 1) := by decide +kernel
theorem dX9_isMan_8 : decode cX9_isMan 8 = .ok (.invokestatic 116, 3) := by decide +kernel
theorem dX9_isMan_11 : decode cX9_isMan 11 = .ok (.ireturn, 1) := by decide +kernel
theorem dX9_sign_0 : decode cX9_sign 0 = .ok (.aload_n 0, 1) := by decide +kernel
theorem dX9_sign_1 : decode cX9_sign 1 = .ok (.iconst 0, 1) := by decide +kernel
theorem dX9_sign_2 : decode cX9_sign 2 = .ok (.putfield 107, 3) := by decide +kernel
theorem dX9_sign_5 : decode cX9_sign 5 = .ok (.aload_n 0, 1) := by decide +kernel
theorem dX9_sign_6 : decode cX9_sign 6 = .ok (.getfield 120, 3) := by decide +kernel
theorem dX9_sign_9 : decode cX9_sign 9 = .ok (.iconst 4, 1) := by decide +kernel
theorem dX9_sign_10 : decode cX9_sign 10 = .ok (.iadd, 1) := by decide +kernel
theorem dX9_sign_11 : decode cX9_sign 11 = .ok (.bipush 80, 2) := by decide +kernel
theorem dX9_sign_13 : decode cX9_sign 13 = .ok (.if_icmp .le 5, 3) := by decide +kernel
theorem dX9_sign_16 : decode cX9_sign 16 = .ok (.iconst (-1), 1) := by decide +kernel
theorem dX9_sign_17 : decode cX9_sign 17 = .ok (.ireturn, 1) := by decide +kernel
theorem dX9_sign_18 : decode cX9_sign 18 = .ok (.iconst 3, 1) := by decide +kernel
theorem dX9_sign_19 : decode cX9_sign 19 = .ok (.istore_n 2, 1) := by decide +kernel
theorem dX9_sign_20 : decode cX9_sign 20 = .ok (.iload_n 2, 1) := by decide +kernel
theorem dX9_sign_21 : decode cX9_sign 21 = .ok (.ifCond .lt 32, 3) := by decide +kernel
theorem dX9_sign_24 : decode cX9_sign 24 = .ok (.aload_n 0, 1) := by decide +kernel
theorem dX9_sign_25 : decode cX9_sign 25 = .ok (.getfield 29, 3) := by decide +kernel
theorem dX9_sign_28 : decode cX9_sign 28 = .ok (.aload_n 0, 1) := by decide +kernel
theorem dX9_sign_29 : decode cX9_sign 29 = .ok (.dup, 1) := by decide +kernel
theorem dX9_sign_30 : decode cX9_sign 30 = .ok (.getfield 120, 3) := by decide +kernel
theorem dX9_sign_33 : decode cX9_sign 33 = .ok (.dup_x1, 1) := by decide +kernel
theorem dX9_sign_34 : decode cX9_sign 34 = .ok (.iconst 1, 1) := by decide +kernel
theorem dX9_sign_35 : decode cX9_sign 35 = .ok (.iadd, 1) := by decide +kernel
theorem dX9_sign_36 : decode cX9_sign 36 = .ok (.putfield 120, 3) := by decide +kernel
theorem dX9_sign_39 : decode cX9_sign 39 = .ok (.iload_n 1, 1) := by decide +kernel
theorem dX9_sign_40 : decode cX9_sign 40 = .ok (.bipush 8, 2) := by decide +kernel
theorem dX9_sign_42 : decode cX9_sign 42 = .ok (.iload_n 2, 1) := by decide +kernel
theorem dX9_sign_43 : decode cX9_sign 43 = .ok (.imul, 1) := by decide +kernel
theorem dX9_sign_44 : decode cX9_sign 44 = .ok (.ishr, 1) := by decide +kernel
theorem dX9_sign_45 : decode cX9_sign 45 = .ok (.i2b, 1) := by decide +kernel
theorem dX9_sign_46 : decode cX9_sign 46 = .ok (.bastore, 1) := by decide +kernel
theorem dX9_sign_47 : decode cX9_sign 47 = .ok (.iinc 2 (-1), 3) := by decide +kernel
theorem dX9_sign_50 : decode cX9_sign 50 = .ok (.goto (-30), 3) := by decide +kernel
theorem dX9_sign_53 : decode cX9_sign 53 = .ok (.aload_n 0, 1) := by decide +kernel
theorem dX9_sign_54 : decode cX9_sign 54 = .ok (.getfield 120, 3) := by decide +kernel
theorem dX9_sign_57 : decode cX9_sign 57 = .ok (.ireturn, 1) := by decide +kernel
theorem dX9_end_0 : decode cX9_end 0 = .ok (.aload_n 0, 1) := by decide +kernel
theorem dX9_end_1 : decode cX9_end 1 = .ok (.iconst 0, 1) := by decide +kernel
theorem dX9_end_2 : decode cX9_end 2 = .ok (.putfield 107, 3) := by decide +kernel
theorem dX9_end_5 : decode cX9_end 5 = .ok (.iload_n 1, 1) := by decide +kernel
theorem dX9_end_6 : decode cX9_end 6 = .ok (.iconst 0, 1) := by decide +kernel
theorem dX9_end_7 : decode cX9_end 7 = .ok (.aload_n 0, 1) := by decide +kernel
theorem dX9_end_8 : decode cX9_end 8 = .ok (.getfield 120, 3) := by decide +kernel
theorem dX9_end_11 : decode cX9_end 11 = .ok (.invokestatic 116, 3) := by decide +kernel
theorem dX9_end_14 : decode cX9_end 14 = .ok (.ifCond .ne 5, 3) := by decide +kernel
theorem dX9_end_17 : decode cX9_end 17 = .ok (.iconst 0, 1) := by decide +kernel
theorem dX9_end_18 : decode cX9_end 18 = .ok (.ireturn, 1) := by decide +kernel
theorem dX9_end_19 : decode cX9_end 19 = .ok (.aload_n 0, 1) := by decide +kernel
theorem dX9_end_20 : decode cX9_end 20 = .ok (.iload_n 1, 1) := by decide +kernel
theorem dX9_end_21 : decode cX9_end 21 = .ok (.putfield 120, 3) := by decide +kernel
theorem dX9_end_24 : decode cX9_end 24 = .ok (.iconst 1, 1) := by decide +kernel
theorem dX9_end_25 : decode cX9_end 25 = .ok (.ireturn, 1) := by decide +kernel
theorem dX9_begin_0 : decode cX9_begin 0 = .ok (.aload_n 0, 1) := by decide +kernel
theorem dX9_begin_1 : decode cX9_begin 1 = .ok (.aload_n 1, 1) := by decide +kernel
theorem dX9_begin_2 : decode cX9_begin 2 = .ok (.putfield 123, 3) := by decide +kernel
theorem dX9_begin_5 : decode cX9_begin 5 = .ok (.aload_n 0, 1) := by decide +kernel
theorem dX9_begin_6 : decode cX9_begin 6 = .ok (.iload_n 2, 1) := by decide +kernel
theorem dX9_begin_7 : decode cX9_begin 7 = .ok (.putfield 126, 3) := by decide +kernel
theorem dX9_begin_10 : decode cX9_begin 10 = .ok (.aload_n 0, 1) := by decide +kernel
theorem dX9_begin_11 : decode cX9_begin 11 = .ok (.iload_n 3, 1) := by decide +kernel
theorem dX9_begin_12 : decode cX9_begin 12 = .ok (.putfield 129, 3) := by decide +kernel
theorem dX9_begin_15 : decode cX9_begin 15 = .ok (.aload_n 0, 1) := by decide +kernel
theorem dX9_begin_16 : decode cX9_begin 16 = .ok (.iconst 0, 1) := by decide +kernel
theorem dX9_begin_17 : decode cX9_begin 17 = .ok (.putfield 132, 3) := by decide +kernel
theorem dX9_begin_20 : decode cX9_begin 20 = .ok (.aload_n 0, 1) := by decide +kernel
theorem dX9_begin_21 : decode cX9_begin 21 = .ok (.iconst (-1), 1) := by decide +kernel
theorem dX9_begin_22 : decode cX9_begin 22 = .ok (.putfield 135, 3) := by decide +kernel
theorem dX9_begin_25 : decode cX9_begin 25 = .ok (.return_, 1) := by decide +kernel
theorem dX9_beginText_0 : decode cX9_beginText 0 = .ok (.aload_n 0, 1) := by decide +kernel
theorem dX9_beginText_1 : decode cX9_beginText 1 = .ok (.aload_n 0, 1) := by decide +kernel
theorem dX9_beginText_2 : decode cX9_beginText 2 = .ok (.getfield 29, 3) := by decide +kernel
theorem dX9_beginText_5 : decode cX9_beginText 5 = .ok (.aload_n 0, 1) := by decide +kernel
theorem dX9_beginText_6 : decode cX9_beginText 6 = .ok (.getfield 120, 3) := by decide +kernel
theorem dX9_beginText_9 : decode cX9_beginText 9 = .ok (.iload_n 1, 1) := by decide +kernel
theorem dX9_beginText_10 : decode cX9_beginText 10 = .ok (.invokevirtual 138, 3) := by decide +kernel
theorem dX9_beginText_13 : decode cX9_beginText 13 = .ok (.aload_n 0, 1) := by decide +kernel
theorem dX9_beginText_14 : decode cX9_beginText 14 = .ok (.iconst 0, 1) := by decide +kernel
theorem dX9_beginText_15 : decode cX9_beginText 15 = .ok (.putfield 120, 3) := by decide +kernel
theorem dX9_beginText_18 : decode cX9_beginText 18 = .ok (.return_, 1) := by decide +kernel
theorem dX9_here_0 : decode cX9_here 0 = .ok (.aload_n 0, 1) := by decide +kernel
theorem dX9_here_1 : decode cX9_here 1 = .ok (.getfield 132, 3) := by decide +kernel
theorem dX9_here_4 : decode cX9_here 4 = .ok (.aload_n 0, 1) := by decide +kernel
theorem dX9_here_5 : decode cX9_here 5 = .ok (.getfield 126, 3) := by decide +kernel
theorem dX9_here_8 : decode cX9_here 8 = .ok (.if_icmp .ge 30, 3) := by decide +kernel
theorem dX9_here_11 : decode cX9_here 11 = .ok (.aload_n 0, 1) := by decide +kernel
theorem dX9_here_12 : decode cX9_here 12 = .ok (.getfield 132, 3) := by decide +kernel
theorem dX9_here_15 : decode cX9_here 15 = .ok (.aload_n 0, 1) := by decide +kernel
theorem dX9_here_16 : decode cX9_here 16 = .ok (.getfield 129, 3) := by decide +kernel
theorem dX9_here_19 : decode cX9_here 19 = .ok (.if_icmp .ge 19, 3) := by decide +kernel
theorem dX9_here_22 : decode cX9_here 22 = .ok (.aload_n 0, 1) := by decide +kernel
theorem dX9_here_23 : decode cX9_here 23 = .ok (.getfield 123, 3) := by decide +kernel
theorem dX9_here_26 : decode cX9_here 26 = .ok (.aload_n 0, 1) := by decide +kernel
theorem dX9_here_27 : decode cX9_here 27 = .ok (.getfield 132, 3) := by decide +kernel
theorem dX9_here_30 : decode cX9_here 30 = .ok (.baload, 1) := by decide +kernel
theorem dX9_here_31 : decode cX9_here 31 = .ok (.sipush 255, 3) := by decide +kernel
theorem dX9_here_34 : decode cX9_here 34 = .ok (.iand, 1) := by decide +kernel
theorem dX9_here_35 : decode cX9_here 35 = .ok (.goto 4, 3) := by decide +kernel
theorem dX9_here_38 : decode cX9_here 38 = .ok (.iconst (-1), 1) := by decide +kernel
theorem dX9_here_39 : decode cX9_here 39 = .ok (.ireturn, 1) := by decide +kernel
theorem dX9_fine_0 : decode cX9_fine 0 = .ok (.aload_n 0, 1) := by decide +kernel
theorem dX9_fine_1 : decode cX9_fine 1 = .ok (.getfield 135, 3) := by decide +kernel
theorem dX9_fine_4 : decode cX9_fine 4 = .ok (.iconst (-1), 1) := by decide +kernel
theorem dX9_fine_5 : decode cX9_fine 5 = .ok (.if_icmp .ne 7, 3) := by decide +kernel
theorem dX9_fine_8 : decode cX9_fine 8 = .ok (.iconst 1, 1) := by decide +kernel
theorem dX9_fine_9 : decode cX9_fine 9 = .ok (.goto 4, 3) := by decide +kernel
theorem dX9_fine_12 : decode cX9_fine 12 = .ok (.iconst 0, 1) := by decide +kernel
theorem dX9_fine_13 : decode cX9_fine 13 = .ok (.ireturn, 1) := by decide +kernel
theorem dX9_fault_0 : decode cX9_fault 0 = .ok (.aload_n 0, 1) := by decide +kernel
theorem dX9_fault_1 : decode cX9_fault 1 = .ok (.invokevirtual 142, 3) := by decide +kernel
theorem dX9_fault_4 : decode cX9_fault 4 = .ok (.ifCond .eq 8, 3) := by decide +kernel
theorem dX9_fault_7 : decode cX9_fault 7 = .ok (.aload_n 0, 1) := by decide +kernel
theorem dX9_fault_8 : decode cX9_fault 8 = .ok (.iload_n 1, 1) := by decide +kernel
theorem dX9_fault_9 : decode cX9_fault 9 = .ok (.putfield 135, 3) := by decide +kernel
theorem dX9_fault_12 : decode cX9_fault 12 = .ok (.return_, 1) := by decide +kernel
theorem dX9_passes_0 : decode cX9_passes 0 = .ok (.aload_n 0, 1) := by decide +kernel
theorem dX9_passes_1 : decode cX9_passes 1 = .ok (.invokevirtual 142, 3) := by decide +kernel
theorem dX9_passes_4 : decode cX9_passes 4 = .ok (.ifCond .eq 11, 3) := by decide +kernel
theorem dX9_passes_7 : decode cX9_passes 7 = .ok (.aload_n 0, 1) := by decide +kernel
theorem dX9_passes_8 : decode cX9_passes 8 = .ok (.invokevirtual 146, 3) := by decide +kernel
theorem dX9_passes_11 : decode cX9_passes 11 = .ok (.iload_n 1, 1) := by decide +kernel
theorem dX9_passes_12 : decode cX9_passes 12 = .ok (.if_icmp .eq 5, 3) := by decide +kernel
theorem dX9_passes_15 : decode cX9_passes 15 = .ok (.iconst 0, 1) := by decide +kernel
theorem dX9_passes_16 : decode cX9_passes 16 = .ok (.ireturn, 1) := by decide +kernel
theorem dX9_passes_17 : decode cX9_passes 17 = .ok (.aload_n 0, 1) := by decide +kernel
theorem dX9_passes_18 : decode cX9_passes 18 = .ok (.dup, 1) := by decide +kernel
theorem dX9_passes_19 : decode cX9_passes 19 = .ok (.getfield 132, 3) := by decide +kernel
theorem dX9_passes_22 : decode cX9_passes 22 = .ok (.iconst 1, 1) := by decide +kernel
theorem dX9_passes_23 : decode cX9_passes 23 = .ok (.iadd, 1) := by decide +kernel
theorem dX9_passes_24 : decode cX9_passes 24 = .ok (.putfield 132, 3) := by decide +kernel
theorem dX9_passes_27 : decode cX9_passes 27 = .ok (.iconst 1, 1) := by decide +kernel
theorem dX9_passes_28 : decode cX9_passes 28 = .ok (.ireturn, 1) := by decide +kernel
theorem dX9_need_0 : decode cX9_need 0 = .ok (.aload_n 0, 1) := by decide +kernel
theorem dX9_need_1 : decode cX9_need 1 = .ok (.iload_n 1, 1) := by decide +kernel
theorem dX9_need_2 : decode cX9_need 2 = .ok (.invokevirtual 150, 3) := by decide +kernel
theorem dX9_need_5 : decode cX9_need 5 = .ok (.ifCond .ne 11, 3) := by decide +kernel
theorem dX9_need_8 : decode cX9_need 8 = .ok (.aload_n 0, 1) := by decide +kernel
theorem dX9_need_9 : decode cX9_need 9 = .ok (.aload_n 0, 1) := by decide +kernel
theorem dX9_need_10 : decode cX9_need 10 = .ok (.getfield 132, 3) := by decide +kernel
theorem dX9_need_13 : decode cX9_need 13 = .ok (.invokevirtual 154, 3) := by decide +kernel
theorem dX9_need_16 : decode cX9_need 16 = .ok (.return_, 1) := by decide +kernel
theorem dX9_oneOf_0 : decode cX9_oneOf 0 = .ok (.aload_n 0, 1) := by decide +kernel
theorem dX9_oneOf_1 : decode cX9_oneOf 1 = .ok (.invokevirtual 142, 3) := by decide +kernel
theorem dX9_oneOf_4 : decode cX9_oneOf 4 = .ok (.ifCond .ne 5, 3) := by decide +kernel
theorem dX9_oneOf_7 : decode cX9_oneOf 7 = .ok (.iconst 0, 1) := by decide +kernel
theorem dX9_oneOf_8 : decode cX9_oneOf 8 = .ok (.ireturn, 1) := by decide +kernel
theorem dX9_oneOf_9 : decode cX9_oneOf 9 = .ok (.aload_n 0, 1) := by decide +kernel
theorem dX9_oneOf_10 : decode cX9_oneOf 10 = .ok (.invokevirtual 146, 3) := by decide +kernel
theorem dX9_oneOf_13 : decode cX9_oneOf 13 = .ok (.iload_n 1, 1) := by decide +kernel
theorem dX9_oneOf_14 : decode cX9_oneOf 14 = .ok (.iload_n 1, 1) := by decide +kernel
theorem dX9_oneOf_15 : decode cX9_oneOf 15 = .ok (.iload_n 2, 1) := by decide +kernel
theorem dX9_oneOf_16 : decode cX9_oneOf 16 = .ok (.iadd, 1) := by decide +kernel
theorem dX9_oneOf_17 : decode cX9_oneOf 17 = .ok (.iconst 1, 1) := by decide +kernel
theorem dX9_oneOf_18 : decode cX9_oneOf 18 = .ok (.isub, 1) := by decide +kernel
theorem dX9_oneOf_19 : decode cX9_oneOf 19 = .ok (.invokestatic 116, 3) := by decide +kernel
theorem dX9_oneOf_22 : decode cX9_oneOf 22 = .ok (.ifCond .ne 13, 3) := by decide +kernel
theorem dX9_oneOf_25 : decode cX9_oneOf 25 = .ok (.aload_n 0, 1) := by decide +kernel
theorem dX9_oneOf_26 : decode cX9_oneOf 26 = .ok (.aload_n 0, 1) := by decide +kernel
theorem dX9_oneOf_27 : decode cX9_oneOf 27 = .ok (.getfield 132, 3) := by decide +kernel
theorem dX9_oneOf_30 : decode cX9_oneOf 30 = .ok (.invokevirtual 154, 3) := by decide +kernel
theorem dX9_oneOf_33 : decode cX9_oneOf 33 = .ok (.iconst 0, 1) := by decide +kernel
theorem dX9_oneOf_34 : decode cX9_oneOf 34 = .ok (.ireturn, 1) := by decide +kernel
theorem dX9_oneOf_35 : decode cX9_oneOf 35 = .ok (.aload_n 0, 1) := by decide +kernel
theorem dX9_oneOf_36 : decode cX9_oneOf 36 = .ok (.dup, 1) := by decide +kernel
theorem dX9_oneOf_37 : decode cX9_oneOf 37 = .ok (.getfield 132, 3) := by decide +kernel
theorem dX9_oneOf_40 : decode cX9_oneOf 40 = .ok (.iconst 1, 1) := by decide +kernel
theorem dX9_oneOf_41 : decode cX9_oneOf 41 = .ok (.iadd, 1) := by decide +kernel
theorem dX9_oneOf_42 : decode cX9_oneOf 42 = .ok (.putfield 132, 3) := by decide +kernel
theorem dX9_oneOf_45 : decode cX9_oneOf 45 = .ok (.aload_n 0, 1) := by decide +kernel
theorem dX9_oneOf_46 : decode cX9_oneOf 46 = .ok (.getfield 123, 3) := by decide +kernel
theorem dX9_oneOf_49 : decode cX9_oneOf 49 = .ok (.aload_n 0, 1) := by decide +kernel
theorem dX9_oneOf_50 : decode cX9_oneOf 50 = .ok (.getfield 132, 3) := by decide +kernel
theorem dX9_oneOf_53 : decode cX9_oneOf 53 = .ok (.iconst 1, 1) := by decide +kernel
theorem dX9_oneOf_54 : decode cX9_oneOf 54 = .ok (.isub, 1) := by decide +kernel
theorem dX9_oneOf_55 : decode cX9_oneOf 55 = .ok (.baload, 1) := by decide +kernel
theorem dX9_oneOf_56 : decode cX9_oneOf 56 = .ok (.iload_n 1, 1) := by decide +kernel
theorem dX9_oneOf_57 : decode cX9_oneOf 57 = .ok (.isub, 1) := by decide +kernel
theorem dX9_oneOf_58 : decode cX9_oneOf 58 = .ok (.ireturn, 1) := by decide +kernel
theorem dX9_number_0 : decode cX9_number 0 = .ok (.aload_n 0, 1) := by decide +kernel
theorem dX9_number_1 : decode cX9_number 1 = .ok (.bipush 48, 2) := by decide +kernel
theorem dX9_number_3 : decode cX9_number 3 = .ok (.bipush 10, 2) := by decide +kernel
theorem dX9_number_5 : decode cX9_number 5 = .ok (.invokevirtual 158, 3) := by decide +kernel
theorem dX9_number_8 : decode cX9_number 8 = .ok (.istore_n 2, 1) := by decide +kernel
theorem dX9_number_9 : decode cX9_number 9 = .ok (.iconst 1, 1) := by decide +kernel
theorem dX9_number_10 : decode cX9_number 10 = .ok (.istore_n 3, 1) := by decide +kernel
theorem dX9_number_11 : decode cX9_number 11 = .ok (.iload_n 3, 1) := by decide +kernel
theorem dX9_number_12 : decode cX9_number 12 = .ok (.iload_n 1, 1) := by decide +kernel
theorem dX9_number_13 : decode cX9_number 13 = .ok (.if_icmp .ge 44, 3) := by decide +kernel
theorem dX9_number_16 : decode cX9_number 16 = .ok (.aload_n 0, 1) := by decide +kernel
theorem dX9_number_17 : decode cX9_number 17 = .ok (.invokevirtual 142, 3) := by decide +kernel
theorem dX9_number_20 : decode cX9_number 20 = .ok (.ifCond .eq 37, 3) := by decide +kernel
theorem dX9_number_23 : decode cX9_number 23 = .ok (.aload_n 0, 1) := by decide +kernel
theorem dX9_number_24 : decode cX9_number 24 = .ok (.invokevirtual 146, 3) := by decide +kernel
theorem dX9_number_27 : decode cX9_number 27 = .ok (.bipush 48, 2) := by decide +kernel
theorem dX9_number_29 : decode cX9_number 29 = .ok (.bipush 57, 2) := by decide +kernel
theorem dX9_number_31 : decode cX9_number 31 = .ok (.invokestatic 116, 3) := by decide +kernel
theorem dX9_number_34 : decode cX9_number 34 = .ok (.ifCond .eq 23, 3) := by decide +kernel
theorem dX9_number_37 : decode cX9_number 37 = .ok (.bipush 10, 2) := by decide +kernel
theorem dX9_number_39 : decode cX9_number 39 = .ok (.iload_n 2, 1) := by decide +kernel
theorem dX9_number_40 : decode cX9_number 40 = .ok (.imul, 1) := by decide +kernel
theorem dX9_number_41 : decode cX9_number 41 = .ok (.aload_n 0, 1) := by decide +kernel
theorem dX9_number_42 : decode cX9_number 42 = .ok (.bipush 48, 2) := by decide +kernel
theorem dX9_number_44 : decode cX9_number 44 = .ok (.bipush 10, 2) := by decide +kernel
theorem dX9_number_46 : decode cX9_number 46 = .ok (.invokevirtual 158, 3) := by decide +kernel
theorem dX9_number_49 : decode cX9_number 49 = .ok (.iadd, 1) := by decide +kernel
theorem dX9_number_50 : decode cX9_number 50 = .ok (.istore_n 2, 1) := by decide +kernel
theorem dX9_number_51 : decode cX9_number 51 = .ok (.iinc 3 1, 3) := by decide +kernel
theorem dX9_number_54 : decode cX9_number 54 = .ok (.goto (-43), 3) := by decide +kernel
theorem dX9_number_57 : decode cX9_number 57 = .ok (.iload_n 2, 1) := by decide +kernel
theorem dX9_number_58 : decode cX9_number 58 = .ok (.ireturn, 1) := by decide +kernel
theorem dX9_wasRight_0 : decode cX9_wasRight 0 = .ok (.aload_n 0, 1) := by decide +kernel
theorem dX9_wasRight_1 : decode cX9_wasRight 1 = .ok (.getfield 132, 3) := by decide +kernel
theorem dX9_wasRight_4 : decode cX9_wasRight 4 = .ok (.aload_n 0, 1) := by decide +kernel
theorem dX9_wasRight_5 : decode cX9_wasRight 5 = .ok (.getfield 126, 3) := by decide +kernel
theorem dX9_wasRight_8 : decode cX9_wasRight 8 = .ok (.if_icmp .ge 11, 3) := by decide +kernel
theorem dX9_wasRight_11 : decode cX9_wasRight 11 = .ok (.aload_n 0, 1) := by decide +kernel
theorem dX9_wasRight_12 : decode cX9_wasRight 12 = .ok (.aload_n 0, 1) := by decide +kernel
theorem dX9_wasRight_13 : decode cX9_wasRight 13 = .ok (.getfield 132, 3) := by decide +kernel
theorem dX9_wasRight_16 : decode cX9_wasRight 16 = .ok (.invokevirtual 154, 3) := by decide +kernel
theorem dX9_wasRight_19 : decode cX9_wasRight 19 = .ok (.aload_n 0, 1) := by decide +kernel
theorem dX9_wasRight_20 : decode cX9_wasRight 20 = .ok (.invokevirtual 142, 3) := by decide +kernel
theorem dX9_wasRight_23 : decode cX9_wasRight 23 = .ok (.ireturn, 1) := by decide +kernel
theorem dX9_songs_0 : decode cX9_songs 0 = .ok (.aload_n 0, 1) := by decide +kernel
theorem dX9_songs_1 : decode cX9_songs 1 = .ok (.iconst 0, 1) := by decide +kernel
theorem dX9_songs_2 : decode cX9_songs 2 = .ok (.putfield 107, 3) := by decide +kernel
theorem dX9_songs_5 : decode cX9_songs 5 = .ok (.aload_n 0, 1) := by decide +kernel
theorem dX9_songs_6 : decode cX9_songs 6 = .ok (.bipush 16, 2) := by decide +kernel
theorem dX9_songs_8 : decode cX9_songs 8 = .ok (.invokevirtual 162, 3) := by decide +kernel
theorem dX9_songs_11 : decode cX9_songs 11 = .ok (.iconst 0, 1) := by decide +kernel
theorem dX9_songs_12 : decode cX9_songs 12 = .ok (.istore_n 1, 1) := by decide +kernel
theorem dX9_songs_13 : decode cX9_songs 13 = .ok (.aload_n 0, 1) := by decide +kernel
theorem dX9_songs_14 : decode cX9_songs 14 = .ok (.invokevirtual 142, 3) := by decide +kernel
theorem dX9_songs_17 : decode cX9_songs 17 = .ok (.ifCond .eq 35, 3) := by decide +kernel
theorem dX9_songs_20 : decode cX9_songs 20 = .ok (.iload_n 1, 1) := by decide +kernel
theorem dX9_songs_21 : decode cX9_songs 21 = .ok (.ifCond .eq 11, 3) := by decide +kernel
theorem dX9_songs_24 : decode cX9_songs 24 = .ok (.aload_n 0, 1) := by decide +kernel
theorem dX9_songs_25 : decode cX9_songs 25 = .ok (.invokevirtual 146, 3) := by decide +kernel
theorem dX9_songs_28 : decode cX9_songs 28 = .ok (.iconst (-1), 1) := by decide +kernel
theorem dX9_songs_29 : decode cX9_songs 29 = .ok (.if_icmp .eq 23, 3) := by decide +kernel
theorem dX9_songs_32 : decode cX9_songs 32 = .ok (.aload_n 0, 1) := by decide +kernel
theorem dX9_songs_33 : decode cX9_songs 33 = .ok (.getfield 37, 3) := by decide +kernel
theorem dX9_songs_36 : decode cX9_songs 36 = .ok (.iload_n 1, 1) := by decide +kernel
theorem dX9_songs_37 : decode cX9_songs 37 = .ok (.aload_n 0, 1) := by decide +kernel
theorem dX9_songs_38 : decode cX9_songs 38 = .ok (.bipush 48, 2) := by decide +kernel
theorem dX9_songs_40 : decode cX9_songs 40 = .ok (.bipush 10, 2) := by decide +kernel
theorem dX9_songs_42 : decode cX9_songs 42 = .ok (.invokevirtual 158, 3) := by decide +kernel
theorem dX9_songs_45 : decode cX9_songs 45 = .ok (.iastore, 1) := by decide +kernel
theorem dX9_songs_46 : decode cX9_songs 46 = .ok (.iinc 1 1, 3) := by decide +kernel
theorem dX9_songs_49 : decode cX9_songs 49 = .ok (.goto (-36), 3) := by decide +kernel
theorem dX9_songs_52 : decode cX9_songs 52 = .ok (.aload_n 0, 1) := by decide +kernel
theorem dX9_songs_53 : decode cX9_songs 53 = .ok (.invokevirtual 165, 3) := by decide +kernel
theorem dX9_songs_56 : decode cX9_songs 56 = .ok (.ifCond .ne 10, 3) := by decide +kernel
theorem dX9_songs_59 : decode cX9_songs 59 = .ok (.iconst (-1), 1) := by decide +kernel
theorem dX9_songs_60 : decode cX9_songs 60 = .ok (.aload_n 0, 1) := by decide +kernel
theorem dX9_songs_61 : decode cX9_songs 61 = .ok (.getfield 135, 3) := by decide +kernel
theorem dX9_songs_64 : decode cX9_songs 64 = .ok (.isub, 1) := by decide +kernel
theorem dX9_songs_65 : decode cX9_songs 65 = .ok (.ireturn, 1) := by decide +kernel
theorem dX9_songs_66 : decode cX9_songs 66 = .ok (.aload_n 0, 1) := by decide +kernel
theorem dX9_songs_67 : decode cX9_songs 67 = .ok (.iload_n 1, 1) := by decide +kernel
theorem dX9_songs_68 : decode cX9_songs 68 = .ok (.putfield 25, 3) := by decide +kernel
theorem dX9_songs_71 : decode cX9_songs 71 = .ok (.iconst 0, 1) := by decide +kernel
theorem dX9_songs_72 : decode cX9_songs 72 = .ok (.istore_n 2, 1) := by decide +kernel
theorem dX9_songs_73 : decode cX9_songs 73 = .ok (.iload_n 2, 1) := by decide +kernel
theorem dX9_songs_74 : decode cX9_songs 74 = .ok (.iload_n 1, 1) := by decide +kernel
theorem dX9_songs_75 : decode cX9_songs 75 = .ok (.if_icmp .ge 21, 3) := by decide +kernel
theorem dX9_songs_78 : decode cX9_songs 78 = .ok (.aload_n 0, 1) := by decide +kernel
theorem dX9_songs_79 : decode cX9_songs 79 = .ok (.getfield 22, 3) := by decide +kernel
theorem dX9_songs_82 : decode cX9_songs 82 = .ok (.iload_n 2, 1) := by decide +kernel
theorem dX9_songs_83 : decode cX9_songs 83 = .ok (.aload_n 0, 1) := by decide +kernel
theorem dX9_songs_84 : decode cX9_songs 84 = .ok (.getfield 37, 3) := by decide +kernel
theorem dX9_songs_87 : decode cX9_songs 87 = .ok (.iload_n 2, 1) := by decide +kernel
theorem dX9_songs_88 : decode cX9_songs 88 = .ok (.iaload, 1) := by decide +kernel
theorem dX9_songs_89 : decode cX9_songs 89 = .ok (.iastore, 1) := by decide +kernel
theorem dX9_songs_90 : decode cX9_songs 90 = .ok (.iinc 2 1, 3) := by decide +kernel
theorem dX9_songs_93 : decode cX9_songs 93 = .ok (.goto (-20), 3) := by decide +kernel
theorem dX9_songs_96 : decode cX9_songs 96 = .ok (.iload_n 1, 1) := by decide +kernel
theorem dX9_songs_97 : decode cX9_songs 97 = .ok (.ireturn, 1) := by decide +kernel
theorem dX9_sortBy_0 : decode cX9_sortBy 0 = .ok (.iload_n 0, 1) := by decide +kernel
theorem dX9_sortBy_1 : decode cX9_sortBy 1 = .ok (.bipush 111, 2) := by decide +kernel
theorem dX9_sortBy_3 : decode cX9_sortBy 3 = .ok (.if_icmp .ne 7, 3) := by decide +kernel
theorem dX9_sortBy_6 : decode cX9_sortBy 6 = .ok (.iconst 0, 1) := by decide +kernel
theorem dX9_sortBy_7 : decode cX9_sortBy 7 = .ok (.goto 34, 3) := by decide +kernel
theorem dX9_sortBy_10 : decode cX9_sortBy 10 = .ok (.iload_n 0, 1) := by decide +kernel
theorem dX9_sortBy_11 : decode cX9_sortBy 11 = .ok (.bipush 108, 2) := by decide +kernel
theorem dX9_sortBy_13 : decode cX9_sortBy 13 = .ok (.if_icmp .ne 7, 3) := by decide +kernel
theorem dX9_sortBy_16 : decode cX9_sortBy 16 = .ok (.iconst 1, 1) := by decide +kernel
theorem dX9_sortBy_17 : decode cX9_sortBy 17 = .ok (.goto 24, 3) := by decide +kernel
theorem dX9_sortBy_20 : decode cX9_sortBy 20 = .ok (.iload_n 0, 1) := by decide +kernel
theorem dX9_sortBy_21 : decode cX9_sortBy 21 = .ok (.bipush 99, 2) := by decide +kernel
theorem dX9_sortBy_23 : decode cX9_sortBy 23 = .ok (.if_icmp .ne 7, 3) := by decide +kernel
theorem dX9_sortBy_26 : decode cX9_sortBy 26 = .ok (.iconst 2, 1) := by decide +kernel
theorem dX9_sortBy_27 : decode cX9_sortBy 27 = .ok (.goto 14, 3) := by decide +kernel
theorem dX9_sortBy_30 : decode cX9_sortBy 30 = .ok (.iload_n 0, 1) := by decide +kernel
theorem dX9_sortBy_31 : decode cX9_sortBy 31 = .ok (.bipush 119, 2) := by decide +kernel
theorem dX9_sortBy_33 : decode cX9_sortBy 33 = .ok (.if_icmp .ne 7, 3) := by decide +kernel
theorem dX9_sortBy_36 : decode cX9_sortBy 36 = .ok (.iconst 3, 1) := by decide +kernel
theorem dX9_sortBy_37 : decode cX9_sortBy 37 = .ok (.goto 4, 3) := by decide +kernel
theorem dX9_sortBy_40 : decode cX9_sortBy 40 = .ok (.iconst (-1), 1) := by decide +kernel
theorem dX9_sortBy_41 : decode cX9_sortBy 41 = .ok (.ireturn, 1) := by decide +kernel
theorem dX9_readMan_0 : decode cX9_readMan 0 = .ok (.aload_n 0, 1) := by decide +kernel
theorem dX9_readMan_1 : decode cX9_readMan 1 = .ok (.getfield 37, 3) := by decide +kernel
theorem dX9_readMan_4 : decode cX9_readMan 4 = .ok (.iload_n 1, 1) := by decide +kernel
theorem dX9_readMan_5 : decode cX9_readMan 5 = .ok (.aload_n 0, 1) := by decide +kernel
theorem dX9_readMan_6 : decode cX9_readMan 6 = .ok (.invokevirtual 146, 3) := by decide +kernel
theorem dX9_readMan_9 : decode cX9_readMan 9 = .ok (.invokestatic 168, 3) := by decide +kernel
theorem dX9_readMan_12 : decode cX9_readMan 12 = .ok (.iastore, 1) := by decide +kernel
theorem dX9_readMan_13 : decode cX9_readMan 13 = .ok (.aload_n 0, 1) := by decide +kernel
theorem dX9_readMan_14 : decode cX9_readMan 14 = .ok (.getfield 37, 3) := by decide +kernel
theorem dX9_readMan_17 : decode cX9_readMan 17 = .ok (.iload_n 1, 1) := by decide +kernel
theorem dX9_readMan_18 : decode cX9_readMan 18 = .ok (.iaload, 1) := by decide +kernel
theorem dX9_readMan_19 : decode cX9_readMan 19 = .ok (.iconst (-1), 1) := by decide +kernel
theorem dX9_readMan_20 : decode cX9_readMan 20 = .ok (.if_icmp .ne 11, 3) := by decide +kernel
theorem dX9_readMan_23 : decode cX9_readMan 23 = .ok (.aload_n 0, 1) := by decide +kernel
theorem dX9_readMan_24 : decode cX9_readMan 24 = .ok (.aload_n 0, 1) := by decide +kernel
theorem dX9_readMan_25 : decode cX9_readMan 25 = .ok (.getfield 132, 3) := by decide +kernel
theorem dX9_readMan_28 : decode cX9_readMan 28 = .ok (.invokevirtual 154, 3) := by decide +kernel
theorem dX9_readMan_31 : decode cX9_readMan 31 = .ok (.aload_n 0, 1) := by decide +kernel
theorem dX9_readMan_32 : decode cX9_readMan 32 = .ok (.dup, 1) := by decide +kernel
theorem dX9_readMan_33 : decode cX9_readMan 33 = .ok (.getfield 132, 3) := by decide +kernel
theorem dX9_readMan_36 : decode cX9_readMan 36 = .ok (.iconst 1, 1) := by decide +kernel
theorem dX9_readMan_37 : decode cX9_readMan 37 = .ok (.iadd, 1) := by decide +kernel
theorem dX9_readMan_38 : decode cX9_readMan 38 = .ok (.putfield 132, 3) := by decide +kernel
theorem dX9_readMan_41 : decode cX9_readMan 41 = .ok (.aload_n 0, 1) := by decide +kernel
theorem dX9_readMan_42 : decode cX9_readMan 42 = .ok (.getfield 37, 3) := by decide +kernel
theorem dX9_readMan_45 : decode cX9_readMan 45 = .ok (.iload_n 1, 1) := by decide +kernel
theorem dX9_readMan_46 : decode cX9_readMan 46 = .ok (.iconst 1, 1) := by decide +kernel
theorem dX9_readMan_47 : decode cX9_readMan 47 = .ok (.iadd, 1) := by decide +kernel
theorem dX9_readMan_48 : decode cX9_readMan 48 = .ok (.aload_n 0, 1) := by decide +kernel
theorem dX9_readMan_49 : decode cX9_readMan 49 = .ok (.bipush 49, 2) := by decide +kernel
theorem dX9_readMan_51 : decode cX9_readMan 51 = .ok (.bipush 9, 2) := by decide +kernel
theorem dX9_readMan_53 : decode cX9_readMan 53 = .ok (.invokevirtual 158, 3) := by decide +kernel
theorem dX9_readMan_56 : decode cX9_readMan 56 = .ok (.iconst 1, 1) := by decide +kernel
theorem dX9_readMan_57 : decode cX9_readMan 57 = .ok (.iadd, 1) := by decide +kernel
theorem dX9_readMan_58 : decode cX9_readMan 58 = .ok (.iastore, 1) := by decide +kernel
theorem dX9_readMan_59 : decode cX9_readMan 59 = .ok (.aload_n 0, 1) := by decide +kernel
theorem dX9_readMan_60 : decode cX9_readMan 60 = .ok (.getfield 37, 3) := by decide +kernel
theorem dX9_readMan_63 : decode cX9_readMan 63 = .ok (.iload_n 1, 1) := by decide +kernel
theorem dX9_readMan_64 : decode cX9_readMan 64 = .ok (.iconst 2, 1) := by decide +kernel
theorem dX9_readMan_65 : decode cX9_readMan 65 = .ok (.iadd, 1) := by decide +kernel
theorem dX9_readMan_66 : decode cX9_readMan 66 = .ok (.aload_n 0, 1) := by decide +kernel
theorem dX9_readMan_67 : decode cX9_readMan 67 = .ok (.bipush 48, 2) := by decide +kernel
theorem dX9_readMan_69 : decode cX9_readMan 69 = .ok (.bipush 10, 2) := by decide +kernel
theorem dX9_readMan_71 : decode cX9_readMan 71 = .ok (.invokevirtual 158, 3) := by decide +kernel
theorem dX9_readMan_74 : decode cX9_readMan 74 = .ok (.iastore, 1) := by decide +kernel
theorem dX9_readMan_75 : decode cX9_readMan 75 = .ok (.return_, 1) := by decide +kernel
theorem dX9_hearers_0 : decode cX9_hearers 0 = .ok (.aload_n 0, 1) := by decide +kernel
theorem dX9_hearers_1 : decode cX9_hearers 1 = .ok (.iconst 0, 1) := by decide +kernel
theorem dX9_hearers_2 : decode cX9_hearers 2 = .ok (.putfield 107, 3) := by decide +kernel
theorem dX9_hearers_5 : decode cX9_hearers 5 = .ok (.aload_n 0, 1) := by decide +kernel
theorem dX9_hearers_6 : decode cX9_hearers 6 = .ok (.bipush 31, 2) := by decide +kernel
theorem dX9_hearers_8 : decode cX9_hearers 8 = .ok (.invokevirtual 162, 3) := by decide +kernel
theorem dX9_hearers_11 : decode cX9_hearers 11 = .ok (.aload_n 0, 1) := by decide +kernel
theorem dX9_hearers_12 : decode cX9_hearers 12 = .ok (.getfield 126, 3) := by decide +kernel
theorem dX9_hearers_15 : decode cX9_hearers 15 = .ok (.ifCond .ne 5, 3) := by decide +kernel
theorem dX9_hearers_18 : decode cX9_hearers 18 = .ok (.iconst 0, 1) := by decide +kernel
theorem dX9_hearers_19 : decode cX9_hearers 19 = .ok (.ireturn, 1) := by decide +kernel
theorem dX9_hearers_20 : decode cX9_hearers 20 = .ok (.iconst 0, 1) := by decide +kernel
theorem dX9_hearers_21 : decode cX9_hearers 21 = .ok (.istore_n 1, 1) := by decide +kernel
theorem dX9_hearers_22 : decode cX9_hearers 22 = .ok (.iconst 1, 1) := by decide +kernel
theorem dX9_hearers_23 : decode cX9_hearers 23 = .ok (.istore_n 2, 1) := by decide +kernel
theorem dX9_hearers_24 : decode cX9_hearers 24 = .ok (.iload_n 2, 1) := by decide +kernel
theorem dX9_hearers_25 : decode cX9_hearers 25 = .ok (.ifCond .eq 52, 3) := by decide +kernel
theorem dX9_hearers_28 : decode cX9_hearers 28 = .ok (.aload_n 0, 1) := by decide +kernel
theorem dX9_hearers_29 : decode cX9_hearers 29 = .ok (.invokevirtual 142, 3) := by decide +kernel
theorem dX9_hearers_32 : decode cX9_hearers 32 = .ok (.ifCond .eq 45, 3) := by decide +kernel
theorem dX9_hearers_35 : decode cX9_hearers 35 = .ok (.aload_n 0, 1) := by decide +kernel
theorem dX9_hearers_36 : decode cX9_hearers 36 = .ok (.getfield 113, 3) := by decide +kernel
theorem dX9_hearers_39 : decode cX9_hearers 39 = .ok (.iload_n 1, 1) := by decide +kernel
theorem dX9_hearers_40 : decode cX9_hearers 40 = .ok (.iadd, 1) := by decide +kernel
theorem dX9_hearers_41 : decode cX9_hearers 41 = .ok (.bipush 8, 2) := by decide +kernel
theorem dX9_hearers_43 : decode cX9_hearers 43 = .ok (.if_icmp .ne 14, 3) := by decide +kernel
theorem dX9_hearers_46 : decode cX9_hearers 46 = .ok (.aload_n 0, 1) := by decide +kernel
theorem dX9_hearers_47 : decode cX9_hearers 47 = .ok (.aload_n 0, 1) := by decide +kernel
theorem dX9_hearers_48 : decode cX9_hearers 48 = .ok (.getfield 132, 3) := by decide +kernel
theorem dX9_hearers_51 : decode cX9_hearers 51 = .ok (.invokevirtual 154, 3) := by decide +kernel
theorem dX9_hearers_54 : decode cX9_hearers 54 = .ok (.goto 10, 3) := by decide +kernel
theorem dX9_hearers_57 : decode cX9_hearers 57 = .ok (.aload_n 0, 1) := by decide +kernel
theorem dX9_hearers_58 : decode cX9_hearers 58 = .ok (.iconst 3, 1) := by decide +kernel
theorem dX9_hearers_59 : decode cX9_hearers 59 = .ok (.iload_n 1, 1) := by decide +kernel
theorem dX9_hearers_60 : decode cX9_hearers 60 = .ok (.imul, 1) := by decide +kernel
theorem dX9_hearers_61 : decode cX9_hearers 61 = .ok (.invokevirtual 172, 3) := by decide +kernel
theorem dX9_hearers_64 : decode cX9_hearers 64 = .ok (.iinc 1 1, 3) := by decide +kernel
theorem dX9_hearers_67 : decode cX9_hearers 67 = .ok (.aload_n 0, 1) := by decide +kernel
theorem dX9_hearers_68 : decode cX9_hearers 68 = .ok (.bipush 59, 2) := by decide +kernel
theorem dX9_hearers_70 : decode cX9_hearers 70 = .ok (.invokevirtual 150, 3) := by decide +kernel
theorem dX9_hearers_73 : decode cX9_hearers 73 = .ok (.istore_n 2, 1) := by decide +kernel
theorem dX9_hearers_74 : decode cX9_hearers 74 = .ok (.goto (-50), 3) := by decide +kernel
theorem dX9_hearers_77 : decode cX9_hearers 77 = .ok (.aload_n 0, 1) := by decide +kernel
theorem dX9_hearers_78 : decode cX9_hearers 78 = .ok (.invokevirtual 165, 3) := by decide +kernel
theorem dX9_hearers_81 : decode cX9_hearers 81 = .ok (.ifCond .ne 10, 3) := by decide +kernel
theorem dX9_hearers_84 : decode cX9_hearers 84 = .ok (.iconst (-1), 1) := by decide +kernel
theorem dX9_hearers_85 : decode cX9_hearers 85 = .ok (.aload_n 0, 1) := by decide +kernel
theorem dX9_hearers_86 : decode cX9_hearers 86 = .ok (.getfield 135, 3) := by decide +kernel
theorem dX9_hearers_89 : decode cX9_hearers 89 = .ok (.isub, 1) := by decide +kernel
theorem dX9_hearers_90 : decode cX9_hearers 90 = .ok (.ireturn, 1) := by decide +kernel
theorem dX9_hearers_91 : decode cX9_hearers 91 = .ok (.iconst 0, 1) := by decide +kernel
theorem dX9_hearers_92 : decode cX9_hearers 92 = .ok (.istore_n 3, 1) := by decide +kernel
theorem dX9_hearers_93 : decode cX9_hearers 93 = .ok (.iload_n 3, 1) := by decide +kernel
theorem dX9_hearers_94 : decode cX9_hearers 94 = .ok (.iload_n 1, 1) := by decide +kernel
theorem dX9_hearers_95 : decode cX9_hearers 95 = .ok (.if_icmp .ge 110, 3) := by decide +kernel
theorem dX9_hearers_98 : decode cX9_hearers 98 = .ok (.aload_n 0, 1) := by decide +kernel
theorem dX9_hearers_99 : decode cX9_hearers 99 = .ok (.getfield 13, 3) := by decide +kernel
theorem dX9_hearers_102 : decode cX9_hearers 102 = .ok (.aload_n 0, 1) := by decide +kernel
theorem dX9_hearers_103 : decode cX9_hearers 103 = .ok (.getfield 113, 3) := by decide +kernel
theorem dX9_hearers_106 : decode cX9_hearers 106 = .ok (.aload_n 0, 1) := by decide +kernel
theorem dX9_hearers_107 : decode cX9_hearers 107 = .ok (.getfield 37, 3) := by decide +kernel
theorem dX9_hearers_110 : decode cX9_hearers 110 = .ok (.iconst 3, 1) := by decide +kernel
theorem dX9_hearers_111 : decode cX9_hearers 111 = .ok (.iload_n 3, 1) := by decide +kernel
theorem dX9_hearers_112 : decode cX9_hearers 112 = .ok (.imul, 1) := by decide +kernel
theorem dX9_hearers_113 : decode cX9_hearers 113 = .ok (.iaload, 1) := by decide +kernel
theorem dX9_hearers_114 : decode cX9_hearers 114 = .ok (.iastore, 1) := by decide +kernel
theorem dX9_hearers_115 : decode cX9_hearers 115 = .ok (.aload_n 0, 1) := by decide +kernel
theorem dX9_hearers_116 : decode cX9_hearers 116 = .ok (.getfield 16, 3) := by decide +kernel
theorem dX9_hearers_119 : decode cX9_hearers 119 = .ok (.aload_n 0, 1) := by decide +kernel
theorem dX9_hearers_120 : decode cX9_hearers 120 = .ok (.getfield 113, 3) := by decide +kernel
theorem dX9_hearers_123 : decode cX9_hearers 123 = .ok (.aload_n 0, 1) := by decide +kernel
theorem dX9_hearers_124 : decode cX9_hearers 124 = .ok (.getfield 37, 3) := by decide +kernel
theorem dX9_hearers_127 : decode cX9_hearers 127 = .ok (.iconst 3, 1) := by decide +kernel
theorem dX9_hearers_128 : decode cX9_hearers 128 = .ok (.iload_n 3, 1) := by decide +kernel
theorem dX9_hearers_129 : decode cX9_hearers 129 = .ok (.imul, 1) := by decide +kernel
theorem dX9_hearers_130 : decode cX9_hearers 130 = .ok (.iconst 1, 1) := by decide +kernel
theorem dX9_hearers_131 : decode cX9_hearers 131 = .ok (.iadd, 1) := by decide +kernel
theorem dX9_hearers_132 : decode cX9_hearers 132 = .ok (.iaload, 1) := by decide +kernel
theorem dX9_hearers_133 : decode cX9_hearers 133 = .ok (.iastore, 1) := by decide +kernel
theorem dX9_hearers_134 : decode cX9_hearers 134 = .ok (.aload_n 0, 1) := by decide +kernel
theorem dX9_hearers_135 : decode cX9_hearers 135 = .ok (.getfield 19, 3) := by decide +kernel
theorem dX9_hearers_138 : decode cX9_hearers 138 = .ok (.aload_n 0, 1) := by decide +kernel
theorem dX9_hearers_139 : decode cX9_hearers 139 = .ok (.getfield 113, 3) := by decide +kernel
theorem dX9_hearers_142 : decode cX9_hearers 142 = .ok (.aload_n 0, 1) := by decide +kernel
theorem dX9_hearers_143 : decode cX9_hearers 143 = .ok (.getfield 37, 3) := by decide +kernel
theorem dX9_hearers_146 : decode cX9_hearers 146 = .ok (.iconst 3, 1) := by decide +kernel
theorem dX9_hearers_147 : decode cX9_hearers 147 = .ok (.iload_n 3, 1) := by decide +kernel
theorem dX9_hearers_148 : decode cX9_hearers 148 = .ok (.imul, 1) := by decide +kernel
theorem dX9_hearers_149 : decode cX9_hearers 149 = .ok (.iconst 2, 1) := by decide +kernel
theorem dX9_hearers_150 : decode cX9_hearers 150 = .ok (.iadd, 1) := by decide +kernel
theorem dX9_hearers_151 : decode cX9_hearers 151 = .ok (.iaload, 1) := by decide +kernel
theorem dX9_hearers_152 : decode cX9_hearers 152 = .ok (.iastore, 1) := by decide +kernel
theorem dX9_hearers_153 : decode cX9_hearers 153 = .ok (.aload_n 0, 1) := by decide +kernel
theorem dX9_hearers_154 : decode cX9_hearers 154 = .ok (.getfield 9, 3) := by decide +kernel
theorem dX9_hearers_157 : decode cX9_hearers 157 = .ok (.aload_n 0, 1) := by decide +kernel
theorem dX9_hearers_158 : decode cX9_hearers 158 = .ok (.getfield 113, 3) := by decide +kernel
theorem dX9_hearers_161 : decode cX9_hearers 161 = .ok (.iconst 0, 1) := by decide +kernel
theorem dX9_hearers_162 : decode cX9_hearers 162 = .ok (.iastore, 1) := by decide +kernel
theorem dX9_hearers_163 : decode cX9_hearers 163 = .ok (.aload_n 0, 1) := by decide +kernel
theorem dX9_hearers_164 : decode cX9_hearers 164 = .ok (.getfield 9, 3) := by decide +kernel
theorem dX9_hearers_167 : decode cX9_hearers 167 = .ok (.bipush 8, 2) := by decide +kernel
theorem dX9_hearers_169 : decode cX9_hearers 169 = .ok (.aload_n 0, 1) := by decide +kernel
theorem dX9_hearers_170 : decode cX9_hearers 170 = .ok (.getfield 113, 3) := by decide +kernel
theorem dX9_hearers_173 : decode cX9_hearers 173 = .ok (.iadd, 1) := by decide +kernel
theorem dX9_hearers_174 : decode cX9_hearers 174 = .ok (.iconst 0, 1) := by decide +kernel
theorem dX9_hearers_175 : decode cX9_hearers 175 = .ok (.iastore, 1) := by decide +kernel
theorem dX9_hearers_176 : decode cX9_hearers 176 = .ok (.aload_n 0, 1) := by decide +kernel
theorem dX9_hearers_177 : decode cX9_hearers 177 = .ok (.getfield 9, 3) := by decide +kernel
theorem dX9_hearers_180 : decode cX9_hearers 180 = .ok (.bipush 16, 2) := by decide +kernel
theorem dX9_hearers_182 : decode cX9_hearers 182 = .ok (.aload_n 0, 1) := by decide +kernel
theorem dX9_hearers_183 : decode cX9_hearers 183 = .ok (.getfield 113, 3) := by decide +kernel
theorem dX9_hearers_186 : decode cX9_hearers 186 = .ok (.iadd, 1) := by decide +kernel
theorem dX9_hearers_187 : decode cX9_hearers 187 = .ok (.iconst 1, 1) := by decide +kernel
theorem dX9_hearers_188 : decode cX9_hearers 188 = .ok (.iastore, 1) := by decide +kernel
theorem dX9_hearers_189 : decode cX9_hearers 189 = .ok (.aload_n 0, 1) := by decide +kernel
theorem dX9_hearers_190 : decode cX9_hearers 190 = .ok (.dup, 1) := by decide +kernel
theorem dX9_hearers_191 : decode cX9_hearers 191 = .ok (.getfield 113, 3) := by decide +kernel
theorem dX9_hearers_194 : decode cX9_hearers 194 = .ok (.iconst 1, 1) := by decide +kernel
theorem dX9_hearers_195 : decode cX9_hearers 195 = .ok (.iadd, 1) := by decide +kernel
theorem dX9_hearers_196 : decode cX9_hearers 196 = .ok (.putfield 113, 3) := by decide +kernel
theorem dX9_hearers_199 : decode cX9_hearers 199 = .ok (.iinc 3 1, 3) := by decide +kernel
theorem dX9_hearers_202 : decode cX9_hearers 202 = .ok (.goto (-109), 3) := by decide +kernel
theorem dX9_hearers_205 : decode cX9_hearers 205 = .ok (.aload_n 0, 1) := by decide +kernel
theorem dX9_hearers_206 : decode cX9_hearers 206 = .ok (.iconst 0, 1) := by decide +kernel
theorem dX9_hearers_207 : decode cX9_hearers 207 = .ok (.putfield 175, 3) := by decide +kernel
theorem dX9_hearers_210 : decode cX9_hearers 210 = .ok (.aload_n 0, 1) := by decide +kernel
theorem dX9_hearers_211 : decode cX9_hearers 211 = .ok (.dup, 1) := by decide +kernel
theorem dX9_hearers_212 : decode cX9_hearers 212 = .ok (.getfield 178, 3) := by decide +kernel
theorem dX9_hearers_215 : decode cX9_hearers 215 = .ok (.iconst 1, 1) := by decide +kernel
theorem dX9_hearers_216 : decode cX9_hearers 216 = .ok (.iadd, 1) := by decide +kernel
theorem dX9_hearers_217 : decode cX9_hearers 217 = .ok (.putfield 178, 3) := by decide +kernel
theorem dX9_hearers_220 : decode cX9_hearers 220 = .ok (.iload_n 1, 1) := by decide +kernel
theorem dX9_hearers_221 : decode cX9_hearers 221 = .ok (.ireturn, 1) := by decide +kernel
theorem dX9_held_0 : decode cX9_held 0 = .ok (.aload_n 0, 1) := by decide +kernel
theorem dX9_held_1 : decode cX9_held 1 = .ok (.iload_n 1, 1) := by decide +kernel
theorem dX9_held_2 : decode cX9_held 2 = .ok (.invokevirtual 181, 3) := by decide +kernel
theorem dX9_held_5 : decode cX9_held 5 = .ok (.istore_n 2, 1) := by decide +kernel
theorem dX9_held_6 : decode cX9_held 6 = .ok (.aload_n 0, 1) := by decide +kernel
theorem dX9_held_7 : decode cX9_held 7 = .ok (.bipush 60, 2) := by decide +kernel
theorem dX9_held_9 : decode cX9_held 9 = .ok (.invokevirtual 150, 3) := by decide +kernel
theorem dX9_held_12 : decode cX9_held 12 = .ok (.ifCond .eq 18, 3) := by decide +kernel
theorem dX9_held_15 : decode cX9_held 15 = .ok (.iload_n 2, 1) := by decide +kernel
theorem dX9_held_16 : decode cX9_held 16 = .ok (.aload_n 0, 1) := by decide +kernel
theorem dX9_held_17 : decode cX9_held 17 = .ok (.iload_n 1, 1) := by decide +kernel
theorem dX9_held_18 : decode cX9_held 18 = .ok (.invokevirtual 181, 3) := by decide +kernel
theorem dX9_held_21 : decode cX9_held 21 = .ok (.if_icmp .ge 7, 3) := by decide +kernel
theorem dX9_held_24 : decode cX9_held 24 = .ok (.iconst 1, 1) := by decide +kernel
theorem dX9_held_25 : decode cX9_held 25 = .ok (.goto 4, 3) := by decide +kernel
theorem dX9_held_28 : decode cX9_held 28 = .ok (.iconst 0, 1) := by decide +kernel
theorem dX9_held_29 : decode cX9_held 29 = .ok (.ireturn, 1) := by decide +kernel
theorem dX9_held_30 : decode cX9_held 30 = .ok (.aload_n 0, 1) := by decide +kernel
theorem dX9_held_31 : decode cX9_held 31 = .ok (.bipush 62, 2) := by decide +kernel
theorem dX9_held_33 : decode cX9_held 33 = .ok (.invokevirtual 150, 3) := by decide +kernel
theorem dX9_held_36 : decode cX9_held 36 = .ok (.ifCond .eq 18, 3) := by decide +kernel
theorem dX9_held_39 : decode cX9_held 39 = .ok (.iload_n 2, 1) := by decide +kernel
theorem dX9_held_40 : decode cX9_held 40 = .ok (.aload_n 0, 1) := by decide +kernel
theorem dX9_held_41 : decode cX9_held 41 = .ok (.iload_n 1, 1) := by decide +kernel
theorem dX9_held_42 : decode cX9_held 42 = .ok (.invokevirtual 181, 3) := by decide +kernel
theorem dX9_held_45 : decode cX9_held 45 = .ok (.if_icmp .le 7, 3) := by decide +kernel
theorem dX9_held_48 : decode cX9_held 48 = .ok (.iconst 1, 1) := by decide +kernel
theorem dX9_held_49 : decode cX9_held 49 = .ok (.goto 4, 3) := by decide +kernel
theorem dX9_held_52 : decode cX9_held 52 = .ok (.iconst 0, 1) := by decide +kernel
theorem dX9_held_53 : decode cX9_held 53 = .ok (.ireturn, 1) := by decide +kernel
theorem dX9_held_54 : decode cX9_held 54 = .ok (.aload_n 0, 1) := by decide +kernel
theorem dX9_held_55 : decode cX9_held 55 = .ok (.bipush 61, 2) := by decide +kernel
theorem dX9_held_57 : decode cX9_held 57 = .ok (.invokevirtual 150, 3) := by decide +kernel
theorem dX9_held_60 : decode cX9_held 60 = .ok (.ifCond .eq 18, 3) := by decide +kernel
theorem dX9_held_63 : decode cX9_held 63 = .ok (.iload_n 2, 1) := by decide +kernel
theorem dX9_held_64 : decode cX9_held 64 = .ok (.aload_n 0, 1) := by decide +kernel
theorem dX9_held_65 : decode cX9_held 65 = .ok (.iload_n 1, 1) := by decide +kernel
theorem dX9_held_66 : decode cX9_held 66 = .ok (.invokevirtual 181, 3) := by decide +kernel
theorem dX9_held_69 : decode cX9_held 69 = .ok (.if_icmp .ne 7, 3) := by decide +kernel
theorem dX9_held_72 : decode cX9_held 72 = .ok (.iconst 1, 1) := by decide +kernel
theorem dX9_held_73 : decode cX9_held 73 = .ok (.goto 4, 3) := by decide +kernel
theorem dX9_held_76 : decode cX9_held 76 = .ok (.iconst 0, 1) := by decide +kernel
theorem dX9_held_77 : decode cX9_held 77 = .ok (.ireturn, 1) := by decide +kernel
theorem dX9_held_78 : decode cX9_held 78 = .ok (.iload_n 2, 1) := by decide +kernel
theorem dX9_held_79 : decode cX9_held 79 = .ok (.ireturn, 1) := by decide +kernel
theorem dX9_sum_0 : decode cX9_sum 0 = .ok (.aload_n 0, 1) := by decide +kernel
theorem dX9_sum_1 : decode cX9_sum 1 = .ok (.iload_n 1, 1) := by decide +kernel
theorem dX9_sum_2 : decode cX9_sum 2 = .ok (.invokevirtual 184, 3) := by decide +kernel
theorem dX9_sum_5 : decode cX9_sum 5 = .ok (.istore_n 2, 1) := by decide +kernel
theorem dX9_sum_6 : decode cX9_sum 6 = .ok (.aload_n 0, 1) := by decide +kernel
theorem dX9_sum_7 : decode cX9_sum 7 = .ok (.invokevirtual 142, 3) := by decide +kernel
theorem dX9_sum_10 : decode cX9_sum 10 = .ok (.ifCond .eq 72, 3) := by decide +kernel
theorem dX9_sum_13 : decode cX9_sum 13 = .ok (.aload_n 0, 1) := by decide +kernel
theorem dX9_sum_14 : decode cX9_sum 14 = .ok (.invokevirtual 146, 3) := by decide +kernel
theorem dX9_sum_17 : decode cX9_sum 17 = .ok (.bipush 43, 2) := by decide +kernel
theorem dX9_sum_19 : decode cX9_sum 19 = .ok (.if_icmp .eq 12, 3) := by decide +kernel
theorem dX9_sum_22 : decode cX9_sum 22 = .ok (.aload_n 0, 1) := by decide +kernel
theorem dX9_sum_23 : decode cX9_sum 23 = .ok (.invokevirtual 146, 3) := by decide +kernel
theorem dX9_sum_26 : decode cX9_sum 26 = .ok (.bipush 45, 2) := by decide +kernel
theorem dX9_sum_28 : decode cX9_sum 28 = .ok (.if_icmp .ne 54, 3) := by decide +kernel
theorem dX9_sum_31 : decode cX9_sum 31 = .ok (.aload_n 0, 1) := by decide +kernel
theorem dX9_sum_32 : decode cX9_sum 32 = .ok (.invokevirtual 146, 3) := by decide +kernel
theorem dX9_sum_35 : decode cX9_sum 35 = .ok (.bipush 43, 2) := by decide +kernel
theorem dX9_sum_37 : decode cX9_sum 37 = .ok (.if_icmp .ne 7, 3) := by decide +kernel
theorem dX9_sum_40 : decode cX9_sum 40 = .ok (.iconst 1, 1) := by decide +kernel
theorem dX9_sum_41 : decode cX9_sum 41 = .ok (.goto 4, 3) := by decide +kernel
theorem dX9_sum_44 : decode cX9_sum 44 = .ok (.iconst 0, 1) := by decide +kernel
theorem dX9_sum_45 : decode cX9_sum 45 = .ok (.istore_n 3, 1) := by decide +kernel
theorem dX9_sum_46 : decode cX9_sum 46 = .ok (.aload_n 0, 1) := by decide +kernel
theorem dX9_sum_47 : decode cX9_sum 47 = .ok (.dup, 1) := by decide +kernel
theorem dX9_sum_48 : decode cX9_sum 48 = .ok (.getfield 132, 3) := by decide +kernel
theorem dX9_sum_51 : decode cX9_sum 51 = .ok (.iconst 1, 1) := by decide +kernel
theorem dX9_sum_52 : decode cX9_sum 52 = .ok (.iadd, 1) := by decide +kernel
theorem dX9_sum_53 : decode cX9_sum 53 = .ok (.putfield 132, 3) := by decide +kernel
theorem dX9_sum_56 : decode cX9_sum 56 = .ok (.aload_n 0, 1) := by decide +kernel
theorem dX9_sum_57 : decode cX9_sum 57 = .ok (.iload_n 1, 1) := by decide +kernel
theorem dX9_sum_58 : decode cX9_sum 58 = .ok (.invokevirtual 184, 3) := by decide +kernel
theorem dX9_sum_61 : decode cX9_sum 61 = .ok (.istore 4, 2) := by decide +kernel
theorem dX9_sum_63 : decode cX9_sum 63 = .ok (.iload_n 3, 1) := by decide +kernel
theorem dX9_sum_64 : decode cX9_sum 64 = .ok (.ifCond .eq 10, 3) := by decide +kernel
theorem dX9_sum_67 : decode cX9_sum 67 = .ok (.iload_n 2, 1) := by decide +kernel
theorem dX9_sum_68 : decode cX9_sum 68 = .ok (.iload 4, 2) := by decide +kernel
theorem dX9_sum_70 : decode cX9_sum 70 = .ok (.iadd, 1) := by decide +kernel
theorem dX9_sum_71 : decode cX9_sum 71 = .ok (.goto 7, 3) := by decide +kernel
theorem dX9_sum_74 : decode cX9_sum 74 = .ok (.iload_n 2, 1) := by decide +kernel
theorem dX9_sum_75 : decode cX9_sum 75 = .ok (.iload 4, 2) := by decide +kernel
theorem dX9_sum_77 : decode cX9_sum 77 = .ok (.isub, 1) := by decide +kernel
theorem dX9_sum_78 : decode cX9_sum 78 = .ok (.istore_n 2, 1) := by decide +kernel
theorem dX9_sum_79 : decode cX9_sum 79 = .ok (.goto (-73), 3) := by decide +kernel
theorem dX9_sum_82 : decode cX9_sum 82 = .ok (.iload_n 2, 1) := by decide +kernel
theorem dX9_sum_83 : decode cX9_sum 83 = .ok (.ireturn, 1) := by decide +kernel
theorem dX9_product_0 : decode cX9_product 0 = .ok (.aload_n 0, 1) := by decide +kernel
theorem dX9_product_1 : decode cX9_product 1 = .ok (.iload_n 1, 1) := by decide +kernel
theorem dX9_product_2 : decode cX9_product 2 = .ok (.invokevirtual 187, 3) := by decide +kernel
theorem dX9_product_5 : decode cX9_product 5 = .ok (.istore_n 2, 1) := by decide +kernel
theorem dX9_product_6 : decode cX9_product 6 = .ok (.aload_n 0, 1) := by decide +kernel
theorem dX9_product_7 : decode cX9_product 7 = .ok (.invokevirtual 142, 3) := by decide +kernel
theorem dX9_product_10 : decode cX9_product 10 = .ok (.ifCond .eq 81, 3) := by decide +kernel
theorem dX9_product_13 : decode cX9_product 13 = .ok (.aload_n 0, 1) := by decide +kernel
theorem dX9_product_14 : decode cX9_product 14 = .ok (.invokevirtual 146, 3) := by decide +kernel
theorem dX9_product_17 : decode cX9_product 17 = .ok (.bipush 42, 2) := by decide +kernel
theorem dX9_product_19 : decode cX9_product 19 = .ok (.if_icmp .eq 12, 3) := by decide +kernel
theorem dX9_product_22 : decode cX9_product 22 = .ok (.aload_n 0, 1) := by decide +kernel
theorem dX9_product_23 : decode cX9_product 23 = .ok (.invokevirtual 146, 3) := by decide +kernel
theorem dX9_product_26 : decode cX9_product 26 = .ok (.bipush 47, 2) := by decide +kernel
theorem dX9_product_28 : decode cX9_product 28 = .ok (.if_icmp .ne 63, 3) := by decide +kernel
theorem dX9_product_31 : decode cX9_product 31 = .ok (.aload_n 0, 1) := by decide +kernel
theorem dX9_product_32 : decode cX9_product 32 = .ok (.invokevirtual 146, 3) := by decide +kernel
theorem dX9_product_35 : decode cX9_product 35 = .ok (.bipush 42, 2) := by decide +kernel
theorem dX9_product_37 : decode cX9_product 37 = .ok (.if_icmp .ne 7, 3) := by decide +kernel
theorem dX9_product_40 : decode cX9_product 40 = .ok (.iconst 1, 1) := by decide +kernel
theorem dX9_product_41 : decode cX9_product 41 = .ok (.goto 4, 3) := by decide +kernel
theorem dX9_product_44 : decode cX9_product 44 = .ok (.iconst 0, 1) := by decide +kernel
theorem dX9_product_45 : decode cX9_product 45 = .ok (.istore_n 3, 1) := by decide +kernel
theorem dX9_product_46 : decode cX9_product 46 = .ok (.aload_n 0, 1) := by decide +kernel
theorem dX9_product_47 : decode cX9_product 47 = .ok (.dup, 1) := by decide +kernel
theorem dX9_product_48 : decode cX9_product 48 = .ok (.getfield 132, 3) := by decide +kernel
theorem dX9_product_51 : decode cX9_product 51 = .ok (.iconst 1, 1) := by decide +kernel
theorem dX9_product_52 : decode cX9_product 52 = .ok (.iadd, 1) := by decide +kernel
theorem dX9_product_53 : decode cX9_product 53 = .ok (.putfield 132, 3) := by decide +kernel
theorem dX9_product_56 : decode cX9_product 56 = .ok (.aload_n 0, 1) := by decide +kernel
theorem dX9_product_57 : decode cX9_product 57 = .ok (.iload_n 1, 1) := by decide +kernel
theorem dX9_product_58 : decode cX9_product 58 = .ok (.invokevirtual 187, 3) := by decide +kernel
theorem dX9_product_61 : decode cX9_product 61 = .ok (.istore 4, 2) := by decide +kernel
theorem dX9_product_63 : decode cX9_product 63 = .ok (.iload_n 3, 1) := by decide +kernel
theorem dX9_product_64 : decode cX9_product 64 = .ok (.ifCond .eq 10, 3) := by decide +kernel
theorem dX9_product_67 : decode cX9_product 67 = .ok (.iload_n 2, 1) := by decide +kernel
theorem dX9_product_68 : decode cX9_product 68 = .ok (.iload 4, 2) := by decide +kernel
theorem dX9_product_70 : decode cX9_product 70 = .ok (.imul, 1) := by decide +kernel
theorem dX9_product_71 : decode cX9_product 71 = .ok (.goto 16, 3) := by decide +kernel
theorem dX9_product_74 : decode cX9_product 74 = .ok (.iload 4, 2) := by decide +kernel
theorem dX9_product_76 : decode cX9_product 76 = .ok (.ifCond .ne 7, 3) := by decide +kernel
theorem dX9_product_79 : decode cX9_product 79 = .ok (.iconst 0, 1) := by decide +kernel
theorem dX9_product_80 : decode cX9_product 80 = .ok (.goto 7, 3) := by decide +kernel
theorem dX9_product_83 : decode cX9_product 83 = .ok (.iload_n 2, 1) := by decide +kernel
theorem dX9_product_84 : decode cX9_product 84 = .ok (.iload 4, 2) := by decide +kernel
theorem dX9_product_86 : decode cX9_product 86 = .ok (.idiv, 1) := by decide +kernel
theorem dX9_product_87 : decode cX9_product 87 = .ok (.istore_n 2, 1) := by decide +kernel
theorem dX9_product_88 : decode cX9_product 88 = .ok (.goto (-82), 3) := by decide +kernel
theorem dX9_product_91 : decode cX9_product 91 = .ok (.iload_n 2, 1) := by decide +kernel
theorem dX9_product_92 : decode cX9_product 92 = .ok (.ireturn, 1) := by decide +kernel
theorem dX9_letterOf_0 : decode cX9_letterOf 0 = .ok (.iload_n 0, 1) := by decide +kernel
theorem dX9_letterOf_1 : decode cX9_letterOf 1 = .ok (.bipush 118, 2) := by decide +kernel
theorem dX9_letterOf_3 : decode cX9_letterOf 3 = .ok (.if_icmp .ne 7, 3) := by decide +kernel
theorem dX9_letterOf_6 : decode cX9_letterOf 6 = .ok (.iconst 0, 1) := by decide +kernel
theorem dX9_letterOf_7 : decode cX9_letterOf 7 = .ok (.goto 65, 3) := by decide +kernel
theorem dX9_letterOf_10 : decode cX9_letterOf 10 = .ok (.iload_n 0, 1) := by decide +kernel
theorem dX9_letterOf_11 : decode cX9_letterOf 11 = .ok (.bipush 107, 2) := by decide +kernel
theorem dX9_letterOf_13 : decode cX9_letterOf 13 = .ok (.if_icmp .ne 7, 3) := by decide +kernel
theorem dX9_letterOf_16 : decode cX9_letterOf 16 = .ok (.iconst 1, 1) := by decide +kernel
theorem dX9_letterOf_17 : decode cX9_letterOf 17 = .ok (.goto 55, 3) := by decide +kernel
theorem dX9_letterOf_20 : decode cX9_letterOf 20 = .ok (.iload_n 0, 1) := by decide +kernel
theorem dX9_letterOf_21 : decode cX9_letterOf 21 = .ok (.bipush 104, 2) := by decide +kernel
theorem dX9_letterOf_23 : decode cX9_letterOf 23 = .ok (.if_icmp .ne 7, 3) := by decide +kernel
theorem dX9_letterOf_26 : decode cX9_letterOf 26 = .ok (.iconst 2, 1) := by decide +kernel
theorem dX9_letterOf_27 : decode cX9_letterOf 27 = .ok (.goto 45, 3) := by decide +kernel
theorem dX9_letterOf_30 : decode cX9_letterOf 30 = .ok (.iload_n 0, 1) := by decide +kernel
theorem dX9_letterOf_31 : decode cX9_letterOf 31 = .ok (.bipush 119, 2) := by decide +kernel
theorem dX9_letterOf_33 : decode cX9_letterOf 33 = .ok (.if_icmp .ne 7, 3) := by decide +kernel
theorem dX9_letterOf_36 : decode cX9_letterOf 36 = .ok (.iconst 3, 1) := by decide +kernel
theorem dX9_letterOf_37 : decode cX9_letterOf 37 = .ok (.goto 35, 3) := by decide +kernel
theorem dX9_letterOf_40 : decode cX9_letterOf 40 = .ok (.iload_n 0, 1) := by decide +kernel
theorem dX9_letterOf_41 : decode cX9_letterOf 41 = .ok (.bipush 112, 2) := by decide +kernel
theorem dX9_letterOf_43 : decode cX9_letterOf 43 = .ok (.if_icmp .ne 7, 3) := by decide +kernel
theorem dX9_letterOf_46 : decode cX9_letterOf 46 = .ok (.iconst 4, 1) := by decide +kernel
theorem dX9_letterOf_47 : decode cX9_letterOf 47 = .ok (.goto 25, 3) := by decide +kernel
theorem dX9_letterOf_50 : decode cX9_letterOf 50 = .ok (.iload_n 0, 1) := by decide +kernel
theorem dX9_letterOf_51 : decode cX9_letterOf 51 = .ok (.bipush 110, 2) := by decide +kernel
theorem dX9_letterOf_53 : decode cX9_letterOf 53 = .ok (.if_icmp .ne 7, 3) := by decide +kernel
theorem dX9_letterOf_56 : decode cX9_letterOf 56 = .ok (.iconst 5, 1) := by decide +kernel
theorem dX9_letterOf_57 : decode cX9_letterOf 57 = .ok (.goto 15, 3) := by decide +kernel
theorem dX9_letterOf_60 : decode cX9_letterOf 60 = .ok (.iload_n 0, 1) := by decide +kernel
theorem dX9_letterOf_61 : decode cX9_letterOf 61 = .ok (.bipush 99, 2) := by decide +kernel
theorem dX9_letterOf_63 : decode cX9_letterOf 63 = .ok (.if_icmp .ne 8, 3) := by decide +kernel
theorem dX9_letterOf_66 : decode cX9_letterOf 66 = .ok (.bipush 6, 2) := by decide +kernel
theorem dX9_letterOf_68 : decode cX9_letterOf 68 = .ok (.goto 4, 3) := by decide +kernel
theorem dX9_letterOf_71 : decode cX9_letterOf 71 = .ok (.iconst (-1), 1) := by decide +kernel
theorem dX9_letterOf_72 : decode cX9_letterOf 72 = .ok (.ireturn, 1) := by decide +kernel
theorem dX9_thing_0 : decode cX9_thing 0 = .ok (.aload_n 0, 1) := by decide +kernel
theorem dX9_thing_1 : decode cX9_thing 1 = .ok (.bipush 45, 2) := by decide +kernel
theorem dX9_thing_3 : decode cX9_thing 3 = .ok (.invokevirtual 150, 3) := by decide +kernel
theorem dX9_thing_6 : decode cX9_thing 6 = .ok (.ifCond .eq 10, 3) := by decide +kernel
theorem dX9_thing_9 : decode cX9_thing 9 = .ok (.aload_n 0, 1) := by decide +kernel
theorem dX9_thing_10 : decode cX9_thing 10 = .ok (.iload_n 1, 1) := by decide +kernel
theorem dX9_thing_11 : decode cX9_thing 11 = .ok (.invokevirtual 187, 3) := by decide +kernel
theorem dX9_thing_14 : decode cX9_thing 14 = .ok (.ineg, 1) := by decide +kernel
theorem dX9_thing_15 : decode cX9_thing 15 = .ok (.ireturn, 1) := by decide +kernel
theorem dX9_thing_16 : decode cX9_thing 16 = .ok (.aload_n 0, 1) := by decide +kernel
theorem dX9_thing_17 : decode cX9_thing 17 = .ok (.invokevirtual 142, 3) := by decide +kernel
theorem dX9_thing_20 : decode cX9_thing 20 = .ok (.ifCond .ne 5, 3) := by decide +kernel
theorem dX9_thing_23 : decode cX9_thing 23 = .ok (.iconst 0, 1) := by decide +kernel
theorem dX9_thing_24 : decode cX9_thing 24 = .ok (.ireturn, 1) := by decide +kernel
theorem dX9_thing_25 : decode cX9_thing 25 = .ok (.aload_n 0, 1) := by decide +kernel
theorem dX9_thing_26 : decode cX9_thing 26 = .ok (.invokevirtual 146, 3) := by decide +kernel
theorem dX9_thing_29 : decode cX9_thing 29 = .ok (.istore_n 2, 1) := by decide +kernel
theorem dX9_thing_30 : decode cX9_thing 30 = .ok (.iload_n 2, 1) := by decide +kernel
theorem dX9_thing_31 : decode cX9_thing 31 = .ok (.bipush 40, 2) := by decide +kernel
theorem dX9_thing_33 : decode cX9_thing 33 = .ok (.if_icmp .ne 34, 3) := by decide +kernel
theorem dX9_thing_36 : decode cX9_thing 36 = .ok (.iload_n 1, 1) := by decide +kernel
theorem dX9_thing_37 : decode cX9_thing 37 = .ok (.iconst 4, 1) := by decide +kernel
theorem dX9_thing_38 : decode cX9_thing 38 = .ok (.if_icmp .ge 29, 3) := by decide +kernel
theorem dX9_thing_41 : decode cX9_thing 41 = .ok (.aload_n 0, 1) := by decide +kernel
theorem dX9_thing_42 : decode cX9_thing 42 = .ok (.dup, 1) := by decide +kernel
theorem dX9_thing_43 : decode cX9_thing 43 = .ok (.getfield 132, 3) := by decide +kernel
theorem dX9_thing_46 : decode cX9_thing 46 = .ok (.iconst 1, 1) := by decide +kernel
theorem dX9_thing_47 : decode cX9_thing 47 = .ok (.iadd, 1) := by decide +kernel
theorem dX9_thing_48 : decode cX9_thing 48 = .ok (.putfield 132, 3) := by decide +kernel
theorem dX9_thing_51 : decode cX9_thing 51 = .ok (.aload_n 0, 1) := by decide +kernel
theorem dX9_thing_52 : decode cX9_thing 52 = .ok (.iload_n 1, 1) := by decide +kernel
theorem dX9_thing_53 : decode cX9_thing 53 = .ok (.iconst 1, 1) := by decide +kernel
theorem dX9_thing_54 : decode cX9_thing 54 = .ok (.iadd, 1) := by decide +kernel
theorem dX9_thing_55 : decode cX9_thing 55 = .ok (.invokevirtual 190, 3) := by decide +kernel
theorem dX9_thing_58 : decode cX9_thing 58 = .ok (.istore_n 3, 1) := by decide +kernel
theorem dX9_thing_59 : decode cX9_thing 59 = .ok (.aload_n 0, 1) := by decide +kernel
theorem dX9_thing_60 : decode cX9_thing 60 = .ok (.bipush 41, 2) := by decide +kernel
theorem dX9_thing_62 : decode cX9_thing 62 = .ok (.invokevirtual 193, 3) := by decide +kernel
theorem dX9_thing_65 : decode cX9_thing 65 = .ok (.iload_n 3, 1) := by decide +kernel
theorem dX9_thing_66 : decode cX9_thing 66 = .ok (.ireturn, 1) := by decide +kernel
theorem dX9_thing_67 : decode cX9_thing 67 = .ok (.iload_n 2, 1) := by decide +kernel
theorem dX9_thing_68 : decode cX9_thing 68 = .ok (.bipush 48, 2) := by decide +kernel
theorem dX9_thing_70 : decode cX9_thing 70 = .ok (.bipush 57, 2) := by decide +kernel
theorem dX9_thing_72 : decode cX9_thing 72 = .ok (.invokestatic 116, 3) := by decide +kernel
theorem dX9_thing_75 : decode cX9_thing 75 = .ok (.ifCond .eq 9, 3) := by decide +kernel
theorem dX9_thing_78 : decode cX9_thing 78 = .ok (.aload_n 0, 1) := by decide +kernel
theorem dX9_thing_79 : decode cX9_thing 79 = .ok (.iconst 3, 1) := by decide +kernel
theorem dX9_thing_80 : decode cX9_thing 80 = .ok (.invokevirtual 197, 3) := by decide +kernel
theorem dX9_thing_83 : decode cX9_thing 83 = .ok (.ireturn, 1) := by decide +kernel
theorem dX9_thing_84 : decode cX9_thing 84 = .ok (.iload_n 2, 1) := by decide +kernel
theorem dX9_thing_85 : decode cX9_thing 85 = .ok (.invokestatic 200, 3) := by decide +kernel
theorem dX9_thing_88 : decode cX9_thing 88 = .ok (.iconst (-1), 1) := by decide +kernel
theorem dX9_thing_89 : decode cX9_thing 89 = .ok (.if_icmp .ne 13, 3) := by decide +kernel
theorem dX9_thing_92 : decode cX9_thing 92 = .ok (.aload_n 0, 1) := by decide +kernel
theorem dX9_thing_93 : decode cX9_thing 93 = .ok (.aload_n 0, 1) := by decide +kernel
theorem dX9_thing_94 : decode cX9_thing 94 = .ok (.getfield 132, 3) := by decide +kernel
theorem dX9_thing_97 : decode cX9_thing 97 = .ok (.invokevirtual 154, 3) := by decide +kernel
theorem dX9_thing_100 : decode cX9_thing 100 = .ok (.iconst 0, 1) := by decide +kernel
theorem dX9_thing_101 : decode cX9_thing 101 = .ok (.ireturn, 1) := by decide +kernel
theorem dX9_thing_102 : decode cX9_thing 102 = .ok (.aload_n 0, 1) := by decide +kernel
theorem dX9_thing_103 : decode cX9_thing 103 = .ok (.dup, 1) := by decide +kernel
theorem dX9_thing_104 : decode cX9_thing 104 = .ok (.getfield 132, 3) := by decide +kernel
theorem dX9_thing_107 : decode cX9_thing 107 = .ok (.iconst 1, 1) := by decide +kernel
theorem dX9_thing_108 : decode cX9_thing 108 = .ok (.iadd, 1) := by decide +kernel
theorem dX9_thing_109 : decode cX9_thing 109 = .ok (.putfield 132, 3) := by decide +kernel
theorem dX9_thing_112 : decode cX9_thing 112 = .ok (.aload_n 0, 1) := by decide +kernel
theorem dX9_thing_113 : decode cX9_thing 113 = .ok (.getfield 203, 3) := by decide +kernel
theorem dX9_thing_116 : decode cX9_thing 116 = .ok (.ifCond .eq 15, 3) := by decide +kernel
theorem dX9_thing_119 : decode cX9_thing 119 = .ok (.aload_n 0, 1) := by decide +kernel
theorem dX9_thing_120 : decode cX9_thing 120 = .ok (.getfield 46, 3) := by decide +kernel
theorem dX9_thing_123 : decode cX9_thing 123 = .ok (.iload_n 2, 1) := by decide +kernel
theorem dX9_thing_124 : decode cX9_thing 124 = .ok (.invokestatic 200, 3) := by decide +kernel
theorem dX9_thing_127 : decode cX9_thing 127 = .ok (.iaload, 1) := by decide +kernel
theorem dX9_thing_128 : decode cX9_thing 128 = .ok (.goto 4, 3) := by decide +kernel
theorem dX9_thing_131 : decode cX9_thing 131 = .ok (.iconst 0, 1) := by decide +kernel
theorem dX9_thing_132 : decode cX9_thing 132 = .ok (.ireturn, 1) := by decide +kernel
theorem dX9_readRule_0 : decode cX9_readRule 0 = .ok (.aload_n 0, 1) := by decide +kernel
theorem dX9_readRule_1 : decode cX9_readRule 1 = .ok (.bipush 40, 2) := by decide +kernel
theorem dX9_readRule_3 : decode cX9_readRule 3 = .ok (.invokevirtual 162, 3) := by decide +kernel
theorem dX9_readRule_6 : decode cX9_readRule 6 = .ok (.aload_n 0, 1) := by decide +kernel
theorem dX9_readRule_7 : decode cX9_readRule 7 = .ok (.iconst 0, 1) := by decide +kernel
theorem dX9_readRule_8 : decode cX9_readRule 8 = .ok (.putfield 203, 3) := by decide +kernel
theorem dX9_readRule_11 : decode cX9_readRule 11 = .ok (.aload_n 0, 1) := by decide +kernel
theorem dX9_readRule_12 : decode cX9_readRule 12 = .ok (.getfield 126, 3) := by decide +kernel
theorem dX9_readRule_15 : decode cX9_readRule 15 = .ok (.ifCond .le 9, 3) := by decide +kernel
theorem dX9_readRule_18 : decode cX9_readRule 18 = .ok (.aload_n 0, 1) := by decide +kernel
theorem dX9_readRule_19 : decode cX9_readRule 19 = .ok (.iconst 0, 1) := by decide +kernel
theorem dX9_readRule_20 : decode cX9_readRule 20 = .ok (.invokevirtual 190, 3) := by decide +kernel
theorem dX9_readRule_23 : decode cX9_readRule 23 = .ok (.pop, 1) := by decide +kernel
theorem dX9_readRule_24 : decode cX9_readRule 24 = .ok (.aload_n 0, 1) := by decide +kernel
theorem dX9_readRule_25 : decode cX9_readRule 25 = .ok (.invokevirtual 165, 3) := by decide +kernel
theorem dX9_readRule_28 : decode cX9_readRule 28 = .ok (.ireturn, 1) := by decide +kernel
theorem dX9_rule_0 : decode cX9_rule 0 = .ok (.aload_n 0, 1) := by decide +kernel
theorem dX9_rule_1 : decode cX9_rule 1 = .ok (.iconst 0, 1) := by decide +kernel
theorem dX9_rule_2 : decode cX9_rule 2 = .ok (.putfield 107, 3) := by decide +kernel
theorem dX9_rule_5 : decode cX9_rule 5 = .ok (.aload_n 0, 1) := by decide +kernel
theorem dX9_rule_6 : decode cX9_rule 6 = .ok (.getfield 120, 3) := by decide +kernel
theorem dX9_rule_9 : decode cX9_rule 9 = .ok (.istore_n 1, 1) := by decide +kernel
theorem dX9_rule_10 : decode cX9_rule 10 = .ok (.aload_n 0, 1) := by decide +kernel
theorem dX9_rule_11 : decode cX9_rule 11 = .ok (.invokevirtual 207, 3) := by decide +kernel
theorem dX9_rule_14 : decode cX9_rule 14 = .ok (.ifCond .ne 10, 3) := by decide +kernel
theorem dX9_rule_17 : decode cX9_rule 17 = .ok (.iconst (-1), 1) := by decide +kernel
theorem dX9_rule_18 : decode cX9_rule 18 = .ok (.aload_n 0, 1) := by decide +kernel
theorem dX9_rule_19 : decode cX9_rule 19 = .ok (.getfield 135, 3) := by decide +kernel
theorem dX9_rule_22 : decode cX9_rule 22 = .ok (.isub, 1) := by decide +kernel
theorem dX9_rule_23 : decode cX9_rule 23 = .ok (.ireturn, 1) := by decide +kernel
theorem dX9_rule_24 : decode cX9_rule 24 = .ok (.iconst 0, 1) := by decide +kernel
theorem dX9_rule_25 : decode cX9_rule 25 = .ok (.istore_n 2, 1) := by decide +kernel
theorem dX9_rule_26 : decode cX9_rule 26 = .ok (.iload_n 2, 1) := by decide +kernel
theorem dX9_rule_27 : decode cX9_rule 27 = .ok (.iload_n 1, 1) := by decide +kernel
theorem dX9_rule_28 : decode cX9_rule 28 = .ok (.if_icmp .ge 21, 3) := by decide +kernel
theorem dX9_rule_31 : decode cX9_rule 31 = .ok (.aload_n 0, 1) := by decide +kernel
theorem dX9_rule_32 : decode cX9_rule 32 = .ok (.getfield 40, 3) := by decide +kernel
theorem dX9_rule_35 : decode cX9_rule 35 = .ok (.iload_n 2, 1) := by decide +kernel
theorem dX9_rule_36 : decode cX9_rule 36 = .ok (.aload_n 0, 1) := by decide +kernel
theorem dX9_rule_37 : decode cX9_rule 37 = .ok (.getfield 29, 3) := by decide +kernel
theorem dX9_rule_40 : decode cX9_rule 40 = .ok (.iload_n 2, 1) := by decide +kernel
theorem dX9_rule_41 : decode cX9_rule 41 = .ok (.baload, 1) := by decide +kernel
theorem dX9_rule_42 : decode cX9_rule 42 = .ok (.bastore, 1) := by decide +kernel
theorem dX9_rule_43 : decode cX9_rule 43 = .ok (.iinc 2 1, 3) := by decide +kernel
theorem dX9_rule_46 : decode cX9_rule 46 = .ok (.goto (-20), 3) := by decide +kernel
theorem dX9_rule_49 : decode cX9_rule 49 = .ok (.aload_n 0, 1) := by decide +kernel
theorem dX9_rule_50 : decode cX9_rule 50 = .ok (.iload_n 1, 1) := by decide +kernel
theorem dX9_rule_51 : decode cX9_rule 51 = .ok (.putfield 210, 3) := by decide +kernel
theorem dX9_rule_54 : decode cX9_rule 54 = .ok (.iconst 0, 1) := by decide +kernel
theorem dX9_rule_55 : decode cX9_rule 55 = .ok (.ireturn, 1) := by decide +kernel
theorem dX9_worthOn_0 : decode cX9_worthOn 0 = .ok (.aload_n 0, 1) := by decide +kernel
theorem dX9_worthOn_1 : decode cX9_worthOn 1 = .ok (.getfield 22, 3) := by decide +kernel
theorem dX9_worthOn_4 : decode cX9_worthOn 4 = .ok (.iload_n 1, 1) := by decide +kernel
theorem dX9_worthOn_5 : decode cX9_worthOn 5 = .ok (.aload_n 0, 1) := by decide +kernel
theorem dX9_worthOn_6 : decode cX9_worthOn 6 = .ok (.getfield 25, 3) := by decide +kernel
theorem dX9_worthOn_9 : decode cX9_worthOn 9 = .ok (.irem, 1) := by decide +kernel
theorem dX9_worthOn_10 : decode cX9_worthOn 10 = .ok (.iaload, 1) := by decide +kernel
theorem dX9_worthOn_11 : decode cX9_worthOn 11 = .ok (.ireturn, 1) := by decide +kernel
theorem dX9_present_0 : decode cX9_present 0 = .ok (.iconst 0, 1) := by decide +kernel
theorem dX9_present_1 : decode cX9_present 1 = .ok (.istore_n 2, 1) := by decide +kernel
theorem dX9_present_2 : decode cX9_present 2 = .ok (.iconst 0, 1) := by decide +kernel
theorem dX9_present_3 : decode cX9_present 3 = .ok (.istore_n 3, 1) := by decide +kernel
theorem dX9_present_4 : decode cX9_present 4 = .ok (.iload_n 3, 1) := by decide +kernel
theorem dX9_present_5 : decode cX9_present 5 = .ok (.aload_n 0, 1) := by decide +kernel
theorem dX9_present_6 : decode cX9_present 6 = .ok (.getfield 113, 3) := by decide +kernel
theorem dX9_present_9 : decode cX9_present 9 = .ok (.if_icmp .ge 20, 3) := by decide +kernel
theorem dX9_present_12 : decode cX9_present 12 = .ok (.iload_n 2, 1) := by decide +kernel
theorem dX9_present_13 : decode cX9_present 13 = .ok (.aload_n 1, 1) := by decide +kernel
theorem dX9_present_14 : decode cX9_present 14 = .ok (.bipush 16, 2) := by decide +kernel
theorem dX9_present_16 : decode cX9_present 16 = .ok (.iload_n 3, 1) := by decide +kernel
theorem dX9_present_17 : decode cX9_present 17 = .ok (.iadd, 1) := by decide +kernel
theorem dX9_present_18 : decode cX9_present 18 = .ok (.iaload, 1) := by decide +kernel
theorem dX9_present_19 : decode cX9_present 19 = .ok (.iload_n 3, 1) := by decide +kernel
theorem dX9_present_20 : decode cX9_present 20 = .ok (.ishl, 1) := by decide +kernel
theorem dX9_present_21 : decode cX9_present 21 = .ok (.ior, 1) := by decide +kernel
theorem dX9_present_22 : decode cX9_present 22 = .ok (.istore_n 2, 1) := by decide +kernel
theorem dX9_present_23 : decode cX9_present 23 = .ok (.iinc 3 1, 3) := by decide +kernel
theorem dX9_present_26 : decode cX9_present 26 = .ok (.goto (-22), 3) := by decide +kernel
theorem dX9_present_29 : decode cX9_present 29 = .ok (.iload_n 2, 1) := by decide +kernel
theorem dX9_present_30 : decode cX9_present 30 = .ok (.ireturn, 1) := by decide +kernel
theorem dX9_mayOf_0 : decode cX9_mayOf 0 = .ok (.aload_n 0, 1) := by decide +kernel
theorem dX9_mayOf_1 : decode cX9_mayOf 1 = .ok (.aload_n 1, 1) := by decide +kernel
theorem dX9_mayOf_2 : decode cX9_mayOf 2 = .ok (.bipush 28, 2) := by decide +kernel
theorem dX9_mayOf_4 : decode cX9_mayOf 4 = .ok (.iaload, 1) := by decide +kernel
theorem dX9_mayOf_5 : decode cX9_mayOf 5 = .ok (.invokevirtual 213, 3) := by decide +kernel
theorem dX9_mayOf_8 : decode cX9_mayOf 8 = .ok (.aload_n 0, 1) := by decide +kernel
theorem dX9_mayOf_9 : decode cX9_mayOf 9 = .ok (.getfield 13, 3) := by decide +kernel
theorem dX9_mayOf_12 : decode cX9_mayOf 12 = .ok (.iload_n 2, 1) := by decide +kernel
theorem dX9_mayOf_13 : decode cX9_mayOf 13 = .ok (.iaload, 1) := by decide +kernel
theorem dX9_mayOf_14 : decode cX9_mayOf 14 = .ok (.isub, 1) := by decide +kernel
theorem dX9_mayOf_15 : decode cX9_mayOf 15 = .ok (.aload_n 1, 1) := by decide +kernel
theorem dX9_mayOf_16 : decode cX9_mayOf 16 = .ok (.iload_n 2, 1) := by decide +kernel
theorem dX9_mayOf_17 : decode cX9_mayOf 17 = .ok (.iaload, 1) := by decide +kernel
theorem dX9_mayOf_18 : decode cX9_mayOf 18 = .ok (.bipush 10, 2) := by decide +kernel
theorem dX9_mayOf_20 : decode cX9_mayOf 20 = .ok (.idiv, 1) := by decide +kernel
theorem dX9_mayOf_21 : decode cX9_mayOf 21 = .ok (.isub, 1) := by decide +kernel
theorem dX9_mayOf_22 : decode cX9_mayOf 22 = .ok (.istore_n 3, 1) := by decide +kernel
theorem dX9_mayOf_23 : decode cX9_mayOf 23 = .ok (.aload_n 0, 1) := by decide +kernel
theorem dX9_mayOf_24 : decode cX9_mayOf 24 = .ok (.getfield 210, 3) := by decide +kernel
theorem dX9_mayOf_27 : decode cX9_mayOf 27 = .ok (.ifCond .le 120, 3) := by decide +kernel
theorem dX9_mayOf_30 : decode cX9_mayOf 30 = .ok (.aload_n 0, 1) := by decide +kernel
theorem dX9_mayOf_31 : decode cX9_mayOf 31 = .ok (.getfield 46, 3) := by decide +kernel
theorem dX9_mayOf_34 : decode cX9_mayOf 34 = .ok (.iconst 0, 1) := by decide +kernel
theorem dX9_mayOf_35 : decode cX9_mayOf 35 = .ok (.aload_n 0, 1) := by decide +kernel
theorem dX9_mayOf_36 : decode cX9_mayOf 36 = .ok (.aload_n 1, 1) := by decide +kernel
theorem dX9_mayOf_37 : decode cX9_mayOf 37 = .ok (.bipush 28, 2) := by decide +kernel
theorem dX9_mayOf_39 : decode cX9_mayOf 39 = .ok (.iaload, 1) := by decide +kernel
theorem dX9_mayOf_40 : decode cX9_mayOf 40 = .ok (.invokevirtual 213, 3) := by decide +kernel
theorem dX9_mayOf_43 : decode cX9_mayOf 43 = .ok (.iastore, 1) := by decide +kernel
theorem dX9_mayOf_44 : decode cX9_mayOf 44 = .ok (.aload_n 0, 1) := by decide +kernel
theorem dX9_mayOf_45 : decode cX9_mayOf 45 = .ok (.getfield 46, 3) := by decide +kernel
theorem dX9_mayOf_48 : decode cX9_mayOf 48 = .ok (.iconst 1, 1) := by decide +kernel
theorem dX9_mayOf_49 : decode cX9_mayOf 49 = .ok (.aload_n 0, 1) := by decide +kernel
theorem dX9_mayOf_50 : decode cX9_mayOf 50 = .ok (.getfield 13, 3) := by decide +kernel
theorem dX9_mayOf_53 : decode cX9_mayOf 53 = .ok (.iload_n 2, 1) := by decide +kernel
theorem dX9_mayOf_54 : decode cX9_mayOf 54 = .ok (.iaload, 1) := by decide +kernel
theorem dX9_mayOf_55 : decode cX9_mayOf 55 = .ok (.iastore, 1) := by decide +kernel
theorem dX9_mayOf_56 : decode cX9_mayOf 56 = .ok (.aload_n 0, 1) := by decide +kernel
theorem dX9_mayOf_57 : decode cX9_mayOf 57 = .ok (.getfield 46, 3) := by decide +kernel
theorem dX9_mayOf_60 : decode cX9_mayOf 60 = .ok (.iconst 2, 1) := by decide +kernel
theorem dX9_mayOf_61 : decode cX9_mayOf 61 = .ok (.aload_n 1, 1) := by decide +kernel
theorem dX9_mayOf_62 : decode cX9_mayOf 62 = .ok (.iload_n 2, 1) := by decide +kernel
theorem dX9_mayOf_63 : decode cX9_mayOf 63 = .ok (.iaload, 1) := by decide +kernel
theorem dX9_mayOf_64 : decode cX9_mayOf 64 = .ok (.iastore, 1) := by decide +kernel
theorem dX9_mayOf_65 : decode cX9_mayOf 65 = .ok (.aload_n 0, 1) := by decide +kernel
theorem dX9_mayOf_66 : decode cX9_mayOf 66 = .ok (.getfield 46, 3) := by decide +kernel
theorem dX9_mayOf_69 : decode cX9_mayOf 69 = .ok (.iconst 3, 1) := by decide +kernel
theorem dX9_mayOf_70 : decode cX9_mayOf 70 = .ok (.aload_n 0, 1) := by decide +kernel
theorem dX9_mayOf_71 : decode cX9_mayOf 71 = .ok (.getfield 16, 3) := by decide +kernel
theorem dX9_mayOf_74 : decode cX9_mayOf 74 = .ok (.iload_n 2, 1) := by decide +kernel
theorem dX9_mayOf_75 : decode cX9_mayOf 75 = .ok (.iaload, 1) := by decide +kernel
theorem dX9_mayOf_76 : decode cX9_mayOf 76 = .ok (.iastore, 1) := by decide +kernel
theorem dX9_mayOf_77 : decode cX9_mayOf 77 = .ok (.aload_n 0, 1) := by decide +kernel
theorem dX9_mayOf_78 : decode cX9_mayOf 78 = .ok (.getfield 46, 3) := by decide +kernel
theorem dX9_mayOf_81 : decode cX9_mayOf 81 = .ok (.iconst 4, 1) := by decide +kernel
theorem dX9_mayOf_82 : decode cX9_mayOf 82 = .ok (.aload_n 0, 1) := by decide +kernel
theorem dX9_mayOf_83 : decode cX9_mayOf 83 = .ok (.getfield 19, 3) := by decide +kernel
theorem dX9_mayOf_86 : decode cX9_mayOf 86 = .ok (.iload_n 2, 1) := by decide +kernel
theorem dX9_mayOf_87 : decode cX9_mayOf 87 = .ok (.iaload, 1) := by decide +kernel
theorem dX9_mayOf_88 : decode cX9_mayOf 88 = .ok (.iastore, 1) := by decide +kernel
theorem dX9_mayOf_89 : decode cX9_mayOf 89 = .ok (.aload_n 0, 1) := by decide +kernel
theorem dX9_mayOf_90 : decode cX9_mayOf 90 = .ok (.getfield 46, 3) := by decide +kernel
theorem dX9_mayOf_93 : decode cX9_mayOf 93 = .ok (.iconst 5, 1) := by decide +kernel
theorem dX9_mayOf_94 : decode cX9_mayOf 94 = .ok (.aload_n 1, 1) := by decide +kernel
theorem dX9_mayOf_95 : decode cX9_mayOf 95 = .ok (.bipush 28, 2) := by decide +kernel
theorem dX9_mayOf_97 : decode cX9_mayOf 97 = .ok (.iaload, 1) := by decide +kernel
theorem dX9_mayOf_98 : decode cX9_mayOf 98 = .ok (.bipush 7, 2) := by decide +kernel
theorem dX9_mayOf_100 : decode cX9_mayOf 100 = .ok (.irem, 1) := by decide +kernel
theorem dX9_mayOf_101 : decode cX9_mayOf 101 = .ok (.iastore, 1) := by decide +kernel
theorem dX9_mayOf_102 : decode cX9_mayOf 102 = .ok (.aload_n 0, 1) := by decide +kernel
theorem dX9_mayOf_103 : decode cX9_mayOf 103 = .ok (.getfield 46, 3) := by decide +kernel
theorem dX9_mayOf_106 : decode cX9_mayOf 106 = .ok (.bipush 6, 2) := by decide +kernel
theorem dX9_mayOf_108 : decode cX9_mayOf 108 = .ok (.aload_n 0, 1) := by decide +kernel
theorem dX9_mayOf_109 : decode cX9_mayOf 109 = .ok (.aload_n 1, 1) := by decide +kernel
theorem dX9_mayOf_110 : decode cX9_mayOf 110 = .ok (.invokevirtual 216, 3) := by decide +kernel
theorem dX9_mayOf_113 : decode cX9_mayOf 113 = .ok (.invokestatic 220, 3) := by decide +kernel
theorem dX9_mayOf_116 : decode cX9_mayOf 116 = .ok (.iastore, 1) := by decide +kernel
theorem dX9_mayOf_117 : decode cX9_mayOf 117 = .ok (.aload_n 0, 1) := by decide +kernel
theorem dX9_mayOf_118 : decode cX9_mayOf 118 = .ok (.aload_n 0, 1) := by decide +kernel
theorem dX9_mayOf_119 : decode cX9_mayOf 119 = .ok (.getfield 40, 3) := by decide +kernel
theorem dX9_mayOf_122 : decode cX9_mayOf 122 = .ok (.aload_n 0, 1) := by decide +kernel
theorem dX9_mayOf_123 : decode cX9_mayOf 123 = .ok (.getfield 210, 3) := by decide +kernel
theorem dX9_mayOf_126 : decode cX9_mayOf 126 = .ok (.bipush 40, 2) := by decide +kernel
theorem dX9_mayOf_128 : decode cX9_mayOf 128 = .ok (.invokevirtual 138, 3) := by decide +kernel
theorem dX9_mayOf_131 : decode cX9_mayOf 131 = .ok (.aload_n 0, 1) := by decide +kernel
theorem dX9_mayOf_132 : decode cX9_mayOf 132 = .ok (.iconst 1, 1) := by decide +kernel
theorem dX9_mayOf_133 : decode cX9_mayOf 133 = .ok (.putfield 203, 3) := by decide +kernel
theorem dX9_mayOf_136 : decode cX9_mayOf 136 = .ok (.aload_n 0, 1) := by decide +kernel
theorem dX9_mayOf_137 : decode cX9_mayOf 137 = .ok (.iconst 0, 1) := by decide +kernel
theorem dX9_mayOf_138 : decode cX9_mayOf 138 = .ok (.invokevirtual 190, 3) := by decide +kernel
theorem dX9_mayOf_141 : decode cX9_mayOf 141 = .ok (.istore_n 3, 1) := by decide +kernel
theorem dX9_mayOf_142 : decode cX9_mayOf 142 = .ok (.aload_n 0, 1) := by decide +kernel
theorem dX9_mayOf_143 : decode cX9_mayOf 143 = .ok (.iconst 0, 1) := by decide +kernel
theorem dX9_mayOf_144 : decode cX9_mayOf 144 = .ok (.putfield 203, 3) := by decide +kernel
theorem dX9_mayOf_147 : decode cX9_mayOf 147 = .ok (.iconst 0, 1) := by decide +kernel
theorem dX9_mayOf_148 : decode cX9_mayOf 148 = .ok (.aload_n 0, 1) := by decide +kernel
theorem dX9_mayOf_149 : decode cX9_mayOf 149 = .ok (.getfield 16, 3) := by decide +kernel
theorem dX9_mayOf_152 : decode cX9_mayOf 152 = .ok (.iload_n 2, 1) := by decide +kernel
theorem dX9_mayOf_153 : decode cX9_mayOf 153 = .ok (.iaload, 1) := by decide +kernel
theorem dX9_mayOf_154 : decode cX9_mayOf 154 = .ok (.iload_n 3, 1) := by decide +kernel
theorem dX9_mayOf_155 : decode cX9_mayOf 155 = .ok (.invokestatic 225, 3) := by decide +kernel
theorem dX9_mayOf_158 : decode cX9_mayOf 158 = .ok (.invokestatic 231, 3) := by decide +kernel
theorem dX9_mayOf_161 : decode cX9_mayOf 161 = .ok (.ireturn, 1) := by decide +kernel
theorem dX9_hearer_0 : decode cX9_hearer 0 = .ok (.aload_n 0, 1) := by decide +kernel
theorem dX9_hearer_1 : decode cX9_hearer 1 = .ok (.iconst 0, 1) := by decide +kernel
theorem dX9_hearer_2 : decode cX9_hearer 2 = .ok (.putfield 107, 3) := by decide +kernel
theorem dX9_hearer_5 : decode cX9_hearer 5 = .ok (.aload_n 0, 1) := by decide +kernel
theorem dX9_hearer_6 : decode cX9_hearer 6 = .ok (.iload_n 1, 1) := by decide +kernel
theorem dX9_hearer_7 : decode cX9_hearer 7 = .ok (.invokevirtual 234, 3) := by decide +kernel
theorem dX9_hearer_10 : decode cX9_hearer 10 = .ok (.ifCond .eq 13, 3) := by decide +kernel
theorem dX9_hearer_13 : decode cX9_hearer 13 = .ok (.iload_n 2, 1) := by decide +kernel
theorem dX9_hearer_14 : decode cX9_hearer 14 = .ok (.iconst 0, 1) := by decide +kernel
theorem dX9_hearer_15 : decode cX9_hearer 15 = .ok (.bipush 6, 2) := by decide +kernel
theorem dX9_hearer_17 : decode cX9_hearer 17 = .ok (.invokestatic 116, 3) := by decide +kernel
theorem dX9_hearer_20 : decode cX9_hearer 20 = .ok (.ifCond .ne 8, 3) := by decide +kernel
theorem dX9_hearer_23 : decode cX9_hearer 23 = .ok (.aload_n 0, 1) := by decide +kernel
theorem dX9_hearer_24 : decode cX9_hearer 24 = .ok (.invokevirtual 238, 3) := by decide +kernel
theorem dX9_hearer_27 : decode cX9_hearer 27 = .ok (.ireturn, 1) := by decide +kernel
theorem dX9_hearer_28 : decode cX9_hearer 28 = .ok (.iload_n 2, 1) := by decide +kernel
theorem dX9_hearer_29 : decode cX9_hearer 29 = .ok (.tableswitch 87 0 5 #[39, 46, 53, 60, 67, 77], 39) := by decide +kernel
theorem dX9_hearer_68 : decode cX9_hearer 68 = .ok (.aload_n 0, 1) := by decide +kernel
theorem dX9_hearer_69 : decode cX9_hearer 69 = .ok (.getfield 13, 3) := by decide +kernel
theorem dX9_hearer_72 : decode cX9_hearer 72 = .ok (.iload_n 1, 1) := by decide +kernel
theorem dX9_hearer_73 : decode cX9_hearer 73 = .ok (.iaload, 1) := by decide +kernel
theorem dX9_hearer_74 : decode cX9_hearer 74 = .ok (.ireturn, 1) := by decide +kernel
theorem dX9_hearer_75 : decode cX9_hearer 75 = .ok (.aload_n 0, 1) := by decide +kernel
theorem dX9_hearer_76 : decode cX9_hearer 76 = .ok (.getfield 16, 3) := by decide +kernel
theorem dX9_hearer_79 : decode cX9_hearer 79 = .ok (.iload_n 1, 1) := by decide +kernel
theorem dX9_hearer_80 : decode cX9_hearer 80 = .ok (.iaload, 1) := by decide +kernel
theorem dX9_hearer_81 : decode cX9_hearer 81 = .ok (.ireturn, 1) := by decide +kernel
theorem dX9_hearer_82 : decode cX9_hearer 82 = .ok (.aload_n 0, 1) := by decide +kernel
theorem dX9_hearer_83 : decode cX9_hearer 83 = .ok (.getfield 19, 3) := by decide +kernel
theorem dX9_hearer_86 : decode cX9_hearer 86 = .ok (.iload_n 1, 1) := by decide +kernel
theorem dX9_hearer_87 : decode cX9_hearer 87 = .ok (.iaload, 1) := by decide +kernel
theorem dX9_hearer_88 : decode cX9_hearer 88 = .ok (.ireturn, 1) := by decide +kernel
theorem dX9_hearer_89 : decode cX9_hearer 89 = .ok (.aload_n 0, 1) := by decide +kernel
theorem dX9_hearer_90 : decode cX9_hearer 90 = .ok (.getfield 9, 3) := by decide +kernel
theorem dX9_hearer_93 : decode cX9_hearer 93 = .ok (.iload_n 1, 1) := by decide +kernel
theorem dX9_hearer_94 : decode cX9_hearer 94 = .ok (.iaload, 1) := by decide +kernel
theorem dX9_hearer_95 : decode cX9_hearer 95 = .ok (.ireturn, 1) := by decide +kernel
theorem dX9_hearer_96 : decode cX9_hearer 96 = .ok (.aload_n 0, 1) := by decide +kernel
theorem dX9_hearer_97 : decode cX9_hearer 97 = .ok (.getfield 9, 3) := by decide +kernel
theorem dX9_hearer_100 : decode cX9_hearer 100 = .ok (.bipush 8, 2) := by decide +kernel
theorem dX9_hearer_102 : decode cX9_hearer 102 = .ok (.iload_n 1, 1) := by decide +kernel
theorem dX9_hearer_103 : decode cX9_hearer 103 = .ok (.iadd, 1) := by decide +kernel
theorem dX9_hearer_104 : decode cX9_hearer 104 = .ok (.iaload, 1) := by decide +kernel
theorem dX9_hearer_105 : decode cX9_hearer 105 = .ok (.ireturn, 1) := by decide +kernel
theorem dX9_hearer_106 : decode cX9_hearer 106 = .ok (.aload_n 0, 1) := by decide +kernel
theorem dX9_hearer_107 : decode cX9_hearer 107 = .ok (.getfield 9, 3) := by decide +kernel
theorem dX9_hearer_110 : decode cX9_hearer 110 = .ok (.bipush 16, 2) := by decide +kernel
theorem dX9_hearer_112 : decode cX9_hearer 112 = .ok (.iload_n 1, 1) := by decide +kernel
theorem dX9_hearer_113 : decode cX9_hearer 113 = .ok (.iadd, 1) := by decide +kernel
theorem dX9_hearer_114 : decode cX9_hearer 114 = .ok (.iaload, 1) := by decide +kernel
theorem dX9_hearer_115 : decode cX9_hearer 115 = .ok (.ireturn, 1) := by decide +kernel
theorem dX9_hearer_116 : decode cX9_hearer 116 = .ok (.aload_n 0, 1) := by decide +kernel
theorem dX9_hearer_117 : decode cX9_hearer 117 = .ok (.aload_n 0, 1) := by decide +kernel
theorem dX9_hearer_118 : decode cX9_hearer 118 = .ok (.getfield 9, 3) := by decide +kernel
theorem dX9_hearer_121 : decode cX9_hearer 121 = .ok (.iload_n 1, 1) := by decide +kernel
theorem dX9_hearer_122 : decode cX9_hearer 122 = .ok (.invokevirtual 241, 3) := by decide +kernel
theorem dX9_hearer_125 : decode cX9_hearer 125 = .ok (.ireturn, 1) := by decide +kernel
theorem dX9_worth_0 : decode cX9_worth 0 = .ok (.aload_n 0, 1) := by decide +kernel
theorem dX9_worth_1 : decode cX9_worth 1 = .ok (.iconst 0, 1) := by decide +kernel
theorem dX9_worth_2 : decode cX9_worth 2 = .ok (.putfield 107, 3) := by decide +kernel
theorem dX9_worth_5 : decode cX9_worth 5 = .ok (.iload_n 1, 1) := by decide +kernel
theorem dX9_worth_6 : decode cX9_worth 6 = .ok (.iconst 0, 1) := by decide +kernel
theorem dX9_worth_7 : decode cX9_worth 7 = .ok (.bipush 99, 2) := by decide +kernel
theorem dX9_worth_9 : decode cX9_worth 9 = .ok (.invokestatic 116, 3) := by decide +kernel
theorem dX9_worth_12 : decode cX9_worth 12 = .ok (.ifCond .eq 19, 3) := by decide +kernel
theorem dX9_worth_15 : decode cX9_worth 15 = .ok (.aload_n 0, 1) := by decide +kernel
theorem dX9_worth_16 : decode cX9_worth 16 = .ok (.aload_n 0, 1) := by decide +kernel
theorem dX9_worth_17 : decode cX9_worth 17 = .ok (.getfield 9, 3) := by decide +kernel
theorem dX9_worth_20 : decode cX9_worth 20 = .ok (.bipush 28, 2) := by decide +kernel
theorem dX9_worth_22 : decode cX9_worth 22 = .ok (.iaload, 1) := by decide +kernel
theorem dX9_worth_23 : decode cX9_worth 23 = .ok (.iload_n 1, 1) := by decide +kernel
theorem dX9_worth_24 : decode cX9_worth 24 = .ok (.iadd, 1) := by decide +kernel
theorem dX9_worth_25 : decode cX9_worth 25 = .ok (.invokevirtual 213, 3) := by decide +kernel
theorem dX9_worth_28 : decode cX9_worth 28 = .ok (.goto 4, 3) := by decide +kernel
theorem dX9_worth_31 : decode cX9_worth 31 = .ok (.iconst (-1), 1) := by decide +kernel
theorem dX9_worth_32 : decode cX9_worth 32 = .ok (.ireturn, 1) := by decide +kernel
theorem dX9_heardOfAll_0 : decode cX9_heardOfAll 0 = .ok (.iconst 0, 1) := by decide +kernel
theorem dX9_heardOfAll_1 : decode cX9_heardOfAll 1 = .ok (.istore_n 2, 1) := by decide +kernel
theorem dX9_heardOfAll_2 : decode cX9_heardOfAll 2 = .ok (.iconst 0, 1) := by decide +kernel
theorem dX9_heardOfAll_3 : decode cX9_heardOfAll 3 = .ok (.istore_n 3, 1) := by decide +kernel
theorem dX9_heardOfAll_4 : decode cX9_heardOfAll 4 = .ok (.iload_n 3, 1) := by decide +kernel
theorem dX9_heardOfAll_5 : decode cX9_heardOfAll 5 = .ok (.aload_n 0, 1) := by decide +kernel
theorem dX9_heardOfAll_6 : decode cX9_heardOfAll 6 = .ok (.getfield 113, 3) := by decide +kernel
theorem dX9_heardOfAll_9 : decode cX9_heardOfAll 9 = .ok (.if_icmp .ge 15, 3) := by decide +kernel
theorem dX9_heardOfAll_12 : decode cX9_heardOfAll 12 = .ok (.iload_n 2, 1) := by decide +kernel
theorem dX9_heardOfAll_13 : decode cX9_heardOfAll 13 = .ok (.aload_n 1, 1) := by decide +kernel
theorem dX9_heardOfAll_14 : decode cX9_heardOfAll 14 = .ok (.iload_n 3, 1) := by decide +kernel
theorem dX9_heardOfAll_15 : decode cX9_heardOfAll 15 = .ok (.iaload, 1) := by decide +kernel
theorem dX9_heardOfAll_16 : decode cX9_heardOfAll 16 = .ok (.iadd, 1) := by decide +kernel
theorem dX9_heardOfAll_17 : decode cX9_heardOfAll 17 = .ok (.istore_n 2, 1) := by decide +kernel
theorem dX9_heardOfAll_18 : decode cX9_heardOfAll 18 = .ok (.iinc 3 1, 3) := by decide +kernel
theorem dX9_heardOfAll_21 : decode cX9_heardOfAll 21 = .ok (.goto (-17), 3) := by decide +kernel
theorem dX9_heardOfAll_24 : decode cX9_heardOfAll 24 = .ok (.iload_n 2, 1) := by decide +kernel
theorem dX9_heardOfAll_25 : decode cX9_heardOfAll 25 = .ok (.ireturn, 1) := by decide +kernel
theorem dX9_sheet_0 : decode cX9_sheet 0 = .ok (.aload_n 0, 1) := by decide +kernel
theorem dX9_sheet_1 : decode cX9_sheet 1 = .ok (.iconst 0, 1) := by decide +kernel
theorem dX9_sheet_2 : decode cX9_sheet 2 = .ok (.putfield 107, 3) := by decide +kernel
theorem dX9_sheet_5 : decode cX9_sheet 5 = .ok (.iload_n 1, 1) := by decide +kernel
theorem dX9_sheet_6 : decode cX9_sheet 6 = .ok (.iconst 0, 1) := by decide +kernel
theorem dX9_sheet_7 : decode cX9_sheet 7 = .ok (.iconst 3, 1) := by decide +kernel
theorem dX9_sheet_8 : decode cX9_sheet 8 = .ok (.invokestatic 116, 3) := by decide +kernel
theorem dX9_sheet_11 : decode cX9_sheet 11 = .ok (.ifCond .eq 9, 3) := by decide +kernel
theorem dX9_sheet_14 : decode cX9_sheet 14 = .ok (.iload_n 2, 1) := by decide +kernel
theorem dX9_sheet_15 : decode cX9_sheet 15 = .ok (.bipush 8, 2) := by decide +kernel
theorem dX9_sheet_17 : decode cX9_sheet 17 = .ok (.if_icmp .le 5, 3) := by decide +kernel
theorem dX9_sheet_20 : decode cX9_sheet 20 = .ok (.iconst (-1), 1) := by decide +kernel
theorem dX9_sheet_21 : decode cX9_sheet 21 = .ok (.ireturn, 1) := by decide +kernel
theorem dX9_sheet_22 : decode cX9_sheet 22 = .ok (.iload_n 1, 1) := by decide +kernel
theorem dX9_sheet_23 : decode cX9_sheet 23 = .ok (.iconst 3, 1) := by decide +kernel
theorem dX9_sheet_24 : decode cX9_sheet 24 = .ok (.if_icmp .ge 10, 3) := by decide +kernel
theorem dX9_sheet_27 : decode cX9_sheet 27 = .ok (.iload_n 2, 1) := by decide +kernel
theorem dX9_sheet_28 : decode cX9_sheet 28 = .ok (.ifCond .ge 6, 3) := by decide +kernel
theorem dX9_sheet_31 : decode cX9_sheet 31 = .ok (.bipush (-2), 2) := by decide +kernel
theorem dX9_sheet_33 : decode cX9_sheet 33 = .ok (.ireturn, 1) := by decide +kernel
theorem dX9_sheet_34 : decode cX9_sheet 34 = .ok (.iload_n 3, 1) := by decide +kernel
theorem dX9_sheet_35 : decode cX9_sheet 35 = .ok (.istore 5, 2) := by decide +kernel
theorem dX9_sheet_37 : decode cX9_sheet 37 = .ok (.iconst 0, 1) := by decide +kernel
theorem dX9_sheet_38 : decode cX9_sheet 38 = .ok (.istore 6, 2) := by decide +kernel
theorem dX9_sheet_40 : decode cX9_sheet 40 = .ok (.iload 6, 2) := by decide +kernel
theorem dX9_sheet_42 : decode cX9_sheet 42 = .ok (.aload_n 0, 1) := by decide +kernel
theorem dX9_sheet_43 : decode cX9_sheet 43 = .ok (.getfield 113, 3) := by decide +kernel
theorem dX9_sheet_46 : decode cX9_sheet 46 = .ok (.if_icmp .ge 74, 3) := by decide +kernel
theorem dX9_sheet_49 : decode cX9_sheet 49 = .ok (.iload_n 1, 1) := by decide +kernel
theorem dX9_sheet_50 : decode cX9_sheet 50 = .ok (.ifCond .ne 9, 3) := by decide +kernel
theorem dX9_sheet_53 : decode cX9_sheet 53 = .ok (.iload 5, 2) := by decide +kernel
theorem dX9_sheet_55 : decode cX9_sheet 55 = .ok (.i2b, 1) := by decide +kernel
theorem dX9_sheet_56 : decode cX9_sheet 56 = .ok (.goto 16, 3) := by decide +kernel
theorem dX9_sheet_59 : decode cX9_sheet 59 = .ok (.iload_n 1, 1) := by decide +kernel
theorem dX9_sheet_60 : decode cX9_sheet 60 = .ok (.iconst 1, 1) := by decide +kernel
theorem dX9_sheet_61 : decode cX9_sheet 61 = .ok (.if_icmp .ne 9, 3) := by decide +kernel
theorem dX9_sheet_64 : decode cX9_sheet 64 = .ok (.iload 5, 2) := by decide +kernel
theorem dX9_sheet_66 : decode cX9_sheet 66 = .ok (.i2s, 1) := by decide +kernel
theorem dX9_sheet_67 : decode cX9_sheet 67 = .ok (.goto 5, 3) := by decide +kernel
theorem dX9_sheet_70 : decode cX9_sheet 70 = .ok (.iload 5, 2) := by decide +kernel
theorem dX9_sheet_72 : decode cX9_sheet 72 = .ok (.istore 7, 2) := by decide +kernel
theorem dX9_sheet_74 : decode cX9_sheet 74 = .ok (.aload_n 0, 1) := by decide +kernel
theorem dX9_sheet_75 : decode cX9_sheet 75 = .ok (.getfield 9, 3) := by decide +kernel
theorem dX9_sheet_78 : decode cX9_sheet 78 = .ok (.iload 6, 2) := by decide +kernel
theorem dX9_sheet_80 : decode cX9_sheet 80 = .ok (.iload_n 1, 1) := by decide +kernel
theorem dX9_sheet_81 : decode cX9_sheet 81 = .ok (.iconst 3, 1) := by decide +kernel
theorem dX9_sheet_82 : decode cX9_sheet 82 = .ok (.if_icmp .eq 9, 3) := by decide +kernel
theorem dX9_sheet_85 : decode cX9_sheet 85 = .ok (.iload 6, 2) := by decide +kernel
theorem dX9_sheet_87 : decode cX9_sheet 87 = .ok (.iload_n 2, 1) := by decide +kernel
theorem dX9_sheet_88 : decode cX9_sheet 88 = .ok (.if_icmp .lt 7, 3) := by decide +kernel
theorem dX9_sheet_91 : decode cX9_sheet 91 = .ok (.iconst 0, 1) := by decide +kernel
theorem dX9_sheet_92 : decode cX9_sheet 92 = .ok (.goto 14, 3) := by decide +kernel
theorem dX9_sheet_95 : decode cX9_sheet 95 = .ok (.iconst 0, 1) := by decide +kernel
theorem dX9_sheet_96 : decode cX9_sheet 96 = .ok (.bipush 99, 2) := by decide +kernel
theorem dX9_sheet_98 : decode cX9_sheet 98 = .ok (.iload 7, 2) := by decide +kernel
theorem dX9_sheet_100 : decode cX9_sheet 100 = .ok (.invokestatic 225, 3) := by decide +kernel
theorem dX9_sheet_103 : decode cX9_sheet 103 = .ok (.invokestatic 231, 3) := by decide +kernel
theorem dX9_sheet_106 : decode cX9_sheet 106 = .ok (.iastore, 1) := by decide +kernel
theorem dX9_sheet_107 : decode cX9_sheet 107 = .ok (.iload 5, 2) := by decide +kernel
theorem dX9_sheet_109 : decode cX9_sheet 109 = .ok (.iload 4, 2) := by decide +kernel
theorem dX9_sheet_111 : decode cX9_sheet 111 = .ok (.iadd, 1) := by decide +kernel
theorem dX9_sheet_112 : decode cX9_sheet 112 = .ok (.istore 5, 2) := by decide +kernel
theorem dX9_sheet_114 : decode cX9_sheet 114 = .ok (.iinc 6 1, 3) := by decide +kernel
theorem dX9_sheet_117 : decode cX9_sheet 117 = .ok (.goto (-77), 3) := by decide +kernel
theorem dX9_sheet_120 : decode cX9_sheet 120 = .ok (.iload_n 1, 1) := by decide +kernel
theorem dX9_sheet_121 : decode cX9_sheet 121 = .ok (.iconst 3, 1) := by decide +kernel
theorem dX9_sheet_122 : decode cX9_sheet 122 = .ok (.if_icmp .ne 8, 3) := by decide +kernel
theorem dX9_sheet_125 : decode cX9_sheet 125 = .ok (.bipush (-3), 2) := by decide +kernel
theorem dX9_sheet_127 : decode cX9_sheet 127 = .ok (.goto 11, 3) := by decide +kernel
theorem dX9_sheet_130 : decode cX9_sheet 130 = .ok (.aload_n 0, 1) := by decide +kernel
theorem dX9_sheet_131 : decode cX9_sheet 131 = .ok (.aload_n 0, 1) := by decide +kernel
theorem dX9_sheet_132 : decode cX9_sheet 132 = .ok (.getfield 9, 3) := by decide +kernel
theorem dX9_sheet_135 : decode cX9_sheet 135 = .ok (.invokevirtual 245, 3) := by decide +kernel
theorem dX9_sheet_138 : decode cX9_sheet 138 = .ok (.ireturn, 1) := by decide +kernel
theorem dX9_lay_0 : decode cX9_lay 0 = .ok (.iconst 0, 1) := by decide +kernel
theorem dX9_lay_1 : decode cX9_lay 1 = .ok (.istore_n 3, 1) := by decide +kernel
theorem dX9_lay_2 : decode cX9_lay 2 = .ok (.iload_n 3, 1) := by decide +kernel
theorem dX9_lay_3 : decode cX9_lay 3 = .ok (.bipush 29, 2) := by decide +kernel
theorem dX9_lay_5 : decode cX9_lay 5 = .ok (.if_icmp .ge 17, 3) := by decide +kernel
theorem dX9_lay_8 : decode cX9_lay 8 = .ok (.aload_n 1, 1) := by decide +kernel
theorem dX9_lay_9 : decode cX9_lay 9 = .ok (.iload_n 2, 1) := by decide +kernel
theorem dX9_lay_10 : decode cX9_lay 10 = .ok (.iload_n 3, 1) := by decide +kernel
theorem dX9_lay_11 : decode cX9_lay 11 = .ok (.iadd, 1) := by decide +kernel
theorem dX9_lay_12 : decode cX9_lay 12 = .ok (.aload_n 0, 1) := by decide +kernel
theorem dX9_lay_13 : decode cX9_lay 13 = .ok (.iload_n 3, 1) := by decide +kernel
theorem dX9_lay_14 : decode cX9_lay 14 = .ok (.iaload, 1) := by decide +kernel
theorem dX9_lay_15 : decode cX9_lay 15 = .ok (.iastore, 1) := by decide +kernel
theorem dX9_lay_16 : decode cX9_lay 16 = .ok (.iinc 3 1, 3) := by decide +kernel
theorem dX9_lay_19 : decode cX9_lay 19 = .ok (.goto (-17), 3) := by decide +kernel
theorem dX9_lay_22 : decode cX9_lay 22 = .ok (.return_, 1) := by decide +kernel
theorem dX9_remember_0 : decode cX9_remember 0 = .ok (.aload_n 0, 1) := by decide +kernel
theorem dX9_remember_1 : decode cX9_remember 1 = .ok (.getfield 175, 3) := by decide +kernel
theorem dX9_remember_4 : decode cX9_remember 4 = .ok (.bipush 12, 2) := by decide +kernel
theorem dX9_remember_6 : decode cX9_remember 6 = .ok (.if_icmp .ne 43, 3) := by decide +kernel
theorem dX9_remember_9 : decode cX9_remember 9 = .ok (.iconst 0, 1) := by decide +kernel
theorem dX9_remember_10 : decode cX9_remember 10 = .ok (.istore_n 2, 1) := by decide +kernel
theorem dX9_remember_11 : decode cX9_remember 11 = .ok (.iload_n 2, 1) := by decide +kernel
theorem dX9_remember_12 : decode cX9_remember 12 = .ok (.sipush 319, 3) := by decide +kernel
theorem dX9_remember_15 : decode cX9_remember 15 = .ok (.if_icmp .ge 24, 3) := by decide +kernel
theorem dX9_remember_18 : decode cX9_remember 18 = .ok (.aload_n 0, 1) := by decide +kernel
theorem dX9_remember_19 : decode cX9_remember 19 = .ok (.getfield 49, 3) := by decide +kernel
theorem dX9_remember_22 : decode cX9_remember 22 = .ok (.iload_n 2, 1) := by decide +kernel
theorem dX9_remember_23 : decode cX9_remember 23 = .ok (.aload_n 0, 1) := by decide +kernel
theorem dX9_remember_24 : decode cX9_remember 24 = .ok (.getfield 49, 3) := by decide +kernel
theorem dX9_remember_27 : decode cX9_remember 27 = .ok (.iload_n 2, 1) := by decide +kernel
theorem dX9_remember_28 : decode cX9_remember 28 = .ok (.bipush 29, 2) := by decide +kernel
theorem dX9_remember_30 : decode cX9_remember 30 = .ok (.iadd, 1) := by decide +kernel
theorem dX9_remember_31 : decode cX9_remember 31 = .ok (.iaload, 1) := by decide +kernel
theorem dX9_remember_32 : decode cX9_remember 32 = .ok (.iastore, 1) := by decide +kernel
theorem dX9_remember_33 : decode cX9_remember 33 = .ok (.iinc 2 1, 3) := by decide +kernel
theorem dX9_remember_36 : decode cX9_remember 36 = .ok (.goto (-25), 3) := by decide +kernel
theorem dX9_remember_39 : decode cX9_remember 39 = .ok (.aload_n 0, 1) := by decide +kernel
theorem dX9_remember_40 : decode cX9_remember 40 = .ok (.dup, 1) := by decide +kernel
theorem dX9_remember_41 : decode cX9_remember 41 = .ok (.getfield 175, 3) := by decide +kernel
theorem dX9_remember_44 : decode cX9_remember 44 = .ok (.iconst 1, 1) := by decide +kernel
theorem dX9_remember_45 : decode cX9_remember 45 = .ok (.isub, 1) := by decide +kernel
theorem dX9_remember_46 : decode cX9_remember 46 = .ok (.putfield 175, 3) := by decide +kernel
theorem dX9_remember_49 : decode cX9_remember 49 = .ok (.aload_n 1, 1) := by decide +kernel
theorem dX9_remember_50 : decode cX9_remember 50 = .ok (.aload_n 0, 1) := by decide +kernel
theorem dX9_remember_51 : decode cX9_remember 51 = .ok (.getfield 49, 3) := by decide +kernel
theorem dX9_remember_54 : decode cX9_remember 54 = .ok (.bipush 29, 2) := by decide +kernel
theorem dX9_remember_56 : decode cX9_remember 56 = .ok (.aload_n 0, 1) := by decide +kernel
theorem dX9_remember_57 : decode cX9_remember 57 = .ok (.getfield 175, 3) := by decide +kernel
theorem dX9_remember_60 : decode cX9_remember 60 = .ok (.imul, 1) := by decide +kernel
theorem dX9_remember_61 : decode cX9_remember 61 = .ok (.invokestatic 248, 3) := by decide +kernel
theorem dX9_remember_64 : decode cX9_remember 64 = .ok (.aload_n 0, 1) := by decide +kernel
theorem dX9_remember_65 : decode cX9_remember 65 = .ok (.dup, 1) := by decide +kernel
theorem dX9_remember_66 : decode cX9_remember 66 = .ok (.getfield 175, 3) := by decide +kernel
theorem dX9_remember_69 : decode cX9_remember 69 = .ok (.iconst 1, 1) := by decide +kernel
theorem dX9_remember_70 : decode cX9_remember 70 = .ok (.iadd, 1) := by decide +kernel
theorem dX9_remember_71 : decode cX9_remember 71 = .ok (.putfield 175, 3) := by decide +kernel
theorem dX9_remember_74 : decode cX9_remember 74 = .ok (.return_, 1) := by decide +kernel
theorem dX9_full_0 : decode cX9_full 0 = .ok (.iconst 0, 1) := by decide +kernel
theorem dX9_full_1 : decode cX9_full 1 = .ok (.sipush 9999, 3) := by decide +kernel
theorem dX9_full_4 : decode cX9_full 4 = .ok (.iload_n 0, 1) := by decide +kernel
theorem dX9_full_5 : decode cX9_full 5 = .ok (.invokestatic 225, 3) := by decide +kernel
theorem dX9_full_8 : decode cX9_full 8 = .ok (.invokestatic 231, 3) := by decide +kernel
theorem dX9_full_11 : decode cX9_full 11 = .ok (.ireturn, 1) := by decide +kernel
theorem dX9_part_0 : decode cX9_part 0 = .ok (.iconst 0, 1) := by decide +kernel
theorem dX9_part_1 : decode cX9_part 1 = .ok (.istore_n 2, 1) := by decide +kernel
theorem dX9_part_2 : decode cX9_part 2 = .ok (.iload_n 2, 1) := by decide +kernel
theorem dX9_part_3 : decode cX9_part 3 = .ok (.aload_n 0, 1) := by decide +kernel
theorem dX9_part_4 : decode cX9_part 4 = .ok (.getfield 113, 3) := by decide +kernel
theorem dX9_part_7 : decode cX9_part 7 = .ok (.if_icmp .ge 21, 3) := by decide +kernel
theorem dX9_part_10 : decode cX9_part 10 = .ok (.aload_n 0, 1) := by decide +kernel
theorem dX9_part_11 : decode cX9_part 11 = .ok (.getfield 61, 3) := by decide +kernel
theorem dX9_part_14 : decode cX9_part 14 = .ok (.iload_n 2, 1) := by decide +kernel
theorem dX9_part_15 : decode cX9_part 15 = .ok (.aload_n 0, 1) := by decide +kernel
theorem dX9_part_16 : decode cX9_part 16 = .ok (.aload_n 1, 1) := by decide +kernel
theorem dX9_part_17 : decode cX9_part 17 = .ok (.iload_n 2, 1) := by decide +kernel
theorem dX9_part_18 : decode cX9_part 18 = .ok (.invokevirtual 241, 3) := by decide +kernel
theorem dX9_part_21 : decode cX9_part 21 = .ok (.iastore, 1) := by decide +kernel
theorem dX9_part_22 : decode cX9_part 22 = .ok (.iinc 2 1, 3) := by decide +kernel
theorem dX9_part_25 : decode cX9_part 25 = .ok (.goto (-23), 3) := by decide +kernel
theorem dX9_part_28 : decode cX9_part 28 = .ok (.aload_n 0, 1) := by decide +kernel
theorem dX9_part_29 : decode cX9_part 29 = .ok (.aload_n 0, 1) := by decide +kernel
theorem dX9_part_30 : decode cX9_part 30 = .ok (.aload_n 1, 1) := by decide +kernel
theorem dX9_part_31 : decode cX9_part 31 = .ok (.bipush 28, 2) := by decide +kernel
theorem dX9_part_33 : decode cX9_part 33 = .ok (.iaload, 1) := by decide +kernel
theorem dX9_part_34 : decode cX9_part 34 = .ok (.invokevirtual 213, 3) := by decide +kernel
theorem dX9_part_37 : decode cX9_part 37 = .ok (.putfield 252, 3) := by decide +kernel
theorem dX9_part_40 : decode cX9_part 40 = .ok (.aload_n 0, 1) := by decide +kernel
theorem dX9_part_41 : decode cX9_part 41 = .ok (.iconst 0, 1) := by decide +kernel
theorem dX9_part_42 : decode cX9_part 42 = .ok (.putfield 255, 3) := by decide +kernel
theorem dX9_part_45 : decode cX9_part 45 = .ok (.iconst 0, 1) := by decide +kernel
theorem dX9_part_46 : decode cX9_part 46 = .ok (.istore_n 2, 1) := by decide +kernel
theorem dX9_part_47 : decode cX9_part 47 = .ok (.iload_n 2, 1) := by decide +kernel
theorem dX9_part_48 : decode cX9_part 48 = .ok (.aload_n 0, 1) := by decide +kernel
theorem dX9_part_49 : decode cX9_part 49 = .ok (.getfield 113, 3) := by decide +kernel
theorem dX9_part_52 : decode cX9_part 52 = .ok (.if_icmp .ge 79, 3) := by decide +kernel
theorem dX9_part_55 : decode cX9_part 55 = .ok (.aload_n 0, 1) := by decide +kernel
theorem dX9_part_56 : decode cX9_part 56 = .ok (.getfield 64, 3) := by decide +kernel
theorem dX9_part_59 : decode cX9_part 59 = .ok (.iload_n 2, 1) := by decide +kernel
theorem dX9_part_60 : decode cX9_part 60 = .ok (.aload_n 1, 1) := by decide +kernel
theorem dX9_part_61 : decode cX9_part 61 = .ok (.bipush 16, 2) := by decide +kernel
theorem dX9_part_63 : decode cX9_part 63 = .ok (.iload_n 2, 1) := by decide +kernel
theorem dX9_part_64 : decode cX9_part 64 = .ok (.iadd, 1) := by decide +kernel
theorem dX9_part_65 : decode cX9_part 65 = .ok (.iaload, 1) := by decide +kernel
theorem dX9_part_66 : decode cX9_part 66 = .ok (.iconst 1, 1) := by decide +kernel
theorem dX9_part_67 : decode cX9_part 67 = .ok (.if_icmp .ne 19, 3) := by decide +kernel
theorem dX9_part_70 : decode cX9_part 70 = .ok (.aload_n 0, 1) := by decide +kernel
theorem dX9_part_71 : decode cX9_part 71 = .ok (.getfield 61, 3) := by decide +kernel
theorem dX9_part_74 : decode cX9_part 74 = .ok (.iload_n 2, 1) := by decide +kernel
theorem dX9_part_75 : decode cX9_part 75 = .ok (.iaload, 1) := by decide +kernel
theorem dX9_part_76 : decode cX9_part 76 = .ok (.aload_n 0, 1) := by decide +kernel
theorem dX9_part_77 : decode cX9_part 77 = .ok (.getfield 252, 3) := by decide +kernel
theorem dX9_part_80 : decode cX9_part 80 = .ok (.invokestatic 225, 3) := by decide +kernel
theorem dX9_part_83 : decode cX9_part 83 = .ok (.goto 4, 3) := by decide +kernel
theorem dX9_part_86 : decode cX9_part 86 = .ok (.iconst 0, 1) := by decide +kernel
theorem dX9_part_87 : decode cX9_part 87 = .ok (.iastore, 1) := by decide +kernel
theorem dX9_part_88 : decode cX9_part 88 = .ok (.aload_n 0, 1) := by decide +kernel
theorem dX9_part_89 : decode cX9_part 89 = .ok (.dup, 1) := by decide +kernel
theorem dX9_part_90 : decode cX9_part 90 = .ok (.getfield 252, 3) := by decide +kernel
theorem dX9_part_93 : decode cX9_part 93 = .ok (.aload_n 0, 1) := by decide +kernel
theorem dX9_part_94 : decode cX9_part 94 = .ok (.getfield 64, 3) := by decide +kernel
theorem dX9_part_97 : decode cX9_part 97 = .ok (.iload_n 2, 1) := by decide +kernel
theorem dX9_part_98 : decode cX9_part 98 = .ok (.iaload, 1) := by decide +kernel
theorem dX9_part_99 : decode cX9_part 99 = .ok (.isub, 1) := by decide +kernel
theorem dX9_part_100 : decode cX9_part 100 = .ok (.putfield 252, 3) := by decide +kernel
theorem dX9_part_103 : decode cX9_part 103 = .ok (.aload_n 0, 1) := by decide +kernel
theorem dX9_part_104 : decode cX9_part 104 = .ok (.dup, 1) := by decide +kernel
theorem dX9_part_105 : decode cX9_part 105 = .ok (.getfield 255, 3) := by decide +kernel
theorem dX9_part_108 : decode cX9_part 108 = .ok (.aload_n 0, 1) := by decide +kernel
theorem dX9_part_109 : decode cX9_part 109 = .ok (.getfield 19, 3) := by decide +kernel
theorem dX9_part_112 : decode cX9_part 112 = .ok (.iload_n 2, 1) := by decide +kernel
theorem dX9_part_113 : decode cX9_part 113 = .ok (.iaload, 1) := by decide +kernel
theorem dX9_part_114 : decode cX9_part 114 = .ok (.aload_n 0, 1) := by decide +kernel
theorem dX9_part_115 : decode cX9_part 115 = .ok (.getfield 64, 3) := by decide +kernel
theorem dX9_part_118 : decode cX9_part 118 = .ok (.iload_n 2, 1) := by decide +kernel
theorem dX9_part_119 : decode cX9_part 119 = .ok (.iaload, 1) := by decide +kernel
theorem dX9_part_120 : decode cX9_part 120 = .ok (.imul, 1) := by decide +kernel
theorem dX9_part_121 : decode cX9_part 121 = .ok (.iadd, 1) := by decide +kernel
theorem dX9_part_122 : decode cX9_part 122 = .ok (.putfield 255, 3) := by decide +kernel
theorem dX9_part_125 : decode cX9_part 125 = .ok (.iinc 2 1, 3) := by decide +kernel
theorem dX9_part_128 : decode cX9_part 128 = .ok (.goto (-81), 3) := by decide +kernel
theorem dX9_part_131 : decode cX9_part 131 = .ok (.return_, 1) := by decide +kernel
theorem dX9_goNight_0 : decode cX9_goNight 0 = .ok (.aload_n 0, 1) := by decide +kernel
theorem dX9_goNight_1 : decode cX9_goNight 1 = .ok (.aload_n 1, 1) := by decide +kernel
theorem dX9_goNight_2 : decode cX9_goNight 2 = .ok (.invokevirtual 258, 3) := by decide +kernel
theorem dX9_goNight_5 : decode cX9_goNight 5 = .ok (.iconst 0, 1) := by decide +kernel
theorem dX9_goNight_6 : decode cX9_goNight 6 = .ok (.istore_n 2, 1) := by decide +kernel
theorem dX9_goNight_7 : decode cX9_goNight 7 = .ok (.iload_n 2, 1) := by decide +kernel
theorem dX9_goNight_8 : decode cX9_goNight 8 = .ok (.aload_n 0, 1) := by decide +kernel
theorem dX9_goNight_9 : decode cX9_goNight 9 = .ok (.getfield 113, 3) := by decide +kernel
theorem dX9_goNight_12 : decode cX9_goNight 12 = .ok (.if_icmp .ge 27, 3) := by decide +kernel
theorem dX9_goNight_15 : decode cX9_goNight 15 = .ok (.aload_n 1, 1) := by decide +kernel
theorem dX9_goNight_16 : decode cX9_goNight 16 = .ok (.iload_n 2, 1) := by decide +kernel
theorem dX9_goNight_17 : decode cX9_goNight 17 = .ok (.bipush 99, 2) := by decide +kernel
theorem dX9_goNight_19 : decode cX9_goNight 19 = .ok (.aload_n 1, 1) := by decide +kernel
theorem dX9_goNight_20 : decode cX9_goNight 20 = .ok (.iload_n 2, 1) := by decide +kernel
theorem dX9_goNight_21 : decode cX9_goNight 21 = .ok (.iaload, 1) := by decide +kernel
theorem dX9_goNight_22 : decode cX9_goNight 22 = .ok (.aload_n 0, 1) := by decide +kernel
theorem dX9_goNight_23 : decode cX9_goNight 23 = .ok (.getfield 64, 3) := by decide +kernel
theorem dX9_goNight_26 : decode cX9_goNight 26 = .ok (.iload_n 2, 1) := by decide +kernel
theorem dX9_goNight_27 : decode cX9_goNight 27 = .ok (.iaload, 1) := by decide +kernel
theorem dX9_goNight_28 : decode cX9_goNight 28 = .ok (.iadd, 1) := by decide +kernel
theorem dX9_goNight_29 : decode cX9_goNight 29 = .ok (.invokestatic 225, 3) := by decide +kernel
theorem dX9_goNight_32 : decode cX9_goNight 32 = .ok (.iastore, 1) := by decide +kernel
theorem dX9_goNight_33 : decode cX9_goNight 33 = .ok (.iinc 2 1, 3) := by decide +kernel
theorem dX9_goNight_36 : decode cX9_goNight 36 = .ok (.goto (-29), 3) := by decide +kernel
theorem dX9_goNight_39 : decode cX9_goNight 39 = .ok (.aload_n 1, 1) := by decide +kernel
theorem dX9_goNight_40 : decode cX9_goNight 40 = .ok (.bipush 25, 2) := by decide +kernel
theorem dX9_goNight_42 : decode cX9_goNight 42 = .ok (.aload_n 1, 1) := by decide +kernel
theorem dX9_goNight_43 : decode cX9_goNight 43 = .ok (.bipush 25, 2) := by decide +kernel
theorem dX9_goNight_45 : decode cX9_goNight 45 = .ok (.iaload, 1) := by decide +kernel
theorem dX9_goNight_46 : decode cX9_goNight 46 = .ok (.aload_n 0, 1) := by decide +kernel
theorem dX9_goNight_47 : decode cX9_goNight 47 = .ok (.getfield 255, 3) := by decide +kernel
theorem dX9_goNight_50 : decode cX9_goNight 50 = .ok (.iadd, 1) := by decide +kernel
theorem dX9_goNight_51 : decode cX9_goNight 51 = .ok (.invokestatic 262, 3) := by decide +kernel
theorem dX9_goNight_54 : decode cX9_goNight 54 = .ok (.iastore, 1) := by decide +kernel
theorem dX9_goNight_55 : decode cX9_goNight 55 = .ok (.aload_n 1, 1) := by decide +kernel
theorem dX9_goNight_56 : decode cX9_goNight 56 = .ok (.bipush 24, 2) := by decide +kernel
theorem dX9_goNight_58 : decode cX9_goNight 58 = .ok (.aload_n 1, 1) := by decide +kernel
theorem dX9_goNight_59 : decode cX9_goNight 59 = .ok (.bipush 24, 2) := by decide +kernel
theorem dX9_goNight_61 : decode cX9_goNight 61 = .ok (.iaload, 1) := by decide +kernel
theorem dX9_goNight_62 : decode cX9_goNight 62 = .ok (.aload_n 0, 1) := by decide +kernel
theorem dX9_goNight_63 : decode cX9_goNight 63 = .ok (.getfield 252, 3) := by decide +kernel
theorem dX9_goNight_66 : decode cX9_goNight 66 = .ok (.iadd, 1) := by decide +kernel
theorem dX9_goNight_67 : decode cX9_goNight 67 = .ok (.invokestatic 262, 3) := by decide +kernel
theorem dX9_goNight_70 : decode cX9_goNight 70 = .ok (.iastore, 1) := by decide +kernel
theorem dX9_goNight_71 : decode cX9_goNight 71 = .ok (.aload_n 1, 1) := by decide +kernel
theorem dX9_goNight_72 : decode cX9_goNight 72 = .ok (.bipush 28, 2) := by decide +kernel
theorem dX9_goNight_74 : decode cX9_goNight 74 = .ok (.iaload, 1) := by decide +kernel
theorem dX9_goNight_75 : decode cX9_goNight 75 = .ok (.bipush 7, 2) := by decide +kernel
theorem dX9_goNight_77 : decode cX9_goNight 77 = .ok (.irem, 1) := by decide +kernel
theorem dX9_goNight_78 : decode cX9_goNight 78 = .ok (.bipush 6, 2) := by decide +kernel
theorem dX9_goNight_80 : decode cX9_goNight 80 = .ok (.if_icmp .ne 27, 3) := by decide +kernel
theorem dX9_goNight_83 : decode cX9_goNight 83 = .ok (.aload_n 1, 1) := by decide +kernel
theorem dX9_goNight_84 : decode cX9_goNight 84 = .ok (.bipush 26, 2) := by decide +kernel
theorem dX9_goNight_86 : decode cX9_goNight 86 = .ok (.aload_n 1, 1) := by decide +kernel
theorem dX9_goNight_87 : decode cX9_goNight 87 = .ok (.bipush 26, 2) := by decide +kernel
theorem dX9_goNight_89 : decode cX9_goNight 89 = .ok (.iaload, 1) := by decide +kernel
theorem dX9_goNight_90 : decode cX9_goNight 90 = .ok (.aload_n 1, 1) := by decide +kernel
theorem dX9_goNight_91 : decode cX9_goNight 91 = .ok (.bipush 26, 2) := by decide +kernel
theorem dX9_goNight_93 : decode cX9_goNight 93 = .ok (.iaload, 1) := by decide +kernel
theorem dX9_goNight_94 : decode cX9_goNight 94 = .ok (.aload_n 1, 1) := by decide +kernel
theorem dX9_goNight_95 : decode cX9_goNight 95 = .ok (.bipush 27, 2) := by decide +kernel
theorem dX9_goNight_97 : decode cX9_goNight 97 = .ok (.iaload, 1) := by decide +kernel
theorem dX9_goNight_98 : decode cX9_goNight 98 = .ok (.imul, 1) := by decide +kernel
theorem dX9_goNight_99 : decode cX9_goNight 99 = .ok (.bipush 10, 2) := by decide +kernel
theorem dX9_goNight_101 : decode cX9_goNight 101 = .ok (.idiv, 1) := by decide +kernel
theorem dX9_goNight_102 : decode cX9_goNight 102 = .ok (.iadd, 1) := by decide +kernel
theorem dX9_goNight_103 : decode cX9_goNight 103 = .ok (.invokestatic 262, 3) := by decide +kernel
theorem dX9_goNight_106 : decode cX9_goNight 106 = .ok (.iastore, 1) := by decide +kernel
theorem dX9_goNight_107 : decode cX9_goNight 107 = .ok (.aload_n 1, 1) := by decide +kernel
theorem dX9_goNight_108 : decode cX9_goNight 108 = .ok (.bipush 28, 2) := by decide +kernel
theorem dX9_goNight_110 : decode cX9_goNight 110 = .ok (.dup2, 1) := by decide +kernel
theorem dX9_goNight_111 : decode cX9_goNight 111 = .ok (.iaload, 1) := by decide +kernel
theorem dX9_goNight_112 : decode cX9_goNight 112 = .ok (.iconst 1, 1) := by decide +kernel
theorem dX9_goNight_113 : decode cX9_goNight 113 = .ok (.iadd, 1) := by decide +kernel
theorem dX9_goNight_114 : decode cX9_goNight 114 = .ok (.iastore, 1) := by decide +kernel
theorem dX9_goNight_115 : decode cX9_goNight 115 = .ok (.return_, 1) := by decide +kernel
theorem dX9_goNights_0 : decode cX9_goNights 0 = .ok (.iconst 0, 1) := by decide +kernel
theorem dX9_goNights_1 : decode cX9_goNights 1 = .ok (.istore_n 3, 1) := by decide +kernel
theorem dX9_goNights_2 : decode cX9_goNights 2 = .ok (.iload_n 3, 1) := by decide +kernel
theorem dX9_goNights_3 : decode cX9_goNights 3 = .ok (.iload_n 2, 1) := by decide +kernel
theorem dX9_goNights_4 : decode cX9_goNights 4 = .ok (.if_icmp .ge 14, 3) := by decide +kernel
theorem dX9_goNights_7 : decode cX9_goNights 7 = .ok (.aload_n 0, 1) := by decide +kernel
theorem dX9_goNights_8 : decode cX9_goNights 8 = .ok (.aload_n 1, 1) := by decide +kernel
theorem dX9_goNights_9 : decode cX9_goNights 9 = .ok (.invokevirtual 265, 3) := by decide +kernel
theorem dX9_goNights_12 : decode cX9_goNights 12 = .ok (.iinc 3 1, 3) := by decide +kernel
theorem dX9_goNights_15 : decode cX9_goNights 15 = .ok (.goto (-13), 3) := by decide +kernel
theorem dX9_goNights_18 : decode cX9_goNights 18 = .ok (.return_, 1) := by decide +kernel
theorem dX9_nights_0 : decode cX9_nights 0 = .ok (.aload_n 0, 1) := by decide +kernel
theorem dX9_nights_1 : decode cX9_nights 1 = .ok (.iconst 0, 1) := by decide +kernel
theorem dX9_nights_2 : decode cX9_nights 2 = .ok (.putfield 107, 3) := by decide +kernel
theorem dX9_nights_5 : decode cX9_nights 5 = .ok (.iload_n 1, 1) := by decide +kernel
theorem dX9_nights_6 : decode cX9_nights 6 = .ok (.iconst 0, 1) := by decide +kernel
theorem dX9_nights_7 : decode cX9_nights 7 = .ok (.bipush 60, 2) := by decide +kernel
theorem dX9_nights_9 : decode cX9_nights 9 = .ok (.invokestatic 116, 3) := by decide +kernel
theorem dX9_nights_12 : decode cX9_nights 12 = .ok (.ifCond .ne 5, 3) := by decide +kernel
theorem dX9_nights_15 : decode cX9_nights 15 = .ok (.iconst (-1), 1) := by decide +kernel
theorem dX9_nights_16 : decode cX9_nights 16 = .ok (.ireturn, 1) := by decide +kernel
theorem dX9_nights_17 : decode cX9_nights 17 = .ok (.iload_n 1, 1) := by decide +kernel
theorem dX9_nights_18 : decode cX9_nights 18 = .ok (.ifCond .le 11, 3) := by decide +kernel
theorem dX9_nights_21 : decode cX9_nights 21 = .ok (.aload_n 0, 1) := by decide +kernel
theorem dX9_nights_22 : decode cX9_nights 22 = .ok (.aload_n 0, 1) := by decide +kernel
theorem dX9_nights_23 : decode cX9_nights 23 = .ok (.getfield 9, 3) := by decide +kernel
theorem dX9_nights_26 : decode cX9_nights 26 = .ok (.invokevirtual 268, 3) := by decide +kernel
theorem dX9_nights_29 : decode cX9_nights 29 = .ok (.aload_n 0, 1) := by decide +kernel
theorem dX9_nights_30 : decode cX9_nights 30 = .ok (.getfield 9, 3) := by decide +kernel
theorem dX9_nights_33 : decode cX9_nights 33 = .ok (.bipush 25, 2) := by decide +kernel
theorem dX9_nights_35 : decode cX9_nights 35 = .ok (.iaload, 1) := by decide +kernel
theorem dX9_nights_36 : decode cX9_nights 36 = .ok (.istore_n 2, 1) := by decide +kernel
theorem dX9_nights_37 : decode cX9_nights 37 = .ok (.aload_n 0, 1) := by decide +kernel
theorem dX9_nights_38 : decode cX9_nights 38 = .ok (.aload_n 0, 1) := by decide +kernel
theorem dX9_nights_39 : decode cX9_nights 39 = .ok (.getfield 9, 3) := by decide +kernel
theorem dX9_nights_42 : decode cX9_nights 42 = .ok (.iload_n 1, 1) := by decide +kernel
theorem dX9_nights_43 : decode cX9_nights 43 = .ok (.invokevirtual 271, 3) := by decide +kernel
theorem dX9_nights_46 : decode cX9_nights 46 = .ok (.aload_n 0, 1) := by decide +kernel
theorem dX9_nights_47 : decode cX9_nights 47 = .ok (.iconst 0, 1) := by decide +kernel
theorem dX9_nights_48 : decode cX9_nights 48 = .ok (.putfield 110, 3) := by decide +kernel
theorem dX9_nights_51 : decode cX9_nights 51 = .ok (.aload_n 0, 1) := by decide +kernel
theorem dX9_nights_52 : decode cX9_nights 52 = .ok (.aload_n 0, 1) := by decide +kernel
theorem dX9_nights_53 : decode cX9_nights 53 = .ok (.getfield 9, 3) := by decide +kernel
theorem dX9_nights_56 : decode cX9_nights 56 = .ok (.bipush 25, 2) := by decide +kernel
theorem dX9_nights_58 : decode cX9_nights 58 = .ok (.iaload, 1) := by decide +kernel
theorem dX9_nights_59 : decode cX9_nights 59 = .ok (.iload_n 2, 1) := by decide +kernel
theorem dX9_nights_60 : decode cX9_nights 60 = .ok (.isub, 1) := by decide +kernel
theorem dX9_nights_61 : decode cX9_nights 61 = .ok (.i2l, 1) := by decide +kernel
theorem dX9_nights_62 : decode cX9_nights 62 = .ok (.invokevirtual 275, 3) := by decide +kernel
theorem dX9_nights_65 : decode cX9_nights 65 = .ok (.aload_n 0, 1) := by decide +kernel
theorem dX9_nights_66 : decode cX9_nights 66 = .ok (.aload_n 0, 1) := by decide +kernel
theorem dX9_nights_67 : decode cX9_nights 67 = .ok (.getfield 9, 3) := by decide +kernel
theorem dX9_nights_70 : decode cX9_nights 70 = .ok (.bipush 26, 2) := by decide +kernel
theorem dX9_nights_72 : decode cX9_nights 72 = .ok (.iaload, 1) := by decide +kernel
theorem dX9_nights_73 : decode cX9_nights 73 = .ok (.i2l, 1) := by decide +kernel
theorem dX9_nights_74 : decode cX9_nights 74 = .ok (.invokevirtual 275, 3) := by decide +kernel
theorem dX9_nights_77 : decode cX9_nights 77 = .ok (.aload_n 0, 1) := by decide +kernel
theorem dX9_nights_78 : decode cX9_nights 78 = .ok (.getfield 9, 3) := by decide +kernel
theorem dX9_nights_81 : decode cX9_nights 81 = .ok (.bipush 24, 2) := by decide +kernel
theorem dX9_nights_83 : decode cX9_nights 83 = .ok (.iaload, 1) := by decide +kernel
theorem dX9_nights_84 : decode cX9_nights 84 = .ok (.ireturn, 1) := by decide +kernel
theorem dX9_comes_0 : decode cX9_comes 0 = .ok (.aload_n 0, 1) := by decide +kernel
theorem dX9_comes_1 : decode cX9_comes 1 = .ok (.iconst 0, 1) := by decide +kernel
theorem dX9_comes_2 : decode cX9_comes 2 = .ok (.putfield 107, 3) := by decide +kernel
theorem dX9_comes_5 : decode cX9_comes 5 = .ok (.aload_n 0, 1) := by decide +kernel
theorem dX9_comes_6 : decode cX9_comes 6 = .ok (.iload_n 1, 1) := by decide +kernel
theorem dX9_comes_7 : decode cX9_comes 7 = .ok (.invokevirtual 234, 3) := by decide +kernel
theorem dX9_comes_10 : decode cX9_comes 10 = .ok (.ifCond .ne 5, 3) := by decide +kernel
theorem dX9_comes_13 : decode cX9_comes 13 = .ok (.iconst (-1), 1) := by decide +kernel
theorem dX9_comes_14 : decode cX9_comes 14 = .ok (.ireturn, 1) := by decide +kernel
theorem dX9_comes_15 : decode cX9_comes 15 = .ok (.aload_n 0, 1) := by decide +kernel
theorem dX9_comes_16 : decode cX9_comes 16 = .ok (.aload_n 0, 1) := by decide +kernel
theorem dX9_comes_17 : decode cX9_comes 17 = .ok (.getfield 9, 3) := by decide +kernel
theorem dX9_comes_20 : decode cX9_comes 20 = .ok (.invokevirtual 268, 3) := by decide +kernel
theorem dX9_comes_23 : decode cX9_comes 23 = .ok (.aload_n 0, 1) := by decide +kernel
theorem dX9_comes_24 : decode cX9_comes 24 = .ok (.getfield 9, 3) := by decide +kernel
theorem dX9_comes_27 : decode cX9_comes 27 = .ok (.bipush 16, 2) := by decide +kernel
theorem dX9_comes_29 : decode cX9_comes 29 = .ok (.iload_n 1, 1) := by decide +kernel
theorem dX9_comes_30 : decode cX9_comes 30 = .ok (.iadd, 1) := by decide +kernel
theorem dX9_comes_31 : decode cX9_comes 31 = .ok (.iconst 1, 1) := by decide +kernel
theorem dX9_comes_32 : decode cX9_comes 32 = .ok (.aload_n 0, 1) := by decide +kernel
theorem dX9_comes_33 : decode cX9_comes 33 = .ok (.getfield 9, 3) := by decide +kernel
theorem dX9_comes_36 : decode cX9_comes 36 = .ok (.bipush 16, 2) := by decide +kernel
theorem dX9_comes_38 : decode cX9_comes 38 = .ok (.iload_n 1, 1) := by decide +kernel
theorem dX9_comes_39 : decode cX9_comes 39 = .ok (.iadd, 1) := by decide +kernel
theorem dX9_comes_40 : decode cX9_comes 40 = .ok (.iaload, 1) := by decide +kernel
theorem dX9_comes_41 : decode cX9_comes 41 = .ok (.isub, 1) := by decide +kernel
theorem dX9_comes_42 : decode cX9_comes 42 = .ok (.iastore, 1) := by decide +kernel
theorem dX9_comes_43 : decode cX9_comes 43 = .ok (.aload_n 0, 1) := by decide +kernel
theorem dX9_comes_44 : decode cX9_comes 44 = .ok (.aload_n 0, 1) := by decide +kernel
theorem dX9_comes_45 : decode cX9_comes 45 = .ok (.getfield 9, 3) := by decide +kernel
theorem dX9_comes_48 : decode cX9_comes 48 = .ok (.invokevirtual 216, 3) := by decide +kernel
theorem dX9_comes_51 : decode cX9_comes 51 = .ok (.invokestatic 220, 3) := by decide +kernel
theorem dX9_comes_54 : decode cX9_comes 54 = .ok (.ireturn, 1) := by decide +kernel
theorem dX9_refusesHum_0 : decode cX9_refusesHum 0 = .ok (.aload_n 0, 1) := by decide +kernel
theorem dX9_refusesHum_1 : decode cX9_refusesHum 1 = .ok (.iload_n 2, 1) := by decide +kernel
theorem dX9_refusesHum_2 : decode cX9_refusesHum 2 = .ok (.invokevirtual 234, 3) := by decide +kernel
theorem dX9_refusesHum_5 : decode cX9_refusesHum 5 = .ok (.ifCond .eq 13, 3) := by decide +kernel
theorem dX9_refusesHum_8 : decode cX9_refusesHum 8 = .ok (.iload_n 3, 1) := by decide +kernel
theorem dX9_refusesHum_9 : decode cX9_refusesHum 9 = .ok (.iconst 1, 1) := by decide +kernel
theorem dX9_refusesHum_10 : decode cX9_refusesHum 10 = .ok (.bipush 9, 2) := by decide +kernel
theorem dX9_refusesHum_12 : decode cX9_refusesHum 12 = .ok (.invokestatic 116, 3) := by decide +kernel
theorem dX9_refusesHum_15 : decode cX9_refusesHum 15 = .ok (.ifCond .ne 5, 3) := by decide +kernel
theorem dX9_refusesHum_18 : decode cX9_refusesHum 18 = .ok (.iconst (-1), 1) := by decide +kernel
theorem dX9_refusesHum_19 : decode cX9_refusesHum 19 = .ok (.ireturn, 1) := by decide +kernel
theorem dX9_refusesHum_20 : decode cX9_refusesHum 20 = .ok (.aload_n 1, 1) := by decide +kernel
theorem dX9_refusesHum_21 : decode cX9_refusesHum 21 = .ok (.bipush 24, 2) := by decide +kernel
theorem dX9_refusesHum_23 : decode cX9_refusesHum 23 = .ok (.iaload, 1) := by decide +kernel
theorem dX9_refusesHum_24 : decode cX9_refusesHum 24 = .ok (.iload_n 3, 1) := by decide +kernel
theorem dX9_refusesHum_25 : decode cX9_refusesHum 25 = .ok (.if_icmp .ge 8, 3) := by decide +kernel
theorem dX9_refusesHum_28 : decode cX9_refusesHum 28 = .ok (.bipush (-2), 2) := by decide +kernel
theorem dX9_refusesHum_30 : decode cX9_refusesHum 30 = .ok (.goto 4, 3) := by decide +kernel
theorem dX9_refusesHum_33 : decode cX9_refusesHum 33 = .ok (.iconst 0, 1) := by decide +kernel
theorem dX9_refusesHum_34 : decode cX9_refusesHum 34 = .ok (.ireturn, 1) := by decide +kernel
theorem dX9_goHum_0 : decode cX9_goHum 0 = .ok (.aload_n 1, 1) := by decide +kernel
theorem dX9_goHum_1 : decode cX9_goHum 1 = .ok (.bipush 24, 2) := by decide +kernel
theorem dX9_goHum_3 : decode cX9_goHum 3 = .ok (.dup2, 1) := by decide +kernel
theorem dX9_goHum_4 : decode cX9_goHum 4 = .ok (.iaload, 1) := by decide +kernel
theorem dX9_goHum_5 : decode cX9_goHum 5 = .ok (.iload_n 3, 1) := by decide +kernel
theorem dX9_goHum_6 : decode cX9_goHum 6 = .ok (.isub, 1) := by decide +kernel
theorem dX9_goHum_7 : decode cX9_goHum 7 = .ok (.iastore, 1) := by decide +kernel
theorem dX9_goHum_8 : decode cX9_goHum 8 = .ok (.aload_n 1, 1) := by decide +kernel
theorem dX9_goHum_9 : decode cX9_goHum 9 = .ok (.iload_n 2, 1) := by decide +kernel
theorem dX9_goHum_10 : decode cX9_goHum 10 = .ok (.bipush 99, 2) := by decide +kernel
theorem dX9_goHum_12 : decode cX9_goHum 12 = .ok (.aload_n 1, 1) := by decide +kernel
theorem dX9_goHum_13 : decode cX9_goHum 13 = .ok (.iload_n 2, 1) := by decide +kernel
theorem dX9_goHum_14 : decode cX9_goHum 14 = .ok (.iaload, 1) := by decide +kernel
theorem dX9_goHum_15 : decode cX9_goHum 15 = .ok (.iload_n 3, 1) := by decide +kernel
theorem dX9_goHum_16 : decode cX9_goHum 16 = .ok (.iadd, 1) := by decide +kernel
theorem dX9_goHum_17 : decode cX9_goHum 17 = .ok (.invokestatic 225, 3) := by decide +kernel
theorem dX9_goHum_20 : decode cX9_goHum 20 = .ok (.iastore, 1) := by decide +kernel
theorem dX9_goHum_21 : decode cX9_goHum 21 = .ok (.aload_n 1, 1) := by decide +kernel
theorem dX9_goHum_22 : decode cX9_goHum 22 = .ok (.bipush 8, 2) := by decide +kernel
theorem dX9_goHum_24 : decode cX9_goHum 24 = .ok (.iload_n 2, 1) := by decide +kernel
theorem dX9_goHum_25 : decode cX9_goHum 25 = .ok (.iadd, 1) := by decide +kernel
theorem dX9_goHum_26 : decode cX9_goHum 26 = .ok (.bipush 99, 2) := by decide +kernel
theorem dX9_goHum_28 : decode cX9_goHum 28 = .ok (.aload_n 1, 1) := by decide +kernel
theorem dX9_goHum_29 : decode cX9_goHum 29 = .ok (.bipush 8, 2) := by decide +kernel
theorem dX9_goHum_31 : decode cX9_goHum 31 = .ok (.iload_n 2, 1) := by decide +kernel
theorem dX9_goHum_32 : decode cX9_goHum 32 = .ok (.iadd, 1) := by decide +kernel
theorem dX9_goHum_33 : decode cX9_goHum 33 = .ok (.iaload, 1) := by decide +kernel
theorem dX9_goHum_34 : decode cX9_goHum 34 = .ok (.iconst 1, 1) := by decide +kernel
theorem dX9_goHum_35 : decode cX9_goHum 35 = .ok (.iadd, 1) := by decide +kernel
theorem dX9_goHum_36 : decode cX9_goHum 36 = .ok (.invokestatic 225, 3) := by decide +kernel
theorem dX9_goHum_39 : decode cX9_goHum 39 = .ok (.iastore, 1) := by decide +kernel
theorem dX9_goHum_40 : decode cX9_goHum 40 = .ok (.aload_n 1, 1) := by decide +kernel
theorem dX9_goHum_41 : decode cX9_goHum 41 = .ok (.bipush 25, 2) := by decide +kernel
theorem dX9_goHum_43 : decode cX9_goHum 43 = .ok (.aload_n 1, 1) := by decide +kernel
theorem dX9_goHum_44 : decode cX9_goHum 44 = .ok (.bipush 25, 2) := by decide +kernel
theorem dX9_goHum_46 : decode cX9_goHum 46 = .ok (.iaload, 1) := by decide +kernel
theorem dX9_goHum_47 : decode cX9_goHum 47 = .ok (.iconst 2, 1) := by decide +kernel
theorem dX9_goHum_48 : decode cX9_goHum 48 = .ok (.aload_n 0, 1) := by decide +kernel
theorem dX9_goHum_49 : decode cX9_goHum 49 = .ok (.getfield 19, 3) := by decide +kernel
theorem dX9_goHum_52 : decode cX9_goHum 52 = .ok (.iload_n 2, 1) := by decide +kernel
theorem dX9_goHum_53 : decode cX9_goHum 53 = .ok (.iaload, 1) := by decide +kernel
theorem dX9_goHum_54 : decode cX9_goHum 54 = .ok (.imul, 1) := by decide +kernel
theorem dX9_goHum_55 : decode cX9_goHum 55 = .ok (.iload_n 3, 1) := by decide +kernel
theorem dX9_goHum_56 : decode cX9_goHum 56 = .ok (.imul, 1) := by decide +kernel
theorem dX9_goHum_57 : decode cX9_goHum 57 = .ok (.iadd, 1) := by decide +kernel
theorem dX9_goHum_58 : decode cX9_goHum 58 = .ok (.invokestatic 262, 3) := by decide +kernel
theorem dX9_goHum_61 : decode cX9_goHum 61 = .ok (.iastore, 1) := by decide +kernel
theorem dX9_goHum_62 : decode cX9_goHum 62 = .ok (.return_, 1) := by decide +kernel
theorem dX9_hum_0 : decode cX9_hum 0 = .ok (.aload_n 0, 1) := by decide +kernel
theorem dX9_hum_1 : decode cX9_hum 1 = .ok (.iconst 0, 1) := by decide +kernel
theorem dX9_hum_2 : decode cX9_hum 2 = .ok (.putfield 107, 3) := by decide +kernel
theorem dX9_hum_5 : decode cX9_hum 5 = .ok (.aload_n 0, 1) := by decide +kernel
theorem dX9_hum_6 : decode cX9_hum 6 = .ok (.aload_n 0, 1) := by decide +kernel
theorem dX9_hum_7 : decode cX9_hum 7 = .ok (.getfield 9, 3) := by decide +kernel
theorem dX9_hum_10 : decode cX9_hum 10 = .ok (.iload_n 1, 1) := by decide +kernel
theorem dX9_hum_11 : decode cX9_hum 11 = .ok (.iload_n 2, 1) := by decide +kernel
theorem dX9_hum_12 : decode cX9_hum 12 = .ok (.invokevirtual 279, 3) := by decide +kernel
theorem dX9_hum_15 : decode cX9_hum 15 = .ok (.istore_n 3, 1) := by decide +kernel
theorem dX9_hum_16 : decode cX9_hum 16 = .ok (.iload_n 3, 1) := by decide +kernel
theorem dX9_hum_17 : decode cX9_hum 17 = .ok (.ifCond .ge 5, 3) := by decide +kernel
theorem dX9_hum_20 : decode cX9_hum 20 = .ok (.iload_n 3, 1) := by decide +kernel
theorem dX9_hum_21 : decode cX9_hum 21 = .ok (.ireturn, 1) := by decide +kernel
theorem dX9_hum_22 : decode cX9_hum 22 = .ok (.aload_n 0, 1) := by decide +kernel
theorem dX9_hum_23 : decode cX9_hum 23 = .ok (.aload_n 0, 1) := by decide +kernel
theorem dX9_hum_24 : decode cX9_hum 24 = .ok (.getfield 9, 3) := by decide +kernel
theorem dX9_hum_27 : decode cX9_hum 27 = .ok (.invokevirtual 268, 3) := by decide +kernel
theorem dX9_hum_30 : decode cX9_hum 30 = .ok (.aload_n 0, 1) := by decide +kernel
theorem dX9_hum_31 : decode cX9_hum 31 = .ok (.aload_n 0, 1) := by decide +kernel
theorem dX9_hum_32 : decode cX9_hum 32 = .ok (.getfield 9, 3) := by decide +kernel
theorem dX9_hum_35 : decode cX9_hum 35 = .ok (.iload_n 1, 1) := by decide +kernel
theorem dX9_hum_36 : decode cX9_hum 36 = .ok (.iload_n 2, 1) := by decide +kernel
theorem dX9_hum_37 : decode cX9_hum 37 = .ok (.invokevirtual 283, 3) := by decide +kernel
theorem dX9_hum_40 : decode cX9_hum 40 = .ok (.aload_n 0, 1) := by decide +kernel
theorem dX9_hum_41 : decode cX9_hum 41 = .ok (.getfield 9, 3) := by decide +kernel
theorem dX9_hum_44 : decode cX9_hum 44 = .ok (.bipush 25, 2) := by decide +kernel
theorem dX9_hum_46 : decode cX9_hum 46 = .ok (.iaload, 1) := by decide +kernel
theorem dX9_hum_47 : decode cX9_hum 47 = .ok (.ireturn, 1) := by decide +kernel
theorem dX9_refusesStake_0 : decode cX9_refusesStake 0 = .ok (.iload_n 1, 1) := by decide +kernel
theorem dX9_refusesStake_1 : decode cX9_refusesStake 1 = .ok (.ifCond .eq 16, 3) := by decide +kernel
theorem dX9_refusesStake_4 : decode cX9_refusesStake 4 = .ok (.iload_n 1, 1) := by decide +kernel
theorem dX9_refusesStake_5 : decode cX9_refusesStake 5 = .ok (.sipush (-9999), 3) := by decide +kernel
theorem dX9_refusesStake_8 : decode cX9_refusesStake 8 = .ok (.sipush 9999, 3) := by decide +kernel
theorem dX9_refusesStake_11 : decode cX9_refusesStake 11 = .ok (.invokestatic 116, 3) := by decide +kernel
theorem dX9_refusesStake_14 : decode cX9_refusesStake 14 = .ok (.ifCond .ne 5, 3) := by decide +kernel
theorem dX9_refusesStake_17 : decode cX9_refusesStake 17 = .ok (.iconst (-1), 1) := by decide +kernel
theorem dX9_refusesStake_18 : decode cX9_refusesStake 18 = .ok (.ireturn, 1) := by decide +kernel
theorem dX9_refusesStake_19 : decode cX9_refusesStake 19 = .ok (.iload_n 1, 1) := by decide +kernel
theorem dX9_refusesStake_20 : decode cX9_refusesStake 20 = .ok (.ifCond .le 17, 3) := by decide +kernel
theorem dX9_refusesStake_23 : decode cX9_refusesStake 23 = .ok (.aload_n 0, 1) := by decide +kernel
theorem dX9_refusesStake_24 : decode cX9_refusesStake 24 = .ok (.getfield 9, 3) := by decide +kernel
theorem dX9_refusesStake_27 : decode cX9_refusesStake 27 = .ok (.bipush 25, 2) := by decide +kernel
theorem dX9_refusesStake_29 : decode cX9_refusesStake 29 = .ok (.iaload, 1) := by decide +kernel
theorem dX9_refusesStake_30 : decode cX9_refusesStake 30 = .ok (.iload_n 1, 1) := by decide +kernel
theorem dX9_refusesStake_31 : decode cX9_refusesStake 31 = .ok (.if_icmp .ge 21, 3) := by decide +kernel
theorem dX9_refusesStake_34 : decode cX9_refusesStake 34 = .ok (.goto 15, 3) := by decide +kernel
theorem dX9_refusesStake_37 : decode cX9_refusesStake 37 = .ok (.aload_n 0, 1) := by decide +kernel
theorem dX9_refusesStake_38 : decode cX9_refusesStake 38 = .ok (.getfield 9, 3) := by decide +kernel
theorem dX9_refusesStake_41 : decode cX9_refusesStake 41 = .ok (.bipush 26, 2) := by decide +kernel
theorem dX9_refusesStake_43 : decode cX9_refusesStake 43 = .ok (.iaload, 1) := by decide +kernel
theorem dX9_refusesStake_44 : decode cX9_refusesStake 44 = .ok (.iload_n 1, 1) := by decide +kernel
theorem dX9_refusesStake_45 : decode cX9_refusesStake 45 = .ok (.ineg, 1) := by decide +kernel
theorem dX9_refusesStake_46 : decode cX9_refusesStake 46 = .ok (.if_icmp .ge 6, 3) := by decide +kernel
theorem dX9_refusesStake_49 : decode cX9_refusesStake 49 = .ok (.bipush (-2), 2) := by decide +kernel
theorem dX9_refusesStake_51 : decode cX9_refusesStake 51 = .ok (.ireturn, 1) := by decide +kernel
theorem dX9_refusesStake_52 : decode cX9_refusesStake 52 = .ok (.aload_n 0, 1) := by decide +kernel
theorem dX9_refusesStake_53 : decode cX9_refusesStake 53 = .ok (.getfield 9, 3) := by decide +kernel
theorem dX9_refusesStake_56 : decode cX9_refusesStake 56 = .ok (.bipush 26, 2) := by decide +kernel
theorem dX9_refusesStake_58 : decode cX9_refusesStake 58 = .ok (.iaload, 1) := by decide +kernel
theorem dX9_refusesStake_59 : decode cX9_refusesStake 59 = .ok (.iload_n 1, 1) := by decide +kernel
theorem dX9_refusesStake_60 : decode cX9_refusesStake 60 = .ok (.iadd, 1) := by decide +kernel
theorem dX9_refusesStake_61 : decode cX9_refusesStake 61 = .ok (.sipush 9999, 3) := by decide +kernel
theorem dX9_refusesStake_64 : decode cX9_refusesStake 64 = .ok (.if_icmp .gt 18, 3) := by decide +kernel
theorem dX9_refusesStake_67 : decode cX9_refusesStake 67 = .ok (.aload_n 0, 1) := by decide +kernel
theorem dX9_refusesStake_68 : decode cX9_refusesStake 68 = .ok (.getfield 9, 3) := by decide +kernel
theorem dX9_refusesStake_71 : decode cX9_refusesStake 71 = .ok (.bipush 25, 2) := by decide +kernel
theorem dX9_refusesStake_73 : decode cX9_refusesStake 73 = .ok (.iaload, 1) := by decide +kernel
theorem dX9_refusesStake_74 : decode cX9_refusesStake 74 = .ok (.iload_n 1, 1) := by decide +kernel
theorem dX9_refusesStake_75 : decode cX9_refusesStake 75 = .ok (.isub, 1) := by decide +kernel
theorem dX9_refusesStake_76 : decode cX9_refusesStake 76 = .ok (.sipush 9999, 3) := by decide +kernel
theorem dX9_refusesStake_79 : decode cX9_refusesStake 79 = .ok (.if_icmp .le 8, 3) := by decide +kernel
theorem dX9_refusesStake_82 : decode cX9_refusesStake 82 = .ok (.bipush (-3), 2) := by decide +kernel
theorem dX9_refusesStake_84 : decode cX9_refusesStake 84 = .ok (.goto 4, 3) := by decide +kernel
theorem dX9_refusesStake_87 : decode cX9_refusesStake 87 = .ok (.iconst 0, 1) := by decide +kernel
theorem dX9_refusesStake_88 : decode cX9_refusesStake 88 = .ok (.ireturn, 1) := by decide +kernel
theorem dX9_goStake_0 : decode cX9_goStake 0 = .ok (.aload_n 0, 1) := by decide +kernel
theorem dX9_goStake_1 : decode cX9_goStake 1 = .ok (.getfield 9, 3) := by decide +kernel
theorem dX9_goStake_4 : decode cX9_goStake 4 = .ok (.bipush 25, 2) := by decide +kernel
theorem dX9_goStake_6 : decode cX9_goStake 6 = .ok (.dup2, 1) := by decide +kernel
theorem dX9_goStake_7 : decode cX9_goStake 7 = .ok (.iaload, 1) := by decide +kernel
theorem dX9_goStake_8 : decode cX9_goStake 8 = .ok (.iload_n 1, 1) := by decide +kernel
theorem dX9_goStake_9 : decode cX9_goStake 9 = .ok (.isub, 1) := by decide +kernel
theorem dX9_goStake_10 : decode cX9_goStake 10 = .ok (.iastore, 1) := by decide +kernel
theorem dX9_goStake_11 : decode cX9_goStake 11 = .ok (.aload_n 0, 1) := by decide +kernel
theorem dX9_goStake_12 : decode cX9_goStake 12 = .ok (.getfield 9, 3) := by decide +kernel
theorem dX9_goStake_15 : decode cX9_goStake 15 = .ok (.bipush 26, 2) := by decide +kernel
theorem dX9_goStake_17 : decode cX9_goStake 17 = .ok (.dup2, 1) := by decide +kernel
theorem dX9_goStake_18 : decode cX9_goStake 18 = .ok (.iaload, 1) := by decide +kernel
theorem dX9_goStake_19 : decode cX9_goStake 19 = .ok (.iload_n 1, 1) := by decide +kernel
theorem dX9_goStake_20 : decode cX9_goStake 20 = .ok (.iadd, 1) := by decide +kernel
theorem dX9_goStake_21 : decode cX9_goStake 21 = .ok (.iastore, 1) := by decide +kernel
theorem dX9_goStake_22 : decode cX9_goStake 22 = .ok (.return_, 1) := by decide +kernel
theorem dX9_stake_0 : decode cX9_stake 0 = .ok (.aload_n 0, 1) := by decide +kernel
theorem dX9_stake_1 : decode cX9_stake 1 = .ok (.iconst 0, 1) := by decide +kernel
theorem dX9_stake_2 : decode cX9_stake 2 = .ok (.putfield 107, 3) := by decide +kernel
theorem dX9_stake_5 : decode cX9_stake 5 = .ok (.aload_n 0, 1) := by decide +kernel
theorem dX9_stake_6 : decode cX9_stake 6 = .ok (.iload_n 1, 1) := by decide +kernel
theorem dX9_stake_7 : decode cX9_stake 7 = .ok (.invokevirtual 287, 3) := by decide +kernel
theorem dX9_stake_10 : decode cX9_stake 10 = .ok (.istore_n 2, 1) := by decide +kernel
theorem dX9_stake_11 : decode cX9_stake 11 = .ok (.iload_n 2, 1) := by decide +kernel
theorem dX9_stake_12 : decode cX9_stake 12 = .ok (.ifCond .ge 5, 3) := by decide +kernel
theorem dX9_stake_15 : decode cX9_stake 15 = .ok (.iload_n 2, 1) := by decide +kernel
theorem dX9_stake_16 : decode cX9_stake 16 = .ok (.ireturn, 1) := by decide +kernel
theorem dX9_stake_17 : decode cX9_stake 17 = .ok (.aload_n 0, 1) := by decide +kernel
theorem dX9_stake_18 : decode cX9_stake 18 = .ok (.aload_n 0, 1) := by decide +kernel
theorem dX9_stake_19 : decode cX9_stake 19 = .ok (.getfield 9, 3) := by decide +kernel
theorem dX9_stake_22 : decode cX9_stake 22 = .ok (.invokevirtual 268, 3) := by decide +kernel
theorem dX9_stake_25 : decode cX9_stake 25 = .ok (.aload_n 0, 1) := by decide +kernel
theorem dX9_stake_26 : decode cX9_stake 26 = .ok (.iload_n 1, 1) := by decide +kernel
theorem dX9_stake_27 : decode cX9_stake 27 = .ok (.invokevirtual 290, 3) := by decide +kernel
theorem dX9_stake_30 : decode cX9_stake 30 = .ok (.aload_n 0, 1) := by decide +kernel
theorem dX9_stake_31 : decode cX9_stake 31 = .ok (.getfield 9, 3) := by decide +kernel
theorem dX9_stake_34 : decode cX9_stake 34 = .ok (.bipush 26, 2) := by decide +kernel
theorem dX9_stake_36 : decode cX9_stake 36 = .ok (.iaload, 1) := by decide +kernel
theorem dX9_stake_37 : decode cX9_stake 37 = .ok (.ireturn, 1) := by decide +kernel
theorem dX9_gain_0 : decode cX9_gain 0 = .ok (.aload_n 0, 1) := by decide +kernel
theorem dX9_gain_1 : decode cX9_gain 1 = .ok (.iconst 0, 1) := by decide +kernel
theorem dX9_gain_2 : decode cX9_gain 2 = .ok (.putfield 107, 3) := by decide +kernel
theorem dX9_gain_5 : decode cX9_gain 5 = .ok (.iload_n 1, 1) := by decide +kernel
theorem dX9_gain_6 : decode cX9_gain 6 = .ok (.bipush (-5), 2) := by decide +kernel
theorem dX9_gain_8 : decode cX9_gain 8 = .ok (.iconst 5, 1) := by decide +kernel
theorem dX9_gain_9 : decode cX9_gain 9 = .ok (.invokestatic 116, 3) := by decide +kernel
theorem dX9_gain_12 : decode cX9_gain 12 = .ok (.ifCond .ne 5, 3) := by decide +kernel
theorem dX9_gain_15 : decode cX9_gain 15 = .ok (.iconst (-1), 1) := by decide +kernel
theorem dX9_gain_16 : decode cX9_gain 16 = .ok (.ireturn, 1) := by decide +kernel
theorem dX9_gain_17 : decode cX9_gain 17 = .ok (.aload_n 0, 1) := by decide +kernel
theorem dX9_gain_18 : decode cX9_gain 18 = .ok (.aload_n 0, 1) := by decide +kernel
theorem dX9_gain_19 : decode cX9_gain 19 = .ok (.getfield 9, 3) := by decide +kernel
theorem dX9_gain_22 : decode cX9_gain 22 = .ok (.invokevirtual 268, 3) := by decide +kernel
theorem dX9_gain_25 : decode cX9_gain 25 = .ok (.aload_n 0, 1) := by decide +kernel
theorem dX9_gain_26 : decode cX9_gain 26 = .ok (.getfield 9, 3) := by decide +kernel
theorem dX9_gain_29 : decode cX9_gain 29 = .ok (.bipush 27, 2) := by decide +kernel
theorem dX9_gain_31 : decode cX9_gain 31 = .ok (.iaload, 1) := by decide +kernel
theorem dX9_gain_32 : decode cX9_gain 32 = .ok (.istore_n 2, 1) := by decide +kernel
theorem dX9_gain_33 : decode cX9_gain 33 = .ok (.aload_n 0, 1) := by decide +kernel
theorem dX9_gain_34 : decode cX9_gain 34 = .ok (.getfield 9, 3) := by decide +kernel
theorem dX9_gain_37 : decode cX9_gain 37 = .ok (.bipush 27, 2) := by decide +kernel
theorem dX9_gain_39 : decode cX9_gain 39 = .ok (.iload_n 1, 1) := by decide +kernel
theorem dX9_gain_40 : decode cX9_gain 40 = .ok (.iastore, 1) := by decide +kernel
theorem dX9_gain_41 : decode cX9_gain 41 = .ok (.bipush 10, 2) := by decide +kernel
theorem dX9_gain_43 : decode cX9_gain 43 = .ok (.iload_n 2, 1) := by decide +kernel
theorem dX9_gain_44 : decode cX9_gain 44 = .ok (.iadd, 1) := by decide +kernel
theorem dX9_gain_45 : decode cX9_gain 45 = .ok (.ireturn, 1) := by decide +kernel
theorem dX9_refusesAdvance_0 : decode cX9_refusesAdvance 0 = .ok (.iload_n 1, 1) := by decide +kernel
theorem dX9_refusesAdvance_1 : decode cX9_refusesAdvance 1 = .ok (.iconst 1, 1) := by decide +kernel
theorem dX9_refusesAdvance_2 : decode cX9_refusesAdvance 2 = .ok (.sipush 9999, 3) := by decide +kernel
theorem dX9_refusesAdvance_5 : decode cX9_refusesAdvance 5 = .ok (.invokestatic 116, 3) := by decide +kernel
theorem dX9_refusesAdvance_8 : decode cX9_refusesAdvance 8 = .ok (.ifCond .ne 5, 3) := by decide +kernel
theorem dX9_refusesAdvance_11 : decode cX9_refusesAdvance 11 = .ok (.iconst (-1), 1) := by decide +kernel
theorem dX9_refusesAdvance_12 : decode cX9_refusesAdvance 12 = .ok (.ireturn, 1) := by decide +kernel
theorem dX9_refusesAdvance_13 : decode cX9_refusesAdvance 13 = .ok (.iload_n 1, 1) := by decide +kernel
theorem dX9_refusesAdvance_14 : decode cX9_refusesAdvance 14 = .ok (.aload_n 0, 1) := by decide +kernel
theorem dX9_refusesAdvance_15 : decode cX9_refusesAdvance 15 = .ok (.getfield 9, 3) := by decide +kernel
theorem dX9_refusesAdvance_18 : decode cX9_refusesAdvance 18 = .ok (.bipush 24, 2) := by decide +kernel
theorem dX9_refusesAdvance_20 : decode cX9_refusesAdvance 20 = .ok (.iaload, 1) := by decide +kernel
theorem dX9_refusesAdvance_21 : decode cX9_refusesAdvance 21 = .ok (.iconst 4, 1) := by decide +kernel
theorem dX9_refusesAdvance_22 : decode cX9_refusesAdvance 22 = .ok (.idiv, 1) := by decide +kernel
theorem dX9_refusesAdvance_23 : decode cX9_refusesAdvance 23 = .ok (.if_icmp .le 8, 3) := by decide +kernel
theorem dX9_refusesAdvance_26 : decode cX9_refusesAdvance 26 = .ok (.bipush (-2), 2) := by decide +kernel
theorem dX9_refusesAdvance_28 : decode cX9_refusesAdvance 28 = .ok (.goto 4, 3) := by decide +kernel
theorem dX9_refusesAdvance_31 : decode cX9_refusesAdvance 31 = .ok (.iconst 0, 1) := by decide +kernel
theorem dX9_refusesAdvance_32 : decode cX9_refusesAdvance 32 = .ok (.ireturn, 1) := by decide +kernel
theorem dX9_advance_0 : decode cX9_advance 0 = .ok (.aload_n 0, 1) := by decide +kernel
theorem dX9_advance_1 : decode cX9_advance 1 = .ok (.iconst 0, 1) := by decide +kernel
theorem dX9_advance_2 : decode cX9_advance 2 = .ok (.putfield 107, 3) := by decide +kernel
theorem dX9_advance_5 : decode cX9_advance 5 = .ok (.aload_n 0, 1) := by decide +kernel
theorem dX9_advance_6 : decode cX9_advance 6 = .ok (.iload_n 1, 1) := by decide +kernel
theorem dX9_advance_7 : decode cX9_advance 7 = .ok (.invokevirtual 293, 3) := by decide +kernel
theorem dX9_advance_10 : decode cX9_advance 10 = .ok (.istore_n 2, 1) := by decide +kernel
theorem dX9_advance_11 : decode cX9_advance 11 = .ok (.iload_n 2, 1) := by decide +kernel
theorem dX9_advance_12 : decode cX9_advance 12 = .ok (.ifCond .ge 5, 3) := by decide +kernel
theorem dX9_advance_15 : decode cX9_advance 15 = .ok (.iload_n 2, 1) := by decide +kernel
theorem dX9_advance_16 : decode cX9_advance 16 = .ok (.ireturn, 1) := by decide +kernel
theorem dX9_advance_17 : decode cX9_advance 17 = .ok (.aload_n 0, 1) := by decide +kernel
theorem dX9_advance_18 : decode cX9_advance 18 = .ok (.aload_n 0, 1) := by decide +kernel
theorem dX9_advance_19 : decode cX9_advance 19 = .ok (.getfield 9, 3) := by decide +kernel
theorem dX9_advance_22 : decode cX9_advance 22 = .ok (.invokevirtual 268, 3) := by decide +kernel
theorem dX9_advance_25 : decode cX9_advance 25 = .ok (.aload_n 0, 1) := by decide +kernel
theorem dX9_advance_26 : decode cX9_advance 26 = .ok (.getfield 9, 3) := by decide +kernel
theorem dX9_advance_29 : decode cX9_advance 29 = .ok (.bipush 24, 2) := by decide +kernel
theorem dX9_advance_31 : decode cX9_advance 31 = .ok (.dup2, 1) := by decide +kernel
theorem dX9_advance_32 : decode cX9_advance 32 = .ok (.iaload, 1) := by decide +kernel
theorem dX9_advance_33 : decode cX9_advance 33 = .ok (.iload_n 1, 1) := by decide +kernel
theorem dX9_advance_34 : decode cX9_advance 34 = .ok (.isub, 1) := by decide +kernel
theorem dX9_advance_35 : decode cX9_advance 35 = .ok (.iastore, 1) := by decide +kernel
theorem dX9_advance_36 : decode cX9_advance 36 = .ok (.aload_n 0, 1) := by decide +kernel
theorem dX9_advance_37 : decode cX9_advance 37 = .ok (.getfield 9, 3) := by decide +kernel
theorem dX9_advance_40 : decode cX9_advance 40 = .ok (.bipush 24, 2) := by decide +kernel
theorem dX9_advance_42 : decode cX9_advance 42 = .ok (.iaload, 1) := by decide +kernel
theorem dX9_advance_43 : decode cX9_advance 43 = .ok (.ireturn, 1) := by decide +kernel
theorem dX9_spring_0 : decode cX9_spring 0 = .ok (.aload_n 0, 1) := by decide +kernel
theorem dX9_spring_1 : decode cX9_spring 1 = .ok (.iconst 0, 1) := by decide +kernel
theorem dX9_spring_2 : decode cX9_spring 2 = .ok (.putfield 107, 3) := by decide +kernel
theorem dX9_spring_5 : decode cX9_spring 5 = .ok (.aload_n 0, 1) := by decide +kernel
theorem dX9_spring_6 : decode cX9_spring 6 = .ok (.bipush 60, 2) := by decide +kernel
theorem dX9_spring_8 : decode cX9_spring 8 = .ok (.invokevirtual 162, 3) := by decide +kernel
theorem dX9_spring_11 : decode cX9_spring 11 = .ok (.iconst 0, 1) := by decide +kernel
theorem dX9_spring_12 : decode cX9_spring 12 = .ok (.istore_n 1, 1) := by decide +kernel
theorem dX9_spring_13 : decode cX9_spring 13 = .ok (.aload_n 0, 1) := by decide +kernel
theorem dX9_spring_14 : decode cX9_spring 14 = .ok (.invokevirtual 142, 3) := by decide +kernel
theorem dX9_spring_17 : decode cX9_spring 17 = .ok (.ifCond .eq 27, 3) := by decide +kernel
theorem dX9_spring_20 : decode cX9_spring 20 = .ok (.aload_n 0, 1) := by decide +kernel
theorem dX9_spring_21 : decode cX9_spring 21 = .ok (.getfield 132, 3) := by decide +kernel
theorem dX9_spring_24 : decode cX9_spring 24 = .ok (.aload_n 0, 1) := by decide +kernel
theorem dX9_spring_25 : decode cX9_spring 25 = .ok (.getfield 126, 3) := by decide +kernel
theorem dX9_spring_28 : decode cX9_spring 28 = .ok (.if_icmp .ge 16, 3) := by decide +kernel
theorem dX9_spring_31 : decode cX9_spring 31 = .ok (.aload_n 0, 1) := by decide +kernel
theorem dX9_spring_32 : decode cX9_spring 32 = .ok (.iconst 3, 1) := by decide +kernel
theorem dX9_spring_33 : decode cX9_spring 33 = .ok (.iload_n 1, 1) := by decide +kernel
theorem dX9_spring_34 : decode cX9_spring 34 = .ok (.imul, 1) := by decide +kernel
theorem dX9_spring_35 : decode cX9_spring 35 = .ok (.invokevirtual 296, 3) := by decide +kernel
theorem dX9_spring_38 : decode cX9_spring 38 = .ok (.iinc 1 1, 3) := by decide +kernel
theorem dX9_spring_41 : decode cX9_spring 41 = .ok (.goto (-28), 3) := by decide +kernel
theorem dX9_spring_44 : decode cX9_spring 44 = .ok (.aload_n 0, 1) := by decide +kernel
theorem dX9_spring_45 : decode cX9_spring 45 = .ok (.invokevirtual 165, 3) := by decide +kernel
theorem dX9_spring_48 : decode cX9_spring 48 = .ok (.ifCond .ne 10, 3) := by decide +kernel
theorem dX9_spring_51 : decode cX9_spring 51 = .ok (.iconst (-1), 1) := by decide +kernel
theorem dX9_spring_52 : decode cX9_spring 52 = .ok (.aload_n 0, 1) := by decide +kernel
theorem dX9_spring_53 : decode cX9_spring 53 = .ok (.getfield 135, 3) := by decide +kernel
theorem dX9_spring_56 : decode cX9_spring 56 = .ok (.isub, 1) := by decide +kernel
theorem dX9_spring_57 : decode cX9_spring 57 = .ok (.ireturn, 1) := by decide +kernel
theorem dX9_spring_58 : decode cX9_spring 58 = .ok (.aload_n 0, 1) := by decide +kernel
theorem dX9_spring_59 : decode cX9_spring 59 = .ok (.getfield 9, 3) := by decide +kernel
theorem dX9_spring_62 : decode cX9_spring 62 = .ok (.aload_n 0, 1) := by decide +kernel
theorem dX9_spring_63 : decode cX9_spring 63 = .ok (.getfield 52, 3) := by decide +kernel
theorem dX9_spring_66 : decode cX9_spring 66 = .ok (.iconst 0, 1) := by decide +kernel
theorem dX9_spring_67 : decode cX9_spring 67 = .ok (.invokestatic 248, 3) := by decide +kernel
theorem dX9_spring_70 : decode cX9_spring 70 = .ok (.iconst 0, 1) := by decide +kernel
theorem dX9_spring_71 : decode cX9_spring 71 = .ok (.istore_n 2, 1) := by decide +kernel
theorem dX9_spring_72 : decode cX9_spring 72 = .ok (.iload_n 2, 1) := by decide +kernel
theorem dX9_spring_73 : decode cX9_spring 73 = .ok (.iload_n 1, 1) := by decide +kernel
theorem dX9_spring_74 : decode cX9_spring 74 = .ok (.if_icmp .ge 44, 3) := by decide +kernel
theorem dX9_spring_77 : decode cX9_spring 77 = .ok (.aload_n 0, 1) := by decide +kernel
theorem dX9_spring_78 : decode cX9_spring 78 = .ok (.aload_n 0, 1) := by decide +kernel
theorem dX9_spring_79 : decode cX9_spring 79 = .ok (.getfield 67, 3) := by decide +kernel
theorem dX9_spring_82 : decode cX9_spring 82 = .ok (.iconst 3, 1) := by decide +kernel
theorem dX9_spring_83 : decode cX9_spring 83 = .ok (.iload_n 2, 1) := by decide +kernel
theorem dX9_spring_84 : decode cX9_spring 84 = .ok (.imul, 1) := by decide +kernel
theorem dX9_spring_85 : decode cX9_spring 85 = .ok (.iaload, 1) := by decide +kernel
theorem dX9_spring_86 : decode cX9_spring 86 = .ok (.aload_n 0, 1) := by decide +kernel
theorem dX9_spring_87 : decode cX9_spring 87 = .ok (.getfield 67, 3) := by decide +kernel
theorem dX9_spring_90 : decode cX9_spring 90 = .ok (.iconst 3, 1) := by decide +kernel
theorem dX9_spring_91 : decode cX9_spring 91 = .ok (.iload_n 2, 1) := by decide +kernel
theorem dX9_spring_92 : decode cX9_spring 92 = .ok (.imul, 1) := by decide +kernel
theorem dX9_spring_93 : decode cX9_spring 93 = .ok (.iconst 1, 1) := by decide +kernel
theorem dX9_spring_94 : decode cX9_spring 94 = .ok (.iadd, 1) := by decide +kernel
theorem dX9_spring_95 : decode cX9_spring 95 = .ok (.iaload, 1) := by decide +kernel
theorem dX9_spring_96 : decode cX9_spring 96 = .ok (.aload_n 0, 1) := by decide +kernel
theorem dX9_spring_97 : decode cX9_spring 97 = .ok (.getfield 67, 3) := by decide +kernel
theorem dX9_spring_100 : decode cX9_spring 100 = .ok (.iconst 3, 1) := by decide +kernel
theorem dX9_spring_101 : decode cX9_spring 101 = .ok (.iload_n 2, 1) := by decide +kernel
theorem dX9_spring_102 : decode cX9_spring 102 = .ok (.imul, 1) := by decide +kernel
theorem dX9_spring_103 : decode cX9_spring 103 = .ok (.iconst 2, 1) := by decide +kernel
theorem dX9_spring_104 : decode cX9_spring 104 = .ok (.iadd, 1) := by decide +kernel
theorem dX9_spring_105 : decode cX9_spring 105 = .ok (.iaload, 1) := by decide +kernel
theorem dX9_spring_106 : decode cX9_spring 106 = .ok (.invokevirtual 299, 3) := by decide +kernel
theorem dX9_spring_109 : decode cX9_spring 109 = .ok (.ifCond .eq 9, 3) := by decide +kernel
theorem dX9_spring_112 : decode cX9_spring 112 = .ok (.iinc 2 1, 3) := by decide +kernel
theorem dX9_spring_115 : decode cX9_spring 115 = .ok (.goto (-43), 3) := by decide +kernel
theorem dX9_spring_118 : decode cX9_spring 118 = .ok (.iload_n 2, 1) := by decide +kernel
theorem dX9_spring_119 : decode cX9_spring 119 = .ok (.ifCond .le 11, 3) := by decide +kernel
theorem dX9_spring_122 : decode cX9_spring 122 = .ok (.aload_n 0, 1) := by decide +kernel
theorem dX9_spring_123 : decode cX9_spring 123 = .ok (.aload_n 0, 1) := by decide +kernel
theorem dX9_spring_124 : decode cX9_spring 124 = .ok (.getfield 52, 3) := by decide +kernel
theorem dX9_spring_127 : decode cX9_spring 127 = .ok (.invokevirtual 268, 3) := by decide +kernel
theorem dX9_spring_130 : decode cX9_spring 130 = .ok (.aload_n 0, 1) := by decide +kernel
theorem dX9_spring_131 : decode cX9_spring 131 = .ok (.iconst 0, 1) := by decide +kernel
theorem dX9_spring_132 : decode cX9_spring 132 = .ok (.putfield 110, 3) := by decide +kernel
theorem dX9_spring_135 : decode cX9_spring 135 = .ok (.aload_n 0, 1) := by decide +kernel
theorem dX9_spring_136 : decode cX9_spring 136 = .ok (.iload_n 2, 1) := by decide +kernel
theorem dX9_spring_137 : decode cX9_spring 137 = .ok (.iload_n 1, 1) := by decide +kernel
theorem dX9_spring_138 : decode cX9_spring 138 = .ok (.if_icmp .ge 7, 3) := by decide +kernel
theorem dX9_spring_141 : decode cX9_spring 141 = .ok (.lconst 1, 1) := by decide +kernel
theorem dX9_spring_142 : decode cX9_spring 142 = .ok (.goto 4, 3) := by decide +kernel
theorem dX9_spring_145 : decode cX9_spring 145 = .ok (.lconst 0, 1) := by decide +kernel
theorem dX9_spring_146 : decode cX9_spring 146 = .ok (.invokevirtual 275, 3) := by decide +kernel
theorem dX9_spring_149 : decode cX9_spring 149 = .ok (.aload_n 0, 1) := by decide +kernel
theorem dX9_spring_150 : decode cX9_spring 150 = .ok (.aload_n 0, 1) := by decide +kernel
theorem dX9_spring_151 : decode cX9_spring 151 = .ok (.getfield 9, 3) := by decide +kernel
theorem dX9_spring_154 : decode cX9_spring 154 = .ok (.bipush 25, 2) := by decide +kernel
theorem dX9_spring_156 : decode cX9_spring 156 = .ok (.iaload, 1) := by decide +kernel
theorem dX9_spring_157 : decode cX9_spring 157 = .ok (.i2l, 1) := by decide +kernel
theorem dX9_spring_158 : decode cX9_spring 158 = .ok (.invokevirtual 275, 3) := by decide +kernel
theorem dX9_spring_161 : decode cX9_spring 161 = .ok (.iload_n 2, 1) := by decide +kernel
theorem dX9_spring_162 : decode cX9_spring 162 = .ok (.ireturn, 1) := by decide +kernel
theorem dX9_readAct_0 : decode cX9_readAct 0 = .ok (.aload_n 0, 1) := by decide +kernel
theorem dX9_readAct_1 : decode cX9_readAct 1 = .ok (.invokevirtual 146, 3) := by decide +kernel
theorem dX9_readAct_4 : decode cX9_readAct 4 = .ok (.istore_n 2, 1) := by decide +kernel
theorem dX9_readAct_5 : decode cX9_readAct 5 = .ok (.iload_n 2, 1) := by decide +kernel
theorem dX9_readAct_6 : decode cX9_readAct 6 = .ok (.bipush 115, 2) := by decide +kernel
theorem dX9_readAct_8 : decode cX9_readAct 8 = .ok (.if_icmp .eq 15, 3) := by decide +kernel
theorem dX9_readAct_11 : decode cX9_readAct 11 = .ok (.iload_n 2, 1) := by decide +kernel
theorem dX9_readAct_12 : decode cX9_readAct 12 = .ok (.bipush 98, 2) := by decide +kernel
theorem dX9_readAct_14 : decode cX9_readAct 14 = .ok (.if_icmp .eq 9, 3) := by decide +kernel
theorem dX9_readAct_17 : decode cX9_readAct 17 = .ok (.iload_n 2, 1) := by decide +kernel
theorem dX9_readAct_18 : decode cX9_readAct 18 = .ok (.bipush 97, 2) := by decide +kernel
theorem dX9_readAct_20 : decode cX9_readAct 20 = .ok (.if_icmp .ne 7, 3) := by decide +kernel
theorem dX9_readAct_23 : decode cX9_readAct 23 = .ok (.iconst 1, 1) := by decide +kernel
theorem dX9_readAct_24 : decode cX9_readAct 24 = .ok (.goto 4, 3) := by decide +kernel
theorem dX9_readAct_27 : decode cX9_readAct 27 = .ok (.iconst 0, 1) := by decide +kernel
theorem dX9_readAct_28 : decode cX9_readAct 28 = .ok (.istore_n 3, 1) := by decide +kernel
theorem dX9_readAct_29 : decode cX9_readAct 29 = .ok (.iload_n 3, 1) := by decide +kernel
theorem dX9_readAct_30 : decode cX9_readAct 30 = .ok (.ifCond .ne 30, 3) := by decide +kernel
theorem dX9_readAct_33 : decode cX9_readAct 33 = .ok (.iload_n 2, 1) := by decide +kernel
theorem dX9_readAct_34 : decode cX9_readAct 34 = .ok (.bipush 110, 2) := by decide +kernel
theorem dX9_readAct_36 : decode cX9_readAct 36 = .ok (.if_icmp .eq 24, 3) := by decide +kernel
theorem dX9_readAct_39 : decode cX9_readAct 39 = .ok (.iload_n 2, 1) := by decide +kernel
theorem dX9_readAct_40 : decode cX9_readAct 40 = .ok (.bipush 99, 2) := by decide +kernel
theorem dX9_readAct_42 : decode cX9_readAct 42 = .ok (.if_icmp .eq 18, 3) := by decide +kernel
theorem dX9_readAct_45 : decode cX9_readAct 45 = .ok (.iload_n 2, 1) := by decide +kernel
theorem dX9_readAct_46 : decode cX9_readAct 46 = .ok (.bipush 104, 2) := by decide +kernel
theorem dX9_readAct_48 : decode cX9_readAct 48 = .ok (.if_icmp .eq 12, 3) := by decide +kernel
theorem dX9_readAct_51 : decode cX9_readAct 51 = .ok (.aload_n 0, 1) := by decide +kernel
theorem dX9_readAct_52 : decode cX9_readAct 52 = .ok (.aload_n 0, 1) := by decide +kernel
theorem dX9_readAct_53 : decode cX9_readAct 53 = .ok (.getfield 132, 3) := by decide +kernel
theorem dX9_readAct_56 : decode cX9_readAct 56 = .ok (.invokevirtual 154, 3) := by decide +kernel
theorem dX9_readAct_59 : decode cX9_readAct 59 = .ok (.return_, 1) := by decide +kernel
theorem dX9_readAct_60 : decode cX9_readAct 60 = .ok (.aload_n 0, 1) := by decide +kernel
theorem dX9_readAct_61 : decode cX9_readAct 61 = .ok (.dup, 1) := by decide +kernel
theorem dX9_readAct_62 : decode cX9_readAct 62 = .ok (.getfield 132, 3) := by decide +kernel
theorem dX9_readAct_65 : decode cX9_readAct 65 = .ok (.iconst 1, 1) := by decide +kernel
theorem dX9_readAct_66 : decode cX9_readAct 66 = .ok (.iadd, 1) := by decide +kernel
theorem dX9_readAct_67 : decode cX9_readAct 67 = .ok (.putfield 132, 3) := by decide +kernel
theorem dX9_readAct_70 : decode cX9_readAct 70 = .ok (.aload_n 0, 1) := by decide +kernel
theorem dX9_readAct_71 : decode cX9_readAct 71 = .ok (.getfield 67, 3) := by decide +kernel
theorem dX9_readAct_74 : decode cX9_readAct 74 = .ok (.iload_n 1, 1) := by decide +kernel
theorem dX9_readAct_75 : decode cX9_readAct 75 = .ok (.iload_n 2, 1) := by decide +kernel
theorem dX9_readAct_76 : decode cX9_readAct 76 = .ok (.iastore, 1) := by decide +kernel
theorem dX9_readAct_77 : decode cX9_readAct 77 = .ok (.aload_n 0, 1) := by decide +kernel
theorem dX9_readAct_78 : decode cX9_readAct 78 = .ok (.getfield 67, 3) := by decide +kernel
theorem dX9_readAct_81 : decode cX9_readAct 81 = .ok (.iload_n 1, 1) := by decide +kernel
theorem dX9_readAct_82 : decode cX9_readAct 82 = .ok (.iconst 1, 1) := by decide +kernel
theorem dX9_readAct_83 : decode cX9_readAct 83 = .ok (.iadd, 1) := by decide +kernel
theorem dX9_readAct_84 : decode cX9_readAct 84 = .ok (.iload_n 3, 1) := by decide +kernel
theorem dX9_readAct_85 : decode cX9_readAct 85 = .ok (.ifCond .eq 16, 3) := by decide +kernel
theorem dX9_readAct_88 : decode cX9_readAct 88 = .ok (.aload_n 0, 1) := by decide +kernel
theorem dX9_readAct_89 : decode cX9_readAct 89 = .ok (.bipush 49, 2) := by decide +kernel
theorem dX9_readAct_91 : decode cX9_readAct 91 = .ok (.bipush 9, 2) := by decide +kernel
theorem dX9_readAct_93 : decode cX9_readAct 93 = .ok (.invokevirtual 158, 3) := by decide +kernel
theorem dX9_readAct_96 : decode cX9_readAct 96 = .ok (.iconst 1, 1) := by decide +kernel
theorem dX9_readAct_97 : decode cX9_readAct 97 = .ok (.iadd, 1) := by decide +kernel
theorem dX9_readAct_98 : decode cX9_readAct 98 = .ok (.goto 11, 3) := by decide +kernel
theorem dX9_readAct_101 : decode cX9_readAct 101 = .ok (.aload_n 0, 1) := by decide +kernel
theorem dX9_readAct_102 : decode cX9_readAct 102 = .ok (.bipush 48, 2) := by decide +kernel
theorem dX9_readAct_104 : decode cX9_readAct 104 = .ok (.bipush 10, 2) := by decide +kernel
theorem dX9_readAct_106 : decode cX9_readAct 106 = .ok (.invokevirtual 158, 3) := by decide +kernel
theorem dX9_readAct_109 : decode cX9_readAct 109 = .ok (.iastore, 1) := by decide +kernel
theorem dX9_readAct_110 : decode cX9_readAct 110 = .ok (.iload_n 2, 1) := by decide +kernel
theorem dX9_readAct_111 : decode cX9_readAct 111 = .ok (.bipush 104, 2) := by decide +kernel
theorem dX9_readAct_113 : decode cX9_readAct 113 = .ok (.if_icmp .ne 19, 3) := by decide +kernel
theorem dX9_readAct_116 : decode cX9_readAct 116 = .ok (.aload_n 0, 1) := by decide +kernel
theorem dX9_readAct_117 : decode cX9_readAct 117 = .ok (.getfield 67, 3) := by decide +kernel
theorem dX9_readAct_120 : decode cX9_readAct 120 = .ok (.iload_n 1, 1) := by decide +kernel
theorem dX9_readAct_121 : decode cX9_readAct 121 = .ok (.iconst 2, 1) := by decide +kernel
theorem dX9_readAct_122 : decode cX9_readAct 122 = .ok (.iadd, 1) := by decide +kernel
theorem dX9_readAct_123 : decode cX9_readAct 123 = .ok (.aload_n 0, 1) := by decide +kernel
theorem dX9_readAct_124 : decode cX9_readAct 124 = .ok (.bipush 48, 2) := by decide +kernel
theorem dX9_readAct_126 : decode cX9_readAct 126 = .ok (.bipush 10, 2) := by decide +kernel
theorem dX9_readAct_128 : decode cX9_readAct 128 = .ok (.invokevirtual 158, 3) := by decide +kernel
theorem dX9_readAct_131 : decode cX9_readAct 131 = .ok (.iastore, 1) := by decide +kernel
theorem dX9_readAct_132 : decode cX9_readAct 132 = .ok (.return_, 1) := by decide +kernel
theorem dX9_act_0 : decode cX9_act 0 = .ok (.iload_n 1, 1) := by decide +kernel
theorem dX9_act_1 : decode cX9_act 1 = .ok (.lookupswitch 136 #[(97, 113), (99, 54), (104, 86), (110, 43)], 43) := by decide +kernel
theorem dX9_act_44 : decode cX9_act 44 = .ok (.aload_n 0, 1) := by decide +kernel
theorem dX9_act_45 : decode cX9_act 45 = .ok (.aload_n 0, 1) := by decide +kernel
theorem dX9_act_46 : decode cX9_act 46 = .ok (.getfield 9, 3) := by decide +kernel
theorem dX9_act_49 : decode cX9_act 49 = .ok (.iload_n 2, 1) := by decide +kernel
theorem dX9_act_50 : decode cX9_act 50 = .ok (.invokevirtual 271, 3) := by decide +kernel
theorem dX9_act_53 : decode cX9_act 53 = .ok (.iconst 1, 1) := by decide +kernel
theorem dX9_act_54 : decode cX9_act 54 = .ok (.ireturn, 1) := by decide +kernel
theorem dX9_act_55 : decode cX9_act 55 = .ok (.aload_n 0, 1) := by decide +kernel
theorem dX9_act_56 : decode cX9_act 56 = .ok (.iload_n 2, 1) := by decide +kernel
theorem dX9_act_57 : decode cX9_act 57 = .ok (.invokevirtual 234, 3) := by decide +kernel
theorem dX9_act_60 : decode cX9_act 60 = .ok (.ifCond .ne 5, 3) := by decide +kernel
theorem dX9_act_63 : decode cX9_act 63 = .ok (.iconst 0, 1) := by decide +kernel
theorem dX9_act_64 : decode cX9_act 64 = .ok (.ireturn, 1) := by decide +kernel
theorem dX9_act_65 : decode cX9_act 65 = .ok (.aload_n 0, 1) := by decide +kernel
theorem dX9_act_66 : decode cX9_act 66 = .ok (.getfield 9, 3) := by decide +kernel
theorem dX9_act_69 : decode cX9_act 69 = .ok (.bipush 16, 2) := by decide +kernel
theorem dX9_act_71 : decode cX9_act 71 = .ok (.iload_n 2, 1) := by decide +kernel
theorem dX9_act_72 : decode cX9_act 72 = .ok (.iadd, 1) := by decide +kernel
theorem dX9_act_73 : decode cX9_act 73 = .ok (.iconst 1, 1) := by decide +kernel
theorem dX9_act_74 : decode cX9_act 74 = .ok (.aload_n 0, 1) := by decide +kernel
theorem dX9_act_75 : decode cX9_act 75 = .ok (.getfield 9, 3) := by decide +kernel
theorem dX9_act_78 : decode cX9_act 78 = .ok (.bipush 16, 2) := by decide +kernel
theorem dX9_act_80 : decode cX9_act 80 = .ok (.iload_n 2, 1) := by decide +kernel
theorem dX9_act_81 : decode cX9_act 81 = .ok (.iadd, 1) := by decide +kernel
theorem dX9_act_82 : decode cX9_act 82 = .ok (.iaload, 1) := by decide +kernel
theorem dX9_act_83 : decode cX9_act 83 = .ok (.isub, 1) := by decide +kernel
theorem dX9_act_84 : decode cX9_act 84 = .ok (.iastore, 1) := by decide +kernel
theorem dX9_act_85 : decode cX9_act 85 = .ok (.iconst 1, 1) := by decide +kernel
theorem dX9_act_86 : decode cX9_act 86 = .ok (.ireturn, 1) := by decide +kernel
theorem dX9_act_87 : decode cX9_act 87 = .ok (.aload_n 0, 1) := by decide +kernel
theorem dX9_act_88 : decode cX9_act 88 = .ok (.aload_n 0, 1) := by decide +kernel
theorem dX9_act_89 : decode cX9_act 89 = .ok (.getfield 9, 3) := by decide +kernel
theorem dX9_act_92 : decode cX9_act 92 = .ok (.iload_n 2, 1) := by decide +kernel
theorem dX9_act_93 : decode cX9_act 93 = .ok (.iload_n 3, 1) := by decide +kernel
theorem dX9_act_94 : decode cX9_act 94 = .ok (.invokevirtual 279, 3) := by decide +kernel
theorem dX9_act_97 : decode cX9_act 97 = .ok (.ifCond .ge 5, 3) := by decide +kernel
theorem dX9_act_100 : decode cX9_act 100 = .ok (.iconst 0, 1) := by decide +kernel
theorem dX9_act_101 : decode cX9_act 101 = .ok (.ireturn, 1) := by decide +kernel
theorem dX9_act_102 : decode cX9_act 102 = .ok (.aload_n 0, 1) := by decide +kernel
theorem dX9_act_103 : decode cX9_act 103 = .ok (.aload_n 0, 1) := by decide +kernel
theorem dX9_act_104 : decode cX9_act 104 = .ok (.getfield 9, 3) := by decide +kernel
theorem dX9_act_107 : decode cX9_act 107 = .ok (.iload_n 2, 1) := by decide +kernel
theorem dX9_act_108 : decode cX9_act 108 = .ok (.iload_n 3, 1) := by decide +kernel
theorem dX9_act_109 : decode cX9_act 109 = .ok (.invokevirtual 283, 3) := by decide +kernel
theorem dX9_act_112 : decode cX9_act 112 = .ok (.iconst 1, 1) := by decide +kernel
theorem dX9_act_113 : decode cX9_act 113 = .ok (.ireturn, 1) := by decide +kernel
theorem dX9_act_114 : decode cX9_act 114 = .ok (.aload_n 0, 1) := by decide +kernel
theorem dX9_act_115 : decode cX9_act 115 = .ok (.iload_n 2, 1) := by decide +kernel
theorem dX9_act_116 : decode cX9_act 116 = .ok (.invokevirtual 293, 3) := by decide +kernel
theorem dX9_act_119 : decode cX9_act 119 = .ok (.ifCond .ge 5, 3) := by decide +kernel
theorem dX9_act_122 : decode cX9_act 122 = .ok (.iconst 0, 1) := by decide +kernel
theorem dX9_act_123 : decode cX9_act 123 = .ok (.ireturn, 1) := by decide +kernel
theorem dX9_act_124 : decode cX9_act 124 = .ok (.aload_n 0, 1) := by decide +kernel
theorem dX9_act_125 : decode cX9_act 125 = .ok (.getfield 9, 3) := by decide +kernel
theorem dX9_act_128 : decode cX9_act 128 = .ok (.bipush 24, 2) := by decide +kernel
theorem dX9_act_130 : decode cX9_act 130 = .ok (.dup2, 1) := by decide +kernel
theorem dX9_act_131 : decode cX9_act 131 = .ok (.iaload, 1) := by decide +kernel
theorem dX9_act_132 : decode cX9_act 132 = .ok (.iload_n 2, 1) := by decide +kernel
theorem dX9_act_133 : decode cX9_act 133 = .ok (.isub, 1) := by decide +kernel
theorem dX9_act_134 : decode cX9_act 134 = .ok (.iastore, 1) := by decide +kernel
theorem dX9_act_135 : decode cX9_act 135 = .ok (.iconst 1, 1) := by decide +kernel
theorem dX9_act_136 : decode cX9_act 136 = .ok (.ireturn, 1) := by decide +kernel
theorem dX9_act_137 : decode cX9_act 137 = .ok (.iload_n 1, 1) := by decide +kernel
theorem dX9_act_138 : decode cX9_act 138 = .ok (.bipush 115, 2) := by decide +kernel
theorem dX9_act_140 : decode cX9_act 140 = .ok (.if_icmp .ne 7, 3) := by decide +kernel
theorem dX9_act_143 : decode cX9_act 143 = .ok (.iload_n 2, 1) := by decide +kernel
theorem dX9_act_144 : decode cX9_act 144 = .ok (.goto 5, 3) := by decide +kernel
theorem dX9_act_147 : decode cX9_act 147 = .ok (.iload_n 2, 1) := by decide +kernel
theorem dX9_act_148 : decode cX9_act 148 = .ok (.ineg, 1) := by decide +kernel
theorem dX9_act_149 : decode cX9_act 149 = .ok (.istore 4, 2) := by decide +kernel
theorem dX9_act_151 : decode cX9_act 151 = .ok (.aload_n 0, 1) := by decide +kernel
theorem dX9_act_152 : decode cX9_act 152 = .ok (.iload 4, 2) := by decide +kernel
theorem dX9_act_154 : decode cX9_act 154 = .ok (.invokevirtual 287, 3) := by decide +kernel
theorem dX9_act_157 : decode cX9_act 157 = .ok (.ifCond .ge 5, 3) := by decide +kernel
theorem dX9_act_160 : decode cX9_act 160 = .ok (.iconst 0, 1) := by decide +kernel
theorem dX9_act_161 : decode cX9_act 161 = .ok (.ireturn, 1) := by decide +kernel
theorem dX9_act_162 : decode cX9_act 162 = .ok (.aload_n 0, 1) := by decide +kernel
theorem dX9_act_163 : decode cX9_act 163 = .ok (.iload 4, 2) := by decide +kernel
theorem dX9_act_165 : decode cX9_act 165 = .ok (.invokevirtual 290, 3) := by decide +kernel
theorem dX9_act_168 : decode cX9_act 168 = .ok (.iconst 1, 1) := by decide +kernel
theorem dX9_act_169 : decode cX9_act 169 = .ok (.ireturn, 1) := by decide +kernel
theorem dX9_undo_0 : decode cX9_undo 0 = .ok (.aload_n 0, 1) := by decide +kernel
theorem dX9_undo_1 : decode cX9_undo 1 = .ok (.iconst 0, 1) := by decide +kernel
theorem dX9_undo_2 : decode cX9_undo 2 = .ok (.putfield 107, 3) := by decide +kernel
theorem dX9_undo_5 : decode cX9_undo 5 = .ok (.aload_n 0, 1) := by decide +kernel
theorem dX9_undo_6 : decode cX9_undo 6 = .ok (.getfield 175, 3) := by decide +kernel
theorem dX9_undo_9 : decode cX9_undo 9 = .ok (.ifCond .ne 5, 3) := by decide +kernel
theorem dX9_undo_12 : decode cX9_undo 12 = .ok (.iconst (-1), 1) := by decide +kernel
theorem dX9_undo_13 : decode cX9_undo 13 = .ok (.ireturn, 1) := by decide +kernel
theorem dX9_undo_14 : decode cX9_undo 14 = .ok (.aload_n 0, 1) := by decide +kernel
theorem dX9_undo_15 : decode cX9_undo 15 = .ok (.dup, 1) := by decide +kernel
theorem dX9_undo_16 : decode cX9_undo 16 = .ok (.getfield 175, 3) := by decide +kernel
theorem dX9_undo_19 : decode cX9_undo 19 = .ok (.iconst 1, 1) := by decide +kernel
theorem dX9_undo_20 : decode cX9_undo 20 = .ok (.isub, 1) := by decide +kernel
theorem dX9_undo_21 : decode cX9_undo 21 = .ok (.putfield 175, 3) := by decide +kernel
theorem dX9_undo_24 : decode cX9_undo 24 = .ok (.iconst 0, 1) := by decide +kernel
theorem dX9_undo_25 : decode cX9_undo 25 = .ok (.istore_n 1, 1) := by decide +kernel
theorem dX9_undo_26 : decode cX9_undo 26 = .ok (.iload_n 1, 1) := by decide +kernel
theorem dX9_undo_27 : decode cX9_undo 27 = .ok (.bipush 29, 2) := by decide +kernel
theorem dX9_undo_29 : decode cX9_undo 29 = .ok (.if_icmp .ge 29, 3) := by decide +kernel
theorem dX9_undo_32 : decode cX9_undo 32 = .ok (.aload_n 0, 1) := by decide +kernel
theorem dX9_undo_33 : decode cX9_undo 33 = .ok (.getfield 9, 3) := by decide +kernel
theorem dX9_undo_36 : decode cX9_undo 36 = .ok (.iload_n 1, 1) := by decide +kernel
theorem dX9_undo_37 : decode cX9_undo 37 = .ok (.aload_n 0, 1) := by decide +kernel
theorem dX9_undo_38 : decode cX9_undo 38 = .ok (.getfield 49, 3) := by decide +kernel
theorem dX9_undo_41 : decode cX9_undo 41 = .ok (.bipush 29, 2) := by decide +kernel
theorem dX9_undo_43 : decode cX9_undo 43 = .ok (.aload_n 0, 1) := by decide +kernel
theorem dX9_undo_44 : decode cX9_undo 44 = .ok (.getfield 175, 3) := by decide +kernel
theorem dX9_undo_47 : decode cX9_undo 47 = .ok (.imul, 1) := by decide +kernel
theorem dX9_undo_48 : decode cX9_undo 48 = .ok (.iload_n 1, 1) := by decide +kernel
theorem dX9_undo_49 : decode cX9_undo 49 = .ok (.iadd, 1) := by decide +kernel
theorem dX9_undo_50 : decode cX9_undo 50 = .ok (.iaload, 1) := by decide +kernel
theorem dX9_undo_51 : decode cX9_undo 51 = .ok (.iastore, 1) := by decide +kernel
theorem dX9_undo_52 : decode cX9_undo 52 = .ok (.iinc 1 1, 3) := by decide +kernel
theorem dX9_undo_55 : decode cX9_undo 55 = .ok (.goto (-29), 3) := by decide +kernel
theorem dX9_undo_58 : decode cX9_undo 58 = .ok (.aload_n 0, 1) := by decide +kernel
theorem dX9_undo_59 : decode cX9_undo 59 = .ok (.getfield 175, 3) := by decide +kernel
theorem dX9_undo_62 : decode cX9_undo 62 = .ok (.ireturn, 1) := by decide +kernel
theorem dX9_tonight_0 : decode cX9_tonight 0 = .ok (.aload_n 0, 1) := by decide +kernel
theorem dX9_tonight_1 : decode cX9_tonight 1 = .ok (.iconst 0, 1) := by decide +kernel
theorem dX9_tonight_2 : decode cX9_tonight 2 = .ok (.putfield 107, 3) := by decide +kernel
theorem dX9_tonight_5 : decode cX9_tonight 5 = .ok (.aload_n 0, 1) := by decide +kernel
theorem dX9_tonight_6 : decode cX9_tonight 6 = .ok (.aload_n 0, 1) := by decide +kernel
theorem dX9_tonight_7 : decode cX9_tonight 7 = .ok (.getfield 9, 3) := by decide +kernel
theorem dX9_tonight_10 : decode cX9_tonight 10 = .ok (.invokevirtual 258, 3) := by decide +kernel
theorem dX9_tonight_13 : decode cX9_tonight 13 = .ok (.iconst 0, 1) := by decide +kernel
theorem dX9_tonight_14 : decode cX9_tonight 14 = .ok (.istore_n 1, 1) := by decide +kernel
theorem dX9_tonight_15 : decode cX9_tonight 15 = .ok (.iconst 0, 1) := by decide +kernel
theorem dX9_tonight_16 : decode cX9_tonight 16 = .ok (.istore_n 2, 1) := by decide +kernel
theorem dX9_tonight_17 : decode cX9_tonight 17 = .ok (.iload_n 2, 1) := by decide +kernel
theorem dX9_tonight_18 : decode cX9_tonight 18 = .ok (.aload_n 0, 1) := by decide +kernel
theorem dX9_tonight_19 : decode cX9_tonight 19 = .ok (.getfield 113, 3) := by decide +kernel
theorem dX9_tonight_22 : decode cX9_tonight 22 = .ok (.if_icmp .ge 28, 3) := by decide +kernel
theorem dX9_tonight_25 : decode cX9_tonight 25 = .ok (.iload_n 1, 1) := by decide +kernel
theorem dX9_tonight_26 : decode cX9_tonight 26 = .ok (.aload_n 0, 1) := by decide +kernel
theorem dX9_tonight_27 : decode cX9_tonight 27 = .ok (.getfield 64, 3) := by decide +kernel
theorem dX9_tonight_30 : decode cX9_tonight 30 = .ok (.iload_n 2, 1) := by decide +kernel
theorem dX9_tonight_31 : decode cX9_tonight 31 = .ok (.iaload, 1) := by decide +kernel
theorem dX9_tonight_32 : decode cX9_tonight 32 = .ok (.ifCond .le 9, 3) := by decide +kernel
theorem dX9_tonight_35 : decode cX9_tonight 35 = .ok (.iconst 1, 1) := by decide +kernel
theorem dX9_tonight_36 : decode cX9_tonight 36 = .ok (.iload_n 2, 1) := by decide +kernel
theorem dX9_tonight_37 : decode cX9_tonight 37 = .ok (.ishl, 1) := by decide +kernel
theorem dX9_tonight_38 : decode cX9_tonight 38 = .ok (.goto 4, 3) := by decide +kernel
theorem dX9_tonight_41 : decode cX9_tonight 41 = .ok (.iconst 0, 1) := by decide +kernel
theorem dX9_tonight_42 : decode cX9_tonight 42 = .ok (.ior, 1) := by decide +kernel
theorem dX9_tonight_43 : decode cX9_tonight 43 = .ok (.istore_n 1, 1) := by decide +kernel
theorem dX9_tonight_44 : decode cX9_tonight 44 = .ok (.iinc 2 1, 3) := by decide +kernel
theorem dX9_tonight_47 : decode cX9_tonight 47 = .ok (.goto (-30), 3) := by decide +kernel
theorem dX9_tonight_50 : decode cX9_tonight 50 = .ok (.aload_n 0, 1) := by decide +kernel
theorem dX9_tonight_51 : decode cX9_tonight 51 = .ok (.iconst 0, 1) := by decide +kernel
theorem dX9_tonight_52 : decode cX9_tonight 52 = .ok (.putfield 110, 3) := by decide +kernel
theorem dX9_tonight_55 : decode cX9_tonight 55 = .ok (.aload_n 0, 1) := by decide +kernel
theorem dX9_tonight_56 : decode cX9_tonight 56 = .ok (.aload_n 0, 1) := by decide +kernel
theorem dX9_tonight_57 : decode cX9_tonight 57 = .ok (.getfield 255, 3) := by decide +kernel
theorem dX9_tonight_60 : decode cX9_tonight 60 = .ok (.i2l, 1) := by decide +kernel
theorem dX9_tonight_61 : decode cX9_tonight 61 = .ok (.invokevirtual 275, 3) := by decide +kernel
theorem dX9_tonight_64 : decode cX9_tonight 64 = .ok (.aload_n 0, 1) := by decide +kernel
theorem dX9_tonight_65 : decode cX9_tonight 65 = .ok (.aload_n 0, 1) := by decide +kernel
theorem dX9_tonight_66 : decode cX9_tonight 66 = .ok (.getfield 252, 3) := by decide +kernel
theorem dX9_tonight_69 : decode cX9_tonight 69 = .ok (.i2l, 1) := by decide +kernel
theorem dX9_tonight_70 : decode cX9_tonight 70 = .ok (.invokevirtual 275, 3) := by decide +kernel
theorem dX9_tonight_73 : decode cX9_tonight 73 = .ok (.iload_n 1, 1) := by decide +kernel
theorem dX9_tonight_74 : decode cX9_tonight 74 = .ok (.ireturn, 1) := by decide +kernel
theorem dX9_later_0 : decode cX9_later 0 = .ok (.aload_n 0, 1) := by decide +kernel
theorem dX9_later_1 : decode cX9_later 1 = .ok (.iconst 0, 1) := by decide +kernel
theorem dX9_later_2 : decode cX9_later 2 = .ok (.putfield 107, 3) := by decide +kernel
theorem dX9_later_5 : decode cX9_later 5 = .ok (.iload_n 1, 1) := by decide +kernel
theorem dX9_later_6 : decode cX9_later 6 = .ok (.iconst 0, 1) := by decide +kernel
theorem dX9_later_7 : decode cX9_later 7 = .ok (.bipush 99, 2) := by decide +kernel
theorem dX9_later_9 : decode cX9_later 9 = .ok (.invokestatic 116, 3) := by decide +kernel
theorem dX9_later_12 : decode cX9_later 12 = .ok (.ifCond .ne 5, 3) := by decide +kernel
theorem dX9_later_15 : decode cX9_later 15 = .ok (.iconst (-1), 1) := by decide +kernel
theorem dX9_later_16 : decode cX9_later 16 = .ok (.ireturn, 1) := by decide +kernel
theorem dX9_later_17 : decode cX9_later 17 = .ok (.aload_n 0, 1) := by decide +kernel
theorem dX9_later_18 : decode cX9_later 18 = .ok (.getfield 9, 3) := by decide +kernel
theorem dX9_later_21 : decode cX9_later 21 = .ok (.aload_n 0, 1) := by decide +kernel
theorem dX9_later_22 : decode cX9_later 22 = .ok (.getfield 55, 3) := by decide +kernel
theorem dX9_later_25 : decode cX9_later 25 = .ok (.iconst 0, 1) := by decide +kernel
theorem dX9_later_26 : decode cX9_later 26 = .ok (.invokestatic 248, 3) := by decide +kernel
theorem dX9_later_29 : decode cX9_later 29 = .ok (.aload_n 0, 1) := by decide +kernel
theorem dX9_later_30 : decode cX9_later 30 = .ok (.aload_n 0, 1) := by decide +kernel
theorem dX9_later_31 : decode cX9_later 31 = .ok (.getfield 55, 3) := by decide +kernel
theorem dX9_later_34 : decode cX9_later 34 = .ok (.iload_n 1, 1) := by decide +kernel
theorem dX9_later_35 : decode cX9_later 35 = .ok (.invokevirtual 271, 3) := by decide +kernel
theorem dX9_later_38 : decode cX9_later 38 = .ok (.aload_n 0, 1) := by decide +kernel
theorem dX9_later_39 : decode cX9_later 39 = .ok (.iconst 0, 1) := by decide +kernel
theorem dX9_later_40 : decode cX9_later 40 = .ok (.putfield 110, 3) := by decide +kernel
theorem dX9_later_43 : decode cX9_later 43 = .ok (.aload_n 0, 1) := by decide +kernel
theorem dX9_later_44 : decode cX9_later 44 = .ok (.aload_n 0, 1) := by decide +kernel
theorem dX9_later_45 : decode cX9_later 45 = .ok (.getfield 55, 3) := by decide +kernel
theorem dX9_later_48 : decode cX9_later 48 = .ok (.bipush 25, 2) := by decide +kernel
theorem dX9_later_50 : decode cX9_later 50 = .ok (.iaload, 1) := by decide +kernel
theorem dX9_later_51 : decode cX9_later 51 = .ok (.i2l, 1) := by decide +kernel
theorem dX9_later_52 : decode cX9_later 52 = .ok (.invokevirtual 275, 3) := by decide +kernel
theorem dX9_later_55 : decode cX9_later 55 = .ok (.aload_n 0, 1) := by decide +kernel
theorem dX9_later_56 : decode cX9_later 56 = .ok (.aload_n 0, 1) := by decide +kernel
theorem dX9_later_57 : decode cX9_later 57 = .ok (.getfield 55, 3) := by decide +kernel
theorem dX9_later_60 : decode cX9_later 60 = .ok (.bipush 26, 2) := by decide +kernel
theorem dX9_later_62 : decode cX9_later 62 = .ok (.iaload, 1) := by decide +kernel
theorem dX9_later_63 : decode cX9_later 63 = .ok (.i2l, 1) := by decide +kernel
theorem dX9_later_64 : decode cX9_later 64 = .ok (.invokevirtual 275, 3) := by decide +kernel
theorem dX9_later_67 : decode cX9_later 67 = .ok (.aload_n 0, 1) := by decide +kernel
theorem dX9_later_68 : decode cX9_later 68 = .ok (.getfield 55, 3) := by decide +kernel
theorem dX9_later_71 : decode cX9_later 71 = .ok (.bipush 24, 2) := by decide +kernel
theorem dX9_later_73 : decode cX9_later 73 = .ok (.iaload, 1) := by decide +kernel
theorem dX9_later_74 : decode cX9_later 74 = .ok (.ireturn, 1) := by decide +kernel
theorem dX9_enough_0 : decode cX9_enough 0 = .ok (.aload_n 0, 1) := by decide +kernel
theorem dX9_enough_1 : decode cX9_enough 1 = .ok (.iconst 0, 1) := by decide +kernel
theorem dX9_enough_2 : decode cX9_enough 2 = .ok (.putfield 107, 3) := by decide +kernel
theorem dX9_enough_5 : decode cX9_enough 5 = .ok (.iload_n 1, 1) := by decide +kernel
theorem dX9_enough_6 : decode cX9_enough 6 = .ok (.iconst 0, 1) := by decide +kernel
theorem dX9_enough_7 : decode cX9_enough 7 = .ok (.sipush 9999, 3) := by decide +kernel
theorem dX9_enough_10 : decode cX9_enough 10 = .ok (.invokestatic 116, 3) := by decide +kernel
theorem dX9_enough_13 : decode cX9_enough 13 = .ok (.ifCond .ne 5, 3) := by decide +kernel
theorem dX9_enough_16 : decode cX9_enough 16 = .ok (.iconst (-1), 1) := by decide +kernel
theorem dX9_enough_17 : decode cX9_enough 17 = .ok (.ireturn, 1) := by decide +kernel
theorem dX9_enough_18 : decode cX9_enough 18 = .ok (.aload_n 0, 1) := by decide +kernel
theorem dX9_enough_19 : decode cX9_enough 19 = .ok (.getfield 9, 3) := by decide +kernel
theorem dX9_enough_22 : decode cX9_enough 22 = .ok (.aload_n 0, 1) := by decide +kernel
theorem dX9_enough_23 : decode cX9_enough 23 = .ok (.getfield 55, 3) := by decide +kernel
theorem dX9_enough_26 : decode cX9_enough 26 = .ok (.iconst 0, 1) := by decide +kernel
theorem dX9_enough_27 : decode cX9_enough 27 = .ok (.invokestatic 248, 3) := by decide +kernel
theorem dX9_enough_30 : decode cX9_enough 30 = .ok (.iconst 0, 1) := by decide +kernel
theorem dX9_enough_31 : decode cX9_enough 31 = .ok (.istore_n 2, 1) := by decide +kernel
theorem dX9_enough_32 : decode cX9_enough 32 = .ok (.iload_n 2, 1) := by decide +kernel
theorem dX9_enough_33 : decode cX9_enough 33 = .ok (.bipush 99, 2) := by decide +kernel
theorem dX9_enough_35 : decode cX9_enough 35 = .ok (.if_icmp .gt 47, 3) := by decide +kernel
theorem dX9_enough_38 : decode cX9_enough 38 = .ok (.aload_n 0, 1) := by decide +kernel
theorem dX9_enough_39 : decode cX9_enough 39 = .ok (.getfield 55, 3) := by decide +kernel
theorem dX9_enough_42 : decode cX9_enough 42 = .ok (.bipush 24, 2) := by decide +kernel
theorem dX9_enough_44 : decode cX9_enough 44 = .ok (.iaload, 1) := by decide +kernel
theorem dX9_enough_45 : decode cX9_enough 45 = .ok (.iload_n 1, 1) := by decide +kernel
theorem dX9_enough_46 : decode cX9_enough 46 = .ok (.if_icmp .lt 22, 3) := by decide +kernel
theorem dX9_enough_49 : decode cX9_enough 49 = .ok (.aload_n 0, 1) := by decide +kernel
theorem dX9_enough_50 : decode cX9_enough 50 = .ok (.iconst 0, 1) := by decide +kernel
theorem dX9_enough_51 : decode cX9_enough 51 = .ok (.putfield 110, 3) := by decide +kernel
theorem dX9_enough_54 : decode cX9_enough 54 = .ok (.aload_n 0, 1) := by decide +kernel
theorem dX9_enough_55 : decode cX9_enough 55 = .ok (.aload_n 0, 1) := by decide +kernel
theorem dX9_enough_56 : decode cX9_enough 56 = .ok (.getfield 55, 3) := by decide +kernel
theorem dX9_enough_59 : decode cX9_enough 59 = .ok (.bipush 25, 2) := by decide +kernel
theorem dX9_enough_61 : decode cX9_enough 61 = .ok (.iaload, 1) := by decide +kernel
theorem dX9_enough_62 : decode cX9_enough 62 = .ok (.i2l, 1) := by decide +kernel
theorem dX9_enough_63 : decode cX9_enough 63 = .ok (.invokevirtual 275, 3) := by decide +kernel
theorem dX9_enough_66 : decode cX9_enough 66 = .ok (.iload_n 2, 1) := by decide +kernel
theorem dX9_enough_67 : decode cX9_enough 67 = .ok (.ireturn, 1) := by decide +kernel
theorem dX9_enough_68 : decode cX9_enough 68 = .ok (.aload_n 0, 1) := by decide +kernel
theorem dX9_enough_69 : decode cX9_enough 69 = .ok (.aload_n 0, 1) := by decide +kernel
theorem dX9_enough_70 : decode cX9_enough 70 = .ok (.getfield 55, 3) := by decide +kernel
theorem dX9_enough_73 : decode cX9_enough 73 = .ok (.invokevirtual 265, 3) := by decide +kernel
theorem dX9_enough_76 : decode cX9_enough 76 = .ok (.iinc 2 1, 3) := by decide +kernel
theorem dX9_enough_79 : decode cX9_enough 79 = .ok (.goto (-47), 3) := by decide +kernel
theorem dX9_enough_82 : decode cX9_enough 82 = .ok (.bipush (-2), 2) := by decide +kernel
theorem dX9_enough_84 : decode cX9_enough 84 = .ok (.ireturn, 1) := by decide +kernel
theorem dX9_hears_0 : decode cX9_hears 0 = .ok (.aload_n 0, 1) := by decide +kernel
theorem dX9_hears_1 : decode cX9_hears 1 = .ok (.iconst 0, 1) := by decide +kernel
theorem dX9_hears_2 : decode cX9_hears 2 = .ok (.putfield 107, 3) := by decide +kernel
theorem dX9_hears_5 : decode cX9_hears 5 = .ok (.aload_n 0, 1) := by decide +kernel
theorem dX9_hears_6 : decode cX9_hears 6 = .ok (.iload_n 1, 1) := by decide +kernel
theorem dX9_hears_7 : decode cX9_hears 7 = .ok (.invokevirtual 234, 3) := by decide +kernel
theorem dX9_hears_10 : decode cX9_hears 10 = .ok (.ifCond .eq 13, 3) := by decide +kernel
theorem dX9_hears_13 : decode cX9_hears 13 = .ok (.iload_n 2, 1) := by decide +kernel
theorem dX9_hears_14 : decode cX9_hears 14 = .ok (.iconst 0, 1) := by decide +kernel
theorem dX9_hears_15 : decode cX9_hears 15 = .ok (.bipush 99, 2) := by decide +kernel
theorem dX9_hears_17 : decode cX9_hears 17 = .ok (.invokestatic 116, 3) := by decide +kernel
theorem dX9_hears_20 : decode cX9_hears 20 = .ok (.ifCond .ne 5, 3) := by decide +kernel
theorem dX9_hears_23 : decode cX9_hears 23 = .ok (.iconst (-1), 1) := by decide +kernel
theorem dX9_hears_24 : decode cX9_hears 24 = .ok (.ireturn, 1) := by decide +kernel
theorem dX9_hears_25 : decode cX9_hears 25 = .ok (.aload_n 0, 1) := by decide +kernel
theorem dX9_hears_26 : decode cX9_hears 26 = .ok (.getfield 9, 3) := by decide +kernel
theorem dX9_hears_29 : decode cX9_hears 29 = .ok (.aload_n 0, 1) := by decide +kernel
theorem dX9_hears_30 : decode cX9_hears 30 = .ok (.getfield 55, 3) := by decide +kernel
theorem dX9_hears_33 : decode cX9_hears 33 = .ok (.iconst 0, 1) := by decide +kernel
theorem dX9_hears_34 : decode cX9_hears 34 = .ok (.invokestatic 248, 3) := by decide +kernel
theorem dX9_hears_37 : decode cX9_hears 37 = .ok (.iconst 0, 1) := by decide +kernel
theorem dX9_hears_38 : decode cX9_hears 38 = .ok (.istore_n 3, 1) := by decide +kernel
theorem dX9_hears_39 : decode cX9_hears 39 = .ok (.iload_n 3, 1) := by decide +kernel
theorem dX9_hears_40 : decode cX9_hears 40 = .ok (.bipush 99, 2) := by decide +kernel
theorem dX9_hears_42 : decode cX9_hears 42 = .ok (.if_icmp .gt 46, 3) := by decide +kernel
theorem dX9_hears_45 : decode cX9_hears 45 = .ok (.aload_n 0, 1) := by decide +kernel
theorem dX9_hears_46 : decode cX9_hears 46 = .ok (.getfield 55, 3) := by decide +kernel
theorem dX9_hears_49 : decode cX9_hears 49 = .ok (.iload_n 1, 1) := by decide +kernel
theorem dX9_hears_50 : decode cX9_hears 50 = .ok (.iaload, 1) := by decide +kernel
theorem dX9_hears_51 : decode cX9_hears 51 = .ok (.iload_n 2, 1) := by decide +kernel
theorem dX9_hears_52 : decode cX9_hears 52 = .ok (.if_icmp .lt 22, 3) := by decide +kernel
theorem dX9_hears_55 : decode cX9_hears 55 = .ok (.aload_n 0, 1) := by decide +kernel
theorem dX9_hears_56 : decode cX9_hears 56 = .ok (.iconst 0, 1) := by decide +kernel
theorem dX9_hears_57 : decode cX9_hears 57 = .ok (.putfield 110, 3) := by decide +kernel
theorem dX9_hears_60 : decode cX9_hears 60 = .ok (.aload_n 0, 1) := by decide +kernel
theorem dX9_hears_61 : decode cX9_hears 61 = .ok (.aload_n 0, 1) := by decide +kernel
theorem dX9_hears_62 : decode cX9_hears 62 = .ok (.getfield 55, 3) := by decide +kernel
theorem dX9_hears_65 : decode cX9_hears 65 = .ok (.bipush 24, 2) := by decide +kernel
theorem dX9_hears_67 : decode cX9_hears 67 = .ok (.iaload, 1) := by decide +kernel
theorem dX9_hears_68 : decode cX9_hears 68 = .ok (.i2l, 1) := by decide +kernel
theorem dX9_hears_69 : decode cX9_hears 69 = .ok (.invokevirtual 275, 3) := by decide +kernel
theorem dX9_hears_72 : decode cX9_hears 72 = .ok (.iload_n 3, 1) := by decide +kernel
theorem dX9_hears_73 : decode cX9_hears 73 = .ok (.ireturn, 1) := by decide +kernel
theorem dX9_hears_74 : decode cX9_hears 74 = .ok (.aload_n 0, 1) := by decide +kernel
theorem dX9_hears_75 : decode cX9_hears 75 = .ok (.aload_n 0, 1) := by decide +kernel
theorem dX9_hears_76 : decode cX9_hears 76 = .ok (.getfield 55, 3) := by decide +kernel
theorem dX9_hears_79 : decode cX9_hears 79 = .ok (.invokevirtual 265, 3) := by decide +kernel
theorem dX9_hears_82 : decode cX9_hears 82 = .ok (.iinc 3 1, 3) := by decide +kernel
theorem dX9_hears_85 : decode cX9_hears 85 = .ok (.goto (-46), 3) := by decide +kernel
theorem dX9_hears_88 : decode cX9_hears 88 = .ok (.bipush (-2), 2) := by decide +kernel
theorem dX9_hears_90 : decode cX9_hears 90 = .ok (.ireturn, 1) := by decide +kernel
theorem dX9_quiet_0 : decode cX9_quiet 0 = .ok (.aload_n 0, 1) := by decide +kernel
theorem dX9_quiet_1 : decode cX9_quiet 1 = .ok (.iconst 0, 1) := by decide +kernel
theorem dX9_quiet_2 : decode cX9_quiet 2 = .ok (.putfield 107, 3) := by decide +kernel
theorem dX9_quiet_5 : decode cX9_quiet 5 = .ok (.iload_n 1, 1) := by decide +kernel
theorem dX9_quiet_6 : decode cX9_quiet 6 = .ok (.iconst 0, 1) := by decide +kernel
theorem dX9_quiet_7 : decode cX9_quiet 7 = .ok (.bipush 60, 2) := by decide +kernel
theorem dX9_quiet_9 : decode cX9_quiet 9 = .ok (.invokestatic 116, 3) := by decide +kernel
theorem dX9_quiet_12 : decode cX9_quiet 12 = .ok (.ifCond .ne 5, 3) := by decide +kernel
theorem dX9_quiet_15 : decode cX9_quiet 15 = .ok (.iconst (-1), 1) := by decide +kernel
theorem dX9_quiet_16 : decode cX9_quiet 16 = .ok (.ireturn, 1) := by decide +kernel
theorem dX9_quiet_17 : decode cX9_quiet 17 = .ok (.aload_n 0, 1) := by decide +kernel
theorem dX9_quiet_18 : decode cX9_quiet 18 = .ok (.getfield 9, 3) := by decide +kernel
theorem dX9_quiet_21 : decode cX9_quiet 21 = .ok (.aload_n 0, 1) := by decide +kernel
theorem dX9_quiet_22 : decode cX9_quiet 22 = .ok (.getfield 55, 3) := by decide +kernel
theorem dX9_quiet_25 : decode cX9_quiet 25 = .ok (.iconst 0, 1) := by decide +kernel
theorem dX9_quiet_26 : decode cX9_quiet 26 = .ok (.invokestatic 248, 3) := by decide +kernel
theorem dX9_quiet_29 : decode cX9_quiet 29 = .ok (.iconst 0, 1) := by decide +kernel
theorem dX9_quiet_30 : decode cX9_quiet 30 = .ok (.istore_n 2, 1) := by decide +kernel
theorem dX9_quiet_31 : decode cX9_quiet 31 = .ok (.iconst (-1), 1) := by decide +kernel
theorem dX9_quiet_32 : decode cX9_quiet 32 = .ok (.istore_n 3, 1) := by decide +kernel
theorem dX9_quiet_33 : decode cX9_quiet 33 = .ok (.iconst 0, 1) := by decide +kernel
theorem dX9_quiet_34 : decode cX9_quiet 34 = .ok (.istore 4, 2) := by decide +kernel
theorem dX9_quiet_36 : decode cX9_quiet 36 = .ok (.iconst 0, 1) := by decide +kernel
theorem dX9_quiet_37 : decode cX9_quiet 37 = .ok (.istore 5, 2) := by decide +kernel
theorem dX9_quiet_39 : decode cX9_quiet 39 = .ok (.iload 5, 2) := by decide +kernel
theorem dX9_quiet_41 : decode cX9_quiet 41 = .ok (.iload_n 1, 1) := by decide +kernel
theorem dX9_quiet_42 : decode cX9_quiet 42 = .ok (.if_icmp .ge 69, 3) := by decide +kernel
theorem dX9_quiet_45 : decode cX9_quiet 45 = .ok (.aload_n 0, 1) := by decide +kernel
theorem dX9_quiet_46 : decode cX9_quiet 46 = .ok (.aload_n 0, 1) := by decide +kernel
theorem dX9_quiet_47 : decode cX9_quiet 47 = .ok (.getfield 55, 3) := by decide +kernel
theorem dX9_quiet_50 : decode cX9_quiet 50 = .ok (.bipush 28, 2) := by decide +kernel
theorem dX9_quiet_52 : decode cX9_quiet 52 = .ok (.iaload, 1) := by decide +kernel
theorem dX9_quiet_53 : decode cX9_quiet 53 = .ok (.invokevirtual 213, 3) := by decide +kernel
theorem dX9_quiet_56 : decode cX9_quiet 56 = .ok (.istore 6, 2) := by decide +kernel
theorem dX9_quiet_58 : decode cX9_quiet 58 = .ok (.aload_n 0, 1) := by decide +kernel
theorem dX9_quiet_59 : decode cX9_quiet 59 = .ok (.aload_n 0, 1) := by decide +kernel
theorem dX9_quiet_60 : decode cX9_quiet 60 = .ok (.getfield 55, 3) := by decide +kernel
theorem dX9_quiet_63 : decode cX9_quiet 63 = .ok (.invokevirtual 265, 3) := by decide +kernel
theorem dX9_quiet_66 : decode cX9_quiet 66 = .ok (.aload_n 0, 1) := by decide +kernel
theorem dX9_quiet_67 : decode cX9_quiet 67 = .ok (.getfield 252, 3) := by decide +kernel
theorem dX9_quiet_70 : decode cX9_quiet 70 = .ok (.iload 6, 2) := by decide +kernel
theorem dX9_quiet_72 : decode cX9_quiet 72 = .ok (.if_icmp .ne 10, 3) := by decide +kernel
theorem dX9_quiet_75 : decode cX9_quiet 75 = .ok (.iload 4, 2) := by decide +kernel
theorem dX9_quiet_77 : decode cX9_quiet 77 = .ok (.iconst 1, 1) := by decide +kernel
theorem dX9_quiet_78 : decode cX9_quiet 78 = .ok (.iadd, 1) := by decide +kernel
theorem dX9_quiet_79 : decode cX9_quiet 79 = .ok (.goto 4, 3) := by decide +kernel
theorem dX9_quiet_82 : decode cX9_quiet 82 = .ok (.iconst 0, 1) := by decide +kernel
theorem dX9_quiet_83 : decode cX9_quiet 83 = .ok (.istore 4, 2) := by decide +kernel
theorem dX9_quiet_85 : decode cX9_quiet 85 = .ok (.iload 4, 2) := by decide +kernel
theorem dX9_quiet_87 : decode cX9_quiet 87 = .ok (.iload_n 2, 1) := by decide +kernel
theorem dX9_quiet_88 : decode cX9_quiet 88 = .ok (.if_icmp .gt 6, 3) := by decide +kernel
theorem dX9_quiet_91 : decode cX9_quiet 91 = .ok (.goto 14, 3) := by decide +kernel
theorem dX9_quiet_94 : decode cX9_quiet 94 = .ok (.iload 4, 2) := by decide +kernel
theorem dX9_quiet_96 : decode cX9_quiet 96 = .ok (.istore_n 2, 1) := by decide +kernel
theorem dX9_quiet_97 : decode cX9_quiet 97 = .ok (.iload 5, 2) := by decide +kernel
theorem dX9_quiet_99 : decode cX9_quiet 99 = .ok (.iload 4, 2) := by decide +kernel
theorem dX9_quiet_101 : decode cX9_quiet 101 = .ok (.isub, 1) := by decide +kernel
theorem dX9_quiet_102 : decode cX9_quiet 102 = .ok (.iconst 1, 1) := by decide +kernel
theorem dX9_quiet_103 : decode cX9_quiet 103 = .ok (.iadd, 1) := by decide +kernel
theorem dX9_quiet_104 : decode cX9_quiet 104 = .ok (.istore_n 3, 1) := by decide +kernel
theorem dX9_quiet_105 : decode cX9_quiet 105 = .ok (.iinc 5 1, 3) := by decide +kernel
theorem dX9_quiet_108 : decode cX9_quiet 108 = .ok (.goto (-69), 3) := by decide +kernel
theorem dX9_quiet_111 : decode cX9_quiet 111 = .ok (.aload_n 0, 1) := by decide +kernel
theorem dX9_quiet_112 : decode cX9_quiet 112 = .ok (.iconst 0, 1) := by decide +kernel
theorem dX9_quiet_113 : decode cX9_quiet 113 = .ok (.putfield 110, 3) := by decide +kernel
theorem dX9_quiet_116 : decode cX9_quiet 116 = .ok (.aload_n 0, 1) := by decide +kernel
theorem dX9_quiet_117 : decode cX9_quiet 117 = .ok (.iload_n 3, 1) := by decide +kernel
theorem dX9_quiet_118 : decode cX9_quiet 118 = .ok (.i2l, 1) := by decide +kernel
theorem dX9_quiet_119 : decode cX9_quiet 119 = .ok (.invokevirtual 275, 3) := by decide +kernel
theorem dX9_quiet_122 : decode cX9_quiet 122 = .ok (.iload_n 2, 1) := by decide +kernel
theorem dX9_quiet_123 : decode cX9_quiet 123 = .ok (.ireturn, 1) := by decide +kernel
theorem dX9_drains_0 : decode cX9_drains 0 = .ok (.aload_n 0, 1) := by decide +kernel
theorem dX9_drains_1 : decode cX9_drains 1 = .ok (.iconst 0, 1) := by decide +kernel
theorem dX9_drains_2 : decode cX9_drains 2 = .ok (.putfield 107, 3) := by decide +kernel
theorem dX9_drains_5 : decode cX9_drains 5 = .ok (.aload_n 0, 1) := by decide +kernel
theorem dX9_drains_6 : decode cX9_drains 6 = .ok (.aload_n 0, 1) := by decide +kernel
theorem dX9_drains_7 : decode cX9_drains 7 = .ok (.getfield 9, 3) := by decide +kernel
theorem dX9_drains_10 : decode cX9_drains 10 = .ok (.invokevirtual 258, 3) := by decide +kernel
theorem dX9_drains_13 : decode cX9_drains 13 = .ok (.aload_n 0, 1) := by decide +kernel
theorem dX9_drains_14 : decode cX9_drains 14 = .ok (.getfield 252, 3) := by decide +kernel
theorem dX9_drains_17 : decode cX9_drains 17 = .ok (.istore_n 1, 1) := by decide +kernel
theorem dX9_drains_18 : decode cX9_drains 18 = .ok (.bipush (-2), 2) := by decide +kernel
theorem dX9_drains_20 : decode cX9_drains 20 = .ok (.istore_n 2, 1) := by decide +kernel
theorem dX9_drains_21 : decode cX9_drains 21 = .ok (.ldc_w 302, 3) := by decide +kernel
theorem dX9_drains_24 : decode cX9_drains 24 = .ok (.istore_n 3, 1) := by decide +kernel
theorem dX9_drains_25 : decode cX9_drains 25 = .ok (.iconst 0, 1) := by decide +kernel
theorem dX9_drains_26 : decode cX9_drains 26 = .ok (.istore 4, 2) := by decide +kernel
theorem dX9_drains_28 : decode cX9_drains 28 = .ok (.iload 4, 2) := by decide +kernel
theorem dX9_drains_30 : decode cX9_drains 30 = .ok (.aload_n 0, 1) := by decide +kernel
theorem dX9_drains_31 : decode cX9_drains 31 = .ok (.getfield 113, 3) := by decide +kernel
theorem dX9_drains_34 : decode cX9_drains 34 = .ok (.if_icmp .ge 79, 3) := by decide +kernel
theorem dX9_drains_37 : decode cX9_drains 37 = .ok (.aload_n 0, 1) := by decide +kernel
theorem dX9_drains_38 : decode cX9_drains 38 = .ok (.getfield 9, 3) := by decide +kernel
theorem dX9_drains_41 : decode cX9_drains 41 = .ok (.bipush 16, 2) := by decide +kernel
theorem dX9_drains_43 : decode cX9_drains 43 = .ok (.iload 4, 2) := by decide +kernel
theorem dX9_drains_45 : decode cX9_drains 45 = .ok (.iadd, 1) := by decide +kernel
theorem dX9_drains_46 : decode cX9_drains 46 = .ok (.iaload, 1) := by decide +kernel
theorem dX9_drains_47 : decode cX9_drains 47 = .ok (.ifCond .ne 6, 3) := by decide +kernel
theorem dX9_drains_50 : decode cX9_drains 50 = .ok (.goto 57, 3) := by decide +kernel
theorem dX9_drains_53 : decode cX9_drains 53 = .ok (.aload_n 0, 1) := by decide +kernel
theorem dX9_drains_54 : decode cX9_drains 54 = .ok (.getfield 9, 3) := by decide +kernel
theorem dX9_drains_57 : decode cX9_drains 57 = .ok (.aload_n 0, 1) := by decide +kernel
theorem dX9_drains_58 : decode cX9_drains 58 = .ok (.getfield 55, 3) := by decide +kernel
theorem dX9_drains_61 : decode cX9_drains 61 = .ok (.iconst 0, 1) := by decide +kernel
theorem dX9_drains_62 : decode cX9_drains 62 = .ok (.invokestatic 248, 3) := by decide +kernel
theorem dX9_drains_65 : decode cX9_drains 65 = .ok (.aload_n 0, 1) := by decide +kernel
theorem dX9_drains_66 : decode cX9_drains 66 = .ok (.getfield 55, 3) := by decide +kernel
theorem dX9_drains_69 : decode cX9_drains 69 = .ok (.bipush 16, 2) := by decide +kernel
theorem dX9_drains_71 : decode cX9_drains 71 = .ok (.iload 4, 2) := by decide +kernel
theorem dX9_drains_73 : decode cX9_drains 73 = .ok (.iadd, 1) := by decide +kernel
theorem dX9_drains_74 : decode cX9_drains 74 = .ok (.iconst 0, 1) := by decide +kernel
theorem dX9_drains_75 : decode cX9_drains 75 = .ok (.iastore, 1) := by decide +kernel
theorem dX9_drains_76 : decode cX9_drains 76 = .ok (.aload_n 0, 1) := by decide +kernel
theorem dX9_drains_77 : decode cX9_drains 77 = .ok (.aload_n 0, 1) := by decide +kernel
theorem dX9_drains_78 : decode cX9_drains 78 = .ok (.getfield 55, 3) := by decide +kernel
theorem dX9_drains_81 : decode cX9_drains 81 = .ok (.invokevirtual 258, 3) := by decide +kernel
theorem dX9_drains_84 : decode cX9_drains 84 = .ok (.aload_n 0, 1) := by decide +kernel
theorem dX9_drains_85 : decode cX9_drains 85 = .ok (.getfield 252, 3) := by decide +kernel
theorem dX9_drains_88 : decode cX9_drains 88 = .ok (.iload_n 1, 1) := by decide +kernel
theorem dX9_drains_89 : decode cX9_drains 89 = .ok (.isub, 1) := by decide +kernel
theorem dX9_drains_90 : decode cX9_drains 90 = .ok (.iload_n 3, 1) := by decide +kernel
theorem dX9_drains_91 : decode cX9_drains 91 = .ok (.if_icmp .gt 6, 3) := by decide +kernel
theorem dX9_drains_94 : decode cX9_drains 94 = .ok (.goto 13, 3) := by decide +kernel
theorem dX9_drains_97 : decode cX9_drains 97 = .ok (.iload 4, 2) := by decide +kernel
theorem dX9_drains_99 : decode cX9_drains 99 = .ok (.istore_n 2, 1) := by decide +kernel
theorem dX9_drains_100 : decode cX9_drains 100 = .ok (.aload_n 0, 1) := by decide +kernel
theorem dX9_drains_101 : decode cX9_drains 101 = .ok (.getfield 252, 3) := by decide +kernel
theorem dX9_drains_104 : decode cX9_drains 104 = .ok (.iload_n 1, 1) := by decide +kernel
theorem dX9_drains_105 : decode cX9_drains 105 = .ok (.isub, 1) := by decide +kernel
theorem dX9_drains_106 : decode cX9_drains 106 = .ok (.istore_n 3, 1) := by decide +kernel
theorem dX9_drains_107 : decode cX9_drains 107 = .ok (.iinc 4 1, 3) := by decide +kernel
theorem dX9_drains_110 : decode cX9_drains 110 = .ok (.goto (-82), 3) := by decide +kernel
theorem dX9_drains_113 : decode cX9_drains 113 = .ok (.iload_n 2, 1) := by decide +kernel
theorem dX9_drains_114 : decode cX9_drains 114 = .ok (.bipush (-2), 2) := by decide +kernel
theorem dX9_drains_116 : decode cX9_drains 116 = .ok (.if_icmp .ne 6, 3) := by decide +kernel
theorem dX9_drains_119 : decode cX9_drains 119 = .ok (.bipush (-2), 2) := by decide +kernel
theorem dX9_drains_121 : decode cX9_drains 121 = .ok (.ireturn, 1) := by decide +kernel
theorem dX9_drains_122 : decode cX9_drains 122 = .ok (.aload_n 0, 1) := by decide +kernel
theorem dX9_drains_123 : decode cX9_drains 123 = .ok (.iconst 0, 1) := by decide +kernel
theorem dX9_drains_124 : decode cX9_drains 124 = .ok (.putfield 110, 3) := by decide +kernel
theorem dX9_drains_127 : decode cX9_drains 127 = .ok (.aload_n 0, 1) := by decide +kernel
theorem dX9_drains_128 : decode cX9_drains 128 = .ok (.iload_n 3, 1) := by decide +kernel
theorem dX9_drains_129 : decode cX9_drains 129 = .ok (.i2l, 1) := by decide +kernel
theorem dX9_drains_130 : decode cX9_drains 130 = .ok (.invokevirtual 275, 3) := by decide +kernel
theorem dX9_drains_133 : decode cX9_drains 133 = .ok (.iload_n 2, 1) := by decide +kernel
theorem dX9_drains_134 : decode cX9_drains 134 = .ok (.ireturn, 1) := by decide +kernel
theorem dX9_admit_0 : decode cX9_admit 0 = .ok (.iconst 0, 1) := by decide +kernel
theorem dX9_admit_1 : decode cX9_admit 1 = .ok (.istore_n 3, 1) := by decide +kernel
theorem dX9_admit_2 : decode cX9_admit 2 = .ok (.iload_n 3, 1) := by decide +kernel
theorem dX9_admit_3 : decode cX9_admit 3 = .ok (.aload_n 0, 1) := by decide +kernel
theorem dX9_admit_4 : decode cX9_admit 4 = .ok (.getfield 113, 3) := by decide +kernel
theorem dX9_admit_7 : decode cX9_admit 7 = .ok (.if_icmp .ge 20, 3) := by decide +kernel
theorem dX9_admit_10 : decode cX9_admit 10 = .ok (.aload_n 1, 1) := by decide +kernel
theorem dX9_admit_11 : decode cX9_admit 11 = .ok (.bipush 16, 2) := by decide +kernel
theorem dX9_admit_13 : decode cX9_admit 13 = .ok (.iload_n 3, 1) := by decide +kernel
theorem dX9_admit_14 : decode cX9_admit 14 = .ok (.iadd, 1) := by decide +kernel
theorem dX9_admit_15 : decode cX9_admit 15 = .ok (.iload_n 2, 1) := by decide +kernel
theorem dX9_admit_16 : decode cX9_admit 16 = .ok (.iload_n 3, 1) := by decide +kernel
theorem dX9_admit_17 : decode cX9_admit 17 = .ok (.ishr, 1) := by decide +kernel
theorem dX9_admit_18 : decode cX9_admit 18 = .ok (.iconst 1, 1) := by decide +kernel
theorem dX9_admit_19 : decode cX9_admit 19 = .ok (.iand, 1) := by decide +kernel
theorem dX9_admit_20 : decode cX9_admit 20 = .ok (.iastore, 1) := by decide +kernel
theorem dX9_admit_21 : decode cX9_admit 21 = .ok (.iinc 3 1, 3) := by decide +kernel
theorem dX9_admit_24 : decode cX9_admit 24 = .ok (.goto (-22), 3) := by decide +kernel
theorem dX9_admit_27 : decode cX9_admit 27 = .ok (.return_, 1) := by decide +kernel
theorem dX9_admits_0 : decode cX9_admits 0 = .ok (.aload_n 0, 1) := by decide +kernel
theorem dX9_admits_1 : decode cX9_admits 1 = .ok (.iconst 0, 1) := by decide +kernel
theorem dX9_admits_2 : decode cX9_admits 2 = .ok (.putfield 107, 3) := by decide +kernel
theorem dX9_admits_5 : decode cX9_admits 5 = .ok (.iload_n 1, 1) := by decide +kernel
theorem dX9_admits_6 : decode cX9_admits 6 = .ok (.iconst 0, 1) := by decide +kernel
theorem dX9_admits_7 : decode cX9_admits 7 = .ok (.bipush 9, 2) := by decide +kernel
theorem dX9_admits_9 : decode cX9_admits 9 = .ok (.invokestatic 116, 3) := by decide +kernel
theorem dX9_admits_12 : decode cX9_admits 12 = .ok (.ifCond .ne 5, 3) := by decide +kernel
theorem dX9_admits_15 : decode cX9_admits 15 = .ok (.iconst (-1), 1) := by decide +kernel
theorem dX9_admits_16 : decode cX9_admits 16 = .ok (.ireturn, 1) := by decide +kernel
theorem dX9_admits_17 : decode cX9_admits 17 = .ok (.iconst (-1), 1) := by decide +kernel
theorem dX9_admits_18 : decode cX9_admits 18 = .ok (.istore_n 2, 1) := by decide +kernel
theorem dX9_admits_19 : decode cX9_admits 19 = .ok (.iconst (-1), 1) := by decide +kernel
theorem dX9_admits_20 : decode cX9_admits 20 = .ok (.istore_n 3, 1) := by decide +kernel
theorem dX9_admits_21 : decode cX9_admits 21 = .ok (.iconst 0, 1) := by decide +kernel
theorem dX9_admits_22 : decode cX9_admits 22 = .ok (.istore 4, 2) := by decide +kernel
theorem dX9_admits_24 : decode cX9_admits 24 = .ok (.iconst 0, 1) := by decide +kernel
theorem dX9_admits_25 : decode cX9_admits 25 = .ok (.istore 5, 2) := by decide +kernel
theorem dX9_admits_27 : decode cX9_admits 27 = .ok (.iload 5, 2) := by decide +kernel
theorem dX9_admits_29 : decode cX9_admits 29 = .ok (.iconst 1, 1) := by decide +kernel
theorem dX9_admits_30 : decode cX9_admits 30 = .ok (.aload_n 0, 1) := by decide +kernel
theorem dX9_admits_31 : decode cX9_admits 31 = .ok (.getfield 113, 3) := by decide +kernel
theorem dX9_admits_34 : decode cX9_admits 34 = .ok (.ishl, 1) := by decide +kernel
theorem dX9_admits_35 : decode cX9_admits 35 = .ok (.if_icmp .ge 72, 3) := by decide +kernel
theorem dX9_admits_38 : decode cX9_admits 38 = .ok (.aload_n 0, 1) := by decide +kernel
theorem dX9_admits_39 : decode cX9_admits 39 = .ok (.getfield 9, 3) := by decide +kernel
theorem dX9_admits_42 : decode cX9_admits 42 = .ok (.aload_n 0, 1) := by decide +kernel
theorem dX9_admits_43 : decode cX9_admits 43 = .ok (.getfield 55, 3) := by decide +kernel
theorem dX9_admits_46 : decode cX9_admits 46 = .ok (.iconst 0, 1) := by decide +kernel
theorem dX9_admits_47 : decode cX9_admits 47 = .ok (.invokestatic 248, 3) := by decide +kernel
theorem dX9_admits_50 : decode cX9_admits 50 = .ok (.aload_n 0, 1) := by decide +kernel
theorem dX9_admits_51 : decode cX9_admits 51 = .ok (.aload_n 0, 1) := by decide +kernel
theorem dX9_admits_52 : decode cX9_admits 52 = .ok (.getfield 55, 3) := by decide +kernel
theorem dX9_admits_55 : decode cX9_admits 55 = .ok (.iload 5, 2) := by decide +kernel
theorem dX9_admits_57 : decode cX9_admits 57 = .ok (.invokevirtual 303, 3) := by decide +kernel
theorem dX9_admits_60 : decode cX9_admits 60 = .ok (.aload_n 0, 1) := by decide +kernel
theorem dX9_admits_61 : decode cX9_admits 61 = .ok (.aload_n 0, 1) := by decide +kernel
theorem dX9_admits_62 : decode cX9_admits 62 = .ok (.getfield 55, 3) := by decide +kernel
theorem dX9_admits_65 : decode cX9_admits 65 = .ok (.invokevirtual 258, 3) := by decide +kernel
theorem dX9_admits_68 : decode cX9_admits 68 = .ok (.aload_n 0, 1) := by decide +kernel
theorem dX9_admits_69 : decode cX9_admits 69 = .ok (.getfield 252, 3) := by decide +kernel
theorem dX9_admits_72 : decode cX9_admits 72 = .ok (.iload_n 1, 1) := by decide +kernel
theorem dX9_admits_73 : decode cX9_admits 73 = .ok (.if_icmp .lt 28, 3) := by decide +kernel
theorem dX9_admits_76 : decode cX9_admits 76 = .ok (.aload_n 0, 1) := by decide +kernel
theorem dX9_admits_77 : decode cX9_admits 77 = .ok (.getfield 255, 3) := by decide +kernel
theorem dX9_admits_80 : decode cX9_admits 80 = .ok (.iload_n 3, 1) := by decide +kernel
theorem dX9_admits_81 : decode cX9_admits 81 = .ok (.if_icmp .gt 6, 3) := by decide +kernel
theorem dX9_admits_84 : decode cX9_admits 84 = .ok (.goto 17, 3) := by decide +kernel
theorem dX9_admits_87 : decode cX9_admits 87 = .ok (.iload 5, 2) := by decide +kernel
theorem dX9_admits_89 : decode cX9_admits 89 = .ok (.istore_n 2, 1) := by decide +kernel
theorem dX9_admits_90 : decode cX9_admits 90 = .ok (.aload_n 0, 1) := by decide +kernel
theorem dX9_admits_91 : decode cX9_admits 91 = .ok (.getfield 255, 3) := by decide +kernel
theorem dX9_admits_94 : decode cX9_admits 94 = .ok (.istore_n 3, 1) := by decide +kernel
theorem dX9_admits_95 : decode cX9_admits 95 = .ok (.aload_n 0, 1) := by decide +kernel
theorem dX9_admits_96 : decode cX9_admits 96 = .ok (.getfield 252, 3) := by decide +kernel
theorem dX9_admits_99 : decode cX9_admits 99 = .ok (.istore 4, 2) := by decide +kernel
theorem dX9_admits_101 : decode cX9_admits 101 = .ok (.iinc 5 1, 3) := by decide +kernel
theorem dX9_admits_104 : decode cX9_admits 104 = .ok (.goto (-77), 3) := by decide +kernel
theorem dX9_admits_107 : decode cX9_admits 107 = .ok (.iload_n 2, 1) := by decide +kernel
theorem dX9_admits_108 : decode cX9_admits 108 = .ok (.iconst (-1), 1) := by decide +kernel
theorem dX9_admits_109 : decode cX9_admits 109 = .ok (.if_icmp .ne 6, 3) := by decide +kernel
theorem dX9_admits_112 : decode cX9_admits 112 = .ok (.bipush (-2), 2) := by decide +kernel
theorem dX9_admits_114 : decode cX9_admits 114 = .ok (.ireturn, 1) := by decide +kernel
theorem dX9_admits_115 : decode cX9_admits 115 = .ok (.aload_n 0, 1) := by decide +kernel
theorem dX9_admits_116 : decode cX9_admits 116 = .ok (.iconst 0, 1) := by decide +kernel
theorem dX9_admits_117 : decode cX9_admits 117 = .ok (.putfield 110, 3) := by decide +kernel
theorem dX9_admits_120 : decode cX9_admits 120 = .ok (.aload_n 0, 1) := by decide +kernel
theorem dX9_admits_121 : decode cX9_admits 121 = .ok (.iload_n 2, 1) := by decide +kernel
theorem dX9_admits_122 : decode cX9_admits 122 = .ok (.i2l, 1) := by decide +kernel
theorem dX9_admits_123 : decode cX9_admits 123 = .ok (.invokevirtual 275, 3) := by decide +kernel
theorem dX9_admits_126 : decode cX9_admits 126 = .ok (.aload_n 0, 1) := by decide +kernel
theorem dX9_admits_127 : decode cX9_admits 127 = .ok (.iload 4, 2) := by decide +kernel
theorem dX9_admits_129 : decode cX9_admits 129 = .ok (.i2l, 1) := by decide +kernel
theorem dX9_admits_130 : decode cX9_admits 130 = .ok (.invokevirtual 275, 3) := by decide +kernel
theorem dX9_admits_133 : decode cX9_admits 133 = .ok (.iload_n 3, 1) := by decide +kernel
theorem dX9_admits_134 : decode cX9_admits 134 = .ok (.ireturn, 1) := by decide +kernel
theorem dX9_plans_0 : decode cX9_plans 0 = .ok (.aload_n 0, 1) := by decide +kernel
theorem dX9_plans_1 : decode cX9_plans 1 = .ok (.iconst 0, 1) := by decide +kernel
theorem dX9_plans_2 : decode cX9_plans 2 = .ok (.putfield 107, 3) := by decide +kernel
theorem dX9_plans_5 : decode cX9_plans 5 = .ok (.iload_n 1, 1) := by decide +kernel
theorem dX9_plans_6 : decode cX9_plans 6 = .ok (.iconst 0, 1) := by decide +kernel
theorem dX9_plans_7 : decode cX9_plans 7 = .ok (.bipush 18, 2) := by decide +kernel
theorem dX9_plans_9 : decode cX9_plans 9 = .ok (.invokestatic 116, 3) := by decide +kernel
theorem dX9_plans_12 : decode cX9_plans 12 = .ok (.ifCond .ne 5, 3) := by decide +kernel
theorem dX9_plans_15 : decode cX9_plans 15 = .ok (.iconst (-1), 1) := by decide +kernel
theorem dX9_plans_16 : decode cX9_plans 16 = .ok (.ireturn, 1) := by decide +kernel
theorem dX9_plans_17 : decode cX9_plans 17 = .ok (.iconst (-1), 1) := by decide +kernel
theorem dX9_plans_18 : decode cX9_plans 18 = .ok (.istore_n 2, 1) := by decide +kernel
theorem dX9_plans_19 : decode cX9_plans 19 = .ok (.iconst (-1), 1) := by decide +kernel
theorem dX9_plans_20 : decode cX9_plans 20 = .ok (.istore_n 3, 1) := by decide +kernel
theorem dX9_plans_21 : decode cX9_plans 21 = .ok (.iconst (-1), 1) := by decide +kernel
theorem dX9_plans_22 : decode cX9_plans 22 = .ok (.istore 4, 2) := by decide +kernel
theorem dX9_plans_24 : decode cX9_plans 24 = .ok (.iconst 0, 1) := by decide +kernel
theorem dX9_plans_25 : decode cX9_plans 25 = .ok (.istore 5, 2) := by decide +kernel
theorem dX9_plans_27 : decode cX9_plans 27 = .ok (.iload 5, 2) := by decide +kernel
theorem dX9_plans_29 : decode cX9_plans 29 = .ok (.iconst 1, 1) := by decide +kernel
theorem dX9_plans_30 : decode cX9_plans 30 = .ok (.aload_n 0, 1) := by decide +kernel
theorem dX9_plans_31 : decode cX9_plans 31 = .ok (.getfield 113, 3) := by decide +kernel
theorem dX9_plans_34 : decode cX9_plans 34 = .ok (.ishl, 1) := by decide +kernel
theorem dX9_plans_35 : decode cX9_plans 35 = .ok (.if_icmp .ge 129, 3) := by decide +kernel
theorem dX9_plans_38 : decode cX9_plans 38 = .ok (.aload_n 0, 1) := by decide +kernel
theorem dX9_plans_39 : decode cX9_plans 39 = .ok (.getfield 9, 3) := by decide +kernel
theorem dX9_plans_42 : decode cX9_plans 42 = .ok (.aload_n 0, 1) := by decide +kernel
theorem dX9_plans_43 : decode cX9_plans 43 = .ok (.getfield 58, 3) := by decide +kernel
theorem dX9_plans_46 : decode cX9_plans 46 = .ok (.iconst 0, 1) := by decide +kernel
theorem dX9_plans_47 : decode cX9_plans 47 = .ok (.invokestatic 248, 3) := by decide +kernel
theorem dX9_plans_50 : decode cX9_plans 50 = .ok (.aload_n 0, 1) := by decide +kernel
theorem dX9_plans_51 : decode cX9_plans 51 = .ok (.aload_n 0, 1) := by decide +kernel
theorem dX9_plans_52 : decode cX9_plans 52 = .ok (.getfield 58, 3) := by decide +kernel
theorem dX9_plans_55 : decode cX9_plans 55 = .ok (.iload 5, 2) := by decide +kernel
theorem dX9_plans_57 : decode cX9_plans 57 = .ok (.invokevirtual 303, 3) := by decide +kernel
theorem dX9_plans_60 : decode cX9_plans 60 = .ok (.aload_n 0, 1) := by decide +kernel
theorem dX9_plans_61 : decode cX9_plans 61 = .ok (.aload_n 0, 1) := by decide +kernel
theorem dX9_plans_62 : decode cX9_plans 62 = .ok (.getfield 58, 3) := by decide +kernel
theorem dX9_plans_65 : decode cX9_plans 65 = .ok (.invokevirtual 265, 3) := by decide +kernel
theorem dX9_plans_68 : decode cX9_plans 68 = .ok (.aload_n 0, 1) := by decide +kernel
theorem dX9_plans_69 : decode cX9_plans 69 = .ok (.getfield 255, 3) := by decide +kernel
theorem dX9_plans_72 : decode cX9_plans 72 = .ok (.istore 6, 2) := by decide +kernel
theorem dX9_plans_74 : decode cX9_plans 74 = .ok (.aload_n 0, 1) := by decide +kernel
theorem dX9_plans_75 : decode cX9_plans 75 = .ok (.getfield 252, 3) := by decide +kernel
theorem dX9_plans_78 : decode cX9_plans 78 = .ok (.istore 7, 2) := by decide +kernel
theorem dX9_plans_80 : decode cX9_plans 80 = .ok (.iconst 0, 1) := by decide +kernel
theorem dX9_plans_81 : decode cX9_plans 81 = .ok (.istore 8, 2) := by decide +kernel
theorem dX9_plans_83 : decode cX9_plans 83 = .ok (.iload 8, 2) := by decide +kernel
theorem dX9_plans_85 : decode cX9_plans 85 = .ok (.iconst 1, 1) := by decide +kernel
theorem dX9_plans_86 : decode cX9_plans 86 = .ok (.aload_n 0, 1) := by decide +kernel
theorem dX9_plans_87 : decode cX9_plans 87 = .ok (.getfield 113, 3) := by decide +kernel
theorem dX9_plans_90 : decode cX9_plans 90 = .ok (.ishl, 1) := by decide +kernel
theorem dX9_plans_91 : decode cX9_plans 91 = .ok (.if_icmp .ge 67, 3) := by decide +kernel
theorem dX9_plans_94 : decode cX9_plans 94 = .ok (.aload_n 0, 1) := by decide +kernel
theorem dX9_plans_95 : decode cX9_plans 95 = .ok (.aload_n 0, 1) := by decide +kernel
theorem dX9_plans_96 : decode cX9_plans 96 = .ok (.getfield 58, 3) := by decide +kernel
theorem dX9_plans_99 : decode cX9_plans 99 = .ok (.iload 8, 2) := by decide +kernel
theorem dX9_plans_101 : decode cX9_plans 101 = .ok (.invokevirtual 303, 3) := by decide +kernel
theorem dX9_plans_104 : decode cX9_plans 104 = .ok (.aload_n 0, 1) := by decide +kernel
theorem dX9_plans_105 : decode cX9_plans 105 = .ok (.aload_n 0, 1) := by decide +kernel
theorem dX9_plans_106 : decode cX9_plans 106 = .ok (.getfield 58, 3) := by decide +kernel
theorem dX9_plans_109 : decode cX9_plans 109 = .ok (.invokevirtual 258, 3) := by decide +kernel
theorem dX9_plans_112 : decode cX9_plans 112 = .ok (.iload 7, 2) := by decide +kernel
theorem dX9_plans_114 : decode cX9_plans 114 = .ok (.aload_n 0, 1) := by decide +kernel
theorem dX9_plans_115 : decode cX9_plans 115 = .ok (.getfield 252, 3) := by decide +kernel
theorem dX9_plans_118 : decode cX9_plans 118 = .ok (.iadd, 1) := by decide +kernel
theorem dX9_plans_119 : decode cX9_plans 119 = .ok (.iload_n 1, 1) := by decide +kernel
theorem dX9_plans_120 : decode cX9_plans 120 = .ok (.if_icmp .lt 32, 3) := by decide +kernel
theorem dX9_plans_123 : decode cX9_plans 123 = .ok (.iload 6, 2) := by decide +kernel
theorem dX9_plans_125 : decode cX9_plans 125 = .ok (.aload_n 0, 1) := by decide +kernel
theorem dX9_plans_126 : decode cX9_plans 126 = .ok (.getfield 255, 3) := by decide +kernel
theorem dX9_plans_129 : decode cX9_plans 129 = .ok (.iadd, 1) := by decide +kernel
theorem dX9_plans_130 : decode cX9_plans 130 = .ok (.iload_n 2, 1) := by decide +kernel
theorem dX9_plans_131 : decode cX9_plans 131 = .ok (.if_icmp .gt 6, 3) := by decide +kernel
theorem dX9_plans_134 : decode cX9_plans 134 = .ok (.goto 18, 3) := by decide +kernel
theorem dX9_plans_137 : decode cX9_plans 137 = .ok (.iload 6, 2) := by decide +kernel
theorem dX9_plans_139 : decode cX9_plans 139 = .ok (.aload_n 0, 1) := by decide +kernel
theorem dX9_plans_140 : decode cX9_plans 140 = .ok (.getfield 255, 3) := by decide +kernel
theorem dX9_plans_143 : decode cX9_plans 143 = .ok (.iadd, 1) := by decide +kernel
theorem dX9_plans_144 : decode cX9_plans 144 = .ok (.istore_n 2, 1) := by decide +kernel
theorem dX9_plans_145 : decode cX9_plans 145 = .ok (.iload 5, 2) := by decide +kernel
theorem dX9_plans_147 : decode cX9_plans 147 = .ok (.istore_n 3, 1) := by decide +kernel
theorem dX9_plans_148 : decode cX9_plans 148 = .ok (.iload 8, 2) := by decide +kernel
theorem dX9_plans_150 : decode cX9_plans 150 = .ok (.istore 4, 2) := by decide +kernel
theorem dX9_plans_152 : decode cX9_plans 152 = .ok (.iinc 8 1, 3) := by decide +kernel
theorem dX9_plans_155 : decode cX9_plans 155 = .ok (.goto (-72), 3) := by decide +kernel
theorem dX9_plans_158 : decode cX9_plans 158 = .ok (.iinc 5 1, 3) := by decide +kernel
theorem dX9_plans_161 : decode cX9_plans 161 = .ok (.goto (-134), 3) := by decide +kernel
theorem dX9_plans_164 : decode cX9_plans 164 = .ok (.iload_n 3, 1) := by decide +kernel
theorem dX9_plans_165 : decode cX9_plans 165 = .ok (.iconst (-1), 1) := by decide +kernel
theorem dX9_plans_166 : decode cX9_plans 166 = .ok (.if_icmp .ne 6, 3) := by decide +kernel
theorem dX9_plans_169 : decode cX9_plans 169 = .ok (.bipush (-2), 2) := by decide +kernel
theorem dX9_plans_171 : decode cX9_plans 171 = .ok (.ireturn, 1) := by decide +kernel
theorem dX9_plans_172 : decode cX9_plans 172 = .ok (.aload_n 0, 1) := by decide +kernel
theorem dX9_plans_173 : decode cX9_plans 173 = .ok (.iconst 0, 1) := by decide +kernel
theorem dX9_plans_174 : decode cX9_plans 174 = .ok (.putfield 110, 3) := by decide +kernel
theorem dX9_plans_177 : decode cX9_plans 177 = .ok (.aload_n 0, 1) := by decide +kernel
theorem dX9_plans_178 : decode cX9_plans 178 = .ok (.iload_n 3, 1) := by decide +kernel
theorem dX9_plans_179 : decode cX9_plans 179 = .ok (.i2l, 1) := by decide +kernel
theorem dX9_plans_180 : decode cX9_plans 180 = .ok (.invokevirtual 275, 3) := by decide +kernel
theorem dX9_plans_183 : decode cX9_plans 183 = .ok (.aload_n 0, 1) := by decide +kernel
theorem dX9_plans_184 : decode cX9_plans 184 = .ok (.iload 4, 2) := by decide +kernel
theorem dX9_plans_186 : decode cX9_plans 186 = .ok (.i2l, 1) := by decide +kernel
theorem dX9_plans_187 : decode cX9_plans 187 = .ok (.invokevirtual 275, 3) := by decide +kernel
theorem dX9_plans_190 : decode cX9_plans 190 = .ok (.iload_n 2, 1) := by decide +kernel
theorem dX9_plans_191 : decode cX9_plans 191 = .ok (.ireturn, 1) := by decide +kernel
theorem dX9_fills_0 : decode cX9_fills 0 = .ok (.aload_n 0, 1) := by decide +kernel
theorem dX9_fills_1 : decode cX9_fills 1 = .ok (.iconst 0, 1) := by decide +kernel
theorem dX9_fills_2 : decode cX9_fills 2 = .ok (.putfield 107, 3) := by decide +kernel
theorem dX9_fills_5 : decode cX9_fills 5 = .ok (.iconst (-1), 1) := by decide +kernel
theorem dX9_fills_6 : decode cX9_fills 6 = .ok (.istore_n 1, 1) := by decide +kernel
theorem dX9_fills_7 : decode cX9_fills 7 = .ok (.iconst 0, 1) := by decide +kernel
theorem dX9_fills_8 : decode cX9_fills 8 = .ok (.istore_n 2, 1) := by decide +kernel
theorem dX9_fills_9 : decode cX9_fills 9 = .ok (.iload_n 2, 1) := by decide +kernel
theorem dX9_fills_10 : decode cX9_fills 10 = .ok (.iconst 1, 1) := by decide +kernel
theorem dX9_fills_11 : decode cX9_fills 11 = .ok (.aload_n 0, 1) := by decide +kernel
theorem dX9_fills_12 : decode cX9_fills 12 = .ok (.getfield 113, 3) := by decide +kernel
theorem dX9_fills_15 : decode cX9_fills 15 = .ok (.ishl, 1) := by decide +kernel
theorem dX9_fills_16 : decode cX9_fills 16 = .ok (.if_icmp .ge 66, 3) := by decide +kernel
theorem dX9_fills_19 : decode cX9_fills 19 = .ok (.iload_n 1, 1) := by decide +kernel
theorem dX9_fills_20 : decode cX9_fills 20 = .ok (.iconst (-1), 1) := by decide +kernel
theorem dX9_fills_21 : decode cX9_fills 21 = .ok (.if_icmp .eq 17, 3) := by decide +kernel
theorem dX9_fills_24 : decode cX9_fills 24 = .ok (.iload_n 2, 1) := by decide +kernel
theorem dX9_fills_25 : decode cX9_fills 25 = .ok (.invokestatic 220, 3) := by decide +kernel
theorem dX9_fills_28 : decode cX9_fills 28 = .ok (.iload_n 1, 1) := by decide +kernel
theorem dX9_fills_29 : decode cX9_fills 29 = .ok (.invokestatic 220, 3) := by decide +kernel
theorem dX9_fills_32 : decode cX9_fills 32 = .ok (.if_icmp .lt 6, 3) := by decide +kernel
theorem dX9_fills_35 : decode cX9_fills 35 = .ok (.goto 41, 3) := by decide +kernel
theorem dX9_fills_38 : decode cX9_fills 38 = .ok (.aload_n 0, 1) := by decide +kernel
theorem dX9_fills_39 : decode cX9_fills 39 = .ok (.getfield 9, 3) := by decide +kernel
theorem dX9_fills_42 : decode cX9_fills 42 = .ok (.aload_n 0, 1) := by decide +kernel
theorem dX9_fills_43 : decode cX9_fills 43 = .ok (.getfield 55, 3) := by decide +kernel
theorem dX9_fills_46 : decode cX9_fills 46 = .ok (.iconst 0, 1) := by decide +kernel
theorem dX9_fills_47 : decode cX9_fills 47 = .ok (.invokestatic 248, 3) := by decide +kernel
theorem dX9_fills_50 : decode cX9_fills 50 = .ok (.aload_n 0, 1) := by decide +kernel
theorem dX9_fills_51 : decode cX9_fills 51 = .ok (.aload_n 0, 1) := by decide +kernel
theorem dX9_fills_52 : decode cX9_fills 52 = .ok (.getfield 55, 3) := by decide +kernel
theorem dX9_fills_55 : decode cX9_fills 55 = .ok (.iload_n 2, 1) := by decide +kernel
theorem dX9_fills_56 : decode cX9_fills 56 = .ok (.invokevirtual 303, 3) := by decide +kernel
theorem dX9_fills_59 : decode cX9_fills 59 = .ok (.aload_n 0, 1) := by decide +kernel
theorem dX9_fills_60 : decode cX9_fills 60 = .ok (.aload_n 0, 1) := by decide +kernel
theorem dX9_fills_61 : decode cX9_fills 61 = .ok (.getfield 55, 3) := by decide +kernel
theorem dX9_fills_64 : decode cX9_fills 64 = .ok (.invokevirtual 258, 3) := by decide +kernel
theorem dX9_fills_67 : decode cX9_fills 67 = .ok (.aload_n 0, 1) := by decide +kernel
theorem dX9_fills_68 : decode cX9_fills 68 = .ok (.getfield 252, 3) := by decide +kernel
theorem dX9_fills_71 : decode cX9_fills 71 = .ok (.ifCond .ne 5, 3) := by decide +kernel
theorem dX9_fills_74 : decode cX9_fills 74 = .ok (.iload_n 2, 1) := by decide +kernel
theorem dX9_fills_75 : decode cX9_fills 75 = .ok (.istore_n 1, 1) := by decide +kernel
theorem dX9_fills_76 : decode cX9_fills 76 = .ok (.iinc 2 1, 3) := by decide +kernel
theorem dX9_fills_79 : decode cX9_fills 79 = .ok (.goto (-70), 3) := by decide +kernel
theorem dX9_fills_82 : decode cX9_fills 82 = .ok (.iload_n 1, 1) := by decide +kernel
theorem dX9_fills_83 : decode cX9_fills 83 = .ok (.iconst (-1), 1) := by decide +kernel
theorem dX9_fills_84 : decode cX9_fills 84 = .ok (.if_icmp .ne 6, 3) := by decide +kernel
theorem dX9_fills_87 : decode cX9_fills 87 = .ok (.bipush (-2), 2) := by decide +kernel
theorem dX9_fills_89 : decode cX9_fills 89 = .ok (.ireturn, 1) := by decide +kernel
theorem dX9_fills_90 : decode cX9_fills 90 = .ok (.aload_n 0, 1) := by decide +kernel
theorem dX9_fills_91 : decode cX9_fills 91 = .ok (.iconst 0, 1) := by decide +kernel
theorem dX9_fills_92 : decode cX9_fills 92 = .ok (.putfield 110, 3) := by decide +kernel
theorem dX9_fills_95 : decode cX9_fills 95 = .ok (.aload_n 0, 1) := by decide +kernel
theorem dX9_fills_96 : decode cX9_fills 96 = .ok (.iload_n 1, 1) := by decide +kernel
theorem dX9_fills_97 : decode cX9_fills 97 = .ok (.i2l, 1) := by decide +kernel
theorem dX9_fills_98 : decode cX9_fills 98 = .ok (.invokevirtual 275, 3) := by decide +kernel
theorem dX9_fills_101 : decode cX9_fills 101 = .ok (.iload_n 1, 1) := by decide +kernel
theorem dX9_fills_102 : decode cX9_fills 102 = .ok (.invokestatic 220, 3) := by decide +kernel
theorem dX9_fills_105 : decode cX9_fills 105 = .ok (.ireturn, 1) := by decide +kernel
theorem dX9_goOrder_0 : decode cX9_goOrder 0 = .ok (.aload_n 0, 1) := by decide +kernel
theorem dX9_goOrder_1 : decode cX9_goOrder 1 = .ok (.aload_n 0, 1) := by decide +kernel
theorem dX9_goOrder_2 : decode cX9_goOrder 2 = .ok (.getfield 9, 3) := by decide +kernel
theorem dX9_goOrder_5 : decode cX9_goOrder 5 = .ok (.invokevirtual 216, 3) := by decide +kernel
theorem dX9_goOrder_8 : decode cX9_goOrder 8 = .ok (.istore 5, 2) := by decide +kernel
theorem dX9_goOrder_10 : decode cX9_goOrder 10 = .ok (.iload_n 1, 1) := by decide +kernel
theorem dX9_goOrder_11 : decode cX9_goOrder 11 = .ok (.iload 5, 2) := by decide +kernel
theorem dX9_goOrder_13 : decode cX9_goOrder 13 = .ok (.invokestatic 220, 3) := by decide +kernel
theorem dX9_goOrder_16 : decode cX9_goOrder 16 = .ok (.if_icmp .ne 49, 3) := by decide +kernel
theorem dX9_goOrder_19 : decode cX9_goOrder 19 = .ok (.iload 4, 2) := by decide +kernel
theorem dX9_goOrder_21 : decode cX9_goOrder 21 = .ok (.aload_n 0, 1) := by decide +kernel
theorem dX9_goOrder_22 : decode cX9_goOrder 22 = .ok (.getfield 306, 3) := by decide +kernel
theorem dX9_goOrder_25 : decode cX9_goOrder 25 = .ok (.if_icmp .gt 4, 3) := by decide +kernel
theorem dX9_goOrder_28 : decode cX9_goOrder 28 = .ok (.return_, 1) := by decide +kernel
theorem dX9_goOrder_29 : decode cX9_goOrder 29 = .ok (.aload_n 0, 1) := by decide +kernel
theorem dX9_goOrder_30 : decode cX9_goOrder 30 = .ok (.iload 4, 2) := by decide +kernel
theorem dX9_goOrder_32 : decode cX9_goOrder 32 = .ok (.putfield 306, 3) := by decide +kernel
theorem dX9_goOrder_35 : decode cX9_goOrder 35 = .ok (.iconst 0, 1) := by decide +kernel
theorem dX9_goOrder_36 : decode cX9_goOrder 36 = .ok (.istore 6, 2) := by decide +kernel
theorem dX9_goOrder_38 : decode cX9_goOrder 38 = .ok (.iload 6, 2) := by decide +kernel
theorem dX9_goOrder_40 : decode cX9_goOrder 40 = .ok (.iload_n 1, 1) := by decide +kernel
theorem dX9_goOrder_41 : decode cX9_goOrder 41 = .ok (.if_icmp .ge 23, 3) := by decide +kernel
theorem dX9_goOrder_44 : decode cX9_goOrder 44 = .ok (.aload_n 0, 1) := by decide +kernel
theorem dX9_goOrder_45 : decode cX9_goOrder 45 = .ok (.getfield 73, 3) := by decide +kernel
theorem dX9_goOrder_48 : decode cX9_goOrder 48 = .ok (.iload 6, 2) := by decide +kernel
theorem dX9_goOrder_50 : decode cX9_goOrder 50 = .ok (.aload_n 0, 1) := by decide +kernel
theorem dX9_goOrder_51 : decode cX9_goOrder 51 = .ok (.getfield 70, 3) := by decide +kernel
theorem dX9_goOrder_54 : decode cX9_goOrder 54 = .ok (.iload 6, 2) := by decide +kernel
theorem dX9_goOrder_56 : decode cX9_goOrder 56 = .ok (.iaload, 1) := by decide +kernel
theorem dX9_goOrder_57 : decode cX9_goOrder 57 = .ok (.iastore, 1) := by decide +kernel
theorem dX9_goOrder_58 : decode cX9_goOrder 58 = .ok (.iinc 6 1, 3) := by decide +kernel
theorem dX9_goOrder_61 : decode cX9_goOrder 61 = .ok (.goto (-23), 3) := by decide +kernel
theorem dX9_goOrder_64 : decode cX9_goOrder 64 = .ok (.return_, 1) := by decide +kernel
theorem dX9_goOrder_65 : decode cX9_goOrder 65 = .ok (.iconst 0, 1) := by decide +kernel
theorem dX9_goOrder_66 : decode cX9_goOrder 66 = .ok (.istore 6, 2) := by decide +kernel
theorem dX9_goOrder_68 : decode cX9_goOrder 68 = .ok (.iload 6, 2) := by decide +kernel
theorem dX9_goOrder_70 : decode cX9_goOrder 70 = .ok (.aload_n 0, 1) := by decide +kernel
theorem dX9_goOrder_71 : decode cX9_goOrder 71 = .ok (.getfield 113, 3) := by decide +kernel
theorem dX9_goOrder_74 : decode cX9_goOrder 74 = .ok (.if_icmp .ge 82, 3) := by decide +kernel
theorem dX9_goOrder_77 : decode cX9_goOrder 77 = .ok (.iload 5, 2) := by decide +kernel
theorem dX9_goOrder_79 : decode cX9_goOrder 79 = .ok (.iload 6, 2) := by decide +kernel
theorem dX9_goOrder_81 : decode cX9_goOrder 81 = .ok (.invokestatic 309, 3) := by decide +kernel
theorem dX9_goOrder_84 : decode cX9_goOrder 84 = .ok (.ifCond .eq 66, 3) := by decide +kernel
theorem dX9_goOrder_87 : decode cX9_goOrder 87 = .ok (.iload_n 2, 1) := by decide +kernel
theorem dX9_goOrder_88 : decode cX9_goOrder 88 = .ok (.iload 6, 2) := by decide +kernel
theorem dX9_goOrder_90 : decode cX9_goOrder 90 = .ok (.invokestatic 309, 3) := by decide +kernel
theorem dX9_goOrder_93 : decode cX9_goOrder 93 = .ok (.ifCond .eq 6, 3) := by decide +kernel
theorem dX9_goOrder_96 : decode cX9_goOrder 96 = .ok (.goto 54, 3) := by decide +kernel
theorem dX9_goOrder_99 : decode cX9_goOrder 99 = .ok (.aload_n 0, 1) := by decide +kernel
theorem dX9_goOrder_100 : decode cX9_goOrder 100 = .ok (.getfield 70, 3) := by decide +kernel
theorem dX9_goOrder_103 : decode cX9_goOrder 103 = .ok (.iload_n 1, 1) := by decide +kernel
theorem dX9_goOrder_104 : decode cX9_goOrder 104 = .ok (.iload 6, 2) := by decide +kernel
theorem dX9_goOrder_106 : decode cX9_goOrder 106 = .ok (.iastore, 1) := by decide +kernel
theorem dX9_goOrder_107 : decode cX9_goOrder 107 = .ok (.aload_n 0, 1) := by decide +kernel
theorem dX9_goOrder_108 : decode cX9_goOrder 108 = .ok (.getfield 61, 3) := by decide +kernel
theorem dX9_goOrder_111 : decode cX9_goOrder 111 = .ok (.iload 6, 2) := by decide +kernel
theorem dX9_goOrder_113 : decode cX9_goOrder 113 = .ok (.iaload, 1) := by decide +kernel
theorem dX9_goOrder_114 : decode cX9_goOrder 114 = .ok (.iload_n 3, 1) := by decide +kernel
theorem dX9_goOrder_115 : decode cX9_goOrder 115 = .ok (.invokestatic 225, 3) := by decide +kernel
theorem dX9_goOrder_118 : decode cX9_goOrder 118 = .ok (.istore 7, 2) := by decide +kernel
theorem dX9_goOrder_120 : decode cX9_goOrder 120 = .ok (.aload_n 0, 1) := by decide +kernel
theorem dX9_goOrder_121 : decode cX9_goOrder 121 = .ok (.iload_n 1, 1) := by decide +kernel
theorem dX9_goOrder_122 : decode cX9_goOrder 122 = .ok (.iconst 1, 1) := by decide +kernel
theorem dX9_goOrder_123 : decode cX9_goOrder 123 = .ok (.iadd, 1) := by decide +kernel
theorem dX9_goOrder_124 : decode cX9_goOrder 124 = .ok (.iload_n 2, 1) := by decide +kernel
theorem dX9_goOrder_125 : decode cX9_goOrder 125 = .ok (.iconst 1, 1) := by decide +kernel
theorem dX9_goOrder_126 : decode cX9_goOrder 126 = .ok (.iload 6, 2) := by decide +kernel
theorem dX9_goOrder_128 : decode cX9_goOrder 128 = .ok (.ishl, 1) := by decide +kernel
theorem dX9_goOrder_129 : decode cX9_goOrder 129 = .ok (.ior, 1) := by decide +kernel
theorem dX9_goOrder_130 : decode cX9_goOrder 130 = .ok (.iload_n 3, 1) := by decide +kernel
theorem dX9_goOrder_131 : decode cX9_goOrder 131 = .ok (.iload 7, 2) := by decide +kernel
theorem dX9_goOrder_133 : decode cX9_goOrder 133 = .ok (.isub, 1) := by decide +kernel
theorem dX9_goOrder_134 : decode cX9_goOrder 134 = .ok (.iload 4, 2) := by decide +kernel
theorem dX9_goOrder_136 : decode cX9_goOrder 136 = .ok (.iload 7, 2) := by decide +kernel
theorem dX9_goOrder_138 : decode cX9_goOrder 138 = .ok (.aload_n 0, 1) := by decide +kernel
theorem dX9_goOrder_139 : decode cX9_goOrder 139 = .ok (.getfield 19, 3) := by decide +kernel
theorem dX9_goOrder_142 : decode cX9_goOrder 142 = .ok (.iload 6, 2) := by decide +kernel
theorem dX9_goOrder_144 : decode cX9_goOrder 144 = .ok (.iaload, 1) := by decide +kernel
theorem dX9_goOrder_145 : decode cX9_goOrder 145 = .ok (.imul, 1) := by decide +kernel
theorem dX9_goOrder_146 : decode cX9_goOrder 146 = .ok (.iadd, 1) := by decide +kernel
theorem dX9_goOrder_147 : decode cX9_goOrder 147 = .ok (.invokevirtual 313, 3) := by decide +kernel
theorem dX9_goOrder_150 : decode cX9_goOrder 150 = .ok (.iinc 6 1, 3) := by decide +kernel
theorem dX9_goOrder_153 : decode cX9_goOrder 153 = .ok (.goto (-85), 3) := by decide +kernel
theorem dX9_goOrder_156 : decode cX9_goOrder 156 = .ok (.return_, 1) := by decide +kernel
theorem dX9_order_0 : decode cX9_order 0 = .ok (.aload_n 0, 1) := by decide +kernel
theorem dX9_order_1 : decode cX9_order 1 = .ok (.iconst 0, 1) := by decide +kernel
theorem dX9_order_2 : decode cX9_order 2 = .ok (.putfield 107, 3) := by decide +kernel
theorem dX9_order_5 : decode cX9_order 5 = .ok (.aload_n 0, 1) := by decide +kernel
theorem dX9_order_6 : decode cX9_order 6 = .ok (.aload_n 0, 1) := by decide +kernel
theorem dX9_order_7 : decode cX9_order 7 = .ok (.getfield 9, 3) := by decide +kernel
theorem dX9_order_10 : decode cX9_order 10 = .ok (.invokevirtual 258, 3) := by decide +kernel
theorem dX9_order_13 : decode cX9_order 13 = .ok (.aload_n 0, 1) := by decide +kernel
theorem dX9_order_14 : decode cX9_order 14 = .ok (.iconst (-1), 1) := by decide +kernel
theorem dX9_order_15 : decode cX9_order 15 = .ok (.putfield 306, 3) := by decide +kernel
theorem dX9_order_18 : decode cX9_order 18 = .ok (.aload_n 0, 1) := by decide +kernel
theorem dX9_order_19 : decode cX9_order 19 = .ok (.iconst 0, 1) := by decide +kernel
theorem dX9_order_20 : decode cX9_order 20 = .ok (.iconst 0, 1) := by decide +kernel
theorem dX9_order_21 : decode cX9_order 21 = .ok (.aload_n 0, 1) := by decide +kernel
theorem dX9_order_22 : decode cX9_order 22 = .ok (.aload_n 0, 1) := by decide +kernel
theorem dX9_order_23 : decode cX9_order 23 = .ok (.getfield 9, 3) := by decide +kernel
theorem dX9_order_26 : decode cX9_order 26 = .ok (.bipush 28, 2) := by decide +kernel
theorem dX9_order_28 : decode cX9_order 28 = .ok (.iaload, 1) := by decide +kernel
theorem dX9_order_29 : decode cX9_order 29 = .ok (.invokevirtual 213, 3) := by decide +kernel
theorem dX9_order_32 : decode cX9_order 32 = .ok (.iconst 0, 1) := by decide +kernel
theorem dX9_order_33 : decode cX9_order 33 = .ok (.invokevirtual 313, 3) := by decide +kernel
theorem dX9_order_36 : decode cX9_order 36 = .ok (.aload_n 0, 1) := by decide +kernel
theorem dX9_order_37 : decode cX9_order 37 = .ok (.iconst 0, 1) := by decide +kernel
theorem dX9_order_38 : decode cX9_order 38 = .ok (.putfield 110, 3) := by decide +kernel
theorem dX9_order_41 : decode cX9_order 41 = .ok (.iconst 0, 1) := by decide +kernel
theorem dX9_order_42 : decode cX9_order 42 = .ok (.istore_n 1, 1) := by decide +kernel
theorem dX9_order_43 : decode cX9_order 43 = .ok (.iload_n 1, 1) := by decide +kernel
theorem dX9_order_44 : decode cX9_order 44 = .ok (.aload_n 0, 1) := by decide +kernel
theorem dX9_order_45 : decode cX9_order 45 = .ok (.aload_n 0, 1) := by decide +kernel
theorem dX9_order_46 : decode cX9_order 46 = .ok (.getfield 9, 3) := by decide +kernel
theorem dX9_order_49 : decode cX9_order 49 = .ok (.invokevirtual 216, 3) := by decide +kernel
theorem dX9_order_52 : decode cX9_order 52 = .ok (.invokestatic 220, 3) := by decide +kernel
theorem dX9_order_55 : decode cX9_order 55 = .ok (.if_icmp .ge 20, 3) := by decide +kernel
theorem dX9_order_58 : decode cX9_order 58 = .ok (.aload_n 0, 1) := by decide +kernel
theorem dX9_order_59 : decode cX9_order 59 = .ok (.aload_n 0, 1) := by decide +kernel
theorem dX9_order_60 : decode cX9_order 60 = .ok (.getfield 73, 3) := by decide +kernel
theorem dX9_order_63 : decode cX9_order 63 = .ok (.iload_n 1, 1) := by decide +kernel
theorem dX9_order_64 : decode cX9_order 64 = .ok (.iaload, 1) := by decide +kernel
theorem dX9_order_65 : decode cX9_order 65 = .ok (.i2l, 1) := by decide +kernel
theorem dX9_order_66 : decode cX9_order 66 = .ok (.invokevirtual 275, 3) := by decide +kernel
theorem dX9_order_69 : decode cX9_order 69 = .ok (.iinc 1 1, 3) := by decide +kernel
theorem dX9_order_72 : decode cX9_order 72 = .ok (.goto (-29), 3) := by decide +kernel
theorem dX9_order_75 : decode cX9_order 75 = .ok (.aload_n 0, 1) := by decide +kernel
theorem dX9_order_76 : decode cX9_order 76 = .ok (.getfield 306, 3) := by decide +kernel
theorem dX9_order_79 : decode cX9_order 79 = .ok (.ireturn, 1) := by decide +kernel
theorem dX9_heardOf_0 : decode cX9_heardOf 0 = .ok (.iconst 0, 1) := by decide +kernel
theorem dX9_heardOf_1 : decode cX9_heardOf 1 = .ok (.istore_n 2, 1) := by decide +kernel
theorem dX9_heardOf_2 : decode cX9_heardOf 2 = .ok (.iconst 0, 1) := by decide +kernel
theorem dX9_heardOf_3 : decode cX9_heardOf 3 = .ok (.istore_n 3, 1) := by decide +kernel
theorem dX9_heardOf_4 : decode cX9_heardOf 4 = .ok (.iload_n 3, 1) := by decide +kernel
theorem dX9_heardOf_5 : decode cX9_heardOf 5 = .ok (.aload_n 0, 1) := by decide +kernel
theorem dX9_heardOf_6 : decode cX9_heardOf 6 = .ok (.getfield 113, 3) := by decide +kernel
theorem dX9_heardOf_9 : decode cX9_heardOf 9 = .ok (.if_icmp .ge 30, 3) := by decide +kernel
theorem dX9_heardOf_12 : decode cX9_heardOf 12 = .ok (.iload_n 2, 1) := by decide +kernel
theorem dX9_heardOf_13 : decode cX9_heardOf 13 = .ok (.iload_n 1, 1) := by decide +kernel
theorem dX9_heardOf_14 : decode cX9_heardOf 14 = .ok (.iload_n 3, 1) := by decide +kernel
theorem dX9_heardOf_15 : decode cX9_heardOf 15 = .ok (.invokestatic 309, 3) := by decide +kernel
theorem dX9_heardOf_18 : decode cX9_heardOf 18 = .ok (.ifCond .eq 12, 3) := by decide +kernel
theorem dX9_heardOf_21 : decode cX9_heardOf 21 = .ok (.aload_n 0, 1) := by decide +kernel
theorem dX9_heardOf_22 : decode cX9_heardOf 22 = .ok (.getfield 9, 3) := by decide +kernel
theorem dX9_heardOf_25 : decode cX9_heardOf 25 = .ok (.iload_n 3, 1) := by decide +kernel
theorem dX9_heardOf_26 : decode cX9_heardOf 26 = .ok (.iaload, 1) := by decide +kernel
theorem dX9_heardOf_27 : decode cX9_heardOf 27 = .ok (.goto 4, 3) := by decide +kernel
theorem dX9_heardOf_30 : decode cX9_heardOf 30 = .ok (.iconst 0, 1) := by decide +kernel
theorem dX9_heardOf_31 : decode cX9_heardOf 31 = .ok (.iadd, 1) := by decide +kernel
theorem dX9_heardOf_32 : decode cX9_heardOf 32 = .ok (.istore_n 2, 1) := by decide +kernel
theorem dX9_heardOf_33 : decode cX9_heardOf 33 = .ok (.iinc 3 1, 3) := by decide +kernel
theorem dX9_heardOf_36 : decode cX9_heardOf 36 = .ok (.goto (-32), 3) := by decide +kernel
theorem dX9_heardOf_39 : decode cX9_heardOf 39 = .ok (.iload_n 2, 1) := by decide +kernel
theorem dX9_heardOf_40 : decode cX9_heardOf 40 = .ok (.ireturn, 1) := by decide +kernel
theorem dX9_adds_0 : decode cX9_adds 0 = .ok (.aload_n 0, 1) := by decide +kernel
theorem dX9_adds_1 : decode cX9_adds 1 = .ok (.iconst 0, 1) := by decide +kernel
theorem dX9_adds_2 : decode cX9_adds 2 = .ok (.putfield 107, 3) := by decide +kernel
theorem dX9_adds_5 : decode cX9_adds 5 = .ok (.iload_n 1, 1) := by decide +kernel
theorem dX9_adds_6 : decode cX9_adds 6 = .ok (.iconst 0, 1) := by decide +kernel
theorem dX9_adds_7 : decode cX9_adds 7 = .ok (.sipush 999, 3) := by decide +kernel
theorem dX9_adds_10 : decode cX9_adds 10 = .ok (.invokestatic 116, 3) := by decide +kernel
theorem dX9_adds_13 : decode cX9_adds 13 = .ok (.ifCond .ne 5, 3) := by decide +kernel
theorem dX9_adds_16 : decode cX9_adds 16 = .ok (.iconst (-1), 1) := by decide +kernel
theorem dX9_adds_17 : decode cX9_adds 17 = .ok (.ireturn, 1) := by decide +kernel
theorem dX9_adds_18 : decode cX9_adds 18 = .ok (.iconst (-1), 1) := by decide +kernel
theorem dX9_adds_19 : decode cX9_adds 19 = .ok (.istore_n 2, 1) := by decide +kernel
theorem dX9_adds_20 : decode cX9_adds 20 = .ok (.iconst 0, 1) := by decide +kernel
theorem dX9_adds_21 : decode cX9_adds 21 = .ok (.istore_n 3, 1) := by decide +kernel
theorem dX9_adds_22 : decode cX9_adds 22 = .ok (.iload_n 3, 1) := by decide +kernel
theorem dX9_adds_23 : decode cX9_adds 23 = .ok (.iconst 1, 1) := by decide +kernel
theorem dX9_adds_24 : decode cX9_adds 24 = .ok (.aload_n 0, 1) := by decide +kernel
theorem dX9_adds_25 : decode cX9_adds 25 = .ok (.getfield 113, 3) := by decide +kernel
theorem dX9_adds_28 : decode cX9_adds 28 = .ok (.ishl, 1) := by decide +kernel
theorem dX9_adds_29 : decode cX9_adds 29 = .ok (.if_icmp .ge 36, 3) := by decide +kernel
theorem dX9_adds_32 : decode cX9_adds 32 = .ok (.aload_n 0, 1) := by decide +kernel
theorem dX9_adds_33 : decode cX9_adds 33 = .ok (.iload_n 3, 1) := by decide +kernel
theorem dX9_adds_34 : decode cX9_adds 34 = .ok (.invokevirtual 317, 3) := by decide +kernel
theorem dX9_adds_37 : decode cX9_adds 37 = .ok (.iload_n 1, 1) := by decide +kernel
theorem dX9_adds_38 : decode cX9_adds 38 = .ok (.if_icmp .ne 21, 3) := by decide +kernel
theorem dX9_adds_41 : decode cX9_adds 41 = .ok (.iload_n 2, 1) := by decide +kernel
theorem dX9_adds_42 : decode cX9_adds 42 = .ok (.iconst (-1), 1) := by decide +kernel
theorem dX9_adds_43 : decode cX9_adds 43 = .ok (.if_icmp .eq 14, 3) := by decide +kernel
theorem dX9_adds_46 : decode cX9_adds 46 = .ok (.iload_n 3, 1) := by decide +kernel
theorem dX9_adds_47 : decode cX9_adds 47 = .ok (.invokestatic 220, 3) := by decide +kernel
theorem dX9_adds_50 : decode cX9_adds 50 = .ok (.iload_n 2, 1) := by decide +kernel
theorem dX9_adds_51 : decode cX9_adds 51 = .ok (.invokestatic 220, 3) := by decide +kernel
theorem dX9_adds_54 : decode cX9_adds 54 = .ok (.if_icmp .ge 5, 3) := by decide +kernel
theorem dX9_adds_57 : decode cX9_adds 57 = .ok (.iload_n 3, 1) := by decide +kernel
theorem dX9_adds_58 : decode cX9_adds 58 = .ok (.istore_n 2, 1) := by decide +kernel
theorem dX9_adds_59 : decode cX9_adds 59 = .ok (.iinc 3 1, 3) := by decide +kernel
theorem dX9_adds_62 : decode cX9_adds 62 = .ok (.goto (-40), 3) := by decide +kernel
theorem dX9_adds_65 : decode cX9_adds 65 = .ok (.iload_n 2, 1) := by decide +kernel
theorem dX9_adds_66 : decode cX9_adds 66 = .ok (.iconst (-1), 1) := by decide +kernel
theorem dX9_adds_67 : decode cX9_adds 67 = .ok (.if_icmp .ne 6, 3) := by decide +kernel
theorem dX9_adds_70 : decode cX9_adds 70 = .ok (.bipush (-2), 2) := by decide +kernel
theorem dX9_adds_72 : decode cX9_adds 72 = .ok (.ireturn, 1) := by decide +kernel
theorem dX9_adds_73 : decode cX9_adds 73 = .ok (.aload_n 0, 1) := by decide +kernel
theorem dX9_adds_74 : decode cX9_adds 74 = .ok (.iconst 0, 1) := by decide +kernel
theorem dX9_adds_75 : decode cX9_adds 75 = .ok (.putfield 110, 3) := by decide +kernel
theorem dX9_adds_78 : decode cX9_adds 78 = .ok (.aload_n 0, 1) := by decide +kernel
theorem dX9_adds_79 : decode cX9_adds 79 = .ok (.iload_n 2, 1) := by decide +kernel
theorem dX9_adds_80 : decode cX9_adds 80 = .ok (.i2l, 1) := by decide +kernel
theorem dX9_adds_81 : decode cX9_adds 81 = .ok (.invokevirtual 275, 3) := by decide +kernel
theorem dX9_adds_84 : decode cX9_adds 84 = .ok (.iload_n 2, 1) := by decide +kernel
theorem dX9_adds_85 : decode cX9_adds 85 = .ok (.invokestatic 220, 3) := by decide +kernel
theorem dX9_adds_88 : decode cX9_adds 88 = .ok (.ireturn, 1) := by decide +kernel
theorem dX9_nearest_0 : decode cX9_nearest 0 = .ok (.aload_n 0, 1) := by decide +kernel
theorem dX9_nearest_1 : decode cX9_nearest 1 = .ok (.iconst 0, 1) := by decide +kernel
theorem dX9_nearest_2 : decode cX9_nearest 2 = .ok (.putfield 107, 3) := by decide +kernel
theorem dX9_nearest_5 : decode cX9_nearest 5 = .ok (.iload_n 1, 1) := by decide +kernel
theorem dX9_nearest_6 : decode cX9_nearest 6 = .ok (.iconst 0, 1) := by decide +kernel
theorem dX9_nearest_7 : decode cX9_nearest 7 = .ok (.sipush 999, 3) := by decide +kernel
theorem dX9_nearest_10 : decode cX9_nearest 10 = .ok (.invokestatic 116, 3) := by decide +kernel
theorem dX9_nearest_13 : decode cX9_nearest 13 = .ok (.ifCond .ne 5, 3) := by decide +kernel
theorem dX9_nearest_16 : decode cX9_nearest 16 = .ok (.iconst (-1), 1) := by decide +kernel
theorem dX9_nearest_17 : decode cX9_nearest 17 = .ok (.ireturn, 1) := by decide +kernel
theorem dX9_nearest_18 : decode cX9_nearest 18 = .ok (.iconst 0, 1) := by decide +kernel
theorem dX9_nearest_19 : decode cX9_nearest 19 = .ok (.istore_n 2, 1) := by decide +kernel
theorem dX9_nearest_20 : decode cX9_nearest 20 = .ok (.iconst 1, 1) := by decide +kernel
theorem dX9_nearest_21 : decode cX9_nearest 21 = .ok (.istore_n 3, 1) := by decide +kernel
theorem dX9_nearest_22 : decode cX9_nearest 22 = .ok (.iload_n 3, 1) := by decide +kernel
theorem dX9_nearest_23 : decode cX9_nearest 23 = .ok (.iconst 1, 1) := by decide +kernel
theorem dX9_nearest_24 : decode cX9_nearest 24 = .ok (.aload_n 0, 1) := by decide +kernel
theorem dX9_nearest_25 : decode cX9_nearest 25 = .ok (.getfield 113, 3) := by decide +kernel
theorem dX9_nearest_28 : decode cX9_nearest 28 = .ok (.ishl, 1) := by decide +kernel
theorem dX9_nearest_29 : decode cX9_nearest 29 = .ok (.if_icmp .ge 93, 3) := by decide +kernel
theorem dX9_nearest_32 : decode cX9_nearest 32 = .ok (.aload_n 0, 1) := by decide +kernel
theorem dX9_nearest_33 : decode cX9_nearest 33 = .ok (.iload_n 3, 1) := by decide +kernel
theorem dX9_nearest_34 : decode cX9_nearest 34 = .ok (.invokevirtual 317, 3) := by decide +kernel
theorem dX9_nearest_37 : decode cX9_nearest 37 = .ok (.istore 4, 2) := by decide +kernel
theorem dX9_nearest_39 : decode cX9_nearest 39 = .ok (.aload_n 0, 1) := by decide +kernel
theorem dX9_nearest_40 : decode cX9_nearest 40 = .ok (.iload_n 2, 1) := by decide +kernel
theorem dX9_nearest_41 : decode cX9_nearest 41 = .ok (.invokevirtual 317, 3) := by decide +kernel
theorem dX9_nearest_44 : decode cX9_nearest 44 = .ok (.istore 5, 2) := by decide +kernel
theorem dX9_nearest_46 : decode cX9_nearest 46 = .ok (.iload 4, 2) := by decide +kernel
theorem dX9_nearest_48 : decode cX9_nearest 48 = .ok (.iload_n 1, 1) := by decide +kernel
theorem dX9_nearest_49 : decode cX9_nearest 49 = .ok (.isub, 1) := by decide +kernel
theorem dX9_nearest_50 : decode cX9_nearest 50 = .ok (.invokestatic 320, 3) := by decide +kernel
theorem dX9_nearest_53 : decode cX9_nearest 53 = .ok (.iload 5, 2) := by decide +kernel
theorem dX9_nearest_55 : decode cX9_nearest 55 = .ok (.iload_n 1, 1) := by decide +kernel
theorem dX9_nearest_56 : decode cX9_nearest 56 = .ok (.isub, 1) := by decide +kernel
theorem dX9_nearest_57 : decode cX9_nearest 57 = .ok (.invokestatic 320, 3) := by decide +kernel
theorem dX9_nearest_60 : decode cX9_nearest 60 = .ok (.isub, 1) := by decide +kernel
theorem dX9_nearest_61 : decode cX9_nearest 61 = .ok (.istore 6, 2) := by decide +kernel
theorem dX9_nearest_63 : decode cX9_nearest 63 = .ok (.iload 6, 2) := by decide +kernel
theorem dX9_nearest_65 : decode cX9_nearest 65 = .ok (.ifCond .lt 33, 3) := by decide +kernel
theorem dX9_nearest_68 : decode cX9_nearest 68 = .ok (.iload 6, 2) := by decide +kernel
theorem dX9_nearest_70 : decode cX9_nearest 70 = .ok (.ifCond .ne 32, 3) := by decide +kernel
theorem dX9_nearest_73 : decode cX9_nearest 73 = .ok (.iload 4, 2) := by decide +kernel
theorem dX9_nearest_75 : decode cX9_nearest 75 = .ok (.iload 5, 2) := by decide +kernel
theorem dX9_nearest_77 : decode cX9_nearest 77 = .ok (.if_icmp .lt 21, 3) := by decide +kernel
theorem dX9_nearest_80 : decode cX9_nearest 80 = .ok (.iload 4, 2) := by decide +kernel
theorem dX9_nearest_82 : decode cX9_nearest 82 = .ok (.iload 5, 2) := by decide +kernel
theorem dX9_nearest_84 : decode cX9_nearest 84 = .ok (.if_icmp .ne 18, 3) := by decide +kernel
theorem dX9_nearest_87 : decode cX9_nearest 87 = .ok (.iload_n 3, 1) := by decide +kernel
theorem dX9_nearest_88 : decode cX9_nearest 88 = .ok (.invokestatic 220, 3) := by decide +kernel
theorem dX9_nearest_91 : decode cX9_nearest 91 = .ok (.iload_n 2, 1) := by decide +kernel
theorem dX9_nearest_92 : decode cX9_nearest 92 = .ok (.invokestatic 220, 3) := by decide +kernel
theorem dX9_nearest_95 : decode cX9_nearest 95 = .ok (.if_icmp .ge 7, 3) := by decide +kernel
theorem dX9_nearest_98 : decode cX9_nearest 98 = .ok (.iconst 1, 1) := by decide +kernel
theorem dX9_nearest_99 : decode cX9_nearest 99 = .ok (.goto 4, 3) := by decide +kernel
theorem dX9_nearest_102 : decode cX9_nearest 102 = .ok (.iconst 0, 1) := by decide +kernel
theorem dX9_nearest_103 : decode cX9_nearest 103 = .ok (.istore 7, 2) := by decide +kernel
theorem dX9_nearest_105 : decode cX9_nearest 105 = .ok (.iload 7, 2) := by decide +kernel
theorem dX9_nearest_107 : decode cX9_nearest 107 = .ok (.ifCond .eq 7, 3) := by decide +kernel
theorem dX9_nearest_110 : decode cX9_nearest 110 = .ok (.iload_n 3, 1) := by decide +kernel
theorem dX9_nearest_111 : decode cX9_nearest 111 = .ok (.goto 4, 3) := by decide +kernel
theorem dX9_nearest_114 : decode cX9_nearest 114 = .ok (.iload_n 2, 1) := by decide +kernel
theorem dX9_nearest_115 : decode cX9_nearest 115 = .ok (.istore_n 2, 1) := by decide +kernel
theorem dX9_nearest_116 : decode cX9_nearest 116 = .ok (.iinc 3 1, 3) := by decide +kernel
theorem dX9_nearest_119 : decode cX9_nearest 119 = .ok (.goto (-97), 3) := by decide +kernel
theorem dX9_nearest_122 : decode cX9_nearest 122 = .ok (.aload_n 0, 1) := by decide +kernel
theorem dX9_nearest_123 : decode cX9_nearest 123 = .ok (.iconst 0, 1) := by decide +kernel
theorem dX9_nearest_124 : decode cX9_nearest 124 = .ok (.putfield 110, 3) := by decide +kernel
theorem dX9_nearest_127 : decode cX9_nearest 127 = .ok (.aload_n 0, 1) := by decide +kernel
theorem dX9_nearest_128 : decode cX9_nearest 128 = .ok (.iload_n 2, 1) := by decide +kernel
theorem dX9_nearest_129 : decode cX9_nearest 129 = .ok (.i2l, 1) := by decide +kernel
theorem dX9_nearest_130 : decode cX9_nearest 130 = .ok (.invokevirtual 275, 3) := by decide +kernel
theorem dX9_nearest_133 : decode cX9_nearest 133 = .ok (.aload_n 0, 1) := by decide +kernel
theorem dX9_nearest_134 : decode cX9_nearest 134 = .ok (.iload_n 2, 1) := by decide +kernel
theorem dX9_nearest_135 : decode cX9_nearest 135 = .ok (.invokevirtual 317, 3) := by decide +kernel
theorem dX9_nearest_138 : decode cX9_nearest 138 = .ok (.ireturn, 1) := by decide +kernel
theorem dX9_awards_0 : decode cX9_awards 0 = .ok (.aload_n 0, 1) := by decide +kernel
theorem dX9_awards_1 : decode cX9_awards 1 = .ok (.iconst 0, 1) := by decide +kernel
theorem dX9_awards_2 : decode cX9_awards 2 = .ok (.putfield 107, 3) := by decide +kernel
theorem dX9_awards_5 : decode cX9_awards 5 = .ok (.iload_n 1, 1) := by decide +kernel
theorem dX9_awards_6 : decode cX9_awards 6 = .ok (.iconst 0, 1) := by decide +kernel
theorem dX9_awards_7 : decode cX9_awards 7 = .ok (.sipush 999, 3) := by decide +kernel
theorem dX9_awards_10 : decode cX9_awards 10 = .ok (.invokestatic 116, 3) := by decide +kernel
theorem dX9_awards_13 : decode cX9_awards 13 = .ok (.ifCond .ne 5, 3) := by decide +kernel
theorem dX9_awards_16 : decode cX9_awards 16 = .ok (.iconst (-1), 1) := by decide +kernel
theorem dX9_awards_17 : decode cX9_awards 17 = .ok (.ireturn, 1) := by decide +kernel
theorem dX9_awards_18 : decode cX9_awards 18 = .ok (.iconst 0, 1) := by decide +kernel
theorem dX9_awards_19 : decode cX9_awards 19 = .ok (.istore_n 2, 1) := by decide +kernel
theorem dX9_awards_20 : decode cX9_awards 20 = .ok (.iload_n 2, 1) := by decide +kernel
theorem dX9_awards_21 : decode cX9_awards 21 = .ok (.aload_n 0, 1) := by decide +kernel
theorem dX9_awards_22 : decode cX9_awards 22 = .ok (.getfield 113, 3) := by decide +kernel
theorem dX9_awards_25 : decode cX9_awards 25 = .ok (.if_icmp .ge 16, 3) := by decide +kernel
theorem dX9_awards_28 : decode cX9_awards 28 = .ok (.aload_n 0, 1) := by decide +kernel
theorem dX9_awards_29 : decode cX9_awards 29 = .ok (.getfield 76, 3) := by decide +kernel
theorem dX9_awards_32 : decode cX9_awards 32 = .ok (.iload_n 2, 1) := by decide +kernel
theorem dX9_awards_33 : decode cX9_awards 33 = .ok (.iconst 0, 1) := by decide +kernel
theorem dX9_awards_34 : decode cX9_awards 34 = .ok (.iastore, 1) := by decide +kernel
theorem dX9_awards_35 : decode cX9_awards 35 = .ok (.iinc 2 1, 3) := by decide +kernel
theorem dX9_awards_38 : decode cX9_awards 38 = .ok (.goto (-18), 3) := by decide +kernel
theorem dX9_awards_41 : decode cX9_awards 41 = .ok (.iload_n 1, 1) := by decide +kernel
theorem dX9_awards_42 : decode cX9_awards 42 = .ok (.istore_n 2, 1) := by decide +kernel
theorem dX9_awards_43 : decode cX9_awards 43 = .ok (.iconst 1, 1) := by decide +kernel
theorem dX9_awards_44 : decode cX9_awards 44 = .ok (.istore_n 3, 1) := by decide +kernel
theorem dX9_awards_45 : decode cX9_awards 45 = .ok (.iload_n 2, 1) := by decide +kernel
theorem dX9_awards_46 : decode cX9_awards 46 = .ok (.ifCond .le 105, 3) := by decide +kernel
theorem dX9_awards_49 : decode cX9_awards 49 = .ok (.iload_n 3, 1) := by decide +kernel
theorem dX9_awards_50 : decode cX9_awards 50 = .ok (.ifCond .eq 101, 3) := by decide +kernel
theorem dX9_awards_53 : decode cX9_awards 53 = .ok (.iconst (-1), 1) := by decide +kernel
theorem dX9_awards_54 : decode cX9_awards 54 = .ok (.istore 4, 2) := by decide +kernel
theorem dX9_awards_56 : decode cX9_awards 56 = .ok (.iconst 0, 1) := by decide +kernel
theorem dX9_awards_57 : decode cX9_awards 57 = .ok (.istore 5, 2) := by decide +kernel
theorem dX9_awards_59 : decode cX9_awards 59 = .ok (.iload 5, 2) := by decide +kernel
theorem dX9_awards_61 : decode cX9_awards 61 = .ok (.aload_n 0, 1) := by decide +kernel
theorem dX9_awards_62 : decode cX9_awards 62 = .ok (.getfield 113, 3) := by decide +kernel
theorem dX9_awards_65 : decode cX9_awards 65 = .ok (.if_icmp .ge 53, 3) := by decide +kernel
theorem dX9_awards_68 : decode cX9_awards 68 = .ok (.aload_n 0, 1) := by decide +kernel
theorem dX9_awards_69 : decode cX9_awards 69 = .ok (.getfield 76, 3) := by decide +kernel
theorem dX9_awards_72 : decode cX9_awards 72 = .ok (.iload 5, 2) := by decide +kernel
theorem dX9_awards_74 : decode cX9_awards 74 = .ok (.iaload, 1) := by decide +kernel
theorem dX9_awards_75 : decode cX9_awards 75 = .ok (.aload_n 0, 1) := by decide +kernel
theorem dX9_awards_76 : decode cX9_awards 76 = .ok (.getfield 9, 3) := by decide +kernel
theorem dX9_awards_79 : decode cX9_awards 79 = .ok (.iload 5, 2) := by decide +kernel
theorem dX9_awards_81 : decode cX9_awards 81 = .ok (.iaload, 1) := by decide +kernel
theorem dX9_awards_82 : decode cX9_awards 82 = .ok (.if_icmp .ge 30, 3) := by decide +kernel
theorem dX9_awards_85 : decode cX9_awards 85 = .ok (.iload 4, 2) := by decide +kernel
theorem dX9_awards_87 : decode cX9_awards 87 = .ok (.iconst (-1), 1) := by decide +kernel
theorem dX9_awards_88 : decode cX9_awards 88 = .ok (.if_icmp .eq 20, 3) := by decide +kernel
theorem dX9_awards_91 : decode cX9_awards 91 = .ok (.aload_n 0, 1) := by decide +kernel
theorem dX9_awards_92 : decode cX9_awards 92 = .ok (.getfield 76, 3) := by decide +kernel
theorem dX9_awards_95 : decode cX9_awards 95 = .ok (.iload 5, 2) := by decide +kernel
theorem dX9_awards_97 : decode cX9_awards 97 = .ok (.iaload, 1) := by decide +kernel
theorem dX9_awards_98 : decode cX9_awards 98 = .ok (.aload_n 0, 1) := by decide +kernel
theorem dX9_awards_99 : decode cX9_awards 99 = .ok (.getfield 76, 3) := by decide +kernel
theorem dX9_awards_102 : decode cX9_awards 102 = .ok (.iload 4, 2) := by decide +kernel
theorem dX9_awards_104 : decode cX9_awards 104 = .ok (.iaload, 1) := by decide +kernel
theorem dX9_awards_105 : decode cX9_awards 105 = .ok (.if_icmp .ge 7, 3) := by decide +kernel
theorem dX9_awards_108 : decode cX9_awards 108 = .ok (.iload 5, 2) := by decide +kernel
theorem dX9_awards_110 : decode cX9_awards 110 = .ok (.istore 4, 2) := by decide +kernel
theorem dX9_awards_112 : decode cX9_awards 112 = .ok (.iinc 5 1, 3) := by decide +kernel
theorem dX9_awards_115 : decode cX9_awards 115 = .ok (.goto (-56), 3) := by decide +kernel
theorem dX9_awards_118 : decode cX9_awards 118 = .ok (.iload 4, 2) := by decide +kernel
theorem dX9_awards_120 : decode cX9_awards 120 = .ok (.iconst (-1), 1) := by decide +kernel
theorem dX9_awards_121 : decode cX9_awards 121 = .ok (.if_icmp .eq 7, 3) := by decide +kernel
theorem dX9_awards_124 : decode cX9_awards 124 = .ok (.iconst 1, 1) := by decide +kernel
theorem dX9_awards_125 : decode cX9_awards 125 = .ok (.goto 4, 3) := by decide +kernel
theorem dX9_awards_128 : decode cX9_awards 128 = .ok (.iconst 0, 1) := by decide +kernel
theorem dX9_awards_129 : decode cX9_awards 129 = .ok (.istore_n 3, 1) := by decide +kernel
theorem dX9_awards_130 : decode cX9_awards 130 = .ok (.iload_n 3, 1) := by decide +kernel
theorem dX9_awards_131 : decode cX9_awards 131 = .ok (.ifCond .eq 17, 3) := by decide +kernel
theorem dX9_awards_134 : decode cX9_awards 134 = .ok (.aload_n 0, 1) := by decide +kernel
theorem dX9_awards_135 : decode cX9_awards 135 = .ok (.getfield 76, 3) := by decide +kernel
theorem dX9_awards_138 : decode cX9_awards 138 = .ok (.iload 4, 2) := by decide +kernel
theorem dX9_awards_140 : decode cX9_awards 140 = .ok (.dup2, 1) := by decide +kernel
theorem dX9_awards_141 : decode cX9_awards 141 = .ok (.iaload, 1) := by decide +kernel
theorem dX9_awards_142 : decode cX9_awards 142 = .ok (.iconst 1, 1) := by decide +kernel
theorem dX9_awards_143 : decode cX9_awards 143 = .ok (.iadd, 1) := by decide +kernel
theorem dX9_awards_144 : decode cX9_awards 144 = .ok (.iastore, 1) := by decide +kernel
theorem dX9_awards_145 : decode cX9_awards 145 = .ok (.iinc 2 (-1), 3) := by decide +kernel
theorem dX9_awards_148 : decode cX9_awards 148 = .ok (.goto (-103), 3) := by decide +kernel
theorem dX9_awards_151 : decode cX9_awards 151 = .ok (.aload_n 0, 1) := by decide +kernel
theorem dX9_awards_152 : decode cX9_awards 152 = .ok (.iconst 0, 1) := by decide +kernel
theorem dX9_awards_153 : decode cX9_awards 153 = .ok (.putfield 110, 3) := by decide +kernel
theorem dX9_awards_156 : decode cX9_awards 156 = .ok (.iconst 0, 1) := by decide +kernel
theorem dX9_awards_157 : decode cX9_awards 157 = .ok (.istore 4, 2) := by decide +kernel
theorem dX9_awards_159 : decode cX9_awards 159 = .ok (.iload 4, 2) := by decide +kernel
theorem dX9_awards_161 : decode cX9_awards 161 = .ok (.aload_n 0, 1) := by decide +kernel
theorem dX9_awards_162 : decode cX9_awards 162 = .ok (.getfield 113, 3) := by decide +kernel
theorem dX9_awards_165 : decode cX9_awards 165 = .ok (.if_icmp .ge 21, 3) := by decide +kernel
theorem dX9_awards_168 : decode cX9_awards 168 = .ok (.aload_n 0, 1) := by decide +kernel
theorem dX9_awards_169 : decode cX9_awards 169 = .ok (.aload_n 0, 1) := by decide +kernel
theorem dX9_awards_170 : decode cX9_awards 170 = .ok (.getfield 76, 3) := by decide +kernel
theorem dX9_awards_173 : decode cX9_awards 173 = .ok (.iload 4, 2) := by decide +kernel
theorem dX9_awards_175 : decode cX9_awards 175 = .ok (.iaload, 1) := by decide +kernel
theorem dX9_awards_176 : decode cX9_awards 176 = .ok (.i2l, 1) := by decide +kernel
theorem dX9_awards_177 : decode cX9_awards 177 = .ok (.invokevirtual 275, 3) := by decide +kernel
theorem dX9_awards_180 : decode cX9_awards 180 = .ok (.iinc 4 1, 3) := by decide +kernel
theorem dX9_awards_183 : decode cX9_awards 183 = .ok (.goto (-24), 3) := by decide +kernel
theorem dX9_awards_186 : decode cX9_awards 186 = .ok (.aload_n 0, 1) := by decide +kernel
theorem dX9_awards_187 : decode cX9_awards 187 = .ok (.iload_n 2, 1) := by decide +kernel
theorem dX9_awards_188 : decode cX9_awards 188 = .ok (.i2l, 1) := by decide +kernel
theorem dX9_awards_189 : decode cX9_awards 189 = .ok (.invokevirtual 275, 3) := by decide +kernel
theorem dX9_awards_192 : decode cX9_awards 192 = .ok (.aload_n 0, 1) := by decide +kernel
theorem dX9_awards_193 : decode cX9_awards 193 = .ok (.getfield 113, 3) := by decide +kernel
theorem dX9_awards_196 : decode cX9_awards 196 = .ok (.ifCond .ne 7, 3) := by decide +kernel
theorem dX9_awards_199 : decode cX9_awards 199 = .ok (.iconst 0, 1) := by decide +kernel
theorem dX9_awards_200 : decode cX9_awards 200 = .ok (.goto 9, 3) := by decide +kernel
theorem dX9_awards_203 : decode cX9_awards 203 = .ok (.aload_n 0, 1) := by decide +kernel
theorem dX9_awards_204 : decode cX9_awards 204 = .ok (.getfield 76, 3) := by decide +kernel
theorem dX9_awards_207 : decode cX9_awards 207 = .ok (.iconst 0, 1) := by decide +kernel
theorem dX9_awards_208 : decode cX9_awards 208 = .ok (.iaload, 1) := by decide +kernel
theorem dX9_awards_209 : decode cX9_awards 209 = .ok (.ireturn, 1) := by decide +kernel
theorem dX9_envy_0 : decode cX9_envy 0 = .ok (.aload_n 0, 1) := by decide +kernel
theorem dX9_envy_1 : decode cX9_envy 1 = .ok (.iconst 0, 1) := by decide +kernel
theorem dX9_envy_2 : decode cX9_envy 2 = .ok (.putfield 107, 3) := by decide +kernel
theorem dX9_envy_5 : decode cX9_envy 5 = .ok (.iconst (-1), 1) := by decide +kernel
theorem dX9_envy_6 : decode cX9_envy 6 = .ok (.istore_n 1, 1) := by decide +kernel
theorem dX9_envy_7 : decode cX9_envy 7 = .ok (.iconst (-1), 1) := by decide +kernel
theorem dX9_envy_8 : decode cX9_envy 8 = .ok (.istore_n 2, 1) := by decide +kernel
theorem dX9_envy_9 : decode cX9_envy 9 = .ok (.iconst (-1), 1) := by decide +kernel
theorem dX9_envy_10 : decode cX9_envy 10 = .ok (.istore_n 3, 1) := by decide +kernel
theorem dX9_envy_11 : decode cX9_envy 11 = .ok (.iconst 0, 1) := by decide +kernel
theorem dX9_envy_12 : decode cX9_envy 12 = .ok (.istore 4, 2) := by decide +kernel
theorem dX9_envy_14 : decode cX9_envy 14 = .ok (.iload 4, 2) := by decide +kernel
theorem dX9_envy_16 : decode cX9_envy 16 = .ok (.aload_n 0, 1) := by decide +kernel
theorem dX9_envy_17 : decode cX9_envy 17 = .ok (.getfield 113, 3) := by decide +kernel
theorem dX9_envy_20 : decode cX9_envy 20 = .ok (.if_icmp .ge 68, 3) := by decide +kernel
theorem dX9_envy_23 : decode cX9_envy 23 = .ok (.iload 4, 2) := by decide +kernel
theorem dX9_envy_25 : decode cX9_envy 25 = .ok (.iconst 1, 1) := by decide +kernel
theorem dX9_envy_26 : decode cX9_envy 26 = .ok (.iadd, 1) := by decide +kernel
theorem dX9_envy_27 : decode cX9_envy 27 = .ok (.istore 5, 2) := by decide +kernel
theorem dX9_envy_29 : decode cX9_envy 29 = .ok (.iload 5, 2) := by decide +kernel
theorem dX9_envy_31 : decode cX9_envy 31 = .ok (.aload_n 0, 1) := by decide +kernel
theorem dX9_envy_32 : decode cX9_envy 32 = .ok (.getfield 113, 3) := by decide +kernel
theorem dX9_envy_35 : decode cX9_envy 35 = .ok (.if_icmp .ge 47, 3) := by decide +kernel
theorem dX9_envy_38 : decode cX9_envy 38 = .ok (.aload_n 0, 1) := by decide +kernel
theorem dX9_envy_39 : decode cX9_envy 39 = .ok (.getfield 9, 3) := by decide +kernel
theorem dX9_envy_42 : decode cX9_envy 42 = .ok (.iload 4, 2) := by decide +kernel
theorem dX9_envy_44 : decode cX9_envy 44 = .ok (.iaload, 1) := by decide +kernel
theorem dX9_envy_45 : decode cX9_envy 45 = .ok (.aload_n 0, 1) := by decide +kernel
theorem dX9_envy_46 : decode cX9_envy 46 = .ok (.getfield 9, 3) := by decide +kernel
theorem dX9_envy_49 : decode cX9_envy 49 = .ok (.iload 5, 2) := by decide +kernel
theorem dX9_envy_51 : decode cX9_envy 51 = .ok (.iaload, 1) := by decide +kernel
theorem dX9_envy_52 : decode cX9_envy 52 = .ok (.isub, 1) := by decide +kernel
theorem dX9_envy_53 : decode cX9_envy 53 = .ok (.invokestatic 320, 3) := by decide +kernel
theorem dX9_envy_56 : decode cX9_envy 56 = .ok (.istore 6, 2) := by decide +kernel
theorem dX9_envy_58 : decode cX9_envy 58 = .ok (.iload 6, 2) := by decide +kernel
theorem dX9_envy_60 : decode cX9_envy 60 = .ok (.iload_n 1, 1) := by decide +kernel
theorem dX9_envy_61 : decode cX9_envy 61 = .ok (.if_icmp .gt 6, 3) := by decide +kernel
theorem dX9_envy_64 : decode cX9_envy 64 = .ok (.goto 12, 3) := by decide +kernel
theorem dX9_envy_67 : decode cX9_envy 67 = .ok (.iload 6, 2) := by decide +kernel
theorem dX9_envy_69 : decode cX9_envy 69 = .ok (.istore_n 1, 1) := by decide +kernel
theorem dX9_envy_70 : decode cX9_envy 70 = .ok (.iload 4, 2) := by decide +kernel
theorem dX9_envy_72 : decode cX9_envy 72 = .ok (.istore_n 2, 1) := by decide +kernel
theorem dX9_envy_73 : decode cX9_envy 73 = .ok (.iload 5, 2) := by decide +kernel
theorem dX9_envy_75 : decode cX9_envy 75 = .ok (.istore_n 3, 1) := by decide +kernel
theorem dX9_envy_76 : decode cX9_envy 76 = .ok (.iinc 5 1, 3) := by decide +kernel
theorem dX9_envy_79 : decode cX9_envy 79 = .ok (.goto (-50), 3) := by decide +kernel
theorem dX9_envy_82 : decode cX9_envy 82 = .ok (.iinc 4 1, 3) := by decide +kernel
theorem dX9_envy_85 : decode cX9_envy 85 = .ok (.goto (-71), 3) := by decide +kernel
theorem dX9_envy_88 : decode cX9_envy 88 = .ok (.iload_n 1, 1) := by decide +kernel
theorem dX9_envy_89 : decode cX9_envy 89 = .ok (.iconst (-1), 1) := by decide +kernel
theorem dX9_envy_90 : decode cX9_envy 90 = .ok (.if_icmp .ne 6, 3) := by decide +kernel
theorem dX9_envy_93 : decode cX9_envy 93 = .ok (.bipush (-2), 2) := by decide +kernel
theorem dX9_envy_95 : decode cX9_envy 95 = .ok (.ireturn, 1) := by decide +kernel
theorem dX9_envy_96 : decode cX9_envy 96 = .ok (.aload_n 0, 1) := by decide +kernel
theorem dX9_envy_97 : decode cX9_envy 97 = .ok (.iconst 0, 1) := by decide +kernel
theorem dX9_envy_98 : decode cX9_envy 98 = .ok (.putfield 110, 3) := by decide +kernel
theorem dX9_envy_101 : decode cX9_envy 101 = .ok (.aload_n 0, 1) := by decide +kernel
theorem dX9_envy_102 : decode cX9_envy 102 = .ok (.iload_n 2, 1) := by decide +kernel
theorem dX9_envy_103 : decode cX9_envy 103 = .ok (.i2l, 1) := by decide +kernel
theorem dX9_envy_104 : decode cX9_envy 104 = .ok (.invokevirtual 275, 3) := by decide +kernel
theorem dX9_envy_107 : decode cX9_envy 107 = .ok (.aload_n 0, 1) := by decide +kernel
theorem dX9_envy_108 : decode cX9_envy 108 = .ok (.iload_n 3, 1) := by decide +kernel
theorem dX9_envy_109 : decode cX9_envy 109 = .ok (.i2l, 1) := by decide +kernel
theorem dX9_envy_110 : decode cX9_envy 110 = .ok (.invokevirtual 275, 3) := by decide +kernel
theorem dX9_envy_113 : decode cX9_envy 113 = .ok (.iload_n 1, 1) := by decide +kernel
theorem dX9_envy_114 : decode cX9_envy 114 = .ok (.ireturn, 1) := by decide +kernel
theorem dX9_raises_0 : decode cX9_raises 0 = .ok (.aload_n 0, 1) := by decide +kernel
theorem dX9_raises_1 : decode cX9_raises 1 = .ok (.iconst 0, 1) := by decide +kernel
theorem dX9_raises_2 : decode cX9_raises 2 = .ok (.putfield 107, 3) := by decide +kernel
theorem dX9_raises_5 : decode cX9_raises 5 = .ok (.iload_n 1, 1) := by decide +kernel
theorem dX9_raises_6 : decode cX9_raises 6 = .ok (.iconst 0, 1) := by decide +kernel
theorem dX9_raises_7 : decode cX9_raises 7 = .ok (.sipush 9999, 3) := by decide +kernel
theorem dX9_raises_10 : decode cX9_raises 10 = .ok (.invokestatic 116, 3) := by decide +kernel
theorem dX9_raises_13 : decode cX9_raises 13 = .ok (.ifCond .ne 5, 3) := by decide +kernel
theorem dX9_raises_16 : decode cX9_raises 16 = .ok (.iconst (-1), 1) := by decide +kernel
theorem dX9_raises_17 : decode cX9_raises 17 = .ok (.ireturn, 1) := by decide +kernel
theorem dX9_raises_18 : decode cX9_raises 18 = .ok (.iload_n 1, 1) := by decide +kernel
theorem dX9_raises_19 : decode cX9_raises 19 = .ok (.aload_n 0, 1) := by decide +kernel
theorem dX9_raises_20 : decode cX9_raises 20 = .ok (.getfield 9, 3) := by decide +kernel
theorem dX9_raises_23 : decode cX9_raises 23 = .ok (.bipush 25, 2) := by decide +kernel
theorem dX9_raises_25 : decode cX9_raises 25 = .ok (.iaload, 1) := by decide +kernel
theorem dX9_raises_26 : decode cX9_raises 26 = .ok (.isub, 1) := by decide +kernel
theorem dX9_raises_27 : decode cX9_raises 27 = .ok (.istore_n 2, 1) := by decide +kernel
theorem dX9_raises_28 : decode cX9_raises 28 = .ok (.iconst (-1), 1) := by decide +kernel
theorem dX9_raises_29 : decode cX9_raises 29 = .ok (.istore_n 3, 1) := by decide +kernel
theorem dX9_raises_30 : decode cX9_raises 30 = .ok (.iload_n 2, 1) := by decide +kernel
theorem dX9_raises_31 : decode cX9_raises 31 = .ok (.ifCond .gt 7, 3) := by decide +kernel
theorem dX9_raises_34 : decode cX9_raises 34 = .ok (.iconst 0, 1) := by decide +kernel
theorem dX9_raises_35 : decode cX9_raises 35 = .ok (.goto 6, 3) := by decide +kernel
theorem dX9_raises_38 : decode cX9_raises 38 = .ok (.ldc_w 323, 3) := by decide +kernel
theorem dX9_raises_41 : decode cX9_raises 41 = .ok (.istore 4, 2) := by decide +kernel
theorem dX9_raises_43 : decode cX9_raises 43 = .ok (.iconst 0, 1) := by decide +kernel
theorem dX9_raises_44 : decode cX9_raises 44 = .ok (.istore 5, 2) := by decide +kernel
theorem dX9_raises_46 : decode cX9_raises 46 = .ok (.iload 5, 2) := by decide +kernel
theorem dX9_raises_48 : decode cX9_raises 48 = .ok (.aload_n 0, 1) := by decide +kernel
theorem dX9_raises_49 : decode cX9_raises 49 = .ok (.getfield 113, 3) := by decide +kernel
theorem dX9_raises_52 : decode cX9_raises 52 = .ok (.if_icmp .ge 80, 3) := by decide +kernel
theorem dX9_raises_55 : decode cX9_raises 55 = .ok (.iload_n 2, 1) := by decide +kernel
theorem dX9_raises_56 : decode cX9_raises 56 = .ok (.ifCond .le 76, 3) := by decide +kernel
theorem dX9_raises_59 : decode cX9_raises 59 = .ok (.aload_n 0, 1) := by decide +kernel
theorem dX9_raises_60 : decode cX9_raises 60 = .ok (.getfield 19, 3) := by decide +kernel
theorem dX9_raises_63 : decode cX9_raises 63 = .ok (.iload 5, 2) := by decide +kernel
theorem dX9_raises_65 : decode cX9_raises 65 = .ok (.iaload, 1) := by decide +kernel
theorem dX9_raises_66 : decode cX9_raises 66 = .ok (.ifCond .ne 6, 3) := by decide +kernel
theorem dX9_raises_69 : decode cX9_raises 69 = .ok (.goto 57, 3) := by decide +kernel
theorem dX9_raises_72 : decode cX9_raises 72 = .ok (.iload_n 2, 1) := by decide +kernel
theorem dX9_raises_73 : decode cX9_raises 73 = .ok (.iconst 2, 1) := by decide +kernel
theorem dX9_raises_74 : decode cX9_raises 74 = .ok (.aload_n 0, 1) := by decide +kernel
theorem dX9_raises_75 : decode cX9_raises 75 = .ok (.getfield 19, 3) := by decide +kernel
theorem dX9_raises_78 : decode cX9_raises 78 = .ok (.iload 5, 2) := by decide +kernel
theorem dX9_raises_80 : decode cX9_raises 80 = .ok (.iaload, 1) := by decide +kernel
theorem dX9_raises_81 : decode cX9_raises 81 = .ok (.imul, 1) := by decide +kernel
theorem dX9_raises_82 : decode cX9_raises 82 = .ok (.iadd, 1) := by decide +kernel
theorem dX9_raises_83 : decode cX9_raises 83 = .ok (.iconst 1, 1) := by decide +kernel
theorem dX9_raises_84 : decode cX9_raises 84 = .ok (.isub, 1) := by decide +kernel
theorem dX9_raises_85 : decode cX9_raises 85 = .ok (.iconst 2, 1) := by decide +kernel
theorem dX9_raises_86 : decode cX9_raises 86 = .ok (.aload_n 0, 1) := by decide +kernel
theorem dX9_raises_87 : decode cX9_raises 87 = .ok (.getfield 19, 3) := by decide +kernel
theorem dX9_raises_90 : decode cX9_raises 90 = .ok (.iload 5, 2) := by decide +kernel
theorem dX9_raises_92 : decode cX9_raises 92 = .ok (.iaload, 1) := by decide +kernel
theorem dX9_raises_93 : decode cX9_raises 93 = .ok (.imul, 1) := by decide +kernel
theorem dX9_raises_94 : decode cX9_raises 94 = .ok (.idiv, 1) := by decide +kernel
theorem dX9_raises_95 : decode cX9_raises 95 = .ok (.istore 6, 2) := by decide +kernel
theorem dX9_raises_97 : decode cX9_raises 97 = .ok (.iload 6, 2) := by decide +kernel
theorem dX9_raises_99 : decode cX9_raises 99 = .ok (.aload_n 0, 1) := by decide +kernel
theorem dX9_raises_100 : decode cX9_raises 100 = .ok (.getfield 9, 3) := by decide +kernel
theorem dX9_raises_103 : decode cX9_raises 103 = .ok (.bipush 24, 2) := by decide +kernel
theorem dX9_raises_105 : decode cX9_raises 105 = .ok (.iaload, 1) := by decide +kernel
theorem dX9_raises_106 : decode cX9_raises 106 = .ok (.if_icmp .gt 20, 3) := by decide +kernel
theorem dX9_raises_109 : decode cX9_raises 109 = .ok (.iload 6, 2) := by decide +kernel
theorem dX9_raises_111 : decode cX9_raises 111 = .ok (.iload 4, 2) := by decide +kernel
theorem dX9_raises_113 : decode cX9_raises 113 = .ok (.if_icmp .lt 6, 3) := by decide +kernel
theorem dX9_raises_116 : decode cX9_raises 116 = .ok (.goto 10, 3) := by decide +kernel
theorem dX9_raises_119 : decode cX9_raises 119 = .ok (.iload 5, 2) := by decide +kernel
theorem dX9_raises_121 : decode cX9_raises 121 = .ok (.istore_n 3, 1) := by decide +kernel
theorem dX9_raises_122 : decode cX9_raises 122 = .ok (.iload 6, 2) := by decide +kernel
theorem dX9_raises_124 : decode cX9_raises 124 = .ok (.istore 4, 2) := by decide +kernel
theorem dX9_raises_126 : decode cX9_raises 126 = .ok (.iinc 5 1, 3) := by decide +kernel
theorem dX9_raises_129 : decode cX9_raises 129 = .ok (.goto (-83), 3) := by decide +kernel
theorem dX9_raises_132 : decode cX9_raises 132 = .ok (.iload 4, 2) := by decide +kernel
theorem dX9_raises_134 : decode cX9_raises 134 = .ok (.ldc_w 323, 3) := by decide +kernel
theorem dX9_raises_137 : decode cX9_raises 137 = .ok (.if_icmp .ne 6, 3) := by decide +kernel
theorem dX9_raises_140 : decode cX9_raises 140 = .ok (.bipush (-2), 2) := by decide +kernel
theorem dX9_raises_142 : decode cX9_raises 142 = .ok (.ireturn, 1) := by decide +kernel
theorem dX9_raises_143 : decode cX9_raises 143 = .ok (.aload_n 0, 1) := by decide +kernel
theorem dX9_raises_144 : decode cX9_raises 144 = .ok (.iconst 0, 1) := by decide +kernel
theorem dX9_raises_145 : decode cX9_raises 145 = .ok (.putfield 110, 3) := by decide +kernel
theorem dX9_raises_148 : decode cX9_raises 148 = .ok (.aload_n 0, 1) := by decide +kernel
theorem dX9_raises_149 : decode cX9_raises 149 = .ok (.iload_n 3, 1) := by decide +kernel
theorem dX9_raises_150 : decode cX9_raises 150 = .ok (.i2l, 1) := by decide +kernel
theorem dX9_raises_151 : decode cX9_raises 151 = .ok (.invokevirtual 275, 3) := by decide +kernel
theorem dX9_raises_154 : decode cX9_raises 154 = .ok (.iload 4, 2) := by decide +kernel
theorem dX9_raises_156 : decode cX9_raises 156 = .ok (.ireturn, 1) := by decide +kernel
theorem dX9_grows_0 : decode cX9_grows 0 = .ok (.aload_n 0, 1) := by decide +kernel
theorem dX9_grows_1 : decode cX9_grows 1 = .ok (.iconst 0, 1) := by decide +kernel
theorem dX9_grows_2 : decode cX9_grows 2 = .ok (.putfield 107, 3) := by decide +kernel
theorem dX9_grows_5 : decode cX9_grows 5 = .ok (.iload_n 1, 1) := by decide +kernel
theorem dX9_grows_6 : decode cX9_grows 6 = .ok (.iconst 0, 1) := by decide +kernel
theorem dX9_grows_7 : decode cX9_grows 7 = .ok (.sipush 9999, 3) := by decide +kernel
theorem dX9_grows_10 : decode cX9_grows 10 = .ok (.invokestatic 116, 3) := by decide +kernel
theorem dX9_grows_13 : decode cX9_grows 13 = .ok (.ifCond .eq 13, 3) := by decide +kernel
theorem dX9_grows_16 : decode cX9_grows 16 = .ok (.iload_n 2, 1) := by decide +kernel
theorem dX9_grows_17 : decode cX9_grows 17 = .ok (.iconst 0, 1) := by decide +kernel
theorem dX9_grows_18 : decode cX9_grows 18 = .ok (.bipush 30, 2) := by decide +kernel
theorem dX9_grows_20 : decode cX9_grows 20 = .ok (.invokestatic 116, 3) := by decide +kernel
theorem dX9_grows_23 : decode cX9_grows 23 = .ok (.ifCond .ne 5, 3) := by decide +kernel
theorem dX9_grows_26 : decode cX9_grows 26 = .ok (.iconst (-1), 1) := by decide +kernel
theorem dX9_grows_27 : decode cX9_grows 27 = .ok (.ireturn, 1) := by decide +kernel
theorem dX9_grows_28 : decode cX9_grows 28 = .ok (.iload_n 1, 1) := by decide +kernel
theorem dX9_grows_29 : decode cX9_grows 29 = .ok (.istore_n 3, 1) := by decide +kernel
theorem dX9_grows_30 : decode cX9_grows 30 = .ok (.iconst 0, 1) := by decide +kernel
theorem dX9_grows_31 : decode cX9_grows 31 = .ok (.istore 4, 2) := by decide +kernel
theorem dX9_grows_33 : decode cX9_grows 33 = .ok (.iconst 0, 1) := by decide +kernel
theorem dX9_grows_34 : decode cX9_grows 34 = .ok (.istore 5, 2) := by decide +kernel
theorem dX9_grows_36 : decode cX9_grows 36 = .ok (.iload 5, 2) := by decide +kernel
theorem dX9_grows_38 : decode cX9_grows 38 = .ok (.iload_n 2, 1) := by decide +kernel
theorem dX9_grows_39 : decode cX9_grows 39 = .ok (.if_icmp .ge 46, 3) := by decide +kernel
theorem dX9_grows_42 : decode cX9_grows 42 = .ok (.iload_n 3, 1) := by decide +kernel
theorem dX9_grows_43 : decode cX9_grows 43 = .ok (.istore 6, 2) := by decide +kernel
theorem dX9_grows_45 : decode cX9_grows 45 = .ok (.iload_n 3, 1) := by decide +kernel
theorem dX9_grows_46 : decode cX9_grows 46 = .ok (.iload_n 3, 1) := by decide +kernel
theorem dX9_grows_47 : decode cX9_grows 47 = .ok (.aload_n 0, 1) := by decide +kernel
theorem dX9_grows_48 : decode cX9_grows 48 = .ok (.getfield 9, 3) := by decide +kernel
theorem dX9_grows_51 : decode cX9_grows 51 = .ok (.bipush 27, 2) := by decide +kernel
theorem dX9_grows_53 : decode cX9_grows 53 = .ok (.iaload, 1) := by decide +kernel
theorem dX9_grows_54 : decode cX9_grows 54 = .ok (.imul, 1) := by decide +kernel
theorem dX9_grows_55 : decode cX9_grows 55 = .ok (.bipush 10, 2) := by decide +kernel
theorem dX9_grows_57 : decode cX9_grows 57 = .ok (.idiv, 1) := by decide +kernel
theorem dX9_grows_58 : decode cX9_grows 58 = .ok (.iadd, 1) := by decide +kernel
theorem dX9_grows_59 : decode cX9_grows 59 = .ok (.invokestatic 262, 3) := by decide +kernel
theorem dX9_grows_62 : decode cX9_grows 62 = .ok (.istore_n 3, 1) := by decide +kernel
theorem dX9_grows_63 : decode cX9_grows 63 = .ok (.iload 4, 2) := by decide +kernel
theorem dX9_grows_65 : decode cX9_grows 65 = .ok (.iload_n 3, 1) := by decide +kernel
theorem dX9_grows_66 : decode cX9_grows 66 = .ok (.iload 6, 2) := by decide +kernel
theorem dX9_grows_68 : decode cX9_grows 68 = .ok (.if_icmp .ne 7, 3) := by decide +kernel
theorem dX9_grows_71 : decode cX9_grows 71 = .ok (.iconst 0, 1) := by decide +kernel
theorem dX9_grows_72 : decode cX9_grows 72 = .ok (.goto 4, 3) := by decide +kernel
theorem dX9_grows_75 : decode cX9_grows 75 = .ok (.iconst 1, 1) := by decide +kernel
theorem dX9_grows_76 : decode cX9_grows 76 = .ok (.iadd, 1) := by decide +kernel
theorem dX9_grows_77 : decode cX9_grows 77 = .ok (.istore 4, 2) := by decide +kernel
theorem dX9_grows_79 : decode cX9_grows 79 = .ok (.iinc 5 1, 3) := by decide +kernel
theorem dX9_grows_82 : decode cX9_grows 82 = .ok (.goto (-46), 3) := by decide +kernel
theorem dX9_grows_85 : decode cX9_grows 85 = .ok (.aload_n 0, 1) := by decide +kernel
theorem dX9_grows_86 : decode cX9_grows 86 = .ok (.iconst 0, 1) := by decide +kernel
theorem dX9_grows_87 : decode cX9_grows 87 = .ok (.putfield 110, 3) := by decide +kernel
theorem dX9_grows_90 : decode cX9_grows 90 = .ok (.aload_n 0, 1) := by decide +kernel
theorem dX9_grows_91 : decode cX9_grows 91 = .ok (.iload 4, 2) := by decide +kernel
theorem dX9_grows_93 : decode cX9_grows 93 = .ok (.i2l, 1) := by decide +kernel
theorem dX9_grows_94 : decode cX9_grows 94 = .ok (.invokevirtual 275, 3) := by decide +kernel
theorem dX9_grows_97 : decode cX9_grows 97 = .ok (.iload_n 3, 1) := by decide +kernel
theorem dX9_grows_98 : decode cX9_grows 98 = .ok (.ireturn, 1) := by decide +kernel
theorem dX9_common_0 : decode cX9_common 0 = .ok (.lload_n 2, 1) := by decide +kernel
theorem dX9_common_1 : decode cX9_common 1 = .ok (.lconst 0, 1) := by decide +kernel
theorem dX9_common_2 : decode cX9_common 2 = .ok (.lcmp, 1) := by decide +kernel
theorem dX9_common_3 : decode cX9_common 3 = .ok (.ifCond .ne 7, 3) := by decide +kernel
theorem dX9_common_6 : decode cX9_common 6 = .ok (.lload_n 0, 1) := by decide +kernel
theorem dX9_common_7 : decode cX9_common 7 = .ok (.goto 10, 3) := by decide +kernel
theorem dX9_common_10 : decode cX9_common 10 = .ok (.lload_n 2, 1) := by decide +kernel
theorem dX9_common_11 : decode cX9_common 11 = .ok (.lload_n 0, 1) := by decide +kernel
theorem dX9_common_12 : decode cX9_common 12 = .ok (.lload_n 2, 1) := by decide +kernel
theorem dX9_common_13 : decode cX9_common 13 = .ok (.lrem, 1) := by decide +kernel
theorem dX9_common_14 : decode cX9_common 14 = .ok (.invokestatic 324, 3) := by decide +kernel
theorem dX9_common_17 : decode cX9_common 17 = .ok (.lreturn, 1) := by decide +kernel
theorem dX9_power_0 : decode cX9_power 0 = .ok (.lconst 1, 1) := by decide +kernel
theorem dX9_power_1 : decode cX9_power 1 = .ok (.lstore_n 3, 1) := by decide +kernel
theorem dX9_power_2 : decode cX9_power 2 = .ok (.iconst 0, 1) := by decide +kernel
theorem dX9_power_3 : decode cX9_power 3 = .ok (.istore 5, 2) := by decide +kernel
theorem dX9_power_5 : decode cX9_power 5 = .ok (.iload 5, 2) := by decide +kernel
theorem dX9_power_7 : decode cX9_power 7 = .ok (.iload_n 2, 1) := by decide +kernel
theorem dX9_power_8 : decode cX9_power 8 = .ok (.if_icmp .ge 13, 3) := by decide +kernel
theorem dX9_power_11 : decode cX9_power 11 = .ok (.lload_n 3, 1) := by decide +kernel
theorem dX9_power_12 : decode cX9_power 12 = .ok (.lload_n 0, 1) := by decide +kernel
theorem dX9_power_13 : decode cX9_power 13 = .ok (.lmul, 1) := by decide +kernel
theorem dX9_power_14 : decode cX9_power 14 = .ok (.lstore_n 3, 1) := by decide +kernel
theorem dX9_power_15 : decode cX9_power 15 = .ok (.iinc 5 1, 3) := by decide +kernel
theorem dX9_power_18 : decode cX9_power 18 = .ok (.goto (-13), 3) := by decide +kernel
theorem dX9_power_21 : decode cX9_power 21 = .ok (.lload_n 3, 1) := by decide +kernel
theorem dX9_power_22 : decode cX9_power 22 = .ok (.lreturn, 1) := by decide +kernel
theorem dX9_tellPart_0 : decode cX9_tellPart 0 = .ok (.lload_n 1, 1) := by decide +kernel
theorem dX9_tellPart_1 : decode cX9_tellPart 1 = .ok (.lload_n 3, 1) := by decide +kernel
theorem dX9_tellPart_2 : decode cX9_tellPart 2 = .ok (.invokestatic 324, 3) := by decide +kernel
theorem dX9_tellPart_5 : decode cX9_tellPart 5 = .ok (.lstore 5, 2) := by decide +kernel
theorem dX9_tellPart_7 : decode cX9_tellPart 7 = .ok (.aload_n 0, 1) := by decide +kernel
theorem dX9_tellPart_8 : decode cX9_tellPart 8 = .ok (.lload_n 1, 1) := by decide +kernel
theorem dX9_tellPart_9 : decode cX9_tellPart 9 = .ok (.lload 5, 2) := by decide +kernel
theorem dX9_tellPart_11 : decode cX9_tellPart 11 = .ok (.ldiv, 1) := by decide +kernel
theorem dX9_tellPart_12 : decode cX9_tellPart 12 = .ok (.invokevirtual 275, 3) := by decide +kernel
theorem dX9_tellPart_15 : decode cX9_tellPart 15 = .ok (.aload_n 0, 1) := by decide +kernel
theorem dX9_tellPart_16 : decode cX9_tellPart 16 = .ok (.lload_n 3, 1) := by decide +kernel
theorem dX9_tellPart_17 : decode cX9_tellPart 17 = .ok (.lload 5, 2) := by decide +kernel
theorem dX9_tellPart_19 : decode cX9_tellPart 19 = .ok (.ldiv, 1) := by decide +kernel
theorem dX9_tellPart_20 : decode cX9_tellPart 20 = .ok (.invokevirtual 275, 3) := by decide +kernel
theorem dX9_tellPart_23 : decode cX9_tellPart 23 = .ok (.return_, 1) := by decide +kernel
theorem dX9_luckOf_0 : decode cX9_luckOf 0 = .ok (.aload_n 0, 1) := by decide +kernel
theorem dX9_luckOf_1 : decode cX9_luckOf 1 = .ok (.getfield 79, 3) := by decide +kernel
theorem dX9_luckOf_4 : decode cX9_luckOf 4 = .ok (.bipush 21, 2) := by decide +kernel
theorem dX9_luckOf_6 : decode cX9_luckOf 6 = .ok (.iload_n 1, 1) := by decide +kernel
theorem dX9_luckOf_7 : decode cX9_luckOf 7 = .ok (.imul, 1) := by decide +kernel
theorem dX9_luckOf_8 : decode cX9_luckOf 8 = .ok (.bipush 20, 2) := by decide +kernel
theorem dX9_luckOf_10 : decode cX9_luckOf 10 = .ok (.iload_n 2, 1) := by decide +kernel
theorem dX9_luckOf_11 : decode cX9_luckOf 11 = .ok (.invokestatic 225, 3) := by decide +kernel
theorem dX9_luckOf_14 : decode cX9_luckOf 14 = .ok (.iadd, 1) := by decide +kernel
theorem dX9_luckOf_15 : decode cX9_luckOf 15 = .ok (.laload, 1) := by decide +kernel
theorem dX9_luckOf_16 : decode cX9_luckOf 16 = .ok (.lreturn, 1) := by decide +kernel
theorem dX9_luckBy_0 : decode cX9_luckBy 0 = .ok (.iload 4, 2) := by decide +kernel
theorem dX9_luckBy_2 : decode cX9_luckBy 2 = .ok (.i2l, 1) := by decide +kernel
theorem dX9_luckBy_3 : decode cX9_luckBy 3 = .ok (.aload_n 0, 1) := by decide +kernel
theorem dX9_luckBy_4 : decode cX9_luckBy 4 = .ok (.iload_n 1, 1) := by decide +kernel
theorem dX9_luckBy_5 : decode cX9_luckBy 5 = .ok (.iconst 1, 1) := by decide +kernel
theorem dX9_luckBy_6 : decode cX9_luckBy 6 = .ok (.isub, 1) := by decide +kernel
theorem dX9_luckBy_7 : decode cX9_luckBy 7 = .ok (.iload_n 2, 1) := by decide +kernel
theorem dX9_luckBy_8 : decode cX9_luckBy 8 = .ok (.iload_n 3, 1) := by decide +kernel
theorem dX9_luckBy_9 : decode cX9_luckBy 9 = .ok (.iadd, 1) := by decide +kernel
theorem dX9_luckBy_10 : decode cX9_luckBy 10 = .ok (.invokevirtual 328, 3) := by decide +kernel
theorem dX9_luckBy_13 : decode cX9_luckBy 13 = .ok (.lmul, 1) := by decide +kernel
theorem dX9_luckBy_14 : decode cX9_luckBy 14 = .ok (.bipush 10, 2) := by decide +kernel
theorem dX9_luckBy_16 : decode cX9_luckBy 16 = .ok (.iload 4, 2) := by decide +kernel
theorem dX9_luckBy_18 : decode cX9_luckBy 18 = .ok (.isub, 1) := by decide +kernel
theorem dX9_luckBy_19 : decode cX9_luckBy 19 = .ok (.i2l, 1) := by decide +kernel
theorem dX9_luckBy_20 : decode cX9_luckBy 20 = .ok (.aload_n 0, 1) := by decide +kernel
theorem dX9_luckBy_21 : decode cX9_luckBy 21 = .ok (.iload_n 1, 1) := by decide +kernel
theorem dX9_luckBy_22 : decode cX9_luckBy 22 = .ok (.iconst 1, 1) := by decide +kernel
theorem dX9_luckBy_23 : decode cX9_luckBy 23 = .ok (.isub, 1) := by decide +kernel
theorem dX9_luckBy_24 : decode cX9_luckBy 24 = .ok (.iload_n 2, 1) := by decide +kernel
theorem dX9_luckBy_25 : decode cX9_luckBy 25 = .ok (.iload_n 3, 1) := by decide +kernel
theorem dX9_luckBy_26 : decode cX9_luckBy 26 = .ok (.isub, 1) := by decide +kernel
theorem dX9_luckBy_27 : decode cX9_luckBy 27 = .ok (.invokevirtual 328, 3) := by decide +kernel
theorem dX9_luckBy_30 : decode cX9_luckBy 30 = .ok (.lmul, 1) := by decide +kernel
theorem dX9_luckBy_31 : decode cX9_luckBy 31 = .ok (.ladd, 1) := by decide +kernel
theorem dX9_luckBy_32 : decode cX9_luckBy 32 = .ok (.lreturn, 1) := by decide +kernel
theorem dX9_bold_0 : decode cX9_bold 0 = .ok (.aload_n 0, 1) := by decide +kernel
theorem dX9_bold_1 : decode cX9_bold 1 = .ok (.iconst 0, 1) := by decide +kernel
theorem dX9_bold_2 : decode cX9_bold 2 = .ok (.putfield 107, 3) := by decide +kernel
theorem dX9_bold_5 : decode cX9_bold 5 = .ok (.iload_n 1, 1) := by decide +kernel
theorem dX9_bold_6 : decode cX9_bold 6 = .ok (.iconst 0, 1) := by decide +kernel
theorem dX9_bold_7 : decode cX9_bold 7 = .ok (.bipush 20, 2) := by decide +kernel
theorem dX9_bold_9 : decode cX9_bold 9 = .ok (.invokestatic 116, 3) := by decide +kernel
theorem dX9_bold_12 : decode cX9_bold 12 = .ok (.ifCond .eq 34, 3) := by decide +kernel
theorem dX9_bold_15 : decode cX9_bold 15 = .ok (.iload_n 2, 1) := by decide +kernel
theorem dX9_bold_16 : decode cX9_bold 16 = .ok (.iconst 1, 1) := by decide +kernel
theorem dX9_bold_17 : decode cX9_bold 17 = .ok (.bipush 20, 2) := by decide +kernel
theorem dX9_bold_19 : decode cX9_bold 19 = .ok (.invokestatic 116, 3) := by decide +kernel
theorem dX9_bold_22 : decode cX9_bold 22 = .ok (.ifCond .eq 24, 3) := by decide +kernel
theorem dX9_bold_25 : decode cX9_bold 25 = .ok (.iload_n 3, 1) := by decide +kernel
theorem dX9_bold_26 : decode cX9_bold 26 = .ok (.iconst 0, 1) := by decide +kernel
theorem dX9_bold_27 : decode cX9_bold 27 = .ok (.bipush 8, 2) := by decide +kernel
theorem dX9_bold_29 : decode cX9_bold 29 = .ok (.invokestatic 116, 3) := by decide +kernel
theorem dX9_bold_32 : decode cX9_bold 32 = .ok (.ifCond .eq 14, 3) := by decide +kernel
theorem dX9_bold_35 : decode cX9_bold 35 = .ok (.iload 4, 2) := by decide +kernel
theorem dX9_bold_37 : decode cX9_bold 37 = .ok (.iconst 0, 1) := by decide +kernel
theorem dX9_bold_38 : decode cX9_bold 38 = .ok (.bipush 10, 2) := by decide +kernel
theorem dX9_bold_40 : decode cX9_bold 40 = .ok (.invokestatic 116, 3) := by decide +kernel
theorem dX9_bold_43 : decode cX9_bold 43 = .ok (.ifCond .ne 5, 3) := by decide +kernel
theorem dX9_bold_46 : decode cX9_bold 46 = .ok (.iconst (-1), 1) := by decide +kernel
theorem dX9_bold_47 : decode cX9_bold 47 = .ok (.ireturn, 1) := by decide +kernel
theorem dX9_bold_48 : decode cX9_bold 48 = .ok (.iconst 0, 1) := by decide +kernel
theorem dX9_bold_49 : decode cX9_bold 49 = .ok (.istore 5, 2) := by decide +kernel
theorem dX9_bold_51 : decode cX9_bold 51 = .ok (.iload 5, 2) := by decide +kernel
theorem dX9_bold_53 : decode cX9_bold 53 = .ok (.bipush 20, 2) := by decide +kernel
theorem dX9_bold_55 : decode cX9_bold 55 = .ok (.if_icmp .gt 27, 3) := by decide +kernel
theorem dX9_bold_58 : decode cX9_bold 58 = .ok (.aload_n 0, 1) := by decide +kernel
theorem dX9_bold_59 : decode cX9_bold 59 = .ok (.getfield 79, 3) := by decide +kernel
theorem dX9_bold_62 : decode cX9_bold 62 = .ok (.iload 5, 2) := by decide +kernel
theorem dX9_bold_64 : decode cX9_bold 64 = .ok (.iload 5, 2) := by decide +kernel
theorem dX9_bold_66 : decode cX9_bold 66 = .ok (.iload_n 2, 1) := by decide +kernel
theorem dX9_bold_67 : decode cX9_bold 67 = .ok (.if_icmp .lt 7, 3) := by decide +kernel
theorem dX9_bold_70 : decode cX9_bold 70 = .ok (.lconst 1, 1) := by decide +kernel
theorem dX9_bold_71 : decode cX9_bold 71 = .ok (.goto 4, 3) := by decide +kernel
theorem dX9_bold_74 : decode cX9_bold 74 = .ok (.lconst 0, 1) := by decide +kernel
theorem dX9_bold_75 : decode cX9_bold 75 = .ok (.lastore, 1) := by decide +kernel
theorem dX9_bold_76 : decode cX9_bold 76 = .ok (.iinc 5 1, 3) := by decide +kernel
theorem dX9_bold_79 : decode cX9_bold 79 = .ok (.goto (-28), 3) := by decide +kernel
theorem dX9_bold_82 : decode cX9_bold 82 = .ok (.iconst 1, 1) := by decide +kernel
theorem dX9_bold_83 : decode cX9_bold 83 = .ok (.istore 5, 2) := by decide +kernel
theorem dX9_bold_85 : decode cX9_bold 85 = .ok (.iload 5, 2) := by decide +kernel
theorem dX9_bold_87 : decode cX9_bold 87 = .ok (.iload_n 3, 1) := by decide +kernel
theorem dX9_bold_88 : decode cX9_bold 88 = .ok (.if_icmp .gt 78, 3) := by decide +kernel
theorem dX9_bold_91 : decode cX9_bold 91 = .ok (.iconst 0, 1) := by decide +kernel
theorem dX9_bold_92 : decode cX9_bold 92 = .ok (.istore 6, 2) := by decide +kernel
theorem dX9_bold_94 : decode cX9_bold 94 = .ok (.iload 6, 2) := by decide +kernel
theorem dX9_bold_96 : decode cX9_bold 96 = .ok (.bipush 20, 2) := by decide +kernel
theorem dX9_bold_98 : decode cX9_bold 98 = .ok (.if_icmp .gt 62, 3) := by decide +kernel
theorem dX9_bold_101 : decode cX9_bold 101 = .ok (.lconst 0, 1) := by decide +kernel
theorem dX9_bold_102 : decode cX9_bold 102 = .ok (.lstore 7, 2) := by decide +kernel
theorem dX9_bold_104 : decode cX9_bold 104 = .ok (.iconst 0, 1) := by decide +kernel
theorem dX9_bold_105 : decode cX9_bold 105 = .ok (.istore 9, 2) := by decide +kernel
theorem dX9_bold_107 : decode cX9_bold 107 = .ok (.iload 9, 2) := by decide +kernel
theorem dX9_bold_109 : decode cX9_bold 109 = .ok (.iload 6, 2) := by decide +kernel
theorem dX9_bold_111 : decode cX9_bold 111 = .ok (.if_icmp .gt 28, 3) := by decide +kernel
theorem dX9_bold_114 : decode cX9_bold 114 = .ok (.lload 7, 2) := by decide +kernel
theorem dX9_bold_116 : decode cX9_bold 116 = .ok (.aload_n 0, 1) := by decide +kernel
theorem dX9_bold_117 : decode cX9_bold 117 = .ok (.iload 5, 2) := by decide +kernel
theorem dX9_bold_119 : decode cX9_bold 119 = .ok (.iload 6, 2) := by decide +kernel
theorem dX9_bold_121 : decode cX9_bold 121 = .ok (.iload 9, 2) := by decide +kernel
theorem dX9_bold_123 : decode cX9_bold 123 = .ok (.iload 4, 2) := by decide +kernel
theorem dX9_bold_125 : decode cX9_bold 125 = .ok (.invokevirtual 332, 3) := by decide +kernel
theorem dX9_bold_128 : decode cX9_bold 128 = .ok (.invokestatic 336, 3) := by decide +kernel
theorem dX9_bold_131 : decode cX9_bold 131 = .ok (.lstore 7, 2) := by decide +kernel
theorem dX9_bold_133 : decode cX9_bold 133 = .ok (.iinc 9 1, 3) := by decide +kernel
theorem dX9_bold_136 : decode cX9_bold 136 = .ok (.goto (-29), 3) := by decide +kernel
theorem dX9_bold_139 : decode cX9_bold 139 = .ok (.aload_n 0, 1) := by decide +kernel
theorem dX9_bold_140 : decode cX9_bold 140 = .ok (.getfield 79, 3) := by decide +kernel
theorem dX9_bold_143 : decode cX9_bold 143 = .ok (.bipush 21, 2) := by decide +kernel
theorem dX9_bold_145 : decode cX9_bold 145 = .ok (.iload 5, 2) := by decide +kernel
theorem dX9_bold_147 : decode cX9_bold 147 = .ok (.imul, 1) := by decide +kernel
theorem dX9_bold_148 : decode cX9_bold 148 = .ok (.iload 6, 2) := by decide +kernel
theorem dX9_bold_150 : decode cX9_bold 150 = .ok (.iadd, 1) := by decide +kernel
theorem dX9_bold_151 : decode cX9_bold 151 = .ok (.lload 7, 2) := by decide +kernel
theorem dX9_bold_153 : decode cX9_bold 153 = .ok (.lastore, 1) := by decide +kernel
theorem dX9_bold_154 : decode cX9_bold 154 = .ok (.iinc 6 1, 3) := by decide +kernel
theorem dX9_bold_157 : decode cX9_bold 157 = .ok (.goto (-63), 3) := by decide +kernel
theorem dX9_bold_160 : decode cX9_bold 160 = .ok (.iinc 5 1, 3) := by decide +kernel
theorem dX9_bold_163 : decode cX9_bold 163 = .ok (.goto (-78), 3) := by decide +kernel
theorem dX9_bold_166 : decode cX9_bold 166 = .ok (.iload_n 3, 1) := by decide +kernel
theorem dX9_bold_167 : decode cX9_bold 167 = .ok (.ifCond .ne 7, 3) := by decide +kernel
theorem dX9_bold_170 : decode cX9_bold 170 = .ok (.iconst (-1), 1) := by decide +kernel
theorem dX9_bold_171 : decode cX9_bold 171 = .ok (.goto 4, 3) := by decide +kernel
theorem dX9_bold_174 : decode cX9_bold 174 = .ok (.iconst 0, 1) := by decide +kernel
theorem dX9_bold_175 : decode cX9_bold 175 = .ok (.istore 5, 2) := by decide +kernel
theorem dX9_bold_177 : decode cX9_bold 177 = .ok (.iload_n 3, 1) := by decide +kernel
theorem dX9_bold_178 : decode cX9_bold 178 = .ok (.ifCond .le 29, 3) := by decide +kernel
theorem dX9_bold_181 : decode cX9_bold 181 = .ok (.aload_n 0, 1) := by decide +kernel
theorem dX9_bold_182 : decode cX9_bold 182 = .ok (.iload_n 3, 1) := by decide +kernel
theorem dX9_bold_183 : decode cX9_bold 183 = .ok (.iload_n 1, 1) := by decide +kernel
theorem dX9_bold_184 : decode cX9_bold 184 = .ok (.iload 5, 2) := by decide +kernel
theorem dX9_bold_186 : decode cX9_bold 186 = .ok (.iload 4, 2) := by decide +kernel
theorem dX9_bold_188 : decode cX9_bold 188 = .ok (.invokevirtual 332, 3) := by decide +kernel
theorem dX9_bold_191 : decode cX9_bold 191 = .ok (.aload_n 0, 1) := by decide +kernel
theorem dX9_bold_192 : decode cX9_bold 192 = .ok (.iload_n 3, 1) := by decide +kernel
theorem dX9_bold_193 : decode cX9_bold 193 = .ok (.iload_n 1, 1) := by decide +kernel
theorem dX9_bold_194 : decode cX9_bold 194 = .ok (.invokevirtual 328, 3) := by decide +kernel
theorem dX9_bold_197 : decode cX9_bold 197 = .ok (.lcmp, 1) := by decide +kernel
theorem dX9_bold_198 : decode cX9_bold 198 = .ok (.ifCond .eq 9, 3) := by decide +kernel
theorem dX9_bold_201 : decode cX9_bold 201 = .ok (.iinc 5 1, 3) := by decide +kernel
theorem dX9_bold_204 : decode cX9_bold 204 = .ok (.goto (-27), 3) := by decide +kernel
theorem dX9_bold_207 : decode cX9_bold 207 = .ok (.aload_n 0, 1) := by decide +kernel
theorem dX9_bold_208 : decode cX9_bold 208 = .ok (.iconst 0, 1) := by decide +kernel
theorem dX9_bold_209 : decode cX9_bold 209 = .ok (.putfield 110, 3) := by decide +kernel
theorem dX9_bold_212 : decode cX9_bold 212 = .ok (.aload_n 0, 1) := by decide +kernel
theorem dX9_bold_213 : decode cX9_bold 213 = .ok (.aload_n 0, 1) := by decide +kernel
theorem dX9_bold_214 : decode cX9_bold 214 = .ok (.iload_n 3, 1) := by decide +kernel
theorem dX9_bold_215 : decode cX9_bold 215 = .ok (.iload_n 1, 1) := by decide +kernel
theorem dX9_bold_216 : decode cX9_bold 216 = .ok (.invokevirtual 328, 3) := by decide +kernel
theorem dX9_bold_219 : decode cX9_bold 219 = .ok (.ldc2_w 338, 3) := by decide +kernel
theorem dX9_bold_222 : decode cX9_bold 222 = .ok (.iload_n 3, 1) := by decide +kernel
theorem dX9_bold_223 : decode cX9_bold 223 = .ok (.invokestatic 340, 3) := by decide +kernel
theorem dX9_bold_226 : decode cX9_bold 226 = .ok (.invokevirtual 344, 3) := by decide +kernel
theorem dX9_bold_229 : decode cX9_bold 229 = .ok (.aload_n 0, 1) := by decide +kernel
theorem dX9_bold_230 : decode cX9_bold 230 = .ok (.iload 5, 2) := by decide +kernel
theorem dX9_bold_232 : decode cX9_bold 232 = .ok (.i2l, 1) := by decide +kernel
theorem dX9_bold_233 : decode cX9_bold 233 = .ok (.invokevirtual 275, 3) := by decide +kernel
theorem dX9_bold_236 : decode cX9_bold 236 = .ok (.iconst 0, 1) := by decide +kernel
theorem dX9_bold_237 : decode cX9_bold 237 = .ok (.ireturn, 1) := by decide +kernel
theorem dX9_notes_0 : decode cX9_notes 0 = .ok (.aload_n 0, 1) := by decide +kernel
theorem dX9_notes_1 : decode cX9_notes 1 = .ok (.iconst 0, 1) := by decide +kernel
theorem dX9_notes_2 : decode cX9_notes 2 = .ok (.putfield 107, 3) := by decide +kernel
theorem dX9_notes_5 : decode cX9_notes 5 = .ok (.iload_n 1, 1) := by decide +kernel
theorem dX9_notes_6 : decode cX9_notes 6 = .ok (.iconst 0, 1) := by decide +kernel
theorem dX9_notes_7 : decode cX9_notes 7 = .ok (.bipush 60, 2) := by decide +kernel
theorem dX9_notes_9 : decode cX9_notes 9 = .ok (.invokestatic 116, 3) := by decide +kernel
theorem dX9_notes_12 : decode cX9_notes 12 = .ok (.ifCond .eq 23, 3) := by decide +kernel
theorem dX9_notes_15 : decode cX9_notes 15 = .ok (.iload_n 2, 1) := by decide +kernel
theorem dX9_notes_16 : decode cX9_notes 16 = .ok (.iconst 1, 1) := by decide +kernel
theorem dX9_notes_17 : decode cX9_notes 17 = .ok (.bipush 9, 2) := by decide +kernel
theorem dX9_notes_19 : decode cX9_notes 19 = .ok (.invokestatic 116, 3) := by decide +kernel
theorem dX9_notes_22 : decode cX9_notes 22 = .ok (.ifCond .eq 13, 3) := by decide +kernel
theorem dX9_notes_25 : decode cX9_notes 25 = .ok (.iload_n 3, 1) := by decide +kernel
theorem dX9_notes_26 : decode cX9_notes 26 = .ok (.iconst 0, 1) := by decide +kernel
theorem dX9_notes_27 : decode cX9_notes 27 = .ok (.bipush 9, 2) := by decide +kernel
theorem dX9_notes_29 : decode cX9_notes 29 = .ok (.invokestatic 116, 3) := by decide +kernel
theorem dX9_notes_32 : decode cX9_notes 32 = .ok (.ifCond .ne 5, 3) := by decide +kernel
theorem dX9_notes_35 : decode cX9_notes 35 = .ok (.iconst (-1), 1) := by decide +kernel
theorem dX9_notes_36 : decode cX9_notes 36 = .ok (.ireturn, 1) := by decide +kernel
theorem dX9_notes_37 : decode cX9_notes 37 = .ok (.iconst 0, 1) := by decide +kernel
theorem dX9_notes_38 : decode cX9_notes 38 = .ok (.istore 4, 2) := by decide +kernel
theorem dX9_notes_40 : decode cX9_notes 40 = .ok (.iload 4, 2) := by decide +kernel
theorem dX9_notes_42 : decode cX9_notes 42 = .ok (.iload_n 1, 1) := by decide +kernel
theorem dX9_notes_43 : decode cX9_notes 43 = .ok (.if_icmp .gt 100, 3) := by decide +kernel
theorem dX9_notes_46 : decode cX9_notes 46 = .ok (.iconst 0, 1) := by decide +kernel
theorem dX9_notes_47 : decode cX9_notes 47 = .ok (.istore 5, 2) := by decide +kernel
theorem dX9_notes_49 : decode cX9_notes 49 = .ok (.iload 5, 2) := by decide +kernel
theorem dX9_notes_51 : decode cX9_notes 51 = .ok (.bipush 9, 2) := by decide +kernel
theorem dX9_notes_53 : decode cX9_notes 53 = .ok (.if_icmp .gt 84, 3) := by decide +kernel
theorem dX9_notes_56 : decode cX9_notes 56 = .ok (.iconst 0, 1) := by decide +kernel
theorem dX9_notes_57 : decode cX9_notes 57 = .ok (.istore 6, 2) := by decide +kernel
theorem dX9_notes_59 : decode cX9_notes 59 = .ok (.iconst 1, 1) := by decide +kernel
theorem dX9_notes_60 : decode cX9_notes 60 = .ok (.istore 7, 2) := by decide +kernel
theorem dX9_notes_62 : decode cX9_notes 62 = .ok (.iload 7, 2) := by decide +kernel
theorem dX9_notes_64 : decode cX9_notes 64 = .ok (.iload_n 2, 1) := by decide +kernel
theorem dX9_notes_65 : decode cX9_notes 65 = .ok (.if_icmp .gt 51, 3) := by decide +kernel
theorem dX9_notes_68 : decode cX9_notes 68 = .ok (.iload 7, 2) := by decide +kernel
theorem dX9_notes_70 : decode cX9_notes 70 = .ok (.iload 4, 2) := by decide +kernel
theorem dX9_notes_72 : decode cX9_notes 72 = .ok (.if_icmp .gt 44, 3) := by decide +kernel
theorem dX9_notes_75 : decode cX9_notes 75 = .ok (.iload 6, 2) := by decide +kernel
theorem dX9_notes_77 : decode cX9_notes 77 = .ok (.ifCond .ne 39, 3) := by decide +kernel
theorem dX9_notes_80 : decode cX9_notes 80 = .ok (.iload 7, 2) := by decide +kernel
theorem dX9_notes_82 : decode cX9_notes 82 = .ok (.iload 5, 2) := by decide +kernel
theorem dX9_notes_84 : decode cX9_notes 84 = .ok (.if_icmp .eq 26, 3) := by decide +kernel
theorem dX9_notes_87 : decode cX9_notes 87 = .ok (.aload_n 0, 1) := by decide +kernel
theorem dX9_notes_88 : decode cX9_notes 88 = .ok (.getfield 82, 3) := by decide +kernel
theorem dX9_notes_91 : decode cX9_notes 91 = .ok (.bipush 10, 2) := by decide +kernel
theorem dX9_notes_93 : decode cX9_notes 93 = .ok (.iload 4, 2) := by decide +kernel
theorem dX9_notes_95 : decode cX9_notes 95 = .ok (.iload 7, 2) := by decide +kernel
theorem dX9_notes_97 : decode cX9_notes 97 = .ok (.isub, 1) := by decide +kernel
theorem dX9_notes_98 : decode cX9_notes 98 = .ok (.imul, 1) := by decide +kernel
theorem dX9_notes_99 : decode cX9_notes 99 = .ok (.iload 7, 2) := by decide +kernel
theorem dX9_notes_101 : decode cX9_notes 101 = .ok (.iadd, 1) := by decide +kernel
theorem dX9_notes_102 : decode cX9_notes 102 = .ok (.iaload, 1) := by decide +kernel
theorem dX9_notes_103 : decode cX9_notes 103 = .ok (.ifCond .ne 7, 3) := by decide +kernel
theorem dX9_notes_106 : decode cX9_notes 106 = .ok (.iload 7, 2) := by decide +kernel
theorem dX9_notes_108 : decode cX9_notes 108 = .ok (.istore 6, 2) := by decide +kernel
theorem dX9_notes_110 : decode cX9_notes 110 = .ok (.iinc 7 1, 3) := by decide +kernel
theorem dX9_notes_113 : decode cX9_notes 113 = .ok (.goto (-51), 3) := by decide +kernel
theorem dX9_notes_116 : decode cX9_notes 116 = .ok (.aload_n 0, 1) := by decide +kernel
theorem dX9_notes_117 : decode cX9_notes 117 = .ok (.getfield 82, 3) := by decide +kernel
theorem dX9_notes_120 : decode cX9_notes 120 = .ok (.bipush 10, 2) := by decide +kernel
theorem dX9_notes_122 : decode cX9_notes 122 = .ok (.iload 4, 2) := by decide +kernel
theorem dX9_notes_124 : decode cX9_notes 124 = .ok (.imul, 1) := by decide +kernel
theorem dX9_notes_125 : decode cX9_notes 125 = .ok (.iload 5, 2) := by decide +kernel
theorem dX9_notes_127 : decode cX9_notes 127 = .ok (.iadd, 1) := by decide +kernel
theorem dX9_notes_128 : decode cX9_notes 128 = .ok (.iload 6, 2) := by decide +kernel
theorem dX9_notes_130 : decode cX9_notes 130 = .ok (.iastore, 1) := by decide +kernel
theorem dX9_notes_131 : decode cX9_notes 131 = .ok (.iinc 5 1, 3) := by decide +kernel
theorem dX9_notes_134 : decode cX9_notes 134 = .ok (.goto (-85), 3) := by decide +kernel
theorem dX9_notes_137 : decode cX9_notes 137 = .ok (.iinc 4 1, 3) := by decide +kernel
theorem dX9_notes_140 : decode cX9_notes 140 = .ok (.goto (-100), 3) := by decide +kernel
theorem dX9_notes_143 : decode cX9_notes 143 = .ok (.aload_n 0, 1) := by decide +kernel
theorem dX9_notes_144 : decode cX9_notes 144 = .ok (.getfield 82, 3) := by decide +kernel
theorem dX9_notes_147 : decode cX9_notes 147 = .ok (.bipush 10, 2) := by decide +kernel
theorem dX9_notes_149 : decode cX9_notes 149 = .ok (.iload_n 1, 1) := by decide +kernel
theorem dX9_notes_150 : decode cX9_notes 150 = .ok (.imul, 1) := by decide +kernel
theorem dX9_notes_151 : decode cX9_notes 151 = .ok (.iload_n 3, 1) := by decide +kernel
theorem dX9_notes_152 : decode cX9_notes 152 = .ok (.iadd, 1) := by decide +kernel
theorem dX9_notes_153 : decode cX9_notes 153 = .ok (.iaload, 1) := by decide +kernel
theorem dX9_notes_154 : decode cX9_notes 154 = .ok (.ireturn, 1) := by decide +kernel
theorem dX9_look_0 : decode cX9_look 0 = .ok (.aload_n 0, 1) := by decide +kernel
theorem dX9_look_1 : decode cX9_look 1 = .ok (.iconst 0, 1) := by decide +kernel
theorem dX9_look_2 : decode cX9_look 2 = .ok (.putfield 107, 3) := by decide +kernel
theorem dX9_look_5 : decode cX9_look 5 = .ok (.iload_n 1, 1) := by decide +kernel
theorem dX9_look_6 : decode cX9_look 6 = .ok (.iconst 0, 1) := by decide +kernel
theorem dX9_look_7 : decode cX9_look 7 = .ok (.bipush 9, 2) := by decide +kernel
theorem dX9_look_9 : decode cX9_look 9 = .ok (.invokestatic 116, 3) := by decide +kernel
theorem dX9_look_12 : decode cX9_look 12 = .ok (.ifCond .eq 21, 3) := by decide +kernel
theorem dX9_look_15 : decode cX9_look 15 = .ok (.iload_n 2, 1) := by decide +kernel
theorem dX9_look_16 : decode cX9_look 16 = .ok (.iconst 0, 1) := by decide +kernel
theorem dX9_look_17 : decode cX9_look 17 = .ok (.iconst 1, 1) := by decide +kernel
theorem dX9_look_18 : decode cX9_look 18 = .ok (.invokestatic 116, 3) := by decide +kernel
theorem dX9_look_21 : decode cX9_look 21 = .ok (.ifCond .eq 12, 3) := by decide +kernel
theorem dX9_look_24 : decode cX9_look 24 = .ok (.aload_n 0, 1) := by decide +kernel
theorem dX9_look_25 : decode cX9_look 25 = .ok (.getfield 348, 3) := by decide +kernel
theorem dX9_look_28 : decode cX9_look 28 = .ok (.bipush 12, 2) := by decide +kernel
theorem dX9_look_30 : decode cX9_look 30 = .ok (.if_icmp .ne 5, 3) := by decide +kernel
theorem dX9_look_33 : decode cX9_look 33 = .ok (.iconst (-1), 1) := by decide +kernel
theorem dX9_look_34 : decode cX9_look 34 = .ok (.ireturn, 1) := by decide +kernel
theorem dX9_look_35 : decode cX9_look 35 = .ok (.aload_n 0, 1) := by decide +kernel
theorem dX9_look_36 : decode cX9_look 36 = .ok (.getfield 85, 3) := by decide +kernel
theorem dX9_look_39 : decode cX9_look 39 = .ok (.aload_n 0, 1) := by decide +kernel
theorem dX9_look_40 : decode cX9_look 40 = .ok (.getfield 348, 3) := by decide +kernel
theorem dX9_look_43 : decode cX9_look 43 = .ok (.iload_n 1, 1) := by decide +kernel
theorem dX9_look_44 : decode cX9_look 44 = .ok (.iastore, 1) := by decide +kernel
theorem dX9_look_45 : decode cX9_look 45 = .ok (.aload_n 0, 1) := by decide +kernel
theorem dX9_look_46 : decode cX9_look 46 = .ok (.aload_n 0, 1) := by decide +kernel
theorem dX9_look_47 : decode cX9_look 47 = .ok (.getfield 351, 3) := by decide +kernel
theorem dX9_look_50 : decode cX9_look 50 = .ok (.iconst 1, 1) := by decide +kernel
theorem dX9_look_51 : decode cX9_look 51 = .ok (.aload_n 0, 1) := by decide +kernel
theorem dX9_look_52 : decode cX9_look 52 = .ok (.getfield 348, 3) := by decide +kernel
theorem dX9_look_55 : decode cX9_look 55 = .ok (.ishl, 1) := by decide +kernel
theorem dX9_look_56 : decode cX9_look 56 = .ok (.iconst (-1), 1) := by decide +kernel
theorem dX9_look_57 : decode cX9_look 57 = .ok (.ixor, 1) := by decide +kernel
theorem dX9_look_58 : decode cX9_look 58 = .ok (.iand, 1) := by decide +kernel
theorem dX9_look_59 : decode cX9_look 59 = .ok (.iload_n 2, 1) := by decide +kernel
theorem dX9_look_60 : decode cX9_look 60 = .ok (.aload_n 0, 1) := by decide +kernel
theorem dX9_look_61 : decode cX9_look 61 = .ok (.getfield 348, 3) := by decide +kernel
theorem dX9_look_64 : decode cX9_look 64 = .ok (.ishl, 1) := by decide +kernel
theorem dX9_look_65 : decode cX9_look 65 = .ok (.ior, 1) := by decide +kernel
theorem dX9_look_66 : decode cX9_look 66 = .ok (.putfield 351, 3) := by decide +kernel
theorem dX9_look_69 : decode cX9_look 69 = .ok (.aload_n 0, 1) := by decide +kernel
theorem dX9_look_70 : decode cX9_look 70 = .ok (.dup, 1) := by decide +kernel
theorem dX9_look_71 : decode cX9_look 71 = .ok (.getfield 348, 3) := by decide +kernel
theorem dX9_look_74 : decode cX9_look 74 = .ok (.iconst 1, 1) := by decide +kernel
theorem dX9_look_75 : decode cX9_look 75 = .ok (.iadd, 1) := by decide +kernel
theorem dX9_look_76 : decode cX9_look 76 = .ok (.putfield 348, 3) := by decide +kernel
theorem dX9_look_79 : decode cX9_look 79 = .ok (.aload_n 0, 1) := by decide +kernel
theorem dX9_look_80 : decode cX9_look 80 = .ok (.getfield 348, 3) := by decide +kernel
theorem dX9_look_83 : decode cX9_look 83 = .ok (.ireturn, 1) := by decide +kernel
theorem dX9_forget_0 : decode cX9_forget 0 = .ok (.aload_n 0, 1) := by decide +kernel
theorem dX9_forget_1 : decode cX9_forget 1 = .ok (.iconst 0, 1) := by decide +kernel
theorem dX9_forget_2 : decode cX9_forget 2 = .ok (.putfield 107, 3) := by decide +kernel
theorem dX9_forget_5 : decode cX9_forget 5 = .ok (.aload_n 0, 1) := by decide +kernel
theorem dX9_forget_6 : decode cX9_forget 6 = .ok (.getfield 348, 3) := by decide +kernel
theorem dX9_forget_9 : decode cX9_forget 9 = .ok (.istore_n 1, 1) := by decide +kernel
theorem dX9_forget_10 : decode cX9_forget 10 = .ok (.aload_n 0, 1) := by decide +kernel
theorem dX9_forget_11 : decode cX9_forget 11 = .ok (.iconst 0, 1) := by decide +kernel
theorem dX9_forget_12 : decode cX9_forget 12 = .ok (.putfield 348, 3) := by decide +kernel
theorem dX9_forget_15 : decode cX9_forget 15 = .ok (.iload_n 1, 1) := by decide +kernel
theorem dX9_forget_16 : decode cX9_forget 16 = .ok (.ireturn, 1) := by decide +kernel
theorem dX9_isLaw_0 : decode cX9_isLaw 0 = .ok (.iconst 0, 1) := by decide +kernel
theorem dX9_isLaw_1 : decode cX9_isLaw 1 = .ok (.istore_n 3, 1) := by decide +kernel
theorem dX9_isLaw_2 : decode cX9_isLaw 2 = .ok (.iload_n 3, 1) := by decide +kernel
theorem dX9_isLaw_3 : decode cX9_isLaw 3 = .ok (.aload_n 0, 1) := by decide +kernel
theorem dX9_isLaw_4 : decode cX9_isLaw 4 = .ok (.getfield 348, 3) := by decide +kernel
theorem dX9_isLaw_7 : decode cX9_isLaw 7 = .ok (.if_icmp .ge 39, 3) := by decide +kernel
theorem dX9_isLaw_10 : decode cX9_isLaw 10 = .ok (.aload_n 0, 1) := by decide +kernel
theorem dX9_isLaw_11 : decode cX9_isLaw 11 = .ok (.getfield 85, 3) := by decide +kernel
theorem dX9_isLaw_14 : decode cX9_isLaw 14 = .ok (.iload_n 3, 1) := by decide +kernel
theorem dX9_isLaw_15 : decode cX9_isLaw 15 = .ok (.iaload, 1) := by decide +kernel
theorem dX9_isLaw_16 : decode cX9_isLaw 16 = .ok (.iload_n 1, 1) := by decide +kernel
theorem dX9_isLaw_17 : decode cX9_isLaw 17 = .ok (.irem, 1) := by decide +kernel
theorem dX9_isLaw_18 : decode cX9_isLaw 18 = .ok (.iload_n 2, 1) := by decide +kernel
theorem dX9_isLaw_19 : decode cX9_isLaw 19 = .ok (.if_icmp .ne 7, 3) := by decide +kernel
theorem dX9_isLaw_22 : decode cX9_isLaw 22 = .ok (.iconst 1, 1) := by decide +kernel
theorem dX9_isLaw_23 : decode cX9_isLaw 23 = .ok (.goto 4, 3) := by decide +kernel
theorem dX9_isLaw_26 : decode cX9_isLaw 26 = .ok (.iconst 0, 1) := by decide +kernel
theorem dX9_isLaw_27 : decode cX9_isLaw 27 = .ok (.aload_n 0, 1) := by decide +kernel
theorem dX9_isLaw_28 : decode cX9_isLaw 28 = .ok (.getfield 351, 3) := by decide +kernel
theorem dX9_isLaw_31 : decode cX9_isLaw 31 = .ok (.iload_n 3, 1) := by decide +kernel
theorem dX9_isLaw_32 : decode cX9_isLaw 32 = .ok (.invokestatic 309, 3) := by decide +kernel
theorem dX9_isLaw_35 : decode cX9_isLaw 35 = .ok (.if_icmp .eq 5, 3) := by decide +kernel
theorem dX9_isLaw_38 : decode cX9_isLaw 38 = .ok (.iconst 0, 1) := by decide +kernel
theorem dX9_isLaw_39 : decode cX9_isLaw 39 = .ok (.ireturn, 1) := by decide +kernel
theorem dX9_isLaw_40 : decode cX9_isLaw 40 = .ok (.iinc 3 1, 3) := by decide +kernel
theorem dX9_isLaw_43 : decode cX9_isLaw 43 = .ok (.goto (-41), 3) := by decide +kernel
theorem dX9_isLaw_46 : decode cX9_isLaw 46 = .ok (.iconst 1, 1) := by decide +kernel
theorem dX9_isLaw_47 : decode cX9_isLaw 47 = .ok (.ireturn, 1) := by decide +kernel
theorem dX9_liking_0 : decode cX9_liking 0 = .ok (.iconst 0, 1) := by decide +kernel
theorem dX9_liking_1 : decode cX9_liking 1 = .ok (.istore_n 2, 1) := by decide +kernel
theorem dX9_liking_2 : decode cX9_liking 2 = .ok (.iconst 1, 1) := by decide +kernel
theorem dX9_liking_3 : decode cX9_liking 3 = .ok (.istore_n 3, 1) := by decide +kernel
theorem dX9_liking_4 : decode cX9_liking 4 = .ok (.iload_n 3, 1) := by decide +kernel
theorem dX9_liking_5 : decode cX9_liking 5 = .ok (.bipush 6, 2) := by decide +kernel
theorem dX9_liking_7 : decode cX9_liking 7 = .ok (.if_icmp .gt 55, 3) := by decide +kernel
theorem dX9_liking_10 : decode cX9_liking 10 = .ok (.iconst 0, 1) := by decide +kernel
theorem dX9_liking_11 : decode cX9_liking 11 = .ok (.istore 4, 2) := by decide +kernel
theorem dX9_liking_13 : decode cX9_liking 13 = .ok (.iload 4, 2) := by decide +kernel
theorem dX9_liking_15 : decode cX9_liking 15 = .ok (.iload_n 3, 1) := by decide +kernel
theorem dX9_liking_16 : decode cX9_liking 16 = .ok (.if_icmp .ge 40, 3) := by decide +kernel
theorem dX9_liking_19 : decode cX9_liking 19 = .ok (.iload_n 2, 1) := by decide +kernel
theorem dX9_liking_20 : decode cX9_liking 20 = .ok (.aload_n 0, 1) := by decide +kernel
theorem dX9_liking_21 : decode cX9_liking 21 = .ok (.iload_n 3, 1) := by decide +kernel
theorem dX9_liking_22 : decode cX9_liking 22 = .ok (.iload 4, 2) := by decide +kernel
theorem dX9_liking_24 : decode cX9_liking 24 = .ok (.invokevirtual 354, 3) := by decide +kernel
theorem dX9_liking_27 : decode cX9_liking 27 = .ok (.ifCond .eq 20, 3) := by decide +kernel
theorem dX9_liking_30 : decode cX9_liking 30 = .ok (.iload_n 1, 1) := by decide +kernel
theorem dX9_liking_31 : decode cX9_liking 31 = .ok (.iconst (-1), 1) := by decide +kernel
theorem dX9_liking_32 : decode cX9_liking 32 = .ok (.if_icmp .eq 11, 3) := by decide +kernel
theorem dX9_liking_35 : decode cX9_liking 35 = .ok (.iload_n 1, 1) := by decide +kernel
theorem dX9_liking_36 : decode cX9_liking 36 = .ok (.iload_n 3, 1) := by decide +kernel
theorem dX9_liking_37 : decode cX9_liking 37 = .ok (.irem, 1) := by decide +kernel
theorem dX9_liking_38 : decode cX9_liking 38 = .ok (.iload 4, 2) := by decide +kernel
theorem dX9_liking_40 : decode cX9_liking 40 = .ok (.if_icmp .ne 7, 3) := by decide +kernel
theorem dX9_liking_43 : decode cX9_liking 43 = .ok (.iconst 1, 1) := by decide +kernel
theorem dX9_liking_44 : decode cX9_liking 44 = .ok (.goto 4, 3) := by decide +kernel
theorem dX9_liking_47 : decode cX9_liking 47 = .ok (.iconst 0, 1) := by decide +kernel
theorem dX9_liking_48 : decode cX9_liking 48 = .ok (.iadd, 1) := by decide +kernel
theorem dX9_liking_49 : decode cX9_liking 49 = .ok (.istore_n 2, 1) := by decide +kernel
theorem dX9_liking_50 : decode cX9_liking 50 = .ok (.iinc 4 1, 3) := by decide +kernel
theorem dX9_liking_53 : decode cX9_liking 53 = .ok (.goto (-40), 3) := by decide +kernel
theorem dX9_liking_56 : decode cX9_liking 56 = .ok (.iinc 3 1, 3) := by decide +kernel
theorem dX9_liking_59 : decode cX9_liking 59 = .ok (.goto (-55), 3) := by decide +kernel
theorem dX9_liking_62 : decode cX9_liking 62 = .ok (.iload_n 2, 1) := by decide +kernel
theorem dX9_liking_63 : decode cX9_liking 63 = .ok (.ireturn, 1) := by decide +kernel
theorem dX9_laws_0 : decode cX9_laws 0 = .ok (.aload_n 0, 1) := by decide +kernel
theorem dX9_laws_1 : decode cX9_laws 1 = .ok (.iconst 0, 1) := by decide +kernel
theorem dX9_laws_2 : decode cX9_laws 2 = .ok (.putfield 107, 3) := by decide +kernel
theorem dX9_laws_5 : decode cX9_laws 5 = .ok (.iconst 0, 1) := by decide +kernel
theorem dX9_laws_6 : decode cX9_laws 6 = .ok (.istore_n 1, 1) := by decide +kernel
theorem dX9_laws_7 : decode cX9_laws 7 = .ok (.aload_n 0, 1) := by decide +kernel
theorem dX9_laws_8 : decode cX9_laws 8 = .ok (.iconst 0, 1) := by decide +kernel
theorem dX9_laws_9 : decode cX9_laws 9 = .ok (.putfield 110, 3) := by decide +kernel
theorem dX9_laws_12 : decode cX9_laws 12 = .ok (.iconst 1, 1) := by decide +kernel
theorem dX9_laws_13 : decode cX9_laws 13 = .ok (.istore_n 2, 1) := by decide +kernel
theorem dX9_laws_14 : decode cX9_laws 14 = .ok (.iload_n 2, 1) := by decide +kernel
theorem dX9_laws_15 : decode cX9_laws 15 = .ok (.bipush 6, 2) := by decide +kernel
theorem dX9_laws_17 : decode cX9_laws 17 = .ok (.if_icmp .gt 53, 3) := by decide +kernel
theorem dX9_laws_20 : decode cX9_laws 20 = .ok (.iconst 0, 1) := by decide +kernel
theorem dX9_laws_21 : decode cX9_laws 21 = .ok (.istore_n 3, 1) := by decide +kernel
theorem dX9_laws_22 : decode cX9_laws 22 = .ok (.iload_n 3, 1) := by decide +kernel
theorem dX9_laws_23 : decode cX9_laws 23 = .ok (.iload_n 2, 1) := by decide +kernel
theorem dX9_laws_24 : decode cX9_laws 24 = .ok (.if_icmp .ge 40, 3) := by decide +kernel
theorem dX9_laws_27 : decode cX9_laws 27 = .ok (.aload_n 0, 1) := by decide +kernel
theorem dX9_laws_28 : decode cX9_laws 28 = .ok (.iload_n 2, 1) := by decide +kernel
theorem dX9_laws_29 : decode cX9_laws 29 = .ok (.iload_n 3, 1) := by decide +kernel
theorem dX9_laws_30 : decode cX9_laws 30 = .ok (.invokevirtual 354, 3) := by decide +kernel
theorem dX9_laws_33 : decode cX9_laws 33 = .ok (.ifCond .ne 6, 3) := by decide +kernel
theorem dX9_laws_36 : decode cX9_laws 36 = .ok (.goto 22, 3) := by decide +kernel
theorem dX9_laws_39 : decode cX9_laws 39 = .ok (.iload_n 1, 1) := by decide +kernel
theorem dX9_laws_40 : decode cX9_laws 40 = .ok (.ifCond .ne 15, 3) := by decide +kernel
theorem dX9_laws_43 : decode cX9_laws 43 = .ok (.aload_n 0, 1) := by decide +kernel
theorem dX9_laws_44 : decode cX9_laws 44 = .ok (.iload_n 2, 1) := by decide +kernel
theorem dX9_laws_45 : decode cX9_laws 45 = .ok (.i2l, 1) := by decide +kernel
theorem dX9_laws_46 : decode cX9_laws 46 = .ok (.invokevirtual 275, 3) := by decide +kernel
theorem dX9_laws_49 : decode cX9_laws 49 = .ok (.aload_n 0, 1) := by decide +kernel
theorem dX9_laws_50 : decode cX9_laws 50 = .ok (.iload_n 3, 1) := by decide +kernel
theorem dX9_laws_51 : decode cX9_laws 51 = .ok (.i2l, 1) := by decide +kernel
theorem dX9_laws_52 : decode cX9_laws 52 = .ok (.invokevirtual 275, 3) := by decide +kernel
theorem dX9_laws_55 : decode cX9_laws 55 = .ok (.iinc 1 1, 3) := by decide +kernel
theorem dX9_laws_58 : decode cX9_laws 58 = .ok (.iinc 3 1, 3) := by decide +kernel
theorem dX9_laws_61 : decode cX9_laws 61 = .ok (.goto (-39), 3) := by decide +kernel
theorem dX9_laws_64 : decode cX9_laws 64 = .ok (.iinc 2 1, 3) := by decide +kernel
theorem dX9_laws_67 : decode cX9_laws 67 = .ok (.goto (-53), 3) := by decide +kernel
theorem dX9_laws_70 : decode cX9_laws 70 = .ok (.iload_n 1, 1) := by decide +kernel
theorem dX9_laws_71 : decode cX9_laws 71 = .ok (.ireturn, 1) := by decide +kernel
theorem dX9_sure_0 : decode cX9_sure 0 = .ok (.aload_n 0, 1) := by decide +kernel
theorem dX9_sure_1 : decode cX9_sure 1 = .ok (.iconst 0, 1) := by decide +kernel
theorem dX9_sure_2 : decode cX9_sure 2 = .ok (.putfield 107, 3) := by decide +kernel
theorem dX9_sure_5 : decode cX9_sure 5 = .ok (.aload_n 0, 1) := by decide +kernel
theorem dX9_sure_6 : decode cX9_sure 6 = .ok (.iconst (-1), 1) := by decide +kernel
theorem dX9_sure_7 : decode cX9_sure 7 = .ok (.invokevirtual 357, 3) := by decide +kernel
theorem dX9_sure_10 : decode cX9_sure 10 = .ok (.istore_n 1, 1) := by decide +kernel
theorem dX9_sure_11 : decode cX9_sure 11 = .ok (.iconst 0, 1) := by decide +kernel
theorem dX9_sure_12 : decode cX9_sure 12 = .ok (.istore_n 2, 1) := by decide +kernel
theorem dX9_sure_13 : decode cX9_sure 13 = .ok (.iconst 0, 1) := by decide +kernel
theorem dX9_sure_14 : decode cX9_sure 14 = .ok (.istore_n 3, 1) := by decide +kernel
theorem dX9_sure_15 : decode cX9_sure 15 = .ok (.iconst 0, 1) := by decide +kernel
theorem dX9_sure_16 : decode cX9_sure 16 = .ok (.istore 4, 2) := by decide +kernel
theorem dX9_sure_18 : decode cX9_sure 18 = .ok (.iload 4, 2) := by decide +kernel
theorem dX9_sure_20 : decode cX9_sure 20 = .ok (.bipush 9, 2) := by decide +kernel
theorem dX9_sure_22 : decode cX9_sure 22 = .ok (.if_icmp .gt 54, 3) := by decide +kernel
theorem dX9_sure_25 : decode cX9_sure 25 = .ok (.iload_n 1, 1) := by decide +kernel
theorem dX9_sure_26 : decode cX9_sure 26 = .ok (.ifCond .le 50, 3) := by decide +kernel
theorem dX9_sure_29 : decode cX9_sure 29 = .ok (.iload_n 2, 1) := by decide +kernel
theorem dX9_sure_30 : decode cX9_sure 30 = .ok (.aload_n 0, 1) := by decide +kernel
theorem dX9_sure_31 : decode cX9_sure 31 = .ok (.iload 4, 2) := by decide +kernel
theorem dX9_sure_33 : decode cX9_sure 33 = .ok (.invokevirtual 357, 3) := by decide +kernel
theorem dX9_sure_36 : decode cX9_sure 36 = .ok (.iload_n 1, 1) := by decide +kernel
theorem dX9_sure_37 : decode cX9_sure 37 = .ok (.if_icmp .ne 10, 3) := by decide +kernel
theorem dX9_sure_40 : decode cX9_sure 40 = .ok (.iconst 1, 1) := by decide +kernel
theorem dX9_sure_41 : decode cX9_sure 41 = .ok (.iload 4, 2) := by decide +kernel
theorem dX9_sure_43 : decode cX9_sure 43 = .ok (.ishl, 1) := by decide +kernel
theorem dX9_sure_44 : decode cX9_sure 44 = .ok (.goto 4, 3) := by decide +kernel
theorem dX9_sure_47 : decode cX9_sure 47 = .ok (.iconst 0, 1) := by decide +kernel
theorem dX9_sure_48 : decode cX9_sure 48 = .ok (.ior, 1) := by decide +kernel
theorem dX9_sure_49 : decode cX9_sure 49 = .ok (.istore_n 2, 1) := by decide +kernel
theorem dX9_sure_50 : decode cX9_sure 50 = .ok (.iload_n 3, 1) := by decide +kernel
theorem dX9_sure_51 : decode cX9_sure 51 = .ok (.aload_n 0, 1) := by decide +kernel
theorem dX9_sure_52 : decode cX9_sure 52 = .ok (.iload 4, 2) := by decide +kernel
theorem dX9_sure_54 : decode cX9_sure 54 = .ok (.invokevirtual 357, 3) := by decide +kernel
theorem dX9_sure_57 : decode cX9_sure 57 = .ok (.ifCond .ne 10, 3) := by decide +kernel
theorem dX9_sure_60 : decode cX9_sure 60 = .ok (.iconst 1, 1) := by decide +kernel
theorem dX9_sure_61 : decode cX9_sure 61 = .ok (.iload 4, 2) := by decide +kernel
theorem dX9_sure_63 : decode cX9_sure 63 = .ok (.ishl, 1) := by decide +kernel
theorem dX9_sure_64 : decode cX9_sure 64 = .ok (.goto 4, 3) := by decide +kernel
theorem dX9_sure_67 : decode cX9_sure 67 = .ok (.iconst 0, 1) := by decide +kernel
theorem dX9_sure_68 : decode cX9_sure 68 = .ok (.ior, 1) := by decide +kernel
theorem dX9_sure_69 : decode cX9_sure 69 = .ok (.istore_n 3, 1) := by decide +kernel
theorem dX9_sure_70 : decode cX9_sure 70 = .ok (.iinc 4 1, 3) := by decide +kernel
theorem dX9_sure_73 : decode cX9_sure 73 = .ok (.goto (-55), 3) := by decide +kernel
theorem dX9_sure_76 : decode cX9_sure 76 = .ok (.aload_n 0, 1) := by decide +kernel
theorem dX9_sure_77 : decode cX9_sure 77 = .ok (.iconst 0, 1) := by decide +kernel
theorem dX9_sure_78 : decode cX9_sure 78 = .ok (.putfield 110, 3) := by decide +kernel
theorem dX9_sure_81 : decode cX9_sure 81 = .ok (.aload_n 0, 1) := by decide +kernel
theorem dX9_sure_82 : decode cX9_sure 82 = .ok (.iload_n 3, 1) := by decide +kernel
theorem dX9_sure_83 : decode cX9_sure 83 = .ok (.i2l, 1) := by decide +kernel
theorem dX9_sure_84 : decode cX9_sure 84 = .ok (.invokevirtual 275, 3) := by decide +kernel
theorem dX9_sure_87 : decode cX9_sure 87 = .ok (.iload_n 2, 1) := by decide +kernel
theorem dX9_sure_88 : decode cX9_sure 88 = .ok (.ireturn, 1) := by decide +kernel
theorem dX9_tries_0 : decode cX9_tries 0 = .ok (.aload_n 0, 1) := by decide +kernel
theorem dX9_tries_1 : decode cX9_tries 1 = .ok (.iconst 0, 1) := by decide +kernel
theorem dX9_tries_2 : decode cX9_tries 2 = .ok (.putfield 107, 3) := by decide +kernel
theorem dX9_tries_5 : decode cX9_tries 5 = .ok (.aload_n 0, 1) := by decide +kernel
theorem dX9_tries_6 : decode cX9_tries 6 = .ok (.iconst (-1), 1) := by decide +kernel
theorem dX9_tries_7 : decode cX9_tries 7 = .ok (.invokevirtual 357, 3) := by decide +kernel
theorem dX9_tries_10 : decode cX9_tries 10 = .ok (.istore_n 1, 1) := by decide +kernel
theorem dX9_tries_11 : decode cX9_tries 11 = .ok (.iload_n 1, 1) := by decide +kernel
theorem dX9_tries_12 : decode cX9_tries 12 = .ok (.ifCond .ne 6, 3) := by decide +kernel
theorem dX9_tries_15 : decode cX9_tries 15 = .ok (.bipush (-2), 2) := by decide +kernel
theorem dX9_tries_17 : decode cX9_tries 17 = .ok (.ireturn, 1) := by decide +kernel
theorem dX9_tries_18 : decode cX9_tries 18 = .ok (.iconst (-1), 1) := by decide +kernel
theorem dX9_tries_19 : decode cX9_tries 19 = .ok (.istore_n 2, 1) := by decide +kernel
theorem dX9_tries_20 : decode cX9_tries 20 = .ok (.ldc_w 323, 3) := by decide +kernel
theorem dX9_tries_23 : decode cX9_tries 23 = .ok (.istore_n 3, 1) := by decide +kernel
theorem dX9_tries_24 : decode cX9_tries 24 = .ok (.iconst 0, 1) := by decide +kernel
theorem dX9_tries_25 : decode cX9_tries 25 = .ok (.istore 4, 2) := by decide +kernel
theorem dX9_tries_27 : decode cX9_tries 27 = .ok (.iload 4, 2) := by decide +kernel
theorem dX9_tries_29 : decode cX9_tries 29 = .ok (.bipush 9, 2) := by decide +kernel
theorem dX9_tries_31 : decode cX9_tries 31 = .ok (.if_icmp .gt 43, 3) := by decide +kernel
theorem dX9_tries_34 : decode cX9_tries 34 = .ok (.aload_n 0, 1) := by decide +kernel
theorem dX9_tries_35 : decode cX9_tries 35 = .ok (.iload 4, 2) := by decide +kernel
theorem dX9_tries_37 : decode cX9_tries 37 = .ok (.invokevirtual 357, 3) := by decide +kernel
theorem dX9_tries_40 : decode cX9_tries 40 = .ok (.iload_n 1, 1) := by decide +kernel
theorem dX9_tries_41 : decode cX9_tries 41 = .ok (.aload_n 0, 1) := by decide +kernel
theorem dX9_tries_42 : decode cX9_tries 42 = .ok (.iload 4, 2) := by decide +kernel
theorem dX9_tries_44 : decode cX9_tries 44 = .ok (.invokevirtual 357, 3) := by decide +kernel
theorem dX9_tries_47 : decode cX9_tries 47 = .ok (.isub, 1) := by decide +kernel
theorem dX9_tries_48 : decode cX9_tries 48 = .ok (.invokestatic 231, 3) := by decide +kernel
theorem dX9_tries_51 : decode cX9_tries 51 = .ok (.istore 5, 2) := by decide +kernel
theorem dX9_tries_53 : decode cX9_tries 53 = .ok (.iload 5, 2) := by decide +kernel
theorem dX9_tries_55 : decode cX9_tries 55 = .ok (.iload_n 3, 1) := by decide +kernel
theorem dX9_tries_56 : decode cX9_tries 56 = .ok (.if_icmp .lt 6, 3) := by decide +kernel
theorem dX9_tries_59 : decode cX9_tries 59 = .ok (.goto 9, 3) := by decide +kernel
theorem dX9_tries_62 : decode cX9_tries 62 = .ok (.iload 4, 2) := by decide +kernel
theorem dX9_tries_64 : decode cX9_tries 64 = .ok (.istore_n 2, 1) := by decide +kernel
theorem dX9_tries_65 : decode cX9_tries 65 = .ok (.iload 5, 2) := by decide +kernel
theorem dX9_tries_67 : decode cX9_tries 67 = .ok (.istore_n 3, 1) := by decide +kernel
theorem dX9_tries_68 : decode cX9_tries 68 = .ok (.iinc 4 1, 3) := by decide +kernel
theorem dX9_tries_71 : decode cX9_tries 71 = .ok (.goto (-44), 3) := by decide +kernel
theorem dX9_tries_74 : decode cX9_tries 74 = .ok (.aload_n 0, 1) := by decide +kernel
theorem dX9_tries_75 : decode cX9_tries 75 = .ok (.iconst 0, 1) := by decide +kernel
theorem dX9_tries_76 : decode cX9_tries 76 = .ok (.putfield 110, 3) := by decide +kernel
theorem dX9_tries_79 : decode cX9_tries 79 = .ok (.aload_n 0, 1) := by decide +kernel
theorem dX9_tries_80 : decode cX9_tries 80 = .ok (.iload_n 3, 1) := by decide +kernel
theorem dX9_tries_81 : decode cX9_tries 81 = .ok (.i2l, 1) := by decide +kernel
theorem dX9_tries_82 : decode cX9_tries 82 = .ok (.invokevirtual 275, 3) := by decide +kernel
theorem dX9_tries_85 : decode cX9_tries 85 = .ok (.iload_n 2, 1) := by decide +kernel
theorem dX9_tries_86 : decode cX9_tries 86 = .ok (.ireturn, 1) := by decide +kernel
theorem dX9_laySums_0 : decode cX9_laySums 0 = .ok (.iconst 0, 1) := by decide +kernel
theorem dX9_laySums_1 : decode cX9_laySums 1 = .ok (.istore_n 3, 1) := by decide +kernel
theorem dX9_laySums_2 : decode cX9_laySums 2 = .ok (.iload_n 3, 1) := by decide +kernel
theorem dX9_laySums_3 : decode cX9_laySums 3 = .ok (.bipush 99, 2) := by decide +kernel
theorem dX9_laySums_5 : decode cX9_laySums 5 = .ok (.if_icmp .gt 24, 3) := by decide +kernel
theorem dX9_laySums_8 : decode cX9_laySums 8 = .ok (.aload_n 0, 1) := by decide +kernel
theorem dX9_laySums_9 : decode cX9_laySums 9 = .ok (.getfield 88, 3) := by decide +kernel
theorem dX9_laySums_12 : decode cX9_laySums 12 = .ok (.iload_n 3, 1) := by decide +kernel
theorem dX9_laySums_13 : decode cX9_laySums 13 = .ok (.iload_n 3, 1) := by decide +kernel
theorem dX9_laySums_14 : decode cX9_laySums 14 = .ok (.ifCond .ne 7, 3) := by decide +kernel
theorem dX9_laySums_17 : decode cX9_laySums 17 = .ok (.lconst 1, 1) := by decide +kernel
theorem dX9_laySums_18 : decode cX9_laySums 18 = .ok (.goto 4, 3) := by decide +kernel
theorem dX9_laySums_21 : decode cX9_laySums 21 = .ok (.lconst 0, 1) := by decide +kernel
theorem dX9_laySums_22 : decode cX9_laySums 22 = .ok (.lastore, 1) := by decide +kernel
theorem dX9_laySums_23 : decode cX9_laySums 23 = .ok (.iinc 3 1, 3) := by decide +kernel
theorem dX9_laySums_26 : decode cX9_laySums 26 = .ok (.goto (-24), 3) := by decide +kernel
theorem dX9_laySums_29 : decode cX9_laySums 29 = .ok (.iconst 0, 1) := by decide +kernel
theorem dX9_laySums_30 : decode cX9_laySums 30 = .ok (.istore_n 3, 1) := by decide +kernel
theorem dX9_laySums_31 : decode cX9_laySums 31 = .ok (.iload_n 3, 1) := by decide +kernel
theorem dX9_laySums_32 : decode cX9_laySums 32 = .ok (.iload_n 1, 1) := by decide +kernel
theorem dX9_laySums_33 : decode cX9_laySums 33 = .ok (.if_icmp .ge 84, 3) := by decide +kernel
theorem dX9_laySums_36 : decode cX9_laySums 36 = .ok (.aload_n 0, 1) := by decide +kernel
theorem dX9_laySums_37 : decode cX9_laySums 37 = .ok (.aload_n 0, 1) := by decide +kernel
theorem dX9_laySums_38 : decode cX9_laySums 38 = .ok (.getfield 9, 3) := by decide +kernel
theorem dX9_laySums_41 : decode cX9_laySums 41 = .ok (.bipush 28, 2) := by decide +kernel
theorem dX9_laySums_43 : decode cX9_laySums 43 = .ok (.iaload, 1) := by decide +kernel
theorem dX9_laySums_44 : decode cX9_laySums 44 = .ok (.iload_n 3, 1) := by decide +kernel
theorem dX9_laySums_45 : decode cX9_laySums 45 = .ok (.iadd, 1) := by decide +kernel
theorem dX9_laySums_46 : decode cX9_laySums 46 = .ok (.invokevirtual 213, 3) := by decide +kernel
theorem dX9_laySums_49 : decode cX9_laySums 49 = .ok (.istore 4, 2) := by decide +kernel
theorem dX9_laySums_51 : decode cX9_laySums 51 = .ok (.bipush 99, 2) := by decide +kernel
theorem dX9_laySums_53 : decode cX9_laySums 53 = .ok (.istore 5, 2) := by decide +kernel
theorem dX9_laySums_55 : decode cX9_laySums 55 = .ok (.iload 5, 2) := by decide +kernel
theorem dX9_laySums_57 : decode cX9_laySums 57 = .ok (.ifCond .lt 54, 3) := by decide +kernel
theorem dX9_laySums_60 : decode cX9_laySums 60 = .ok (.aload_n 0, 1) := by decide +kernel
theorem dX9_laySums_61 : decode cX9_laySums 61 = .ok (.getfield 88, 3) := by decide +kernel
theorem dX9_laySums_64 : decode cX9_laySums 64 = .ok (.iload 5, 2) := by decide +kernel
theorem dX9_laySums_66 : decode cX9_laySums 66 = .ok (.bipush 10, 2) := by decide +kernel
theorem dX9_laySums_68 : decode cX9_laySums 68 = .ok (.iload_n 2, 1) := by decide +kernel
theorem dX9_laySums_69 : decode cX9_laySums 69 = .ok (.isub, 1) := by decide +kernel
theorem dX9_laySums_70 : decode cX9_laySums 70 = .ok (.i2l, 1) := by decide +kernel
theorem dX9_laySums_71 : decode cX9_laySums 71 = .ok (.aload_n 0, 1) := by decide +kernel
theorem dX9_laySums_72 : decode cX9_laySums 72 = .ok (.getfield 88, 3) := by decide +kernel
theorem dX9_laySums_75 : decode cX9_laySums 75 = .ok (.iload 5, 2) := by decide +kernel
theorem dX9_laySums_77 : decode cX9_laySums 77 = .ok (.laload, 1) := by decide +kernel
theorem dX9_laySums_78 : decode cX9_laySums 78 = .ok (.lmul, 1) := by decide +kernel
theorem dX9_laySums_79 : decode cX9_laySums 79 = .ok (.iload 5, 2) := by decide +kernel
theorem dX9_laySums_81 : decode cX9_laySums 81 = .ok (.iload 4, 2) := by decide +kernel
theorem dX9_laySums_83 : decode cX9_laySums 83 = .ok (.if_icmp .lt 19, 3) := by decide +kernel
theorem dX9_laySums_86 : decode cX9_laySums 86 = .ok (.iload_n 2, 1) := by decide +kernel
theorem dX9_laySums_87 : decode cX9_laySums 87 = .ok (.i2l, 1) := by decide +kernel
theorem dX9_laySums_88 : decode cX9_laySums 88 = .ok (.aload_n 0, 1) := by decide +kernel
theorem dX9_laySums_89 : decode cX9_laySums 89 = .ok (.getfield 88, 3) := by decide +kernel
theorem dX9_laySums_92 : decode cX9_laySums 92 = .ok (.iload 5, 2) := by decide +kernel
theorem dX9_laySums_94 : decode cX9_laySums 94 = .ok (.iload 4, 2) := by decide +kernel
theorem dX9_laySums_96 : decode cX9_laySums 96 = .ok (.isub, 1) := by decide +kernel
theorem dX9_laySums_97 : decode cX9_laySums 97 = .ok (.laload, 1) := by decide +kernel
theorem dX9_laySums_98 : decode cX9_laySums 98 = .ok (.lmul, 1) := by decide +kernel
theorem dX9_laySums_99 : decode cX9_laySums 99 = .ok (.goto 4, 3) := by decide +kernel
theorem dX9_laySums_102 : decode cX9_laySums 102 = .ok (.lconst 0, 1) := by decide +kernel
theorem dX9_laySums_103 : decode cX9_laySums 103 = .ok (.ladd, 1) := by decide +kernel
theorem dX9_laySums_104 : decode cX9_laySums 104 = .ok (.lastore, 1) := by decide +kernel
theorem dX9_laySums_105 : decode cX9_laySums 105 = .ok (.iinc 5 (-1), 3) := by decide +kernel
theorem dX9_laySums_108 : decode cX9_laySums 108 = .ok (.goto (-53), 3) := by decide +kernel
theorem dX9_laySums_111 : decode cX9_laySums 111 = .ok (.iinc 3 1, 3) := by decide +kernel
theorem dX9_laySums_114 : decode cX9_laySums 114 = .ok (.goto (-83), 3) := by decide +kernel
theorem dX9_laySums_117 : decode cX9_laySums 117 = .ok (.return_, 1) := by decide +kernel
theorem dX9_sumsFrom_0 : decode cX9_sumsFrom 0 = .ok (.lconst 0, 1) := by decide +kernel
theorem dX9_sumsFrom_1 : decode cX9_sumsFrom 1 = .ok (.lstore_n 2, 1) := by decide +kernel
theorem dX9_sumsFrom_2 : decode cX9_sumsFrom 2 = .ok (.iload_n 1, 1) := by decide +kernel
theorem dX9_sumsFrom_3 : decode cX9_sumsFrom 3 = .ok (.istore 4, 2) := by decide +kernel
theorem dX9_sumsFrom_5 : decode cX9_sumsFrom 5 = .ok (.iload 4, 2) := by decide +kernel
theorem dX9_sumsFrom_7 : decode cX9_sumsFrom 7 = .ok (.bipush 99, 2) := by decide +kernel
theorem dX9_sumsFrom_9 : decode cX9_sumsFrom 9 = .ok (.if_icmp .gt 19, 3) := by decide +kernel
theorem dX9_sumsFrom_12 : decode cX9_sumsFrom 12 = .ok (.lload_n 2, 1) := by decide +kernel
theorem dX9_sumsFrom_13 : decode cX9_sumsFrom 13 = .ok (.aload_n 0, 1) := by decide +kernel
theorem dX9_sumsFrom_14 : decode cX9_sumsFrom 14 = .ok (.getfield 88, 3) := by decide +kernel
theorem dX9_sumsFrom_17 : decode cX9_sumsFrom 17 = .ok (.iload 4, 2) := by decide +kernel
theorem dX9_sumsFrom_19 : decode cX9_sumsFrom 19 = .ok (.laload, 1) := by decide +kernel
theorem dX9_sumsFrom_20 : decode cX9_sumsFrom 20 = .ok (.ladd, 1) := by decide +kernel
theorem dX9_sumsFrom_21 : decode cX9_sumsFrom 21 = .ok (.lstore_n 2, 1) := by decide +kernel
theorem dX9_sumsFrom_22 : decode cX9_sumsFrom 22 = .ok (.iinc 4 1, 3) := by decide +kernel
theorem dX9_sumsFrom_25 : decode cX9_sumsFrom 25 = .ok (.goto (-20), 3) := by decide +kernel
theorem dX9_sumsFrom_28 : decode cX9_sumsFrom 28 = .ok (.lload_n 2, 1) := by decide +kernel
theorem dX9_sumsFrom_29 : decode cX9_sumsFrom 29 = .ok (.lreturn, 1) := by decide +kernel
theorem dX9_sings_0 : decode cX9_sings 0 = .ok (.aload_n 0, 1) := by decide +kernel
theorem dX9_sings_1 : decode cX9_sings 1 = .ok (.iconst 0, 1) := by decide +kernel
theorem dX9_sings_2 : decode cX9_sings 2 = .ok (.putfield 107, 3) := by decide +kernel
theorem dX9_sings_5 : decode cX9_sings 5 = .ok (.iload_n 1, 1) := by decide +kernel
theorem dX9_sings_6 : decode cX9_sings 6 = .ok (.iconst 1, 1) := by decide +kernel
theorem dX9_sings_7 : decode cX9_sings 7 = .ok (.bipush 10, 2) := by decide +kernel
theorem dX9_sings_9 : decode cX9_sings 9 = .ok (.invokestatic 116, 3) := by decide +kernel
theorem dX9_sings_12 : decode cX9_sings 12 = .ok (.ifCond .eq 23, 3) := by decide +kernel
theorem dX9_sings_15 : decode cX9_sings 15 = .ok (.iload_n 2, 1) := by decide +kernel
theorem dX9_sings_16 : decode cX9_sings 16 = .ok (.iconst 0, 1) := by decide +kernel
theorem dX9_sings_17 : decode cX9_sings 17 = .ok (.bipush 99, 2) := by decide +kernel
theorem dX9_sings_19 : decode cX9_sings 19 = .ok (.invokestatic 116, 3) := by decide +kernel
theorem dX9_sings_22 : decode cX9_sings 22 = .ok (.ifCond .eq 13, 3) := by decide +kernel
theorem dX9_sings_25 : decode cX9_sings 25 = .ok (.iload_n 3, 1) := by decide +kernel
theorem dX9_sings_26 : decode cX9_sings 26 = .ok (.iconst 0, 1) := by decide +kernel
theorem dX9_sings_27 : decode cX9_sings 27 = .ok (.bipush 10, 2) := by decide +kernel
theorem dX9_sings_29 : decode cX9_sings 29 = .ok (.invokestatic 116, 3) := by decide +kernel
theorem dX9_sings_32 : decode cX9_sings 32 = .ok (.ifCond .ne 5, 3) := by decide +kernel
theorem dX9_sings_35 : decode cX9_sings 35 = .ok (.iconst (-1), 1) := by decide +kernel
theorem dX9_sings_36 : decode cX9_sings 36 = .ok (.ireturn, 1) := by decide +kernel
theorem dX9_sings_37 : decode cX9_sings 37 = .ok (.aload_n 0, 1) := by decide +kernel
theorem dX9_sings_38 : decode cX9_sings 38 = .ok (.iload_n 1, 1) := by decide +kernel
theorem dX9_sings_39 : decode cX9_sings 39 = .ok (.iload_n 3, 1) := by decide +kernel
theorem dX9_sings_40 : decode cX9_sings 40 = .ok (.invokevirtual 360, 3) := by decide +kernel
theorem dX9_sings_43 : decode cX9_sings 43 = .ok (.aload_n 0, 1) := by decide +kernel
theorem dX9_sings_44 : decode cX9_sings 44 = .ok (.iconst 0, 1) := by decide +kernel
theorem dX9_sings_45 : decode cX9_sings 45 = .ok (.putfield 110, 3) := by decide +kernel
theorem dX9_sings_48 : decode cX9_sings 48 = .ok (.aload_n 0, 1) := by decide +kernel
theorem dX9_sings_49 : decode cX9_sings 49 = .ok (.aload_n 0, 1) := by decide +kernel
theorem dX9_sings_50 : decode cX9_sings 50 = .ok (.iload_n 2, 1) := by decide +kernel
theorem dX9_sings_51 : decode cX9_sings 51 = .ok (.invokevirtual 364, 3) := by decide +kernel
theorem dX9_sings_54 : decode cX9_sings 54 = .ok (.ldc2_w 338, 3) := by decide +kernel
theorem dX9_sings_57 : decode cX9_sings 57 = .ok (.iload_n 1, 1) := by decide +kernel
theorem dX9_sings_58 : decode cX9_sings 58 = .ok (.invokestatic 340, 3) := by decide +kernel
theorem dX9_sings_61 : decode cX9_sings 61 = .ok (.invokevirtual 344, 3) := by decide +kernel
theorem dX9_sings_64 : decode cX9_sings 64 = .ok (.iconst 0, 1) := by decide +kernel
theorem dX9_sings_65 : decode cX9_sings 65 = .ok (.ireturn, 1) := by decide +kernel
theorem dX9_counts_0 : decode cX9_counts 0 = .ok (.aload_n 0, 1) := by decide +kernel
theorem dX9_counts_1 : decode cX9_counts 1 = .ok (.iconst 0, 1) := by decide +kernel
theorem dX9_counts_2 : decode cX9_counts 2 = .ok (.putfield 107, 3) := by decide +kernel
theorem dX9_counts_5 : decode cX9_counts 5 = .ok (.iload_n 1, 1) := by decide +kernel
theorem dX9_counts_6 : decode cX9_counts 6 = .ok (.iconst 1, 1) := by decide +kernel
theorem dX9_counts_7 : decode cX9_counts 7 = .ok (.bipush 10, 2) := by decide +kernel
theorem dX9_counts_9 : decode cX9_counts 9 = .ok (.invokestatic 116, 3) := by decide +kernel
theorem dX9_counts_12 : decode cX9_counts 12 = .ok (.ifCond .eq 23, 3) := by decide +kernel
theorem dX9_counts_15 : decode cX9_counts 15 = .ok (.iload_n 2, 1) := by decide +kernel
theorem dX9_counts_16 : decode cX9_counts 16 = .ok (.iconst 0, 1) := by decide +kernel
theorem dX9_counts_17 : decode cX9_counts 17 = .ok (.bipush 100, 2) := by decide +kernel
theorem dX9_counts_19 : decode cX9_counts 19 = .ok (.invokestatic 116, 3) := by decide +kernel
theorem dX9_counts_22 : decode cX9_counts 22 = .ok (.ifCond .eq 13, 3) := by decide +kernel
theorem dX9_counts_25 : decode cX9_counts 25 = .ok (.iload_n 3, 1) := by decide +kernel
theorem dX9_counts_26 : decode cX9_counts 26 = .ok (.iconst 0, 1) := by decide +kernel
theorem dX9_counts_27 : decode cX9_counts 27 = .ok (.bipush 10, 2) := by decide +kernel
theorem dX9_counts_29 : decode cX9_counts 29 = .ok (.invokestatic 116, 3) := by decide +kernel
theorem dX9_counts_32 : decode cX9_counts 32 = .ok (.ifCond .ne 5, 3) := by decide +kernel
theorem dX9_counts_35 : decode cX9_counts 35 = .ok (.iconst (-1), 1) := by decide +kernel
theorem dX9_counts_36 : decode cX9_counts 36 = .ok (.ireturn, 1) := by decide +kernel
theorem dX9_counts_37 : decode cX9_counts 37 = .ok (.aload_n 0, 1) := by decide +kernel
theorem dX9_counts_38 : decode cX9_counts 38 = .ok (.iload_n 1, 1) := by decide +kernel
theorem dX9_counts_39 : decode cX9_counts 39 = .ok (.iload_n 3, 1) := by decide +kernel
theorem dX9_counts_40 : decode cX9_counts 40 = .ok (.invokevirtual 360, 3) := by decide +kernel
theorem dX9_counts_43 : decode cX9_counts 43 = .ok (.bipush 90, 2) := by decide +kernel
theorem dX9_counts_45 : decode cX9_counts 45 = .ok (.istore 4, 2) := by decide +kernel
theorem dX9_counts_47 : decode cX9_counts 47 = .ok (.ldc2_w 368, 3) := by decide +kernel
theorem dX9_counts_50 : decode cX9_counts 50 = .ok (.aload_n 0, 1) := by decide +kernel
theorem dX9_counts_51 : decode cX9_counts 51 = .ok (.iload 4, 2) := by decide +kernel
theorem dX9_counts_53 : decode cX9_counts 53 = .ok (.invokevirtual 364, 3) := by decide +kernel
theorem dX9_counts_56 : decode cX9_counts 56 = .ok (.lmul, 1) := by decide +kernel
theorem dX9_counts_57 : decode cX9_counts 57 = .ok (.iload_n 2, 1) := by decide +kernel
theorem dX9_counts_58 : decode cX9_counts 58 = .ok (.i2l, 1) := by decide +kernel
theorem dX9_counts_59 : decode cX9_counts 59 = .ok (.ldc2_w 338, 3) := by decide +kernel
theorem dX9_counts_62 : decode cX9_counts 62 = .ok (.iload_n 1, 1) := by decide +kernel
theorem dX9_counts_63 : decode cX9_counts 63 = .ok (.invokestatic 340, 3) := by decide +kernel
theorem dX9_counts_66 : decode cX9_counts 66 = .ok (.lmul, 1) := by decide +kernel
theorem dX9_counts_67 : decode cX9_counts 67 = .ok (.lcmp, 1) := by decide +kernel
theorem dX9_counts_68 : decode cX9_counts 68 = .ok (.ifCond .ge 9, 3) := by decide +kernel
theorem dX9_counts_71 : decode cX9_counts 71 = .ok (.iinc 4 (-1), 3) := by decide +kernel
theorem dX9_counts_74 : decode cX9_counts 74 = .ok (.goto (-27), 3) := by decide +kernel
theorem dX9_counts_77 : decode cX9_counts 77 = .ok (.iload 4, 2) := by decide +kernel
theorem dX9_counts_79 : decode cX9_counts 79 = .ok (.ireturn, 1) := by decide +kernel
theorem dX9_told_0 : decode cX9_told 0 = .ok (.aload_n 0, 1) := by decide +kernel
theorem dX9_told_1 : decode cX9_told 1 = .ok (.iconst 0, 1) := by decide +kernel
theorem dX9_told_2 : decode cX9_told 2 = .ok (.putfield 107, 3) := by decide +kernel
theorem dX9_told_5 : decode cX9_told 5 = .ok (.iload_n 1, 1) := by decide +kernel
theorem dX9_told_6 : decode cX9_told 6 = .ok (.ifCond .ne 7, 3) := by decide +kernel
theorem dX9_told_9 : decode cX9_told 9 = .ok (.iconst 3, 1) := by decide +kernel
theorem dX9_told_10 : decode cX9_told 10 = .ok (.goto 24, 3) := by decide +kernel
theorem dX9_told_13 : decode cX9_told 13 = .ok (.iload_n 1, 1) := by decide +kernel
theorem dX9_told_14 : decode cX9_told 14 = .ok (.iconst 2, 1) := by decide +kernel
theorem dX9_told_15 : decode cX9_told 15 = .ok (.if_icmp .ne 8, 3) := by decide +kernel
theorem dX9_told_18 : decode cX9_told 18 = .ok (.bipush 99, 2) := by decide +kernel
theorem dX9_told_20 : decode cX9_told 20 = .ok (.goto 14, 3) := by decide +kernel
theorem dX9_told_23 : decode cX9_told 23 = .ok (.iload_n 1, 1) := by decide +kernel
theorem dX9_told_24 : decode cX9_told 24 = .ok (.iconst 3, 1) := by decide +kernel
theorem dX9_told_25 : decode cX9_told 25 = .ok (.if_icmp .ne 7, 3) := by decide +kernel
theorem dX9_told_28 : decode cX9_told 28 = .ok (.iconst 1, 1) := by decide +kernel
theorem dX9_told_29 : decode cX9_told 29 = .ok (.goto 5, 3) := by decide +kernel
theorem dX9_told_32 : decode cX9_told 32 = .ok (.bipush 9, 2) := by decide +kernel
theorem dX9_told_34 : decode cX9_told 34 = .ok (.istore_n 3, 1) := by decide +kernel
theorem dX9_told_35 : decode cX9_told 35 = .ok (.iload_n 1, 1) := by decide +kernel
theorem dX9_told_36 : decode cX9_told 36 = .ok (.iconst 0, 1) := by decide +kernel
theorem dX9_told_37 : decode cX9_told 37 = .ok (.iconst 4, 1) := by decide +kernel
theorem dX9_told_38 : decode cX9_told 38 = .ok (.invokestatic 116, 3) := by decide +kernel
theorem dX9_told_41 : decode cX9_told 41 = .ok (.ifCond .eq 30, 3) := by decide +kernel
theorem dX9_told_44 : decode cX9_told 44 = .ok (.iload_n 2, 1) := by decide +kernel
theorem dX9_told_45 : decode cX9_told 45 = .ok (.iload_n 1, 1) := by decide +kernel
theorem dX9_told_46 : decode cX9_told 46 = .ok (.iconst 1, 1) := by decide +kernel
theorem dX9_told_47 : decode cX9_told 47 = .ok (.if_icmp .ne 7, 3) := by decide +kernel
theorem dX9_told_50 : decode cX9_told 50 = .ok (.iconst 1, 1) := by decide +kernel
theorem dX9_told_51 : decode cX9_told 51 = .ok (.goto 4, 3) := by decide +kernel
theorem dX9_told_54 : decode cX9_told 54 = .ok (.iconst 0, 1) := by decide +kernel
theorem dX9_told_55 : decode cX9_told 55 = .ok (.iload_n 3, 1) := by decide +kernel
theorem dX9_told_56 : decode cX9_told 56 = .ok (.invokestatic 116, 3) := by decide +kernel
theorem dX9_told_59 : decode cX9_told 59 = .ok (.ifCond .eq 12, 3) := by decide +kernel
theorem dX9_told_62 : decode cX9_told 62 = .ok (.aload_n 0, 1) := by decide +kernel
theorem dX9_told_63 : decode cX9_told 63 = .ok (.getfield 370, 3) := by decide +kernel
theorem dX9_told_66 : decode cX9_told 66 = .ok (.bipush 12, 2) := by decide +kernel
theorem dX9_told_68 : decode cX9_told 68 = .ok (.if_icmp .ne 5, 3) := by decide +kernel
theorem dX9_told_71 : decode cX9_told 71 = .ok (.iconst (-1), 1) := by decide +kernel
theorem dX9_told_72 : decode cX9_told 72 = .ok (.ireturn, 1) := by decide +kernel
theorem dX9_told_73 : decode cX9_told 73 = .ok (.aload_n 0, 1) := by decide +kernel
theorem dX9_told_74 : decode cX9_told 74 = .ok (.getfield 91, 3) := by decide +kernel
theorem dX9_told_77 : decode cX9_told 77 = .ok (.aload_n 0, 1) := by decide +kernel
theorem dX9_told_78 : decode cX9_told 78 = .ok (.getfield 370, 3) := by decide +kernel
theorem dX9_told_81 : decode cX9_told 81 = .ok (.iload_n 1, 1) := by decide +kernel
theorem dX9_told_82 : decode cX9_told 82 = .ok (.iastore, 1) := by decide +kernel
theorem dX9_told_83 : decode cX9_told 83 = .ok (.aload_n 0, 1) := by decide +kernel
theorem dX9_told_84 : decode cX9_told 84 = .ok (.getfield 94, 3) := by decide +kernel
theorem dX9_told_87 : decode cX9_told 87 = .ok (.aload_n 0, 1) := by decide +kernel
theorem dX9_told_88 : decode cX9_told 88 = .ok (.getfield 370, 3) := by decide +kernel
theorem dX9_told_91 : decode cX9_told 91 = .ok (.iload_n 2, 1) := by decide +kernel
theorem dX9_told_92 : decode cX9_told 92 = .ok (.iastore, 1) := by decide +kernel
theorem dX9_told_93 : decode cX9_told 93 = .ok (.aload_n 0, 1) := by decide +kernel
theorem dX9_told_94 : decode cX9_told 94 = .ok (.dup, 1) := by decide +kernel
theorem dX9_told_95 : decode cX9_told 95 = .ok (.getfield 370, 3) := by decide +kernel
theorem dX9_told_98 : decode cX9_told 98 = .ok (.iconst 1, 1) := by decide +kernel
theorem dX9_told_99 : decode cX9_told 99 = .ok (.iadd, 1) := by decide +kernel
theorem dX9_told_100 : decode cX9_told 100 = .ok (.putfield 370, 3) := by decide +kernel
theorem dX9_told_103 : decode cX9_told 103 = .ok (.aload_n 0, 1) := by decide +kernel
theorem dX9_told_104 : decode cX9_told 104 = .ok (.getfield 370, 3) := by decide +kernel
theorem dX9_told_107 : decode cX9_told 107 = .ok (.ireturn, 1) := by decide +kernel
theorem dX9_deny_0 : decode cX9_deny 0 = .ok (.aload_n 0, 1) := by decide +kernel
theorem dX9_deny_1 : decode cX9_deny 1 = .ok (.iconst 0, 1) := by decide +kernel
theorem dX9_deny_2 : decode cX9_deny 2 = .ok (.putfield 107, 3) := by decide +kernel
theorem dX9_deny_5 : decode cX9_deny 5 = .ok (.aload_n 0, 1) := by decide +kernel
theorem dX9_deny_6 : decode cX9_deny 6 = .ok (.getfield 370, 3) := by decide +kernel
theorem dX9_deny_9 : decode cX9_deny 9 = .ok (.istore_n 1, 1) := by decide +kernel
theorem dX9_deny_10 : decode cX9_deny 10 = .ok (.aload_n 0, 1) := by decide +kernel
theorem dX9_deny_11 : decode cX9_deny 11 = .ok (.iconst 0, 1) := by decide +kernel
theorem dX9_deny_12 : decode cX9_deny 12 = .ok (.putfield 370, 3) := by decide +kernel
theorem dX9_deny_15 : decode cX9_deny 15 = .ok (.iload_n 1, 1) := by decide +kernel
theorem dX9_deny_16 : decode cX9_deny 16 = .ok (.ireturn, 1) := by decide +kernel
theorem dX9_fits_0 : decode cX9_fits 0 = .ok (.iload_n 2, 1) := by decide +kernel
theorem dX9_fits_1 : decode cX9_fits 1 = .ok (.tableswitch 115 0 3 #[31, 47, 63, 79], 31) := by decide +kernel
theorem dX9_fits_32 : decode cX9_fits 32 = .ok (.aload_n 0, 1) := by decide +kernel
theorem dX9_fits_33 : decode cX9_fits 33 = .ok (.getfield 13, 3) := by decide +kernel
theorem dX9_fits_36 : decode cX9_fits 36 = .ok (.iload_n 1, 1) := by decide +kernel
theorem dX9_fits_37 : decode cX9_fits 37 = .ok (.iaload, 1) := by decide +kernel
theorem dX9_fits_38 : decode cX9_fits 38 = .ok (.iload_n 3, 1) := by decide +kernel
theorem dX9_fits_39 : decode cX9_fits 39 = .ok (.if_icmp .ne 7, 3) := by decide +kernel
theorem dX9_fits_42 : decode cX9_fits 42 = .ok (.iconst 1, 1) := by decide +kernel
theorem dX9_fits_43 : decode cX9_fits 43 = .ok (.goto 4, 3) := by decide +kernel
theorem dX9_fits_46 : decode cX9_fits 46 = .ok (.iconst 0, 1) := by decide +kernel
theorem dX9_fits_47 : decode cX9_fits 47 = .ok (.ireturn, 1) := by decide +kernel
theorem dX9_fits_48 : decode cX9_fits 48 = .ok (.aload_n 0, 1) := by decide +kernel
theorem dX9_fits_49 : decode cX9_fits 49 = .ok (.getfield 16, 3) := by decide +kernel
theorem dX9_fits_52 : decode cX9_fits 52 = .ok (.iload_n 1, 1) := by decide +kernel
theorem dX9_fits_53 : decode cX9_fits 53 = .ok (.iaload, 1) := by decide +kernel
theorem dX9_fits_54 : decode cX9_fits 54 = .ok (.iload_n 3, 1) := by decide +kernel
theorem dX9_fits_55 : decode cX9_fits 55 = .ok (.if_icmp .lt 7, 3) := by decide +kernel
theorem dX9_fits_58 : decode cX9_fits 58 = .ok (.iconst 1, 1) := by decide +kernel
theorem dX9_fits_59 : decode cX9_fits 59 = .ok (.goto 4, 3) := by decide +kernel
theorem dX9_fits_62 : decode cX9_fits 62 = .ok (.iconst 0, 1) := by decide +kernel
theorem dX9_fits_63 : decode cX9_fits 63 = .ok (.ireturn, 1) := by decide +kernel
theorem dX9_fits_64 : decode cX9_fits 64 = .ok (.aload_n 0, 1) := by decide +kernel
theorem dX9_fits_65 : decode cX9_fits 65 = .ok (.getfield 9, 3) := by decide +kernel
theorem dX9_fits_68 : decode cX9_fits 68 = .ok (.iload_n 1, 1) := by decide +kernel
theorem dX9_fits_69 : decode cX9_fits 69 = .ok (.iaload, 1) := by decide +kernel
theorem dX9_fits_70 : decode cX9_fits 70 = .ok (.iload_n 3, 1) := by decide +kernel
theorem dX9_fits_71 : decode cX9_fits 71 = .ok (.if_icmp .gt 7, 3) := by decide +kernel
theorem dX9_fits_74 : decode cX9_fits 74 = .ok (.iconst 1, 1) := by decide +kernel
theorem dX9_fits_75 : decode cX9_fits 75 = .ok (.goto 4, 3) := by decide +kernel
theorem dX9_fits_78 : decode cX9_fits 78 = .ok (.iconst 0, 1) := by decide +kernel
theorem dX9_fits_79 : decode cX9_fits 79 = .ok (.ireturn, 1) := by decide +kernel
theorem dX9_fits_80 : decode cX9_fits 80 = .ok (.aload_n 0, 1) := by decide +kernel
theorem dX9_fits_81 : decode cX9_fits 81 = .ok (.getfield 9, 3) := by decide +kernel
theorem dX9_fits_84 : decode cX9_fits 84 = .ok (.bipush 8, 2) := by decide +kernel
theorem dX9_fits_86 : decode cX9_fits 86 = .ok (.iload_n 1, 1) := by decide +kernel
theorem dX9_fits_87 : decode cX9_fits 87 = .ok (.iadd, 1) := by decide +kernel
theorem dX9_fits_88 : decode cX9_fits 88 = .ok (.iaload, 1) := by decide +kernel
theorem dX9_fits_89 : decode cX9_fits 89 = .ok (.ifCond .le 7, 3) := by decide +kernel
theorem dX9_fits_92 : decode cX9_fits 92 = .ok (.iconst 1, 1) := by decide +kernel
theorem dX9_fits_93 : decode cX9_fits 93 = .ok (.goto 4, 3) := by decide +kernel
theorem dX9_fits_96 : decode cX9_fits 96 = .ok (.iconst 0, 1) := by decide +kernel
theorem dX9_fits_97 : decode cX9_fits 97 = .ok (.iload_n 3, 1) := by decide +kernel
theorem dX9_fits_98 : decode cX9_fits 98 = .ok (.iconst 1, 1) := by decide +kernel
theorem dX9_fits_99 : decode cX9_fits 99 = .ok (.if_icmp .ne 7, 3) := by decide +kernel
theorem dX9_fits_102 : decode cX9_fits 102 = .ok (.iconst 1, 1) := by decide +kernel
theorem dX9_fits_103 : decode cX9_fits 103 = .ok (.goto 4, 3) := by decide +kernel
theorem dX9_fits_106 : decode cX9_fits 106 = .ok (.iconst 0, 1) := by decide +kernel
theorem dX9_fits_107 : decode cX9_fits 107 = .ok (.if_icmp .ne 7, 3) := by decide +kernel
theorem dX9_fits_110 : decode cX9_fits 110 = .ok (.iconst 1, 1) := by decide +kernel
theorem dX9_fits_111 : decode cX9_fits 111 = .ok (.goto 4, 3) := by decide +kernel
theorem dX9_fits_114 : decode cX9_fits 114 = .ok (.iconst 0, 1) := by decide +kernel
theorem dX9_fits_115 : decode cX9_fits 115 = .ok (.ireturn, 1) := by decide +kernel
theorem dX9_fits_116 : decode cX9_fits 116 = .ok (.aload_n 0, 1) := by decide +kernel
theorem dX9_fits_117 : decode cX9_fits 117 = .ok (.getfield 19, 3) := by decide +kernel
theorem dX9_fits_120 : decode cX9_fits 120 = .ok (.iload_n 1, 1) := by decide +kernel
theorem dX9_fits_121 : decode cX9_fits 121 = .ok (.iaload, 1) := by decide +kernel
theorem dX9_fits_122 : decode cX9_fits 122 = .ok (.iload_n 3, 1) := by decide +kernel
theorem dX9_fits_123 : decode cX9_fits 123 = .ok (.if_icmp .ne 7, 3) := by decide +kernel
theorem dX9_fits_126 : decode cX9_fits 126 = .ok (.iconst 1, 1) := by decide +kernel
theorem dX9_fits_127 : decode cX9_fits 127 = .ok (.goto 4, 3) := by decide +kernel
theorem dX9_fits_130 : decode cX9_fits 130 = .ok (.iconst 0, 1) := by decide +kernel
theorem dX9_fits_131 : decode cX9_fits 131 = .ok (.ireturn, 1) := by decide +kernel
theorem dX9_fitting_0 : decode cX9_fitting 0 = .ok (.iconst 0, 1) := by decide +kernel
theorem dX9_fitting_1 : decode cX9_fitting 1 = .ok (.istore_n 1, 1) := by decide +kernel
theorem dX9_fitting_2 : decode cX9_fitting 2 = .ok (.iconst 0, 1) := by decide +kernel
theorem dX9_fitting_3 : decode cX9_fitting 3 = .ok (.istore_n 2, 1) := by decide +kernel
theorem dX9_fitting_4 : decode cX9_fitting 4 = .ok (.iload_n 2, 1) := by decide +kernel
theorem dX9_fitting_5 : decode cX9_fitting 5 = .ok (.aload_n 0, 1) := by decide +kernel
theorem dX9_fitting_6 : decode cX9_fitting 6 = .ok (.getfield 113, 3) := by decide +kernel
theorem dX9_fitting_9 : decode cX9_fitting 9 = .ok (.if_icmp .ge 75, 3) := by decide +kernel
theorem dX9_fitting_12 : decode cX9_fitting 12 = .ok (.iconst 1, 1) := by decide +kernel
theorem dX9_fitting_13 : decode cX9_fitting 13 = .ok (.istore_n 3, 1) := by decide +kernel
theorem dX9_fitting_14 : decode cX9_fitting 14 = .ok (.iconst 0, 1) := by decide +kernel
theorem dX9_fitting_15 : decode cX9_fitting 15 = .ok (.istore 4, 2) := by decide +kernel
theorem dX9_fitting_17 : decode cX9_fitting 17 = .ok (.iload 4, 2) := by decide +kernel
theorem dX9_fitting_19 : decode cX9_fitting 19 = .ok (.aload_n 0, 1) := by decide +kernel
theorem dX9_fitting_20 : decode cX9_fitting 20 = .ok (.getfield 370, 3) := by decide +kernel
theorem dX9_fitting_23 : decode cX9_fitting 23 = .ok (.if_icmp .ge 41, 3) := by decide +kernel
theorem dX9_fitting_26 : decode cX9_fitting 26 = .ok (.iload_n 3, 1) := by decide +kernel
theorem dX9_fitting_27 : decode cX9_fitting 27 = .ok (.ifCond .eq 29, 3) := by decide +kernel
theorem dX9_fitting_30 : decode cX9_fitting 30 = .ok (.aload_n 0, 1) := by decide +kernel
theorem dX9_fitting_31 : decode cX9_fitting 31 = .ok (.iload_n 2, 1) := by decide +kernel
theorem dX9_fitting_32 : decode cX9_fitting 32 = .ok (.aload_n 0, 1) := by decide +kernel
theorem dX9_fitting_33 : decode cX9_fitting 33 = .ok (.getfield 91, 3) := by decide +kernel
theorem dX9_fitting_36 : decode cX9_fitting 36 = .ok (.iload 4, 2) := by decide +kernel
theorem dX9_fitting_38 : decode cX9_fitting 38 = .ok (.iaload, 1) := by decide +kernel
theorem dX9_fitting_39 : decode cX9_fitting 39 = .ok (.aload_n 0, 1) := by decide +kernel
theorem dX9_fitting_40 : decode cX9_fitting 40 = .ok (.getfield 94, 3) := by decide +kernel
theorem dX9_fitting_43 : decode cX9_fitting 43 = .ok (.iload 4, 2) := by decide +kernel
theorem dX9_fitting_45 : decode cX9_fitting 45 = .ok (.iaload, 1) := by decide +kernel
theorem dX9_fitting_46 : decode cX9_fitting 46 = .ok (.invokevirtual 373, 3) := by decide +kernel
theorem dX9_fitting_49 : decode cX9_fitting 49 = .ok (.ifCond .eq 7, 3) := by decide +kernel
theorem dX9_fitting_52 : decode cX9_fitting 52 = .ok (.iconst 1, 1) := by decide +kernel
theorem dX9_fitting_53 : decode cX9_fitting 53 = .ok (.goto 4, 3) := by decide +kernel
theorem dX9_fitting_56 : decode cX9_fitting 56 = .ok (.iconst 0, 1) := by decide +kernel
theorem dX9_fitting_57 : decode cX9_fitting 57 = .ok (.istore_n 3, 1) := by decide +kernel
theorem dX9_fitting_58 : decode cX9_fitting 58 = .ok (.iinc 4 1, 3) := by decide +kernel
theorem dX9_fitting_61 : decode cX9_fitting 61 = .ok (.goto (-44), 3) := by decide +kernel
theorem dX9_fitting_64 : decode cX9_fitting 64 = .ok (.iload_n 1, 1) := by decide +kernel
theorem dX9_fitting_65 : decode cX9_fitting 65 = .ok (.iload_n 3, 1) := by decide +kernel
theorem dX9_fitting_66 : decode cX9_fitting 66 = .ok (.ifCond .eq 9, 3) := by decide +kernel
theorem dX9_fitting_69 : decode cX9_fitting 69 = .ok (.iconst 1, 1) := by decide +kernel
theorem dX9_fitting_70 : decode cX9_fitting 70 = .ok (.iload_n 2, 1) := by decide +kernel
theorem dX9_fitting_71 : decode cX9_fitting 71 = .ok (.ishl, 1) := by decide +kernel
theorem dX9_fitting_72 : decode cX9_fitting 72 = .ok (.goto 4, 3) := by decide +kernel
theorem dX9_fitting_75 : decode cX9_fitting 75 = .ok (.iconst 0, 1) := by decide +kernel
theorem dX9_fitting_76 : decode cX9_fitting 76 = .ok (.ior, 1) := by decide +kernel
theorem dX9_fitting_77 : decode cX9_fitting 77 = .ok (.istore_n 1, 1) := by decide +kernel
theorem dX9_fitting_78 : decode cX9_fitting 78 = .ok (.iinc 2 1, 3) := by decide +kernel
theorem dX9_fitting_81 : decode cX9_fitting 81 = .ok (.goto (-77), 3) := by decide +kernel
theorem dX9_fitting_84 : decode cX9_fitting 84 = .ok (.iload_n 1, 1) := by decide +kernel
theorem dX9_fitting_85 : decode cX9_fitting 85 = .ok (.ireturn, 1) := by decide +kernel
theorem dX9_fits__0 : decode cX9_fits_ 0 = .ok (.aload_n 0, 1) := by decide +kernel
theorem dX9_fits__1 : decode cX9_fits_ 1 = .ok (.iconst 0, 1) := by decide +kernel
theorem dX9_fits__2 : decode cX9_fits_ 2 = .ok (.putfield 107, 3) := by decide +kernel
theorem dX9_fits__5 : decode cX9_fits_ 5 = .ok (.aload_n 0, 1) := by decide +kernel
theorem dX9_fits__6 : decode cX9_fits_ 6 = .ok (.iconst 0, 1) := by decide +kernel
theorem dX9_fits__7 : decode cX9_fits_ 7 = .ok (.putfield 110, 3) := by decide +kernel
theorem dX9_fits__10 : decode cX9_fits_ 10 = .ok (.aload_n 0, 1) := by decide +kernel
theorem dX9_fits__11 : decode cX9_fits_ 11 = .ok (.aload_n 0, 1) := by decide +kernel
theorem dX9_fits__12 : decode cX9_fits_ 12 = .ok (.invokevirtual 376, 3) := by decide +kernel
theorem dX9_fits__15 : decode cX9_fits_ 15 = .ok (.invokestatic 220, 3) := by decide +kernel
theorem dX9_fits__18 : decode cX9_fits_ 18 = .ok (.i2l, 1) := by decide +kernel
theorem dX9_fits__19 : decode cX9_fits_ 19 = .ok (.invokevirtual 275, 3) := by decide +kernel
theorem dX9_fits__22 : decode cX9_fits_ 22 = .ok (.aload_n 0, 1) := by decide +kernel
theorem dX9_fits__23 : decode cX9_fits_ 23 = .ok (.invokevirtual 376, 3) := by decide +kernel
theorem dX9_fits__26 : decode cX9_fits_ 26 = .ok (.ireturn, 1) := by decide +kernel
theorem dX9_ask_0 : decode cX9_ask 0 = .ok (.aload_n 0, 1) := by decide +kernel
theorem dX9_ask_1 : decode cX9_ask 1 = .ok (.iconst 0, 1) := by decide +kernel
theorem dX9_ask_2 : decode cX9_ask 2 = .ok (.putfield 107, 3) := by decide +kernel
theorem dX9_ask_5 : decode cX9_ask 5 = .ok (.aload_n 0, 1) := by decide +kernel
theorem dX9_ask_6 : decode cX9_ask 6 = .ok (.invokevirtual 376, 3) := by decide +kernel
theorem dX9_ask_9 : decode cX9_ask 9 = .ok (.istore_n 1, 1) := by decide +kernel
theorem dX9_ask_10 : decode cX9_ask 10 = .ok (.iload_n 1, 1) := by decide +kernel
theorem dX9_ask_11 : decode cX9_ask 11 = .ok (.ifCond .ne 6, 3) := by decide +kernel
theorem dX9_ask_14 : decode cX9_ask 14 = .ok (.bipush (-2), 2) := by decide +kernel
theorem dX9_ask_16 : decode cX9_ask 16 = .ok (.ireturn, 1) := by decide +kernel
theorem dX9_ask_17 : decode cX9_ask 17 = .ok (.iconst (-1), 1) := by decide +kernel
theorem dX9_ask_18 : decode cX9_ask 18 = .ok (.istore_n 2, 1) := by decide +kernel
theorem dX9_ask_19 : decode cX9_ask 19 = .ok (.ldc_w 323, 3) := by decide +kernel
theorem dX9_ask_22 : decode cX9_ask 22 = .ok (.istore_n 3, 1) := by decide +kernel
theorem dX9_ask_23 : decode cX9_ask 23 = .ok (.iconst 0, 1) := by decide +kernel
theorem dX9_ask_24 : decode cX9_ask 24 = .ok (.istore 4, 2) := by decide +kernel
theorem dX9_ask_26 : decode cX9_ask 26 = .ok (.iload 4, 2) := by decide +kernel
theorem dX9_ask_28 : decode cX9_ask 28 = .ok (.bipush 9, 2) := by decide +kernel
theorem dX9_ask_30 : decode cX9_ask 30 = .ok (.if_icmp .gt 90, 3) := by decide +kernel
theorem dX9_ask_33 : decode cX9_ask 33 = .ok (.iconst 0, 1) := by decide +kernel
theorem dX9_ask_34 : decode cX9_ask 34 = .ok (.istore 5, 2) := by decide +kernel
theorem dX9_ask_36 : decode cX9_ask 36 = .ok (.iconst 0, 1) := by decide +kernel
theorem dX9_ask_37 : decode cX9_ask 37 = .ok (.istore 6, 2) := by decide +kernel
theorem dX9_ask_39 : decode cX9_ask 39 = .ok (.iload 6, 2) := by decide +kernel
theorem dX9_ask_41 : decode cX9_ask 41 = .ok (.aload_n 0, 1) := by decide +kernel
theorem dX9_ask_42 : decode cX9_ask 42 = .ok (.getfield 113, 3) := by decide +kernel
theorem dX9_ask_45 : decode cX9_ask 45 = .ok (.if_icmp .ge 40, 3) := by decide +kernel
theorem dX9_ask_48 : decode cX9_ask 48 = .ok (.iload 5, 2) := by decide +kernel
theorem dX9_ask_50 : decode cX9_ask 50 = .ok (.iload_n 1, 1) := by decide +kernel
theorem dX9_ask_51 : decode cX9_ask 51 = .ok (.iload 6, 2) := by decide +kernel
theorem dX9_ask_53 : decode cX9_ask 53 = .ok (.invokestatic 309, 3) := by decide +kernel
theorem dX9_ask_56 : decode cX9_ask 56 = .ok (.ifCond .eq 19, 3) := by decide +kernel
theorem dX9_ask_59 : decode cX9_ask 59 = .ok (.aload_n 0, 1) := by decide +kernel
theorem dX9_ask_60 : decode cX9_ask 60 = .ok (.getfield 19, 3) := by decide +kernel
theorem dX9_ask_63 : decode cX9_ask 63 = .ok (.iload 6, 2) := by decide +kernel
theorem dX9_ask_65 : decode cX9_ask 65 = .ok (.iaload, 1) := by decide +kernel
theorem dX9_ask_66 : decode cX9_ask 66 = .ok (.iload 4, 2) := by decide +kernel
theorem dX9_ask_68 : decode cX9_ask 68 = .ok (.if_icmp .gt 7, 3) := by decide +kernel
theorem dX9_ask_71 : decode cX9_ask 71 = .ok (.iconst 1, 1) := by decide +kernel
theorem dX9_ask_72 : decode cX9_ask 72 = .ok (.goto 4, 3) := by decide +kernel
theorem dX9_ask_75 : decode cX9_ask 75 = .ok (.iconst 0, 1) := by decide +kernel
theorem dX9_ask_76 : decode cX9_ask 76 = .ok (.iadd, 1) := by decide +kernel
theorem dX9_ask_77 : decode cX9_ask 77 = .ok (.istore 5, 2) := by decide +kernel
theorem dX9_ask_79 : decode cX9_ask 79 = .ok (.iinc 6 1, 3) := by decide +kernel
theorem dX9_ask_82 : decode cX9_ask 82 = .ok (.goto (-43), 3) := by decide +kernel
theorem dX9_ask_85 : decode cX9_ask 85 = .ok (.iload 5, 2) := by decide +kernel
theorem dX9_ask_87 : decode cX9_ask 87 = .ok (.iload_n 1, 1) := by decide +kernel
theorem dX9_ask_88 : decode cX9_ask 88 = .ok (.invokestatic 220, 3) := by decide +kernel
theorem dX9_ask_91 : decode cX9_ask 91 = .ok (.iload 5, 2) := by decide +kernel
theorem dX9_ask_93 : decode cX9_ask 93 = .ok (.isub, 1) := by decide +kernel
theorem dX9_ask_94 : decode cX9_ask 94 = .ok (.invokestatic 231, 3) := by decide +kernel
theorem dX9_ask_97 : decode cX9_ask 97 = .ok (.istore 6, 2) := by decide +kernel
theorem dX9_ask_99 : decode cX9_ask 99 = .ok (.iload 6, 2) := by decide +kernel
theorem dX9_ask_101 : decode cX9_ask 101 = .ok (.iload_n 3, 1) := by decide +kernel
theorem dX9_ask_102 : decode cX9_ask 102 = .ok (.if_icmp .lt 6, 3) := by decide +kernel
theorem dX9_ask_105 : decode cX9_ask 105 = .ok (.goto 9, 3) := by decide +kernel
theorem dX9_ask_108 : decode cX9_ask 108 = .ok (.iload 4, 2) := by decide +kernel
theorem dX9_ask_110 : decode cX9_ask 110 = .ok (.istore_n 2, 1) := by decide +kernel
theorem dX9_ask_111 : decode cX9_ask 111 = .ok (.iload 6, 2) := by decide +kernel
theorem dX9_ask_113 : decode cX9_ask 113 = .ok (.istore_n 3, 1) := by decide +kernel
theorem dX9_ask_114 : decode cX9_ask 114 = .ok (.iinc 4 1, 3) := by decide +kernel
theorem dX9_ask_117 : decode cX9_ask 117 = .ok (.goto (-91), 3) := by decide +kernel
theorem dX9_ask_120 : decode cX9_ask 120 = .ok (.aload_n 0, 1) := by decide +kernel
theorem dX9_ask_121 : decode cX9_ask 121 = .ok (.iconst 0, 1) := by decide +kernel
theorem dX9_ask_122 : decode cX9_ask 122 = .ok (.putfield 110, 3) := by decide +kernel
theorem dX9_ask_125 : decode cX9_ask 125 = .ok (.aload_n 0, 1) := by decide +kernel
theorem dX9_ask_126 : decode cX9_ask 126 = .ok (.iload_n 3, 1) := by decide +kernel
theorem dX9_ask_127 : decode cX9_ask 127 = .ok (.i2l, 1) := by decide +kernel
theorem dX9_ask_128 : decode cX9_ask 128 = .ok (.invokevirtual 275, 3) := by decide +kernel
theorem dX9_ask_131 : decode cX9_ask 131 = .ok (.iload_n 2, 1) := by decide +kernel
theorem dX9_ask_132 : decode cX9_ask 132 = .ok (.ireturn, 1) := by decide +kernel
theorem dX9_gets_0 : decode cX9_gets 0 = .ok (.iload_n 0, 1) := by decide +kernel
theorem dX9_gets_1 : decode cX9_gets 1 = .ok (.iload_n 1, 1) := by decide +kernel
theorem dX9_gets_2 : decode cX9_gets 2 = .ok (.iadd, 1) := by decide +kernel
theorem dX9_gets_3 : decode cX9_gets 3 = .ok (.bipush 9, 2) := by decide +kernel
theorem dX9_gets_5 : decode cX9_gets 5 = .ok (.if_icmp .lt 7, 3) := by decide +kernel
theorem dX9_gets_8 : decode cX9_gets 8 = .ok (.iload_n 2, 1) := by decide +kernel
theorem dX9_gets_9 : decode cX9_gets 9 = .ok (.goto 6, 3) := by decide +kernel
theorem dX9_gets_12 : decode cX9_gets 12 = .ok (.iload_n 2, 1) := by decide +kernel
theorem dX9_gets_13 : decode cX9_gets 13 = .ok (.iconst 2, 1) := by decide +kernel
theorem dX9_gets_14 : decode cX9_gets 14 = .ok (.idiv, 1) := by decide +kernel
theorem dX9_gets_15 : decode cX9_gets 15 = .ok (.iload_n 0, 1) := by decide +kernel
theorem dX9_gets_16 : decode cX9_gets 16 = .ok (.iload_n 3, 1) := by decide +kernel
theorem dX9_gets_17 : decode cX9_gets 17 = .ok (.imul, 1) := by decide +kernel
theorem dX9_gets_18 : decode cX9_gets 18 = .ok (.isub, 1) := by decide +kernel
theorem dX9_gets_19 : decode cX9_gets 19 = .ok (.ireturn, 1) := by decide +kernel
theorem dX9_isBest_0 : decode cX9_isBest 0 = .ok (.iconst 0, 1) := by decide +kernel
theorem dX9_isBest_1 : decode cX9_isBest 1 = .ok (.istore 4, 2) := by decide +kernel
theorem dX9_isBest_3 : decode cX9_isBest 3 = .ok (.iload 4, 2) := by decide +kernel
theorem dX9_isBest_5 : decode cX9_isBest 5 = .ok (.bipush 9, 2) := by decide +kernel
theorem dX9_isBest_7 : decode cX9_isBest 7 = .ok (.if_icmp .gt 29, 3) := by decide +kernel
theorem dX9_isBest_10 : decode cX9_isBest 10 = .ok (.iload 4, 2) := by decide +kernel
theorem dX9_isBest_12 : decode cX9_isBest 12 = .ok (.iload_n 1, 1) := by decide +kernel
theorem dX9_isBest_13 : decode cX9_isBest 13 = .ok (.iload_n 2, 1) := by decide +kernel
theorem dX9_isBest_14 : decode cX9_isBest 14 = .ok (.iload_n 3, 1) := by decide +kernel
theorem dX9_isBest_15 : decode cX9_isBest 15 = .ok (.invokestatic 379, 3) := by decide +kernel
theorem dX9_isBest_18 : decode cX9_isBest 18 = .ok (.iload_n 0, 1) := by decide +kernel
theorem dX9_isBest_19 : decode cX9_isBest 19 = .ok (.iload_n 1, 1) := by decide +kernel
theorem dX9_isBest_20 : decode cX9_isBest 20 = .ok (.iload_n 2, 1) := by decide +kernel
theorem dX9_isBest_21 : decode cX9_isBest 21 = .ok (.iload_n 3, 1) := by decide +kernel
theorem dX9_isBest_22 : decode cX9_isBest 22 = .ok (.invokestatic 379, 3) := by decide +kernel
theorem dX9_isBest_25 : decode cX9_isBest 25 = .ok (.if_icmp .le 5, 3) := by decide +kernel
theorem dX9_isBest_28 : decode cX9_isBest 28 = .ok (.iconst 0, 1) := by decide +kernel
theorem dX9_isBest_29 : decode cX9_isBest 29 = .ok (.ireturn, 1) := by decide +kernel
theorem dX9_isBest_30 : decode cX9_isBest 30 = .ok (.iinc 4 1, 3) := by decide +kernel
theorem dX9_isBest_33 : decode cX9_isBest 33 = .ok (.goto (-30), 3) := by decide +kernel
theorem dX9_isBest_36 : decode cX9_isBest 36 = .ok (.iconst 1, 1) := by decide +kernel
theorem dX9_isBest_37 : decode cX9_isBest 37 = .ok (.ireturn, 1) := by decide +kernel
theorem dX9_rests_0 : decode cX9_rests 0 = .ok (.aload_n 0, 1) := by decide +kernel
theorem dX9_rests_1 : decode cX9_rests 1 = .ok (.iconst 0, 1) := by decide +kernel
theorem dX9_rests_2 : decode cX9_rests 2 = .ok (.putfield 107, 3) := by decide +kernel
theorem dX9_rests_5 : decode cX9_rests 5 = .ok (.iload_n 1, 1) := by decide +kernel
theorem dX9_rests_6 : decode cX9_rests 6 = .ok (.iconst 0, 1) := by decide +kernel
theorem dX9_rests_7 : decode cX9_rests 7 = .ok (.bipush 20, 2) := by decide +kernel
theorem dX9_rests_9 : decode cX9_rests 9 = .ok (.invokestatic 116, 3) := by decide +kernel
theorem dX9_rests_12 : decode cX9_rests 12 = .ok (.ifCond .eq 21, 3) := by decide +kernel
theorem dX9_rests_15 : decode cX9_rests 15 = .ok (.iload_n 2, 1) := by decide +kernel
theorem dX9_rests_16 : decode cX9_rests 16 = .ok (.iconst 0, 1) := by decide +kernel
theorem dX9_rests_17 : decode cX9_rests 17 = .ok (.iconst 5, 1) := by decide +kernel
theorem dX9_rests_18 : decode cX9_rests 18 = .ok (.invokestatic 116, 3) := by decide +kernel
theorem dX9_rests_21 : decode cX9_rests 21 = .ok (.ifCond .eq 12, 3) := by decide +kernel
theorem dX9_rests_24 : decode cX9_rests 24 = .ok (.iload_n 3, 1) := by decide +kernel
theorem dX9_rests_25 : decode cX9_rests 25 = .ok (.iconst 0, 1) := by decide +kernel
theorem dX9_rests_26 : decode cX9_rests 26 = .ok (.iconst 5, 1) := by decide +kernel
theorem dX9_rests_27 : decode cX9_rests 27 = .ok (.invokestatic 116, 3) := by decide +kernel
theorem dX9_rests_30 : decode cX9_rests 30 = .ok (.ifCond .ne 5, 3) := by decide +kernel
theorem dX9_rests_33 : decode cX9_rests 33 = .ok (.iconst (-1), 1) := by decide +kernel
theorem dX9_rests_34 : decode cX9_rests 34 = .ok (.ireturn, 1) := by decide +kernel
theorem dX9_rests_35 : decode cX9_rests 35 = .ok (.iconst 0, 1) := by decide +kernel
theorem dX9_rests_36 : decode cX9_rests 36 = .ok (.istore 4, 2) := by decide +kernel
theorem dX9_rests_38 : decode cX9_rests 38 = .ok (.aload_n 0, 1) := by decide +kernel
theorem dX9_rests_39 : decode cX9_rests 39 = .ok (.iconst 0, 1) := by decide +kernel
theorem dX9_rests_40 : decode cX9_rests 40 = .ok (.putfield 110, 3) := by decide +kernel
theorem dX9_rests_43 : decode cX9_rests 43 = .ok (.iconst 0, 1) := by decide +kernel
theorem dX9_rests_44 : decode cX9_rests 44 = .ok (.istore 5, 2) := by decide +kernel
theorem dX9_rests_46 : decode cX9_rests 46 = .ok (.iload 5, 2) := by decide +kernel
theorem dX9_rests_48 : decode cX9_rests 48 = .ok (.bipush 9, 2) := by decide +kernel
theorem dX9_rests_50 : decode cX9_rests 50 = .ok (.if_icmp .gt 74, 3) := by decide +kernel
theorem dX9_rests_53 : decode cX9_rests 53 = .ok (.iconst 0, 1) := by decide +kernel
theorem dX9_rests_54 : decode cX9_rests 54 = .ok (.istore 6, 2) := by decide +kernel
theorem dX9_rests_56 : decode cX9_rests 56 = .ok (.iload 6, 2) := by decide +kernel
theorem dX9_rests_58 : decode cX9_rests 58 = .ok (.bipush 9, 2) := by decide +kernel
theorem dX9_rests_60 : decode cX9_rests 60 = .ok (.if_icmp .gt 58, 3) := by decide +kernel
theorem dX9_rests_63 : decode cX9_rests 63 = .ok (.iload 5, 2) := by decide +kernel
theorem dX9_rests_65 : decode cX9_rests 65 = .ok (.iload 6, 2) := by decide +kernel
theorem dX9_rests_67 : decode cX9_rests 67 = .ok (.iload_n 1, 1) := by decide +kernel
theorem dX9_rests_68 : decode cX9_rests 68 = .ok (.iload_n 2, 1) := by decide +kernel
theorem dX9_rests_69 : decode cX9_rests 69 = .ok (.invokestatic 383, 3) := by decide +kernel
theorem dX9_rests_72 : decode cX9_rests 72 = .ok (.ifCond .eq 40, 3) := by decide +kernel
theorem dX9_rests_75 : decode cX9_rests 75 = .ok (.iload 6, 2) := by decide +kernel
theorem dX9_rests_77 : decode cX9_rests 77 = .ok (.iload 5, 2) := by decide +kernel
theorem dX9_rests_79 : decode cX9_rests 79 = .ok (.iload_n 1, 1) := by decide +kernel
theorem dX9_rests_80 : decode cX9_rests 80 = .ok (.iload_n 3, 1) := by decide +kernel
theorem dX9_rests_81 : decode cX9_rests 81 = .ok (.invokestatic 383, 3) := by decide +kernel
theorem dX9_rests_84 : decode cX9_rests 84 = .ok (.ifCond .ne 6, 3) := by decide +kernel
theorem dX9_rests_87 : decode cX9_rests 87 = .ok (.goto 25, 3) := by decide +kernel
theorem dX9_rests_90 : decode cX9_rests 90 = .ok (.iload 4, 2) := by decide +kernel
theorem dX9_rests_92 : decode cX9_rests 92 = .ok (.ifCond .ne 17, 3) := by decide +kernel
theorem dX9_rests_95 : decode cX9_rests 95 = .ok (.aload_n 0, 1) := by decide +kernel
theorem dX9_rests_96 : decode cX9_rests 96 = .ok (.iload 5, 2) := by decide +kernel
theorem dX9_rests_98 : decode cX9_rests 98 = .ok (.i2l, 1) := by decide +kernel
theorem dX9_rests_99 : decode cX9_rests 99 = .ok (.invokevirtual 275, 3) := by decide +kernel
theorem dX9_rests_102 : decode cX9_rests 102 = .ok (.aload_n 0, 1) := by decide +kernel
theorem dX9_rests_103 : decode cX9_rests 103 = .ok (.iload 6, 2) := by decide +kernel
theorem dX9_rests_105 : decode cX9_rests 105 = .ok (.i2l, 1) := by decide +kernel
theorem dX9_rests_106 : decode cX9_rests 106 = .ok (.invokevirtual 275, 3) := by decide +kernel
theorem dX9_rests_109 : decode cX9_rests 109 = .ok (.iinc 4 1, 3) := by decide +kernel
theorem dX9_rests_112 : decode cX9_rests 112 = .ok (.iinc 6 1, 3) := by decide +kernel
theorem dX9_rests_115 : decode cX9_rests 115 = .ok (.goto (-59), 3) := by decide +kernel
theorem dX9_rests_118 : decode cX9_rests 118 = .ok (.iinc 5 1, 3) := by decide +kernel
theorem dX9_rests_121 : decode cX9_rests 121 = .ok (.goto (-75), 3) := by decide +kernel
theorem dX9_rests_124 : decode cX9_rests 124 = .ok (.iload 4, 2) := by decide +kernel
theorem dX9_rests_126 : decode cX9_rests 126 = .ok (.ireturn, 1) := by decide +kernel
theorem dX9_bookIn20_0 : decode cX9_bookIn20 0 = .ok (.aload_n 0, 1) := by decide +kernel
theorem dX9_bookIn20_1 : decode cX9_bookIn20 1 = .ok (.getfield 9, 3) := by decide +kernel
theorem dX9_bookIn20_4 : decode cX9_bookIn20 4 = .ok (.aload_n 0, 1) := by decide +kernel
theorem dX9_bookIn20_5 : decode cX9_bookIn20 5 = .ok (.getfield 55, 3) := by decide +kernel
theorem dX9_bookIn20_8 : decode cX9_bookIn20 8 = .ok (.iconst 0, 1) := by decide +kernel
theorem dX9_bookIn20_9 : decode cX9_bookIn20 9 = .ok (.invokestatic 248, 3) := by decide +kernel
theorem dX9_bookIn20_12 : decode cX9_bookIn20 12 = .ok (.aload_n 0, 1) := by decide +kernel
theorem dX9_bookIn20_13 : decode cX9_bookIn20 13 = .ok (.aload_n 0, 1) := by decide +kernel
theorem dX9_bookIn20_14 : decode cX9_bookIn20 14 = .ok (.getfield 55, 3) := by decide +kernel
theorem dX9_bookIn20_17 : decode cX9_bookIn20 17 = .ok (.bipush 20, 2) := by decide +kernel
theorem dX9_bookIn20_19 : decode cX9_bookIn20 19 = .ok (.invokevirtual 271, 3) := by decide +kernel
theorem dX9_bookIn20_22 : decode cX9_bookIn20 22 = .ok (.aload_n 0, 1) := by decide +kernel
theorem dX9_bookIn20_23 : decode cX9_bookIn20 23 = .ok (.getfield 55, 3) := by decide +kernel
theorem dX9_bookIn20_26 : decode cX9_bookIn20 26 = .ok (.bipush 24, 2) := by decide +kernel
theorem dX9_bookIn20_28 : decode cX9_bookIn20 28 = .ok (.iaload, 1) := by decide +kernel
theorem dX9_bookIn20_29 : decode cX9_bookIn20 29 = .ok (.ireturn, 1) := by decide +kernel
theorem dX9_law_0 : decode cX9_law 0 = .ok (.aload_n 0, 1) := by decide +kernel
theorem dX9_law_1 : decode cX9_law 1 = .ok (.iconst 0, 1) := by decide +kernel
theorem dX9_law_2 : decode cX9_law 2 = .ok (.putfield 107, 3) := by decide +kernel
theorem dX9_law_5 : decode cX9_law 5 = .ok (.aload_n 0, 1) := by decide +kernel
theorem dX9_law_6 : decode cX9_law 6 = .ok (.getfield 120, 3) := by decide +kernel
theorem dX9_law_9 : decode cX9_law 9 = .ok (.istore_n 1, 1) := by decide +kernel
theorem dX9_law_10 : decode cX9_law 10 = .ok (.aload_n 0, 1) := by decide +kernel
theorem dX9_law_11 : decode cX9_law 11 = .ok (.invokevirtual 207, 3) := by decide +kernel
theorem dX9_law_14 : decode cX9_law 14 = .ok (.ifCond .ne 12, 3) := by decide +kernel
theorem dX9_law_17 : decode cX9_law 17 = .ok (.sipush (-10000), 3) := by decide +kernel
theorem dX9_law_20 : decode cX9_law 20 = .ok (.aload_n 0, 1) := by decide +kernel
theorem dX9_law_21 : decode cX9_law 21 = .ok (.getfield 135, 3) := by decide +kernel
theorem dX9_law_24 : decode cX9_law 24 = .ok (.isub, 1) := by decide +kernel
theorem dX9_law_25 : decode cX9_law 25 = .ok (.ireturn, 1) := by decide +kernel
theorem dX9_law_26 : decode cX9_law 26 = .ok (.aload_n 0, 1) := by decide +kernel
theorem dX9_law_27 : decode cX9_law 27 = .ok (.invokevirtual 387, 3) := by decide +kernel
theorem dX9_law_30 : decode cX9_law 30 = .ok (.istore_n 2, 1) := by decide +kernel
theorem dX9_law_31 : decode cX9_law 31 = .ok (.aload_n 0, 1) := by decide +kernel
theorem dX9_law_32 : decode cX9_law 32 = .ok (.getfield 40, 3) := by decide +kernel
theorem dX9_law_35 : decode cX9_law 35 = .ok (.astore_n 3, 1) := by decide +kernel
theorem dX9_law_36 : decode cX9_law 36 = .ok (.aload_n 0, 1) := by decide +kernel
theorem dX9_law_37 : decode cX9_law 37 = .ok (.getfield 210, 3) := by decide +kernel
theorem dX9_law_40 : decode cX9_law 40 = .ok (.istore 4, 2) := by decide +kernel
theorem dX9_law_42 : decode cX9_law 42 = .ok (.aload_n 0, 1) := by decide +kernel
theorem dX9_law_43 : decode cX9_law 43 = .ok (.aload_n 0, 1) := by decide +kernel
theorem dX9_law_44 : decode cX9_law 44 = .ok (.getfield 43, 3) := by decide +kernel
theorem dX9_law_47 : decode cX9_law 47 = .ok (.putfield 40, 3) := by decide +kernel
theorem dX9_law_50 : decode cX9_law 50 = .ok (.aload_n 0, 1) := by decide +kernel
theorem dX9_law_51 : decode cX9_law 51 = .ok (.iload_n 1, 1) := by decide +kernel
theorem dX9_law_52 : decode cX9_law 52 = .ok (.putfield 210, 3) := by decide +kernel
theorem dX9_law_55 : decode cX9_law 55 = .ok (.iconst 0, 1) := by decide +kernel
theorem dX9_law_56 : decode cX9_law 56 = .ok (.istore 5, 2) := by decide +kernel
theorem dX9_law_58 : decode cX9_law 58 = .ok (.iload 5, 2) := by decide +kernel
theorem dX9_law_60 : decode cX9_law 60 = .ok (.iload_n 1, 1) := by decide +kernel
theorem dX9_law_61 : decode cX9_law 61 = .ok (.if_icmp .ge 23, 3) := by decide +kernel
theorem dX9_law_64 : decode cX9_law 64 = .ok (.aload_n 0, 1) := by decide +kernel
theorem dX9_law_65 : decode cX9_law 65 = .ok (.getfield 40, 3) := by decide +kernel
theorem dX9_law_68 : decode cX9_law 68 = .ok (.iload 5, 2) := by decide +kernel
theorem dX9_law_70 : decode cX9_law 70 = .ok (.aload_n 0, 1) := by decide +kernel
theorem dX9_law_71 : decode cX9_law 71 = .ok (.getfield 29, 3) := by decide +kernel
theorem dX9_law_74 : decode cX9_law 74 = .ok (.iload 5, 2) := by decide +kernel
theorem dX9_law_76 : decode cX9_law 76 = .ok (.baload, 1) := by decide +kernel
theorem dX9_law_77 : decode cX9_law 77 = .ok (.bastore, 1) := by decide +kernel
theorem dX9_law_78 : decode cX9_law 78 = .ok (.iinc 5 1, 3) := by decide +kernel
theorem dX9_law_81 : decode cX9_law 81 = .ok (.goto (-23), 3) := by decide +kernel
theorem dX9_law_84 : decode cX9_law 84 = .ok (.aload_n 0, 1) := by decide +kernel
theorem dX9_law_85 : decode cX9_law 85 = .ok (.invokevirtual 387, 3) := by decide +kernel
theorem dX9_law_88 : decode cX9_law 88 = .ok (.istore 5, 2) := by decide +kernel
theorem dX9_law_90 : decode cX9_law 90 = .ok (.aload_n 0, 1) := by decide +kernel
theorem dX9_law_91 : decode cX9_law 91 = .ok (.aload_n 3, 1) := by decide +kernel
theorem dX9_law_92 : decode cX9_law 92 = .ok (.putfield 40, 3) := by decide +kernel
theorem dX9_law_95 : decode cX9_law 95 = .ok (.aload_n 0, 1) := by decide +kernel
theorem dX9_law_96 : decode cX9_law 96 = .ok (.iload 4, 2) := by decide +kernel
theorem dX9_law_98 : decode cX9_law 98 = .ok (.putfield 210, 3) := by decide +kernel
theorem dX9_law_101 : decode cX9_law 101 = .ok (.aload_n 0, 1) := by decide +kernel
theorem dX9_law_102 : decode cX9_law 102 = .ok (.iconst 0, 1) := by decide +kernel
theorem dX9_law_103 : decode cX9_law 103 = .ok (.putfield 110, 3) := by decide +kernel
theorem dX9_law_106 : decode cX9_law 106 = .ok (.aload_n 0, 1) := by decide +kernel
theorem dX9_law_107 : decode cX9_law 107 = .ok (.iload 5, 2) := by decide +kernel
theorem dX9_law_109 : decode cX9_law 109 = .ok (.i2l, 1) := by decide +kernel
theorem dX9_law_110 : decode cX9_law 110 = .ok (.invokevirtual 275, 3) := by decide +kernel
theorem dX9_law_113 : decode cX9_law 113 = .ok (.aload_n 0, 1) := by decide +kernel
theorem dX9_law_114 : decode cX9_law 114 = .ok (.iload_n 2, 1) := by decide +kernel
theorem dX9_law_115 : decode cX9_law 115 = .ok (.i2l, 1) := by decide +kernel
theorem dX9_law_116 : decode cX9_law 116 = .ok (.invokevirtual 275, 3) := by decide +kernel
theorem dX9_law_119 : decode cX9_law 119 = .ok (.iload 5, 2) := by decide +kernel
theorem dX9_law_121 : decode cX9_law 121 = .ok (.iload_n 2, 1) := by decide +kernel
theorem dX9_law_122 : decode cX9_law 122 = .ok (.isub, 1) := by decide +kernel
theorem dX9_law_123 : decode cX9_law 123 = .ok (.ireturn, 1) := by decide +kernel
theorem dX9_draw_0 : decode cX9_draw 0 = .ok (.aload_n 0, 1) := by decide +kernel
theorem dX9_draw_1 : decode cX9_draw 1 = .ok (.aload_n 0, 1) := by decide +kernel
theorem dX9_draw_2 : decode cX9_draw 2 = .ok (.getfield 390, 3) := by decide +kernel
theorem dX9_draw_5 : decode cX9_draw 5 = .ok (.ldc_w 393, 3) := by decide +kernel
theorem dX9_draw_8 : decode cX9_draw 8 = .ok (.imul, 1) := by decide +kernel
theorem dX9_draw_9 : decode cX9_draw 9 = .ok (.sipush 12345, 3) := by decide +kernel
theorem dX9_draw_12 : decode cX9_draw 12 = .ok (.iadd, 1) := by decide +kernel
theorem dX9_draw_13 : decode cX9_draw 13 = .ok (.putfield 390, 3) := by decide +kernel
theorem dX9_draw_16 : decode cX9_draw 16 = .ok (.aload_n 0, 1) := by decide +kernel
theorem dX9_draw_17 : decode cX9_draw 17 = .ok (.getfield 390, 3) := by decide +kernel
theorem dX9_draw_20 : decode cX9_draw 20 = .ok (.bipush 16, 2) := by decide +kernel
theorem dX9_draw_22 : decode cX9_draw 22 = .ok (.iushr, 1) := by decide +kernel
theorem dX9_draw_23 : decode cX9_draw 23 = .ok (.iload_n 1, 1) := by decide +kernel
theorem dX9_draw_24 : decode cX9_draw 24 = .ok (.irem, 1) := by decide +kernel
theorem dX9_draw_25 : decode cX9_draw 25 = .ok (.ireturn, 1) := by decide +kernel
theorem dX9_years_0 : decode cX9_years 0 = .ok (.aload_n 0, 1) := by decide +kernel
theorem dX9_years_1 : decode cX9_years 1 = .ok (.iconst 0, 1) := by decide +kernel
theorem dX9_years_2 : decode cX9_years 2 = .ok (.putfield 107, 3) := by decide +kernel
theorem dX9_years_5 : decode cX9_years 5 = .ok (.iload_n 2, 1) := by decide +kernel
theorem dX9_years_6 : decode cX9_years 6 = .ok (.iconst 1, 1) := by decide +kernel
theorem dX9_years_7 : decode cX9_years 7 = .ok (.bipush 60, 2) := by decide +kernel
theorem dX9_years_9 : decode cX9_years 9 = .ok (.invokestatic 116, 3) := by decide +kernel
theorem dX9_years_12 : decode cX9_years 12 = .ok (.ifCond .ne 5, 3) := by decide +kernel
theorem dX9_years_15 : decode cX9_years 15 = .ok (.iconst (-1), 1) := by decide +kernel
theorem dX9_years_16 : decode cX9_years 16 = .ok (.ireturn, 1) := by decide +kernel
theorem dX9_years_17 : decode cX9_years 17 = .ok (.aload_n 0, 1) := by decide +kernel
theorem dX9_years_18 : decode cX9_years 18 = .ok (.iload_n 1, 1) := by decide +kernel
theorem dX9_years_19 : decode cX9_years 19 = .ok (.putfield 390, 3) := by decide +kernel
theorem dX9_years_22 : decode cX9_years 22 = .ok (.aload_n 0, 1) := by decide +kernel
theorem dX9_years_23 : decode cX9_years 23 = .ok (.getfield 9, 3) := by decide +kernel
theorem dX9_years_26 : decode cX9_years 26 = .ok (.aload_n 0, 1) := by decide +kernel
theorem dX9_years_27 : decode cX9_years 27 = .ok (.getfield 55, 3) := by decide +kernel
theorem dX9_years_30 : decode cX9_years 30 = .ok (.iconst 0, 1) := by decide +kernel
theorem dX9_years_31 : decode cX9_years 31 = .ok (.invokestatic 248, 3) := by decide +kernel
theorem dX9_years_34 : decode cX9_years 34 = .ok (.iconst 0, 1) := by decide +kernel
theorem dX9_years_35 : decode cX9_years 35 = .ok (.istore_n 3, 1) := by decide +kernel
theorem dX9_years_36 : decode cX9_years 36 = .ok (.iload_n 3, 1) := by decide +kernel
theorem dX9_years_37 : decode cX9_years 37 = .ok (.iload_n 2, 1) := by decide +kernel
theorem dX9_years_38 : decode cX9_years 38 = .ok (.if_icmp .ge 124, 3) := by decide +kernel
theorem dX9_years_41 : decode cX9_years 41 = .ok (.aload_n 0, 1) := by decide +kernel
theorem dX9_years_42 : decode cX9_years 42 = .ok (.iconst 4, 1) := by decide +kernel
theorem dX9_years_43 : decode cX9_years 43 = .ok (.invokevirtual 394, 3) := by decide +kernel
theorem dX9_years_46 : decode cX9_years 46 = .ok (.istore 4, 2) := by decide +kernel
theorem dX9_years_48 : decode cX9_years 48 = .ok (.iload 4, 2) := by decide +kernel
theorem dX9_years_50 : decode cX9_years 50 = .ok (.iconst 2, 1) := by decide +kernel
theorem dX9_years_51 : decode cX9_years 51 = .ok (.if_icmp .ge 11, 3) := by decide +kernel
theorem dX9_years_54 : decode cX9_years 54 = .ok (.aload_n 0, 1) := by decide +kernel
theorem dX9_years_55 : decode cX9_years 55 = .ok (.aload_n 0, 1) := by decide +kernel
theorem dX9_years_56 : decode cX9_years 56 = .ok (.getfield 55, 3) := by decide +kernel
theorem dX9_years_59 : decode cX9_years 59 = .ok (.invokevirtual 265, 3) := by decide +kernel
theorem dX9_years_62 : decode cX9_years 62 = .ok (.iload 4, 2) := by decide +kernel
theorem dX9_years_64 : decode cX9_years 64 = .ok (.iconst 2, 1) := by decide +kernel
theorem dX9_years_65 : decode cX9_years 65 = .ok (.if_icmp .lt 91, 3) := by decide +kernel
theorem dX9_years_68 : decode cX9_years 68 = .ok (.aload_n 0, 1) := by decide +kernel
theorem dX9_years_69 : decode cX9_years 69 = .ok (.getfield 113, 3) := by decide +kernel
theorem dX9_years_72 : decode cX9_years 72 = .ok (.ifCond .ne 6, 3) := by decide +kernel
theorem dX9_years_75 : decode cX9_years 75 = .ok (.goto 81, 3) := by decide +kernel
theorem dX9_years_78 : decode cX9_years 78 = .ok (.aload_n 0, 1) := by decide +kernel
theorem dX9_years_79 : decode cX9_years 79 = .ok (.aload_n 0, 1) := by decide +kernel
theorem dX9_years_80 : decode cX9_years 80 = .ok (.getfield 113, 3) := by decide +kernel
theorem dX9_years_83 : decode cX9_years 83 = .ok (.invokevirtual 394, 3) := by decide +kernel
theorem dX9_years_86 : decode cX9_years 86 = .ok (.istore 5, 2) := by decide +kernel
theorem dX9_years_88 : decode cX9_years 88 = .ok (.iload 4, 2) := by decide +kernel
theorem dX9_years_90 : decode cX9_years 90 = .ok (.iconst 2, 1) := by decide +kernel
theorem dX9_years_91 : decode cX9_years 91 = .ok (.if_icmp .ne 28, 3) := by decide +kernel
theorem dX9_years_94 : decode cX9_years 94 = .ok (.aload_n 0, 1) := by decide +kernel
theorem dX9_years_95 : decode cX9_years 95 = .ok (.getfield 55, 3) := by decide +kernel
theorem dX9_years_98 : decode cX9_years 98 = .ok (.bipush 16, 2) := by decide +kernel
theorem dX9_years_100 : decode cX9_years 100 = .ok (.iload 5, 2) := by decide +kernel
theorem dX9_years_102 : decode cX9_years 102 = .ok (.iadd, 1) := by decide +kernel
theorem dX9_years_103 : decode cX9_years 103 = .ok (.iconst 1, 1) := by decide +kernel
theorem dX9_years_104 : decode cX9_years 104 = .ok (.aload_n 0, 1) := by decide +kernel
theorem dX9_years_105 : decode cX9_years 105 = .ok (.getfield 55, 3) := by decide +kernel
theorem dX9_years_108 : decode cX9_years 108 = .ok (.bipush 16, 2) := by decide +kernel
theorem dX9_years_110 : decode cX9_years 110 = .ok (.iload 5, 2) := by decide +kernel
theorem dX9_years_112 : decode cX9_years 112 = .ok (.iadd, 1) := by decide +kernel
theorem dX9_years_113 : decode cX9_years 113 = .ok (.iaload, 1) := by decide +kernel
theorem dX9_years_114 : decode cX9_years 114 = .ok (.isub, 1) := by decide +kernel
theorem dX9_years_115 : decode cX9_years 115 = .ok (.iastore, 1) := by decide +kernel
theorem dX9_years_116 : decode cX9_years 116 = .ok (.goto 40, 3) := by decide +kernel
theorem dX9_years_119 : decode cX9_years 119 = .ok (.iconst 1, 1) := by decide +kernel
theorem dX9_years_120 : decode cX9_years 120 = .ok (.aload_n 0, 1) := by decide +kernel
theorem dX9_years_121 : decode cX9_years 121 = .ok (.bipush 9, 2) := by decide +kernel
theorem dX9_years_123 : decode cX9_years 123 = .ok (.invokevirtual 394, 3) := by decide +kernel
theorem dX9_years_126 : decode cX9_years 126 = .ok (.iadd, 1) := by decide +kernel
theorem dX9_years_127 : decode cX9_years 127 = .ok (.istore 6, 2) := by decide +kernel
theorem dX9_years_129 : decode cX9_years 129 = .ok (.aload_n 0, 1) := by decide +kernel
theorem dX9_years_130 : decode cX9_years 130 = .ok (.aload_n 0, 1) := by decide +kernel
theorem dX9_years_131 : decode cX9_years 131 = .ok (.getfield 55, 3) := by decide +kernel
theorem dX9_years_134 : decode cX9_years 134 = .ok (.iload 5, 2) := by decide +kernel
theorem dX9_years_136 : decode cX9_years 136 = .ok (.iload 6, 2) := by decide +kernel
theorem dX9_years_138 : decode cX9_years 138 = .ok (.invokevirtual 279, 3) := by decide +kernel
theorem dX9_years_141 : decode cX9_years 141 = .ok (.ifCond .ne 15, 3) := by decide +kernel
theorem dX9_years_144 : decode cX9_years 144 = .ok (.aload_n 0, 1) := by decide +kernel
theorem dX9_years_145 : decode cX9_years 145 = .ok (.aload_n 0, 1) := by decide +kernel
theorem dX9_years_146 : decode cX9_years 146 = .ok (.getfield 55, 3) := by decide +kernel
theorem dX9_years_149 : decode cX9_years 149 = .ok (.iload 5, 2) := by decide +kernel
theorem dX9_years_151 : decode cX9_years 151 = .ok (.iload 6, 2) := by decide +kernel
theorem dX9_years_153 : decode cX9_years 153 = .ok (.invokevirtual 283, 3) := by decide +kernel
theorem dX9_years_156 : decode cX9_years 156 = .ok (.iinc 3 1, 3) := by decide +kernel
theorem dX9_years_159 : decode cX9_years 159 = .ok (.goto (-123), 3) := by decide +kernel
theorem dX9_years_162 : decode cX9_years 162 = .ok (.aload_n 0, 1) := by decide +kernel
theorem dX9_years_163 : decode cX9_years 163 = .ok (.iconst 0, 1) := by decide +kernel
theorem dX9_years_164 : decode cX9_years 164 = .ok (.putfield 110, 3) := by decide +kernel
theorem dX9_years_167 : decode cX9_years 167 = .ok (.aload_n 0, 1) := by decide +kernel
theorem dX9_years_168 : decode cX9_years 168 = .ok (.aload_n 0, 1) := by decide +kernel
theorem dX9_years_169 : decode cX9_years 169 = .ok (.getfield 55, 3) := by decide +kernel
theorem dX9_years_172 : decode cX9_years 172 = .ok (.bipush 25, 2) := by decide +kernel
theorem dX9_years_174 : decode cX9_years 174 = .ok (.iaload, 1) := by decide +kernel
theorem dX9_years_175 : decode cX9_years 175 = .ok (.i2l, 1) := by decide +kernel
theorem dX9_years_176 : decode cX9_years 176 = .ok (.invokevirtual 275, 3) := by decide +kernel
theorem dX9_years_179 : decode cX9_years 179 = .ok (.aload_n 0, 1) := by decide +kernel
theorem dX9_years_180 : decode cX9_years 180 = .ok (.aload_n 0, 1) := by decide +kernel
theorem dX9_years_181 : decode cX9_years 181 = .ok (.aload_n 0, 1) := by decide +kernel
theorem dX9_years_182 : decode cX9_years 182 = .ok (.getfield 55, 3) := by decide +kernel
theorem dX9_years_185 : decode cX9_years 185 = .ok (.invokevirtual 245, 3) := by decide +kernel
theorem dX9_years_188 : decode cX9_years 188 = .ok (.i2l, 1) := by decide +kernel
theorem dX9_years_189 : decode cX9_years 189 = .ok (.invokevirtual 275, 3) := by decide +kernel
theorem dX9_years_192 : decode cX9_years 192 = .ok (.aload_n 0, 1) := by decide +kernel
theorem dX9_years_193 : decode cX9_years 193 = .ok (.getfield 55, 3) := by decide +kernel
theorem dX9_years_196 : decode cX9_years 196 = .ok (.bipush 24, 2) := by decide +kernel
theorem dX9_years_198 : decode cX9_years 198 = .ok (.iaload, 1) := by decide +kernel
theorem dX9_years_199 : decode cX9_years 199 = .ok (.ireturn, 1) := by decide +kernel
theorem dX9_keep_0 : decode cX9_keep 0 = .ok (.aload_n 0, 1) := by decide +kernel
theorem dX9_keep_1 : decode cX9_keep 1 = .ok (.iconst 0, 1) := by decide +kernel
theorem dX9_keep_2 : decode cX9_keep 2 = .ok (.putfield 107, 3) := by decide +kernel
theorem dX9_keep_5 : decode cX9_keep 5 = .ok (.iload_n 1, 1) := by decide +kernel
theorem dX9_keep_6 : decode cX9_keep 6 = .ok (.iconst 0, 1) := by decide +kernel
theorem dX9_keep_7 : decode cX9_keep 7 = .ok (.iconst 1, 1) := by decide +kernel
theorem dX9_keep_8 : decode cX9_keep 8 = .ok (.invokestatic 116, 3) := by decide +kernel
theorem dX9_keep_11 : decode cX9_keep 11 = .ok (.ifCond .ne 5, 3) := by decide +kernel
theorem dX9_keep_14 : decode cX9_keep 14 = .ok (.iconst 0, 1) := by decide +kernel
theorem dX9_keep_15 : decode cX9_keep 15 = .ok (.ireturn, 1) := by decide +kernel
theorem dX9_keep_16 : decode cX9_keep 16 = .ok (.aload_n 0, 1) := by decide +kernel
theorem dX9_keep_17 : decode cX9_keep 17 = .ok (.getfield 100, 3) := by decide +kernel
theorem dX9_keep_20 : decode cX9_keep 20 = .ok (.iload_n 1, 1) := by decide +kernel
theorem dX9_keep_21 : decode cX9_keep 21 = .ok (.iconst 1, 1) := by decide +kernel
theorem dX9_keep_22 : decode cX9_keep 22 = .ok (.bastore, 1) := by decide +kernel
theorem dX9_keep_23 : decode cX9_keep 23 = .ok (.aload_n 0, 1) := by decide +kernel
theorem dX9_keep_24 : decode cX9_keep 24 = .ok (.getfield 104, 3) := by decide +kernel
theorem dX9_keep_27 : decode cX9_keep 27 = .ok (.iload_n 1, 1) := by decide +kernel
theorem dX9_keep_28 : decode cX9_keep 28 = .ok (.aload_n 0, 1) := by decide +kernel
theorem dX9_keep_29 : decode cX9_keep 29 = .ok (.getfield 178, 3) := by decide +kernel
theorem dX9_keep_32 : decode cX9_keep 32 = .ok (.iastore, 1) := by decide +kernel
theorem dX9_keep_33 : decode cX9_keep 33 = .ok (.aload_n 0, 1) := by decide +kernel
theorem dX9_keep_34 : decode cX9_keep 34 = .ok (.getfield 9, 3) := by decide +kernel
theorem dX9_keep_37 : decode cX9_keep 37 = .ok (.aload_n 0, 1) := by decide +kernel
theorem dX9_keep_38 : decode cX9_keep 38 = .ok (.getfield 97, 3) := by decide +kernel
theorem dX9_keep_41 : decode cX9_keep 41 = .ok (.bipush 29, 2) := by decide +kernel
theorem dX9_keep_43 : decode cX9_keep 43 = .ok (.iload_n 1, 1) := by decide +kernel
theorem dX9_keep_44 : decode cX9_keep 44 = .ok (.imul, 1) := by decide +kernel
theorem dX9_keep_45 : decode cX9_keep 45 = .ok (.invokestatic 248, 3) := by decide +kernel
theorem dX9_keep_48 : decode cX9_keep 48 = .ok (.iconst 1, 1) := by decide +kernel
theorem dX9_keep_49 : decode cX9_keep 49 = .ok (.ireturn, 1) := by decide +kernel
theorem dX9_again_0 : decode cX9_again 0 = .ok (.aload_n 0, 1) := by decide +kernel
theorem dX9_again_1 : decode cX9_again 1 = .ok (.iconst 0, 1) := by decide +kernel
theorem dX9_again_2 : decode cX9_again 2 = .ok (.putfield 107, 3) := by decide +kernel
theorem dX9_again_5 : decode cX9_again 5 = .ok (.iload_n 1, 1) := by decide +kernel
theorem dX9_again_6 : decode cX9_again 6 = .ok (.iconst 0, 1) := by decide +kernel
theorem dX9_again_7 : decode cX9_again 7 = .ok (.iconst 1, 1) := by decide +kernel
theorem dX9_again_8 : decode cX9_again 8 = .ok (.invokestatic 116, 3) := by decide +kernel
theorem dX9_again_11 : decode cX9_again 11 = .ok (.ifCond .eq 25, 3) := by decide +kernel
theorem dX9_again_14 : decode cX9_again 14 = .ok (.aload_n 0, 1) := by decide +kernel
theorem dX9_again_15 : decode cX9_again 15 = .ok (.getfield 100, 3) := by decide +kernel
theorem dX9_again_18 : decode cX9_again 18 = .ok (.iload_n 1, 1) := by decide +kernel
theorem dX9_again_19 : decode cX9_again 19 = .ok (.baload, 1) := by decide +kernel
theorem dX9_again_20 : decode cX9_again 20 = .ok (.ifCond .eq 16, 3) := by decide +kernel
theorem dX9_again_23 : decode cX9_again 23 = .ok (.aload_n 0, 1) := by decide +kernel
theorem dX9_again_24 : decode cX9_again 24 = .ok (.getfield 104, 3) := by decide +kernel
theorem dX9_again_27 : decode cX9_again 27 = .ok (.iload_n 1, 1) := by decide +kernel
theorem dX9_again_28 : decode cX9_again 28 = .ok (.iaload, 1) := by decide +kernel
theorem dX9_again_29 : decode cX9_again 29 = .ok (.aload_n 0, 1) := by decide +kernel
theorem dX9_again_30 : decode cX9_again 30 = .ok (.getfield 178, 3) := by decide +kernel
theorem dX9_again_33 : decode cX9_again 33 = .ok (.if_icmp .eq 5, 3) := by decide +kernel
theorem dX9_again_36 : decode cX9_again 36 = .ok (.iconst 0, 1) := by decide +kernel
theorem dX9_again_37 : decode cX9_again 37 = .ok (.ireturn, 1) := by decide +kernel
theorem dX9_again_38 : decode cX9_again 38 = .ok (.iconst 0, 1) := by decide +kernel
theorem dX9_again_39 : decode cX9_again 39 = .ok (.istore_n 2, 1) := by decide +kernel
theorem dX9_again_40 : decode cX9_again 40 = .ok (.iload_n 2, 1) := by decide +kernel
theorem dX9_again_41 : decode cX9_again 41 = .ok (.bipush 29, 2) := by decide +kernel
theorem dX9_again_43 : decode cX9_again 43 = .ok (.if_icmp .ge 26, 3) := by decide +kernel
theorem dX9_again_46 : decode cX9_again 46 = .ok (.aload_n 0, 1) := by decide +kernel
theorem dX9_again_47 : decode cX9_again 47 = .ok (.getfield 9, 3) := by decide +kernel
theorem dX9_again_50 : decode cX9_again 50 = .ok (.iload_n 2, 1) := by decide +kernel
theorem dX9_again_51 : decode cX9_again 51 = .ok (.aload_n 0, 1) := by decide +kernel
theorem dX9_again_52 : decode cX9_again 52 = .ok (.getfield 97, 3) := by decide +kernel
theorem dX9_again_55 : decode cX9_again 55 = .ok (.bipush 29, 2) := by decide +kernel
theorem dX9_again_57 : decode cX9_again 57 = .ok (.iload_n 1, 1) := by decide +kernel
theorem dX9_again_58 : decode cX9_again 58 = .ok (.imul, 1) := by decide +kernel
theorem dX9_again_59 : decode cX9_again 59 = .ok (.iload_n 2, 1) := by decide +kernel
theorem dX9_again_60 : decode cX9_again 60 = .ok (.iadd, 1) := by decide +kernel
theorem dX9_again_61 : decode cX9_again 61 = .ok (.iaload, 1) := by decide +kernel
theorem dX9_again_62 : decode cX9_again 62 = .ok (.iastore, 1) := by decide +kernel
theorem dX9_again_63 : decode cX9_again 63 = .ok (.iinc 2 1, 3) := by decide +kernel
theorem dX9_again_66 : decode cX9_again 66 = .ok (.goto (-26), 3) := by decide +kernel
theorem dX9_again_69 : decode cX9_again 69 = .ok (.aload_n 0, 1) := by decide +kernel
theorem dX9_again_70 : decode cX9_again 70 = .ok (.iconst 0, 1) := by decide +kernel
theorem dX9_again_71 : decode cX9_again 71 = .ok (.putfield 175, 3) := by decide +kernel
theorem dX9_again_74 : decode cX9_again 74 = .ok (.iconst 1, 1) := by decide +kernel
theorem dX9_again_75 : decode cX9_again 75 = .ok (.ireturn, 1) := by decide +kernel
theorem dX9_surcharged_0 : decode cX9_surcharged 0 = .ok (.iconst 0, 1) := by decide +kernel
theorem dX9_surcharged_1 : decode cX9_surcharged 1 = .ok (.istore_n 1, 1) := by decide +kernel
theorem dX9_surcharged_2 : decode cX9_surcharged 2 = .ok (.iconst 0, 1) := by decide +kernel
theorem dX9_surcharged_3 : decode cX9_surcharged 3 = .ok (.istore_n 2, 1) := by decide +kernel
theorem dX9_surcharged_4 : decode cX9_surcharged 4 = .ok (.iload_n 2, 1) := by decide +kernel
theorem dX9_surcharged_5 : decode cX9_surcharged 5 = .ok (.aload_n 0, 1) := by decide +kernel
theorem dX9_surcharged_6 : decode cX9_surcharged 6 = .ok (.getfield 113, 3) := by decide +kernel
theorem dX9_surcharged_9 : decode cX9_surcharged 9 = .ok (.if_icmp .ge 21, 3) := by decide +kernel
theorem dX9_surcharged_12 : decode cX9_surcharged 12 = .ok (.iload_n 1, 1) := by decide +kernel
theorem dX9_surcharged_13 : decode cX9_surcharged 13 = .ok (.aload_n 0, 1) := by decide +kernel
theorem dX9_surcharged_14 : decode cX9_surcharged 14 = .ok (.getfield 9, 3) := by decide +kernel
theorem dX9_surcharged_17 : decode cX9_surcharged 17 = .ok (.bipush 8, 2) := by decide +kernel
theorem dX9_surcharged_19 : decode cX9_surcharged 19 = .ok (.iload_n 2, 1) := by decide +kernel
theorem dX9_surcharged_20 : decode cX9_surcharged 20 = .ok (.iadd, 1) := by decide +kernel
theorem dX9_surcharged_21 : decode cX9_surcharged 21 = .ok (.iaload, 1) := by decide +kernel
theorem dX9_surcharged_22 : decode cX9_surcharged 22 = .ok (.iadd, 1) := by decide +kernel
theorem dX9_surcharged_23 : decode cX9_surcharged 23 = .ok (.istore_n 1, 1) := by decide +kernel
theorem dX9_surcharged_24 : decode cX9_surcharged 24 = .ok (.iinc 2 1, 3) := by decide +kernel
theorem dX9_surcharged_27 : decode cX9_surcharged 27 = .ok (.goto (-23), 3) := by decide +kernel
theorem dX9_surcharged_30 : decode cX9_surcharged 30 = .ok (.iload_n 1, 1) := by decide +kernel
theorem dX9_surcharged_31 : decode cX9_surcharged 31 = .ok (.ireturn, 1) := by decide +kernel
theorem dX9_count_0 : decode cX9_count 0 = .ok (.aload_n 0, 1) := by decide +kernel
theorem dX9_count_1 : decode cX9_count 1 = .ok (.iconst 0, 1) := by decide +kernel
theorem dX9_count_2 : decode cX9_count 2 = .ok (.putfield 107, 3) := by decide +kernel
theorem dX9_count_5 : decode cX9_count 5 = .ok (.iload_n 1, 1) := by decide +kernel
theorem dX9_count_6 : decode cX9_count 6 = .ok (.tableswitch 175 0 14 #[74, 79, 84, 92, 100, 108, 116, 127, 136, 145, 150, 155, 160, 165, 170], 74) := by decide +kernel
theorem dX9_count_80 : decode cX9_count 80 = .ok (.aload_n 0, 1) := by decide +kernel
theorem dX9_count_81 : decode cX9_count 81 = .ok (.getfield 25, 3) := by decide +kernel
theorem dX9_count_84 : decode cX9_count 84 = .ok (.ireturn, 1) := by decide +kernel
theorem dX9_count_85 : decode cX9_count 85 = .ok (.aload_n 0, 1) := by decide +kernel
theorem dX9_count_86 : decode cX9_count 86 = .ok (.getfield 113, 3) := by decide +kernel
theorem dX9_count_89 : decode cX9_count 89 = .ok (.ireturn, 1) := by decide +kernel
theorem dX9_count_90 : decode cX9_count 90 = .ok (.aload_n 0, 1) := by decide +kernel
theorem dX9_count_91 : decode cX9_count 91 = .ok (.getfield 9, 3) := by decide +kernel
theorem dX9_count_94 : decode cX9_count 94 = .ok (.bipush 28, 2) := by decide +kernel
theorem dX9_count_96 : decode cX9_count 96 = .ok (.iaload, 1) := by decide +kernel
theorem dX9_count_97 : decode cX9_count 97 = .ok (.ireturn, 1) := by decide +kernel
theorem dX9_count_98 : decode cX9_count 98 = .ok (.aload_n 0, 1) := by decide +kernel
theorem dX9_count_99 : decode cX9_count 99 = .ok (.getfield 9, 3) := by decide +kernel
theorem dX9_count_102 : decode cX9_count 102 = .ok (.bipush 24, 2) := by decide +kernel
theorem dX9_count_104 : decode cX9_count 104 = .ok (.iaload, 1) := by decide +kernel
theorem dX9_count_105 : decode cX9_count 105 = .ok (.ireturn, 1) := by decide +kernel
theorem dX9_count_106 : decode cX9_count 106 = .ok (.aload_n 0, 1) := by decide +kernel
theorem dX9_count_107 : decode cX9_count 107 = .ok (.getfield 9, 3) := by decide +kernel
theorem dX9_count_110 : decode cX9_count 110 = .ok (.bipush 25, 2) := by decide +kernel
theorem dX9_count_112 : decode cX9_count 112 = .ok (.iaload, 1) := by decide +kernel
theorem dX9_count_113 : decode cX9_count 113 = .ok (.ireturn, 1) := by decide +kernel
theorem dX9_count_114 : decode cX9_count 114 = .ok (.aload_n 0, 1) := by decide +kernel
theorem dX9_count_115 : decode cX9_count 115 = .ok (.getfield 9, 3) := by decide +kernel
theorem dX9_count_118 : decode cX9_count 118 = .ok (.bipush 26, 2) := by decide +kernel
theorem dX9_count_120 : decode cX9_count 120 = .ok (.iaload, 1) := by decide +kernel
theorem dX9_count_121 : decode cX9_count 121 = .ok (.ireturn, 1) := by decide +kernel
theorem dX9_count_122 : decode cX9_count 122 = .ok (.bipush 10, 2) := by decide +kernel
theorem dX9_count_124 : decode cX9_count 124 = .ok (.aload_n 0, 1) := by decide +kernel
theorem dX9_count_125 : decode cX9_count 125 = .ok (.getfield 9, 3) := by decide +kernel
theorem dX9_count_128 : decode cX9_count 128 = .ok (.bipush 27, 2) := by decide +kernel
theorem dX9_count_130 : decode cX9_count 130 = .ok (.iaload, 1) := by decide +kernel
theorem dX9_count_131 : decode cX9_count 131 = .ok (.iadd, 1) := by decide +kernel
theorem dX9_count_132 : decode cX9_count 132 = .ok (.ireturn, 1) := by decide +kernel
theorem dX9_count_133 : decode cX9_count 133 = .ok (.aload_n 0, 1) := by decide +kernel
theorem dX9_count_134 : decode cX9_count 134 = .ok (.aload_n 0, 1) := by decide +kernel
theorem dX9_count_135 : decode cX9_count 135 = .ok (.getfield 9, 3) := by decide +kernel
theorem dX9_count_138 : decode cX9_count 138 = .ok (.invokevirtual 216, 3) := by decide +kernel
theorem dX9_count_141 : decode cX9_count 141 = .ok (.ireturn, 1) := by decide +kernel
theorem dX9_count_142 : decode cX9_count 142 = .ok (.aload_n 0, 1) := by decide +kernel
theorem dX9_count_143 : decode cX9_count 143 = .ok (.aload_n 0, 1) := by decide +kernel
theorem dX9_count_144 : decode cX9_count 144 = .ok (.getfield 9, 3) := by decide +kernel
theorem dX9_count_147 : decode cX9_count 147 = .ok (.invokevirtual 245, 3) := by decide +kernel
theorem dX9_count_150 : decode cX9_count 150 = .ok (.ireturn, 1) := by decide +kernel
theorem dX9_count_151 : decode cX9_count 151 = .ok (.aload_n 0, 1) := by decide +kernel
theorem dX9_count_152 : decode cX9_count 152 = .ok (.invokevirtual 397, 3) := by decide +kernel
theorem dX9_count_155 : decode cX9_count 155 = .ok (.ireturn, 1) := by decide +kernel
theorem dX9_count_156 : decode cX9_count 156 = .ok (.aload_n 0, 1) := by decide +kernel
theorem dX9_count_157 : decode cX9_count 157 = .ok (.getfield 348, 3) := by decide +kernel
theorem dX9_count_160 : decode cX9_count 160 = .ok (.ireturn, 1) := by decide +kernel
theorem dX9_count_161 : decode cX9_count 161 = .ok (.aload_n 0, 1) := by decide +kernel
theorem dX9_count_162 : decode cX9_count 162 = .ok (.getfield 370, 3) := by decide +kernel
theorem dX9_count_165 : decode cX9_count 165 = .ok (.ireturn, 1) := by decide +kernel
theorem dX9_count_166 : decode cX9_count 166 = .ok (.aload_n 0, 1) := by decide +kernel
theorem dX9_count_167 : decode cX9_count 167 = .ok (.getfield 175, 3) := by decide +kernel
theorem dX9_count_170 : decode cX9_count 170 = .ok (.ireturn, 1) := by decide +kernel
theorem dX9_count_171 : decode cX9_count 171 = .ok (.aload_n 0, 1) := by decide +kernel
theorem dX9_count_172 : decode cX9_count 172 = .ok (.getfield 110, 3) := by decide +kernel
theorem dX9_count_175 : decode cX9_count 175 = .ok (.ireturn, 1) := by decide +kernel
theorem dX9_count_176 : decode cX9_count 176 = .ok (.aload_n 0, 1) := by decide +kernel
theorem dX9_count_177 : decode cX9_count 177 = .ok (.getfield 120, 3) := by decide +kernel
theorem dX9_count_180 : decode cX9_count 180 = .ok (.ireturn, 1) := by decide +kernel
theorem dX9_count_181 : decode cX9_count 181 = .ok (.iconst (-1), 1) := by decide +kernel
theorem dX9_count_182 : decode cX9_count 182 = .ok (.ireturn, 1) := by decide +kernel
theorem dX9_row_0 : decode cX9_row 0 = .ok (.aload_n 0, 1) := by decide +kernel
theorem dX9_row_1 : decode cX9_row 1 = .ok (.iconst 0, 1) := by decide +kernel
theorem dX9_row_2 : decode cX9_row 2 = .ok (.putfield 107, 3) := by decide +kernel
theorem dX9_row_5 : decode cX9_row 5 = .ok (.iload_n 1, 1) := by decide +kernel
theorem dX9_row_6 : decode cX9_row 6 = .ok (.iconst 0, 1) := by decide +kernel
theorem dX9_row_7 : decode cX9_row 7 = .ok (.aload_n 0, 1) := by decide +kernel
theorem dX9_row_8 : decode cX9_row 8 = .ok (.getfield 110, 3) := by decide +kernel
theorem dX9_row_11 : decode cX9_row 11 = .ok (.iconst 1, 1) := by decide +kernel
theorem dX9_row_12 : decode cX9_row 12 = .ok (.isub, 1) := by decide +kernel
theorem dX9_row_13 : decode cX9_row 13 = .ok (.invokestatic 116, 3) := by decide +kernel
theorem dX9_row_16 : decode cX9_row 16 = .ok (.ifCond .eq 12, 3) := by decide +kernel
theorem dX9_row_19 : decode cX9_row 19 = .ok (.aload_n 0, 1) := by decide +kernel
theorem dX9_row_20 : decode cX9_row 20 = .ok (.getfield 33, 3) := by decide +kernel
theorem dX9_row_23 : decode cX9_row 23 = .ok (.iload_n 1, 1) := by decide +kernel
theorem dX9_row_24 : decode cX9_row 24 = .ok (.laload, 1) := by decide +kernel
theorem dX9_row_25 : decode cX9_row 25 = .ok (.goto 8, 3) := by decide +kernel
theorem dX9_row_28 : decode cX9_row 28 = .ok (.aload_n 0, 1) := by decide +kernel
theorem dX9_row_29 : decode cX9_row 29 = .ok (.invokevirtual 238, 3) := by decide +kernel
theorem dX9_row_32 : decode cX9_row 32 = .ok (.i2l, 1) := by decide +kernel
theorem dX9_row_33 : decode cX9_row 33 = .ok (.lreturn, 1) := by decide +kernel
