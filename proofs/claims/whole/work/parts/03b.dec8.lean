theorem dX8_init_0 : decode cX8_init 0 = .ok (.aload_n 0, 1) := by decide +kernel
theorem dX8_init_1 : decode cX8_init 1 = .ok (.invokespecial 1, 3) := by decide +kernel
theorem dX8_init_4 : decode cX8_init 4 = .ok (.aload_n 0, 1) := by decide +kernel
theorem dX8_init_5 : decode cX8_init 5 = .ok (.new 7, 3) := by decide +kernel
theorem dX8_init_8 : decode cX8_init 8 = .ok (.dup, 1) := by decide +kernel
theorem dX8_init_9 : decode cX8_init 9 = .ok (.invokespecial 9, 3) := by decide +kernel
theorem dX8_init_12 : decode cX8_init 12 = .ok (.putfield 10, 3) := by decide +kernel
theorem dX8_init_15 : decode cX8_init 15 = .ok (.aload_n 0, 1) := by decide +kernel
theorem dX8_init_16 : decode cX8_init 16 = .ok (.new 16, 3) := by decide +kernel
theorem dX8_init_19 : decode cX8_init 19 = .ok (.dup, 1) := by decide +kernel
theorem dX8_init_20 : decode cX8_init 20 = .ok (.invokespecial 18, 3) := by decide +kernel
theorem dX8_init_23 : decode cX8_init 23 = .ok (.putfield 19, 3) := by decide +kernel
theorem dX8_init_26 : decode cX8_init 26 = .ok (.aload_n 0, 1) := by decide +kernel
theorem dX8_init_27 : decode cX8_init 27 = .ok (.new 23, 3) := by decide +kernel
theorem dX8_init_30 : decode cX8_init 30 = .ok (.dup, 1) := by decide +kernel
theorem dX8_init_31 : decode cX8_init 31 = .ok (.invokespecial 25, 3) := by decide +kernel
theorem dX8_init_34 : decode cX8_init 34 = .ok (.putfield 26, 3) := by decide +kernel
theorem dX8_init_37 : decode cX8_init 37 = .ok (.aload_n 0, 1) := by decide +kernel
theorem dX8_init_38 : decode cX8_init 38 = .ok (.new 30, 3) := by decide +kernel
theorem dX8_init_41 : decode cX8_init 41 = .ok (.dup, 1) := by decide +kernel
theorem dX8_init_42 : decode cX8_init 42 = .ok (.invokespecial 32, 3) := by decide +kernel
theorem dX8_init_45 : decode cX8_init 45 = .ok (.putfield 33, 3) := by decide +kernel
theorem dX8_init_48 : decode cX8_init 48 = .ok (.aload_n 0, 1) := by decide +kernel
theorem dX8_init_49 : decode cX8_init 49 = .ok (.new 30, 3) := by decide +kernel
theorem dX8_init_52 : decode cX8_init 52 = .ok (.dup, 1) := by decide +kernel
theorem dX8_init_53 : decode cX8_init 53 = .ok (.invokespecial 32, 3) := by decide +kernel
theorem dX8_init_56 : decode cX8_init 56 = .ok (.putfield 37, 3) := by decide +kernel
theorem dX8_init_59 : decode cX8_init 59 = .ok (.aload_n 0, 1) := by decide +kernel
theorem dX8_init_60 : decode cX8_init 60 = .ok (.new 30, 3) := by decide +kernel
theorem dX8_init_63 : decode cX8_init 63 = .ok (.dup, 1) := by decide +kernel
theorem dX8_init_64 : decode cX8_init 64 = .ok (.invokespecial 32, 3) := by decide +kernel
theorem dX8_init_67 : decode cX8_init 67 = .ok (.putfield 40, 3) := by decide +kernel
theorem dX8_init_70 : decode cX8_init 70 = .ok (.aload_n 0, 1) := by decide +kernel
theorem dX8_init_71 : decode cX8_init 71 = .ok (.new 43, 3) := by decide +kernel
theorem dX8_init_74 : decode cX8_init 74 = .ok (.dup, 1) := by decide +kernel
theorem dX8_init_75 : decode cX8_init 75 = .ok (.invokespecial 45, 3) := by decide +kernel
theorem dX8_init_78 : decode cX8_init 78 = .ok (.putfield 46, 3) := by decide +kernel
theorem dX8_init_81 : decode cX8_init 81 = .ok (.aload_n 0, 1) := by decide +kernel
theorem dX8_init_82 : decode cX8_init 82 = .ok (.iconst 2, 1) := by decide +kernel
theorem dX8_init_83 : decode cX8_init 83 = .ok (.anewarray 30, 3) := by decide +kernel
theorem dX8_init_86 : decode cX8_init 86 = .ok (.putfield 50, 3) := by decide +kernel
theorem dX8_init_89 : decode cX8_init 89 = .ok (.aload_n 0, 1) := by decide +kernel
theorem dX8_init_90 : decode cX8_init 90 = .ok (.iconst 2, 1) := by decide +kernel
theorem dX8_init_91 : decode cX8_init 91 = .ok (.newarray .int, 2) := by decide +kernel
theorem dX8_init_93 : decode cX8_init 93 = .ok (.putfield 54, 3) := by decide +kernel
theorem dX8_init_96 : decode cX8_init 96 = .ok (.aload_n 0, 1) := by decide +kernel
theorem dX8_init_97 : decode cX8_init 97 = .ok (.new 58, 3) := by decide +kernel
theorem dX8_init_100 : decode cX8_init 100 = .ok (.dup, 1) := by decide +kernel
theorem dX8_init_101 : decode cX8_init 101 = .ok (.invokespecial 60, 3) := by decide +kernel
theorem dX8_init_104 : decode cX8_init 104 = .ok (.putfield 61, 3) := by decide +kernel
theorem dX8_init_107 : decode cX8_init 107 = .ok (.aload_n 0, 1) := by decide +kernel
theorem dX8_init_108 : decode cX8_init 108 = .ok (.new 58, 3) := by decide +kernel
theorem dX8_init_111 : decode cX8_init 111 = .ok (.dup, 1) := by decide +kernel
theorem dX8_init_112 : decode cX8_init 112 = .ok (.invokespecial 60, 3) := by decide +kernel
theorem dX8_init_115 : decode cX8_init 115 = .ok (.putfield 65, 3) := by decide +kernel
theorem dX8_init_118 : decode cX8_init 118 = .ok (.aload_n 0, 1) := by decide +kernel
theorem dX8_init_119 : decode cX8_init 119 = .ok (.new 68, 3) := by decide +kernel
theorem dX8_init_122 : decode cX8_init 122 = .ok (.dup, 1) := by decide +kernel
theorem dX8_init_123 : decode cX8_init 123 = .ok (.iconst 0, 1) := by decide +kernel
theorem dX8_init_124 : decode cX8_init 124 = .ok (.invokespecial 70, 3) := by decide +kernel
theorem dX8_init_127 : decode cX8_init 127 = .ok (.putfield 73, 3) := by decide +kernel
theorem dX8_init_130 : decode cX8_init 130 = .ok (.aload_n 0, 1) := by decide +kernel
theorem dX8_init_131 : decode cX8_init 131 = .ok (.new 68, 3) := by decide +kernel
theorem dX8_init_134 : decode cX8_init 134 = .ok (.dup, 1) := by decide +kernel
theorem dX8_init_135 : decode cX8_init 135 = .ok (.bipush 9, 2) := by decide +kernel
theorem dX8_init_137 : decode cX8_init 137 = .ok (.invokespecial 70, 3) := by decide +kernel
theorem dX8_init_140 : decode cX8_init 140 = .ok (.putfield 77, 3) := by decide +kernel
theorem dX8_init_143 : decode cX8_init 143 = .ok (.aload_n 0, 1) := by decide +kernel
theorem dX8_init_144 : decode cX8_init 144 = .ok (.bipush 8, 2) := by decide +kernel
theorem dX8_init_146 : decode cX8_init 146 = .ok (.newarray .int, 2) := by decide +kernel
theorem dX8_init_148 : decode cX8_init 148 = .ok (.putfield 80, 3) := by decide +kernel
theorem dX8_init_151 : decode cX8_init 151 = .ok (.aload_n 0, 1) := by decide +kernel
theorem dX8_init_152 : decode cX8_init 152 = .ok (.bipush 91, 2) := by decide +kernel
theorem dX8_init_154 : decode cX8_init 154 = .ok (.newarray .long, 2) := by decide +kernel
theorem dX8_init_156 : decode cX8_init 156 = .ok (.putfield 83, 3) := by decide +kernel
theorem dX8_init_159 : decode cX8_init 159 = .ok (.aload_n 0, 1) := by decide +kernel
theorem dX8_init_160 : decode cX8_init 160 = .ok (.bipush 21, 2) := by decide +kernel
theorem dX8_init_162 : decode cX8_init 162 = .ok (.newarray .long, 2) := by decide +kernel
theorem dX8_init_164 : decode cX8_init 164 = .ok (.putfield 87, 3) := by decide +kernel
theorem dX8_init_167 : decode cX8_init 167 = .ok (.aload_n 0, 1) := by decide +kernel
theorem dX8_init_168 : decode cX8_init 168 = .ok (.bipush 21, 2) := by decide +kernel
theorem dX8_init_170 : decode cX8_init 170 = .ok (.newarray .long, 2) := by decide +kernel
theorem dX8_init_172 : decode cX8_init 172 = .ok (.putfield 90, 3) := by decide +kernel
theorem dX8_init_175 : decode cX8_init 175 = .ok (.aload_n 0, 1) := by decide +kernel
theorem dX8_init_176 : decode cX8_init 176 = .ok (.bipush 61, 2) := by decide +kernel
theorem dX8_init_178 : decode cX8_init 178 = .ok (.newarray .int, 2) := by decide +kernel
theorem dX8_init_180 : decode cX8_init 180 = .ok (.putfield 93, 3) := by decide +kernel
theorem dX8_init_183 : decode cX8_init 183 = .ok (.aload_n 0, 1) := by decide +kernel
theorem dX8_init_184 : decode cX8_init 184 = .ok (.new 96, 3) := by decide +kernel
theorem dX8_init_187 : decode cX8_init 187 = .ok (.dup, 1) := by decide +kernel
theorem dX8_init_188 : decode cX8_init 188 = .ok (.invokespecial 98, 3) := by decide +kernel
theorem dX8_init_191 : decode cX8_init 191 = .ok (.putfield 99, 3) := by decide +kernel
theorem dX8_init_194 : decode cX8_init 194 = .ok (.iconst 0, 1) := by decide +kernel
theorem dX8_init_195 : decode cX8_init 195 = .ok (.istore_n 1, 1) := by decide +kernel
theorem dX8_init_196 : decode cX8_init 196 = .ok (.iload_n 1, 1) := by decide +kernel
theorem dX8_init_197 : decode cX8_init 197 = .ok (.iconst 2, 1) := by decide +kernel
theorem dX8_init_198 : decode cX8_init 198 = .ok (.if_icmp .ge 29, 3) := by decide +kernel
theorem dX8_init_201 : decode cX8_init 201 = .ok (.aload_n 0, 1) := by decide +kernel
theorem dX8_init_202 : decode cX8_init 202 = .ok (.getfield 50, 3) := by decide +kernel
theorem dX8_init_205 : decode cX8_init 205 = .ok (.iload_n 1, 1) := by decide +kernel
theorem dX8_init_206 : decode cX8_init 206 = .ok (.new 30, 3) := by decide +kernel
theorem dX8_init_209 : decode cX8_init 209 = .ok (.dup, 1) := by decide +kernel
theorem dX8_init_210 : decode cX8_init 210 = .ok (.invokespecial 32, 3) := by decide +kernel
theorem dX8_init_213 : decode cX8_init 213 = .ok (.aastore, 1) := by decide +kernel
theorem dX8_init_214 : decode cX8_init 214 = .ok (.aload_n 0, 1) := by decide +kernel
theorem dX8_init_215 : decode cX8_init 215 = .ok (.getfield 54, 3) := by decide +kernel
theorem dX8_init_218 : decode cX8_init 218 = .ok (.iload_n 1, 1) := by decide +kernel
theorem dX8_init_219 : decode cX8_init 219 = .ok (.iconst (-1), 1) := by decide +kernel
theorem dX8_init_220 : decode cX8_init 220 = .ok (.iastore, 1) := by decide +kernel
theorem dX8_init_221 : decode cX8_init 221 = .ok (.iinc 1 1, 3) := by decide +kernel
theorem dX8_init_224 : decode cX8_init 224 = .ok (.goto (-28), 3) := by decide +kernel
theorem dX8_init_227 : decode cX8_init 227 = .ok (.return_, 1) := by decide +kernel
theorem dX8_sign_0 : decode cX8_sign 0 = .ok (.aload_n 0, 1) := by decide +kernel
theorem dX8_sign_1 : decode cX8_sign 1 = .ok (.getfield 10, 3) := by decide +kernel
theorem dX8_sign_4 : decode cX8_sign 4 = .ok (.iload_n 1, 1) := by decide +kernel
theorem dX8_sign_5 : decode cX8_sign 5 = .ok (.invokevirtual 103, 3) := by decide +kernel
theorem dX8_sign_8 : decode cX8_sign 8 = .ok (.ifCond .eq 13, 3) := by decide +kernel
theorem dX8_sign_11 : decode cX8_sign 11 = .ok (.aload_n 0, 1) := by decide +kernel
theorem dX8_sign_12 : decode cX8_sign 12 = .ok (.getfield 10, 3) := by decide +kernel
theorem dX8_sign_15 : decode cX8_sign 15 = .ok (.getfield 107, 3) := by decide +kernel
theorem dX8_sign_18 : decode cX8_sign 18 = .ok (.goto 4, 3) := by decide +kernel
theorem dX8_sign_21 : decode cX8_sign 21 = .ok (.iconst (-1), 1) := by decide +kernel
theorem dX8_sign_22 : decode cX8_sign 22 = .ok (.ireturn, 1) := by decide +kernel
theorem dX8_end_0 : decode cX8_end 0 = .ok (.iload_n 1, 1) := by decide +kernel
theorem dX8_end_1 : decode cX8_end 1 = .ok (.ifCond .lt 14, 3) := by decide +kernel
theorem dX8_end_4 : decode cX8_end 4 = .ok (.iload_n 1, 1) := by decide +kernel
theorem dX8_end_5 : decode cX8_end 5 = .ok (.aload_n 0, 1) := by decide +kernel
theorem dX8_end_6 : decode cX8_end 6 = .ok (.getfield 10, 3) := by decide +kernel
theorem dX8_end_9 : decode cX8_end 9 = .ok (.getfield 107, 3) := by decide +kernel
theorem dX8_end_12 : decode cX8_end 12 = .ok (.if_icmp .le 5, 3) := by decide +kernel
theorem dX8_end_15 : decode cX8_end 15 = .ok (.iconst 0, 1) := by decide +kernel
theorem dX8_end_16 : decode cX8_end 16 = .ok (.ireturn, 1) := by decide +kernel
theorem dX8_end_17 : decode cX8_end 17 = .ok (.aload_n 0, 1) := by decide +kernel
theorem dX8_end_18 : decode cX8_end 18 = .ok (.getfield 10, 3) := by decide +kernel
theorem dX8_end_21 : decode cX8_end 21 = .ok (.iload_n 1, 1) := by decide +kernel
theorem dX8_end_22 : decode cX8_end 22 = .ok (.putfield 107, 3) := by decide +kernel
theorem dX8_end_25 : decode cX8_end 25 = .ok (.iconst 1, 1) := by decide +kernel
theorem dX8_end_26 : decode cX8_end 26 = .ok (.ireturn, 1) := by decide +kernel
theorem dX8_songs_0 : decode cX8_songs 0 = .ok (.aload_n 0, 1) := by decide +kernel
theorem dX8_songs_1 : decode cX8_songs 1 = .ok (.invokevirtual 111, 3) := by decide +kernel
theorem dX8_songs_4 : decode cX8_songs 4 = .ok (.istore_n 1, 1) := by decide +kernel
theorem dX8_songs_5 : decode cX8_songs 5 = .ok (.iconst (-1), 1) := by decide +kernel
theorem dX8_songs_6 : decode cX8_songs 6 = .ok (.iload_n 1, 1) := by decide +kernel
theorem dX8_songs_7 : decode cX8_songs 7 = .ok (.isub, 1) := by decide +kernel
theorem dX8_songs_8 : decode cX8_songs 8 = .ok (.istore_n 2, 1) := by decide +kernel
theorem dX8_songs_9 : decode cX8_songs 9 = .ok (.iload_n 1, 1) := by decide +kernel
theorem dX8_songs_10 : decode cX8_songs 10 = .ok (.iconst (-1), 1) := by decide +kernel
theorem dX8_songs_11 : decode cX8_songs 11 = .ok (.if_icmp .ne 22, 3) := by decide +kernel
theorem dX8_songs_14 : decode cX8_songs 14 = .ok (.aload_n 0, 1) := by decide +kernel
theorem dX8_songs_15 : decode cX8_songs 15 = .ok (.getfield 10, 3) := by decide +kernel
theorem dX8_songs_18 : decode cX8_songs 18 = .ok (.getfield 107, 3) := by decide +kernel
theorem dX8_songs_21 : decode cX8_songs 21 = .ok (.istore_n 2, 1) := by decide +kernel
theorem dX8_songs_22 : decode cX8_songs 22 = .ok (.aload_n 0, 1) := by decide +kernel
theorem dX8_songs_23 : decode cX8_songs 23 = .ok (.getfield 26, 3) := by decide +kernel
theorem dX8_songs_26 : decode cX8_songs 26 = .ok (.aload_n 0, 1) := by decide +kernel
theorem dX8_songs_27 : decode cX8_songs 27 = .ok (.getfield 10, 3) := by decide +kernel
theorem dX8_songs_30 : decode cX8_songs 30 = .ok (.invokevirtual 115, 3) := by decide +kernel
theorem dX8_songs_33 : decode cX8_songs 33 = .ok (.aload_n 0, 1) := by decide +kernel
theorem dX8_songs_34 : decode cX8_songs 34 = .ok (.getfield 10, 3) := by decide +kernel
theorem dX8_songs_37 : decode cX8_songs 37 = .ok (.iconst 0, 1) := by decide +kernel
theorem dX8_songs_38 : decode cX8_songs 38 = .ok (.putfield 107, 3) := by decide +kernel
theorem dX8_songs_41 : decode cX8_songs 41 = .ok (.iload_n 2, 1) := by decide +kernel
theorem dX8_songs_42 : decode cX8_songs 42 = .ok (.ireturn, 1) := by decide +kernel
theorem dX8_faultInSongs_0 : decode cX8_faultInSongs 0 = .ok (.iconst 0, 1) := by decide +kernel
theorem dX8_faultInSongs_1 : decode cX8_faultInSongs 1 = .ok (.istore_n 1, 1) := by decide +kernel
theorem dX8_faultInSongs_2 : decode cX8_faultInSongs 2 = .ok (.iload_n 1, 1) := by decide +kernel
theorem dX8_faultInSongs_3 : decode cX8_faultInSongs 3 = .ok (.aload_n 0, 1) := by decide +kernel
theorem dX8_faultInSongs_4 : decode cX8_faultInSongs 4 = .ok (.getfield 10, 3) := by decide +kernel
theorem dX8_faultInSongs_7 : decode cX8_faultInSongs 7 = .ok (.getfield 107, 3) := by decide +kernel
theorem dX8_faultInSongs_10 : decode cX8_faultInSongs 10 = .ok (.if_icmp .ge 28, 3) := by decide +kernel
theorem dX8_faultInSongs_13 : decode cX8_faultInSongs 13 = .ok (.iload_n 1, 1) := by decide +kernel
theorem dX8_faultInSongs_14 : decode cX8_faultInSongs 14 = .ok (.bipush 16, 2) := by decide +kernel
theorem dX8_faultInSongs_16 : decode cX8_faultInSongs 16 = .ok (.if_icmp .ge 14, 3) := by decide +kernel
theorem dX8_faultInSongs_19 : decode cX8_faultInSongs 19 = .ok (.aload_n 0, 1) := by decide +kernel
theorem dX8_faultInSongs_20 : decode cX8_faultInSongs 20 = .ok (.getfield 10, 3) := by decide +kernel
theorem dX8_faultInSongs_23 : decode cX8_faultInSongs 23 = .ok (.iload_n 1, 1) := by decide +kernel
theorem dX8_faultInSongs_24 : decode cX8_faultInSongs 24 = .ok (.invokevirtual 119, 3) := by decide +kernel
theorem dX8_faultInSongs_27 : decode cX8_faultInSongs 27 = .ok (.ifCond .ge 5, 3) := by decide +kernel
theorem dX8_faultInSongs_30 : decode cX8_faultInSongs 30 = .ok (.iload_n 1, 1) := by decide +kernel
theorem dX8_faultInSongs_31 : decode cX8_faultInSongs 31 = .ok (.ireturn, 1) := by decide +kernel
theorem dX8_faultInSongs_32 : decode cX8_faultInSongs 32 = .ok (.iinc 1 1, 3) := by decide +kernel
theorem dX8_faultInSongs_35 : decode cX8_faultInSongs 35 = .ok (.goto (-33), 3) := by decide +kernel
theorem dX8_faultInSongs_38 : decode cX8_faultInSongs 38 = .ok (.aload_n 0, 1) := by decide +kernel
theorem dX8_faultInSongs_39 : decode cX8_faultInSongs 39 = .ok (.getfield 10, 3) := by decide +kernel
theorem dX8_faultInSongs_42 : decode cX8_faultInSongs 42 = .ok (.getfield 107, 3) := by decide +kernel
theorem dX8_faultInSongs_45 : decode cX8_faultInSongs 45 = .ok (.ifCond .ne 7, 3) := by decide +kernel
theorem dX8_faultInSongs_48 : decode cX8_faultInSongs 48 = .ok (.iconst 0, 1) := by decide +kernel
theorem dX8_faultInSongs_49 : decode cX8_faultInSongs 49 = .ok (.goto 4, 3) := by decide +kernel
theorem dX8_faultInSongs_52 : decode cX8_faultInSongs 52 = .ok (.iconst (-1), 1) := by decide +kernel
theorem dX8_faultInSongs_53 : decode cX8_faultInSongs 53 = .ok (.ireturn, 1) := by decide +kernel
theorem dX8_hearers_0 : decode cX8_hearers 0 = .ok (.aload_n 0, 1) := by decide +kernel
theorem dX8_hearers_1 : decode cX8_hearers 1 = .ok (.invokevirtual 123, 3) := by decide +kernel
theorem dX8_hearers_4 : decode cX8_hearers 4 = .ok (.istore_n 1, 1) := by decide +kernel
theorem dX8_hearers_5 : decode cX8_hearers 5 = .ok (.iconst (-1), 1) := by decide +kernel
theorem dX8_hearers_6 : decode cX8_hearers 6 = .ok (.iload_n 1, 1) := by decide +kernel
theorem dX8_hearers_7 : decode cX8_hearers 7 = .ok (.isub, 1) := by decide +kernel
theorem dX8_hearers_8 : decode cX8_hearers 8 = .ok (.istore_n 2, 1) := by decide +kernel
theorem dX8_hearers_9 : decode cX8_hearers 9 = .ok (.iload_n 1, 1) := by decide +kernel
theorem dX8_hearers_10 : decode cX8_hearers 10 = .ok (.iconst (-1), 1) := by decide +kernel
theorem dX8_hearers_11 : decode cX8_hearers 11 = .ok (.if_icmp .ne 35, 3) := by decide +kernel
theorem dX8_hearers_14 : decode cX8_hearers 14 = .ok (.aload_n 0, 1) := by decide +kernel
theorem dX8_hearers_15 : decode cX8_hearers 15 = .ok (.getfield 10, 3) := by decide +kernel
theorem dX8_hearers_18 : decode cX8_hearers 18 = .ok (.getfield 107, 3) := by decide +kernel
theorem dX8_hearers_21 : decode cX8_hearers 21 = .ok (.iconst 1, 1) := by decide +kernel
theorem dX8_hearers_22 : decode cX8_hearers 22 = .ok (.iadd, 1) := by decide +kernel
theorem dX8_hearers_23 : decode cX8_hearers 23 = .ok (.iconst 4, 1) := by decide +kernel
theorem dX8_hearers_24 : decode cX8_hearers 24 = .ok (.idiv, 1) := by decide +kernel
theorem dX8_hearers_25 : decode cX8_hearers 25 = .ok (.istore_n 2, 1) := by decide +kernel
theorem dX8_hearers_26 : decode cX8_hearers 26 = .ok (.iconst 0, 1) := by decide +kernel
theorem dX8_hearers_27 : decode cX8_hearers 27 = .ok (.istore_n 3, 1) := by decide +kernel
theorem dX8_hearers_28 : decode cX8_hearers 28 = .ok (.iload_n 3, 1) := by decide +kernel
theorem dX8_hearers_29 : decode cX8_hearers 29 = .ok (.iload_n 2, 1) := by decide +kernel
theorem dX8_hearers_30 : decode cX8_hearers 30 = .ok (.if_icmp .ge 16, 3) := by decide +kernel
theorem dX8_hearers_33 : decode cX8_hearers 33 = .ok (.aload_n 0, 1) := by decide +kernel
theorem dX8_hearers_34 : decode cX8_hearers 34 = .ok (.iconst 4, 1) := by decide +kernel
theorem dX8_hearers_35 : decode cX8_hearers 35 = .ok (.iload_n 3, 1) := by decide +kernel
theorem dX8_hearers_36 : decode cX8_hearers 36 = .ok (.imul, 1) := by decide +kernel
theorem dX8_hearers_37 : decode cX8_hearers 37 = .ok (.invokevirtual 126, 3) := by decide +kernel
theorem dX8_hearers_40 : decode cX8_hearers 40 = .ok (.iinc 3 1, 3) := by decide +kernel
theorem dX8_hearers_43 : decode cX8_hearers 43 = .ok (.goto (-15), 3) := by decide +kernel
theorem dX8_hearers_46 : decode cX8_hearers 46 = .ok (.iload_n 2, 1) := by decide +kernel
theorem dX8_hearers_47 : decode cX8_hearers 47 = .ok (.ifCond .le 11, 3) := by decide +kernel
theorem dX8_hearers_50 : decode cX8_hearers 50 = .ok (.aload_n 0, 1) := by decide +kernel
theorem dX8_hearers_51 : decode cX8_hearers 51 = .ok (.getfield 46, 3) := by decide +kernel
theorem dX8_hearers_54 : decode cX8_hearers 54 = .ok (.iconst 0, 1) := by decide +kernel
theorem dX8_hearers_55 : decode cX8_hearers 55 = .ok (.putfield 129, 3) := by decide +kernel
theorem dX8_hearers_58 : decode cX8_hearers 58 = .ok (.aload_n 0, 1) := by decide +kernel
theorem dX8_hearers_59 : decode cX8_hearers 59 = .ok (.getfield 10, 3) := by decide +kernel
theorem dX8_hearers_62 : decode cX8_hearers 62 = .ok (.iconst 0, 1) := by decide +kernel
theorem dX8_hearers_63 : decode cX8_hearers 63 = .ok (.putfield 107, 3) := by decide +kernel
theorem dX8_hearers_66 : decode cX8_hearers 66 = .ok (.iload_n 2, 1) := by decide +kernel
theorem dX8_hearers_67 : decode cX8_hearers 67 = .ok (.ireturn, 1) := by decide +kernel
theorem dX8_faultInLines_0 : decode cX8_faultInLines 0 = .ok (.aload_n 0, 1) := by decide +kernel
theorem dX8_faultInLines_1 : decode cX8_faultInLines 1 = .ok (.getfield 10, 3) := by decide +kernel
theorem dX8_faultInLines_4 : decode cX8_faultInLines 4 = .ok (.getfield 107, 3) := by decide +kernel
theorem dX8_faultInLines_7 : decode cX8_faultInLines 7 = .ok (.bipush 31, 2) := by decide +kernel
theorem dX8_faultInLines_9 : decode cX8_faultInLines 9 = .ok (.invokestatic 130, 3) := by decide +kernel
theorem dX8_faultInLines_12 : decode cX8_faultInLines 12 = .ok (.istore_n 1, 1) := by decide +kernel
theorem dX8_faultInLines_13 : decode cX8_faultInLines 13 = .ok (.bipush 8, 2) := by decide +kernel
theorem dX8_faultInLines_15 : decode cX8_faultInLines 15 = .ok (.aload_n 0, 1) := by decide +kernel
theorem dX8_faultInLines_16 : decode cX8_faultInLines 16 = .ok (.getfield 26, 3) := by decide +kernel
theorem dX8_faultInLines_19 : decode cX8_faultInLines 19 = .ok (.getfield 136, 3) := by decide +kernel
theorem dX8_faultInLines_22 : decode cX8_faultInLines 22 = .ok (.isub, 1) := by decide +kernel
theorem dX8_faultInLines_23 : decode cX8_faultInLines 23 = .ok (.istore_n 2, 1) := by decide +kernel
theorem dX8_faultInLines_24 : decode cX8_faultInLines 24 = .ok (.iconst 0, 1) := by decide +kernel
theorem dX8_faultInLines_25 : decode cX8_faultInLines 25 = .ok (.istore_n 3, 1) := by decide +kernel
theorem dX8_faultInLines_26 : decode cX8_faultInLines 26 = .ok (.iload_n 3, 1) := by decide +kernel
theorem dX8_faultInLines_27 : decode cX8_faultInLines 27 = .ok (.iload_n 1, 1) := by decide +kernel
theorem dX8_faultInLines_28 : decode cX8_faultInLines 28 = .ok (.if_icmp .ge 26, 3) := by decide +kernel
theorem dX8_faultInLines_31 : decode cX8_faultInLines 31 = .ok (.aload_n 0, 1) := by decide +kernel
theorem dX8_faultInLines_32 : decode cX8_faultInLines 32 = .ok (.iload_n 3, 1) := by decide +kernel
theorem dX8_faultInLines_33 : decode cX8_faultInLines 33 = .ok (.invokevirtual 137, 3) := by decide +kernel
theorem dX8_faultInLines_36 : decode cX8_faultInLines 36 = .ok (.ifCond .eq 10, 3) := by decide +kernel
theorem dX8_faultInLines_39 : decode cX8_faultInLines 39 = .ok (.iload_n 3, 1) := by decide +kernel
theorem dX8_faultInLines_40 : decode cX8_faultInLines 40 = .ok (.iconst 4, 1) := by decide +kernel
theorem dX8_faultInLines_41 : decode cX8_faultInLines 41 = .ok (.idiv, 1) := by decide +kernel
theorem dX8_faultInLines_42 : decode cX8_faultInLines 42 = .ok (.iload_n 2, 1) := by decide +kernel
theorem dX8_faultInLines_43 : decode cX8_faultInLines 43 = .ok (.if_icmp .lt 5, 3) := by decide +kernel
theorem dX8_faultInLines_46 : decode cX8_faultInLines 46 = .ok (.iload_n 3, 1) := by decide +kernel
theorem dX8_faultInLines_47 : decode cX8_faultInLines 47 = .ok (.ireturn, 1) := by decide +kernel
theorem dX8_faultInLines_48 : decode cX8_faultInLines 48 = .ok (.iinc 3 1, 3) := by decide +kernel
theorem dX8_faultInLines_51 : decode cX8_faultInLines 51 = .ok (.goto (-25), 3) := by decide +kernel
theorem dX8_faultInLines_54 : decode cX8_faultInLines 54 = .ok (.iload_n 1, 1) := by decide +kernel
theorem dX8_faultInLines_55 : decode cX8_faultInLines 55 = .ok (.ifCond .le 12, 3) := by decide +kernel
theorem dX8_faultInLines_58 : decode cX8_faultInLines 58 = .ok (.iload_n 1, 1) := by decide +kernel
theorem dX8_faultInLines_59 : decode cX8_faultInLines 59 = .ok (.iconst 4, 1) := by decide +kernel
theorem dX8_faultInLines_60 : decode cX8_faultInLines 60 = .ok (.irem, 1) := by decide +kernel
theorem dX8_faultInLines_61 : decode cX8_faultInLines 61 = .ok (.iconst 3, 1) := by decide +kernel
theorem dX8_faultInLines_62 : decode cX8_faultInLines 62 = .ok (.if_icmp .eq 5, 3) := by decide +kernel
theorem dX8_faultInLines_65 : decode cX8_faultInLines 65 = .ok (.iload_n 1, 1) := by decide +kernel
theorem dX8_faultInLines_66 : decode cX8_faultInLines 66 = .ok (.ireturn, 1) := by decide +kernel
theorem dX8_faultInLines_67 : decode cX8_faultInLines 67 = .ok (.aload_n 0, 1) := by decide +kernel
theorem dX8_faultInLines_68 : decode cX8_faultInLines 68 = .ok (.getfield 10, 3) := by decide +kernel
theorem dX8_faultInLines_71 : decode cX8_faultInLines 71 = .ok (.getfield 107, 3) := by decide +kernel
theorem dX8_faultInLines_74 : decode cX8_faultInLines 74 = .ok (.bipush 31, 2) := by decide +kernel
theorem dX8_faultInLines_76 : decode cX8_faultInLines 76 = .ok (.if_icmp .le 8, 3) := by decide +kernel
theorem dX8_faultInLines_79 : decode cX8_faultInLines 79 = .ok (.bipush 31, 2) := by decide +kernel
theorem dX8_faultInLines_81 : decode cX8_faultInLines 81 = .ok (.goto 4, 3) := by decide +kernel
theorem dX8_faultInLines_84 : decode cX8_faultInLines 84 = .ok (.iconst (-1), 1) := by decide +kernel
theorem dX8_faultInLines_85 : decode cX8_faultInLines 85 = .ok (.ireturn, 1) := by decide +kernel
theorem dX8_fitsInLine_0 : decode cX8_fitsInLine 0 = .ok (.iload_n 1, 1) := by decide +kernel
theorem dX8_fitsInLine_1 : decode cX8_fitsInLine 1 = .ok (.iconst 4, 1) := by decide +kernel
theorem dX8_fitsInLine_2 : decode cX8_fitsInLine 2 = .ok (.irem, 1) := by decide +kernel
theorem dX8_fitsInLine_3 : decode cX8_fitsInLine 3 = .ok (.tableswitch 82 0 2 #[25, 48, 65], 25) := by decide +kernel
theorem dX8_fitsInLine_28 : decode cX8_fitsInLine 28 = .ok (.ldc 140, 2) := by decide +kernel
theorem dX8_fitsInLine_30 : decode cX8_fitsInLine 30 = .ok (.aload_n 0, 1) := by decide +kernel
theorem dX8_fitsInLine_31 : decode cX8_fitsInLine 31 = .ok (.getfield 10, 3) := by decide +kernel
theorem dX8_fitsInLine_34 : decode cX8_fitsInLine 34 = .ok (.iload_n 1, 1) := by decide +kernel
theorem dX8_fitsInLine_35 : decode cX8_fitsInLine 35 = .ok (.invokevirtual 142, 3) := by decide +kernel
theorem dX8_fitsInLine_38 : decode cX8_fitsInLine 38 = .ok (.i2c, 1) := by decide +kernel
theorem dX8_fitsInLine_39 : decode cX8_fitsInLine 39 = .ok (.invokevirtual 145, 3) := by decide +kernel
theorem dX8_fitsInLine_42 : decode cX8_fitsInLine 42 = .ok (.ifCond .lt 7, 3) := by decide +kernel
theorem dX8_fitsInLine_45 : decode cX8_fitsInLine 45 = .ok (.iconst 1, 1) := by decide +kernel
theorem dX8_fitsInLine_46 : decode cX8_fitsInLine 46 = .ok (.goto 4, 3) := by decide +kernel
theorem dX8_fitsInLine_49 : decode cX8_fitsInLine 49 = .ok (.iconst 0, 1) := by decide +kernel
theorem dX8_fitsInLine_50 : decode cX8_fitsInLine 50 = .ok (.ireturn, 1) := by decide +kernel
theorem dX8_fitsInLine_51 : decode cX8_fitsInLine 51 = .ok (.aload_n 0, 1) := by decide +kernel
theorem dX8_fitsInLine_52 : decode cX8_fitsInLine 52 = .ok (.getfield 10, 3) := by decide +kernel
theorem dX8_fitsInLine_55 : decode cX8_fitsInLine 55 = .ok (.iload_n 1, 1) := by decide +kernel
theorem dX8_fitsInLine_56 : decode cX8_fitsInLine 56 = .ok (.invokevirtual 119, 3) := by decide +kernel
theorem dX8_fitsInLine_59 : decode cX8_fitsInLine 59 = .ok (.ifCond .le 7, 3) := by decide +kernel
theorem dX8_fitsInLine_62 : decode cX8_fitsInLine 62 = .ok (.iconst 1, 1) := by decide +kernel
theorem dX8_fitsInLine_63 : decode cX8_fitsInLine 63 = .ok (.goto 4, 3) := by decide +kernel
theorem dX8_fitsInLine_66 : decode cX8_fitsInLine 66 = .ok (.iconst 0, 1) := by decide +kernel
theorem dX8_fitsInLine_67 : decode cX8_fitsInLine 67 = .ok (.ireturn, 1) := by decide +kernel
theorem dX8_fitsInLine_68 : decode cX8_fitsInLine 68 = .ok (.aload_n 0, 1) := by decide +kernel
theorem dX8_fitsInLine_69 : decode cX8_fitsInLine 69 = .ok (.getfield 10, 3) := by decide +kernel
theorem dX8_fitsInLine_72 : decode cX8_fitsInLine 72 = .ok (.iload_n 1, 1) := by decide +kernel
theorem dX8_fitsInLine_73 : decode cX8_fitsInLine 73 = .ok (.invokevirtual 119, 3) := by decide +kernel
theorem dX8_fitsInLine_76 : decode cX8_fitsInLine 76 = .ok (.ifCond .lt 7, 3) := by decide +kernel
theorem dX8_fitsInLine_79 : decode cX8_fitsInLine 79 = .ok (.iconst 1, 1) := by decide +kernel
theorem dX8_fitsInLine_80 : decode cX8_fitsInLine 80 = .ok (.goto 4, 3) := by decide +kernel
theorem dX8_fitsInLine_83 : decode cX8_fitsInLine 83 = .ok (.iconst 0, 1) := by decide +kernel
theorem dX8_fitsInLine_84 : decode cX8_fitsInLine 84 = .ok (.ireturn, 1) := by decide +kernel
theorem dX8_fitsInLine_85 : decode cX8_fitsInLine 85 = .ok (.aload_n 0, 1) := by decide +kernel
theorem dX8_fitsInLine_86 : decode cX8_fitsInLine 86 = .ok (.getfield 10, 3) := by decide +kernel
theorem dX8_fitsInLine_89 : decode cX8_fitsInLine 89 = .ok (.iload_n 1, 1) := by decide +kernel
theorem dX8_fitsInLine_90 : decode cX8_fitsInLine 90 = .ok (.invokevirtual 142, 3) := by decide +kernel
theorem dX8_fitsInLine_93 : decode cX8_fitsInLine 93 = .ok (.bipush 59, 2) := by decide +kernel
theorem dX8_fitsInLine_95 : decode cX8_fitsInLine 95 = .ok (.if_icmp .ne 7, 3) := by decide +kernel
theorem dX8_fitsInLine_98 : decode cX8_fitsInLine 98 = .ok (.iconst 1, 1) := by decide +kernel
theorem dX8_fitsInLine_99 : decode cX8_fitsInLine 99 = .ok (.goto 4, 3) := by decide +kernel
theorem dX8_fitsInLine_102 : decode cX8_fitsInLine 102 = .ok (.iconst 0, 1) := by decide +kernel
theorem dX8_fitsInLine_103 : decode cX8_fitsInLine 103 = .ok (.ireturn, 1) := by decide +kernel
theorem dX8_admit_0 : decode cX8_admit 0 = .ok (.aload_n 0, 1) := by decide +kernel
theorem dX8_admit_1 : decode cX8_admit 1 = .ok (.getfield 26, 3) := by decide +kernel
theorem dX8_admit_4 : decode cX8_admit 4 = .ok (.getfield 136, 3) := by decide +kernel
theorem dX8_admit_7 : decode cX8_admit 7 = .ok (.istore_n 2, 1) := by decide +kernel
theorem dX8_admit_8 : decode cX8_admit 8 = .ok (.iload_n 2, 1) := by decide +kernel
theorem dX8_admit_9 : decode cX8_admit 9 = .ok (.ifCond .lt 9, 3) := by decide +kernel
theorem dX8_admit_12 : decode cX8_admit 12 = .ok (.iload_n 2, 1) := by decide +kernel
theorem dX8_admit_13 : decode cX8_admit 13 = .ok (.bipush 8, 2) := by decide +kernel
theorem dX8_admit_15 : decode cX8_admit 15 = .ok (.if_icmp .lt 4, 3) := by decide +kernel
theorem dX8_admit_18 : decode cX8_admit 18 = .ok (.return_, 1) := by decide +kernel
theorem dX8_admit_19 : decode cX8_admit 19 = .ok (.aload_n 0, 1) := by decide +kernel
theorem dX8_admit_20 : decode cX8_admit 20 = .ok (.getfield 26, 3) := by decide +kernel
theorem dX8_admit_23 : decode cX8_admit 23 = .ok (.getfield 150, 3) := by decide +kernel
theorem dX8_admit_26 : decode cX8_admit 26 = .ok (.iload_n 2, 1) := by decide +kernel
theorem dX8_admit_27 : decode cX8_admit 27 = .ok (.ldc 140, 2) := by decide +kernel
theorem dX8_admit_29 : decode cX8_admit 29 = .ok (.aload_n 0, 1) := by decide +kernel
theorem dX8_admit_30 : decode cX8_admit 30 = .ok (.getfield 10, 3) := by decide +kernel
theorem dX8_admit_33 : decode cX8_admit 33 = .ok (.iload_n 1, 1) := by decide +kernel
theorem dX8_admit_34 : decode cX8_admit 34 = .ok (.invokevirtual 142, 3) := by decide +kernel
theorem dX8_admit_37 : decode cX8_admit 37 = .ok (.i2c, 1) := by decide +kernel
theorem dX8_admit_38 : decode cX8_admit 38 = .ok (.invokevirtual 145, 3) := by decide +kernel
theorem dX8_admit_41 : decode cX8_admit 41 = .ok (.iastore, 1) := by decide +kernel
theorem dX8_admit_42 : decode cX8_admit 42 = .ok (.aload_n 0, 1) := by decide +kernel
theorem dX8_admit_43 : decode cX8_admit 43 = .ok (.getfield 26, 3) := by decide +kernel
theorem dX8_admit_46 : decode cX8_admit 46 = .ok (.getfield 153, 3) := by decide +kernel
theorem dX8_admit_49 : decode cX8_admit 49 = .ok (.iload_n 2, 1) := by decide +kernel
theorem dX8_admit_50 : decode cX8_admit 50 = .ok (.aload_n 0, 1) := by decide +kernel
theorem dX8_admit_51 : decode cX8_admit 51 = .ok (.getfield 10, 3) := by decide +kernel
theorem dX8_admit_54 : decode cX8_admit 54 = .ok (.iload_n 1, 1) := by decide +kernel
theorem dX8_admit_55 : decode cX8_admit 55 = .ok (.iconst 1, 1) := by decide +kernel
theorem dX8_admit_56 : decode cX8_admit 56 = .ok (.iadd, 1) := by decide +kernel
theorem dX8_admit_57 : decode cX8_admit 57 = .ok (.invokevirtual 119, 3) := by decide +kernel
theorem dX8_admit_60 : decode cX8_admit 60 = .ok (.iastore, 1) := by decide +kernel
theorem dX8_admit_61 : decode cX8_admit 61 = .ok (.aload_n 0, 1) := by decide +kernel
theorem dX8_admit_62 : decode cX8_admit 62 = .ok (.getfield 26, 3) := by decide +kernel
theorem dX8_admit_65 : decode cX8_admit 65 = .ok (.getfield 156, 3) := by decide +kernel
theorem dX8_admit_68 : decode cX8_admit 68 = .ok (.iload_n 2, 1) := by decide +kernel
theorem dX8_admit_69 : decode cX8_admit 69 = .ok (.aload_n 0, 1) := by decide +kernel
theorem dX8_admit_70 : decode cX8_admit 70 = .ok (.getfield 10, 3) := by decide +kernel
theorem dX8_admit_73 : decode cX8_admit 73 = .ok (.iload_n 1, 1) := by decide +kernel
theorem dX8_admit_74 : decode cX8_admit 74 = .ok (.iconst 2, 1) := by decide +kernel
theorem dX8_admit_75 : decode cX8_admit 75 = .ok (.iadd, 1) := by decide +kernel
theorem dX8_admit_76 : decode cX8_admit 76 = .ok (.invokevirtual 119, 3) := by decide +kernel
theorem dX8_admit_79 : decode cX8_admit 79 = .ok (.iastore, 1) := by decide +kernel
theorem dX8_admit_80 : decode cX8_admit 80 = .ok (.aload_n 0, 1) := by decide +kernel
theorem dX8_admit_81 : decode cX8_admit 81 = .ok (.getfield 26, 3) := by decide +kernel
theorem dX8_admit_84 : decode cX8_admit 84 = .ok (.iload_n 2, 1) := by decide +kernel
theorem dX8_admit_85 : decode cX8_admit 85 = .ok (.iconst 1, 1) := by decide +kernel
theorem dX8_admit_86 : decode cX8_admit 86 = .ok (.iadd, 1) := by decide +kernel
theorem dX8_admit_87 : decode cX8_admit 87 = .ok (.putfield 136, 3) := by decide +kernel
theorem dX8_admit_90 : decode cX8_admit 90 = .ok (.aload_n 0, 1) := by decide +kernel
theorem dX8_admit_91 : decode cX8_admit 91 = .ok (.getfield 33, 3) := by decide +kernel
theorem dX8_admit_94 : decode cX8_admit 94 = .ok (.getfield 159, 3) := by decide +kernel
theorem dX8_admit_97 : decode cX8_admit 97 = .ok (.iload_n 2, 1) := by decide +kernel
theorem dX8_admit_98 : decode cX8_admit 98 = .ok (.iconst 0, 1) := by decide +kernel
theorem dX8_admit_99 : decode cX8_admit 99 = .ok (.iastore, 1) := by decide +kernel
theorem dX8_admit_100 : decode cX8_admit 100 = .ok (.aload_n 0, 1) := by decide +kernel
theorem dX8_admit_101 : decode cX8_admit 101 = .ok (.getfield 33, 3) := by decide +kernel
theorem dX8_admit_104 : decode cX8_admit 104 = .ok (.getfield 162, 3) := by decide +kernel
theorem dX8_admit_107 : decode cX8_admit 107 = .ok (.iload_n 2, 1) := by decide +kernel
theorem dX8_admit_108 : decode cX8_admit 108 = .ok (.iconst 0, 1) := by decide +kernel
theorem dX8_admit_109 : decode cX8_admit 109 = .ok (.iastore, 1) := by decide +kernel
theorem dX8_admit_110 : decode cX8_admit 110 = .ok (.aload_n 0, 1) := by decide +kernel
theorem dX8_admit_111 : decode cX8_admit 111 = .ok (.getfield 33, 3) := by decide +kernel
theorem dX8_admit_114 : decode cX8_admit 114 = .ok (.dup, 1) := by decide +kernel
theorem dX8_admit_115 : decode cX8_admit 115 = .ok (.getfield 165, 3) := by decide +kernel
theorem dX8_admit_118 : decode cX8_admit 118 = .ok (.iconst 1, 1) := by decide +kernel
theorem dX8_admit_119 : decode cX8_admit 119 = .ok (.iload_n 2, 1) := by decide +kernel
theorem dX8_admit_120 : decode cX8_admit 120 = .ok (.ishl, 1) := by decide +kernel
theorem dX8_admit_121 : decode cX8_admit 121 = .ok (.ior, 1) := by decide +kernel
theorem dX8_admit_122 : decode cX8_admit 122 = .ok (.putfield 165, 3) := by decide +kernel
theorem dX8_admit_125 : decode cX8_admit 125 = .ok (.return_, 1) := by decide +kernel
theorem dX8_rule_0 : decode cX8_rule 0 = .ok (.aload_n 0, 1) := by decide +kernel
theorem dX8_rule_1 : decode cX8_rule 1 = .ok (.getfield 99, 3) := by decide +kernel
theorem dX8_rule_4 : decode cX8_rule 4 = .ok (.aload_n 0, 1) := by decide +kernel
theorem dX8_rule_5 : decode cX8_rule 5 = .ok (.getfield 10, 3) := by decide +kernel
theorem dX8_rule_8 : decode cX8_rule 8 = .ok (.invokevirtual 168, 3) := by decide +kernel
theorem dX8_rule_11 : decode cX8_rule 11 = .ok (.istore_n 1, 1) := by decide +kernel
theorem dX8_rule_12 : decode cX8_rule 12 = .ok (.aload_n 0, 1) := by decide +kernel
theorem dX8_rule_13 : decode cX8_rule 13 = .ok (.getfield 10, 3) := by decide +kernel
theorem dX8_rule_16 : decode cX8_rule 16 = .ok (.iconst 0, 1) := by decide +kernel
theorem dX8_rule_17 : decode cX8_rule 17 = .ok (.putfield 107, 3) := by decide +kernel
theorem dX8_rule_20 : decode cX8_rule 20 = .ok (.iload_n 1, 1) := by decide +kernel
theorem dX8_rule_21 : decode cX8_rule 21 = .ok (.iconst (-1), 1) := by decide +kernel
theorem dX8_rule_22 : decode cX8_rule 22 = .ok (.if_icmp .eq 7, 3) := by decide +kernel
theorem dX8_rule_25 : decode cX8_rule 25 = .ok (.iconst (-1), 1) := by decide +kernel
theorem dX8_rule_26 : decode cX8_rule 26 = .ok (.iload_n 1, 1) := by decide +kernel
theorem dX8_rule_27 : decode cX8_rule 27 = .ok (.isub, 1) := by decide +kernel
theorem dX8_rule_28 : decode cX8_rule 28 = .ok (.ireturn, 1) := by decide +kernel
theorem dX8_rule_29 : decode cX8_rule 29 = .ok (.aload_n 0, 1) := by decide +kernel
theorem dX8_rule_30 : decode cX8_rule 30 = .ok (.getfield 26, 3) := by decide +kernel
theorem dX8_rule_33 : decode cX8_rule 33 = .ok (.getfield 172, 3) := by decide +kernel
theorem dX8_rule_36 : decode cX8_rule 36 = .ok (.astore_n 2, 1) := by decide +kernel
theorem dX8_rule_37 : decode cX8_rule 37 = .ok (.aload_n 0, 1) := by decide +kernel
theorem dX8_rule_38 : decode cX8_rule 38 = .ok (.getfield 26, 3) := by decide +kernel
theorem dX8_rule_41 : decode cX8_rule 41 = .ok (.aload_n 0, 1) := by decide +kernel
theorem dX8_rule_42 : decode cX8_rule 42 = .ok (.getfield 99, 3) := by decide +kernel
theorem dX8_rule_45 : decode cX8_rule 45 = .ok (.putfield 172, 3) := by decide +kernel
theorem dX8_rule_48 : decode cX8_rule 48 = .ok (.aload_n 0, 1) := by decide +kernel
theorem dX8_rule_49 : decode cX8_rule 49 = .ok (.aload_n 2, 1) := by decide +kernel
theorem dX8_rule_50 : decode cX8_rule 50 = .ok (.putfield 99, 3) := by decide +kernel
theorem dX8_rule_53 : decode cX8_rule 53 = .ok (.iconst 0, 1) := by decide +kernel
theorem dX8_rule_54 : decode cX8_rule 54 = .ok (.ireturn, 1) := by decide +kernel
theorem dX8_hearer_0 : decode cX8_hearer 0 = .ok (.aload_n 0, 1) := by decide +kernel
theorem dX8_hearer_1 : decode cX8_hearer 1 = .ok (.getfield 26, 3) := by decide +kernel
theorem dX8_hearer_4 : decode cX8_hearer 4 = .ok (.iload_n 1, 1) := by decide +kernel
theorem dX8_hearer_5 : decode cX8_hearer 5 = .ok (.invokevirtual 175, 3) := by decide +kernel
theorem dX8_hearer_8 : decode cX8_hearer 8 = .ok (.ifCond .eq 13, 3) := by decide +kernel
theorem dX8_hearer_11 : decode cX8_hearer 11 = .ok (.iload_n 2, 1) := by decide +kernel
theorem dX8_hearer_12 : decode cX8_hearer 12 = .ok (.ifCond .lt 9, 3) := by decide +kernel
theorem dX8_hearer_15 : decode cX8_hearer 15 = .ok (.iload_n 2, 1) := by decide +kernel
theorem dX8_hearer_16 : decode cX8_hearer 16 = .ok (.bipush 6, 2) := by decide +kernel
theorem dX8_hearer_18 : decode cX8_hearer 18 = .ok (.if_icmp .le 11, 3) := by decide +kernel
theorem dX8_hearer_21 : decode cX8_hearer 21 = .ok (.new 178, 3) := by decide +kernel
theorem dX8_hearer_24 : decode cX8_hearer 24 = .ok (.dup, 1) := by decide +kernel
theorem dX8_hearer_25 : decode cX8_hearer 25 = .ok (.invokespecial 180, 3) := by decide +kernel
theorem dX8_hearer_28 : decode cX8_hearer 28 = .ok (.athrow, 1) := by decide +kernel
theorem dX8_hearer_29 : decode cX8_hearer 29 = .ok (.iload_n 2, 1) := by decide +kernel
theorem dX8_hearer_30 : decode cX8_hearer 30 = .ok (.tableswitch 100 0 5 #[38, 48, 58, 68, 78, 88], 38) := by decide +kernel
theorem dX8_hearer_68 : decode cX8_hearer 68 = .ok (.aload_n 0, 1) := by decide +kernel
theorem dX8_hearer_69 : decode cX8_hearer 69 = .ok (.getfield 26, 3) := by decide +kernel
theorem dX8_hearer_72 : decode cX8_hearer 72 = .ok (.getfield 150, 3) := by decide +kernel
theorem dX8_hearer_75 : decode cX8_hearer 75 = .ok (.iload_n 1, 1) := by decide +kernel
theorem dX8_hearer_76 : decode cX8_hearer 76 = .ok (.iaload, 1) := by decide +kernel
theorem dX8_hearer_77 : decode cX8_hearer 77 = .ok (.ireturn, 1) := by decide +kernel
theorem dX8_hearer_78 : decode cX8_hearer 78 = .ok (.aload_n 0, 1) := by decide +kernel
theorem dX8_hearer_79 : decode cX8_hearer 79 = .ok (.getfield 26, 3) := by decide +kernel
theorem dX8_hearer_82 : decode cX8_hearer 82 = .ok (.getfield 153, 3) := by decide +kernel
theorem dX8_hearer_85 : decode cX8_hearer 85 = .ok (.iload_n 1, 1) := by decide +kernel
theorem dX8_hearer_86 : decode cX8_hearer 86 = .ok (.iaload, 1) := by decide +kernel
theorem dX8_hearer_87 : decode cX8_hearer 87 = .ok (.ireturn, 1) := by decide +kernel
theorem dX8_hearer_88 : decode cX8_hearer 88 = .ok (.aload_n 0, 1) := by decide +kernel
theorem dX8_hearer_89 : decode cX8_hearer 89 = .ok (.getfield 26, 3) := by decide +kernel
theorem dX8_hearer_92 : decode cX8_hearer 92 = .ok (.getfield 156, 3) := by decide +kernel
theorem dX8_hearer_95 : decode cX8_hearer 95 = .ok (.iload_n 1, 1) := by decide +kernel
theorem dX8_hearer_96 : decode cX8_hearer 96 = .ok (.iaload, 1) := by decide +kernel
theorem dX8_hearer_97 : decode cX8_hearer 97 = .ok (.ireturn, 1) := by decide +kernel
theorem dX8_hearer_98 : decode cX8_hearer 98 = .ok (.aload_n 0, 1) := by decide +kernel
theorem dX8_hearer_99 : decode cX8_hearer 99 = .ok (.getfield 33, 3) := by decide +kernel
theorem dX8_hearer_102 : decode cX8_hearer 102 = .ok (.getfield 159, 3) := by decide +kernel
theorem dX8_hearer_105 : decode cX8_hearer 105 = .ok (.iload_n 1, 1) := by decide +kernel
theorem dX8_hearer_106 : decode cX8_hearer 106 = .ok (.iaload, 1) := by decide +kernel
theorem dX8_hearer_107 : decode cX8_hearer 107 = .ok (.ireturn, 1) := by decide +kernel
theorem dX8_hearer_108 : decode cX8_hearer 108 = .ok (.aload_n 0, 1) := by decide +kernel
theorem dX8_hearer_109 : decode cX8_hearer 109 = .ok (.getfield 33, 3) := by decide +kernel
theorem dX8_hearer_112 : decode cX8_hearer 112 = .ok (.getfield 162, 3) := by decide +kernel
theorem dX8_hearer_115 : decode cX8_hearer 115 = .ok (.iload_n 1, 1) := by decide +kernel
theorem dX8_hearer_116 : decode cX8_hearer 116 = .ok (.iaload, 1) := by decide +kernel
theorem dX8_hearer_117 : decode cX8_hearer 117 = .ok (.ireturn, 1) := by decide +kernel
theorem dX8_hearer_118 : decode cX8_hearer 118 = .ok (.aload_n 0, 1) := by decide +kernel
theorem dX8_hearer_119 : decode cX8_hearer 119 = .ok (.getfield 33, 3) := by decide +kernel
theorem dX8_hearer_122 : decode cX8_hearer 122 = .ok (.getfield 165, 3) := by decide +kernel
theorem dX8_hearer_125 : decode cX8_hearer 125 = .ok (.iload_n 1, 1) := by decide +kernel
theorem dX8_hearer_126 : decode cX8_hearer 126 = .ok (.ishr, 1) := by decide +kernel
theorem dX8_hearer_127 : decode cX8_hearer 127 = .ok (.iconst 1, 1) := by decide +kernel
theorem dX8_hearer_128 : decode cX8_hearer 128 = .ok (.iand, 1) := by decide +kernel
theorem dX8_hearer_129 : decode cX8_hearer 129 = .ok (.ireturn, 1) := by decide +kernel
theorem dX8_hearer_130 : decode cX8_hearer 130 = .ok (.aload_n 0, 1) := by decide +kernel
theorem dX8_hearer_131 : decode cX8_hearer 131 = .ok (.iload_n 1, 1) := by decide +kernel
theorem dX8_hearer_132 : decode cX8_hearer 132 = .ok (.invokevirtual 181, 3) := by decide +kernel
theorem dX8_hearer_135 : decode cX8_hearer 135 = .ok (.ireturn, 1) := by decide +kernel
theorem dX8_mayTonight_0 : decode cX8_mayTonight 0 = .ok (.aload_n 0, 1) := by decide +kernel
theorem dX8_mayTonight_1 : decode cX8_mayTonight 1 = .ok (.getfield 26, 3) := by decide +kernel
theorem dX8_mayTonight_4 : decode cX8_mayTonight 4 = .ok (.aload_n 0, 1) := by decide +kernel
theorem dX8_mayTonight_5 : decode cX8_mayTonight 5 = .ok (.getfield 26, 3) := by decide +kernel
theorem dX8_mayTonight_8 : decode cX8_mayTonight 8 = .ok (.getfield 172, 3) := by decide +kernel
theorem dX8_mayTonight_11 : decode cX8_mayTonight 11 = .ok (.aload_n 0, 1) := by decide +kernel
theorem dX8_mayTonight_12 : decode cX8_mayTonight 12 = .ok (.getfield 33, 3) := by decide +kernel
theorem dX8_mayTonight_15 : decode cX8_mayTonight 15 = .ok (.getfield 184, 3) := by decide +kernel
theorem dX8_mayTonight_18 : decode cX8_mayTonight 18 = .ok (.iload_n 1, 1) := by decide +kernel
theorem dX8_mayTonight_19 : decode cX8_mayTonight 19 = .ok (.aload_n 0, 1) := by decide +kernel
theorem dX8_mayTonight_20 : decode cX8_mayTonight 20 = .ok (.getfield 33, 3) := by decide +kernel
theorem dX8_mayTonight_23 : decode cX8_mayTonight 23 = .ok (.getfield 159, 3) := by decide +kernel
theorem dX8_mayTonight_26 : decode cX8_mayTonight 26 = .ok (.iload_n 1, 1) := by decide +kernel
theorem dX8_mayTonight_27 : decode cX8_mayTonight 27 = .ok (.iaload, 1) := by decide +kernel
theorem dX8_mayTonight_28 : decode cX8_mayTonight 28 = .ok (.aload_n 0, 1) := by decide +kernel
theorem dX8_mayTonight_29 : decode cX8_mayTonight 29 = .ok (.getfield 33, 3) := by decide +kernel
theorem dX8_mayTonight_32 : decode cX8_mayTonight 32 = .ok (.getfield 165, 3) := by decide +kernel
theorem dX8_mayTonight_35 : decode cX8_mayTonight 35 = .ok (.invokestatic 187, 3) := by decide +kernel
theorem dX8_mayTonight_38 : decode cX8_mayTonight 38 = .ok (.invokevirtual 192, 3) := by decide +kernel
theorem dX8_mayTonight_41 : decode cX8_mayTonight 41 = .ok (.ireturn, 1) := by decide +kernel
theorem dX8_worth_0 : decode cX8_worth 0 = .ok (.iload_n 1, 1) := by decide +kernel
theorem dX8_worth_1 : decode cX8_worth 1 = .ok (.ifCond .lt 9, 3) := by decide +kernel
theorem dX8_worth_4 : decode cX8_worth 4 = .ok (.iload_n 1, 1) := by decide +kernel
theorem dX8_worth_5 : decode cX8_worth 5 = .ok (.bipush 99, 2) := by decide +kernel
theorem dX8_worth_7 : decode cX8_worth 7 = .ok (.if_icmp .le 7, 3) := by decide +kernel
theorem dX8_worth_10 : decode cX8_worth 10 = .ok (.iconst (-1), 1) := by decide +kernel
theorem dX8_worth_11 : decode cX8_worth 11 = .ok (.goto 19, 3) := by decide +kernel
theorem dX8_worth_14 : decode cX8_worth 14 = .ok (.aload_n 0, 1) := by decide +kernel
theorem dX8_worth_15 : decode cX8_worth 15 = .ok (.getfield 26, 3) := by decide +kernel
theorem dX8_worth_18 : decode cX8_worth 18 = .ok (.aload_n 0, 1) := by decide +kernel
theorem dX8_worth_19 : decode cX8_worth 19 = .ok (.getfield 33, 3) := by decide +kernel
theorem dX8_worth_22 : decode cX8_worth 22 = .ok (.getfield 184, 3) := by decide +kernel
theorem dX8_worth_25 : decode cX8_worth 25 = .ok (.iload_n 1, 1) := by decide +kernel
theorem dX8_worth_26 : decode cX8_worth 26 = .ok (.iadd, 1) := by decide +kernel
theorem dX8_worth_27 : decode cX8_worth 27 = .ok (.invokevirtual 196, 3) := by decide +kernel
theorem dX8_worth_30 : decode cX8_worth 30 = .ok (.ireturn, 1) := by decide +kernel
theorem dX8_sheet_0 : decode cX8_sheet 0 = .ok (.iload_n 1, 1) := by decide +kernel
theorem dX8_sheet_1 : decode cX8_sheet 1 = .ok (.ifCond .lt 14, 3) := by decide +kernel
theorem dX8_sheet_4 : decode cX8_sheet 4 = .ok (.iload_n 1, 1) := by decide +kernel
theorem dX8_sheet_5 : decode cX8_sheet 5 = .ok (.iconst 3, 1) := by decide +kernel
theorem dX8_sheet_6 : decode cX8_sheet 6 = .ok (.if_icmp .gt 9, 3) := by decide +kernel
theorem dX8_sheet_9 : decode cX8_sheet 9 = .ok (.iload_n 2, 1) := by decide +kernel
theorem dX8_sheet_10 : decode cX8_sheet 10 = .ok (.bipush 8, 2) := by decide +kernel
theorem dX8_sheet_12 : decode cX8_sheet 12 = .ok (.if_icmp .le 5, 3) := by decide +kernel
theorem dX8_sheet_15 : decode cX8_sheet 15 = .ok (.iconst (-1), 1) := by decide +kernel
theorem dX8_sheet_16 : decode cX8_sheet 16 = .ok (.ireturn, 1) := by decide +kernel
theorem dX8_sheet_17 : decode cX8_sheet 17 = .ok (.iload_n 1, 1) := by decide +kernel
theorem dX8_sheet_18 : decode cX8_sheet 18 = .ok (.iconst 3, 1) := by decide +kernel
theorem dX8_sheet_19 : decode cX8_sheet 19 = .ok (.if_icmp .ge 10, 3) := by decide +kernel
theorem dX8_sheet_22 : decode cX8_sheet 22 = .ok (.iload_n 2, 1) := by decide +kernel
theorem dX8_sheet_23 : decode cX8_sheet 23 = .ok (.ifCond .ge 6, 3) := by decide +kernel
theorem dX8_sheet_26 : decode cX8_sheet 26 = .ok (.bipush (-2), 2) := by decide +kernel
theorem dX8_sheet_28 : decode cX8_sheet 28 = .ok (.ireturn, 1) := by decide +kernel
theorem dX8_sheet_29 : decode cX8_sheet 29 = .ok (.iload_n 1, 1) := by decide +kernel
theorem dX8_sheet_30 : decode cX8_sheet 30 = .ok (.iconst 3, 1) := by decide +kernel
theorem dX8_sheet_31 : decode cX8_sheet 31 = .ok (.if_icmp .ne 7, 3) := by decide +kernel
theorem dX8_sheet_34 : decode cX8_sheet 34 = .ok (.iconst 0, 1) := by decide +kernel
theorem dX8_sheet_35 : decode cX8_sheet 35 = .ok (.goto 4, 3) := by decide +kernel
theorem dX8_sheet_38 : decode cX8_sheet 38 = .ok (.iload_n 2, 1) := by decide +kernel
theorem dX8_sheet_39 : decode cX8_sheet 39 = .ok (.istore 5, 2) := by decide +kernel
theorem dX8_sheet_41 : decode cX8_sheet 41 = .ok (.iconst 0, 1) := by decide +kernel
theorem dX8_sheet_42 : decode cX8_sheet 42 = .ok (.istore 6, 2) := by decide +kernel
theorem dX8_sheet_44 : decode cX8_sheet 44 = .ok (.iload 6, 2) := by decide +kernel
theorem dX8_sheet_46 : decode cX8_sheet 46 = .ok (.aload_n 0, 1) := by decide +kernel
theorem dX8_sheet_47 : decode cX8_sheet 47 = .ok (.getfield 26, 3) := by decide +kernel
theorem dX8_sheet_50 : decode cX8_sheet 50 = .ok (.getfield 136, 3) := by decide +kernel
theorem dX8_sheet_53 : decode cX8_sheet 53 = .ok (.if_icmp .ge 47, 3) := by decide +kernel
theorem dX8_sheet_56 : decode cX8_sheet 56 = .ok (.aload_n 0, 1) := by decide +kernel
theorem dX8_sheet_57 : decode cX8_sheet 57 = .ok (.getfield 33, 3) := by decide +kernel
theorem dX8_sheet_60 : decode cX8_sheet 60 = .ok (.getfield 159, 3) := by decide +kernel
theorem dX8_sheet_63 : decode cX8_sheet 63 = .ok (.iload 6, 2) := by decide +kernel
theorem dX8_sheet_65 : decode cX8_sheet 65 = .ok (.iload 6, 2) := by decide +kernel
theorem dX8_sheet_67 : decode cX8_sheet 67 = .ok (.iload 5, 2) := by decide +kernel
theorem dX8_sheet_69 : decode cX8_sheet 69 = .ok (.if_icmp .ge 23, 3) := by decide +kernel
theorem dX8_sheet_72 : decode cX8_sheet 72 = .ok (.iload_n 1, 1) := by decide +kernel
theorem dX8_sheet_73 : decode cX8_sheet 73 = .ok (.iload_n 3, 1) := by decide +kernel
theorem dX8_sheet_74 : decode cX8_sheet 74 = .ok (.iload 6, 2) := by decide +kernel
theorem dX8_sheet_76 : decode cX8_sheet 76 = .ok (.iload 4, 2) := by decide +kernel
theorem dX8_sheet_78 : decode cX8_sheet 78 = .ok (.imul, 1) := by decide +kernel
theorem dX8_sheet_79 : decode cX8_sheet 79 = .ok (.iadd, 1) := by decide +kernel
theorem dX8_sheet_80 : decode cX8_sheet 80 = .ok (.invokestatic 199, 3) := by decide +kernel
theorem dX8_sheet_83 : decode cX8_sheet 83 = .ok (.iconst 0, 1) := by decide +kernel
theorem dX8_sheet_84 : decode cX8_sheet 84 = .ok (.bipush 99, 2) := by decide +kernel
theorem dX8_sheet_86 : decode cX8_sheet 86 = .ok (.invokestatic 202, 3) := by decide +kernel
theorem dX8_sheet_89 : decode cX8_sheet 89 = .ok (.goto 4, 3) := by decide +kernel
theorem dX8_sheet_92 : decode cX8_sheet 92 = .ok (.iconst 0, 1) := by decide +kernel
theorem dX8_sheet_93 : decode cX8_sheet 93 = .ok (.iastore, 1) := by decide +kernel
theorem dX8_sheet_94 : decode cX8_sheet 94 = .ok (.iinc 6 1, 3) := by decide +kernel
theorem dX8_sheet_97 : decode cX8_sheet 97 = .ok (.goto (-53), 3) := by decide +kernel
theorem dX8_sheet_100 : decode cX8_sheet 100 = .ok (.iload_n 1, 1) := by decide +kernel
theorem dX8_sheet_101 : decode cX8_sheet 101 = .ok (.iconst 3, 1) := by decide +kernel
theorem dX8_sheet_102 : decode cX8_sheet 102 = .ok (.if_icmp .ne 8, 3) := by decide +kernel
theorem dX8_sheet_105 : decode cX8_sheet 105 = .ok (.bipush (-3), 2) := by decide +kernel
theorem dX8_sheet_107 : decode cX8_sheet 107 = .ok (.goto 17, 3) := by decide +kernel
theorem dX8_sheet_110 : decode cX8_sheet 110 = .ok (.aload_n 0, 1) := by decide +kernel
theorem dX8_sheet_111 : decode cX8_sheet 111 = .ok (.getfield 33, 3) := by decide +kernel
theorem dX8_sheet_114 : decode cX8_sheet 114 = .ok (.aload_n 0, 1) := by decide +kernel
theorem dX8_sheet_115 : decode cX8_sheet 115 = .ok (.getfield 26, 3) := by decide +kernel
theorem dX8_sheet_118 : decode cX8_sheet 118 = .ok (.getfield 136, 3) := by decide +kernel
theorem dX8_sheet_121 : decode cX8_sheet 121 = .ok (.invokevirtual 206, 3) := by decide +kernel
theorem dX8_sheet_124 : decode cX8_sheet 124 = .ok (.ireturn, 1) := by decide +kernel
theorem dX8_entry_0 : decode cX8_entry 0 = .ok (.iload_n 0, 1) := by decide +kernel
theorem dX8_entry_1 : decode cX8_entry 1 = .ok (.ifCond .ne 6, 3) := by decide +kernel
theorem dX8_entry_4 : decode cX8_entry 4 = .ok (.iload_n 1, 1) := by decide +kernel
theorem dX8_entry_5 : decode cX8_entry 5 = .ok (.i2b, 1) := by decide +kernel
theorem dX8_entry_6 : decode cX8_entry 6 = .ok (.ireturn, 1) := by decide +kernel
theorem dX8_entry_7 : decode cX8_entry 7 = .ok (.iload_n 0, 1) := by decide +kernel
theorem dX8_entry_8 : decode cX8_entry 8 = .ok (.iconst 1, 1) := by decide +kernel
theorem dX8_entry_9 : decode cX8_entry 9 = .ok (.if_icmp .ne 8, 3) := by decide +kernel
theorem dX8_entry_12 : decode cX8_entry 12 = .ok (.iload_n 1, 1) := by decide +kernel
theorem dX8_entry_13 : decode cX8_entry 13 = .ok (.i2s, 1) := by decide +kernel
theorem dX8_entry_14 : decode cX8_entry 14 = .ok (.goto 4, 3) := by decide +kernel
theorem dX8_entry_17 : decode cX8_entry 17 = .ok (.iload_n 1, 1) := by decide +kernel
theorem dX8_entry_18 : decode cX8_entry 18 = .ok (.ireturn, 1) := by decide +kernel
theorem dX8_put_0 : decode cX8_put 0 = .ok (.iload_n 1, 1) := by decide +kernel
theorem dX8_put_1 : decode cX8_put 1 = .ok (.iload_n 2, 1) := by decide +kernel
theorem dX8_put_2 : decode cX8_put 2 = .ok (.iload_n 0, 1) := by decide +kernel
theorem dX8_put_3 : decode cX8_put 3 = .ok (.invokestatic 130, 3) := by decide +kernel
theorem dX8_put_6 : decode cX8_put 6 = .ok (.invokestatic 209, 3) := by decide +kernel
theorem dX8_put_9 : decode cX8_put 9 = .ok (.ireturn, 1) := by decide +kernel
theorem dX8_nights_0 : decode cX8_nights 0 = .ok (.aload_n 0, 1) := by decide +kernel
theorem dX8_nights_1 : decode cX8_nights 1 = .ok (.getfield 37, 3) := by decide +kernel
theorem dX8_nights_4 : decode cX8_nights 4 = .ok (.aload_n 0, 1) := by decide +kernel
theorem dX8_nights_5 : decode cX8_nights 5 = .ok (.getfield 33, 3) := by decide +kernel
theorem dX8_nights_8 : decode cX8_nights 8 = .ok (.invokevirtual 212, 3) := by decide +kernel
theorem dX8_nights_11 : decode cX8_nights 11 = .ok (.aload_n 0, 1) := by decide +kernel
theorem dX8_nights_12 : decode cX8_nights 12 = .ok (.aload_n 0, 1) := by decide +kernel
theorem dX8_nights_13 : decode cX8_nights 13 = .ok (.getfield 33, 3) := by decide +kernel
theorem dX8_nights_16 : decode cX8_nights 16 = .ok (.iload_n 1, 1) := by decide +kernel
theorem dX8_nights_17 : decode cX8_nights 17 = .ok (.invokevirtual 216, 3) := by decide +kernel
theorem dX8_nights_20 : decode cX8_nights 20 = .ok (.istore_n 2, 1) := by decide +kernel
theorem dX8_nights_21 : decode cX8_nights 21 = .ok (.iload_n 2, 1) := by decide +kernel
theorem dX8_nights_22 : decode cX8_nights 22 = .ok (.ifCond .ge 5, 3) := by decide +kernel
theorem dX8_nights_25 : decode cX8_nights 25 = .ok (.iconst (-1), 1) := by decide +kernel
theorem dX8_nights_26 : decode cX8_nights 26 = .ok (.ireturn, 1) := by decide +kernel
theorem dX8_nights_27 : decode cX8_nights 27 = .ok (.iload_n 1, 1) := by decide +kernel
theorem dX8_nights_28 : decode cX8_nights 28 = .ok (.ifCond .le 14, 3) := by decide +kernel
theorem dX8_nights_31 : decode cX8_nights 31 = .ok (.aload_n 0, 1) := by decide +kernel
theorem dX8_nights_32 : decode cX8_nights 32 = .ok (.getfield 46, 3) := by decide +kernel
theorem dX8_nights_35 : decode cX8_nights 35 = .ok (.aload_n 0, 1) := by decide +kernel
theorem dX8_nights_36 : decode cX8_nights 36 = .ok (.getfield 37, 3) := by decide +kernel
theorem dX8_nights_39 : decode cX8_nights 39 = .ok (.invokevirtual 220, 3) := by decide +kernel
theorem dX8_nights_42 : decode cX8_nights 42 = .ok (.aload_n 0, 1) := by decide +kernel
theorem dX8_nights_43 : decode cX8_nights 43 = .ok (.getfield 19, 3) := by decide +kernel
theorem dX8_nights_46 : decode cX8_nights 46 = .ok (.aload_n 0, 1) := by decide +kernel
theorem dX8_nights_47 : decode cX8_nights 47 = .ok (.getfield 33, 3) := by decide +kernel
theorem dX8_nights_50 : decode cX8_nights 50 = .ok (.getfield 223, 3) := by decide +kernel
theorem dX8_nights_53 : decode cX8_nights 53 = .ok (.aload_n 0, 1) := by decide +kernel
theorem dX8_nights_54 : decode cX8_nights 54 = .ok (.getfield 37, 3) := by decide +kernel
theorem dX8_nights_57 : decode cX8_nights 57 = .ok (.getfield 223, 3) := by decide +kernel
theorem dX8_nights_60 : decode cX8_nights 60 = .ok (.isub, 1) := by decide +kernel
theorem dX8_nights_61 : decode cX8_nights 61 = .ok (.i2l, 1) := by decide +kernel
theorem dX8_nights_62 : decode cX8_nights 62 = .ok (.aload_n 0, 1) := by decide +kernel
theorem dX8_nights_63 : decode cX8_nights 63 = .ok (.getfield 33, 3) := by decide +kernel
theorem dX8_nights_66 : decode cX8_nights 66 = .ok (.getfield 226, 3) := by decide +kernel
theorem dX8_nights_69 : decode cX8_nights 69 = .ok (.i2l, 1) := by decide +kernel
theorem dX8_nights_70 : decode cX8_nights 70 = .ok (.invokevirtual 229, 3) := by decide +kernel
theorem dX8_nights_73 : decode cX8_nights 73 = .ok (.iload_n 2, 1) := by decide +kernel
theorem dX8_nights_74 : decode cX8_nights 74 = .ok (.ireturn, 1) := by decide +kernel
theorem dX8_comes_0 : decode cX8_comes 0 = .ok (.aload_n 0, 1) := by decide +kernel
theorem dX8_comes_1 : decode cX8_comes 1 = .ok (.getfield 37, 3) := by decide +kernel
theorem dX8_comes_4 : decode cX8_comes 4 = .ok (.aload_n 0, 1) := by decide +kernel
theorem dX8_comes_5 : decode cX8_comes 5 = .ok (.getfield 33, 3) := by decide +kernel
theorem dX8_comes_8 : decode cX8_comes 8 = .ok (.invokevirtual 212, 3) := by decide +kernel
theorem dX8_comes_11 : decode cX8_comes 11 = .ok (.aload_n 0, 1) := by decide +kernel
theorem dX8_comes_12 : decode cX8_comes 12 = .ok (.aload_n 0, 1) := by decide +kernel
theorem dX8_comes_13 : decode cX8_comes 13 = .ok (.aload_n 0, 1) := by decide +kernel
theorem dX8_comes_14 : decode cX8_comes 14 = .ok (.getfield 33, 3) := by decide +kernel
theorem dX8_comes_17 : decode cX8_comes 17 = .ok (.iload_n 1, 1) := by decide +kernel
theorem dX8_comes_18 : decode cX8_comes 18 = .ok (.invokevirtual 233, 3) := by decide +kernel
theorem dX8_comes_21 : decode cX8_comes 21 = .ok (.invokevirtual 236, 3) := by decide +kernel
theorem dX8_comes_24 : decode cX8_comes 24 = .ok (.ireturn, 1) := by decide +kernel
theorem dX8_hum_0 : decode cX8_hum 0 = .ok (.aload_n 0, 1) := by decide +kernel
theorem dX8_hum_1 : decode cX8_hum 1 = .ok (.getfield 37, 3) := by decide +kernel
theorem dX8_hum_4 : decode cX8_hum 4 = .ok (.aload_n 0, 1) := by decide +kernel
theorem dX8_hum_5 : decode cX8_hum 5 = .ok (.getfield 33, 3) := by decide +kernel
theorem dX8_hum_8 : decode cX8_hum 8 = .ok (.invokevirtual 212, 3) := by decide +kernel
theorem dX8_hum_11 : decode cX8_hum 11 = .ok (.aload_n 0, 1) := by decide +kernel
theorem dX8_hum_12 : decode cX8_hum 12 = .ok (.aload_n 0, 1) := by decide +kernel
theorem dX8_hum_13 : decode cX8_hum 13 = .ok (.aload_n 0, 1) := by decide +kernel
theorem dX8_hum_14 : decode cX8_hum 14 = .ok (.getfield 33, 3) := by decide +kernel
theorem dX8_hum_17 : decode cX8_hum 17 = .ok (.iload_n 1, 1) := by decide +kernel
theorem dX8_hum_18 : decode cX8_hum 18 = .ok (.iload_n 2, 1) := by decide +kernel
theorem dX8_hum_19 : decode cX8_hum 19 = .ok (.invokevirtual 239, 3) := by decide +kernel
theorem dX8_hum_22 : decode cX8_hum 22 = .ok (.invokevirtual 236, 3) := by decide +kernel
theorem dX8_hum_25 : decode cX8_hum 25 = .ok (.ireturn, 1) := by decide +kernel
theorem dX8_stake_0 : decode cX8_stake 0 = .ok (.aload_n 0, 1) := by decide +kernel
theorem dX8_stake_1 : decode cX8_stake 1 = .ok (.getfield 37, 3) := by decide +kernel
theorem dX8_stake_4 : decode cX8_stake 4 = .ok (.aload_n 0, 1) := by decide +kernel
theorem dX8_stake_5 : decode cX8_stake 5 = .ok (.getfield 33, 3) := by decide +kernel
theorem dX8_stake_8 : decode cX8_stake 8 = .ok (.invokevirtual 212, 3) := by decide +kernel
theorem dX8_stake_11 : decode cX8_stake 11 = .ok (.aload_n 0, 1) := by decide +kernel
theorem dX8_stake_12 : decode cX8_stake 12 = .ok (.aload_n 0, 1) := by decide +kernel
theorem dX8_stake_13 : decode cX8_stake 13 = .ok (.aload_n 0, 1) := by decide +kernel
theorem dX8_stake_14 : decode cX8_stake 14 = .ok (.getfield 33, 3) := by decide +kernel
theorem dX8_stake_17 : decode cX8_stake 17 = .ok (.iload_n 1, 1) := by decide +kernel
theorem dX8_stake_18 : decode cX8_stake 18 = .ok (.invokevirtual 243, 3) := by decide +kernel
theorem dX8_stake_21 : decode cX8_stake 21 = .ok (.invokevirtual 236, 3) := by decide +kernel
theorem dX8_stake_24 : decode cX8_stake 24 = .ok (.ireturn, 1) := by decide +kernel
theorem dX8_gain_0 : decode cX8_gain 0 = .ok (.iload_n 1, 1) := by decide +kernel
theorem dX8_gain_1 : decode cX8_gain 1 = .ok (.bipush (-5), 2) := by decide +kernel
theorem dX8_gain_3 : decode cX8_gain 3 = .ok (.if_icmp .lt 8, 3) := by decide +kernel
theorem dX8_gain_6 : decode cX8_gain 6 = .ok (.iload_n 1, 1) := by decide +kernel
theorem dX8_gain_7 : decode cX8_gain 7 = .ok (.iconst 5, 1) := by decide +kernel
theorem dX8_gain_8 : decode cX8_gain 8 = .ok (.if_icmp .le 5, 3) := by decide +kernel
theorem dX8_gain_11 : decode cX8_gain 11 = .ok (.iconst (-1), 1) := by decide +kernel
theorem dX8_gain_12 : decode cX8_gain 12 = .ok (.ireturn, 1) := by decide +kernel
theorem dX8_gain_13 : decode cX8_gain 13 = .ok (.aload_n 0, 1) := by decide +kernel
theorem dX8_gain_14 : decode cX8_gain 14 = .ok (.getfield 37, 3) := by decide +kernel
theorem dX8_gain_17 : decode cX8_gain 17 = .ok (.aload_n 0, 1) := by decide +kernel
theorem dX8_gain_18 : decode cX8_gain 18 = .ok (.getfield 33, 3) := by decide +kernel
theorem dX8_gain_21 : decode cX8_gain 21 = .ok (.invokevirtual 212, 3) := by decide +kernel
theorem dX8_gain_24 : decode cX8_gain 24 = .ok (.aload_n 0, 1) := by decide +kernel
theorem dX8_gain_25 : decode cX8_gain 25 = .ok (.getfield 33, 3) := by decide +kernel
theorem dX8_gain_28 : decode cX8_gain 28 = .ok (.iload_n 1, 1) := by decide +kernel
theorem dX8_gain_29 : decode cX8_gain 29 = .ok (.putfield 246, 3) := by decide +kernel
theorem dX8_gain_32 : decode cX8_gain 32 = .ok (.aload_n 0, 1) := by decide +kernel
theorem dX8_gain_33 : decode cX8_gain 33 = .ok (.bipush 10, 2) := by decide +kernel
theorem dX8_gain_35 : decode cX8_gain 35 = .ok (.aload_n 0, 1) := by decide +kernel
theorem dX8_gain_36 : decode cX8_gain 36 = .ok (.getfield 37, 3) := by decide +kernel
theorem dX8_gain_39 : decode cX8_gain 39 = .ok (.getfield 246, 3) := by decide +kernel
theorem dX8_gain_42 : decode cX8_gain 42 = .ok (.iadd, 1) := by decide +kernel
theorem dX8_gain_43 : decode cX8_gain 43 = .ok (.invokevirtual 236, 3) := by decide +kernel
theorem dX8_gain_46 : decode cX8_gain 46 = .ok (.ireturn, 1) := by decide +kernel
theorem dX8_advance_0 : decode cX8_advance 0 = .ok (.aload_n 0, 1) := by decide +kernel
theorem dX8_advance_1 : decode cX8_advance 1 = .ok (.getfield 37, 3) := by decide +kernel
theorem dX8_advance_4 : decode cX8_advance 4 = .ok (.aload_n 0, 1) := by decide +kernel
theorem dX8_advance_5 : decode cX8_advance 5 = .ok (.getfield 33, 3) := by decide +kernel
theorem dX8_advance_8 : decode cX8_advance 8 = .ok (.invokevirtual 212, 3) := by decide +kernel
theorem dX8_advance_11 : decode cX8_advance 11 = .ok (.aload_n 0, 1) := by decide +kernel
theorem dX8_advance_12 : decode cX8_advance 12 = .ok (.aload_n 0, 1) := by decide +kernel
theorem dX8_advance_13 : decode cX8_advance 13 = .ok (.aload_n 0, 1) := by decide +kernel
theorem dX8_advance_14 : decode cX8_advance 14 = .ok (.getfield 33, 3) := by decide +kernel
theorem dX8_advance_17 : decode cX8_advance 17 = .ok (.iload_n 1, 1) := by decide +kernel
theorem dX8_advance_18 : decode cX8_advance 18 = .ok (.invokevirtual 249, 3) := by decide +kernel
theorem dX8_advance_21 : decode cX8_advance 21 = .ok (.invokevirtual 236, 3) := by decide +kernel
theorem dX8_advance_24 : decode cX8_advance 24 = .ok (.ireturn, 1) := by decide +kernel
theorem dX8_remembered_0 : decode cX8_remembered 0 = .ok (.iload_n 1, 1) := by decide +kernel
theorem dX8_remembered_1 : decode cX8_remembered 1 = .ok (.ifCond .lt 14, 3) := by decide +kernel
theorem dX8_remembered_4 : decode cX8_remembered 4 = .ok (.aload_n 0, 1) := by decide +kernel
theorem dX8_remembered_5 : decode cX8_remembered 5 = .ok (.getfield 46, 3) := by decide +kernel
theorem dX8_remembered_8 : decode cX8_remembered 8 = .ok (.aload_n 0, 1) := by decide +kernel
theorem dX8_remembered_9 : decode cX8_remembered 9 = .ok (.getfield 37, 3) := by decide +kernel
theorem dX8_remembered_12 : decode cX8_remembered 12 = .ok (.invokevirtual 220, 3) := by decide +kernel
theorem dX8_remembered_15 : decode cX8_remembered 15 = .ok (.iload_n 1, 1) := by decide +kernel
theorem dX8_remembered_16 : decode cX8_remembered 16 = .ok (.ireturn, 1) := by decide +kernel
theorem dX8_goOn_0 : decode cX8_goOn 0 = .ok (.iload_n 2, 1) := by decide +kernel
theorem dX8_goOn_1 : decode cX8_goOn 1 = .ok (.ifCond .lt 9, 3) := by decide +kernel
theorem dX8_goOn_4 : decode cX8_goOn 4 = .ok (.iload_n 2, 1) := by decide +kernel
theorem dX8_goOn_5 : decode cX8_goOn 5 = .ok (.bipush 60, 2) := by decide +kernel
theorem dX8_goOn_7 : decode cX8_goOn 7 = .ok (.if_icmp .le 5, 3) := by decide +kernel
theorem dX8_goOn_10 : decode cX8_goOn 10 = .ok (.iconst (-1), 1) := by decide +kernel
theorem dX8_goOn_11 : decode cX8_goOn 11 = .ok (.ireturn, 1) := by decide +kernel
theorem dX8_goOn_12 : decode cX8_goOn 12 = .ok (.iconst 0, 1) := by decide +kernel
theorem dX8_goOn_13 : decode cX8_goOn 13 = .ok (.istore_n 3, 1) := by decide +kernel
theorem dX8_goOn_14 : decode cX8_goOn 14 = .ok (.iload_n 3, 1) := by decide +kernel
theorem dX8_goOn_15 : decode cX8_goOn 15 = .ok (.iload_n 2, 1) := by decide +kernel
theorem dX8_goOn_16 : decode cX8_goOn 16 = .ok (.if_icmp .ge 24, 3) := by decide +kernel
theorem dX8_goOn_19 : decode cX8_goOn 19 = .ok (.aload_n 0, 1) := by decide +kernel
theorem dX8_goOn_20 : decode cX8_goOn 20 = .ok (.getfield 26, 3) := by decide +kernel
theorem dX8_goOn_23 : decode cX8_goOn 23 = .ok (.aload_n 1, 1) := by decide +kernel
theorem dX8_goOn_24 : decode cX8_goOn 24 = .ok (.aload_n 0, 1) := by decide +kernel
theorem dX8_goOn_25 : decode cX8_goOn 25 = .ok (.getfield 26, 3) := by decide +kernel
theorem dX8_goOn_28 : decode cX8_goOn 28 = .ok (.getfield 172, 3) := by decide +kernel
theorem dX8_goOn_31 : decode cX8_goOn 31 = .ok (.invokevirtual 252, 3) := by decide +kernel
theorem dX8_goOn_34 : decode cX8_goOn 34 = .ok (.iinc 3 1, 3) := by decide +kernel
theorem dX8_goOn_37 : decode cX8_goOn 37 = .ok (.goto (-23), 3) := by decide +kernel
theorem dX8_goOn_40 : decode cX8_goOn 40 = .ok (.aload_n 1, 1) := by decide +kernel
theorem dX8_goOn_41 : decode cX8_goOn 41 = .ok (.getfield 256, 3) := by decide +kernel
theorem dX8_goOn_44 : decode cX8_goOn 44 = .ok (.ireturn, 1) := by decide +kernel
theorem dX8_turn_0 : decode cX8_turn 0 = .ok (.aload_n 0, 1) := by decide +kernel
theorem dX8_turn_1 : decode cX8_turn 1 = .ok (.getfield 26, 3) := by decide +kernel
theorem dX8_turn_4 : decode cX8_turn 4 = .ok (.iload_n 2, 1) := by decide +kernel
theorem dX8_turn_5 : decode cX8_turn 5 = .ok (.invokevirtual 175, 3) := by decide +kernel
theorem dX8_turn_8 : decode cX8_turn 8 = .ok (.ifCond .ne 5, 3) := by decide +kernel
theorem dX8_turn_11 : decode cX8_turn 11 = .ok (.iconst (-1), 1) := by decide +kernel
theorem dX8_turn_12 : decode cX8_turn 12 = .ok (.ireturn, 1) := by decide +kernel
theorem dX8_turn_13 : decode cX8_turn 13 = .ok (.aload_n 1, 1) := by decide +kernel
theorem dX8_turn_14 : decode cX8_turn 14 = .ok (.dup, 1) := by decide +kernel
theorem dX8_turn_15 : decode cX8_turn 15 = .ok (.getfield 165, 3) := by decide +kernel
theorem dX8_turn_18 : decode cX8_turn 18 = .ok (.iconst 1, 1) := by decide +kernel
theorem dX8_turn_19 : decode cX8_turn 19 = .ok (.iload_n 2, 1) := by decide +kernel
theorem dX8_turn_20 : decode cX8_turn 20 = .ok (.ishl, 1) := by decide +kernel
theorem dX8_turn_21 : decode cX8_turn 21 = .ok (.ixor, 1) := by decide +kernel
theorem dX8_turn_22 : decode cX8_turn 22 = .ok (.putfield 165, 3) := by decide +kernel
theorem dX8_turn_25 : decode cX8_turn 25 = .ok (.aload_n 1, 1) := by decide +kernel
theorem dX8_turn_26 : decode cX8_turn 26 = .ok (.getfield 165, 3) := by decide +kernel
theorem dX8_turn_29 : decode cX8_turn 29 = .ok (.invokestatic 187, 3) := by decide +kernel
theorem dX8_turn_32 : decode cX8_turn 32 = .ok (.ireturn, 1) := by decide +kernel
theorem dX8_surcharge_0 : decode cX8_surcharge 0 = .ok (.aload_n 0, 1) := by decide +kernel
theorem dX8_surcharge_1 : decode cX8_surcharge 1 = .ok (.getfield 26, 3) := by decide +kernel
theorem dX8_surcharge_4 : decode cX8_surcharge 4 = .ok (.iload_n 2, 1) := by decide +kernel
theorem dX8_surcharge_5 : decode cX8_surcharge 5 = .ok (.invokevirtual 175, 3) := by decide +kernel
theorem dX8_surcharge_8 : decode cX8_surcharge 8 = .ok (.ifCond .eq 14, 3) := by decide +kernel
theorem dX8_surcharge_11 : decode cX8_surcharge 11 = .ok (.iload_n 3, 1) := by decide +kernel
theorem dX8_surcharge_12 : decode cX8_surcharge 12 = .ok (.iconst 1, 1) := by decide +kernel
theorem dX8_surcharge_13 : decode cX8_surcharge 13 = .ok (.if_icmp .lt 9, 3) := by decide +kernel
theorem dX8_surcharge_16 : decode cX8_surcharge 16 = .ok (.iload_n 3, 1) := by decide +kernel
theorem dX8_surcharge_17 : decode cX8_surcharge 17 = .ok (.bipush 9, 2) := by decide +kernel
theorem dX8_surcharge_19 : decode cX8_surcharge 19 = .ok (.if_icmp .le 5, 3) := by decide +kernel
theorem dX8_surcharge_22 : decode cX8_surcharge 22 = .ok (.iconst (-1), 1) := by decide +kernel
theorem dX8_surcharge_23 : decode cX8_surcharge 23 = .ok (.ireturn, 1) := by decide +kernel
theorem dX8_surcharge_24 : decode cX8_surcharge 24 = .ok (.iload_n 3, 1) := by decide +kernel
theorem dX8_surcharge_25 : decode cX8_surcharge 25 = .ok (.aload_n 1, 1) := by decide +kernel
theorem dX8_surcharge_26 : decode cX8_surcharge 26 = .ok (.getfield 256, 3) := by decide +kernel
theorem dX8_surcharge_29 : decode cX8_surcharge 29 = .ok (.if_icmp .le 6, 3) := by decide +kernel
theorem dX8_surcharge_32 : decode cX8_surcharge 32 = .ok (.bipush (-2), 2) := by decide +kernel
theorem dX8_surcharge_34 : decode cX8_surcharge 34 = .ok (.ireturn, 1) := by decide +kernel
theorem dX8_surcharge_35 : decode cX8_surcharge 35 = .ok (.aload_n 1, 1) := by decide +kernel
theorem dX8_surcharge_36 : decode cX8_surcharge 36 = .ok (.dup, 1) := by decide +kernel
theorem dX8_surcharge_37 : decode cX8_surcharge 37 = .ok (.getfield 256, 3) := by decide +kernel
theorem dX8_surcharge_40 : decode cX8_surcharge 40 = .ok (.iload_n 3, 1) := by decide +kernel
theorem dX8_surcharge_41 : decode cX8_surcharge 41 = .ok (.isub, 1) := by decide +kernel
theorem dX8_surcharge_42 : decode cX8_surcharge 42 = .ok (.putfield 256, 3) := by decide +kernel
theorem dX8_surcharge_45 : decode cX8_surcharge 45 = .ok (.aload_n 1, 1) := by decide +kernel
theorem dX8_surcharge_46 : decode cX8_surcharge 46 = .ok (.iload_n 2, 1) := by decide +kernel
theorem dX8_surcharge_47 : decode cX8_surcharge 47 = .ok (.iload_n 3, 1) := by decide +kernel
theorem dX8_surcharge_48 : decode cX8_surcharge 48 = .ok (.invokevirtual 259, 3) := by decide +kernel
theorem dX8_surcharge_51 : decode cX8_surcharge 51 = .ok (.aload_n 1, 1) := by decide +kernel
theorem dX8_surcharge_52 : decode cX8_surcharge 52 = .ok (.getfield 162, 3) := by decide +kernel
theorem dX8_surcharge_55 : decode cX8_surcharge 55 = .ok (.iload_n 2, 1) := by decide +kernel
theorem dX8_surcharge_56 : decode cX8_surcharge 56 = .ok (.bipush 99, 2) := by decide +kernel
theorem dX8_surcharge_58 : decode cX8_surcharge 58 = .ok (.aload_n 1, 1) := by decide +kernel
theorem dX8_surcharge_59 : decode cX8_surcharge 59 = .ok (.getfield 162, 3) := by decide +kernel
theorem dX8_surcharge_62 : decode cX8_surcharge 62 = .ok (.iload_n 2, 1) := by decide +kernel
theorem dX8_surcharge_63 : decode cX8_surcharge 63 = .ok (.iaload, 1) := by decide +kernel
theorem dX8_surcharge_64 : decode cX8_surcharge 64 = .ok (.iconst 1, 1) := by decide +kernel
theorem dX8_surcharge_65 : decode cX8_surcharge 65 = .ok (.iadd, 1) := by decide +kernel
theorem dX8_surcharge_66 : decode cX8_surcharge 66 = .ok (.invokestatic 130, 3) := by decide +kernel
theorem dX8_surcharge_69 : decode cX8_surcharge 69 = .ok (.iastore, 1) := by decide +kernel
theorem dX8_surcharge_70 : decode cX8_surcharge 70 = .ok (.aload_n 1, 1) := by decide +kernel
theorem dX8_surcharge_71 : decode cX8_surcharge 71 = .ok (.iconst 2, 1) := by decide +kernel
theorem dX8_surcharge_72 : decode cX8_surcharge 72 = .ok (.aload_n 0, 1) := by decide +kernel
theorem dX8_surcharge_73 : decode cX8_surcharge 73 = .ok (.getfield 26, 3) := by decide +kernel
theorem dX8_surcharge_76 : decode cX8_surcharge 76 = .ok (.getfield 156, 3) := by decide +kernel
theorem dX8_surcharge_79 : decode cX8_surcharge 79 = .ok (.iload_n 2, 1) := by decide +kernel
theorem dX8_surcharge_80 : decode cX8_surcharge 80 = .ok (.iaload, 1) := by decide +kernel
theorem dX8_surcharge_81 : decode cX8_surcharge 81 = .ok (.imul, 1) := by decide +kernel
theorem dX8_surcharge_82 : decode cX8_surcharge 82 = .ok (.iload_n 3, 1) := by decide +kernel
theorem dX8_surcharge_83 : decode cX8_surcharge 83 = .ok (.imul, 1) := by decide +kernel
theorem dX8_surcharge_84 : decode cX8_surcharge 84 = .ok (.invokevirtual 263, 3) := by decide +kernel
theorem dX8_surcharge_87 : decode cX8_surcharge 87 = .ok (.aload_n 1, 1) := by decide +kernel
theorem dX8_surcharge_88 : decode cX8_surcharge 88 = .ok (.getfield 223, 3) := by decide +kernel
theorem dX8_surcharge_91 : decode cX8_surcharge 91 = .ok (.ireturn, 1) := by decide +kernel
theorem dX8_wager_0 : decode cX8_wager 0 = .ok (.iload_n 2, 1) := by decide +kernel
theorem dX8_wager_1 : decode cX8_wager 1 = .ok (.ifCond .eq 17, 3) := by decide +kernel
theorem dX8_wager_4 : decode cX8_wager 4 = .ok (.iload_n 2, 1) := by decide +kernel
theorem dX8_wager_5 : decode cX8_wager 5 = .ok (.sipush (-9999), 3) := by decide +kernel
theorem dX8_wager_8 : decode cX8_wager 8 = .ok (.if_icmp .lt 10, 3) := by decide +kernel
theorem dX8_wager_11 : decode cX8_wager 11 = .ok (.iload_n 2, 1) := by decide +kernel
theorem dX8_wager_12 : decode cX8_wager 12 = .ok (.sipush 9999, 3) := by decide +kernel
theorem dX8_wager_15 : decode cX8_wager 15 = .ok (.if_icmp .le 5, 3) := by decide +kernel
theorem dX8_wager_18 : decode cX8_wager 18 = .ok (.iconst (-1), 1) := by decide +kernel
theorem dX8_wager_19 : decode cX8_wager 19 = .ok (.ireturn, 1) := by decide +kernel
theorem dX8_wager_20 : decode cX8_wager 20 = .ok (.aload_n 1, 1) := by decide +kernel
theorem dX8_wager_21 : decode cX8_wager 21 = .ok (.getfield 226, 3) := by decide +kernel
theorem dX8_wager_24 : decode cX8_wager 24 = .ok (.iload_n 2, 1) := by decide +kernel
theorem dX8_wager_25 : decode cX8_wager 25 = .ok (.iadd, 1) := by decide +kernel
theorem dX8_wager_26 : decode cX8_wager 26 = .ok (.istore_n 3, 1) := by decide +kernel
theorem dX8_wager_27 : decode cX8_wager 27 = .ok (.aload_n 1, 1) := by decide +kernel
theorem dX8_wager_28 : decode cX8_wager 28 = .ok (.getfield 223, 3) := by decide +kernel
theorem dX8_wager_31 : decode cX8_wager 31 = .ok (.iload_n 2, 1) := by decide +kernel
theorem dX8_wager_32 : decode cX8_wager 32 = .ok (.isub, 1) := by decide +kernel
theorem dX8_wager_33 : decode cX8_wager 33 = .ok (.istore 4, 2) := by decide +kernel
theorem dX8_wager_35 : decode cX8_wager 35 = .ok (.iload_n 3, 1) := by decide +kernel
theorem dX8_wager_36 : decode cX8_wager 36 = .ok (.ifCond .lt 8, 3) := by decide +kernel
theorem dX8_wager_39 : decode cX8_wager 39 = .ok (.iload 4, 2) := by decide +kernel
theorem dX8_wager_41 : decode cX8_wager 41 = .ok (.ifCond .ge 6, 3) := by decide +kernel
theorem dX8_wager_44 : decode cX8_wager 44 = .ok (.bipush (-2), 2) := by decide +kernel
theorem dX8_wager_46 : decode cX8_wager 46 = .ok (.ireturn, 1) := by decide +kernel
theorem dX8_wager_47 : decode cX8_wager 47 = .ok (.iload_n 3, 1) := by decide +kernel
theorem dX8_wager_48 : decode cX8_wager 48 = .ok (.sipush 9999, 3) := by decide +kernel
theorem dX8_wager_51 : decode cX8_wager 51 = .ok (.if_icmp .gt 11, 3) := by decide +kernel
theorem dX8_wager_54 : decode cX8_wager 54 = .ok (.iload 4, 2) := by decide +kernel
theorem dX8_wager_56 : decode cX8_wager 56 = .ok (.sipush 9999, 3) := by decide +kernel
theorem dX8_wager_59 : decode cX8_wager 59 = .ok (.if_icmp .le 6, 3) := by decide +kernel
theorem dX8_wager_62 : decode cX8_wager 62 = .ok (.bipush (-3), 2) := by decide +kernel
theorem dX8_wager_64 : decode cX8_wager 64 = .ok (.ireturn, 1) := by decide +kernel
theorem dX8_wager_65 : decode cX8_wager 65 = .ok (.aload_n 1, 1) := by decide +kernel
theorem dX8_wager_66 : decode cX8_wager 66 = .ok (.iload_n 3, 1) := by decide +kernel
theorem dX8_wager_67 : decode cX8_wager 67 = .ok (.putfield 226, 3) := by decide +kernel
theorem dX8_wager_70 : decode cX8_wager 70 = .ok (.aload_n 1, 1) := by decide +kernel
theorem dX8_wager_71 : decode cX8_wager 71 = .ok (.iload 4, 2) := by decide +kernel
theorem dX8_wager_73 : decode cX8_wager 73 = .ok (.putfield 223, 3) := by decide +kernel
theorem dX8_wager_76 : decode cX8_wager 76 = .ok (.iload_n 3, 1) := by decide +kernel
theorem dX8_wager_77 : decode cX8_wager 77 = .ok (.ireturn, 1) := by decide +kernel
theorem dX8_handOver_0 : decode cX8_handOver 0 = .ok (.iload_n 2, 1) := by decide +kernel
theorem dX8_handOver_1 : decode cX8_handOver 1 = .ok (.iconst 1, 1) := by decide +kernel
theorem dX8_handOver_2 : decode cX8_handOver 2 = .ok (.if_icmp .lt 10, 3) := by decide +kernel
theorem dX8_handOver_5 : decode cX8_handOver 5 = .ok (.iload_n 2, 1) := by decide +kernel
theorem dX8_handOver_6 : decode cX8_handOver 6 = .ok (.sipush 9999, 3) := by decide +kernel
theorem dX8_handOver_9 : decode cX8_handOver 9 = .ok (.if_icmp .le 5, 3) := by decide +kernel
theorem dX8_handOver_12 : decode cX8_handOver 12 = .ok (.iconst (-1), 1) := by decide +kernel
theorem dX8_handOver_13 : decode cX8_handOver 13 = .ok (.ireturn, 1) := by decide +kernel
theorem dX8_handOver_14 : decode cX8_handOver 14 = .ok (.iload_n 2, 1) := by decide +kernel
theorem dX8_handOver_15 : decode cX8_handOver 15 = .ok (.aload_n 1, 1) := by decide +kernel
theorem dX8_handOver_16 : decode cX8_handOver 16 = .ok (.getfield 256, 3) := by decide +kernel
theorem dX8_handOver_19 : decode cX8_handOver 19 = .ok (.iconst 4, 1) := by decide +kernel
theorem dX8_handOver_20 : decode cX8_handOver 20 = .ok (.idiv, 1) := by decide +kernel
theorem dX8_handOver_21 : decode cX8_handOver 21 = .ok (.if_icmp .le 6, 3) := by decide +kernel
theorem dX8_handOver_24 : decode cX8_handOver 24 = .ok (.bipush (-2), 2) := by decide +kernel
theorem dX8_handOver_26 : decode cX8_handOver 26 = .ok (.ireturn, 1) := by decide +kernel
theorem dX8_handOver_27 : decode cX8_handOver 27 = .ok (.aload_n 1, 1) := by decide +kernel
theorem dX8_handOver_28 : decode cX8_handOver 28 = .ok (.dup, 1) := by decide +kernel
theorem dX8_handOver_29 : decode cX8_handOver 29 = .ok (.getfield 256, 3) := by decide +kernel
theorem dX8_handOver_32 : decode cX8_handOver 32 = .ok (.iload_n 2, 1) := by decide +kernel
theorem dX8_handOver_33 : decode cX8_handOver 33 = .ok (.isub, 1) := by decide +kernel
theorem dX8_handOver_34 : decode cX8_handOver 34 = .ok (.putfield 256, 3) := by decide +kernel
theorem dX8_handOver_37 : decode cX8_handOver 37 = .ok (.aload_n 1, 1) := by decide +kernel
theorem dX8_handOver_38 : decode cX8_handOver 38 = .ok (.getfield 256, 3) := by decide +kernel
theorem dX8_handOver_41 : decode cX8_handOver 41 = .ok (.ireturn, 1) := by decide +kernel
theorem dX8_spring_0 : decode cX8_spring 0 = .ok (.aload_n 0, 1) := by decide +kernel
theorem dX8_spring_1 : decode cX8_spring 1 = .ok (.invokevirtual 266, 3) := by decide +kernel
theorem dX8_spring_4 : decode cX8_spring 4 = .ok (.istore_n 1, 1) := by decide +kernel
theorem dX8_spring_5 : decode cX8_spring 5 = .ok (.iload_n 1, 1) := by decide +kernel
theorem dX8_spring_6 : decode cX8_spring 6 = .ok (.iconst (-1), 1) := by decide +kernel
theorem dX8_spring_7 : decode cX8_spring 7 = .ok (.if_icmp .eq 15, 3) := by decide +kernel
theorem dX8_spring_10 : decode cX8_spring 10 = .ok (.aload_n 0, 1) := by decide +kernel
theorem dX8_spring_11 : decode cX8_spring 11 = .ok (.getfield 10, 3) := by decide +kernel
theorem dX8_spring_14 : decode cX8_spring 14 = .ok (.iconst 0, 1) := by decide +kernel
theorem dX8_spring_15 : decode cX8_spring 15 = .ok (.putfield 107, 3) := by decide +kernel
theorem dX8_spring_18 : decode cX8_spring 18 = .ok (.iconst (-1), 1) := by decide +kernel
theorem dX8_spring_19 : decode cX8_spring 19 = .ok (.iload_n 1, 1) := by decide +kernel
theorem dX8_spring_20 : decode cX8_spring 20 = .ok (.isub, 1) := by decide +kernel
theorem dX8_spring_21 : decode cX8_spring 21 = .ok (.ireturn, 1) := by decide +kernel
theorem dX8_spring_22 : decode cX8_spring 22 = .ok (.aload_n 0, 1) := by decide +kernel
theorem dX8_spring_23 : decode cX8_spring 23 = .ok (.getfield 37, 3) := by decide +kernel
theorem dX8_spring_26 : decode cX8_spring 26 = .ok (.aload_n 0, 1) := by decide +kernel
theorem dX8_spring_27 : decode cX8_spring 27 = .ok (.getfield 33, 3) := by decide +kernel
theorem dX8_spring_30 : decode cX8_spring 30 = .ok (.invokevirtual 212, 3) := by decide +kernel
theorem dX8_spring_33 : decode cX8_spring 33 = .ok (.iconst 0, 1) := by decide +kernel
theorem dX8_spring_34 : decode cX8_spring 34 = .ok (.istore_n 2, 1) := by decide +kernel
theorem dX8_spring_35 : decode cX8_spring 35 = .ok (.iconst 0, 1) := by decide +kernel
theorem dX8_spring_36 : decode cX8_spring 36 = .ok (.istore_n 3, 1) := by decide +kernel
theorem dX8_spring_37 : decode cX8_spring 37 = .ok (.iconst 0, 1) := by decide +kernel
theorem dX8_spring_38 : decode cX8_spring 38 = .ok (.istore 4, 2) := by decide +kernel
theorem dX8_spring_40 : decode cX8_spring 40 = .ok (.iconst 0, 1) := by decide +kernel
theorem dX8_spring_41 : decode cX8_spring 41 = .ok (.istore 5, 2) := by decide +kernel
theorem dX8_spring_43 : decode cX8_spring 43 = .ok (.iload 5, 2) := by decide +kernel
theorem dX8_spring_45 : decode cX8_spring 45 = .ok (.bipush 60, 2) := by decide +kernel
theorem dX8_spring_47 : decode cX8_spring 47 = .ok (.if_icmp .ge 58, 3) := by decide +kernel
theorem dX8_spring_50 : decode cX8_spring 50 = .ok (.iload_n 3, 1) := by decide +kernel
theorem dX8_spring_51 : decode cX8_spring 51 = .ok (.aload_n 0, 1) := by decide +kernel
theorem dX8_spring_52 : decode cX8_spring 52 = .ok (.getfield 10, 3) := by decide +kernel
theorem dX8_spring_55 : decode cX8_spring 55 = .ok (.getfield 107, 3) := by decide +kernel
theorem dX8_spring_58 : decode cX8_spring 58 = .ok (.if_icmp .ge 47, 3) := by decide +kernel
theorem dX8_spring_61 : decode cX8_spring 61 = .ok (.iload 4, 2) := by decide +kernel
theorem dX8_spring_63 : decode cX8_spring 63 = .ok (.ifCond .ne 42, 3) := by decide +kernel
theorem dX8_spring_66 : decode cX8_spring 66 = .ok (.aload_n 0, 1) := by decide +kernel
theorem dX8_spring_67 : decode cX8_spring 67 = .ok (.iload_n 3, 1) := by decide +kernel
theorem dX8_spring_68 : decode cX8_spring 68 = .ok (.invokevirtual 269, 3) := by decide +kernel
theorem dX8_spring_71 : decode cX8_spring 71 = .ok (.ifCond .ge 9, 3) := by decide +kernel
theorem dX8_spring_74 : decode cX8_spring 74 = .ok (.iconst 1, 1) := by decide +kernel
theorem dX8_spring_75 : decode cX8_spring 75 = .ok (.istore 4, 2) := by decide +kernel
theorem dX8_spring_77 : decode cX8_spring 77 = .ok (.goto 6, 3) := by decide +kernel
theorem dX8_spring_80 : decode cX8_spring 80 = .ok (.iinc 2 1, 3) := by decide +kernel
theorem dX8_spring_83 : decode cX8_spring 83 = .ok (.iload_n 3, 1) := by decide +kernel
theorem dX8_spring_84 : decode cX8_spring 84 = .ok (.iconst 1, 1) := by decide +kernel
theorem dX8_spring_85 : decode cX8_spring 85 = .ok (.aload_n 0, 1) := by decide +kernel
theorem dX8_spring_86 : decode cX8_spring 86 = .ok (.getfield 10, 3) := by decide +kernel
theorem dX8_spring_89 : decode cX8_spring 89 = .ok (.iload_n 3, 1) := by decide +kernel
theorem dX8_spring_90 : decode cX8_spring 90 = .ok (.invokevirtual 142, 3) := by decide +kernel
theorem dX8_spring_93 : decode cX8_spring 93 = .ok (.invokestatic 272, 3) := by decide +kernel
theorem dX8_spring_96 : decode cX8_spring 96 = .ok (.iadd, 1) := by decide +kernel
theorem dX8_spring_97 : decode cX8_spring 97 = .ok (.iadd, 1) := by decide +kernel
theorem dX8_spring_98 : decode cX8_spring 98 = .ok (.istore_n 3, 1) := by decide +kernel
theorem dX8_spring_99 : decode cX8_spring 99 = .ok (.iinc 5 1, 3) := by decide +kernel
theorem dX8_spring_102 : decode cX8_spring 102 = .ok (.goto (-59), 3) := by decide +kernel
theorem dX8_spring_105 : decode cX8_spring 105 = .ok (.iload_n 2, 1) := by decide +kernel
theorem dX8_spring_106 : decode cX8_spring 106 = .ok (.ifCond .le 14, 3) := by decide +kernel
theorem dX8_spring_109 : decode cX8_spring 109 = .ok (.aload_n 0, 1) := by decide +kernel
theorem dX8_spring_110 : decode cX8_spring 110 = .ok (.getfield 46, 3) := by decide +kernel
theorem dX8_spring_113 : decode cX8_spring 113 = .ok (.aload_n 0, 1) := by decide +kernel
theorem dX8_spring_114 : decode cX8_spring 114 = .ok (.getfield 37, 3) := by decide +kernel
theorem dX8_spring_117 : decode cX8_spring 117 = .ok (.invokevirtual 220, 3) := by decide +kernel
theorem dX8_spring_120 : decode cX8_spring 120 = .ok (.aload_n 0, 1) := by decide +kernel
theorem dX8_spring_121 : decode cX8_spring 121 = .ok (.getfield 10, 3) := by decide +kernel
theorem dX8_spring_124 : decode cX8_spring 124 = .ok (.iconst 0, 1) := by decide +kernel
theorem dX8_spring_125 : decode cX8_spring 125 = .ok (.putfield 107, 3) := by decide +kernel
theorem dX8_spring_128 : decode cX8_spring 128 = .ok (.aload_n 0, 1) := by decide +kernel
theorem dX8_spring_129 : decode cX8_spring 129 = .ok (.getfield 19, 3) := by decide +kernel
theorem dX8_spring_132 : decode cX8_spring 132 = .ok (.iload 4, 2) := by decide +kernel
theorem dX8_spring_134 : decode cX8_spring 134 = .ok (.ifCond .eq 7, 3) := by decide +kernel
theorem dX8_spring_137 : decode cX8_spring 137 = .ok (.lconst 1, 1) := by decide +kernel
theorem dX8_spring_138 : decode cX8_spring 138 = .ok (.goto 4, 3) := by decide +kernel
theorem dX8_spring_141 : decode cX8_spring 141 = .ok (.lconst 0, 1) := by decide +kernel
theorem dX8_spring_142 : decode cX8_spring 142 = .ok (.aload_n 0, 1) := by decide +kernel
theorem dX8_spring_143 : decode cX8_spring 143 = .ok (.getfield 33, 3) := by decide +kernel
theorem dX8_spring_146 : decode cX8_spring 146 = .ok (.getfield 223, 3) := by decide +kernel
theorem dX8_spring_149 : decode cX8_spring 149 = .ok (.i2l, 1) := by decide +kernel
theorem dX8_spring_150 : decode cX8_spring 150 = .ok (.invokevirtual 229, 3) := by decide +kernel
theorem dX8_spring_153 : decode cX8_spring 153 = .ok (.iload_n 2, 1) := by decide +kernel
theorem dX8_spring_154 : decode cX8_spring 154 = .ok (.ireturn, 1) := by decide +kernel
theorem dX8_faultInSpring_0 : decode cX8_faultInSpring 0 = .ok (.aload_n 0, 1) := by decide +kernel
theorem dX8_faultInSpring_1 : decode cX8_faultInSpring 1 = .ok (.getfield 10, 3) := by decide +kernel
theorem dX8_faultInSpring_4 : decode cX8_faultInSpring 4 = .ok (.getfield 107, 3) := by decide +kernel
theorem dX8_faultInSpring_7 : decode cX8_faultInSpring 7 = .ok (.bipush 60, 2) := by decide +kernel
theorem dX8_faultInSpring_9 : decode cX8_faultInSpring 9 = .ok (.invokestatic 130, 3) := by decide +kernel
theorem dX8_faultInSpring_12 : decode cX8_faultInSpring 12 = .ok (.istore_n 1, 1) := by decide +kernel
theorem dX8_faultInSpring_13 : decode cX8_faultInSpring 13 = .ok (.iconst 0, 1) := by decide +kernel
theorem dX8_faultInSpring_14 : decode cX8_faultInSpring 14 = .ok (.istore_n 2, 1) := by decide +kernel
theorem dX8_faultInSpring_15 : decode cX8_faultInSpring 15 = .ok (.iconst 0, 1) := by decide +kernel
theorem dX8_faultInSpring_16 : decode cX8_faultInSpring 16 = .ok (.istore_n 3, 1) := by decide +kernel
theorem dX8_faultInSpring_17 : decode cX8_faultInSpring 17 = .ok (.iconst 0, 1) := by decide +kernel
theorem dX8_faultInSpring_18 : decode cX8_faultInSpring 18 = .ok (.istore 4, 2) := by decide +kernel
theorem dX8_faultInSpring_20 : decode cX8_faultInSpring 20 = .ok (.iload 4, 2) := by decide +kernel
theorem dX8_faultInSpring_22 : decode cX8_faultInSpring 22 = .ok (.iload_n 1, 1) := by decide +kernel
theorem dX8_faultInSpring_23 : decode cX8_faultInSpring 23 = .ok (.if_icmp .ge 68, 3) := by decide +kernel
theorem dX8_faultInSpring_26 : decode cX8_faultInSpring 26 = .ok (.iload_n 2, 1) := by decide +kernel
theorem dX8_faultInSpring_27 : decode cX8_faultInSpring 27 = .ok (.ifCond .le 25, 3) := by decide +kernel
theorem dX8_faultInSpring_30 : decode cX8_faultInSpring 30 = .ok (.aload_n 0, 1) := by decide +kernel
theorem dX8_faultInSpring_31 : decode cX8_faultInSpring 31 = .ok (.getfield 10, 3) := by decide +kernel
theorem dX8_faultInSpring_34 : decode cX8_faultInSpring 34 = .ok (.iload 4, 2) := by decide +kernel
theorem dX8_faultInSpring_36 : decode cX8_faultInSpring 36 = .ok (.invokevirtual 119, 3) := by decide +kernel
theorem dX8_faultInSpring_39 : decode cX8_faultInSpring 39 = .ok (.iload_n 3, 1) := by decide +kernel
theorem dX8_faultInSpring_40 : decode cX8_faultInSpring 40 = .ok (.if_icmp .ge 6, 3) := by decide +kernel
theorem dX8_faultInSpring_43 : decode cX8_faultInSpring 43 = .ok (.iload 4, 2) := by decide +kernel
theorem dX8_faultInSpring_45 : decode cX8_faultInSpring 45 = .ok (.ireturn, 1) := by decide +kernel
theorem dX8_faultInSpring_46 : decode cX8_faultInSpring 46 = .ok (.iinc 2 (-1), 3) := by decide +kernel
theorem dX8_faultInSpring_49 : decode cX8_faultInSpring 49 = .ok (.goto 36, 3) := by decide +kernel
theorem dX8_faultInSpring_52 : decode cX8_faultInSpring 52 = .ok (.aload_n 0, 1) := by decide +kernel
theorem dX8_faultInSpring_53 : decode cX8_faultInSpring 53 = .ok (.getfield 10, 3) := by decide +kernel
theorem dX8_faultInSpring_56 : decode cX8_faultInSpring 56 = .ok (.iload 4, 2) := by decide +kernel
theorem dX8_faultInSpring_58 : decode cX8_faultInSpring 58 = .ok (.invokevirtual 142, 3) := by decide +kernel
theorem dX8_faultInSpring_61 : decode cX8_faultInSpring 61 = .ok (.invokestatic 272, 3) := by decide +kernel
theorem dX8_faultInSpring_64 : decode cX8_faultInSpring 64 = .ok (.istore_n 2, 1) := by decide +kernel
theorem dX8_faultInSpring_65 : decode cX8_faultInSpring 65 = .ok (.iload_n 2, 1) := by decide +kernel
theorem dX8_faultInSpring_66 : decode cX8_faultInSpring 66 = .ok (.ifCond .ne 6, 3) := by decide +kernel
theorem dX8_faultInSpring_69 : decode cX8_faultInSpring 69 = .ok (.iload 4, 2) := by decide +kernel
theorem dX8_faultInSpring_71 : decode cX8_faultInSpring 71 = .ok (.ireturn, 1) := by decide +kernel
theorem dX8_faultInSpring_72 : decode cX8_faultInSpring 72 = .ok (.aload_n 0, 1) := by decide +kernel
theorem dX8_faultInSpring_73 : decode cX8_faultInSpring 73 = .ok (.getfield 10, 3) := by decide +kernel
theorem dX8_faultInSpring_76 : decode cX8_faultInSpring 76 = .ok (.iload 4, 2) := by decide +kernel
theorem dX8_faultInSpring_78 : decode cX8_faultInSpring 78 = .ok (.invokevirtual 142, 3) := by decide +kernel
theorem dX8_faultInSpring_81 : decode cX8_faultInSpring 81 = .ok (.invokestatic 275, 3) := by decide +kernel
theorem dX8_faultInSpring_84 : decode cX8_faultInSpring 84 = .ok (.istore_n 3, 1) := by decide +kernel
theorem dX8_faultInSpring_85 : decode cX8_faultInSpring 85 = .ok (.iinc 4 1, 3) := by decide +kernel
theorem dX8_faultInSpring_88 : decode cX8_faultInSpring 88 = .ok (.goto (-68), 3) := by decide +kernel
theorem dX8_faultInSpring_91 : decode cX8_faultInSpring 91 = .ok (.iload_n 2, 1) := by decide +kernel
theorem dX8_faultInSpring_92 : decode cX8_faultInSpring 92 = .ok (.ifCond .le 5, 3) := by decide +kernel
theorem dX8_faultInSpring_95 : decode cX8_faultInSpring 95 = .ok (.iload_n 1, 1) := by decide +kernel
theorem dX8_faultInSpring_96 : decode cX8_faultInSpring 96 = .ok (.ireturn, 1) := by decide +kernel
theorem dX8_faultInSpring_97 : decode cX8_faultInSpring 97 = .ok (.aload_n 0, 1) := by decide +kernel
theorem dX8_faultInSpring_98 : decode cX8_faultInSpring 98 = .ok (.getfield 10, 3) := by decide +kernel
theorem dX8_faultInSpring_101 : decode cX8_faultInSpring 101 = .ok (.getfield 107, 3) := by decide +kernel
theorem dX8_faultInSpring_104 : decode cX8_faultInSpring 104 = .ok (.bipush 60, 2) := by decide +kernel
theorem dX8_faultInSpring_106 : decode cX8_faultInSpring 106 = .ok (.if_icmp .le 8, 3) := by decide +kernel
theorem dX8_faultInSpring_109 : decode cX8_faultInSpring 109 = .ok (.bipush 60, 2) := by decide +kernel
theorem dX8_faultInSpring_111 : decode cX8_faultInSpring 111 = .ok (.goto 4, 3) := by decide +kernel
theorem dX8_faultInSpring_114 : decode cX8_faultInSpring 114 = .ok (.iconst (-1), 1) := by decide +kernel
theorem dX8_faultInSpring_115 : decode cX8_faultInSpring 115 = .ok (.ireturn, 1) := by decide +kernel
theorem dX8_digitsBehind_0 : decode cX8_digitsBehind 0 = .ok (.iload_n 0, 1) := by decide +kernel
theorem dX8_digitsBehind_1 : decode cX8_digitsBehind 1 = .ok (.tableswitch 95 97 115 #[93, 93, 93, 95, 95, 95, 95, 91, 95, 95, 95, 95, 95, 93, 95, 95, 95, 95, 93], 91) := by decide +kernel
theorem dX8_digitsBehind_92 : decode cX8_digitsBehind 92 = .ok (.iconst 2, 1) := by decide +kernel
theorem dX8_digitsBehind_93 : decode cX8_digitsBehind 93 = .ok (.ireturn, 1) := by decide +kernel
theorem dX8_digitsBehind_94 : decode cX8_digitsBehind 94 = .ok (.iconst 1, 1) := by decide +kernel
theorem dX8_digitsBehind_95 : decode cX8_digitsBehind 95 = .ok (.ireturn, 1) := by decide +kernel
theorem dX8_digitsBehind_96 : decode cX8_digitsBehind 96 = .ok (.iconst 0, 1) := by decide +kernel
theorem dX8_digitsBehind_97 : decode cX8_digitsBehind 97 = .ok (.ireturn, 1) := by decide +kernel
theorem dX8_leastBehind_0 : decode cX8_leastBehind 0 = .ok (.iload_n 0, 1) := by decide +kernel
theorem dX8_leastBehind_1 : decode cX8_leastBehind 1 = .ok (.bipush 115, 2) := by decide +kernel
theorem dX8_leastBehind_3 : decode cX8_leastBehind 3 = .ok (.if_icmp .eq 15, 3) := by decide +kernel
theorem dX8_leastBehind_6 : decode cX8_leastBehind 6 = .ok (.iload_n 0, 1) := by decide +kernel
theorem dX8_leastBehind_7 : decode cX8_leastBehind 7 = .ok (.bipush 98, 2) := by decide +kernel
theorem dX8_leastBehind_9 : decode cX8_leastBehind 9 = .ok (.if_icmp .eq 9, 3) := by decide +kernel
theorem dX8_leastBehind_12 : decode cX8_leastBehind 12 = .ok (.iload_n 0, 1) := by decide +kernel
theorem dX8_leastBehind_13 : decode cX8_leastBehind 13 = .ok (.bipush 97, 2) := by decide +kernel
theorem dX8_leastBehind_15 : decode cX8_leastBehind 15 = .ok (.if_icmp .ne 7, 3) := by decide +kernel
theorem dX8_leastBehind_18 : decode cX8_leastBehind 18 = .ok (.iconst 1, 1) := by decide +kernel
theorem dX8_leastBehind_19 : decode cX8_leastBehind 19 = .ok (.goto 4, 3) := by decide +kernel
theorem dX8_leastBehind_22 : decode cX8_leastBehind 22 = .ok (.iconst 0, 1) := by decide +kernel
theorem dX8_leastBehind_23 : decode cX8_leastBehind 23 = .ok (.ireturn, 1) := by decide +kernel
theorem dX8_act_0 : decode cX8_act 0 = .ok (.aload_n 0, 1) := by decide +kernel
theorem dX8_act_1 : decode cX8_act 1 = .ok (.getfield 10, 3) := by decide +kernel
theorem dX8_act_4 : decode cX8_act 4 = .ok (.iload_n 1, 1) := by decide +kernel
theorem dX8_act_5 : decode cX8_act 5 = .ok (.iconst 1, 1) := by decide +kernel
theorem dX8_act_6 : decode cX8_act 6 = .ok (.iadd, 1) := by decide +kernel
theorem dX8_act_7 : decode cX8_act 7 = .ok (.invokevirtual 119, 3) := by decide +kernel
theorem dX8_act_10 : decode cX8_act 10 = .ok (.istore_n 2, 1) := by decide +kernel
theorem dX8_act_11 : decode cX8_act 11 = .ok (.aload_n 0, 1) := by decide +kernel
theorem dX8_act_12 : decode cX8_act 12 = .ok (.getfield 10, 3) := by decide +kernel
theorem dX8_act_15 : decode cX8_act 15 = .ok (.iload_n 1, 1) := by decide +kernel
theorem dX8_act_16 : decode cX8_act 16 = .ok (.invokevirtual 142, 3) := by decide +kernel
theorem dX8_act_19 : decode cX8_act 19 = .ok (.tableswitch 160 97 115 #[150, 139, 99, 160, 160, 160, 160, 109, 160, 160, 160, 160, 160, 89, 160, 160, 160, 160, 129], 89) := by decide +kernel
theorem dX8_act_108 : decode cX8_act 108 = .ok (.aload_n 0, 1) := by decide +kernel
theorem dX8_act_109 : decode cX8_act 109 = .ok (.aload_n 0, 1) := by decide +kernel
theorem dX8_act_110 : decode cX8_act 110 = .ok (.getfield 33, 3) := by decide +kernel
theorem dX8_act_113 : decode cX8_act 113 = .ok (.iload_n 2, 1) := by decide +kernel
theorem dX8_act_114 : decode cX8_act 114 = .ok (.invokevirtual 216, 3) := by decide +kernel
theorem dX8_act_117 : decode cX8_act 117 = .ok (.ireturn, 1) := by decide +kernel
theorem dX8_act_118 : decode cX8_act 118 = .ok (.aload_n 0, 1) := by decide +kernel
theorem dX8_act_119 : decode cX8_act 119 = .ok (.aload_n 0, 1) := by decide +kernel
theorem dX8_act_120 : decode cX8_act 120 = .ok (.getfield 33, 3) := by decide +kernel
theorem dX8_act_123 : decode cX8_act 123 = .ok (.iload_n 2, 1) := by decide +kernel
theorem dX8_act_124 : decode cX8_act 124 = .ok (.invokevirtual 233, 3) := by decide +kernel
theorem dX8_act_127 : decode cX8_act 127 = .ok (.ireturn, 1) := by decide +kernel
theorem dX8_act_128 : decode cX8_act 128 = .ok (.aload_n 0, 1) := by decide +kernel
theorem dX8_act_129 : decode cX8_act 129 = .ok (.aload_n 0, 1) := by decide +kernel
theorem dX8_act_130 : decode cX8_act 130 = .ok (.getfield 33, 3) := by decide +kernel
theorem dX8_act_133 : decode cX8_act 133 = .ok (.iload_n 2, 1) := by decide +kernel
theorem dX8_act_134 : decode cX8_act 134 = .ok (.aload_n 0, 1) := by decide +kernel
theorem dX8_act_135 : decode cX8_act 135 = .ok (.getfield 10, 3) := by decide +kernel
theorem dX8_act_138 : decode cX8_act 138 = .ok (.iload_n 1, 1) := by decide +kernel
theorem dX8_act_139 : decode cX8_act 139 = .ok (.iconst 2, 1) := by decide +kernel
theorem dX8_act_140 : decode cX8_act 140 = .ok (.iadd, 1) := by decide +kernel
theorem dX8_act_141 : decode cX8_act 141 = .ok (.invokevirtual 119, 3) := by decide +kernel
theorem dX8_act_144 : decode cX8_act 144 = .ok (.invokevirtual 239, 3) := by decide +kernel
theorem dX8_act_147 : decode cX8_act 147 = .ok (.ireturn, 1) := by decide +kernel
theorem dX8_act_148 : decode cX8_act 148 = .ok (.aload_n 0, 1) := by decide +kernel
theorem dX8_act_149 : decode cX8_act 149 = .ok (.aload_n 0, 1) := by decide +kernel
theorem dX8_act_150 : decode cX8_act 150 = .ok (.getfield 33, 3) := by decide +kernel
theorem dX8_act_153 : decode cX8_act 153 = .ok (.iload_n 2, 1) := by decide +kernel
theorem dX8_act_154 : decode cX8_act 154 = .ok (.invokevirtual 243, 3) := by decide +kernel
theorem dX8_act_157 : decode cX8_act 157 = .ok (.ireturn, 1) := by decide +kernel
theorem dX8_act_158 : decode cX8_act 158 = .ok (.aload_n 0, 1) := by decide +kernel
theorem dX8_act_159 : decode cX8_act 159 = .ok (.aload_n 0, 1) := by decide +kernel
theorem dX8_act_160 : decode cX8_act 160 = .ok (.getfield 33, 3) := by decide +kernel
theorem dX8_act_163 : decode cX8_act 163 = .ok (.iload_n 2, 1) := by decide +kernel
theorem dX8_act_164 : decode cX8_act 164 = .ok (.ineg, 1) := by decide +kernel
theorem dX8_act_165 : decode cX8_act 165 = .ok (.invokevirtual 243, 3) := by decide +kernel
theorem dX8_act_168 : decode cX8_act 168 = .ok (.ireturn, 1) := by decide +kernel
theorem dX8_act_169 : decode cX8_act 169 = .ok (.aload_n 0, 1) := by decide +kernel
theorem dX8_act_170 : decode cX8_act 170 = .ok (.aload_n 0, 1) := by decide +kernel
theorem dX8_act_171 : decode cX8_act 171 = .ok (.getfield 33, 3) := by decide +kernel
theorem dX8_act_174 : decode cX8_act 174 = .ok (.iload_n 2, 1) := by decide +kernel
theorem dX8_act_175 : decode cX8_act 175 = .ok (.invokevirtual 249, 3) := by decide +kernel
theorem dX8_act_178 : decode cX8_act 178 = .ok (.ireturn, 1) := by decide +kernel
theorem dX8_act_179 : decode cX8_act 179 = .ok (.iconst (-1), 1) := by decide +kernel
theorem dX8_act_180 : decode cX8_act 180 = .ok (.ireturn, 1) := by decide +kernel
theorem dX8_undo_0 : decode cX8_undo 0 = .ok (.aload_n 0, 1) := by decide +kernel
theorem dX8_undo_1 : decode cX8_undo 1 = .ok (.getfield 46, 3) := by decide +kernel
theorem dX8_undo_4 : decode cX8_undo 4 = .ok (.aload_n 0, 1) := by decide +kernel
theorem dX8_undo_5 : decode cX8_undo 5 = .ok (.getfield 33, 3) := by decide +kernel
theorem dX8_undo_8 : decode cX8_undo 8 = .ok (.invokevirtual 278, 3) := by decide +kernel
theorem dX8_undo_11 : decode cX8_undo 11 = .ok (.ifCond .eq 13, 3) := by decide +kernel
theorem dX8_undo_14 : decode cX8_undo 14 = .ok (.aload_n 0, 1) := by decide +kernel
theorem dX8_undo_15 : decode cX8_undo 15 = .ok (.getfield 46, 3) := by decide +kernel
theorem dX8_undo_18 : decode cX8_undo 18 = .ok (.getfield 129, 3) := by decide +kernel
theorem dX8_undo_21 : decode cX8_undo 21 = .ok (.goto 4, 3) := by decide +kernel
theorem dX8_undo_24 : decode cX8_undo 24 = .ok (.iconst (-1), 1) := by decide +kernel
theorem dX8_undo_25 : decode cX8_undo 25 = .ok (.ireturn, 1) := by decide +kernel
theorem dX8_tonight_0 : decode cX8_tonight 0 = .ok (.aload_n 0, 1) := by decide +kernel
theorem dX8_tonight_1 : decode cX8_tonight 1 = .ok (.getfield 26, 3) := by decide +kernel
theorem dX8_tonight_4 : decode cX8_tonight 4 = .ok (.aload_n 0, 1) := by decide +kernel
theorem dX8_tonight_5 : decode cX8_tonight 5 = .ok (.getfield 33, 3) := by decide +kernel
theorem dX8_tonight_8 : decode cX8_tonight 8 = .ok (.aload_n 0, 1) := by decide +kernel
theorem dX8_tonight_9 : decode cX8_tonight 9 = .ok (.getfield 33, 3) := by decide +kernel
theorem dX8_tonight_12 : decode cX8_tonight 12 = .ok (.getfield 165, 3) := by decide +kernel
theorem dX8_tonight_15 : decode cX8_tonight 15 = .ok (.aload_n 0, 1) := by decide +kernel
theorem dX8_tonight_16 : decode cX8_tonight 16 = .ok (.getfield 26, 3) := by decide +kernel
theorem dX8_tonight_19 : decode cX8_tonight 19 = .ok (.getfield 172, 3) := by decide +kernel
theorem dX8_tonight_22 : decode cX8_tonight 22 = .ok (.invokevirtual 282, 3) := by decide +kernel
theorem dX8_tonight_25 : decode cX8_tonight 25 = .ok (.aload_n 0, 1) := by decide +kernel
theorem dX8_tonight_26 : decode cX8_tonight 26 = .ok (.getfield 19, 3) := by decide +kernel
theorem dX8_tonight_29 : decode cX8_tonight 29 = .ok (.aload_n 0, 1) := by decide +kernel
theorem dX8_tonight_30 : decode cX8_tonight 30 = .ok (.getfield 26, 3) := by decide +kernel
theorem dX8_tonight_33 : decode cX8_tonight 33 = .ok (.getfield 286, 3) := by decide +kernel
theorem dX8_tonight_36 : decode cX8_tonight 36 = .ok (.i2l, 1) := by decide +kernel
theorem dX8_tonight_37 : decode cX8_tonight 37 = .ok (.aload_n 0, 1) := by decide +kernel
theorem dX8_tonight_38 : decode cX8_tonight 38 = .ok (.getfield 26, 3) := by decide +kernel
theorem dX8_tonight_41 : decode cX8_tonight 41 = .ok (.getfield 289, 3) := by decide +kernel
theorem dX8_tonight_44 : decode cX8_tonight 44 = .ok (.i2l, 1) := by decide +kernel
theorem dX8_tonight_45 : decode cX8_tonight 45 = .ok (.invokevirtual 229, 3) := by decide +kernel
theorem dX8_tonight_48 : decode cX8_tonight 48 = .ok (.aload_n 0, 1) := by decide +kernel
theorem dX8_tonight_49 : decode cX8_tonight 49 = .ok (.getfield 26, 3) := by decide +kernel
theorem dX8_tonight_52 : decode cX8_tonight 52 = .ok (.getfield 292, 3) := by decide +kernel
theorem dX8_tonight_55 : decode cX8_tonight 55 = .ok (.ireturn, 1) := by decide +kernel
theorem dX8_later_0 : decode cX8_later 0 = .ok (.iload_n 1, 1) := by decide +kernel
theorem dX8_later_1 : decode cX8_later 1 = .ok (.ifCond .lt 9, 3) := by decide +kernel
theorem dX8_later_4 : decode cX8_later 4 = .ok (.iload_n 1, 1) := by decide +kernel
theorem dX8_later_5 : decode cX8_later 5 = .ok (.bipush 99, 2) := by decide +kernel
theorem dX8_later_7 : decode cX8_later 7 = .ok (.if_icmp .le 5, 3) := by decide +kernel
theorem dX8_later_10 : decode cX8_later 10 = .ok (.iconst (-1), 1) := by decide +kernel
theorem dX8_later_11 : decode cX8_later 11 = .ok (.ireturn, 1) := by decide +kernel
theorem dX8_later_12 : decode cX8_later 12 = .ok (.aload_n 0, 1) := by decide +kernel
theorem dX8_later_13 : decode cX8_later 13 = .ok (.iload_n 1, 1) := by decide +kernel
theorem dX8_later_14 : decode cX8_later 14 = .ok (.aload_n 0, 1) := by decide +kernel
theorem dX8_later_15 : decode cX8_later 15 = .ok (.getfield 26, 3) := by decide +kernel
theorem dX8_later_18 : decode cX8_later 18 = .ok (.getfield 172, 3) := by decide +kernel
theorem dX8_later_21 : decode cX8_later 21 = .ok (.invokevirtual 295, 3) := by decide +kernel
theorem dX8_later_24 : decode cX8_later 24 = .ok (.istore_n 2, 1) := by decide +kernel
theorem dX8_later_25 : decode cX8_later 25 = .ok (.aload_n 0, 1) := by decide +kernel
theorem dX8_later_26 : decode cX8_later 26 = .ok (.getfield 19, 3) := by decide +kernel
theorem dX8_later_29 : decode cX8_later 29 = .ok (.aload_n 0, 1) := by decide +kernel
theorem dX8_later_30 : decode cX8_later 30 = .ok (.getfield 40, 3) := by decide +kernel
theorem dX8_later_33 : decode cX8_later 33 = .ok (.getfield 223, 3) := by decide +kernel
theorem dX8_later_36 : decode cX8_later 36 = .ok (.i2l, 1) := by decide +kernel
theorem dX8_later_37 : decode cX8_later 37 = .ok (.aload_n 0, 1) := by decide +kernel
theorem dX8_later_38 : decode cX8_later 38 = .ok (.getfield 40, 3) := by decide +kernel
theorem dX8_later_41 : decode cX8_later 41 = .ok (.getfield 226, 3) := by decide +kernel
theorem dX8_later_44 : decode cX8_later 44 = .ok (.i2l, 1) := by decide +kernel
theorem dX8_later_45 : decode cX8_later 45 = .ok (.invokevirtual 229, 3) := by decide +kernel
theorem dX8_later_48 : decode cX8_later 48 = .ok (.iload_n 2, 1) := by decide +kernel
theorem dX8_later_49 : decode cX8_later 49 = .ok (.ireturn, 1) := by decide +kernel
theorem dX8_bookIn_0 : decode cX8_bookIn 0 = .ok (.aload_n 0, 1) := by decide +kernel
theorem dX8_bookIn_1 : decode cX8_bookIn 1 = .ok (.getfield 40, 3) := by decide +kernel
theorem dX8_bookIn_4 : decode cX8_bookIn 4 = .ok (.aload_n 0, 1) := by decide +kernel
theorem dX8_bookIn_5 : decode cX8_bookIn 5 = .ok (.getfield 33, 3) := by decide +kernel
theorem dX8_bookIn_8 : decode cX8_bookIn 8 = .ok (.invokevirtual 212, 3) := by decide +kernel
theorem dX8_bookIn_11 : decode cX8_bookIn 11 = .ok (.iconst 0, 1) := by decide +kernel
theorem dX8_bookIn_12 : decode cX8_bookIn 12 = .ok (.istore_n 3, 1) := by decide +kernel
theorem dX8_bookIn_13 : decode cX8_bookIn 13 = .ok (.iload_n 3, 1) := by decide +kernel
theorem dX8_bookIn_14 : decode cX8_bookIn 14 = .ok (.iload_n 1, 1) := by decide +kernel
theorem dX8_bookIn_15 : decode cX8_bookIn 15 = .ok (.if_icmp .ge 21, 3) := by decide +kernel
theorem dX8_bookIn_18 : decode cX8_bookIn 18 = .ok (.aload_n 0, 1) := by decide +kernel
theorem dX8_bookIn_19 : decode cX8_bookIn 19 = .ok (.getfield 26, 3) := by decide +kernel
theorem dX8_bookIn_22 : decode cX8_bookIn 22 = .ok (.aload_n 0, 1) := by decide +kernel
theorem dX8_bookIn_23 : decode cX8_bookIn 23 = .ok (.getfield 40, 3) := by decide +kernel
theorem dX8_bookIn_26 : decode cX8_bookIn 26 = .ok (.aload_n 2, 1) := by decide +kernel
theorem dX8_bookIn_27 : decode cX8_bookIn 27 = .ok (.invokevirtual 252, 3) := by decide +kernel
theorem dX8_bookIn_30 : decode cX8_bookIn 30 = .ok (.iinc 3 1, 3) := by decide +kernel
theorem dX8_bookIn_33 : decode cX8_bookIn 33 = .ok (.goto (-20), 3) := by decide +kernel
theorem dX8_bookIn_36 : decode cX8_bookIn 36 = .ok (.aload_n 0, 1) := by decide +kernel
theorem dX8_bookIn_37 : decode cX8_bookIn 37 = .ok (.getfield 40, 3) := by decide +kernel
theorem dX8_bookIn_40 : decode cX8_bookIn 40 = .ok (.getfield 256, 3) := by decide +kernel
theorem dX8_bookIn_43 : decode cX8_bookIn 43 = .ok (.ireturn, 1) := by decide +kernel
theorem dX8_enough_0 : decode cX8_enough 0 = .ok (.iload_n 1, 1) := by decide +kernel
theorem dX8_enough_1 : decode cX8_enough 1 = .ok (.ifCond .lt 10, 3) := by decide +kernel
theorem dX8_enough_4 : decode cX8_enough 4 = .ok (.iload_n 1, 1) := by decide +kernel
theorem dX8_enough_5 : decode cX8_enough 5 = .ok (.sipush 9999, 3) := by decide +kernel
theorem dX8_enough_8 : decode cX8_enough 8 = .ok (.if_icmp .le 5, 3) := by decide +kernel
theorem dX8_enough_11 : decode cX8_enough 11 = .ok (.iconst (-1), 1) := by decide +kernel
theorem dX8_enough_12 : decode cX8_enough 12 = .ok (.ireturn, 1) := by decide +kernel
theorem dX8_enough_13 : decode cX8_enough 13 = .ok (.aload_n 0, 1) := by decide +kernel
theorem dX8_enough_14 : decode cX8_enough 14 = .ok (.getfield 40, 3) := by decide +kernel
theorem dX8_enough_17 : decode cX8_enough 17 = .ok (.aload_n 0, 1) := by decide +kernel
theorem dX8_enough_18 : decode cX8_enough 18 = .ok (.getfield 33, 3) := by decide +kernel
theorem dX8_enough_21 : decode cX8_enough 21 = .ok (.invokevirtual 212, 3) := by decide +kernel
theorem dX8_enough_24 : decode cX8_enough 24 = .ok (.iconst 0, 1) := by decide +kernel
theorem dX8_enough_25 : decode cX8_enough 25 = .ok (.istore_n 2, 1) := by decide +kernel
theorem dX8_enough_26 : decode cX8_enough 26 = .ok (.iload_n 2, 1) := by decide +kernel
theorem dX8_enough_27 : decode cX8_enough 27 = .ok (.bipush 99, 2) := by decide +kernel
theorem dX8_enough_29 : decode cX8_enough 29 = .ok (.if_icmp .gt 55, 3) := by decide +kernel
theorem dX8_enough_32 : decode cX8_enough 32 = .ok (.aload_n 0, 1) := by decide +kernel
theorem dX8_enough_33 : decode cX8_enough 33 = .ok (.getfield 40, 3) := by decide +kernel
theorem dX8_enough_36 : decode cX8_enough 36 = .ok (.getfield 256, 3) := by decide +kernel
theorem dX8_enough_39 : decode cX8_enough 39 = .ok (.iload_n 1, 1) := by decide +kernel
theorem dX8_enough_40 : decode cX8_enough 40 = .ok (.if_icmp .lt 20, 3) := by decide +kernel
theorem dX8_enough_43 : decode cX8_enough 43 = .ok (.aload_n 0, 1) := by decide +kernel
theorem dX8_enough_44 : decode cX8_enough 44 = .ok (.getfield 19, 3) := by decide +kernel
theorem dX8_enough_47 : decode cX8_enough 47 = .ok (.aload_n 0, 1) := by decide +kernel
theorem dX8_enough_48 : decode cX8_enough 48 = .ok (.getfield 40, 3) := by decide +kernel
theorem dX8_enough_51 : decode cX8_enough 51 = .ok (.getfield 223, 3) := by decide +kernel
theorem dX8_enough_54 : decode cX8_enough 54 = .ok (.i2l, 1) := by decide +kernel
theorem dX8_enough_55 : decode cX8_enough 55 = .ok (.invokevirtual 299, 3) := by decide +kernel
theorem dX8_enough_58 : decode cX8_enough 58 = .ok (.iload_n 2, 1) := by decide +kernel
theorem dX8_enough_59 : decode cX8_enough 59 = .ok (.ireturn, 1) := by decide +kernel
theorem dX8_enough_60 : decode cX8_enough 60 = .ok (.aload_n 0, 1) := by decide +kernel
theorem dX8_enough_61 : decode cX8_enough 61 = .ok (.getfield 26, 3) := by decide +kernel
theorem dX8_enough_64 : decode cX8_enough 64 = .ok (.aload_n 0, 1) := by decide +kernel
theorem dX8_enough_65 : decode cX8_enough 65 = .ok (.getfield 40, 3) := by decide +kernel
theorem dX8_enough_68 : decode cX8_enough 68 = .ok (.aload_n 0, 1) := by decide +kernel
theorem dX8_enough_69 : decode cX8_enough 69 = .ok (.getfield 26, 3) := by decide +kernel
theorem dX8_enough_72 : decode cX8_enough 72 = .ok (.getfield 172, 3) := by decide +kernel
theorem dX8_enough_75 : decode cX8_enough 75 = .ok (.invokevirtual 252, 3) := by decide +kernel
theorem dX8_enough_78 : decode cX8_enough 78 = .ok (.iinc 2 1, 3) := by decide +kernel
theorem dX8_enough_81 : decode cX8_enough 81 = .ok (.goto (-55), 3) := by decide +kernel
theorem dX8_enough_84 : decode cX8_enough 84 = .ok (.bipush (-2), 2) := by decide +kernel
theorem dX8_enough_86 : decode cX8_enough 86 = .ok (.ireturn, 1) := by decide +kernel
theorem dX8_drains_0 : decode cX8_drains 0 = .ok (.aload_n 0, 1) := by decide +kernel
theorem dX8_drains_1 : decode cX8_drains 1 = .ok (.getfield 26, 3) := by decide +kernel
theorem dX8_drains_4 : decode cX8_drains 4 = .ok (.aload_n 0, 1) := by decide +kernel
theorem dX8_drains_5 : decode cX8_drains 5 = .ok (.getfield 33, 3) := by decide +kernel
theorem dX8_drains_8 : decode cX8_drains 8 = .ok (.aload_n 0, 1) := by decide +kernel
theorem dX8_drains_9 : decode cX8_drains 9 = .ok (.getfield 33, 3) := by decide +kernel
theorem dX8_drains_12 : decode cX8_drains 12 = .ok (.getfield 165, 3) := by decide +kernel
theorem dX8_drains_15 : decode cX8_drains 15 = .ok (.aload_n 0, 1) := by decide +kernel
theorem dX8_drains_16 : decode cX8_drains 16 = .ok (.getfield 26, 3) := by decide +kernel
theorem dX8_drains_19 : decode cX8_drains 19 = .ok (.getfield 172, 3) := by decide +kernel
theorem dX8_drains_22 : decode cX8_drains 22 = .ok (.invokevirtual 282, 3) := by decide +kernel
theorem dX8_drains_25 : decode cX8_drains 25 = .ok (.aload_n 0, 1) := by decide +kernel
theorem dX8_drains_26 : decode cX8_drains 26 = .ok (.getfield 26, 3) := by decide +kernel
theorem dX8_drains_29 : decode cX8_drains 29 = .ok (.getfield 289, 3) := by decide +kernel
theorem dX8_drains_32 : decode cX8_drains 32 = .ok (.istore_n 1, 1) := by decide +kernel
theorem dX8_drains_33 : decode cX8_drains 33 = .ok (.bipush (-2), 2) := by decide +kernel
theorem dX8_drains_35 : decode cX8_drains 35 = .ok (.istore_n 2, 1) := by decide +kernel
theorem dX8_drains_36 : decode cX8_drains 36 = .ok (.iconst 0, 1) := by decide +kernel
theorem dX8_drains_37 : decode cX8_drains 37 = .ok (.istore_n 3, 1) := by decide +kernel
theorem dX8_drains_38 : decode cX8_drains 38 = .ok (.iconst 0, 1) := by decide +kernel
theorem dX8_drains_39 : decode cX8_drains 39 = .ok (.istore 4, 2) := by decide +kernel
theorem dX8_drains_41 : decode cX8_drains 41 = .ok (.iload 4, 2) := by decide +kernel
theorem dX8_drains_43 : decode cX8_drains 43 = .ok (.aload_n 0, 1) := by decide +kernel
theorem dX8_drains_44 : decode cX8_drains 44 = .ok (.getfield 26, 3) := by decide +kernel
theorem dX8_drains_47 : decode cX8_drains 47 = .ok (.getfield 136, 3) := by decide +kernel
theorem dX8_drains_50 : decode cX8_drains 50 = .ok (.if_icmp .ge 86, 3) := by decide +kernel
theorem dX8_drains_53 : decode cX8_drains 53 = .ok (.aload_n 0, 1) := by decide +kernel
theorem dX8_drains_54 : decode cX8_drains 54 = .ok (.getfield 33, 3) := by decide +kernel
theorem dX8_drains_57 : decode cX8_drains 57 = .ok (.getfield 165, 3) := by decide +kernel
theorem dX8_drains_60 : decode cX8_drains 60 = .ok (.iload 4, 2) := by decide +kernel
theorem dX8_drains_62 : decode cX8_drains 62 = .ok (.ishr, 1) := by decide +kernel
theorem dX8_drains_63 : decode cX8_drains 63 = .ok (.iconst 1, 1) := by decide +kernel
theorem dX8_drains_64 : decode cX8_drains 64 = .ok (.iand, 1) := by decide +kernel
theorem dX8_drains_65 : decode cX8_drains 65 = .ok (.ifCond .eq 65, 3) := by decide +kernel
theorem dX8_drains_68 : decode cX8_drains 68 = .ok (.aload_n 0, 1) := by decide +kernel
theorem dX8_drains_69 : decode cX8_drains 69 = .ok (.getfield 26, 3) := by decide +kernel
theorem dX8_drains_72 : decode cX8_drains 72 = .ok (.aload_n 0, 1) := by decide +kernel
theorem dX8_drains_73 : decode cX8_drains 73 = .ok (.getfield 33, 3) := by decide +kernel
theorem dX8_drains_76 : decode cX8_drains 76 = .ok (.aload_n 0, 1) := by decide +kernel
theorem dX8_drains_77 : decode cX8_drains 77 = .ok (.getfield 33, 3) := by decide +kernel
theorem dX8_drains_80 : decode cX8_drains 80 = .ok (.getfield 165, 3) := by decide +kernel
theorem dX8_drains_83 : decode cX8_drains 83 = .ok (.iconst 1, 1) := by decide +kernel
theorem dX8_drains_84 : decode cX8_drains 84 = .ok (.iload 4, 2) := by decide +kernel
theorem dX8_drains_86 : decode cX8_drains 86 = .ok (.ishl, 1) := by decide +kernel
theorem dX8_drains_87 : decode cX8_drains 87 = .ok (.iconst (-1), 1) := by decide +kernel
theorem dX8_drains_88 : decode cX8_drains 88 = .ok (.ixor, 1) := by decide +kernel
theorem dX8_drains_89 : decode cX8_drains 89 = .ok (.iand, 1) := by decide +kernel
theorem dX8_drains_90 : decode cX8_drains 90 = .ok (.aload_n 0, 1) := by decide +kernel
theorem dX8_drains_91 : decode cX8_drains 91 = .ok (.getfield 26, 3) := by decide +kernel
theorem dX8_drains_94 : decode cX8_drains 94 = .ok (.getfield 172, 3) := by decide +kernel
theorem dX8_drains_97 : decode cX8_drains 97 = .ok (.invokevirtual 282, 3) := by decide +kernel
theorem dX8_drains_100 : decode cX8_drains 100 = .ok (.iload_n 2, 1) := by decide +kernel
theorem dX8_drains_101 : decode cX8_drains 101 = .ok (.ifCond .lt 16, 3) := by decide +kernel
theorem dX8_drains_104 : decode cX8_drains 104 = .ok (.aload_n 0, 1) := by decide +kernel
theorem dX8_drains_105 : decode cX8_drains 105 = .ok (.getfield 26, 3) := by decide +kernel
theorem dX8_drains_108 : decode cX8_drains 108 = .ok (.getfield 289, 3) := by decide +kernel
theorem dX8_drains_111 : decode cX8_drains 111 = .ok (.iload_n 1, 1) := by decide +kernel
theorem dX8_drains_112 : decode cX8_drains 112 = .ok (.isub, 1) := by decide +kernel
theorem dX8_drains_113 : decode cX8_drains 113 = .ok (.iload_n 3, 1) := by decide +kernel
theorem dX8_drains_114 : decode cX8_drains 114 = .ok (.if_icmp .le 16, 3) := by decide +kernel
theorem dX8_drains_117 : decode cX8_drains 117 = .ok (.iload 4, 2) := by decide +kernel
theorem dX8_drains_119 : decode cX8_drains 119 = .ok (.istore_n 2, 1) := by decide +kernel
theorem dX8_drains_120 : decode cX8_drains 120 = .ok (.aload_n 0, 1) := by decide +kernel
theorem dX8_drains_121 : decode cX8_drains 121 = .ok (.getfield 26, 3) := by decide +kernel
theorem dX8_drains_124 : decode cX8_drains 124 = .ok (.getfield 289, 3) := by decide +kernel
theorem dX8_drains_127 : decode cX8_drains 127 = .ok (.iload_n 1, 1) := by decide +kernel
theorem dX8_drains_128 : decode cX8_drains 128 = .ok (.isub, 1) := by decide +kernel
theorem dX8_drains_129 : decode cX8_drains 129 = .ok (.istore_n 3, 1) := by decide +kernel
theorem dX8_drains_130 : decode cX8_drains 130 = .ok (.iinc 4 1, 3) := by decide +kernel
theorem dX8_drains_133 : decode cX8_drains 133 = .ok (.goto (-92), 3) := by decide +kernel
theorem dX8_drains_136 : decode cX8_drains 136 = .ok (.iload_n 2, 1) := by decide +kernel
theorem dX8_drains_137 : decode cX8_drains 137 = .ok (.ifCond .lt 12, 3) := by decide +kernel
theorem dX8_drains_140 : decode cX8_drains 140 = .ok (.aload_n 0, 1) := by decide +kernel
theorem dX8_drains_141 : decode cX8_drains 141 = .ok (.getfield 19, 3) := by decide +kernel
theorem dX8_drains_144 : decode cX8_drains 144 = .ok (.iload_n 3, 1) := by decide +kernel
theorem dX8_drains_145 : decode cX8_drains 145 = .ok (.i2l, 1) := by decide +kernel
theorem dX8_drains_146 : decode cX8_drains 146 = .ok (.invokevirtual 299, 3) := by decide +kernel
theorem dX8_drains_149 : decode cX8_drains 149 = .ok (.iload_n 2, 1) := by decide +kernel
theorem dX8_drains_150 : decode cX8_drains 150 = .ok (.ireturn, 1) := by decide +kernel
theorem dX8_hears_0 : decode cX8_hears 0 = .ok (.aload_n 0, 1) := by decide +kernel
theorem dX8_hears_1 : decode cX8_hears 1 = .ok (.getfield 26, 3) := by decide +kernel
theorem dX8_hears_4 : decode cX8_hears 4 = .ok (.iload_n 1, 1) := by decide +kernel
theorem dX8_hears_5 : decode cX8_hears 5 = .ok (.invokevirtual 175, 3) := by decide +kernel
theorem dX8_hears_8 : decode cX8_hears 8 = .ok (.ifCond .eq 13, 3) := by decide +kernel
theorem dX8_hears_11 : decode cX8_hears 11 = .ok (.iload_n 2, 1) := by decide +kernel
theorem dX8_hears_12 : decode cX8_hears 12 = .ok (.ifCond .lt 9, 3) := by decide +kernel
theorem dX8_hears_15 : decode cX8_hears 15 = .ok (.iload_n 2, 1) := by decide +kernel
theorem dX8_hears_16 : decode cX8_hears 16 = .ok (.bipush 99, 2) := by decide +kernel
theorem dX8_hears_18 : decode cX8_hears 18 = .ok (.if_icmp .le 5, 3) := by decide +kernel
theorem dX8_hears_21 : decode cX8_hears 21 = .ok (.iconst (-1), 1) := by decide +kernel
theorem dX8_hears_22 : decode cX8_hears 22 = .ok (.ireturn, 1) := by decide +kernel
theorem dX8_hears_23 : decode cX8_hears 23 = .ok (.aload_n 0, 1) := by decide +kernel
theorem dX8_hears_24 : decode cX8_hears 24 = .ok (.getfield 40, 3) := by decide +kernel
theorem dX8_hears_27 : decode cX8_hears 27 = .ok (.aload_n 0, 1) := by decide +kernel
theorem dX8_hears_28 : decode cX8_hears 28 = .ok (.getfield 33, 3) := by decide +kernel
theorem dX8_hears_31 : decode cX8_hears 31 = .ok (.invokevirtual 212, 3) := by decide +kernel
theorem dX8_hears_34 : decode cX8_hears 34 = .ok (.iconst 0, 1) := by decide +kernel
theorem dX8_hears_35 : decode cX8_hears 35 = .ok (.istore_n 3, 1) := by decide +kernel
theorem dX8_hears_36 : decode cX8_hears 36 = .ok (.iload_n 3, 1) := by decide +kernel
theorem dX8_hears_37 : decode cX8_hears 37 = .ok (.bipush 99, 2) := by decide +kernel
theorem dX8_hears_39 : decode cX8_hears 39 = .ok (.if_icmp .gt 57, 3) := by decide +kernel
theorem dX8_hears_42 : decode cX8_hears 42 = .ok (.aload_n 0, 1) := by decide +kernel
theorem dX8_hears_43 : decode cX8_hears 43 = .ok (.getfield 40, 3) := by decide +kernel
theorem dX8_hears_46 : decode cX8_hears 46 = .ok (.getfield 159, 3) := by decide +kernel
theorem dX8_hears_49 : decode cX8_hears 49 = .ok (.iload_n 1, 1) := by decide +kernel
theorem dX8_hears_50 : decode cX8_hears 50 = .ok (.iaload, 1) := by decide +kernel
theorem dX8_hears_51 : decode cX8_hears 51 = .ok (.iload_n 2, 1) := by decide +kernel
theorem dX8_hears_52 : decode cX8_hears 52 = .ok (.if_icmp .lt 20, 3) := by decide +kernel
theorem dX8_hears_55 : decode cX8_hears 55 = .ok (.aload_n 0, 1) := by decide +kernel
theorem dX8_hears_56 : decode cX8_hears 56 = .ok (.getfield 19, 3) := by decide +kernel
theorem dX8_hears_59 : decode cX8_hears 59 = .ok (.aload_n 0, 1) := by decide +kernel
theorem dX8_hears_60 : decode cX8_hears 60 = .ok (.getfield 40, 3) := by decide +kernel
theorem dX8_hears_63 : decode cX8_hears 63 = .ok (.getfield 256, 3) := by decide +kernel
theorem dX8_hears_66 : decode cX8_hears 66 = .ok (.i2l, 1) := by decide +kernel
theorem dX8_hears_67 : decode cX8_hears 67 = .ok (.invokevirtual 299, 3) := by decide +kernel
theorem dX8_hears_70 : decode cX8_hears 70 = .ok (.iload_n 3, 1) := by decide +kernel
theorem dX8_hears_71 : decode cX8_hears 71 = .ok (.ireturn, 1) := by decide +kernel
theorem dX8_hears_72 : decode cX8_hears 72 = .ok (.aload_n 0, 1) := by decide +kernel
theorem dX8_hears_73 : decode cX8_hears 73 = .ok (.getfield 26, 3) := by decide +kernel
theorem dX8_hears_76 : decode cX8_hears 76 = .ok (.aload_n 0, 1) := by decide +kernel
theorem dX8_hears_77 : decode cX8_hears 77 = .ok (.getfield 40, 3) := by decide +kernel
theorem dX8_hears_80 : decode cX8_hears 80 = .ok (.aload_n 0, 1) := by decide +kernel
theorem dX8_hears_81 : decode cX8_hears 81 = .ok (.getfield 26, 3) := by decide +kernel
theorem dX8_hears_84 : decode cX8_hears 84 = .ok (.getfield 172, 3) := by decide +kernel
theorem dX8_hears_87 : decode cX8_hears 87 = .ok (.invokevirtual 252, 3) := by decide +kernel
theorem dX8_hears_90 : decode cX8_hears 90 = .ok (.iinc 3 1, 3) := by decide +kernel
theorem dX8_hears_93 : decode cX8_hears 93 = .ok (.goto (-57), 3) := by decide +kernel
theorem dX8_hears_96 : decode cX8_hears 96 = .ok (.bipush (-2), 2) := by decide +kernel
theorem dX8_hears_98 : decode cX8_hears 98 = .ok (.ireturn, 1) := by decide +kernel
theorem dX8_quiet_0 : decode cX8_quiet 0 = .ok (.iload_n 1, 1) := by decide +kernel
theorem dX8_quiet_1 : decode cX8_quiet 1 = .ok (.ifCond .lt 9, 3) := by decide +kernel
theorem dX8_quiet_4 : decode cX8_quiet 4 = .ok (.iload_n 1, 1) := by decide +kernel
theorem dX8_quiet_5 : decode cX8_quiet 5 = .ok (.bipush 60, 2) := by decide +kernel
theorem dX8_quiet_7 : decode cX8_quiet 7 = .ok (.if_icmp .le 5, 3) := by decide +kernel
theorem dX8_quiet_10 : decode cX8_quiet 10 = .ok (.iconst (-1), 1) := by decide +kernel
theorem dX8_quiet_11 : decode cX8_quiet 11 = .ok (.ireturn, 1) := by decide +kernel
theorem dX8_quiet_12 : decode cX8_quiet 12 = .ok (.aload_n 0, 1) := by decide +kernel
theorem dX8_quiet_13 : decode cX8_quiet 13 = .ok (.getfield 40, 3) := by decide +kernel
theorem dX8_quiet_16 : decode cX8_quiet 16 = .ok (.aload_n 0, 1) := by decide +kernel
theorem dX8_quiet_17 : decode cX8_quiet 17 = .ok (.getfield 33, 3) := by decide +kernel
theorem dX8_quiet_20 : decode cX8_quiet 20 = .ok (.invokevirtual 212, 3) := by decide +kernel
theorem dX8_quiet_23 : decode cX8_quiet 23 = .ok (.iconst 0, 1) := by decide +kernel
theorem dX8_quiet_24 : decode cX8_quiet 24 = .ok (.istore_n 2, 1) := by decide +kernel
theorem dX8_quiet_25 : decode cX8_quiet 25 = .ok (.iconst (-1), 1) := by decide +kernel
theorem dX8_quiet_26 : decode cX8_quiet 26 = .ok (.istore_n 3, 1) := by decide +kernel
theorem dX8_quiet_27 : decode cX8_quiet 27 = .ok (.iconst 0, 1) := by decide +kernel
theorem dX8_quiet_28 : decode cX8_quiet 28 = .ok (.istore 4, 2) := by decide +kernel
theorem dX8_quiet_30 : decode cX8_quiet 30 = .ok (.iconst 0, 1) := by decide +kernel
theorem dX8_quiet_31 : decode cX8_quiet 31 = .ok (.istore 5, 2) := by decide +kernel
theorem dX8_quiet_33 : decode cX8_quiet 33 = .ok (.iload 5, 2) := by decide +kernel
theorem dX8_quiet_35 : decode cX8_quiet 35 = .ok (.iload_n 1, 1) := by decide +kernel
theorem dX8_quiet_36 : decode cX8_quiet 36 = .ok (.if_icmp .ge 64, 3) := by decide +kernel
theorem dX8_quiet_39 : decode cX8_quiet 39 = .ok (.aload_n 0, 1) := by decide +kernel
theorem dX8_quiet_40 : decode cX8_quiet 40 = .ok (.getfield 26, 3) := by decide +kernel
theorem dX8_quiet_43 : decode cX8_quiet 43 = .ok (.aload_n 0, 1) := by decide +kernel
theorem dX8_quiet_44 : decode cX8_quiet 44 = .ok (.getfield 40, 3) := by decide +kernel
theorem dX8_quiet_47 : decode cX8_quiet 47 = .ok (.aload_n 0, 1) := by decide +kernel
theorem dX8_quiet_48 : decode cX8_quiet 48 = .ok (.getfield 26, 3) := by decide +kernel
theorem dX8_quiet_51 : decode cX8_quiet 51 = .ok (.getfield 172, 3) := by decide +kernel
theorem dX8_quiet_54 : decode cX8_quiet 54 = .ok (.invokevirtual 252, 3) := by decide +kernel
theorem dX8_quiet_57 : decode cX8_quiet 57 = .ok (.aload_n 0, 1) := by decide +kernel
theorem dX8_quiet_58 : decode cX8_quiet 58 = .ok (.getfield 26, 3) := by decide +kernel
theorem dX8_quiet_61 : decode cX8_quiet 61 = .ok (.getfield 292, 3) := by decide +kernel
theorem dX8_quiet_64 : decode cX8_quiet 64 = .ok (.ifCond .ne 10, 3) := by decide +kernel
theorem dX8_quiet_67 : decode cX8_quiet 67 = .ok (.iload 4, 2) := by decide +kernel
theorem dX8_quiet_69 : decode cX8_quiet 69 = .ok (.iconst 1, 1) := by decide +kernel
theorem dX8_quiet_70 : decode cX8_quiet 70 = .ok (.iadd, 1) := by decide +kernel
theorem dX8_quiet_71 : decode cX8_quiet 71 = .ok (.goto 4, 3) := by decide +kernel
theorem dX8_quiet_74 : decode cX8_quiet 74 = .ok (.iconst 0, 1) := by decide +kernel
theorem dX8_quiet_75 : decode cX8_quiet 75 = .ok (.istore 4, 2) := by decide +kernel
theorem dX8_quiet_77 : decode cX8_quiet 77 = .ok (.iload 4, 2) := by decide +kernel
theorem dX8_quiet_79 : decode cX8_quiet 79 = .ok (.iload_n 2, 1) := by decide +kernel
theorem dX8_quiet_80 : decode cX8_quiet 80 = .ok (.if_icmp .le 14, 3) := by decide +kernel
theorem dX8_quiet_83 : decode cX8_quiet 83 = .ok (.iload 4, 2) := by decide +kernel
theorem dX8_quiet_85 : decode cX8_quiet 85 = .ok (.istore_n 2, 1) := by decide +kernel
theorem dX8_quiet_86 : decode cX8_quiet 86 = .ok (.iload 5, 2) := by decide +kernel
theorem dX8_quiet_88 : decode cX8_quiet 88 = .ok (.iload 4, 2) := by decide +kernel
theorem dX8_quiet_90 : decode cX8_quiet 90 = .ok (.isub, 1) := by decide +kernel
theorem dX8_quiet_91 : decode cX8_quiet 91 = .ok (.iconst 1, 1) := by decide +kernel
theorem dX8_quiet_92 : decode cX8_quiet 92 = .ok (.iadd, 1) := by decide +kernel
theorem dX8_quiet_93 : decode cX8_quiet 93 = .ok (.istore_n 3, 1) := by decide +kernel
theorem dX8_quiet_94 : decode cX8_quiet 94 = .ok (.iinc 5 1, 3) := by decide +kernel
theorem dX8_quiet_97 : decode cX8_quiet 97 = .ok (.goto (-64), 3) := by decide +kernel
theorem dX8_quiet_100 : decode cX8_quiet 100 = .ok (.aload_n 0, 1) := by decide +kernel
theorem dX8_quiet_101 : decode cX8_quiet 101 = .ok (.getfield 19, 3) := by decide +kernel
theorem dX8_quiet_104 : decode cX8_quiet 104 = .ok (.iload_n 3, 1) := by decide +kernel
theorem dX8_quiet_105 : decode cX8_quiet 105 = .ok (.i2l, 1) := by decide +kernel
theorem dX8_quiet_106 : decode cX8_quiet 106 = .ok (.invokevirtual 299, 3) := by decide +kernel
theorem dX8_quiet_109 : decode cX8_quiet 109 = .ok (.iload_n 2, 1) := by decide +kernel
theorem dX8_quiet_110 : decode cX8_quiet 110 = .ok (.ireturn, 1) := by decide +kernel
theorem dX8_admits_0 : decode cX8_admits 0 = .ok (.iload_n 1, 1) := by decide +kernel
theorem dX8_admits_1 : decode cX8_admits 1 = .ok (.ifCond .lt 9, 3) := by decide +kernel
theorem dX8_admits_4 : decode cX8_admits 4 = .ok (.iload_n 1, 1) := by decide +kernel
theorem dX8_admits_5 : decode cX8_admits 5 = .ok (.bipush 9, 2) := by decide +kernel
theorem dX8_admits_7 : decode cX8_admits 7 = .ok (.if_icmp .le 5, 3) := by decide +kernel
theorem dX8_admits_10 : decode cX8_admits 10 = .ok (.iconst (-1), 1) := by decide +kernel
theorem dX8_admits_11 : decode cX8_admits 11 = .ok (.ireturn, 1) := by decide +kernel
theorem dX8_admits_12 : decode cX8_admits 12 = .ok (.aload_n 0, 1) := by decide +kernel
theorem dX8_admits_13 : decode cX8_admits 13 = .ok (.getfield 73, 3) := by decide +kernel
theorem dX8_admits_16 : decode cX8_admits 16 = .ok (.aload_n 0, 1) := by decide +kernel
theorem dX8_admits_17 : decode cX8_admits 17 = .ok (.getfield 26, 3) := by decide +kernel
theorem dX8_admits_20 : decode cX8_admits 20 = .ok (.aload_n 0, 1) := by decide +kernel
theorem dX8_admits_21 : decode cX8_admits 21 = .ok (.getfield 33, 3) := by decide +kernel
theorem dX8_admits_24 : decode cX8_admits 24 = .ok (.aload_n 0, 1) := by decide +kernel
theorem dX8_admits_25 : decode cX8_admits 25 = .ok (.getfield 33, 3) := by decide +kernel
theorem dX8_admits_28 : decode cX8_admits 28 = .ok (.getfield 184, 3) := by decide +kernel
theorem dX8_admits_31 : decode cX8_admits 31 = .ok (.iconst 0, 1) := by decide +kernel
theorem dX8_admits_32 : decode cX8_admits 32 = .ok (.invokevirtual 302, 3) := by decide +kernel
theorem dX8_admits_35 : decode cX8_admits 35 = .ok (.bipush (-2), 2) := by decide +kernel
theorem dX8_admits_37 : decode cX8_admits 37 = .ok (.istore_n 2, 1) := by decide +kernel
theorem dX8_admits_38 : decode cX8_admits 38 = .ok (.iconst 0, 1) := by decide +kernel
theorem dX8_admits_39 : decode cX8_admits 39 = .ok (.istore_n 3, 1) := by decide +kernel
theorem dX8_admits_40 : decode cX8_admits 40 = .ok (.iload_n 3, 1) := by decide +kernel
theorem dX8_admits_41 : decode cX8_admits 41 = .ok (.iconst 1, 1) := by decide +kernel
theorem dX8_admits_42 : decode cX8_admits 42 = .ok (.aload_n 0, 1) := by decide +kernel
theorem dX8_admits_43 : decode cX8_admits 43 = .ok (.getfield 26, 3) := by decide +kernel
theorem dX8_admits_46 : decode cX8_admits 46 = .ok (.getfield 136, 3) := by decide +kernel
theorem dX8_admits_49 : decode cX8_admits 49 = .ok (.ishl, 1) := by decide +kernel
theorem dX8_admits_50 : decode cX8_admits 50 = .ok (.if_icmp .ge 68, 3) := by decide +kernel
theorem dX8_admits_53 : decode cX8_admits 53 = .ok (.aload_n 0, 1) := by decide +kernel
theorem dX8_admits_54 : decode cX8_admits 54 = .ok (.getfield 73, 3) := by decide +kernel
theorem dX8_admits_57 : decode cX8_admits 57 = .ok (.aload_n 0, 1) := by decide +kernel
theorem dX8_admits_58 : decode cX8_admits 58 = .ok (.getfield 26, 3) := by decide +kernel
theorem dX8_admits_61 : decode cX8_admits 61 = .ok (.iload_n 3, 1) := by decide +kernel
theorem dX8_admits_62 : decode cX8_admits 62 = .ok (.invokevirtual 306, 3) := by decide +kernel
theorem dX8_admits_65 : decode cX8_admits 65 = .ok (.aload_n 0, 1) := by decide +kernel
theorem dX8_admits_66 : decode cX8_admits 66 = .ok (.getfield 73, 3) := by decide +kernel
theorem dX8_admits_69 : decode cX8_admits 69 = .ok (.getfield 310, 3) := by decide +kernel
theorem dX8_admits_72 : decode cX8_admits 72 = .ok (.iload_n 1, 1) := by decide +kernel
theorem dX8_admits_73 : decode cX8_admits 73 = .ok (.if_icmp .lt 39, 3) := by decide +kernel
theorem dX8_admits_76 : decode cX8_admits 76 = .ok (.aload_n 0, 1) := by decide +kernel
theorem dX8_admits_77 : decode cX8_admits 77 = .ok (.getfield 73, 3) := by decide +kernel
theorem dX8_admits_80 : decode cX8_admits 80 = .ok (.getfield 311, 3) := by decide +kernel
theorem dX8_admits_83 : decode cX8_admits 83 = .ok (.iload_n 2, 1) := by decide +kernel
theorem dX8_admits_84 : decode cX8_admits 84 = .ok (.if_icmp .le 28, 3) := by decide +kernel
theorem dX8_admits_87 : decode cX8_admits 87 = .ok (.aload_n 0, 1) := by decide +kernel
theorem dX8_admits_88 : decode cX8_admits 88 = .ok (.getfield 73, 3) := by decide +kernel
theorem dX8_admits_91 : decode cX8_admits 91 = .ok (.getfield 311, 3) := by decide +kernel
theorem dX8_admits_94 : decode cX8_admits 94 = .ok (.istore_n 2, 1) := by decide +kernel
theorem dX8_admits_95 : decode cX8_admits 95 = .ok (.aload_n 0, 1) := by decide +kernel
theorem dX8_admits_96 : decode cX8_admits 96 = .ok (.getfield 19, 3) := by decide +kernel
theorem dX8_admits_99 : decode cX8_admits 99 = .ok (.iload_n 3, 1) := by decide +kernel
theorem dX8_admits_100 : decode cX8_admits 100 = .ok (.i2l, 1) := by decide +kernel
theorem dX8_admits_101 : decode cX8_admits 101 = .ok (.aload_n 0, 1) := by decide +kernel
theorem dX8_admits_102 : decode cX8_admits 102 = .ok (.getfield 73, 3) := by decide +kernel
theorem dX8_admits_105 : decode cX8_admits 105 = .ok (.getfield 310, 3) := by decide +kernel
theorem dX8_admits_108 : decode cX8_admits 108 = .ok (.i2l, 1) := by decide +kernel
theorem dX8_admits_109 : decode cX8_admits 109 = .ok (.invokevirtual 229, 3) := by decide +kernel
theorem dX8_admits_112 : decode cX8_admits 112 = .ok (.iinc 3 1, 3) := by decide +kernel
theorem dX8_admits_115 : decode cX8_admits 115 = .ok (.goto (-75), 3) := by decide +kernel
theorem dX8_admits_118 : decode cX8_admits 118 = .ok (.iload_n 2, 1) := by decide +kernel
theorem dX8_admits_119 : decode cX8_admits 119 = .ok (.ireturn, 1) := by decide +kernel
theorem dX8_plans_0 : decode cX8_plans 0 = .ok (.iload_n 1, 1) := by decide +kernel
theorem dX8_plans_1 : decode cX8_plans 1 = .ok (.ifCond .lt 9, 3) := by decide +kernel
theorem dX8_plans_4 : decode cX8_plans 4 = .ok (.iload_n 1, 1) := by decide +kernel
theorem dX8_plans_5 : decode cX8_plans 5 = .ok (.bipush 18, 2) := by decide +kernel
theorem dX8_plans_7 : decode cX8_plans 7 = .ok (.if_icmp .le 5, 3) := by decide +kernel
theorem dX8_plans_10 : decode cX8_plans 10 = .ok (.iconst (-1), 1) := by decide +kernel
theorem dX8_plans_11 : decode cX8_plans 11 = .ok (.ireturn, 1) := by decide +kernel
theorem dX8_plans_12 : decode cX8_plans 12 = .ok (.aload_n 0, 1) := by decide +kernel
theorem dX8_plans_13 : decode cX8_plans 13 = .ok (.getfield 73, 3) := by decide +kernel
theorem dX8_plans_16 : decode cX8_plans 16 = .ok (.aload_n 0, 1) := by decide +kernel
theorem dX8_plans_17 : decode cX8_plans 17 = .ok (.getfield 26, 3) := by decide +kernel
theorem dX8_plans_20 : decode cX8_plans 20 = .ok (.aload_n 0, 1) := by decide +kernel
theorem dX8_plans_21 : decode cX8_plans 21 = .ok (.getfield 33, 3) := by decide +kernel
theorem dX8_plans_24 : decode cX8_plans 24 = .ok (.aload_n 0, 1) := by decide +kernel
theorem dX8_plans_25 : decode cX8_plans 25 = .ok (.getfield 33, 3) := by decide +kernel
theorem dX8_plans_28 : decode cX8_plans 28 = .ok (.getfield 184, 3) := by decide +kernel
theorem dX8_plans_31 : decode cX8_plans 31 = .ok (.iconst 0, 1) := by decide +kernel
theorem dX8_plans_32 : decode cX8_plans 32 = .ok (.invokevirtual 302, 3) := by decide +kernel
theorem dX8_plans_35 : decode cX8_plans 35 = .ok (.aload_n 0, 1) := by decide +kernel
theorem dX8_plans_36 : decode cX8_plans 36 = .ok (.getfield 77, 3) := by decide +kernel
theorem dX8_plans_39 : decode cX8_plans 39 = .ok (.aload_n 0, 1) := by decide +kernel
theorem dX8_plans_40 : decode cX8_plans 40 = .ok (.getfield 26, 3) := by decide +kernel
theorem dX8_plans_43 : decode cX8_plans 43 = .ok (.aload_n 0, 1) := by decide +kernel
theorem dX8_plans_44 : decode cX8_plans 44 = .ok (.getfield 33, 3) := by decide +kernel
theorem dX8_plans_47 : decode cX8_plans 47 = .ok (.aload_n 0, 1) := by decide +kernel
theorem dX8_plans_48 : decode cX8_plans 48 = .ok (.getfield 33, 3) := by decide +kernel
theorem dX8_plans_51 : decode cX8_plans 51 = .ok (.getfield 184, 3) := by decide +kernel
theorem dX8_plans_54 : decode cX8_plans 54 = .ok (.iconst 1, 1) := by decide +kernel
theorem dX8_plans_55 : decode cX8_plans 55 = .ok (.iadd, 1) := by decide +kernel
theorem dX8_plans_56 : decode cX8_plans 56 = .ok (.aload_n 0, 1) := by decide +kernel
theorem dX8_plans_57 : decode cX8_plans 57 = .ok (.getfield 73, 3) := by decide +kernel
theorem dX8_plans_60 : decode cX8_plans 60 = .ok (.getfield 312, 3) := by decide +kernel
theorem dX8_plans_63 : decode cX8_plans 63 = .ok (.invokevirtual 302, 3) := by decide +kernel
theorem dX8_plans_66 : decode cX8_plans 66 = .ok (.iconst 0, 1) := by decide +kernel
theorem dX8_plans_67 : decode cX8_plans 67 = .ok (.istore_n 2, 1) := by decide +kernel
theorem dX8_plans_68 : decode cX8_plans 68 = .ok (.iload_n 2, 1) := by decide +kernel
theorem dX8_plans_69 : decode cX8_plans 69 = .ok (.aload_n 0, 1) := by decide +kernel
theorem dX8_plans_70 : decode cX8_plans 70 = .ok (.getfield 26, 3) := by decide +kernel
theorem dX8_plans_73 : decode cX8_plans 73 = .ok (.getfield 136, 3) := by decide +kernel
theorem dX8_plans_76 : decode cX8_plans 76 = .ok (.if_icmp .ge 37, 3) := by decide +kernel
theorem dX8_plans_79 : decode cX8_plans 79 = .ok (.aload_n 0, 1) := by decide +kernel
theorem dX8_plans_80 : decode cX8_plans 80 = .ok (.getfield 80, 3) := by decide +kernel
theorem dX8_plans_83 : decode cX8_plans 83 = .ok (.iload_n 2, 1) := by decide +kernel
theorem dX8_plans_84 : decode cX8_plans 84 = .ok (.aload_n 0, 1) := by decide +kernel
theorem dX8_plans_85 : decode cX8_plans 85 = .ok (.getfield 77, 3) := by decide +kernel
theorem dX8_plans_88 : decode cX8_plans 88 = .ok (.iload_n 2, 1) := by decide +kernel
theorem dX8_plans_89 : decode cX8_plans 89 = .ok (.aload_n 0, 1) := by decide +kernel
theorem dX8_plans_90 : decode cX8_plans 90 = .ok (.getfield 26, 3) := by decide +kernel
theorem dX8_plans_93 : decode cX8_plans 93 = .ok (.getfield 136, 3) := by decide +kernel
theorem dX8_plans_96 : decode cX8_plans 96 = .ok (.aload_n 0, 1) := by decide +kernel
theorem dX8_plans_97 : decode cX8_plans 97 = .ok (.getfield 73, 3) := by decide +kernel
theorem dX8_plans_100 : decode cX8_plans 100 = .ok (.getfield 312, 3) := by decide +kernel
theorem dX8_plans_103 : decode cX8_plans 103 = .ok (.invokevirtual 315, 3) := by decide +kernel
theorem dX8_plans_106 : decode cX8_plans 106 = .ok (.iastore, 1) := by decide +kernel
theorem dX8_plans_107 : decode cX8_plans 107 = .ok (.iinc 2 1, 3) := by decide +kernel
theorem dX8_plans_110 : decode cX8_plans 110 = .ok (.goto (-42), 3) := by decide +kernel
theorem dX8_plans_113 : decode cX8_plans 113 = .ok (.iconst 1, 1) := by decide +kernel
theorem dX8_plans_114 : decode cX8_plans 114 = .ok (.aload_n 0, 1) := by decide +kernel
theorem dX8_plans_115 : decode cX8_plans 115 = .ok (.getfield 26, 3) := by decide +kernel
theorem dX8_plans_118 : decode cX8_plans 118 = .ok (.getfield 136, 3) := by decide +kernel
theorem dX8_plans_121 : decode cX8_plans 121 = .ok (.ishl, 1) := by decide +kernel
theorem dX8_plans_122 : decode cX8_plans 122 = .ok (.iconst 1, 1) := by decide +kernel
theorem dX8_plans_123 : decode cX8_plans 123 = .ok (.isub, 1) := by decide +kernel
theorem dX8_plans_124 : decode cX8_plans 124 = .ok (.istore_n 2, 1) := by decide +kernel
theorem dX8_plans_125 : decode cX8_plans 125 = .ok (.bipush (-2), 2) := by decide +kernel
theorem dX8_plans_127 : decode cX8_plans 127 = .ok (.istore_n 3, 1) := by decide +kernel
theorem dX8_plans_128 : decode cX8_plans 128 = .ok (.iconst 0, 1) := by decide +kernel
theorem dX8_plans_129 : decode cX8_plans 129 = .ok (.istore 4, 2) := by decide +kernel
theorem dX8_plans_131 : decode cX8_plans 131 = .ok (.iload 4, 2) := by decide +kernel
theorem dX8_plans_133 : decode cX8_plans 133 = .ok (.iconst 1, 1) := by decide +kernel
theorem dX8_plans_134 : decode cX8_plans 134 = .ok (.aload_n 0, 1) := by decide +kernel
theorem dX8_plans_135 : decode cX8_plans 135 = .ok (.getfield 26, 3) := by decide +kernel
theorem dX8_plans_138 : decode cX8_plans 138 = .ok (.getfield 136, 3) := by decide +kernel
theorem dX8_plans_141 : decode cX8_plans 141 = .ok (.ishl, 1) := by decide +kernel
theorem dX8_plans_142 : decode cX8_plans 142 = .ok (.if_icmp .ge 78, 3) := by decide +kernel
theorem dX8_plans_145 : decode cX8_plans 145 = .ok (.aload_n 0, 1) := by decide +kernel
theorem dX8_plans_146 : decode cX8_plans 146 = .ok (.getfield 73, 3) := by decide +kernel
theorem dX8_plans_149 : decode cX8_plans 149 = .ok (.aload_n 0, 1) := by decide +kernel
theorem dX8_plans_150 : decode cX8_plans 150 = .ok (.getfield 26, 3) := by decide +kernel
theorem dX8_plans_153 : decode cX8_plans 153 = .ok (.iload 4, 2) := by decide +kernel
theorem dX8_plans_155 : decode cX8_plans 155 = .ok (.invokevirtual 306, 3) := by decide +kernel
theorem dX8_plans_158 : decode cX8_plans 158 = .ok (.aload_n 0, 1) := by decide +kernel
theorem dX8_plans_159 : decode cX8_plans 159 = .ok (.getfield 77, 3) := by decide +kernel
theorem dX8_plans_162 : decode cX8_plans 162 = .ok (.getfield 312, 3) := by decide +kernel
theorem dX8_plans_165 : decode cX8_plans 165 = .ok (.iconst 0, 1) := by decide +kernel
theorem dX8_plans_166 : decode cX8_plans 166 = .ok (.iload_n 1, 1) := by decide +kernel
theorem dX8_plans_167 : decode cX8_plans 167 = .ok (.aload_n 0, 1) := by decide +kernel
theorem dX8_plans_168 : decode cX8_plans 168 = .ok (.getfield 73, 3) := by decide +kernel
theorem dX8_plans_171 : decode cX8_plans 171 = .ok (.getfield 310, 3) := by decide +kernel
theorem dX8_plans_174 : decode cX8_plans 174 = .ok (.isub, 1) := by decide +kernel
theorem dX8_plans_175 : decode cX8_plans 175 = .ok (.invokestatic 209, 3) := by decide +kernel
theorem dX8_plans_178 : decode cX8_plans 178 = .ok (.isub, 1) := by decide +kernel
theorem dX8_plans_179 : decode cX8_plans 179 = .ok (.istore 5, 2) := by decide +kernel
theorem dX8_plans_181 : decode cX8_plans 181 = .ok (.iload 5, 2) := by decide +kernel
theorem dX8_plans_183 : decode cX8_plans 183 = .ok (.ifCond .lt 31, 3) := by decide +kernel
theorem dX8_plans_186 : decode cX8_plans 186 = .ok (.aload_n 0, 1) := by decide +kernel
theorem dX8_plans_187 : decode cX8_plans 187 = .ok (.getfield 73, 3) := by decide +kernel
theorem dX8_plans_190 : decode cX8_plans 190 = .ok (.getfield 311, 3) := by decide +kernel
theorem dX8_plans_193 : decode cX8_plans 193 = .ok (.aload_n 0, 1) := by decide +kernel
theorem dX8_plans_194 : decode cX8_plans 194 = .ok (.iload_n 2, 1) := by decide +kernel
theorem dX8_plans_195 : decode cX8_plans 195 = .ok (.iload 5, 2) := by decide +kernel
theorem dX8_plans_197 : decode cX8_plans 197 = .ok (.invokevirtual 318, 3) := by decide +kernel
theorem dX8_plans_200 : decode cX8_plans 200 = .ok (.iadd, 1) := by decide +kernel
theorem dX8_plans_201 : decode cX8_plans 201 = .ok (.iload_n 3, 1) := by decide +kernel
theorem dX8_plans_202 : decode cX8_plans 202 = .ok (.if_icmp .le 12, 3) := by decide +kernel
theorem dX8_plans_205 : decode cX8_plans 205 = .ok (.aload_n 0, 1) := by decide +kernel
theorem dX8_plans_206 : decode cX8_plans 206 = .ok (.iload 4, 2) := by decide +kernel
theorem dX8_plans_208 : decode cX8_plans 208 = .ok (.iload_n 1, 1) := by decide +kernel
theorem dX8_plans_209 : decode cX8_plans 209 = .ok (.iload_n 3, 1) := by decide +kernel
theorem dX8_plans_210 : decode cX8_plans 210 = .ok (.invokevirtual 321, 3) := by decide +kernel
theorem dX8_plans_213 : decode cX8_plans 213 = .ok (.istore_n 3, 1) := by decide +kernel
theorem dX8_plans_214 : decode cX8_plans 214 = .ok (.iinc 4 1, 3) := by decide +kernel
theorem dX8_plans_217 : decode cX8_plans 217 = .ok (.goto (-86), 3) := by decide +kernel
theorem dX8_plans_220 : decode cX8_plans 220 = .ok (.iload_n 3, 1) := by decide +kernel
theorem dX8_plans_221 : decode cX8_plans 221 = .ok (.ireturn, 1) := by decide +kernel
theorem dX8_bestSecond_0 : decode cX8_bestSecond 0 = .ok (.aload_n 0, 1) := by decide +kernel
theorem dX8_bestSecond_1 : decode cX8_bestSecond 1 = .ok (.getfield 77, 3) := by decide +kernel
theorem dX8_bestSecond_4 : decode cX8_bestSecond 4 = .ok (.aload_n 0, 1) := by decide +kernel
theorem dX8_bestSecond_5 : decode cX8_bestSecond 5 = .ok (.getfield 26, 3) := by decide +kernel
theorem dX8_bestSecond_8 : decode cX8_bestSecond 8 = .ok (.aload_n 0, 1) := by decide +kernel
theorem dX8_bestSecond_9 : decode cX8_bestSecond 9 = .ok (.getfield 73, 3) := by decide +kernel
theorem dX8_bestSecond_12 : decode cX8_bestSecond 12 = .ok (.invokevirtual 324, 3) := by decide +kernel
theorem dX8_bestSecond_15 : decode cX8_bestSecond 15 = .ok (.iload_n 3, 1) := by decide +kernel
theorem dX8_bestSecond_16 : decode cX8_bestSecond 16 = .ok (.istore 4, 2) := by decide +kernel
theorem dX8_bestSecond_18 : decode cX8_bestSecond 18 = .ok (.iconst 0, 1) := by decide +kernel
theorem dX8_bestSecond_19 : decode cX8_bestSecond 19 = .ok (.istore 5, 2) := by decide +kernel
theorem dX8_bestSecond_21 : decode cX8_bestSecond 21 = .ok (.iload 5, 2) := by decide +kernel
theorem dX8_bestSecond_23 : decode cX8_bestSecond 23 = .ok (.iconst 1, 1) := by decide +kernel
theorem dX8_bestSecond_24 : decode cX8_bestSecond 24 = .ok (.aload_n 0, 1) := by decide +kernel
theorem dX8_bestSecond_25 : decode cX8_bestSecond 25 = .ok (.getfield 26, 3) := by decide +kernel
theorem dX8_bestSecond_28 : decode cX8_bestSecond 28 = .ok (.getfield 136, 3) := by decide +kernel
theorem dX8_bestSecond_31 : decode cX8_bestSecond 31 = .ok (.ishl, 1) := by decide +kernel
theorem dX8_bestSecond_32 : decode cX8_bestSecond 32 = .ok (.if_icmp .ge 90, 3) := by decide +kernel
theorem dX8_bestSecond_35 : decode cX8_bestSecond 35 = .ok (.aload_n 0, 1) := by decide +kernel
theorem dX8_bestSecond_36 : decode cX8_bestSecond 36 = .ok (.getfield 77, 3) := by decide +kernel
theorem dX8_bestSecond_39 : decode cX8_bestSecond 39 = .ok (.aload_n 0, 1) := by decide +kernel
theorem dX8_bestSecond_40 : decode cX8_bestSecond 40 = .ok (.getfield 26, 3) := by decide +kernel
theorem dX8_bestSecond_43 : decode cX8_bestSecond 43 = .ok (.iload 5, 2) := by decide +kernel
theorem dX8_bestSecond_45 : decode cX8_bestSecond 45 = .ok (.invokevirtual 306, 3) := by decide +kernel
theorem dX8_bestSecond_48 : decode cX8_bestSecond 48 = .ok (.aload_n 0, 1) := by decide +kernel
theorem dX8_bestSecond_49 : decode cX8_bestSecond 49 = .ok (.getfield 73, 3) := by decide +kernel
theorem dX8_bestSecond_52 : decode cX8_bestSecond 52 = .ok (.getfield 310, 3) := by decide +kernel
theorem dX8_bestSecond_55 : decode cX8_bestSecond 55 = .ok (.aload_n 0, 1) := by decide +kernel
theorem dX8_bestSecond_56 : decode cX8_bestSecond 56 = .ok (.getfield 77, 3) := by decide +kernel
theorem dX8_bestSecond_59 : decode cX8_bestSecond 59 = .ok (.getfield 310, 3) := by decide +kernel
theorem dX8_bestSecond_62 : decode cX8_bestSecond 62 = .ok (.iadd, 1) := by decide +kernel
theorem dX8_bestSecond_63 : decode cX8_bestSecond 63 = .ok (.iload_n 2, 1) := by decide +kernel
theorem dX8_bestSecond_64 : decode cX8_bestSecond 64 = .ok (.if_icmp .lt 52, 3) := by decide +kernel
theorem dX8_bestSecond_67 : decode cX8_bestSecond 67 = .ok (.aload_n 0, 1) := by decide +kernel
theorem dX8_bestSecond_68 : decode cX8_bestSecond 68 = .ok (.getfield 73, 3) := by decide +kernel
theorem dX8_bestSecond_71 : decode cX8_bestSecond 71 = .ok (.getfield 311, 3) := by decide +kernel
theorem dX8_bestSecond_74 : decode cX8_bestSecond 74 = .ok (.aload_n 0, 1) := by decide +kernel
theorem dX8_bestSecond_75 : decode cX8_bestSecond 75 = .ok (.getfield 77, 3) := by decide +kernel
theorem dX8_bestSecond_78 : decode cX8_bestSecond 78 = .ok (.getfield 311, 3) := by decide +kernel
theorem dX8_bestSecond_81 : decode cX8_bestSecond 81 = .ok (.iadd, 1) := by decide +kernel
theorem dX8_bestSecond_82 : decode cX8_bestSecond 82 = .ok (.iload 4, 2) := by decide +kernel
theorem dX8_bestSecond_84 : decode cX8_bestSecond 84 = .ok (.if_icmp .le 32, 3) := by decide +kernel
theorem dX8_bestSecond_87 : decode cX8_bestSecond 87 = .ok (.aload_n 0, 1) := by decide +kernel
theorem dX8_bestSecond_88 : decode cX8_bestSecond 88 = .ok (.getfield 73, 3) := by decide +kernel
theorem dX8_bestSecond_91 : decode cX8_bestSecond 91 = .ok (.getfield 311, 3) := by decide +kernel
theorem dX8_bestSecond_94 : decode cX8_bestSecond 94 = .ok (.aload_n 0, 1) := by decide +kernel
theorem dX8_bestSecond_95 : decode cX8_bestSecond 95 = .ok (.getfield 77, 3) := by decide +kernel
theorem dX8_bestSecond_98 : decode cX8_bestSecond 98 = .ok (.getfield 311, 3) := by decide +kernel
theorem dX8_bestSecond_101 : decode cX8_bestSecond 101 = .ok (.iadd, 1) := by decide +kernel
theorem dX8_bestSecond_102 : decode cX8_bestSecond 102 = .ok (.istore 4, 2) := by decide +kernel
theorem dX8_bestSecond_104 : decode cX8_bestSecond 104 = .ok (.aload_n 0, 1) := by decide +kernel
theorem dX8_bestSecond_105 : decode cX8_bestSecond 105 = .ok (.getfield 19, 3) := by decide +kernel
theorem dX8_bestSecond_108 : decode cX8_bestSecond 108 = .ok (.iload_n 1, 1) := by decide +kernel
theorem dX8_bestSecond_109 : decode cX8_bestSecond 109 = .ok (.i2l, 1) := by decide +kernel
theorem dX8_bestSecond_110 : decode cX8_bestSecond 110 = .ok (.iload 5, 2) := by decide +kernel
theorem dX8_bestSecond_112 : decode cX8_bestSecond 112 = .ok (.i2l, 1) := by decide +kernel
theorem dX8_bestSecond_113 : decode cX8_bestSecond 113 = .ok (.invokevirtual 229, 3) := by decide +kernel
theorem dX8_bestSecond_116 : decode cX8_bestSecond 116 = .ok (.iinc 5 1, 3) := by decide +kernel
theorem dX8_bestSecond_119 : decode cX8_bestSecond 119 = .ok (.goto (-98), 3) := by decide +kernel
theorem dX8_bestSecond_122 : decode cX8_bestSecond 122 = .ok (.iload 4, 2) := by decide +kernel
theorem dX8_bestSecond_124 : decode cX8_bestSecond 124 = .ok (.ireturn, 1) := by decide +kernel
theorem dX8_fills_0 : decode cX8_fills 0 = .ok (.aload_n 0, 1) := by decide +kernel
theorem dX8_fills_1 : decode cX8_fills 1 = .ok (.getfield 73, 3) := by decide +kernel
theorem dX8_fills_4 : decode cX8_fills 4 = .ok (.aload_n 0, 1) := by decide +kernel
theorem dX8_fills_5 : decode cX8_fills 5 = .ok (.getfield 26, 3) := by decide +kernel
theorem dX8_fills_8 : decode cX8_fills 8 = .ok (.aload_n 0, 1) := by decide +kernel
theorem dX8_fills_9 : decode cX8_fills 9 = .ok (.getfield 33, 3) := by decide +kernel
theorem dX8_fills_12 : decode cX8_fills 12 = .ok (.aload_n 0, 1) := by decide +kernel
theorem dX8_fills_13 : decode cX8_fills 13 = .ok (.getfield 33, 3) := by decide +kernel
theorem dX8_fills_16 : decode cX8_fills 16 = .ok (.getfield 184, 3) := by decide +kernel
theorem dX8_fills_19 : decode cX8_fills 19 = .ok (.iconst 0, 1) := by decide +kernel
theorem dX8_fills_20 : decode cX8_fills 20 = .ok (.invokevirtual 302, 3) := by decide +kernel
theorem dX8_fills_23 : decode cX8_fills 23 = .ok (.bipush (-2), 2) := by decide +kernel
theorem dX8_fills_25 : decode cX8_fills 25 = .ok (.istore_n 1, 1) := by decide +kernel
theorem dX8_fills_26 : decode cX8_fills 26 = .ok (.iconst 0, 1) := by decide +kernel
theorem dX8_fills_27 : decode cX8_fills 27 = .ok (.istore_n 2, 1) := by decide +kernel
theorem dX8_fills_28 : decode cX8_fills 28 = .ok (.iload_n 2, 1) := by decide +kernel
theorem dX8_fills_29 : decode cX8_fills 29 = .ok (.iconst 1, 1) := by decide +kernel
theorem dX8_fills_30 : decode cX8_fills 30 = .ok (.aload_n 0, 1) := by decide +kernel
theorem dX8_fills_31 : decode cX8_fills 31 = .ok (.getfield 26, 3) := by decide +kernel
theorem dX8_fills_34 : decode cX8_fills 34 = .ok (.getfield 136, 3) := by decide +kernel
theorem dX8_fills_37 : decode cX8_fills 37 = .ok (.ishl, 1) := by decide +kernel
theorem dX8_fills_38 : decode cX8_fills 38 = .ok (.if_icmp .ge 56, 3) := by decide +kernel
theorem dX8_fills_41 : decode cX8_fills 41 = .ok (.iload_n 2, 1) := by decide +kernel
theorem dX8_fills_42 : decode cX8_fills 42 = .ok (.invokestatic 187, 3) := by decide +kernel
theorem dX8_fills_45 : decode cX8_fills 45 = .ok (.istore_n 3, 1) := by decide +kernel
theorem dX8_fills_46 : decode cX8_fills 46 = .ok (.iload_n 1, 1) := by decide +kernel
theorem dX8_fills_47 : decode cX8_fills 47 = .ok (.ifCond .lt 8, 3) := by decide +kernel
theorem dX8_fills_50 : decode cX8_fills 50 = .ok (.iload_n 3, 1) := by decide +kernel
theorem dX8_fills_51 : decode cX8_fills 51 = .ok (.iload_n 1, 1) := by decide +kernel
theorem dX8_fills_52 : decode cX8_fills 52 = .ok (.if_icmp .ge 36, 3) := by decide +kernel
theorem dX8_fills_55 : decode cX8_fills 55 = .ok (.aload_n 0, 1) := by decide +kernel
theorem dX8_fills_56 : decode cX8_fills 56 = .ok (.getfield 73, 3) := by decide +kernel
theorem dX8_fills_59 : decode cX8_fills 59 = .ok (.aload_n 0, 1) := by decide +kernel
theorem dX8_fills_60 : decode cX8_fills 60 = .ok (.getfield 26, 3) := by decide +kernel
theorem dX8_fills_63 : decode cX8_fills 63 = .ok (.iload_n 2, 1) := by decide +kernel
theorem dX8_fills_64 : decode cX8_fills 64 = .ok (.invokevirtual 306, 3) := by decide +kernel
theorem dX8_fills_67 : decode cX8_fills 67 = .ok (.aload_n 0, 1) := by decide +kernel
theorem dX8_fills_68 : decode cX8_fills 68 = .ok (.getfield 73, 3) := by decide +kernel
theorem dX8_fills_71 : decode cX8_fills 71 = .ok (.getfield 310, 3) := by decide +kernel
theorem dX8_fills_74 : decode cX8_fills 74 = .ok (.ifCond .ne 14, 3) := by decide +kernel
theorem dX8_fills_77 : decode cX8_fills 77 = .ok (.iload_n 3, 1) := by decide +kernel
theorem dX8_fills_78 : decode cX8_fills 78 = .ok (.istore_n 1, 1) := by decide +kernel
theorem dX8_fills_79 : decode cX8_fills 79 = .ok (.aload_n 0, 1) := by decide +kernel
theorem dX8_fills_80 : decode cX8_fills 80 = .ok (.getfield 19, 3) := by decide +kernel
theorem dX8_fills_83 : decode cX8_fills 83 = .ok (.iload_n 2, 1) := by decide +kernel
theorem dX8_fills_84 : decode cX8_fills 84 = .ok (.i2l, 1) := by decide +kernel
theorem dX8_fills_85 : decode cX8_fills 85 = .ok (.invokevirtual 299, 3) := by decide +kernel
theorem dX8_fills_88 : decode cX8_fills 88 = .ok (.iinc 2 1, 3) := by decide +kernel
theorem dX8_fills_91 : decode cX8_fills 91 = .ok (.goto (-63), 3) := by decide +kernel
theorem dX8_fills_94 : decode cX8_fills 94 = .ok (.iload_n 1, 1) := by decide +kernel
theorem dX8_fills_95 : decode cX8_fills 95 = .ok (.ireturn, 1) := by decide +kernel
theorem dX8_order_0 : decode cX8_order 0 = .ok (.iconst 0, 1) := by decide +kernel
theorem dX8_order_1 : decode cX8_order 1 = .ok (.istore_n 1, 1) := by decide +kernel
theorem dX8_order_2 : decode cX8_order 2 = .ok (.iload_n 1, 1) := by decide +kernel
theorem dX8_order_3 : decode cX8_order 3 = .ok (.aload_n 0, 1) := by decide +kernel
theorem dX8_order_4 : decode cX8_order 4 = .ok (.getfield 26, 3) := by decide +kernel
theorem dX8_order_7 : decode cX8_order 7 = .ok (.getfield 136, 3) := by decide +kernel
theorem dX8_order_10 : decode cX8_order 10 = .ok (.if_icmp .ge 20, 3) := by decide +kernel
theorem dX8_order_13 : decode cX8_order 13 = .ok (.aload_n 0, 1) := by decide +kernel
theorem dX8_order_14 : decode cX8_order 14 = .ok (.getfield 80, 3) := by decide +kernel
theorem dX8_order_17 : decode cX8_order 17 = .ok (.iload_n 1, 1) := by decide +kernel
theorem dX8_order_18 : decode cX8_order 18 = .ok (.aload_n 0, 1) := by decide +kernel
theorem dX8_order_19 : decode cX8_order 19 = .ok (.iload_n 1, 1) := by decide +kernel
theorem dX8_order_20 : decode cX8_order 20 = .ok (.invokevirtual 181, 3) := by decide +kernel
theorem dX8_order_23 : decode cX8_order 23 = .ok (.iastore, 1) := by decide +kernel
theorem dX8_order_24 : decode cX8_order 24 = .ok (.iinc 1 1, 3) := by decide +kernel
theorem dX8_order_27 : decode cX8_order 27 = .ok (.goto (-25), 3) := by decide +kernel
theorem dX8_order_30 : decode cX8_order 30 = .ok (.aload_n 0, 1) := by decide +kernel
theorem dX8_order_31 : decode cX8_order 31 = .ok (.getfield 33, 3) := by decide +kernel
theorem dX8_order_34 : decode cX8_order 34 = .ok (.getfield 165, 3) := by decide +kernel
theorem dX8_order_37 : decode cX8_order 37 = .ok (.istore_n 1, 1) := by decide +kernel
theorem dX8_order_38 : decode cX8_order 38 = .ok (.aload_n 0, 1) := by decide +kernel
theorem dX8_order_39 : decode cX8_order 39 = .ok (.getfield 26, 3) := by decide +kernel
theorem dX8_order_42 : decode cX8_order 42 = .ok (.aload_n 0, 1) := by decide +kernel
theorem dX8_order_43 : decode cX8_order 43 = .ok (.getfield 33, 3) := by decide +kernel
theorem dX8_order_46 : decode cX8_order 46 = .ok (.getfield 184, 3) := by decide +kernel
theorem dX8_order_49 : decode cX8_order 49 = .ok (.invokevirtual 196, 3) := by decide +kernel
theorem dX8_order_52 : decode cX8_order 52 = .ok (.istore_n 2, 1) := by decide +kernel
theorem dX8_order_53 : decode cX8_order 53 = .ok (.aload_n 0, 1) := by decide +kernel
theorem dX8_order_54 : decode cX8_order 54 = .ok (.iload_n 1, 1) := by decide +kernel
theorem dX8_order_55 : decode cX8_order 55 = .ok (.iload_n 2, 1) := by decide +kernel
theorem dX8_order_56 : decode cX8_order 56 = .ok (.invokevirtual 318, 3) := by decide +kernel
theorem dX8_order_59 : decode cX8_order 59 = .ok (.istore_n 3, 1) := by decide +kernel
theorem dX8_order_60 : decode cX8_order 60 = .ok (.iload_n 3, 1) := by decide +kernel
theorem dX8_order_61 : decode cX8_order 61 = .ok (.istore 4, 2) := by decide +kernel
theorem dX8_order_63 : decode cX8_order 63 = .ok (.aload_n 0, 1) := by decide +kernel
theorem dX8_order_64 : decode cX8_order 64 = .ok (.getfield 19, 3) := by decide +kernel
theorem dX8_order_67 : decode cX8_order 67 = .ok (.invokevirtual 328, 3) := by decide +kernel
theorem dX8_order_70 : decode cX8_order 70 = .ok (.iload_n 1, 1) := by decide +kernel
theorem dX8_order_71 : decode cX8_order 71 = .ok (.invokestatic 187, 3) := by decide +kernel
theorem dX8_order_74 : decode cX8_order 74 = .ok (.istore 5, 2) := by decide +kernel
theorem dX8_order_76 : decode cX8_order 76 = .ok (.iload 5, 2) := by decide +kernel
theorem dX8_order_78 : decode cX8_order 78 = .ok (.ifCond .le 89, 3) := by decide +kernel
theorem dX8_order_81 : decode cX8_order 81 = .ok (.aload_n 0, 1) := by decide +kernel
theorem dX8_order_82 : decode cX8_order 82 = .ok (.iload_n 1, 1) := by decide +kernel
theorem dX8_order_83 : decode cX8_order 83 = .ok (.iload_n 2, 1) := by decide +kernel
theorem dX8_order_84 : decode cX8_order 84 = .ok (.iload 4, 2) := by decide +kernel
theorem dX8_order_86 : decode cX8_order 86 = .ok (.invokevirtual 331, 3) := by decide +kernel
theorem dX8_order_89 : decode cX8_order 89 = .ok (.istore 6, 2) := by decide +kernel
theorem dX8_order_91 : decode cX8_order 91 = .ok (.aload_n 0, 1) := by decide +kernel
theorem dX8_order_92 : decode cX8_order 92 = .ok (.getfield 26, 3) := by decide +kernel
theorem dX8_order_95 : decode cX8_order 95 = .ok (.iload 6, 2) := by decide +kernel
theorem dX8_order_97 : decode cX8_order 97 = .ok (.invokevirtual 175, 3) := by decide +kernel
theorem dX8_order_100 : decode cX8_order 100 = .ok (.ifCond .ne 6, 3) := by decide +kernel
theorem dX8_order_103 : decode cX8_order 103 = .ok (.goto 64, 3) := by decide +kernel
theorem dX8_order_106 : decode cX8_order 106 = .ok (.iload_n 2, 1) := by decide +kernel
theorem dX8_order_107 : decode cX8_order 107 = .ok (.aload_n 0, 1) := by decide +kernel
theorem dX8_order_108 : decode cX8_order 108 = .ok (.getfield 80, 3) := by decide +kernel
theorem dX8_order_111 : decode cX8_order 111 = .ok (.iload 6, 2) := by decide +kernel
theorem dX8_order_113 : decode cX8_order 113 = .ok (.iaload, 1) := by decide +kernel
theorem dX8_order_114 : decode cX8_order 114 = .ok (.invokestatic 130, 3) := by decide +kernel
theorem dX8_order_117 : decode cX8_order 117 = .ok (.istore 7, 2) := by decide +kernel
theorem dX8_order_119 : decode cX8_order 119 = .ok (.iload_n 2, 1) := by decide +kernel
theorem dX8_order_120 : decode cX8_order 120 = .ok (.iload 7, 2) := by decide +kernel
theorem dX8_order_122 : decode cX8_order 122 = .ok (.isub, 1) := by decide +kernel
theorem dX8_order_123 : decode cX8_order 123 = .ok (.istore_n 2, 1) := by decide +kernel
theorem dX8_order_124 : decode cX8_order 124 = .ok (.iload 4, 2) := by decide +kernel
theorem dX8_order_126 : decode cX8_order 126 = .ok (.iload 7, 2) := by decide +kernel
theorem dX8_order_128 : decode cX8_order 128 = .ok (.aload_n 0, 1) := by decide +kernel
theorem dX8_order_129 : decode cX8_order 129 = .ok (.getfield 26, 3) := by decide +kernel
theorem dX8_order_132 : decode cX8_order 132 = .ok (.getfield 156, 3) := by decide +kernel
theorem dX8_order_135 : decode cX8_order 135 = .ok (.iload 6, 2) := by decide +kernel
theorem dX8_order_137 : decode cX8_order 137 = .ok (.iaload, 1) := by decide +kernel
theorem dX8_order_138 : decode cX8_order 138 = .ok (.imul, 1) := by decide +kernel
theorem dX8_order_139 : decode cX8_order 139 = .ok (.isub, 1) := by decide +kernel
theorem dX8_order_140 : decode cX8_order 140 = .ok (.istore 4, 2) := by decide +kernel
theorem dX8_order_142 : decode cX8_order 142 = .ok (.iload_n 1, 1) := by decide +kernel
theorem dX8_order_143 : decode cX8_order 143 = .ok (.iconst 1, 1) := by decide +kernel
theorem dX8_order_144 : decode cX8_order 144 = .ok (.iload 6, 2) := by decide +kernel
theorem dX8_order_146 : decode cX8_order 146 = .ok (.ishl, 1) := by decide +kernel
theorem dX8_order_147 : decode cX8_order 147 = .ok (.iconst (-1), 1) := by decide +kernel
theorem dX8_order_148 : decode cX8_order 148 = .ok (.ixor, 1) := by decide +kernel
theorem dX8_order_149 : decode cX8_order 149 = .ok (.iand, 1) := by decide +kernel
theorem dX8_order_150 : decode cX8_order 150 = .ok (.istore_n 1, 1) := by decide +kernel
theorem dX8_order_151 : decode cX8_order 151 = .ok (.aload_n 0, 1) := by decide +kernel
theorem dX8_order_152 : decode cX8_order 152 = .ok (.getfield 19, 3) := by decide +kernel
theorem dX8_order_155 : decode cX8_order 155 = .ok (.iload 6, 2) := by decide +kernel
theorem dX8_order_157 : decode cX8_order 157 = .ok (.i2l, 1) := by decide +kernel
theorem dX8_order_158 : decode cX8_order 158 = .ok (.invokevirtual 334, 3) := by decide +kernel
theorem dX8_order_161 : decode cX8_order 161 = .ok (.iinc 5 (-1), 3) := by decide +kernel
theorem dX8_order_164 : decode cX8_order 164 = .ok (.goto (-88), 3) := by decide +kernel
theorem dX8_order_167 : decode cX8_order 167 = .ok (.iload_n 3, 1) := by decide +kernel
theorem dX8_order_168 : decode cX8_order 168 = .ok (.ireturn, 1) := by decide +kernel
theorem dX8_firstToGo_0 : decode cX8_firstToGo 0 = .ok (.iconst 0, 1) := by decide +kernel
theorem dX8_firstToGo_1 : decode cX8_firstToGo 1 = .ok (.istore 4, 2) := by decide +kernel
theorem dX8_firstToGo_3 : decode cX8_firstToGo 3 = .ok (.iload 4, 2) := by decide +kernel
theorem dX8_firstToGo_5 : decode cX8_firstToGo 5 = .ok (.aload_n 0, 1) := by decide +kernel
theorem dX8_firstToGo_6 : decode cX8_firstToGo 6 = .ok (.getfield 26, 3) := by decide +kernel
theorem dX8_firstToGo_9 : decode cX8_firstToGo 9 = .ok (.getfield 136, 3) := by decide +kernel
theorem dX8_firstToGo_12 : decode cX8_firstToGo 12 = .ok (.if_icmp .ge 68, 3) := by decide +kernel
theorem dX8_firstToGo_15 : decode cX8_firstToGo 15 = .ok (.iload_n 1, 1) := by decide +kernel
theorem dX8_firstToGo_16 : decode cX8_firstToGo 16 = .ok (.iload 4, 2) := by decide +kernel
theorem dX8_firstToGo_18 : decode cX8_firstToGo 18 = .ok (.ishr, 1) := by decide +kernel
theorem dX8_firstToGo_19 : decode cX8_firstToGo 19 = .ok (.iconst 1, 1) := by decide +kernel
theorem dX8_firstToGo_20 : decode cX8_firstToGo 20 = .ok (.iand, 1) := by decide +kernel
theorem dX8_firstToGo_21 : decode cX8_firstToGo 21 = .ok (.ifCond .eq 53, 3) := by decide +kernel
theorem dX8_firstToGo_24 : decode cX8_firstToGo 24 = .ok (.iload_n 2, 1) := by decide +kernel
theorem dX8_firstToGo_25 : decode cX8_firstToGo 25 = .ok (.aload_n 0, 1) := by decide +kernel
theorem dX8_firstToGo_26 : decode cX8_firstToGo 26 = .ok (.getfield 80, 3) := by decide +kernel
theorem dX8_firstToGo_29 : decode cX8_firstToGo 29 = .ok (.iload 4, 2) := by decide +kernel
theorem dX8_firstToGo_31 : decode cX8_firstToGo 31 = .ok (.iaload, 1) := by decide +kernel
theorem dX8_firstToGo_32 : decode cX8_firstToGo 32 = .ok (.invokestatic 130, 3) := by decide +kernel
theorem dX8_firstToGo_35 : decode cX8_firstToGo 35 = .ok (.istore 5, 2) := by decide +kernel
theorem dX8_firstToGo_37 : decode cX8_firstToGo 37 = .ok (.iload 5, 2) := by decide +kernel
theorem dX8_firstToGo_39 : decode cX8_firstToGo 39 = .ok (.aload_n 0, 1) := by decide +kernel
theorem dX8_firstToGo_40 : decode cX8_firstToGo 40 = .ok (.getfield 26, 3) := by decide +kernel
theorem dX8_firstToGo_43 : decode cX8_firstToGo 43 = .ok (.getfield 156, 3) := by decide +kernel
theorem dX8_firstToGo_46 : decode cX8_firstToGo 46 = .ok (.iload 4, 2) := by decide +kernel
theorem dX8_firstToGo_48 : decode cX8_firstToGo 48 = .ok (.iaload, 1) := by decide +kernel
theorem dX8_firstToGo_49 : decode cX8_firstToGo 49 = .ok (.imul, 1) := by decide +kernel
theorem dX8_firstToGo_50 : decode cX8_firstToGo 50 = .ok (.aload_n 0, 1) := by decide +kernel
theorem dX8_firstToGo_51 : decode cX8_firstToGo 51 = .ok (.iload_n 1, 1) := by decide +kernel
theorem dX8_firstToGo_52 : decode cX8_firstToGo 52 = .ok (.iconst 1, 1) := by decide +kernel
theorem dX8_firstToGo_53 : decode cX8_firstToGo 53 = .ok (.iload 4, 2) := by decide +kernel
theorem dX8_firstToGo_55 : decode cX8_firstToGo 55 = .ok (.ishl, 1) := by decide +kernel
theorem dX8_firstToGo_56 : decode cX8_firstToGo 56 = .ok (.iconst (-1), 1) := by decide +kernel
theorem dX8_firstToGo_57 : decode cX8_firstToGo 57 = .ok (.ixor, 1) := by decide +kernel
theorem dX8_firstToGo_58 : decode cX8_firstToGo 58 = .ok (.iand, 1) := by decide +kernel
theorem dX8_firstToGo_59 : decode cX8_firstToGo 59 = .ok (.iload_n 2, 1) := by decide +kernel
theorem dX8_firstToGo_60 : decode cX8_firstToGo 60 = .ok (.iload 5, 2) := by decide +kernel
theorem dX8_firstToGo_62 : decode cX8_firstToGo 62 = .ok (.isub, 1) := by decide +kernel
theorem dX8_firstToGo_63 : decode cX8_firstToGo 63 = .ok (.invokevirtual 318, 3) := by decide +kernel
theorem dX8_firstToGo_66 : decode cX8_firstToGo 66 = .ok (.iadd, 1) := by decide +kernel
theorem dX8_firstToGo_67 : decode cX8_firstToGo 67 = .ok (.iload_n 3, 1) := by decide +kernel
theorem dX8_firstToGo_68 : decode cX8_firstToGo 68 = .ok (.if_icmp .ne 6, 3) := by decide +kernel
theorem dX8_firstToGo_71 : decode cX8_firstToGo 71 = .ok (.iload 4, 2) := by decide +kernel
theorem dX8_firstToGo_73 : decode cX8_firstToGo 73 = .ok (.ireturn, 1) := by decide +kernel
theorem dX8_firstToGo_74 : decode cX8_firstToGo 74 = .ok (.iinc 4 1, 3) := by decide +kernel
theorem dX8_firstToGo_77 : decode cX8_firstToGo 77 = .ok (.goto (-74), 3) := by decide +kernel
theorem dX8_firstToGo_80 : decode cX8_firstToGo 80 = .ok (.iconst (-1), 1) := by decide +kernel
theorem dX8_firstToGo_81 : decode cX8_firstToGo 81 = .ok (.ireturn, 1) := by decide +kernel
theorem dX8_mostPaid_0 : decode cX8_mostPaid 0 = .ok (.iload_n 2, 1) := by decide +kernel
theorem dX8_mostPaid_1 : decode cX8_mostPaid 1 = .ok (.istore_n 3, 1) := by decide +kernel
theorem dX8_mostPaid_2 : decode cX8_mostPaid 2 = .ok (.iconst 0, 1) := by decide +kernel
theorem dX8_mostPaid_3 : decode cX8_mostPaid 3 = .ok (.istore 4, 2) := by decide +kernel
theorem dX8_mostPaid_5 : decode cX8_mostPaid 5 = .ok (.bipush 9, 2) := by decide +kernel
theorem dX8_mostPaid_7 : decode cX8_mostPaid 7 = .ok (.istore 5, 2) := by decide +kernel
theorem dX8_mostPaid_9 : decode cX8_mostPaid 9 = .ok (.iload 5, 2) := by decide +kernel
theorem dX8_mostPaid_11 : decode cX8_mostPaid 11 = .ok (.ifCond .le 82, 3) := by decide +kernel
theorem dX8_mostPaid_14 : decode cX8_mostPaid 14 = .ok (.iconst 0, 1) := by decide +kernel
theorem dX8_mostPaid_15 : decode cX8_mostPaid 15 = .ok (.istore 6, 2) := by decide +kernel
theorem dX8_mostPaid_17 : decode cX8_mostPaid 17 = .ok (.iload 6, 2) := by decide +kernel
theorem dX8_mostPaid_19 : decode cX8_mostPaid 19 = .ok (.aload_n 0, 1) := by decide +kernel
theorem dX8_mostPaid_20 : decode cX8_mostPaid 20 = .ok (.getfield 26, 3) := by decide +kernel
theorem dX8_mostPaid_23 : decode cX8_mostPaid 23 = .ok (.getfield 136, 3) := by decide +kernel
theorem dX8_mostPaid_26 : decode cX8_mostPaid 26 = .ok (.if_icmp .ge 61, 3) := by decide +kernel
theorem dX8_mostPaid_29 : decode cX8_mostPaid 29 = .ok (.iload_n 1, 1) := by decide +kernel
theorem dX8_mostPaid_30 : decode cX8_mostPaid 30 = .ok (.iload 6, 2) := by decide +kernel
theorem dX8_mostPaid_32 : decode cX8_mostPaid 32 = .ok (.ishr, 1) := by decide +kernel
theorem dX8_mostPaid_33 : decode cX8_mostPaid 33 = .ok (.iconst 1, 1) := by decide +kernel
theorem dX8_mostPaid_34 : decode cX8_mostPaid 34 = .ok (.iand, 1) := by decide +kernel
theorem dX8_mostPaid_35 : decode cX8_mostPaid 35 = .ok (.ifCond .eq 46, 3) := by decide +kernel
theorem dX8_mostPaid_38 : decode cX8_mostPaid 38 = .ok (.aload_n 0, 1) := by decide +kernel
theorem dX8_mostPaid_39 : decode cX8_mostPaid 39 = .ok (.getfield 26, 3) := by decide +kernel
theorem dX8_mostPaid_42 : decode cX8_mostPaid 42 = .ok (.getfield 156, 3) := by decide +kernel
theorem dX8_mostPaid_45 : decode cX8_mostPaid 45 = .ok (.iload 6, 2) := by decide +kernel
theorem dX8_mostPaid_47 : decode cX8_mostPaid 47 = .ok (.iaload, 1) := by decide +kernel
theorem dX8_mostPaid_48 : decode cX8_mostPaid 48 = .ok (.iload 5, 2) := by decide +kernel
theorem dX8_mostPaid_50 : decode cX8_mostPaid 50 = .ok (.if_icmp .ne 31, 3) := by decide +kernel
theorem dX8_mostPaid_53 : decode cX8_mostPaid 53 = .ok (.iload_n 3, 1) := by decide +kernel
theorem dX8_mostPaid_54 : decode cX8_mostPaid 54 = .ok (.aload_n 0, 1) := by decide +kernel
theorem dX8_mostPaid_55 : decode cX8_mostPaid 55 = .ok (.getfield 80, 3) := by decide +kernel
theorem dX8_mostPaid_58 : decode cX8_mostPaid 58 = .ok (.iload 6, 2) := by decide +kernel
theorem dX8_mostPaid_60 : decode cX8_mostPaid 60 = .ok (.iaload, 1) := by decide +kernel
theorem dX8_mostPaid_61 : decode cX8_mostPaid 61 = .ok (.invokestatic 130, 3) := by decide +kernel
theorem dX8_mostPaid_64 : decode cX8_mostPaid 64 = .ok (.istore 7, 2) := by decide +kernel
theorem dX8_mostPaid_66 : decode cX8_mostPaid 66 = .ok (.iload_n 3, 1) := by decide +kernel
theorem dX8_mostPaid_67 : decode cX8_mostPaid 67 = .ok (.iload 7, 2) := by decide +kernel
theorem dX8_mostPaid_69 : decode cX8_mostPaid 69 = .ok (.isub, 1) := by decide +kernel
theorem dX8_mostPaid_70 : decode cX8_mostPaid 70 = .ok (.istore_n 3, 1) := by decide +kernel
theorem dX8_mostPaid_71 : decode cX8_mostPaid 71 = .ok (.iload 4, 2) := by decide +kernel
theorem dX8_mostPaid_73 : decode cX8_mostPaid 73 = .ok (.iload 7, 2) := by decide +kernel
theorem dX8_mostPaid_75 : decode cX8_mostPaid 75 = .ok (.iload 5, 2) := by decide +kernel
theorem dX8_mostPaid_77 : decode cX8_mostPaid 77 = .ok (.imul, 1) := by decide +kernel
theorem dX8_mostPaid_78 : decode cX8_mostPaid 78 = .ok (.iadd, 1) := by decide +kernel
theorem dX8_mostPaid_79 : decode cX8_mostPaid 79 = .ok (.istore 4, 2) := by decide +kernel
theorem dX8_mostPaid_81 : decode cX8_mostPaid 81 = .ok (.iinc 6 1, 3) := by decide +kernel
theorem dX8_mostPaid_84 : decode cX8_mostPaid 84 = .ok (.goto (-67), 3) := by decide +kernel
theorem dX8_mostPaid_87 : decode cX8_mostPaid 87 = .ok (.iinc 5 (-1), 3) := by decide +kernel
theorem dX8_mostPaid_90 : decode cX8_mostPaid 90 = .ok (.goto (-81), 3) := by decide +kernel
theorem dX8_mostPaid_93 : decode cX8_mostPaid 93 = .ok (.iload 4, 2) := by decide +kernel
theorem dX8_mostPaid_95 : decode cX8_mostPaid 95 = .ok (.ireturn, 1) := by decide +kernel
theorem dX8_raises_0 : decode cX8_raises 0 = .ok (.iload_n 1, 1) := by decide +kernel
theorem dX8_raises_1 : decode cX8_raises 1 = .ok (.ifCond .lt 10, 3) := by decide +kernel
theorem dX8_raises_4 : decode cX8_raises 4 = .ok (.iload_n 1, 1) := by decide +kernel
theorem dX8_raises_5 : decode cX8_raises 5 = .ok (.sipush 9999, 3) := by decide +kernel
theorem dX8_raises_8 : decode cX8_raises 8 = .ok (.if_icmp .le 5, 3) := by decide +kernel
theorem dX8_raises_11 : decode cX8_raises 11 = .ok (.iconst (-1), 1) := by decide +kernel
theorem dX8_raises_12 : decode cX8_raises 12 = .ok (.ireturn, 1) := by decide +kernel
theorem dX8_raises_13 : decode cX8_raises 13 = .ok (.iload_n 1, 1) := by decide +kernel
theorem dX8_raises_14 : decode cX8_raises 14 = .ok (.aload_n 0, 1) := by decide +kernel
theorem dX8_raises_15 : decode cX8_raises 15 = .ok (.getfield 33, 3) := by decide +kernel
theorem dX8_raises_18 : decode cX8_raises 18 = .ok (.getfield 223, 3) := by decide +kernel
theorem dX8_raises_21 : decode cX8_raises 21 = .ok (.isub, 1) := by decide +kernel
theorem dX8_raises_22 : decode cX8_raises 22 = .ok (.istore_n 2, 1) := by decide +kernel
theorem dX8_raises_23 : decode cX8_raises 23 = .ok (.iload_n 2, 1) := by decide +kernel
theorem dX8_raises_24 : decode cX8_raises 24 = .ok (.ifCond .gt 15, 3) := by decide +kernel
theorem dX8_raises_27 : decode cX8_raises 27 = .ok (.aload_n 0, 1) := by decide +kernel
theorem dX8_raises_28 : decode cX8_raises 28 = .ok (.getfield 19, 3) := by decide +kernel
theorem dX8_raises_31 : decode cX8_raises 31 = .ok (.ldc2_w 336, 3) := by decide +kernel
theorem dX8_raises_34 : decode cX8_raises 34 = .ok (.invokevirtual 299, 3) := by decide +kernel
theorem dX8_raises_37 : decode cX8_raises 37 = .ok (.iconst 0, 1) := by decide +kernel
theorem dX8_raises_38 : decode cX8_raises 38 = .ok (.ireturn, 1) := by decide +kernel
theorem dX8_raises_39 : decode cX8_raises 39 = .ok (.bipush (-2), 2) := by decide +kernel
theorem dX8_raises_41 : decode cX8_raises 41 = .ok (.istore_n 3, 1) := by decide +kernel
theorem dX8_raises_42 : decode cX8_raises 42 = .ok (.iconst 0, 1) := by decide +kernel
theorem dX8_raises_43 : decode cX8_raises 43 = .ok (.istore 4, 2) := by decide +kernel
theorem dX8_raises_45 : decode cX8_raises 45 = .ok (.iload 4, 2) := by decide +kernel
theorem dX8_raises_47 : decode cX8_raises 47 = .ok (.aload_n 0, 1) := by decide +kernel
theorem dX8_raises_48 : decode cX8_raises 48 = .ok (.getfield 26, 3) := by decide +kernel
theorem dX8_raises_51 : decode cX8_raises 51 = .ok (.getfield 136, 3) := by decide +kernel
theorem dX8_raises_54 : decode cX8_raises 54 = .ok (.if_icmp .ge 80, 3) := by decide +kernel
theorem dX8_raises_57 : decode cX8_raises 57 = .ok (.iconst 2, 1) := by decide +kernel
theorem dX8_raises_58 : decode cX8_raises 58 = .ok (.aload_n 0, 1) := by decide +kernel
theorem dX8_raises_59 : decode cX8_raises 59 = .ok (.getfield 26, 3) := by decide +kernel
theorem dX8_raises_62 : decode cX8_raises 62 = .ok (.getfield 156, 3) := by decide +kernel
theorem dX8_raises_65 : decode cX8_raises 65 = .ok (.iload 4, 2) := by decide +kernel
theorem dX8_raises_67 : decode cX8_raises 67 = .ok (.iaload, 1) := by decide +kernel
theorem dX8_raises_68 : decode cX8_raises 68 = .ok (.imul, 1) := by decide +kernel
theorem dX8_raises_69 : decode cX8_raises 69 = .ok (.istore 5, 2) := by decide +kernel
theorem dX8_raises_71 : decode cX8_raises 71 = .ok (.iload 5, 2) := by decide +kernel
theorem dX8_raises_73 : decode cX8_raises 73 = .ok (.ifCond .le 15, 3) := by decide +kernel
theorem dX8_raises_76 : decode cX8_raises 76 = .ok (.iload_n 2, 1) := by decide +kernel
theorem dX8_raises_77 : decode cX8_raises 77 = .ok (.iload 5, 2) := by decide +kernel
theorem dX8_raises_79 : decode cX8_raises 79 = .ok (.iadd, 1) := by decide +kernel
theorem dX8_raises_80 : decode cX8_raises 80 = .ok (.iconst 1, 1) := by decide +kernel
theorem dX8_raises_81 : decode cX8_raises 81 = .ok (.isub, 1) := by decide +kernel
theorem dX8_raises_82 : decode cX8_raises 82 = .ok (.iload 5, 2) := by decide +kernel
theorem dX8_raises_84 : decode cX8_raises 84 = .ok (.idiv, 1) := by decide +kernel
theorem dX8_raises_85 : decode cX8_raises 85 = .ok (.goto 6, 3) := by decide +kernel
theorem dX8_raises_88 : decode cX8_raises 88 = .ok (.sipush 10000, 3) := by decide +kernel
theorem dX8_raises_91 : decode cX8_raises 91 = .ok (.istore 6, 2) := by decide +kernel
theorem dX8_raises_93 : decode cX8_raises 93 = .ok (.iload 6, 2) := by decide +kernel
theorem dX8_raises_95 : decode cX8_raises 95 = .ok (.aload_n 0, 1) := by decide +kernel
theorem dX8_raises_96 : decode cX8_raises 96 = .ok (.getfield 33, 3) := by decide +kernel
theorem dX8_raises_99 : decode cX8_raises 99 = .ok (.getfield 256, 3) := by decide +kernel
theorem dX8_raises_102 : decode cX8_raises 102 = .ok (.if_icmp .gt 26, 3) := by decide +kernel
theorem dX8_raises_105 : decode cX8_raises 105 = .ok (.iload_n 3, 1) := by decide +kernel
theorem dX8_raises_106 : decode cX8_raises 106 = .ok (.ifCond .lt 9, 3) := by decide +kernel
theorem dX8_raises_109 : decode cX8_raises 109 = .ok (.iload 6, 2) := by decide +kernel
theorem dX8_raises_111 : decode cX8_raises 111 = .ok (.iload_n 3, 1) := by decide +kernel
theorem dX8_raises_112 : decode cX8_raises 112 = .ok (.if_icmp .ge 16, 3) := by decide +kernel
theorem dX8_raises_115 : decode cX8_raises 115 = .ok (.iload 6, 2) := by decide +kernel
theorem dX8_raises_117 : decode cX8_raises 117 = .ok (.istore_n 3, 1) := by decide +kernel
theorem dX8_raises_118 : decode cX8_raises 118 = .ok (.aload_n 0, 1) := by decide +kernel
theorem dX8_raises_119 : decode cX8_raises 119 = .ok (.getfield 19, 3) := by decide +kernel
theorem dX8_raises_122 : decode cX8_raises 122 = .ok (.iload 4, 2) := by decide +kernel
theorem dX8_raises_124 : decode cX8_raises 124 = .ok (.i2l, 1) := by decide +kernel
theorem dX8_raises_125 : decode cX8_raises 125 = .ok (.invokevirtual 299, 3) := by decide +kernel
theorem dX8_raises_128 : decode cX8_raises 128 = .ok (.iinc 4 1, 3) := by decide +kernel
theorem dX8_raises_131 : decode cX8_raises 131 = .ok (.goto (-86), 3) := by decide +kernel
theorem dX8_raises_134 : decode cX8_raises 134 = .ok (.iload_n 3, 1) := by decide +kernel
theorem dX8_raises_135 : decode cX8_raises 135 = .ok (.ireturn, 1) := by decide +kernel
theorem dX8_grows_0 : decode cX8_grows 0 = .ok (.iload_n 1, 1) := by decide +kernel
theorem dX8_grows_1 : decode cX8_grows 1 = .ok (.ifCond .lt 20, 3) := by decide +kernel
theorem dX8_grows_4 : decode cX8_grows 4 = .ok (.iload_n 1, 1) := by decide +kernel
theorem dX8_grows_5 : decode cX8_grows 5 = .ok (.sipush 9999, 3) := by decide +kernel
theorem dX8_grows_8 : decode cX8_grows 8 = .ok (.if_icmp .gt 13, 3) := by decide +kernel
theorem dX8_grows_11 : decode cX8_grows 11 = .ok (.iload_n 2, 1) := by decide +kernel
theorem dX8_grows_12 : decode cX8_grows 12 = .ok (.ifCond .lt 9, 3) := by decide +kernel
theorem dX8_grows_15 : decode cX8_grows 15 = .ok (.iload_n 2, 1) := by decide +kernel
theorem dX8_grows_16 : decode cX8_grows 16 = .ok (.bipush 30, 2) := by decide +kernel
theorem dX8_grows_18 : decode cX8_grows 18 = .ok (.if_icmp .le 5, 3) := by decide +kernel
theorem dX8_grows_21 : decode cX8_grows 21 = .ok (.iconst (-1), 1) := by decide +kernel
theorem dX8_grows_22 : decode cX8_grows 22 = .ok (.ireturn, 1) := by decide +kernel
theorem dX8_grows_23 : decode cX8_grows 23 = .ok (.iload_n 1, 1) := by decide +kernel
theorem dX8_grows_24 : decode cX8_grows 24 = .ok (.istore_n 3, 1) := by decide +kernel
theorem dX8_grows_25 : decode cX8_grows 25 = .ok (.iconst 0, 1) := by decide +kernel
theorem dX8_grows_26 : decode cX8_grows 26 = .ok (.istore 4, 2) := by decide +kernel
theorem dX8_grows_28 : decode cX8_grows 28 = .ok (.iconst 0, 1) := by decide +kernel
theorem dX8_grows_29 : decode cX8_grows 29 = .ok (.istore 5, 2) := by decide +kernel
theorem dX8_grows_31 : decode cX8_grows 31 = .ok (.iload 5, 2) := by decide +kernel
theorem dX8_grows_33 : decode cX8_grows 33 = .ok (.iload_n 2, 1) := by decide +kernel
theorem dX8_grows_34 : decode cX8_grows 34 = .ok (.if_icmp .ge 34, 3) := by decide +kernel
theorem dX8_grows_37 : decode cX8_grows 37 = .ok (.iload_n 3, 1) := by decide +kernel
theorem dX8_grows_38 : decode cX8_grows 38 = .ok (.aload_n 0, 1) := by decide +kernel
theorem dX8_grows_39 : decode cX8_grows 39 = .ok (.getfield 33, 3) := by decide +kernel
theorem dX8_grows_42 : decode cX8_grows 42 = .ok (.getfield 246, 3) := by decide +kernel
theorem dX8_grows_45 : decode cX8_grows 45 = .ok (.invokestatic 338, 3) := by decide +kernel
theorem dX8_grows_48 : decode cX8_grows 48 = .ok (.istore 6, 2) := by decide +kernel
theorem dX8_grows_50 : decode cX8_grows 50 = .ok (.iload 6, 2) := by decide +kernel
theorem dX8_grows_52 : decode cX8_grows 52 = .ok (.iload_n 3, 1) := by decide +kernel
theorem dX8_grows_53 : decode cX8_grows 53 = .ok (.if_icmp .eq 6, 3) := by decide +kernel
theorem dX8_grows_56 : decode cX8_grows 56 = .ok (.iinc 4 1, 3) := by decide +kernel
theorem dX8_grows_59 : decode cX8_grows 59 = .ok (.iload 6, 2) := by decide +kernel
theorem dX8_grows_61 : decode cX8_grows 61 = .ok (.istore_n 3, 1) := by decide +kernel
theorem dX8_grows_62 : decode cX8_grows 62 = .ok (.iinc 5 1, 3) := by decide +kernel
theorem dX8_grows_65 : decode cX8_grows 65 = .ok (.goto (-34), 3) := by decide +kernel
theorem dX8_grows_68 : decode cX8_grows 68 = .ok (.aload_n 0, 1) := by decide +kernel
theorem dX8_grows_69 : decode cX8_grows 69 = .ok (.getfield 19, 3) := by decide +kernel
theorem dX8_grows_72 : decode cX8_grows 72 = .ok (.iload 4, 2) := by decide +kernel
theorem dX8_grows_74 : decode cX8_grows 74 = .ok (.i2l, 1) := by decide +kernel
theorem dX8_grows_75 : decode cX8_grows 75 = .ok (.invokevirtual 299, 3) := by decide +kernel
theorem dX8_grows_78 : decode cX8_grows 78 = .ok (.iload_n 3, 1) := by decide +kernel
theorem dX8_grows_79 : decode cX8_grows 79 = .ok (.ireturn, 1) := by decide +kernel
theorem dX8_grown_0 : decode cX8_grown 0 = .ok (.iload_n 0, 1) := by decide +kernel
theorem dX8_grown_1 : decode cX8_grown 1 = .ok (.iload_n 0, 1) := by decide +kernel
theorem dX8_grown_2 : decode cX8_grown 2 = .ok (.iload_n 1, 1) := by decide +kernel
theorem dX8_grown_3 : decode cX8_grown 3 = .ok (.imul, 1) := by decide +kernel
theorem dX8_grown_4 : decode cX8_grown 4 = .ok (.bipush 10, 2) := by decide +kernel
theorem dX8_grown_6 : decode cX8_grown 6 = .ok (.idiv, 1) := by decide +kernel
theorem dX8_grown_7 : decode cX8_grown 7 = .ok (.iadd, 1) := by decide +kernel
theorem dX8_grown_8 : decode cX8_grown 8 = .ok (.iconst 0, 1) := by decide +kernel
theorem dX8_grown_9 : decode cX8_grown 9 = .ok (.sipush 9999, 3) := by decide +kernel
theorem dX8_grown_12 : decode cX8_grown 12 = .ok (.invokestatic 202, 3) := by decide +kernel
theorem dX8_grown_15 : decode cX8_grown 15 = .ok (.ireturn, 1) := by decide +kernel
theorem dX8_adds_0 : decode cX8_adds 0 = .ok (.iload_n 1, 1) := by decide +kernel
theorem dX8_adds_1 : decode cX8_adds 1 = .ok (.ifCond .lt 10, 3) := by decide +kernel
theorem dX8_adds_4 : decode cX8_adds 4 = .ok (.iload_n 1, 1) := by decide +kernel
theorem dX8_adds_5 : decode cX8_adds 5 = .ok (.sipush 999, 3) := by decide +kernel
theorem dX8_adds_8 : decode cX8_adds 8 = .ok (.if_icmp .le 5, 3) := by decide +kernel
theorem dX8_adds_11 : decode cX8_adds 11 = .ok (.iconst (-1), 1) := by decide +kernel
theorem dX8_adds_12 : decode cX8_adds 12 = .ok (.ireturn, 1) := by decide +kernel
theorem dX8_adds_13 : decode cX8_adds 13 = .ok (.bipush (-2), 2) := by decide +kernel
theorem dX8_adds_15 : decode cX8_adds 15 = .ok (.istore_n 2, 1) := by decide +kernel
theorem dX8_adds_16 : decode cX8_adds 16 = .ok (.iconst 0, 1) := by decide +kernel
theorem dX8_adds_17 : decode cX8_adds 17 = .ok (.istore_n 3, 1) := by decide +kernel
theorem dX8_adds_18 : decode cX8_adds 18 = .ok (.iload_n 3, 1) := by decide +kernel
theorem dX8_adds_19 : decode cX8_adds 19 = .ok (.iconst 1, 1) := by decide +kernel
theorem dX8_adds_20 : decode cX8_adds 20 = .ok (.aload_n 0, 1) := by decide +kernel
theorem dX8_adds_21 : decode cX8_adds 21 = .ok (.getfield 26, 3) := by decide +kernel
theorem dX8_adds_24 : decode cX8_adds 24 = .ok (.getfield 136, 3) := by decide +kernel
theorem dX8_adds_27 : decode cX8_adds 27 = .ok (.ishl, 1) := by decide +kernel
theorem dX8_adds_28 : decode cX8_adds 28 = .ok (.if_icmp .ge 46, 3) := by decide +kernel
theorem dX8_adds_31 : decode cX8_adds 31 = .ok (.iload_n 3, 1) := by decide +kernel
theorem dX8_adds_32 : decode cX8_adds 32 = .ok (.invokestatic 187, 3) := by decide +kernel
theorem dX8_adds_35 : decode cX8_adds 35 = .ok (.istore 4, 2) := by decide +kernel
theorem dX8_adds_37 : decode cX8_adds 37 = .ok (.aload_n 0, 1) := by decide +kernel
theorem dX8_adds_38 : decode cX8_adds 38 = .ok (.iload_n 3, 1) := by decide +kernel
theorem dX8_adds_39 : decode cX8_adds 39 = .ok (.invokevirtual 341, 3) := by decide +kernel
theorem dX8_adds_42 : decode cX8_adds 42 = .ok (.iload_n 1, 1) := by decide +kernel
theorem dX8_adds_43 : decode cX8_adds 43 = .ok (.if_icmp .ne 25, 3) := by decide +kernel
theorem dX8_adds_46 : decode cX8_adds 46 = .ok (.iload_n 2, 1) := by decide +kernel
theorem dX8_adds_47 : decode cX8_adds 47 = .ok (.ifCond .lt 9, 3) := by decide +kernel
theorem dX8_adds_50 : decode cX8_adds 50 = .ok (.iload 4, 2) := by decide +kernel
theorem dX8_adds_52 : decode cX8_adds 52 = .ok (.iload_n 2, 1) := by decide +kernel
theorem dX8_adds_53 : decode cX8_adds 53 = .ok (.if_icmp .ge 15, 3) := by decide +kernel
theorem dX8_adds_56 : decode cX8_adds 56 = .ok (.iload 4, 2) := by decide +kernel
theorem dX8_adds_58 : decode cX8_adds 58 = .ok (.istore_n 2, 1) := by decide +kernel
theorem dX8_adds_59 : decode cX8_adds 59 = .ok (.aload_n 0, 1) := by decide +kernel
theorem dX8_adds_60 : decode cX8_adds 60 = .ok (.getfield 19, 3) := by decide +kernel
theorem dX8_adds_63 : decode cX8_adds 63 = .ok (.iload_n 3, 1) := by decide +kernel
theorem dX8_adds_64 : decode cX8_adds 64 = .ok (.i2l, 1) := by decide +kernel
theorem dX8_adds_65 : decode cX8_adds 65 = .ok (.invokevirtual 299, 3) := by decide +kernel
theorem dX8_adds_68 : decode cX8_adds 68 = .ok (.iinc 3 1, 3) := by decide +kernel
theorem dX8_adds_71 : decode cX8_adds 71 = .ok (.goto (-53), 3) := by decide +kernel
theorem dX8_adds_74 : decode cX8_adds 74 = .ok (.iload_n 2, 1) := by decide +kernel
theorem dX8_adds_75 : decode cX8_adds 75 = .ok (.ireturn, 1) := by decide +kernel
theorem dX8_heardBy_0 : decode cX8_heardBy 0 = .ok (.iconst 0, 1) := by decide +kernel
theorem dX8_heardBy_1 : decode cX8_heardBy 1 = .ok (.istore_n 2, 1) := by decide +kernel
theorem dX8_heardBy_2 : decode cX8_heardBy 2 = .ok (.iconst 0, 1) := by decide +kernel
theorem dX8_heardBy_3 : decode cX8_heardBy 3 = .ok (.istore_n 3, 1) := by decide +kernel
theorem dX8_heardBy_4 : decode cX8_heardBy 4 = .ok (.iload_n 3, 1) := by decide +kernel
theorem dX8_heardBy_5 : decode cX8_heardBy 5 = .ok (.aload_n 0, 1) := by decide +kernel
theorem dX8_heardBy_6 : decode cX8_heardBy 6 = .ok (.getfield 26, 3) := by decide +kernel
theorem dX8_heardBy_9 : decode cX8_heardBy 9 = .ok (.getfield 136, 3) := by decide +kernel
theorem dX8_heardBy_12 : decode cX8_heardBy 12 = .ok (.if_icmp .ge 29, 3) := by decide +kernel
theorem dX8_heardBy_15 : decode cX8_heardBy 15 = .ok (.iload_n 1, 1) := by decide +kernel
theorem dX8_heardBy_16 : decode cX8_heardBy 16 = .ok (.iload_n 3, 1) := by decide +kernel
theorem dX8_heardBy_17 : decode cX8_heardBy 17 = .ok (.ishr, 1) := by decide +kernel
theorem dX8_heardBy_18 : decode cX8_heardBy 18 = .ok (.iconst 1, 1) := by decide +kernel
theorem dX8_heardBy_19 : decode cX8_heardBy 19 = .ok (.iand, 1) := by decide +kernel
theorem dX8_heardBy_20 : decode cX8_heardBy 20 = .ok (.ifCond .eq 15, 3) := by decide +kernel
theorem dX8_heardBy_23 : decode cX8_heardBy 23 = .ok (.iload_n 2, 1) := by decide +kernel
theorem dX8_heardBy_24 : decode cX8_heardBy 24 = .ok (.aload_n 0, 1) := by decide +kernel
theorem dX8_heardBy_25 : decode cX8_heardBy 25 = .ok (.getfield 33, 3) := by decide +kernel
theorem dX8_heardBy_28 : decode cX8_heardBy 28 = .ok (.getfield 159, 3) := by decide +kernel
theorem dX8_heardBy_31 : decode cX8_heardBy 31 = .ok (.iload_n 3, 1) := by decide +kernel
theorem dX8_heardBy_32 : decode cX8_heardBy 32 = .ok (.iaload, 1) := by decide +kernel
theorem dX8_heardBy_33 : decode cX8_heardBy 33 = .ok (.iadd, 1) := by decide +kernel
theorem dX8_heardBy_34 : decode cX8_heardBy 34 = .ok (.istore_n 2, 1) := by decide +kernel
theorem dX8_heardBy_35 : decode cX8_heardBy 35 = .ok (.iinc 3 1, 3) := by decide +kernel
theorem dX8_heardBy_38 : decode cX8_heardBy 38 = .ok (.goto (-34), 3) := by decide +kernel
theorem dX8_heardBy_41 : decode cX8_heardBy 41 = .ok (.iload_n 2, 1) := by decide +kernel
theorem dX8_heardBy_42 : decode cX8_heardBy 42 = .ok (.ireturn, 1) := by decide +kernel
theorem dX8_nearest_0 : decode cX8_nearest 0 = .ok (.iload_n 1, 1) := by decide +kernel
theorem dX8_nearest_1 : decode cX8_nearest 1 = .ok (.ifCond .lt 10, 3) := by decide +kernel
theorem dX8_nearest_4 : decode cX8_nearest 4 = .ok (.iload_n 1, 1) := by decide +kernel
theorem dX8_nearest_5 : decode cX8_nearest 5 = .ok (.sipush 999, 3) := by decide +kernel
theorem dX8_nearest_8 : decode cX8_nearest 8 = .ok (.if_icmp .le 5, 3) := by decide +kernel
theorem dX8_nearest_11 : decode cX8_nearest 11 = .ok (.iconst (-1), 1) := by decide +kernel
theorem dX8_nearest_12 : decode cX8_nearest 12 = .ok (.ireturn, 1) := by decide +kernel
theorem dX8_nearest_13 : decode cX8_nearest 13 = .ok (.iconst 0, 1) := by decide +kernel
theorem dX8_nearest_14 : decode cX8_nearest 14 = .ok (.istore_n 2, 1) := by decide +kernel
theorem dX8_nearest_15 : decode cX8_nearest 15 = .ok (.iconst 0, 1) := by decide +kernel
theorem dX8_nearest_16 : decode cX8_nearest 16 = .ok (.istore_n 3, 1) := by decide +kernel
theorem dX8_nearest_17 : decode cX8_nearest 17 = .ok (.iconst 1, 1) := by decide +kernel
theorem dX8_nearest_18 : decode cX8_nearest 18 = .ok (.istore 4, 2) := by decide +kernel
theorem dX8_nearest_20 : decode cX8_nearest 20 = .ok (.iload 4, 2) := by decide +kernel
theorem dX8_nearest_22 : decode cX8_nearest 22 = .ok (.iconst 1, 1) := by decide +kernel
theorem dX8_nearest_23 : decode cX8_nearest 23 = .ok (.aload_n 0, 1) := by decide +kernel
theorem dX8_nearest_24 : decode cX8_nearest 24 = .ok (.getfield 26, 3) := by decide +kernel
theorem dX8_nearest_27 : decode cX8_nearest 27 = .ok (.getfield 136, 3) := by decide +kernel
theorem dX8_nearest_30 : decode cX8_nearest 30 = .ok (.ishl, 1) := by decide +kernel
theorem dX8_nearest_31 : decode cX8_nearest 31 = .ok (.if_icmp .ge 63, 3) := by decide +kernel
theorem dX8_nearest_34 : decode cX8_nearest 34 = .ok (.aload_n 0, 1) := by decide +kernel
theorem dX8_nearest_35 : decode cX8_nearest 35 = .ok (.iload 4, 2) := by decide +kernel
theorem dX8_nearest_37 : decode cX8_nearest 37 = .ok (.invokevirtual 341, 3) := by decide +kernel
theorem dX8_nearest_40 : decode cX8_nearest 40 = .ok (.istore 5, 2) := by decide +kernel
theorem dX8_nearest_42 : decode cX8_nearest 42 = .ok (.iload 5, 2) := by decide +kernel
theorem dX8_nearest_44 : decode cX8_nearest 44 = .ok (.iload_n 3, 1) := by decide +kernel
theorem dX8_nearest_45 : decode cX8_nearest 45 = .ok (.if_icmp .ne 19, 3) := by decide +kernel
theorem dX8_nearest_48 : decode cX8_nearest 48 = .ok (.iload 4, 2) := by decide +kernel
theorem dX8_nearest_50 : decode cX8_nearest 50 = .ok (.invokestatic 187, 3) := by decide +kernel
theorem dX8_nearest_53 : decode cX8_nearest 53 = .ok (.iload_n 2, 1) := by decide +kernel
theorem dX8_nearest_54 : decode cX8_nearest 54 = .ok (.invokestatic 187, 3) := by decide +kernel
theorem dX8_nearest_57 : decode cX8_nearest 57 = .ok (.if_icmp .ge 7, 3) := by decide +kernel
theorem dX8_nearest_60 : decode cX8_nearest 60 = .ok (.iconst 1, 1) := by decide +kernel
theorem dX8_nearest_61 : decode cX8_nearest 61 = .ok (.goto 4, 3) := by decide +kernel
theorem dX8_nearest_64 : decode cX8_nearest 64 = .ok (.iconst 0, 1) := by decide +kernel
theorem dX8_nearest_65 : decode cX8_nearest 65 = .ok (.istore 6, 2) := by decide +kernel
theorem dX8_nearest_67 : decode cX8_nearest 67 = .ok (.iload 6, 2) := by decide +kernel
theorem dX8_nearest_69 : decode cX8_nearest 69 = .ok (.ifCond .ne 13, 3) := by decide +kernel
theorem dX8_nearest_72 : decode cX8_nearest 72 = .ok (.iload 5, 2) := by decide +kernel
theorem dX8_nearest_74 : decode cX8_nearest 74 = .ok (.iload_n 3, 1) := by decide +kernel
theorem dX8_nearest_75 : decode cX8_nearest 75 = .ok (.iload_n 1, 1) := by decide +kernel
theorem dX8_nearest_76 : decode cX8_nearest 76 = .ok (.invokestatic 344, 3) := by decide +kernel
theorem dX8_nearest_79 : decode cX8_nearest 79 = .ok (.ifCond .eq 9, 3) := by decide +kernel
theorem dX8_nearest_82 : decode cX8_nearest 82 = .ok (.iload 4, 2) := by decide +kernel
theorem dX8_nearest_84 : decode cX8_nearest 84 = .ok (.istore_n 2, 1) := by decide +kernel
theorem dX8_nearest_85 : decode cX8_nearest 85 = .ok (.iload 5, 2) := by decide +kernel
theorem dX8_nearest_87 : decode cX8_nearest 87 = .ok (.istore_n 3, 1) := by decide +kernel
theorem dX8_nearest_88 : decode cX8_nearest 88 = .ok (.iinc 4 1, 3) := by decide +kernel
theorem dX8_nearest_91 : decode cX8_nearest 91 = .ok (.goto (-71), 3) := by decide +kernel
theorem dX8_nearest_94 : decode cX8_nearest 94 = .ok (.aload_n 0, 1) := by decide +kernel
theorem dX8_nearest_95 : decode cX8_nearest 95 = .ok (.getfield 19, 3) := by decide +kernel
theorem dX8_nearest_98 : decode cX8_nearest 98 = .ok (.iload_n 2, 1) := by decide +kernel
theorem dX8_nearest_99 : decode cX8_nearest 99 = .ok (.i2l, 1) := by decide +kernel
theorem dX8_nearest_100 : decode cX8_nearest 100 = .ok (.invokevirtual 299, 3) := by decide +kernel
theorem dX8_nearest_103 : decode cX8_nearest 103 = .ok (.iload_n 3, 1) := by decide +kernel
theorem dX8_nearest_104 : decode cX8_nearest 104 = .ok (.ireturn, 1) := by decide +kernel
theorem dX8_closer_0 : decode cX8_closer 0 = .ok (.iload_n 0, 1) := by decide +kernel
theorem dX8_closer_1 : decode cX8_closer 1 = .ok (.iload_n 2, 1) := by decide +kernel
theorem dX8_closer_2 : decode cX8_closer 2 = .ok (.isub, 1) := by decide +kernel
theorem dX8_closer_3 : decode cX8_closer 3 = .ok (.invokestatic 348, 3) := by decide +kernel
theorem dX8_closer_6 : decode cX8_closer 6 = .ok (.istore_n 3, 1) := by decide +kernel
theorem dX8_closer_7 : decode cX8_closer 7 = .ok (.iload_n 1, 1) := by decide +kernel
theorem dX8_closer_8 : decode cX8_closer 8 = .ok (.iload_n 2, 1) := by decide +kernel
theorem dX8_closer_9 : decode cX8_closer 9 = .ok (.isub, 1) := by decide +kernel
theorem dX8_closer_10 : decode cX8_closer 10 = .ok (.invokestatic 348, 3) := by decide +kernel
theorem dX8_closer_13 : decode cX8_closer 13 = .ok (.istore 4, 2) := by decide +kernel
theorem dX8_closer_15 : decode cX8_closer 15 = .ok (.iload_n 3, 1) := by decide +kernel
theorem dX8_closer_16 : decode cX8_closer 16 = .ok (.iload 4, 2) := by decide +kernel
theorem dX8_closer_18 : decode cX8_closer 18 = .ok (.if_icmp .lt 14, 3) := by decide +kernel
theorem dX8_closer_21 : decode cX8_closer 21 = .ok (.iload_n 3, 1) := by decide +kernel
theorem dX8_closer_22 : decode cX8_closer 22 = .ok (.iload 4, 2) := by decide +kernel
theorem dX8_closer_24 : decode cX8_closer 24 = .ok (.if_icmp .ne 12, 3) := by decide +kernel
theorem dX8_closer_27 : decode cX8_closer 27 = .ok (.iload_n 0, 1) := by decide +kernel
theorem dX8_closer_28 : decode cX8_closer 28 = .ok (.iload_n 1, 1) := by decide +kernel
theorem dX8_closer_29 : decode cX8_closer 29 = .ok (.if_icmp .ge 7, 3) := by decide +kernel
theorem dX8_closer_32 : decode cX8_closer 32 = .ok (.iconst 1, 1) := by decide +kernel
theorem dX8_closer_33 : decode cX8_closer 33 = .ok (.goto 4, 3) := by decide +kernel
theorem dX8_closer_36 : decode cX8_closer 36 = .ok (.iconst 0, 1) := by decide +kernel
theorem dX8_closer_37 : decode cX8_closer 37 = .ok (.ireturn, 1) := by decide +kernel
theorem dX8_awards_0 : decode cX8_awards 0 = .ok (.iload_n 1, 1) := by decide +kernel
theorem dX8_awards_1 : decode cX8_awards 1 = .ok (.ifCond .lt 10, 3) := by decide +kernel
theorem dX8_awards_4 : decode cX8_awards 4 = .ok (.iload_n 1, 1) := by decide +kernel
theorem dX8_awards_5 : decode cX8_awards 5 = .ok (.sipush 999, 3) := by decide +kernel
theorem dX8_awards_8 : decode cX8_awards 8 = .ok (.if_icmp .le 5, 3) := by decide +kernel
theorem dX8_awards_11 : decode cX8_awards 11 = .ok (.iconst (-1), 1) := by decide +kernel
theorem dX8_awards_12 : decode cX8_awards 12 = .ok (.ireturn, 1) := by decide +kernel
theorem dX8_awards_13 : decode cX8_awards 13 = .ok (.iconst 0, 1) := by decide +kernel
theorem dX8_awards_14 : decode cX8_awards 14 = .ok (.istore_n 2, 1) := by decide +kernel
theorem dX8_awards_15 : decode cX8_awards 15 = .ok (.iload_n 2, 1) := by decide +kernel
theorem dX8_awards_16 : decode cX8_awards 16 = .ok (.bipush 8, 2) := by decide +kernel
theorem dX8_awards_18 : decode cX8_awards 18 = .ok (.if_icmp .ge 16, 3) := by decide +kernel
theorem dX8_awards_21 : decode cX8_awards 21 = .ok (.aload_n 0, 1) := by decide +kernel
theorem dX8_awards_22 : decode cX8_awards 22 = .ok (.getfield 80, 3) := by decide +kernel
theorem dX8_awards_25 : decode cX8_awards 25 = .ok (.iload_n 2, 1) := by decide +kernel
theorem dX8_awards_26 : decode cX8_awards 26 = .ok (.iconst 0, 1) := by decide +kernel
theorem dX8_awards_27 : decode cX8_awards 27 = .ok (.iastore, 1) := by decide +kernel
theorem dX8_awards_28 : decode cX8_awards 28 = .ok (.iinc 2 1, 3) := by decide +kernel
theorem dX8_awards_31 : decode cX8_awards 31 = .ok (.goto (-16), 3) := by decide +kernel
theorem dX8_awards_34 : decode cX8_awards 34 = .ok (.iload_n 1, 1) := by decide +kernel
theorem dX8_awards_35 : decode cX8_awards 35 = .ok (.istore_n 2, 1) := by decide +kernel
theorem dX8_awards_36 : decode cX8_awards 36 = .ok (.iconst 0, 1) := by decide +kernel
theorem dX8_awards_37 : decode cX8_awards 37 = .ok (.istore_n 3, 1) := by decide +kernel
theorem dX8_awards_38 : decode cX8_awards 38 = .ok (.iload_n 3, 1) := by decide +kernel
theorem dX8_awards_39 : decode cX8_awards 39 = .ok (.iload_n 1, 1) := by decide +kernel
theorem dX8_awards_40 : decode cX8_awards 40 = .ok (.if_icmp .ge 44, 3) := by decide +kernel
theorem dX8_awards_43 : decode cX8_awards 43 = .ok (.aload_n 0, 1) := by decide +kernel
theorem dX8_awards_44 : decode cX8_awards 44 = .ok (.invokevirtual 351, 3) := by decide +kernel
theorem dX8_awards_47 : decode cX8_awards 47 = .ok (.istore 4, 2) := by decide +kernel
theorem dX8_awards_49 : decode cX8_awards 49 = .ok (.aload_n 0, 1) := by decide +kernel
theorem dX8_awards_50 : decode cX8_awards 50 = .ok (.getfield 26, 3) := by decide +kernel
theorem dX8_awards_53 : decode cX8_awards 53 = .ok (.iload 4, 2) := by decide +kernel
theorem dX8_awards_55 : decode cX8_awards 55 = .ok (.invokevirtual 175, 3) := by decide +kernel
theorem dX8_awards_58 : decode cX8_awards 58 = .ok (.ifCond .ne 6, 3) := by decide +kernel
theorem dX8_awards_61 : decode cX8_awards 61 = .ok (.goto 23, 3) := by decide +kernel
theorem dX8_awards_64 : decode cX8_awards 64 = .ok (.aload_n 0, 1) := by decide +kernel
theorem dX8_awards_65 : decode cX8_awards 65 = .ok (.getfield 80, 3) := by decide +kernel
theorem dX8_awards_68 : decode cX8_awards 68 = .ok (.iload 4, 2) := by decide +kernel
theorem dX8_awards_70 : decode cX8_awards 70 = .ok (.dup2, 1) := by decide +kernel
theorem dX8_awards_71 : decode cX8_awards 71 = .ok (.iaload, 1) := by decide +kernel
theorem dX8_awards_72 : decode cX8_awards 72 = .ok (.iconst 1, 1) := by decide +kernel
theorem dX8_awards_73 : decode cX8_awards 73 = .ok (.iadd, 1) := by decide +kernel
theorem dX8_awards_74 : decode cX8_awards 74 = .ok (.iastore, 1) := by decide +kernel
theorem dX8_awards_75 : decode cX8_awards 75 = .ok (.iinc 2 (-1), 3) := by decide +kernel
theorem dX8_awards_78 : decode cX8_awards 78 = .ok (.iinc 3 1, 3) := by decide +kernel
theorem dX8_awards_81 : decode cX8_awards 81 = .ok (.goto (-43), 3) := by decide +kernel
theorem dX8_awards_84 : decode cX8_awards 84 = .ok (.aload_n 0, 1) := by decide +kernel
theorem dX8_awards_85 : decode cX8_awards 85 = .ok (.getfield 19, 3) := by decide +kernel
theorem dX8_awards_88 : decode cX8_awards 88 = .ok (.invokevirtual 328, 3) := by decide +kernel
theorem dX8_awards_91 : decode cX8_awards 91 = .ok (.iconst 0, 1) := by decide +kernel
theorem dX8_awards_92 : decode cX8_awards 92 = .ok (.istore_n 3, 1) := by decide +kernel
theorem dX8_awards_93 : decode cX8_awards 93 = .ok (.iload_n 3, 1) := by decide +kernel
theorem dX8_awards_94 : decode cX8_awards 94 = .ok (.aload_n 0, 1) := by decide +kernel
theorem dX8_awards_95 : decode cX8_awards 95 = .ok (.getfield 26, 3) := by decide +kernel
theorem dX8_awards_98 : decode cX8_awards 98 = .ok (.getfield 136, 3) := by decide +kernel
theorem dX8_awards_101 : decode cX8_awards 101 = .ok (.if_icmp .ge 23, 3) := by decide +kernel
theorem dX8_awards_104 : decode cX8_awards 104 = .ok (.aload_n 0, 1) := by decide +kernel
theorem dX8_awards_105 : decode cX8_awards 105 = .ok (.getfield 19, 3) := by decide +kernel
theorem dX8_awards_108 : decode cX8_awards 108 = .ok (.aload_n 0, 1) := by decide +kernel
theorem dX8_awards_109 : decode cX8_awards 109 = .ok (.getfield 80, 3) := by decide +kernel
theorem dX8_awards_112 : decode cX8_awards 112 = .ok (.iload_n 3, 1) := by decide +kernel
theorem dX8_awards_113 : decode cX8_awards 113 = .ok (.iaload, 1) := by decide +kernel
theorem dX8_awards_114 : decode cX8_awards 114 = .ok (.i2l, 1) := by decide +kernel
theorem dX8_awards_115 : decode cX8_awards 115 = .ok (.invokevirtual 334, 3) := by decide +kernel
theorem dX8_awards_118 : decode cX8_awards 118 = .ok (.iinc 3 1, 3) := by decide +kernel
theorem dX8_awards_121 : decode cX8_awards 121 = .ok (.goto (-28), 3) := by decide +kernel
theorem dX8_awards_124 : decode cX8_awards 124 = .ok (.aload_n 0, 1) := by decide +kernel
theorem dX8_awards_125 : decode cX8_awards 125 = .ok (.getfield 19, 3) := by decide +kernel
theorem dX8_awards_128 : decode cX8_awards 128 = .ok (.iload_n 2, 1) := by decide +kernel
theorem dX8_awards_129 : decode cX8_awards 129 = .ok (.i2l, 1) := by decide +kernel
theorem dX8_awards_130 : decode cX8_awards 130 = .ok (.invokevirtual 334, 3) := by decide +kernel
theorem dX8_awards_133 : decode cX8_awards 133 = .ok (.aload_n 0, 1) := by decide +kernel
theorem dX8_awards_134 : decode cX8_awards 134 = .ok (.getfield 80, 3) := by decide +kernel
theorem dX8_awards_137 : decode cX8_awards 137 = .ok (.iconst 0, 1) := by decide +kernel
theorem dX8_awards_138 : decode cX8_awards 138 = .ok (.iaload, 1) := by decide +kernel
theorem dX8_awards_139 : decode cX8_awards 139 = .ok (.ireturn, 1) := by decide +kernel
theorem dX8_poorest_0 : decode cX8_poorest 0 = .ok (.iconst (-1), 1) := by decide +kernel
theorem dX8_poorest_1 : decode cX8_poorest 1 = .ok (.istore_n 1, 1) := by decide +kernel
theorem dX8_poorest_2 : decode cX8_poorest 2 = .ok (.iconst 0, 1) := by decide +kernel
theorem dX8_poorest_3 : decode cX8_poorest 3 = .ok (.istore_n 2, 1) := by decide +kernel
theorem dX8_poorest_4 : decode cX8_poorest 4 = .ok (.iload_n 2, 1) := by decide +kernel
theorem dX8_poorest_5 : decode cX8_poorest 5 = .ok (.aload_n 0, 1) := by decide +kernel
theorem dX8_poorest_6 : decode cX8_poorest 6 = .ok (.getfield 26, 3) := by decide +kernel
theorem dX8_poorest_9 : decode cX8_poorest 9 = .ok (.getfield 136, 3) := by decide +kernel
theorem dX8_poorest_12 : decode cX8_poorest 12 = .ok (.if_icmp .ge 48, 3) := by decide +kernel
theorem dX8_poorest_15 : decode cX8_poorest 15 = .ok (.aload_n 0, 1) := by decide +kernel
theorem dX8_poorest_16 : decode cX8_poorest 16 = .ok (.getfield 80, 3) := by decide +kernel
theorem dX8_poorest_19 : decode cX8_poorest 19 = .ok (.iload_n 2, 1) := by decide +kernel
theorem dX8_poorest_20 : decode cX8_poorest 20 = .ok (.iaload, 1) := by decide +kernel
theorem dX8_poorest_21 : decode cX8_poorest 21 = .ok (.aload_n 0, 1) := by decide +kernel
theorem dX8_poorest_22 : decode cX8_poorest 22 = .ok (.getfield 33, 3) := by decide +kernel
theorem dX8_poorest_25 : decode cX8_poorest 25 = .ok (.getfield 159, 3) := by decide +kernel
theorem dX8_poorest_28 : decode cX8_poorest 28 = .ok (.iload_n 2, 1) := by decide +kernel
theorem dX8_poorest_29 : decode cX8_poorest 29 = .ok (.iaload, 1) := by decide +kernel
theorem dX8_poorest_30 : decode cX8_poorest 30 = .ok (.if_icmp .ge 24, 3) := by decide +kernel
theorem dX8_poorest_33 : decode cX8_poorest 33 = .ok (.iload_n 1, 1) := by decide +kernel
theorem dX8_poorest_34 : decode cX8_poorest 34 = .ok (.ifCond .lt 18, 3) := by decide +kernel
theorem dX8_poorest_37 : decode cX8_poorest 37 = .ok (.aload_n 0, 1) := by decide +kernel
theorem dX8_poorest_38 : decode cX8_poorest 38 = .ok (.getfield 80, 3) := by decide +kernel
theorem dX8_poorest_41 : decode cX8_poorest 41 = .ok (.iload_n 2, 1) := by decide +kernel
theorem dX8_poorest_42 : decode cX8_poorest 42 = .ok (.iaload, 1) := by decide +kernel
theorem dX8_poorest_43 : decode cX8_poorest 43 = .ok (.aload_n 0, 1) := by decide +kernel
theorem dX8_poorest_44 : decode cX8_poorest 44 = .ok (.getfield 80, 3) := by decide +kernel
theorem dX8_poorest_47 : decode cX8_poorest 47 = .ok (.iload_n 1, 1) := by decide +kernel
theorem dX8_poorest_48 : decode cX8_poorest 48 = .ok (.iaload, 1) := by decide +kernel
theorem dX8_poorest_49 : decode cX8_poorest 49 = .ok (.if_icmp .ge 5, 3) := by decide +kernel
theorem dX8_poorest_52 : decode cX8_poorest 52 = .ok (.iload_n 2, 1) := by decide +kernel
theorem dX8_poorest_53 : decode cX8_poorest 53 = .ok (.istore_n 1, 1) := by decide +kernel
theorem dX8_poorest_54 : decode cX8_poorest 54 = .ok (.iinc 2 1, 3) := by decide +kernel
theorem dX8_poorest_57 : decode cX8_poorest 57 = .ok (.goto (-53), 3) := by decide +kernel
theorem dX8_poorest_60 : decode cX8_poorest 60 = .ok (.iload_n 1, 1) := by decide +kernel
theorem dX8_poorest_61 : decode cX8_poorest 61 = .ok (.ireturn, 1) := by decide +kernel
theorem dX8_envy_0 : decode cX8_envy 0 = .ok (.bipush (-2), 2) := by decide +kernel
theorem dX8_envy_2 : decode cX8_envy 2 = .ok (.istore_n 1, 1) := by decide +kernel
theorem dX8_envy_3 : decode cX8_envy 3 = .ok (.iconst 0, 1) := by decide +kernel
theorem dX8_envy_4 : decode cX8_envy 4 = .ok (.istore_n 2, 1) := by decide +kernel
theorem dX8_envy_5 : decode cX8_envy 5 = .ok (.iload_n 2, 1) := by decide +kernel
theorem dX8_envy_6 : decode cX8_envy 6 = .ok (.aload_n 0, 1) := by decide +kernel
theorem dX8_envy_7 : decode cX8_envy 7 = .ok (.getfield 26, 3) := by decide +kernel
theorem dX8_envy_10 : decode cX8_envy 10 = .ok (.getfield 136, 3) := by decide +kernel
theorem dX8_envy_13 : decode cX8_envy 13 = .ok (.if_icmp .ge 74, 3) := by decide +kernel
theorem dX8_envy_16 : decode cX8_envy 16 = .ok (.iload_n 2, 1) := by decide +kernel
theorem dX8_envy_17 : decode cX8_envy 17 = .ok (.iconst 1, 1) := by decide +kernel
theorem dX8_envy_18 : decode cX8_envy 18 = .ok (.iadd, 1) := by decide +kernel
theorem dX8_envy_19 : decode cX8_envy 19 = .ok (.istore_n 3, 1) := by decide +kernel
theorem dX8_envy_20 : decode cX8_envy 20 = .ok (.iload_n 3, 1) := by decide +kernel
theorem dX8_envy_21 : decode cX8_envy 21 = .ok (.aload_n 0, 1) := by decide +kernel
theorem dX8_envy_22 : decode cX8_envy 22 = .ok (.getfield 26, 3) := by decide +kernel
theorem dX8_envy_25 : decode cX8_envy 25 = .ok (.getfield 136, 3) := by decide +kernel
theorem dX8_envy_28 : decode cX8_envy 28 = .ok (.if_icmp .ge 53, 3) := by decide +kernel
theorem dX8_envy_31 : decode cX8_envy 31 = .ok (.aload_n 0, 1) := by decide +kernel
theorem dX8_envy_32 : decode cX8_envy 32 = .ok (.getfield 33, 3) := by decide +kernel
theorem dX8_envy_35 : decode cX8_envy 35 = .ok (.getfield 159, 3) := by decide +kernel
theorem dX8_envy_38 : decode cX8_envy 38 = .ok (.iload_n 2, 1) := by decide +kernel
theorem dX8_envy_39 : decode cX8_envy 39 = .ok (.iaload, 1) := by decide +kernel
theorem dX8_envy_40 : decode cX8_envy 40 = .ok (.aload_n 0, 1) := by decide +kernel
theorem dX8_envy_41 : decode cX8_envy 41 = .ok (.getfield 33, 3) := by decide +kernel
theorem dX8_envy_44 : decode cX8_envy 44 = .ok (.getfield 159, 3) := by decide +kernel
theorem dX8_envy_47 : decode cX8_envy 47 = .ok (.iload_n 3, 1) := by decide +kernel
theorem dX8_envy_48 : decode cX8_envy 48 = .ok (.iaload, 1) := by decide +kernel
theorem dX8_envy_49 : decode cX8_envy 49 = .ok (.isub, 1) := by decide +kernel
theorem dX8_envy_50 : decode cX8_envy 50 = .ok (.invokestatic 348, 3) := by decide +kernel
theorem dX8_envy_53 : decode cX8_envy 53 = .ok (.istore 4, 2) := by decide +kernel
theorem dX8_envy_55 : decode cX8_envy 55 = .ok (.iload 4, 2) := by decide +kernel
theorem dX8_envy_57 : decode cX8_envy 57 = .ok (.iload_n 1, 1) := by decide +kernel
theorem dX8_envy_58 : decode cX8_envy 58 = .ok (.if_icmp .le 17, 3) := by decide +kernel
theorem dX8_envy_61 : decode cX8_envy 61 = .ok (.iload 4, 2) := by decide +kernel
theorem dX8_envy_63 : decode cX8_envy 63 = .ok (.istore_n 1, 1) := by decide +kernel
theorem dX8_envy_64 : decode cX8_envy 64 = .ok (.aload_n 0, 1) := by decide +kernel
theorem dX8_envy_65 : decode cX8_envy 65 = .ok (.getfield 19, 3) := by decide +kernel
theorem dX8_envy_68 : decode cX8_envy 68 = .ok (.iload_n 2, 1) := by decide +kernel
theorem dX8_envy_69 : decode cX8_envy 69 = .ok (.i2l, 1) := by decide +kernel
theorem dX8_envy_70 : decode cX8_envy 70 = .ok (.iload_n 3, 1) := by decide +kernel
theorem dX8_envy_71 : decode cX8_envy 71 = .ok (.i2l, 1) := by decide +kernel
theorem dX8_envy_72 : decode cX8_envy 72 = .ok (.invokevirtual 229, 3) := by decide +kernel
theorem dX8_envy_75 : decode cX8_envy 75 = .ok (.iinc 3 1, 3) := by decide +kernel
theorem dX8_envy_78 : decode cX8_envy 78 = .ok (.goto (-58), 3) := by decide +kernel
theorem dX8_envy_81 : decode cX8_envy 81 = .ok (.iinc 2 1, 3) := by decide +kernel
theorem dX8_envy_84 : decode cX8_envy 84 = .ok (.goto (-79), 3) := by decide +kernel
theorem dX8_envy_87 : decode cX8_envy 87 = .ok (.iload_n 1, 1) := by decide +kernel
theorem dX8_envy_88 : decode cX8_envy 88 = .ok (.ireturn, 1) := by decide +kernel
theorem dX8_bold_0 : decode cX8_bold 0 = .ok (.iload_n 1, 1) := by decide +kernel
theorem dX8_bold_1 : decode cX8_bold 1 = .ok (.ifCond .lt 46, 3) := by decide +kernel
theorem dX8_bold_4 : decode cX8_bold 4 = .ok (.iload_n 1, 1) := by decide +kernel
theorem dX8_bold_5 : decode cX8_bold 5 = .ok (.bipush 20, 2) := by decide +kernel
theorem dX8_bold_7 : decode cX8_bold 7 = .ok (.if_icmp .gt 40, 3) := by decide +kernel
theorem dX8_bold_10 : decode cX8_bold 10 = .ok (.iload_n 2, 1) := by decide +kernel
theorem dX8_bold_11 : decode cX8_bold 11 = .ok (.iconst 1, 1) := by decide +kernel
theorem dX8_bold_12 : decode cX8_bold 12 = .ok (.if_icmp .lt 35, 3) := by decide +kernel
theorem dX8_bold_15 : decode cX8_bold 15 = .ok (.iload_n 2, 1) := by decide +kernel
theorem dX8_bold_16 : decode cX8_bold 16 = .ok (.bipush 20, 2) := by decide +kernel
theorem dX8_bold_18 : decode cX8_bold 18 = .ok (.if_icmp .gt 29, 3) := by decide +kernel
theorem dX8_bold_21 : decode cX8_bold 21 = .ok (.iload_n 3, 1) := by decide +kernel
theorem dX8_bold_22 : decode cX8_bold 22 = .ok (.ifCond .lt 25, 3) := by decide +kernel
theorem dX8_bold_25 : decode cX8_bold 25 = .ok (.iload_n 3, 1) := by decide +kernel
theorem dX8_bold_26 : decode cX8_bold 26 = .ok (.bipush 8, 2) := by decide +kernel
theorem dX8_bold_28 : decode cX8_bold 28 = .ok (.if_icmp .gt 19, 3) := by decide +kernel
theorem dX8_bold_31 : decode cX8_bold 31 = .ok (.iload 4, 2) := by decide +kernel
theorem dX8_bold_33 : decode cX8_bold 33 = .ok (.ifCond .lt 14, 3) := by decide +kernel
theorem dX8_bold_36 : decode cX8_bold 36 = .ok (.iload 4, 2) := by decide +kernel
theorem dX8_bold_38 : decode cX8_bold 38 = .ok (.bipush 10, 2) := by decide +kernel
theorem dX8_bold_40 : decode cX8_bold 40 = .ok (.if_icmp .gt 7, 3) := by decide +kernel
theorem dX8_bold_43 : decode cX8_bold 43 = .ok (.iconst 1, 1) := by decide +kernel
theorem dX8_bold_44 : decode cX8_bold 44 = .ok (.goto 4, 3) := by decide +kernel
theorem dX8_bold_47 : decode cX8_bold 47 = .ok (.iconst 0, 1) := by decide +kernel
theorem dX8_bold_48 : decode cX8_bold 48 = .ok (.istore 5, 2) := by decide +kernel
theorem dX8_bold_50 : decode cX8_bold 50 = .ok (.iload 5, 2) := by decide +kernel
theorem dX8_bold_52 : decode cX8_bold 52 = .ok (.ifCond .ne 5, 3) := by decide +kernel
theorem dX8_bold_55 : decode cX8_bold 55 = .ok (.iconst (-1), 1) := by decide +kernel
theorem dX8_bold_56 : decode cX8_bold 56 = .ok (.ireturn, 1) := by decide +kernel
theorem dX8_bold_57 : decode cX8_bold 57 = .ok (.iconst 0, 1) := by decide +kernel
theorem dX8_bold_58 : decode cX8_bold 58 = .ok (.istore 6, 2) := by decide +kernel
theorem dX8_bold_60 : decode cX8_bold 60 = .ok (.iload 6, 2) := by decide +kernel
theorem dX8_bold_62 : decode cX8_bold 62 = .ok (.bipush 20, 2) := by decide +kernel
theorem dX8_bold_64 : decode cX8_bold 64 = .ok (.if_icmp .gt 27, 3) := by decide +kernel
theorem dX8_bold_67 : decode cX8_bold 67 = .ok (.aload_n 0, 1) := by decide +kernel
theorem dX8_bold_68 : decode cX8_bold 68 = .ok (.getfield 87, 3) := by decide +kernel
theorem dX8_bold_71 : decode cX8_bold 71 = .ok (.iload 6, 2) := by decide +kernel
theorem dX8_bold_73 : decode cX8_bold 73 = .ok (.iload 6, 2) := by decide +kernel
theorem dX8_bold_75 : decode cX8_bold 75 = .ok (.iload_n 2, 1) := by decide +kernel
theorem dX8_bold_76 : decode cX8_bold 76 = .ok (.if_icmp .lt 7, 3) := by decide +kernel
theorem dX8_bold_79 : decode cX8_bold 79 = .ok (.lconst 1, 1) := by decide +kernel
theorem dX8_bold_80 : decode cX8_bold 80 = .ok (.goto 4, 3) := by decide +kernel
theorem dX8_bold_83 : decode cX8_bold 83 = .ok (.lconst 0, 1) := by decide +kernel
theorem dX8_bold_84 : decode cX8_bold 84 = .ok (.lastore, 1) := by decide +kernel
theorem dX8_bold_85 : decode cX8_bold 85 = .ok (.iinc 6 1, 3) := by decide +kernel
theorem dX8_bold_88 : decode cX8_bold 88 = .ok (.goto (-28), 3) := by decide +kernel
theorem dX8_bold_91 : decode cX8_bold 91 = .ok (.iconst 1, 1) := by decide +kernel
theorem dX8_bold_92 : decode cX8_bold 92 = .ok (.istore 6, 2) := by decide +kernel
theorem dX8_bold_94 : decode cX8_bold 94 = .ok (.iload 6, 2) := by decide +kernel
theorem dX8_bold_96 : decode cX8_bold 96 = .ok (.iload_n 3, 1) := by decide +kernel
theorem dX8_bold_97 : decode cX8_bold 97 = .ok (.if_icmp .ge 63, 3) := by decide +kernel
theorem dX8_bold_100 : decode cX8_bold 100 = .ok (.iconst 0, 1) := by decide +kernel
theorem dX8_bold_101 : decode cX8_bold 101 = .ok (.istore 7, 2) := by decide +kernel
theorem dX8_bold_103 : decode cX8_bold 103 = .ok (.iload 7, 2) := by decide +kernel
theorem dX8_bold_105 : decode cX8_bold 105 = .ok (.bipush 20, 2) := by decide +kernel
theorem dX8_bold_107 : decode cX8_bold 107 = .ok (.if_icmp .gt 32, 3) := by decide +kernel
theorem dX8_bold_110 : decode cX8_bold 110 = .ok (.aload_n 0, 1) := by decide +kernel
theorem dX8_bold_111 : decode cX8_bold 111 = .ok (.getfield 90, 3) := by decide +kernel
theorem dX8_bold_114 : decode cX8_bold 114 = .ok (.iload 7, 2) := by decide +kernel
theorem dX8_bold_116 : decode cX8_bold 116 = .ok (.aload_n 0, 1) := by decide +kernel
theorem dX8_bold_117 : decode cX8_bold 117 = .ok (.aload_n 0, 1) := by decide +kernel
theorem dX8_bold_118 : decode cX8_bold 118 = .ok (.iload 7, 2) := by decide +kernel
theorem dX8_bold_120 : decode cX8_bold 120 = .ok (.iload 4, 2) := by decide +kernel
theorem dX8_bold_122 : decode cX8_bold 122 = .ok (.invokevirtual 354, 3) := by decide +kernel
theorem dX8_bold_125 : decode cX8_bold 125 = .ok (.iload 7, 2) := by decide +kernel
theorem dX8_bold_127 : decode cX8_bold 127 = .ok (.iload 4, 2) := by decide +kernel
theorem dX8_bold_129 : decode cX8_bold 129 = .ok (.invokevirtual 357, 3) := by decide +kernel
theorem dX8_bold_132 : decode cX8_bold 132 = .ok (.lastore, 1) := by decide +kernel
theorem dX8_bold_133 : decode cX8_bold 133 = .ok (.iinc 7 1, 3) := by decide +kernel
theorem dX8_bold_136 : decode cX8_bold 136 = .ok (.goto (-33), 3) := by decide +kernel
theorem dX8_bold_139 : decode cX8_bold 139 = .ok (.aload_n 0, 1) := by decide +kernel
theorem dX8_bold_140 : decode cX8_bold 140 = .ok (.getfield 90, 3) := by decide +kernel
theorem dX8_bold_143 : decode cX8_bold 143 = .ok (.iconst 0, 1) := by decide +kernel
theorem dX8_bold_144 : decode cX8_bold 144 = .ok (.aload_n 0, 1) := by decide +kernel
theorem dX8_bold_145 : decode cX8_bold 145 = .ok (.getfield 87, 3) := by decide +kernel
theorem dX8_bold_148 : decode cX8_bold 148 = .ok (.iconst 0, 1) := by decide +kernel
theorem dX8_bold_149 : decode cX8_bold 149 = .ok (.bipush 21, 2) := by decide +kernel
theorem dX8_bold_151 : decode cX8_bold 151 = .ok (.invokestatic 361, 3) := by decide +kernel
theorem dX8_bold_154 : decode cX8_bold 154 = .ok (.iinc 6 1, 3) := by decide +kernel
theorem dX8_bold_157 : decode cX8_bold 157 = .ok (.goto (-63), 3) := by decide +kernel
theorem dX8_bold_160 : decode cX8_bold 160 = .ok (.iload_n 3, 1) := by decide +kernel
theorem dX8_bold_161 : decode cX8_bold 161 = .ok (.ifCond .ne 7, 3) := by decide +kernel
theorem dX8_bold_164 : decode cX8_bold 164 = .ok (.iconst (-1), 1) := by decide +kernel
theorem dX8_bold_165 : decode cX8_bold 165 = .ok (.goto 10, 3) := by decide +kernel
theorem dX8_bold_168 : decode cX8_bold 168 = .ok (.aload_n 0, 1) := by decide +kernel
theorem dX8_bold_169 : decode cX8_bold 169 = .ok (.iload_n 1, 1) := by decide +kernel
theorem dX8_bold_170 : decode cX8_bold 170 = .ok (.iload 4, 2) := by decide +kernel
theorem dX8_bold_172 : decode cX8_bold 172 = .ok (.invokevirtual 354, 3) := by decide +kernel
theorem dX8_bold_175 : decode cX8_bold 175 = .ok (.istore 6, 2) := by decide +kernel
theorem dX8_bold_177 : decode cX8_bold 177 = .ok (.iload_n 3, 1) := by decide +kernel
theorem dX8_bold_178 : decode cX8_bold 178 = .ok (.ifCond .ne 12, 3) := by decide +kernel
theorem dX8_bold_181 : decode cX8_bold 181 = .ok (.aload_n 0, 1) := by decide +kernel
theorem dX8_bold_182 : decode cX8_bold 182 = .ok (.getfield 87, 3) := by decide +kernel
theorem dX8_bold_185 : decode cX8_bold 185 = .ok (.iload_n 1, 1) := by decide +kernel
theorem dX8_bold_186 : decode cX8_bold 186 = .ok (.laload, 1) := by decide +kernel
theorem dX8_bold_187 : decode cX8_bold 187 = .ok (.goto 12, 3) := by decide +kernel
theorem dX8_bold_190 : decode cX8_bold 190 = .ok (.aload_n 0, 1) := by decide +kernel
theorem dX8_bold_191 : decode cX8_bold 191 = .ok (.iload 6, 2) := by decide +kernel
theorem dX8_bold_193 : decode cX8_bold 193 = .ok (.iload_n 1, 1) := by decide +kernel
theorem dX8_bold_194 : decode cX8_bold 194 = .ok (.iload 4, 2) := by decide +kernel
theorem dX8_bold_196 : decode cX8_bold 196 = .ok (.invokevirtual 357, 3) := by decide +kernel
theorem dX8_bold_199 : decode cX8_bold 199 = .ok (.lstore 7, 2) := by decide +kernel
theorem dX8_bold_201 : decode cX8_bold 201 = .ok (.aload_n 0, 1) := by decide +kernel
theorem dX8_bold_202 : decode cX8_bold 202 = .ok (.getfield 19, 3) := by decide +kernel
theorem dX8_bold_205 : decode cX8_bold 205 = .ok (.invokevirtual 328, 3) := by decide +kernel
theorem dX8_bold_208 : decode cX8_bold 208 = .ok (.aload_n 0, 1) := by decide +kernel
theorem dX8_bold_209 : decode cX8_bold 209 = .ok (.lload 7, 2) := by decide +kernel
theorem dX8_bold_211 : decode cX8_bold 211 = .ok (.iload_n 3, 1) := by decide +kernel
theorem dX8_bold_212 : decode cX8_bold 212 = .ok (.invokestatic 367, 3) := by decide +kernel
theorem dX8_bold_215 : decode cX8_bold 215 = .ok (.invokevirtual 371, 3) := by decide +kernel
theorem dX8_bold_218 : decode cX8_bold 218 = .ok (.aload_n 0, 1) := by decide +kernel
theorem dX8_bold_219 : decode cX8_bold 219 = .ok (.getfield 19, 3) := by decide +kernel
theorem dX8_bold_222 : decode cX8_bold 222 = .ok (.iload 6, 2) := by decide +kernel
theorem dX8_bold_224 : decode cX8_bold 224 = .ok (.i2l, 1) := by decide +kernel
theorem dX8_bold_225 : decode cX8_bold 225 = .ok (.invokevirtual 334, 3) := by decide +kernel
theorem dX8_bold_228 : decode cX8_bold 228 = .ok (.iconst 0, 1) := by decide +kernel
theorem dX8_bold_229 : decode cX8_bold 229 = .ok (.ireturn, 1) := by decide +kernel
theorem dX8_bestStake_0 : decode cX8_bestStake 0 = .ok (.iconst 0, 1) := by decide +kernel
theorem dX8_bestStake_1 : decode cX8_bestStake 1 = .ok (.istore_n 3, 1) := by decide +kernel
theorem dX8_bestStake_2 : decode cX8_bestStake 2 = .ok (.iconst 1, 1) := by decide +kernel
theorem dX8_bestStake_3 : decode cX8_bestStake 3 = .ok (.istore 4, 2) := by decide +kernel
theorem dX8_bestStake_5 : decode cX8_bestStake 5 = .ok (.iload 4, 2) := by decide +kernel
theorem dX8_bestStake_7 : decode cX8_bestStake 7 = .ok (.iload_n 1, 1) := by decide +kernel
theorem dX8_bestStake_8 : decode cX8_bestStake 8 = .ok (.if_icmp .gt 31, 3) := by decide +kernel
theorem dX8_bestStake_11 : decode cX8_bestStake 11 = .ok (.aload_n 0, 1) := by decide +kernel
theorem dX8_bestStake_12 : decode cX8_bestStake 12 = .ok (.iload 4, 2) := by decide +kernel
theorem dX8_bestStake_14 : decode cX8_bestStake 14 = .ok (.iload_n 1, 1) := by decide +kernel
theorem dX8_bestStake_15 : decode cX8_bestStake 15 = .ok (.iload_n 2, 1) := by decide +kernel
theorem dX8_bestStake_16 : decode cX8_bestStake 16 = .ok (.invokevirtual 357, 3) := by decide +kernel
theorem dX8_bestStake_19 : decode cX8_bestStake 19 = .ok (.aload_n 0, 1) := by decide +kernel
theorem dX8_bestStake_20 : decode cX8_bestStake 20 = .ok (.iload_n 3, 1) := by decide +kernel
theorem dX8_bestStake_21 : decode cX8_bestStake 21 = .ok (.iload_n 1, 1) := by decide +kernel
theorem dX8_bestStake_22 : decode cX8_bestStake 22 = .ok (.iload_n 2, 1) := by decide +kernel
theorem dX8_bestStake_23 : decode cX8_bestStake 23 = .ok (.invokevirtual 357, 3) := by decide +kernel
theorem dX8_bestStake_26 : decode cX8_bestStake 26 = .ok (.lcmp, 1) := by decide +kernel
theorem dX8_bestStake_27 : decode cX8_bestStake 27 = .ok (.ifCond .le 6, 3) := by decide +kernel
theorem dX8_bestStake_30 : decode cX8_bestStake 30 = .ok (.iload 4, 2) := by decide +kernel
theorem dX8_bestStake_32 : decode cX8_bestStake 32 = .ok (.istore_n 3, 1) := by decide +kernel
theorem dX8_bestStake_33 : decode cX8_bestStake 33 = .ok (.iinc 4 1, 3) := by decide +kernel
theorem dX8_bestStake_36 : decode cX8_bestStake 36 = .ok (.goto (-31), 3) := by decide +kernel
theorem dX8_bestStake_39 : decode cX8_bestStake 39 = .ok (.iload_n 3, 1) := by decide +kernel
theorem dX8_bestStake_40 : decode cX8_bestStake 40 = .ok (.ireturn, 1) := by decide +kernel
theorem dX8_chanceBy_0 : decode cX8_chanceBy 0 = .ok (.iload_n 2, 1) := by decide +kernel
theorem dX8_chanceBy_1 : decode cX8_chanceBy 1 = .ok (.iload_n 1, 1) := by decide +kernel
theorem dX8_chanceBy_2 : decode cX8_chanceBy 2 = .ok (.iadd, 1) := by decide +kernel
theorem dX8_chanceBy_3 : decode cX8_chanceBy 3 = .ok (.iconst 0, 1) := by decide +kernel
theorem dX8_chanceBy_4 : decode cX8_chanceBy 4 = .ok (.bipush 20, 2) := by decide +kernel
theorem dX8_chanceBy_6 : decode cX8_chanceBy 6 = .ok (.invokestatic 202, 3) := by decide +kernel
theorem dX8_chanceBy_9 : decode cX8_chanceBy 9 = .ok (.istore 4, 2) := by decide +kernel
theorem dX8_chanceBy_11 : decode cX8_chanceBy 11 = .ok (.iload_n 2, 1) := by decide +kernel
theorem dX8_chanceBy_12 : decode cX8_chanceBy 12 = .ok (.iload_n 1, 1) := by decide +kernel
theorem dX8_chanceBy_13 : decode cX8_chanceBy 13 = .ok (.isub, 1) := by decide +kernel
theorem dX8_chanceBy_14 : decode cX8_chanceBy 14 = .ok (.iconst 0, 1) := by decide +kernel
theorem dX8_chanceBy_15 : decode cX8_chanceBy 15 = .ok (.bipush 20, 2) := by decide +kernel
theorem dX8_chanceBy_17 : decode cX8_chanceBy 17 = .ok (.invokestatic 202, 3) := by decide +kernel
theorem dX8_chanceBy_20 : decode cX8_chanceBy 20 = .ok (.istore 5, 2) := by decide +kernel
theorem dX8_chanceBy_22 : decode cX8_chanceBy 22 = .ok (.aload_n 0, 1) := by decide +kernel
theorem dX8_chanceBy_23 : decode cX8_chanceBy 23 = .ok (.getfield 87, 3) := by decide +kernel
theorem dX8_chanceBy_26 : decode cX8_chanceBy 26 = .ok (.iload 4, 2) := by decide +kernel
theorem dX8_chanceBy_28 : decode cX8_chanceBy 28 = .ok (.laload, 1) := by decide +kernel
theorem dX8_chanceBy_29 : decode cX8_chanceBy 29 = .ok (.iload_n 3, 1) := by decide +kernel
theorem dX8_chanceBy_30 : decode cX8_chanceBy 30 = .ok (.i2l, 1) := by decide +kernel
theorem dX8_chanceBy_31 : decode cX8_chanceBy 31 = .ok (.lmul, 1) := by decide +kernel
theorem dX8_chanceBy_32 : decode cX8_chanceBy 32 = .ok (.aload_n 0, 1) := by decide +kernel
theorem dX8_chanceBy_33 : decode cX8_chanceBy 33 = .ok (.getfield 87, 3) := by decide +kernel
theorem dX8_chanceBy_36 : decode cX8_chanceBy 36 = .ok (.iload 5, 2) := by decide +kernel
theorem dX8_chanceBy_38 : decode cX8_chanceBy 38 = .ok (.laload, 1) := by decide +kernel
theorem dX8_chanceBy_39 : decode cX8_chanceBy 39 = .ok (.bipush 10, 2) := by decide +kernel
theorem dX8_chanceBy_41 : decode cX8_chanceBy 41 = .ok (.iload_n 3, 1) := by decide +kernel
theorem dX8_chanceBy_42 : decode cX8_chanceBy 42 = .ok (.isub, 1) := by decide +kernel
theorem dX8_chanceBy_43 : decode cX8_chanceBy 43 = .ok (.i2l, 1) := by decide +kernel
theorem dX8_chanceBy_44 : decode cX8_chanceBy 44 = .ok (.lmul, 1) := by decide +kernel
theorem dX8_chanceBy_45 : decode cX8_chanceBy 45 = .ok (.ladd, 1) := by decide +kernel
theorem dX8_chanceBy_46 : decode cX8_chanceBy 46 = .ok (.lreturn, 1) := by decide +kernel
theorem dX8_tenToThe_0 : decode cX8_tenToThe 0 = .ok (.lconst 1, 1) := by decide +kernel
theorem dX8_tenToThe_1 : decode cX8_tenToThe 1 = .ok (.lstore_n 1, 1) := by decide +kernel
theorem dX8_tenToThe_2 : decode cX8_tenToThe 2 = .ok (.iconst 0, 1) := by decide +kernel
theorem dX8_tenToThe_3 : decode cX8_tenToThe 3 = .ok (.istore_n 3, 1) := by decide +kernel
theorem dX8_tenToThe_4 : decode cX8_tenToThe 4 = .ok (.iload_n 3, 1) := by decide +kernel
theorem dX8_tenToThe_5 : decode cX8_tenToThe 5 = .ok (.iload_n 0, 1) := by decide +kernel
theorem dX8_tenToThe_6 : decode cX8_tenToThe 6 = .ok (.if_icmp .ge 15, 3) := by decide +kernel
theorem dX8_tenToThe_9 : decode cX8_tenToThe 9 = .ok (.lload_n 1, 1) := by decide +kernel
theorem dX8_tenToThe_10 : decode cX8_tenToThe 10 = .ok (.ldc2_w 374, 3) := by decide +kernel
theorem dX8_tenToThe_13 : decode cX8_tenToThe 13 = .ok (.lmul, 1) := by decide +kernel
theorem dX8_tenToThe_14 : decode cX8_tenToThe 14 = .ok (.lstore_n 1, 1) := by decide +kernel
theorem dX8_tenToThe_15 : decode cX8_tenToThe 15 = .ok (.iinc 3 1, 3) := by decide +kernel
theorem dX8_tenToThe_18 : decode cX8_tenToThe 18 = .ok (.goto (-14), 3) := by decide +kernel
theorem dX8_tenToThe_21 : decode cX8_tenToThe 21 = .ok (.lload_n 1, 1) := by decide +kernel
theorem dX8_tenToThe_22 : decode cX8_tenToThe 22 = .ok (.lreturn, 1) := by decide +kernel
theorem dX8_tellFraction_0 : decode cX8_tellFraction 0 = .ok (.lload_n 1, 1) := by decide +kernel
theorem dX8_tellFraction_1 : decode cX8_tellFraction 1 = .ok (.lstore 5, 2) := by decide +kernel
theorem dX8_tellFraction_3 : decode cX8_tellFraction 3 = .ok (.lload_n 3, 1) := by decide +kernel
theorem dX8_tellFraction_4 : decode cX8_tellFraction 4 = .ok (.lstore 7, 2) := by decide +kernel
theorem dX8_tellFraction_6 : decode cX8_tellFraction 6 = .ok (.iconst 0, 1) := by decide +kernel
theorem dX8_tellFraction_7 : decode cX8_tellFraction 7 = .ok (.istore 9, 2) := by decide +kernel
theorem dX8_tellFraction_9 : decode cX8_tellFraction 9 = .ok (.iload 9, 2) := by decide +kernel
theorem dX8_tellFraction_11 : decode cX8_tellFraction 11 = .ok (.sipush 128, 3) := by decide +kernel
theorem dX8_tellFraction_14 : decode cX8_tellFraction 14 = .ok (.if_icmp .ge 31, 3) := by decide +kernel
theorem dX8_tellFraction_17 : decode cX8_tellFraction 17 = .ok (.lload 7, 2) := by decide +kernel
theorem dX8_tellFraction_19 : decode cX8_tellFraction 19 = .ok (.lconst 0, 1) := by decide +kernel
theorem dX8_tellFraction_20 : decode cX8_tellFraction 20 = .ok (.lcmp, 1) := by decide +kernel
theorem dX8_tellFraction_21 : decode cX8_tellFraction 21 = .ok (.ifCond .eq 24, 3) := by decide +kernel
theorem dX8_tellFraction_24 : decode cX8_tellFraction 24 = .ok (.lload 5, 2) := by decide +kernel
theorem dX8_tellFraction_26 : decode cX8_tellFraction 26 = .ok (.lload 7, 2) := by decide +kernel
theorem dX8_tellFraction_28 : decode cX8_tellFraction 28 = .ok (.lrem, 1) := by decide +kernel
theorem dX8_tellFraction_29 : decode cX8_tellFraction 29 = .ok (.lstore 10, 2) := by decide +kernel
theorem dX8_tellFraction_31 : decode cX8_tellFraction 31 = .ok (.lload 7, 2) := by decide +kernel
theorem dX8_tellFraction_33 : decode cX8_tellFraction 33 = .ok (.lstore 5, 2) := by decide +kernel
theorem dX8_tellFraction_35 : decode cX8_tellFraction 35 = .ok (.lload 10, 2) := by decide +kernel
theorem dX8_tellFraction_37 : decode cX8_tellFraction 37 = .ok (.lstore 7, 2) := by decide +kernel
theorem dX8_tellFraction_39 : decode cX8_tellFraction 39 = .ok (.iinc 9 1, 3) := by decide +kernel
theorem dX8_tellFraction_42 : decode cX8_tellFraction 42 = .ok (.goto (-33), 3) := by decide +kernel
theorem dX8_tellFraction_45 : decode cX8_tellFraction 45 = .ok (.lload 5, 2) := by decide +kernel
theorem dX8_tellFraction_47 : decode cX8_tellFraction 47 = .ok (.lconst 0, 1) := by decide +kernel
theorem dX8_tellFraction_48 : decode cX8_tellFraction 48 = .ok (.lcmp, 1) := by decide +kernel
theorem dX8_tellFraction_49 : decode cX8_tellFraction 49 = .ok (.ifCond .le 8, 3) := by decide +kernel
theorem dX8_tellFraction_52 : decode cX8_tellFraction 52 = .ok (.lload 5, 2) := by decide +kernel
theorem dX8_tellFraction_54 : decode cX8_tellFraction 54 = .ok (.goto 4, 3) := by decide +kernel
theorem dX8_tellFraction_57 : decode cX8_tellFraction 57 = .ok (.lconst 1, 1) := by decide +kernel
theorem dX8_tellFraction_58 : decode cX8_tellFraction 58 = .ok (.lstore 9, 2) := by decide +kernel
theorem dX8_tellFraction_60 : decode cX8_tellFraction 60 = .ok (.aload_n 0, 1) := by decide +kernel
theorem dX8_tellFraction_61 : decode cX8_tellFraction 61 = .ok (.getfield 19, 3) := by decide +kernel
theorem dX8_tellFraction_64 : decode cX8_tellFraction 64 = .ok (.lload_n 1, 1) := by decide +kernel
theorem dX8_tellFraction_65 : decode cX8_tellFraction 65 = .ok (.lload 9, 2) := by decide +kernel
theorem dX8_tellFraction_67 : decode cX8_tellFraction 67 = .ok (.ldiv, 1) := by decide +kernel
theorem dX8_tellFraction_68 : decode cX8_tellFraction 68 = .ok (.invokevirtual 334, 3) := by decide +kernel
theorem dX8_tellFraction_71 : decode cX8_tellFraction 71 = .ok (.aload_n 0, 1) := by decide +kernel
theorem dX8_tellFraction_72 : decode cX8_tellFraction 72 = .ok (.getfield 19, 3) := by decide +kernel
theorem dX8_tellFraction_75 : decode cX8_tellFraction 75 = .ok (.lload_n 3, 1) := by decide +kernel
theorem dX8_tellFraction_76 : decode cX8_tellFraction 76 = .ok (.lload 9, 2) := by decide +kernel
theorem dX8_tellFraction_78 : decode cX8_tellFraction 78 = .ok (.ldiv, 1) := by decide +kernel
theorem dX8_tellFraction_79 : decode cX8_tellFraction 79 = .ok (.invokevirtual 334, 3) := by decide +kernel
theorem dX8_tellFraction_82 : decode cX8_tellFraction 82 = .ok (.return_, 1) := by decide +kernel
theorem dX8_notes_0 : decode cX8_notes 0 = .ok (.iload_n 1, 1) := by decide +kernel
theorem dX8_notes_1 : decode cX8_notes 1 = .ok (.ifCond .lt 30, 3) := by decide +kernel
theorem dX8_notes_4 : decode cX8_notes 4 = .ok (.iload_n 1, 1) := by decide +kernel
theorem dX8_notes_5 : decode cX8_notes 5 = .ok (.bipush 60, 2) := by decide +kernel
theorem dX8_notes_7 : decode cX8_notes 7 = .ok (.if_icmp .gt 24, 3) := by decide +kernel
theorem dX8_notes_10 : decode cX8_notes 10 = .ok (.iload_n 2, 1) := by decide +kernel
theorem dX8_notes_11 : decode cX8_notes 11 = .ok (.iconst 1, 1) := by decide +kernel
theorem dX8_notes_12 : decode cX8_notes 12 = .ok (.if_icmp .lt 19, 3) := by decide +kernel
theorem dX8_notes_15 : decode cX8_notes 15 = .ok (.iload_n 2, 1) := by decide +kernel
theorem dX8_notes_16 : decode cX8_notes 16 = .ok (.bipush 9, 2) := by decide +kernel
theorem dX8_notes_18 : decode cX8_notes 18 = .ok (.if_icmp .gt 13, 3) := by decide +kernel
theorem dX8_notes_21 : decode cX8_notes 21 = .ok (.iload_n 3, 1) := by decide +kernel
theorem dX8_notes_22 : decode cX8_notes 22 = .ok (.ifCond .lt 9, 3) := by decide +kernel
theorem dX8_notes_25 : decode cX8_notes 25 = .ok (.iload_n 3, 1) := by decide +kernel
theorem dX8_notes_26 : decode cX8_notes 26 = .ok (.bipush 9, 2) := by decide +kernel
theorem dX8_notes_28 : decode cX8_notes 28 = .ok (.if_icmp .le 5, 3) := by decide +kernel
theorem dX8_notes_31 : decode cX8_notes 31 = .ok (.iconst (-1), 1) := by decide +kernel
theorem dX8_notes_32 : decode cX8_notes 32 = .ok (.ireturn, 1) := by decide +kernel
theorem dX8_notes_33 : decode cX8_notes 33 = .ok (.iconst 0, 1) := by decide +kernel
theorem dX8_notes_34 : decode cX8_notes 34 = .ok (.istore 4, 2) := by decide +kernel
theorem dX8_notes_36 : decode cX8_notes 36 = .ok (.iload 4, 2) := by decide +kernel
theorem dX8_notes_38 : decode cX8_notes 38 = .ok (.iload_n 1, 1) := by decide +kernel
theorem dX8_notes_39 : decode cX8_notes 39 = .ok (.if_icmp .ge 26, 3) := by decide +kernel
theorem dX8_notes_42 : decode cX8_notes 42 = .ok (.aload_n 0, 1) := by decide +kernel
theorem dX8_notes_43 : decode cX8_notes 43 = .ok (.getfield 93, 3) := by decide +kernel
theorem dX8_notes_46 : decode cX8_notes 46 = .ok (.iload 4, 2) := by decide +kernel
theorem dX8_notes_48 : decode cX8_notes 48 = .ok (.aload_n 0, 1) := by decide +kernel
theorem dX8_notes_49 : decode cX8_notes 49 = .ok (.iload 4, 2) := by decide +kernel
theorem dX8_notes_51 : decode cX8_notes 51 = .ok (.iload_n 2, 1) := by decide +kernel
theorem dX8_notes_52 : decode cX8_notes 52 = .ok (.invokevirtual 376, 3) := by decide +kernel
theorem dX8_notes_55 : decode cX8_notes 55 = .ok (.invokestatic 379, 3) := by decide +kernel
theorem dX8_notes_58 : decode cX8_notes 58 = .ok (.iastore, 1) := by decide +kernel
theorem dX8_notes_59 : decode cX8_notes 59 = .ok (.iinc 4 1, 3) := by decide +kernel
theorem dX8_notes_62 : decode cX8_notes 62 = .ok (.goto (-26), 3) := by decide +kernel
theorem dX8_notes_65 : decode cX8_notes 65 = .ok (.aload_n 0, 1) := by decide +kernel
theorem dX8_notes_66 : decode cX8_notes 66 = .ok (.iload_n 1, 1) := by decide +kernel
theorem dX8_notes_67 : decode cX8_notes 67 = .ok (.iload_n 2, 1) := by decide +kernel
theorem dX8_notes_68 : decode cX8_notes 68 = .ok (.invokevirtual 376, 3) := by decide +kernel
theorem dX8_notes_71 : decode cX8_notes 71 = .ok (.iconst 1, 1) := by decide +kernel
theorem dX8_notes_72 : decode cX8_notes 72 = .ok (.iload_n 3, 1) := by decide +kernel
theorem dX8_notes_73 : decode cX8_notes 73 = .ok (.ishl, 1) := by decide +kernel
theorem dX8_notes_74 : decode cX8_notes 74 = .ok (.iconst (-1), 1) := by decide +kernel
theorem dX8_notes_75 : decode cX8_notes 75 = .ok (.ixor, 1) := by decide +kernel
theorem dX8_notes_76 : decode cX8_notes 76 = .ok (.iand, 1) := by decide +kernel
theorem dX8_notes_77 : decode cX8_notes 77 = .ok (.istore 4, 2) := by decide +kernel
theorem dX8_notes_79 : decode cX8_notes 79 = .ok (.iconst 1, 1) := by decide +kernel
theorem dX8_notes_80 : decode cX8_notes 80 = .ok (.istore 5, 2) := by decide +kernel
theorem dX8_notes_82 : decode cX8_notes 82 = .ok (.iload 5, 2) := by decide +kernel
theorem dX8_notes_84 : decode cX8_notes 84 = .ok (.iload_n 2, 1) := by decide +kernel
theorem dX8_notes_85 : decode cX8_notes 85 = .ok (.if_icmp .gt 22, 3) := by decide +kernel
theorem dX8_notes_88 : decode cX8_notes 88 = .ok (.iload 4, 2) := by decide +kernel
theorem dX8_notes_90 : decode cX8_notes 90 = .ok (.iload 5, 2) := by decide +kernel
theorem dX8_notes_92 : decode cX8_notes 92 = .ok (.ishr, 1) := by decide +kernel
theorem dX8_notes_93 : decode cX8_notes 93 = .ok (.iconst 1, 1) := by decide +kernel
theorem dX8_notes_94 : decode cX8_notes 94 = .ok (.iand, 1) := by decide +kernel
theorem dX8_notes_95 : decode cX8_notes 95 = .ok (.ifCond .eq 6, 3) := by decide +kernel
theorem dX8_notes_98 : decode cX8_notes 98 = .ok (.iload 5, 2) := by decide +kernel
theorem dX8_notes_100 : decode cX8_notes 100 = .ok (.ireturn, 1) := by decide +kernel
theorem dX8_notes_101 : decode cX8_notes 101 = .ok (.iinc 5 1, 3) := by decide +kernel
theorem dX8_notes_104 : decode cX8_notes 104 = .ok (.goto (-22), 3) := by decide +kernel
theorem dX8_notes_107 : decode cX8_notes 107 = .ok (.iconst 0, 1) := by decide +kernel
theorem dX8_notes_108 : decode cX8_notes 108 = .ok (.ireturn, 1) := by decide +kernel
theorem dX8_winners_0 : decode cX8_winners 0 = .ok (.iconst 0, 1) := by decide +kernel
theorem dX8_winners_1 : decode cX8_winners 1 = .ok (.istore_n 3, 1) := by decide +kernel
theorem dX8_winners_2 : decode cX8_winners 2 = .ok (.iconst 1, 1) := by decide +kernel
theorem dX8_winners_3 : decode cX8_winners 3 = .ok (.istore 4, 2) := by decide +kernel
theorem dX8_winners_5 : decode cX8_winners 5 = .ok (.iload 4, 2) := by decide +kernel
theorem dX8_winners_7 : decode cX8_winners 7 = .ok (.iload_n 2, 1) := by decide +kernel
theorem dX8_winners_8 : decode cX8_winners 8 = .ok (.if_icmp .gt 39, 3) := by decide +kernel
theorem dX8_winners_11 : decode cX8_winners 11 = .ok (.iload 4, 2) := by decide +kernel
theorem dX8_winners_13 : decode cX8_winners 13 = .ok (.iload_n 1, 1) := by decide +kernel
theorem dX8_winners_14 : decode cX8_winners 14 = .ok (.if_icmp .gt 33, 3) := by decide +kernel
theorem dX8_winners_17 : decode cX8_winners 17 = .ok (.aload_n 0, 1) := by decide +kernel
theorem dX8_winners_18 : decode cX8_winners 18 = .ok (.getfield 93, 3) := by decide +kernel
theorem dX8_winners_21 : decode cX8_winners 21 = .ok (.iload_n 1, 1) := by decide +kernel
theorem dX8_winners_22 : decode cX8_winners 22 = .ok (.iload 4, 2) := by decide +kernel
theorem dX8_winners_24 : decode cX8_winners 24 = .ok (.isub, 1) := by decide +kernel
theorem dX8_winners_25 : decode cX8_winners 25 = .ok (.iaload, 1) := by decide +kernel
theorem dX8_winners_26 : decode cX8_winners 26 = .ok (.iload 4, 2) := by decide +kernel
theorem dX8_winners_28 : decode cX8_winners 28 = .ok (.ishr, 1) := by decide +kernel
theorem dX8_winners_29 : decode cX8_winners 29 = .ok (.iconst 1, 1) := by decide +kernel
theorem dX8_winners_30 : decode cX8_winners 30 = .ok (.iand, 1) := by decide +kernel
theorem dX8_winners_31 : decode cX8_winners 31 = .ok (.ifCond .eq 10, 3) := by decide +kernel
theorem dX8_winners_34 : decode cX8_winners 34 = .ok (.iload_n 3, 1) := by decide +kernel
theorem dX8_winners_35 : decode cX8_winners 35 = .ok (.iconst 1, 1) := by decide +kernel
theorem dX8_winners_36 : decode cX8_winners 36 = .ok (.iload 4, 2) := by decide +kernel
theorem dX8_winners_38 : decode cX8_winners 38 = .ok (.ishl, 1) := by decide +kernel
theorem dX8_winners_39 : decode cX8_winners 39 = .ok (.ior, 1) := by decide +kernel
theorem dX8_winners_40 : decode cX8_winners 40 = .ok (.istore_n 3, 1) := by decide +kernel
theorem dX8_winners_41 : decode cX8_winners 41 = .ok (.iinc 4 1, 3) := by decide +kernel
theorem dX8_winners_44 : decode cX8_winners 44 = .ok (.goto (-39), 3) := by decide +kernel
theorem dX8_winners_47 : decode cX8_winners 47 = .ok (.iload_n 3, 1) := by decide +kernel
theorem dX8_winners_48 : decode cX8_winners 48 = .ok (.ireturn, 1) := by decide +kernel
theorem dX8_lostBehind_0 : decode cX8_lostBehind 0 = .ok (.iload_n 0, 1) := by decide +kernel
theorem dX8_lostBehind_1 : decode cX8_lostBehind 1 = .ok (.ifCond .ne 7, 3) := by decide +kernel
theorem dX8_lostBehind_4 : decode cX8_lostBehind 4 = .ok (.sipush 1023, 3) := by decide +kernel
theorem dX8_lostBehind_7 : decode cX8_lostBehind 7 = .ok (.ireturn, 1) := by decide +kernel
theorem dX8_lostBehind_8 : decode cX8_lostBehind 8 = .ok (.iload_n 0, 1) := by decide +kernel
theorem dX8_lostBehind_9 : decode cX8_lostBehind 9 = .ok (.invokestatic 187, 3) := by decide +kernel
theorem dX8_lostBehind_12 : decode cX8_lostBehind 12 = .ok (.iconst 1, 1) := by decide +kernel
theorem dX8_lostBehind_13 : decode cX8_lostBehind 13 = .ok (.if_icmp .ne 7, 3) := by decide +kernel
theorem dX8_lostBehind_16 : decode cX8_lostBehind 16 = .ok (.iload_n 0, 1) := by decide +kernel
theorem dX8_lostBehind_17 : decode cX8_lostBehind 17 = .ok (.goto 4, 3) := by decide +kernel
theorem dX8_lostBehind_20 : decode cX8_lostBehind 20 = .ok (.iconst 0, 1) := by decide +kernel
theorem dX8_lostBehind_21 : decode cX8_lostBehind 21 = .ok (.ireturn, 1) := by decide +kernel
theorem dX8_look_0 : decode cX8_look 0 = .ok (.iload_n 1, 1) := by decide +kernel
theorem dX8_look_1 : decode cX8_look 1 = .ok (.ifCond .lt 18, 3) := by decide +kernel
theorem dX8_look_4 : decode cX8_look 4 = .ok (.iload_n 1, 1) := by decide +kernel
theorem dX8_look_5 : decode cX8_look 5 = .ok (.bipush 9, 2) := by decide +kernel
theorem dX8_look_7 : decode cX8_look 7 = .ok (.if_icmp .gt 12, 3) := by decide +kernel
theorem dX8_look_10 : decode cX8_look 10 = .ok (.iload_n 2, 1) := by decide +kernel
theorem dX8_look_11 : decode cX8_look 11 = .ok (.ifCond .lt 8, 3) := by decide +kernel
theorem dX8_look_14 : decode cX8_look 14 = .ok (.iload_n 2, 1) := by decide +kernel
theorem dX8_look_15 : decode cX8_look 15 = .ok (.iconst 1, 1) := by decide +kernel
theorem dX8_look_16 : decode cX8_look 16 = .ok (.if_icmp .le 5, 3) := by decide +kernel
theorem dX8_look_19 : decode cX8_look 19 = .ok (.iconst (-1), 1) := by decide +kernel
theorem dX8_look_20 : decode cX8_look 20 = .ok (.ireturn, 1) := by decide +kernel
theorem dX8_look_21 : decode cX8_look 21 = .ok (.aload_n 0, 1) := by decide +kernel
theorem dX8_look_22 : decode cX8_look 22 = .ok (.getfield 61, 3) := by decide +kernel
theorem dX8_look_25 : decode cX8_look 25 = .ok (.iload_n 1, 1) := by decide +kernel
theorem dX8_look_26 : decode cX8_look 26 = .ok (.iload_n 2, 1) := by decide +kernel
theorem dX8_look_27 : decode cX8_look 27 = .ok (.invokevirtual 382, 3) := by decide +kernel
theorem dX8_look_30 : decode cX8_look 30 = .ok (.ifCond .eq 13, 3) := by decide +kernel
theorem dX8_look_33 : decode cX8_look 33 = .ok (.aload_n 0, 1) := by decide +kernel
theorem dX8_look_34 : decode cX8_look 34 = .ok (.getfield 61, 3) := by decide +kernel
theorem dX8_look_37 : decode cX8_look 37 = .ok (.getfield 385, 3) := by decide +kernel
theorem dX8_look_40 : decode cX8_look 40 = .ok (.goto 4, 3) := by decide +kernel
theorem dX8_look_43 : decode cX8_look 43 = .ok (.iconst (-1), 1) := by decide +kernel
theorem dX8_look_44 : decode cX8_look 44 = .ok (.ireturn, 1) := by decide +kernel
theorem dX8_forget_0 : decode cX8_forget 0 = .ok (.aload_n 0, 1) := by decide +kernel
theorem dX8_forget_1 : decode cX8_forget 1 = .ok (.getfield 61, 3) := by decide +kernel
theorem dX8_forget_4 : decode cX8_forget 4 = .ok (.getfield 385, 3) := by decide +kernel
theorem dX8_forget_7 : decode cX8_forget 7 = .ok (.istore_n 1, 1) := by decide +kernel
theorem dX8_forget_8 : decode cX8_forget 8 = .ok (.aload_n 0, 1) := by decide +kernel
theorem dX8_forget_9 : decode cX8_forget 9 = .ok (.getfield 61, 3) := by decide +kernel
theorem dX8_forget_12 : decode cX8_forget 12 = .ok (.iconst 0, 1) := by decide +kernel
theorem dX8_forget_13 : decode cX8_forget 13 = .ok (.putfield 385, 3) := by decide +kernel
theorem dX8_forget_16 : decode cX8_forget 16 = .ok (.iload_n 1, 1) := by decide +kernel
theorem dX8_forget_17 : decode cX8_forget 17 = .ok (.ireturn, 1) := by decide +kernel
theorem dX8_laws_0 : decode cX8_laws 0 = .ok (.iconst 0, 1) := by decide +kernel
theorem dX8_laws_1 : decode cX8_laws 1 = .ok (.istore_n 1, 1) := by decide +kernel
theorem dX8_laws_2 : decode cX8_laws 2 = .ok (.aload_n 0, 1) := by decide +kernel
theorem dX8_laws_3 : decode cX8_laws 3 = .ok (.getfield 19, 3) := by decide +kernel
theorem dX8_laws_6 : decode cX8_laws 6 = .ok (.invokevirtual 328, 3) := by decide +kernel
theorem dX8_laws_9 : decode cX8_laws 9 = .ok (.iconst 1, 1) := by decide +kernel
theorem dX8_laws_10 : decode cX8_laws 10 = .ok (.istore_n 2, 1) := by decide +kernel
theorem dX8_laws_11 : decode cX8_laws 11 = .ok (.iload_n 2, 1) := by decide +kernel
theorem dX8_laws_12 : decode cX8_laws 12 = .ok (.bipush 6, 2) := by decide +kernel
theorem dX8_laws_14 : decode cX8_laws 14 = .ok (.if_icmp .gt 49, 3) := by decide +kernel
theorem dX8_laws_17 : decode cX8_laws 17 = .ok (.iconst 0, 1) := by decide +kernel
theorem dX8_laws_18 : decode cX8_laws 18 = .ok (.istore_n 3, 1) := by decide +kernel
theorem dX8_laws_19 : decode cX8_laws 19 = .ok (.iload_n 3, 1) := by decide +kernel
theorem dX8_laws_20 : decode cX8_laws 20 = .ok (.iload_n 2, 1) := by decide +kernel
theorem dX8_laws_21 : decode cX8_laws 21 = .ok (.if_icmp .ge 36, 3) := by decide +kernel
theorem dX8_laws_24 : decode cX8_laws 24 = .ok (.aload_n 0, 1) := by decide +kernel
theorem dX8_laws_25 : decode cX8_laws 25 = .ok (.iload_n 2, 1) := by decide +kernel
theorem dX8_laws_26 : decode cX8_laws 26 = .ok (.iload_n 3, 1) := by decide +kernel
theorem dX8_laws_27 : decode cX8_laws 27 = .ok (.invokevirtual 386, 3) := by decide +kernel
theorem dX8_laws_30 : decode cX8_laws 30 = .ok (.ifCond .eq 21, 3) := by decide +kernel
theorem dX8_laws_33 : decode cX8_laws 33 = .ok (.iload_n 1, 1) := by decide +kernel
theorem dX8_laws_34 : decode cX8_laws 34 = .ok (.ifCond .ne 14, 3) := by decide +kernel
theorem dX8_laws_37 : decode cX8_laws 37 = .ok (.aload_n 0, 1) := by decide +kernel
theorem dX8_laws_38 : decode cX8_laws 38 = .ok (.getfield 19, 3) := by decide +kernel
theorem dX8_laws_41 : decode cX8_laws 41 = .ok (.iload_n 2, 1) := by decide +kernel
theorem dX8_laws_42 : decode cX8_laws 42 = .ok (.i2l, 1) := by decide +kernel
theorem dX8_laws_43 : decode cX8_laws 43 = .ok (.iload_n 3, 1) := by decide +kernel
theorem dX8_laws_44 : decode cX8_laws 44 = .ok (.i2l, 1) := by decide +kernel
theorem dX8_laws_45 : decode cX8_laws 45 = .ok (.invokevirtual 229, 3) := by decide +kernel
theorem dX8_laws_48 : decode cX8_laws 48 = .ok (.iinc 1 1, 3) := by decide +kernel
theorem dX8_laws_51 : decode cX8_laws 51 = .ok (.iinc 3 1, 3) := by decide +kernel
theorem dX8_laws_54 : decode cX8_laws 54 = .ok (.goto (-35), 3) := by decide +kernel
theorem dX8_laws_57 : decode cX8_laws 57 = .ok (.iinc 2 1, 3) := by decide +kernel
theorem dX8_laws_60 : decode cX8_laws 60 = .ok (.goto (-49), 3) := by decide +kernel
theorem dX8_laws_63 : decode cX8_laws 63 = .ok (.iload_n 1, 1) := by decide +kernel
theorem dX8_laws_64 : decode cX8_laws 64 = .ok (.ireturn, 1) := by decide +kernel
theorem dX8_fitsLooks_0 : decode cX8_fitsLooks 0 = .ok (.iconst 0, 1) := by decide +kernel
theorem dX8_fitsLooks_1 : decode cX8_fitsLooks 1 = .ok (.istore_n 3, 1) := by decide +kernel
theorem dX8_fitsLooks_2 : decode cX8_fitsLooks 2 = .ok (.iload_n 3, 1) := by decide +kernel
theorem dX8_fitsLooks_3 : decode cX8_fitsLooks 3 = .ok (.aload_n 0, 1) := by decide +kernel
theorem dX8_fitsLooks_4 : decode cX8_fitsLooks 4 = .ok (.getfield 61, 3) := by decide +kernel
theorem dX8_fitsLooks_7 : decode cX8_fitsLooks 7 = .ok (.getfield 385, 3) := by decide +kernel
theorem dX8_fitsLooks_10 : decode cX8_fitsLooks 10 = .ok (.if_icmp .ge 46, 3) := by decide +kernel
theorem dX8_fitsLooks_13 : decode cX8_fitsLooks 13 = .ok (.iload_n 1, 1) := by decide +kernel
theorem dX8_fitsLooks_14 : decode cX8_fitsLooks 14 = .ok (.iload_n 2, 1) := by decide +kernel
theorem dX8_fitsLooks_15 : decode cX8_fitsLooks 15 = .ok (.aload_n 0, 1) := by decide +kernel
theorem dX8_fitsLooks_16 : decode cX8_fitsLooks 16 = .ok (.getfield 61, 3) := by decide +kernel
theorem dX8_fitsLooks_19 : decode cX8_fitsLooks 19 = .ok (.getfield 389, 3) := by decide +kernel
theorem dX8_fitsLooks_22 : decode cX8_fitsLooks 22 = .ok (.iload_n 3, 1) := by decide +kernel
theorem dX8_fitsLooks_23 : decode cX8_fitsLooks 23 = .ok (.iaload, 1) := by decide +kernel
theorem dX8_fitsLooks_24 : decode cX8_fitsLooks 24 = .ok (.invokestatic 392, 3) := by decide +kernel
theorem dX8_fitsLooks_27 : decode cX8_fitsLooks 27 = .ok (.aload_n 0, 1) := by decide +kernel
theorem dX8_fitsLooks_28 : decode cX8_fitsLooks 28 = .ok (.getfield 61, 3) := by decide +kernel
theorem dX8_fitsLooks_31 : decode cX8_fitsLooks 31 = .ok (.getfield 395, 3) := by decide +kernel
theorem dX8_fitsLooks_34 : decode cX8_fitsLooks 34 = .ok (.iload_n 3, 1) := by decide +kernel
theorem dX8_fitsLooks_35 : decode cX8_fitsLooks 35 = .ok (.iaload, 1) := by decide +kernel
theorem dX8_fitsLooks_36 : decode cX8_fitsLooks 36 = .ok (.iconst 1, 1) := by decide +kernel
theorem dX8_fitsLooks_37 : decode cX8_fitsLooks 37 = .ok (.if_icmp .ne 7, 3) := by decide +kernel
theorem dX8_fitsLooks_40 : decode cX8_fitsLooks 40 = .ok (.iconst 1, 1) := by decide +kernel
theorem dX8_fitsLooks_41 : decode cX8_fitsLooks 41 = .ok (.goto 4, 3) := by decide +kernel
theorem dX8_fitsLooks_44 : decode cX8_fitsLooks 44 = .ok (.iconst 0, 1) := by decide +kernel
theorem dX8_fitsLooks_45 : decode cX8_fitsLooks 45 = .ok (.if_icmp .eq 5, 3) := by decide +kernel
theorem dX8_fitsLooks_48 : decode cX8_fitsLooks 48 = .ok (.iconst 0, 1) := by decide +kernel
theorem dX8_fitsLooks_49 : decode cX8_fitsLooks 49 = .ok (.ireturn, 1) := by decide +kernel
theorem dX8_fitsLooks_50 : decode cX8_fitsLooks 50 = .ok (.iinc 3 1, 3) := by decide +kernel
theorem dX8_fitsLooks_53 : decode cX8_fitsLooks 53 = .ok (.goto (-51), 3) := by decide +kernel
theorem dX8_fitsLooks_56 : decode cX8_fitsLooks 56 = .ok (.iconst 1, 1) := by decide +kernel
theorem dX8_fitsLooks_57 : decode cX8_fitsLooks 57 = .ok (.ireturn, 1) := by decide +kernel
theorem dX8_likes_0 : decode cX8_likes 0 = .ok (.iload_n 0, 1) := by decide +kernel
theorem dX8_likes_1 : decode cX8_likes 1 = .ok (.ifCond .le 14, 3) := by decide +kernel
theorem dX8_likes_4 : decode cX8_likes 4 = .ok (.iload_n 2, 1) := by decide +kernel
theorem dX8_likes_5 : decode cX8_likes 5 = .ok (.iload_n 0, 1) := by decide +kernel
theorem dX8_likes_6 : decode cX8_likes 6 = .ok (.irem, 1) := by decide +kernel
theorem dX8_likes_7 : decode cX8_likes 7 = .ok (.iload_n 1, 1) := by decide +kernel
theorem dX8_likes_8 : decode cX8_likes 8 = .ok (.if_icmp .ne 7, 3) := by decide +kernel
theorem dX8_likes_11 : decode cX8_likes 11 = .ok (.iconst 1, 1) := by decide +kernel
theorem dX8_likes_12 : decode cX8_likes 12 = .ok (.goto 4, 3) := by decide +kernel
theorem dX8_likes_15 : decode cX8_likes 15 = .ok (.iconst 0, 1) := by decide +kernel
theorem dX8_likes_16 : decode cX8_likes 16 = .ok (.ireturn, 1) := by decide +kernel
theorem dX8_lawsThat_0 : decode cX8_lawsThat 0 = .ok (.iconst 0, 1) := by decide +kernel
theorem dX8_lawsThat_1 : decode cX8_lawsThat 1 = .ok (.istore_n 3, 1) := by decide +kernel
theorem dX8_lawsThat_2 : decode cX8_lawsThat 2 = .ok (.iconst 1, 1) := by decide +kernel
theorem dX8_lawsThat_3 : decode cX8_lawsThat 3 = .ok (.istore 4, 2) := by decide +kernel
theorem dX8_lawsThat_5 : decode cX8_lawsThat 5 = .ok (.iload 4, 2) := by decide +kernel
theorem dX8_lawsThat_7 : decode cX8_lawsThat 7 = .ok (.bipush 6, 2) := by decide +kernel
theorem dX8_lawsThat_9 : decode cX8_lawsThat 9 = .ok (.if_icmp .gt 51, 3) := by decide +kernel
theorem dX8_lawsThat_12 : decode cX8_lawsThat 12 = .ok (.iconst 0, 1) := by decide +kernel
theorem dX8_lawsThat_13 : decode cX8_lawsThat 13 = .ok (.istore 5, 2) := by decide +kernel
theorem dX8_lawsThat_15 : decode cX8_lawsThat 15 = .ok (.iload 5, 2) := by decide +kernel
theorem dX8_lawsThat_17 : decode cX8_lawsThat 17 = .ok (.iload 4, 2) := by decide +kernel
theorem dX8_lawsThat_19 : decode cX8_lawsThat 19 = .ok (.if_icmp .ge 35, 3) := by decide +kernel
theorem dX8_lawsThat_22 : decode cX8_lawsThat 22 = .ok (.iload 4, 2) := by decide +kernel
theorem dX8_lawsThat_24 : decode cX8_lawsThat 24 = .ok (.iload 5, 2) := by decide +kernel
theorem dX8_lawsThat_26 : decode cX8_lawsThat 26 = .ok (.iload_n 2, 1) := by decide +kernel
theorem dX8_lawsThat_27 : decode cX8_lawsThat 27 = .ok (.invokestatic 392, 3) := by decide +kernel
theorem dX8_lawsThat_30 : decode cX8_lawsThat 30 = .ok (.iload_n 1, 1) := by decide +kernel
theorem dX8_lawsThat_31 : decode cX8_lawsThat 31 = .ok (.if_icmp .ne 17, 3) := by decide +kernel
theorem dX8_lawsThat_34 : decode cX8_lawsThat 34 = .ok (.aload_n 0, 1) := by decide +kernel
theorem dX8_lawsThat_35 : decode cX8_lawsThat 35 = .ok (.iload 4, 2) := by decide +kernel
theorem dX8_lawsThat_37 : decode cX8_lawsThat 37 = .ok (.iload 5, 2) := by decide +kernel
theorem dX8_lawsThat_39 : decode cX8_lawsThat 39 = .ok (.invokevirtual 386, 3) := by decide +kernel
theorem dX8_lawsThat_42 : decode cX8_lawsThat 42 = .ok (.ifCond .eq 6, 3) := by decide +kernel
theorem dX8_lawsThat_45 : decode cX8_lawsThat 45 = .ok (.iinc 3 1, 3) := by decide +kernel
theorem dX8_lawsThat_48 : decode cX8_lawsThat 48 = .ok (.iinc 5 1, 3) := by decide +kernel
theorem dX8_lawsThat_51 : decode cX8_lawsThat 51 = .ok (.goto (-36), 3) := by decide +kernel
theorem dX8_lawsThat_54 : decode cX8_lawsThat 54 = .ok (.iinc 4 1, 3) := by decide +kernel
theorem dX8_lawsThat_57 : decode cX8_lawsThat 57 = .ok (.goto (-52), 3) := by decide +kernel
theorem dX8_lawsThat_60 : decode cX8_lawsThat 60 = .ok (.iload_n 3, 1) := by decide +kernel
theorem dX8_lawsThat_61 : decode cX8_lawsThat 61 = .ok (.ireturn, 1) := by decide +kernel
theorem dX8_sure_0 : decode cX8_sure 0 = .ok (.iconst 0, 1) := by decide +kernel
theorem dX8_sure_1 : decode cX8_sure 1 = .ok (.istore_n 1, 1) := by decide +kernel
theorem dX8_sure_2 : decode cX8_sure 2 = .ok (.iconst 0, 1) := by decide +kernel
theorem dX8_sure_3 : decode cX8_sure 3 = .ok (.istore_n 2, 1) := by decide +kernel
theorem dX8_sure_4 : decode cX8_sure 4 = .ok (.iconst 0, 1) := by decide +kernel
theorem dX8_sure_5 : decode cX8_sure 5 = .ok (.istore_n 3, 1) := by decide +kernel
theorem dX8_sure_6 : decode cX8_sure 6 = .ok (.iload_n 3, 1) := by decide +kernel
theorem dX8_sure_7 : decode cX8_sure 7 = .ok (.bipush 9, 2) := by decide +kernel
theorem dX8_sure_9 : decode cX8_sure 9 = .ok (.if_icmp .gt 57, 3) := by decide +kernel
theorem dX8_sure_12 : decode cX8_sure 12 = .ok (.aload_n 0, 1) := by decide +kernel
theorem dX8_sure_13 : decode cX8_sure 13 = .ok (.iconst 1, 1) := by decide +kernel
theorem dX8_sure_14 : decode cX8_sure 14 = .ok (.iload_n 3, 1) := by decide +kernel
theorem dX8_sure_15 : decode cX8_sure 15 = .ok (.invokevirtual 398, 3) := by decide +kernel
theorem dX8_sure_18 : decode cX8_sure 18 = .ok (.istore 4, 2) := by decide +kernel
theorem dX8_sure_20 : decode cX8_sure 20 = .ok (.aload_n 0, 1) := by decide +kernel
theorem dX8_sure_21 : decode cX8_sure 21 = .ok (.iconst 0, 1) := by decide +kernel
theorem dX8_sure_22 : decode cX8_sure 22 = .ok (.iload_n 3, 1) := by decide +kernel
theorem dX8_sure_23 : decode cX8_sure 23 = .ok (.invokevirtual 398, 3) := by decide +kernel
theorem dX8_sure_26 : decode cX8_sure 26 = .ok (.istore 5, 2) := by decide +kernel
theorem dX8_sure_28 : decode cX8_sure 28 = .ok (.iload 4, 2) := by decide +kernel
theorem dX8_sure_30 : decode cX8_sure 30 = .ok (.ifCond .le 14, 3) := by decide +kernel
theorem dX8_sure_33 : decode cX8_sure 33 = .ok (.iload 5, 2) := by decide +kernel
theorem dX8_sure_35 : decode cX8_sure 35 = .ok (.ifCond .ne 9, 3) := by decide +kernel
theorem dX8_sure_38 : decode cX8_sure 38 = .ok (.iload_n 1, 1) := by decide +kernel
theorem dX8_sure_39 : decode cX8_sure 39 = .ok (.iconst 1, 1) := by decide +kernel
theorem dX8_sure_40 : decode cX8_sure 40 = .ok (.iload_n 3, 1) := by decide +kernel
theorem dX8_sure_41 : decode cX8_sure 41 = .ok (.ishl, 1) := by decide +kernel
theorem dX8_sure_42 : decode cX8_sure 42 = .ok (.ior, 1) := by decide +kernel
theorem dX8_sure_43 : decode cX8_sure 43 = .ok (.istore_n 1, 1) := by decide +kernel
theorem dX8_sure_44 : decode cX8_sure 44 = .ok (.iload 5, 2) := by decide +kernel
theorem dX8_sure_46 : decode cX8_sure 46 = .ok (.ifCond .le 14, 3) := by decide +kernel
theorem dX8_sure_49 : decode cX8_sure 49 = .ok (.iload 4, 2) := by decide +kernel
theorem dX8_sure_51 : decode cX8_sure 51 = .ok (.ifCond .ne 9, 3) := by decide +kernel
theorem dX8_sure_54 : decode cX8_sure 54 = .ok (.iload_n 2, 1) := by decide +kernel
theorem dX8_sure_55 : decode cX8_sure 55 = .ok (.iconst 1, 1) := by decide +kernel
theorem dX8_sure_56 : decode cX8_sure 56 = .ok (.iload_n 3, 1) := by decide +kernel
theorem dX8_sure_57 : decode cX8_sure 57 = .ok (.ishl, 1) := by decide +kernel
theorem dX8_sure_58 : decode cX8_sure 58 = .ok (.ior, 1) := by decide +kernel
theorem dX8_sure_59 : decode cX8_sure 59 = .ok (.istore_n 2, 1) := by decide +kernel
theorem dX8_sure_60 : decode cX8_sure 60 = .ok (.iinc 3 1, 3) := by decide +kernel
theorem dX8_sure_63 : decode cX8_sure 63 = .ok (.goto (-57), 3) := by decide +kernel
theorem dX8_sure_66 : decode cX8_sure 66 = .ok (.aload_n 0, 1) := by decide +kernel
theorem dX8_sure_67 : decode cX8_sure 67 = .ok (.getfield 19, 3) := by decide +kernel
theorem dX8_sure_70 : decode cX8_sure 70 = .ok (.iload_n 2, 1) := by decide +kernel
theorem dX8_sure_71 : decode cX8_sure 71 = .ok (.i2l, 1) := by decide +kernel
theorem dX8_sure_72 : decode cX8_sure 72 = .ok (.invokevirtual 299, 3) := by decide +kernel
theorem dX8_sure_75 : decode cX8_sure 75 = .ok (.iload_n 1, 1) := by decide +kernel
theorem dX8_sure_76 : decode cX8_sure 76 = .ok (.ireturn, 1) := by decide +kernel
theorem dX8_tries_0 : decode cX8_tries 0 = .ok (.bipush (-2), 2) := by decide +kernel
theorem dX8_tries_2 : decode cX8_tries 2 = .ok (.istore_n 1, 1) := by decide +kernel
theorem dX8_tries_3 : decode cX8_tries 3 = .ok (.iconst 0, 1) := by decide +kernel
theorem dX8_tries_4 : decode cX8_tries 4 = .ok (.istore_n 2, 1) := by decide +kernel
theorem dX8_tries_5 : decode cX8_tries 5 = .ok (.iconst 0, 1) := by decide +kernel
theorem dX8_tries_6 : decode cX8_tries 6 = .ok (.istore_n 3, 1) := by decide +kernel
theorem dX8_tries_7 : decode cX8_tries 7 = .ok (.iload_n 3, 1) := by decide +kernel
theorem dX8_tries_8 : decode cX8_tries 8 = .ok (.bipush 9, 2) := by decide +kernel
theorem dX8_tries_10 : decode cX8_tries 10 = .ok (.if_icmp .gt 46, 3) := by decide +kernel
theorem dX8_tries_13 : decode cX8_tries 13 = .ok (.aload_n 0, 1) := by decide +kernel
theorem dX8_tries_14 : decode cX8_tries 14 = .ok (.iconst 1, 1) := by decide +kernel
theorem dX8_tries_15 : decode cX8_tries 15 = .ok (.iload_n 3, 1) := by decide +kernel
theorem dX8_tries_16 : decode cX8_tries 16 = .ok (.invokevirtual 398, 3) := by decide +kernel
theorem dX8_tries_19 : decode cX8_tries 19 = .ok (.aload_n 0, 1) := by decide +kernel
theorem dX8_tries_20 : decode cX8_tries 20 = .ok (.iconst 0, 1) := by decide +kernel
theorem dX8_tries_21 : decode cX8_tries 21 = .ok (.iload_n 3, 1) := by decide +kernel
theorem dX8_tries_22 : decode cX8_tries 22 = .ok (.invokevirtual 398, 3) := by decide +kernel
theorem dX8_tries_25 : decode cX8_tries 25 = .ok (.invokestatic 209, 3) := by decide +kernel
theorem dX8_tries_28 : decode cX8_tries 28 = .ok (.istore 4, 2) := by decide +kernel
theorem dX8_tries_30 : decode cX8_tries 30 = .ok (.iload 4, 2) := by decide +kernel
theorem dX8_tries_32 : decode cX8_tries 32 = .ok (.ifCond .le 18, 3) := by decide +kernel
theorem dX8_tries_35 : decode cX8_tries 35 = .ok (.iload_n 1, 1) := by decide +kernel
theorem dX8_tries_36 : decode cX8_tries 36 = .ok (.ifCond .lt 9, 3) := by decide +kernel
theorem dX8_tries_39 : decode cX8_tries 39 = .ok (.iload 4, 2) := by decide +kernel
theorem dX8_tries_41 : decode cX8_tries 41 = .ok (.iload_n 2, 1) := by decide +kernel
theorem dX8_tries_42 : decode cX8_tries 42 = .ok (.if_icmp .ge 8, 3) := by decide +kernel
theorem dX8_tries_45 : decode cX8_tries 45 = .ok (.iload_n 3, 1) := by decide +kernel
theorem dX8_tries_46 : decode cX8_tries 46 = .ok (.istore_n 1, 1) := by decide +kernel
theorem dX8_tries_47 : decode cX8_tries 47 = .ok (.iload 4, 2) := by decide +kernel
theorem dX8_tries_49 : decode cX8_tries 49 = .ok (.istore_n 2, 1) := by decide +kernel
theorem dX8_tries_50 : decode cX8_tries 50 = .ok (.iinc 3 1, 3) := by decide +kernel
theorem dX8_tries_53 : decode cX8_tries 53 = .ok (.goto (-46), 3) := by decide +kernel
theorem dX8_tries_56 : decode cX8_tries 56 = .ok (.iload_n 1, 1) := by decide +kernel
theorem dX8_tries_57 : decode cX8_tries 57 = .ok (.ifCond .lt 12, 3) := by decide +kernel
theorem dX8_tries_60 : decode cX8_tries 60 = .ok (.aload_n 0, 1) := by decide +kernel
theorem dX8_tries_61 : decode cX8_tries 61 = .ok (.getfield 19, 3) := by decide +kernel
theorem dX8_tries_64 : decode cX8_tries 64 = .ok (.iload_n 2, 1) := by decide +kernel
theorem dX8_tries_65 : decode cX8_tries 65 = .ok (.i2l, 1) := by decide +kernel
theorem dX8_tries_66 : decode cX8_tries 66 = .ok (.invokevirtual 299, 3) := by decide +kernel
theorem dX8_tries_69 : decode cX8_tries 69 = .ok (.iload_n 1, 1) := by decide +kernel
theorem dX8_tries_70 : decode cX8_tries 70 = .ok (.ireturn, 1) := by decide +kernel
theorem dX8_sings_0 : decode cX8_sings 0 = .ok (.iload_n 1, 1) := by decide +kernel
theorem dX8_sings_1 : decode cX8_sings 1 = .ok (.iconst 1, 1) := by decide +kernel
theorem dX8_sings_2 : decode cX8_sings 2 = .ok (.if_icmp .lt 29, 3) := by decide +kernel
theorem dX8_sings_5 : decode cX8_sings 5 = .ok (.iload_n 1, 1) := by decide +kernel
theorem dX8_sings_6 : decode cX8_sings 6 = .ok (.bipush 10, 2) := by decide +kernel
theorem dX8_sings_8 : decode cX8_sings 8 = .ok (.if_icmp .gt 23, 3) := by decide +kernel
theorem dX8_sings_11 : decode cX8_sings 11 = .ok (.iload_n 2, 1) := by decide +kernel
theorem dX8_sings_12 : decode cX8_sings 12 = .ok (.ifCond .lt 19, 3) := by decide +kernel
theorem dX8_sings_15 : decode cX8_sings 15 = .ok (.iload_n 2, 1) := by decide +kernel
theorem dX8_sings_16 : decode cX8_sings 16 = .ok (.bipush 99, 2) := by decide +kernel
theorem dX8_sings_18 : decode cX8_sings 18 = .ok (.if_icmp .gt 13, 3) := by decide +kernel
theorem dX8_sings_21 : decode cX8_sings 21 = .ok (.iload_n 3, 1) := by decide +kernel
theorem dX8_sings_22 : decode cX8_sings 22 = .ok (.ifCond .lt 9, 3) := by decide +kernel
theorem dX8_sings_25 : decode cX8_sings 25 = .ok (.iload_n 3, 1) := by decide +kernel
theorem dX8_sings_26 : decode cX8_sings 26 = .ok (.bipush 10, 2) := by decide +kernel
theorem dX8_sings_28 : decode cX8_sings 28 = .ok (.if_icmp .le 5, 3) := by decide +kernel
theorem dX8_sings_31 : decode cX8_sings 31 = .ok (.iconst (-1), 1) := by decide +kernel
theorem dX8_sings_32 : decode cX8_sings 32 = .ok (.ireturn, 1) := by decide +kernel
theorem dX8_sings_33 : decode cX8_sings 33 = .ok (.aload_n 0, 1) := by decide +kernel
theorem dX8_sings_34 : decode cX8_sings 34 = .ok (.iload_n 1, 1) := by decide +kernel
theorem dX8_sings_35 : decode cX8_sings 35 = .ok (.iload_n 3, 1) := by decide +kernel
theorem dX8_sings_36 : decode cX8_sings 36 = .ok (.invokevirtual 402, 3) := by decide +kernel
theorem dX8_sings_39 : decode cX8_sings 39 = .ok (.lconst 0, 1) := by decide +kernel
theorem dX8_sings_40 : decode cX8_sings 40 = .ok (.lstore 4, 2) := by decide +kernel
theorem dX8_sings_42 : decode cX8_sings 42 = .ok (.iload_n 2, 1) := by decide +kernel
theorem dX8_sings_43 : decode cX8_sings 43 = .ok (.istore 6, 2) := by decide +kernel
theorem dX8_sings_45 : decode cX8_sings 45 = .ok (.iload 6, 2) := by decide +kernel
theorem dX8_sings_47 : decode cX8_sings 47 = .ok (.bipush 90, 2) := by decide +kernel
theorem dX8_sings_49 : decode cX8_sings 49 = .ok (.if_icmp .gt 21, 3) := by decide +kernel
theorem dX8_sings_52 : decode cX8_sings 52 = .ok (.lload 4, 2) := by decide +kernel
theorem dX8_sings_54 : decode cX8_sings 54 = .ok (.aload_n 0, 1) := by decide +kernel
theorem dX8_sings_55 : decode cX8_sings 55 = .ok (.getfield 83, 3) := by decide +kernel
theorem dX8_sings_58 : decode cX8_sings 58 = .ok (.iload 6, 2) := by decide +kernel
theorem dX8_sings_60 : decode cX8_sings 60 = .ok (.laload, 1) := by decide +kernel
theorem dX8_sings_61 : decode cX8_sings 61 = .ok (.ladd, 1) := by decide +kernel
theorem dX8_sings_62 : decode cX8_sings 62 = .ok (.lstore 4, 2) := by decide +kernel
theorem dX8_sings_64 : decode cX8_sings 64 = .ok (.iinc 6 1, 3) := by decide +kernel
theorem dX8_sings_67 : decode cX8_sings 67 = .ok (.goto (-22), 3) := by decide +kernel
theorem dX8_sings_70 : decode cX8_sings 70 = .ok (.aload_n 0, 1) := by decide +kernel
theorem dX8_sings_71 : decode cX8_sings 71 = .ok (.getfield 19, 3) := by decide +kernel
theorem dX8_sings_74 : decode cX8_sings 74 = .ok (.invokevirtual 328, 3) := by decide +kernel
theorem dX8_sings_77 : decode cX8_sings 77 = .ok (.aload_n 0, 1) := by decide +kernel
theorem dX8_sings_78 : decode cX8_sings 78 = .ok (.lload 4, 2) := by decide +kernel
theorem dX8_sings_80 : decode cX8_sings 80 = .ok (.iload_n 1, 1) := by decide +kernel
theorem dX8_sings_81 : decode cX8_sings 81 = .ok (.invokestatic 367, 3) := by decide +kernel
theorem dX8_sings_84 : decode cX8_sings 84 = .ok (.invokevirtual 371, 3) := by decide +kernel
theorem dX8_sings_87 : decode cX8_sings 87 = .ok (.iconst 0, 1) := by decide +kernel
theorem dX8_sings_88 : decode cX8_sings 88 = .ok (.ireturn, 1) := by decide +kernel
theorem dX8_weigh_0 : decode cX8_weigh 0 = .ok (.iconst 0, 1) := by decide +kernel
theorem dX8_weigh_1 : decode cX8_weigh 1 = .ok (.istore_n 3, 1) := by decide +kernel
theorem dX8_weigh_2 : decode cX8_weigh 2 = .ok (.iload_n 3, 1) := by decide +kernel
theorem dX8_weigh_3 : decode cX8_weigh 3 = .ok (.bipush 90, 2) := by decide +kernel
theorem dX8_weigh_5 : decode cX8_weigh 5 = .ok (.if_icmp .gt 24, 3) := by decide +kernel
theorem dX8_weigh_8 : decode cX8_weigh 8 = .ok (.aload_n 0, 1) := by decide +kernel
theorem dX8_weigh_9 : decode cX8_weigh 9 = .ok (.getfield 83, 3) := by decide +kernel
theorem dX8_weigh_12 : decode cX8_weigh 12 = .ok (.iload_n 3, 1) := by decide +kernel
theorem dX8_weigh_13 : decode cX8_weigh 13 = .ok (.iload_n 3, 1) := by decide +kernel
theorem dX8_weigh_14 : decode cX8_weigh 14 = .ok (.ifCond .ne 7, 3) := by decide +kernel
theorem dX8_weigh_17 : decode cX8_weigh 17 = .ok (.lconst 1, 1) := by decide +kernel
theorem dX8_weigh_18 : decode cX8_weigh 18 = .ok (.goto 4, 3) := by decide +kernel
theorem dX8_weigh_21 : decode cX8_weigh 21 = .ok (.lconst 0, 1) := by decide +kernel
theorem dX8_weigh_22 : decode cX8_weigh 22 = .ok (.lastore, 1) := by decide +kernel
theorem dX8_weigh_23 : decode cX8_weigh 23 = .ok (.iinc 3 1, 3) := by decide +kernel
theorem dX8_weigh_26 : decode cX8_weigh 26 = .ok (.goto (-24), 3) := by decide +kernel
theorem dX8_weigh_29 : decode cX8_weigh 29 = .ok (.iconst 0, 1) := by decide +kernel
theorem dX8_weigh_30 : decode cX8_weigh 30 = .ok (.istore_n 3, 1) := by decide +kernel
theorem dX8_weigh_31 : decode cX8_weigh 31 = .ok (.iload_n 3, 1) := by decide +kernel
theorem dX8_weigh_32 : decode cX8_weigh 32 = .ok (.iload_n 1, 1) := by decide +kernel
theorem dX8_weigh_33 : decode cX8_weigh 33 = .ok (.if_icmp .ge 91, 3) := by decide +kernel
theorem dX8_weigh_36 : decode cX8_weigh 36 = .ok (.aload_n 0, 1) := by decide +kernel
theorem dX8_weigh_37 : decode cX8_weigh 37 = .ok (.getfield 26, 3) := by decide +kernel
theorem dX8_weigh_40 : decode cX8_weigh 40 = .ok (.aload_n 0, 1) := by decide +kernel
theorem dX8_weigh_41 : decode cX8_weigh 41 = .ok (.getfield 33, 3) := by decide +kernel
theorem dX8_weigh_44 : decode cX8_weigh 44 = .ok (.getfield 184, 3) := by decide +kernel
theorem dX8_weigh_47 : decode cX8_weigh 47 = .ok (.iload_n 3, 1) := by decide +kernel
theorem dX8_weigh_48 : decode cX8_weigh 48 = .ok (.iadd, 1) := by decide +kernel
theorem dX8_weigh_49 : decode cX8_weigh 49 = .ok (.invokevirtual 196, 3) := by decide +kernel
theorem dX8_weigh_52 : decode cX8_weigh 52 = .ok (.istore 4, 2) := by decide +kernel
theorem dX8_weigh_54 : decode cX8_weigh 54 = .ok (.bipush 90, 2) := by decide +kernel
theorem dX8_weigh_56 : decode cX8_weigh 56 = .ok (.istore 5, 2) := by decide +kernel
theorem dX8_weigh_58 : decode cX8_weigh 58 = .ok (.iload 5, 2) := by decide +kernel
theorem dX8_weigh_60 : decode cX8_weigh 60 = .ok (.ifCond .lt 58, 3) := by decide +kernel
theorem dX8_weigh_63 : decode cX8_weigh 63 = .ok (.iload 5, 2) := by decide +kernel
theorem dX8_weigh_65 : decode cX8_weigh 65 = .ok (.iload 4, 2) := by decide +kernel
theorem dX8_weigh_67 : decode cX8_weigh 67 = .ok (.if_icmp .lt 16, 3) := by decide +kernel
theorem dX8_weigh_70 : decode cX8_weigh 70 = .ok (.aload_n 0, 1) := by decide +kernel
theorem dX8_weigh_71 : decode cX8_weigh 71 = .ok (.getfield 83, 3) := by decide +kernel
theorem dX8_weigh_74 : decode cX8_weigh 74 = .ok (.iload 5, 2) := by decide +kernel
theorem dX8_weigh_76 : decode cX8_weigh 76 = .ok (.iload 4, 2) := by decide +kernel
theorem dX8_weigh_78 : decode cX8_weigh 78 = .ok (.isub, 1) := by decide +kernel
theorem dX8_weigh_79 : decode cX8_weigh 79 = .ok (.laload, 1) := by decide +kernel
theorem dX8_weigh_80 : decode cX8_weigh 80 = .ok (.goto 4, 3) := by decide +kernel
theorem dX8_weigh_83 : decode cX8_weigh 83 = .ok (.lconst 0, 1) := by decide +kernel
theorem dX8_weigh_84 : decode cX8_weigh 84 = .ok (.lstore 6, 2) := by decide +kernel
theorem dX8_weigh_86 : decode cX8_weigh 86 = .ok (.aload_n 0, 1) := by decide +kernel
theorem dX8_weigh_87 : decode cX8_weigh 87 = .ok (.getfield 83, 3) := by decide +kernel
theorem dX8_weigh_90 : decode cX8_weigh 90 = .ok (.iload 5, 2) := by decide +kernel
theorem dX8_weigh_92 : decode cX8_weigh 92 = .ok (.aload_n 0, 1) := by decide +kernel
theorem dX8_weigh_93 : decode cX8_weigh 93 = .ok (.getfield 83, 3) := by decide +kernel
theorem dX8_weigh_96 : decode cX8_weigh 96 = .ok (.iload 5, 2) := by decide +kernel
theorem dX8_weigh_98 : decode cX8_weigh 98 = .ok (.laload, 1) := by decide +kernel
theorem dX8_weigh_99 : decode cX8_weigh 99 = .ok (.bipush 10, 2) := by decide +kernel
theorem dX8_weigh_101 : decode cX8_weigh 101 = .ok (.iload_n 2, 1) := by decide +kernel
theorem dX8_weigh_102 : decode cX8_weigh 102 = .ok (.isub, 1) := by decide +kernel
theorem dX8_weigh_103 : decode cX8_weigh 103 = .ok (.i2l, 1) := by decide +kernel
theorem dX8_weigh_104 : decode cX8_weigh 104 = .ok (.lmul, 1) := by decide +kernel
theorem dX8_weigh_105 : decode cX8_weigh 105 = .ok (.lload 6, 2) := by decide +kernel
theorem dX8_weigh_107 : decode cX8_weigh 107 = .ok (.iload_n 2, 1) := by decide +kernel
theorem dX8_weigh_108 : decode cX8_weigh 108 = .ok (.i2l, 1) := by decide +kernel
theorem dX8_weigh_109 : decode cX8_weigh 109 = .ok (.lmul, 1) := by decide +kernel
theorem dX8_weigh_110 : decode cX8_weigh 110 = .ok (.ladd, 1) := by decide +kernel
theorem dX8_weigh_111 : decode cX8_weigh 111 = .ok (.lastore, 1) := by decide +kernel
theorem dX8_weigh_112 : decode cX8_weigh 112 = .ok (.iinc 5 (-1), 3) := by decide +kernel
theorem dX8_weigh_115 : decode cX8_weigh 115 = .ok (.goto (-57), 3) := by decide +kernel
theorem dX8_weigh_118 : decode cX8_weigh 118 = .ok (.iinc 3 1, 3) := by decide +kernel
theorem dX8_weigh_121 : decode cX8_weigh 121 = .ok (.goto (-90), 3) := by decide +kernel
theorem dX8_weigh_124 : decode cX8_weigh 124 = .ok (.return_, 1) := by decide +kernel
theorem dX8_counts_0 : decode cX8_counts 0 = .ok (.iload_n 1, 1) := by decide +kernel
theorem dX8_counts_1 : decode cX8_counts 1 = .ok (.iconst 1, 1) := by decide +kernel
theorem dX8_counts_2 : decode cX8_counts 2 = .ok (.if_icmp .lt 29, 3) := by decide +kernel
theorem dX8_counts_5 : decode cX8_counts 5 = .ok (.iload_n 1, 1) := by decide +kernel
theorem dX8_counts_6 : decode cX8_counts 6 = .ok (.bipush 10, 2) := by decide +kernel
theorem dX8_counts_8 : decode cX8_counts 8 = .ok (.if_icmp .gt 23, 3) := by decide +kernel
theorem dX8_counts_11 : decode cX8_counts 11 = .ok (.iload_n 2, 1) := by decide +kernel
theorem dX8_counts_12 : decode cX8_counts 12 = .ok (.ifCond .lt 19, 3) := by decide +kernel
theorem dX8_counts_15 : decode cX8_counts 15 = .ok (.iload_n 2, 1) := by decide +kernel
theorem dX8_counts_16 : decode cX8_counts 16 = .ok (.bipush 100, 2) := by decide +kernel
theorem dX8_counts_18 : decode cX8_counts 18 = .ok (.if_icmp .gt 13, 3) := by decide +kernel
theorem dX8_counts_21 : decode cX8_counts 21 = .ok (.iload_n 3, 1) := by decide +kernel
theorem dX8_counts_22 : decode cX8_counts 22 = .ok (.ifCond .lt 9, 3) := by decide +kernel
theorem dX8_counts_25 : decode cX8_counts 25 = .ok (.iload_n 3, 1) := by decide +kernel
theorem dX8_counts_26 : decode cX8_counts 26 = .ok (.bipush 10, 2) := by decide +kernel
theorem dX8_counts_28 : decode cX8_counts 28 = .ok (.if_icmp .le 5, 3) := by decide +kernel
theorem dX8_counts_31 : decode cX8_counts 31 = .ok (.iconst (-1), 1) := by decide +kernel
theorem dX8_counts_32 : decode cX8_counts 32 = .ok (.ireturn, 1) := by decide +kernel
theorem dX8_counts_33 : decode cX8_counts 33 = .ok (.aload_n 0, 1) := by decide +kernel
theorem dX8_counts_34 : decode cX8_counts 34 = .ok (.iload_n 1, 1) := by decide +kernel
theorem dX8_counts_35 : decode cX8_counts 35 = .ok (.iload_n 3, 1) := by decide +kernel
theorem dX8_counts_36 : decode cX8_counts 36 = .ok (.invokevirtual 402, 3) := by decide +kernel
theorem dX8_counts_39 : decode cX8_counts 39 = .ok (.iload_n 2, 1) := by decide +kernel
theorem dX8_counts_40 : decode cX8_counts 40 = .ok (.i2l, 1) := by decide +kernel
theorem dX8_counts_41 : decode cX8_counts 41 = .ok (.iload_n 1, 1) := by decide +kernel
theorem dX8_counts_42 : decode cX8_counts 42 = .ok (.invokestatic 367, 3) := by decide +kernel
theorem dX8_counts_45 : decode cX8_counts 45 = .ok (.lmul, 1) := by decide +kernel
theorem dX8_counts_46 : decode cX8_counts 46 = .ok (.lstore 4, 2) := by decide +kernel
theorem dX8_counts_48 : decode cX8_counts 48 = .ok (.lconst 0, 1) := by decide +kernel
theorem dX8_counts_49 : decode cX8_counts 49 = .ok (.lstore 6, 2) := by decide +kernel
theorem dX8_counts_51 : decode cX8_counts 51 = .ok (.bipush 90, 2) := by decide +kernel
theorem dX8_counts_53 : decode cX8_counts 53 = .ok (.istore 8, 2) := by decide +kernel
theorem dX8_counts_55 : decode cX8_counts 55 = .ok (.iload 8, 2) := by decide +kernel
theorem dX8_counts_57 : decode cX8_counts 57 = .ok (.ifCond .le 36, 3) := by decide +kernel
theorem dX8_counts_60 : decode cX8_counts 60 = .ok (.lload 6, 2) := by decide +kernel
theorem dX8_counts_62 : decode cX8_counts 62 = .ok (.aload_n 0, 1) := by decide +kernel
theorem dX8_counts_63 : decode cX8_counts 63 = .ok (.getfield 83, 3) := by decide +kernel
theorem dX8_counts_66 : decode cX8_counts 66 = .ok (.iload 8, 2) := by decide +kernel
theorem dX8_counts_68 : decode cX8_counts 68 = .ok (.laload, 1) := by decide +kernel
theorem dX8_counts_69 : decode cX8_counts 69 = .ok (.ladd, 1) := by decide +kernel
theorem dX8_counts_70 : decode cX8_counts 70 = .ok (.lstore 6, 2) := by decide +kernel
theorem dX8_counts_72 : decode cX8_counts 72 = .ok (.lload 6, 2) := by decide +kernel
theorem dX8_counts_74 : decode cX8_counts 74 = .ok (.ldc2_w 405, 3) := by decide +kernel
theorem dX8_counts_77 : decode cX8_counts 77 = .ok (.lmul, 1) := by decide +kernel
theorem dX8_counts_78 : decode cX8_counts 78 = .ok (.lload 4, 2) := by decide +kernel
theorem dX8_counts_80 : decode cX8_counts 80 = .ok (.lcmp, 1) := by decide +kernel
theorem dX8_counts_81 : decode cX8_counts 81 = .ok (.ifCond .lt 6, 3) := by decide +kernel
theorem dX8_counts_84 : decode cX8_counts 84 = .ok (.iload 8, 2) := by decide +kernel
theorem dX8_counts_86 : decode cX8_counts 86 = .ok (.ireturn, 1) := by decide +kernel
theorem dX8_counts_87 : decode cX8_counts 87 = .ok (.iinc 8 (-1), 3) := by decide +kernel
theorem dX8_counts_90 : decode cX8_counts 90 = .ok (.goto (-35), 3) := by decide +kernel
theorem dX8_counts_93 : decode cX8_counts 93 = .ok (.iconst 0, 1) := by decide +kernel
theorem dX8_counts_94 : decode cX8_counts 94 = .ok (.ireturn, 1) := by decide +kernel
theorem dX8_told_0 : decode cX8_told 0 = .ok (.iload_n 1, 1) := by decide +kernel
theorem dX8_told_1 : decode cX8_told 1 = .ok (.iload_n 2, 1) := by decide +kernel
theorem dX8_told_2 : decode cX8_told 2 = .ok (.invokestatic 407, 3) := by decide +kernel
theorem dX8_told_5 : decode cX8_told 5 = .ok (.ifCond .ne 5, 3) := by decide +kernel
theorem dX8_told_8 : decode cX8_told 8 = .ok (.iconst (-1), 1) := by decide +kernel
theorem dX8_told_9 : decode cX8_told 9 = .ok (.ireturn, 1) := by decide +kernel
theorem dX8_told_10 : decode cX8_told 10 = .ok (.aload_n 0, 1) := by decide +kernel
theorem dX8_told_11 : decode cX8_told 11 = .ok (.getfield 65, 3) := by decide +kernel
theorem dX8_told_14 : decode cX8_told 14 = .ok (.iload_n 1, 1) := by decide +kernel
theorem dX8_told_15 : decode cX8_told 15 = .ok (.iload_n 2, 1) := by decide +kernel
theorem dX8_told_16 : decode cX8_told 16 = .ok (.invokevirtual 382, 3) := by decide +kernel
theorem dX8_told_19 : decode cX8_told 19 = .ok (.ifCond .eq 13, 3) := by decide +kernel
theorem dX8_told_22 : decode cX8_told 22 = .ok (.aload_n 0, 1) := by decide +kernel
theorem dX8_told_23 : decode cX8_told 23 = .ok (.getfield 65, 3) := by decide +kernel
theorem dX8_told_26 : decode cX8_told 26 = .ok (.getfield 385, 3) := by decide +kernel
theorem dX8_told_29 : decode cX8_told 29 = .ok (.goto 4, 3) := by decide +kernel
theorem dX8_told_32 : decode cX8_told 32 = .ok (.iconst (-1), 1) := by decide +kernel
theorem dX8_told_33 : decode cX8_told 33 = .ok (.ireturn, 1) := by decide +kernel
theorem dX8_canBeTold_0 : decode cX8_canBeTold 0 = .ok (.iload_n 0, 1) := by decide +kernel
theorem dX8_canBeTold_1 : decode cX8_canBeTold 1 = .ok (.tableswitch 114 0 4 #[35, 50, 67, 83, 98], 35) := by decide +kernel
theorem dX8_canBeTold_36 : decode cX8_canBeTold 36 = .ok (.iload_n 1, 1) := by decide +kernel
theorem dX8_canBeTold_37 : decode cX8_canBeTold 37 = .ok (.ifCond .lt 12, 3) := by decide +kernel
theorem dX8_canBeTold_40 : decode cX8_canBeTold 40 = .ok (.iload_n 1, 1) := by decide +kernel
theorem dX8_canBeTold_41 : decode cX8_canBeTold 41 = .ok (.iconst 3, 1) := by decide +kernel
theorem dX8_canBeTold_42 : decode cX8_canBeTold 42 = .ok (.if_icmp .gt 7, 3) := by decide +kernel
theorem dX8_canBeTold_45 : decode cX8_canBeTold 45 = .ok (.iconst 1, 1) := by decide +kernel
theorem dX8_canBeTold_46 : decode cX8_canBeTold 46 = .ok (.goto 4, 3) := by decide +kernel
theorem dX8_canBeTold_49 : decode cX8_canBeTold 49 = .ok (.iconst 0, 1) := by decide +kernel
theorem dX8_canBeTold_50 : decode cX8_canBeTold 50 = .ok (.ireturn, 1) := by decide +kernel
theorem dX8_canBeTold_51 : decode cX8_canBeTold 51 = .ok (.iload_n 1, 1) := by decide +kernel
theorem dX8_canBeTold_52 : decode cX8_canBeTold 52 = .ok (.iconst 1, 1) := by decide +kernel
theorem dX8_canBeTold_53 : decode cX8_canBeTold 53 = .ok (.if_icmp .lt 13, 3) := by decide +kernel
theorem dX8_canBeTold_56 : decode cX8_canBeTold 56 = .ok (.iload_n 1, 1) := by decide +kernel
theorem dX8_canBeTold_57 : decode cX8_canBeTold 57 = .ok (.bipush 9, 2) := by decide +kernel
theorem dX8_canBeTold_59 : decode cX8_canBeTold 59 = .ok (.if_icmp .gt 7, 3) := by decide +kernel
theorem dX8_canBeTold_62 : decode cX8_canBeTold 62 = .ok (.iconst 1, 1) := by decide +kernel
theorem dX8_canBeTold_63 : decode cX8_canBeTold 63 = .ok (.goto 4, 3) := by decide +kernel
theorem dX8_canBeTold_66 : decode cX8_canBeTold 66 = .ok (.iconst 0, 1) := by decide +kernel
theorem dX8_canBeTold_67 : decode cX8_canBeTold 67 = .ok (.ireturn, 1) := by decide +kernel
theorem dX8_canBeTold_68 : decode cX8_canBeTold 68 = .ok (.iload_n 1, 1) := by decide +kernel
theorem dX8_canBeTold_69 : decode cX8_canBeTold 69 = .ok (.ifCond .lt 13, 3) := by decide +kernel
theorem dX8_canBeTold_72 : decode cX8_canBeTold 72 = .ok (.iload_n 1, 1) := by decide +kernel
theorem dX8_canBeTold_73 : decode cX8_canBeTold 73 = .ok (.bipush 99, 2) := by decide +kernel
theorem dX8_canBeTold_75 : decode cX8_canBeTold 75 = .ok (.if_icmp .gt 7, 3) := by decide +kernel
theorem dX8_canBeTold_78 : decode cX8_canBeTold 78 = .ok (.iconst 1, 1) := by decide +kernel
theorem dX8_canBeTold_79 : decode cX8_canBeTold 79 = .ok (.goto 4, 3) := by decide +kernel
theorem dX8_canBeTold_82 : decode cX8_canBeTold 82 = .ok (.iconst 0, 1) := by decide +kernel
theorem dX8_canBeTold_83 : decode cX8_canBeTold 83 = .ok (.ireturn, 1) := by decide +kernel
theorem dX8_canBeTold_84 : decode cX8_canBeTold 84 = .ok (.iload_n 1, 1) := by decide +kernel
theorem dX8_canBeTold_85 : decode cX8_canBeTold 85 = .ok (.ifCond .lt 12, 3) := by decide +kernel
theorem dX8_canBeTold_88 : decode cX8_canBeTold 88 = .ok (.iload_n 1, 1) := by decide +kernel
theorem dX8_canBeTold_89 : decode cX8_canBeTold 89 = .ok (.iconst 1, 1) := by decide +kernel
theorem dX8_canBeTold_90 : decode cX8_canBeTold 90 = .ok (.if_icmp .gt 7, 3) := by decide +kernel
theorem dX8_canBeTold_93 : decode cX8_canBeTold 93 = .ok (.iconst 1, 1) := by decide +kernel
theorem dX8_canBeTold_94 : decode cX8_canBeTold 94 = .ok (.goto 4, 3) := by decide +kernel
theorem dX8_canBeTold_97 : decode cX8_canBeTold 97 = .ok (.iconst 0, 1) := by decide +kernel
theorem dX8_canBeTold_98 : decode cX8_canBeTold 98 = .ok (.ireturn, 1) := by decide +kernel
theorem dX8_canBeTold_99 : decode cX8_canBeTold 99 = .ok (.iload_n 1, 1) := by decide +kernel
theorem dX8_canBeTold_100 : decode cX8_canBeTold 100 = .ok (.ifCond .lt 13, 3) := by decide +kernel
theorem dX8_canBeTold_103 : decode cX8_canBeTold 103 = .ok (.iload_n 1, 1) := by decide +kernel
theorem dX8_canBeTold_104 : decode cX8_canBeTold 104 = .ok (.bipush 9, 2) := by decide +kernel
theorem dX8_canBeTold_106 : decode cX8_canBeTold 106 = .ok (.if_icmp .gt 7, 3) := by decide +kernel
theorem dX8_canBeTold_109 : decode cX8_canBeTold 109 = .ok (.iconst 1, 1) := by decide +kernel
theorem dX8_canBeTold_110 : decode cX8_canBeTold 110 = .ok (.goto 4, 3) := by decide +kernel
theorem dX8_canBeTold_113 : decode cX8_canBeTold 113 = .ok (.iconst 0, 1) := by decide +kernel
theorem dX8_canBeTold_114 : decode cX8_canBeTold 114 = .ok (.ireturn, 1) := by decide +kernel
theorem dX8_canBeTold_115 : decode cX8_canBeTold 115 = .ok (.iconst 0, 1) := by decide +kernel
theorem dX8_canBeTold_116 : decode cX8_canBeTold 116 = .ok (.ireturn, 1) := by decide +kernel
theorem dX8_deny_0 : decode cX8_deny 0 = .ok (.aload_n 0, 1) := by decide +kernel
theorem dX8_deny_1 : decode cX8_deny 1 = .ok (.getfield 65, 3) := by decide +kernel
theorem dX8_deny_4 : decode cX8_deny 4 = .ok (.getfield 385, 3) := by decide +kernel
theorem dX8_deny_7 : decode cX8_deny 7 = .ok (.istore_n 1, 1) := by decide +kernel
theorem dX8_deny_8 : decode cX8_deny 8 = .ok (.aload_n 0, 1) := by decide +kernel
theorem dX8_deny_9 : decode cX8_deny 9 = .ok (.getfield 65, 3) := by decide +kernel
theorem dX8_deny_12 : decode cX8_deny 12 = .ok (.iconst 0, 1) := by decide +kernel
theorem dX8_deny_13 : decode cX8_deny 13 = .ok (.putfield 385, 3) := by decide +kernel
theorem dX8_deny_16 : decode cX8_deny 16 = .ok (.iload_n 1, 1) := by decide +kernel
theorem dX8_deny_17 : decode cX8_deny 17 = .ok (.ireturn, 1) := by decide +kernel
theorem dX8_fits_0 : decode cX8_fits 0 = .ok (.aload_n 0, 1) := by decide +kernel
theorem dX8_fits_1 : decode cX8_fits 1 = .ok (.invokevirtual 410, 3) := by decide +kernel
theorem dX8_fits_4 : decode cX8_fits 4 = .ok (.istore_n 1, 1) := by decide +kernel
theorem dX8_fits_5 : decode cX8_fits 5 = .ok (.aload_n 0, 1) := by decide +kernel
theorem dX8_fits_6 : decode cX8_fits 6 = .ok (.getfield 19, 3) := by decide +kernel
theorem dX8_fits_9 : decode cX8_fits 9 = .ok (.iload_n 1, 1) := by decide +kernel
theorem dX8_fits_10 : decode cX8_fits 10 = .ok (.invokestatic 187, 3) := by decide +kernel
theorem dX8_fits_13 : decode cX8_fits 13 = .ok (.i2l, 1) := by decide +kernel
theorem dX8_fits_14 : decode cX8_fits 14 = .ok (.invokevirtual 299, 3) := by decide +kernel
theorem dX8_fits_17 : decode cX8_fits 17 = .ok (.iload_n 1, 1) := by decide +kernel
theorem dX8_fits_18 : decode cX8_fits 18 = .ok (.ireturn, 1) := by decide +kernel
theorem dX8_suspects_0 : decode cX8_suspects 0 = .ok (.iconst 0, 1) := by decide +kernel
theorem dX8_suspects_1 : decode cX8_suspects 1 = .ok (.istore_n 1, 1) := by decide +kernel
theorem dX8_suspects_2 : decode cX8_suspects 2 = .ok (.iconst 0, 1) := by decide +kernel
theorem dX8_suspects_3 : decode cX8_suspects 3 = .ok (.istore_n 2, 1) := by decide +kernel
theorem dX8_suspects_4 : decode cX8_suspects 4 = .ok (.iload_n 2, 1) := by decide +kernel
theorem dX8_suspects_5 : decode cX8_suspects 5 = .ok (.aload_n 0, 1) := by decide +kernel
theorem dX8_suspects_6 : decode cX8_suspects 6 = .ok (.getfield 26, 3) := by decide +kernel
theorem dX8_suspects_9 : decode cX8_suspects 9 = .ok (.getfield 136, 3) := by decide +kernel
theorem dX8_suspects_12 : decode cX8_suspects 12 = .ok (.if_icmp .ge 80, 3) := by decide +kernel
theorem dX8_suspects_15 : decode cX8_suspects 15 = .ok (.iconst 1, 1) := by decide +kernel
theorem dX8_suspects_16 : decode cX8_suspects 16 = .ok (.istore_n 3, 1) := by decide +kernel
theorem dX8_suspects_17 : decode cX8_suspects 17 = .ok (.iconst 0, 1) := by decide +kernel
theorem dX8_suspects_18 : decode cX8_suspects 18 = .ok (.istore 4, 2) := by decide +kernel
theorem dX8_suspects_20 : decode cX8_suspects 20 = .ok (.iload 4, 2) := by decide +kernel
theorem dX8_suspects_22 : decode cX8_suspects 22 = .ok (.aload_n 0, 1) := by decide +kernel
theorem dX8_suspects_23 : decode cX8_suspects 23 = .ok (.getfield 65, 3) := by decide +kernel
theorem dX8_suspects_26 : decode cX8_suspects 26 = .ok (.getfield 385, 3) := by decide +kernel
theorem dX8_suspects_29 : decode cX8_suspects 29 = .ok (.if_icmp .ge 47, 3) := by decide +kernel
theorem dX8_suspects_32 : decode cX8_suspects 32 = .ok (.iload_n 3, 1) := by decide +kernel
theorem dX8_suspects_33 : decode cX8_suspects 33 = .ok (.ifCond .eq 35, 3) := by decide +kernel
theorem dX8_suspects_36 : decode cX8_suspects 36 = .ok (.aload_n 0, 1) := by decide +kernel
theorem dX8_suspects_37 : decode cX8_suspects 37 = .ok (.iload_n 2, 1) := by decide +kernel
theorem dX8_suspects_38 : decode cX8_suspects 38 = .ok (.aload_n 0, 1) := by decide +kernel
theorem dX8_suspects_39 : decode cX8_suspects 39 = .ok (.getfield 65, 3) := by decide +kernel
theorem dX8_suspects_42 : decode cX8_suspects 42 = .ok (.getfield 389, 3) := by decide +kernel
theorem dX8_suspects_45 : decode cX8_suspects 45 = .ok (.iload 4, 2) := by decide +kernel
theorem dX8_suspects_47 : decode cX8_suspects 47 = .ok (.iaload, 1) := by decide +kernel
theorem dX8_suspects_48 : decode cX8_suspects 48 = .ok (.aload_n 0, 1) := by decide +kernel
theorem dX8_suspects_49 : decode cX8_suspects 49 = .ok (.getfield 65, 3) := by decide +kernel
theorem dX8_suspects_52 : decode cX8_suspects 52 = .ok (.getfield 395, 3) := by decide +kernel
theorem dX8_suspects_55 : decode cX8_suspects 55 = .ok (.iload 4, 2) := by decide +kernel
theorem dX8_suspects_57 : decode cX8_suspects 57 = .ok (.iaload, 1) := by decide +kernel
theorem dX8_suspects_58 : decode cX8_suspects 58 = .ok (.invokevirtual 413, 3) := by decide +kernel
theorem dX8_suspects_61 : decode cX8_suspects 61 = .ok (.ifCond .eq 7, 3) := by decide +kernel
theorem dX8_suspects_64 : decode cX8_suspects 64 = .ok (.iconst 1, 1) := by decide +kernel
theorem dX8_suspects_65 : decode cX8_suspects 65 = .ok (.goto 4, 3) := by decide +kernel
theorem dX8_suspects_68 : decode cX8_suspects 68 = .ok (.iconst 0, 1) := by decide +kernel
theorem dX8_suspects_69 : decode cX8_suspects 69 = .ok (.istore_n 3, 1) := by decide +kernel
theorem dX8_suspects_70 : decode cX8_suspects 70 = .ok (.iinc 4 1, 3) := by decide +kernel
theorem dX8_suspects_73 : decode cX8_suspects 73 = .ok (.goto (-53), 3) := by decide +kernel
theorem dX8_suspects_76 : decode cX8_suspects 76 = .ok (.iload_n 3, 1) := by decide +kernel
theorem dX8_suspects_77 : decode cX8_suspects 77 = .ok (.ifCond .eq 9, 3) := by decide +kernel
theorem dX8_suspects_80 : decode cX8_suspects 80 = .ok (.iload_n 1, 1) := by decide +kernel
theorem dX8_suspects_81 : decode cX8_suspects 81 = .ok (.iconst 1, 1) := by decide +kernel
theorem dX8_suspects_82 : decode cX8_suspects 82 = .ok (.iload_n 2, 1) := by decide +kernel
theorem dX8_suspects_83 : decode cX8_suspects 83 = .ok (.ishl, 1) := by decide +kernel
theorem dX8_suspects_84 : decode cX8_suspects 84 = .ok (.ior, 1) := by decide +kernel
theorem dX8_suspects_85 : decode cX8_suspects 85 = .ok (.istore_n 1, 1) := by decide +kernel
theorem dX8_suspects_86 : decode cX8_suspects 86 = .ok (.iinc 2 1, 3) := by decide +kernel
theorem dX8_suspects_89 : decode cX8_suspects 89 = .ok (.goto (-85), 3) := by decide +kernel
theorem dX8_suspects_92 : decode cX8_suspects 92 = .ok (.iload_n 1, 1) := by decide +kernel
theorem dX8_suspects_93 : decode cX8_suspects 93 = .ok (.ireturn, 1) := by decide +kernel
theorem dX8_isSo_0 : decode cX8_isSo 0 = .ok (.iload_n 2, 1) := by decide +kernel
theorem dX8_isSo_1 : decode cX8_isSo 1 = .ok (.tableswitch 124 0 3 #[31, 50, 69, 88], 31) := by decide +kernel
theorem dX8_isSo_32 : decode cX8_isSo 32 = .ok (.aload_n 0, 1) := by decide +kernel
theorem dX8_isSo_33 : decode cX8_isSo 33 = .ok (.getfield 26, 3) := by decide +kernel
theorem dX8_isSo_36 : decode cX8_isSo 36 = .ok (.getfield 150, 3) := by decide +kernel
theorem dX8_isSo_39 : decode cX8_isSo 39 = .ok (.iload_n 1, 1) := by decide +kernel
theorem dX8_isSo_40 : decode cX8_isSo 40 = .ok (.iaload, 1) := by decide +kernel
theorem dX8_isSo_41 : decode cX8_isSo 41 = .ok (.iload_n 3, 1) := by decide +kernel
theorem dX8_isSo_42 : decode cX8_isSo 42 = .ok (.if_icmp .ne 7, 3) := by decide +kernel
theorem dX8_isSo_45 : decode cX8_isSo 45 = .ok (.iconst 1, 1) := by decide +kernel
theorem dX8_isSo_46 : decode cX8_isSo 46 = .ok (.goto 4, 3) := by decide +kernel
theorem dX8_isSo_49 : decode cX8_isSo 49 = .ok (.iconst 0, 1) := by decide +kernel
theorem dX8_isSo_50 : decode cX8_isSo 50 = .ok (.ireturn, 1) := by decide +kernel
theorem dX8_isSo_51 : decode cX8_isSo 51 = .ok (.aload_n 0, 1) := by decide +kernel
theorem dX8_isSo_52 : decode cX8_isSo 52 = .ok (.getfield 26, 3) := by decide +kernel
theorem dX8_isSo_55 : decode cX8_isSo 55 = .ok (.getfield 153, 3) := by decide +kernel
theorem dX8_isSo_58 : decode cX8_isSo 58 = .ok (.iload_n 1, 1) := by decide +kernel
theorem dX8_isSo_59 : decode cX8_isSo 59 = .ok (.iaload, 1) := by decide +kernel
theorem dX8_isSo_60 : decode cX8_isSo 60 = .ok (.iload_n 3, 1) := by decide +kernel
theorem dX8_isSo_61 : decode cX8_isSo 61 = .ok (.if_icmp .lt 7, 3) := by decide +kernel
theorem dX8_isSo_64 : decode cX8_isSo 64 = .ok (.iconst 1, 1) := by decide +kernel
theorem dX8_isSo_65 : decode cX8_isSo 65 = .ok (.goto 4, 3) := by decide +kernel
theorem dX8_isSo_68 : decode cX8_isSo 68 = .ok (.iconst 0, 1) := by decide +kernel
theorem dX8_isSo_69 : decode cX8_isSo 69 = .ok (.ireturn, 1) := by decide +kernel
theorem dX8_isSo_70 : decode cX8_isSo 70 = .ok (.aload_n 0, 1) := by decide +kernel
theorem dX8_isSo_71 : decode cX8_isSo 71 = .ok (.getfield 33, 3) := by decide +kernel
theorem dX8_isSo_74 : decode cX8_isSo 74 = .ok (.getfield 159, 3) := by decide +kernel
theorem dX8_isSo_77 : decode cX8_isSo 77 = .ok (.iload_n 1, 1) := by decide +kernel
theorem dX8_isSo_78 : decode cX8_isSo 78 = .ok (.iaload, 1) := by decide +kernel
theorem dX8_isSo_79 : decode cX8_isSo 79 = .ok (.iload_n 3, 1) := by decide +kernel
theorem dX8_isSo_80 : decode cX8_isSo 80 = .ok (.if_icmp .gt 7, 3) := by decide +kernel
theorem dX8_isSo_83 : decode cX8_isSo 83 = .ok (.iconst 1, 1) := by decide +kernel
theorem dX8_isSo_84 : decode cX8_isSo 84 = .ok (.goto 4, 3) := by decide +kernel
theorem dX8_isSo_87 : decode cX8_isSo 87 = .ok (.iconst 0, 1) := by decide +kernel
theorem dX8_isSo_88 : decode cX8_isSo 88 = .ok (.ireturn, 1) := by decide +kernel
theorem dX8_isSo_89 : decode cX8_isSo 89 = .ok (.aload_n 0, 1) := by decide +kernel
theorem dX8_isSo_90 : decode cX8_isSo 90 = .ok (.getfield 33, 3) := by decide +kernel
theorem dX8_isSo_93 : decode cX8_isSo 93 = .ok (.getfield 162, 3) := by decide +kernel
theorem dX8_isSo_96 : decode cX8_isSo 96 = .ok (.iload_n 1, 1) := by decide +kernel
theorem dX8_isSo_97 : decode cX8_isSo 97 = .ok (.iaload, 1) := by decide +kernel
theorem dX8_isSo_98 : decode cX8_isSo 98 = .ok (.ifCond .le 7, 3) := by decide +kernel
theorem dX8_isSo_101 : decode cX8_isSo 101 = .ok (.iconst 1, 1) := by decide +kernel
theorem dX8_isSo_102 : decode cX8_isSo 102 = .ok (.goto 4, 3) := by decide +kernel
theorem dX8_isSo_105 : decode cX8_isSo 105 = .ok (.iconst 0, 1) := by decide +kernel
theorem dX8_isSo_106 : decode cX8_isSo 106 = .ok (.iload_n 3, 1) := by decide +kernel
theorem dX8_isSo_107 : decode cX8_isSo 107 = .ok (.iconst 1, 1) := by decide +kernel
theorem dX8_isSo_108 : decode cX8_isSo 108 = .ok (.if_icmp .ne 7, 3) := by decide +kernel
theorem dX8_isSo_111 : decode cX8_isSo 111 = .ok (.iconst 1, 1) := by decide +kernel
theorem dX8_isSo_112 : decode cX8_isSo 112 = .ok (.goto 4, 3) := by decide +kernel
theorem dX8_isSo_115 : decode cX8_isSo 115 = .ok (.iconst 0, 1) := by decide +kernel
theorem dX8_isSo_116 : decode cX8_isSo 116 = .ok (.if_icmp .ne 7, 3) := by decide +kernel
theorem dX8_isSo_119 : decode cX8_isSo 119 = .ok (.iconst 1, 1) := by decide +kernel
theorem dX8_isSo_120 : decode cX8_isSo 120 = .ok (.goto 4, 3) := by decide +kernel
theorem dX8_isSo_123 : decode cX8_isSo 123 = .ok (.iconst 0, 1) := by decide +kernel
theorem dX8_isSo_124 : decode cX8_isSo 124 = .ok (.ireturn, 1) := by decide +kernel
theorem dX8_isSo_125 : decode cX8_isSo 125 = .ok (.aload_n 0, 1) := by decide +kernel
theorem dX8_isSo_126 : decode cX8_isSo 126 = .ok (.getfield 26, 3) := by decide +kernel
theorem dX8_isSo_129 : decode cX8_isSo 129 = .ok (.getfield 156, 3) := by decide +kernel
theorem dX8_isSo_132 : decode cX8_isSo 132 = .ok (.iload_n 1, 1) := by decide +kernel
theorem dX8_isSo_133 : decode cX8_isSo 133 = .ok (.iaload, 1) := by decide +kernel
theorem dX8_isSo_134 : decode cX8_isSo 134 = .ok (.iload_n 3, 1) := by decide +kernel
theorem dX8_isSo_135 : decode cX8_isSo 135 = .ok (.if_icmp .ne 7, 3) := by decide +kernel
theorem dX8_isSo_138 : decode cX8_isSo 138 = .ok (.iconst 1, 1) := by decide +kernel
theorem dX8_isSo_139 : decode cX8_isSo 139 = .ok (.goto 4, 3) := by decide +kernel
theorem dX8_isSo_142 : decode cX8_isSo 142 = .ok (.iconst 0, 1) := by decide +kernel
theorem dX8_isSo_143 : decode cX8_isSo 143 = .ok (.ireturn, 1) := by decide +kernel
theorem dX8_ask_0 : decode cX8_ask 0 = .ok (.aload_n 0, 1) := by decide +kernel
theorem dX8_ask_1 : decode cX8_ask 1 = .ok (.invokevirtual 410, 3) := by decide +kernel
theorem dX8_ask_4 : decode cX8_ask 4 = .ok (.istore_n 1, 1) := by decide +kernel
theorem dX8_ask_5 : decode cX8_ask 5 = .ok (.iload_n 1, 1) := by decide +kernel
theorem dX8_ask_6 : decode cX8_ask 6 = .ok (.invokestatic 187, 3) := by decide +kernel
theorem dX8_ask_9 : decode cX8_ask 9 = .ok (.istore_n 2, 1) := by decide +kernel
theorem dX8_ask_10 : decode cX8_ask 10 = .ok (.iload_n 2, 1) := by decide +kernel
theorem dX8_ask_11 : decode cX8_ask 11 = .ok (.ifCond .ne 6, 3) := by decide +kernel
theorem dX8_ask_14 : decode cX8_ask 14 = .ok (.bipush (-2), 2) := by decide +kernel
theorem dX8_ask_16 : decode cX8_ask 16 = .ok (.ireturn, 1) := by decide +kernel
theorem dX8_ask_17 : decode cX8_ask 17 = .ok (.iconst 0, 1) := by decide +kernel
theorem dX8_ask_18 : decode cX8_ask 18 = .ok (.istore_n 3, 1) := by decide +kernel
theorem dX8_ask_19 : decode cX8_ask 19 = .ok (.iload_n 2, 1) := by decide +kernel
theorem dX8_ask_20 : decode cX8_ask 20 = .ok (.iconst 1, 1) := by decide +kernel
theorem dX8_ask_21 : decode cX8_ask 21 = .ok (.iadd, 1) := by decide +kernel
theorem dX8_ask_22 : decode cX8_ask 22 = .ok (.istore 4, 2) := by decide +kernel
theorem dX8_ask_24 : decode cX8_ask 24 = .ok (.iconst 0, 1) := by decide +kernel
theorem dX8_ask_25 : decode cX8_ask 25 = .ok (.istore 5, 2) := by decide +kernel
theorem dX8_ask_27 : decode cX8_ask 27 = .ok (.iload 5, 2) := by decide +kernel
theorem dX8_ask_29 : decode cX8_ask 29 = .ok (.bipush 9, 2) := by decide +kernel
theorem dX8_ask_31 : decode cX8_ask 31 = .ok (.if_icmp .gt 85, 3) := by decide +kernel
theorem dX8_ask_34 : decode cX8_ask 34 = .ok (.iconst 0, 1) := by decide +kernel
theorem dX8_ask_35 : decode cX8_ask 35 = .ok (.istore 6, 2) := by decide +kernel
theorem dX8_ask_37 : decode cX8_ask 37 = .ok (.iconst 0, 1) := by decide +kernel
theorem dX8_ask_38 : decode cX8_ask 38 = .ok (.istore 7, 2) := by decide +kernel
theorem dX8_ask_40 : decode cX8_ask 40 = .ok (.iload 7, 2) := by decide +kernel
theorem dX8_ask_42 : decode cX8_ask 42 = .ok (.aload_n 0, 1) := by decide +kernel
theorem dX8_ask_43 : decode cX8_ask 43 = .ok (.getfield 26, 3) := by decide +kernel
theorem dX8_ask_46 : decode cX8_ask 46 = .ok (.getfield 136, 3) := by decide +kernel
theorem dX8_ask_49 : decode cX8_ask 49 = .ok (.if_icmp .ge 36, 3) := by decide +kernel
theorem dX8_ask_52 : decode cX8_ask 52 = .ok (.iload_n 1, 1) := by decide +kernel
theorem dX8_ask_53 : decode cX8_ask 53 = .ok (.iload 7, 2) := by decide +kernel
theorem dX8_ask_55 : decode cX8_ask 55 = .ok (.ishr, 1) := by decide +kernel
theorem dX8_ask_56 : decode cX8_ask 56 = .ok (.iconst 1, 1) := by decide +kernel
theorem dX8_ask_57 : decode cX8_ask 57 = .ok (.iand, 1) := by decide +kernel
theorem dX8_ask_58 : decode cX8_ask 58 = .ok (.ifCond .eq 21, 3) := by decide +kernel
theorem dX8_ask_61 : decode cX8_ask 61 = .ok (.aload_n 0, 1) := by decide +kernel
theorem dX8_ask_62 : decode cX8_ask 62 = .ok (.getfield 26, 3) := by decide +kernel
theorem dX8_ask_65 : decode cX8_ask 65 = .ok (.getfield 156, 3) := by decide +kernel
theorem dX8_ask_68 : decode cX8_ask 68 = .ok (.iload 7, 2) := by decide +kernel
theorem dX8_ask_70 : decode cX8_ask 70 = .ok (.iaload, 1) := by decide +kernel
theorem dX8_ask_71 : decode cX8_ask 71 = .ok (.iload 5, 2) := by decide +kernel
theorem dX8_ask_73 : decode cX8_ask 73 = .ok (.if_icmp .gt 6, 3) := by decide +kernel
theorem dX8_ask_76 : decode cX8_ask 76 = .ok (.iinc 6 1, 3) := by decide +kernel
theorem dX8_ask_79 : decode cX8_ask 79 = .ok (.iinc 7 1, 3) := by decide +kernel
theorem dX8_ask_82 : decode cX8_ask 82 = .ok (.goto (-42), 3) := by decide +kernel
theorem dX8_ask_85 : decode cX8_ask 85 = .ok (.iload 6, 2) := by decide +kernel
theorem dX8_ask_87 : decode cX8_ask 87 = .ok (.iload_n 2, 1) := by decide +kernel
theorem dX8_ask_88 : decode cX8_ask 88 = .ok (.iload 6, 2) := by decide +kernel
theorem dX8_ask_90 : decode cX8_ask 90 = .ok (.isub, 1) := by decide +kernel
theorem dX8_ask_91 : decode cX8_ask 91 = .ok (.invokestatic 209, 3) := by decide +kernel
theorem dX8_ask_94 : decode cX8_ask 94 = .ok (.istore 7, 2) := by decide +kernel
theorem dX8_ask_96 : decode cX8_ask 96 = .ok (.iload 7, 2) := by decide +kernel
theorem dX8_ask_98 : decode cX8_ask 98 = .ok (.iload 4, 2) := by decide +kernel
theorem dX8_ask_100 : decode cX8_ask 100 = .ok (.if_icmp .ge 10, 3) := by decide +kernel
theorem dX8_ask_103 : decode cX8_ask 103 = .ok (.iload 5, 2) := by decide +kernel
theorem dX8_ask_105 : decode cX8_ask 105 = .ok (.istore_n 3, 1) := by decide +kernel
theorem dX8_ask_106 : decode cX8_ask 106 = .ok (.iload 7, 2) := by decide +kernel
theorem dX8_ask_108 : decode cX8_ask 108 = .ok (.istore 4, 2) := by decide +kernel
theorem dX8_ask_110 : decode cX8_ask 110 = .ok (.iinc 5 1, 3) := by decide +kernel
theorem dX8_ask_113 : decode cX8_ask 113 = .ok (.goto (-86), 3) := by decide +kernel
theorem dX8_ask_116 : decode cX8_ask 116 = .ok (.aload_n 0, 1) := by decide +kernel
theorem dX8_ask_117 : decode cX8_ask 117 = .ok (.getfield 19, 3) := by decide +kernel
theorem dX8_ask_120 : decode cX8_ask 120 = .ok (.iload 4, 2) := by decide +kernel
theorem dX8_ask_122 : decode cX8_ask 122 = .ok (.i2l, 1) := by decide +kernel
theorem dX8_ask_123 : decode cX8_ask 123 = .ok (.invokevirtual 299, 3) := by decide +kernel
theorem dX8_ask_126 : decode cX8_ask 126 = .ok (.iload_n 3, 1) := by decide +kernel
theorem dX8_ask_127 : decode cX8_ask 127 = .ok (.ireturn, 1) := by decide +kernel
theorem dX8_rests_0 : decode cX8_rests 0 = .ok (.iload_n 1, 1) := by decide +kernel
theorem dX8_rests_1 : decode cX8_rests 1 = .ok (.ifCond .lt 27, 3) := by decide +kernel
theorem dX8_rests_4 : decode cX8_rests 4 = .ok (.iload_n 1, 1) := by decide +kernel
theorem dX8_rests_5 : decode cX8_rests 5 = .ok (.bipush 20, 2) := by decide +kernel
theorem dX8_rests_7 : decode cX8_rests 7 = .ok (.if_icmp .gt 21, 3) := by decide +kernel
theorem dX8_rests_10 : decode cX8_rests 10 = .ok (.iload_n 2, 1) := by decide +kernel
theorem dX8_rests_11 : decode cX8_rests 11 = .ok (.ifCond .lt 17, 3) := by decide +kernel
theorem dX8_rests_14 : decode cX8_rests 14 = .ok (.iload_n 2, 1) := by decide +kernel
theorem dX8_rests_15 : decode cX8_rests 15 = .ok (.iconst 5, 1) := by decide +kernel
theorem dX8_rests_16 : decode cX8_rests 16 = .ok (.if_icmp .gt 12, 3) := by decide +kernel
theorem dX8_rests_19 : decode cX8_rests 19 = .ok (.iload_n 3, 1) := by decide +kernel
theorem dX8_rests_20 : decode cX8_rests 20 = .ok (.ifCond .lt 8, 3) := by decide +kernel
theorem dX8_rests_23 : decode cX8_rests 23 = .ok (.iload_n 3, 1) := by decide +kernel
theorem dX8_rests_24 : decode cX8_rests 24 = .ok (.iconst 5, 1) := by decide +kernel
theorem dX8_rests_25 : decode cX8_rests 25 = .ok (.if_icmp .le 5, 3) := by decide +kernel
theorem dX8_rests_28 : decode cX8_rests 28 = .ok (.iconst (-1), 1) := by decide +kernel
theorem dX8_rests_29 : decode cX8_rests 29 = .ok (.ireturn, 1) := by decide +kernel
theorem dX8_rests_30 : decode cX8_rests 30 = .ok (.iconst 0, 1) := by decide +kernel
theorem dX8_rests_31 : decode cX8_rests 31 = .ok (.istore 4, 2) := by decide +kernel
theorem dX8_rests_33 : decode cX8_rests 33 = .ok (.aload_n 0, 1) := by decide +kernel
theorem dX8_rests_34 : decode cX8_rests 34 = .ok (.getfield 19, 3) := by decide +kernel
theorem dX8_rests_37 : decode cX8_rests 37 = .ok (.invokevirtual 328, 3) := by decide +kernel
theorem dX8_rests_40 : decode cX8_rests 40 = .ok (.iconst 0, 1) := by decide +kernel
theorem dX8_rests_41 : decode cX8_rests 41 = .ok (.istore 5, 2) := by decide +kernel
theorem dX8_rests_43 : decode cX8_rests 43 = .ok (.iload 5, 2) := by decide +kernel
theorem dX8_rests_45 : decode cX8_rests 45 = .ok (.bipush 9, 2) := by decide +kernel
theorem dX8_rests_47 : decode cX8_rests 47 = .ok (.if_icmp .gt 70, 3) := by decide +kernel
theorem dX8_rests_50 : decode cX8_rests 50 = .ok (.iconst 0, 1) := by decide +kernel
theorem dX8_rests_51 : decode cX8_rests 51 = .ok (.istore 6, 2) := by decide +kernel
theorem dX8_rests_53 : decode cX8_rests 53 = .ok (.iload 6, 2) := by decide +kernel
theorem dX8_rests_55 : decode cX8_rests 55 = .ok (.bipush 9, 2) := by decide +kernel
theorem dX8_rests_57 : decode cX8_rests 57 = .ok (.if_icmp .gt 54, 3) := by decide +kernel
theorem dX8_rests_60 : decode cX8_rests 60 = .ok (.iload_n 1, 1) := by decide +kernel
theorem dX8_rests_61 : decode cX8_rests 61 = .ok (.iload_n 2, 1) := by decide +kernel
theorem dX8_rests_62 : decode cX8_rests 62 = .ok (.iload 5, 2) := by decide +kernel
theorem dX8_rests_64 : decode cX8_rests 64 = .ok (.iload 6, 2) := by decide +kernel
theorem dX8_rests_66 : decode cX8_rests 66 = .ok (.invokestatic 416, 3) := by decide +kernel
theorem dX8_rests_69 : decode cX8_rests 69 = .ok (.ifCond .eq 36, 3) := by decide +kernel
theorem dX8_rests_72 : decode cX8_rests 72 = .ok (.iload_n 1, 1) := by decide +kernel
theorem dX8_rests_73 : decode cX8_rests 73 = .ok (.iload_n 3, 1) := by decide +kernel
theorem dX8_rests_74 : decode cX8_rests 74 = .ok (.iload 6, 2) := by decide +kernel
theorem dX8_rests_76 : decode cX8_rests 76 = .ok (.iload 5, 2) := by decide +kernel
theorem dX8_rests_78 : decode cX8_rests 78 = .ok (.invokestatic 416, 3) := by decide +kernel
theorem dX8_rests_81 : decode cX8_rests 81 = .ok (.ifCond .eq 24, 3) := by decide +kernel
theorem dX8_rests_84 : decode cX8_rests 84 = .ok (.iload 4, 2) := by decide +kernel
theorem dX8_rests_86 : decode cX8_rests 86 = .ok (.ifCond .ne 16, 3) := by decide +kernel
theorem dX8_rests_89 : decode cX8_rests 89 = .ok (.aload_n 0, 1) := by decide +kernel
theorem dX8_rests_90 : decode cX8_rests 90 = .ok (.getfield 19, 3) := by decide +kernel
theorem dX8_rests_93 : decode cX8_rests 93 = .ok (.iload 5, 2) := by decide +kernel
theorem dX8_rests_95 : decode cX8_rests 95 = .ok (.i2l, 1) := by decide +kernel
theorem dX8_rests_96 : decode cX8_rests 96 = .ok (.iload 6, 2) := by decide +kernel
theorem dX8_rests_98 : decode cX8_rests 98 = .ok (.i2l, 1) := by decide +kernel
theorem dX8_rests_99 : decode cX8_rests 99 = .ok (.invokevirtual 229, 3) := by decide +kernel
theorem dX8_rests_102 : decode cX8_rests 102 = .ok (.iinc 4 1, 3) := by decide +kernel
theorem dX8_rests_105 : decode cX8_rests 105 = .ok (.iinc 6 1, 3) := by decide +kernel
theorem dX8_rests_108 : decode cX8_rests 108 = .ok (.goto (-55), 3) := by decide +kernel
theorem dX8_rests_111 : decode cX8_rests 111 = .ok (.iinc 5 1, 3) := by decide +kernel
theorem dX8_rests_114 : decode cX8_rests 114 = .ok (.goto (-71), 3) := by decide +kernel
theorem dX8_rests_117 : decode cX8_rests 117 = .ok (.iload 4, 2) := by decide +kernel
theorem dX8_rests_119 : decode cX8_rests 119 = .ok (.ireturn, 1) := by decide +kernel
theorem dX8_content_0 : decode cX8_content 0 = .ok (.iload_n 0, 1) := by decide +kernel
theorem dX8_content_1 : decode cX8_content 1 = .ok (.iload_n 1, 1) := by decide +kernel
theorem dX8_content_2 : decode cX8_content 2 = .ok (.iload_n 2, 1) := by decide +kernel
theorem dX8_content_3 : decode cX8_content 3 = .ok (.iload_n 3, 1) := by decide +kernel
theorem dX8_content_4 : decode cX8_content 4 = .ok (.invokestatic 420, 3) := by decide +kernel
theorem dX8_content_7 : decode cX8_content 7 = .ok (.istore 4, 2) := by decide +kernel
theorem dX8_content_9 : decode cX8_content 9 = .ok (.iconst 0, 1) := by decide +kernel
theorem dX8_content_10 : decode cX8_content 10 = .ok (.istore 5, 2) := by decide +kernel
theorem dX8_content_12 : decode cX8_content 12 = .ok (.iload 5, 2) := by decide +kernel
theorem dX8_content_14 : decode cX8_content 14 = .ok (.bipush 9, 2) := by decide +kernel
theorem dX8_content_16 : decode cX8_content 16 = .ok (.if_icmp .gt 24, 3) := by decide +kernel
theorem dX8_content_19 : decode cX8_content 19 = .ok (.iload_n 0, 1) := by decide +kernel
theorem dX8_content_20 : decode cX8_content 20 = .ok (.iload_n 1, 1) := by decide +kernel
theorem dX8_content_21 : decode cX8_content 21 = .ok (.iload 5, 2) := by decide +kernel
theorem dX8_content_23 : decode cX8_content 23 = .ok (.iload_n 3, 1) := by decide +kernel
theorem dX8_content_24 : decode cX8_content 24 = .ok (.invokestatic 420, 3) := by decide +kernel
theorem dX8_content_27 : decode cX8_content 27 = .ok (.iload 4, 2) := by decide +kernel
theorem dX8_content_29 : decode cX8_content 29 = .ok (.if_icmp .le 5, 3) := by decide +kernel
theorem dX8_content_32 : decode cX8_content 32 = .ok (.iconst 0, 1) := by decide +kernel
theorem dX8_content_33 : decode cX8_content 33 = .ok (.ireturn, 1) := by decide +kernel
theorem dX8_content_34 : decode cX8_content 34 = .ok (.iinc 5 1, 3) := by decide +kernel
theorem dX8_content_37 : decode cX8_content 37 = .ok (.goto (-25), 3) := by decide +kernel
theorem dX8_content_40 : decode cX8_content 40 = .ok (.iconst 1, 1) := by decide +kernel
theorem dX8_content_41 : decode cX8_content 41 = .ok (.ireturn, 1) := by decide +kernel
theorem dX8_had_0 : decode cX8_had 0 = .ok (.iload_n 2, 1) := by decide +kernel
theorem dX8_had_1 : decode cX8_had 1 = .ok (.iload_n 3, 1) := by decide +kernel
theorem dX8_had_2 : decode cX8_had 2 = .ok (.iadd, 1) := by decide +kernel
theorem dX8_had_3 : decode cX8_had 3 = .ok (.bipush 9, 2) := by decide +kernel
theorem dX8_had_5 : decode cX8_had 5 = .ok (.if_icmp .lt 7, 3) := by decide +kernel
theorem dX8_had_8 : decode cX8_had 8 = .ok (.iload_n 0, 1) := by decide +kernel
theorem dX8_had_9 : decode cX8_had 9 = .ok (.goto 6, 3) := by decide +kernel
theorem dX8_had_12 : decode cX8_had 12 = .ok (.iload_n 0, 1) := by decide +kernel
theorem dX8_had_13 : decode cX8_had 13 = .ok (.iconst 2, 1) := by decide +kernel
theorem dX8_had_14 : decode cX8_had 14 = .ok (.idiv, 1) := by decide +kernel
theorem dX8_had_15 : decode cX8_had 15 = .ok (.iload_n 1, 1) := by decide +kernel
theorem dX8_had_16 : decode cX8_had 16 = .ok (.iload_n 2, 1) := by decide +kernel
theorem dX8_had_17 : decode cX8_had 17 = .ok (.imul, 1) := by decide +kernel
theorem dX8_had_18 : decode cX8_had 18 = .ok (.isub, 1) := by decide +kernel
theorem dX8_had_19 : decode cX8_had 19 = .ok (.ireturn, 1) := by decide +kernel
theorem dX8_law_0 : decode cX8_law 0 = .ok (.aload_n 0, 1) := by decide +kernel
theorem dX8_law_1 : decode cX8_law 1 = .ok (.getfield 99, 3) := by decide +kernel
theorem dX8_law_4 : decode cX8_law 4 = .ok (.aload_n 0, 1) := by decide +kernel
theorem dX8_law_5 : decode cX8_law 5 = .ok (.getfield 10, 3) := by decide +kernel
theorem dX8_law_8 : decode cX8_law 8 = .ok (.invokevirtual 168, 3) := by decide +kernel
theorem dX8_law_11 : decode cX8_law 11 = .ok (.istore_n 1, 1) := by decide +kernel
theorem dX8_law_12 : decode cX8_law 12 = .ok (.aload_n 0, 1) := by decide +kernel
theorem dX8_law_13 : decode cX8_law 13 = .ok (.getfield 10, 3) := by decide +kernel
theorem dX8_law_16 : decode cX8_law 16 = .ok (.iconst 0, 1) := by decide +kernel
theorem dX8_law_17 : decode cX8_law 17 = .ok (.putfield 107, 3) := by decide +kernel
theorem dX8_law_20 : decode cX8_law 20 = .ok (.iload_n 1, 1) := by decide +kernel
theorem dX8_law_21 : decode cX8_law 21 = .ok (.iconst (-1), 1) := by decide +kernel
theorem dX8_law_22 : decode cX8_law 22 = .ok (.if_icmp .eq 9, 3) := by decide +kernel
theorem dX8_law_25 : decode cX8_law 25 = .ok (.sipush (-10000), 3) := by decide +kernel
theorem dX8_law_28 : decode cX8_law 28 = .ok (.iload_n 1, 1) := by decide +kernel
theorem dX8_law_29 : decode cX8_law 29 = .ok (.isub, 1) := by decide +kernel
theorem dX8_law_30 : decode cX8_law 30 = .ok (.ireturn, 1) := by decide +kernel
theorem dX8_law_31 : decode cX8_law 31 = .ok (.aload_n 0, 1) := by decide +kernel
theorem dX8_law_32 : decode cX8_law 32 = .ok (.bipush 20, 2) := by decide +kernel
theorem dX8_law_34 : decode cX8_law 34 = .ok (.aload_n 0, 1) := by decide +kernel
theorem dX8_law_35 : decode cX8_law 35 = .ok (.getfield 99, 3) := by decide +kernel
theorem dX8_law_38 : decode cX8_law 38 = .ok (.invokevirtual 295, 3) := by decide +kernel
theorem dX8_law_41 : decode cX8_law 41 = .ok (.istore_n 2, 1) := by decide +kernel
theorem dX8_law_42 : decode cX8_law 42 = .ok (.aload_n 0, 1) := by decide +kernel
theorem dX8_law_43 : decode cX8_law 43 = .ok (.bipush 20, 2) := by decide +kernel
theorem dX8_law_45 : decode cX8_law 45 = .ok (.aload_n 0, 1) := by decide +kernel
theorem dX8_law_46 : decode cX8_law 46 = .ok (.getfield 26, 3) := by decide +kernel
theorem dX8_law_49 : decode cX8_law 49 = .ok (.getfield 172, 3) := by decide +kernel
theorem dX8_law_52 : decode cX8_law 52 = .ok (.invokevirtual 295, 3) := by decide +kernel
theorem dX8_law_55 : decode cX8_law 55 = .ok (.istore_n 3, 1) := by decide +kernel
theorem dX8_law_56 : decode cX8_law 56 = .ok (.aload_n 0, 1) := by decide +kernel
theorem dX8_law_57 : decode cX8_law 57 = .ok (.getfield 19, 3) := by decide +kernel
theorem dX8_law_60 : decode cX8_law 60 = .ok (.iload_n 2, 1) := by decide +kernel
theorem dX8_law_61 : decode cX8_law 61 = .ok (.i2l, 1) := by decide +kernel
theorem dX8_law_62 : decode cX8_law 62 = .ok (.iload_n 3, 1) := by decide +kernel
theorem dX8_law_63 : decode cX8_law 63 = .ok (.i2l, 1) := by decide +kernel
theorem dX8_law_64 : decode cX8_law 64 = .ok (.invokevirtual 229, 3) := by decide +kernel
theorem dX8_law_67 : decode cX8_law 67 = .ok (.iload_n 2, 1) := by decide +kernel
theorem dX8_law_68 : decode cX8_law 68 = .ok (.iload_n 3, 1) := by decide +kernel
theorem dX8_law_69 : decode cX8_law 69 = .ok (.isub, 1) := by decide +kernel
theorem dX8_law_70 : decode cX8_law 70 = .ok (.ireturn, 1) := by decide +kernel
theorem dX8_years_0 : decode cX8_years 0 = .ok (.iload_n 2, 1) := by decide +kernel
theorem dX8_years_1 : decode cX8_years 1 = .ok (.iconst 1, 1) := by decide +kernel
theorem dX8_years_2 : decode cX8_years 2 = .ok (.if_icmp .lt 9, 3) := by decide +kernel
theorem dX8_years_5 : decode cX8_years 5 = .ok (.iload_n 2, 1) := by decide +kernel
theorem dX8_years_6 : decode cX8_years 6 = .ok (.bipush 60, 2) := by decide +kernel
theorem dX8_years_8 : decode cX8_years 8 = .ok (.if_icmp .le 5, 3) := by decide +kernel
theorem dX8_years_11 : decode cX8_years 11 = .ok (.iconst (-1), 1) := by decide +kernel
theorem dX8_years_12 : decode cX8_years 12 = .ok (.ireturn, 1) := by decide +kernel
theorem dX8_years_13 : decode cX8_years 13 = .ok (.aload_n 0, 1) := by decide +kernel
theorem dX8_years_14 : decode cX8_years 14 = .ok (.getfield 40, 3) := by decide +kernel
theorem dX8_years_17 : decode cX8_years 17 = .ok (.aload_n 0, 1) := by decide +kernel
theorem dX8_years_18 : decode cX8_years 18 = .ok (.getfield 33, 3) := by decide +kernel
theorem dX8_years_21 : decode cX8_years 21 = .ok (.invokevirtual 212, 3) := by decide +kernel
theorem dX8_years_24 : decode cX8_years 24 = .ok (.aload_n 0, 1) := by decide +kernel
theorem dX8_years_25 : decode cX8_years 25 = .ok (.iload_n 1, 1) := by decide +kernel
theorem dX8_years_26 : decode cX8_years 26 = .ok (.putfield 424, 3) := by decide +kernel
theorem dX8_years_29 : decode cX8_years 29 = .ok (.iconst 0, 1) := by decide +kernel
theorem dX8_years_30 : decode cX8_years 30 = .ok (.istore_n 3, 1) := by decide +kernel
theorem dX8_years_31 : decode cX8_years 31 = .ok (.iload_n 3, 1) := by decide +kernel
theorem dX8_years_32 : decode cX8_years 32 = .ok (.iload_n 2, 1) := by decide +kernel
theorem dX8_years_33 : decode cX8_years 33 = .ok (.if_icmp .ge 13, 3) := by decide +kernel
theorem dX8_years_36 : decode cX8_years 36 = .ok (.aload_n 0, 1) := by decide +kernel
theorem dX8_years_37 : decode cX8_years 37 = .ok (.invokevirtual 427, 3) := by decide +kernel
theorem dX8_years_40 : decode cX8_years 40 = .ok (.iinc 3 1, 3) := by decide +kernel
theorem dX8_years_43 : decode cX8_years 43 = .ok (.goto (-12), 3) := by decide +kernel
theorem dX8_years_46 : decode cX8_years 46 = .ok (.aload_n 0, 1) := by decide +kernel
theorem dX8_years_47 : decode cX8_years 47 = .ok (.getfield 19, 3) := by decide +kernel
theorem dX8_years_50 : decode cX8_years 50 = .ok (.aload_n 0, 1) := by decide +kernel
theorem dX8_years_51 : decode cX8_years 51 = .ok (.getfield 40, 3) := by decide +kernel
theorem dX8_years_54 : decode cX8_years 54 = .ok (.getfield 223, 3) := by decide +kernel
theorem dX8_years_57 : decode cX8_years 57 = .ok (.i2l, 1) := by decide +kernel
theorem dX8_years_58 : decode cX8_years 58 = .ok (.aload_n 0, 1) := by decide +kernel
theorem dX8_years_59 : decode cX8_years 59 = .ok (.getfield 40, 3) := by decide +kernel
theorem dX8_years_62 : decode cX8_years 62 = .ok (.aload_n 0, 1) := by decide +kernel
theorem dX8_years_63 : decode cX8_years 63 = .ok (.getfield 26, 3) := by decide +kernel
theorem dX8_years_66 : decode cX8_years 66 = .ok (.getfield 136, 3) := by decide +kernel
theorem dX8_years_69 : decode cX8_years 69 = .ok (.invokevirtual 206, 3) := by decide +kernel
theorem dX8_years_72 : decode cX8_years 72 = .ok (.i2l, 1) := by decide +kernel
theorem dX8_years_73 : decode cX8_years 73 = .ok (.invokevirtual 229, 3) := by decide +kernel
theorem dX8_years_76 : decode cX8_years 76 = .ok (.aload_n 0, 1) := by decide +kernel
theorem dX8_years_77 : decode cX8_years 77 = .ok (.getfield 40, 3) := by decide +kernel
theorem dX8_years_80 : decode cX8_years 80 = .ok (.getfield 256, 3) := by decide +kernel
theorem dX8_years_83 : decode cX8_years 83 = .ok (.ireturn, 1) := by decide +kernel
theorem dX8_drawYear_0 : decode cX8_drawYear 0 = .ok (.aload_n 0, 1) := by decide +kernel
theorem dX8_drawYear_1 : decode cX8_drawYear 1 = .ok (.iconst 4, 1) := by decide +kernel
theorem dX8_drawYear_2 : decode cX8_drawYear 2 = .ok (.invokevirtual 430, 3) := by decide +kernel
theorem dX8_drawYear_5 : decode cX8_drawYear 5 = .ok (.istore_n 1, 1) := by decide +kernel
theorem dX8_drawYear_6 : decode cX8_drawYear 6 = .ok (.iload_n 1, 1) := by decide +kernel
theorem dX8_drawYear_7 : decode cX8_drawYear 7 = .ok (.iconst 2, 1) := by decide +kernel
theorem dX8_drawYear_8 : decode cX8_drawYear 8 = .ok (.if_icmp .ge 24, 3) := by decide +kernel
theorem dX8_drawYear_11 : decode cX8_drawYear 11 = .ok (.aload_n 0, 1) := by decide +kernel
theorem dX8_drawYear_12 : decode cX8_drawYear 12 = .ok (.getfield 26, 3) := by decide +kernel
theorem dX8_drawYear_15 : decode cX8_drawYear 15 = .ok (.aload_n 0, 1) := by decide +kernel
theorem dX8_drawYear_16 : decode cX8_drawYear 16 = .ok (.getfield 40, 3) := by decide +kernel
theorem dX8_drawYear_19 : decode cX8_drawYear 19 = .ok (.aload_n 0, 1) := by decide +kernel
theorem dX8_drawYear_20 : decode cX8_drawYear 20 = .ok (.getfield 26, 3) := by decide +kernel
theorem dX8_drawYear_23 : decode cX8_drawYear 23 = .ok (.getfield 172, 3) := by decide +kernel
theorem dX8_drawYear_26 : decode cX8_drawYear 26 = .ok (.invokevirtual 252, 3) := by decide +kernel
theorem dX8_drawYear_29 : decode cX8_drawYear 29 = .ok (.goto 61, 3) := by decide +kernel
theorem dX8_drawYear_32 : decode cX8_drawYear 32 = .ok (.aload_n 0, 1) := by decide +kernel
theorem dX8_drawYear_33 : decode cX8_drawYear 33 = .ok (.getfield 26, 3) := by decide +kernel
theorem dX8_drawYear_36 : decode cX8_drawYear 36 = .ok (.getfield 136, 3) := by decide +kernel
theorem dX8_drawYear_39 : decode cX8_drawYear 39 = .ok (.ifCond .le 51, 3) := by decide +kernel
theorem dX8_drawYear_42 : decode cX8_drawYear 42 = .ok (.aload_n 0, 1) := by decide +kernel
theorem dX8_drawYear_43 : decode cX8_drawYear 43 = .ok (.aload_n 0, 1) := by decide +kernel
theorem dX8_drawYear_44 : decode cX8_drawYear 44 = .ok (.getfield 26, 3) := by decide +kernel
theorem dX8_drawYear_47 : decode cX8_drawYear 47 = .ok (.getfield 136, 3) := by decide +kernel
theorem dX8_drawYear_50 : decode cX8_drawYear 50 = .ok (.invokevirtual 430, 3) := by decide +kernel
theorem dX8_drawYear_53 : decode cX8_drawYear 53 = .ok (.istore_n 2, 1) := by decide +kernel
theorem dX8_drawYear_54 : decode cX8_drawYear 54 = .ok (.iload_n 1, 1) := by decide +kernel
theorem dX8_drawYear_55 : decode cX8_drawYear 55 = .ok (.iconst 2, 1) := by decide +kernel
theorem dX8_drawYear_56 : decode cX8_drawYear 56 = .ok (.if_icmp .ne 16, 3) := by decide +kernel
theorem dX8_drawYear_59 : decode cX8_drawYear 59 = .ok (.aload_n 0, 1) := by decide +kernel
theorem dX8_drawYear_60 : decode cX8_drawYear 60 = .ok (.aload_n 0, 1) := by decide +kernel
theorem dX8_drawYear_61 : decode cX8_drawYear 61 = .ok (.getfield 40, 3) := by decide +kernel
theorem dX8_drawYear_64 : decode cX8_drawYear 64 = .ok (.iload_n 2, 1) := by decide +kernel
theorem dX8_drawYear_65 : decode cX8_drawYear 65 = .ok (.invokevirtual 233, 3) := by decide +kernel
theorem dX8_drawYear_68 : decode cX8_drawYear 68 = .ok (.pop, 1) := by decide +kernel
theorem dX8_drawYear_69 : decode cX8_drawYear 69 = .ok (.goto 21, 3) := by decide +kernel
theorem dX8_drawYear_72 : decode cX8_drawYear 72 = .ok (.aload_n 0, 1) := by decide +kernel
theorem dX8_drawYear_73 : decode cX8_drawYear 73 = .ok (.aload_n 0, 1) := by decide +kernel
theorem dX8_drawYear_74 : decode cX8_drawYear 74 = .ok (.getfield 40, 3) := by decide +kernel
theorem dX8_drawYear_77 : decode cX8_drawYear 77 = .ok (.iload_n 2, 1) := by decide +kernel
theorem dX8_drawYear_78 : decode cX8_drawYear 78 = .ok (.aload_n 0, 1) := by decide +kernel
theorem dX8_drawYear_79 : decode cX8_drawYear 79 = .ok (.bipush 9, 2) := by decide +kernel
theorem dX8_drawYear_81 : decode cX8_drawYear 81 = .ok (.invokevirtual 430, 3) := by decide +kernel
theorem dX8_drawYear_84 : decode cX8_drawYear 84 = .ok (.iconst 1, 1) := by decide +kernel
theorem dX8_drawYear_85 : decode cX8_drawYear 85 = .ok (.iadd, 1) := by decide +kernel
theorem dX8_drawYear_86 : decode cX8_drawYear 86 = .ok (.invokevirtual 239, 3) := by decide +kernel
theorem dX8_drawYear_89 : decode cX8_drawYear 89 = .ok (.pop, 1) := by decide +kernel
theorem dX8_drawYear_90 : decode cX8_drawYear 90 = .ok (.return_, 1) := by decide +kernel
theorem dX8_draw_0 : decode cX8_draw 0 = .ok (.aload_n 0, 1) := by decide +kernel
theorem dX8_draw_1 : decode cX8_draw 1 = .ok (.aload_n 0, 1) := by decide +kernel
theorem dX8_draw_2 : decode cX8_draw 2 = .ok (.getfield 424, 3) := by decide +kernel
theorem dX8_draw_5 : decode cX8_draw 5 = .ok (.ldc_w 433, 3) := by decide +kernel
theorem dX8_draw_8 : decode cX8_draw 8 = .ok (.imul, 1) := by decide +kernel
theorem dX8_draw_9 : decode cX8_draw 9 = .ok (.sipush 12345, 3) := by decide +kernel
theorem dX8_draw_12 : decode cX8_draw 12 = .ok (.iadd, 1) := by decide +kernel
theorem dX8_draw_13 : decode cX8_draw 13 = .ok (.putfield 424, 3) := by decide +kernel
theorem dX8_draw_16 : decode cX8_draw 16 = .ok (.iload_n 1, 1) := by decide +kernel
theorem dX8_draw_17 : decode cX8_draw 17 = .ok (.ifCond .le 15, 3) := by decide +kernel
theorem dX8_draw_20 : decode cX8_draw 20 = .ok (.aload_n 0, 1) := by decide +kernel
theorem dX8_draw_21 : decode cX8_draw 21 = .ok (.getfield 424, 3) := by decide +kernel
theorem dX8_draw_24 : decode cX8_draw 24 = .ok (.bipush 16, 2) := by decide +kernel
theorem dX8_draw_26 : decode cX8_draw 26 = .ok (.iushr, 1) := by decide +kernel
theorem dX8_draw_27 : decode cX8_draw 27 = .ok (.iload_n 1, 1) := by decide +kernel
theorem dX8_draw_28 : decode cX8_draw 28 = .ok (.irem, 1) := by decide +kernel
theorem dX8_draw_29 : decode cX8_draw 29 = .ok (.goto 4, 3) := by decide +kernel
theorem dX8_draw_32 : decode cX8_draw 32 = .ok (.iconst 0, 1) := by decide +kernel
theorem dX8_draw_33 : decode cX8_draw 33 = .ok (.ireturn, 1) := by decide +kernel
theorem dX8_keep_0 : decode cX8_keep 0 = .ok (.iload_n 1, 1) := by decide +kernel
theorem dX8_keep_1 : decode cX8_keep 1 = .ok (.ifCond .lt 8, 3) := by decide +kernel
theorem dX8_keep_4 : decode cX8_keep 4 = .ok (.iload_n 1, 1) := by decide +kernel
theorem dX8_keep_5 : decode cX8_keep 5 = .ok (.iconst 2, 1) := by decide +kernel
theorem dX8_keep_6 : decode cX8_keep 6 = .ok (.if_icmp .lt 5, 3) := by decide +kernel
theorem dX8_keep_9 : decode cX8_keep 9 = .ok (.iconst 0, 1) := by decide +kernel
theorem dX8_keep_10 : decode cX8_keep 10 = .ok (.ireturn, 1) := by decide +kernel
theorem dX8_keep_11 : decode cX8_keep 11 = .ok (.aload_n 0, 1) := by decide +kernel
theorem dX8_keep_12 : decode cX8_keep 12 = .ok (.getfield 50, 3) := by decide +kernel
theorem dX8_keep_15 : decode cX8_keep 15 = .ok (.iload_n 1, 1) := by decide +kernel
theorem dX8_keep_16 : decode cX8_keep 16 = .ok (.aaload, 1) := by decide +kernel
theorem dX8_keep_17 : decode cX8_keep 17 = .ok (.aload_n 0, 1) := by decide +kernel
theorem dX8_keep_18 : decode cX8_keep 18 = .ok (.getfield 33, 3) := by decide +kernel
theorem dX8_keep_21 : decode cX8_keep 21 = .ok (.invokevirtual 212, 3) := by decide +kernel
theorem dX8_keep_24 : decode cX8_keep 24 = .ok (.aload_n 0, 1) := by decide +kernel
theorem dX8_keep_25 : decode cX8_keep 25 = .ok (.getfield 54, 3) := by decide +kernel
theorem dX8_keep_28 : decode cX8_keep 28 = .ok (.iload_n 1, 1) := by decide +kernel
theorem dX8_keep_29 : decode cX8_keep 29 = .ok (.aload_n 0, 1) := by decide +kernel
theorem dX8_keep_30 : decode cX8_keep 30 = .ok (.getfield 26, 3) := by decide +kernel
theorem dX8_keep_33 : decode cX8_keep 33 = .ok (.getfield 136, 3) := by decide +kernel
theorem dX8_keep_36 : decode cX8_keep 36 = .ok (.iastore, 1) := by decide +kernel
theorem dX8_keep_37 : decode cX8_keep 37 = .ok (.iconst 1, 1) := by decide +kernel
theorem dX8_keep_38 : decode cX8_keep 38 = .ok (.ireturn, 1) := by decide +kernel
theorem dX8_again_0 : decode cX8_again 0 = .ok (.iload_n 1, 1) := by decide +kernel
theorem dX8_again_1 : decode cX8_again 1 = .ok (.ifCond .lt 24, 3) := by decide +kernel
theorem dX8_again_4 : decode cX8_again 4 = .ok (.iload_n 1, 1) := by decide +kernel
theorem dX8_again_5 : decode cX8_again 5 = .ok (.iconst 2, 1) := by decide +kernel
theorem dX8_again_6 : decode cX8_again 6 = .ok (.if_icmp .ge 19, 3) := by decide +kernel
theorem dX8_again_9 : decode cX8_again 9 = .ok (.aload_n 0, 1) := by decide +kernel
theorem dX8_again_10 : decode cX8_again 10 = .ok (.getfield 54, 3) := by decide +kernel
theorem dX8_again_13 : decode cX8_again 13 = .ok (.iload_n 1, 1) := by decide +kernel
theorem dX8_again_14 : decode cX8_again 14 = .ok (.iaload, 1) := by decide +kernel
theorem dX8_again_15 : decode cX8_again 15 = .ok (.aload_n 0, 1) := by decide +kernel
theorem dX8_again_16 : decode cX8_again 16 = .ok (.getfield 26, 3) := by decide +kernel
theorem dX8_again_19 : decode cX8_again 19 = .ok (.getfield 136, 3) := by decide +kernel
theorem dX8_again_22 : decode cX8_again 22 = .ok (.if_icmp .eq 5, 3) := by decide +kernel
theorem dX8_again_25 : decode cX8_again 25 = .ok (.iconst 0, 1) := by decide +kernel
theorem dX8_again_26 : decode cX8_again 26 = .ok (.ireturn, 1) := by decide +kernel
theorem dX8_again_27 : decode cX8_again 27 = .ok (.aload_n 0, 1) := by decide +kernel
theorem dX8_again_28 : decode cX8_again 28 = .ok (.getfield 33, 3) := by decide +kernel
theorem dX8_again_31 : decode cX8_again 31 = .ok (.aload_n 0, 1) := by decide +kernel
theorem dX8_again_32 : decode cX8_again 32 = .ok (.getfield 50, 3) := by decide +kernel
theorem dX8_again_35 : decode cX8_again 35 = .ok (.iload_n 1, 1) := by decide +kernel
theorem dX8_again_36 : decode cX8_again 36 = .ok (.aaload, 1) := by decide +kernel
theorem dX8_again_37 : decode cX8_again 37 = .ok (.invokevirtual 212, 3) := by decide +kernel
theorem dX8_again_40 : decode cX8_again 40 = .ok (.aload_n 0, 1) := by decide +kernel
theorem dX8_again_41 : decode cX8_again 41 = .ok (.getfield 46, 3) := by decide +kernel
theorem dX8_again_44 : decode cX8_again 44 = .ok (.iconst 0, 1) := by decide +kernel
theorem dX8_again_45 : decode cX8_again 45 = .ok (.putfield 129, 3) := by decide +kernel
theorem dX8_again_48 : decode cX8_again 48 = .ok (.iconst 1, 1) := by decide +kernel
theorem dX8_again_49 : decode cX8_again 49 = .ok (.ireturn, 1) := by decide +kernel
theorem dX8_count_0 : decode cX8_count 0 = .ok (.iload_n 1, 1) := by decide +kernel
theorem dX8_count_1 : decode cX8_count 1 = .ok (.tableswitch 212 0 14 #[75, 83, 91, 99, 107, 115, 123, 134, 142, 157, 172, 180, 188, 196, 204], 75) := by decide +kernel
theorem dX8_count_76 : decode cX8_count 76 = .ok (.aload_n 0, 1) := by decide +kernel
theorem dX8_count_77 : decode cX8_count 77 = .ok (.getfield 26, 3) := by decide +kernel
theorem dX8_count_80 : decode cX8_count 80 = .ok (.getfield 434, 3) := by decide +kernel
theorem dX8_count_83 : decode cX8_count 83 = .ok (.ireturn, 1) := by decide +kernel
theorem dX8_count_84 : decode cX8_count 84 = .ok (.aload_n 0, 1) := by decide +kernel
theorem dX8_count_85 : decode cX8_count 85 = .ok (.getfield 26, 3) := by decide +kernel
theorem dX8_count_88 : decode cX8_count 88 = .ok (.getfield 136, 3) := by decide +kernel
theorem dX8_count_91 : decode cX8_count 91 = .ok (.ireturn, 1) := by decide +kernel
theorem dX8_count_92 : decode cX8_count 92 = .ok (.aload_n 0, 1) := by decide +kernel
theorem dX8_count_93 : decode cX8_count 93 = .ok (.getfield 33, 3) := by decide +kernel
theorem dX8_count_96 : decode cX8_count 96 = .ok (.getfield 184, 3) := by decide +kernel
theorem dX8_count_99 : decode cX8_count 99 = .ok (.ireturn, 1) := by decide +kernel
theorem dX8_count_100 : decode cX8_count 100 = .ok (.aload_n 0, 1) := by decide +kernel
theorem dX8_count_101 : decode cX8_count 101 = .ok (.getfield 33, 3) := by decide +kernel
theorem dX8_count_104 : decode cX8_count 104 = .ok (.getfield 256, 3) := by decide +kernel
theorem dX8_count_107 : decode cX8_count 107 = .ok (.ireturn, 1) := by decide +kernel
theorem dX8_count_108 : decode cX8_count 108 = .ok (.aload_n 0, 1) := by decide +kernel
theorem dX8_count_109 : decode cX8_count 109 = .ok (.getfield 33, 3) := by decide +kernel
theorem dX8_count_112 : decode cX8_count 112 = .ok (.getfield 223, 3) := by decide +kernel
theorem dX8_count_115 : decode cX8_count 115 = .ok (.ireturn, 1) := by decide +kernel
theorem dX8_count_116 : decode cX8_count 116 = .ok (.aload_n 0, 1) := by decide +kernel
theorem dX8_count_117 : decode cX8_count 117 = .ok (.getfield 33, 3) := by decide +kernel
theorem dX8_count_120 : decode cX8_count 120 = .ok (.getfield 226, 3) := by decide +kernel
theorem dX8_count_123 : decode cX8_count 123 = .ok (.ireturn, 1) := by decide +kernel
theorem dX8_count_124 : decode cX8_count 124 = .ok (.bipush 10, 2) := by decide +kernel
theorem dX8_count_126 : decode cX8_count 126 = .ok (.aload_n 0, 1) := by decide +kernel
theorem dX8_count_127 : decode cX8_count 127 = .ok (.getfield 33, 3) := by decide +kernel
theorem dX8_count_130 : decode cX8_count 130 = .ok (.getfield 246, 3) := by decide +kernel
theorem dX8_count_133 : decode cX8_count 133 = .ok (.iadd, 1) := by decide +kernel
theorem dX8_count_134 : decode cX8_count 134 = .ok (.ireturn, 1) := by decide +kernel
theorem dX8_count_135 : decode cX8_count 135 = .ok (.aload_n 0, 1) := by decide +kernel
theorem dX8_count_136 : decode cX8_count 136 = .ok (.getfield 33, 3) := by decide +kernel
theorem dX8_count_139 : decode cX8_count 139 = .ok (.getfield 165, 3) := by decide +kernel
theorem dX8_count_142 : decode cX8_count 142 = .ok (.ireturn, 1) := by decide +kernel
theorem dX8_count_143 : decode cX8_count 143 = .ok (.aload_n 0, 1) := by decide +kernel
theorem dX8_count_144 : decode cX8_count 144 = .ok (.getfield 33, 3) := by decide +kernel
theorem dX8_count_147 : decode cX8_count 147 = .ok (.aload_n 0, 1) := by decide +kernel
theorem dX8_count_148 : decode cX8_count 148 = .ok (.getfield 26, 3) := by decide +kernel
theorem dX8_count_151 : decode cX8_count 151 = .ok (.getfield 136, 3) := by decide +kernel
theorem dX8_count_154 : decode cX8_count 154 = .ok (.invokevirtual 206, 3) := by decide +kernel
theorem dX8_count_157 : decode cX8_count 157 = .ok (.ireturn, 1) := by decide +kernel
theorem dX8_count_158 : decode cX8_count 158 = .ok (.aload_n 0, 1) := by decide +kernel
theorem dX8_count_159 : decode cX8_count 159 = .ok (.getfield 33, 3) := by decide +kernel
theorem dX8_count_162 : decode cX8_count 162 = .ok (.aload_n 0, 1) := by decide +kernel
theorem dX8_count_163 : decode cX8_count 163 = .ok (.getfield 26, 3) := by decide +kernel
theorem dX8_count_166 : decode cX8_count 166 = .ok (.getfield 136, 3) := by decide +kernel
theorem dX8_count_169 : decode cX8_count 169 = .ok (.invokevirtual 437, 3) := by decide +kernel
theorem dX8_count_172 : decode cX8_count 172 = .ok (.ireturn, 1) := by decide +kernel
theorem dX8_count_173 : decode cX8_count 173 = .ok (.aload_n 0, 1) := by decide +kernel
theorem dX8_count_174 : decode cX8_count 174 = .ok (.getfield 61, 3) := by decide +kernel
theorem dX8_count_177 : decode cX8_count 177 = .ok (.getfield 385, 3) := by decide +kernel
theorem dX8_count_180 : decode cX8_count 180 = .ok (.ireturn, 1) := by decide +kernel
theorem dX8_count_181 : decode cX8_count 181 = .ok (.aload_n 0, 1) := by decide +kernel
theorem dX8_count_182 : decode cX8_count 182 = .ok (.getfield 65, 3) := by decide +kernel
theorem dX8_count_185 : decode cX8_count 185 = .ok (.getfield 385, 3) := by decide +kernel
theorem dX8_count_188 : decode cX8_count 188 = .ok (.ireturn, 1) := by decide +kernel
theorem dX8_count_189 : decode cX8_count 189 = .ok (.aload_n 0, 1) := by decide +kernel
theorem dX8_count_190 : decode cX8_count 190 = .ok (.getfield 46, 3) := by decide +kernel
theorem dX8_count_193 : decode cX8_count 193 = .ok (.getfield 129, 3) := by decide +kernel
theorem dX8_count_196 : decode cX8_count 196 = .ok (.ireturn, 1) := by decide +kernel
theorem dX8_count_197 : decode cX8_count 197 = .ok (.aload_n 0, 1) := by decide +kernel
theorem dX8_count_198 : decode cX8_count 198 = .ok (.getfield 19, 3) := by decide +kernel
theorem dX8_count_201 : decode cX8_count 201 = .ok (.getfield 440, 3) := by decide +kernel
theorem dX8_count_204 : decode cX8_count 204 = .ok (.ireturn, 1) := by decide +kernel
theorem dX8_count_205 : decode cX8_count 205 = .ok (.aload_n 0, 1) := by decide +kernel
theorem dX8_count_206 : decode cX8_count 206 = .ok (.getfield 10, 3) := by decide +kernel
theorem dX8_count_209 : decode cX8_count 209 = .ok (.getfield 107, 3) := by decide +kernel
theorem dX8_count_212 : decode cX8_count 212 = .ok (.ireturn, 1) := by decide +kernel
theorem dX8_count_213 : decode cX8_count 213 = .ok (.iconst (-1), 1) := by decide +kernel
theorem dX8_count_214 : decode cX8_count 214 = .ok (.ireturn, 1) := by decide +kernel
theorem dX8_row_0 : decode cX8_row 0 = .ok (.iload_n 1, 1) := by decide +kernel
theorem dX8_row_1 : decode cX8_row 1 = .ok (.ifCond .lt 14, 3) := by decide +kernel
theorem dX8_row_4 : decode cX8_row 4 = .ok (.iload_n 1, 1) := by decide +kernel
theorem dX8_row_5 : decode cX8_row 5 = .ok (.aload_n 0, 1) := by decide +kernel
theorem dX8_row_6 : decode cX8_row 6 = .ok (.getfield 19, 3) := by decide +kernel
theorem dX8_row_9 : decode cX8_row 9 = .ok (.getfield 440, 3) := by decide +kernel
theorem dX8_row_12 : decode cX8_row 12 = .ok (.if_icmp .lt 11, 3) := by decide +kernel
theorem dX8_row_15 : decode cX8_row 15 = .ok (.new 178, 3) := by decide +kernel
theorem dX8_row_18 : decode cX8_row 18 = .ok (.dup, 1) := by decide +kernel
theorem dX8_row_19 : decode cX8_row 19 = .ok (.invokespecial 180, 3) := by decide +kernel
theorem dX8_row_22 : decode cX8_row 22 = .ok (.athrow, 1) := by decide +kernel
theorem dX8_row_23 : decode cX8_row 23 = .ok (.aload_n 0, 1) := by decide +kernel
theorem dX8_row_24 : decode cX8_row 24 = .ok (.getfield 19, 3) := by decide +kernel
theorem dX8_row_27 : decode cX8_row 27 = .ok (.getfield 441, 3) := by decide +kernel
theorem dX8_row_30 : decode cX8_row 30 = .ok (.iload_n 1, 1) := by decide +kernel
theorem dX8_row_31 : decode cX8_row 31 = .ok (.laload, 1) := by decide +kernel
theorem dX8_row_32 : decode cX8_row 32 = .ok (.lreturn, 1) := by decide +kernel
