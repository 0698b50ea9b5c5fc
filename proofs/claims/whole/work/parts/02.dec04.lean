theorem dX6_init_145 : decode cX6_init 145 = .ok (.iconst (-1), 1) := by decide +kernel
theorem dX6_init_146 : decode cX6_init 146 = .ok (.putfield 66, 3) := by decide +kernel
theorem dX6_init_149 : decode cX6_init 149 = .ok (.aload_n 0, 1) := by decide +kernel
theorem dX6_init_150 : decode cX6_init 150 = .ok (.iconst 4, 1) := by decide +kernel
theorem dX6_init_151 : decode cX6_init 151 = .ok (.newarray .boolean, 2) := by decide +kernel
theorem dX6_init_153 : decode cX6_init 153 = .ok (.putfield 69, 3) := by decide +kernel
theorem dX6_init_156 : decode cX6_init 156 = .ok (.aload_n 0, 1) := by decide +kernel
theorem dX6_init_157 : decode cX6_init 157 = .ok (.iconst 4, 1) := by decide +kernel
theorem dX6_init_158 : decode cX6_init 158 = .ok (.newarray .int, 2) := by decide +kernel
theorem dX6_init_160 : decode cX6_init 160 = .ok (.putfield 73, 3) := by decide +kernel
theorem dX6_init_163 : decode cX6_init 163 = .ok (.aload_n 0, 1) := by decide +kernel
theorem dX6_init_164 : decode cX6_init 164 = .ok (.iconst 4, 1) := by decide +kernel
theorem dX6_init_165 : decode cX6_init 165 = .ok (.newarray .int, 2) := by decide +kernel
theorem dX6_init_167 : decode cX6_init 167 = .ok (.putfield 76, 3) := by decide +kernel
theorem dX6_init_170 : decode cX6_init 170 = .ok (.aload_n 0, 1) := by decide +kernel
theorem dX6_init_171 : decode cX6_init 171 = .ok (.sipush 160, 3) := by decide +kernel
theorem dX6_init_174 : decode cX6_init 174 = .ok (.newarray .int, 2) := by decide +kernel
theorem dX6_init_176 : decode cX6_init 176 = .ok (.putfield 79, 3) := by decide +kernel
theorem dX6_init_179 : decode cX6_init 179 = .ok (.aload_n 0, 1) := by decide +kernel
theorem dX6_init_180 : decode cX6_init 180 = .ok (.iconst 0, 1) := by decide +kernel
theorem dX6_init_181 : decode cX6_init 181 = .ok (.bipush 110, 2) := by decide +kernel
theorem dX6_init_183 : decode cX6_init 183 = .ok (.bipush 101, 2) := by decide +kernel
theorem dX6_init_185 : decode cX6_init 185 = .ok (.bipush 97, 2) := by decide +kernel
theorem dX6_init_187 : decode cX6_init 187 = .ok (.bipush 114, 2) := by decide +kernel
theorem dX6_init_189 : decode cX6_init 189 = .ok (.bipush 32, 2) := by decide +kernel
theorem dX6_init_191 : decode cX6_init 191 = .ok (.bipush 53, 2) := by decide +kernel
theorem dX6_init_193 : decode cX6_init 193 = .ok (.bipush 48, 2) := by decide +kernel
theorem dX6_init_195 : decode cX6_init 195 = .ok (.bipush 48, 2) := by decide +kernel
theorem dX6_init_197 : decode cX6_init 197 = .ok (.invokevirtual 82, 3) := by decide +kernel
theorem dX6_init_200 : decode cX6_init 200 = .ok (.aload_n 0, 1) := by decide +kernel
theorem dX6_init_201 : decode cX6_init 201 = .ok (.bipush 8, 2) := by decide +kernel
theorem dX6_init_203 : decode cX6_init 203 = .ok (.bipush 32, 2) := by decide +kernel
theorem dX6_init_205 : decode cX6_init 205 = .ok (.bipush 59, 2) := by decide +kernel
theorem dX6_init_207 : decode cX6_init 207 = .ok (.bipush 32, 2) := by decide +kernel
theorem dX6_init_209 : decode cX6_init 209 = .ok (.bipush 111, 2) := by decide +kernel
theorem dX6_init_211 : decode cX6_init 211 = .ok (.bipush 102, 2) := by decide +kernel
theorem dX6_init_213 : decode cX6_init 213 = .ok (.bipush 102, 2) := by decide +kernel
theorem dX6_init_215 : decode cX6_init 215 = .ok (.bipush 32, 2) := by decide +kernel
theorem dX6_init_217 : decode cX6_init 217 = .ok (.bipush 48, 2) := by decide +kernel
theorem dX6_init_219 : decode cX6_init 219 = .ok (.invokevirtual 82, 3) := by decide +kernel
theorem dX6_init_222 : decode cX6_init 222 = .ok (.aload_n 0, 1) := by decide +kernel
theorem dX6_init_223 : decode cX6_init 223 = .ok (.bipush 16, 2) := by decide +kernel
theorem dX6_init_225 : decode cX6_init 225 = .ok (.bipush 32, 2) := by decide +kernel
theorem dX6_init_227 : decode cX6_init 227 = .ok (.bipush 59, 2) := by decide +kernel
theorem dX6_init_229 : decode cX6_init 229 = .ok (.bipush 32, 2) := by decide +kernel
theorem dX6_init_231 : decode cX6_init 231 = .ok (.bipush 119, 2) := by decide +kernel
theorem dX6_init_233 : decode cX6_init 233 = .ok (.bipush 111, 2) := by decide +kernel
theorem dX6_init_235 : decode cX6_init 235 = .ok (.bipush 114, 2) := by decide +kernel
theorem dX6_init_237 : decode cX6_init 237 = .ok (.bipush 116, 2) := by decide +kernel
theorem dX6_init_239 : decode cX6_init 239 = .ok (.bipush 104, 2) := by decide +kernel
theorem dX6_init_241 : decode cX6_init 241 = .ok (.invokevirtual 82, 3) := by decide +kernel
theorem dX6_init_244 : decode cX6_init 244 = .ok (.aload_n 0, 1) := by decide +kernel
theorem dX6_init_245 : decode cX6_init 245 = .ok (.bipush 24, 2) := by decide +kernel
theorem dX6_init_247 : decode cX6_init 247 = .ok (.bipush 32, 2) := by decide +kernel
theorem dX6_init_249 : decode cX6_init 249 = .ok (.bipush 112, 2) := by decide +kernel
theorem dX6_init_251 : decode cX6_init 251 = .ok (.bipush 108, 2) := by decide +kernel
theorem dX6_init_253 : decode cX6_init 253 = .ok (.bipush 97, 2) := by decide +kernel
theorem dX6_init_255 : decode cX6_init 255 = .ok (.bipush 99, 2) := by decide +kernel
theorem dX6_init_257 : decode cX6_init 257 = .ok (.bipush 101, 2) := by decide +kernel
theorem dX6_init_259 : decode cX6_init 259 = .ok (.bipush 32, 2) := by decide +kernel
theorem dX6_init_261 : decode cX6_init 261 = .ok (.bipush 59, 2) := by decide +kernel
theorem dX6_init_263 : decode cX6_init 263 = .ok (.invokevirtual 82, 3) := by decide +kernel
theorem dX6_init_266 : decode cX6_init 266 = .ok (.aload_n 0, 1) := by decide +kernel
theorem dX6_init_267 : decode cX6_init 267 = .ok (.getfield 17, 3) := by decide +kernel
theorem dX6_init_270 : decode cX6_init 270 = .ok (.iconst 0, 1) := by decide +kernel
theorem dX6_init_271 : decode cX6_init 271 = .ok (.bipush 32, 2) := by decide +kernel
theorem dX6_init_273 : decode cX6_init 273 = .ok (.iastore, 1) := by decide +kernel
theorem dX6_init_274 : decode cX6_init 274 = .ok (.aload_n 0, 1) := by decide +kernel
theorem dX6_init_275 : decode cX6_init 275 = .ok (.iconst 1, 1) := by decide +kernel
theorem dX6_init_276 : decode cX6_init 276 = .ok (.putfield 86, 3) := by decide +kernel
theorem dX6_init_279 : decode cX6_init 279 = .ok (.return_, 1) := by decide +kernel
theorem dX6_spell_0 : decode cX6_spell 0 = .ok (.aload_n 0, 1) := by decide +kernel
theorem dX6_spell_1 : decode cX6_spell 1 = .ok (.getfield 13, 3) := by decide +kernel
theorem dX6_spell_4 : decode cX6_spell 4 = .ok (.iload_n 1, 1) := by decide +kernel
theorem dX6_spell_5 : decode cX6_spell 5 = .ok (.iload_n 2, 1) := by decide +kernel
theorem dX6_spell_6 : decode cX6_spell 6 = .ok (.iastore, 1) := by decide +kernel
theorem dX6_spell_7 : decode cX6_spell 7 = .ok (.aload_n 0, 1) := by decide +kernel
theorem dX6_spell_8 : decode cX6_spell 8 = .ok (.getfield 13, 3) := by decide +kernel
theorem dX6_spell_11 : decode cX6_spell 11 = .ok (.iload_n 1, 1) := by decide +kernel
theorem dX6_spell_12 : decode cX6_spell 12 = .ok (.iconst 1, 1) := by decide +kernel
theorem dX6_spell_13 : decode cX6_spell 13 = .ok (.iadd, 1) := by decide +kernel
theorem dX6_spell_14 : decode cX6_spell 14 = .ok (.iload_n 3, 1) := by decide +kernel
theorem dX6_spell_15 : decode cX6_spell 15 = .ok (.iastore, 1) := by decide +kernel
theorem dX6_spell_16 : decode cX6_spell 16 = .ok (.aload_n 0, 1) := by decide +kernel
theorem dX6_spell_17 : decode cX6_spell 17 = .ok (.getfield 13, 3) := by decide +kernel
theorem dX6_spell_20 : decode cX6_spell 20 = .ok (.iload_n 1, 1) := by decide +kernel
theorem dX6_spell_21 : decode cX6_spell 21 = .ok (.iconst 2, 1) := by decide +kernel
theorem dX6_spell_22 : decode cX6_spell 22 = .ok (.iadd, 1) := by decide +kernel
theorem dX6_spell_23 : decode cX6_spell 23 = .ok (.iload 4, 2) := by decide +kernel
theorem dX6_spell_25 : decode cX6_spell 25 = .ok (.iastore, 1) := by decide +kernel
theorem dX6_spell_26 : decode cX6_spell 26 = .ok (.aload_n 0, 1) := by decide +kernel
theorem dX6_spell_27 : decode cX6_spell 27 = .ok (.getfield 13, 3) := by decide +kernel
theorem dX6_spell_30 : decode cX6_spell 30 = .ok (.iload_n 1, 1) := by decide +kernel
theorem dX6_spell_31 : decode cX6_spell 31 = .ok (.iconst 3, 1) := by decide +kernel
theorem dX6_spell_32 : decode cX6_spell 32 = .ok (.iadd, 1) := by decide +kernel
theorem dX6_spell_33 : decode cX6_spell 33 = .ok (.iload 5, 2) := by decide +kernel
theorem dX6_spell_35 : decode cX6_spell 35 = .ok (.iastore, 1) := by decide +kernel
theorem dX6_spell_36 : decode cX6_spell 36 = .ok (.aload_n 0, 1) := by decide +kernel
theorem dX6_spell_37 : decode cX6_spell 37 = .ok (.getfield 13, 3) := by decide +kernel
theorem dX6_spell_40 : decode cX6_spell 40 = .ok (.iload_n 1, 1) := by decide +kernel
theorem dX6_spell_41 : decode cX6_spell 41 = .ok (.iconst 4, 1) := by decide +kernel
theorem dX6_spell_42 : decode cX6_spell 42 = .ok (.iadd, 1) := by decide +kernel
theorem dX6_spell_43 : decode cX6_spell 43 = .ok (.iload 6, 2) := by decide +kernel
theorem dX6_spell_45 : decode cX6_spell 45 = .ok (.iastore, 1) := by decide +kernel
theorem dX6_spell_46 : decode cX6_spell 46 = .ok (.aload_n 0, 1) := by decide +kernel
theorem dX6_spell_47 : decode cX6_spell 47 = .ok (.getfield 13, 3) := by decide +kernel
theorem dX6_spell_50 : decode cX6_spell 50 = .ok (.iload_n 1, 1) := by decide +kernel
theorem dX6_spell_51 : decode cX6_spell 51 = .ok (.iconst 5, 1) := by decide +kernel
theorem dX6_spell_52 : decode cX6_spell 52 = .ok (.iadd, 1) := by decide +kernel
theorem dX6_spell_53 : decode cX6_spell 53 = .ok (.iload 7, 2) := by decide +kernel
theorem dX6_spell_55 : decode cX6_spell 55 = .ok (.iastore, 1) := by decide +kernel
theorem dX6_spell_56 : decode cX6_spell 56 = .ok (.aload_n 0, 1) := by decide +kernel
theorem dX6_spell_57 : decode cX6_spell 57 = .ok (.getfield 13, 3) := by decide +kernel
theorem dX6_spell_60 : decode cX6_spell 60 = .ok (.iload_n 1, 1) := by decide +kernel
theorem dX6_spell_61 : decode cX6_spell 61 = .ok (.bipush 6, 2) := by decide +kernel
theorem dX6_spell_63 : decode cX6_spell 63 = .ok (.iadd, 1) := by decide +kernel
theorem dX6_spell_64 : decode cX6_spell 64 = .ok (.iload 8, 2) := by decide +kernel
theorem dX6_spell_66 : decode cX6_spell 66 = .ok (.iastore, 1) := by decide +kernel
theorem dX6_spell_67 : decode cX6_spell 67 = .ok (.aload_n 0, 1) := by decide +kernel
theorem dX6_spell_68 : decode cX6_spell 68 = .ok (.getfield 13, 3) := by decide +kernel
theorem dX6_spell_71 : decode cX6_spell 71 = .ok (.iload_n 1, 1) := by decide +kernel
theorem dX6_spell_72 : decode cX6_spell 72 = .ok (.bipush 7, 2) := by decide +kernel
theorem dX6_spell_74 : decode cX6_spell 74 = .ok (.iadd, 1) := by decide +kernel
theorem dX6_spell_75 : decode cX6_spell 75 = .ok (.iload 9, 2) := by decide +kernel
theorem dX6_spell_77 : decode cX6_spell 77 = .ok (.iastore, 1) := by decide +kernel
theorem dX6_spell_78 : decode cX6_spell 78 = .ok (.return_, 1) := by decide +kernel
theorem dX6_isWay_0 : decode cX6_isWay 0 = .ok (.iload_n 1, 1) := by decide +kernel
theorem dX6_isWay_1 : decode cX6_isWay 1 = .ok (.i2l, 1) := by decide +kernel
theorem dX6_isWay_2 : decode cX6_isWay 2 = .ok (.lconst 0, 1) := by decide +kernel
theorem dX6_isWay_3 : decode cX6_isWay 3 = .ok (.aload_n 0, 1) := by decide +kernel
theorem dX6_isWay_4 : decode cX6_isWay 4 = .ok (.getfield 89, 3) := by decide +kernel
theorem dX6_isWay_7 : decode cX6_isWay 7 = .ok (.iconst 1, 1) := by decide +kernel
theorem dX6_isWay_8 : decode cX6_isWay 8 = .ok (.isub, 1) := by decide +kernel
theorem dX6_isWay_9 : decode cX6_isWay 9 = .ok (.i2l, 1) := by decide +kernel
theorem dX6_isWay_10 : decode cX6_isWay 10 = .ok (.invokestatic 92, 3) := by decide +kernel
theorem dX6_isWay_13 : decode cX6_isWay 13 = .ok (.ireturn, 1) := by decide +kernel
theorem dX6_areTwo_0 : decode cX6_areTwo 0 = .ok (.aload_n 0, 1) := by decide +kernel
theorem dX6_areTwo_1 : decode cX6_areTwo 1 = .ok (.iload_n 1, 1) := by decide +kernel
theorem dX6_areTwo_2 : decode cX6_areTwo 2 = .ok (.invokevirtual 96, 3) := by decide +kernel
theorem dX6_areTwo_5 : decode cX6_areTwo 5 = .ok (.ifCond .eq 20, 3) := by decide +kernel
theorem dX6_areTwo_8 : decode cX6_areTwo 8 = .ok (.aload_n 0, 1) := by decide +kernel
theorem dX6_areTwo_9 : decode cX6_areTwo 9 = .ok (.iload_n 2, 1) := by decide +kernel
theorem dX6_areTwo_10 : decode cX6_areTwo 10 = .ok (.invokevirtual 96, 3) := by decide +kernel
theorem dX6_areTwo_13 : decode cX6_areTwo 13 = .ok (.ifCond .eq 12, 3) := by decide +kernel
theorem dX6_areTwo_16 : decode cX6_areTwo 16 = .ok (.iload_n 1, 1) := by decide +kernel
theorem dX6_areTwo_17 : decode cX6_areTwo 17 = .ok (.iload_n 2, 1) := by decide +kernel
theorem dX6_areTwo_18 : decode cX6_areTwo 18 = .ok (.if_icmp .eq 7, 3) := by decide +kernel
theorem dX6_areTwo_21 : decode cX6_areTwo 21 = .ok (.iconst 1, 1) := by decide +kernel
theorem dX6_areTwo_22 : decode cX6_areTwo 22 = .ok (.goto 4, 3) := by decide +kernel
theorem dX6_areTwo_25 : decode cX6_areTwo 25 = .ok (.iconst 0, 1) := by decide +kernel
theorem dX6_areTwo_26 : decode cX6_areTwo 26 = .ok (.ireturn, 1) := by decide +kernel
theorem dX6_isMinute_0 : decode cX6_isMinute 0 = .ok (.iload_n 0, 1) := by decide +kernel
theorem dX6_isMinute_1 : decode cX6_isMinute 1 = .ok (.i2l, 1) := by decide +kernel
theorem dX6_isMinute_2 : decode cX6_isMinute 2 = .ok (.lconst 0, 1) := by decide +kernel
theorem dX6_isMinute_3 : decode cX6_isMinute 3 = .ok (.ldc2_w 100, 3) := by decide +kernel
theorem dX6_isMinute_6 : decode cX6_isMinute 6 = .ok (.invokestatic 92, 3) := by decide +kernel
theorem dX6_isMinute_9 : decode cX6_isMinute 9 = .ok (.ireturn, 1) := by decide +kernel
theorem dX6_set_0 : decode cX6_set 0 = .ok (.iload_n 1, 1) := by decide +kernel
theorem dX6_set_1 : decode cX6_set 1 = .ok (.i2l, 1) := by decide +kernel
theorem dX6_set_2 : decode cX6_set 2 = .ok (.lconst 0, 1) := by decide +kernel
theorem dX6_set_3 : decode cX6_set 3 = .ok (.lconst 1, 1) := by decide +kernel
theorem dX6_set_4 : decode cX6_set 4 = .ok (.invokestatic 92, 3) := by decide +kernel
theorem dX6_set_7 : decode cX6_set 7 = .ok (.ifCond .eq 48, 3) := by decide +kernel
theorem dX6_set_10 : decode cX6_set 10 = .ok (.iload_n 1, 1) := by decide +kernel
theorem dX6_set_11 : decode cX6_set 11 = .ok (.iconst 1, 1) := by decide +kernel
theorem dX6_set_12 : decode cX6_set 12 = .ok (.if_icmp .ne 11, 3) := by decide +kernel
theorem dX6_set_15 : decode cX6_set 15 = .ok (.aload_n 0, 1) := by decide +kernel
theorem dX6_set_16 : decode cX6_set 16 = .ok (.iload_n 2, 1) := by decide +kernel
theorem dX6_set_17 : decode cX6_set 17 = .ok (.invokevirtual 96, 3) := by decide +kernel
theorem dX6_set_20 : decode cX6_set 20 = .ok (.ifCond .eq 35, 3) := by decide +kernel
theorem dX6_set_23 : decode cX6_set 23 = .ok (.iload_n 3, 1) := by decide +kernel
theorem dX6_set_24 : decode cX6_set 24 = .ok (.i2l, 1) := by decide +kernel
theorem dX6_set_25 : decode cX6_set 25 = .ok (.iload_n 1, 1) := by decide +kernel
theorem dX6_set_26 : decode cX6_set 26 = .ok (.ifCond .ne 9, 3) := by decide +kernel
theorem dX6_set_29 : decode cX6_set 29 = .ok (.ldc2_w 102, 3) := by decide +kernel
theorem dX6_set_32 : decode cX6_set 32 = .ok (.goto 4, 3) := by decide +kernel
theorem dX6_set_35 : decode cX6_set 35 = .ok (.lconst 0, 1) := by decide +kernel
theorem dX6_set_36 : decode cX6_set 36 = .ok (.iload_n 1, 1) := by decide +kernel
theorem dX6_set_37 : decode cX6_set 37 = .ok (.ifCond .ne 9, 3) := by decide +kernel
theorem dX6_set_40 : decode cX6_set 40 = .ok (.ldc2_w 104, 3) := by decide +kernel
theorem dX6_set_43 : decode cX6_set 43 = .ok (.goto 6, 3) := by decide +kernel
theorem dX6_set_46 : decode cX6_set 46 = .ok (.ldc2_w 106, 3) := by decide +kernel
theorem dX6_set_49 : decode cX6_set 49 = .ok (.invokestatic 92, 3) := by decide +kernel
theorem dX6_set_52 : decode cX6_set 52 = .ok (.ifCond .ne 6, 3) := by decide +kernel
theorem dX6_set_55 : decode cX6_set 55 = .ok (.bipush (-2), 2) := by decide +kernel
theorem dX6_set_57 : decode cX6_set 57 = .ok (.ireturn, 1) := by decide +kernel
theorem dX6_set_58 : decode cX6_set 58 = .ok (.iload_n 1, 1) := by decide +kernel
theorem dX6_set_59 : decode cX6_set 59 = .ok (.iconst 1, 1) := by decide +kernel
theorem dX6_set_60 : decode cX6_set 60 = .ok (.if_icmp .ne 21, 3) := by decide +kernel
theorem dX6_set_63 : decode cX6_set 63 = .ok (.aload_n 0, 1) := by decide +kernel
theorem dX6_set_64 : decode cX6_set 64 = .ok (.getfield 29, 3) := by decide +kernel
theorem dX6_set_67 : decode cX6_set 67 = .ok (.iload_n 2, 1) := by decide +kernel
theorem dX6_set_68 : decode cX6_set 68 = .ok (.iaload, 1) := by decide +kernel
theorem dX6_set_69 : decode cX6_set 69 = .ok (.istore 4, 2) := by decide +kernel
theorem dX6_set_71 : decode cX6_set 71 = .ok (.aload_n 0, 1) := by decide +kernel
theorem dX6_set_72 : decode cX6_set 72 = .ok (.getfield 29, 3) := by decide +kernel
theorem dX6_set_75 : decode cX6_set 75 = .ok (.iload_n 2, 1) := by decide +kernel
theorem dX6_set_76 : decode cX6_set 76 = .ok (.iload_n 3, 1) := by decide +kernel
theorem dX6_set_77 : decode cX6_set 77 = .ok (.iastore, 1) := by decide +kernel
theorem dX6_set_78 : decode cX6_set 78 = .ok (.iload 4, 2) := by decide +kernel
theorem dX6_set_80 : decode cX6_set 80 = .ok (.ireturn, 1) := by decide +kernel
theorem dX6_set_81 : decode cX6_set 81 = .ok (.iconst 0, 1) := by decide +kernel
theorem dX6_set_82 : decode cX6_set 82 = .ok (.istore 4, 2) := by decide +kernel
theorem dX6_set_84 : decode cX6_set 84 = .ok (.iload 4, 2) := by decide +kernel
theorem dX6_set_86 : decode cX6_set 86 = .ok (.aload_n 0, 1) := by decide +kernel
theorem dX6_set_87 : decode cX6_set 87 = .ok (.getfield 89, 3) := by decide +kernel
theorem dX6_set_90 : decode cX6_set 90 = .ok (.if_icmp .ge 50, 3) := by decide +kernel
theorem dX6_set_93 : decode cX6_set 93 = .ok (.iconst 0, 1) := by decide +kernel
theorem dX6_set_94 : decode cX6_set 94 = .ok (.istore 5, 2) := by decide +kernel
theorem dX6_set_96 : decode cX6_set 96 = .ok (.iload 5, 2) := by decide +kernel
theorem dX6_set_98 : decode cX6_set 98 = .ok (.aload_n 0, 1) := by decide +kernel
theorem dX6_set_99 : decode cX6_set 99 = .ok (.getfield 38, 3) := by decide +kernel
theorem dX6_set_102 : decode cX6_set 102 = .ok (.iload 4, 2) := by decide +kernel
theorem dX6_set_104 : decode cX6_set 104 = .ok (.iaload, 1) := by decide +kernel
theorem dX6_set_105 : decode cX6_set 105 = .ok (.if_icmp .ge 29, 3) := by decide +kernel
theorem dX6_set_108 : decode cX6_set 108 = .ok (.aload_n 0, 1) := by decide +kernel
theorem dX6_set_109 : decode cX6_set 109 = .ok (.getfield 35, 3) := by decide +kernel
theorem dX6_set_112 : decode cX6_set 112 = .ok (.bipush 8, 2) := by decide +kernel
theorem dX6_set_114 : decode cX6_set 114 = .ok (.iload 4, 2) := by decide +kernel
theorem dX6_set_116 : decode cX6_set 116 = .ok (.imul, 1) := by decide +kernel
theorem dX6_set_117 : decode cX6_set 117 = .ok (.iload 5, 2) := by decide +kernel
theorem dX6_set_119 : decode cX6_set 119 = .ok (.iadd, 1) := by decide +kernel
theorem dX6_set_120 : decode cX6_set 120 = .ok (.iaload, 1) := by decide +kernel
theorem dX6_set_121 : decode cX6_set 121 = .ok (.iload_n 3, 1) := by decide +kernel
theorem dX6_set_122 : decode cX6_set 122 = .ok (.if_icmp .le 6, 3) := by decide +kernel
theorem dX6_set_125 : decode cX6_set 125 = .ok (.bipush (-3), 2) := by decide +kernel
theorem dX6_set_127 : decode cX6_set 127 = .ok (.ireturn, 1) := by decide +kernel
theorem dX6_set_128 : decode cX6_set 128 = .ok (.iinc 5 1, 3) := by decide +kernel
theorem dX6_set_131 : decode cX6_set 131 = .ok (.goto (-35), 3) := by decide +kernel
theorem dX6_set_134 : decode cX6_set 134 = .ok (.iinc 4 1, 3) := by decide +kernel
theorem dX6_set_137 : decode cX6_set 137 = .ok (.goto (-53), 3) := by decide +kernel
theorem dX6_set_140 : decode cX6_set 140 = .ok (.aload_n 0, 1) := by decide +kernel
theorem dX6_set_141 : decode cX6_set 141 = .ok (.getfield 23, 3) := by decide +kernel
theorem dX6_set_144 : decode cX6_set 144 = .ok (.istore 4, 2) := by decide +kernel
theorem dX6_set_146 : decode cX6_set 146 = .ok (.aload_n 0, 1) := by decide +kernel
theorem dX6_set_147 : decode cX6_set 147 = .ok (.iload_n 3, 1) := by decide +kernel
theorem dX6_set_148 : decode cX6_set 148 = .ok (.putfield 23, 3) := by decide +kernel
theorem dX6_set_151 : decode cX6_set 151 = .ok (.iload 4, 2) := by decide +kernel
theorem dX6_set_153 : decode cX6_set 153 = .ok (.ireturn, 1) := by decide +kernel
theorem dX6_way_0 : decode cX6_way 0 = .ok (.iload_n 1, 1) := by decide +kernel
theorem dX6_way_1 : decode cX6_way 1 = .ok (.i2l, 1) := by decide +kernel
theorem dX6_way_2 : decode cX6_way 2 = .ok (.lconst 0, 1) := by decide +kernel
theorem dX6_way_3 : decode cX6_way 3 = .ok (.ldc2_w 108, 3) := by decide +kernel
theorem dX6_way_6 : decode cX6_way 6 = .ok (.invokestatic 92, 3) := by decide +kernel
theorem dX6_way_9 : decode cX6_way 9 = .ok (.ifCond .eq 15, 3) := by decide +kernel
theorem dX6_way_12 : decode cX6_way 12 = .ok (.iload_n 2, 1) := by decide +kernel
theorem dX6_way_13 : decode cX6_way 13 = .ok (.i2l, 1) := by decide +kernel
theorem dX6_way_14 : decode cX6_way 14 = .ok (.lconst 0, 1) := by decide +kernel
theorem dX6_way_15 : decode cX6_way 15 = .ok (.ldc2_w 106, 3) := by decide +kernel
theorem dX6_way_18 : decode cX6_way 18 = .ok (.invokestatic 92, 3) := by decide +kernel
theorem dX6_way_21 : decode cX6_way 21 = .ok (.ifCond .ne 6, 3) := by decide +kernel
theorem dX6_way_24 : decode cX6_way 24 = .ok (.bipush (-2), 2) := by decide +kernel
theorem dX6_way_26 : decode cX6_way 26 = .ok (.ireturn, 1) := by decide +kernel
theorem dX6_way_27 : decode cX6_way 27 = .ok (.aload_n 0, 1) := by decide +kernel
theorem dX6_way_28 : decode cX6_way 28 = .ok (.getfield 89, 3) := by decide +kernel
theorem dX6_way_31 : decode cX6_way 31 = .ok (.bipush 6, 2) := by decide +kernel
theorem dX6_way_33 : decode cX6_way 33 = .ok (.if_icmp .ne 6, 3) := by decide +kernel
theorem dX6_way_36 : decode cX6_way 36 = .ok (.bipush (-4), 2) := by decide +kernel
theorem dX6_way_38 : decode cX6_way 38 = .ok (.ireturn, 1) := by decide +kernel
theorem dX6_way_39 : decode cX6_way 39 = .ok (.aload_n 0, 1) := by decide +kernel
theorem dX6_way_40 : decode cX6_way 40 = .ok (.getfield 26, 3) := by decide +kernel
theorem dX6_way_43 : decode cX6_way 43 = .ok (.aload_n 0, 1) := by decide +kernel
theorem dX6_way_44 : decode cX6_way 44 = .ok (.getfield 89, 3) := by decide +kernel
theorem dX6_way_47 : decode cX6_way 47 = .ok (.iload_n 1, 1) := by decide +kernel
theorem dX6_way_48 : decode cX6_way 48 = .ok (.iastore, 1) := by decide +kernel
theorem dX6_way_49 : decode cX6_way 49 = .ok (.aload_n 0, 1) := by decide +kernel
theorem dX6_way_50 : decode cX6_way 50 = .ok (.getfield 29, 3) := by decide +kernel
theorem dX6_way_53 : decode cX6_way 53 = .ok (.aload_n 0, 1) := by decide +kernel
theorem dX6_way_54 : decode cX6_way 54 = .ok (.getfield 89, 3) := by decide +kernel
theorem dX6_way_57 : decode cX6_way 57 = .ok (.iload_n 2, 1) := by decide +kernel
theorem dX6_way_58 : decode cX6_way 58 = .ok (.iastore, 1) := by decide +kernel
theorem dX6_way_59 : decode cX6_way 59 = .ok (.aload_n 0, 1) := by decide +kernel
theorem dX6_way_60 : decode cX6_way 60 = .ok (.getfield 38, 3) := by decide +kernel
theorem dX6_way_63 : decode cX6_way 63 = .ok (.aload_n 0, 1) := by decide +kernel
theorem dX6_way_64 : decode cX6_way 64 = .ok (.getfield 89, 3) := by decide +kernel
theorem dX6_way_67 : decode cX6_way 67 = .ok (.iconst 0, 1) := by decide +kernel
theorem dX6_way_68 : decode cX6_way 68 = .ok (.iastore, 1) := by decide +kernel
theorem dX6_way_69 : decode cX6_way 69 = .ok (.aload_n 0, 1) := by decide +kernel
theorem dX6_way_70 : decode cX6_way 70 = .ok (.dup, 1) := by decide +kernel
theorem dX6_way_71 : decode cX6_way 71 = .ok (.getfield 89, 3) := by decide +kernel
theorem dX6_way_74 : decode cX6_way 74 = .ok (.iconst 1, 1) := by decide +kernel
theorem dX6_way_75 : decode cX6_way 75 = .ok (.iadd, 1) := by decide +kernel
theorem dX6_way_76 : decode cX6_way 76 = .ok (.putfield 89, 3) := by decide +kernel
theorem dX6_way_79 : decode cX6_way 79 = .ok (.aload_n 0, 1) := by decide +kernel
theorem dX6_way_80 : decode cX6_way 80 = .ok (.getfield 89, 3) := by decide +kernel
theorem dX6_way_83 : decode cX6_way 83 = .ok (.iconst 1, 1) := by decide +kernel
theorem dX6_way_84 : decode cX6_way 84 = .ok (.isub, 1) := by decide +kernel
theorem dX6_way_85 : decode cX6_way 85 = .ok (.ireturn, 1) := by decide +kernel
theorem dX6_point_0 : decode cX6_point 0 = .ok (.aload_n 0, 1) := by decide +kernel
theorem dX6_point_1 : decode cX6_point 1 = .ok (.iload_n 1, 1) := by decide +kernel
theorem dX6_point_2 : decode cX6_point 2 = .ok (.invokevirtual 96, 3) := by decide +kernel
theorem dX6_point_5 : decode cX6_point 5 = .ok (.ifCond .eq 24, 3) := by decide +kernel
theorem dX6_point_8 : decode cX6_point 8 = .ok (.iload_n 2, 1) := by decide +kernel
theorem dX6_point_9 : decode cX6_point 9 = .ok (.invokestatic 110, 3) := by decide +kernel
theorem dX6_point_12 : decode cX6_point 12 = .ok (.ifCond .eq 17, 3) := by decide +kernel
theorem dX6_point_15 : decode cX6_point 15 = .ok (.iload_n 3, 1) := by decide +kernel
theorem dX6_point_16 : decode cX6_point 16 = .ok (.i2l, 1) := by decide +kernel
theorem dX6_point_17 : decode cX6_point 17 = .ok (.lconst 0, 1) := by decide +kernel
theorem dX6_point_18 : decode cX6_point 18 = .ok (.aload_n 0, 1) := by decide +kernel
theorem dX6_point_19 : decode cX6_point 19 = .ok (.getfield 23, 3) := by decide +kernel
theorem dX6_point_22 : decode cX6_point 22 = .ok (.i2l, 1) := by decide +kernel
theorem dX6_point_23 : decode cX6_point 23 = .ok (.invokestatic 92, 3) := by decide +kernel
theorem dX6_point_26 : decode cX6_point 26 = .ok (.ifCond .ne 6, 3) := by decide +kernel
theorem dX6_point_29 : decode cX6_point 29 = .ok (.bipush (-2), 2) := by decide +kernel
theorem dX6_point_31 : decode cX6_point 31 = .ok (.ireturn, 1) := by decide +kernel
theorem dX6_point_32 : decode cX6_point 32 = .ok (.aload_n 0, 1) := by decide +kernel
theorem dX6_point_33 : decode cX6_point 33 = .ok (.getfield 38, 3) := by decide +kernel
theorem dX6_point_36 : decode cX6_point 36 = .ok (.iload_n 1, 1) := by decide +kernel
theorem dX6_point_37 : decode cX6_point 37 = .ok (.iaload, 1) := by decide +kernel
theorem dX6_point_38 : decode cX6_point 38 = .ok (.istore 4, 2) := by decide +kernel
theorem dX6_point_40 : decode cX6_point 40 = .ok (.iload 4, 2) := by decide +kernel
theorem dX6_point_42 : decode cX6_point 42 = .ok (.ifCond .le 24, 3) := by decide +kernel
theorem dX6_point_45 : decode cX6_point 45 = .ok (.aload_n 0, 1) := by decide +kernel
theorem dX6_point_46 : decode cX6_point 46 = .ok (.getfield 32, 3) := by decide +kernel
theorem dX6_point_49 : decode cX6_point 49 = .ok (.bipush 8, 2) := by decide +kernel
theorem dX6_point_51 : decode cX6_point 51 = .ok (.iload_n 1, 1) := by decide +kernel
theorem dX6_point_52 : decode cX6_point 52 = .ok (.imul, 1) := by decide +kernel
theorem dX6_point_53 : decode cX6_point 53 = .ok (.iload 4, 2) := by decide +kernel
theorem dX6_point_55 : decode cX6_point 55 = .ok (.iadd, 1) := by decide +kernel
theorem dX6_point_56 : decode cX6_point 56 = .ok (.iconst 1, 1) := by decide +kernel
theorem dX6_point_57 : decode cX6_point 57 = .ok (.isub, 1) := by decide +kernel
theorem dX6_point_58 : decode cX6_point 58 = .ok (.iaload, 1) := by decide +kernel
theorem dX6_point_59 : decode cX6_point 59 = .ok (.iload_n 2, 1) := by decide +kernel
theorem dX6_point_60 : decode cX6_point 60 = .ok (.if_icmp .lt 6, 3) := by decide +kernel
theorem dX6_point_63 : decode cX6_point 63 = .ok (.bipush (-2), 2) := by decide +kernel
theorem dX6_point_65 : decode cX6_point 65 = .ok (.ireturn, 1) := by decide +kernel
theorem dX6_point_66 : decode cX6_point 66 = .ok (.iload 4, 2) := by decide +kernel
theorem dX6_point_68 : decode cX6_point 68 = .ok (.bipush 8, 2) := by decide +kernel
theorem dX6_point_70 : decode cX6_point 70 = .ok (.if_icmp .ne 6, 3) := by decide +kernel
theorem dX6_point_73 : decode cX6_point 73 = .ok (.bipush (-4), 2) := by decide +kernel
theorem dX6_point_75 : decode cX6_point 75 = .ok (.ireturn, 1) := by decide +kernel
theorem dX6_point_76 : decode cX6_point 76 = .ok (.aload_n 0, 1) := by decide +kernel
theorem dX6_point_77 : decode cX6_point 77 = .ok (.getfield 32, 3) := by decide +kernel
theorem dX6_point_80 : decode cX6_point 80 = .ok (.bipush 8, 2) := by decide +kernel
theorem dX6_point_82 : decode cX6_point 82 = .ok (.iload_n 1, 1) := by decide +kernel
theorem dX6_point_83 : decode cX6_point 83 = .ok (.imul, 1) := by decide +kernel
theorem dX6_point_84 : decode cX6_point 84 = .ok (.iload 4, 2) := by decide +kernel
theorem dX6_point_86 : decode cX6_point 86 = .ok (.iadd, 1) := by decide +kernel
theorem dX6_point_87 : decode cX6_point 87 = .ok (.iload_n 2, 1) := by decide +kernel
theorem dX6_point_88 : decode cX6_point 88 = .ok (.iastore, 1) := by decide +kernel
theorem dX6_point_89 : decode cX6_point 89 = .ok (.aload_n 0, 1) := by decide +kernel
theorem dX6_point_90 : decode cX6_point 90 = .ok (.getfield 35, 3) := by decide +kernel
theorem dX6_point_93 : decode cX6_point 93 = .ok (.bipush 8, 2) := by decide +kernel
theorem dX6_point_95 : decode cX6_point 95 = .ok (.iload_n 1, 1) := by decide +kernel
theorem dX6_point_96 : decode cX6_point 96 = .ok (.imul, 1) := by decide +kernel
theorem dX6_point_97 : decode cX6_point 97 = .ok (.iload 4, 2) := by decide +kernel
theorem dX6_point_99 : decode cX6_point 99 = .ok (.iadd, 1) := by decide +kernel
theorem dX6_point_100 : decode cX6_point 100 = .ok (.iload_n 3, 1) := by decide +kernel
theorem dX6_point_101 : decode cX6_point 101 = .ok (.iastore, 1) := by decide +kernel
theorem dX6_point_102 : decode cX6_point 102 = .ok (.aload_n 0, 1) := by decide +kernel
theorem dX6_point_103 : decode cX6_point 103 = .ok (.getfield 38, 3) := by decide +kernel
theorem dX6_point_106 : decode cX6_point 106 = .ok (.iload_n 1, 1) := by decide +kernel
theorem dX6_point_107 : decode cX6_point 107 = .ok (.iload 4, 2) := by decide +kernel
theorem dX6_point_109 : decode cX6_point 109 = .ok (.iconst 1, 1) := by decide +kernel
theorem dX6_point_110 : decode cX6_point 110 = .ok (.iadd, 1) := by decide +kernel
theorem dX6_point_111 : decode cX6_point 111 = .ok (.iastore, 1) := by decide +kernel
theorem dX6_point_112 : decode cX6_point 112 = .ok (.iload 4, 2) := by decide +kernel
theorem dX6_point_114 : decode cX6_point 114 = .ok (.iconst 1, 1) := by decide +kernel
theorem dX6_point_115 : decode cX6_point 115 = .ok (.iadd, 1) := by decide +kernel
theorem dX6_point_116 : decode cX6_point 116 = .ok (.ireturn, 1) := by decide +kernel
theorem dX6_clear_0 : decode cX6_clear 0 = .ok (.aload_n 0, 1) := by decide +kernel
theorem dX6_clear_1 : decode cX6_clear 1 = .ok (.iload_n 1, 1) := by decide +kernel
theorem dX6_clear_2 : decode cX6_clear 2 = .ok (.invokevirtual 96, 3) := by decide +kernel
theorem dX6_clear_5 : decode cX6_clear 5 = .ok (.ifCond .ne 6, 3) := by decide +kernel
theorem dX6_clear_8 : decode cX6_clear 8 = .ok (.bipush (-2), 2) := by decide +kernel
theorem dX6_clear_10 : decode cX6_clear 10 = .ok (.ireturn, 1) := by decide +kernel
theorem dX6_clear_11 : decode cX6_clear 11 = .ok (.aload_n 0, 1) := by decide +kernel
theorem dX6_clear_12 : decode cX6_clear 12 = .ok (.getfield 38, 3) := by decide +kernel
theorem dX6_clear_15 : decode cX6_clear 15 = .ok (.iload_n 1, 1) := by decide +kernel
theorem dX6_clear_16 : decode cX6_clear 16 = .ok (.iaload, 1) := by decide +kernel
theorem dX6_clear_17 : decode cX6_clear 17 = .ok (.istore_n 2, 1) := by decide +kernel
theorem dX6_clear_18 : decode cX6_clear 18 = .ok (.aload_n 0, 1) := by decide +kernel
theorem dX6_clear_19 : decode cX6_clear 19 = .ok (.getfield 38, 3) := by decide +kernel
theorem dX6_clear_22 : decode cX6_clear 22 = .ok (.iload_n 1, 1) := by decide +kernel
theorem dX6_clear_23 : decode cX6_clear 23 = .ok (.iconst 0, 1) := by decide +kernel
theorem dX6_clear_24 : decode cX6_clear 24 = .ok (.iastore, 1) := by decide +kernel
theorem dX6_clear_25 : decode cX6_clear 25 = .ok (.iload_n 2, 1) := by decide +kernel
theorem dX6_clear_26 : decode cX6_clear 26 = .ok (.ireturn, 1) := by decide +kernel
theorem dX6_told_0 : decode cX6_told 0 = .ok (.aload_n 0, 1) := by decide +kernel
theorem dX6_told_1 : decode cX6_told 1 = .ok (.iload_n 1, 1) := by decide +kernel
theorem dX6_told_2 : decode cX6_told 2 = .ok (.invokevirtual 96, 3) := by decide +kernel
theorem dX6_told_5 : decode cX6_told 5 = .ok (.ifCond .eq 23, 3) := by decide +kernel
theorem dX6_told_8 : decode cX6_told 8 = .ok (.iload_n 2, 1) := by decide +kernel
theorem dX6_told_9 : decode cX6_told 9 = .ok (.i2l, 1) := by decide +kernel
theorem dX6_told_10 : decode cX6_told 10 = .ok (.lconst 0, 1) := by decide +kernel
theorem dX6_told_11 : decode cX6_told 11 = .ok (.iconst 2, 1) := by decide +kernel
theorem dX6_told_12 : decode cX6_told 12 = .ok (.iconst 2, 1) := by decide +kernel
theorem dX6_told_13 : decode cX6_told 13 = .ok (.aload_n 0, 1) := by decide +kernel
theorem dX6_told_14 : decode cX6_told 14 = .ok (.getfield 38, 3) := by decide +kernel
theorem dX6_told_17 : decode cX6_told 17 = .ok (.iload_n 1, 1) := by decide +kernel
theorem dX6_told_18 : decode cX6_told 18 = .ok (.iaload, 1) := by decide +kernel
theorem dX6_told_19 : decode cX6_told 19 = .ok (.imul, 1) := by decide +kernel
theorem dX6_told_20 : decode cX6_told 20 = .ok (.iadd, 1) := by decide +kernel
theorem dX6_told_21 : decode cX6_told 21 = .ok (.i2l, 1) := by decide +kernel
theorem dX6_told_22 : decode cX6_told 22 = .ok (.invokestatic 92, 3) := by decide +kernel
theorem dX6_told_25 : decode cX6_told 25 = .ok (.ifCond .ne 6, 3) := by decide +kernel
theorem dX6_told_28 : decode cX6_told 28 = .ok (.bipush (-2), 2) := by decide +kernel
theorem dX6_told_30 : decode cX6_told 30 = .ok (.ireturn, 1) := by decide +kernel
theorem dX6_told_31 : decode cX6_told 31 = .ok (.iload_n 2, 1) := by decide +kernel
theorem dX6_told_32 : decode cX6_told 32 = .ok (.iconst 3, 1) := by decide +kernel
theorem dX6_told_33 : decode cX6_told 33 = .ok (.if_icmp .ge 37, 3) := by decide +kernel
theorem dX6_told_36 : decode cX6_told 36 = .ok (.iload_n 2, 1) := by decide +kernel
theorem dX6_told_37 : decode cX6_told 37 = .ok (.ifCond .ne 12, 3) := by decide +kernel
theorem dX6_told_40 : decode cX6_told 40 = .ok (.aload_n 0, 1) := by decide +kernel
theorem dX6_told_41 : decode cX6_told 41 = .ok (.getfield 26, 3) := by decide +kernel
theorem dX6_told_44 : decode cX6_told 44 = .ok (.iload_n 1, 1) := by decide +kernel
theorem dX6_told_45 : decode cX6_told 45 = .ok (.iaload, 1) := by decide +kernel
theorem dX6_told_46 : decode cX6_told 46 = .ok (.goto 23, 3) := by decide +kernel
theorem dX6_told_49 : decode cX6_told 49 = .ok (.iload_n 2, 1) := by decide +kernel
theorem dX6_told_50 : decode cX6_told 50 = .ok (.iconst 1, 1) := by decide +kernel
theorem dX6_told_51 : decode cX6_told 51 = .ok (.if_icmp .ne 12, 3) := by decide +kernel
theorem dX6_told_54 : decode cX6_told 54 = .ok (.aload_n 0, 1) := by decide +kernel
theorem dX6_told_55 : decode cX6_told 55 = .ok (.getfield 29, 3) := by decide +kernel
theorem dX6_told_58 : decode cX6_told 58 = .ok (.iload_n 1, 1) := by decide +kernel
theorem dX6_told_59 : decode cX6_told 59 = .ok (.iaload, 1) := by decide +kernel
theorem dX6_told_60 : decode cX6_told 60 = .ok (.goto 9, 3) := by decide +kernel
theorem dX6_told_63 : decode cX6_told 63 = .ok (.aload_n 0, 1) := by decide +kernel
theorem dX6_told_64 : decode cX6_told 64 = .ok (.getfield 38, 3) := by decide +kernel
theorem dX6_told_67 : decode cX6_told 67 = .ok (.iload_n 1, 1) := by decide +kernel
theorem dX6_told_68 : decode cX6_told 68 = .ok (.iaload, 1) := by decide +kernel
theorem dX6_told_69 : decode cX6_told 69 = .ok (.ireturn, 1) := by decide +kernel
theorem dX6_told_70 : decode cX6_told 70 = .ok (.bipush 8, 2) := by decide +kernel
theorem dX6_told_72 : decode cX6_told 72 = .ok (.iload_n 1, 1) := by decide +kernel
theorem dX6_told_73 : decode cX6_told 73 = .ok (.imul, 1) := by decide +kernel
theorem dX6_told_74 : decode cX6_told 74 = .ok (.iload_n 2, 1) := by decide +kernel
theorem dX6_told_75 : decode cX6_told 75 = .ok (.iconst 3, 1) := by decide +kernel
theorem dX6_told_76 : decode cX6_told 76 = .ok (.isub, 1) := by decide +kernel
theorem dX6_told_77 : decode cX6_told 77 = .ok (.iconst 2, 1) := by decide +kernel
theorem dX6_told_78 : decode cX6_told 78 = .ok (.idiv, 1) := by decide +kernel
theorem dX6_told_79 : decode cX6_told 79 = .ok (.iadd, 1) := by decide +kernel
theorem dX6_told_80 : decode cX6_told 80 = .ok (.istore_n 3, 1) := by decide +kernel
theorem dX6_told_81 : decode cX6_told 81 = .ok (.iload_n 2, 1) := by decide +kernel
theorem dX6_told_82 : decode cX6_told 82 = .ok (.iconst 2, 1) := by decide +kernel
theorem dX6_told_83 : decode cX6_told 83 = .ok (.irem, 1) := by decide +kernel
theorem dX6_told_84 : decode cX6_told 84 = .ok (.iconst 1, 1) := by decide +kernel
theorem dX6_told_85 : decode cX6_told 85 = .ok (.if_icmp .ne 12, 3) := by decide +kernel
theorem dX6_told_88 : decode cX6_told 88 = .ok (.aload_n 0, 1) := by decide +kernel
theorem dX6_told_89 : decode cX6_told 89 = .ok (.getfield 32, 3) := by decide +kernel
theorem dX6_told_92 : decode cX6_told 92 = .ok (.iload_n 3, 1) := by decide +kernel
theorem dX6_told_93 : decode cX6_told 93 = .ok (.iaload, 1) := by decide +kernel
theorem dX6_told_94 : decode cX6_told 94 = .ok (.goto 9, 3) := by decide +kernel
theorem dX6_told_97 : decode cX6_told 97 = .ok (.aload_n 0, 1) := by decide +kernel
theorem dX6_told_98 : decode cX6_told 98 = .ok (.getfield 35, 3) := by decide +kernel
theorem dX6_told_101 : decode cX6_told 101 = .ok (.iload_n 3, 1) := by decide +kernel
theorem dX6_told_102 : decode cX6_told 102 = .ok (.iaload, 1) := by decide +kernel
theorem dX6_told_103 : decode cX6_told 103 = .ok (.ireturn, 1) := by decide +kernel
theorem dX6_toldAt_0 : decode cX6_toldAt 0 = .ok (.aload_n 0, 1) := by decide +kernel
theorem dX6_toldAt_1 : decode cX6_toldAt 1 = .ok (.getfield 38, 3) := by decide +kernel
theorem dX6_toldAt_4 : decode cX6_toldAt 4 = .ok (.iload_n 1, 1) := by decide +kernel
theorem dX6_toldAt_5 : decode cX6_toldAt 5 = .ok (.iaload, 1) := by decide +kernel
theorem dX6_toldAt_6 : decode cX6_toldAt 6 = .ok (.istore_n 3, 1) := by decide +kernel
theorem dX6_toldAt_7 : decode cX6_toldAt 7 = .ok (.iload_n 3, 1) := by decide +kernel
theorem dX6_toldAt_8 : decode cX6_toldAt 8 = .ok (.ifCond .ne 5, 3) := by decide +kernel
theorem dX6_toldAt_11 : decode cX6_toldAt 11 = .ok (.iconst 0, 1) := by decide +kernel
theorem dX6_toldAt_12 : decode cX6_toldAt 12 = .ok (.ireturn, 1) := by decide +kernel
theorem dX6_toldAt_13 : decode cX6_toldAt 13 = .ok (.bipush 8, 2) := by decide +kernel
theorem dX6_toldAt_15 : decode cX6_toldAt 15 = .ok (.iload_n 1, 1) := by decide +kernel
theorem dX6_toldAt_16 : decode cX6_toldAt 16 = .ok (.imul, 1) := by decide +kernel
theorem dX6_toldAt_17 : decode cX6_toldAt 17 = .ok (.istore 4, 2) := by decide +kernel
theorem dX6_toldAt_19 : decode cX6_toldAt 19 = .ok (.iload_n 2, 1) := by decide +kernel
theorem dX6_toldAt_20 : decode cX6_toldAt 20 = .ok (.aload_n 0, 1) := by decide +kernel
theorem dX6_toldAt_21 : decode cX6_toldAt 21 = .ok (.getfield 32, 3) := by decide +kernel
theorem dX6_toldAt_24 : decode cX6_toldAt 24 = .ok (.iload 4, 2) := by decide +kernel
theorem dX6_toldAt_26 : decode cX6_toldAt 26 = .ok (.iaload, 1) := by decide +kernel
theorem dX6_toldAt_27 : decode cX6_toldAt 27 = .ok (.if_icmp .gt 15, 3) := by decide +kernel
theorem dX6_toldAt_30 : decode cX6_toldAt 30 = .ok (.sipush 1000, 3) := by decide +kernel
theorem dX6_toldAt_33 : decode cX6_toldAt 33 = .ok (.aload_n 0, 1) := by decide +kernel
theorem dX6_toldAt_34 : decode cX6_toldAt 34 = .ok (.getfield 35, 3) := by decide +kernel
theorem dX6_toldAt_37 : decode cX6_toldAt 37 = .ok (.iload 4, 2) := by decide +kernel
theorem dX6_toldAt_39 : decode cX6_toldAt 39 = .ok (.iaload, 1) := by decide +kernel
theorem dX6_toldAt_40 : decode cX6_toldAt 40 = .ok (.imul, 1) := by decide +kernel
theorem dX6_toldAt_41 : decode cX6_toldAt 41 = .ok (.ireturn, 1) := by decide +kernel
theorem dX6_toldAt_42 : decode cX6_toldAt 42 = .ok (.iload_n 2, 1) := by decide +kernel
theorem dX6_toldAt_43 : decode cX6_toldAt 43 = .ok (.aload_n 0, 1) := by decide +kernel
theorem dX6_toldAt_44 : decode cX6_toldAt 44 = .ok (.getfield 32, 3) := by decide +kernel
theorem dX6_toldAt_47 : decode cX6_toldAt 47 = .ok (.iload 4, 2) := by decide +kernel
theorem dX6_toldAt_49 : decode cX6_toldAt 49 = .ok (.iload_n 3, 1) := by decide +kernel
theorem dX6_toldAt_50 : decode cX6_toldAt 50 = .ok (.iadd, 1) := by decide +kernel
theorem dX6_toldAt_51 : decode cX6_toldAt 51 = .ok (.iconst 1, 1) := by decide +kernel
theorem dX6_toldAt_52 : decode cX6_toldAt 52 = .ok (.isub, 1) := by decide +kernel
theorem dX6_toldAt_53 : decode cX6_toldAt 53 = .ok (.iaload, 1) := by decide +kernel
theorem dX6_toldAt_54 : decode cX6_toldAt 54 = .ok (.if_icmp .lt 19, 3) := by decide +kernel
theorem dX6_toldAt_57 : decode cX6_toldAt 57 = .ok (.sipush 1000, 3) := by decide +kernel
theorem dX6_toldAt_60 : decode cX6_toldAt 60 = .ok (.aload_n 0, 1) := by decide +kernel
theorem dX6_toldAt_61 : decode cX6_toldAt 61 = .ok (.getfield 35, 3) := by decide +kernel
theorem dX6_toldAt_64 : decode cX6_toldAt 64 = .ok (.iload 4, 2) := by decide +kernel
theorem dX6_toldAt_66 : decode cX6_toldAt 66 = .ok (.iload_n 3, 1) := by decide +kernel
theorem dX6_toldAt_67 : decode cX6_toldAt 67 = .ok (.iadd, 1) := by decide +kernel
theorem dX6_toldAt_68 : decode cX6_toldAt 68 = .ok (.iconst 1, 1) := by decide +kernel
theorem dX6_toldAt_69 : decode cX6_toldAt 69 = .ok (.isub, 1) := by decide +kernel
theorem dX6_toldAt_70 : decode cX6_toldAt 70 = .ok (.iaload, 1) := by decide +kernel
theorem dX6_toldAt_71 : decode cX6_toldAt 71 = .ok (.imul, 1) := by decide +kernel
theorem dX6_toldAt_72 : decode cX6_toldAt 72 = .ok (.ireturn, 1) := by decide +kernel
theorem dX6_toldAt_73 : decode cX6_toldAt 73 = .ok (.iload 4, 2) := by decide +kernel
theorem dX6_toldAt_75 : decode cX6_toldAt 75 = .ok (.istore 5, 2) := by decide +kernel
theorem dX6_toldAt_77 : decode cX6_toldAt 77 = .ok (.aload_n 0, 1) := by decide +kernel
theorem dX6_toldAt_78 : decode cX6_toldAt 78 = .ok (.getfield 32, 3) := by decide +kernel
theorem dX6_toldAt_81 : decode cX6_toldAt 81 = .ok (.iload 5, 2) := by decide +kernel
theorem dX6_toldAt_83 : decode cX6_toldAt 83 = .ok (.iconst 1, 1) := by decide +kernel
theorem dX6_toldAt_84 : decode cX6_toldAt 84 = .ok (.iadd, 1) := by decide +kernel
theorem dX6_toldAt_85 : decode cX6_toldAt 85 = .ok (.iaload, 1) := by decide +kernel
theorem dX6_toldAt_86 : decode cX6_toldAt 86 = .ok (.iload_n 2, 1) := by decide +kernel
theorem dX6_toldAt_87 : decode cX6_toldAt 87 = .ok (.if_icmp .gt 9, 3) := by decide +kernel
theorem dX6_toldAt_90 : decode cX6_toldAt 90 = .ok (.iinc 5 1, 3) := by decide +kernel
theorem dX6_toldAt_93 : decode cX6_toldAt 93 = .ok (.goto (-16), 3) := by decide +kernel
theorem dX6_toldAt_96 : decode cX6_toldAt 96 = .ok (.sipush 1000, 3) := by decide +kernel
theorem dX6_toldAt_99 : decode cX6_toldAt 99 = .ok (.aload_n 0, 1) := by decide +kernel
theorem dX6_toldAt_100 : decode cX6_toldAt 100 = .ok (.getfield 35, 3) := by decide +kernel
theorem dX6_toldAt_103 : decode cX6_toldAt 103 = .ok (.iload 5, 2) := by decide +kernel
theorem dX6_toldAt_105 : decode cX6_toldAt 105 = .ok (.iaload, 1) := by decide +kernel
theorem dX6_toldAt_106 : decode cX6_toldAt 106 = .ok (.imul, 1) := by decide +kernel
theorem dX6_toldAt_107 : decode cX6_toldAt 107 = .ok (.sipush 1000, 3) := by decide +kernel
theorem dX6_toldAt_110 : decode cX6_toldAt 110 = .ok (.aload_n 0, 1) := by decide +kernel
theorem dX6_toldAt_111 : decode cX6_toldAt 111 = .ok (.getfield 35, 3) := by decide +kernel
theorem dX6_toldAt_114 : decode cX6_toldAt 114 = .ok (.iload 5, 2) := by decide +kernel
theorem dX6_toldAt_116 : decode cX6_toldAt 116 = .ok (.iconst 1, 1) := by decide +kernel
theorem dX6_toldAt_117 : decode cX6_toldAt 117 = .ok (.iadd, 1) := by decide +kernel
theorem dX6_toldAt_118 : decode cX6_toldAt 118 = .ok (.iaload, 1) := by decide +kernel
theorem dX6_toldAt_119 : decode cX6_toldAt 119 = .ok (.aload_n 0, 1) := by decide +kernel
theorem dX6_toldAt_120 : decode cX6_toldAt 120 = .ok (.getfield 35, 3) := by decide +kernel
theorem dX6_toldAt_123 : decode cX6_toldAt 123 = .ok (.iload 5, 2) := by decide +kernel
theorem dX6_toldAt_125 : decode cX6_toldAt 125 = .ok (.iaload, 1) := by decide +kernel
theorem dX6_toldAt_126 : decode cX6_toldAt 126 = .ok (.isub, 1) := by decide +kernel
theorem dX6_toldAt_127 : decode cX6_toldAt 127 = .ok (.imul, 1) := by decide +kernel
theorem dX6_toldAt_128 : decode cX6_toldAt 128 = .ok (.iload_n 2, 1) := by decide +kernel
theorem dX6_toldAt_129 : decode cX6_toldAt 129 = .ok (.aload_n 0, 1) := by decide +kernel
theorem dX6_toldAt_130 : decode cX6_toldAt 130 = .ok (.getfield 32, 3) := by decide +kernel
theorem dX6_toldAt_133 : decode cX6_toldAt 133 = .ok (.iload 5, 2) := by decide +kernel
theorem dX6_toldAt_135 : decode cX6_toldAt 135 = .ok (.iaload, 1) := by decide +kernel
theorem dX6_toldAt_136 : decode cX6_toldAt 136 = .ok (.isub, 1) := by decide +kernel
theorem dX6_toldAt_137 : decode cX6_toldAt 137 = .ok (.imul, 1) := by decide +kernel
theorem dX6_toldAt_138 : decode cX6_toldAt 138 = .ok (.aload_n 0, 1) := by decide +kernel
theorem dX6_toldAt_139 : decode cX6_toldAt 139 = .ok (.getfield 32, 3) := by decide +kernel
theorem dX6_toldAt_142 : decode cX6_toldAt 142 = .ok (.iload 5, 2) := by decide +kernel
theorem dX6_toldAt_144 : decode cX6_toldAt 144 = .ok (.iconst 1, 1) := by decide +kernel
theorem dX6_toldAt_145 : decode cX6_toldAt 145 = .ok (.iadd, 1) := by decide +kernel
theorem dX6_toldAt_146 : decode cX6_toldAt 146 = .ok (.iaload, 1) := by decide +kernel
theorem dX6_toldAt_147 : decode cX6_toldAt 147 = .ok (.aload_n 0, 1) := by decide +kernel
theorem dX6_toldAt_148 : decode cX6_toldAt 148 = .ok (.getfield 32, 3) := by decide +kernel
theorem dX6_toldAt_151 : decode cX6_toldAt 151 = .ok (.iload 5, 2) := by decide +kernel
theorem dX6_toldAt_153 : decode cX6_toldAt 153 = .ok (.iaload, 1) := by decide +kernel
theorem dX6_toldAt_154 : decode cX6_toldAt 154 = .ok (.isub, 1) := by decide +kernel
theorem dX6_toldAt_155 : decode cX6_toldAt 155 = .ok (.idiv, 1) := by decide +kernel
theorem dX6_toldAt_156 : decode cX6_toldAt 156 = .ok (.iadd, 1) := by decide +kernel
theorem dX6_toldAt_157 : decode cX6_toldAt 157 = .ok (.ireturn, 1) := by decide +kernel
theorem dX6_lateAt_0 : decode cX6_lateAt 0 = .ok (.iload_n 2, 1) := by decide +kernel
theorem dX6_lateAt_1 : decode cX6_lateAt 1 = .ok (.bipush 10, 2) := by decide +kernel
theorem dX6_lateAt_3 : decode cX6_lateAt 3 = .ok (.aload_n 0, 1) := by decide +kernel
theorem dX6_lateAt_4 : decode cX6_lateAt 4 = .ok (.getfield 29, 3) := by decide +kernel
theorem dX6_lateAt_7 : decode cX6_lateAt 7 = .ok (.iload_n 1, 1) := by decide +kernel
theorem dX6_lateAt_8 : decode cX6_lateAt 8 = .ok (.iaload, 1) := by decide +kernel
theorem dX6_lateAt_9 : decode cX6_lateAt 9 = .ok (.imul, 1) := by decide +kernel
theorem dX6_lateAt_10 : decode cX6_lateAt 10 = .ok (.isub, 1) := by decide +kernel
theorem dX6_lateAt_11 : decode cX6_lateAt 11 = .ok (.istore_n 3, 1) := by decide +kernel
theorem dX6_lateAt_12 : decode cX6_lateAt 12 = .ok (.aload_n 0, 1) := by decide +kernel
theorem dX6_lateAt_13 : decode cX6_lateAt 13 = .ok (.iload_n 1, 1) := by decide +kernel
theorem dX6_lateAt_14 : decode cX6_lateAt 14 = .ok (.iload_n 3, 1) := by decide +kernel
theorem dX6_lateAt_15 : decode cX6_lateAt 15 = .ok (.ifCond .ge 7, 3) := by decide +kernel
theorem dX6_lateAt_18 : decode cX6_lateAt 18 = .ok (.iconst 0, 1) := by decide +kernel
theorem dX6_lateAt_19 : decode cX6_lateAt 19 = .ok (.goto 4, 3) := by decide +kernel
theorem dX6_lateAt_22 : decode cX6_lateAt 22 = .ok (.iload_n 3, 1) := by decide +kernel
theorem dX6_lateAt_23 : decode cX6_lateAt 23 = .ok (.invokevirtual 113, 3) := by decide +kernel
theorem dX6_lateAt_26 : decode cX6_lateAt 26 = .ok (.ireturn, 1) := by decide +kernel
theorem dX6_where_0 : decode cX6_where 0 = .ok (.iload_n 1, 1) := by decide +kernel
theorem dX6_where_1 : decode cX6_where 1 = .ok (.bipush 6, 2) := by decide +kernel
theorem dX6_where_3 : decode cX6_where 3 = .ok (.if_icmp .ne 7, 3) := by decide +kernel
theorem dX6_where_6 : decode cX6_where 6 = .ok (.iconst 0, 1) := by decide +kernel
theorem dX6_where_7 : decode cX6_where 7 = .ok (.goto 9, 3) := by decide +kernel
theorem dX6_where_10 : decode cX6_where 10 = .ok (.aload_n 0, 1) := by decide +kernel
theorem dX6_where_11 : decode cX6_where 11 = .ok (.getfield 26, 3) := by decide +kernel
theorem dX6_where_14 : decode cX6_where 14 = .ok (.iload_n 1, 1) := by decide +kernel
theorem dX6_where_15 : decode cX6_where 15 = .ok (.iaload, 1) := by decide +kernel
theorem dX6_where_16 : decode cX6_where 16 = .ok (.istore_n 3, 1) := by decide +kernel
theorem dX6_where_17 : decode cX6_where 17 = .ok (.iconst 0, 1) := by decide +kernel
theorem dX6_where_18 : decode cX6_where 18 = .ok (.istore 4, 2) := by decide +kernel
theorem dX6_where_20 : decode cX6_where 20 = .ok (.iload_n 3, 1) := by decide +kernel
theorem dX6_where_21 : decode cX6_where 21 = .ok (.ifCond .ne 11, 3) := by decide +kernel
theorem dX6_where_24 : decode cX6_where 24 = .ok (.aload_n 0, 1) := by decide +kernel
theorem dX6_where_25 : decode cX6_where 25 = .ok (.iload_n 1, 1) := by decide +kernel
theorem dX6_where_26 : decode cX6_where 26 = .ok (.iload_n 2, 1) := by decide +kernel
theorem dX6_where_27 : decode cX6_where 27 = .ok (.invokevirtual 113, 3) := by decide +kernel
theorem dX6_where_30 : decode cX6_where 30 = .ok (.istore 4, 2) := by decide +kernel
theorem dX6_where_32 : decode cX6_where 32 = .ok (.iload_n 3, 1) := by decide +kernel
theorem dX6_where_33 : decode cX6_where 33 = .ok (.iconst 1, 1) := by decide +kernel
theorem dX6_where_34 : decode cX6_where 34 = .ok (.if_icmp .ne 11, 3) := by decide +kernel
theorem dX6_where_37 : decode cX6_where 37 = .ok (.aload_n 0, 1) := by decide +kernel
theorem dX6_where_38 : decode cX6_where 38 = .ok (.iload_n 1, 1) := by decide +kernel
theorem dX6_where_39 : decode cX6_where 39 = .ok (.iload_n 2, 1) := by decide +kernel
theorem dX6_where_40 : decode cX6_where 40 = .ok (.invokevirtual 117, 3) := by decide +kernel
theorem dX6_where_43 : decode cX6_where 43 = .ok (.istore 4, 2) := by decide +kernel
theorem dX6_where_45 : decode cX6_where 45 = .ok (.iload_n 3, 1) := by decide +kernel
theorem dX6_where_46 : decode cX6_where 46 = .ok (.iconst 3, 1) := by decide +kernel
theorem dX6_where_47 : decode cX6_where 47 = .ok (.if_icmp .ne 13, 3) := by decide +kernel
theorem dX6_where_50 : decode cX6_where 50 = .ok (.aload_n 0, 1) := by decide +kernel
theorem dX6_where_51 : decode cX6_where 51 = .ok (.iload_n 1, 1) := by decide +kernel
theorem dX6_where_52 : decode cX6_where 52 = .ok (.iload_n 2, 1) := by decide +kernel
theorem dX6_where_53 : decode cX6_where 53 = .ok (.invokevirtual 117, 3) := by decide +kernel
theorem dX6_where_56 : decode cX6_where 56 = .ok (.iconst 2, 1) := by decide +kernel
theorem dX6_where_57 : decode cX6_where 57 = .ok (.idiv, 1) := by decide +kernel
theorem dX6_where_58 : decode cX6_where 58 = .ok (.istore 4, 2) := by decide +kernel
theorem dX6_where_60 : decode cX6_where 60 = .ok (.iload_n 3, 1) := by decide +kernel
theorem dX6_where_61 : decode cX6_where 61 = .ok (.iconst 5, 1) := by decide +kernel
theorem dX6_where_62 : decode cX6_where 62 = .ok (.if_icmp .ne 26, 3) := by decide +kernel
theorem dX6_where_65 : decode cX6_where 65 = .ok (.aload_n 0, 1) := by decide +kernel
theorem dX6_where_66 : decode cX6_where 66 = .ok (.iload_n 1, 1) := by decide +kernel
theorem dX6_where_67 : decode cX6_where 67 = .ok (.iload_n 2, 1) := by decide +kernel
theorem dX6_where_68 : decode cX6_where 68 = .ok (.invokevirtual 117, 3) := by decide +kernel
theorem dX6_where_71 : decode cX6_where 71 = .ok (.sipush 1000, 3) := by decide +kernel
theorem dX6_where_74 : decode cX6_where 74 = .ok (.iload_n 2, 1) := by decide +kernel
theorem dX6_where_75 : decode cX6_where 75 = .ok (.aload_n 0, 1) := by decide +kernel
theorem dX6_where_76 : decode cX6_where 76 = .ok (.getfield 29, 3) := by decide +kernel
theorem dX6_where_79 : decode cX6_where 79 = .ok (.iload_n 1, 1) := by decide +kernel
theorem dX6_where_80 : decode cX6_where 80 = .ok (.iaload, 1) := by decide +kernel
theorem dX6_where_81 : decode cX6_where 81 = .ok (.iconst 2, 1) := by decide +kernel
theorem dX6_where_82 : decode cX6_where 82 = .ok (.iadd, 1) := by decide +kernel
theorem dX6_where_83 : decode cX6_where 83 = .ok (.irem, 1) := by decide +kernel
theorem dX6_where_84 : decode cX6_where 84 = .ok (.imul, 1) := by decide +kernel
theorem dX6_where_85 : decode cX6_where 85 = .ok (.iadd, 1) := by decide +kernel
theorem dX6_where_86 : decode cX6_where 86 = .ok (.istore 4, 2) := by decide +kernel
theorem dX6_where_88 : decode cX6_where 88 = .ok (.iload_n 3, 1) := by decide +kernel
theorem dX6_where_89 : decode cX6_where 89 = .ok (.iconst 2, 1) := by decide +kernel
theorem dX6_where_90 : decode cX6_where 90 = .ok (.if_icmp .ne 20, 3) := by decide +kernel
theorem dX6_where_93 : decode cX6_where 93 = .ok (.sipush 1000, 3) := by decide +kernel
theorem dX6_where_96 : decode cX6_where 96 = .ok (.aload_n 0, 1) := by decide +kernel
theorem dX6_where_97 : decode cX6_where 97 = .ok (.getfield 23, 3) := by decide +kernel
theorem dX6_where_100 : decode cX6_where 100 = .ok (.imul, 1) := by decide +kernel
theorem dX6_where_101 : decode cX6_where 101 = .ok (.aload_n 0, 1) := by decide +kernel
theorem dX6_where_102 : decode cX6_where 102 = .ok (.iload_n 1, 1) := by decide +kernel
theorem dX6_where_103 : decode cX6_where 103 = .ok (.iload_n 2, 1) := by decide +kernel
theorem dX6_where_104 : decode cX6_where 104 = .ok (.invokevirtual 113, 3) := by decide +kernel
theorem dX6_where_107 : decode cX6_where 107 = .ok (.isub, 1) := by decide +kernel
theorem dX6_where_108 : decode cX6_where 108 = .ok (.istore 4, 2) := by decide +kernel
theorem dX6_where_110 : decode cX6_where 110 = .ok (.iload_n 3, 1) := by decide +kernel
theorem dX6_where_111 : decode cX6_where 111 = .ok (.iconst 4, 1) := by decide +kernel
theorem dX6_where_112 : decode cX6_where 112 = .ok (.if_icmp .ne 31, 3) := by decide +kernel
theorem dX6_where_115 : decode cX6_where 115 = .ok (.sipush 1000, 3) := by decide +kernel
theorem dX6_where_118 : decode cX6_where 118 = .ok (.aload_n 0, 1) := by decide +kernel
theorem dX6_where_119 : decode cX6_where 119 = .ok (.getfield 23, 3) := by decide +kernel
theorem dX6_where_122 : decode cX6_where 122 = .ok (.imul, 1) := by decide +kernel
theorem dX6_where_123 : decode cX6_where 123 = .ok (.aload_n 0, 1) := by decide +kernel
theorem dX6_where_124 : decode cX6_where 124 = .ok (.iload_n 1, 1) := by decide +kernel
theorem dX6_where_125 : decode cX6_where 125 = .ok (.iload_n 2, 1) := by decide +kernel
theorem dX6_where_126 : decode cX6_where 126 = .ok (.iload_n 2, 1) := by decide +kernel
theorem dX6_where_127 : decode cX6_where 127 = .ok (.aload_n 0, 1) := by decide +kernel
theorem dX6_where_128 : decode cX6_where 128 = .ok (.getfield 29, 3) := by decide +kernel
theorem dX6_where_131 : decode cX6_where 131 = .ok (.iload_n 1, 1) := by decide +kernel
theorem dX6_where_132 : decode cX6_where 132 = .ok (.iaload, 1) := by decide +kernel
theorem dX6_where_133 : decode cX6_where 133 = .ok (.iconst 1, 1) := by decide +kernel
theorem dX6_where_134 : decode cX6_where 134 = .ok (.iadd, 1) := by decide +kernel
theorem dX6_where_135 : decode cX6_where 135 = .ok (.irem, 1) := by decide +kernel
theorem dX6_where_136 : decode cX6_where 136 = .ok (.isub, 1) := by decide +kernel
theorem dX6_where_137 : decode cX6_where 137 = .ok (.invokevirtual 113, 3) := by decide +kernel
theorem dX6_where_140 : decode cX6_where 140 = .ok (.isub, 1) := by decide +kernel
theorem dX6_where_141 : decode cX6_where 141 = .ok (.istore 4, 2) := by decide +kernel
theorem dX6_where_143 : decode cX6_where 143 = .ok (.iload 4, 2) := by decide +kernel
theorem dX6_where_145 : decode cX6_where 145 = .ok (.iconst 0, 1) := by decide +kernel
theorem dX6_where_146 : decode cX6_where 146 = .ok (.sipush 1000, 3) := by decide +kernel
theorem dX6_where_149 : decode cX6_where 149 = .ok (.aload_n 0, 1) := by decide +kernel
theorem dX6_where_150 : decode cX6_where 150 = .ok (.getfield 23, 3) := by decide +kernel
theorem dX6_where_153 : decode cX6_where 153 = .ok (.imul, 1) := by decide +kernel
theorem dX6_where_154 : decode cX6_where 154 = .ok (.invokestatic 120, 3) := by decide +kernel
theorem dX6_where_157 : decode cX6_where 157 = .ok (.ireturn, 1) := by decide +kernel
theorem dX6_feed_0 : decode cX6_feed 0 = .ok (.iload_n 1, 1) := by decide +kernel
theorem dX6_feed_1 : decode cX6_feed 1 = .ok (.i2l, 1) := by decide +kernel
theorem dX6_feed_2 : decode cX6_feed 2 = .ok (.lconst 0, 1) := by decide +kernel
theorem dX6_feed_3 : decode cX6_feed 3 = .ok (.ldc2_w 124, 3) := by decide +kernel
theorem dX6_feed_6 : decode cX6_feed 6 = .ok (.invokestatic 92, 3) := by decide +kernel
theorem dX6_feed_9 : decode cX6_feed 9 = .ok (.ifCond .ne 6, 3) := by decide +kernel
theorem dX6_feed_12 : decode cX6_feed 12 = .ok (.bipush (-2), 2) := by decide +kernel
theorem dX6_feed_14 : decode cX6_feed 14 = .ok (.ireturn, 1) := by decide +kernel
theorem dX6_feed_15 : decode cX6_feed 15 = .ok (.aload_n 0, 1) := by decide +kernel
theorem dX6_feed_16 : decode cX6_feed 16 = .ok (.getfield 126, 3) := by decide +kernel
theorem dX6_feed_19 : decode cX6_feed 19 = .ok (.sipush 160, 3) := by decide +kernel
theorem dX6_feed_22 : decode cX6_feed 22 = .ok (.if_icmp .ne 6, 3) := by decide +kernel
theorem dX6_feed_25 : decode cX6_feed 25 = .ok (.bipush (-4), 2) := by decide +kernel
theorem dX6_feed_27 : decode cX6_feed 27 = .ok (.ireturn, 1) := by decide +kernel
theorem dX6_feed_28 : decode cX6_feed 28 = .ok (.aload_n 0, 1) := by decide +kernel
theorem dX6_feed_29 : decode cX6_feed 29 = .ok (.getfield 20, 3) := by decide +kernel
theorem dX6_feed_32 : decode cX6_feed 32 = .ok (.aload_n 0, 1) := by decide +kernel
theorem dX6_feed_33 : decode cX6_feed 33 = .ok (.getfield 126, 3) := by decide +kernel
theorem dX6_feed_36 : decode cX6_feed 36 = .ok (.iload_n 1, 1) := by decide +kernel
theorem dX6_feed_37 : decode cX6_feed 37 = .ok (.iastore, 1) := by decide +kernel
theorem dX6_feed_38 : decode cX6_feed 38 = .ok (.aload_n 0, 1) := by decide +kernel
theorem dX6_feed_39 : decode cX6_feed 39 = .ok (.dup, 1) := by decide +kernel
theorem dX6_feed_40 : decode cX6_feed 40 = .ok (.getfield 126, 3) := by decide +kernel
theorem dX6_feed_43 : decode cX6_feed 43 = .ok (.iconst 1, 1) := by decide +kernel
theorem dX6_feed_44 : decode cX6_feed 44 = .ok (.iadd, 1) := by decide +kernel
theorem dX6_feed_45 : decode cX6_feed 45 = .ok (.putfield 126, 3) := by decide +kernel
theorem dX6_feed_48 : decode cX6_feed 48 = .ok (.aload_n 0, 1) := by decide +kernel
theorem dX6_feed_49 : decode cX6_feed 49 = .ok (.getfield 126, 3) := by decide +kernel
theorem dX6_feed_52 : decode cX6_feed 52 = .ok (.ireturn, 1) := by decide +kernel
theorem dX6_byteAt_0 : decode cX6_byteAt 0 = .ok (.iload_n 1, 1) := by decide +kernel
theorem dX6_byteAt_1 : decode cX6_byteAt 1 = .ok (.aload_n 0, 1) := by decide +kernel
theorem dX6_byteAt_2 : decode cX6_byteAt 2 = .ok (.getfield 129, 3) := by decide +kernel
theorem dX6_byteAt_5 : decode cX6_byteAt 5 = .ok (.if_icmp .ge 17, 3) := by decide +kernel
theorem dX6_byteAt_8 : decode cX6_byteAt 8 = .ok (.aload_n 0, 1) := by decide +kernel
theorem dX6_byteAt_9 : decode cX6_byteAt 9 = .ok (.getfield 13, 3) := by decide +kernel
theorem dX6_byteAt_12 : decode cX6_byteAt 12 = .ok (.aload_n 0, 1) := by decide +kernel
theorem dX6_byteAt_13 : decode cX6_byteAt 13 = .ok (.getfield 132, 3) := by decide +kernel
theorem dX6_byteAt_16 : decode cX6_byteAt 16 = .ok (.iload_n 1, 1) := by decide +kernel
theorem dX6_byteAt_17 : decode cX6_byteAt 17 = .ok (.iadd, 1) := by decide +kernel
theorem dX6_byteAt_18 : decode cX6_byteAt 18 = .ok (.iaload, 1) := by decide +kernel
theorem dX6_byteAt_19 : decode cX6_byteAt 19 = .ok (.goto 4, 3) := by decide +kernel
theorem dX6_byteAt_22 : decode cX6_byteAt 22 = .ok (.iconst (-1), 1) := by decide +kernel
theorem dX6_byteAt_23 : decode cX6_byteAt 23 = .ok (.ireturn, 1) := by decide +kernel
theorem dX6_next_0 : decode cX6_next 0 = .ok (.aload_n 0, 1) := by decide +kernel
theorem dX6_next_1 : decode cX6_next 1 = .ok (.aload_n 0, 1) := by decide +kernel
theorem dX6_next_2 : decode cX6_next 2 = .ok (.getfield 135, 3) := by decide +kernel
theorem dX6_next_5 : decode cX6_next 5 = .ok (.invokevirtual 138, 3) := by decide +kernel
theorem dX6_next_8 : decode cX6_next 8 = .ok (.bipush 32, 2) := by decide +kernel
theorem dX6_next_10 : decode cX6_next 10 = .ok (.if_icmp .eq 16, 3) := by decide +kernel
theorem dX6_next_13 : decode cX6_next 13 = .ok (.aload_n 0, 1) := by decide +kernel
theorem dX6_next_14 : decode cX6_next 14 = .ok (.aload_n 0, 1) := by decide +kernel
theorem dX6_next_15 : decode cX6_next 15 = .ok (.getfield 135, 3) := by decide +kernel
theorem dX6_next_18 : decode cX6_next 18 = .ok (.invokevirtual 138, 3) := by decide +kernel
theorem dX6_next_21 : decode cX6_next 21 = .ok (.bipush 10, 2) := by decide +kernel
theorem dX6_next_23 : decode cX6_next 23 = .ok (.if_icmp .ne 16, 3) := by decide +kernel
theorem dX6_next_26 : decode cX6_next 26 = .ok (.aload_n 0, 1) := by decide +kernel
theorem dX6_next_27 : decode cX6_next 27 = .ok (.dup, 1) := by decide +kernel
theorem dX6_next_28 : decode cX6_next 28 = .ok (.getfield 135, 3) := by decide +kernel
theorem dX6_next_31 : decode cX6_next 31 = .ok (.iconst 1, 1) := by decide +kernel
theorem dX6_next_32 : decode cX6_next 32 = .ok (.iadd, 1) := by decide +kernel
theorem dX6_next_33 : decode cX6_next 33 = .ok (.putfield 135, 3) := by decide +kernel
theorem dX6_next_36 : decode cX6_next 36 = .ok (.goto (-36), 3) := by decide +kernel
theorem dX6_next_39 : decode cX6_next 39 = .ok (.aload_n 0, 1) := by decide +kernel
theorem dX6_next_40 : decode cX6_next 40 = .ok (.aload_n 0, 1) := by decide +kernel
theorem dX6_next_41 : decode cX6_next 41 = .ok (.getfield 135, 3) := by decide +kernel
theorem dX6_next_44 : decode cX6_next 44 = .ok (.putfield 142, 3) := by decide +kernel
theorem dX6_next_47 : decode cX6_next 47 = .ok (.aload_n 0, 1) := by decide +kernel
theorem dX6_next_48 : decode cX6_next 48 = .ok (.aload_n 0, 1) := by decide +kernel
theorem dX6_next_49 : decode cX6_next 49 = .ok (.getfield 135, 3) := by decide +kernel
theorem dX6_next_52 : decode cX6_next 52 = .ok (.invokevirtual 138, 3) := by decide +kernel
theorem dX6_next_55 : decode cX6_next 55 = .ok (.istore_n 1, 1) := by decide +kernel
theorem dX6_next_56 : decode cX6_next 56 = .ok (.aload_n 0, 1) := by decide +kernel
theorem dX6_next_57 : decode cX6_next 57 = .ok (.iconst 4, 1) := by decide +kernel
theorem dX6_next_58 : decode cX6_next 58 = .ok (.putfield 145, 3) := by decide +kernel
theorem dX6_next_61 : decode cX6_next 61 = .ok (.iload_n 1, 1) := by decide +kernel
theorem dX6_next_62 : decode cX6_next 62 = .ok (.ifCond .ge 19, 3) := by decide +kernel
theorem dX6_next_65 : decode cX6_next 65 = .ok (.aload_n 0, 1) := by decide +kernel
theorem dX6_next_66 : decode cX6_next 66 = .ok (.iconst 0, 1) := by decide +kernel
theorem dX6_next_67 : decode cX6_next 67 = .ok (.putfield 145, 3) := by decide +kernel
theorem dX6_next_70 : decode cX6_next 70 = .ok (.aload_n 0, 1) := by decide +kernel
theorem dX6_next_71 : decode cX6_next 71 = .ok (.aload_n 0, 1) := by decide +kernel
theorem dX6_next_72 : decode cX6_next 72 = .ok (.getfield 129, 3) := by decide +kernel
theorem dX6_next_75 : decode cX6_next 75 = .ok (.putfield 142, 3) := by decide +kernel
theorem dX6_next_78 : decode cX6_next 78 = .ok (.goto 243, 3) := by decide +kernel
theorem dX6_next_81 : decode cX6_next 81 = .ok (.iload_n 1, 1) := by decide +kernel
theorem dX6_next_82 : decode cX6_next 82 = .ok (.i2l, 1) := by decide +kernel
theorem dX6_next_83 : decode cX6_next 83 = .ok (.ldc2_w 148, 3) := by decide +kernel
theorem dX6_next_86 : decode cX6_next 86 = .ok (.ldc2_w 150, 3) := by decide +kernel
theorem dX6_next_89 : decode cX6_next 89 = .ok (.invokestatic 92, 3) := by decide +kernel
theorem dX6_next_92 : decode cX6_next 92 = .ok (.ifCond .eq 42, 3) := by decide +kernel
theorem dX6_next_95 : decode cX6_next 95 = .ok (.aload_n 0, 1) := by decide +kernel
theorem dX6_next_96 : decode cX6_next 96 = .ok (.iconst 1, 1) := by decide +kernel
theorem dX6_next_97 : decode cX6_next 97 = .ok (.putfield 145, 3) := by decide +kernel
theorem dX6_next_100 : decode cX6_next 100 = .ok (.aload_n 0, 1) := by decide +kernel
theorem dX6_next_101 : decode cX6_next 101 = .ok (.aload_n 0, 1) := by decide +kernel
theorem dX6_next_102 : decode cX6_next 102 = .ok (.getfield 135, 3) := by decide +kernel
theorem dX6_next_105 : decode cX6_next 105 = .ok (.invokevirtual 138, 3) := by decide +kernel
theorem dX6_next_108 : decode cX6_next 108 = .ok (.i2l, 1) := by decide +kernel
theorem dX6_next_109 : decode cX6_next 109 = .ok (.ldc2_w 148, 3) := by decide +kernel
theorem dX6_next_112 : decode cX6_next 112 = .ok (.ldc2_w 150, 3) := by decide +kernel
theorem dX6_next_115 : decode cX6_next 115 = .ok (.invokestatic 92, 3) := by decide +kernel
theorem dX6_next_118 : decode cX6_next 118 = .ok (.ifCond .eq 203, 3) := by decide +kernel
theorem dX6_next_121 : decode cX6_next 121 = .ok (.aload_n 0, 1) := by decide +kernel
theorem dX6_next_122 : decode cX6_next 122 = .ok (.dup, 1) := by decide +kernel
theorem dX6_next_123 : decode cX6_next 123 = .ok (.getfield 135, 3) := by decide +kernel
theorem dX6_next_126 : decode cX6_next 126 = .ok (.iconst 1, 1) := by decide +kernel
theorem dX6_next_127 : decode cX6_next 127 = .ok (.iadd, 1) := by decide +kernel
theorem dX6_next_128 : decode cX6_next 128 = .ok (.putfield 135, 3) := by decide +kernel
theorem dX6_next_131 : decode cX6_next 131 = .ok (.goto (-31), 3) := by decide +kernel
theorem dX6_next_134 : decode cX6_next 134 = .ok (.iload_n 1, 1) := by decide +kernel
theorem dX6_next_135 : decode cX6_next 135 = .ok (.i2l, 1) := by decide +kernel
theorem dX6_next_136 : decode cX6_next 136 = .ok (.ldc2_w 152, 3) := by decide +kernel
theorem dX6_next_139 : decode cX6_next 139 = .ok (.ldc2_w 154, 3) := by decide +kernel
theorem dX6_next_142 : decode cX6_next 142 = .ok (.invokestatic 92, 3) := by decide +kernel
theorem dX6_next_145 : decode cX6_next 145 = .ok (.ifCond .eq 107, 3) := by decide +kernel
theorem dX6_next_148 : decode cX6_next 148 = .ok (.aload_n 0, 1) := by decide +kernel
theorem dX6_next_149 : decode cX6_next 149 = .ok (.iconst 2, 1) := by decide +kernel
theorem dX6_next_150 : decode cX6_next 150 = .ok (.putfield 145, 3) := by decide +kernel
theorem dX6_next_153 : decode cX6_next 153 = .ok (.aload_n 0, 1) := by decide +kernel
theorem dX6_next_154 : decode cX6_next 154 = .ok (.lconst 0, 1) := by decide +kernel
theorem dX6_next_155 : decode cX6_next 155 = .ok (.putfield 156, 3) := by decide +kernel
theorem dX6_next_158 : decode cX6_next 158 = .ok (.iconst 0, 1) := by decide +kernel
theorem dX6_next_159 : decode cX6_next 159 = .ok (.istore_n 2, 1) := by decide +kernel
theorem dX6_next_160 : decode cX6_next 160 = .ok (.aload_n 0, 1) := by decide +kernel
theorem dX6_next_161 : decode cX6_next 161 = .ok (.aload_n 0, 1) := by decide +kernel
theorem dX6_next_162 : decode cX6_next 162 = .ok (.getfield 135, 3) := by decide +kernel
theorem dX6_next_165 : decode cX6_next 165 = .ok (.invokevirtual 138, 3) := by decide +kernel
theorem dX6_next_168 : decode cX6_next 168 = .ok (.i2l, 1) := by decide +kernel
theorem dX6_next_169 : decode cX6_next 169 = .ok (.ldc2_w 152, 3) := by decide +kernel
theorem dX6_next_172 : decode cX6_next 172 = .ok (.ldc2_w 154, 3) := by decide +kernel
theorem dX6_next_175 : decode cX6_next 175 = .ok (.invokestatic 92, 3) := by decide +kernel
theorem dX6_next_178 : decode cX6_next 178 = .ok (.ifCond .eq 57, 3) := by decide +kernel
theorem dX6_next_181 : decode cX6_next 181 = .ok (.aload_n 0, 1) := by decide +kernel
theorem dX6_next_182 : decode cX6_next 182 = .ok (.iload_n 2, 1) := by decide +kernel
theorem dX6_next_183 : decode cX6_next 183 = .ok (.iconst 4, 1) := by decide +kernel
theorem dX6_next_184 : decode cX6_next 184 = .ok (.if_icmp .ge 28, 3) := by decide +kernel
theorem dX6_next_187 : decode cX6_next 187 = .ok (.ldc2_w 102, 3) := by decide +kernel
theorem dX6_next_190 : decode cX6_next 190 = .ok (.aload_n 0, 1) := by decide +kernel
theorem dX6_next_191 : decode cX6_next 191 = .ok (.getfield 156, 3) := by decide +kernel
theorem dX6_next_194 : decode cX6_next 194 = .ok (.lmul, 1) := by decide +kernel
theorem dX6_next_195 : decode cX6_next 195 = .ok (.aload_n 0, 1) := by decide +kernel
theorem dX6_next_196 : decode cX6_next 196 = .ok (.aload_n 0, 1) := by decide +kernel
theorem dX6_next_197 : decode cX6_next 197 = .ok (.getfield 135, 3) := by decide +kernel
theorem dX6_next_200 : decode cX6_next 200 = .ok (.invokevirtual 138, 3) := by decide +kernel
theorem dX6_next_203 : decode cX6_next 203 = .ok (.i2l, 1) := by decide +kernel
theorem dX6_next_204 : decode cX6_next 204 = .ok (.ladd, 1) := by decide +kernel
theorem dX6_next_205 : decode cX6_next 205 = .ok (.ldc2_w 152, 3) := by decide +kernel
theorem dX6_next_208 : decode cX6_next 208 = .ok (.lsub, 1) := by decide +kernel
theorem dX6_next_209 : decode cX6_next 209 = .ok (.goto 7, 3) := by decide +kernel
theorem dX6_next_212 : decode cX6_next 212 = .ok (.aload_n 0, 1) := by decide +kernel
theorem dX6_next_213 : decode cX6_next 213 = .ok (.getfield 156, 3) := by decide +kernel
theorem dX6_next_216 : decode cX6_next 216 = .ok (.putfield 156, 3) := by decide +kernel
theorem dX6_next_219 : decode cX6_next 219 = .ok (.iinc 2 1, 3) := by decide +kernel
theorem dX6_next_222 : decode cX6_next 222 = .ok (.aload_n 0, 1) := by decide +kernel
theorem dX6_next_223 : decode cX6_next 223 = .ok (.dup, 1) := by decide +kernel
theorem dX6_next_224 : decode cX6_next 224 = .ok (.getfield 135, 3) := by decide +kernel
theorem dX6_next_227 : decode cX6_next 227 = .ok (.iconst 1, 1) := by decide +kernel
theorem dX6_next_228 : decode cX6_next 228 = .ok (.iadd, 1) := by decide +kernel
theorem dX6_next_229 : decode cX6_next 229 = .ok (.putfield 135, 3) := by decide +kernel
theorem dX6_next_232 : decode cX6_next 232 = .ok (.goto (-72), 3) := by decide +kernel
theorem dX6_next_235 : decode cX6_next 235 = .ok (.aload_n 0, 1) := by decide +kernel
theorem dX6_next_236 : decode cX6_next 236 = .ok (.iload_n 2, 1) := by decide +kernel
theorem dX6_next_237 : decode cX6_next 237 = .ok (.iconst 4, 1) := by decide +kernel
theorem dX6_next_238 : decode cX6_next 238 = .ok (.if_icmp .le 7, 3) := by decide +kernel
theorem dX6_next_241 : decode cX6_next 241 = .ok (.iconst 4, 1) := by decide +kernel
theorem dX6_next_242 : decode cX6_next 242 = .ok (.goto 4, 3) := by decide +kernel
theorem dX6_next_245 : decode cX6_next 245 = .ok (.iconst 2, 1) := by decide +kernel
theorem dX6_next_246 : decode cX6_next 246 = .ok (.putfield 145, 3) := by decide +kernel
theorem dX6_next_249 : decode cX6_next 249 = .ok (.goto 72, 3) := by decide +kernel
theorem dX6_next_252 : decode cX6_next 252 = .ok (.iload_n 1, 1) := by decide +kernel
theorem dX6_next_253 : decode cX6_next 253 = .ok (.bipush 40, 2) := by decide +kernel
theorem dX6_next_255 : decode cX6_next 255 = .ok (.if_icmp .eq 45, 3) := by decide +kernel
theorem dX6_next_258 : decode cX6_next 258 = .ok (.iload_n 1, 1) := by decide +kernel
theorem dX6_next_259 : decode cX6_next 259 = .ok (.bipush 41, 2) := by decide +kernel
theorem dX6_next_261 : decode cX6_next 261 = .ok (.if_icmp .eq 39, 3) := by decide +kernel
theorem dX6_next_264 : decode cX6_next 264 = .ok (.iload_n 1, 1) := by decide +kernel
theorem dX6_next_265 : decode cX6_next 265 = .ok (.bipush 59, 2) := by decide +kernel
theorem dX6_next_267 : decode cX6_next 267 = .ok (.if_icmp .eq 33, 3) := by decide +kernel
theorem dX6_next_270 : decode cX6_next 270 = .ok (.iload_n 1, 1) := by decide +kernel
theorem dX6_next_271 : decode cX6_next 271 = .ok (.bipush 43, 2) := by decide +kernel
theorem dX6_next_273 : decode cX6_next 273 = .ok (.if_icmp .eq 27, 3) := by decide +kernel
theorem dX6_next_276 : decode cX6_next 276 = .ok (.iload_n 1, 1) := by decide +kernel
theorem dX6_next_277 : decode cX6_next 277 = .ok (.bipush 45, 2) := by decide +kernel
theorem dX6_next_279 : decode cX6_next 279 = .ok (.if_icmp .eq 21, 3) := by decide +kernel
theorem dX6_next_282 : decode cX6_next 282 = .ok (.iload_n 1, 1) := by decide +kernel
theorem dX6_next_283 : decode cX6_next 283 = .ok (.bipush 42, 2) := by decide +kernel
theorem dX6_next_285 : decode cX6_next 285 = .ok (.if_icmp .eq 15, 3) := by decide +kernel
theorem dX6_next_288 : decode cX6_next 288 = .ok (.iload_n 1, 1) := by decide +kernel
theorem dX6_next_289 : decode cX6_next 289 = .ok (.bipush 60, 2) := by decide +kernel
theorem dX6_next_291 : decode cX6_next 291 = .ok (.if_icmp .eq 9, 3) := by decide +kernel
theorem dX6_next_294 : decode cX6_next 294 = .ok (.iload_n 1, 1) := by decide +kernel
theorem dX6_next_295 : decode cX6_next 295 = .ok (.bipush 61, 2) := by decide +kernel
theorem dX6_next_297 : decode cX6_next 297 = .ok (.if_icmp .ne 24, 3) := by decide +kernel
theorem dX6_next_300 : decode cX6_next 300 = .ok (.aload_n 0, 1) := by decide +kernel
theorem dX6_next_301 : decode cX6_next 301 = .ok (.iconst 3, 1) := by decide +kernel
theorem dX6_next_302 : decode cX6_next 302 = .ok (.putfield 145, 3) := by decide +kernel
theorem dX6_next_305 : decode cX6_next 305 = .ok (.aload_n 0, 1) := by decide +kernel
theorem dX6_next_306 : decode cX6_next 306 = .ok (.iload_n 1, 1) := by decide +kernel
theorem dX6_next_307 : decode cX6_next 307 = .ok (.i2l, 1) := by decide +kernel
theorem dX6_next_308 : decode cX6_next 308 = .ok (.putfield 156, 3) := by decide +kernel
theorem dX6_next_311 : decode cX6_next 311 = .ok (.aload_n 0, 1) := by decide +kernel
theorem dX6_next_312 : decode cX6_next 312 = .ok (.dup, 1) := by decide +kernel
theorem dX6_next_313 : decode cX6_next 313 = .ok (.getfield 135, 3) := by decide +kernel
theorem dX6_next_316 : decode cX6_next 316 = .ok (.iconst 1, 1) := by decide +kernel
theorem dX6_next_317 : decode cX6_next 317 = .ok (.iadd, 1) := by decide +kernel
theorem dX6_next_318 : decode cX6_next 318 = .ok (.putfield 135, 3) := by decide +kernel
theorem dX6_next_321 : decode cX6_next 321 = .ok (.return_, 1) := by decide +kernel
theorem dX6_fail_0 : decode cX6_fail 0 = .ok (.aload_n 0, 1) := by decide +kernel
theorem dX6_fail_1 : decode cX6_fail 1 = .ok (.getfield 160, 3) := by decide +kernel
theorem dX6_fail_4 : decode cX6_fail 4 = .ok (.ifCond .ne 16, 3) := by decide +kernel
theorem dX6_fail_7 : decode cX6_fail 7 = .ok (.aload_n 0, 1) := by decide +kernel
theorem dX6_fail_8 : decode cX6_fail 8 = .ok (.iconst 1, 1) := by decide +kernel
theorem dX6_fail_9 : decode cX6_fail 9 = .ok (.putfield 160, 3) := by decide +kernel
theorem dX6_fail_12 : decode cX6_fail 12 = .ok (.aload_n 0, 1) := by decide +kernel
theorem dX6_fail_13 : decode cX6_fail 13 = .ok (.aload_n 0, 1) := by decide +kernel
theorem dX6_fail_14 : decode cX6_fail 14 = .ok (.getfield 142, 3) := by decide +kernel
theorem dX6_fail_17 : decode cX6_fail 17 = .ok (.putfield 164, 3) := by decide +kernel
theorem dX6_fail_20 : decode cX6_fail 20 = .ok (.return_, 1) := by decide +kernel
theorem dX6_isLetter_0 : decode cX6_isLetter 0 = .ok (.aload_n 0, 1) := by decide +kernel
theorem dX6_isLetter_1 : decode cX6_isLetter 1 = .ok (.getfield 142, 3) := by decide +kernel
theorem dX6_isLetter_4 : decode cX6_isLetter 4 = .ok (.iload_n 1, 1) := by decide +kernel
theorem dX6_isLetter_5 : decode cX6_isLetter 5 = .ok (.iadd, 1) := by decide +kernel
theorem dX6_isLetter_6 : decode cX6_isLetter 6 = .ok (.aload_n 0, 1) := by decide +kernel
theorem dX6_isLetter_7 : decode cX6_isLetter 7 = .ok (.getfield 135, 3) := by decide +kernel
theorem dX6_isLetter_10 : decode cX6_isLetter 10 = .ok (.if_icmp .ge 25, 3) := by decide +kernel
theorem dX6_isLetter_13 : decode cX6_isLetter 13 = .ok (.aload_n 0, 1) := by decide +kernel
theorem dX6_isLetter_14 : decode cX6_isLetter 14 = .ok (.aload_n 0, 1) := by decide +kernel
theorem dX6_isLetter_15 : decode cX6_isLetter 15 = .ok (.getfield 142, 3) := by decide +kernel
theorem dX6_isLetter_18 : decode cX6_isLetter 18 = .ok (.iload_n 1, 1) := by decide +kernel
theorem dX6_isLetter_19 : decode cX6_isLetter 19 = .ok (.iadd, 1) := by decide +kernel
theorem dX6_isLetter_20 : decode cX6_isLetter 20 = .ok (.invokevirtual 138, 3) := by decide +kernel
theorem dX6_isLetter_23 : decode cX6_isLetter 23 = .ok (.iload_n 2, 1) := by decide +kernel
theorem dX6_isLetter_24 : decode cX6_isLetter 24 = .ok (.if_icmp .ne 7, 3) := by decide +kernel
theorem dX6_isLetter_27 : decode cX6_isLetter 27 = .ok (.iconst 1, 1) := by decide +kernel
theorem dX6_isLetter_28 : decode cX6_isLetter 28 = .ok (.goto 16, 3) := by decide +kernel
theorem dX6_isLetter_31 : decode cX6_isLetter 31 = .ok (.iconst 0, 1) := by decide +kernel
theorem dX6_isLetter_32 : decode cX6_isLetter 32 = .ok (.goto 12, 3) := by decide +kernel
theorem dX6_isLetter_35 : decode cX6_isLetter 35 = .ok (.iload_n 2, 1) := by decide +kernel
