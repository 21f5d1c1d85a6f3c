theorem dX10_init_0 : decode cX10_init 0 = .ok (.aload_n 0, 1) := by decide +kernel
theorem dX10_init_1 : decode cX10_init 1 = .ok (.invokespecial 1, 3) := by decide +kernel
theorem dX10_init_4 : decode cX10_init 4 = .ok (.aload_n 0, 1) := by decide +kernel
theorem dX10_init_5 : decode cX10_init 5 = .ok (.sipush 200, 3) := by decide +kernel
theorem dX10_init_8 : decode cX10_init 8 = .ok (.newarray .byte, 2) := by decide +kernel
theorem dX10_init_10 : decode cX10_init 10 = .ok (.putfield 7, 3) := by decide +kernel
theorem dX10_init_13 : decode cX10_init 13 = .ok (.aload_n 0, 1) := by decide +kernel
theorem dX10_init_14 : decode cX10_init 14 = .ok (.bipush 10, 2) := by decide +kernel
theorem dX10_init_16 : decode cX10_init 16 = .ok (.newarray .int, 2) := by decide +kernel
theorem dX10_init_18 : decode cX10_init 18 = .ok (.dup, 1) := by decide +kernel
theorem dX10_init_19 : decode cX10_init 19 = .ok (.iconst 0, 1) := by decide +kernel
theorem dX10_init_20 : decode cX10_init 20 = .ok (.iconst 0, 1) := by decide +kernel
theorem dX10_init_21 : decode cX10_init 21 = .ok (.iastore, 1) := by decide +kernel
theorem dX10_init_22 : decode cX10_init 22 = .ok (.dup, 1) := by decide +kernel
theorem dX10_init_23 : decode cX10_init 23 = .ok (.iconst 1, 1) := by decide +kernel
theorem dX10_init_24 : decode cX10_init 24 = .ok (.iconst 0, 1) := by decide +kernel
theorem dX10_init_25 : decode cX10_init 25 = .ok (.iastore, 1) := by decide +kernel
theorem dX10_init_26 : decode cX10_init 26 = .ok (.dup, 1) := by decide +kernel
theorem dX10_init_27 : decode cX10_init 27 = .ok (.iconst 2, 1) := by decide +kernel
theorem dX10_init_28 : decode cX10_init 28 = .ok (.iconst 0, 1) := by decide +kernel
theorem dX10_init_29 : decode cX10_init 29 = .ok (.iastore, 1) := by decide +kernel
theorem dX10_init_30 : decode cX10_init 30 = .ok (.dup, 1) := by decide +kernel
theorem dX10_init_31 : decode cX10_init 31 = .ok (.iconst 3, 1) := by decide +kernel
theorem dX10_init_32 : decode cX10_init 32 = .ok (.iconst 0, 1) := by decide +kernel
theorem dX10_init_33 : decode cX10_init 33 = .ok (.iastore, 1) := by decide +kernel
theorem dX10_init_34 : decode cX10_init 34 = .ok (.dup, 1) := by decide +kernel
theorem dX10_init_35 : decode cX10_init 35 = .ok (.iconst 4, 1) := by decide +kernel
theorem dX10_init_36 : decode cX10_init 36 = .ok (.iconst 1, 1) := by decide +kernel
theorem dX10_init_37 : decode cX10_init 37 = .ok (.iastore, 1) := by decide +kernel
theorem dX10_init_38 : decode cX10_init 38 = .ok (.dup, 1) := by decide +kernel
theorem dX10_init_39 : decode cX10_init 39 = .ok (.iconst 5, 1) := by decide +kernel
theorem dX10_init_40 : decode cX10_init 40 = .ok (.iconst 1, 1) := by decide +kernel
theorem dX10_init_41 : decode cX10_init 41 = .ok (.iastore, 1) := by decide +kernel
theorem dX10_init_42 : decode cX10_init 42 = .ok (.dup, 1) := by decide +kernel
theorem dX10_init_43 : decode cX10_init 43 = .ok (.bipush 6, 2) := by decide +kernel
theorem dX10_init_45 : decode cX10_init 45 = .ok (.iconst 1, 1) := by decide +kernel
theorem dX10_init_46 : decode cX10_init 46 = .ok (.iastore, 1) := by decide +kernel
theorem dX10_init_47 : decode cX10_init 47 = .ok (.dup, 1) := by decide +kernel
theorem dX10_init_48 : decode cX10_init 48 = .ok (.bipush 7, 2) := by decide +kernel
theorem dX10_init_50 : decode cX10_init 50 = .ok (.iconst 1, 1) := by decide +kernel
theorem dX10_init_51 : decode cX10_init 51 = .ok (.iastore, 1) := by decide +kernel
theorem dX10_init_52 : decode cX10_init 52 = .ok (.dup, 1) := by decide +kernel
theorem dX10_init_53 : decode cX10_init 53 = .ok (.bipush 8, 2) := by decide +kernel
theorem dX10_init_55 : decode cX10_init 55 = .ok (.iconst 0, 1) := by decide +kernel
theorem dX10_init_56 : decode cX10_init 56 = .ok (.iastore, 1) := by decide +kernel
theorem dX10_init_57 : decode cX10_init 57 = .ok (.dup, 1) := by decide +kernel
theorem dX10_init_58 : decode cX10_init 58 = .ok (.bipush 9, 2) := by decide +kernel
theorem dX10_init_60 : decode cX10_init 60 = .ok (.iconst 0, 1) := by decide +kernel
theorem dX10_init_61 : decode cX10_init 61 = .ok (.iastore, 1) := by decide +kernel
theorem dX10_init_62 : decode cX10_init 62 = .ok (.putfield 13, 3) := by decide +kernel
theorem dX10_init_65 : decode cX10_init 65 = .ok (.aload_n 0, 1) := by decide +kernel
theorem dX10_init_66 : decode cX10_init 66 = .ok (.bipush 10, 2) := by decide +kernel
theorem dX10_init_68 : decode cX10_init 68 = .ok (.newarray .int, 2) := by decide +kernel
theorem dX10_init_70 : decode cX10_init 70 = .ok (.putfield 17, 3) := by decide +kernel
theorem dX10_init_73 : decode cX10_init 73 = .ok (.aload_n 0, 1) := by decide +kernel
theorem dX10_init_74 : decode cX10_init 74 = .ok (.bipush 10, 2) := by decide +kernel
theorem dX10_init_76 : decode cX10_init 76 = .ok (.newarray .boolean, 2) := by decide +kernel
theorem dX10_init_78 : decode cX10_init 78 = .ok (.putfield 20, 3) := by decide +kernel
theorem dX10_init_81 : decode cX10_init 81 = .ok (.aload_n 0, 1) := by decide +kernel
theorem dX10_init_82 : decode cX10_init 82 = .ok (.bipush 100, 2) := by decide +kernel
theorem dX10_init_84 : decode cX10_init 84 = .ok (.newarray .int, 2) := by decide +kernel
theorem dX10_init_86 : decode cX10_init 86 = .ok (.putfield 24, 3) := by decide +kernel
theorem dX10_init_89 : decode cX10_init 89 = .ok (.aload_n 0, 1) := by decide +kernel
theorem dX10_init_90 : decode cX10_init 90 = .ok (.bipush 100, 2) := by decide +kernel
theorem dX10_init_92 : decode cX10_init 92 = .ok (.newarray .int, 2) := by decide +kernel
theorem dX10_init_94 : decode cX10_init 94 = .ok (.putfield 27, 3) := by decide +kernel
theorem dX10_init_97 : decode cX10_init 97 = .ok (.aload_n 0, 1) := by decide +kernel
theorem dX10_init_98 : decode cX10_init 98 = .ok (.bipush 100, 2) := by decide +kernel
theorem dX10_init_100 : decode cX10_init 100 = .ok (.newarray .int, 2) := by decide +kernel
theorem dX10_init_102 : decode cX10_init 102 = .ok (.putfield 30, 3) := by decide +kernel
theorem dX10_init_105 : decode cX10_init 105 = .ok (.aload_n 0, 1) := by decide +kernel
theorem dX10_init_106 : decode cX10_init 106 = .ok (.bipush 100, 2) := by decide +kernel
theorem dX10_init_108 : decode cX10_init 108 = .ok (.newarray .int, 2) := by decide +kernel
theorem dX10_init_110 : decode cX10_init 110 = .ok (.putfield 33, 3) := by decide +kernel
theorem dX10_init_113 : decode cX10_init 113 = .ok (.aload_n 0, 1) := by decide +kernel
theorem dX10_init_114 : decode cX10_init 114 = .ok (.bipush 100, 2) := by decide +kernel
theorem dX10_init_116 : decode cX10_init 116 = .ok (.newarray .int, 2) := by decide +kernel
theorem dX10_init_118 : decode cX10_init 118 = .ok (.putfield 36, 3) := by decide +kernel
theorem dX10_init_121 : decode cX10_init 121 = .ok (.aload_n 0, 1) := by decide +kernel
theorem dX10_init_122 : decode cX10_init 122 = .ok (.bipush 100, 2) := by decide +kernel
theorem dX10_init_124 : decode cX10_init 124 = .ok (.newarray .int, 2) := by decide +kernel
theorem dX10_init_126 : decode cX10_init 126 = .ok (.putfield 39, 3) := by decide +kernel
theorem dX10_init_129 : decode cX10_init 129 = .ok (.aload_n 0, 1) := by decide +kernel
theorem dX10_init_130 : decode cX10_init 130 = .ok (.bipush 100, 2) := by decide +kernel
theorem dX10_init_132 : decode cX10_init 132 = .ok (.newarray .boolean, 2) := by decide +kernel
theorem dX10_init_134 : decode cX10_init 134 = .ok (.putfield 42, 3) := by decide +kernel
theorem dX10_init_137 : decode cX10_init 137 = .ok (.aload_n 0, 1) := by decide +kernel
theorem dX10_init_138 : decode cX10_init 138 = .ok (.bipush 10, 2) := by decide +kernel
theorem dX10_init_140 : decode cX10_init 140 = .ok (.newarray .int, 2) := by decide +kernel
theorem dX10_init_142 : decode cX10_init 142 = .ok (.putfield 45, 3) := by decide +kernel
theorem dX10_init_145 : decode cX10_init 145 = .ok (.aload_n 0, 1) := by decide +kernel
theorem dX10_init_146 : decode cX10_init 146 = .ok (.bipush 10, 2) := by decide +kernel
theorem dX10_init_148 : decode cX10_init 148 = .ok (.newarray .int, 2) := by decide +kernel
theorem dX10_init_150 : decode cX10_init 150 = .ok (.putfield 48, 3) := by decide +kernel
theorem dX10_init_153 : decode cX10_init 153 = .ok (.aload_n 0, 1) := by decide +kernel
theorem dX10_init_154 : decode cX10_init 154 = .ok (.sipush 160, 3) := by decide +kernel
theorem dX10_init_157 : decode cX10_init 157 = .ok (.newarray .int, 2) := by decide +kernel
theorem dX10_init_159 : decode cX10_init 159 = .ok (.putfield 51, 3) := by decide +kernel
theorem dX10_init_162 : decode cX10_init 162 = .ok (.aload_n 0, 1) := by decide +kernel
theorem dX10_init_163 : decode cX10_init 163 = .ok (.sipush 160, 3) := by decide +kernel
theorem dX10_init_166 : decode cX10_init 166 = .ok (.newarray .int, 2) := by decide +kernel
theorem dX10_init_168 : decode cX10_init 168 = .ok (.putfield 54, 3) := by decide +kernel
theorem dX10_init_171 : decode cX10_init 171 = .ok (.aload_n 0, 1) := by decide +kernel
theorem dX10_init_172 : decode cX10_init 172 = .ok (.sipush 400, 3) := by decide +kernel
theorem dX10_init_175 : decode cX10_init 175 = .ok (.newarray .int, 2) := by decide +kernel
theorem dX10_init_177 : decode cX10_init 177 = .ok (.putfield 57, 3) := by decide +kernel
theorem dX10_init_180 : decode cX10_init 180 = .ok (.aload_n 0, 1) := by decide +kernel
theorem dX10_init_181 : decode cX10_init 181 = .ok (.sipush 400, 3) := by decide +kernel
theorem dX10_init_184 : decode cX10_init 184 = .ok (.newarray .int, 2) := by decide +kernel
theorem dX10_init_186 : decode cX10_init 186 = .ok (.putfield 60, 3) := by decide +kernel
theorem dX10_init_189 : decode cX10_init 189 = .ok (.aload_n 0, 1) := by decide +kernel
theorem dX10_init_190 : decode cX10_init 190 = .ok (.sipush 400, 3) := by decide +kernel
theorem dX10_init_193 : decode cX10_init 193 = .ok (.newarray .int, 2) := by decide +kernel
theorem dX10_init_195 : decode cX10_init 195 = .ok (.putfield 63, 3) := by decide +kernel
theorem dX10_init_198 : decode cX10_init 198 = .ok (.aload_n 0, 1) := by decide +kernel
theorem dX10_init_199 : decode cX10_init 199 = .ok (.sipush 400, 3) := by decide +kernel
theorem dX10_init_202 : decode cX10_init 202 = .ok (.newarray .int, 2) := by decide +kernel
theorem dX10_init_204 : decode cX10_init 204 = .ok (.putfield 66, 3) := by decide +kernel
theorem dX10_init_207 : decode cX10_init 207 = .ok (.aload_n 0, 1) := by decide +kernel
theorem dX10_init_208 : decode cX10_init 208 = .ok (.sipush 400, 3) := by decide +kernel
theorem dX10_init_211 : decode cX10_init 211 = .ok (.newarray .int, 2) := by decide +kernel
theorem dX10_init_213 : decode cX10_init 213 = .ok (.putfield 69, 3) := by decide +kernel
theorem dX10_init_216 : decode cX10_init 216 = .ok (.aload_n 0, 1) := by decide +kernel
theorem dX10_init_217 : decode cX10_init 217 = .ok (.sipush 400, 3) := by decide +kernel
theorem dX10_init_220 : decode cX10_init 220 = .ok (.newarray .int, 2) := by decide +kernel
theorem dX10_init_222 : decode cX10_init 222 = .ok (.putfield 72, 3) := by decide +kernel
theorem dX10_init_225 : decode cX10_init 225 = .ok (.aload_n 0, 1) := by decide +kernel
theorem dX10_init_226 : decode cX10_init 226 = .ok (.bipush 100, 2) := by decide +kernel
theorem dX10_init_228 : decode cX10_init 228 = .ok (.newarray .int, 2) := by decide +kernel
theorem dX10_init_230 : decode cX10_init 230 = .ok (.putfield 75, 3) := by decide +kernel
theorem dX10_init_233 : decode cX10_init 233 = .ok (.aload_n 0, 1) := by decide +kernel
theorem dX10_init_234 : decode cX10_init 234 = .ok (.bipush 100, 2) := by decide +kernel
theorem dX10_init_236 : decode cX10_init 236 = .ok (.newarray .int, 2) := by decide +kernel
theorem dX10_init_238 : decode cX10_init 238 = .ok (.putfield 78, 3) := by decide +kernel
theorem dX10_init_241 : decode cX10_init 241 = .ok (.aload_n 0, 1) := by decide +kernel
theorem dX10_init_242 : decode cX10_init 242 = .ok (.bipush 8, 2) := by decide +kernel
theorem dX10_init_244 : decode cX10_init 244 = .ok (.newarray .long, 2) := by decide +kernel
theorem dX10_init_246 : decode cX10_init 246 = .ok (.putfield 81, 3) := by decide +kernel
theorem dX10_init_249 : decode cX10_init 249 = .ok (.aload_n 0, 1) := by decide +kernel
theorem dX10_init_250 : decode cX10_init 250 = .ok (.bipush 8, 2) := by decide +kernel
theorem dX10_init_252 : decode cX10_init 252 = .ok (.newarray .long, 2) := by decide +kernel
theorem dX10_init_254 : decode cX10_init 254 = .ok (.putfield 85, 3) := by decide +kernel
theorem dX10_init_257 : decode cX10_init 257 = .ok (.aload_n 0, 1) := by decide +kernel
theorem dX10_init_258 : decode cX10_init 258 = .ok (.bipush 8, 2) := by decide +kernel
theorem dX10_init_260 : decode cX10_init 260 = .ok (.newarray .long, 2) := by decide +kernel
theorem dX10_init_262 : decode cX10_init 262 = .ok (.putfield 88, 3) := by decide +kernel
theorem dX10_init_265 : decode cX10_init 265 = .ok (.aload_n 0, 1) := by decide +kernel
theorem dX10_init_266 : decode cX10_init 266 = .ok (.sipush 164, 3) := by decide +kernel
theorem dX10_init_269 : decode cX10_init 269 = .ok (.newarray .int, 2) := by decide +kernel
theorem dX10_init_271 : decode cX10_init 271 = .ok (.putfield 91, 3) := by decide +kernel
theorem dX10_init_274 : decode cX10_init 274 = .ok (.aload_n 0, 1) := by decide +kernel
theorem dX10_init_275 : decode cX10_init 275 = .ok (.iconst 4, 1) := by decide +kernel
theorem dX10_init_276 : decode cX10_init 276 = .ok (.newarray .int, 2) := by decide +kernel
theorem dX10_init_278 : decode cX10_init 278 = .ok (.putfield 94, 3) := by decide +kernel
theorem dX10_init_281 : decode cX10_init 281 = .ok (.return_, 1) := by decide +kernel
theorem dX10_thrown_0 : decode cX10_thrown 0 = .ok (.aload_n 0, 1) := by decide +kernel
theorem dX10_thrown_1 : decode cX10_thrown 1 = .ok (.getfield 97, 3) := by decide +kernel
theorem dX10_thrown_4 : decode cX10_thrown 4 = .ok (.ireturn, 1) := by decide +kernel
theorem dX10_throwsIf_0 : decode cX10_throwsIf 0 = .ok (.aload_n 0, 1) := by decide +kernel
theorem dX10_throwsIf_1 : decode cX10_throwsIf 1 = .ok (.iload_n 1, 1) := by decide +kernel
theorem dX10_throwsIf_2 : decode cX10_throwsIf 2 = .ok (.ifCond .eq 7, 3) := by decide +kernel
theorem dX10_throwsIf_5 : decode cX10_throwsIf 5 = .ok (.iconst 1, 1) := by decide +kernel
theorem dX10_throwsIf_6 : decode cX10_throwsIf 6 = .ok (.goto 4, 3) := by decide +kernel
theorem dX10_throwsIf_9 : decode cX10_throwsIf 9 = .ok (.iconst 0, 1) := by decide +kernel
theorem dX10_throwsIf_10 : decode cX10_throwsIf 10 = .ok (.putfield 97, 3) := by decide +kernel
theorem dX10_throwsIf_13 : decode cX10_throwsIf 13 = .ok (.iload_n 1, 1) := by decide +kernel
theorem dX10_throwsIf_14 : decode cX10_throwsIf 14 = .ok (.ireturn, 1) := by decide +kernel
theorem dX10_feed_0 : decode cX10_feed 0 = .ok (.aload_n 0, 1) := by decide +kernel
theorem dX10_feed_1 : decode cX10_feed 1 = .ok (.iconst 0, 1) := by decide +kernel
theorem dX10_feed_2 : decode cX10_feed 2 = .ok (.putfield 97, 3) := by decide +kernel
theorem dX10_feed_5 : decode cX10_feed 5 = .ok (.aload_n 0, 1) := by decide +kernel
theorem dX10_feed_6 : decode cX10_feed 6 = .ok (.getfield 101, 3) := by decide +kernel
theorem dX10_feed_9 : decode cX10_feed 9 = .ok (.bipush 20, 2) := by decide +kernel
theorem dX10_feed_11 : decode cX10_feed 11 = .ok (.iadd, 1) := by decide +kernel
theorem dX10_feed_12 : decode cX10_feed 12 = .ok (.sipush 200, 3) := by decide +kernel
theorem dX10_feed_15 : decode cX10_feed 15 = .ok (.if_icmp .le 5, 3) := by decide +kernel
theorem dX10_feed_18 : decode cX10_feed 18 = .ok (.iconst (-1), 1) := by decide +kernel
theorem dX10_feed_19 : decode cX10_feed 19 = .ok (.ireturn, 1) := by decide +kernel
theorem dX10_feed_20 : decode cX10_feed 20 = .ok (.aload_n 0, 1) := by decide +kernel
theorem dX10_feed_21 : decode cX10_feed 21 = .ok (.iload_n 1, 1) := by decide +kernel
theorem dX10_feed_22 : decode cX10_feed 22 = .ok (.invokevirtual 104, 3) := by decide +kernel
theorem dX10_feed_25 : decode cX10_feed 25 = .ok (.aload_n 0, 1) := by decide +kernel
theorem dX10_feed_26 : decode cX10_feed 26 = .ok (.iload_n 2, 1) := by decide +kernel
theorem dX10_feed_27 : decode cX10_feed 27 = .ok (.invokevirtual 104, 3) := by decide +kernel
theorem dX10_feed_30 : decode cX10_feed 30 = .ok (.aload_n 0, 1) := by decide +kernel
theorem dX10_feed_31 : decode cX10_feed 31 = .ok (.iload_n 3, 1) := by decide +kernel
theorem dX10_feed_32 : decode cX10_feed 32 = .ok (.invokevirtual 104, 3) := by decide +kernel
theorem dX10_feed_35 : decode cX10_feed 35 = .ok (.aload_n 0, 1) := by decide +kernel
theorem dX10_feed_36 : decode cX10_feed 36 = .ok (.iload 4, 2) := by decide +kernel
theorem dX10_feed_38 : decode cX10_feed 38 = .ok (.invokevirtual 104, 3) := by decide +kernel
theorem dX10_feed_41 : decode cX10_feed 41 = .ok (.aload_n 0, 1) := by decide +kernel
theorem dX10_feed_42 : decode cX10_feed 42 = .ok (.iload 5, 2) := by decide +kernel
theorem dX10_feed_44 : decode cX10_feed 44 = .ok (.invokevirtual 104, 3) := by decide +kernel
theorem dX10_feed_47 : decode cX10_feed 47 = .ok (.aload_n 0, 1) := by decide +kernel
theorem dX10_feed_48 : decode cX10_feed 48 = .ok (.getfield 101, 3) := by decide +kernel
theorem dX10_feed_51 : decode cX10_feed 51 = .ok (.ireturn, 1) := by decide +kernel
theorem dX10_four_0 : decode cX10_four 0 = .ok (.bipush 24, 2) := by decide +kernel
theorem dX10_four_2 : decode cX10_four 2 = .ok (.istore_n 2, 1) := by decide +kernel
theorem dX10_four_3 : decode cX10_four 3 = .ok (.iload_n 2, 1) := by decide +kernel
theorem dX10_four_4 : decode cX10_four 4 = .ok (.ifCond .lt 32, 3) := by decide +kernel
theorem dX10_four_7 : decode cX10_four 7 = .ok (.aload_n 0, 1) := by decide +kernel
theorem dX10_four_8 : decode cX10_four 8 = .ok (.getfield 7, 3) := by decide +kernel
theorem dX10_four_11 : decode cX10_four 11 = .ok (.aload_n 0, 1) := by decide +kernel
theorem dX10_four_12 : decode cX10_four 12 = .ok (.getfield 101, 3) := by decide +kernel
theorem dX10_four_15 : decode cX10_four 15 = .ok (.iload_n 1, 1) := by decide +kernel
theorem dX10_four_16 : decode cX10_four 16 = .ok (.iload_n 2, 1) := by decide +kernel
theorem dX10_four_17 : decode cX10_four 17 = .ok (.ishr, 1) := by decide +kernel
theorem dX10_four_18 : decode cX10_four 18 = .ok (.i2b, 1) := by decide +kernel
theorem dX10_four_19 : decode cX10_four 19 = .ok (.bastore, 1) := by decide +kernel
theorem dX10_four_20 : decode cX10_four 20 = .ok (.aload_n 0, 1) := by decide +kernel
theorem dX10_four_21 : decode cX10_four 21 = .ok (.dup, 1) := by decide +kernel
theorem dX10_four_22 : decode cX10_four 22 = .ok (.getfield 101, 3) := by decide +kernel
theorem dX10_four_25 : decode cX10_four 25 = .ok (.iconst 1, 1) := by decide +kernel
theorem dX10_four_26 : decode cX10_four 26 = .ok (.iadd, 1) := by decide +kernel
theorem dX10_four_27 : decode cX10_four 27 = .ok (.putfield 101, 3) := by decide +kernel
theorem dX10_four_30 : decode cX10_four 30 = .ok (.iinc 2 (-8), 3) := by decide +kernel
theorem dX10_four_33 : decode cX10_four 33 = .ok (.goto (-30), 3) := by decide +kernel
theorem dX10_four_36 : decode cX10_four 36 = .ok (.return_, 1) := by decide +kernel
theorem dX10_end_0 : decode cX10_end 0 = .ok (.aload_n 0, 1) := by decide +kernel
theorem dX10_end_1 : decode cX10_end 1 = .ok (.iconst 0, 1) := by decide +kernel
theorem dX10_end_2 : decode cX10_end 2 = .ok (.putfield 97, 3) := by decide +kernel
theorem dX10_end_5 : decode cX10_end 5 = .ok (.iload_n 1, 1) := by decide +kernel
theorem dX10_end_6 : decode cX10_end 6 = .ok (.ifCond .lt 11, 3) := by decide +kernel
theorem dX10_end_9 : decode cX10_end 9 = .ok (.iload_n 1, 1) := by decide +kernel
theorem dX10_end_10 : decode cX10_end 10 = .ok (.aload_n 0, 1) := by decide +kernel
theorem dX10_end_11 : decode cX10_end 11 = .ok (.getfield 101, 3) := by decide +kernel
theorem dX10_end_14 : decode cX10_end 14 = .ok (.if_icmp .le 5, 3) := by decide +kernel
theorem dX10_end_17 : decode cX10_end 17 = .ok (.iconst 0, 1) := by decide +kernel
theorem dX10_end_18 : decode cX10_end 18 = .ok (.ireturn, 1) := by decide +kernel
theorem dX10_end_19 : decode cX10_end 19 = .ok (.aload_n 0, 1) := by decide +kernel
theorem dX10_end_20 : decode cX10_end 20 = .ok (.iload_n 1, 1) := by decide +kernel
theorem dX10_end_21 : decode cX10_end 21 = .ok (.putfield 101, 3) := by decide +kernel
theorem dX10_end_24 : decode cX10_end 24 = .ok (.iconst 1, 1) := by decide +kernel
theorem dX10_end_25 : decode cX10_end 25 = .ok (.ireturn, 1) := by decide +kernel
theorem dX10_taken_0 : decode cX10_taken 0 = .ok (.aload_n 0, 1) := by decide +kernel
theorem dX10_taken_1 : decode cX10_taken 1 = .ok (.aload_n 0, 1) := by decide +kernel
theorem dX10_taken_2 : decode cX10_taken 2 = .ok (.getfield 101, 3) := by decide +kernel
theorem dX10_taken_5 : decode cX10_taken 5 = .ok (.putfield 108, 3) := by decide +kernel
theorem dX10_taken_8 : decode cX10_taken 8 = .ok (.aload_n 0, 1) := by decide +kernel
theorem dX10_taken_9 : decode cX10_taken 9 = .ok (.iconst 0, 1) := by decide +kernel
theorem dX10_taken_10 : decode cX10_taken 10 = .ok (.putfield 101, 3) := by decide +kernel
theorem dX10_taken_13 : decode cX10_taken 13 = .ok (.aload_n 0, 1) := by decide +kernel
theorem dX10_taken_14 : decode cX10_taken 14 = .ok (.iconst 0, 1) := by decide +kernel
theorem dX10_taken_15 : decode cX10_taken 15 = .ok (.putfield 111, 3) := by decide +kernel
theorem dX10_taken_18 : decode cX10_taken 18 = .ok (.return_, 1) := by decide +kernel
theorem dX10_peek_0 : decode cX10_peek 0 = .ok (.aload_n 0, 1) := by decide +kernel
theorem dX10_peek_1 : decode cX10_peek 1 = .ok (.getfield 111, 3) := by decide +kernel
theorem dX10_peek_4 : decode cX10_peek 4 = .ok (.aload_n 0, 1) := by decide +kernel
theorem dX10_peek_5 : decode cX10_peek 5 = .ok (.getfield 108, 3) := by decide +kernel
theorem dX10_peek_8 : decode cX10_peek 8 = .ok (.if_icmp .ge 19, 3) := by decide +kernel
theorem dX10_peek_11 : decode cX10_peek 11 = .ok (.aload_n 0, 1) := by decide +kernel
theorem dX10_peek_12 : decode cX10_peek 12 = .ok (.getfield 7, 3) := by decide +kernel
theorem dX10_peek_15 : decode cX10_peek 15 = .ok (.aload_n 0, 1) := by decide +kernel
theorem dX10_peek_16 : decode cX10_peek 16 = .ok (.getfield 111, 3) := by decide +kernel
theorem dX10_peek_19 : decode cX10_peek 19 = .ok (.baload, 1) := by decide +kernel
theorem dX10_peek_20 : decode cX10_peek 20 = .ok (.sipush 255, 3) := by decide +kernel
theorem dX10_peek_23 : decode cX10_peek 23 = .ok (.iand, 1) := by decide +kernel
theorem dX10_peek_24 : decode cX10_peek 24 = .ok (.goto 4, 3) := by decide +kernel
theorem dX10_peek_27 : decode cX10_peek 27 = .ok (.iconst (-1), 1) := by decide +kernel
theorem dX10_peek_28 : decode cX10_peek 28 = .ok (.ireturn, 1) := by decide +kernel
theorem dX10_isSmall_0 : decode cX10_isSmall 0 = .ok (.iload_n 0, 1) := by decide +kernel
theorem dX10_isSmall_1 : decode cX10_isSmall 1 = .ok (.bipush 97, 2) := by decide +kernel
theorem dX10_isSmall_3 : decode cX10_isSmall 3 = .ok (.if_icmp .lt 13, 3) := by decide +kernel
theorem dX10_isSmall_6 : decode cX10_isSmall 6 = .ok (.iload_n 0, 1) := by decide +kernel
theorem dX10_isSmall_7 : decode cX10_isSmall 7 = .ok (.bipush 122, 2) := by decide +kernel
theorem dX10_isSmall_9 : decode cX10_isSmall 9 = .ok (.if_icmp .gt 7, 3) := by decide +kernel
theorem dX10_isSmall_12 : decode cX10_isSmall 12 = .ok (.iconst 1, 1) := by decide +kernel
theorem dX10_isSmall_13 : decode cX10_isSmall 13 = .ok (.goto 4, 3) := by decide +kernel
theorem dX10_isSmall_16 : decode cX10_isSmall 16 = .ok (.iconst 0, 1) := by decide +kernel
theorem dX10_isSmall_17 : decode cX10_isSmall 17 = .ok (.ireturn, 1) := by decide +kernel
theorem dX10_isDigit_0 : decode cX10_isDigit 0 = .ok (.iload_n 0, 1) := by decide +kernel
theorem dX10_isDigit_1 : decode cX10_isDigit 1 = .ok (.bipush 48, 2) := by decide +kernel
theorem dX10_isDigit_3 : decode cX10_isDigit 3 = .ok (.if_icmp .lt 13, 3) := by decide +kernel
theorem dX10_isDigit_6 : decode cX10_isDigit 6 = .ok (.iload_n 0, 1) := by decide +kernel
theorem dX10_isDigit_7 : decode cX10_isDigit 7 = .ok (.bipush 57, 2) := by decide +kernel
theorem dX10_isDigit_9 : decode cX10_isDigit 9 = .ok (.if_icmp .gt 7, 3) := by decide +kernel
theorem dX10_isDigit_12 : decode cX10_isDigit 12 = .ok (.iconst 1, 1) := by decide +kernel
theorem dX10_isDigit_13 : decode cX10_isDigit 13 = .ok (.goto 4, 3) := by decide +kernel
theorem dX10_isDigit_16 : decode cX10_isDigit 16 = .ok (.iconst 0, 1) := by decide +kernel
theorem dX10_isDigit_17 : decode cX10_isDigit 17 = .ok (.ireturn, 1) := by decide +kernel
theorem dX10_next0_0 : decode cX10_next0 0 = .ok (.aload_n 0, 1) := by decide +kernel
theorem dX10_next0_1 : decode cX10_next0 1 = .ok (.invokevirtual 114, 3) := by decide +kernel
theorem dX10_next0_4 : decode cX10_next0 4 = .ok (.bipush 32, 2) := by decide +kernel
theorem dX10_next0_6 : decode cX10_next0 6 = .ok (.if_icmp .eq 12, 3) := by decide +kernel
theorem dX10_next0_9 : decode cX10_next0 9 = .ok (.aload_n 0, 1) := by decide +kernel
theorem dX10_next0_10 : decode cX10_next0 10 = .ok (.invokevirtual 114, 3) := by decide +kernel
theorem dX10_next0_13 : decode cX10_next0 13 = .ok (.bipush 10, 2) := by decide +kernel
theorem dX10_next0_15 : decode cX10_next0 15 = .ok (.if_icmp .ne 16, 3) := by decide +kernel
theorem dX10_next0_18 : decode cX10_next0 18 = .ok (.aload_n 0, 1) := by decide +kernel
theorem dX10_next0_19 : decode cX10_next0 19 = .ok (.dup, 1) := by decide +kernel
theorem dX10_next0_20 : decode cX10_next0 20 = .ok (.getfield 111, 3) := by decide +kernel
theorem dX10_next0_23 : decode cX10_next0 23 = .ok (.iconst 1, 1) := by decide +kernel
theorem dX10_next0_24 : decode cX10_next0 24 = .ok (.iadd, 1) := by decide +kernel
theorem dX10_next0_25 : decode cX10_next0 25 = .ok (.putfield 111, 3) := by decide +kernel
theorem dX10_next0_28 : decode cX10_next0 28 = .ok (.goto (-28), 3) := by decide +kernel
theorem dX10_next0_31 : decode cX10_next0 31 = .ok (.aload_n 0, 1) := by decide +kernel
theorem dX10_next0_32 : decode cX10_next0 32 = .ok (.aload_n 0, 1) := by decide +kernel
theorem dX10_next0_33 : decode cX10_next0 33 = .ok (.getfield 111, 3) := by decide +kernel
theorem dX10_next0_36 : decode cX10_next0 36 = .ok (.putfield 118, 3) := by decide +kernel
theorem dX10_next0_39 : decode cX10_next0 39 = .ok (.aload_n 0, 1) := by decide +kernel
theorem dX10_next0_40 : decode cX10_next0 40 = .ok (.invokevirtual 114, 3) := by decide +kernel
theorem dX10_next0_43 : decode cX10_next0 43 = .ok (.istore_n 1, 1) := by decide +kernel
theorem dX10_next0_44 : decode cX10_next0 44 = .ok (.iload_n 1, 1) := by decide +kernel
theorem dX10_next0_45 : decode cX10_next0 45 = .ok (.ifCond .ge 9, 3) := by decide +kernel
theorem dX10_next0_48 : decode cX10_next0 48 = .ok (.aload_n 0, 1) := by decide +kernel
theorem dX10_next0_49 : decode cX10_next0 49 = .ok (.iconst 0, 1) := by decide +kernel
theorem dX10_next0_50 : decode cX10_next0 50 = .ok (.putfield 121, 3) := by decide +kernel
theorem dX10_next0_53 : decode cX10_next0 53 = .ok (.return_, 1) := by decide +kernel
theorem dX10_next0_54 : decode cX10_next0 54 = .ok (.iload_n 1, 1) := by decide +kernel
theorem dX10_next0_55 : decode cX10_next0 55 = .ok (.invokestatic 124, 3) := by decide +kernel
theorem dX10_next0_58 : decode cX10_next0 58 = .ok (.ifCond .ne 36, 3) := by decide +kernel
theorem dX10_next0_61 : decode cX10_next0 61 = .ok (.iload_n 1, 1) := by decide +kernel
theorem dX10_next0_62 : decode cX10_next0 62 = .ok (.invokestatic 128, 3) := by decide +kernel
theorem dX10_next0_65 : decode cX10_next0 65 = .ok (.ifCond .ne 29, 3) := by decide +kernel
theorem dX10_next0_68 : decode cX10_next0 68 = .ok (.aload_n 0, 1) := by decide +kernel
theorem dX10_next0_69 : decode cX10_next0 69 = .ok (.iload_n 1, 1) := by decide +kernel
theorem dX10_next0_70 : decode cX10_next0 70 = .ok (.bipush 59, 2) := by decide +kernel
theorem dX10_next0_72 : decode cX10_next0 72 = .ok (.if_icmp .ne 7, 3) := by decide +kernel
theorem dX10_next0_75 : decode cX10_next0 75 = .ok (.iconst 3, 1) := by decide +kernel
theorem dX10_next0_76 : decode cX10_next0 76 = .ok (.goto 4, 3) := by decide +kernel
theorem dX10_next0_79 : decode cX10_next0 79 = .ok (.iconst 4, 1) := by decide +kernel
theorem dX10_next0_80 : decode cX10_next0 80 = .ok (.putfield 121, 3) := by decide +kernel
theorem dX10_next0_83 : decode cX10_next0 83 = .ok (.aload_n 0, 1) := by decide +kernel
theorem dX10_next0_84 : decode cX10_next0 84 = .ok (.dup, 1) := by decide +kernel
theorem dX10_next0_85 : decode cX10_next0 85 = .ok (.getfield 111, 3) := by decide +kernel
theorem dX10_next0_88 : decode cX10_next0 88 = .ok (.iconst 1, 1) := by decide +kernel
theorem dX10_next0_89 : decode cX10_next0 89 = .ok (.iadd, 1) := by decide +kernel
theorem dX10_next0_90 : decode cX10_next0 90 = .ok (.putfield 111, 3) := by decide +kernel
theorem dX10_next0_93 : decode cX10_next0 93 = .ok (.return_, 1) := by decide +kernel
theorem dX10_next0_94 : decode cX10_next0 94 = .ok (.iload_n 1, 1) := by decide +kernel
theorem dX10_next0_95 : decode cX10_next0 95 = .ok (.invokestatic 124, 3) := by decide +kernel
theorem dX10_next0_98 : decode cX10_next0 98 = .ok (.istore_n 2, 1) := by decide +kernel
theorem dX10_next0_99 : decode cX10_next0 99 = .ok (.iconst 1, 1) := by decide +kernel
theorem dX10_next0_100 : decode cX10_next0 100 = .ok (.istore_n 3, 1) := by decide +kernel
theorem dX10_next0_101 : decode cX10_next0 101 = .ok (.iconst 0, 1) := by decide +kernel
theorem dX10_next0_102 : decode cX10_next0 102 = .ok (.istore 4, 2) := by decide +kernel
theorem dX10_next0_104 : decode cX10_next0 104 = .ok (.aload_n 0, 1) := by decide +kernel
theorem dX10_next0_105 : decode cX10_next0 105 = .ok (.lconst 0, 1) := by decide +kernel
theorem dX10_next0_106 : decode cX10_next0 106 = .ok (.putfield 131, 3) := by decide +kernel
theorem dX10_next0_109 : decode cX10_next0 109 = .ok (.aload_n 0, 1) := by decide +kernel
theorem dX10_next0_110 : decode cX10_next0 110 = .ok (.iconst 0, 1) := by decide +kernel
theorem dX10_next0_111 : decode cX10_next0 111 = .ok (.putfield 135, 3) := by decide +kernel
theorem dX10_next0_114 : decode cX10_next0 114 = .ok (.aload_n 0, 1) := by decide +kernel
theorem dX10_next0_115 : decode cX10_next0 115 = .ok (.invokevirtual 114, 3) := by decide +kernel
theorem dX10_next0_118 : decode cX10_next0 118 = .ok (.invokestatic 124, 3) := by decide +kernel
theorem dX10_next0_121 : decode cX10_next0 121 = .ok (.ifCond .ne 13, 3) := by decide +kernel
theorem dX10_next0_124 : decode cX10_next0 124 = .ok (.aload_n 0, 1) := by decide +kernel
theorem dX10_next0_125 : decode cX10_next0 125 = .ok (.invokevirtual 114, 3) := by decide +kernel
theorem dX10_next0_128 : decode cX10_next0 128 = .ok (.invokestatic 128, 3) := by decide +kernel
theorem dX10_next0_131 : decode cX10_next0 131 = .ok (.ifCond .eq 89, 3) := by decide +kernel
theorem dX10_next0_134 : decode cX10_next0 134 = .ok (.iload_n 3, 1) := by decide +kernel
theorem dX10_next0_135 : decode cX10_next0 135 = .ok (.ifCond .eq 18, 3) := by decide +kernel
theorem dX10_next0_138 : decode cX10_next0 138 = .ok (.aload_n 0, 1) := by decide +kernel
theorem dX10_next0_139 : decode cX10_next0 139 = .ok (.invokevirtual 114, 3) := by decide +kernel
theorem dX10_next0_142 : decode cX10_next0 142 = .ok (.invokestatic 124, 3) := by decide +kernel
theorem dX10_next0_145 : decode cX10_next0 145 = .ok (.iload_n 2, 1) := by decide +kernel
theorem dX10_next0_146 : decode cX10_next0 146 = .ok (.if_icmp .ne 7, 3) := by decide +kernel
theorem dX10_next0_149 : decode cX10_next0 149 = .ok (.iconst 1, 1) := by decide +kernel
theorem dX10_next0_150 : decode cX10_next0 150 = .ok (.goto 4, 3) := by decide +kernel
theorem dX10_next0_153 : decode cX10_next0 153 = .ok (.iconst 0, 1) := by decide +kernel
theorem dX10_next0_154 : decode cX10_next0 154 = .ok (.istore_n 3, 1) := by decide +kernel
theorem dX10_next0_155 : decode cX10_next0 155 = .ok (.iload 4, 2) := by decide +kernel
theorem dX10_next0_157 : decode cX10_next0 157 = .ok (.bipush 8, 2) := by decide +kernel
theorem dX10_next0_159 : decode cX10_next0 159 = .ok (.if_icmp .ge 20, 3) := by decide +kernel
theorem dX10_next0_162 : decode cX10_next0 162 = .ok (.aload_n 0, 1) := by decide +kernel
theorem dX10_next0_163 : decode cX10_next0 163 = .ok (.aload_n 0, 1) := by decide +kernel
theorem dX10_next0_164 : decode cX10_next0 164 = .ok (.getfield 131, 3) := by decide +kernel
theorem dX10_next0_167 : decode cX10_next0 167 = .ok (.bipush 8, 2) := by decide +kernel
theorem dX10_next0_169 : decode cX10_next0 169 = .ok (.lshl, 1) := by decide +kernel
theorem dX10_next0_170 : decode cX10_next0 170 = .ok (.aload_n 0, 1) := by decide +kernel
theorem dX10_next0_171 : decode cX10_next0 171 = .ok (.invokevirtual 114, 3) := by decide +kernel
theorem dX10_next0_174 : decode cX10_next0 174 = .ok (.i2l, 1) := by decide +kernel
theorem dX10_next0_175 : decode cX10_next0 175 = .ok (.lor, 1) := by decide +kernel
theorem dX10_next0_176 : decode cX10_next0 176 = .ok (.putfield 131, 3) := by decide +kernel
theorem dX10_next0_179 : decode cX10_next0 179 = .ok (.iload 4, 2) := by decide +kernel
theorem dX10_next0_181 : decode cX10_next0 181 = .ok (.iconst 4, 1) := by decide +kernel
theorem dX10_next0_182 : decode cX10_next0 182 = .ok (.if_icmp .ge 22, 3) := by decide +kernel
theorem dX10_next0_185 : decode cX10_next0 185 = .ok (.aload_n 0, 1) := by decide +kernel
theorem dX10_next0_186 : decode cX10_next0 186 = .ok (.bipush 10, 2) := by decide +kernel
theorem dX10_next0_188 : decode cX10_next0 188 = .ok (.aload_n 0, 1) := by decide +kernel
theorem dX10_next0_189 : decode cX10_next0 189 = .ok (.getfield 135, 3) := by decide +kernel
theorem dX10_next0_192 : decode cX10_next0 192 = .ok (.imul, 1) := by decide +kernel
theorem dX10_next0_193 : decode cX10_next0 193 = .ok (.aload_n 0, 1) := by decide +kernel
theorem dX10_next0_194 : decode cX10_next0 194 = .ok (.invokevirtual 114, 3) := by decide +kernel
theorem dX10_next0_197 : decode cX10_next0 197 = .ok (.iadd, 1) := by decide +kernel
theorem dX10_next0_198 : decode cX10_next0 198 = .ok (.bipush 48, 2) := by decide +kernel
theorem dX10_next0_200 : decode cX10_next0 200 = .ok (.isub, 1) := by decide +kernel
theorem dX10_next0_201 : decode cX10_next0 201 = .ok (.putfield 135, 3) := by decide +kernel
theorem dX10_next0_204 : decode cX10_next0 204 = .ok (.iinc 4 1, 3) := by decide +kernel
theorem dX10_next0_207 : decode cX10_next0 207 = .ok (.aload_n 0, 1) := by decide +kernel
theorem dX10_next0_208 : decode cX10_next0 208 = .ok (.dup, 1) := by decide +kernel
theorem dX10_next0_209 : decode cX10_next0 209 = .ok (.getfield 111, 3) := by decide +kernel
theorem dX10_next0_212 : decode cX10_next0 212 = .ok (.iconst 1, 1) := by decide +kernel
theorem dX10_next0_213 : decode cX10_next0 213 = .ok (.iadd, 1) := by decide +kernel
theorem dX10_next0_214 : decode cX10_next0 214 = .ok (.putfield 111, 3) := by decide +kernel
theorem dX10_next0_217 : decode cX10_next0 217 = .ok (.goto (-103), 3) := by decide +kernel
theorem dX10_next0_220 : decode cX10_next0 220 = .ok (.iload 4, 2) := by decide +kernel
theorem dX10_next0_222 : decode cX10_next0 222 = .ok (.bipush 8, 2) := by decide +kernel
theorem dX10_next0_224 : decode cX10_next0 224 = .ok (.if_icmp .le 8, 3) := by decide +kernel
theorem dX10_next0_227 : decode cX10_next0 227 = .ok (.aload_n 0, 1) := by decide +kernel
theorem dX10_next0_228 : decode cX10_next0 228 = .ok (.lconst 0, 1) := by decide +kernel
theorem dX10_next0_229 : decode cX10_next0 229 = .ok (.putfield 131, 3) := by decide +kernel
theorem dX10_next0_232 : decode cX10_next0 232 = .ok (.aload_n 0, 1) := by decide +kernel
theorem dX10_next0_233 : decode cX10_next0 233 = .ok (.iload_n 3, 1) := by decide +kernel
theorem dX10_next0_234 : decode cX10_next0 234 = .ok (.ifCond .eq 13, 3) := by decide +kernel
theorem dX10_next0_237 : decode cX10_next0 237 = .ok (.iload_n 2, 1) := by decide +kernel
theorem dX10_next0_238 : decode cX10_next0 238 = .ok (.ifCond .ne 13, 3) := by decide +kernel
theorem dX10_next0_241 : decode cX10_next0 241 = .ok (.iload 4, 2) := by decide +kernel
theorem dX10_next0_243 : decode cX10_next0 243 = .ok (.iconst 4, 1) := by decide +kernel
theorem dX10_next0_244 : decode cX10_next0 244 = .ok (.if_icmp .le 7, 3) := by decide +kernel
theorem dX10_next0_247 : decode cX10_next0 247 = .ok (.iconst 4, 1) := by decide +kernel
theorem dX10_next0_248 : decode cX10_next0 248 = .ok (.goto 12, 3) := by decide +kernel
theorem dX10_next0_251 : decode cX10_next0 251 = .ok (.iload_n 2, 1) := by decide +kernel
theorem dX10_next0_252 : decode cX10_next0 252 = .ok (.ifCond .eq 7, 3) := by decide +kernel
theorem dX10_next0_255 : decode cX10_next0 255 = .ok (.iconst 1, 1) := by decide +kernel
theorem dX10_next0_256 : decode cX10_next0 256 = .ok (.goto 4, 3) := by decide +kernel
theorem dX10_next0_259 : decode cX10_next0 259 = .ok (.iconst 2, 1) := by decide +kernel
theorem dX10_next0_260 : decode cX10_next0 260 = .ok (.putfield 121, 3) := by decide +kernel
theorem dX10_next0_263 : decode cX10_next0 263 = .ok (.return_, 1) := by decide +kernel
theorem dX10_wrong_0 : decode cX10_wrong 0 = .ok (.aload_n 0, 1) := by decide +kernel
theorem dX10_wrong_1 : decode cX10_wrong 1 = .ok (.iload_n 1, 1) := by decide +kernel
theorem dX10_wrong_2 : decode cX10_wrong 2 = .ok (.putfield 138, 3) := by decide +kernel
theorem dX10_wrong_5 : decode cX10_wrong 5 = .ok (.aload_n 0, 1) := by decide +kernel
theorem dX10_wrong_6 : decode cX10_wrong 6 = .ok (.iload_n 2, 1) := by decide +kernel
theorem dX10_wrong_7 : decode cX10_wrong 7 = .ok (.putfield 141, 3) := by decide +kernel
theorem dX10_wrong_10 : decode cX10_wrong 10 = .ok (.iconst 0, 1) := by decide +kernel
theorem dX10_wrong_11 : decode cX10_wrong 11 = .ok (.ireturn, 1) := by decide +kernel
theorem dX10_cant_0 : decode cX10_cant 0 = .ok (.aload_n 0, 1) := by decide +kernel
theorem dX10_cant_1 : decode cX10_cant 1 = .ok (.aload_n 0, 1) := by decide +kernel
theorem dX10_cant_2 : decode cX10_cant 2 = .ok (.getfield 121, 3) := by decide +kernel
theorem dX10_cant_5 : decode cX10_cant 5 = .ok (.iconst 4, 1) := by decide +kernel
theorem dX10_cant_6 : decode cX10_cant 6 = .ok (.if_icmp .ne 7, 3) := by decide +kernel
theorem dX10_cant_9 : decode cX10_cant 9 = .ok (.iconst 1, 1) := by decide +kernel
theorem dX10_cant_10 : decode cX10_cant 10 = .ok (.goto 4, 3) := by decide +kernel
theorem dX10_cant_13 : decode cX10_cant 13 = .ok (.iconst 2, 1) := by decide +kernel
theorem dX10_cant_14 : decode cX10_cant 14 = .ok (.aload_n 0, 1) := by decide +kernel
theorem dX10_cant_15 : decode cX10_cant 15 = .ok (.getfield 118, 3) := by decide +kernel
theorem dX10_cant_18 : decode cX10_cant 18 = .ok (.invokevirtual 144, 3) := by decide +kernel
theorem dX10_cant_21 : decode cX10_cant 21 = .ok (.ireturn, 1) := by decide +kernel
theorem dX10_isWord_0 : decode cX10_isWord 0 = .ok (.aload_n 0, 1) := by decide +kernel
theorem dX10_isWord_1 : decode cX10_isWord 1 = .ok (.getfield 121, 3) := by decide +kernel
theorem dX10_isWord_4 : decode cX10_isWord 4 = .ok (.iconst 1, 1) := by decide +kernel
theorem dX10_isWord_5 : decode cX10_isWord 5 = .ok (.if_icmp .ne 16, 3) := by decide +kernel
theorem dX10_isWord_8 : decode cX10_isWord 8 = .ok (.aload_n 0, 1) := by decide +kernel
theorem dX10_isWord_9 : decode cX10_isWord 9 = .ok (.getfield 131, 3) := by decide +kernel
theorem dX10_isWord_12 : decode cX10_isWord 12 = .ok (.lload_n 1, 1) := by decide +kernel
theorem dX10_isWord_13 : decode cX10_isWord 13 = .ok (.lcmp, 1) := by decide +kernel
theorem dX10_isWord_14 : decode cX10_isWord 14 = .ok (.ifCond .ne 7, 3) := by decide +kernel
theorem dX10_isWord_17 : decode cX10_isWord 17 = .ok (.iconst 1, 1) := by decide +kernel
theorem dX10_isWord_18 : decode cX10_isWord 18 = .ok (.goto 4, 3) := by decide +kernel
theorem dX10_isWord_21 : decode cX10_isWord 21 = .ok (.iconst 0, 1) := by decide +kernel
theorem dX10_isWord_22 : decode cX10_isWord 22 = .ok (.ireturn, 1) := by decide +kernel
theorem dX10_rules_0 : decode cX10_rules 0 = .ok (.aload_n 0, 1) := by decide +kernel
theorem dX10_rules_1 : decode cX10_rules 1 = .ok (.iconst 0, 1) := by decide +kernel
theorem dX10_rules_2 : decode cX10_rules 2 = .ok (.putfield 97, 3) := by decide +kernel
theorem dX10_rules_5 : decode cX10_rules 5 = .ok (.aload_n 0, 1) := by decide +kernel
theorem dX10_rules_6 : decode cX10_rules 6 = .ok (.invokevirtual 148, 3) := by decide +kernel
theorem dX10_rules_9 : decode cX10_rules 9 = .ok (.aload_n 0, 1) := by decide +kernel
theorem dX10_rules_10 : decode cX10_rules 10 = .ok (.iconst 0, 1) := by decide +kernel
theorem dX10_rules_11 : decode cX10_rules 11 = .ok (.putfield 138, 3) := by decide +kernel
theorem dX10_rules_14 : decode cX10_rules 14 = .ok (.iconst 0, 1) := by decide +kernel
theorem dX10_rules_15 : decode cX10_rules 15 = .ok (.istore_n 1, 1) := by decide +kernel
theorem dX10_rules_16 : decode cX10_rules 16 = .ok (.iload_n 1, 1) := by decide +kernel
theorem dX10_rules_17 : decode cX10_rules 17 = .ok (.bipush 10, 2) := by decide +kernel
theorem dX10_rules_19 : decode cX10_rules 19 = .ok (.if_icmp .ge 38, 3) := by decide +kernel
theorem dX10_rules_22 : decode cX10_rules 22 = .ok (.aload_n 0, 1) := by decide +kernel
theorem dX10_rules_23 : decode cX10_rules 23 = .ok (.getfield 20, 3) := by decide +kernel
theorem dX10_rules_26 : decode cX10_rules 26 = .ok (.iload_n 1, 1) := by decide +kernel
theorem dX10_rules_27 : decode cX10_rules 27 = .ok (.iconst 0, 1) := by decide +kernel
theorem dX10_rules_28 : decode cX10_rules 28 = .ok (.bastore, 1) := by decide +kernel
theorem dX10_rules_29 : decode cX10_rules 29 = .ok (.aload_n 0, 1) := by decide +kernel
theorem dX10_rules_30 : decode cX10_rules 30 = .ok (.getfield 17, 3) := by decide +kernel
theorem dX10_rules_33 : decode cX10_rules 33 = .ok (.iload_n 1, 1) := by decide +kernel
theorem dX10_rules_34 : decode cX10_rules 34 = .ok (.iload_n 1, 1) := by decide +kernel
theorem dX10_rules_35 : decode cX10_rules 35 = .ok (.iconst 4, 1) := by decide +kernel
theorem dX10_rules_36 : decode cX10_rules 36 = .ok (.if_icmp .lt 13, 3) := by decide +kernel
theorem dX10_rules_39 : decode cX10_rules 39 = .ok (.iload_n 1, 1) := by decide +kernel
theorem dX10_rules_40 : decode cX10_rules 40 = .ok (.bipush 8, 2) := by decide +kernel
theorem dX10_rules_42 : decode cX10_rules 42 = .ok (.if_icmp .ge 7, 3) := by decide +kernel
theorem dX10_rules_45 : decode cX10_rules 45 = .ok (.iconst 1, 1) := by decide +kernel
theorem dX10_rules_46 : decode cX10_rules 46 = .ok (.goto 4, 3) := by decide +kernel
theorem dX10_rules_49 : decode cX10_rules 49 = .ok (.iconst 0, 1) := by decide +kernel
theorem dX10_rules_50 : decode cX10_rules 50 = .ok (.iastore, 1) := by decide +kernel
theorem dX10_rules_51 : decode cX10_rules 51 = .ok (.iinc 1 1, 3) := by decide +kernel
theorem dX10_rules_54 : decode cX10_rules 54 = .ok (.goto (-38), 3) := by decide +kernel
theorem dX10_rules_57 : decode cX10_rules 57 = .ok (.iconst 0, 1) := by decide +kernel
theorem dX10_rules_58 : decode cX10_rules 58 = .ok (.istore_n 1, 1) := by decide +kernel
theorem dX10_rules_59 : decode cX10_rules 59 = .ok (.aload_n 0, 1) := by decide +kernel
theorem dX10_rules_60 : decode cX10_rules 60 = .ok (.invokevirtual 151, 3) := by decide +kernel
theorem dX10_rules_63 : decode cX10_rules 63 = .ok (.aload_n 0, 1) := by decide +kernel
theorem dX10_rules_64 : decode cX10_rules 64 = .ok (.getfield 121, 3) := by decide +kernel
theorem dX10_rules_67 : decode cX10_rules 67 = .ok (.ifCond .eq 23, 3) := by decide +kernel
theorem dX10_rules_70 : decode cX10_rules 70 = .ok (.aload_n 0, 1) := by decide +kernel
theorem dX10_rules_71 : decode cX10_rules 71 = .ok (.invokevirtual 154, 3) := by decide +kernel
theorem dX10_rules_74 : decode cX10_rules 74 = .ok (.ifCond .ne 10, 3) := by decide +kernel
theorem dX10_rules_77 : decode cX10_rules 77 = .ok (.iconst (-1), 1) := by decide +kernel
theorem dX10_rules_78 : decode cX10_rules 78 = .ok (.aload_n 0, 1) := by decide +kernel
theorem dX10_rules_79 : decode cX10_rules 79 = .ok (.getfield 141, 3) := by decide +kernel
theorem dX10_rules_82 : decode cX10_rules 82 = .ok (.isub, 1) := by decide +kernel
theorem dX10_rules_83 : decode cX10_rules 83 = .ok (.ireturn, 1) := by decide +kernel
theorem dX10_rules_84 : decode cX10_rules 84 = .ok (.iinc 1 1, 3) := by decide +kernel
theorem dX10_rules_87 : decode cX10_rules 87 = .ok (.goto (-24), 3) := by decide +kernel
theorem dX10_rules_90 : decode cX10_rules 90 = .ok (.iconst 0, 1) := by decide +kernel
theorem dX10_rules_91 : decode cX10_rules 91 = .ok (.istore_n 2, 1) := by decide +kernel
theorem dX10_rules_92 : decode cX10_rules 92 = .ok (.iload_n 2, 1) := by decide +kernel
theorem dX10_rules_93 : decode cX10_rules 93 = .ok (.bipush 10, 2) := by decide +kernel
theorem dX10_rules_95 : decode cX10_rules 95 = .ok (.if_icmp .ge 21, 3) := by decide +kernel
theorem dX10_rules_98 : decode cX10_rules 98 = .ok (.aload_n 0, 1) := by decide +kernel
theorem dX10_rules_99 : decode cX10_rules 99 = .ok (.getfield 13, 3) := by decide +kernel
theorem dX10_rules_102 : decode cX10_rules 102 = .ok (.iload_n 2, 1) := by decide +kernel
theorem dX10_rules_103 : decode cX10_rules 103 = .ok (.aload_n 0, 1) := by decide +kernel
theorem dX10_rules_104 : decode cX10_rules 104 = .ok (.getfield 17, 3) := by decide +kernel
theorem dX10_rules_107 : decode cX10_rules 107 = .ok (.iload_n 2, 1) := by decide +kernel
theorem dX10_rules_108 : decode cX10_rules 108 = .ok (.iaload, 1) := by decide +kernel
theorem dX10_rules_109 : decode cX10_rules 109 = .ok (.iastore, 1) := by decide +kernel
theorem dX10_rules_110 : decode cX10_rules 110 = .ok (.iinc 2 1, 3) := by decide +kernel
theorem dX10_rules_113 : decode cX10_rules 113 = .ok (.goto (-21), 3) := by decide +kernel
theorem dX10_rules_116 : decode cX10_rules 116 = .ok (.aload_n 0, 1) := by decide +kernel
theorem dX10_rules_117 : decode cX10_rules 117 = .ok (.iload_n 1, 1) := by decide +kernel
theorem dX10_rules_118 : decode cX10_rules 118 = .ok (.putfield 158, 3) := by decide +kernel
theorem dX10_rules_121 : decode cX10_rules 121 = .ok (.iload_n 1, 1) := by decide +kernel
theorem dX10_rules_122 : decode cX10_rules 122 = .ok (.ireturn, 1) := by decide +kernel
theorem dX10_rule_0 : decode cX10_rule 0 = .ok (.aload_n 0, 1) := by decide +kernel
theorem dX10_rule_1 : decode cX10_rule 1 = .ok (.ldc2_w 161, 3) := by decide +kernel
theorem dX10_rule_4 : decode cX10_rule 4 = .ok (.invokevirtual 163, 3) := by decide +kernel
theorem dX10_rule_7 : decode cX10_rule 7 = .ok (.ifCond .eq 7, 3) := by decide +kernel
theorem dX10_rule_10 : decode cX10_rule 10 = .ok (.iconst 0, 1) := by decide +kernel
theorem dX10_rule_11 : decode cX10_rule 11 = .ok (.goto 48, 3) := by decide +kernel
theorem dX10_rule_14 : decode cX10_rule 14 = .ok (.aload_n 0, 1) := by decide +kernel
theorem dX10_rule_15 : decode cX10_rule 15 = .ok (.ldc2_w 167, 3) := by decide +kernel
theorem dX10_rule_18 : decode cX10_rule 18 = .ok (.invokevirtual 163, 3) := by decide +kernel
theorem dX10_rule_21 : decode cX10_rule 21 = .ok (.ifCond .eq 7, 3) := by decide +kernel
theorem dX10_rule_24 : decode cX10_rule 24 = .ok (.iconst 4, 1) := by decide +kernel
theorem dX10_rule_25 : decode cX10_rule 25 = .ok (.goto 34, 3) := by decide +kernel
theorem dX10_rule_28 : decode cX10_rule 28 = .ok (.aload_n 0, 1) := by decide +kernel
theorem dX10_rule_29 : decode cX10_rule 29 = .ok (.ldc2_w 169, 3) := by decide +kernel
theorem dX10_rule_32 : decode cX10_rule 32 = .ok (.invokevirtual 163, 3) := by decide +kernel
theorem dX10_rule_35 : decode cX10_rule 35 = .ok (.ifCond .eq 8, 3) := by decide +kernel
theorem dX10_rule_38 : decode cX10_rule 38 = .ok (.bipush 8, 2) := by decide +kernel
theorem dX10_rule_40 : decode cX10_rule 40 = .ok (.goto 19, 3) := by decide +kernel
theorem dX10_rule_43 : decode cX10_rule 43 = .ok (.aload_n 0, 1) := by decide +kernel
theorem dX10_rule_44 : decode cX10_rule 44 = .ok (.ldc2_w 171, 3) := by decide +kernel
theorem dX10_rule_47 : decode cX10_rule 47 = .ok (.invokevirtual 163, 3) := by decide +kernel
theorem dX10_rule_50 : decode cX10_rule 50 = .ok (.ifCond .eq 8, 3) := by decide +kernel
theorem dX10_rule_53 : decode cX10_rule 53 = .ok (.bipush 9, 2) := by decide +kernel
theorem dX10_rule_55 : decode cX10_rule 55 = .ok (.goto 4, 3) := by decide +kernel
theorem dX10_rule_58 : decode cX10_rule 58 = .ok (.iconst (-1), 1) := by decide +kernel
theorem dX10_rule_59 : decode cX10_rule 59 = .ok (.istore_n 1, 1) := by decide +kernel
theorem dX10_rule_60 : decode cX10_rule 60 = .ok (.iload_n 1, 1) := by decide +kernel
theorem dX10_rule_61 : decode cX10_rule 61 = .ok (.ifCond .ge 8, 3) := by decide +kernel
theorem dX10_rule_64 : decode cX10_rule 64 = .ok (.aload_n 0, 1) := by decide +kernel
theorem dX10_rule_65 : decode cX10_rule 65 = .ok (.invokevirtual 173, 3) := by decide +kernel
theorem dX10_rule_68 : decode cX10_rule 68 = .ok (.ireturn, 1) := by decide +kernel
theorem dX10_rule_69 : decode cX10_rule 69 = .ok (.iload_n 1, 1) := by decide +kernel
theorem dX10_rule_70 : decode cX10_rule 70 = .ok (.bipush 8, 2) := by decide +kernel
theorem dX10_rule_72 : decode cX10_rule 72 = .ok (.if_icmp .lt 22, 3) := by decide +kernel
theorem dX10_rule_75 : decode cX10_rule 75 = .ok (.aload_n 0, 1) := by decide +kernel
theorem dX10_rule_76 : decode cX10_rule 76 = .ok (.getfield 20, 3) := by decide +kernel
theorem dX10_rule_79 : decode cX10_rule 79 = .ok (.iload_n 1, 1) := by decide +kernel
theorem dX10_rule_80 : decode cX10_rule 80 = .ok (.baload, 1) := by decide +kernel
theorem dX10_rule_81 : decode cX10_rule 81 = .ok (.ifCond .eq 13, 3) := by decide +kernel
theorem dX10_rule_84 : decode cX10_rule 84 = .ok (.aload_n 0, 1) := by decide +kernel
theorem dX10_rule_85 : decode cX10_rule 85 = .ok (.iconst 4, 1) := by decide +kernel
theorem dX10_rule_86 : decode cX10_rule 86 = .ok (.aload_n 0, 1) := by decide +kernel
theorem dX10_rule_87 : decode cX10_rule 87 = .ok (.getfield 118, 3) := by decide +kernel
theorem dX10_rule_90 : decode cX10_rule 90 = .ok (.invokevirtual 144, 3) := by decide +kernel
theorem dX10_rule_93 : decode cX10_rule 93 = .ok (.ireturn, 1) := by decide +kernel
theorem dX10_rule_94 : decode cX10_rule 94 = .ok (.aload_n 0, 1) := by decide +kernel
theorem dX10_rule_95 : decode cX10_rule 95 = .ok (.invokevirtual 151, 3) := by decide +kernel
theorem dX10_rule_98 : decode cX10_rule 98 = .ok (.iload_n 1, 1) := by decide +kernel
theorem dX10_rule_99 : decode cX10_rule 99 = .ok (.ifCond .ne 9, 3) := by decide +kernel
theorem dX10_rule_102 : decode cX10_rule 102 = .ok (.sipush 9999, 3) := by decide +kernel
theorem dX10_rule_105 : decode cX10_rule 105 = .ok (.goto 15, 3) := by decide +kernel
theorem dX10_rule_108 : decode cX10_rule 108 = .ok (.iload_n 1, 1) := by decide +kernel
theorem dX10_rule_109 : decode cX10_rule 109 = .ok (.iconst 4, 1) := by decide +kernel
theorem dX10_rule_110 : decode cX10_rule 110 = .ok (.if_icmp .ne 8, 3) := by decide +kernel
theorem dX10_rule_113 : decode cX10_rule 113 = .ok (.bipush 100, 2) := by decide +kernel
theorem dX10_rule_115 : decode cX10_rule 115 = .ok (.goto 5, 3) := by decide +kernel
theorem dX10_rule_118 : decode cX10_rule 118 = .ok (.bipush 50, 2) := by decide +kernel
theorem dX10_rule_120 : decode cX10_rule 120 = .ok (.istore_n 2, 1) := by decide +kernel
theorem dX10_rule_121 : decode cX10_rule 121 = .ok (.iload_n 1, 1) := by decide +kernel
theorem dX10_rule_122 : decode cX10_rule 122 = .ok (.bipush 8, 2) := by decide +kernel
theorem dX10_rule_124 : decode cX10_rule 124 = .ok (.if_icmp .ge 64, 3) := by decide +kernel
theorem dX10_rule_127 : decode cX10_rule 127 = .ok (.aload_n 0, 1) := by decide +kernel
theorem dX10_rule_128 : decode cX10_rule 128 = .ok (.getfield 121, 3) := by decide +kernel
theorem dX10_rule_131 : decode cX10_rule 131 = .ok (.iconst 2, 1) := by decide +kernel
theorem dX10_rule_132 : decode cX10_rule 132 = .ok (.if_icmp .eq 8, 3) := by decide +kernel
theorem dX10_rule_135 : decode cX10_rule 135 = .ok (.aload_n 0, 1) := by decide +kernel
theorem dX10_rule_136 : decode cX10_rule 136 = .ok (.invokevirtual 173, 3) := by decide +kernel
theorem dX10_rule_139 : decode cX10_rule 139 = .ok (.ireturn, 1) := by decide +kernel
theorem dX10_rule_140 : decode cX10_rule 140 = .ok (.aload_n 0, 1) := by decide +kernel
theorem dX10_rule_141 : decode cX10_rule 141 = .ok (.getfield 135, 3) := by decide +kernel
theorem dX10_rule_144 : decode cX10_rule 144 = .ok (.iconst 3, 1) := by decide +kernel
theorem dX10_rule_145 : decode cX10_rule 145 = .ok (.if_icmp .le 13, 3) := by decide +kernel
theorem dX10_rule_148 : decode cX10_rule 148 = .ok (.aload_n 0, 1) := by decide +kernel
theorem dX10_rule_149 : decode cX10_rule 149 = .ok (.iconst 3, 1) := by decide +kernel
theorem dX10_rule_150 : decode cX10_rule 150 = .ok (.aload_n 0, 1) := by decide +kernel
theorem dX10_rule_151 : decode cX10_rule 151 = .ok (.getfield 118, 3) := by decide +kernel
theorem dX10_rule_154 : decode cX10_rule 154 = .ok (.invokevirtual 144, 3) := by decide +kernel
theorem dX10_rule_157 : decode cX10_rule 157 = .ok (.ireturn, 1) := by decide +kernel
theorem dX10_rule_158 : decode cX10_rule 158 = .ok (.iload_n 1, 1) := by decide +kernel
theorem dX10_rule_159 : decode cX10_rule 159 = .ok (.aload_n 0, 1) := by decide +kernel
theorem dX10_rule_160 : decode cX10_rule 160 = .ok (.getfield 135, 3) := by decide +kernel
theorem dX10_rule_163 : decode cX10_rule 163 = .ok (.iadd, 1) := by decide +kernel
theorem dX10_rule_164 : decode cX10_rule 164 = .ok (.istore_n 1, 1) := by decide +kernel
theorem dX10_rule_165 : decode cX10_rule 165 = .ok (.aload_n 0, 1) := by decide +kernel
theorem dX10_rule_166 : decode cX10_rule 166 = .ok (.getfield 20, 3) := by decide +kernel
theorem dX10_rule_169 : decode cX10_rule 169 = .ok (.iload_n 1, 1) := by decide +kernel
theorem dX10_rule_170 : decode cX10_rule 170 = .ok (.baload, 1) := by decide +kernel
theorem dX10_rule_171 : decode cX10_rule 171 = .ok (.ifCond .eq 13, 3) := by decide +kernel
theorem dX10_rule_174 : decode cX10_rule 174 = .ok (.aload_n 0, 1) := by decide +kernel
theorem dX10_rule_175 : decode cX10_rule 175 = .ok (.iconst 4, 1) := by decide +kernel
theorem dX10_rule_176 : decode cX10_rule 176 = .ok (.aload_n 0, 1) := by decide +kernel
theorem dX10_rule_177 : decode cX10_rule 177 = .ok (.getfield 118, 3) := by decide +kernel
theorem dX10_rule_180 : decode cX10_rule 180 = .ok (.invokevirtual 144, 3) := by decide +kernel
theorem dX10_rule_183 : decode cX10_rule 183 = .ok (.ireturn, 1) := by decide +kernel
theorem dX10_rule_184 : decode cX10_rule 184 = .ok (.aload_n 0, 1) := by decide +kernel
theorem dX10_rule_185 : decode cX10_rule 185 = .ok (.invokevirtual 151, 3) := by decide +kernel
theorem dX10_rule_188 : decode cX10_rule 188 = .ok (.iload_n 1, 1) := by decide +kernel
theorem dX10_rule_189 : decode cX10_rule 189 = .ok (.bipush 9, 2) := by decide +kernel
theorem dX10_rule_191 : decode cX10_rule 191 = .ok (.if_icmp .ne 48, 3) := by decide +kernel
theorem dX10_rule_194 : decode cX10_rule 194 = .ok (.aload_n 0, 1) := by decide +kernel
theorem dX10_rule_195 : decode cX10_rule 195 = .ok (.ldc2_w 176, 3) := by decide +kernel
theorem dX10_rule_198 : decode cX10_rule 198 = .ok (.invokevirtual 163, 3) := by decide +kernel
theorem dX10_rule_201 : decode cX10_rule 201 = .ok (.istore_n 3, 1) := by decide +kernel
theorem dX10_rule_202 : decode cX10_rule 202 = .ok (.iload_n 3, 1) := by decide +kernel
theorem dX10_rule_203 : decode cX10_rule 203 = .ok (.ifCond .ne 18, 3) := by decide +kernel
theorem dX10_rule_206 : decode cX10_rule 206 = .ok (.aload_n 0, 1) := by decide +kernel
theorem dX10_rule_207 : decode cX10_rule 207 = .ok (.ldc2_w 178, 3) := by decide +kernel
theorem dX10_rule_210 : decode cX10_rule 210 = .ok (.invokevirtual 163, 3) := by decide +kernel
theorem dX10_rule_213 : decode cX10_rule 213 = .ok (.ifCond .ne 8, 3) := by decide +kernel
theorem dX10_rule_216 : decode cX10_rule 216 = .ok (.aload_n 0, 1) := by decide +kernel
theorem dX10_rule_217 : decode cX10_rule 217 = .ok (.invokevirtual 173, 3) := by decide +kernel
theorem dX10_rule_220 : decode cX10_rule 220 = .ok (.ireturn, 1) := by decide +kernel
theorem dX10_rule_221 : decode cX10_rule 221 = .ok (.aload_n 0, 1) := by decide +kernel
theorem dX10_rule_222 : decode cX10_rule 222 = .ok (.getfield 17, 3) := by decide +kernel
theorem dX10_rule_225 : decode cX10_rule 225 = .ok (.iload_n 1, 1) := by decide +kernel
theorem dX10_rule_226 : decode cX10_rule 226 = .ok (.iload_n 3, 1) := by decide +kernel
theorem dX10_rule_227 : decode cX10_rule 227 = .ok (.ifCond .eq 7, 3) := by decide +kernel
theorem dX10_rule_230 : decode cX10_rule 230 = .ok (.iconst 1, 1) := by decide +kernel
theorem dX10_rule_231 : decode cX10_rule 231 = .ok (.goto 4, 3) := by decide +kernel
theorem dX10_rule_234 : decode cX10_rule 234 = .ok (.iconst 0, 1) := by decide +kernel
theorem dX10_rule_235 : decode cX10_rule 235 = .ok (.iastore, 1) := by decide +kernel
theorem dX10_rule_236 : decode cX10_rule 236 = .ok (.goto 44, 3) := by decide +kernel
theorem dX10_rule_239 : decode cX10_rule 239 = .ok (.aload_n 0, 1) := by decide +kernel
theorem dX10_rule_240 : decode cX10_rule 240 = .ok (.getfield 121, 3) := by decide +kernel
theorem dX10_rule_243 : decode cX10_rule 243 = .ok (.iconst 2, 1) := by decide +kernel
theorem dX10_rule_244 : decode cX10_rule 244 = .ok (.if_icmp .eq 8, 3) := by decide +kernel
theorem dX10_rule_247 : decode cX10_rule 247 = .ok (.aload_n 0, 1) := by decide +kernel
theorem dX10_rule_248 : decode cX10_rule 248 = .ok (.invokevirtual 173, 3) := by decide +kernel
theorem dX10_rule_251 : decode cX10_rule 251 = .ok (.ireturn, 1) := by decide +kernel
theorem dX10_rule_252 : decode cX10_rule 252 = .ok (.aload_n 0, 1) := by decide +kernel
theorem dX10_rule_253 : decode cX10_rule 253 = .ok (.getfield 135, 3) := by decide +kernel
theorem dX10_rule_256 : decode cX10_rule 256 = .ok (.iload_n 2, 1) := by decide +kernel
theorem dX10_rule_257 : decode cX10_rule 257 = .ok (.if_icmp .le 13, 3) := by decide +kernel
theorem dX10_rule_260 : decode cX10_rule 260 = .ok (.aload_n 0, 1) := by decide +kernel
theorem dX10_rule_261 : decode cX10_rule 261 = .ok (.iconst 3, 1) := by decide +kernel
theorem dX10_rule_262 : decode cX10_rule 262 = .ok (.aload_n 0, 1) := by decide +kernel
theorem dX10_rule_263 : decode cX10_rule 263 = .ok (.getfield 118, 3) := by decide +kernel
theorem dX10_rule_266 : decode cX10_rule 266 = .ok (.invokevirtual 144, 3) := by decide +kernel
theorem dX10_rule_269 : decode cX10_rule 269 = .ok (.ireturn, 1) := by decide +kernel
theorem dX10_rule_270 : decode cX10_rule 270 = .ok (.aload_n 0, 1) := by decide +kernel
theorem dX10_rule_271 : decode cX10_rule 271 = .ok (.getfield 17, 3) := by decide +kernel
theorem dX10_rule_274 : decode cX10_rule 274 = .ok (.iload_n 1, 1) := by decide +kernel
theorem dX10_rule_275 : decode cX10_rule 275 = .ok (.aload_n 0, 1) := by decide +kernel
theorem dX10_rule_276 : decode cX10_rule 276 = .ok (.getfield 135, 3) := by decide +kernel
theorem dX10_rule_279 : decode cX10_rule 279 = .ok (.iastore, 1) := by decide +kernel
theorem dX10_rule_280 : decode cX10_rule 280 = .ok (.aload_n 0, 1) := by decide +kernel
theorem dX10_rule_281 : decode cX10_rule 281 = .ok (.getfield 20, 3) := by decide +kernel
theorem dX10_rule_284 : decode cX10_rule 284 = .ok (.iload_n 1, 1) := by decide +kernel
theorem dX10_rule_285 : decode cX10_rule 285 = .ok (.iconst 1, 1) := by decide +kernel
theorem dX10_rule_286 : decode cX10_rule 286 = .ok (.bastore, 1) := by decide +kernel
theorem dX10_rule_287 : decode cX10_rule 287 = .ok (.aload_n 0, 1) := by decide +kernel
theorem dX10_rule_288 : decode cX10_rule 288 = .ok (.invokevirtual 151, 3) := by decide +kernel
theorem dX10_rule_291 : decode cX10_rule 291 = .ok (.aload_n 0, 1) := by decide +kernel
theorem dX10_rule_292 : decode cX10_rule 292 = .ok (.getfield 121, 3) := by decide +kernel
theorem dX10_rule_295 : decode cX10_rule 295 = .ok (.iconst 3, 1) := by decide +kernel
theorem dX10_rule_296 : decode cX10_rule 296 = .ok (.if_icmp .eq 8, 3) := by decide +kernel
theorem dX10_rule_299 : decode cX10_rule 299 = .ok (.aload_n 0, 1) := by decide +kernel
theorem dX10_rule_300 : decode cX10_rule 300 = .ok (.invokevirtual 173, 3) := by decide +kernel
theorem dX10_rule_303 : decode cX10_rule 303 = .ok (.ireturn, 1) := by decide +kernel
theorem dX10_rule_304 : decode cX10_rule 304 = .ok (.aload_n 0, 1) := by decide +kernel
theorem dX10_rule_305 : decode cX10_rule 305 = .ok (.invokevirtual 151, 3) := by decide +kernel
theorem dX10_rule_308 : decode cX10_rule 308 = .ok (.iconst 1, 1) := by decide +kernel
theorem dX10_rule_309 : decode cX10_rule 309 = .ok (.ireturn, 1) := by decide +kernel
theorem dX10_fault_0 : decode cX10_fault 0 = .ok (.aload_n 0, 1) := by decide +kernel
theorem dX10_fault_1 : decode cX10_fault 1 = .ok (.iconst 0, 1) := by decide +kernel
theorem dX10_fault_2 : decode cX10_fault 2 = .ok (.putfield 97, 3) := by decide +kernel
theorem dX10_fault_5 : decode cX10_fault 5 = .ok (.aload_n 0, 1) := by decide +kernel
theorem dX10_fault_6 : decode cX10_fault 6 = .ok (.getfield 138, 3) := by decide +kernel
theorem dX10_fault_9 : decode cX10_fault 9 = .ok (.ireturn, 1) := by decide +kernel
theorem dX10_isIn_0 : decode cX10_isIn 0 = .ok (.iload_n 0, 1) := by decide +kernel
theorem dX10_isIn_1 : decode cX10_isIn 1 = .ok (.iload_n 1, 1) := by decide +kernel
theorem dX10_isIn_2 : decode cX10_isIn 2 = .ok (.if_icmp .lt 12, 3) := by decide +kernel
theorem dX10_isIn_5 : decode cX10_isIn 5 = .ok (.iload_n 0, 1) := by decide +kernel
theorem dX10_isIn_6 : decode cX10_isIn 6 = .ok (.iload_n 2, 1) := by decide +kernel
theorem dX10_isIn_7 : decode cX10_isIn 7 = .ok (.if_icmp .gt 7, 3) := by decide +kernel
theorem dX10_isIn_10 : decode cX10_isIn 10 = .ok (.iconst 1, 1) := by decide +kernel
theorem dX10_isIn_11 : decode cX10_isIn 11 = .ok (.goto 4, 3) := by decide +kernel
theorem dX10_isIn_14 : decode cX10_isIn 14 = .ok (.iconst 0, 1) := by decide +kernel
theorem dX10_isIn_15 : decode cX10_isIn 15 = .ok (.ireturn, 1) := by decide +kernel
theorem dX10_lot_0 : decode cX10_lot 0 = .ok (.aload_n 0, 1) := by decide +kernel
theorem dX10_lot_1 : decode cX10_lot 1 = .ok (.iconst 0, 1) := by decide +kernel
theorem dX10_lot_2 : decode cX10_lot 2 = .ok (.putfield 97, 3) := by decide +kernel
theorem dX10_lot_5 : decode cX10_lot 5 = .ok (.aload_n 0, 1) := by decide +kernel
theorem dX10_lot_6 : decode cX10_lot 6 = .ok (.getfield 180, 3) := by decide +kernel
theorem dX10_lot_9 : decode cX10_lot 9 = .ok (.bipush 100, 2) := by decide +kernel
theorem dX10_lot_11 : decode cX10_lot 11 = .ok (.if_icmp .eq 53, 3) := by decide +kernel
theorem dX10_lot_14 : decode cX10_lot 14 = .ok (.iload_n 1, 1) := by decide +kernel
theorem dX10_lot_15 : decode cX10_lot 15 = .ok (.iconst 0, 1) := by decide +kernel
theorem dX10_lot_16 : decode cX10_lot 16 = .ok (.bipush 7, 2) := by decide +kernel
theorem dX10_lot_18 : decode cX10_lot 18 = .ok (.invokestatic 183, 3) := by decide +kernel
theorem dX10_lot_21 : decode cX10_lot 21 = .ok (.ifCond .eq 43, 3) := by decide +kernel
theorem dX10_lot_24 : decode cX10_lot 24 = .ok (.iload_n 2, 1) := by decide +kernel
theorem dX10_lot_25 : decode cX10_lot 25 = .ok (.iconst 0, 1) := by decide +kernel
theorem dX10_lot_26 : decode cX10_lot 26 = .ok (.iconst 5, 1) := by decide +kernel
theorem dX10_lot_27 : decode cX10_lot 27 = .ok (.invokestatic 183, 3) := by decide +kernel
theorem dX10_lot_30 : decode cX10_lot 30 = .ok (.ifCond .eq 34, 3) := by decide +kernel
theorem dX10_lot_33 : decode cX10_lot 33 = .ok (.iload_n 3, 1) := by decide +kernel
theorem dX10_lot_34 : decode cX10_lot 34 = .ok (.iconst 0, 1) := by decide +kernel
theorem dX10_lot_35 : decode cX10_lot 35 = .ok (.iconst 3, 1) := by decide +kernel
theorem dX10_lot_36 : decode cX10_lot 36 = .ok (.invokestatic 183, 3) := by decide +kernel
theorem dX10_lot_39 : decode cX10_lot 39 = .ok (.ifCond .eq 25, 3) := by decide +kernel
theorem dX10_lot_42 : decode cX10_lot 42 = .ok (.iload 4, 2) := by decide +kernel
theorem dX10_lot_44 : decode cX10_lot 44 = .ok (.iconst 1, 1) := by decide +kernel
theorem dX10_lot_45 : decode cX10_lot 45 = .ok (.sipush 500, 3) := by decide +kernel
theorem dX10_lot_48 : decode cX10_lot 48 = .ok (.invokestatic 183, 3) := by decide +kernel
theorem dX10_lot_51 : decode cX10_lot 51 = .ok (.ifCond .eq 13, 3) := by decide +kernel
theorem dX10_lot_54 : decode cX10_lot 54 = .ok (.iload 5, 2) := by decide +kernel
theorem dX10_lot_56 : decode cX10_lot 56 = .ok (.iconst 0, 1) := by decide +kernel
theorem dX10_lot_57 : decode cX10_lot 57 = .ok (.iconst 3, 1) := by decide +kernel
theorem dX10_lot_58 : decode cX10_lot 58 = .ok (.invokestatic 183, 3) := by decide +kernel
theorem dX10_lot_61 : decode cX10_lot 61 = .ok (.ifCond .ne 5, 3) := by decide +kernel
theorem dX10_lot_64 : decode cX10_lot 64 = .ok (.iconst (-1), 1) := by decide +kernel
theorem dX10_lot_65 : decode cX10_lot 65 = .ok (.ireturn, 1) := by decide +kernel
theorem dX10_lot_66 : decode cX10_lot 66 = .ok (.aload_n 0, 1) := by decide +kernel
theorem dX10_lot_67 : decode cX10_lot 67 = .ok (.getfield 24, 3) := by decide +kernel
theorem dX10_lot_70 : decode cX10_lot 70 = .ok (.aload_n 0, 1) := by decide +kernel
theorem dX10_lot_71 : decode cX10_lot 71 = .ok (.getfield 180, 3) := by decide +kernel
theorem dX10_lot_74 : decode cX10_lot 74 = .ok (.iload_n 1, 1) := by decide +kernel
theorem dX10_lot_75 : decode cX10_lot 75 = .ok (.iastore, 1) := by decide +kernel
theorem dX10_lot_76 : decode cX10_lot 76 = .ok (.aload_n 0, 1) := by decide +kernel
theorem dX10_lot_77 : decode cX10_lot 77 = .ok (.getfield 27, 3) := by decide +kernel
theorem dX10_lot_80 : decode cX10_lot 80 = .ok (.aload_n 0, 1) := by decide +kernel
theorem dX10_lot_81 : decode cX10_lot 81 = .ok (.getfield 180, 3) := by decide +kernel
theorem dX10_lot_84 : decode cX10_lot 84 = .ok (.iload_n 2, 1) := by decide +kernel
theorem dX10_lot_85 : decode cX10_lot 85 = .ok (.iastore, 1) := by decide +kernel
theorem dX10_lot_86 : decode cX10_lot 86 = .ok (.aload_n 0, 1) := by decide +kernel
theorem dX10_lot_87 : decode cX10_lot 87 = .ok (.getfield 30, 3) := by decide +kernel
theorem dX10_lot_90 : decode cX10_lot 90 = .ok (.aload_n 0, 1) := by decide +kernel
theorem dX10_lot_91 : decode cX10_lot 91 = .ok (.getfield 180, 3) := by decide +kernel
theorem dX10_lot_94 : decode cX10_lot 94 = .ok (.iload_n 3, 1) := by decide +kernel
theorem dX10_lot_95 : decode cX10_lot 95 = .ok (.iastore, 1) := by decide +kernel
theorem dX10_lot_96 : decode cX10_lot 96 = .ok (.aload_n 0, 1) := by decide +kernel
theorem dX10_lot_97 : decode cX10_lot 97 = .ok (.getfield 33, 3) := by decide +kernel
theorem dX10_lot_100 : decode cX10_lot 100 = .ok (.aload_n 0, 1) := by decide +kernel
theorem dX10_lot_101 : decode cX10_lot 101 = .ok (.getfield 180, 3) := by decide +kernel
theorem dX10_lot_104 : decode cX10_lot 104 = .ok (.iload 4, 2) := by decide +kernel
theorem dX10_lot_106 : decode cX10_lot 106 = .ok (.iastore, 1) := by decide +kernel
theorem dX10_lot_107 : decode cX10_lot 107 = .ok (.aload_n 0, 1) := by decide +kernel
theorem dX10_lot_108 : decode cX10_lot 108 = .ok (.getfield 36, 3) := by decide +kernel
theorem dX10_lot_111 : decode cX10_lot 111 = .ok (.aload_n 0, 1) := by decide +kernel
theorem dX10_lot_112 : decode cX10_lot 112 = .ok (.getfield 180, 3) := by decide +kernel
theorem dX10_lot_115 : decode cX10_lot 115 = .ok (.iload 5, 2) := by decide +kernel
theorem dX10_lot_117 : decode cX10_lot 117 = .ok (.iastore, 1) := by decide +kernel
theorem dX10_lot_118 : decode cX10_lot 118 = .ok (.aload_n 0, 1) := by decide +kernel
theorem dX10_lot_119 : decode cX10_lot 119 = .ok (.getfield 39, 3) := by decide +kernel
theorem dX10_lot_122 : decode cX10_lot 122 = .ok (.aload_n 0, 1) := by decide +kernel
theorem dX10_lot_123 : decode cX10_lot 123 = .ok (.getfield 180, 3) := by decide +kernel
theorem dX10_lot_126 : decode cX10_lot 126 = .ok (.iconst (-1), 1) := by decide +kernel
theorem dX10_lot_127 : decode cX10_lot 127 = .ok (.iastore, 1) := by decide +kernel
theorem dX10_lot_128 : decode cX10_lot 128 = .ok (.aload_n 0, 1) := by decide +kernel
theorem dX10_lot_129 : decode cX10_lot 129 = .ok (.dup, 1) := by decide +kernel
theorem dX10_lot_130 : decode cX10_lot 130 = .ok (.getfield 180, 3) := by decide +kernel
theorem dX10_lot_133 : decode cX10_lot 133 = .ok (.iconst 1, 1) := by decide +kernel
theorem dX10_lot_134 : decode cX10_lot 134 = .ok (.iadd, 1) := by decide +kernel
theorem dX10_lot_135 : decode cX10_lot 135 = .ok (.putfield 180, 3) := by decide +kernel
theorem dX10_lot_138 : decode cX10_lot 138 = .ok (.aload_n 0, 1) := by decide +kernel
theorem dX10_lot_139 : decode cX10_lot 139 = .ok (.getfield 180, 3) := by decide +kernel
theorem dX10_lot_142 : decode cX10_lot 142 = .ok (.iconst 1, 1) := by decide +kernel
theorem dX10_lot_143 : decode cX10_lot 143 = .ok (.isub, 1) := by decide +kernel
theorem dX10_lot_144 : decode cX10_lot 144 = .ok (.ireturn, 1) := by decide +kernel
theorem dX10_money_0 : decode cX10_money 0 = .ok (.aload_n 0, 1) := by decide +kernel
theorem dX10_money_1 : decode cX10_money 1 = .ok (.iconst 0, 1) := by decide +kernel
theorem dX10_money_2 : decode cX10_money 2 = .ok (.putfield 97, 3) := by decide +kernel
theorem dX10_money_5 : decode cX10_money 5 = .ok (.iload_n 1, 1) := by decide +kernel
theorem dX10_money_6 : decode cX10_money 6 = .ok (.iconst 0, 1) := by decide +kernel
theorem dX10_money_7 : decode cX10_money 7 = .ok (.bipush 9, 2) := by decide +kernel
theorem dX10_money_9 : decode cX10_money 9 = .ok (.invokestatic 183, 3) := by decide +kernel
theorem dX10_money_12 : decode cX10_money 12 = .ok (.ifCond .eq 13, 3) := by decide +kernel
theorem dX10_money_15 : decode cX10_money 15 = .ok (.iload_n 2, 1) := by decide +kernel
theorem dX10_money_16 : decode cX10_money 16 = .ok (.iconst 0, 1) := by decide +kernel
theorem dX10_money_17 : decode cX10_money 17 = .ok (.ldc 187, 2) := by decide +kernel
theorem dX10_money_19 : decode cX10_money 19 = .ok (.invokestatic 183, 3) := by decide +kernel
theorem dX10_money_22 : decode cX10_money 22 = .ok (.ifCond .ne 5, 3) := by decide +kernel
theorem dX10_money_25 : decode cX10_money 25 = .ok (.iconst 0, 1) := by decide +kernel
theorem dX10_money_26 : decode cX10_money 26 = .ok (.ireturn, 1) := by decide +kernel
theorem dX10_money_27 : decode cX10_money 27 = .ok (.aload_n 0, 1) := by decide +kernel
theorem dX10_money_28 : decode cX10_money 28 = .ok (.getfield 45, 3) := by decide +kernel
theorem dX10_money_31 : decode cX10_money 31 = .ok (.iload_n 1, 1) := by decide +kernel
theorem dX10_money_32 : decode cX10_money 32 = .ok (.iload_n 2, 1) := by decide +kernel
theorem dX10_money_33 : decode cX10_money 33 = .ok (.iastore, 1) := by decide +kernel
theorem dX10_money_34 : decode cX10_money 34 = .ok (.aload_n 0, 1) := by decide +kernel
theorem dX10_money_35 : decode cX10_money 35 = .ok (.getfield 48, 3) := by decide +kernel
theorem dX10_money_38 : decode cX10_money 38 = .ok (.iload_n 1, 1) := by decide +kernel
theorem dX10_money_39 : decode cX10_money 39 = .ok (.iload_n 2, 1) := by decide +kernel
theorem dX10_money_40 : decode cX10_money 40 = .ok (.iastore, 1) := by decide +kernel
theorem dX10_money_41 : decode cX10_money 41 = .ok (.iconst 1, 1) := by decide +kernel
theorem dX10_money_42 : decode cX10_money 42 = .ok (.ireturn, 1) := by decide +kernel
theorem dX10_place_0 : decode cX10_place 0 = .ok (.bipush 16, 2) := by decide +kernel
theorem dX10_place_2 : decode cX10_place 2 = .ok (.iload_n 0, 1) := by decide +kernel
theorem dX10_place_3 : decode cX10_place 3 = .ok (.imul, 1) := by decide +kernel
theorem dX10_place_4 : decode cX10_place 4 = .ok (.iconst 4, 1) := by decide +kernel
theorem dX10_place_5 : decode cX10_place 5 = .ok (.iload_n 1, 1) := by decide +kernel
theorem dX10_place_6 : decode cX10_place 6 = .ok (.imul, 1) := by decide +kernel
theorem dX10_place_7 : decode cX10_place 7 = .ok (.iadd, 1) := by decide +kernel
theorem dX10_place_8 : decode cX10_place 8 = .ok (.iload_n 2, 1) := by decide +kernel
theorem dX10_place_9 : decode cX10_place 9 = .ok (.iadd, 1) := by decide +kernel
theorem dX10_place_10 : decode cX10_place 10 = .ok (.ireturn, 1) := by decide +kernel
theorem dX10_want_0 : decode cX10_want 0 = .ok (.aload_n 0, 1) := by decide +kernel
theorem dX10_want_1 : decode cX10_want 1 = .ok (.iconst 0, 1) := by decide +kernel
theorem dX10_want_2 : decode cX10_want 2 = .ok (.putfield 97, 3) := by decide +kernel
theorem dX10_want_5 : decode cX10_want 5 = .ok (.iload_n 1, 1) := by decide +kernel
theorem dX10_want_6 : decode cX10_want 6 = .ok (.iconst 0, 1) := by decide +kernel
theorem dX10_want_7 : decode cX10_want 7 = .ok (.bipush 9, 2) := by decide +kernel
theorem dX10_want_9 : decode cX10_want 9 = .ok (.invokestatic 183, 3) := by decide +kernel
theorem dX10_want_12 : decode cX10_want 12 = .ok (.ifCond .eq 45, 3) := by decide +kernel
theorem dX10_want_15 : decode cX10_want 15 = .ok (.iload_n 2, 1) := by decide +kernel
theorem dX10_want_16 : decode cX10_want 16 = .ok (.iconst 0, 1) := by decide +kernel
theorem dX10_want_17 : decode cX10_want 17 = .ok (.iconst 3, 1) := by decide +kernel
theorem dX10_want_18 : decode cX10_want 18 = .ok (.invokestatic 183, 3) := by decide +kernel
theorem dX10_want_21 : decode cX10_want 21 = .ok (.ifCond .eq 36, 3) := by decide +kernel
theorem dX10_want_24 : decode cX10_want 24 = .ok (.iload_n 3, 1) := by decide +kernel
theorem dX10_want_25 : decode cX10_want 25 = .ok (.iconst 0, 1) := by decide +kernel
theorem dX10_want_26 : decode cX10_want 26 = .ok (.iconst 3, 1) := by decide +kernel
theorem dX10_want_27 : decode cX10_want 27 = .ok (.invokestatic 183, 3) := by decide +kernel
theorem dX10_want_30 : decode cX10_want 30 = .ok (.ifCond .eq 27, 3) := by decide +kernel
theorem dX10_want_33 : decode cX10_want 33 = .ok (.iload 4, 2) := by decide +kernel
theorem dX10_want_35 : decode cX10_want 35 = .ok (.iconst 0, 1) := by decide +kernel
theorem dX10_want_36 : decode cX10_want 36 = .ok (.sipush 5000, 3) := by decide +kernel
theorem dX10_want_39 : decode cX10_want 39 = .ok (.invokestatic 183, 3) := by decide +kernel
theorem dX10_want_42 : decode cX10_want 42 = .ok (.ifCond .eq 15, 3) := by decide +kernel
theorem dX10_want_45 : decode cX10_want 45 = .ok (.iload 5, 2) := by decide +kernel
theorem dX10_want_47 : decode cX10_want 47 = .ok (.iconst 0, 1) := by decide +kernel
theorem dX10_want_48 : decode cX10_want 48 = .ok (.sipush 9999, 3) := by decide +kernel
theorem dX10_want_51 : decode cX10_want 51 = .ok (.invokestatic 183, 3) := by decide +kernel
theorem dX10_want_54 : decode cX10_want 54 = .ok (.ifCond .ne 5, 3) := by decide +kernel
theorem dX10_want_57 : decode cX10_want 57 = .ok (.iconst 0, 1) := by decide +kernel
theorem dX10_want_58 : decode cX10_want 58 = .ok (.ireturn, 1) := by decide +kernel
theorem dX10_want_59 : decode cX10_want 59 = .ok (.aload_n 0, 1) := by decide +kernel
theorem dX10_want_60 : decode cX10_want 60 = .ok (.getfield 51, 3) := by decide +kernel
theorem dX10_want_63 : decode cX10_want 63 = .ok (.iload_n 1, 1) := by decide +kernel
theorem dX10_want_64 : decode cX10_want 64 = .ok (.iload_n 2, 1) := by decide +kernel
theorem dX10_want_65 : decode cX10_want 65 = .ok (.iload_n 3, 1) := by decide +kernel
theorem dX10_want_66 : decode cX10_want 66 = .ok (.invokestatic 188, 3) := by decide +kernel
theorem dX10_want_69 : decode cX10_want 69 = .ok (.iload 4, 2) := by decide +kernel
theorem dX10_want_71 : decode cX10_want 71 = .ok (.iastore, 1) := by decide +kernel
theorem dX10_want_72 : decode cX10_want 72 = .ok (.aload_n 0, 1) := by decide +kernel
theorem dX10_want_73 : decode cX10_want 73 = .ok (.getfield 54, 3) := by decide +kernel
theorem dX10_want_76 : decode cX10_want 76 = .ok (.iload_n 1, 1) := by decide +kernel
theorem dX10_want_77 : decode cX10_want 77 = .ok (.iload_n 2, 1) := by decide +kernel
theorem dX10_want_78 : decode cX10_want 78 = .ok (.iload_n 3, 1) := by decide +kernel
theorem dX10_want_79 : decode cX10_want 79 = .ok (.invokestatic 188, 3) := by decide +kernel
theorem dX10_want_82 : decode cX10_want 82 = .ok (.iload 5, 2) := by decide +kernel
theorem dX10_want_84 : decode cX10_want 84 = .ok (.iastore, 1) := by decide +kernel
theorem dX10_want_85 : decode cX10_want 85 = .ok (.iconst 1, 1) := by decide +kernel
theorem dX10_want_86 : decode cX10_want 86 = .ok (.ireturn, 1) := by decide +kernel
theorem dX10_auction_0 : decode cX10_auction 0 = .ok (.aload_n 0, 1) := by decide +kernel
theorem dX10_auction_1 : decode cX10_auction 1 = .ok (.iconst 0, 1) := by decide +kernel
theorem dX10_auction_2 : decode cX10_auction 2 = .ok (.putfield 97, 3) := by decide +kernel
theorem dX10_auction_5 : decode cX10_auction 5 = .ok (.iload_n 1, 1) := by decide +kernel
theorem dX10_auction_6 : decode cX10_auction 6 = .ok (.iconst 0, 1) := by decide +kernel
theorem dX10_auction_7 : decode cX10_auction 7 = .ok (.iconst 3, 1) := by decide +kernel
theorem dX10_auction_8 : decode cX10_auction 8 = .ok (.invokestatic 183, 3) := by decide +kernel
theorem dX10_auction_11 : decode cX10_auction 11 = .ok (.ifCond .ne 5, 3) := by decide +kernel
theorem dX10_auction_14 : decode cX10_auction 14 = .ok (.iconst (-1), 1) := by decide +kernel
theorem dX10_auction_15 : decode cX10_auction 15 = .ok (.ireturn, 1) := by decide +kernel
theorem dX10_auction_16 : decode cX10_auction 16 = .ok (.iconst 0, 1) := by decide +kernel
theorem dX10_auction_17 : decode cX10_auction 17 = .ok (.istore_n 2, 1) := by decide +kernel
theorem dX10_auction_18 : decode cX10_auction 18 = .ok (.iconst 0, 1) := by decide +kernel
theorem dX10_auction_19 : decode cX10_auction 19 = .ok (.istore_n 3, 1) := by decide +kernel
theorem dX10_auction_20 : decode cX10_auction 20 = .ok (.iconst 0, 1) := by decide +kernel
theorem dX10_auction_21 : decode cX10_auction 21 = .ok (.istore 4, 2) := by decide +kernel
theorem dX10_auction_23 : decode cX10_auction 23 = .ok (.iload 4, 2) := by decide +kernel
theorem dX10_auction_25 : decode cX10_auction 25 = .ok (.aload_n 0, 1) := by decide +kernel
theorem dX10_auction_26 : decode cX10_auction 26 = .ok (.getfield 180, 3) := by decide +kernel
theorem dX10_auction_29 : decode cX10_auction 29 = .ok (.if_icmp .ge 141, 3) := by decide +kernel
theorem dX10_auction_32 : decode cX10_auction 32 = .ok (.aload_n 0, 1) := by decide +kernel
theorem dX10_auction_33 : decode cX10_auction 33 = .ok (.getfield 36, 3) := by decide +kernel
theorem dX10_auction_36 : decode cX10_auction 36 = .ok (.iload 4, 2) := by decide +kernel
theorem dX10_auction_38 : decode cX10_auction 38 = .ok (.iaload, 1) := by decide +kernel
theorem dX10_auction_39 : decode cX10_auction 39 = .ok (.iload_n 1, 1) := by decide +kernel
theorem dX10_auction_40 : decode cX10_auction 40 = .ok (.if_icmp .ne 124, 3) := by decide +kernel
theorem dX10_auction_43 : decode cX10_auction 43 = .ok (.aload_n 0, 1) := by decide +kernel
theorem dX10_auction_44 : decode cX10_auction 44 = .ok (.getfield 42, 3) := by decide +kernel
theorem dX10_auction_47 : decode cX10_auction 47 = .ok (.iload 4, 2) := by decide +kernel
theorem dX10_auction_49 : decode cX10_auction 49 = .ok (.baload, 1) := by decide +kernel
theorem dX10_auction_50 : decode cX10_auction 50 = .ok (.ifCond .ne 114, 3) := by decide +kernel
theorem dX10_auction_53 : decode cX10_auction 53 = .ok (.aload_n 0, 1) := by decide +kernel
theorem dX10_auction_54 : decode cX10_auction 54 = .ok (.getfield 33, 3) := by decide +kernel
theorem dX10_auction_57 : decode cX10_auction 57 = .ok (.iload 4, 2) := by decide +kernel
theorem dX10_auction_59 : decode cX10_auction 59 = .ok (.iaload, 1) := by decide +kernel
theorem dX10_auction_60 : decode cX10_auction 60 = .ok (.ifCond .ne 6, 3) := by decide +kernel
theorem dX10_auction_63 : decode cX10_auction 63 = .ok (.goto 101, 3) := by decide +kernel
theorem dX10_auction_66 : decode cX10_auction 66 = .ok (.aload_n 0, 1) := by decide +kernel
theorem dX10_auction_67 : decode cX10_auction 67 = .ok (.getfield 78, 3) := by decide +kernel
theorem dX10_auction_70 : decode cX10_auction 70 = .ok (.iload 4, 2) := by decide +kernel
theorem dX10_auction_72 : decode cX10_auction 72 = .ok (.iconst 0, 1) := by decide +kernel
theorem dX10_auction_73 : decode cX10_auction 73 = .ok (.iastore, 1) := by decide +kernel
theorem dX10_auction_74 : decode cX10_auction 74 = .ok (.iconst 0, 1) := by decide +kernel
theorem dX10_auction_75 : decode cX10_auction 75 = .ok (.istore 5, 2) := by decide +kernel
theorem dX10_auction_77 : decode cX10_auction 77 = .ok (.iload 5, 2) := by decide +kernel
theorem dX10_auction_79 : decode cX10_auction 79 = .ok (.iload_n 2, 1) := by decide +kernel
theorem dX10_auction_80 : decode cX10_auction 80 = .ok (.if_icmp .ge 46, 3) := by decide +kernel
theorem dX10_auction_83 : decode cX10_auction 83 = .ok (.aload_n 0, 1) := by decide +kernel
theorem dX10_auction_84 : decode cX10_auction 84 = .ok (.getfield 78, 3) := by decide +kernel
theorem dX10_auction_87 : decode cX10_auction 87 = .ok (.iload 4, 2) := by decide +kernel
theorem dX10_auction_89 : decode cX10_auction 89 = .ok (.dup2, 1) := by decide +kernel
theorem dX10_auction_90 : decode cX10_auction 90 = .ok (.iaload, 1) := by decide +kernel
theorem dX10_auction_91 : decode cX10_auction 91 = .ok (.aload_n 0, 1) := by decide +kernel
theorem dX10_auction_92 : decode cX10_auction 92 = .ok (.getfield 24, 3) := by decide +kernel
theorem dX10_auction_95 : decode cX10_auction 95 = .ok (.aload_n 0, 1) := by decide +kernel
theorem dX10_auction_96 : decode cX10_auction 96 = .ok (.getfield 75, 3) := by decide +kernel
theorem dX10_auction_99 : decode cX10_auction 99 = .ok (.iload 5, 2) := by decide +kernel
theorem dX10_auction_101 : decode cX10_auction 101 = .ok (.iaload, 1) := by decide +kernel
theorem dX10_auction_102 : decode cX10_auction 102 = .ok (.iaload, 1) := by decide +kernel
theorem dX10_auction_103 : decode cX10_auction 103 = .ok (.aload_n 0, 1) := by decide +kernel
theorem dX10_auction_104 : decode cX10_auction 104 = .ok (.getfield 24, 3) := by decide +kernel
theorem dX10_auction_107 : decode cX10_auction 107 = .ok (.iload 4, 2) := by decide +kernel
theorem dX10_auction_109 : decode cX10_auction 109 = .ok (.iaload, 1) := by decide +kernel
theorem dX10_auction_110 : decode cX10_auction 110 = .ok (.if_icmp .ne 7, 3) := by decide +kernel
theorem dX10_auction_113 : decode cX10_auction 113 = .ok (.iconst 1, 1) := by decide +kernel
theorem dX10_auction_114 : decode cX10_auction 114 = .ok (.goto 4, 3) := by decide +kernel
theorem dX10_auction_117 : decode cX10_auction 117 = .ok (.iconst 0, 1) := by decide +kernel
theorem dX10_auction_118 : decode cX10_auction 118 = .ok (.iadd, 1) := by decide +kernel
theorem dX10_auction_119 : decode cX10_auction 119 = .ok (.iastore, 1) := by decide +kernel
theorem dX10_auction_120 : decode cX10_auction 120 = .ok (.iinc 5 1, 3) := by decide +kernel
theorem dX10_auction_123 : decode cX10_auction 123 = .ok (.goto (-46), 3) := by decide +kernel
theorem dX10_auction_126 : decode cX10_auction 126 = .ok (.aload_n 0, 1) := by decide +kernel
theorem dX10_auction_127 : decode cX10_auction 127 = .ok (.getfield 78, 3) := by decide +kernel
theorem dX10_auction_130 : decode cX10_auction 130 = .ok (.iload 4, 2) := by decide +kernel
theorem dX10_auction_132 : decode cX10_auction 132 = .ok (.iaload, 1) := by decide +kernel
theorem dX10_auction_133 : decode cX10_auction 133 = .ok (.iconst 1, 1) := by decide +kernel
theorem dX10_auction_134 : decode cX10_auction 134 = .ok (.iadd, 1) := by decide +kernel
theorem dX10_auction_135 : decode cX10_auction 135 = .ok (.iload_n 3, 1) := by decide +kernel
theorem dX10_auction_136 : decode cX10_auction 136 = .ok (.if_icmp .le 15, 3) := by decide +kernel
theorem dX10_auction_139 : decode cX10_auction 139 = .ok (.aload_n 0, 1) := by decide +kernel
theorem dX10_auction_140 : decode cX10_auction 140 = .ok (.getfield 78, 3) := by decide +kernel
theorem dX10_auction_143 : decode cX10_auction 143 = .ok (.iload 4, 2) := by decide +kernel
theorem dX10_auction_145 : decode cX10_auction 145 = .ok (.iaload, 1) := by decide +kernel
theorem dX10_auction_146 : decode cX10_auction 146 = .ok (.iconst 1, 1) := by decide +kernel
theorem dX10_auction_147 : decode cX10_auction 147 = .ok (.iadd, 1) := by decide +kernel
theorem dX10_auction_148 : decode cX10_auction 148 = .ok (.goto 4, 3) := by decide +kernel
theorem dX10_auction_151 : decode cX10_auction 151 = .ok (.iload_n 3, 1) := by decide +kernel
theorem dX10_auction_152 : decode cX10_auction 152 = .ok (.istore_n 3, 1) := by decide +kernel
theorem dX10_auction_153 : decode cX10_auction 153 = .ok (.aload_n 0, 1) := by decide +kernel
theorem dX10_auction_154 : decode cX10_auction 154 = .ok (.getfield 75, 3) := by decide +kernel
theorem dX10_auction_157 : decode cX10_auction 157 = .ok (.iload_n 2, 1) := by decide +kernel
theorem dX10_auction_158 : decode cX10_auction 158 = .ok (.iload 4, 2) := by decide +kernel
theorem dX10_auction_160 : decode cX10_auction 160 = .ok (.iastore, 1) := by decide +kernel
theorem dX10_auction_161 : decode cX10_auction 161 = .ok (.iinc 2 1, 3) := by decide +kernel
theorem dX10_auction_164 : decode cX10_auction 164 = .ok (.iinc 4 1, 3) := by decide +kernel
theorem dX10_auction_167 : decode cX10_auction 167 = .ok (.goto (-144), 3) := by decide +kernel
theorem dX10_auction_170 : decode cX10_auction 170 = .ok (.iconst 0, 1) := by decide +kernel
theorem dX10_auction_171 : decode cX10_auction 171 = .ok (.istore 4, 2) := by decide +kernel
theorem dX10_auction_173 : decode cX10_auction 173 = .ok (.iconst 0, 1) := by decide +kernel
theorem dX10_auction_174 : decode cX10_auction 174 = .ok (.istore 5, 2) := by decide +kernel
theorem dX10_auction_176 : decode cX10_auction 176 = .ok (.iload 5, 2) := by decide +kernel
theorem dX10_auction_178 : decode cX10_auction 178 = .ok (.iload_n 3, 1) := by decide +kernel
theorem dX10_auction_179 : decode cX10_auction 179 = .ok (.if_icmp .ge 110, 3) := by decide +kernel
theorem dX10_auction_182 : decode cX10_auction 182 = .ok (.iconst 0, 1) := by decide +kernel
theorem dX10_auction_183 : decode cX10_auction 183 = .ok (.istore 6, 2) := by decide +kernel
theorem dX10_auction_185 : decode cX10_auction 185 = .ok (.iload 6, 2) := by decide +kernel
theorem dX10_auction_187 : decode cX10_auction 187 = .ok (.bipush 8, 2) := by decide +kernel
theorem dX10_auction_189 : decode cX10_auction 189 = .ok (.if_icmp .ge 94, 3) := by decide +kernel
theorem dX10_auction_192 : decode cX10_auction 192 = .ok (.aload_n 0, 1) := by decide +kernel
theorem dX10_auction_193 : decode cX10_auction 193 = .ok (.getfield 192, 3) := by decide +kernel
theorem dX10_auction_196 : decode cX10_auction 196 = .ok (.iload 6, 2) := by decide +kernel
theorem dX10_auction_198 : decode cX10_auction 198 = .ok (.iadd, 1) := by decide +kernel
theorem dX10_auction_199 : decode cX10_auction 199 = .ok (.bipush 8, 2) := by decide +kernel
theorem dX10_auction_201 : decode cX10_auction 201 = .ok (.irem, 1) := by decide +kernel
theorem dX10_auction_202 : decode cX10_auction 202 = .ok (.istore 7, 2) := by decide +kernel
theorem dX10_auction_204 : decode cX10_auction 204 = .ok (.iconst 0, 1) := by decide +kernel
theorem dX10_auction_205 : decode cX10_auction 205 = .ok (.istore 8, 2) := by decide +kernel
theorem dX10_auction_207 : decode cX10_auction 207 = .ok (.iload 8, 2) := by decide +kernel
theorem dX10_auction_209 : decode cX10_auction 209 = .ok (.iload_n 2, 1) := by decide +kernel
theorem dX10_auction_210 : decode cX10_auction 210 = .ok (.if_icmp .ge 67, 3) := by decide +kernel
theorem dX10_auction_213 : decode cX10_auction 213 = .ok (.aload_n 0, 1) := by decide +kernel
theorem dX10_auction_214 : decode cX10_auction 214 = .ok (.getfield 24, 3) := by decide +kernel
theorem dX10_auction_217 : decode cX10_auction 217 = .ok (.aload_n 0, 1) := by decide +kernel
theorem dX10_auction_218 : decode cX10_auction 218 = .ok (.getfield 75, 3) := by decide +kernel
theorem dX10_auction_221 : decode cX10_auction 221 = .ok (.iload 8, 2) := by decide +kernel
theorem dX10_auction_223 : decode cX10_auction 223 = .ok (.iaload, 1) := by decide +kernel
theorem dX10_auction_224 : decode cX10_auction 224 = .ok (.iaload, 1) := by decide +kernel
theorem dX10_auction_225 : decode cX10_auction 225 = .ok (.iload 7, 2) := by decide +kernel
theorem dX10_auction_227 : decode cX10_auction 227 = .ok (.if_icmp .ne 44, 3) := by decide +kernel
theorem dX10_auction_230 : decode cX10_auction 230 = .ok (.aload_n 0, 1) := by decide +kernel
theorem dX10_auction_231 : decode cX10_auction 231 = .ok (.getfield 78, 3) := by decide +kernel
theorem dX10_auction_234 : decode cX10_auction 234 = .ok (.aload_n 0, 1) := by decide +kernel
theorem dX10_auction_235 : decode cX10_auction 235 = .ok (.getfield 75, 3) := by decide +kernel
theorem dX10_auction_238 : decode cX10_auction 238 = .ok (.iload 8, 2) := by decide +kernel
theorem dX10_auction_240 : decode cX10_auction 240 = .ok (.iaload, 1) := by decide +kernel
theorem dX10_auction_241 : decode cX10_auction 241 = .ok (.iaload, 1) := by decide +kernel
theorem dX10_auction_242 : decode cX10_auction 242 = .ok (.iload 5, 2) := by decide +kernel
theorem dX10_auction_244 : decode cX10_auction 244 = .ok (.if_icmp .ne 27, 3) := by decide +kernel
theorem dX10_auction_247 : decode cX10_auction 247 = .ok (.iload 4, 2) := by decide +kernel
theorem dX10_auction_249 : decode cX10_auction 249 = .ok (.aload_n 0, 1) := by decide +kernel
theorem dX10_auction_250 : decode cX10_auction 250 = .ok (.aload_n 0, 1) := by decide +kernel
theorem dX10_auction_251 : decode cX10_auction 251 = .ok (.getfield 75, 3) := by decide +kernel
theorem dX10_auction_254 : decode cX10_auction 254 = .ok (.iload 8, 2) := by decide +kernel
theorem dX10_auction_256 : decode cX10_auction 256 = .ok (.iaload, 1) := by decide +kernel
theorem dX10_auction_257 : decode cX10_auction 257 = .ok (.invokevirtual 195, 3) := by decide +kernel
theorem dX10_auction_260 : decode cX10_auction 260 = .ok (.ifCond .eq 7, 3) := by decide +kernel
theorem dX10_auction_263 : decode cX10_auction 263 = .ok (.iconst 1, 1) := by decide +kernel
theorem dX10_auction_264 : decode cX10_auction 264 = .ok (.goto 4, 3) := by decide +kernel
theorem dX10_auction_267 : decode cX10_auction 267 = .ok (.iconst 0, 1) := by decide +kernel
theorem dX10_auction_268 : decode cX10_auction 268 = .ok (.iadd, 1) := by decide +kernel
theorem dX10_auction_269 : decode cX10_auction 269 = .ok (.istore 4, 2) := by decide +kernel
theorem dX10_auction_271 : decode cX10_auction 271 = .ok (.iinc 8 1, 3) := by decide +kernel
theorem dX10_auction_274 : decode cX10_auction 274 = .ok (.goto (-67), 3) := by decide +kernel
theorem dX10_auction_277 : decode cX10_auction 277 = .ok (.iinc 6 1, 3) := by decide +kernel
theorem dX10_auction_280 : decode cX10_auction 280 = .ok (.goto (-95), 3) := by decide +kernel
theorem dX10_auction_283 : decode cX10_auction 283 = .ok (.iinc 5 1, 3) := by decide +kernel
theorem dX10_auction_286 : decode cX10_auction 286 = .ok (.goto (-110), 3) := by decide +kernel
theorem dX10_auction_289 : decode cX10_auction 289 = .ok (.iload 4, 2) := by decide +kernel
theorem dX10_auction_291 : decode cX10_auction 291 = .ok (.ireturn, 1) := by decide +kernel
theorem dX10_bids_0 : decode cX10_bids 0 = .ok (.iload_n 1, 1) := by decide +kernel
theorem dX10_bids_1 : decode cX10_bids 1 = .ok (.aload_n 0, 1) := by decide +kernel
theorem dX10_bids_2 : decode cX10_bids 2 = .ok (.getfield 36, 3) := by decide +kernel
theorem dX10_bids_5 : decode cX10_bids 5 = .ok (.iload_n 2, 1) := by decide +kernel
theorem dX10_bids_6 : decode cX10_bids 6 = .ok (.iaload, 1) := by decide +kernel
theorem dX10_bids_7 : decode cX10_bids 7 = .ok (.aload_n 0, 1) := by decide +kernel
theorem dX10_bids_8 : decode cX10_bids 8 = .ok (.getfield 30, 3) := by decide +kernel
theorem dX10_bids_11 : decode cX10_bids 11 = .ok (.iload_n 2, 1) := by decide +kernel
theorem dX10_bids_12 : decode cX10_bids 12 = .ok (.iaload, 1) := by decide +kernel
theorem dX10_bids_13 : decode cX10_bids 13 = .ok (.invokestatic 188, 3) := by decide +kernel
theorem dX10_bids_16 : decode cX10_bids 16 = .ok (.istore_n 3, 1) := by decide +kernel
theorem dX10_bids_17 : decode cX10_bids 17 = .ok (.aload_n 0, 1) := by decide +kernel
theorem dX10_bids_18 : decode cX10_bids 18 = .ok (.getfield 51, 3) := by decide +kernel
theorem dX10_bids_21 : decode cX10_bids 21 = .ok (.iload_n 3, 1) := by decide +kernel
theorem dX10_bids_22 : decode cX10_bids 22 = .ok (.iaload, 1) := by decide +kernel
theorem dX10_bids_23 : decode cX10_bids 23 = .ok (.aload_n 0, 1) := by decide +kernel
theorem dX10_bids_24 : decode cX10_bids 24 = .ok (.getfield 33, 3) := by decide +kernel
theorem dX10_bids_27 : decode cX10_bids 27 = .ok (.iload_n 2, 1) := by decide +kernel
theorem dX10_bids_28 : decode cX10_bids 28 = .ok (.iaload, 1) := by decide +kernel
theorem dX10_bids_29 : decode cX10_bids 29 = .ok (.if_icmp .lt 65, 3) := by decide +kernel
theorem dX10_bids_32 : decode cX10_bids 32 = .ok (.aload_n 0, 1) := by decide +kernel
theorem dX10_bids_33 : decode cX10_bids 33 = .ok (.getfield 54, 3) := by decide +kernel
theorem dX10_bids_36 : decode cX10_bids 36 = .ok (.iload_n 3, 1) := by decide +kernel
theorem dX10_bids_37 : decode cX10_bids 37 = .ok (.iaload, 1) := by decide +kernel
theorem dX10_bids_38 : decode cX10_bids 38 = .ok (.iconst 1, 1) := by decide +kernel
theorem dX10_bids_39 : decode cX10_bids 39 = .ok (.if_icmp .lt 55, 3) := by decide +kernel
theorem dX10_bids_42 : decode cX10_bids 42 = .ok (.aload_n 0, 1) := by decide +kernel
theorem dX10_bids_43 : decode cX10_bids 43 = .ok (.getfield 54, 3) := by decide +kernel
theorem dX10_bids_46 : decode cX10_bids 46 = .ok (.iload_n 3, 1) := by decide +kernel
theorem dX10_bids_47 : decode cX10_bids 47 = .ok (.iaload, 1) := by decide +kernel
theorem dX10_bids_48 : decode cX10_bids 48 = .ok (.aload_n 0, 1) := by decide +kernel
theorem dX10_bids_49 : decode cX10_bids 49 = .ok (.getfield 13, 3) := by decide +kernel
theorem dX10_bids_52 : decode cX10_bids 52 = .ok (.iconst 0, 1) := by decide +kernel
theorem dX10_bids_53 : decode cX10_bids 53 = .ok (.aload_n 0, 1) := by decide +kernel
theorem dX10_bids_54 : decode cX10_bids 54 = .ok (.getfield 30, 3) := by decide +kernel
theorem dX10_bids_57 : decode cX10_bids 57 = .ok (.iload_n 2, 1) := by decide +kernel
theorem dX10_bids_58 : decode cX10_bids 58 = .ok (.iaload, 1) := by decide +kernel
theorem dX10_bids_59 : decode cX10_bids 59 = .ok (.iadd, 1) := by decide +kernel
theorem dX10_bids_60 : decode cX10_bids 60 = .ok (.iaload, 1) := by decide +kernel
theorem dX10_bids_61 : decode cX10_bids 61 = .ok (.if_icmp .lt 33, 3) := by decide +kernel
theorem dX10_bids_64 : decode cX10_bids 64 = .ok (.aload_n 0, 1) := by decide +kernel
theorem dX10_bids_65 : decode cX10_bids 65 = .ok (.getfield 54, 3) := by decide +kernel
theorem dX10_bids_68 : decode cX10_bids 68 = .ok (.iload_n 3, 1) := by decide +kernel
theorem dX10_bids_69 : decode cX10_bids 69 = .ok (.iaload, 1) := by decide +kernel
theorem dX10_bids_70 : decode cX10_bids 70 = .ok (.i2l, 1) := by decide +kernel
theorem dX10_bids_71 : decode cX10_bids 71 = .ok (.aload_n 0, 1) := by decide +kernel
theorem dX10_bids_72 : decode cX10_bids 72 = .ok (.getfield 33, 3) := by decide +kernel
theorem dX10_bids_75 : decode cX10_bids 75 = .ok (.iload_n 2, 1) := by decide +kernel
theorem dX10_bids_76 : decode cX10_bids 76 = .ok (.iaload, 1) := by decide +kernel
theorem dX10_bids_77 : decode cX10_bids 77 = .ok (.i2l, 1) := by decide +kernel
theorem dX10_bids_78 : decode cX10_bids 78 = .ok (.lmul, 1) := by decide +kernel
theorem dX10_bids_79 : decode cX10_bids 79 = .ok (.aload_n 0, 1) := by decide +kernel
theorem dX10_bids_80 : decode cX10_bids 80 = .ok (.getfield 48, 3) := by decide +kernel
theorem dX10_bids_83 : decode cX10_bids 83 = .ok (.iload_n 1, 1) := by decide +kernel
theorem dX10_bids_84 : decode cX10_bids 84 = .ok (.iaload, 1) := by decide +kernel
theorem dX10_bids_85 : decode cX10_bids 85 = .ok (.i2l, 1) := by decide +kernel
theorem dX10_bids_86 : decode cX10_bids 86 = .ok (.lcmp, 1) := by decide +kernel
theorem dX10_bids_87 : decode cX10_bids 87 = .ok (.ifCond .gt 7, 3) := by decide +kernel
theorem dX10_bids_90 : decode cX10_bids 90 = .ok (.iconst 1, 1) := by decide +kernel
theorem dX10_bids_91 : decode cX10_bids 91 = .ok (.goto 4, 3) := by decide +kernel
theorem dX10_bids_94 : decode cX10_bids 94 = .ok (.iconst 0, 1) := by decide +kernel
theorem dX10_bids_95 : decode cX10_bids 95 = .ok (.ireturn, 1) := by decide +kernel
theorem dX10_offer_0 : decode cX10_offer 0 = .ok (.aload_n 0, 1) := by decide +kernel
theorem dX10_offer_1 : decode cX10_offer 1 = .ok (.getfield 198, 3) := by decide +kernel
theorem dX10_offer_4 : decode cX10_offer 4 = .ok (.sipush 400, 3) := by decide +kernel
theorem dX10_offer_7 : decode cX10_offer 7 = .ok (.if_icmp .ne 5, 3) := by decide +kernel
theorem dX10_offer_10 : decode cX10_offer 10 = .ok (.iconst 0, 1) := by decide +kernel
theorem dX10_offer_11 : decode cX10_offer 11 = .ok (.ireturn, 1) := by decide +kernel
theorem dX10_offer_12 : decode cX10_offer 12 = .ok (.iconst (-1), 1) := by decide +kernel
theorem dX10_offer_13 : decode cX10_offer 13 = .ok (.istore_n 2, 1) := by decide +kernel
theorem dX10_offer_14 : decode cX10_offer 14 = .ok (.iconst 0, 1) := by decide +kernel
theorem dX10_offer_15 : decode cX10_offer 15 = .ok (.istore_n 3, 1) := by decide +kernel
theorem dX10_offer_16 : decode cX10_offer 16 = .ok (.iconst 0, 1) := by decide +kernel
theorem dX10_offer_17 : decode cX10_offer 17 = .ok (.istore 4, 2) := by decide +kernel
theorem dX10_offer_19 : decode cX10_offer 19 = .ok (.iload 4, 2) := by decide +kernel
theorem dX10_offer_21 : decode cX10_offer 21 = .ok (.bipush 10, 2) := by decide +kernel
theorem dX10_offer_23 : decode cX10_offer 23 = .ok (.if_icmp .ge 123, 3) := by decide +kernel
theorem dX10_offer_26 : decode cX10_offer 26 = .ok (.aload_n 0, 1) := by decide +kernel
theorem dX10_offer_27 : decode cX10_offer 27 = .ok (.iload 4, 2) := by decide +kernel
theorem dX10_offer_29 : decode cX10_offer 29 = .ok (.iload_n 1, 1) := by decide +kernel
theorem dX10_offer_30 : decode cX10_offer 30 = .ok (.invokevirtual 201, 3) := by decide +kernel
theorem dX10_offer_33 : decode cX10_offer 33 = .ok (.ifCond .ne 6, 3) := by decide +kernel
theorem dX10_offer_36 : decode cX10_offer 36 = .ok (.goto 104, 3) := by decide +kernel
theorem dX10_offer_39 : decode cX10_offer 39 = .ok (.aload_n 0, 1) := by decide +kernel
theorem dX10_offer_40 : decode cX10_offer 40 = .ok (.getfield 54, 3) := by decide +kernel
theorem dX10_offer_43 : decode cX10_offer 43 = .ok (.iload 4, 2) := by decide +kernel
theorem dX10_offer_45 : decode cX10_offer 45 = .ok (.aload_n 0, 1) := by decide +kernel
theorem dX10_offer_46 : decode cX10_offer 46 = .ok (.getfield 36, 3) := by decide +kernel
theorem dX10_offer_49 : decode cX10_offer 49 = .ok (.iload_n 1, 1) := by decide +kernel
theorem dX10_offer_50 : decode cX10_offer 50 = .ok (.iaload, 1) := by decide +kernel
theorem dX10_offer_51 : decode cX10_offer 51 = .ok (.aload_n 0, 1) := by decide +kernel
theorem dX10_offer_52 : decode cX10_offer 52 = .ok (.getfield 30, 3) := by decide +kernel
theorem dX10_offer_55 : decode cX10_offer 55 = .ok (.iload_n 1, 1) := by decide +kernel
theorem dX10_offer_56 : decode cX10_offer 56 = .ok (.iaload, 1) := by decide +kernel
theorem dX10_offer_57 : decode cX10_offer 57 = .ok (.invokestatic 188, 3) := by decide +kernel
theorem dX10_offer_60 : decode cX10_offer 60 = .ok (.iaload, 1) := by decide +kernel
theorem dX10_offer_61 : decode cX10_offer 61 = .ok (.istore 5, 2) := by decide +kernel
theorem dX10_offer_63 : decode cX10_offer 63 = .ok (.iload_n 2, 1) := by decide +kernel
theorem dX10_offer_64 : decode cX10_offer 64 = .ok (.ifCond .ge 9, 3) := by decide +kernel
theorem dX10_offer_67 : decode cX10_offer 67 = .ok (.iload 4, 2) := by decide +kernel
theorem dX10_offer_69 : decode cX10_offer 69 = .ok (.istore_n 2, 1) := by decide +kernel
theorem dX10_offer_70 : decode cX10_offer 70 = .ok (.goto 70, 3) := by decide +kernel
theorem dX10_offer_73 : decode cX10_offer 73 = .ok (.iload 5, 2) := by decide +kernel
theorem dX10_offer_75 : decode cX10_offer 75 = .ok (.aload_n 0, 1) := by decide +kernel
theorem dX10_offer_76 : decode cX10_offer 76 = .ok (.getfield 54, 3) := by decide +kernel
theorem dX10_offer_79 : decode cX10_offer 79 = .ok (.iload_n 2, 1) := by decide +kernel
theorem dX10_offer_80 : decode cX10_offer 80 = .ok (.aload_n 0, 1) := by decide +kernel
theorem dX10_offer_81 : decode cX10_offer 81 = .ok (.getfield 36, 3) := by decide +kernel
theorem dX10_offer_84 : decode cX10_offer 84 = .ok (.iload_n 1, 1) := by decide +kernel
theorem dX10_offer_85 : decode cX10_offer 85 = .ok (.iaload, 1) := by decide +kernel
theorem dX10_offer_86 : decode cX10_offer 86 = .ok (.aload_n 0, 1) := by decide +kernel
theorem dX10_offer_87 : decode cX10_offer 87 = .ok (.getfield 30, 3) := by decide +kernel
theorem dX10_offer_90 : decode cX10_offer 90 = .ok (.iload_n 1, 1) := by decide +kernel
theorem dX10_offer_91 : decode cX10_offer 91 = .ok (.iaload, 1) := by decide +kernel
theorem dX10_offer_92 : decode cX10_offer 92 = .ok (.invokestatic 188, 3) := by decide +kernel
theorem dX10_offer_95 : decode cX10_offer 95 = .ok (.iaload, 1) := by decide +kernel
theorem dX10_offer_96 : decode cX10_offer 96 = .ok (.if_icmp .le 31, 3) := by decide +kernel
theorem dX10_offer_99 : decode cX10_offer 99 = .ok (.aload_n 0, 1) := by decide +kernel
theorem dX10_offer_100 : decode cX10_offer 100 = .ok (.getfield 54, 3) := by decide +kernel
theorem dX10_offer_103 : decode cX10_offer 103 = .ok (.iload_n 2, 1) := by decide +kernel
theorem dX10_offer_104 : decode cX10_offer 104 = .ok (.aload_n 0, 1) := by decide +kernel
theorem dX10_offer_105 : decode cX10_offer 105 = .ok (.getfield 36, 3) := by decide +kernel
theorem dX10_offer_108 : decode cX10_offer 108 = .ok (.iload_n 1, 1) := by decide +kernel
theorem dX10_offer_109 : decode cX10_offer 109 = .ok (.iaload, 1) := by decide +kernel
theorem dX10_offer_110 : decode cX10_offer 110 = .ok (.aload_n 0, 1) := by decide +kernel
theorem dX10_offer_111 : decode cX10_offer 111 = .ok (.getfield 30, 3) := by decide +kernel
theorem dX10_offer_114 : decode cX10_offer 114 = .ok (.iload_n 1, 1) := by decide +kernel
theorem dX10_offer_115 : decode cX10_offer 115 = .ok (.iaload, 1) := by decide +kernel
theorem dX10_offer_116 : decode cX10_offer 116 = .ok (.invokestatic 188, 3) := by decide +kernel
theorem dX10_offer_119 : decode cX10_offer 119 = .ok (.iaload, 1) := by decide +kernel
theorem dX10_offer_120 : decode cX10_offer 120 = .ok (.istore_n 3, 1) := by decide +kernel
theorem dX10_offer_121 : decode cX10_offer 121 = .ok (.iload 4, 2) := by decide +kernel
theorem dX10_offer_123 : decode cX10_offer 123 = .ok (.istore_n 2, 1) := by decide +kernel
theorem dX10_offer_124 : decode cX10_offer 124 = .ok (.goto 16, 3) := by decide +kernel
theorem dX10_offer_127 : decode cX10_offer 127 = .ok (.iload 5, 2) := by decide +kernel
theorem dX10_offer_129 : decode cX10_offer 129 = .ok (.iload_n 3, 1) := by decide +kernel
theorem dX10_offer_130 : decode cX10_offer 130 = .ok (.if_icmp .le 8, 3) := by decide +kernel
theorem dX10_offer_133 : decode cX10_offer 133 = .ok (.iload 5, 2) := by decide +kernel
theorem dX10_offer_135 : decode cX10_offer 135 = .ok (.goto 4, 3) := by decide +kernel
theorem dX10_offer_138 : decode cX10_offer 138 = .ok (.iload_n 3, 1) := by decide +kernel
theorem dX10_offer_139 : decode cX10_offer 139 = .ok (.istore_n 3, 1) := by decide +kernel
theorem dX10_offer_140 : decode cX10_offer 140 = .ok (.iinc 4 1, 3) := by decide +kernel
theorem dX10_offer_143 : decode cX10_offer 143 = .ok (.goto (-124), 3) := by decide +kernel
theorem dX10_offer_146 : decode cX10_offer 146 = .ok (.iload_n 2, 1) := by decide +kernel
theorem dX10_offer_147 : decode cX10_offer 147 = .ok (.ifCond .ge 5, 3) := by decide +kernel
theorem dX10_offer_150 : decode cX10_offer 150 = .ok (.iconst 0, 1) := by decide +kernel
theorem dX10_offer_151 : decode cX10_offer 151 = .ok (.ireturn, 1) := by decide +kernel
theorem dX10_offer_152 : decode cX10_offer 152 = .ok (.aload_n 0, 1) := by decide +kernel
theorem dX10_offer_153 : decode cX10_offer 153 = .ok (.getfield 13, 3) := by decide +kernel
theorem dX10_offer_156 : decode cX10_offer 156 = .ok (.iconst 0, 1) := by decide +kernel
theorem dX10_offer_157 : decode cX10_offer 157 = .ok (.aload_n 0, 1) := by decide +kernel
theorem dX10_offer_158 : decode cX10_offer 158 = .ok (.getfield 30, 3) := by decide +kernel
theorem dX10_offer_161 : decode cX10_offer 161 = .ok (.iload_n 1, 1) := by decide +kernel
theorem dX10_offer_162 : decode cX10_offer 162 = .ok (.iaload, 1) := by decide +kernel
theorem dX10_offer_163 : decode cX10_offer 163 = .ok (.iadd, 1) := by decide +kernel
theorem dX10_offer_164 : decode cX10_offer 164 = .ok (.iaload, 1) := by decide +kernel
theorem dX10_offer_165 : decode cX10_offer 165 = .ok (.iload_n 3, 1) := by decide +kernel
theorem dX10_offer_166 : decode cX10_offer 166 = .ok (.if_icmp .le 19, 3) := by decide +kernel
theorem dX10_offer_169 : decode cX10_offer 169 = .ok (.aload_n 0, 1) := by decide +kernel
theorem dX10_offer_170 : decode cX10_offer 170 = .ok (.getfield 13, 3) := by decide +kernel
theorem dX10_offer_173 : decode cX10_offer 173 = .ok (.iconst 0, 1) := by decide +kernel
theorem dX10_offer_174 : decode cX10_offer 174 = .ok (.aload_n 0, 1) := by decide +kernel
theorem dX10_offer_175 : decode cX10_offer 175 = .ok (.getfield 30, 3) := by decide +kernel
theorem dX10_offer_178 : decode cX10_offer 178 = .ok (.iload_n 1, 1) := by decide +kernel
theorem dX10_offer_179 : decode cX10_offer 179 = .ok (.iaload, 1) := by decide +kernel
theorem dX10_offer_180 : decode cX10_offer 180 = .ok (.iadd, 1) := by decide +kernel
theorem dX10_offer_181 : decode cX10_offer 181 = .ok (.iaload, 1) := by decide +kernel
theorem dX10_offer_182 : decode cX10_offer 182 = .ok (.goto 4, 3) := by decide +kernel
theorem dX10_offer_185 : decode cX10_offer 185 = .ok (.iload_n 3, 1) := by decide +kernel
theorem dX10_offer_186 : decode cX10_offer 186 = .ok (.istore 4, 2) := by decide +kernel
theorem dX10_offer_188 : decode cX10_offer 188 = .ok (.iload 4, 2) := by decide +kernel
theorem dX10_offer_190 : decode cX10_offer 190 = .ok (.iconst 1, 1) := by decide +kernel
theorem dX10_offer_191 : decode cX10_offer 191 = .ok (.if_icmp .ge 7, 3) := by decide +kernel
theorem dX10_offer_194 : decode cX10_offer 194 = .ok (.iconst 1, 1) := by decide +kernel
theorem dX10_offer_195 : decode cX10_offer 195 = .ok (.goto 5, 3) := by decide +kernel
theorem dX10_offer_198 : decode cX10_offer 198 = .ok (.iload 4, 2) := by decide +kernel
theorem dX10_offer_200 : decode cX10_offer 200 = .ok (.istore 4, 2) := by decide +kernel
theorem dX10_offer_202 : decode cX10_offer 202 = .ok (.aload_n 0, 1) := by decide +kernel
theorem dX10_offer_203 : decode cX10_offer 203 = .ok (.getfield 57, 3) := by decide +kernel
theorem dX10_offer_206 : decode cX10_offer 206 = .ok (.aload_n 0, 1) := by decide +kernel
theorem dX10_offer_207 : decode cX10_offer 207 = .ok (.getfield 198, 3) := by decide +kernel
theorem dX10_offer_210 : decode cX10_offer 210 = .ok (.iload_n 1, 1) := by decide +kernel
theorem dX10_offer_211 : decode cX10_offer 211 = .ok (.iastore, 1) := by decide +kernel
theorem dX10_offer_212 : decode cX10_offer 212 = .ok (.aload_n 0, 1) := by decide +kernel
theorem dX10_offer_213 : decode cX10_offer 213 = .ok (.getfield 60, 3) := by decide +kernel
theorem dX10_offer_216 : decode cX10_offer 216 = .ok (.aload_n 0, 1) := by decide +kernel
theorem dX10_offer_217 : decode cX10_offer 217 = .ok (.getfield 198, 3) := by decide +kernel
theorem dX10_offer_220 : decode cX10_offer 220 = .ok (.iload_n 2, 1) := by decide +kernel
theorem dX10_offer_221 : decode cX10_offer 221 = .ok (.iastore, 1) := by decide +kernel
theorem dX10_offer_222 : decode cX10_offer 222 = .ok (.aload_n 0, 1) := by decide +kernel
theorem dX10_offer_223 : decode cX10_offer 223 = .ok (.getfield 63, 3) := by decide +kernel
theorem dX10_offer_226 : decode cX10_offer 226 = .ok (.aload_n 0, 1) := by decide +kernel
theorem dX10_offer_227 : decode cX10_offer 227 = .ok (.getfield 198, 3) := by decide +kernel
theorem dX10_offer_230 : decode cX10_offer 230 = .ok (.aload_n 0, 1) := by decide +kernel
theorem dX10_offer_231 : decode cX10_offer 231 = .ok (.getfield 192, 3) := by decide +kernel
theorem dX10_offer_234 : decode cX10_offer 234 = .ok (.iastore, 1) := by decide +kernel
theorem dX10_offer_235 : decode cX10_offer 235 = .ok (.aload_n 0, 1) := by decide +kernel
theorem dX10_offer_236 : decode cX10_offer 236 = .ok (.getfield 66, 3) := by decide +kernel
theorem dX10_offer_239 : decode cX10_offer 239 = .ok (.aload_n 0, 1) := by decide +kernel
theorem dX10_offer_240 : decode cX10_offer 240 = .ok (.getfield 198, 3) := by decide +kernel
theorem dX10_offer_243 : decode cX10_offer 243 = .ok (.aload_n 0, 1) := by decide +kernel
theorem dX10_offer_244 : decode cX10_offer 244 = .ok (.getfield 33, 3) := by decide +kernel
theorem dX10_offer_247 : decode cX10_offer 247 = .ok (.iload_n 1, 1) := by decide +kernel
theorem dX10_offer_248 : decode cX10_offer 248 = .ok (.iaload, 1) := by decide +kernel
theorem dX10_offer_249 : decode cX10_offer 249 = .ok (.iastore, 1) := by decide +kernel
theorem dX10_offer_250 : decode cX10_offer 250 = .ok (.aload_n 0, 1) := by decide +kernel
theorem dX10_offer_251 : decode cX10_offer 251 = .ok (.getfield 69, 3) := by decide +kernel
theorem dX10_offer_254 : decode cX10_offer 254 = .ok (.aload_n 0, 1) := by decide +kernel
theorem dX10_offer_255 : decode cX10_offer 255 = .ok (.getfield 198, 3) := by decide +kernel
theorem dX10_offer_258 : decode cX10_offer 258 = .ok (.iload 4, 2) := by decide +kernel
theorem dX10_offer_260 : decode cX10_offer 260 = .ok (.iastore, 1) := by decide +kernel
theorem dX10_offer_261 : decode cX10_offer 261 = .ok (.aload_n 0, 1) := by decide +kernel
theorem dX10_offer_262 : decode cX10_offer 262 = .ok (.getfield 72, 3) := by decide +kernel
theorem dX10_offer_265 : decode cX10_offer 265 = .ok (.aload_n 0, 1) := by decide +kernel
theorem dX10_offer_266 : decode cX10_offer 266 = .ok (.getfield 198, 3) := by decide +kernel
theorem dX10_offer_269 : decode cX10_offer 269 = .ok (.iconst (-1), 1) := by decide +kernel
theorem dX10_offer_270 : decode cX10_offer 270 = .ok (.iastore, 1) := by decide +kernel
theorem dX10_offer_271 : decode cX10_offer 271 = .ok (.aload_n 0, 1) := by decide +kernel
theorem dX10_offer_272 : decode cX10_offer 272 = .ok (.getfield 51, 3) := by decide +kernel
theorem dX10_offer_275 : decode cX10_offer 275 = .ok (.iload_n 2, 1) := by decide +kernel
theorem dX10_offer_276 : decode cX10_offer 276 = .ok (.aload_n 0, 1) := by decide +kernel
theorem dX10_offer_277 : decode cX10_offer 277 = .ok (.getfield 36, 3) := by decide +kernel
theorem dX10_offer_280 : decode cX10_offer 280 = .ok (.iload_n 1, 1) := by decide +kernel
theorem dX10_offer_281 : decode cX10_offer 281 = .ok (.iaload, 1) := by decide +kernel
theorem dX10_offer_282 : decode cX10_offer 282 = .ok (.aload_n 0, 1) := by decide +kernel
theorem dX10_offer_283 : decode cX10_offer 283 = .ok (.getfield 30, 3) := by decide +kernel
theorem dX10_offer_286 : decode cX10_offer 286 = .ok (.iload_n 1, 1) := by decide +kernel
theorem dX10_offer_287 : decode cX10_offer 287 = .ok (.iaload, 1) := by decide +kernel
theorem dX10_offer_288 : decode cX10_offer 288 = .ok (.invokestatic 188, 3) := by decide +kernel
theorem dX10_offer_291 : decode cX10_offer 291 = .ok (.dup2, 1) := by decide +kernel
theorem dX10_offer_292 : decode cX10_offer 292 = .ok (.iaload, 1) := by decide +kernel
theorem dX10_offer_293 : decode cX10_offer 293 = .ok (.aload_n 0, 1) := by decide +kernel
theorem dX10_offer_294 : decode cX10_offer 294 = .ok (.getfield 33, 3) := by decide +kernel
theorem dX10_offer_297 : decode cX10_offer 297 = .ok (.iload_n 1, 1) := by decide +kernel
theorem dX10_offer_298 : decode cX10_offer 298 = .ok (.iaload, 1) := by decide +kernel
theorem dX10_offer_299 : decode cX10_offer 299 = .ok (.isub, 1) := by decide +kernel
theorem dX10_offer_300 : decode cX10_offer 300 = .ok (.iastore, 1) := by decide +kernel
theorem dX10_offer_301 : decode cX10_offer 301 = .ok (.aload_n 0, 1) := by decide +kernel
theorem dX10_offer_302 : decode cX10_offer 302 = .ok (.getfield 48, 3) := by decide +kernel
theorem dX10_offer_305 : decode cX10_offer 305 = .ok (.iload_n 2, 1) := by decide +kernel
theorem dX10_offer_306 : decode cX10_offer 306 = .ok (.dup2, 1) := by decide +kernel
theorem dX10_offer_307 : decode cX10_offer 307 = .ok (.iaload, 1) := by decide +kernel
theorem dX10_offer_308 : decode cX10_offer 308 = .ok (.iload 4, 2) := by decide +kernel
theorem dX10_offer_310 : decode cX10_offer 310 = .ok (.aload_n 0, 1) := by decide +kernel
theorem dX10_offer_311 : decode cX10_offer 311 = .ok (.getfield 33, 3) := by decide +kernel
theorem dX10_offer_314 : decode cX10_offer 314 = .ok (.iload_n 1, 1) := by decide +kernel
theorem dX10_offer_315 : decode cX10_offer 315 = .ok (.iaload, 1) := by decide +kernel
theorem dX10_offer_316 : decode cX10_offer 316 = .ok (.imul, 1) := by decide +kernel
theorem dX10_offer_317 : decode cX10_offer 317 = .ok (.isub, 1) := by decide +kernel
theorem dX10_offer_318 : decode cX10_offer 318 = .ok (.iastore, 1) := by decide +kernel
theorem dX10_offer_319 : decode cX10_offer 319 = .ok (.aload_n 0, 1) := by decide +kernel
theorem dX10_offer_320 : decode cX10_offer 320 = .ok (.getfield 42, 3) := by decide +kernel
theorem dX10_offer_323 : decode cX10_offer 323 = .ok (.iload_n 1, 1) := by decide +kernel
theorem dX10_offer_324 : decode cX10_offer 324 = .ok (.iconst 1, 1) := by decide +kernel
theorem dX10_offer_325 : decode cX10_offer 325 = .ok (.bastore, 1) := by decide +kernel
theorem dX10_offer_326 : decode cX10_offer 326 = .ok (.aload_n 0, 1) := by decide +kernel
theorem dX10_offer_327 : decode cX10_offer 327 = .ok (.getfield 39, 3) := by decide +kernel
theorem dX10_offer_330 : decode cX10_offer 330 = .ok (.iload_n 1, 1) := by decide +kernel
theorem dX10_offer_331 : decode cX10_offer 331 = .ok (.aload_n 0, 1) := by decide +kernel
theorem dX10_offer_332 : decode cX10_offer 332 = .ok (.getfield 198, 3) := by decide +kernel
theorem dX10_offer_335 : decode cX10_offer 335 = .ok (.iastore, 1) := by decide +kernel
theorem dX10_offer_336 : decode cX10_offer 336 = .ok (.aload_n 0, 1) := by decide +kernel
theorem dX10_offer_337 : decode cX10_offer 337 = .ok (.dup, 1) := by decide +kernel
theorem dX10_offer_338 : decode cX10_offer 338 = .ok (.getfield 198, 3) := by decide +kernel
theorem dX10_offer_341 : decode cX10_offer 341 = .ok (.iconst 1, 1) := by decide +kernel
theorem dX10_offer_342 : decode cX10_offer 342 = .ok (.iadd, 1) := by decide +kernel
theorem dX10_offer_343 : decode cX10_offer 343 = .ok (.putfield 198, 3) := by decide +kernel
theorem dX10_offer_346 : decode cX10_offer 346 = .ok (.iconst 1, 1) := by decide +kernel
theorem dX10_offer_347 : decode cX10_offer 347 = .ok (.ireturn, 1) := by decide +kernel
theorem dX10_isSale_0 : decode cX10_isSale 0 = .ok (.iload_n 1, 1) := by decide +kernel
theorem dX10_isSale_1 : decode cX10_isSale 1 = .ok (.ifCond .lt 15, 3) := by decide +kernel
theorem dX10_isSale_4 : decode cX10_isSale 4 = .ok (.iload_n 1, 1) := by decide +kernel
theorem dX10_isSale_5 : decode cX10_isSale 5 = .ok (.aload_n 0, 1) := by decide +kernel
theorem dX10_isSale_6 : decode cX10_isSale 6 = .ok (.getfield 198, 3) := by decide +kernel
theorem dX10_isSale_9 : decode cX10_isSale 9 = .ok (.if_icmp .ge 7, 3) := by decide +kernel
theorem dX10_isSale_12 : decode cX10_isSale 12 = .ok (.iconst 1, 1) := by decide +kernel
theorem dX10_isSale_13 : decode cX10_isSale 13 = .ok (.goto 4, 3) := by decide +kernel
theorem dX10_isSale_16 : decode cX10_isSale 16 = .ok (.iconst 0, 1) := by decide +kernel
theorem dX10_isSale_17 : decode cX10_isSale 17 = .ok (.ireturn, 1) := by decide +kernel
theorem dX10_reject_0 : decode cX10_reject 0 = .ok (.aload_n 0, 1) := by decide +kernel
theorem dX10_reject_1 : decode cX10_reject 1 = .ok (.iconst 0, 1) := by decide +kernel
theorem dX10_reject_2 : decode cX10_reject 2 = .ok (.putfield 97, 3) := by decide +kernel
theorem dX10_reject_5 : decode cX10_reject 5 = .ok (.aload_n 0, 1) := by decide +kernel
theorem dX10_reject_6 : decode cX10_reject 6 = .ok (.iload_n 1, 1) := by decide +kernel
theorem dX10_reject_7 : decode cX10_reject 7 = .ok (.invokevirtual 204, 3) := by decide +kernel
theorem dX10_reject_10 : decode cX10_reject 10 = .ok (.ifCond .eq 28, 3) := by decide +kernel
theorem dX10_reject_13 : decode cX10_reject 13 = .ok (.aload_n 0, 1) := by decide +kernel
theorem dX10_reject_14 : decode cX10_reject 14 = .ok (.getfield 72, 3) := by decide +kernel
theorem dX10_reject_17 : decode cX10_reject 17 = .ok (.iload_n 1, 1) := by decide +kernel
theorem dX10_reject_18 : decode cX10_reject 18 = .ok (.iaload, 1) := by decide +kernel
theorem dX10_reject_19 : decode cX10_reject 19 = .ok (.iconst (-1), 1) := by decide +kernel
theorem dX10_reject_20 : decode cX10_reject 20 = .ok (.if_icmp .ne 18, 3) := by decide +kernel
theorem dX10_reject_23 : decode cX10_reject 23 = .ok (.aload_n 0, 1) := by decide +kernel
theorem dX10_reject_24 : decode cX10_reject 24 = .ok (.getfield 39, 3) := by decide +kernel
theorem dX10_reject_27 : decode cX10_reject 27 = .ok (.aload_n 0, 1) := by decide +kernel
theorem dX10_reject_28 : decode cX10_reject 28 = .ok (.getfield 57, 3) := by decide +kernel
theorem dX10_reject_31 : decode cX10_reject 31 = .ok (.iload_n 1, 1) := by decide +kernel
theorem dX10_reject_32 : decode cX10_reject 32 = .ok (.iaload, 1) := by decide +kernel
theorem dX10_reject_33 : decode cX10_reject 33 = .ok (.iaload, 1) := by decide +kernel
theorem dX10_reject_34 : decode cX10_reject 34 = .ok (.iload_n 1, 1) := by decide +kernel
theorem dX10_reject_35 : decode cX10_reject 35 = .ok (.if_icmp .eq 5, 3) := by decide +kernel
theorem dX10_reject_38 : decode cX10_reject 38 = .ok (.iconst 0, 1) := by decide +kernel
theorem dX10_reject_39 : decode cX10_reject 39 = .ok (.ireturn, 1) := by decide +kernel
theorem dX10_reject_40 : decode cX10_reject 40 = .ok (.aload_n 0, 1) := by decide +kernel
theorem dX10_reject_41 : decode cX10_reject 41 = .ok (.getfield 72, 3) := by decide +kernel
theorem dX10_reject_44 : decode cX10_reject 44 = .ok (.iload_n 1, 1) := by decide +kernel
theorem dX10_reject_45 : decode cX10_reject 45 = .ok (.aload_n 0, 1) := by decide +kernel
theorem dX10_reject_46 : decode cX10_reject 46 = .ok (.getfield 192, 3) := by decide +kernel
theorem dX10_reject_49 : decode cX10_reject 49 = .ok (.iastore, 1) := by decide +kernel
theorem dX10_reject_50 : decode cX10_reject 50 = .ok (.aload_n 0, 1) := by decide +kernel
theorem dX10_reject_51 : decode cX10_reject 51 = .ok (.getfield 42, 3) := by decide +kernel
theorem dX10_reject_54 : decode cX10_reject 54 = .ok (.aload_n 0, 1) := by decide +kernel
theorem dX10_reject_55 : decode cX10_reject 55 = .ok (.getfield 57, 3) := by decide +kernel
theorem dX10_reject_58 : decode cX10_reject 58 = .ok (.iload_n 1, 1) := by decide +kernel
theorem dX10_reject_59 : decode cX10_reject 59 = .ok (.iaload, 1) := by decide +kernel
theorem dX10_reject_60 : decode cX10_reject 60 = .ok (.iconst 0, 1) := by decide +kernel
theorem dX10_reject_61 : decode cX10_reject 61 = .ok (.bastore, 1) := by decide +kernel
theorem dX10_reject_62 : decode cX10_reject 62 = .ok (.iconst 1, 1) := by decide +kernel
theorem dX10_reject_63 : decode cX10_reject 63 = .ok (.ireturn, 1) := by decide +kernel
theorem dX10_next_0 : decode cX10_next 0 = .ok (.aload_n 0, 1) := by decide +kernel
theorem dX10_next_1 : decode cX10_next 1 = .ok (.iconst 0, 1) := by decide +kernel
theorem dX10_next_2 : decode cX10_next 2 = .ok (.putfield 97, 3) := by decide +kernel
theorem dX10_next_5 : decode cX10_next 5 = .ok (.aload_n 0, 1) := by decide +kernel
theorem dX10_next_6 : decode cX10_next 6 = .ok (.getfield 192, 3) := by decide +kernel
theorem dX10_next_9 : decode cX10_next 9 = .ok (.sipush 999, 3) := by decide +kernel
theorem dX10_next_12 : decode cX10_next 12 = .ok (.if_icmp .ne 5, 3) := by decide +kernel
theorem dX10_next_15 : decode cX10_next 15 = .ok (.iconst (-1), 1) := by decide +kernel
theorem dX10_next_16 : decode cX10_next 16 = .ok (.ireturn, 1) := by decide +kernel
theorem dX10_next_17 : decode cX10_next 17 = .ok (.iconst 0, 1) := by decide +kernel
theorem dX10_next_18 : decode cX10_next 18 = .ok (.istore_n 1, 1) := by decide +kernel
theorem dX10_next_19 : decode cX10_next 19 = .ok (.iload_n 1, 1) := by decide +kernel
theorem dX10_next_20 : decode cX10_next 20 = .ok (.aload_n 0, 1) := by decide +kernel
theorem dX10_next_21 : decode cX10_next 21 = .ok (.getfield 180, 3) := by decide +kernel
theorem dX10_next_24 : decode cX10_next 24 = .ok (.if_icmp .ge 44, 3) := by decide +kernel
theorem dX10_next_27 : decode cX10_next 27 = .ok (.aload_n 0, 1) := by decide +kernel
theorem dX10_next_28 : decode cX10_next 28 = .ok (.getfield 42, 3) := by decide +kernel
theorem dX10_next_31 : decode cX10_next 31 = .ok (.iload_n 1, 1) := by decide +kernel
theorem dX10_next_32 : decode cX10_next 32 = .ok (.baload, 1) := by decide +kernel
theorem dX10_next_33 : decode cX10_next 33 = .ok (.ifCond .ne 29, 3) := by decide +kernel
theorem dX10_next_36 : decode cX10_next 36 = .ok (.aload_n 0, 1) := by decide +kernel
theorem dX10_next_37 : decode cX10_next 37 = .ok (.getfield 33, 3) := by decide +kernel
theorem dX10_next_40 : decode cX10_next 40 = .ok (.iload_n 1, 1) := by decide +kernel
theorem dX10_next_41 : decode cX10_next 41 = .ok (.dup2, 1) := by decide +kernel
theorem dX10_next_42 : decode cX10_next 42 = .ok (.iaload, 1) := by decide +kernel
theorem dX10_next_43 : decode cX10_next 43 = .ok (.aload_n 0, 1) := by decide +kernel
theorem dX10_next_44 : decode cX10_next 44 = .ok (.getfield 33, 3) := by decide +kernel
theorem dX10_next_47 : decode cX10_next 47 = .ok (.iload_n 1, 1) := by decide +kernel
theorem dX10_next_48 : decode cX10_next 48 = .ok (.iaload, 1) := by decide +kernel
theorem dX10_next_49 : decode cX10_next 49 = .ok (.aload_n 0, 1) := by decide +kernel
theorem dX10_next_50 : decode cX10_next 50 = .ok (.getfield 13, 3) := by decide +kernel
theorem dX10_next_53 : decode cX10_next 53 = .ok (.bipush 8, 2) := by decide +kernel
theorem dX10_next_55 : decode cX10_next 55 = .ok (.iaload, 1) := by decide +kernel
theorem dX10_next_56 : decode cX10_next 56 = .ok (.imul, 1) := by decide +kernel
theorem dX10_next_57 : decode cX10_next 57 = .ok (.bipush 100, 2) := by decide +kernel
theorem dX10_next_59 : decode cX10_next 59 = .ok (.idiv, 1) := by decide +kernel
theorem dX10_next_60 : decode cX10_next 60 = .ok (.isub, 1) := by decide +kernel
theorem dX10_next_61 : decode cX10_next 61 = .ok (.iastore, 1) := by decide +kernel
theorem dX10_next_62 : decode cX10_next 62 = .ok (.iinc 1 1, 3) := by decide +kernel
theorem dX10_next_65 : decode cX10_next 65 = .ok (.goto (-46), 3) := by decide +kernel
theorem dX10_next_68 : decode cX10_next 68 = .ok (.iconst 0, 1) := by decide +kernel
theorem dX10_next_69 : decode cX10_next 69 = .ok (.istore_n 1, 1) := by decide +kernel
theorem dX10_next_70 : decode cX10_next 70 = .ok (.iload_n 1, 1) := by decide +kernel
theorem dX10_next_71 : decode cX10_next 71 = .ok (.bipush 10, 2) := by decide +kernel
theorem dX10_next_73 : decode cX10_next 73 = .ok (.if_icmp .ge 21, 3) := by decide +kernel
theorem dX10_next_76 : decode cX10_next 76 = .ok (.aload_n 0, 1) := by decide +kernel
theorem dX10_next_77 : decode cX10_next 77 = .ok (.getfield 48, 3) := by decide +kernel
theorem dX10_next_80 : decode cX10_next 80 = .ok (.iload_n 1, 1) := by decide +kernel
theorem dX10_next_81 : decode cX10_next 81 = .ok (.aload_n 0, 1) := by decide +kernel
theorem dX10_next_82 : decode cX10_next 82 = .ok (.getfield 45, 3) := by decide +kernel
theorem dX10_next_85 : decode cX10_next 85 = .ok (.iload_n 1, 1) := by decide +kernel
theorem dX10_next_86 : decode cX10_next 86 = .ok (.iaload, 1) := by decide +kernel
theorem dX10_next_87 : decode cX10_next 87 = .ok (.iastore, 1) := by decide +kernel
theorem dX10_next_88 : decode cX10_next 88 = .ok (.iinc 1 1, 3) := by decide +kernel
theorem dX10_next_91 : decode cX10_next 91 = .ok (.goto (-21), 3) := by decide +kernel
theorem dX10_next_94 : decode cX10_next 94 = .ok (.aload_n 0, 1) := by decide +kernel
theorem dX10_next_95 : decode cX10_next 95 = .ok (.dup, 1) := by decide +kernel
theorem dX10_next_96 : decode cX10_next 96 = .ok (.getfield 192, 3) := by decide +kernel
theorem dX10_next_99 : decode cX10_next 99 = .ok (.iconst 1, 1) := by decide +kernel
theorem dX10_next_100 : decode cX10_next 100 = .ok (.iadd, 1) := by decide +kernel
theorem dX10_next_101 : decode cX10_next 101 = .ok (.putfield 192, 3) := by decide +kernel
theorem dX10_next_104 : decode cX10_next 104 = .ok (.aload_n 0, 1) := by decide +kernel
theorem dX10_next_105 : decode cX10_next 105 = .ok (.getfield 192, 3) := by decide +kernel
theorem dX10_next_108 : decode cX10_next 108 = .ok (.ireturn, 1) := by decide +kernel
theorem dX10_about_0 : decode cX10_about 0 = .ok (.aload_n 0, 1) := by decide +kernel
theorem dX10_about_1 : decode cX10_about 1 = .ok (.iload_n 1, 1) := by decide +kernel
theorem dX10_about_2 : decode cX10_about 2 = .ok (.ifCond .lt 21, 3) := by decide +kernel
theorem dX10_about_5 : decode cX10_about 5 = .ok (.iload_n 1, 1) := by decide +kernel
theorem dX10_about_6 : decode cX10_about 6 = .ok (.aload_n 0, 1) := by decide +kernel
theorem dX10_about_7 : decode cX10_about 7 = .ok (.getfield 180, 3) := by decide +kernel
theorem dX10_about_10 : decode cX10_about 10 = .ok (.if_icmp .ge 13, 3) := by decide +kernel
theorem dX10_about_13 : decode cX10_about 13 = .ok (.iload_n 2, 1) := by decide +kernel
theorem dX10_about_14 : decode cX10_about 14 = .ok (.ifCond .lt 9, 3) := by decide +kernel
theorem dX10_about_17 : decode cX10_about 17 = .ok (.iload_n 2, 1) := by decide +kernel
theorem dX10_about_18 : decode cX10_about 18 = .ok (.bipush 6, 2) := by decide +kernel
theorem dX10_about_20 : decode cX10_about 20 = .ok (.if_icmp .le 7, 3) := by decide +kernel
theorem dX10_about_23 : decode cX10_about 23 = .ok (.iconst 1, 1) := by decide +kernel
theorem dX10_about_24 : decode cX10_about 24 = .ok (.goto 4, 3) := by decide +kernel
theorem dX10_about_27 : decode cX10_about 27 = .ok (.iconst 0, 1) := by decide +kernel
theorem dX10_about_28 : decode cX10_about 28 = .ok (.invokevirtual 207, 3) := by decide +kernel
theorem dX10_about_31 : decode cX10_about 31 = .ok (.ifCond .eq 5, 3) := by decide +kernel
theorem dX10_about_34 : decode cX10_about 34 = .ok (.iconst 0, 1) := by decide +kernel
theorem dX10_about_35 : decode cX10_about 35 = .ok (.ireturn, 1) := by decide +kernel
theorem dX10_about_36 : decode cX10_about 36 = .ok (.iload_n 2, 1) := by decide +kernel
theorem dX10_about_37 : decode cX10_about 37 = .ok (.tableswitch 89 0 5 #[39, 46, 53, 60, 67, 74], 39) := by decide +kernel
theorem dX10_about_76 : decode cX10_about 76 = .ok (.aload_n 0, 1) := by decide +kernel
theorem dX10_about_77 : decode cX10_about 77 = .ok (.getfield 24, 3) := by decide +kernel
theorem dX10_about_80 : decode cX10_about 80 = .ok (.iload_n 1, 1) := by decide +kernel
theorem dX10_about_81 : decode cX10_about 81 = .ok (.iaload, 1) := by decide +kernel
theorem dX10_about_82 : decode cX10_about 82 = .ok (.ireturn, 1) := by decide +kernel
theorem dX10_about_83 : decode cX10_about 83 = .ok (.aload_n 0, 1) := by decide +kernel
theorem dX10_about_84 : decode cX10_about 84 = .ok (.getfield 27, 3) := by decide +kernel
theorem dX10_about_87 : decode cX10_about 87 = .ok (.iload_n 1, 1) := by decide +kernel
theorem dX10_about_88 : decode cX10_about 88 = .ok (.iaload, 1) := by decide +kernel
theorem dX10_about_89 : decode cX10_about 89 = .ok (.ireturn, 1) := by decide +kernel
theorem dX10_about_90 : decode cX10_about 90 = .ok (.aload_n 0, 1) := by decide +kernel
theorem dX10_about_91 : decode cX10_about 91 = .ok (.getfield 30, 3) := by decide +kernel
theorem dX10_about_94 : decode cX10_about 94 = .ok (.iload_n 1, 1) := by decide +kernel
theorem dX10_about_95 : decode cX10_about 95 = .ok (.iaload, 1) := by decide +kernel
theorem dX10_about_96 : decode cX10_about 96 = .ok (.ireturn, 1) := by decide +kernel
theorem dX10_about_97 : decode cX10_about 97 = .ok (.aload_n 0, 1) := by decide +kernel
theorem dX10_about_98 : decode cX10_about 98 = .ok (.getfield 33, 3) := by decide +kernel
theorem dX10_about_101 : decode cX10_about 101 = .ok (.iload_n 1, 1) := by decide +kernel
theorem dX10_about_102 : decode cX10_about 102 = .ok (.iaload, 1) := by decide +kernel
theorem dX10_about_103 : decode cX10_about 103 = .ok (.ireturn, 1) := by decide +kernel
theorem dX10_about_104 : decode cX10_about 104 = .ok (.aload_n 0, 1) := by decide +kernel
theorem dX10_about_105 : decode cX10_about 105 = .ok (.getfield 36, 3) := by decide +kernel
theorem dX10_about_108 : decode cX10_about 108 = .ok (.iload_n 1, 1) := by decide +kernel
theorem dX10_about_109 : decode cX10_about 109 = .ok (.iaload, 1) := by decide +kernel
theorem dX10_about_110 : decode cX10_about 110 = .ok (.ireturn, 1) := by decide +kernel
theorem dX10_about_111 : decode cX10_about 111 = .ok (.aload_n 0, 1) := by decide +kernel
theorem dX10_about_112 : decode cX10_about 112 = .ok (.getfield 42, 3) := by decide +kernel
theorem dX10_about_115 : decode cX10_about 115 = .ok (.iload_n 1, 1) := by decide +kernel
theorem dX10_about_116 : decode cX10_about 116 = .ok (.baload, 1) := by decide +kernel
theorem dX10_about_117 : decode cX10_about 117 = .ok (.ifCond .eq 7, 3) := by decide +kernel
theorem dX10_about_120 : decode cX10_about 120 = .ok (.iconst 1, 1) := by decide +kernel
theorem dX10_about_121 : decode cX10_about 121 = .ok (.goto 4, 3) := by decide +kernel
theorem dX10_about_124 : decode cX10_about 124 = .ok (.iconst 0, 1) := by decide +kernel
theorem dX10_about_125 : decode cX10_about 125 = .ok (.ireturn, 1) := by decide +kernel
theorem dX10_about_126 : decode cX10_about 126 = .ok (.aload_n 0, 1) := by decide +kernel
theorem dX10_about_127 : decode cX10_about 127 = .ok (.getfield 39, 3) := by decide +kernel
theorem dX10_about_130 : decode cX10_about 130 = .ok (.iload_n 1, 1) := by decide +kernel
theorem dX10_about_131 : decode cX10_about 131 = .ok (.iaload, 1) := by decide +kernel
theorem dX10_about_132 : decode cX10_about 132 = .ok (.ireturn, 1) := by decide +kernel
theorem dX10_nextOf_0 : decode cX10_nextOf 0 = .ok (.iload_n 1, 1) := by decide +kernel
theorem dX10_nextOf_1 : decode cX10_nextOf 1 = .ok (.iconst 1, 1) := by decide +kernel
theorem dX10_nextOf_2 : decode cX10_nextOf 2 = .ok (.iadd, 1) := by decide +kernel
theorem dX10_nextOf_3 : decode cX10_nextOf 3 = .ok (.istore_n 2, 1) := by decide +kernel
theorem dX10_nextOf_4 : decode cX10_nextOf 4 = .ok (.iload_n 2, 1) := by decide +kernel
theorem dX10_nextOf_5 : decode cX10_nextOf 5 = .ok (.aload_n 0, 1) := by decide +kernel
theorem dX10_nextOf_6 : decode cX10_nextOf 6 = .ok (.getfield 198, 3) := by decide +kernel
theorem dX10_nextOf_9 : decode cX10_nextOf 9 = .ok (.if_icmp .ge 26, 3) := by decide +kernel
theorem dX10_nextOf_12 : decode cX10_nextOf 12 = .ok (.aload_n 0, 1) := by decide +kernel
theorem dX10_nextOf_13 : decode cX10_nextOf 13 = .ok (.getfield 57, 3) := by decide +kernel
theorem dX10_nextOf_16 : decode cX10_nextOf 16 = .ok (.iload_n 2, 1) := by decide +kernel
theorem dX10_nextOf_17 : decode cX10_nextOf 17 = .ok (.iaload, 1) := by decide +kernel
theorem dX10_nextOf_18 : decode cX10_nextOf 18 = .ok (.aload_n 0, 1) := by decide +kernel
theorem dX10_nextOf_19 : decode cX10_nextOf 19 = .ok (.getfield 57, 3) := by decide +kernel
theorem dX10_nextOf_22 : decode cX10_nextOf 22 = .ok (.iload_n 1, 1) := by decide +kernel
theorem dX10_nextOf_23 : decode cX10_nextOf 23 = .ok (.iaload, 1) := by decide +kernel
theorem dX10_nextOf_24 : decode cX10_nextOf 24 = .ok (.if_icmp .ne 5, 3) := by decide +kernel
theorem dX10_nextOf_27 : decode cX10_nextOf 27 = .ok (.iload_n 2, 1) := by decide +kernel
theorem dX10_nextOf_28 : decode cX10_nextOf 28 = .ok (.ireturn, 1) := by decide +kernel
theorem dX10_nextOf_29 : decode cX10_nextOf 29 = .ok (.iinc 2 1, 3) := by decide +kernel
theorem dX10_nextOf_32 : decode cX10_nextOf 32 = .ok (.goto (-28), 3) := by decide +kernel
theorem dX10_nextOf_35 : decode cX10_nextOf 35 = .ok (.iconst (-1), 1) := by decide +kernel
theorem dX10_nextOf_36 : decode cX10_nextOf 36 = .ok (.ireturn, 1) := by decide +kernel
theorem dX10_claimOf_0 : decode cX10_claimOf 0 = .ok (.aload_n 0, 1) := by decide +kernel
theorem dX10_claimOf_1 : decode cX10_claimOf 1 = .ok (.getfield 72, 3) := by decide +kernel
theorem dX10_claimOf_4 : decode cX10_claimOf 4 = .ok (.iload_n 1, 1) := by decide +kernel
theorem dX10_claimOf_5 : decode cX10_claimOf 5 = .ok (.iaload, 1) := by decide +kernel
theorem dX10_claimOf_6 : decode cX10_claimOf 6 = .ok (.iconst (-1), 1) := by decide +kernel
theorem dX10_claimOf_7 : decode cX10_claimOf 7 = .ok (.if_icmp .ne 7, 3) := by decide +kernel
theorem dX10_claimOf_10 : decode cX10_claimOf 10 = .ok (.iconst (-1), 1) := by decide +kernel
theorem dX10_claimOf_11 : decode cX10_claimOf 11 = .ok (.goto 8, 3) := by decide +kernel
theorem dX10_claimOf_14 : decode cX10_claimOf 14 = .ok (.aload_n 0, 1) := by decide +kernel
theorem dX10_claimOf_15 : decode cX10_claimOf 15 = .ok (.iload_n 1, 1) := by decide +kernel
theorem dX10_claimOf_16 : decode cX10_claimOf 16 = .ok (.invokevirtual 211, 3) := by decide +kernel
theorem dX10_claimOf_19 : decode cX10_claimOf 19 = .ok (.istore_n 2, 1) := by decide +kernel
theorem dX10_claimOf_20 : decode cX10_claimOf 20 = .ok (.iload_n 2, 1) := by decide +kernel
theorem dX10_claimOf_21 : decode cX10_claimOf 21 = .ok (.ifCond .lt 28, 3) := by decide +kernel
theorem dX10_claimOf_24 : decode cX10_claimOf 24 = .ok (.aload_n 0, 1) := by decide +kernel
theorem dX10_claimOf_25 : decode cX10_claimOf 25 = .ok (.getfield 13, 3) := by decide +kernel
theorem dX10_claimOf_28 : decode cX10_claimOf 28 = .ok (.bipush 9, 2) := by decide +kernel
theorem dX10_claimOf_30 : decode cX10_claimOf 30 = .ok (.iaload, 1) := by decide +kernel
theorem dX10_claimOf_31 : decode cX10_claimOf 31 = .ok (.ifCond .eq 18, 3) := by decide +kernel
theorem dX10_claimOf_34 : decode cX10_claimOf 34 = .ok (.aload_n 0, 1) := by decide +kernel
theorem dX10_claimOf_35 : decode cX10_claimOf 35 = .ok (.getfield 69, 3) := by decide +kernel
theorem dX10_claimOf_38 : decode cX10_claimOf 38 = .ok (.iload_n 2, 1) := by decide +kernel
theorem dX10_claimOf_39 : decode cX10_claimOf 39 = .ok (.iaload, 1) := by decide +kernel
theorem dX10_claimOf_40 : decode cX10_claimOf 40 = .ok (.aload_n 0, 1) := by decide +kernel
theorem dX10_claimOf_41 : decode cX10_claimOf 41 = .ok (.getfield 69, 3) := by decide +kernel
theorem dX10_claimOf_44 : decode cX10_claimOf 44 = .ok (.iload_n 1, 1) := by decide +kernel
theorem dX10_claimOf_45 : decode cX10_claimOf 45 = .ok (.iaload, 1) := by decide +kernel
theorem dX10_claimOf_46 : decode cX10_claimOf 46 = .ok (.if_icmp .lt 7, 3) := by decide +kernel
theorem dX10_claimOf_49 : decode cX10_claimOf 49 = .ok (.iconst 0, 1) := by decide +kernel
theorem dX10_claimOf_50 : decode cX10_claimOf 50 = .ok (.goto 23, 3) := by decide +kernel
theorem dX10_claimOf_53 : decode cX10_claimOf 53 = .ok (.aload_n 0, 1) := by decide +kernel
theorem dX10_claimOf_54 : decode cX10_claimOf 54 = .ok (.getfield 69, 3) := by decide +kernel
theorem dX10_claimOf_57 : decode cX10_claimOf 57 = .ok (.iload_n 1, 1) := by decide +kernel
theorem dX10_claimOf_58 : decode cX10_claimOf 58 = .ok (.iaload, 1) := by decide +kernel
theorem dX10_claimOf_59 : decode cX10_claimOf 59 = .ok (.aload_n 0, 1) := by decide +kernel
theorem dX10_claimOf_60 : decode cX10_claimOf 60 = .ok (.getfield 69, 3) := by decide +kernel
theorem dX10_claimOf_63 : decode cX10_claimOf 63 = .ok (.iload_n 2, 1) := by decide +kernel
theorem dX10_claimOf_64 : decode cX10_claimOf 64 = .ok (.iaload, 1) := by decide +kernel
theorem dX10_claimOf_65 : decode cX10_claimOf 65 = .ok (.isub, 1) := by decide +kernel
theorem dX10_claimOf_66 : decode cX10_claimOf 66 = .ok (.aload_n 0, 1) := by decide +kernel
theorem dX10_claimOf_67 : decode cX10_claimOf 67 = .ok (.getfield 66, 3) := by decide +kernel
theorem dX10_claimOf_70 : decode cX10_claimOf 70 = .ok (.iload_n 2, 1) := by decide +kernel
theorem dX10_claimOf_71 : decode cX10_claimOf 71 = .ok (.iaload, 1) := by decide +kernel
theorem dX10_claimOf_72 : decode cX10_claimOf 72 = .ok (.imul, 1) := by decide +kernel
theorem dX10_claimOf_73 : decode cX10_claimOf 73 = .ok (.ireturn, 1) := by decide +kernel
theorem dX10_sale_0 : decode cX10_sale 0 = .ok (.aload_n 0, 1) := by decide +kernel
theorem dX10_sale_1 : decode cX10_sale 1 = .ok (.aload_n 0, 1) := by decide +kernel
theorem dX10_sale_2 : decode cX10_sale 2 = .ok (.iload_n 1, 1) := by decide +kernel
theorem dX10_sale_3 : decode cX10_sale 3 = .ok (.invokevirtual 204, 3) := by decide +kernel
theorem dX10_sale_6 : decode cX10_sale 6 = .ok (.ifCond .eq 13, 3) := by decide +kernel
theorem dX10_sale_9 : decode cX10_sale 9 = .ok (.iload_n 2, 1) := by decide +kernel
theorem dX10_sale_10 : decode cX10_sale 10 = .ok (.ifCond .lt 9, 3) := by decide +kernel
theorem dX10_sale_13 : decode cX10_sale 13 = .ok (.iload_n 2, 1) := by decide +kernel
theorem dX10_sale_14 : decode cX10_sale 14 = .ok (.bipush 6, 2) := by decide +kernel
theorem dX10_sale_16 : decode cX10_sale 16 = .ok (.if_icmp .le 7, 3) := by decide +kernel
theorem dX10_sale_19 : decode cX10_sale 19 = .ok (.iconst 1, 1) := by decide +kernel
theorem dX10_sale_20 : decode cX10_sale 20 = .ok (.goto 4, 3) := by decide +kernel
theorem dX10_sale_23 : decode cX10_sale 23 = .ok (.iconst 0, 1) := by decide +kernel
theorem dX10_sale_24 : decode cX10_sale 24 = .ok (.invokevirtual 207, 3) := by decide +kernel
theorem dX10_sale_27 : decode cX10_sale 27 = .ok (.ifCond .eq 5, 3) := by decide +kernel
theorem dX10_sale_30 : decode cX10_sale 30 = .ok (.iconst 0, 1) := by decide +kernel
theorem dX10_sale_31 : decode cX10_sale 31 = .ok (.ireturn, 1) := by decide +kernel
theorem dX10_sale_32 : decode cX10_sale 32 = .ok (.iload_n 2, 1) := by decide +kernel
theorem dX10_sale_33 : decode cX10_sale 33 = .ok (.tableswitch 81 0 5 #[39, 46, 53, 60, 67, 74], 39) := by decide +kernel
theorem dX10_sale_72 : decode cX10_sale 72 = .ok (.aload_n 0, 1) := by decide +kernel
theorem dX10_sale_73 : decode cX10_sale 73 = .ok (.getfield 57, 3) := by decide +kernel
theorem dX10_sale_76 : decode cX10_sale 76 = .ok (.iload_n 1, 1) := by decide +kernel
theorem dX10_sale_77 : decode cX10_sale 77 = .ok (.iaload, 1) := by decide +kernel
theorem dX10_sale_78 : decode cX10_sale 78 = .ok (.ireturn, 1) := by decide +kernel
theorem dX10_sale_79 : decode cX10_sale 79 = .ok (.aload_n 0, 1) := by decide +kernel
theorem dX10_sale_80 : decode cX10_sale 80 = .ok (.getfield 60, 3) := by decide +kernel
theorem dX10_sale_83 : decode cX10_sale 83 = .ok (.iload_n 1, 1) := by decide +kernel
theorem dX10_sale_84 : decode cX10_sale 84 = .ok (.iaload, 1) := by decide +kernel
theorem dX10_sale_85 : decode cX10_sale 85 = .ok (.ireturn, 1) := by decide +kernel
theorem dX10_sale_86 : decode cX10_sale 86 = .ok (.aload_n 0, 1) := by decide +kernel
theorem dX10_sale_87 : decode cX10_sale 87 = .ok (.getfield 63, 3) := by decide +kernel
theorem dX10_sale_90 : decode cX10_sale 90 = .ok (.iload_n 1, 1) := by decide +kernel
theorem dX10_sale_91 : decode cX10_sale 91 = .ok (.iaload, 1) := by decide +kernel
theorem dX10_sale_92 : decode cX10_sale 92 = .ok (.ireturn, 1) := by decide +kernel
theorem dX10_sale_93 : decode cX10_sale 93 = .ok (.aload_n 0, 1) := by decide +kernel
theorem dX10_sale_94 : decode cX10_sale 94 = .ok (.getfield 66, 3) := by decide +kernel
theorem dX10_sale_97 : decode cX10_sale 97 = .ok (.iload_n 1, 1) := by decide +kernel
theorem dX10_sale_98 : decode cX10_sale 98 = .ok (.iaload, 1) := by decide +kernel
theorem dX10_sale_99 : decode cX10_sale 99 = .ok (.ireturn, 1) := by decide +kernel
theorem dX10_sale_100 : decode cX10_sale 100 = .ok (.aload_n 0, 1) := by decide +kernel
theorem dX10_sale_101 : decode cX10_sale 101 = .ok (.getfield 69, 3) := by decide +kernel
theorem dX10_sale_104 : decode cX10_sale 104 = .ok (.iload_n 1, 1) := by decide +kernel
theorem dX10_sale_105 : decode cX10_sale 105 = .ok (.iaload, 1) := by decide +kernel
theorem dX10_sale_106 : decode cX10_sale 106 = .ok (.ireturn, 1) := by decide +kernel
theorem dX10_sale_107 : decode cX10_sale 107 = .ok (.aload_n 0, 1) := by decide +kernel
theorem dX10_sale_108 : decode cX10_sale 108 = .ok (.getfield 72, 3) := by decide +kernel
theorem dX10_sale_111 : decode cX10_sale 111 = .ok (.iload_n 1, 1) := by decide +kernel
theorem dX10_sale_112 : decode cX10_sale 112 = .ok (.iaload, 1) := by decide +kernel
theorem dX10_sale_113 : decode cX10_sale 113 = .ok (.ireturn, 1) := by decide +kernel
theorem dX10_sale_114 : decode cX10_sale 114 = .ok (.aload_n 0, 1) := by decide +kernel
theorem dX10_sale_115 : decode cX10_sale 115 = .ok (.iload_n 1, 1) := by decide +kernel
theorem dX10_sale_116 : decode cX10_sale 116 = .ok (.invokevirtual 215, 3) := by decide +kernel
theorem dX10_sale_119 : decode cX10_sale 119 = .ok (.ireturn, 1) := by decide +kernel
theorem dX10_left_0 : decode cX10_left 0 = .ok (.aload_n 0, 1) := by decide +kernel
theorem dX10_left_1 : decode cX10_left 1 = .ok (.iconst 0, 1) := by decide +kernel
theorem dX10_left_2 : decode cX10_left 2 = .ok (.putfield 97, 3) := by decide +kernel
theorem dX10_left_5 : decode cX10_left 5 = .ok (.iload_n 1, 1) := by decide +kernel
theorem dX10_left_6 : decode cX10_left 6 = .ok (.iconst 0, 1) := by decide +kernel
theorem dX10_left_7 : decode cX10_left 7 = .ok (.bipush 9, 2) := by decide +kernel
theorem dX10_left_9 : decode cX10_left 9 = .ok (.invokestatic 183, 3) := by decide +kernel
theorem dX10_left_12 : decode cX10_left 12 = .ok (.ifCond .eq 12, 3) := by decide +kernel
theorem dX10_left_15 : decode cX10_left 15 = .ok (.aload_n 0, 1) := by decide +kernel
theorem dX10_left_16 : decode cX10_left 16 = .ok (.getfield 48, 3) := by decide +kernel
theorem dX10_left_19 : decode cX10_left 19 = .ok (.iload_n 1, 1) := by decide +kernel
theorem dX10_left_20 : decode cX10_left 20 = .ok (.iaload, 1) := by decide +kernel
theorem dX10_left_21 : decode cX10_left 21 = .ok (.goto 4, 3) := by decide +kernel
theorem dX10_left_24 : decode cX10_left 24 = .ok (.iconst (-1), 1) := by decide +kernel
theorem dX10_left_25 : decode cX10_left 25 = .ok (.ireturn, 1) := by decide +kernel
theorem dX10_wanted_0 : decode cX10_wanted 0 = .ok (.aload_n 0, 1) := by decide +kernel
theorem dX10_wanted_1 : decode cX10_wanted 1 = .ok (.iconst 0, 1) := by decide +kernel
theorem dX10_wanted_2 : decode cX10_wanted 2 = .ok (.putfield 97, 3) := by decide +kernel
theorem dX10_wanted_5 : decode cX10_wanted 5 = .ok (.iload_n 1, 1) := by decide +kernel
theorem dX10_wanted_6 : decode cX10_wanted 6 = .ok (.iconst 0, 1) := by decide +kernel
theorem dX10_wanted_7 : decode cX10_wanted 7 = .ok (.bipush 9, 2) := by decide +kernel
theorem dX10_wanted_9 : decode cX10_wanted 9 = .ok (.invokestatic 183, 3) := by decide +kernel
theorem dX10_wanted_12 : decode cX10_wanted 12 = .ok (.ifCond .eq 35, 3) := by decide +kernel
theorem dX10_wanted_15 : decode cX10_wanted 15 = .ok (.iload_n 2, 1) := by decide +kernel
theorem dX10_wanted_16 : decode cX10_wanted 16 = .ok (.iconst 0, 1) := by decide +kernel
theorem dX10_wanted_17 : decode cX10_wanted 17 = .ok (.iconst 3, 1) := by decide +kernel
theorem dX10_wanted_18 : decode cX10_wanted 18 = .ok (.invokestatic 183, 3) := by decide +kernel
theorem dX10_wanted_21 : decode cX10_wanted 21 = .ok (.ifCond .eq 26, 3) := by decide +kernel
theorem dX10_wanted_24 : decode cX10_wanted 24 = .ok (.iload_n 3, 1) := by decide +kernel
theorem dX10_wanted_25 : decode cX10_wanted 25 = .ok (.iconst 0, 1) := by decide +kernel
theorem dX10_wanted_26 : decode cX10_wanted 26 = .ok (.iconst 3, 1) := by decide +kernel
theorem dX10_wanted_27 : decode cX10_wanted 27 = .ok (.invokestatic 183, 3) := by decide +kernel
theorem dX10_wanted_30 : decode cX10_wanted 30 = .ok (.ifCond .eq 17, 3) := by decide +kernel
theorem dX10_wanted_33 : decode cX10_wanted 33 = .ok (.aload_n 0, 1) := by decide +kernel
theorem dX10_wanted_34 : decode cX10_wanted 34 = .ok (.getfield 51, 3) := by decide +kernel
theorem dX10_wanted_37 : decode cX10_wanted 37 = .ok (.iload_n 1, 1) := by decide +kernel
theorem dX10_wanted_38 : decode cX10_wanted 38 = .ok (.iload_n 2, 1) := by decide +kernel
theorem dX10_wanted_39 : decode cX10_wanted 39 = .ok (.iload_n 3, 1) := by decide +kernel
theorem dX10_wanted_40 : decode cX10_wanted 40 = .ok (.invokestatic 188, 3) := by decide +kernel
theorem dX10_wanted_43 : decode cX10_wanted 43 = .ok (.iaload, 1) := by decide +kernel
theorem dX10_wanted_44 : decode cX10_wanted 44 = .ok (.goto 4, 3) := by decide +kernel
theorem dX10_wanted_47 : decode cX10_wanted 47 = .ok (.iconst (-1), 1) := by decide +kernel
theorem dX10_wanted_48 : decode cX10_wanted 48 = .ok (.ireturn, 1) := by decide +kernel
theorem dX10_counts_0 : decode cX10_counts 0 = .ok (.aload_n 0, 1) := by decide +kernel
theorem dX10_counts_1 : decode cX10_counts 1 = .ok (.getfield 63, 3) := by decide +kernel
theorem dX10_counts_4 : decode cX10_counts 4 = .ok (.iload_n 1, 1) := by decide +kernel
theorem dX10_counts_5 : decode cX10_counts 5 = .ok (.iaload, 1) := by decide +kernel
theorem dX10_counts_6 : decode cX10_counts 6 = .ok (.iload_n 2, 1) := by decide +kernel
theorem dX10_counts_7 : decode cX10_counts 7 = .ok (.if_icmp .gt 27, 3) := by decide +kernel
theorem dX10_counts_10 : decode cX10_counts 10 = .ok (.aload_n 0, 1) := by decide +kernel
theorem dX10_counts_11 : decode cX10_counts 11 = .ok (.getfield 72, 3) := by decide +kernel
theorem dX10_counts_14 : decode cX10_counts 14 = .ok (.iload_n 1, 1) := by decide +kernel
theorem dX10_counts_15 : decode cX10_counts 15 = .ok (.iaload, 1) := by decide +kernel
theorem dX10_counts_16 : decode cX10_counts 16 = .ok (.iconst (-1), 1) := by decide +kernel
theorem dX10_counts_17 : decode cX10_counts 17 = .ok (.if_icmp .eq 13, 3) := by decide +kernel
theorem dX10_counts_20 : decode cX10_counts 20 = .ok (.aload_n 0, 1) := by decide +kernel
theorem dX10_counts_21 : decode cX10_counts 21 = .ok (.getfield 72, 3) := by decide +kernel
theorem dX10_counts_24 : decode cX10_counts 24 = .ok (.iload_n 1, 1) := by decide +kernel
theorem dX10_counts_25 : decode cX10_counts 25 = .ok (.iaload, 1) := by decide +kernel
theorem dX10_counts_26 : decode cX10_counts 26 = .ok (.iload_n 2, 1) := by decide +kernel
theorem dX10_counts_27 : decode cX10_counts 27 = .ok (.if_icmp .le 7, 3) := by decide +kernel
theorem dX10_counts_30 : decode cX10_counts 30 = .ok (.iconst 1, 1) := by decide +kernel
theorem dX10_counts_31 : decode cX10_counts 31 = .ok (.goto 4, 3) := by decide +kernel
theorem dX10_counts_34 : decode cX10_counts 34 = .ok (.iconst 0, 1) := by decide +kernel
theorem dX10_counts_35 : decode cX10_counts 35 = .ok (.ireturn, 1) := by decide +kernel
theorem dX10_poolOf_0 : decode cX10_poolOf 0 = .ok (.lconst 0, 1) := by decide +kernel
theorem dX10_poolOf_1 : decode cX10_poolOf 1 = .ok (.lstore_n 2, 1) := by decide +kernel
theorem dX10_poolOf_2 : decode cX10_poolOf 2 = .ok (.iconst 0, 1) := by decide +kernel
theorem dX10_poolOf_3 : decode cX10_poolOf 3 = .ok (.istore 4, 2) := by decide +kernel
theorem dX10_poolOf_5 : decode cX10_poolOf 5 = .ok (.iload 4, 2) := by decide +kernel
theorem dX10_poolOf_7 : decode cX10_poolOf 7 = .ok (.aload_n 0, 1) := by decide +kernel
theorem dX10_poolOf_8 : decode cX10_poolOf 8 = .ok (.getfield 198, 3) := by decide +kernel
theorem dX10_poolOf_11 : decode cX10_poolOf 11 = .ok (.if_icmp .ge 111, 3) := by decide +kernel
theorem dX10_poolOf_14 : decode cX10_poolOf 14 = .ok (.aload_n 0, 1) := by decide +kernel
theorem dX10_poolOf_15 : decode cX10_poolOf 15 = .ok (.iload 4, 2) := by decide +kernel
theorem dX10_poolOf_17 : decode cX10_poolOf 17 = .ok (.iload_n 1, 1) := by decide +kernel
theorem dX10_poolOf_18 : decode cX10_poolOf 18 = .ok (.invokevirtual 218, 3) := by decide +kernel
theorem dX10_poolOf_21 : decode cX10_poolOf 21 = .ok (.ifCond .eq 23, 3) := by decide +kernel
theorem dX10_poolOf_24 : decode cX10_poolOf 24 = .ok (.lload_n 2, 1) := by decide +kernel
theorem dX10_poolOf_25 : decode cX10_poolOf 25 = .ok (.aload_n 0, 1) := by decide +kernel
theorem dX10_poolOf_26 : decode cX10_poolOf 26 = .ok (.getfield 66, 3) := by decide +kernel
theorem dX10_poolOf_29 : decode cX10_poolOf 29 = .ok (.iload 4, 2) := by decide +kernel
theorem dX10_poolOf_31 : decode cX10_poolOf 31 = .ok (.iaload, 1) := by decide +kernel
theorem dX10_poolOf_32 : decode cX10_poolOf 32 = .ok (.i2l, 1) := by decide +kernel
theorem dX10_poolOf_33 : decode cX10_poolOf 33 = .ok (.aload_n 0, 1) := by decide +kernel
theorem dX10_poolOf_34 : decode cX10_poolOf 34 = .ok (.getfield 69, 3) := by decide +kernel
theorem dX10_poolOf_37 : decode cX10_poolOf 37 = .ok (.iload 4, 2) := by decide +kernel
theorem dX10_poolOf_39 : decode cX10_poolOf 39 = .ok (.iaload, 1) := by decide +kernel
theorem dX10_poolOf_40 : decode cX10_poolOf 40 = .ok (.i2l, 1) := by decide +kernel
theorem dX10_poolOf_41 : decode cX10_poolOf 41 = .ok (.lmul, 1) := by decide +kernel
theorem dX10_poolOf_42 : decode cX10_poolOf 42 = .ok (.ladd, 1) := by decide +kernel
theorem dX10_poolOf_43 : decode cX10_poolOf 43 = .ok (.lstore_n 2, 1) := by decide +kernel
theorem dX10_poolOf_44 : decode cX10_poolOf 44 = .ok (.aload_n 0, 1) := by decide +kernel
theorem dX10_poolOf_45 : decode cX10_poolOf 45 = .ok (.getfield 72, 3) := by decide +kernel
theorem dX10_poolOf_48 : decode cX10_poolOf 48 = .ok (.iload 4, 2) := by decide +kernel
theorem dX10_poolOf_50 : decode cX10_poolOf 50 = .ok (.iaload, 1) := by decide +kernel
theorem dX10_poolOf_51 : decode cX10_poolOf 51 = .ok (.iconst (-1), 1) := by decide +kernel
theorem dX10_poolOf_52 : decode cX10_poolOf 52 = .ok (.if_icmp .eq 42, 3) := by decide +kernel
theorem dX10_poolOf_55 : decode cX10_poolOf 55 = .ok (.aload_n 0, 1) := by decide +kernel
theorem dX10_poolOf_56 : decode cX10_poolOf 56 = .ok (.getfield 72, 3) := by decide +kernel
theorem dX10_poolOf_59 : decode cX10_poolOf 59 = .ok (.iload 4, 2) := by decide +kernel
theorem dX10_poolOf_61 : decode cX10_poolOf 61 = .ok (.iaload, 1) := by decide +kernel
theorem dX10_poolOf_62 : decode cX10_poolOf 62 = .ok (.iload_n 1, 1) := by decide +kernel
theorem dX10_poolOf_63 : decode cX10_poolOf 63 = .ok (.if_icmp .gt 31, 3) := by decide +kernel
theorem dX10_poolOf_66 : decode cX10_poolOf 66 = .ok (.aload_n 0, 1) := by decide +kernel
theorem dX10_poolOf_67 : decode cX10_poolOf 67 = .ok (.iload 4, 2) := by decide +kernel
theorem dX10_poolOf_69 : decode cX10_poolOf 69 = .ok (.invokevirtual 211, 3) := by decide +kernel
theorem dX10_poolOf_72 : decode cX10_poolOf 72 = .ok (.ifCond .lt 22, 3) := by decide +kernel
theorem dX10_poolOf_75 : decode cX10_poolOf 75 = .ok (.aload_n 0, 1) := by decide +kernel
theorem dX10_poolOf_76 : decode cX10_poolOf 76 = .ok (.getfield 63, 3) := by decide +kernel
theorem dX10_poolOf_79 : decode cX10_poolOf 79 = .ok (.aload_n 0, 1) := by decide +kernel
theorem dX10_poolOf_80 : decode cX10_poolOf 80 = .ok (.iload 4, 2) := by decide +kernel
theorem dX10_poolOf_82 : decode cX10_poolOf 82 = .ok (.invokevirtual 211, 3) := by decide +kernel
theorem dX10_poolOf_85 : decode cX10_poolOf 85 = .ok (.iaload, 1) := by decide +kernel
theorem dX10_poolOf_86 : decode cX10_poolOf 86 = .ok (.iload_n 1, 1) := by decide +kernel
theorem dX10_poolOf_87 : decode cX10_poolOf 87 = .ok (.if_icmp .gt 7, 3) := by decide +kernel
theorem dX10_poolOf_90 : decode cX10_poolOf 90 = .ok (.iconst 1, 1) := by decide +kernel
theorem dX10_poolOf_91 : decode cX10_poolOf 91 = .ok (.goto 4, 3) := by decide +kernel
theorem dX10_poolOf_94 : decode cX10_poolOf 94 = .ok (.iconst 0, 1) := by decide +kernel
theorem dX10_poolOf_95 : decode cX10_poolOf 95 = .ok (.istore 5, 2) := by decide +kernel
theorem dX10_poolOf_97 : decode cX10_poolOf 97 = .ok (.lload_n 2, 1) := by decide +kernel
theorem dX10_poolOf_98 : decode cX10_poolOf 98 = .ok (.iload 5, 2) := by decide +kernel
theorem dX10_poolOf_100 : decode cX10_poolOf 100 = .ok (.ifCond .eq 13, 3) := by decide +kernel
theorem dX10_poolOf_103 : decode cX10_poolOf 103 = .ok (.aload_n 0, 1) := by decide +kernel
theorem dX10_poolOf_104 : decode cX10_poolOf 104 = .ok (.iload 4, 2) := by decide +kernel
theorem dX10_poolOf_106 : decode cX10_poolOf 106 = .ok (.invokevirtual 215, 3) := by decide +kernel
theorem dX10_poolOf_109 : decode cX10_poolOf 109 = .ok (.i2l, 1) := by decide +kernel
theorem dX10_poolOf_110 : decode cX10_poolOf 110 = .ok (.goto 4, 3) := by decide +kernel
theorem dX10_poolOf_113 : decode cX10_poolOf 113 = .ok (.lconst 0, 1) := by decide +kernel
theorem dX10_poolOf_114 : decode cX10_poolOf 114 = .ok (.ladd, 1) := by decide +kernel
theorem dX10_poolOf_115 : decode cX10_poolOf 115 = .ok (.lstore_n 2, 1) := by decide +kernel
theorem dX10_poolOf_116 : decode cX10_poolOf 116 = .ok (.iinc 4 1, 3) := by decide +kernel
theorem dX10_poolOf_119 : decode cX10_poolOf 119 = .ok (.goto (-114), 3) := by decide +kernel
theorem dX10_poolOf_122 : decode cX10_poolOf 122 = .ok (.lload_n 2, 1) := by decide +kernel
theorem dX10_poolOf_123 : decode cX10_poolOf 123 = .ok (.lreturn, 1) := by decide +kernel
theorem dX10_pool_0 : decode cX10_pool 0 = .ok (.aload_n 0, 1) := by decide +kernel
theorem dX10_pool_1 : decode cX10_pool 1 = .ok (.iconst 0, 1) := by decide +kernel
theorem dX10_pool_2 : decode cX10_pool 2 = .ok (.putfield 97, 3) := by decide +kernel
theorem dX10_pool_5 : decode cX10_pool 5 = .ok (.aload_n 0, 1) := by decide +kernel
theorem dX10_pool_6 : decode cX10_pool 6 = .ok (.iload_n 1, 1) := by decide +kernel
theorem dX10_pool_7 : decode cX10_pool 7 = .ok (.invokevirtual 221, 3) := by decide +kernel
theorem dX10_pool_10 : decode cX10_pool 10 = .ok (.l2i, 1) := by decide +kernel
theorem dX10_pool_11 : decode cX10_pool 11 = .ok (.ireturn, 1) := by decide +kernel
theorem dX10_pay_0 : decode cX10_pay 0 = .ok (.aload_n 0, 1) := by decide +kernel
theorem dX10_pay_1 : decode cX10_pay 1 = .ok (.iconst 0, 1) := by decide +kernel
theorem dX10_pay_2 : decode cX10_pay 2 = .ok (.putfield 97, 3) := by decide +kernel
theorem dX10_pay_5 : decode cX10_pay 5 = .ok (.iload_n 1, 1) := by decide +kernel
theorem dX10_pay_6 : decode cX10_pay 6 = .ok (.iconst 0, 1) := by decide +kernel
theorem dX10_pay_7 : decode cX10_pay 7 = .ok (.bipush 7, 2) := by decide +kernel
theorem dX10_pay_9 : decode cX10_pay 9 = .ok (.invokestatic 183, 3) := by decide +kernel
theorem dX10_pay_12 : decode cX10_pay 12 = .ok (.ifCond .ne 5, 3) := by decide +kernel
theorem dX10_pay_15 : decode cX10_pay 15 = .ok (.iconst (-1), 1) := by decide +kernel
theorem dX10_pay_16 : decode cX10_pay 16 = .ok (.ireturn, 1) := by decide +kernel
theorem dX10_pay_17 : decode cX10_pay 17 = .ok (.lconst 0, 1) := by decide +kernel
theorem dX10_pay_18 : decode cX10_pay 18 = .ok (.lstore_n 3, 1) := by decide +kernel
theorem dX10_pay_19 : decode cX10_pay 19 = .ok (.iconst 0, 1) := by decide +kernel
theorem dX10_pay_20 : decode cX10_pay 20 = .ok (.istore 5, 2) := by decide +kernel
theorem dX10_pay_22 : decode cX10_pay 22 = .ok (.iload 5, 2) := by decide +kernel
theorem dX10_pay_24 : decode cX10_pay 24 = .ok (.bipush 8, 2) := by decide +kernel
theorem dX10_pay_26 : decode cX10_pay 26 = .ok (.if_icmp .ge 17, 3) := by decide +kernel
theorem dX10_pay_29 : decode cX10_pay 29 = .ok (.aload_n 0, 1) := by decide +kernel
theorem dX10_pay_30 : decode cX10_pay 30 = .ok (.getfield 81, 3) := by decide +kernel
theorem dX10_pay_33 : decode cX10_pay 33 = .ok (.iload 5, 2) := by decide +kernel
theorem dX10_pay_35 : decode cX10_pay 35 = .ok (.lconst 0, 1) := by decide +kernel
theorem dX10_pay_36 : decode cX10_pay 36 = .ok (.lastore, 1) := by decide +kernel
theorem dX10_pay_37 : decode cX10_pay 37 = .ok (.iinc 5 1, 3) := by decide +kernel
theorem dX10_pay_40 : decode cX10_pay 40 = .ok (.goto (-18), 3) := by decide +kernel
theorem dX10_pay_43 : decode cX10_pay 43 = .ok (.iconst 0, 1) := by decide +kernel
theorem dX10_pay_44 : decode cX10_pay 44 = .ok (.istore 5, 2) := by decide +kernel
theorem dX10_pay_46 : decode cX10_pay 46 = .ok (.iload 5, 2) := by decide +kernel
theorem dX10_pay_48 : decode cX10_pay 48 = .ok (.aload_n 0, 1) := by decide +kernel
theorem dX10_pay_49 : decode cX10_pay 49 = .ok (.getfield 198, 3) := by decide +kernel
theorem dX10_pay_52 : decode cX10_pay 52 = .ok (.if_icmp .ge 80, 3) := by decide +kernel
theorem dX10_pay_55 : decode cX10_pay 55 = .ok (.aload_n 0, 1) := by decide +kernel
theorem dX10_pay_56 : decode cX10_pay 56 = .ok (.iload 5, 2) := by decide +kernel
theorem dX10_pay_58 : decode cX10_pay 58 = .ok (.iload_n 2, 1) := by decide +kernel
theorem dX10_pay_59 : decode cX10_pay 59 = .ok (.invokevirtual 218, 3) := by decide +kernel
theorem dX10_pay_62 : decode cX10_pay 62 = .ok (.ifCond .ne 6, 3) := by decide +kernel
theorem dX10_pay_65 : decode cX10_pay 65 = .ok (.goto 61, 3) := by decide +kernel
theorem dX10_pay_68 : decode cX10_pay 68 = .ok (.aload_n 0, 1) := by decide +kernel
theorem dX10_pay_69 : decode cX10_pay 69 = .ok (.getfield 66, 3) := by decide +kernel
theorem dX10_pay_72 : decode cX10_pay 72 = .ok (.iload 5, 2) := by decide +kernel
theorem dX10_pay_74 : decode cX10_pay 74 = .ok (.iaload, 1) := by decide +kernel
theorem dX10_pay_75 : decode cX10_pay 75 = .ok (.i2l, 1) := by decide +kernel
theorem dX10_pay_76 : decode cX10_pay 76 = .ok (.aload_n 0, 1) := by decide +kernel
theorem dX10_pay_77 : decode cX10_pay 77 = .ok (.getfield 13, 3) := by decide +kernel
theorem dX10_pay_80 : decode cX10_pay 80 = .ok (.iconst 4, 1) := by decide +kernel
theorem dX10_pay_81 : decode cX10_pay 81 = .ok (.aload_n 0, 1) := by decide +kernel
theorem dX10_pay_82 : decode cX10_pay 82 = .ok (.getfield 30, 3) := by decide +kernel
theorem dX10_pay_85 : decode cX10_pay 85 = .ok (.aload_n 0, 1) := by decide +kernel
theorem dX10_pay_86 : decode cX10_pay 86 = .ok (.getfield 57, 3) := by decide +kernel
theorem dX10_pay_89 : decode cX10_pay 89 = .ok (.iload 5, 2) := by decide +kernel
theorem dX10_pay_91 : decode cX10_pay 91 = .ok (.iaload, 1) := by decide +kernel
theorem dX10_pay_92 : decode cX10_pay 92 = .ok (.iaload, 1) := by decide +kernel
theorem dX10_pay_93 : decode cX10_pay 93 = .ok (.iadd, 1) := by decide +kernel
theorem dX10_pay_94 : decode cX10_pay 94 = .ok (.iaload, 1) := by decide +kernel
theorem dX10_pay_95 : decode cX10_pay 95 = .ok (.i2l, 1) := by decide +kernel
theorem dX10_pay_96 : decode cX10_pay 96 = .ok (.lmul, 1) := by decide +kernel
theorem dX10_pay_97 : decode cX10_pay 97 = .ok (.lstore 6, 2) := by decide +kernel
theorem dX10_pay_99 : decode cX10_pay 99 = .ok (.aload_n 0, 1) := by decide +kernel
theorem dX10_pay_100 : decode cX10_pay 100 = .ok (.getfield 81, 3) := by decide +kernel
theorem dX10_pay_103 : decode cX10_pay 103 = .ok (.aload_n 0, 1) := by decide +kernel
theorem dX10_pay_104 : decode cX10_pay 104 = .ok (.getfield 24, 3) := by decide +kernel
theorem dX10_pay_107 : decode cX10_pay 107 = .ok (.aload_n 0, 1) := by decide +kernel
theorem dX10_pay_108 : decode cX10_pay 108 = .ok (.getfield 57, 3) := by decide +kernel
theorem dX10_pay_111 : decode cX10_pay 111 = .ok (.iload 5, 2) := by decide +kernel
theorem dX10_pay_113 : decode cX10_pay 113 = .ok (.iaload, 1) := by decide +kernel
theorem dX10_pay_114 : decode cX10_pay 114 = .ok (.iaload, 1) := by decide +kernel
theorem dX10_pay_115 : decode cX10_pay 115 = .ok (.dup2, 1) := by decide +kernel
theorem dX10_pay_116 : decode cX10_pay 116 = .ok (.laload, 1) := by decide +kernel
theorem dX10_pay_117 : decode cX10_pay 117 = .ok (.lload 6, 2) := by decide +kernel
theorem dX10_pay_119 : decode cX10_pay 119 = .ok (.ladd, 1) := by decide +kernel
theorem dX10_pay_120 : decode cX10_pay 120 = .ok (.lastore, 1) := by decide +kernel
theorem dX10_pay_121 : decode cX10_pay 121 = .ok (.lload_n 3, 1) := by decide +kernel
theorem dX10_pay_122 : decode cX10_pay 122 = .ok (.lload 6, 2) := by decide +kernel
theorem dX10_pay_124 : decode cX10_pay 124 = .ok (.ladd, 1) := by decide +kernel
theorem dX10_pay_125 : decode cX10_pay 125 = .ok (.lstore_n 3, 1) := by decide +kernel
theorem dX10_pay_126 : decode cX10_pay 126 = .ok (.iinc 5 1, 3) := by decide +kernel
theorem dX10_pay_129 : decode cX10_pay 129 = .ok (.goto (-83), 3) := by decide +kernel
theorem dX10_pay_132 : decode cX10_pay 132 = .ok (.lload_n 3, 1) := by decide +kernel
theorem dX10_pay_133 : decode cX10_pay 133 = .ok (.lconst 0, 1) := by decide +kernel
theorem dX10_pay_134 : decode cX10_pay 134 = .ok (.lcmp, 1) := by decide +kernel
theorem dX10_pay_135 : decode cX10_pay 135 = .ok (.ifCond .ne 5, 3) := by decide +kernel
theorem dX10_pay_138 : decode cX10_pay 138 = .ok (.iconst 0, 1) := by decide +kernel
theorem dX10_pay_139 : decode cX10_pay 139 = .ok (.ireturn, 1) := by decide +kernel
theorem dX10_pay_140 : decode cX10_pay 140 = .ok (.aload_n 0, 1) := by decide +kernel
theorem dX10_pay_141 : decode cX10_pay 141 = .ok (.iload_n 2, 1) := by decide +kernel
theorem dX10_pay_142 : decode cX10_pay 142 = .ok (.invokevirtual 221, 3) := by decide +kernel
theorem dX10_pay_145 : decode cX10_pay 145 = .ok (.lstore 5, 2) := by decide +kernel
theorem dX10_pay_147 : decode cX10_pay 147 = .ok (.lload 5, 2) := by decide +kernel
theorem dX10_pay_149 : decode cX10_pay 149 = .ok (.lstore 7, 2) := by decide +kernel
theorem dX10_pay_151 : decode cX10_pay 151 = .ok (.iconst 0, 1) := by decide +kernel
theorem dX10_pay_152 : decode cX10_pay 152 = .ok (.istore 9, 2) := by decide +kernel
theorem dX10_pay_154 : decode cX10_pay 154 = .ok (.iload 9, 2) := by decide +kernel
theorem dX10_pay_156 : decode cX10_pay 156 = .ok (.bipush 8, 2) := by decide +kernel
theorem dX10_pay_158 : decode cX10_pay 158 = .ok (.if_icmp .ge 59, 3) := by decide +kernel
theorem dX10_pay_161 : decode cX10_pay 161 = .ok (.aload_n 0, 1) := by decide +kernel
theorem dX10_pay_162 : decode cX10_pay 162 = .ok (.getfield 88, 3) := by decide +kernel
theorem dX10_pay_165 : decode cX10_pay 165 = .ok (.iload 9, 2) := by decide +kernel
theorem dX10_pay_167 : decode cX10_pay 167 = .ok (.lload 5, 2) := by decide +kernel
theorem dX10_pay_169 : decode cX10_pay 169 = .ok (.aload_n 0, 1) := by decide +kernel
theorem dX10_pay_170 : decode cX10_pay 170 = .ok (.getfield 81, 3) := by decide +kernel
theorem dX10_pay_173 : decode cX10_pay 173 = .ok (.iload 9, 2) := by decide +kernel
theorem dX10_pay_175 : decode cX10_pay 175 = .ok (.laload, 1) := by decide +kernel
theorem dX10_pay_176 : decode cX10_pay 176 = .ok (.lmul, 1) := by decide +kernel
theorem dX10_pay_177 : decode cX10_pay 177 = .ok (.lload_n 3, 1) := by decide +kernel
theorem dX10_pay_178 : decode cX10_pay 178 = .ok (.ldiv, 1) := by decide +kernel
theorem dX10_pay_179 : decode cX10_pay 179 = .ok (.lastore, 1) := by decide +kernel
theorem dX10_pay_180 : decode cX10_pay 180 = .ok (.aload_n 0, 1) := by decide +kernel
theorem dX10_pay_181 : decode cX10_pay 181 = .ok (.getfield 85, 3) := by decide +kernel
theorem dX10_pay_184 : decode cX10_pay 184 = .ok (.iload 9, 2) := by decide +kernel
theorem dX10_pay_186 : decode cX10_pay 186 = .ok (.lload 5, 2) := by decide +kernel
theorem dX10_pay_188 : decode cX10_pay 188 = .ok (.aload_n 0, 1) := by decide +kernel
theorem dX10_pay_189 : decode cX10_pay 189 = .ok (.getfield 81, 3) := by decide +kernel
theorem dX10_pay_192 : decode cX10_pay 192 = .ok (.iload 9, 2) := by decide +kernel
theorem dX10_pay_194 : decode cX10_pay 194 = .ok (.laload, 1) := by decide +kernel
theorem dX10_pay_195 : decode cX10_pay 195 = .ok (.lmul, 1) := by decide +kernel
theorem dX10_pay_196 : decode cX10_pay 196 = .ok (.lload_n 3, 1) := by decide +kernel
theorem dX10_pay_197 : decode cX10_pay 197 = .ok (.lrem, 1) := by decide +kernel
theorem dX10_pay_198 : decode cX10_pay 198 = .ok (.lastore, 1) := by decide +kernel
theorem dX10_pay_199 : decode cX10_pay 199 = .ok (.lload 7, 2) := by decide +kernel
theorem dX10_pay_201 : decode cX10_pay 201 = .ok (.aload_n 0, 1) := by decide +kernel
theorem dX10_pay_202 : decode cX10_pay 202 = .ok (.getfield 88, 3) := by decide +kernel
theorem dX10_pay_205 : decode cX10_pay 205 = .ok (.iload 9, 2) := by decide +kernel
theorem dX10_pay_207 : decode cX10_pay 207 = .ok (.laload, 1) := by decide +kernel
theorem dX10_pay_208 : decode cX10_pay 208 = .ok (.lsub, 1) := by decide +kernel
theorem dX10_pay_209 : decode cX10_pay 209 = .ok (.lstore 7, 2) := by decide +kernel
theorem dX10_pay_211 : decode cX10_pay 211 = .ok (.iinc 9 1, 3) := by decide +kernel
theorem dX10_pay_214 : decode cX10_pay 214 = .ok (.goto (-60), 3) := by decide +kernel
theorem dX10_pay_217 : decode cX10_pay 217 = .ok (.lload 7, 2) := by decide +kernel
theorem dX10_pay_219 : decode cX10_pay 219 = .ok (.lconst 0, 1) := by decide +kernel
theorem dX10_pay_220 : decode cX10_pay 220 = .ok (.lcmp, 1) := by decide +kernel
theorem dX10_pay_221 : decode cX10_pay 221 = .ok (.ifCond .le 74, 3) := by decide +kernel
theorem dX10_pay_224 : decode cX10_pay 224 = .ok (.iconst 0, 1) := by decide +kernel
theorem dX10_pay_225 : decode cX10_pay 225 = .ok (.istore 9, 2) := by decide +kernel
theorem dX10_pay_227 : decode cX10_pay 227 = .ok (.iconst 1, 1) := by decide +kernel
theorem dX10_pay_228 : decode cX10_pay 228 = .ok (.istore 10, 2) := by decide +kernel
theorem dX10_pay_230 : decode cX10_pay 230 = .ok (.iload 10, 2) := by decide +kernel
theorem dX10_pay_232 : decode cX10_pay 232 = .ok (.bipush 8, 2) := by decide +kernel
theorem dX10_pay_234 : decode cX10_pay 234 = .ok (.if_icmp .ge 31, 3) := by decide +kernel
theorem dX10_pay_237 : decode cX10_pay 237 = .ok (.aload_n 0, 1) := by decide +kernel
theorem dX10_pay_238 : decode cX10_pay 238 = .ok (.getfield 85, 3) := by decide +kernel
theorem dX10_pay_241 : decode cX10_pay 241 = .ok (.iload 10, 2) := by decide +kernel
theorem dX10_pay_243 : decode cX10_pay 243 = .ok (.laload, 1) := by decide +kernel
theorem dX10_pay_244 : decode cX10_pay 244 = .ok (.aload_n 0, 1) := by decide +kernel
theorem dX10_pay_245 : decode cX10_pay 245 = .ok (.getfield 85, 3) := by decide +kernel
theorem dX10_pay_248 : decode cX10_pay 248 = .ok (.iload 9, 2) := by decide +kernel
theorem dX10_pay_250 : decode cX10_pay 250 = .ok (.laload, 1) := by decide +kernel
theorem dX10_pay_251 : decode cX10_pay 251 = .ok (.lcmp, 1) := by decide +kernel
theorem dX10_pay_252 : decode cX10_pay 252 = .ok (.ifCond .le 7, 3) := by decide +kernel
theorem dX10_pay_255 : decode cX10_pay 255 = .ok (.iload 10, 2) := by decide +kernel
theorem dX10_pay_257 : decode cX10_pay 257 = .ok (.istore 9, 2) := by decide +kernel
theorem dX10_pay_259 : decode cX10_pay 259 = .ok (.iinc 10 1, 3) := by decide +kernel
theorem dX10_pay_262 : decode cX10_pay 262 = .ok (.goto (-32), 3) := by decide +kernel
theorem dX10_pay_265 : decode cX10_pay 265 = .ok (.aload_n 0, 1) := by decide +kernel
theorem dX10_pay_266 : decode cX10_pay 266 = .ok (.getfield 88, 3) := by decide +kernel
theorem dX10_pay_269 : decode cX10_pay 269 = .ok (.iload 9, 2) := by decide +kernel
theorem dX10_pay_271 : decode cX10_pay 271 = .ok (.dup2, 1) := by decide +kernel
theorem dX10_pay_272 : decode cX10_pay 272 = .ok (.laload, 1) := by decide +kernel
theorem dX10_pay_273 : decode cX10_pay 273 = .ok (.lconst 1, 1) := by decide +kernel
theorem dX10_pay_274 : decode cX10_pay 274 = .ok (.ladd, 1) := by decide +kernel
theorem dX10_pay_275 : decode cX10_pay 275 = .ok (.lastore, 1) := by decide +kernel
theorem dX10_pay_276 : decode cX10_pay 276 = .ok (.aload_n 0, 1) := by decide +kernel
theorem dX10_pay_277 : decode cX10_pay 277 = .ok (.getfield 85, 3) := by decide +kernel
theorem dX10_pay_280 : decode cX10_pay 280 = .ok (.iload 9, 2) := by decide +kernel
theorem dX10_pay_282 : decode cX10_pay 282 = .ok (.ldc2_w 225, 3) := by decide +kernel
theorem dX10_pay_285 : decode cX10_pay 285 = .ok (.lastore, 1) := by decide +kernel
theorem dX10_pay_286 : decode cX10_pay 286 = .ok (.lload 7, 2) := by decide +kernel
theorem dX10_pay_288 : decode cX10_pay 288 = .ok (.lconst 1, 1) := by decide +kernel
theorem dX10_pay_289 : decode cX10_pay 289 = .ok (.lsub, 1) := by decide +kernel
theorem dX10_pay_290 : decode cX10_pay 290 = .ok (.lstore 7, 2) := by decide +kernel
theorem dX10_pay_292 : decode cX10_pay 292 = .ok (.goto (-75), 3) := by decide +kernel
theorem dX10_pay_295 : decode cX10_pay 295 = .ok (.aload_n 0, 1) := by decide +kernel
theorem dX10_pay_296 : decode cX10_pay 296 = .ok (.getfield 88, 3) := by decide +kernel
theorem dX10_pay_299 : decode cX10_pay 299 = .ok (.iload_n 1, 1) := by decide +kernel
theorem dX10_pay_300 : decode cX10_pay 300 = .ok (.laload, 1) := by decide +kernel
theorem dX10_pay_301 : decode cX10_pay 301 = .ok (.l2i, 1) := by decide +kernel
theorem dX10_pay_302 : decode cX10_pay 302 = .ok (.ireturn, 1) := by decide +kernel
theorem dX10_common_0 : decode cX10_common 0 = .ok (.lload_n 0, 1) := by decide +kernel
theorem dX10_common_1 : decode cX10_common 1 = .ok (.lconst 0, 1) := by decide +kernel
theorem dX10_common_2 : decode cX10_common 2 = .ok (.lcmp, 1) := by decide +kernel
theorem dX10_common_3 : decode cX10_common 3 = .ok (.ifCond .ge 8, 3) := by decide +kernel
theorem dX10_common_6 : decode cX10_common 6 = .ok (.lload_n 0, 1) := by decide +kernel
theorem dX10_common_7 : decode cX10_common 7 = .ok (.lneg, 1) := by decide +kernel
theorem dX10_common_8 : decode cX10_common 8 = .ok (.goto 4, 3) := by decide +kernel
theorem dX10_common_11 : decode cX10_common 11 = .ok (.lload_n 0, 1) := by decide +kernel
theorem dX10_common_12 : decode cX10_common 12 = .ok (.lstore 4, 2) := by decide +kernel
theorem dX10_common_14 : decode cX10_common 14 = .ok (.lload_n 2, 1) := by decide +kernel
theorem dX10_common_15 : decode cX10_common 15 = .ok (.lstore 6, 2) := by decide +kernel
theorem dX10_common_17 : decode cX10_common 17 = .ok (.lload 6, 2) := by decide +kernel
theorem dX10_common_19 : decode cX10_common 19 = .ok (.lconst 0, 1) := by decide +kernel
theorem dX10_common_20 : decode cX10_common 20 = .ok (.lcmp, 1) := by decide +kernel
theorem dX10_common_21 : decode cX10_common 21 = .ok (.ifCond .eq 21, 3) := by decide +kernel
theorem dX10_common_24 : decode cX10_common 24 = .ok (.lload 4, 2) := by decide +kernel
theorem dX10_common_26 : decode cX10_common 26 = .ok (.lload 6, 2) := by decide +kernel
theorem dX10_common_28 : decode cX10_common 28 = .ok (.lrem, 1) := by decide +kernel
theorem dX10_common_29 : decode cX10_common 29 = .ok (.lstore 8, 2) := by decide +kernel
theorem dX10_common_31 : decode cX10_common 31 = .ok (.lload 6, 2) := by decide +kernel
theorem dX10_common_33 : decode cX10_common 33 = .ok (.lstore 4, 2) := by decide +kernel
theorem dX10_common_35 : decode cX10_common 35 = .ok (.lload 8, 2) := by decide +kernel
theorem dX10_common_37 : decode cX10_common 37 = .ok (.lstore 6, 2) := by decide +kernel
theorem dX10_common_39 : decode cX10_common 39 = .ok (.goto (-22), 3) := by decide +kernel
theorem dX10_common_42 : decode cX10_common 42 = .ok (.lload 4, 2) := by decide +kernel
theorem dX10_common_44 : decode cX10_common 44 = .ok (.lreturn, 1) := by decide +kernel
theorem dX10_worth_0 : decode cX10_worth 0 = .ok (.lconst 0, 1) := by decide +kernel
theorem dX10_worth_1 : decode cX10_worth 1 = .ok (.lstore 4, 2) := by decide +kernel
theorem dX10_worth_3 : decode cX10_worth 3 = .ok (.lconst 1, 1) := by decide +kernel
theorem dX10_worth_4 : decode cX10_worth 4 = .ok (.lstore 6, 2) := by decide +kernel
theorem dX10_worth_6 : decode cX10_worth 6 = .ok (.lconst 0, 1) := by decide +kernel
theorem dX10_worth_7 : decode cX10_worth 7 = .ok (.lstore 8, 2) := by decide +kernel
theorem dX10_worth_9 : decode cX10_worth 9 = .ok (.iload_n 1, 1) := by decide +kernel
theorem dX10_worth_10 : decode cX10_worth 10 = .ok (.iconst 0, 1) := by decide +kernel
theorem dX10_worth_11 : decode cX10_worth 11 = .ok (.iconst 5, 1) := by decide +kernel
theorem dX10_worth_12 : decode cX10_worth 12 = .ok (.invokestatic 183, 3) := by decide +kernel
theorem dX10_worth_15 : decode cX10_worth 15 = .ok (.ifCond .eq 16, 3) := by decide +kernel
theorem dX10_worth_18 : decode cX10_worth 18 = .ok (.iload_n 3, 1) := by decide +kernel
theorem dX10_worth_19 : decode cX10_worth 19 = .ok (.iconst 0, 1) := by decide +kernel
theorem dX10_worth_20 : decode cX10_worth 20 = .ok (.iconst 1, 1) := by decide +kernel
theorem dX10_worth_21 : decode cX10_worth 21 = .ok (.invokestatic 183, 3) := by decide +kernel
theorem dX10_worth_24 : decode cX10_worth 24 = .ok (.ifCond .eq 7, 3) := by decide +kernel
theorem dX10_worth_27 : decode cX10_worth 27 = .ok (.iconst 1, 1) := by decide +kernel
theorem dX10_worth_28 : decode cX10_worth 28 = .ok (.goto 4, 3) := by decide +kernel
theorem dX10_worth_31 : decode cX10_worth 31 = .ok (.iconst 0, 1) := by decide +kernel
theorem dX10_worth_32 : decode cX10_worth 32 = .ok (.istore 10, 2) := by decide +kernel
theorem dX10_worth_34 : decode cX10_worth 34 = .ok (.iconst 0, 1) := by decide +kernel
theorem dX10_worth_35 : decode cX10_worth 35 = .ok (.istore 11, 2) := by decide +kernel
theorem dX10_worth_37 : decode cX10_worth 37 = .ok (.iload 11, 2) := by decide +kernel
theorem dX10_worth_39 : decode cX10_worth 39 = .ok (.iconst 4, 1) := by decide +kernel
theorem dX10_worth_40 : decode cX10_worth 40 = .ok (.if_icmp .ge 222, 3) := by decide +kernel
theorem dX10_worth_43 : decode cX10_worth 43 = .ok (.iload 10, 2) := by decide +kernel
theorem dX10_worth_45 : decode cX10_worth 45 = .ok (.ifCond .eq 217, 3) := by decide +kernel
theorem dX10_worth_48 : decode cX10_worth 48 = .ok (.lconst 0, 1) := by decide +kernel
theorem dX10_worth_49 : decode cX10_worth 49 = .ok (.lstore 12, 2) := by decide +kernel
theorem dX10_worth_51 : decode cX10_worth 51 = .ok (.lconst 0, 1) := by decide +kernel
theorem dX10_worth_52 : decode cX10_worth 52 = .ok (.lstore 14, 2) := by decide +kernel
theorem dX10_worth_54 : decode cX10_worth 54 = .ok (.lconst 0, 1) := by decide +kernel
theorem dX10_worth_55 : decode cX10_worth 55 = .ok (.lstore 16, 2) := by decide +kernel
theorem dX10_worth_57 : decode cX10_worth 57 = .ok (.lconst 0, 1) := by decide +kernel
theorem dX10_worth_58 : decode cX10_worth 58 = .ok (.lstore 18, 2) := by decide +kernel
theorem dX10_worth_60 : decode cX10_worth 60 = .ok (.iconst 0, 1) := by decide +kernel
theorem dX10_worth_61 : decode cX10_worth 61 = .ok (.istore 20, 2) := by decide +kernel
theorem dX10_worth_63 : decode cX10_worth 63 = .ok (.iload 20, 2) := by decide +kernel
theorem dX10_worth_65 : decode cX10_worth 65 = .ok (.aload_n 0, 1) := by decide +kernel
theorem dX10_worth_66 : decode cX10_worth 66 = .ok (.getfield 198, 3) := by decide +kernel
theorem dX10_worth_69 : decode cX10_worth 69 = .ok (.if_icmp .ge 118, 3) := by decide +kernel
theorem dX10_worth_72 : decode cX10_worth 72 = .ok (.aload_n 0, 1) := by decide +kernel
theorem dX10_worth_73 : decode cX10_worth 73 = .ok (.iload 20, 2) := by decide +kernel
theorem dX10_worth_75 : decode cX10_worth 75 = .ok (.iload_n 2, 1) := by decide +kernel
theorem dX10_worth_76 : decode cX10_worth 76 = .ok (.invokevirtual 218, 3) := by decide +kernel
theorem dX10_worth_79 : decode cX10_worth 79 = .ok (.ifCond .eq 102, 3) := by decide +kernel
theorem dX10_worth_82 : decode cX10_worth 82 = .ok (.aload_n 0, 1) := by decide +kernel
theorem dX10_worth_83 : decode cX10_worth 83 = .ok (.getfield 30, 3) := by decide +kernel
theorem dX10_worth_86 : decode cX10_worth 86 = .ok (.aload_n 0, 1) := by decide +kernel
theorem dX10_worth_87 : decode cX10_worth 87 = .ok (.getfield 57, 3) := by decide +kernel
theorem dX10_worth_90 : decode cX10_worth 90 = .ok (.iload 20, 2) := by decide +kernel
theorem dX10_worth_92 : decode cX10_worth 92 = .ok (.iaload, 1) := by decide +kernel
theorem dX10_worth_93 : decode cX10_worth 93 = .ok (.iaload, 1) := by decide +kernel
theorem dX10_worth_94 : decode cX10_worth 94 = .ok (.iload 11, 2) := by decide +kernel
theorem dX10_worth_96 : decode cX10_worth 96 = .ok (.if_icmp .eq 6, 3) := by decide +kernel
theorem dX10_worth_99 : decode cX10_worth 99 = .ok (.goto 82, 3) := by decide +kernel
theorem dX10_worth_102 : decode cX10_worth 102 = .ok (.aload_n 0, 1) := by decide +kernel
theorem dX10_worth_103 : decode cX10_worth 103 = .ok (.getfield 27, 3) := by decide +kernel
theorem dX10_worth_106 : decode cX10_worth 106 = .ok (.aload_n 0, 1) := by decide +kernel
theorem dX10_worth_107 : decode cX10_worth 107 = .ok (.getfield 57, 3) := by decide +kernel
theorem dX10_worth_110 : decode cX10_worth 110 = .ok (.iload 20, 2) := by decide +kernel
theorem dX10_worth_112 : decode cX10_worth 112 = .ok (.iaload, 1) := by decide +kernel
theorem dX10_worth_113 : decode cX10_worth 113 = .ok (.iaload, 1) := by decide +kernel
theorem dX10_worth_114 : decode cX10_worth 114 = .ok (.iload_n 1, 1) := by decide +kernel
theorem dX10_worth_115 : decode cX10_worth 115 = .ok (.if_icmp .ne 7, 3) := by decide +kernel
theorem dX10_worth_118 : decode cX10_worth 118 = .ok (.iconst 1, 1) := by decide +kernel
theorem dX10_worth_119 : decode cX10_worth 119 = .ok (.goto 4, 3) := by decide +kernel
theorem dX10_worth_122 : decode cX10_worth 122 = .ok (.iconst 0, 1) := by decide +kernel
theorem dX10_worth_123 : decode cX10_worth 123 = .ok (.istore 21, 2) := by decide +kernel
theorem dX10_worth_125 : decode cX10_worth 125 = .ok (.lload 12, 2) := by decide +kernel
theorem dX10_worth_127 : decode cX10_worth 127 = .ok (.lconst 1, 1) := by decide +kernel
theorem dX10_worth_128 : decode cX10_worth 128 = .ok (.ladd, 1) := by decide +kernel
theorem dX10_worth_129 : decode cX10_worth 129 = .ok (.lstore 12, 2) := by decide +kernel
theorem dX10_worth_131 : decode cX10_worth 131 = .ok (.lload 14, 2) := by decide +kernel
theorem dX10_worth_133 : decode cX10_worth 133 = .ok (.aload_n 0, 1) := by decide +kernel
theorem dX10_worth_134 : decode cX10_worth 134 = .ok (.getfield 69, 3) := by decide +kernel
theorem dX10_worth_137 : decode cX10_worth 137 = .ok (.iload 20, 2) := by decide +kernel
theorem dX10_worth_139 : decode cX10_worth 139 = .ok (.iaload, 1) := by decide +kernel
theorem dX10_worth_140 : decode cX10_worth 140 = .ok (.i2l, 1) := by decide +kernel
theorem dX10_worth_141 : decode cX10_worth 141 = .ok (.ladd, 1) := by decide +kernel
theorem dX10_worth_142 : decode cX10_worth 142 = .ok (.lstore 14, 2) := by decide +kernel
theorem dX10_worth_144 : decode cX10_worth 144 = .ok (.lload 16, 2) := by decide +kernel
theorem dX10_worth_146 : decode cX10_worth 146 = .ok (.iload 21, 2) := by decide +kernel
theorem dX10_worth_148 : decode cX10_worth 148 = .ok (.ifCond .eq 7, 3) := by decide +kernel
theorem dX10_worth_151 : decode cX10_worth 151 = .ok (.lconst 1, 1) := by decide +kernel
theorem dX10_worth_152 : decode cX10_worth 152 = .ok (.goto 4, 3) := by decide +kernel
theorem dX10_worth_155 : decode cX10_worth 155 = .ok (.lconst 0, 1) := by decide +kernel
theorem dX10_worth_156 : decode cX10_worth 156 = .ok (.ladd, 1) := by decide +kernel
theorem dX10_worth_157 : decode cX10_worth 157 = .ok (.lstore 16, 2) := by decide +kernel
theorem dX10_worth_159 : decode cX10_worth 159 = .ok (.lload 18, 2) := by decide +kernel
theorem dX10_worth_161 : decode cX10_worth 161 = .ok (.iload 21, 2) := by decide +kernel
theorem dX10_worth_163 : decode cX10_worth 163 = .ok (.ifCond .eq 14, 3) := by decide +kernel
theorem dX10_worth_166 : decode cX10_worth 166 = .ok (.aload_n 0, 1) := by decide +kernel
theorem dX10_worth_167 : decode cX10_worth 167 = .ok (.getfield 69, 3) := by decide +kernel
theorem dX10_worth_170 : decode cX10_worth 170 = .ok (.iload 20, 2) := by decide +kernel
theorem dX10_worth_172 : decode cX10_worth 172 = .ok (.iaload, 1) := by decide +kernel
theorem dX10_worth_173 : decode cX10_worth 173 = .ok (.i2l, 1) := by decide +kernel
theorem dX10_worth_174 : decode cX10_worth 174 = .ok (.goto 4, 3) := by decide +kernel
theorem dX10_worth_177 : decode cX10_worth 177 = .ok (.lconst 0, 1) := by decide +kernel
theorem dX10_worth_178 : decode cX10_worth 178 = .ok (.ladd, 1) := by decide +kernel
theorem dX10_worth_179 : decode cX10_worth 179 = .ok (.lstore 18, 2) := by decide +kernel
theorem dX10_worth_181 : decode cX10_worth 181 = .ok (.iinc 20 1, 3) := by decide +kernel
theorem dX10_worth_184 : decode cX10_worth 184 = .ok (.goto (-121), 3) := by decide +kernel
theorem dX10_worth_187 : decode cX10_worth 187 = .ok (.lload 16, 2) := by decide +kernel
theorem dX10_worth_189 : decode cX10_worth 189 = .ok (.lconst 0, 1) := by decide +kernel
theorem dX10_worth_190 : decode cX10_worth 190 = .ok (.lcmp, 1) := by decide +kernel
theorem dX10_worth_191 : decode cX10_worth 191 = .ok (.ifCond .ne 6, 3) := by decide +kernel
theorem dX10_worth_194 : decode cX10_worth 194 = .ok (.goto 62, 3) := by decide +kernel
theorem dX10_worth_197 : decode cX10_worth 197 = .ok (.lload 8, 2) := by decide +kernel
theorem dX10_worth_199 : decode cX10_worth 199 = .ok (.lload 16, 2) := by decide +kernel
theorem dX10_worth_201 : decode cX10_worth 201 = .ok (.ladd, 1) := by decide +kernel
theorem dX10_worth_202 : decode cX10_worth 202 = .ok (.lstore 8, 2) := by decide +kernel
theorem dX10_worth_204 : decode cX10_worth 204 = .ok (.lload 4, 2) := by decide +kernel
theorem dX10_worth_206 : decode cX10_worth 206 = .ok (.lload 12, 2) := by decide +kernel
theorem dX10_worth_208 : decode cX10_worth 208 = .ok (.lmul, 1) := by decide +kernel
theorem dX10_worth_209 : decode cX10_worth 209 = .ok (.lload 18, 2) := by decide +kernel
theorem dX10_worth_211 : decode cX10_worth 211 = .ok (.lload 12, 2) := by decide +kernel
theorem dX10_worth_213 : decode cX10_worth 213 = .ok (.lmul, 1) := by decide +kernel
theorem dX10_worth_214 : decode cX10_worth 214 = .ok (.lload 16, 2) := by decide +kernel
theorem dX10_worth_216 : decode cX10_worth 216 = .ok (.lload 14, 2) := by decide +kernel
theorem dX10_worth_218 : decode cX10_worth 218 = .ok (.lmul, 1) := by decide +kernel
theorem dX10_worth_219 : decode cX10_worth 219 = .ok (.lsub, 1) := by decide +kernel
theorem dX10_worth_220 : decode cX10_worth 220 = .ok (.lload 6, 2) := by decide +kernel
theorem dX10_worth_222 : decode cX10_worth 222 = .ok (.lmul, 1) := by decide +kernel
theorem dX10_worth_223 : decode cX10_worth 223 = .ok (.ladd, 1) := by decide +kernel
theorem dX10_worth_224 : decode cX10_worth 224 = .ok (.lstore 4, 2) := by decide +kernel
theorem dX10_worth_226 : decode cX10_worth 226 = .ok (.lload 6, 2) := by decide +kernel
theorem dX10_worth_228 : decode cX10_worth 228 = .ok (.lload 12, 2) := by decide +kernel
theorem dX10_worth_230 : decode cX10_worth 230 = .ok (.lmul, 1) := by decide +kernel
theorem dX10_worth_231 : decode cX10_worth 231 = .ok (.lstore 6, 2) := by decide +kernel
theorem dX10_worth_233 : decode cX10_worth 233 = .ok (.lload 4, 2) := by decide +kernel
theorem dX10_worth_235 : decode cX10_worth 235 = .ok (.lload 6, 2) := by decide +kernel
theorem dX10_worth_237 : decode cX10_worth 237 = .ok (.invokestatic 227, 3) := by decide +kernel
theorem dX10_worth_240 : decode cX10_worth 240 = .ok (.lstore 20, 2) := by decide +kernel
theorem dX10_worth_242 : decode cX10_worth 242 = .ok (.lload 4, 2) := by decide +kernel
theorem dX10_worth_244 : decode cX10_worth 244 = .ok (.lload 20, 2) := by decide +kernel
theorem dX10_worth_246 : decode cX10_worth 246 = .ok (.ldiv, 1) := by decide +kernel
theorem dX10_worth_247 : decode cX10_worth 247 = .ok (.lstore 4, 2) := by decide +kernel
theorem dX10_worth_249 : decode cX10_worth 249 = .ok (.lload 6, 2) := by decide +kernel
theorem dX10_worth_251 : decode cX10_worth 251 = .ok (.lload 20, 2) := by decide +kernel
theorem dX10_worth_253 : decode cX10_worth 253 = .ok (.ldiv, 1) := by decide +kernel
theorem dX10_worth_254 : decode cX10_worth 254 = .ok (.lstore 6, 2) := by decide +kernel
theorem dX10_worth_256 : decode cX10_worth 256 = .ok (.iinc 11 1, 3) := by decide +kernel
theorem dX10_worth_259 : decode cX10_worth 259 = .ok (.goto (-222), 3) := by decide +kernel
theorem dX10_worth_262 : decode cX10_worth 262 = .ok (.aload_n 0, 1) := by decide +kernel
theorem dX10_worth_263 : decode cX10_worth 263 = .ok (.iload 10, 2) := by decide +kernel
theorem dX10_worth_265 : decode cX10_worth 265 = .ok (.ifCond .eq 10, 3) := by decide +kernel
theorem dX10_worth_268 : decode cX10_worth 268 = .ok (.lload 8, 2) := by decide +kernel
theorem dX10_worth_270 : decode cX10_worth 270 = .ok (.lconst 0, 1) := by decide +kernel
theorem dX10_worth_271 : decode cX10_worth 271 = .ok (.lcmp, 1) := by decide +kernel
theorem dX10_worth_272 : decode cX10_worth 272 = .ok (.ifCond .ne 7, 3) := by decide +kernel
theorem dX10_worth_275 : decode cX10_worth 275 = .ok (.iconst 1, 1) := by decide +kernel
theorem dX10_worth_276 : decode cX10_worth 276 = .ok (.goto 4, 3) := by decide +kernel
theorem dX10_worth_279 : decode cX10_worth 279 = .ok (.iconst 0, 1) := by decide +kernel
theorem dX10_worth_280 : decode cX10_worth 280 = .ok (.invokevirtual 207, 3) := by decide +kernel
theorem dX10_worth_283 : decode cX10_worth 283 = .ok (.ifCond .eq 5, 3) := by decide +kernel
theorem dX10_worth_286 : decode cX10_worth 286 = .ok (.lconst 0, 1) := by decide +kernel
theorem dX10_worth_287 : decode cX10_worth 287 = .ok (.lreturn, 1) := by decide +kernel
theorem dX10_worth_288 : decode cX10_worth 288 = .ok (.lload 6, 2) := by decide +kernel
theorem dX10_worth_290 : decode cX10_worth 290 = .ok (.lload 8, 2) := by decide +kernel
theorem dX10_worth_292 : decode cX10_worth 292 = .ok (.lmul, 1) := by decide +kernel
theorem dX10_worth_293 : decode cX10_worth 293 = .ok (.lstore 6, 2) := by decide +kernel
theorem dX10_worth_295 : decode cX10_worth 295 = .ok (.lload 4, 2) := by decide +kernel
theorem dX10_worth_297 : decode cX10_worth 297 = .ok (.lload 6, 2) := by decide +kernel
theorem dX10_worth_299 : decode cX10_worth 299 = .ok (.invokestatic 227, 3) := by decide +kernel
theorem dX10_worth_302 : decode cX10_worth 302 = .ok (.lstore 11, 2) := by decide +kernel
theorem dX10_worth_304 : decode cX10_worth 304 = .ok (.iload_n 3, 1) := by decide +kernel
theorem dX10_worth_305 : decode cX10_worth 305 = .ok (.ifCond .ne 11, 3) := by decide +kernel
theorem dX10_worth_308 : decode cX10_worth 308 = .ok (.lload 4, 2) := by decide +kernel
theorem dX10_worth_310 : decode cX10_worth 310 = .ok (.lload 11, 2) := by decide +kernel
theorem dX10_worth_312 : decode cX10_worth 312 = .ok (.ldiv, 1) := by decide +kernel
theorem dX10_worth_313 : decode cX10_worth 313 = .ok (.goto 8, 3) := by decide +kernel
theorem dX10_worth_316 : decode cX10_worth 316 = .ok (.lload 6, 2) := by decide +kernel
theorem dX10_worth_318 : decode cX10_worth 318 = .ok (.lload 11, 2) := by decide +kernel
theorem dX10_worth_320 : decode cX10_worth 320 = .ok (.ldiv, 1) := by decide +kernel
theorem dX10_worth_321 : decode cX10_worth 321 = .ok (.lreturn, 1) := by decide +kernel
theorem dX10_wire_0 : decode cX10_wire 0 = .ok (.aload_n 0, 1) := by decide +kernel
theorem dX10_wire_1 : decode cX10_wire 1 = .ok (.iconst 0, 1) := by decide +kernel
theorem dX10_wire_2 : decode cX10_wire 2 = .ok (.putfield 97, 3) := by decide +kernel
theorem dX10_wire_5 : decode cX10_wire 5 = .ok (.iload_n 1, 1) := by decide +kernel
theorem dX10_wire_6 : decode cX10_wire 6 = .ok (.iconst 0, 1) := by decide +kernel
theorem dX10_wire_7 : decode cX10_wire 7 = .ok (.iconst 3, 1) := by decide +kernel
theorem dX10_wire_8 : decode cX10_wire 8 = .ok (.invokestatic 183, 3) := by decide +kernel
theorem dX10_wire_11 : decode cX10_wire 11 = .ok (.ifCond .eq 33, 3) := by decide +kernel
theorem dX10_wire_14 : decode cX10_wire 14 = .ok (.iload_n 2, 1) := by decide +kernel
theorem dX10_wire_15 : decode cX10_wire 15 = .ok (.iconst 0, 1) := by decide +kernel
theorem dX10_wire_16 : decode cX10_wire 16 = .ok (.iconst 3, 1) := by decide +kernel
theorem dX10_wire_17 : decode cX10_wire 17 = .ok (.invokestatic 183, 3) := by decide +kernel
theorem dX10_wire_20 : decode cX10_wire 20 = .ok (.ifCond .eq 24, 3) := by decide +kernel
theorem dX10_wire_23 : decode cX10_wire 23 = .ok (.iload_n 3, 1) := by decide +kernel
theorem dX10_wire_24 : decode cX10_wire 24 = .ok (.iconst 0, 1) := by decide +kernel
theorem dX10_wire_25 : decode cX10_wire 25 = .ok (.sipush 999, 3) := by decide +kernel
theorem dX10_wire_28 : decode cX10_wire 28 = .ok (.invokestatic 183, 3) := by decide +kernel
theorem dX10_wire_31 : decode cX10_wire 31 = .ok (.ifCond .eq 13, 3) := by decide +kernel
theorem dX10_wire_34 : decode cX10_wire 34 = .ok (.iload 4, 2) := by decide +kernel
theorem dX10_wire_36 : decode cX10_wire 36 = .ok (.iconst 0, 1) := by decide +kernel
theorem dX10_wire_37 : decode cX10_wire 37 = .ok (.iconst 3, 1) := by decide +kernel
theorem dX10_wire_38 : decode cX10_wire 38 = .ok (.invokestatic 183, 3) := by decide +kernel
theorem dX10_wire_41 : decode cX10_wire 41 = .ok (.ifCond .ne 5, 3) := by decide +kernel
theorem dX10_wire_44 : decode cX10_wire 44 = .ok (.iconst (-1), 1) := by decide +kernel
theorem dX10_wire_45 : decode cX10_wire 45 = .ok (.ireturn, 1) := by decide +kernel
theorem dX10_wire_46 : decode cX10_wire 46 = .ok (.iconst 0, 1) := by decide +kernel
theorem dX10_wire_47 : decode cX10_wire 47 = .ok (.istore 5, 2) := by decide +kernel
theorem dX10_wire_49 : decode cX10_wire 49 = .ok (.iconst 0, 1) := by decide +kernel
theorem dX10_wire_50 : decode cX10_wire 50 = .ok (.istore 6, 2) := by decide +kernel
theorem dX10_wire_52 : decode cX10_wire 52 = .ok (.iconst 0, 1) := by decide +kernel
theorem dX10_wire_53 : decode cX10_wire 53 = .ok (.istore 7, 2) := by decide +kernel
theorem dX10_wire_55 : decode cX10_wire 55 = .ok (.iconst 0, 1) := by decide +kernel
theorem dX10_wire_56 : decode cX10_wire 56 = .ok (.istore 8, 2) := by decide +kernel
theorem dX10_wire_58 : decode cX10_wire 58 = .ok (.iconst 0, 1) := by decide +kernel
theorem dX10_wire_59 : decode cX10_wire 59 = .ok (.istore 9, 2) := by decide +kernel
theorem dX10_wire_61 : decode cX10_wire 61 = .ok (.iload 9, 2) := by decide +kernel
theorem dX10_wire_63 : decode cX10_wire 63 = .ok (.aload_n 0, 1) := by decide +kernel
theorem dX10_wire_64 : decode cX10_wire 64 = .ok (.getfield 198, 3) := by decide +kernel
theorem dX10_wire_67 : decode cX10_wire 67 = .ok (.if_icmp .ge 137, 3) := by decide +kernel
theorem dX10_wire_70 : decode cX10_wire 70 = .ok (.aload_n 0, 1) := by decide +kernel
theorem dX10_wire_71 : decode cX10_wire 71 = .ok (.iload 9, 2) := by decide +kernel
theorem dX10_wire_73 : decode cX10_wire 73 = .ok (.iload_n 3, 1) := by decide +kernel
theorem dX10_wire_74 : decode cX10_wire 74 = .ok (.invokevirtual 218, 3) := by decide +kernel
theorem dX10_wire_77 : decode cX10_wire 77 = .ok (.ifCond .eq 121, 3) := by decide +kernel
theorem dX10_wire_80 : decode cX10_wire 80 = .ok (.aload_n 0, 1) := by decide +kernel
theorem dX10_wire_81 : decode cX10_wire 81 = .ok (.getfield 63, 3) := by decide +kernel
theorem dX10_wire_84 : decode cX10_wire 84 = .ok (.iload 9, 2) := by decide +kernel
theorem dX10_wire_86 : decode cX10_wire 86 = .ok (.iaload, 1) := by decide +kernel
theorem dX10_wire_87 : decode cX10_wire 87 = .ok (.iload_n 3, 1) := by decide +kernel
theorem dX10_wire_88 : decode cX10_wire 88 = .ok (.if_icmp .ne 110, 3) := by decide +kernel
theorem dX10_wire_91 : decode cX10_wire 91 = .ok (.aload_n 0, 1) := by decide +kernel
theorem dX10_wire_92 : decode cX10_wire 92 = .ok (.getfield 36, 3) := by decide +kernel
theorem dX10_wire_95 : decode cX10_wire 95 = .ok (.aload_n 0, 1) := by decide +kernel
theorem dX10_wire_96 : decode cX10_wire 96 = .ok (.getfield 57, 3) := by decide +kernel
theorem dX10_wire_99 : decode cX10_wire 99 = .ok (.iload 9, 2) := by decide +kernel
theorem dX10_wire_101 : decode cX10_wire 101 = .ok (.iaload, 1) := by decide +kernel
theorem dX10_wire_102 : decode cX10_wire 102 = .ok (.iaload, 1) := by decide +kernel
theorem dX10_wire_103 : decode cX10_wire 103 = .ok (.iload_n 1, 1) := by decide +kernel
theorem dX10_wire_104 : decode cX10_wire 104 = .ok (.if_icmp .ne 94, 3) := by decide +kernel
theorem dX10_wire_107 : decode cX10_wire 107 = .ok (.aload_n 0, 1) := by decide +kernel
theorem dX10_wire_108 : decode cX10_wire 108 = .ok (.getfield 30, 3) := by decide +kernel
theorem dX10_wire_111 : decode cX10_wire 111 = .ok (.aload_n 0, 1) := by decide +kernel
theorem dX10_wire_112 : decode cX10_wire 112 = .ok (.getfield 57, 3) := by decide +kernel
theorem dX10_wire_115 : decode cX10_wire 115 = .ok (.iload 9, 2) := by decide +kernel
theorem dX10_wire_117 : decode cX10_wire 117 = .ok (.iaload, 1) := by decide +kernel
theorem dX10_wire_118 : decode cX10_wire 118 = .ok (.iaload, 1) := by decide +kernel
theorem dX10_wire_119 : decode cX10_wire 119 = .ok (.iload_n 2, 1) := by decide +kernel
theorem dX10_wire_120 : decode cX10_wire 120 = .ok (.if_icmp .eq 6, 3) := by decide +kernel
theorem dX10_wire_123 : decode cX10_wire 123 = .ok (.goto 75, 3) := by decide +kernel
theorem dX10_wire_126 : decode cX10_wire 126 = .ok (.iload 5, 2) := by decide +kernel
theorem dX10_wire_128 : decode cX10_wire 128 = .ok (.ifCond .eq 15, 3) := by decide +kernel
theorem dX10_wire_131 : decode cX10_wire 131 = .ok (.aload_n 0, 1) := by decide +kernel
theorem dX10_wire_132 : decode cX10_wire 132 = .ok (.getfield 69, 3) := by decide +kernel
theorem dX10_wire_135 : decode cX10_wire 135 = .ok (.iload 9, 2) := by decide +kernel
theorem dX10_wire_137 : decode cX10_wire 137 = .ok (.iaload, 1) := by decide +kernel
theorem dX10_wire_138 : decode cX10_wire 138 = .ok (.iload 7, 2) := by decide +kernel
theorem dX10_wire_140 : decode cX10_wire 140 = .ok (.if_icmp .ge 13, 3) := by decide +kernel
theorem dX10_wire_143 : decode cX10_wire 143 = .ok (.aload_n 0, 1) := by decide +kernel
theorem dX10_wire_144 : decode cX10_wire 144 = .ok (.getfield 69, 3) := by decide +kernel
theorem dX10_wire_147 : decode cX10_wire 147 = .ok (.iload 9, 2) := by decide +kernel
theorem dX10_wire_149 : decode cX10_wire 149 = .ok (.iaload, 1) := by decide +kernel
theorem dX10_wire_150 : decode cX10_wire 150 = .ok (.goto 5, 3) := by decide +kernel
theorem dX10_wire_153 : decode cX10_wire 153 = .ok (.iload 7, 2) := by decide +kernel
theorem dX10_wire_155 : decode cX10_wire 155 = .ok (.istore 7, 2) := by decide +kernel
theorem dX10_wire_157 : decode cX10_wire 157 = .ok (.aload_n 0, 1) := by decide +kernel
theorem dX10_wire_158 : decode cX10_wire 158 = .ok (.getfield 69, 3) := by decide +kernel
theorem dX10_wire_161 : decode cX10_wire 161 = .ok (.iload 9, 2) := by decide +kernel
theorem dX10_wire_163 : decode cX10_wire 163 = .ok (.iaload, 1) := by decide +kernel
theorem dX10_wire_164 : decode cX10_wire 164 = .ok (.iload 8, 2) := by decide +kernel
theorem dX10_wire_166 : decode cX10_wire 166 = .ok (.if_icmp .le 13, 3) := by decide +kernel
theorem dX10_wire_169 : decode cX10_wire 169 = .ok (.aload_n 0, 1) := by decide +kernel
theorem dX10_wire_170 : decode cX10_wire 170 = .ok (.getfield 69, 3) := by decide +kernel
theorem dX10_wire_173 : decode cX10_wire 173 = .ok (.iload 9, 2) := by decide +kernel
theorem dX10_wire_175 : decode cX10_wire 175 = .ok (.iaload, 1) := by decide +kernel
theorem dX10_wire_176 : decode cX10_wire 176 = .ok (.goto 5, 3) := by decide +kernel
theorem dX10_wire_179 : decode cX10_wire 179 = .ok (.iload 8, 2) := by decide +kernel
theorem dX10_wire_181 : decode cX10_wire 181 = .ok (.istore 8, 2) := by decide +kernel
theorem dX10_wire_183 : decode cX10_wire 183 = .ok (.iinc 5 1, 3) := by decide +kernel
theorem dX10_wire_186 : decode cX10_wire 186 = .ok (.iload 6, 2) := by decide +kernel
theorem dX10_wire_188 : decode cX10_wire 188 = .ok (.aload_n 0, 1) := by decide +kernel
theorem dX10_wire_189 : decode cX10_wire 189 = .ok (.getfield 66, 3) := by decide +kernel
theorem dX10_wire_192 : decode cX10_wire 192 = .ok (.iload 9, 2) := by decide +kernel
theorem dX10_wire_194 : decode cX10_wire 194 = .ok (.iaload, 1) := by decide +kernel
theorem dX10_wire_195 : decode cX10_wire 195 = .ok (.iadd, 1) := by decide +kernel
theorem dX10_wire_196 : decode cX10_wire 196 = .ok (.istore 6, 2) := by decide +kernel
theorem dX10_wire_198 : decode cX10_wire 198 = .ok (.iinc 9 1, 3) := by decide +kernel
theorem dX10_wire_201 : decode cX10_wire 201 = .ok (.goto (-140), 3) := by decide +kernel
theorem dX10_wire_204 : decode cX10_wire 204 = .ok (.iload 4, 2) := by decide +kernel
theorem dX10_wire_206 : decode cX10_wire 206 = .ok (.ifCond .ne 8, 3) := by decide +kernel
theorem dX10_wire_209 : decode cX10_wire 209 = .ok (.iload 5, 2) := by decide +kernel
theorem dX10_wire_211 : decode cX10_wire 211 = .ok (.goto 27, 3) := by decide +kernel
theorem dX10_wire_214 : decode cX10_wire 214 = .ok (.iload 4, 2) := by decide +kernel
theorem dX10_wire_216 : decode cX10_wire 216 = .ok (.iconst 1, 1) := by decide +kernel
theorem dX10_wire_217 : decode cX10_wire 217 = .ok (.if_icmp .ne 8, 3) := by decide +kernel
theorem dX10_wire_220 : decode cX10_wire 220 = .ok (.iload 6, 2) := by decide +kernel
theorem dX10_wire_222 : decode cX10_wire 222 = .ok (.goto 16, 3) := by decide +kernel
theorem dX10_wire_225 : decode cX10_wire 225 = .ok (.iload 4, 2) := by decide +kernel
theorem dX10_wire_227 : decode cX10_wire 227 = .ok (.iconst 2, 1) := by decide +kernel
theorem dX10_wire_228 : decode cX10_wire 228 = .ok (.if_icmp .ne 8, 3) := by decide +kernel
theorem dX10_wire_231 : decode cX10_wire 231 = .ok (.iload 7, 2) := by decide +kernel
theorem dX10_wire_233 : decode cX10_wire 233 = .ok (.goto 5, 3) := by decide +kernel
theorem dX10_wire_236 : decode cX10_wire 236 = .ok (.iload 8, 2) := by decide +kernel
theorem dX10_wire_238 : decode cX10_wire 238 = .ok (.ireturn, 1) := by decide +kernel
theorem dX10_cars_0 : decode cX10_cars 0 = .ok (.aload_n 0, 1) := by decide +kernel
theorem dX10_cars_1 : decode cX10_cars 1 = .ok (.iconst 0, 1) := by decide +kernel
theorem dX10_cars_2 : decode cX10_cars 2 = .ok (.putfield 97, 3) := by decide +kernel
theorem dX10_cars_5 : decode cX10_cars 5 = .ok (.aload_n 0, 1) := by decide +kernel
theorem dX10_cars_6 : decode cX10_cars 6 = .ok (.invokevirtual 148, 3) := by decide +kernel
theorem dX10_cars_9 : decode cX10_cars 9 = .ok (.aload_n 0, 1) := by decide +kernel
theorem dX10_cars_10 : decode cX10_cars 10 = .ok (.getfield 108, 3) := by decide +kernel
theorem dX10_cars_13 : decode cX10_cars 13 = .ok (.bipush 16, 2) := by decide +kernel
theorem dX10_cars_15 : decode cX10_cars 15 = .ok (.if_icmp .ne 14, 3) := by decide +kernel
theorem dX10_cars_18 : decode cX10_cars 18 = .ok (.iload_n 1, 1) := by decide +kernel
theorem dX10_cars_19 : decode cX10_cars 19 = .ok (.iconst 1, 1) := by decide +kernel
theorem dX10_cars_20 : decode cX10_cars 20 = .ok (.if_icmp .lt 9, 3) := by decide +kernel
theorem dX10_cars_23 : decode cX10_cars 23 = .ok (.iload_n 1, 1) := by decide +kernel
theorem dX10_cars_24 : decode cX10_cars 24 = .ok (.bipush 40, 2) := by decide +kernel
theorem dX10_cars_26 : decode cX10_cars 26 = .ok (.if_icmp .le 5, 3) := by decide +kernel
theorem dX10_cars_29 : decode cX10_cars 29 = .ok (.iconst (-1), 1) := by decide +kernel
theorem dX10_cars_30 : decode cX10_cars 30 = .ok (.ireturn, 1) := by decide +kernel
theorem dX10_cars_31 : decode cX10_cars 31 = .ok (.iconst 0, 1) := by decide +kernel
theorem dX10_cars_32 : decode cX10_cars 32 = .ok (.istore_n 2, 1) := by decide +kernel
theorem dX10_cars_33 : decode cX10_cars 33 = .ok (.iload_n 2, 1) := by decide +kernel
theorem dX10_cars_34 : decode cX10_cars 34 = .ok (.iconst 4, 1) := by decide +kernel
theorem dX10_cars_35 : decode cX10_cars 35 = .ok (.if_icmp .ge 146, 3) := by decide +kernel
theorem dX10_cars_38 : decode cX10_cars 38 = .ok (.aload_n 0, 1) := by decide +kernel
theorem dX10_cars_39 : decode cX10_cars 39 = .ok (.getfield 7, 3) := by decide +kernel
theorem dX10_cars_42 : decode cX10_cars 42 = .ok (.iconst 4, 1) := by decide +kernel
theorem dX10_cars_43 : decode cX10_cars 43 = .ok (.iload_n 2, 1) := by decide +kernel
theorem dX10_cars_44 : decode cX10_cars 44 = .ok (.imul, 1) := by decide +kernel
theorem dX10_cars_45 : decode cX10_cars 45 = .ok (.baload, 1) := by decide +kernel
theorem dX10_cars_46 : decode cX10_cars 46 = .ok (.sipush 255, 3) := by decide +kernel
theorem dX10_cars_49 : decode cX10_cars 49 = .ok (.iand, 1) := by decide +kernel
theorem dX10_cars_50 : decode cX10_cars 50 = .ok (.bipush 8, 2) := by decide +kernel
theorem dX10_cars_52 : decode cX10_cars 52 = .ok (.ishl, 1) := by decide +kernel
theorem dX10_cars_53 : decode cX10_cars 53 = .ok (.aload_n 0, 1) := by decide +kernel
theorem dX10_cars_54 : decode cX10_cars 54 = .ok (.getfield 7, 3) := by decide +kernel
theorem dX10_cars_57 : decode cX10_cars 57 = .ok (.iconst 4, 1) := by decide +kernel
theorem dX10_cars_58 : decode cX10_cars 58 = .ok (.iload_n 2, 1) := by decide +kernel
theorem dX10_cars_59 : decode cX10_cars 59 = .ok (.imul, 1) := by decide +kernel
theorem dX10_cars_60 : decode cX10_cars 60 = .ok (.iconst 1, 1) := by decide +kernel
theorem dX10_cars_61 : decode cX10_cars 61 = .ok (.iadd, 1) := by decide +kernel
theorem dX10_cars_62 : decode cX10_cars 62 = .ok (.baload, 1) := by decide +kernel
theorem dX10_cars_63 : decode cX10_cars 63 = .ok (.sipush 255, 3) := by decide +kernel
theorem dX10_cars_66 : decode cX10_cars 66 = .ok (.iand, 1) := by decide +kernel
theorem dX10_cars_67 : decode cX10_cars 67 = .ok (.ior, 1) := by decide +kernel
theorem dX10_cars_68 : decode cX10_cars 68 = .ok (.istore_n 3, 1) := by decide +kernel
theorem dX10_cars_69 : decode cX10_cars 69 = .ok (.aload_n 0, 1) := by decide +kernel
theorem dX10_cars_70 : decode cX10_cars 70 = .ok (.getfield 7, 3) := by decide +kernel
theorem dX10_cars_73 : decode cX10_cars 73 = .ok (.iconst 4, 1) := by decide +kernel
theorem dX10_cars_74 : decode cX10_cars 74 = .ok (.iload_n 2, 1) := by decide +kernel
theorem dX10_cars_75 : decode cX10_cars 75 = .ok (.imul, 1) := by decide +kernel
theorem dX10_cars_76 : decode cX10_cars 76 = .ok (.iconst 2, 1) := by decide +kernel
theorem dX10_cars_77 : decode cX10_cars 77 = .ok (.iadd, 1) := by decide +kernel
theorem dX10_cars_78 : decode cX10_cars 78 = .ok (.baload, 1) := by decide +kernel
theorem dX10_cars_79 : decode cX10_cars 79 = .ok (.sipush 255, 3) := by decide +kernel
theorem dX10_cars_82 : decode cX10_cars 82 = .ok (.iand, 1) := by decide +kernel
theorem dX10_cars_83 : decode cX10_cars 83 = .ok (.bipush 8, 2) := by decide +kernel
theorem dX10_cars_85 : decode cX10_cars 85 = .ok (.ishl, 1) := by decide +kernel
theorem dX10_cars_86 : decode cX10_cars 86 = .ok (.aload_n 0, 1) := by decide +kernel
theorem dX10_cars_87 : decode cX10_cars 87 = .ok (.getfield 7, 3) := by decide +kernel
theorem dX10_cars_90 : decode cX10_cars 90 = .ok (.iconst 4, 1) := by decide +kernel
theorem dX10_cars_91 : decode cX10_cars 91 = .ok (.iload_n 2, 1) := by decide +kernel
theorem dX10_cars_92 : decode cX10_cars 92 = .ok (.imul, 1) := by decide +kernel
theorem dX10_cars_93 : decode cX10_cars 93 = .ok (.iconst 3, 1) := by decide +kernel
theorem dX10_cars_94 : decode cX10_cars 94 = .ok (.iadd, 1) := by decide +kernel
theorem dX10_cars_95 : decode cX10_cars 95 = .ok (.baload, 1) := by decide +kernel
theorem dX10_cars_96 : decode cX10_cars 96 = .ok (.sipush 255, 3) := by decide +kernel
theorem dX10_cars_99 : decode cX10_cars 99 = .ok (.iand, 1) := by decide +kernel
theorem dX10_cars_100 : decode cX10_cars 100 = .ok (.ior, 1) := by decide +kernel
theorem dX10_cars_101 : decode cX10_cars 101 = .ok (.istore 4, 2) := by decide +kernel
theorem dX10_cars_103 : decode cX10_cars 103 = .ok (.aload_n 0, 1) := by decide +kernel
theorem dX10_cars_104 : decode cX10_cars 104 = .ok (.getfield 91, 3) := by decide +kernel
theorem dX10_cars_107 : decode cX10_cars 107 = .ok (.bipush 41, 2) := by decide +kernel
theorem dX10_cars_109 : decode cX10_cars 109 = .ok (.iload_n 2, 1) := by decide +kernel
theorem dX10_cars_110 : decode cX10_cars 110 = .ok (.imul, 1) := by decide +kernel
theorem dX10_cars_111 : decode cX10_cars 111 = .ok (.iconst 0, 1) := by decide +kernel
theorem dX10_cars_112 : decode cX10_cars 112 = .ok (.iastore, 1) := by decide +kernel
theorem dX10_cars_113 : decode cX10_cars 113 = .ok (.iconst 0, 1) := by decide +kernel
theorem dX10_cars_114 : decode cX10_cars 114 = .ok (.istore 5, 2) := by decide +kernel
theorem dX10_cars_116 : decode cX10_cars 116 = .ok (.iload 5, 2) := by decide +kernel
theorem dX10_cars_118 : decode cX10_cars 118 = .ok (.iload_n 1, 1) := by decide +kernel
theorem dX10_cars_119 : decode cX10_cars 119 = .ok (.if_icmp .ge 56, 3) := by decide +kernel
theorem dX10_cars_122 : decode cX10_cars 122 = .ok (.aload_n 0, 1) := by decide +kernel
theorem dX10_cars_123 : decode cX10_cars 123 = .ok (.getfield 91, 3) := by decide +kernel
theorem dX10_cars_126 : decode cX10_cars 126 = .ok (.bipush 41, 2) := by decide +kernel
theorem dX10_cars_128 : decode cX10_cars 128 = .ok (.iload_n 2, 1) := by decide +kernel
theorem dX10_cars_129 : decode cX10_cars 129 = .ok (.imul, 1) := by decide +kernel
theorem dX10_cars_130 : decode cX10_cars 130 = .ok (.iload 5, 2) := by decide +kernel
theorem dX10_cars_132 : decode cX10_cars 132 = .ok (.iadd, 1) := by decide +kernel
theorem dX10_cars_133 : decode cX10_cars 133 = .ok (.iconst 1, 1) := by decide +kernel
theorem dX10_cars_134 : decode cX10_cars 134 = .ok (.iadd, 1) := by decide +kernel
theorem dX10_cars_135 : decode cX10_cars 135 = .ok (.aload_n 0, 1) := by decide +kernel
theorem dX10_cars_136 : decode cX10_cars 136 = .ok (.getfield 91, 3) := by decide +kernel
theorem dX10_cars_139 : decode cX10_cars 139 = .ok (.bipush 41, 2) := by decide +kernel
theorem dX10_cars_141 : decode cX10_cars 141 = .ok (.iload_n 2, 1) := by decide +kernel
theorem dX10_cars_142 : decode cX10_cars 142 = .ok (.imul, 1) := by decide +kernel
theorem dX10_cars_143 : decode cX10_cars 143 = .ok (.iload 5, 2) := by decide +kernel
theorem dX10_cars_145 : decode cX10_cars 145 = .ok (.iadd, 1) := by decide +kernel
theorem dX10_cars_146 : decode cX10_cars 146 = .ok (.iaload, 1) := by decide +kernel
theorem dX10_cars_147 : decode cX10_cars 147 = .ok (.iload_n 3, 1) := by decide +kernel
theorem dX10_cars_148 : decode cX10_cars 148 = .ok (.iload 5, 2) := by decide +kernel
theorem dX10_cars_150 : decode cX10_cars 150 = .ok (.iload 4, 2) := by decide +kernel
theorem dX10_cars_152 : decode cX10_cars 152 = .ok (.imul, 1) := by decide +kernel
theorem dX10_cars_153 : decode cX10_cars 153 = .ok (.if_icmp .le 13, 3) := by decide +kernel
theorem dX10_cars_156 : decode cX10_cars 156 = .ok (.iload_n 3, 1) := by decide +kernel
theorem dX10_cars_157 : decode cX10_cars 157 = .ok (.iload 5, 2) := by decide +kernel
theorem dX10_cars_159 : decode cX10_cars 159 = .ok (.iload 4, 2) := by decide +kernel
theorem dX10_cars_161 : decode cX10_cars 161 = .ok (.imul, 1) := by decide +kernel
theorem dX10_cars_162 : decode cX10_cars 162 = .ok (.isub, 1) := by decide +kernel
theorem dX10_cars_163 : decode cX10_cars 163 = .ok (.goto 4, 3) := by decide +kernel
theorem dX10_cars_166 : decode cX10_cars 166 = .ok (.iconst 0, 1) := by decide +kernel
theorem dX10_cars_167 : decode cX10_cars 167 = .ok (.iadd, 1) := by decide +kernel
theorem dX10_cars_168 : decode cX10_cars 168 = .ok (.iastore, 1) := by decide +kernel
theorem dX10_cars_169 : decode cX10_cars 169 = .ok (.iinc 5 1, 3) := by decide +kernel
theorem dX10_cars_172 : decode cX10_cars 172 = .ok (.goto (-56), 3) := by decide +kernel
theorem dX10_cars_175 : decode cX10_cars 175 = .ok (.iinc 2 1, 3) := by decide +kernel
theorem dX10_cars_178 : decode cX10_cars 178 = .ok (.goto (-145), 3) := by decide +kernel
theorem dX10_cars_181 : decode cX10_cars 181 = .ok (.iconst (-1), 1) := by decide +kernel
theorem dX10_cars_182 : decode cX10_cars 182 = .ok (.istore_n 2, 1) := by decide +kernel
theorem dX10_cars_183 : decode cX10_cars 183 = .ok (.iload_n 1, 1) := by decide +kernel
theorem dX10_cars_184 : decode cX10_cars 184 = .ok (.istore_n 3, 1) := by decide +kernel
theorem dX10_cars_185 : decode cX10_cars 185 = .ok (.iload_n 3, 1) := by decide +kernel
theorem dX10_cars_186 : decode cX10_cars 186 = .ok (.ifCond .lt 142, 3) := by decide +kernel
theorem dX10_cars_189 : decode cX10_cars 189 = .ok (.iload_n 1, 1) := by decide +kernel
theorem dX10_cars_190 : decode cX10_cars 190 = .ok (.iload_n 3, 1) := by decide +kernel
theorem dX10_cars_191 : decode cX10_cars 191 = .ok (.isub, 1) := by decide +kernel
theorem dX10_cars_192 : decode cX10_cars 192 = .ok (.istore 4, 2) := by decide +kernel
theorem dX10_cars_194 : decode cX10_cars 194 = .ok (.iload 4, 2) := by decide +kernel
theorem dX10_cars_196 : decode cX10_cars 196 = .ok (.ifCond .lt 126, 3) := by decide +kernel
theorem dX10_cars_199 : decode cX10_cars 199 = .ok (.iload_n 1, 1) := by decide +kernel
theorem dX10_cars_200 : decode cX10_cars 200 = .ok (.iload_n 3, 1) := by decide +kernel
theorem dX10_cars_201 : decode cX10_cars 201 = .ok (.isub, 1) := by decide +kernel
theorem dX10_cars_202 : decode cX10_cars 202 = .ok (.iload 4, 2) := by decide +kernel
theorem dX10_cars_204 : decode cX10_cars 204 = .ok (.isub, 1) := by decide +kernel
theorem dX10_cars_205 : decode cX10_cars 205 = .ok (.istore 5, 2) := by decide +kernel
theorem dX10_cars_207 : decode cX10_cars 207 = .ok (.iload 5, 2) := by decide +kernel
theorem dX10_cars_209 : decode cX10_cars 209 = .ok (.ifCond .lt 107, 3) := by decide +kernel
theorem dX10_cars_212 : decode cX10_cars 212 = .ok (.aload_n 0, 1) := by decide +kernel
theorem dX10_cars_213 : decode cX10_cars 213 = .ok (.getfield 91, 3) := by decide +kernel
theorem dX10_cars_216 : decode cX10_cars 216 = .ok (.iload_n 3, 1) := by decide +kernel
theorem dX10_cars_217 : decode cX10_cars 217 = .ok (.iaload, 1) := by decide +kernel
theorem dX10_cars_218 : decode cX10_cars 218 = .ok (.aload_n 0, 1) := by decide +kernel
theorem dX10_cars_219 : decode cX10_cars 219 = .ok (.getfield 91, 3) := by decide +kernel
theorem dX10_cars_222 : decode cX10_cars 222 = .ok (.bipush 41, 2) := by decide +kernel
theorem dX10_cars_224 : decode cX10_cars 224 = .ok (.iload 4, 2) := by decide +kernel
theorem dX10_cars_226 : decode cX10_cars 226 = .ok (.iadd, 1) := by decide +kernel
theorem dX10_cars_227 : decode cX10_cars 227 = .ok (.iaload, 1) := by decide +kernel
theorem dX10_cars_228 : decode cX10_cars 228 = .ok (.iadd, 1) := by decide +kernel
theorem dX10_cars_229 : decode cX10_cars 229 = .ok (.aload_n 0, 1) := by decide +kernel
theorem dX10_cars_230 : decode cX10_cars 230 = .ok (.getfield 91, 3) := by decide +kernel
theorem dX10_cars_233 : decode cX10_cars 233 = .ok (.bipush 82, 2) := by decide +kernel
theorem dX10_cars_235 : decode cX10_cars 235 = .ok (.iload 5, 2) := by decide +kernel
theorem dX10_cars_237 : decode cX10_cars 237 = .ok (.iadd, 1) := by decide +kernel
theorem dX10_cars_238 : decode cX10_cars 238 = .ok (.iaload, 1) := by decide +kernel
theorem dX10_cars_239 : decode cX10_cars 239 = .ok (.iadd, 1) := by decide +kernel
theorem dX10_cars_240 : decode cX10_cars 240 = .ok (.aload_n 0, 1) := by decide +kernel
theorem dX10_cars_241 : decode cX10_cars 241 = .ok (.getfield 91, 3) := by decide +kernel
theorem dX10_cars_244 : decode cX10_cars 244 = .ok (.bipush 123, 2) := by decide +kernel
theorem dX10_cars_246 : decode cX10_cars 246 = .ok (.iload_n 1, 1) := by decide +kernel
theorem dX10_cars_247 : decode cX10_cars 247 = .ok (.iadd, 1) := by decide +kernel
theorem dX10_cars_248 : decode cX10_cars 248 = .ok (.iload_n 3, 1) := by decide +kernel
theorem dX10_cars_249 : decode cX10_cars 249 = .ok (.isub, 1) := by decide +kernel
theorem dX10_cars_250 : decode cX10_cars 250 = .ok (.iload 4, 2) := by decide +kernel
theorem dX10_cars_252 : decode cX10_cars 252 = .ok (.isub, 1) := by decide +kernel
theorem dX10_cars_253 : decode cX10_cars 253 = .ok (.iload 5, 2) := by decide +kernel
theorem dX10_cars_255 : decode cX10_cars 255 = .ok (.isub, 1) := by decide +kernel
theorem dX10_cars_256 : decode cX10_cars 256 = .ok (.iaload, 1) := by decide +kernel
theorem dX10_cars_257 : decode cX10_cars 257 = .ok (.iadd, 1) := by decide +kernel
theorem dX10_cars_258 : decode cX10_cars 258 = .ok (.istore 6, 2) := by decide +kernel
theorem dX10_cars_260 : decode cX10_cars 260 = .ok (.iload 6, 2) := by decide +kernel
theorem dX10_cars_262 : decode cX10_cars 262 = .ok (.iload_n 2, 1) := by decide +kernel
theorem dX10_cars_263 : decode cX10_cars 263 = .ok (.if_icmp .gt 6, 3) := by decide +kernel
theorem dX10_cars_266 : decode cX10_cars 266 = .ok (.goto 44, 3) := by decide +kernel
theorem dX10_cars_269 : decode cX10_cars 269 = .ok (.iload 6, 2) := by decide +kernel
theorem dX10_cars_271 : decode cX10_cars 271 = .ok (.istore_n 2, 1) := by decide +kernel
theorem dX10_cars_272 : decode cX10_cars 272 = .ok (.aload_n 0, 1) := by decide +kernel
theorem dX10_cars_273 : decode cX10_cars 273 = .ok (.getfield 94, 3) := by decide +kernel
theorem dX10_cars_276 : decode cX10_cars 276 = .ok (.iconst 0, 1) := by decide +kernel
theorem dX10_cars_277 : decode cX10_cars 277 = .ok (.iload_n 3, 1) := by decide +kernel
theorem dX10_cars_278 : decode cX10_cars 278 = .ok (.iastore, 1) := by decide +kernel
theorem dX10_cars_279 : decode cX10_cars 279 = .ok (.aload_n 0, 1) := by decide +kernel
theorem dX10_cars_280 : decode cX10_cars 280 = .ok (.getfield 94, 3) := by decide +kernel
theorem dX10_cars_283 : decode cX10_cars 283 = .ok (.iconst 1, 1) := by decide +kernel
theorem dX10_cars_284 : decode cX10_cars 284 = .ok (.iload 4, 2) := by decide +kernel
theorem dX10_cars_286 : decode cX10_cars 286 = .ok (.iastore, 1) := by decide +kernel
theorem dX10_cars_287 : decode cX10_cars 287 = .ok (.aload_n 0, 1) := by decide +kernel
theorem dX10_cars_288 : decode cX10_cars 288 = .ok (.getfield 94, 3) := by decide +kernel
theorem dX10_cars_291 : decode cX10_cars 291 = .ok (.iconst 2, 1) := by decide +kernel
theorem dX10_cars_292 : decode cX10_cars 292 = .ok (.iload 5, 2) := by decide +kernel
theorem dX10_cars_294 : decode cX10_cars 294 = .ok (.iastore, 1) := by decide +kernel
theorem dX10_cars_295 : decode cX10_cars 295 = .ok (.aload_n 0, 1) := by decide +kernel
theorem dX10_cars_296 : decode cX10_cars 296 = .ok (.getfield 94, 3) := by decide +kernel
theorem dX10_cars_299 : decode cX10_cars 299 = .ok (.iconst 3, 1) := by decide +kernel
theorem dX10_cars_300 : decode cX10_cars 300 = .ok (.iload_n 1, 1) := by decide +kernel
theorem dX10_cars_301 : decode cX10_cars 301 = .ok (.iload_n 3, 1) := by decide +kernel
theorem dX10_cars_302 : decode cX10_cars 302 = .ok (.isub, 1) := by decide +kernel
theorem dX10_cars_303 : decode cX10_cars 303 = .ok (.iload 4, 2) := by decide +kernel
theorem dX10_cars_305 : decode cX10_cars 305 = .ok (.isub, 1) := by decide +kernel
theorem dX10_cars_306 : decode cX10_cars 306 = .ok (.iload 5, 2) := by decide +kernel
theorem dX10_cars_308 : decode cX10_cars 308 = .ok (.isub, 1) := by decide +kernel
theorem dX10_cars_309 : decode cX10_cars 309 = .ok (.iastore, 1) := by decide +kernel
theorem dX10_cars_310 : decode cX10_cars 310 = .ok (.iinc 5 (-1), 3) := by decide +kernel
theorem dX10_cars_313 : decode cX10_cars 313 = .ok (.goto (-106), 3) := by decide +kernel
theorem dX10_cars_316 : decode cX10_cars 316 = .ok (.iinc 4 (-1), 3) := by decide +kernel
theorem dX10_cars_319 : decode cX10_cars 319 = .ok (.goto (-125), 3) := by decide +kernel
theorem dX10_cars_322 : decode cX10_cars 322 = .ok (.iinc 3 (-1), 3) := by decide +kernel
theorem dX10_cars_325 : decode cX10_cars 325 = .ok (.goto (-140), 3) := by decide +kernel
theorem dX10_cars_328 : decode cX10_cars 328 = .ok (.aload_n 0, 1) := by decide +kernel
theorem dX10_cars_329 : decode cX10_cars 329 = .ok (.iconst 1, 1) := by decide +kernel
theorem dX10_cars_330 : decode cX10_cars 330 = .ok (.putfield 231, 3) := by decide +kernel
theorem dX10_cars_333 : decode cX10_cars 333 = .ok (.iload_n 2, 1) := by decide +kernel
theorem dX10_cars_334 : decode cX10_cars 334 = .ok (.ireturn, 1) := by decide +kernel
theorem dX10_sent_0 : decode cX10_sent 0 = .ok (.aload_n 0, 1) := by decide +kernel
theorem dX10_sent_1 : decode cX10_sent 1 = .ok (.iconst 0, 1) := by decide +kernel
theorem dX10_sent_2 : decode cX10_sent 2 = .ok (.putfield 97, 3) := by decide +kernel
theorem dX10_sent_5 : decode cX10_sent 5 = .ok (.aload_n 0, 1) := by decide +kernel
theorem dX10_sent_6 : decode cX10_sent 6 = .ok (.getfield 231, 3) := by decide +kernel
theorem dX10_sent_9 : decode cX10_sent 9 = .ok (.ifCond .eq 21, 3) := by decide +kernel
theorem dX10_sent_12 : decode cX10_sent 12 = .ok (.iload_n 1, 1) := by decide +kernel
theorem dX10_sent_13 : decode cX10_sent 13 = .ok (.iconst 0, 1) := by decide +kernel
theorem dX10_sent_14 : decode cX10_sent 14 = .ok (.iconst 3, 1) := by decide +kernel
theorem dX10_sent_15 : decode cX10_sent 15 = .ok (.invokestatic 183, 3) := by decide +kernel
theorem dX10_sent_18 : decode cX10_sent 18 = .ok (.ifCond .eq 12, 3) := by decide +kernel
theorem dX10_sent_21 : decode cX10_sent 21 = .ok (.aload_n 0, 1) := by decide +kernel
theorem dX10_sent_22 : decode cX10_sent 22 = .ok (.getfield 94, 3) := by decide +kernel
theorem dX10_sent_25 : decode cX10_sent 25 = .ok (.iload_n 1, 1) := by decide +kernel
theorem dX10_sent_26 : decode cX10_sent 26 = .ok (.iaload, 1) := by decide +kernel
theorem dX10_sent_27 : decode cX10_sent 27 = .ok (.goto 4, 3) := by decide +kernel
theorem dX10_sent_30 : decode cX10_sent 30 = .ok (.iconst (-1), 1) := by decide +kernel
theorem dX10_sent_31 : decode cX10_sent 31 = .ok (.ireturn, 1) := by decide +kernel
theorem dX10_count_0 : decode cX10_count 0 = .ok (.aload_n 0, 1) := by decide +kernel
theorem dX10_count_1 : decode cX10_count 1 = .ok (.iconst 0, 1) := by decide +kernel
theorem dX10_count_2 : decode cX10_count 2 = .ok (.putfield 97, 3) := by decide +kernel
theorem dX10_count_5 : decode cX10_count 5 = .ok (.iload_n 1, 1) := by decide +kernel
theorem dX10_count_6 : decode cX10_count 6 = .ok (.tableswitch 59 0 4 #[34, 39, 44, 49, 54], 34) := by decide +kernel
theorem dX10_count_40 : decode cX10_count 40 = .ok (.aload_n 0, 1) := by decide +kernel
theorem dX10_count_41 : decode cX10_count 41 = .ok (.getfield 192, 3) := by decide +kernel
theorem dX10_count_44 : decode cX10_count 44 = .ok (.ireturn, 1) := by decide +kernel
theorem dX10_count_45 : decode cX10_count 45 = .ok (.aload_n 0, 1) := by decide +kernel
theorem dX10_count_46 : decode cX10_count 46 = .ok (.getfield 180, 3) := by decide +kernel
theorem dX10_count_49 : decode cX10_count 49 = .ok (.ireturn, 1) := by decide +kernel
theorem dX10_count_50 : decode cX10_count 50 = .ok (.aload_n 0, 1) := by decide +kernel
theorem dX10_count_51 : decode cX10_count 51 = .ok (.getfield 198, 3) := by decide +kernel
theorem dX10_count_54 : decode cX10_count 54 = .ok (.ireturn, 1) := by decide +kernel
theorem dX10_count_55 : decode cX10_count 55 = .ok (.aload_n 0, 1) := by decide +kernel
theorem dX10_count_56 : decode cX10_count 56 = .ok (.getfield 158, 3) := by decide +kernel
theorem dX10_count_59 : decode cX10_count 59 = .ok (.ireturn, 1) := by decide +kernel
theorem dX10_count_60 : decode cX10_count 60 = .ok (.aload_n 0, 1) := by decide +kernel
theorem dX10_count_61 : decode cX10_count 61 = .ok (.getfield 101, 3) := by decide +kernel
theorem dX10_count_64 : decode cX10_count 64 = .ok (.ireturn, 1) := by decide +kernel
theorem dX10_count_65 : decode cX10_count 65 = .ok (.iconst (-1), 1) := by decide +kernel
theorem dX10_count_66 : decode cX10_count 66 = .ok (.ireturn, 1) := by decide +kernel
