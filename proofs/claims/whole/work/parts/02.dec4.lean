theorem dX9_wakeMinute_170 : decode cX9_wakeMinute 170 = .ok (.invokevirtual 326, 3) := by decide +kernel
theorem dX9_wakeMinute_173 : decode cX9_wakeMinute 173 = .ok (.aload_n 0, 1) := by decide +kernel
theorem dX9_wakeMinute_174 : decode cX9_wakeMinute 174 = .ok (.bipush 6, 2) := by decide +kernel
theorem dX9_wakeMinute_176 : decode cX9_wakeMinute 176 = .ok (.invokevirtual 323, 3) := by decide +kernel
theorem dX9_wakeMinute_179 : decode cX9_wakeMinute 179 = .ok (.if_icmp .ge 83, 3) := by decide +kernel
theorem dX9_wakeMinute_182 : decode cX9_wakeMinute 182 = .ok (.aload_n 0, 1) := by decide +kernel
theorem dX9_wakeMinute_183 : decode cX9_wakeMinute 183 = .ok (.getfield 113, 3) := by decide +kernel
theorem dX9_wakeMinute_186 : decode cX9_wakeMinute 186 = .ok (.iconst 3, 1) := by decide +kernel
theorem dX9_wakeMinute_187 : decode cX9_wakeMinute 187 = .ok (.iconst 0, 1) := by decide +kernel
theorem dX9_wakeMinute_188 : decode cX9_wakeMinute 188 = .ok (.iastore, 1) := by decide +kernel
theorem dX9_wakeMinute_189 : decode cX9_wakeMinute 189 = .ok (.aload_n 0, 1) := by decide +kernel
theorem dX9_wakeMinute_190 : decode cX9_wakeMinute 190 = .ok (.getfield 113, 3) := by decide +kernel
theorem dX9_wakeMinute_193 : decode cX9_wakeMinute 193 = .ok (.bipush 50, 2) := by decide +kernel
theorem dX9_wakeMinute_195 : decode cX9_wakeMinute 195 = .ok (.iload_n 1, 1) := by decide +kernel
theorem dX9_wakeMinute_196 : decode cX9_wakeMinute 196 = .ok (.iadd, 1) := by decide +kernel
theorem dX9_wakeMinute_197 : decode cX9_wakeMinute 197 = .ok (.dup2, 1) := by decide +kernel
theorem dX9_wakeMinute_198 : decode cX9_wakeMinute 198 = .ok (.iaload, 1) := by decide +kernel
theorem dX9_wakeMinute_199 : decode cX9_wakeMinute 199 = .ok (.iconst 1, 1) := by decide +kernel
theorem dX9_wakeMinute_200 : decode cX9_wakeMinute 200 = .ok (.iadd, 1) := by decide +kernel
theorem dX9_wakeMinute_201 : decode cX9_wakeMinute 201 = .ok (.iastore, 1) := by decide +kernel
theorem dX9_wakeMinute_202 : decode cX9_wakeMinute 202 = .ok (.aload_n 0, 1) := by decide +kernel
theorem dX9_wakeMinute_203 : decode cX9_wakeMinute 203 = .ok (.getfield 113, 3) := by decide +kernel
theorem dX9_wakeMinute_206 : decode cX9_wakeMinute 206 = .ok (.bipush 8, 2) := by decide +kernel
theorem dX9_wakeMinute_208 : decode cX9_wakeMinute 208 = .ok (.iaload, 1) := by decide +kernel
theorem dX9_wakeMinute_209 : decode cX9_wakeMinute 209 = .ok (.ifCond .ne 53, 3) := by decide +kernel
theorem dX9_wakeMinute_212 : decode cX9_wakeMinute 212 = .ok (.aload_n 0, 1) := by decide +kernel
theorem dX9_wakeMinute_213 : decode cX9_wakeMinute 213 = .ok (.getfield 113, 3) := by decide +kernel
theorem dX9_wakeMinute_216 : decode cX9_wakeMinute 216 = .ok (.bipush 15, 2) := by decide +kernel
theorem dX9_wakeMinute_218 : decode cX9_wakeMinute 218 = .ok (.dup2, 1) := by decide +kernel
theorem dX9_wakeMinute_219 : decode cX9_wakeMinute 219 = .ok (.iaload, 1) := by decide +kernel
theorem dX9_wakeMinute_220 : decode cX9_wakeMinute 220 = .ok (.aload_n 0, 1) := by decide +kernel
theorem dX9_wakeMinute_221 : decode cX9_wakeMinute 221 = .ok (.getfield 58, 3) := by decide +kernel
theorem dX9_wakeMinute_224 : decode cX9_wakeMinute 224 = .ok (.bipush 6, 2) := by decide +kernel
theorem dX9_wakeMinute_226 : decode cX9_wakeMinute 226 = .ok (.aload_n 0, 1) := by decide +kernel
theorem dX9_wakeMinute_227 : decode cX9_wakeMinute 227 = .ok (.getfield 233, 3) := by decide +kernel
theorem dX9_wakeMinute_230 : decode cX9_wakeMinute 230 = .ok (.imul, 1) := by decide +kernel
theorem dX9_wakeMinute_231 : decode cX9_wakeMinute 231 = .ok (.iload_n 1, 1) := by decide +kernel
theorem dX9_wakeMinute_232 : decode cX9_wakeMinute 232 = .ok (.iadd, 1) := by decide +kernel
theorem dX9_wakeMinute_233 : decode cX9_wakeMinute 233 = .ok (.iaload, 1) := by decide +kernel
theorem dX9_wakeMinute_234 : decode cX9_wakeMinute 234 = .ok (.iadd, 1) := by decide +kernel
theorem dX9_wakeMinute_235 : decode cX9_wakeMinute 235 = .ok (.iastore, 1) := by decide +kernel
theorem dX9_wakeMinute_236 : decode cX9_wakeMinute 236 = .ok (.aload_n 0, 1) := by decide +kernel
theorem dX9_wakeMinute_237 : decode cX9_wakeMinute 237 = .ok (.getfield 113, 3) := by decide +kernel
theorem dX9_wakeMinute_240 : decode cX9_wakeMinute 240 = .ok (.bipush 44, 2) := by decide +kernel
theorem dX9_wakeMinute_242 : decode cX9_wakeMinute 242 = .ok (.iload_n 1, 1) := by decide +kernel
theorem dX9_wakeMinute_243 : decode cX9_wakeMinute 243 = .ok (.iadd, 1) := by decide +kernel
theorem dX9_wakeMinute_244 : decode cX9_wakeMinute 244 = .ok (.dup2, 1) := by decide +kernel
theorem dX9_wakeMinute_245 : decode cX9_wakeMinute 245 = .ok (.iaload, 1) := by decide +kernel
theorem dX9_wakeMinute_246 : decode cX9_wakeMinute 246 = .ok (.aload_n 0, 1) := by decide +kernel
theorem dX9_wakeMinute_247 : decode cX9_wakeMinute 247 = .ok (.getfield 58, 3) := by decide +kernel
theorem dX9_wakeMinute_250 : decode cX9_wakeMinute 250 = .ok (.bipush 6, 2) := by decide +kernel
theorem dX9_wakeMinute_252 : decode cX9_wakeMinute 252 = .ok (.aload_n 0, 1) := by decide +kernel
theorem dX9_wakeMinute_253 : decode cX9_wakeMinute 253 = .ok (.getfield 233, 3) := by decide +kernel
theorem dX9_wakeMinute_256 : decode cX9_wakeMinute 256 = .ok (.imul, 1) := by decide +kernel
theorem dX9_wakeMinute_257 : decode cX9_wakeMinute 257 = .ok (.iload_n 1, 1) := by decide +kernel
theorem dX9_wakeMinute_258 : decode cX9_wakeMinute 258 = .ok (.iadd, 1) := by decide +kernel
theorem dX9_wakeMinute_259 : decode cX9_wakeMinute 259 = .ok (.iaload, 1) := by decide +kernel
theorem dX9_wakeMinute_260 : decode cX9_wakeMinute 260 = .ok (.iadd, 1) := by decide +kernel
theorem dX9_wakeMinute_261 : decode cX9_wakeMinute 261 = .ok (.iastore, 1) := by decide +kernel
theorem dX9_wakeMinute_262 : decode cX9_wakeMinute 262 = .ok (.aload_n 0, 1) := by decide +kernel
theorem dX9_wakeMinute_263 : decode cX9_wakeMinute 263 = .ok (.iconst 5, 1) := by decide +kernel
theorem dX9_wakeMinute_264 : decode cX9_wakeMinute 264 = .ok (.invokevirtual 323, 3) := by decide +kernel
theorem dX9_wakeMinute_267 : decode cX9_wakeMinute 267 = .ok (.ifCond .le 7, 3) := by decide +kernel
theorem dX9_wakeMinute_270 : decode cX9_wakeMinute 270 = .ok (.aload_n 0, 1) := by decide +kernel
theorem dX9_wakeMinute_271 : decode cX9_wakeMinute 271 = .ok (.invokevirtual 330, 3) := by decide +kernel
theorem dX9_wakeMinute_274 : decode cX9_wakeMinute 274 = .ok (.return_, 1) := by decide +kernel
theorem dX9_sleepMinute_0 : decode cX9_sleepMinute 0 = .ok (.aload_n 0, 1) := by decide +kernel
theorem dX9_sleepMinute_1 : decode cX9_sleepMinute 1 = .ok (.getfield 113, 3) := by decide +kernel
theorem dX9_sleepMinute_4 : decode cX9_sleepMinute 4 = .ok (.iconst 0, 1) := by decide +kernel
theorem dX9_sleepMinute_5 : decode cX9_sleepMinute 5 = .ok (.aload_n 0, 1) := by decide +kernel
theorem dX9_sleepMinute_6 : decode cX9_sleepMinute 6 = .ok (.getfield 113, 3) := by decide +kernel
theorem dX9_sleepMinute_9 : decode cX9_sleepMinute 9 = .ok (.iconst 0, 1) := by decide +kernel
theorem dX9_sleepMinute_10 : decode cX9_sleepMinute 10 = .ok (.iaload, 1) := by decide +kernel
theorem dX9_sleepMinute_11 : decode cX9_sleepMinute 11 = .ok (.aload_n 0, 1) := by decide +kernel
theorem dX9_sleepMinute_12 : decode cX9_sleepMinute 12 = .ok (.iconst 0, 1) := by decide +kernel
theorem dX9_sleepMinute_13 : decode cX9_sleepMinute 13 = .ok (.invokevirtual 323, 3) := by decide +kernel
theorem dX9_sleepMinute_16 : decode cX9_sleepMinute 16 = .ok (.iadd, 1) := by decide +kernel
theorem dX9_sleepMinute_17 : decode cX9_sleepMinute 17 = .ok (.iconst 0, 1) := by decide +kernel
theorem dX9_sleepMinute_18 : decode cX9_sleepMinute 18 = .ok (.bipush 99, 2) := by decide +kernel
theorem dX9_sleepMinute_20 : decode cX9_sleepMinute 20 = .ok (.invokestatic 316, 3) := by decide +kernel
theorem dX9_sleepMinute_23 : decode cX9_sleepMinute 23 = .ok (.iastore, 1) := by decide +kernel
theorem dX9_sleepMinute_24 : decode cX9_sleepMinute 24 = .ok (.aload_n 0, 1) := by decide +kernel
theorem dX9_sleepMinute_25 : decode cX9_sleepMinute 25 = .ok (.getfield 113, 3) := by decide +kernel
theorem dX9_sleepMinute_28 : decode cX9_sleepMinute 28 = .ok (.bipush 38, 2) := by decide +kernel
theorem dX9_sleepMinute_30 : decode cX9_sleepMinute 30 = .ok (.aload_n 0, 1) := by decide +kernel
theorem dX9_sleepMinute_31 : decode cX9_sleepMinute 31 = .ok (.getfield 113, 3) := by decide +kernel
theorem dX9_sleepMinute_34 : decode cX9_sleepMinute 34 = .ok (.iconst 4, 1) := by decide +kernel
theorem dX9_sleepMinute_35 : decode cX9_sleepMinute 35 = .ok (.iaload, 1) := by decide +kernel
theorem dX9_sleepMinute_36 : decode cX9_sleepMinute 36 = .ok (.iadd, 1) := by decide +kernel
theorem dX9_sleepMinute_37 : decode cX9_sleepMinute 37 = .ok (.dup2, 1) := by decide +kernel
theorem dX9_sleepMinute_38 : decode cX9_sleepMinute 38 = .ok (.iaload, 1) := by decide +kernel
theorem dX9_sleepMinute_39 : decode cX9_sleepMinute 39 = .ok (.iconst 1, 1) := by decide +kernel
theorem dX9_sleepMinute_40 : decode cX9_sleepMinute 40 = .ok (.iadd, 1) := by decide +kernel
theorem dX9_sleepMinute_41 : decode cX9_sleepMinute 41 = .ok (.iastore, 1) := by decide +kernel
theorem dX9_sleepMinute_42 : decode cX9_sleepMinute 42 = .ok (.aload_n 0, 1) := by decide +kernel
theorem dX9_sleepMinute_43 : decode cX9_sleepMinute 43 = .ok (.getfield 113, 3) := by decide +kernel
theorem dX9_sleepMinute_46 : decode cX9_sleepMinute 46 = .ok (.bipush 6, 2) := by decide +kernel
theorem dX9_sleepMinute_48 : decode cX9_sleepMinute 48 = .ok (.iconst 0, 1) := by decide +kernel
theorem dX9_sleepMinute_49 : decode cX9_sleepMinute 49 = .ok (.iastore, 1) := by decide +kernel
theorem dX9_sleepMinute_50 : decode cX9_sleepMinute 50 = .ok (.aload_n 0, 1) := by decide +kernel
theorem dX9_sleepMinute_51 : decode cX9_sleepMinute 51 = .ok (.getfield 113, 3) := by decide +kernel
theorem dX9_sleepMinute_54 : decode cX9_sleepMinute 54 = .ok (.bipush 7, 2) := by decide +kernel
theorem dX9_sleepMinute_56 : decode cX9_sleepMinute 56 = .ok (.dup2, 1) := by decide +kernel
theorem dX9_sleepMinute_57 : decode cX9_sleepMinute 57 = .ok (.iaload, 1) := by decide +kernel
theorem dX9_sleepMinute_58 : decode cX9_sleepMinute 58 = .ok (.iconst 1, 1) := by decide +kernel
theorem dX9_sleepMinute_59 : decode cX9_sleepMinute 59 = .ok (.isub, 1) := by decide +kernel
theorem dX9_sleepMinute_60 : decode cX9_sleepMinute 60 = .ok (.iastore, 1) := by decide +kernel
theorem dX9_sleepMinute_61 : decode cX9_sleepMinute 61 = .ok (.aload_n 0, 1) := by decide +kernel
theorem dX9_sleepMinute_62 : decode cX9_sleepMinute 62 = .ok (.getfield 113, 3) := by decide +kernel
theorem dX9_sleepMinute_65 : decode cX9_sleepMinute 65 = .ok (.bipush 7, 2) := by decide +kernel
theorem dX9_sleepMinute_67 : decode cX9_sleepMinute 67 = .ok (.iaload, 1) := by decide +kernel
theorem dX9_sleepMinute_68 : decode cX9_sleepMinute 68 = .ok (.ifCond .le 4, 3) := by decide +kernel
theorem dX9_sleepMinute_71 : decode cX9_sleepMinute 71 = .ok (.return_, 1) := by decide +kernel
theorem dX9_sleepMinute_72 : decode cX9_sleepMinute 72 = .ok (.aload_n 0, 1) := by decide +kernel
theorem dX9_sleepMinute_73 : decode cX9_sleepMinute 73 = .ok (.getfield 113, 3) := by decide +kernel
theorem dX9_sleepMinute_76 : decode cX9_sleepMinute 76 = .ok (.iconst 1, 1) := by decide +kernel
theorem dX9_sleepMinute_77 : decode cX9_sleepMinute 77 = .ok (.iconst 0, 1) := by decide +kernel
theorem dX9_sleepMinute_78 : decode cX9_sleepMinute 78 = .ok (.iastore, 1) := by decide +kernel
theorem dX9_sleepMinute_79 : decode cX9_sleepMinute 79 = .ok (.aload_n 0, 1) := by decide +kernel
theorem dX9_sleepMinute_80 : decode cX9_sleepMinute 80 = .ok (.getfield 113, 3) := by decide +kernel
theorem dX9_sleepMinute_83 : decode cX9_sleepMinute 83 = .ok (.iconst 5, 1) := by decide +kernel
theorem dX9_sleepMinute_84 : decode cX9_sleepMinute 84 = .ok (.iconst 0, 1) := by decide +kernel
theorem dX9_sleepMinute_85 : decode cX9_sleepMinute 85 = .ok (.iastore, 1) := by decide +kernel
theorem dX9_sleepMinute_86 : decode cX9_sleepMinute 86 = .ok (.return_, 1) := by decide +kernel
theorem dX9_minuteGoes_0 : decode cX9_minuteGoes 0 = .ok (.aload_n 0, 1) := by decide +kernel
theorem dX9_minuteGoes_1 : decode cX9_minuteGoes 1 = .ok (.getfield 113, 3) := by decide +kernel
theorem dX9_minuteGoes_4 : decode cX9_minuteGoes 4 = .ok (.iconst 4, 1) := by decide +kernel
theorem dX9_minuteGoes_5 : decode cX9_minuteGoes 5 = .ok (.iaload, 1) := by decide +kernel
theorem dX9_minuteGoes_6 : decode cX9_minuteGoes 6 = .ok (.ifCond .lt 24, 3) := by decide +kernel
theorem dX9_minuteGoes_9 : decode cX9_minuteGoes 9 = .ok (.aload_n 0, 1) := by decide +kernel
theorem dX9_minuteGoes_10 : decode cX9_minuteGoes 10 = .ok (.getfield 113, 3) := by decide +kernel
theorem dX9_minuteGoes_13 : decode cX9_minuteGoes 13 = .ok (.bipush 7, 2) := by decide +kernel
theorem dX9_minuteGoes_15 : decode cX9_minuteGoes 15 = .ok (.iaload, 1) := by decide +kernel
theorem dX9_minuteGoes_16 : decode cX9_minuteGoes 16 = .ok (.ifCond .le 10, 3) := by decide +kernel
theorem dX9_minuteGoes_19 : decode cX9_minuteGoes 19 = .ok (.aload_n 0, 1) := by decide +kernel
theorem dX9_minuteGoes_20 : decode cX9_minuteGoes 20 = .ok (.invokevirtual 333, 3) := by decide +kernel
theorem dX9_minuteGoes_23 : decode cX9_minuteGoes 23 = .ok (.goto 7, 3) := by decide +kernel
theorem dX9_minuteGoes_26 : decode cX9_minuteGoes 26 = .ok (.aload_n 0, 1) := by decide +kernel
theorem dX9_minuteGoes_27 : decode cX9_minuteGoes 27 = .ok (.invokevirtual 336, 3) := by decide +kernel
theorem dX9_minuteGoes_30 : decode cX9_minuteGoes 30 = .ok (.aload_n 0, 1) := by decide +kernel
theorem dX9_minuteGoes_31 : decode cX9_minuteGoes 31 = .ok (.getfield 113, 3) := by decide +kernel
theorem dX9_minuteGoes_34 : decode cX9_minuteGoes 34 = .ok (.bipush 12, 2) := by decide +kernel
theorem dX9_minuteGoes_36 : decode cX9_minuteGoes 36 = .ok (.dup2, 1) := by decide +kernel
theorem dX9_minuteGoes_37 : decode cX9_minuteGoes 37 = .ok (.iaload, 1) := by decide +kernel
theorem dX9_minuteGoes_38 : decode cX9_minuteGoes 38 = .ok (.iconst 1, 1) := by decide +kernel
theorem dX9_minuteGoes_39 : decode cX9_minuteGoes 39 = .ok (.iadd, 1) := by decide +kernel
theorem dX9_minuteGoes_40 : decode cX9_minuteGoes 40 = .ok (.iastore, 1) := by decide +kernel
theorem dX9_minuteGoes_41 : decode cX9_minuteGoes 41 = .ok (.return_, 1) := by decide +kernel
theorem dX9_goes_0 : decode cX9_goes 0 = .ok (.iconst 0, 1) := by decide +kernel
theorem dX9_goes_1 : decode cX9_goes 1 = .ok (.istore_n 2, 1) := by decide +kernel
theorem dX9_goes_2 : decode cX9_goes 2 = .ok (.iload_n 2, 1) := by decide +kernel
theorem dX9_goes_3 : decode cX9_goes 3 = .ok (.iload_n 1, 1) := by decide +kernel
theorem dX9_goes_4 : decode cX9_goes 4 = .ok (.if_icmp .ge 13, 3) := by decide +kernel
theorem dX9_goes_7 : decode cX9_goes 7 = .ok (.aload_n 0, 1) := by decide +kernel
theorem dX9_goes_8 : decode cX9_goes 8 = .ok (.invokevirtual 339, 3) := by decide +kernel
theorem dX9_goes_11 : decode cX9_goes 11 = .ok (.iinc 2 1, 3) := by decide +kernel
theorem dX9_goes_14 : decode cX9_goes 14 = .ok (.goto (-12), 3) := by decide +kernel
theorem dX9_goes_17 : decode cX9_goes 17 = .ok (.return_, 1) := by decide +kernel
theorem dX9_hands_0 : decode cX9_hands 0 = .ok (.iload_n 1, 1) := by decide +kernel
theorem dX9_hands_1 : decode cX9_hands 1 = .ok (.aload_n 0, 1) := by decide +kernel
theorem dX9_hands_2 : decode cX9_hands 2 = .ok (.getfield 113, 3) := by decide +kernel
theorem dX9_hands_5 : decode cX9_hands 5 = .ok (.bipush 10, 2) := by decide +kernel
theorem dX9_hands_7 : decode cX9_hands 7 = .ok (.iaload, 1) := by decide +kernel
theorem dX9_hands_8 : decode cX9_hands 8 = .ok (.if_icmp .eq 42, 3) := by decide +kernel
theorem dX9_hands_11 : decode cX9_hands 11 = .ok (.iload_n 1, 1) := by decide +kernel
theorem dX9_hands_12 : decode cX9_hands 12 = .ok (.aload_n 0, 1) := by decide +kernel
theorem dX9_hands_13 : decode cX9_hands 13 = .ok (.getfield 113, 3) := by decide +kernel
theorem dX9_hands_16 : decode cX9_hands 16 = .ok (.bipush 11, 2) := by decide +kernel
theorem dX9_hands_18 : decode cX9_hands 18 = .ok (.iaload, 1) := by decide +kernel
theorem dX9_hands_19 : decode cX9_hands 19 = .ok (.if_icmp .eq 31, 3) := by decide +kernel
theorem dX9_hands_22 : decode cX9_hands 22 = .ok (.aload_n 0, 1) := by decide +kernel
theorem dX9_hands_23 : decode cX9_hands 23 = .ok (.getfield 113, 3) := by decide +kernel
theorem dX9_hands_26 : decode cX9_hands 26 = .ok (.iconst 2, 1) := by decide +kernel
theorem dX9_hands_27 : decode cX9_hands 27 = .ok (.aload_n 0, 1) := by decide +kernel
theorem dX9_hands_28 : decode cX9_hands 28 = .ok (.getfield 113, 3) := by decide +kernel
theorem dX9_hands_31 : decode cX9_hands 31 = .ok (.iconst 2, 1) := by decide +kernel
theorem dX9_hands_32 : decode cX9_hands 32 = .ok (.iaload, 1) := by decide +kernel
theorem dX9_hands_33 : decode cX9_hands 33 = .ok (.aload_n 0, 1) := by decide +kernel
theorem dX9_hands_34 : decode cX9_hands 34 = .ok (.getfield 65, 3) := by decide +kernel
theorem dX9_hands_37 : decode cX9_hands 37 = .ok (.aload_n 0, 1) := by decide +kernel
theorem dX9_hands_38 : decode cX9_hands 38 = .ok (.getfield 233, 3) := by decide +kernel
theorem dX9_hands_41 : decode cX9_hands 41 = .ok (.iaload, 1) := by decide +kernel
theorem dX9_hands_42 : decode cX9_hands 42 = .ok (.iadd, 1) := by decide +kernel
theorem dX9_hands_43 : decode cX9_hands 43 = .ok (.iconst 0, 1) := by decide +kernel
theorem dX9_hands_44 : decode cX9_hands 44 = .ok (.bipush 99, 2) := by decide +kernel
theorem dX9_hands_46 : decode cX9_hands 46 = .ok (.invokestatic 316, 3) := by decide +kernel
theorem dX9_hands_49 : decode cX9_hands 49 = .ok (.iastore, 1) := by decide +kernel
theorem dX9_hands_50 : decode cX9_hands 50 = .ok (.aload_n 0, 1) := by decide +kernel
theorem dX9_hands_51 : decode cX9_hands 51 = .ok (.getfield 113, 3) := by decide +kernel
theorem dX9_hands_54 : decode cX9_hands 54 = .ok (.bipush 11, 2) := by decide +kernel
theorem dX9_hands_56 : decode cX9_hands 56 = .ok (.aload_n 0, 1) := by decide +kernel
theorem dX9_hands_57 : decode cX9_hands 57 = .ok (.getfield 113, 3) := by decide +kernel
theorem dX9_hands_60 : decode cX9_hands 60 = .ok (.bipush 10, 2) := by decide +kernel
theorem dX9_hands_62 : decode cX9_hands 62 = .ok (.iaload, 1) := by decide +kernel
theorem dX9_hands_63 : decode cX9_hands 63 = .ok (.iastore, 1) := by decide +kernel
theorem dX9_hands_64 : decode cX9_hands 64 = .ok (.aload_n 0, 1) := by decide +kernel
theorem dX9_hands_65 : decode cX9_hands 65 = .ok (.getfield 113, 3) := by decide +kernel
theorem dX9_hands_68 : decode cX9_hands 68 = .ok (.bipush 10, 2) := by decide +kernel
theorem dX9_hands_70 : decode cX9_hands 70 = .ok (.aload_n 0, 1) := by decide +kernel
theorem dX9_hands_71 : decode cX9_hands 71 = .ok (.getfield 113, 3) := by decide +kernel
theorem dX9_hands_74 : decode cX9_hands 74 = .ok (.iconst 4, 1) := by decide +kernel
theorem dX9_hands_75 : decode cX9_hands 75 = .ok (.iaload, 1) := by decide +kernel
theorem dX9_hands_76 : decode cX9_hands 76 = .ok (.iastore, 1) := by decide +kernel
theorem dX9_hands_77 : decode cX9_hands 77 = .ok (.aload_n 0, 1) := by decide +kernel
theorem dX9_hands_78 : decode cX9_hands 78 = .ok (.getfield 113, 3) := by decide +kernel
theorem dX9_hands_81 : decode cX9_hands 81 = .ok (.iconst 4, 1) := by decide +kernel
theorem dX9_hands_82 : decode cX9_hands 82 = .ok (.iload_n 1, 1) := by decide +kernel
theorem dX9_hands_83 : decode cX9_hands 83 = .ok (.iastore, 1) := by decide +kernel
theorem dX9_hands_84 : decode cX9_hands 84 = .ok (.aload_n 0, 1) := by decide +kernel
theorem dX9_hands_85 : decode cX9_hands 85 = .ok (.getfield 113, 3) := by decide +kernel
theorem dX9_hands_88 : decode cX9_hands 88 = .ok (.iconst 5, 1) := by decide +kernel
theorem dX9_hands_89 : decode cX9_hands 89 = .ok (.iconst 0, 1) := by decide +kernel
theorem dX9_hands_90 : decode cX9_hands 90 = .ok (.iastore, 1) := by decide +kernel
theorem dX9_hands_91 : decode cX9_hands 91 = .ok (.aload_n 0, 1) := by decide +kernel
theorem dX9_hands_92 : decode cX9_hands 92 = .ok (.getfield 113, 3) := by decide +kernel
theorem dX9_hands_95 : decode cX9_hands 95 = .ok (.bipush 17, 2) := by decide +kernel
theorem dX9_hands_97 : decode cX9_hands 97 = .ok (.dup2, 1) := by decide +kernel
theorem dX9_hands_98 : decode cX9_hands 98 = .ok (.iaload, 1) := by decide +kernel
theorem dX9_hands_99 : decode cX9_hands 99 = .ok (.iconst 1, 1) := by decide +kernel
theorem dX9_hands_100 : decode cX9_hands 100 = .ok (.iadd, 1) := by decide +kernel
theorem dX9_hands_101 : decode cX9_hands 101 = .ok (.iastore, 1) := by decide +kernel
theorem dX9_hands_102 : decode cX9_hands 102 = .ok (.aload_n 0, 1) := by decide +kernel
theorem dX9_hands_103 : decode cX9_hands 103 = .ok (.getfield 113, 3) := by decide +kernel
theorem dX9_hands_106 : decode cX9_hands 106 = .ok (.bipush 18, 2) := by decide +kernel
theorem dX9_hands_108 : decode cX9_hands 108 = .ok (.dup2, 1) := by decide +kernel
theorem dX9_hands_109 : decode cX9_hands 109 = .ok (.iaload, 1) := by decide +kernel
theorem dX9_hands_110 : decode cX9_hands 110 = .ok (.iconst 1, 1) := by decide +kernel
theorem dX9_hands_111 : decode cX9_hands 111 = .ok (.iload_n 1, 1) := by decide +kernel
theorem dX9_hands_112 : decode cX9_hands 112 = .ok (.ishl, 1) := by decide +kernel
theorem dX9_hands_113 : decode cX9_hands 113 = .ok (.ior, 1) := by decide +kernel
theorem dX9_hands_114 : decode cX9_hands 114 = .ok (.iastore, 1) := by decide +kernel
theorem dX9_hands_115 : decode cX9_hands 115 = .ok (.return_, 1) := by decide +kernel
theorem dX9_isAunt_0 : decode cX9_isAunt 0 = .ok (.iload_n 1, 1) := by decide +kernel
theorem dX9_isAunt_1 : decode cX9_isAunt 1 = .ok (.iconst 0, 1) := by decide +kernel
theorem dX9_isAunt_2 : decode cX9_isAunt 2 = .ok (.aload_n 0, 1) := by decide +kernel
theorem dX9_isAunt_3 : decode cX9_isAunt 3 = .ok (.getfield 46, 3) := by decide +kernel
theorem dX9_isAunt_6 : decode cX9_isAunt 6 = .ok (.aload_n 0, 1) := by decide +kernel
theorem dX9_isAunt_7 : decode cX9_isAunt 7 = .ok (.getfield 233, 3) := by decide +kernel
theorem dX9_isAunt_10 : decode cX9_isAunt 10 = .ok (.iaload, 1) := by decide +kernel
theorem dX9_isAunt_11 : decode cX9_isAunt 11 = .ok (.iconst 1, 1) := by decide +kernel
theorem dX9_isAunt_12 : decode cX9_isAunt 12 = .ok (.isub, 1) := by decide +kernel
theorem dX9_isAunt_13 : decode cX9_isAunt 13 = .ok (.invokestatic 342, 3) := by decide +kernel
theorem dX9_isAunt_16 : decode cX9_isAunt 16 = .ok (.ireturn, 1) := by decide +kernel
theorem dX9_isAwake_0 : decode cX9_isAwake 0 = .ok (.aload_n 0, 1) := by decide +kernel
theorem dX9_isAwake_1 : decode cX9_isAwake 1 = .ok (.getfield 110, 3) := by decide +kernel
theorem dX9_isAwake_4 : decode cX9_isAwake 4 = .ok (.iconst 4, 1) := by decide +kernel
theorem dX9_isAwake_5 : decode cX9_isAwake 5 = .ok (.iaload, 1) := by decide +kernel
theorem dX9_isAwake_6 : decode cX9_isAwake 6 = .ok (.ifCond .lt 17, 3) := by decide +kernel
theorem dX9_isAwake_9 : decode cX9_isAwake 9 = .ok (.aload_n 0, 1) := by decide +kernel
theorem dX9_isAwake_10 : decode cX9_isAwake 10 = .ok (.getfield 110, 3) := by decide +kernel
theorem dX9_isAwake_13 : decode cX9_isAwake 13 = .ok (.bipush 7, 2) := by decide +kernel
theorem dX9_isAwake_15 : decode cX9_isAwake 15 = .ok (.iaload, 1) := by decide +kernel
theorem dX9_isAwake_16 : decode cX9_isAwake 16 = .ok (.ifCond .ne 7, 3) := by decide +kernel
theorem dX9_isAwake_19 : decode cX9_isAwake 19 = .ok (.iconst 1, 1) := by decide +kernel
theorem dX9_isAwake_20 : decode cX9_isAwake 20 = .ok (.goto 4, 3) := by decide +kernel
theorem dX9_isAwake_23 : decode cX9_isAwake 23 = .ok (.iconst 0, 1) := by decide +kernel
theorem dX9_isAwake_24 : decode cX9_isAwake 24 = .ok (.ireturn, 1) := by decide +kernel
theorem dX9_cries_0 : decode cX9_cries 0 = .ok (.aload_n 0, 1) := by decide +kernel
theorem dX9_cries_1 : decode cX9_cries 1 = .ok (.getfield 113, 3) := by decide +kernel
theorem dX9_cries_4 : decode cX9_cries 4 = .ok (.bipush 13, 2) := by decide +kernel
theorem dX9_cries_6 : decode cX9_cries 6 = .ok (.iaload, 1) := by decide +kernel
theorem dX9_cries_7 : decode cX9_cries 7 = .ok (.istore_n 2, 1) := by decide +kernel
theorem dX9_cries_8 : decode cX9_cries 8 = .ok (.aload_n 0, 1) := by decide +kernel
theorem dX9_cries_9 : decode cX9_cries 9 = .ok (.iload_n 1, 1) := by decide +kernel
theorem dX9_cries_10 : decode cX9_cries 10 = .ok (.invokevirtual 346, 3) := by decide +kernel
theorem dX9_cries_13 : decode cX9_cries 13 = .ok (.aload_n 0, 1) := by decide +kernel
theorem dX9_cries_14 : decode cX9_cries 14 = .ok (.getfield 113, 3) := by decide +kernel
theorem dX9_cries_17 : decode cX9_cries 17 = .ok (.bipush 13, 2) := by decide +kernel
theorem dX9_cries_19 : decode cX9_cries 19 = .ok (.iaload, 1) := by decide +kernel
theorem dX9_cries_20 : decode cX9_cries 20 = .ok (.iload_n 2, 1) := by decide +kernel
theorem dX9_cries_21 : decode cX9_cries 21 = .ok (.isub, 1) := by decide +kernel
theorem dX9_cries_22 : decode cX9_cries 22 = .ok (.ireturn, 1) := by decide +kernel
theorem dX9_now_0 : decode cX9_now 0 = .ok (.iload_n 1, 1) := by decide +kernel
theorem dX9_now_1 : decode cX9_now 1 = .ok (.iconst 0, 1) := by decide +kernel
theorem dX9_now_2 : decode cX9_now 2 = .ok (.bipush 11, 2) := by decide +kernel
theorem dX9_now_4 : decode cX9_now 4 = .ok (.invokestatic 342, 3) := by decide +kernel
theorem dX9_now_7 : decode cX9_now 7 = .ok (.ifCond .eq 12, 3) := by decide +kernel
theorem dX9_now_10 : decode cX9_now 10 = .ok (.aload_n 0, 1) := by decide +kernel
theorem dX9_now_11 : decode cX9_now 11 = .ok (.getfield 110, 3) := by decide +kernel
theorem dX9_now_14 : decode cX9_now 14 = .ok (.iload_n 1, 1) := by decide +kernel
theorem dX9_now_15 : decode cX9_now 15 = .ok (.iaload, 1) := by decide +kernel
theorem dX9_now_16 : decode cX9_now 16 = .ok (.goto 4, 3) := by decide +kernel
theorem dX9_now_19 : decode cX9_now 19 = .ok (.iconst (-1), 1) := by decide +kernel
theorem dX9_now_20 : decode cX9_now 20 = .ok (.ireturn, 1) := by decide +kernel
theorem dX9_aunt_0 : decode cX9_aunt 0 = .ok (.aload_n 0, 1) := by decide +kernel
theorem dX9_aunt_1 : decode cX9_aunt 1 = .ok (.iload_n 1, 1) := by decide +kernel
theorem dX9_aunt_2 : decode cX9_aunt 2 = .ok (.invokevirtual 349, 3) := by decide +kernel
theorem dX9_aunt_5 : decode cX9_aunt 5 = .ok (.ifCond .ne 5, 3) := by decide +kernel
theorem dX9_aunt_8 : decode cX9_aunt 8 = .ok (.iconst (-1), 1) := by decide +kernel
theorem dX9_aunt_9 : decode cX9_aunt 9 = .ok (.ireturn, 1) := by decide +kernel
theorem dX9_aunt_10 : decode cX9_aunt 10 = .ok (.iload_n 2, 1) := by decide +kernel
theorem dX9_aunt_11 : decode cX9_aunt 11 = .ok (.tableswitch 81 0 6 #[41, 41, 41, 41, 41, 56, 71], 41) := by decide +kernel
theorem dX9_aunt_52 : decode cX9_aunt 52 = .ok (.aload_n 0, 1) := by decide +kernel
theorem dX9_aunt_53 : decode cX9_aunt 53 = .ok (.getfield 110, 3) := by decide +kernel
theorem dX9_aunt_56 : decode cX9_aunt 56 = .ok (.bipush 20, 2) := by decide +kernel
theorem dX9_aunt_58 : decode cX9_aunt 58 = .ok (.bipush 6, 2) := by decide +kernel
theorem dX9_aunt_60 : decode cX9_aunt 60 = .ok (.iload_n 2, 1) := by decide +kernel
theorem dX9_aunt_61 : decode cX9_aunt 61 = .ok (.imul, 1) := by decide +kernel
theorem dX9_aunt_62 : decode cX9_aunt 62 = .ok (.iadd, 1) := by decide +kernel
theorem dX9_aunt_63 : decode cX9_aunt 63 = .ok (.iload_n 1, 1) := by decide +kernel
theorem dX9_aunt_64 : decode cX9_aunt 64 = .ok (.iadd, 1) := by decide +kernel
theorem dX9_aunt_65 : decode cX9_aunt 65 = .ok (.iaload, 1) := by decide +kernel
theorem dX9_aunt_66 : decode cX9_aunt 66 = .ok (.ireturn, 1) := by decide +kernel
theorem dX9_aunt_67 : decode cX9_aunt 67 = .ok (.aload_n 0, 1) := by decide +kernel
theorem dX9_aunt_68 : decode cX9_aunt 68 = .ok (.getfield 49, 3) := by decide +kernel
theorem dX9_aunt_71 : decode cX9_aunt 71 = .ok (.bipush 6, 2) := by decide +kernel
theorem dX9_aunt_73 : decode cX9_aunt 73 = .ok (.aload_n 0, 1) := by decide +kernel
theorem dX9_aunt_74 : decode cX9_aunt 74 = .ok (.getfield 233, 3) := by decide +kernel
theorem dX9_aunt_77 : decode cX9_aunt 77 = .ok (.imul, 1) := by decide +kernel
theorem dX9_aunt_78 : decode cX9_aunt 78 = .ok (.iload_n 1, 1) := by decide +kernel
theorem dX9_aunt_79 : decode cX9_aunt 79 = .ok (.iadd, 1) := by decide +kernel
theorem dX9_aunt_80 : decode cX9_aunt 80 = .ok (.iaload, 1) := by decide +kernel
theorem dX9_aunt_81 : decode cX9_aunt 81 = .ok (.ireturn, 1) := by decide +kernel
theorem dX9_aunt_82 : decode cX9_aunt 82 = .ok (.aload_n 0, 1) := by decide +kernel
theorem dX9_aunt_83 : decode cX9_aunt 83 = .ok (.getfield 110, 3) := by decide +kernel
theorem dX9_aunt_86 : decode cX9_aunt 86 = .ok (.bipush 50, 2) := by decide +kernel
theorem dX9_aunt_88 : decode cX9_aunt 88 = .ok (.iload_n 1, 1) := by decide +kernel
theorem dX9_aunt_89 : decode cX9_aunt 89 = .ok (.iadd, 1) := by decide +kernel
theorem dX9_aunt_90 : decode cX9_aunt 90 = .ok (.iaload, 1) := by decide +kernel
theorem dX9_aunt_91 : decode cX9_aunt 91 = .ok (.ireturn, 1) := by decide +kernel
theorem dX9_aunt_92 : decode cX9_aunt 92 = .ok (.iconst (-1), 1) := by decide +kernel
theorem dX9_aunt_93 : decode cX9_aunt 93 = .ok (.ireturn, 1) := by decide +kernel
theorem dX9_law_0 : decode cX9_law 0 = .ok (.iload_n 1, 1) := by decide +kernel
theorem dX9_law_1 : decode cX9_law 1 = .ok (.iconst 0, 1) := by decide +kernel
theorem dX9_law_2 : decode cX9_law 2 = .ok (.bipush 6, 2) := by decide +kernel
theorem dX9_law_4 : decode cX9_law 4 = .ok (.invokestatic 342, 3) := by decide +kernel
theorem dX9_law_7 : decode cX9_law 7 = .ok (.ifCond .eq 15, 3) := by decide +kernel
theorem dX9_law_10 : decode cX9_law 10 = .ok (.aload_n 0, 1) := by decide +kernel
theorem dX9_law_11 : decode cX9_law 11 = .ok (.getfield 46, 3) := by decide +kernel
theorem dX9_law_14 : decode cX9_law 14 = .ok (.aload_n 0, 1) := by decide +kernel
theorem dX9_law_15 : decode cX9_law 15 = .ok (.getfield 233, 3) := by decide +kernel
theorem dX9_law_18 : decode cX9_law 18 = .ok (.iaload, 1) := by decide +kernel
theorem dX9_law_19 : decode cX9_law 19 = .ok (.ifCond .ne 7, 3) := by decide +kernel
theorem dX9_law_22 : decode cX9_law 22 = .ok (.sipush (-10000), 3) := by decide +kernel
theorem dX9_law_25 : decode cX9_law 25 = .ok (.ireturn, 1) := by decide +kernel
theorem dX9_law_26 : decode cX9_law 26 = .ok (.aload_n 0, 1) := by decide +kernel
theorem dX9_law_27 : decode cX9_law 27 = .ok (.invokevirtual 352, 3) := by decide +kernel
theorem dX9_law_30 : decode cX9_law 30 = .ok (.aload_n 0, 1) := by decide +kernel
theorem dX9_law_31 : decode cX9_law 31 = .ok (.iload_n 1, 1) := by decide +kernel
theorem dX9_law_32 : decode cX9_law 32 = .ok (.invokevirtual 323, 3) := by decide +kernel
theorem dX9_law_35 : decode cX9_law 35 = .ok (.ireturn, 1) := by decide +kernel
theorem dX9_keeps_0 : decode cX9_keeps 0 = .ok (.aload_n 0, 1) := by decide +kernel
theorem dX9_keeps_1 : decode cX9_keeps 1 = .ok (.getfield 251, 3) := by decide +kernel
theorem dX9_keeps_4 : decode cX9_keeps 4 = .ok (.bipush 50, 2) := by decide +kernel
theorem dX9_keeps_6 : decode cX9_keeps 6 = .ok (.if_icmp .ne 43, 3) := by decide +kernel
theorem dX9_keeps_9 : decode cX9_keeps 9 = .ok (.iconst 0, 1) := by decide +kernel
theorem dX9_keeps_10 : decode cX9_keeps 10 = .ok (.istore_n 1, 1) := by decide +kernel
theorem dX9_keeps_11 : decode cX9_keeps 11 = .ok (.iload_n 1, 1) := by decide +kernel
theorem dX9_keeps_12 : decode cX9_keeps 12 = .ok (.sipush 2940, 3) := by decide +kernel
theorem dX9_keeps_15 : decode cX9_keeps 15 = .ok (.if_icmp .ge 24, 3) := by decide +kernel
theorem dX9_keeps_18 : decode cX9_keeps 18 = .ok (.aload_n 0, 1) := by decide +kernel
theorem dX9_keeps_19 : decode cX9_keeps 19 = .ok (.getfield 119, 3) := by decide +kernel
theorem dX9_keeps_22 : decode cX9_keeps 22 = .ok (.iload_n 1, 1) := by decide +kernel
theorem dX9_keeps_23 : decode cX9_keeps 23 = .ok (.aload_n 0, 1) := by decide +kernel
theorem dX9_keeps_24 : decode cX9_keeps 24 = .ok (.getfield 119, 3) := by decide +kernel
theorem dX9_keeps_27 : decode cX9_keeps 27 = .ok (.iload_n 1, 1) := by decide +kernel
theorem dX9_keeps_28 : decode cX9_keeps 28 = .ok (.bipush 60, 2) := by decide +kernel
theorem dX9_keeps_30 : decode cX9_keeps 30 = .ok (.iadd, 1) := by decide +kernel
theorem dX9_keeps_31 : decode cX9_keeps 31 = .ok (.iaload, 1) := by decide +kernel
theorem dX9_keeps_32 : decode cX9_keeps 32 = .ok (.iastore, 1) := by decide +kernel
theorem dX9_keeps_33 : decode cX9_keeps 33 = .ok (.iinc 1 1, 3) := by decide +kernel
theorem dX9_keeps_36 : decode cX9_keeps 36 = .ok (.goto (-25), 3) := by decide +kernel
theorem dX9_keeps_39 : decode cX9_keeps 39 = .ok (.aload_n 0, 1) := by decide +kernel
theorem dX9_keeps_40 : decode cX9_keeps 40 = .ok (.dup, 1) := by decide +kernel
theorem dX9_keeps_41 : decode cX9_keeps 41 = .ok (.getfield 251, 3) := by decide +kernel
theorem dX9_keeps_44 : decode cX9_keeps 44 = .ok (.iconst 1, 1) := by decide +kernel
theorem dX9_keeps_45 : decode cX9_keeps 45 = .ok (.isub, 1) := by decide +kernel
theorem dX9_keeps_46 : decode cX9_keeps 46 = .ok (.putfield 251, 3) := by decide +kernel
theorem dX9_keeps_49 : decode cX9_keeps 49 = .ok (.iconst 0, 1) := by decide +kernel
theorem dX9_keeps_50 : decode cX9_keeps 50 = .ok (.istore_n 1, 1) := by decide +kernel
theorem dX9_keeps_51 : decode cX9_keeps 51 = .ok (.iload_n 1, 1) := by decide +kernel
theorem dX9_keeps_52 : decode cX9_keeps 52 = .ok (.bipush 60, 2) := by decide +kernel
theorem dX9_keeps_54 : decode cX9_keeps 54 = .ok (.if_icmp .ge 29, 3) := by decide +kernel
theorem dX9_keeps_57 : decode cX9_keeps 57 = .ok (.aload_n 0, 1) := by decide +kernel
theorem dX9_keeps_58 : decode cX9_keeps 58 = .ok (.getfield 119, 3) := by decide +kernel
theorem dX9_keeps_61 : decode cX9_keeps 61 = .ok (.bipush 60, 2) := by decide +kernel
theorem dX9_keeps_63 : decode cX9_keeps 63 = .ok (.aload_n 0, 1) := by decide +kernel
theorem dX9_keeps_64 : decode cX9_keeps 64 = .ok (.getfield 251, 3) := by decide +kernel
theorem dX9_keeps_67 : decode cX9_keeps 67 = .ok (.imul, 1) := by decide +kernel
theorem dX9_keeps_68 : decode cX9_keeps 68 = .ok (.iload_n 1, 1) := by decide +kernel
theorem dX9_keeps_69 : decode cX9_keeps 69 = .ok (.iadd, 1) := by decide +kernel
theorem dX9_keeps_70 : decode cX9_keeps 70 = .ok (.aload_n 0, 1) := by decide +kernel
theorem dX9_keeps_71 : decode cX9_keeps 71 = .ok (.getfield 110, 3) := by decide +kernel
theorem dX9_keeps_74 : decode cX9_keeps 74 = .ok (.iload_n 1, 1) := by decide +kernel
theorem dX9_keeps_75 : decode cX9_keeps 75 = .ok (.iaload, 1) := by decide +kernel
theorem dX9_keeps_76 : decode cX9_keeps 76 = .ok (.iastore, 1) := by decide +kernel
theorem dX9_keeps_77 : decode cX9_keeps 77 = .ok (.iinc 1 1, 3) := by decide +kernel
theorem dX9_keeps_80 : decode cX9_keeps 80 = .ok (.goto (-29), 3) := by decide +kernel
theorem dX9_keeps_83 : decode cX9_keeps 83 = .ok (.aload_n 0, 1) := by decide +kernel
theorem dX9_keeps_84 : decode cX9_keeps 84 = .ok (.dup, 1) := by decide +kernel
theorem dX9_keeps_85 : decode cX9_keeps 85 = .ok (.getfield 251, 3) := by decide +kernel
theorem dX9_keeps_88 : decode cX9_keeps 88 = .ok (.iconst 1, 1) := by decide +kernel
theorem dX9_keeps_89 : decode cX9_keeps 89 = .ok (.iadd, 1) := by decide +kernel
theorem dX9_keeps_90 : decode cX9_keeps 90 = .ok (.putfield 251, 3) := by decide +kernel
theorem dX9_keeps_93 : decode cX9_keeps 93 = .ok (.aload_n 0, 1) := by decide +kernel
theorem dX9_keeps_94 : decode cX9_keeps 94 = .ok (.invokevirtual 163, 3) := by decide +kernel
theorem dX9_keeps_97 : decode cX9_keeps 97 = .ok (.return_, 1) := by decide +kernel
theorem dX9_minutes_0 : decode cX9_minutes 0 = .ok (.iload_n 1, 1) := by decide +kernel
theorem dX9_minutes_1 : decode cX9_minutes 1 = .ok (.iconst 0, 1) := by decide +kernel
theorem dX9_minutes_2 : decode cX9_minutes 2 = .ok (.sipush 240, 3) := by decide +kernel
theorem dX9_minutes_5 : decode cX9_minutes 5 = .ok (.invokestatic 342, 3) := by decide +kernel
theorem dX9_minutes_8 : decode cX9_minutes 8 = .ok (.ifCond .ne 5, 3) := by decide +kernel
theorem dX9_minutes_11 : decode cX9_minutes 11 = .ok (.iconst (-1), 1) := by decide +kernel
theorem dX9_minutes_12 : decode cX9_minutes 12 = .ok (.ireturn, 1) := by decide +kernel
theorem dX9_minutes_13 : decode cX9_minutes 13 = .ok (.iload_n 1, 1) := by decide +kernel
theorem dX9_minutes_14 : decode cX9_minutes 14 = .ok (.ifCond .ne 11, 3) := by decide +kernel
theorem dX9_minutes_17 : decode cX9_minutes 17 = .ok (.aload_n 0, 1) := by decide +kernel
theorem dX9_minutes_18 : decode cX9_minutes 18 = .ok (.getfield 110, 3) := by decide +kernel
theorem dX9_minutes_21 : decode cX9_minutes 21 = .ok (.bipush 12, 2) := by decide +kernel
theorem dX9_minutes_23 : decode cX9_minutes 23 = .ok (.iaload, 1) := by decide +kernel
theorem dX9_minutes_24 : decode cX9_minutes 24 = .ok (.ireturn, 1) := by decide +kernel
theorem dX9_minutes_25 : decode cX9_minutes 25 = .ok (.aload_n 0, 1) := by decide +kernel
theorem dX9_minutes_26 : decode cX9_minutes 26 = .ok (.invokevirtual 352, 3) := by decide +kernel
theorem dX9_minutes_29 : decode cX9_minutes 29 = .ok (.aload_n 0, 1) := by decide +kernel
theorem dX9_minutes_30 : decode cX9_minutes 30 = .ok (.iload_n 1, 1) := by decide +kernel
theorem dX9_minutes_31 : decode cX9_minutes 31 = .ok (.invokevirtual 346, 3) := by decide +kernel
theorem dX9_minutes_34 : decode cX9_minutes 34 = .ok (.aload_n 0, 1) := by decide +kernel
theorem dX9_minutes_35 : decode cX9_minutes 35 = .ok (.invokevirtual 355, 3) := by decide +kernel
theorem dX9_minutes_38 : decode cX9_minutes 38 = .ok (.aload_n 0, 1) := by decide +kernel
theorem dX9_minutes_39 : decode cX9_minutes 39 = .ok (.getfield 110, 3) := by decide +kernel
theorem dX9_minutes_42 : decode cX9_minutes 42 = .ok (.bipush 12, 2) := by decide +kernel
theorem dX9_minutes_44 : decode cX9_minutes 44 = .ok (.iaload, 1) := by decide +kernel
theorem dX9_minutes_45 : decode cX9_minutes 45 = .ok (.ireturn, 1) := by decide +kernel
theorem dX9_hand_0 : decode cX9_hand 0 = .ok (.aload_n 0, 1) := by decide +kernel
theorem dX9_hand_1 : decode cX9_hand 1 = .ok (.iload_n 1, 1) := by decide +kernel
theorem dX9_hand_2 : decode cX9_hand 2 = .ok (.invokevirtual 349, 3) := by decide +kernel
theorem dX9_hand_5 : decode cX9_hand 5 = .ok (.ifCond .eq 20, 3) := by decide +kernel
theorem dX9_hand_8 : decode cX9_hand 8 = .ok (.aload_n 0, 1) := by decide +kernel
theorem dX9_hand_9 : decode cX9_hand 9 = .ok (.invokevirtual 358, 3) := by decide +kernel
theorem dX9_hand_12 : decode cX9_hand 12 = .ok (.ifCond .eq 13, 3) := by decide +kernel
theorem dX9_hand_15 : decode cX9_hand 15 = .ok (.iload_n 1, 1) := by decide +kernel
theorem dX9_hand_16 : decode cX9_hand 16 = .ok (.aload_n 0, 1) := by decide +kernel
theorem dX9_hand_17 : decode cX9_hand 17 = .ok (.getfield 110, 3) := by decide +kernel
theorem dX9_hand_20 : decode cX9_hand 20 = .ok (.iconst 4, 1) := by decide +kernel
theorem dX9_hand_21 : decode cX9_hand 21 = .ok (.iaload, 1) := by decide +kernel
theorem dX9_hand_22 : decode cX9_hand 22 = .ok (.if_icmp .ne 5, 3) := by decide +kernel
theorem dX9_hand_25 : decode cX9_hand 25 = .ok (.iconst 0, 1) := by decide +kernel
theorem dX9_hand_26 : decode cX9_hand 26 = .ok (.ireturn, 1) := by decide +kernel
theorem dX9_hand_27 : decode cX9_hand 27 = .ok (.aload_n 0, 1) := by decide +kernel
theorem dX9_hand_28 : decode cX9_hand 28 = .ok (.invokevirtual 352, 3) := by decide +kernel
theorem dX9_hand_31 : decode cX9_hand 31 = .ok (.aload_n 0, 1) := by decide +kernel
theorem dX9_hand_32 : decode cX9_hand 32 = .ok (.iload_n 1, 1) := by decide +kernel
theorem dX9_hand_33 : decode cX9_hand 33 = .ok (.invokevirtual 362, 3) := by decide +kernel
theorem dX9_hand_36 : decode cX9_hand 36 = .ok (.aload_n 0, 1) := by decide +kernel
theorem dX9_hand_37 : decode cX9_hand 37 = .ok (.invokevirtual 355, 3) := by decide +kernel
theorem dX9_hand_40 : decode cX9_hand 40 = .ok (.iconst 1, 1) := by decide +kernel
theorem dX9_hand_41 : decode cX9_hand 41 = .ok (.ireturn, 1) := by decide +kernel
theorem dX9_feedsNow_0 : decode cX9_feedsNow 0 = .ok (.aload_n 0, 1) := by decide +kernel
theorem dX9_feedsNow_1 : decode cX9_feedsNow 1 = .ok (.getfield 113, 3) := by decide +kernel
theorem dX9_feedsNow_4 : decode cX9_feedsNow 4 = .ok (.iconst 0, 1) := by decide +kernel
theorem dX9_feedsNow_5 : decode cX9_feedsNow 5 = .ok (.iconst 0, 1) := by decide +kernel
theorem dX9_feedsNow_6 : decode cX9_feedsNow 6 = .ok (.iastore, 1) := by decide +kernel
theorem dX9_feedsNow_7 : decode cX9_feedsNow 7 = .ok (.aload_n 0, 1) := by decide +kernel
theorem dX9_feedsNow_8 : decode cX9_feedsNow 8 = .ok (.getfield 113, 3) := by decide +kernel
theorem dX9_feedsNow_11 : decode cX9_feedsNow 11 = .ok (.iconst 3, 1) := by decide +kernel
theorem dX9_feedsNow_12 : decode cX9_feedsNow 12 = .ok (.aload_n 0, 1) := by decide +kernel
theorem dX9_feedsNow_13 : decode cX9_feedsNow 13 = .ok (.getfield 113, 3) := by decide +kernel
theorem dX9_feedsNow_16 : decode cX9_feedsNow 16 = .ok (.iconst 3, 1) := by decide +kernel
theorem dX9_feedsNow_17 : decode cX9_feedsNow 17 = .ok (.iaload, 1) := by decide +kernel
theorem dX9_feedsNow_18 : decode cX9_feedsNow 18 = .ok (.aload_n 0, 1) := by decide +kernel
theorem dX9_feedsNow_19 : decode cX9_feedsNow 19 = .ok (.getfield 68, 3) := by decide +kernel
theorem dX9_feedsNow_22 : decode cX9_feedsNow 22 = .ok (.aload_n 0, 1) := by decide +kernel
theorem dX9_feedsNow_23 : decode cX9_feedsNow 23 = .ok (.getfield 233, 3) := by decide +kernel
theorem dX9_feedsNow_26 : decode cX9_feedsNow 26 = .ok (.iaload, 1) := by decide +kernel
theorem dX9_feedsNow_27 : decode cX9_feedsNow 27 = .ok (.iadd, 1) := by decide +kernel
theorem dX9_feedsNow_28 : decode cX9_feedsNow 28 = .ok (.iconst 0, 1) := by decide +kernel
theorem dX9_feedsNow_29 : decode cX9_feedsNow 29 = .ok (.bipush 99, 2) := by decide +kernel
theorem dX9_feedsNow_31 : decode cX9_feedsNow 31 = .ok (.invokestatic 316, 3) := by decide +kernel
theorem dX9_feedsNow_34 : decode cX9_feedsNow 34 = .ok (.iastore, 1) := by decide +kernel
theorem dX9_feedsNow_35 : decode cX9_feedsNow 35 = .ok (.return_, 1) := by decide +kernel
theorem dX9_nurse_0 : decode cX9_nurse 0 = .ok (.aload_n 0, 1) := by decide +kernel
theorem dX9_nurse_1 : decode cX9_nurse 1 = .ok (.invokevirtual 358, 3) := by decide +kernel
theorem dX9_nurse_4 : decode cX9_nurse 4 = .ok (.ifCond .ne 5, 3) := by decide +kernel
theorem dX9_nurse_7 : decode cX9_nurse 7 = .ok (.iconst 0, 1) := by decide +kernel
theorem dX9_nurse_8 : decode cX9_nurse 8 = .ok (.ireturn, 1) := by decide +kernel
theorem dX9_nurse_9 : decode cX9_nurse 9 = .ok (.aload_n 0, 1) := by decide +kernel
theorem dX9_nurse_10 : decode cX9_nurse 10 = .ok (.invokevirtual 352, 3) := by decide +kernel
theorem dX9_nurse_13 : decode cX9_nurse 13 = .ok (.aload_n 0, 1) := by decide +kernel
theorem dX9_nurse_14 : decode cX9_nurse 14 = .ok (.invokevirtual 365, 3) := by decide +kernel
theorem dX9_nurse_17 : decode cX9_nurse 17 = .ok (.aload_n 0, 1) := by decide +kernel
theorem dX9_nurse_18 : decode cX9_nurse 18 = .ok (.invokevirtual 355, 3) := by decide +kernel
theorem dX9_nurse_21 : decode cX9_nurse 21 = .ok (.iconst 1, 1) := by decide +kernel
theorem dX9_nurse_22 : decode cX9_nurse 22 = .ok (.ireturn, 1) := by decide +kernel
theorem dX9_lay_0 : decode cX9_lay 0 = .ok (.aload_n 0, 1) := by decide +kernel
theorem dX9_lay_1 : decode cX9_lay 1 = .ok (.invokevirtual 358, 3) := by decide +kernel
theorem dX9_lay_4 : decode cX9_lay 4 = .ok (.ifCond .ne 5, 3) := by decide +kernel
theorem dX9_lay_7 : decode cX9_lay 7 = .ok (.iconst 0, 1) := by decide +kernel
theorem dX9_lay_8 : decode cX9_lay 8 = .ok (.ireturn, 1) := by decide +kernel
theorem dX9_lay_9 : decode cX9_lay 9 = .ok (.aload_n 0, 1) := by decide +kernel
theorem dX9_lay_10 : decode cX9_lay 10 = .ok (.invokevirtual 352, 3) := by decide +kernel
theorem dX9_lay_13 : decode cX9_lay 13 = .ok (.aload_n 0, 1) := by decide +kernel
theorem dX9_lay_14 : decode cX9_lay 14 = .ok (.invokevirtual 330, 3) := by decide +kernel
theorem dX9_lay_17 : decode cX9_lay 17 = .ok (.aload_n 0, 1) := by decide +kernel
theorem dX9_lay_18 : decode cX9_lay 18 = .ok (.invokevirtual 355, 3) := by decide +kernel
theorem dX9_lay_21 : decode cX9_lay 21 = .ok (.iconst 1, 1) := by decide +kernel
theorem dX9_lay_22 : decode cX9_lay 22 = .ok (.ireturn, 1) := by decide +kernel
theorem dX9_turns_0 : decode cX9_turns 0 = .ok (.aload_n 0, 1) := by decide +kernel
theorem dX9_turns_1 : decode cX9_turns 1 = .ok (.invokevirtual 352, 3) := by decide +kernel
theorem dX9_turns_4 : decode cX9_turns 4 = .ok (.aload_n 0, 1) := by decide +kernel
theorem dX9_turns_5 : decode cX9_turns 5 = .ok (.getfield 113, 3) := by decide +kernel
theorem dX9_turns_8 : decode cX9_turns 8 = .ok (.iload_n 1, 1) := by decide +kernel
theorem dX9_turns_9 : decode cX9_turns 9 = .ok (.iaload, 1) := by decide +kernel
theorem dX9_turns_10 : decode cX9_turns 10 = .ok (.iconst 1, 1) := by decide +kernel
theorem dX9_turns_11 : decode cX9_turns 11 = .ok (.if_icmp .ne 7, 3) := by decide +kernel
theorem dX9_turns_14 : decode cX9_turns 14 = .ok (.iconst 1, 1) := by decide +kernel
theorem dX9_turns_15 : decode cX9_turns 15 = .ok (.goto 4, 3) := by decide +kernel
theorem dX9_turns_18 : decode cX9_turns 18 = .ok (.iconst 0, 1) := by decide +kernel
theorem dX9_turns_19 : decode cX9_turns 19 = .ok (.istore_n 3, 1) := by decide +kernel
theorem dX9_turns_20 : decode cX9_turns 20 = .ok (.aload_n 0, 1) := by decide +kernel
theorem dX9_turns_21 : decode cX9_turns 21 = .ok (.getfield 113, 3) := by decide +kernel
theorem dX9_turns_24 : decode cX9_turns 24 = .ok (.iload_n 1, 1) := by decide +kernel
theorem dX9_turns_25 : decode cX9_turns 25 = .ok (.iload_n 2, 1) := by decide +kernel
theorem dX9_turns_26 : decode cX9_turns 26 = .ok (.ifCond .eq 7, 3) := by decide +kernel
theorem dX9_turns_29 : decode cX9_turns 29 = .ok (.iconst 1, 1) := by decide +kernel
theorem dX9_turns_30 : decode cX9_turns 30 = .ok (.goto 4, 3) := by decide +kernel
theorem dX9_turns_33 : decode cX9_turns 33 = .ok (.iconst 0, 1) := by decide +kernel
theorem dX9_turns_34 : decode cX9_turns 34 = .ok (.iastore, 1) := by decide +kernel
theorem dX9_turns_35 : decode cX9_turns 35 = .ok (.aload_n 0, 1) := by decide +kernel
theorem dX9_turns_36 : decode cX9_turns 36 = .ok (.invokevirtual 355, 3) := by decide +kernel
theorem dX9_turns_39 : decode cX9_turns 39 = .ok (.iload_n 3, 1) := by decide +kernel
theorem dX9_turns_40 : decode cX9_turns 40 = .ok (.ireturn, 1) := by decide +kernel
theorem dX9_cloth_0 : decode cX9_cloth 0 = .ok (.aload_n 0, 1) := by decide +kernel
theorem dX9_cloth_1 : decode cX9_cloth 1 = .ok (.bipush 8, 2) := by decide +kernel
theorem dX9_cloth_3 : decode cX9_cloth 3 = .ok (.iload_n 1, 1) := by decide +kernel
theorem dX9_cloth_4 : decode cX9_cloth 4 = .ok (.invokevirtual 368, 3) := by decide +kernel
theorem dX9_cloth_7 : decode cX9_cloth 7 = .ok (.ireturn, 1) := by decide +kernel
theorem dX9_mother_0 : decode cX9_mother 0 = .ok (.aload_n 0, 1) := by decide +kernel
theorem dX9_mother_1 : decode cX9_mother 1 = .ok (.bipush 9, 2) := by decide +kernel
theorem dX9_mother_3 : decode cX9_mother 3 = .ok (.iload_n 1, 1) := by decide +kernel
theorem dX9_mother_4 : decode cX9_mother 4 = .ok (.invokevirtual 368, 3) := by decide +kernel
theorem dX9_mother_7 : decode cX9_mother 7 = .ok (.ireturn, 1) := by decide +kernel
theorem dX9_undo_0 : decode cX9_undo 0 = .ok (.aload_n 0, 1) := by decide +kernel
theorem dX9_undo_1 : decode cX9_undo 1 = .ok (.getfield 251, 3) := by decide +kernel
theorem dX9_undo_4 : decode cX9_undo 4 = .ok (.ifCond .ne 5, 3) := by decide +kernel
theorem dX9_undo_7 : decode cX9_undo 7 = .ok (.iconst 0, 1) := by decide +kernel
theorem dX9_undo_8 : decode cX9_undo 8 = .ok (.ireturn, 1) := by decide +kernel
theorem dX9_undo_9 : decode cX9_undo 9 = .ok (.aload_n 0, 1) := by decide +kernel
theorem dX9_undo_10 : decode cX9_undo 10 = .ok (.dup, 1) := by decide +kernel
theorem dX9_undo_11 : decode cX9_undo 11 = .ok (.getfield 251, 3) := by decide +kernel
theorem dX9_undo_14 : decode cX9_undo 14 = .ok (.iconst 1, 1) := by decide +kernel
theorem dX9_undo_15 : decode cX9_undo 15 = .ok (.isub, 1) := by decide +kernel
theorem dX9_undo_16 : decode cX9_undo 16 = .ok (.putfield 251, 3) := by decide +kernel
theorem dX9_undo_19 : decode cX9_undo 19 = .ok (.iconst 0, 1) := by decide +kernel
theorem dX9_undo_20 : decode cX9_undo 20 = .ok (.istore_n 1, 1) := by decide +kernel
theorem dX9_undo_21 : decode cX9_undo 21 = .ok (.iload_n 1, 1) := by decide +kernel
theorem dX9_undo_22 : decode cX9_undo 22 = .ok (.bipush 60, 2) := by decide +kernel
theorem dX9_undo_24 : decode cX9_undo 24 = .ok (.if_icmp .ge 29, 3) := by decide +kernel
theorem dX9_undo_27 : decode cX9_undo 27 = .ok (.aload_n 0, 1) := by decide +kernel
theorem dX9_undo_28 : decode cX9_undo 28 = .ok (.getfield 110, 3) := by decide +kernel
theorem dX9_undo_31 : decode cX9_undo 31 = .ok (.iload_n 1, 1) := by decide +kernel
theorem dX9_undo_32 : decode cX9_undo 32 = .ok (.aload_n 0, 1) := by decide +kernel
theorem dX9_undo_33 : decode cX9_undo 33 = .ok (.getfield 119, 3) := by decide +kernel
theorem dX9_undo_36 : decode cX9_undo 36 = .ok (.bipush 60, 2) := by decide +kernel
theorem dX9_undo_38 : decode cX9_undo 38 = .ok (.aload_n 0, 1) := by decide +kernel
theorem dX9_undo_39 : decode cX9_undo 39 = .ok (.getfield 251, 3) := by decide +kernel
theorem dX9_undo_42 : decode cX9_undo 42 = .ok (.imul, 1) := by decide +kernel
theorem dX9_undo_43 : decode cX9_undo 43 = .ok (.iload_n 1, 1) := by decide +kernel
theorem dX9_undo_44 : decode cX9_undo 44 = .ok (.iadd, 1) := by decide +kernel
theorem dX9_undo_45 : decode cX9_undo 45 = .ok (.iaload, 1) := by decide +kernel
theorem dX9_undo_46 : decode cX9_undo 46 = .ok (.iastore, 1) := by decide +kernel
theorem dX9_undo_47 : decode cX9_undo 47 = .ok (.iinc 1 1, 3) := by decide +kernel
theorem dX9_undo_50 : decode cX9_undo 50 = .ok (.goto (-29), 3) := by decide +kernel
theorem dX9_undo_53 : decode cX9_undo 53 = .ok (.iconst 1, 1) := by decide +kernel
theorem dX9_undo_54 : decode cX9_undo 54 = .ok (.ireturn, 1) := by decide +kernel
theorem dX9_crying_0 : decode cX9_crying 0 = .ok (.iload_n 1, 1) := by decide +kernel
theorem dX9_crying_1 : decode cX9_crying 1 = .ok (.iconst 0, 1) := by decide +kernel
theorem dX9_crying_2 : decode cX9_crying 2 = .ok (.sipush 240, 3) := by decide +kernel
theorem dX9_crying_5 : decode cX9_crying 5 = .ok (.invokestatic 342, 3) := by decide +kernel
theorem dX9_crying_8 : decode cX9_crying 8 = .ok (.ifCond .ne 5, 3) := by decide +kernel
theorem dX9_crying_11 : decode cX9_crying 11 = .ok (.iconst (-1), 1) := by decide +kernel
theorem dX9_crying_12 : decode cX9_crying 12 = .ok (.ireturn, 1) := by decide +kernel
theorem dX9_crying_13 : decode cX9_crying 13 = .ok (.aload_n 0, 1) := by decide +kernel
theorem dX9_crying_14 : decode cX9_crying 14 = .ok (.invokevirtual 352, 3) := by decide +kernel
theorem dX9_crying_17 : decode cX9_crying 17 = .ok (.aload_n 0, 1) := by decide +kernel
theorem dX9_crying_18 : decode cX9_crying 18 = .ok (.iload_n 1, 1) := by decide +kernel
theorem dX9_crying_19 : decode cX9_crying 19 = .ok (.invokevirtual 372, 3) := by decide +kernel
theorem dX9_crying_22 : decode cX9_crying 22 = .ok (.ireturn, 1) := by decide +kernel
theorem dX9_next_0 : decode cX9_next 0 = .ok (.iload_n 1, 1) := by decide +kernel
theorem dX9_next_1 : decode cX9_next 1 = .ok (.iconst 1, 1) := by decide +kernel
theorem dX9_next_2 : decode cX9_next 2 = .ok (.bipush 120, 2) := by decide +kernel
theorem dX9_next_4 : decode cX9_next 4 = .ok (.invokestatic 342, 3) := by decide +kernel
theorem dX9_next_7 : decode cX9_next 7 = .ok (.ifCond .eq 12, 3) := by decide +kernel
theorem dX9_next_10 : decode cX9_next 10 = .ok (.iload_n 2, 1) := by decide +kernel
theorem dX9_next_11 : decode cX9_next 11 = .ok (.iconst 0, 1) := by decide +kernel
theorem dX9_next_12 : decode cX9_next 12 = .ok (.iconst 1, 1) := by decide +kernel
theorem dX9_next_13 : decode cX9_next 13 = .ok (.invokestatic 342, 3) := by decide +kernel
theorem dX9_next_16 : decode cX9_next 16 = .ok (.ifCond .ne 5, 3) := by decide +kernel
theorem dX9_next_19 : decode cX9_next 19 = .ok (.iconst (-1), 1) := by decide +kernel
theorem dX9_next_20 : decode cX9_next 20 = .ok (.ireturn, 1) := by decide +kernel
theorem dX9_next_21 : decode cX9_next 21 = .ok (.bipush (-2), 2) := by decide +kernel
theorem dX9_next_23 : decode cX9_next 23 = .ok (.istore_n 3, 1) := by decide +kernel
theorem dX9_next_24 : decode cX9_next 24 = .ok (.bipush (-2), 2) := by decide +kernel
theorem dX9_next_26 : decode cX9_next 26 = .ok (.istore 4, 2) := by decide +kernel
theorem dX9_next_28 : decode cX9_next 28 = .ok (.iconst 0, 1) := by decide +kernel
theorem dX9_next_29 : decode cX9_next 29 = .ok (.istore 5, 2) := by decide +kernel
theorem dX9_next_31 : decode cX9_next 31 = .ok (.iload 5, 2) := by decide +kernel
theorem dX9_next_33 : decode cX9_next 33 = .ok (.aload_n 0, 1) := by decide +kernel
theorem dX9_next_34 : decode cX9_next 34 = .ok (.getfield 46, 3) := by decide +kernel
theorem dX9_next_37 : decode cX9_next 37 = .ok (.aload_n 0, 1) := by decide +kernel
theorem dX9_next_38 : decode cX9_next 38 = .ok (.getfield 233, 3) := by decide +kernel
theorem dX9_next_41 : decode cX9_next 41 = .ok (.iaload, 1) := by decide +kernel
theorem dX9_next_42 : decode cX9_next 42 = .ok (.if_icmp .ge 68, 3) := by decide +kernel
theorem dX9_next_45 : decode cX9_next 45 = .ok (.aload_n 0, 1) := by decide +kernel
theorem dX9_next_46 : decode cX9_next 46 = .ok (.invokevirtual 358, 3) := by decide +kernel
theorem dX9_next_49 : decode cX9_next 49 = .ok (.ifCond .eq 61, 3) := by decide +kernel
theorem dX9_next_52 : decode cX9_next 52 = .ok (.iload 5, 2) := by decide +kernel
theorem dX9_next_54 : decode cX9_next 54 = .ok (.aload_n 0, 1) := by decide +kernel
theorem dX9_next_55 : decode cX9_next 55 = .ok (.getfield 110, 3) := by decide +kernel
theorem dX9_next_58 : decode cX9_next 58 = .ok (.iconst 4, 1) := by decide +kernel
theorem dX9_next_59 : decode cX9_next 59 = .ok (.iaload, 1) := by decide +kernel
theorem dX9_next_60 : decode cX9_next 60 = .ok (.if_icmp .ne 6, 3) := by decide +kernel
theorem dX9_next_63 : decode cX9_next 63 = .ok (.goto 41, 3) := by decide +kernel
theorem dX9_next_66 : decode cX9_next 66 = .ok (.aload_n 0, 1) := by decide +kernel
theorem dX9_next_67 : decode cX9_next 67 = .ok (.invokevirtual 352, 3) := by decide +kernel
theorem dX9_next_70 : decode cX9_next 70 = .ok (.aload_n 0, 1) := by decide +kernel
theorem dX9_next_71 : decode cX9_next 71 = .ok (.iload 5, 2) := by decide +kernel
theorem dX9_next_73 : decode cX9_next 73 = .ok (.invokevirtual 362, 3) := by decide +kernel
theorem dX9_next_76 : decode cX9_next 76 = .ok (.aload_n 0, 1) := by decide +kernel
theorem dX9_next_77 : decode cX9_next 77 = .ok (.iload_n 1, 1) := by decide +kernel
theorem dX9_next_78 : decode cX9_next 78 = .ok (.invokevirtual 372, 3) := by decide +kernel
theorem dX9_next_81 : decode cX9_next 81 = .ok (.istore 6, 2) := by decide +kernel
theorem dX9_next_83 : decode cX9_next 83 = .ok (.iload_n 3, 1) := by decide +kernel
theorem dX9_next_84 : decode cX9_next 84 = .ok (.ifCond .lt 13, 3) := by decide +kernel
theorem dX9_next_87 : decode cX9_next 87 = .ok (.iload 6, 2) := by decide +kernel
theorem dX9_next_89 : decode cX9_next 89 = .ok (.iload 4, 2) := by decide +kernel
theorem dX9_next_91 : decode cX9_next 91 = .ok (.if_icmp .lt 6, 3) := by decide +kernel
theorem dX9_next_94 : decode cX9_next 94 = .ok (.goto 10, 3) := by decide +kernel
theorem dX9_next_97 : decode cX9_next 97 = .ok (.iload 5, 2) := by decide +kernel
theorem dX9_next_99 : decode cX9_next 99 = .ok (.istore_n 3, 1) := by decide +kernel
theorem dX9_next_100 : decode cX9_next 100 = .ok (.iload 6, 2) := by decide +kernel
theorem dX9_next_102 : decode cX9_next 102 = .ok (.istore 4, 2) := by decide +kernel
theorem dX9_next_104 : decode cX9_next 104 = .ok (.iinc 5 1, 3) := by decide +kernel
theorem dX9_next_107 : decode cX9_next 107 = .ok (.goto (-76), 3) := by decide +kernel
theorem dX9_next_110 : decode cX9_next 110 = .ok (.iload_n 2, 1) := by decide +kernel
theorem dX9_next_111 : decode cX9_next 111 = .ok (.ifCond .ne 7, 3) := by decide +kernel
theorem dX9_next_114 : decode cX9_next 114 = .ok (.iload_n 3, 1) := by decide +kernel
theorem dX9_next_115 : decode cX9_next 115 = .ok (.goto 5, 3) := by decide +kernel
theorem dX9_next_118 : decode cX9_next 118 = .ok (.iload 4, 2) := by decide +kernel
theorem dX9_next_120 : decode cX9_next 120 = .ok (.ireturn, 1) := by decide +kernel
theorem dX9_gives_0 : decode cX9_gives 0 = .ok (.aload_n 0, 1) := by decide +kernel
theorem dX9_gives_1 : decode cX9_gives 1 = .ok (.getfield 113, 3) := by decide +kernel
theorem dX9_gives_4 : decode cX9_gives 4 = .ok (.iconst 4, 1) := by decide +kernel
theorem dX9_gives_5 : decode cX9_gives 5 = .ok (.iaload, 1) := by decide +kernel
theorem dX9_gives_6 : decode cX9_gives 6 = .ok (.iload_n 1, 1) := by decide +kernel
theorem dX9_gives_7 : decode cX9_gives 7 = .ok (.if_icmp .eq 8, 3) := by decide +kernel
theorem dX9_gives_10 : decode cX9_gives 10 = .ok (.aload_n 0, 1) := by decide +kernel
theorem dX9_gives_11 : decode cX9_gives 11 = .ok (.iload_n 1, 1) := by decide +kernel
theorem dX9_gives_12 : decode cX9_gives 12 = .ok (.invokevirtual 362, 3) := by decide +kernel
theorem dX9_gives_15 : decode cX9_gives 15 = .ok (.aload_n 0, 1) := by decide +kernel
theorem dX9_gives_16 : decode cX9_gives 16 = .ok (.getfield 113, 3) := by decide +kernel
theorem dX9_gives_19 : decode cX9_gives 19 = .ok (.bipush 26, 2) := by decide +kernel
theorem dX9_gives_21 : decode cX9_gives 21 = .ok (.iload_n 1, 1) := by decide +kernel
theorem dX9_gives_22 : decode cX9_gives 22 = .ok (.iadd, 1) := by decide +kernel
theorem dX9_gives_23 : decode cX9_gives 23 = .ok (.iaload, 1) := by decide +kernel
theorem dX9_gives_24 : decode cX9_gives 24 = .ok (.istore_n 3, 1) := by decide +kernel
theorem dX9_gives_25 : decode cX9_gives 25 = .ok (.aload_n 0, 1) := by decide +kernel
theorem dX9_gives_26 : decode cX9_gives 26 = .ok (.getfield 113, 3) := by decide +kernel
theorem dX9_gives_29 : decode cX9_gives 29 = .ok (.bipush 32, 2) := by decide +kernel
theorem dX9_gives_31 : decode cX9_gives 31 = .ok (.iload_n 1, 1) := by decide +kernel
theorem dX9_gives_32 : decode cX9_gives 32 = .ok (.iadd, 1) := by decide +kernel
theorem dX9_gives_33 : decode cX9_gives 33 = .ok (.iaload, 1) := by decide +kernel
theorem dX9_gives_34 : decode cX9_gives 34 = .ok (.istore 4, 2) := by decide +kernel
theorem dX9_gives_36 : decode cX9_gives 36 = .ok (.iload_n 2, 1) := by decide +kernel
theorem dX9_gives_37 : decode cX9_gives 37 = .ok (.istore 5, 2) := by decide +kernel
theorem dX9_gives_39 : decode cX9_gives 39 = .ok (.iload 5, 2) := by decide +kernel
theorem dX9_gives_41 : decode cX9_gives 41 = .ok (.ifCond .gt 13, 3) := by decide +kernel
theorem dX9_gives_44 : decode cX9_gives 44 = .ok (.aload_n 0, 1) := by decide +kernel
theorem dX9_gives_45 : decode cX9_gives 45 = .ok (.getfield 113, 3) := by decide +kernel
theorem dX9_gives_48 : decode cX9_gives 48 = .ok (.bipush 7, 2) := by decide +kernel
theorem dX9_gives_50 : decode cX9_gives 50 = .ok (.iaload, 1) := by decide +kernel
theorem dX9_gives_51 : decode cX9_gives 51 = .ok (.ifCond .le 45, 3) := by decide +kernel
theorem dX9_gives_54 : decode cX9_gives 54 = .ok (.aload_n 0, 1) := by decide +kernel
theorem dX9_gives_55 : decode cX9_gives 55 = .ok (.getfield 113, 3) := by decide +kernel
theorem dX9_gives_58 : decode cX9_gives 58 = .ok (.bipush 7, 2) := by decide +kernel
theorem dX9_gives_60 : decode cX9_gives 60 = .ok (.iaload, 1) := by decide +kernel
theorem dX9_gives_61 : decode cX9_gives 61 = .ok (.ifCond .ne 6, 3) := by decide +kernel
theorem dX9_gives_64 : decode cX9_gives 64 = .ok (.iinc 5 (-1), 3) := by decide +kernel
theorem dX9_gives_67 : decode cX9_gives 67 = .ok (.aload_n 0, 1) := by decide +kernel
theorem dX9_gives_68 : decode cX9_gives 68 = .ok (.invokevirtual 339, 3) := by decide +kernel
theorem dX9_gives_71 : decode cX9_gives 71 = .ok (.aload_n 0, 1) := by decide +kernel
theorem dX9_gives_72 : decode cX9_gives 72 = .ok (.getfield 113, 3) := by decide +kernel
theorem dX9_gives_75 : decode cX9_gives 75 = .ok (.bipush 7, 2) := by decide +kernel
theorem dX9_gives_77 : decode cX9_gives 77 = .ok (.iaload, 1) := by decide +kernel
theorem dX9_gives_78 : decode cX9_gives 78 = .ok (.ifCond .le (-39), 3) := by decide +kernel
theorem dX9_gives_81 : decode cX9_gives 81 = .ok (.aload_n 0, 1) := by decide +kernel
theorem dX9_gives_82 : decode cX9_gives 82 = .ok (.getfield 375, 3) := by decide +kernel
theorem dX9_gives_85 : decode cX9_gives 85 = .ok (.ifCond .ge (-46), 3) := by decide +kernel
theorem dX9_gives_88 : decode cX9_gives 88 = .ok (.aload_n 0, 1) := by decide +kernel
theorem dX9_gives_89 : decode cX9_gives 89 = .ok (.iload_n 1, 1) := by decide +kernel
theorem dX9_gives_90 : decode cX9_gives 90 = .ok (.putfield 375, 3) := by decide +kernel
theorem dX9_gives_93 : decode cX9_gives 93 = .ok (.goto (-54), 3) := by decide +kernel
theorem dX9_gives_96 : decode cX9_gives 96 = .ok (.aload_n 0, 1) := by decide +kernel
theorem dX9_gives_97 : decode cX9_gives 97 = .ok (.getfield 122, 3) := by decide +kernel
theorem dX9_gives_100 : decode cX9_gives 100 = .ok (.iload_n 1, 1) := by decide +kernel
theorem dX9_gives_101 : decode cX9_gives 101 = .ok (.aload_n 0, 1) := by decide +kernel
theorem dX9_gives_102 : decode cX9_gives 102 = .ok (.getfield 113, 3) := by decide +kernel
theorem dX9_gives_105 : decode cX9_gives 105 = .ok (.bipush 26, 2) := by decide +kernel
theorem dX9_gives_107 : decode cX9_gives 107 = .ok (.iload_n 1, 1) := by decide +kernel
theorem dX9_gives_108 : decode cX9_gives 108 = .ok (.iadd, 1) := by decide +kernel
theorem dX9_gives_109 : decode cX9_gives 109 = .ok (.iaload, 1) := by decide +kernel
theorem dX9_gives_110 : decode cX9_gives 110 = .ok (.iload_n 3, 1) := by decide +kernel
theorem dX9_gives_111 : decode cX9_gives 111 = .ok (.isub, 1) := by decide +kernel
theorem dX9_gives_112 : decode cX9_gives 112 = .ok (.iastore, 1) := by decide +kernel
theorem dX9_gives_113 : decode cX9_gives 113 = .ok (.aload_n 0, 1) := by decide +kernel
theorem dX9_gives_114 : decode cX9_gives 114 = .ok (.getfield 125, 3) := by decide +kernel
theorem dX9_gives_117 : decode cX9_gives 117 = .ok (.iload_n 1, 1) := by decide +kernel
theorem dX9_gives_118 : decode cX9_gives 118 = .ok (.aload_n 0, 1) := by decide +kernel
theorem dX9_gives_119 : decode cX9_gives 119 = .ok (.getfield 113, 3) := by decide +kernel
theorem dX9_gives_122 : decode cX9_gives 122 = .ok (.bipush 32, 2) := by decide +kernel
theorem dX9_gives_124 : decode cX9_gives 124 = .ok (.iload_n 1, 1) := by decide +kernel
theorem dX9_gives_125 : decode cX9_gives 125 = .ok (.iadd, 1) := by decide +kernel
theorem dX9_gives_126 : decode cX9_gives 126 = .ok (.iaload, 1) := by decide +kernel
theorem dX9_gives_127 : decode cX9_gives 127 = .ok (.iload 4, 2) := by decide +kernel
theorem dX9_gives_129 : decode cX9_gives 129 = .ok (.isub, 1) := by decide +kernel
theorem dX9_gives_130 : decode cX9_gives 130 = .ok (.iastore, 1) := by decide +kernel
theorem dX9_gives_131 : decode cX9_gives 131 = .ok (.aload_n 0, 1) := by decide +kernel
theorem dX9_gives_132 : decode cX9_gives 132 = .ok (.dup, 1) := by decide +kernel
theorem dX9_gives_133 : decode cX9_gives 133 = .ok (.getfield 378, 3) := by decide +kernel
theorem dX9_gives_136 : decode cX9_gives 136 = .ok (.aload_n 0, 1) := by decide +kernel
theorem dX9_gives_137 : decode cX9_gives 137 = .ok (.getfield 122, 3) := by decide +kernel
theorem dX9_gives_140 : decode cX9_gives 140 = .ok (.iload_n 1, 1) := by decide +kernel
theorem dX9_gives_141 : decode cX9_gives 141 = .ok (.iaload, 1) := by decide +kernel
theorem dX9_gives_142 : decode cX9_gives 142 = .ok (.iadd, 1) := by decide +kernel
theorem dX9_gives_143 : decode cX9_gives 143 = .ok (.putfield 378, 3) := by decide +kernel
theorem dX9_gives_146 : decode cX9_gives 146 = .ok (.return_, 1) := by decide +kernel
theorem dX9_starts_0 : decode cX9_starts 0 = .ok (.aload_n 0, 1) := by decide +kernel
theorem dX9_starts_1 : decode cX9_starts 1 = .ok (.invokevirtual 352, 3) := by decide +kernel
theorem dX9_starts_4 : decode cX9_starts 4 = .ok (.aload_n 0, 1) := by decide +kernel
theorem dX9_starts_5 : decode cX9_starts 5 = .ok (.iconst 0, 1) := by decide +kernel
theorem dX9_starts_6 : decode cX9_starts 6 = .ok (.putfield 378, 3) := by decide +kernel
theorem dX9_starts_9 : decode cX9_starts 9 = .ok (.aload_n 0, 1) := by decide +kernel
theorem dX9_starts_10 : decode cX9_starts 10 = .ok (.bipush (-2), 2) := by decide +kernel
theorem dX9_starts_12 : decode cX9_starts 12 = .ok (.putfield 375, 3) := by decide +kernel
theorem dX9_starts_15 : decode cX9_starts 15 = .ok (.return_, 1) := by decide +kernel
theorem dX9_firstOrder_0 : decode cX9_firstOrder 0 = .ok (.iconst 0, 1) := by decide +kernel
theorem dX9_firstOrder_1 : decode cX9_firstOrder 1 = .ok (.istore_n 1, 1) := by decide +kernel
theorem dX9_firstOrder_2 : decode cX9_firstOrder 2 = .ok (.iload_n 1, 1) := by decide +kernel
theorem dX9_firstOrder_3 : decode cX9_firstOrder 3 = .ok (.bipush 6, 2) := by decide +kernel
theorem dX9_firstOrder_5 : decode cX9_firstOrder 5 = .ok (.if_icmp .ge 16, 3) := by decide +kernel
theorem dX9_firstOrder_8 : decode cX9_firstOrder 8 = .ok (.aload_n 0, 1) := by decide +kernel
theorem dX9_firstOrder_9 : decode cX9_firstOrder 9 = .ok (.getfield 128, 3) := by decide +kernel
theorem dX9_firstOrder_12 : decode cX9_firstOrder 12 = .ok (.iload_n 1, 1) := by decide +kernel
theorem dX9_firstOrder_13 : decode cX9_firstOrder 13 = .ok (.iload_n 1, 1) := by decide +kernel
theorem dX9_firstOrder_14 : decode cX9_firstOrder 14 = .ok (.iastore, 1) := by decide +kernel
theorem dX9_firstOrder_15 : decode cX9_firstOrder 15 = .ok (.iinc 1 1, 3) := by decide +kernel
theorem dX9_firstOrder_18 : decode cX9_firstOrder 18 = .ok (.goto (-16), 3) := by decide +kernel
theorem dX9_firstOrder_21 : decode cX9_firstOrder 21 = .ok (.return_, 1) := by decide +kernel
theorem dX9_nextOrder_0 : decode cX9_nextOrder 0 = .ok (.aload_n 0, 1) := by decide +kernel
theorem dX9_nextOrder_1 : decode cX9_nextOrder 1 = .ok (.getfield 46, 3) := by decide +kernel
theorem dX9_nextOrder_4 : decode cX9_nextOrder 4 = .ok (.aload_n 0, 1) := by decide +kernel
theorem dX9_nextOrder_5 : decode cX9_nextOrder 5 = .ok (.getfield 233, 3) := by decide +kernel
theorem dX9_nextOrder_8 : decode cX9_nextOrder 8 = .ok (.iaload, 1) := by decide +kernel
theorem dX9_nextOrder_9 : decode cX9_nextOrder 9 = .ok (.istore_n 1, 1) := by decide +kernel
theorem dX9_nextOrder_10 : decode cX9_nextOrder 10 = .ok (.iload_n 1, 1) := by decide +kernel
theorem dX9_nextOrder_11 : decode cX9_nextOrder 11 = .ok (.iconst 2, 1) := by decide +kernel
theorem dX9_nextOrder_12 : decode cX9_nextOrder 12 = .ok (.isub, 1) := by decide +kernel
theorem dX9_nextOrder_13 : decode cX9_nextOrder 13 = .ok (.istore_n 2, 1) := by decide +kernel
theorem dX9_nextOrder_14 : decode cX9_nextOrder 14 = .ok (.iload_n 2, 1) := by decide +kernel
theorem dX9_nextOrder_15 : decode cX9_nextOrder 15 = .ok (.ifCond .lt 26, 3) := by decide +kernel
theorem dX9_nextOrder_18 : decode cX9_nextOrder 18 = .ok (.aload_n 0, 1) := by decide +kernel
theorem dX9_nextOrder_19 : decode cX9_nextOrder 19 = .ok (.getfield 128, 3) := by decide +kernel
theorem dX9_nextOrder_22 : decode cX9_nextOrder 22 = .ok (.iload_n 2, 1) := by decide +kernel
theorem dX9_nextOrder_23 : decode cX9_nextOrder 23 = .ok (.iaload, 1) := by decide +kernel
theorem dX9_nextOrder_24 : decode cX9_nextOrder 24 = .ok (.aload_n 0, 1) := by decide +kernel
theorem dX9_nextOrder_25 : decode cX9_nextOrder 25 = .ok (.getfield 128, 3) := by decide +kernel
theorem dX9_nextOrder_28 : decode cX9_nextOrder 28 = .ok (.iload_n 2, 1) := by decide +kernel
theorem dX9_nextOrder_29 : decode cX9_nextOrder 29 = .ok (.iconst 1, 1) := by decide +kernel
theorem dX9_nextOrder_30 : decode cX9_nextOrder 30 = .ok (.iadd, 1) := by decide +kernel
theorem dX9_nextOrder_31 : decode cX9_nextOrder 31 = .ok (.iaload, 1) := by decide +kernel
theorem dX9_nextOrder_32 : decode cX9_nextOrder 32 = .ok (.if_icmp .le 9, 3) := by decide +kernel
theorem dX9_nextOrder_35 : decode cX9_nextOrder 35 = .ok (.iinc 2 (-1), 3) := by decide +kernel
theorem dX9_nextOrder_38 : decode cX9_nextOrder 38 = .ok (.goto (-24), 3) := by decide +kernel
theorem dX9_nextOrder_41 : decode cX9_nextOrder 41 = .ok (.iload_n 2, 1) := by decide +kernel
theorem dX9_nextOrder_42 : decode cX9_nextOrder 42 = .ok (.ifCond .ge 5, 3) := by decide +kernel
theorem dX9_nextOrder_45 : decode cX9_nextOrder 45 = .ok (.iconst 0, 1) := by decide +kernel
theorem dX9_nextOrder_46 : decode cX9_nextOrder 46 = .ok (.ireturn, 1) := by decide +kernel
theorem dX9_nextOrder_47 : decode cX9_nextOrder 47 = .ok (.iload_n 1, 1) := by decide +kernel
theorem dX9_nextOrder_48 : decode cX9_nextOrder 48 = .ok (.iconst 1, 1) := by decide +kernel
theorem dX9_nextOrder_49 : decode cX9_nextOrder 49 = .ok (.isub, 1) := by decide +kernel
theorem dX9_nextOrder_50 : decode cX9_nextOrder 50 = .ok (.istore_n 3, 1) := by decide +kernel
theorem dX9_nextOrder_51 : decode cX9_nextOrder 51 = .ok (.aload_n 0, 1) := by decide +kernel
theorem dX9_nextOrder_52 : decode cX9_nextOrder 52 = .ok (.getfield 128, 3) := by decide +kernel
theorem dX9_nextOrder_55 : decode cX9_nextOrder 55 = .ok (.iload_n 3, 1) := by decide +kernel
theorem dX9_nextOrder_56 : decode cX9_nextOrder 56 = .ok (.iaload, 1) := by decide +kernel
theorem dX9_nextOrder_57 : decode cX9_nextOrder 57 = .ok (.aload_n 0, 1) := by decide +kernel
theorem dX9_nextOrder_58 : decode cX9_nextOrder 58 = .ok (.getfield 128, 3) := by decide +kernel
theorem dX9_nextOrder_61 : decode cX9_nextOrder 61 = .ok (.iload_n 2, 1) := by decide +kernel
theorem dX9_nextOrder_62 : decode cX9_nextOrder 62 = .ok (.iaload, 1) := by decide +kernel
theorem dX9_nextOrder_63 : decode cX9_nextOrder 63 = .ok (.if_icmp .ge 9, 3) := by decide +kernel
theorem dX9_nextOrder_66 : decode cX9_nextOrder 66 = .ok (.iinc 3 (-1), 3) := by decide +kernel
theorem dX9_nextOrder_69 : decode cX9_nextOrder 69 = .ok (.goto (-18), 3) := by decide +kernel
theorem dX9_nextOrder_72 : decode cX9_nextOrder 72 = .ok (.aload_n 0, 1) := by decide +kernel
theorem dX9_nextOrder_73 : decode cX9_nextOrder 73 = .ok (.getfield 128, 3) := by decide +kernel
theorem dX9_nextOrder_76 : decode cX9_nextOrder 76 = .ok (.iload_n 2, 1) := by decide +kernel
theorem dX9_nextOrder_77 : decode cX9_nextOrder 77 = .ok (.iaload, 1) := by decide +kernel
theorem dX9_nextOrder_78 : decode cX9_nextOrder 78 = .ok (.istore 4, 2) := by decide +kernel
theorem dX9_nextOrder_80 : decode cX9_nextOrder 80 = .ok (.aload_n 0, 1) := by decide +kernel
theorem dX9_nextOrder_81 : decode cX9_nextOrder 81 = .ok (.getfield 128, 3) := by decide +kernel
theorem dX9_nextOrder_84 : decode cX9_nextOrder 84 = .ok (.iload_n 2, 1) := by decide +kernel
theorem dX9_nextOrder_85 : decode cX9_nextOrder 85 = .ok (.aload_n 0, 1) := by decide +kernel
theorem dX9_nextOrder_86 : decode cX9_nextOrder 86 = .ok (.getfield 128, 3) := by decide +kernel
theorem dX9_nextOrder_89 : decode cX9_nextOrder 89 = .ok (.iload_n 3, 1) := by decide +kernel
theorem dX9_nextOrder_90 : decode cX9_nextOrder 90 = .ok (.iaload, 1) := by decide +kernel
theorem dX9_nextOrder_91 : decode cX9_nextOrder 91 = .ok (.iastore, 1) := by decide +kernel
theorem dX9_nextOrder_92 : decode cX9_nextOrder 92 = .ok (.aload_n 0, 1) := by decide +kernel
theorem dX9_nextOrder_93 : decode cX9_nextOrder 93 = .ok (.getfield 128, 3) := by decide +kernel
theorem dX9_nextOrder_96 : decode cX9_nextOrder 96 = .ok (.iload_n 3, 1) := by decide +kernel
theorem dX9_nextOrder_97 : decode cX9_nextOrder 97 = .ok (.iload 4, 2) := by decide +kernel
theorem dX9_nextOrder_99 : decode cX9_nextOrder 99 = .ok (.iastore, 1) := by decide +kernel
theorem dX9_nextOrder_100 : decode cX9_nextOrder 100 = .ok (.iload_n 2, 1) := by decide +kernel
theorem dX9_nextOrder_101 : decode cX9_nextOrder 101 = .ok (.iconst 1, 1) := by decide +kernel
theorem dX9_nextOrder_102 : decode cX9_nextOrder 102 = .ok (.iadd, 1) := by decide +kernel
theorem dX9_nextOrder_103 : decode cX9_nextOrder 103 = .ok (.istore 5, 2) := by decide +kernel
theorem dX9_nextOrder_105 : decode cX9_nextOrder 105 = .ok (.iload_n 1, 1) := by decide +kernel
theorem dX9_nextOrder_106 : decode cX9_nextOrder 106 = .ok (.iconst 1, 1) := by decide +kernel
theorem dX9_nextOrder_107 : decode cX9_nextOrder 107 = .ok (.isub, 1) := by decide +kernel
theorem dX9_nextOrder_108 : decode cX9_nextOrder 108 = .ok (.istore 6, 2) := by decide +kernel
theorem dX9_nextOrder_110 : decode cX9_nextOrder 110 = .ok (.iload 5, 2) := by decide +kernel
theorem dX9_nextOrder_112 : decode cX9_nextOrder 112 = .ok (.iload 6, 2) := by decide +kernel
theorem dX9_nextOrder_114 : decode cX9_nextOrder 114 = .ok (.if_icmp .ge 44, 3) := by decide +kernel
theorem dX9_nextOrder_117 : decode cX9_nextOrder 117 = .ok (.aload_n 0, 1) := by decide +kernel
theorem dX9_nextOrder_118 : decode cX9_nextOrder 118 = .ok (.getfield 128, 3) := by decide +kernel
theorem dX9_nextOrder_121 : decode cX9_nextOrder 121 = .ok (.iload 5, 2) := by decide +kernel
theorem dX9_nextOrder_123 : decode cX9_nextOrder 123 = .ok (.iaload, 1) := by decide +kernel
theorem dX9_nextOrder_124 : decode cX9_nextOrder 124 = .ok (.istore 4, 2) := by decide +kernel
theorem dX9_nextOrder_126 : decode cX9_nextOrder 126 = .ok (.aload_n 0, 1) := by decide +kernel
theorem dX9_nextOrder_127 : decode cX9_nextOrder 127 = .ok (.getfield 128, 3) := by decide +kernel
theorem dX9_nextOrder_130 : decode cX9_nextOrder 130 = .ok (.iload 5, 2) := by decide +kernel
theorem dX9_nextOrder_132 : decode cX9_nextOrder 132 = .ok (.aload_n 0, 1) := by decide +kernel
theorem dX9_nextOrder_133 : decode cX9_nextOrder 133 = .ok (.getfield 128, 3) := by decide +kernel
theorem dX9_nextOrder_136 : decode cX9_nextOrder 136 = .ok (.iload 6, 2) := by decide +kernel
theorem dX9_nextOrder_138 : decode cX9_nextOrder 138 = .ok (.iaload, 1) := by decide +kernel
theorem dX9_nextOrder_139 : decode cX9_nextOrder 139 = .ok (.iastore, 1) := by decide +kernel
theorem dX9_nextOrder_140 : decode cX9_nextOrder 140 = .ok (.aload_n 0, 1) := by decide +kernel
theorem dX9_nextOrder_141 : decode cX9_nextOrder 141 = .ok (.getfield 128, 3) := by decide +kernel
theorem dX9_nextOrder_144 : decode cX9_nextOrder 144 = .ok (.iload 6, 2) := by decide +kernel
theorem dX9_nextOrder_146 : decode cX9_nextOrder 146 = .ok (.iload 4, 2) := by decide +kernel
theorem dX9_nextOrder_148 : decode cX9_nextOrder 148 = .ok (.iastore, 1) := by decide +kernel
theorem dX9_nextOrder_149 : decode cX9_nextOrder 149 = .ok (.iinc 5 1, 3) := by decide +kernel
theorem dX9_nextOrder_152 : decode cX9_nextOrder 152 = .ok (.iinc 6 (-1), 3) := by decide +kernel
theorem dX9_nextOrder_155 : decode cX9_nextOrder 155 = .ok (.goto (-45), 3) := by decide +kernel
theorem dX9_nextOrder_158 : decode cX9_nextOrder 158 = .ok (.iconst 1, 1) := by decide +kernel
theorem dX9_nextOrder_159 : decode cX9_nextOrder 159 = .ok (.ireturn, 1) := by decide +kernel
theorem dX9_givesAll_0 : decode cX9_givesAll 0 = .ok (.aload_n 0, 1) := by decide +kernel
theorem dX9_givesAll_1 : decode cX9_givesAll 1 = .ok (.invokevirtual 381, 3) := by decide +kernel
theorem dX9_givesAll_4 : decode cX9_givesAll 4 = .ok (.iconst 0, 1) := by decide +kernel
theorem dX9_givesAll_5 : decode cX9_givesAll 5 = .ok (.istore_n 2, 1) := by decide +kernel
theorem dX9_givesAll_6 : decode cX9_givesAll 6 = .ok (.iload_n 2, 1) := by decide +kernel
theorem dX9_givesAll_7 : decode cX9_givesAll 7 = .ok (.aload_n 0, 1) := by decide +kernel
theorem dX9_givesAll_8 : decode cX9_givesAll 8 = .ok (.getfield 46, 3) := by decide +kernel
theorem dX9_givesAll_11 : decode cX9_givesAll 11 = .ok (.aload_n 0, 1) := by decide +kernel
theorem dX9_givesAll_12 : decode cX9_givesAll 12 = .ok (.getfield 233, 3) := by decide +kernel
theorem dX9_givesAll_15 : decode cX9_givesAll 15 = .ok (.iaload, 1) := by decide +kernel
theorem dX9_givesAll_16 : decode cX9_givesAll 16 = .ok (.if_icmp .ge 20, 3) := by decide +kernel
theorem dX9_givesAll_19 : decode cX9_givesAll 19 = .ok (.aload_n 0, 1) := by decide +kernel
theorem dX9_givesAll_20 : decode cX9_givesAll 20 = .ok (.aload_n 0, 1) := by decide +kernel
theorem dX9_givesAll_21 : decode cX9_givesAll 21 = .ok (.getfield 128, 3) := by decide +kernel
theorem dX9_givesAll_24 : decode cX9_givesAll 24 = .ok (.iload_n 2, 1) := by decide +kernel
theorem dX9_givesAll_25 : decode cX9_givesAll 25 = .ok (.iaload, 1) := by decide +kernel
theorem dX9_givesAll_26 : decode cX9_givesAll 26 = .ok (.iload_n 1, 1) := by decide +kernel
theorem dX9_givesAll_27 : decode cX9_givesAll 27 = .ok (.invokevirtual 384, 3) := by decide +kernel
theorem dX9_givesAll_30 : decode cX9_givesAll 30 = .ok (.iinc 2 1, 3) := by decide +kernel
theorem dX9_givesAll_33 : decode cX9_givesAll 33 = .ok (.goto (-27), 3) := by decide +kernel
theorem dX9_givesAll_36 : decode cX9_givesAll 36 = .ok (.return_, 1) := by decide +kernel
theorem dX9_apartNow_0 : decode cX9_apartNow 0 = .ok (.aload_n 0, 1) := by decide +kernel
theorem dX9_apartNow_1 : decode cX9_apartNow 1 = .ok (.getfield 125, 3) := by decide +kernel
theorem dX9_apartNow_4 : decode cX9_apartNow 4 = .ok (.iconst 0, 1) := by decide +kernel
theorem dX9_apartNow_5 : decode cX9_apartNow 5 = .ok (.iaload, 1) := by decide +kernel
theorem dX9_apartNow_6 : decode cX9_apartNow 6 = .ok (.istore_n 1, 1) := by decide +kernel
theorem dX9_apartNow_7 : decode cX9_apartNow 7 = .ok (.iload_n 1, 1) := by decide +kernel
theorem dX9_apartNow_8 : decode cX9_apartNow 8 = .ok (.istore_n 2, 1) := by decide +kernel
theorem dX9_apartNow_9 : decode cX9_apartNow 9 = .ok (.iconst 1, 1) := by decide +kernel
theorem dX9_apartNow_10 : decode cX9_apartNow 10 = .ok (.istore_n 3, 1) := by decide +kernel
theorem dX9_apartNow_11 : decode cX9_apartNow 11 = .ok (.iload_n 3, 1) := by decide +kernel
theorem dX9_apartNow_12 : decode cX9_apartNow 12 = .ok (.aload_n 0, 1) := by decide +kernel
theorem dX9_apartNow_13 : decode cX9_apartNow 13 = .ok (.getfield 46, 3) := by decide +kernel
theorem dX9_apartNow_16 : decode cX9_apartNow 16 = .ok (.aload_n 0, 1) := by decide +kernel
theorem dX9_apartNow_17 : decode cX9_apartNow 17 = .ok (.getfield 233, 3) := by decide +kernel
theorem dX9_apartNow_20 : decode cX9_apartNow 20 = .ok (.iaload, 1) := by decide +kernel
theorem dX9_apartNow_21 : decode cX9_apartNow 21 = .ok (.if_icmp .ge 43, 3) := by decide +kernel
theorem dX9_apartNow_24 : decode cX9_apartNow 24 = .ok (.aload_n 0, 1) := by decide +kernel
theorem dX9_apartNow_25 : decode cX9_apartNow 25 = .ok (.getfield 125, 3) := by decide +kernel
theorem dX9_apartNow_28 : decode cX9_apartNow 28 = .ok (.iload_n 3, 1) := by decide +kernel
theorem dX9_apartNow_29 : decode cX9_apartNow 29 = .ok (.iaload, 1) := by decide +kernel
theorem dX9_apartNow_30 : decode cX9_apartNow 30 = .ok (.iload_n 1, 1) := by decide +kernel
theorem dX9_apartNow_31 : decode cX9_apartNow 31 = .ok (.if_icmp .ge 10, 3) := by decide +kernel
theorem dX9_apartNow_34 : decode cX9_apartNow 34 = .ok (.aload_n 0, 1) := by decide +kernel
theorem dX9_apartNow_35 : decode cX9_apartNow 35 = .ok (.getfield 125, 3) := by decide +kernel
theorem dX9_apartNow_38 : decode cX9_apartNow 38 = .ok (.iload_n 3, 1) := by decide +kernel
theorem dX9_apartNow_39 : decode cX9_apartNow 39 = .ok (.iaload, 1) := by decide +kernel
theorem dX9_apartNow_40 : decode cX9_apartNow 40 = .ok (.istore_n 1, 1) := by decide +kernel
theorem dX9_apartNow_41 : decode cX9_apartNow 41 = .ok (.aload_n 0, 1) := by decide +kernel
theorem dX9_apartNow_42 : decode cX9_apartNow 42 = .ok (.getfield 125, 3) := by decide +kernel
theorem dX9_apartNow_45 : decode cX9_apartNow 45 = .ok (.iload_n 3, 1) := by decide +kernel
theorem dX9_apartNow_46 : decode cX9_apartNow 46 = .ok (.iaload, 1) := by decide +kernel
theorem dX9_apartNow_47 : decode cX9_apartNow 47 = .ok (.iload_n 2, 1) := by decide +kernel
theorem dX9_apartNow_48 : decode cX9_apartNow 48 = .ok (.if_icmp .le 10, 3) := by decide +kernel
theorem dX9_apartNow_51 : decode cX9_apartNow 51 = .ok (.aload_n 0, 1) := by decide +kernel
theorem dX9_apartNow_52 : decode cX9_apartNow 52 = .ok (.getfield 125, 3) := by decide +kernel
theorem dX9_apartNow_55 : decode cX9_apartNow 55 = .ok (.iload_n 3, 1) := by decide +kernel
theorem dX9_apartNow_56 : decode cX9_apartNow 56 = .ok (.iaload, 1) := by decide +kernel
theorem dX9_apartNow_57 : decode cX9_apartNow 57 = .ok (.istore_n 2, 1) := by decide +kernel
theorem dX9_apartNow_58 : decode cX9_apartNow 58 = .ok (.iinc 3 1, 3) := by decide +kernel
theorem dX9_apartNow_61 : decode cX9_apartNow 61 = .ok (.goto (-50), 3) := by decide +kernel
theorem dX9_apartNow_64 : decode cX9_apartNow 64 = .ok (.iload_n 2, 1) := by decide +kernel
theorem dX9_apartNow_65 : decode cX9_apartNow 65 = .ok (.iload_n 1, 1) := by decide +kernel
theorem dX9_apartNow_66 : decode cX9_apartNow 66 = .ok (.isub, 1) := by decide +kernel
theorem dX9_apartNow_67 : decode cX9_apartNow 67 = .ok (.ireturn, 1) := by decide +kernel
theorem dX9_luckiest_0 : decode cX9_luckiest 0 = .ok (.iconst 0, 1) := by decide +kernel
theorem dX9_luckiest_1 : decode cX9_luckiest 1 = .ok (.istore_n 1, 1) := by decide +kernel
theorem dX9_luckiest_2 : decode cX9_luckiest 2 = .ok (.iconst 1, 1) := by decide +kernel
theorem dX9_luckiest_3 : decode cX9_luckiest 3 = .ok (.istore_n 2, 1) := by decide +kernel
theorem dX9_luckiest_4 : decode cX9_luckiest 4 = .ok (.iload_n 2, 1) := by decide +kernel
theorem dX9_luckiest_5 : decode cX9_luckiest 5 = .ok (.aload_n 0, 1) := by decide +kernel
theorem dX9_luckiest_6 : decode cX9_luckiest 6 = .ok (.getfield 46, 3) := by decide +kernel
theorem dX9_luckiest_9 : decode cX9_luckiest 9 = .ok (.aload_n 0, 1) := by decide +kernel
theorem dX9_luckiest_10 : decode cX9_luckiest 10 = .ok (.getfield 233, 3) := by decide +kernel
theorem dX9_luckiest_13 : decode cX9_luckiest 13 = .ok (.iaload, 1) := by decide +kernel
theorem dX9_luckiest_14 : decode cX9_luckiest 14 = .ok (.if_icmp .ge 26, 3) := by decide +kernel
theorem dX9_luckiest_17 : decode cX9_luckiest 17 = .ok (.aload_n 0, 1) := by decide +kernel
theorem dX9_luckiest_18 : decode cX9_luckiest 18 = .ok (.getfield 122, 3) := by decide +kernel
theorem dX9_luckiest_21 : decode cX9_luckiest 21 = .ok (.iload_n 2, 1) := by decide +kernel
theorem dX9_luckiest_22 : decode cX9_luckiest 22 = .ok (.iaload, 1) := by decide +kernel
theorem dX9_luckiest_23 : decode cX9_luckiest 23 = .ok (.aload_n 0, 1) := by decide +kernel
theorem dX9_luckiest_24 : decode cX9_luckiest 24 = .ok (.getfield 122, 3) := by decide +kernel
theorem dX9_luckiest_27 : decode cX9_luckiest 27 = .ok (.iload_n 1, 1) := by decide +kernel
theorem dX9_luckiest_28 : decode cX9_luckiest 28 = .ok (.iaload, 1) := by decide +kernel
theorem dX9_luckiest_29 : decode cX9_luckiest 29 = .ok (.if_icmp .ge 5, 3) := by decide +kernel
theorem dX9_luckiest_32 : decode cX9_luckiest 32 = .ok (.iload_n 2, 1) := by decide +kernel
theorem dX9_luckiest_33 : decode cX9_luckiest 33 = .ok (.istore_n 1, 1) := by decide +kernel
theorem dX9_luckiest_34 : decode cX9_luckiest 34 = .ok (.iinc 2 1, 3) := by decide +kernel
theorem dX9_luckiest_37 : decode cX9_luckiest 37 = .ok (.goto (-33), 3) := by decide +kernel
theorem dX9_luckiest_40 : decode cX9_luckiest 40 = .ok (.iload_n 1, 1) := by decide +kernel
theorem dX9_luckiest_41 : decode cX9_luckiest 41 = .ok (.ireturn, 1) := by decide +kernel
theorem dX9_fillsOrders_0 : decode cX9_fillsOrders 0 = .ok (.aload_n 0, 1) := by decide +kernel
theorem dX9_fillsOrders_1 : decode cX9_fillsOrders 1 = .ok (.invokevirtual 387, 3) := by decide +kernel
theorem dX9_fillsOrders_4 : decode cX9_fillsOrders 4 = .ok (.aload_n 0, 1) := by decide +kernel
theorem dX9_fillsOrders_5 : decode cX9_fillsOrders 5 = .ok (.iconst (-1), 1) := by decide +kernel
theorem dX9_fillsOrders_6 : decode cX9_fillsOrders 6 = .ok (.putfield 390, 3) := by decide +kernel
theorem dX9_fillsOrders_9 : decode cX9_fillsOrders 9 = .ok (.aload_n 0, 1) := by decide +kernel
theorem dX9_fillsOrders_10 : decode cX9_fillsOrders 10 = .ok (.iconst (-1), 1) := by decide +kernel
theorem dX9_fillsOrders_11 : decode cX9_fillsOrders 11 = .ok (.putfield 393, 3) := by decide +kernel
theorem dX9_fillsOrders_14 : decode cX9_fillsOrders 14 = .ok (.aload_n 0, 1) := by decide +kernel
theorem dX9_fillsOrders_15 : decode cX9_fillsOrders 15 = .ok (.iconst 0, 1) := by decide +kernel
theorem dX9_fillsOrders_16 : decode cX9_fillsOrders 16 = .ok (.putfield 396, 3) := by decide +kernel
theorem dX9_fillsOrders_19 : decode cX9_fillsOrders 19 = .ok (.iconst 0, 1) := by decide +kernel
theorem dX9_fillsOrders_20 : decode cX9_fillsOrders 20 = .ok (.istore_n 2, 1) := by decide +kernel
theorem dX9_fillsOrders_21 : decode cX9_fillsOrders 21 = .ok (.iload_n 2, 1) := by decide +kernel
theorem dX9_fillsOrders_22 : decode cX9_fillsOrders 22 = .ok (.bipush 6, 2) := by decide +kernel
theorem dX9_fillsOrders_24 : decode cX9_fillsOrders 24 = .ok (.if_icmp .ge 16, 3) := by decide +kernel
theorem dX9_fillsOrders_27 : decode cX9_fillsOrders 27 = .ok (.aload_n 0, 1) := by decide +kernel
theorem dX9_fillsOrders_28 : decode cX9_fillsOrders 28 = .ok (.getfield 134, 3) := by decide +kernel
theorem dX9_fillsOrders_31 : decode cX9_fillsOrders 31 = .ok (.iload_n 2, 1) := by decide +kernel
theorem dX9_fillsOrders_32 : decode cX9_fillsOrders 32 = .ok (.iconst 0, 1) := by decide +kernel
theorem dX9_fillsOrders_33 : decode cX9_fillsOrders 33 = .ok (.iastore, 1) := by decide +kernel
theorem dX9_fillsOrders_34 : decode cX9_fillsOrders 34 = .ok (.iinc 2 1, 3) := by decide +kernel
theorem dX9_fillsOrders_37 : decode cX9_fillsOrders 37 = .ok (.goto (-16), 3) := by decide +kernel
theorem dX9_fillsOrders_40 : decode cX9_fillsOrders 40 = .ok (.iconst 1, 1) := by decide +kernel
theorem dX9_fillsOrders_41 : decode cX9_fillsOrders 41 = .ok (.istore_n 2, 1) := by decide +kernel
theorem dX9_fillsOrders_42 : decode cX9_fillsOrders 42 = .ok (.iload_n 2, 1) := by decide +kernel
theorem dX9_fillsOrders_43 : decode cX9_fillsOrders 43 = .ok (.ifCond .eq 154, 3) := by decide +kernel
theorem dX9_fillsOrders_46 : decode cX9_fillsOrders 46 = .ok (.aload_n 0, 1) := by decide +kernel
theorem dX9_fillsOrders_47 : decode cX9_fillsOrders 47 = .ok (.iload_n 1, 1) := by decide +kernel
theorem dX9_fillsOrders_48 : decode cX9_fillsOrders 48 = .ok (.invokevirtual 399, 3) := by decide +kernel
theorem dX9_fillsOrders_51 : decode cX9_fillsOrders 51 = .ok (.aload_n 0, 1) := by decide +kernel
theorem dX9_fillsOrders_52 : decode cX9_fillsOrders 52 = .ok (.getfield 390, 3) := by decide +kernel
theorem dX9_fillsOrders_55 : decode cX9_fillsOrders 55 = .ok (.ifCond .lt 14, 3) := by decide +kernel
theorem dX9_fillsOrders_58 : decode cX9_fillsOrders 58 = .ok (.aload_n 0, 1) := by decide +kernel
theorem dX9_fillsOrders_59 : decode cX9_fillsOrders 59 = .ok (.getfield 378, 3) := by decide +kernel
theorem dX9_fillsOrders_62 : decode cX9_fillsOrders 62 = .ok (.aload_n 0, 1) := by decide +kernel
theorem dX9_fillsOrders_63 : decode cX9_fillsOrders 63 = .ok (.getfield 390, 3) := by decide +kernel
theorem dX9_fillsOrders_66 : decode cX9_fillsOrders 66 = .ok (.if_icmp .ge 37, 3) := by decide +kernel
theorem dX9_fillsOrders_69 : decode cX9_fillsOrders 69 = .ok (.aload_n 0, 1) := by decide +kernel
theorem dX9_fillsOrders_70 : decode cX9_fillsOrders 70 = .ok (.aload_n 0, 1) := by decide +kernel
theorem dX9_fillsOrders_71 : decode cX9_fillsOrders 71 = .ok (.getfield 378, 3) := by decide +kernel
theorem dX9_fillsOrders_74 : decode cX9_fillsOrders 74 = .ok (.putfield 390, 3) := by decide +kernel
theorem dX9_fillsOrders_77 : decode cX9_fillsOrders 77 = .ok (.iconst 0, 1) := by decide +kernel
theorem dX9_fillsOrders_78 : decode cX9_fillsOrders 78 = .ok (.istore_n 3, 1) := by decide +kernel
theorem dX9_fillsOrders_79 : decode cX9_fillsOrders 79 = .ok (.iload_n 3, 1) := by decide +kernel
theorem dX9_fillsOrders_80 : decode cX9_fillsOrders 80 = .ok (.bipush 6, 2) := by decide +kernel
theorem dX9_fillsOrders_82 : decode cX9_fillsOrders 82 = .ok (.if_icmp .ge 21, 3) := by decide +kernel
theorem dX9_fillsOrders_85 : decode cX9_fillsOrders 85 = .ok (.aload_n 0, 1) := by decide +kernel
theorem dX9_fillsOrders_86 : decode cX9_fillsOrders 86 = .ok (.getfield 131, 3) := by decide +kernel
theorem dX9_fillsOrders_89 : decode cX9_fillsOrders 89 = .ok (.iload_n 3, 1) := by decide +kernel
theorem dX9_fillsOrders_90 : decode cX9_fillsOrders 90 = .ok (.aload_n 0, 1) := by decide +kernel
theorem dX9_fillsOrders_91 : decode cX9_fillsOrders 91 = .ok (.getfield 128, 3) := by decide +kernel
theorem dX9_fillsOrders_94 : decode cX9_fillsOrders 94 = .ok (.iload_n 3, 1) := by decide +kernel
theorem dX9_fillsOrders_95 : decode cX9_fillsOrders 95 = .ok (.iaload, 1) := by decide +kernel
theorem dX9_fillsOrders_96 : decode cX9_fillsOrders 96 = .ok (.iastore, 1) := by decide +kernel
theorem dX9_fillsOrders_97 : decode cX9_fillsOrders 97 = .ok (.iinc 3 1, 3) := by decide +kernel
theorem dX9_fillsOrders_100 : decode cX9_fillsOrders 100 = .ok (.goto (-21), 3) := by decide +kernel
theorem dX9_fillsOrders_103 : decode cX9_fillsOrders 103 = .ok (.aload_n 0, 1) := by decide +kernel
theorem dX9_fillsOrders_104 : decode cX9_fillsOrders 104 = .ok (.getfield 375, 3) := by decide +kernel
theorem dX9_fillsOrders_107 : decode cX9_fillsOrders 107 = .ok (.ifCond .lt 33, 3) := by decide +kernel
theorem dX9_fillsOrders_110 : decode cX9_fillsOrders 110 = .ok (.aload_n 0, 1) := by decide +kernel
theorem dX9_fillsOrders_111 : decode cX9_fillsOrders 111 = .ok (.getfield 61, 3) := by decide +kernel
theorem dX9_fillsOrders_114 : decode cX9_fillsOrders 114 = .ok (.bipush 6, 2) := by decide +kernel
theorem dX9_fillsOrders_116 : decode cX9_fillsOrders 116 = .ok (.aload_n 0, 1) := by decide +kernel
theorem dX9_fillsOrders_117 : decode cX9_fillsOrders 117 = .ok (.getfield 233, 3) := by decide +kernel
theorem dX9_fillsOrders_120 : decode cX9_fillsOrders 120 = .ok (.imul, 1) := by decide +kernel
theorem dX9_fillsOrders_121 : decode cX9_fillsOrders 121 = .ok (.aload_n 0, 1) := by decide +kernel
theorem dX9_fillsOrders_122 : decode cX9_fillsOrders 122 = .ok (.getfield 375, 3) := by decide +kernel
theorem dX9_fillsOrders_125 : decode cX9_fillsOrders 125 = .ok (.iadd, 1) := by decide +kernel
theorem dX9_fillsOrders_126 : decode cX9_fillsOrders 126 = .ok (.baload, 1) := by decide +kernel
theorem dX9_fillsOrders_127 : decode cX9_fillsOrders 127 = .ok (.ifCond .eq 13, 3) := by decide +kernel
theorem dX9_fillsOrders_130 : decode cX9_fillsOrders 130 = .ok (.aload_n 0, 1) := by decide +kernel
theorem dX9_fillsOrders_131 : decode cX9_fillsOrders 131 = .ok (.dup, 1) := by decide +kernel
theorem dX9_fillsOrders_132 : decode cX9_fillsOrders 132 = .ok (.getfield 396, 3) := by decide +kernel
theorem dX9_fillsOrders_135 : decode cX9_fillsOrders 135 = .ok (.iconst 1, 1) := by decide +kernel
theorem dX9_fillsOrders_136 : decode cX9_fillsOrders 136 = .ok (.iadd, 1) := by decide +kernel
theorem dX9_fillsOrders_137 : decode cX9_fillsOrders 137 = .ok (.putfield 396, 3) := by decide +kernel
theorem dX9_fillsOrders_140 : decode cX9_fillsOrders 140 = .ok (.aload_n 0, 1) := by decide +kernel
theorem dX9_fillsOrders_141 : decode cX9_fillsOrders 141 = .ok (.getfield 134, 3) := by decide +kernel
theorem dX9_fillsOrders_144 : decode cX9_fillsOrders 144 = .ok (.aload_n 0, 1) := by decide +kernel
theorem dX9_fillsOrders_145 : decode cX9_fillsOrders 145 = .ok (.invokevirtual 402, 3) := by decide +kernel
theorem dX9_fillsOrders_148 : decode cX9_fillsOrders 148 = .ok (.dup2, 1) := by decide +kernel
theorem dX9_fillsOrders_149 : decode cX9_fillsOrders 149 = .ok (.iaload, 1) := by decide +kernel
theorem dX9_fillsOrders_150 : decode cX9_fillsOrders 150 = .ok (.iconst 1, 1) := by decide +kernel
theorem dX9_fillsOrders_151 : decode cX9_fillsOrders 151 = .ok (.iadd, 1) := by decide +kernel
theorem dX9_fillsOrders_152 : decode cX9_fillsOrders 152 = .ok (.iastore, 1) := by decide +kernel
theorem dX9_fillsOrders_153 : decode cX9_fillsOrders 153 = .ok (.aload_n 0, 1) := by decide +kernel
theorem dX9_fillsOrders_154 : decode cX9_fillsOrders 154 = .ok (.getfield 393, 3) := by decide +kernel
theorem dX9_fillsOrders_157 : decode cX9_fillsOrders 157 = .ok (.ifCond .lt 14, 3) := by decide +kernel
theorem dX9_fillsOrders_160 : decode cX9_fillsOrders 160 = .ok (.aload_n 0, 1) := by decide +kernel
theorem dX9_fillsOrders_161 : decode cX9_fillsOrders 161 = .ok (.invokevirtual 405, 3) := by decide +kernel
theorem dX9_fillsOrders_164 : decode cX9_fillsOrders 164 = .ok (.aload_n 0, 1) := by decide +kernel
theorem dX9_fillsOrders_165 : decode cX9_fillsOrders 165 = .ok (.getfield 393, 3) := by decide +kernel
theorem dX9_fillsOrders_168 : decode cX9_fillsOrders 168 = .ok (.if_icmp .ge 21, 3) := by decide +kernel
theorem dX9_fillsOrders_171 : decode cX9_fillsOrders 171 = .ok (.aload_n 0, 1) := by decide +kernel
theorem dX9_fillsOrders_172 : decode cX9_fillsOrders 172 = .ok (.aload_n 0, 1) := by decide +kernel
theorem dX9_fillsOrders_173 : decode cX9_fillsOrders 173 = .ok (.invokevirtual 405, 3) := by decide +kernel
theorem dX9_fillsOrders_176 : decode cX9_fillsOrders 176 = .ok (.putfield 393, 3) := by decide +kernel
theorem dX9_fillsOrders_179 : decode cX9_fillsOrders 179 = .ok (.aload_n 0, 1) := by decide +kernel
theorem dX9_fillsOrders_180 : decode cX9_fillsOrders 180 = .ok (.aload_n 0, 1) := by decide +kernel
theorem dX9_fillsOrders_181 : decode cX9_fillsOrders 181 = .ok (.getfield 128, 3) := by decide +kernel
theorem dX9_fillsOrders_184 : decode cX9_fillsOrders 184 = .ok (.iconst 0, 1) := by decide +kernel
theorem dX9_fillsOrders_185 : decode cX9_fillsOrders 185 = .ok (.iaload, 1) := by decide +kernel
theorem dX9_fillsOrders_186 : decode cX9_fillsOrders 186 = .ok (.putfield 408, 3) := by decide +kernel
theorem dX9_fillsOrders_189 : decode cX9_fillsOrders 189 = .ok (.aload_n 0, 1) := by decide +kernel
theorem dX9_fillsOrders_190 : decode cX9_fillsOrders 190 = .ok (.invokevirtual 411, 3) := by decide +kernel
theorem dX9_fillsOrders_193 : decode cX9_fillsOrders 193 = .ok (.istore_n 2, 1) := by decide +kernel
theorem dX9_fillsOrders_194 : decode cX9_fillsOrders 194 = .ok (.goto (-152), 3) := by decide +kernel
theorem dX9_fillsOrders_197 : decode cX9_fillsOrders 197 = .ok (.return_, 1) := by decide +kernel
theorem dX9_isShort_0 : decode cX9_isShort 0 = .ok (.iload_n 0, 1) := by decide +kernel
theorem dX9_isShort_1 : decode cX9_isShort 1 = .ok (.iconst 1, 1) := by decide +kernel
theorem dX9_isShort_2 : decode cX9_isShort 2 = .ok (.bipush 10, 2) := by decide +kernel
theorem dX9_isShort_4 : decode cX9_isShort 4 = .ok (.invokestatic 342, 3) := by decide +kernel
theorem dX9_isShort_7 : decode cX9_isShort 7 = .ok (.ireturn, 1) := by decide +kernel
theorem dX9_order_0 : decode cX9_order 0 = .ok (.iload_n 1, 1) := by decide +kernel
theorem dX9_order_1 : decode cX9_order 1 = .ok (.invokestatic 414, 3) := by decide +kernel
theorem dX9_order_4 : decode cX9_order 4 = .ok (.ifCond .ne 5, 3) := by decide +kernel
theorem dX9_order_7 : decode cX9_order 7 = .ok (.iconst (-1), 1) := by decide +kernel
theorem dX9_order_8 : decode cX9_order 8 = .ok (.ireturn, 1) := by decide +kernel
theorem dX9_order_9 : decode cX9_order 9 = .ok (.aload_n 0, 1) := by decide +kernel
theorem dX9_order_10 : decode cX9_order 10 = .ok (.invokevirtual 358, 3) := by decide +kernel
theorem dX9_order_13 : decode cX9_order 13 = .ok (.ifCond .ne 6, 3) := by decide +kernel
theorem dX9_order_16 : decode cX9_order 16 = .ok (.bipush (-2), 2) := by decide +kernel
theorem dX9_order_18 : decode cX9_order 18 = .ok (.ireturn, 1) := by decide +kernel
theorem dX9_order_19 : decode cX9_order 19 = .ok (.aload_n 0, 1) := by decide +kernel
theorem dX9_order_20 : decode cX9_order 20 = .ok (.iload_n 1, 1) := by decide +kernel
theorem dX9_order_21 : decode cX9_order 21 = .ok (.invokevirtual 417, 3) := by decide +kernel
theorem dX9_order_24 : decode cX9_order 24 = .ok (.aload_n 0, 1) := by decide +kernel
theorem dX9_order_25 : decode cX9_order 25 = .ok (.getfield 390, 3) := by decide +kernel
theorem dX9_order_28 : decode cX9_order 28 = .ok (.ireturn, 1) := by decide +kernel
theorem dX9_orderAt_0 : decode cX9_orderAt 0 = .ok (.iload_n 1, 1) := by decide +kernel
theorem dX9_orderAt_1 : decode cX9_orderAt 1 = .ok (.invokestatic 414, 3) := by decide +kernel
theorem dX9_orderAt_4 : decode cX9_orderAt 4 = .ok (.ifCond .eq 7, 3) := by decide +kernel
theorem dX9_orderAt_7 : decode cX9_orderAt 7 = .ok (.iload_n 2, 1) := by decide +kernel
theorem dX9_orderAt_8 : decode cX9_orderAt 8 = .ok (.ifCond .ge 5, 3) := by decide +kernel
theorem dX9_orderAt_11 : decode cX9_orderAt 11 = .ok (.iconst (-1), 1) := by decide +kernel
theorem dX9_orderAt_12 : decode cX9_orderAt 12 = .ok (.ireturn, 1) := by decide +kernel
theorem dX9_orderAt_13 : decode cX9_orderAt 13 = .ok (.aload_n 0, 1) := by decide +kernel
theorem dX9_orderAt_14 : decode cX9_orderAt 14 = .ok (.invokevirtual 358, 3) := by decide +kernel
theorem dX9_orderAt_17 : decode cX9_orderAt 17 = .ok (.ifCond .ne 6, 3) := by decide +kernel
theorem dX9_orderAt_20 : decode cX9_orderAt 20 = .ok (.bipush (-2), 2) := by decide +kernel
theorem dX9_orderAt_22 : decode cX9_orderAt 22 = .ok (.ireturn, 1) := by decide +kernel
theorem dX9_orderAt_23 : decode cX9_orderAt 23 = .ok (.aload_n 0, 1) := by decide +kernel
theorem dX9_orderAt_24 : decode cX9_orderAt 24 = .ok (.iload_n 1, 1) := by decide +kernel
theorem dX9_orderAt_25 : decode cX9_orderAt 25 = .ok (.invokevirtual 417, 3) := by decide +kernel
theorem dX9_orderAt_28 : decode cX9_orderAt 28 = .ok (.iload_n 2, 1) := by decide +kernel
theorem dX9_orderAt_29 : decode cX9_orderAt 29 = .ok (.aload_n 0, 1) := by decide +kernel
theorem dX9_orderAt_30 : decode cX9_orderAt 30 = .ok (.getfield 46, 3) := by decide +kernel
theorem dX9_orderAt_33 : decode cX9_orderAt 33 = .ok (.aload_n 0, 1) := by decide +kernel
theorem dX9_orderAt_34 : decode cX9_orderAt 34 = .ok (.getfield 233, 3) := by decide +kernel
theorem dX9_orderAt_37 : decode cX9_orderAt 37 = .ok (.iaload, 1) := by decide +kernel
theorem dX9_orderAt_38 : decode cX9_orderAt 38 = .ok (.if_icmp .ge 12, 3) := by decide +kernel
theorem dX9_orderAt_41 : decode cX9_orderAt 41 = .ok (.aload_n 0, 1) := by decide +kernel
theorem dX9_orderAt_42 : decode cX9_orderAt 42 = .ok (.getfield 131, 3) := by decide +kernel
theorem dX9_orderAt_45 : decode cX9_orderAt 45 = .ok (.iload_n 2, 1) := by decide +kernel
theorem dX9_orderAt_46 : decode cX9_orderAt 46 = .ok (.iaload, 1) := by decide +kernel
theorem dX9_orderAt_47 : decode cX9_orderAt 47 = .ok (.goto 4, 3) := by decide +kernel
theorem dX9_orderAt_50 : decode cX9_orderAt 50 = .ok (.iconst (-1), 1) := by decide +kernel
theorem dX9_orderAt_51 : decode cX9_orderAt 51 = .ok (.ireturn, 1) := by decide +kernel
theorem dX9_sitters_0 : decode cX9_sitters 0 = .ok (.iload_n 1, 1) := by decide +kernel
theorem dX9_sitters_1 : decode cX9_sitters 1 = .ok (.invokestatic 414, 3) := by decide +kernel
theorem dX9_sitters_4 : decode cX9_sitters 4 = .ok (.ifCond .ne 5, 3) := by decide +kernel
theorem dX9_sitters_7 : decode cX9_sitters 7 = .ok (.iconst (-1), 1) := by decide +kernel
theorem dX9_sitters_8 : decode cX9_sitters 8 = .ok (.ireturn, 1) := by decide +kernel
theorem dX9_sitters_9 : decode cX9_sitters 9 = .ok (.aload_n 0, 1) := by decide +kernel
theorem dX9_sitters_10 : decode cX9_sitters 10 = .ok (.invokevirtual 358, 3) := by decide +kernel
theorem dX9_sitters_13 : decode cX9_sitters 13 = .ok (.ifCond .ne 6, 3) := by decide +kernel
theorem dX9_sitters_16 : decode cX9_sitters 16 = .ok (.bipush (-2), 2) := by decide +kernel
theorem dX9_sitters_18 : decode cX9_sitters 18 = .ok (.ireturn, 1) := by decide +kernel
theorem dX9_sitters_19 : decode cX9_sitters 19 = .ok (.aload_n 0, 1) := by decide +kernel
theorem dX9_sitters_20 : decode cX9_sitters 20 = .ok (.iload_n 1, 1) := by decide +kernel
theorem dX9_sitters_21 : decode cX9_sitters 21 = .ok (.invokevirtual 417, 3) := by decide +kernel
theorem dX9_sitters_24 : decode cX9_sitters 24 = .ok (.aload_n 0, 1) := by decide +kernel
theorem dX9_sitters_25 : decode cX9_sitters 25 = .ok (.getfield 396, 3) := by decide +kernel
theorem dX9_sitters_28 : decode cX9_sitters 28 = .ok (.ireturn, 1) := by decide +kernel
theorem dX9_luck_0 : decode cX9_luck 0 = .ok (.aload_n 0, 1) := by decide +kernel
theorem dX9_luck_1 : decode cX9_luck 1 = .ok (.iload_n 1, 1) := by decide +kernel
theorem dX9_luck_2 : decode cX9_luck 2 = .ok (.invokevirtual 349, 3) := by decide +kernel
theorem dX9_luck_5 : decode cX9_luck 5 = .ok (.ifCond .eq 10, 3) := by decide +kernel
theorem dX9_luck_8 : decode cX9_luck 8 = .ok (.iload_n 2, 1) := by decide +kernel
theorem dX9_luck_9 : decode cX9_luck 9 = .ok (.invokestatic 414, 3) := by decide +kernel
theorem dX9_luck_12 : decode cX9_luck 12 = .ok (.ifCond .ne 5, 3) := by decide +kernel
theorem dX9_luck_15 : decode cX9_luck 15 = .ok (.iconst (-1), 1) := by decide +kernel
theorem dX9_luck_16 : decode cX9_luck 16 = .ok (.ireturn, 1) := by decide +kernel
theorem dX9_luck_17 : decode cX9_luck 17 = .ok (.aload_n 0, 1) := by decide +kernel
theorem dX9_luck_18 : decode cX9_luck 18 = .ok (.invokevirtual 358, 3) := by decide +kernel
theorem dX9_luck_21 : decode cX9_luck 21 = .ok (.ifCond .ne 6, 3) := by decide +kernel
theorem dX9_luck_24 : decode cX9_luck 24 = .ok (.bipush (-2), 2) := by decide +kernel
theorem dX9_luck_26 : decode cX9_luck 26 = .ok (.ireturn, 1) := by decide +kernel
theorem dX9_luck_27 : decode cX9_luck 27 = .ok (.aload_n 0, 1) := by decide +kernel
theorem dX9_luck_28 : decode cX9_luck 28 = .ok (.iload_n 2, 1) := by decide +kernel
theorem dX9_luck_29 : decode cX9_luck 29 = .ok (.invokevirtual 417, 3) := by decide +kernel
theorem dX9_luck_32 : decode cX9_luck 32 = .ok (.aload_n 0, 1) := by decide +kernel
theorem dX9_luck_33 : decode cX9_luck 33 = .ok (.getfield 134, 3) := by decide +kernel
theorem dX9_luck_36 : decode cX9_luck 36 = .ok (.iload_n 1, 1) := by decide +kernel
theorem dX9_luck_37 : decode cX9_luck 37 = .ok (.iaload, 1) := by decide +kernel
theorem dX9_luck_38 : decode cX9_luck 38 = .ok (.ireturn, 1) := by decide +kernel
theorem dX9_fairest_0 : decode cX9_fairest 0 = .ok (.iload_n 1, 1) := by decide +kernel
theorem dX9_fairest_1 : decode cX9_fairest 1 = .ok (.invokestatic 414, 3) := by decide +kernel
theorem dX9_fairest_4 : decode cX9_fairest 4 = .ok (.ifCond .eq 12, 3) := by decide +kernel
theorem dX9_fairest_7 : decode cX9_fairest 7 = .ok (.iload_n 2, 1) := by decide +kernel
theorem dX9_fairest_8 : decode cX9_fairest 8 = .ok (.iconst 0, 1) := by decide +kernel
theorem dX9_fairest_9 : decode cX9_fairest 9 = .ok (.iconst 1, 1) := by decide +kernel
theorem dX9_fairest_10 : decode cX9_fairest 10 = .ok (.invokestatic 342, 3) := by decide +kernel
theorem dX9_fairest_13 : decode cX9_fairest 13 = .ok (.ifCond .ne 5, 3) := by decide +kernel
theorem dX9_fairest_16 : decode cX9_fairest 16 = .ok (.iconst (-1), 1) := by decide +kernel
theorem dX9_fairest_17 : decode cX9_fairest 17 = .ok (.ireturn, 1) := by decide +kernel
theorem dX9_fairest_18 : decode cX9_fairest 18 = .ok (.aload_n 0, 1) := by decide +kernel
theorem dX9_fairest_19 : decode cX9_fairest 19 = .ok (.invokevirtual 358, 3) := by decide +kernel
theorem dX9_fairest_22 : decode cX9_fairest 22 = .ok (.ifCond .ne 6, 3) := by decide +kernel
theorem dX9_fairest_25 : decode cX9_fairest 25 = .ok (.bipush (-2), 2) := by decide +kernel
theorem dX9_fairest_27 : decode cX9_fairest 27 = .ok (.ireturn, 1) := by decide +kernel
theorem dX9_fairest_28 : decode cX9_fairest 28 = .ok (.aload_n 0, 1) := by decide +kernel
theorem dX9_fairest_29 : decode cX9_fairest 29 = .ok (.iload_n 1, 1) := by decide +kernel
theorem dX9_fairest_30 : decode cX9_fairest 30 = .ok (.invokevirtual 417, 3) := by decide +kernel
theorem dX9_fairest_33 : decode cX9_fairest 33 = .ok (.iload_n 2, 1) := by decide +kernel
theorem dX9_fairest_34 : decode cX9_fairest 34 = .ok (.ifCond .ne 10, 3) := by decide +kernel
theorem dX9_fairest_37 : decode cX9_fairest 37 = .ok (.aload_n 0, 1) := by decide +kernel
theorem dX9_fairest_38 : decode cX9_fairest 38 = .ok (.getfield 393, 3) := by decide +kernel
theorem dX9_fairest_41 : decode cX9_fairest 41 = .ok (.goto 7, 3) := by decide +kernel
theorem dX9_fairest_44 : decode cX9_fairest 44 = .ok (.aload_n 0, 1) := by decide +kernel
theorem dX9_fairest_45 : decode cX9_fairest 45 = .ok (.getfield 408, 3) := by decide +kernel
theorem dX9_fairest_48 : decode cX9_fairest 48 = .ok (.ireturn, 1) := by decide +kernel
theorem dX9_leftOut_0 : decode cX9_leftOut 0 = .ok (.iload_n 1, 1) := by decide +kernel
theorem dX9_leftOut_1 : decode cX9_leftOut 1 = .ok (.invokestatic 414, 3) := by decide +kernel
theorem dX9_leftOut_4 : decode cX9_leftOut 4 = .ok (.ifCond .eq 12, 3) := by decide +kernel
theorem dX9_leftOut_7 : decode cX9_leftOut 7 = .ok (.iload_n 2, 1) := by decide +kernel
theorem dX9_leftOut_8 : decode cX9_leftOut 8 = .ok (.iconst 0, 1) := by decide +kernel
theorem dX9_leftOut_9 : decode cX9_leftOut 9 = .ok (.iconst 1, 1) := by decide +kernel
theorem dX9_leftOut_10 : decode cX9_leftOut 10 = .ok (.invokestatic 342, 3) := by decide +kernel
theorem dX9_leftOut_13 : decode cX9_leftOut 13 = .ok (.ifCond .ne 5, 3) := by decide +kernel
theorem dX9_leftOut_16 : decode cX9_leftOut 16 = .ok (.iconst (-1), 1) := by decide +kernel
theorem dX9_leftOut_17 : decode cX9_leftOut 17 = .ok (.ireturn, 1) := by decide +kernel
theorem dX9_leftOut_18 : decode cX9_leftOut 18 = .ok (.aload_n 0, 1) := by decide +kernel
theorem dX9_leftOut_19 : decode cX9_leftOut 19 = .ok (.invokevirtual 358, 3) := by decide +kernel
theorem dX9_leftOut_22 : decode cX9_leftOut 22 = .ok (.ifCond .ne 6, 3) := by decide +kernel
theorem dX9_leftOut_25 : decode cX9_leftOut 25 = .ok (.bipush (-2), 2) := by decide +kernel
theorem dX9_leftOut_27 : decode cX9_leftOut 27 = .ok (.ireturn, 1) := by decide +kernel
theorem dX9_leftOut_28 : decode cX9_leftOut 28 = .ok (.iconst 0, 1) := by decide +kernel
theorem dX9_leftOut_29 : decode cX9_leftOut 29 = .ok (.istore_n 3, 1) := by decide +kernel
theorem dX9_leftOut_30 : decode cX9_leftOut 30 = .ok (.iconst (-1), 1) := by decide +kernel
theorem dX9_leftOut_31 : decode cX9_leftOut 31 = .ok (.istore 4, 2) := by decide +kernel
theorem dX9_leftOut_33 : decode cX9_leftOut 33 = .ok (.iconst 0, 1) := by decide +kernel
theorem dX9_leftOut_34 : decode cX9_leftOut 34 = .ok (.istore 5, 2) := by decide +kernel
theorem dX9_leftOut_36 : decode cX9_leftOut 36 = .ok (.iload 5, 2) := by decide +kernel
theorem dX9_leftOut_38 : decode cX9_leftOut 38 = .ok (.aload_n 0, 1) := by decide +kernel
theorem dX9_leftOut_39 : decode cX9_leftOut 39 = .ok (.getfield 46, 3) := by decide +kernel
theorem dX9_leftOut_42 : decode cX9_leftOut 42 = .ok (.aload_n 0, 1) := by decide +kernel
theorem dX9_leftOut_43 : decode cX9_leftOut 43 = .ok (.getfield 233, 3) := by decide +kernel
theorem dX9_leftOut_46 : decode cX9_leftOut 46 = .ok (.iaload, 1) := by decide +kernel
theorem dX9_leftOut_47 : decode cX9_leftOut 47 = .ok (.if_icmp .ge 76, 3) := by decide +kernel
theorem dX9_leftOut_50 : decode cX9_leftOut 50 = .ok (.aload_n 0, 1) := by decide +kernel
theorem dX9_leftOut_51 : decode cX9_leftOut 51 = .ok (.invokevirtual 381, 3) := by decide +kernel
theorem dX9_leftOut_54 : decode cX9_leftOut 54 = .ok (.iconst 0, 1) := by decide +kernel
theorem dX9_leftOut_55 : decode cX9_leftOut 55 = .ok (.istore 6, 2) := by decide +kernel
theorem dX9_leftOut_57 : decode cX9_leftOut 57 = .ok (.iload 6, 2) := by decide +kernel
theorem dX9_leftOut_59 : decode cX9_leftOut 59 = .ok (.aload_n 0, 1) := by decide +kernel
theorem dX9_leftOut_60 : decode cX9_leftOut 60 = .ok (.getfield 46, 3) := by decide +kernel
theorem dX9_leftOut_63 : decode cX9_leftOut 63 = .ok (.aload_n 0, 1) := by decide +kernel
theorem dX9_leftOut_64 : decode cX9_leftOut 64 = .ok (.getfield 233, 3) := by decide +kernel
theorem dX9_leftOut_67 : decode cX9_leftOut 67 = .ok (.iaload, 1) := by decide +kernel
theorem dX9_leftOut_68 : decode cX9_leftOut 68 = .ok (.if_icmp .ge 23, 3) := by decide +kernel
theorem dX9_leftOut_71 : decode cX9_leftOut 71 = .ok (.iload 6, 2) := by decide +kernel
theorem dX9_leftOut_73 : decode cX9_leftOut 73 = .ok (.iload 5, 2) := by decide +kernel
theorem dX9_leftOut_75 : decode cX9_leftOut 75 = .ok (.if_icmp .eq 10, 3) := by decide +kernel
theorem dX9_leftOut_78 : decode cX9_leftOut 78 = .ok (.aload_n 0, 1) := by decide +kernel
theorem dX9_leftOut_79 : decode cX9_leftOut 79 = .ok (.iload 6, 2) := by decide +kernel
theorem dX9_leftOut_81 : decode cX9_leftOut 81 = .ok (.iload_n 1, 1) := by decide +kernel
theorem dX9_leftOut_82 : decode cX9_leftOut 82 = .ok (.invokevirtual 384, 3) := by decide +kernel
theorem dX9_leftOut_85 : decode cX9_leftOut 85 = .ok (.iinc 6 1, 3) := by decide +kernel
theorem dX9_leftOut_88 : decode cX9_leftOut 88 = .ok (.goto (-31), 3) := by decide +kernel
theorem dX9_leftOut_91 : decode cX9_leftOut 91 = .ok (.iload 4, 2) := by decide +kernel
theorem dX9_leftOut_93 : decode cX9_leftOut 93 = .ok (.ifCond .lt 15, 3) := by decide +kernel
theorem dX9_leftOut_96 : decode cX9_leftOut 96 = .ok (.aload_n 0, 1) := by decide +kernel
theorem dX9_leftOut_97 : decode cX9_leftOut 97 = .ok (.getfield 378, 3) := by decide +kernel
theorem dX9_leftOut_100 : decode cX9_leftOut 100 = .ok (.iload 4, 2) := by decide +kernel
theorem dX9_leftOut_102 : decode cX9_leftOut 102 = .ok (.if_icmp .lt 6, 3) := by decide +kernel
theorem dX9_leftOut_105 : decode cX9_leftOut 105 = .ok (.goto 12, 3) := by decide +kernel
theorem dX9_leftOut_108 : decode cX9_leftOut 108 = .ok (.iload 5, 2) := by decide +kernel
theorem dX9_leftOut_110 : decode cX9_leftOut 110 = .ok (.istore_n 3, 1) := by decide +kernel
theorem dX9_leftOut_111 : decode cX9_leftOut 111 = .ok (.aload_n 0, 1) := by decide +kernel
theorem dX9_leftOut_112 : decode cX9_leftOut 112 = .ok (.getfield 378, 3) := by decide +kernel
theorem dX9_leftOut_115 : decode cX9_leftOut 115 = .ok (.istore 4, 2) := by decide +kernel
theorem dX9_leftOut_117 : decode cX9_leftOut 117 = .ok (.iinc 5 1, 3) := by decide +kernel
theorem dX9_leftOut_120 : decode cX9_leftOut 120 = .ok (.goto (-84), 3) := by decide +kernel
theorem dX9_leftOut_123 : decode cX9_leftOut 123 = .ok (.iload_n 2, 1) := by decide +kernel
theorem dX9_leftOut_124 : decode cX9_leftOut 124 = .ok (.ifCond .ne 7, 3) := by decide +kernel
theorem dX9_leftOut_127 : decode cX9_leftOut 127 = .ok (.iload_n 3, 1) := by decide +kernel
theorem dX9_leftOut_128 : decode cX9_leftOut 128 = .ok (.goto 5, 3) := by decide +kernel
theorem dX9_leftOut_131 : decode cX9_leftOut 131 = .ok (.iload 4, 2) := by decide +kernel
theorem dX9_leftOut_133 : decode cX9_leftOut 133 = .ok (.ireturn, 1) := by decide +kernel
theorem dX9_cryIf_0 : decode cX9_cryIf 0 = .ok (.aload_n 0, 1) := by decide +kernel
theorem dX9_cryIf_1 : decode cX9_cryIf 1 = .ok (.invokevirtual 352, 3) := by decide +kernel
theorem dX9_cryIf_4 : decode cX9_cryIf 4 = .ok (.iload_n 1, 1) := by decide +kernel
theorem dX9_cryIf_5 : decode cX9_cryIf 5 = .ok (.iconst 1, 1) := by decide +kernel
theorem dX9_cryIf_6 : decode cX9_cryIf 6 = .ok (.if_icmp .ne 7, 3) := by decide +kernel
theorem dX9_cryIf_9 : decode cX9_cryIf 9 = .ok (.aload_n 0, 1) := by decide +kernel
theorem dX9_cryIf_10 : decode cX9_cryIf 10 = .ok (.invokevirtual 365, 3) := by decide +kernel
theorem dX9_cryIf_13 : decode cX9_cryIf 13 = .ok (.iload_n 1, 1) := by decide +kernel
theorem dX9_cryIf_14 : decode cX9_cryIf 14 = .ok (.iconst 2, 1) := by decide +kernel
theorem dX9_cryIf_15 : decode cX9_cryIf 15 = .ok (.if_icmp .ne 7, 3) := by decide +kernel
theorem dX9_cryIf_18 : decode cX9_cryIf 18 = .ok (.aload_n 0, 1) := by decide +kernel
theorem dX9_cryIf_19 : decode cX9_cryIf 19 = .ok (.invokevirtual 330, 3) := by decide +kernel
theorem dX9_cryIf_22 : decode cX9_cryIf 22 = .ok (.iload_n 1, 1) := by decide +kernel
theorem dX9_cryIf_23 : decode cX9_cryIf 23 = .ok (.iconst 3, 1) := by decide +kernel
theorem dX9_cryIf_24 : decode cX9_cryIf 24 = .ok (.if_icmp .ne 19, 3) := by decide +kernel
theorem dX9_cryIf_27 : decode cX9_cryIf 27 = .ok (.aload_n 0, 1) := by decide +kernel
theorem dX9_cryIf_28 : decode cX9_cryIf 28 = .ok (.getfield 113, 3) := by decide +kernel
theorem dX9_cryIf_31 : decode cX9_cryIf 31 = .ok (.bipush 9, 2) := by decide +kernel
theorem dX9_cryIf_33 : decode cX9_cryIf 33 = .ok (.iconst 1, 1) := by decide +kernel
theorem dX9_cryIf_34 : decode cX9_cryIf 34 = .ok (.aload_n 0, 1) := by decide +kernel
theorem dX9_cryIf_35 : decode cX9_cryIf 35 = .ok (.getfield 113, 3) := by decide +kernel
theorem dX9_cryIf_38 : decode cX9_cryIf 38 = .ok (.bipush 9, 2) := by decide +kernel
theorem dX9_cryIf_40 : decode cX9_cryIf 40 = .ok (.iaload, 1) := by decide +kernel
theorem dX9_cryIf_41 : decode cX9_cryIf 41 = .ok (.isub, 1) := by decide +kernel
theorem dX9_cryIf_42 : decode cX9_cryIf 42 = .ok (.iastore, 1) := by decide +kernel
theorem dX9_cryIf_43 : decode cX9_cryIf 43 = .ok (.iload_n 1, 1) := by decide +kernel
theorem dX9_cryIf_44 : decode cX9_cryIf 44 = .ok (.iconst 3, 1) := by decide +kernel
theorem dX9_cryIf_45 : decode cX9_cryIf 45 = .ok (.if_icmp .le 17, 3) := by decide +kernel
theorem dX9_cryIf_48 : decode cX9_cryIf 48 = .ok (.iload_n 1, 1) := by decide +kernel
theorem dX9_cryIf_49 : decode cX9_cryIf 49 = .ok (.iconst 4, 1) := by decide +kernel
theorem dX9_cryIf_50 : decode cX9_cryIf 50 = .ok (.isub, 1) := by decide +kernel
theorem dX9_cryIf_51 : decode cX9_cryIf 51 = .ok (.aload_n 0, 1) := by decide +kernel
theorem dX9_cryIf_52 : decode cX9_cryIf 52 = .ok (.getfield 113, 3) := by decide +kernel
theorem dX9_cryIf_55 : decode cX9_cryIf 55 = .ok (.iconst 4, 1) := by decide +kernel
theorem dX9_cryIf_56 : decode cX9_cryIf 56 = .ok (.iaload, 1) := by decide +kernel
theorem dX9_cryIf_57 : decode cX9_cryIf 57 = .ok (.if_icmp .ne 5, 3) := by decide +kernel
theorem dX9_cryIf_60 : decode cX9_cryIf 60 = .ok (.iconst (-1), 1) := by decide +kernel
theorem dX9_cryIf_61 : decode cX9_cryIf 61 = .ok (.ireturn, 1) := by decide +kernel
theorem dX9_cryIf_62 : decode cX9_cryIf 62 = .ok (.iload_n 1, 1) := by decide +kernel
theorem dX9_cryIf_63 : decode cX9_cryIf 63 = .ok (.iconst 3, 1) := by decide +kernel
theorem dX9_cryIf_64 : decode cX9_cryIf 64 = .ok (.if_icmp .le 10, 3) := by decide +kernel
theorem dX9_cryIf_67 : decode cX9_cryIf 67 = .ok (.aload_n 0, 1) := by decide +kernel
theorem dX9_cryIf_68 : decode cX9_cryIf 68 = .ok (.iload_n 1, 1) := by decide +kernel
theorem dX9_cryIf_69 : decode cX9_cryIf 69 = .ok (.iconst 4, 1) := by decide +kernel
theorem dX9_cryIf_70 : decode cX9_cryIf 70 = .ok (.isub, 1) := by decide +kernel
theorem dX9_cryIf_71 : decode cX9_cryIf 71 = .ok (.invokevirtual 362, 3) := by decide +kernel
theorem dX9_cryIf_74 : decode cX9_cryIf 74 = .ok (.aload_n 0, 1) := by decide +kernel
theorem dX9_cryIf_75 : decode cX9_cryIf 75 = .ok (.iload_n 2, 1) := by decide +kernel
theorem dX9_cryIf_76 : decode cX9_cryIf 76 = .ok (.invokevirtual 372, 3) := by decide +kernel
theorem dX9_cryIf_79 : decode cX9_cryIf 79 = .ok (.ireturn, 1) := by decide +kernel
theorem dX9_wants_0 : decode cX9_wants 0 = .ok (.iload_n 1, 1) := by decide +kernel
theorem dX9_wants_1 : decode cX9_wants 1 = .ok (.iconst 1, 1) := by decide +kernel
theorem dX9_wants_2 : decode cX9_wants 2 = .ok (.bipush 120, 2) := by decide +kernel
theorem dX9_wants_4 : decode cX9_wants 4 = .ok (.invokestatic 342, 3) := by decide +kernel
theorem dX9_wants_7 : decode cX9_wants 7 = .ok (.ifCond .eq 12, 3) := by decide +kernel
theorem dX9_wants_10 : decode cX9_wants 10 = .ok (.iload_n 2, 1) := by decide +kernel
theorem dX9_wants_11 : decode cX9_wants 11 = .ok (.iconst 0, 1) := by decide +kernel
theorem dX9_wants_12 : decode cX9_wants 12 = .ok (.iconst 1, 1) := by decide +kernel
theorem dX9_wants_13 : decode cX9_wants 13 = .ok (.invokestatic 342, 3) := by decide +kernel
theorem dX9_wants_16 : decode cX9_wants 16 = .ok (.ifCond .ne 5, 3) := by decide +kernel
theorem dX9_wants_19 : decode cX9_wants 19 = .ok (.iconst (-1), 1) := by decide +kernel
theorem dX9_wants_20 : decode cX9_wants 20 = .ok (.ireturn, 1) := by decide +kernel
theorem dX9_wants_21 : decode cX9_wants 21 = .ok (.aload_n 0, 1) := by decide +kernel
theorem dX9_wants_22 : decode cX9_wants 22 = .ok (.invokevirtual 358, 3) := by decide +kernel
theorem dX9_wants_25 : decode cX9_wants 25 = .ok (.ifCond .ne 6, 3) := by decide +kernel
theorem dX9_wants_28 : decode cX9_wants 28 = .ok (.bipush (-2), 2) := by decide +kernel
theorem dX9_wants_30 : decode cX9_wants 30 = .ok (.ireturn, 1) := by decide +kernel
theorem dX9_wants_31 : decode cX9_wants 31 = .ok (.iconst 0, 1) := by decide +kernel
theorem dX9_wants_32 : decode cX9_wants 32 = .ok (.istore_n 3, 1) := by decide +kernel
theorem dX9_wants_33 : decode cX9_wants 33 = .ok (.aload_n 0, 1) := by decide +kernel
theorem dX9_wants_34 : decode cX9_wants 34 = .ok (.iconst 0, 1) := by decide +kernel
theorem dX9_wants_35 : decode cX9_wants 35 = .ok (.iload_n 1, 1) := by decide +kernel
theorem dX9_wants_36 : decode cX9_wants 36 = .ok (.invokevirtual 420, 3) := by decide +kernel
theorem dX9_wants_39 : decode cX9_wants 39 = .ok (.istore 4, 2) := by decide +kernel
theorem dX9_wants_41 : decode cX9_wants 41 = .ok (.iconst 1, 1) := by decide +kernel
theorem dX9_wants_42 : decode cX9_wants 42 = .ok (.istore 5, 2) := by decide +kernel
theorem dX9_wants_44 : decode cX9_wants 44 = .ok (.iload 5, 2) := by decide +kernel
theorem dX9_wants_46 : decode cX9_wants 46 = .ok (.iconst 4, 1) := by decide +kernel
theorem dX9_wants_47 : decode cX9_wants 47 = .ok (.aload_n 0, 1) := by decide +kernel
theorem dX9_wants_48 : decode cX9_wants 48 = .ok (.getfield 46, 3) := by decide +kernel
theorem dX9_wants_51 : decode cX9_wants 51 = .ok (.aload_n 0, 1) := by decide +kernel
theorem dX9_wants_52 : decode cX9_wants 52 = .ok (.getfield 233, 3) := by decide +kernel
theorem dX9_wants_55 : decode cX9_wants 55 = .ok (.iaload, 1) := by decide +kernel
theorem dX9_wants_56 : decode cX9_wants 56 = .ok (.iadd, 1) := by decide +kernel
theorem dX9_wants_57 : decode cX9_wants 57 = .ok (.if_icmp .ge 40, 3) := by decide +kernel
theorem dX9_wants_60 : decode cX9_wants 60 = .ok (.aload_n 0, 1) := by decide +kernel
theorem dX9_wants_61 : decode cX9_wants 61 = .ok (.iload 5, 2) := by decide +kernel
theorem dX9_wants_63 : decode cX9_wants 63 = .ok (.iload_n 1, 1) := by decide +kernel
theorem dX9_wants_64 : decode cX9_wants 64 = .ok (.invokevirtual 420, 3) := by decide +kernel
theorem dX9_wants_67 : decode cX9_wants 67 = .ok (.istore 6, 2) := by decide +kernel
theorem dX9_wants_69 : decode cX9_wants 69 = .ok (.iload 6, 2) := by decide +kernel
theorem dX9_wants_71 : decode cX9_wants 71 = .ok (.ifCond .lt 20, 3) := by decide +kernel
theorem dX9_wants_74 : decode cX9_wants 74 = .ok (.iload 6, 2) := by decide +kernel
theorem dX9_wants_76 : decode cX9_wants 76 = .ok (.iload 4, 2) := by decide +kernel
theorem dX9_wants_78 : decode cX9_wants 78 = .ok (.if_icmp .lt 6, 3) := by decide +kernel
theorem dX9_wants_81 : decode cX9_wants 81 = .ok (.goto 10, 3) := by decide +kernel
theorem dX9_wants_84 : decode cX9_wants 84 = .ok (.iload 5, 2) := by decide +kernel
theorem dX9_wants_86 : decode cX9_wants 86 = .ok (.istore_n 3, 1) := by decide +kernel
theorem dX9_wants_87 : decode cX9_wants 87 = .ok (.iload 6, 2) := by decide +kernel
theorem dX9_wants_89 : decode cX9_wants 89 = .ok (.istore 4, 2) := by decide +kernel
theorem dX9_wants_91 : decode cX9_wants 91 = .ok (.iinc 5 1, 3) := by decide +kernel
theorem dX9_wants_94 : decode cX9_wants 94 = .ok (.goto (-50), 3) := by decide +kernel
theorem dX9_wants_97 : decode cX9_wants 97 = .ok (.iload_n 2, 1) := by decide +kernel
theorem dX9_wants_98 : decode cX9_wants 98 = .ok (.ifCond .ne 7, 3) := by decide +kernel
theorem dX9_wants_101 : decode cX9_wants 101 = .ok (.iload_n 3, 1) := by decide +kernel
theorem dX9_wants_102 : decode cX9_wants 102 = .ok (.goto 5, 3) := by decide +kernel
theorem dX9_wants_105 : decode cX9_wants 105 = .ok (.iload 4, 2) := by decide +kernel
theorem dX9_wants_107 : decode cX9_wants 107 = .ok (.ireturn, 1) := by decide +kernel
theorem dX9_cryInSight_0 : decode cX9_cryInSight 0 = .ok (.aload_n 0, 1) := by decide +kernel
theorem dX9_cryInSight_1 : decode cX9_cryInSight 1 = .ok (.invokevirtual 352, 3) := by decide +kernel
theorem dX9_cryInSight_4 : decode cX9_cryInSight 4 = .ok (.aload_n 0, 1) := by decide +kernel
theorem dX9_cryInSight_5 : decode cX9_cryInSight 5 = .ok (.getfield 113, 3) := by decide +kernel
theorem dX9_cryInSight_8 : decode cX9_cryInSight 8 = .ok (.bipush 9, 2) := by decide +kernel
theorem dX9_cryInSight_10 : decode cX9_cryInSight 10 = .ok (.iconst 1, 1) := by decide +kernel
theorem dX9_cryInSight_11 : decode cX9_cryInSight 11 = .ok (.iastore, 1) := by decide +kernel
theorem dX9_cryInSight_12 : decode cX9_cryInSight 12 = .ok (.aload_n 0, 1) := by decide +kernel
theorem dX9_cryInSight_13 : decode cX9_cryInSight 13 = .ok (.iload_n 1, 1) := by decide +kernel
theorem dX9_cryInSight_14 : decode cX9_cryInSight 14 = .ok (.invokevirtual 372, 3) := by decide +kernel
theorem dX9_cryInSight_17 : decode cX9_cryInSight 17 = .ok (.istore_n 3, 1) := by decide +kernel
theorem dX9_cryInSight_18 : decode cX9_cryInSight 18 = .ok (.aload_n 0, 1) := by decide +kernel
theorem dX9_cryInSight_19 : decode cX9_cryInSight 19 = .ok (.getfield 113, 3) := by decide +kernel
theorem dX9_cryInSight_22 : decode cX9_cryInSight 22 = .ok (.bipush 9, 2) := by decide +kernel
theorem dX9_cryInSight_24 : decode cX9_cryInSight 24 = .ok (.iconst 0, 1) := by decide +kernel
theorem dX9_cryInSight_25 : decode cX9_cryInSight 25 = .ok (.iastore, 1) := by decide +kernel
theorem dX9_cryInSight_26 : decode cX9_cryInSight 26 = .ok (.iload_n 3, 1) := by decide +kernel
theorem dX9_cryInSight_27 : decode cX9_cryInSight 27 = .ok (.aload_n 0, 1) := by decide +kernel
theorem dX9_cryInSight_28 : decode cX9_cryInSight 28 = .ok (.iload_n 2, 1) := by decide +kernel
theorem dX9_cryInSight_29 : decode cX9_cryInSight 29 = .ok (.iload_n 1, 1) := by decide +kernel
theorem dX9_cryInSight_30 : decode cX9_cryInSight 30 = .ok (.isub, 1) := by decide +kernel
theorem dX9_cryInSight_31 : decode cX9_cryInSight 31 = .ok (.invokevirtual 372, 3) := by decide +kernel
theorem dX9_cryInSight_34 : decode cX9_cryInSight 34 = .ok (.iadd, 1) := by decide +kernel
theorem dX9_cryInSight_35 : decode cX9_cryInSight 35 = .ok (.ireturn, 1) := by decide +kernel
theorem dX9_moment_0 : decode cX9_moment 0 = .ok (.iload_n 1, 1) := by decide +kernel
theorem dX9_moment_1 : decode cX9_moment 1 = .ok (.iconst 1, 1) := by decide +kernel
theorem dX9_moment_2 : decode cX9_moment 2 = .ok (.bipush 120, 2) := by decide +kernel
theorem dX9_moment_4 : decode cX9_moment 4 = .ok (.invokestatic 342, 3) := by decide +kernel
theorem dX9_moment_7 : decode cX9_moment 7 = .ok (.ifCond .ne 7, 3) := by decide +kernel
theorem dX9_moment_10 : decode cX9_moment 10 = .ok (.ldc_w 423, 3) := by decide +kernel
theorem dX9_moment_13 : decode cX9_moment 13 = .ok (.ireturn, 1) := by decide +kernel
theorem dX9_moment_14 : decode cX9_moment 14 = .ok (.aload_n 0, 1) := by decide +kernel
theorem dX9_moment_15 : decode cX9_moment 15 = .ok (.iconst 1, 1) := by decide +kernel
theorem dX9_moment_16 : decode cX9_moment 16 = .ok (.iload_n 1, 1) := by decide +kernel
theorem dX9_moment_17 : decode cX9_moment 17 = .ok (.invokevirtual 424, 3) := by decide +kernel
theorem dX9_moment_20 : decode cX9_moment 20 = .ok (.aload_n 0, 1) := by decide +kernel
theorem dX9_moment_21 : decode cX9_moment 21 = .ok (.iconst 0, 1) := by decide +kernel
theorem dX9_moment_22 : decode cX9_moment 22 = .ok (.iload_n 1, 1) := by decide +kernel
theorem dX9_moment_23 : decode cX9_moment 23 = .ok (.invokevirtual 424, 3) := by decide +kernel
theorem dX9_moment_26 : decode cX9_moment 26 = .ok (.isub, 1) := by decide +kernel
theorem dX9_moment_27 : decode cX9_moment 27 = .ok (.ireturn, 1) := by decide +kernel
theorem dX9_inSight_0 : decode cX9_inSight 0 = .ok (.iload_n 1, 1) := by decide +kernel
theorem dX9_inSight_1 : decode cX9_inSight 1 = .ok (.iconst 1, 1) := by decide +kernel
theorem dX9_inSight_2 : decode cX9_inSight 2 = .ok (.bipush 60, 2) := by decide +kernel
theorem dX9_inSight_4 : decode cX9_inSight 4 = .ok (.invokestatic 342, 3) := by decide +kernel
theorem dX9_inSight_7 : decode cX9_inSight 7 = .ok (.ifCond .eq 12, 3) := by decide +kernel
theorem dX9_inSight_10 : decode cX9_inSight 10 = .ok (.iload_n 2, 1) := by decide +kernel
theorem dX9_inSight_11 : decode cX9_inSight 11 = .ok (.iconst 0, 1) := by decide +kernel
theorem dX9_inSight_12 : decode cX9_inSight 12 = .ok (.iconst 1, 1) := by decide +kernel
theorem dX9_inSight_13 : decode cX9_inSight 13 = .ok (.invokestatic 342, 3) := by decide +kernel
theorem dX9_inSight_16 : decode cX9_inSight 16 = .ok (.ifCond .ne 5, 3) := by decide +kernel
theorem dX9_inSight_19 : decode cX9_inSight 19 = .ok (.iconst (-1), 1) := by decide +kernel
theorem dX9_inSight_20 : decode cX9_inSight 20 = .ok (.ireturn, 1) := by decide +kernel
theorem dX9_inSight_21 : decode cX9_inSight 21 = .ok (.iconst 0, 1) := by decide +kernel
theorem dX9_inSight_22 : decode cX9_inSight 22 = .ok (.istore_n 3, 1) := by decide +kernel
theorem dX9_inSight_23 : decode cX9_inSight 23 = .ok (.iconst (-1), 1) := by decide +kernel
theorem dX9_inSight_24 : decode cX9_inSight 24 = .ok (.istore 4, 2) := by decide +kernel
theorem dX9_inSight_26 : decode cX9_inSight 26 = .ok (.iconst 0, 1) := by decide +kernel
theorem dX9_inSight_27 : decode cX9_inSight 27 = .ok (.istore 5, 2) := by decide +kernel
theorem dX9_inSight_29 : decode cX9_inSight 29 = .ok (.iload 5, 2) := by decide +kernel
theorem dX9_inSight_31 : decode cX9_inSight 31 = .ok (.iload_n 1, 1) := by decide +kernel
theorem dX9_inSight_32 : decode cX9_inSight 32 = .ok (.if_icmp .gt 40, 3) := by decide +kernel
theorem dX9_inSight_35 : decode cX9_inSight 35 = .ok (.aload_n 0, 1) := by decide +kernel
theorem dX9_inSight_36 : decode cX9_inSight 36 = .ok (.iload 5, 2) := by decide +kernel
theorem dX9_inSight_38 : decode cX9_inSight 38 = .ok (.iload_n 1, 1) := by decide +kernel
theorem dX9_inSight_39 : decode cX9_inSight 39 = .ok (.invokevirtual 424, 3) := by decide +kernel
theorem dX9_inSight_42 : decode cX9_inSight 42 = .ok (.istore 6, 2) := by decide +kernel
theorem dX9_inSight_44 : decode cX9_inSight 44 = .ok (.iload 4, 2) := by decide +kernel
theorem dX9_inSight_46 : decode cX9_inSight 46 = .ok (.ifCond .lt 13, 3) := by decide +kernel
theorem dX9_inSight_49 : decode cX9_inSight 49 = .ok (.iload 6, 2) := by decide +kernel
theorem dX9_inSight_51 : decode cX9_inSight 51 = .ok (.iload 4, 2) := by decide +kernel
theorem dX9_inSight_53 : decode cX9_inSight 53 = .ok (.if_icmp .lt 6, 3) := by decide +kernel
theorem dX9_inSight_56 : decode cX9_inSight 56 = .ok (.goto 10, 3) := by decide +kernel
theorem dX9_inSight_59 : decode cX9_inSight 59 = .ok (.iload 5, 2) := by decide +kernel
theorem dX9_inSight_61 : decode cX9_inSight 61 = .ok (.istore_n 3, 1) := by decide +kernel
theorem dX9_inSight_62 : decode cX9_inSight 62 = .ok (.iload 6, 2) := by decide +kernel
theorem dX9_inSight_64 : decode cX9_inSight 64 = .ok (.istore 4, 2) := by decide +kernel
theorem dX9_inSight_66 : decode cX9_inSight 66 = .ok (.iinc 5 1, 3) := by decide +kernel
theorem dX9_inSight_69 : decode cX9_inSight 69 = .ok (.goto (-40), 3) := by decide +kernel
theorem dX9_inSight_72 : decode cX9_inSight 72 = .ok (.iload_n 2, 1) := by decide +kernel
theorem dX9_inSight_73 : decode cX9_inSight 73 = .ok (.ifCond .ne 7, 3) := by decide +kernel
theorem dX9_inSight_76 : decode cX9_inSight 76 = .ok (.iload_n 3, 1) := by decide +kernel
theorem dX9_inSight_77 : decode cX9_inSight 77 = .ok (.goto 5, 3) := by decide +kernel
theorem dX9_inSight_80 : decode cX9_inSight 80 = .ok (.iload 4, 2) := by decide +kernel
theorem dX9_inSight_82 : decode cX9_inSight 82 = .ok (.ireturn, 1) := by decide +kernel
theorem dX9_beat_0 : decode cX9_beat 0 = .ok (.aload_n 0, 1) := by decide +kernel
theorem dX9_beat_1 : decode cX9_beat 1 = .ok (.iload_n 1, 1) := by decide +kernel
theorem dX9_beat_2 : decode cX9_beat 2 = .ok (.invokevirtual 349, 3) := by decide +kernel
theorem dX9_beat_5 : decode cX9_beat 5 = .ok (.ifCond .eq 22, 3) := by decide +kernel
theorem dX9_beat_8 : decode cX9_beat 8 = .ok (.iload_n 2, 1) := by decide +kernel
theorem dX9_beat_9 : decode cX9_beat 9 = .ok (.iconst 1, 1) := by decide +kernel
theorem dX9_beat_10 : decode cX9_beat 10 = .ok (.bipush 120, 2) := by decide +kernel
theorem dX9_beat_12 : decode cX9_beat 12 = .ok (.invokestatic 342, 3) := by decide +kernel
theorem dX9_beat_15 : decode cX9_beat 15 = .ok (.ifCond .eq 12, 3) := by decide +kernel
theorem dX9_beat_18 : decode cX9_beat 18 = .ok (.iload_n 3, 1) := by decide +kernel
theorem dX9_beat_19 : decode cX9_beat 19 = .ok (.iconst 0, 1) := by decide +kernel
theorem dX9_beat_20 : decode cX9_beat 20 = .ok (.iconst 1, 1) := by decide +kernel
theorem dX9_beat_21 : decode cX9_beat 21 = .ok (.invokestatic 342, 3) := by decide +kernel
theorem dX9_beat_24 : decode cX9_beat 24 = .ok (.ifCond .ne 5, 3) := by decide +kernel
theorem dX9_beat_27 : decode cX9_beat 27 = .ok (.iconst (-1), 1) := by decide +kernel
theorem dX9_beat_28 : decode cX9_beat 28 = .ok (.ireturn, 1) := by decide +kernel
theorem dX9_beat_29 : decode cX9_beat 29 = .ok (.aload_n 0, 1) := by decide +kernel
theorem dX9_beat_30 : decode cX9_beat 30 = .ok (.invokevirtual 358, 3) := by decide +kernel
theorem dX9_beat_33 : decode cX9_beat 33 = .ok (.ifCond .ne 6, 3) := by decide +kernel
theorem dX9_beat_36 : decode cX9_beat 36 = .ok (.bipush (-2), 2) := by decide +kernel
theorem dX9_beat_38 : decode cX9_beat 38 = .ok (.ireturn, 1) := by decide +kernel
theorem dX9_beat_39 : decode cX9_beat 39 = .ok (.iconst 0, 1) := by decide +kernel
theorem dX9_beat_40 : decode cX9_beat 40 = .ok (.istore 4, 2) := by decide +kernel
theorem dX9_beat_42 : decode cX9_beat 42 = .ok (.iconst (-1), 1) := by decide +kernel
theorem dX9_beat_43 : decode cX9_beat 43 = .ok (.istore 5, 2) := by decide +kernel
theorem dX9_beat_45 : decode cX9_beat 45 = .ok (.iconst 0, 1) := by decide +kernel
theorem dX9_beat_46 : decode cX9_beat 46 = .ok (.istore 6, 2) := by decide +kernel
theorem dX9_beat_48 : decode cX9_beat 48 = .ok (.iload 6, 2) := by decide +kernel
theorem dX9_beat_50 : decode cX9_beat 50 = .ok (.bipush 10, 2) := by decide +kernel
theorem dX9_beat_52 : decode cX9_beat 52 = .ok (.if_icmp .ge 69, 3) := by decide +kernel
theorem dX9_beat_55 : decode cX9_beat 55 = .ok (.aload_n 0, 1) := by decide +kernel
theorem dX9_beat_56 : decode cX9_beat 56 = .ok (.invokevirtual 352, 3) := by decide +kernel
theorem dX9_beat_59 : decode cX9_beat 59 = .ok (.aload_n 0, 1) := by decide +kernel
theorem dX9_beat_60 : decode cX9_beat 60 = .ok (.getfield 113, 3) := by decide +kernel
theorem dX9_beat_63 : decode cX9_beat 63 = .ok (.iconst 4, 1) := by decide +kernel
theorem dX9_beat_64 : decode cX9_beat 64 = .ok (.iaload, 1) := by decide +kernel
theorem dX9_beat_65 : decode cX9_beat 65 = .ok (.iload_n 1, 1) := by decide +kernel
theorem dX9_beat_66 : decode cX9_beat 66 = .ok (.if_icmp .eq 8, 3) := by decide +kernel
theorem dX9_beat_69 : decode cX9_beat 69 = .ok (.aload_n 0, 1) := by decide +kernel
theorem dX9_beat_70 : decode cX9_beat 70 = .ok (.iload_n 1, 1) := by decide +kernel
theorem dX9_beat_71 : decode cX9_beat 71 = .ok (.invokevirtual 362, 3) := by decide +kernel
theorem dX9_beat_74 : decode cX9_beat 74 = .ok (.aload_n 0, 1) := by decide +kernel
theorem dX9_beat_75 : decode cX9_beat 75 = .ok (.iload_n 1, 1) := by decide +kernel
theorem dX9_beat_76 : decode cX9_beat 76 = .ok (.putfield 300, 3) := by decide +kernel
theorem dX9_beat_79 : decode cX9_beat 79 = .ok (.aload_n 0, 1) := by decide +kernel
theorem dX9_beat_80 : decode cX9_beat 80 = .ok (.iload 6, 2) := by decide +kernel
theorem dX9_beat_82 : decode cX9_beat 82 = .ok (.putfield 303, 3) := by decide +kernel
theorem dX9_beat_85 : decode cX9_beat 85 = .ok (.aload_n 0, 1) := by decide +kernel
theorem dX9_beat_86 : decode cX9_beat 86 = .ok (.iload_n 2, 1) := by decide +kernel
theorem dX9_beat_87 : decode cX9_beat 87 = .ok (.invokevirtual 372, 3) := by decide +kernel
theorem dX9_beat_90 : decode cX9_beat 90 = .ok (.istore 7, 2) := by decide +kernel
theorem dX9_beat_92 : decode cX9_beat 92 = .ok (.iload 5, 2) := by decide +kernel
theorem dX9_beat_94 : decode cX9_beat 94 = .ok (.ifCond .lt 13, 3) := by decide +kernel
theorem dX9_beat_97 : decode cX9_beat 97 = .ok (.iload 7, 2) := by decide +kernel
theorem dX9_beat_99 : decode cX9_beat 99 = .ok (.iload 5, 2) := by decide +kernel
theorem dX9_beat_101 : decode cX9_beat 101 = .ok (.if_icmp .lt 6, 3) := by decide +kernel
theorem dX9_beat_104 : decode cX9_beat 104 = .ok (.goto 11, 3) := by decide +kernel
theorem dX9_beat_107 : decode cX9_beat 107 = .ok (.iload 6, 2) := by decide +kernel
theorem dX9_beat_109 : decode cX9_beat 109 = .ok (.istore 4, 2) := by decide +kernel
theorem dX9_beat_111 : decode cX9_beat 111 = .ok (.iload 7, 2) := by decide +kernel
theorem dX9_beat_113 : decode cX9_beat 113 = .ok (.istore 5, 2) := by decide +kernel
theorem dX9_beat_115 : decode cX9_beat 115 = .ok (.iinc 6 1, 3) := by decide +kernel
theorem dX9_beat_118 : decode cX9_beat 118 = .ok (.goto (-70), 3) := by decide +kernel
theorem dX9_beat_121 : decode cX9_beat 121 = .ok (.iload_n 3, 1) := by decide +kernel
theorem dX9_beat_122 : decode cX9_beat 122 = .ok (.ifCond .ne 8, 3) := by decide +kernel
theorem dX9_beat_125 : decode cX9_beat 125 = .ok (.iload 4, 2) := by decide +kernel
theorem dX9_beat_127 : decode cX9_beat 127 = .ok (.goto 5, 3) := by decide +kernel
theorem dX9_beat_130 : decode cX9_beat 130 = .ok (.iload 5, 2) := by decide +kernel
theorem dX9_beat_132 : decode cX9_beat 132 = .ok (.ireturn, 1) := by decide +kernel
theorem dX9_fewestOther_0 : decode cX9_fewestOther 0 = .ok (.iconst (-1), 1) := by decide +kernel
theorem dX9_fewestOther_1 : decode cX9_fewestOther 1 = .ok (.istore_n 1, 1) := by decide +kernel
theorem dX9_fewestOther_2 : decode cX9_fewestOther 2 = .ok (.iconst 0, 1) := by decide +kernel
theorem dX9_fewestOther_3 : decode cX9_fewestOther 3 = .ok (.istore_n 2, 1) := by decide +kernel
theorem dX9_fewestOther_4 : decode cX9_fewestOther 4 = .ok (.iload_n 2, 1) := by decide +kernel
theorem dX9_fewestOther_5 : decode cX9_fewestOther 5 = .ok (.aload_n 0, 1) := by decide +kernel
theorem dX9_fewestOther_6 : decode cX9_fewestOther 6 = .ok (.getfield 46, 3) := by decide +kernel
theorem dX9_fewestOther_9 : decode cX9_fewestOther 9 = .ok (.aload_n 0, 1) := by decide +kernel
theorem dX9_fewestOther_10 : decode cX9_fewestOther 10 = .ok (.getfield 233, 3) := by decide +kernel
theorem dX9_fewestOther_13 : decode cX9_fewestOther 13 = .ok (.iaload, 1) := by decide +kernel
theorem dX9_fewestOther_14 : decode cX9_fewestOther 14 = .ok (.if_icmp .ge 46, 3) := by decide +kernel
theorem dX9_fewestOther_17 : decode cX9_fewestOther 17 = .ok (.iload_n 2, 1) := by decide +kernel
theorem dX9_fewestOther_18 : decode cX9_fewestOther 18 = .ok (.aload_n 0, 1) := by decide +kernel
theorem dX9_fewestOther_19 : decode cX9_fewestOther 19 = .ok (.getfield 113, 3) := by decide +kernel
theorem dX9_fewestOther_22 : decode cX9_fewestOther 22 = .ok (.iconst 4, 1) := by decide +kernel
theorem dX9_fewestOther_23 : decode cX9_fewestOther 23 = .ok (.iaload, 1) := by decide +kernel
theorem dX9_fewestOther_24 : decode cX9_fewestOther 24 = .ok (.if_icmp .eq 30, 3) := by decide +kernel
theorem dX9_fewestOther_27 : decode cX9_fewestOther 27 = .ok (.iload_n 1, 1) := by decide +kernel
theorem dX9_fewestOther_28 : decode cX9_fewestOther 28 = .ok (.ifCond .lt 24, 3) := by decide +kernel
theorem dX9_fewestOther_31 : decode cX9_fewestOther 31 = .ok (.aload_n 0, 1) := by decide +kernel
theorem dX9_fewestOther_32 : decode cX9_fewestOther 32 = .ok (.getfield 113, 3) := by decide +kernel
theorem dX9_fewestOther_35 : decode cX9_fewestOther 35 = .ok (.bipush 20, 2) := by decide +kernel
theorem dX9_fewestOther_37 : decode cX9_fewestOther 37 = .ok (.iload_n 2, 1) := by decide +kernel
theorem dX9_fewestOther_38 : decode cX9_fewestOther 38 = .ok (.iadd, 1) := by decide +kernel
theorem dX9_fewestOther_39 : decode cX9_fewestOther 39 = .ok (.iaload, 1) := by decide +kernel
theorem dX9_fewestOther_40 : decode cX9_fewestOther 40 = .ok (.aload_n 0, 1) := by decide +kernel
theorem dX9_fewestOther_41 : decode cX9_fewestOther 41 = .ok (.getfield 113, 3) := by decide +kernel
theorem dX9_fewestOther_44 : decode cX9_fewestOther 44 = .ok (.bipush 20, 2) := by decide +kernel
theorem dX9_fewestOther_46 : decode cX9_fewestOther 46 = .ok (.iload_n 1, 1) := by decide +kernel
theorem dX9_fewestOther_47 : decode cX9_fewestOther 47 = .ok (.iadd, 1) := by decide +kernel
theorem dX9_fewestOther_48 : decode cX9_fewestOther 48 = .ok (.iaload, 1) := by decide +kernel
theorem dX9_fewestOther_49 : decode cX9_fewestOther 49 = .ok (.if_icmp .ge 5, 3) := by decide +kernel
theorem dX9_fewestOther_52 : decode cX9_fewestOther 52 = .ok (.iload_n 2, 1) := by decide +kernel
theorem dX9_fewestOther_53 : decode cX9_fewestOther 53 = .ok (.istore_n 1, 1) := by decide +kernel
theorem dX9_fewestOther_54 : decode cX9_fewestOther 54 = .ok (.iinc 2 1, 3) := by decide +kernel
theorem dX9_fewestOther_57 : decode cX9_fewestOther 57 = .ok (.goto (-53), 3) := by decide +kernel
theorem dX9_fewestOther_60 : decode cX9_fewestOther 60 = .ok (.iload_n 1, 1) := by decide +kernel
theorem dX9_fewestOther_61 : decode cX9_fewestOther 61 = .ok (.ireturn, 1) := by decide +kernel
theorem dX9_rounds_0 : decode cX9_rounds 0 = .ok (.aload_n 0, 1) := by decide +kernel
theorem dX9_rounds_1 : decode cX9_rounds 1 = .ok (.invokevirtual 352, 3) := by decide +kernel
theorem dX9_rounds_4 : decode cX9_rounds 4 = .ok (.iconst 0, 1) := by decide +kernel
theorem dX9_rounds_5 : decode cX9_rounds 5 = .ok (.istore 4, 2) := by decide +kernel
theorem dX9_rounds_7 : decode cX9_rounds 7 = .ok (.iload 4, 2) := by decide +kernel
theorem dX9_rounds_9 : decode cX9_rounds 9 = .ok (.iload_n 3, 1) := by decide +kernel
theorem dX9_rounds_10 : decode cX9_rounds 10 = .ok (.if_icmp .ge 121, 3) := by decide +kernel
theorem dX9_rounds_13 : decode cX9_rounds 13 = .ok (.iload_n 1, 1) := by decide +kernel
theorem dX9_rounds_14 : decode cX9_rounds 14 = .ok (.iconst 1, 1) := by decide +kernel
theorem dX9_rounds_15 : decode cX9_rounds 15 = .ok (.if_icmp .ne 22, 3) := by decide +kernel
theorem dX9_rounds_18 : decode cX9_rounds 18 = .ok (.aload_n 0, 1) := by decide +kernel
theorem dX9_rounds_19 : decode cX9_rounds 19 = .ok (.getfield 113, 3) := by decide +kernel
theorem dX9_rounds_22 : decode cX9_rounds 22 = .ok (.bipush 6, 2) := by decide +kernel
theorem dX9_rounds_24 : decode cX9_rounds 24 = .ok (.iaload, 1) := by decide +kernel
theorem dX9_rounds_25 : decode cX9_rounds 25 = .ok (.iload_n 2, 1) := by decide +kernel
theorem dX9_rounds_26 : decode cX9_rounds 26 = .ok (.if_icmp .lt 7, 3) := by decide +kernel
theorem dX9_rounds_29 : decode cX9_rounds 29 = .ok (.iconst 1, 1) := by decide +kernel
theorem dX9_rounds_30 : decode cX9_rounds 30 = .ok (.goto 27, 3) := by decide +kernel
theorem dX9_rounds_33 : decode cX9_rounds 33 = .ok (.iconst 0, 1) := by decide +kernel
theorem dX9_rounds_34 : decode cX9_rounds 34 = .ok (.goto 23, 3) := by decide +kernel
theorem dX9_rounds_37 : decode cX9_rounds 37 = .ok (.iload_n 1, 1) := by decide +kernel
theorem dX9_rounds_38 : decode cX9_rounds 38 = .ok (.iconst 3, 1) := by decide +kernel
theorem dX9_rounds_39 : decode cX9_rounds 39 = .ok (.if_icmp .eq 17, 3) := by decide +kernel
theorem dX9_rounds_42 : decode cX9_rounds 42 = .ok (.aload_n 0, 1) := by decide +kernel
theorem dX9_rounds_43 : decode cX9_rounds 43 = .ok (.getfield 113, 3) := by decide +kernel
theorem dX9_rounds_46 : decode cX9_rounds 46 = .ok (.iconst 5, 1) := by decide +kernel
theorem dX9_rounds_47 : decode cX9_rounds 47 = .ok (.iaload, 1) := by decide +kernel
theorem dX9_rounds_48 : decode cX9_rounds 48 = .ok (.iload_n 2, 1) := by decide +kernel
theorem dX9_rounds_49 : decode cX9_rounds 49 = .ok (.if_icmp .lt 7, 3) := by decide +kernel
theorem dX9_rounds_52 : decode cX9_rounds 52 = .ok (.iconst 1, 1) := by decide +kernel
theorem dX9_rounds_53 : decode cX9_rounds 53 = .ok (.goto 4, 3) := by decide +kernel
theorem dX9_rounds_56 : decode cX9_rounds 56 = .ok (.iconst 0, 1) := by decide +kernel
theorem dX9_rounds_57 : decode cX9_rounds 57 = .ok (.istore 5, 2) := by decide +kernel
theorem dX9_rounds_59 : decode cX9_rounds 59 = .ok (.iload 5, 2) := by decide +kernel
theorem dX9_rounds_61 : decode cX9_rounds 61 = .ok (.ifCond .eq 60, 3) := by decide +kernel
theorem dX9_rounds_64 : decode cX9_rounds 64 = .ok (.aload_n 0, 1) := by decide +kernel
theorem dX9_rounds_65 : decode cX9_rounds 65 = .ok (.getfield 113, 3) := by decide +kernel
theorem dX9_rounds_68 : decode cX9_rounds 68 = .ok (.bipush 7, 2) := by decide +kernel
theorem dX9_rounds_70 : decode cX9_rounds 70 = .ok (.iaload, 1) := by decide +kernel
theorem dX9_rounds_71 : decode cX9_rounds 71 = .ok (.ifCond .ne 50, 3) := by decide +kernel
theorem dX9_rounds_74 : decode cX9_rounds 74 = .ok (.aload_n 0, 1) := by decide +kernel
theorem dX9_rounds_75 : decode cX9_rounds 75 = .ok (.getfield 46, 3) := by decide +kernel
theorem dX9_rounds_78 : decode cX9_rounds 78 = .ok (.aload_n 0, 1) := by decide +kernel
theorem dX9_rounds_79 : decode cX9_rounds 79 = .ok (.getfield 233, 3) := by decide +kernel
theorem dX9_rounds_82 : decode cX9_rounds 82 = .ok (.iaload, 1) := by decide +kernel
theorem dX9_rounds_83 : decode cX9_rounds 83 = .ok (.iconst 1, 1) := by decide +kernel
theorem dX9_rounds_84 : decode cX9_rounds 84 = .ok (.if_icmp .le 37, 3) := by decide +kernel
theorem dX9_rounds_87 : decode cX9_rounds 87 = .ok (.aload_n 0, 1) := by decide +kernel
theorem dX9_rounds_88 : decode cX9_rounds 88 = .ok (.iload_n 1, 1) := by decide +kernel
theorem dX9_rounds_89 : decode cX9_rounds 89 = .ok (.iconst 2, 1) := by decide +kernel
theorem dX9_rounds_90 : decode cX9_rounds 90 = .ok (.if_icmp .ne 10, 3) := by decide +kernel
theorem dX9_rounds_93 : decode cX9_rounds 93 = .ok (.aload_n 0, 1) := by decide +kernel
theorem dX9_rounds_94 : decode cX9_rounds 94 = .ok (.invokevirtual 427, 3) := by decide +kernel
theorem dX9_rounds_97 : decode cX9_rounds 97 = .ok (.goto 21, 3) := by decide +kernel
theorem dX9_rounds_100 : decode cX9_rounds 100 = .ok (.aload_n 0, 1) := by decide +kernel
theorem dX9_rounds_101 : decode cX9_rounds 101 = .ok (.getfield 113, 3) := by decide +kernel
theorem dX9_rounds_104 : decode cX9_rounds 104 = .ok (.iconst 4, 1) := by decide +kernel
theorem dX9_rounds_105 : decode cX9_rounds 105 = .ok (.iaload, 1) := by decide +kernel
theorem dX9_rounds_106 : decode cX9_rounds 106 = .ok (.iconst 1, 1) := by decide +kernel
theorem dX9_rounds_107 : decode cX9_rounds 107 = .ok (.iadd, 1) := by decide +kernel
theorem dX9_rounds_108 : decode cX9_rounds 108 = .ok (.aload_n 0, 1) := by decide +kernel
theorem dX9_rounds_109 : decode cX9_rounds 109 = .ok (.getfield 46, 3) := by decide +kernel
theorem dX9_rounds_112 : decode cX9_rounds 112 = .ok (.aload_n 0, 1) := by decide +kernel
theorem dX9_rounds_113 : decode cX9_rounds 113 = .ok (.getfield 233, 3) := by decide +kernel
theorem dX9_rounds_116 : decode cX9_rounds 116 = .ok (.iaload, 1) := by decide +kernel
theorem dX9_rounds_117 : decode cX9_rounds 117 = .ok (.irem, 1) := by decide +kernel
theorem dX9_rounds_118 : decode cX9_rounds 118 = .ok (.invokevirtual 362, 3) := by decide +kernel
theorem dX9_rounds_121 : decode cX9_rounds 121 = .ok (.aload_n 0, 1) := by decide +kernel
theorem dX9_rounds_122 : decode cX9_rounds 122 = .ok (.invokevirtual 339, 3) := by decide +kernel
theorem dX9_rounds_125 : decode cX9_rounds 125 = .ok (.iinc 4 1, 3) := by decide +kernel
theorem dX9_rounds_128 : decode cX9_rounds 128 = .ok (.goto (-121), 3) := by decide +kernel
theorem dX9_rounds_131 : decode cX9_rounds 131 = .ok (.return_, 1) := by decide +kernel
theorem dX9_round_0 : decode cX9_round 0 = .ok (.aload_n 0, 1) := by decide +kernel
theorem dX9_round_1 : decode cX9_round 1 = .ok (.getfield 46, 3) := by decide +kernel
theorem dX9_round_4 : decode cX9_round 4 = .ok (.aload_n 0, 1) := by decide +kernel
theorem dX9_round_5 : decode cX9_round 5 = .ok (.getfield 233, 3) := by decide +kernel
theorem dX9_round_8 : decode cX9_round 8 = .ok (.iaload, 1) := by decide +kernel
theorem dX9_round_9 : decode cX9_round 9 = .ok (.ifCond .eq 43, 3) := by decide +kernel
theorem dX9_round_12 : decode cX9_round 12 = .ok (.iload_n 1, 1) := by decide +kernel
theorem dX9_round_13 : decode cX9_round 13 = .ok (.iconst 0, 1) := by decide +kernel
theorem dX9_round_14 : decode cX9_round 14 = .ok (.iconst 3, 1) := by decide +kernel
theorem dX9_round_15 : decode cX9_round 15 = .ok (.invokestatic 342, 3) := by decide +kernel
theorem dX9_round_18 : decode cX9_round 18 = .ok (.ifCond .eq 34, 3) := by decide +kernel
theorem dX9_round_21 : decode cX9_round 21 = .ok (.iload_n 2, 1) := by decide +kernel
theorem dX9_round_22 : decode cX9_round 22 = .ok (.iconst 1, 1) := by decide +kernel
theorem dX9_round_23 : decode cX9_round 23 = .ok (.bipush 20, 2) := by decide +kernel
theorem dX9_round_25 : decode cX9_round 25 = .ok (.invokestatic 342, 3) := by decide +kernel
theorem dX9_round_28 : decode cX9_round 28 = .ok (.ifCond .eq 24, 3) := by decide +kernel
theorem dX9_round_31 : decode cX9_round 31 = .ok (.iload_n 3, 1) := by decide +kernel
theorem dX9_round_32 : decode cX9_round 32 = .ok (.iconst 1, 1) := by decide +kernel
theorem dX9_round_33 : decode cX9_round 33 = .ok (.sipush 240, 3) := by decide +kernel
theorem dX9_round_36 : decode cX9_round 36 = .ok (.invokestatic 342, 3) := by decide +kernel
theorem dX9_round_39 : decode cX9_round 39 = .ok (.ifCond .eq 13, 3) := by decide +kernel
theorem dX9_round_42 : decode cX9_round 42 = .ok (.iload 4, 2) := by decide +kernel
theorem dX9_round_44 : decode cX9_round 44 = .ok (.iconst 0, 1) := by decide +kernel
theorem dX9_round_45 : decode cX9_round 45 = .ok (.iconst 2, 1) := by decide +kernel
theorem dX9_round_46 : decode cX9_round 46 = .ok (.invokestatic 342, 3) := by decide +kernel
theorem dX9_round_49 : decode cX9_round 49 = .ok (.ifCond .ne 5, 3) := by decide +kernel
theorem dX9_round_52 : decode cX9_round 52 = .ok (.iconst (-1), 1) := by decide +kernel
theorem dX9_round_53 : decode cX9_round 53 = .ok (.ireturn, 1) := by decide +kernel
theorem dX9_round_54 : decode cX9_round 54 = .ok (.aload_n 0, 1) := by decide +kernel
theorem dX9_round_55 : decode cX9_round 55 = .ok (.iload_n 1, 1) := by decide +kernel
theorem dX9_round_56 : decode cX9_round 56 = .ok (.iload_n 2, 1) := by decide +kernel
theorem dX9_round_57 : decode cX9_round 57 = .ok (.iload_n 3, 1) := by decide +kernel
theorem dX9_round_58 : decode cX9_round 58 = .ok (.invokevirtual 430, 3) := by decide +kernel
theorem dX9_round_61 : decode cX9_round 61 = .ok (.iload 4, 2) := by decide +kernel
theorem dX9_round_63 : decode cX9_round 63 = .ok (.ifCond .ne 21, 3) := by decide +kernel
theorem dX9_round_66 : decode cX9_round 66 = .ok (.aload_n 0, 1) := by decide +kernel
theorem dX9_round_67 : decode cX9_round 67 = .ok (.getfield 113, 3) := by decide +kernel
theorem dX9_round_70 : decode cX9_round 70 = .ok (.bipush 13, 2) := by decide +kernel
theorem dX9_round_72 : decode cX9_round 72 = .ok (.iaload, 1) := by decide +kernel
theorem dX9_round_73 : decode cX9_round 73 = .ok (.aload_n 0, 1) := by decide +kernel
theorem dX9_round_74 : decode cX9_round 74 = .ok (.getfield 110, 3) := by decide +kernel
theorem dX9_round_77 : decode cX9_round 77 = .ok (.bipush 13, 2) := by decide +kernel
theorem dX9_round_79 : decode cX9_round 79 = .ok (.iaload, 1) := by decide +kernel
theorem dX9_round_80 : decode cX9_round 80 = .ok (.isub, 1) := by decide +kernel
theorem dX9_round_81 : decode cX9_round 81 = .ok (.goto 33, 3) := by decide +kernel
theorem dX9_round_84 : decode cX9_round 84 = .ok (.iload 4, 2) := by decide +kernel
theorem dX9_round_86 : decode cX9_round 86 = .ok (.iconst 1, 1) := by decide +kernel
theorem dX9_round_87 : decode cX9_round 87 = .ok (.if_icmp .ne 21, 3) := by decide +kernel
theorem dX9_round_90 : decode cX9_round 90 = .ok (.aload_n 0, 1) := by decide +kernel
theorem dX9_round_91 : decode cX9_round 91 = .ok (.getfield 113, 3) := by decide +kernel
theorem dX9_round_94 : decode cX9_round 94 = .ok (.bipush 14, 2) := by decide +kernel
theorem dX9_round_96 : decode cX9_round 96 = .ok (.iaload, 1) := by decide +kernel
theorem dX9_round_97 : decode cX9_round 97 = .ok (.aload_n 0, 1) := by decide +kernel
theorem dX9_round_98 : decode cX9_round 98 = .ok (.getfield 110, 3) := by decide +kernel
theorem dX9_round_101 : decode cX9_round 101 = .ok (.bipush 14, 2) := by decide +kernel
theorem dX9_round_103 : decode cX9_round 103 = .ok (.iaload, 1) := by decide +kernel
theorem dX9_round_104 : decode cX9_round 104 = .ok (.isub, 1) := by decide +kernel
theorem dX9_round_105 : decode cX9_round 105 = .ok (.goto 9, 3) := by decide +kernel
theorem dX9_round_108 : decode cX9_round 108 = .ok (.aload_n 0, 1) := by decide +kernel
theorem dX9_round_109 : decode cX9_round 109 = .ok (.getfield 113, 3) := by decide +kernel
theorem dX9_round_112 : decode cX9_round 112 = .ok (.iconst 4, 1) := by decide +kernel
theorem dX9_round_113 : decode cX9_round 113 = .ok (.iaload, 1) := by decide +kernel
theorem dX9_round_114 : decode cX9_round 114 = .ok (.ireturn, 1) := by decide +kernel
theorem dX9_bestRound_0 : decode cX9_bestRound 0 = .ok (.aload_n 0, 1) := by decide +kernel
theorem dX9_bestRound_1 : decode cX9_bestRound 1 = .ok (.getfield 46, 3) := by decide +kernel
theorem dX9_bestRound_4 : decode cX9_bestRound 4 = .ok (.aload_n 0, 1) := by decide +kernel
theorem dX9_bestRound_5 : decode cX9_bestRound 5 = .ok (.getfield 233, 3) := by decide +kernel
theorem dX9_bestRound_8 : decode cX9_bestRound 8 = .ok (.iaload, 1) := by decide +kernel
theorem dX9_bestRound_9 : decode cX9_bestRound 9 = .ok (.ifCond .eq 22, 3) := by decide +kernel
theorem dX9_bestRound_12 : decode cX9_bestRound 12 = .ok (.iload_n 1, 1) := by decide +kernel
theorem dX9_bestRound_13 : decode cX9_bestRound 13 = .ok (.iconst 1, 1) := by decide +kernel
theorem dX9_bestRound_14 : decode cX9_bestRound 14 = .ok (.bipush 120, 2) := by decide +kernel
theorem dX9_bestRound_16 : decode cX9_bestRound 16 = .ok (.invokestatic 342, 3) := by decide +kernel
theorem dX9_bestRound_19 : decode cX9_bestRound 19 = .ok (.ifCond .eq 12, 3) := by decide +kernel
theorem dX9_bestRound_22 : decode cX9_bestRound 22 = .ok (.iload_n 2, 1) := by decide +kernel
theorem dX9_bestRound_23 : decode cX9_bestRound 23 = .ok (.iconst 0, 1) := by decide +kernel
theorem dX9_bestRound_24 : decode cX9_bestRound 24 = .ok (.iconst 1, 1) := by decide +kernel
theorem dX9_bestRound_25 : decode cX9_bestRound 25 = .ok (.invokestatic 342, 3) := by decide +kernel
theorem dX9_bestRound_28 : decode cX9_bestRound 28 = .ok (.ifCond .ne 5, 3) := by decide +kernel
theorem dX9_bestRound_31 : decode cX9_bestRound 31 = .ok (.iconst (-1), 1) := by decide +kernel
theorem dX9_bestRound_32 : decode cX9_bestRound 32 = .ok (.ireturn, 1) := by decide +kernel
theorem dX9_bestRound_33 : decode cX9_bestRound 33 = .ok (.iconst 0, 1) := by decide +kernel
theorem dX9_bestRound_34 : decode cX9_bestRound 34 = .ok (.istore_n 3, 1) := by decide +kernel
theorem dX9_bestRound_35 : decode cX9_bestRound 35 = .ok (.iconst (-1), 1) := by decide +kernel
theorem dX9_bestRound_36 : decode cX9_bestRound 36 = .ok (.istore 4, 2) := by decide +kernel
theorem dX9_bestRound_38 : decode cX9_bestRound 38 = .ok (.iconst 0, 1) := by decide +kernel
theorem dX9_bestRound_39 : decode cX9_bestRound 39 = .ok (.istore 5, 2) := by decide +kernel
theorem dX9_bestRound_41 : decode cX9_bestRound 41 = .ok (.iload 5, 2) := by decide +kernel
theorem dX9_bestRound_43 : decode cX9_bestRound 43 = .ok (.iconst 4, 1) := by decide +kernel
theorem dX9_bestRound_44 : decode cX9_bestRound 44 = .ok (.if_icmp .ge 79, 3) := by decide +kernel
theorem dX9_bestRound_47 : decode cX9_bestRound 47 = .ok (.iconst 1, 1) := by decide +kernel
theorem dX9_bestRound_48 : decode cX9_bestRound 48 = .ok (.istore 6, 2) := by decide +kernel
theorem dX9_bestRound_50 : decode cX9_bestRound 50 = .ok (.iload 6, 2) := by decide +kernel
theorem dX9_bestRound_52 : decode cX9_bestRound 52 = .ok (.bipush 20, 2) := by decide +kernel
theorem dX9_bestRound_54 : decode cX9_bestRound 54 = .ok (.if_icmp .gt 63, 3) := by decide +kernel
theorem dX9_bestRound_57 : decode cX9_bestRound 57 = .ok (.aload_n 0, 1) := by decide +kernel
theorem dX9_bestRound_58 : decode cX9_bestRound 58 = .ok (.iload 5, 2) := by decide +kernel
theorem dX9_bestRound_60 : decode cX9_bestRound 60 = .ok (.iload 6, 2) := by decide +kernel
theorem dX9_bestRound_62 : decode cX9_bestRound 62 = .ok (.iload_n 1, 1) := by decide +kernel
theorem dX9_bestRound_63 : decode cX9_bestRound 63 = .ok (.invokevirtual 430, 3) := by decide +kernel
theorem dX9_bestRound_66 : decode cX9_bestRound 66 = .ok (.aload_n 0, 1) := by decide +kernel
theorem dX9_bestRound_67 : decode cX9_bestRound 67 = .ok (.getfield 113, 3) := by decide +kernel
theorem dX9_bestRound_70 : decode cX9_bestRound 70 = .ok (.bipush 13, 2) := by decide +kernel
theorem dX9_bestRound_72 : decode cX9_bestRound 72 = .ok (.iaload, 1) := by decide +kernel
theorem dX9_bestRound_73 : decode cX9_bestRound 73 = .ok (.aload_n 0, 1) := by decide +kernel
theorem dX9_bestRound_74 : decode cX9_bestRound 74 = .ok (.getfield 110, 3) := by decide +kernel
theorem dX9_bestRound_77 : decode cX9_bestRound 77 = .ok (.bipush 13, 2) := by decide +kernel
theorem dX9_bestRound_79 : decode cX9_bestRound 79 = .ok (.iaload, 1) := by decide +kernel
theorem dX9_bestRound_80 : decode cX9_bestRound 80 = .ok (.isub, 1) := by decide +kernel
theorem dX9_bestRound_81 : decode cX9_bestRound 81 = .ok (.istore 7, 2) := by decide +kernel
theorem dX9_bestRound_83 : decode cX9_bestRound 83 = .ok (.iload 4, 2) := by decide +kernel
theorem dX9_bestRound_85 : decode cX9_bestRound 85 = .ok (.ifCond .lt 13, 3) := by decide +kernel
theorem dX9_bestRound_88 : decode cX9_bestRound 88 = .ok (.iload 7, 2) := by decide +kernel
theorem dX9_bestRound_90 : decode cX9_bestRound 90 = .ok (.iload 4, 2) := by decide +kernel
theorem dX9_bestRound_92 : decode cX9_bestRound 92 = .ok (.if_icmp .lt 6, 3) := by decide +kernel
theorem dX9_bestRound_95 : decode cX9_bestRound 95 = .ok (.goto 16, 3) := by decide +kernel
theorem dX9_bestRound_98 : decode cX9_bestRound 98 = .ok (.bipush 100, 2) := by decide +kernel
theorem dX9_bestRound_100 : decode cX9_bestRound 100 = .ok (.iload 5, 2) := by decide +kernel
theorem dX9_bestRound_102 : decode cX9_bestRound 102 = .ok (.imul, 1) := by decide +kernel
theorem dX9_bestRound_103 : decode cX9_bestRound 103 = .ok (.iload 6, 2) := by decide +kernel
theorem dX9_bestRound_105 : decode cX9_bestRound 105 = .ok (.iadd, 1) := by decide +kernel
theorem dX9_bestRound_106 : decode cX9_bestRound 106 = .ok (.istore_n 3, 1) := by decide +kernel
theorem dX9_bestRound_107 : decode cX9_bestRound 107 = .ok (.iload 7, 2) := by decide +kernel
theorem dX9_bestRound_109 : decode cX9_bestRound 109 = .ok (.istore 4, 2) := by decide +kernel
theorem dX9_bestRound_111 : decode cX9_bestRound 111 = .ok (.iinc 6 1, 3) := by decide +kernel
theorem dX9_bestRound_114 : decode cX9_bestRound 114 = .ok (.goto (-64), 3) := by decide +kernel
theorem dX9_bestRound_117 : decode cX9_bestRound 117 = .ok (.iinc 5 1, 3) := by decide +kernel
theorem dX9_bestRound_120 : decode cX9_bestRound 120 = .ok (.goto (-79), 3) := by decide +kernel
theorem dX9_bestRound_123 : decode cX9_bestRound 123 = .ok (.iload_n 2, 1) := by decide +kernel
theorem dX9_bestRound_124 : decode cX9_bestRound 124 = .ok (.ifCond .ne 7, 3) := by decide +kernel
theorem dX9_bestRound_127 : decode cX9_bestRound 127 = .ok (.iload_n 3, 1) := by decide +kernel
theorem dX9_bestRound_128 : decode cX9_bestRound 128 = .ok (.goto 5, 3) := by decide +kernel
theorem dX9_bestRound_131 : decode cX9_bestRound 131 = .ok (.iload 4, 2) := by decide +kernel
theorem dX9_bestRound_133 : decode cX9_bestRound 133 = .ok (.ireturn, 1) := by decide +kernel
theorem dX9_feedAt_0 : decode cX9_feedAt 0 = .ok (.iload_n 1, 1) := by decide +kernel
theorem dX9_feedAt_1 : decode cX9_feedAt 1 = .ok (.iconst 1, 1) := by decide +kernel
theorem dX9_feedAt_2 : decode cX9_feedAt 2 = .ok (.bipush 60, 2) := by decide +kernel
theorem dX9_feedAt_4 : decode cX9_feedAt 4 = .ok (.invokestatic 342, 3) := by decide +kernel
theorem dX9_feedAt_7 : decode cX9_feedAt 7 = .ok (.ifCond .eq 12, 3) := by decide +kernel
theorem dX9_feedAt_10 : decode cX9_feedAt 10 = .ok (.iload_n 2, 1) := by decide +kernel
theorem dX9_feedAt_11 : decode cX9_feedAt 11 = .ok (.iconst 0, 1) := by decide +kernel
theorem dX9_feedAt_12 : decode cX9_feedAt 12 = .ok (.iconst 1, 1) := by decide +kernel
theorem dX9_feedAt_13 : decode cX9_feedAt 13 = .ok (.invokestatic 342, 3) := by decide +kernel
theorem dX9_feedAt_16 : decode cX9_feedAt 16 = .ok (.ifCond .ne 5, 3) := by decide +kernel
theorem dX9_feedAt_19 : decode cX9_feedAt 19 = .ok (.iconst (-1), 1) := by decide +kernel
theorem dX9_feedAt_20 : decode cX9_feedAt 20 = .ok (.ireturn, 1) := by decide +kernel
theorem dX9_feedAt_21 : decode cX9_feedAt 21 = .ok (.aload_n 0, 1) := by decide +kernel
theorem dX9_feedAt_22 : decode cX9_feedAt 22 = .ok (.invokevirtual 358, 3) := by decide +kernel
theorem dX9_feedAt_25 : decode cX9_feedAt 25 = .ok (.ifCond .ne 6, 3) := by decide +kernel
theorem dX9_feedAt_28 : decode cX9_feedAt 28 = .ok (.bipush (-2), 2) := by decide +kernel
theorem dX9_feedAt_30 : decode cX9_feedAt 30 = .ok (.ireturn, 1) := by decide +kernel
theorem dX9_feedAt_31 : decode cX9_feedAt 31 = .ok (.iconst 0, 1) := by decide +kernel
theorem dX9_feedAt_32 : decode cX9_feedAt 32 = .ok (.istore_n 3, 1) := by decide +kernel
theorem dX9_feedAt_33 : decode cX9_feedAt 33 = .ok (.iconst (-1), 1) := by decide +kernel
theorem dX9_feedAt_34 : decode cX9_feedAt 34 = .ok (.istore 4, 2) := by decide +kernel
theorem dX9_feedAt_36 : decode cX9_feedAt 36 = .ok (.iconst 0, 1) := by decide +kernel
theorem dX9_feedAt_37 : decode cX9_feedAt 37 = .ok (.istore 5, 2) := by decide +kernel
theorem dX9_feedAt_39 : decode cX9_feedAt 39 = .ok (.iload 5, 2) := by decide +kernel
theorem dX9_feedAt_41 : decode cX9_feedAt 41 = .ok (.iload_n 1, 1) := by decide +kernel
theorem dX9_feedAt_42 : decode cX9_feedAt 42 = .ok (.if_icmp .ge 73, 3) := by decide +kernel
theorem dX9_feedAt_45 : decode cX9_feedAt 45 = .ok (.aload_n 0, 1) := by decide +kernel
theorem dX9_feedAt_46 : decode cX9_feedAt 46 = .ok (.invokevirtual 352, 3) := by decide +kernel
theorem dX9_feedAt_49 : decode cX9_feedAt 49 = .ok (.aload_n 0, 1) := by decide +kernel
theorem dX9_feedAt_50 : decode cX9_feedAt 50 = .ok (.iload 5, 2) := by decide +kernel
theorem dX9_feedAt_52 : decode cX9_feedAt 52 = .ok (.invokevirtual 372, 3) := by decide +kernel
theorem dX9_feedAt_55 : decode cX9_feedAt 55 = .ok (.istore 6, 2) := by decide +kernel
theorem dX9_feedAt_57 : decode cX9_feedAt 57 = .ok (.aload_n 0, 1) := by decide +kernel
theorem dX9_feedAt_58 : decode cX9_feedAt 58 = .ok (.getfield 113, 3) := by decide +kernel
theorem dX9_feedAt_61 : decode cX9_feedAt 61 = .ok (.bipush 7, 2) := by decide +kernel
theorem dX9_feedAt_63 : decode cX9_feedAt 63 = .ok (.iaload, 1) := by decide +kernel
theorem dX9_feedAt_64 : decode cX9_feedAt 64 = .ok (.ifCond .le 6, 3) := by decide +kernel
theorem dX9_feedAt_67 : decode cX9_feedAt 67 = .ok (.goto 42, 3) := by decide +kernel
theorem dX9_feedAt_70 : decode cX9_feedAt 70 = .ok (.aload_n 0, 1) := by decide +kernel
theorem dX9_feedAt_71 : decode cX9_feedAt 71 = .ok (.invokevirtual 365, 3) := by decide +kernel
theorem dX9_feedAt_74 : decode cX9_feedAt 74 = .ok (.iload 6, 2) := by decide +kernel
theorem dX9_feedAt_76 : decode cX9_feedAt 76 = .ok (.aload_n 0, 1) := by decide +kernel
theorem dX9_feedAt_77 : decode cX9_feedAt 77 = .ok (.iload_n 1, 1) := by decide +kernel
theorem dX9_feedAt_78 : decode cX9_feedAt 78 = .ok (.iload 5, 2) := by decide +kernel
theorem dX9_feedAt_80 : decode cX9_feedAt 80 = .ok (.isub, 1) := by decide +kernel
theorem dX9_feedAt_81 : decode cX9_feedAt 81 = .ok (.invokevirtual 372, 3) := by decide +kernel
theorem dX9_feedAt_84 : decode cX9_feedAt 84 = .ok (.iadd, 1) := by decide +kernel
theorem dX9_feedAt_85 : decode cX9_feedAt 85 = .ok (.istore 6, 2) := by decide +kernel
theorem dX9_feedAt_87 : decode cX9_feedAt 87 = .ok (.iload 4, 2) := by decide +kernel
theorem dX9_feedAt_89 : decode cX9_feedAt 89 = .ok (.ifCond .lt 13, 3) := by decide +kernel
theorem dX9_feedAt_92 : decode cX9_feedAt 92 = .ok (.iload 6, 2) := by decide +kernel
theorem dX9_feedAt_94 : decode cX9_feedAt 94 = .ok (.iload 4, 2) := by decide +kernel
theorem dX9_feedAt_96 : decode cX9_feedAt 96 = .ok (.if_icmp .lt 6, 3) := by decide +kernel
theorem dX9_feedAt_99 : decode cX9_feedAt 99 = .ok (.goto 10, 3) := by decide +kernel
theorem dX9_feedAt_102 : decode cX9_feedAt 102 = .ok (.iload 5, 2) := by decide +kernel
theorem dX9_feedAt_104 : decode cX9_feedAt 104 = .ok (.istore_n 3, 1) := by decide +kernel
theorem dX9_feedAt_105 : decode cX9_feedAt 105 = .ok (.iload 6, 2) := by decide +kernel
theorem dX9_feedAt_107 : decode cX9_feedAt 107 = .ok (.istore 4, 2) := by decide +kernel
theorem dX9_feedAt_109 : decode cX9_feedAt 109 = .ok (.iinc 5 1, 3) := by decide +kernel
theorem dX9_feedAt_112 : decode cX9_feedAt 112 = .ok (.goto (-73), 3) := by decide +kernel
theorem dX9_feedAt_115 : decode cX9_feedAt 115 = .ok (.iload_n 2, 1) := by decide +kernel
theorem dX9_feedAt_116 : decode cX9_feedAt 116 = .ok (.ifCond .ne 7, 3) := by decide +kernel
theorem dX9_feedAt_119 : decode cX9_feedAt 119 = .ok (.iload_n 3, 1) := by decide +kernel
theorem dX9_feedAt_120 : decode cX9_feedAt 120 = .ok (.goto 5, 3) := by decide +kernel
theorem dX9_feedAt_123 : decode cX9_feedAt 123 = .ok (.iload 4, 2) := by decide +kernel
theorem dX9_feedAt_125 : decode cX9_feedAt 125 = .ok (.ireturn, 1) := by decide +kernel
theorem dX9_peak_0 : decode cX9_peak 0 = .ok (.iload_n 1, 1) := by decide +kernel
theorem dX9_peak_1 : decode cX9_peak 1 = .ok (.iconst 1, 1) := by decide +kernel
theorem dX9_peak_2 : decode cX9_peak 2 = .ok (.sipush 240, 3) := by decide +kernel
theorem dX9_peak_5 : decode cX9_peak 5 = .ok (.invokestatic 342, 3) := by decide +kernel
theorem dX9_peak_8 : decode cX9_peak 8 = .ok (.ifCond .eq 12, 3) := by decide +kernel
theorem dX9_peak_11 : decode cX9_peak 11 = .ok (.iload_n 2, 1) := by decide +kernel
theorem dX9_peak_12 : decode cX9_peak 12 = .ok (.iconst 0, 1) := by decide +kernel
theorem dX9_peak_13 : decode cX9_peak 13 = .ok (.iconst 1, 1) := by decide +kernel
theorem dX9_peak_14 : decode cX9_peak 14 = .ok (.invokestatic 342, 3) := by decide +kernel
theorem dX9_peak_17 : decode cX9_peak 17 = .ok (.ifCond .ne 5, 3) := by decide +kernel
theorem dX9_peak_20 : decode cX9_peak 20 = .ok (.iconst (-1), 1) := by decide +kernel
theorem dX9_peak_21 : decode cX9_peak 21 = .ok (.ireturn, 1) := by decide +kernel
theorem dX9_peak_22 : decode cX9_peak 22 = .ok (.aload_n 0, 1) := by decide +kernel
theorem dX9_peak_23 : decode cX9_peak 23 = .ok (.invokevirtual 352, 3) := by decide +kernel
theorem dX9_peak_26 : decode cX9_peak 26 = .ok (.iconst 0, 1) := by decide +kernel
theorem dX9_peak_27 : decode cX9_peak 27 = .ok (.istore_n 3, 1) := by decide +kernel
theorem dX9_peak_28 : decode cX9_peak 28 = .ok (.iconst (-1), 1) := by decide +kernel
theorem dX9_peak_29 : decode cX9_peak 29 = .ok (.istore 4, 2) := by decide +kernel
theorem dX9_peak_31 : decode cX9_peak 31 = .ok (.iconst 0, 1) := by decide +kernel
theorem dX9_peak_32 : decode cX9_peak 32 = .ok (.istore 5, 2) := by decide +kernel
theorem dX9_peak_34 : decode cX9_peak 34 = .ok (.iload 5, 2) := by decide +kernel
theorem dX9_peak_36 : decode cX9_peak 36 = .ok (.iload_n 1, 1) := by decide +kernel
theorem dX9_peak_37 : decode cX9_peak 37 = .ok (.if_icmp .ge 33, 3) := by decide +kernel
theorem dX9_peak_40 : decode cX9_peak 40 = .ok (.aload_n 0, 1) := by decide +kernel
theorem dX9_peak_41 : decode cX9_peak 41 = .ok (.iconst 1, 1) := by decide +kernel
theorem dX9_peak_42 : decode cX9_peak 42 = .ok (.invokevirtual 372, 3) := by decide +kernel
theorem dX9_peak_45 : decode cX9_peak 45 = .ok (.istore 6, 2) := by decide +kernel
theorem dX9_peak_47 : decode cX9_peak 47 = .ok (.iload 6, 2) := by decide +kernel
theorem dX9_peak_49 : decode cX9_peak 49 = .ok (.iload 4, 2) := by decide +kernel
theorem dX9_peak_51 : decode cX9_peak 51 = .ok (.if_icmp .gt 6, 3) := by decide +kernel
theorem dX9_peak_54 : decode cX9_peak 54 = .ok (.goto 10, 3) := by decide +kernel
theorem dX9_peak_57 : decode cX9_peak 57 = .ok (.iload 5, 2) := by decide +kernel
theorem dX9_peak_59 : decode cX9_peak 59 = .ok (.istore_n 3, 1) := by decide +kernel
theorem dX9_peak_60 : decode cX9_peak 60 = .ok (.iload 6, 2) := by decide +kernel
theorem dX9_peak_62 : decode cX9_peak 62 = .ok (.istore 4, 2) := by decide +kernel
theorem dX9_peak_64 : decode cX9_peak 64 = .ok (.iinc 5 1, 3) := by decide +kernel
theorem dX9_peak_67 : decode cX9_peak 67 = .ok (.goto (-33), 3) := by decide +kernel
theorem dX9_peak_70 : decode cX9_peak 70 = .ok (.iload_n 2, 1) := by decide +kernel
theorem dX9_peak_71 : decode cX9_peak 71 = .ok (.ifCond .ne 8, 3) := by decide +kernel
theorem dX9_peak_74 : decode cX9_peak 74 = .ok (.iload 4, 2) := by decide +kernel
theorem dX9_peak_76 : decode cX9_peak 76 = .ok (.goto 4, 3) := by decide +kernel
theorem dX9_peak_79 : decode cX9_peak 79 = .ok (.iload_n 3, 1) := by decide +kernel
theorem dX9_peak_80 : decode cX9_peak 80 = .ok (.ireturn, 1) := by decide +kernel
theorem dX9_merry_0 : decode cX9_merry 0 = .ok (.aload_n 0, 1) := by decide +kernel
theorem dX9_merry_1 : decode cX9_merry 1 = .ok (.invokevirtual 352, 3) := by decide +kernel
theorem dX9_merry_4 : decode cX9_merry 4 = .ok (.iconst 1, 1) := by decide +kernel
theorem dX9_merry_5 : decode cX9_merry 5 = .ok (.istore_n 1, 1) := by decide +kernel
theorem dX9_merry_6 : decode cX9_merry 6 = .ok (.iload_n 1, 1) := by decide +kernel
theorem dX9_merry_7 : decode cX9_merry 7 = .ok (.sipush 240, 3) := by decide +kernel
theorem dX9_merry_10 : decode cX9_merry 10 = .ok (.if_icmp .gt 32, 3) := by decide +kernel
theorem dX9_merry_13 : decode cX9_merry 13 = .ok (.aload_n 0, 1) := by decide +kernel
theorem dX9_merry_14 : decode cX9_merry 14 = .ok (.invokevirtual 339, 3) := by decide +kernel
theorem dX9_merry_17 : decode cX9_merry 17 = .ok (.aload_n 0, 1) := by decide +kernel
theorem dX9_merry_18 : decode cX9_merry 18 = .ok (.getfield 113, 3) := by decide +kernel
theorem dX9_merry_21 : decode cX9_merry 21 = .ok (.bipush 14, 2) := by decide +kernel
theorem dX9_merry_23 : decode cX9_merry 23 = .ok (.iaload, 1) := by decide +kernel
theorem dX9_merry_24 : decode cX9_merry 24 = .ok (.aload_n 0, 1) := by decide +kernel
theorem dX9_merry_25 : decode cX9_merry 25 = .ok (.getfield 110, 3) := by decide +kernel
theorem dX9_merry_28 : decode cX9_merry 28 = .ok (.bipush 14, 2) := by decide +kernel
theorem dX9_merry_30 : decode cX9_merry 30 = .ok (.iaload, 1) := by decide +kernel
theorem dX9_merry_31 : decode cX9_merry 31 = .ok (.if_icmp .le 5, 3) := by decide +kernel
theorem dX9_merry_34 : decode cX9_merry 34 = .ok (.iload_n 1, 1) := by decide +kernel
theorem dX9_merry_35 : decode cX9_merry 35 = .ok (.ireturn, 1) := by decide +kernel
theorem dX9_merry_36 : decode cX9_merry 36 = .ok (.iinc 1 1, 3) := by decide +kernel
theorem dX9_merry_39 : decode cX9_merry 39 = .ok (.goto (-33), 3) := by decide +kernel
theorem dX9_merry_42 : decode cX9_merry 42 = .ok (.bipush (-2), 2) := by decide +kernel
theorem dX9_merry_44 : decode cX9_merry 44 = .ok (.ireturn, 1) := by decide +kernel
theorem dX9_sleeps_0 : decode cX9_sleeps 0 = .ok (.aload_n 0, 1) := by decide +kernel
theorem dX9_sleeps_1 : decode cX9_sleeps 1 = .ok (.invokevirtual 352, 3) := by decide +kernel
theorem dX9_sleeps_4 : decode cX9_sleeps 4 = .ok (.iconst 0, 1) := by decide +kernel
theorem dX9_sleeps_5 : decode cX9_sleeps 5 = .ok (.istore_n 1, 1) := by decide +kernel
theorem dX9_sleeps_6 : decode cX9_sleeps 6 = .ok (.iload_n 1, 1) := by decide +kernel
theorem dX9_sleeps_7 : decode cX9_sleeps 7 = .ok (.sipush 240, 3) := by decide +kernel
theorem dX9_sleeps_10 : decode cX9_sleeps 10 = .ok (.if_icmp .gt 25, 3) := by decide +kernel
theorem dX9_sleeps_13 : decode cX9_sleeps 13 = .ok (.aload_n 0, 1) := by decide +kernel
theorem dX9_sleeps_14 : decode cX9_sleeps 14 = .ok (.getfield 113, 3) := by decide +kernel
theorem dX9_sleeps_17 : decode cX9_sleeps 17 = .ok (.bipush 7, 2) := by decide +kernel
theorem dX9_sleeps_19 : decode cX9_sleeps 19 = .ok (.iaload, 1) := by decide +kernel
theorem dX9_sleeps_20 : decode cX9_sleeps 20 = .ok (.ifCond .le 5, 3) := by decide +kernel
theorem dX9_sleeps_23 : decode cX9_sleeps 23 = .ok (.iload_n 1, 1) := by decide +kernel
theorem dX9_sleeps_24 : decode cX9_sleeps 24 = .ok (.ireturn, 1) := by decide +kernel
theorem dX9_sleeps_25 : decode cX9_sleeps 25 = .ok (.aload_n 0, 1) := by decide +kernel
theorem dX9_sleeps_26 : decode cX9_sleeps 26 = .ok (.invokevirtual 339, 3) := by decide +kernel
theorem dX9_sleeps_29 : decode cX9_sleeps 29 = .ok (.iinc 1 1, 3) := by decide +kernel
theorem dX9_sleeps_32 : decode cX9_sleeps 32 = .ok (.goto (-26), 3) := by decide +kernel
theorem dX9_sleeps_35 : decode cX9_sleeps 35 = .ok (.bipush (-2), 2) := by decide +kernel
theorem dX9_sleeps_37 : decode cX9_sleeps 37 = .ok (.ireturn, 1) := by decide +kernel
theorem dX9_fillsRests_0 : decode cX9_fillsRests 0 = .ok (.aload_n 0, 1) := by decide +kernel
theorem dX9_fillsRests_1 : decode cX9_fillsRests 1 = .ok (.getfield 46, 3) := by decide +kernel
theorem dX9_fillsRests_4 : decode cX9_fillsRests 4 = .ok (.aload_n 0, 1) := by decide +kernel
theorem dX9_fillsRests_5 : decode cX9_fillsRests 5 = .ok (.getfield 233, 3) := by decide +kernel
theorem dX9_fillsRests_8 : decode cX9_fillsRests 8 = .ok (.iaload, 1) := by decide +kernel
theorem dX9_fillsRests_9 : decode cX9_fillsRests 9 = .ok (.istore_n 2, 1) := by decide +kernel
theorem dX9_fillsRests_10 : decode cX9_fillsRests 10 = .ok (.iconst 0, 1) := by decide +kernel
theorem dX9_fillsRests_11 : decode cX9_fillsRests 11 = .ok (.istore_n 3, 1) := by decide +kernel
theorem dX9_fillsRests_12 : decode cX9_fillsRests 12 = .ok (.iload_n 3, 1) := by decide +kernel
theorem dX9_fillsRests_13 : decode cX9_fillsRests 13 = .ok (.iconst 1, 1) := by decide +kernel
theorem dX9_fillsRests_14 : decode cX9_fillsRests 14 = .ok (.iload_n 2, 1) := by decide +kernel
theorem dX9_fillsRests_15 : decode cX9_fillsRests 15 = .ok (.ishl, 1) := by decide +kernel
theorem dX9_fillsRests_16 : decode cX9_fillsRests 16 = .ok (.if_icmp .ge 98, 3) := by decide +kernel
theorem dX9_fillsRests_19 : decode cX9_fillsRests 19 = .ok (.aload_n 0, 1) := by decide +kernel
theorem dX9_fillsRests_20 : decode cX9_fillsRests 20 = .ok (.invokevirtual 381, 3) := by decide +kernel
theorem dX9_fillsRests_23 : decode cX9_fillsRests 23 = .ok (.iconst 0, 1) := by decide +kernel
theorem dX9_fillsRests_24 : decode cX9_fillsRests 24 = .ok (.istore 4, 2) := by decide +kernel
theorem dX9_fillsRests_26 : decode cX9_fillsRests 26 = .ok (.iload 4, 2) := by decide +kernel
theorem dX9_fillsRests_28 : decode cX9_fillsRests 28 = .ok (.iload_n 2, 1) := by decide +kernel
theorem dX9_fillsRests_29 : decode cX9_fillsRests 29 = .ok (.if_icmp .ge 45, 3) := by decide +kernel
theorem dX9_fillsRests_32 : decode cX9_fillsRests 32 = .ok (.aload_n 0, 1) := by decide +kernel
theorem dX9_fillsRests_33 : decode cX9_fillsRests 33 = .ok (.getfield 110, 3) := by decide +kernel
theorem dX9_fillsRests_36 : decode cX9_fillsRests 36 = .ok (.iconst 4, 1) := by decide +kernel
theorem dX9_fillsRests_37 : decode cX9_fillsRests 37 = .ok (.iaload, 1) := by decide +kernel
theorem dX9_fillsRests_38 : decode cX9_fillsRests 38 = .ok (.iload 4, 2) := by decide +kernel
theorem dX9_fillsRests_40 : decode cX9_fillsRests 40 = .ok (.iadd, 1) := by decide +kernel
theorem dX9_fillsRests_41 : decode cX9_fillsRests 41 = .ok (.iload_n 2, 1) := by decide +kernel
theorem dX9_fillsRests_42 : decode cX9_fillsRests 42 = .ok (.irem, 1) := by decide +kernel
theorem dX9_fillsRests_43 : decode cX9_fillsRests 43 = .ok (.istore 5, 2) := by decide +kernel
theorem dX9_fillsRests_45 : decode cX9_fillsRests 45 = .ok (.aload_n 0, 1) := by decide +kernel
theorem dX9_fillsRests_46 : decode cX9_fillsRests 46 = .ok (.iload 5, 2) := by decide +kernel
theorem dX9_fillsRests_48 : decode cX9_fillsRests 48 = .ok (.iload_n 3, 1) := by decide +kernel
theorem dX9_fillsRests_49 : decode cX9_fillsRests 49 = .ok (.iload 5, 2) := by decide +kernel
theorem dX9_fillsRests_51 : decode cX9_fillsRests 51 = .ok (.ishr, 1) := by decide +kernel
theorem dX9_fillsRests_52 : decode cX9_fillsRests 52 = .ok (.iconst 1, 1) := by decide +kernel
theorem dX9_fillsRests_53 : decode cX9_fillsRests 53 = .ok (.iand, 1) := by decide +kernel
theorem dX9_fillsRests_54 : decode cX9_fillsRests 54 = .ok (.iconst 1, 1) := by decide +kernel
theorem dX9_fillsRests_55 : decode cX9_fillsRests 55 = .ok (.if_icmp .ne 9, 3) := by decide +kernel
theorem dX9_fillsRests_58 : decode cX9_fillsRests 58 = .ok (.iconst 2, 1) := by decide +kernel
theorem dX9_fillsRests_59 : decode cX9_fillsRests 59 = .ok (.iload_n 1, 1) := by decide +kernel
theorem dX9_fillsRests_60 : decode cX9_fillsRests 60 = .ok (.imul, 1) := by decide +kernel
theorem dX9_fillsRests_61 : decode cX9_fillsRests 61 = .ok (.goto 4, 3) := by decide +kernel
theorem dX9_fillsRests_64 : decode cX9_fillsRests 64 = .ok (.iload_n 1, 1) := by decide +kernel
theorem dX9_fillsRests_65 : decode cX9_fillsRests 65 = .ok (.invokevirtual 384, 3) := by decide +kernel
theorem dX9_fillsRests_68 : decode cX9_fillsRests 68 = .ok (.iinc 4 1, 3) := by decide +kernel
theorem dX9_fillsRests_71 : decode cX9_fillsRests 71 = .ok (.goto (-45), 3) := by decide +kernel
theorem dX9_fillsRests_74 : decode cX9_fillsRests 74 = .ok (.iconst 0, 1) := by decide +kernel
theorem dX9_fillsRests_75 : decode cX9_fillsRests 75 = .ok (.istore 4, 2) := by decide +kernel
theorem dX9_fillsRests_77 : decode cX9_fillsRests 77 = .ok (.iload 4, 2) := by decide +kernel
theorem dX9_fillsRests_79 : decode cX9_fillsRests 79 = .ok (.iload_n 2, 1) := by decide +kernel
theorem dX9_fillsRests_80 : decode cX9_fillsRests 80 = .ok (.if_icmp .ge 28, 3) := by decide +kernel
theorem dX9_fillsRests_83 : decode cX9_fillsRests 83 = .ok (.aload_n 0, 1) := by decide +kernel
theorem dX9_fillsRests_84 : decode cX9_fillsRests 84 = .ok (.getfield 137, 3) := by decide +kernel
theorem dX9_fillsRests_87 : decode cX9_fillsRests 87 = .ok (.bipush 6, 2) := by decide +kernel
theorem dX9_fillsRests_89 : decode cX9_fillsRests 89 = .ok (.iload_n 3, 1) := by decide +kernel
theorem dX9_fillsRests_90 : decode cX9_fillsRests 90 = .ok (.imul, 1) := by decide +kernel
theorem dX9_fillsRests_91 : decode cX9_fillsRests 91 = .ok (.iload 4, 2) := by decide +kernel
theorem dX9_fillsRests_93 : decode cX9_fillsRests 93 = .ok (.iadd, 1) := by decide +kernel
theorem dX9_fillsRests_94 : decode cX9_fillsRests 94 = .ok (.aload_n 0, 1) := by decide +kernel
theorem dX9_fillsRests_95 : decode cX9_fillsRests 95 = .ok (.getfield 125, 3) := by decide +kernel
theorem dX9_fillsRests_98 : decode cX9_fillsRests 98 = .ok (.iload 4, 2) := by decide +kernel
theorem dX9_fillsRests_100 : decode cX9_fillsRests 100 = .ok (.iaload, 1) := by decide +kernel
theorem dX9_fillsRests_101 : decode cX9_fillsRests 101 = .ok (.iastore, 1) := by decide +kernel
theorem dX9_fillsRests_102 : decode cX9_fillsRests 102 = .ok (.iinc 4 1, 3) := by decide +kernel
theorem dX9_fillsRests_105 : decode cX9_fillsRests 105 = .ok (.goto (-28), 3) := by decide +kernel
theorem dX9_fillsRests_108 : decode cX9_fillsRests 108 = .ok (.iinc 3 1, 3) := by decide +kernel
theorem dX9_fillsRests_111 : decode cX9_fillsRests 111 = .ok (.goto (-99), 3) := by decide +kernel
theorem dX9_fillsRests_114 : decode cX9_fillsRests 114 = .ok (.return_, 1) := by decide +kernel
theorem dX9_isResting_0 : decode cX9_isResting 0 = .ok (.iconst 0, 1) := by decide +kernel
theorem dX9_isResting_1 : decode cX9_isResting 1 = .ok (.istore_n 2, 1) := by decide +kernel
theorem dX9_isResting_2 : decode cX9_isResting 2 = .ok (.iload_n 2, 1) := by decide +kernel
theorem dX9_isResting_3 : decode cX9_isResting 3 = .ok (.aload_n 0, 1) := by decide +kernel
theorem dX9_isResting_4 : decode cX9_isResting 4 = .ok (.getfield 46, 3) := by decide +kernel
theorem dX9_isResting_7 : decode cX9_isResting 7 = .ok (.aload_n 0, 1) := by decide +kernel
theorem dX9_isResting_8 : decode cX9_isResting 8 = .ok (.getfield 233, 3) := by decide +kernel
theorem dX9_isResting_11 : decode cX9_isResting 11 = .ok (.iaload, 1) := by decide +kernel
theorem dX9_isResting_12 : decode cX9_isResting 12 = .ok (.if_icmp .ge 40, 3) := by decide +kernel
theorem dX9_isResting_15 : decode cX9_isResting 15 = .ok (.aload_n 0, 1) := by decide +kernel
theorem dX9_isResting_16 : decode cX9_isResting 16 = .ok (.getfield 137, 3) := by decide +kernel
theorem dX9_isResting_19 : decode cX9_isResting 19 = .ok (.bipush 6, 2) := by decide +kernel
theorem dX9_isResting_21 : decode cX9_isResting 21 = .ok (.iload_n 1, 1) := by decide +kernel
theorem dX9_isResting_22 : decode cX9_isResting 22 = .ok (.iconst 1, 1) := by decide +kernel
theorem dX9_isResting_23 : decode cX9_isResting 23 = .ok (.iload_n 2, 1) := by decide +kernel
theorem dX9_isResting_24 : decode cX9_isResting 24 = .ok (.ishl, 1) := by decide +kernel
theorem dX9_isResting_25 : decode cX9_isResting 25 = .ok (.ixor, 1) := by decide +kernel
theorem dX9_isResting_26 : decode cX9_isResting 26 = .ok (.imul, 1) := by decide +kernel
theorem dX9_isResting_27 : decode cX9_isResting 27 = .ok (.iload_n 2, 1) := by decide +kernel
theorem dX9_isResting_28 : decode cX9_isResting 28 = .ok (.iadd, 1) := by decide +kernel
theorem dX9_isResting_29 : decode cX9_isResting 29 = .ok (.iaload, 1) := by decide +kernel
theorem dX9_isResting_30 : decode cX9_isResting 30 = .ok (.aload_n 0, 1) := by decide +kernel
theorem dX9_isResting_31 : decode cX9_isResting 31 = .ok (.getfield 137, 3) := by decide +kernel
theorem dX9_isResting_34 : decode cX9_isResting 34 = .ok (.bipush 6, 2) := by decide +kernel
theorem dX9_isResting_36 : decode cX9_isResting 36 = .ok (.iload_n 1, 1) := by decide +kernel
theorem dX9_isResting_37 : decode cX9_isResting 37 = .ok (.imul, 1) := by decide +kernel
theorem dX9_isResting_38 : decode cX9_isResting 38 = .ok (.iload_n 2, 1) := by decide +kernel
theorem dX9_isResting_39 : decode cX9_isResting 39 = .ok (.iadd, 1) := by decide +kernel
theorem dX9_isResting_40 : decode cX9_isResting 40 = .ok (.iaload, 1) := by decide +kernel
theorem dX9_isResting_41 : decode cX9_isResting 41 = .ok (.if_icmp .le 5, 3) := by decide +kernel
theorem dX9_isResting_44 : decode cX9_isResting 44 = .ok (.iconst 0, 1) := by decide +kernel
theorem dX9_isResting_45 : decode cX9_isResting 45 = .ok (.ireturn, 1) := by decide +kernel
theorem dX9_isResting_46 : decode cX9_isResting 46 = .ok (.iinc 2 1, 3) := by decide +kernel
theorem dX9_isResting_49 : decode cX9_isResting 49 = .ok (.goto (-47), 3) := by decide +kernel
theorem dX9_isResting_52 : decode cX9_isResting 52 = .ok (.iconst 1, 1) := by decide +kernel
theorem dX9_isResting_53 : decode cX9_isResting 53 = .ok (.ireturn, 1) := by decide +kernel
theorem dX9_rests_0 : decode cX9_rests 0 = .ok (.iload_n 1, 1) := by decide +kernel
theorem dX9_rests_1 : decode cX9_rests 1 = .ok (.invokestatic 414, 3) := by decide +kernel
theorem dX9_rests_4 : decode cX9_rests 4 = .ok (.ifCond .eq 8, 3) := by decide +kernel
theorem dX9_rests_7 : decode cX9_rests 7 = .ok (.iload_n 2, 1) := by decide +kernel
theorem dX9_rests_8 : decode cX9_rests 8 = .ok (.iconst (-1), 1) := by decide +kernel
theorem dX9_rests_9 : decode cX9_rests 9 = .ok (.if_icmp .ge 5, 3) := by decide +kernel
theorem dX9_rests_12 : decode cX9_rests 12 = .ok (.iconst (-1), 1) := by decide +kernel
theorem dX9_rests_13 : decode cX9_rests 13 = .ok (.ireturn, 1) := by decide +kernel
theorem dX9_rests_14 : decode cX9_rests 14 = .ok (.aload_n 0, 1) := by decide +kernel
theorem dX9_rests_15 : decode cX9_rests 15 = .ok (.invokevirtual 358, 3) := by decide +kernel
theorem dX9_rests_18 : decode cX9_rests 18 = .ok (.ifCond .ne 6, 3) := by decide +kernel
theorem dX9_rests_21 : decode cX9_rests 21 = .ok (.bipush (-2), 2) := by decide +kernel
theorem dX9_rests_23 : decode cX9_rests 23 = .ok (.ireturn, 1) := by decide +kernel
theorem dX9_rests_24 : decode cX9_rests 24 = .ok (.aload_n 0, 1) := by decide +kernel
theorem dX9_rests_25 : decode cX9_rests 25 = .ok (.iload_n 1, 1) := by decide +kernel
theorem dX9_rests_26 : decode cX9_rests 26 = .ok (.invokevirtual 434, 3) := by decide +kernel
theorem dX9_rests_29 : decode cX9_rests 29 = .ok (.iconst 0, 1) := by decide +kernel
theorem dX9_rests_30 : decode cX9_rests 30 = .ok (.istore_n 3, 1) := by decide +kernel
theorem dX9_rests_31 : decode cX9_rests 31 = .ok (.iconst 0, 1) := by decide +kernel
theorem dX9_rests_32 : decode cX9_rests 32 = .ok (.istore 4, 2) := by decide +kernel
theorem dX9_rests_34 : decode cX9_rests 34 = .ok (.iload 4, 2) := by decide +kernel
theorem dX9_rests_36 : decode cX9_rests 36 = .ok (.iconst 1, 1) := by decide +kernel
theorem dX9_rests_37 : decode cX9_rests 37 = .ok (.aload_n 0, 1) := by decide +kernel
theorem dX9_rests_38 : decode cX9_rests 38 = .ok (.getfield 46, 3) := by decide +kernel
theorem dX9_rests_41 : decode cX9_rests 41 = .ok (.aload_n 0, 1) := by decide +kernel
theorem dX9_rests_42 : decode cX9_rests 42 = .ok (.getfield 233, 3) := by decide +kernel
theorem dX9_rests_45 : decode cX9_rests 45 = .ok (.iaload, 1) := by decide +kernel
theorem dX9_rests_46 : decode cX9_rests 46 = .ok (.ishl, 1) := by decide +kernel
theorem dX9_rests_47 : decode cX9_rests 47 = .ok (.if_icmp .ge 32, 3) := by decide +kernel
theorem dX9_rests_50 : decode cX9_rests 50 = .ok (.aload_n 0, 1) := by decide +kernel
theorem dX9_rests_51 : decode cX9_rests 51 = .ok (.iload 4, 2) := by decide +kernel
theorem dX9_rests_53 : decode cX9_rests 53 = .ok (.invokevirtual 437, 3) := by decide +kernel
theorem dX9_rests_56 : decode cX9_rests 56 = .ok (.ifCond .ne 6, 3) := by decide +kernel
theorem dX9_rests_59 : decode cX9_rests 59 = .ok (.goto 14, 3) := by decide +kernel
theorem dX9_rests_62 : decode cX9_rests 62 = .ok (.iload_n 3, 1) := by decide +kernel
theorem dX9_rests_63 : decode cX9_rests 63 = .ok (.iload_n 2, 1) := by decide +kernel
theorem dX9_rests_64 : decode cX9_rests 64 = .ok (.if_icmp .ne 6, 3) := by decide +kernel
theorem dX9_rests_67 : decode cX9_rests 67 = .ok (.iload 4, 2) := by decide +kernel
theorem dX9_rests_69 : decode cX9_rests 69 = .ok (.ireturn, 1) := by decide +kernel
theorem dX9_rests_70 : decode cX9_rests 70 = .ok (.iinc 3 1, 3) := by decide +kernel
theorem dX9_rests_73 : decode cX9_rests 73 = .ok (.iinc 4 1, 3) := by decide +kernel
theorem dX9_rests_76 : decode cX9_rests 76 = .ok (.goto (-42), 3) := by decide +kernel
theorem dX9_rests_79 : decode cX9_rests 79 = .ok (.iload_n 2, 1) := by decide +kernel
theorem dX9_rests_80 : decode cX9_rests 80 = .ok (.iconst (-1), 1) := by decide +kernel
theorem dX9_rests_81 : decode cX9_rests 81 = .ok (.if_icmp .ne 7, 3) := by decide +kernel
theorem dX9_rests_84 : decode cX9_rests 84 = .ok (.iload_n 3, 1) := by decide +kernel
theorem dX9_rests_85 : decode cX9_rests 85 = .ok (.goto 4, 3) := by decide +kernel
theorem dX9_rests_88 : decode cX9_rests 88 = .ok (.iconst (-1), 1) := by decide +kernel
theorem dX9_rests_89 : decode cX9_rests 89 = .ok (.ireturn, 1) := by decide +kernel
theorem dX9_silk_0 : decode cX9_silk 0 = .ok (.iload_n 1, 1) := by decide +kernel
theorem dX9_silk_1 : decode cX9_silk 1 = .ok (.iconst 0, 1) := by decide +kernel
theorem dX9_silk_2 : decode cX9_silk 2 = .ok (.bipush 120, 2) := by decide +kernel
theorem dX9_silk_4 : decode cX9_silk 4 = .ok (.invokestatic 342, 3) := by decide +kernel
theorem dX9_silk_7 : decode cX9_silk 7 = .ok (.ifCond .eq 13, 3) := by decide +kernel
theorem dX9_silk_10 : decode cX9_silk 10 = .ok (.iload_n 2, 1) := by decide +kernel
theorem dX9_silk_11 : decode cX9_silk 11 = .ok (.iconst 1, 1) := by decide +kernel
theorem dX9_silk_12 : decode cX9_silk 12 = .ok (.bipush 20, 2) := by decide +kernel
theorem dX9_silk_14 : decode cX9_silk 14 = .ok (.invokestatic 342, 3) := by decide +kernel
theorem dX9_silk_17 : decode cX9_silk 17 = .ok (.ifCond .ne 5, 3) := by decide +kernel
theorem dX9_silk_20 : decode cX9_silk 20 = .ok (.iconst (-1), 1) := by decide +kernel
theorem dX9_silk_21 : decode cX9_silk 21 = .ok (.ireturn, 1) := by decide +kernel
theorem dX9_silk_22 : decode cX9_silk 22 = .ok (.iconst 0, 1) := by decide +kernel
theorem dX9_silk_23 : decode cX9_silk 23 = .ok (.istore_n 3, 1) := by decide +kernel
theorem dX9_silk_24 : decode cX9_silk 24 = .ok (.iconst 0, 1) := by decide +kernel
theorem dX9_silk_25 : decode cX9_silk 25 = .ok (.istore 4, 2) := by decide +kernel
theorem dX9_silk_27 : decode cX9_silk 27 = .ok (.iload 4, 2) := by decide +kernel
theorem dX9_silk_29 : decode cX9_silk 29 = .ok (.iload_n 2, 1) := by decide +kernel
theorem dX9_silk_30 : decode cX9_silk 30 = .ok (.if_icmp .ge 47, 3) := by decide +kernel
theorem dX9_silk_33 : decode cX9_silk 33 = .ok (.aload_n 0, 1) := by decide +kernel
theorem dX9_silk_34 : decode cX9_silk 34 = .ok (.invokevirtual 352, 3) := by decide +kernel
theorem dX9_silk_37 : decode cX9_silk 37 = .ok (.aload_n 0, 1) := by decide +kernel
theorem dX9_silk_38 : decode cX9_silk 38 = .ok (.dup, 1) := by decide +kernel
theorem dX9_silk_39 : decode cX9_silk 39 = .ok (.getfield 297, 3) := by decide +kernel
theorem dX9_silk_42 : decode cX9_silk 42 = .ok (.iload 4, 2) := by decide +kernel
theorem dX9_silk_44 : decode cX9_silk 44 = .ok (.iadd, 1) := by decide +kernel
theorem dX9_silk_45 : decode cX9_silk 45 = .ok (.putfield 297, 3) := by decide +kernel
theorem dX9_silk_48 : decode cX9_silk 48 = .ok (.aload_n 0, 1) := by decide +kernel
theorem dX9_silk_49 : decode cX9_silk 49 = .ok (.iload_n 1, 1) := by decide +kernel
theorem dX9_silk_50 : decode cX9_silk 50 = .ok (.invokevirtual 346, 3) := by decide +kernel
theorem dX9_silk_53 : decode cX9_silk 53 = .ok (.iload_n 3, 1) := by decide +kernel
theorem dX9_silk_54 : decode cX9_silk 54 = .ok (.aload_n 0, 1) := by decide +kernel
theorem dX9_silk_55 : decode cX9_silk 55 = .ok (.getfield 113, 3) := by decide +kernel
theorem dX9_silk_58 : decode cX9_silk 58 = .ok (.bipush 15, 2) := by decide +kernel
theorem dX9_silk_60 : decode cX9_silk 60 = .ok (.iaload, 1) := by decide +kernel
theorem dX9_silk_61 : decode cX9_silk 61 = .ok (.aload_n 0, 1) := by decide +kernel
theorem dX9_silk_62 : decode cX9_silk 62 = .ok (.getfield 110, 3) := by decide +kernel
theorem dX9_silk_65 : decode cX9_silk 65 = .ok (.bipush 15, 2) := by decide +kernel
theorem dX9_silk_67 : decode cX9_silk 67 = .ok (.iaload, 1) := by decide +kernel
theorem dX9_silk_68 : decode cX9_silk 68 = .ok (.isub, 1) := by decide +kernel
theorem dX9_silk_69 : decode cX9_silk 69 = .ok (.iadd, 1) := by decide +kernel
theorem dX9_silk_70 : decode cX9_silk 70 = .ok (.istore_n 3, 1) := by decide +kernel
theorem dX9_silk_71 : decode cX9_silk 71 = .ok (.iinc 4 1, 3) := by decide +kernel
theorem dX9_silk_74 : decode cX9_silk 74 = .ok (.goto (-47), 3) := by decide +kernel
theorem dX9_silk_77 : decode cX9_silk 77 = .ok (.iload_n 3, 1) := by decide +kernel
theorem dX9_silk_78 : decode cX9_silk 78 = .ok (.ireturn, 1) := by decide +kernel
theorem dX9_common_0 : decode cX9_common 0 = .ok (.iload_n 0, 1) := by decide +kernel
theorem dX9_common_1 : decode cX9_common 1 = .ok (.istore_n 2, 1) := by decide +kernel
theorem dX9_common_2 : decode cX9_common 2 = .ok (.iload_n 1, 1) := by decide +kernel
theorem dX9_common_3 : decode cX9_common 3 = .ok (.istore_n 3, 1) := by decide +kernel
theorem dX9_common_4 : decode cX9_common 4 = .ok (.iload_n 3, 1) := by decide +kernel
theorem dX9_common_5 : decode cX9_common 5 = .ok (.ifCond .eq 16, 3) := by decide +kernel
theorem dX9_common_8 : decode cX9_common 8 = .ok (.iload_n 2, 1) := by decide +kernel
theorem dX9_common_9 : decode cX9_common 9 = .ok (.iload_n 3, 1) := by decide +kernel
theorem dX9_common_10 : decode cX9_common 10 = .ok (.irem, 1) := by decide +kernel
theorem dX9_common_11 : decode cX9_common 11 = .ok (.istore 4, 2) := by decide +kernel
theorem dX9_common_13 : decode cX9_common 13 = .ok (.iload_n 3, 1) := by decide +kernel
theorem dX9_common_14 : decode cX9_common 14 = .ok (.istore_n 2, 1) := by decide +kernel
theorem dX9_common_15 : decode cX9_common 15 = .ok (.iload 4, 2) := by decide +kernel
theorem dX9_common_17 : decode cX9_common 17 = .ok (.istore_n 3, 1) := by decide +kernel
theorem dX9_common_18 : decode cX9_common 18 = .ok (.goto (-14), 3) := by decide +kernel
theorem dX9_common_21 : decode cX9_common 21 = .ok (.iload_n 2, 1) := by decide +kernel
theorem dX9_common_22 : decode cX9_common 22 = .ok (.ireturn, 1) := by decide +kernel
theorem dX9_likes_0 : decode cX9_likes 0 = .ok (.aload_n 0, 1) := by decide +kernel
theorem dX9_likes_1 : decode cX9_likes 1 = .ok (.iload_n 1, 1) := by decide +kernel
theorem dX9_likes_2 : decode cX9_likes 2 = .ok (.invokevirtual 349, 3) := by decide +kernel
theorem dX9_likes_5 : decode cX9_likes 5 = .ok (.ifCond .ne 5, 3) := by decide +kernel
theorem dX9_likes_8 : decode cX9_likes 8 = .ok (.iconst (-1), 1) := by decide +kernel
theorem dX9_likes_9 : decode cX9_likes 9 = .ok (.ireturn, 1) := by decide +kernel
theorem dX9_likes_10 : decode cX9_likes 10 = .ok (.aload_n 0, 1) := by decide +kernel
theorem dX9_likes_11 : decode cX9_likes 11 = .ok (.getfield 110, 3) := by decide +kernel
theorem dX9_likes_14 : decode cX9_likes 14 = .ok (.bipush 20, 2) := by decide +kernel
theorem dX9_likes_16 : decode cX9_likes 16 = .ok (.iload_n 1, 1) := by decide +kernel
theorem dX9_likes_17 : decode cX9_likes 17 = .ok (.iadd, 1) := by decide +kernel
theorem dX9_likes_18 : decode cX9_likes 18 = .ok (.iaload, 1) := by decide +kernel
theorem dX9_likes_19 : decode cX9_likes 19 = .ok (.istore_n 3, 1) := by decide +kernel
theorem dX9_likes_20 : decode cX9_likes 20 = .ok (.iload_n 3, 1) := by decide +kernel
theorem dX9_likes_21 : decode cX9_likes 21 = .ok (.ifCond .ne 6, 3) := by decide +kernel
theorem dX9_likes_24 : decode cX9_likes 24 = .ok (.bipush (-2), 2) := by decide +kernel
theorem dX9_likes_26 : decode cX9_likes 26 = .ok (.ireturn, 1) := by decide +kernel
theorem dX9_likes_27 : decode cX9_likes 27 = .ok (.aload_n 0, 1) := by decide +kernel
theorem dX9_likes_28 : decode cX9_likes 28 = .ok (.getfield 110, 3) := by decide +kernel
theorem dX9_likes_31 : decode cX9_likes 31 = .ok (.bipush 26, 2) := by decide +kernel
theorem dX9_likes_33 : decode cX9_likes 33 = .ok (.iload_n 1, 1) := by decide +kernel
theorem dX9_likes_34 : decode cX9_likes 34 = .ok (.iadd, 1) := by decide +kernel
theorem dX9_likes_35 : decode cX9_likes 35 = .ok (.iaload, 1) := by decide +kernel
theorem dX9_likes_36 : decode cX9_likes 36 = .ok (.iload_n 3, 1) := by decide +kernel
theorem dX9_likes_37 : decode cX9_likes 37 = .ok (.invokestatic 440, 3) := by decide +kernel
theorem dX9_likes_40 : decode cX9_likes 40 = .ok (.istore 4, 2) := by decide +kernel
theorem dX9_likes_42 : decode cX9_likes 42 = .ok (.iload_n 2, 1) := by decide +kernel
theorem dX9_likes_43 : decode cX9_likes 43 = .ok (.ifCond .eq 7, 3) := by decide +kernel
theorem dX9_likes_46 : decode cX9_likes 46 = .ok (.iload_n 3, 1) := by decide +kernel
theorem dX9_likes_47 : decode cX9_likes 47 = .ok (.goto 12, 3) := by decide +kernel
theorem dX9_likes_50 : decode cX9_likes 50 = .ok (.aload_n 0, 1) := by decide +kernel
theorem dX9_likes_51 : decode cX9_likes 51 = .ok (.getfield 110, 3) := by decide +kernel
theorem dX9_likes_54 : decode cX9_likes 54 = .ok (.bipush 26, 2) := by decide +kernel
theorem dX9_likes_56 : decode cX9_likes 56 = .ok (.iload_n 1, 1) := by decide +kernel
theorem dX9_likes_57 : decode cX9_likes 57 = .ok (.iadd, 1) := by decide +kernel
theorem dX9_likes_58 : decode cX9_likes 58 = .ok (.iaload, 1) := by decide +kernel
theorem dX9_likes_59 : decode cX9_likes 59 = .ok (.iload 4, 2) := by decide +kernel
theorem dX9_likes_61 : decode cX9_likes 61 = .ok (.idiv, 1) := by decide +kernel
theorem dX9_likes_62 : decode cX9_likes 62 = .ok (.ireturn, 1) := by decide +kernel
theorem dX9_tell_0 : decode cX9_tell 0 = .ok (.aload_n 0, 1) := by decide +kernel
theorem dX9_tell_1 : decode cX9_tell 1 = .ok (.getfield 254, 3) := by decide +kernel
theorem dX9_tell_4 : decode cX9_tell 4 = .ok (.bipush 20, 2) := by decide +kernel
theorem dX9_tell_6 : decode cX9_tell 6 = .ok (.if_icmp .eq 23, 3) := by decide +kernel
theorem dX9_tell_9 : decode cX9_tell 9 = .ok (.iload_n 1, 1) := by decide +kernel
theorem dX9_tell_10 : decode cX9_tell 10 = .ok (.iconst 0, 1) := by decide +kernel
theorem dX9_tell_11 : decode cX9_tell 11 = .ok (.bipush 59, 2) := by decide +kernel
theorem dX9_tell_13 : decode cX9_tell 13 = .ok (.invokestatic 342, 3) := by decide +kernel
theorem dX9_tell_16 : decode cX9_tell 16 = .ok (.ifCond .eq 13, 3) := by decide +kernel
theorem dX9_tell_19 : decode cX9_tell 19 = .ok (.iload_n 2, 1) := by decide +kernel
theorem dX9_tell_20 : decode cX9_tell 20 = .ok (.iconst 0, 1) := by decide +kernel
theorem dX9_tell_21 : decode cX9_tell 21 = .ok (.bipush 99, 2) := by decide +kernel
theorem dX9_tell_23 : decode cX9_tell 23 = .ok (.invokestatic 342, 3) := by decide +kernel
theorem dX9_tell_26 : decode cX9_tell 26 = .ok (.ifCond .ne 5, 3) := by decide +kernel
theorem dX9_tell_29 : decode cX9_tell 29 = .ok (.iconst (-1), 1) := by decide +kernel
theorem dX9_tell_30 : decode cX9_tell 30 = .ok (.ireturn, 1) := by decide +kernel
theorem dX9_tell_31 : decode cX9_tell 31 = .ok (.aload_n 0, 1) := by decide +kernel
theorem dX9_tell_32 : decode cX9_tell 32 = .ok (.getfield 140, 3) := by decide +kernel
theorem dX9_tell_35 : decode cX9_tell 35 = .ok (.aload_n 0, 1) := by decide +kernel
theorem dX9_tell_36 : decode cX9_tell 36 = .ok (.getfield 254, 3) := by decide +kernel
theorem dX9_tell_39 : decode cX9_tell 39 = .ok (.iload_n 1, 1) := by decide +kernel
theorem dX9_tell_40 : decode cX9_tell 40 = .ok (.iastore, 1) := by decide +kernel
theorem dX9_tell_41 : decode cX9_tell 41 = .ok (.aload_n 0, 1) := by decide +kernel
theorem dX9_tell_42 : decode cX9_tell 42 = .ok (.getfield 143, 3) := by decide +kernel
theorem dX9_tell_45 : decode cX9_tell 45 = .ok (.aload_n 0, 1) := by decide +kernel
theorem dX9_tell_46 : decode cX9_tell 46 = .ok (.getfield 254, 3) := by decide +kernel
theorem dX9_tell_49 : decode cX9_tell 49 = .ok (.iload_n 2, 1) := by decide +kernel
theorem dX9_tell_50 : decode cX9_tell 50 = .ok (.iastore, 1) := by decide +kernel
theorem dX9_tell_51 : decode cX9_tell 51 = .ok (.aload_n 0, 1) := by decide +kernel
theorem dX9_tell_52 : decode cX9_tell 52 = .ok (.dup, 1) := by decide +kernel
theorem dX9_tell_53 : decode cX9_tell 53 = .ok (.getfield 254, 3) := by decide +kernel
theorem dX9_tell_56 : decode cX9_tell 56 = .ok (.iconst 1, 1) := by decide +kernel
theorem dX9_tell_57 : decode cX9_tell 57 = .ok (.iadd, 1) := by decide +kernel
theorem dX9_tell_58 : decode cX9_tell 58 = .ok (.putfield 254, 3) := by decide +kernel
theorem dX9_tell_61 : decode cX9_tell 61 = .ok (.aload_n 0, 1) := by decide +kernel
theorem dX9_tell_62 : decode cX9_tell 62 = .ok (.getfield 254, 3) := by decide +kernel
theorem dX9_tell_65 : decode cX9_tell 65 = .ok (.iconst 1, 1) := by decide +kernel
theorem dX9_tell_66 : decode cX9_tell 66 = .ok (.isub, 1) := by decide +kernel
theorem dX9_tell_67 : decode cX9_tell 67 = .ok (.ireturn, 1) := by decide +kernel
theorem dX9_forget_0 : decode cX9_forget 0 = .ok (.aload_n 0, 1) := by decide +kernel
theorem dX9_forget_1 : decode cX9_forget 1 = .ok (.getfield 254, 3) := by decide +kernel
theorem dX9_forget_4 : decode cX9_forget 4 = .ok (.istore_n 1, 1) := by decide +kernel
theorem dX9_forget_5 : decode cX9_forget 5 = .ok (.aload_n 0, 1) := by decide +kernel
theorem dX9_forget_6 : decode cX9_forget 6 = .ok (.iconst 0, 1) := by decide +kernel
theorem dX9_forget_7 : decode cX9_forget 7 = .ok (.putfield 254, 3) := by decide +kernel
theorem dX9_forget_10 : decode cX9_forget 10 = .ok (.iload_n 1, 1) := by decide +kernel
theorem dX9_forget_11 : decode cX9_forget 11 = .ok (.ireturn, 1) := by decide +kernel
theorem dX9_isSo_0 : decode cX9_isSo 0 = .ok (.aload_n 0, 1) := by decide +kernel
theorem dX9_isSo_1 : decode cX9_isSo 1 = .ok (.invokevirtual 160, 3) := by decide +kernel
theorem dX9_isSo_4 : decode cX9_isSo 4 = .ok (.aload_n 0, 1) := by decide +kernel
theorem dX9_isSo_5 : decode cX9_isSo 5 = .ok (.getfield 113, 3) := by decide +kernel
theorem dX9_isSo_8 : decode cX9_isSo 8 = .ok (.iconst 0, 1) := by decide +kernel
theorem dX9_isSo_9 : decode cX9_isSo 9 = .ok (.iload_n 1, 1) := by decide +kernel
theorem dX9_isSo_10 : decode cX9_isSo 10 = .ok (.iastore, 1) := by decide +kernel
theorem dX9_isSo_11 : decode cX9_isSo 11 = .ok (.iconst (-1), 1) := by decide +kernel
theorem dX9_isSo_12 : decode cX9_isSo 12 = .ok (.istore_n 3, 1) := by decide +kernel
theorem dX9_isSo_13 : decode cX9_isSo 13 = .ok (.iconst 0, 1) := by decide +kernel
theorem dX9_isSo_14 : decode cX9_isSo 14 = .ok (.istore 4, 2) := by decide +kernel
theorem dX9_isSo_16 : decode cX9_isSo 16 = .ok (.iload 4, 2) := by decide +kernel
theorem dX9_isSo_18 : decode cX9_isSo 18 = .ok (.iload_n 2, 1) := by decide +kernel
theorem dX9_isSo_19 : decode cX9_isSo 19 = .ok (.if_icmp .ge 28, 3) := by decide +kernel
theorem dX9_isSo_22 : decode cX9_isSo 22 = .ok (.aload_n 0, 1) := by decide +kernel
theorem dX9_isSo_23 : decode cX9_isSo 23 = .ok (.getfield 140, 3) := by decide +kernel
theorem dX9_isSo_26 : decode cX9_isSo 26 = .ok (.iload 4, 2) := by decide +kernel
theorem dX9_isSo_28 : decode cX9_isSo 28 = .ok (.iaload, 1) := by decide +kernel
theorem dX9_isSo_29 : decode cX9_isSo 29 = .ok (.iload_n 3, 1) := by decide +kernel
theorem dX9_isSo_30 : decode cX9_isSo 30 = .ok (.if_icmp .le 11, 3) := by decide +kernel
theorem dX9_isSo_33 : decode cX9_isSo 33 = .ok (.aload_n 0, 1) := by decide +kernel
theorem dX9_isSo_34 : decode cX9_isSo 34 = .ok (.getfield 140, 3) := by decide +kernel
theorem dX9_isSo_37 : decode cX9_isSo 37 = .ok (.iload 4, 2) := by decide +kernel
theorem dX9_isSo_39 : decode cX9_isSo 39 = .ok (.iaload, 1) := by decide +kernel
theorem dX9_isSo_40 : decode cX9_isSo 40 = .ok (.istore_n 3, 1) := by decide +kernel
theorem dX9_isSo_41 : decode cX9_isSo 41 = .ok (.iinc 4 1, 3) := by decide +kernel
theorem dX9_isSo_44 : decode cX9_isSo 44 = .ok (.goto (-28), 3) := by decide +kernel
theorem dX9_isSo_47 : decode cX9_isSo 47 = .ok (.iconst 0, 1) := by decide +kernel
theorem dX9_isSo_48 : decode cX9_isSo 48 = .ok (.istore 4, 2) := by decide +kernel
theorem dX9_isSo_50 : decode cX9_isSo 50 = .ok (.iload 4, 2) := by decide +kernel
theorem dX9_isSo_52 : decode cX9_isSo 52 = .ok (.iload_n 3, 1) := by decide +kernel
theorem dX9_isSo_53 : decode cX9_isSo 53 = .ok (.if_icmp .gt 59, 3) := by decide +kernel
theorem dX9_isSo_56 : decode cX9_isSo 56 = .ok (.aload_n 0, 1) := by decide +kernel
theorem dX9_isSo_57 : decode cX9_isSo 57 = .ok (.invokevirtual 339, 3) := by decide +kernel
theorem dX9_isSo_60 : decode cX9_isSo 60 = .ok (.iconst 0, 1) := by decide +kernel
theorem dX9_isSo_61 : decode cX9_isSo 61 = .ok (.istore 5, 2) := by decide +kernel
theorem dX9_isSo_63 : decode cX9_isSo 63 = .ok (.iload 5, 2) := by decide +kernel
theorem dX9_isSo_65 : decode cX9_isSo 65 = .ok (.iload_n 2, 1) := by decide +kernel
theorem dX9_isSo_66 : decode cX9_isSo 66 = .ok (.if_icmp .ge 40, 3) := by decide +kernel
theorem dX9_isSo_69 : decode cX9_isSo 69 = .ok (.aload_n 0, 1) := by decide +kernel
theorem dX9_isSo_70 : decode cX9_isSo 70 = .ok (.getfield 140, 3) := by decide +kernel
theorem dX9_isSo_73 : decode cX9_isSo 73 = .ok (.iload 5, 2) := by decide +kernel
theorem dX9_isSo_75 : decode cX9_isSo 75 = .ok (.iaload, 1) := by decide +kernel
theorem dX9_isSo_76 : decode cX9_isSo 76 = .ok (.iload 4, 2) := by decide +kernel
theorem dX9_isSo_78 : decode cX9_isSo 78 = .ok (.if_icmp .ne 22, 3) := by decide +kernel
theorem dX9_isSo_81 : decode cX9_isSo 81 = .ok (.aload_n 0, 1) := by decide +kernel
theorem dX9_isSo_82 : decode cX9_isSo 82 = .ok (.getfield 113, 3) := by decide +kernel
theorem dX9_isSo_85 : decode cX9_isSo 85 = .ok (.bipush 6, 2) := by decide +kernel
theorem dX9_isSo_87 : decode cX9_isSo 87 = .ok (.iaload, 1) := by decide +kernel
theorem dX9_isSo_88 : decode cX9_isSo 88 = .ok (.aload_n 0, 1) := by decide +kernel
theorem dX9_isSo_89 : decode cX9_isSo 89 = .ok (.getfield 143, 3) := by decide +kernel
theorem dX9_isSo_92 : decode cX9_isSo 92 = .ok (.iload 5, 2) := by decide +kernel
theorem dX9_isSo_94 : decode cX9_isSo 94 = .ok (.iaload, 1) := by decide +kernel
theorem dX9_isSo_95 : decode cX9_isSo 95 = .ok (.if_icmp .eq 5, 3) := by decide +kernel
theorem dX9_isSo_98 : decode cX9_isSo 98 = .ok (.iconst 0, 1) := by decide +kernel
theorem dX9_isSo_99 : decode cX9_isSo 99 = .ok (.ireturn, 1) := by decide +kernel
theorem dX9_isSo_100 : decode cX9_isSo 100 = .ok (.iinc 5 1, 3) := by decide +kernel
theorem dX9_isSo_103 : decode cX9_isSo 103 = .ok (.goto (-40), 3) := by decide +kernel
theorem dX9_isSo_106 : decode cX9_isSo 106 = .ok (.iinc 4 1, 3) := by decide +kernel
theorem dX9_isSo_109 : decode cX9_isSo 109 = .ok (.goto (-59), 3) := by decide +kernel
theorem dX9_isSo_112 : decode cX9_isSo 112 = .ok (.iconst 1, 1) := by decide +kernel
theorem dX9_isSo_113 : decode cX9_isSo 113 = .ok (.ireturn, 1) := by decide +kernel
theorem dX9_fed_0 : decode cX9_fed 0 = .ok (.iload_n 1, 1) := by decide +kernel
theorem dX9_fed_1 : decode cX9_fed 1 = .ok (.iconst 0, 1) := by decide +kernel
theorem dX9_fed_2 : decode cX9_fed 2 = .ok (.aload_n 0, 1) := by decide +kernel
theorem dX9_fed_3 : decode cX9_fed 3 = .ok (.getfield 254, 3) := by decide +kernel
theorem dX9_fed_6 : decode cX9_fed 6 = .ok (.invokestatic 342, 3) := by decide +kernel
theorem dX9_fed_9 : decode cX9_fed 9 = .ok (.ifCond .eq 8, 3) := by decide +kernel
theorem dX9_fed_12 : decode cX9_fed 12 = .ok (.iload_n 2, 1) := by decide +kernel
theorem dX9_fed_13 : decode cX9_fed 13 = .ok (.iconst (-1), 1) := by decide +kernel
theorem dX9_fed_14 : decode cX9_fed 14 = .ok (.if_icmp .ge 5, 3) := by decide +kernel
theorem dX9_fed_17 : decode cX9_fed 17 = .ok (.iconst (-1), 1) := by decide +kernel
theorem dX9_fed_18 : decode cX9_fed 18 = .ok (.ireturn, 1) := by decide +kernel
theorem dX9_fed_19 : decode cX9_fed 19 = .ok (.iconst 0, 1) := by decide +kernel
theorem dX9_fed_20 : decode cX9_fed 20 = .ok (.istore_n 3, 1) := by decide +kernel
theorem dX9_fed_21 : decode cX9_fed 21 = .ok (.iconst 0, 1) := by decide +kernel
theorem dX9_fed_22 : decode cX9_fed 22 = .ok (.istore 4, 2) := by decide +kernel
theorem dX9_fed_24 : decode cX9_fed 24 = .ok (.iload 4, 2) := by decide +kernel
theorem dX9_fed_26 : decode cX9_fed 26 = .ok (.bipush 100, 2) := by decide +kernel
theorem dX9_fed_28 : decode cX9_fed 28 = .ok (.if_icmp .ge 33, 3) := by decide +kernel
theorem dX9_fed_31 : decode cX9_fed 31 = .ok (.aload_n 0, 1) := by decide +kernel
theorem dX9_fed_32 : decode cX9_fed 32 = .ok (.iload 4, 2) := by decide +kernel
theorem dX9_fed_34 : decode cX9_fed 34 = .ok (.iload_n 1, 1) := by decide +kernel
theorem dX9_fed_35 : decode cX9_fed 35 = .ok (.invokevirtual 443, 3) := by decide +kernel
theorem dX9_fed_38 : decode cX9_fed 38 = .ok (.ifCond .ne 6, 3) := by decide +kernel
theorem dX9_fed_41 : decode cX9_fed 41 = .ok (.goto 14, 3) := by decide +kernel
theorem dX9_fed_44 : decode cX9_fed 44 = .ok (.iload_n 3, 1) := by decide +kernel
theorem dX9_fed_45 : decode cX9_fed 45 = .ok (.iload_n 2, 1) := by decide +kernel
theorem dX9_fed_46 : decode cX9_fed 46 = .ok (.if_icmp .ne 6, 3) := by decide +kernel
theorem dX9_fed_49 : decode cX9_fed 49 = .ok (.iload 4, 2) := by decide +kernel
theorem dX9_fed_51 : decode cX9_fed 51 = .ok (.ireturn, 1) := by decide +kernel
theorem dX9_fed_52 : decode cX9_fed 52 = .ok (.iinc 3 1, 3) := by decide +kernel
theorem dX9_fed_55 : decode cX9_fed 55 = .ok (.iinc 4 1, 3) := by decide +kernel
theorem dX9_fed_58 : decode cX9_fed 58 = .ok (.goto (-34), 3) := by decide +kernel
theorem dX9_fed_61 : decode cX9_fed 61 = .ok (.iload_n 2, 1) := by decide +kernel
theorem dX9_fed_62 : decode cX9_fed 62 = .ok (.iconst (-1), 1) := by decide +kernel
theorem dX9_fed_63 : decode cX9_fed 63 = .ok (.if_icmp .ne 7, 3) := by decide +kernel
theorem dX9_fed_66 : decode cX9_fed 66 = .ok (.iload_n 3, 1) := by decide +kernel
theorem dX9_fed_67 : decode cX9_fed 67 = .ok (.goto 4, 3) := by decide +kernel
theorem dX9_fed_70 : decode cX9_fed 70 = .ok (.iconst (-1), 1) := by decide +kernel
theorem dX9_fed_71 : decode cX9_fed 71 = .ok (.ireturn, 1) := by decide +kernel
theorem dX9_hold_0 : decode cX9_hold 0 = .ok (.iload_n 1, 1) := by decide +kernel
theorem dX9_hold_1 : decode cX9_hold 1 = .ok (.iconst 0, 1) := by decide +kernel
theorem dX9_hold_2 : decode cX9_hold 2 = .ok (.iconst 2, 1) := by decide +kernel
theorem dX9_hold_3 : decode cX9_hold 3 = .ok (.invokestatic 342, 3) := by decide +kernel
theorem dX9_hold_6 : decode cX9_hold 6 = .ok (.ifCond .ne 5, 3) := by decide +kernel
theorem dX9_hold_9 : decode cX9_hold 9 = .ok (.iconst 0, 1) := by decide +kernel
theorem dX9_hold_10 : decode cX9_hold 10 = .ok (.ireturn, 1) := by decide +kernel
theorem dX9_hold_11 : decode cX9_hold 11 = .ok (.aload_n 0, 1) := by decide +kernel
theorem dX9_hold_12 : decode cX9_hold 12 = .ok (.getfield 146, 3) := by decide +kernel
theorem dX9_hold_15 : decode cX9_hold 15 = .ok (.iload_n 1, 1) := by decide +kernel
theorem dX9_hold_16 : decode cX9_hold 16 = .ok (.iconst 1, 1) := by decide +kernel
theorem dX9_hold_17 : decode cX9_hold 17 = .ok (.bastore, 1) := by decide +kernel
theorem dX9_hold_18 : decode cX9_hold 18 = .ok (.iconst 0, 1) := by decide +kernel
theorem dX9_hold_19 : decode cX9_hold 19 = .ok (.istore_n 2, 1) := by decide +kernel
theorem dX9_hold_20 : decode cX9_hold 20 = .ok (.iload_n 2, 1) := by decide +kernel
theorem dX9_hold_21 : decode cX9_hold 21 = .ok (.bipush 60, 2) := by decide +kernel
theorem dX9_hold_23 : decode cX9_hold 23 = .ok (.if_icmp .ge 26, 3) := by decide +kernel
theorem dX9_hold_26 : decode cX9_hold 26 = .ok (.aload_n 0, 1) := by decide +kernel
theorem dX9_hold_27 : decode cX9_hold 27 = .ok (.getfield 149, 3) := by decide +kernel
theorem dX9_hold_30 : decode cX9_hold 30 = .ok (.bipush 60, 2) := by decide +kernel
theorem dX9_hold_32 : decode cX9_hold 32 = .ok (.iload_n 1, 1) := by decide +kernel
theorem dX9_hold_33 : decode cX9_hold 33 = .ok (.imul, 1) := by decide +kernel
theorem dX9_hold_34 : decode cX9_hold 34 = .ok (.iload_n 2, 1) := by decide +kernel
theorem dX9_hold_35 : decode cX9_hold 35 = .ok (.iadd, 1) := by decide +kernel
theorem dX9_hold_36 : decode cX9_hold 36 = .ok (.aload_n 0, 1) := by decide +kernel
theorem dX9_hold_37 : decode cX9_hold 37 = .ok (.getfield 110, 3) := by decide +kernel
theorem dX9_hold_40 : decode cX9_hold 40 = .ok (.iload_n 2, 1) := by decide +kernel
theorem dX9_hold_41 : decode cX9_hold 41 = .ok (.iaload, 1) := by decide +kernel
theorem dX9_hold_42 : decode cX9_hold 42 = .ok (.iastore, 1) := by decide +kernel
theorem dX9_hold_43 : decode cX9_hold 43 = .ok (.iinc 2 1, 3) := by decide +kernel
theorem dX9_hold_46 : decode cX9_hold 46 = .ok (.goto (-26), 3) := by decide +kernel
theorem dX9_hold_49 : decode cX9_hold 49 = .ok (.iconst 1, 1) := by decide +kernel
theorem dX9_hold_50 : decode cX9_hold 50 = .ok (.ireturn, 1) := by decide +kernel
theorem dX9_restore_0 : decode cX9_restore 0 = .ok (.iload_n 1, 1) := by decide +kernel
theorem dX9_restore_1 : decode cX9_restore 1 = .ok (.iconst 0, 1) := by decide +kernel
theorem dX9_restore_2 : decode cX9_restore 2 = .ok (.iconst 2, 1) := by decide +kernel
theorem dX9_restore_3 : decode cX9_restore 3 = .ok (.invokestatic 342, 3) := by decide +kernel
theorem dX9_restore_6 : decode cX9_restore 6 = .ok (.ifCond .eq 12, 3) := by decide +kernel
theorem dX9_restore_9 : decode cX9_restore 9 = .ok (.aload_n 0, 1) := by decide +kernel
theorem dX9_restore_10 : decode cX9_restore 10 = .ok (.getfield 146, 3) := by decide +kernel
theorem dX9_restore_13 : decode cX9_restore 13 = .ok (.iload_n 1, 1) := by decide +kernel
theorem dX9_restore_14 : decode cX9_restore 14 = .ok (.baload, 1) := by decide +kernel
theorem dX9_restore_15 : decode cX9_restore 15 = .ok (.ifCond .ne 5, 3) := by decide +kernel
theorem dX9_restore_18 : decode cX9_restore 18 = .ok (.iconst 0, 1) := by decide +kernel
theorem dX9_restore_19 : decode cX9_restore 19 = .ok (.ireturn, 1) := by decide +kernel
theorem dX9_restore_20 : decode cX9_restore 20 = .ok (.iconst 0, 1) := by decide +kernel
theorem dX9_restore_21 : decode cX9_restore 21 = .ok (.istore_n 2, 1) := by decide +kernel
theorem dX9_restore_22 : decode cX9_restore 22 = .ok (.iload_n 2, 1) := by decide +kernel
theorem dX9_restore_23 : decode cX9_restore 23 = .ok (.bipush 60, 2) := by decide +kernel
theorem dX9_restore_25 : decode cX9_restore 25 = .ok (.if_icmp .ge 26, 3) := by decide +kernel
theorem dX9_restore_28 : decode cX9_restore 28 = .ok (.aload_n 0, 1) := by decide +kernel
theorem dX9_restore_29 : decode cX9_restore 29 = .ok (.getfield 110, 3) := by decide +kernel
theorem dX9_restore_32 : decode cX9_restore 32 = .ok (.iload_n 2, 1) := by decide +kernel
theorem dX9_restore_33 : decode cX9_restore 33 = .ok (.aload_n 0, 1) := by decide +kernel
theorem dX9_restore_34 : decode cX9_restore 34 = .ok (.getfield 149, 3) := by decide +kernel
theorem dX9_restore_37 : decode cX9_restore 37 = .ok (.bipush 60, 2) := by decide +kernel
theorem dX9_restore_39 : decode cX9_restore 39 = .ok (.iload_n 1, 1) := by decide +kernel
theorem dX9_restore_40 : decode cX9_restore 40 = .ok (.imul, 1) := by decide +kernel
theorem dX9_restore_41 : decode cX9_restore 41 = .ok (.iload_n 2, 1) := by decide +kernel
theorem dX9_restore_42 : decode cX9_restore 42 = .ok (.iadd, 1) := by decide +kernel
theorem dX9_restore_43 : decode cX9_restore 43 = .ok (.iaload, 1) := by decide +kernel
theorem dX9_restore_44 : decode cX9_restore 44 = .ok (.iastore, 1) := by decide +kernel
theorem dX9_restore_45 : decode cX9_restore 45 = .ok (.iinc 2 1, 3) := by decide +kernel
theorem dX9_restore_48 : decode cX9_restore 48 = .ok (.goto (-26), 3) := by decide +kernel
theorem dX9_restore_51 : decode cX9_restore 51 = .ok (.aload_n 0, 1) := by decide +kernel
theorem dX9_restore_52 : decode cX9_restore 52 = .ok (.iconst 0, 1) := by decide +kernel
theorem dX9_restore_53 : decode cX9_restore 53 = .ok (.putfield 251, 3) := by decide +kernel
theorem dX9_restore_56 : decode cX9_restore 56 = .ok (.iconst 1, 1) := by decide +kernel
theorem dX9_restore_57 : decode cX9_restore 57 = .ok (.ireturn, 1) := by decide +kernel
theorem dX9_count_0 : decode cX9_count 0 = .ok (.iload_n 1, 1) := by decide +kernel
theorem dX9_count_1 : decode cX9_count 1 = .ok (.tableswitch 179 0 13 #[71, 81, 81, 81, 81, 81, 81, 91, 96, 101, 106, 151, 161, 171], 71) := by decide +kernel
theorem dX9_count_72 : decode cX9_count 72 = .ok (.aload_n 0, 1) := by decide +kernel
theorem dX9_count_73 : decode cX9_count 73 = .ok (.getfield 46, 3) := by decide +kernel
theorem dX9_count_76 : decode cX9_count 76 = .ok (.aload_n 0, 1) := by decide +kernel
theorem dX9_count_77 : decode cX9_count 77 = .ok (.getfield 233, 3) := by decide +kernel
theorem dX9_count_80 : decode cX9_count 80 = .ok (.iaload, 1) := by decide +kernel
theorem dX9_count_81 : decode cX9_count 81 = .ok (.ireturn, 1) := by decide +kernel
theorem dX9_count_82 : decode cX9_count 82 = .ok (.aload_n 0, 1) := by decide +kernel
theorem dX9_count_83 : decode cX9_count 83 = .ok (.getfield 110, 3) := by decide +kernel
theorem dX9_count_86 : decode cX9_count 86 = .ok (.bipush 11, 2) := by decide +kernel
theorem dX9_count_88 : decode cX9_count 88 = .ok (.iload_n 1, 1) := by decide +kernel
theorem dX9_count_89 : decode cX9_count 89 = .ok (.iadd, 1) := by decide +kernel
theorem dX9_count_90 : decode cX9_count 90 = .ok (.iaload, 1) := by decide +kernel
theorem dX9_count_91 : decode cX9_count 91 = .ok (.ireturn, 1) := by decide +kernel
theorem dX9_count_92 : decode cX9_count 92 = .ok (.aload_n 0, 1) := by decide +kernel
theorem dX9_count_93 : decode cX9_count 93 = .ok (.getfield 166, 3) := by decide +kernel
theorem dX9_count_96 : decode cX9_count 96 = .ok (.ireturn, 1) := by decide +kernel
theorem dX9_count_97 : decode cX9_count 97 = .ok (.aload_n 0, 1) := by decide +kernel
theorem dX9_count_98 : decode cX9_count 98 = .ok (.getfield 251, 3) := by decide +kernel
theorem dX9_count_101 : decode cX9_count 101 = .ok (.ireturn, 1) := by decide +kernel
theorem dX9_count_102 : decode cX9_count 102 = .ok (.aload_n 0, 1) := by decide +kernel
theorem dX9_count_103 : decode cX9_count 103 = .ok (.getfield 254, 3) := by decide +kernel
theorem dX9_count_106 : decode cX9_count 106 = .ok (.ireturn, 1) := by decide +kernel
theorem dX9_count_107 : decode cX9_count 107 = .ok (.aload_n 0, 1) := by decide +kernel
theorem dX9_count_108 : decode cX9_count 108 = .ok (.getfield 146, 3) := by decide +kernel
theorem dX9_count_111 : decode cX9_count 111 = .ok (.iconst 0, 1) := by decide +kernel
theorem dX9_count_112 : decode cX9_count 112 = .ok (.baload, 1) := by decide +kernel
theorem dX9_count_113 : decode cX9_count 113 = .ok (.ifCond .eq 7, 3) := by decide +kernel
theorem dX9_count_116 : decode cX9_count 116 = .ok (.iconst 1, 1) := by decide +kernel
theorem dX9_count_117 : decode cX9_count 117 = .ok (.goto 4, 3) := by decide +kernel
theorem dX9_count_120 : decode cX9_count 120 = .ok (.iconst 0, 1) := by decide +kernel
theorem dX9_count_121 : decode cX9_count 121 = .ok (.aload_n 0, 1) := by decide +kernel
theorem dX9_count_122 : decode cX9_count 122 = .ok (.getfield 146, 3) := by decide +kernel
theorem dX9_count_125 : decode cX9_count 125 = .ok (.iconst 1, 1) := by decide +kernel
theorem dX9_count_126 : decode cX9_count 126 = .ok (.baload, 1) := by decide +kernel
theorem dX9_count_127 : decode cX9_count 127 = .ok (.ifCond .eq 7, 3) := by decide +kernel
theorem dX9_count_130 : decode cX9_count 130 = .ok (.iconst 1, 1) := by decide +kernel
theorem dX9_count_131 : decode cX9_count 131 = .ok (.goto 4, 3) := by decide +kernel
theorem dX9_count_134 : decode cX9_count 134 = .ok (.iconst 0, 1) := by decide +kernel
theorem dX9_count_135 : decode cX9_count 135 = .ok (.iadd, 1) := by decide +kernel
theorem dX9_count_136 : decode cX9_count 136 = .ok (.aload_n 0, 1) := by decide +kernel
theorem dX9_count_137 : decode cX9_count 137 = .ok (.getfield 146, 3) := by decide +kernel
theorem dX9_count_140 : decode cX9_count 140 = .ok (.iconst 2, 1) := by decide +kernel
theorem dX9_count_141 : decode cX9_count 141 = .ok (.baload, 1) := by decide +kernel
theorem dX9_count_142 : decode cX9_count 142 = .ok (.ifCond .eq 7, 3) := by decide +kernel
theorem dX9_count_145 : decode cX9_count 145 = .ok (.iconst 1, 1) := by decide +kernel
theorem dX9_count_146 : decode cX9_count 146 = .ok (.goto 4, 3) := by decide +kernel
theorem dX9_count_149 : decode cX9_count 149 = .ok (.iconst 0, 1) := by decide +kernel
theorem dX9_count_150 : decode cX9_count 150 = .ok (.iadd, 1) := by decide +kernel
theorem dX9_count_151 : decode cX9_count 151 = .ok (.ireturn, 1) := by decide +kernel
theorem dX9_count_152 : decode cX9_count 152 = .ok (.aload_n 0, 1) := by decide +kernel
theorem dX9_count_153 : decode cX9_count 153 = .ok (.getfield 65, 3) := by decide +kernel
theorem dX9_count_156 : decode cX9_count 156 = .ok (.aload_n 0, 1) := by decide +kernel
theorem dX9_count_157 : decode cX9_count 157 = .ok (.getfield 233, 3) := by decide +kernel
theorem dX9_count_160 : decode cX9_count 160 = .ok (.iaload, 1) := by decide +kernel
theorem dX9_count_161 : decode cX9_count 161 = .ok (.ireturn, 1) := by decide +kernel
theorem dX9_count_162 : decode cX9_count 162 = .ok (.aload_n 0, 1) := by decide +kernel
theorem dX9_count_163 : decode cX9_count 163 = .ok (.getfield 68, 3) := by decide +kernel
theorem dX9_count_166 : decode cX9_count 166 = .ok (.aload_n 0, 1) := by decide +kernel
theorem dX9_count_167 : decode cX9_count 167 = .ok (.getfield 233, 3) := by decide +kernel
theorem dX9_count_170 : decode cX9_count 170 = .ok (.iaload, 1) := by decide +kernel
theorem dX9_count_171 : decode cX9_count 171 = .ok (.ireturn, 1) := by decide +kernel
theorem dX9_count_172 : decode cX9_count 172 = .ok (.aload_n 0, 1) := by decide +kernel
theorem dX9_count_173 : decode cX9_count 173 = .ok (.getfield 110, 3) := by decide +kernel
theorem dX9_count_176 : decode cX9_count 176 = .ok (.bipush 18, 2) := by decide +kernel
theorem dX9_count_178 : decode cX9_count 178 = .ok (.iaload, 1) := by decide +kernel
theorem dX9_count_179 : decode cX9_count 179 = .ok (.ireturn, 1) := by decide +kernel
theorem dX9_count_180 : decode cX9_count 180 = .ok (.iconst (-1), 1) := by decide +kernel
theorem dX9_count_181 : decode cX9_count 181 = .ok (.ireturn, 1) := by decide +kernel
