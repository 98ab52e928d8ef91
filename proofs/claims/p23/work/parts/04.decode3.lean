theorem dL_packed_219 : decode cL_packed 219 = .ok (.iastore, 1) := by decide +kernel
theorem dL_packed_220 : decode cL_packed 220 = .ok (.aload_n 0, 1) := by decide +kernel
theorem dL_packed_221 : decode cL_packed 221 = .ok (.iload 7, 2) := by decide +kernel
theorem dL_packed_223 : decode cL_packed 223 = .ok (.iconst 3, 1) := by decide +kernel
theorem dL_packed_224 : decode cL_packed 224 = .ok (.iadd, 1) := by decide +kernel
theorem dL_packed_225 : decode cL_packed 225 = .ok (.aload_n 0, 1) := by decide +kernel
theorem dL_packed_226 : decode cL_packed 226 = .ok (.iload 8, 2) := by decide +kernel
theorem dL_packed_228 : decode cL_packed 228 = .ok (.iconst 3, 1) := by decide +kernel
theorem dL_packed_229 : decode cL_packed 229 = .ok (.iadd, 1) := by decide +kernel
theorem dL_packed_230 : decode cL_packed 230 = .ok (.iaload, 1) := by decide +kernel
theorem dL_packed_231 : decode cL_packed 231 = .ok (.aload_n 0, 1) := by decide +kernel
theorem dL_packed_232 : decode cL_packed 232 = .ok (.iload 7, 2) := by decide +kernel
theorem dL_packed_234 : decode cL_packed 234 = .ok (.iconst 3, 1) := by decide +kernel
theorem dL_packed_235 : decode cL_packed 235 = .ok (.iadd, 1) := by decide +kernel
theorem dL_packed_236 : decode cL_packed 236 = .ok (.iaload, 1) := by decide +kernel
theorem dL_packed_237 : decode cL_packed 237 = .ok (.if_icmp .le 12, 3) := by decide +kernel
theorem dL_packed_240 : decode cL_packed 240 = .ok (.aload_n 0, 1) := by decide +kernel
theorem dL_packed_241 : decode cL_packed 241 = .ok (.iload 8, 2) := by decide +kernel
theorem dL_packed_243 : decode cL_packed 243 = .ok (.iconst 3, 1) := by decide +kernel
theorem dL_packed_244 : decode cL_packed 244 = .ok (.iadd, 1) := by decide +kernel
theorem dL_packed_245 : decode cL_packed 245 = .ok (.iaload, 1) := by decide +kernel
theorem dL_packed_246 : decode cL_packed 246 = .ok (.goto 9, 3) := by decide +kernel
theorem dL_packed_249 : decode cL_packed 249 = .ok (.aload_n 0, 1) := by decide +kernel
theorem dL_packed_250 : decode cL_packed 250 = .ok (.iload 7, 2) := by decide +kernel
theorem dL_packed_252 : decode cL_packed 252 = .ok (.iconst 3, 1) := by decide +kernel
theorem dL_packed_253 : decode cL_packed 253 = .ok (.iadd, 1) := by decide +kernel
theorem dL_packed_254 : decode cL_packed 254 = .ok (.iaload, 1) := by decide +kernel
theorem dL_packed_255 : decode cL_packed 255 = .ok (.iastore, 1) := by decide +kernel
theorem dL_packed_256 : decode cL_packed 256 = .ok (.iload 8, 2) := by decide +kernel
theorem dL_packed_258 : decode cL_packed 258 = .ok (.istore 10, 2) := by decide +kernel
theorem dL_packed_260 : decode cL_packed 260 = .ok (.iload 10, 2) := by decide +kernel
theorem dL_packed_262 : decode cL_packed 262 = .ok (.iconst 4, 1) := by decide +kernel
theorem dL_packed_263 : decode cL_packed 263 = .ok (.iadd, 1) := by decide +kernel
theorem dL_packed_264 : decode cL_packed 264 = .ok (.iconst 4, 1) := by decide +kernel
theorem dL_packed_265 : decode cL_packed 265 = .ok (.iload 4, 2) := by decide +kernel
theorem dL_packed_267 : decode cL_packed 267 = .ok (.imul, 1) := by decide +kernel
theorem dL_packed_268 : decode cL_packed 268 = .ok (.if_icmp .ge 19, 3) := by decide +kernel
theorem dL_packed_271 : decode cL_packed 271 = .ok (.aload_n 0, 1) := by decide +kernel
theorem dL_packed_272 : decode cL_packed 272 = .ok (.iload 10, 2) := by decide +kernel
theorem dL_packed_274 : decode cL_packed 274 = .ok (.aload_n 0, 1) := by decide +kernel
theorem dL_packed_275 : decode cL_packed 275 = .ok (.iload 10, 2) := by decide +kernel
theorem dL_packed_277 : decode cL_packed 277 = .ok (.iconst 4, 1) := by decide +kernel
theorem dL_packed_278 : decode cL_packed 278 = .ok (.iadd, 1) := by decide +kernel
theorem dL_packed_279 : decode cL_packed 279 = .ok (.iaload, 1) := by decide +kernel
theorem dL_packed_280 : decode cL_packed 280 = .ok (.iastore, 1) := by decide +kernel
theorem dL_packed_281 : decode cL_packed 281 = .ok (.iinc 10 1, 3) := by decide +kernel
theorem dL_packed_284 : decode cL_packed 284 = .ok (.goto (-24), 3) := by decide +kernel
theorem dL_packed_287 : decode cL_packed 287 = .ok (.iinc 4 (-1), 3) := by decide +kernel
theorem dL_packed_290 : decode cL_packed 290 = .ok (.goto (-202), 3) := by decide +kernel
theorem dL_packed_293 : decode cL_packed 293 = .ok (.iload 4, 2) := by decide +kernel
theorem dL_packed_295 : decode cL_packed 295 = .ok (.ireturn, 1) := by decide +kernel
theorem dL_pack_0 : decode cL_pack 0 = .ok (.iconst 0, 1) := by decide +kernel
theorem dL_pack_1 : decode cL_pack 1 = .ok (.istore 4, 2) := by decide +kernel
theorem dL_pack_3 : decode cL_pack 3 = .ok (.iload 4, 2) := by decide +kernel
theorem dL_pack_5 : decode cL_pack 5 = .ok (.aload_n 2, 1) := by decide +kernel
theorem dL_pack_6 : decode cL_pack 6 = .ok (.iconst 1, 1) := by decide +kernel
theorem dL_pack_7 : decode cL_pack 7 = .ok (.iaload, 1) := by decide +kernel
theorem dL_pack_8 : decode cL_pack 8 = .ok (.if_icmp .ge 56, 3) := by decide +kernel
theorem dL_pack_11 : decode cL_pack 11 = .ok (.iconst 4, 1) := by decide +kernel
theorem dL_pack_12 : decode cL_pack 12 = .ok (.aload_n 2, 1) := by decide +kernel
theorem dL_pack_13 : decode cL_pack 13 = .ok (.iconst 0, 1) := by decide +kernel
theorem dL_pack_14 : decode cL_pack 14 = .ok (.dup2, 1) := by decide +kernel
theorem dL_pack_15 : decode cL_pack 15 = .ok (.iaload, 1) := by decide +kernel
theorem dL_pack_16 : decode cL_pack 16 = .ok (.dup_x2, 1) := by decide +kernel
theorem dL_pack_17 : decode cL_pack 17 = .ok (.iconst 1, 1) := by decide +kernel
theorem dL_pack_18 : decode cL_pack 18 = .ok (.iadd, 1) := by decide +kernel
theorem dL_pack_19 : decode cL_pack 19 = .ok (.iastore, 1) := by decide +kernel
theorem dL_pack_20 : decode cL_pack 20 = .ok (.imul, 1) := by decide +kernel
theorem dL_pack_21 : decode cL_pack 21 = .ok (.istore 5, 2) := by decide +kernel
theorem dL_pack_23 : decode cL_pack 23 = .ok (.aload_n 0, 1) := by decide +kernel
theorem dL_pack_24 : decode cL_pack 24 = .ok (.iload 5, 2) := by decide +kernel
theorem dL_pack_26 : decode cL_pack 26 = .ok (.iconst 1, 1) := by decide +kernel
theorem dL_pack_27 : decode cL_pack 27 = .ok (.iastore, 1) := by decide +kernel
theorem dL_pack_28 : decode cL_pack 28 = .ok (.aload_n 0, 1) := by decide +kernel
theorem dL_pack_29 : decode cL_pack 29 = .ok (.iload 5, 2) := by decide +kernel
theorem dL_pack_31 : decode cL_pack 31 = .ok (.iconst 1, 1) := by decide +kernel
theorem dL_pack_32 : decode cL_pack 32 = .ok (.iadd, 1) := by decide +kernel
theorem dL_pack_33 : decode cL_pack 33 = .ok (.aload_n 1, 1) := by decide +kernel
theorem dL_pack_34 : decode cL_pack 34 = .ok (.iload 4, 2) := by decide +kernel
theorem dL_pack_36 : decode cL_pack 36 = .ok (.iaload, 1) := by decide +kernel
theorem dL_pack_37 : decode cL_pack 37 = .ok (.iastore, 1) := by decide +kernel
theorem dL_pack_38 : decode cL_pack 38 = .ok (.aload_n 0, 1) := by decide +kernel
theorem dL_pack_39 : decode cL_pack 39 = .ok (.iload 5, 2) := by decide +kernel
theorem dL_pack_41 : decode cL_pack 41 = .ok (.iconst 2, 1) := by decide +kernel
theorem dL_pack_42 : decode cL_pack 42 = .ok (.iadd, 1) := by decide +kernel
theorem dL_pack_43 : decode cL_pack 43 = .ok (.aload_n 1, 1) := by decide +kernel
theorem dL_pack_44 : decode cL_pack 44 = .ok (.iload 4, 2) := by decide +kernel
theorem dL_pack_46 : decode cL_pack 46 = .ok (.iaload, 1) := by decide +kernel
theorem dL_pack_47 : decode cL_pack 47 = .ok (.iastore, 1) := by decide +kernel
theorem dL_pack_48 : decode cL_pack 48 = .ok (.aload_n 0, 1) := by decide +kernel
theorem dL_pack_49 : decode cL_pack 49 = .ok (.iload 5, 2) := by decide +kernel
theorem dL_pack_51 : decode cL_pack 51 = .ok (.iconst 3, 1) := by decide +kernel
theorem dL_pack_52 : decode cL_pack 52 = .ok (.iadd, 1) := by decide +kernel
theorem dL_pack_53 : decode cL_pack 53 = .ok (.aload_n 1, 1) := by decide +kernel
theorem dL_pack_54 : decode cL_pack 54 = .ok (.iload 4, 2) := by decide +kernel
theorem dL_pack_56 : decode cL_pack 56 = .ok (.iaload, 1) := by decide +kernel
theorem dL_pack_57 : decode cL_pack 57 = .ok (.iastore, 1) := by decide +kernel
theorem dL_pack_58 : decode cL_pack 58 = .ok (.iinc 4 1, 3) := by decide +kernel
theorem dL_pack_61 : decode cL_pack 61 = .ok (.goto (-58), 3) := by decide +kernel
theorem dL_pack_64 : decode cL_pack 64 = .ok (.aload_n 2, 1) := by decide +kernel
theorem dL_pack_65 : decode cL_pack 65 = .ok (.iconst 0, 1) := by decide +kernel
theorem dL_pack_66 : decode cL_pack 66 = .ok (.aload_n 0, 1) := by decide +kernel
theorem dL_pack_67 : decode cL_pack 67 = .ok (.aload_n 2, 1) := by decide +kernel
theorem dL_pack_68 : decode cL_pack 68 = .ok (.iconst 0, 1) := by decide +kernel
theorem dL_pack_69 : decode cL_pack 69 = .ok (.iaload, 1) := by decide +kernel
theorem dL_pack_70 : decode cL_pack 70 = .ok (.aload_n 3, 1) := by decide +kernel
theorem dL_pack_71 : decode cL_pack 71 = .ok (.iconst 0, 1) := by decide +kernel
theorem dL_pack_72 : decode cL_pack 72 = .ok (.iaload, 1) := by decide +kernel
theorem dL_pack_73 : decode cL_pack 73 = .ok (.invokestatic 20, 3) := by decide +kernel
theorem dL_pack_76 : decode cL_pack 76 = .ok (.iastore, 1) := by decide +kernel
theorem dL_pack_77 : decode cL_pack 77 = .ok (.aload_n 2, 1) := by decide +kernel
theorem dL_pack_78 : decode cL_pack 78 = .ok (.iconst 1, 1) := by decide +kernel
theorem dL_pack_79 : decode cL_pack 79 = .ok (.iconst 0, 1) := by decide +kernel
theorem dL_pack_80 : decode cL_pack 80 = .ok (.iastore, 1) := by decide +kernel
theorem dL_pack_81 : decode cL_pack 81 = .ok (.aload_n 2, 1) := by decide +kernel
theorem dL_pack_82 : decode cL_pack 82 = .ok (.iconst 3, 1) := by decide +kernel
theorem dL_pack_83 : decode cL_pack 83 = .ok (.dup2, 1) := by decide +kernel
theorem dL_pack_84 : decode cL_pack 84 = .ok (.iaload, 1) := by decide +kernel
theorem dL_pack_85 : decode cL_pack 85 = .ok (.iconst 1, 1) := by decide +kernel
theorem dL_pack_86 : decode cL_pack 86 = .ok (.iadd, 1) := by decide +kernel
theorem dL_pack_87 : decode cL_pack 87 = .ok (.iastore, 1) := by decide +kernel
theorem dL_pack_88 : decode cL_pack 88 = .ok (.return_, 1) := by decide +kernel
theorem dL_comes_0 : decode cL_comes 0 = .ok (.aload 4, 2) := by decide +kernel
theorem dL_comes_2 : decode cL_comes 2 = .ok (.iconst 1, 1) := by decide +kernel
theorem dL_comes_3 : decode cL_comes 3 = .ok (.iaload, 1) := by decide +kernel
theorem dL_comes_4 : decode cL_comes 4 = .ok (.aload 5, 2) := by decide +kernel
theorem dL_comes_6 : decode cL_comes 6 = .ok (.iconst 1, 1) := by decide +kernel
theorem dL_comes_7 : decode cL_comes 7 = .ok (.iaload, 1) := by decide +kernel
theorem dL_comes_8 : decode cL_comes 8 = .ok (.if_icmp .lt 12, 3) := by decide +kernel
theorem dL_comes_11 : decode cL_comes 11 = .ok (.aload_n 1, 1) := by decide +kernel
theorem dL_comes_12 : decode cL_comes 12 = .ok (.aload_n 2, 1) := by decide +kernel
theorem dL_comes_13 : decode cL_comes 13 = .ok (.aload 4, 2) := by decide +kernel
theorem dL_comes_15 : decode cL_comes 15 = .ok (.aload 5, 2) := by decide +kernel
theorem dL_comes_17 : decode cL_comes 17 = .ok (.invokestatic 24, 3) := by decide +kernel
theorem dL_comes_20 : decode cL_comes 20 = .ok (.aload_n 2, 1) := by decide +kernel
theorem dL_comes_21 : decode cL_comes 21 = .ok (.aload 4, 2) := by decide +kernel
theorem dL_comes_23 : decode cL_comes 23 = .ok (.iconst 1, 1) := by decide +kernel
theorem dL_comes_24 : decode cL_comes 24 = .ok (.dup2, 1) := by decide +kernel
theorem dL_comes_25 : decode cL_comes 25 = .ok (.iaload, 1) := by decide +kernel
theorem dL_comes_26 : decode cL_comes 26 = .ok (.dup_x2, 1) := by decide +kernel
theorem dL_comes_27 : decode cL_comes 27 = .ok (.iconst 1, 1) := by decide +kernel
theorem dL_comes_28 : decode cL_comes 28 = .ok (.iadd, 1) := by decide +kernel
theorem dL_comes_29 : decode cL_comes 29 = .ok (.iastore, 1) := by decide +kernel
theorem dL_comes_30 : decode cL_comes 30 = .ok (.iload_n 0, 1) := by decide +kernel
theorem dL_comes_31 : decode cL_comes 31 = .ok (.iastore, 1) := by decide +kernel
theorem dL_comes_32 : decode cL_comes 32 = .ok (.aload_n 3, 1) := by decide +kernel
theorem dL_comes_33 : decode cL_comes 33 = .ok (.aload 4, 2) := by decide +kernel
theorem dL_comes_35 : decode cL_comes 35 = .ok (.iconst 2, 1) := by decide +kernel
theorem dL_comes_36 : decode cL_comes 36 = .ok (.dup2, 1) := by decide +kernel
theorem dL_comes_37 : decode cL_comes 37 = .ok (.iaload, 1) := by decide +kernel
theorem dL_comes_38 : decode cL_comes 38 = .ok (.dup_x2, 1) := by decide +kernel
theorem dL_comes_39 : decode cL_comes 39 = .ok (.iconst 1, 1) := by decide +kernel
theorem dL_comes_40 : decode cL_comes 40 = .ok (.iadd, 1) := by decide +kernel
theorem dL_comes_41 : decode cL_comes 41 = .ok (.iastore, 1) := by decide +kernel
theorem dL_comes_42 : decode cL_comes 42 = .ok (.iload_n 0, 1) := by decide +kernel
theorem dL_comes_43 : decode cL_comes 43 = .ok (.iastore, 1) := by decide +kernel
theorem dL_comes_44 : decode cL_comes 44 = .ok (.return_, 1) := by decide +kernel
theorem dL_ordered_0 : decode cL_ordered 0 = .ok (.iconst 0, 1) := by decide +kernel
theorem dL_ordered_1 : decode cL_ordered 1 = .ok (.istore_n 3, 1) := by decide +kernel
theorem dL_ordered_2 : decode cL_ordered 2 = .ok (.iload_n 3, 1) := by decide +kernel
theorem dL_ordered_3 : decode cL_ordered 3 = .ok (.iload_n 2, 1) := by decide +kernel
theorem dL_ordered_4 : decode cL_ordered 4 = .ok (.if_icmp .ge 89, 3) := by decide +kernel
theorem dL_ordered_7 : decode cL_ordered 7 = .ok (.iconst 0, 1) := by decide +kernel
theorem dL_ordered_8 : decode cL_ordered 8 = .ok (.istore 4, 2) := by decide +kernel
theorem dL_ordered_10 : decode cL_ordered 10 = .ok (.iconst 0, 1) := by decide +kernel
theorem dL_ordered_11 : decode cL_ordered 11 = .ok (.istore 5, 2) := by decide +kernel
theorem dL_ordered_13 : decode cL_ordered 13 = .ok (.iconst 0, 1) := by decide +kernel
theorem dL_ordered_14 : decode cL_ordered 14 = .ok (.istore 6, 2) := by decide +kernel
theorem dL_ordered_16 : decode cL_ordered 16 = .ok (.iload 6, 2) := by decide +kernel
theorem dL_ordered_18 : decode cL_ordered 18 = .ok (.iload_n 2, 1) := by decide +kernel
theorem dL_ordered_19 : decode cL_ordered 19 = .ok (.if_icmp .ge 49, 3) := by decide +kernel
theorem dL_ordered_22 : decode cL_ordered 22 = .ok (.iload 4, 2) := by decide +kernel
theorem dL_ordered_24 : decode cL_ordered 24 = .ok (.aload_n 1, 1) := by decide +kernel
theorem dL_ordered_25 : decode cL_ordered 25 = .ok (.iload 6, 2) := by decide +kernel
theorem dL_ordered_27 : decode cL_ordered 27 = .ok (.iaload, 1) := by decide +kernel
theorem dL_ordered_28 : decode cL_ordered 28 = .ok (.aload_n 1, 1) := by decide +kernel
theorem dL_ordered_29 : decode cL_ordered 29 = .ok (.iload_n 3, 1) := by decide +kernel
theorem dL_ordered_30 : decode cL_ordered 30 = .ok (.iaload, 1) := by decide +kernel
theorem dL_ordered_31 : decode cL_ordered 31 = .ok (.if_icmp .ge 7, 3) := by decide +kernel
theorem dL_ordered_34 : decode cL_ordered 34 = .ok (.iconst 1, 1) := by decide +kernel
theorem dL_ordered_35 : decode cL_ordered 35 = .ok (.goto 4, 3) := by decide +kernel
theorem dL_ordered_38 : decode cL_ordered 38 = .ok (.iconst 0, 1) := by decide +kernel
theorem dL_ordered_39 : decode cL_ordered 39 = .ok (.iadd, 1) := by decide +kernel
theorem dL_ordered_40 : decode cL_ordered 40 = .ok (.istore 4, 2) := by decide +kernel
theorem dL_ordered_42 : decode cL_ordered 42 = .ok (.iload 5, 2) := by decide +kernel
theorem dL_ordered_44 : decode cL_ordered 44 = .ok (.aload_n 1, 1) := by decide +kernel
theorem dL_ordered_45 : decode cL_ordered 45 = .ok (.iload 6, 2) := by decide +kernel
theorem dL_ordered_47 : decode cL_ordered 47 = .ok (.iaload, 1) := by decide +kernel
theorem dL_ordered_48 : decode cL_ordered 48 = .ok (.aload_n 1, 1) := by decide +kernel
theorem dL_ordered_49 : decode cL_ordered 49 = .ok (.iload_n 3, 1) := by decide +kernel
theorem dL_ordered_50 : decode cL_ordered 50 = .ok (.iaload, 1) := by decide +kernel
theorem dL_ordered_51 : decode cL_ordered 51 = .ok (.if_icmp .ne 7, 3) := by decide +kernel
theorem dL_ordered_54 : decode cL_ordered 54 = .ok (.iconst 1, 1) := by decide +kernel
theorem dL_ordered_55 : decode cL_ordered 55 = .ok (.goto 4, 3) := by decide +kernel
theorem dL_ordered_58 : decode cL_ordered 58 = .ok (.iconst 0, 1) := by decide +kernel
theorem dL_ordered_59 : decode cL_ordered 59 = .ok (.iadd, 1) := by decide +kernel
theorem dL_ordered_60 : decode cL_ordered 60 = .ok (.istore 5, 2) := by decide +kernel
theorem dL_ordered_62 : decode cL_ordered 62 = .ok (.iinc 6 1, 3) := by decide +kernel
theorem dL_ordered_65 : decode cL_ordered 65 = .ok (.goto (-49), 3) := by decide +kernel
theorem dL_ordered_68 : decode cL_ordered 68 = .ok (.iload 4, 2) := by decide +kernel
theorem dL_ordered_70 : decode cL_ordered 70 = .ok (.iload_n 0, 1) := by decide +kernel
theorem dL_ordered_71 : decode cL_ordered 71 = .ok (.if_icmp .gt 16, 3) := by decide +kernel
theorem dL_ordered_74 : decode cL_ordered 74 = .ok (.iload_n 0, 1) := by decide +kernel
theorem dL_ordered_75 : decode cL_ordered 75 = .ok (.iload 4, 2) := by decide +kernel
theorem dL_ordered_77 : decode cL_ordered 77 = .ok (.iload 5, 2) := by decide +kernel
theorem dL_ordered_79 : decode cL_ordered 79 = .ok (.iadd, 1) := by decide +kernel
theorem dL_ordered_80 : decode cL_ordered 80 = .ok (.if_icmp .ge 7, 3) := by decide +kernel
theorem dL_ordered_83 : decode cL_ordered 83 = .ok (.aload_n 1, 1) := by decide +kernel
theorem dL_ordered_84 : decode cL_ordered 84 = .ok (.iload_n 3, 1) := by decide +kernel
theorem dL_ordered_85 : decode cL_ordered 85 = .ok (.iaload, 1) := by decide +kernel
theorem dL_ordered_86 : decode cL_ordered 86 = .ok (.ireturn, 1) := by decide +kernel
theorem dL_ordered_87 : decode cL_ordered 87 = .ok (.iinc 3 1, 3) := by decide +kernel
theorem dL_ordered_90 : decode cL_ordered 90 = .ok (.goto (-88), 3) := by decide +kernel
theorem dL_ordered_93 : decode cL_ordered 93 = .ok (.iconst (-1), 1) := by decide +kernel
theorem dL_ordered_94 : decode cL_ordered 94 = .ok (.ireturn, 1) := by decide +kernel
theorem dL_quantile_0 : decode cL_quantile 0 = .ok (.ldc2_w 28, 3) := by decide +kernel
theorem dL_quantile_3 : decode cL_quantile 3 = .ok (.iload_n 1, 1) := by decide +kernel
theorem dL_quantile_4 : decode cL_quantile 4 = .ok (.i2l, 1) := by decide +kernel
theorem dL_quantile_5 : decode cL_quantile 5 = .ok (.lmul, 1) := by decide +kernel
theorem dL_quantile_6 : decode cL_quantile 6 = .ok (.lstore 7, 2) := by decide +kernel
theorem dL_quantile_8 : decode cL_quantile 8 = .ok (.lconst 0, 1) := by decide +kernel
theorem dL_quantile_9 : decode cL_quantile 9 = .ok (.lstore 9, 2) := by decide +kernel
theorem dL_quantile_11 : decode cL_quantile 11 = .ok (.iload 4, 2) := by decide +kernel
theorem dL_quantile_13 : decode cL_quantile 13 = .ok (.i2l, 1) := by decide +kernel
theorem dL_quantile_14 : decode cL_quantile 14 = .ok (.lstore 11, 2) := by decide +kernel
theorem dL_quantile_16 : decode cL_quantile 16 = .ok (.lconst 1, 1) := by decide +kernel
theorem dL_quantile_17 : decode cL_quantile 17 = .ok (.lstore 13, 2) := by decide +kernel
theorem dL_quantile_19 : decode cL_quantile 19 = .ok (.iconst 0, 1) := by decide +kernel
theorem dL_quantile_20 : decode cL_quantile 20 = .ok (.istore 15, 2) := by decide +kernel
theorem dL_quantile_22 : decode cL_quantile 22 = .ok (.iconst 0, 1) := by decide +kernel
theorem dL_quantile_23 : decode cL_quantile 23 = .ok (.istore 16, 2) := by decide +kernel
theorem dL_quantile_25 : decode cL_quantile 25 = .ok (.iload 16, 2) := by decide +kernel
theorem dL_quantile_27 : decode cL_quantile 27 = .ok (.iload_n 3, 1) := by decide +kernel
theorem dL_quantile_28 : decode cL_quantile 28 = .ok (.if_icmp .gt 225, 3) := by decide +kernel
theorem dL_quantile_31 : decode cL_quantile 31 = .ok (.iload 16, 2) := by decide +kernel
theorem dL_quantile_33 : decode cL_quantile 33 = .ok (.iload_n 3, 1) := by decide +kernel
theorem dL_quantile_34 : decode cL_quantile 34 = .ok (.if_icmp .ne 13, 3) := by decide +kernel
theorem dL_quantile_37 : decode cL_quantile 37 = .ok (.ldc2_w 30, 3) := by decide +kernel
theorem dL_quantile_40 : decode cL_quantile 40 = .ok (.iload 6, 2) := by decide +kernel
theorem dL_quantile_42 : decode cL_quantile 42 = .ok (.i2l, 1) := by decide +kernel
theorem dL_quantile_43 : decode cL_quantile 43 = .ok (.lmul, 1) := by decide +kernel
theorem dL_quantile_44 : decode cL_quantile 44 = .ok (.goto 19, 3) := by decide +kernel
theorem dL_quantile_47 : decode cL_quantile 47 = .ok (.ldc2_w 32, 3) := by decide +kernel
theorem dL_quantile_50 : decode cL_quantile 50 = .ok (.iconst 2, 1) := by decide +kernel
theorem dL_quantile_51 : decode cL_quantile 51 = .ok (.iload 15, 2) := by decide +kernel
theorem dL_quantile_53 : decode cL_quantile 53 = .ok (.imul, 1) := by decide +kernel
theorem dL_quantile_54 : decode cL_quantile 54 = .ok (.aload_n 2, 1) := by decide +kernel
theorem dL_quantile_55 : decode cL_quantile 55 = .ok (.iconst 4, 1) := by decide +kernel
theorem dL_quantile_56 : decode cL_quantile 56 = .ok (.iload 16, 2) := by decide +kernel
theorem dL_quantile_58 : decode cL_quantile 58 = .ok (.imul, 1) := by decide +kernel
theorem dL_quantile_59 : decode cL_quantile 59 = .ok (.iaload, 1) := by decide +kernel
theorem dL_quantile_60 : decode cL_quantile 60 = .ok (.iadd, 1) := by decide +kernel
theorem dL_quantile_61 : decode cL_quantile 61 = .ok (.i2l, 1) := by decide +kernel
theorem dL_quantile_62 : decode cL_quantile 62 = .ok (.lmul, 1) := by decide +kernel
theorem dL_quantile_63 : decode cL_quantile 63 = .ok (.lstore 17, 2) := by decide +kernel
theorem dL_quantile_65 : decode cL_quantile 65 = .ok (.iload 16, 2) := by decide +kernel
theorem dL_quantile_67 : decode cL_quantile 67 = .ok (.iload_n 3, 1) := by decide +kernel
theorem dL_quantile_68 : decode cL_quantile 68 = .ok (.if_icmp .ne 9, 3) := by decide +kernel
theorem dL_quantile_71 : decode cL_quantile 71 = .ok (.iload 5, 2) := by decide +kernel
theorem dL_quantile_73 : decode cL_quantile 73 = .ok (.i2l, 1) := by decide +kernel
theorem dL_quantile_74 : decode cL_quantile 74 = .ok (.goto 12, 3) := by decide +kernel
theorem dL_quantile_77 : decode cL_quantile 77 = .ok (.aload_n 2, 1) := by decide +kernel
theorem dL_quantile_78 : decode cL_quantile 78 = .ok (.iconst 4, 1) := by decide +kernel
theorem dL_quantile_79 : decode cL_quantile 79 = .ok (.iload 16, 2) := by decide +kernel
theorem dL_quantile_81 : decode cL_quantile 81 = .ok (.imul, 1) := by decide +kernel
theorem dL_quantile_82 : decode cL_quantile 82 = .ok (.iconst 1, 1) := by decide +kernel
theorem dL_quantile_83 : decode cL_quantile 83 = .ok (.iadd, 1) := by decide +kernel
theorem dL_quantile_84 : decode cL_quantile 84 = .ok (.iaload, 1) := by decide +kernel
theorem dL_quantile_85 : decode cL_quantile 85 = .ok (.i2l, 1) := by decide +kernel
theorem dL_quantile_86 : decode cL_quantile 86 = .ok (.lstore 19, 2) := by decide +kernel
theorem dL_quantile_88 : decode cL_quantile 88 = .ok (.iload 16, 2) := by decide +kernel
theorem dL_quantile_90 : decode cL_quantile 90 = .ok (.iload_n 3, 1) := by decide +kernel
theorem dL_quantile_91 : decode cL_quantile 91 = .ok (.if_icmp .ne 7, 3) := by decide +kernel
theorem dL_quantile_94 : decode cL_quantile 94 = .ok (.lconst 1, 1) := by decide +kernel
theorem dL_quantile_95 : decode cL_quantile 95 = .ok (.goto 10, 3) := by decide +kernel
theorem dL_quantile_98 : decode cL_quantile 98 = .ok (.aload_n 2, 1) := by decide +kernel
theorem dL_quantile_99 : decode cL_quantile 99 = .ok (.iconst 4, 1) := by decide +kernel
theorem dL_quantile_100 : decode cL_quantile 100 = .ok (.iload 16, 2) := by decide +kernel
theorem dL_quantile_102 : decode cL_quantile 102 = .ok (.imul, 1) := by decide +kernel
theorem dL_quantile_103 : decode cL_quantile 103 = .ok (.iaload, 1) := by decide +kernel
theorem dL_quantile_104 : decode cL_quantile 104 = .ok (.i2l, 1) := by decide +kernel
theorem dL_quantile_105 : decode cL_quantile 105 = .ok (.lstore 21, 2) := by decide +kernel
theorem dL_quantile_107 : decode cL_quantile 107 = .ok (.iload 16, 2) := by decide +kernel
theorem dL_quantile_109 : decode cL_quantile 109 = .ok (.iload_n 3, 1) := by decide +kernel
theorem dL_quantile_110 : decode cL_quantile 110 = .ok (.if_icmp .eq 27, 3) := by decide +kernel
theorem dL_quantile_113 : decode cL_quantile 113 = .ok (.iload 16, 2) := by decide +kernel
theorem dL_quantile_115 : decode cL_quantile 115 = .ok (.ifCond .ne 14, 3) := by decide +kernel
theorem dL_quantile_118 : decode cL_quantile 118 = .ok (.lload 7, 2) := by decide +kernel
theorem dL_quantile_120 : decode cL_quantile 120 = .ok (.lload 17, 2) := by decide +kernel
theorem dL_quantile_122 : decode cL_quantile 122 = .ok (.lcmp, 1) := by decide +kernel
theorem dL_quantile_123 : decode cL_quantile 123 = .ok (.ifCond .gt 18, 3) := by decide +kernel
theorem dL_quantile_126 : decode cL_quantile 126 = .ok (.goto 11, 3) := by decide +kernel
theorem dL_quantile_129 : decode cL_quantile 129 = .ok (.lload 7, 2) := by decide +kernel
theorem dL_quantile_131 : decode cL_quantile 131 = .ok (.lload 17, 2) := by decide +kernel
theorem dL_quantile_133 : decode cL_quantile 133 = .ok (.lcmp, 1) := by decide +kernel
theorem dL_quantile_134 : decode cL_quantile 134 = .ok (.ifCond .ge 7, 3) := by decide +kernel
theorem dL_quantile_137 : decode cL_quantile 137 = .ok (.iconst 1, 1) := by decide +kernel
theorem dL_quantile_138 : decode cL_quantile 138 = .ok (.goto 4, 3) := by decide +kernel
theorem dL_quantile_141 : decode cL_quantile 141 = .ok (.iconst 0, 1) := by decide +kernel
theorem dL_quantile_142 : decode cL_quantile 142 = .ok (.istore 23, 2) := by decide +kernel
theorem dL_quantile_144 : decode cL_quantile 144 = .ok (.iload 23, 2) := by decide +kernel
theorem dL_quantile_146 : decode cL_quantile 146 = .ok (.ifCond .eq 78, 3) := by decide +kernel
theorem dL_quantile_149 : decode cL_quantile 149 = .ok (.lload 17, 2) := by decide +kernel
theorem dL_quantile_151 : decode cL_quantile 151 = .ok (.lload 9, 2) := by decide +kernel
theorem dL_quantile_153 : decode cL_quantile 153 = .ok (.lsub, 1) := by decide +kernel
theorem dL_quantile_154 : decode cL_quantile 154 = .ok (.lstore 24, 2) := by decide +kernel
theorem dL_quantile_156 : decode cL_quantile 156 = .ok (.lload 11, 2) := by decide +kernel
theorem dL_quantile_158 : decode cL_quantile 158 = .ok (.lload 21, 2) := by decide +kernel
theorem dL_quantile_160 : decode cL_quantile 160 = .ok (.lmul, 1) := by decide +kernel
theorem dL_quantile_161 : decode cL_quantile 161 = .ok (.lload 24, 2) := by decide +kernel
theorem dL_quantile_163 : decode cL_quantile 163 = .ok (.lmul, 1) := by decide +kernel
theorem dL_quantile_164 : decode cL_quantile 164 = .ok (.lload 19, 2) := by decide +kernel
theorem dL_quantile_166 : decode cL_quantile 166 = .ok (.lload 13, 2) := by decide +kernel
theorem dL_quantile_168 : decode cL_quantile 168 = .ok (.lmul, 1) := by decide +kernel
theorem dL_quantile_169 : decode cL_quantile 169 = .ok (.lload 11, 2) := by decide +kernel
theorem dL_quantile_171 : decode cL_quantile 171 = .ok (.lload 21, 2) := by decide +kernel
theorem dL_quantile_173 : decode cL_quantile 173 = .ok (.lmul, 1) := by decide +kernel
theorem dL_quantile_174 : decode cL_quantile 174 = .ok (.lsub, 1) := by decide +kernel
theorem dL_quantile_175 : decode cL_quantile 175 = .ok (.lload 7, 2) := by decide +kernel
theorem dL_quantile_177 : decode cL_quantile 177 = .ok (.lload 9, 2) := by decide +kernel
theorem dL_quantile_179 : decode cL_quantile 179 = .ok (.lsub, 1) := by decide +kernel
theorem dL_quantile_180 : decode cL_quantile 180 = .ok (.lmul, 1) := by decide +kernel
theorem dL_quantile_181 : decode cL_quantile 181 = .ok (.ladd, 1) := by decide +kernel
theorem dL_quantile_182 : decode cL_quantile 182 = .ok (.lstore 26, 2) := by decide +kernel
theorem dL_quantile_184 : decode cL_quantile 184 = .ok (.lload 13, 2) := by decide +kernel
theorem dL_quantile_186 : decode cL_quantile 186 = .ok (.lload 21, 2) := by decide +kernel
theorem dL_quantile_188 : decode cL_quantile 188 = .ok (.lmul, 1) := by decide +kernel
theorem dL_quantile_189 : decode cL_quantile 189 = .ok (.lload 24, 2) := by decide +kernel
theorem dL_quantile_191 : decode cL_quantile 191 = .ok (.lmul, 1) := by decide +kernel
theorem dL_quantile_192 : decode cL_quantile 192 = .ok (.lstore 28, 2) := by decide +kernel
theorem dL_quantile_194 : decode cL_quantile 194 = .ok (.iload_n 0, 1) := by decide +kernel
theorem dL_quantile_195 : decode cL_quantile 195 = .ok (.i2l, 1) := by decide +kernel
theorem dL_quantile_196 : decode cL_quantile 196 = .ok (.lload 28, 2) := by decide +kernel
theorem dL_quantile_198 : decode cL_quantile 198 = .ok (.lmul, 1) := by decide +kernel
theorem dL_quantile_199 : decode cL_quantile 199 = .ok (.lload 26, 2) := by decide +kernel
theorem dL_quantile_201 : decode cL_quantile 201 = .ok (.lcmp, 1) := by decide +kernel
theorem dL_quantile_202 : decode cL_quantile 202 = .ok (.ifCond .gt 20, 3) := by decide +kernel
theorem dL_quantile_205 : decode cL_quantile 205 = .ok (.iload_n 0, 1) := by decide +kernel
theorem dL_quantile_206 : decode cL_quantile 206 = .ok (.i2l, 1) := by decide +kernel
theorem dL_quantile_207 : decode cL_quantile 207 = .ok (.lconst 1, 1) := by decide +kernel
theorem dL_quantile_208 : decode cL_quantile 208 = .ok (.ladd, 1) := by decide +kernel
theorem dL_quantile_209 : decode cL_quantile 209 = .ok (.lload 28, 2) := by decide +kernel
theorem dL_quantile_211 : decode cL_quantile 211 = .ok (.lmul, 1) := by decide +kernel
theorem dL_quantile_212 : decode cL_quantile 212 = .ok (.lload 26, 2) := by decide +kernel
theorem dL_quantile_214 : decode cL_quantile 214 = .ok (.lcmp, 1) := by decide +kernel
theorem dL_quantile_215 : decode cL_quantile 215 = .ok (.ifCond .le 7, 3) := by decide +kernel
theorem dL_quantile_218 : decode cL_quantile 218 = .ok (.iconst 1, 1) := by decide +kernel
theorem dL_quantile_219 : decode cL_quantile 219 = .ok (.goto 4, 3) := by decide +kernel
theorem dL_quantile_222 : decode cL_quantile 222 = .ok (.iconst 0, 1) := by decide +kernel
theorem dL_quantile_223 : decode cL_quantile 223 = .ok (.ireturn, 1) := by decide +kernel
theorem dL_quantile_224 : decode cL_quantile 224 = .ok (.lload 17, 2) := by decide +kernel
theorem dL_quantile_226 : decode cL_quantile 226 = .ok (.lstore 9, 2) := by decide +kernel
theorem dL_quantile_228 : decode cL_quantile 228 = .ok (.lload 19, 2) := by decide +kernel
theorem dL_quantile_230 : decode cL_quantile 230 = .ok (.lstore 11, 2) := by decide +kernel
theorem dL_quantile_232 : decode cL_quantile 232 = .ok (.lload 21, 2) := by decide +kernel
theorem dL_quantile_234 : decode cL_quantile 234 = .ok (.lstore 13, 2) := by decide +kernel
theorem dL_quantile_236 : decode cL_quantile 236 = .ok (.iload 15, 2) := by decide +kernel
theorem dL_quantile_238 : decode cL_quantile 238 = .ok (.aload_n 2, 1) := by decide +kernel
theorem dL_quantile_239 : decode cL_quantile 239 = .ok (.iconst 4, 1) := by decide +kernel
theorem dL_quantile_240 : decode cL_quantile 240 = .ok (.iload 16, 2) := by decide +kernel
theorem dL_quantile_242 : decode cL_quantile 242 = .ok (.imul, 1) := by decide +kernel
theorem dL_quantile_243 : decode cL_quantile 243 = .ok (.iaload, 1) := by decide +kernel
theorem dL_quantile_244 : decode cL_quantile 244 = .ok (.iadd, 1) := by decide +kernel
theorem dL_quantile_245 : decode cL_quantile 245 = .ok (.istore 15, 2) := by decide +kernel
theorem dL_quantile_247 : decode cL_quantile 247 = .ok (.iinc 16 1, 3) := by decide +kernel
theorem dL_quantile_250 : decode cL_quantile 250 = .ok (.goto (-225), 3) := by decide +kernel
theorem dL_quantile_253 : decode cL_quantile 253 = .ok (.iconst 0, 1) := by decide +kernel
theorem dL_quantile_254 : decode cL_quantile 254 = .ok (.ireturn, 1) := by decide +kernel
theorem dL_isFloat_0 : decode cL_isFloat 0 = .ok (.iload_n 1, 1) := by decide +kernel
theorem dL_isFloat_1 : decode cL_isFloat 1 = .ok (.ifCond .ne 13, 3) := by decide +kernel
theorem dL_isFloat_4 : decode cL_isFloat 4 = .ok (.iload_n 0, 1) := by decide +kernel
theorem dL_isFloat_5 : decode cL_isFloat 5 = .ok (.ifCond .ne 7, 3) := by decide +kernel
theorem dL_isFloat_8 : decode cL_isFloat 8 = .ok (.iconst 1, 1) := by decide +kernel
theorem dL_isFloat_9 : decode cL_isFloat 9 = .ok (.goto 4, 3) := by decide +kernel
theorem dL_isFloat_12 : decode cL_isFloat 12 = .ok (.iconst 0, 1) := by decide +kernel
theorem dL_isFloat_13 : decode cL_isFloat 13 = .ok (.ireturn, 1) := by decide +kernel
theorem dL_isFloat_14 : decode cL_isFloat 14 = .ok (.sipush 150, 3) := by decide +kernel
theorem dL_isFloat_17 : decode cL_isFloat 17 = .ok (.iload_n 0, 1) := by decide +kernel
theorem dL_isFloat_18 : decode cL_isFloat 18 = .ok (.bipush 23, 2) := by decide +kernel
theorem dL_isFloat_20 : decode cL_isFloat 20 = .ok (.iushr, 1) := by decide +kernel
theorem dL_isFloat_21 : decode cL_isFloat 21 = .ok (.isub, 1) := by decide +kernel
theorem dL_isFloat_22 : decode cL_isFloat 22 = .ok (.istore_n 3, 1) := by decide +kernel
theorem dL_isFloat_23 : decode cL_isFloat 23 = .ok (.iload_n 0, 1) := by decide +kernel
theorem dL_isFloat_24 : decode cL_isFloat 24 = .ok (.ldc 34, 2) := by decide +kernel
theorem dL_isFloat_26 : decode cL_isFloat 26 = .ok (.iand, 1) := by decide +kernel
theorem dL_isFloat_27 : decode cL_isFloat 27 = .ok (.ldc 35, 2) := by decide +kernel
theorem dL_isFloat_29 : decode cL_isFloat 29 = .ok (.ior, 1) := by decide +kernel
theorem dL_isFloat_30 : decode cL_isFloat 30 = .ok (.i2l, 1) := by decide +kernel
theorem dL_isFloat_31 : decode cL_isFloat 31 = .ok (.lstore 4, 2) := by decide +kernel
theorem dL_isFloat_33 : decode cL_isFloat 33 = .ok (.iload_n 3, 1) := by decide +kernel
theorem dL_isFloat_34 : decode cL_isFloat 34 = .ok (.ifCond .lt 13, 3) := by decide +kernel
theorem dL_isFloat_37 : decode cL_isFloat 37 = .ok (.iload_n 3, 1) := by decide +kernel
theorem dL_isFloat_38 : decode cL_isFloat 38 = .ok (.bipush 40, 2) := by decide +kernel
theorem dL_isFloat_40 : decode cL_isFloat 40 = .ok (.if_icmp .gt 7, 3) := by decide +kernel
theorem dL_isFloat_43 : decode cL_isFloat 43 = .ok (.iload_n 0, 1) := by decide +kernel
theorem dL_isFloat_44 : decode cL_isFloat 44 = .ok (.ifCond .ge 5, 3) := by decide +kernel
theorem dL_isFloat_47 : decode cL_isFloat 47 = .ok (.iconst 0, 1) := by decide +kernel
theorem dL_isFloat_48 : decode cL_isFloat 48 = .ok (.ireturn, 1) := by decide +kernel
theorem dL_isFloat_49 : decode cL_isFloat 49 = .ok (.iload_n 1, 1) := by decide +kernel
theorem dL_isFloat_50 : decode cL_isFloat 50 = .ok (.i2l, 1) := by decide +kernel
theorem dL_isFloat_51 : decode cL_isFloat 51 = .ok (.iload_n 3, 1) := by decide +kernel
theorem dL_isFloat_52 : decode cL_isFloat 52 = .ok (.lshl, 1) := by decide +kernel
theorem dL_isFloat_53 : decode cL_isFloat 53 = .ok (.lload 4, 2) := by decide +kernel
theorem dL_isFloat_55 : decode cL_isFloat 55 = .ok (.iload_n 2, 1) := by decide +kernel
theorem dL_isFloat_56 : decode cL_isFloat 56 = .ok (.i2l, 1) := by decide +kernel
theorem dL_isFloat_57 : decode cL_isFloat 57 = .ok (.lmul, 1) := by decide +kernel
theorem dL_isFloat_58 : decode cL_isFloat 58 = .ok (.lsub, 1) := by decide +kernel
theorem dL_isFloat_59 : decode cL_isFloat 59 = .ok (.lstore 6, 2) := by decide +kernel
theorem dL_isFloat_61 : decode cL_isFloat 61 = .ok (.ldc2_w 28, 3) := by decide +kernel
theorem dL_isFloat_64 : decode cL_isFloat 64 = .ok (.lload 6, 2) := by decide +kernel
theorem dL_isFloat_66 : decode cL_isFloat 66 = .ok (.lmul, 1) := by decide +kernel
theorem dL_isFloat_67 : decode cL_isFloat 67 = .ok (.iload_n 2, 1) := by decide +kernel
theorem dL_isFloat_68 : decode cL_isFloat 68 = .ok (.i2l, 1) := by decide +kernel
theorem dL_isFloat_69 : decode cL_isFloat 69 = .ok (.lcmp, 1) := by decide +kernel
theorem dL_isFloat_70 : decode cL_isFloat 70 = .ok (.ifCond .ge 15, 3) := by decide +kernel
theorem dL_isFloat_73 : decode cL_isFloat 73 = .ok (.ldc2_w 36, 3) := by decide +kernel
theorem dL_isFloat_76 : decode cL_isFloat 76 = .ok (.lload 6, 2) := by decide +kernel
theorem dL_isFloat_78 : decode cL_isFloat 78 = .ok (.lmul, 1) := by decide +kernel
theorem dL_isFloat_79 : decode cL_isFloat 79 = .ok (.iload_n 2, 1) := by decide +kernel
theorem dL_isFloat_80 : decode cL_isFloat 80 = .ok (.i2l, 1) := by decide +kernel
theorem dL_isFloat_81 : decode cL_isFloat 81 = .ok (.lcmp, 1) := by decide +kernel
theorem dL_isFloat_82 : decode cL_isFloat 82 = .ok (.ifCond .lt 36, 3) := by decide +kernel
theorem dL_isFloat_85 : decode cL_isFloat 85 = .ok (.ldc2_w 28, 3) := by decide +kernel
theorem dL_isFloat_88 : decode cL_isFloat 88 = .ok (.lload 6, 2) := by decide +kernel
theorem dL_isFloat_90 : decode cL_isFloat 90 = .ok (.lmul, 1) := by decide +kernel
theorem dL_isFloat_91 : decode cL_isFloat 91 = .ok (.iload_n 2, 1) := by decide +kernel
theorem dL_isFloat_92 : decode cL_isFloat 92 = .ok (.i2l, 1) := by decide +kernel
theorem dL_isFloat_93 : decode cL_isFloat 93 = .ok (.lcmp, 1) := by decide +kernel
theorem dL_isFloat_94 : decode cL_isFloat 94 = .ok (.ifCond .eq 15, 3) := by decide +kernel
theorem dL_isFloat_97 : decode cL_isFloat 97 = .ok (.ldc2_w 36, 3) := by decide +kernel
theorem dL_isFloat_100 : decode cL_isFloat 100 = .ok (.lload 6, 2) := by decide +kernel
theorem dL_isFloat_102 : decode cL_isFloat 102 = .ok (.lmul, 1) := by decide +kernel
theorem dL_isFloat_103 : decode cL_isFloat 103 = .ok (.iload_n 2, 1) := by decide +kernel
theorem dL_isFloat_104 : decode cL_isFloat 104 = .ok (.i2l, 1) := by decide +kernel
theorem dL_isFloat_105 : decode cL_isFloat 105 = .ok (.lcmp, 1) := by decide +kernel
theorem dL_isFloat_106 : decode cL_isFloat 106 = .ok (.ifCond .ne 16, 3) := by decide +kernel
theorem dL_isFloat_109 : decode cL_isFloat 109 = .ok (.lload 4, 2) := by decide +kernel
theorem dL_isFloat_111 : decode cL_isFloat 111 = .ok (.lconst 1, 1) := by decide +kernel
theorem dL_isFloat_112 : decode cL_isFloat 112 = .ok (.land, 1) := by decide +kernel
theorem dL_isFloat_113 : decode cL_isFloat 113 = .ok (.lconst 0, 1) := by decide +kernel
theorem dL_isFloat_114 : decode cL_isFloat 114 = .ok (.lcmp, 1) := by decide +kernel
theorem dL_isFloat_115 : decode cL_isFloat 115 = .ok (.ifCond .ne 7, 3) := by decide +kernel
theorem dL_isFloat_118 : decode cL_isFloat 118 = .ok (.iconst 1, 1) := by decide +kernel
theorem dL_isFloat_119 : decode cL_isFloat 119 = .ok (.goto 4, 3) := by decide +kernel
theorem dL_isFloat_122 : decode cL_isFloat 122 = .ok (.iconst 0, 1) := by decide +kernel
theorem dL_isFloat_123 : decode cL_isFloat 123 = .ok (.ireturn, 1) := by decide +kernel
theorem dL_same_0 : decode cL_same 0 = .ok (.iconst 0, 1) := by decide +kernel
theorem dL_same_1 : decode cL_same 1 = .ok (.istore 9, 2) := by decide +kernel
theorem dL_same_3 : decode cL_same 3 = .ok (.ldc 38, 2) := by decide +kernel
theorem dL_same_5 : decode cL_same 5 = .ok (.istore 10, 2) := by decide +kernel
theorem dL_same_7 : decode cL_same 7 = .ok (.iconst 0, 1) := by decide +kernel
theorem dL_same_8 : decode cL_same 8 = .ok (.istore 11, 2) := by decide +kernel
theorem dL_same_10 : decode cL_same 10 = .ok (.iconst 0, 1) := by decide +kernel
theorem dL_same_11 : decode cL_same 11 = .ok (.istore 12, 2) := by decide +kernel
theorem dL_same_13 : decode cL_same 13 = .ok (.iload 12, 2) := by decide +kernel
theorem dL_same_15 : decode cL_same 15 = .ok (.aload 6, 2) := by decide +kernel
theorem dL_same_17 : decode cL_same 17 = .ok (.iconst 0, 1) := by decide +kernel
theorem dL_same_18 : decode cL_same 18 = .ok (.iaload, 1) := by decide +kernel
theorem dL_same_19 : decode cL_same 19 = .ok (.if_icmp .ge 142, 3) := by decide +kernel
theorem dL_same_22 : decode cL_same 22 = .ok (.iconst 4, 1) := by decide +kernel
theorem dL_same_23 : decode cL_same 23 = .ok (.iload 12, 2) := by decide +kernel
theorem dL_same_25 : decode cL_same 25 = .ok (.imul, 1) := by decide +kernel
theorem dL_same_26 : decode cL_same 26 = .ok (.istore 13, 2) := by decide +kernel
theorem dL_same_28 : decode cL_same 28 = .ok (.iconst 0, 1) := by decide +kernel
theorem dL_same_29 : decode cL_same 29 = .ok (.istore 14, 2) := by decide +kernel
theorem dL_same_31 : decode cL_same 31 = .ok (.iload 14, 2) := by decide +kernel
theorem dL_same_33 : decode cL_same 33 = .ok (.iconst 4, 1) := by decide +kernel
theorem dL_same_34 : decode cL_same 34 = .ok (.if_icmp .ge 30, 3) := by decide +kernel
theorem dL_same_37 : decode cL_same 37 = .ok (.aload_n 0, 1) := by decide +kernel
theorem dL_same_38 : decode cL_same 38 = .ok (.iload_n 1, 1) := by decide +kernel
theorem dL_same_39 : decode cL_same 39 = .ok (.iload 12, 2) := by decide +kernel
theorem dL_same_41 : decode cL_same 41 = .ok (.iload 14, 2) := by decide +kernel
theorem dL_same_43 : decode cL_same 43 = .ok (.invokevirtual 39, 3) := by decide +kernel
theorem dL_same_46 : decode cL_same 46 = .ok (.aload_n 3, 1) := by decide +kernel
theorem dL_same_47 : decode cL_same 47 = .ok (.iload 13, 2) := by decide +kernel
theorem dL_same_49 : decode cL_same 49 = .ok (.iload 14, 2) := by decide +kernel
theorem dL_same_51 : decode cL_same 51 = .ok (.iadd, 1) := by decide +kernel
theorem dL_same_52 : decode cL_same 52 = .ok (.iaload, 1) := by decide +kernel
theorem dL_same_53 : decode cL_same 53 = .ok (.if_icmp .eq 5, 3) := by decide +kernel
theorem dL_same_56 : decode cL_same 56 = .ok (.iconst 0, 1) := by decide +kernel
theorem dL_same_57 : decode cL_same 57 = .ok (.ireturn, 1) := by decide +kernel
theorem dL_same_58 : decode cL_same 58 = .ok (.iinc 14 1, 3) := by decide +kernel
theorem dL_same_61 : decode cL_same 61 = .ok (.goto (-30), 3) := by decide +kernel
theorem dL_same_64 : decode cL_same 64 = .ok (.aload_n 0, 1) := by decide +kernel
theorem dL_same_65 : decode cL_same 65 = .ok (.iload_n 1, 1) := by decide +kernel
theorem dL_same_66 : decode cL_same 66 = .ok (.iload 12, 2) := by decide +kernel
theorem dL_same_68 : decode cL_same 68 = .ok (.iconst 4, 1) := by decide +kernel
theorem dL_same_69 : decode cL_same 69 = .ok (.invokevirtual 39, 3) := by decide +kernel
theorem dL_same_72 : decode cL_same 72 = .ok (.aload_n 3, 1) := by decide +kernel
theorem dL_same_73 : decode cL_same 73 = .ok (.iload 13, 2) := by decide +kernel
theorem dL_same_75 : decode cL_same 75 = .ok (.iconst 1, 1) := by decide +kernel
theorem dL_same_76 : decode cL_same 76 = .ok (.iadd, 1) := by decide +kernel
theorem dL_same_77 : decode cL_same 77 = .ok (.iaload, 1) := by decide +kernel
theorem dL_same_78 : decode cL_same 78 = .ok (.aload_n 3, 1) := by decide +kernel
theorem dL_same_79 : decode cL_same 79 = .ok (.iload 13, 2) := by decide +kernel
theorem dL_same_81 : decode cL_same 81 = .ok (.iaload, 1) := by decide +kernel
theorem dL_same_82 : decode cL_same 82 = .ok (.idiv, 1) := by decide +kernel
theorem dL_same_83 : decode cL_same 83 = .ok (.if_icmp .ne 41, 3) := by decide +kernel
theorem dL_same_86 : decode cL_same 86 = .ok (.aload_n 0, 1) := by decide +kernel
theorem dL_same_87 : decode cL_same 87 = .ok (.iload_n 1, 1) := by decide +kernel
theorem dL_same_88 : decode cL_same 88 = .ok (.iload 12, 2) := by decide +kernel
theorem dL_same_90 : decode cL_same 90 = .ok (.iconst 5, 1) := by decide +kernel
theorem dL_same_91 : decode cL_same 91 = .ok (.invokevirtual 39, 3) := by decide +kernel
theorem dL_same_94 : decode cL_same 94 = .ok (.iload 9, 2) := by decide +kernel
theorem dL_same_96 : decode cL_same 96 = .ok (.if_icmp .ne 28, 3) := by decide +kernel
theorem dL_same_99 : decode cL_same 99 = .ok (.aload_n 0, 1) := by decide +kernel
theorem dL_same_100 : decode cL_same 100 = .ok (.iload_n 1, 1) := by decide +kernel
theorem dL_same_101 : decode cL_same 101 = .ok (.iload 12, 2) := by decide +kernel
theorem dL_same_103 : decode cL_same 103 = .ok (.bipush 6, 2) := by decide +kernel
theorem dL_same_105 : decode cL_same 105 = .ok (.invokevirtual 39, 3) := by decide +kernel
theorem dL_same_108 : decode cL_same 108 = .ok (.aload_n 3, 1) := by decide +kernel
theorem dL_same_109 : decode cL_same 109 = .ok (.iload 13, 2) := by decide +kernel
theorem dL_same_111 : decode cL_same 111 = .ok (.iconst 1, 1) := by decide +kernel
theorem dL_same_112 : decode cL_same 112 = .ok (.iadd, 1) := by decide +kernel
theorem dL_same_113 : decode cL_same 113 = .ok (.iaload, 1) := by decide +kernel
theorem dL_same_114 : decode cL_same 114 = .ok (.aload_n 3, 1) := by decide +kernel
theorem dL_same_115 : decode cL_same 115 = .ok (.iload 13, 2) := by decide +kernel
theorem dL_same_117 : decode cL_same 117 = .ok (.iaload, 1) := by decide +kernel
theorem dL_same_118 : decode cL_same 118 = .ok (.invokestatic 45, 3) := by decide +kernel
theorem dL_same_121 : decode cL_same 121 = .ok (.ifCond .ne 5, 3) := by decide +kernel
theorem dL_same_124 : decode cL_same 124 = .ok (.iconst 0, 1) := by decide +kernel
theorem dL_same_125 : decode cL_same 125 = .ok (.ireturn, 1) := by decide +kernel
theorem dL_same_126 : decode cL_same 126 = .ok (.iload 9, 2) := by decide +kernel
theorem dL_same_128 : decode cL_same 128 = .ok (.aload_n 3, 1) := by decide +kernel
theorem dL_same_129 : decode cL_same 129 = .ok (.iload 13, 2) := by decide +kernel
theorem dL_same_131 : decode cL_same 131 = .ok (.iaload, 1) := by decide +kernel
theorem dL_same_132 : decode cL_same 132 = .ok (.iadd, 1) := by decide +kernel
theorem dL_same_133 : decode cL_same 133 = .ok (.istore 9, 2) := by decide +kernel
theorem dL_same_135 : decode cL_same 135 = .ok (.aload_n 3, 1) := by decide +kernel
theorem dL_same_136 : decode cL_same 136 = .ok (.iload 13, 2) := by decide +kernel
theorem dL_same_138 : decode cL_same 138 = .ok (.iaload, 1) := by decide +kernel
theorem dL_same_139 : decode cL_same 139 = .ok (.iload 10, 2) := by decide +kernel
theorem dL_same_141 : decode cL_same 141 = .ok (.if_icmp .le 10, 3) := by decide +kernel
theorem dL_same_144 : decode cL_same 144 = .ok (.aload_n 3, 1) := by decide +kernel
theorem dL_same_145 : decode cL_same 145 = .ok (.iload 13, 2) := by decide +kernel
theorem dL_same_147 : decode cL_same 147 = .ok (.iaload, 1) := by decide +kernel
theorem dL_same_148 : decode cL_same 148 = .ok (.goto 5, 3) := by decide +kernel
theorem dL_same_151 : decode cL_same 151 = .ok (.iload 10, 2) := by decide +kernel
theorem dL_same_153 : decode cL_same 153 = .ok (.istore 10, 2) := by decide +kernel
theorem dL_same_155 : decode cL_same 155 = .ok (.iinc 12 1, 3) := by decide +kernel
theorem dL_same_158 : decode cL_same 158 = .ok (.goto (-145), 3) := by decide +kernel
theorem dL_same_161 : decode cL_same 161 = .ok (.iconst 0, 1) := by decide +kernel
theorem dL_same_162 : decode cL_same 162 = .ok (.istore 12, 2) := by decide +kernel
theorem dL_same_164 : decode cL_same 164 = .ok (.iload 12, 2) := by decide +kernel
theorem dL_same_166 : decode cL_same 166 = .ok (.aload 6, 2) := by decide +kernel
theorem dL_same_168 : decode cL_same 168 = .ok (.iconst 1, 1) := by decide +kernel
theorem dL_same_169 : decode cL_same 169 = .ok (.iaload, 1) := by decide +kernel
theorem dL_same_170 : decode cL_same 170 = .ok (.if_icmp .ge 26, 3) := by decide +kernel
theorem dL_same_173 : decode cL_same 173 = .ok (.aload_n 0, 1) := by decide +kernel
theorem dL_same_174 : decode cL_same 174 = .ok (.iload_n 1, 1) := by decide +kernel
theorem dL_same_175 : decode cL_same 175 = .ok (.iload 12, 2) := by decide +kernel
theorem dL_same_177 : decode cL_same 177 = .ok (.invokevirtual 49, 3) := by decide +kernel
theorem dL_same_180 : decode cL_same 180 = .ok (.aload 4, 2) := by decide +kernel
theorem dL_same_182 : decode cL_same 182 = .ok (.iload 12, 2) := by decide +kernel
theorem dL_same_184 : decode cL_same 184 = .ok (.iaload, 1) := by decide +kernel
theorem dL_same_185 : decode cL_same 185 = .ok (.if_icmp .eq 5, 3) := by decide +kernel
theorem dL_same_188 : decode cL_same 188 = .ok (.iconst 0, 1) := by decide +kernel
theorem dL_same_189 : decode cL_same 189 = .ok (.ireturn, 1) := by decide +kernel
theorem dL_same_190 : decode cL_same 190 = .ok (.iinc 12 1, 3) := by decide +kernel
theorem dL_same_193 : decode cL_same 193 = .ok (.goto (-29), 3) := by decide +kernel
theorem dL_same_196 : decode cL_same 196 = .ok (.iconst 0, 1) := by decide +kernel
theorem dL_same_197 : decode cL_same 197 = .ok (.istore 12, 2) := by decide +kernel
theorem dL_same_199 : decode cL_same 199 = .ok (.iload 12, 2) := by decide +kernel
theorem dL_same_201 : decode cL_same 201 = .ok (.aload 6, 2) := by decide +kernel
theorem dL_same_203 : decode cL_same 203 = .ok (.iconst 2, 1) := by decide +kernel
theorem dL_same_204 : decode cL_same 204 = .ok (.iaload, 1) := by decide +kernel
theorem dL_same_205 : decode cL_same 205 = .ok (.if_icmp .ge 19, 3) := by decide +kernel
theorem dL_same_208 : decode cL_same 208 = .ok (.iload 11, 2) := by decide +kernel
theorem dL_same_210 : decode cL_same 210 = .ok (.aload 5, 2) := by decide +kernel
theorem dL_same_212 : decode cL_same 212 = .ok (.iload 12, 2) := by decide +kernel
theorem dL_same_214 : decode cL_same 214 = .ok (.iaload, 1) := by decide +kernel
theorem dL_same_215 : decode cL_same 215 = .ok (.iadd, 1) := by decide +kernel
theorem dL_same_216 : decode cL_same 216 = .ok (.istore 11, 2) := by decide +kernel
theorem dL_same_218 : decode cL_same 218 = .ok (.iinc 12 1, 3) := by decide +kernel
theorem dL_same_221 : decode cL_same 221 = .ok (.goto (-22), 3) := by decide +kernel
theorem dL_same_224 : decode cL_same 224 = .ok (.aload_n 0, 1) := by decide +kernel
theorem dL_same_225 : decode cL_same 225 = .ok (.iload_n 1, 1) := by decide +kernel
theorem dL_same_226 : decode cL_same 226 = .ok (.aload 6, 2) := by decide +kernel
theorem dL_same_228 : decode cL_same 228 = .ok (.iconst 0, 1) := by decide +kernel
theorem dL_same_229 : decode cL_same 229 = .ok (.iaload, 1) := by decide +kernel
theorem dL_same_230 : decode cL_same 230 = .ok (.iconst 0, 1) := by decide +kernel
theorem dL_same_231 : decode cL_same 231 = .ok (.invokevirtual 39, 3) := by decide +kernel
theorem dL_same_234 : decode cL_same 234 = .ok (.ldc 38, 2) := by decide +kernel
theorem dL_same_236 : decode cL_same 236 = .ok (.if_icmp .ne 93, 3) := by decide +kernel
theorem dL_same_239 : decode cL_same 239 = .ok (.aload_n 0, 1) := by decide +kernel
theorem dL_same_240 : decode cL_same 240 = .ok (.iload_n 1, 1) := by decide +kernel
theorem dL_same_241 : decode cL_same 241 = .ok (.aload 6, 2) := by decide +kernel
theorem dL_same_243 : decode cL_same 243 = .ok (.iconst 1, 1) := by decide +kernel
theorem dL_same_244 : decode cL_same 244 = .ok (.iaload, 1) := by decide +kernel
theorem dL_same_245 : decode cL_same 245 = .ok (.invokevirtual 49, 3) := by decide +kernel
theorem dL_same_248 : decode cL_same 248 = .ok (.ldc 38, 2) := by decide +kernel
theorem dL_same_250 : decode cL_same 250 = .ok (.if_icmp .ne 79, 3) := by decide +kernel
theorem dL_same_253 : decode cL_same 253 = .ok (.aload_n 0, 1) := by decide +kernel
theorem dL_same_254 : decode cL_same 254 = .ok (.iload_n 1, 1) := by decide +kernel
theorem dL_same_255 : decode cL_same 255 = .ok (.iconst 0, 1) := by decide +kernel
theorem dL_same_256 : decode cL_same 256 = .ok (.invokevirtual 53, 3) := by decide +kernel
theorem dL_same_259 : decode cL_same 259 = .ok (.aload 6, 2) := by decide +kernel
theorem dL_same_261 : decode cL_same 261 = .ok (.iconst 2, 1) := by decide +kernel
theorem dL_same_262 : decode cL_same 262 = .ok (.iaload, 1) := by decide +kernel
theorem dL_same_263 : decode cL_same 263 = .ok (.if_icmp .ne 66, 3) := by decide +kernel
theorem dL_same_266 : decode cL_same 266 = .ok (.aload_n 0, 1) := by decide +kernel
theorem dL_same_267 : decode cL_same 267 = .ok (.iload_n 1, 1) := by decide +kernel
theorem dL_same_268 : decode cL_same 268 = .ok (.iconst 1, 1) := by decide +kernel
theorem dL_same_269 : decode cL_same 269 = .ok (.invokevirtual 53, 3) := by decide +kernel
theorem dL_same_272 : decode cL_same 272 = .ok (.aload 6, 2) := by decide +kernel
theorem dL_same_274 : decode cL_same 274 = .ok (.iconst 0, 1) := by decide +kernel
theorem dL_same_275 : decode cL_same 275 = .ok (.iaload, 1) := by decide +kernel
theorem dL_same_276 : decode cL_same 276 = .ok (.if_icmp .ne 53, 3) := by decide +kernel
theorem dL_same_279 : decode cL_same 279 = .ok (.aload_n 0, 1) := by decide +kernel
theorem dL_same_280 : decode cL_same 280 = .ok (.iload_n 1, 1) := by decide +kernel
theorem dL_same_281 : decode cL_same 281 = .ok (.iconst 2, 1) := by decide +kernel
theorem dL_same_282 : decode cL_same 282 = .ok (.invokevirtual 53, 3) := by decide +kernel
theorem dL_same_285 : decode cL_same 285 = .ok (.aload 6, 2) := by decide +kernel
theorem dL_same_287 : decode cL_same 287 = .ok (.iconst 1, 1) := by decide +kernel
theorem dL_same_288 : decode cL_same 288 = .ok (.iaload, 1) := by decide +kernel
theorem dL_same_289 : decode cL_same 289 = .ok (.if_icmp .ne 40, 3) := by decide +kernel
theorem dL_same_292 : decode cL_same 292 = .ok (.aload_n 0, 1) := by decide +kernel
theorem dL_same_293 : decode cL_same 293 = .ok (.iload_n 1, 1) := by decide +kernel
theorem dL_same_294 : decode cL_same 294 = .ok (.iconst 5, 1) := by decide +kernel
theorem dL_same_295 : decode cL_same 295 = .ok (.invokevirtual 53, 3) := by decide +kernel
theorem dL_same_298 : decode cL_same 298 = .ok (.iload 11, 2) := by decide +kernel
theorem dL_same_300 : decode cL_same 300 = .ok (.if_icmp .ne 29, 3) := by decide +kernel
theorem dL_same_303 : decode cL_same 303 = .ok (.aload_n 0, 1) := by decide +kernel
theorem dL_same_304 : decode cL_same 304 = .ok (.iload_n 1, 1) := by decide +kernel
theorem dL_same_305 : decode cL_same 305 = .ok (.bipush 7, 2) := by decide +kernel
theorem dL_same_307 : decode cL_same 307 = .ok (.invokevirtual 53, 3) := by decide +kernel
theorem dL_same_310 : decode cL_same 310 = .ok (.iload 10, 2) := by decide +kernel
theorem dL_same_312 : decode cL_same 312 = .ok (.if_icmp .ne 17, 3) := by decide +kernel
theorem dL_same_315 : decode cL_same 315 = .ok (.aload_n 0, 1) := by decide +kernel
theorem dL_same_316 : decode cL_same 316 = .ok (.iload_n 1, 1) := by decide +kernel
theorem dL_same_317 : decode cL_same 317 = .ok (.bipush 8, 2) := by decide +kernel
theorem dL_same_319 : decode cL_same 319 = .ok (.invokevirtual 53, 3) := by decide +kernel
theorem dL_same_322 : decode cL_same 322 = .ok (.aload 6, 2) := by decide +kernel
theorem dL_same_324 : decode cL_same 324 = .ok (.iconst 3, 1) := by decide +kernel
theorem dL_same_325 : decode cL_same 325 = .ok (.iaload, 1) := by decide +kernel
theorem dL_same_326 : decode cL_same 326 = .ok (.if_icmp .eq 5, 3) := by decide +kernel
theorem dL_same_329 : decode cL_same 329 = .ok (.iconst 0, 1) := by decide +kernel
theorem dL_same_330 : decode cL_same 330 = .ok (.ireturn, 1) := by decide +kernel
theorem dL_same_331 : decode cL_same 331 = .ok (.aload 6, 2) := by decide +kernel
theorem dL_same_333 : decode cL_same 333 = .ok (.iconst 2, 1) := by decide +kernel
theorem dL_same_334 : decode cL_same 334 = .ok (.iaload, 1) := by decide +kernel
theorem dL_same_335 : decode cL_same 335 = .ok (.ifCond .ne 55, 3) := by decide +kernel
theorem dL_same_338 : decode cL_same 338 = .ok (.aload_n 0, 1) := by decide +kernel
theorem dL_same_339 : decode cL_same 339 = .ok (.iload_n 1, 1) := by decide +kernel
theorem dL_same_340 : decode cL_same 340 = .ok (.sipush 500, 3) := by decide +kernel
theorem dL_same_343 : decode cL_same 343 = .ok (.invokevirtual 56, 3) := by decide +kernel
theorem dL_same_346 : decode cL_same 346 = .ok (.ldc 59, 2) := by decide +kernel
theorem dL_same_348 : decode cL_same 348 = .ok (.if_icmp .ne 40, 3) := by decide +kernel
theorem dL_same_351 : decode cL_same 351 = .ok (.aload_n 0, 1) := by decide +kernel
theorem dL_same_352 : decode cL_same 352 = .ok (.iload_n 1, 1) := by decide +kernel
theorem dL_same_353 : decode cL_same 353 = .ok (.iconst 0, 1) := by decide +kernel
theorem dL_same_354 : decode cL_same 354 = .ok (.invokevirtual 60, 3) := by decide +kernel
theorem dL_same_357 : decode cL_same 357 = .ok (.ldc 59, 2) := by decide +kernel
theorem dL_same_359 : decode cL_same 359 = .ok (.if_icmp .ne 29, 3) := by decide +kernel
theorem dL_same_362 : decode cL_same 362 = .ok (.aload_n 0, 1) := by decide +kernel
theorem dL_same_363 : decode cL_same 363 = .ok (.iload_n 1, 1) := by decide +kernel
theorem dL_same_364 : decode cL_same 364 = .ok (.iconst 0, 1) := by decide +kernel
theorem dL_same_365 : decode cL_same 365 = .ok (.invokevirtual 63, 3) := by decide +kernel
theorem dL_same_368 : decode cL_same 368 = .ok (.ldc 59, 2) := by decide +kernel
theorem dL_same_370 : decode cL_same 370 = .ok (.if_icmp .ne 18, 3) := by decide +kernel
theorem dL_same_373 : decode cL_same 373 = .ok (.aload_n 0, 1) := by decide +kernel
theorem dL_same_374 : decode cL_same 374 = .ok (.iload_n 1, 1) := by decide +kernel
theorem dL_same_375 : decode cL_same 375 = .ok (.iconst 3, 1) := by decide +kernel
theorem dL_same_376 : decode cL_same 376 = .ok (.invokevirtual 53, 3) := by decide +kernel
theorem dL_same_379 : decode cL_same 379 = .ok (.ldc 38, 2) := by decide +kernel
theorem dL_same_381 : decode cL_same 381 = .ok (.if_icmp .ne 7, 3) := by decide +kernel
theorem dL_same_384 : decode cL_same 384 = .ok (.iconst 1, 1) := by decide +kernel
theorem dL_same_385 : decode cL_same 385 = .ok (.goto 4, 3) := by decide +kernel
theorem dL_same_388 : decode cL_same 388 = .ok (.iconst 0, 1) := by decide +kernel
theorem dL_same_389 : decode cL_same 389 = .ok (.ireturn, 1) := by decide +kernel
theorem dL_same_390 : decode cL_same 390 = .ok (.iconst 0, 1) := by decide +kernel
theorem dL_same_391 : decode cL_same 391 = .ok (.istore 12, 2) := by decide +kernel
theorem dL_same_393 : decode cL_same 393 = .ok (.iload 12, 2) := by decide +kernel
theorem dL_same_395 : decode cL_same 395 = .ok (.iconst 4, 1) := by decide +kernel
theorem dL_same_396 : decode cL_same 396 = .ok (.aload 6, 2) := by decide +kernel
theorem dL_same_398 : decode cL_same 398 = .ok (.iconst 0, 1) := by decide +kernel
theorem dL_same_399 : decode cL_same 399 = .ok (.iaload, 1) := by decide +kernel
theorem dL_same_400 : decode cL_same 400 = .ok (.imul, 1) := by decide +kernel
theorem dL_same_401 : decode cL_same 401 = .ok (.if_icmp .ge 18, 3) := by decide +kernel
theorem dL_same_404 : decode cL_same 404 = .ok (.aload 8, 2) := by decide +kernel
theorem dL_same_406 : decode cL_same 406 = .ok (.iload 12, 2) := by decide +kernel
theorem dL_same_408 : decode cL_same 408 = .ok (.aload_n 3, 1) := by decide +kernel
theorem dL_same_409 : decode cL_same 409 = .ok (.iload 12, 2) := by decide +kernel
theorem dL_same_411 : decode cL_same 411 = .ok (.iaload, 1) := by decide +kernel
theorem dL_same_412 : decode cL_same 412 = .ok (.iastore, 1) := by decide +kernel
theorem dL_same_413 : decode cL_same 413 = .ok (.iinc 12 1, 3) := by decide +kernel
theorem dL_same_416 : decode cL_same 416 = .ok (.goto (-23), 3) := by decide +kernel
theorem dL_same_419 : decode cL_same 419 = .ok (.aload 6, 2) := by decide +kernel
theorem dL_same_421 : decode cL_same 421 = .ok (.iconst 0, 1) := by decide +kernel
theorem dL_same_422 : decode cL_same 422 = .ok (.iaload, 1) := by decide +kernel
theorem dL_same_423 : decode cL_same 423 = .ok (.istore 12, 2) := by decide +kernel
theorem dL_same_425 : decode cL_same 425 = .ok (.iload 12, 2) := by decide +kernel
theorem dL_same_427 : decode cL_same 427 = .ok (.aload 6, 2) := by decide +kernel
theorem dL_same_429 : decode cL_same 429 = .ok (.iconst 1, 1) := by decide +kernel
theorem dL_same_430 : decode cL_same 430 = .ok (.iaload, 1) := by decide +kernel
theorem dL_same_431 : decode cL_same 431 = .ok (.iadd, 1) := by decide +kernel
theorem dL_same_432 : decode cL_same 432 = .ok (.bipush 16, 2) := by decide +kernel
theorem dL_same_434 : decode cL_same 434 = .ok (.if_icmp .le 5, 3) := by decide +kernel
theorem dL_same_437 : decode cL_same 437 = .ok (.iconst 1, 1) := by decide +kernel
theorem dL_same_438 : decode cL_same 438 = .ok (.ireturn, 1) := by decide +kernel
