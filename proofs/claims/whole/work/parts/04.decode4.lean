theorem dX8_putTogether_200 : decode cX8_putTogether 200 = .ok (.istore 4, 2) := by decide +kernel
theorem dX8_putTogether_202 : decode cX8_putTogether 202 = .ok (.iinc 3 1, 3) := by decide +kernel
theorem dX8_putTogether_205 : decode cX8_putTogether 205 = .ok (.aload_n 0, 1) := by decide +kernel
theorem dX8_putTogether_206 : decode cX8_putTogether 206 = .ok (.iload 5, 2) := by decide +kernel
theorem dX8_putTogether_208 : decode cX8_putTogether 208 = .ok (.iload_n 3, 1) := by decide +kernel
theorem dX8_putTogether_209 : decode cX8_putTogether 209 = .ok (.invokevirtual 64, 3) := by decide +kernel
theorem dX8_putTogether_212 : decode cX8_putTogether 212 = .ok (.iinc 5 1, 3) := by decide +kernel
theorem dX8_putTogether_215 : decode cX8_putTogether 215 = .ok (.goto (-180), 3) := by decide +kernel
theorem dX8_putTogether_218 : decode cX8_putTogether 218 = .ok (.aload_n 0, 1) := by decide +kernel
theorem dX8_putTogether_219 : decode cX8_putTogether 219 = .ok (.aload_n 0, 1) := by decide +kernel
theorem dX8_putTogether_220 : decode cX8_putTogether 220 = .ok (.getfield 53, 3) := by decide +kernel
theorem dX8_putTogether_223 : decode cX8_putTogether 223 = .ok (.ifCond .ne 7, 3) := by decide +kernel
theorem dX8_putTogether_226 : decode cX8_putTogether 226 = .ok (.iconst 0, 1) := by decide +kernel
theorem dX8_putTogether_227 : decode cX8_putTogether 227 = .ok (.goto 6, 3) := by decide +kernel
theorem dX8_putTogether_230 : decode cX8_putTogether 230 = .ok (.iload_n 3, 1) := by decide +kernel
theorem dX8_putTogether_231 : decode cX8_putTogether 231 = .ok (.iconst 1, 1) := by decide +kernel
theorem dX8_putTogether_232 : decode cX8_putTogether 232 = .ok (.iadd, 1) := by decide +kernel
theorem dX8_putTogether_233 : decode cX8_putTogether 233 = .ok (.putfield 53, 3) := by decide +kernel
theorem dX8_putTogether_236 : decode cX8_putTogether 236 = .ok (.return_, 1) := by decide +kernel
theorem dX8_findPacked_0 : decode cX8_findPacked 0 = .ok (.aload_n 0, 1) := by decide +kernel
theorem dX8_findPacked_1 : decode cX8_findPacked 1 = .ok (.iconst 0, 1) := by decide +kernel
theorem dX8_findPacked_2 : decode cX8_findPacked 2 = .ok (.putfield 53, 3) := by decide +kernel
theorem dX8_findPacked_5 : decode cX8_findPacked 5 = .ok (.aload_n 0, 1) := by decide +kernel
theorem dX8_findPacked_6 : decode cX8_findPacked 6 = .ok (.iload_n 1, 1) := by decide +kernel
theorem dX8_findPacked_7 : decode cX8_findPacked 7 = .ok (.invokevirtual 68, 3) := by decide +kernel
theorem dX8_findPacked_10 : decode cX8_findPacked 10 = .ok (.aload_n 0, 1) := by decide +kernel
theorem dX8_findPacked_11 : decode cX8_findPacked 11 = .ok (.iload_n 1, 1) := by decide +kernel
theorem dX8_findPacked_12 : decode cX8_findPacked 12 = .ok (.invokevirtual 72, 3) := by decide +kernel
theorem dX8_findPacked_15 : decode cX8_findPacked 15 = .ok (.aload_n 0, 1) := by decide +kernel
theorem dX8_findPacked_16 : decode cX8_findPacked 16 = .ok (.invokevirtual 75, 3) := by decide +kernel
theorem dX8_findPacked_19 : decode cX8_findPacked 19 = .ok (.aload_n 0, 1) := by decide +kernel
theorem dX8_findPacked_20 : decode cX8_findPacked 20 = .ok (.aload_n 0, 1) := by decide +kernel
theorem dX8_findPacked_21 : decode cX8_findPacked 21 = .ok (.getfield 7, 3) := by decide +kernel
theorem dX8_findPacked_24 : decode cX8_findPacked 24 = .ok (.iconst 0, 1) := by decide +kernel
theorem dX8_findPacked_25 : decode cX8_findPacked 25 = .ok (.iaload, 1) := by decide +kernel
theorem dX8_findPacked_26 : decode cX8_findPacked 26 = .ok (.invokevirtual 78, 3) := by decide +kernel
theorem dX8_findPacked_29 : decode cX8_findPacked 29 = .ok (.return_, 1) := by decide +kernel
theorem dX8_giveHeaps_0 : decode cX8_giveHeaps 0 = .ok (.aload_n 0, 1) := by decide +kernel
theorem dX8_giveHeaps_1 : decode cX8_giveHeaps 1 = .ok (.iload_n 1, 1) := by decide +kernel
theorem dX8_giveHeaps_2 : decode cX8_giveHeaps 2 = .ok (.iconst 0, 1) := by decide +kernel
theorem dX8_giveHeaps_3 : decode cX8_giveHeaps 3 = .ok (.aload_n 0, 1) := by decide +kernel
theorem dX8_giveHeaps_4 : decode cX8_giveHeaps 4 = .ok (.getfield 53, 3) := by decide +kernel
theorem dX8_giveHeaps_7 : decode cX8_giveHeaps 7 = .ok (.invokevirtual 81, 3) := by decide +kernel
theorem dX8_giveHeaps_10 : decode cX8_giveHeaps 10 = .ok (.iconst 0, 1) := by decide +kernel
theorem dX8_giveHeaps_11 : decode cX8_giveHeaps 11 = .ok (.istore_n 2, 1) := by decide +kernel
theorem dX8_giveHeaps_12 : decode cX8_giveHeaps 12 = .ok (.iload_n 2, 1) := by decide +kernel
theorem dX8_giveHeaps_13 : decode cX8_giveHeaps 13 = .ok (.aload_n 0, 1) := by decide +kernel
theorem dX8_giveHeaps_14 : decode cX8_giveHeaps 14 = .ok (.getfield 53, 3) := by decide +kernel
theorem dX8_giveHeaps_17 : decode cX8_giveHeaps 17 = .ok (.if_icmp .ge 81, 3) := by decide +kernel
theorem dX8_giveHeaps_20 : decode cX8_giveHeaps 20 = .ok (.aload_n 0, 1) := by decide +kernel
theorem dX8_giveHeaps_21 : decode cX8_giveHeaps 21 = .ok (.iload_n 1, 1) := by decide +kernel
theorem dX8_giveHeaps_22 : decode cX8_giveHeaps 22 = .ok (.iconst 4, 1) := by decide +kernel
theorem dX8_giveHeaps_23 : decode cX8_giveHeaps 23 = .ok (.iconst 4, 1) := by decide +kernel
theorem dX8_giveHeaps_24 : decode cX8_giveHeaps 24 = .ok (.iload_n 2, 1) := by decide +kernel
theorem dX8_giveHeaps_25 : decode cX8_giveHeaps 25 = .ok (.imul, 1) := by decide +kernel
theorem dX8_giveHeaps_26 : decode cX8_giveHeaps 26 = .ok (.iadd, 1) := by decide +kernel
theorem dX8_giveHeaps_27 : decode cX8_giveHeaps 27 = .ok (.iconst 0, 1) := by decide +kernel
theorem dX8_giveHeaps_28 : decode cX8_giveHeaps 28 = .ok (.iadd, 1) := by decide +kernel
theorem dX8_giveHeaps_29 : decode cX8_giveHeaps 29 = .ok (.aload_n 0, 1) := by decide +kernel
theorem dX8_giveHeaps_30 : decode cX8_giveHeaps 30 = .ok (.getfield 19, 3) := by decide +kernel
theorem dX8_giveHeaps_33 : decode cX8_giveHeaps 33 = .ok (.iload_n 2, 1) := by decide +kernel
theorem dX8_giveHeaps_34 : decode cX8_giveHeaps 34 = .ok (.iaload, 1) := by decide +kernel
theorem dX8_giveHeaps_35 : decode cX8_giveHeaps 35 = .ok (.invokevirtual 81, 3) := by decide +kernel
theorem dX8_giveHeaps_38 : decode cX8_giveHeaps 38 = .ok (.aload_n 0, 1) := by decide +kernel
theorem dX8_giveHeaps_39 : decode cX8_giveHeaps 39 = .ok (.iload_n 1, 1) := by decide +kernel
theorem dX8_giveHeaps_40 : decode cX8_giveHeaps 40 = .ok (.iconst 4, 1) := by decide +kernel
theorem dX8_giveHeaps_41 : decode cX8_giveHeaps 41 = .ok (.iconst 4, 1) := by decide +kernel
theorem dX8_giveHeaps_42 : decode cX8_giveHeaps 42 = .ok (.iload_n 2, 1) := by decide +kernel
theorem dX8_giveHeaps_43 : decode cX8_giveHeaps 43 = .ok (.imul, 1) := by decide +kernel
theorem dX8_giveHeaps_44 : decode cX8_giveHeaps 44 = .ok (.iadd, 1) := by decide +kernel
theorem dX8_giveHeaps_45 : decode cX8_giveHeaps 45 = .ok (.iconst 1, 1) := by decide +kernel
theorem dX8_giveHeaps_46 : decode cX8_giveHeaps 46 = .ok (.iadd, 1) := by decide +kernel
theorem dX8_giveHeaps_47 : decode cX8_giveHeaps 47 = .ok (.aload_n 0, 1) := by decide +kernel
theorem dX8_giveHeaps_48 : decode cX8_giveHeaps 48 = .ok (.getfield 22, 3) := by decide +kernel
theorem dX8_giveHeaps_51 : decode cX8_giveHeaps 51 = .ok (.iload_n 2, 1) := by decide +kernel
theorem dX8_giveHeaps_52 : decode cX8_giveHeaps 52 = .ok (.iaload, 1) := by decide +kernel
theorem dX8_giveHeaps_53 : decode cX8_giveHeaps 53 = .ok (.invokevirtual 81, 3) := by decide +kernel
theorem dX8_giveHeaps_56 : decode cX8_giveHeaps 56 = .ok (.aload_n 0, 1) := by decide +kernel
theorem dX8_giveHeaps_57 : decode cX8_giveHeaps 57 = .ok (.iload_n 1, 1) := by decide +kernel
theorem dX8_giveHeaps_58 : decode cX8_giveHeaps 58 = .ok (.iconst 4, 1) := by decide +kernel
theorem dX8_giveHeaps_59 : decode cX8_giveHeaps 59 = .ok (.iconst 4, 1) := by decide +kernel
theorem dX8_giveHeaps_60 : decode cX8_giveHeaps 60 = .ok (.iload_n 2, 1) := by decide +kernel
theorem dX8_giveHeaps_61 : decode cX8_giveHeaps 61 = .ok (.imul, 1) := by decide +kernel
theorem dX8_giveHeaps_62 : decode cX8_giveHeaps 62 = .ok (.iadd, 1) := by decide +kernel
theorem dX8_giveHeaps_63 : decode cX8_giveHeaps 63 = .ok (.iconst 2, 1) := by decide +kernel
theorem dX8_giveHeaps_64 : decode cX8_giveHeaps 64 = .ok (.iadd, 1) := by decide +kernel
theorem dX8_giveHeaps_65 : decode cX8_giveHeaps 65 = .ok (.aload_n 0, 1) := by decide +kernel
theorem dX8_giveHeaps_66 : decode cX8_giveHeaps 66 = .ok (.getfield 25, 3) := by decide +kernel
theorem dX8_giveHeaps_69 : decode cX8_giveHeaps 69 = .ok (.iload_n 2, 1) := by decide +kernel
theorem dX8_giveHeaps_70 : decode cX8_giveHeaps 70 = .ok (.iaload, 1) := by decide +kernel
theorem dX8_giveHeaps_71 : decode cX8_giveHeaps 71 = .ok (.invokevirtual 81, 3) := by decide +kernel
theorem dX8_giveHeaps_74 : decode cX8_giveHeaps 74 = .ok (.aload_n 0, 1) := by decide +kernel
theorem dX8_giveHeaps_75 : decode cX8_giveHeaps 75 = .ok (.iload_n 1, 1) := by decide +kernel
theorem dX8_giveHeaps_76 : decode cX8_giveHeaps 76 = .ok (.iconst 4, 1) := by decide +kernel
theorem dX8_giveHeaps_77 : decode cX8_giveHeaps 77 = .ok (.iconst 4, 1) := by decide +kernel
theorem dX8_giveHeaps_78 : decode cX8_giveHeaps 78 = .ok (.iload_n 2, 1) := by decide +kernel
theorem dX8_giveHeaps_79 : decode cX8_giveHeaps 79 = .ok (.imul, 1) := by decide +kernel
theorem dX8_giveHeaps_80 : decode cX8_giveHeaps 80 = .ok (.iadd, 1) := by decide +kernel
theorem dX8_giveHeaps_81 : decode cX8_giveHeaps 81 = .ok (.iconst 3, 1) := by decide +kernel
theorem dX8_giveHeaps_82 : decode cX8_giveHeaps 82 = .ok (.iadd, 1) := by decide +kernel
theorem dX8_giveHeaps_83 : decode cX8_giveHeaps 83 = .ok (.aload_n 0, 1) := by decide +kernel
theorem dX8_giveHeaps_84 : decode cX8_giveHeaps 84 = .ok (.getfield 28, 3) := by decide +kernel
theorem dX8_giveHeaps_87 : decode cX8_giveHeaps 87 = .ok (.iload_n 2, 1) := by decide +kernel
theorem dX8_giveHeaps_88 : decode cX8_giveHeaps 88 = .ok (.iaload, 1) := by decide +kernel
theorem dX8_giveHeaps_89 : decode cX8_giveHeaps 89 = .ok (.invokevirtual 81, 3) := by decide +kernel
theorem dX8_giveHeaps_92 : decode cX8_giveHeaps 92 = .ok (.iinc 2 1, 3) := by decide +kernel
theorem dX8_giveHeaps_95 : decode cX8_giveHeaps 95 = .ok (.goto (-83), 3) := by decide +kernel
theorem dX8_giveHeaps_98 : decode cX8_giveHeaps 98 = .ok (.aload_n 0, 1) := by decide +kernel
theorem dX8_giveHeaps_99 : decode cX8_giveHeaps 99 = .ok (.iload_n 1, 1) := by decide +kernel
theorem dX8_giveHeaps_100 : decode cX8_giveHeaps 100 = .ok (.iconst 3, 1) := by decide +kernel
theorem dX8_giveHeaps_101 : decode cX8_giveHeaps 101 = .ok (.aload_n 0, 1) := by decide +kernel
theorem dX8_giveHeaps_102 : decode cX8_giveHeaps 102 = .ok (.iload_n 1, 1) := by decide +kernel
theorem dX8_giveHeaps_103 : decode cX8_giveHeaps 103 = .ok (.iconst 3, 1) := by decide +kernel
theorem dX8_giveHeaps_104 : decode cX8_giveHeaps 104 = .ok (.invokevirtual 49, 3) := by decide +kernel
theorem dX8_giveHeaps_107 : decode cX8_giveHeaps 107 = .ok (.iconst 1, 1) := by decide +kernel
theorem dX8_giveHeaps_108 : decode cX8_giveHeaps 108 = .ok (.iadd, 1) := by decide +kernel
theorem dX8_giveHeaps_109 : decode cX8_giveHeaps 109 = .ok (.invokevirtual 81, 3) := by decide +kernel
theorem dX8_giveHeaps_112 : decode cX8_giveHeaps 112 = .ok (.return_, 1) := by decide +kernel
theorem dX8_packs_0 : decode cX8_packs 0 = .ok (.aload_n 0, 1) := by decide +kernel
theorem dX8_packs_1 : decode cX8_packs 1 = .ok (.iload_n 1, 1) := by decide +kernel
theorem dX8_packs_2 : decode cX8_packs 2 = .ok (.invokevirtual 85, 3) := by decide +kernel
theorem dX8_packs_5 : decode cX8_packs 5 = .ok (.aload_n 0, 1) := by decide +kernel
theorem dX8_packs_6 : decode cX8_packs 6 = .ok (.iload_n 1, 1) := by decide +kernel
theorem dX8_packs_7 : decode cX8_packs 7 = .ok (.invokevirtual 88, 3) := by decide +kernel
theorem dX8_packs_10 : decode cX8_packs 10 = .ok (.aload_n 0, 1) := by decide +kernel
theorem dX8_packs_11 : decode cX8_packs 11 = .ok (.iload_n 1, 1) := by decide +kernel
theorem dX8_packs_12 : decode cX8_packs 12 = .ok (.iconst 1, 1) := by decide +kernel
theorem dX8_packs_13 : decode cX8_packs 13 = .ok (.iconst 0, 1) := by decide +kernel
theorem dX8_packs_14 : decode cX8_packs 14 = .ok (.invokevirtual 81, 3) := by decide +kernel
theorem dX8_packs_17 : decode cX8_packs 17 = .ok (.return_, 1) := by decide +kernel
theorem dX8_knows_0 : decode cX8_knows 0 = .ok (.aload_n 0, 1) := by decide +kernel
theorem dX8_knows_1 : decode cX8_knows 1 = .ok (.iload_n 1, 1) := by decide +kernel
theorem dX8_knows_2 : decode cX8_knows 2 = .ok (.sipush 824, 3) := by decide +kernel
theorem dX8_knows_5 : decode cX8_knows 5 = .ok (.aload_n 0, 1) := by decide +kernel
theorem dX8_knows_6 : decode cX8_knows 6 = .ok (.iload_n 1, 1) := by decide +kernel
theorem dX8_knows_7 : decode cX8_knows 7 = .ok (.iconst 2, 1) := by decide +kernel
theorem dX8_knows_8 : decode cX8_knows 8 = .ok (.invokevirtual 49, 3) := by decide +kernel
theorem dX8_knows_11 : decode cX8_knows 11 = .ok (.iadd, 1) := by decide +kernel
theorem dX8_knows_12 : decode cX8_knows 12 = .ok (.iload_n 2, 1) := by decide +kernel
theorem dX8_knows_13 : decode cX8_knows 13 = .ok (.invokevirtual 81, 3) := by decide +kernel
theorem dX8_knows_16 : decode cX8_knows 16 = .ok (.aload_n 0, 1) := by decide +kernel
theorem dX8_knows_17 : decode cX8_knows 17 = .ok (.iload_n 1, 1) := by decide +kernel
theorem dX8_knows_18 : decode cX8_knows 18 = .ok (.iconst 2, 1) := by decide +kernel
theorem dX8_knows_19 : decode cX8_knows 19 = .ok (.aload_n 0, 1) := by decide +kernel
theorem dX8_knows_20 : decode cX8_knows 20 = .ok (.iload_n 1, 1) := by decide +kernel
theorem dX8_knows_21 : decode cX8_knows 21 = .ok (.iconst 2, 1) := by decide +kernel
theorem dX8_knows_22 : decode cX8_knows 22 = .ok (.invokevirtual 49, 3) := by decide +kernel
theorem dX8_knows_25 : decode cX8_knows 25 = .ok (.iconst 1, 1) := by decide +kernel
theorem dX8_knows_26 : decode cX8_knows 26 = .ok (.iadd, 1) := by decide +kernel
theorem dX8_knows_27 : decode cX8_knows 27 = .ok (.invokevirtual 81, 3) := by decide +kernel
theorem dX8_knows_30 : decode cX8_knows 30 = .ok (.return_, 1) := by decide +kernel
theorem dX8_comes_0 : decode cX8_comes 0 = .ok (.aload_n 0, 1) := by decide +kernel
theorem dX8_comes_1 : decode cX8_comes 1 = .ok (.iload_n 1, 1) := by decide +kernel
theorem dX8_comes_2 : decode cX8_comes 2 = .ok (.iconst 1, 1) := by decide +kernel
theorem dX8_comes_3 : decode cX8_comes 3 = .ok (.invokevirtual 49, 3) := by decide +kernel
theorem dX8_comes_6 : decode cX8_comes 6 = .ok (.aload_n 0, 1) := by decide +kernel
theorem dX8_comes_7 : decode cX8_comes 7 = .ok (.getfield 7, 3) := by decide +kernel
theorem dX8_comes_10 : decode cX8_comes 10 = .ok (.iconst 1, 1) := by decide +kernel
theorem dX8_comes_11 : decode cX8_comes 11 = .ok (.iaload, 1) := by decide +kernel
theorem dX8_comes_12 : decode cX8_comes 12 = .ok (.if_icmp .lt 8, 3) := by decide +kernel
theorem dX8_comes_15 : decode cX8_comes 15 = .ok (.aload_n 0, 1) := by decide +kernel
theorem dX8_comes_16 : decode cX8_comes 16 = .ok (.iload_n 1, 1) := by decide +kernel
theorem dX8_comes_17 : decode cX8_comes 17 = .ok (.invokevirtual 91, 3) := by decide +kernel
theorem dX8_comes_20 : decode cX8_comes 20 = .ok (.aload_n 0, 1) := by decide +kernel
theorem dX8_comes_21 : decode cX8_comes 21 = .ok (.iload_n 1, 1) := by decide +kernel
theorem dX8_comes_22 : decode cX8_comes 22 = .ok (.sipush 804, 3) := by decide +kernel
theorem dX8_comes_25 : decode cX8_comes 25 = .ok (.aload_n 0, 1) := by decide +kernel
theorem dX8_comes_26 : decode cX8_comes 26 = .ok (.iload_n 1, 1) := by decide +kernel
theorem dX8_comes_27 : decode cX8_comes 27 = .ok (.iconst 1, 1) := by decide +kernel
theorem dX8_comes_28 : decode cX8_comes 28 = .ok (.invokevirtual 49, 3) := by decide +kernel
theorem dX8_comes_31 : decode cX8_comes 31 = .ok (.iadd, 1) := by decide +kernel
theorem dX8_comes_32 : decode cX8_comes 32 = .ok (.iload_n 2, 1) := by decide +kernel
theorem dX8_comes_33 : decode cX8_comes 33 = .ok (.invokevirtual 81, 3) := by decide +kernel
theorem dX8_comes_36 : decode cX8_comes 36 = .ok (.aload_n 0, 1) := by decide +kernel
theorem dX8_comes_37 : decode cX8_comes 37 = .ok (.iload_n 1, 1) := by decide +kernel
theorem dX8_comes_38 : decode cX8_comes 38 = .ok (.iconst 1, 1) := by decide +kernel
theorem dX8_comes_39 : decode cX8_comes 39 = .ok (.aload_n 0, 1) := by decide +kernel
theorem dX8_comes_40 : decode cX8_comes 40 = .ok (.iload_n 1, 1) := by decide +kernel
theorem dX8_comes_41 : decode cX8_comes 41 = .ok (.iconst 1, 1) := by decide +kernel
theorem dX8_comes_42 : decode cX8_comes 42 = .ok (.invokevirtual 49, 3) := by decide +kernel
theorem dX8_comes_45 : decode cX8_comes 45 = .ok (.iconst 1, 1) := by decide +kernel
theorem dX8_comes_46 : decode cX8_comes 46 = .ok (.iadd, 1) := by decide +kernel
theorem dX8_comes_47 : decode cX8_comes 47 = .ok (.invokevirtual 81, 3) := by decide +kernel
theorem dX8_comes_50 : decode cX8_comes 50 = .ok (.aload_n 0, 1) := by decide +kernel
theorem dX8_comes_51 : decode cX8_comes 51 = .ok (.iload_n 1, 1) := by decide +kernel
theorem dX8_comes_52 : decode cX8_comes 52 = .ok (.iload_n 2, 1) := by decide +kernel
theorem dX8_comes_53 : decode cX8_comes 53 = .ok (.invokevirtual 94, 3) := by decide +kernel
theorem dX8_comes_56 : decode cX8_comes 56 = .ok (.return_, 1) := by decide +kernel
theorem dX8_add_0 : decode cX8_add 0 = .ok (.iload_n 1, 1) := by decide +kernel
theorem dX8_add_1 : decode cX8_add 1 = .ok (.invokestatic 97, 3) := by decide +kernel
theorem dX8_add_4 : decode cX8_add 4 = .ok (.ifCond .eq 24, 3) := by decide +kernel
theorem dX8_add_7 : decode cX8_add 7 = .ok (.iload_n 2, 1) := by decide +kernel
theorem dX8_add_8 : decode cX8_add 8 = .ok (.iconst 0, 1) := by decide +kernel
theorem dX8_add_9 : decode cX8_add 9 = .ok (.sipush 9999, 3) := by decide +kernel
theorem dX8_add_12 : decode cX8_add 12 = .ok (.invokestatic 45, 3) := by decide +kernel
theorem dX8_add_15 : decode cX8_add 15 = .ok (.ifCond .eq 13, 3) := by decide +kernel
theorem dX8_add_18 : decode cX8_add 18 = .ok (.iload_n 3, 1) := by decide +kernel
theorem dX8_add_19 : decode cX8_add 19 = .ok (.iconst 1, 1) := by decide +kernel
theorem dX8_add_20 : decode cX8_add 20 = .ok (.bipush 20, 2) := by decide +kernel
theorem dX8_add_22 : decode cX8_add 22 = .ok (.invokestatic 45, 3) := by decide +kernel
theorem dX8_add_25 : decode cX8_add 25 = .ok (.ifCond .ne 6, 3) := by decide +kernel
theorem dX8_add_28 : decode cX8_add 28 = .ok (.ldc 101, 2) := by decide +kernel
theorem dX8_add_30 : decode cX8_add 30 = .ok (.ireturn, 1) := by decide +kernel
theorem dX8_add_31 : decode cX8_add 31 = .ok (.aload_n 0, 1) := by decide +kernel
theorem dX8_add_32 : decode cX8_add 32 = .ok (.iload_n 1, 1) := by decide +kernel
theorem dX8_add_33 : decode cX8_add 33 = .ok (.invokevirtual 102, 3) := by decide +kernel
theorem dX8_add_36 : decode cX8_add 36 = .ok (.iload_n 3, 1) := by decide +kernel
theorem dX8_add_37 : decode cX8_add 37 = .ok (.iadd, 1) := by decide +kernel
theorem dX8_add_38 : decode cX8_add 38 = .ok (.sipush 200, 3) := by decide +kernel
theorem dX8_add_41 : decode cX8_add 41 = .ok (.if_icmp .le 6, 3) := by decide +kernel
theorem dX8_add_44 : decode cX8_add 44 = .ok (.ldc 106, 2) := by decide +kernel
theorem dX8_add_46 : decode cX8_add 46 = .ok (.ireturn, 1) := by decide +kernel
theorem dX8_add_47 : decode cX8_add 47 = .ok (.aload_n 0, 1) := by decide +kernel
theorem dX8_add_48 : decode cX8_add 48 = .ok (.invokevirtual 107, 3) := by decide +kernel
theorem dX8_add_51 : decode cX8_add 51 = .ok (.iconst 0, 1) := by decide +kernel
theorem dX8_add_52 : decode cX8_add 52 = .ok (.istore 4, 2) := by decide +kernel
theorem dX8_add_54 : decode cX8_add 54 = .ok (.iload 4, 2) := by decide +kernel
theorem dX8_add_56 : decode cX8_add 56 = .ok (.iload_n 3, 1) := by decide +kernel
theorem dX8_add_57 : decode cX8_add 57 = .ok (.if_icmp .ge 15, 3) := by decide +kernel
theorem dX8_add_60 : decode cX8_add 60 = .ok (.aload_n 0, 1) := by decide +kernel
theorem dX8_add_61 : decode cX8_add 61 = .ok (.iload_n 1, 1) := by decide +kernel
theorem dX8_add_62 : decode cX8_add 62 = .ok (.iload_n 2, 1) := by decide +kernel
theorem dX8_add_63 : decode cX8_add 63 = .ok (.invokevirtual 110, 3) := by decide +kernel
theorem dX8_add_66 : decode cX8_add 66 = .ok (.iinc 4 1, 3) := by decide +kernel
theorem dX8_add_69 : decode cX8_add 69 = .ok (.goto (-15), 3) := by decide +kernel
theorem dX8_add_72 : decode cX8_add 72 = .ok (.aload_n 0, 1) := by decide +kernel
theorem dX8_add_73 : decode cX8_add 73 = .ok (.iload_n 1, 1) := by decide +kernel
theorem dX8_add_74 : decode cX8_add 74 = .ok (.invokevirtual 102, 3) := by decide +kernel
theorem dX8_add_77 : decode cX8_add 77 = .ok (.ireturn, 1) := by decide +kernel
theorem dX8_pack_0 : decode cX8_pack 0 = .ok (.iload_n 1, 1) := by decide +kernel
theorem dX8_pack_1 : decode cX8_pack 1 = .ok (.invokestatic 97, 3) := by decide +kernel
theorem dX8_pack_4 : decode cX8_pack 4 = .ok (.ifCond .ne 6, 3) := by decide +kernel
theorem dX8_pack_7 : decode cX8_pack 7 = .ok (.ldc 101, 2) := by decide +kernel
theorem dX8_pack_9 : decode cX8_pack 9 = .ok (.ireturn, 1) := by decide +kernel
theorem dX8_pack_10 : decode cX8_pack 10 = .ok (.aload_n 0, 1) := by decide +kernel
theorem dX8_pack_11 : decode cX8_pack 11 = .ok (.invokevirtual 107, 3) := by decide +kernel
theorem dX8_pack_14 : decode cX8_pack 14 = .ok (.aload_n 0, 1) := by decide +kernel
theorem dX8_pack_15 : decode cX8_pack 15 = .ok (.iload_n 1, 1) := by decide +kernel
theorem dX8_pack_16 : decode cX8_pack 16 = .ok (.invokevirtual 91, 3) := by decide +kernel
theorem dX8_pack_19 : decode cX8_pack 19 = .ok (.aload_n 0, 1) := by decide +kernel
theorem dX8_pack_20 : decode cX8_pack 20 = .ok (.getfield 53, 3) := by decide +kernel
theorem dX8_pack_23 : decode cX8_pack 23 = .ok (.ireturn, 1) := by decide +kernel
theorem dX8_join_0 : decode cX8_join 0 = .ok (.iload_n 1, 1) := by decide +kernel
theorem dX8_join_1 : decode cX8_join 1 = .ok (.invokestatic 97, 3) := by decide +kernel
theorem dX8_join_4 : decode cX8_join 4 = .ok (.ifCond .eq 15, 3) := by decide +kernel
theorem dX8_join_7 : decode cX8_join 7 = .ok (.iload_n 2, 1) := by decide +kernel
theorem dX8_join_8 : decode cX8_join 8 = .ok (.invokestatic 97, 3) := by decide +kernel
theorem dX8_join_11 : decode cX8_join 11 = .ok (.ifCond .eq 8, 3) := by decide +kernel
theorem dX8_join_14 : decode cX8_join 14 = .ok (.iload_n 1, 1) := by decide +kernel
theorem dX8_join_15 : decode cX8_join 15 = .ok (.iload_n 2, 1) := by decide +kernel
theorem dX8_join_16 : decode cX8_join 16 = .ok (.if_icmp .ne 6, 3) := by decide +kernel
theorem dX8_join_19 : decode cX8_join 19 = .ok (.ldc 101, 2) := by decide +kernel
theorem dX8_join_21 : decode cX8_join 21 = .ok (.ireturn, 1) := by decide +kernel
theorem dX8_join_22 : decode cX8_join 22 = .ok (.aload_n 0, 1) := by decide +kernel
theorem dX8_join_23 : decode cX8_join 23 = .ok (.iload_n 1, 1) := by decide +kernel
theorem dX8_join_24 : decode cX8_join 24 = .ok (.invokevirtual 102, 3) := by decide +kernel
theorem dX8_join_27 : decode cX8_join 27 = .ok (.aload_n 0, 1) := by decide +kernel
theorem dX8_join_28 : decode cX8_join 28 = .ok (.iload_n 2, 1) := by decide +kernel
theorem dX8_join_29 : decode cX8_join 29 = .ok (.invokevirtual 102, 3) := by decide +kernel
theorem dX8_join_32 : decode cX8_join 32 = .ok (.iadd, 1) := by decide +kernel
theorem dX8_join_33 : decode cX8_join 33 = .ok (.sipush 200, 3) := by decide +kernel
theorem dX8_join_36 : decode cX8_join 36 = .ok (.if_icmp .le 6, 3) := by decide +kernel
theorem dX8_join_39 : decode cX8_join 39 = .ok (.ldc 106, 2) := by decide +kernel
theorem dX8_join_41 : decode cX8_join 41 = .ok (.ireturn, 1) := by decide +kernel
theorem dX8_join_42 : decode cX8_join 42 = .ok (.aload_n 0, 1) := by decide +kernel
theorem dX8_join_43 : decode cX8_join 43 = .ok (.invokevirtual 107, 3) := by decide +kernel
theorem dX8_join_46 : decode cX8_join 46 = .ok (.aload_n 0, 1) := by decide +kernel
theorem dX8_join_47 : decode cX8_join 47 = .ok (.iload_n 1, 1) := by decide +kernel
theorem dX8_join_48 : decode cX8_join 48 = .ok (.invokevirtual 91, 3) := by decide +kernel
theorem dX8_join_51 : decode cX8_join 51 = .ok (.aload_n 0, 1) := by decide +kernel
theorem dX8_join_52 : decode cX8_join 52 = .ok (.iload_n 2, 1) := by decide +kernel
theorem dX8_join_53 : decode cX8_join 53 = .ok (.invokevirtual 91, 3) := by decide +kernel
theorem dX8_join_56 : decode cX8_join 56 = .ok (.aload_n 0, 1) := by decide +kernel
theorem dX8_join_57 : decode cX8_join 57 = .ok (.iconst 0, 1) := by decide +kernel
theorem dX8_join_58 : decode cX8_join 58 = .ok (.putfield 53, 3) := by decide +kernel
theorem dX8_join_61 : decode cX8_join 61 = .ok (.aload_n 0, 1) := by decide +kernel
theorem dX8_join_62 : decode cX8_join 62 = .ok (.iload_n 2, 1) := by decide +kernel
theorem dX8_join_63 : decode cX8_join 63 = .ok (.invokevirtual 68, 3) := by decide +kernel
theorem dX8_join_66 : decode cX8_join 66 = .ok (.aload_n 0, 1) := by decide +kernel
theorem dX8_join_67 : decode cX8_join 67 = .ok (.iload_n 1, 1) := by decide +kernel
theorem dX8_join_68 : decode cX8_join 68 = .ok (.invokevirtual 68, 3) := by decide +kernel
theorem dX8_join_71 : decode cX8_join 71 = .ok (.aload_n 0, 1) := by decide +kernel
theorem dX8_join_72 : decode cX8_join 72 = .ok (.invokevirtual 75, 3) := by decide +kernel
theorem dX8_join_75 : decode cX8_join 75 = .ok (.aload_n 0, 1) := by decide +kernel
theorem dX8_join_76 : decode cX8_join 76 = .ok (.aload_n 0, 1) := by decide +kernel
theorem dX8_join_77 : decode cX8_join 77 = .ok (.getfield 7, 3) := by decide +kernel
theorem dX8_join_80 : decode cX8_join 80 = .ok (.iconst 0, 1) := by decide +kernel
theorem dX8_join_81 : decode cX8_join 81 = .ok (.iaload, 1) := by decide +kernel
theorem dX8_join_82 : decode cX8_join 82 = .ok (.invokevirtual 78, 3) := by decide +kernel
theorem dX8_join_85 : decode cX8_join 85 = .ok (.aload_n 0, 1) := by decide +kernel
theorem dX8_join_86 : decode cX8_join 86 = .ok (.iload_n 2, 1) := by decide +kernel
theorem dX8_join_87 : decode cX8_join 87 = .ok (.invokevirtual 88, 3) := by decide +kernel
theorem dX8_join_90 : decode cX8_join 90 = .ok (.iconst 0, 1) := by decide +kernel
theorem dX8_join_91 : decode cX8_join 91 = .ok (.istore_n 3, 1) := by decide +kernel
theorem dX8_join_92 : decode cX8_join 92 = .ok (.iload_n 3, 1) := by decide +kernel
theorem dX8_join_93 : decode cX8_join 93 = .ok (.aload_n 0, 1) := by decide +kernel
theorem dX8_join_94 : decode cX8_join 94 = .ok (.iload_n 1, 1) := by decide +kernel
theorem dX8_join_95 : decode cX8_join 95 = .ok (.iconst 2, 1) := by decide +kernel
theorem dX8_join_96 : decode cX8_join 96 = .ok (.invokevirtual 49, 3) := by decide +kernel
theorem dX8_join_99 : decode cX8_join 99 = .ok (.if_icmp .ge 24, 3) := by decide +kernel
theorem dX8_join_102 : decode cX8_join 102 = .ok (.aload_n 0, 1) := by decide +kernel
theorem dX8_join_103 : decode cX8_join 103 = .ok (.iload_n 2, 1) := by decide +kernel
theorem dX8_join_104 : decode cX8_join 104 = .ok (.aload_n 0, 1) := by decide +kernel
theorem dX8_join_105 : decode cX8_join 105 = .ok (.iload_n 1, 1) := by decide +kernel
theorem dX8_join_106 : decode cX8_join 106 = .ok (.sipush 824, 3) := by decide +kernel
theorem dX8_join_109 : decode cX8_join 109 = .ok (.iload_n 3, 1) := by decide +kernel
theorem dX8_join_110 : decode cX8_join 110 = .ok (.iadd, 1) := by decide +kernel
theorem dX8_join_111 : decode cX8_join 111 = .ok (.invokevirtual 49, 3) := by decide +kernel
theorem dX8_join_114 : decode cX8_join 114 = .ok (.invokevirtual 94, 3) := by decide +kernel
theorem dX8_join_117 : decode cX8_join 117 = .ok (.iinc 3 1, 3) := by decide +kernel
theorem dX8_join_120 : decode cX8_join 120 = .ok (.goto (-28), 3) := by decide +kernel
theorem dX8_join_123 : decode cX8_join 123 = .ok (.aload_n 0, 1) := by decide +kernel
theorem dX8_join_124 : decode cX8_join 124 = .ok (.iload_n 2, 1) := by decide +kernel
theorem dX8_join_125 : decode cX8_join 125 = .ok (.invokevirtual 102, 3) := by decide +kernel
theorem dX8_join_128 : decode cX8_join 128 = .ok (.ireturn, 1) := by decide +kernel
theorem dX8_clear_0 : decode cX8_clear 0 = .ok (.iload_n 1, 1) := by decide +kernel
theorem dX8_clear_1 : decode cX8_clear 1 = .ok (.invokestatic 97, 3) := by decide +kernel
theorem dX8_clear_4 : decode cX8_clear 4 = .ok (.ifCond .ne 6, 3) := by decide +kernel
theorem dX8_clear_7 : decode cX8_clear 7 = .ok (.ldc 101, 2) := by decide +kernel
theorem dX8_clear_9 : decode cX8_clear 9 = .ok (.ireturn, 1) := by decide +kernel
theorem dX8_clear_10 : decode cX8_clear 10 = .ok (.aload_n 0, 1) := by decide +kernel
theorem dX8_clear_11 : decode cX8_clear 11 = .ok (.invokevirtual 107, 3) := by decide +kernel
theorem dX8_clear_14 : decode cX8_clear 14 = .ok (.aload_n 0, 1) := by decide +kernel
theorem dX8_clear_15 : decode cX8_clear 15 = .ok (.iload_n 1, 1) := by decide +kernel
theorem dX8_clear_16 : decode cX8_clear 16 = .ok (.invokevirtual 102, 3) := by decide +kernel
theorem dX8_clear_19 : decode cX8_clear 19 = .ok (.istore_n 2, 1) := by decide +kernel
theorem dX8_clear_20 : decode cX8_clear 20 = .ok (.aload_n 0, 1) := by decide +kernel
theorem dX8_clear_21 : decode cX8_clear 21 = .ok (.iload_n 1, 1) := by decide +kernel
theorem dX8_clear_22 : decode cX8_clear 22 = .ok (.iconst 0, 1) := by decide +kernel
theorem dX8_clear_23 : decode cX8_clear 23 = .ok (.iconst 0, 1) := by decide +kernel
theorem dX8_clear_24 : decode cX8_clear 24 = .ok (.invokevirtual 81, 3) := by decide +kernel
theorem dX8_clear_27 : decode cX8_clear 27 = .ok (.aload_n 0, 1) := by decide +kernel
theorem dX8_clear_28 : decode cX8_clear 28 = .ok (.iload_n 1, 1) := by decide +kernel
theorem dX8_clear_29 : decode cX8_clear 29 = .ok (.iconst 1, 1) := by decide +kernel
theorem dX8_clear_30 : decode cX8_clear 30 = .ok (.iconst 0, 1) := by decide +kernel
theorem dX8_clear_31 : decode cX8_clear 31 = .ok (.invokevirtual 81, 3) := by decide +kernel
theorem dX8_clear_34 : decode cX8_clear 34 = .ok (.aload_n 0, 1) := by decide +kernel
theorem dX8_clear_35 : decode cX8_clear 35 = .ok (.iload_n 1, 1) := by decide +kernel
theorem dX8_clear_36 : decode cX8_clear 36 = .ok (.iconst 2, 1) := by decide +kernel
theorem dX8_clear_37 : decode cX8_clear 37 = .ok (.iconst 0, 1) := by decide +kernel
theorem dX8_clear_38 : decode cX8_clear 38 = .ok (.invokevirtual 81, 3) := by decide +kernel
theorem dX8_clear_41 : decode cX8_clear 41 = .ok (.iload_n 2, 1) := by decide +kernel
theorem dX8_clear_42 : decode cX8_clear 42 = .ok (.ireturn, 1) := by decide +kernel
theorem dX8_set_0 : decode cX8_set 0 = .ok (.iload_n 1, 1) := by decide +kernel
theorem dX8_set_1 : decode cX8_set 1 = .ok (.iconst 0, 1) := by decide +kernel
theorem dX8_set_2 : decode cX8_set 2 = .ok (.iconst 1, 1) := by decide +kernel
theorem dX8_set_3 : decode cX8_set 3 = .ok (.invokestatic 45, 3) := by decide +kernel
theorem dX8_set_6 : decode cX8_set 6 = .ok (.ifCond .eq 22, 3) := by decide +kernel
theorem dX8_set_9 : decode cX8_set 9 = .ok (.iload_n 2, 1) := by decide +kernel
theorem dX8_set_10 : decode cX8_set 10 = .ok (.iconst 1, 1) := by decide +kernel
theorem dX8_set_11 : decode cX8_set 11 = .ok (.iload_n 1, 1) := by decide +kernel
theorem dX8_set_12 : decode cX8_set 12 = .ok (.ifCond .ne 8, 3) := by decide +kernel
theorem dX8_set_15 : decode cX8_set 15 = .ok (.bipush 60, 2) := by decide +kernel
theorem dX8_set_17 : decode cX8_set 17 = .ok (.goto 5, 3) := by decide +kernel
theorem dX8_set_20 : decode cX8_set 20 = .ok (.bipush 20, 2) := by decide +kernel
theorem dX8_set_22 : decode cX8_set 22 = .ok (.invokestatic 45, 3) := by decide +kernel
theorem dX8_set_25 : decode cX8_set 25 = .ok (.ifCond .ne 6, 3) := by decide +kernel
theorem dX8_set_28 : decode cX8_set 28 = .ok (.ldc 101, 2) := by decide +kernel
theorem dX8_set_30 : decode cX8_set 30 = .ok (.ireturn, 1) := by decide +kernel
theorem dX8_set_31 : decode cX8_set 31 = .ok (.aload_n 0, 1) := by decide +kernel
theorem dX8_set_32 : decode cX8_set 32 = .ok (.invokevirtual 107, 3) := by decide +kernel
theorem dX8_set_35 : decode cX8_set 35 = .ok (.aload_n 0, 1) := by decide +kernel
theorem dX8_set_36 : decode cX8_set 36 = .ok (.getfield 7, 3) := by decide +kernel
theorem dX8_set_39 : decode cX8_set 39 = .ok (.iload_n 1, 1) := by decide +kernel
theorem dX8_set_40 : decode cX8_set 40 = .ok (.iaload, 1) := by decide +kernel
theorem dX8_set_41 : decode cX8_set 41 = .ok (.istore_n 3, 1) := by decide +kernel
theorem dX8_set_42 : decode cX8_set 42 = .ok (.aload_n 0, 1) := by decide +kernel
theorem dX8_set_43 : decode cX8_set 43 = .ok (.getfield 7, 3) := by decide +kernel
theorem dX8_set_46 : decode cX8_set 46 = .ok (.iload_n 1, 1) := by decide +kernel
theorem dX8_set_47 : decode cX8_set 47 = .ok (.iload_n 2, 1) := by decide +kernel
theorem dX8_set_48 : decode cX8_set 48 = .ok (.iastore, 1) := by decide +kernel
theorem dX8_set_49 : decode cX8_set 49 = .ok (.iload_n 3, 1) := by decide +kernel
theorem dX8_set_50 : decode cX8_set 50 = .ok (.ireturn, 1) := by decide +kernel
theorem dX8_floatBits_0 : decode cX8_floatBits 0 = .ok (.iload_n 0, 1) := by decide +kernel
theorem dX8_floatBits_1 : decode cX8_floatBits 1 = .ok (.ifCond .ne 5, 3) := by decide +kernel
theorem dX8_floatBits_4 : decode cX8_floatBits 4 = .ok (.iconst 0, 1) := by decide +kernel
theorem dX8_floatBits_5 : decode cX8_floatBits 5 = .ok (.ireturn, 1) := by decide +kernel
theorem dX8_floatBits_6 : decode cX8_floatBits 6 = .ok (.iload_n 0, 1) := by decide +kernel
theorem dX8_floatBits_7 : decode cX8_floatBits 7 = .ok (.i2l, 1) := by decide +kernel
theorem dX8_floatBits_8 : decode cX8_floatBits 8 = .ok (.lstore_n 2, 1) := by decide +kernel
theorem dX8_floatBits_9 : decode cX8_floatBits 9 = .ok (.iload_n 1, 1) := by decide +kernel
theorem dX8_floatBits_10 : decode cX8_floatBits 10 = .ok (.i2l, 1) := by decide +kernel
theorem dX8_floatBits_11 : decode cX8_floatBits 11 = .ok (.lstore 4, 2) := by decide +kernel
theorem dX8_floatBits_13 : decode cX8_floatBits 13 = .ok (.bipush 127, 2) := by decide +kernel
theorem dX8_floatBits_15 : decode cX8_floatBits 15 = .ok (.istore 6, 2) := by decide +kernel
theorem dX8_floatBits_17 : decode cX8_floatBits 17 = .ok (.lload_n 2, 1) := by decide +kernel
theorem dX8_floatBits_18 : decode cX8_floatBits 18 = .ok (.ldc2_w 113, 3) := by decide +kernel
theorem dX8_floatBits_21 : decode cX8_floatBits 21 = .ok (.lload 4, 2) := by decide +kernel
theorem dX8_floatBits_23 : decode cX8_floatBits 23 = .ok (.lmul, 1) := by decide +kernel
theorem dX8_floatBits_24 : decode cX8_floatBits 24 = .ok (.lcmp, 1) := by decide +kernel
theorem dX8_floatBits_25 : decode cX8_floatBits 25 = .ok (.ifCond .lt 17, 3) := by decide +kernel
theorem dX8_floatBits_28 : decode cX8_floatBits 28 = .ok (.lload 4, 2) := by decide +kernel
theorem dX8_floatBits_30 : decode cX8_floatBits 30 = .ok (.ldc2_w 113, 3) := by decide +kernel
theorem dX8_floatBits_33 : decode cX8_floatBits 33 = .ok (.lmul, 1) := by decide +kernel
theorem dX8_floatBits_34 : decode cX8_floatBits 34 = .ok (.lstore 4, 2) := by decide +kernel
theorem dX8_floatBits_36 : decode cX8_floatBits 36 = .ok (.iinc 6 1, 3) := by decide +kernel
theorem dX8_floatBits_39 : decode cX8_floatBits 39 = .ok (.goto (-22), 3) := by decide +kernel
theorem dX8_floatBits_42 : decode cX8_floatBits 42 = .ok (.lload_n 2, 1) := by decide +kernel
theorem dX8_floatBits_43 : decode cX8_floatBits 43 = .ok (.lload 4, 2) := by decide +kernel
theorem dX8_floatBits_45 : decode cX8_floatBits 45 = .ok (.lcmp, 1) := by decide +kernel
theorem dX8_floatBits_46 : decode cX8_floatBits 46 = .ok (.ifCond .ge 15, 3) := by decide +kernel
theorem dX8_floatBits_49 : decode cX8_floatBits 49 = .ok (.lload_n 2, 1) := by decide +kernel
theorem dX8_floatBits_50 : decode cX8_floatBits 50 = .ok (.ldc2_w 113, 3) := by decide +kernel
theorem dX8_floatBits_53 : decode cX8_floatBits 53 = .ok (.lmul, 1) := by decide +kernel
theorem dX8_floatBits_54 : decode cX8_floatBits 54 = .ok (.lstore_n 2, 1) := by decide +kernel
theorem dX8_floatBits_55 : decode cX8_floatBits 55 = .ok (.iinc 6 (-1), 3) := by decide +kernel
theorem dX8_floatBits_58 : decode cX8_floatBits 58 = .ok (.goto (-16), 3) := by decide +kernel
theorem dX8_floatBits_61 : decode cX8_floatBits 61 = .ok (.iconst 0, 1) := by decide +kernel
theorem dX8_floatBits_62 : decode cX8_floatBits 62 = .ok (.istore 7, 2) := by decide +kernel
theorem dX8_floatBits_64 : decode cX8_floatBits 64 = .ok (.iconst 0, 1) := by decide +kernel
theorem dX8_floatBits_65 : decode cX8_floatBits 65 = .ok (.istore 8, 2) := by decide +kernel
theorem dX8_floatBits_67 : decode cX8_floatBits 67 = .ok (.iload 8, 2) := by decide +kernel
theorem dX8_floatBits_69 : decode cX8_floatBits 69 = .ok (.bipush 24, 2) := by decide +kernel
theorem dX8_floatBits_71 : decode cX8_floatBits 71 = .ok (.if_icmp .ge 48, 3) := by decide +kernel
theorem dX8_floatBits_74 : decode cX8_floatBits 74 = .ok (.iconst 2, 1) := by decide +kernel
theorem dX8_floatBits_75 : decode cX8_floatBits 75 = .ok (.iload 7, 2) := by decide +kernel
theorem dX8_floatBits_77 : decode cX8_floatBits 77 = .ok (.imul, 1) := by decide +kernel
theorem dX8_floatBits_78 : decode cX8_floatBits 78 = .ok (.lload_n 2, 1) := by decide +kernel
theorem dX8_floatBits_79 : decode cX8_floatBits 79 = .ok (.lload 4, 2) := by decide +kernel
theorem dX8_floatBits_81 : decode cX8_floatBits 81 = .ok (.lcmp, 1) := by decide +kernel
theorem dX8_floatBits_82 : decode cX8_floatBits 82 = .ok (.ifCond .lt 7, 3) := by decide +kernel
theorem dX8_floatBits_85 : decode cX8_floatBits 85 = .ok (.iconst 1, 1) := by decide +kernel
theorem dX8_floatBits_86 : decode cX8_floatBits 86 = .ok (.goto 4, 3) := by decide +kernel
theorem dX8_floatBits_89 : decode cX8_floatBits 89 = .ok (.iconst 0, 1) := by decide +kernel
theorem dX8_floatBits_90 : decode cX8_floatBits 90 = .ok (.iadd, 1) := by decide +kernel
theorem dX8_floatBits_91 : decode cX8_floatBits 91 = .ok (.istore 7, 2) := by decide +kernel
theorem dX8_floatBits_93 : decode cX8_floatBits 93 = .ok (.ldc2_w 113, 3) := by decide +kernel
theorem dX8_floatBits_96 : decode cX8_floatBits 96 = .ok (.lload_n 2, 1) := by decide +kernel
theorem dX8_floatBits_97 : decode cX8_floatBits 97 = .ok (.lload 4, 2) := by decide +kernel
theorem dX8_floatBits_99 : decode cX8_floatBits 99 = .ok (.lcmp, 1) := by decide +kernel
theorem dX8_floatBits_100 : decode cX8_floatBits 100 = .ok (.ifCond .lt 10, 3) := by decide +kernel
theorem dX8_floatBits_103 : decode cX8_floatBits 103 = .ok (.lload_n 2, 1) := by decide +kernel
theorem dX8_floatBits_104 : decode cX8_floatBits 104 = .ok (.lload 4, 2) := by decide +kernel
theorem dX8_floatBits_106 : decode cX8_floatBits 106 = .ok (.lsub, 1) := by decide +kernel
theorem dX8_floatBits_107 : decode cX8_floatBits 107 = .ok (.goto 4, 3) := by decide +kernel
theorem dX8_floatBits_110 : decode cX8_floatBits 110 = .ok (.lload_n 2, 1) := by decide +kernel
theorem dX8_floatBits_111 : decode cX8_floatBits 111 = .ok (.lmul, 1) := by decide +kernel
theorem dX8_floatBits_112 : decode cX8_floatBits 112 = .ok (.lstore_n 2, 1) := by decide +kernel
theorem dX8_floatBits_113 : decode cX8_floatBits 113 = .ok (.iinc 8 1, 3) := by decide +kernel
theorem dX8_floatBits_116 : decode cX8_floatBits 116 = .ok (.goto (-49), 3) := by decide +kernel
theorem dX8_floatBits_119 : decode cX8_floatBits 119 = .ok (.iload 7, 2) := by decide +kernel
theorem dX8_floatBits_121 : decode cX8_floatBits 121 = .ok (.lload_n 2, 1) := by decide +kernel
theorem dX8_floatBits_122 : decode cX8_floatBits 122 = .ok (.lload 4, 2) := by decide +kernel
theorem dX8_floatBits_124 : decode cX8_floatBits 124 = .ok (.lcmp, 1) := by decide +kernel
theorem dX8_floatBits_125 : decode cX8_floatBits 125 = .ok (.ifCond .gt 18, 3) := by decide +kernel
theorem dX8_floatBits_128 : decode cX8_floatBits 128 = .ok (.lload_n 2, 1) := by decide +kernel
theorem dX8_floatBits_129 : decode cX8_floatBits 129 = .ok (.lload 4, 2) := by decide +kernel
theorem dX8_floatBits_131 : decode cX8_floatBits 131 = .ok (.lcmp, 1) := by decide +kernel
theorem dX8_floatBits_132 : decode cX8_floatBits 132 = .ok (.ifCond .ne 15, 3) := by decide +kernel
theorem dX8_floatBits_135 : decode cX8_floatBits 135 = .ok (.iload 7, 2) := by decide +kernel
theorem dX8_floatBits_137 : decode cX8_floatBits 137 = .ok (.iconst 2, 1) := by decide +kernel
theorem dX8_floatBits_138 : decode cX8_floatBits 138 = .ok (.irem, 1) := by decide +kernel
theorem dX8_floatBits_139 : decode cX8_floatBits 139 = .ok (.iconst 1, 1) := by decide +kernel
theorem dX8_floatBits_140 : decode cX8_floatBits 140 = .ok (.if_icmp .ne 7, 3) := by decide +kernel
theorem dX8_floatBits_143 : decode cX8_floatBits 143 = .ok (.iconst 1, 1) := by decide +kernel
theorem dX8_floatBits_144 : decode cX8_floatBits 144 = .ok (.goto 4, 3) := by decide +kernel
theorem dX8_floatBits_147 : decode cX8_floatBits 147 = .ok (.iconst 0, 1) := by decide +kernel
theorem dX8_floatBits_148 : decode cX8_floatBits 148 = .ok (.iadd, 1) := by decide +kernel
theorem dX8_floatBits_149 : decode cX8_floatBits 149 = .ok (.istore 7, 2) := by decide +kernel
theorem dX8_floatBits_151 : decode cX8_floatBits 151 = .ok (.iload 6, 2) := by decide +kernel
theorem dX8_floatBits_153 : decode cX8_floatBits 153 = .ok (.bipush 23, 2) := by decide +kernel
theorem dX8_floatBits_155 : decode cX8_floatBits 155 = .ok (.ishl, 1) := by decide +kernel
theorem dX8_floatBits_156 : decode cX8_floatBits 156 = .ok (.iload 7, 2) := by decide +kernel
theorem dX8_floatBits_158 : decode cX8_floatBits 158 = .ok (.ldc 115, 2) := by decide +kernel
theorem dX8_floatBits_160 : decode cX8_floatBits 160 = .ok (.isub, 1) := by decide +kernel
theorem dX8_floatBits_161 : decode cX8_floatBits 161 = .ok (.iadd, 1) := by decide +kernel
theorem dX8_floatBits_162 : decode cX8_floatBits 162 = .ok (.ireturn, 1) := by decide +kernel
theorem dX8_aheadOf_0 : decode cX8_aheadOf 0 = .ok (.iconst 0, 1) := by decide +kernel
theorem dX8_aheadOf_1 : decode cX8_aheadOf 1 = .ok (.istore_n 3, 1) := by decide +kernel
theorem dX8_aheadOf_2 : decode cX8_aheadOf 2 = .ok (.iconst 0, 1) := by decide +kernel
theorem dX8_aheadOf_3 : decode cX8_aheadOf 3 = .ok (.istore 4, 2) := by decide +kernel
theorem dX8_aheadOf_5 : decode cX8_aheadOf 5 = .ok (.iload 4, 2) := by decide +kernel
theorem dX8_aheadOf_7 : decode cX8_aheadOf 7 = .ok (.iload_n 2, 1) := by decide +kernel
theorem dX8_aheadOf_8 : decode cX8_aheadOf 8 = .ok (.if_icmp .ge 20, 3) := by decide +kernel
theorem dX8_aheadOf_11 : decode cX8_aheadOf 11 = .ok (.iload_n 3, 1) := by decide +kernel
theorem dX8_aheadOf_12 : decode cX8_aheadOf 12 = .ok (.aload_n 0, 1) := by decide +kernel
theorem dX8_aheadOf_13 : decode cX8_aheadOf 13 = .ok (.iload_n 1, 1) := by decide +kernel
theorem dX8_aheadOf_14 : decode cX8_aheadOf 14 = .ok (.iload 4, 2) := by decide +kernel
theorem dX8_aheadOf_16 : decode cX8_aheadOf 16 = .ok (.iconst 0, 1) := by decide +kernel
theorem dX8_aheadOf_17 : decode cX8_aheadOf 17 = .ok (.invokevirtual 56, 3) := by decide +kernel
theorem dX8_aheadOf_20 : decode cX8_aheadOf 20 = .ok (.iadd, 1) := by decide +kernel
theorem dX8_aheadOf_21 : decode cX8_aheadOf 21 = .ok (.istore_n 3, 1) := by decide +kernel
theorem dX8_aheadOf_22 : decode cX8_aheadOf 22 = .ok (.iinc 4 1, 3) := by decide +kernel
theorem dX8_aheadOf_25 : decode cX8_aheadOf 25 = .ok (.goto (-20), 3) := by decide +kernel
theorem dX8_aheadOf_28 : decode cX8_aheadOf 28 = .ok (.iload_n 3, 1) := by decide +kernel
theorem dX8_aheadOf_29 : decode cX8_aheadOf 29 = .ok (.ireturn, 1) := by decide +kernel
theorem dX8_heapOf_0 : decode cX8_heapOf 0 = .ok (.iload_n 1, 1) := by decide +kernel
theorem dX8_heapOf_1 : decode cX8_heapOf 1 = .ok (.invokestatic 97, 3) := by decide +kernel
theorem dX8_heapOf_4 : decode cX8_heapOf 4 = .ok (.ifCond .eq 17, 3) := by decide +kernel
theorem dX8_heapOf_7 : decode cX8_heapOf 7 = .ok (.iload_n 2, 1) := by decide +kernel
theorem dX8_heapOf_8 : decode cX8_heapOf 8 = .ok (.ifCond .lt 13, 3) := by decide +kernel
theorem dX8_heapOf_11 : decode cX8_heapOf 11 = .ok (.iload_n 3, 1) := by decide +kernel
theorem dX8_heapOf_12 : decode cX8_heapOf 12 = .ok (.iconst 0, 1) := by decide +kernel
theorem dX8_heapOf_13 : decode cX8_heapOf 13 = .ok (.bipush 6, 2) := by decide +kernel
theorem dX8_heapOf_15 : decode cX8_heapOf 15 = .ok (.invokestatic 45, 3) := by decide +kernel
theorem dX8_heapOf_18 : decode cX8_heapOf 18 = .ok (.ifCond .ne 6, 3) := by decide +kernel
theorem dX8_heapOf_21 : decode cX8_heapOf 21 = .ok (.ldc 101, 2) := by decide +kernel
theorem dX8_heapOf_23 : decode cX8_heapOf 23 = .ok (.ireturn, 1) := by decide +kernel
theorem dX8_heapOf_24 : decode cX8_heapOf 24 = .ok (.iload_n 2, 1) := by decide +kernel
theorem dX8_heapOf_25 : decode cX8_heapOf 25 = .ok (.aload_n 0, 1) := by decide +kernel
theorem dX8_heapOf_26 : decode cX8_heapOf 26 = .ok (.iload_n 1, 1) := by decide +kernel
theorem dX8_heapOf_27 : decode cX8_heapOf 27 = .ok (.iconst 0, 1) := by decide +kernel
theorem dX8_heapOf_28 : decode cX8_heapOf 28 = .ok (.invokevirtual 49, 3) := by decide +kernel
theorem dX8_heapOf_31 : decode cX8_heapOf 31 = .ok (.if_icmp .lt 6, 3) := by decide +kernel
theorem dX8_heapOf_34 : decode cX8_heapOf 34 = .ok (.ldc 116, 2) := by decide +kernel
theorem dX8_heapOf_36 : decode cX8_heapOf 36 = .ok (.ireturn, 1) := by decide +kernel
theorem dX8_heapOf_37 : decode cX8_heapOf 37 = .ok (.aload_n 0, 1) := by decide +kernel
theorem dX8_heapOf_38 : decode cX8_heapOf 38 = .ok (.iload_n 1, 1) := by decide +kernel
theorem dX8_heapOf_39 : decode cX8_heapOf 39 = .ok (.iload_n 2, 1) := by decide +kernel
theorem dX8_heapOf_40 : decode cX8_heapOf 40 = .ok (.iconst 0, 1) := by decide +kernel
theorem dX8_heapOf_41 : decode cX8_heapOf 41 = .ok (.invokevirtual 56, 3) := by decide +kernel
theorem dX8_heapOf_44 : decode cX8_heapOf 44 = .ok (.istore 4, 2) := by decide +kernel
theorem dX8_heapOf_46 : decode cX8_heapOf 46 = .ok (.aload_n 0, 1) := by decide +kernel
theorem dX8_heapOf_47 : decode cX8_heapOf 47 = .ok (.iload_n 1, 1) := by decide +kernel
theorem dX8_heapOf_48 : decode cX8_heapOf 48 = .ok (.iload_n 2, 1) := by decide +kernel
theorem dX8_heapOf_49 : decode cX8_heapOf 49 = .ok (.iconst 1, 1) := by decide +kernel
theorem dX8_heapOf_50 : decode cX8_heapOf 50 = .ok (.invokevirtual 56, 3) := by decide +kernel
theorem dX8_heapOf_53 : decode cX8_heapOf 53 = .ok (.istore 5, 2) := by decide +kernel
theorem dX8_heapOf_55 : decode cX8_heapOf 55 = .ok (.iload_n 3, 1) := by decide +kernel
theorem dX8_heapOf_56 : decode cX8_heapOf 56 = .ok (.iconst 4, 1) := by decide +kernel
theorem dX8_heapOf_57 : decode cX8_heapOf 57 = .ok (.if_icmp .ge 13, 3) := by decide +kernel
theorem dX8_heapOf_60 : decode cX8_heapOf 60 = .ok (.aload_n 0, 1) := by decide +kernel
theorem dX8_heapOf_61 : decode cX8_heapOf 61 = .ok (.iload_n 1, 1) := by decide +kernel
theorem dX8_heapOf_62 : decode cX8_heapOf 62 = .ok (.iload_n 2, 1) := by decide +kernel
theorem dX8_heapOf_63 : decode cX8_heapOf 63 = .ok (.iload_n 3, 1) := by decide +kernel
theorem dX8_heapOf_64 : decode cX8_heapOf 64 = .ok (.invokevirtual 56, 3) := by decide +kernel
theorem dX8_heapOf_67 : decode cX8_heapOf 67 = .ok (.goto 37, 3) := by decide +kernel
theorem dX8_heapOf_70 : decode cX8_heapOf 70 = .ok (.iload_n 3, 1) := by decide +kernel
theorem dX8_heapOf_71 : decode cX8_heapOf 71 = .ok (.iconst 4, 1) := by decide +kernel
theorem dX8_heapOf_72 : decode cX8_heapOf 72 = .ok (.if_icmp .ne 11, 3) := by decide +kernel
theorem dX8_heapOf_75 : decode cX8_heapOf 75 = .ok (.iload 5, 2) := by decide +kernel
theorem dX8_heapOf_77 : decode cX8_heapOf 77 = .ok (.iload 4, 2) := by decide +kernel
theorem dX8_heapOf_79 : decode cX8_heapOf 79 = .ok (.idiv, 1) := by decide +kernel
theorem dX8_heapOf_80 : decode cX8_heapOf 80 = .ok (.goto 24, 3) := by decide +kernel
theorem dX8_heapOf_83 : decode cX8_heapOf 83 = .ok (.iload_n 3, 1) := by decide +kernel
theorem dX8_heapOf_84 : decode cX8_heapOf 84 = .ok (.iconst 5, 1) := by decide +kernel
theorem dX8_heapOf_85 : decode cX8_heapOf 85 = .ok (.if_icmp .ne 12, 3) := by decide +kernel
theorem dX8_heapOf_88 : decode cX8_heapOf 88 = .ok (.aload_n 0, 1) := by decide +kernel
theorem dX8_heapOf_89 : decode cX8_heapOf 89 = .ok (.iload_n 1, 1) := by decide +kernel
theorem dX8_heapOf_90 : decode cX8_heapOf 90 = .ok (.iload_n 2, 1) := by decide +kernel
theorem dX8_heapOf_91 : decode cX8_heapOf 91 = .ok (.invokevirtual 117, 3) := by decide +kernel
theorem dX8_heapOf_94 : decode cX8_heapOf 94 = .ok (.goto 10, 3) := by decide +kernel
theorem dX8_heapOf_97 : decode cX8_heapOf 97 = .ok (.iload 5, 2) := by decide +kernel
theorem dX8_heapOf_99 : decode cX8_heapOf 99 = .ok (.iload 4, 2) := by decide +kernel
theorem dX8_heapOf_101 : decode cX8_heapOf 101 = .ok (.invokestatic 120, 3) := by decide +kernel
theorem dX8_heapOf_104 : decode cX8_heapOf 104 = .ok (.ireturn, 1) := by decide +kernel
theorem dX8_bufferOf_0 : decode cX8_bufferOf 0 = .ok (.iload_n 1, 1) := by decide +kernel
theorem dX8_bufferOf_1 : decode cX8_bufferOf 1 = .ok (.invokestatic 97, 3) := by decide +kernel
theorem dX8_bufferOf_4 : decode cX8_bufferOf 4 = .ok (.ifCond .eq 7, 3) := by decide +kernel
theorem dX8_bufferOf_7 : decode cX8_bufferOf 7 = .ok (.iload_n 2, 1) := by decide +kernel
theorem dX8_bufferOf_8 : decode cX8_bufferOf 8 = .ok (.ifCond .ge 6, 3) := by decide +kernel
theorem dX8_bufferOf_11 : decode cX8_bufferOf 11 = .ok (.ldc 101, 2) := by decide +kernel
theorem dX8_bufferOf_13 : decode cX8_bufferOf 13 = .ok (.ireturn, 1) := by decide +kernel
theorem dX8_bufferOf_14 : decode cX8_bufferOf 14 = .ok (.iload_n 2, 1) := by decide +kernel
theorem dX8_bufferOf_15 : decode cX8_bufferOf 15 = .ok (.aload_n 0, 1) := by decide +kernel
theorem dX8_bufferOf_16 : decode cX8_bufferOf 16 = .ok (.iload_n 1, 1) := by decide +kernel
theorem dX8_bufferOf_17 : decode cX8_bufferOf 17 = .ok (.iconst 1, 1) := by decide +kernel
theorem dX8_bufferOf_18 : decode cX8_bufferOf 18 = .ok (.invokevirtual 49, 3) := by decide +kernel
theorem dX8_bufferOf_21 : decode cX8_bufferOf 21 = .ok (.if_icmp .ge 16, 3) := by decide +kernel
theorem dX8_bufferOf_24 : decode cX8_bufferOf 24 = .ok (.aload_n 0, 1) := by decide +kernel
theorem dX8_bufferOf_25 : decode cX8_bufferOf 25 = .ok (.iload_n 1, 1) := by decide +kernel
theorem dX8_bufferOf_26 : decode cX8_bufferOf 26 = .ok (.sipush 804, 3) := by decide +kernel
theorem dX8_bufferOf_29 : decode cX8_bufferOf 29 = .ok (.iload_n 2, 1) := by decide +kernel
theorem dX8_bufferOf_30 : decode cX8_bufferOf 30 = .ok (.iadd, 1) := by decide +kernel
theorem dX8_bufferOf_31 : decode cX8_bufferOf 31 = .ok (.invokevirtual 49, 3) := by decide +kernel
theorem dX8_bufferOf_34 : decode cX8_bufferOf 34 = .ok (.goto 5, 3) := by decide +kernel
theorem dX8_bufferOf_37 : decode cX8_bufferOf 37 = .ok (.ldc 116, 2) := by decide +kernel
theorem dX8_bufferOf_39 : decode cX8_bufferOf 39 = .ok (.ireturn, 1) := by decide +kernel
theorem dX8_putValuesInOrder_0 : decode cX8_putValuesInOrder 0 = .ok (.iconst 0, 1) := by decide +kernel
theorem dX8_putValuesInOrder_1 : decode cX8_putValuesInOrder 1 = .ok (.istore_n 2, 1) := by decide +kernel
theorem dX8_putValuesInOrder_2 : decode cX8_putValuesInOrder 2 = .ok (.iload_n 2, 1) := by decide +kernel
theorem dX8_putValuesInOrder_3 : decode cX8_putValuesInOrder 3 = .ok (.aload_n 0, 1) := by decide +kernel
theorem dX8_putValuesInOrder_4 : decode cX8_putValuesInOrder 4 = .ok (.iload_n 1, 1) := by decide +kernel
theorem dX8_putValuesInOrder_5 : decode cX8_putValuesInOrder 5 = .ok (.iconst 2, 1) := by decide +kernel
theorem dX8_putValuesInOrder_6 : decode cX8_putValuesInOrder 6 = .ok (.invokevirtual 49, 3) := by decide +kernel
theorem dX8_putValuesInOrder_9 : decode cX8_putValuesInOrder 9 = .ok (.if_icmp .ge 71, 3) := by decide +kernel
theorem dX8_putValuesInOrder_12 : decode cX8_putValuesInOrder 12 = .ok (.aload_n 0, 1) := by decide +kernel
theorem dX8_putValuesInOrder_13 : decode cX8_putValuesInOrder 13 = .ok (.iload_n 1, 1) := by decide +kernel
theorem dX8_putValuesInOrder_14 : decode cX8_putValuesInOrder 14 = .ok (.sipush 824, 3) := by decide +kernel
theorem dX8_putValuesInOrder_17 : decode cX8_putValuesInOrder 17 = .ok (.iload_n 2, 1) := by decide +kernel
theorem dX8_putValuesInOrder_18 : decode cX8_putValuesInOrder 18 = .ok (.iadd, 1) := by decide +kernel
theorem dX8_putValuesInOrder_19 : decode cX8_putValuesInOrder 19 = .ok (.invokevirtual 49, 3) := by decide +kernel
theorem dX8_putValuesInOrder_22 : decode cX8_putValuesInOrder 22 = .ok (.istore_n 3, 1) := by decide +kernel
theorem dX8_putValuesInOrder_23 : decode cX8_putValuesInOrder 23 = .ok (.iload_n 2, 1) := by decide +kernel
theorem dX8_putValuesInOrder_24 : decode cX8_putValuesInOrder 24 = .ok (.istore 4, 2) := by decide +kernel
theorem dX8_putValuesInOrder_26 : decode cX8_putValuesInOrder 26 = .ok (.iload 4, 2) := by decide +kernel
theorem dX8_putValuesInOrder_28 : decode cX8_putValuesInOrder 28 = .ok (.ifCond .le 38, 3) := by decide +kernel
theorem dX8_putValuesInOrder_31 : decode cX8_putValuesInOrder 31 = .ok (.aload_n 0, 1) := by decide +kernel
theorem dX8_putValuesInOrder_32 : decode cX8_putValuesInOrder 32 = .ok (.getfield 31, 3) := by decide +kernel
theorem dX8_putValuesInOrder_35 : decode cX8_putValuesInOrder 35 = .ok (.iload 4, 2) := by decide +kernel
theorem dX8_putValuesInOrder_37 : decode cX8_putValuesInOrder 37 = .ok (.iconst 1, 1) := by decide +kernel
theorem dX8_putValuesInOrder_38 : decode cX8_putValuesInOrder 38 = .ok (.isub, 1) := by decide +kernel
theorem dX8_putValuesInOrder_39 : decode cX8_putValuesInOrder 39 = .ok (.iaload, 1) := by decide +kernel
theorem dX8_putValuesInOrder_40 : decode cX8_putValuesInOrder 40 = .ok (.iload_n 3, 1) := by decide +kernel
theorem dX8_putValuesInOrder_41 : decode cX8_putValuesInOrder 41 = .ok (.if_icmp .le 25, 3) := by decide +kernel
theorem dX8_putValuesInOrder_44 : decode cX8_putValuesInOrder 44 = .ok (.aload_n 0, 1) := by decide +kernel
theorem dX8_putValuesInOrder_45 : decode cX8_putValuesInOrder 45 = .ok (.getfield 31, 3) := by decide +kernel
theorem dX8_putValuesInOrder_48 : decode cX8_putValuesInOrder 48 = .ok (.iload 4, 2) := by decide +kernel
theorem dX8_putValuesInOrder_50 : decode cX8_putValuesInOrder 50 = .ok (.aload_n 0, 1) := by decide +kernel
theorem dX8_putValuesInOrder_51 : decode cX8_putValuesInOrder 51 = .ok (.getfield 31, 3) := by decide +kernel
theorem dX8_putValuesInOrder_54 : decode cX8_putValuesInOrder 54 = .ok (.iload 4, 2) := by decide +kernel
theorem dX8_putValuesInOrder_56 : decode cX8_putValuesInOrder 56 = .ok (.iconst 1, 1) := by decide +kernel
theorem dX8_putValuesInOrder_57 : decode cX8_putValuesInOrder 57 = .ok (.isub, 1) := by decide +kernel
theorem dX8_putValuesInOrder_58 : decode cX8_putValuesInOrder 58 = .ok (.iaload, 1) := by decide +kernel
theorem dX8_putValuesInOrder_59 : decode cX8_putValuesInOrder 59 = .ok (.iastore, 1) := by decide +kernel
theorem dX8_putValuesInOrder_60 : decode cX8_putValuesInOrder 60 = .ok (.iinc 4 (-1), 3) := by decide +kernel
theorem dX8_putValuesInOrder_63 : decode cX8_putValuesInOrder 63 = .ok (.goto (-37), 3) := by decide +kernel
theorem dX8_putValuesInOrder_66 : decode cX8_putValuesInOrder 66 = .ok (.aload_n 0, 1) := by decide +kernel
theorem dX8_putValuesInOrder_67 : decode cX8_putValuesInOrder 67 = .ok (.getfield 31, 3) := by decide +kernel
theorem dX8_putValuesInOrder_70 : decode cX8_putValuesInOrder 70 = .ok (.iload 4, 2) := by decide +kernel
theorem dX8_putValuesInOrder_72 : decode cX8_putValuesInOrder 72 = .ok (.iload_n 3, 1) := by decide +kernel
theorem dX8_putValuesInOrder_73 : decode cX8_putValuesInOrder 73 = .ok (.iastore, 1) := by decide +kernel
theorem dX8_putValuesInOrder_74 : decode cX8_putValuesInOrder 74 = .ok (.iinc 2 1, 3) := by decide +kernel
theorem dX8_putValuesInOrder_77 : decode cX8_putValuesInOrder 77 = .ok (.goto (-75), 3) := by decide +kernel
theorem dX8_putValuesInOrder_80 : decode cX8_putValuesInOrder 80 = .ok (.return_, 1) := by decide +kernel
theorem dX8_sumOf_0 : decode cX8_sumOf 0 = .ok (.iconst 0, 1) := by decide +kernel
theorem dX8_sumOf_1 : decode cX8_sumOf 1 = .ok (.istore_n 2, 1) := by decide +kernel
theorem dX8_sumOf_2 : decode cX8_sumOf 2 = .ok (.iconst 0, 1) := by decide +kernel
theorem dX8_sumOf_3 : decode cX8_sumOf 3 = .ok (.istore_n 3, 1) := by decide +kernel
theorem dX8_sumOf_4 : decode cX8_sumOf 4 = .ok (.iload_n 3, 1) := by decide +kernel
theorem dX8_sumOf_5 : decode cX8_sumOf 5 = .ok (.aload_n 0, 1) := by decide +kernel
theorem dX8_sumOf_6 : decode cX8_sumOf 6 = .ok (.iload_n 1, 1) := by decide +kernel
theorem dX8_sumOf_7 : decode cX8_sumOf 7 = .ok (.iconst 2, 1) := by decide +kernel
theorem dX8_sumOf_8 : decode cX8_sumOf 8 = .ok (.invokevirtual 49, 3) := by decide +kernel
theorem dX8_sumOf_11 : decode cX8_sumOf 11 = .ok (.if_icmp .ge 22, 3) := by decide +kernel
theorem dX8_sumOf_14 : decode cX8_sumOf 14 = .ok (.iload_n 2, 1) := by decide +kernel
theorem dX8_sumOf_15 : decode cX8_sumOf 15 = .ok (.aload_n 0, 1) := by decide +kernel
theorem dX8_sumOf_16 : decode cX8_sumOf 16 = .ok (.iload_n 1, 1) := by decide +kernel
theorem dX8_sumOf_17 : decode cX8_sumOf 17 = .ok (.sipush 824, 3) := by decide +kernel
theorem dX8_sumOf_20 : decode cX8_sumOf 20 = .ok (.iload_n 3, 1) := by decide +kernel
theorem dX8_sumOf_21 : decode cX8_sumOf 21 = .ok (.iadd, 1) := by decide +kernel
theorem dX8_sumOf_22 : decode cX8_sumOf 22 = .ok (.invokevirtual 49, 3) := by decide +kernel
theorem dX8_sumOf_25 : decode cX8_sumOf 25 = .ok (.iadd, 1) := by decide +kernel
theorem dX8_sumOf_26 : decode cX8_sumOf 26 = .ok (.istore_n 2, 1) := by decide +kernel
theorem dX8_sumOf_27 : decode cX8_sumOf 27 = .ok (.iinc 3 1, 3) := by decide +kernel
theorem dX8_sumOf_30 : decode cX8_sumOf 30 = .ok (.goto (-26), 3) := by decide +kernel
theorem dX8_sumOf_33 : decode cX8_sumOf 33 = .ok (.iload_n 2, 1) := by decide +kernel
theorem dX8_sumOf_34 : decode cX8_sumOf 34 = .ok (.ireturn, 1) := by decide +kernel
theorem dX8_greatestWeight_0 : decode cX8_greatestWeight 0 = .ok (.ldc 116, 2) := by decide +kernel
theorem dX8_greatestWeight_2 : decode cX8_greatestWeight 2 = .ok (.istore_n 2, 1) := by decide +kernel
theorem dX8_greatestWeight_3 : decode cX8_greatestWeight 3 = .ok (.iconst 0, 1) := by decide +kernel
theorem dX8_greatestWeight_4 : decode cX8_greatestWeight 4 = .ok (.istore_n 3, 1) := by decide +kernel
theorem dX8_greatestWeight_5 : decode cX8_greatestWeight 5 = .ok (.iload_n 3, 1) := by decide +kernel
theorem dX8_greatestWeight_6 : decode cX8_greatestWeight 6 = .ok (.aload_n 0, 1) := by decide +kernel
theorem dX8_greatestWeight_7 : decode cX8_greatestWeight 7 = .ok (.iload_n 1, 1) := by decide +kernel
theorem dX8_greatestWeight_8 : decode cX8_greatestWeight 8 = .ok (.iconst 0, 1) := by decide +kernel
theorem dX8_greatestWeight_9 : decode cX8_greatestWeight 9 = .ok (.invokevirtual 49, 3) := by decide +kernel
theorem dX8_greatestWeight_12 : decode cX8_greatestWeight 12 = .ok (.if_icmp .ge 32, 3) := by decide +kernel
theorem dX8_greatestWeight_15 : decode cX8_greatestWeight 15 = .ok (.aload_n 0, 1) := by decide +kernel
theorem dX8_greatestWeight_16 : decode cX8_greatestWeight 16 = .ok (.iload_n 1, 1) := by decide +kernel
theorem dX8_greatestWeight_17 : decode cX8_greatestWeight 17 = .ok (.iload_n 3, 1) := by decide +kernel
theorem dX8_greatestWeight_18 : decode cX8_greatestWeight 18 = .ok (.iconst 0, 1) := by decide +kernel
theorem dX8_greatestWeight_19 : decode cX8_greatestWeight 19 = .ok (.invokevirtual 56, 3) := by decide +kernel
theorem dX8_greatestWeight_22 : decode cX8_greatestWeight 22 = .ok (.iload_n 2, 1) := by decide +kernel
theorem dX8_greatestWeight_23 : decode cX8_greatestWeight 23 = .ok (.if_icmp .le 13, 3) := by decide +kernel
theorem dX8_greatestWeight_26 : decode cX8_greatestWeight 26 = .ok (.aload_n 0, 1) := by decide +kernel
theorem dX8_greatestWeight_27 : decode cX8_greatestWeight 27 = .ok (.iload_n 1, 1) := by decide +kernel
theorem dX8_greatestWeight_28 : decode cX8_greatestWeight 28 = .ok (.iload_n 3, 1) := by decide +kernel
theorem dX8_greatestWeight_29 : decode cX8_greatestWeight 29 = .ok (.iconst 0, 1) := by decide +kernel
theorem dX8_greatestWeight_30 : decode cX8_greatestWeight 30 = .ok (.invokevirtual 56, 3) := by decide +kernel
theorem dX8_greatestWeight_33 : decode cX8_greatestWeight 33 = .ok (.goto 4, 3) := by decide +kernel
theorem dX8_greatestWeight_36 : decode cX8_greatestWeight 36 = .ok (.iload_n 2, 1) := by decide +kernel
theorem dX8_greatestWeight_37 : decode cX8_greatestWeight 37 = .ok (.istore_n 2, 1) := by decide +kernel
theorem dX8_greatestWeight_38 : decode cX8_greatestWeight 38 = .ok (.iinc 3 1, 3) := by decide +kernel
theorem dX8_greatestWeight_41 : decode cX8_greatestWeight 41 = .ok (.goto (-36), 3) := by decide +kernel
theorem dX8_greatestWeight_44 : decode cX8_greatestWeight 44 = .ok (.iload_n 2, 1) := by decide +kernel
theorem dX8_greatestWeight_45 : decode cX8_greatestWeight 45 = .ok (.ireturn, 1) := by decide +kernel
theorem dX8_digestOf_0 : decode cX8_digestOf 0 = .ok (.iload_n 1, 1) := by decide +kernel
theorem dX8_digestOf_1 : decode cX8_digestOf 1 = .ok (.invokestatic 97, 3) := by decide +kernel
theorem dX8_digestOf_4 : decode cX8_digestOf 4 = .ok (.ifCond .eq 13, 3) := by decide +kernel
theorem dX8_digestOf_7 : decode cX8_digestOf 7 = .ok (.iload_n 2, 1) := by decide +kernel
theorem dX8_digestOf_8 : decode cX8_digestOf 8 = .ok (.iconst 0, 1) := by decide +kernel
theorem dX8_digestOf_9 : decode cX8_digestOf 9 = .ok (.bipush 8, 2) := by decide +kernel
theorem dX8_digestOf_11 : decode cX8_digestOf 11 = .ok (.invokestatic 45, 3) := by decide +kernel
theorem dX8_digestOf_14 : decode cX8_digestOf 14 = .ok (.ifCond .ne 6, 3) := by decide +kernel
theorem dX8_digestOf_17 : decode cX8_digestOf 17 = .ok (.ldc 101, 2) := by decide +kernel
theorem dX8_digestOf_19 : decode cX8_digestOf 19 = .ok (.ireturn, 1) := by decide +kernel
theorem dX8_digestOf_20 : decode cX8_digestOf 20 = .ok (.aload_n 0, 1) := by decide +kernel
theorem dX8_digestOf_21 : decode cX8_digestOf 21 = .ok (.iload_n 1, 1) := by decide +kernel
theorem dX8_digestOf_22 : decode cX8_digestOf 22 = .ok (.invokevirtual 102, 3) := by decide +kernel
theorem dX8_digestOf_25 : decode cX8_digestOf 25 = .ok (.istore_n 3, 1) := by decide +kernel
theorem dX8_digestOf_26 : decode cX8_digestOf 26 = .ok (.aload_n 0, 1) := by decide +kernel
theorem dX8_digestOf_27 : decode cX8_digestOf 27 = .ok (.iload_n 1, 1) := by decide +kernel
theorem dX8_digestOf_28 : decode cX8_digestOf 28 = .ok (.invokevirtual 123, 3) := by decide +kernel
theorem dX8_digestOf_31 : decode cX8_digestOf 31 = .ok (.iload_n 2, 1) := by decide +kernel
theorem dX8_digestOf_32 : decode cX8_digestOf 32 = .ok (.tableswitch 120 0 7 #[48, 50, 57, 64, 80, 98, 104, 114], 48) := by decide +kernel
theorem dX8_digestOf_80 : decode cX8_digestOf 80 = .ok (.iload_n 3, 1) := by decide +kernel
theorem dX8_digestOf_81 : decode cX8_digestOf 81 = .ok (.ireturn, 1) := by decide +kernel
theorem dX8_digestOf_82 : decode cX8_digestOf 82 = .ok (.aload_n 0, 1) := by decide +kernel
theorem dX8_digestOf_83 : decode cX8_digestOf 83 = .ok (.iload_n 1, 1) := by decide +kernel
theorem dX8_digestOf_84 : decode cX8_digestOf 84 = .ok (.iconst 0, 1) := by decide +kernel
theorem dX8_digestOf_85 : decode cX8_digestOf 85 = .ok (.invokevirtual 49, 3) := by decide +kernel
theorem dX8_digestOf_88 : decode cX8_digestOf 88 = .ok (.ireturn, 1) := by decide +kernel
theorem dX8_digestOf_89 : decode cX8_digestOf 89 = .ok (.aload_n 0, 1) := by decide +kernel
theorem dX8_digestOf_90 : decode cX8_digestOf 90 = .ok (.iload_n 1, 1) := by decide +kernel
theorem dX8_digestOf_91 : decode cX8_digestOf 91 = .ok (.iconst 1, 1) := by decide +kernel
theorem dX8_digestOf_92 : decode cX8_digestOf 92 = .ok (.invokevirtual 49, 3) := by decide +kernel
theorem dX8_digestOf_95 : decode cX8_digestOf 95 = .ok (.ireturn, 1) := by decide +kernel
theorem dX8_digestOf_96 : decode cX8_digestOf 96 = .ok (.iload_n 3, 1) := by decide +kernel
theorem dX8_digestOf_97 : decode cX8_digestOf 97 = .ok (.ifCond .ne 8, 3) := by decide +kernel
