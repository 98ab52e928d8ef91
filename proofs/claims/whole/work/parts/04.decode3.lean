theorem dX7_type_29 : decode cX7_type 29 = .ok (.aload_n 0, 1) := by decide +kernel
theorem dX7_type_30 : decode cX7_type 30 = .ok (.getfield 28, 3) := by decide +kernel
theorem dX7_type_33 : decode cX7_type 33 = .ok (.iload_n 1, 1) := by decide +kernel
theorem dX7_type_34 : decode cX7_type 34 = .ok (.invokevirtual 197, 3) := by decide +kernel
theorem dX7_type_37 : decode cX7_type 37 = .ok (.aload_n 0, 1) := by decide +kernel
theorem dX7_type_38 : decode cX7_type 38 = .ok (.getfield 28, 3) := by decide +kernel
theorem dX7_type_41 : decode cX7_type 41 = .ok (.invokevirtual 137, 3) := by decide +kernel
theorem dX7_type_44 : decode cX7_type 44 = .ok (.ireturn, 1) := by decide +kernel
theorem dX7_clearText_0 : decode cX7_clearText 0 = .ok (.aload_n 0, 1) := by decide +kernel
theorem dX7_clearText_1 : decode cX7_clearText 1 = .ok (.getfield 28, 3) := by decide +kernel
theorem dX7_clearText_4 : decode cX7_clearText 4 = .ok (.invokevirtual 137, 3) := by decide +kernel
theorem dX7_clearText_7 : decode cX7_clearText 7 = .ok (.istore_n 1, 1) := by decide +kernel
theorem dX7_clearText_8 : decode cX7_clearText 8 = .ok (.aload_n 0, 1) := by decide +kernel
theorem dX7_clearText_9 : decode cX7_clearText 9 = .ok (.getfield 28, 3) := by decide +kernel
theorem dX7_clearText_12 : decode cX7_clearText 12 = .ok (.invokevirtual 200, 3) := by decide +kernel
theorem dX7_clearText_15 : decode cX7_clearText 15 = .ok (.iload_n 1, 1) := by decide +kernel
theorem dX7_clearText_16 : decode cX7_clearText 16 = .ok (.ireturn, 1) := by decide +kernel
theorem dX7_fault_0 : decode cX7_fault 0 = .ok (.iload_n 1, 1) := by decide +kernel
theorem dX7_fault_1 : decode cX7_fault 1 = .ok (.iconst 0, 1) := by decide +kernel
theorem dX7_fault_2 : decode cX7_fault 2 = .ok (.iconst 2, 1) := by decide +kernel
theorem dX7_fault_3 : decode cX7_fault 3 = .ok (.invokestatic 57, 3) := by decide +kernel
theorem dX7_fault_6 : decode cX7_fault 6 = .ok (.ifCond .ne 6, 3) := by decide +kernel
theorem dX7_fault_9 : decode cX7_fault 9 = .ok (.ldc 61, 2) := by decide +kernel
theorem dX7_fault_11 : decode cX7_fault 11 = .ok (.ireturn, 1) := by decide +kernel
theorem dX7_fault_12 : decode cX7_fault 12 = .ok (.aload_n 0, 1) := by decide +kernel
theorem dX7_fault_13 : decode cX7_fault 13 = .ok (.getfield 42, 3) := by decide +kernel
theorem dX7_fault_16 : decode cX7_fault 16 = .ok (.aload_n 0, 1) := by decide +kernel
theorem dX7_fault_17 : decode cX7_fault 17 = .ok (.getfield 28, 3) := by decide +kernel
theorem dX7_fault_20 : decode cX7_fault 20 = .ok (.aload_n 0, 1) := by decide +kernel
theorem dX7_fault_21 : decode cX7_fault 21 = .ok (.getfield 12, 3) := by decide +kernel
theorem dX7_fault_24 : decode cX7_fault 24 = .ok (.aload_n 0, 1) := by decide +kernel
theorem dX7_fault_25 : decode cX7_fault 25 = .ok (.getfield 35, 3) := by decide +kernel
theorem dX7_fault_28 : decode cX7_fault 28 = .ok (.invokevirtual 201, 3) := by decide +kernel
theorem dX7_fault_31 : decode cX7_fault 31 = .ok (.aload_n 0, 1) := by decide +kernel
theorem dX7_fault_32 : decode cX7_fault 32 = .ok (.getfield 42, 3) := by decide +kernel
theorem dX7_fault_35 : decode cX7_fault 35 = .ok (.getfield 205, 3) := by decide +kernel
theorem dX7_fault_38 : decode cX7_fault 38 = .ok (.ifCond .ne 6, 3) := by decide +kernel
theorem dX7_fault_41 : decode cX7_fault 41 = .ok (.ldc 107, 2) := by decide +kernel
theorem dX7_fault_43 : decode cX7_fault 43 = .ok (.ireturn, 1) := by decide +kernel
theorem dX7_fault_44 : decode cX7_fault 44 = .ok (.iload_n 1, 1) := by decide +kernel
theorem dX7_fault_45 : decode cX7_fault 45 = .ok (.ifCond .ne 11, 3) := by decide +kernel
theorem dX7_fault_48 : decode cX7_fault 48 = .ok (.aload_n 0, 1) := by decide +kernel
theorem dX7_fault_49 : decode cX7_fault 49 = .ok (.getfield 42, 3) := by decide +kernel
theorem dX7_fault_52 : decode cX7_fault 52 = .ok (.getfield 208, 3) := by decide +kernel
theorem dX7_fault_55 : decode cX7_fault 55 = .ok (.ireturn, 1) := by decide +kernel
theorem dX7_fault_56 : decode cX7_fault 56 = .ok (.iload_n 1, 1) := by decide +kernel
theorem dX7_fault_57 : decode cX7_fault 57 = .ok (.iconst 1, 1) := by decide +kernel
theorem dX7_fault_58 : decode cX7_fault 58 = .ok (.if_icmp .ne 11, 3) := by decide +kernel
theorem dX7_fault_61 : decode cX7_fault 61 = .ok (.aload_n 0, 1) := by decide +kernel
theorem dX7_fault_62 : decode cX7_fault 62 = .ok (.getfield 42, 3) := by decide +kernel
theorem dX7_fault_65 : decode cX7_fault 65 = .ok (.getfield 205, 3) := by decide +kernel
theorem dX7_fault_68 : decode cX7_fault 68 = .ok (.ireturn, 1) := by decide +kernel
theorem dX7_fault_69 : decode cX7_fault 69 = .ok (.aload_n 0, 1) := by decide +kernel
theorem dX7_fault_70 : decode cX7_fault 70 = .ok (.getfield 42, 3) := by decide +kernel
theorem dX7_fault_73 : decode cX7_fault 73 = .ok (.getfield 205, 3) := by decide +kernel
theorem dX7_fault_76 : decode cX7_fault 76 = .ok (.iconst 1, 1) := by decide +kernel
theorem dX7_fault_77 : decode cX7_fault 77 = .ok (.if_icmp .ne 13, 3) := by decide +kernel
theorem dX7_fault_80 : decode cX7_fault 80 = .ok (.aload_n 0, 1) := by decide +kernel
theorem dX7_fault_81 : decode cX7_fault 81 = .ok (.getfield 42, 3) := by decide +kernel
theorem dX7_fault_84 : decode cX7_fault 84 = .ok (.getfield 211, 3) := by decide +kernel
theorem dX7_fault_87 : decode cX7_fault 87 = .ok (.goto 5, 3) := by decide +kernel
theorem dX7_fault_90 : decode cX7_fault 90 = .ok (.ldc 107, 2) := by decide +kernel
theorem dX7_fault_92 : decode cX7_fault 92 = .ok (.ireturn, 1) := by decide +kernel
theorem dX7_play_0 : decode cX7_play 0 = .ok (.aload_n 0, 1) := by decide +kernel
theorem dX7_play_1 : decode cX7_play 1 = .ok (.getfield 42, 3) := by decide +kernel
theorem dX7_play_4 : decode cX7_play 4 = .ok (.aload_n 0, 1) := by decide +kernel
theorem dX7_play_5 : decode cX7_play 5 = .ok (.getfield 28, 3) := by decide +kernel
theorem dX7_play_8 : decode cX7_play 8 = .ok (.aload_n 0, 1) := by decide +kernel
theorem dX7_play_9 : decode cX7_play 9 = .ok (.getfield 12, 3) := by decide +kernel
theorem dX7_play_12 : decode cX7_play 12 = .ok (.aload_n 0, 1) := by decide +kernel
theorem dX7_play_13 : decode cX7_play 13 = .ok (.getfield 35, 3) := by decide +kernel
theorem dX7_play_16 : decode cX7_play 16 = .ok (.invokevirtual 201, 3) := by decide +kernel
theorem dX7_play_19 : decode cX7_play 19 = .ok (.aload_n 0, 1) := by decide +kernel
theorem dX7_play_20 : decode cX7_play 20 = .ok (.getfield 42, 3) := by decide +kernel
theorem dX7_play_23 : decode cX7_play 23 = .ok (.getfield 205, 3) := by decide +kernel
theorem dX7_play_26 : decode cX7_play 26 = .ok (.ifCond .eq 6, 3) := by decide +kernel
theorem dX7_play_29 : decode cX7_play 29 = .ok (.ldc 158, 2) := by decide +kernel
theorem dX7_play_31 : decode cX7_play 31 = .ok (.ireturn, 1) := by decide +kernel
theorem dX7_play_32 : decode cX7_play 32 = .ok (.aload_n 0, 1) := by decide +kernel
theorem dX7_play_33 : decode cX7_play 33 = .ok (.getfield 19, 3) := by decide +kernel
theorem dX7_play_36 : decode cX7_play 36 = .ok (.aload_n 0, 1) := by decide +kernel
theorem dX7_play_37 : decode cX7_play 37 = .ok (.getfield 12, 3) := by decide +kernel
theorem dX7_play_40 : decode cX7_play 40 = .ok (.invokevirtual 69, 3) := by decide +kernel
theorem dX7_play_43 : decode cX7_play 43 = .ok (.iconst 0, 1) := by decide +kernel
theorem dX7_play_44 : decode cX7_play 44 = .ok (.istore_n 1, 1) := by decide +kernel
theorem dX7_play_45 : decode cX7_play 45 = .ok (.iconst 0, 1) := by decide +kernel
theorem dX7_play_46 : decode cX7_play 46 = .ok (.istore_n 2, 1) := by decide +kernel
theorem dX7_play_47 : decode cX7_play 47 = .ok (.iload_n 2, 1) := by decide +kernel
theorem dX7_play_48 : decode cX7_play 48 = .ok (.bipush 60, 2) := by decide +kernel
theorem dX7_play_50 : decode cX7_play 50 = .ok (.if_icmp .ge 107, 3) := by decide +kernel
theorem dX7_play_53 : decode cX7_play 53 = .ok (.iload_n 1, 1) := by decide +kernel
theorem dX7_play_54 : decode cX7_play 54 = .ok (.aload_n 0, 1) := by decide +kernel
theorem dX7_play_55 : decode cX7_play 55 = .ok (.getfield 28, 3) := by decide +kernel
theorem dX7_play_58 : decode cX7_play 58 = .ok (.invokevirtual 137, 3) := by decide +kernel
theorem dX7_play_61 : decode cX7_play 61 = .ok (.if_icmp .ge 96, 3) := by decide +kernel
theorem dX7_play_64 : decode cX7_play 64 = .ok (.aload_n 0, 1) := by decide +kernel
theorem dX7_play_65 : decode cX7_play 65 = .ok (.getfield 35, 3) := by decide +kernel
theorem dX7_play_68 : decode cX7_play 68 = .ok (.aload_n 0, 1) := by decide +kernel
theorem dX7_play_69 : decode cX7_play 69 = .ok (.getfield 28, 3) := by decide +kernel
theorem dX7_play_72 : decode cX7_play 72 = .ok (.iload_n 1, 1) := by decide +kernel
theorem dX7_play_73 : decode cX7_play 73 = .ok (.invokevirtual 214, 3) := by decide +kernel
theorem dX7_play_76 : decode cX7_play 76 = .ok (.pop, 1) := by decide +kernel
theorem dX7_play_77 : decode cX7_play 77 = .ok (.aload_n 0, 1) := by decide +kernel
theorem dX7_play_78 : decode cX7_play 78 = .ok (.getfield 12, 3) := by decide +kernel
theorem dX7_play_81 : decode cX7_play 81 = .ok (.aload_n 0, 1) := by decide +kernel
theorem dX7_play_82 : decode cX7_play 82 = .ok (.getfield 35, 3) := by decide +kernel
theorem dX7_play_85 : decode cX7_play 85 = .ok (.getfield 218, 3) := by decide +kernel
theorem dX7_play_88 : decode cX7_play 88 = .ok (.invokevirtual 53, 3) := by decide +kernel
theorem dX7_play_91 : decode cX7_play 91 = .ok (.astore_n 3, 1) := by decide +kernel
theorem dX7_play_92 : decode cX7_play 92 = .ok (.iconst 0, 1) := by decide +kernel
theorem dX7_play_93 : decode cX7_play 93 = .ok (.istore 4, 2) := by decide +kernel
theorem dX7_play_95 : decode cX7_play 95 = .ok (.aload_n 3, 1) := by decide +kernel
theorem dX7_play_96 : decode cX7_play 96 = .ok (.ifnull 47, 3) := by decide +kernel
theorem dX7_play_99 : decode cX7_play 99 = .ok (.iload 4, 2) := by decide +kernel
theorem dX7_play_101 : decode cX7_play 101 = .ok (.aload_n 0, 1) := by decide +kernel
theorem dX7_play_102 : decode cX7_play 102 = .ok (.getfield 35, 3) := by decide +kernel
theorem dX7_play_105 : decode cX7_play 105 = .ok (.getfield 221, 3) := by decide +kernel
theorem dX7_play_108 : decode cX7_play 108 = .ok (.invokevirtual 137, 3) := by decide +kernel
theorem dX7_play_111 : decode cX7_play 111 = .ok (.if_icmp .ge 32, 3) := by decide +kernel
theorem dX7_play_114 : decode cX7_play 114 = .ok (.aload_n 3, 1) := by decide +kernel
theorem dX7_play_115 : decode cX7_play 115 = .ok (.aload_n 0, 1) := by decide +kernel
theorem dX7_play_116 : decode cX7_play 116 = .ok (.getfield 35, 3) := by decide +kernel
theorem dX7_play_119 : decode cX7_play 119 = .ok (.getfield 221, 3) := by decide +kernel
theorem dX7_play_122 : decode cX7_play 122 = .ok (.iload 4, 2) := by decide +kernel
theorem dX7_play_124 : decode cX7_play 124 = .ok (.invokevirtual 80, 3) := by decide +kernel
theorem dX7_play_127 : decode cX7_play 127 = .ok (.aload_n 0, 1) := by decide +kernel
theorem dX7_play_128 : decode cX7_play 128 = .ok (.getfield 12, 3) := by decide +kernel
theorem dX7_play_131 : decode cX7_play 131 = .ok (.getfield 73, 3) := by decide +kernel
theorem dX7_play_134 : decode cX7_play 134 = .ok (.invokevirtual 76, 3) := by decide +kernel
theorem dX7_play_137 : decode cX7_play 137 = .ok (.iinc 4 1, 3) := by decide +kernel
theorem dX7_play_140 : decode cX7_play 140 = .ok (.goto (-45), 3) := by decide +kernel
theorem dX7_play_143 : decode cX7_play 143 = .ok (.aload_n 0, 1) := by decide +kernel
theorem dX7_play_144 : decode cX7_play 144 = .ok (.getfield 35, 3) := by decide +kernel
theorem dX7_play_147 : decode cX7_play 147 = .ok (.getfield 222, 3) := by decide +kernel
theorem dX7_play_150 : decode cX7_play 150 = .ok (.istore_n 1, 1) := by decide +kernel
theorem dX7_play_151 : decode cX7_play 151 = .ok (.iinc 2 1, 3) := by decide +kernel
theorem dX7_play_154 : decode cX7_play 154 = .ok (.goto (-107), 3) := by decide +kernel
theorem dX7_play_157 : decode cX7_play 157 = .ok (.aload_n 0, 1) := by decide +kernel
theorem dX7_play_158 : decode cX7_play 158 = .ok (.getfield 12, 3) := by decide +kernel
theorem dX7_play_161 : decode cX7_play 161 = .ok (.invokevirtual 189, 3) := by decide +kernel
theorem dX7_play_164 : decode cX7_play 164 = .ok (.ireturn, 1) := by decide +kernel
theorem dX7_packOnTrial_0 : decode cX7_packOnTrial 0 = .ok (.aload_n 0, 1) := by decide +kernel
theorem dX7_packOnTrial_1 : decode cX7_packOnTrial 1 = .ok (.getfield 49, 3) := by decide +kernel
theorem dX7_packOnTrial_4 : decode cX7_packOnTrial 4 = .ok (.aload_n 1, 1) := by decide +kernel
theorem dX7_packOnTrial_5 : decode cX7_packOnTrial 5 = .ok (.getfield 87, 3) := by decide +kernel
theorem dX7_packOnTrial_8 : decode cX7_packOnTrial 8 = .ok (.invokevirtual 225, 3) := by decide +kernel
theorem dX7_packOnTrial_11 : decode cX7_packOnTrial 11 = .ok (.aload_n 0, 1) := by decide +kernel
theorem dX7_packOnTrial_12 : decode cX7_packOnTrial 12 = .ok (.getfield 49, 3) := by decide +kernel
theorem dX7_packOnTrial_15 : decode cX7_packOnTrial 15 = .ok (.aload_n 1, 1) := by decide +kernel
theorem dX7_packOnTrial_16 : decode cX7_packOnTrial 16 = .ok (.getfield 134, 3) := by decide +kernel
theorem dX7_packOnTrial_19 : decode cX7_packOnTrial 19 = .ok (.invokevirtual 184, 3) := by decide +kernel
theorem dX7_packOnTrial_22 : decode cX7_packOnTrial 22 = .ok (.aload_n 0, 1) := by decide +kernel
theorem dX7_packOnTrial_23 : decode cX7_packOnTrial 23 = .ok (.getfield 49, 3) := by decide +kernel
theorem dX7_packOnTrial_26 : decode cX7_packOnTrial 26 = .ok (.aload_n 0, 1) := by decide +kernel
theorem dX7_packOnTrial_27 : decode cX7_packOnTrial 27 = .ok (.getfield 12, 3) := by decide +kernel
theorem dX7_packOnTrial_30 : decode cX7_packOnTrial 30 = .ok (.getfield 73, 3) := by decide +kernel
theorem dX7_packOnTrial_33 : decode cX7_packOnTrial 33 = .ok (.iconst 0, 1) := by decide +kernel
theorem dX7_packOnTrial_34 : decode cX7_packOnTrial 34 = .ok (.invokevirtual 80, 3) := by decide +kernel
theorem dX7_packOnTrial_37 : decode cX7_packOnTrial 37 = .ok (.invokevirtual 188, 3) := by decide +kernel
theorem dX7_packOnTrial_40 : decode cX7_packOnTrial 40 = .ok (.return_, 1) := by decide +kernel
theorem dX7_isWithin_0 : decode cX7_isWithin 0 = .ok (.iload_n 0, 1) := by decide +kernel
theorem dX7_isWithin_1 : decode cX7_isWithin 1 = .ok (.iload_n 1, 1) := by decide +kernel
theorem dX7_isWithin_2 : decode cX7_isWithin 2 = .ok (.if_icmp .lt 12, 3) := by decide +kernel
theorem dX7_isWithin_5 : decode cX7_isWithin 5 = .ok (.iload_n 0, 1) := by decide +kernel
theorem dX7_isWithin_6 : decode cX7_isWithin 6 = .ok (.iload_n 2, 1) := by decide +kernel
theorem dX7_isWithin_7 : decode cX7_isWithin 7 = .ok (.if_icmp .gt 7, 3) := by decide +kernel
theorem dX7_isWithin_10 : decode cX7_isWithin 10 = .ok (.iconst 1, 1) := by decide +kernel
theorem dX7_isWithin_11 : decode cX7_isWithin 11 = .ok (.goto 4, 3) := by decide +kernel
theorem dX7_isWithin_14 : decode cX7_isWithin 14 = .ok (.iconst 0, 1) := by decide +kernel
theorem dX7_isWithin_15 : decode cX7_isWithin 15 = .ok (.ireturn, 1) := by decide +kernel
theorem dX7_highestSetting_0 : decode cX7_highestSetting 0 = .ok (.iload_n 0, 1) := by decide +kernel
theorem dX7_highestSetting_1 : decode cX7_highestSetting 1 = .ok (.ifCond .ne 8, 3) := by decide +kernel
theorem dX7_highestSetting_4 : decode cX7_highestSetting 4 = .ok (.bipush 60, 2) := by decide +kernel
theorem dX7_highestSetting_6 : decode cX7_highestSetting 6 = .ok (.goto 5, 3) := by decide +kernel
theorem dX7_highestSetting_9 : decode cX7_highestSetting 9 = .ok (.bipush 20, 2) := by decide +kernel
theorem dX7_highestSetting_11 : decode cX7_highestSetting 11 = .ok (.ireturn, 1) := by decide +kernel
theorem dX7_trueIndex_0 : decode cX7_trueIndex 0 = .ok (.iload_n 0, 1) := by decide +kernel
theorem dX7_trueIndex_1 : decode cX7_trueIndex 1 = .ok (.iload_n 1, 1) := by decide +kernel
theorem dX7_trueIndex_2 : decode cX7_trueIndex 2 = .ok (.iconst 1, 1) := by decide +kernel
theorem dX7_trueIndex_3 : decode cX7_trueIndex 3 = .ok (.isub, 1) := by decide +kernel
theorem dX7_trueIndex_4 : decode cX7_trueIndex 4 = .ok (.imul, 1) := by decide +kernel
theorem dX7_trueIndex_5 : decode cX7_trueIndex 5 = .ok (.sipush 1000, 3) := by decide +kernel
theorem dX7_trueIndex_8 : decode cX7_trueIndex 8 = .ok (.idiv, 1) := by decide +kernel
theorem dX7_trueIndex_9 : decode cX7_trueIndex 9 = .ok (.ireturn, 1) := by decide +kernel
theorem dX7_floatBits_0 : decode cX7_floatBits 0 = .ok (.fload_n 0, 1) := by decide +kernel
theorem dX7_floatBits_1 : decode cX7_floatBits 1 = .ok (.fconst 0, 1) := by decide +kernel
theorem dX7_floatBits_2 : decode cX7_floatBits 2 = .ok (.fcmp .l, 1) := by decide +kernel
theorem dX7_floatBits_3 : decode cX7_floatBits 3 = .ok (.ifCond .gt 5, 3) := by decide +kernel
theorem dX7_floatBits_6 : decode cX7_floatBits 6 = .ok (.iconst 0, 1) := by decide +kernel
theorem dX7_floatBits_7 : decode cX7_floatBits 7 = .ok (.ireturn, 1) := by decide +kernel
theorem dX7_floatBits_8 : decode cX7_floatBits 8 = .ok (.fload_n 0, 1) := by decide +kernel
theorem dX7_floatBits_9 : decode cX7_floatBits 9 = .ok (.fstore_n 1, 1) := by decide +kernel
theorem dX7_floatBits_10 : decode cX7_floatBits 10 = .ok (.bipush 127, 2) := by decide +kernel
theorem dX7_floatBits_12 : decode cX7_floatBits 12 = .ok (.istore_n 2, 1) := by decide +kernel
theorem dX7_floatBits_13 : decode cX7_floatBits 13 = .ok (.fload_n 1, 1) := by decide +kernel
theorem dX7_floatBits_14 : decode cX7_floatBits 14 = .ok (.fconst 2, 1) := by decide +kernel
theorem dX7_floatBits_15 : decode cX7_floatBits 15 = .ok (.fcmp .l, 1) := by decide +kernel
theorem dX7_floatBits_16 : decode cX7_floatBits 16 = .ok (.ifCond .lt 21, 3) := by decide +kernel
theorem dX7_floatBits_19 : decode cX7_floatBits 19 = .ok (.iload_n 2, 1) := by decide +kernel
theorem dX7_floatBits_20 : decode cX7_floatBits 20 = .ok (.sipush 254, 3) := by decide +kernel
theorem dX7_floatBits_23 : decode cX7_floatBits 23 = .ok (.if_icmp .ge 14, 3) := by decide +kernel
theorem dX7_floatBits_26 : decode cX7_floatBits 26 = .ok (.fload_n 1, 1) := by decide +kernel
theorem dX7_floatBits_27 : decode cX7_floatBits 27 = .ok (.ldc 229, 2) := by decide +kernel
theorem dX7_floatBits_29 : decode cX7_floatBits 29 = .ok (.fmul, 1) := by decide +kernel
theorem dX7_floatBits_30 : decode cX7_floatBits 30 = .ok (.fstore_n 1, 1) := by decide +kernel
theorem dX7_floatBits_31 : decode cX7_floatBits 31 = .ok (.iinc 2 1, 3) := by decide +kernel
theorem dX7_floatBits_34 : decode cX7_floatBits 34 = .ok (.goto (-21), 3) := by decide +kernel
theorem dX7_floatBits_37 : decode cX7_floatBits 37 = .ok (.fload_n 1, 1) := by decide +kernel
theorem dX7_floatBits_38 : decode cX7_floatBits 38 = .ok (.fconst 1, 1) := by decide +kernel
theorem dX7_floatBits_39 : decode cX7_floatBits 39 = .ok (.fcmp .g, 1) := by decide +kernel
theorem dX7_floatBits_40 : decode cX7_floatBits 40 = .ok (.ifCond .ge 18, 3) := by decide +kernel
theorem dX7_floatBits_43 : decode cX7_floatBits 43 = .ok (.iload_n 2, 1) := by decide +kernel
theorem dX7_floatBits_44 : decode cX7_floatBits 44 = .ok (.iconst 1, 1) := by decide +kernel
theorem dX7_floatBits_45 : decode cX7_floatBits 45 = .ok (.if_icmp .le 13, 3) := by decide +kernel
theorem dX7_floatBits_48 : decode cX7_floatBits 48 = .ok (.fload_n 1, 1) := by decide +kernel
theorem dX7_floatBits_49 : decode cX7_floatBits 49 = .ok (.fconst 2, 1) := by decide +kernel
theorem dX7_floatBits_50 : decode cX7_floatBits 50 = .ok (.fmul, 1) := by decide +kernel
theorem dX7_floatBits_51 : decode cX7_floatBits 51 = .ok (.fstore_n 1, 1) := by decide +kernel
theorem dX7_floatBits_52 : decode cX7_floatBits 52 = .ok (.iinc 2 (-1), 3) := by decide +kernel
theorem dX7_floatBits_55 : decode cX7_floatBits 55 = .ok (.goto (-18), 3) := by decide +kernel
theorem dX7_floatBits_58 : decode cX7_floatBits 58 = .ok (.fload_n 1, 1) := by decide +kernel
theorem dX7_floatBits_59 : decode cX7_floatBits 59 = .ok (.ldc 230, 2) := by decide +kernel
theorem dX7_floatBits_61 : decode cX7_floatBits 61 = .ok (.fmul, 1) := by decide +kernel
theorem dX7_floatBits_62 : decode cX7_floatBits 62 = .ok (.f2i, 1) := by decide +kernel
theorem dX7_floatBits_63 : decode cX7_floatBits 63 = .ok (.ldc 231, 2) := by decide +kernel
theorem dX7_floatBits_65 : decode cX7_floatBits 65 = .ok (.isub, 1) := by decide +kernel
theorem dX7_floatBits_66 : decode cX7_floatBits 66 = .ok (.istore_n 3, 1) := by decide +kernel
theorem dX7_floatBits_67 : decode cX7_floatBits 67 = .ok (.iload_n 2, 1) := by decide +kernel
theorem dX7_floatBits_68 : decode cX7_floatBits 68 = .ok (.bipush 23, 2) := by decide +kernel
theorem dX7_floatBits_70 : decode cX7_floatBits 70 = .ok (.ishl, 1) := by decide +kernel
theorem dX7_floatBits_71 : decode cX7_floatBits 71 = .ok (.iload_n 3, 1) := by decide +kernel
theorem dX7_floatBits_72 : decode cX7_floatBits 72 = .ok (.ior, 1) := by decide +kernel
theorem dX7_floatBits_73 : decode cX7_floatBits 73 = .ok (.ireturn, 1) := by decide +kernel
theorem dX8_init_0 : decode cX8_init 0 = .ok (.aload_n 0, 1) := by decide +kernel
theorem dX8_init_1 : decode cX8_init 1 = .ok (.invokespecial 1, 3) := by decide +kernel
theorem dX8_init_4 : decode cX8_init 4 = .ok (.aload_n 0, 1) := by decide +kernel
theorem dX8_init_5 : decode cX8_init 5 = .ok (.sipush 3074, 3) := by decide +kernel
theorem dX8_init_8 : decode cX8_init 8 = .ok (.newarray .int, 2) := by decide +kernel
theorem dX8_init_10 : decode cX8_init 10 = .ok (.putfield 7, 3) := by decide +kernel
theorem dX8_init_13 : decode cX8_init 13 = .ok (.aload_n 0, 1) := by decide +kernel
theorem dX8_init_14 : decode cX8_init 14 = .ok (.sipush 12296, 3) := by decide +kernel
theorem dX8_init_17 : decode cX8_init 17 = .ok (.newarray .int, 2) := by decide +kernel
theorem dX8_init_19 : decode cX8_init 19 = .ok (.putfield 13, 3) := by decide +kernel
theorem dX8_init_22 : decode cX8_init 22 = .ok (.aload_n 0, 1) := by decide +kernel
theorem dX8_init_23 : decode cX8_init 23 = .ok (.bipush 60, 2) := by decide +kernel
theorem dX8_init_25 : decode cX8_init 25 = .ok (.newarray .int, 2) := by decide +kernel
theorem dX8_init_27 : decode cX8_init 27 = .ok (.putfield 16, 3) := by decide +kernel
theorem dX8_init_30 : decode cX8_init 30 = .ok (.aload_n 0, 1) := by decide +kernel
theorem dX8_init_31 : decode cX8_init 31 = .ok (.sipush 400, 3) := by decide +kernel
theorem dX8_init_34 : decode cX8_init 34 = .ok (.newarray .int, 2) := by decide +kernel
theorem dX8_init_36 : decode cX8_init 36 = .ok (.putfield 19, 3) := by decide +kernel
theorem dX8_init_39 : decode cX8_init 39 = .ok (.aload_n 0, 1) := by decide +kernel
theorem dX8_init_40 : decode cX8_init 40 = .ok (.sipush 400, 3) := by decide +kernel
theorem dX8_init_43 : decode cX8_init 43 = .ok (.newarray .int, 2) := by decide +kernel
theorem dX8_init_45 : decode cX8_init 45 = .ok (.putfield 22, 3) := by decide +kernel
theorem dX8_init_48 : decode cX8_init 48 = .ok (.aload_n 0, 1) := by decide +kernel
theorem dX8_init_49 : decode cX8_init 49 = .ok (.sipush 400, 3) := by decide +kernel
theorem dX8_init_52 : decode cX8_init 52 = .ok (.newarray .int, 2) := by decide +kernel
theorem dX8_init_54 : decode cX8_init 54 = .ok (.putfield 25, 3) := by decide +kernel
theorem dX8_init_57 : decode cX8_init 57 = .ok (.aload_n 0, 1) := by decide +kernel
theorem dX8_init_58 : decode cX8_init 58 = .ok (.sipush 400, 3) := by decide +kernel
theorem dX8_init_61 : decode cX8_init 61 = .ok (.newarray .int, 2) := by decide +kernel
theorem dX8_init_63 : decode cX8_init 63 = .ok (.putfield 28, 3) := by decide +kernel
theorem dX8_init_66 : decode cX8_init 66 = .ok (.aload_n 0, 1) := by decide +kernel
theorem dX8_init_67 : decode cX8_init 67 = .ok (.sipush 200, 3) := by decide +kernel
theorem dX8_init_70 : decode cX8_init 70 = .ok (.newarray .int, 2) := by decide +kernel
theorem dX8_init_72 : decode cX8_init 72 = .ok (.putfield 31, 3) := by decide +kernel
theorem dX8_init_75 : decode cX8_init 75 = .ok (.aload_n 0, 1) := by decide +kernel
theorem dX8_init_76 : decode cX8_init 76 = .ok (.iconst 3, 1) := by decide +kernel
theorem dX8_init_77 : decode cX8_init 77 = .ok (.newarray .int, 2) := by decide +kernel
theorem dX8_init_79 : decode cX8_init 79 = .ok (.putfield 34, 3) := by decide +kernel
theorem dX8_init_82 : decode cX8_init 82 = .ok (.aload_n 0, 1) := by decide +kernel
theorem dX8_init_83 : decode cX8_init 83 = .ok (.getfield 7, 3) := by decide +kernel
theorem dX8_init_86 : decode cX8_init 86 = .ok (.iconst 0, 1) := by decide +kernel
theorem dX8_init_87 : decode cX8_init 87 = .ok (.bipush 10, 2) := by decide +kernel
theorem dX8_init_89 : decode cX8_init 89 = .ok (.iastore, 1) := by decide +kernel
theorem dX8_init_90 : decode cX8_init 90 = .ok (.aload_n 0, 1) := by decide +kernel
theorem dX8_init_91 : decode cX8_init 91 = .ok (.getfield 7, 3) := by decide +kernel
theorem dX8_init_94 : decode cX8_init 94 = .ok (.iconst 1, 1) := by decide +kernel
theorem dX8_init_95 : decode cX8_init 95 = .ok (.iconst 5, 1) := by decide +kernel
theorem dX8_init_96 : decode cX8_init 96 = .ok (.iastore, 1) := by decide +kernel
theorem dX8_init_97 : decode cX8_init 97 = .ok (.return_, 1) := by decide +kernel
theorem dX8_moves_0 : decode cX8_moves 0 = .ok (.iconst 0, 1) := by decide +kernel
theorem dX8_moves_1 : decode cX8_moves 1 = .ok (.istore 4, 2) := by decide +kernel
theorem dX8_moves_3 : decode cX8_moves 3 = .ok (.iload 4, 2) := by decide +kernel
theorem dX8_moves_5 : decode cX8_moves 5 = .ok (.sipush 3074, 3) := by decide +kernel
theorem dX8_moves_8 : decode cX8_moves 8 = .ok (.if_icmp .ge 21, 3) := by decide +kernel
theorem dX8_moves_11 : decode cX8_moves 11 = .ok (.aload_n 2, 1) := by decide +kernel
theorem dX8_moves_12 : decode cX8_moves 12 = .ok (.iload_n 3, 1) := by decide +kernel
theorem dX8_moves_13 : decode cX8_moves 13 = .ok (.iload 4, 2) := by decide +kernel
theorem dX8_moves_15 : decode cX8_moves 15 = .ok (.iadd, 1) := by decide +kernel
theorem dX8_moves_16 : decode cX8_moves 16 = .ok (.aload_n 0, 1) := by decide +kernel
theorem dX8_moves_17 : decode cX8_moves 17 = .ok (.iload_n 1, 1) := by decide +kernel
theorem dX8_moves_18 : decode cX8_moves 18 = .ok (.iload 4, 2) := by decide +kernel
theorem dX8_moves_20 : decode cX8_moves 20 = .ok (.iadd, 1) := by decide +kernel
theorem dX8_moves_21 : decode cX8_moves 21 = .ok (.iaload, 1) := by decide +kernel
theorem dX8_moves_22 : decode cX8_moves 22 = .ok (.iastore, 1) := by decide +kernel
theorem dX8_moves_23 : decode cX8_moves 23 = .ok (.iinc 4 1, 3) := by decide +kernel
theorem dX8_moves_26 : decode cX8_moves 26 = .ok (.goto (-23), 3) := by decide +kernel
theorem dX8_moves_29 : decode cX8_moves 29 = .ok (.return_, 1) := by decide +kernel
theorem dX8_within_0 : decode cX8_within 0 = .ok (.iload_n 0, 1) := by decide +kernel
theorem dX8_within_1 : decode cX8_within 1 = .ok (.iload_n 1, 1) := by decide +kernel
theorem dX8_within_2 : decode cX8_within 2 = .ok (.if_icmp .lt 12, 3) := by decide +kernel
theorem dX8_within_5 : decode cX8_within 5 = .ok (.iload_n 0, 1) := by decide +kernel
theorem dX8_within_6 : decode cX8_within 6 = .ok (.iload_n 2, 1) := by decide +kernel
theorem dX8_within_7 : decode cX8_within 7 = .ok (.if_icmp .gt 7, 3) := by decide +kernel
theorem dX8_within_10 : decode cX8_within 10 = .ok (.iconst 1, 1) := by decide +kernel
theorem dX8_within_11 : decode cX8_within 11 = .ok (.goto 4, 3) := by decide +kernel
theorem dX8_within_14 : decode cX8_within 14 = .ok (.iconst 0, 1) := by decide +kernel
theorem dX8_within_15 : decode cX8_within 15 = .ok (.ireturn, 1) := by decide +kernel
theorem dX8_record_0 : decode cX8_record 0 = .ok (.aload_n 0, 1) := by decide +kernel
theorem dX8_record_1 : decode cX8_record 1 = .ok (.getfield 37, 3) := by decide +kernel
theorem dX8_record_4 : decode cX8_record 4 = .ok (.iconst 4, 1) := by decide +kernel
theorem dX8_record_5 : decode cX8_record 5 = .ok (.if_icmp .ne 44, 3) := by decide +kernel
theorem dX8_record_8 : decode cX8_record 8 = .ok (.iconst 0, 1) := by decide +kernel
theorem dX8_record_9 : decode cX8_record 9 = .ok (.istore_n 1, 1) := by decide +kernel
theorem dX8_record_10 : decode cX8_record 10 = .ok (.iload_n 1, 1) := by decide +kernel
theorem dX8_record_11 : decode cX8_record 11 = .ok (.sipush 9222, 3) := by decide +kernel
theorem dX8_record_14 : decode cX8_record 14 = .ok (.if_icmp .ge 25, 3) := by decide +kernel
theorem dX8_record_17 : decode cX8_record 17 = .ok (.aload_n 0, 1) := by decide +kernel
theorem dX8_record_18 : decode cX8_record 18 = .ok (.getfield 13, 3) := by decide +kernel
theorem dX8_record_21 : decode cX8_record 21 = .ok (.iload_n 1, 1) := by decide +kernel
theorem dX8_record_22 : decode cX8_record 22 = .ok (.aload_n 0, 1) := by decide +kernel
theorem dX8_record_23 : decode cX8_record 23 = .ok (.getfield 13, 3) := by decide +kernel
theorem dX8_record_26 : decode cX8_record 26 = .ok (.iload_n 1, 1) := by decide +kernel
theorem dX8_record_27 : decode cX8_record 27 = .ok (.sipush 3074, 3) := by decide +kernel
theorem dX8_record_30 : decode cX8_record 30 = .ok (.iadd, 1) := by decide +kernel
theorem dX8_record_31 : decode cX8_record 31 = .ok (.iaload, 1) := by decide +kernel
theorem dX8_record_32 : decode cX8_record 32 = .ok (.iastore, 1) := by decide +kernel
theorem dX8_record_33 : decode cX8_record 33 = .ok (.iinc 1 1, 3) := by decide +kernel
theorem dX8_record_36 : decode cX8_record 36 = .ok (.goto (-26), 3) := by decide +kernel
theorem dX8_record_39 : decode cX8_record 39 = .ok (.aload_n 0, 1) := by decide +kernel
theorem dX8_record_40 : decode cX8_record 40 = .ok (.dup, 1) := by decide +kernel
theorem dX8_record_41 : decode cX8_record 41 = .ok (.getfield 37, 3) := by decide +kernel
theorem dX8_record_44 : decode cX8_record 44 = .ok (.iconst 1, 1) := by decide +kernel
theorem dX8_record_45 : decode cX8_record 45 = .ok (.isub, 1) := by decide +kernel
theorem dX8_record_46 : decode cX8_record 46 = .ok (.putfield 37, 3) := by decide +kernel
theorem dX8_record_49 : decode cX8_record 49 = .ok (.aload_n 0, 1) := by decide +kernel
theorem dX8_record_50 : decode cX8_record 50 = .ok (.getfield 7, 3) := by decide +kernel
theorem dX8_record_53 : decode cX8_record 53 = .ok (.iconst 0, 1) := by decide +kernel
theorem dX8_record_54 : decode cX8_record 54 = .ok (.aload_n 0, 1) := by decide +kernel
theorem dX8_record_55 : decode cX8_record 55 = .ok (.getfield 13, 3) := by decide +kernel
theorem dX8_record_58 : decode cX8_record 58 = .ok (.aload_n 0, 1) := by decide +kernel
theorem dX8_record_59 : decode cX8_record 59 = .ok (.getfield 37, 3) := by decide +kernel
theorem dX8_record_62 : decode cX8_record 62 = .ok (.sipush 3074, 3) := by decide +kernel
theorem dX8_record_65 : decode cX8_record 65 = .ok (.imul, 1) := by decide +kernel
theorem dX8_record_66 : decode cX8_record 66 = .ok (.invokestatic 41, 3) := by decide +kernel
theorem dX8_record_69 : decode cX8_record 69 = .ok (.aload_n 0, 1) := by decide +kernel
theorem dX8_record_70 : decode cX8_record 70 = .ok (.dup, 1) := by decide +kernel
theorem dX8_record_71 : decode cX8_record 71 = .ok (.getfield 37, 3) := by decide +kernel
theorem dX8_record_74 : decode cX8_record 74 = .ok (.iconst 1, 1) := by decide +kernel
theorem dX8_record_75 : decode cX8_record 75 = .ok (.iadd, 1) := by decide +kernel
theorem dX8_record_76 : decode cX8_record 76 = .ok (.putfield 37, 3) := by decide +kernel
theorem dX8_record_79 : decode cX8_record 79 = .ok (.return_, 1) := by decide +kernel
theorem dX8_isDigest_0 : decode cX8_isDigest 0 = .ok (.iload_n 0, 1) := by decide +kernel
theorem dX8_isDigest_1 : decode cX8_isDigest 1 = .ok (.iconst 0, 1) := by decide +kernel
theorem dX8_isDigest_2 : decode cX8_isDigest 2 = .ok (.iconst 2, 1) := by decide +kernel
theorem dX8_isDigest_3 : decode cX8_isDigest 3 = .ok (.invokestatic 45, 3) := by decide +kernel
theorem dX8_isDigest_6 : decode cX8_isDigest 6 = .ok (.ireturn, 1) := by decide +kernel
theorem dX8_part_0 : decode cX8_part 0 = .ok (.aload_n 0, 1) := by decide +kernel
theorem dX8_part_1 : decode cX8_part 1 = .ok (.getfield 7, 3) := by decide +kernel
theorem dX8_part_4 : decode cX8_part 4 = .ok (.iconst 2, 1) := by decide +kernel
theorem dX8_part_5 : decode cX8_part 5 = .ok (.sipush 1024, 3) := by decide +kernel
theorem dX8_part_8 : decode cX8_part 8 = .ok (.iload_n 1, 1) := by decide +kernel
theorem dX8_part_9 : decode cX8_part 9 = .ok (.imul, 1) := by decide +kernel
theorem dX8_part_10 : decode cX8_part 10 = .ok (.iadd, 1) := by decide +kernel
theorem dX8_part_11 : decode cX8_part 11 = .ok (.iload_n 2, 1) := by decide +kernel
theorem dX8_part_12 : decode cX8_part 12 = .ok (.iadd, 1) := by decide +kernel
theorem dX8_part_13 : decode cX8_part 13 = .ok (.iaload, 1) := by decide +kernel
theorem dX8_part_14 : decode cX8_part 14 = .ok (.ireturn, 1) := by decide +kernel
theorem dX8_setPart_0 : decode cX8_setPart 0 = .ok (.aload_n 0, 1) := by decide +kernel
theorem dX8_setPart_1 : decode cX8_setPart 1 = .ok (.getfield 7, 3) := by decide +kernel
theorem dX8_setPart_4 : decode cX8_setPart 4 = .ok (.iconst 2, 1) := by decide +kernel
theorem dX8_setPart_5 : decode cX8_setPart 5 = .ok (.sipush 1024, 3) := by decide +kernel
theorem dX8_setPart_8 : decode cX8_setPart 8 = .ok (.iload_n 1, 1) := by decide +kernel
theorem dX8_setPart_9 : decode cX8_setPart 9 = .ok (.imul, 1) := by decide +kernel
theorem dX8_setPart_10 : decode cX8_setPart 10 = .ok (.iadd, 1) := by decide +kernel
theorem dX8_setPart_11 : decode cX8_setPart 11 = .ok (.iload_n 2, 1) := by decide +kernel
theorem dX8_setPart_12 : decode cX8_setPart 12 = .ok (.iadd, 1) := by decide +kernel
theorem dX8_setPart_13 : decode cX8_setPart 13 = .ok (.iload_n 3, 1) := by decide +kernel
theorem dX8_setPart_14 : decode cX8_setPart 14 = .ok (.iastore, 1) := by decide +kernel
theorem dX8_setPart_15 : decode cX8_setPart 15 = .ok (.return_, 1) := by decide +kernel
theorem dX8_heapPart_0 : decode cX8_heapPart 0 = .ok (.aload_n 0, 1) := by decide +kernel
theorem dX8_heapPart_1 : decode cX8_heapPart 1 = .ok (.iload_n 1, 1) := by decide +kernel
theorem dX8_heapPart_2 : decode cX8_heapPart 2 = .ok (.iconst 4, 1) := by decide +kernel
theorem dX8_heapPart_3 : decode cX8_heapPart 3 = .ok (.iconst 4, 1) := by decide +kernel
theorem dX8_heapPart_4 : decode cX8_heapPart 4 = .ok (.iload_n 2, 1) := by decide +kernel
theorem dX8_heapPart_5 : decode cX8_heapPart 5 = .ok (.imul, 1) := by decide +kernel
theorem dX8_heapPart_6 : decode cX8_heapPart 6 = .ok (.iadd, 1) := by decide +kernel
theorem dX8_heapPart_7 : decode cX8_heapPart 7 = .ok (.iload_n 3, 1) := by decide +kernel
theorem dX8_heapPart_8 : decode cX8_heapPart 8 = .ok (.iadd, 1) := by decide +kernel
theorem dX8_heapPart_9 : decode cX8_heapPart 9 = .ok (.invokevirtual 49, 3) := by decide +kernel
theorem dX8_heapPart_12 : decode cX8_heapPart 12 = .ok (.ireturn, 1) := by decide +kernel
theorem dX8_weightOf_0 : decode cX8_weightOf 0 = .ok (.aload_n 0, 1) := by decide +kernel
theorem dX8_weightOf_1 : decode cX8_weightOf 1 = .ok (.iload_n 1, 1) := by decide +kernel
theorem dX8_weightOf_2 : decode cX8_weightOf 2 = .ok (.iconst 2, 1) := by decide +kernel
theorem dX8_weightOf_3 : decode cX8_weightOf 3 = .ok (.invokevirtual 49, 3) := by decide +kernel
theorem dX8_weightOf_6 : decode cX8_weightOf 6 = .ok (.ireturn, 1) := by decide +kernel
theorem dX8_takeHeap_0 : decode cX8_takeHeap 0 = .ok (.aload_n 0, 1) := by decide +kernel
theorem dX8_takeHeap_1 : decode cX8_takeHeap 1 = .ok (.getfield 19, 3) := by decide +kernel
theorem dX8_takeHeap_4 : decode cX8_takeHeap 4 = .ok (.aload_n 0, 1) := by decide +kernel
theorem dX8_takeHeap_5 : decode cX8_takeHeap 5 = .ok (.getfield 53, 3) := by decide +kernel
theorem dX8_takeHeap_8 : decode cX8_takeHeap 8 = .ok (.iload_n 1, 1) := by decide +kernel
theorem dX8_takeHeap_9 : decode cX8_takeHeap 9 = .ok (.iastore, 1) := by decide +kernel
theorem dX8_takeHeap_10 : decode cX8_takeHeap 10 = .ok (.aload_n 0, 1) := by decide +kernel
theorem dX8_takeHeap_11 : decode cX8_takeHeap 11 = .ok (.getfield 22, 3) := by decide +kernel
theorem dX8_takeHeap_14 : decode cX8_takeHeap 14 = .ok (.aload_n 0, 1) := by decide +kernel
theorem dX8_takeHeap_15 : decode cX8_takeHeap 15 = .ok (.getfield 53, 3) := by decide +kernel
theorem dX8_takeHeap_18 : decode cX8_takeHeap 18 = .ok (.iload_n 2, 1) := by decide +kernel
theorem dX8_takeHeap_19 : decode cX8_takeHeap 19 = .ok (.iastore, 1) := by decide +kernel
theorem dX8_takeHeap_20 : decode cX8_takeHeap 20 = .ok (.aload_n 0, 1) := by decide +kernel
theorem dX8_takeHeap_21 : decode cX8_takeHeap 21 = .ok (.getfield 25, 3) := by decide +kernel
theorem dX8_takeHeap_24 : decode cX8_takeHeap 24 = .ok (.aload_n 0, 1) := by decide +kernel
theorem dX8_takeHeap_25 : decode cX8_takeHeap 25 = .ok (.getfield 53, 3) := by decide +kernel
theorem dX8_takeHeap_28 : decode cX8_takeHeap 28 = .ok (.iload_n 3, 1) := by decide +kernel
theorem dX8_takeHeap_29 : decode cX8_takeHeap 29 = .ok (.iastore, 1) := by decide +kernel
theorem dX8_takeHeap_30 : decode cX8_takeHeap 30 = .ok (.aload_n 0, 1) := by decide +kernel
theorem dX8_takeHeap_31 : decode cX8_takeHeap 31 = .ok (.getfield 28, 3) := by decide +kernel
theorem dX8_takeHeap_34 : decode cX8_takeHeap 34 = .ok (.aload_n 0, 1) := by decide +kernel
theorem dX8_takeHeap_35 : decode cX8_takeHeap 35 = .ok (.getfield 53, 3) := by decide +kernel
theorem dX8_takeHeap_38 : decode cX8_takeHeap 38 = .ok (.iload 4, 2) := by decide +kernel
theorem dX8_takeHeap_40 : decode cX8_takeHeap 40 = .ok (.iastore, 1) := by decide +kernel
theorem dX8_takeHeap_41 : decode cX8_takeHeap 41 = .ok (.aload_n 0, 1) := by decide +kernel
theorem dX8_takeHeap_42 : decode cX8_takeHeap 42 = .ok (.dup, 1) := by decide +kernel
theorem dX8_takeHeap_43 : decode cX8_takeHeap 43 = .ok (.getfield 53, 3) := by decide +kernel
theorem dX8_takeHeap_46 : decode cX8_takeHeap 46 = .ok (.iconst 1, 1) := by decide +kernel
theorem dX8_takeHeap_47 : decode cX8_takeHeap 47 = .ok (.iadd, 1) := by decide +kernel
theorem dX8_takeHeap_48 : decode cX8_takeHeap 48 = .ok (.putfield 53, 3) := by decide +kernel
theorem dX8_takeHeap_51 : decode cX8_takeHeap 51 = .ok (.return_, 1) := by decide +kernel
theorem dX8_takeHeaps_0 : decode cX8_takeHeaps 0 = .ok (.iconst 0, 1) := by decide +kernel
theorem dX8_takeHeaps_1 : decode cX8_takeHeaps 1 = .ok (.istore_n 2, 1) := by decide +kernel
theorem dX8_takeHeaps_2 : decode cX8_takeHeaps 2 = .ok (.iload_n 2, 1) := by decide +kernel
theorem dX8_takeHeaps_3 : decode cX8_takeHeaps 3 = .ok (.aload_n 0, 1) := by decide +kernel
theorem dX8_takeHeaps_4 : decode cX8_takeHeaps 4 = .ok (.iload_n 1, 1) := by decide +kernel
theorem dX8_takeHeaps_5 : decode cX8_takeHeaps 5 = .ok (.iconst 0, 1) := by decide +kernel
theorem dX8_takeHeaps_6 : decode cX8_takeHeaps 6 = .ok (.invokevirtual 49, 3) := by decide +kernel
theorem dX8_takeHeaps_9 : decode cX8_takeHeaps 9 = .ok (.if_icmp .ge 41, 3) := by decide +kernel
theorem dX8_takeHeaps_12 : decode cX8_takeHeaps 12 = .ok (.aload_n 0, 1) := by decide +kernel
theorem dX8_takeHeaps_13 : decode cX8_takeHeaps 13 = .ok (.aload_n 0, 1) := by decide +kernel
theorem dX8_takeHeaps_14 : decode cX8_takeHeaps 14 = .ok (.iload_n 1, 1) := by decide +kernel
theorem dX8_takeHeaps_15 : decode cX8_takeHeaps 15 = .ok (.iload_n 2, 1) := by decide +kernel
theorem dX8_takeHeaps_16 : decode cX8_takeHeaps 16 = .ok (.iconst 0, 1) := by decide +kernel
theorem dX8_takeHeaps_17 : decode cX8_takeHeaps 17 = .ok (.invokevirtual 56, 3) := by decide +kernel
theorem dX8_takeHeaps_20 : decode cX8_takeHeaps 20 = .ok (.aload_n 0, 1) := by decide +kernel
theorem dX8_takeHeaps_21 : decode cX8_takeHeaps 21 = .ok (.iload_n 1, 1) := by decide +kernel
theorem dX8_takeHeaps_22 : decode cX8_takeHeaps 22 = .ok (.iload_n 2, 1) := by decide +kernel
theorem dX8_takeHeaps_23 : decode cX8_takeHeaps 23 = .ok (.iconst 1, 1) := by decide +kernel
theorem dX8_takeHeaps_24 : decode cX8_takeHeaps 24 = .ok (.invokevirtual 56, 3) := by decide +kernel
theorem dX8_takeHeaps_27 : decode cX8_takeHeaps 27 = .ok (.aload_n 0, 1) := by decide +kernel
theorem dX8_takeHeaps_28 : decode cX8_takeHeaps 28 = .ok (.iload_n 1, 1) := by decide +kernel
theorem dX8_takeHeaps_29 : decode cX8_takeHeaps 29 = .ok (.iload_n 2, 1) := by decide +kernel
theorem dX8_takeHeaps_30 : decode cX8_takeHeaps 30 = .ok (.iconst 2, 1) := by decide +kernel
theorem dX8_takeHeaps_31 : decode cX8_takeHeaps 31 = .ok (.invokevirtual 56, 3) := by decide +kernel
theorem dX8_takeHeaps_34 : decode cX8_takeHeaps 34 = .ok (.aload_n 0, 1) := by decide +kernel
theorem dX8_takeHeaps_35 : decode cX8_takeHeaps 35 = .ok (.iload_n 1, 1) := by decide +kernel
theorem dX8_takeHeaps_36 : decode cX8_takeHeaps 36 = .ok (.iload_n 2, 1) := by decide +kernel
theorem dX8_takeHeaps_37 : decode cX8_takeHeaps 37 = .ok (.iconst 3, 1) := by decide +kernel
theorem dX8_takeHeaps_38 : decode cX8_takeHeaps 38 = .ok (.invokevirtual 56, 3) := by decide +kernel
theorem dX8_takeHeaps_41 : decode cX8_takeHeaps 41 = .ok (.invokevirtual 60, 3) := by decide +kernel
theorem dX8_takeHeaps_44 : decode cX8_takeHeaps 44 = .ok (.iinc 2 1, 3) := by decide +kernel
theorem dX8_takeHeaps_47 : decode cX8_takeHeaps 47 = .ok (.goto (-45), 3) := by decide +kernel
theorem dX8_takeHeaps_50 : decode cX8_takeHeaps 50 = .ok (.return_, 1) := by decide +kernel
theorem dX8_takeBuffer_0 : decode cX8_takeBuffer 0 = .ok (.iconst 0, 1) := by decide +kernel
theorem dX8_takeBuffer_1 : decode cX8_takeBuffer 1 = .ok (.istore_n 2, 1) := by decide +kernel
theorem dX8_takeBuffer_2 : decode cX8_takeBuffer 2 = .ok (.iload_n 2, 1) := by decide +kernel
theorem dX8_takeBuffer_3 : decode cX8_takeBuffer 3 = .ok (.aload_n 0, 1) := by decide +kernel
theorem dX8_takeBuffer_4 : decode cX8_takeBuffer 4 = .ok (.iload_n 1, 1) := by decide +kernel
theorem dX8_takeBuffer_5 : decode cX8_takeBuffer 5 = .ok (.iconst 1, 1) := by decide +kernel
theorem dX8_takeBuffer_6 : decode cX8_takeBuffer 6 = .ok (.invokevirtual 49, 3) := by decide +kernel
theorem dX8_takeBuffer_9 : decode cX8_takeBuffer 9 = .ok (.if_icmp .ge 28, 3) := by decide +kernel
theorem dX8_takeBuffer_12 : decode cX8_takeBuffer 12 = .ok (.aload_n 0, 1) := by decide +kernel
theorem dX8_takeBuffer_13 : decode cX8_takeBuffer 13 = .ok (.iload_n 1, 1) := by decide +kernel
theorem dX8_takeBuffer_14 : decode cX8_takeBuffer 14 = .ok (.sipush 804, 3) := by decide +kernel
theorem dX8_takeBuffer_17 : decode cX8_takeBuffer 17 = .ok (.iload_n 2, 1) := by decide +kernel
theorem dX8_takeBuffer_18 : decode cX8_takeBuffer 18 = .ok (.iadd, 1) := by decide +kernel
theorem dX8_takeBuffer_19 : decode cX8_takeBuffer 19 = .ok (.invokevirtual 49, 3) := by decide +kernel
theorem dX8_takeBuffer_22 : decode cX8_takeBuffer 22 = .ok (.istore_n 3, 1) := by decide +kernel
theorem dX8_takeBuffer_23 : decode cX8_takeBuffer 23 = .ok (.aload_n 0, 1) := by decide +kernel
theorem dX8_takeBuffer_24 : decode cX8_takeBuffer 24 = .ok (.iconst 1, 1) := by decide +kernel
theorem dX8_takeBuffer_25 : decode cX8_takeBuffer 25 = .ok (.iload_n 3, 1) := by decide +kernel
theorem dX8_takeBuffer_26 : decode cX8_takeBuffer 26 = .ok (.iload_n 3, 1) := by decide +kernel
theorem dX8_takeBuffer_27 : decode cX8_takeBuffer 27 = .ok (.iload_n 3, 1) := by decide +kernel
theorem dX8_takeBuffer_28 : decode cX8_takeBuffer 28 = .ok (.invokevirtual 60, 3) := by decide +kernel
theorem dX8_takeBuffer_31 : decode cX8_takeBuffer 31 = .ok (.iinc 2 1, 3) := by decide +kernel
theorem dX8_takeBuffer_34 : decode cX8_takeBuffer 34 = .ok (.goto (-32), 3) := by decide +kernel
theorem dX8_takeBuffer_37 : decode cX8_takeBuffer 37 = .ok (.return_, 1) := by decide +kernel
theorem dX8_copyHeap_0 : decode cX8_copyHeap 0 = .ok (.aload_n 0, 1) := by decide +kernel
theorem dX8_copyHeap_1 : decode cX8_copyHeap 1 = .ok (.getfield 19, 3) := by decide +kernel
theorem dX8_copyHeap_4 : decode cX8_copyHeap 4 = .ok (.iload_n 2, 1) := by decide +kernel
theorem dX8_copyHeap_5 : decode cX8_copyHeap 5 = .ok (.aload_n 0, 1) := by decide +kernel
theorem dX8_copyHeap_6 : decode cX8_copyHeap 6 = .ok (.getfield 19, 3) := by decide +kernel
theorem dX8_copyHeap_9 : decode cX8_copyHeap 9 = .ok (.iload_n 1, 1) := by decide +kernel
theorem dX8_copyHeap_10 : decode cX8_copyHeap 10 = .ok (.iaload, 1) := by decide +kernel
theorem dX8_copyHeap_11 : decode cX8_copyHeap 11 = .ok (.iastore, 1) := by decide +kernel
theorem dX8_copyHeap_12 : decode cX8_copyHeap 12 = .ok (.aload_n 0, 1) := by decide +kernel
theorem dX8_copyHeap_13 : decode cX8_copyHeap 13 = .ok (.getfield 22, 3) := by decide +kernel
theorem dX8_copyHeap_16 : decode cX8_copyHeap 16 = .ok (.iload_n 2, 1) := by decide +kernel
theorem dX8_copyHeap_17 : decode cX8_copyHeap 17 = .ok (.aload_n 0, 1) := by decide +kernel
theorem dX8_copyHeap_18 : decode cX8_copyHeap 18 = .ok (.getfield 22, 3) := by decide +kernel
theorem dX8_copyHeap_21 : decode cX8_copyHeap 21 = .ok (.iload_n 1, 1) := by decide +kernel
theorem dX8_copyHeap_22 : decode cX8_copyHeap 22 = .ok (.iaload, 1) := by decide +kernel
theorem dX8_copyHeap_23 : decode cX8_copyHeap 23 = .ok (.iastore, 1) := by decide +kernel
theorem dX8_copyHeap_24 : decode cX8_copyHeap 24 = .ok (.aload_n 0, 1) := by decide +kernel
theorem dX8_copyHeap_25 : decode cX8_copyHeap 25 = .ok (.getfield 25, 3) := by decide +kernel
theorem dX8_copyHeap_28 : decode cX8_copyHeap 28 = .ok (.iload_n 2, 1) := by decide +kernel
theorem dX8_copyHeap_29 : decode cX8_copyHeap 29 = .ok (.aload_n 0, 1) := by decide +kernel
theorem dX8_copyHeap_30 : decode cX8_copyHeap 30 = .ok (.getfield 25, 3) := by decide +kernel
theorem dX8_copyHeap_33 : decode cX8_copyHeap 33 = .ok (.iload_n 1, 1) := by decide +kernel
theorem dX8_copyHeap_34 : decode cX8_copyHeap 34 = .ok (.iaload, 1) := by decide +kernel
theorem dX8_copyHeap_35 : decode cX8_copyHeap 35 = .ok (.iastore, 1) := by decide +kernel
theorem dX8_copyHeap_36 : decode cX8_copyHeap 36 = .ok (.aload_n 0, 1) := by decide +kernel
theorem dX8_copyHeap_37 : decode cX8_copyHeap 37 = .ok (.getfield 28, 3) := by decide +kernel
theorem dX8_copyHeap_40 : decode cX8_copyHeap 40 = .ok (.iload_n 2, 1) := by decide +kernel
theorem dX8_copyHeap_41 : decode cX8_copyHeap 41 = .ok (.aload_n 0, 1) := by decide +kernel
theorem dX8_copyHeap_42 : decode cX8_copyHeap 42 = .ok (.getfield 28, 3) := by decide +kernel
theorem dX8_copyHeap_45 : decode cX8_copyHeap 45 = .ok (.iload_n 1, 1) := by decide +kernel
theorem dX8_copyHeap_46 : decode cX8_copyHeap 46 = .ok (.iaload, 1) := by decide +kernel
theorem dX8_copyHeap_47 : decode cX8_copyHeap 47 = .ok (.iastore, 1) := by decide +kernel
theorem dX8_copyHeap_48 : decode cX8_copyHeap 48 = .ok (.return_, 1) := by decide +kernel
theorem dX8_putInOrder_0 : decode cX8_putInOrder 0 = .ok (.iconst 1, 1) := by decide +kernel
theorem dX8_putInOrder_1 : decode cX8_putInOrder 1 = .ok (.istore_n 1, 1) := by decide +kernel
theorem dX8_putInOrder_2 : decode cX8_putInOrder 2 = .ok (.iload_n 1, 1) := by decide +kernel
theorem dX8_putInOrder_3 : decode cX8_putInOrder 3 = .ok (.aload_n 0, 1) := by decide +kernel
theorem dX8_putInOrder_4 : decode cX8_putInOrder 4 = .ok (.getfield 53, 3) := by decide +kernel
theorem dX8_putInOrder_7 : decode cX8_putInOrder 7 = .ok (.if_icmp .ge 86, 3) := by decide +kernel
theorem dX8_putInOrder_10 : decode cX8_putInOrder 10 = .ok (.aload_n 0, 1) := by decide +kernel
theorem dX8_putInOrder_11 : decode cX8_putInOrder 11 = .ok (.iload_n 1, 1) := by decide +kernel
theorem dX8_putInOrder_12 : decode cX8_putInOrder 12 = .ok (.aload_n 0, 1) := by decide +kernel
theorem dX8_putInOrder_13 : decode cX8_putInOrder 13 = .ok (.getfield 53, 3) := by decide +kernel
theorem dX8_putInOrder_16 : decode cX8_putInOrder 16 = .ok (.invokevirtual 64, 3) := by decide +kernel
theorem dX8_putInOrder_19 : decode cX8_putInOrder 19 = .ok (.iload_n 1, 1) := by decide +kernel
theorem dX8_putInOrder_20 : decode cX8_putInOrder 20 = .ok (.istore_n 2, 1) := by decide +kernel
theorem dX8_putInOrder_21 : decode cX8_putInOrder 21 = .ok (.iload_n 2, 1) := by decide +kernel
theorem dX8_putInOrder_22 : decode cX8_putInOrder 22 = .ok (.ifCond .le 56, 3) := by decide +kernel
theorem dX8_putInOrder_25 : decode cX8_putInOrder 25 = .ok (.aload_n 0, 1) := by decide +kernel
theorem dX8_putInOrder_26 : decode cX8_putInOrder 26 = .ok (.getfield 22, 3) := by decide +kernel
theorem dX8_putInOrder_29 : decode cX8_putInOrder 29 = .ok (.iload_n 2, 1) := by decide +kernel
theorem dX8_putInOrder_30 : decode cX8_putInOrder 30 = .ok (.iconst 1, 1) := by decide +kernel
theorem dX8_putInOrder_31 : decode cX8_putInOrder 31 = .ok (.isub, 1) := by decide +kernel
theorem dX8_putInOrder_32 : decode cX8_putInOrder 32 = .ok (.iaload, 1) := by decide +kernel
theorem dX8_putInOrder_33 : decode cX8_putInOrder 33 = .ok (.aload_n 0, 1) := by decide +kernel
theorem dX8_putInOrder_34 : decode cX8_putInOrder 34 = .ok (.getfield 19, 3) := by decide +kernel
theorem dX8_putInOrder_37 : decode cX8_putInOrder 37 = .ok (.aload_n 0, 1) := by decide +kernel
theorem dX8_putInOrder_38 : decode cX8_putInOrder 38 = .ok (.getfield 53, 3) := by decide +kernel
theorem dX8_putInOrder_41 : decode cX8_putInOrder 41 = .ok (.iaload, 1) := by decide +kernel
theorem dX8_putInOrder_42 : decode cX8_putInOrder 42 = .ok (.imul, 1) := by decide +kernel
theorem dX8_putInOrder_43 : decode cX8_putInOrder 43 = .ok (.aload_n 0, 1) := by decide +kernel
theorem dX8_putInOrder_44 : decode cX8_putInOrder 44 = .ok (.getfield 22, 3) := by decide +kernel
theorem dX8_putInOrder_47 : decode cX8_putInOrder 47 = .ok (.aload_n 0, 1) := by decide +kernel
theorem dX8_putInOrder_48 : decode cX8_putInOrder 48 = .ok (.getfield 53, 3) := by decide +kernel
theorem dX8_putInOrder_51 : decode cX8_putInOrder 51 = .ok (.iaload, 1) := by decide +kernel
theorem dX8_putInOrder_52 : decode cX8_putInOrder 52 = .ok (.aload_n 0, 1) := by decide +kernel
theorem dX8_putInOrder_53 : decode cX8_putInOrder 53 = .ok (.getfield 19, 3) := by decide +kernel
theorem dX8_putInOrder_56 : decode cX8_putInOrder 56 = .ok (.iload_n 2, 1) := by decide +kernel
theorem dX8_putInOrder_57 : decode cX8_putInOrder 57 = .ok (.iconst 1, 1) := by decide +kernel
theorem dX8_putInOrder_58 : decode cX8_putInOrder 58 = .ok (.isub, 1) := by decide +kernel
theorem dX8_putInOrder_59 : decode cX8_putInOrder 59 = .ok (.iaload, 1) := by decide +kernel
theorem dX8_putInOrder_60 : decode cX8_putInOrder 60 = .ok (.imul, 1) := by decide +kernel
theorem dX8_putInOrder_61 : decode cX8_putInOrder 61 = .ok (.if_icmp .le 17, 3) := by decide +kernel
theorem dX8_putInOrder_64 : decode cX8_putInOrder 64 = .ok (.aload_n 0, 1) := by decide +kernel
theorem dX8_putInOrder_65 : decode cX8_putInOrder 65 = .ok (.iload_n 2, 1) := by decide +kernel
theorem dX8_putInOrder_66 : decode cX8_putInOrder 66 = .ok (.iconst 1, 1) := by decide +kernel
theorem dX8_putInOrder_67 : decode cX8_putInOrder 67 = .ok (.isub, 1) := by decide +kernel
theorem dX8_putInOrder_68 : decode cX8_putInOrder 68 = .ok (.iload_n 2, 1) := by decide +kernel
theorem dX8_putInOrder_69 : decode cX8_putInOrder 69 = .ok (.invokevirtual 64, 3) := by decide +kernel
theorem dX8_putInOrder_72 : decode cX8_putInOrder 72 = .ok (.iinc 2 (-1), 3) := by decide +kernel
theorem dX8_putInOrder_75 : decode cX8_putInOrder 75 = .ok (.goto (-54), 3) := by decide +kernel
theorem dX8_putInOrder_78 : decode cX8_putInOrder 78 = .ok (.aload_n 0, 1) := by decide +kernel
theorem dX8_putInOrder_79 : decode cX8_putInOrder 79 = .ok (.aload_n 0, 1) := by decide +kernel
theorem dX8_putInOrder_80 : decode cX8_putInOrder 80 = .ok (.getfield 53, 3) := by decide +kernel
theorem dX8_putInOrder_83 : decode cX8_putInOrder 83 = .ok (.iload_n 2, 1) := by decide +kernel
theorem dX8_putInOrder_84 : decode cX8_putInOrder 84 = .ok (.invokevirtual 64, 3) := by decide +kernel
theorem dX8_putInOrder_87 : decode cX8_putInOrder 87 = .ok (.iinc 1 1, 3) := by decide +kernel
theorem dX8_putInOrder_90 : decode cX8_putInOrder 90 = .ok (.goto (-88), 3) := by decide +kernel
theorem dX8_putInOrder_93 : decode cX8_putInOrder 93 = .ok (.return_, 1) := by decide +kernel
theorem dX8_putTogether_0 : decode cX8_putTogether 0 = .ok (.iconst 0, 1) := by decide +kernel
theorem dX8_putTogether_1 : decode cX8_putTogether 1 = .ok (.istore_n 2, 1) := by decide +kernel
theorem dX8_putTogether_2 : decode cX8_putTogether 2 = .ok (.iconst 0, 1) := by decide +kernel
theorem dX8_putTogether_3 : decode cX8_putTogether 3 = .ok (.istore_n 3, 1) := by decide +kernel
theorem dX8_putTogether_4 : decode cX8_putTogether 4 = .ok (.iload_n 3, 1) := by decide +kernel
theorem dX8_putTogether_5 : decode cX8_putTogether 5 = .ok (.aload_n 0, 1) := by decide +kernel
theorem dX8_putTogether_6 : decode cX8_putTogether 6 = .ok (.getfield 53, 3) := by decide +kernel
theorem dX8_putTogether_9 : decode cX8_putTogether 9 = .ok (.if_icmp .ge 18, 3) := by decide +kernel
theorem dX8_putTogether_12 : decode cX8_putTogether 12 = .ok (.iload_n 2, 1) := by decide +kernel
theorem dX8_putTogether_13 : decode cX8_putTogether 13 = .ok (.aload_n 0, 1) := by decide +kernel
theorem dX8_putTogether_14 : decode cX8_putTogether 14 = .ok (.getfield 19, 3) := by decide +kernel
theorem dX8_putTogether_17 : decode cX8_putTogether 17 = .ok (.iload_n 3, 1) := by decide +kernel
theorem dX8_putTogether_18 : decode cX8_putTogether 18 = .ok (.iaload, 1) := by decide +kernel
theorem dX8_putTogether_19 : decode cX8_putTogether 19 = .ok (.iadd, 1) := by decide +kernel
theorem dX8_putTogether_20 : decode cX8_putTogether 20 = .ok (.istore_n 2, 1) := by decide +kernel
theorem dX8_putTogether_21 : decode cX8_putTogether 21 = .ok (.iinc 3 1, 3) := by decide +kernel
theorem dX8_putTogether_24 : decode cX8_putTogether 24 = .ok (.goto (-20), 3) := by decide +kernel
theorem dX8_putTogether_27 : decode cX8_putTogether 27 = .ok (.iconst 0, 1) := by decide +kernel
theorem dX8_putTogether_28 : decode cX8_putTogether 28 = .ok (.istore_n 3, 1) := by decide +kernel
theorem dX8_putTogether_29 : decode cX8_putTogether 29 = .ok (.iconst 0, 1) := by decide +kernel
theorem dX8_putTogether_30 : decode cX8_putTogether 30 = .ok (.istore 4, 2) := by decide +kernel
theorem dX8_putTogether_32 : decode cX8_putTogether 32 = .ok (.iconst 1, 1) := by decide +kernel
theorem dX8_putTogether_33 : decode cX8_putTogether 33 = .ok (.istore 5, 2) := by decide +kernel
theorem dX8_putTogether_35 : decode cX8_putTogether 35 = .ok (.iload 5, 2) := by decide +kernel
theorem dX8_putTogether_37 : decode cX8_putTogether 37 = .ok (.aload_n 0, 1) := by decide +kernel
theorem dX8_putTogether_38 : decode cX8_putTogether 38 = .ok (.getfield 53, 3) := by decide +kernel
theorem dX8_putTogether_41 : decode cX8_putTogether 41 = .ok (.if_icmp .ge 177, 3) := by decide +kernel
theorem dX8_putTogether_44 : decode cX8_putTogether 44 = .ok (.aload_n 0, 1) := by decide +kernel
theorem dX8_putTogether_45 : decode cX8_putTogether 45 = .ok (.getfield 19, 3) := by decide +kernel
theorem dX8_putTogether_48 : decode cX8_putTogether 48 = .ok (.iload_n 3, 1) := by decide +kernel
theorem dX8_putTogether_49 : decode cX8_putTogether 49 = .ok (.iaload, 1) := by decide +kernel
theorem dX8_putTogether_50 : decode cX8_putTogether 50 = .ok (.aload_n 0, 1) := by decide +kernel
theorem dX8_putTogether_51 : decode cX8_putTogether 51 = .ok (.getfield 19, 3) := by decide +kernel
theorem dX8_putTogether_54 : decode cX8_putTogether 54 = .ok (.iload 5, 2) := by decide +kernel
theorem dX8_putTogether_56 : decode cX8_putTogether 56 = .ok (.iaload, 1) := by decide +kernel
theorem dX8_putTogether_57 : decode cX8_putTogether 57 = .ok (.iadd, 1) := by decide +kernel
theorem dX8_putTogether_58 : decode cX8_putTogether 58 = .ok (.istore 6, 2) := by decide +kernel
theorem dX8_putTogether_60 : decode cX8_putTogether 60 = .ok (.iload 6, 2) := by decide +kernel
theorem dX8_putTogether_62 : decode cX8_putTogether 62 = .ok (.iload_n 2, 1) := by decide +kernel
theorem dX8_putTogether_63 : decode cX8_putTogether 63 = .ok (.imul, 1) := by decide +kernel
theorem dX8_putTogether_64 : decode cX8_putTogether 64 = .ok (.iload_n 1, 1) := by decide +kernel
theorem dX8_putTogether_65 : decode cX8_putTogether 65 = .ok (.imul, 1) := by decide +kernel
theorem dX8_putTogether_66 : decode cX8_putTogether 66 = .ok (.iconst 2, 1) := by decide +kernel
theorem dX8_putTogether_67 : decode cX8_putTogether 67 = .ok (.iload 4, 2) := by decide +kernel
theorem dX8_putTogether_69 : decode cX8_putTogether 69 = .ok (.imul, 1) := by decide +kernel
theorem dX8_putTogether_70 : decode cX8_putTogether 70 = .ok (.iload 6, 2) := by decide +kernel
theorem dX8_putTogether_72 : decode cX8_putTogether 72 = .ok (.iadd, 1) := by decide +kernel
theorem dX8_putTogether_73 : decode cX8_putTogether 73 = .ok (.iconst 2, 1) := by decide +kernel
theorem dX8_putTogether_74 : decode cX8_putTogether 74 = .ok (.iload_n 2, 1) := by decide +kernel
theorem dX8_putTogether_75 : decode cX8_putTogether 75 = .ok (.imul, 1) := by decide +kernel
theorem dX8_putTogether_76 : decode cX8_putTogether 76 = .ok (.iconst 2, 1) := by decide +kernel
theorem dX8_putTogether_77 : decode cX8_putTogether 77 = .ok (.iload 4, 2) := by decide +kernel
theorem dX8_putTogether_79 : decode cX8_putTogether 79 = .ok (.imul, 1) := by decide +kernel
theorem dX8_putTogether_80 : decode cX8_putTogether 80 = .ok (.isub, 1) := by decide +kernel
theorem dX8_putTogether_81 : decode cX8_putTogether 81 = .ok (.iload 6, 2) := by decide +kernel
theorem dX8_putTogether_83 : decode cX8_putTogether 83 = .ok (.isub, 1) := by decide +kernel
theorem dX8_putTogether_84 : decode cX8_putTogether 84 = .ok (.imul, 1) := by decide +kernel
theorem dX8_putTogether_85 : decode cX8_putTogether 85 = .ok (.if_icmp .gt 106, 3) := by decide +kernel
theorem dX8_putTogether_88 : decode cX8_putTogether 88 = .ok (.aload_n 0, 1) := by decide +kernel
theorem dX8_putTogether_89 : decode cX8_putTogether 89 = .ok (.getfield 19, 3) := by decide +kernel
theorem dX8_putTogether_92 : decode cX8_putTogether 92 = .ok (.iload_n 3, 1) := by decide +kernel
theorem dX8_putTogether_93 : decode cX8_putTogether 93 = .ok (.iload 6, 2) := by decide +kernel
theorem dX8_putTogether_95 : decode cX8_putTogether 95 = .ok (.iastore, 1) := by decide +kernel
theorem dX8_putTogether_96 : decode cX8_putTogether 96 = .ok (.aload_n 0, 1) := by decide +kernel
theorem dX8_putTogether_97 : decode cX8_putTogether 97 = .ok (.getfield 22, 3) := by decide +kernel
theorem dX8_putTogether_100 : decode cX8_putTogether 100 = .ok (.iload_n 3, 1) := by decide +kernel
theorem dX8_putTogether_101 : decode cX8_putTogether 101 = .ok (.dup2, 1) := by decide +kernel
theorem dX8_putTogether_102 : decode cX8_putTogether 102 = .ok (.iaload, 1) := by decide +kernel
theorem dX8_putTogether_103 : decode cX8_putTogether 103 = .ok (.aload_n 0, 1) := by decide +kernel
theorem dX8_putTogether_104 : decode cX8_putTogether 104 = .ok (.getfield 22, 3) := by decide +kernel
theorem dX8_putTogether_107 : decode cX8_putTogether 107 = .ok (.iload 5, 2) := by decide +kernel
theorem dX8_putTogether_109 : decode cX8_putTogether 109 = .ok (.iaload, 1) := by decide +kernel
theorem dX8_putTogether_110 : decode cX8_putTogether 110 = .ok (.iadd, 1) := by decide +kernel
theorem dX8_putTogether_111 : decode cX8_putTogether 111 = .ok (.iastore, 1) := by decide +kernel
theorem dX8_putTogether_112 : decode cX8_putTogether 112 = .ok (.aload_n 0, 1) := by decide +kernel
theorem dX8_putTogether_113 : decode cX8_putTogether 113 = .ok (.getfield 25, 3) := by decide +kernel
theorem dX8_putTogether_116 : decode cX8_putTogether 116 = .ok (.iload_n 3, 1) := by decide +kernel
theorem dX8_putTogether_117 : decode cX8_putTogether 117 = .ok (.aload_n 0, 1) := by decide +kernel
theorem dX8_putTogether_118 : decode cX8_putTogether 118 = .ok (.getfield 25, 3) := by decide +kernel
theorem dX8_putTogether_121 : decode cX8_putTogether 121 = .ok (.iload 5, 2) := by decide +kernel
theorem dX8_putTogether_123 : decode cX8_putTogether 123 = .ok (.iaload, 1) := by decide +kernel
theorem dX8_putTogether_124 : decode cX8_putTogether 124 = .ok (.aload_n 0, 1) := by decide +kernel
theorem dX8_putTogether_125 : decode cX8_putTogether 125 = .ok (.getfield 25, 3) := by decide +kernel
theorem dX8_putTogether_128 : decode cX8_putTogether 128 = .ok (.iload_n 3, 1) := by decide +kernel
theorem dX8_putTogether_129 : decode cX8_putTogether 129 = .ok (.iaload, 1) := by decide +kernel
theorem dX8_putTogether_130 : decode cX8_putTogether 130 = .ok (.if_icmp .ge 13, 3) := by decide +kernel
theorem dX8_putTogether_133 : decode cX8_putTogether 133 = .ok (.aload_n 0, 1) := by decide +kernel
theorem dX8_putTogether_134 : decode cX8_putTogether 134 = .ok (.getfield 25, 3) := by decide +kernel
theorem dX8_putTogether_137 : decode cX8_putTogether 137 = .ok (.iload 5, 2) := by decide +kernel
theorem dX8_putTogether_139 : decode cX8_putTogether 139 = .ok (.iaload, 1) := by decide +kernel
theorem dX8_putTogether_140 : decode cX8_putTogether 140 = .ok (.goto 9, 3) := by decide +kernel
theorem dX8_putTogether_143 : decode cX8_putTogether 143 = .ok (.aload_n 0, 1) := by decide +kernel
theorem dX8_putTogether_144 : decode cX8_putTogether 144 = .ok (.getfield 25, 3) := by decide +kernel
theorem dX8_putTogether_147 : decode cX8_putTogether 147 = .ok (.iload_n 3, 1) := by decide +kernel
theorem dX8_putTogether_148 : decode cX8_putTogether 148 = .ok (.iaload, 1) := by decide +kernel
theorem dX8_putTogether_149 : decode cX8_putTogether 149 = .ok (.iastore, 1) := by decide +kernel
theorem dX8_putTogether_150 : decode cX8_putTogether 150 = .ok (.aload_n 0, 1) := by decide +kernel
theorem dX8_putTogether_151 : decode cX8_putTogether 151 = .ok (.getfield 28, 3) := by decide +kernel
theorem dX8_putTogether_154 : decode cX8_putTogether 154 = .ok (.iload_n 3, 1) := by decide +kernel
theorem dX8_putTogether_155 : decode cX8_putTogether 155 = .ok (.aload_n 0, 1) := by decide +kernel
theorem dX8_putTogether_156 : decode cX8_putTogether 156 = .ok (.getfield 28, 3) := by decide +kernel
theorem dX8_putTogether_159 : decode cX8_putTogether 159 = .ok (.iload 5, 2) := by decide +kernel
theorem dX8_putTogether_161 : decode cX8_putTogether 161 = .ok (.iaload, 1) := by decide +kernel
theorem dX8_putTogether_162 : decode cX8_putTogether 162 = .ok (.aload_n 0, 1) := by decide +kernel
theorem dX8_putTogether_163 : decode cX8_putTogether 163 = .ok (.getfield 28, 3) := by decide +kernel
theorem dX8_putTogether_166 : decode cX8_putTogether 166 = .ok (.iload_n 3, 1) := by decide +kernel
theorem dX8_putTogether_167 : decode cX8_putTogether 167 = .ok (.iaload, 1) := by decide +kernel
theorem dX8_putTogether_168 : decode cX8_putTogether 168 = .ok (.if_icmp .le 13, 3) := by decide +kernel
theorem dX8_putTogether_171 : decode cX8_putTogether 171 = .ok (.aload_n 0, 1) := by decide +kernel
theorem dX8_putTogether_172 : decode cX8_putTogether 172 = .ok (.getfield 28, 3) := by decide +kernel
theorem dX8_putTogether_175 : decode cX8_putTogether 175 = .ok (.iload 5, 2) := by decide +kernel
theorem dX8_putTogether_177 : decode cX8_putTogether 177 = .ok (.iaload, 1) := by decide +kernel
theorem dX8_putTogether_178 : decode cX8_putTogether 178 = .ok (.goto 9, 3) := by decide +kernel
theorem dX8_putTogether_181 : decode cX8_putTogether 181 = .ok (.aload_n 0, 1) := by decide +kernel
theorem dX8_putTogether_182 : decode cX8_putTogether 182 = .ok (.getfield 28, 3) := by decide +kernel
theorem dX8_putTogether_185 : decode cX8_putTogether 185 = .ok (.iload_n 3, 1) := by decide +kernel
theorem dX8_putTogether_186 : decode cX8_putTogether 186 = .ok (.iaload, 1) := by decide +kernel
theorem dX8_putTogether_187 : decode cX8_putTogether 187 = .ok (.iastore, 1) := by decide +kernel
theorem dX8_putTogether_188 : decode cX8_putTogether 188 = .ok (.goto 24, 3) := by decide +kernel
theorem dX8_putTogether_191 : decode cX8_putTogether 191 = .ok (.iload 4, 2) := by decide +kernel
theorem dX8_putTogether_193 : decode cX8_putTogether 193 = .ok (.aload_n 0, 1) := by decide +kernel
theorem dX8_putTogether_194 : decode cX8_putTogether 194 = .ok (.getfield 19, 3) := by decide +kernel
theorem dX8_putTogether_197 : decode cX8_putTogether 197 = .ok (.iload_n 3, 1) := by decide +kernel
theorem dX8_putTogether_198 : decode cX8_putTogether 198 = .ok (.iaload, 1) := by decide +kernel
theorem dX8_putTogether_199 : decode cX8_putTogether 199 = .ok (.iadd, 1) := by decide +kernel
