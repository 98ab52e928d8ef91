theorem dX6_find_41 : decode cX6_find 41 = .ok (.putfield 24, 3) := by decide +kernel
theorem dX6_find_44 : decode cX6_find 44 = .ok (.aload_n 0, 1) := by decide +kernel
theorem dX6_find_45 : decode cX6_find 45 = .ok (.getfield 24, 3) := by decide +kernel
theorem dX6_find_48 : decode cX6_find 48 = .ok (.ifCond .eq 21, 3) := by decide +kernel
theorem dX6_find_51 : decode cX6_find 51 = .ok (.aload_n 0, 1) := by decide +kernel
theorem dX6_find_52 : decode cX6_find 52 = .ok (.iload 4, 2) := by decide +kernel
theorem dX6_find_54 : decode cX6_find 54 = .ok (.putfield 20, 3) := by decide +kernel
theorem dX6_find_57 : decode cX6_find 57 = .ok (.aload_n 0, 1) := by decide +kernel
theorem dX6_find_58 : decode cX6_find 58 = .ok (.aload_n 3, 1) := by decide +kernel
theorem dX6_find_59 : decode cX6_find 59 = .ok (.getfield 42, 3) := by decide +kernel
theorem dX6_find_62 : decode cX6_find 62 = .ok (.iload 4, 2) := by decide +kernel
theorem dX6_find_64 : decode cX6_find 64 = .ok (.isub, 1) := by decide +kernel
theorem dX6_find_65 : decode cX6_find 65 = .ok (.putfield 27, 3) := by decide +kernel
theorem dX6_find_68 : decode cX6_find 68 = .ok (.return_, 1) := by decide +kernel
theorem dX6_find_69 : decode cX6_find 69 = .ok (.aload_n 3, 1) := by decide +kernel
theorem dX6_find_70 : decode cX6_find 70 = .ok (.getfield 42, 3) := by decide +kernel
theorem dX6_find_73 : decode cX6_find 73 = .ok (.istore 4, 2) := by decide +kernel
theorem dX6_find_75 : decode cX6_find 75 = .ok (.iinc 5 1, 3) := by decide +kernel
theorem dX6_find_78 : decode cX6_find 78 = .ok (.goto (-62), 3) := by decide +kernel
theorem dX6_find_81 : decode cX6_find 81 = .ok (.return_, 1) := by decide +kernel
theorem dX6_startWeights_0 : decode cX6_startWeights 0 = .ok (.aload_n 0, 1) := by decide +kernel
theorem dX6_startWeights_1 : decode cX6_startWeights 1 = .ok (.getfield 14, 3) := by decide +kernel
theorem dX6_startWeights_4 : decode cX6_startWeights 4 = .ok (.invokevirtual 47, 3) := by decide +kernel
theorem dX6_startWeights_7 : decode cX6_startWeights 7 = .ok (.iconst 0, 1) := by decide +kernel
theorem dX6_startWeights_8 : decode cX6_startWeights 8 = .ok (.istore_n 2, 1) := by decide +kernel
theorem dX6_startWeights_9 : decode cX6_startWeights 9 = .ok (.iload_n 2, 1) := by decide +kernel
theorem dX6_startWeights_10 : decode cX6_startWeights 10 = .ok (.iconst 3, 1) := by decide +kernel
theorem dX6_startWeights_11 : decode cX6_startWeights 11 = .ok (.if_icmp .ge 34, 3) := by decide +kernel
theorem dX6_startWeights_14 : decode cX6_startWeights 14 = .ok (.aload_n 1, 1) := by decide +kernel
theorem dX6_startWeights_15 : decode cX6_startWeights 15 = .ok (.iload_n 2, 1) := by decide +kernel
theorem dX6_startWeights_16 : decode cX6_startWeights 16 = .ok (.invokevirtual 50, 3) := by decide +kernel
theorem dX6_startWeights_19 : decode cX6_startWeights 19 = .ok (.astore_n 3, 1) := by decide +kernel
theorem dX6_startWeights_20 : decode cX6_startWeights 20 = .ok (.aload_n 0, 1) := by decide +kernel
theorem dX6_startWeights_21 : decode cX6_startWeights 21 = .ok (.getfield 14, 3) := by decide +kernel
theorem dX6_startWeights_24 : decode cX6_startWeights 24 = .ok (.aload_n 3, 1) := by decide +kernel
theorem dX6_startWeights_25 : decode cX6_startWeights 25 = .ok (.ifnonnull 7, 3) := by decide +kernel
theorem dX6_startWeights_28 : decode cX6_startWeights 28 = .ok (.iconst 0, 1) := by decide +kernel
theorem dX6_startWeights_29 : decode cX6_startWeights 29 = .ok (.goto 7, 3) := by decide +kernel
theorem dX6_startWeights_32 : decode cX6_startWeights 32 = .ok (.aload_n 3, 1) := by decide +kernel
theorem dX6_startWeights_33 : decode cX6_startWeights 33 = .ok (.invokevirtual 56, 3) := by decide +kernel
theorem dX6_startWeights_36 : decode cX6_startWeights 36 = .ok (.invokevirtual 61, 3) := by decide +kernel
theorem dX6_startWeights_39 : decode cX6_startWeights 39 = .ok (.iinc 2 1, 3) := by decide +kernel
theorem dX6_startWeights_42 : decode cX6_startWeights 42 = .ok (.goto (-33), 3) := by decide +kernel
theorem dX6_startWeights_45 : decode cX6_startWeights 45 = .ok (.return_, 1) := by decide +kernel
theorem dX6_reasonOf_0 : decode cX6_reasonOf 0 = .ok (.aload_n 3, 1) := by decide +kernel
theorem dX6_reasonOf_1 : decode cX6_reasonOf 1 = .ok (.aload_n 1, 1) := by decide +kernel
theorem dX6_reasonOf_2 : decode cX6_reasonOf 2 = .ok (.iload_n 2, 1) := by decide +kernel
theorem dX6_reasonOf_3 : decode cX6_reasonOf 3 = .ok (.invokevirtual 64, 3) := by decide +kernel
theorem dX6_reasonOf_6 : decode cX6_reasonOf 6 = .ok (.ifCond .ne 5, 3) := by decide +kernel
theorem dX6_reasonOf_9 : decode cX6_reasonOf 9 = .ok (.iconst 1, 1) := by decide +kernel
theorem dX6_reasonOf_10 : decode cX6_reasonOf 10 = .ok (.ireturn, 1) := by decide +kernel
theorem dX6_reasonOf_11 : decode cX6_reasonOf 11 = .ok (.aload_n 3, 1) := by decide +kernel
theorem dX6_reasonOf_12 : decode cX6_reasonOf 12 = .ok (.getfield 68, 3) := by decide +kernel
theorem dX6_reasonOf_15 : decode cX6_reasonOf 15 = .ok (.iconst 3, 1) := by decide +kernel
theorem dX6_reasonOf_16 : decode cX6_reasonOf 16 = .ok (.if_icmp .lt 5, 3) := by decide +kernel
theorem dX6_reasonOf_19 : decode cX6_reasonOf 19 = .ok (.iconst 2, 1) := by decide +kernel
theorem dX6_reasonOf_20 : decode cX6_reasonOf 20 = .ok (.ireturn, 1) := by decide +kernel
theorem dX6_reasonOf_21 : decode cX6_reasonOf 21 = .ok (.aload_n 0, 1) := by decide +kernel
theorem dX6_reasonOf_22 : decode cX6_reasonOf 22 = .ok (.getfield 14, 3) := by decide +kernel
theorem dX6_reasonOf_25 : decode cX6_reasonOf 25 = .ok (.aload_n 3, 1) := by decide +kernel
theorem dX6_reasonOf_26 : decode cX6_reasonOf 26 = .ok (.getfield 68, 3) := by decide +kernel
theorem dX6_reasonOf_29 : decode cX6_reasonOf 29 = .ok (.invokevirtual 71, 3) := by decide +kernel
theorem dX6_reasonOf_32 : decode cX6_reasonOf 32 = .ok (.aload_n 3, 1) := by decide +kernel
theorem dX6_reasonOf_33 : decode cX6_reasonOf 33 = .ok (.getfield 75, 3) := by decide +kernel
theorem dX6_reasonOf_36 : decode cX6_reasonOf 36 = .ok (.invokevirtual 34, 3) := by decide +kernel
theorem dX6_reasonOf_39 : decode cX6_reasonOf 39 = .ok (.iadd, 1) := by decide +kernel
theorem dX6_reasonOf_40 : decode cX6_reasonOf 40 = .ok (.istore 4, 2) := by decide +kernel
theorem dX6_reasonOf_42 : decode cX6_reasonOf 42 = .ok (.iload 4, 2) := by decide +kernel
theorem dX6_reasonOf_44 : decode cX6_reasonOf 44 = .ok (.sipush 200, 3) := by decide +kernel
theorem dX6_reasonOf_47 : decode cX6_reasonOf 47 = .ok (.if_icmp .le 5, 3) := by decide +kernel
theorem dX6_reasonOf_50 : decode cX6_reasonOf 50 = .ok (.iconst 3, 1) := by decide +kernel
theorem dX6_reasonOf_51 : decode cX6_reasonOf 51 = .ok (.ireturn, 1) := by decide +kernel
theorem dX6_reasonOf_52 : decode cX6_reasonOf 52 = .ok (.aload_n 0, 1) := by decide +kernel
theorem dX6_reasonOf_53 : decode cX6_reasonOf 53 = .ok (.getfield 14, 3) := by decide +kernel
theorem dX6_reasonOf_56 : decode cX6_reasonOf 56 = .ok (.aload_n 3, 1) := by decide +kernel
theorem dX6_reasonOf_57 : decode cX6_reasonOf 57 = .ok (.getfield 68, 3) := by decide +kernel
theorem dX6_reasonOf_60 : decode cX6_reasonOf 60 = .ok (.iload 4, 2) := by decide +kernel
theorem dX6_reasonOf_62 : decode cX6_reasonOf 62 = .ok (.invokevirtual 78, 3) := by decide +kernel
theorem dX6_reasonOf_65 : decode cX6_reasonOf 65 = .ok (.iconst 0, 1) := by decide +kernel
theorem dX6_reasonOf_66 : decode cX6_reasonOf 66 = .ok (.ireturn, 1) := by decide +kernel
theorem dX7_init_0 : decode cX7_init 0 = .ok (.aload_n 0, 1) := by decide +kernel
theorem dX7_init_1 : decode cX7_init 1 = .ok (.invokespecial 3, 3) := by decide +kernel
theorem dX7_init_4 : decode cX7_init 4 = .ok (.aload_n 0, 1) := by decide +kernel
theorem dX7_init_5 : decode cX7_init 5 = .ok (.new 9, 3) := by decide +kernel
theorem dX7_init_8 : decode cX7_init 8 = .ok (.dup, 1) := by decide +kernel
theorem dX7_init_9 : decode cX7_init 9 = .ok (.invokespecial 11, 3) := by decide +kernel
theorem dX7_init_12 : decode cX7_init 12 = .ok (.putfield 12, 3) := by decide +kernel
theorem dX7_init_15 : decode cX7_init 15 = .ok (.aload_n 0, 1) := by decide +kernel
theorem dX7_init_16 : decode cX7_init 16 = .ok (.new 16, 3) := by decide +kernel
theorem dX7_init_19 : decode cX7_init 19 = .ok (.dup, 1) := by decide +kernel
theorem dX7_init_20 : decode cX7_init 20 = .ok (.invokespecial 18, 3) := by decide +kernel
theorem dX7_init_23 : decode cX7_init 23 = .ok (.putfield 19, 3) := by decide +kernel
theorem dX7_init_26 : decode cX7_init 26 = .ok (.aload_n 0, 1) := by decide +kernel
theorem dX7_init_27 : decode cX7_init 27 = .ok (.new 23, 3) := by decide +kernel
theorem dX7_init_30 : decode cX7_init 30 = .ok (.dup, 1) := by decide +kernel
theorem dX7_init_31 : decode cX7_init 31 = .ok (.bipush 60, 2) := by decide +kernel
theorem dX7_init_33 : decode cX7_init 33 = .ok (.invokespecial 25, 3) := by decide +kernel
theorem dX7_init_36 : decode cX7_init 36 = .ok (.putfield 28, 3) := by decide +kernel
theorem dX7_init_39 : decode cX7_init 39 = .ok (.aload_n 0, 1) := by decide +kernel
theorem dX7_init_40 : decode cX7_init 40 = .ok (.new 32, 3) := by decide +kernel
theorem dX7_init_43 : decode cX7_init 43 = .ok (.dup, 1) := by decide +kernel
theorem dX7_init_44 : decode cX7_init 44 = .ok (.invokespecial 34, 3) := by decide +kernel
theorem dX7_init_47 : decode cX7_init 47 = .ok (.putfield 35, 3) := by decide +kernel
theorem dX7_init_50 : decode cX7_init 50 = .ok (.aload_n 0, 1) := by decide +kernel
theorem dX7_init_51 : decode cX7_init 51 = .ok (.new 39, 3) := by decide +kernel
theorem dX7_init_54 : decode cX7_init 54 = .ok (.dup, 1) := by decide +kernel
theorem dX7_init_55 : decode cX7_init 55 = .ok (.invokespecial 41, 3) := by decide +kernel
theorem dX7_init_58 : decode cX7_init 58 = .ok (.putfield 42, 3) := by decide +kernel
theorem dX7_init_61 : decode cX7_init 61 = .ok (.aload_n 0, 1) := by decide +kernel
theorem dX7_init_62 : decode cX7_init 62 = .ok (.new 46, 3) := by decide +kernel
theorem dX7_init_65 : decode cX7_init 65 = .ok (.dup, 1) := by decide +kernel
theorem dX7_init_66 : decode cX7_init 66 = .ok (.invokespecial 48, 3) := by decide +kernel
theorem dX7_init_69 : decode cX7_init 69 = .ok (.putfield 49, 3) := by decide +kernel
theorem dX7_init_72 : decode cX7_init 72 = .ok (.return_, 1) := by decide +kernel
theorem dX7_add_0 : decode cX7_add 0 = .ok (.aload_n 0, 1) := by decide +kernel
theorem dX7_add_1 : decode cX7_add 1 = .ok (.getfield 12, 3) := by decide +kernel
theorem dX7_add_4 : decode cX7_add 4 = .ok (.iload_n 1, 1) := by decide +kernel
theorem dX7_add_5 : decode cX7_add 5 = .ok (.invokevirtual 53, 3) := by decide +kernel
theorem dX7_add_8 : decode cX7_add 8 = .ok (.astore 4, 2) := by decide +kernel
theorem dX7_add_10 : decode cX7_add 10 = .ok (.aload 4, 2) := by decide +kernel
theorem dX7_add_12 : decode cX7_add 12 = .ok (.ifnull 24, 3) := by decide +kernel
theorem dX7_add_15 : decode cX7_add 15 = .ok (.iload_n 2, 1) := by decide +kernel
theorem dX7_add_16 : decode cX7_add 16 = .ok (.iconst 0, 1) := by decide +kernel
theorem dX7_add_17 : decode cX7_add 17 = .ok (.sipush 9999, 3) := by decide +kernel
theorem dX7_add_20 : decode cX7_add 20 = .ok (.invokestatic 57, 3) := by decide +kernel
theorem dX7_add_23 : decode cX7_add 23 = .ok (.ifCond .eq 13, 3) := by decide +kernel
theorem dX7_add_26 : decode cX7_add 26 = .ok (.iload_n 3, 1) := by decide +kernel
theorem dX7_add_27 : decode cX7_add 27 = .ok (.iconst 1, 1) := by decide +kernel
theorem dX7_add_28 : decode cX7_add 28 = .ok (.bipush 20, 2) := by decide +kernel
theorem dX7_add_30 : decode cX7_add 30 = .ok (.invokestatic 57, 3) := by decide +kernel
theorem dX7_add_33 : decode cX7_add 33 = .ok (.ifCond .ne 6, 3) := by decide +kernel
theorem dX7_add_36 : decode cX7_add 36 = .ok (.ldc 61, 2) := by decide +kernel
theorem dX7_add_38 : decode cX7_add 38 = .ok (.ireturn, 1) := by decide +kernel
theorem dX7_add_39 : decode cX7_add 39 = .ok (.aload 4, 2) := by decide +kernel
theorem dX7_add_41 : decode cX7_add 41 = .ok (.invokevirtual 62, 3) := by decide +kernel
theorem dX7_add_44 : decode cX7_add 44 = .ok (.iload_n 3, 1) := by decide +kernel
theorem dX7_add_45 : decode cX7_add 45 = .ok (.iadd, 1) := by decide +kernel
theorem dX7_add_46 : decode cX7_add 46 = .ok (.sipush 200, 3) := by decide +kernel
theorem dX7_add_49 : decode cX7_add 49 = .ok (.if_icmp .le 6, 3) := by decide +kernel
theorem dX7_add_52 : decode cX7_add 52 = .ok (.ldc 68, 2) := by decide +kernel
theorem dX7_add_54 : decode cX7_add 54 = .ok (.ireturn, 1) := by decide +kernel
theorem dX7_add_55 : decode cX7_add 55 = .ok (.aload_n 0, 1) := by decide +kernel
theorem dX7_add_56 : decode cX7_add 56 = .ok (.getfield 19, 3) := by decide +kernel
theorem dX7_add_59 : decode cX7_add 59 = .ok (.aload_n 0, 1) := by decide +kernel
theorem dX7_add_60 : decode cX7_add 60 = .ok (.getfield 12, 3) := by decide +kernel
theorem dX7_add_63 : decode cX7_add 63 = .ok (.invokevirtual 69, 3) := by decide +kernel
theorem dX7_add_66 : decode cX7_add 66 = .ok (.iconst 0, 1) := by decide +kernel
theorem dX7_add_67 : decode cX7_add 67 = .ok (.istore 5, 2) := by decide +kernel
theorem dX7_add_69 : decode cX7_add 69 = .ok (.iload 5, 2) := by decide +kernel
theorem dX7_add_71 : decode cX7_add 71 = .ok (.iload_n 3, 1) := by decide +kernel
theorem dX7_add_72 : decode cX7_add 72 = .ok (.if_icmp .ge 22, 3) := by decide +kernel
theorem dX7_add_75 : decode cX7_add 75 = .ok (.aload 4, 2) := by decide +kernel
theorem dX7_add_77 : decode cX7_add 77 = .ok (.iload_n 2, 1) := by decide +kernel
theorem dX7_add_78 : decode cX7_add 78 = .ok (.aload_n 0, 1) := by decide +kernel
theorem dX7_add_79 : decode cX7_add 79 = .ok (.getfield 12, 3) := by decide +kernel
theorem dX7_add_82 : decode cX7_add 82 = .ok (.getfield 73, 3) := by decide +kernel
theorem dX7_add_85 : decode cX7_add 85 = .ok (.invokevirtual 76, 3) := by decide +kernel
theorem dX7_add_88 : decode cX7_add 88 = .ok (.iinc 5 1, 3) := by decide +kernel
theorem dX7_add_91 : decode cX7_add 91 = .ok (.goto (-22), 3) := by decide +kernel
theorem dX7_add_94 : decode cX7_add 94 = .ok (.aload 4, 2) := by decide +kernel
theorem dX7_add_96 : decode cX7_add 96 = .ok (.invokevirtual 62, 3) := by decide +kernel
theorem dX7_add_99 : decode cX7_add 99 = .ok (.ireturn, 1) := by decide +kernel
theorem dX7_pack_0 : decode cX7_pack 0 = .ok (.aload_n 0, 1) := by decide +kernel
theorem dX7_pack_1 : decode cX7_pack 1 = .ok (.getfield 12, 3) := by decide +kernel
theorem dX7_pack_4 : decode cX7_pack 4 = .ok (.iload_n 1, 1) := by decide +kernel
theorem dX7_pack_5 : decode cX7_pack 5 = .ok (.invokevirtual 53, 3) := by decide +kernel
theorem dX7_pack_8 : decode cX7_pack 8 = .ok (.astore_n 2, 1) := by decide +kernel
theorem dX7_pack_9 : decode cX7_pack 9 = .ok (.aload_n 2, 1) := by decide +kernel
theorem dX7_pack_10 : decode cX7_pack 10 = .ok (.ifnonnull 6, 3) := by decide +kernel
theorem dX7_pack_13 : decode cX7_pack 13 = .ok (.ldc 61, 2) := by decide +kernel
theorem dX7_pack_15 : decode cX7_pack 15 = .ok (.ireturn, 1) := by decide +kernel
theorem dX7_pack_16 : decode cX7_pack 16 = .ok (.aload_n 0, 1) := by decide +kernel
theorem dX7_pack_17 : decode cX7_pack 17 = .ok (.getfield 19, 3) := by decide +kernel
theorem dX7_pack_20 : decode cX7_pack 20 = .ok (.aload_n 0, 1) := by decide +kernel
theorem dX7_pack_21 : decode cX7_pack 21 = .ok (.getfield 12, 3) := by decide +kernel
theorem dX7_pack_24 : decode cX7_pack 24 = .ok (.invokevirtual 69, 3) := by decide +kernel
theorem dX7_pack_27 : decode cX7_pack 27 = .ok (.aload_n 2, 1) := by decide +kernel
theorem dX7_pack_28 : decode cX7_pack 28 = .ok (.aload_n 0, 1) := by decide +kernel
theorem dX7_pack_29 : decode cX7_pack 29 = .ok (.getfield 12, 3) := by decide +kernel
theorem dX7_pack_32 : decode cX7_pack 32 = .ok (.getfield 73, 3) := by decide +kernel
theorem dX7_pack_35 : decode cX7_pack 35 = .ok (.iconst 0, 1) := by decide +kernel
theorem dX7_pack_36 : decode cX7_pack 36 = .ok (.invokevirtual 80, 3) := by decide +kernel
theorem dX7_pack_39 : decode cX7_pack 39 = .ok (.invokevirtual 84, 3) := by decide +kernel
theorem dX7_pack_42 : decode cX7_pack 42 = .ok (.aload_n 2, 1) := by decide +kernel
theorem dX7_pack_43 : decode cX7_pack 43 = .ok (.getfield 87, 3) := by decide +kernel
theorem dX7_pack_46 : decode cX7_pack 46 = .ok (.invokevirtual 90, 3) := by decide +kernel
theorem dX7_pack_49 : decode cX7_pack 49 = .ok (.ireturn, 1) := by decide +kernel
theorem dX7_join_0 : decode cX7_join 0 = .ok (.aload_n 0, 1) := by decide +kernel
theorem dX7_join_1 : decode cX7_join 1 = .ok (.getfield 12, 3) := by decide +kernel
theorem dX7_join_4 : decode cX7_join 4 = .ok (.iload_n 1, 1) := by decide +kernel
theorem dX7_join_5 : decode cX7_join 5 = .ok (.invokevirtual 53, 3) := by decide +kernel
theorem dX7_join_8 : decode cX7_join 8 = .ok (.astore_n 3, 1) := by decide +kernel
theorem dX7_join_9 : decode cX7_join 9 = .ok (.aload_n 0, 1) := by decide +kernel
theorem dX7_join_10 : decode cX7_join 10 = .ok (.getfield 12, 3) := by decide +kernel
theorem dX7_join_13 : decode cX7_join 13 = .ok (.iload_n 2, 1) := by decide +kernel
theorem dX7_join_14 : decode cX7_join 14 = .ok (.invokevirtual 53, 3) := by decide +kernel
theorem dX7_join_17 : decode cX7_join 17 = .ok (.astore 4, 2) := by decide +kernel
theorem dX7_join_19 : decode cX7_join 19 = .ok (.aload_n 3, 1) := by decide +kernel
theorem dX7_join_20 : decode cX7_join 20 = .ok (.ifnull 13, 3) := by decide +kernel
theorem dX7_join_23 : decode cX7_join 23 = .ok (.aload 4, 2) := by decide +kernel
theorem dX7_join_25 : decode cX7_join 25 = .ok (.ifnull 8, 3) := by decide +kernel
theorem dX7_join_28 : decode cX7_join 28 = .ok (.iload_n 1, 1) := by decide +kernel
theorem dX7_join_29 : decode cX7_join 29 = .ok (.iload_n 2, 1) := by decide +kernel
theorem dX7_join_30 : decode cX7_join 30 = .ok (.if_icmp .ne 6, 3) := by decide +kernel
theorem dX7_join_33 : decode cX7_join 33 = .ok (.ldc 61, 2) := by decide +kernel
theorem dX7_join_35 : decode cX7_join 35 = .ok (.ireturn, 1) := by decide +kernel
theorem dX7_join_36 : decode cX7_join 36 = .ok (.aload_n 3, 1) := by decide +kernel
theorem dX7_join_37 : decode cX7_join 37 = .ok (.invokevirtual 62, 3) := by decide +kernel
theorem dX7_join_40 : decode cX7_join 40 = .ok (.aload 4, 2) := by decide +kernel
theorem dX7_join_42 : decode cX7_join 42 = .ok (.invokevirtual 62, 3) := by decide +kernel
theorem dX7_join_45 : decode cX7_join 45 = .ok (.iadd, 1) := by decide +kernel
theorem dX7_join_46 : decode cX7_join 46 = .ok (.sipush 200, 3) := by decide +kernel
theorem dX7_join_49 : decode cX7_join 49 = .ok (.if_icmp .le 6, 3) := by decide +kernel
theorem dX7_join_52 : decode cX7_join 52 = .ok (.ldc 68, 2) := by decide +kernel
theorem dX7_join_54 : decode cX7_join 54 = .ok (.ireturn, 1) := by decide +kernel
theorem dX7_join_55 : decode cX7_join 55 = .ok (.aload_n 0, 1) := by decide +kernel
theorem dX7_join_56 : decode cX7_join 56 = .ok (.getfield 19, 3) := by decide +kernel
theorem dX7_join_59 : decode cX7_join 59 = .ok (.aload_n 0, 1) := by decide +kernel
theorem dX7_join_60 : decode cX7_join 60 = .ok (.getfield 12, 3) := by decide +kernel
theorem dX7_join_63 : decode cX7_join 63 = .ok (.invokevirtual 69, 3) := by decide +kernel
theorem dX7_join_66 : decode cX7_join 66 = .ok (.aload 4, 2) := by decide +kernel
theorem dX7_join_68 : decode cX7_join 68 = .ok (.aload_n 3, 1) := by decide +kernel
theorem dX7_join_69 : decode cX7_join 69 = .ok (.aload_n 0, 1) := by decide +kernel
theorem dX7_join_70 : decode cX7_join 70 = .ok (.getfield 12, 3) := by decide +kernel
theorem dX7_join_73 : decode cX7_join 73 = .ok (.getfield 73, 3) := by decide +kernel
theorem dX7_join_76 : decode cX7_join 76 = .ok (.iconst 0, 1) := by decide +kernel
theorem dX7_join_77 : decode cX7_join 77 = .ok (.invokevirtual 80, 3) := by decide +kernel
theorem dX7_join_80 : decode cX7_join 80 = .ok (.invokevirtual 93, 3) := by decide +kernel
theorem dX7_join_83 : decode cX7_join 83 = .ok (.aload 4, 2) := by decide +kernel
theorem dX7_join_85 : decode cX7_join 85 = .ok (.invokevirtual 62, 3) := by decide +kernel
theorem dX7_join_88 : decode cX7_join 88 = .ok (.ireturn, 1) := by decide +kernel
theorem dX7_clear_0 : decode cX7_clear 0 = .ok (.aload_n 0, 1) := by decide +kernel
theorem dX7_clear_1 : decode cX7_clear 1 = .ok (.getfield 12, 3) := by decide +kernel
theorem dX7_clear_4 : decode cX7_clear 4 = .ok (.iload_n 1, 1) := by decide +kernel
theorem dX7_clear_5 : decode cX7_clear 5 = .ok (.invokevirtual 53, 3) := by decide +kernel
theorem dX7_clear_8 : decode cX7_clear 8 = .ok (.astore_n 2, 1) := by decide +kernel
theorem dX7_clear_9 : decode cX7_clear 9 = .ok (.aload_n 2, 1) := by decide +kernel
theorem dX7_clear_10 : decode cX7_clear 10 = .ok (.ifnonnull 6, 3) := by decide +kernel
theorem dX7_clear_13 : decode cX7_clear 13 = .ok (.ldc 61, 2) := by decide +kernel
theorem dX7_clear_15 : decode cX7_clear 15 = .ok (.ireturn, 1) := by decide +kernel
theorem dX7_clear_16 : decode cX7_clear 16 = .ok (.aload_n 0, 1) := by decide +kernel
theorem dX7_clear_17 : decode cX7_clear 17 = .ok (.getfield 19, 3) := by decide +kernel
theorem dX7_clear_20 : decode cX7_clear 20 = .ok (.aload_n 0, 1) := by decide +kernel
theorem dX7_clear_21 : decode cX7_clear 21 = .ok (.getfield 12, 3) := by decide +kernel
theorem dX7_clear_24 : decode cX7_clear 24 = .ok (.invokevirtual 69, 3) := by decide +kernel
theorem dX7_clear_27 : decode cX7_clear 27 = .ok (.aload_n 2, 1) := by decide +kernel
theorem dX7_clear_28 : decode cX7_clear 28 = .ok (.invokevirtual 62, 3) := by decide +kernel
theorem dX7_clear_31 : decode cX7_clear 31 = .ok (.istore_n 3, 1) := by decide +kernel
theorem dX7_clear_32 : decode cX7_clear 32 = .ok (.aload_n 2, 1) := by decide +kernel
theorem dX7_clear_33 : decode cX7_clear 33 = .ok (.invokevirtual 97, 3) := by decide +kernel
theorem dX7_clear_36 : decode cX7_clear 36 = .ok (.iload_n 3, 1) := by decide +kernel
theorem dX7_clear_37 : decode cX7_clear 37 = .ok (.ireturn, 1) := by decide +kernel
theorem dX7_set_0 : decode cX7_set 0 = .ok (.iload_n 1, 1) := by decide +kernel
theorem dX7_set_1 : decode cX7_set 1 = .ok (.iconst 0, 1) := by decide +kernel
theorem dX7_set_2 : decode cX7_set 2 = .ok (.iconst 1, 1) := by decide +kernel
theorem dX7_set_3 : decode cX7_set 3 = .ok (.invokestatic 57, 3) := by decide +kernel
theorem dX7_set_6 : decode cX7_set 6 = .ok (.ifCond .eq 15, 3) := by decide +kernel
theorem dX7_set_9 : decode cX7_set 9 = .ok (.iload_n 2, 1) := by decide +kernel
theorem dX7_set_10 : decode cX7_set 10 = .ok (.iconst 1, 1) := by decide +kernel
theorem dX7_set_11 : decode cX7_set 11 = .ok (.iload_n 1, 1) := by decide +kernel
theorem dX7_set_12 : decode cX7_set 12 = .ok (.invokestatic 100, 3) := by decide +kernel
theorem dX7_set_15 : decode cX7_set 15 = .ok (.invokestatic 57, 3) := by decide +kernel
theorem dX7_set_18 : decode cX7_set 18 = .ok (.ifCond .ne 6, 3) := by decide +kernel
theorem dX7_set_21 : decode cX7_set 21 = .ok (.ldc 61, 2) := by decide +kernel
theorem dX7_set_23 : decode cX7_set 23 = .ok (.ireturn, 1) := by decide +kernel
theorem dX7_set_24 : decode cX7_set 24 = .ok (.aload_n 0, 1) := by decide +kernel
theorem dX7_set_25 : decode cX7_set 25 = .ok (.getfield 19, 3) := by decide +kernel
theorem dX7_set_28 : decode cX7_set 28 = .ok (.aload_n 0, 1) := by decide +kernel
theorem dX7_set_29 : decode cX7_set 29 = .ok (.getfield 12, 3) := by decide +kernel
theorem dX7_set_32 : decode cX7_set 32 = .ok (.invokevirtual 69, 3) := by decide +kernel
theorem dX7_set_35 : decode cX7_set 35 = .ok (.aload_n 0, 1) := by decide +kernel
theorem dX7_set_36 : decode cX7_set 36 = .ok (.getfield 12, 3) := by decide +kernel
theorem dX7_set_39 : decode cX7_set 39 = .ok (.getfield 73, 3) := by decide +kernel
theorem dX7_set_42 : decode cX7_set 42 = .ok (.iload_n 1, 1) := by decide +kernel
theorem dX7_set_43 : decode cX7_set 43 = .ok (.invokevirtual 80, 3) := by decide +kernel
theorem dX7_set_46 : decode cX7_set 46 = .ok (.istore_n 3, 1) := by decide +kernel
theorem dX7_set_47 : decode cX7_set 47 = .ok (.aload_n 0, 1) := by decide +kernel
theorem dX7_set_48 : decode cX7_set 48 = .ok (.getfield 12, 3) := by decide +kernel
theorem dX7_set_51 : decode cX7_set 51 = .ok (.getfield 73, 3) := by decide +kernel
theorem dX7_set_54 : decode cX7_set 54 = .ok (.iload_n 1, 1) := by decide +kernel
theorem dX7_set_55 : decode cX7_set 55 = .ok (.iload_n 2, 1) := by decide +kernel
theorem dX7_set_56 : decode cX7_set 56 = .ok (.invokevirtual 103, 3) := by decide +kernel
theorem dX7_set_59 : decode cX7_set 59 = .ok (.iload_n 3, 1) := by decide +kernel
theorem dX7_set_60 : decode cX7_set 60 = .ok (.ireturn, 1) := by decide +kernel
theorem dX7_heapOf_0 : decode cX7_heapOf 0 = .ok (.aload_n 0, 1) := by decide +kernel
theorem dX7_heapOf_1 : decode cX7_heapOf 1 = .ok (.getfield 12, 3) := by decide +kernel
theorem dX7_heapOf_4 : decode cX7_heapOf 4 = .ok (.iload_n 1, 1) := by decide +kernel
theorem dX7_heapOf_5 : decode cX7_heapOf 5 = .ok (.invokevirtual 53, 3) := by decide +kernel
theorem dX7_heapOf_8 : decode cX7_heapOf 8 = .ok (.astore 4, 2) := by decide +kernel
theorem dX7_heapOf_10 : decode cX7_heapOf 10 = .ok (.aload 4, 2) := by decide +kernel
theorem dX7_heapOf_12 : decode cX7_heapOf 12 = .ok (.ifnull 17, 3) := by decide +kernel
theorem dX7_heapOf_15 : decode cX7_heapOf 15 = .ok (.iload_n 2, 1) := by decide +kernel
theorem dX7_heapOf_16 : decode cX7_heapOf 16 = .ok (.ifCond .lt 13, 3) := by decide +kernel
theorem dX7_heapOf_19 : decode cX7_heapOf 19 = .ok (.iload_n 3, 1) := by decide +kernel
theorem dX7_heapOf_20 : decode cX7_heapOf 20 = .ok (.iconst 0, 1) := by decide +kernel
theorem dX7_heapOf_21 : decode cX7_heapOf 21 = .ok (.bipush 6, 2) := by decide +kernel
theorem dX7_heapOf_23 : decode cX7_heapOf 23 = .ok (.invokestatic 57, 3) := by decide +kernel
theorem dX7_heapOf_26 : decode cX7_heapOf 26 = .ok (.ifCond .ne 6, 3) := by decide +kernel
theorem dX7_heapOf_29 : decode cX7_heapOf 29 = .ok (.ldc 61, 2) := by decide +kernel
theorem dX7_heapOf_31 : decode cX7_heapOf 31 = .ok (.ireturn, 1) := by decide +kernel
theorem dX7_heapOf_32 : decode cX7_heapOf 32 = .ok (.aload 4, 2) := by decide +kernel
theorem dX7_heapOf_34 : decode cX7_heapOf 34 = .ok (.getfield 87, 3) := by decide +kernel
theorem dX7_heapOf_37 : decode cX7_heapOf 37 = .ok (.astore 5, 2) := by decide +kernel
theorem dX7_heapOf_39 : decode cX7_heapOf 39 = .ok (.iload_n 2, 1) := by decide +kernel
theorem dX7_heapOf_40 : decode cX7_heapOf 40 = .ok (.aload 5, 2) := by decide +kernel
theorem dX7_heapOf_42 : decode cX7_heapOf 42 = .ok (.invokevirtual 90, 3) := by decide +kernel
theorem dX7_heapOf_45 : decode cX7_heapOf 45 = .ok (.if_icmp .lt 6, 3) := by decide +kernel
theorem dX7_heapOf_48 : decode cX7_heapOf 48 = .ok (.ldc 107, 2) := by decide +kernel
theorem dX7_heapOf_50 : decode cX7_heapOf 50 = .ok (.ireturn, 1) := by decide +kernel
theorem dX7_heapOf_51 : decode cX7_heapOf 51 = .ok (.iload_n 3, 1) := by decide +kernel
theorem dX7_heapOf_52 : decode cX7_heapOf 52 = .ok (.tableswitch 94 0 5 #[40, 50, 60, 70, 80, 87], 40) := by decide +kernel
theorem dX7_heapOf_92 : decode cX7_heapOf 92 = .ok (.aload 5, 2) := by decide +kernel
theorem dX7_heapOf_94 : decode cX7_heapOf 94 = .ok (.getfield 108, 3) := by decide +kernel
theorem dX7_heapOf_97 : decode cX7_heapOf 97 = .ok (.iload_n 2, 1) := by decide +kernel
theorem dX7_heapOf_98 : decode cX7_heapOf 98 = .ok (.invokevirtual 80, 3) := by decide +kernel
theorem dX7_heapOf_101 : decode cX7_heapOf 101 = .ok (.ireturn, 1) := by decide +kernel
theorem dX7_heapOf_102 : decode cX7_heapOf 102 = .ok (.aload 5, 2) := by decide +kernel
theorem dX7_heapOf_104 : decode cX7_heapOf 104 = .ok (.getfield 111, 3) := by decide +kernel
theorem dX7_heapOf_107 : decode cX7_heapOf 107 = .ok (.iload_n 2, 1) := by decide +kernel
theorem dX7_heapOf_108 : decode cX7_heapOf 108 = .ok (.invokevirtual 80, 3) := by decide +kernel
theorem dX7_heapOf_111 : decode cX7_heapOf 111 = .ok (.ireturn, 1) := by decide +kernel
theorem dX7_heapOf_112 : decode cX7_heapOf 112 = .ok (.aload 5, 2) := by decide +kernel
theorem dX7_heapOf_114 : decode cX7_heapOf 114 = .ok (.getfield 114, 3) := by decide +kernel
theorem dX7_heapOf_117 : decode cX7_heapOf 117 = .ok (.iload_n 2, 1) := by decide +kernel
theorem dX7_heapOf_118 : decode cX7_heapOf 118 = .ok (.invokevirtual 80, 3) := by decide +kernel
theorem dX7_heapOf_121 : decode cX7_heapOf 121 = .ok (.ireturn, 1) := by decide +kernel
theorem dX7_heapOf_122 : decode cX7_heapOf 122 = .ok (.aload 5, 2) := by decide +kernel
theorem dX7_heapOf_124 : decode cX7_heapOf 124 = .ok (.getfield 117, 3) := by decide +kernel
theorem dX7_heapOf_127 : decode cX7_heapOf 127 = .ok (.iload_n 2, 1) := by decide +kernel
theorem dX7_heapOf_128 : decode cX7_heapOf 128 = .ok (.invokevirtual 80, 3) := by decide +kernel
theorem dX7_heapOf_131 : decode cX7_heapOf 131 = .ok (.ireturn, 1) := by decide +kernel
theorem dX7_heapOf_132 : decode cX7_heapOf 132 = .ok (.aload 5, 2) := by decide +kernel
theorem dX7_heapOf_134 : decode cX7_heapOf 134 = .ok (.iload_n 2, 1) := by decide +kernel
theorem dX7_heapOf_135 : decode cX7_heapOf 135 = .ok (.invokevirtual 120, 3) := by decide +kernel
theorem dX7_heapOf_138 : decode cX7_heapOf 138 = .ok (.ireturn, 1) := by decide +kernel
theorem dX7_heapOf_139 : decode cX7_heapOf 139 = .ok (.aload 5, 2) := by decide +kernel
theorem dX7_heapOf_141 : decode cX7_heapOf 141 = .ok (.iload_n 2, 1) := by decide +kernel
theorem dX7_heapOf_142 : decode cX7_heapOf 142 = .ok (.invokevirtual 123, 3) := by decide +kernel
theorem dX7_heapOf_145 : decode cX7_heapOf 145 = .ok (.ireturn, 1) := by decide +kernel
theorem dX7_heapOf_146 : decode cX7_heapOf 146 = .ok (.aload 5, 2) := by decide +kernel
theorem dX7_heapOf_148 : decode cX7_heapOf 148 = .ok (.iload_n 2, 1) := by decide +kernel
theorem dX7_heapOf_149 : decode cX7_heapOf 149 = .ok (.invokevirtual 126, 3) := by decide +kernel
theorem dX7_heapOf_152 : decode cX7_heapOf 152 = .ok (.invokestatic 130, 3) := by decide +kernel
theorem dX7_heapOf_155 : decode cX7_heapOf 155 = .ok (.ireturn, 1) := by decide +kernel
theorem dX7_bufferOf_0 : decode cX7_bufferOf 0 = .ok (.aload_n 0, 1) := by decide +kernel
theorem dX7_bufferOf_1 : decode cX7_bufferOf 1 = .ok (.getfield 12, 3) := by decide +kernel
theorem dX7_bufferOf_4 : decode cX7_bufferOf 4 = .ok (.iload_n 1, 1) := by decide +kernel
theorem dX7_bufferOf_5 : decode cX7_bufferOf 5 = .ok (.invokevirtual 53, 3) := by decide +kernel
theorem dX7_bufferOf_8 : decode cX7_bufferOf 8 = .ok (.astore_n 3, 1) := by decide +kernel
theorem dX7_bufferOf_9 : decode cX7_bufferOf 9 = .ok (.aload_n 3, 1) := by decide +kernel
theorem dX7_bufferOf_10 : decode cX7_bufferOf 10 = .ok (.ifnull 7, 3) := by decide +kernel
theorem dX7_bufferOf_13 : decode cX7_bufferOf 13 = .ok (.iload_n 2, 1) := by decide +kernel
theorem dX7_bufferOf_14 : decode cX7_bufferOf 14 = .ok (.ifCond .ge 6, 3) := by decide +kernel
theorem dX7_bufferOf_17 : decode cX7_bufferOf 17 = .ok (.ldc 61, 2) := by decide +kernel
theorem dX7_bufferOf_19 : decode cX7_bufferOf 19 = .ok (.ireturn, 1) := by decide +kernel
theorem dX7_bufferOf_20 : decode cX7_bufferOf 20 = .ok (.iload_n 2, 1) := by decide +kernel
theorem dX7_bufferOf_21 : decode cX7_bufferOf 21 = .ok (.aload_n 3, 1) := by decide +kernel
theorem dX7_bufferOf_22 : decode cX7_bufferOf 22 = .ok (.getfield 134, 3) := by decide +kernel
theorem dX7_bufferOf_25 : decode cX7_bufferOf 25 = .ok (.invokevirtual 137, 3) := by decide +kernel
theorem dX7_bufferOf_28 : decode cX7_bufferOf 28 = .ok (.if_icmp .ge 14, 3) := by decide +kernel
theorem dX7_bufferOf_31 : decode cX7_bufferOf 31 = .ok (.aload_n 3, 1) := by decide +kernel
theorem dX7_bufferOf_32 : decode cX7_bufferOf 32 = .ok (.getfield 134, 3) := by decide +kernel
theorem dX7_bufferOf_35 : decode cX7_bufferOf 35 = .ok (.iload_n 2, 1) := by decide +kernel
theorem dX7_bufferOf_36 : decode cX7_bufferOf 36 = .ok (.invokevirtual 80, 3) := by decide +kernel
theorem dX7_bufferOf_39 : decode cX7_bufferOf 39 = .ok (.goto 5, 3) := by decide +kernel
theorem dX7_bufferOf_42 : decode cX7_bufferOf 42 = .ok (.ldc 107, 2) := by decide +kernel
theorem dX7_bufferOf_44 : decode cX7_bufferOf 44 = .ok (.ireturn, 1) := by decide +kernel
theorem dX7_digestOf_0 : decode cX7_digestOf 0 = .ok (.aload_n 0, 1) := by decide +kernel
theorem dX7_digestOf_1 : decode cX7_digestOf 1 = .ok (.getfield 12, 3) := by decide +kernel
theorem dX7_digestOf_4 : decode cX7_digestOf 4 = .ok (.iload_n 1, 1) := by decide +kernel
theorem dX7_digestOf_5 : decode cX7_digestOf 5 = .ok (.invokevirtual 53, 3) := by decide +kernel
theorem dX7_digestOf_8 : decode cX7_digestOf 8 = .ok (.astore_n 3, 1) := by decide +kernel
theorem dX7_digestOf_9 : decode cX7_digestOf 9 = .ok (.aload_n 3, 1) := by decide +kernel
theorem dX7_digestOf_10 : decode cX7_digestOf 10 = .ok (.ifnull 13, 3) := by decide +kernel
theorem dX7_digestOf_13 : decode cX7_digestOf 13 = .ok (.iload_n 2, 1) := by decide +kernel
theorem dX7_digestOf_14 : decode cX7_digestOf 14 = .ok (.iconst 0, 1) := by decide +kernel
theorem dX7_digestOf_15 : decode cX7_digestOf 15 = .ok (.bipush 8, 2) := by decide +kernel
theorem dX7_digestOf_17 : decode cX7_digestOf 17 = .ok (.invokestatic 57, 3) := by decide +kernel
theorem dX7_digestOf_20 : decode cX7_digestOf 20 = .ok (.ifCond .ne 6, 3) := by decide +kernel
theorem dX7_digestOf_23 : decode cX7_digestOf 23 = .ok (.ldc 61, 2) := by decide +kernel
theorem dX7_digestOf_25 : decode cX7_digestOf 25 = .ok (.ireturn, 1) := by decide +kernel
theorem dX7_digestOf_26 : decode cX7_digestOf 26 = .ok (.iload_n 2, 1) := by decide +kernel
theorem dX7_digestOf_27 : decode cX7_digestOf 27 = .ok (.tableswitch 144 0 7 #[45, 50, 58, 66, 83, 100, 105, 118], 45) := by decide +kernel
theorem dX7_digestOf_72 : decode cX7_digestOf 72 = .ok (.aload_n 3, 1) := by decide +kernel
theorem dX7_digestOf_73 : decode cX7_digestOf 73 = .ok (.invokevirtual 62, 3) := by decide +kernel
theorem dX7_digestOf_76 : decode cX7_digestOf 76 = .ok (.ireturn, 1) := by decide +kernel
theorem dX7_digestOf_77 : decode cX7_digestOf 77 = .ok (.aload_n 3, 1) := by decide +kernel
theorem dX7_digestOf_78 : decode cX7_digestOf 78 = .ok (.getfield 87, 3) := by decide +kernel
theorem dX7_digestOf_81 : decode cX7_digestOf 81 = .ok (.invokevirtual 90, 3) := by decide +kernel
theorem dX7_digestOf_84 : decode cX7_digestOf 84 = .ok (.ireturn, 1) := by decide +kernel
theorem dX7_digestOf_85 : decode cX7_digestOf 85 = .ok (.aload_n 3, 1) := by decide +kernel
theorem dX7_digestOf_86 : decode cX7_digestOf 86 = .ok (.getfield 134, 3) := by decide +kernel
theorem dX7_digestOf_89 : decode cX7_digestOf 89 = .ok (.invokevirtual 137, 3) := by decide +kernel
theorem dX7_digestOf_92 : decode cX7_digestOf 92 = .ok (.ireturn, 1) := by decide +kernel
theorem dX7_digestOf_93 : decode cX7_digestOf 93 = .ok (.aload_n 3, 1) := by decide +kernel
theorem dX7_digestOf_94 : decode cX7_digestOf 94 = .ok (.invokevirtual 62, 3) := by decide +kernel
theorem dX7_digestOf_97 : decode cX7_digestOf 97 = .ok (.ifCond .ne 8, 3) := by decide +kernel
theorem dX7_digestOf_100 : decode cX7_digestOf 100 = .ok (.ldc 107, 2) := by decide +kernel
theorem dX7_digestOf_102 : decode cX7_digestOf 102 = .ok (.goto 7, 3) := by decide +kernel
theorem dX7_digestOf_105 : decode cX7_digestOf 105 = .ok (.aload_n 3, 1) := by decide +kernel
theorem dX7_digestOf_106 : decode cX7_digestOf 106 = .ok (.invokevirtual 140, 3) := by decide +kernel
theorem dX7_digestOf_109 : decode cX7_digestOf 109 = .ok (.ireturn, 1) := by decide +kernel
theorem dX7_digestOf_110 : decode cX7_digestOf 110 = .ok (.aload_n 3, 1) := by decide +kernel
theorem dX7_digestOf_111 : decode cX7_digestOf 111 = .ok (.invokevirtual 62, 3) := by decide +kernel
theorem dX7_digestOf_114 : decode cX7_digestOf 114 = .ok (.ifCond .ne 8, 3) := by decide +kernel
theorem dX7_digestOf_117 : decode cX7_digestOf 117 = .ok (.ldc 107, 2) := by decide +kernel
theorem dX7_digestOf_119 : decode cX7_digestOf 119 = .ok (.goto 7, 3) := by decide +kernel
theorem dX7_digestOf_122 : decode cX7_digestOf 122 = .ok (.aload_n 3, 1) := by decide +kernel
theorem dX7_digestOf_123 : decode cX7_digestOf 123 = .ok (.invokevirtual 143, 3) := by decide +kernel
theorem dX7_digestOf_126 : decode cX7_digestOf 126 = .ok (.ireturn, 1) := by decide +kernel
theorem dX7_digestOf_127 : decode cX7_digestOf 127 = .ok (.aload_n 3, 1) := by decide +kernel
theorem dX7_digestOf_128 : decode cX7_digestOf 128 = .ok (.invokevirtual 146, 3) := by decide +kernel
theorem dX7_digestOf_131 : decode cX7_digestOf 131 = .ok (.ireturn, 1) := by decide +kernel
theorem dX7_digestOf_132 : decode cX7_digestOf 132 = .ok (.aload_n 0, 1) := by decide +kernel
theorem dX7_digestOf_133 : decode cX7_digestOf 133 = .ok (.aload_n 3, 1) := by decide +kernel
theorem dX7_digestOf_134 : decode cX7_digestOf 134 = .ok (.invokevirtual 149, 3) := by decide +kernel
theorem dX7_digestOf_137 : decode cX7_digestOf 137 = .ok (.aload_n 0, 1) := by decide +kernel
theorem dX7_digestOf_138 : decode cX7_digestOf 138 = .ok (.getfield 49, 3) := by decide +kernel
theorem dX7_digestOf_141 : decode cX7_digestOf 141 = .ok (.invokevirtual 90, 3) := by decide +kernel
theorem dX7_digestOf_144 : decode cX7_digestOf 144 = .ok (.ireturn, 1) := by decide +kernel
theorem dX7_digestOf_145 : decode cX7_digestOf 145 = .ok (.aload_n 3, 1) := by decide +kernel
theorem dX7_digestOf_146 : decode cX7_digestOf 146 = .ok (.getfield 87, 3) := by decide +kernel
theorem dX7_digestOf_149 : decode cX7_digestOf 149 = .ok (.invokevirtual 90, 3) := by decide +kernel
theorem dX7_digestOf_152 : decode cX7_digestOf 152 = .ok (.ifCond .ne 8, 3) := by decide +kernel
theorem dX7_digestOf_155 : decode cX7_digestOf 155 = .ok (.ldc 107, 2) := by decide +kernel
theorem dX7_digestOf_157 : decode cX7_digestOf 157 = .ok (.goto 13, 3) := by decide +kernel
theorem dX7_digestOf_160 : decode cX7_digestOf 160 = .ok (.aload_n 3, 1) := by decide +kernel
theorem dX7_digestOf_161 : decode cX7_digestOf 161 = .ok (.getfield 87, 3) := by decide +kernel
theorem dX7_digestOf_164 : decode cX7_digestOf 164 = .ok (.getfield 108, 3) := by decide +kernel
theorem dX7_digestOf_167 : decode cX7_digestOf 167 = .ok (.invokevirtual 153, 3) := by decide +kernel
theorem dX7_digestOf_170 : decode cX7_digestOf 170 = .ok (.ireturn, 1) := by decide +kernel
theorem dX7_digestOf_171 : decode cX7_digestOf 171 = .ok (.aload_n 3, 1) := by decide +kernel
theorem dX7_digestOf_172 : decode cX7_digestOf 172 = .ok (.getfield 154, 3) := by decide +kernel
theorem dX7_digestOf_175 : decode cX7_digestOf 175 = .ok (.ireturn, 1) := by decide +kernel
theorem dX7_quantile_0 : decode cX7_quantile 0 = .ok (.aload_n 0, 1) := by decide +kernel
theorem dX7_quantile_1 : decode cX7_quantile 1 = .ok (.getfield 12, 3) := by decide +kernel
theorem dX7_quantile_4 : decode cX7_quantile 4 = .ok (.iload_n 1, 1) := by decide +kernel
theorem dX7_quantile_5 : decode cX7_quantile 5 = .ok (.invokevirtual 53, 3) := by decide +kernel
theorem dX7_quantile_8 : decode cX7_quantile 8 = .ok (.astore_n 3, 1) := by decide +kernel
theorem dX7_quantile_9 : decode cX7_quantile 9 = .ok (.aload_n 3, 1) := by decide +kernel
theorem dX7_quantile_10 : decode cX7_quantile 10 = .ok (.ifnull 14, 3) := by decide +kernel
theorem dX7_quantile_13 : decode cX7_quantile 13 = .ok (.iload_n 2, 1) := by decide +kernel
theorem dX7_quantile_14 : decode cX7_quantile 14 = .ok (.iconst 0, 1) := by decide +kernel
theorem dX7_quantile_15 : decode cX7_quantile 15 = .ok (.sipush 1000, 3) := by decide +kernel
theorem dX7_quantile_18 : decode cX7_quantile 18 = .ok (.invokestatic 57, 3) := by decide +kernel
theorem dX7_quantile_21 : decode cX7_quantile 21 = .ok (.ifCond .ne 6, 3) := by decide +kernel
theorem dX7_quantile_24 : decode cX7_quantile 24 = .ok (.ldc 61, 2) := by decide +kernel
theorem dX7_quantile_26 : decode cX7_quantile 26 = .ok (.ireturn, 1) := by decide +kernel
theorem dX7_quantile_27 : decode cX7_quantile 27 = .ok (.aload_n 3, 1) := by decide +kernel
theorem dX7_quantile_28 : decode cX7_quantile 28 = .ok (.invokevirtual 62, 3) := by decide +kernel
theorem dX7_quantile_31 : decode cX7_quantile 31 = .ok (.ifCond .ne 6, 3) := by decide +kernel
theorem dX7_quantile_34 : decode cX7_quantile 34 = .ok (.ldc 158, 2) := by decide +kernel
theorem dX7_quantile_36 : decode cX7_quantile 36 = .ok (.ireturn, 1) := by decide +kernel
theorem dX7_quantile_37 : decode cX7_quantile 37 = .ok (.aload_n 0, 1) := by decide +kernel
theorem dX7_quantile_38 : decode cX7_quantile 38 = .ok (.aload_n 3, 1) := by decide +kernel
theorem dX7_quantile_39 : decode cX7_quantile 39 = .ok (.invokevirtual 149, 3) := by decide +kernel
theorem dX7_quantile_42 : decode cX7_quantile 42 = .ok (.aload_n 0, 1) := by decide +kernel
theorem dX7_quantile_43 : decode cX7_quantile 43 = .ok (.getfield 49, 3) := by decide +kernel
theorem dX7_quantile_46 : decode cX7_quantile 46 = .ok (.iload_n 2, 1) := by decide +kernel
theorem dX7_quantile_47 : decode cX7_quantile 47 = .ok (.invokevirtual 159, 3) := by decide +kernel
theorem dX7_quantile_50 : decode cX7_quantile 50 = .ok (.ireturn, 1) := by decide +kernel
theorem dX7_truth_0 : decode cX7_truth 0 = .ok (.aload_n 0, 1) := by decide +kernel
theorem dX7_truth_1 : decode cX7_truth 1 = .ok (.getfield 12, 3) := by decide +kernel
theorem dX7_truth_4 : decode cX7_truth 4 = .ok (.iload_n 1, 1) := by decide +kernel
theorem dX7_truth_5 : decode cX7_truth 5 = .ok (.invokevirtual 53, 3) := by decide +kernel
theorem dX7_truth_8 : decode cX7_truth 8 = .ok (.astore_n 3, 1) := by decide +kernel
theorem dX7_truth_9 : decode cX7_truth 9 = .ok (.aload_n 3, 1) := by decide +kernel
theorem dX7_truth_10 : decode cX7_truth 10 = .ok (.ifnull 14, 3) := by decide +kernel
theorem dX7_truth_13 : decode cX7_truth 13 = .ok (.iload_n 2, 1) := by decide +kernel
theorem dX7_truth_14 : decode cX7_truth 14 = .ok (.iconst 0, 1) := by decide +kernel
theorem dX7_truth_15 : decode cX7_truth 15 = .ok (.sipush 1000, 3) := by decide +kernel
theorem dX7_truth_18 : decode cX7_truth 18 = .ok (.invokestatic 57, 3) := by decide +kernel
theorem dX7_truth_21 : decode cX7_truth 21 = .ok (.ifCond .ne 6, 3) := by decide +kernel
theorem dX7_truth_24 : decode cX7_truth 24 = .ok (.ldc 61, 2) := by decide +kernel
theorem dX7_truth_26 : decode cX7_truth 26 = .ok (.ireturn, 1) := by decide +kernel
theorem dX7_truth_27 : decode cX7_truth 27 = .ok (.aload_n 3, 1) := by decide +kernel
theorem dX7_truth_28 : decode cX7_truth 28 = .ok (.invokevirtual 62, 3) := by decide +kernel
theorem dX7_truth_31 : decode cX7_truth 31 = .ok (.ifCond .ne 8, 3) := by decide +kernel
theorem dX7_truth_34 : decode cX7_truth 34 = .ok (.ldc 158, 2) := by decide +kernel
theorem dX7_truth_36 : decode cX7_truth 36 = .ok (.goto 8, 3) := by decide +kernel
theorem dX7_truth_39 : decode cX7_truth 39 = .ok (.aload_n 3, 1) := by decide +kernel
theorem dX7_truth_40 : decode cX7_truth 40 = .ok (.iload_n 2, 1) := by decide +kernel
theorem dX7_truth_41 : decode cX7_truth 41 = .ok (.invokevirtual 162, 3) := by decide +kernel
theorem dX7_truth_44 : decode cX7_truth 44 = .ok (.ireturn, 1) := by decide +kernel
theorem dX7_worst_0 : decode cX7_worst 0 = .ok (.aload_n 0, 1) := by decide +kernel
theorem dX7_worst_1 : decode cX7_worst 1 = .ok (.getfield 12, 3) := by decide +kernel
theorem dX7_worst_4 : decode cX7_worst 4 = .ok (.iload_n 1, 1) := by decide +kernel
theorem dX7_worst_5 : decode cX7_worst 5 = .ok (.invokevirtual 53, 3) := by decide +kernel
theorem dX7_worst_8 : decode cX7_worst 8 = .ok (.astore_n 3, 1) := by decide +kernel
theorem dX7_worst_9 : decode cX7_worst 9 = .ok (.aload_n 3, 1) := by decide +kernel
theorem dX7_worst_10 : decode cX7_worst 10 = .ok (.ifnull 12, 3) := by decide +kernel
theorem dX7_worst_13 : decode cX7_worst 13 = .ok (.iload_n 2, 1) := by decide +kernel
theorem dX7_worst_14 : decode cX7_worst 14 = .ok (.iconst 0, 1) := by decide +kernel
theorem dX7_worst_15 : decode cX7_worst 15 = .ok (.iconst 1, 1) := by decide +kernel
theorem dX7_worst_16 : decode cX7_worst 16 = .ok (.invokestatic 57, 3) := by decide +kernel
theorem dX7_worst_19 : decode cX7_worst 19 = .ok (.ifCond .ne 6, 3) := by decide +kernel
theorem dX7_worst_22 : decode cX7_worst 22 = .ok (.ldc 61, 2) := by decide +kernel
theorem dX7_worst_24 : decode cX7_worst 24 = .ok (.ireturn, 1) := by decide +kernel
theorem dX7_worst_25 : decode cX7_worst 25 = .ok (.aload_n 3, 1) := by decide +kernel
theorem dX7_worst_26 : decode cX7_worst 26 = .ok (.invokevirtual 62, 3) := by decide +kernel
theorem dX7_worst_29 : decode cX7_worst 29 = .ok (.ifCond .ne 6, 3) := by decide +kernel
theorem dX7_worst_32 : decode cX7_worst 32 = .ok (.ldc 158, 2) := by decide +kernel
theorem dX7_worst_34 : decode cX7_worst 34 = .ok (.ireturn, 1) := by decide +kernel
theorem dX7_worst_35 : decode cX7_worst 35 = .ok (.aload_n 0, 1) := by decide +kernel
theorem dX7_worst_36 : decode cX7_worst 36 = .ok (.aload_n 3, 1) := by decide +kernel
theorem dX7_worst_37 : decode cX7_worst 37 = .ok (.invokevirtual 149, 3) := by decide +kernel
theorem dX7_worst_40 : decode cX7_worst 40 = .ok (.iconst (-1), 1) := by decide +kernel
theorem dX7_worst_41 : decode cX7_worst 41 = .ok (.istore 4, 2) := by decide +kernel
theorem dX7_worst_43 : decode cX7_worst 43 = .ok (.iconst 0, 1) := by decide +kernel
theorem dX7_worst_44 : decode cX7_worst 44 = .ok (.istore 5, 2) := by decide +kernel
theorem dX7_worst_46 : decode cX7_worst 46 = .ok (.iconst 0, 1) := by decide +kernel
theorem dX7_worst_47 : decode cX7_worst 47 = .ok (.istore 6, 2) := by decide +kernel
theorem dX7_worst_49 : decode cX7_worst 49 = .ok (.iload 6, 2) := by decide +kernel
theorem dX7_worst_51 : decode cX7_worst 51 = .ok (.sipush 1000, 3) := by decide +kernel
theorem dX7_worst_54 : decode cX7_worst 54 = .ok (.if_icmp .gt 45, 3) := by decide +kernel
theorem dX7_worst_57 : decode cX7_worst 57 = .ok (.aload_n 0, 1) := by decide +kernel
theorem dX7_worst_58 : decode cX7_worst 58 = .ok (.getfield 49, 3) := by decide +kernel
theorem dX7_worst_61 : decode cX7_worst 61 = .ok (.iload 6, 2) := by decide +kernel
theorem dX7_worst_63 : decode cX7_worst 63 = .ok (.invokevirtual 159, 3) := by decide +kernel
theorem dX7_worst_66 : decode cX7_worst 66 = .ok (.aload_n 3, 1) := by decide +kernel
theorem dX7_worst_67 : decode cX7_worst 67 = .ok (.iload 6, 2) := by decide +kernel
theorem dX7_worst_69 : decode cX7_worst 69 = .ok (.invokevirtual 162, 3) := by decide +kernel
theorem dX7_worst_72 : decode cX7_worst 72 = .ok (.isub, 1) := by decide +kernel
theorem dX7_worst_73 : decode cX7_worst 73 = .ok (.invokestatic 165, 3) := by decide +kernel
theorem dX7_worst_76 : decode cX7_worst 76 = .ok (.istore 7, 2) := by decide +kernel
theorem dX7_worst_78 : decode cX7_worst 78 = .ok (.iload 7, 2) := by decide +kernel
theorem dX7_worst_80 : decode cX7_worst 80 = .ok (.iload 4, 2) := by decide +kernel
theorem dX7_worst_82 : decode cX7_worst 82 = .ok (.if_icmp .le 11, 3) := by decide +kernel
theorem dX7_worst_85 : decode cX7_worst 85 = .ok (.iload 7, 2) := by decide +kernel
theorem dX7_worst_87 : decode cX7_worst 87 = .ok (.istore 4, 2) := by decide +kernel
theorem dX7_worst_89 : decode cX7_worst 89 = .ok (.iload 6, 2) := by decide +kernel
theorem dX7_worst_91 : decode cX7_worst 91 = .ok (.istore 5, 2) := by decide +kernel
theorem dX7_worst_93 : decode cX7_worst 93 = .ok (.iinc 6 100, 3) := by decide +kernel
theorem dX7_worst_96 : decode cX7_worst 96 = .ok (.goto (-47), 3) := by decide +kernel
theorem dX7_worst_99 : decode cX7_worst 99 = .ok (.iload_n 2, 1) := by decide +kernel
theorem dX7_worst_100 : decode cX7_worst 100 = .ok (.ifCond .ne 8, 3) := by decide +kernel
theorem dX7_worst_103 : decode cX7_worst 103 = .ok (.iload 5, 2) := by decide +kernel
theorem dX7_worst_105 : decode cX7_worst 105 = .ok (.goto 5, 3) := by decide +kernel
theorem dX7_worst_108 : decode cX7_worst 108 = .ok (.iload 4, 2) := by decide +kernel
theorem dX7_worst_110 : decode cX7_worst 110 = .ok (.ireturn, 1) := by decide +kernel
theorem dX7_rank_0 : decode cX7_rank 0 = .ok (.aload_n 0, 1) := by decide +kernel
theorem dX7_rank_1 : decode cX7_rank 1 = .ok (.getfield 12, 3) := by decide +kernel
theorem dX7_rank_4 : decode cX7_rank 4 = .ok (.iload_n 1, 1) := by decide +kernel
theorem dX7_rank_5 : decode cX7_rank 5 = .ok (.invokevirtual 53, 3) := by decide +kernel
theorem dX7_rank_8 : decode cX7_rank 8 = .ok (.astore_n 3, 1) := by decide +kernel
theorem dX7_rank_9 : decode cX7_rank 9 = .ok (.aload_n 3, 1) := by decide +kernel
theorem dX7_rank_10 : decode cX7_rank 10 = .ok (.ifnull 14, 3) := by decide +kernel
theorem dX7_rank_13 : decode cX7_rank 13 = .ok (.iload_n 2, 1) := by decide +kernel
theorem dX7_rank_14 : decode cX7_rank 14 = .ok (.iconst 0, 1) := by decide +kernel
theorem dX7_rank_15 : decode cX7_rank 15 = .ok (.sipush 9999, 3) := by decide +kernel
theorem dX7_rank_18 : decode cX7_rank 18 = .ok (.invokestatic 57, 3) := by decide +kernel
theorem dX7_rank_21 : decode cX7_rank 21 = .ok (.ifCond .ne 6, 3) := by decide +kernel
theorem dX7_rank_24 : decode cX7_rank 24 = .ok (.ldc 61, 2) := by decide +kernel
theorem dX7_rank_26 : decode cX7_rank 26 = .ok (.ireturn, 1) := by decide +kernel
theorem dX7_rank_27 : decode cX7_rank 27 = .ok (.aload_n 3, 1) := by decide +kernel
theorem dX7_rank_28 : decode cX7_rank 28 = .ok (.invokevirtual 62, 3) := by decide +kernel
theorem dX7_rank_31 : decode cX7_rank 31 = .ok (.ifCond .ne 6, 3) := by decide +kernel
theorem dX7_rank_34 : decode cX7_rank 34 = .ok (.ldc 158, 2) := by decide +kernel
theorem dX7_rank_36 : decode cX7_rank 36 = .ok (.ireturn, 1) := by decide +kernel
theorem dX7_rank_37 : decode cX7_rank 37 = .ok (.aload_n 0, 1) := by decide +kernel
theorem dX7_rank_38 : decode cX7_rank 38 = .ok (.aload_n 3, 1) := by decide +kernel
theorem dX7_rank_39 : decode cX7_rank 39 = .ok (.invokevirtual 149, 3) := by decide +kernel
theorem dX7_rank_42 : decode cX7_rank 42 = .ok (.aload_n 0, 1) := by decide +kernel
theorem dX7_rank_43 : decode cX7_rank 43 = .ok (.getfield 49, 3) := by decide +kernel
theorem dX7_rank_46 : decode cX7_rank 46 = .ok (.iload_n 2, 1) := by decide +kernel
theorem dX7_rank_47 : decode cX7_rank 47 = .ok (.invokevirtual 170, 3) := by decide +kernel
theorem dX7_rank_50 : decode cX7_rank 50 = .ok (.ireturn, 1) := by decide +kernel
theorem dX7_width_0 : decode cX7_width 0 = .ok (.aload_n 0, 1) := by decide +kernel
theorem dX7_width_1 : decode cX7_width 1 = .ok (.getfield 12, 3) := by decide +kernel
theorem dX7_width_4 : decode cX7_width 4 = .ok (.iload_n 1, 1) := by decide +kernel
theorem dX7_width_5 : decode cX7_width 5 = .ok (.invokevirtual 53, 3) := by decide +kernel
theorem dX7_width_8 : decode cX7_width 8 = .ok (.astore_n 3, 1) := by decide +kernel
theorem dX7_width_9 : decode cX7_width 9 = .ok (.aload_n 3, 1) := by decide +kernel
theorem dX7_width_10 : decode cX7_width 10 = .ok (.ifnull 14, 3) := by decide +kernel
theorem dX7_width_13 : decode cX7_width 13 = .ok (.iload_n 2, 1) := by decide +kernel
theorem dX7_width_14 : decode cX7_width 14 = .ok (.iconst 0, 1) := by decide +kernel
theorem dX7_width_15 : decode cX7_width 15 = .ok (.sipush 1000, 3) := by decide +kernel
theorem dX7_width_18 : decode cX7_width 18 = .ok (.invokestatic 57, 3) := by decide +kernel
theorem dX7_width_21 : decode cX7_width 21 = .ok (.ifCond .ne 6, 3) := by decide +kernel
theorem dX7_width_24 : decode cX7_width 24 = .ok (.ldc 61, 2) := by decide +kernel
theorem dX7_width_26 : decode cX7_width 26 = .ok (.ireturn, 1) := by decide +kernel
theorem dX7_width_27 : decode cX7_width 27 = .ok (.aload_n 3, 1) := by decide +kernel
theorem dX7_width_28 : decode cX7_width 28 = .ok (.invokevirtual 62, 3) := by decide +kernel
theorem dX7_width_31 : decode cX7_width 31 = .ok (.ifCond .ne 6, 3) := by decide +kernel
theorem dX7_width_34 : decode cX7_width 34 = .ok (.ldc 158, 2) := by decide +kernel
theorem dX7_width_36 : decode cX7_width 36 = .ok (.ireturn, 1) := by decide +kernel
theorem dX7_width_37 : decode cX7_width 37 = .ok (.aload_n 0, 1) := by decide +kernel
theorem dX7_width_38 : decode cX7_width 38 = .ok (.aload_n 3, 1) := by decide +kernel
theorem dX7_width_39 : decode cX7_width 39 = .ok (.invokevirtual 149, 3) := by decide +kernel
theorem dX7_width_42 : decode cX7_width 42 = .ok (.aload_n 0, 1) := by decide +kernel
theorem dX7_width_43 : decode cX7_width 43 = .ok (.getfield 49, 3) := by decide +kernel
theorem dX7_width_46 : decode cX7_width 46 = .ok (.iload_n 2, 1) := by decide +kernel
theorem dX7_width_47 : decode cX7_width 47 = .ok (.aload_n 3, 1) := by decide +kernel
theorem dX7_width_48 : decode cX7_width 48 = .ok (.invokevirtual 62, 3) := by decide +kernel
theorem dX7_width_51 : decode cX7_width 51 = .ok (.invokestatic 173, 3) := by decide +kernel
theorem dX7_width_54 : decode cX7_width 54 = .ok (.invokevirtual 177, 3) := by decide +kernel
theorem dX7_width_57 : decode cX7_width 57 = .ok (.ireturn, 1) := by decide +kernel
theorem dX7_settingFor_0 : decode cX7_settingFor 0 = .ok (.aload_n 0, 1) := by decide +kernel
theorem dX7_settingFor_1 : decode cX7_settingFor 1 = .ok (.getfield 12, 3) := by decide +kernel
theorem dX7_settingFor_4 : decode cX7_settingFor 4 = .ok (.iload_n 1, 1) := by decide +kernel
theorem dX7_settingFor_5 : decode cX7_settingFor 5 = .ok (.invokevirtual 53, 3) := by decide +kernel
theorem dX7_settingFor_8 : decode cX7_settingFor 8 = .ok (.astore_n 3, 1) := by decide +kernel
theorem dX7_settingFor_9 : decode cX7_settingFor 9 = .ok (.aload_n 3, 1) := by decide +kernel
theorem dX7_settingFor_10 : decode cX7_settingFor 10 = .ok (.ifnull 13, 3) := by decide +kernel
theorem dX7_settingFor_13 : decode cX7_settingFor 13 = .ok (.iload_n 2, 1) := by decide +kernel
theorem dX7_settingFor_14 : decode cX7_settingFor 14 = .ok (.iconst 1, 1) := by decide +kernel
theorem dX7_settingFor_15 : decode cX7_settingFor 15 = .ok (.bipush 60, 2) := by decide +kernel
theorem dX7_settingFor_17 : decode cX7_settingFor 17 = .ok (.invokestatic 57, 3) := by decide +kernel
theorem dX7_settingFor_20 : decode cX7_settingFor 20 = .ok (.ifCond .ne 6, 3) := by decide +kernel
theorem dX7_settingFor_23 : decode cX7_settingFor 23 = .ok (.ldc 61, 2) := by decide +kernel
theorem dX7_settingFor_25 : decode cX7_settingFor 25 = .ok (.ireturn, 1) := by decide +kernel
theorem dX7_settingFor_26 : decode cX7_settingFor 26 = .ok (.iconst 1, 1) := by decide +kernel
theorem dX7_settingFor_27 : decode cX7_settingFor 27 = .ok (.istore 4, 2) := by decide +kernel
theorem dX7_settingFor_29 : decode cX7_settingFor 29 = .ok (.iload 4, 2) := by decide +kernel
theorem dX7_settingFor_31 : decode cX7_settingFor 31 = .ok (.bipush 60, 2) := by decide +kernel
theorem dX7_settingFor_33 : decode cX7_settingFor 33 = .ok (.if_icmp .gt 50, 3) := by decide +kernel
theorem dX7_settingFor_36 : decode cX7_settingFor 36 = .ok (.aload_n 0, 1) := by decide +kernel
theorem dX7_settingFor_37 : decode cX7_settingFor 37 = .ok (.getfield 49, 3) := by decide +kernel
theorem dX7_settingFor_40 : decode cX7_settingFor 40 = .ok (.invokevirtual 180, 3) := by decide +kernel
theorem dX7_settingFor_43 : decode cX7_settingFor 43 = .ok (.aload_n 0, 1) := by decide +kernel
theorem dX7_settingFor_44 : decode cX7_settingFor 44 = .ok (.getfield 49, 3) := by decide +kernel
theorem dX7_settingFor_47 : decode cX7_settingFor 47 = .ok (.aload_n 3, 1) := by decide +kernel
theorem dX7_settingFor_48 : decode cX7_settingFor 48 = .ok (.getfield 181, 3) := by decide +kernel
theorem dX7_settingFor_51 : decode cX7_settingFor 51 = .ok (.invokevirtual 184, 3) := by decide +kernel
theorem dX7_settingFor_54 : decode cX7_settingFor 54 = .ok (.aload_n 0, 1) := by decide +kernel
theorem dX7_settingFor_55 : decode cX7_settingFor 55 = .ok (.getfield 49, 3) := by decide +kernel
theorem dX7_settingFor_58 : decode cX7_settingFor 58 = .ok (.iload 4, 2) := by decide +kernel
theorem dX7_settingFor_60 : decode cX7_settingFor 60 = .ok (.invokevirtual 188, 3) := by decide +kernel
theorem dX7_settingFor_63 : decode cX7_settingFor 63 = .ok (.aload_n 0, 1) := by decide +kernel
theorem dX7_settingFor_64 : decode cX7_settingFor 64 = .ok (.getfield 49, 3) := by decide +kernel
theorem dX7_settingFor_67 : decode cX7_settingFor 67 = .ok (.invokevirtual 90, 3) := by decide +kernel
theorem dX7_settingFor_70 : decode cX7_settingFor 70 = .ok (.iload_n 2, 1) := by decide +kernel
theorem dX7_settingFor_71 : decode cX7_settingFor 71 = .ok (.if_icmp .lt 6, 3) := by decide +kernel
theorem dX7_settingFor_74 : decode cX7_settingFor 74 = .ok (.iload 4, 2) := by decide +kernel
theorem dX7_settingFor_76 : decode cX7_settingFor 76 = .ok (.ireturn, 1) := by decide +kernel
theorem dX7_settingFor_77 : decode cX7_settingFor 77 = .ok (.iinc 4 1, 3) := by decide +kernel
theorem dX7_settingFor_80 : decode cX7_settingFor 80 = .ok (.goto (-51), 3) := by decide +kernel
theorem dX7_settingFor_83 : decode cX7_settingFor 83 = .ok (.ldc 107, 2) := by decide +kernel
theorem dX7_settingFor_85 : decode cX7_settingFor 85 = .ok (.ireturn, 1) := by decide +kernel
theorem dX7_count_0 : decode cX7_count 0 = .ok (.iload_n 1, 1) := by decide +kernel
theorem dX7_count_1 : decode cX7_count 1 = .ok (.lookupswitch 115 #[(0, 59), (1, 67), (2, 75), (3, 83), (20, 91), (21, 103)], 59) := by decide +kernel
theorem dX7_count_60 : decode cX7_count 60 = .ok (.aload_n 0, 1) := by decide +kernel
theorem dX7_count_61 : decode cX7_count 61 = .ok (.getfield 12, 3) := by decide +kernel
theorem dX7_count_64 : decode cX7_count 64 = .ok (.invokevirtual 189, 3) := by decide +kernel
theorem dX7_count_67 : decode cX7_count 67 = .ok (.ireturn, 1) := by decide +kernel
theorem dX7_count_68 : decode cX7_count 68 = .ok (.aload_n 0, 1) := by decide +kernel
theorem dX7_count_69 : decode cX7_count 69 = .ok (.getfield 12, 3) := by decide +kernel
theorem dX7_count_72 : decode cX7_count 72 = .ok (.invokevirtual 190, 3) := by decide +kernel
theorem dX7_count_75 : decode cX7_count 75 = .ok (.ireturn, 1) := by decide +kernel
theorem dX7_count_76 : decode cX7_count 76 = .ok (.aload_n 0, 1) := by decide +kernel
theorem dX7_count_77 : decode cX7_count 77 = .ok (.getfield 19, 3) := by decide +kernel
theorem dX7_count_80 : decode cX7_count 80 = .ok (.invokevirtual 193, 3) := by decide +kernel
theorem dX7_count_83 : decode cX7_count 83 = .ok (.ireturn, 1) := by decide +kernel
theorem dX7_count_84 : decode cX7_count 84 = .ok (.aload_n 0, 1) := by decide +kernel
theorem dX7_count_85 : decode cX7_count 85 = .ok (.getfield 28, 3) := by decide +kernel
theorem dX7_count_88 : decode cX7_count 88 = .ok (.invokevirtual 137, 3) := by decide +kernel
theorem dX7_count_91 : decode cX7_count 91 = .ok (.ireturn, 1) := by decide +kernel
theorem dX7_count_92 : decode cX7_count 92 = .ok (.aload_n 0, 1) := by decide +kernel
theorem dX7_count_93 : decode cX7_count 93 = .ok (.getfield 12, 3) := by decide +kernel
theorem dX7_count_96 : decode cX7_count 96 = .ok (.getfield 73, 3) := by decide +kernel
theorem dX7_count_99 : decode cX7_count 99 = .ok (.iconst 0, 1) := by decide +kernel
theorem dX7_count_100 : decode cX7_count 100 = .ok (.invokevirtual 80, 3) := by decide +kernel
theorem dX7_count_103 : decode cX7_count 103 = .ok (.ireturn, 1) := by decide +kernel
theorem dX7_count_104 : decode cX7_count 104 = .ok (.aload_n 0, 1) := by decide +kernel
theorem dX7_count_105 : decode cX7_count 105 = .ok (.getfield 12, 3) := by decide +kernel
theorem dX7_count_108 : decode cX7_count 108 = .ok (.getfield 73, 3) := by decide +kernel
theorem dX7_count_111 : decode cX7_count 111 = .ok (.iconst 1, 1) := by decide +kernel
theorem dX7_count_112 : decode cX7_count 112 = .ok (.invokevirtual 80, 3) := by decide +kernel
theorem dX7_count_115 : decode cX7_count 115 = .ok (.ireturn, 1) := by decide +kernel
theorem dX7_count_116 : decode cX7_count 116 = .ok (.ldc 61, 2) := by decide +kernel
theorem dX7_count_118 : decode cX7_count 118 = .ok (.ireturn, 1) := by decide +kernel
theorem dX7_undo_0 : decode cX7_undo 0 = .ok (.aload_n 0, 1) := by decide +kernel
theorem dX7_undo_1 : decode cX7_undo 1 = .ok (.getfield 19, 3) := by decide +kernel
theorem dX7_undo_4 : decode cX7_undo 4 = .ok (.invokevirtual 193, 3) := by decide +kernel
theorem dX7_undo_7 : decode cX7_undo 7 = .ok (.ifCond .ne 6, 3) := by decide +kernel
theorem dX7_undo_10 : decode cX7_undo 10 = .ok (.ldc 158, 2) := by decide +kernel
theorem dX7_undo_12 : decode cX7_undo 12 = .ok (.ireturn, 1) := by decide +kernel
theorem dX7_undo_13 : decode cX7_undo 13 = .ok (.aload_n 0, 1) := by decide +kernel
theorem dX7_undo_14 : decode cX7_undo 14 = .ok (.getfield 19, 3) := by decide +kernel
theorem dX7_undo_17 : decode cX7_undo 17 = .ok (.aload_n 0, 1) := by decide +kernel
theorem dX7_undo_18 : decode cX7_undo 18 = .ok (.getfield 12, 3) := by decide +kernel
theorem dX7_undo_21 : decode cX7_undo 21 = .ok (.invokevirtual 194, 3) := by decide +kernel
theorem dX7_undo_24 : decode cX7_undo 24 = .ok (.aload_n 0, 1) := by decide +kernel
theorem dX7_undo_25 : decode cX7_undo 25 = .ok (.getfield 19, 3) := by decide +kernel
theorem dX7_undo_28 : decode cX7_undo 28 = .ok (.invokevirtual 193, 3) := by decide +kernel
theorem dX7_undo_31 : decode cX7_undo 31 = .ok (.ireturn, 1) := by decide +kernel
theorem dX7_type_0 : decode cX7_type 0 = .ok (.iload_n 1, 1) := by decide +kernel
theorem dX7_type_1 : decode cX7_type 1 = .ok (.bipush 32, 2) := by decide +kernel
theorem dX7_type_3 : decode cX7_type 3 = .ok (.bipush 126, 2) := by decide +kernel
theorem dX7_type_5 : decode cX7_type 5 = .ok (.invokestatic 57, 3) := by decide +kernel
theorem dX7_type_8 : decode cX7_type 8 = .ok (.ifCond .ne 6, 3) := by decide +kernel
theorem dX7_type_11 : decode cX7_type 11 = .ok (.ldc 61, 2) := by decide +kernel
theorem dX7_type_13 : decode cX7_type 13 = .ok (.ireturn, 1) := by decide +kernel
theorem dX7_type_14 : decode cX7_type 14 = .ok (.aload_n 0, 1) := by decide +kernel
theorem dX7_type_15 : decode cX7_type 15 = .ok (.getfield 28, 3) := by decide +kernel
theorem dX7_type_18 : decode cX7_type 18 = .ok (.invokevirtual 137, 3) := by decide +kernel
theorem dX7_type_21 : decode cX7_type 21 = .ok (.bipush 60, 2) := by decide +kernel
theorem dX7_type_23 : decode cX7_type 23 = .ok (.if_icmp .lt 6, 3) := by decide +kernel
theorem dX7_type_26 : decode cX7_type 26 = .ok (.ldc 68, 2) := by decide +kernel
theorem dX7_type_28 : decode cX7_type 28 = .ok (.ireturn, 1) := by decide +kernel
