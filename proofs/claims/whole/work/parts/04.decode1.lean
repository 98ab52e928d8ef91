theorem dX1_between_49 : decode cX1_between 49 = .ok (.lload 4, 2) := by decide +kernel
theorem dX1_between_51 : decode cX1_between 51 = .ok (.lsub, 1) := by decide +kernel
theorem dX1_between_52 : decode cX1_between 52 = .ok (.lmul, 1) := by decide +kernel
theorem dX1_between_53 : decode cX1_between 53 = .ok (.ladd, 1) := by decide +kernel
theorem dX1_between_54 : decode cX1_between 54 = .ok (.lload 16, 2) := by decide +kernel
theorem dX1_between_56 : decode cX1_between 56 = .ok (.invokestatic 104, 3) := by decide +kernel
theorem dX1_between_59 : decode cX1_between 59 = .ok (.l2i, 1) := by decide +kernel
theorem dX1_between_60 : decode cX1_between 60 = .ok (.ireturn, 1) := by decide +kernel
theorem dX1_greatestQAtMost_0 : decode cX1_greatestQAtMost 0 = .ok (.iconst (-1), 1) := by decide +kernel
theorem dX1_greatestQAtMost_1 : decode cX1_greatestQAtMost 1 = .ok (.istore_n 2, 1) := by decide +kernel
theorem dX1_greatestQAtMost_2 : decode cX1_greatestQAtMost 2 = .ok (.sipush 512, 3) := by decide +kernel
theorem dX1_greatestQAtMost_5 : decode cX1_greatestQAtMost 5 = .ok (.istore_n 3, 1) := by decide +kernel
theorem dX1_greatestQAtMost_6 : decode cX1_greatestQAtMost 6 = .ok (.iload_n 3, 1) := by decide +kernel
theorem dX1_greatestQAtMost_7 : decode cX1_greatestQAtMost 7 = .ok (.ifCond .le 34, 3) := by decide +kernel
theorem dX1_greatestQAtMost_10 : decode cX1_greatestQAtMost 10 = .ok (.iload_n 2, 1) := by decide +kernel
theorem dX1_greatestQAtMost_11 : decode cX1_greatestQAtMost 11 = .ok (.iload_n 3, 1) := by decide +kernel
theorem dX1_greatestQAtMost_12 : decode cX1_greatestQAtMost 12 = .ok (.iadd, 1) := by decide +kernel
theorem dX1_greatestQAtMost_13 : decode cX1_greatestQAtMost 13 = .ok (.sipush 1000, 3) := by decide +kernel
theorem dX1_greatestQAtMost_16 : decode cX1_greatestQAtMost 16 = .ok (.if_icmp .gt 18, 3) := by decide +kernel
theorem dX1_greatestQAtMost_19 : decode cX1_greatestQAtMost 19 = .ok (.aload_n 0, 1) := by decide +kernel
theorem dX1_greatestQAtMost_20 : decode cX1_greatestQAtMost 20 = .ok (.iload_n 2, 1) := by decide +kernel
theorem dX1_greatestQAtMost_21 : decode cX1_greatestQAtMost 21 = .ok (.iload_n 3, 1) := by decide +kernel
theorem dX1_greatestQAtMost_22 : decode cX1_greatestQAtMost 22 = .ok (.iadd, 1) := by decide +kernel
theorem dX1_greatestQAtMost_23 : decode cX1_greatestQAtMost 23 = .ok (.invokevirtual 108, 3) := by decide +kernel
theorem dX1_greatestQAtMost_26 : decode cX1_greatestQAtMost 26 = .ok (.iload_n 1, 1) := by decide +kernel
theorem dX1_greatestQAtMost_27 : decode cX1_greatestQAtMost 27 = .ok (.if_icmp .gt 7, 3) := by decide +kernel
theorem dX1_greatestQAtMost_30 : decode cX1_greatestQAtMost 30 = .ok (.iload_n 2, 1) := by decide +kernel
theorem dX1_greatestQAtMost_31 : decode cX1_greatestQAtMost 31 = .ok (.iload_n 3, 1) := by decide +kernel
theorem dX1_greatestQAtMost_32 : decode cX1_greatestQAtMost 32 = .ok (.iadd, 1) := by decide +kernel
theorem dX1_greatestQAtMost_33 : decode cX1_greatestQAtMost 33 = .ok (.istore_n 2, 1) := by decide +kernel
theorem dX1_greatestQAtMost_34 : decode cX1_greatestQAtMost 34 = .ok (.iload_n 3, 1) := by decide +kernel
theorem dX1_greatestQAtMost_35 : decode cX1_greatestQAtMost 35 = .ok (.iconst 2, 1) := by decide +kernel
theorem dX1_greatestQAtMost_36 : decode cX1_greatestQAtMost 36 = .ok (.idiv, 1) := by decide +kernel
theorem dX1_greatestQAtMost_37 : decode cX1_greatestQAtMost 37 = .ok (.istore_n 3, 1) := by decide +kernel
theorem dX1_greatestQAtMost_38 : decode cX1_greatestQAtMost 38 = .ok (.goto (-32), 3) := by decide +kernel
theorem dX1_greatestQAtMost_41 : decode cX1_greatestQAtMost 41 = .ok (.iload_n 2, 1) := by decide +kernel
theorem dX1_greatestQAtMost_42 : decode cX1_greatestQAtMost 42 = .ok (.ireturn, 1) := by decide +kernel
theorem dX1_widthAt_0 : decode cX1_widthAt 0 = .ok (.iconst 0, 1) := by decide +kernel
theorem dX1_widthAt_1 : decode cX1_widthAt 1 = .ok (.istore_n 2, 1) := by decide +kernel
theorem dX1_widthAt_2 : decode cX1_widthAt 2 = .ok (.iconst 0, 1) := by decide +kernel
theorem dX1_widthAt_3 : decode cX1_widthAt 3 = .ok (.istore_n 3, 1) := by decide +kernel
theorem dX1_widthAt_4 : decode cX1_widthAt 4 = .ok (.iload_n 3, 1) := by decide +kernel
theorem dX1_widthAt_5 : decode cX1_widthAt 5 = .ok (.aload_n 0, 1) := by decide +kernel
theorem dX1_widthAt_6 : decode cX1_widthAt 6 = .ok (.invokevirtual 50, 3) := by decide +kernel
theorem dX1_widthAt_9 : decode cX1_widthAt 9 = .ok (.if_icmp .ge 43, 3) := by decide +kernel
theorem dX1_widthAt_12 : decode cX1_widthAt 12 = .ok (.iload_n 2, 1) := by decide +kernel
theorem dX1_widthAt_13 : decode cX1_widthAt 13 = .ok (.aload_n 0, 1) := by decide +kernel
theorem dX1_widthAt_14 : decode cX1_widthAt 14 = .ok (.getfield 14, 3) := by decide +kernel
theorem dX1_widthAt_17 : decode cX1_widthAt 17 = .ok (.iload_n 3, 1) := by decide +kernel
theorem dX1_widthAt_18 : decode cX1_widthAt 18 = .ok (.invokevirtual 40, 3) := by decide +kernel
theorem dX1_widthAt_21 : decode cX1_widthAt 21 = .ok (.iadd, 1) := by decide +kernel
theorem dX1_widthAt_22 : decode cX1_widthAt 22 = .ok (.istore_n 2, 1) := by decide +kernel
theorem dX1_widthAt_23 : decode cX1_widthAt 23 = .ok (.iload_n 2, 1) := by decide +kernel
theorem dX1_widthAt_24 : decode cX1_widthAt 24 = .ok (.iload_n 1, 1) := by decide +kernel
theorem dX1_widthAt_25 : decode cX1_widthAt 25 = .ok (.if_icmp .le 21, 3) := by decide +kernel
theorem dX1_widthAt_28 : decode cX1_widthAt 28 = .ok (.aload_n 0, 1) := by decide +kernel
theorem dX1_widthAt_29 : decode cX1_widthAt 29 = .ok (.getfield 26, 3) := by decide +kernel
theorem dX1_widthAt_32 : decode cX1_widthAt 32 = .ok (.iload_n 3, 1) := by decide +kernel
theorem dX1_widthAt_33 : decode cX1_widthAt 33 = .ok (.invokevirtual 40, 3) := by decide +kernel
theorem dX1_widthAt_36 : decode cX1_widthAt 36 = .ok (.aload_n 0, 1) := by decide +kernel
theorem dX1_widthAt_37 : decode cX1_widthAt 37 = .ok (.getfield 23, 3) := by decide +kernel
theorem dX1_widthAt_40 : decode cX1_widthAt 40 = .ok (.iload_n 3, 1) := by decide +kernel
theorem dX1_widthAt_41 : decode cX1_widthAt 41 = .ok (.invokevirtual 40, 3) := by decide +kernel
theorem dX1_widthAt_44 : decode cX1_widthAt 44 = .ok (.isub, 1) := by decide +kernel
theorem dX1_widthAt_45 : decode cX1_widthAt 45 = .ok (.ireturn, 1) := by decide +kernel
theorem dX1_widthAt_46 : decode cX1_widthAt 46 = .ok (.iinc 3 1, 3) := by decide +kernel
theorem dX1_widthAt_49 : decode cX1_widthAt 49 = .ok (.goto (-45), 3) := by decide +kernel
theorem dX1_widthAt_52 : decode cX1_widthAt 52 = .ok (.iconst 0, 1) := by decide +kernel
theorem dX1_widthAt_53 : decode cX1_widthAt 53 = .ok (.ireturn, 1) := by decide +kernel
theorem dX2_init_0 : decode cX2_init 0 = .ok (.aload_n 0, 1) := by decide +kernel
theorem dX2_init_1 : decode cX2_init 1 = .ok (.invokespecial 3, 3) := by decide +kernel
theorem dX2_init_4 : decode cX2_init 4 = .ok (.aload_n 0, 1) := by decide +kernel
theorem dX2_init_5 : decode cX2_init 5 = .ok (.iconst 4, 1) := by decide +kernel
theorem dX2_init_6 : decode cX2_init 6 = .ok (.anewarray 9, 3) := by decide +kernel
theorem dX2_init_9 : decode cX2_init 9 = .ok (.putfield 11, 3) := by decide +kernel
theorem dX2_init_12 : decode cX2_init 12 = .ok (.aload_n 0, 1) := by decide +kernel
theorem dX2_init_13 : decode cX2_init 13 = .ok (.iconst 0, 1) := by decide +kernel
theorem dX2_init_14 : decode cX2_init 14 = .ok (.putfield 17, 3) := by decide +kernel
theorem dX2_init_17 : decode cX2_init 17 = .ok (.iconst 0, 1) := by decide +kernel
theorem dX2_init_18 : decode cX2_init 18 = .ok (.istore_n 1, 1) := by decide +kernel
theorem dX2_init_19 : decode cX2_init 19 = .ok (.iload_n 1, 1) := by decide +kernel
theorem dX2_init_20 : decode cX2_init 20 = .ok (.aload_n 0, 1) := by decide +kernel
theorem dX2_init_21 : decode cX2_init 21 = .ok (.getfield 11, 3) := by decide +kernel
theorem dX2_init_24 : decode cX2_init 24 = .ok (.arraylength, 1) := by decide +kernel
theorem dX2_init_25 : decode cX2_init 25 = .ok (.if_icmp .ge 22, 3) := by decide +kernel
theorem dX2_init_28 : decode cX2_init 28 = .ok (.aload_n 0, 1) := by decide +kernel
theorem dX2_init_29 : decode cX2_init 29 = .ok (.getfield 11, 3) := by decide +kernel
theorem dX2_init_32 : decode cX2_init 32 = .ok (.iload_n 1, 1) := by decide +kernel
theorem dX2_init_33 : decode cX2_init 33 = .ok (.new 9, 3) := by decide +kernel
theorem dX2_init_36 : decode cX2_init 36 = .ok (.dup, 1) := by decide +kernel
theorem dX2_init_37 : decode cX2_init 37 = .ok (.invokespecial 21, 3) := by decide +kernel
theorem dX2_init_40 : decode cX2_init 40 = .ok (.aastore, 1) := by decide +kernel
theorem dX2_init_41 : decode cX2_init 41 = .ok (.iinc 1 1, 3) := by decide +kernel
theorem dX2_init_44 : decode cX2_init 44 = .ok (.goto (-25), 3) := by decide +kernel
theorem dX2_init_47 : decode cX2_init 47 = .ok (.return_, 1) := by decide +kernel
theorem dX2_size_0 : decode cX2_size 0 = .ok (.aload_n 0, 1) := by decide +kernel
theorem dX2_size_1 : decode cX2_size 1 = .ok (.getfield 17, 3) := by decide +kernel
theorem dX2_size_4 : decode cX2_size 4 = .ok (.ireturn, 1) := by decide +kernel
theorem dX2_record_0 : decode cX2_record 0 = .ok (.aload_n 0, 1) := by decide +kernel
theorem dX2_record_1 : decode cX2_record 1 = .ok (.getfield 17, 3) := by decide +kernel
theorem dX2_record_4 : decode cX2_record 4 = .ok (.aload_n 0, 1) := by decide +kernel
theorem dX2_record_5 : decode cX2_record 5 = .ok (.getfield 11, 3) := by decide +kernel
theorem dX2_record_8 : decode cX2_record 8 = .ok (.arraylength, 1) := by decide +kernel
theorem dX2_record_9 : decode cX2_record 9 = .ok (.if_icmp .lt 7, 3) := by decide +kernel
theorem dX2_record_12 : decode cX2_record 12 = .ok (.aload_n 0, 1) := by decide +kernel
theorem dX2_record_13 : decode cX2_record 13 = .ok (.invokevirtual 22, 3) := by decide +kernel
theorem dX2_record_16 : decode cX2_record 16 = .ok (.aload_n 0, 1) := by decide +kernel
theorem dX2_record_17 : decode cX2_record 17 = .ok (.aload_n 0, 1) := by decide +kernel
theorem dX2_record_18 : decode cX2_record 18 = .ok (.getfield 17, 3) := by decide +kernel
theorem dX2_record_21 : decode cX2_record 21 = .ok (.invokevirtual 25, 3) := by decide +kernel
theorem dX2_record_24 : decode cX2_record 24 = .ok (.astore_n 2, 1) := by decide +kernel
theorem dX2_record_25 : decode cX2_record 25 = .ok (.aload_n 2, 1) := by decide +kernel
theorem dX2_record_26 : decode cX2_record 26 = .ok (.ifnull 18, 3) := by decide +kernel
theorem dX2_record_29 : decode cX2_record 29 = .ok (.aload_n 2, 1) := by decide +kernel
theorem dX2_record_30 : decode cX2_record 30 = .ok (.aload_n 1, 1) := by decide +kernel
theorem dX2_record_31 : decode cX2_record 31 = .ok (.invokevirtual 29, 3) := by decide +kernel
theorem dX2_record_34 : decode cX2_record 34 = .ok (.aload_n 0, 1) := by decide +kernel
theorem dX2_record_35 : decode cX2_record 35 = .ok (.dup, 1) := by decide +kernel
theorem dX2_record_36 : decode cX2_record 36 = .ok (.getfield 17, 3) := by decide +kernel
theorem dX2_record_39 : decode cX2_record 39 = .ok (.iconst 1, 1) := by decide +kernel
theorem dX2_record_40 : decode cX2_record 40 = .ok (.iadd, 1) := by decide +kernel
theorem dX2_record_41 : decode cX2_record 41 = .ok (.putfield 17, 3) := by decide +kernel
theorem dX2_record_44 : decode cX2_record 44 = .ok (.return_, 1) := by decide +kernel
theorem dX2_restoreLatest_0 : decode cX2_restoreLatest 0 = .ok (.aload_n 0, 1) := by decide +kernel
theorem dX2_restoreLatest_1 : decode cX2_restoreLatest 1 = .ok (.aload_n 0, 1) := by decide +kernel
theorem dX2_restoreLatest_2 : decode cX2_restoreLatest 2 = .ok (.getfield 17, 3) := by decide +kernel
theorem dX2_restoreLatest_5 : decode cX2_restoreLatest 5 = .ok (.iconst 1, 1) := by decide +kernel
theorem dX2_restoreLatest_6 : decode cX2_restoreLatest 6 = .ok (.isub, 1) := by decide +kernel
theorem dX2_restoreLatest_7 : decode cX2_restoreLatest 7 = .ok (.invokevirtual 25, 3) := by decide +kernel
theorem dX2_restoreLatest_10 : decode cX2_restoreLatest 10 = .ok (.astore_n 2, 1) := by decide +kernel
theorem dX2_restoreLatest_11 : decode cX2_restoreLatest 11 = .ok (.aload_n 2, 1) := by decide +kernel
theorem dX2_restoreLatest_12 : decode cX2_restoreLatest 12 = .ok (.ifnull 18, 3) := by decide +kernel
theorem dX2_restoreLatest_15 : decode cX2_restoreLatest 15 = .ok (.aload_n 1, 1) := by decide +kernel
theorem dX2_restoreLatest_16 : decode cX2_restoreLatest 16 = .ok (.aload_n 2, 1) := by decide +kernel
theorem dX2_restoreLatest_17 : decode cX2_restoreLatest 17 = .ok (.invokevirtual 29, 3) := by decide +kernel
theorem dX2_restoreLatest_20 : decode cX2_restoreLatest 20 = .ok (.aload_n 0, 1) := by decide +kernel
theorem dX2_restoreLatest_21 : decode cX2_restoreLatest 21 = .ok (.dup, 1) := by decide +kernel
theorem dX2_restoreLatest_22 : decode cX2_restoreLatest 22 = .ok (.getfield 17, 3) := by decide +kernel
theorem dX2_restoreLatest_25 : decode cX2_restoreLatest 25 = .ok (.iconst 1, 1) := by decide +kernel
theorem dX2_restoreLatest_26 : decode cX2_restoreLatest 26 = .ok (.isub, 1) := by decide +kernel
theorem dX2_restoreLatest_27 : decode cX2_restoreLatest 27 = .ok (.putfield 17, 3) := by decide +kernel
theorem dX2_restoreLatest_30 : decode cX2_restoreLatest 30 = .ok (.return_, 1) := by decide +kernel
theorem dX2_dropOldest_0 : decode cX2_dropOldest 0 = .ok (.iconst 1, 1) := by decide +kernel
theorem dX2_dropOldest_1 : decode cX2_dropOldest 1 = .ok (.istore_n 1, 1) := by decide +kernel
theorem dX2_dropOldest_2 : decode cX2_dropOldest 2 = .ok (.iload_n 1, 1) := by decide +kernel
theorem dX2_dropOldest_3 : decode cX2_dropOldest 3 = .ok (.aload_n 0, 1) := by decide +kernel
theorem dX2_dropOldest_4 : decode cX2_dropOldest 4 = .ok (.getfield 11, 3) := by decide +kernel
theorem dX2_dropOldest_7 : decode cX2_dropOldest 7 = .ok (.arraylength, 1) := by decide +kernel
theorem dX2_dropOldest_8 : decode cX2_dropOldest 8 = .ok (.if_icmp .ge 39, 3) := by decide +kernel
theorem dX2_dropOldest_11 : decode cX2_dropOldest 11 = .ok (.aload_n 0, 1) := by decide +kernel
theorem dX2_dropOldest_12 : decode cX2_dropOldest 12 = .ok (.getfield 11, 3) := by decide +kernel
theorem dX2_dropOldest_15 : decode cX2_dropOldest 15 = .ok (.iload_n 1, 1) := by decide +kernel
theorem dX2_dropOldest_16 : decode cX2_dropOldest 16 = .ok (.iconst 1, 1) := by decide +kernel
theorem dX2_dropOldest_17 : decode cX2_dropOldest 17 = .ok (.isub, 1) := by decide +kernel
theorem dX2_dropOldest_18 : decode cX2_dropOldest 18 = .ok (.aaload, 1) := by decide +kernel
theorem dX2_dropOldest_19 : decode cX2_dropOldest 19 = .ok (.astore_n 2, 1) := by decide +kernel
theorem dX2_dropOldest_20 : decode cX2_dropOldest 20 = .ok (.aload_n 0, 1) := by decide +kernel
theorem dX2_dropOldest_21 : decode cX2_dropOldest 21 = .ok (.getfield 11, 3) := by decide +kernel
theorem dX2_dropOldest_24 : decode cX2_dropOldest 24 = .ok (.iload_n 1, 1) := by decide +kernel
theorem dX2_dropOldest_25 : decode cX2_dropOldest 25 = .ok (.iconst 1, 1) := by decide +kernel
theorem dX2_dropOldest_26 : decode cX2_dropOldest 26 = .ok (.isub, 1) := by decide +kernel
theorem dX2_dropOldest_27 : decode cX2_dropOldest 27 = .ok (.aload_n 0, 1) := by decide +kernel
theorem dX2_dropOldest_28 : decode cX2_dropOldest 28 = .ok (.getfield 11, 3) := by decide +kernel
theorem dX2_dropOldest_31 : decode cX2_dropOldest 31 = .ok (.iload_n 1, 1) := by decide +kernel
theorem dX2_dropOldest_32 : decode cX2_dropOldest 32 = .ok (.aaload, 1) := by decide +kernel
theorem dX2_dropOldest_33 : decode cX2_dropOldest 33 = .ok (.aastore, 1) := by decide +kernel
theorem dX2_dropOldest_34 : decode cX2_dropOldest 34 = .ok (.aload_n 0, 1) := by decide +kernel
theorem dX2_dropOldest_35 : decode cX2_dropOldest 35 = .ok (.getfield 11, 3) := by decide +kernel
theorem dX2_dropOldest_38 : decode cX2_dropOldest 38 = .ok (.iload_n 1, 1) := by decide +kernel
theorem dX2_dropOldest_39 : decode cX2_dropOldest 39 = .ok (.aload_n 2, 1) := by decide +kernel
theorem dX2_dropOldest_40 : decode cX2_dropOldest 40 = .ok (.aastore, 1) := by decide +kernel
theorem dX2_dropOldest_41 : decode cX2_dropOldest 41 = .ok (.iinc 1 1, 3) := by decide +kernel
theorem dX2_dropOldest_44 : decode cX2_dropOldest 44 = .ok (.goto (-42), 3) := by decide +kernel
theorem dX2_dropOldest_47 : decode cX2_dropOldest 47 = .ok (.aload_n 0, 1) := by decide +kernel
theorem dX2_dropOldest_48 : decode cX2_dropOldest 48 = .ok (.dup, 1) := by decide +kernel
theorem dX2_dropOldest_49 : decode cX2_dropOldest 49 = .ok (.getfield 17, 3) := by decide +kernel
theorem dX2_dropOldest_52 : decode cX2_dropOldest 52 = .ok (.iconst 1, 1) := by decide +kernel
theorem dX2_dropOldest_53 : decode cX2_dropOldest 53 = .ok (.isub, 1) := by decide +kernel
theorem dX2_dropOldest_54 : decode cX2_dropOldest 54 = .ok (.putfield 17, 3) := by decide +kernel
theorem dX2_dropOldest_57 : decode cX2_dropOldest 57 = .ok (.return_, 1) := by decide +kernel
theorem dX2_stateAt_0 : decode cX2_stateAt 0 = .ok (.iload_n 1, 1) := by decide +kernel
theorem dX2_stateAt_1 : decode cX2_stateAt 1 = .ok (.ifCond .lt 21, 3) := by decide +kernel
theorem dX2_stateAt_4 : decode cX2_stateAt 4 = .ok (.iload_n 1, 1) := by decide +kernel
theorem dX2_stateAt_5 : decode cX2_stateAt 5 = .ok (.aload_n 0, 1) := by decide +kernel
theorem dX2_stateAt_6 : decode cX2_stateAt 6 = .ok (.getfield 11, 3) := by decide +kernel
theorem dX2_stateAt_9 : decode cX2_stateAt 9 = .ok (.arraylength, 1) := by decide +kernel
theorem dX2_stateAt_10 : decode cX2_stateAt 10 = .ok (.if_icmp .ge 12, 3) := by decide +kernel
theorem dX2_stateAt_13 : decode cX2_stateAt 13 = .ok (.aload_n 0, 1) := by decide +kernel
theorem dX2_stateAt_14 : decode cX2_stateAt 14 = .ok (.getfield 11, 3) := by decide +kernel
theorem dX2_stateAt_17 : decode cX2_stateAt 17 = .ok (.iload_n 1, 1) := by decide +kernel
theorem dX2_stateAt_18 : decode cX2_stateAt 18 = .ok (.aaload, 1) := by decide +kernel
theorem dX2_stateAt_19 : decode cX2_stateAt 19 = .ok (.goto 4, 3) := by decide +kernel
theorem dX2_stateAt_22 : decode cX2_stateAt 22 = .ok (.aconst_null, 1) := by decide +kernel
theorem dX2_stateAt_23 : decode cX2_stateAt 23 = .ok (.areturn, 1) := by decide +kernel
theorem dX3_init_0 : decode cX3_init 0 = .ok (.aload_n 0, 1) := by decide +kernel
theorem dX3_init_1 : decode cX3_init 1 = .ok (.invokespecial 3, 3) := by decide +kernel
theorem dX3_init_4 : decode cX3_init 4 = .ok (.aload_n 0, 1) := by decide +kernel
theorem dX3_init_5 : decode cX3_init 5 = .ok (.new 9, 3) := by decide +kernel
theorem dX3_init_8 : decode cX3_init 8 = .ok (.dup, 1) := by decide +kernel
theorem dX3_init_9 : decode cX3_init 9 = .ok (.bipush 60, 2) := by decide +kernel
theorem dX3_init_11 : decode cX3_init 11 = .ok (.invokespecial 11, 3) := by decide +kernel
theorem dX3_init_14 : decode cX3_init 14 = .ok (.putfield 14, 3) := by decide +kernel
theorem dX3_init_17 : decode cX3_init 17 = .ok (.aload_n 0, 1) := by decide +kernel
theorem dX3_init_18 : decode cX3_init 18 = .ok (.iconst 0, 1) := by decide +kernel
theorem dX3_init_19 : decode cX3_init 19 = .ok (.putfield 20, 3) := by decide +kernel
theorem dX3_init_22 : decode cX3_init 22 = .ok (.aload_n 0, 1) := by decide +kernel
theorem dX3_init_23 : decode cX3_init 23 = .ok (.iconst 0, 1) := by decide +kernel
theorem dX3_init_24 : decode cX3_init 24 = .ok (.putfield 24, 3) := by decide +kernel
theorem dX3_init_27 : decode cX3_init 27 = .ok (.return_, 1) := by decide +kernel
theorem dX3_readFrom_0 : decode cX3_readFrom 0 = .ok (.aload_n 0, 1) := by decide +kernel
theorem dX3_readFrom_1 : decode cX3_readFrom 1 = .ok (.getfield 14, 3) := by decide +kernel
theorem dX3_readFrom_4 : decode cX3_readFrom 4 = .ok (.invokevirtual 27, 3) := by decide +kernel
theorem dX3_readFrom_7 : decode cX3_readFrom 7 = .ok (.aload_n 0, 1) := by decide +kernel
theorem dX3_readFrom_8 : decode cX3_readFrom 8 = .ok (.iload_n 2, 1) := by decide +kernel
theorem dX3_readFrom_9 : decode cX3_readFrom 9 = .ok (.putfield 24, 3) := by decide +kernel
theorem dX3_readFrom_12 : decode cX3_readFrom 12 = .ok (.aload_n 0, 1) := by decide +kernel
theorem dX3_readFrom_13 : decode cX3_readFrom 13 = .ok (.aload_n 1, 1) := by decide +kernel
theorem dX3_readFrom_14 : decode cX3_readFrom 14 = .ok (.aload_n 0, 1) := by decide +kernel
theorem dX3_readFrom_15 : decode cX3_readFrom 15 = .ok (.getfield 24, 3) := by decide +kernel
theorem dX3_readFrom_18 : decode cX3_readFrom 18 = .ok (.invokestatic 30, 3) := by decide +kernel
theorem dX3_readFrom_21 : decode cX3_readFrom 21 = .ok (.putfield 20, 3) := by decide +kernel
theorem dX3_readFrom_24 : decode cX3_readFrom 24 = .ok (.aload_n 0, 1) := by decide +kernel
theorem dX3_readFrom_25 : decode cX3_readFrom 25 = .ok (.getfield 20, 3) := by decide +kernel
theorem dX3_readFrom_28 : decode cX3_readFrom 28 = .ok (.ifCond .ge 5, 3) := by decide +kernel
theorem dX3_readFrom_31 : decode cX3_readFrom 31 = .ok (.iconst 0, 1) := by decide +kernel
theorem dX3_readFrom_32 : decode cX3_readFrom 32 = .ok (.ireturn, 1) := by decide +kernel
theorem dX3_readFrom_33 : decode cX3_readFrom 33 = .ok (.aload_n 0, 1) := by decide +kernel
theorem dX3_readFrom_34 : decode cX3_readFrom 34 = .ok (.dup, 1) := by decide +kernel
theorem dX3_readFrom_35 : decode cX3_readFrom 35 = .ok (.getfield 24, 3) := by decide +kernel
theorem dX3_readFrom_38 : decode cX3_readFrom 38 = .ok (.iconst 1, 1) := by decide +kernel
theorem dX3_readFrom_39 : decode cX3_readFrom 39 = .ok (.iadd, 1) := by decide +kernel
theorem dX3_readFrom_40 : decode cX3_readFrom 40 = .ok (.putfield 24, 3) := by decide +kernel
theorem dX3_readFrom_43 : decode cX3_readFrom 43 = .ok (.aload_n 1, 1) := by decide +kernel
theorem dX3_readFrom_44 : decode cX3_readFrom 44 = .ok (.aload_n 0, 1) := by decide +kernel
theorem dX3_readFrom_45 : decode cX3_readFrom 45 = .ok (.getfield 24, 3) := by decide +kernel
theorem dX3_readFrom_48 : decode cX3_readFrom 48 = .ok (.invokevirtual 34, 3) := by decide +kernel
theorem dX3_readFrom_51 : decode cX3_readFrom 51 = .ok (.bipush 58, 2) := by decide +kernel
theorem dX3_readFrom_53 : decode cX3_readFrom 53 = .ok (.if_icmp .ne 7, 3) := by decide +kernel
theorem dX3_readFrom_56 : decode cX3_readFrom 56 = .ok (.iconst 1, 1) := by decide +kernel
theorem dX3_readFrom_57 : decode cX3_readFrom 57 = .ok (.goto 4, 3) := by decide +kernel
theorem dX3_readFrom_60 : decode cX3_readFrom 60 = .ok (.iconst 0, 1) := by decide +kernel
theorem dX3_readFrom_61 : decode cX3_readFrom 61 = .ok (.istore_n 3, 1) := by decide +kernel
theorem dX3_readFrom_62 : decode cX3_readFrom 62 = .ok (.iconst 0, 1) := by decide +kernel
theorem dX3_readFrom_63 : decode cX3_readFrom 63 = .ok (.istore 4, 2) := by decide +kernel
theorem dX3_readFrom_65 : decode cX3_readFrom 65 = .ok (.iload_n 3, 1) := by decide +kernel
theorem dX3_readFrom_66 : decode cX3_readFrom 66 = .ok (.ifCond .eq 55, 3) := by decide +kernel
theorem dX3_readFrom_69 : decode cX3_readFrom 69 = .ok (.iload 4, 2) := by decide +kernel
theorem dX3_readFrom_71 : decode cX3_readFrom 71 = .ok (.bipush 60, 2) := by decide +kernel
theorem dX3_readFrom_73 : decode cX3_readFrom 73 = .ok (.if_icmp .ge 48, 3) := by decide +kernel
theorem dX3_readFrom_76 : decode cX3_readFrom 76 = .ok (.aload_n 0, 1) := by decide +kernel
theorem dX3_readFrom_77 : decode cX3_readFrom 77 = .ok (.dup, 1) := by decide +kernel
theorem dX3_readFrom_78 : decode cX3_readFrom 78 = .ok (.getfield 24, 3) := by decide +kernel
theorem dX3_readFrom_81 : decode cX3_readFrom 81 = .ok (.iconst 1, 1) := by decide +kernel
theorem dX3_readFrom_82 : decode cX3_readFrom 82 = .ok (.iadd, 1) := by decide +kernel
theorem dX3_readFrom_83 : decode cX3_readFrom 83 = .ok (.putfield 24, 3) := by decide +kernel
theorem dX3_readFrom_86 : decode cX3_readFrom 86 = .ok (.aload_n 0, 1) := by decide +kernel
theorem dX3_readFrom_87 : decode cX3_readFrom 87 = .ok (.aload_n 1, 1) := by decide +kernel
theorem dX3_readFrom_88 : decode cX3_readFrom 88 = .ok (.invokevirtual 38, 3) := by decide +kernel
theorem dX3_readFrom_91 : decode cX3_readFrom 91 = .ok (.ifCond .ne 5, 3) := by decide +kernel
theorem dX3_readFrom_94 : decode cX3_readFrom 94 = .ok (.iconst 0, 1) := by decide +kernel
theorem dX3_readFrom_95 : decode cX3_readFrom 95 = .ok (.ireturn, 1) := by decide +kernel
theorem dX3_readFrom_96 : decode cX3_readFrom 96 = .ok (.aload_n 1, 1) := by decide +kernel
theorem dX3_readFrom_97 : decode cX3_readFrom 97 = .ok (.aload_n 0, 1) := by decide +kernel
theorem dX3_readFrom_98 : decode cX3_readFrom 98 = .ok (.getfield 24, 3) := by decide +kernel
theorem dX3_readFrom_101 : decode cX3_readFrom 101 = .ok (.invokevirtual 34, 3) := by decide +kernel
theorem dX3_readFrom_104 : decode cX3_readFrom 104 = .ok (.bipush 44, 2) := by decide +kernel
theorem dX3_readFrom_106 : decode cX3_readFrom 106 = .ok (.if_icmp .ne 7, 3) := by decide +kernel
theorem dX3_readFrom_109 : decode cX3_readFrom 109 = .ok (.iconst 1, 1) := by decide +kernel
theorem dX3_readFrom_110 : decode cX3_readFrom 110 = .ok (.goto 4, 3) := by decide +kernel
theorem dX3_readFrom_113 : decode cX3_readFrom 113 = .ok (.iconst 0, 1) := by decide +kernel
theorem dX3_readFrom_114 : decode cX3_readFrom 114 = .ok (.istore_n 3, 1) := by decide +kernel
theorem dX3_readFrom_115 : decode cX3_readFrom 115 = .ok (.iinc 4 1, 3) := by decide +kernel
theorem dX3_readFrom_118 : decode cX3_readFrom 118 = .ok (.goto (-53), 3) := by decide +kernel
theorem dX3_readFrom_121 : decode cX3_readFrom 121 = .ok (.aload_n 0, 1) := by decide +kernel
theorem dX3_readFrom_122 : decode cX3_readFrom 122 = .ok (.getfield 14, 3) := by decide +kernel
theorem dX3_readFrom_125 : decode cX3_readFrom 125 = .ok (.invokevirtual 42, 3) := by decide +kernel
theorem dX3_readFrom_128 : decode cX3_readFrom 128 = .ok (.ifCond .eq 16, 3) := by decide +kernel
theorem dX3_readFrom_131 : decode cX3_readFrom 131 = .ok (.aload_n 1, 1) := by decide +kernel
theorem dX3_readFrom_132 : decode cX3_readFrom 132 = .ok (.aload_n 0, 1) := by decide +kernel
theorem dX3_readFrom_133 : decode cX3_readFrom 133 = .ok (.getfield 24, 3) := by decide +kernel
theorem dX3_readFrom_136 : decode cX3_readFrom 136 = .ok (.invokevirtual 34, 3) := by decide +kernel
theorem dX3_readFrom_139 : decode cX3_readFrom 139 = .ok (.bipush 59, 2) := by decide +kernel
theorem dX3_readFrom_141 : decode cX3_readFrom 141 = .ok (.if_icmp .eq 5, 3) := by decide +kernel
theorem dX3_readFrom_144 : decode cX3_readFrom 144 = .ok (.iconst 0, 1) := by decide +kernel
theorem dX3_readFrom_145 : decode cX3_readFrom 145 = .ok (.ireturn, 1) := by decide +kernel
theorem dX3_readFrom_146 : decode cX3_readFrom 146 = .ok (.aload_n 0, 1) := by decide +kernel
theorem dX3_readFrom_147 : decode cX3_readFrom 147 = .ok (.dup, 1) := by decide +kernel
theorem dX3_readFrom_148 : decode cX3_readFrom 148 = .ok (.getfield 24, 3) := by decide +kernel
theorem dX3_readFrom_151 : decode cX3_readFrom 151 = .ok (.iconst 1, 1) := by decide +kernel
theorem dX3_readFrom_152 : decode cX3_readFrom 152 = .ok (.iadd, 1) := by decide +kernel
theorem dX3_readFrom_153 : decode cX3_readFrom 153 = .ok (.putfield 24, 3) := by decide +kernel
theorem dX3_readFrom_156 : decode cX3_readFrom 156 = .ok (.iconst 1, 1) := by decide +kernel
theorem dX3_readFrom_157 : decode cX3_readFrom 157 = .ok (.ireturn, 1) := by decide +kernel
theorem dX3_readValue_0 : decode cX3_readValue 0 = .ok (.iconst 0, 1) := by decide +kernel
theorem dX3_readValue_1 : decode cX3_readValue 1 = .ok (.istore_n 2, 1) := by decide +kernel
theorem dX3_readValue_2 : decode cX3_readValue 2 = .ok (.iconst 0, 1) := by decide +kernel
theorem dX3_readValue_3 : decode cX3_readValue 3 = .ok (.istore_n 3, 1) := by decide +kernel
theorem dX3_readValue_4 : decode cX3_readValue 4 = .ok (.iload_n 3, 1) := by decide +kernel
theorem dX3_readValue_5 : decode cX3_readValue 5 = .ok (.iconst 4, 1) := by decide +kernel
theorem dX3_readValue_6 : decode cX3_readValue 6 = .ok (.if_icmp .ge 44, 3) := by decide +kernel
theorem dX3_readValue_9 : decode cX3_readValue 9 = .ok (.aload_n 1, 1) := by decide +kernel
theorem dX3_readValue_10 : decode cX3_readValue 10 = .ok (.aload_n 0, 1) := by decide +kernel
theorem dX3_readValue_11 : decode cX3_readValue 11 = .ok (.getfield 24, 3) := by decide +kernel
theorem dX3_readValue_14 : decode cX3_readValue 14 = .ok (.invokestatic 30, 3) := by decide +kernel
theorem dX3_readValue_17 : decode cX3_readValue 17 = .ok (.ifCond .lt 33, 3) := by decide +kernel
theorem dX3_readValue_20 : decode cX3_readValue 20 = .ok (.iload_n 2, 1) := by decide +kernel
theorem dX3_readValue_21 : decode cX3_readValue 21 = .ok (.bipush 10, 2) := by decide +kernel
theorem dX3_readValue_23 : decode cX3_readValue 23 = .ok (.imul, 1) := by decide +kernel
theorem dX3_readValue_24 : decode cX3_readValue 24 = .ok (.aload_n 1, 1) := by decide +kernel
theorem dX3_readValue_25 : decode cX3_readValue 25 = .ok (.aload_n 0, 1) := by decide +kernel
theorem dX3_readValue_26 : decode cX3_readValue 26 = .ok (.getfield 24, 3) := by decide +kernel
theorem dX3_readValue_29 : decode cX3_readValue 29 = .ok (.invokestatic 30, 3) := by decide +kernel
theorem dX3_readValue_32 : decode cX3_readValue 32 = .ok (.iadd, 1) := by decide +kernel
theorem dX3_readValue_33 : decode cX3_readValue 33 = .ok (.istore_n 2, 1) := by decide +kernel
theorem dX3_readValue_34 : decode cX3_readValue 34 = .ok (.aload_n 0, 1) := by decide +kernel
theorem dX3_readValue_35 : decode cX3_readValue 35 = .ok (.dup, 1) := by decide +kernel
theorem dX3_readValue_36 : decode cX3_readValue 36 = .ok (.getfield 24, 3) := by decide +kernel
theorem dX3_readValue_39 : decode cX3_readValue 39 = .ok (.iconst 1, 1) := by decide +kernel
theorem dX3_readValue_40 : decode cX3_readValue 40 = .ok (.iadd, 1) := by decide +kernel
theorem dX3_readValue_41 : decode cX3_readValue 41 = .ok (.putfield 24, 3) := by decide +kernel
theorem dX3_readValue_44 : decode cX3_readValue 44 = .ok (.iinc 3 1, 3) := by decide +kernel
theorem dX3_readValue_47 : decode cX3_readValue 47 = .ok (.goto (-43), 3) := by decide +kernel
theorem dX3_readValue_50 : decode cX3_readValue 50 = .ok (.iload_n 3, 1) := by decide +kernel
theorem dX3_readValue_51 : decode cX3_readValue 51 = .ok (.ifCond .ne 5, 3) := by decide +kernel
theorem dX3_readValue_54 : decode cX3_readValue 54 = .ok (.iconst 0, 1) := by decide +kernel
theorem dX3_readValue_55 : decode cX3_readValue 55 = .ok (.ireturn, 1) := by decide +kernel
theorem dX3_readValue_56 : decode cX3_readValue 56 = .ok (.aload_n 0, 1) := by decide +kernel
theorem dX3_readValue_57 : decode cX3_readValue 57 = .ok (.getfield 14, 3) := by decide +kernel
theorem dX3_readValue_60 : decode cX3_readValue 60 = .ok (.iload_n 2, 1) := by decide +kernel
theorem dX3_readValue_61 : decode cX3_readValue 61 = .ok (.invokevirtual 46, 3) := by decide +kernel
theorem dX3_readValue_64 : decode cX3_readValue 64 = .ok (.iconst 1, 1) := by decide +kernel
theorem dX3_readValue_65 : decode cX3_readValue 65 = .ok (.ireturn, 1) := by decide +kernel
theorem dX3_digitAt_0 : decode cX3_digitAt 0 = .ok (.aload_n 0, 1) := by decide +kernel
theorem dX3_digitAt_1 : decode cX3_digitAt 1 = .ok (.iload_n 1, 1) := by decide +kernel
theorem dX3_digitAt_2 : decode cX3_digitAt 2 = .ok (.invokevirtual 34, 3) := by decide +kernel
theorem dX3_digitAt_5 : decode cX3_digitAt 5 = .ok (.istore_n 2, 1) := by decide +kernel
theorem dX3_digitAt_6 : decode cX3_digitAt 6 = .ok (.iload_n 2, 1) := by decide +kernel
theorem dX3_digitAt_7 : decode cX3_digitAt 7 = .ok (.bipush 48, 2) := by decide +kernel
theorem dX3_digitAt_9 : decode cX3_digitAt 9 = .ok (.if_icmp .lt 16, 3) := by decide +kernel
theorem dX3_digitAt_12 : decode cX3_digitAt 12 = .ok (.iload_n 2, 1) := by decide +kernel
theorem dX3_digitAt_13 : decode cX3_digitAt 13 = .ok (.bipush 57, 2) := by decide +kernel
theorem dX3_digitAt_15 : decode cX3_digitAt 15 = .ok (.if_icmp .gt 10, 3) := by decide +kernel
theorem dX3_digitAt_18 : decode cX3_digitAt 18 = .ok (.iload_n 2, 1) := by decide +kernel
theorem dX3_digitAt_19 : decode cX3_digitAt 19 = .ok (.bipush 48, 2) := by decide +kernel
theorem dX3_digitAt_21 : decode cX3_digitAt 21 = .ok (.isub, 1) := by decide +kernel
theorem dX3_digitAt_22 : decode cX3_digitAt 22 = .ok (.goto 4, 3) := by decide +kernel
theorem dX3_digitAt_25 : decode cX3_digitAt 25 = .ok (.iconst (-1), 1) := by decide +kernel
theorem dX3_digitAt_26 : decode cX3_digitAt 26 = .ok (.ireturn, 1) := by decide +kernel
theorem dX4_init_0 : decode cX4_init 0 = .ok (.aload_n 0, 1) := by decide +kernel
theorem dX4_init_1 : decode cX4_init 1 = .ok (.invokespecial 1, 3) := by decide +kernel
theorem dX4_init_4 : decode cX4_init 4 = .ok (.aload_n 0, 1) := by decide +kernel
theorem dX4_init_5 : decode cX4_init 5 = .ok (.iload_n 1, 1) := by decide +kernel
theorem dX4_init_6 : decode cX4_init 6 = .ok (.iconst 0, 1) := by decide +kernel
theorem dX4_init_7 : decode cX4_init 7 = .ok (.invokestatic 7, 3) := by decide +kernel
theorem dX4_init_10 : decode cX4_init 10 = .ok (.newarray .int, 2) := by decide +kernel
theorem dX4_init_12 : decode cX4_init 12 = .ok (.putfield 13, 3) := by decide +kernel
theorem dX4_init_15 : decode cX4_init 15 = .ok (.aload_n 0, 1) := by decide +kernel
theorem dX4_init_16 : decode cX4_init 16 = .ok (.iconst 0, 1) := by decide +kernel
theorem dX4_init_17 : decode cX4_init 17 = .ok (.putfield 19, 3) := by decide +kernel
theorem dX4_init_20 : decode cX4_init 20 = .ok (.return_, 1) := by decide +kernel
theorem dX4_length_0 : decode cX4_length 0 = .ok (.aload_n 0, 1) := by decide +kernel
theorem dX4_length_1 : decode cX4_length 1 = .ok (.getfield 19, 3) := by decide +kernel
theorem dX4_length_4 : decode cX4_length 4 = .ok (.ireturn, 1) := by decide +kernel
theorem dX4_at_0 : decode cX4_at 0 = .ok (.iload_n 1, 1) := by decide +kernel
theorem dX4_at_1 : decode cX4_at 1 = .ok (.ifCond .lt 20, 3) := by decide +kernel
theorem dX4_at_4 : decode cX4_at 4 = .ok (.iload_n 1, 1) := by decide +kernel
theorem dX4_at_5 : decode cX4_at 5 = .ok (.aload_n 0, 1) := by decide +kernel
theorem dX4_at_6 : decode cX4_at 6 = .ok (.getfield 19, 3) := by decide +kernel
theorem dX4_at_9 : decode cX4_at 9 = .ok (.if_icmp .ge 12, 3) := by decide +kernel
theorem dX4_at_12 : decode cX4_at 12 = .ok (.aload_n 0, 1) := by decide +kernel
theorem dX4_at_13 : decode cX4_at 13 = .ok (.getfield 13, 3) := by decide +kernel
theorem dX4_at_16 : decode cX4_at 16 = .ok (.iload_n 1, 1) := by decide +kernel
theorem dX4_at_17 : decode cX4_at 17 = .ok (.iaload, 1) := by decide +kernel
theorem dX4_at_18 : decode cX4_at 18 = .ok (.goto 4, 3) := by decide +kernel
theorem dX4_at_21 : decode cX4_at 21 = .ok (.iconst 0, 1) := by decide +kernel
theorem dX4_at_22 : decode cX4_at 22 = .ok (.ireturn, 1) := by decide +kernel
theorem dX4_put_0 : decode cX4_put 0 = .ok (.iload_n 1, 1) := by decide +kernel
theorem dX4_put_1 : decode cX4_put 1 = .ok (.ifCond .lt 18, 3) := by decide +kernel
theorem dX4_put_4 : decode cX4_put 4 = .ok (.iload_n 1, 1) := by decide +kernel
theorem dX4_put_5 : decode cX4_put 5 = .ok (.aload_n 0, 1) := by decide +kernel
theorem dX4_put_6 : decode cX4_put 6 = .ok (.getfield 19, 3) := by decide +kernel
theorem dX4_put_9 : decode cX4_put 9 = .ok (.if_icmp .ge 10, 3) := by decide +kernel
theorem dX4_put_12 : decode cX4_put 12 = .ok (.aload_n 0, 1) := by decide +kernel
theorem dX4_put_13 : decode cX4_put 13 = .ok (.getfield 13, 3) := by decide +kernel
theorem dX4_put_16 : decode cX4_put 16 = .ok (.iload_n 1, 1) := by decide +kernel
theorem dX4_put_17 : decode cX4_put 17 = .ok (.iload_n 2, 1) := by decide +kernel
theorem dX4_put_18 : decode cX4_put 18 = .ok (.iastore, 1) := by decide +kernel
theorem dX4_put_19 : decode cX4_put 19 = .ok (.return_, 1) := by decide +kernel
theorem dX4_append_0 : decode cX4_append 0 = .ok (.aload_n 0, 1) := by decide +kernel
theorem dX4_append_1 : decode cX4_append 1 = .ok (.getfield 19, 3) := by decide +kernel
theorem dX4_append_4 : decode cX4_append 4 = .ok (.aload_n 0, 1) := by decide +kernel
theorem dX4_append_5 : decode cX4_append 5 = .ok (.getfield 13, 3) := by decide +kernel
theorem dX4_append_8 : decode cX4_append 8 = .ok (.arraylength, 1) := by decide +kernel
theorem dX4_append_9 : decode cX4_append 9 = .ok (.if_icmp .ge 23, 3) := by decide +kernel
theorem dX4_append_12 : decode cX4_append 12 = .ok (.aload_n 0, 1) := by decide +kernel
theorem dX4_append_13 : decode cX4_append 13 = .ok (.getfield 13, 3) := by decide +kernel
theorem dX4_append_16 : decode cX4_append 16 = .ok (.aload_n 0, 1) := by decide +kernel
theorem dX4_append_17 : decode cX4_append 17 = .ok (.getfield 19, 3) := by decide +kernel
theorem dX4_append_20 : decode cX4_append 20 = .ok (.iload_n 1, 1) := by decide +kernel
theorem dX4_append_21 : decode cX4_append 21 = .ok (.iastore, 1) := by decide +kernel
theorem dX4_append_22 : decode cX4_append 22 = .ok (.aload_n 0, 1) := by decide +kernel
theorem dX4_append_23 : decode cX4_append 23 = .ok (.dup, 1) := by decide +kernel
theorem dX4_append_24 : decode cX4_append 24 = .ok (.getfield 19, 3) := by decide +kernel
theorem dX4_append_27 : decode cX4_append 27 = .ok (.iconst 1, 1) := by decide +kernel
theorem dX4_append_28 : decode cX4_append 28 = .ok (.iadd, 1) := by decide +kernel
theorem dX4_append_29 : decode cX4_append 29 = .ok (.putfield 19, 3) := by decide +kernel
theorem dX4_append_32 : decode cX4_append 32 = .ok (.return_, 1) := by decide +kernel
theorem dX4_appendAll_0 : decode cX4_appendAll 0 = .ok (.iconst 0, 1) := by decide +kernel
theorem dX4_appendAll_1 : decode cX4_appendAll 1 = .ok (.istore_n 2, 1) := by decide +kernel
theorem dX4_appendAll_2 : decode cX4_appendAll 2 = .ok (.iload_n 2, 1) := by decide +kernel
theorem dX4_appendAll_3 : decode cX4_appendAll 3 = .ok (.aload_n 1, 1) := by decide +kernel
theorem dX4_appendAll_4 : decode cX4_appendAll 4 = .ok (.getfield 19, 3) := by decide +kernel
theorem dX4_appendAll_7 : decode cX4_appendAll 7 = .ok (.if_icmp .ge 18, 3) := by decide +kernel
theorem dX4_appendAll_10 : decode cX4_appendAll 10 = .ok (.aload_n 0, 1) := by decide +kernel
theorem dX4_appendAll_11 : decode cX4_appendAll 11 = .ok (.aload_n 1, 1) := by decide +kernel
theorem dX4_appendAll_12 : decode cX4_appendAll 12 = .ok (.iload_n 2, 1) := by decide +kernel
theorem dX4_appendAll_13 : decode cX4_appendAll 13 = .ok (.invokevirtual 23, 3) := by decide +kernel
theorem dX4_appendAll_16 : decode cX4_appendAll 16 = .ok (.invokevirtual 27, 3) := by decide +kernel
theorem dX4_appendAll_19 : decode cX4_appendAll 19 = .ok (.iinc 2 1, 3) := by decide +kernel
theorem dX4_appendAll_22 : decode cX4_appendAll 22 = .ok (.goto (-20), 3) := by decide +kernel
theorem dX4_appendAll_25 : decode cX4_appendAll 25 = .ok (.return_, 1) := by decide +kernel
theorem dX4_exchange_0 : decode cX4_exchange 0 = .ok (.iload_n 1, 1) := by decide +kernel
theorem dX4_exchange_1 : decode cX4_exchange 1 = .ok (.ifCond .lt 49, 3) := by decide +kernel
theorem dX4_exchange_4 : decode cX4_exchange 4 = .ok (.iload_n 1, 1) := by decide +kernel
theorem dX4_exchange_5 : decode cX4_exchange 5 = .ok (.aload_n 0, 1) := by decide +kernel
theorem dX4_exchange_6 : decode cX4_exchange 6 = .ok (.getfield 19, 3) := by decide +kernel
theorem dX4_exchange_9 : decode cX4_exchange 9 = .ok (.if_icmp .ge 41, 3) := by decide +kernel
theorem dX4_exchange_12 : decode cX4_exchange 12 = .ok (.iload_n 2, 1) := by decide +kernel
theorem dX4_exchange_13 : decode cX4_exchange 13 = .ok (.ifCond .lt 37, 3) := by decide +kernel
theorem dX4_exchange_16 : decode cX4_exchange 16 = .ok (.iload_n 2, 1) := by decide +kernel
theorem dX4_exchange_17 : decode cX4_exchange 17 = .ok (.aload_n 0, 1) := by decide +kernel
theorem dX4_exchange_18 : decode cX4_exchange 18 = .ok (.getfield 19, 3) := by decide +kernel
theorem dX4_exchange_21 : decode cX4_exchange 21 = .ok (.if_icmp .ge 29, 3) := by decide +kernel
theorem dX4_exchange_24 : decode cX4_exchange 24 = .ok (.aload_n 0, 1) := by decide +kernel
theorem dX4_exchange_25 : decode cX4_exchange 25 = .ok (.getfield 13, 3) := by decide +kernel
theorem dX4_exchange_28 : decode cX4_exchange 28 = .ok (.iload_n 1, 1) := by decide +kernel
theorem dX4_exchange_29 : decode cX4_exchange 29 = .ok (.iaload, 1) := by decide +kernel
theorem dX4_exchange_30 : decode cX4_exchange 30 = .ok (.istore_n 3, 1) := by decide +kernel
theorem dX4_exchange_31 : decode cX4_exchange 31 = .ok (.aload_n 0, 1) := by decide +kernel
theorem dX4_exchange_32 : decode cX4_exchange 32 = .ok (.getfield 13, 3) := by decide +kernel
theorem dX4_exchange_35 : decode cX4_exchange 35 = .ok (.iload_n 1, 1) := by decide +kernel
theorem dX4_exchange_36 : decode cX4_exchange 36 = .ok (.aload_n 0, 1) := by decide +kernel
theorem dX4_exchange_37 : decode cX4_exchange 37 = .ok (.getfield 13, 3) := by decide +kernel
theorem dX4_exchange_40 : decode cX4_exchange 40 = .ok (.iload_n 2, 1) := by decide +kernel
theorem dX4_exchange_41 : decode cX4_exchange 41 = .ok (.iaload, 1) := by decide +kernel
theorem dX4_exchange_42 : decode cX4_exchange 42 = .ok (.iastore, 1) := by decide +kernel
theorem dX4_exchange_43 : decode cX4_exchange 43 = .ok (.aload_n 0, 1) := by decide +kernel
theorem dX4_exchange_44 : decode cX4_exchange 44 = .ok (.getfield 13, 3) := by decide +kernel
theorem dX4_exchange_47 : decode cX4_exchange 47 = .ok (.iload_n 2, 1) := by decide +kernel
theorem dX4_exchange_48 : decode cX4_exchange 48 = .ok (.iload_n 3, 1) := by decide +kernel
theorem dX4_exchange_49 : decode cX4_exchange 49 = .ok (.iastore, 1) := by decide +kernel
theorem dX4_exchange_50 : decode cX4_exchange 50 = .ok (.return_, 1) := by decide +kernel
theorem dX4_insertInOrder_0 : decode cX4_insertInOrder 0 = .ok (.aload_n 0, 1) := by decide +kernel
theorem dX4_insertInOrder_1 : decode cX4_insertInOrder 1 = .ok (.iload_n 1, 1) := by decide +kernel
theorem dX4_insertInOrder_2 : decode cX4_insertInOrder 2 = .ok (.invokevirtual 27, 3) := by decide +kernel
theorem dX4_insertInOrder_5 : decode cX4_insertInOrder 5 = .ok (.aload_n 0, 1) := by decide +kernel
theorem dX4_insertInOrder_6 : decode cX4_insertInOrder 6 = .ok (.getfield 19, 3) := by decide +kernel
theorem dX4_insertInOrder_9 : decode cX4_insertInOrder 9 = .ok (.iconst 1, 1) := by decide +kernel
theorem dX4_insertInOrder_10 : decode cX4_insertInOrder 10 = .ok (.isub, 1) := by decide +kernel
theorem dX4_insertInOrder_11 : decode cX4_insertInOrder 11 = .ok (.istore_n 2, 1) := by decide +kernel
theorem dX4_insertInOrder_12 : decode cX4_insertInOrder 12 = .ok (.iload_n 2, 1) := by decide +kernel
theorem dX4_insertInOrder_13 : decode cX4_insertInOrder 13 = .ok (.ifCond .le 32, 3) := by decide +kernel
theorem dX4_insertInOrder_16 : decode cX4_insertInOrder 16 = .ok (.aload_n 0, 1) := by decide +kernel
theorem dX4_insertInOrder_17 : decode cX4_insertInOrder 17 = .ok (.iload_n 2, 1) := by decide +kernel
theorem dX4_insertInOrder_18 : decode cX4_insertInOrder 18 = .ok (.iconst 1, 1) := by decide +kernel
theorem dX4_insertInOrder_19 : decode cX4_insertInOrder 19 = .ok (.isub, 1) := by decide +kernel
theorem dX4_insertInOrder_20 : decode cX4_insertInOrder 20 = .ok (.invokevirtual 23, 3) := by decide +kernel
theorem dX4_insertInOrder_23 : decode cX4_insertInOrder 23 = .ok (.aload_n 0, 1) := by decide +kernel
theorem dX4_insertInOrder_24 : decode cX4_insertInOrder 24 = .ok (.iload_n 2, 1) := by decide +kernel
theorem dX4_insertInOrder_25 : decode cX4_insertInOrder 25 = .ok (.invokevirtual 23, 3) := by decide +kernel
theorem dX4_insertInOrder_28 : decode cX4_insertInOrder 28 = .ok (.if_icmp .le 17, 3) := by decide +kernel
theorem dX4_insertInOrder_31 : decode cX4_insertInOrder 31 = .ok (.aload_n 0, 1) := by decide +kernel
theorem dX4_insertInOrder_32 : decode cX4_insertInOrder 32 = .ok (.iload_n 2, 1) := by decide +kernel
theorem dX4_insertInOrder_33 : decode cX4_insertInOrder 33 = .ok (.iconst 1, 1) := by decide +kernel
theorem dX4_insertInOrder_34 : decode cX4_insertInOrder 34 = .ok (.isub, 1) := by decide +kernel
theorem dX4_insertInOrder_35 : decode cX4_insertInOrder 35 = .ok (.iload_n 2, 1) := by decide +kernel
theorem dX4_insertInOrder_36 : decode cX4_insertInOrder 36 = .ok (.invokevirtual 31, 3) := by decide +kernel
theorem dX4_insertInOrder_39 : decode cX4_insertInOrder 39 = .ok (.iinc 2 (-1), 3) := by decide +kernel
theorem dX4_insertInOrder_42 : decode cX4_insertInOrder 42 = .ok (.goto (-30), 3) := by decide +kernel
theorem dX4_insertInOrder_45 : decode cX4_insertInOrder 45 = .ok (.return_, 1) := by decide +kernel
theorem dX4_shortenTo_0 : decode cX4_shortenTo 0 = .ok (.iload_n 1, 1) := by decide +kernel
theorem dX4_shortenTo_1 : decode cX4_shortenTo 1 = .ok (.ifCond .lt 16, 3) := by decide +kernel
theorem dX4_shortenTo_4 : decode cX4_shortenTo 4 = .ok (.iload_n 1, 1) := by decide +kernel
theorem dX4_shortenTo_5 : decode cX4_shortenTo 5 = .ok (.aload_n 0, 1) := by decide +kernel
theorem dX4_shortenTo_6 : decode cX4_shortenTo 6 = .ok (.getfield 19, 3) := by decide +kernel
theorem dX4_shortenTo_9 : decode cX4_shortenTo 9 = .ok (.if_icmp .ge 8, 3) := by decide +kernel
theorem dX4_shortenTo_12 : decode cX4_shortenTo 12 = .ok (.aload_n 0, 1) := by decide +kernel
theorem dX4_shortenTo_13 : decode cX4_shortenTo 13 = .ok (.iload_n 1, 1) := by decide +kernel
theorem dX4_shortenTo_14 : decode cX4_shortenTo 14 = .ok (.putfield 19, 3) := by decide +kernel
theorem dX4_shortenTo_17 : decode cX4_shortenTo 17 = .ok (.return_, 1) := by decide +kernel
theorem dX4_empty_0 : decode cX4_empty 0 = .ok (.aload_n 0, 1) := by decide +kernel
theorem dX4_empty_1 : decode cX4_empty 1 = .ok (.iconst 0, 1) := by decide +kernel
theorem dX4_empty_2 : decode cX4_empty 2 = .ok (.putfield 19, 3) := by decide +kernel
theorem dX4_empty_5 : decode cX4_empty 5 = .ok (.return_, 1) := by decide +kernel
theorem dX4_copyFrom_0 : decode cX4_copyFrom 0 = .ok (.aload_n 0, 1) := by decide +kernel
theorem dX4_copyFrom_1 : decode cX4_copyFrom 1 = .ok (.aload_n 1, 1) := by decide +kernel
theorem dX4_copyFrom_2 : decode cX4_copyFrom 2 = .ok (.getfield 19, 3) := by decide +kernel
theorem dX4_copyFrom_5 : decode cX4_copyFrom 5 = .ok (.aload_n 0, 1) := by decide +kernel
theorem dX4_copyFrom_6 : decode cX4_copyFrom 6 = .ok (.getfield 13, 3) := by decide +kernel
theorem dX4_copyFrom_9 : decode cX4_copyFrom 9 = .ok (.arraylength, 1) := by decide +kernel
theorem dX4_copyFrom_10 : decode cX4_copyFrom 10 = .ok (.invokestatic 35, 3) := by decide +kernel
theorem dX4_copyFrom_13 : decode cX4_copyFrom 13 = .ok (.putfield 19, 3) := by decide +kernel
theorem dX4_copyFrom_16 : decode cX4_copyFrom 16 = .ok (.aload_n 1, 1) := by decide +kernel
theorem dX4_copyFrom_17 : decode cX4_copyFrom 17 = .ok (.getfield 13, 3) := by decide +kernel
theorem dX4_copyFrom_20 : decode cX4_copyFrom 20 = .ok (.iconst 0, 1) := by decide +kernel
theorem dX4_copyFrom_21 : decode cX4_copyFrom 21 = .ok (.aload_n 0, 1) := by decide +kernel
theorem dX4_copyFrom_22 : decode cX4_copyFrom 22 = .ok (.getfield 13, 3) := by decide +kernel
theorem dX4_copyFrom_25 : decode cX4_copyFrom 25 = .ok (.iconst 0, 1) := by decide +kernel
theorem dX4_copyFrom_26 : decode cX4_copyFrom 26 = .ok (.aload_n 0, 1) := by decide +kernel
theorem dX4_copyFrom_27 : decode cX4_copyFrom 27 = .ok (.getfield 19, 3) := by decide +kernel
theorem dX4_copyFrom_30 : decode cX4_copyFrom 30 = .ok (.invokestatic 38, 3) := by decide +kernel
theorem dX4_copyFrom_33 : decode cX4_copyFrom 33 = .ok (.return_, 1) := by decide +kernel
theorem dX4_total_0 : decode cX4_total 0 = .ok (.iconst 0, 1) := by decide +kernel
theorem dX4_total_1 : decode cX4_total 1 = .ok (.istore_n 1, 1) := by decide +kernel
theorem dX4_total_2 : decode cX4_total 2 = .ok (.iconst 0, 1) := by decide +kernel
theorem dX4_total_3 : decode cX4_total 3 = .ok (.istore_n 2, 1) := by decide +kernel
theorem dX4_total_4 : decode cX4_total 4 = .ok (.iload_n 2, 1) := by decide +kernel
theorem dX4_total_5 : decode cX4_total 5 = .ok (.aload_n 0, 1) := by decide +kernel
theorem dX4_total_6 : decode cX4_total 6 = .ok (.getfield 19, 3) := by decide +kernel
theorem dX4_total_9 : decode cX4_total 9 = .ok (.if_icmp .ge 17, 3) := by decide +kernel
theorem dX4_total_12 : decode cX4_total 12 = .ok (.iload_n 1, 1) := by decide +kernel
theorem dX4_total_13 : decode cX4_total 13 = .ok (.aload_n 0, 1) := by decide +kernel
theorem dX4_total_14 : decode cX4_total 14 = .ok (.iload_n 2, 1) := by decide +kernel
theorem dX4_total_15 : decode cX4_total 15 = .ok (.invokevirtual 23, 3) := by decide +kernel
theorem dX4_total_18 : decode cX4_total 18 = .ok (.iadd, 1) := by decide +kernel
theorem dX4_total_19 : decode cX4_total 19 = .ok (.istore_n 1, 1) := by decide +kernel
theorem dX4_total_20 : decode cX4_total 20 = .ok (.iinc 2 1, 3) := by decide +kernel
theorem dX4_total_23 : decode cX4_total 23 = .ok (.goto (-19), 3) := by decide +kernel
theorem dX4_total_26 : decode cX4_total 26 = .ok (.iload_n 1, 1) := by decide +kernel
theorem dX4_total_27 : decode cX4_total 27 = .ok (.ireturn, 1) := by decide +kernel
theorem dX4_least_0 : decode cX4_least 0 = .ok (.ldc 46, 2) := by decide +kernel
theorem dX4_least_2 : decode cX4_least 2 = .ok (.istore_n 1, 1) := by decide +kernel
theorem dX4_least_3 : decode cX4_least 3 = .ok (.iconst 0, 1) := by decide +kernel
theorem dX4_least_4 : decode cX4_least 4 = .ok (.istore_n 2, 1) := by decide +kernel
theorem dX4_least_5 : decode cX4_least 5 = .ok (.iload_n 2, 1) := by decide +kernel
theorem dX4_least_6 : decode cX4_least 6 = .ok (.aload_n 0, 1) := by decide +kernel
theorem dX4_least_7 : decode cX4_least 7 = .ok (.getfield 19, 3) := by decide +kernel
theorem dX4_least_10 : decode cX4_least 10 = .ok (.if_icmp .ge 19, 3) := by decide +kernel
theorem dX4_least_13 : decode cX4_least 13 = .ok (.iload_n 1, 1) := by decide +kernel
theorem dX4_least_14 : decode cX4_least 14 = .ok (.aload_n 0, 1) := by decide +kernel
theorem dX4_least_15 : decode cX4_least 15 = .ok (.iload_n 2, 1) := by decide +kernel
theorem dX4_least_16 : decode cX4_least 16 = .ok (.invokevirtual 23, 3) := by decide +kernel
theorem dX4_least_19 : decode cX4_least 19 = .ok (.invokestatic 35, 3) := by decide +kernel
theorem dX4_least_22 : decode cX4_least 22 = .ok (.istore_n 1, 1) := by decide +kernel
theorem dX4_least_23 : decode cX4_least 23 = .ok (.iinc 2 1, 3) := by decide +kernel
theorem dX4_least_26 : decode cX4_least 26 = .ok (.goto (-21), 3) := by decide +kernel
theorem dX4_least_29 : decode cX4_least 29 = .ok (.iload_n 1, 1) := by decide +kernel
theorem dX4_least_30 : decode cX4_least 30 = .ok (.ireturn, 1) := by decide +kernel
theorem dX4_greatest_0 : decode cX4_greatest 0 = .ok (.ldc 47, 2) := by decide +kernel
theorem dX4_greatest_2 : decode cX4_greatest 2 = .ok (.istore_n 1, 1) := by decide +kernel
theorem dX4_greatest_3 : decode cX4_greatest 3 = .ok (.iconst 0, 1) := by decide +kernel
theorem dX4_greatest_4 : decode cX4_greatest 4 = .ok (.istore_n 2, 1) := by decide +kernel
theorem dX4_greatest_5 : decode cX4_greatest 5 = .ok (.iload_n 2, 1) := by decide +kernel
theorem dX4_greatest_6 : decode cX4_greatest 6 = .ok (.aload_n 0, 1) := by decide +kernel
theorem dX4_greatest_7 : decode cX4_greatest 7 = .ok (.getfield 19, 3) := by decide +kernel
theorem dX4_greatest_10 : decode cX4_greatest 10 = .ok (.if_icmp .ge 19, 3) := by decide +kernel
theorem dX4_greatest_13 : decode cX4_greatest 13 = .ok (.iload_n 1, 1) := by decide +kernel
theorem dX4_greatest_14 : decode cX4_greatest 14 = .ok (.aload_n 0, 1) := by decide +kernel
theorem dX4_greatest_15 : decode cX4_greatest 15 = .ok (.iload_n 2, 1) := by decide +kernel
theorem dX4_greatest_16 : decode cX4_greatest 16 = .ok (.invokevirtual 23, 3) := by decide +kernel
theorem dX4_greatest_19 : decode cX4_greatest 19 = .ok (.invokestatic 7, 3) := by decide +kernel
theorem dX4_greatest_22 : decode cX4_greatest 22 = .ok (.istore_n 1, 1) := by decide +kernel
theorem dX4_greatest_23 : decode cX4_greatest 23 = .ok (.iinc 2 1, 3) := by decide +kernel
theorem dX4_greatest_26 : decode cX4_greatest 26 = .ok (.goto (-21), 3) := by decide +kernel
theorem dX4_greatest_29 : decode cX4_greatest 29 = .ok (.iload_n 1, 1) := by decide +kernel
theorem dX4_greatest_30 : decode cX4_greatest 30 = .ok (.ireturn, 1) := by decide +kernel
theorem dX5_init_0 : decode cX5_init 0 = .ok (.aload_n 0, 1) := by decide +kernel
theorem dX5_init_1 : decode cX5_init 1 = .ok (.invokespecial 3, 3) := by decide +kernel
theorem dX5_init_4 : decode cX5_init 4 = .ok (.aload_n 0, 1) := by decide +kernel
theorem dX5_init_5 : decode cX5_init 5 = .ok (.new 9, 3) := by decide +kernel
theorem dX5_init_8 : decode cX5_init 8 = .ok (.dup, 1) := by decide +kernel
theorem dX5_init_9 : decode cX5_init 9 = .ok (.iconst 2, 1) := by decide +kernel
theorem dX5_init_10 : decode cX5_init 10 = .ok (.invokespecial 11, 3) := by decide +kernel
theorem dX5_init_13 : decode cX5_init 13 = .ok (.putfield 14, 3) := by decide +kernel
theorem dX5_init_16 : decode cX5_init 16 = .ok (.aload_n 0, 1) := by decide +kernel
theorem dX5_init_17 : decode cX5_init 17 = .ok (.new 20, 3) := by decide +kernel
theorem dX5_init_20 : decode cX5_init 20 = .ok (.dup, 1) := by decide +kernel
theorem dX5_init_21 : decode cX5_init 21 = .ok (.invokespecial 22, 3) := by decide +kernel
theorem dX5_init_24 : decode cX5_init 24 = .ok (.putfield 23, 3) := by decide +kernel
theorem dX5_init_27 : decode cX5_init 27 = .ok (.aload_n 0, 1) := by decide +kernel
theorem dX5_init_28 : decode cX5_init 28 = .ok (.new 20, 3) := by decide +kernel
theorem dX5_init_31 : decode cX5_init 31 = .ok (.dup, 1) := by decide +kernel
theorem dX5_init_32 : decode cX5_init 32 = .ok (.invokespecial 22, 3) := by decide +kernel
theorem dX5_init_35 : decode cX5_init 35 = .ok (.putfield 27, 3) := by decide +kernel
theorem dX5_init_38 : decode cX5_init 38 = .ok (.aload_n 0, 1) := by decide +kernel
theorem dX5_init_39 : decode cX5_init 39 = .ok (.new 20, 3) := by decide +kernel
theorem dX5_init_42 : decode cX5_init 42 = .ok (.dup, 1) := by decide +kernel
theorem dX5_init_43 : decode cX5_init 43 = .ok (.invokespecial 22, 3) := by decide +kernel
theorem dX5_init_46 : decode cX5_init 46 = .ok (.putfield 30, 3) := by decide +kernel
theorem dX5_init_49 : decode cX5_init 49 = .ok (.aload_n 0, 1) := by decide +kernel
theorem dX5_init_50 : decode cX5_init 50 = .ok (.getfield 14, 3) := by decide +kernel
theorem dX5_init_53 : decode cX5_init 53 = .ok (.bipush 10, 2) := by decide +kernel
theorem dX5_init_55 : decode cX5_init 55 = .ok (.invokevirtual 33, 3) := by decide +kernel
theorem dX5_init_58 : decode cX5_init 58 = .ok (.aload_n 0, 1) := by decide +kernel
theorem dX5_init_59 : decode cX5_init 59 = .ok (.getfield 14, 3) := by decide +kernel
theorem dX5_init_62 : decode cX5_init 62 = .ok (.iconst 5, 1) := by decide +kernel
theorem dX5_init_63 : decode cX5_init 63 = .ok (.invokevirtual 33, 3) := by decide +kernel
theorem dX5_init_66 : decode cX5_init 66 = .ok (.return_, 1) := by decide +kernel
theorem dX5_digestAt_0 : decode cX5_digestAt 0 = .ok (.iload_n 1, 1) := by decide +kernel
theorem dX5_digestAt_1 : decode cX5_digestAt 1 = .ok (.tableswitch 42 0 2 #[27, 32, 37], 27) := by decide +kernel
theorem dX5_digestAt_28 : decode cX5_digestAt 28 = .ok (.aload_n 0, 1) := by decide +kernel
theorem dX5_digestAt_29 : decode cX5_digestAt 29 = .ok (.getfield 23, 3) := by decide +kernel
theorem dX5_digestAt_32 : decode cX5_digestAt 32 = .ok (.areturn, 1) := by decide +kernel
theorem dX5_digestAt_33 : decode cX5_digestAt 33 = .ok (.aload_n 0, 1) := by decide +kernel
theorem dX5_digestAt_34 : decode cX5_digestAt 34 = .ok (.getfield 27, 3) := by decide +kernel
theorem dX5_digestAt_37 : decode cX5_digestAt 37 = .ok (.areturn, 1) := by decide +kernel
theorem dX5_digestAt_38 : decode cX5_digestAt 38 = .ok (.aload_n 0, 1) := by decide +kernel
theorem dX5_digestAt_39 : decode cX5_digestAt 39 = .ok (.getfield 30, 3) := by decide +kernel
theorem dX5_digestAt_42 : decode cX5_digestAt 42 = .ok (.areturn, 1) := by decide +kernel
theorem dX5_digestAt_43 : decode cX5_digestAt 43 = .ok (.aconst_null, 1) := by decide +kernel
theorem dX5_digestAt_44 : decode cX5_digestAt 44 = .ok (.areturn, 1) := by decide +kernel
theorem dX5_weight_0 : decode cX5_weight 0 = .ok (.aload_n 0, 1) := by decide +kernel
theorem dX5_weight_1 : decode cX5_weight 1 = .ok (.getfield 23, 3) := by decide +kernel
theorem dX5_weight_4 : decode cX5_weight 4 = .ok (.invokevirtual 36, 3) := by decide +kernel
theorem dX5_weight_7 : decode cX5_weight 7 = .ok (.aload_n 0, 1) := by decide +kernel
theorem dX5_weight_8 : decode cX5_weight 8 = .ok (.getfield 27, 3) := by decide +kernel
theorem dX5_weight_11 : decode cX5_weight 11 = .ok (.invokevirtual 36, 3) := by decide +kernel
theorem dX5_weight_14 : decode cX5_weight 14 = .ok (.iadd, 1) := by decide +kernel
theorem dX5_weight_15 : decode cX5_weight 15 = .ok (.aload_n 0, 1) := by decide +kernel
theorem dX5_weight_16 : decode cX5_weight 16 = .ok (.getfield 30, 3) := by decide +kernel
theorem dX5_weight_19 : decode cX5_weight 19 = .ok (.invokevirtual 36, 3) := by decide +kernel
theorem dX5_weight_22 : decode cX5_weight 22 = .ok (.iadd, 1) := by decide +kernel
theorem dX5_weight_23 : decode cX5_weight 23 = .ok (.ireturn, 1) := by decide +kernel
theorem dX5_heapCount_0 : decode cX5_heapCount 0 = .ok (.aload_n 0, 1) := by decide +kernel
theorem dX5_heapCount_1 : decode cX5_heapCount 1 = .ok (.getfield 23, 3) := by decide +kernel
theorem dX5_heapCount_4 : decode cX5_heapCount 4 = .ok (.getfield 40, 3) := by decide +kernel
theorem dX5_heapCount_7 : decode cX5_heapCount 7 = .ok (.invokevirtual 44, 3) := by decide +kernel
theorem dX5_heapCount_10 : decode cX5_heapCount 10 = .ok (.aload_n 0, 1) := by decide +kernel
theorem dX5_heapCount_11 : decode cX5_heapCount 11 = .ok (.getfield 27, 3) := by decide +kernel
theorem dX5_heapCount_14 : decode cX5_heapCount 14 = .ok (.getfield 40, 3) := by decide +kernel
theorem dX5_heapCount_17 : decode cX5_heapCount 17 = .ok (.invokevirtual 44, 3) := by decide +kernel
theorem dX5_heapCount_20 : decode cX5_heapCount 20 = .ok (.iadd, 1) := by decide +kernel
theorem dX5_heapCount_21 : decode cX5_heapCount 21 = .ok (.aload_n 0, 1) := by decide +kernel
theorem dX5_heapCount_22 : decode cX5_heapCount 22 = .ok (.getfield 30, 3) := by decide +kernel
theorem dX5_heapCount_25 : decode cX5_heapCount 25 = .ok (.getfield 40, 3) := by decide +kernel
theorem dX5_heapCount_28 : decode cX5_heapCount 28 = .ok (.invokevirtual 44, 3) := by decide +kernel
theorem dX5_heapCount_31 : decode cX5_heapCount 31 = .ok (.iadd, 1) := by decide +kernel
theorem dX5_heapCount_32 : decode cX5_heapCount 32 = .ok (.ireturn, 1) := by decide +kernel
theorem dX5_copyFrom_0 : decode cX5_copyFrom 0 = .ok (.aload_n 0, 1) := by decide +kernel
theorem dX5_copyFrom_1 : decode cX5_copyFrom 1 = .ok (.getfield 14, 3) := by decide +kernel
theorem dX5_copyFrom_4 : decode cX5_copyFrom 4 = .ok (.aload_n 1, 1) := by decide +kernel
theorem dX5_copyFrom_5 : decode cX5_copyFrom 5 = .ok (.getfield 14, 3) := by decide +kernel
theorem dX5_copyFrom_8 : decode cX5_copyFrom 8 = .ok (.invokevirtual 49, 3) := by decide +kernel
theorem dX5_copyFrom_11 : decode cX5_copyFrom 11 = .ok (.aload_n 0, 1) := by decide +kernel
theorem dX5_copyFrom_12 : decode cX5_copyFrom 12 = .ok (.getfield 23, 3) := by decide +kernel
theorem dX5_copyFrom_15 : decode cX5_copyFrom 15 = .ok (.aload_n 1, 1) := by decide +kernel
theorem dX5_copyFrom_16 : decode cX5_copyFrom 16 = .ok (.getfield 23, 3) := by decide +kernel
theorem dX5_copyFrom_19 : decode cX5_copyFrom 19 = .ok (.invokevirtual 53, 3) := by decide +kernel
theorem dX5_copyFrom_22 : decode cX5_copyFrom 22 = .ok (.aload_n 0, 1) := by decide +kernel
theorem dX5_copyFrom_23 : decode cX5_copyFrom 23 = .ok (.getfield 27, 3) := by decide +kernel
theorem dX5_copyFrom_26 : decode cX5_copyFrom 26 = .ok (.aload_n 1, 1) := by decide +kernel
theorem dX5_copyFrom_27 : decode cX5_copyFrom 27 = .ok (.getfield 27, 3) := by decide +kernel
theorem dX5_copyFrom_30 : decode cX5_copyFrom 30 = .ok (.invokevirtual 53, 3) := by decide +kernel
theorem dX5_copyFrom_33 : decode cX5_copyFrom 33 = .ok (.aload_n 0, 1) := by decide +kernel
theorem dX5_copyFrom_34 : decode cX5_copyFrom 34 = .ok (.getfield 30, 3) := by decide +kernel
theorem dX5_copyFrom_37 : decode cX5_copyFrom 37 = .ok (.aload_n 1, 1) := by decide +kernel
theorem dX5_copyFrom_38 : decode cX5_copyFrom 38 = .ok (.getfield 30, 3) := by decide +kernel
theorem dX5_copyFrom_41 : decode cX5_copyFrom 41 = .ok (.invokevirtual 53, 3) := by decide +kernel
theorem dX5_copyFrom_44 : decode cX5_copyFrom 44 = .ok (.return_, 1) := by decide +kernel
theorem dX6_init_0 : decode cX6_init 0 = .ok (.aload_n 0, 1) := by decide +kernel
theorem dX6_init_1 : decode cX6_init 1 = .ok (.invokespecial 3, 3) := by decide +kernel
theorem dX6_init_4 : decode cX6_init 4 = .ok (.aload_n 0, 1) := by decide +kernel
theorem dX6_init_5 : decode cX6_init 5 = .ok (.new 9, 3) := by decide +kernel
theorem dX6_init_8 : decode cX6_init 8 = .ok (.dup, 1) := by decide +kernel
theorem dX6_init_9 : decode cX6_init 9 = .ok (.iconst 3, 1) := by decide +kernel
theorem dX6_init_10 : decode cX6_init 10 = .ok (.invokespecial 11, 3) := by decide +kernel
theorem dX6_init_13 : decode cX6_init 13 = .ok (.putfield 14, 3) := by decide +kernel
theorem dX6_init_16 : decode cX6_init 16 = .ok (.aload_n 0, 1) := by decide +kernel
theorem dX6_init_17 : decode cX6_init 17 = .ok (.iconst 0, 1) := by decide +kernel
theorem dX6_init_18 : decode cX6_init 18 = .ok (.putfield 20, 3) := by decide +kernel
theorem dX6_init_21 : decode cX6_init 21 = .ok (.aload_n 0, 1) := by decide +kernel
theorem dX6_init_22 : decode cX6_init 22 = .ok (.iconst 0, 1) := by decide +kernel
theorem dX6_init_23 : decode cX6_init 23 = .ok (.putfield 24, 3) := by decide +kernel
theorem dX6_init_26 : decode cX6_init 26 = .ok (.aload_n 0, 1) := by decide +kernel
theorem dX6_init_27 : decode cX6_init 27 = .ok (.iconst 0, 1) := by decide +kernel
theorem dX6_init_28 : decode cX6_init 28 = .ok (.putfield 27, 3) := by decide +kernel
theorem dX6_init_31 : decode cX6_init 31 = .ok (.return_, 1) := by decide +kernel
theorem dX6_find_0 : decode cX6_find 0 = .ok (.aload_n 0, 1) := by decide +kernel
theorem dX6_find_1 : decode cX6_find 1 = .ok (.aload_n 2, 1) := by decide +kernel
theorem dX6_find_2 : decode cX6_find 2 = .ok (.invokevirtual 30, 3) := by decide +kernel
theorem dX6_find_5 : decode cX6_find 5 = .ok (.aload_n 0, 1) := by decide +kernel
theorem dX6_find_6 : decode cX6_find 6 = .ok (.iconst 0, 1) := by decide +kernel
theorem dX6_find_7 : decode cX6_find 7 = .ok (.putfield 24, 3) := by decide +kernel
theorem dX6_find_10 : decode cX6_find 10 = .ok (.iconst 0, 1) := by decide +kernel
theorem dX6_find_11 : decode cX6_find 11 = .ok (.istore 4, 2) := by decide +kernel
theorem dX6_find_13 : decode cX6_find 13 = .ok (.iconst 0, 1) := by decide +kernel
theorem dX6_find_14 : decode cX6_find 14 = .ok (.istore 5, 2) := by decide +kernel
theorem dX6_find_16 : decode cX6_find 16 = .ok (.iload 5, 2) := by decide +kernel
theorem dX6_find_18 : decode cX6_find 18 = .ok (.bipush 60, 2) := by decide +kernel
theorem dX6_find_20 : decode cX6_find 20 = .ok (.if_icmp .ge 61, 3) := by decide +kernel
theorem dX6_find_23 : decode cX6_find 23 = .ok (.iload 4, 2) := by decide +kernel
theorem dX6_find_25 : decode cX6_find 25 = .ok (.aload_n 1, 1) := by decide +kernel
theorem dX6_find_26 : decode cX6_find 26 = .ok (.invokevirtual 34, 3) := by decide +kernel
theorem dX6_find_29 : decode cX6_find 29 = .ok (.if_icmp .ge 52, 3) := by decide +kernel
theorem dX6_find_32 : decode cX6_find 32 = .ok (.aload_n 0, 1) := by decide +kernel
theorem dX6_find_33 : decode cX6_find 33 = .ok (.aload_n 0, 1) := by decide +kernel
theorem dX6_find_34 : decode cX6_find 34 = .ok (.aload_n 1, 1) := by decide +kernel
theorem dX6_find_35 : decode cX6_find 35 = .ok (.iload 4, 2) := by decide +kernel
theorem dX6_find_37 : decode cX6_find 37 = .ok (.aload_n 3, 1) := by decide +kernel
theorem dX6_find_38 : decode cX6_find 38 = .ok (.invokevirtual 38, 3) := by decide +kernel
