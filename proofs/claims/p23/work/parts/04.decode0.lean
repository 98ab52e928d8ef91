theorem dX0_init_0 : decode cX0_init 0 = .ok (.aload_n 0, 1) := by decide +kernel
theorem dX0_init_1 : decode cX0_init 1 = .ok (.invokespecial 3, 3) := by decide +kernel
theorem dX0_init_4 : decode cX0_init 4 = .ok (.aload_n 0, 1) := by decide +kernel
theorem dX0_init_5 : decode cX0_init 5 = .ok (.new 9, 3) := by decide +kernel
theorem dX0_init_8 : decode cX0_init 8 = .ok (.dup, 1) := by decide +kernel
theorem dX0_init_9 : decode cX0_init 9 = .ok (.invokespecial 11, 3) := by decide +kernel
theorem dX0_init_12 : decode cX0_init 12 = .ok (.putfield 12, 3) := by decide +kernel
theorem dX0_init_15 : decode cX0_init 15 = .ok (.aload_n 0, 1) := by decide +kernel
theorem dX0_init_16 : decode cX0_init 16 = .ok (.new 18, 3) := by decide +kernel
theorem dX0_init_19 : decode cX0_init 19 = .ok (.dup, 1) := by decide +kernel
theorem dX0_init_20 : decode cX0_init 20 = .ok (.bipush 20, 2) := by decide +kernel
theorem dX0_init_22 : decode cX0_init 22 = .ok (.invokespecial 20, 3) := by decide +kernel
theorem dX0_init_25 : decode cX0_init 25 = .ok (.putfield 23, 3) := by decide +kernel
theorem dX0_init_28 : decode cX0_init 28 = .ok (.aload_n 0, 1) := by decide +kernel
theorem dX0_init_29 : decode cX0_init 29 = .ok (.new 18, 3) := by decide +kernel
theorem dX0_init_32 : decode cX0_init 32 = .ok (.dup, 1) := by decide +kernel
theorem dX0_init_33 : decode cX0_init 33 = .ok (.sipush 200, 3) := by decide +kernel
theorem dX0_init_36 : decode cX0_init 36 = .ok (.invokespecial 20, 3) := by decide +kernel
theorem dX0_init_39 : decode cX0_init 39 = .ok (.putfield 27, 3) := by decide +kernel
theorem dX0_init_42 : decode cX0_init 42 = .ok (.aload_n 0, 1) := by decide +kernel
theorem dX0_init_43 : decode cX0_init 43 = .ok (.iconst 0, 1) := by decide +kernel
theorem dX0_init_44 : decode cX0_init 44 = .ok (.putfield 30, 3) := by decide +kernel
theorem dX0_init_47 : decode cX0_init 47 = .ok (.return_, 1) := by decide +kernel
theorem dX0_weight_0 : decode cX0_weight 0 = .ok (.aload_n 0, 1) := by decide +kernel
theorem dX0_weight_1 : decode cX0_weight 1 = .ok (.getfield 12, 3) := by decide +kernel
theorem dX0_weight_4 : decode cX0_weight 4 = .ok (.getfield 34, 3) := by decide +kernel
theorem dX0_weight_7 : decode cX0_weight 7 = .ok (.invokevirtual 37, 3) := by decide +kernel
theorem dX0_weight_10 : decode cX0_weight 10 = .ok (.aload_n 0, 1) := by decide +kernel
theorem dX0_weight_11 : decode cX0_weight 11 = .ok (.getfield 23, 3) := by decide +kernel
theorem dX0_weight_14 : decode cX0_weight 14 = .ok (.invokevirtual 41, 3) := by decide +kernel
theorem dX0_weight_17 : decode cX0_weight 17 = .ok (.iadd, 1) := by decide +kernel
theorem dX0_weight_18 : decode cX0_weight 18 = .ok (.ireturn, 1) := by decide +kernel
theorem dX0_sum_0 : decode cX0_sum 0 = .ok (.aload_n 0, 1) := by decide +kernel
theorem dX0_sum_1 : decode cX0_sum 1 = .ok (.getfield 12, 3) := by decide +kernel
theorem dX0_sum_4 : decode cX0_sum 4 = .ok (.getfield 44, 3) := by decide +kernel
theorem dX0_sum_7 : decode cX0_sum 7 = .ok (.invokevirtual 37, 3) := by decide +kernel
theorem dX0_sum_10 : decode cX0_sum 10 = .ok (.aload_n 0, 1) := by decide +kernel
theorem dX0_sum_11 : decode cX0_sum 11 = .ok (.getfield 23, 3) := by decide +kernel
theorem dX0_sum_14 : decode cX0_sum 14 = .ok (.invokevirtual 37, 3) := by decide +kernel
theorem dX0_sum_17 : decode cX0_sum 17 = .ok (.iadd, 1) := by decide +kernel
theorem dX0_sum_18 : decode cX0_sum 18 = .ok (.ireturn, 1) := by decide +kernel
theorem dX0_least_0 : decode cX0_least 0 = .ok (.aload_n 0, 1) := by decide +kernel
theorem dX0_least_1 : decode cX0_least 1 = .ok (.getfield 12, 3) := by decide +kernel
theorem dX0_least_4 : decode cX0_least 4 = .ok (.getfield 47, 3) := by decide +kernel
theorem dX0_least_7 : decode cX0_least 7 = .ok (.invokevirtual 50, 3) := by decide +kernel
theorem dX0_least_10 : decode cX0_least 10 = .ok (.aload_n 0, 1) := by decide +kernel
theorem dX0_least_11 : decode cX0_least 11 = .ok (.getfield 23, 3) := by decide +kernel
theorem dX0_least_14 : decode cX0_least 14 = .ok (.invokevirtual 50, 3) := by decide +kernel
theorem dX0_least_17 : decode cX0_least 17 = .ok (.invokestatic 53, 3) := by decide +kernel
theorem dX0_least_20 : decode cX0_least 20 = .ok (.ireturn, 1) := by decide +kernel
theorem dX0_greatest_0 : decode cX0_greatest 0 = .ok (.aload_n 0, 1) := by decide +kernel
theorem dX0_greatest_1 : decode cX0_greatest 1 = .ok (.getfield 12, 3) := by decide +kernel
theorem dX0_greatest_4 : decode cX0_greatest 4 = .ok (.getfield 59, 3) := by decide +kernel
theorem dX0_greatest_7 : decode cX0_greatest 7 = .ok (.invokevirtual 62, 3) := by decide +kernel
theorem dX0_greatest_10 : decode cX0_greatest 10 = .ok (.aload_n 0, 1) := by decide +kernel
theorem dX0_greatest_11 : decode cX0_greatest 11 = .ok (.getfield 23, 3) := by decide +kernel
theorem dX0_greatest_14 : decode cX0_greatest 14 = .ok (.invokevirtual 62, 3) := by decide +kernel
theorem dX0_greatest_17 : decode cX0_greatest 17 = .ok (.invokestatic 65, 3) := by decide +kernel
theorem dX0_greatest_20 : decode cX0_greatest 20 = .ok (.ireturn, 1) := by decide +kernel
theorem dX0_trueQuantileAt_0 : decode cX0_trueQuantileAt 0 = .ok (.aload_n 0, 1) := by decide +kernel
theorem dX0_trueQuantileAt_1 : decode cX0_trueQuantileAt 1 = .ok (.getfield 27, 3) := by decide +kernel
theorem dX0_trueQuantileAt_4 : decode cX0_trueQuantileAt 4 = .ok (.iload_n 1, 1) := by decide +kernel
theorem dX0_trueQuantileAt_5 : decode cX0_trueQuantileAt 5 = .ok (.aload_n 0, 1) := by decide +kernel
theorem dX0_trueQuantileAt_6 : decode cX0_trueQuantileAt 6 = .ok (.getfield 27, 3) := by decide +kernel
theorem dX0_trueQuantileAt_9 : decode cX0_trueQuantileAt 9 = .ok (.invokevirtual 41, 3) := by decide +kernel
theorem dX0_trueQuantileAt_12 : decode cX0_trueQuantileAt 12 = .ok (.invokestatic 68, 3) := by decide +kernel
theorem dX0_trueQuantileAt_15 : decode cX0_trueQuantileAt 15 = .ok (.invokevirtual 71, 3) := by decide +kernel
theorem dX0_trueQuantileAt_18 : decode cX0_trueQuantileAt 18 = .ok (.ireturn, 1) := by decide +kernel
theorem dX0_receive_0 : decode cX0_receive 0 = .ok (.aload_n 0, 1) := by decide +kernel
theorem dX0_receive_1 : decode cX0_receive 1 = .ok (.getfield 23, 3) := by decide +kernel
theorem dX0_receive_4 : decode cX0_receive 4 = .ok (.invokevirtual 41, 3) := by decide +kernel
theorem dX0_receive_7 : decode cX0_receive 7 = .ok (.aload_n 2, 1) := by decide +kernel
theorem dX0_receive_8 : decode cX0_receive 8 = .ok (.iconst 1, 1) := by decide +kernel
theorem dX0_receive_9 : decode cX0_receive 9 = .ok (.invokevirtual 71, 3) := by decide +kernel
theorem dX0_receive_12 : decode cX0_receive 12 = .ok (.if_icmp .lt 12, 3) := by decide +kernel
theorem dX0_receive_15 : decode cX0_receive 15 = .ok (.aload_n 0, 1) := by decide +kernel
theorem dX0_receive_16 : decode cX0_receive 16 = .ok (.aload_n 2, 1) := by decide +kernel
theorem dX0_receive_17 : decode cX0_receive 17 = .ok (.iconst 0, 1) := by decide +kernel
theorem dX0_receive_18 : decode cX0_receive 18 = .ok (.invokevirtual 71, 3) := by decide +kernel
theorem dX0_receive_21 : decode cX0_receive 21 = .ok (.invokevirtual 75, 3) := by decide +kernel
theorem dX0_receive_24 : decode cX0_receive 24 = .ok (.aload_n 0, 1) := by decide +kernel
theorem dX0_receive_25 : decode cX0_receive 25 = .ok (.getfield 23, 3) := by decide +kernel
theorem dX0_receive_28 : decode cX0_receive 28 = .ok (.iload_n 1, 1) := by decide +kernel
theorem dX0_receive_29 : decode cX0_receive 29 = .ok (.invokevirtual 78, 3) := by decide +kernel
theorem dX0_receive_32 : decode cX0_receive 32 = .ok (.aload_n 0, 1) := by decide +kernel
theorem dX0_receive_33 : decode cX0_receive 33 = .ok (.getfield 27, 3) := by decide +kernel
theorem dX0_receive_36 : decode cX0_receive 36 = .ok (.iload_n 1, 1) := by decide +kernel
theorem dX0_receive_37 : decode cX0_receive 37 = .ok (.invokevirtual 81, 3) := by decide +kernel
theorem dX0_receive_40 : decode cX0_receive 40 = .ok (.return_, 1) := by decide +kernel
theorem dX0_packBy_0 : decode cX0_packBy 0 = .ok (.aload_n 0, 1) := by decide +kernel
theorem dX0_packBy_1 : decode cX0_packBy 1 = .ok (.getfield 12, 3) := by decide +kernel
theorem dX0_packBy_4 : decode cX0_packBy 4 = .ok (.aload_n 0, 1) := by decide +kernel
theorem dX0_packBy_5 : decode cX0_packBy 5 = .ok (.getfield 23, 3) := by decide +kernel
theorem dX0_packBy_8 : decode cX0_packBy 8 = .ok (.invokevirtual 84, 3) := by decide +kernel
theorem dX0_packBy_11 : decode cX0_packBy 11 = .ok (.aload_n 0, 1) := by decide +kernel
theorem dX0_packBy_12 : decode cX0_packBy 12 = .ok (.getfield 23, 3) := by decide +kernel
theorem dX0_packBy_15 : decode cX0_packBy 15 = .ok (.invokevirtual 88, 3) := by decide +kernel
theorem dX0_packBy_18 : decode cX0_packBy 18 = .ok (.aload_n 0, 1) := by decide +kernel
theorem dX0_packBy_19 : decode cX0_packBy 19 = .ok (.getfield 12, 3) := by decide +kernel
theorem dX0_packBy_22 : decode cX0_packBy 22 = .ok (.iload_n 1, 1) := by decide +kernel
theorem dX0_packBy_23 : decode cX0_packBy 23 = .ok (.invokevirtual 91, 3) := by decide +kernel
theorem dX0_packBy_26 : decode cX0_packBy 26 = .ok (.aload_n 0, 1) := by decide +kernel
theorem dX0_packBy_27 : decode cX0_packBy 27 = .ok (.dup, 1) := by decide +kernel
theorem dX0_packBy_28 : decode cX0_packBy 28 = .ok (.getfield 30, 3) := by decide +kernel
theorem dX0_packBy_31 : decode cX0_packBy 31 = .ok (.iconst 1, 1) := by decide +kernel
theorem dX0_packBy_32 : decode cX0_packBy 32 = .ok (.iadd, 1) := by decide +kernel
theorem dX0_packBy_33 : decode cX0_packBy 33 = .ok (.putfield 30, 3) := by decide +kernel
theorem dX0_packBy_36 : decode cX0_packBy 36 = .ok (.return_, 1) := by decide +kernel
theorem dX0_takeOver_0 : decode cX0_takeOver 0 = .ok (.aload_n 1, 1) := by decide +kernel
theorem dX0_takeOver_1 : decode cX0_takeOver 1 = .ok (.iload_n 2, 1) := by decide +kernel
theorem dX0_takeOver_2 : decode cX0_takeOver 2 = .ok (.invokevirtual 75, 3) := by decide +kernel
theorem dX0_takeOver_5 : decode cX0_takeOver 5 = .ok (.aload_n 0, 1) := by decide +kernel
theorem dX0_takeOver_6 : decode cX0_takeOver 6 = .ok (.iload_n 2, 1) := by decide +kernel
theorem dX0_takeOver_7 : decode cX0_takeOver 7 = .ok (.invokevirtual 75, 3) := by decide +kernel
theorem dX0_takeOver_10 : decode cX0_takeOver 10 = .ok (.aload_n 0, 1) := by decide +kernel
theorem dX0_takeOver_11 : decode cX0_takeOver 11 = .ok (.getfield 12, 3) := by decide +kernel
theorem dX0_takeOver_14 : decode cX0_takeOver 14 = .ok (.aload_n 1, 1) := by decide +kernel
theorem dX0_takeOver_15 : decode cX0_takeOver 15 = .ok (.getfield 12, 3) := by decide +kernel
theorem dX0_takeOver_18 : decode cX0_takeOver 18 = .ok (.invokevirtual 92, 3) := by decide +kernel
theorem dX0_takeOver_21 : decode cX0_takeOver 21 = .ok (.aload_n 0, 1) := by decide +kernel
theorem dX0_takeOver_22 : decode cX0_takeOver 22 = .ok (.iload_n 2, 1) := by decide +kernel
theorem dX0_takeOver_23 : decode cX0_takeOver 23 = .ok (.invokevirtual 75, 3) := by decide +kernel
theorem dX0_takeOver_26 : decode cX0_takeOver 26 = .ok (.iconst 0, 1) := by decide +kernel
theorem dX0_takeOver_27 : decode cX0_takeOver 27 = .ok (.istore_n 3, 1) := by decide +kernel
theorem dX0_takeOver_28 : decode cX0_takeOver 28 = .ok (.iload_n 3, 1) := by decide +kernel
theorem dX0_takeOver_29 : decode cX0_takeOver 29 = .ok (.aload_n 1, 1) := by decide +kernel
theorem dX0_takeOver_30 : decode cX0_takeOver 30 = .ok (.getfield 27, 3) := by decide +kernel
theorem dX0_takeOver_33 : decode cX0_takeOver 33 = .ok (.invokevirtual 41, 3) := by decide +kernel
theorem dX0_takeOver_36 : decode cX0_takeOver 36 = .ok (.if_icmp .ge 24, 3) := by decide +kernel
theorem dX0_takeOver_39 : decode cX0_takeOver 39 = .ok (.aload_n 0, 1) := by decide +kernel
theorem dX0_takeOver_40 : decode cX0_takeOver 40 = .ok (.getfield 27, 3) := by decide +kernel
theorem dX0_takeOver_43 : decode cX0_takeOver 43 = .ok (.aload_n 1, 1) := by decide +kernel
theorem dX0_takeOver_44 : decode cX0_takeOver 44 = .ok (.getfield 27, 3) := by decide +kernel
theorem dX0_takeOver_47 : decode cX0_takeOver 47 = .ok (.iload_n 3, 1) := by decide +kernel
theorem dX0_takeOver_48 : decode cX0_takeOver 48 = .ok (.invokevirtual 71, 3) := by decide +kernel
theorem dX0_takeOver_51 : decode cX0_takeOver 51 = .ok (.invokevirtual 81, 3) := by decide +kernel
theorem dX0_takeOver_54 : decode cX0_takeOver 54 = .ok (.iinc 3 1, 3) := by decide +kernel
theorem dX0_takeOver_57 : decode cX0_takeOver 57 = .ok (.goto (-29), 3) := by decide +kernel
theorem dX0_takeOver_60 : decode cX0_takeOver 60 = .ok (.return_, 1) := by decide +kernel
theorem dX0_copyFrom_0 : decode cX0_copyFrom 0 = .ok (.aload_n 0, 1) := by decide +kernel
theorem dX0_copyFrom_1 : decode cX0_copyFrom 1 = .ok (.getfield 12, 3) := by decide +kernel
theorem dX0_copyFrom_4 : decode cX0_copyFrom 4 = .ok (.aload_n 1, 1) := by decide +kernel
theorem dX0_copyFrom_5 : decode cX0_copyFrom 5 = .ok (.getfield 12, 3) := by decide +kernel
theorem dX0_copyFrom_8 : decode cX0_copyFrom 8 = .ok (.invokevirtual 97, 3) := by decide +kernel
theorem dX0_copyFrom_11 : decode cX0_copyFrom 11 = .ok (.aload_n 0, 1) := by decide +kernel
theorem dX0_copyFrom_12 : decode cX0_copyFrom 12 = .ok (.getfield 23, 3) := by decide +kernel
theorem dX0_copyFrom_15 : decode cX0_copyFrom 15 = .ok (.aload_n 1, 1) := by decide +kernel
theorem dX0_copyFrom_16 : decode cX0_copyFrom 16 = .ok (.getfield 23, 3) := by decide +kernel
theorem dX0_copyFrom_19 : decode cX0_copyFrom 19 = .ok (.invokevirtual 100, 3) := by decide +kernel
theorem dX0_copyFrom_22 : decode cX0_copyFrom 22 = .ok (.aload_n 0, 1) := by decide +kernel
theorem dX0_copyFrom_23 : decode cX0_copyFrom 23 = .ok (.getfield 27, 3) := by decide +kernel
theorem dX0_copyFrom_26 : decode cX0_copyFrom 26 = .ok (.aload_n 1, 1) := by decide +kernel
theorem dX0_copyFrom_27 : decode cX0_copyFrom 27 = .ok (.getfield 27, 3) := by decide +kernel
theorem dX0_copyFrom_30 : decode cX0_copyFrom 30 = .ok (.invokevirtual 100, 3) := by decide +kernel
theorem dX0_copyFrom_33 : decode cX0_copyFrom 33 = .ok (.aload_n 0, 1) := by decide +kernel
theorem dX0_copyFrom_34 : decode cX0_copyFrom 34 = .ok (.aload_n 1, 1) := by decide +kernel
theorem dX0_copyFrom_35 : decode cX0_copyFrom 35 = .ok (.getfield 30, 3) := by decide +kernel
theorem dX0_copyFrom_38 : decode cX0_copyFrom 38 = .ok (.putfield 30, 3) := by decide +kernel
theorem dX0_copyFrom_41 : decode cX0_copyFrom 41 = .ok (.return_, 1) := by decide +kernel
theorem dX1_init_0 : decode cX1_init 0 = .ok (.aload_n 0, 1) := by decide +kernel
theorem dX1_init_1 : decode cX1_init 1 = .ok (.invokespecial 3, 3) := by decide +kernel
theorem dX1_init_4 : decode cX1_init 4 = .ok (.aload_n 0, 1) := by decide +kernel
theorem dX1_init_5 : decode cX1_init 5 = .ok (.new 9, 3) := by decide +kernel
theorem dX1_init_8 : decode cX1_init 8 = .ok (.dup, 1) := by decide +kernel
theorem dX1_init_9 : decode cX1_init 9 = .ok (.sipush 200, 3) := by decide +kernel
theorem dX1_init_12 : decode cX1_init 12 = .ok (.invokespecial 11, 3) := by decide +kernel
theorem dX1_init_15 : decode cX1_init 15 = .ok (.putfield 14, 3) := by decide +kernel
theorem dX1_init_18 : decode cX1_init 18 = .ok (.aload_n 0, 1) := by decide +kernel
theorem dX1_init_19 : decode cX1_init 19 = .ok (.new 9, 3) := by decide +kernel
theorem dX1_init_22 : decode cX1_init 22 = .ok (.dup, 1) := by decide +kernel
theorem dX1_init_23 : decode cX1_init 23 = .ok (.sipush 200, 3) := by decide +kernel
theorem dX1_init_26 : decode cX1_init 26 = .ok (.invokespecial 11, 3) := by decide +kernel
theorem dX1_init_29 : decode cX1_init 29 = .ok (.putfield 20, 3) := by decide +kernel
theorem dX1_init_32 : decode cX1_init 32 = .ok (.aload_n 0, 1) := by decide +kernel
theorem dX1_init_33 : decode cX1_init 33 = .ok (.new 9, 3) := by decide +kernel
theorem dX1_init_36 : decode cX1_init 36 = .ok (.dup, 1) := by decide +kernel
theorem dX1_init_37 : decode cX1_init 37 = .ok (.sipush 200, 3) := by decide +kernel
theorem dX1_init_40 : decode cX1_init 40 = .ok (.invokespecial 11, 3) := by decide +kernel
theorem dX1_init_43 : decode cX1_init 43 = .ok (.putfield 23, 3) := by decide +kernel
theorem dX1_init_46 : decode cX1_init 46 = .ok (.aload_n 0, 1) := by decide +kernel
theorem dX1_init_47 : decode cX1_init 47 = .ok (.new 9, 3) := by decide +kernel
theorem dX1_init_50 : decode cX1_init 50 = .ok (.dup, 1) := by decide +kernel
theorem dX1_init_51 : decode cX1_init 51 = .ok (.sipush 200, 3) := by decide +kernel
theorem dX1_init_54 : decode cX1_init 54 = .ok (.invokespecial 11, 3) := by decide +kernel
theorem dX1_init_57 : decode cX1_init 57 = .ok (.putfield 26, 3) := by decide +kernel
theorem dX1_init_60 : decode cX1_init 60 = .ok (.return_, 1) := by decide +kernel
theorem dX1_size_0 : decode cX1_size 0 = .ok (.aload_n 0, 1) := by decide +kernel
theorem dX1_size_1 : decode cX1_size 1 = .ok (.getfield 14, 3) := by decide +kernel
theorem dX1_size_4 : decode cX1_size 4 = .ok (.invokevirtual 29, 3) := by decide +kernel
theorem dX1_size_7 : decode cX1_size 7 = .ok (.ireturn, 1) := by decide +kernel
theorem dX1_copyFrom_0 : decode cX1_copyFrom 0 = .ok (.aload_n 0, 1) := by decide +kernel
theorem dX1_copyFrom_1 : decode cX1_copyFrom 1 = .ok (.getfield 14, 3) := by decide +kernel
theorem dX1_copyFrom_4 : decode cX1_copyFrom 4 = .ok (.aload_n 1, 1) := by decide +kernel
theorem dX1_copyFrom_5 : decode cX1_copyFrom 5 = .ok (.getfield 14, 3) := by decide +kernel
theorem dX1_copyFrom_8 : decode cX1_copyFrom 8 = .ok (.invokevirtual 36, 3) := by decide +kernel
theorem dX1_copyFrom_11 : decode cX1_copyFrom 11 = .ok (.aload_n 0, 1) := by decide +kernel
theorem dX1_copyFrom_12 : decode cX1_copyFrom 12 = .ok (.getfield 20, 3) := by decide +kernel
theorem dX1_copyFrom_15 : decode cX1_copyFrom 15 = .ok (.aload_n 1, 1) := by decide +kernel
theorem dX1_copyFrom_16 : decode cX1_copyFrom 16 = .ok (.getfield 20, 3) := by decide +kernel
theorem dX1_copyFrom_19 : decode cX1_copyFrom 19 = .ok (.invokevirtual 36, 3) := by decide +kernel
theorem dX1_copyFrom_22 : decode cX1_copyFrom 22 = .ok (.aload_n 0, 1) := by decide +kernel
theorem dX1_copyFrom_23 : decode cX1_copyFrom 23 = .ok (.getfield 23, 3) := by decide +kernel
theorem dX1_copyFrom_26 : decode cX1_copyFrom 26 = .ok (.aload_n 1, 1) := by decide +kernel
theorem dX1_copyFrom_27 : decode cX1_copyFrom 27 = .ok (.getfield 23, 3) := by decide +kernel
theorem dX1_copyFrom_30 : decode cX1_copyFrom 30 = .ok (.invokevirtual 36, 3) := by decide +kernel
theorem dX1_copyFrom_33 : decode cX1_copyFrom 33 = .ok (.aload_n 0, 1) := by decide +kernel
theorem dX1_copyFrom_34 : decode cX1_copyFrom 34 = .ok (.getfield 26, 3) := by decide +kernel
theorem dX1_copyFrom_37 : decode cX1_copyFrom 37 = .ok (.aload_n 1, 1) := by decide +kernel
theorem dX1_copyFrom_38 : decode cX1_copyFrom 38 = .ok (.getfield 26, 3) := by decide +kernel
theorem dX1_copyFrom_41 : decode cX1_copyFrom 41 = .ok (.invokevirtual 36, 3) := by decide +kernel
theorem dX1_copyFrom_44 : decode cX1_copyFrom 44 = .ok (.return_, 1) := by decide +kernel
theorem dX1_appendEach_0 : decode cX1_appendEach 0 = .ok (.iconst 0, 1) := by decide +kernel
theorem dX1_appendEach_1 : decode cX1_appendEach 1 = .ok (.istore_n 2, 1) := by decide +kernel
theorem dX1_appendEach_2 : decode cX1_appendEach 2 = .ok (.iload_n 2, 1) := by decide +kernel
theorem dX1_appendEach_3 : decode cX1_appendEach 3 = .ok (.aload_n 1, 1) := by decide +kernel
theorem dX1_appendEach_4 : decode cX1_appendEach 4 = .ok (.invokevirtual 29, 3) := by decide +kernel
theorem dX1_appendEach_7 : decode cX1_appendEach 7 = .ok (.if_icmp .ge 47, 3) := by decide +kernel
theorem dX1_appendEach_10 : decode cX1_appendEach 10 = .ok (.aload_n 1, 1) := by decide +kernel
theorem dX1_appendEach_11 : decode cX1_appendEach 11 = .ok (.iload_n 2, 1) := by decide +kernel
theorem dX1_appendEach_12 : decode cX1_appendEach 12 = .ok (.invokevirtual 40, 3) := by decide +kernel
theorem dX1_appendEach_15 : decode cX1_appendEach 15 = .ok (.istore_n 3, 1) := by decide +kernel
theorem dX1_appendEach_16 : decode cX1_appendEach 16 = .ok (.aload_n 0, 1) := by decide +kernel
theorem dX1_appendEach_17 : decode cX1_appendEach 17 = .ok (.getfield 14, 3) := by decide +kernel
theorem dX1_appendEach_20 : decode cX1_appendEach 20 = .ok (.iconst 1, 1) := by decide +kernel
theorem dX1_appendEach_21 : decode cX1_appendEach 21 = .ok (.invokevirtual 44, 3) := by decide +kernel
theorem dX1_appendEach_24 : decode cX1_appendEach 24 = .ok (.aload_n 0, 1) := by decide +kernel
theorem dX1_appendEach_25 : decode cX1_appendEach 25 = .ok (.getfield 20, 3) := by decide +kernel
theorem dX1_appendEach_28 : decode cX1_appendEach 28 = .ok (.iload_n 3, 1) := by decide +kernel
theorem dX1_appendEach_29 : decode cX1_appendEach 29 = .ok (.invokevirtual 44, 3) := by decide +kernel
theorem dX1_appendEach_32 : decode cX1_appendEach 32 = .ok (.aload_n 0, 1) := by decide +kernel
theorem dX1_appendEach_33 : decode cX1_appendEach 33 = .ok (.getfield 23, 3) := by decide +kernel
theorem dX1_appendEach_36 : decode cX1_appendEach 36 = .ok (.iload_n 3, 1) := by decide +kernel
theorem dX1_appendEach_37 : decode cX1_appendEach 37 = .ok (.invokevirtual 44, 3) := by decide +kernel
theorem dX1_appendEach_40 : decode cX1_appendEach 40 = .ok (.aload_n 0, 1) := by decide +kernel
theorem dX1_appendEach_41 : decode cX1_appendEach 41 = .ok (.getfield 26, 3) := by decide +kernel
theorem dX1_appendEach_44 : decode cX1_appendEach 44 = .ok (.iload_n 3, 1) := by decide +kernel
theorem dX1_appendEach_45 : decode cX1_appendEach 45 = .ok (.invokevirtual 44, 3) := by decide +kernel
theorem dX1_appendEach_48 : decode cX1_appendEach 48 = .ok (.iinc 2 1, 3) := by decide +kernel
theorem dX1_appendEach_51 : decode cX1_appendEach 51 = .ok (.goto (-49), 3) := by decide +kernel
theorem dX1_appendEach_54 : decode cX1_appendEach 54 = .ok (.return_, 1) := by decide +kernel
theorem dX1_appendAll_0 : decode cX1_appendAll 0 = .ok (.aload_n 0, 1) := by decide +kernel
theorem dX1_appendAll_1 : decode cX1_appendAll 1 = .ok (.getfield 14, 3) := by decide +kernel
theorem dX1_appendAll_4 : decode cX1_appendAll 4 = .ok (.aload_n 1, 1) := by decide +kernel
theorem dX1_appendAll_5 : decode cX1_appendAll 5 = .ok (.getfield 14, 3) := by decide +kernel
theorem dX1_appendAll_8 : decode cX1_appendAll 8 = .ok (.invokevirtual 47, 3) := by decide +kernel
theorem dX1_appendAll_11 : decode cX1_appendAll 11 = .ok (.aload_n 0, 1) := by decide +kernel
theorem dX1_appendAll_12 : decode cX1_appendAll 12 = .ok (.getfield 20, 3) := by decide +kernel
theorem dX1_appendAll_15 : decode cX1_appendAll 15 = .ok (.aload_n 1, 1) := by decide +kernel
theorem dX1_appendAll_16 : decode cX1_appendAll 16 = .ok (.getfield 20, 3) := by decide +kernel
theorem dX1_appendAll_19 : decode cX1_appendAll 19 = .ok (.invokevirtual 47, 3) := by decide +kernel
theorem dX1_appendAll_22 : decode cX1_appendAll 22 = .ok (.aload_n 0, 1) := by decide +kernel
theorem dX1_appendAll_23 : decode cX1_appendAll 23 = .ok (.getfield 23, 3) := by decide +kernel
theorem dX1_appendAll_26 : decode cX1_appendAll 26 = .ok (.aload_n 1, 1) := by decide +kernel
theorem dX1_appendAll_27 : decode cX1_appendAll 27 = .ok (.getfield 23, 3) := by decide +kernel
theorem dX1_appendAll_30 : decode cX1_appendAll 30 = .ok (.invokevirtual 47, 3) := by decide +kernel
theorem dX1_appendAll_33 : decode cX1_appendAll 33 = .ok (.aload_n 0, 1) := by decide +kernel
theorem dX1_appendAll_34 : decode cX1_appendAll 34 = .ok (.getfield 26, 3) := by decide +kernel
theorem dX1_appendAll_37 : decode cX1_appendAll 37 = .ok (.aload_n 1, 1) := by decide +kernel
theorem dX1_appendAll_38 : decode cX1_appendAll 38 = .ok (.getfield 26, 3) := by decide +kernel
theorem dX1_appendAll_41 : decode cX1_appendAll 41 = .ok (.invokevirtual 47, 3) := by decide +kernel
theorem dX1_appendAll_44 : decode cX1_appendAll 44 = .ok (.return_, 1) := by decide +kernel
theorem dX1_wholeMiddle_0 : decode cX1_wholeMiddle 0 = .ok (.aload_n 0, 1) := by decide +kernel
theorem dX1_wholeMiddle_1 : decode cX1_wholeMiddle 1 = .ok (.getfield 14, 3) := by decide +kernel
theorem dX1_wholeMiddle_4 : decode cX1_wholeMiddle 4 = .ok (.iload_n 1, 1) := by decide +kernel
theorem dX1_wholeMiddle_5 : decode cX1_wholeMiddle 5 = .ok (.invokevirtual 40, 3) := by decide +kernel
theorem dX1_wholeMiddle_8 : decode cX1_wholeMiddle 8 = .ok (.istore_n 2, 1) := by decide +kernel
theorem dX1_wholeMiddle_9 : decode cX1_wholeMiddle 9 = .ok (.iload_n 2, 1) := by decide +kernel
theorem dX1_wholeMiddle_10 : decode cX1_wholeMiddle 10 = .ok (.ifCond .le 16, 3) := by decide +kernel
theorem dX1_wholeMiddle_13 : decode cX1_wholeMiddle 13 = .ok (.aload_n 0, 1) := by decide +kernel
theorem dX1_wholeMiddle_14 : decode cX1_wholeMiddle 14 = .ok (.getfield 20, 3) := by decide +kernel
theorem dX1_wholeMiddle_17 : decode cX1_wholeMiddle 17 = .ok (.iload_n 1, 1) := by decide +kernel
theorem dX1_wholeMiddle_18 : decode cX1_wholeMiddle 18 = .ok (.invokevirtual 40, 3) := by decide +kernel
theorem dX1_wholeMiddle_21 : decode cX1_wholeMiddle 21 = .ok (.iload_n 2, 1) := by decide +kernel
theorem dX1_wholeMiddle_22 : decode cX1_wholeMiddle 22 = .ok (.idiv, 1) := by decide +kernel
theorem dX1_wholeMiddle_23 : decode cX1_wholeMiddle 23 = .ok (.goto 4, 3) := by decide +kernel
theorem dX1_wholeMiddle_26 : decode cX1_wholeMiddle 26 = .ok (.iconst 0, 1) := by decide +kernel
theorem dX1_wholeMiddle_27 : decode cX1_wholeMiddle 27 = .ok (.ireturn, 1) := by decide +kernel
theorem dX1_floatMiddle_0 : decode cX1_floatMiddle 0 = .ok (.aload_n 0, 1) := by decide +kernel
theorem dX1_floatMiddle_1 : decode cX1_floatMiddle 1 = .ok (.getfield 14, 3) := by decide +kernel
theorem dX1_floatMiddle_4 : decode cX1_floatMiddle 4 = .ok (.iload_n 1, 1) := by decide +kernel
theorem dX1_floatMiddle_5 : decode cX1_floatMiddle 5 = .ok (.invokevirtual 40, 3) := by decide +kernel
theorem dX1_floatMiddle_8 : decode cX1_floatMiddle 8 = .ok (.istore_n 2, 1) := by decide +kernel
theorem dX1_floatMiddle_9 : decode cX1_floatMiddle 9 = .ok (.iload_n 2, 1) := by decide +kernel
theorem dX1_floatMiddle_10 : decode cX1_floatMiddle 10 = .ok (.ifCond .le 18, 3) := by decide +kernel
theorem dX1_floatMiddle_13 : decode cX1_floatMiddle 13 = .ok (.aload_n 0, 1) := by decide +kernel
theorem dX1_floatMiddle_14 : decode cX1_floatMiddle 14 = .ok (.getfield 20, 3) := by decide +kernel
theorem dX1_floatMiddle_17 : decode cX1_floatMiddle 17 = .ok (.iload_n 1, 1) := by decide +kernel
theorem dX1_floatMiddle_18 : decode cX1_floatMiddle 18 = .ok (.invokevirtual 40, 3) := by decide +kernel
theorem dX1_floatMiddle_21 : decode cX1_floatMiddle 21 = .ok (.i2f, 1) := by decide +kernel
theorem dX1_floatMiddle_22 : decode cX1_floatMiddle 22 = .ok (.iload_n 2, 1) := by decide +kernel
theorem dX1_floatMiddle_23 : decode cX1_floatMiddle 23 = .ok (.i2f, 1) := by decide +kernel
theorem dX1_floatMiddle_24 : decode cX1_floatMiddle 24 = .ok (.fdiv, 1) := by decide +kernel
theorem dX1_floatMiddle_25 : decode cX1_floatMiddle 25 = .ok (.goto 4, 3) := by decide +kernel
theorem dX1_floatMiddle_28 : decode cX1_floatMiddle 28 = .ok (.fconst 0, 1) := by decide +kernel
theorem dX1_floatMiddle_29 : decode cX1_floatMiddle 29 = .ok (.freturn, 1) := by decide +kernel
theorem dX1_weightAheadOf_0 : decode cX1_weightAheadOf 0 = .ok (.iconst 0, 1) := by decide +kernel
theorem dX1_weightAheadOf_1 : decode cX1_weightAheadOf 1 = .ok (.istore_n 2, 1) := by decide +kernel
theorem dX1_weightAheadOf_2 : decode cX1_weightAheadOf 2 = .ok (.iconst 0, 1) := by decide +kernel
theorem dX1_weightAheadOf_3 : decode cX1_weightAheadOf 3 = .ok (.istore_n 3, 1) := by decide +kernel
theorem dX1_weightAheadOf_4 : decode cX1_weightAheadOf 4 = .ok (.iload_n 3, 1) := by decide +kernel
theorem dX1_weightAheadOf_5 : decode cX1_weightAheadOf 5 = .ok (.iload_n 1, 1) := by decide +kernel
theorem dX1_weightAheadOf_6 : decode cX1_weightAheadOf 6 = .ok (.if_icmp .ge 28, 3) := by decide +kernel
theorem dX1_weightAheadOf_9 : decode cX1_weightAheadOf 9 = .ok (.iload_n 3, 1) := by decide +kernel
theorem dX1_weightAheadOf_10 : decode cX1_weightAheadOf 10 = .ok (.aload_n 0, 1) := by decide +kernel
theorem dX1_weightAheadOf_11 : decode cX1_weightAheadOf 11 = .ok (.invokevirtual 50, 3) := by decide +kernel
theorem dX1_weightAheadOf_14 : decode cX1_weightAheadOf 14 = .ok (.if_icmp .ge 20, 3) := by decide +kernel
theorem dX1_weightAheadOf_17 : decode cX1_weightAheadOf 17 = .ok (.iload_n 2, 1) := by decide +kernel
theorem dX1_weightAheadOf_18 : decode cX1_weightAheadOf 18 = .ok (.aload_n 0, 1) := by decide +kernel
theorem dX1_weightAheadOf_19 : decode cX1_weightAheadOf 19 = .ok (.getfield 14, 3) := by decide +kernel
theorem dX1_weightAheadOf_22 : decode cX1_weightAheadOf 22 = .ok (.iload_n 3, 1) := by decide +kernel
theorem dX1_weightAheadOf_23 : decode cX1_weightAheadOf 23 = .ok (.invokevirtual 40, 3) := by decide +kernel
theorem dX1_weightAheadOf_26 : decode cX1_weightAheadOf 26 = .ok (.iadd, 1) := by decide +kernel
theorem dX1_weightAheadOf_27 : decode cX1_weightAheadOf 27 = .ok (.istore_n 2, 1) := by decide +kernel
theorem dX1_weightAheadOf_28 : decode cX1_weightAheadOf 28 = .ok (.iinc 3 1, 3) := by decide +kernel
theorem dX1_weightAheadOf_31 : decode cX1_weightAheadOf 31 = .ok (.goto (-27), 3) := by decide +kernel
theorem dX1_weightAheadOf_34 : decode cX1_weightAheadOf 34 = .ok (.iload_n 2, 1) := by decide +kernel
theorem dX1_weightAheadOf_35 : decode cX1_weightAheadOf 35 = .ok (.ireturn, 1) := by decide +kernel
theorem dX1_packBy_0 : decode cX1_packBy 0 = .ok (.aload_n 0, 1) := by decide +kernel
theorem dX1_packBy_1 : decode cX1_packBy 1 = .ok (.invokevirtual 53, 3) := by decide +kernel
theorem dX1_packBy_4 : decode cX1_packBy 4 = .ok (.aload_n 0, 1) := by decide +kernel
theorem dX1_packBy_5 : decode cX1_packBy 5 = .ok (.iload_n 1, 1) := by decide +kernel
theorem dX1_packBy_6 : decode cX1_packBy 6 = .ok (.invokevirtual 56, 3) := by decide +kernel
theorem dX1_packBy_9 : decode cX1_packBy 9 = .ok (.return_, 1) := by decide +kernel
theorem dX1_order_0 : decode cX1_order 0 = .ok (.iconst 1, 1) := by decide +kernel
theorem dX1_order_1 : decode cX1_order 1 = .ok (.istore_n 1, 1) := by decide +kernel
theorem dX1_order_2 : decode cX1_order 2 = .ok (.iload_n 1, 1) := by decide +kernel
theorem dX1_order_3 : decode cX1_order 3 = .ok (.aload_n 0, 1) := by decide +kernel
theorem dX1_order_4 : decode cX1_order 4 = .ok (.invokevirtual 50, 3) := by decide +kernel
theorem dX1_order_7 : decode cX1_order 7 = .ok (.if_icmp .ge 40, 3) := by decide +kernel
theorem dX1_order_10 : decode cX1_order 10 = .ok (.iload_n 1, 1) := by decide +kernel
theorem dX1_order_11 : decode cX1_order 11 = .ok (.istore_n 2, 1) := by decide +kernel
theorem dX1_order_12 : decode cX1_order 12 = .ok (.iload_n 2, 1) := by decide +kernel
theorem dX1_order_13 : decode cX1_order 13 = .ok (.ifCond .le 28, 3) := by decide +kernel
theorem dX1_order_16 : decode cX1_order 16 = .ok (.aload_n 0, 1) := by decide +kernel
theorem dX1_order_17 : decode cX1_order 17 = .ok (.iload_n 2, 1) := by decide +kernel
theorem dX1_order_18 : decode cX1_order 18 = .ok (.iconst 1, 1) := by decide +kernel
theorem dX1_order_19 : decode cX1_order 19 = .ok (.isub, 1) := by decide +kernel
theorem dX1_order_20 : decode cX1_order 20 = .ok (.iload_n 2, 1) := by decide +kernel
theorem dX1_order_21 : decode cX1_order 21 = .ok (.invokevirtual 59, 3) := by decide +kernel
theorem dX1_order_24 : decode cX1_order 24 = .ok (.ifCond .eq 17, 3) := by decide +kernel
theorem dX1_order_27 : decode cX1_order 27 = .ok (.aload_n 0, 1) := by decide +kernel
theorem dX1_order_28 : decode cX1_order 28 = .ok (.iload_n 2, 1) := by decide +kernel
theorem dX1_order_29 : decode cX1_order 29 = .ok (.iconst 1, 1) := by decide +kernel
theorem dX1_order_30 : decode cX1_order 30 = .ok (.isub, 1) := by decide +kernel
theorem dX1_order_31 : decode cX1_order 31 = .ok (.iload_n 2, 1) := by decide +kernel
theorem dX1_order_32 : decode cX1_order 32 = .ok (.invokevirtual 63, 3) := by decide +kernel
theorem dX1_order_35 : decode cX1_order 35 = .ok (.iinc 2 (-1), 3) := by decide +kernel
theorem dX1_order_38 : decode cX1_order 38 = .ok (.goto (-26), 3) := by decide +kernel
theorem dX1_order_41 : decode cX1_order 41 = .ok (.iinc 1 1, 3) := by decide +kernel
theorem dX1_order_44 : decode cX1_order 44 = .ok (.goto (-42), 3) := by decide +kernel
theorem dX1_order_47 : decode cX1_order 47 = .ok (.return_, 1) := by decide +kernel
theorem dX1_isMiddleAbove_0 : decode cX1_isMiddleAbove 0 = .ok (.aload_n 0, 1) := by decide +kernel
theorem dX1_isMiddleAbove_1 : decode cX1_isMiddleAbove 1 = .ok (.getfield 20, 3) := by decide +kernel
theorem dX1_isMiddleAbove_4 : decode cX1_isMiddleAbove 4 = .ok (.iload_n 1, 1) := by decide +kernel
theorem dX1_isMiddleAbove_5 : decode cX1_isMiddleAbove 5 = .ok (.invokevirtual 40, 3) := by decide +kernel
theorem dX1_isMiddleAbove_8 : decode cX1_isMiddleAbove 8 = .ok (.i2l, 1) := by decide +kernel
theorem dX1_isMiddleAbove_9 : decode cX1_isMiddleAbove 9 = .ok (.aload_n 0, 1) := by decide +kernel
theorem dX1_isMiddleAbove_10 : decode cX1_isMiddleAbove 10 = .ok (.getfield 14, 3) := by decide +kernel
theorem dX1_isMiddleAbove_13 : decode cX1_isMiddleAbove 13 = .ok (.iload_n 2, 1) := by decide +kernel
theorem dX1_isMiddleAbove_14 : decode cX1_isMiddleAbove 14 = .ok (.invokevirtual 40, 3) := by decide +kernel
theorem dX1_isMiddleAbove_17 : decode cX1_isMiddleAbove 17 = .ok (.i2l, 1) := by decide +kernel
theorem dX1_isMiddleAbove_18 : decode cX1_isMiddleAbove 18 = .ok (.lmul, 1) := by decide +kernel
theorem dX1_isMiddleAbove_19 : decode cX1_isMiddleAbove 19 = .ok (.lstore_n 3, 1) := by decide +kernel
theorem dX1_isMiddleAbove_20 : decode cX1_isMiddleAbove 20 = .ok (.aload_n 0, 1) := by decide +kernel
theorem dX1_isMiddleAbove_21 : decode cX1_isMiddleAbove 21 = .ok (.getfield 20, 3) := by decide +kernel
theorem dX1_isMiddleAbove_24 : decode cX1_isMiddleAbove 24 = .ok (.iload_n 2, 1) := by decide +kernel
theorem dX1_isMiddleAbove_25 : decode cX1_isMiddleAbove 25 = .ok (.invokevirtual 40, 3) := by decide +kernel
theorem dX1_isMiddleAbove_28 : decode cX1_isMiddleAbove 28 = .ok (.i2l, 1) := by decide +kernel
theorem dX1_isMiddleAbove_29 : decode cX1_isMiddleAbove 29 = .ok (.aload_n 0, 1) := by decide +kernel
theorem dX1_isMiddleAbove_30 : decode cX1_isMiddleAbove 30 = .ok (.getfield 14, 3) := by decide +kernel
theorem dX1_isMiddleAbove_33 : decode cX1_isMiddleAbove 33 = .ok (.iload_n 1, 1) := by decide +kernel
theorem dX1_isMiddleAbove_34 : decode cX1_isMiddleAbove 34 = .ok (.invokevirtual 40, 3) := by decide +kernel
theorem dX1_isMiddleAbove_37 : decode cX1_isMiddleAbove 37 = .ok (.i2l, 1) := by decide +kernel
theorem dX1_isMiddleAbove_38 : decode cX1_isMiddleAbove 38 = .ok (.lmul, 1) := by decide +kernel
theorem dX1_isMiddleAbove_39 : decode cX1_isMiddleAbove 39 = .ok (.lstore 5, 2) := by decide +kernel
theorem dX1_isMiddleAbove_41 : decode cX1_isMiddleAbove 41 = .ok (.lload_n 3, 1) := by decide +kernel
theorem dX1_isMiddleAbove_42 : decode cX1_isMiddleAbove 42 = .ok (.lload 5, 2) := by decide +kernel
theorem dX1_isMiddleAbove_44 : decode cX1_isMiddleAbove 44 = .ok (.lcmp, 1) := by decide +kernel
theorem dX1_isMiddleAbove_45 : decode cX1_isMiddleAbove 45 = .ok (.ifCond .le 7, 3) := by decide +kernel
theorem dX1_isMiddleAbove_48 : decode cX1_isMiddleAbove 48 = .ok (.iconst 1, 1) := by decide +kernel
theorem dX1_isMiddleAbove_49 : decode cX1_isMiddleAbove 49 = .ok (.goto 4, 3) := by decide +kernel
theorem dX1_isMiddleAbove_52 : decode cX1_isMiddleAbove 52 = .ok (.iconst 0, 1) := by decide +kernel
theorem dX1_isMiddleAbove_53 : decode cX1_isMiddleAbove 53 = .ok (.ireturn, 1) := by decide +kernel
theorem dX1_exchange_0 : decode cX1_exchange 0 = .ok (.aload_n 0, 1) := by decide +kernel
theorem dX1_exchange_1 : decode cX1_exchange 1 = .ok (.getfield 14, 3) := by decide +kernel
theorem dX1_exchange_4 : decode cX1_exchange 4 = .ok (.iload_n 1, 1) := by decide +kernel
theorem dX1_exchange_5 : decode cX1_exchange 5 = .ok (.iload_n 2, 1) := by decide +kernel
theorem dX1_exchange_6 : decode cX1_exchange 6 = .ok (.invokevirtual 67, 3) := by decide +kernel
theorem dX1_exchange_9 : decode cX1_exchange 9 = .ok (.aload_n 0, 1) := by decide +kernel
theorem dX1_exchange_10 : decode cX1_exchange 10 = .ok (.getfield 20, 3) := by decide +kernel
theorem dX1_exchange_13 : decode cX1_exchange 13 = .ok (.iload_n 1, 1) := by decide +kernel
theorem dX1_exchange_14 : decode cX1_exchange 14 = .ok (.iload_n 2, 1) := by decide +kernel
theorem dX1_exchange_15 : decode cX1_exchange 15 = .ok (.invokevirtual 67, 3) := by decide +kernel
theorem dX1_exchange_18 : decode cX1_exchange 18 = .ok (.aload_n 0, 1) := by decide +kernel
theorem dX1_exchange_19 : decode cX1_exchange 19 = .ok (.getfield 23, 3) := by decide +kernel
theorem dX1_exchange_22 : decode cX1_exchange 22 = .ok (.iload_n 1, 1) := by decide +kernel
theorem dX1_exchange_23 : decode cX1_exchange 23 = .ok (.iload_n 2, 1) := by decide +kernel
theorem dX1_exchange_24 : decode cX1_exchange 24 = .ok (.invokevirtual 67, 3) := by decide +kernel
theorem dX1_exchange_27 : decode cX1_exchange 27 = .ok (.aload_n 0, 1) := by decide +kernel
theorem dX1_exchange_28 : decode cX1_exchange 28 = .ok (.getfield 26, 3) := by decide +kernel
theorem dX1_exchange_31 : decode cX1_exchange 31 = .ok (.iload_n 1, 1) := by decide +kernel
theorem dX1_exchange_32 : decode cX1_exchange 32 = .ok (.iload_n 2, 1) := by decide +kernel
theorem dX1_exchange_33 : decode cX1_exchange 33 = .ok (.invokevirtual 67, 3) := by decide +kernel
theorem dX1_exchange_36 : decode cX1_exchange 36 = .ok (.return_, 1) := by decide +kernel
theorem dX1_putTogether_0 : decode cX1_putTogether 0 = .ok (.aload_n 0, 1) := by decide +kernel
theorem dX1_putTogether_1 : decode cX1_putTogether 1 = .ok (.getfield 14, 3) := by decide +kernel
theorem dX1_putTogether_4 : decode cX1_putTogether 4 = .ok (.invokevirtual 68, 3) := by decide +kernel
theorem dX1_putTogether_7 : decode cX1_putTogether 7 = .ok (.istore_n 2, 1) := by decide +kernel
theorem dX1_putTogether_8 : decode cX1_putTogether 8 = .ok (.iconst 0, 1) := by decide +kernel
theorem dX1_putTogether_9 : decode cX1_putTogether 9 = .ok (.istore_n 3, 1) := by decide +kernel
theorem dX1_putTogether_10 : decode cX1_putTogether 10 = .ok (.iconst 0, 1) := by decide +kernel
theorem dX1_putTogether_11 : decode cX1_putTogether 11 = .ok (.istore 4, 2) := by decide +kernel
theorem dX1_putTogether_13 : decode cX1_putTogether 13 = .ok (.iconst 1, 1) := by decide +kernel
theorem dX1_putTogether_14 : decode cX1_putTogether 14 = .ok (.istore 5, 2) := by decide +kernel
theorem dX1_putTogether_16 : decode cX1_putTogether 16 = .ok (.iload 5, 2) := by decide +kernel
theorem dX1_putTogether_18 : decode cX1_putTogether 18 = .ok (.aload_n 0, 1) := by decide +kernel
theorem dX1_putTogether_19 : decode cX1_putTogether 19 = .ok (.invokevirtual 50, 3) := by decide +kernel
theorem dX1_putTogether_22 : decode cX1_putTogether 22 = .ok (.if_icmp .ge 75, 3) := by decide +kernel
theorem dX1_putTogether_25 : decode cX1_putTogether 25 = .ok (.aload_n 0, 1) := by decide +kernel
theorem dX1_putTogether_26 : decode cX1_putTogether 26 = .ok (.getfield 14, 3) := by decide +kernel
theorem dX1_putTogether_29 : decode cX1_putTogether 29 = .ok (.iload 4, 2) := by decide +kernel
theorem dX1_putTogether_31 : decode cX1_putTogether 31 = .ok (.invokevirtual 40, 3) := by decide +kernel
theorem dX1_putTogether_34 : decode cX1_putTogether 34 = .ok (.aload_n 0, 1) := by decide +kernel
theorem dX1_putTogether_35 : decode cX1_putTogether 35 = .ok (.getfield 14, 3) := by decide +kernel
theorem dX1_putTogether_38 : decode cX1_putTogether 38 = .ok (.iload 5, 2) := by decide +kernel
theorem dX1_putTogether_40 : decode cX1_putTogether 40 = .ok (.invokevirtual 40, 3) := by decide +kernel
theorem dX1_putTogether_43 : decode cX1_putTogether 43 = .ok (.iadd, 1) := by decide +kernel
theorem dX1_putTogether_44 : decode cX1_putTogether 44 = .ok (.istore 6, 2) := by decide +kernel
theorem dX1_putTogether_46 : decode cX1_putTogether 46 = .ok (.iload 6, 2) := by decide +kernel
theorem dX1_putTogether_48 : decode cX1_putTogether 48 = .ok (.iload_n 3, 1) := by decide +kernel
theorem dX1_putTogether_49 : decode cX1_putTogether 49 = .ok (.iload_n 2, 1) := by decide +kernel
theorem dX1_putTogether_50 : decode cX1_putTogether 50 = .ok (.iload_n 1, 1) := by decide +kernel
theorem dX1_putTogether_51 : decode cX1_putTogether 51 = .ok (.invokestatic 71, 3) := by decide +kernel
theorem dX1_putTogether_54 : decode cX1_putTogether 54 = .ok (.ifCond .eq 14, 3) := by decide +kernel
theorem dX1_putTogether_57 : decode cX1_putTogether 57 = .ok (.aload_n 0, 1) := by decide +kernel
theorem dX1_putTogether_58 : decode cX1_putTogether 58 = .ok (.iload 4, 2) := by decide +kernel
theorem dX1_putTogether_60 : decode cX1_putTogether 60 = .ok (.iload 5, 2) := by decide +kernel
theorem dX1_putTogether_62 : decode cX1_putTogether 62 = .ok (.invokevirtual 75, 3) := by decide +kernel
theorem dX1_putTogether_65 : decode cX1_putTogether 65 = .ok (.goto 26, 3) := by decide +kernel
theorem dX1_putTogether_68 : decode cX1_putTogether 68 = .ok (.iload_n 3, 1) := by decide +kernel
theorem dX1_putTogether_69 : decode cX1_putTogether 69 = .ok (.aload_n 0, 1) := by decide +kernel
theorem dX1_putTogether_70 : decode cX1_putTogether 70 = .ok (.getfield 14, 3) := by decide +kernel
theorem dX1_putTogether_73 : decode cX1_putTogether 73 = .ok (.iload 4, 2) := by decide +kernel
theorem dX1_putTogether_75 : decode cX1_putTogether 75 = .ok (.invokevirtual 40, 3) := by decide +kernel
theorem dX1_putTogether_78 : decode cX1_putTogether 78 = .ok (.iadd, 1) := by decide +kernel
theorem dX1_putTogether_79 : decode cX1_putTogether 79 = .ok (.istore_n 3, 1) := by decide +kernel
theorem dX1_putTogether_80 : decode cX1_putTogether 80 = .ok (.iinc 4 1, 3) := by decide +kernel
theorem dX1_putTogether_83 : decode cX1_putTogether 83 = .ok (.aload_n 0, 1) := by decide +kernel
theorem dX1_putTogether_84 : decode cX1_putTogether 84 = .ok (.iload 4, 2) := by decide +kernel
theorem dX1_putTogether_86 : decode cX1_putTogether 86 = .ok (.iload 5, 2) := by decide +kernel
theorem dX1_putTogether_88 : decode cX1_putTogether 88 = .ok (.invokevirtual 63, 3) := by decide +kernel
theorem dX1_putTogether_91 : decode cX1_putTogether 91 = .ok (.iinc 5 1, 3) := by decide +kernel
theorem dX1_putTogether_94 : decode cX1_putTogether 94 = .ok (.goto (-78), 3) := by decide +kernel
theorem dX1_putTogether_97 : decode cX1_putTogether 97 = .ok (.aload_n 0, 1) := by decide +kernel
theorem dX1_putTogether_98 : decode cX1_putTogether 98 = .ok (.iload 4, 2) := by decide +kernel
theorem dX1_putTogether_100 : decode cX1_putTogether 100 = .ok (.iconst 1, 1) := by decide +kernel
theorem dX1_putTogether_101 : decode cX1_putTogether 101 = .ok (.iadd, 1) := by decide +kernel
theorem dX1_putTogether_102 : decode cX1_putTogether 102 = .ok (.invokevirtual 78, 3) := by decide +kernel
theorem dX1_putTogether_105 : decode cX1_putTogether 105 = .ok (.return_, 1) := by decide +kernel
theorem dX1_isWithinPlace_0 : decode cX1_isWithinPlace 0 = .ok (.iload_n 0, 1) := by decide +kernel
theorem dX1_isWithinPlace_1 : decode cX1_isWithinPlace 1 = .ok (.iload_n 2, 1) := by decide +kernel
theorem dX1_isWithinPlace_2 : decode cX1_isWithinPlace 2 = .ok (.imul, 1) := by decide +kernel
theorem dX1_isWithinPlace_3 : decode cX1_isWithinPlace 3 = .ok (.iload_n 3, 1) := by decide +kernel
theorem dX1_isWithinPlace_4 : decode cX1_isWithinPlace 4 = .ok (.imul, 1) := by decide +kernel
theorem dX1_isWithinPlace_5 : decode cX1_isWithinPlace 5 = .ok (.iconst 2, 1) := by decide +kernel
theorem dX1_isWithinPlace_6 : decode cX1_isWithinPlace 6 = .ok (.iload_n 1, 1) := by decide +kernel
theorem dX1_isWithinPlace_7 : decode cX1_isWithinPlace 7 = .ok (.imul, 1) := by decide +kernel
theorem dX1_isWithinPlace_8 : decode cX1_isWithinPlace 8 = .ok (.iload_n 0, 1) := by decide +kernel
theorem dX1_isWithinPlace_9 : decode cX1_isWithinPlace 9 = .ok (.iadd, 1) := by decide +kernel
theorem dX1_isWithinPlace_10 : decode cX1_isWithinPlace 10 = .ok (.iconst 2, 1) := by decide +kernel
theorem dX1_isWithinPlace_11 : decode cX1_isWithinPlace 11 = .ok (.iload_n 2, 1) := by decide +kernel
theorem dX1_isWithinPlace_12 : decode cX1_isWithinPlace 12 = .ok (.imul, 1) := by decide +kernel
theorem dX1_isWithinPlace_13 : decode cX1_isWithinPlace 13 = .ok (.iconst 2, 1) := by decide +kernel
theorem dX1_isWithinPlace_14 : decode cX1_isWithinPlace 14 = .ok (.iload_n 1, 1) := by decide +kernel
theorem dX1_isWithinPlace_15 : decode cX1_isWithinPlace 15 = .ok (.imul, 1) := by decide +kernel
theorem dX1_isWithinPlace_16 : decode cX1_isWithinPlace 16 = .ok (.isub, 1) := by decide +kernel
theorem dX1_isWithinPlace_17 : decode cX1_isWithinPlace 17 = .ok (.iload_n 0, 1) := by decide +kernel
theorem dX1_isWithinPlace_18 : decode cX1_isWithinPlace 18 = .ok (.isub, 1) := by decide +kernel
theorem dX1_isWithinPlace_19 : decode cX1_isWithinPlace 19 = .ok (.imul, 1) := by decide +kernel
theorem dX1_isWithinPlace_20 : decode cX1_isWithinPlace 20 = .ok (.if_icmp .gt 7, 3) := by decide +kernel
theorem dX1_isWithinPlace_23 : decode cX1_isWithinPlace 23 = .ok (.iconst 1, 1) := by decide +kernel
theorem dX1_isWithinPlace_24 : decode cX1_isWithinPlace 24 = .ok (.goto 4, 3) := by decide +kernel
theorem dX1_isWithinPlace_27 : decode cX1_isWithinPlace 27 = .ok (.iconst 0, 1) := by decide +kernel
theorem dX1_isWithinPlace_28 : decode cX1_isWithinPlace 28 = .ok (.ireturn, 1) := by decide +kernel
theorem dX1_unite_0 : decode cX1_unite 0 = .ok (.aload_n 0, 1) := by decide +kernel
theorem dX1_unite_1 : decode cX1_unite 1 = .ok (.getfield 14, 3) := by decide +kernel
theorem dX1_unite_4 : decode cX1_unite 4 = .ok (.iload_n 1, 1) := by decide +kernel
theorem dX1_unite_5 : decode cX1_unite 5 = .ok (.aload_n 0, 1) := by decide +kernel
theorem dX1_unite_6 : decode cX1_unite 6 = .ok (.getfield 14, 3) := by decide +kernel
theorem dX1_unite_9 : decode cX1_unite 9 = .ok (.iload_n 1, 1) := by decide +kernel
theorem dX1_unite_10 : decode cX1_unite 10 = .ok (.invokevirtual 40, 3) := by decide +kernel
theorem dX1_unite_13 : decode cX1_unite 13 = .ok (.aload_n 0, 1) := by decide +kernel
theorem dX1_unite_14 : decode cX1_unite 14 = .ok (.getfield 14, 3) := by decide +kernel
theorem dX1_unite_17 : decode cX1_unite 17 = .ok (.iload_n 2, 1) := by decide +kernel
theorem dX1_unite_18 : decode cX1_unite 18 = .ok (.invokevirtual 40, 3) := by decide +kernel
theorem dX1_unite_21 : decode cX1_unite 21 = .ok (.iadd, 1) := by decide +kernel
theorem dX1_unite_22 : decode cX1_unite 22 = .ok (.invokevirtual 81, 3) := by decide +kernel
theorem dX1_unite_25 : decode cX1_unite 25 = .ok (.aload_n 0, 1) := by decide +kernel
theorem dX1_unite_26 : decode cX1_unite 26 = .ok (.getfield 20, 3) := by decide +kernel
theorem dX1_unite_29 : decode cX1_unite 29 = .ok (.iload_n 1, 1) := by decide +kernel
theorem dX1_unite_30 : decode cX1_unite 30 = .ok (.aload_n 0, 1) := by decide +kernel
theorem dX1_unite_31 : decode cX1_unite 31 = .ok (.getfield 20, 3) := by decide +kernel
theorem dX1_unite_34 : decode cX1_unite 34 = .ok (.iload_n 1, 1) := by decide +kernel
theorem dX1_unite_35 : decode cX1_unite 35 = .ok (.invokevirtual 40, 3) := by decide +kernel
theorem dX1_unite_38 : decode cX1_unite 38 = .ok (.aload_n 0, 1) := by decide +kernel
theorem dX1_unite_39 : decode cX1_unite 39 = .ok (.getfield 20, 3) := by decide +kernel
theorem dX1_unite_42 : decode cX1_unite 42 = .ok (.iload_n 2, 1) := by decide +kernel
theorem dX1_unite_43 : decode cX1_unite 43 = .ok (.invokevirtual 40, 3) := by decide +kernel
theorem dX1_unite_46 : decode cX1_unite 46 = .ok (.iadd, 1) := by decide +kernel
theorem dX1_unite_47 : decode cX1_unite 47 = .ok (.invokevirtual 81, 3) := by decide +kernel
theorem dX1_unite_50 : decode cX1_unite 50 = .ok (.aload_n 0, 1) := by decide +kernel
theorem dX1_unite_51 : decode cX1_unite 51 = .ok (.getfield 23, 3) := by decide +kernel
theorem dX1_unite_54 : decode cX1_unite 54 = .ok (.iload_n 1, 1) := by decide +kernel
theorem dX1_unite_55 : decode cX1_unite 55 = .ok (.aload_n 0, 1) := by decide +kernel
theorem dX1_unite_56 : decode cX1_unite 56 = .ok (.getfield 23, 3) := by decide +kernel
theorem dX1_unite_59 : decode cX1_unite 59 = .ok (.iload_n 1, 1) := by decide +kernel
theorem dX1_unite_60 : decode cX1_unite 60 = .ok (.invokevirtual 40, 3) := by decide +kernel
theorem dX1_unite_63 : decode cX1_unite 63 = .ok (.aload_n 0, 1) := by decide +kernel
theorem dX1_unite_64 : decode cX1_unite 64 = .ok (.getfield 23, 3) := by decide +kernel
theorem dX1_unite_67 : decode cX1_unite 67 = .ok (.iload_n 2, 1) := by decide +kernel
theorem dX1_unite_68 : decode cX1_unite 68 = .ok (.invokevirtual 40, 3) := by decide +kernel
theorem dX1_unite_71 : decode cX1_unite 71 = .ok (.invokestatic 84, 3) := by decide +kernel
theorem dX1_unite_74 : decode cX1_unite 74 = .ok (.invokevirtual 81, 3) := by decide +kernel
theorem dX1_unite_77 : decode cX1_unite 77 = .ok (.aload_n 0, 1) := by decide +kernel
theorem dX1_unite_78 : decode cX1_unite 78 = .ok (.getfield 26, 3) := by decide +kernel
theorem dX1_unite_81 : decode cX1_unite 81 = .ok (.iload_n 1, 1) := by decide +kernel
theorem dX1_unite_82 : decode cX1_unite 82 = .ok (.aload_n 0, 1) := by decide +kernel
theorem dX1_unite_83 : decode cX1_unite 83 = .ok (.getfield 26, 3) := by decide +kernel
theorem dX1_unite_86 : decode cX1_unite 86 = .ok (.iload_n 1, 1) := by decide +kernel
theorem dX1_unite_87 : decode cX1_unite 87 = .ok (.invokevirtual 40, 3) := by decide +kernel
theorem dX1_unite_90 : decode cX1_unite 90 = .ok (.aload_n 0, 1) := by decide +kernel
theorem dX1_unite_91 : decode cX1_unite 91 = .ok (.getfield 26, 3) := by decide +kernel
theorem dX1_unite_94 : decode cX1_unite 94 = .ok (.iload_n 2, 1) := by decide +kernel
theorem dX1_unite_95 : decode cX1_unite 95 = .ok (.invokevirtual 40, 3) := by decide +kernel
theorem dX1_unite_98 : decode cX1_unite 98 = .ok (.invokestatic 90, 3) := by decide +kernel
theorem dX1_unite_101 : decode cX1_unite 101 = .ok (.invokevirtual 81, 3) := by decide +kernel
theorem dX1_unite_104 : decode cX1_unite 104 = .ok (.return_, 1) := by decide +kernel
theorem dX1_shortenTo_0 : decode cX1_shortenTo 0 = .ok (.aload_n 0, 1) := by decide +kernel
theorem dX1_shortenTo_1 : decode cX1_shortenTo 1 = .ok (.getfield 14, 3) := by decide +kernel
theorem dX1_shortenTo_4 : decode cX1_shortenTo 4 = .ok (.iload_n 1, 1) := by decide +kernel
theorem dX1_shortenTo_5 : decode cX1_shortenTo 5 = .ok (.invokevirtual 93, 3) := by decide +kernel
theorem dX1_shortenTo_8 : decode cX1_shortenTo 8 = .ok (.aload_n 0, 1) := by decide +kernel
theorem dX1_shortenTo_9 : decode cX1_shortenTo 9 = .ok (.getfield 20, 3) := by decide +kernel
theorem dX1_shortenTo_12 : decode cX1_shortenTo 12 = .ok (.iload_n 1, 1) := by decide +kernel
theorem dX1_shortenTo_13 : decode cX1_shortenTo 13 = .ok (.invokevirtual 93, 3) := by decide +kernel
theorem dX1_shortenTo_16 : decode cX1_shortenTo 16 = .ok (.aload_n 0, 1) := by decide +kernel
theorem dX1_shortenTo_17 : decode cX1_shortenTo 17 = .ok (.getfield 23, 3) := by decide +kernel
theorem dX1_shortenTo_20 : decode cX1_shortenTo 20 = .ok (.iload_n 1, 1) := by decide +kernel
theorem dX1_shortenTo_21 : decode cX1_shortenTo 21 = .ok (.invokevirtual 93, 3) := by decide +kernel
theorem dX1_shortenTo_24 : decode cX1_shortenTo 24 = .ok (.aload_n 0, 1) := by decide +kernel
theorem dX1_shortenTo_25 : decode cX1_shortenTo 25 = .ok (.getfield 26, 3) := by decide +kernel
theorem dX1_shortenTo_28 : decode cX1_shortenTo 28 = .ok (.iload_n 1, 1) := by decide +kernel
theorem dX1_shortenTo_29 : decode cX1_shortenTo 29 = .ok (.invokevirtual 93, 3) := by decide +kernel
theorem dX1_shortenTo_32 : decode cX1_shortenTo 32 = .ok (.return_, 1) := by decide +kernel
theorem dX1_quantileAt_0 : decode cX1_quantileAt 0 = .ok (.aload_n 0, 1) := by decide +kernel
theorem dX1_quantileAt_1 : decode cX1_quantileAt 1 = .ok (.getfield 14, 3) := by decide +kernel
theorem dX1_quantileAt_4 : decode cX1_quantileAt 4 = .ok (.invokevirtual 68, 3) := by decide +kernel
theorem dX1_quantileAt_7 : decode cX1_quantileAt 7 = .ok (.istore_n 2, 1) := by decide +kernel
theorem dX1_quantileAt_8 : decode cX1_quantileAt 8 = .ok (.iload_n 1, 1) := by decide +kernel
theorem dX1_quantileAt_9 : decode cX1_quantileAt 9 = .ok (.iload_n 2, 1) := by decide +kernel
theorem dX1_quantileAt_10 : decode cX1_quantileAt 10 = .ok (.imul, 1) := by decide +kernel
theorem dX1_quantileAt_11 : decode cX1_quantileAt 11 = .ok (.istore_n 3, 1) := by decide +kernel
theorem dX1_quantileAt_12 : decode cX1_quantileAt 12 = .ok (.iconst 0, 1) := by decide +kernel
theorem dX1_quantileAt_13 : decode cX1_quantileAt 13 = .ok (.istore 4, 2) := by decide +kernel
theorem dX1_quantileAt_15 : decode cX1_quantileAt 15 = .ok (.iconst 0, 1) := by decide +kernel
theorem dX1_quantileAt_16 : decode cX1_quantileAt 16 = .ok (.istore 5, 2) := by decide +kernel
theorem dX1_quantileAt_18 : decode cX1_quantileAt 18 = .ok (.aload_n 0, 1) := by decide +kernel
theorem dX1_quantileAt_19 : decode cX1_quantileAt 19 = .ok (.getfield 23, 3) := by decide +kernel
theorem dX1_quantileAt_22 : decode cX1_quantileAt 22 = .ok (.invokevirtual 94, 3) := by decide +kernel
theorem dX1_quantileAt_25 : decode cX1_quantileAt 25 = .ok (.istore 6, 2) := by decide +kernel
theorem dX1_quantileAt_27 : decode cX1_quantileAt 27 = .ok (.iconst 1, 1) := by decide +kernel
theorem dX1_quantileAt_28 : decode cX1_quantileAt 28 = .ok (.istore 7, 2) := by decide +kernel
theorem dX1_quantileAt_30 : decode cX1_quantileAt 30 = .ok (.iconst 0, 1) := by decide +kernel
theorem dX1_quantileAt_31 : decode cX1_quantileAt 31 = .ok (.istore 8, 2) := by decide +kernel
theorem dX1_quantileAt_33 : decode cX1_quantileAt 33 = .ok (.iload 8, 2) := by decide +kernel
theorem dX1_quantileAt_35 : decode cX1_quantileAt 35 = .ok (.aload_n 0, 1) := by decide +kernel
theorem dX1_quantileAt_36 : decode cX1_quantileAt 36 = .ok (.invokevirtual 50, 3) := by decide +kernel
theorem dX1_quantileAt_39 : decode cX1_quantileAt 39 = .ok (.if_icmp .ge 95, 3) := by decide +kernel
theorem dX1_quantileAt_42 : decode cX1_quantileAt 42 = .ok (.aload_n 0, 1) := by decide +kernel
theorem dX1_quantileAt_43 : decode cX1_quantileAt 43 = .ok (.getfield 20, 3) := by decide +kernel
theorem dX1_quantileAt_46 : decode cX1_quantileAt 46 = .ok (.iload 8, 2) := by decide +kernel
theorem dX1_quantileAt_48 : decode cX1_quantileAt 48 = .ok (.invokevirtual 40, 3) := by decide +kernel
theorem dX1_quantileAt_51 : decode cX1_quantileAt 51 = .ok (.istore 9, 2) := by decide +kernel
theorem dX1_quantileAt_53 : decode cX1_quantileAt 53 = .ok (.aload_n 0, 1) := by decide +kernel
theorem dX1_quantileAt_54 : decode cX1_quantileAt 54 = .ok (.getfield 14, 3) := by decide +kernel
theorem dX1_quantileAt_57 : decode cX1_quantileAt 57 = .ok (.iload 8, 2) := by decide +kernel
theorem dX1_quantileAt_59 : decode cX1_quantileAt 59 = .ok (.invokevirtual 40, 3) := by decide +kernel
theorem dX1_quantileAt_62 : decode cX1_quantileAt 62 = .ok (.istore 10, 2) := by decide +kernel
theorem dX1_quantileAt_64 : decode cX1_quantileAt 64 = .ok (.sipush 1000, 3) := by decide +kernel
theorem dX1_quantileAt_67 : decode cX1_quantileAt 67 = .ok (.iload 4, 2) := by decide +kernel
theorem dX1_quantileAt_69 : decode cX1_quantileAt 69 = .ok (.imul, 1) := by decide +kernel
theorem dX1_quantileAt_70 : decode cX1_quantileAt 70 = .ok (.sipush 500, 3) := by decide +kernel
theorem dX1_quantileAt_73 : decode cX1_quantileAt 73 = .ok (.iload 10, 2) := by decide +kernel
theorem dX1_quantileAt_75 : decode cX1_quantileAt 75 = .ok (.imul, 1) := by decide +kernel
theorem dX1_quantileAt_76 : decode cX1_quantileAt 76 = .ok (.iadd, 1) := by decide +kernel
theorem dX1_quantileAt_77 : decode cX1_quantileAt 77 = .ok (.istore 11, 2) := by decide +kernel
theorem dX1_quantileAt_79 : decode cX1_quantileAt 79 = .ok (.iload_n 3, 1) := by decide +kernel
theorem dX1_quantileAt_80 : decode cX1_quantileAt 80 = .ok (.iload 11, 2) := by decide +kernel
theorem dX1_quantileAt_82 : decode cX1_quantileAt 82 = .ok (.if_icmp .gt 27, 3) := by decide +kernel
theorem dX1_quantileAt_85 : decode cX1_quantileAt 85 = .ok (.iload 6, 2) := by decide +kernel
theorem dX1_quantileAt_87 : decode cX1_quantileAt 87 = .ok (.i2l, 1) := by decide +kernel
theorem dX1_quantileAt_88 : decode cX1_quantileAt 88 = .ok (.iload 7, 2) := by decide +kernel
theorem dX1_quantileAt_90 : decode cX1_quantileAt 90 = .ok (.i2l, 1) := by decide +kernel
theorem dX1_quantileAt_91 : decode cX1_quantileAt 91 = .ok (.iload 5, 2) := by decide +kernel
theorem dX1_quantileAt_93 : decode cX1_quantileAt 93 = .ok (.i2l, 1) := by decide +kernel
theorem dX1_quantileAt_94 : decode cX1_quantileAt 94 = .ok (.iload 9, 2) := by decide +kernel
theorem dX1_quantileAt_96 : decode cX1_quantileAt 96 = .ok (.i2l, 1) := by decide +kernel
theorem dX1_quantileAt_97 : decode cX1_quantileAt 97 = .ok (.iload 10, 2) := by decide +kernel
theorem dX1_quantileAt_99 : decode cX1_quantileAt 99 = .ok (.i2l, 1) := by decide +kernel
theorem dX1_quantileAt_100 : decode cX1_quantileAt 100 = .ok (.iload 11, 2) := by decide +kernel
theorem dX1_quantileAt_102 : decode cX1_quantileAt 102 = .ok (.i2l, 1) := by decide +kernel
theorem dX1_quantileAt_103 : decode cX1_quantileAt 103 = .ok (.iload_n 3, 1) := by decide +kernel
theorem dX1_quantileAt_104 : decode cX1_quantileAt 104 = .ok (.i2l, 1) := by decide +kernel
theorem dX1_quantileAt_105 : decode cX1_quantileAt 105 = .ok (.invokestatic 97, 3) := by decide +kernel
theorem dX1_quantileAt_108 : decode cX1_quantileAt 108 = .ok (.ireturn, 1) := by decide +kernel
theorem dX1_quantileAt_109 : decode cX1_quantileAt 109 = .ok (.iload 4, 2) := by decide +kernel
theorem dX1_quantileAt_111 : decode cX1_quantileAt 111 = .ok (.iload 10, 2) := by decide +kernel
theorem dX1_quantileAt_113 : decode cX1_quantileAt 113 = .ok (.iadd, 1) := by decide +kernel
theorem dX1_quantileAt_114 : decode cX1_quantileAt 114 = .ok (.istore 4, 2) := by decide +kernel
theorem dX1_quantileAt_116 : decode cX1_quantileAt 116 = .ok (.iload 11, 2) := by decide +kernel
theorem dX1_quantileAt_118 : decode cX1_quantileAt 118 = .ok (.istore 5, 2) := by decide +kernel
theorem dX1_quantileAt_120 : decode cX1_quantileAt 120 = .ok (.iload 9, 2) := by decide +kernel
theorem dX1_quantileAt_122 : decode cX1_quantileAt 122 = .ok (.istore 6, 2) := by decide +kernel
theorem dX1_quantileAt_124 : decode cX1_quantileAt 124 = .ok (.iload 10, 2) := by decide +kernel
theorem dX1_quantileAt_126 : decode cX1_quantileAt 126 = .ok (.istore 7, 2) := by decide +kernel
theorem dX1_quantileAt_128 : decode cX1_quantileAt 128 = .ok (.iinc 8 1, 3) := by decide +kernel
theorem dX1_quantileAt_131 : decode cX1_quantileAt 131 = .ok (.goto (-98), 3) := by decide +kernel
theorem dX1_quantileAt_134 : decode cX1_quantileAt 134 = .ok (.iload 6, 2) := by decide +kernel
theorem dX1_quantileAt_136 : decode cX1_quantileAt 136 = .ok (.i2l, 1) := by decide +kernel
theorem dX1_quantileAt_137 : decode cX1_quantileAt 137 = .ok (.iload 7, 2) := by decide +kernel
theorem dX1_quantileAt_139 : decode cX1_quantileAt 139 = .ok (.i2l, 1) := by decide +kernel
theorem dX1_quantileAt_140 : decode cX1_quantileAt 140 = .ok (.iload 5, 2) := by decide +kernel
theorem dX1_quantileAt_142 : decode cX1_quantileAt 142 = .ok (.i2l, 1) := by decide +kernel
theorem dX1_quantileAt_143 : decode cX1_quantileAt 143 = .ok (.aload_n 0, 1) := by decide +kernel
theorem dX1_quantileAt_144 : decode cX1_quantileAt 144 = .ok (.getfield 26, 3) := by decide +kernel
theorem dX1_quantileAt_147 : decode cX1_quantileAt 147 = .ok (.invokevirtual 101, 3) := by decide +kernel
theorem dX1_quantileAt_150 : decode cX1_quantileAt 150 = .ok (.i2l, 1) := by decide +kernel
theorem dX1_quantileAt_151 : decode cX1_quantileAt 151 = .ok (.lconst 1, 1) := by decide +kernel
theorem dX1_quantileAt_152 : decode cX1_quantileAt 152 = .ok (.sipush 1000, 3) := by decide +kernel
theorem dX1_quantileAt_155 : decode cX1_quantileAt 155 = .ok (.iload_n 2, 1) := by decide +kernel
theorem dX1_quantileAt_156 : decode cX1_quantileAt 156 = .ok (.imul, 1) := by decide +kernel
theorem dX1_quantileAt_157 : decode cX1_quantileAt 157 = .ok (.i2l, 1) := by decide +kernel
theorem dX1_quantileAt_158 : decode cX1_quantileAt 158 = .ok (.iload_n 3, 1) := by decide +kernel
theorem dX1_quantileAt_159 : decode cX1_quantileAt 159 = .ok (.i2l, 1) := by decide +kernel
theorem dX1_quantileAt_160 : decode cX1_quantileAt 160 = .ok (.invokestatic 97, 3) := by decide +kernel
theorem dX1_quantileAt_163 : decode cX1_quantileAt 163 = .ok (.ireturn, 1) := by decide +kernel
theorem dX1_between_0 : decode cX1_between 0 = .ok (.lload 10, 2) := by decide +kernel
theorem dX1_between_2 : decode cX1_between 2 = .ok (.lload 4, 2) := by decide +kernel
theorem dX1_between_4 : decode cX1_between 4 = .ok (.lsub, 1) := by decide +kernel
theorem dX1_between_5 : decode cX1_between 5 = .ok (.lstore 14, 2) := by decide +kernel
theorem dX1_between_7 : decode cX1_between 7 = .ok (.lload_n 2, 1) := by decide +kernel
theorem dX1_between_8 : decode cX1_between 8 = .ok (.lload 8, 2) := by decide +kernel
theorem dX1_between_10 : decode cX1_between 10 = .ok (.lmul, 1) := by decide +kernel
theorem dX1_between_11 : decode cX1_between 11 = .ok (.lload 14, 2) := by decide +kernel
theorem dX1_between_13 : decode cX1_between 13 = .ok (.lmul, 1) := by decide +kernel
theorem dX1_between_14 : decode cX1_between 14 = .ok (.lstore 16, 2) := by decide +kernel
theorem dX1_between_16 : decode cX1_between 16 = .ok (.lload 16, 2) := by decide +kernel
theorem dX1_between_18 : decode cX1_between 18 = .ok (.lconst 0, 1) := by decide +kernel
theorem dX1_between_19 : decode cX1_between 19 = .ok (.lcmp, 1) := by decide +kernel
theorem dX1_between_20 : decode cX1_between 20 = .ok (.ifCond .gt 5, 3) := by decide +kernel
theorem dX1_between_23 : decode cX1_between 23 = .ok (.iconst 0, 1) := by decide +kernel
theorem dX1_between_24 : decode cX1_between 24 = .ok (.ireturn, 1) := by decide +kernel
theorem dX1_between_25 : decode cX1_between 25 = .ok (.lload_n 0, 1) := by decide +kernel
theorem dX1_between_26 : decode cX1_between 26 = .ok (.lload 8, 2) := by decide +kernel
theorem dX1_between_28 : decode cX1_between 28 = .ok (.lmul, 1) := by decide +kernel
theorem dX1_between_29 : decode cX1_between 29 = .ok (.lstore 18, 2) := by decide +kernel
theorem dX1_between_31 : decode cX1_between 31 = .ok (.lload 6, 2) := by decide +kernel
theorem dX1_between_33 : decode cX1_between 33 = .ok (.lload_n 2, 1) := by decide +kernel
theorem dX1_between_34 : decode cX1_between 34 = .ok (.lmul, 1) := by decide +kernel
theorem dX1_between_35 : decode cX1_between 35 = .ok (.lload 18, 2) := by decide +kernel
theorem dX1_between_37 : decode cX1_between 37 = .ok (.lsub, 1) := by decide +kernel
theorem dX1_between_38 : decode cX1_between 38 = .ok (.lstore 20, 2) := by decide +kernel
theorem dX1_between_40 : decode cX1_between 40 = .ok (.lload 18, 2) := by decide +kernel
theorem dX1_between_42 : decode cX1_between 42 = .ok (.lload 14, 2) := by decide +kernel
theorem dX1_between_44 : decode cX1_between 44 = .ok (.lmul, 1) := by decide +kernel
theorem dX1_between_45 : decode cX1_between 45 = .ok (.lload 20, 2) := by decide +kernel
theorem dX1_between_47 : decode cX1_between 47 = .ok (.lload 12, 2) := by decide +kernel
theorem dX1_between_49 : decode cX1_between 49 = .ok (.lload 4, 2) := by decide +kernel
theorem dX1_between_51 : decode cX1_between 51 = .ok (.lsub, 1) := by decide +kernel
theorem dX1_between_52 : decode cX1_between 52 = .ok (.lmul, 1) := by decide +kernel
theorem dX1_between_53 : decode cX1_between 53 = .ok (.ladd, 1) := by decide +kernel
theorem dX1_between_54 : decode cX1_between 54 = .ok (.lload 16, 2) := by decide +kernel
theorem dX1_between_56 : decode cX1_between 56 = .ok (.invokestatic 104, 3) := by decide +kernel
theorem dX1_between_59 : decode cX1_between 59 = .ok (.l2i, 1) := by decide +kernel
theorem dX1_between_60 : decode cX1_between 60 = .ok (.ireturn, 1) := by decide +kernel
theorem dX1_greatestQAtMost_0 : decode cX1_greatestQAtMost 0 = .ok (.iconst (-1), 1) := by decide +kernel
theorem dX1_greatestQAtMost_1 : decode cX1_greatestQAtMost 1 = .ok (.istore_n 2, 1) := by decide +kernel
theorem dX1_greatestQAtMost_2 : decode cX1_greatestQAtMost 2 = .ok (.sipush 512, 3) := by decide +kernel
theorem dX1_greatestQAtMost_5 : decode cX1_greatestQAtMost 5 = .ok (.istore_n 3, 1) := by decide +kernel
theorem dX1_greatestQAtMost_6 : decode cX1_greatestQAtMost 6 = .ok (.iload_n 3, 1) := by decide +kernel
theorem dX1_greatestQAtMost_7 : decode cX1_greatestQAtMost 7 = .ok (.ifCond .le 34, 3) := by decide +kernel
theorem dX1_greatestQAtMost_10 : decode cX1_greatestQAtMost 10 = .ok (.iload_n 2, 1) := by decide +kernel
theorem dX1_greatestQAtMost_11 : decode cX1_greatestQAtMost 11 = .ok (.iload_n 3, 1) := by decide +kernel
theorem dX1_greatestQAtMost_12 : decode cX1_greatestQAtMost 12 = .ok (.iadd, 1) := by decide +kernel
theorem dX1_greatestQAtMost_13 : decode cX1_greatestQAtMost 13 = .ok (.sipush 1000, 3) := by decide +kernel
theorem dX1_greatestQAtMost_16 : decode cX1_greatestQAtMost 16 = .ok (.if_icmp .gt 18, 3) := by decide +kernel
theorem dX1_greatestQAtMost_19 : decode cX1_greatestQAtMost 19 = .ok (.aload_n 0, 1) := by decide +kernel
theorem dX1_greatestQAtMost_20 : decode cX1_greatestQAtMost 20 = .ok (.iload_n 2, 1) := by decide +kernel
theorem dX1_greatestQAtMost_21 : decode cX1_greatestQAtMost 21 = .ok (.iload_n 3, 1) := by decide +kernel
theorem dX1_greatestQAtMost_22 : decode cX1_greatestQAtMost 22 = .ok (.iadd, 1) := by decide +kernel
