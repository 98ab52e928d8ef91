theorem dX7_heapOf_42 : decode cX7_heapOf 42 = .ok (.invokevirtual 90, 3) := by decide +kernel
theorem dX7_heapOf_45 : decode cX7_heapOf 45 = .ok (.if_icmp .lt 6, 3) := by decide +kernel
theorem dX7_heapOf_48 : decode cX7_heapOf 48 = .ok (.ldc 107, 2) := by decide +kernel
theorem dX7_heapOf_50 : decode cX7_heapOf 50 = .ok (.ireturn, 1) := by decide +kernel
theorem dX7_heapOf_51 : decode cX7_heapOf 51 = .ok (.iload_n 3, 1) := by decide +kernel
theorem dX7_heapOf_52 : decode cX7_heapOf 52 = .ok (.tableswitch 94 0 5 #[40, 50, 60, 70, 80, 87], 40) := by decide +kernel
theorem dX7_heapOf_92 : decode cX7_heapOf 92 = .ok (.aload 5, 2) := by decide +kernel
theorem dX7_heapOf_94 : decode cX7_heapOf 94 = .ok (.getfield 108, 3) := by decide +kernel
theorem dX7_heapOf_97 : decode cX7_heapOf 97 = .ok (.iload_n 2, 1) := by decide +kernel
theorem dX7_heapOf_98 : decode cX7_heapOf 98 = .ok (.invokevirtual 80, 3) := by decide +kernel
theorem dX7_heapOf_101 : decode cX7_heapOf 101 = .ok (.ireturn, 1) := by decide +kernel
theorem dX7_heapOf_102 : decode cX7_heapOf 102 = .ok (.aload 5, 2) := by decide +kernel
theorem dX7_heapOf_104 : decode cX7_heapOf 104 = .ok (.getfield 111, 3) := by decide +kernel
theorem dX7_heapOf_107 : decode cX7_heapOf 107 = .ok (.iload_n 2, 1) := by decide +kernel
theorem dX7_heapOf_108 : decode cX7_heapOf 108 = .ok (.invokevirtual 80, 3) := by decide +kernel
theorem dX7_heapOf_111 : decode cX7_heapOf 111 = .ok (.ireturn, 1) := by decide +kernel
theorem dX7_heapOf_112 : decode cX7_heapOf 112 = .ok (.aload 5, 2) := by decide +kernel
theorem dX7_heapOf_114 : decode cX7_heapOf 114 = .ok (.getfield 114, 3) := by decide +kernel
theorem dX7_heapOf_117 : decode cX7_heapOf 117 = .ok (.iload_n 2, 1) := by decide +kernel
theorem dX7_heapOf_118 : decode cX7_heapOf 118 = .ok (.invokevirtual 80, 3) := by decide +kernel
theorem dX7_heapOf_121 : decode cX7_heapOf 121 = .ok (.ireturn, 1) := by decide +kernel
theorem dX7_heapOf_122 : decode cX7_heapOf 122 = .ok (.aload 5, 2) := by decide +kernel
theorem dX7_heapOf_124 : decode cX7_heapOf 124 = .ok (.getfield 117, 3) := by decide +kernel
theorem dX7_heapOf_127 : decode cX7_heapOf 127 = .ok (.iload_n 2, 1) := by decide +kernel
theorem dX7_heapOf_128 : decode cX7_heapOf 128 = .ok (.invokevirtual 80, 3) := by decide +kernel
theorem dX7_heapOf_131 : decode cX7_heapOf 131 = .ok (.ireturn, 1) := by decide +kernel
theorem dX7_heapOf_132 : decode cX7_heapOf 132 = .ok (.aload 5, 2) := by decide +kernel
theorem dX7_heapOf_134 : decode cX7_heapOf 134 = .ok (.iload_n 2, 1) := by decide +kernel
theorem dX7_heapOf_135 : decode cX7_heapOf 135 = .ok (.invokevirtual 120, 3) := by decide +kernel
theorem dX7_heapOf_138 : decode cX7_heapOf 138 = .ok (.ireturn, 1) := by decide +kernel
theorem dX7_heapOf_139 : decode cX7_heapOf 139 = .ok (.aload 5, 2) := by decide +kernel
theorem dX7_heapOf_141 : decode cX7_heapOf 141 = .ok (.iload_n 2, 1) := by decide +kernel
theorem dX7_heapOf_142 : decode cX7_heapOf 142 = .ok (.invokevirtual 123, 3) := by decide +kernel
theorem dX7_heapOf_145 : decode cX7_heapOf 145 = .ok (.ireturn, 1) := by decide +kernel
theorem dX7_heapOf_146 : decode cX7_heapOf 146 = .ok (.aload 5, 2) := by decide +kernel
theorem dX7_heapOf_148 : decode cX7_heapOf 148 = .ok (.iload_n 2, 1) := by decide +kernel
theorem dX7_heapOf_149 : decode cX7_heapOf 149 = .ok (.invokevirtual 126, 3) := by decide +kernel
theorem dX7_heapOf_152 : decode cX7_heapOf 152 = .ok (.invokestatic 130, 3) := by decide +kernel
theorem dX7_heapOf_155 : decode cX7_heapOf 155 = .ok (.ireturn, 1) := by decide +kernel
theorem dX7_bufferOf_0 : decode cX7_bufferOf 0 = .ok (.aload_n 0, 1) := by decide +kernel
theorem dX7_bufferOf_1 : decode cX7_bufferOf 1 = .ok (.getfield 12, 3) := by decide +kernel
theorem dX7_bufferOf_4 : decode cX7_bufferOf 4 = .ok (.iload_n 1, 1) := by decide +kernel
theorem dX7_bufferOf_5 : decode cX7_bufferOf 5 = .ok (.invokevirtual 53, 3) := by decide +kernel
theorem dX7_bufferOf_8 : decode cX7_bufferOf 8 = .ok (.astore_n 3, 1) := by decide +kernel
theorem dX7_bufferOf_9 : decode cX7_bufferOf 9 = .ok (.aload_n 3, 1) := by decide +kernel
theorem dX7_bufferOf_10 : decode cX7_bufferOf 10 = .ok (.ifnull 7, 3) := by decide +kernel
theorem dX7_bufferOf_13 : decode cX7_bufferOf 13 = .ok (.iload_n 2, 1) := by decide +kernel
theorem dX7_bufferOf_14 : decode cX7_bufferOf 14 = .ok (.ifCond .ge 6, 3) := by decide +kernel
theorem dX7_bufferOf_17 : decode cX7_bufferOf 17 = .ok (.ldc 61, 2) := by decide +kernel
theorem dX7_bufferOf_19 : decode cX7_bufferOf 19 = .ok (.ireturn, 1) := by decide +kernel
theorem dX7_bufferOf_20 : decode cX7_bufferOf 20 = .ok (.iload_n 2, 1) := by decide +kernel
theorem dX7_bufferOf_21 : decode cX7_bufferOf 21 = .ok (.aload_n 3, 1) := by decide +kernel
theorem dX7_bufferOf_22 : decode cX7_bufferOf 22 = .ok (.getfield 134, 3) := by decide +kernel
theorem dX7_bufferOf_25 : decode cX7_bufferOf 25 = .ok (.invokevirtual 137, 3) := by decide +kernel
theorem dX7_bufferOf_28 : decode cX7_bufferOf 28 = .ok (.if_icmp .ge 14, 3) := by decide +kernel
theorem dX7_bufferOf_31 : decode cX7_bufferOf 31 = .ok (.aload_n 3, 1) := by decide +kernel
theorem dX7_bufferOf_32 : decode cX7_bufferOf 32 = .ok (.getfield 134, 3) := by decide +kernel
theorem dX7_bufferOf_35 : decode cX7_bufferOf 35 = .ok (.iload_n 2, 1) := by decide +kernel
theorem dX7_bufferOf_36 : decode cX7_bufferOf 36 = .ok (.invokevirtual 80, 3) := by decide +kernel
theorem dX7_bufferOf_39 : decode cX7_bufferOf 39 = .ok (.goto 5, 3) := by decide +kernel
theorem dX7_bufferOf_42 : decode cX7_bufferOf 42 = .ok (.ldc 107, 2) := by decide +kernel
theorem dX7_bufferOf_44 : decode cX7_bufferOf 44 = .ok (.ireturn, 1) := by decide +kernel
theorem dX7_digestOf_0 : decode cX7_digestOf 0 = .ok (.aload_n 0, 1) := by decide +kernel
theorem dX7_digestOf_1 : decode cX7_digestOf 1 = .ok (.getfield 12, 3) := by decide +kernel
theorem dX7_digestOf_4 : decode cX7_digestOf 4 = .ok (.iload_n 1, 1) := by decide +kernel
theorem dX7_digestOf_5 : decode cX7_digestOf 5 = .ok (.invokevirtual 53, 3) := by decide +kernel
theorem dX7_digestOf_8 : decode cX7_digestOf 8 = .ok (.astore_n 3, 1) := by decide +kernel
theorem dX7_digestOf_9 : decode cX7_digestOf 9 = .ok (.aload_n 3, 1) := by decide +kernel
theorem dX7_digestOf_10 : decode cX7_digestOf 10 = .ok (.ifnull 13, 3) := by decide +kernel
theorem dX7_digestOf_13 : decode cX7_digestOf 13 = .ok (.iload_n 2, 1) := by decide +kernel
theorem dX7_digestOf_14 : decode cX7_digestOf 14 = .ok (.iconst 0, 1) := by decide +kernel
theorem dX7_digestOf_15 : decode cX7_digestOf 15 = .ok (.bipush 8, 2) := by decide +kernel
theorem dX7_digestOf_17 : decode cX7_digestOf 17 = .ok (.invokestatic 57, 3) := by decide +kernel
theorem dX7_digestOf_20 : decode cX7_digestOf 20 = .ok (.ifCond .ne 6, 3) := by decide +kernel
theorem dX7_digestOf_23 : decode cX7_digestOf 23 = .ok (.ldc 61, 2) := by decide +kernel
theorem dX7_digestOf_25 : decode cX7_digestOf 25 = .ok (.ireturn, 1) := by decide +kernel
theorem dX7_digestOf_26 : decode cX7_digestOf 26 = .ok (.iload_n 2, 1) := by decide +kernel
theorem dX7_digestOf_27 : decode cX7_digestOf 27 = .ok (.tableswitch 144 0 7 #[45, 50, 58, 66, 83, 100, 105, 118], 45) := by decide +kernel
theorem dX7_digestOf_72 : decode cX7_digestOf 72 = .ok (.aload_n 3, 1) := by decide +kernel
theorem dX7_digestOf_73 : decode cX7_digestOf 73 = .ok (.invokevirtual 62, 3) := by decide +kernel
theorem dX7_digestOf_76 : decode cX7_digestOf 76 = .ok (.ireturn, 1) := by decide +kernel
theorem dX7_digestOf_77 : decode cX7_digestOf 77 = .ok (.aload_n 3, 1) := by decide +kernel
theorem dX7_digestOf_78 : decode cX7_digestOf 78 = .ok (.getfield 87, 3) := by decide +kernel
theorem dX7_digestOf_81 : decode cX7_digestOf 81 = .ok (.invokevirtual 90, 3) := by decide +kernel
theorem dX7_digestOf_84 : decode cX7_digestOf 84 = .ok (.ireturn, 1) := by decide +kernel
theorem dX7_digestOf_85 : decode cX7_digestOf 85 = .ok (.aload_n 3, 1) := by decide +kernel
theorem dX7_digestOf_86 : decode cX7_digestOf 86 = .ok (.getfield 134, 3) := by decide +kernel
theorem dX7_digestOf_89 : decode cX7_digestOf 89 = .ok (.invokevirtual 137, 3) := by decide +kernel
theorem dX7_digestOf_92 : decode cX7_digestOf 92 = .ok (.ireturn, 1) := by decide +kernel
theorem dX7_digestOf_93 : decode cX7_digestOf 93 = .ok (.aload_n 3, 1) := by decide +kernel
theorem dX7_digestOf_94 : decode cX7_digestOf 94 = .ok (.invokevirtual 62, 3) := by decide +kernel
theorem dX7_digestOf_97 : decode cX7_digestOf 97 = .ok (.ifCond .ne 8, 3) := by decide +kernel
theorem dX7_digestOf_100 : decode cX7_digestOf 100 = .ok (.ldc 107, 2) := by decide +kernel
theorem dX7_digestOf_102 : decode cX7_digestOf 102 = .ok (.goto 7, 3) := by decide +kernel
theorem dX7_digestOf_105 : decode cX7_digestOf 105 = .ok (.aload_n 3, 1) := by decide +kernel
theorem dX7_digestOf_106 : decode cX7_digestOf 106 = .ok (.invokevirtual 140, 3) := by decide +kernel
theorem dX7_digestOf_109 : decode cX7_digestOf 109 = .ok (.ireturn, 1) := by decide +kernel
theorem dX7_digestOf_110 : decode cX7_digestOf 110 = .ok (.aload_n 3, 1) := by decide +kernel
theorem dX7_digestOf_111 : decode cX7_digestOf 111 = .ok (.invokevirtual 62, 3) := by decide +kernel
theorem dX7_digestOf_114 : decode cX7_digestOf 114 = .ok (.ifCond .ne 8, 3) := by decide +kernel
theorem dX7_digestOf_117 : decode cX7_digestOf 117 = .ok (.ldc 107, 2) := by decide +kernel
theorem dX7_digestOf_119 : decode cX7_digestOf 119 = .ok (.goto 7, 3) := by decide +kernel
theorem dX7_digestOf_122 : decode cX7_digestOf 122 = .ok (.aload_n 3, 1) := by decide +kernel
theorem dX7_digestOf_123 : decode cX7_digestOf 123 = .ok (.invokevirtual 143, 3) := by decide +kernel
theorem dX7_digestOf_126 : decode cX7_digestOf 126 = .ok (.ireturn, 1) := by decide +kernel
theorem dX7_digestOf_127 : decode cX7_digestOf 127 = .ok (.aload_n 3, 1) := by decide +kernel
theorem dX7_digestOf_128 : decode cX7_digestOf 128 = .ok (.invokevirtual 146, 3) := by decide +kernel
theorem dX7_digestOf_131 : decode cX7_digestOf 131 = .ok (.ireturn, 1) := by decide +kernel
theorem dX7_digestOf_132 : decode cX7_digestOf 132 = .ok (.aload_n 0, 1) := by decide +kernel
theorem dX7_digestOf_133 : decode cX7_digestOf 133 = .ok (.aload_n 3, 1) := by decide +kernel
theorem dX7_digestOf_134 : decode cX7_digestOf 134 = .ok (.invokevirtual 149, 3) := by decide +kernel
theorem dX7_digestOf_137 : decode cX7_digestOf 137 = .ok (.aload_n 0, 1) := by decide +kernel
theorem dX7_digestOf_138 : decode cX7_digestOf 138 = .ok (.getfield 49, 3) := by decide +kernel
theorem dX7_digestOf_141 : decode cX7_digestOf 141 = .ok (.invokevirtual 90, 3) := by decide +kernel
theorem dX7_digestOf_144 : decode cX7_digestOf 144 = .ok (.ireturn, 1) := by decide +kernel
theorem dX7_digestOf_145 : decode cX7_digestOf 145 = .ok (.aload_n 3, 1) := by decide +kernel
theorem dX7_digestOf_146 : decode cX7_digestOf 146 = .ok (.getfield 87, 3) := by decide +kernel
theorem dX7_digestOf_149 : decode cX7_digestOf 149 = .ok (.invokevirtual 90, 3) := by decide +kernel
theorem dX7_digestOf_152 : decode cX7_digestOf 152 = .ok (.ifCond .ne 8, 3) := by decide +kernel
theorem dX7_digestOf_155 : decode cX7_digestOf 155 = .ok (.ldc 107, 2) := by decide +kernel
theorem dX7_digestOf_157 : decode cX7_digestOf 157 = .ok (.goto 13, 3) := by decide +kernel
theorem dX7_digestOf_160 : decode cX7_digestOf 160 = .ok (.aload_n 3, 1) := by decide +kernel
theorem dX7_digestOf_161 : decode cX7_digestOf 161 = .ok (.getfield 87, 3) := by decide +kernel
theorem dX7_digestOf_164 : decode cX7_digestOf 164 = .ok (.getfield 108, 3) := by decide +kernel
theorem dX7_digestOf_167 : decode cX7_digestOf 167 = .ok (.invokevirtual 153, 3) := by decide +kernel
theorem dX7_digestOf_170 : decode cX7_digestOf 170 = .ok (.ireturn, 1) := by decide +kernel
theorem dX7_digestOf_171 : decode cX7_digestOf 171 = .ok (.aload_n 3, 1) := by decide +kernel
theorem dX7_digestOf_172 : decode cX7_digestOf 172 = .ok (.getfield 154, 3) := by decide +kernel
theorem dX7_digestOf_175 : decode cX7_digestOf 175 = .ok (.ireturn, 1) := by decide +kernel
theorem dX7_quantile_0 : decode cX7_quantile 0 = .ok (.aload_n 0, 1) := by decide +kernel
theorem dX7_quantile_1 : decode cX7_quantile 1 = .ok (.getfield 12, 3) := by decide +kernel
theorem dX7_quantile_4 : decode cX7_quantile 4 = .ok (.iload_n 1, 1) := by decide +kernel
theorem dX7_quantile_5 : decode cX7_quantile 5 = .ok (.invokevirtual 53, 3) := by decide +kernel
theorem dX7_quantile_8 : decode cX7_quantile 8 = .ok (.astore_n 3, 1) := by decide +kernel
theorem dX7_quantile_9 : decode cX7_quantile 9 = .ok (.aload_n 3, 1) := by decide +kernel
theorem dX7_quantile_10 : decode cX7_quantile 10 = .ok (.ifnull 14, 3) := by decide +kernel
theorem dX7_quantile_13 : decode cX7_quantile 13 = .ok (.iload_n 2, 1) := by decide +kernel
theorem dX7_quantile_14 : decode cX7_quantile 14 = .ok (.iconst 0, 1) := by decide +kernel
theorem dX7_quantile_15 : decode cX7_quantile 15 = .ok (.sipush 1000, 3) := by decide +kernel
theorem dX7_quantile_18 : decode cX7_quantile 18 = .ok (.invokestatic 57, 3) := by decide +kernel
theorem dX7_quantile_21 : decode cX7_quantile 21 = .ok (.ifCond .ne 6, 3) := by decide +kernel
theorem dX7_quantile_24 : decode cX7_quantile 24 = .ok (.ldc 61, 2) := by decide +kernel
theorem dX7_quantile_26 : decode cX7_quantile 26 = .ok (.ireturn, 1) := by decide +kernel
theorem dX7_quantile_27 : decode cX7_quantile 27 = .ok (.aload_n 3, 1) := by decide +kernel
theorem dX7_quantile_28 : decode cX7_quantile 28 = .ok (.invokevirtual 62, 3) := by decide +kernel
theorem dX7_quantile_31 : decode cX7_quantile 31 = .ok (.ifCond .ne 6, 3) := by decide +kernel
theorem dX7_quantile_34 : decode cX7_quantile 34 = .ok (.ldc 158, 2) := by decide +kernel
theorem dX7_quantile_36 : decode cX7_quantile 36 = .ok (.ireturn, 1) := by decide +kernel
theorem dX7_quantile_37 : decode cX7_quantile 37 = .ok (.aload_n 0, 1) := by decide +kernel
theorem dX7_quantile_38 : decode cX7_quantile 38 = .ok (.aload_n 3, 1) := by decide +kernel
theorem dX7_quantile_39 : decode cX7_quantile 39 = .ok (.invokevirtual 149, 3) := by decide +kernel
theorem dX7_quantile_42 : decode cX7_quantile 42 = .ok (.aload_n 0, 1) := by decide +kernel
theorem dX7_quantile_43 : decode cX7_quantile 43 = .ok (.getfield 49, 3) := by decide +kernel
theorem dX7_quantile_46 : decode cX7_quantile 46 = .ok (.iload_n 2, 1) := by decide +kernel
theorem dX7_quantile_47 : decode cX7_quantile 47 = .ok (.invokevirtual 159, 3) := by decide +kernel
theorem dX7_quantile_50 : decode cX7_quantile 50 = .ok (.ireturn, 1) := by decide +kernel
theorem dX7_truth_0 : decode cX7_truth 0 = .ok (.aload_n 0, 1) := by decide +kernel
theorem dX7_truth_1 : decode cX7_truth 1 = .ok (.getfield 12, 3) := by decide +kernel
theorem dX7_truth_4 : decode cX7_truth 4 = .ok (.iload_n 1, 1) := by decide +kernel
theorem dX7_truth_5 : decode cX7_truth 5 = .ok (.invokevirtual 53, 3) := by decide +kernel
theorem dX7_truth_8 : decode cX7_truth 8 = .ok (.astore_n 3, 1) := by decide +kernel
theorem dX7_truth_9 : decode cX7_truth 9 = .ok (.aload_n 3, 1) := by decide +kernel
theorem dX7_truth_10 : decode cX7_truth 10 = .ok (.ifnull 14, 3) := by decide +kernel
theorem dX7_truth_13 : decode cX7_truth 13 = .ok (.iload_n 2, 1) := by decide +kernel
theorem dX7_truth_14 : decode cX7_truth 14 = .ok (.iconst 0, 1) := by decide +kernel
theorem dX7_truth_15 : decode cX7_truth 15 = .ok (.sipush 1000, 3) := by decide +kernel
theorem dX7_truth_18 : decode cX7_truth 18 = .ok (.invokestatic 57, 3) := by decide +kernel
theorem dX7_truth_21 : decode cX7_truth 21 = .ok (.ifCond .ne 6, 3) := by decide +kernel
theorem dX7_truth_24 : decode cX7_truth 24 = .ok (.ldc 61, 2) := by decide +kernel
theorem dX7_truth_26 : decode cX7_truth 26 = .ok (.ireturn, 1) := by decide +kernel
theorem dX7_truth_27 : decode cX7_truth 27 = .ok (.aload_n 3, 1) := by decide +kernel
theorem dX7_truth_28 : decode cX7_truth 28 = .ok (.invokevirtual 62, 3) := by decide +kernel
theorem dX7_truth_31 : decode cX7_truth 31 = .ok (.ifCond .ne 8, 3) := by decide +kernel
theorem dX7_truth_34 : decode cX7_truth 34 = .ok (.ldc 158, 2) := by decide +kernel
theorem dX7_truth_36 : decode cX7_truth 36 = .ok (.goto 8, 3) := by decide +kernel
theorem dX7_truth_39 : decode cX7_truth 39 = .ok (.aload_n 3, 1) := by decide +kernel
theorem dX7_truth_40 : decode cX7_truth 40 = .ok (.iload_n 2, 1) := by decide +kernel
theorem dX7_truth_41 : decode cX7_truth 41 = .ok (.invokevirtual 162, 3) := by decide +kernel
theorem dX7_truth_44 : decode cX7_truth 44 = .ok (.ireturn, 1) := by decide +kernel
theorem dX7_worst_0 : decode cX7_worst 0 = .ok (.aload_n 0, 1) := by decide +kernel
theorem dX7_worst_1 : decode cX7_worst 1 = .ok (.getfield 12, 3) := by decide +kernel
theorem dX7_worst_4 : decode cX7_worst 4 = .ok (.iload_n 1, 1) := by decide +kernel
theorem dX7_worst_5 : decode cX7_worst 5 = .ok (.invokevirtual 53, 3) := by decide +kernel
theorem dX7_worst_8 : decode cX7_worst 8 = .ok (.astore_n 3, 1) := by decide +kernel
theorem dX7_worst_9 : decode cX7_worst 9 = .ok (.aload_n 3, 1) := by decide +kernel
theorem dX7_worst_10 : decode cX7_worst 10 = .ok (.ifnull 12, 3) := by decide +kernel
theorem dX7_worst_13 : decode cX7_worst 13 = .ok (.iload_n 2, 1) := by decide +kernel
theorem dX7_worst_14 : decode cX7_worst 14 = .ok (.iconst 0, 1) := by decide +kernel
theorem dX7_worst_15 : decode cX7_worst 15 = .ok (.iconst 1, 1) := by decide +kernel
theorem dX7_worst_16 : decode cX7_worst 16 = .ok (.invokestatic 57, 3) := by decide +kernel
theorem dX7_worst_19 : decode cX7_worst 19 = .ok (.ifCond .ne 6, 3) := by decide +kernel
theorem dX7_worst_22 : decode cX7_worst 22 = .ok (.ldc 61, 2) := by decide +kernel
theorem dX7_worst_24 : decode cX7_worst 24 = .ok (.ireturn, 1) := by decide +kernel
theorem dX7_worst_25 : decode cX7_worst 25 = .ok (.aload_n 3, 1) := by decide +kernel
theorem dX7_worst_26 : decode cX7_worst 26 = .ok (.invokevirtual 62, 3) := by decide +kernel
theorem dX7_worst_29 : decode cX7_worst 29 = .ok (.ifCond .ne 6, 3) := by decide +kernel
theorem dX7_worst_32 : decode cX7_worst 32 = .ok (.ldc 158, 2) := by decide +kernel
theorem dX7_worst_34 : decode cX7_worst 34 = .ok (.ireturn, 1) := by decide +kernel
theorem dX7_worst_35 : decode cX7_worst 35 = .ok (.aload_n 0, 1) := by decide +kernel
theorem dX7_worst_36 : decode cX7_worst 36 = .ok (.aload_n 3, 1) := by decide +kernel
theorem dX7_worst_37 : decode cX7_worst 37 = .ok (.invokevirtual 149, 3) := by decide +kernel
theorem dX7_worst_40 : decode cX7_worst 40 = .ok (.iconst (-1), 1) := by decide +kernel
theorem dX7_worst_41 : decode cX7_worst 41 = .ok (.istore 4, 2) := by decide +kernel
theorem dX7_worst_43 : decode cX7_worst 43 = .ok (.iconst 0, 1) := by decide +kernel
theorem dX7_worst_44 : decode cX7_worst 44 = .ok (.istore 5, 2) := by decide +kernel
theorem dX7_worst_46 : decode cX7_worst 46 = .ok (.iconst 0, 1) := by decide +kernel
theorem dX7_worst_47 : decode cX7_worst 47 = .ok (.istore 6, 2) := by decide +kernel
theorem dX7_worst_49 : decode cX7_worst 49 = .ok (.iload 6, 2) := by decide +kernel
theorem dX7_worst_51 : decode cX7_worst 51 = .ok (.sipush 1000, 3) := by decide +kernel
theorem dX7_worst_54 : decode cX7_worst 54 = .ok (.if_icmp .gt 45, 3) := by decide +kernel
theorem dX7_worst_57 : decode cX7_worst 57 = .ok (.aload_n 0, 1) := by decide +kernel
theorem dX7_worst_58 : decode cX7_worst 58 = .ok (.getfield 49, 3) := by decide +kernel
theorem dX7_worst_61 : decode cX7_worst 61 = .ok (.iload 6, 2) := by decide +kernel
theorem dX7_worst_63 : decode cX7_worst 63 = .ok (.invokevirtual 159, 3) := by decide +kernel
theorem dX7_worst_66 : decode cX7_worst 66 = .ok (.aload_n 3, 1) := by decide +kernel
theorem dX7_worst_67 : decode cX7_worst 67 = .ok (.iload 6, 2) := by decide +kernel
theorem dX7_worst_69 : decode cX7_worst 69 = .ok (.invokevirtual 162, 3) := by decide +kernel
theorem dX7_worst_72 : decode cX7_worst 72 = .ok (.isub, 1) := by decide +kernel
theorem dX7_worst_73 : decode cX7_worst 73 = .ok (.invokestatic 165, 3) := by decide +kernel
theorem dX7_worst_76 : decode cX7_worst 76 = .ok (.istore 7, 2) := by decide +kernel
theorem dX7_worst_78 : decode cX7_worst 78 = .ok (.iload 7, 2) := by decide +kernel
theorem dX7_worst_80 : decode cX7_worst 80 = .ok (.iload 4, 2) := by decide +kernel
theorem dX7_worst_82 : decode cX7_worst 82 = .ok (.if_icmp .le 11, 3) := by decide +kernel
theorem dX7_worst_85 : decode cX7_worst 85 = .ok (.iload 7, 2) := by decide +kernel
theorem dX7_worst_87 : decode cX7_worst 87 = .ok (.istore 4, 2) := by decide +kernel
theorem dX7_worst_89 : decode cX7_worst 89 = .ok (.iload 6, 2) := by decide +kernel
theorem dX7_worst_91 : decode cX7_worst 91 = .ok (.istore 5, 2) := by decide +kernel
theorem dX7_worst_93 : decode cX7_worst 93 = .ok (.iinc 6 100, 3) := by decide +kernel
theorem dX7_worst_96 : decode cX7_worst 96 = .ok (.goto (-47), 3) := by decide +kernel
theorem dX7_worst_99 : decode cX7_worst 99 = .ok (.iload_n 2, 1) := by decide +kernel
theorem dX7_worst_100 : decode cX7_worst 100 = .ok (.ifCond .ne 8, 3) := by decide +kernel
theorem dX7_worst_103 : decode cX7_worst 103 = .ok (.iload 5, 2) := by decide +kernel
theorem dX7_worst_105 : decode cX7_worst 105 = .ok (.goto 5, 3) := by decide +kernel
theorem dX7_worst_108 : decode cX7_worst 108 = .ok (.iload 4, 2) := by decide +kernel
theorem dX7_worst_110 : decode cX7_worst 110 = .ok (.ireturn, 1) := by decide +kernel
theorem dX7_rank_0 : decode cX7_rank 0 = .ok (.aload_n 0, 1) := by decide +kernel
theorem dX7_rank_1 : decode cX7_rank 1 = .ok (.getfield 12, 3) := by decide +kernel
theorem dX7_rank_4 : decode cX7_rank 4 = .ok (.iload_n 1, 1) := by decide +kernel
theorem dX7_rank_5 : decode cX7_rank 5 = .ok (.invokevirtual 53, 3) := by decide +kernel
theorem dX7_rank_8 : decode cX7_rank 8 = .ok (.astore_n 3, 1) := by decide +kernel
theorem dX7_rank_9 : decode cX7_rank 9 = .ok (.aload_n 3, 1) := by decide +kernel
theorem dX7_rank_10 : decode cX7_rank 10 = .ok (.ifnull 14, 3) := by decide +kernel
theorem dX7_rank_13 : decode cX7_rank 13 = .ok (.iload_n 2, 1) := by decide +kernel
theorem dX7_rank_14 : decode cX7_rank 14 = .ok (.iconst 0, 1) := by decide +kernel
theorem dX7_rank_15 : decode cX7_rank 15 = .ok (.sipush 9999, 3) := by decide +kernel
theorem dX7_rank_18 : decode cX7_rank 18 = .ok (.invokestatic 57, 3) := by decide +kernel
theorem dX7_rank_21 : decode cX7_rank 21 = .ok (.ifCond .ne 6, 3) := by decide +kernel
theorem dX7_rank_24 : decode cX7_rank 24 = .ok (.ldc 61, 2) := by decide +kernel
theorem dX7_rank_26 : decode cX7_rank 26 = .ok (.ireturn, 1) := by decide +kernel
theorem dX7_rank_27 : decode cX7_rank 27 = .ok (.aload_n 3, 1) := by decide +kernel
theorem dX7_rank_28 : decode cX7_rank 28 = .ok (.invokevirtual 62, 3) := by decide +kernel
theorem dX7_rank_31 : decode cX7_rank 31 = .ok (.ifCond .ne 6, 3) := by decide +kernel
theorem dX7_rank_34 : decode cX7_rank 34 = .ok (.ldc 158, 2) := by decide +kernel
theorem dX7_rank_36 : decode cX7_rank 36 = .ok (.ireturn, 1) := by decide +kernel
theorem dX7_rank_37 : decode cX7_rank 37 = .ok (.aload_n 0, 1) := by decide +kernel
theorem dX7_rank_38 : decode cX7_rank 38 = .ok (.aload_n 3, 1) := by decide +kernel
theorem dX7_rank_39 : decode cX7_rank 39 = .ok (.invokevirtual 149, 3) := by decide +kernel
theorem dX7_rank_42 : decode cX7_rank 42 = .ok (.aload_n 0, 1) := by decide +kernel
theorem dX7_rank_43 : decode cX7_rank 43 = .ok (.getfield 49, 3) := by decide +kernel
theorem dX7_rank_46 : decode cX7_rank 46 = .ok (.iload_n 2, 1) := by decide +kernel
theorem dX7_rank_47 : decode cX7_rank 47 = .ok (.invokevirtual 170, 3) := by decide +kernel
theorem dX7_rank_50 : decode cX7_rank 50 = .ok (.ireturn, 1) := by decide +kernel
theorem dX7_width_0 : decode cX7_width 0 = .ok (.aload_n 0, 1) := by decide +kernel
theorem dX7_width_1 : decode cX7_width 1 = .ok (.getfield 12, 3) := by decide +kernel
theorem dX7_width_4 : decode cX7_width 4 = .ok (.iload_n 1, 1) := by decide +kernel
theorem dX7_width_5 : decode cX7_width 5 = .ok (.invokevirtual 53, 3) := by decide +kernel
theorem dX7_width_8 : decode cX7_width 8 = .ok (.astore_n 3, 1) := by decide +kernel
theorem dX7_width_9 : decode cX7_width 9 = .ok (.aload_n 3, 1) := by decide +kernel
theorem dX7_width_10 : decode cX7_width 10 = .ok (.ifnull 14, 3) := by decide +kernel
theorem dX7_width_13 : decode cX7_width 13 = .ok (.iload_n 2, 1) := by decide +kernel
theorem dX7_width_14 : decode cX7_width 14 = .ok (.iconst 0, 1) := by decide +kernel
theorem dX7_width_15 : decode cX7_width 15 = .ok (.sipush 1000, 3) := by decide +kernel
theorem dX7_width_18 : decode cX7_width 18 = .ok (.invokestatic 57, 3) := by decide +kernel
theorem dX7_width_21 : decode cX7_width 21 = .ok (.ifCond .ne 6, 3) := by decide +kernel
theorem dX7_width_24 : decode cX7_width 24 = .ok (.ldc 61, 2) := by decide +kernel
theorem dX7_width_26 : decode cX7_width 26 = .ok (.ireturn, 1) := by decide +kernel
theorem dX7_width_27 : decode cX7_width 27 = .ok (.aload_n 3, 1) := by decide +kernel
theorem dX7_width_28 : decode cX7_width 28 = .ok (.invokevirtual 62, 3) := by decide +kernel
theorem dX7_width_31 : decode cX7_width 31 = .ok (.ifCond .ne 6, 3) := by decide +kernel
theorem dX7_width_34 : decode cX7_width 34 = .ok (.ldc 158, 2) := by decide +kernel
theorem dX7_width_36 : decode cX7_width 36 = .ok (.ireturn, 1) := by decide +kernel
theorem dX7_width_37 : decode cX7_width 37 = .ok (.aload_n 0, 1) := by decide +kernel
theorem dX7_width_38 : decode cX7_width 38 = .ok (.aload_n 3, 1) := by decide +kernel
theorem dX7_width_39 : decode cX7_width 39 = .ok (.invokevirtual 149, 3) := by decide +kernel
theorem dX7_width_42 : decode cX7_width 42 = .ok (.aload_n 0, 1) := by decide +kernel
theorem dX7_width_43 : decode cX7_width 43 = .ok (.getfield 49, 3) := by decide +kernel
theorem dX7_width_46 : decode cX7_width 46 = .ok (.iload_n 2, 1) := by decide +kernel
theorem dX7_width_47 : decode cX7_width 47 = .ok (.aload_n 3, 1) := by decide +kernel
theorem dX7_width_48 : decode cX7_width 48 = .ok (.invokevirtual 62, 3) := by decide +kernel
theorem dX7_width_51 : decode cX7_width 51 = .ok (.invokestatic 173, 3) := by decide +kernel
theorem dX7_width_54 : decode cX7_width 54 = .ok (.invokevirtual 177, 3) := by decide +kernel
theorem dX7_width_57 : decode cX7_width 57 = .ok (.ireturn, 1) := by decide +kernel
theorem dX7_count_0 : decode cX7_count 0 = .ok (.iload_n 1, 1) := by decide +kernel
theorem dX7_count_1 : decode cX7_count 1 = .ok (.lookupswitch 115 #[(0, 59), (1, 67), (2, 75), (3, 83), (20, 91), (21, 103)], 59) := by decide +kernel
theorem dX7_count_60 : decode cX7_count 60 = .ok (.aload_n 0, 1) := by decide +kernel
theorem dX7_count_61 : decode cX7_count 61 = .ok (.getfield 12, 3) := by decide +kernel
theorem dX7_count_64 : decode cX7_count 64 = .ok (.invokevirtual 189, 3) := by decide +kernel
theorem dX7_count_67 : decode cX7_count 67 = .ok (.ireturn, 1) := by decide +kernel
theorem dX7_count_68 : decode cX7_count 68 = .ok (.aload_n 0, 1) := by decide +kernel
theorem dX7_count_69 : decode cX7_count 69 = .ok (.getfield 12, 3) := by decide +kernel
theorem dX7_count_72 : decode cX7_count 72 = .ok (.invokevirtual 190, 3) := by decide +kernel
theorem dX7_count_75 : decode cX7_count 75 = .ok (.ireturn, 1) := by decide +kernel
theorem dX7_count_76 : decode cX7_count 76 = .ok (.aload_n 0, 1) := by decide +kernel
theorem dX7_count_77 : decode cX7_count 77 = .ok (.getfield 19, 3) := by decide +kernel
theorem dX7_count_80 : decode cX7_count 80 = .ok (.invokevirtual 193, 3) := by decide +kernel
theorem dX7_count_83 : decode cX7_count 83 = .ok (.ireturn, 1) := by decide +kernel
theorem dX7_count_84 : decode cX7_count 84 = .ok (.aload_n 0, 1) := by decide +kernel
theorem dX7_count_85 : decode cX7_count 85 = .ok (.getfield 28, 3) := by decide +kernel
theorem dX7_count_88 : decode cX7_count 88 = .ok (.invokevirtual 137, 3) := by decide +kernel
theorem dX7_count_91 : decode cX7_count 91 = .ok (.ireturn, 1) := by decide +kernel
theorem dX7_count_92 : decode cX7_count 92 = .ok (.aload_n 0, 1) := by decide +kernel
theorem dX7_count_93 : decode cX7_count 93 = .ok (.getfield 12, 3) := by decide +kernel
theorem dX7_count_96 : decode cX7_count 96 = .ok (.getfield 73, 3) := by decide +kernel
theorem dX7_count_99 : decode cX7_count 99 = .ok (.iconst 0, 1) := by decide +kernel
theorem dX7_count_100 : decode cX7_count 100 = .ok (.invokevirtual 80, 3) := by decide +kernel
theorem dX7_count_103 : decode cX7_count 103 = .ok (.ireturn, 1) := by decide +kernel
theorem dX7_count_104 : decode cX7_count 104 = .ok (.aload_n 0, 1) := by decide +kernel
theorem dX7_count_105 : decode cX7_count 105 = .ok (.getfield 12, 3) := by decide +kernel
theorem dX7_count_108 : decode cX7_count 108 = .ok (.getfield 73, 3) := by decide +kernel
theorem dX7_count_111 : decode cX7_count 111 = .ok (.iconst 1, 1) := by decide +kernel
theorem dX7_count_112 : decode cX7_count 112 = .ok (.invokevirtual 80, 3) := by decide +kernel
theorem dX7_count_115 : decode cX7_count 115 = .ok (.ireturn, 1) := by decide +kernel
theorem dX7_count_116 : decode cX7_count 116 = .ok (.ldc 61, 2) := by decide +kernel
theorem dX7_count_118 : decode cX7_count 118 = .ok (.ireturn, 1) := by decide +kernel
theorem dX7_packOnTrial_0 : decode cX7_packOnTrial 0 = .ok (.aload_n 0, 1) := by decide +kernel
theorem dX7_packOnTrial_1 : decode cX7_packOnTrial 1 = .ok (.getfield 49, 3) := by decide +kernel
theorem dX7_packOnTrial_4 : decode cX7_packOnTrial 4 = .ok (.aload_n 1, 1) := by decide +kernel
theorem dX7_packOnTrial_5 : decode cX7_packOnTrial 5 = .ok (.getfield 87, 3) := by decide +kernel
theorem dX7_packOnTrial_8 : decode cX7_packOnTrial 8 = .ok (.invokevirtual 225, 3) := by decide +kernel
theorem dX7_packOnTrial_11 : decode cX7_packOnTrial 11 = .ok (.aload_n 0, 1) := by decide +kernel
theorem dX7_packOnTrial_12 : decode cX7_packOnTrial 12 = .ok (.getfield 49, 3) := by decide +kernel
theorem dX7_packOnTrial_15 : decode cX7_packOnTrial 15 = .ok (.aload_n 1, 1) := by decide +kernel
theorem dX7_packOnTrial_16 : decode cX7_packOnTrial 16 = .ok (.getfield 134, 3) := by decide +kernel
theorem dX7_packOnTrial_19 : decode cX7_packOnTrial 19 = .ok (.invokevirtual 184, 3) := by decide +kernel
theorem dX7_packOnTrial_22 : decode cX7_packOnTrial 22 = .ok (.aload_n 0, 1) := by decide +kernel
theorem dX7_packOnTrial_23 : decode cX7_packOnTrial 23 = .ok (.getfield 49, 3) := by decide +kernel
theorem dX7_packOnTrial_26 : decode cX7_packOnTrial 26 = .ok (.aload_n 0, 1) := by decide +kernel
theorem dX7_packOnTrial_27 : decode cX7_packOnTrial 27 = .ok (.getfield 12, 3) := by decide +kernel
theorem dX7_packOnTrial_30 : decode cX7_packOnTrial 30 = .ok (.getfield 73, 3) := by decide +kernel
theorem dX7_packOnTrial_33 : decode cX7_packOnTrial 33 = .ok (.iconst 0, 1) := by decide +kernel
theorem dX7_packOnTrial_34 : decode cX7_packOnTrial 34 = .ok (.invokevirtual 80, 3) := by decide +kernel
theorem dX7_packOnTrial_37 : decode cX7_packOnTrial 37 = .ok (.invokevirtual 188, 3) := by decide +kernel
theorem dX7_packOnTrial_40 : decode cX7_packOnTrial 40 = .ok (.return_, 1) := by decide +kernel
theorem dX7_isWithin_0 : decode cX7_isWithin 0 = .ok (.iload_n 0, 1) := by decide +kernel
theorem dX7_isWithin_1 : decode cX7_isWithin 1 = .ok (.iload_n 1, 1) := by decide +kernel
theorem dX7_isWithin_2 : decode cX7_isWithin 2 = .ok (.if_icmp .lt 12, 3) := by decide +kernel
theorem dX7_isWithin_5 : decode cX7_isWithin 5 = .ok (.iload_n 0, 1) := by decide +kernel
theorem dX7_isWithin_6 : decode cX7_isWithin 6 = .ok (.iload_n 2, 1) := by decide +kernel
theorem dX7_isWithin_7 : decode cX7_isWithin 7 = .ok (.if_icmp .gt 7, 3) := by decide +kernel
theorem dX7_isWithin_10 : decode cX7_isWithin 10 = .ok (.iconst 1, 1) := by decide +kernel
theorem dX7_isWithin_11 : decode cX7_isWithin 11 = .ok (.goto 4, 3) := by decide +kernel
theorem dX7_isWithin_14 : decode cX7_isWithin 14 = .ok (.iconst 0, 1) := by decide +kernel
theorem dX7_isWithin_15 : decode cX7_isWithin 15 = .ok (.ireturn, 1) := by decide +kernel
theorem dX7_highestSetting_0 : decode cX7_highestSetting 0 = .ok (.iload_n 0, 1) := by decide +kernel
theorem dX7_highestSetting_1 : decode cX7_highestSetting 1 = .ok (.ifCond .ne 8, 3) := by decide +kernel
theorem dX7_highestSetting_4 : decode cX7_highestSetting 4 = .ok (.bipush 60, 2) := by decide +kernel
theorem dX7_highestSetting_6 : decode cX7_highestSetting 6 = .ok (.goto 5, 3) := by decide +kernel
theorem dX7_highestSetting_9 : decode cX7_highestSetting 9 = .ok (.bipush 20, 2) := by decide +kernel
theorem dX7_highestSetting_11 : decode cX7_highestSetting 11 = .ok (.ireturn, 1) := by decide +kernel
theorem dX7_trueIndex_0 : decode cX7_trueIndex 0 = .ok (.iload_n 0, 1) := by decide +kernel
theorem dX7_trueIndex_1 : decode cX7_trueIndex 1 = .ok (.iload_n 1, 1) := by decide +kernel
theorem dX7_trueIndex_2 : decode cX7_trueIndex 2 = .ok (.iconst 1, 1) := by decide +kernel
theorem dX7_trueIndex_3 : decode cX7_trueIndex 3 = .ok (.isub, 1) := by decide +kernel
theorem dX7_trueIndex_4 : decode cX7_trueIndex 4 = .ok (.imul, 1) := by decide +kernel
theorem dX7_trueIndex_5 : decode cX7_trueIndex 5 = .ok (.sipush 1000, 3) := by decide +kernel
theorem dX7_trueIndex_8 : decode cX7_trueIndex 8 = .ok (.idiv, 1) := by decide +kernel
theorem dX7_trueIndex_9 : decode cX7_trueIndex 9 = .ok (.ireturn, 1) := by decide +kernel
theorem dX7_floatBits_0 : decode cX7_floatBits 0 = .ok (.fload_n 0, 1) := by decide +kernel
theorem dX7_floatBits_1 : decode cX7_floatBits 1 = .ok (.fconst 0, 1) := by decide +kernel
theorem dX7_floatBits_2 : decode cX7_floatBits 2 = .ok (.fcmp .l, 1) := by decide +kernel
theorem dX7_floatBits_3 : decode cX7_floatBits 3 = .ok (.ifCond .gt 5, 3) := by decide +kernel
theorem dX7_floatBits_6 : decode cX7_floatBits 6 = .ok (.iconst 0, 1) := by decide +kernel
theorem dX7_floatBits_7 : decode cX7_floatBits 7 = .ok (.ireturn, 1) := by decide +kernel
theorem dX7_floatBits_8 : decode cX7_floatBits 8 = .ok (.fload_n 0, 1) := by decide +kernel
theorem dX7_floatBits_9 : decode cX7_floatBits 9 = .ok (.fstore_n 1, 1) := by decide +kernel
theorem dX7_floatBits_10 : decode cX7_floatBits 10 = .ok (.bipush 127, 2) := by decide +kernel
theorem dX7_floatBits_12 : decode cX7_floatBits 12 = .ok (.istore_n 2, 1) := by decide +kernel
theorem dX7_floatBits_13 : decode cX7_floatBits 13 = .ok (.fload_n 1, 1) := by decide +kernel
theorem dX7_floatBits_14 : decode cX7_floatBits 14 = .ok (.fconst 2, 1) := by decide +kernel
theorem dX7_floatBits_15 : decode cX7_floatBits 15 = .ok (.fcmp .l, 1) := by decide +kernel
theorem dX7_floatBits_16 : decode cX7_floatBits 16 = .ok (.ifCond .lt 21, 3) := by decide +kernel
theorem dX7_floatBits_19 : decode cX7_floatBits 19 = .ok (.iload_n 2, 1) := by decide +kernel
theorem dX7_floatBits_20 : decode cX7_floatBits 20 = .ok (.sipush 254, 3) := by decide +kernel
theorem dX7_floatBits_23 : decode cX7_floatBits 23 = .ok (.if_icmp .ge 14, 3) := by decide +kernel
theorem dX7_floatBits_26 : decode cX7_floatBits 26 = .ok (.fload_n 1, 1) := by decide +kernel
theorem dX7_floatBits_27 : decode cX7_floatBits 27 = .ok (.ldc 229, 2) := by decide +kernel
theorem dX7_floatBits_29 : decode cX7_floatBits 29 = .ok (.fmul, 1) := by decide +kernel
theorem dX7_floatBits_30 : decode cX7_floatBits 30 = .ok (.fstore_n 1, 1) := by decide +kernel
theorem dX7_floatBits_31 : decode cX7_floatBits 31 = .ok (.iinc 2 1, 3) := by decide +kernel
theorem dX7_floatBits_34 : decode cX7_floatBits 34 = .ok (.goto (-21), 3) := by decide +kernel
theorem dX7_floatBits_37 : decode cX7_floatBits 37 = .ok (.fload_n 1, 1) := by decide +kernel
theorem dX7_floatBits_38 : decode cX7_floatBits 38 = .ok (.fconst 1, 1) := by decide +kernel
theorem dX7_floatBits_39 : decode cX7_floatBits 39 = .ok (.fcmp .g, 1) := by decide +kernel
theorem dX7_floatBits_40 : decode cX7_floatBits 40 = .ok (.ifCond .ge 18, 3) := by decide +kernel
theorem dX7_floatBits_43 : decode cX7_floatBits 43 = .ok (.iload_n 2, 1) := by decide +kernel
theorem dX7_floatBits_44 : decode cX7_floatBits 44 = .ok (.iconst 1, 1) := by decide +kernel
theorem dX7_floatBits_45 : decode cX7_floatBits 45 = .ok (.if_icmp .le 13, 3) := by decide +kernel
theorem dX7_floatBits_48 : decode cX7_floatBits 48 = .ok (.fload_n 1, 1) := by decide +kernel
theorem dX7_floatBits_49 : decode cX7_floatBits 49 = .ok (.fconst 2, 1) := by decide +kernel
theorem dX7_floatBits_50 : decode cX7_floatBits 50 = .ok (.fmul, 1) := by decide +kernel
theorem dX7_floatBits_51 : decode cX7_floatBits 51 = .ok (.fstore_n 1, 1) := by decide +kernel
theorem dX7_floatBits_52 : decode cX7_floatBits 52 = .ok (.iinc 2 (-1), 3) := by decide +kernel
theorem dX7_floatBits_55 : decode cX7_floatBits 55 = .ok (.goto (-18), 3) := by decide +kernel
theorem dX7_floatBits_58 : decode cX7_floatBits 58 = .ok (.fload_n 1, 1) := by decide +kernel
theorem dX7_floatBits_59 : decode cX7_floatBits 59 = .ok (.ldc 230, 2) := by decide +kernel
theorem dX7_floatBits_61 : decode cX7_floatBits 61 = .ok (.fmul, 1) := by decide +kernel
theorem dX7_floatBits_62 : decode cX7_floatBits 62 = .ok (.f2i, 1) := by decide +kernel
theorem dX7_floatBits_63 : decode cX7_floatBits 63 = .ok (.ldc 231, 2) := by decide +kernel
theorem dX7_floatBits_65 : decode cX7_floatBits 65 = .ok (.isub, 1) := by decide +kernel
theorem dX7_floatBits_66 : decode cX7_floatBits 66 = .ok (.istore_n 3, 1) := by decide +kernel
theorem dX7_floatBits_67 : decode cX7_floatBits 67 = .ok (.iload_n 2, 1) := by decide +kernel
theorem dX7_floatBits_68 : decode cX7_floatBits 68 = .ok (.bipush 23, 2) := by decide +kernel
theorem dX7_floatBits_70 : decode cX7_floatBits 70 = .ok (.ishl, 1) := by decide +kernel
theorem dX7_floatBits_71 : decode cX7_floatBits 71 = .ok (.iload_n 3, 1) := by decide +kernel
theorem dX7_floatBits_72 : decode cX7_floatBits 72 = .ok (.ior, 1) := by decide +kernel
theorem dX7_floatBits_73 : decode cX7_floatBits 73 = .ok (.ireturn, 1) := by decide +kernel
theorem dJ9_floorDiv_f86c9_0 : decode cJ9_floorDiv_f86c9 0 = .ok (.lload_n 0, 1) := by decide +kernel
theorem dJ9_floorDiv_f86c9_1 : decode cJ9_floorDiv_f86c9 1 = .ok (.lload_n 2, 1) := by decide +kernel
theorem dJ9_floorDiv_f86c9_2 : decode cJ9_floorDiv_f86c9 2 = .ok (.ldiv, 1) := by decide +kernel
theorem dJ9_floorDiv_f86c9_3 : decode cJ9_floorDiv_f86c9 3 = .ok (.lstore 4, 2) := by decide +kernel
theorem dJ9_floorDiv_f86c9_5 : decode cJ9_floorDiv_f86c9 5 = .ok (.lload_n 0, 1) := by decide +kernel
theorem dJ9_floorDiv_f86c9_6 : decode cJ9_floorDiv_f86c9 6 = .ok (.lload_n 2, 1) := by decide +kernel
theorem dJ9_floorDiv_f86c9_7 : decode cJ9_floorDiv_f86c9 7 = .ok (.lxor, 1) := by decide +kernel
theorem dJ9_floorDiv_f86c9_8 : decode cJ9_floorDiv_f86c9 8 = .ok (.lconst 0, 1) := by decide +kernel
theorem dJ9_floorDiv_f86c9_9 : decode cJ9_floorDiv_f86c9 9 = .ok (.lcmp, 1) := by decide +kernel
theorem dJ9_floorDiv_f86c9_10 : decode cJ9_floorDiv_f86c9 10 = .ok (.ifCond .ge 17, 3) := by decide +kernel
theorem dJ9_floorDiv_f86c9_13 : decode cJ9_floorDiv_f86c9 13 = .ok (.lload 4, 2) := by decide +kernel
theorem dJ9_floorDiv_f86c9_15 : decode cJ9_floorDiv_f86c9 15 = .ok (.lload_n 2, 1) := by decide +kernel
theorem dJ9_floorDiv_f86c9_16 : decode cJ9_floorDiv_f86c9 16 = .ok (.lmul, 1) := by decide +kernel
theorem dJ9_floorDiv_f86c9_17 : decode cJ9_floorDiv_f86c9 17 = .ok (.lload_n 0, 1) := by decide +kernel
theorem dJ9_floorDiv_f86c9_18 : decode cJ9_floorDiv_f86c9 18 = .ok (.lcmp, 1) := by decide +kernel
theorem dJ9_floorDiv_f86c9_19 : decode cJ9_floorDiv_f86c9 19 = .ok (.ifCond .eq 8, 3) := by decide +kernel
theorem dJ9_floorDiv_f86c9_22 : decode cJ9_floorDiv_f86c9 22 = .ok (.lload 4, 2) := by decide +kernel
theorem dJ9_floorDiv_f86c9_24 : decode cJ9_floorDiv_f86c9 24 = .ok (.lconst 1, 1) := by decide +kernel
theorem dJ9_floorDiv_f86c9_25 : decode cJ9_floorDiv_f86c9 25 = .ok (.lsub, 1) := by decide +kernel
theorem dJ9_floorDiv_f86c9_26 : decode cJ9_floorDiv_f86c9 26 = .ok (.lreturn, 1) := by decide +kernel
theorem dJ9_floorDiv_f86c9_27 : decode cJ9_floorDiv_f86c9 27 = .ok (.lload 4, 2) := by decide +kernel
theorem dJ9_floorDiv_f86c9_29 : decode cJ9_floorDiv_f86c9 29 = .ok (.lreturn, 1) := by decide +kernel
theorem dJ9_abs_0f7a4_0 : decode cJ9_abs_0f7a4 0 = .ok (.iload_n 0, 1) := by decide +kernel
theorem dJ9_abs_0f7a4_1 : decode cJ9_abs_0f7a4 1 = .ok (.ifCond .ge 8, 3) := by decide +kernel
theorem dJ9_abs_0f7a4_4 : decode cJ9_abs_0f7a4 4 = .ok (.iload_n 0, 1) := by decide +kernel
theorem dJ9_abs_0f7a4_5 : decode cJ9_abs_0f7a4 5 = .ok (.ineg, 1) := by decide +kernel
theorem dJ9_abs_0f7a4_6 : decode cJ9_abs_0f7a4 6 = .ok (.goto 4, 3) := by decide +kernel
theorem dJ9_abs_0f7a4_9 : decode cJ9_abs_0f7a4 9 = .ok (.iload_n 0, 1) := by decide +kernel
theorem dJ9_abs_0f7a4_10 : decode cJ9_abs_0f7a4 10 = .ok (.ireturn, 1) := by decide +kernel
theorem dJ9_max_7cf53_0 : decode cJ9_max_7cf53 0 = .ok (.iload_n 0, 1) := by decide +kernel
theorem dJ9_max_7cf53_1 : decode cJ9_max_7cf53 1 = .ok (.iload_n 1, 1) := by decide +kernel
theorem dJ9_max_7cf53_2 : decode cJ9_max_7cf53 2 = .ok (.if_icmp .lt 7, 3) := by decide +kernel
theorem dJ9_max_7cf53_5 : decode cJ9_max_7cf53 5 = .ok (.iload_n 0, 1) := by decide +kernel
theorem dJ9_max_7cf53_6 : decode cJ9_max_7cf53 6 = .ok (.goto 4, 3) := by decide +kernel
theorem dJ9_max_7cf53_9 : decode cJ9_max_7cf53 9 = .ok (.iload_n 1, 1) := by decide +kernel
theorem dJ9_max_7cf53_10 : decode cJ9_max_7cf53 10 = .ok (.ireturn, 1) := by decide +kernel
theorem dJ9_min_7cf53_0 : decode cJ9_min_7cf53 0 = .ok (.iload_n 0, 1) := by decide +kernel
theorem dJ9_min_7cf53_1 : decode cJ9_min_7cf53 1 = .ok (.iload_n 1, 1) := by decide +kernel
theorem dJ9_min_7cf53_2 : decode cJ9_min_7cf53 2 = .ok (.if_icmp .gt 7, 3) := by decide +kernel
theorem dJ9_min_7cf53_5 : decode cJ9_min_7cf53 5 = .ok (.iload_n 0, 1) := by decide +kernel
theorem dJ9_min_7cf53_6 : decode cJ9_min_7cf53 6 = .ok (.goto 4, 3) := by decide +kernel
theorem dJ9_min_7cf53_9 : decode cJ9_min_7cf53 9 = .ok (.iload_n 1, 1) := by decide +kernel
theorem dJ9_min_7cf53_10 : decode cJ9_min_7cf53 10 = .ok (.ireturn, 1) := by decide +kernel
theorem dL_cell_0 : decode cL_cell 0 = .ok (.iload_n 1, 1) := by decide +kernel
theorem dL_cell_1 : decode cL_cell 1 = .ok (.aload_n 0, 1) := by decide +kernel
theorem dL_cell_2 : decode cL_cell 2 = .ok (.arraylength, 1) := by decide +kernel
theorem dL_cell_3 : decode cL_cell 3 = .ok (.if_icmp .ge 9, 3) := by decide +kernel
theorem dL_cell_6 : decode cL_cell 6 = .ok (.aload_n 0, 1) := by decide +kernel
theorem dL_cell_7 : decode cL_cell 7 = .ok (.iload_n 1, 1) := by decide +kernel
theorem dL_cell_8 : decode cL_cell 8 = .ok (.iaload, 1) := by decide +kernel
theorem dL_cell_9 : decode cL_cell 9 = .ok (.goto 12, 3) := by decide +kernel
theorem dL_cell_12 : decode cL_cell 12 = .ok (.ldc 7, 2) := by decide +kernel
theorem dL_cell_14 : decode cL_cell 14 = .ok (.iload_n 1, 1) := by decide +kernel
theorem dL_cell_15 : decode cL_cell 15 = .ok (.iconst 1, 1) := by decide +kernel
theorem dL_cell_16 : decode cL_cell 16 = .ok (.iadd, 1) := by decide +kernel
theorem dL_cell_17 : decode cL_cell 17 = .ok (.imul, 1) := by decide +kernel
theorem dL_cell_18 : decode cL_cell 18 = .ok (.ldc 8, 2) := by decide +kernel
theorem dL_cell_20 : decode cL_cell 20 = .ok (.iadd, 1) := by decide +kernel
theorem dL_cell_21 : decode cL_cell 21 = .ok (.ireturn, 1) := by decide +kernel
theorem dL_low_0 : decode cL_low 0 = .ok (.iload_n 0, 1) := by decide +kernel
theorem dL_low_1 : decode cL_low 1 = .ok (.ldc 9, 2) := by decide +kernel
theorem dL_low_3 : decode cL_low 3 = .ok (.iand, 1) := by decide +kernel
theorem dL_low_4 : decode cL_low 4 = .ok (.iload_n 1, 1) := by decide +kernel
theorem dL_low_5 : decode cL_low 5 = .ok (.irem, 1) := by decide +kernel
theorem dL_low_6 : decode cL_low 6 = .ok (.ireturn, 1) := by decide +kernel
theorem dL_behind_0 : decode cL_behind 0 = .ok (.aload_n 0, 1) := by decide +kernel
theorem dL_behind_1 : decode cL_behind 1 = .ok (.iconst 4, 1) := by decide +kernel
theorem dL_behind_2 : decode cL_behind 2 = .ok (.iload_n 1, 1) := by decide +kernel
theorem dL_behind_3 : decode cL_behind 3 = .ok (.imul, 1) := by decide +kernel
theorem dL_behind_4 : decode cL_behind 4 = .ok (.iconst 1, 1) := by decide +kernel
theorem dL_behind_5 : decode cL_behind 5 = .ok (.iadd, 1) := by decide +kernel
theorem dL_behind_6 : decode cL_behind 6 = .ok (.iaload, 1) := by decide +kernel
theorem dL_behind_7 : decode cL_behind 7 = .ok (.i2l, 1) := by decide +kernel
theorem dL_behind_8 : decode cL_behind 8 = .ok (.aload_n 0, 1) := by decide +kernel
theorem dL_behind_9 : decode cL_behind 9 = .ok (.iconst 4, 1) := by decide +kernel
theorem dL_behind_10 : decode cL_behind 10 = .ok (.iload_n 2, 1) := by decide +kernel
theorem dL_behind_11 : decode cL_behind 11 = .ok (.imul, 1) := by decide +kernel
theorem dL_behind_12 : decode cL_behind 12 = .ok (.iaload, 1) := by decide +kernel
theorem dL_behind_13 : decode cL_behind 13 = .ok (.i2l, 1) := by decide +kernel
theorem dL_behind_14 : decode cL_behind 14 = .ok (.lmul, 1) := by decide +kernel
theorem dL_behind_15 : decode cL_behind 15 = .ok (.aload_n 0, 1) := by decide +kernel
theorem dL_behind_16 : decode cL_behind 16 = .ok (.iconst 4, 1) := by decide +kernel
theorem dL_behind_17 : decode cL_behind 17 = .ok (.iload_n 2, 1) := by decide +kernel
theorem dL_behind_18 : decode cL_behind 18 = .ok (.imul, 1) := by decide +kernel
theorem dL_behind_19 : decode cL_behind 19 = .ok (.iconst 1, 1) := by decide +kernel
theorem dL_behind_20 : decode cL_behind 20 = .ok (.iadd, 1) := by decide +kernel
theorem dL_behind_21 : decode cL_behind 21 = .ok (.iaload, 1) := by decide +kernel
theorem dL_behind_22 : decode cL_behind 22 = .ok (.i2l, 1) := by decide +kernel
theorem dL_behind_23 : decode cL_behind 23 = .ok (.aload_n 0, 1) := by decide +kernel
theorem dL_behind_24 : decode cL_behind 24 = .ok (.iconst 4, 1) := by decide +kernel
theorem dL_behind_25 : decode cL_behind 25 = .ok (.iload_n 1, 1) := by decide +kernel
theorem dL_behind_26 : decode cL_behind 26 = .ok (.imul, 1) := by decide +kernel
theorem dL_behind_27 : decode cL_behind 27 = .ok (.iaload, 1) := by decide +kernel
theorem dL_behind_28 : decode cL_behind 28 = .ok (.i2l, 1) := by decide +kernel
theorem dL_behind_29 : decode cL_behind 29 = .ok (.lmul, 1) := by decide +kernel
theorem dL_behind_30 : decode cL_behind 30 = .ok (.lcmp, 1) := by decide +kernel
theorem dL_behind_31 : decode cL_behind 31 = .ok (.ifCond .le 7, 3) := by decide +kernel
theorem dL_behind_34 : decode cL_behind 34 = .ok (.iconst 1, 1) := by decide +kernel
theorem dL_behind_35 : decode cL_behind 35 = .ok (.goto 4, 3) := by decide +kernel
theorem dL_behind_38 : decode cL_behind 38 = .ok (.iconst 0, 1) := by decide +kernel
theorem dL_behind_39 : decode cL_behind 39 = .ok (.ireturn, 1) := by decide +kernel
theorem dL_swap_0 : decode cL_swap 0 = .ok (.iconst 0, 1) := by decide +kernel
theorem dL_swap_1 : decode cL_swap 1 = .ok (.istore_n 3, 1) := by decide +kernel
theorem dL_swap_2 : decode cL_swap 2 = .ok (.iload_n 3, 1) := by decide +kernel
theorem dL_swap_3 : decode cL_swap 3 = .ok (.iconst 4, 1) := by decide +kernel
theorem dL_swap_4 : decode cL_swap 4 = .ok (.if_icmp .ge 41, 3) := by decide +kernel
theorem dL_swap_7 : decode cL_swap 7 = .ok (.aload_n 0, 1) := by decide +kernel
theorem dL_swap_8 : decode cL_swap 8 = .ok (.iconst 4, 1) := by decide +kernel
theorem dL_swap_9 : decode cL_swap 9 = .ok (.iload_n 1, 1) := by decide +kernel
theorem dL_swap_10 : decode cL_swap 10 = .ok (.imul, 1) := by decide +kernel
theorem dL_swap_11 : decode cL_swap 11 = .ok (.iload_n 3, 1) := by decide +kernel
theorem dL_swap_12 : decode cL_swap 12 = .ok (.iadd, 1) := by decide +kernel
theorem dL_swap_13 : decode cL_swap 13 = .ok (.iaload, 1) := by decide +kernel
theorem dL_swap_14 : decode cL_swap 14 = .ok (.istore 4, 2) := by decide +kernel
theorem dL_swap_16 : decode cL_swap 16 = .ok (.aload_n 0, 1) := by decide +kernel
theorem dL_swap_17 : decode cL_swap 17 = .ok (.iconst 4, 1) := by decide +kernel
theorem dL_swap_18 : decode cL_swap 18 = .ok (.iload_n 1, 1) := by decide +kernel
theorem dL_swap_19 : decode cL_swap 19 = .ok (.imul, 1) := by decide +kernel
theorem dL_swap_20 : decode cL_swap 20 = .ok (.iload_n 3, 1) := by decide +kernel
theorem dL_swap_21 : decode cL_swap 21 = .ok (.iadd, 1) := by decide +kernel
theorem dL_swap_22 : decode cL_swap 22 = .ok (.aload_n 0, 1) := by decide +kernel
theorem dL_swap_23 : decode cL_swap 23 = .ok (.iconst 4, 1) := by decide +kernel
theorem dL_swap_24 : decode cL_swap 24 = .ok (.iload_n 2, 1) := by decide +kernel
theorem dL_swap_25 : decode cL_swap 25 = .ok (.imul, 1) := by decide +kernel
theorem dL_swap_26 : decode cL_swap 26 = .ok (.iload_n 3, 1) := by decide +kernel
theorem dL_swap_27 : decode cL_swap 27 = .ok (.iadd, 1) := by decide +kernel
theorem dL_swap_28 : decode cL_swap 28 = .ok (.iaload, 1) := by decide +kernel
theorem dL_swap_29 : decode cL_swap 29 = .ok (.iastore, 1) := by decide +kernel
theorem dL_swap_30 : decode cL_swap 30 = .ok (.aload_n 0, 1) := by decide +kernel
theorem dL_swap_31 : decode cL_swap 31 = .ok (.iconst 4, 1) := by decide +kernel
theorem dL_swap_32 : decode cL_swap 32 = .ok (.iload_n 2, 1) := by decide +kernel
theorem dL_swap_33 : decode cL_swap 33 = .ok (.imul, 1) := by decide +kernel
theorem dL_swap_34 : decode cL_swap 34 = .ok (.iload_n 3, 1) := by decide +kernel
theorem dL_swap_35 : decode cL_swap 35 = .ok (.iadd, 1) := by decide +kernel
theorem dL_swap_36 : decode cL_swap 36 = .ok (.iload 4, 2) := by decide +kernel
theorem dL_swap_38 : decode cL_swap 38 = .ok (.iastore, 1) := by decide +kernel
theorem dL_swap_39 : decode cL_swap 39 = .ok (.iinc 3 1, 3) := by decide +kernel
theorem dL_swap_42 : decode cL_swap 42 = .ok (.goto (-40), 3) := by decide +kernel
theorem dL_swap_45 : decode cL_swap 45 = .ok (.return_, 1) := by decide +kernel
theorem dL_packed_0 : decode cL_packed 0 = .ok (.iconst 0, 1) := by decide +kernel
theorem dL_packed_1 : decode cL_packed 1 = .ok (.istore_n 3, 1) := by decide +kernel
theorem dL_packed_2 : decode cL_packed 2 = .ok (.iload_n 3, 1) := by decide +kernel
theorem dL_packed_3 : decode cL_packed 3 = .ok (.iload_n 1, 1) := by decide +kernel
theorem dL_packed_4 : decode cL_packed 4 = .ok (.if_icmp .ge 49, 3) := by decide +kernel
theorem dL_packed_7 : decode cL_packed 7 = .ok (.iconst 0, 1) := by decide +kernel
theorem dL_packed_8 : decode cL_packed 8 = .ok (.istore 4, 2) := by decide +kernel
theorem dL_packed_10 : decode cL_packed 10 = .ok (.iload 4, 2) := by decide +kernel
theorem dL_packed_12 : decode cL_packed 12 = .ok (.iconst 1, 1) := by decide +kernel
theorem dL_packed_13 : decode cL_packed 13 = .ok (.iadd, 1) := by decide +kernel
theorem dL_packed_14 : decode cL_packed 14 = .ok (.iload_n 1, 1) := by decide +kernel
theorem dL_packed_15 : decode cL_packed 15 = .ok (.if_icmp .ge 32, 3) := by decide +kernel
theorem dL_packed_18 : decode cL_packed 18 = .ok (.aload_n 0, 1) := by decide +kernel
theorem dL_packed_19 : decode cL_packed 19 = .ok (.iload 4, 2) := by decide +kernel
theorem dL_packed_21 : decode cL_packed 21 = .ok (.iload 4, 2) := by decide +kernel
theorem dL_packed_23 : decode cL_packed 23 = .ok (.iconst 1, 1) := by decide +kernel
theorem dL_packed_24 : decode cL_packed 24 = .ok (.iadd, 1) := by decide +kernel
theorem dL_packed_25 : decode cL_packed 25 = .ok (.invokestatic 10, 3) := by decide +kernel
theorem dL_packed_28 : decode cL_packed 28 = .ok (.ifCond .eq 13, 3) := by decide +kernel
theorem dL_packed_31 : decode cL_packed 31 = .ok (.aload_n 0, 1) := by decide +kernel
theorem dL_packed_32 : decode cL_packed 32 = .ok (.iload 4, 2) := by decide +kernel
theorem dL_packed_34 : decode cL_packed 34 = .ok (.iload 4, 2) := by decide +kernel
theorem dL_packed_36 : decode cL_packed 36 = .ok (.iconst 1, 1) := by decide +kernel
theorem dL_packed_37 : decode cL_packed 37 = .ok (.iadd, 1) := by decide +kernel
theorem dL_packed_38 : decode cL_packed 38 = .ok (.invokestatic 16, 3) := by decide +kernel
theorem dL_packed_41 : decode cL_packed 41 = .ok (.iinc 4 1, 3) := by decide +kernel
theorem dL_packed_44 : decode cL_packed 44 = .ok (.goto (-34), 3) := by decide +kernel
theorem dL_packed_47 : decode cL_packed 47 = .ok (.iinc 3 1, 3) := by decide +kernel
theorem dL_packed_50 : decode cL_packed 50 = .ok (.goto (-48), 3) := by decide +kernel
theorem dL_packed_53 : decode cL_packed 53 = .ok (.iconst 0, 1) := by decide +kernel
theorem dL_packed_54 : decode cL_packed 54 = .ok (.istore_n 3, 1) := by decide +kernel
theorem dL_packed_55 : decode cL_packed 55 = .ok (.iconst 0, 1) := by decide +kernel
theorem dL_packed_56 : decode cL_packed 56 = .ok (.istore 4, 2) := by decide +kernel
theorem dL_packed_58 : decode cL_packed 58 = .ok (.iload 4, 2) := by decide +kernel
theorem dL_packed_60 : decode cL_packed 60 = .ok (.iload_n 1, 1) := by decide +kernel
theorem dL_packed_61 : decode cL_packed 61 = .ok (.if_icmp .ge 18, 3) := by decide +kernel
theorem dL_packed_64 : decode cL_packed 64 = .ok (.iload_n 3, 1) := by decide +kernel
theorem dL_packed_65 : decode cL_packed 65 = .ok (.aload_n 0, 1) := by decide +kernel
theorem dL_packed_66 : decode cL_packed 66 = .ok (.iconst 4, 1) := by decide +kernel
theorem dL_packed_67 : decode cL_packed 67 = .ok (.iload 4, 2) := by decide +kernel
theorem dL_packed_69 : decode cL_packed 69 = .ok (.imul, 1) := by decide +kernel
theorem dL_packed_70 : decode cL_packed 70 = .ok (.iaload, 1) := by decide +kernel
theorem dL_packed_71 : decode cL_packed 71 = .ok (.iadd, 1) := by decide +kernel
theorem dL_packed_72 : decode cL_packed 72 = .ok (.istore_n 3, 1) := by decide +kernel
theorem dL_packed_73 : decode cL_packed 73 = .ok (.iinc 4 1, 3) := by decide +kernel
theorem dL_packed_76 : decode cL_packed 76 = .ok (.goto (-18), 3) := by decide +kernel
theorem dL_packed_79 : decode cL_packed 79 = .ok (.iload_n 1, 1) := by decide +kernel
theorem dL_packed_80 : decode cL_packed 80 = .ok (.istore 4, 2) := by decide +kernel
theorem dL_packed_82 : decode cL_packed 82 = .ok (.iconst 0, 1) := by decide +kernel
theorem dL_packed_83 : decode cL_packed 83 = .ok (.istore 5, 2) := by decide +kernel
theorem dL_packed_85 : decode cL_packed 85 = .ok (.iconst 0, 1) := by decide +kernel
theorem dL_packed_86 : decode cL_packed 86 = .ok (.istore 6, 2) := by decide +kernel
theorem dL_packed_88 : decode cL_packed 88 = .ok (.iload 5, 2) := by decide +kernel
theorem dL_packed_90 : decode cL_packed 90 = .ok (.iconst 1, 1) := by decide +kernel
theorem dL_packed_91 : decode cL_packed 91 = .ok (.iadd, 1) := by decide +kernel
theorem dL_packed_92 : decode cL_packed 92 = .ok (.iload 4, 2) := by decide +kernel
theorem dL_packed_94 : decode cL_packed 94 = .ok (.if_icmp .ge 199, 3) := by decide +kernel
theorem dL_packed_97 : decode cL_packed 97 = .ok (.iconst 4, 1) := by decide +kernel
theorem dL_packed_98 : decode cL_packed 98 = .ok (.iload 5, 2) := by decide +kernel
theorem dL_packed_100 : decode cL_packed 100 = .ok (.imul, 1) := by decide +kernel
theorem dL_packed_101 : decode cL_packed 101 = .ok (.istore 7, 2) := by decide +kernel
theorem dL_packed_103 : decode cL_packed 103 = .ok (.iload 7, 2) := by decide +kernel
theorem dL_packed_105 : decode cL_packed 105 = .ok (.iconst 4, 1) := by decide +kernel
theorem dL_packed_106 : decode cL_packed 106 = .ok (.iadd, 1) := by decide +kernel
theorem dL_packed_107 : decode cL_packed 107 = .ok (.istore 8, 2) := by decide +kernel
theorem dL_packed_109 : decode cL_packed 109 = .ok (.aload_n 0, 1) := by decide +kernel
theorem dL_packed_110 : decode cL_packed 110 = .ok (.iload 7, 2) := by decide +kernel
theorem dL_packed_112 : decode cL_packed 112 = .ok (.iaload, 1) := by decide +kernel
theorem dL_packed_113 : decode cL_packed 113 = .ok (.aload_n 0, 1) := by decide +kernel
theorem dL_packed_114 : decode cL_packed 114 = .ok (.iload 8, 2) := by decide +kernel
theorem dL_packed_116 : decode cL_packed 116 = .ok (.iaload, 1) := by decide +kernel
theorem dL_packed_117 : decode cL_packed 117 = .ok (.iadd, 1) := by decide +kernel
theorem dL_packed_118 : decode cL_packed 118 = .ok (.istore 9, 2) := by decide +kernel
theorem dL_packed_120 : decode cL_packed 120 = .ok (.iload 9, 2) := by decide +kernel
theorem dL_packed_122 : decode cL_packed 122 = .ok (.iload_n 3, 1) := by decide +kernel
theorem dL_packed_123 : decode cL_packed 123 = .ok (.imul, 1) := by decide +kernel
theorem dL_packed_124 : decode cL_packed 124 = .ok (.iload_n 2, 1) := by decide +kernel
theorem dL_packed_125 : decode cL_packed 125 = .ok (.imul, 1) := by decide +kernel
theorem dL_packed_126 : decode cL_packed 126 = .ok (.iconst 2, 1) := by decide +kernel
theorem dL_packed_127 : decode cL_packed 127 = .ok (.iload 6, 2) := by decide +kernel
theorem dL_packed_129 : decode cL_packed 129 = .ok (.imul, 1) := by decide +kernel
theorem dL_packed_130 : decode cL_packed 130 = .ok (.iload 9, 2) := by decide +kernel
theorem dL_packed_132 : decode cL_packed 132 = .ok (.iadd, 1) := by decide +kernel
theorem dL_packed_133 : decode cL_packed 133 = .ok (.iconst 2, 1) := by decide +kernel
theorem dL_packed_134 : decode cL_packed 134 = .ok (.iload_n 3, 1) := by decide +kernel
theorem dL_packed_135 : decode cL_packed 135 = .ok (.imul, 1) := by decide +kernel
theorem dL_packed_136 : decode cL_packed 136 = .ok (.iconst 2, 1) := by decide +kernel
theorem dL_packed_137 : decode cL_packed 137 = .ok (.iload 6, 2) := by decide +kernel
theorem dL_packed_139 : decode cL_packed 139 = .ok (.imul, 1) := by decide +kernel
theorem dL_packed_140 : decode cL_packed 140 = .ok (.isub, 1) := by decide +kernel
theorem dL_packed_141 : decode cL_packed 141 = .ok (.iload 9, 2) := by decide +kernel
theorem dL_packed_143 : decode cL_packed 143 = .ok (.isub, 1) := by decide +kernel
theorem dL_packed_144 : decode cL_packed 144 = .ok (.imul, 1) := by decide +kernel
theorem dL_packed_145 : decode cL_packed 145 = .ok (.if_icmp .le 18, 3) := by decide +kernel
theorem dL_packed_148 : decode cL_packed 148 = .ok (.iload 6, 2) := by decide +kernel
theorem dL_packed_150 : decode cL_packed 150 = .ok (.aload_n 0, 1) := by decide +kernel
theorem dL_packed_151 : decode cL_packed 151 = .ok (.iload 7, 2) := by decide +kernel
theorem dL_packed_153 : decode cL_packed 153 = .ok (.iaload, 1) := by decide +kernel
theorem dL_packed_154 : decode cL_packed 154 = .ok (.iadd, 1) := by decide +kernel
theorem dL_packed_155 : decode cL_packed 155 = .ok (.istore 6, 2) := by decide +kernel
theorem dL_packed_157 : decode cL_packed 157 = .ok (.iinc 5 1, 3) := by decide +kernel
theorem dL_packed_160 : decode cL_packed 160 = .ok (.goto (-72), 3) := by decide +kernel
theorem dL_packed_163 : decode cL_packed 163 = .ok (.aload_n 0, 1) := by decide +kernel
theorem dL_packed_164 : decode cL_packed 164 = .ok (.iload 7, 2) := by decide +kernel
theorem dL_packed_166 : decode cL_packed 166 = .ok (.iload 9, 2) := by decide +kernel
theorem dL_packed_168 : decode cL_packed 168 = .ok (.iastore, 1) := by decide +kernel
theorem dL_packed_169 : decode cL_packed 169 = .ok (.aload_n 0, 1) := by decide +kernel
theorem dL_packed_170 : decode cL_packed 170 = .ok (.iload 7, 2) := by decide +kernel
theorem dL_packed_172 : decode cL_packed 172 = .ok (.iconst 1, 1) := by decide +kernel
theorem dL_packed_173 : decode cL_packed 173 = .ok (.iadd, 1) := by decide +kernel
theorem dL_packed_174 : decode cL_packed 174 = .ok (.dup2, 1) := by decide +kernel
theorem dL_packed_175 : decode cL_packed 175 = .ok (.iaload, 1) := by decide +kernel
theorem dL_packed_176 : decode cL_packed 176 = .ok (.aload_n 0, 1) := by decide +kernel
theorem dL_packed_177 : decode cL_packed 177 = .ok (.iload 8, 2) := by decide +kernel
theorem dL_packed_179 : decode cL_packed 179 = .ok (.iconst 1, 1) := by decide +kernel
theorem dL_packed_180 : decode cL_packed 180 = .ok (.iadd, 1) := by decide +kernel
theorem dL_packed_181 : decode cL_packed 181 = .ok (.iaload, 1) := by decide +kernel
theorem dL_packed_182 : decode cL_packed 182 = .ok (.iadd, 1) := by decide +kernel
theorem dL_packed_183 : decode cL_packed 183 = .ok (.iastore, 1) := by decide +kernel
theorem dL_packed_184 : decode cL_packed 184 = .ok (.aload_n 0, 1) := by decide +kernel
theorem dL_packed_185 : decode cL_packed 185 = .ok (.iload 7, 2) := by decide +kernel
theorem dL_packed_187 : decode cL_packed 187 = .ok (.iconst 2, 1) := by decide +kernel
theorem dL_packed_188 : decode cL_packed 188 = .ok (.iadd, 1) := by decide +kernel
theorem dL_packed_189 : decode cL_packed 189 = .ok (.aload_n 0, 1) := by decide +kernel
theorem dL_packed_190 : decode cL_packed 190 = .ok (.iload 8, 2) := by decide +kernel
theorem dL_packed_192 : decode cL_packed 192 = .ok (.iconst 2, 1) := by decide +kernel
theorem dL_packed_193 : decode cL_packed 193 = .ok (.iadd, 1) := by decide +kernel
theorem dL_packed_194 : decode cL_packed 194 = .ok (.iaload, 1) := by decide +kernel
theorem dL_packed_195 : decode cL_packed 195 = .ok (.aload_n 0, 1) := by decide +kernel
theorem dL_packed_196 : decode cL_packed 196 = .ok (.iload 7, 2) := by decide +kernel
theorem dL_packed_198 : decode cL_packed 198 = .ok (.iconst 2, 1) := by decide +kernel
theorem dL_packed_199 : decode cL_packed 199 = .ok (.iadd, 1) := by decide +kernel
theorem dL_packed_200 : decode cL_packed 200 = .ok (.iaload, 1) := by decide +kernel
theorem dL_packed_201 : decode cL_packed 201 = .ok (.if_icmp .ge 12, 3) := by decide +kernel
theorem dL_packed_204 : decode cL_packed 204 = .ok (.aload_n 0, 1) := by decide +kernel
theorem dL_packed_205 : decode cL_packed 205 = .ok (.iload 8, 2) := by decide +kernel
theorem dL_packed_207 : decode cL_packed 207 = .ok (.iconst 2, 1) := by decide +kernel
theorem dL_packed_208 : decode cL_packed 208 = .ok (.iadd, 1) := by decide +kernel
theorem dL_packed_209 : decode cL_packed 209 = .ok (.iaload, 1) := by decide +kernel
theorem dL_packed_210 : decode cL_packed 210 = .ok (.goto 9, 3) := by decide +kernel
theorem dL_packed_213 : decode cL_packed 213 = .ok (.aload_n 0, 1) := by decide +kernel
theorem dL_packed_214 : decode cL_packed 214 = .ok (.iload 7, 2) := by decide +kernel
theorem dL_packed_216 : decode cL_packed 216 = .ok (.iconst 2, 1) := by decide +kernel
theorem dL_packed_217 : decode cL_packed 217 = .ok (.iadd, 1) := by decide +kernel
theorem dL_packed_218 : decode cL_packed 218 = .ok (.iaload, 1) := by decide +kernel
