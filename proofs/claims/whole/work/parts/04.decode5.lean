theorem dX8_digestOf_100 : decode cX8_digestOf 100 = .ok (.ldc 116, 2) := by decide +kernel
theorem dX8_digestOf_102 : decode cX8_digestOf 102 = .ok (.goto 9, 3) := by decide +kernel
theorem dX8_digestOf_105 : decode cX8_digestOf 105 = .ok (.aload_n 0, 1) := by decide +kernel
theorem dX8_digestOf_106 : decode cX8_digestOf 106 = .ok (.getfield 31, 3) := by decide +kernel
theorem dX8_digestOf_109 : decode cX8_digestOf 109 = .ok (.iconst 0, 1) := by decide +kernel
theorem dX8_digestOf_110 : decode cX8_digestOf 110 = .ok (.iaload, 1) := by decide +kernel
theorem dX8_digestOf_111 : decode cX8_digestOf 111 = .ok (.ireturn, 1) := by decide +kernel
theorem dX8_digestOf_112 : decode cX8_digestOf 112 = .ok (.iload_n 3, 1) := by decide +kernel
theorem dX8_digestOf_113 : decode cX8_digestOf 113 = .ok (.ifCond .ne 8, 3) := by decide +kernel
theorem dX8_digestOf_116 : decode cX8_digestOf 116 = .ok (.ldc 116, 2) := by decide +kernel
theorem dX8_digestOf_118 : decode cX8_digestOf 118 = .ok (.goto 11, 3) := by decide +kernel
theorem dX8_digestOf_121 : decode cX8_digestOf 121 = .ok (.aload_n 0, 1) := by decide +kernel
theorem dX8_digestOf_122 : decode cX8_digestOf 122 = .ok (.getfield 31, 3) := by decide +kernel
theorem dX8_digestOf_125 : decode cX8_digestOf 125 = .ok (.iload_n 3, 1) := by decide +kernel
theorem dX8_digestOf_126 : decode cX8_digestOf 126 = .ok (.iconst 1, 1) := by decide +kernel
theorem dX8_digestOf_127 : decode cX8_digestOf 127 = .ok (.isub, 1) := by decide +kernel
theorem dX8_digestOf_128 : decode cX8_digestOf 128 = .ok (.iaload, 1) := by decide +kernel
theorem dX8_digestOf_129 : decode cX8_digestOf 129 = .ok (.ireturn, 1) := by decide +kernel
theorem dX8_digestOf_130 : decode cX8_digestOf 130 = .ok (.aload_n 0, 1) := by decide +kernel
theorem dX8_digestOf_131 : decode cX8_digestOf 131 = .ok (.iload_n 1, 1) := by decide +kernel
theorem dX8_digestOf_132 : decode cX8_digestOf 132 = .ok (.invokevirtual 126, 3) := by decide +kernel
theorem dX8_digestOf_135 : decode cX8_digestOf 135 = .ok (.ireturn, 1) := by decide +kernel
theorem dX8_digestOf_136 : decode cX8_digestOf 136 = .ok (.aload_n 0, 1) := by decide +kernel
theorem dX8_digestOf_137 : decode cX8_digestOf 137 = .ok (.iload_n 1, 1) := by decide +kernel
theorem dX8_digestOf_138 : decode cX8_digestOf 138 = .ok (.invokevirtual 85, 3) := by decide +kernel
theorem dX8_digestOf_141 : decode cX8_digestOf 141 = .ok (.aload_n 0, 1) := by decide +kernel
theorem dX8_digestOf_142 : decode cX8_digestOf 142 = .ok (.getfield 53, 3) := by decide +kernel
theorem dX8_digestOf_145 : decode cX8_digestOf 145 = .ok (.ireturn, 1) := by decide +kernel
theorem dX8_digestOf_146 : decode cX8_digestOf 146 = .ok (.aload_n 0, 1) := by decide +kernel
theorem dX8_digestOf_147 : decode cX8_digestOf 147 = .ok (.iload_n 1, 1) := by decide +kernel
theorem dX8_digestOf_148 : decode cX8_digestOf 148 = .ok (.invokevirtual 129, 3) := by decide +kernel
theorem dX8_digestOf_151 : decode cX8_digestOf 151 = .ok (.ireturn, 1) := by decide +kernel
theorem dX8_digestOf_152 : decode cX8_digestOf 152 = .ok (.aload_n 0, 1) := by decide +kernel
theorem dX8_digestOf_153 : decode cX8_digestOf 153 = .ok (.iload_n 1, 1) := by decide +kernel
theorem dX8_digestOf_154 : decode cX8_digestOf 154 = .ok (.iconst 3, 1) := by decide +kernel
theorem dX8_digestOf_155 : decode cX8_digestOf 155 = .ok (.invokevirtual 49, 3) := by decide +kernel
theorem dX8_digestOf_158 : decode cX8_digestOf 158 = .ok (.ireturn, 1) := by decide +kernel
theorem dX8_quantileBy_0 : decode cX8_quantileBy 0 = .ok (.ldc2_w 113, 3) := by decide +kernel
theorem dX8_quantileBy_3 : decode cX8_quantileBy 3 = .ok (.iload_n 2, 1) := by decide +kernel
theorem dX8_quantileBy_4 : decode cX8_quantileBy 4 = .ok (.i2l, 1) := by decide +kernel
theorem dX8_quantileBy_5 : decode cX8_quantileBy 5 = .ok (.lmul, 1) := by decide +kernel
theorem dX8_quantileBy_6 : decode cX8_quantileBy 6 = .ok (.iload_n 1, 1) := by decide +kernel
theorem dX8_quantileBy_7 : decode cX8_quantileBy 7 = .ok (.i2l, 1) := by decide +kernel
theorem dX8_quantileBy_8 : decode cX8_quantileBy 8 = .ok (.lmul, 1) := by decide +kernel
theorem dX8_quantileBy_9 : decode cX8_quantileBy 9 = .ok (.lstore_n 3, 1) := by decide +kernel
theorem dX8_quantileBy_10 : decode cX8_quantileBy 10 = .ok (.ldc2_w 132, 3) := by decide +kernel
theorem dX8_quantileBy_13 : decode cX8_quantileBy 13 = .ok (.aload_n 0, 1) := by decide +kernel
theorem dX8_quantileBy_14 : decode cX8_quantileBy 14 = .ok (.getfield 19, 3) := by decide +kernel
theorem dX8_quantileBy_17 : decode cX8_quantileBy 17 = .ok (.iconst 0, 1) := by decide +kernel
theorem dX8_quantileBy_18 : decode cX8_quantileBy 18 = .ok (.iaload, 1) := by decide +kernel
theorem dX8_quantileBy_19 : decode cX8_quantileBy 19 = .ok (.i2l, 1) := by decide +kernel
theorem dX8_quantileBy_20 : decode cX8_quantileBy 20 = .ok (.lmul, 1) := by decide +kernel
theorem dX8_quantileBy_21 : decode cX8_quantileBy 21 = .ok (.lstore 5, 2) := by decide +kernel
theorem dX8_quantileBy_23 : decode cX8_quantileBy 23 = .ok (.lload_n 3, 1) := by decide +kernel
theorem dX8_quantileBy_24 : decode cX8_quantileBy 24 = .ok (.lload 5, 2) := by decide +kernel
theorem dX8_quantileBy_26 : decode cX8_quantileBy 26 = .ok (.lcmp, 1) := by decide +kernel
theorem dX8_quantileBy_27 : decode cX8_quantileBy 27 = .ok (.ifCond .gt 50, 3) := by decide +kernel
theorem dX8_quantileBy_30 : decode cX8_quantileBy 30 = .ok (.aload_n 0, 1) := by decide +kernel
theorem dX8_quantileBy_31 : decode cX8_quantileBy 31 = .ok (.getfield 22, 3) := by decide +kernel
theorem dX8_quantileBy_34 : decode cX8_quantileBy 34 = .ok (.iconst 0, 1) := by decide +kernel
theorem dX8_quantileBy_35 : decode cX8_quantileBy 35 = .ok (.iaload, 1) := by decide +kernel
theorem dX8_quantileBy_36 : decode cX8_quantileBy 36 = .ok (.aload_n 0, 1) := by decide +kernel
theorem dX8_quantileBy_37 : decode cX8_quantileBy 37 = .ok (.getfield 31, 3) := by decide +kernel
theorem dX8_quantileBy_40 : decode cX8_quantileBy 40 = .ok (.iconst 0, 1) := by decide +kernel
theorem dX8_quantileBy_41 : decode cX8_quantileBy 41 = .ok (.iaload, 1) := by decide +kernel
theorem dX8_quantileBy_42 : decode cX8_quantileBy 42 = .ok (.aload_n 0, 1) := by decide +kernel
theorem dX8_quantileBy_43 : decode cX8_quantileBy 43 = .ok (.getfield 19, 3) := by decide +kernel
theorem dX8_quantileBy_46 : decode cX8_quantileBy 46 = .ok (.iconst 0, 1) := by decide +kernel
theorem dX8_quantileBy_47 : decode cX8_quantileBy 47 = .ok (.iaload, 1) := by decide +kernel
theorem dX8_quantileBy_48 : decode cX8_quantileBy 48 = .ok (.imul, 1) := by decide +kernel
theorem dX8_quantileBy_49 : decode cX8_quantileBy 49 = .ok (.isub, 1) := by decide +kernel
theorem dX8_quantileBy_50 : decode cX8_quantileBy 50 = .ok (.i2l, 1) := by decide +kernel
theorem dX8_quantileBy_51 : decode cX8_quantileBy 51 = .ok (.lload_n 3, 1) := by decide +kernel
theorem dX8_quantileBy_52 : decode cX8_quantileBy 52 = .ok (.lmul, 1) := by decide +kernel
theorem dX8_quantileBy_53 : decode cX8_quantileBy 53 = .ok (.lstore 7, 2) := by decide +kernel
theorem dX8_quantileBy_55 : decode cX8_quantileBy 55 = .ok (.aload_n 0, 1) := by decide +kernel
theorem dX8_quantileBy_56 : decode cX8_quantileBy 56 = .ok (.getfield 31, 3) := by decide +kernel
theorem dX8_quantileBy_59 : decode cX8_quantileBy 59 = .ok (.iconst 0, 1) := by decide +kernel
theorem dX8_quantileBy_60 : decode cX8_quantileBy 60 = .ok (.iaload, 1) := by decide +kernel
theorem dX8_quantileBy_61 : decode cX8_quantileBy 61 = .ok (.lload 7, 2) := by decide +kernel
theorem dX8_quantileBy_63 : decode cX8_quantileBy 63 = .ok (.aload_n 0, 1) := by decide +kernel
theorem dX8_quantileBy_64 : decode cX8_quantileBy 64 = .ok (.getfield 19, 3) := by decide +kernel
theorem dX8_quantileBy_67 : decode cX8_quantileBy 67 = .ok (.iconst 0, 1) := by decide +kernel
theorem dX8_quantileBy_68 : decode cX8_quantileBy 68 = .ok (.iaload, 1) := by decide +kernel
theorem dX8_quantileBy_69 : decode cX8_quantileBy 69 = .ok (.i2l, 1) := by decide +kernel
theorem dX8_quantileBy_70 : decode cX8_quantileBy 70 = .ok (.lload 5, 2) := by decide +kernel
theorem dX8_quantileBy_72 : decode cX8_quantileBy 72 = .ok (.lmul, 1) := by decide +kernel
theorem dX8_quantileBy_73 : decode cX8_quantileBy 73 = .ok (.ldiv, 1) := by decide +kernel
theorem dX8_quantileBy_74 : decode cX8_quantileBy 74 = .ok (.l2i, 1) := by decide +kernel
theorem dX8_quantileBy_75 : decode cX8_quantileBy 75 = .ok (.iadd, 1) := by decide +kernel
theorem dX8_quantileBy_76 : decode cX8_quantileBy 76 = .ok (.ireturn, 1) := by decide +kernel
theorem dX8_quantileBy_77 : decode cX8_quantileBy 77 = .ok (.aload_n 0, 1) := by decide +kernel
theorem dX8_quantileBy_78 : decode cX8_quantileBy 78 = .ok (.getfield 53, 3) := by decide +kernel
theorem dX8_quantileBy_81 : decode cX8_quantileBy 81 = .ok (.iconst 1, 1) := by decide +kernel
theorem dX8_quantileBy_82 : decode cX8_quantileBy 82 = .ok (.isub, 1) := by decide +kernel
theorem dX8_quantileBy_83 : decode cX8_quantileBy 83 = .ok (.istore 7, 2) := by decide +kernel
theorem dX8_quantileBy_85 : decode cX8_quantileBy 85 = .ok (.ldc2_w 132, 3) := by decide +kernel
theorem dX8_quantileBy_88 : decode cX8_quantileBy 88 = .ok (.iconst 2, 1) := by decide +kernel
theorem dX8_quantileBy_89 : decode cX8_quantileBy 89 = .ok (.iload_n 1, 1) := by decide +kernel
theorem dX8_quantileBy_90 : decode cX8_quantileBy 90 = .ok (.imul, 1) := by decide +kernel
theorem dX8_quantileBy_91 : decode cX8_quantileBy 91 = .ok (.aload_n 0, 1) := by decide +kernel
theorem dX8_quantileBy_92 : decode cX8_quantileBy 92 = .ok (.getfield 19, 3) := by decide +kernel
theorem dX8_quantileBy_95 : decode cX8_quantileBy 95 = .ok (.iload 7, 2) := by decide +kernel
theorem dX8_quantileBy_97 : decode cX8_quantileBy 97 = .ok (.iaload, 1) := by decide +kernel
theorem dX8_quantileBy_98 : decode cX8_quantileBy 98 = .ok (.isub, 1) := by decide +kernel
theorem dX8_quantileBy_99 : decode cX8_quantileBy 99 = .ok (.i2l, 1) := by decide +kernel
theorem dX8_quantileBy_100 : decode cX8_quantileBy 100 = .ok (.lmul, 1) := by decide +kernel
theorem dX8_quantileBy_101 : decode cX8_quantileBy 101 = .ok (.lstore 8, 2) := by decide +kernel
theorem dX8_quantileBy_103 : decode cX8_quantileBy 103 = .ok (.lload_n 3, 1) := by decide +kernel
theorem dX8_quantileBy_104 : decode cX8_quantileBy 104 = .ok (.lload 8, 2) := by decide +kernel
theorem dX8_quantileBy_106 : decode cX8_quantileBy 106 = .ok (.lcmp, 1) := by decide +kernel
theorem dX8_quantileBy_107 : decode cX8_quantileBy 107 = .ok (.ifCond .lt 74, 3) := by decide +kernel
theorem dX8_quantileBy_110 : decode cX8_quantileBy 110 = .ok (.ldc2_w 134, 3) := by decide +kernel
theorem dX8_quantileBy_113 : decode cX8_quantileBy 113 = .ok (.iload_n 1, 1) := by decide +kernel
theorem dX8_quantileBy_114 : decode cX8_quantileBy 114 = .ok (.i2l, 1) := by decide +kernel
theorem dX8_quantileBy_115 : decode cX8_quantileBy 115 = .ok (.lmul, 1) := by decide +kernel
theorem dX8_quantileBy_116 : decode cX8_quantileBy 116 = .ok (.lload 8, 2) := by decide +kernel
theorem dX8_quantileBy_118 : decode cX8_quantileBy 118 = .ok (.lsub, 1) := by decide +kernel
theorem dX8_quantileBy_119 : decode cX8_quantileBy 119 = .ok (.lstore 10, 2) := by decide +kernel
theorem dX8_quantileBy_121 : decode cX8_quantileBy 121 = .ok (.aload_n 0, 1) := by decide +kernel
theorem dX8_quantileBy_122 : decode cX8_quantileBy 122 = .ok (.getfield 22, 3) := by decide +kernel
theorem dX8_quantileBy_125 : decode cX8_quantileBy 125 = .ok (.iload 7, 2) := by decide +kernel
theorem dX8_quantileBy_127 : decode cX8_quantileBy 127 = .ok (.iaload, 1) := by decide +kernel
theorem dX8_quantileBy_128 : decode cX8_quantileBy 128 = .ok (.i2l, 1) := by decide +kernel
theorem dX8_quantileBy_129 : decode cX8_quantileBy 129 = .ok (.lload 10, 2) := by decide +kernel
theorem dX8_quantileBy_131 : decode cX8_quantileBy 131 = .ok (.lmul, 1) := by decide +kernel
theorem dX8_quantileBy_132 : decode cX8_quantileBy 132 = .ok (.aload_n 0, 1) := by decide +kernel
theorem dX8_quantileBy_133 : decode cX8_quantileBy 133 = .ok (.getfield 31, 3) := by decide +kernel
theorem dX8_quantileBy_136 : decode cX8_quantileBy 136 = .ok (.iload_n 1, 1) := by decide +kernel
theorem dX8_quantileBy_137 : decode cX8_quantileBy 137 = .ok (.iconst 1, 1) := by decide +kernel
theorem dX8_quantileBy_138 : decode cX8_quantileBy 138 = .ok (.isub, 1) := by decide +kernel
theorem dX8_quantileBy_139 : decode cX8_quantileBy 139 = .ok (.iaload, 1) := by decide +kernel
theorem dX8_quantileBy_140 : decode cX8_quantileBy 140 = .ok (.aload_n 0, 1) := by decide +kernel
theorem dX8_quantileBy_141 : decode cX8_quantileBy 141 = .ok (.getfield 19, 3) := by decide +kernel
theorem dX8_quantileBy_144 : decode cX8_quantileBy 144 = .ok (.iload 7, 2) := by decide +kernel
theorem dX8_quantileBy_146 : decode cX8_quantileBy 146 = .ok (.iaload, 1) := by decide +kernel
theorem dX8_quantileBy_147 : decode cX8_quantileBy 147 = .ok (.imul, 1) := by decide +kernel
theorem dX8_quantileBy_148 : decode cX8_quantileBy 148 = .ok (.aload_n 0, 1) := by decide +kernel
theorem dX8_quantileBy_149 : decode cX8_quantileBy 149 = .ok (.getfield 22, 3) := by decide +kernel
theorem dX8_quantileBy_152 : decode cX8_quantileBy 152 = .ok (.iload 7, 2) := by decide +kernel
theorem dX8_quantileBy_154 : decode cX8_quantileBy 154 = .ok (.iaload, 1) := by decide +kernel
theorem dX8_quantileBy_155 : decode cX8_quantileBy 155 = .ok (.isub, 1) := by decide +kernel
theorem dX8_quantileBy_156 : decode cX8_quantileBy 156 = .ok (.i2l, 1) := by decide +kernel
theorem dX8_quantileBy_157 : decode cX8_quantileBy 157 = .ok (.lload_n 3, 1) := by decide +kernel
theorem dX8_quantileBy_158 : decode cX8_quantileBy 158 = .ok (.lload 8, 2) := by decide +kernel
theorem dX8_quantileBy_160 : decode cX8_quantileBy 160 = .ok (.lsub, 1) := by decide +kernel
theorem dX8_quantileBy_161 : decode cX8_quantileBy 161 = .ok (.lmul, 1) := by decide +kernel
theorem dX8_quantileBy_162 : decode cX8_quantileBy 162 = .ok (.ladd, 1) := by decide +kernel
theorem dX8_quantileBy_163 : decode cX8_quantileBy 163 = .ok (.lstore 12, 2) := by decide +kernel
theorem dX8_quantileBy_165 : decode cX8_quantileBy 165 = .ok (.lload 12, 2) := by decide +kernel
theorem dX8_quantileBy_167 : decode cX8_quantileBy 167 = .ok (.aload_n 0, 1) := by decide +kernel
theorem dX8_quantileBy_168 : decode cX8_quantileBy 168 = .ok (.getfield 19, 3) := by decide +kernel
theorem dX8_quantileBy_171 : decode cX8_quantileBy 171 = .ok (.iload 7, 2) := by decide +kernel
theorem dX8_quantileBy_173 : decode cX8_quantileBy 173 = .ok (.iaload, 1) := by decide +kernel
theorem dX8_quantileBy_174 : decode cX8_quantileBy 174 = .ok (.i2l, 1) := by decide +kernel
theorem dX8_quantileBy_175 : decode cX8_quantileBy 175 = .ok (.lload 10, 2) := by decide +kernel
theorem dX8_quantileBy_177 : decode cX8_quantileBy 177 = .ok (.lmul, 1) := by decide +kernel
theorem dX8_quantileBy_178 : decode cX8_quantileBy 178 = .ok (.ldiv, 1) := by decide +kernel
theorem dX8_quantileBy_179 : decode cX8_quantileBy 179 = .ok (.l2i, 1) := by decide +kernel
theorem dX8_quantileBy_180 : decode cX8_quantileBy 180 = .ok (.ireturn, 1) := by decide +kernel
theorem dX8_quantileBy_181 : decode cX8_quantileBy 181 = .ok (.iconst 0, 1) := by decide +kernel
theorem dX8_quantileBy_182 : decode cX8_quantileBy 182 = .ok (.istore 10, 2) := by decide +kernel
theorem dX8_quantileBy_184 : decode cX8_quantileBy 184 = .ok (.iconst 0, 1) := by decide +kernel
theorem dX8_quantileBy_185 : decode cX8_quantileBy 185 = .ok (.istore 11, 2) := by decide +kernel
theorem dX8_quantileBy_187 : decode cX8_quantileBy 187 = .ok (.ldc2_w 132, 3) := by decide +kernel
theorem dX8_quantileBy_190 : decode cX8_quantileBy 190 = .ok (.iconst 2, 1) := by decide +kernel
theorem dX8_quantileBy_191 : decode cX8_quantileBy 191 = .ok (.iload 11, 2) := by decide +kernel
theorem dX8_quantileBy_193 : decode cX8_quantileBy 193 = .ok (.aload_n 0, 1) := by decide +kernel
theorem dX8_quantileBy_194 : decode cX8_quantileBy 194 = .ok (.getfield 19, 3) := by decide +kernel
theorem dX8_quantileBy_197 : decode cX8_quantileBy 197 = .ok (.iload 10, 2) := by decide +kernel
theorem dX8_quantileBy_199 : decode cX8_quantileBy 199 = .ok (.iaload, 1) := by decide +kernel
theorem dX8_quantileBy_200 : decode cX8_quantileBy 200 = .ok (.iadd, 1) := by decide +kernel
theorem dX8_quantileBy_201 : decode cX8_quantileBy 201 = .ok (.imul, 1) := by decide +kernel
theorem dX8_quantileBy_202 : decode cX8_quantileBy 202 = .ok (.aload_n 0, 1) := by decide +kernel
theorem dX8_quantileBy_203 : decode cX8_quantileBy 203 = .ok (.getfield 19, 3) := by decide +kernel
theorem dX8_quantileBy_206 : decode cX8_quantileBy 206 = .ok (.iload 10, 2) := by decide +kernel
theorem dX8_quantileBy_208 : decode cX8_quantileBy 208 = .ok (.iconst 1, 1) := by decide +kernel
theorem dX8_quantileBy_209 : decode cX8_quantileBy 209 = .ok (.iadd, 1) := by decide +kernel
theorem dX8_quantileBy_210 : decode cX8_quantileBy 210 = .ok (.iaload, 1) := by decide +kernel
theorem dX8_quantileBy_211 : decode cX8_quantileBy 211 = .ok (.iadd, 1) := by decide +kernel
theorem dX8_quantileBy_212 : decode cX8_quantileBy 212 = .ok (.i2l, 1) := by decide +kernel
theorem dX8_quantileBy_213 : decode cX8_quantileBy 213 = .ok (.lmul, 1) := by decide +kernel
theorem dX8_quantileBy_214 : decode cX8_quantileBy 214 = .ok (.lload_n 3, 1) := by decide +kernel
theorem dX8_quantileBy_215 : decode cX8_quantileBy 215 = .ok (.lcmp, 1) := by decide +kernel
theorem dX8_quantileBy_216 : decode cX8_quantileBy 216 = .ok (.ifCond .gt 21, 3) := by decide +kernel
theorem dX8_quantileBy_219 : decode cX8_quantileBy 219 = .ok (.iload 11, 2) := by decide +kernel
theorem dX8_quantileBy_221 : decode cX8_quantileBy 221 = .ok (.aload_n 0, 1) := by decide +kernel
theorem dX8_quantileBy_222 : decode cX8_quantileBy 222 = .ok (.getfield 19, 3) := by decide +kernel
theorem dX8_quantileBy_225 : decode cX8_quantileBy 225 = .ok (.iload 10, 2) := by decide +kernel
theorem dX8_quantileBy_227 : decode cX8_quantileBy 227 = .ok (.iaload, 1) := by decide +kernel
theorem dX8_quantileBy_228 : decode cX8_quantileBy 228 = .ok (.iadd, 1) := by decide +kernel
theorem dX8_quantileBy_229 : decode cX8_quantileBy 229 = .ok (.istore 11, 2) := by decide +kernel
theorem dX8_quantileBy_231 : decode cX8_quantileBy 231 = .ok (.iinc 10 1, 3) := by decide +kernel
theorem dX8_quantileBy_234 : decode cX8_quantileBy 234 = .ok (.goto (-47), 3) := by decide +kernel
theorem dX8_quantileBy_237 : decode cX8_quantileBy 237 = .ok (.ldc2_w 132, 3) := by decide +kernel
theorem dX8_quantileBy_240 : decode cX8_quantileBy 240 = .ok (.iconst 2, 1) := by decide +kernel
theorem dX8_quantileBy_241 : decode cX8_quantileBy 241 = .ok (.iload 11, 2) := by decide +kernel
theorem dX8_quantileBy_243 : decode cX8_quantileBy 243 = .ok (.imul, 1) := by decide +kernel
theorem dX8_quantileBy_244 : decode cX8_quantileBy 244 = .ok (.aload_n 0, 1) := by decide +kernel
theorem dX8_quantileBy_245 : decode cX8_quantileBy 245 = .ok (.getfield 19, 3) := by decide +kernel
theorem dX8_quantileBy_248 : decode cX8_quantileBy 248 = .ok (.iload 10, 2) := by decide +kernel
theorem dX8_quantileBy_250 : decode cX8_quantileBy 250 = .ok (.iaload, 1) := by decide +kernel
theorem dX8_quantileBy_251 : decode cX8_quantileBy 251 = .ok (.iadd, 1) := by decide +kernel
theorem dX8_quantileBy_252 : decode cX8_quantileBy 252 = .ok (.i2l, 1) := by decide +kernel
theorem dX8_quantileBy_253 : decode cX8_quantileBy 253 = .ok (.lmul, 1) := by decide +kernel
theorem dX8_quantileBy_254 : decode cX8_quantileBy 254 = .ok (.lstore 12, 2) := by decide +kernel
theorem dX8_quantileBy_256 : decode cX8_quantileBy 256 = .ok (.ldc2_w 132, 3) := by decide +kernel
theorem dX8_quantileBy_259 : decode cX8_quantileBy 259 = .ok (.aload_n 0, 1) := by decide +kernel
theorem dX8_quantileBy_260 : decode cX8_quantileBy 260 = .ok (.getfield 19, 3) := by decide +kernel
theorem dX8_quantileBy_263 : decode cX8_quantileBy 263 = .ok (.iload 10, 2) := by decide +kernel
theorem dX8_quantileBy_265 : decode cX8_quantileBy 265 = .ok (.iaload, 1) := by decide +kernel
theorem dX8_quantileBy_266 : decode cX8_quantileBy 266 = .ok (.aload_n 0, 1) := by decide +kernel
theorem dX8_quantileBy_267 : decode cX8_quantileBy 267 = .ok (.getfield 19, 3) := by decide +kernel
theorem dX8_quantileBy_270 : decode cX8_quantileBy 270 = .ok (.iload 10, 2) := by decide +kernel
theorem dX8_quantileBy_272 : decode cX8_quantileBy 272 = .ok (.iconst 1, 1) := by decide +kernel
theorem dX8_quantileBy_273 : decode cX8_quantileBy 273 = .ok (.iadd, 1) := by decide +kernel
theorem dX8_quantileBy_274 : decode cX8_quantileBy 274 = .ok (.iaload, 1) := by decide +kernel
theorem dX8_quantileBy_275 : decode cX8_quantileBy 275 = .ok (.iadd, 1) := by decide +kernel
theorem dX8_quantileBy_276 : decode cX8_quantileBy 276 = .ok (.i2l, 1) := by decide +kernel
theorem dX8_quantileBy_277 : decode cX8_quantileBy 277 = .ok (.lmul, 1) := by decide +kernel
theorem dX8_quantileBy_278 : decode cX8_quantileBy 278 = .ok (.lstore 14, 2) := by decide +kernel
theorem dX8_quantileBy_280 : decode cX8_quantileBy 280 = .ok (.aload_n 0, 1) := by decide +kernel
theorem dX8_quantileBy_281 : decode cX8_quantileBy 281 = .ok (.getfield 22, 3) := by decide +kernel
theorem dX8_quantileBy_284 : decode cX8_quantileBy 284 = .ok (.iload 10, 2) := by decide +kernel
theorem dX8_quantileBy_286 : decode cX8_quantileBy 286 = .ok (.iaload, 1) := by decide +kernel
theorem dX8_quantileBy_287 : decode cX8_quantileBy 287 = .ok (.i2l, 1) := by decide +kernel
theorem dX8_quantileBy_288 : decode cX8_quantileBy 288 = .ok (.aload_n 0, 1) := by decide +kernel
theorem dX8_quantileBy_289 : decode cX8_quantileBy 289 = .ok (.getfield 19, 3) := by decide +kernel
theorem dX8_quantileBy_292 : decode cX8_quantileBy 292 = .ok (.iload 10, 2) := by decide +kernel
theorem dX8_quantileBy_294 : decode cX8_quantileBy 294 = .ok (.iconst 1, 1) := by decide +kernel
theorem dX8_quantileBy_295 : decode cX8_quantileBy 295 = .ok (.iadd, 1) := by decide +kernel
theorem dX8_quantileBy_296 : decode cX8_quantileBy 296 = .ok (.iaload, 1) := by decide +kernel
theorem dX8_quantileBy_297 : decode cX8_quantileBy 297 = .ok (.i2l, 1) := by decide +kernel
theorem dX8_quantileBy_298 : decode cX8_quantileBy 298 = .ok (.lmul, 1) := by decide +kernel
theorem dX8_quantileBy_299 : decode cX8_quantileBy 299 = .ok (.lstore 16, 2) := by decide +kernel
theorem dX8_quantileBy_301 : decode cX8_quantileBy 301 = .ok (.aload_n 0, 1) := by decide +kernel
theorem dX8_quantileBy_302 : decode cX8_quantileBy 302 = .ok (.getfield 22, 3) := by decide +kernel
theorem dX8_quantileBy_305 : decode cX8_quantileBy 305 = .ok (.iload 10, 2) := by decide +kernel
theorem dX8_quantileBy_307 : decode cX8_quantileBy 307 = .ok (.iconst 1, 1) := by decide +kernel
theorem dX8_quantileBy_308 : decode cX8_quantileBy 308 = .ok (.iadd, 1) := by decide +kernel
theorem dX8_quantileBy_309 : decode cX8_quantileBy 309 = .ok (.iaload, 1) := by decide +kernel
theorem dX8_quantileBy_310 : decode cX8_quantileBy 310 = .ok (.i2l, 1) := by decide +kernel
theorem dX8_quantileBy_311 : decode cX8_quantileBy 311 = .ok (.aload_n 0, 1) := by decide +kernel
theorem dX8_quantileBy_312 : decode cX8_quantileBy 312 = .ok (.getfield 19, 3) := by decide +kernel
theorem dX8_quantileBy_315 : decode cX8_quantileBy 315 = .ok (.iload 10, 2) := by decide +kernel
theorem dX8_quantileBy_317 : decode cX8_quantileBy 317 = .ok (.iaload, 1) := by decide +kernel
theorem dX8_quantileBy_318 : decode cX8_quantileBy 318 = .ok (.i2l, 1) := by decide +kernel
theorem dX8_quantileBy_319 : decode cX8_quantileBy 319 = .ok (.lmul, 1) := by decide +kernel
theorem dX8_quantileBy_320 : decode cX8_quantileBy 320 = .ok (.lstore 18, 2) := by decide +kernel
theorem dX8_quantileBy_322 : decode cX8_quantileBy 322 = .ok (.lload 16, 2) := by decide +kernel
theorem dX8_quantileBy_324 : decode cX8_quantileBy 324 = .ok (.lload 14, 2) := by decide +kernel
theorem dX8_quantileBy_326 : decode cX8_quantileBy 326 = .ok (.lmul, 1) := by decide +kernel
theorem dX8_quantileBy_327 : decode cX8_quantileBy 327 = .ok (.lload 18, 2) := by decide +kernel
theorem dX8_quantileBy_329 : decode cX8_quantileBy 329 = .ok (.lload 16, 2) := by decide +kernel
theorem dX8_quantileBy_331 : decode cX8_quantileBy 331 = .ok (.lsub, 1) := by decide +kernel
theorem dX8_quantileBy_332 : decode cX8_quantileBy 332 = .ok (.lload_n 3, 1) := by decide +kernel
theorem dX8_quantileBy_333 : decode cX8_quantileBy 333 = .ok (.lload 12, 2) := by decide +kernel
theorem dX8_quantileBy_335 : decode cX8_quantileBy 335 = .ok (.lsub, 1) := by decide +kernel
theorem dX8_quantileBy_336 : decode cX8_quantileBy 336 = .ok (.lmul, 1) := by decide +kernel
theorem dX8_quantileBy_337 : decode cX8_quantileBy 337 = .ok (.ladd, 1) := by decide +kernel
theorem dX8_quantileBy_338 : decode cX8_quantileBy 338 = .ok (.aload_n 0, 1) := by decide +kernel
theorem dX8_quantileBy_339 : decode cX8_quantileBy 339 = .ok (.getfield 19, 3) := by decide +kernel
theorem dX8_quantileBy_342 : decode cX8_quantileBy 342 = .ok (.iload 10, 2) := by decide +kernel
theorem dX8_quantileBy_344 : decode cX8_quantileBy 344 = .ok (.iaload, 1) := by decide +kernel
theorem dX8_quantileBy_345 : decode cX8_quantileBy 345 = .ok (.i2l, 1) := by decide +kernel
theorem dX8_quantileBy_346 : decode cX8_quantileBy 346 = .ok (.aload_n 0, 1) := by decide +kernel
theorem dX8_quantileBy_347 : decode cX8_quantileBy 347 = .ok (.getfield 19, 3) := by decide +kernel
theorem dX8_quantileBy_350 : decode cX8_quantileBy 350 = .ok (.iload 10, 2) := by decide +kernel
theorem dX8_quantileBy_352 : decode cX8_quantileBy 352 = .ok (.iconst 1, 1) := by decide +kernel
theorem dX8_quantileBy_353 : decode cX8_quantileBy 353 = .ok (.iadd, 1) := by decide +kernel
theorem dX8_quantileBy_354 : decode cX8_quantileBy 354 = .ok (.iaload, 1) := by decide +kernel
theorem dX8_quantileBy_355 : decode cX8_quantileBy 355 = .ok (.i2l, 1) := by decide +kernel
theorem dX8_quantileBy_356 : decode cX8_quantileBy 356 = .ok (.lmul, 1) := by decide +kernel
theorem dX8_quantileBy_357 : decode cX8_quantileBy 357 = .ok (.lload 14, 2) := by decide +kernel
theorem dX8_quantileBy_359 : decode cX8_quantileBy 359 = .ok (.lmul, 1) := by decide +kernel
theorem dX8_quantileBy_360 : decode cX8_quantileBy 360 = .ok (.ldiv, 1) := by decide +kernel
theorem dX8_quantileBy_361 : decode cX8_quantileBy 361 = .ok (.l2i, 1) := by decide +kernel
theorem dX8_quantileBy_362 : decode cX8_quantileBy 362 = .ok (.ireturn, 1) := by decide +kernel
theorem dX8_whyNoQuantile_0 : decode cX8_whyNoQuantile 0 = .ok (.iload_n 1, 1) := by decide +kernel
theorem dX8_whyNoQuantile_1 : decode cX8_whyNoQuantile 1 = .ok (.invokestatic 97, 3) := by decide +kernel
theorem dX8_whyNoQuantile_4 : decode cX8_whyNoQuantile 4 = .ok (.ifCond .eq 12, 3) := by decide +kernel
theorem dX8_whyNoQuantile_7 : decode cX8_whyNoQuantile 7 = .ok (.iload_n 2, 1) := by decide +kernel
theorem dX8_whyNoQuantile_8 : decode cX8_whyNoQuantile 8 = .ok (.iconst 0, 1) := by decide +kernel
theorem dX8_whyNoQuantile_9 : decode cX8_whyNoQuantile 9 = .ok (.iload_n 3, 1) := by decide +kernel
theorem dX8_whyNoQuantile_10 : decode cX8_whyNoQuantile 10 = .ok (.invokestatic 45, 3) := by decide +kernel
theorem dX8_whyNoQuantile_13 : decode cX8_whyNoQuantile 13 = .ok (.ifCond .ne 8, 3) := by decide +kernel
theorem dX8_whyNoQuantile_16 : decode cX8_whyNoQuantile 16 = .ok (.ldc 101, 2) := by decide +kernel
theorem dX8_whyNoQuantile_18 : decode cX8_whyNoQuantile 18 = .ok (.goto 17, 3) := by decide +kernel
theorem dX8_whyNoQuantile_21 : decode cX8_whyNoQuantile 21 = .ok (.aload_n 0, 1) := by decide +kernel
theorem dX8_whyNoQuantile_22 : decode cX8_whyNoQuantile 22 = .ok (.iload_n 1, 1) := by decide +kernel
theorem dX8_whyNoQuantile_23 : decode cX8_whyNoQuantile 23 = .ok (.invokevirtual 102, 3) := by decide +kernel
theorem dX8_whyNoQuantile_26 : decode cX8_whyNoQuantile 26 = .ok (.ifCond .ne 8, 3) := by decide +kernel
theorem dX8_whyNoQuantile_29 : decode cX8_whyNoQuantile 29 = .ok (.ldc 136, 2) := by decide +kernel
theorem dX8_whyNoQuantile_31 : decode cX8_whyNoQuantile 31 = .ok (.goto 4, 3) := by decide +kernel
theorem dX8_whyNoQuantile_34 : decode cX8_whyNoQuantile 34 = .ok (.iconst 0, 1) := by decide +kernel
theorem dX8_whyNoQuantile_35 : decode cX8_whyNoQuantile 35 = .ok (.ireturn, 1) := by decide +kernel
theorem dX8_findAll_0 : decode cX8_findAll 0 = .ok (.aload_n 0, 1) := by decide +kernel
theorem dX8_findAll_1 : decode cX8_findAll 1 = .ok (.iload_n 1, 1) := by decide +kernel
theorem dX8_findAll_2 : decode cX8_findAll 2 = .ok (.invokevirtual 85, 3) := by decide +kernel
theorem dX8_findAll_5 : decode cX8_findAll 5 = .ok (.aload_n 0, 1) := by decide +kernel
theorem dX8_findAll_6 : decode cX8_findAll 6 = .ok (.iload_n 1, 1) := by decide +kernel
theorem dX8_findAll_7 : decode cX8_findAll 7 = .ok (.invokevirtual 123, 3) := by decide +kernel
theorem dX8_findAll_10 : decode cX8_findAll 10 = .ok (.return_, 1) := by decide +kernel
theorem dX8_truthBy_0 : decode cX8_truthBy 0 = .ok (.aload_n 0, 1) := by decide +kernel
theorem dX8_truthBy_1 : decode cX8_truthBy 1 = .ok (.getfield 31, 3) := by decide +kernel
theorem dX8_truthBy_4 : decode cX8_truthBy 4 = .ok (.iload_n 2, 1) := by decide +kernel
theorem dX8_truthBy_5 : decode cX8_truthBy 5 = .ok (.iload_n 1, 1) := by decide +kernel
theorem dX8_truthBy_6 : decode cX8_truthBy 6 = .ok (.iconst 1, 1) := by decide +kernel
theorem dX8_truthBy_7 : decode cX8_truthBy 7 = .ok (.isub, 1) := by decide +kernel
theorem dX8_truthBy_8 : decode cX8_truthBy 8 = .ok (.imul, 1) := by decide +kernel
theorem dX8_truthBy_9 : decode cX8_truthBy 9 = .ok (.sipush 1000, 3) := by decide +kernel
theorem dX8_truthBy_12 : decode cX8_truthBy 12 = .ok (.idiv, 1) := by decide +kernel
theorem dX8_truthBy_13 : decode cX8_truthBy 13 = .ok (.iaload, 1) := by decide +kernel
theorem dX8_truthBy_14 : decode cX8_truthBy 14 = .ok (.ireturn, 1) := by decide +kernel
theorem dX8_quantile_0 : decode cX8_quantile 0 = .ok (.aload_n 0, 1) := by decide +kernel
theorem dX8_quantile_1 : decode cX8_quantile 1 = .ok (.iload_n 1, 1) := by decide +kernel
theorem dX8_quantile_2 : decode cX8_quantile 2 = .ok (.iload_n 2, 1) := by decide +kernel
theorem dX8_quantile_3 : decode cX8_quantile 3 = .ok (.sipush 1000, 3) := by decide +kernel
theorem dX8_quantile_6 : decode cX8_quantile 6 = .ok (.invokevirtual 137, 3) := by decide +kernel
theorem dX8_quantile_9 : decode cX8_quantile 9 = .ok (.istore_n 3, 1) := by decide +kernel
theorem dX8_quantile_10 : decode cX8_quantile 10 = .ok (.iload_n 3, 1) := by decide +kernel
theorem dX8_quantile_11 : decode cX8_quantile 11 = .ok (.ifCond .ge 5, 3) := by decide +kernel
theorem dX8_quantile_14 : decode cX8_quantile 14 = .ok (.iload_n 3, 1) := by decide +kernel
theorem dX8_quantile_15 : decode cX8_quantile 15 = .ok (.ireturn, 1) := by decide +kernel
theorem dX8_quantile_16 : decode cX8_quantile 16 = .ok (.aload_n 0, 1) := by decide +kernel
theorem dX8_quantile_17 : decode cX8_quantile 17 = .ok (.iload_n 1, 1) := by decide +kernel
theorem dX8_quantile_18 : decode cX8_quantile 18 = .ok (.invokevirtual 140, 3) := by decide +kernel
theorem dX8_quantile_21 : decode cX8_quantile 21 = .ok (.aload_n 0, 1) := by decide +kernel
theorem dX8_quantile_22 : decode cX8_quantile 22 = .ok (.aload_n 0, 1) := by decide +kernel
theorem dX8_quantile_23 : decode cX8_quantile 23 = .ok (.iload_n 1, 1) := by decide +kernel
theorem dX8_quantile_24 : decode cX8_quantile 24 = .ok (.invokevirtual 102, 3) := by decide +kernel
theorem dX8_quantile_27 : decode cX8_quantile 27 = .ok (.iload_n 2, 1) := by decide +kernel
theorem dX8_quantile_28 : decode cX8_quantile 28 = .ok (.invokevirtual 143, 3) := by decide +kernel
theorem dX8_quantile_31 : decode cX8_quantile 31 = .ok (.ireturn, 1) := by decide +kernel
theorem dX8_truth_0 : decode cX8_truth 0 = .ok (.aload_n 0, 1) := by decide +kernel
theorem dX8_truth_1 : decode cX8_truth 1 = .ok (.iload_n 1, 1) := by decide +kernel
theorem dX8_truth_2 : decode cX8_truth 2 = .ok (.iload_n 2, 1) := by decide +kernel
theorem dX8_truth_3 : decode cX8_truth 3 = .ok (.sipush 1000, 3) := by decide +kernel
theorem dX8_truth_6 : decode cX8_truth 6 = .ok (.invokevirtual 137, 3) := by decide +kernel
theorem dX8_truth_9 : decode cX8_truth 9 = .ok (.istore_n 3, 1) := by decide +kernel
theorem dX8_truth_10 : decode cX8_truth 10 = .ok (.iload_n 3, 1) := by decide +kernel
theorem dX8_truth_11 : decode cX8_truth 11 = .ok (.ifCond .ge 5, 3) := by decide +kernel
theorem dX8_truth_14 : decode cX8_truth 14 = .ok (.iload_n 3, 1) := by decide +kernel
theorem dX8_truth_15 : decode cX8_truth 15 = .ok (.ireturn, 1) := by decide +kernel
theorem dX8_truth_16 : decode cX8_truth 16 = .ok (.aload_n 0, 1) := by decide +kernel
theorem dX8_truth_17 : decode cX8_truth 17 = .ok (.iload_n 1, 1) := by decide +kernel
theorem dX8_truth_18 : decode cX8_truth 18 = .ok (.invokevirtual 140, 3) := by decide +kernel
theorem dX8_truth_21 : decode cX8_truth 21 = .ok (.aload_n 0, 1) := by decide +kernel
theorem dX8_truth_22 : decode cX8_truth 22 = .ok (.aload_n 0, 1) := by decide +kernel
theorem dX8_truth_23 : decode cX8_truth 23 = .ok (.iload_n 1, 1) := by decide +kernel
theorem dX8_truth_24 : decode cX8_truth 24 = .ok (.invokevirtual 102, 3) := by decide +kernel
theorem dX8_truth_27 : decode cX8_truth 27 = .ok (.iload_n 2, 1) := by decide +kernel
theorem dX8_truth_28 : decode cX8_truth 28 = .ok (.invokevirtual 146, 3) := by decide +kernel
theorem dX8_truth_31 : decode cX8_truth 31 = .ok (.ireturn, 1) := by decide +kernel
theorem dX8_worst_0 : decode cX8_worst 0 = .ok (.aload_n 0, 1) := by decide +kernel
theorem dX8_worst_1 : decode cX8_worst 1 = .ok (.iload_n 1, 1) := by decide +kernel
theorem dX8_worst_2 : decode cX8_worst 2 = .ok (.iload_n 2, 1) := by decide +kernel
theorem dX8_worst_3 : decode cX8_worst 3 = .ok (.iconst 1, 1) := by decide +kernel
theorem dX8_worst_4 : decode cX8_worst 4 = .ok (.invokevirtual 137, 3) := by decide +kernel
theorem dX8_worst_7 : decode cX8_worst 7 = .ok (.istore_n 3, 1) := by decide +kernel
theorem dX8_worst_8 : decode cX8_worst 8 = .ok (.iload_n 3, 1) := by decide +kernel
theorem dX8_worst_9 : decode cX8_worst 9 = .ok (.ifCond .ge 5, 3) := by decide +kernel
theorem dX8_worst_12 : decode cX8_worst 12 = .ok (.iload_n 3, 1) := by decide +kernel
theorem dX8_worst_13 : decode cX8_worst 13 = .ok (.ireturn, 1) := by decide +kernel
theorem dX8_worst_14 : decode cX8_worst 14 = .ok (.aload_n 0, 1) := by decide +kernel
theorem dX8_worst_15 : decode cX8_worst 15 = .ok (.iload_n 1, 1) := by decide +kernel
theorem dX8_worst_16 : decode cX8_worst 16 = .ok (.invokevirtual 140, 3) := by decide +kernel
theorem dX8_worst_19 : decode cX8_worst 19 = .ok (.aload_n 0, 1) := by decide +kernel
theorem dX8_worst_20 : decode cX8_worst 20 = .ok (.iload_n 1, 1) := by decide +kernel
theorem dX8_worst_21 : decode cX8_worst 21 = .ok (.invokevirtual 102, 3) := by decide +kernel
theorem dX8_worst_24 : decode cX8_worst 24 = .ok (.istore 4, 2) := by decide +kernel
theorem dX8_worst_26 : decode cX8_worst 26 = .ok (.iconst 0, 1) := by decide +kernel
theorem dX8_worst_27 : decode cX8_worst 27 = .ok (.istore 5, 2) := by decide +kernel
theorem dX8_worst_29 : decode cX8_worst 29 = .ok (.iconst (-1), 1) := by decide +kernel
theorem dX8_worst_30 : decode cX8_worst 30 = .ok (.istore 6, 2) := by decide +kernel
theorem dX8_worst_32 : decode cX8_worst 32 = .ok (.iconst 0, 1) := by decide +kernel
theorem dX8_worst_33 : decode cX8_worst 33 = .ok (.istore 7, 2) := by decide +kernel
theorem dX8_worst_35 : decode cX8_worst 35 = .ok (.iload 7, 2) := by decide +kernel
theorem dX8_worst_37 : decode cX8_worst 37 = .ok (.sipush 1000, 3) := by decide +kernel
theorem dX8_worst_40 : decode cX8_worst 40 = .ok (.if_icmp .gt 75, 3) := by decide +kernel
theorem dX8_worst_43 : decode cX8_worst 43 = .ok (.aload_n 0, 1) := by decide +kernel
theorem dX8_worst_44 : decode cX8_worst 44 = .ok (.iload 4, 2) := by decide +kernel
theorem dX8_worst_46 : decode cX8_worst 46 = .ok (.iload 7, 2) := by decide +kernel
theorem dX8_worst_48 : decode cX8_worst 48 = .ok (.invokevirtual 143, 3) := by decide +kernel
theorem dX8_worst_51 : decode cX8_worst 51 = .ok (.aload_n 0, 1) := by decide +kernel
theorem dX8_worst_52 : decode cX8_worst 52 = .ok (.iload 4, 2) := by decide +kernel
theorem dX8_worst_54 : decode cX8_worst 54 = .ok (.iload 7, 2) := by decide +kernel
theorem dX8_worst_56 : decode cX8_worst 56 = .ok (.invokevirtual 146, 3) := by decide +kernel
theorem dX8_worst_59 : decode cX8_worst 59 = .ok (.isub, 1) := by decide +kernel
theorem dX8_worst_60 : decode cX8_worst 60 = .ok (.istore 8, 2) := by decide +kernel
theorem dX8_worst_62 : decode cX8_worst 62 = .ok (.iload 8, 2) := by decide +kernel
theorem dX8_worst_64 : decode cX8_worst 64 = .ok (.ifCond .ge 9, 3) := by decide +kernel
theorem dX8_worst_67 : decode cX8_worst 67 = .ok (.iload 8, 2) := by decide +kernel
theorem dX8_worst_69 : decode cX8_worst 69 = .ok (.ineg, 1) := by decide +kernel
theorem dX8_worst_70 : decode cX8_worst 70 = .ok (.goto 5, 3) := by decide +kernel
theorem dX8_worst_73 : decode cX8_worst 73 = .ok (.iload 8, 2) := by decide +kernel
theorem dX8_worst_75 : decode cX8_worst 75 = .ok (.istore 8, 2) := by decide +kernel
theorem dX8_worst_77 : decode cX8_worst 77 = .ok (.iload 8, 2) := by decide +kernel
theorem dX8_worst_79 : decode cX8_worst 79 = .ok (.iload 6, 2) := by decide +kernel
theorem dX8_worst_81 : decode cX8_worst 81 = .ok (.if_icmp .le 8, 3) := by decide +kernel
theorem dX8_worst_84 : decode cX8_worst 84 = .ok (.iload 7, 2) := by decide +kernel
theorem dX8_worst_86 : decode cX8_worst 86 = .ok (.goto 5, 3) := by decide +kernel
theorem dX8_worst_89 : decode cX8_worst 89 = .ok (.iload 5, 2) := by decide +kernel
theorem dX8_worst_91 : decode cX8_worst 91 = .ok (.istore 5, 2) := by decide +kernel
theorem dX8_worst_93 : decode cX8_worst 93 = .ok (.iload 8, 2) := by decide +kernel
theorem dX8_worst_95 : decode cX8_worst 95 = .ok (.iload 6, 2) := by decide +kernel
theorem dX8_worst_97 : decode cX8_worst 97 = .ok (.if_icmp .le 8, 3) := by decide +kernel
theorem dX8_worst_100 : decode cX8_worst 100 = .ok (.iload 8, 2) := by decide +kernel
theorem dX8_worst_102 : decode cX8_worst 102 = .ok (.goto 5, 3) := by decide +kernel
theorem dX8_worst_105 : decode cX8_worst 105 = .ok (.iload 6, 2) := by decide +kernel
theorem dX8_worst_107 : decode cX8_worst 107 = .ok (.istore 6, 2) := by decide +kernel
theorem dX8_worst_109 : decode cX8_worst 109 = .ok (.iinc 7 100, 3) := by decide +kernel
theorem dX8_worst_112 : decode cX8_worst 112 = .ok (.goto (-77), 3) := by decide +kernel
theorem dX8_worst_115 : decode cX8_worst 115 = .ok (.iload_n 2, 1) := by decide +kernel
theorem dX8_worst_116 : decode cX8_worst 116 = .ok (.ifCond .ne 8, 3) := by decide +kernel
theorem dX8_worst_119 : decode cX8_worst 119 = .ok (.iload 5, 2) := by decide +kernel
theorem dX8_worst_121 : decode cX8_worst 121 = .ok (.goto 5, 3) := by decide +kernel
theorem dX8_worst_124 : decode cX8_worst 124 = .ok (.iload 6, 2) := by decide +kernel
theorem dX8_worst_126 : decode cX8_worst 126 = .ok (.ireturn, 1) := by decide +kernel
theorem dX8_rank_0 : decode cX8_rank 0 = .ok (.aload_n 0, 1) := by decide +kernel
theorem dX8_rank_1 : decode cX8_rank 1 = .ok (.iload_n 1, 1) := by decide +kernel
theorem dX8_rank_2 : decode cX8_rank 2 = .ok (.iload_n 2, 1) := by decide +kernel
theorem dX8_rank_3 : decode cX8_rank 3 = .ok (.sipush 9999, 3) := by decide +kernel
theorem dX8_rank_6 : decode cX8_rank 6 = .ok (.invokevirtual 137, 3) := by decide +kernel
theorem dX8_rank_9 : decode cX8_rank 9 = .ok (.istore_n 3, 1) := by decide +kernel
theorem dX8_rank_10 : decode cX8_rank 10 = .ok (.iload_n 3, 1) := by decide +kernel
theorem dX8_rank_11 : decode cX8_rank 11 = .ok (.ifCond .ge 5, 3) := by decide +kernel
theorem dX8_rank_14 : decode cX8_rank 14 = .ok (.iload_n 3, 1) := by decide +kernel
theorem dX8_rank_15 : decode cX8_rank 15 = .ok (.ireturn, 1) := by decide +kernel
theorem dX8_rank_16 : decode cX8_rank 16 = .ok (.aload_n 0, 1) := by decide +kernel
theorem dX8_rank_17 : decode cX8_rank 17 = .ok (.iload_n 1, 1) := by decide +kernel
theorem dX8_rank_18 : decode cX8_rank 18 = .ok (.invokevirtual 140, 3) := by decide +kernel
theorem dX8_rank_21 : decode cX8_rank 21 = .ok (.sipush 1000, 3) := by decide +kernel
theorem dX8_rank_24 : decode cX8_rank 24 = .ok (.istore 4, 2) := by decide +kernel
theorem dX8_rank_26 : decode cX8_rank 26 = .ok (.iload 4, 2) := by decide +kernel
theorem dX8_rank_28 : decode cX8_rank 28 = .ok (.ifCond .lt 24, 3) := by decide +kernel
theorem dX8_rank_31 : decode cX8_rank 31 = .ok (.aload_n 0, 1) := by decide +kernel
theorem dX8_rank_32 : decode cX8_rank 32 = .ok (.aload_n 0, 1) := by decide +kernel
theorem dX8_rank_33 : decode cX8_rank 33 = .ok (.iload_n 1, 1) := by decide +kernel
theorem dX8_rank_34 : decode cX8_rank 34 = .ok (.invokevirtual 102, 3) := by decide +kernel
theorem dX8_rank_37 : decode cX8_rank 37 = .ok (.iload 4, 2) := by decide +kernel
theorem dX8_rank_39 : decode cX8_rank 39 = .ok (.invokevirtual 143, 3) := by decide +kernel
theorem dX8_rank_42 : decode cX8_rank 42 = .ok (.iload_n 2, 1) := by decide +kernel
theorem dX8_rank_43 : decode cX8_rank 43 = .ok (.if_icmp .le 9, 3) := by decide +kernel
theorem dX8_rank_46 : decode cX8_rank 46 = .ok (.iinc 4 (-1), 3) := by decide +kernel
theorem dX8_rank_49 : decode cX8_rank 49 = .ok (.goto (-23), 3) := by decide +kernel
theorem dX8_rank_52 : decode cX8_rank 52 = .ok (.iload 4, 2) := by decide +kernel
theorem dX8_rank_54 : decode cX8_rank 54 = .ok (.ireturn, 1) := by decide +kernel
theorem dX8_width_0 : decode cX8_width 0 = .ok (.aload_n 0, 1) := by decide +kernel
theorem dX8_width_1 : decode cX8_width 1 = .ok (.iload_n 1, 1) := by decide +kernel
theorem dX8_width_2 : decode cX8_width 2 = .ok (.iload_n 2, 1) := by decide +kernel
theorem dX8_width_3 : decode cX8_width 3 = .ok (.sipush 1000, 3) := by decide +kernel
theorem dX8_width_6 : decode cX8_width 6 = .ok (.invokevirtual 137, 3) := by decide +kernel
theorem dX8_width_9 : decode cX8_width 9 = .ok (.istore_n 3, 1) := by decide +kernel
theorem dX8_width_10 : decode cX8_width 10 = .ok (.iload_n 3, 1) := by decide +kernel
theorem dX8_width_11 : decode cX8_width 11 = .ok (.ifCond .ge 5, 3) := by decide +kernel
theorem dX8_width_14 : decode cX8_width 14 = .ok (.iload_n 3, 1) := by decide +kernel
theorem dX8_width_15 : decode cX8_width 15 = .ok (.ireturn, 1) := by decide +kernel
theorem dX8_width_16 : decode cX8_width 16 = .ok (.aload_n 0, 1) := by decide +kernel
theorem dX8_width_17 : decode cX8_width 17 = .ok (.iload_n 1, 1) := by decide +kernel
theorem dX8_width_18 : decode cX8_width 18 = .ok (.invokevirtual 140, 3) := by decide +kernel
theorem dX8_width_21 : decode cX8_width 21 = .ok (.iload_n 2, 1) := by decide +kernel
theorem dX8_width_22 : decode cX8_width 22 = .ok (.aload_n 0, 1) := by decide +kernel
theorem dX8_width_23 : decode cX8_width 23 = .ok (.iload_n 1, 1) := by decide +kernel
theorem dX8_width_24 : decode cX8_width 24 = .ok (.invokevirtual 102, 3) := by decide +kernel
theorem dX8_width_27 : decode cX8_width 27 = .ok (.iconst 1, 1) := by decide +kernel
theorem dX8_width_28 : decode cX8_width 28 = .ok (.isub, 1) := by decide +kernel
theorem dX8_width_29 : decode cX8_width 29 = .ok (.imul, 1) := by decide +kernel
theorem dX8_width_30 : decode cX8_width 30 = .ok (.sipush 1000, 3) := by decide +kernel
theorem dX8_width_33 : decode cX8_width 33 = .ok (.idiv, 1) := by decide +kernel
theorem dX8_width_34 : decode cX8_width 34 = .ok (.istore 4, 2) := by decide +kernel
theorem dX8_width_36 : decode cX8_width 36 = .ok (.iconst 0, 1) := by decide +kernel
theorem dX8_width_37 : decode cX8_width 37 = .ok (.istore 5, 2) := by decide +kernel
theorem dX8_width_39 : decode cX8_width 39 = .ok (.aload_n 0, 1) := by decide +kernel
theorem dX8_width_40 : decode cX8_width 40 = .ok (.getfield 19, 3) := by decide +kernel
theorem dX8_width_43 : decode cX8_width 43 = .ok (.iconst 0, 1) := by decide +kernel
theorem dX8_width_44 : decode cX8_width 44 = .ok (.iaload, 1) := by decide +kernel
theorem dX8_width_45 : decode cX8_width 45 = .ok (.istore 6, 2) := by decide +kernel
theorem dX8_width_47 : decode cX8_width 47 = .ok (.iload 6, 2) := by decide +kernel
theorem dX8_width_49 : decode cX8_width 49 = .ok (.iload 4, 2) := by decide +kernel
theorem dX8_width_51 : decode cX8_width 51 = .ok (.if_icmp .gt 21, 3) := by decide +kernel
theorem dX8_width_54 : decode cX8_width 54 = .ok (.iinc 5 1, 3) := by decide +kernel
theorem dX8_width_57 : decode cX8_width 57 = .ok (.iload 6, 2) := by decide +kernel
theorem dX8_width_59 : decode cX8_width 59 = .ok (.aload_n 0, 1) := by decide +kernel
theorem dX8_width_60 : decode cX8_width 60 = .ok (.getfield 19, 3) := by decide +kernel
theorem dX8_width_63 : decode cX8_width 63 = .ok (.iload 5, 2) := by decide +kernel
theorem dX8_width_65 : decode cX8_width 65 = .ok (.iaload, 1) := by decide +kernel
theorem dX8_width_66 : decode cX8_width 66 = .ok (.iadd, 1) := by decide +kernel
theorem dX8_width_67 : decode cX8_width 67 = .ok (.istore 6, 2) := by decide +kernel
theorem dX8_width_69 : decode cX8_width 69 = .ok (.goto (-22), 3) := by decide +kernel
theorem dX8_width_72 : decode cX8_width 72 = .ok (.aload_n 0, 1) := by decide +kernel
theorem dX8_width_73 : decode cX8_width 73 = .ok (.getfield 28, 3) := by decide +kernel
theorem dX8_width_76 : decode cX8_width 76 = .ok (.iload 5, 2) := by decide +kernel
theorem dX8_width_78 : decode cX8_width 78 = .ok (.iaload, 1) := by decide +kernel
theorem dX8_width_79 : decode cX8_width 79 = .ok (.aload_n 0, 1) := by decide +kernel
theorem dX8_width_80 : decode cX8_width 80 = .ok (.getfield 25, 3) := by decide +kernel
theorem dX8_width_83 : decode cX8_width 83 = .ok (.iload 5, 2) := by decide +kernel
theorem dX8_width_85 : decode cX8_width 85 = .ok (.iaload, 1) := by decide +kernel
theorem dX8_width_86 : decode cX8_width 86 = .ok (.isub, 1) := by decide +kernel
theorem dX8_width_87 : decode cX8_width 87 = .ok (.ireturn, 1) := by decide +kernel
theorem dX8_heapsBy_0 : decode cX8_heapsBy 0 = .ok (.aload_n 0, 1) := by decide +kernel
theorem dX8_heapsBy_1 : decode cX8_heapsBy 1 = .ok (.iconst 0, 1) := by decide +kernel
theorem dX8_heapsBy_2 : decode cX8_heapsBy 2 = .ok (.putfield 53, 3) := by decide +kernel
theorem dX8_heapsBy_5 : decode cX8_heapsBy 5 = .ok (.aload_n 0, 1) := by decide +kernel
theorem dX8_heapsBy_6 : decode cX8_heapsBy 6 = .ok (.iload_n 1, 1) := by decide +kernel
theorem dX8_heapsBy_7 : decode cX8_heapsBy 7 = .ok (.invokevirtual 123, 3) := by decide +kernel
theorem dX8_heapsBy_10 : decode cX8_heapsBy 10 = .ok (.iconst 0, 1) := by decide +kernel
theorem dX8_heapsBy_11 : decode cX8_heapsBy 11 = .ok (.istore_n 3, 1) := by decide +kernel
theorem dX8_heapsBy_12 : decode cX8_heapsBy 12 = .ok (.iload_n 3, 1) := by decide +kernel
theorem dX8_heapsBy_13 : decode cX8_heapsBy 13 = .ok (.aload_n 0, 1) := by decide +kernel
theorem dX8_heapsBy_14 : decode cX8_heapsBy 14 = .ok (.iload_n 1, 1) := by decide +kernel
theorem dX8_heapsBy_15 : decode cX8_heapsBy 15 = .ok (.iconst 2, 1) := by decide +kernel
theorem dX8_heapsBy_16 : decode cX8_heapsBy 16 = .ok (.invokevirtual 49, 3) := by decide +kernel
theorem dX8_heapsBy_19 : decode cX8_heapsBy 19 = .ok (.if_icmp .ge 32, 3) := by decide +kernel
theorem dX8_heapsBy_22 : decode cX8_heapsBy 22 = .ok (.aload_n 0, 1) := by decide +kernel
theorem dX8_heapsBy_23 : decode cX8_heapsBy 23 = .ok (.iconst 1, 1) := by decide +kernel
theorem dX8_heapsBy_24 : decode cX8_heapsBy 24 = .ok (.aload_n 0, 1) := by decide +kernel
theorem dX8_heapsBy_25 : decode cX8_heapsBy 25 = .ok (.getfield 31, 3) := by decide +kernel
theorem dX8_heapsBy_28 : decode cX8_heapsBy 28 = .ok (.iload_n 3, 1) := by decide +kernel
theorem dX8_heapsBy_29 : decode cX8_heapsBy 29 = .ok (.iaload, 1) := by decide +kernel
theorem dX8_heapsBy_30 : decode cX8_heapsBy 30 = .ok (.aload_n 0, 1) := by decide +kernel
theorem dX8_heapsBy_31 : decode cX8_heapsBy 31 = .ok (.getfield 31, 3) := by decide +kernel
theorem dX8_heapsBy_34 : decode cX8_heapsBy 34 = .ok (.iload_n 3, 1) := by decide +kernel
theorem dX8_heapsBy_35 : decode cX8_heapsBy 35 = .ok (.iaload, 1) := by decide +kernel
theorem dX8_heapsBy_36 : decode cX8_heapsBy 36 = .ok (.aload_n 0, 1) := by decide +kernel
theorem dX8_heapsBy_37 : decode cX8_heapsBy 37 = .ok (.getfield 31, 3) := by decide +kernel
theorem dX8_heapsBy_40 : decode cX8_heapsBy 40 = .ok (.iload_n 3, 1) := by decide +kernel
theorem dX8_heapsBy_41 : decode cX8_heapsBy 41 = .ok (.iaload, 1) := by decide +kernel
theorem dX8_heapsBy_42 : decode cX8_heapsBy 42 = .ok (.invokevirtual 60, 3) := by decide +kernel
theorem dX8_heapsBy_45 : decode cX8_heapsBy 45 = .ok (.iinc 3 1, 3) := by decide +kernel
theorem dX8_heapsBy_48 : decode cX8_heapsBy 48 = .ok (.goto (-36), 3) := by decide +kernel
theorem dX8_heapsBy_51 : decode cX8_heapsBy 51 = .ok (.aload_n 0, 1) := by decide +kernel
theorem dX8_heapsBy_52 : decode cX8_heapsBy 52 = .ok (.iload_n 2, 1) := by decide +kernel
theorem dX8_heapsBy_53 : decode cX8_heapsBy 53 = .ok (.invokevirtual 78, 3) := by decide +kernel
theorem dX8_heapsBy_56 : decode cX8_heapsBy 56 = .ok (.aload_n 0, 1) := by decide +kernel
theorem dX8_heapsBy_57 : decode cX8_heapsBy 57 = .ok (.getfield 53, 3) := by decide +kernel
theorem dX8_heapsBy_60 : decode cX8_heapsBy 60 = .ok (.ireturn, 1) := by decide +kernel
theorem dX8_settingFor_0 : decode cX8_settingFor 0 = .ok (.iload_n 1, 1) := by decide +kernel
theorem dX8_settingFor_1 : decode cX8_settingFor 1 = .ok (.invokestatic 97, 3) := by decide +kernel
theorem dX8_settingFor_4 : decode cX8_settingFor 4 = .ok (.ifCond .eq 13, 3) := by decide +kernel
theorem dX8_settingFor_7 : decode cX8_settingFor 7 = .ok (.iload_n 2, 1) := by decide +kernel
theorem dX8_settingFor_8 : decode cX8_settingFor 8 = .ok (.iconst 1, 1) := by decide +kernel
theorem dX8_settingFor_9 : decode cX8_settingFor 9 = .ok (.bipush 60, 2) := by decide +kernel
theorem dX8_settingFor_11 : decode cX8_settingFor 11 = .ok (.invokestatic 45, 3) := by decide +kernel
theorem dX8_settingFor_14 : decode cX8_settingFor 14 = .ok (.ifCond .ne 6, 3) := by decide +kernel
theorem dX8_settingFor_17 : decode cX8_settingFor 17 = .ok (.ldc 101, 2) := by decide +kernel
theorem dX8_settingFor_19 : decode cX8_settingFor 19 = .ok (.ireturn, 1) := by decide +kernel
theorem dX8_settingFor_20 : decode cX8_settingFor 20 = .ok (.iconst 1, 1) := by decide +kernel
theorem dX8_settingFor_21 : decode cX8_settingFor 21 = .ok (.istore_n 3, 1) := by decide +kernel
theorem dX8_settingFor_22 : decode cX8_settingFor 22 = .ok (.iload_n 3, 1) := by decide +kernel
theorem dX8_settingFor_23 : decode cX8_settingFor 23 = .ok (.bipush 60, 2) := by decide +kernel
theorem dX8_settingFor_25 : decode cX8_settingFor 25 = .ok (.if_icmp .gt 21, 3) := by decide +kernel
theorem dX8_settingFor_28 : decode cX8_settingFor 28 = .ok (.aload_n 0, 1) := by decide +kernel
theorem dX8_settingFor_29 : decode cX8_settingFor 29 = .ok (.iload_n 1, 1) := by decide +kernel
theorem dX8_settingFor_30 : decode cX8_settingFor 30 = .ok (.iload_n 3, 1) := by decide +kernel
theorem dX8_settingFor_31 : decode cX8_settingFor 31 = .ok (.invokevirtual 149, 3) := by decide +kernel
theorem dX8_settingFor_34 : decode cX8_settingFor 34 = .ok (.iload_n 2, 1) := by decide +kernel
theorem dX8_settingFor_35 : decode cX8_settingFor 35 = .ok (.if_icmp .lt 5, 3) := by decide +kernel
theorem dX8_settingFor_38 : decode cX8_settingFor 38 = .ok (.iload_n 3, 1) := by decide +kernel
theorem dX8_settingFor_39 : decode cX8_settingFor 39 = .ok (.ireturn, 1) := by decide +kernel
theorem dX8_settingFor_40 : decode cX8_settingFor 40 = .ok (.iinc 3 1, 3) := by decide +kernel
theorem dX8_settingFor_43 : decode cX8_settingFor 43 = .ok (.goto (-21), 3) := by decide +kernel
theorem dX8_settingFor_46 : decode cX8_settingFor 46 = .ok (.ldc 116, 2) := by decide +kernel
theorem dX8_settingFor_48 : decode cX8_settingFor 48 = .ok (.ireturn, 1) := by decide +kernel
theorem dX8_allWeight_0 : decode cX8_allWeight 0 = .ok (.aload_n 0, 1) := by decide +kernel
theorem dX8_allWeight_1 : decode cX8_allWeight 1 = .ok (.iconst 0, 1) := by decide +kernel
theorem dX8_allWeight_2 : decode cX8_allWeight 2 = .ok (.invokevirtual 102, 3) := by decide +kernel
theorem dX8_allWeight_5 : decode cX8_allWeight 5 = .ok (.aload_n 0, 1) := by decide +kernel
theorem dX8_allWeight_6 : decode cX8_allWeight 6 = .ok (.iconst 1, 1) := by decide +kernel
theorem dX8_allWeight_7 : decode cX8_allWeight 7 = .ok (.invokevirtual 102, 3) := by decide +kernel
theorem dX8_allWeight_10 : decode cX8_allWeight 10 = .ok (.iadd, 1) := by decide +kernel
theorem dX8_allWeight_11 : decode cX8_allWeight 11 = .ok (.aload_n 0, 1) := by decide +kernel
theorem dX8_allWeight_12 : decode cX8_allWeight 12 = .ok (.iconst 2, 1) := by decide +kernel
theorem dX8_allWeight_13 : decode cX8_allWeight 13 = .ok (.invokevirtual 102, 3) := by decide +kernel
theorem dX8_allWeight_16 : decode cX8_allWeight 16 = .ok (.iadd, 1) := by decide +kernel
theorem dX8_allWeight_17 : decode cX8_allWeight 17 = .ok (.ireturn, 1) := by decide +kernel
theorem dX8_count_0 : decode cX8_count 0 = .ok (.iload_n 1, 1) := by decide +kernel
theorem dX8_count_1 : decode cX8_count 1 = .ok (.lookupswitch 105 #[(0, 59), (1, 64), (2, 85), (3, 90), (20, 95), (21, 95)], 59) := by decide +kernel
theorem dX8_count_60 : decode cX8_count 60 = .ok (.aload_n 0, 1) := by decide +kernel
theorem dX8_count_61 : decode cX8_count 61 = .ok (.invokevirtual 152, 3) := by decide +kernel
theorem dX8_count_64 : decode cX8_count 64 = .ok (.ireturn, 1) := by decide +kernel
theorem dX8_count_65 : decode cX8_count 65 = .ok (.aload_n 0, 1) := by decide +kernel
theorem dX8_count_66 : decode cX8_count 66 = .ok (.iconst 0, 1) := by decide +kernel
theorem dX8_count_67 : decode cX8_count 67 = .ok (.iconst 0, 1) := by decide +kernel
theorem dX8_count_68 : decode cX8_count 68 = .ok (.invokevirtual 49, 3) := by decide +kernel
theorem dX8_count_71 : decode cX8_count 71 = .ok (.aload_n 0, 1) := by decide +kernel
theorem dX8_count_72 : decode cX8_count 72 = .ok (.iconst 1, 1) := by decide +kernel
theorem dX8_count_73 : decode cX8_count 73 = .ok (.iconst 0, 1) := by decide +kernel
theorem dX8_count_74 : decode cX8_count 74 = .ok (.invokevirtual 49, 3) := by decide +kernel
theorem dX8_count_77 : decode cX8_count 77 = .ok (.iadd, 1) := by decide +kernel
theorem dX8_count_78 : decode cX8_count 78 = .ok (.aload_n 0, 1) := by decide +kernel
theorem dX8_count_79 : decode cX8_count 79 = .ok (.iconst 2, 1) := by decide +kernel
theorem dX8_count_80 : decode cX8_count 80 = .ok (.iconst 0, 1) := by decide +kernel
theorem dX8_count_81 : decode cX8_count 81 = .ok (.invokevirtual 49, 3) := by decide +kernel
theorem dX8_count_84 : decode cX8_count 84 = .ok (.iadd, 1) := by decide +kernel
theorem dX8_count_85 : decode cX8_count 85 = .ok (.ireturn, 1) := by decide +kernel
theorem dX8_count_86 : decode cX8_count 86 = .ok (.aload_n 0, 1) := by decide +kernel
theorem dX8_count_87 : decode cX8_count 87 = .ok (.getfield 37, 3) := by decide +kernel
theorem dX8_count_90 : decode cX8_count 90 = .ok (.ireturn, 1) := by decide +kernel
theorem dX8_count_91 : decode cX8_count 91 = .ok (.aload_n 0, 1) := by decide +kernel
theorem dX8_count_92 : decode cX8_count 92 = .ok (.getfield 156, 3) := by decide +kernel
theorem dX8_count_95 : decode cX8_count 95 = .ok (.ireturn, 1) := by decide +kernel
theorem dX8_count_96 : decode cX8_count 96 = .ok (.aload_n 0, 1) := by decide +kernel
theorem dX8_count_97 : decode cX8_count 97 = .ok (.getfield 7, 3) := by decide +kernel
theorem dX8_count_100 : decode cX8_count 100 = .ok (.iload_n 1, 1) := by decide +kernel
theorem dX8_count_101 : decode cX8_count 101 = .ok (.bipush 20, 2) := by decide +kernel
theorem dX8_count_103 : decode cX8_count 103 = .ok (.isub, 1) := by decide +kernel
theorem dX8_count_104 : decode cX8_count 104 = .ok (.iaload, 1) := by decide +kernel
theorem dX8_count_105 : decode cX8_count 105 = .ok (.ireturn, 1) := by decide +kernel
theorem dX8_count_106 : decode cX8_count 106 = .ok (.ldc 101, 2) := by decide +kernel
theorem dX8_count_108 : decode cX8_count 108 = .ok (.ireturn, 1) := by decide +kernel
theorem dX8_undo_0 : decode cX8_undo 0 = .ok (.aload_n 0, 1) := by decide +kernel
theorem dX8_undo_1 : decode cX8_undo 1 = .ok (.getfield 37, 3) := by decide +kernel
theorem dX8_undo_4 : decode cX8_undo 4 = .ok (.ifCond .ne 6, 3) := by decide +kernel
theorem dX8_undo_7 : decode cX8_undo 7 = .ok (.ldc 136, 2) := by decide +kernel
theorem dX8_undo_9 : decode cX8_undo 9 = .ok (.ireturn, 1) := by decide +kernel
theorem dX8_undo_10 : decode cX8_undo 10 = .ok (.aload_n 0, 1) := by decide +kernel
theorem dX8_undo_11 : decode cX8_undo 11 = .ok (.dup, 1) := by decide +kernel
theorem dX8_undo_12 : decode cX8_undo 12 = .ok (.getfield 37, 3) := by decide +kernel
theorem dX8_undo_15 : decode cX8_undo 15 = .ok (.iconst 1, 1) := by decide +kernel
theorem dX8_undo_16 : decode cX8_undo 16 = .ok (.isub, 1) := by decide +kernel
theorem dX8_undo_17 : decode cX8_undo 17 = .ok (.putfield 37, 3) := by decide +kernel
theorem dX8_undo_20 : decode cX8_undo 20 = .ok (.aload_n 0, 1) := by decide +kernel
theorem dX8_undo_21 : decode cX8_undo 21 = .ok (.getfield 13, 3) := by decide +kernel
theorem dX8_undo_24 : decode cX8_undo 24 = .ok (.aload_n 0, 1) := by decide +kernel
theorem dX8_undo_25 : decode cX8_undo 25 = .ok (.getfield 37, 3) := by decide +kernel
theorem dX8_undo_28 : decode cX8_undo 28 = .ok (.sipush 3074, 3) := by decide +kernel
theorem dX8_undo_31 : decode cX8_undo 31 = .ok (.imul, 1) := by decide +kernel
theorem dX8_undo_32 : decode cX8_undo 32 = .ok (.aload_n 0, 1) := by decide +kernel
theorem dX8_undo_33 : decode cX8_undo 33 = .ok (.getfield 7, 3) := by decide +kernel
theorem dX8_undo_36 : decode cX8_undo 36 = .ok (.iconst 0, 1) := by decide +kernel
theorem dX8_undo_37 : decode cX8_undo 37 = .ok (.invokestatic 41, 3) := by decide +kernel
theorem dX8_undo_40 : decode cX8_undo 40 = .ok (.aload_n 0, 1) := by decide +kernel
theorem dX8_undo_41 : decode cX8_undo 41 = .ok (.getfield 37, 3) := by decide +kernel
theorem dX8_undo_44 : decode cX8_undo 44 = .ok (.ireturn, 1) := by decide +kernel
theorem dX8_type_0 : decode cX8_type 0 = .ok (.iload_n 1, 1) := by decide +kernel
theorem dX8_type_1 : decode cX8_type 1 = .ok (.bipush 32, 2) := by decide +kernel
theorem dX8_type_3 : decode cX8_type 3 = .ok (.bipush 126, 2) := by decide +kernel
theorem dX8_type_5 : decode cX8_type 5 = .ok (.invokestatic 45, 3) := by decide +kernel
theorem dX8_type_8 : decode cX8_type 8 = .ok (.ifCond .ne 6, 3) := by decide +kernel
theorem dX8_type_11 : decode cX8_type 11 = .ok (.ldc 101, 2) := by decide +kernel
theorem dX8_type_13 : decode cX8_type 13 = .ok (.ireturn, 1) := by decide +kernel
theorem dX8_type_14 : decode cX8_type 14 = .ok (.aload_n 0, 1) := by decide +kernel
theorem dX8_type_15 : decode cX8_type 15 = .ok (.getfield 156, 3) := by decide +kernel
theorem dX8_type_18 : decode cX8_type 18 = .ok (.bipush 60, 2) := by decide +kernel
theorem dX8_type_20 : decode cX8_type 20 = .ok (.if_icmp .ne 6, 3) := by decide +kernel
theorem dX8_type_23 : decode cX8_type 23 = .ok (.ldc 106, 2) := by decide +kernel
theorem dX8_type_25 : decode cX8_type 25 = .ok (.ireturn, 1) := by decide +kernel
theorem dX8_type_26 : decode cX8_type 26 = .ok (.aload_n 0, 1) := by decide +kernel
theorem dX8_type_27 : decode cX8_type 27 = .ok (.getfield 16, 3) := by decide +kernel
theorem dX8_type_30 : decode cX8_type 30 = .ok (.aload_n 0, 1) := by decide +kernel
theorem dX8_type_31 : decode cX8_type 31 = .ok (.getfield 156, 3) := by decide +kernel
theorem dX8_type_34 : decode cX8_type 34 = .ok (.iload_n 1, 1) := by decide +kernel
theorem dX8_type_35 : decode cX8_type 35 = .ok (.iastore, 1) := by decide +kernel
theorem dX8_type_36 : decode cX8_type 36 = .ok (.aload_n 0, 1) := by decide +kernel
theorem dX8_type_37 : decode cX8_type 37 = .ok (.dup, 1) := by decide +kernel
theorem dX8_type_38 : decode cX8_type 38 = .ok (.getfield 156, 3) := by decide +kernel
theorem dX8_type_41 : decode cX8_type 41 = .ok (.iconst 1, 1) := by decide +kernel
theorem dX8_type_42 : decode cX8_type 42 = .ok (.iadd, 1) := by decide +kernel
theorem dX8_type_43 : decode cX8_type 43 = .ok (.putfield 156, 3) := by decide +kernel
theorem dX8_type_46 : decode cX8_type 46 = .ok (.aload_n 0, 1) := by decide +kernel
theorem dX8_type_47 : decode cX8_type 47 = .ok (.getfield 156, 3) := by decide +kernel
theorem dX8_type_50 : decode cX8_type 50 = .ok (.ireturn, 1) := by decide +kernel
theorem dX8_clearText_0 : decode cX8_clearText 0 = .ok (.aload_n 0, 1) := by decide +kernel
theorem dX8_clearText_1 : decode cX8_clearText 1 = .ok (.getfield 156, 3) := by decide +kernel
theorem dX8_clearText_4 : decode cX8_clearText 4 = .ok (.istore_n 1, 1) := by decide +kernel
theorem dX8_clearText_5 : decode cX8_clearText 5 = .ok (.aload_n 0, 1) := by decide +kernel
theorem dX8_clearText_6 : decode cX8_clearText 6 = .ok (.iconst 0, 1) := by decide +kernel
theorem dX8_clearText_7 : decode cX8_clearText 7 = .ok (.putfield 156, 3) := by decide +kernel
theorem dX8_clearText_10 : decode cX8_clearText 10 = .ok (.iload_n 1, 1) := by decide +kernel
theorem dX8_clearText_11 : decode cX8_clearText 11 = .ok (.ireturn, 1) := by decide +kernel
theorem dX8_character_0 : decode cX8_character 0 = .ok (.iload_n 1, 1) := by decide +kernel
theorem dX8_character_1 : decode cX8_character 1 = .ok (.aload_n 0, 1) := by decide +kernel
theorem dX8_character_2 : decode cX8_character 2 = .ok (.getfield 156, 3) := by decide +kernel
theorem dX8_character_5 : decode cX8_character 5 = .ok (.if_icmp .ge 12, 3) := by decide +kernel
theorem dX8_character_8 : decode cX8_character 8 = .ok (.aload_n 0, 1) := by decide +kernel
theorem dX8_character_9 : decode cX8_character 9 = .ok (.getfield 16, 3) := by decide +kernel
theorem dX8_character_12 : decode cX8_character 12 = .ok (.iload_n 1, 1) := by decide +kernel
theorem dX8_character_13 : decode cX8_character 13 = .ok (.iaload, 1) := by decide +kernel
theorem dX8_character_14 : decode cX8_character 14 = .ok (.goto 4, 3) := by decide +kernel
theorem dX8_character_17 : decode cX8_character 17 = .ok (.iconst (-1), 1) := by decide +kernel
theorem dX8_character_18 : decode cX8_character 18 = .ok (.ireturn, 1) := by decide +kernel
theorem dX8_takeNumber_0 : decode cX8_takeNumber 0 = .ok (.iconst (-1), 1) := by decide +kernel
theorem dX8_takeNumber_1 : decode cX8_takeNumber 1 = .ok (.istore_n 2, 1) := by decide +kernel
theorem dX8_takeNumber_2 : decode cX8_takeNumber 2 = .ok (.iconst 0, 1) := by decide +kernel
theorem dX8_takeNumber_3 : decode cX8_takeNumber 3 = .ok (.istore_n 3, 1) := by decide +kernel
theorem dX8_takeNumber_4 : decode cX8_takeNumber 4 = .ok (.iload_n 3, 1) := by decide +kernel
theorem dX8_takeNumber_5 : decode cX8_takeNumber 5 = .ok (.iload_n 1, 1) := by decide +kernel
theorem dX8_takeNumber_6 : decode cX8_takeNumber 6 = .ok (.if_icmp .ge 62, 3) := by decide +kernel
theorem dX8_takeNumber_9 : decode cX8_takeNumber 9 = .ok (.aload_n 0, 1) := by decide +kernel
theorem dX8_takeNumber_10 : decode cX8_takeNumber 10 = .ok (.aload_n 0, 1) := by decide +kernel
theorem dX8_takeNumber_11 : decode cX8_takeNumber 11 = .ok (.getfield 159, 3) := by decide +kernel
theorem dX8_takeNumber_14 : decode cX8_takeNumber 14 = .ok (.invokevirtual 162, 3) := by decide +kernel
theorem dX8_takeNumber_17 : decode cX8_takeNumber 17 = .ok (.bipush 48, 2) := by decide +kernel
theorem dX8_takeNumber_19 : decode cX8_takeNumber 19 = .ok (.bipush 57, 2) := by decide +kernel
theorem dX8_takeNumber_21 : decode cX8_takeNumber 21 = .ok (.invokestatic 45, 3) := by decide +kernel
theorem dX8_takeNumber_24 : decode cX8_takeNumber 24 = .ok (.ifCond .eq 44, 3) := by decide +kernel
theorem dX8_takeNumber_27 : decode cX8_takeNumber 27 = .ok (.iload_n 2, 1) := by decide +kernel
theorem dX8_takeNumber_28 : decode cX8_takeNumber 28 = .ok (.ifCond .ge 7, 3) := by decide +kernel
theorem dX8_takeNumber_31 : decode cX8_takeNumber 31 = .ok (.iconst 0, 1) := by decide +kernel
