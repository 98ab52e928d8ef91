def qA : List Cond := lw_tbl.filter goodWord
theorem qa {w : Cond} (h : w ∈ lw_tbl) (g : goodWord w = true) : w ∈ qA := List.mem_filter.mpr ⟨h, g⟩
theorem qA_good {w : Cond} (h : w ∈ qA) : goodWord w = true := (List.mem_filter.mp h).2
theorem qA_tbl {w : Cond} (h : w ∈ qA) : w ∈ lw_tbl := (List.mem_filter.mp h).1
theorem q_0 : Cond.initialized RL ∈ qA := qa (List.mem_of_getElem? (i := 43) (by decide +kernel)) rfl
theorem q_1 : Cond.initialized RX7 ∈ qA := qa (List.mem_of_getElem? (i := 44) (by decide +kernel)) rfl
theorem q_2 : Cond.initialized RX5 ∈ qA := qa (List.mem_of_getElem? (i := 45) (by decide +kernel)) rfl
theorem q_3 : Cond.initialized RX4 ∈ qA := qa (List.mem_of_getElem? (i := 46) (by decide +kernel)) rfl
theorem q_4 : Cond.initialized RJ9 ∈ qA := qa (List.mem_of_getElem? (i := 47) (by decide +kernel)) rfl
theorem q_5 : Cond.initialized RX0 ∈ qA := qa (List.mem_of_getElem? (i := 48) (by decide +kernel)) rfl
theorem q_6 : Cond.initialized RX1 ∈ qA := qa (List.mem_of_getElem? (i := 49) (by decide +kernel)) rfl
theorem q_7 : Cond.initialized RX2 ∈ qA := qa (List.mem_of_getElem? (i := 50) (by decide +kernel)) rfl
theorem q_8 : Cond.initialized RX3 ∈ qA := qa (List.mem_of_getElem? (i := 51) (by decide +kernel)) rfl
theorem q_9 : Cond.initialized RX6 ∈ qA := qa (List.mem_of_getElem? (i := 52) (by decide +kernel)) rfl
theorem q_10 : Cond.initialized RX8 ∈ qA := qa (List.mem_of_getElem? (i := 53) (by decide +kernel)) rfl
theorem q_11 : Cond.initialized RJ10 ∈ qA := qa (List.mem_of_getElem? (i := 54) (by decide +kernel)) rfl
theorem q_12 : Cond.classLink RL 7 RX7 ∈ qA := qa (List.mem_of_getElem? (i := 55) (by decide +kernel)) rfl
theorem q_13 : Cond.instantiable RX7 6 ∈ qA := qa (List.mem_of_getElem? (i := 56) (by decide +kernel)) rfl
theorem q_14 : Cond.methodLink RL 9 yX7_init ∈ qA := qa (List.mem_of_getElem? (i := 57) (by decide +kernel)) rfl
theorem q_15 : Cond.instanceMethod yX7_init ∈ qA := qa (List.mem_of_getElem? (i := 58) (by decide +kernel)) rfl
theorem q_16 : Cond.code yX7_init cX7_init 1 none ∈ qA := qa (List.mem_of_getElem? (i := 59) (by decide +kernel)) rfl
theorem q_17 : Cond.methodLink RX7 3 objectInit ∈ qA := qa (List.mem_of_getElem? (i := 60) (by decide +kernel)) rfl
theorem q_18 : Cond.instanceMethod objectInit ∈ qA := qa (List.mem_of_getElem? (i := 61) (by decide +kernel)) rfl
theorem q_19 : Cond.code objectInit ⟨#[0xb1]⟩ 1 none ∈ qA := qa (List.mem_of_getElem? (i := 62) (by decide +kernel)) rfl
theorem q_20 : Cond.classLink RX7 9 RX5 ∈ qA := qa (List.mem_of_getElem? (i := 63) (by decide +kernel)) rfl
theorem q_21 : Cond.instantiable RX5 4 ∈ qA := qa (List.mem_of_getElem? (i := 64) (by decide +kernel)) rfl
theorem q_22 : Cond.methodLink RX7 11 yX5_init ∈ qA := qa (List.mem_of_getElem? (i := 65) (by decide +kernel)) rfl
theorem q_23 : Cond.instanceMethod yX5_init ∈ qA := qa (List.mem_of_getElem? (i := 66) (by decide +kernel)) rfl
theorem q_24 : Cond.code yX5_init cX5_init 1 none ∈ qA := qa (List.mem_of_getElem? (i := 67) (by decide +kernel)) rfl
theorem q_25 : Cond.methodLink RX5 3 objectInit ∈ qA := qa (List.mem_of_getElem? (i := 68) (by decide +kernel)) rfl
theorem q_26 : Cond.classLink RX5 9 RX4 ∈ qA := qa (List.mem_of_getElem? (i := 69) (by decide +kernel)) rfl
theorem q_27 : Cond.instantiable RX4 2 ∈ qA := qa (List.mem_of_getElem? (i := 70) (by decide +kernel)) rfl
theorem q_28 : Cond.methodLink RX5 11 yX4_init ∈ qA := qa (List.mem_of_getElem? (i := 71) (by decide +kernel)) rfl
theorem q_29 : Cond.instanceMethod yX4_init ∈ qA := qa (List.mem_of_getElem? (i := 72) (by decide +kernel)) rfl
theorem q_30 : Cond.code yX4_init cX4_init 2 none ∈ qA := qa (List.mem_of_getElem? (i := 73) (by decide +kernel)) rfl
theorem q_31 : Cond.methodLink RX4 1 objectInit ∈ qA := qa (List.mem_of_getElem? (i := 74) (by decide +kernel)) rfl
theorem q_32 : Cond.methodLink RX4 7 Lib.Math.max.name ∈ qA := qa (List.mem_of_getElem? (i := 75) (by decide +kernel)) rfl
theorem q_33 : Cond.static Lib.Math.max.name ∈ qA := qa (List.mem_of_getElem? (i := 76) (by decide +kernel)) rfl
theorem q_34 : Cond.code Lib.Math.max.name Lib.Math.max.code 2 (some FieldType.int) ∈ qA := qa (List.mem_of_getElem? (i := 77) (by decide +kernel)) rfl
theorem q_35 : Cond.fieldLink RX4 13 "QuantileDigests$Row" "cells" "[I" ∈ qA := qa (List.mem_of_getElem? (i := 78) (by decide +kernel)) rfl
theorem q_36 : Cond.fieldLink RX4 19 "QuantileDigests$Row" "length" "I" ∈ qA := qa (List.mem_of_getElem? (i := 79) (by decide +kernel)) rfl
theorem q_42 : Cond.arrayClass Jvm.ClassFile.FieldType.int ∈ qA := qa (List.mem_of_getElem? (i := 85) (by decide +kernel)) rfl
theorem q_43 : Cond.classLink RX5 20 RX0 ∈ qA := qa (List.mem_of_getElem? (i := 86) (by decide +kernel)) rfl
theorem q_44 : Cond.instantiable RX0 4 ∈ qA := qa (List.mem_of_getElem? (i := 87) (by decide +kernel)) rfl
theorem q_45 : Cond.methodLinkNest RX5 22 yX0_init RX7 ∈ lw_tbl := List.mem_of_getElem? (i := 88) (by decide +kernel)
theorem q_46 : Cond.instanceMethod yX0_init ∈ qA := qa (List.mem_of_getElem? (i := 89) (by decide +kernel)) rfl
theorem q_47 : Cond.code yX0_init cX0_init 1 none ∈ qA := qa (List.mem_of_getElem? (i := 90) (by decide +kernel)) rfl
theorem q_48 : Cond.methodLink RX0 3 objectInit ∈ qA := qa (List.mem_of_getElem? (i := 91) (by decide +kernel)) rfl
theorem q_49 : Cond.classLink RX0 9 RX1 ∈ qA := qa (List.mem_of_getElem? (i := 92) (by decide +kernel)) rfl
theorem q_50 : Cond.instantiable RX1 4 ∈ qA := qa (List.mem_of_getElem? (i := 93) (by decide +kernel)) rfl
theorem q_51 : Cond.methodLinkNest RX0 11 yX1_init RX7 ∈ lw_tbl := List.mem_of_getElem? (i := 94) (by decide +kernel)
theorem q_52 : Cond.instanceMethod yX1_init ∈ qA := qa (List.mem_of_getElem? (i := 95) (by decide +kernel)) rfl
theorem q_53 : Cond.code yX1_init cX1_init 1 none ∈ qA := qa (List.mem_of_getElem? (i := 96) (by decide +kernel)) rfl
theorem q_54 : Cond.methodLink RX1 3 objectInit ∈ qA := qa (List.mem_of_getElem? (i := 97) (by decide +kernel)) rfl
theorem q_55 : Cond.classLink RX1 9 RX4 ∈ qA := qa (List.mem_of_getElem? (i := 98) (by decide +kernel)) rfl
theorem q_56 : Cond.methodLink RX1 11 yX4_init ∈ qA := qa (List.mem_of_getElem? (i := 99) (by decide +kernel)) rfl
theorem q_57 : Cond.fieldLink RX1 14 "QuantileDigests$Heaps" "weights" "LQuantileDigests$Row;" ∈ qA := qa (List.mem_of_getElem? (i := 100) (by decide +kernel)) rfl
theorem q_58 : Cond.fieldLink RX0 34 "QuantileDigests$Heaps" "weights" "LQuantileDigests$Row;" ∈ qA := qa (List.mem_of_getElem? (i := 101) (by decide +kernel)) rfl
theorem q_59 : Cond.fieldLink RX7 108 "QuantileDigests$Heaps" "weights" "LQuantileDigests$Row;" ∈ qA := qa (List.mem_of_getElem? (i := 102) (by decide +kernel)) rfl
theorem q_60 : Cond.fieldLink RX1 20 "QuantileDigests$Heaps" "sums" "LQuantileDigests$Row;" ∈ qA := qa (List.mem_of_getElem? (i := 103) (by decide +kernel)) rfl
theorem q_61 : Cond.fieldLink RX0 44 "QuantileDigests$Heaps" "sums" "LQuantileDigests$Row;" ∈ qA := qa (List.mem_of_getElem? (i := 104) (by decide +kernel)) rfl
theorem q_62 : Cond.fieldLink RX7 111 "QuantileDigests$Heaps" "sums" "LQuantileDigests$Row;" ∈ qA := qa (List.mem_of_getElem? (i := 105) (by decide +kernel)) rfl
theorem q_63 : Cond.fieldLink RX1 23 "QuantileDigests$Heaps" "leasts" "LQuantileDigests$Row;" ∈ qA := qa (List.mem_of_getElem? (i := 106) (by decide +kernel)) rfl
theorem q_64 : Cond.fieldLink RX0 47 "QuantileDigests$Heaps" "leasts" "LQuantileDigests$Row;" ∈ qA := qa (List.mem_of_getElem? (i := 107) (by decide +kernel)) rfl
theorem q_65 : Cond.fieldLink RX7 114 "QuantileDigests$Heaps" "leasts" "LQuantileDigests$Row;" ∈ qA := qa (List.mem_of_getElem? (i := 108) (by decide +kernel)) rfl
theorem q_66 : Cond.fieldLink RX1 26 "QuantileDigests$Heaps" "greatests" "LQuantileDigests$Row;" ∈ qA := qa (List.mem_of_getElem? (i := 109) (by decide +kernel)) rfl
theorem q_67 : Cond.fieldLink RX0 59 "QuantileDigests$Heaps" "greatests" "LQuantileDigests$Row;" ∈ qA := qa (List.mem_of_getElem? (i := 110) (by decide +kernel)) rfl
theorem q_68 : Cond.fieldLink RX7 117 "QuantileDigests$Heaps" "greatests" "LQuantileDigests$Row;" ∈ qA := qa (List.mem_of_getElem? (i := 111) (by decide +kernel)) rfl
theorem q_78 : Cond.classLink RX0 18 RX4 ∈ qA := qa (List.mem_of_getElem? (i := 121) (by decide +kernel)) rfl
theorem q_79 : Cond.methodLink RX0 20 yX4_init ∈ qA := qa (List.mem_of_getElem? (i := 122) (by decide +kernel)) rfl
theorem q_80 : Cond.fieldLink RX0 12 "QuantileDigests$Digest" "heaps" "LQuantileDigests$Heaps;" ∈ qA := qa (List.mem_of_getElem? (i := 123) (by decide +kernel)) rfl
theorem q_81 : Cond.fieldLink RX7 87 "QuantileDigests$Digest" "heaps" "LQuantileDigests$Heaps;" ∈ qA := qa (List.mem_of_getElem? (i := 124) (by decide +kernel)) rfl
theorem q_82 : Cond.fieldLink RX5 40 "QuantileDigests$Digest" "heaps" "LQuantileDigests$Heaps;" ∈ qA := qa (List.mem_of_getElem? (i := 125) (by decide +kernel)) rfl
theorem q_83 : Cond.fieldLink RX0 23 "QuantileDigests$Digest" "buffer" "LQuantileDigests$Row;" ∈ qA := qa (List.mem_of_getElem? (i := 126) (by decide +kernel)) rfl
theorem q_84 : Cond.fieldLink RX7 134 "QuantileDigests$Digest" "buffer" "LQuantileDigests$Row;" ∈ qA := qa (List.mem_of_getElem? (i := 127) (by decide +kernel)) rfl
theorem q_85 : Cond.fieldLink RX0 27 "QuantileDigests$Digest" "values" "LQuantileDigests$Row;" ∈ qA := qa (List.mem_of_getElem? (i := 128) (by decide +kernel)) rfl
theorem q_86 : Cond.fieldLink RX7 181 "QuantileDigests$Digest" "values" "LQuantileDigests$Row;" ∈ qA := qa (List.mem_of_getElem? (i := 129) (by decide +kernel)) rfl
theorem q_87 : Cond.fieldLink RX0 30 "QuantileDigests$Digest" "packings" "I" ∈ qA := qa (List.mem_of_getElem? (i := 130) (by decide +kernel)) rfl
theorem q_88 : Cond.fieldLink RX7 154 "QuantileDigests$Digest" "packings" "I" ∈ qA := qa (List.mem_of_getElem? (i := 131) (by decide +kernel)) rfl
theorem q_98 : Cond.methodLink RX5 33 yX4_append ∈ qA := qa (List.mem_of_getElem? (i := 141) (by decide +kernel)) rfl
theorem q_99 : Cond.instanceMethod yX4_append ∈ qA := qa (List.mem_of_getElem? (i := 142) (by decide +kernel)) rfl
theorem q_100 : Cond.selects RX4 yX4_append yX4_append ∈ qA := qa (List.mem_of_getElem? (i := 143) (by decide +kernel)) rfl
theorem q_101 : Cond.code yX4_append cX4_append 2 none ∈ qA := qa (List.mem_of_getElem? (i := 144) (by decide +kernel)) rfl
theorem q_102 : Cond.fieldLink RX5 14 "QuantileDigests$State" "settings" "LQuantileDigests$Row;" ∈ qA := qa (List.mem_of_getElem? (i := 145) (by decide +kernel)) rfl
theorem q_103 : Cond.fieldLink RX7 73 "QuantileDigests$State" "settings" "LQuantileDigests$Row;" ∈ qA := qa (List.mem_of_getElem? (i := 146) (by decide +kernel)) rfl
theorem q_104 : Cond.fieldLink RX5 23 "QuantileDigests$State" "first" "LQuantileDigests$Digest;" ∈ qA := qa (List.mem_of_getElem? (i := 147) (by decide +kernel)) rfl
theorem q_105 : Cond.fieldLink RX5 27 "QuantileDigests$State" "second" "LQuantileDigests$Digest;" ∈ qA := qa (List.mem_of_getElem? (i := 148) (by decide +kernel)) rfl
theorem q_106 : Cond.fieldLink RX5 30 "QuantileDigests$State" "third" "LQuantileDigests$Digest;" ∈ qA := qa (List.mem_of_getElem? (i := 149) (by decide +kernel)) rfl
theorem q_116 : Cond.classLink RX7 16 RX2 ∈ qA := qa (List.mem_of_getElem? (i := 159) (by decide +kernel)) rfl
theorem q_117 : Cond.instantiable RX2 2 ∈ qA := qa (List.mem_of_getElem? (i := 160) (by decide +kernel)) rfl
theorem q_118 : Cond.methodLink RX7 18 yX2_init ∈ qA := qa (List.mem_of_getElem? (i := 161) (by decide +kernel)) rfl
theorem q_119 : Cond.instanceMethod yX2_init ∈ qA := qa (List.mem_of_getElem? (i := 162) (by decide +kernel)) rfl
theorem q_120 : Cond.code yX2_init cX2_init 2 none ∈ qA := qa (List.mem_of_getElem? (i := 163) (by decide +kernel)) rfl
theorem q_121 : Cond.methodLink RX2 3 objectInit ∈ qA := qa (List.mem_of_getElem? (i := 164) (by decide +kernel)) rfl
theorem q_122 : Cond.classLink RX2 9 RX5 ∈ qA := qa (List.mem_of_getElem? (i := 165) (by decide +kernel)) rfl
theorem q_123 : Cond.arrayOver (Jvm.ClassFile.FieldType.object "QuantileDigests$State") ∈ lw_tbl := List.mem_of_getElem? (i := 166) (by decide +kernel)
theorem q_124 : Cond.methodLink RX2 21 yX5_init ∈ qA := qa (List.mem_of_getElem? (i := 167) (by decide +kernel)) rfl
theorem q_125 : Cond.fieldLink RX2 11 "QuantileDigests$History" "states" "[LQuantileDigests$State;" ∈ qA := qa (List.mem_of_getElem? (i := 168) (by decide +kernel)) rfl
theorem q_126 : Cond.fieldLink RX2 17 "QuantileDigests$History" "size" "I" ∈ qA := qa (List.mem_of_getElem? (i := 169) (by decide +kernel)) rfl
theorem q_132 : Cond.classLink RX7 23 RX4 ∈ qA := qa (List.mem_of_getElem? (i := 175) (by decide +kernel)) rfl
theorem q_133 : Cond.methodLink RX7 25 yX4_init ∈ qA := qa (List.mem_of_getElem? (i := 176) (by decide +kernel)) rfl
theorem q_134 : Cond.classLink RX7 32 RX3 ∈ qA := qa (List.mem_of_getElem? (i := 177) (by decide +kernel)) rfl
theorem q_135 : Cond.instantiable RX3 3 ∈ qA := qa (List.mem_of_getElem? (i := 178) (by decide +kernel)) rfl
theorem q_136 : Cond.methodLinkNest RX7 34 yX3_init RX7 ∈ lw_tbl := List.mem_of_getElem? (i := 179) (by decide +kernel)
theorem q_137 : Cond.instanceMethod yX3_init ∈ qA := qa (List.mem_of_getElem? (i := 180) (by decide +kernel)) rfl
theorem q_138 : Cond.code yX3_init cX3_init 1 none ∈ qA := qa (List.mem_of_getElem? (i := 181) (by decide +kernel)) rfl
theorem q_139 : Cond.methodLink RX3 3 objectInit ∈ qA := qa (List.mem_of_getElem? (i := 182) (by decide +kernel)) rfl
theorem q_140 : Cond.classLink RX3 9 RX4 ∈ qA := qa (List.mem_of_getElem? (i := 183) (by decide +kernel)) rfl
theorem q_141 : Cond.methodLink RX3 11 yX4_init ∈ qA := qa (List.mem_of_getElem? (i := 184) (by decide +kernel)) rfl
theorem q_142 : Cond.fieldLink RX3 14 "QuantileDigests$Part" "values" "LQuantileDigests$Row;" ∈ qA := qa (List.mem_of_getElem? (i := 185) (by decide +kernel)) rfl
theorem q_143 : Cond.fieldLink RX6 75 "QuantileDigests$Part" "values" "LQuantileDigests$Row;" ∈ qA := qa (List.mem_of_getElem? (i := 186) (by decide +kernel)) rfl
theorem q_144 : Cond.fieldLink RX7 221 "QuantileDigests$Part" "values" "LQuantileDigests$Row;" ∈ qA := qa (List.mem_of_getElem? (i := 187) (by decide +kernel)) rfl
theorem q_145 : Cond.fieldLink RX3 20 "QuantileDigests$Part" "digest" "I" ∈ qA := qa (List.mem_of_getElem? (i := 188) (by decide +kernel)) rfl
theorem q_146 : Cond.fieldLink RX6 68 "QuantileDigests$Part" "digest" "I" ∈ qA := qa (List.mem_of_getElem? (i := 189) (by decide +kernel)) rfl
theorem q_147 : Cond.fieldLink RX7 218 "QuantileDigests$Part" "digest" "I" ∈ qA := qa (List.mem_of_getElem? (i := 190) (by decide +kernel)) rfl
theorem q_148 : Cond.fieldLink RX3 24 "QuantileDigests$Part" "end" "I" ∈ qA := qa (List.mem_of_getElem? (i := 191) (by decide +kernel)) rfl
theorem q_149 : Cond.fieldLink RX6 42 "QuantileDigests$Part" "end" "I" ∈ qA := qa (List.mem_of_getElem? (i := 192) (by decide +kernel)) rfl
theorem q_150 : Cond.fieldLink RX7 222 "QuantileDigests$Part" "end" "I" ∈ qA := qa (List.mem_of_getElem? (i := 193) (by decide +kernel)) rfl
theorem q_158 : Cond.classLink RX7 39 RX6 ∈ qA := qa (List.mem_of_getElem? (i := 201) (by decide +kernel)) rfl
theorem q_159 : Cond.instantiable RX6 4 ∈ qA := qa (List.mem_of_getElem? (i := 202) (by decide +kernel)) rfl
theorem q_160 : Cond.methodLinkNest RX7 41 yX6_init RX7 ∈ lw_tbl := List.mem_of_getElem? (i := 203) (by decide +kernel)
theorem q_161 : Cond.instanceMethod yX6_init ∈ qA := qa (List.mem_of_getElem? (i := 204) (by decide +kernel)) rfl
theorem q_162 : Cond.code yX6_init cX6_init 1 none ∈ qA := qa (List.mem_of_getElem? (i := 205) (by decide +kernel)) rfl
theorem q_163 : Cond.methodLink RX6 3 objectInit ∈ qA := qa (List.mem_of_getElem? (i := 206) (by decide +kernel)) rfl
theorem q_164 : Cond.classLink RX6 9 RX4 ∈ qA := qa (List.mem_of_getElem? (i := 207) (by decide +kernel)) rfl
theorem q_165 : Cond.methodLink RX6 11 yX4_init ∈ qA := qa (List.mem_of_getElem? (i := 208) (by decide +kernel)) rfl
theorem q_166 : Cond.fieldLink RX6 14 "QuantileDigests$TextFault" "weights" "LQuantileDigests$Row;" ∈ qA := qa (List.mem_of_getElem? (i := 209) (by decide +kernel)) rfl
theorem q_167 : Cond.fieldLink RX6 20 "QuantileDigests$TextFault" "position" "I" ∈ qA := qa (List.mem_of_getElem? (i := 210) (by decide +kernel)) rfl
theorem q_168 : Cond.fieldLink RX7 208 "QuantileDigests$TextFault" "position" "I" ∈ qA := qa (List.mem_of_getElem? (i := 211) (by decide +kernel)) rfl
theorem q_169 : Cond.fieldLink RX6 24 "QuantileDigests$TextFault" "reason" "I" ∈ qA := qa (List.mem_of_getElem? (i := 212) (by decide +kernel)) rfl
theorem q_170 : Cond.fieldLink RX7 205 "QuantileDigests$TextFault" "reason" "I" ∈ qA := qa (List.mem_of_getElem? (i := 213) (by decide +kernel)) rfl
theorem q_171 : Cond.fieldLink RX6 27 "QuantileDigests$TextFault" "cause" "I" ∈ qA := qa (List.mem_of_getElem? (i := 214) (by decide +kernel)) rfl
theorem q_172 : Cond.fieldLink RX7 211 "QuantileDigests$TextFault" "cause" "I" ∈ qA := qa (List.mem_of_getElem? (i := 215) (by decide +kernel)) rfl
theorem q_182 : Cond.classLink RX7 46 RX1 ∈ qA := qa (List.mem_of_getElem? (i := 225) (by decide +kernel)) rfl
theorem q_183 : Cond.methodLinkNest RX7 48 yX1_init RX7 ∈ lw_tbl := List.mem_of_getElem? (i := 226) (by decide +kernel)
theorem q_184 : Cond.fieldLink RX7 12 "QuantileDigests" "state" "LQuantileDigests$State;" ∈ qA := qa (List.mem_of_getElem? (i := 227) (by decide +kernel)) rfl
theorem q_185 : Cond.fieldLink RX7 19 "QuantileDigests" "history" "LQuantileDigests$History;" ∈ qA := qa (List.mem_of_getElem? (i := 228) (by decide +kernel)) rfl
theorem q_186 : Cond.fieldLink RX7 28 "QuantileDigests" "text" "LQuantileDigests$Row;" ∈ qA := qa (List.mem_of_getElem? (i := 229) (by decide +kernel)) rfl
theorem q_187 : Cond.fieldLink RX7 35 "QuantileDigests" "part" "LQuantileDigests$Part;" ∈ qA := qa (List.mem_of_getElem? (i := 230) (by decide +kernel)) rfl
theorem q_188 : Cond.fieldLink RX7 42 "QuantileDigests" "textFault" "LQuantileDigests$TextFault;" ∈ qA := qa (List.mem_of_getElem? (i := 231) (by decide +kernel)) rfl
theorem q_189 : Cond.fieldLink RX7 49 "QuantileDigests" "trial" "LQuantileDigests$Heaps;" ∈ qA := qa (List.mem_of_getElem? (i := 232) (by decide +kernel)) rfl
theorem q_203 : Cond.methodLink RL 13 yX7_add ∈ qA := qa (List.mem_of_getElem? (i := 246) (by decide +kernel)) rfl
theorem q_204 : Cond.instanceMethod yX7_add ∈ qA := qa (List.mem_of_getElem? (i := 247) (by decide +kernel)) rfl
theorem q_205 : Cond.selects RX7 yX7_add yX7_add ∈ qA := qa (List.mem_of_getElem? (i := 248) (by decide +kernel)) rfl
theorem q_206 : Cond.code yX7_add cX7_add 6 (some FieldType.int) ∈ qA := qa (List.mem_of_getElem? (i := 249) (by decide +kernel)) rfl
theorem q_207 : Cond.methodLink RX7 53 yX5_digestAt ∈ qA := qa (List.mem_of_getElem? (i := 250) (by decide +kernel)) rfl
theorem q_208 : Cond.instanceMethod yX5_digestAt ∈ qA := qa (List.mem_of_getElem? (i := 251) (by decide +kernel)) rfl
theorem q_209 : Cond.selects RX5 yX5_digestAt yX5_digestAt ∈ qA := qa (List.mem_of_getElem? (i := 252) (by decide +kernel)) rfl
theorem q_210 : Cond.code yX5_digestAt cX5_digestAt 2 (some (FieldType.object "QuantileDigests$Digest")) ∈ qA := qa (List.mem_of_getElem? (i := 253) (by decide +kernel)) rfl
theorem q_211 : Cond.methodLink RX7 57 yX7_isWithin ∈ qA := qa (List.mem_of_getElem? (i := 254) (by decide +kernel)) rfl
theorem q_212 : Cond.static yX7_isWithin ∈ qA := qa (List.mem_of_getElem? (i := 255) (by decide +kernel)) rfl
theorem q_213 : Cond.code yX7_isWithin cX7_isWithin 3 (some FieldType.boolean) ∈ qA := qa (List.mem_of_getElem? (i := 256) (by decide +kernel)) rfl
theorem q_214 : Cond.constant RX7 61 (-1000001 : Int32) ∈ qA := qa (List.mem_of_getElem? (i := 257) (by decide +kernel)) rfl
theorem q_215 : Cond.methodLink RX7 62 yX0_weight ∈ qA := qa (List.mem_of_getElem? (i := 258) (by decide +kernel)) rfl
theorem q_216 : Cond.instanceMethod yX0_weight ∈ qA := qa (List.mem_of_getElem? (i := 259) (by decide +kernel)) rfl
theorem q_217 : Cond.selects RX0 yX0_weight yX0_weight ∈ qA := qa (List.mem_of_getElem? (i := 260) (by decide +kernel)) rfl
theorem q_218 : Cond.code yX0_weight cX0_weight 1 (some FieldType.int) ∈ qA := qa (List.mem_of_getElem? (i := 261) (by decide +kernel)) rfl
theorem q_219 : Cond.methodLink RX0 37 yX4_total ∈ qA := qa (List.mem_of_getElem? (i := 262) (by decide +kernel)) rfl
theorem q_220 : Cond.instanceMethod yX4_total ∈ qA := qa (List.mem_of_getElem? (i := 263) (by decide +kernel)) rfl
theorem q_221 : Cond.selects RX4 yX4_total yX4_total ∈ qA := qa (List.mem_of_getElem? (i := 264) (by decide +kernel)) rfl
theorem q_222 : Cond.code yX4_total cX4_total 3 (some FieldType.int) ∈ qA := qa (List.mem_of_getElem? (i := 265) (by decide +kernel)) rfl
theorem q_223 : Cond.methodLink RX4 23 yX4_at ∈ qA := qa (List.mem_of_getElem? (i := 266) (by decide +kernel)) rfl
theorem q_224 : Cond.instanceMethod yX4_at ∈ qA := qa (List.mem_of_getElem? (i := 267) (by decide +kernel)) rfl
theorem q_225 : Cond.selects RX4 yX4_at yX4_at ∈ qA := qa (List.mem_of_getElem? (i := 268) (by decide +kernel)) rfl
theorem q_226 : Cond.code yX4_at cX4_at 2 (some FieldType.int) ∈ qA := qa (List.mem_of_getElem? (i := 269) (by decide +kernel)) rfl
theorem q_227 : Cond.methodLink RX0 41 yX4_length ∈ qA := qa (List.mem_of_getElem? (i := 270) (by decide +kernel)) rfl
theorem q_228 : Cond.instanceMethod yX4_length ∈ qA := qa (List.mem_of_getElem? (i := 271) (by decide +kernel)) rfl
theorem q_229 : Cond.selects RX4 yX4_length yX4_length ∈ qA := qa (List.mem_of_getElem? (i := 272) (by decide +kernel)) rfl
theorem q_230 : Cond.code yX4_length cX4_length 1 (some FieldType.int) ∈ qA := qa (List.mem_of_getElem? (i := 273) (by decide +kernel)) rfl
theorem q_231 : Cond.constant RX7 68 (-1000003 : Int32) ∈ qA := qa (List.mem_of_getElem? (i := 274) (by decide +kernel)) rfl
theorem q_232 : Cond.methodLink RX7 69 yX2_record ∈ qA := qa (List.mem_of_getElem? (i := 275) (by decide +kernel)) rfl
theorem q_233 : Cond.instanceMethod yX2_record ∈ qA := qa (List.mem_of_getElem? (i := 276) (by decide +kernel)) rfl
theorem q_234 : Cond.selects RX2 yX2_record yX2_record ∈ qA := qa (List.mem_of_getElem? (i := 277) (by decide +kernel)) rfl
theorem q_235 : Cond.code yX2_record cX2_record 3 none ∈ qA := qa (List.mem_of_getElem? (i := 278) (by decide +kernel)) rfl
theorem q_236 : Cond.methodLink RX2 22 yX2_dropOldest ∈ qA := qa (List.mem_of_getElem? (i := 279) (by decide +kernel)) rfl
theorem q_238 : Cond.instanceMethod yX2_dropOldest ∈ qA := qa (List.mem_of_getElem? (i := 281) (by decide +kernel)) rfl
theorem q_239 : Cond.code yX2_dropOldest cX2_dropOldest 3 none ∈ qA := qa (List.mem_of_getElem? (i := 282) (by decide +kernel)) rfl
theorem q_240 : Cond.methodLink RX2 25 yX2_stateAt ∈ qA := qa (List.mem_of_getElem? (i := 283) (by decide +kernel)) rfl
theorem q_242 : Cond.instanceMethod yX2_stateAt ∈ qA := qa (List.mem_of_getElem? (i := 285) (by decide +kernel)) rfl
theorem q_243 : Cond.code yX2_stateAt cX2_stateAt 2 (some (FieldType.object "QuantileDigests$State")) ∈ qA := qa (List.mem_of_getElem? (i := 286) (by decide +kernel)) rfl
theorem q_244 : Cond.methodLink RX2 29 yX5_copyFrom ∈ qA := qa (List.mem_of_getElem? (i := 287) (by decide +kernel)) rfl
theorem q_245 : Cond.instanceMethod yX5_copyFrom ∈ qA := qa (List.mem_of_getElem? (i := 288) (by decide +kernel)) rfl
theorem q_246 : Cond.selects RX5 yX5_copyFrom yX5_copyFrom ∈ qA := qa (List.mem_of_getElem? (i := 289) (by decide +kernel)) rfl
theorem q_247 : Cond.code yX5_copyFrom cX5_copyFrom 2 none ∈ qA := qa (List.mem_of_getElem? (i := 290) (by decide +kernel)) rfl
theorem q_248 : Cond.methodLink RX5 49 yX4_copyFrom ∈ qA := qa (List.mem_of_getElem? (i := 291) (by decide +kernel)) rfl
theorem q_249 : Cond.instanceMethod yX4_copyFrom ∈ qA := qa (List.mem_of_getElem? (i := 292) (by decide +kernel)) rfl
theorem q_250 : Cond.selects RX4 yX4_copyFrom yX4_copyFrom ∈ qA := qa (List.mem_of_getElem? (i := 293) (by decide +kernel)) rfl
theorem q_251 : Cond.code yX4_copyFrom cX4_copyFrom 2 none ∈ qA := qa (List.mem_of_getElem? (i := 294) (by decide +kernel)) rfl
theorem q_252 : Cond.methodLink RX4 35 Lib.Math.min.name ∈ qA := qa (List.mem_of_getElem? (i := 295) (by decide +kernel)) rfl
theorem q_253 : Cond.static Lib.Math.min.name ∈ qA := qa (List.mem_of_getElem? (i := 296) (by decide +kernel)) rfl
theorem q_254 : Cond.code Lib.Math.min.name Lib.Math.min.code 2 (some FieldType.int) ∈ qA := qa (List.mem_of_getElem? (i := 297) (by decide +kernel)) rfl
theorem q_255 : Cond.methodLink RX4 38 arraycopyName ∈ qA := qa (List.mem_of_getElem? (i := 298) (by decide +kernel)) rfl
theorem q_256 : Cond.static arraycopyName ∈ qA := qa (List.mem_of_getElem? (i := 299) (by decide +kernel)) rfl
theorem q_257 : Cond.native arraycopyName ∈ qA := qa (List.mem_of_getElem? (i := 300) (by decide +kernel)) rfl
theorem q_258 : Cond.methodLink RX5 53 yX0_copyFrom ∈ qA := qa (List.mem_of_getElem? (i := 301) (by decide +kernel)) rfl
theorem q_259 : Cond.instanceMethod yX0_copyFrom ∈ qA := qa (List.mem_of_getElem? (i := 302) (by decide +kernel)) rfl
theorem q_260 : Cond.selects RX0 yX0_copyFrom yX0_copyFrom ∈ qA := qa (List.mem_of_getElem? (i := 303) (by decide +kernel)) rfl
theorem q_261 : Cond.code yX0_copyFrom cX0_copyFrom 2 none ∈ qA := qa (List.mem_of_getElem? (i := 304) (by decide +kernel)) rfl
theorem q_262 : Cond.methodLink RX0 97 yX1_copyFrom ∈ qA := qa (List.mem_of_getElem? (i := 305) (by decide +kernel)) rfl
theorem q_263 : Cond.instanceMethod yX1_copyFrom ∈ qA := qa (List.mem_of_getElem? (i := 306) (by decide +kernel)) rfl
theorem q_264 : Cond.selects RX1 yX1_copyFrom yX1_copyFrom ∈ qA := qa (List.mem_of_getElem? (i := 307) (by decide +kernel)) rfl
theorem q_265 : Cond.code yX1_copyFrom cX1_copyFrom 2 none ∈ qA := qa (List.mem_of_getElem? (i := 308) (by decide +kernel)) rfl
theorem q_266 : Cond.methodLink RX1 36 yX4_copyFrom ∈ qA := qa (List.mem_of_getElem? (i := 309) (by decide +kernel)) rfl
theorem q_267 : Cond.methodLink RX0 100 yX4_copyFrom ∈ qA := qa (List.mem_of_getElem? (i := 310) (by decide +kernel)) rfl
theorem q_268 : Cond.methodLink RX7 76 yX0_receive ∈ qA := qa (List.mem_of_getElem? (i := 311) (by decide +kernel)) rfl
theorem q_269 : Cond.instanceMethod yX0_receive ∈ qA := qa (List.mem_of_getElem? (i := 312) (by decide +kernel)) rfl
theorem q_270 : Cond.selects RX0 yX0_receive yX0_receive ∈ qA := qa (List.mem_of_getElem? (i := 313) (by decide +kernel)) rfl
theorem q_271 : Cond.code yX0_receive cX0_receive 3 none ∈ qA := qa (List.mem_of_getElem? (i := 314) (by decide +kernel)) rfl
theorem q_272 : Cond.methodLink RX0 71 yX4_at ∈ qA := qa (List.mem_of_getElem? (i := 315) (by decide +kernel)) rfl
theorem q_273 : Cond.methodLink RX0 75 yX0_packBy ∈ qA := qa (List.mem_of_getElem? (i := 316) (by decide +kernel)) rfl
theorem q_274 : Cond.instanceMethod yX0_packBy ∈ qA := qa (List.mem_of_getElem? (i := 317) (by decide +kernel)) rfl
theorem q_275 : Cond.selects RX0 yX0_packBy yX0_packBy ∈ qA := qa (List.mem_of_getElem? (i := 318) (by decide +kernel)) rfl
theorem q_276 : Cond.code yX0_packBy cX0_packBy 2 none ∈ qA := qa (List.mem_of_getElem? (i := 319) (by decide +kernel)) rfl
theorem q_277 : Cond.methodLink RX0 84 yX1_appendEach ∈ qA := qa (List.mem_of_getElem? (i := 320) (by decide +kernel)) rfl
theorem q_278 : Cond.instanceMethod yX1_appendEach ∈ qA := qa (List.mem_of_getElem? (i := 321) (by decide +kernel)) rfl
theorem q_279 : Cond.selects RX1 yX1_appendEach yX1_appendEach ∈ qA := qa (List.mem_of_getElem? (i := 322) (by decide +kernel)) rfl
theorem q_280 : Cond.code yX1_appendEach cX1_appendEach 4 none ∈ qA := qa (List.mem_of_getElem? (i := 323) (by decide +kernel)) rfl
theorem q_281 : Cond.methodLink RX1 29 yX4_length ∈ qA := qa (List.mem_of_getElem? (i := 324) (by decide +kernel)) rfl
theorem q_282 : Cond.methodLink RX1 40 yX4_at ∈ qA := qa (List.mem_of_getElem? (i := 325) (by decide +kernel)) rfl
theorem q_283 : Cond.methodLink RX1 44 yX4_append ∈ qA := qa (List.mem_of_getElem? (i := 326) (by decide +kernel)) rfl
theorem q_284 : Cond.methodLink RX0 88 yX4_empty ∈ qA := qa (List.mem_of_getElem? (i := 327) (by decide +kernel)) rfl
theorem q_285 : Cond.instanceMethod yX4_empty ∈ qA := qa (List.mem_of_getElem? (i := 328) (by decide +kernel)) rfl
theorem q_286 : Cond.selects RX4 yX4_empty yX4_empty ∈ qA := qa (List.mem_of_getElem? (i := 329) (by decide +kernel)) rfl
theorem q_287 : Cond.code yX4_empty cX4_empty 1 none ∈ qA := qa (List.mem_of_getElem? (i := 330) (by decide +kernel)) rfl
theorem q_288 : Cond.methodLink RX0 91 yX1_packBy ∈ qA := qa (List.mem_of_getElem? (i := 331) (by decide +kernel)) rfl
theorem q_289 : Cond.instanceMethod yX1_packBy ∈ qA := qa (List.mem_of_getElem? (i := 332) (by decide +kernel)) rfl
theorem q_290 : Cond.selects RX1 yX1_packBy yX1_packBy ∈ qA := qa (List.mem_of_getElem? (i := 333) (by decide +kernel)) rfl
theorem q_291 : Cond.code yX1_packBy cX1_packBy 2 none ∈ qA := qa (List.mem_of_getElem? (i := 334) (by decide +kernel)) rfl
theorem q_292 : Cond.methodLink RX1 53 yX1_order ∈ qA := qa (List.mem_of_getElem? (i := 335) (by decide +kernel)) rfl
theorem q_294 : Cond.instanceMethod yX1_order ∈ qA := qa (List.mem_of_getElem? (i := 337) (by decide +kernel)) rfl
theorem q_295 : Cond.code yX1_order cX1_order 3 none ∈ qA := qa (List.mem_of_getElem? (i := 338) (by decide +kernel)) rfl
theorem q_296 : Cond.methodLink RX1 50 yX1_size ∈ qA := qa (List.mem_of_getElem? (i := 339) (by decide +kernel)) rfl
theorem q_297 : Cond.instanceMethod yX1_size ∈ qA := qa (List.mem_of_getElem? (i := 340) (by decide +kernel)) rfl
theorem q_298 : Cond.selects RX1 yX1_size yX1_size ∈ qA := qa (List.mem_of_getElem? (i := 341) (by decide +kernel)) rfl
theorem q_299 : Cond.code yX1_size cX1_size 1 (some FieldType.int) ∈ qA := qa (List.mem_of_getElem? (i := 342) (by decide +kernel)) rfl
theorem q_300 : Cond.methodLink RX1 59 yX1_isMiddleAbove ∈ qA := qa (List.mem_of_getElem? (i := 343) (by decide +kernel)) rfl
theorem q_302 : Cond.instanceMethod yX1_isMiddleAbove ∈ qA := qa (List.mem_of_getElem? (i := 345) (by decide +kernel)) rfl
theorem q_303 : Cond.code yX1_isMiddleAbove cX1_isMiddleAbove 7 (some FieldType.boolean) ∈ qA := qa (List.mem_of_getElem? (i := 346) (by decide +kernel)) rfl
theorem q_304 : Cond.methodLink RX1 63 yX1_exchange ∈ qA := qa (List.mem_of_getElem? (i := 347) (by decide +kernel)) rfl
theorem q_306 : Cond.instanceMethod yX1_exchange ∈ qA := qa (List.mem_of_getElem? (i := 349) (by decide +kernel)) rfl
theorem q_307 : Cond.code yX1_exchange cX1_exchange 3 none ∈ qA := qa (List.mem_of_getElem? (i := 350) (by decide +kernel)) rfl
theorem q_308 : Cond.methodLink RX1 67 yX4_exchange ∈ qA := qa (List.mem_of_getElem? (i := 351) (by decide +kernel)) rfl
theorem q_309 : Cond.instanceMethod yX4_exchange ∈ qA := qa (List.mem_of_getElem? (i := 352) (by decide +kernel)) rfl
theorem q_310 : Cond.selects RX4 yX4_exchange yX4_exchange ∈ qA := qa (List.mem_of_getElem? (i := 353) (by decide +kernel)) rfl
theorem q_311 : Cond.code yX4_exchange cX4_exchange 4 none ∈ qA := qa (List.mem_of_getElem? (i := 354) (by decide +kernel)) rfl
theorem q_312 : Cond.methodLink RX1 56 yX1_putTogether ∈ qA := qa (List.mem_of_getElem? (i := 355) (by decide +kernel)) rfl
theorem q_314 : Cond.instanceMethod yX1_putTogether ∈ qA := qa (List.mem_of_getElem? (i := 357) (by decide +kernel)) rfl
theorem q_315 : Cond.code yX1_putTogether cX1_putTogether 7 none ∈ qA := qa (List.mem_of_getElem? (i := 358) (by decide +kernel)) rfl
theorem q_316 : Cond.methodLink RX1 68 yX4_total ∈ qA := qa (List.mem_of_getElem? (i := 359) (by decide +kernel)) rfl
theorem q_317 : Cond.methodLink RX1 71 yX1_isWithinPlace ∈ qA := qa (List.mem_of_getElem? (i := 360) (by decide +kernel)) rfl
theorem q_318 : Cond.static yX1_isWithinPlace ∈ qA := qa (List.mem_of_getElem? (i := 361) (by decide +kernel)) rfl
theorem q_319 : Cond.code yX1_isWithinPlace cX1_isWithinPlace 4 (some FieldType.boolean) ∈ qA := qa (List.mem_of_getElem? (i := 362) (by decide +kernel)) rfl
theorem q_320 : Cond.methodLink RX1 75 yX1_unite ∈ qA := qa (List.mem_of_getElem? (i := 363) (by decide +kernel)) rfl
theorem q_322 : Cond.instanceMethod yX1_unite ∈ qA := qa (List.mem_of_getElem? (i := 365) (by decide +kernel)) rfl
theorem q_323 : Cond.code yX1_unite cX1_unite 3 none ∈ qA := qa (List.mem_of_getElem? (i := 366) (by decide +kernel)) rfl
theorem q_324 : Cond.methodLink RX1 81 yX4_put ∈ qA := qa (List.mem_of_getElem? (i := 367) (by decide +kernel)) rfl
theorem q_325 : Cond.instanceMethod yX4_put ∈ qA := qa (List.mem_of_getElem? (i := 368) (by decide +kernel)) rfl
theorem q_326 : Cond.selects RX4 yX4_put yX4_put ∈ qA := qa (List.mem_of_getElem? (i := 369) (by decide +kernel)) rfl
theorem q_327 : Cond.code yX4_put cX4_put 3 none ∈ qA := qa (List.mem_of_getElem? (i := 370) (by decide +kernel)) rfl
theorem q_328 : Cond.methodLink RX1 84 Lib.Math.min.name ∈ qA := qa (List.mem_of_getElem? (i := 371) (by decide +kernel)) rfl
theorem q_329 : Cond.methodLink RX1 90 Lib.Math.max.name ∈ qA := qa (List.mem_of_getElem? (i := 372) (by decide +kernel)) rfl
theorem q_330 : Cond.methodLink RX1 78 yX1_shortenTo ∈ qA := qa (List.mem_of_getElem? (i := 373) (by decide +kernel)) rfl
theorem q_332 : Cond.instanceMethod yX1_shortenTo ∈ qA := qa (List.mem_of_getElem? (i := 375) (by decide +kernel)) rfl
theorem q_333 : Cond.code yX1_shortenTo cX1_shortenTo 2 none ∈ qA := qa (List.mem_of_getElem? (i := 376) (by decide +kernel)) rfl
theorem q_334 : Cond.methodLink RX1 93 yX4_shortenTo ∈ qA := qa (List.mem_of_getElem? (i := 377) (by decide +kernel)) rfl
theorem q_335 : Cond.instanceMethod yX4_shortenTo ∈ qA := qa (List.mem_of_getElem? (i := 378) (by decide +kernel)) rfl
theorem q_336 : Cond.selects RX4 yX4_shortenTo yX4_shortenTo ∈ qA := qa (List.mem_of_getElem? (i := 379) (by decide +kernel)) rfl
theorem q_337 : Cond.code yX4_shortenTo cX4_shortenTo 2 none ∈ qA := qa (List.mem_of_getElem? (i := 380) (by decide +kernel)) rfl
theorem q_338 : Cond.methodLink RX0 78 yX4_append ∈ qA := qa (List.mem_of_getElem? (i := 381) (by decide +kernel)) rfl
theorem q_339 : Cond.methodLink RX0 81 yX4_insertInOrder ∈ qA := qa (List.mem_of_getElem? (i := 382) (by decide +kernel)) rfl
theorem q_340 : Cond.instanceMethod yX4_insertInOrder ∈ qA := qa (List.mem_of_getElem? (i := 383) (by decide +kernel)) rfl
theorem q_341 : Cond.selects RX4 yX4_insertInOrder yX4_insertInOrder ∈ qA := qa (List.mem_of_getElem? (i := 384) (by decide +kernel)) rfl
theorem q_342 : Cond.code yX4_insertInOrder cX4_insertInOrder 3 none ∈ qA := qa (List.mem_of_getElem? (i := 385) (by decide +kernel)) rfl
theorem q_343 : Cond.methodLink RX4 27 yX4_append ∈ qA := qa (List.mem_of_getElem? (i := 386) (by decide +kernel)) rfl
theorem q_344 : Cond.methodLink RX4 31 yX4_exchange ∈ qA := qa (List.mem_of_getElem? (i := 387) (by decide +kernel)) rfl
theorem q_345 : Cond.methodLink RL 18 yX7_pack ∈ qA := qa (List.mem_of_getElem? (i := 388) (by decide +kernel)) rfl
theorem q_346 : Cond.instanceMethod yX7_pack ∈ qA := qa (List.mem_of_getElem? (i := 389) (by decide +kernel)) rfl
theorem q_347 : Cond.selects RX7 yX7_pack yX7_pack ∈ qA := qa (List.mem_of_getElem? (i := 390) (by decide +kernel)) rfl
theorem q_348 : Cond.code yX7_pack cX7_pack 3 (some FieldType.int) ∈ qA := qa (List.mem_of_getElem? (i := 391) (by decide +kernel)) rfl
theorem q_349 : Cond.methodLink RX7 80 yX4_at ∈ qA := qa (List.mem_of_getElem? (i := 392) (by decide +kernel)) rfl
theorem q_350 : Cond.methodLink RX7 84 yX0_packBy ∈ qA := qa (List.mem_of_getElem? (i := 393) (by decide +kernel)) rfl
theorem q_351 : Cond.methodLink RX7 90 yX1_size ∈ qA := qa (List.mem_of_getElem? (i := 394) (by decide +kernel)) rfl
theorem q_352 : Cond.methodLink RL 23 yX7_join ∈ qA := qa (List.mem_of_getElem? (i := 395) (by decide +kernel)) rfl
theorem q_353 : Cond.instanceMethod yX7_join ∈ qA := qa (List.mem_of_getElem? (i := 396) (by decide +kernel)) rfl
theorem q_354 : Cond.selects RX7 yX7_join yX7_join ∈ qA := qa (List.mem_of_getElem? (i := 397) (by decide +kernel)) rfl
theorem q_355 : Cond.code yX7_join cX7_join 5 (some FieldType.int) ∈ qA := qa (List.mem_of_getElem? (i := 398) (by decide +kernel)) rfl
theorem q_356 : Cond.methodLink RX7 93 yX0_takeOver ∈ qA := qa (List.mem_of_getElem? (i := 399) (by decide +kernel)) rfl
theorem q_357 : Cond.instanceMethod yX0_takeOver ∈ qA := qa (List.mem_of_getElem? (i := 400) (by decide +kernel)) rfl
theorem q_358 : Cond.selects RX0 yX0_takeOver yX0_takeOver ∈ qA := qa (List.mem_of_getElem? (i := 401) (by decide +kernel)) rfl
theorem q_359 : Cond.code yX0_takeOver cX0_takeOver 4 none ∈ qA := qa (List.mem_of_getElem? (i := 402) (by decide +kernel)) rfl
theorem q_360 : Cond.methodLink RX0 92 yX1_appendAll ∈ qA := qa (List.mem_of_getElem? (i := 403) (by decide +kernel)) rfl
theorem q_361 : Cond.instanceMethod yX1_appendAll ∈ qA := qa (List.mem_of_getElem? (i := 404) (by decide +kernel)) rfl
theorem q_362 : Cond.selects RX1 yX1_appendAll yX1_appendAll ∈ qA := qa (List.mem_of_getElem? (i := 405) (by decide +kernel)) rfl
theorem q_363 : Cond.code yX1_appendAll cX1_appendAll 2 none ∈ qA := qa (List.mem_of_getElem? (i := 406) (by decide +kernel)) rfl
theorem q_364 : Cond.methodLink RX1 47 yX4_appendAll ∈ qA := qa (List.mem_of_getElem? (i := 407) (by decide +kernel)) rfl
theorem q_365 : Cond.instanceMethod yX4_appendAll ∈ qA := qa (List.mem_of_getElem? (i := 408) (by decide +kernel)) rfl
theorem q_366 : Cond.selects RX4 yX4_appendAll yX4_appendAll ∈ qA := qa (List.mem_of_getElem? (i := 409) (by decide +kernel)) rfl
theorem q_367 : Cond.code yX4_appendAll cX4_appendAll 3 none ∈ qA := qa (List.mem_of_getElem? (i := 410) (by decide +kernel)) rfl
theorem q_368 : Cond.methodLink RL 28 yX7_clear ∈ qA := qa (List.mem_of_getElem? (i := 411) (by decide +kernel)) rfl
theorem q_369 : Cond.instanceMethod yX7_clear ∈ qA := qa (List.mem_of_getElem? (i := 412) (by decide +kernel)) rfl
theorem q_370 : Cond.selects RX7 yX7_clear yX7_clear ∈ qA := qa (List.mem_of_getElem? (i := 413) (by decide +kernel)) rfl
theorem q_371 : Cond.code yX7_clear cX7_clear 4 (some FieldType.int) ∈ qA := qa (List.mem_of_getElem? (i := 414) (by decide +kernel)) rfl
theorem q_372 : Cond.methodLink RX7 97 yX0_empty ∈ qA := qa (List.mem_of_getElem? (i := 415) (by decide +kernel)) rfl
theorem q_373 : Cond.instanceMethod yX0_empty ∈ qA := qa (List.mem_of_getElem? (i := 416) (by decide +kernel)) rfl
theorem q_374 : Cond.selects RX0 yX0_empty yX0_empty ∈ qA := qa (List.mem_of_getElem? (i := 417) (by decide +kernel)) rfl
theorem q_375 : Cond.code yX0_empty cX0_empty 1 none ∈ qA := qa (List.mem_of_getElem? (i := 418) (by decide +kernel)) rfl
theorem q_376 : Cond.methodLink RX0 96 yX1_empty ∈ qA := qa (List.mem_of_getElem? (i := 419) (by decide +kernel)) rfl
theorem q_377 : Cond.instanceMethod yX1_empty ∈ qA := qa (List.mem_of_getElem? (i := 420) (by decide +kernel)) rfl
theorem q_378 : Cond.selects RX1 yX1_empty yX1_empty ∈ qA := qa (List.mem_of_getElem? (i := 421) (by decide +kernel)) rfl
theorem q_379 : Cond.code yX1_empty cX1_empty 1 none ∈ qA := qa (List.mem_of_getElem? (i := 422) (by decide +kernel)) rfl
theorem q_380 : Cond.methodLink RX1 33 yX4_empty ∈ qA := qa (List.mem_of_getElem? (i := 423) (by decide +kernel)) rfl
theorem q_381 : Cond.methodLink RL 32 yX7_set ∈ qA := qa (List.mem_of_getElem? (i := 424) (by decide +kernel)) rfl
theorem q_382 : Cond.instanceMethod yX7_set ∈ qA := qa (List.mem_of_getElem? (i := 425) (by decide +kernel)) rfl
theorem q_383 : Cond.selects RX7 yX7_set yX7_set ∈ qA := qa (List.mem_of_getElem? (i := 426) (by decide +kernel)) rfl
theorem q_384 : Cond.code yX7_set cX7_set 4 (some FieldType.int) ∈ qA := qa (List.mem_of_getElem? (i := 427) (by decide +kernel)) rfl
theorem q_385 : Cond.methodLink RX7 100 yX7_highestSetting ∈ qA := qa (List.mem_of_getElem? (i := 428) (by decide +kernel)) rfl
theorem q_386 : Cond.static yX7_highestSetting ∈ qA := qa (List.mem_of_getElem? (i := 429) (by decide +kernel)) rfl
theorem q_387 : Cond.code yX7_highestSetting cX7_highestSetting 1 (some FieldType.int) ∈ qA := qa (List.mem_of_getElem? (i := 430) (by decide +kernel)) rfl
theorem q_388 : Cond.methodLink RX7 103 yX4_put ∈ qA := qa (List.mem_of_getElem? (i := 431) (by decide +kernel)) rfl
theorem q_389 : Cond.methodLink RL 36 yX7_heapOf ∈ qA := qa (List.mem_of_getElem? (i := 432) (by decide +kernel)) rfl
theorem q_390 : Cond.instanceMethod yX7_heapOf ∈ qA := qa (List.mem_of_getElem? (i := 433) (by decide +kernel)) rfl
theorem q_391 : Cond.selects RX7 yX7_heapOf yX7_heapOf ∈ qA := qa (List.mem_of_getElem? (i := 434) (by decide +kernel)) rfl
theorem q_392 : Cond.code yX7_heapOf cX7_heapOf 6 (some FieldType.int) ∈ qA := qa (List.mem_of_getElem? (i := 435) (by decide +kernel)) rfl
theorem q_393 : Cond.constant RX7 107 (-1000004 : Int32) ∈ qA := qa (List.mem_of_getElem? (i := 436) (by decide +kernel)) rfl
theorem q_394 : Cond.methodLink RX7 120 yX1_wholeMiddle ∈ qA := qa (List.mem_of_getElem? (i := 437) (by decide +kernel)) rfl
theorem q_395 : Cond.instanceMethod yX1_wholeMiddle ∈ qA := qa (List.mem_of_getElem? (i := 438) (by decide +kernel)) rfl
theorem q_396 : Cond.selects RX1 yX1_wholeMiddle yX1_wholeMiddle ∈ qA := qa (List.mem_of_getElem? (i := 439) (by decide +kernel)) rfl
theorem q_397 : Cond.code yX1_wholeMiddle cX1_wholeMiddle 3 (some FieldType.int) ∈ qA := qa (List.mem_of_getElem? (i := 440) (by decide +kernel)) rfl
theorem q_398 : Cond.methodLink RX7 123 yX1_weightAheadOf ∈ qA := qa (List.mem_of_getElem? (i := 441) (by decide +kernel)) rfl
theorem q_399 : Cond.instanceMethod yX1_weightAheadOf ∈ qA := qa (List.mem_of_getElem? (i := 442) (by decide +kernel)) rfl
theorem q_400 : Cond.selects RX1 yX1_weightAheadOf yX1_weightAheadOf ∈ qA := qa (List.mem_of_getElem? (i := 443) (by decide +kernel)) rfl
theorem q_401 : Cond.code yX1_weightAheadOf cX1_weightAheadOf 4 (some FieldType.int) ∈ qA := qa (List.mem_of_getElem? (i := 444) (by decide +kernel)) rfl
theorem q_402 : Cond.methodLink RX7 126 yX1_floatMiddle ∈ qA := qa (List.mem_of_getElem? (i := 445) (by decide +kernel)) rfl
theorem q_403 : Cond.instanceMethod yX1_floatMiddle ∈ qA := qa (List.mem_of_getElem? (i := 446) (by decide +kernel)) rfl
theorem q_404 : Cond.selects RX1 yX1_floatMiddle yX1_floatMiddle ∈ qA := qa (List.mem_of_getElem? (i := 447) (by decide +kernel)) rfl
theorem q_405 : Cond.code yX1_floatMiddle cX1_floatMiddle 3 (some FieldType.float) ∈ qA := qa (List.mem_of_getElem? (i := 448) (by decide +kernel)) rfl
theorem q_406 : Cond.methodLink RX7 130 yX7_floatBits ∈ qA := qa (List.mem_of_getElem? (i := 449) (by decide +kernel)) rfl
theorem q_407 : Cond.static yX7_floatBits ∈ qA := qa (List.mem_of_getElem? (i := 450) (by decide +kernel)) rfl
theorem q_408 : Cond.code yX7_floatBits cX7_floatBits 4 (some FieldType.int) ∈ qA := qa (List.mem_of_getElem? (i := 451) (by decide +kernel)) rfl
theorem q_409 : Cond.constantFloat RX7 229 (1056964608 : UInt32) ∈ qA := qa (List.mem_of_getElem? (i := 452) (by decide +kernel)) rfl
theorem q_410 : Cond.constantFloat RX7 230 (1258291200 : UInt32) ∈ qA := qa (List.mem_of_getElem? (i := 453) (by decide +kernel)) rfl
theorem q_411 : Cond.constant RX7 231 (8388608 : Int32) ∈ qA := qa (List.mem_of_getElem? (i := 454) (by decide +kernel)) rfl
theorem q_412 : Cond.methodLink RL 40 yX7_bufferOf ∈ qA := qa (List.mem_of_getElem? (i := 455) (by decide +kernel)) rfl
theorem q_413 : Cond.instanceMethod yX7_bufferOf ∈ qA := qa (List.mem_of_getElem? (i := 456) (by decide +kernel)) rfl
theorem q_414 : Cond.selects RX7 yX7_bufferOf yX7_bufferOf ∈ qA := qa (List.mem_of_getElem? (i := 457) (by decide +kernel)) rfl
theorem q_415 : Cond.code yX7_bufferOf cX7_bufferOf 4 (some FieldType.int) ∈ qA := qa (List.mem_of_getElem? (i := 458) (by decide +kernel)) rfl
theorem q_416 : Cond.methodLink RX7 137 yX4_length ∈ qA := qa (List.mem_of_getElem? (i := 459) (by decide +kernel)) rfl
theorem q_417 : Cond.methodLink RL 44 yX7_digestOf ∈ qA := qa (List.mem_of_getElem? (i := 460) (by decide +kernel)) rfl
theorem q_418 : Cond.instanceMethod yX7_digestOf ∈ qA := qa (List.mem_of_getElem? (i := 461) (by decide +kernel)) rfl
theorem q_419 : Cond.selects RX7 yX7_digestOf yX7_digestOf ∈ qA := qa (List.mem_of_getElem? (i := 462) (by decide +kernel)) rfl
theorem q_420 : Cond.code yX7_digestOf cX7_digestOf 4 (some FieldType.int) ∈ qA := qa (List.mem_of_getElem? (i := 463) (by decide +kernel)) rfl
theorem q_421 : Cond.methodLink RX7 140 yX0_least ∈ qA := qa (List.mem_of_getElem? (i := 464) (by decide +kernel)) rfl
theorem q_422 : Cond.instanceMethod yX0_least ∈ qA := qa (List.mem_of_getElem? (i := 465) (by decide +kernel)) rfl
theorem q_423 : Cond.selects RX0 yX0_least yX0_least ∈ qA := qa (List.mem_of_getElem? (i := 466) (by decide +kernel)) rfl
theorem q_424 : Cond.code yX0_least cX0_least 1 (some FieldType.int) ∈ qA := qa (List.mem_of_getElem? (i := 467) (by decide +kernel)) rfl
theorem q_425 : Cond.methodLink RX0 50 yX4_least ∈ qA := qa (List.mem_of_getElem? (i := 468) (by decide +kernel)) rfl
theorem q_426 : Cond.instanceMethod yX4_least ∈ qA := qa (List.mem_of_getElem? (i := 469) (by decide +kernel)) rfl
theorem q_427 : Cond.selects RX4 yX4_least yX4_least ∈ qA := qa (List.mem_of_getElem? (i := 470) (by decide +kernel)) rfl
theorem q_428 : Cond.code yX4_least cX4_least 3 (some FieldType.int) ∈ qA := qa (List.mem_of_getElem? (i := 471) (by decide +kernel)) rfl
theorem q_429 : Cond.constant RX4 46 (2147483647 : Int32) ∈ qA := qa (List.mem_of_getElem? (i := 472) (by decide +kernel)) rfl
theorem q_430 : Cond.methodLink RX0 53 Lib.Math.min.name ∈ qA := qa (List.mem_of_getElem? (i := 473) (by decide +kernel)) rfl
theorem q_431 : Cond.methodLink RX7 143 yX0_greatest ∈ qA := qa (List.mem_of_getElem? (i := 474) (by decide +kernel)) rfl
theorem q_432 : Cond.instanceMethod yX0_greatest ∈ qA := qa (List.mem_of_getElem? (i := 475) (by decide +kernel)) rfl
theorem q_433 : Cond.selects RX0 yX0_greatest yX0_greatest ∈ qA := qa (List.mem_of_getElem? (i := 476) (by decide +kernel)) rfl
theorem q_434 : Cond.code yX0_greatest cX0_greatest 1 (some FieldType.int) ∈ qA := qa (List.mem_of_getElem? (i := 477) (by decide +kernel)) rfl
theorem q_435 : Cond.methodLink RX0 62 yX4_greatest ∈ qA := qa (List.mem_of_getElem? (i := 478) (by decide +kernel)) rfl
theorem q_436 : Cond.instanceMethod yX4_greatest ∈ qA := qa (List.mem_of_getElem? (i := 479) (by decide +kernel)) rfl
theorem q_437 : Cond.selects RX4 yX4_greatest yX4_greatest ∈ qA := qa (List.mem_of_getElem? (i := 480) (by decide +kernel)) rfl
theorem q_438 : Cond.code yX4_greatest cX4_greatest 3 (some FieldType.int) ∈ qA := qa (List.mem_of_getElem? (i := 481) (by decide +kernel)) rfl
theorem q_439 : Cond.constant RX4 47 (-2147483648 : Int32) ∈ qA := qa (List.mem_of_getElem? (i := 482) (by decide +kernel)) rfl
theorem q_440 : Cond.methodLink RX0 65 Lib.Math.max.name ∈ qA := qa (List.mem_of_getElem? (i := 483) (by decide +kernel)) rfl
theorem q_441 : Cond.methodLink RX7 146 yX0_sum ∈ qA := qa (List.mem_of_getElem? (i := 484) (by decide +kernel)) rfl
theorem q_442 : Cond.instanceMethod yX0_sum ∈ qA := qa (List.mem_of_getElem? (i := 485) (by decide +kernel)) rfl
theorem q_443 : Cond.selects RX0 yX0_sum yX0_sum ∈ qA := qa (List.mem_of_getElem? (i := 486) (by decide +kernel)) rfl
theorem q_444 : Cond.code yX0_sum cX0_sum 1 (some FieldType.int) ∈ qA := qa (List.mem_of_getElem? (i := 487) (by decide +kernel)) rfl
theorem q_445 : Cond.methodLink RX7 149 yX7_packOnTrial ∈ qA := qa (List.mem_of_getElem? (i := 488) (by decide +kernel)) rfl
theorem q_447 : Cond.instanceMethod yX7_packOnTrial ∈ qA := qa (List.mem_of_getElem? (i := 490) (by decide +kernel)) rfl
theorem q_448 : Cond.code yX7_packOnTrial cX7_packOnTrial 2 none ∈ qA := qa (List.mem_of_getElem? (i := 491) (by decide +kernel)) rfl
theorem q_449 : Cond.methodLink RX7 225 yX1_copyFrom ∈ qA := qa (List.mem_of_getElem? (i := 492) (by decide +kernel)) rfl
theorem q_450 : Cond.methodLink RX7 184 yX1_appendEach ∈ qA := qa (List.mem_of_getElem? (i := 493) (by decide +kernel)) rfl
theorem q_451 : Cond.methodLink RX7 188 yX1_packBy ∈ qA := qa (List.mem_of_getElem? (i := 494) (by decide +kernel)) rfl
theorem q_452 : Cond.methodLink RX7 153 yX4_greatest ∈ qA := qa (List.mem_of_getElem? (i := 495) (by decide +kernel)) rfl
theorem q_453 : Cond.methodLink RL 48 yX7_quantile ∈ qA := qa (List.mem_of_getElem? (i := 496) (by decide +kernel)) rfl
theorem q_454 : Cond.instanceMethod yX7_quantile ∈ qA := qa (List.mem_of_getElem? (i := 497) (by decide +kernel)) rfl
theorem q_455 : Cond.selects RX7 yX7_quantile yX7_quantile ∈ qA := qa (List.mem_of_getElem? (i := 498) (by decide +kernel)) rfl
theorem q_456 : Cond.code yX7_quantile cX7_quantile 4 (some FieldType.int) ∈ qA := qa (List.mem_of_getElem? (i := 499) (by decide +kernel)) rfl
theorem q_457 : Cond.constant RX7 158 (-1000002 : Int32) ∈ qA := qa (List.mem_of_getElem? (i := 500) (by decide +kernel)) rfl
theorem q_458 : Cond.methodLink RX7 159 yX1_quantileAt ∈ qA := qa (List.mem_of_getElem? (i := 501) (by decide +kernel)) rfl
theorem q_459 : Cond.instanceMethod yX1_quantileAt ∈ qA := qa (List.mem_of_getElem? (i := 502) (by decide +kernel)) rfl
theorem q_460 : Cond.selects RX1 yX1_quantileAt yX1_quantileAt ∈ qA := qa (List.mem_of_getElem? (i := 503) (by decide +kernel)) rfl
theorem q_461 : Cond.code yX1_quantileAt cX1_quantileAt 12 (some FieldType.int) ∈ qA := qa (List.mem_of_getElem? (i := 504) (by decide +kernel)) rfl
theorem q_462 : Cond.methodLink RX1 94 yX4_least ∈ qA := qa (List.mem_of_getElem? (i := 505) (by decide +kernel)) rfl
theorem q_463 : Cond.methodLink RX1 97 yX1_between ∈ qA := qa (List.mem_of_getElem? (i := 506) (by decide +kernel)) rfl
theorem q_464 : Cond.static yX1_between ∈ qA := qa (List.mem_of_getElem? (i := 507) (by decide +kernel)) rfl
theorem q_465 : Cond.code yX1_between cX1_between 22 (some FieldType.int) ∈ qA := qa (List.mem_of_getElem? (i := 508) (by decide +kernel)) rfl
theorem q_466 : Cond.methodLink RX1 104 yJ9_floorDiv_f86c9 ∈ qA := qa (List.mem_of_getElem? (i := 509) (by decide +kernel)) rfl
theorem q_467 : Cond.static yJ9_floorDiv_f86c9 ∈ qA := qa (List.mem_of_getElem? (i := 510) (by decide +kernel)) rfl
theorem q_468 : Cond.code yJ9_floorDiv_f86c9 cJ9_floorDiv_f86c9 6 (some FieldType.long) ∈ qA := qa (List.mem_of_getElem? (i := 511) (by decide +kernel)) rfl
theorem q_469 : Cond.methodLink RX1 101 yX4_greatest ∈ qA := qa (List.mem_of_getElem? (i := 512) (by decide +kernel)) rfl
theorem q_470 : Cond.methodLink RL 52 yX7_truth ∈ qA := qa (List.mem_of_getElem? (i := 513) (by decide +kernel)) rfl
theorem q_471 : Cond.instanceMethod yX7_truth ∈ qA := qa (List.mem_of_getElem? (i := 514) (by decide +kernel)) rfl
theorem q_472 : Cond.selects RX7 yX7_truth yX7_truth ∈ qA := qa (List.mem_of_getElem? (i := 515) (by decide +kernel)) rfl
theorem q_473 : Cond.code yX7_truth cX7_truth 4 (some FieldType.int) ∈ qA := qa (List.mem_of_getElem? (i := 516) (by decide +kernel)) rfl
theorem q_474 : Cond.methodLink RX7 162 yX0_trueQuantileAt ∈ qA := qa (List.mem_of_getElem? (i := 517) (by decide +kernel)) rfl
theorem q_475 : Cond.instanceMethod yX0_trueQuantileAt ∈ qA := qa (List.mem_of_getElem? (i := 518) (by decide +kernel)) rfl
theorem q_476 : Cond.selects RX0 yX0_trueQuantileAt yX0_trueQuantileAt ∈ qA := qa (List.mem_of_getElem? (i := 519) (by decide +kernel)) rfl
theorem q_477 : Cond.code yX0_trueQuantileAt cX0_trueQuantileAt 2 (some FieldType.int) ∈ qA := qa (List.mem_of_getElem? (i := 520) (by decide +kernel)) rfl
theorem q_478 : Cond.methodLinkNest RX0 68 yX7_trueIndex RX7 ∈ lw_tbl := List.mem_of_getElem? (i := 521) (by decide +kernel)
theorem q_479 : Cond.static yX7_trueIndex ∈ qA := qa (List.mem_of_getElem? (i := 522) (by decide +kernel)) rfl
theorem q_480 : Cond.code yX7_trueIndex cX7_trueIndex 2 (some FieldType.int) ∈ qA := qa (List.mem_of_getElem? (i := 523) (by decide +kernel)) rfl
theorem q_481 : Cond.methodLink RL 56 yX7_worst ∈ qA := qa (List.mem_of_getElem? (i := 524) (by decide +kernel)) rfl
theorem q_482 : Cond.instanceMethod yX7_worst ∈ qA := qa (List.mem_of_getElem? (i := 525) (by decide +kernel)) rfl
theorem q_483 : Cond.selects RX7 yX7_worst yX7_worst ∈ qA := qa (List.mem_of_getElem? (i := 526) (by decide +kernel)) rfl
theorem q_484 : Cond.code yX7_worst cX7_worst 8 (some FieldType.int) ∈ qA := qa (List.mem_of_getElem? (i := 527) (by decide +kernel)) rfl
theorem q_485 : Cond.methodLink RX7 165 Lib.Math.abs.name ∈ qA := qa (List.mem_of_getElem? (i := 528) (by decide +kernel)) rfl
theorem q_486 : Cond.static Lib.Math.abs.name ∈ qA := qa (List.mem_of_getElem? (i := 529) (by decide +kernel)) rfl
theorem q_487 : Cond.code Lib.Math.abs.name Lib.Math.abs.code 1 (some FieldType.int) ∈ qA := qa (List.mem_of_getElem? (i := 530) (by decide +kernel)) rfl
theorem q_488 : Cond.methodLink RL 60 yX7_rank ∈ qA := qa (List.mem_of_getElem? (i := 531) (by decide +kernel)) rfl
theorem q_489 : Cond.instanceMethod yX7_rank ∈ qA := qa (List.mem_of_getElem? (i := 532) (by decide +kernel)) rfl
theorem q_490 : Cond.selects RX7 yX7_rank yX7_rank ∈ qA := qa (List.mem_of_getElem? (i := 533) (by decide +kernel)) rfl
theorem q_491 : Cond.code yX7_rank cX7_rank 4 (some FieldType.int) ∈ qA := qa (List.mem_of_getElem? (i := 534) (by decide +kernel)) rfl
theorem q_492 : Cond.methodLink RX7 170 yX1_greatestQAtMost ∈ qA := qa (List.mem_of_getElem? (i := 535) (by decide +kernel)) rfl
theorem q_493 : Cond.instanceMethod yX1_greatestQAtMost ∈ qA := qa (List.mem_of_getElem? (i := 536) (by decide +kernel)) rfl
theorem q_494 : Cond.selects RX1 yX1_greatestQAtMost yX1_greatestQAtMost ∈ qA := qa (List.mem_of_getElem? (i := 537) (by decide +kernel)) rfl
theorem q_495 : Cond.code yX1_greatestQAtMost cX1_greatestQAtMost 4 (some FieldType.int) ∈ qA := qa (List.mem_of_getElem? (i := 538) (by decide +kernel)) rfl
theorem q_496 : Cond.methodLink RX1 108 yX1_quantileAt ∈ qA := qa (List.mem_of_getElem? (i := 539) (by decide +kernel)) rfl
theorem q_497 : Cond.methodLink RL 64 yX7_width ∈ qA := qa (List.mem_of_getElem? (i := 540) (by decide +kernel)) rfl
theorem q_498 : Cond.instanceMethod yX7_width ∈ qA := qa (List.mem_of_getElem? (i := 541) (by decide +kernel)) rfl
theorem q_499 : Cond.selects RX7 yX7_width yX7_width ∈ qA := qa (List.mem_of_getElem? (i := 542) (by decide +kernel)) rfl
theorem q_500 : Cond.code yX7_width cX7_width 4 (some FieldType.int) ∈ qA := qa (List.mem_of_getElem? (i := 543) (by decide +kernel)) rfl
theorem q_501 : Cond.methodLink RX7 173 yX7_trueIndex ∈ qA := qa (List.mem_of_getElem? (i := 544) (by decide +kernel)) rfl
theorem q_502 : Cond.methodLink RX7 177 yX1_widthAt ∈ qA := qa (List.mem_of_getElem? (i := 545) (by decide +kernel)) rfl
theorem q_503 : Cond.instanceMethod yX1_widthAt ∈ qA := qa (List.mem_of_getElem? (i := 546) (by decide +kernel)) rfl
theorem q_504 : Cond.selects RX1 yX1_widthAt yX1_widthAt ∈ qA := qa (List.mem_of_getElem? (i := 547) (by decide +kernel)) rfl
theorem q_505 : Cond.code yX1_widthAt cX1_widthAt 4 (some FieldType.int) ∈ qA := qa (List.mem_of_getElem? (i := 548) (by decide +kernel)) rfl
theorem q_506 : Cond.methodLink RL 68 yX7_settingFor ∈ qA := qa (List.mem_of_getElem? (i := 549) (by decide +kernel)) rfl
theorem q_507 : Cond.instanceMethod yX7_settingFor ∈ qA := qa (List.mem_of_getElem? (i := 550) (by decide +kernel)) rfl
theorem q_508 : Cond.selects RX7 yX7_settingFor yX7_settingFor ∈ qA := qa (List.mem_of_getElem? (i := 551) (by decide +kernel)) rfl
theorem q_509 : Cond.code yX7_settingFor cX7_settingFor 5 (some FieldType.int) ∈ qA := qa (List.mem_of_getElem? (i := 552) (by decide +kernel)) rfl
theorem q_510 : Cond.methodLink RX7 180 yX1_empty ∈ qA := qa (List.mem_of_getElem? (i := 553) (by decide +kernel)) rfl
theorem q_511 : Cond.methodLink RL 72 yX7_count ∈ qA := qa (List.mem_of_getElem? (i := 554) (by decide +kernel)) rfl
theorem q_512 : Cond.instanceMethod yX7_count ∈ qA := qa (List.mem_of_getElem? (i := 555) (by decide +kernel)) rfl
theorem q_513 : Cond.selects RX7 yX7_count yX7_count ∈ qA := qa (List.mem_of_getElem? (i := 556) (by decide +kernel)) rfl
theorem q_514 : Cond.code yX7_count cX7_count 2 (some FieldType.int) ∈ qA := qa (List.mem_of_getElem? (i := 557) (by decide +kernel)) rfl
theorem q_515 : Cond.methodLink RX7 189 yX5_weight ∈ qA := qa (List.mem_of_getElem? (i := 558) (by decide +kernel)) rfl
theorem q_516 : Cond.instanceMethod yX5_weight ∈ qA := qa (List.mem_of_getElem? (i := 559) (by decide +kernel)) rfl
theorem q_517 : Cond.selects RX5 yX5_weight yX5_weight ∈ qA := qa (List.mem_of_getElem? (i := 560) (by decide +kernel)) rfl
theorem q_518 : Cond.code yX5_weight cX5_weight 1 (some FieldType.int) ∈ qA := qa (List.mem_of_getElem? (i := 561) (by decide +kernel)) rfl
theorem q_519 : Cond.methodLink RX5 36 yX0_weight ∈ qA := qa (List.mem_of_getElem? (i := 562) (by decide +kernel)) rfl
theorem q_520 : Cond.methodLink RX7 190 yX5_heapCount ∈ qA := qa (List.mem_of_getElem? (i := 563) (by decide +kernel)) rfl
theorem q_521 : Cond.instanceMethod yX5_heapCount ∈ qA := qa (List.mem_of_getElem? (i := 564) (by decide +kernel)) rfl
theorem q_522 : Cond.selects RX5 yX5_heapCount yX5_heapCount ∈ qA := qa (List.mem_of_getElem? (i := 565) (by decide +kernel)) rfl
theorem q_523 : Cond.code yX5_heapCount cX5_heapCount 1 (some FieldType.int) ∈ qA := qa (List.mem_of_getElem? (i := 566) (by decide +kernel)) rfl
theorem q_524 : Cond.methodLink RX5 44 yX1_size ∈ qA := qa (List.mem_of_getElem? (i := 567) (by decide +kernel)) rfl
theorem q_525 : Cond.methodLink RX7 193 yX2_size ∈ qA := qa (List.mem_of_getElem? (i := 568) (by decide +kernel)) rfl
theorem q_526 : Cond.instanceMethod yX2_size ∈ qA := qa (List.mem_of_getElem? (i := 569) (by decide +kernel)) rfl
theorem q_527 : Cond.selects RX2 yX2_size yX2_size ∈ qA := qa (List.mem_of_getElem? (i := 570) (by decide +kernel)) rfl
theorem q_528 : Cond.code yX2_size cX2_size 1 (some FieldType.int) ∈ qA := qa (List.mem_of_getElem? (i := 571) (by decide +kernel)) rfl
theorem q_529 : Cond.methodLink RL 76 yX7_undo ∈ qA := qa (List.mem_of_getElem? (i := 572) (by decide +kernel)) rfl
theorem q_530 : Cond.instanceMethod yX7_undo ∈ qA := qa (List.mem_of_getElem? (i := 573) (by decide +kernel)) rfl
theorem q_531 : Cond.selects RX7 yX7_undo yX7_undo ∈ qA := qa (List.mem_of_getElem? (i := 574) (by decide +kernel)) rfl
theorem q_532 : Cond.code yX7_undo cX7_undo 1 (some FieldType.int) ∈ qA := qa (List.mem_of_getElem? (i := 575) (by decide +kernel)) rfl
theorem q_533 : Cond.methodLink RX7 194 yX2_restoreLatest ∈ qA := qa (List.mem_of_getElem? (i := 576) (by decide +kernel)) rfl
theorem q_534 : Cond.instanceMethod yX2_restoreLatest ∈ qA := qa (List.mem_of_getElem? (i := 577) (by decide +kernel)) rfl
theorem q_535 : Cond.selects RX2 yX2_restoreLatest yX2_restoreLatest ∈ qA := qa (List.mem_of_getElem? (i := 578) (by decide +kernel)) rfl
theorem q_536 : Cond.code yX2_restoreLatest cX2_restoreLatest 3 none ∈ qA := qa (List.mem_of_getElem? (i := 579) (by decide +kernel)) rfl
theorem q_537 : Cond.methodLink RL 81 yX7_type ∈ qA := qa (List.mem_of_getElem? (i := 580) (by decide +kernel)) rfl
theorem q_538 : Cond.instanceMethod yX7_type ∈ qA := qa (List.mem_of_getElem? (i := 581) (by decide +kernel)) rfl
theorem q_539 : Cond.selects RX7 yX7_type yX7_type ∈ qA := qa (List.mem_of_getElem? (i := 582) (by decide +kernel)) rfl
theorem q_540 : Cond.code yX7_type cX7_type 2 (some FieldType.int) ∈ qA := qa (List.mem_of_getElem? (i := 583) (by decide +kernel)) rfl
theorem q_541 : Cond.methodLink RX7 197 yX4_append ∈ qA := qa (List.mem_of_getElem? (i := 584) (by decide +kernel)) rfl
theorem q_542 : Cond.methodLink RL 85 yX7_clearText ∈ qA := qa (List.mem_of_getElem? (i := 585) (by decide +kernel)) rfl
theorem q_543 : Cond.instanceMethod yX7_clearText ∈ qA := qa (List.mem_of_getElem? (i := 586) (by decide +kernel)) rfl
theorem q_544 : Cond.selects RX7 yX7_clearText yX7_clearText ∈ qA := qa (List.mem_of_getElem? (i := 587) (by decide +kernel)) rfl
theorem q_545 : Cond.code yX7_clearText cX7_clearText 2 (some FieldType.int) ∈ qA := qa (List.mem_of_getElem? (i := 588) (by decide +kernel)) rfl
theorem q_546 : Cond.methodLink RX7 200 yX4_empty ∈ qA := qa (List.mem_of_getElem? (i := 589) (by decide +kernel)) rfl
theorem q_547 : Cond.methodLink RL 89 yX7_fault ∈ qA := qa (List.mem_of_getElem? (i := 590) (by decide +kernel)) rfl
theorem q_548 : Cond.instanceMethod yX7_fault ∈ qA := qa (List.mem_of_getElem? (i := 591) (by decide +kernel)) rfl
theorem q_549 : Cond.selects RX7 yX7_fault yX7_fault ∈ qA := qa (List.mem_of_getElem? (i := 592) (by decide +kernel)) rfl
theorem q_550 : Cond.code yX7_fault cX7_fault 2 (some FieldType.int) ∈ qA := qa (List.mem_of_getElem? (i := 593) (by decide +kernel)) rfl
theorem q_551 : Cond.methodLink RX7 201 yX6_find ∈ qA := qa (List.mem_of_getElem? (i := 594) (by decide +kernel)) rfl
theorem q_552 : Cond.instanceMethod yX6_find ∈ qA := qa (List.mem_of_getElem? (i := 595) (by decide +kernel)) rfl
theorem q_553 : Cond.selects RX6 yX6_find yX6_find ∈ qA := qa (List.mem_of_getElem? (i := 596) (by decide +kernel)) rfl
theorem q_554 : Cond.code yX6_find cX6_find 6 none ∈ qA := qa (List.mem_of_getElem? (i := 597) (by decide +kernel)) rfl
theorem q_555 : Cond.methodLink RX6 30 yX6_startWeights ∈ qA := qa (List.mem_of_getElem? (i := 598) (by decide +kernel)) rfl
theorem q_557 : Cond.instanceMethod yX6_startWeights ∈ qA := qa (List.mem_of_getElem? (i := 600) (by decide +kernel)) rfl
theorem q_558 : Cond.code yX6_startWeights cX6_startWeights 4 none ∈ qA := qa (List.mem_of_getElem? (i := 601) (by decide +kernel)) rfl
theorem q_559 : Cond.methodLink RX6 47 yX4_empty ∈ qA := qa (List.mem_of_getElem? (i := 602) (by decide +kernel)) rfl
theorem q_560 : Cond.methodLink RX6 50 yX5_digestAt ∈ qA := qa (List.mem_of_getElem? (i := 603) (by decide +kernel)) rfl
theorem q_561 : Cond.methodLink RX6 56 yX0_weight ∈ qA := qa (List.mem_of_getElem? (i := 604) (by decide +kernel)) rfl
theorem q_562 : Cond.methodLink RX6 61 yX4_append ∈ qA := qa (List.mem_of_getElem? (i := 605) (by decide +kernel)) rfl
theorem q_563 : Cond.methodLink RX6 34 yX4_length ∈ qA := qa (List.mem_of_getElem? (i := 606) (by decide +kernel)) rfl
theorem q_564 : Cond.methodLink RX6 38 yX6_reasonOf ∈ qA := qa (List.mem_of_getElem? (i := 607) (by decide +kernel)) rfl
theorem q_566 : Cond.instanceMethod yX6_reasonOf ∈ qA := qa (List.mem_of_getElem? (i := 609) (by decide +kernel)) rfl
theorem q_567 : Cond.code yX6_reasonOf cX6_reasonOf 5 (some FieldType.int) ∈ qA := qa (List.mem_of_getElem? (i := 610) (by decide +kernel)) rfl
theorem q_568 : Cond.methodLink RX6 64 yX3_readFrom ∈ qA := qa (List.mem_of_getElem? (i := 611) (by decide +kernel)) rfl
theorem q_569 : Cond.instanceMethod yX3_readFrom ∈ qA := qa (List.mem_of_getElem? (i := 612) (by decide +kernel)) rfl
theorem q_570 : Cond.selects RX3 yX3_readFrom yX3_readFrom ∈ qA := qa (List.mem_of_getElem? (i := 613) (by decide +kernel)) rfl
theorem q_571 : Cond.code yX3_readFrom cX3_readFrom 5 (some FieldType.boolean) ∈ qA := qa (List.mem_of_getElem? (i := 614) (by decide +kernel)) rfl
theorem q_572 : Cond.methodLink RX3 27 yX4_empty ∈ qA := qa (List.mem_of_getElem? (i := 615) (by decide +kernel)) rfl
theorem q_573 : Cond.methodLink RX3 30 yX3_digitAt ∈ qA := qa (List.mem_of_getElem? (i := 616) (by decide +kernel)) rfl
theorem q_574 : Cond.static yX3_digitAt ∈ qA := qa (List.mem_of_getElem? (i := 617) (by decide +kernel)) rfl
theorem q_575 : Cond.code yX3_digitAt cX3_digitAt 3 (some FieldType.int) ∈ qA := qa (List.mem_of_getElem? (i := 618) (by decide +kernel)) rfl
theorem q_576 : Cond.methodLink RX3 34 yX4_at ∈ qA := qa (List.mem_of_getElem? (i := 619) (by decide +kernel)) rfl
theorem q_577 : Cond.methodLink RX3 38 yX3_readValue ∈ qA := qa (List.mem_of_getElem? (i := 620) (by decide +kernel)) rfl
theorem q_579 : Cond.instanceMethod yX3_readValue ∈ qA := qa (List.mem_of_getElem? (i := 622) (by decide +kernel)) rfl
theorem q_580 : Cond.code yX3_readValue cX3_readValue 4 (some FieldType.boolean) ∈ qA := qa (List.mem_of_getElem? (i := 623) (by decide +kernel)) rfl
theorem q_581 : Cond.methodLink RX3 46 yX4_append ∈ qA := qa (List.mem_of_getElem? (i := 624) (by decide +kernel)) rfl
theorem q_582 : Cond.methodLink RX3 42 yX4_length ∈ qA := qa (List.mem_of_getElem? (i := 625) (by decide +kernel)) rfl
theorem q_583 : Cond.methodLink RX6 71 yX4_at ∈ qA := qa (List.mem_of_getElem? (i := 626) (by decide +kernel)) rfl
theorem q_584 : Cond.methodLink RX6 78 yX4_put ∈ qA := qa (List.mem_of_getElem? (i := 627) (by decide +kernel)) rfl
theorem q_585 : Cond.methodLink RL 93 yX7_play ∈ qA := qa (List.mem_of_getElem? (i := 628) (by decide +kernel)) rfl
theorem q_586 : Cond.instanceMethod yX7_play ∈ qA := qa (List.mem_of_getElem? (i := 629) (by decide +kernel)) rfl
theorem q_587 : Cond.selects RX7 yX7_play yX7_play ∈ qA := qa (List.mem_of_getElem? (i := 630) (by decide +kernel)) rfl
theorem q_588 : Cond.code yX7_play cX7_play 5 (some FieldType.int) ∈ qA := qa (List.mem_of_getElem? (i := 631) (by decide +kernel)) rfl
theorem q_589 : Cond.methodLink RX7 214 yX3_readFrom ∈ qA := qa (List.mem_of_getElem? (i := 632) (by decide +kernel)) rfl
theorem q_590 : Cond.classLink RL 10 RX8 ∈ qA := qa (List.mem_of_getElem? (i := 633) (by decide +kernel)) rfl
theorem q_591 : Cond.instantiable RX8 15 ∈ qA := qa (List.mem_of_getElem? (i := 634) (by decide +kernel)) rfl
theorem q_592 : Cond.methodLink RL 12 yX8_init ∈ qA := qa (List.mem_of_getElem? (i := 635) (by decide +kernel)) rfl
theorem q_593 : Cond.instanceMethod yX8_init ∈ qA := qa (List.mem_of_getElem? (i := 636) (by decide +kernel)) rfl
theorem q_594 : Cond.code yX8_init cX8_init 1 none ∈ qA := qa (List.mem_of_getElem? (i := 637) (by decide +kernel)) rfl
theorem q_595 : Cond.methodLink RX8 1 objectInit ∈ qA := qa (List.mem_of_getElem? (i := 638) (by decide +kernel)) rfl
theorem q_596 : Cond.fieldLink RX8 7 "QuantileDigestsModel" "state" "[I" ∈ qA := qa (List.mem_of_getElem? (i := 639) (by decide +kernel)) rfl
theorem q_597 : Cond.fieldLink RX8 13 "QuantileDigestsModel" "history" "[I" ∈ qA := qa (List.mem_of_getElem? (i := 640) (by decide +kernel)) rfl
theorem q_598 : Cond.fieldLink RX8 37 "QuantileDigestsModel" "recorded" "I" ∈ qA := qa (List.mem_of_getElem? (i := 641) (by decide +kernel)) rfl
theorem q_599 : Cond.fieldLink RX8 16 "QuantileDigestsModel" "text" "[I" ∈ qA := qa (List.mem_of_getElem? (i := 642) (by decide +kernel)) rfl
theorem q_600 : Cond.fieldLink RX8 156 "QuantileDigestsModel" "textLength" "I" ∈ qA := qa (List.mem_of_getElem? (i := 643) (by decide +kernel)) rfl
theorem q_601 : Cond.fieldLink RX8 19 "QuantileDigestsModel" "weights" "[I" ∈ qA := qa (List.mem_of_getElem? (i := 644) (by decide +kernel)) rfl
theorem q_602 : Cond.fieldLink RX8 22 "QuantileDigestsModel" "sums" "[I" ∈ qA := qa (List.mem_of_getElem? (i := 645) (by decide +kernel)) rfl
theorem q_603 : Cond.fieldLink RX8 25 "QuantileDigestsModel" "leasts" "[I" ∈ qA := qa (List.mem_of_getElem? (i := 646) (by decide +kernel)) rfl
theorem q_604 : Cond.fieldLink RX8 28 "QuantileDigestsModel" "greatests" "[I" ∈ qA := qa (List.mem_of_getElem? (i := 647) (by decide +kernel)) rfl
theorem q_605 : Cond.fieldLink RX8 53 "QuantileDigestsModel" "many" "I" ∈ qA := qa (List.mem_of_getElem? (i := 648) (by decide +kernel)) rfl
theorem q_606 : Cond.fieldLink RX8 31 "QuantileDigestsModel" "ordered" "[I" ∈ qA := qa (List.mem_of_getElem? (i := 649) (by decide +kernel)) rfl
theorem q_607 : Cond.fieldLink RX8 159 "QuantileDigestsModel" "at" "I" ∈ qA := qa (List.mem_of_getElem? (i := 650) (by decide +kernel)) rfl
theorem q_608 : Cond.fieldLink RX8 178 "QuantileDigestsModel" "reason" "I" ∈ qA := qa (List.mem_of_getElem? (i := 651) (by decide +kernel)) rfl
theorem q_609 : Cond.fieldLink RX8 175 "QuantileDigestsModel" "cause" "I" ∈ qA := qa (List.mem_of_getElem? (i := 652) (by decide +kernel)) rfl
theorem q_610 : Cond.fieldLink RX8 34 "QuantileDigestsModel" "would" "[I" ∈ qA := qa (List.mem_of_getElem? (i := 653) (by decide +kernel)) rfl
theorem q_642 : Cond.methodLink RL 17 yX8_add ∈ qA := qa (List.mem_of_getElem? (i := 685) (by decide +kernel)) rfl
theorem q_643 : Cond.instanceMethod yX8_add ∈ qA := qa (List.mem_of_getElem? (i := 686) (by decide +kernel)) rfl
theorem q_644 : Cond.selects RX8 yX8_add yX8_add ∈ qA := qa (List.mem_of_getElem? (i := 687) (by decide +kernel)) rfl
theorem q_645 : Cond.code yX8_add cX8_add 5 (some FieldType.int) ∈ qA := qa (List.mem_of_getElem? (i := 688) (by decide +kernel)) rfl
theorem q_646 : Cond.methodLink RX8 97 yX8_isDigest ∈ qA := qa (List.mem_of_getElem? (i := 689) (by decide +kernel)) rfl
theorem q_647 : Cond.static yX8_isDigest ∈ qA := qa (List.mem_of_getElem? (i := 690) (by decide +kernel)) rfl
theorem q_648 : Cond.code yX8_isDigest cX8_isDigest 1 (some FieldType.boolean) ∈ qA := qa (List.mem_of_getElem? (i := 691) (by decide +kernel)) rfl
theorem q_649 : Cond.methodLink RX8 45 yX8_within ∈ qA := qa (List.mem_of_getElem? (i := 692) (by decide +kernel)) rfl
theorem q_650 : Cond.static yX8_within ∈ qA := qa (List.mem_of_getElem? (i := 693) (by decide +kernel)) rfl
theorem q_651 : Cond.code yX8_within cX8_within 3 (some FieldType.boolean) ∈ qA := qa (List.mem_of_getElem? (i := 694) (by decide +kernel)) rfl
theorem q_652 : Cond.constant RX8 101 (-1000001 : Int32) ∈ qA := qa (List.mem_of_getElem? (i := 695) (by decide +kernel)) rfl
theorem q_653 : Cond.methodLink RX8 102 yX8_weightOf ∈ qA := qa (List.mem_of_getElem? (i := 696) (by decide +kernel)) rfl
theorem q_655 : Cond.instanceMethod yX8_weightOf ∈ qA := qa (List.mem_of_getElem? (i := 698) (by decide +kernel)) rfl
theorem q_656 : Cond.code yX8_weightOf cX8_weightOf 2 (some FieldType.int) ∈ qA := qa (List.mem_of_getElem? (i := 699) (by decide +kernel)) rfl
theorem q_657 : Cond.methodLink RX8 49 yX8_part ∈ qA := qa (List.mem_of_getElem? (i := 700) (by decide +kernel)) rfl
theorem q_659 : Cond.instanceMethod yX8_part ∈ qA := qa (List.mem_of_getElem? (i := 702) (by decide +kernel)) rfl
theorem q_660 : Cond.code yX8_part cX8_part 3 (some FieldType.int) ∈ qA := qa (List.mem_of_getElem? (i := 703) (by decide +kernel)) rfl
theorem q_661 : Cond.constant RX8 106 (-1000003 : Int32) ∈ qA := qa (List.mem_of_getElem? (i := 704) (by decide +kernel)) rfl
theorem q_662 : Cond.methodLink RX8 107 yX8_record ∈ qA := qa (List.mem_of_getElem? (i := 705) (by decide +kernel)) rfl
theorem q_664 : Cond.instanceMethod yX8_record ∈ qA := qa (List.mem_of_getElem? (i := 707) (by decide +kernel)) rfl
theorem q_665 : Cond.code yX8_record cX8_record 2 none ∈ qA := qa (List.mem_of_getElem? (i := 708) (by decide +kernel)) rfl
theorem q_666 : Cond.methodLink RX8 41 yX8_moves ∈ qA := qa (List.mem_of_getElem? (i := 709) (by decide +kernel)) rfl
theorem q_667 : Cond.static yX8_moves ∈ qA := qa (List.mem_of_getElem? (i := 710) (by decide +kernel)) rfl
theorem q_668 : Cond.code yX8_moves cX8_moves 5 none ∈ qA := qa (List.mem_of_getElem? (i := 711) (by decide +kernel)) rfl
theorem q_669 : Cond.methodLink RX8 110 yX8_comes ∈ qA := qa (List.mem_of_getElem? (i := 712) (by decide +kernel)) rfl
theorem q_671 : Cond.instanceMethod yX8_comes ∈ qA := qa (List.mem_of_getElem? (i := 714) (by decide +kernel)) rfl
theorem q_672 : Cond.code yX8_comes cX8_comes 3 none ∈ qA := qa (List.mem_of_getElem? (i := 715) (by decide +kernel)) rfl
theorem q_673 : Cond.methodLink RX8 91 yX8_packs ∈ qA := qa (List.mem_of_getElem? (i := 716) (by decide +kernel)) rfl
theorem q_675 : Cond.instanceMethod yX8_packs ∈ qA := qa (List.mem_of_getElem? (i := 718) (by decide +kernel)) rfl
theorem q_676 : Cond.code yX8_packs cX8_packs 2 none ∈ qA := qa (List.mem_of_getElem? (i := 719) (by decide +kernel)) rfl
theorem q_677 : Cond.methodLink RX8 85 yX8_findPacked ∈ qA := qa (List.mem_of_getElem? (i := 720) (by decide +kernel)) rfl
theorem q_679 : Cond.instanceMethod yX8_findPacked ∈ qA := qa (List.mem_of_getElem? (i := 722) (by decide +kernel)) rfl
theorem q_680 : Cond.code yX8_findPacked cX8_findPacked 2 none ∈ qA := qa (List.mem_of_getElem? (i := 723) (by decide +kernel)) rfl
theorem q_681 : Cond.methodLink RX8 68 yX8_takeHeaps ∈ qA := qa (List.mem_of_getElem? (i := 724) (by decide +kernel)) rfl
theorem q_683 : Cond.instanceMethod yX8_takeHeaps ∈ qA := qa (List.mem_of_getElem? (i := 726) (by decide +kernel)) rfl
theorem q_684 : Cond.code yX8_takeHeaps cX8_takeHeaps 3 none ∈ qA := qa (List.mem_of_getElem? (i := 727) (by decide +kernel)) rfl
theorem q_685 : Cond.methodLink RX8 56 yX8_heapPart ∈ qA := qa (List.mem_of_getElem? (i := 728) (by decide +kernel)) rfl
theorem q_687 : Cond.instanceMethod yX8_heapPart ∈ qA := qa (List.mem_of_getElem? (i := 730) (by decide +kernel)) rfl
theorem q_688 : Cond.code yX8_heapPart cX8_heapPart 4 (some FieldType.int) ∈ qA := qa (List.mem_of_getElem? (i := 731) (by decide +kernel)) rfl
theorem q_689 : Cond.methodLink RX8 60 yX8_takeHeap ∈ qA := qa (List.mem_of_getElem? (i := 732) (by decide +kernel)) rfl
theorem q_691 : Cond.instanceMethod yX8_takeHeap ∈ qA := qa (List.mem_of_getElem? (i := 734) (by decide +kernel)) rfl
theorem q_692 : Cond.code yX8_takeHeap cX8_takeHeap 5 none ∈ qA := qa (List.mem_of_getElem? (i := 735) (by decide +kernel)) rfl
theorem q_693 : Cond.methodLink RX8 72 yX8_takeBuffer ∈ qA := qa (List.mem_of_getElem? (i := 736) (by decide +kernel)) rfl
theorem q_695 : Cond.instanceMethod yX8_takeBuffer ∈ qA := qa (List.mem_of_getElem? (i := 738) (by decide +kernel)) rfl
theorem q_696 : Cond.code yX8_takeBuffer cX8_takeBuffer 4 none ∈ qA := qa (List.mem_of_getElem? (i := 739) (by decide +kernel)) rfl
theorem q_697 : Cond.methodLink RX8 75 yX8_putInOrder ∈ qA := qa (List.mem_of_getElem? (i := 740) (by decide +kernel)) rfl
theorem q_699 : Cond.instanceMethod yX8_putInOrder ∈ qA := qa (List.mem_of_getElem? (i := 742) (by decide +kernel)) rfl
theorem q_700 : Cond.code yX8_putInOrder cX8_putInOrder 3 none ∈ qA := qa (List.mem_of_getElem? (i := 743) (by decide +kernel)) rfl
theorem q_701 : Cond.methodLink RX8 64 yX8_copyHeap ∈ qA := qa (List.mem_of_getElem? (i := 744) (by decide +kernel)) rfl
theorem q_703 : Cond.instanceMethod yX8_copyHeap ∈ qA := qa (List.mem_of_getElem? (i := 746) (by decide +kernel)) rfl
theorem q_704 : Cond.code yX8_copyHeap cX8_copyHeap 3 none ∈ qA := qa (List.mem_of_getElem? (i := 747) (by decide +kernel)) rfl
theorem q_705 : Cond.methodLink RX8 78 yX8_putTogether ∈ qA := qa (List.mem_of_getElem? (i := 748) (by decide +kernel)) rfl
theorem q_707 : Cond.instanceMethod yX8_putTogether ∈ qA := qa (List.mem_of_getElem? (i := 750) (by decide +kernel)) rfl
theorem q_708 : Cond.code yX8_putTogether cX8_putTogether 7 none ∈ qA := qa (List.mem_of_getElem? (i := 751) (by decide +kernel)) rfl
theorem q_709 : Cond.methodLink RX8 88 yX8_giveHeaps ∈ qA := qa (List.mem_of_getElem? (i := 752) (by decide +kernel)) rfl
theorem q_711 : Cond.instanceMethod yX8_giveHeaps ∈ qA := qa (List.mem_of_getElem? (i := 754) (by decide +kernel)) rfl
theorem q_712 : Cond.code yX8_giveHeaps cX8_giveHeaps 3 none ∈ qA := qa (List.mem_of_getElem? (i := 755) (by decide +kernel)) rfl
theorem q_713 : Cond.methodLink RX8 81 yX8_setPart ∈ qA := qa (List.mem_of_getElem? (i := 756) (by decide +kernel)) rfl
theorem q_715 : Cond.instanceMethod yX8_setPart ∈ qA := qa (List.mem_of_getElem? (i := 758) (by decide +kernel)) rfl
theorem q_716 : Cond.code yX8_setPart cX8_setPart 4 none ∈ qA := qa (List.mem_of_getElem? (i := 759) (by decide +kernel)) rfl
theorem q_717 : Cond.methodLink RX8 94 yX8_knows ∈ qA := qa (List.mem_of_getElem? (i := 760) (by decide +kernel)) rfl
theorem q_719 : Cond.instanceMethod yX8_knows ∈ qA := qa (List.mem_of_getElem? (i := 762) (by decide +kernel)) rfl
theorem q_720 : Cond.code yX8_knows cX8_knows 3 none ∈ qA := qa (List.mem_of_getElem? (i := 763) (by decide +kernel)) rfl
theorem q_721 : Cond.methodLink RL 22 yX8_pack ∈ qA := qa (List.mem_of_getElem? (i := 764) (by decide +kernel)) rfl
theorem q_722 : Cond.instanceMethod yX8_pack ∈ qA := qa (List.mem_of_getElem? (i := 765) (by decide +kernel)) rfl
theorem q_723 : Cond.selects RX8 yX8_pack yX8_pack ∈ qA := qa (List.mem_of_getElem? (i := 766) (by decide +kernel)) rfl
theorem q_724 : Cond.code yX8_pack cX8_pack 2 (some FieldType.int) ∈ qA := qa (List.mem_of_getElem? (i := 767) (by decide +kernel)) rfl
theorem q_725 : Cond.methodLink RL 27 yX8_join ∈ qA := qa (List.mem_of_getElem? (i := 768) (by decide +kernel)) rfl
theorem q_726 : Cond.instanceMethod yX8_join ∈ qA := qa (List.mem_of_getElem? (i := 769) (by decide +kernel)) rfl
theorem q_727 : Cond.selects RX8 yX8_join yX8_join ∈ qA := qa (List.mem_of_getElem? (i := 770) (by decide +kernel)) rfl
theorem q_728 : Cond.code yX8_join cX8_join 4 (some FieldType.int) ∈ qA := qa (List.mem_of_getElem? (i := 771) (by decide +kernel)) rfl
theorem q_729 : Cond.methodLink RL 31 yX8_clear ∈ qA := qa (List.mem_of_getElem? (i := 772) (by decide +kernel)) rfl
theorem q_730 : Cond.instanceMethod yX8_clear ∈ qA := qa (List.mem_of_getElem? (i := 773) (by decide +kernel)) rfl
theorem q_731 : Cond.selects RX8 yX8_clear yX8_clear ∈ qA := qa (List.mem_of_getElem? (i := 774) (by decide +kernel)) rfl
theorem q_732 : Cond.code yX8_clear cX8_clear 3 (some FieldType.int) ∈ qA := qa (List.mem_of_getElem? (i := 775) (by decide +kernel)) rfl
theorem q_733 : Cond.methodLink RL 35 yX8_set ∈ qA := qa (List.mem_of_getElem? (i := 776) (by decide +kernel)) rfl
theorem q_734 : Cond.instanceMethod yX8_set ∈ qA := qa (List.mem_of_getElem? (i := 777) (by decide +kernel)) rfl
theorem q_735 : Cond.selects RX8 yX8_set yX8_set ∈ qA := qa (List.mem_of_getElem? (i := 778) (by decide +kernel)) rfl
theorem q_736 : Cond.code yX8_set cX8_set 4 (some FieldType.int) ∈ qA := qa (List.mem_of_getElem? (i := 779) (by decide +kernel)) rfl
theorem q_737 : Cond.methodLink RL 39 yX8_heapOf ∈ qA := qa (List.mem_of_getElem? (i := 780) (by decide +kernel)) rfl
theorem q_738 : Cond.instanceMethod yX8_heapOf ∈ qA := qa (List.mem_of_getElem? (i := 781) (by decide +kernel)) rfl
theorem q_739 : Cond.selects RX8 yX8_heapOf yX8_heapOf ∈ qA := qa (List.mem_of_getElem? (i := 782) (by decide +kernel)) rfl
theorem q_740 : Cond.code yX8_heapOf cX8_heapOf 6 (some FieldType.int) ∈ qA := qa (List.mem_of_getElem? (i := 783) (by decide +kernel)) rfl
theorem q_741 : Cond.constant RX8 116 (-1000004 : Int32) ∈ qA := qa (List.mem_of_getElem? (i := 784) (by decide +kernel)) rfl
theorem q_742 : Cond.methodLink RX8 117 yX8_aheadOf ∈ qA := qa (List.mem_of_getElem? (i := 785) (by decide +kernel)) rfl
theorem q_744 : Cond.instanceMethod yX8_aheadOf ∈ qA := qa (List.mem_of_getElem? (i := 787) (by decide +kernel)) rfl
theorem q_745 : Cond.code yX8_aheadOf cX8_aheadOf 5 (some FieldType.int) ∈ qA := qa (List.mem_of_getElem? (i := 788) (by decide +kernel)) rfl
theorem q_746 : Cond.methodLink RX8 120 yX8_floatBits ∈ qA := qa (List.mem_of_getElem? (i := 789) (by decide +kernel)) rfl
theorem q_747 : Cond.static yX8_floatBits ∈ qA := qa (List.mem_of_getElem? (i := 790) (by decide +kernel)) rfl
theorem q_748 : Cond.code yX8_floatBits cX8_floatBits 9 (some FieldType.int) ∈ qA := qa (List.mem_of_getElem? (i := 791) (by decide +kernel)) rfl
theorem q_749 : Cond.constantLong RX8 113 (2 : Int64) ∈ qA := qa (List.mem_of_getElem? (i := 792) (by decide +kernel)) rfl
theorem q_750 : Cond.constant RX8 115 (8388608 : Int32) ∈ qA := qa (List.mem_of_getElem? (i := 793) (by decide +kernel)) rfl
theorem q_751 : Cond.methodLink RL 43 yX8_bufferOf ∈ qA := qa (List.mem_of_getElem? (i := 794) (by decide +kernel)) rfl
theorem q_752 : Cond.instanceMethod yX8_bufferOf ∈ qA := qa (List.mem_of_getElem? (i := 795) (by decide +kernel)) rfl
theorem q_753 : Cond.selects RX8 yX8_bufferOf yX8_bufferOf ∈ qA := qa (List.mem_of_getElem? (i := 796) (by decide +kernel)) rfl
theorem q_754 : Cond.code yX8_bufferOf cX8_bufferOf 3 (some FieldType.int) ∈ qA := qa (List.mem_of_getElem? (i := 797) (by decide +kernel)) rfl
theorem q_755 : Cond.methodLink RL 47 yX8_digestOf ∈ qA := qa (List.mem_of_getElem? (i := 798) (by decide +kernel)) rfl
theorem q_756 : Cond.instanceMethod yX8_digestOf ∈ qA := qa (List.mem_of_getElem? (i := 799) (by decide +kernel)) rfl
theorem q_757 : Cond.selects RX8 yX8_digestOf yX8_digestOf ∈ qA := qa (List.mem_of_getElem? (i := 800) (by decide +kernel)) rfl
theorem q_758 : Cond.code yX8_digestOf cX8_digestOf 4 (some FieldType.int) ∈ qA := qa (List.mem_of_getElem? (i := 801) (by decide +kernel)) rfl
theorem q_759 : Cond.methodLink RX8 123 yX8_putValuesInOrder ∈ qA := qa (List.mem_of_getElem? (i := 802) (by decide +kernel)) rfl
theorem q_761 : Cond.instanceMethod yX8_putValuesInOrder ∈ qA := qa (List.mem_of_getElem? (i := 804) (by decide +kernel)) rfl
theorem q_762 : Cond.code yX8_putValuesInOrder cX8_putValuesInOrder 5 none ∈ qA := qa (List.mem_of_getElem? (i := 805) (by decide +kernel)) rfl
theorem q_763 : Cond.methodLink RX8 126 yX8_sumOf ∈ qA := qa (List.mem_of_getElem? (i := 806) (by decide +kernel)) rfl
theorem q_765 : Cond.instanceMethod yX8_sumOf ∈ qA := qa (List.mem_of_getElem? (i := 808) (by decide +kernel)) rfl
theorem q_766 : Cond.code yX8_sumOf cX8_sumOf 4 (some FieldType.int) ∈ qA := qa (List.mem_of_getElem? (i := 809) (by decide +kernel)) rfl
theorem q_767 : Cond.methodLink RX8 129 yX8_greatestWeight ∈ qA := qa (List.mem_of_getElem? (i := 810) (by decide +kernel)) rfl
theorem q_769 : Cond.instanceMethod yX8_greatestWeight ∈ qA := qa (List.mem_of_getElem? (i := 812) (by decide +kernel)) rfl
theorem q_770 : Cond.code yX8_greatestWeight cX8_greatestWeight 4 (some FieldType.int) ∈ qA := qa (List.mem_of_getElem? (i := 813) (by decide +kernel)) rfl
theorem q_771 : Cond.methodLink RL 51 yX8_quantile ∈ qA := qa (List.mem_of_getElem? (i := 814) (by decide +kernel)) rfl
theorem q_772 : Cond.instanceMethod yX8_quantile ∈ qA := qa (List.mem_of_getElem? (i := 815) (by decide +kernel)) rfl
theorem q_773 : Cond.selects RX8 yX8_quantile yX8_quantile ∈ qA := qa (List.mem_of_getElem? (i := 816) (by decide +kernel)) rfl
theorem q_774 : Cond.code yX8_quantile cX8_quantile 4 (some FieldType.int) ∈ qA := qa (List.mem_of_getElem? (i := 817) (by decide +kernel)) rfl
theorem q_775 : Cond.methodLink RX8 137 yX8_whyNoQuantile ∈ qA := qa (List.mem_of_getElem? (i := 818) (by decide +kernel)) rfl
theorem q_777 : Cond.instanceMethod yX8_whyNoQuantile ∈ qA := qa (List.mem_of_getElem? (i := 820) (by decide +kernel)) rfl
theorem q_778 : Cond.code yX8_whyNoQuantile cX8_whyNoQuantile 4 (some FieldType.int) ∈ qA := qa (List.mem_of_getElem? (i := 821) (by decide +kernel)) rfl
theorem q_779 : Cond.constant RX8 136 (-1000002 : Int32) ∈ qA := qa (List.mem_of_getElem? (i := 822) (by decide +kernel)) rfl
theorem q_780 : Cond.methodLink RX8 140 yX8_findAll ∈ qA := qa (List.mem_of_getElem? (i := 823) (by decide +kernel)) rfl
theorem q_782 : Cond.instanceMethod yX8_findAll ∈ qA := qa (List.mem_of_getElem? (i := 825) (by decide +kernel)) rfl
theorem q_783 : Cond.code yX8_findAll cX8_findAll 2 none ∈ qA := qa (List.mem_of_getElem? (i := 826) (by decide +kernel)) rfl
theorem q_784 : Cond.methodLink RX8 143 yX8_quantileBy ∈ qA := qa (List.mem_of_getElem? (i := 827) (by decide +kernel)) rfl
theorem q_786 : Cond.instanceMethod yX8_quantileBy ∈ qA := qa (List.mem_of_getElem? (i := 829) (by decide +kernel)) rfl
theorem q_787 : Cond.code yX8_quantileBy cX8_quantileBy 20 (some FieldType.int) ∈ qA := qa (List.mem_of_getElem? (i := 830) (by decide +kernel)) rfl
theorem q_788 : Cond.constantLong RX8 132 (1000 : Int64) ∈ qA := qa (List.mem_of_getElem? (i := 831) (by decide +kernel)) rfl
theorem q_789 : Cond.constantLong RX8 134 (2000 : Int64) ∈ qA := qa (List.mem_of_getElem? (i := 832) (by decide +kernel)) rfl
theorem q_790 : Cond.methodLink RL 55 yX8_truth ∈ qA := qa (List.mem_of_getElem? (i := 833) (by decide +kernel)) rfl
theorem q_791 : Cond.instanceMethod yX8_truth ∈ qA := qa (List.mem_of_getElem? (i := 834) (by decide +kernel)) rfl
theorem q_792 : Cond.selects RX8 yX8_truth yX8_truth ∈ qA := qa (List.mem_of_getElem? (i := 835) (by decide +kernel)) rfl
theorem q_793 : Cond.code yX8_truth cX8_truth 4 (some FieldType.int) ∈ qA := qa (List.mem_of_getElem? (i := 836) (by decide +kernel)) rfl
theorem q_794 : Cond.methodLink RX8 146 yX8_truthBy ∈ qA := qa (List.mem_of_getElem? (i := 837) (by decide +kernel)) rfl
theorem q_796 : Cond.instanceMethod yX8_truthBy ∈ qA := qa (List.mem_of_getElem? (i := 839) (by decide +kernel)) rfl
theorem q_797 : Cond.code yX8_truthBy cX8_truthBy 3 (some FieldType.int) ∈ qA := qa (List.mem_of_getElem? (i := 840) (by decide +kernel)) rfl
theorem q_798 : Cond.methodLink RL 59 yX8_worst ∈ qA := qa (List.mem_of_getElem? (i := 841) (by decide +kernel)) rfl
theorem q_799 : Cond.instanceMethod yX8_worst ∈ qA := qa (List.mem_of_getElem? (i := 842) (by decide +kernel)) rfl
theorem q_800 : Cond.selects RX8 yX8_worst yX8_worst ∈ qA := qa (List.mem_of_getElem? (i := 843) (by decide +kernel)) rfl
theorem q_801 : Cond.code yX8_worst cX8_worst 9 (some FieldType.int) ∈ qA := qa (List.mem_of_getElem? (i := 844) (by decide +kernel)) rfl
theorem q_802 : Cond.methodLink RL 63 yX8_rank ∈ qA := qa (List.mem_of_getElem? (i := 845) (by decide +kernel)) rfl
theorem q_803 : Cond.instanceMethod yX8_rank ∈ qA := qa (List.mem_of_getElem? (i := 846) (by decide +kernel)) rfl
theorem q_804 : Cond.selects RX8 yX8_rank yX8_rank ∈ qA := qa (List.mem_of_getElem? (i := 847) (by decide +kernel)) rfl
theorem q_805 : Cond.code yX8_rank cX8_rank 5 (some FieldType.int) ∈ qA := qa (List.mem_of_getElem? (i := 848) (by decide +kernel)) rfl
theorem q_806 : Cond.methodLink RL 67 yX8_width ∈ qA := qa (List.mem_of_getElem? (i := 849) (by decide +kernel)) rfl
theorem q_807 : Cond.instanceMethod yX8_width ∈ qA := qa (List.mem_of_getElem? (i := 850) (by decide +kernel)) rfl
theorem q_808 : Cond.selects RX8 yX8_width yX8_width ∈ qA := qa (List.mem_of_getElem? (i := 851) (by decide +kernel)) rfl
theorem q_809 : Cond.code yX8_width cX8_width 7 (some FieldType.int) ∈ qA := qa (List.mem_of_getElem? (i := 852) (by decide +kernel)) rfl
theorem q_810 : Cond.methodLink RL 71 yX8_settingFor ∈ qA := qa (List.mem_of_getElem? (i := 853) (by decide +kernel)) rfl
theorem q_811 : Cond.instanceMethod yX8_settingFor ∈ qA := qa (List.mem_of_getElem? (i := 854) (by decide +kernel)) rfl
theorem q_812 : Cond.selects RX8 yX8_settingFor yX8_settingFor ∈ qA := qa (List.mem_of_getElem? (i := 855) (by decide +kernel)) rfl
theorem q_813 : Cond.code yX8_settingFor cX8_settingFor 4 (some FieldType.int) ∈ qA := qa (List.mem_of_getElem? (i := 856) (by decide +kernel)) rfl
theorem q_814 : Cond.methodLink RX8 149 yX8_heapsBy ∈ qA := qa (List.mem_of_getElem? (i := 857) (by decide +kernel)) rfl
theorem q_816 : Cond.instanceMethod yX8_heapsBy ∈ qA := qa (List.mem_of_getElem? (i := 859) (by decide +kernel)) rfl
theorem q_817 : Cond.code yX8_heapsBy cX8_heapsBy 4 (some FieldType.int) ∈ qA := qa (List.mem_of_getElem? (i := 860) (by decide +kernel)) rfl
theorem q_818 : Cond.methodLink RL 75 yX8_count ∈ qA := qa (List.mem_of_getElem? (i := 861) (by decide +kernel)) rfl
theorem q_819 : Cond.instanceMethod yX8_count ∈ qA := qa (List.mem_of_getElem? (i := 862) (by decide +kernel)) rfl
theorem q_820 : Cond.selects RX8 yX8_count yX8_count ∈ qA := qa (List.mem_of_getElem? (i := 863) (by decide +kernel)) rfl
theorem q_821 : Cond.code yX8_count cX8_count 2 (some FieldType.int) ∈ qA := qa (List.mem_of_getElem? (i := 864) (by decide +kernel)) rfl
theorem q_822 : Cond.methodLink RX8 152 yX8_allWeight ∈ qA := qa (List.mem_of_getElem? (i := 865) (by decide +kernel)) rfl
theorem q_824 : Cond.instanceMethod yX8_allWeight ∈ qA := qa (List.mem_of_getElem? (i := 867) (by decide +kernel)) rfl
theorem q_825 : Cond.code yX8_allWeight cX8_allWeight 1 (some FieldType.int) ∈ qA := qa (List.mem_of_getElem? (i := 868) (by decide +kernel)) rfl
theorem q_826 : Cond.methodLink RL 80 yX8_undo ∈ qA := qa (List.mem_of_getElem? (i := 869) (by decide +kernel)) rfl
theorem q_827 : Cond.instanceMethod yX8_undo ∈ qA := qa (List.mem_of_getElem? (i := 870) (by decide +kernel)) rfl
theorem q_828 : Cond.selects RX8 yX8_undo yX8_undo ∈ qA := qa (List.mem_of_getElem? (i := 871) (by decide +kernel)) rfl
theorem q_829 : Cond.code yX8_undo cX8_undo 1 (some FieldType.int) ∈ qA := qa (List.mem_of_getElem? (i := 872) (by decide +kernel)) rfl
theorem q_830 : Cond.methodLink RL 84 yX8_type ∈ qA := qa (List.mem_of_getElem? (i := 873) (by decide +kernel)) rfl
theorem q_831 : Cond.instanceMethod yX8_type ∈ qA := qa (List.mem_of_getElem? (i := 874) (by decide +kernel)) rfl
theorem q_832 : Cond.selects RX8 yX8_type yX8_type ∈ qA := qa (List.mem_of_getElem? (i := 875) (by decide +kernel)) rfl
theorem q_833 : Cond.code yX8_type cX8_type 2 (some FieldType.int) ∈ qA := qa (List.mem_of_getElem? (i := 876) (by decide +kernel)) rfl
theorem q_834 : Cond.methodLink RL 88 yX8_clearText ∈ qA := qa (List.mem_of_getElem? (i := 877) (by decide +kernel)) rfl
theorem q_835 : Cond.instanceMethod yX8_clearText ∈ qA := qa (List.mem_of_getElem? (i := 878) (by decide +kernel)) rfl
theorem q_836 : Cond.selects RX8 yX8_clearText yX8_clearText ∈ qA := qa (List.mem_of_getElem? (i := 879) (by decide +kernel)) rfl
theorem q_837 : Cond.code yX8_clearText cX8_clearText 2 (some FieldType.int) ∈ qA := qa (List.mem_of_getElem? (i := 880) (by decide +kernel)) rfl
theorem q_838 : Cond.methodLink RL 92 yX8_fault ∈ qA := qa (List.mem_of_getElem? (i := 881) (by decide +kernel)) rfl
theorem q_839 : Cond.instanceMethod yX8_fault ∈ qA := qa (List.mem_of_getElem? (i := 882) (by decide +kernel)) rfl
theorem q_840 : Cond.selects RX8 yX8_fault yX8_fault ∈ qA := qa (List.mem_of_getElem? (i := 883) (by decide +kernel)) rfl
theorem q_841 : Cond.code yX8_fault cX8_fault 3 (some FieldType.int) ∈ qA := qa (List.mem_of_getElem? (i := 884) (by decide +kernel)) rfl
theorem q_842 : Cond.methodLink RX8 181 yX8_findFault ∈ qA := qa (List.mem_of_getElem? (i := 885) (by decide +kernel)) rfl
theorem q_844 : Cond.instanceMethod yX8_findFault ∈ qA := qa (List.mem_of_getElem? (i := 887) (by decide +kernel)) rfl
theorem q_845 : Cond.code yX8_findFault cX8_findFault 3 (some FieldType.int) ∈ qA := qa (List.mem_of_getElem? (i := 888) (by decide +kernel)) rfl
theorem q_846 : Cond.methodLink RX8 171 yX8_readsPart ∈ qA := qa (List.mem_of_getElem? (i := 889) (by decide +kernel)) rfl
theorem q_848 : Cond.instanceMethod yX8_readsPart ∈ qA := qa (List.mem_of_getElem? (i := 891) (by decide +kernel)) rfl
theorem q_849 : Cond.code yX8_readsPart cX8_readsPart 6 (some FieldType.int) ∈ qA := qa (List.mem_of_getElem? (i := 892) (by decide +kernel)) rfl
theorem q_850 : Cond.methodLink RX8 165 yX8_takeNumber ∈ qA := qa (List.mem_of_getElem? (i := 893) (by decide +kernel)) rfl
theorem q_852 : Cond.instanceMethod yX8_takeNumber ∈ qA := qa (List.mem_of_getElem? (i := 895) (by decide +kernel)) rfl
theorem q_853 : Cond.code yX8_takeNumber cX8_takeNumber 4 (some FieldType.int) ∈ qA := qa (List.mem_of_getElem? (i := 896) (by decide +kernel)) rfl
theorem q_854 : Cond.methodLink RX8 162 yX8_character ∈ qA := qa (List.mem_of_getElem? (i := 897) (by decide +kernel)) rfl
theorem q_856 : Cond.instanceMethod yX8_character ∈ qA := qa (List.mem_of_getElem? (i := 899) (by decide +kernel)) rfl
theorem q_857 : Cond.code yX8_character cX8_character 2 (some FieldType.int) ∈ qA := qa (List.mem_of_getElem? (i := 900) (by decide +kernel)) rfl
theorem q_858 : Cond.methodLink RX8 168 yX8_takes ∈ qA := qa (List.mem_of_getElem? (i := 901) (by decide +kernel)) rfl
theorem q_860 : Cond.instanceMethod yX8_takes ∈ qA := qa (List.mem_of_getElem? (i := 903) (by decide +kernel)) rfl
theorem q_861 : Cond.code yX8_takes cX8_takes 3 (some FieldType.boolean) ∈ qA := qa (List.mem_of_getElem? (i := 904) (by decide +kernel)) rfl
theorem q_862 : Cond.methodLink RL 96 yX8_play ∈ qA := qa (List.mem_of_getElem? (i := 905) (by decide +kernel)) rfl
theorem q_863 : Cond.instanceMethod yX8_play ∈ qA := qa (List.mem_of_getElem? (i := 906) (by decide +kernel)) rfl
theorem q_864 : Cond.selects RX8 yX8_play yX8_play ∈ qA := qa (List.mem_of_getElem? (i := 907) (by decide +kernel)) rfl
theorem q_865 : Cond.code yX8_play cX8_play 1 (some FieldType.int) ∈ qA := qa (List.mem_of_getElem? (i := 908) (by decide +kernel)) rfl
theorem qs_0 : Cond.selects RX2 yX2_dropOldest yX2_dropOldest ∈ qA := qa (List.mem_of_getElem? (i := 0) (by decide +kernel)) rfl
theorem qs_1 : Cond.selects RX2 yX2_stateAt yX2_stateAt ∈ qA := qa (List.mem_of_getElem? (i := 1) (by decide +kernel)) rfl
theorem qs_2 : Cond.selects RX1 yX1_order yX1_order ∈ qA := qa (List.mem_of_getElem? (i := 2) (by decide +kernel)) rfl
theorem qs_3 : Cond.selects RX1 yX1_isMiddleAbove yX1_isMiddleAbove ∈ qA := qa (List.mem_of_getElem? (i := 3) (by decide +kernel)) rfl
theorem qs_4 : Cond.selects RX1 yX1_exchange yX1_exchange ∈ qA := qa (List.mem_of_getElem? (i := 4) (by decide +kernel)) rfl
theorem qs_5 : Cond.selects RX1 yX1_putTogether yX1_putTogether ∈ qA := qa (List.mem_of_getElem? (i := 5) (by decide +kernel)) rfl
theorem qs_6 : Cond.selects RX1 yX1_unite yX1_unite ∈ qA := qa (List.mem_of_getElem? (i := 6) (by decide +kernel)) rfl
theorem qs_7 : Cond.selects RX1 yX1_shortenTo yX1_shortenTo ∈ qA := qa (List.mem_of_getElem? (i := 7) (by decide +kernel)) rfl
theorem qs_8 : Cond.selects RX7 yX7_packOnTrial yX7_packOnTrial ∈ qA := qa (List.mem_of_getElem? (i := 8) (by decide +kernel)) rfl
theorem qs_9 : Cond.selects RX6 yX6_startWeights yX6_startWeights ∈ qA := qa (List.mem_of_getElem? (i := 9) (by decide +kernel)) rfl
theorem qs_10 : Cond.selects RX6 yX6_reasonOf yX6_reasonOf ∈ qA := qa (List.mem_of_getElem? (i := 10) (by decide +kernel)) rfl
theorem qs_11 : Cond.selects RX3 yX3_readValue yX3_readValue ∈ qA := qa (List.mem_of_getElem? (i := 11) (by decide +kernel)) rfl
theorem qs_12 : Cond.selects RX8 yX8_weightOf yX8_weightOf ∈ qA := qa (List.mem_of_getElem? (i := 12) (by decide +kernel)) rfl
theorem qs_13 : Cond.selects RX8 yX8_part yX8_part ∈ qA := qa (List.mem_of_getElem? (i := 13) (by decide +kernel)) rfl
theorem qs_14 : Cond.selects RX8 yX8_record yX8_record ∈ qA := qa (List.mem_of_getElem? (i := 14) (by decide +kernel)) rfl
theorem qs_15 : Cond.selects RX8 yX8_comes yX8_comes ∈ qA := qa (List.mem_of_getElem? (i := 15) (by decide +kernel)) rfl
theorem qs_16 : Cond.selects RX8 yX8_packs yX8_packs ∈ qA := qa (List.mem_of_getElem? (i := 16) (by decide +kernel)) rfl
theorem qs_17 : Cond.selects RX8 yX8_findPacked yX8_findPacked ∈ qA := qa (List.mem_of_getElem? (i := 17) (by decide +kernel)) rfl
theorem qs_18 : Cond.selects RX8 yX8_takeHeaps yX8_takeHeaps ∈ qA := qa (List.mem_of_getElem? (i := 18) (by decide +kernel)) rfl
theorem qs_19 : Cond.selects RX8 yX8_heapPart yX8_heapPart ∈ qA := qa (List.mem_of_getElem? (i := 19) (by decide +kernel)) rfl
theorem qs_20 : Cond.selects RX8 yX8_takeHeap yX8_takeHeap ∈ qA := qa (List.mem_of_getElem? (i := 20) (by decide +kernel)) rfl
theorem qs_21 : Cond.selects RX8 yX8_takeBuffer yX8_takeBuffer ∈ qA := qa (List.mem_of_getElem? (i := 21) (by decide +kernel)) rfl
theorem qs_22 : Cond.selects RX8 yX8_putInOrder yX8_putInOrder ∈ qA := qa (List.mem_of_getElem? (i := 22) (by decide +kernel)) rfl
theorem qs_23 : Cond.selects RX8 yX8_copyHeap yX8_copyHeap ∈ qA := qa (List.mem_of_getElem? (i := 23) (by decide +kernel)) rfl
theorem qs_24 : Cond.selects RX8 yX8_putTogether yX8_putTogether ∈ qA := qa (List.mem_of_getElem? (i := 24) (by decide +kernel)) rfl
theorem qs_25 : Cond.selects RX8 yX8_giveHeaps yX8_giveHeaps ∈ qA := qa (List.mem_of_getElem? (i := 25) (by decide +kernel)) rfl
theorem qs_26 : Cond.selects RX8 yX8_setPart yX8_setPart ∈ qA := qa (List.mem_of_getElem? (i := 26) (by decide +kernel)) rfl
theorem qs_27 : Cond.selects RX8 yX8_knows yX8_knows ∈ qA := qa (List.mem_of_getElem? (i := 27) (by decide +kernel)) rfl
theorem qs_28 : Cond.selects RX8 yX8_aheadOf yX8_aheadOf ∈ qA := qa (List.mem_of_getElem? (i := 28) (by decide +kernel)) rfl
theorem qs_29 : Cond.selects RX8 yX8_putValuesInOrder yX8_putValuesInOrder ∈ qA := qa (List.mem_of_getElem? (i := 29) (by decide +kernel)) rfl
theorem qs_30 : Cond.selects RX8 yX8_sumOf yX8_sumOf ∈ qA := qa (List.mem_of_getElem? (i := 30) (by decide +kernel)) rfl
theorem qs_31 : Cond.selects RX8 yX8_greatestWeight yX8_greatestWeight ∈ qA := qa (List.mem_of_getElem? (i := 31) (by decide +kernel)) rfl
theorem qs_32 : Cond.selects RX8 yX8_whyNoQuantile yX8_whyNoQuantile ∈ qA := qa (List.mem_of_getElem? (i := 32) (by decide +kernel)) rfl
theorem qs_33 : Cond.selects RX8 yX8_findAll yX8_findAll ∈ qA := qa (List.mem_of_getElem? (i := 33) (by decide +kernel)) rfl
theorem qs_34 : Cond.selects RX8 yX8_quantileBy yX8_quantileBy ∈ qA := qa (List.mem_of_getElem? (i := 34) (by decide +kernel)) rfl
theorem qs_35 : Cond.selects RX8 yX8_truthBy yX8_truthBy ∈ qA := qa (List.mem_of_getElem? (i := 35) (by decide +kernel)) rfl
theorem qs_36 : Cond.selects RX8 yX8_heapsBy yX8_heapsBy ∈ qA := qa (List.mem_of_getElem? (i := 36) (by decide +kernel)) rfl
theorem qs_37 : Cond.selects RX8 yX8_allWeight yX8_allWeight ∈ qA := qa (List.mem_of_getElem? (i := 37) (by decide +kernel)) rfl
theorem qs_38 : Cond.selects RX8 yX8_findFault yX8_findFault ∈ qA := qa (List.mem_of_getElem? (i := 38) (by decide +kernel)) rfl
theorem qs_39 : Cond.selects RX8 yX8_readsPart yX8_readsPart ∈ qA := qa (List.mem_of_getElem? (i := 39) (by decide +kernel)) rfl
theorem qs_40 : Cond.selects RX8 yX8_takeNumber yX8_takeNumber ∈ qA := qa (List.mem_of_getElem? (i := 40) (by decide +kernel)) rfl
theorem qs_41 : Cond.selects RX8 yX8_character yX8_character ∈ qA := qa (List.mem_of_getElem? (i := 41) (by decide +kernel)) rfl
theorem qs_42 : Cond.selects RX8 yX8_takes yX8_takes ∈ qA := qa (List.mem_of_getElem? (i := 42) (by decide +kernel)) rfl
theorem i_wsX00 : ∀ w ∈ wsX00, w ∈ qA := fun w h => qa ((show ∀ w ∈ wsX00, w ∈ lw_tbl from by decide +kernel) w h) ((show ∀ w ∈ wsX00, goodWord w = true from by decide +kernel) w h)
theorem i_wsX10 : ∀ w ∈ wsX10, w ∈ qA := fun w h => qa ((show ∀ w ∈ wsX10, w ∈ lw_tbl from by decide +kernel) w h) ((show ∀ w ∈ wsX10, goodWord w = true from by decide +kernel) w h)
theorem i_wsX20 : ∀ w ∈ wsX20, w ∈ qA := fun w h => qa ((show ∀ w ∈ wsX20, w ∈ lw_tbl from by decide +kernel) w h) ((show ∀ w ∈ wsX20, goodWord w = true from by decide +kernel) w h)
theorem i_wsX30 : ∀ w ∈ wsX30, w ∈ qA := fun w h => qa ((show ∀ w ∈ wsX30, w ∈ lw_tbl from by decide +kernel) w h) ((show ∀ w ∈ wsX30, goodWord w = true from by decide +kernel) w h)
theorem i_wsX40 : ∀ w ∈ wsX40, w ∈ qA := fun w h => qa ((show ∀ w ∈ wsX40, w ∈ lw_tbl from by decide +kernel) w h) ((show ∀ w ∈ wsX40, goodWord w = true from by decide +kernel) w h)
theorem i_wsX50 : ∀ w ∈ wsX50, w ∈ qA := fun w h => qa ((show ∀ w ∈ wsX50, w ∈ lw_tbl from by decide +kernel) w h) ((show ∀ w ∈ wsX50, goodWord w = true from by decide +kernel) w h)
theorem i_wsX60 : ∀ w ∈ wsX60, w ∈ qA := fun w h => qa ((show ∀ w ∈ wsX60, w ∈ lw_tbl from by decide +kernel) w h) ((show ∀ w ∈ wsX60, goodWord w = true from by decide +kernel) w h)
theorem i_wsX70 : ∀ w ∈ wsX70, w ∈ qA := fun w h => qa ((show ∀ w ∈ wsX70, w ∈ lw_tbl from by decide +kernel) w h) ((show ∀ w ∈ wsX70, goodWord w = true from by decide +kernel) w h)
theorem i_wsX80 : ∀ w ∈ wsX80, w ∈ qA := fun w h => qa ((show ∀ w ∈ wsX80, w ∈ lw_tbl from by decide +kernel) w h) ((show ∀ w ∈ wsX80, goodWord w = true from by decide +kernel) w h)
