def qA : List Cond := lw_tbl.filter goodWord
theorem qa {w : Cond} (h : w ∈ lw_tbl) (g : goodWord w = true) : w ∈ qA := List.mem_filter.mpr ⟨h, g⟩
theorem qA_good {w : Cond} (h : w ∈ qA) : goodWord w = true := (List.mem_filter.mp h).2
theorem qA_tbl {w : Cond} (h : w ∈ qA) : w ∈ lw_tbl := (List.mem_filter.mp h).1
theorem q_0 : Cond.initialized RL ∈ qA := qa (List.mem_of_getElem? (i := 9) (by decide +kernel)) rfl
theorem q_1 : Cond.initialized RX7 ∈ qA := qa (List.mem_of_getElem? (i := 10) (by decide +kernel)) rfl
theorem q_2 : Cond.initialized RX5 ∈ qA := qa (List.mem_of_getElem? (i := 11) (by decide +kernel)) rfl
theorem q_3 : Cond.initialized RX4 ∈ qA := qa (List.mem_of_getElem? (i := 12) (by decide +kernel)) rfl
theorem q_4 : Cond.initialized RJ9 ∈ qA := qa (List.mem_of_getElem? (i := 13) (by decide +kernel)) rfl
theorem q_5 : Cond.initialized RX0 ∈ qA := qa (List.mem_of_getElem? (i := 14) (by decide +kernel)) rfl
theorem q_6 : Cond.initialized RX1 ∈ qA := qa (List.mem_of_getElem? (i := 15) (by decide +kernel)) rfl
theorem q_7 : Cond.initialized RX2 ∈ qA := qa (List.mem_of_getElem? (i := 16) (by decide +kernel)) rfl
theorem q_8 : Cond.initialized RX3 ∈ qA := qa (List.mem_of_getElem? (i := 17) (by decide +kernel)) rfl
theorem q_9 : Cond.initialized RX6 ∈ qA := qa (List.mem_of_getElem? (i := 18) (by decide +kernel)) rfl
theorem q_10 : Cond.initialized RJ10 ∈ qA := qa (List.mem_of_getElem? (i := 19) (by decide +kernel)) rfl
theorem q_11 : Cond.classLink RL 40 RX7 ∈ qA := qa (List.mem_of_getElem? (i := 20) (by decide +kernel)) rfl
theorem q_12 : Cond.instantiable RX7 6 ∈ qA := qa (List.mem_of_getElem? (i := 21) (by decide +kernel)) rfl
theorem q_13 : Cond.methodLink RL 82 yX7_init ∈ qA := qa (List.mem_of_getElem? (i := 22) (by decide +kernel)) rfl
theorem q_14 : Cond.instanceMethod yX7_init ∈ qA := qa (List.mem_of_getElem? (i := 23) (by decide +kernel)) rfl
theorem q_15 : Cond.code yX7_init cX7_init 1 none ∈ qA := qa (List.mem_of_getElem? (i := 24) (by decide +kernel)) rfl
theorem q_16 : Cond.methodLink RX7 3 objectInit ∈ qA := qa (List.mem_of_getElem? (i := 25) (by decide +kernel)) rfl
theorem q_17 : Cond.instanceMethod objectInit ∈ qA := qa (List.mem_of_getElem? (i := 26) (by decide +kernel)) rfl
theorem q_18 : Cond.code objectInit ⟨#[0xb1]⟩ 1 none ∈ qA := qa (List.mem_of_getElem? (i := 27) (by decide +kernel)) rfl
theorem q_19 : Cond.classLink RX7 9 RX5 ∈ qA := qa (List.mem_of_getElem? (i := 28) (by decide +kernel)) rfl
theorem q_20 : Cond.instantiable RX5 4 ∈ qA := qa (List.mem_of_getElem? (i := 29) (by decide +kernel)) rfl
theorem q_21 : Cond.methodLink RX7 11 yX5_init ∈ qA := qa (List.mem_of_getElem? (i := 30) (by decide +kernel)) rfl
theorem q_22 : Cond.instanceMethod yX5_init ∈ qA := qa (List.mem_of_getElem? (i := 31) (by decide +kernel)) rfl
theorem q_23 : Cond.code yX5_init cX5_init 1 none ∈ qA := qa (List.mem_of_getElem? (i := 32) (by decide +kernel)) rfl
theorem q_24 : Cond.methodLink RX5 3 objectInit ∈ qA := qa (List.mem_of_getElem? (i := 33) (by decide +kernel)) rfl
theorem q_25 : Cond.classLink RX5 9 RX4 ∈ qA := qa (List.mem_of_getElem? (i := 34) (by decide +kernel)) rfl
theorem q_26 : Cond.instantiable RX4 2 ∈ qA := qa (List.mem_of_getElem? (i := 35) (by decide +kernel)) rfl
theorem q_27 : Cond.methodLink RX5 11 yX4_init ∈ qA := qa (List.mem_of_getElem? (i := 36) (by decide +kernel)) rfl
theorem q_28 : Cond.instanceMethod yX4_init ∈ qA := qa (List.mem_of_getElem? (i := 37) (by decide +kernel)) rfl
theorem q_29 : Cond.code yX4_init cX4_init 2 none ∈ qA := qa (List.mem_of_getElem? (i := 38) (by decide +kernel)) rfl
theorem q_30 : Cond.methodLink RX4 1 objectInit ∈ qA := qa (List.mem_of_getElem? (i := 39) (by decide +kernel)) rfl
theorem q_31 : Cond.methodLink RX4 7 Lib.Math.max.name ∈ qA := qa (List.mem_of_getElem? (i := 40) (by decide +kernel)) rfl
theorem q_32 : Cond.static Lib.Math.max.name ∈ qA := qa (List.mem_of_getElem? (i := 41) (by decide +kernel)) rfl
theorem q_33 : Cond.code Lib.Math.max.name Lib.Math.max.code 2 (some FieldType.int) ∈ qA := qa (List.mem_of_getElem? (i := 42) (by decide +kernel)) rfl
theorem q_34 : Cond.fieldLink RX4 13 "QuantileDigests$Row" "cells" "[I" ∈ qA := qa (List.mem_of_getElem? (i := 43) (by decide +kernel)) rfl
theorem q_35 : Cond.fieldLink RX4 19 "QuantileDigests$Row" "length" "I" ∈ qA := qa (List.mem_of_getElem? (i := 44) (by decide +kernel)) rfl
theorem q_41 : Cond.arrayClass Jvm.ClassFile.FieldType.int ∈ qA := qa (List.mem_of_getElem? (i := 50) (by decide +kernel)) rfl
theorem q_42 : Cond.classLink RX5 20 RX0 ∈ qA := qa (List.mem_of_getElem? (i := 51) (by decide +kernel)) rfl
theorem q_43 : Cond.instantiable RX0 4 ∈ qA := qa (List.mem_of_getElem? (i := 52) (by decide +kernel)) rfl
theorem q_44 : Cond.methodLinkNest RX5 22 yX0_init RX7 ∈ lw_tbl := List.mem_of_getElem? (i := 53) (by decide +kernel)
theorem q_45 : Cond.instanceMethod yX0_init ∈ qA := qa (List.mem_of_getElem? (i := 54) (by decide +kernel)) rfl
theorem q_46 : Cond.code yX0_init cX0_init 1 none ∈ qA := qa (List.mem_of_getElem? (i := 55) (by decide +kernel)) rfl
theorem q_47 : Cond.methodLink RX0 3 objectInit ∈ qA := qa (List.mem_of_getElem? (i := 56) (by decide +kernel)) rfl
theorem q_48 : Cond.classLink RX0 9 RX1 ∈ qA := qa (List.mem_of_getElem? (i := 57) (by decide +kernel)) rfl
theorem q_49 : Cond.instantiable RX1 4 ∈ qA := qa (List.mem_of_getElem? (i := 58) (by decide +kernel)) rfl
theorem q_50 : Cond.methodLinkNest RX0 11 yX1_init RX7 ∈ lw_tbl := List.mem_of_getElem? (i := 59) (by decide +kernel)
theorem q_51 : Cond.instanceMethod yX1_init ∈ qA := qa (List.mem_of_getElem? (i := 60) (by decide +kernel)) rfl
theorem q_52 : Cond.code yX1_init cX1_init 1 none ∈ qA := qa (List.mem_of_getElem? (i := 61) (by decide +kernel)) rfl
theorem q_53 : Cond.methodLink RX1 3 objectInit ∈ qA := qa (List.mem_of_getElem? (i := 62) (by decide +kernel)) rfl
theorem q_54 : Cond.classLink RX1 9 RX4 ∈ qA := qa (List.mem_of_getElem? (i := 63) (by decide +kernel)) rfl
theorem q_55 : Cond.methodLink RX1 11 yX4_init ∈ qA := qa (List.mem_of_getElem? (i := 64) (by decide +kernel)) rfl
theorem q_56 : Cond.fieldLink RX1 14 "QuantileDigests$Heaps" "weights" "LQuantileDigests$Row;" ∈ qA := qa (List.mem_of_getElem? (i := 65) (by decide +kernel)) rfl
theorem q_57 : Cond.fieldLink RX0 34 "QuantileDigests$Heaps" "weights" "LQuantileDigests$Row;" ∈ qA := qa (List.mem_of_getElem? (i := 66) (by decide +kernel)) rfl
theorem q_58 : Cond.fieldLink RX7 108 "QuantileDigests$Heaps" "weights" "LQuantileDigests$Row;" ∈ qA := qa (List.mem_of_getElem? (i := 67) (by decide +kernel)) rfl
theorem q_59 : Cond.fieldLink RX1 20 "QuantileDigests$Heaps" "sums" "LQuantileDigests$Row;" ∈ qA := qa (List.mem_of_getElem? (i := 68) (by decide +kernel)) rfl
theorem q_60 : Cond.fieldLink RX0 44 "QuantileDigests$Heaps" "sums" "LQuantileDigests$Row;" ∈ qA := qa (List.mem_of_getElem? (i := 69) (by decide +kernel)) rfl
theorem q_61 : Cond.fieldLink RX7 111 "QuantileDigests$Heaps" "sums" "LQuantileDigests$Row;" ∈ qA := qa (List.mem_of_getElem? (i := 70) (by decide +kernel)) rfl
theorem q_62 : Cond.fieldLink RX1 23 "QuantileDigests$Heaps" "leasts" "LQuantileDigests$Row;" ∈ qA := qa (List.mem_of_getElem? (i := 71) (by decide +kernel)) rfl
theorem q_63 : Cond.fieldLink RX0 47 "QuantileDigests$Heaps" "leasts" "LQuantileDigests$Row;" ∈ qA := qa (List.mem_of_getElem? (i := 72) (by decide +kernel)) rfl
theorem q_64 : Cond.fieldLink RX7 114 "QuantileDigests$Heaps" "leasts" "LQuantileDigests$Row;" ∈ qA := qa (List.mem_of_getElem? (i := 73) (by decide +kernel)) rfl
theorem q_65 : Cond.fieldLink RX1 26 "QuantileDigests$Heaps" "greatests" "LQuantileDigests$Row;" ∈ qA := qa (List.mem_of_getElem? (i := 74) (by decide +kernel)) rfl
theorem q_66 : Cond.fieldLink RX0 59 "QuantileDigests$Heaps" "greatests" "LQuantileDigests$Row;" ∈ qA := qa (List.mem_of_getElem? (i := 75) (by decide +kernel)) rfl
theorem q_67 : Cond.fieldLink RX7 117 "QuantileDigests$Heaps" "greatests" "LQuantileDigests$Row;" ∈ qA := qa (List.mem_of_getElem? (i := 76) (by decide +kernel)) rfl
theorem q_77 : Cond.classLink RX0 18 RX4 ∈ qA := qa (List.mem_of_getElem? (i := 86) (by decide +kernel)) rfl
theorem q_78 : Cond.methodLink RX0 20 yX4_init ∈ qA := qa (List.mem_of_getElem? (i := 87) (by decide +kernel)) rfl
theorem q_79 : Cond.fieldLink RX0 12 "QuantileDigests$Digest" "heaps" "LQuantileDigests$Heaps;" ∈ qA := qa (List.mem_of_getElem? (i := 88) (by decide +kernel)) rfl
theorem q_80 : Cond.fieldLink RX7 87 "QuantileDigests$Digest" "heaps" "LQuantileDigests$Heaps;" ∈ qA := qa (List.mem_of_getElem? (i := 89) (by decide +kernel)) rfl
theorem q_81 : Cond.fieldLink RX5 40 "QuantileDigests$Digest" "heaps" "LQuantileDigests$Heaps;" ∈ qA := qa (List.mem_of_getElem? (i := 90) (by decide +kernel)) rfl
theorem q_82 : Cond.fieldLink RX0 23 "QuantileDigests$Digest" "buffer" "LQuantileDigests$Row;" ∈ qA := qa (List.mem_of_getElem? (i := 91) (by decide +kernel)) rfl
theorem q_83 : Cond.fieldLink RX7 134 "QuantileDigests$Digest" "buffer" "LQuantileDigests$Row;" ∈ qA := qa (List.mem_of_getElem? (i := 92) (by decide +kernel)) rfl
theorem q_84 : Cond.fieldLink RX0 27 "QuantileDigests$Digest" "values" "LQuantileDigests$Row;" ∈ qA := qa (List.mem_of_getElem? (i := 93) (by decide +kernel)) rfl
theorem q_85 : Cond.fieldLink RX0 30 "QuantileDigests$Digest" "packings" "I" ∈ qA := qa (List.mem_of_getElem? (i := 94) (by decide +kernel)) rfl
theorem q_86 : Cond.fieldLink RX7 154 "QuantileDigests$Digest" "packings" "I" ∈ qA := qa (List.mem_of_getElem? (i := 95) (by decide +kernel)) rfl
theorem q_96 : Cond.methodLink RX5 33 yX4_append ∈ qA := qa (List.mem_of_getElem? (i := 105) (by decide +kernel)) rfl
theorem q_97 : Cond.instanceMethod yX4_append ∈ qA := qa (List.mem_of_getElem? (i := 106) (by decide +kernel)) rfl
theorem q_98 : Cond.selects RX4 yX4_append yX4_append ∈ qA := qa (List.mem_of_getElem? (i := 107) (by decide +kernel)) rfl
theorem q_99 : Cond.code yX4_append cX4_append 2 none ∈ qA := qa (List.mem_of_getElem? (i := 108) (by decide +kernel)) rfl
theorem q_100 : Cond.fieldLink RX5 14 "QuantileDigests$State" "settings" "LQuantileDigests$Row;" ∈ qA := qa (List.mem_of_getElem? (i := 109) (by decide +kernel)) rfl
theorem q_101 : Cond.fieldLink RX7 73 "QuantileDigests$State" "settings" "LQuantileDigests$Row;" ∈ qA := qa (List.mem_of_getElem? (i := 110) (by decide +kernel)) rfl
theorem q_102 : Cond.fieldLink RX5 23 "QuantileDigests$State" "first" "LQuantileDigests$Digest;" ∈ qA := qa (List.mem_of_getElem? (i := 111) (by decide +kernel)) rfl
theorem q_103 : Cond.fieldLink RX5 27 "QuantileDigests$State" "second" "LQuantileDigests$Digest;" ∈ qA := qa (List.mem_of_getElem? (i := 112) (by decide +kernel)) rfl
theorem q_104 : Cond.fieldLink RX5 30 "QuantileDigests$State" "third" "LQuantileDigests$Digest;" ∈ qA := qa (List.mem_of_getElem? (i := 113) (by decide +kernel)) rfl
theorem q_114 : Cond.classLink RX7 16 RX2 ∈ qA := qa (List.mem_of_getElem? (i := 123) (by decide +kernel)) rfl
theorem q_115 : Cond.instantiable RX2 2 ∈ qA := qa (List.mem_of_getElem? (i := 124) (by decide +kernel)) rfl
theorem q_116 : Cond.methodLink RX7 18 yX2_init ∈ qA := qa (List.mem_of_getElem? (i := 125) (by decide +kernel)) rfl
theorem q_117 : Cond.instanceMethod yX2_init ∈ qA := qa (List.mem_of_getElem? (i := 126) (by decide +kernel)) rfl
theorem q_118 : Cond.code yX2_init cX2_init 2 none ∈ qA := qa (List.mem_of_getElem? (i := 127) (by decide +kernel)) rfl
theorem q_119 : Cond.methodLink RX2 3 objectInit ∈ qA := qa (List.mem_of_getElem? (i := 128) (by decide +kernel)) rfl
theorem q_120 : Cond.classLink RX2 9 RX5 ∈ qA := qa (List.mem_of_getElem? (i := 129) (by decide +kernel)) rfl
theorem q_121 : Cond.arrayOver (Jvm.ClassFile.FieldType.object "QuantileDigests$State") ∈ lw_tbl := List.mem_of_getElem? (i := 130) (by decide +kernel)
theorem q_122 : Cond.methodLink RX2 21 yX5_init ∈ qA := qa (List.mem_of_getElem? (i := 131) (by decide +kernel)) rfl
theorem q_123 : Cond.fieldLink RX2 11 "QuantileDigests$History" "states" "[LQuantileDigests$State;" ∈ qA := qa (List.mem_of_getElem? (i := 132) (by decide +kernel)) rfl
theorem q_124 : Cond.fieldLink RX2 17 "QuantileDigests$History" "size" "I" ∈ qA := qa (List.mem_of_getElem? (i := 133) (by decide +kernel)) rfl
theorem q_130 : Cond.classLink RX7 23 RX4 ∈ qA := qa (List.mem_of_getElem? (i := 139) (by decide +kernel)) rfl
theorem q_131 : Cond.methodLink RX7 25 yX4_init ∈ qA := qa (List.mem_of_getElem? (i := 140) (by decide +kernel)) rfl
theorem q_132 : Cond.classLink RX7 32 RX3 ∈ qA := qa (List.mem_of_getElem? (i := 141) (by decide +kernel)) rfl
theorem q_133 : Cond.instantiable RX3 3 ∈ qA := qa (List.mem_of_getElem? (i := 142) (by decide +kernel)) rfl
theorem q_134 : Cond.methodLinkNest RX7 34 yX3_init RX7 ∈ lw_tbl := List.mem_of_getElem? (i := 143) (by decide +kernel)
theorem q_135 : Cond.instanceMethod yX3_init ∈ qA := qa (List.mem_of_getElem? (i := 144) (by decide +kernel)) rfl
theorem q_136 : Cond.code yX3_init cX3_init 1 none ∈ qA := qa (List.mem_of_getElem? (i := 145) (by decide +kernel)) rfl
theorem q_137 : Cond.methodLink RX3 3 objectInit ∈ qA := qa (List.mem_of_getElem? (i := 146) (by decide +kernel)) rfl
theorem q_138 : Cond.classLink RX3 9 RX4 ∈ qA := qa (List.mem_of_getElem? (i := 147) (by decide +kernel)) rfl
theorem q_139 : Cond.methodLink RX3 11 yX4_init ∈ qA := qa (List.mem_of_getElem? (i := 148) (by decide +kernel)) rfl
theorem q_140 : Cond.fieldLink RX3 14 "QuantileDigests$Part" "values" "LQuantileDigests$Row;" ∈ qA := qa (List.mem_of_getElem? (i := 149) (by decide +kernel)) rfl
theorem q_141 : Cond.fieldLink RX3 20 "QuantileDigests$Part" "digest" "I" ∈ qA := qa (List.mem_of_getElem? (i := 150) (by decide +kernel)) rfl
theorem q_142 : Cond.fieldLink RX3 24 "QuantileDigests$Part" "end" "I" ∈ qA := qa (List.mem_of_getElem? (i := 151) (by decide +kernel)) rfl
theorem q_150 : Cond.classLink RX7 39 RX6 ∈ qA := qa (List.mem_of_getElem? (i := 159) (by decide +kernel)) rfl
theorem q_151 : Cond.instantiable RX6 4 ∈ qA := qa (List.mem_of_getElem? (i := 160) (by decide +kernel)) rfl
theorem q_152 : Cond.methodLinkNest RX7 41 yX6_init RX7 ∈ lw_tbl := List.mem_of_getElem? (i := 161) (by decide +kernel)
theorem q_153 : Cond.instanceMethod yX6_init ∈ qA := qa (List.mem_of_getElem? (i := 162) (by decide +kernel)) rfl
theorem q_154 : Cond.code yX6_init cX6_init 1 none ∈ qA := qa (List.mem_of_getElem? (i := 163) (by decide +kernel)) rfl
theorem q_155 : Cond.methodLink RX6 3 objectInit ∈ qA := qa (List.mem_of_getElem? (i := 164) (by decide +kernel)) rfl
theorem q_156 : Cond.classLink RX6 9 RX4 ∈ qA := qa (List.mem_of_getElem? (i := 165) (by decide +kernel)) rfl
theorem q_157 : Cond.methodLink RX6 11 yX4_init ∈ qA := qa (List.mem_of_getElem? (i := 166) (by decide +kernel)) rfl
theorem q_158 : Cond.fieldLink RX6 14 "QuantileDigests$TextFault" "weights" "LQuantileDigests$Row;" ∈ qA := qa (List.mem_of_getElem? (i := 167) (by decide +kernel)) rfl
theorem q_159 : Cond.fieldLink RX6 20 "QuantileDigests$TextFault" "position" "I" ∈ qA := qa (List.mem_of_getElem? (i := 168) (by decide +kernel)) rfl
theorem q_160 : Cond.fieldLink RX6 24 "QuantileDigests$TextFault" "reason" "I" ∈ qA := qa (List.mem_of_getElem? (i := 169) (by decide +kernel)) rfl
theorem q_161 : Cond.fieldLink RX6 27 "QuantileDigests$TextFault" "cause" "I" ∈ qA := qa (List.mem_of_getElem? (i := 170) (by decide +kernel)) rfl
theorem q_171 : Cond.classLink RX7 46 RX1 ∈ qA := qa (List.mem_of_getElem? (i := 180) (by decide +kernel)) rfl
theorem q_172 : Cond.methodLinkNest RX7 48 yX1_init RX7 ∈ lw_tbl := List.mem_of_getElem? (i := 181) (by decide +kernel)
theorem q_173 : Cond.fieldLink RX7 12 "QuantileDigests" "state" "LQuantileDigests$State;" ∈ qA := qa (List.mem_of_getElem? (i := 182) (by decide +kernel)) rfl
theorem q_174 : Cond.fieldLink RX7 19 "QuantileDigests" "history" "LQuantileDigests$History;" ∈ qA := qa (List.mem_of_getElem? (i := 183) (by decide +kernel)) rfl
theorem q_175 : Cond.fieldLink RX7 28 "QuantileDigests" "text" "LQuantileDigests$Row;" ∈ qA := qa (List.mem_of_getElem? (i := 184) (by decide +kernel)) rfl
theorem q_176 : Cond.fieldLink RX7 35 "QuantileDigests" "part" "LQuantileDigests$Part;" ∈ qA := qa (List.mem_of_getElem? (i := 185) (by decide +kernel)) rfl
theorem q_177 : Cond.fieldLink RX7 42 "QuantileDigests" "textFault" "LQuantileDigests$TextFault;" ∈ qA := qa (List.mem_of_getElem? (i := 186) (by decide +kernel)) rfl
theorem q_178 : Cond.fieldLink RX7 49 "QuantileDigests" "trial" "LQuantileDigests$Heaps;" ∈ qA := qa (List.mem_of_getElem? (i := 187) (by decide +kernel)) rfl
theorem q_192 : Cond.methodLink RL 91 yX7_add ∈ qA := qa (List.mem_of_getElem? (i := 201) (by decide +kernel)) rfl
theorem q_193 : Cond.instanceMethod yX7_add ∈ qA := qa (List.mem_of_getElem? (i := 202) (by decide +kernel)) rfl
theorem q_194 : Cond.selects RX7 yX7_add yX7_add ∈ qA := qa (List.mem_of_getElem? (i := 203) (by decide +kernel)) rfl
theorem q_195 : Cond.code yX7_add cX7_add 6 (some FieldType.int) ∈ qA := qa (List.mem_of_getElem? (i := 204) (by decide +kernel)) rfl
theorem q_196 : Cond.methodLink RX7 53 yX5_digestAt ∈ qA := qa (List.mem_of_getElem? (i := 205) (by decide +kernel)) rfl
theorem q_197 : Cond.instanceMethod yX5_digestAt ∈ qA := qa (List.mem_of_getElem? (i := 206) (by decide +kernel)) rfl
theorem q_198 : Cond.selects RX5 yX5_digestAt yX5_digestAt ∈ qA := qa (List.mem_of_getElem? (i := 207) (by decide +kernel)) rfl
theorem q_199 : Cond.code yX5_digestAt cX5_digestAt 2 (some (FieldType.object "QuantileDigests$Digest")) ∈ qA := qa (List.mem_of_getElem? (i := 208) (by decide +kernel)) rfl
theorem q_200 : Cond.methodLink RX7 57 yX7_isWithin ∈ qA := qa (List.mem_of_getElem? (i := 209) (by decide +kernel)) rfl
theorem q_201 : Cond.static yX7_isWithin ∈ qA := qa (List.mem_of_getElem? (i := 210) (by decide +kernel)) rfl
theorem q_202 : Cond.code yX7_isWithin cX7_isWithin 3 (some FieldType.boolean) ∈ qA := qa (List.mem_of_getElem? (i := 211) (by decide +kernel)) rfl
theorem q_203 : Cond.constant RX7 61 (-1000001 : Int32) ∈ qA := qa (List.mem_of_getElem? (i := 212) (by decide +kernel)) rfl
theorem q_204 : Cond.methodLink RX7 62 yX0_weight ∈ qA := qa (List.mem_of_getElem? (i := 213) (by decide +kernel)) rfl
theorem q_205 : Cond.instanceMethod yX0_weight ∈ qA := qa (List.mem_of_getElem? (i := 214) (by decide +kernel)) rfl
theorem q_206 : Cond.selects RX0 yX0_weight yX0_weight ∈ qA := qa (List.mem_of_getElem? (i := 215) (by decide +kernel)) rfl
theorem q_207 : Cond.code yX0_weight cX0_weight 1 (some FieldType.int) ∈ qA := qa (List.mem_of_getElem? (i := 216) (by decide +kernel)) rfl
theorem q_208 : Cond.methodLink RX0 37 yX4_total ∈ qA := qa (List.mem_of_getElem? (i := 217) (by decide +kernel)) rfl
theorem q_209 : Cond.instanceMethod yX4_total ∈ qA := qa (List.mem_of_getElem? (i := 218) (by decide +kernel)) rfl
theorem q_210 : Cond.selects RX4 yX4_total yX4_total ∈ qA := qa (List.mem_of_getElem? (i := 219) (by decide +kernel)) rfl
theorem q_211 : Cond.code yX4_total cX4_total 3 (some FieldType.int) ∈ qA := qa (List.mem_of_getElem? (i := 220) (by decide +kernel)) rfl
theorem q_212 : Cond.methodLink RX4 23 yX4_at ∈ qA := qa (List.mem_of_getElem? (i := 221) (by decide +kernel)) rfl
theorem q_213 : Cond.instanceMethod yX4_at ∈ qA := qa (List.mem_of_getElem? (i := 222) (by decide +kernel)) rfl
theorem q_214 : Cond.selects RX4 yX4_at yX4_at ∈ qA := qa (List.mem_of_getElem? (i := 223) (by decide +kernel)) rfl
theorem q_215 : Cond.code yX4_at cX4_at 2 (some FieldType.int) ∈ qA := qa (List.mem_of_getElem? (i := 224) (by decide +kernel)) rfl
theorem q_216 : Cond.methodLink RX0 41 yX4_length ∈ qA := qa (List.mem_of_getElem? (i := 225) (by decide +kernel)) rfl
theorem q_217 : Cond.instanceMethod yX4_length ∈ qA := qa (List.mem_of_getElem? (i := 226) (by decide +kernel)) rfl
theorem q_218 : Cond.selects RX4 yX4_length yX4_length ∈ qA := qa (List.mem_of_getElem? (i := 227) (by decide +kernel)) rfl
theorem q_219 : Cond.code yX4_length cX4_length 1 (some FieldType.int) ∈ qA := qa (List.mem_of_getElem? (i := 228) (by decide +kernel)) rfl
theorem q_220 : Cond.constant RX7 68 (-1000003 : Int32) ∈ qA := qa (List.mem_of_getElem? (i := 229) (by decide +kernel)) rfl
theorem q_221 : Cond.methodLink RX7 69 yX2_record ∈ qA := qa (List.mem_of_getElem? (i := 230) (by decide +kernel)) rfl
theorem q_222 : Cond.instanceMethod yX2_record ∈ qA := qa (List.mem_of_getElem? (i := 231) (by decide +kernel)) rfl
theorem q_223 : Cond.selects RX2 yX2_record yX2_record ∈ qA := qa (List.mem_of_getElem? (i := 232) (by decide +kernel)) rfl
theorem q_224 : Cond.code yX2_record cX2_record 3 none ∈ qA := qa (List.mem_of_getElem? (i := 233) (by decide +kernel)) rfl
theorem q_225 : Cond.methodLink RX2 22 yX2_dropOldest ∈ qA := qa (List.mem_of_getElem? (i := 234) (by decide +kernel)) rfl
theorem q_227 : Cond.instanceMethod yX2_dropOldest ∈ qA := qa (List.mem_of_getElem? (i := 236) (by decide +kernel)) rfl
theorem q_228 : Cond.code yX2_dropOldest cX2_dropOldest 3 none ∈ qA := qa (List.mem_of_getElem? (i := 237) (by decide +kernel)) rfl
theorem q_229 : Cond.methodLink RX2 25 yX2_stateAt ∈ qA := qa (List.mem_of_getElem? (i := 238) (by decide +kernel)) rfl
theorem q_231 : Cond.instanceMethod yX2_stateAt ∈ qA := qa (List.mem_of_getElem? (i := 240) (by decide +kernel)) rfl
theorem q_232 : Cond.code yX2_stateAt cX2_stateAt 2 (some (FieldType.object "QuantileDigests$State")) ∈ qA := qa (List.mem_of_getElem? (i := 241) (by decide +kernel)) rfl
theorem q_233 : Cond.methodLink RX2 29 yX5_copyFrom ∈ qA := qa (List.mem_of_getElem? (i := 242) (by decide +kernel)) rfl
theorem q_234 : Cond.instanceMethod yX5_copyFrom ∈ qA := qa (List.mem_of_getElem? (i := 243) (by decide +kernel)) rfl
theorem q_235 : Cond.selects RX5 yX5_copyFrom yX5_copyFrom ∈ qA := qa (List.mem_of_getElem? (i := 244) (by decide +kernel)) rfl
theorem q_236 : Cond.code yX5_copyFrom cX5_copyFrom 2 none ∈ qA := qa (List.mem_of_getElem? (i := 245) (by decide +kernel)) rfl
theorem q_237 : Cond.methodLink RX5 49 yX4_copyFrom ∈ qA := qa (List.mem_of_getElem? (i := 246) (by decide +kernel)) rfl
theorem q_238 : Cond.instanceMethod yX4_copyFrom ∈ qA := qa (List.mem_of_getElem? (i := 247) (by decide +kernel)) rfl
theorem q_239 : Cond.selects RX4 yX4_copyFrom yX4_copyFrom ∈ qA := qa (List.mem_of_getElem? (i := 248) (by decide +kernel)) rfl
theorem q_240 : Cond.code yX4_copyFrom cX4_copyFrom 2 none ∈ qA := qa (List.mem_of_getElem? (i := 249) (by decide +kernel)) rfl
theorem q_241 : Cond.methodLink RX4 35 Lib.Math.min.name ∈ qA := qa (List.mem_of_getElem? (i := 250) (by decide +kernel)) rfl
theorem q_242 : Cond.static Lib.Math.min.name ∈ qA := qa (List.mem_of_getElem? (i := 251) (by decide +kernel)) rfl
theorem q_243 : Cond.code Lib.Math.min.name Lib.Math.min.code 2 (some FieldType.int) ∈ qA := qa (List.mem_of_getElem? (i := 252) (by decide +kernel)) rfl
theorem q_244 : Cond.methodLink RX4 38 arraycopyName ∈ qA := qa (List.mem_of_getElem? (i := 253) (by decide +kernel)) rfl
theorem q_245 : Cond.static arraycopyName ∈ qA := qa (List.mem_of_getElem? (i := 254) (by decide +kernel)) rfl
theorem q_246 : Cond.native arraycopyName ∈ qA := qa (List.mem_of_getElem? (i := 255) (by decide +kernel)) rfl
theorem q_247 : Cond.methodLink RX5 53 yX0_copyFrom ∈ qA := qa (List.mem_of_getElem? (i := 256) (by decide +kernel)) rfl
theorem q_248 : Cond.instanceMethod yX0_copyFrom ∈ qA := qa (List.mem_of_getElem? (i := 257) (by decide +kernel)) rfl
theorem q_249 : Cond.selects RX0 yX0_copyFrom yX0_copyFrom ∈ qA := qa (List.mem_of_getElem? (i := 258) (by decide +kernel)) rfl
theorem q_250 : Cond.code yX0_copyFrom cX0_copyFrom 2 none ∈ qA := qa (List.mem_of_getElem? (i := 259) (by decide +kernel)) rfl
theorem q_251 : Cond.methodLink RX0 97 yX1_copyFrom ∈ qA := qa (List.mem_of_getElem? (i := 260) (by decide +kernel)) rfl
theorem q_252 : Cond.instanceMethod yX1_copyFrom ∈ qA := qa (List.mem_of_getElem? (i := 261) (by decide +kernel)) rfl
theorem q_253 : Cond.selects RX1 yX1_copyFrom yX1_copyFrom ∈ qA := qa (List.mem_of_getElem? (i := 262) (by decide +kernel)) rfl
theorem q_254 : Cond.code yX1_copyFrom cX1_copyFrom 2 none ∈ qA := qa (List.mem_of_getElem? (i := 263) (by decide +kernel)) rfl
theorem q_255 : Cond.methodLink RX1 36 yX4_copyFrom ∈ qA := qa (List.mem_of_getElem? (i := 264) (by decide +kernel)) rfl
theorem q_256 : Cond.methodLink RX0 100 yX4_copyFrom ∈ qA := qa (List.mem_of_getElem? (i := 265) (by decide +kernel)) rfl
theorem q_257 : Cond.methodLink RX7 76 yX0_receive ∈ qA := qa (List.mem_of_getElem? (i := 266) (by decide +kernel)) rfl
theorem q_258 : Cond.instanceMethod yX0_receive ∈ qA := qa (List.mem_of_getElem? (i := 267) (by decide +kernel)) rfl
theorem q_259 : Cond.selects RX0 yX0_receive yX0_receive ∈ qA := qa (List.mem_of_getElem? (i := 268) (by decide +kernel)) rfl
theorem q_260 : Cond.code yX0_receive cX0_receive 3 none ∈ qA := qa (List.mem_of_getElem? (i := 269) (by decide +kernel)) rfl
theorem q_261 : Cond.methodLink RX0 71 yX4_at ∈ qA := qa (List.mem_of_getElem? (i := 270) (by decide +kernel)) rfl
theorem q_262 : Cond.methodLink RX0 75 yX0_packBy ∈ qA := qa (List.mem_of_getElem? (i := 271) (by decide +kernel)) rfl
theorem q_263 : Cond.instanceMethod yX0_packBy ∈ qA := qa (List.mem_of_getElem? (i := 272) (by decide +kernel)) rfl
theorem q_264 : Cond.selects RX0 yX0_packBy yX0_packBy ∈ qA := qa (List.mem_of_getElem? (i := 273) (by decide +kernel)) rfl
theorem q_265 : Cond.code yX0_packBy cX0_packBy 2 none ∈ qA := qa (List.mem_of_getElem? (i := 274) (by decide +kernel)) rfl
theorem q_266 : Cond.methodLink RX0 84 yX1_appendEach ∈ qA := qa (List.mem_of_getElem? (i := 275) (by decide +kernel)) rfl
theorem q_267 : Cond.instanceMethod yX1_appendEach ∈ qA := qa (List.mem_of_getElem? (i := 276) (by decide +kernel)) rfl
theorem q_268 : Cond.selects RX1 yX1_appendEach yX1_appendEach ∈ qA := qa (List.mem_of_getElem? (i := 277) (by decide +kernel)) rfl
theorem q_269 : Cond.code yX1_appendEach cX1_appendEach 4 none ∈ qA := qa (List.mem_of_getElem? (i := 278) (by decide +kernel)) rfl
theorem q_270 : Cond.methodLink RX1 29 yX4_length ∈ qA := qa (List.mem_of_getElem? (i := 279) (by decide +kernel)) rfl
theorem q_271 : Cond.methodLink RX1 40 yX4_at ∈ qA := qa (List.mem_of_getElem? (i := 280) (by decide +kernel)) rfl
theorem q_272 : Cond.methodLink RX1 44 yX4_append ∈ qA := qa (List.mem_of_getElem? (i := 281) (by decide +kernel)) rfl
theorem q_273 : Cond.methodLink RX0 88 yX4_empty ∈ qA := qa (List.mem_of_getElem? (i := 282) (by decide +kernel)) rfl
theorem q_274 : Cond.instanceMethod yX4_empty ∈ qA := qa (List.mem_of_getElem? (i := 283) (by decide +kernel)) rfl
theorem q_275 : Cond.selects RX4 yX4_empty yX4_empty ∈ qA := qa (List.mem_of_getElem? (i := 284) (by decide +kernel)) rfl
theorem q_276 : Cond.code yX4_empty cX4_empty 1 none ∈ qA := qa (List.mem_of_getElem? (i := 285) (by decide +kernel)) rfl
theorem q_277 : Cond.methodLink RX0 91 yX1_packBy ∈ qA := qa (List.mem_of_getElem? (i := 286) (by decide +kernel)) rfl
theorem q_278 : Cond.instanceMethod yX1_packBy ∈ qA := qa (List.mem_of_getElem? (i := 287) (by decide +kernel)) rfl
theorem q_279 : Cond.selects RX1 yX1_packBy yX1_packBy ∈ qA := qa (List.mem_of_getElem? (i := 288) (by decide +kernel)) rfl
theorem q_280 : Cond.code yX1_packBy cX1_packBy 2 none ∈ qA := qa (List.mem_of_getElem? (i := 289) (by decide +kernel)) rfl
theorem q_281 : Cond.methodLink RX1 53 yX1_order ∈ qA := qa (List.mem_of_getElem? (i := 290) (by decide +kernel)) rfl
theorem q_283 : Cond.instanceMethod yX1_order ∈ qA := qa (List.mem_of_getElem? (i := 292) (by decide +kernel)) rfl
theorem q_284 : Cond.code yX1_order cX1_order 3 none ∈ qA := qa (List.mem_of_getElem? (i := 293) (by decide +kernel)) rfl
theorem q_285 : Cond.methodLink RX1 50 yX1_size ∈ qA := qa (List.mem_of_getElem? (i := 294) (by decide +kernel)) rfl
theorem q_286 : Cond.instanceMethod yX1_size ∈ qA := qa (List.mem_of_getElem? (i := 295) (by decide +kernel)) rfl
theorem q_287 : Cond.selects RX1 yX1_size yX1_size ∈ qA := qa (List.mem_of_getElem? (i := 296) (by decide +kernel)) rfl
theorem q_288 : Cond.code yX1_size cX1_size 1 (some FieldType.int) ∈ qA := qa (List.mem_of_getElem? (i := 297) (by decide +kernel)) rfl
theorem q_289 : Cond.methodLink RX1 59 yX1_isMiddleAbove ∈ qA := qa (List.mem_of_getElem? (i := 298) (by decide +kernel)) rfl
theorem q_291 : Cond.instanceMethod yX1_isMiddleAbove ∈ qA := qa (List.mem_of_getElem? (i := 300) (by decide +kernel)) rfl
theorem q_292 : Cond.code yX1_isMiddleAbove cX1_isMiddleAbove 7 (some FieldType.boolean) ∈ qA := qa (List.mem_of_getElem? (i := 301) (by decide +kernel)) rfl
theorem q_293 : Cond.methodLink RX1 63 yX1_exchange ∈ qA := qa (List.mem_of_getElem? (i := 302) (by decide +kernel)) rfl
theorem q_295 : Cond.instanceMethod yX1_exchange ∈ qA := qa (List.mem_of_getElem? (i := 304) (by decide +kernel)) rfl
theorem q_296 : Cond.code yX1_exchange cX1_exchange 3 none ∈ qA := qa (List.mem_of_getElem? (i := 305) (by decide +kernel)) rfl
theorem q_297 : Cond.methodLink RX1 67 yX4_exchange ∈ qA := qa (List.mem_of_getElem? (i := 306) (by decide +kernel)) rfl
theorem q_298 : Cond.instanceMethod yX4_exchange ∈ qA := qa (List.mem_of_getElem? (i := 307) (by decide +kernel)) rfl
theorem q_299 : Cond.selects RX4 yX4_exchange yX4_exchange ∈ qA := qa (List.mem_of_getElem? (i := 308) (by decide +kernel)) rfl
theorem q_300 : Cond.code yX4_exchange cX4_exchange 4 none ∈ qA := qa (List.mem_of_getElem? (i := 309) (by decide +kernel)) rfl
theorem q_301 : Cond.methodLink RX1 56 yX1_putTogether ∈ qA := qa (List.mem_of_getElem? (i := 310) (by decide +kernel)) rfl
theorem q_303 : Cond.instanceMethod yX1_putTogether ∈ qA := qa (List.mem_of_getElem? (i := 312) (by decide +kernel)) rfl
theorem q_304 : Cond.code yX1_putTogether cX1_putTogether 7 none ∈ qA := qa (List.mem_of_getElem? (i := 313) (by decide +kernel)) rfl
theorem q_305 : Cond.methodLink RX1 68 yX4_total ∈ qA := qa (List.mem_of_getElem? (i := 314) (by decide +kernel)) rfl
theorem q_306 : Cond.methodLink RX1 71 yX1_isWithinPlace ∈ qA := qa (List.mem_of_getElem? (i := 315) (by decide +kernel)) rfl
theorem q_307 : Cond.static yX1_isWithinPlace ∈ qA := qa (List.mem_of_getElem? (i := 316) (by decide +kernel)) rfl
theorem q_308 : Cond.code yX1_isWithinPlace cX1_isWithinPlace 4 (some FieldType.boolean) ∈ qA := qa (List.mem_of_getElem? (i := 317) (by decide +kernel)) rfl
theorem q_309 : Cond.methodLink RX1 75 yX1_unite ∈ qA := qa (List.mem_of_getElem? (i := 318) (by decide +kernel)) rfl
theorem q_311 : Cond.instanceMethod yX1_unite ∈ qA := qa (List.mem_of_getElem? (i := 320) (by decide +kernel)) rfl
theorem q_312 : Cond.code yX1_unite cX1_unite 3 none ∈ qA := qa (List.mem_of_getElem? (i := 321) (by decide +kernel)) rfl
theorem q_313 : Cond.methodLink RX1 81 yX4_put ∈ qA := qa (List.mem_of_getElem? (i := 322) (by decide +kernel)) rfl
theorem q_314 : Cond.instanceMethod yX4_put ∈ qA := qa (List.mem_of_getElem? (i := 323) (by decide +kernel)) rfl
theorem q_315 : Cond.selects RX4 yX4_put yX4_put ∈ qA := qa (List.mem_of_getElem? (i := 324) (by decide +kernel)) rfl
theorem q_316 : Cond.code yX4_put cX4_put 3 none ∈ qA := qa (List.mem_of_getElem? (i := 325) (by decide +kernel)) rfl
theorem q_317 : Cond.methodLink RX1 84 Lib.Math.min.name ∈ qA := qa (List.mem_of_getElem? (i := 326) (by decide +kernel)) rfl
theorem q_318 : Cond.methodLink RX1 90 Lib.Math.max.name ∈ qA := qa (List.mem_of_getElem? (i := 327) (by decide +kernel)) rfl
theorem q_319 : Cond.methodLink RX1 78 yX1_shortenTo ∈ qA := qa (List.mem_of_getElem? (i := 328) (by decide +kernel)) rfl
theorem q_321 : Cond.instanceMethod yX1_shortenTo ∈ qA := qa (List.mem_of_getElem? (i := 330) (by decide +kernel)) rfl
theorem q_322 : Cond.code yX1_shortenTo cX1_shortenTo 2 none ∈ qA := qa (List.mem_of_getElem? (i := 331) (by decide +kernel)) rfl
theorem q_323 : Cond.methodLink RX1 93 yX4_shortenTo ∈ qA := qa (List.mem_of_getElem? (i := 332) (by decide +kernel)) rfl
theorem q_324 : Cond.instanceMethod yX4_shortenTo ∈ qA := qa (List.mem_of_getElem? (i := 333) (by decide +kernel)) rfl
theorem q_325 : Cond.selects RX4 yX4_shortenTo yX4_shortenTo ∈ qA := qa (List.mem_of_getElem? (i := 334) (by decide +kernel)) rfl
theorem q_326 : Cond.code yX4_shortenTo cX4_shortenTo 2 none ∈ qA := qa (List.mem_of_getElem? (i := 335) (by decide +kernel)) rfl
theorem q_327 : Cond.methodLink RX0 78 yX4_append ∈ qA := qa (List.mem_of_getElem? (i := 336) (by decide +kernel)) rfl
theorem q_328 : Cond.methodLink RX0 81 yX4_insertInOrder ∈ qA := qa (List.mem_of_getElem? (i := 337) (by decide +kernel)) rfl
theorem q_329 : Cond.instanceMethod yX4_insertInOrder ∈ qA := qa (List.mem_of_getElem? (i := 338) (by decide +kernel)) rfl
theorem q_330 : Cond.selects RX4 yX4_insertInOrder yX4_insertInOrder ∈ qA := qa (List.mem_of_getElem? (i := 339) (by decide +kernel)) rfl
theorem q_331 : Cond.code yX4_insertInOrder cX4_insertInOrder 3 none ∈ qA := qa (List.mem_of_getElem? (i := 340) (by decide +kernel)) rfl
theorem q_332 : Cond.methodLink RX4 27 yX4_append ∈ qA := qa (List.mem_of_getElem? (i := 341) (by decide +kernel)) rfl
theorem q_333 : Cond.methodLink RX4 31 yX4_exchange ∈ qA := qa (List.mem_of_getElem? (i := 342) (by decide +kernel)) rfl
theorem q_334 : Cond.methodLink RL 94 yX7_pack ∈ qA := qa (List.mem_of_getElem? (i := 343) (by decide +kernel)) rfl
theorem q_335 : Cond.instanceMethod yX7_pack ∈ qA := qa (List.mem_of_getElem? (i := 344) (by decide +kernel)) rfl
theorem q_336 : Cond.selects RX7 yX7_pack yX7_pack ∈ qA := qa (List.mem_of_getElem? (i := 345) (by decide +kernel)) rfl
theorem q_337 : Cond.code yX7_pack cX7_pack 3 (some FieldType.int) ∈ qA := qa (List.mem_of_getElem? (i := 346) (by decide +kernel)) rfl
theorem q_338 : Cond.methodLink RX7 80 yX4_at ∈ qA := qa (List.mem_of_getElem? (i := 347) (by decide +kernel)) rfl
theorem q_339 : Cond.methodLink RX7 84 yX0_packBy ∈ qA := qa (List.mem_of_getElem? (i := 348) (by decide +kernel)) rfl
theorem q_340 : Cond.methodLink RX7 90 yX1_size ∈ qA := qa (List.mem_of_getElem? (i := 349) (by decide +kernel)) rfl
theorem q_341 : Cond.methodLink RL 100 yX7_join ∈ qA := qa (List.mem_of_getElem? (i := 350) (by decide +kernel)) rfl
theorem q_342 : Cond.instanceMethod yX7_join ∈ qA := qa (List.mem_of_getElem? (i := 351) (by decide +kernel)) rfl
theorem q_343 : Cond.selects RX7 yX7_join yX7_join ∈ qA := qa (List.mem_of_getElem? (i := 352) (by decide +kernel)) rfl
theorem q_344 : Cond.code yX7_join cX7_join 5 (some FieldType.int) ∈ qA := qa (List.mem_of_getElem? (i := 353) (by decide +kernel)) rfl
theorem q_345 : Cond.methodLink RX7 93 yX0_takeOver ∈ qA := qa (List.mem_of_getElem? (i := 354) (by decide +kernel)) rfl
theorem q_346 : Cond.instanceMethod yX0_takeOver ∈ qA := qa (List.mem_of_getElem? (i := 355) (by decide +kernel)) rfl
theorem q_347 : Cond.selects RX0 yX0_takeOver yX0_takeOver ∈ qA := qa (List.mem_of_getElem? (i := 356) (by decide +kernel)) rfl
theorem q_348 : Cond.code yX0_takeOver cX0_takeOver 4 none ∈ qA := qa (List.mem_of_getElem? (i := 357) (by decide +kernel)) rfl
theorem q_349 : Cond.methodLink RX0 92 yX1_appendAll ∈ qA := qa (List.mem_of_getElem? (i := 358) (by decide +kernel)) rfl
theorem q_350 : Cond.instanceMethod yX1_appendAll ∈ qA := qa (List.mem_of_getElem? (i := 359) (by decide +kernel)) rfl
theorem q_351 : Cond.selects RX1 yX1_appendAll yX1_appendAll ∈ qA := qa (List.mem_of_getElem? (i := 360) (by decide +kernel)) rfl
theorem q_352 : Cond.code yX1_appendAll cX1_appendAll 2 none ∈ qA := qa (List.mem_of_getElem? (i := 361) (by decide +kernel)) rfl
theorem q_353 : Cond.methodLink RX1 47 yX4_appendAll ∈ qA := qa (List.mem_of_getElem? (i := 362) (by decide +kernel)) rfl
theorem q_354 : Cond.instanceMethod yX4_appendAll ∈ qA := qa (List.mem_of_getElem? (i := 363) (by decide +kernel)) rfl
theorem q_355 : Cond.selects RX4 yX4_appendAll yX4_appendAll ∈ qA := qa (List.mem_of_getElem? (i := 364) (by decide +kernel)) rfl
theorem q_356 : Cond.code yX4_appendAll cX4_appendAll 3 none ∈ qA := qa (List.mem_of_getElem? (i := 365) (by decide +kernel)) rfl
theorem q_357 : Cond.methodLink RL 97 yX7_set ∈ qA := qa (List.mem_of_getElem? (i := 366) (by decide +kernel)) rfl
theorem q_358 : Cond.instanceMethod yX7_set ∈ qA := qa (List.mem_of_getElem? (i := 367) (by decide +kernel)) rfl
theorem q_359 : Cond.selects RX7 yX7_set yX7_set ∈ qA := qa (List.mem_of_getElem? (i := 368) (by decide +kernel)) rfl
theorem q_360 : Cond.code yX7_set cX7_set 4 (some FieldType.int) ∈ qA := qa (List.mem_of_getElem? (i := 369) (by decide +kernel)) rfl
theorem q_361 : Cond.methodLink RX7 100 yX7_highestSetting ∈ qA := qa (List.mem_of_getElem? (i := 370) (by decide +kernel)) rfl
theorem q_362 : Cond.static yX7_highestSetting ∈ qA := qa (List.mem_of_getElem? (i := 371) (by decide +kernel)) rfl
theorem q_363 : Cond.code yX7_highestSetting cX7_highestSetting 1 (some FieldType.int) ∈ qA := qa (List.mem_of_getElem? (i := 372) (by decide +kernel)) rfl
theorem q_364 : Cond.methodLink RX7 103 yX4_put ∈ qA := qa (List.mem_of_getElem? (i := 373) (by decide +kernel)) rfl
theorem q_365 : Cond.methodLink RL 107 yX7_count ∈ qA := qa (List.mem_of_getElem? (i := 374) (by decide +kernel)) rfl
theorem q_366 : Cond.instanceMethod yX7_count ∈ qA := qa (List.mem_of_getElem? (i := 375) (by decide +kernel)) rfl
theorem q_367 : Cond.selects RX7 yX7_count yX7_count ∈ qA := qa (List.mem_of_getElem? (i := 376) (by decide +kernel)) rfl
theorem q_368 : Cond.code yX7_count cX7_count 2 (some FieldType.int) ∈ qA := qa (List.mem_of_getElem? (i := 377) (by decide +kernel)) rfl
theorem q_369 : Cond.methodLink RX7 189 yX5_weight ∈ qA := qa (List.mem_of_getElem? (i := 378) (by decide +kernel)) rfl
theorem q_370 : Cond.instanceMethod yX5_weight ∈ qA := qa (List.mem_of_getElem? (i := 379) (by decide +kernel)) rfl
theorem q_371 : Cond.selects RX5 yX5_weight yX5_weight ∈ qA := qa (List.mem_of_getElem? (i := 380) (by decide +kernel)) rfl
theorem q_372 : Cond.code yX5_weight cX5_weight 1 (some FieldType.int) ∈ qA := qa (List.mem_of_getElem? (i := 381) (by decide +kernel)) rfl
theorem q_373 : Cond.methodLink RX5 36 yX0_weight ∈ qA := qa (List.mem_of_getElem? (i := 382) (by decide +kernel)) rfl
theorem q_374 : Cond.methodLink RX7 190 yX5_heapCount ∈ qA := qa (List.mem_of_getElem? (i := 383) (by decide +kernel)) rfl
theorem q_375 : Cond.instanceMethod yX5_heapCount ∈ qA := qa (List.mem_of_getElem? (i := 384) (by decide +kernel)) rfl
theorem q_376 : Cond.selects RX5 yX5_heapCount yX5_heapCount ∈ qA := qa (List.mem_of_getElem? (i := 385) (by decide +kernel)) rfl
theorem q_377 : Cond.code yX5_heapCount cX5_heapCount 1 (some FieldType.int) ∈ qA := qa (List.mem_of_getElem? (i := 386) (by decide +kernel)) rfl
theorem q_378 : Cond.methodLink RX5 44 yX1_size ∈ qA := qa (List.mem_of_getElem? (i := 387) (by decide +kernel)) rfl
theorem q_379 : Cond.methodLink RX7 193 yX2_size ∈ qA := qa (List.mem_of_getElem? (i := 388) (by decide +kernel)) rfl
theorem q_380 : Cond.instanceMethod yX2_size ∈ qA := qa (List.mem_of_getElem? (i := 389) (by decide +kernel)) rfl
theorem q_381 : Cond.selects RX2 yX2_size yX2_size ∈ qA := qa (List.mem_of_getElem? (i := 390) (by decide +kernel)) rfl
theorem q_382 : Cond.code yX2_size cX2_size 1 (some FieldType.int) ∈ qA := qa (List.mem_of_getElem? (i := 391) (by decide +kernel)) rfl
theorem q_383 : Cond.methodLink RX7 137 yX4_length ∈ qA := qa (List.mem_of_getElem? (i := 392) (by decide +kernel)) rfl
theorem q_384 : Cond.methodLink RL 83 yL_cell ∈ qA := qa (List.mem_of_getElem? (i := 393) (by decide +kernel)) rfl
theorem q_385 : Cond.static yL_cell ∈ qA := qa (List.mem_of_getElem? (i := 394) (by decide +kernel)) rfl
theorem q_386 : Cond.code yL_cell cL_cell 2 (some FieldType.int) ∈ qA := qa (List.mem_of_getElem? (i := 395) (by decide +kernel)) rfl
theorem q_387 : Cond.constant RL 7 (1009750483 : Int32) ∈ qA := qa (List.mem_of_getElem? (i := 396) (by decide +kernel)) rfl
theorem q_388 : Cond.constant RL 8 (701949111 : Int32) ∈ qA := qa (List.mem_of_getElem? (i := 397) (by decide +kernel)) rfl
theorem q_389 : Cond.methodLink RL 73 yL_low ∈ qA := qa (List.mem_of_getElem? (i := 398) (by decide +kernel)) rfl
theorem q_390 : Cond.static yL_low ∈ qA := qa (List.mem_of_getElem? (i := 399) (by decide +kernel)) rfl
theorem q_391 : Cond.code yL_low cL_low 2 (some FieldType.int) ∈ qA := qa (List.mem_of_getElem? (i := 400) (by decide +kernel)) rfl
theorem q_392 : Cond.constant RL 9 (2147483647 : Int32) ∈ qA := qa (List.mem_of_getElem? (i := 401) (by decide +kernel)) rfl
theorem q_393 : Cond.methodLink RL 20 yL_packed ∈ qA := qa (List.mem_of_getElem? (i := 402) (by decide +kernel)) rfl
theorem q_394 : Cond.static yL_packed ∈ qA := qa (List.mem_of_getElem? (i := 403) (by decide +kernel)) rfl
theorem q_395 : Cond.code yL_packed cL_packed 11 (some FieldType.int) ∈ qA := qa (List.mem_of_getElem? (i := 404) (by decide +kernel)) rfl
theorem q_396 : Cond.methodLink RL 10 yL_behind ∈ qA := qa (List.mem_of_getElem? (i := 405) (by decide +kernel)) rfl
theorem q_397 : Cond.static yL_behind ∈ qA := qa (List.mem_of_getElem? (i := 406) (by decide +kernel)) rfl
theorem q_398 : Cond.code yL_behind cL_behind 3 (some FieldType.boolean) ∈ qA := qa (List.mem_of_getElem? (i := 407) (by decide +kernel)) rfl
theorem q_399 : Cond.methodLink RL 16 yL_swap ∈ qA := qa (List.mem_of_getElem? (i := 408) (by decide +kernel)) rfl
theorem q_400 : Cond.static yL_swap ∈ qA := qa (List.mem_of_getElem? (i := 409) (by decide +kernel)) rfl
theorem q_401 : Cond.code yL_swap cL_swap 5 none ∈ qA := qa (List.mem_of_getElem? (i := 410) (by decide +kernel)) rfl
theorem q_402 : Cond.methodLink RL 24 yL_pack ∈ qA := qa (List.mem_of_getElem? (i := 411) (by decide +kernel)) rfl
theorem q_403 : Cond.static yL_pack ∈ qA := qa (List.mem_of_getElem? (i := 412) (by decide +kernel)) rfl
theorem q_404 : Cond.code yL_pack cL_pack 6 none ∈ qA := qa (List.mem_of_getElem? (i := 413) (by decide +kernel)) rfl
theorem q_405 : Cond.methodLink RL 87 yL_comes ∈ qA := qa (List.mem_of_getElem? (i := 414) (by decide +kernel)) rfl
theorem q_406 : Cond.static yL_comes ∈ qA := qa (List.mem_of_getElem? (i := 415) (by decide +kernel)) rfl
theorem q_407 : Cond.code yL_comes cL_comes 6 none ∈ qA := qa (List.mem_of_getElem? (i := 416) (by decide +kernel)) rfl
theorem q_408 : Cond.methodLink RL 103 yL_same ∈ qA := qa (List.mem_of_getElem? (i := 417) (by decide +kernel)) rfl
theorem q_409 : Cond.static yL_same ∈ qA := qa (List.mem_of_getElem? (i := 418) (by decide +kernel)) rfl
theorem q_410 : Cond.code yL_same cL_same 22 (some FieldType.boolean) ∈ qA := qa (List.mem_of_getElem? (i := 419) (by decide +kernel)) rfl
theorem q_411 : Cond.constant RL 38 (-1000004 : Int32) ∈ qA := qa (List.mem_of_getElem? (i := 420) (by decide +kernel)) rfl
theorem q_412 : Cond.methodLink RL 39 yX7_heapOf ∈ qA := qa (List.mem_of_getElem? (i := 421) (by decide +kernel)) rfl
theorem q_413 : Cond.instanceMethod yX7_heapOf ∈ qA := qa (List.mem_of_getElem? (i := 422) (by decide +kernel)) rfl
theorem q_414 : Cond.selects RX7 yX7_heapOf yX7_heapOf ∈ qA := qa (List.mem_of_getElem? (i := 423) (by decide +kernel)) rfl
theorem q_415 : Cond.code yX7_heapOf cX7_heapOf 6 (some FieldType.int) ∈ qA := qa (List.mem_of_getElem? (i := 424) (by decide +kernel)) rfl
theorem q_416 : Cond.constant RX7 107 (-1000004 : Int32) ∈ qA := qa (List.mem_of_getElem? (i := 425) (by decide +kernel)) rfl
theorem q_417 : Cond.methodLink RX7 120 yX1_wholeMiddle ∈ qA := qa (List.mem_of_getElem? (i := 426) (by decide +kernel)) rfl
theorem q_418 : Cond.instanceMethod yX1_wholeMiddle ∈ qA := qa (List.mem_of_getElem? (i := 427) (by decide +kernel)) rfl
theorem q_419 : Cond.selects RX1 yX1_wholeMiddle yX1_wholeMiddle ∈ qA := qa (List.mem_of_getElem? (i := 428) (by decide +kernel)) rfl
theorem q_420 : Cond.code yX1_wholeMiddle cX1_wholeMiddle 3 (some FieldType.int) ∈ qA := qa (List.mem_of_getElem? (i := 429) (by decide +kernel)) rfl
theorem q_421 : Cond.methodLink RX7 123 yX1_weightAheadOf ∈ qA := qa (List.mem_of_getElem? (i := 430) (by decide +kernel)) rfl
theorem q_422 : Cond.instanceMethod yX1_weightAheadOf ∈ qA := qa (List.mem_of_getElem? (i := 431) (by decide +kernel)) rfl
theorem q_423 : Cond.selects RX1 yX1_weightAheadOf yX1_weightAheadOf ∈ qA := qa (List.mem_of_getElem? (i := 432) (by decide +kernel)) rfl
theorem q_424 : Cond.code yX1_weightAheadOf cX1_weightAheadOf 4 (some FieldType.int) ∈ qA := qa (List.mem_of_getElem? (i := 433) (by decide +kernel)) rfl
theorem q_425 : Cond.methodLink RX7 126 yX1_floatMiddle ∈ qA := qa (List.mem_of_getElem? (i := 434) (by decide +kernel)) rfl
theorem q_426 : Cond.instanceMethod yX1_floatMiddle ∈ qA := qa (List.mem_of_getElem? (i := 435) (by decide +kernel)) rfl
theorem q_427 : Cond.selects RX1 yX1_floatMiddle yX1_floatMiddle ∈ qA := qa (List.mem_of_getElem? (i := 436) (by decide +kernel)) rfl
theorem q_428 : Cond.code yX1_floatMiddle cX1_floatMiddle 3 (some FieldType.float) ∈ qA := qa (List.mem_of_getElem? (i := 437) (by decide +kernel)) rfl
theorem q_429 : Cond.methodLink RX7 130 yX7_floatBits ∈ qA := qa (List.mem_of_getElem? (i := 438) (by decide +kernel)) rfl
theorem q_430 : Cond.static yX7_floatBits ∈ qA := qa (List.mem_of_getElem? (i := 439) (by decide +kernel)) rfl
theorem q_431 : Cond.code yX7_floatBits cX7_floatBits 4 (some FieldType.int) ∈ qA := qa (List.mem_of_getElem? (i := 440) (by decide +kernel)) rfl
theorem q_432 : Cond.constantFloat RX7 229 (1056964608 : UInt32) ∈ qA := qa (List.mem_of_getElem? (i := 441) (by decide +kernel)) rfl
theorem q_433 : Cond.constantFloat RX7 230 (1258291200 : UInt32) ∈ qA := qa (List.mem_of_getElem? (i := 442) (by decide +kernel)) rfl
theorem q_434 : Cond.constant RX7 231 (8388608 : Int32) ∈ qA := qa (List.mem_of_getElem? (i := 443) (by decide +kernel)) rfl
theorem q_435 : Cond.methodLink RL 45 yL_isFloat ∈ qA := qa (List.mem_of_getElem? (i := 444) (by decide +kernel)) rfl
theorem q_436 : Cond.static yL_isFloat ∈ qA := qa (List.mem_of_getElem? (i := 445) (by decide +kernel)) rfl
theorem q_437 : Cond.code yL_isFloat cL_isFloat 8 (some FieldType.boolean) ∈ qA := qa (List.mem_of_getElem? (i := 446) (by decide +kernel)) rfl
theorem q_438 : Cond.constant RL 34 (8388607 : Int32) ∈ qA := qa (List.mem_of_getElem? (i := 447) (by decide +kernel)) rfl
theorem q_439 : Cond.constant RL 35 (8388608 : Int32) ∈ qA := qa (List.mem_of_getElem? (i := 448) (by decide +kernel)) rfl
theorem q_440 : Cond.constantLong RL 28 (2 : Int64) ∈ qA := qa (List.mem_of_getElem? (i := 449) (by decide +kernel)) rfl
theorem q_441 : Cond.constantLong RL 36 (-2 : Int64) ∈ qA := qa (List.mem_of_getElem? (i := 450) (by decide +kernel)) rfl
theorem q_442 : Cond.methodLink RL 49 yX7_bufferOf ∈ qA := qa (List.mem_of_getElem? (i := 451) (by decide +kernel)) rfl
theorem q_443 : Cond.instanceMethod yX7_bufferOf ∈ qA := qa (List.mem_of_getElem? (i := 452) (by decide +kernel)) rfl
theorem q_444 : Cond.selects RX7 yX7_bufferOf yX7_bufferOf ∈ qA := qa (List.mem_of_getElem? (i := 453) (by decide +kernel)) rfl
theorem q_445 : Cond.code yX7_bufferOf cX7_bufferOf 4 (some FieldType.int) ∈ qA := qa (List.mem_of_getElem? (i := 454) (by decide +kernel)) rfl
theorem q_446 : Cond.methodLink RL 53 yX7_digestOf ∈ qA := qa (List.mem_of_getElem? (i := 455) (by decide +kernel)) rfl
theorem q_447 : Cond.instanceMethod yX7_digestOf ∈ qA := qa (List.mem_of_getElem? (i := 456) (by decide +kernel)) rfl
theorem q_448 : Cond.selects RX7 yX7_digestOf yX7_digestOf ∈ qA := qa (List.mem_of_getElem? (i := 457) (by decide +kernel)) rfl
theorem q_449 : Cond.code yX7_digestOf cX7_digestOf 4 (some FieldType.int) ∈ qA := qa (List.mem_of_getElem? (i := 458) (by decide +kernel)) rfl
theorem q_450 : Cond.methodLink RX7 140 yX0_least ∈ qA := qa (List.mem_of_getElem? (i := 459) (by decide +kernel)) rfl
theorem q_451 : Cond.instanceMethod yX0_least ∈ qA := qa (List.mem_of_getElem? (i := 460) (by decide +kernel)) rfl
theorem q_452 : Cond.selects RX0 yX0_least yX0_least ∈ qA := qa (List.mem_of_getElem? (i := 461) (by decide +kernel)) rfl
theorem q_453 : Cond.code yX0_least cX0_least 1 (some FieldType.int) ∈ qA := qa (List.mem_of_getElem? (i := 462) (by decide +kernel)) rfl
theorem q_454 : Cond.methodLink RX0 50 yX4_least ∈ qA := qa (List.mem_of_getElem? (i := 463) (by decide +kernel)) rfl
theorem q_455 : Cond.instanceMethod yX4_least ∈ qA := qa (List.mem_of_getElem? (i := 464) (by decide +kernel)) rfl
theorem q_456 : Cond.selects RX4 yX4_least yX4_least ∈ qA := qa (List.mem_of_getElem? (i := 465) (by decide +kernel)) rfl
theorem q_457 : Cond.code yX4_least cX4_least 3 (some FieldType.int) ∈ qA := qa (List.mem_of_getElem? (i := 466) (by decide +kernel)) rfl
theorem q_458 : Cond.constant RX4 46 (2147483647 : Int32) ∈ qA := qa (List.mem_of_getElem? (i := 467) (by decide +kernel)) rfl
theorem q_459 : Cond.methodLink RX0 53 Lib.Math.min.name ∈ qA := qa (List.mem_of_getElem? (i := 468) (by decide +kernel)) rfl
theorem q_460 : Cond.methodLink RX7 143 yX0_greatest ∈ qA := qa (List.mem_of_getElem? (i := 469) (by decide +kernel)) rfl
theorem q_461 : Cond.instanceMethod yX0_greatest ∈ qA := qa (List.mem_of_getElem? (i := 470) (by decide +kernel)) rfl
theorem q_462 : Cond.selects RX0 yX0_greatest yX0_greatest ∈ qA := qa (List.mem_of_getElem? (i := 471) (by decide +kernel)) rfl
theorem q_463 : Cond.code yX0_greatest cX0_greatest 1 (some FieldType.int) ∈ qA := qa (List.mem_of_getElem? (i := 472) (by decide +kernel)) rfl
theorem q_464 : Cond.methodLink RX0 62 yX4_greatest ∈ qA := qa (List.mem_of_getElem? (i := 473) (by decide +kernel)) rfl
theorem q_465 : Cond.instanceMethod yX4_greatest ∈ qA := qa (List.mem_of_getElem? (i := 474) (by decide +kernel)) rfl
theorem q_466 : Cond.selects RX4 yX4_greatest yX4_greatest ∈ qA := qa (List.mem_of_getElem? (i := 475) (by decide +kernel)) rfl
theorem q_467 : Cond.code yX4_greatest cX4_greatest 3 (some FieldType.int) ∈ qA := qa (List.mem_of_getElem? (i := 476) (by decide +kernel)) rfl
theorem q_468 : Cond.constant RX4 47 (-2147483648 : Int32) ∈ qA := qa (List.mem_of_getElem? (i := 477) (by decide +kernel)) rfl
theorem q_469 : Cond.methodLink RX0 65 Lib.Math.max.name ∈ qA := qa (List.mem_of_getElem? (i := 478) (by decide +kernel)) rfl
theorem q_470 : Cond.methodLink RX7 146 yX0_sum ∈ qA := qa (List.mem_of_getElem? (i := 479) (by decide +kernel)) rfl
theorem q_471 : Cond.instanceMethod yX0_sum ∈ qA := qa (List.mem_of_getElem? (i := 480) (by decide +kernel)) rfl
theorem q_472 : Cond.selects RX0 yX0_sum yX0_sum ∈ qA := qa (List.mem_of_getElem? (i := 481) (by decide +kernel)) rfl
theorem q_473 : Cond.code yX0_sum cX0_sum 1 (some FieldType.int) ∈ qA := qa (List.mem_of_getElem? (i := 482) (by decide +kernel)) rfl
theorem q_474 : Cond.methodLink RX7 149 yX7_packOnTrial ∈ qA := qa (List.mem_of_getElem? (i := 483) (by decide +kernel)) rfl
theorem q_476 : Cond.instanceMethod yX7_packOnTrial ∈ qA := qa (List.mem_of_getElem? (i := 485) (by decide +kernel)) rfl
theorem q_477 : Cond.code yX7_packOnTrial cX7_packOnTrial 2 none ∈ qA := qa (List.mem_of_getElem? (i := 486) (by decide +kernel)) rfl
theorem q_478 : Cond.methodLink RX7 225 yX1_copyFrom ∈ qA := qa (List.mem_of_getElem? (i := 487) (by decide +kernel)) rfl
theorem q_479 : Cond.methodLink RX7 184 yX1_appendEach ∈ qA := qa (List.mem_of_getElem? (i := 488) (by decide +kernel)) rfl
theorem q_480 : Cond.methodLink RX7 188 yX1_packBy ∈ qA := qa (List.mem_of_getElem? (i := 489) (by decide +kernel)) rfl
theorem q_481 : Cond.methodLink RX7 153 yX4_greatest ∈ qA := qa (List.mem_of_getElem? (i := 490) (by decide +kernel)) rfl
theorem q_482 : Cond.methodLink RL 56 yX7_quantile ∈ qA := qa (List.mem_of_getElem? (i := 491) (by decide +kernel)) rfl
theorem q_483 : Cond.instanceMethod yX7_quantile ∈ qA := qa (List.mem_of_getElem? (i := 492) (by decide +kernel)) rfl
theorem q_484 : Cond.selects RX7 yX7_quantile yX7_quantile ∈ qA := qa (List.mem_of_getElem? (i := 493) (by decide +kernel)) rfl
theorem q_485 : Cond.code yX7_quantile cX7_quantile 4 (some FieldType.int) ∈ qA := qa (List.mem_of_getElem? (i := 494) (by decide +kernel)) rfl
theorem q_486 : Cond.constant RX7 158 (-1000002 : Int32) ∈ qA := qa (List.mem_of_getElem? (i := 495) (by decide +kernel)) rfl
theorem q_487 : Cond.methodLink RX7 159 yX1_quantileAt ∈ qA := qa (List.mem_of_getElem? (i := 496) (by decide +kernel)) rfl
theorem q_488 : Cond.instanceMethod yX1_quantileAt ∈ qA := qa (List.mem_of_getElem? (i := 497) (by decide +kernel)) rfl
theorem q_489 : Cond.selects RX1 yX1_quantileAt yX1_quantileAt ∈ qA := qa (List.mem_of_getElem? (i := 498) (by decide +kernel)) rfl
theorem q_490 : Cond.code yX1_quantileAt cX1_quantileAt 12 (some FieldType.int) ∈ qA := qa (List.mem_of_getElem? (i := 499) (by decide +kernel)) rfl
theorem q_491 : Cond.methodLink RX1 94 yX4_least ∈ qA := qa (List.mem_of_getElem? (i := 500) (by decide +kernel)) rfl
theorem q_492 : Cond.methodLink RX1 97 yX1_between ∈ qA := qa (List.mem_of_getElem? (i := 501) (by decide +kernel)) rfl
theorem q_493 : Cond.static yX1_between ∈ qA := qa (List.mem_of_getElem? (i := 502) (by decide +kernel)) rfl
theorem q_494 : Cond.code yX1_between cX1_between 22 (some FieldType.int) ∈ qA := qa (List.mem_of_getElem? (i := 503) (by decide +kernel)) rfl
theorem q_495 : Cond.methodLink RX1 104 yJ9_floorDiv_f86c9 ∈ qA := qa (List.mem_of_getElem? (i := 504) (by decide +kernel)) rfl
theorem q_496 : Cond.static yJ9_floorDiv_f86c9 ∈ qA := qa (List.mem_of_getElem? (i := 505) (by decide +kernel)) rfl
theorem q_497 : Cond.code yJ9_floorDiv_f86c9 cJ9_floorDiv_f86c9 6 (some FieldType.long) ∈ qA := qa (List.mem_of_getElem? (i := 506) (by decide +kernel)) rfl
theorem q_498 : Cond.methodLink RX1 101 yX4_greatest ∈ qA := qa (List.mem_of_getElem? (i := 507) (by decide +kernel)) rfl
theorem q_499 : Cond.constant RL 59 (-1000002 : Int32) ∈ qA := qa (List.mem_of_getElem? (i := 508) (by decide +kernel)) rfl
theorem q_500 : Cond.methodLink RL 60 yX7_truth ∈ qA := qa (List.mem_of_getElem? (i := 509) (by decide +kernel)) rfl
theorem q_501 : Cond.instanceMethod yX7_truth ∈ qA := qa (List.mem_of_getElem? (i := 510) (by decide +kernel)) rfl
theorem q_502 : Cond.selects RX7 yX7_truth yX7_truth ∈ qA := qa (List.mem_of_getElem? (i := 511) (by decide +kernel)) rfl
theorem q_503 : Cond.code yX7_truth cX7_truth 4 (some FieldType.int) ∈ qA := qa (List.mem_of_getElem? (i := 512) (by decide +kernel)) rfl
theorem q_504 : Cond.methodLink RX7 162 yX0_trueQuantileAt ∈ qA := qa (List.mem_of_getElem? (i := 513) (by decide +kernel)) rfl
theorem q_505 : Cond.instanceMethod yX0_trueQuantileAt ∈ qA := qa (List.mem_of_getElem? (i := 514) (by decide +kernel)) rfl
theorem q_506 : Cond.selects RX0 yX0_trueQuantileAt yX0_trueQuantileAt ∈ qA := qa (List.mem_of_getElem? (i := 515) (by decide +kernel)) rfl
theorem q_507 : Cond.code yX0_trueQuantileAt cX0_trueQuantileAt 2 (some FieldType.int) ∈ qA := qa (List.mem_of_getElem? (i := 516) (by decide +kernel)) rfl
theorem q_508 : Cond.methodLinkNest RX0 68 yX7_trueIndex RX7 ∈ lw_tbl := List.mem_of_getElem? (i := 517) (by decide +kernel)
theorem q_509 : Cond.static yX7_trueIndex ∈ qA := qa (List.mem_of_getElem? (i := 518) (by decide +kernel)) rfl
theorem q_510 : Cond.code yX7_trueIndex cX7_trueIndex 2 (some FieldType.int) ∈ qA := qa (List.mem_of_getElem? (i := 519) (by decide +kernel)) rfl
theorem q_511 : Cond.methodLink RL 63 yX7_worst ∈ qA := qa (List.mem_of_getElem? (i := 520) (by decide +kernel)) rfl
theorem q_512 : Cond.instanceMethod yX7_worst ∈ qA := qa (List.mem_of_getElem? (i := 521) (by decide +kernel)) rfl
theorem q_513 : Cond.selects RX7 yX7_worst yX7_worst ∈ qA := qa (List.mem_of_getElem? (i := 522) (by decide +kernel)) rfl
theorem q_514 : Cond.code yX7_worst cX7_worst 8 (some FieldType.int) ∈ qA := qa (List.mem_of_getElem? (i := 523) (by decide +kernel)) rfl
theorem q_515 : Cond.methodLink RX7 165 Lib.Math.abs.name ∈ qA := qa (List.mem_of_getElem? (i := 524) (by decide +kernel)) rfl
theorem q_516 : Cond.static Lib.Math.abs.name ∈ qA := qa (List.mem_of_getElem? (i := 525) (by decide +kernel)) rfl
theorem q_517 : Cond.code Lib.Math.abs.name Lib.Math.abs.code 1 (some FieldType.int) ∈ qA := qa (List.mem_of_getElem? (i := 526) (by decide +kernel)) rfl
theorem q_518 : Cond.methodLink RL 66 yL_ordered ∈ qA := qa (List.mem_of_getElem? (i := 527) (by decide +kernel)) rfl
theorem q_519 : Cond.static yL_ordered ∈ qA := qa (List.mem_of_getElem? (i := 528) (by decide +kernel)) rfl
theorem q_520 : Cond.code yL_ordered cL_ordered 7 (some FieldType.int) ∈ qA := qa (List.mem_of_getElem? (i := 529) (by decide +kernel)) rfl
theorem q_521 : Cond.methodLink RL 70 yL_quantile ∈ qA := qa (List.mem_of_getElem? (i := 530) (by decide +kernel)) rfl
theorem q_522 : Cond.static yL_quantile ∈ qA := qa (List.mem_of_getElem? (i := 531) (by decide +kernel)) rfl
theorem q_523 : Cond.code yL_quantile cL_quantile 30 (some FieldType.boolean) ∈ qA := qa (List.mem_of_getElem? (i := 532) (by decide +kernel)) rfl
theorem q_524 : Cond.constantLong RL 30 (2000 : Int64) ∈ qA := qa (List.mem_of_getElem? (i := 533) (by decide +kernel)) rfl
theorem q_525 : Cond.constantLong RL 32 (1000 : Int64) ∈ qA := qa (List.mem_of_getElem? (i := 534) (by decide +kernel)) rfl
theorem q_526 : Cond.methodLink RL 76 yX7_rank ∈ qA := qa (List.mem_of_getElem? (i := 535) (by decide +kernel)) rfl
theorem q_527 : Cond.instanceMethod yX7_rank ∈ qA := qa (List.mem_of_getElem? (i := 536) (by decide +kernel)) rfl
theorem q_528 : Cond.selects RX7 yX7_rank yX7_rank ∈ qA := qa (List.mem_of_getElem? (i := 537) (by decide +kernel)) rfl
theorem q_529 : Cond.code yX7_rank cX7_rank 4 (some FieldType.int) ∈ qA := qa (List.mem_of_getElem? (i := 538) (by decide +kernel)) rfl
theorem q_530 : Cond.methodLink RX7 170 yX1_greatestQAtMost ∈ qA := qa (List.mem_of_getElem? (i := 539) (by decide +kernel)) rfl
theorem q_531 : Cond.instanceMethod yX1_greatestQAtMost ∈ qA := qa (List.mem_of_getElem? (i := 540) (by decide +kernel)) rfl
theorem q_532 : Cond.selects RX1 yX1_greatestQAtMost yX1_greatestQAtMost ∈ qA := qa (List.mem_of_getElem? (i := 541) (by decide +kernel)) rfl
theorem q_533 : Cond.code yX1_greatestQAtMost cX1_greatestQAtMost 4 (some FieldType.int) ∈ qA := qa (List.mem_of_getElem? (i := 542) (by decide +kernel)) rfl
theorem q_534 : Cond.methodLink RX1 108 yX1_quantileAt ∈ qA := qa (List.mem_of_getElem? (i := 543) (by decide +kernel)) rfl
theorem q_535 : Cond.methodLink RL 79 yX7_width ∈ qA := qa (List.mem_of_getElem? (i := 544) (by decide +kernel)) rfl
theorem q_536 : Cond.instanceMethod yX7_width ∈ qA := qa (List.mem_of_getElem? (i := 545) (by decide +kernel)) rfl
theorem q_537 : Cond.selects RX7 yX7_width yX7_width ∈ qA := qa (List.mem_of_getElem? (i := 546) (by decide +kernel)) rfl
theorem q_538 : Cond.code yX7_width cX7_width 4 (some FieldType.int) ∈ qA := qa (List.mem_of_getElem? (i := 547) (by decide +kernel)) rfl
theorem q_539 : Cond.methodLink RX7 173 yX7_trueIndex ∈ qA := qa (List.mem_of_getElem? (i := 548) (by decide +kernel)) rfl
theorem q_540 : Cond.methodLink RX7 177 yX1_widthAt ∈ qA := qa (List.mem_of_getElem? (i := 549) (by decide +kernel)) rfl
theorem q_541 : Cond.instanceMethod yX1_widthAt ∈ qA := qa (List.mem_of_getElem? (i := 550) (by decide +kernel)) rfl
theorem q_542 : Cond.selects RX1 yX1_widthAt yX1_widthAt ∈ qA := qa (List.mem_of_getElem? (i := 551) (by decide +kernel)) rfl
theorem q_543 : Cond.code yX1_widthAt cX1_widthAt 4 (some FieldType.int) ∈ qA := qa (List.mem_of_getElem? (i := 552) (by decide +kernel)) rfl
theorem qs_0 : Cond.selects RX2 yX2_dropOldest yX2_dropOldest ∈ qA := qa (List.mem_of_getElem? (i := 0) (by decide +kernel)) rfl
theorem qs_1 : Cond.selects RX2 yX2_stateAt yX2_stateAt ∈ qA := qa (List.mem_of_getElem? (i := 1) (by decide +kernel)) rfl
theorem qs_2 : Cond.selects RX1 yX1_order yX1_order ∈ qA := qa (List.mem_of_getElem? (i := 2) (by decide +kernel)) rfl
theorem qs_3 : Cond.selects RX1 yX1_isMiddleAbove yX1_isMiddleAbove ∈ qA := qa (List.mem_of_getElem? (i := 3) (by decide +kernel)) rfl
theorem qs_4 : Cond.selects RX1 yX1_exchange yX1_exchange ∈ qA := qa (List.mem_of_getElem? (i := 4) (by decide +kernel)) rfl
theorem qs_5 : Cond.selects RX1 yX1_putTogether yX1_putTogether ∈ qA := qa (List.mem_of_getElem? (i := 5) (by decide +kernel)) rfl
theorem qs_6 : Cond.selects RX1 yX1_unite yX1_unite ∈ qA := qa (List.mem_of_getElem? (i := 6) (by decide +kernel)) rfl
theorem qs_7 : Cond.selects RX1 yX1_shortenTo yX1_shortenTo ∈ qA := qa (List.mem_of_getElem? (i := 7) (by decide +kernel)) rfl
theorem qs_8 : Cond.selects RX7 yX7_packOnTrial yX7_packOnTrial ∈ qA := qa (List.mem_of_getElem? (i := 8) (by decide +kernel)) rfl
theorem i_wsX00 : ∀ w ∈ wsX00, w ∈ qA := fun w h => qa ((show ∀ w ∈ wsX00, w ∈ lw_tbl from by decide +kernel) w h) ((show ∀ w ∈ wsX00, goodWord w = true from by decide +kernel) w h)
theorem i_wsX10 : ∀ w ∈ wsX10, w ∈ qA := fun w h => qa ((show ∀ w ∈ wsX10, w ∈ lw_tbl from by decide +kernel) w h) ((show ∀ w ∈ wsX10, goodWord w = true from by decide +kernel) w h)
theorem i_wsX20 : ∀ w ∈ wsX20, w ∈ qA := fun w h => qa ((show ∀ w ∈ wsX20, w ∈ lw_tbl from by decide +kernel) w h) ((show ∀ w ∈ wsX20, goodWord w = true from by decide +kernel) w h)
theorem i_wsX30 : ∀ w ∈ wsX30, w ∈ qA := fun w h => qa ((show ∀ w ∈ wsX30, w ∈ lw_tbl from by decide +kernel) w h) ((show ∀ w ∈ wsX30, goodWord w = true from by decide +kernel) w h)
theorem i_wsX40 : ∀ w ∈ wsX40, w ∈ qA := fun w h => qa ((show ∀ w ∈ wsX40, w ∈ lw_tbl from by decide +kernel) w h) ((show ∀ w ∈ wsX40, goodWord w = true from by decide +kernel) w h)
theorem i_wsX50 : ∀ w ∈ wsX50, w ∈ qA := fun w h => qa ((show ∀ w ∈ wsX50, w ∈ lw_tbl from by decide +kernel) w h) ((show ∀ w ∈ wsX50, goodWord w = true from by decide +kernel) w h)
theorem i_wsX60 : ∀ w ∈ wsX60, w ∈ qA := fun w h => qa ((show ∀ w ∈ wsX60, w ∈ lw_tbl from by decide +kernel) w h) ((show ∀ w ∈ wsX60, goodWord w = true from by decide +kernel) w h)
theorem i_wsX70 : ∀ w ∈ wsX70, w ∈ qA := fun w h => qa ((show ∀ w ∈ wsX70, w ∈ lw_tbl from by decide +kernel) w h) ((show ∀ w ∈ wsX70, goodWord w = true from by decide +kernel) w h)
theorem i_wsX80 : ∀ w ∈ wsX80, w ∈ qA := fun w h => qa ((show ∀ w ∈ wsX80, w ∈ lw_tbl from by decide +kernel) w h) ((show ∀ w ∈ wsX80, goodWord w = true from by decide +kernel) w h)
