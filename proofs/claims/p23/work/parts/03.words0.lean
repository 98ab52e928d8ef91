def qA : List Cond := lw_tbl.filter goodWord
theorem qa {w : Cond} (h : w ∈ lw_tbl) (g : goodWord w = true) : w ∈ qA := List.mem_filter.mpr ⟨h, g⟩
theorem qA_good {w : Cond} (h : w ∈ qA) : goodWord w = true := (List.mem_filter.mp h).2
theorem qA_tbl {w : Cond} (h : w ∈ qA) : w ∈ lw_tbl := (List.mem_filter.mp h).1
theorem q_0 : Cond.initialized RL ∈ qA := qa (List.mem_of_getElem? (i := 9) (by decide +kernel)) rfl
theorem q_1 : Cond.initialized RX7 ∈ qA := qa (List.mem_of_getElem? (i := 10) (by decide +kernel)) rfl
theorem q_2 : Cond.initialized RX5 ∈ qA := qa (List.mem_of_getElem? (i := 11) (by decide +kernel)) rfl
theorem q_3 : Cond.initialized RX4 ∈ qA := qa (List.mem_of_getElem? (i := 12) (by decide +kernel)) rfl
theorem q_4 : Cond.initialized RJ9 ∈ qA := qa (List.mem_of_getElem? (i := 13) (by decide +kernel)) rfl
theorem q_5 : Cond.initialized RX0 ∈ qA := qa (List.mem_of_getElem? (i := 14) (by decide +kernel)) rfl
theorem q_6 : Cond.initialized RX1 ∈ qA := qa (List.mem_of_getElem? (i := 15) (by decide +kernel)) rfl
theorem q_7 : Cond.initialized RX2 ∈ qA := qa (List.mem_of_getElem? (i := 16) (by decide +kernel)) rfl
theorem q_8 : Cond.initialized RX3 ∈ qA := qa (List.mem_of_getElem? (i := 17) (by decide +kernel)) rfl
theorem q_9 : Cond.initialized RX6 ∈ qA := qa (List.mem_of_getElem? (i := 18) (by decide +kernel)) rfl
theorem q_10 : Cond.initialized RJ10 ∈ qA := qa (List.mem_of_getElem? (i := 19) (by decide +kernel)) rfl
theorem q_11 : Cond.classLink RL 40 RX7 ∈ qA := qa (List.mem_of_getElem? (i := 20) (by decide +kernel)) rfl
theorem q_12 : Cond.instantiable RX7 6 ∈ qA := qa (List.mem_of_getElem? (i := 21) (by decide +kernel)) rfl
theorem q_13 : Cond.methodLink RL 82 yX7_init ∈ qA := qa (List.mem_of_getElem? (i := 22) (by decide +kernel)) rfl
theorem q_14 : Cond.instanceMethod yX7_init ∈ qA := qa (List.mem_of_getElem? (i := 23) (by decide +kernel)) rfl
theorem q_15 : Cond.code yX7_init cX7_init 1 none ∈ qA := qa (List.mem_of_getElem? (i := 24) rfl) rfl
theorem q_16 : Cond.methodLink RX7 3 objectInit ∈ qA := qa (List.mem_of_getElem? (i := 25) (by decide +kernel)) rfl
theorem q_17 : Cond.instanceMethod objectInit ∈ qA := qa (List.mem_of_getElem? (i := 26) (by decide +kernel)) rfl
theorem q_18 : Cond.code objectInit ⟨#[0xb1]⟩ 1 none ∈ qA := qa (List.mem_of_getElem? (i := 27) rfl) rfl
theorem q_19 : Cond.classLink RX7 9 RX5 ∈ qA := qa (List.mem_of_getElem? (i := 28) (by decide +kernel)) rfl
theorem q_20 : Cond.instantiable RX5 4 ∈ qA := qa (List.mem_of_getElem? (i := 29) (by decide +kernel)) rfl
theorem q_21 : Cond.methodLink RX7 11 yX5_init ∈ qA := qa (List.mem_of_getElem? (i := 30) (by decide +kernel)) rfl
theorem q_22 : Cond.instanceMethod yX5_init ∈ qA := qa (List.mem_of_getElem? (i := 31) (by decide +kernel)) rfl
theorem q_23 : Cond.code yX5_init cX5_init 1 none ∈ qA := qa (List.mem_of_getElem? (i := 32) rfl) rfl
theorem q_24 : Cond.methodLink RX5 3 objectInit ∈ qA := qa (List.mem_of_getElem? (i := 33) (by decide +kernel)) rfl
theorem q_25 : Cond.classLink RX5 9 RX4 ∈ qA := qa (List.mem_of_getElem? (i := 34) (by decide +kernel)) rfl
theorem q_26 : Cond.instantiable RX4 2 ∈ qA := qa (List.mem_of_getElem? (i := 35) (by decide +kernel)) rfl
theorem q_27 : Cond.methodLink RX5 11 yX4_init ∈ qA := qa (List.mem_of_getElem? (i := 36) (by decide +kernel)) rfl
theorem q_28 : Cond.instanceMethod yX4_init ∈ qA := qa (List.mem_of_getElem? (i := 37) (by decide +kernel)) rfl
theorem q_29 : Cond.code yX4_init cX4_init 2 none ∈ qA := qa (List.mem_of_getElem? (i := 38) rfl) rfl
theorem q_30 : Cond.methodLink RX4 1 objectInit ∈ qA := qa (List.mem_of_getElem? (i := 39) (by decide +kernel)) rfl
theorem q_31 : Cond.methodLink RX4 7 Lib.Math.max.name ∈ qA := qa (List.mem_of_getElem? (i := 40) (by decide +kernel)) rfl
theorem q_32 : Cond.static Lib.Math.max.name ∈ qA := qa (List.mem_of_getElem? (i := 41) (by decide +kernel)) rfl
theorem q_33 : Cond.code Lib.Math.max.name Lib.Math.max.code 2 (some FieldType.int) ∈ qA := qa (List.mem_of_getElem? (i := 42) rfl) rfl
theorem q_34 : Cond.fieldLink RX4 13 "QuantileDigests$Row" "cells" "[I" ∈ qA := qa (List.mem_of_getElem? (i := 43) (by decide +kernel)) rfl
theorem q_35 : Cond.fieldLink RX4 19 "QuantileDigests$Row" "length" "I" ∈ qA := qa (List.mem_of_getElem? (i := 44) (by decide +kernel)) rfl
theorem q_41 : Cond.arrayClass Jvm.ClassFile.FieldType.int ∈ qA := qa (List.mem_of_getElem? (i := 50) (by decide +kernel)) rfl
theorem q_42 : Cond.classLink RX5 20 RX0 ∈ qA := qa (List.mem_of_getElem? (i := 51) (by decide +kernel)) rfl
theorem q_43 : Cond.instantiable RX0 4 ∈ qA := qa (List.mem_of_getElem? (i := 52) (by decide +kernel)) rfl
theorem q_44 : Cond.methodLinkNest RX5 22 yX0_init RX7 ∈ lw_tbl := List.mem_of_getElem? (i := 53) (by decide +kernel)
theorem q_45 : Cond.instanceMethod yX0_init ∈ qA := qa (List.mem_of_getElem? (i := 54) (by decide +kernel)) rfl
theorem q_46 : Cond.code yX0_init cX0_init 1 none ∈ qA := qa (List.mem_of_getElem? (i := 55) rfl) rfl
theorem q_47 : Cond.methodLink RX0 3 objectInit ∈ qA := qa (List.mem_of_getElem? (i := 56) (by decide +kernel)) rfl
theorem q_48 : Cond.classLink RX0 9 RX1 ∈ qA := qa (List.mem_of_getElem? (i := 57) (by decide +kernel)) rfl
theorem q_49 : Cond.instantiable RX1 4 ∈ qA := qa (List.mem_of_getElem? (i := 58) (by decide +kernel)) rfl
theorem q_50 : Cond.methodLinkNest RX0 11 yX1_init RX7 ∈ lw_tbl := List.mem_of_getElem? (i := 59) (by decide +kernel)
theorem q_51 : Cond.instanceMethod yX1_init ∈ qA := qa (List.mem_of_getElem? (i := 60) (by decide +kernel)) rfl
theorem q_52 : Cond.code yX1_init cX1_init 1 none ∈ qA := qa (List.mem_of_getElem? (i := 61) rfl) rfl
theorem q_53 : Cond.methodLink RX1 3 objectInit ∈ qA := qa (List.mem_of_getElem? (i := 62) (by decide +kernel)) rfl
theorem q_54 : Cond.classLink RX1 9 RX4 ∈ qA := qa (List.mem_of_getElem? (i := 63) (by decide +kernel)) rfl
theorem q_55 : Cond.methodLink RX1 11 yX4_init ∈ qA := qa (List.mem_of_getElem? (i := 64) (by decide +kernel)) rfl
theorem q_56 : Cond.fieldLink RX1 14 "QuantileDigests$Heaps" "weights" "LQuantileDigests$Row;" ∈ qA := qa (List.mem_of_getElem? (i := 65) (by decide +kernel)) rfl
theorem q_57 : Cond.fieldLink RX0 34 "QuantileDigests$Heaps" "weights" "LQuantileDigests$Row;" ∈ qA := qa (List.mem_of_getElem? (i := 66) (by decide +kernel)) rfl
theorem q_58 : Cond.fieldLink RX7 108 "QuantileDigests$Heaps" "weights" "LQuantileDigests$Row;" ∈ qA := qa (List.mem_of_getElem? (i := 67) (by decide +kernel)) rfl
theorem q_59 : Cond.fieldLink RX1 20 "QuantileDigests$Heaps" "sums" "LQuantileDigests$Row;" ∈ qA := qa (List.mem_of_getElem? (i := 68) (by decide +kernel)) rfl
theorem q_60 : Cond.fieldLink RX0 44 "QuantileDigests$Heaps" "sums" "LQuantileDigests$Row;" ∈ qA := qa (List.mem_of_getElem? (i := 69) (by decide +kernel)) rfl
theorem q_61 : Cond.fieldLink RX7 111 "QuantileDigests$Heaps" "sums" "LQuantileDigests$Row;" ∈ qA := qa (List.mem_of_getElem? (i := 70) (by decide +kernel)) rfl
theorem q_62 : Cond.fieldLink RX1 23 "QuantileDigests$Heaps" "leasts" "LQuantileDigests$Row;" ∈ qA := qa (List.mem_of_getElem? (i := 71) (by decide +kernel)) rfl
theorem q_63 : Cond.fieldLink RX0 47 "QuantileDigests$Heaps" "leasts" "LQuantileDigests$Row;" ∈ qA := qa (List.mem_of_getElem? (i := 72) (by decide +kernel)) rfl
theorem q_64 : Cond.fieldLink RX7 114 "QuantileDigests$Heaps" "leasts" "LQuantileDigests$Row;" ∈ qA := qa (List.mem_of_getElem? (i := 73) (by decide +kernel)) rfl
theorem q_65 : Cond.fieldLink RX1 26 "QuantileDigests$Heaps" "greatests" "LQuantileDigests$Row;" ∈ qA := qa (List.mem_of_getElem? (i := 74) (by decide +kernel)) rfl
theorem q_66 : Cond.fieldLink RX0 59 "QuantileDigests$Heaps" "greatests" "LQuantileDigests$Row;" ∈ qA := qa (List.mem_of_getElem? (i := 75) (by decide +kernel)) rfl
theorem q_67 : Cond.fieldLink RX7 117 "QuantileDigests$Heaps" "greatests" "LQuantileDigests$Row;" ∈ qA := qa (List.mem_of_getElem? (i := 76) (by decide +kernel)) rfl
theorem q_77 : Cond.classLink RX0 18 RX4 ∈ qA := qa (List.mem_of_getElem? (i := 86) (by decide +kernel)) rfl
theorem q_78 : Cond.methodLink RX0 20 yX4_init ∈ qA := qa (List.mem_of_getElem? (i := 87) (by decide +kernel)) rfl
theorem q_79 : Cond.fieldLink RX0 12 "QuantileDigests$Digest" "heaps" "LQuantileDigests$Heaps;" ∈ qA := qa (List.mem_of_getElem? (i := 88) (by decide +kernel)) rfl
theorem q_80 : Cond.fieldLink RX7 87 "QuantileDigests$Digest" "heaps" "LQuantileDigests$Heaps;" ∈ qA := qa (List.mem_of_getElem? (i := 89) (by decide +kernel)) rfl
theorem q_81 : Cond.fieldLink RX5 40 "QuantileDigests$Digest" "heaps" "LQuantileDigests$Heaps;" ∈ qA := qa (List.mem_of_getElem? (i := 90) (by decide +kernel)) rfl
theorem q_82 : Cond.fieldLink RX0 23 "QuantileDigests$Digest" "buffer" "LQuantileDigests$Row;" ∈ qA := qa (List.mem_of_getElem? (i := 91) (by decide +kernel)) rfl
theorem q_83 : Cond.fieldLink RX7 134 "QuantileDigests$Digest" "buffer" "LQuantileDigests$Row;" ∈ qA := qa (List.mem_of_getElem? (i := 92) (by decide +kernel)) rfl
theorem q_84 : Cond.fieldLink RX0 27 "QuantileDigests$Digest" "values" "LQuantileDigests$Row;" ∈ qA := qa (List.mem_of_getElem? (i := 93) (by decide +kernel)) rfl
theorem q_85 : Cond.fieldLink RX0 30 "QuantileDigests$Digest" "packings" "I" ∈ qA := qa (List.mem_of_getElem? (i := 94) (by decide +kernel)) rfl
theorem q_86 : Cond.fieldLink RX7 154 "QuantileDigests$Digest" "packings" "I" ∈ qA := qa (List.mem_of_getElem? (i := 95) (by decide +kernel)) rfl
theorem q_96 : Cond.methodLink RX5 33 yX4_append ∈ qA := qa (List.mem_of_getElem? (i := 105) (by decide +kernel)) rfl
theorem q_97 : Cond.instanceMethod yX4_append ∈ qA := qa (List.mem_of_getElem? (i := 106) (by decide +kernel)) rfl
theorem q_98 : Cond.selects RX4 yX4_append yX4_append ∈ qA := qa (List.mem_of_getElem? (i := 107) (by decide +kernel)) rfl
theorem q_99 : Cond.code yX4_append cX4_append 2 none ∈ qA := qa (List.mem_of_getElem? (i := 108) rfl) rfl
theorem q_100 : Cond.fieldLink RX5 14 "QuantileDigests$State" "settings" "LQuantileDigests$Row;" ∈ qA := qa (List.mem_of_getElem? (i := 109) (by decide +kernel)) rfl
theorem q_101 : Cond.fieldLink RX7 73 "QuantileDigests$State" "settings" "LQuantileDigests$Row;" ∈ qA := qa (List.mem_of_getElem? (i := 110) (by decide +kernel)) rfl
theorem q_102 : Cond.fieldLink RX5 23 "QuantileDigests$State" "first" "LQuantileDigests$Digest;" ∈ qA := qa (List.mem_of_getElem? (i := 111) (by decide +kernel)) rfl
theorem q_103 : Cond.fieldLink RX5 27 "QuantileDigests$State" "second" "LQuantileDigests$Digest;" ∈ qA := qa (List.mem_of_getElem? (i := 112) (by decide +kernel)) rfl
theorem q_104 : Cond.fieldLink RX5 30 "QuantileDigests$State" "third" "LQuantileDigests$Digest;" ∈ qA := qa (List.mem_of_getElem? (i := 113) (by decide +kernel)) rfl
theorem q_114 : Cond.classLink RX7 16 RX2 ∈ qA := qa (List.mem_of_getElem? (i := 123) (by decide +kernel)) rfl
theorem q_115 : Cond.instantiable RX2 2 ∈ qA := qa (List.mem_of_getElem? (i := 124) (by decide +kernel)) rfl
theorem q_116 : Cond.methodLink RX7 18 yX2_init ∈ qA := qa (List.mem_of_getElem? (i := 125) (by decide +kernel)) rfl
theorem q_117 : Cond.instanceMethod yX2_init ∈ qA := qa (List.mem_of_getElem? (i := 126) (by decide +kernel)) rfl
theorem q_118 : Cond.code yX2_init cX2_init 2 none ∈ qA := qa (List.mem_of_getElem? (i := 127) rfl) rfl
theorem q_119 : Cond.methodLink RX2 3 objectInit ∈ qA := qa (List.mem_of_getElem? (i := 128) (by decide +kernel)) rfl
theorem q_120 : Cond.classLink RX2 9 RX5 ∈ qA := qa (List.mem_of_getElem? (i := 129) (by decide +kernel)) rfl
theorem q_121 : Cond.arrayOver (Jvm.ClassFile.FieldType.object "QuantileDigests$State") ∈ lw_tbl := List.mem_of_getElem? (i := 130) (by decide +kernel)
theorem q_122 : Cond.methodLink RX2 21 yX5_init ∈ qA := qa (List.mem_of_getElem? (i := 131) (by decide +kernel)) rfl
theorem q_123 : Cond.fieldLink RX2 11 "QuantileDigests$History" "states" "[LQuantileDigests$State;" ∈ qA := qa (List.mem_of_getElem? (i := 132) (by decide +kernel)) rfl
theorem q_124 : Cond.fieldLink RX2 17 "QuantileDigests$History" "size" "I" ∈ qA := qa (List.mem_of_getElem? (i := 133) (by decide +kernel)) rfl
theorem q_130 : Cond.classLink RX7 23 RX4 ∈ qA := qa (List.mem_of_getElem? (i := 139) (by decide +kernel)) rfl
theorem q_131 : Cond.methodLink RX7 25 yX4_init ∈ qA := qa (List.mem_of_getElem? (i := 140) (by decide +kernel)) rfl
theorem q_132 : Cond.classLink RX7 32 RX3 ∈ qA := qa (List.mem_of_getElem? (i := 141) (by decide +kernel)) rfl
theorem q_133 : Cond.instantiable RX3 3 ∈ qA := qa (List.mem_of_getElem? (i := 142) (by decide +kernel)) rfl
theorem q_134 : Cond.methodLinkNest RX7 34 yX3_init RX7 ∈ lw_tbl := List.mem_of_getElem? (i := 143) (by decide +kernel)
theorem q_135 : Cond.instanceMethod yX3_init ∈ qA := qa (List.mem_of_getElem? (i := 144) (by decide +kernel)) rfl
theorem q_136 : Cond.code yX3_init cX3_init 1 none ∈ qA := qa (List.mem_of_getElem? (i := 145) rfl) rfl
theorem q_137 : Cond.methodLink RX3 3 objectInit ∈ qA := qa (List.mem_of_getElem? (i := 146) (by decide +kernel)) rfl
theorem q_138 : Cond.classLink RX3 9 RX4 ∈ qA := qa (List.mem_of_getElem? (i := 147) (by decide +kernel)) rfl
theorem q_139 : Cond.methodLink RX3 11 yX4_init ∈ qA := qa (List.mem_of_getElem? (i := 148) (by decide +kernel)) rfl
theorem q_140 : Cond.fieldLink RX3 14 "QuantileDigests$Part" "values" "LQuantileDigests$Row;" ∈ qA := qa (List.mem_of_getElem? (i := 149) (by decide +kernel)) rfl
theorem q_141 : Cond.fieldLink RX3 20 "QuantileDigests$Part" "digest" "I" ∈ qA := qa (List.mem_of_getElem? (i := 150) (by decide +kernel)) rfl
theorem q_142 : Cond.fieldLink RX3 24 "QuantileDigests$Part" "end" "I" ∈ qA := qa (List.mem_of_getElem? (i := 151) (by decide +kernel)) rfl
theorem q_150 : Cond.classLink RX7 39 RX6 ∈ qA := qa (List.mem_of_getElem? (i := 159) (by decide +kernel)) rfl
theorem q_151 : Cond.instantiable RX6 4 ∈ qA := qa (List.mem_of_getElem? (i := 160) (by decide +kernel)) rfl
theorem q_152 : Cond.methodLinkNest RX7 41 yX6_init RX7 ∈ lw_tbl := List.mem_of_getElem? (i := 161) (by decide +kernel)
theorem q_153 : Cond.instanceMethod yX6_init ∈ qA := qa (List.mem_of_getElem? (i := 162) (by decide +kernel)) rfl
theorem q_154 : Cond.code yX6_init cX6_init 1 none ∈ qA := qa (List.mem_of_getElem? (i := 163) rfl) rfl
theorem q_155 : Cond.methodLink RX6 3 objectInit ∈ qA := qa (List.mem_of_getElem? (i := 164) (by decide +kernel)) rfl
theorem q_156 : Cond.classLink RX6 9 RX4 ∈ qA := qa (List.mem_of_getElem? (i := 165) (by decide +kernel)) rfl
theorem q_157 : Cond.methodLink RX6 11 yX4_init ∈ qA := qa (List.mem_of_getElem? (i := 166) (by decide +kernel)) rfl
theorem q_158 : Cond.fieldLink RX6 14 "QuantileDigests$TextFault" "weights" "LQuantileDigests$Row;" ∈ qA := qa (List.mem_of_getElem? (i := 167) (by decide +kernel)) rfl
theorem q_159 : Cond.fieldLink RX6 20 "QuantileDigests$TextFault" "position" "I" ∈ qA := qa (List.mem_of_getElem? (i := 168) (by decide +kernel)) rfl
theorem q_160 : Cond.fieldLink RX6 24 "QuantileDigests$TextFault" "reason" "I" ∈ qA := qa (List.mem_of_getElem? (i := 169) (by decide +kernel)) rfl
theorem q_161 : Cond.fieldLink RX6 27 "QuantileDigests$TextFault" "cause" "I" ∈ qA := qa (List.mem_of_getElem? (i := 170) (by decide +kernel)) rfl
theorem q_171 : Cond.classLink RX7 46 RX1 ∈ qA := qa (List.mem_of_getElem? (i := 180) (by decide +kernel)) rfl
theorem q_172 : Cond.methodLinkNest RX7 48 yX1_init RX7 ∈ lw_tbl := List.mem_of_getElem? (i := 181) (by decide +kernel)
theorem q_173 : Cond.fieldLink RX7 12 "QuantileDigests" "state" "LQuantileDigests$State;" ∈ qA := qa (List.mem_of_getElem? (i := 182) (by decide +kernel)) rfl
theorem q_174 : Cond.fieldLink RX7 19 "QuantileDigests" "history" "LQuantileDigests$History;" ∈ qA := qa (List.mem_of_getElem? (i := 183) (by decide +kernel)) rfl
theorem q_175 : Cond.fieldLink RX7 28 "QuantileDigests" "text" "LQuantileDigests$Row;" ∈ qA := qa (List.mem_of_getElem? (i := 184) (by decide +kernel)) rfl
theorem q_176 : Cond.fieldLink RX7 35 "QuantileDigests" "part" "LQuantileDigests$Part;" ∈ qA := qa (List.mem_of_getElem? (i := 185) (by decide +kernel)) rfl
theorem q_177 : Cond.fieldLink RX7 42 "QuantileDigests" "textFault" "LQuantileDigests$TextFault;" ∈ qA := qa (List.mem_of_getElem? (i := 186) (by decide +kernel)) rfl
theorem q_178 : Cond.fieldLink RX7 49 "QuantileDigests" "trial" "LQuantileDigests$Heaps;" ∈ qA := qa (List.mem_of_getElem? (i := 187) (by decide +kernel)) rfl
theorem q_192 : Cond.methodLink RL 91 yX7_add ∈ qA := qa (List.mem_of_getElem? (i := 201) (by decide +kernel)) rfl
theorem q_193 : Cond.instanceMethod yX7_add ∈ qA := qa (List.mem_of_getElem? (i := 202) (by decide +kernel)) rfl
theorem q_194 : Cond.selects RX7 yX7_add yX7_add ∈ qA := qa (List.mem_of_getElem? (i := 203) (by decide +kernel)) rfl
theorem q_195 : Cond.code yX7_add cX7_add 6 (some FieldType.int) ∈ qA := qa (List.mem_of_getElem? (i := 204) rfl) rfl
theorem q_196 : Cond.methodLink RX7 53 yX5_digestAt ∈ qA := qa (List.mem_of_getElem? (i := 205) (by decide +kernel)) rfl
theorem q_197 : Cond.instanceMethod yX5_digestAt ∈ qA := qa (List.mem_of_getElem? (i := 206) (by decide +kernel)) rfl
theorem q_198 : Cond.selects RX5 yX5_digestAt yX5_digestAt ∈ qA := qa (List.mem_of_getElem? (i := 207) (by decide +kernel)) rfl
theorem q_199 : Cond.code yX5_digestAt cX5_digestAt 2 (some (FieldType.object "QuantileDigests$Digest")) ∈ qA := qa (List.mem_of_getElem? (i := 208) rfl) rfl
theorem q_200 : Cond.methodLink RX7 57 yX7_isWithin ∈ qA := qa (List.mem_of_getElem? (i := 209) (by decide +kernel)) rfl
theorem q_201 : Cond.static yX7_isWithin ∈ qA := qa (List.mem_of_getElem? (i := 210) (by decide +kernel)) rfl
theorem q_202 : Cond.code yX7_isWithin cX7_isWithin 3 (some FieldType.boolean) ∈ qA := qa (List.mem_of_getElem? (i := 211) rfl) rfl
theorem q_203 : Cond.constant RX7 61 (-1000001 : Int32) ∈ qA := qa (List.mem_of_getElem? (i := 212) (by decide +kernel)) rfl
theorem q_204 : Cond.methodLink RX7 62 yX0_weight ∈ qA := qa (List.mem_of_getElem? (i := 213) (by decide +kernel)) rfl
theorem q_205 : Cond.instanceMethod yX0_weight ∈ qA := qa (List.mem_of_getElem? (i := 214) (by decide +kernel)) rfl
theorem q_206 : Cond.selects RX0 yX0_weight yX0_weight ∈ qA := qa (List.mem_of_getElem? (i := 215) (by decide +kernel)) rfl
theorem q_207 : Cond.code yX0_weight cX0_weight 1 (some FieldType.int) ∈ qA := qa (List.mem_of_getElem? (i := 216) rfl) rfl
theorem q_208 : Cond.methodLink RX0 37 yX4_total ∈ qA := qa (List.mem_of_getElem? (i := 217) (by decide +kernel)) rfl
theorem q_209 : Cond.instanceMethod yX4_total ∈ qA := qa (List.mem_of_getElem? (i := 218) (by decide +kernel)) rfl
theorem q_210 : Cond.selects RX4 yX4_total yX4_total ∈ qA := qa (List.mem_of_getElem? (i := 219) (by decide +kernel)) rfl
theorem q_211 : Cond.code yX4_total cX4_total 3 (some FieldType.int) ∈ qA := qa (List.mem_of_getElem? (i := 220) rfl) rfl
theorem q_212 : Cond.methodLink RX4 23 yX4_at ∈ qA := qa (List.mem_of_getElem? (i := 221) (by decide +kernel)) rfl
theorem q_213 : Cond.instanceMethod yX4_at ∈ qA := qa (List.mem_of_getElem? (i := 222) (by decide +kernel)) rfl
theorem q_214 : Cond.selects RX4 yX4_at yX4_at ∈ qA := qa (List.mem_of_getElem? (i := 223) (by decide +kernel)) rfl
theorem q_215 : Cond.code yX4_at cX4_at 2 (some FieldType.int) ∈ qA := qa (List.mem_of_getElem? (i := 224) rfl) rfl
theorem q_216 : Cond.methodLink RX0 41 yX4_length ∈ qA := qa (List.mem_of_getElem? (i := 225) (by decide +kernel)) rfl
theorem q_217 : Cond.instanceMethod yX4_length ∈ qA := qa (List.mem_of_getElem? (i := 226) (by decide +kernel)) rfl
theorem q_218 : Cond.selects RX4 yX4_length yX4_length ∈ qA := qa (List.mem_of_getElem? (i := 227) (by decide +kernel)) rfl
theorem q_219 : Cond.code yX4_length cX4_length 1 (some FieldType.int) ∈ qA := qa (List.mem_of_getElem? (i := 228) rfl) rfl
theorem q_220 : Cond.constant RX7 68 (-1000003 : Int32) ∈ qA := qa (List.mem_of_getElem? (i := 229) (by decide +kernel)) rfl
theorem q_221 : Cond.methodLink RX7 69 yX2_record ∈ qA := qa (List.mem_of_getElem? (i := 230) (by decide +kernel)) rfl
theorem q_222 : Cond.instanceMethod yX2_record ∈ qA := qa (List.mem_of_getElem? (i := 231) (by decide +kernel)) rfl
theorem q_223 : Cond.selects RX2 yX2_record yX2_record ∈ qA := qa (List.mem_of_getElem? (i := 232) (by decide +kernel)) rfl
theorem q_224 : Cond.code yX2_record cX2_record 3 none ∈ qA := qa (List.mem_of_getElem? (i := 233) rfl) rfl
theorem q_225 : Cond.methodLink RX2 22 yX2_dropOldest ∈ qA := qa (List.mem_of_getElem? (i := 234) (by decide +kernel)) rfl
theorem q_227 : Cond.instanceMethod yX2_dropOldest ∈ qA := qa (List.mem_of_getElem? (i := 236) (by decide +kernel)) rfl
theorem q_228 : Cond.code yX2_dropOldest cX2_dropOldest 3 none ∈ qA := qa (List.mem_of_getElem? (i := 237) rfl) rfl
theorem q_229 : Cond.methodLink RX2 25 yX2_stateAt ∈ qA := qa (List.mem_of_getElem? (i := 238) (by decide +kernel)) rfl
