theorem q1_178 : Cond.laysFinal "JokePump$History" "JokePump$History" "slots" "[LJokePump$State;" ∈ lw_g := lw_gm (tin1 (List.mem_of_getElem? (i := 178) (by decide +kernel))) (by decide +kernel)
theorem q1_180 : Cond.lays "JokePump$History" "JokePump$History" "next" "I" ∈ lw_g := lw_gm (tin1 (List.mem_of_getElem? (i := 180) (by decide +kernel))) (by decide +kernel)
theorem q1_182 : Cond.lays "JokePump$History" "JokePump$History" "count" "I" ∈ lw_g := lw_gm (tin1 (List.mem_of_getElem? (i := 182) (by decide +kernel))) (by decide +kernel)
theorem ly_X0 : ∀ w ∈ u_ws RX0 TX0 3, w ∈ lw_g := by
  intro w hw
  obtain ⟨k, hk, rfl⟩ := List.mem_map.mp hw
  have hk := List.mem_range.mp hk
  rcases (show k = 0 ∨ k = 1 ∨ k = 2 by omega) with rfl | rfl | rfl
  · exact q1_178
  · exact q1_180
  · exact q1_182
theorem q1_64 : Cond.lays "JokePump$Jokes" "JokePump$Jokes" "count" "I" ∈ lw_g := lw_gm (tin1 (List.mem_of_getElem? (i := 64) (by decide +kernel))) (by decide +kernel)
theorem q1_66 : Cond.laysFinal "JokePump$Jokes" "JokePump$Jokes" "wells" "LJokePump$Row;" ∈ lw_g := lw_gm (tin1 (List.mem_of_getElem? (i := 66) (by decide +kernel))) (by decide +kernel)
theorem q1_68 : Cond.laysFinal "JokePump$Jokes" "JokePump$Jokes" "depths" "LJokePump$Row;" ∈ lw_g := lw_gm (tin1 (List.mem_of_getElem? (i := 68) (by decide +kernel))) (by decide +kernel)
theorem q1_70 : Cond.laysFinal "JokePump$Jokes" "JokePump$Jokes" "signs" "LJokePump$Row;" ∈ lw_g := lw_gm (tin1 (List.mem_of_getElem? (i := 70) (by decide +kernel))) (by decide +kernel)
theorem q1_72 : Cond.laysFinal "JokePump$Jokes" "JokePump$Jokes" "wits" "LJokePump$Row;" ∈ lw_g := lw_gm (tin1 (List.mem_of_getElem? (i := 72) (by decide +kernel))) (by decide +kernel)
theorem q1_74 : Cond.laysFinal "JokePump$Jokes" "JokePump$Jokes" "primed" "LJokePump$Row;" ∈ lw_g := lw_gm (tin1 (List.mem_of_getElem? (i := 74) (by decide +kernel))) (by decide +kernel)
theorem ly_X1 : ∀ w ∈ u_ws RX1 TX1 6, w ∈ lw_g := by
  intro w hw
  obtain ⟨k, hk, rfl⟩ := List.mem_map.mp hw
  have hk := List.mem_range.mp hk
  rcases (show k = 0 ∨ k = 1 ∨ k = 2 ∨ k = 3 ∨ k = 4 ∨ k = 5 by omega) with rfl | rfl | rfl | rfl | rfl | rfl
  · exact q1_64
  · exact q1_66
  · exact q1_68
  · exact q1_70
  · exact q1_72
  · exact q1_74
theorem q1_216 : Cond.laysFinal "JokePump$Reader" "JokePump$Reader" "kinds" "LJokePump$Row;" ∈ lw_g := lw_gm (tin1 (List.mem_of_getElem? (i := 216) (by decide +kernel))) (by decide +kernel)
theorem q1_218 : Cond.laysFinal "JokePump$Reader" "JokePump$Reader" "numbers" "LJokePump$Row;" ∈ lw_g := lw_gm (tin1 (List.mem_of_getElem? (i := 218) (by decide +kernel))) (by decide +kernel)
theorem q1_220 : Cond.lays "JokePump$Reader" "JokePump$Reader" "count" "I" ∈ lw_g := lw_gm (tin1 (List.mem_of_getElem? (i := 220) (by decide +kernel))) (by decide +kernel)
theorem q1_222 : Cond.lays "JokePump$Reader" "JokePump$Reader" "end" "I" ∈ lw_g := lw_gm (tin1 (List.mem_of_getElem? (i := 222) (by decide +kernel))) (by decide +kernel)
theorem ly_X2 : ∀ w ∈ u_ws RX2 TX2 4, w ∈ lw_g := by
  intro w hw
  obtain ⟨k, hk, rfl⟩ := List.mem_map.mp hw
  have hk := List.mem_range.mp hk
  rcases (show k = 0 ∨ k = 1 ∨ k = 2 ∨ k = 3 by omega) with rfl | rfl | rfl | rfl
  · exact q1_216
  · exact q1_218
  · exact q1_220
  · exact q1_222
theorem q1_44 : Cond.laysFinal "JokePump$Row" "JokePump$Row" "cells" "[I" ∈ lw_g := lw_gm (tin1 (List.mem_of_getElem? (i := 44) (by decide +kernel))) (by decide +kernel)
theorem ly_X3 : ∀ w ∈ u_ws RX3 TX3 1, w ∈ lw_g := by
  intro w hw
  obtain ⟨k, hk, rfl⟩ := List.mem_map.mp hw
  have hk := List.mem_range.mp hk
  rcases (show k = 0 by omega) with rfl
  · exact q1_44
theorem q1_140 : Cond.laysFinal "JokePump$State" "JokePump$State" "jokes" "LJokePump$Jokes;" ∈ lw_g := lw_gm (tin1 (List.mem_of_getElem? (i := 140) (by decide +kernel))) (by decide +kernel)
theorem q1_142 : Cond.laysFinal "JokePump$State" "JokePump$State" "told" "LJokePump$Told;" ∈ lw_g := lw_gm (tin1 (List.mem_of_getElem? (i := 142) (by decide +kernel))) (by decide +kernel)
theorem q1_144 : Cond.laysFinal "JokePump$State" "JokePump$State" "buckets" "LJokePump$Row;" ∈ lw_g := lw_gm (tin1 (List.mem_of_getElem? (i := 144) (by decide +kernel))) (by decide +kernel)
theorem q1_146 : Cond.lays "JokePump$State" "JokePump$State" "well" "I" ∈ lw_g := lw_gm (tin1 (List.mem_of_getElem? (i := 146) (by decide +kernel))) (by decide +kernel)
theorem q1_148 : Cond.lays "JokePump$State" "JokePump$State" "length" "I" ∈ lw_g := lw_gm (tin1 (List.mem_of_getElem? (i := 148) (by decide +kernel))) (by decide +kernel)
theorem q1_150 : Cond.lays "JokePump$State" "JokePump$State" "reach" "I" ∈ lw_g := lw_gm (tin1 (List.mem_of_getElem? (i := 150) (by decide +kernel))) (by decide +kernel)
theorem q1_152 : Cond.lays "JokePump$State" "JokePump$State" "groans" "I" ∈ lw_g := lw_gm (tin1 (List.mem_of_getElem? (i := 152) (by decide +kernel))) (by decide +kernel)
theorem q1_154 : Cond.lays "JokePump$State" "JokePump$State" "drops" "I" ∈ lw_g := lw_gm (tin1 (List.mem_of_getElem? (i := 154) (by decide +kernel))) (by decide +kernel)
theorem q1_156 : Cond.lays "JokePump$State" "JokePump$State" "came" "I" ∈ lw_g := lw_gm (tin1 (List.mem_of_getElem? (i := 156) (by decide +kernel))) (by decide +kernel)
theorem q1_158 : Cond.lays "JokePump$State" "JokePump$State" "went" "I" ∈ lw_g := lw_gm (tin1 (List.mem_of_getElem? (i := 158) (by decide +kernel))) (by decide +kernel)
theorem q1_160 : Cond.lays "JokePump$State" "JokePump$State" "strokesMade" "I" ∈ lw_g := lw_gm (tin1 (List.mem_of_getElem? (i := 160) (by decide +kernel))) (by decide +kernel)
theorem q1_162 : Cond.lays "JokePump$State" "JokePump$State" "drained" "I" ∈ lw_g := lw_gm (tin1 (List.mem_of_getElem? (i := 162) (by decide +kernel))) (by decide +kernel)
theorem ly_X4 : ∀ w ∈ u_ws RX4 TX4 12, w ∈ lw_g := by
  intro w hw
  obtain ⟨k, hk, rfl⟩ := List.mem_map.mp hw
  have hk := List.mem_range.mp hk
  rcases (show k = 0 ∨ k = 1 ∨ k = 2 ∨ k = 3 ∨ k = 4 ∨ k = 5 ∨ k = 6 ∨ k = 7 ∨ k = 8 ∨ k = 9 ∨ k = 10 ∨ k = 11 by omega) with rfl | rfl | rfl | rfl | rfl | rfl | rfl | rfl | rfl | rfl | rfl | rfl
  · exact q1_140
  · exact q1_142
  · exact q1_144
  · exact q1_146
  · exact q1_148
  · exact q1_150
  · exact q1_152
  · exact q1_154
  · exact q1_156
  · exact q1_158
  · exact q1_160
  · exact q1_162
theorem q1_195 : Cond.laysFinal "JokePump$Strip" "JokePump$Strip" "signs" "[C" ∈ lw_g := lw_gm (tin1 (List.mem_of_getElem? (i := 195) (by decide +kernel))) (by decide +kernel)
theorem q1_197 : Cond.lays "JokePump$Strip" "JokePump$Strip" "length" "I" ∈ lw_g := lw_gm (tin1 (List.mem_of_getElem? (i := 197) (by decide +kernel))) (by decide +kernel)
theorem ly_X5 : ∀ w ∈ u_ws RX5 TX5 2, w ∈ lw_g := by
  intro w hw
  obtain ⟨k, hk, rfl⟩ := List.mem_map.mp hw
  have hk := List.mem_range.mp hk
  rcases (show k = 0 ∨ k = 1 by omega) with rfl | rfl
  · exact q1_195
  · exact q1_197
theorem q1_96 : Cond.lays "JokePump$Told" "JokePump$Told" "count" "I" ∈ lw_g := lw_gm (tin1 (List.mem_of_getElem? (i := 96) (by decide +kernel))) (by decide +kernel)
theorem q1_98 : Cond.lays "JokePump$Told" "JokePump$Told" "sum" "F" ∈ lw_g := lw_gm (tin1 (List.mem_of_getElem? (i := 98) (by decide +kernel))) (by decide +kernel)
theorem q1_100 : Cond.laysFinal "JokePump$Told" "JokePump$Told" "signs" "LJokePump$Row;" ∈ lw_g := lw_gm (tin1 (List.mem_of_getElem? (i := 100) (by decide +kernel))) (by decide +kernel)
theorem q1_102 : Cond.laysFinal "JokePump$Told" "JokePump$Told" "wells" "LJokePump$Row;" ∈ lw_g := lw_gm (tin1 (List.mem_of_getElem? (i := 102) (by decide +kernel))) (by decide +kernel)
theorem q1_104 : Cond.laysFinal "JokePump$Told" "JokePump$Told" "laughs" "[F" ∈ lw_g := lw_gm (tin1 (List.mem_of_getElem? (i := 104) (by decide +kernel))) (by decide +kernel)
theorem q1_106 : Cond.laysFinal "JokePump$Told" "JokePump$Told" "known" "LJokePump$Row;" ∈ lw_g := lw_gm (tin1 (List.mem_of_getElem? (i := 106) (by decide +kernel))) (by decide +kernel)
theorem ly_X6 : ∀ w ∈ u_ws RX6 TX6 6, w ∈ lw_g := by
  intro w hw
  obtain ⟨k, hk, rfl⟩ := List.mem_map.mp hw
  have hk := List.mem_range.mp hk
  rcases (show k = 0 ∨ k = 1 ∨ k = 2 ∨ k = 3 ∨ k = 4 ∨ k = 5 by omega) with rfl | rfl | rfl | rfl | rfl | rfl
  · exact q1_96
  · exact q1_98
  · exact q1_100
  · exact q1_102
  · exact q1_104
  · exact q1_106
theorem q1_237 : Cond.laysFinal "JokePump" "JokePump" "now" "LJokePump$State;" ∈ lw_g := lw_gm (tin1 (List.mem_of_getElem? (i := 237) (by decide +kernel))) (by decide +kernel)
theorem q1_239 : Cond.laysFinal "JokePump" "JokePump" "saved" "LJokePump$State;" ∈ lw_g := lw_gm (tin1 (List.mem_of_getElem? (i := 239) (by decide +kernel))) (by decide +kernel)
theorem q2_1 : Cond.lays "JokePump" "JokePump" "isSaved" "Z" ∈ lw_g := lw_gm (tin2 (List.mem_of_getElem? (i := 1) (by decide +kernel))) (by decide +kernel)
theorem q2_3 : Cond.laysFinal "JokePump" "JokePump" "history" "LJokePump$History;" ∈ lw_g := lw_gm (tin2 (List.mem_of_getElem? (i := 3) (by decide +kernel))) (by decide +kernel)
theorem q2_5 : Cond.laysFinal "JokePump" "JokePump" "input" "LJokePump$Strip;" ∈ lw_g := lw_gm (tin2 (List.mem_of_getElem? (i := 5) (by decide +kernel))) (by decide +kernel)
theorem q2_7 : Cond.laysFinal "JokePump" "JokePump" "line" "LJokePump$Strip;" ∈ lw_g := lw_gm (tin2 (List.mem_of_getElem? (i := 7) (by decide +kernel))) (by decide +kernel)
theorem q2_9 : Cond.laysFinal "JokePump" "JokePump" "reader" "LJokePump$Reader;" ∈ lw_g := lw_gm (tin2 (List.mem_of_getElem? (i := 9) (by decide +kernel))) (by decide +kernel)
theorem q2_11 : Cond.lays "JokePump" "JokePump" "faultPosition" "I" ∈ lw_g := lw_gm (tin2 (List.mem_of_getElem? (i := 11) (by decide +kernel))) (by decide +kernel)
theorem q2_13 : Cond.lays "JokePump" "JokePump" "reasonKind" "I" ∈ lw_g := lw_gm (tin2 (List.mem_of_getElem? (i := 13) (by decide +kernel))) (by decide +kernel)
theorem q2_15 : Cond.lays "JokePump" "JokePump" "reasonDetail" "I" ∈ lw_g := lw_gm (tin2 (List.mem_of_getElem? (i := 15) (by decide +kernel))) (by decide +kernel)
theorem q2_17 : Cond.lays "JokePump" "JokePump" "behindKind" "I" ∈ lw_g := lw_gm (tin2 (List.mem_of_getElem? (i := 17) (by decide +kernel))) (by decide +kernel)
theorem q2_19 : Cond.lays "JokePump" "JokePump" "behindDetail" "I" ∈ lw_g := lw_gm (tin2 (List.mem_of_getElem? (i := 19) (by decide +kernel))) (by decide +kernel)
theorem ly_X7 : ∀ w ∈ u_ws RX7 TX7 12, w ∈ lw_g := by
  intro w hw
  obtain ⟨k, hk, rfl⟩ := List.mem_map.mp hw
  have hk := List.mem_range.mp hk
  rcases (show k = 0 ∨ k = 1 ∨ k = 2 ∨ k = 3 ∨ k = 4 ∨ k = 5 ∨ k = 6 ∨ k = 7 ∨ k = 8 ∨ k = 9 ∨ k = 10 ∨ k = 11 by omega) with rfl | rfl | rfl | rfl | rfl | rfl | rfl | rfl | rfl | rfl | rfl | rfl
  · exact q1_237
  · exact q1_239
  · exact q2_1
  · exact q2_3
  · exact q2_5
  · exact q2_7
  · exact q2_9
  · exact q2_11
  · exact q2_13
  · exact q2_15
  · exact q2_17
  · exact q2_19
theorem q4_94 : Cond.lays "JokePumpModel" "JokePumpModel" "why" "I" ∈ lw_g := lw_gm (tin4 (List.mem_of_getElem? (i := 94) (by decide +kernel))) (by decide +kernel)
theorem q4_96 : Cond.lays "JokePumpModel" "JokePumpModel" "detail" "I" ∈ lw_g := lw_gm (tin4 (List.mem_of_getElem? (i := 96) (by decide +kernel))) (by decide +kernel)
theorem q4_98 : Cond.lays "JokePumpModel" "JokePumpModel" "whyBehind" "I" ∈ lw_g := lw_gm (tin4 (List.mem_of_getElem? (i := 98) (by decide +kernel))) (by decide +kernel)
theorem q4_100 : Cond.lays "JokePumpModel" "JokePumpModel" "detailBehind" "I" ∈ lw_g := lw_gm (tin4 (List.mem_of_getElem? (i := 100) (by decide +kernel))) (by decide +kernel)
theorem q4_102 : Cond.lays "JokePumpModel" "JokePumpModel" "whyNow" "I" ∈ lw_g := lw_gm (tin4 (List.mem_of_getElem? (i := 102) (by decide +kernel))) (by decide +kernel)
theorem q4_104 : Cond.lays "JokePumpModel" "JokePumpModel" "detailNow" "I" ∈ lw_g := lw_gm (tin4 (List.mem_of_getElem? (i := 104) (by decide +kernel))) (by decide +kernel)
theorem q4_106 : Cond.laysFinal "JokePumpModel" "JokePumpModel" "w" "[I" ∈ lw_g := lw_gm (tin4 (List.mem_of_getElem? (i := 106) (by decide +kernel))) (by decide +kernel)
theorem q4_108 : Cond.laysFinal "JokePumpModel" "JokePumpModel" "undos" "[I" ∈ lw_g := lw_gm (tin4 (List.mem_of_getElem? (i := 108) (by decide +kernel))) (by decide +kernel)
theorem q4_110 : Cond.laysFinal "JokePumpModel" "JokePumpModel" "savedRow" "[I" ∈ lw_g := lw_gm (tin4 (List.mem_of_getElem? (i := 110) (by decide +kernel))) (by decide +kernel)
theorem q4_112 : Cond.laysFinal "JokePumpModel" "JokePumpModel" "mind" "[I" ∈ lw_g := lw_gm (tin4 (List.mem_of_getElem? (i := 112) (by decide +kernel))) (by decide +kernel)
theorem q4_114 : Cond.laysFinal "JokePumpModel" "JokePumpModel" "ahead" "[I" ∈ lw_g := lw_gm (tin4 (List.mem_of_getElem? (i := 114) (by decide +kernel))) (by decide +kernel)
theorem q4_116 : Cond.lays "JokePumpModel" "JokePumpModel" "changes" "I" ∈ lw_g := lw_gm (tin4 (List.mem_of_getElem? (i := 116) (by decide +kernel))) (by decide +kernel)
theorem q4_118 : Cond.lays "JokePumpModel" "JokePumpModel" "firstChange" "I" ∈ lw_g := lw_gm (tin4 (List.mem_of_getElem? (i := 118) (by decide +kernel))) (by decide +kernel)
theorem q4_120 : Cond.lays "JokePumpModel" "JokePumpModel" "isSaved" "Z" ∈ lw_g := lw_gm (tin4 (List.mem_of_getElem? (i := 120) (by decide +kernel))) (by decide +kernel)
theorem q4_122 : Cond.laysFinal "JokePumpModel" "JokePumpModel" "line" "[C" ∈ lw_g := lw_gm (tin4 (List.mem_of_getElem? (i := 122) (by decide +kernel))) (by decide +kernel)
theorem q4_124 : Cond.lays "JokePumpModel" "JokePumpModel" "lineLength" "I" ∈ lw_g := lw_gm (tin4 (List.mem_of_getElem? (i := 124) (by decide +kernel))) (by decide +kernel)
theorem q4_126 : Cond.laysFinal "JokePumpModel" "JokePumpModel" "input" "[C" ∈ lw_g := lw_gm (tin4 (List.mem_of_getElem? (i := 126) (by decide +kernel))) (by decide +kernel)
theorem q4_128 : Cond.lays "JokePumpModel" "JokePumpModel" "inputMany" "I" ∈ lw_g := lw_gm (tin4 (List.mem_of_getElem? (i := 128) (by decide +kernel))) (by decide +kernel)
theorem q4_130 : Cond.lays "JokePumpModel" "JokePumpModel" "inputAt" "I" ∈ lw_g := lw_gm (tin4 (List.mem_of_getElem? (i := 130) (by decide +kernel))) (by decide +kernel)
theorem q4_132 : Cond.lays "JokePumpModel" "JokePumpModel" "faultAt" "I" ∈ lw_g := lw_gm (tin4 (List.mem_of_getElem? (i := 132) (by decide +kernel))) (by decide +kernel)
theorem q4_134 : Cond.laysFinal "JokePumpModel" "JokePumpModel" "numbers" "[I" ∈ lw_g := lw_gm (tin4 (List.mem_of_getElem? (i := 134) (by decide +kernel))) (by decide +kernel)
theorem q4_136 : Cond.lays "JokePumpModel" "JokePumpModel" "sort" "I" ∈ lw_g := lw_gm (tin4 (List.mem_of_getElem? (i := 136) (by decide +kernel))) (by decide +kernel)
theorem q4_138 : Cond.lays "JokePumpModel" "JokePumpModel" "done" "I" ∈ lw_g := lw_gm (tin4 (List.mem_of_getElem? (i := 138) (by decide +kernel))) (by decide +kernel)
theorem ly_X8 : ∀ w ∈ u_ws RX8 TX8 23, w ∈ lw_g := by
  intro w hw
  obtain ⟨k, hk, rfl⟩ := List.mem_map.mp hw
  have hk := List.mem_range.mp hk
  rcases (show k = 0 ∨ k = 1 ∨ k = 2 ∨ k = 3 ∨ k = 4 ∨ k = 5 ∨ k = 6 ∨ k = 7 ∨ k = 8 ∨ k = 9 ∨ k = 10 ∨ k = 11 ∨ k = 12 ∨ k = 13 ∨ k = 14 ∨ k = 15 ∨ k = 16 ∨ k = 17 ∨ k = 18 ∨ k = 19 ∨ k = 20 ∨ k = 21 ∨ k = 22 by omega) with rfl | rfl | rfl | rfl | rfl | rfl | rfl | rfl | rfl | rfl | rfl | rfl | rfl | rfl | rfl | rfl | rfl | rfl | rfl | rfl | rfl | rfl | rfl
  · exact q4_94
  · exact q4_96
  · exact q4_98
  · exact q4_100
  · exact q4_102
  · exact q4_104
  · exact q4_106
  · exact q4_108
  · exact q4_110
  · exact q4_112
  · exact q4_114
  · exact q4_116
  · exact q4_118
  · exact q4_120
  · exact q4_122
  · exact q4_124
  · exact q4_126
  · exact q4_128
  · exact q4_130
  · exact q4_132
  · exact q4_134
  · exact q4_136
  · exact q4_138
theorem q1_174 : Cond.fieldLink "JokePump$History" 11 "JokePump$History" "slots" "[LJokePump$State;" ∈ lw_g := lw_gm (tin1 (List.mem_of_getElem? (i := 174) (by decide +kernel))) (by decide +kernel)
theorem fl_X0_11 : Fld RX0 11 0 0 := ⟨RX0, TX0, 3, "JokePump$History", rfl, ly_X0, by decide, (Or.inl q1_174), rfl⟩
theorem q1_175 : Cond.fieldLink "JokePump$History" 17 "JokePump$History" "next" "I" ∈ lw_g := lw_gm (tin1 (List.mem_of_getElem? (i := 175) (by decide +kernel))) (by decide +kernel)
theorem fl_X0_17 : Fld RX0 17 0 1 := ⟨RX0, TX0, 3, "JokePump$History", rfl, ly_X0, by decide, (Or.inl q1_175), rfl⟩
theorem fp_X0_17 : FldP RX0 17 0 1 .int := ⟨RX0, TX0, 3, "JokePump$History", tyX0, rfl, ly_X0, tyX0_ok, nmX0, by decide, (Or.inl q1_175), rfl, rfl, by decide +kernel⟩
theorem q1_176 : Cond.fieldLink "JokePump$History" 21 "JokePump$History" "count" "I" ∈ lw_g := lw_gm (tin1 (List.mem_of_getElem? (i := 176) (by decide +kernel))) (by decide +kernel)
theorem fl_X0_21 : Fld RX0 21 0 2 := ⟨RX0, TX0, 3, "JokePump$History", rfl, ly_X0, by decide, (Or.inl q1_176), rfl⟩
theorem fp_X0_21 : FldP RX0 21 0 2 .int := ⟨RX0, TX0, 3, "JokePump$History", tyX0, rfl, ly_X0, tyX0_ok, nmX0, by decide, (Or.inl q1_176), rfl, rfl, by decide +kernel⟩
theorem q1_48 : Cond.fieldLink "JokePump$Jokes" 9 "JokePump$Jokes" "count" "I" ∈ lw_g := lw_gm (tin1 (List.mem_of_getElem? (i := 48) (by decide +kernel))) (by decide +kernel)
theorem fl_X1_9 : Fld RX1 9 1 0 := ⟨RX1, TX1, 6, "JokePump$Jokes", rfl, ly_X1, by decide, (Or.inl q1_48), rfl⟩
theorem fp_X1_9 : FldP RX1 9 1 0 .int := ⟨RX1, TX1, 6, "JokePump$Jokes", tyX1, rfl, ly_X1, tyX1_ok, nmX1, by decide, (Or.inl q1_48), rfl, rfl, by decide +kernel⟩
theorem q1_50 : Cond.fieldLink "JokePump$Jokes" 20 "JokePump$Jokes" "wells" "LJokePump$Row;" ∈ lw_g := lw_gm (tin1 (List.mem_of_getElem? (i := 50) (by decide +kernel))) (by decide +kernel)
theorem fl_X1_20 : Fld RX1 20 1 1 := ⟨RX1, TX1, 6, "JokePump$Jokes", rfl, ly_X1, by decide, (Or.inl q1_50), rfl⟩
theorem q1_53 : Cond.fieldLink "JokePump$Jokes" 24 "JokePump$Jokes" "depths" "LJokePump$Row;" ∈ lw_g := lw_gm (tin1 (List.mem_of_getElem? (i := 53) (by decide +kernel))) (by decide +kernel)
theorem fl_X1_24 : Fld RX1 24 1 2 := ⟨RX1, TX1, 6, "JokePump$Jokes", rfl, ly_X1, by decide, (Or.inl q1_53), rfl⟩
theorem q1_55 : Cond.fieldLink "JokePump$Jokes" 27 "JokePump$Jokes" "signs" "LJokePump$Row;" ∈ lw_g := lw_gm (tin1 (List.mem_of_getElem? (i := 55) (by decide +kernel))) (by decide +kernel)
theorem fl_X1_27 : Fld RX1 27 1 3 := ⟨RX1, TX1, 6, "JokePump$Jokes", rfl, ly_X1, by decide, (Or.inl q1_55), rfl⟩
theorem q1_58 : Cond.fieldLink "JokePump$Jokes" 30 "JokePump$Jokes" "wits" "LJokePump$Row;" ∈ lw_g := lw_gm (tin1 (List.mem_of_getElem? (i := 58) (by decide +kernel))) (by decide +kernel)
theorem fl_X1_30 : Fld RX1 30 1 4 := ⟨RX1, TX1, 6, "JokePump$Jokes", rfl, ly_X1, by decide, (Or.inl q1_58), rfl⟩
theorem q1_61 : Cond.fieldLink "JokePump$Jokes" 33 "JokePump$Jokes" "primed" "LJokePump$Row;" ∈ lw_g := lw_gm (tin1 (List.mem_of_getElem? (i := 61) (by decide +kernel))) (by decide +kernel)
theorem fl_X1_33 : Fld RX1 33 1 5 := ⟨RX1, TX1, 6, "JokePump$Jokes", rfl, ly_X1, by decide, (Or.inl q1_61), rfl⟩
theorem q1_209 : Cond.fieldLink "JokePump$Reader" 14 "JokePump$Reader" "kinds" "LJokePump$Row;" ∈ lw_g := lw_gm (tin1 (List.mem_of_getElem? (i := 209) (by decide +kernel))) (by decide +kernel)
theorem fl_X2_14 : Fld RX2 14 2 0 := ⟨RX2, TX2, 4, "JokePump$Reader", rfl, ly_X2, by decide, (Or.inl q1_209), rfl⟩
theorem q1_211 : Cond.fieldLink "JokePump$Reader" 20 "JokePump$Reader" "numbers" "LJokePump$Row;" ∈ lw_g := lw_gm (tin1 (List.mem_of_getElem? (i := 211) (by decide +kernel))) (by decide +kernel)
theorem fl_X2_20 : Fld RX2 20 2 1 := ⟨RX2, TX2, 4, "JokePump$Reader", rfl, ly_X2, by decide, (Or.inl q1_211), rfl⟩
theorem q1_212 : Cond.fieldLink "JokePump$Reader" 23 "JokePump$Reader" "count" "I" ∈ lw_g := lw_gm (tin1 (List.mem_of_getElem? (i := 212) (by decide +kernel))) (by decide +kernel)
theorem fl_X2_23 : Fld RX2 23 2 2 := ⟨RX2, TX2, 4, "JokePump$Reader", rfl, ly_X2, by decide, (Or.inl q1_212), rfl⟩
theorem fp_X2_23 : FldP RX2 23 2 2 .int := ⟨RX2, TX2, 4, "JokePump$Reader", tyX2, rfl, ly_X2, tyX2_ok, nmX2, by decide, (Or.inl q1_212), rfl, rfl, by decide +kernel⟩
theorem q1_214 : Cond.fieldLink "JokePump$Reader" 27 "JokePump$Reader" "end" "I" ∈ lw_g := lw_gm (tin1 (List.mem_of_getElem? (i := 214) (by decide +kernel))) (by decide +kernel)
theorem fl_X2_27 : Fld RX2 27 2 3 := ⟨RX2, TX2, 4, "JokePump$Reader", rfl, ly_X2, by decide, (Or.inl q1_214), rfl⟩
theorem fp_X2_27 : FldP RX2 27 2 3 .int := ⟨RX2, TX2, 4, "JokePump$Reader", tyX2, rfl, ly_X2, tyX2_ok, nmX2, by decide, (Or.inl q1_214), rfl, rfl, by decide +kernel⟩
theorem q1_193 : Cond.fieldLinkNest "JokePump$Reader" 34 "JokePump$Strip" "length" "I" "JokePump" ∈ lw_n := lw_nm (tin1 (List.mem_of_getElem? (i := 193) (by decide +kernel))) (by decide +kernel)
theorem fl_X2_34 : Fld RX2 34 5 1 := ⟨RX5, TX5, 2, "JokePump$Strip", rfl, ly_X5, by decide, (Or.inr ⟨_, q1_193⟩), rfl⟩
theorem q1_43 : Cond.fieldLink "JokePump$Row" 7 "JokePump$Row" "cells" "[I" ∈ lw_g := lw_gm (tin1 (List.mem_of_getElem? (i := 43) (by decide +kernel))) (by decide +kernel)
theorem fl_X3_7 : Fld RX3 7 3 0 := ⟨RX3, TX3, 1, "JokePump$Row", rfl, ly_X3, by decide, (Or.inl q1_43), rfl⟩
theorem q1_116 : Cond.fieldLink "JokePump$State" 12 "JokePump$State" "jokes" "LJokePump$Jokes;" ∈ lw_g := lw_gm (tin1 (List.mem_of_getElem? (i := 116) (by decide +kernel))) (by decide +kernel)
theorem fl_X4_12 : Fld RX4 12 4 0 := ⟨RX4, TX4, 12, "JokePump$State", rfl, ly_X4, by decide, (Or.inl q1_116), rfl⟩
theorem q1_118 : Cond.fieldLink "JokePump$State" 21 "JokePump$State" "told" "LJokePump$Told;" ∈ lw_g := lw_gm (tin1 (List.mem_of_getElem? (i := 118) (by decide +kernel))) (by decide +kernel)
theorem fl_X4_21 : Fld RX4 21 4 1 := ⟨RX4, TX4, 12, "JokePump$State", rfl, ly_X4, by decide, (Or.inl q1_118), rfl⟩
theorem q1_120 : Cond.fieldLink "JokePump$State" 30 "JokePump$State" "buckets" "LJokePump$Row;" ∈ lw_g := lw_gm (tin1 (List.mem_of_getElem? (i := 120) (by decide +kernel))) (by decide +kernel)
theorem fl_X4_30 : Fld RX4 30 4 2 := ⟨RX4, TX4, 12, "JokePump$State", rfl, ly_X4, by decide, (Or.inl q1_120), rfl⟩
theorem q1_122 : Cond.fieldLink "JokePump$State" 34 "JokePump$State" "well" "I" ∈ lw_g := lw_gm (tin1 (List.mem_of_getElem? (i := 122) (by decide +kernel))) (by decide +kernel)
theorem fl_X4_34 : Fld RX4 34 4 3 := ⟨RX4, TX4, 12, "JokePump$State", rfl, ly_X4, by decide, (Or.inl q1_122), rfl⟩
theorem fp_X4_34 : FldP RX4 34 4 3 .int := ⟨RX4, TX4, 12, "JokePump$State", tyX4, rfl, ly_X4, tyX4_ok, nmX4, by decide, (Or.inl q1_122), rfl, rfl, by decide +kernel⟩
theorem q1_124 : Cond.fieldLink "JokePump$State" 38 "JokePump$State" "length" "I" ∈ lw_g := lw_gm (tin1 (List.mem_of_getElem? (i := 124) (by decide +kernel))) (by decide +kernel)
theorem fl_X4_38 : Fld RX4 38 4 4 := ⟨RX4, TX4, 12, "JokePump$State", rfl, ly_X4, by decide, (Or.inl q1_124), rfl⟩
theorem fp_X4_38 : FldP RX4 38 4 4 .int := ⟨RX4, TX4, 12, "JokePump$State", tyX4, rfl, ly_X4, tyX4_ok, nmX4, by decide, (Or.inl q1_124), rfl, rfl, by decide +kernel⟩
theorem q1_126 : Cond.fieldLink "JokePump$State" 41 "JokePump$State" "reach" "I" ∈ lw_g := lw_gm (tin1 (List.mem_of_getElem? (i := 126) (by decide +kernel))) (by decide +kernel)
theorem fl_X4_41 : Fld RX4 41 4 5 := ⟨RX4, TX4, 12, "JokePump$State", rfl, ly_X4, by decide, (Or.inl q1_126), rfl⟩
theorem fp_X4_41 : FldP RX4 41 4 5 .int := ⟨RX4, TX4, 12, "JokePump$State", tyX4, rfl, ly_X4, tyX4_ok, nmX4, by decide, (Or.inl q1_126), rfl, rfl, by decide +kernel⟩
theorem q1_128 : Cond.fieldLink "JokePump$State" 44 "JokePump$State" "groans" "I" ∈ lw_g := lw_gm (tin1 (List.mem_of_getElem? (i := 128) (by decide +kernel))) (by decide +kernel)
theorem fl_X4_44 : Fld RX4 44 4 6 := ⟨RX4, TX4, 12, "JokePump$State", rfl, ly_X4, by decide, (Or.inl q1_128), rfl⟩
theorem fp_X4_44 : FldP RX4 44 4 6 .int := ⟨RX4, TX4, 12, "JokePump$State", tyX4, rfl, ly_X4, tyX4_ok, nmX4, by decide, (Or.inl q1_128), rfl, rfl, by decide +kernel⟩
theorem q1_130 : Cond.fieldLink "JokePump$State" 47 "JokePump$State" "drops" "I" ∈ lw_g := lw_gm (tin1 (List.mem_of_getElem? (i := 130) (by decide +kernel))) (by decide +kernel)
theorem fl_X4_47 : Fld RX4 47 4 7 := ⟨RX4, TX4, 12, "JokePump$State", rfl, ly_X4, by decide, (Or.inl q1_130), rfl⟩
theorem fp_X4_47 : FldP RX4 47 4 7 .int := ⟨RX4, TX4, 12, "JokePump$State", tyX4, rfl, ly_X4, tyX4_ok, nmX4, by decide, (Or.inl q1_130), rfl, rfl, by decide +kernel⟩
theorem q1_132 : Cond.fieldLink "JokePump$State" 50 "JokePump$State" "came" "I" ∈ lw_g := lw_gm (tin1 (List.mem_of_getElem? (i := 132) (by decide +kernel))) (by decide +kernel)
theorem fl_X4_50 : Fld RX4 50 4 8 := ⟨RX4, TX4, 12, "JokePump$State", rfl, ly_X4, by decide, (Or.inl q1_132), rfl⟩
theorem fp_X4_50 : FldP RX4 50 4 8 .int := ⟨RX4, TX4, 12, "JokePump$State", tyX4, rfl, ly_X4, tyX4_ok, nmX4, by decide, (Or.inl q1_132), rfl, rfl, by decide +kernel⟩
theorem q1_134 : Cond.fieldLink "JokePump$State" 53 "JokePump$State" "went" "I" ∈ lw_g := lw_gm (tin1 (List.mem_of_getElem? (i := 134) (by decide +kernel))) (by decide +kernel)
theorem fl_X4_53 : Fld RX4 53 4 9 := ⟨RX4, TX4, 12, "JokePump$State", rfl, ly_X4, by decide, (Or.inl q1_134), rfl⟩
theorem fp_X4_53 : FldP RX4 53 4 9 .int := ⟨RX4, TX4, 12, "JokePump$State", tyX4, rfl, ly_X4, tyX4_ok, nmX4, by decide, (Or.inl q1_134), rfl, rfl, by decide +kernel⟩
theorem q1_136 : Cond.fieldLink "JokePump$State" 56 "JokePump$State" "strokesMade" "I" ∈ lw_g := lw_gm (tin1 (List.mem_of_getElem? (i := 136) (by decide +kernel))) (by decide +kernel)
theorem fl_X4_56 : Fld RX4 56 4 10 := ⟨RX4, TX4, 12, "JokePump$State", rfl, ly_X4, by decide, (Or.inl q1_136), rfl⟩
theorem fp_X4_56 : FldP RX4 56 4 10 .int := ⟨RX4, TX4, 12, "JokePump$State", tyX4, rfl, ly_X4, tyX4_ok, nmX4, by decide, (Or.inl q1_136), rfl, rfl, by decide +kernel⟩
theorem q1_138 : Cond.fieldLink "JokePump$State" 59 "JokePump$State" "drained" "I" ∈ lw_g := lw_gm (tin1 (List.mem_of_getElem? (i := 138) (by decide +kernel))) (by decide +kernel)
theorem fl_X4_59 : Fld RX4 59 4 11 := ⟨RX4, TX4, 12, "JokePump$State", rfl, ly_X4, by decide, (Or.inl q1_138), rfl⟩
theorem fp_X4_59 : FldP RX4 59 4 11 .int := ⟨RX4, TX4, 12, "JokePump$State", tyX4, rfl, ly_X4, tyX4_ok, nmX4, by decide, (Or.inl q1_138), rfl, rfl, by decide +kernel⟩
theorem q1_59 : Cond.fieldLinkNest "JokePump$State" 72 "JokePump$Jokes" "wits" "LJokePump$Row;" "JokePump" ∈ lw_n := lw_nm (tin1 (List.mem_of_getElem? (i := 59) (by decide +kernel))) (by decide +kernel)
theorem fl_X4_72 : Fld RX4 72 1 4 := ⟨RX1, TX1, 6, "JokePump$Jokes", rfl, ly_X1, by decide, (Or.inr ⟨_, q1_59⟩), rfl⟩
theorem q1_62 : Cond.fieldLinkNest "JokePump$State" 79 "JokePump$Jokes" "primed" "LJokePump$Row;" "JokePump" ∈ lw_n := lw_nm (tin1 (List.mem_of_getElem? (i := 62) (by decide +kernel))) (by decide +kernel)
theorem fl_X4_79 : Fld RX4 79 1 5 := ⟨RX1, TX1, 6, "JokePump$Jokes", rfl, ly_X1, by decide, (Or.inr ⟨_, q1_62⟩), rfl⟩
theorem q1_56 : Cond.fieldLinkNest "JokePump$State" 99 "JokePump$Jokes" "signs" "LJokePump$Row;" "JokePump" ∈ lw_n := lw_nm (tin1 (List.mem_of_getElem? (i := 56) (by decide +kernel))) (by decide +kernel)
theorem fl_X4_99 : Fld RX4 99 1 3 := ⟨RX1, TX1, 6, "JokePump$Jokes", rfl, ly_X1, by decide, (Or.inr ⟨_, q1_56⟩), rfl⟩
theorem q1_51 : Cond.fieldLinkNest "JokePump$State" 102 "JokePump$Jokes" "wells" "LJokePump$Row;" "JokePump" ∈ lw_n := lw_nm (tin1 (List.mem_of_getElem? (i := 51) (by decide +kernel))) (by decide +kernel)
theorem fl_X4_102 : Fld RX4 102 1 1 := ⟨RX1, TX1, 6, "JokePump$Jokes", rfl, ly_X1, by decide, (Or.inr ⟨_, q1_51⟩), rfl⟩
theorem q1_191 : Cond.fieldLink "JokePump$Strip" 9 "JokePump$Strip" "signs" "[C" ∈ lw_g := lw_gm (tin1 (List.mem_of_getElem? (i := 191) (by decide +kernel))) (by decide +kernel)
theorem fl_X5_9 : Fld RX5 9 5 0 := ⟨RX5, TX5, 2, "JokePump$Strip", rfl, ly_X5, by decide, (Or.inl q1_191), rfl⟩
theorem q1_192 : Cond.fieldLink "JokePump$Strip" 15 "JokePump$Strip" "length" "I" ∈ lw_g := lw_gm (tin1 (List.mem_of_getElem? (i := 192) (by decide +kernel))) (by decide +kernel)
theorem fl_X5_15 : Fld RX5 15 5 1 := ⟨RX5, TX5, 2, "JokePump$Strip", rfl, ly_X5, by decide, (Or.inl q1_192), rfl⟩
theorem fp_X5_15 : FldP RX5 15 5 1 .int := ⟨RX5, TX5, 2, "JokePump$Strip", tyX5, rfl, ly_X5, tyX5_ok, nmX5, by decide, (Or.inl q1_192), rfl, rfl, by decide +kernel⟩
theorem q1_85 : Cond.fieldLink "JokePump$Told" 9 "JokePump$Told" "count" "I" ∈ lw_g := lw_gm (tin1 (List.mem_of_getElem? (i := 85) (by decide +kernel))) (by decide +kernel)
theorem fl_X6_9 : Fld RX6 9 6 0 := ⟨RX6, TX6, 6, "JokePump$Told", rfl, ly_X6, by decide, (Or.inl q1_85), rfl⟩
theorem fp_X6_9 : FldP RX6 9 6 0 .int := ⟨RX6, TX6, 6, "JokePump$Told", tyX6, rfl, ly_X6, tyX6_ok, nmX6, by decide, (Or.inl q1_85), rfl, rfl, by decide +kernel⟩
theorem q1_87 : Cond.fieldLink "JokePump$Told" 15 "JokePump$Told" "sum" "F" ∈ lw_g := lw_gm (tin1 (List.mem_of_getElem? (i := 87) (by decide +kernel))) (by decide +kernel)
theorem fl_X6_15 : Fld RX6 15 6 1 := ⟨RX6, TX6, 6, "JokePump$Told", rfl, ly_X6, by decide, (Or.inl q1_87), rfl⟩
theorem fp_X6_15 : FldP RX6 15 6 1 .float := ⟨RX6, TX6, 6, "JokePump$Told", tyX6, rfl, ly_X6, tyX6_ok, nmX6, by decide, (Or.inl q1_87), rfl, rfl, by decide +kernel⟩
theorem q1_89 : Cond.fieldLink "JokePump$Told" 24 "JokePump$Told" "signs" "LJokePump$Row;" ∈ lw_g := lw_gm (tin1 (List.mem_of_getElem? (i := 89) (by decide +kernel))) (by decide +kernel)
theorem fl_X6_24 : Fld RX6 24 6 2 := ⟨RX6, TX6, 6, "JokePump$Told", rfl, ly_X6, by decide, (Or.inl q1_89), rfl⟩
theorem q1_91 : Cond.fieldLink "JokePump$Told" 28 "JokePump$Told" "wells" "LJokePump$Row;" ∈ lw_g := lw_gm (tin1 (List.mem_of_getElem? (i := 91) (by decide +kernel))) (by decide +kernel)
theorem fl_X6_28 : Fld RX6 28 6 3 := ⟨RX6, TX6, 6, "JokePump$Told", rfl, ly_X6, by decide, (Or.inl q1_91), rfl⟩
theorem q1_93 : Cond.fieldLink "JokePump$Told" 31 "JokePump$Told" "laughs" "[F" ∈ lw_g := lw_gm (tin1 (List.mem_of_getElem? (i := 93) (by decide +kernel))) (by decide +kernel)
theorem fl_X6_31 : Fld RX6 31 6 4 := ⟨RX6, TX6, 6, "JokePump$Told", rfl, ly_X6, by decide, (Or.inl q1_93), rfl⟩
theorem q1_94 : Cond.fieldLink "JokePump$Told" 35 "JokePump$Told" "known" "LJokePump$Row;" ∈ lw_g := lw_gm (tin1 (List.mem_of_getElem? (i := 94) (by decide +kernel))) (by decide +kernel)
theorem fl_X6_35 : Fld RX6 35 6 5 := ⟨RX6, TX6, 6, "JokePump$Told", rfl, ly_X6, by decide, (Or.inl q1_94), rfl⟩
theorem q1_225 : Cond.fieldLink "JokePump" 12 "JokePump" "now" "LJokePump$State;" ∈ lw_g := lw_gm (tin1 (List.mem_of_getElem? (i := 225) (by decide +kernel))) (by decide +kernel)
theorem fl_X7_12 : Fld RX7 12 7 0 := ⟨RX7, TX7, 12, "JokePump", rfl, ly_X7, by decide, (Or.inl q1_225), rfl⟩
theorem q1_226 : Cond.fieldLink "JokePump" 16 "JokePump" "saved" "LJokePump$State;" ∈ lw_g := lw_gm (tin1 (List.mem_of_getElem? (i := 226) (by decide +kernel))) (by decide +kernel)
theorem fl_X7_16 : Fld RX7 16 7 1 := ⟨RX7, TX7, 12, "JokePump", rfl, ly_X7, by decide, (Or.inl q1_226), rfl⟩
theorem q1_227 : Cond.fieldLink "JokePump" 19 "JokePump" "isSaved" "Z" ∈ lw_g := lw_gm (tin1 (List.mem_of_getElem? (i := 227) (by decide +kernel))) (by decide +kernel)
theorem fl_X7_19 : Fld RX7 19 7 2 := ⟨RX7, TX7, 12, "JokePump", rfl, ly_X7, by decide, (Or.inl q1_227), rfl⟩
theorem fp_X7_19 : FldP RX7 19 7 2 .boolean := ⟨RX7, TX7, 12, "JokePump", tyX7, rfl, ly_X7, tyX7_ok, nmX7, by decide, (Or.inl q1_227), rfl, rfl, by decide +kernel⟩
theorem q1_228 : Cond.fieldLink "JokePump" 26 "JokePump" "history" "LJokePump$History;" ∈ lw_g := lw_gm (tin1 (List.mem_of_getElem? (i := 228) (by decide +kernel))) (by decide +kernel)
theorem fl_X7_26 : Fld RX7 26 7 3 := ⟨RX7, TX7, 12, "JokePump", rfl, ly_X7, by decide, (Or.inl q1_228), rfl⟩
theorem q1_229 : Cond.fieldLink "JokePump" 33 "JokePump" "input" "LJokePump$Strip;" ∈ lw_g := lw_gm (tin1 (List.mem_of_getElem? (i := 229) (by decide +kernel))) (by decide +kernel)
theorem fl_X7_33 : Fld RX7 33 7 4 := ⟨RX7, TX7, 12, "JokePump", rfl, ly_X7, by decide, (Or.inl q1_229), rfl⟩
theorem q1_230 : Cond.fieldLink "JokePump" 37 "JokePump" "line" "LJokePump$Strip;" ∈ lw_g := lw_gm (tin1 (List.mem_of_getElem? (i := 230) (by decide +kernel))) (by decide +kernel)
theorem fl_X7_37 : Fld RX7 37 7 5 := ⟨RX7, TX7, 12, "JokePump", rfl, ly_X7, by decide, (Or.inl q1_230), rfl⟩
theorem q1_231 : Cond.fieldLink "JokePump" 43 "JokePump" "reader" "LJokePump$Reader;" ∈ lw_g := lw_gm (tin1 (List.mem_of_getElem? (i := 231) (by decide +kernel))) (by decide +kernel)
theorem fl_X7_43 : Fld RX7 43 7 6 := ⟨RX7, TX7, 12, "JokePump", rfl, ly_X7, by decide, (Or.inl q1_231), rfl⟩
theorem q1_232 : Cond.fieldLink "JokePump" 47 "JokePump" "faultPosition" "I" ∈ lw_g := lw_gm (tin1 (List.mem_of_getElem? (i := 232) (by decide +kernel))) (by decide +kernel)
theorem fl_X7_47 : Fld RX7 47 7 7 := ⟨RX7, TX7, 12, "JokePump", rfl, ly_X7, by decide, (Or.inl q1_232), rfl⟩
theorem fp_X7_47 : FldP RX7 47 7 7 .int := ⟨RX7, TX7, 12, "JokePump", tyX7, rfl, ly_X7, tyX7_ok, nmX7, by decide, (Or.inl q1_232), rfl, rfl, by decide +kernel⟩
theorem q1_233 : Cond.fieldLink "JokePump" 51 "JokePump" "reasonKind" "I" ∈ lw_g := lw_gm (tin1 (List.mem_of_getElem? (i := 233) (by decide +kernel))) (by decide +kernel)
theorem fl_X7_51 : Fld RX7 51 7 8 := ⟨RX7, TX7, 12, "JokePump", rfl, ly_X7, by decide, (Or.inl q1_233), rfl⟩
theorem fp_X7_51 : FldP RX7 51 7 8 .int := ⟨RX7, TX7, 12, "JokePump", tyX7, rfl, ly_X7, tyX7_ok, nmX7, by decide, (Or.inl q1_233), rfl, rfl, by decide +kernel⟩
theorem q1_234 : Cond.fieldLink "JokePump" 54 "JokePump" "reasonDetail" "I" ∈ lw_g := lw_gm (tin1 (List.mem_of_getElem? (i := 234) (by decide +kernel))) (by decide +kernel)
theorem fl_X7_54 : Fld RX7 54 7 9 := ⟨RX7, TX7, 12, "JokePump", rfl, ly_X7, by decide, (Or.inl q1_234), rfl⟩
theorem fp_X7_54 : FldP RX7 54 7 9 .int := ⟨RX7, TX7, 12, "JokePump", tyX7, rfl, ly_X7, tyX7_ok, nmX7, by decide, (Or.inl q1_234), rfl, rfl, by decide +kernel⟩
theorem q1_235 : Cond.fieldLink "JokePump" 57 "JokePump" "behindKind" "I" ∈ lw_g := lw_gm (tin1 (List.mem_of_getElem? (i := 235) (by decide +kernel))) (by decide +kernel)
theorem fl_X7_57 : Fld RX7 57 7 10 := ⟨RX7, TX7, 12, "JokePump", rfl, ly_X7, by decide, (Or.inl q1_235), rfl⟩
theorem fp_X7_57 : FldP RX7 57 7 10 .int := ⟨RX7, TX7, 12, "JokePump", tyX7, rfl, ly_X7, tyX7_ok, nmX7, by decide, (Or.inl q1_235), rfl, rfl, by decide +kernel⟩
theorem q1_236 : Cond.fieldLink "JokePump" 60 "JokePump" "behindDetail" "I" ∈ lw_g := lw_gm (tin1 (List.mem_of_getElem? (i := 236) (by decide +kernel))) (by decide +kernel)
theorem fl_X7_60 : Fld RX7 60 7 11 := ⟨RX7, TX7, 12, "JokePump", rfl, ly_X7, by decide, (Or.inl q1_236), rfl⟩
theorem fp_X7_60 : FldP RX7 60 7 11 .int := ⟨RX7, TX7, 12, "JokePump", tyX7, rfl, ly_X7, tyX7_ok, nmX7, by decide, (Or.inl q1_236), rfl, rfl, by decide +kernel⟩
theorem q1_215 : Cond.fieldLinkNest "JokePump" 105 "JokePump$Reader" "end" "I" "JokePump" ∈ lw_n := lw_nm (tin1 (List.mem_of_getElem? (i := 215) (by decide +kernel))) (by decide +kernel)
theorem fl_X7_105 : Fld RX7 105 2 3 := ⟨RX2, TX2, 4, "JokePump$Reader", rfl, ly_X2, by decide, (Or.inr ⟨_, q1_215⟩), rfl⟩
theorem q1_177 : Cond.fieldLinkNest "JokePump" 111 "JokePump$History" "count" "I" "JokePump" ∈ lw_n := lw_nm (tin1 (List.mem_of_getElem? (i := 177) (by decide +kernel))) (by decide +kernel)
theorem fl_X7_111 : Fld RX7 111 0 2 := ⟨RX0, TX0, 3, "JokePump$History", rfl, ly_X0, by decide, (Or.inr ⟨_, q1_177⟩), rfl⟩
theorem q1_117 : Cond.fieldLinkNest "JokePump" 121 "JokePump$State" "jokes" "LJokePump$Jokes;" "JokePump" ∈ lw_n := lw_nm (tin1 (List.mem_of_getElem? (i := 117) (by decide +kernel))) (by decide +kernel)
theorem fl_X7_121 : Fld RX7 121 4 0 := ⟨RX4, TX4, 12, "JokePump$State", rfl, ly_X4, by decide, (Or.inr ⟨_, q1_117⟩), rfl⟩
theorem q1_49 : Cond.fieldLinkNest "JokePump" 125 "JokePump$Jokes" "count" "I" "JokePump" ∈ lw_n := lw_nm (tin1 (List.mem_of_getElem? (i := 49) (by decide +kernel))) (by decide +kernel)
theorem fl_X7_125 : Fld RX7 125 1 0 := ⟨RX1, TX1, 6, "JokePump$Jokes", rfl, ly_X1, by decide, (Or.inr ⟨_, q1_49⟩), rfl⟩
theorem q1_52 : Cond.fieldLinkNest "JokePump" 135 "JokePump$Jokes" "wells" "LJokePump$Row;" "JokePump" ∈ lw_n := lw_nm (tin1 (List.mem_of_getElem? (i := 52) (by decide +kernel))) (by decide +kernel)
theorem fl_X7_135 : Fld RX7 135 1 1 := ⟨RX1, TX1, 6, "JokePump$Jokes", rfl, ly_X1, by decide, (Or.inr ⟨_, q1_52⟩), rfl⟩
theorem q1_54 : Cond.fieldLinkNest "JokePump" 144 "JokePump$Jokes" "depths" "LJokePump$Row;" "JokePump" ∈ lw_n := lw_nm (tin1 (List.mem_of_getElem? (i := 54) (by decide +kernel))) (by decide +kernel)
theorem fl_X7_144 : Fld RX7 144 1 2 := ⟨RX1, TX1, 6, "JokePump$Jokes", rfl, ly_X1, by decide, (Or.inr ⟨_, q1_54⟩), rfl⟩
theorem q1_57 : Cond.fieldLinkNest "JokePump" 147 "JokePump$Jokes" "signs" "LJokePump$Row;" "JokePump" ∈ lw_n := lw_nm (tin1 (List.mem_of_getElem? (i := 57) (by decide +kernel))) (by decide +kernel)
theorem fl_X7_147 : Fld RX7 147 1 3 := ⟨RX1, TX1, 6, "JokePump$Jokes", rfl, ly_X1, by decide, (Or.inr ⟨_, q1_57⟩), rfl⟩
theorem q1_60 : Cond.fieldLinkNest "JokePump" 150 "JokePump$Jokes" "wits" "LJokePump$Row;" "JokePump" ∈ lw_n := lw_nm (tin1 (List.mem_of_getElem? (i := 60) (by decide +kernel))) (by decide +kernel)
theorem fl_X7_150 : Fld RX7 150 1 4 := ⟨RX1, TX1, 6, "JokePump$Jokes", rfl, ly_X1, by decide, (Or.inr ⟨_, q1_60⟩), rfl⟩
theorem q1_63 : Cond.fieldLinkNest "JokePump" 153 "JokePump$Jokes" "primed" "LJokePump$Row;" "JokePump" ∈ lw_n := lw_nm (tin1 (List.mem_of_getElem? (i := 63) (by decide +kernel))) (by decide +kernel)
theorem fl_X7_153 : Fld RX7 153 1 5 := ⟨RX1, TX1, 6, "JokePump$Jokes", rfl, ly_X1, by decide, (Or.inr ⟨_, q1_63⟩), rfl⟩
theorem q1_121 : Cond.fieldLinkNest "JokePump" 162 "JokePump$State" "buckets" "LJokePump$Row;" "JokePump" ∈ lw_n := lw_nm (tin1 (List.mem_of_getElem? (i := 121) (by decide +kernel))) (by decide +kernel)
theorem fl_X7_162 : Fld RX7 162 4 2 := ⟨RX4, TX4, 12, "JokePump$State", rfl, ly_X4, by decide, (Or.inr ⟨_, q1_121⟩), rfl⟩
theorem q1_119 : Cond.fieldLinkNest "JokePump" 171 "JokePump$State" "told" "LJokePump$Told;" "JokePump" ∈ lw_n := lw_nm (tin1 (List.mem_of_getElem? (i := 119) (by decide +kernel))) (by decide +kernel)
theorem fl_X7_171 : Fld RX7 171 4 1 := ⟨RX4, TX4, 12, "JokePump$State", rfl, ly_X4, by decide, (Or.inr ⟨_, q1_119⟩), rfl⟩
theorem q1_95 : Cond.fieldLinkNest "JokePump" 184 "JokePump$Told" "known" "LJokePump$Row;" "JokePump" ∈ lw_n := lw_nm (tin1 (List.mem_of_getElem? (i := 95) (by decide +kernel))) (by decide +kernel)
theorem fl_X7_184 : Fld RX7 184 6 5 := ⟨RX6, TX6, 6, "JokePump$Told", rfl, ly_X6, by decide, (Or.inr ⟨_, q1_95⟩), rfl⟩
theorem q1_88 : Cond.fieldLinkNest "JokePump" 207 "JokePump$Told" "sum" "F" "JokePump" ∈ lw_n := lw_nm (tin1 (List.mem_of_getElem? (i := 88) (by decide +kernel))) (by decide +kernel)
theorem fl_X7_207 : Fld RX7 207 6 1 := ⟨RX6, TX6, 6, "JokePump$Told", rfl, ly_X6, by decide, (Or.inr ⟨_, q1_88⟩), rfl⟩
theorem q1_86 : Cond.fieldLinkNest "JokePump" 215 "JokePump$Told" "count" "I" "JokePump" ∈ lw_n := lw_nm (tin1 (List.mem_of_getElem? (i := 86) (by decide +kernel))) (by decide +kernel)
theorem fl_X7_215 : Fld RX7 215 6 0 := ⟨RX6, TX6, 6, "JokePump$Told", rfl, ly_X6, by decide, (Or.inr ⟨_, q1_86⟩), rfl⟩
theorem q1_90 : Cond.fieldLinkNest "JokePump" 216 "JokePump$Told" "signs" "LJokePump$Row;" "JokePump" ∈ lw_n := lw_nm (tin1 (List.mem_of_getElem? (i := 90) (by decide +kernel))) (by decide +kernel)
theorem fl_X7_216 : Fld RX7 216 6 2 := ⟨RX6, TX6, 6, "JokePump$Told", rfl, ly_X6, by decide, (Or.inr ⟨_, q1_90⟩), rfl⟩
theorem q1_92 : Cond.fieldLinkNest "JokePump" 217 "JokePump$Told" "wells" "LJokePump$Row;" "JokePump" ∈ lw_n := lw_nm (tin1 (List.mem_of_getElem? (i := 92) (by decide +kernel))) (by decide +kernel)
theorem fl_X7_217 : Fld RX7 217 6 3 := ⟨RX6, TX6, 6, "JokePump$Told", rfl, ly_X6, by decide, (Or.inr ⟨_, q1_92⟩), rfl⟩
theorem q1_127 : Cond.fieldLinkNest "JokePump" 226 "JokePump$State" "reach" "I" "JokePump" ∈ lw_n := lw_nm (tin1 (List.mem_of_getElem? (i := 127) (by decide +kernel))) (by decide +kernel)
theorem fl_X7_226 : Fld RX7 226 4 5 := ⟨RX4, TX4, 12, "JokePump$State", rfl, ly_X4, by decide, (Or.inr ⟨_, q1_127⟩), rfl⟩
theorem fp_X7_226 : FldP RX7 226 4 5 .int := ⟨RX4, TX4, 12, "JokePump$State", tyX4, rfl, ly_X4, tyX4_ok, nmX4, by decide, (Or.inr ⟨_, q1_127⟩), rfl, rfl, by decide +kernel⟩
theorem q1_125 : Cond.fieldLinkNest "JokePump" 229 "JokePump$State" "length" "I" "JokePump" ∈ lw_n := lw_nm (tin1 (List.mem_of_getElem? (i := 125) (by decide +kernel))) (by decide +kernel)
theorem fl_X7_229 : Fld RX7 229 4 4 := ⟨RX4, TX4, 12, "JokePump$State", rfl, ly_X4, by decide, (Or.inr ⟨_, q1_125⟩), rfl⟩
theorem fp_X7_229 : FldP RX7 229 4 4 .int := ⟨RX4, TX4, 12, "JokePump$State", tyX4, rfl, ly_X4, tyX4_ok, nmX4, by decide, (Or.inr ⟨_, q1_125⟩), rfl, rfl, by decide +kernel⟩
theorem q1_129 : Cond.fieldLinkNest "JokePump" 235 "JokePump$State" "groans" "I" "JokePump" ∈ lw_n := lw_nm (tin1 (List.mem_of_getElem? (i := 129) (by decide +kernel))) (by decide +kernel)
theorem fl_X7_235 : Fld RX7 235 4 6 := ⟨RX4, TX4, 12, "JokePump$State", rfl, ly_X4, by decide, (Or.inr ⟨_, q1_129⟩), rfl⟩
theorem fp_X7_235 : FldP RX7 235 4 6 .int := ⟨RX4, TX4, 12, "JokePump$State", tyX4, rfl, ly_X4, tyX4_ok, nmX4, by decide, (Or.inr ⟨_, q1_129⟩), rfl, rfl, by decide +kernel⟩
theorem q1_123 : Cond.fieldLinkNest "JokePump" 241 "JokePump$State" "well" "I" "JokePump" ∈ lw_n := lw_nm (tin1 (List.mem_of_getElem? (i := 123) (by decide +kernel))) (by decide +kernel)
theorem fl_X7_241 : Fld RX7 241 4 3 := ⟨RX4, TX4, 12, "JokePump$State", rfl, ly_X4, by decide, (Or.inr ⟨_, q1_123⟩), rfl⟩
theorem fp_X7_241 : FldP RX7 241 4 3 .int := ⟨RX4, TX4, 12, "JokePump$State", tyX4, rfl, ly_X4, tyX4_ok, nmX4, by decide, (Or.inr ⟨_, q1_123⟩), rfl, rfl, by decide +kernel⟩
theorem q1_133 : Cond.fieldLinkNest "JokePump" 252 "JokePump$State" "came" "I" "JokePump" ∈ lw_n := lw_nm (tin1 (List.mem_of_getElem? (i := 133) (by decide +kernel))) (by decide +kernel)
theorem fl_X7_252 : Fld RX7 252 4 8 := ⟨RX4, TX4, 12, "JokePump$State", rfl, ly_X4, by decide, (Or.inr ⟨_, q1_133⟩), rfl⟩
theorem fp_X7_252 : FldP RX7 252 4 8 .int := ⟨RX4, TX4, 12, "JokePump$State", tyX4, rfl, ly_X4, tyX4_ok, nmX4, by decide, (Or.inr ⟨_, q1_133⟩), rfl, rfl, by decide +kernel⟩
theorem q1_135 : Cond.fieldLinkNest "JokePump" 255 "JokePump$State" "went" "I" "JokePump" ∈ lw_n := lw_nm (tin1 (List.mem_of_getElem? (i := 135) (by decide +kernel))) (by decide +kernel)
theorem fl_X7_255 : Fld RX7 255 4 9 := ⟨RX4, TX4, 12, "JokePump$State", rfl, ly_X4, by decide, (Or.inr ⟨_, q1_135⟩), rfl⟩
theorem fp_X7_255 : FldP RX7 255 4 9 .int := ⟨RX4, TX4, 12, "JokePump$State", tyX4, rfl, ly_X4, tyX4_ok, nmX4, by decide, (Or.inr ⟨_, q1_135⟩), rfl, rfl, by decide +kernel⟩
theorem q1_131 : Cond.fieldLinkNest "JokePump" 268 "JokePump$State" "drops" "I" "JokePump" ∈ lw_n := lw_nm (tin1 (List.mem_of_getElem? (i := 131) (by decide +kernel))) (by decide +kernel)
theorem fl_X7_268 : Fld RX7 268 4 7 := ⟨RX4, TX4, 12, "JokePump$State", rfl, ly_X4, by decide, (Or.inr ⟨_, q1_131⟩), rfl⟩
theorem fp_X7_268 : FldP RX7 268 4 7 .int := ⟨RX4, TX4, 12, "JokePump$State", tyX4, rfl, ly_X4, tyX4_ok, nmX4, by decide, (Or.inr ⟨_, q1_131⟩), rfl, rfl, by decide +kernel⟩
theorem q1_137 : Cond.fieldLinkNest "JokePump" 271 "JokePump$State" "strokesMade" "I" "JokePump" ∈ lw_n := lw_nm (tin1 (List.mem_of_getElem? (i := 137) (by decide +kernel))) (by decide +kernel)
theorem fl_X7_271 : Fld RX7 271 4 10 := ⟨RX4, TX4, 12, "JokePump$State", rfl, ly_X4, by decide, (Or.inr ⟨_, q1_137⟩), rfl⟩
theorem q1_139 : Cond.fieldLinkNest "JokePump" 274 "JokePump$State" "drained" "I" "JokePump" ∈ lw_n := lw_nm (tin1 (List.mem_of_getElem? (i := 139) (by decide +kernel))) (by decide +kernel)
theorem fl_X7_274 : Fld RX7 274 4 11 := ⟨RX4, TX4, 12, "JokePump$State", rfl, ly_X4, by decide, (Or.inr ⟨_, q1_139⟩), rfl⟩
theorem fp_X7_274 : FldP RX7 274 4 11 .int := ⟨RX4, TX4, 12, "JokePump$State", tyX4, rfl, ly_X4, tyX4_ok, nmX4, by decide, (Or.inr ⟨_, q1_139⟩), rfl, rfl, by decide +kernel⟩
theorem q1_194 : Cond.fieldLinkNest "JokePump" 280 "JokePump$Strip" "length" "I" "JokePump" ∈ lw_n := lw_nm (tin1 (List.mem_of_getElem? (i := 194) (by decide +kernel))) (by decide +kernel)
theorem fl_X7_280 : Fld RX7 280 5 1 := ⟨RX5, TX5, 2, "JokePump$Strip", rfl, ly_X5, by decide, (Or.inr ⟨_, q1_194⟩), rfl⟩
theorem q1_213 : Cond.fieldLinkNest "JokePump" 321 "JokePump$Reader" "count" "I" "JokePump" ∈ lw_n := lw_nm (tin1 (List.mem_of_getElem? (i := 213) (by decide +kernel))) (by decide +kernel)
theorem fl_X7_321 : Fld RX7 321 2 2 := ⟨RX2, TX2, 4, "JokePump$Reader", rfl, ly_X2, by decide, (Or.inr ⟨_, q1_213⟩), rfl⟩
theorem q1_210 : Cond.fieldLinkNest "JokePump" 335 "JokePump$Reader" "kinds" "LJokePump$Row;" "JokePump" ∈ lw_n := lw_nm (tin1 (List.mem_of_getElem? (i := 210) (by decide +kernel))) (by decide +kernel)
theorem fl_X7_335 : Fld RX7 335 2 0 := ⟨RX2, TX2, 4, "JokePump$Reader", rfl, ly_X2, by decide, (Or.inr ⟨_, q1_210⟩), rfl⟩
theorem q4_75 : Cond.fieldLink "JokePumpModel" 1 "JokePumpModel" "whyNow" "I" ∈ lw_g := lw_gm (tin4 (List.mem_of_getElem? (i := 75) (by decide +kernel))) (by decide +kernel)
theorem fl_X8_1 : Fld RX8 1 8 4 := ⟨RX8, TX8, 23, "JokePumpModel", rfl, ly_X8, by decide, (Or.inl q4_75), rfl⟩
theorem fp_X8_1 : FldP RX8 1 8 4 .int := ⟨RX8, TX8, 23, "JokePumpModel", tyX8, rfl, ly_X8, tyX8_ok, nmX8, by decide, (Or.inl q4_75), rfl, rfl, by decide +kernel⟩
theorem q4_76 : Cond.fieldLink "JokePumpModel" 7 "JokePumpModel" "detailNow" "I" ∈ lw_g := lw_gm (tin4 (List.mem_of_getElem? (i := 76) (by decide +kernel))) (by decide +kernel)
theorem fl_X8_7 : Fld RX8 7 8 5 := ⟨RX8, TX8, 23, "JokePumpModel", rfl, ly_X8, by decide, (Or.inl q4_76), rfl⟩
theorem fp_X8_7 : FldP RX8 7 8 5 .int := ⟨RX8, TX8, 23, "JokePumpModel", tyX8, rfl, ly_X8, tyX8_ok, nmX8, by decide, (Or.inl q4_76), rfl, rfl, by decide +kernel⟩
theorem q4_71 : Cond.fieldLink "JokePumpModel" 10 "JokePumpModel" "why" "I" ∈ lw_g := lw_gm (tin4 (List.mem_of_getElem? (i := 71) (by decide +kernel))) (by decide +kernel)
theorem fl_X8_10 : Fld RX8 10 8 0 := ⟨RX8, TX8, 23, "JokePumpModel", rfl, ly_X8, by decide, (Or.inl q4_71), rfl⟩
theorem fp_X8_10 : FldP RX8 10 8 0 .int := ⟨RX8, TX8, 23, "JokePumpModel", tyX8, rfl, ly_X8, tyX8_ok, nmX8, by decide, (Or.inl q4_71), rfl, rfl, by decide +kernel⟩
theorem q4_72 : Cond.fieldLink "JokePumpModel" 13 "JokePumpModel" "detail" "I" ∈ lw_g := lw_gm (tin4 (List.mem_of_getElem? (i := 72) (by decide +kernel))) (by decide +kernel)
theorem fl_X8_13 : Fld RX8 13 8 1 := ⟨RX8, TX8, 23, "JokePumpModel", rfl, ly_X8, by decide, (Or.inl q4_72), rfl⟩
theorem fp_X8_13 : FldP RX8 13 8 1 .int := ⟨RX8, TX8, 23, "JokePumpModel", tyX8, rfl, ly_X8, tyX8_ok, nmX8, by decide, (Or.inl q4_72), rfl, rfl, by decide +kernel⟩
theorem q4_73 : Cond.fieldLink "JokePumpModel" 16 "JokePumpModel" "whyBehind" "I" ∈ lw_g := lw_gm (tin4 (List.mem_of_getElem? (i := 73) (by decide +kernel))) (by decide +kernel)
theorem fl_X8_16 : Fld RX8 16 8 2 := ⟨RX8, TX8, 23, "JokePumpModel", rfl, ly_X8, by decide, (Or.inl q4_73), rfl⟩
theorem fp_X8_16 : FldP RX8 16 8 2 .int := ⟨RX8, TX8, 23, "JokePumpModel", tyX8, rfl, ly_X8, tyX8_ok, nmX8, by decide, (Or.inl q4_73), rfl, rfl, by decide +kernel⟩
theorem q4_74 : Cond.fieldLink "JokePumpModel" 23 "JokePumpModel" "detailBehind" "I" ∈ lw_g := lw_gm (tin4 (List.mem_of_getElem? (i := 74) (by decide +kernel))) (by decide +kernel)
theorem fl_X8_23 : Fld RX8 23 8 3 := ⟨RX8, TX8, 23, "JokePumpModel", rfl, ly_X8, by decide, (Or.inl q4_74), rfl⟩
theorem fp_X8_23 : FldP RX8 23 8 3 .int := ⟨RX8, TX8, 23, "JokePumpModel", tyX8, rfl, ly_X8, tyX8_ok, nmX8, by decide, (Or.inl q4_74), rfl, rfl, by decide +kernel⟩
theorem q4_77 : Cond.fieldLink "JokePumpModel" 32 "JokePumpModel" "w" "[I" ∈ lw_g := lw_gm (tin4 (List.mem_of_getElem? (i := 77) (by decide +kernel))) (by decide +kernel)
theorem fl_X8_32 : Fld RX8 32 8 6 := ⟨RX8, TX8, 23, "JokePumpModel", rfl, ly_X8, by decide, (Or.inl q4_77), rfl⟩
theorem q4_78 : Cond.fieldLink "JokePumpModel" 36 "JokePumpModel" "undos" "[I" ∈ lw_g := lw_gm (tin4 (List.mem_of_getElem? (i := 78) (by decide +kernel))) (by decide +kernel)
theorem fl_X8_36 : Fld RX8 36 8 7 := ⟨RX8, TX8, 23, "JokePumpModel", rfl, ly_X8, by decide, (Or.inl q4_78), rfl⟩
theorem q4_79 : Cond.fieldLink "JokePumpModel" 39 "JokePumpModel" "savedRow" "[I" ∈ lw_g := lw_gm (tin4 (List.mem_of_getElem? (i := 79) (by decide +kernel))) (by decide +kernel)
theorem fl_X8_39 : Fld RX8 39 8 8 := ⟨RX8, TX8, 23, "JokePumpModel", rfl, ly_X8, by decide, (Or.inl q4_79), rfl⟩
theorem q4_80 : Cond.fieldLink "JokePumpModel" 42 "JokePumpModel" "mind" "[I" ∈ lw_g := lw_gm (tin4 (List.mem_of_getElem? (i := 80) (by decide +kernel))) (by decide +kernel)
theorem fl_X8_42 : Fld RX8 42 8 9 := ⟨RX8, TX8, 23, "JokePumpModel", rfl, ly_X8, by decide, (Or.inl q4_80), rfl⟩
theorem q4_81 : Cond.fieldLink "JokePumpModel" 45 "JokePumpModel" "ahead" "[I" ∈ lw_g := lw_gm (tin4 (List.mem_of_getElem? (i := 81) (by decide +kernel))) (by decide +kernel)
theorem fl_X8_45 : Fld RX8 45 8 10 := ⟨RX8, TX8, 23, "JokePumpModel", rfl, ly_X8, by decide, (Or.inl q4_81), rfl⟩
theorem q4_85 : Cond.fieldLink "JokePumpModel" 48 "JokePumpModel" "line" "[C" ∈ lw_g := lw_gm (tin4 (List.mem_of_getElem? (i := 85) (by decide +kernel))) (by decide +kernel)
theorem fl_X8_48 : Fld RX8 48 8 14 := ⟨RX8, TX8, 23, "JokePumpModel", rfl, ly_X8, by decide, (Or.inl q4_85), rfl⟩
theorem q4_87 : Cond.fieldLink "JokePumpModel" 52 "JokePumpModel" "input" "[C" ∈ lw_g := lw_gm (tin4 (List.mem_of_getElem? (i := 87) (by decide +kernel))) (by decide +kernel)
theorem fl_X8_52 : Fld RX8 52 8 16 := ⟨RX8, TX8, 23, "JokePumpModel", rfl, ly_X8, by decide, (Or.inl q4_87), rfl⟩
theorem q4_90 : Cond.fieldLink "JokePumpModel" 55 "JokePumpModel" "faultAt" "I" ∈ lw_g := lw_gm (tin4 (List.mem_of_getElem? (i := 90) (by decide +kernel))) (by decide +kernel)
theorem fl_X8_55 : Fld RX8 55 8 19 := ⟨RX8, TX8, 23, "JokePumpModel", rfl, ly_X8, by decide, (Or.inl q4_90), rfl⟩
theorem fp_X8_55 : FldP RX8 55 8 19 .int := ⟨RX8, TX8, 23, "JokePumpModel", tyX8, rfl, ly_X8, tyX8_ok, nmX8, by decide, (Or.inl q4_90), rfl, rfl, by decide +kernel⟩
theorem q4_91 : Cond.fieldLink "JokePumpModel" 58 "JokePumpModel" "numbers" "[I" ∈ lw_g := lw_gm (tin4 (List.mem_of_getElem? (i := 91) (by decide +kernel))) (by decide +kernel)
theorem fl_X8_58 : Fld RX8 58 8 20 := ⟨RX8, TX8, 23, "JokePumpModel", rfl, ly_X8, by decide, (Or.inl q4_91), rfl⟩
theorem q4_82 : Cond.fieldLink "JokePumpModel" 61 "JokePumpModel" "changes" "I" ∈ lw_g := lw_gm (tin4 (List.mem_of_getElem? (i := 82) (by decide +kernel))) (by decide +kernel)
theorem fl_X8_61 : Fld RX8 61 8 11 := ⟨RX8, TX8, 23, "JokePumpModel", rfl, ly_X8, by decide, (Or.inl q4_82), rfl⟩
theorem fp_X8_61 : FldP RX8 61 8 11 .int := ⟨RX8, TX8, 23, "JokePumpModel", tyX8, rfl, ly_X8, tyX8_ok, nmX8, by decide, (Or.inl q4_82), rfl, rfl, by decide +kernel⟩
theorem q4_83 : Cond.fieldLink "JokePumpModel" 64 "JokePumpModel" "firstChange" "I" ∈ lw_g := lw_gm (tin4 (List.mem_of_getElem? (i := 83) (by decide +kernel))) (by decide +kernel)
theorem fl_X8_64 : Fld RX8 64 8 12 := ⟨RX8, TX8, 23, "JokePumpModel", rfl, ly_X8, by decide, (Or.inl q4_83), rfl⟩
theorem fp_X8_64 : FldP RX8 64 8 12 .int := ⟨RX8, TX8, 23, "JokePumpModel", tyX8, rfl, ly_X8, tyX8_ok, nmX8, by decide, (Or.inl q4_83), rfl, rfl, by decide +kernel⟩
theorem q4_88 : Cond.fieldLink "JokePumpModel" 218 "JokePumpModel" "inputMany" "I" ∈ lw_g := lw_gm (tin4 (List.mem_of_getElem? (i := 88) (by decide +kernel))) (by decide +kernel)
theorem fl_X8_218 : Fld RX8 218 8 17 := ⟨RX8, TX8, 23, "JokePumpModel", rfl, ly_X8, by decide, (Or.inl q4_88), rfl⟩
theorem fp_X8_218 : FldP RX8 218 8 17 .int := ⟨RX8, TX8, 23, "JokePumpModel", tyX8, rfl, ly_X8, tyX8_ok, nmX8, by decide, (Or.inl q4_88), rfl, rfl, by decide +kernel⟩
theorem q4_86 : Cond.fieldLink "JokePumpModel" 221 "JokePumpModel" "lineLength" "I" ∈ lw_g := lw_gm (tin4 (List.mem_of_getElem? (i := 86) (by decide +kernel))) (by decide +kernel)
theorem fl_X8_221 : Fld RX8 221 8 15 := ⟨RX8, TX8, 23, "JokePumpModel", rfl, ly_X8, by decide, (Or.inl q4_86), rfl⟩
theorem fp_X8_221 : FldP RX8 221 8 15 .int := ⟨RX8, TX8, 23, "JokePumpModel", tyX8, rfl, ly_X8, tyX8_ok, nmX8, by decide, (Or.inl q4_86), rfl, rfl, by decide +kernel⟩
theorem q4_89 : Cond.fieldLink "JokePumpModel" 233 "JokePumpModel" "inputAt" "I" ∈ lw_g := lw_gm (tin4 (List.mem_of_getElem? (i := 89) (by decide +kernel))) (by decide +kernel)
theorem fl_X8_233 : Fld RX8 233 8 18 := ⟨RX8, TX8, 23, "JokePumpModel", rfl, ly_X8, by decide, (Or.inl q4_89), rfl⟩
theorem fp_X8_233 : FldP RX8 233 8 18 .int := ⟨RX8, TX8, 23, "JokePumpModel", tyX8, rfl, ly_X8, tyX8_ok, nmX8, by decide, (Or.inl q4_89), rfl, rfl, by decide +kernel⟩
theorem q4_92 : Cond.fieldLink "JokePumpModel" 248 "JokePumpModel" "sort" "I" ∈ lw_g := lw_gm (tin4 (List.mem_of_getElem? (i := 92) (by decide +kernel))) (by decide +kernel)
theorem fl_X8_248 : Fld RX8 248 8 21 := ⟨RX8, TX8, 23, "JokePumpModel", rfl, ly_X8, by decide, (Or.inl q4_92), rfl⟩
theorem fp_X8_248 : FldP RX8 248 8 21 .int := ⟨RX8, TX8, 23, "JokePumpModel", tyX8, rfl, ly_X8, tyX8_ok, nmX8, by decide, (Or.inl q4_92), rfl, rfl, by decide +kernel⟩
theorem q4_93 : Cond.fieldLink "JokePumpModel" 270 "JokePumpModel" "done" "I" ∈ lw_g := lw_gm (tin4 (List.mem_of_getElem? (i := 93) (by decide +kernel))) (by decide +kernel)
theorem fl_X8_270 : Fld RX8 270 8 22 := ⟨RX8, TX8, 23, "JokePumpModel", rfl, ly_X8, by decide, (Or.inl q4_93), rfl⟩
theorem fp_X8_270 : FldP RX8 270 8 22 .int := ⟨RX8, TX8, 23, "JokePumpModel", tyX8, rfl, ly_X8, tyX8_ok, nmX8, by decide, (Or.inl q4_93), rfl, rfl, by decide +kernel⟩
theorem q4_84 : Cond.fieldLink "JokePumpModel" 291 "JokePumpModel" "isSaved" "Z" ∈ lw_g := lw_gm (tin4 (List.mem_of_getElem? (i := 84) (by decide +kernel))) (by decide +kernel)
theorem fl_X8_291 : Fld RX8 291 8 13 := ⟨RX8, TX8, 23, "JokePumpModel", rfl, ly_X8, by decide, (Or.inl q4_84), rfl⟩
theorem fp_X8_291 : FldP RX8 291 8 13 .boolean := ⟨RX8, TX8, 23, "JokePumpModel", tyX8, rfl, ly_X8, tyX8_ok, nmX8, by decide, (Or.inl q4_84), rfl, rfl, by decide +kernel⟩
theorem q2_22 : Cond.methodLink "JokePumpLaw" 13 ⟨"JokePump", "joke", "(IIII)I"⟩ ∈ lw_g := lw_gm (tin2 (List.mem_of_getElem? (i := 22) (by decide +kernel))) (by decide +kernel)
theorem q2_23 : Cond.instanceMethod ⟨"JokePump", "joke", "(IIII)I"⟩ ∈ lw_g := lw_gm (tin2 (List.mem_of_getElem? (i := 23) (by decide +kernel))) (by decide +kernel)
theorem q2_24 : Cond.selects "JokePump" ⟨"JokePump", "joke", "(IIII)I"⟩ ⟨"JokePump", "joke", "(IIII)I"⟩ ∈ lw_g := lw_gm (tin2 (List.mem_of_getElem? (i := 24) (by decide +kernel))) (by decide +kernel)
theorem q1_1 : Cond.initialized "JokePump" ∈ lw_g := lw_gm (tin1 (List.mem_of_getElem? (i := 1) (by decide +kernel))) (by decide +kernel)
theorem q2_25 : Cond.code ⟨"JokePump", "joke", "(IIII)I"⟩ prog_1_method_2_code 5 (some .int) ∈ lw_g := lw_gm (tin2 (List.mem_of_getElem? (i := 25) (by decide +kernel))) (by decide +kernel)
theorem lk_L_13 : LkV RL 13 yX7_joke cX7_joke 5 (some .int) 4 := LkV_of q2_22 q2_23 q2_24 q1_1 q2_25 ⟨by decide, by decide, by decide +kernel⟩
theorem q4_141 : Cond.methodLink "JokePumpLaw" 17 ⟨"JokePumpModel", "joke", "(IIII)I"⟩ ∈ lw_g := lw_gm (tin4 (List.mem_of_getElem? (i := 141) (by decide +kernel))) (by decide +kernel)
theorem q4_142 : Cond.instanceMethod ⟨"JokePumpModel", "joke", "(IIII)I"⟩ ∈ lw_g := lw_gm (tin4 (List.mem_of_getElem? (i := 142) (by decide +kernel))) (by decide +kernel)
theorem q4_143 : Cond.selects "JokePumpModel" ⟨"JokePumpModel", "joke", "(IIII)I"⟩ ⟨"JokePumpModel", "joke", "(IIII)I"⟩ ∈ lw_g := lw_gm (tin4 (List.mem_of_getElem? (i := 143) (by decide +kernel))) (by decide +kernel)
theorem q1_9 : Cond.initialized "JokePumpModel" ∈ lw_g := lw_gm (tin1 (List.mem_of_getElem? (i := 9) (by decide +kernel))) (by decide +kernel)
theorem q4_144 : Cond.code ⟨"JokePumpModel", "joke", "(IIII)I"⟩ prog_10_method_21_code 6 (some .int) ∈ lw_g := lw_gm (tin4 (List.mem_of_getElem? (i := 144) (by decide +kernel))) (by decide +kernel)
theorem lk_L_17 : LkV RL 17 yX8_joke cX8_joke 6 (some .int) 4 := LkV_of q4_141 q4_142 q4_143 q1_9 q4_144 ⟨by decide, by decide, by decide +kernel⟩
theorem q2_105 : Cond.methodLink "JokePumpLaw" 18 ⟨"JokePump", "prime", "(I)I"⟩ ∈ lw_g := lw_gm (tin2 (List.mem_of_getElem? (i := 105) (by decide +kernel))) (by decide +kernel)
theorem q2_106 : Cond.instanceMethod ⟨"JokePump", "prime", "(I)I"⟩ ∈ lw_g := lw_gm (tin2 (List.mem_of_getElem? (i := 106) (by decide +kernel))) (by decide +kernel)
theorem q2_107 : Cond.selects "JokePump" ⟨"JokePump", "prime", "(I)I"⟩ ⟨"JokePump", "prime", "(I)I"⟩ ∈ lw_g := lw_gm (tin2 (List.mem_of_getElem? (i := 107) (by decide +kernel))) (by decide +kernel)
theorem q2_108 : Cond.code ⟨"JokePump", "prime", "(I)I"⟩ prog_1_method_3_code 2 (some .int) ∈ lw_g := lw_gm (tin2 (List.mem_of_getElem? (i := 108) (by decide +kernel))) (by decide +kernel)
theorem lk_L_18 : LkV RL 18 yX7_prime cX7_prime 2 (some .int) 1 := LkV_of q2_105 q2_106 q2_107 q1_1 q2_108 ⟨by decide, by decide, by decide +kernel⟩
theorem q4_196 : Cond.methodLink "JokePumpLaw" 22 ⟨"JokePumpModel", "prime", "(I)I"⟩ ∈ lw_g := lw_gm (tin4 (List.mem_of_getElem? (i := 196) (by decide +kernel))) (by decide +kernel)
theorem q4_197 : Cond.instanceMethod ⟨"JokePumpModel", "prime", "(I)I"⟩ ∈ lw_g := lw_gm (tin4 (List.mem_of_getElem? (i := 197) (by decide +kernel))) (by decide +kernel)
theorem q4_198 : Cond.selects "JokePumpModel" ⟨"JokePumpModel", "prime", "(I)I"⟩ ⟨"JokePumpModel", "prime", "(I)I"⟩ ∈ lw_g := lw_gm (tin4 (List.mem_of_getElem? (i := 198) (by decide +kernel))) (by decide +kernel)
theorem q4_199 : Cond.code ⟨"JokePumpModel", "prime", "(I)I"⟩ prog_10_method_24_code 3 (some .int) ∈ lw_g := lw_gm (tin4 (List.mem_of_getElem? (i := 199) (by decide +kernel))) (by decide +kernel)
theorem lk_L_22 : LkV RL 22 yX8_prime cX8_prime 3 (some .int) 1 := LkV_of q4_196 q4_197 q4_198 q1_9 q4_199 ⟨by decide, by decide, by decide +kernel⟩
theorem q2_118 : Cond.methodLink "JokePumpLaw" 23 ⟨"JokePump", "drop", "(I)I"⟩ ∈ lw_g := lw_gm (tin2 (List.mem_of_getElem? (i := 118) (by decide +kernel))) (by decide +kernel)
theorem q2_119 : Cond.instanceMethod ⟨"JokePump", "drop", "(I)I"⟩ ∈ lw_g := lw_gm (tin2 (List.mem_of_getElem? (i := 119) (by decide +kernel))) (by decide +kernel)
theorem q2_120 : Cond.selects "JokePump" ⟨"JokePump", "drop", "(I)I"⟩ ⟨"JokePump", "drop", "(I)I"⟩ ∈ lw_g := lw_gm (tin2 (List.mem_of_getElem? (i := 120) (by decide +kernel))) (by decide +kernel)
theorem q2_121 : Cond.code ⟨"JokePump", "drop", "(I)I"⟩ prog_1_method_4_code 2 (some .int) ∈ lw_g := lw_gm (tin2 (List.mem_of_getElem? (i := 121) (by decide +kernel))) (by decide +kernel)
theorem lk_L_23 : LkV RL 23 yX7_drop cX7_drop 2 (some .int) 1 := LkV_of q2_118 q2_119 q2_120 q1_1 q2_121 ⟨by decide, by decide, by decide +kernel⟩
theorem q4_212 : Cond.methodLink "JokePumpLaw" 26 ⟨"JokePumpModel", "drop", "(I)I"⟩ ∈ lw_g := lw_gm (tin4 (List.mem_of_getElem? (i := 212) (by decide +kernel))) (by decide +kernel)
theorem q4_213 : Cond.instanceMethod ⟨"JokePumpModel", "drop", "(I)I"⟩ ∈ lw_g := lw_gm (tin4 (List.mem_of_getElem? (i := 213) (by decide +kernel))) (by decide +kernel)
theorem q4_214 : Cond.selects "JokePumpModel" ⟨"JokePumpModel", "drop", "(I)I"⟩ ⟨"JokePumpModel", "drop", "(I)I"⟩ ∈ lw_g := lw_gm (tin4 (List.mem_of_getElem? (i := 214) (by decide +kernel))) (by decide +kernel)
theorem q4_215 : Cond.code ⟨"JokePumpModel", "drop", "(I)I"⟩ prog_10_method_28_code 3 (some .int) ∈ lw_g := lw_gm (tin4 (List.mem_of_getElem? (i := 215) (by decide +kernel))) (by decide +kernel)
theorem lk_L_26 : LkV RL 26 yX8_drop cX8_drop 3 (some .int) 1 := LkV_of q4_212 q4_213 q4_214 q1_9 q4_215 ⟨by decide, by decide, by decide +kernel⟩
theorem q2_135 : Cond.methodLink "JokePumpLaw" 27 ⟨"JokePump", "drain", "(I)I"⟩ ∈ lw_g := lw_gm (tin2 (List.mem_of_getElem? (i := 135) (by decide +kernel))) (by decide +kernel)
theorem q2_136 : Cond.instanceMethod ⟨"JokePump", "drain", "(I)I"⟩ ∈ lw_g := lw_gm (tin2 (List.mem_of_getElem? (i := 136) (by decide +kernel))) (by decide +kernel)
theorem q2_137 : Cond.selects "JokePump" ⟨"JokePump", "drain", "(I)I"⟩ ⟨"JokePump", "drain", "(I)I"⟩ ∈ lw_g := lw_gm (tin2 (List.mem_of_getElem? (i := 137) (by decide +kernel))) (by decide +kernel)
theorem q2_138 : Cond.code ⟨"JokePump", "drain", "(I)I"⟩ prog_1_method_5_code 2 (some .int) ∈ lw_g := lw_gm (tin2 (List.mem_of_getElem? (i := 138) (by decide +kernel))) (by decide +kernel)
theorem lk_L_27 : LkV RL 27 yX7_drain cX7_drain 2 (some .int) 1 := LkV_of q2_135 q2_136 q2_137 q1_1 q2_138 ⟨by decide, by decide, by decide +kernel⟩
theorem q4_228 : Cond.methodLink "JokePumpLaw" 30 ⟨"JokePumpModel", "drain", "(I)I"⟩ ∈ lw_g := lw_gm (tin4 (List.mem_of_getElem? (i := 228) (by decide +kernel))) (by decide +kernel)
theorem q4_229 : Cond.instanceMethod ⟨"JokePumpModel", "drain", "(I)I"⟩ ∈ lw_g := lw_gm (tin4 (List.mem_of_getElem? (i := 229) (by decide +kernel))) (by decide +kernel)
theorem q4_230 : Cond.selects "JokePumpModel" ⟨"JokePumpModel", "drain", "(I)I"⟩ ⟨"JokePumpModel", "drain", "(I)I"⟩ ∈ lw_g := lw_gm (tin4 (List.mem_of_getElem? (i := 230) (by decide +kernel))) (by decide +kernel)
theorem q4_231 : Cond.code ⟨"JokePumpModel", "drain", "(I)I"⟩ prog_10_method_31_code 3 (some .int) ∈ lw_g := lw_gm (tin4 (List.mem_of_getElem? (i := 231) (by decide +kernel))) (by decide +kernel)
theorem lk_L_30 : LkV RL 30 yX8_drain cX8_drain 3 (some .int) 1 := LkV_of q4_228 q4_229 q4_230 q1_9 q4_231 ⟨by decide, by decide, by decide +kernel⟩
theorem q2_144 : Cond.methodLink "JokePumpLaw" 31 ⟨"JokePump", "stroke", "(I)I"⟩ ∈ lw_g := lw_gm (tin2 (List.mem_of_getElem? (i := 144) (by decide +kernel))) (by decide +kernel)
theorem q2_145 : Cond.instanceMethod ⟨"JokePump", "stroke", "(I)I"⟩ ∈ lw_g := lw_gm (tin2 (List.mem_of_getElem? (i := 145) (by decide +kernel))) (by decide +kernel)
theorem q2_146 : Cond.selects "JokePump" ⟨"JokePump", "stroke", "(I)I"⟩ ⟨"JokePump", "stroke", "(I)I"⟩ ∈ lw_g := lw_gm (tin2 (List.mem_of_getElem? (i := 146) (by decide +kernel))) (by decide +kernel)
theorem q2_147 : Cond.code ⟨"JokePump", "stroke", "(I)I"⟩ prog_1_method_6_code 2 (some .int) ∈ lw_g := lw_gm (tin2 (List.mem_of_getElem? (i := 147) (by decide +kernel))) (by decide +kernel)
theorem lk_L_31 : LkV RL 31 yX7_stroke cX7_stroke 2 (some .int) 1 := LkV_of q2_144 q2_145 q2_146 q1_1 q2_147 ⟨by decide, by decide, by decide +kernel⟩
theorem q5_0 : Cond.methodLink "JokePumpLaw" 34 ⟨"JokePumpModel", "stroke", "(I)I"⟩ ∈ lw_g := lw_gm (tin5 (List.mem_of_getElem? (i := 0) (by decide +kernel))) (by decide +kernel)
theorem q5_1 : Cond.instanceMethod ⟨"JokePumpModel", "stroke", "(I)I"⟩ ∈ lw_g := lw_gm (tin5 (List.mem_of_getElem? (i := 1) (by decide +kernel))) (by decide +kernel)
theorem q5_2 : Cond.selects "JokePumpModel" ⟨"JokePumpModel", "stroke", "(I)I"⟩ ⟨"JokePumpModel", "stroke", "(I)I"⟩ ∈ lw_g := lw_gm (tin5 (List.mem_of_getElem? (i := 2) (by decide +kernel))) (by decide +kernel)
theorem q5_3 : Cond.code ⟨"JokePumpModel", "stroke", "(I)I"⟩ prog_10_method_34_code 3 (some .int) ∈ lw_g := lw_gm (tin5 (List.mem_of_getElem? (i := 3) (by decide +kernel))) (by decide +kernel)
theorem lk_L_34 : LkV RL 34 yX8_stroke cX8_stroke 3 (some .int) 1 := LkV_of q5_0 q5_1 q5_2 q1_9 q5_3 ⟨by decide, by decide, by decide +kernel⟩
theorem q2_152 : Cond.methodLink "JokePumpLaw" 35 ⟨"JokePump", "bucket", "(II)I"⟩ ∈ lw_g := lw_gm (tin2 (List.mem_of_getElem? (i := 152) (by decide +kernel))) (by decide +kernel)
theorem q2_153 : Cond.instanceMethod ⟨"JokePump", "bucket", "(II)I"⟩ ∈ lw_g := lw_gm (tin2 (List.mem_of_getElem? (i := 153) (by decide +kernel))) (by decide +kernel)
theorem q2_154 : Cond.selects "JokePump" ⟨"JokePump", "bucket", "(II)I"⟩ ⟨"JokePump", "bucket", "(II)I"⟩ ∈ lw_g := lw_gm (tin2 (List.mem_of_getElem? (i := 154) (by decide +kernel))) (by decide +kernel)
theorem q2_155 : Cond.code ⟨"JokePump", "bucket", "(II)I"⟩ prog_1_method_7_code 3 (some .int) ∈ lw_g := lw_gm (tin2 (List.mem_of_getElem? (i := 155) (by decide +kernel))) (by decide +kernel)
theorem lk_L_35 : LkV RL 35 yX7_bucket cX7_bucket 3 (some .int) 2 := LkV_of q2_152 q2_153 q2_154 q1_1 q2_155 ⟨by decide, by decide, by decide +kernel⟩
theorem q5_12 : Cond.methodLink "JokePumpLaw" 39 ⟨"JokePumpModel", "bucket", "(II)I"⟩ ∈ lw_g := lw_gm (tin5 (List.mem_of_getElem? (i := 12) (by decide +kernel))) (by decide +kernel)
theorem q5_13 : Cond.instanceMethod ⟨"JokePumpModel", "bucket", "(II)I"⟩ ∈ lw_g := lw_gm (tin5 (List.mem_of_getElem? (i := 13) (by decide +kernel))) (by decide +kernel)
theorem q5_14 : Cond.selects "JokePumpModel" ⟨"JokePumpModel", "bucket", "(II)I"⟩ ⟨"JokePumpModel", "bucket", "(II)I"⟩ ∈ lw_g := lw_gm (tin5 (List.mem_of_getElem? (i := 14) (by decide +kernel))) (by decide +kernel)
theorem q5_15 : Cond.code ⟨"JokePumpModel", "bucket", "(II)I"⟩ prog_10_method_36_code 4 (some .int) ∈ lw_g := lw_gm (tin5 (List.mem_of_getElem? (i := 15) (by decide +kernel))) (by decide +kernel)
theorem lk_L_39 : LkV RL 39 yX8_bucket cX8_bucket 4 (some .int) 2 := LkV_of q5_12 q5_13 q5_14 q1_9 q5_15 ⟨by decide, by decide, by decide +kernel⟩
theorem q2_160 : Cond.methodLink "JokePumpLaw" 40 ⟨"JokePump", "go", "(I)I"⟩ ∈ lw_g := lw_gm (tin2 (List.mem_of_getElem? (i := 160) (by decide +kernel))) (by decide +kernel)
theorem q2_161 : Cond.instanceMethod ⟨"JokePump", "go", "(I)I"⟩ ∈ lw_g := lw_gm (tin2 (List.mem_of_getElem? (i := 161) (by decide +kernel))) (by decide +kernel)
theorem q2_162 : Cond.selects "JokePump" ⟨"JokePump", "go", "(I)I"⟩ ⟨"JokePump", "go", "(I)I"⟩ ∈ lw_g := lw_gm (tin2 (List.mem_of_getElem? (i := 162) (by decide +kernel))) (by decide +kernel)
theorem q2_163 : Cond.code ⟨"JokePump", "go", "(I)I"⟩ prog_1_method_8_code 2 (some .int) ∈ lw_g := lw_gm (tin2 (List.mem_of_getElem? (i := 163) (by decide +kernel))) (by decide +kernel)
theorem lk_L_40 : LkV RL 40 yX7_go cX7_go 2 (some .int) 1 := LkV_of q2_160 q2_161 q2_162 q1_1 q2_163 ⟨by decide, by decide, by decide +kernel⟩
theorem q5_20 : Cond.methodLink "JokePumpLaw" 43 ⟨"JokePumpModel", "go", "(I)I"⟩ ∈ lw_g := lw_gm (tin5 (List.mem_of_getElem? (i := 20) (by decide +kernel))) (by decide +kernel)
theorem q5_21 : Cond.instanceMethod ⟨"JokePumpModel", "go", "(I)I"⟩ ∈ lw_g := lw_gm (tin5 (List.mem_of_getElem? (i := 21) (by decide +kernel))) (by decide +kernel)
theorem q5_22 : Cond.selects "JokePumpModel" ⟨"JokePumpModel", "go", "(I)I"⟩ ⟨"JokePumpModel", "go", "(I)I"⟩ ∈ lw_g := lw_gm (tin5 (List.mem_of_getElem? (i := 22) (by decide +kernel))) (by decide +kernel)
theorem q5_23 : Cond.code ⟨"JokePumpModel", "go", "(I)I"⟩ prog_10_method_39_code 3 (some .int) ∈ lw_g := lw_gm (tin5 (List.mem_of_getElem? (i := 23) (by decide +kernel))) (by decide +kernel)
theorem lk_L_43 : LkV RL 43 yX8_go cX8_go 3 (some .int) 1 := LkV_of q5_20 q5_21 q5_22 q1_9 q5_23 ⟨by decide, by decide, by decide +kernel⟩
theorem q2_168 : Cond.methodLink "JokePumpLaw" 44 ⟨"JokePump", "pump", "(I)I"⟩ ∈ lw_g := lw_gm (tin2 (List.mem_of_getElem? (i := 168) (by decide +kernel))) (by decide +kernel)
theorem q2_169 : Cond.instanceMethod ⟨"JokePump", "pump", "(I)I"⟩ ∈ lw_g := lw_gm (tin2 (List.mem_of_getElem? (i := 169) (by decide +kernel))) (by decide +kernel)
theorem q2_170 : Cond.selects "JokePump" ⟨"JokePump", "pump", "(I)I"⟩ ⟨"JokePump", "pump", "(I)I"⟩ ∈ lw_g := lw_gm (tin2 (List.mem_of_getElem? (i := 170) (by decide +kernel))) (by decide +kernel)
theorem q2_171 : Cond.code ⟨"JokePump", "pump", "(I)I"⟩ prog_1_method_9_code 2 (some .int) ∈ lw_g := lw_gm (tin2 (List.mem_of_getElem? (i := 171) (by decide +kernel))) (by decide +kernel)
theorem lk_L_44 : LkV RL 44 yX7_pump cX7_pump 2 (some .int) 1 := LkV_of q2_168 q2_169 q2_170 q1_1 q2_171 ⟨by decide, by decide, by decide +kernel⟩
theorem q5_32 : Cond.methodLink "JokePumpLaw" 47 ⟨"JokePumpModel", "pump", "(I)I"⟩ ∈ lw_g := lw_gm (tin5 (List.mem_of_getElem? (i := 32) (by decide +kernel))) (by decide +kernel)
theorem q5_33 : Cond.instanceMethod ⟨"JokePumpModel", "pump", "(I)I"⟩ ∈ lw_g := lw_gm (tin5 (List.mem_of_getElem? (i := 33) (by decide +kernel))) (by decide +kernel)
theorem q5_34 : Cond.selects "JokePumpModel" ⟨"JokePumpModel", "pump", "(I)I"⟩ ⟨"JokePumpModel", "pump", "(I)I"⟩ ∈ lw_g := lw_gm (tin5 (List.mem_of_getElem? (i := 34) (by decide +kernel))) (by decide +kernel)
theorem q5_35 : Cond.code ⟨"JokePumpModel", "pump", "(I)I"⟩ prog_10_method_46_code 3 (some .int) ∈ lw_g := lw_gm (tin5 (List.mem_of_getElem? (i := 35) (by decide +kernel))) (by decide +kernel)
theorem lk_L_47 : LkV RL 47 yX8_pump cX8_pump 3 (some .int) 1 := LkV_of q5_32 q5_33 q5_34 q1_9 q5_35 ⟨by decide, by decide, by decide +kernel⟩
theorem q3_106 : Cond.methodLink "JokePumpLaw" 48 ⟨"JokePump", "jokeOf", "(II)I"⟩ ∈ lw_g := lw_gm (tin3 (List.mem_of_getElem? (i := 106) (by decide +kernel))) (by decide +kernel)
theorem q3_107 : Cond.instanceMethod ⟨"JokePump", "jokeOf", "(II)I"⟩ ∈ lw_g := lw_gm (tin3 (List.mem_of_getElem? (i := 107) (by decide +kernel))) (by decide +kernel)
theorem q3_108 : Cond.selects "JokePump" ⟨"JokePump", "jokeOf", "(II)I"⟩ ⟨"JokePump", "jokeOf", "(II)I"⟩ ∈ lw_g := lw_gm (tin3 (List.mem_of_getElem? (i := 108) (by decide +kernel))) (by decide +kernel)
theorem q3_109 : Cond.code ⟨"JokePump", "jokeOf", "(II)I"⟩ prog_1_method_14_code 4 (some .int) ∈ lw_g := lw_gm (tin3 (List.mem_of_getElem? (i := 109) (by decide +kernel))) (by decide +kernel)
theorem lk_L_48 : LkV RL 48 yX7_jokeOf cX7_jokeOf 4 (some .int) 2 := LkV_of q3_106 q3_107 q3_108 q1_1 q3_109 ⟨by decide, by decide, by decide +kernel⟩
theorem q5_82 : Cond.methodLink "JokePumpLaw" 51 ⟨"JokePumpModel", "jokeOf", "(II)I"⟩ ∈ lw_g := lw_gm (tin5 (List.mem_of_getElem? (i := 82) (by decide +kernel))) (by decide +kernel)
theorem q5_83 : Cond.instanceMethod ⟨"JokePumpModel", "jokeOf", "(II)I"⟩ ∈ lw_g := lw_gm (tin5 (List.mem_of_getElem? (i := 83) (by decide +kernel))) (by decide +kernel)
theorem q5_84 : Cond.selects "JokePumpModel" ⟨"JokePumpModel", "jokeOf", "(II)I"⟩ ⟨"JokePumpModel", "jokeOf", "(II)I"⟩ ∈ lw_g := lw_gm (tin5 (List.mem_of_getElem? (i := 84) (by decide +kernel))) (by decide +kernel)
theorem q5_85 : Cond.code ⟨"JokePumpModel", "jokeOf", "(II)I"⟩ prog_10_method_47_code 3 (some .int) ∈ lw_g := lw_gm (tin5 (List.mem_of_getElem? (i := 85) (by decide +kernel))) (by decide +kernel)
theorem lk_L_51 : LkV RL 51 yX8_jokeOf cX8_jokeOf 3 (some .int) 2 := LkV_of q5_82 q5_83 q5_84 q1_9 q5_85 ⟨by decide, by decide, by decide +kernel⟩
theorem q3_111 : Cond.methodLink "JokePumpLaw" 52 ⟨"JokePump", "wellOf", "(II)I"⟩ ∈ lw_g := lw_gm (tin3 (List.mem_of_getElem? (i := 111) (by decide +kernel))) (by decide +kernel)
theorem q3_112 : Cond.instanceMethod ⟨"JokePump", "wellOf", "(II)I"⟩ ∈ lw_g := lw_gm (tin3 (List.mem_of_getElem? (i := 112) (by decide +kernel))) (by decide +kernel)
theorem q3_113 : Cond.selects "JokePump" ⟨"JokePump", "wellOf", "(II)I"⟩ ⟨"JokePump", "wellOf", "(II)I"⟩ ∈ lw_g := lw_gm (tin3 (List.mem_of_getElem? (i := 113) (by decide +kernel))) (by decide +kernel)
theorem q3_114 : Cond.code ⟨"JokePump", "wellOf", "(II)I"⟩ prog_1_method_15_code 3 (some .int) ∈ lw_g := lw_gm (tin3 (List.mem_of_getElem? (i := 114) (by decide +kernel))) (by decide +kernel)
theorem lk_L_52 : LkV RL 52 yX7_wellOf cX7_wellOf 3 (some .int) 2 := LkV_of q3_111 q3_112 q3_113 q1_1 q3_114 ⟨by decide, by decide, by decide +kernel⟩
theorem q5_86 : Cond.methodLink "JokePumpLaw" 55 ⟨"JokePumpModel", "wellOf", "(II)I"⟩ ∈ lw_g := lw_gm (tin5 (List.mem_of_getElem? (i := 86) (by decide +kernel))) (by decide +kernel)
theorem q5_87 : Cond.instanceMethod ⟨"JokePumpModel", "wellOf", "(II)I"⟩ ∈ lw_g := lw_gm (tin5 (List.mem_of_getElem? (i := 87) (by decide +kernel))) (by decide +kernel)
theorem q5_88 : Cond.selects "JokePumpModel" ⟨"JokePumpModel", "wellOf", "(II)I"⟩ ⟨"JokePumpModel", "wellOf", "(II)I"⟩ ∈ lw_g := lw_gm (tin5 (List.mem_of_getElem? (i := 88) (by decide +kernel))) (by decide +kernel)
theorem q5_89 : Cond.code ⟨"JokePumpModel", "wellOf", "(II)I"⟩ prog_10_method_48_code 3 (some .int) ∈ lw_g := lw_gm (tin5 (List.mem_of_getElem? (i := 89) (by decide +kernel))) (by decide +kernel)
theorem lk_L_55 : LkV RL 55 yX8_wellOf cX8_wellOf 3 (some .int) 2 := LkV_of q5_86 q5_87 q5_88 q1_9 q5_89 ⟨by decide, by decide, by decide +kernel⟩
theorem q3_125 : Cond.methodLink "JokePumpLaw" 56 ⟨"JokePump", "isKnown", "(I)I"⟩ ∈ lw_g := lw_gm (tin3 (List.mem_of_getElem? (i := 125) (by decide +kernel))) (by decide +kernel)
theorem q3_126 : Cond.instanceMethod ⟨"JokePump", "isKnown", "(I)I"⟩ ∈ lw_g := lw_gm (tin3 (List.mem_of_getElem? (i := 126) (by decide +kernel))) (by decide +kernel)
theorem q3_127 : Cond.selects "JokePump" ⟨"JokePump", "isKnown", "(I)I"⟩ ⟨"JokePump", "isKnown", "(I)I"⟩ ∈ lw_g := lw_gm (tin3 (List.mem_of_getElem? (i := 127) (by decide +kernel))) (by decide +kernel)
theorem q3_128 : Cond.code ⟨"JokePump", "isKnown", "(I)I"⟩ prog_1_method_16_code 2 (some .int) ∈ lw_g := lw_gm (tin3 (List.mem_of_getElem? (i := 128) (by decide +kernel))) (by decide +kernel)
theorem lk_L_56 : LkV RL 56 yX7_isKnown cX7_isKnown 2 (some .int) 1 := LkV_of q3_125 q3_126 q3_127 q1_1 q3_128 ⟨by decide, by decide, by decide +kernel⟩
theorem q5_90 : Cond.methodLink "JokePumpLaw" 59 ⟨"JokePumpModel", "isKnown", "(I)I"⟩ ∈ lw_g := lw_gm (tin5 (List.mem_of_getElem? (i := 90) (by decide +kernel))) (by decide +kernel)
theorem q5_91 : Cond.instanceMethod ⟨"JokePumpModel", "isKnown", "(I)I"⟩ ∈ lw_g := lw_gm (tin5 (List.mem_of_getElem? (i := 91) (by decide +kernel))) (by decide +kernel)
theorem q5_92 : Cond.selects "JokePumpModel" ⟨"JokePumpModel", "isKnown", "(I)I"⟩ ⟨"JokePumpModel", "isKnown", "(I)I"⟩ ∈ lw_g := lw_gm (tin5 (List.mem_of_getElem? (i := 92) (by decide +kernel))) (by decide +kernel)
theorem q5_93 : Cond.code ⟨"JokePumpModel", "isKnown", "(I)I"⟩ prog_10_method_49_code 2 (some .int) ∈ lw_g := lw_gm (tin5 (List.mem_of_getElem? (i := 93) (by decide +kernel))) (by decide +kernel)
theorem lk_L_59 : LkV RL 59 yX8_isKnown cX8_isKnown 2 (some .int) 1 := LkV_of q5_90 q5_91 q5_92 q1_9 q5_93 ⟨by decide, by decide, by decide +kernel⟩
theorem q3_166 : Cond.methodLink "JokePumpLaw" 60 ⟨"JokePump", "laughBits", "(II)I"⟩ ∈ lw_g := lw_gm (tin3 (List.mem_of_getElem? (i := 166) (by decide +kernel))) (by decide +kernel)
theorem q3_167 : Cond.instanceMethod ⟨"JokePump", "laughBits", "(II)I"⟩ ∈ lw_g := lw_gm (tin3 (List.mem_of_getElem? (i := 167) (by decide +kernel))) (by decide +kernel)
theorem q3_168 : Cond.selects "JokePump" ⟨"JokePump", "laughBits", "(II)I"⟩ ⟨"JokePump", "laughBits", "(II)I"⟩ ∈ lw_g := lw_gm (tin3 (List.mem_of_getElem? (i := 168) (by decide +kernel))) (by decide +kernel)
theorem q3_169 : Cond.code ⟨"JokePump", "laughBits", "(II)I"⟩ prog_1_method_21_code 3 (some .int) ∈ lw_g := lw_gm (tin3 (List.mem_of_getElem? (i := 169) (by decide +kernel))) (by decide +kernel)
theorem lk_L_60 : LkV RL 60 yX7_laughBits cX7_laughBits 3 (some .int) 2 := LkV_of q3_166 q3_167 q3_168 q1_1 q3_169 ⟨by decide, by decide, by decide +kernel⟩
theorem q5_94 : Cond.methodLink "JokePumpLaw" 63 ⟨"JokePumpModel", "laughBits", "(II)I"⟩ ∈ lw_g := lw_gm (tin5 (List.mem_of_getElem? (i := 94) (by decide +kernel))) (by decide +kernel)
theorem q5_95 : Cond.instanceMethod ⟨"JokePumpModel", "laughBits", "(II)I"⟩ ∈ lw_g := lw_gm (tin5 (List.mem_of_getElem? (i := 95) (by decide +kernel))) (by decide +kernel)
theorem q5_96 : Cond.selects "JokePumpModel" ⟨"JokePumpModel", "laughBits", "(II)I"⟩ ⟨"JokePumpModel", "laughBits", "(II)I"⟩ ∈ lw_g := lw_gm (tin5 (List.mem_of_getElem? (i := 96) (by decide +kernel))) (by decide +kernel)
theorem q5_97 : Cond.code ⟨"JokePumpModel", "laughBits", "(II)I"⟩ prog_10_method_50_code 3 (some .int) ∈ lw_g := lw_gm (tin5 (List.mem_of_getElem? (i := 97) (by decide +kernel))) (by decide +kernel)
theorem lk_L_63 : LkV RL 63 yX8_laughBits cX8_laughBits 3 (some .int) 2 := LkV_of q5_94 q5_95 q5_96 q1_9 q5_97 ⟨by decide, by decide, by decide +kernel⟩
theorem q3_174 : Cond.methodLink "JokePumpLaw" 64 ⟨"JokePump", "laughs", "()F"⟩ ∈ lw_g := lw_gm (tin3 (List.mem_of_getElem? (i := 174) (by decide +kernel))) (by decide +kernel)
theorem q3_175 : Cond.instanceMethod ⟨"JokePump", "laughs", "()F"⟩ ∈ lw_g := lw_gm (tin3 (List.mem_of_getElem? (i := 175) (by decide +kernel))) (by decide +kernel)
theorem q3_176 : Cond.selects "JokePump" ⟨"JokePump", "laughs", "()F"⟩ ⟨"JokePump", "laughs", "()F"⟩ ∈ lw_g := lw_gm (tin3 (List.mem_of_getElem? (i := 176) (by decide +kernel))) (by decide +kernel)
theorem q3_177 : Cond.code ⟨"JokePump", "laughs", "()F"⟩ prog_1_method_22_code 1 (some .float) ∈ lw_g := lw_gm (tin3 (List.mem_of_getElem? (i := 177) (by decide +kernel))) (by decide +kernel)
theorem lk_L_64 : LkV RL 64 yX7_laughs cX7_laughs 1 (some .float) 0 := LkV_of q3_174 q3_175 q3_176 q1_1 q3_177 ⟨by decide, by decide, by decide +kernel⟩
theorem q5_98 : Cond.methodLink "JokePumpLaw" 68 ⟨"JokePumpModel", "laughs", "()F"⟩ ∈ lw_g := lw_gm (tin5 (List.mem_of_getElem? (i := 98) (by decide +kernel))) (by decide +kernel)
theorem q5_99 : Cond.instanceMethod ⟨"JokePumpModel", "laughs", "()F"⟩ ∈ lw_g := lw_gm (tin5 (List.mem_of_getElem? (i := 99) (by decide +kernel))) (by decide +kernel)
theorem q5_100 : Cond.selects "JokePumpModel" ⟨"JokePumpModel", "laughs", "()F"⟩ ⟨"JokePumpModel", "laughs", "()F"⟩ ∈ lw_g := lw_gm (tin5 (List.mem_of_getElem? (i := 100) (by decide +kernel))) (by decide +kernel)
theorem q5_101 : Cond.code ⟨"JokePumpModel", "laughs", "()F"⟩ prog_10_method_51_code 1 (some .float) ∈ lw_g := lw_gm (tin5 (List.mem_of_getElem? (i := 101) (by decide +kernel))) (by decide +kernel)
theorem lk_L_68 : LkV RL 68 yX8_laughs cX8_laughs 1 (some .float) 0 := LkV_of q5_98 q5_99 q5_100 q1_9 q5_101 ⟨by decide, by decide, by decide +kernel⟩
theorem q3_178 : Cond.methodLink "JokePumpLaw" 69 ⟨"JokePump", "laughsAgain", "()F"⟩ ∈ lw_g := lw_gm (tin3 (List.mem_of_getElem? (i := 178) (by decide +kernel))) (by decide +kernel)
theorem q3_179 : Cond.instanceMethod ⟨"JokePump", "laughsAgain", "()F"⟩ ∈ lw_g := lw_gm (tin3 (List.mem_of_getElem? (i := 179) (by decide +kernel))) (by decide +kernel)
theorem q3_180 : Cond.selects "JokePump" ⟨"JokePump", "laughsAgain", "()F"⟩ ⟨"JokePump", "laughsAgain", "()F"⟩ ∈ lw_g := lw_gm (tin3 (List.mem_of_getElem? (i := 180) (by decide +kernel))) (by decide +kernel)
theorem q3_181 : Cond.code ⟨"JokePump", "laughsAgain", "()F"⟩ prog_1_method_23_code 1 (some .float) ∈ lw_g := lw_gm (tin3 (List.mem_of_getElem? (i := 181) (by decide +kernel))) (by decide +kernel)
theorem lk_L_69 : LkV RL 69 yX7_laughsAgain cX7_laughsAgain 1 (some .float) 0 := LkV_of q3_178 q3_179 q3_180 q1_1 q3_181 ⟨by decide, by decide, by decide +kernel⟩
theorem q5_102 : Cond.methodLink "JokePumpLaw" 72 ⟨"JokePumpModel", "laughsAgain", "()F"⟩ ∈ lw_g := lw_gm (tin5 (List.mem_of_getElem? (i := 102) (by decide +kernel))) (by decide +kernel)
theorem q5_103 : Cond.instanceMethod ⟨"JokePumpModel", "laughsAgain", "()F"⟩ ∈ lw_g := lw_gm (tin5 (List.mem_of_getElem? (i := 103) (by decide +kernel))) (by decide +kernel)
theorem q5_104 : Cond.selects "JokePumpModel" ⟨"JokePumpModel", "laughsAgain", "()F"⟩ ⟨"JokePumpModel", "laughsAgain", "()F"⟩ ∈ lw_g := lw_gm (tin5 (List.mem_of_getElem? (i := 104) (by decide +kernel))) (by decide +kernel)
theorem q5_105 : Cond.code ⟨"JokePumpModel", "laughsAgain", "()F"⟩ prog_10_method_52_code 3 (some .float) ∈ lw_g := lw_gm (tin5 (List.mem_of_getElem? (i := 105) (by decide +kernel))) (by decide +kernel)
theorem lk_L_72 : LkV RL 72 yX8_laughsAgain cX8_laughsAgain 3 (some .float) 0 := LkV_of q5_102 q5_103 q5_104 q1_9 q5_105 ⟨by decide, by decide, by decide +kernel⟩
theorem q3_190 : Cond.methodLink "JokePumpLaw" 73 ⟨"JokePump", "wholeLaughs", "()I"⟩ ∈ lw_g := lw_gm (tin3 (List.mem_of_getElem? (i := 190) (by decide +kernel))) (by decide +kernel)
theorem q3_191 : Cond.instanceMethod ⟨"JokePump", "wholeLaughs", "()I"⟩ ∈ lw_g := lw_gm (tin3 (List.mem_of_getElem? (i := 191) (by decide +kernel))) (by decide +kernel)
theorem q3_192 : Cond.selects "JokePump" ⟨"JokePump", "wholeLaughs", "()I"⟩ ⟨"JokePump", "wholeLaughs", "()I"⟩ ∈ lw_g := lw_gm (tin3 (List.mem_of_getElem? (i := 192) (by decide +kernel))) (by decide +kernel)
theorem q3_193 : Cond.code ⟨"JokePump", "wholeLaughs", "()I"⟩ prog_1_method_24_code 1 (some .int) ∈ lw_g := lw_gm (tin3 (List.mem_of_getElem? (i := 193) (by decide +kernel))) (by decide +kernel)
theorem lk_L_73 : LkV RL 73 yX7_wholeLaughs cX7_wholeLaughs 1 (some .int) 0 := LkV_of q3_190 q3_191 q3_192 q1_1 q3_193 ⟨by decide, by decide, by decide +kernel⟩
theorem q5_106 : Cond.methodLink "JokePumpLaw" 77 ⟨"JokePumpModel", "wholeLaughs", "()I"⟩ ∈ lw_g := lw_gm (tin5 (List.mem_of_getElem? (i := 106) (by decide +kernel))) (by decide +kernel)
theorem q5_107 : Cond.instanceMethod ⟨"JokePumpModel", "wholeLaughs", "()I"⟩ ∈ lw_g := lw_gm (tin5 (List.mem_of_getElem? (i := 107) (by decide +kernel))) (by decide +kernel)
theorem q5_108 : Cond.selects "JokePumpModel" ⟨"JokePumpModel", "wholeLaughs", "()I"⟩ ⟨"JokePumpModel", "wholeLaughs", "()I"⟩ ∈ lw_g := lw_gm (tin5 (List.mem_of_getElem? (i := 108) (by decide +kernel))) (by decide +kernel)
theorem q5_109 : Cond.code ⟨"JokePumpModel", "wholeLaughs", "()I"⟩ prog_10_method_53_code 1 (some .int) ∈ lw_g := lw_gm (tin5 (List.mem_of_getElem? (i := 109) (by decide +kernel))) (by decide +kernel)
theorem lk_L_77 : LkV RL 77 yX8_wholeLaughs cX8_wholeLaughs 1 (some .int) 0 := LkV_of q5_106 q5_107 q5_108 q1_9 q5_109 ⟨by decide, by decide, by decide +kernel⟩
theorem q3_194 : Cond.methodLink "JokePumpLaw" 78 ⟨"JokePump", "liftedOf", "(II)I"⟩ ∈ lw_g := lw_gm (tin3 (List.mem_of_getElem? (i := 194) (by decide +kernel))) (by decide +kernel)
theorem q3_195 : Cond.instanceMethod ⟨"JokePump", "liftedOf", "(II)I"⟩ ∈ lw_g := lw_gm (tin3 (List.mem_of_getElem? (i := 195) (by decide +kernel))) (by decide +kernel)
theorem q3_196 : Cond.selects "JokePump" ⟨"JokePump", "liftedOf", "(II)I"⟩ ⟨"JokePump", "liftedOf", "(II)I"⟩ ∈ lw_g := lw_gm (tin3 (List.mem_of_getElem? (i := 196) (by decide +kernel))) (by decide +kernel)
theorem q3_197 : Cond.code ⟨"JokePump", "liftedOf", "(II)I"⟩ prog_1_method_25_code 5 (some .int) ∈ lw_g := lw_gm (tin3 (List.mem_of_getElem? (i := 197) (by decide +kernel))) (by decide +kernel)
theorem lk_L_78 : LkV RL 78 yX7_liftedOf cX7_liftedOf 5 (some .int) 2 := LkV_of q3_194 q3_195 q3_196 q1_1 q3_197 ⟨by decide, by decide, by decide +kernel⟩
theorem q5_111 : Cond.methodLink "JokePumpLaw" 81 ⟨"JokePumpModel", "liftedOf", "(II)I"⟩ ∈ lw_g := lw_gm (tin5 (List.mem_of_getElem? (i := 111) (by decide +kernel))) (by decide +kernel)
theorem q5_112 : Cond.instanceMethod ⟨"JokePumpModel", "liftedOf", "(II)I"⟩ ∈ lw_g := lw_gm (tin5 (List.mem_of_getElem? (i := 112) (by decide +kernel))) (by decide +kernel)
theorem q5_113 : Cond.selects "JokePumpModel" ⟨"JokePumpModel", "liftedOf", "(II)I"⟩ ⟨"JokePumpModel", "liftedOf", "(II)I"⟩ ∈ lw_g := lw_gm (tin5 (List.mem_of_getElem? (i := 113) (by decide +kernel))) (by decide +kernel)
theorem q5_114 : Cond.code ⟨"JokePumpModel", "liftedOf", "(II)I"⟩ prog_10_method_54_code 3 (some .int) ∈ lw_g := lw_gm (tin5 (List.mem_of_getElem? (i := 114) (by decide +kernel))) (by decide +kernel)
theorem lk_L_81 : LkV RL 81 yX8_liftedOf cX8_liftedOf 3 (some .int) 2 := LkV_of q5_111 q5_112 q5_113 q1_9 q5_114 ⟨by decide, by decide, by decide +kernel⟩
theorem q3_208 : Cond.methodLink "JokePumpLaw" 82 ⟨"JokePump", "strokes", "(I)I"⟩ ∈ lw_g := lw_gm (tin3 (List.mem_of_getElem? (i := 208) (by decide +kernel))) (by decide +kernel)
theorem q3_209 : Cond.instanceMethod ⟨"JokePump", "strokes", "(I)I"⟩ ∈ lw_g := lw_gm (tin3 (List.mem_of_getElem? (i := 209) (by decide +kernel))) (by decide +kernel)
theorem q3_210 : Cond.selects "JokePump" ⟨"JokePump", "strokes", "(I)I"⟩ ⟨"JokePump", "strokes", "(I)I"⟩ ∈ lw_g := lw_gm (tin3 (List.mem_of_getElem? (i := 210) (by decide +kernel))) (by decide +kernel)
theorem q3_211 : Cond.code ⟨"JokePump", "strokes", "(I)I"⟩ prog_1_method_27_code 5 (some .int) ∈ lw_g := lw_gm (tin3 (List.mem_of_getElem? (i := 211) (by decide +kernel))) (by decide +kernel)
theorem lk_L_82 : LkV RL 82 yX7_strokes cX7_strokes 5 (some .int) 1 := LkV_of q3_208 q3_209 q3_210 q1_1 q3_211 ⟨by decide, by decide, by decide +kernel⟩
theorem q5_115 : Cond.methodLink "JokePumpLaw" 85 ⟨"JokePumpModel", "strokes", "(I)I"⟩ ∈ lw_g := lw_gm (tin5 (List.mem_of_getElem? (i := 115) (by decide +kernel))) (by decide +kernel)
theorem q5_116 : Cond.instanceMethod ⟨"JokePumpModel", "strokes", "(I)I"⟩ ∈ lw_g := lw_gm (tin5 (List.mem_of_getElem? (i := 116) (by decide +kernel))) (by decide +kernel)
theorem q5_117 : Cond.selects "JokePumpModel" ⟨"JokePumpModel", "strokes", "(I)I"⟩ ⟨"JokePumpModel", "strokes", "(I)I"⟩ ∈ lw_g := lw_gm (tin5 (List.mem_of_getElem? (i := 117) (by decide +kernel))) (by decide +kernel)
theorem q5_118 : Cond.code ⟨"JokePumpModel", "strokes", "(I)I"⟩ prog_10_method_55_code 4 (some .int) ∈ lw_g := lw_gm (tin5 (List.mem_of_getElem? (i := 118) (by decide +kernel))) (by decide +kernel)
theorem lk_L_85 : LkV RL 85 yX8_strokes cX8_strokes 4 (some .int) 1 := LkV_of q5_115 q5_116 q5_117 q1_9 q5_118 ⟨by decide, by decide, by decide +kernel⟩
theorem q3_213 : Cond.methodLink "JokePumpLaw" 86 ⟨"JokePump", "strokesAgain", "(I)I"⟩ ∈ lw_g := lw_gm (tin3 (List.mem_of_getElem? (i := 213) (by decide +kernel))) (by decide +kernel)
theorem q3_214 : Cond.instanceMethod ⟨"JokePump", "strokesAgain", "(I)I"⟩ ∈ lw_g := lw_gm (tin3 (List.mem_of_getElem? (i := 214) (by decide +kernel))) (by decide +kernel)
theorem q3_215 : Cond.selects "JokePump" ⟨"JokePump", "strokesAgain", "(I)I"⟩ ⟨"JokePump", "strokesAgain", "(I)I"⟩ ∈ lw_g := lw_gm (tin3 (List.mem_of_getElem? (i := 215) (by decide +kernel))) (by decide +kernel)
theorem q3_216 : Cond.code ⟨"JokePump", "strokesAgain", "(I)I"⟩ prog_1_method_28_code 3 (some .int) ∈ lw_g := lw_gm (tin3 (List.mem_of_getElem? (i := 216) (by decide +kernel))) (by decide +kernel)
theorem lk_L_86 : LkV RL 86 yX7_strokesAgain cX7_strokesAgain 3 (some .int) 1 := LkV_of q3_213 q3_214 q3_215 q1_1 q3_216 ⟨by decide, by decide, by decide +kernel⟩
theorem q5_119 : Cond.methodLink "JokePumpLaw" 89 ⟨"JokePumpModel", "strokesAgain", "(I)I"⟩ ∈ lw_g := lw_gm (tin5 (List.mem_of_getElem? (i := 119) (by decide +kernel))) (by decide +kernel)
theorem q5_120 : Cond.instanceMethod ⟨"JokePumpModel", "strokesAgain", "(I)I"⟩ ∈ lw_g := lw_gm (tin5 (List.mem_of_getElem? (i := 120) (by decide +kernel))) (by decide +kernel)
theorem q5_121 : Cond.selects "JokePumpModel" ⟨"JokePumpModel", "strokesAgain", "(I)I"⟩ ⟨"JokePumpModel", "strokesAgain", "(I)I"⟩ ∈ lw_g := lw_gm (tin5 (List.mem_of_getElem? (i := 121) (by decide +kernel))) (by decide +kernel)
theorem q5_122 : Cond.code ⟨"JokePumpModel", "strokesAgain", "(I)I"⟩ prog_10_method_56_code 2 (some .int) ∈ lw_g := lw_gm (tin5 (List.mem_of_getElem? (i := 122) (by decide +kernel))) (by decide +kernel)
theorem lk_L_89 : LkV RL 89 yX8_strokesAgain cX8_strokesAgain 2 (some .int) 1 := LkV_of q5_119 q5_120 q5_121 q1_9 q5_122 ⟨by decide, by decide, by decide +kernel⟩
theorem q3_217 : Cond.methodLink "JokePumpLaw" 90 ⟨"JokePump", "would", "(I)I"⟩ ∈ lw_g := lw_gm (tin3 (List.mem_of_getElem? (i := 217) (by decide +kernel))) (by decide +kernel)
theorem q3_218 : Cond.instanceMethod ⟨"JokePump", "would", "(I)I"⟩ ∈ lw_g := lw_gm (tin3 (List.mem_of_getElem? (i := 218) (by decide +kernel))) (by decide +kernel)
theorem q3_219 : Cond.selects "JokePump" ⟨"JokePump", "would", "(I)I"⟩ ⟨"JokePump", "would", "(I)I"⟩ ∈ lw_g := lw_gm (tin3 (List.mem_of_getElem? (i := 219) (by decide +kernel))) (by decide +kernel)
theorem q3_220 : Cond.code ⟨"JokePump", "would", "(I)I"⟩ prog_1_method_29_code 7 (some .int) ∈ lw_g := lw_gm (tin3 (List.mem_of_getElem? (i := 220) (by decide +kernel))) (by decide +kernel)
theorem lk_L_90 : LkV RL 90 yX7_would cX7_would 7 (some .int) 1 := LkV_of q3_217 q3_218 q3_219 q1_1 q3_220 ⟨by decide, by decide, by decide +kernel⟩
theorem q5_124 : Cond.methodLink "JokePumpLaw" 93 ⟨"JokePumpModel", "would", "(I)I"⟩ ∈ lw_g := lw_gm (tin5 (List.mem_of_getElem? (i := 124) (by decide +kernel))) (by decide +kernel)
theorem q5_125 : Cond.instanceMethod ⟨"JokePumpModel", "would", "(I)I"⟩ ∈ lw_g := lw_gm (tin5 (List.mem_of_getElem? (i := 125) (by decide +kernel))) (by decide +kernel)
theorem q5_126 : Cond.selects "JokePumpModel" ⟨"JokePumpModel", "would", "(I)I"⟩ ⟨"JokePumpModel", "would", "(I)I"⟩ ∈ lw_g := lw_gm (tin5 (List.mem_of_getElem? (i := 126) (by decide +kernel))) (by decide +kernel)
theorem q5_127 : Cond.code ⟨"JokePumpModel", "would", "(I)I"⟩ prog_10_method_59_code 3 (some .int) ∈ lw_g := lw_gm (tin5 (List.mem_of_getElem? (i := 127) (by decide +kernel))) (by decide +kernel)
theorem lk_L_93 : LkV RL 93 yX8_would cX8_would 3 (some .int) 1 := LkV_of q5_124 q5_125 q5_126 q1_9 q5_127 ⟨by decide, by decide, by decide +kernel⟩
theorem q3_222 : Cond.methodLink "JokePumpLaw" 94 ⟨"JokePump", "groansIn", "(I)I"⟩ ∈ lw_g := lw_gm (tin3 (List.mem_of_getElem? (i := 222) (by decide +kernel))) (by decide +kernel)
theorem q3_223 : Cond.instanceMethod ⟨"JokePump", "groansIn", "(I)I"⟩ ∈ lw_g := lw_gm (tin3 (List.mem_of_getElem? (i := 223) (by decide +kernel))) (by decide +kernel)
theorem q3_224 : Cond.selects "JokePump" ⟨"JokePump", "groansIn", "(I)I"⟩ ⟨"JokePump", "groansIn", "(I)I"⟩ ∈ lw_g := lw_gm (tin3 (List.mem_of_getElem? (i := 224) (by decide +kernel))) (by decide +kernel)
theorem q3_225 : Cond.code ⟨"JokePump", "groansIn", "(I)I"⟩ prog_1_method_30_code 5 (some .int) ∈ lw_g := lw_gm (tin3 (List.mem_of_getElem? (i := 225) (by decide +kernel))) (by decide +kernel)
theorem lk_L_94 : LkV RL 94 yX7_groansIn cX7_groansIn 5 (some .int) 1 := LkV_of q3_222 q3_223 q3_224 q1_1 q3_225 ⟨by decide, by decide, by decide +kernel⟩
theorem q5_136 : Cond.methodLink "JokePumpLaw" 97 ⟨"JokePumpModel", "groansIn", "(I)I"⟩ ∈ lw_g := lw_gm (tin5 (List.mem_of_getElem? (i := 136) (by decide +kernel))) (by decide +kernel)
theorem q5_137 : Cond.instanceMethod ⟨"JokePumpModel", "groansIn", "(I)I"⟩ ∈ lw_g := lw_gm (tin5 (List.mem_of_getElem? (i := 137) (by decide +kernel))) (by decide +kernel)
theorem q5_138 : Cond.selects "JokePumpModel" ⟨"JokePumpModel", "groansIn", "(I)I"⟩ ⟨"JokePumpModel", "groansIn", "(I)I"⟩ ∈ lw_g := lw_gm (tin5 (List.mem_of_getElem? (i := 138) (by decide +kernel))) (by decide +kernel)
theorem q5_139 : Cond.code ⟨"JokePumpModel", "groansIn", "(I)I"⟩ prog_10_method_60_code 3 (some .int) ∈ lw_g := lw_gm (tin5 (List.mem_of_getElem? (i := 139) (by decide +kernel))) (by decide +kernel)
theorem lk_L_97 : LkV RL 97 yX8_groansIn cX8_groansIn 3 (some .int) 1 := LkV_of q5_136 q5_137 q5_138 q1_9 q5_139 ⟨by decide, by decide, by decide +kernel⟩
theorem q3_226 : Cond.methodLink "JokePumpLaw" 98 ⟨"JokePump", "bestStroke", "()I"⟩ ∈ lw_g := lw_gm (tin3 (List.mem_of_getElem? (i := 226) (by decide +kernel))) (by decide +kernel)
theorem q3_227 : Cond.instanceMethod ⟨"JokePump", "bestStroke", "()I"⟩ ∈ lw_g := lw_gm (tin3 (List.mem_of_getElem? (i := 227) (by decide +kernel))) (by decide +kernel)
theorem q3_228 : Cond.selects "JokePump" ⟨"JokePump", "bestStroke", "()I"⟩ ⟨"JokePump", "bestStroke", "()I"⟩ ∈ lw_g := lw_gm (tin3 (List.mem_of_getElem? (i := 228) (by decide +kernel))) (by decide +kernel)
theorem q3_229 : Cond.code ⟨"JokePump", "bestStroke", "()I"⟩ prog_1_method_31_code 4 (some .int) ∈ lw_g := lw_gm (tin3 (List.mem_of_getElem? (i := 229) (by decide +kernel))) (by decide +kernel)
theorem lk_L_98 : LkV RL 98 yX7_bestStroke cX7_bestStroke 4 (some .int) 0 := LkV_of q3_226 q3_227 q3_228 q1_1 q3_229 ⟨by decide, by decide, by decide +kernel⟩
theorem q5_140 : Cond.methodLink "JokePumpLaw" 101 ⟨"JokePumpModel", "bestStroke", "()I"⟩ ∈ lw_g := lw_gm (tin5 (List.mem_of_getElem? (i := 140) (by decide +kernel))) (by decide +kernel)
theorem q5_141 : Cond.instanceMethod ⟨"JokePumpModel", "bestStroke", "()I"⟩ ∈ lw_g := lw_gm (tin5 (List.mem_of_getElem? (i := 141) (by decide +kernel))) (by decide +kernel)
theorem q5_142 : Cond.selects "JokePumpModel" ⟨"JokePumpModel", "bestStroke", "()I"⟩ ⟨"JokePumpModel", "bestStroke", "()I"⟩ ∈ lw_g := lw_gm (tin5 (List.mem_of_getElem? (i := 142) (by decide +kernel))) (by decide +kernel)
theorem q5_143 : Cond.code ⟨"JokePumpModel", "bestStroke", "()I"⟩ prog_10_method_62_code 4 (some .int) ∈ lw_g := lw_gm (tin5 (List.mem_of_getElem? (i := 143) (by decide +kernel))) (by decide +kernel)
theorem lk_L_101 : LkV RL 101 yX8_bestStroke cX8_bestStroke 4 (some .int) 0 := LkV_of q5_140 q5_141 q5_142 q1_9 q5_143 ⟨by decide, by decide, by decide +kernel⟩
theorem q3_133 : Cond.methodLink "JokePumpLaw" 102 ⟨"JokePump", "funniest", "(I)I"⟩ ∈ lw_g := lw_gm (tin3 (List.mem_of_getElem? (i := 133) (by decide +kernel))) (by decide +kernel)
theorem q3_134 : Cond.instanceMethod ⟨"JokePump", "funniest", "(I)I"⟩ ∈ lw_g := lw_gm (tin3 (List.mem_of_getElem? (i := 134) (by decide +kernel))) (by decide +kernel)
theorem q3_135 : Cond.selects "JokePump" ⟨"JokePump", "funniest", "(I)I"⟩ ⟨"JokePump", "funniest", "(I)I"⟩ ∈ lw_g := lw_gm (tin3 (List.mem_of_getElem? (i := 135) (by decide +kernel))) (by decide +kernel)
theorem q3_136 : Cond.code ⟨"JokePump", "funniest", "(I)I"⟩ prog_1_method_18_code 3 (some .int) ∈ lw_g := lw_gm (tin3 (List.mem_of_getElem? (i := 136) (by decide +kernel))) (by decide +kernel)
theorem lk_L_102 : LkV RL 102 yX7_funniest cX7_funniest 3 (some .int) 1 := LkV_of q3_133 q3_134 q3_135 q1_1 q3_136 ⟨by decide, by decide, by decide +kernel⟩
theorem q5_148 : Cond.methodLink "JokePumpLaw" 105 ⟨"JokePumpModel", "funniest", "(I)I"⟩ ∈ lw_g := lw_gm (tin5 (List.mem_of_getElem? (i := 148) (by decide +kernel))) (by decide +kernel)
theorem q5_149 : Cond.instanceMethod ⟨"JokePumpModel", "funniest", "(I)I"⟩ ∈ lw_g := lw_gm (tin5 (List.mem_of_getElem? (i := 149) (by decide +kernel))) (by decide +kernel)
theorem q5_150 : Cond.selects "JokePumpModel" ⟨"JokePumpModel", "funniest", "(I)I"⟩ ⟨"JokePumpModel", "funniest", "(I)I"⟩ ∈ lw_g := lw_gm (tin5 (List.mem_of_getElem? (i := 150) (by decide +kernel))) (by decide +kernel)
theorem q5_151 : Cond.code ⟨"JokePumpModel", "funniest", "(I)I"⟩ prog_10_method_64_code 5 (some .int) ∈ lw_g := lw_gm (tin5 (List.mem_of_getElem? (i := 151) (by decide +kernel))) (by decide +kernel)
theorem lk_L_105 : LkV RL 105 yX8_funniest cX8_funniest 5 (some .int) 1 := LkV_of q5_148 q5_149 q5_150 q1_9 q5_151 ⟨by decide, by decide, by decide +kernel⟩
theorem q3_129 : Cond.methodLink "JokePumpLaw" 106 ⟨"JokePump", "inWell", "(II)I"⟩ ∈ lw_g := lw_gm (tin3 (List.mem_of_getElem? (i := 129) (by decide +kernel))) (by decide +kernel)
theorem q3_130 : Cond.instanceMethod ⟨"JokePump", "inWell", "(II)I"⟩ ∈ lw_g := lw_gm (tin3 (List.mem_of_getElem? (i := 130) (by decide +kernel))) (by decide +kernel)
theorem q3_131 : Cond.selects "JokePump" ⟨"JokePump", "inWell", "(II)I"⟩ ⟨"JokePump", "inWell", "(II)I"⟩ ∈ lw_g := lw_gm (tin3 (List.mem_of_getElem? (i := 131) (by decide +kernel))) (by decide +kernel)
theorem q3_132 : Cond.code ⟨"JokePump", "inWell", "(II)I"⟩ prog_1_method_17_code 3 (some .int) ∈ lw_g := lw_gm (tin3 (List.mem_of_getElem? (i := 132) (by decide +kernel))) (by decide +kernel)
theorem lk_L_106 : LkV RL 106 yX7_inWell cX7_inWell 3 (some .int) 2 := LkV_of q3_129 q3_130 q3_131 q1_1 q3_132 ⟨by decide, by decide, by decide +kernel⟩
theorem q5_156 : Cond.methodLink "JokePumpLaw" 109 ⟨"JokePumpModel", "inWell", "(II)I"⟩ ∈ lw_g := lw_gm (tin5 (List.mem_of_getElem? (i := 156) (by decide +kernel))) (by decide +kernel)
theorem q5_157 : Cond.instanceMethod ⟨"JokePumpModel", "inWell", "(II)I"⟩ ∈ lw_g := lw_gm (tin5 (List.mem_of_getElem? (i := 157) (by decide +kernel))) (by decide +kernel)
theorem q5_158 : Cond.selects "JokePumpModel" ⟨"JokePumpModel", "inWell", "(II)I"⟩ ⟨"JokePumpModel", "inWell", "(II)I"⟩ ∈ lw_g := lw_gm (tin5 (List.mem_of_getElem? (i := 158) (by decide +kernel))) (by decide +kernel)
theorem q5_159 : Cond.code ⟨"JokePumpModel", "inWell", "(II)I"⟩ prog_10_method_65_code 3 (some .int) ∈ lw_g := lw_gm (tin5 (List.mem_of_getElem? (i := 159) (by decide +kernel))) (by decide +kernel)
theorem lk_L_109 : LkV RL 109 yX8_inWell cX8_inWell 3 (some .int) 2 := LkV_of q5_156 q5_157 q5_158 q1_9 q5_159 ⟨by decide, by decide, by decide +kernel⟩
theorem q3_146 : Cond.methodLink "JokePumpLaw" 110 ⟨"JokePump", "fullest", "(I)I"⟩ ∈ lw_g := lw_gm (tin3 (List.mem_of_getElem? (i := 146) (by decide +kernel))) (by decide +kernel)
theorem q3_147 : Cond.instanceMethod ⟨"JokePump", "fullest", "(I)I"⟩ ∈ lw_g := lw_gm (tin3 (List.mem_of_getElem? (i := 147) (by decide +kernel))) (by decide +kernel)
theorem q3_148 : Cond.selects "JokePump" ⟨"JokePump", "fullest", "(I)I"⟩ ⟨"JokePump", "fullest", "(I)I"⟩ ∈ lw_g := lw_gm (tin3 (List.mem_of_getElem? (i := 148) (by decide +kernel))) (by decide +kernel)
theorem q3_149 : Cond.code ⟨"JokePump", "fullest", "(I)I"⟩ prog_1_method_19_code 3 (some .int) ∈ lw_g := lw_gm (tin3 (List.mem_of_getElem? (i := 149) (by decide +kernel))) (by decide +kernel)
theorem lk_L_110 : LkV RL 110 yX7_fullest cX7_fullest 3 (some .int) 1 := LkV_of q3_146 q3_147 q3_148 q1_1 q3_149 ⟨by decide, by decide, by decide +kernel⟩
theorem q5_160 : Cond.methodLink "JokePumpLaw" 113 ⟨"JokePumpModel", "fullest", "(I)I"⟩ ∈ lw_g := lw_gm (tin5 (List.mem_of_getElem? (i := 160) (by decide +kernel))) (by decide +kernel)
theorem q5_161 : Cond.instanceMethod ⟨"JokePumpModel", "fullest", "(I)I"⟩ ∈ lw_g := lw_gm (tin5 (List.mem_of_getElem? (i := 161) (by decide +kernel))) (by decide +kernel)
theorem q5_162 : Cond.selects "JokePumpModel" ⟨"JokePumpModel", "fullest", "(I)I"⟩ ⟨"JokePumpModel", "fullest", "(I)I"⟩ ∈ lw_g := lw_gm (tin5 (List.mem_of_getElem? (i := 162) (by decide +kernel))) (by decide +kernel)
theorem q5_163 : Cond.code ⟨"JokePumpModel", "fullest", "(I)I"⟩ prog_10_method_67_code 5 (some .int) ∈ lw_g := lw_gm (tin5 (List.mem_of_getElem? (i := 163) (by decide +kernel))) (by decide +kernel)
theorem lk_L_113 : LkV RL 113 yX8_fullest cX8_fullest 5 (some .int) 1 := LkV_of q5_160 q5_161 q5_162 q1_9 q5_163 ⟨by decide, by decide, by decide +kernel⟩
theorem q3_234 : Cond.methodLink "JokePumpLaw" 114 ⟨"JokePump", "isCounted", "()Z"⟩ ∈ lw_g := lw_gm (tin3 (List.mem_of_getElem? (i := 234) (by decide +kernel))) (by decide +kernel)
theorem q3_235 : Cond.instanceMethod ⟨"JokePump", "isCounted", "()Z"⟩ ∈ lw_g := lw_gm (tin3 (List.mem_of_getElem? (i := 235) (by decide +kernel))) (by decide +kernel)
theorem q3_236 : Cond.selects "JokePump" ⟨"JokePump", "isCounted", "()Z"⟩ ⟨"JokePump", "isCounted", "()Z"⟩ ∈ lw_g := lw_gm (tin3 (List.mem_of_getElem? (i := 236) (by decide +kernel))) (by decide +kernel)
theorem q3_237 : Cond.code ⟨"JokePump", "isCounted", "()Z"⟩ prog_1_method_32_code 2 (some .boolean) ∈ lw_g := lw_gm (tin3 (List.mem_of_getElem? (i := 237) (by decide +kernel))) (by decide +kernel)
theorem lk_L_114 : LkV RL 114 yX7_isCounted cX7_isCounted 2 (some .boolean) 0 := LkV_of q3_234 q3_235 q3_236 q1_1 q3_237 ⟨by decide, by decide, by decide +kernel⟩
theorem q5_168 : Cond.methodLink "JokePumpLaw" 118 ⟨"JokePumpModel", "isCounted", "()Z"⟩ ∈ lw_g := lw_gm (tin5 (List.mem_of_getElem? (i := 168) (by decide +kernel))) (by decide +kernel)
theorem q5_169 : Cond.instanceMethod ⟨"JokePumpModel", "isCounted", "()Z"⟩ ∈ lw_g := lw_gm (tin5 (List.mem_of_getElem? (i := 169) (by decide +kernel))) (by decide +kernel)
theorem q5_170 : Cond.selects "JokePumpModel" ⟨"JokePumpModel", "isCounted", "()Z"⟩ ⟨"JokePumpModel", "isCounted", "()Z"⟩ ∈ lw_g := lw_gm (tin5 (List.mem_of_getElem? (i := 170) (by decide +kernel))) (by decide +kernel)
theorem q5_171 : Cond.code ⟨"JokePumpModel", "isCounted", "()Z"⟩ prog_10_method_68_code 2 (some .boolean) ∈ lw_g := lw_gm (tin5 (List.mem_of_getElem? (i := 171) (by decide +kernel))) (by decide +kernel)
theorem lk_L_118 : LkV RL 118 yX8_isCounted cX8_isCounted 2 (some .boolean) 0 := LkV_of q5_168 q5_169 q5_170 q1_9 q5_171 ⟨by decide, by decide, by decide +kernel⟩
theorem q3_158 : Cond.methodLink "JokePumpLaw" 119 ⟨"JokePump", "meanDepth", "()D"⟩ ∈ lw_g := lw_gm (tin3 (List.mem_of_getElem? (i := 158) (by decide +kernel))) (by decide +kernel)
theorem q3_159 : Cond.instanceMethod ⟨"JokePump", "meanDepth", "()D"⟩ ∈ lw_g := lw_gm (tin3 (List.mem_of_getElem? (i := 159) (by decide +kernel))) (by decide +kernel)
theorem q3_160 : Cond.selects "JokePump" ⟨"JokePump", "meanDepth", "()D"⟩ ⟨"JokePump", "meanDepth", "()D"⟩ ∈ lw_g := lw_gm (tin3 (List.mem_of_getElem? (i := 160) (by decide +kernel))) (by decide +kernel)
theorem q3_161 : Cond.code ⟨"JokePump", "meanDepth", "()D"⟩ prog_1_method_20_code 2 (some .double) ∈ lw_g := lw_gm (tin3 (List.mem_of_getElem? (i := 161) (by decide +kernel))) (by decide +kernel)
theorem lk_L_119 : LkV RL 119 yX7_meanDepth cX7_meanDepth 2 (some .double) 0 := LkV_of q3_158 q3_159 q3_160 q1_1 q3_161 ⟨by decide, by decide, by decide +kernel⟩
theorem q5_173 : Cond.methodLink "JokePumpLaw" 123 ⟨"JokePumpModel", "meanDepth", "()D"⟩ ∈ lw_g := lw_gm (tin5 (List.mem_of_getElem? (i := 173) (by decide +kernel))) (by decide +kernel)
theorem q5_174 : Cond.instanceMethod ⟨"JokePumpModel", "meanDepth", "()D"⟩ ∈ lw_g := lw_gm (tin5 (List.mem_of_getElem? (i := 174) (by decide +kernel))) (by decide +kernel)
theorem q5_175 : Cond.selects "JokePumpModel" ⟨"JokePumpModel", "meanDepth", "()D"⟩ ⟨"JokePumpModel", "meanDepth", "()D"⟩ ∈ lw_g := lw_gm (tin5 (List.mem_of_getElem? (i := 175) (by decide +kernel))) (by decide +kernel)
theorem q5_176 : Cond.code ⟨"JokePumpModel", "meanDepth", "()D"⟩ prog_10_method_69_code 3 (some .double) ∈ lw_g := lw_gm (tin5 (List.mem_of_getElem? (i := 176) (by decide +kernel))) (by decide +kernel)
theorem lk_L_123 : LkV RL 123 yX8_meanDepth cX8_meanDepth 3 (some .double) 0 := LkV_of q5_173 q5_174 q5_175 q1_9 q5_176 ⟨by decide, by decide, by decide +kernel⟩
theorem q3_199 : Cond.methodLink "JokePumpLaw" 124 ⟨"JokePump", "knownShare", "()F"⟩ ∈ lw_g := lw_gm (tin3 (List.mem_of_getElem? (i := 199) (by decide +kernel))) (by decide +kernel)
theorem q3_200 : Cond.instanceMethod ⟨"JokePump", "knownShare", "()F"⟩ ∈ lw_g := lw_gm (tin3 (List.mem_of_getElem? (i := 200) (by decide +kernel))) (by decide +kernel)
theorem q3_201 : Cond.selects "JokePump" ⟨"JokePump", "knownShare", "()F"⟩ ⟨"JokePump", "knownShare", "()F"⟩ ∈ lw_g := lw_gm (tin3 (List.mem_of_getElem? (i := 201) (by decide +kernel))) (by decide +kernel)
theorem q3_202 : Cond.code ⟨"JokePump", "knownShare", "()F"⟩ prog_1_method_26_code 1 (some .float) ∈ lw_g := lw_gm (tin3 (List.mem_of_getElem? (i := 202) (by decide +kernel))) (by decide +kernel)
theorem lk_L_124 : LkV RL 124 yX7_knownShare cX7_knownShare 1 (some .float) 0 := LkV_of q3_199 q3_200 q3_201 q1_1 q3_202 ⟨by decide, by decide, by decide +kernel⟩
theorem q5_177 : Cond.methodLink "JokePumpLaw" 127 ⟨"JokePumpModel", "knownShare", "()F"⟩ ∈ lw_g := lw_gm (tin5 (List.mem_of_getElem? (i := 177) (by decide +kernel))) (by decide +kernel)
theorem q5_178 : Cond.instanceMethod ⟨"JokePumpModel", "knownShare", "()F"⟩ ∈ lw_g := lw_gm (tin5 (List.mem_of_getElem? (i := 178) (by decide +kernel))) (by decide +kernel)
theorem q5_179 : Cond.selects "JokePumpModel" ⟨"JokePumpModel", "knownShare", "()F"⟩ ⟨"JokePumpModel", "knownShare", "()F"⟩ ∈ lw_g := lw_gm (tin5 (List.mem_of_getElem? (i := 179) (by decide +kernel))) (by decide +kernel)
theorem q5_180 : Cond.code ⟨"JokePumpModel", "knownShare", "()F"⟩ prog_10_method_70_code 3 (some .float) ∈ lw_g := lw_gm (tin5 (List.mem_of_getElem? (i := 180) (by decide +kernel))) (by decide +kernel)
theorem lk_L_127 : LkV RL 127 yX8_knownShare cX8_knownShare 3 (some .float) 0 := LkV_of q5_177 q5_178 q5_179 q1_9 q5_180 ⟨by decide, by decide, by decide +kernel⟩
theorem q4_12 : Cond.methodLink "JokePumpLaw" 128 ⟨"JokePump", "account", "(I)I"⟩ ∈ lw_g := lw_gm (tin4 (List.mem_of_getElem? (i := 12) (by decide +kernel))) (by decide +kernel)
theorem q4_13 : Cond.instanceMethod ⟨"JokePump", "account", "(I)I"⟩ ∈ lw_g := lw_gm (tin4 (List.mem_of_getElem? (i := 13) (by decide +kernel))) (by decide +kernel)
theorem q4_14 : Cond.selects "JokePump" ⟨"JokePump", "account", "(I)I"⟩ ⟨"JokePump", "account", "(I)I"⟩ ∈ lw_g := lw_gm (tin4 (List.mem_of_getElem? (i := 14) (by decide +kernel))) (by decide +kernel)
theorem q4_15 : Cond.code ⟨"JokePump", "account", "(I)I"⟩ prog_1_method_33_code 2 (some .int) ∈ lw_g := lw_gm (tin4 (List.mem_of_getElem? (i := 15) (by decide +kernel))) (by decide +kernel)
theorem lk_L_128 : LkV RL 128 yX7_account cX7_account 2 (some .int) 1 := LkV_of q4_12 q4_13 q4_14 q1_1 q4_15 ⟨by decide, by decide, by decide +kernel⟩
theorem q5_182 : Cond.methodLink "JokePumpLaw" 131 ⟨"JokePumpModel", "account", "(I)I"⟩ ∈ lw_g := lw_gm (tin5 (List.mem_of_getElem? (i := 182) (by decide +kernel))) (by decide +kernel)
theorem q5_183 : Cond.instanceMethod ⟨"JokePumpModel", "account", "(I)I"⟩ ∈ lw_g := lw_gm (tin5 (List.mem_of_getElem? (i := 183) (by decide +kernel))) (by decide +kernel)
theorem q5_184 : Cond.selects "JokePumpModel" ⟨"JokePumpModel", "account", "(I)I"⟩ ⟨"JokePumpModel", "account", "(I)I"⟩ ∈ lw_g := lw_gm (tin5 (List.mem_of_getElem? (i := 184) (by decide +kernel))) (by decide +kernel)
theorem q5_185 : Cond.code ⟨"JokePumpModel", "account", "(I)I"⟩ prog_10_method_72_code 2 (some .int) ∈ lw_g := lw_gm (tin5 (List.mem_of_getElem? (i := 185) (by decide +kernel))) (by decide +kernel)
theorem lk_L_131 : LkV RL 131 yX8_account cX8_account 2 (some .int) 1 := LkV_of q5_182 q5_183 q5_184 q1_9 q5_185 ⟨by decide, by decide, by decide +kernel⟩
theorem q4_20 : Cond.methodLink "JokePumpLaw" 132 ⟨"JokePump", "write", "(I)I"⟩ ∈ lw_g := lw_gm (tin4 (List.mem_of_getElem? (i := 20) (by decide +kernel))) (by decide +kernel)
theorem q4_21 : Cond.instanceMethod ⟨"JokePump", "write", "(I)I"⟩ ∈ lw_g := lw_gm (tin4 (List.mem_of_getElem? (i := 21) (by decide +kernel))) (by decide +kernel)
theorem q4_22 : Cond.selects "JokePump" ⟨"JokePump", "write", "(I)I"⟩ ⟨"JokePump", "write", "(I)I"⟩ ∈ lw_g := lw_gm (tin4 (List.mem_of_getElem? (i := 22) (by decide +kernel))) (by decide +kernel)
theorem q4_23 : Cond.code ⟨"JokePump", "write", "(I)I"⟩ prog_1_method_34_code 4 (some .int) ∈ lw_g := lw_gm (tin4 (List.mem_of_getElem? (i := 23) (by decide +kernel))) (by decide +kernel)
theorem lk_L_132 : LkV RL 132 yX7_write cX7_write 4 (some .int) 1 := LkV_of q4_20 q4_21 q4_22 q1_1 q4_23 ⟨by decide, by decide, by decide +kernel⟩
theorem q5_190 : Cond.methodLink "JokePumpLaw" 135 ⟨"JokePumpModel", "write", "(I)I"⟩ ∈ lw_g := lw_gm (tin5 (List.mem_of_getElem? (i := 190) (by decide +kernel))) (by decide +kernel)
theorem q5_191 : Cond.instanceMethod ⟨"JokePumpModel", "write", "(I)I"⟩ ∈ lw_g := lw_gm (tin5 (List.mem_of_getElem? (i := 191) (by decide +kernel))) (by decide +kernel)
theorem q5_192 : Cond.selects "JokePumpModel" ⟨"JokePumpModel", "write", "(I)I"⟩ ⟨"JokePumpModel", "write", "(I)I"⟩ ∈ lw_g := lw_gm (tin5 (List.mem_of_getElem? (i := 192) (by decide +kernel))) (by decide +kernel)
theorem q5_193 : Cond.code ⟨"JokePumpModel", "write", "(I)I"⟩ prog_10_method_76_code 3 (some .int) ∈ lw_g := lw_gm (tin5 (List.mem_of_getElem? (i := 193) (by decide +kernel))) (by decide +kernel)
theorem lk_L_135 : LkV RL 135 yX8_write cX8_write 3 (some .int) 1 := LkV_of q5_190 q5_191 q5_192 q1_9 q5_193 ⟨by decide, by decide, by decide +kernel⟩
theorem q4_37 : Cond.methodLink "JokePumpLaw" 136 ⟨"JokePump", "writePump", "()I"⟩ ∈ lw_g := lw_gm (tin4 (List.mem_of_getElem? (i := 37) (by decide +kernel))) (by decide +kernel)
theorem q4_38 : Cond.instanceMethod ⟨"JokePump", "writePump", "()I"⟩ ∈ lw_g := lw_gm (tin4 (List.mem_of_getElem? (i := 38) (by decide +kernel))) (by decide +kernel)
theorem q4_39 : Cond.selects "JokePump" ⟨"JokePump", "writePump", "()I"⟩ ⟨"JokePump", "writePump", "()I"⟩ ∈ lw_g := lw_gm (tin4 (List.mem_of_getElem? (i := 39) (by decide +kernel))) (by decide +kernel)
theorem q4_40 : Cond.code ⟨"JokePump", "writePump", "()I"⟩ prog_1_method_35_code 1 (some .int) ∈ lw_g := lw_gm (tin4 (List.mem_of_getElem? (i := 40) (by decide +kernel))) (by decide +kernel)
theorem lk_L_136 : LkV RL 136 yX7_writePump cX7_writePump 1 (some .int) 0 := LkV_of q4_37 q4_38 q4_39 q1_1 q4_40 ⟨by decide, by decide, by decide +kernel⟩
theorem q5_206 : Cond.methodLink "JokePumpLaw" 139 ⟨"JokePumpModel", "writePump", "()I"⟩ ∈ lw_g := lw_gm (tin5 (List.mem_of_getElem? (i := 206) (by decide +kernel))) (by decide +kernel)
theorem q5_207 : Cond.instanceMethod ⟨"JokePumpModel", "writePump", "()I"⟩ ∈ lw_g := lw_gm (tin5 (List.mem_of_getElem? (i := 207) (by decide +kernel))) (by decide +kernel)
theorem q5_208 : Cond.selects "JokePumpModel" ⟨"JokePumpModel", "writePump", "()I"⟩ ⟨"JokePumpModel", "writePump", "()I"⟩ ∈ lw_g := lw_gm (tin5 (List.mem_of_getElem? (i := 208) (by decide +kernel))) (by decide +kernel)
theorem q5_209 : Cond.code ⟨"JokePumpModel", "writePump", "()I"⟩ prog_10_method_77_code 1 (some .int) ∈ lw_g := lw_gm (tin5 (List.mem_of_getElem? (i := 209) (by decide +kernel))) (by decide +kernel)
theorem lk_L_139 : LkV RL 139 yX8_writePump cX8_writePump 1 (some .int) 0 := LkV_of q5_206 q5_207 q5_208 q1_9 q5_209 ⟨by decide, by decide, by decide +kernel⟩
theorem q4_41 : Cond.methodLink "JokePumpLaw" 140 ⟨"JokePump", "written", "(I)I"⟩ ∈ lw_g := lw_gm (tin4 (List.mem_of_getElem? (i := 41) (by decide +kernel))) (by decide +kernel)
theorem q4_42 : Cond.instanceMethod ⟨"JokePump", "written", "(I)I"⟩ ∈ lw_g := lw_gm (tin4 (List.mem_of_getElem? (i := 42) (by decide +kernel))) (by decide +kernel)
theorem q4_43 : Cond.selects "JokePump" ⟨"JokePump", "written", "(I)I"⟩ ⟨"JokePump", "written", "(I)I"⟩ ∈ lw_g := lw_gm (tin4 (List.mem_of_getElem? (i := 43) (by decide +kernel))) (by decide +kernel)
theorem q4_44 : Cond.code ⟨"JokePump", "written", "(I)I"⟩ prog_1_method_36_code 2 (some .int) ∈ lw_g := lw_gm (tin4 (List.mem_of_getElem? (i := 44) (by decide +kernel))) (by decide +kernel)
theorem lk_L_140 : LkV RL 140 yX7_written cX7_written 2 (some .int) 1 := LkV_of q4_41 q4_42 q4_43 q1_1 q4_44 ⟨by decide, by decide, by decide +kernel⟩
theorem q5_210 : Cond.methodLink "JokePumpLaw" 143 ⟨"JokePumpModel", "written", "(I)I"⟩ ∈ lw_g := lw_gm (tin5 (List.mem_of_getElem? (i := 210) (by decide +kernel))) (by decide +kernel)
theorem q5_211 : Cond.instanceMethod ⟨"JokePumpModel", "written", "(I)I"⟩ ∈ lw_g := lw_gm (tin5 (List.mem_of_getElem? (i := 211) (by decide +kernel))) (by decide +kernel)
theorem q5_212 : Cond.selects "JokePumpModel" ⟨"JokePumpModel", "written", "(I)I"⟩ ⟨"JokePumpModel", "written", "(I)I"⟩ ∈ lw_g := lw_gm (tin5 (List.mem_of_getElem? (i := 212) (by decide +kernel))) (by decide +kernel)
theorem q5_213 : Cond.code ⟨"JokePumpModel", "written", "(I)I"⟩ prog_10_method_78_code 2 (some .int) ∈ lw_g := lw_gm (tin5 (List.mem_of_getElem? (i := 213) (by decide +kernel))) (by decide +kernel)
theorem lk_L_143 : LkV RL 143 yX8_written cX8_written 2 (some .int) 1 := LkV_of q5_210 q5_211 q5_212 q1_9 q5_213 ⟨by decide, by decide, by decide +kernel⟩
theorem q4_46 : Cond.methodLink "JokePumpLaw" 144 ⟨"JokePump", "append", "(C)I"⟩ ∈ lw_g := lw_gm (tin4 (List.mem_of_getElem? (i := 46) (by decide +kernel))) (by decide +kernel)
theorem q4_47 : Cond.instanceMethod ⟨"JokePump", "append", "(C)I"⟩ ∈ lw_g := lw_gm (tin4 (List.mem_of_getElem? (i := 47) (by decide +kernel))) (by decide +kernel)
theorem q4_48 : Cond.selects "JokePump" ⟨"JokePump", "append", "(C)I"⟩ ⟨"JokePump", "append", "(C)I"⟩ ∈ lw_g := lw_gm (tin4 (List.mem_of_getElem? (i := 48) (by decide +kernel))) (by decide +kernel)
theorem q4_49 : Cond.code ⟨"JokePump", "append", "(C)I"⟩ prog_1_method_37_code 2 (some .int) ∈ lw_g := lw_gm (tin4 (List.mem_of_getElem? (i := 49) (by decide +kernel))) (by decide +kernel)
theorem lk_L_144 : LkV RL 144 yX7_append cX7_append 2 (some .int) 1 := LkV_of q4_46 q4_47 q4_48 q1_1 q4_49 ⟨by decide, by decide, by decide +kernel⟩
theorem q5_214 : Cond.methodLink "JokePumpLaw" 148 ⟨"JokePumpModel", "append", "(C)I"⟩ ∈ lw_g := lw_gm (tin5 (List.mem_of_getElem? (i := 214) (by decide +kernel))) (by decide +kernel)
theorem q5_215 : Cond.instanceMethod ⟨"JokePumpModel", "append", "(C)I"⟩ ∈ lw_g := lw_gm (tin5 (List.mem_of_getElem? (i := 215) (by decide +kernel))) (by decide +kernel)
theorem q5_216 : Cond.selects "JokePumpModel" ⟨"JokePumpModel", "append", "(C)I"⟩ ⟨"JokePumpModel", "append", "(C)I"⟩ ∈ lw_g := lw_gm (tin5 (List.mem_of_getElem? (i := 216) (by decide +kernel))) (by decide +kernel)
theorem q5_217 : Cond.code ⟨"JokePumpModel", "append", "(C)I"⟩ prog_10_method_79_code 2 (some .int) ∈ lw_g := lw_gm (tin5 (List.mem_of_getElem? (i := 217) (by decide +kernel))) (by decide +kernel)
theorem lk_L_148 : LkV RL 148 yX8_append cX8_append 2 (some .int) 1 := LkV_of q5_214 q5_215 q5_216 q1_9 q5_217 ⟨by decide, by decide, by decide +kernel⟩
theorem q2_209 : Cond.methodLink "JokePumpLaw" 149 ⟨"JokePump", "read", "()I"⟩ ∈ lw_g := lw_gm (tin2 (List.mem_of_getElem? (i := 209) (by decide +kernel))) (by decide +kernel)
theorem q2_210 : Cond.instanceMethod ⟨"JokePump", "read", "()I"⟩ ∈ lw_g := lw_gm (tin2 (List.mem_of_getElem? (i := 210) (by decide +kernel))) (by decide +kernel)
theorem q2_211 : Cond.selects "JokePump" ⟨"JokePump", "read", "()I"⟩ ⟨"JokePump", "read", "()I"⟩ ∈ lw_g := lw_gm (tin2 (List.mem_of_getElem? (i := 211) (by decide +kernel))) (by decide +kernel)
theorem q2_212 : Cond.code ⟨"JokePump", "read", "()I"⟩ prog_1_method_10_code 2 (some .int) ∈ lw_g := lw_gm (tin2 (List.mem_of_getElem? (i := 212) (by decide +kernel))) (by decide +kernel)
theorem lk_L_149 : LkV RL 149 yX7_read cX7_read 2 (some .int) 0 := LkV_of q2_209 q2_210 q2_211 q1_1 q2_212 ⟨by decide, by decide, by decide +kernel⟩
theorem q5_222 : Cond.methodLink "JokePumpLaw" 152 ⟨"JokePumpModel", "read", "()I"⟩ ∈ lw_g := lw_gm (tin5 (List.mem_of_getElem? (i := 222) (by decide +kernel))) (by decide +kernel)
theorem q5_223 : Cond.instanceMethod ⟨"JokePumpModel", "read", "()I"⟩ ∈ lw_g := lw_gm (tin5 (List.mem_of_getElem? (i := 223) (by decide +kernel))) (by decide +kernel)
theorem q5_224 : Cond.selects "JokePumpModel" ⟨"JokePumpModel", "read", "()I"⟩ ⟨"JokePumpModel", "read", "()I"⟩ ∈ lw_g := lw_gm (tin5 (List.mem_of_getElem? (i := 224) (by decide +kernel))) (by decide +kernel)
theorem q5_225 : Cond.code ⟨"JokePumpModel", "read", "()I"⟩ prog_10_method_96_code 2 (some .int) ∈ lw_g := lw_gm (tin5 (List.mem_of_getElem? (i := 225) (by decide +kernel))) (by decide +kernel)
theorem lk_L_152 : LkV RL 152 yX8_read cX8_read 2 (some .int) 0 := LkV_of q5_222 q5_223 q5_224 q1_9 q5_225 ⟨by decide, by decide, by decide +kernel⟩
theorem q4_50 : Cond.methodLink "JokePumpLaw" 153 ⟨"JokePump", "fault", "()I"⟩ ∈ lw_g := lw_gm (tin4 (List.mem_of_getElem? (i := 50) (by decide +kernel))) (by decide +kernel)
theorem q4_51 : Cond.instanceMethod ⟨"JokePump", "fault", "()I"⟩ ∈ lw_g := lw_gm (tin4 (List.mem_of_getElem? (i := 51) (by decide +kernel))) (by decide +kernel)
theorem q4_52 : Cond.selects "JokePump" ⟨"JokePump", "fault", "()I"⟩ ⟨"JokePump", "fault", "()I"⟩ ∈ lw_g := lw_gm (tin4 (List.mem_of_getElem? (i := 52) (by decide +kernel))) (by decide +kernel)
theorem q4_53 : Cond.code ⟨"JokePump", "fault", "()I"⟩ prog_1_method_38_code 1 (some .int) ∈ lw_g := lw_gm (tin4 (List.mem_of_getElem? (i := 53) (by decide +kernel))) (by decide +kernel)
theorem lk_L_153 : LkV RL 153 yX7_fault cX7_fault 1 (some .int) 0 := LkV_of q4_50 q4_51 q4_52 q1_1 q4_53 ⟨by decide, by decide, by decide +kernel⟩
theorem q5_218 : Cond.methodLink "JokePumpLaw" 156 ⟨"JokePumpModel", "fault", "()I"⟩ ∈ lw_g := lw_gm (tin5 (List.mem_of_getElem? (i := 218) (by decide +kernel))) (by decide +kernel)
theorem q5_219 : Cond.instanceMethod ⟨"JokePumpModel", "fault", "()I"⟩ ∈ lw_g := lw_gm (tin5 (List.mem_of_getElem? (i := 219) (by decide +kernel))) (by decide +kernel)
theorem q5_220 : Cond.selects "JokePumpModel" ⟨"JokePumpModel", "fault", "()I"⟩ ⟨"JokePumpModel", "fault", "()I"⟩ ∈ lw_g := lw_gm (tin5 (List.mem_of_getElem? (i := 220) (by decide +kernel))) (by decide +kernel)
theorem q5_221 : Cond.code ⟨"JokePumpModel", "fault", "()I"⟩ prog_10_method_80_code 1 (some .int) ∈ lw_g := lw_gm (tin5 (List.mem_of_getElem? (i := 221) (by decide +kernel))) (by decide +kernel)
theorem lk_L_156 : LkV RL 156 yX8_fault cX8_fault 1 (some .int) 0 := LkV_of q5_218 q5_219 q5_220 q1_9 q5_221 ⟨by decide, by decide, by decide +kernel⟩
theorem q4_54 : Cond.methodLink "JokePumpLaw" 157 ⟨"JokePump", "reason", "(IZ)I"⟩ ∈ lw_g := lw_gm (tin4 (List.mem_of_getElem? (i := 54) (by decide +kernel))) (by decide +kernel)
theorem q4_55 : Cond.instanceMethod ⟨"JokePump", "reason", "(IZ)I"⟩ ∈ lw_g := lw_gm (tin4 (List.mem_of_getElem? (i := 55) (by decide +kernel))) (by decide +kernel)
theorem q4_56 : Cond.selects "JokePump" ⟨"JokePump", "reason", "(IZ)I"⟩ ⟨"JokePump", "reason", "(IZ)I"⟩ ∈ lw_g := lw_gm (tin4 (List.mem_of_getElem? (i := 56) (by decide +kernel))) (by decide +kernel)
theorem q4_57 : Cond.code ⟨"JokePump", "reason", "(IZ)I"⟩ prog_1_method_39_code 3 (some .int) ∈ lw_g := lw_gm (tin4 (List.mem_of_getElem? (i := 57) (by decide +kernel))) (by decide +kernel)
theorem lk_L_157 : LkV RL 157 yX7_reason cX7_reason 3 (some .int) 2 := LkV_of q4_54 q4_55 q4_56 q1_1 q4_57 ⟨by decide, by decide, by decide +kernel⟩
theorem q4_58 : Cond.methodLink "JokePumpLaw" 161 ⟨"JokePumpModel", "reason", "(IZ)I"⟩ ∈ lw_g := lw_gm (tin4 (List.mem_of_getElem? (i := 58) (by decide +kernel))) (by decide +kernel)
theorem q4_59 : Cond.instanceMethod ⟨"JokePumpModel", "reason", "(IZ)I"⟩ ∈ lw_g := lw_gm (tin4 (List.mem_of_getElem? (i := 59) (by decide +kernel))) (by decide +kernel)
theorem q4_60 : Cond.selects "JokePumpModel" ⟨"JokePumpModel", "reason", "(IZ)I"⟩ ⟨"JokePumpModel", "reason", "(IZ)I"⟩ ∈ lw_g := lw_gm (tin4 (List.mem_of_getElem? (i := 60) (by decide +kernel))) (by decide +kernel)
theorem q4_61 : Cond.code ⟨"JokePumpModel", "reason", "(IZ)I"⟩ prog_10_method_4_code 3 (some .int) ∈ lw_g := lw_gm (tin4 (List.mem_of_getElem? (i := 61) (by decide +kernel))) (by decide +kernel)
theorem lk_L_161 : LkV RL 161 yX8_reason cX8_reason 3 (some .int) 2 := LkV_of q4_58 q4_59 q4_60 q1_9 q4_61 ⟨by decide, by decide, by decide +kernel⟩
theorem q3_85 : Cond.methodLink "JokePumpLaw" 162 ⟨"JokePump", "undo", "()I"⟩ ∈ lw_g := lw_gm (tin3 (List.mem_of_getElem? (i := 85) (by decide +kernel))) (by decide +kernel)
theorem q3_86 : Cond.instanceMethod ⟨"JokePump", "undo", "()I"⟩ ∈ lw_g := lw_gm (tin3 (List.mem_of_getElem? (i := 86) (by decide +kernel))) (by decide +kernel)
theorem q3_87 : Cond.selects "JokePump" ⟨"JokePump", "undo", "()I"⟩ ⟨"JokePump", "undo", "()I"⟩ ∈ lw_g := lw_gm (tin3 (List.mem_of_getElem? (i := 87) (by decide +kernel))) (by decide +kernel)
theorem q3_88 : Cond.code ⟨"JokePump", "undo", "()I"⟩ prog_1_method_11_code 1 (some .int) ∈ lw_g := lw_gm (tin3 (List.mem_of_getElem? (i := 88) (by decide +kernel))) (by decide +kernel)
theorem lk_L_162 : LkV RL 162 yX7_undo cX7_undo 1 (some .int) 0 := LkV_of q3_85 q3_86 q3_87 q1_1 q3_88 ⟨by decide, by decide, by decide +kernel⟩
theorem q6_50 : Cond.methodLink "JokePumpLaw" 165 ⟨"JokePumpModel", "undo", "()I"⟩ ∈ lw_g := lw_gm (tin6 (List.mem_of_getElem? (i := 50) (by decide +kernel))) (by decide +kernel)
theorem q6_51 : Cond.instanceMethod ⟨"JokePumpModel", "undo", "()I"⟩ ∈ lw_g := lw_gm (tin6 (List.mem_of_getElem? (i := 51) (by decide +kernel))) (by decide +kernel)
theorem q6_52 : Cond.selects "JokePumpModel" ⟨"JokePumpModel", "undo", "()I"⟩ ⟨"JokePumpModel", "undo", "()I"⟩ ∈ lw_g := lw_gm (tin6 (List.mem_of_getElem? (i := 52) (by decide +kernel))) (by decide +kernel)
theorem q6_53 : Cond.code ⟨"JokePumpModel", "undo", "()I"⟩ prog_10_method_97_code 3 (some .int) ∈ lw_g := lw_gm (tin6 (List.mem_of_getElem? (i := 53) (by decide +kernel))) (by decide +kernel)
theorem lk_L_165 : LkV RL 165 yX8_undo cX8_undo 3 (some .int) 0 := LkV_of q6_50 q6_51 q6_52 q1_9 q6_53 ⟨by decide, by decide, by decide +kernel⟩
theorem q3_93 : Cond.methodLink "JokePumpLaw" 166 ⟨"JokePump", "save", "()I"⟩ ∈ lw_g := lw_gm (tin3 (List.mem_of_getElem? (i := 93) (by decide +kernel))) (by decide +kernel)
theorem q3_94 : Cond.instanceMethod ⟨"JokePump", "save", "()I"⟩ ∈ lw_g := lw_gm (tin3 (List.mem_of_getElem? (i := 94) (by decide +kernel))) (by decide +kernel)
theorem q3_95 : Cond.selects "JokePump" ⟨"JokePump", "save", "()I"⟩ ⟨"JokePump", "save", "()I"⟩ ∈ lw_g := lw_gm (tin3 (List.mem_of_getElem? (i := 95) (by decide +kernel))) (by decide +kernel)
theorem q3_96 : Cond.code ⟨"JokePump", "save", "()I"⟩ prog_1_method_12_code 1 (some .int) ∈ lw_g := lw_gm (tin3 (List.mem_of_getElem? (i := 96) (by decide +kernel))) (by decide +kernel)
theorem lk_L_166 : LkV RL 166 yX7_save cX7_save 1 (some .int) 0 := LkV_of q3_93 q3_94 q3_95 q1_1 q3_96 ⟨by decide, by decide, by decide +kernel⟩
theorem q6_54 : Cond.methodLink "JokePumpLaw" 169 ⟨"JokePumpModel", "save", "()I"⟩ ∈ lw_g := lw_gm (tin6 (List.mem_of_getElem? (i := 54) (by decide +kernel))) (by decide +kernel)
theorem q6_55 : Cond.instanceMethod ⟨"JokePumpModel", "save", "()I"⟩ ∈ lw_g := lw_gm (tin6 (List.mem_of_getElem? (i := 55) (by decide +kernel))) (by decide +kernel)
theorem q6_56 : Cond.selects "JokePumpModel" ⟨"JokePumpModel", "save", "()I"⟩ ⟨"JokePumpModel", "save", "()I"⟩ ∈ lw_g := lw_gm (tin6 (List.mem_of_getElem? (i := 56) (by decide +kernel))) (by decide +kernel)
theorem q6_57 : Cond.code ⟨"JokePumpModel", "save", "()I"⟩ prog_10_method_98_code 2 (some .int) ∈ lw_g := lw_gm (tin6 (List.mem_of_getElem? (i := 57) (by decide +kernel))) (by decide +kernel)
theorem lk_L_169 : LkV RL 169 yX8_save cX8_save 2 (some .int) 0 := LkV_of q6_54 q6_55 q6_56 q1_9 q6_57 ⟨by decide, by decide, by decide +kernel⟩
theorem q3_98 : Cond.methodLink "JokePumpLaw" 170 ⟨"JokePump", "restore", "()I"⟩ ∈ lw_g := lw_gm (tin3 (List.mem_of_getElem? (i := 98) (by decide +kernel))) (by decide +kernel)
theorem q3_99 : Cond.instanceMethod ⟨"JokePump", "restore", "()I"⟩ ∈ lw_g := lw_gm (tin3 (List.mem_of_getElem? (i := 99) (by decide +kernel))) (by decide +kernel)
theorem q3_100 : Cond.selects "JokePump" ⟨"JokePump", "restore", "()I"⟩ ⟨"JokePump", "restore", "()I"⟩ ∈ lw_g := lw_gm (tin3 (List.mem_of_getElem? (i := 100) (by decide +kernel))) (by decide +kernel)
theorem q3_101 : Cond.code ⟨"JokePump", "restore", "()I"⟩ prog_1_method_13_code 1 (some .int) ∈ lw_g := lw_gm (tin3 (List.mem_of_getElem? (i := 101) (by decide +kernel))) (by decide +kernel)
theorem lk_L_170 : LkV RL 170 yX7_restore cX7_restore 1 (some .int) 0 := LkV_of q3_98 q3_99 q3_100 q1_1 q3_101 ⟨by decide, by decide, by decide +kernel⟩
theorem q6_58 : Cond.methodLink "JokePumpLaw" 173 ⟨"JokePumpModel", "restore", "()I"⟩ ∈ lw_g := lw_gm (tin6 (List.mem_of_getElem? (i := 58) (by decide +kernel))) (by decide +kernel)
theorem q6_59 : Cond.instanceMethod ⟨"JokePumpModel", "restore", "()I"⟩ ∈ lw_g := lw_gm (tin6 (List.mem_of_getElem? (i := 59) (by decide +kernel))) (by decide +kernel)
theorem q6_60 : Cond.selects "JokePumpModel" ⟨"JokePumpModel", "restore", "()I"⟩ ⟨"JokePumpModel", "restore", "()I"⟩ ∈ lw_g := lw_gm (tin6 (List.mem_of_getElem? (i := 60) (by decide +kernel))) (by decide +kernel)
theorem q6_61 : Cond.code ⟨"JokePumpModel", "restore", "()I"⟩ prog_10_method_99_code 2 (some .int) ∈ lw_g := lw_gm (tin6 (List.mem_of_getElem? (i := 61) (by decide +kernel))) (by decide +kernel)
theorem lk_L_173 : LkV RL 173 yX8_restore cX8_restore 2 (some .int) 0 := LkV_of q6_58 q6_59 q6_60 q1_9 q6_61 ⟨by decide, by decide, by decide +kernel⟩
theorem q2_30 : Cond.methodLink "JokePump$History" 25 ⟨"JokePump$History", "slot", "()LJokePump$State;"⟩ ∈ lw_g := lw_gm (tin2 (List.mem_of_getElem? (i := 30) (by decide +kernel))) (by decide +kernel)
theorem q2_32 : Cond.instanceMethod ⟨"JokePump$History", "slot", "()LJokePump$State;"⟩ ∈ lw_g := lw_gm (tin2 (List.mem_of_getElem? (i := 32) (by decide +kernel))) (by decide +kernel)
theorem qs_0 : Cond.selects "JokePump$History" ⟨"JokePump$History", "slot", "()LJokePump$State;"⟩ ⟨"JokePump$History", "slot", "()LJokePump$State;"⟩ ∈ lw_g := lw_gm (tinS (q := (⟨"JokePump$History", "slot", "()LJokePump$State;"⟩, 3)) (List.mem_of_getElem? (i := 0) (by decide +kernel))) (by decide +kernel)
theorem q1_6 : Cond.initialized "JokePump$History" ∈ lw_g := lw_gm (tin1 (List.mem_of_getElem? (i := 6) (by decide +kernel))) (by decide +kernel)
theorem q2_33 : Cond.code ⟨"JokePump$History", "slot", "()LJokePump$State;"⟩ prog_2_method_7_code 1 (some (.object "JokePump$State")) ∈ lw_g := lw_gm (tin2 (List.mem_of_getElem? (i := 33) (by decide +kernel))) (by decide +kernel)
theorem lk_X0_25 : LkV RX0 25 yX0_slot cX0_slot 1 (some (.object "JokePump$State")) 0 := LkV_of q2_30 q2_32 qs_0 q1_6 q2_33 ⟨by decide, by decide, by decide +kernel⟩
theorem q2_34 : Cond.methodLink "JokePump$History" 29 ⟨"JokePump$State", "copy", "(LJokePump$State;LJokePump$State;)V"⟩ ∈ lw_g := lw_gm (tin2 (List.mem_of_getElem? (i := 34) (by decide +kernel))) (by decide +kernel)
theorem q2_35 : Cond.static ⟨"JokePump$State", "copy", "(LJokePump$State;LJokePump$State;)V"⟩ ∈ lw_g := lw_gm (tin2 (List.mem_of_getElem? (i := 35) (by decide +kernel))) (by decide +kernel)
theorem q1_2 : Cond.initialized "JokePump$State" ∈ lw_g := lw_gm (tin1 (List.mem_of_getElem? (i := 2) (by decide +kernel))) (by decide +kernel)
theorem q2_36 : Cond.code ⟨"JokePump$State", "copy", "(LJokePump$State;LJokePump$State;)V"⟩ prog_6_method_7_code 2 (none : Option Jvm.ClassFile.FieldType) ∈ lw_g := lw_gm (tin2 (List.mem_of_getElem? (i := 36) (by decide +kernel))) (by decide +kernel)
theorem lk_X0_29 : LkS RX0 29 yX4_copy cX4_copy 2 none 2 := LkS_of q2_34 q2_35 q1_2 q2_36 ⟨by decide, by decide, by decide +kernel⟩
theorem q2_95 : Cond.methodLink "JokePump$Jokes" 36 ⟨"JokePump$Row", "put", "(II)V"⟩ ∈ lw_g := lw_gm (tin2 (List.mem_of_getElem? (i := 95) (by decide +kernel))) (by decide +kernel)
theorem q1_113 : Cond.instanceMethod ⟨"JokePump$Row", "put", "(II)V"⟩ ∈ lw_g := lw_gm (tin1 (List.mem_of_getElem? (i := 113) (by decide +kernel))) (by decide +kernel)
theorem q1_114 : Cond.selects "JokePump$Row" ⟨"JokePump$Row", "put", "(II)V"⟩ ⟨"JokePump$Row", "put", "(II)V"⟩ ∈ lw_g := lw_gm (tin1 (List.mem_of_getElem? (i := 114) (by decide +kernel))) (by decide +kernel)
theorem q1_4 : Cond.initialized "JokePump$Row" ∈ lw_g := lw_gm (tin1 (List.mem_of_getElem? (i := 4) (by decide +kernel))) (by decide +kernel)
theorem q1_115 : Cond.code ⟨"JokePump$Row", "put", "(II)V"⟩ prog_5_method_3_code 3 (none : Option Jvm.ClassFile.FieldType) ∈ lw_g := lw_gm (tin1 (List.mem_of_getElem? (i := 115) (by decide +kernel))) (by decide +kernel)
theorem lk_X1_36 : LkV RX1 36 yX3_put cX3_put 3 none 2 := LkV_of q2_95 q1_113 q1_114 q1_4 q1_115 ⟨by decide, by decide, by decide +kernel⟩
theorem q2_130 : Cond.methodLink "JokePump$Jokes" 40 ⟨"JokePump$Jokes", "has", "(I)Z"⟩ ∈ lw_g := lw_gm (tin2 (List.mem_of_getElem? (i := 130) (by decide +kernel))) (by decide +kernel)
theorem q2_114 : Cond.instanceMethod ⟨"JokePump$Jokes", "has", "(I)Z"⟩ ∈ lw_g := lw_gm (tin2 (List.mem_of_getElem? (i := 114) (by decide +kernel))) (by decide +kernel)
theorem q2_115 : Cond.selects "JokePump$Jokes" ⟨"JokePump$Jokes", "has", "(I)Z"⟩ ⟨"JokePump$Jokes", "has", "(I)Z"⟩ ∈ lw_g := lw_gm (tin2 (List.mem_of_getElem? (i := 115) (by decide +kernel))) (by decide +kernel)
theorem q1_3 : Cond.initialized "JokePump$Jokes" ∈ lw_g := lw_gm (tin1 (List.mem_of_getElem? (i := 3) (by decide +kernel))) (by decide +kernel)
theorem q2_116 : Cond.code ⟨"JokePump$Jokes", "has", "(I)Z"⟩ prog_3_method_2_code 2 (some .boolean) ∈ lw_g := lw_gm (tin2 (List.mem_of_getElem? (i := 116) (by decide +kernel))) (by decide +kernel)
theorem lk_X1_40 : LkV RX1 40 yX1_has cX1_has 2 (some .boolean) 1 := LkV_of q2_130 q2_114 q2_115 q1_3 q2_116 ⟨by decide, by decide, by decide +kernel⟩
theorem q2_131 : Cond.methodLink "JokePump$Jokes" 44 ⟨"JokePump$Row", "takeOut", "(I)V"⟩ ∈ lw_g := lw_gm (tin2 (List.mem_of_getElem? (i := 131) (by decide +kernel))) (by decide +kernel)
theorem q2_132 : Cond.instanceMethod ⟨"JokePump$Row", "takeOut", "(I)V"⟩ ∈ lw_g := lw_gm (tin2 (List.mem_of_getElem? (i := 132) (by decide +kernel))) (by decide +kernel)
theorem q2_133 : Cond.selects "JokePump$Row" ⟨"JokePump$Row", "takeOut", "(I)V"⟩ ⟨"JokePump$Row", "takeOut", "(I)V"⟩ ∈ lw_g := lw_gm (tin2 (List.mem_of_getElem? (i := 133) (by decide +kernel))) (by decide +kernel)
theorem q2_134 : Cond.code ⟨"JokePump$Row", "takeOut", "(I)V"⟩ prog_5_method_4_code 3 (none : Option Jvm.ClassFile.FieldType) ∈ lw_g := lw_gm (tin2 (List.mem_of_getElem? (i := 134) (by decide +kernel))) (by decide +kernel)
theorem lk_X1_44 : LkV RX1 44 yX3_takeOut cX3_takeOut 3 none 1 := LkV_of q2_131 q2_132 q2_133 q1_4 q2_134 ⟨by decide, by decide, by decide +kernel⟩
theorem q2_78 : Cond.methodLink "JokePump$Jokes" 47 ⟨"JokePump$Row", "at", "(I)I"⟩ ∈ lw_g := lw_gm (tin2 (List.mem_of_getElem? (i := 78) (by decide +kernel))) (by decide +kernel)
theorem q2_67 : Cond.instanceMethod ⟨"JokePump$Row", "at", "(I)I"⟩ ∈ lw_g := lw_gm (tin2 (List.mem_of_getElem? (i := 67) (by decide +kernel))) (by decide +kernel)
theorem q2_68 : Cond.selects "JokePump$Row" ⟨"JokePump$Row", "at", "(I)I"⟩ ⟨"JokePump$Row", "at", "(I)I"⟩ ∈ lw_g := lw_gm (tin2 (List.mem_of_getElem? (i := 68) (by decide +kernel))) (by decide +kernel)
theorem q2_69 : Cond.code ⟨"JokePump$Row", "at", "(I)I"⟩ prog_5_method_2_code 2 (some .int) ∈ lw_g := lw_gm (tin2 (List.mem_of_getElem? (i := 69) (by decide +kernel))) (by decide +kernel)
theorem lk_X1_47 : LkV RX1 47 yX3_at cX3_at 2 (some .int) 1 := LkV_of q2_78 q2_67 q2_68 q1_4 q2_69 ⟨by decide, by decide, by decide +kernel⟩
theorem q2_87 : Cond.methodLink "JokePump$Jokes" 51 ⟨"JokePump$Jokes", "countWithin", "(II)I"⟩ ∈ lw_g := lw_gm (tin2 (List.mem_of_getElem? (i := 87) (by decide +kernel))) (by decide +kernel)
theorem q2_88 : Cond.instanceMethod ⟨"JokePump$Jokes", "countWithin", "(II)I"⟩ ∈ lw_g := lw_gm (tin2 (List.mem_of_getElem? (i := 88) (by decide +kernel))) (by decide +kernel)
theorem q2_89 : Cond.selects "JokePump$Jokes" ⟨"JokePump$Jokes", "countWithin", "(II)I"⟩ ⟨"JokePump$Jokes", "countWithin", "(II)I"⟩ ∈ lw_g := lw_gm (tin2 (List.mem_of_getElem? (i := 89) (by decide +kernel))) (by decide +kernel)
theorem q2_90 : Cond.code ⟨"JokePump$Jokes", "countWithin", "(II)I"⟩ prog_3_method_8_code 5 (some .int) ∈ lw_g := lw_gm (tin2 (List.mem_of_getElem? (i := 90) (by decide +kernel))) (by decide +kernel)
theorem lk_X1_51 : LkV RX1 51 yX1_countWithin cX1_countWithin 5 (some .int) 2 := LkV_of q2_87 q2_88 q2_89 q1_3 q2_90 ⟨by decide, by decide, by decide +kernel⟩
theorem q2_40 : Cond.methodLink "JokePump$Jokes" 55 ⟨"JokePump$Row", "copy", "(LJokePump$Row;LJokePump$Row;)V"⟩ ∈ lw_g := lw_gm (tin2 (List.mem_of_getElem? (i := 40) (by decide +kernel))) (by decide +kernel)
theorem q2_41 : Cond.static ⟨"JokePump$Row", "copy", "(LJokePump$Row;LJokePump$Row;)V"⟩ ∈ lw_g := lw_gm (tin2 (List.mem_of_getElem? (i := 41) (by decide +kernel))) (by decide +kernel)
theorem q2_42 : Cond.code ⟨"JokePump$Row", "copy", "(LJokePump$Row;LJokePump$Row;)V"⟩ prog_5_method_5_code 3 (none : Option Jvm.ClassFile.FieldType) ∈ lw_g := lw_gm (tin2 (List.mem_of_getElem? (i := 42) (by decide +kernel))) (by decide +kernel)
theorem lk_X1_55 : LkS RX1 55 yX3_copy cX3_copy 3 none 2 := LkS_of q2_40 q2_41 q1_4 q2_42 ⟨by decide, by decide, by decide +kernel⟩
theorem q2_217 : Cond.methodLink "JokePump$Reader" 30 ⟨"JokePump$Reader", "takeCommand", "(LJokePump$Strip;I)Z"⟩ ∈ lw_g := lw_gm (tin2 (List.mem_of_getElem? (i := 217) (by decide +kernel))) (by decide +kernel)
theorem q2_219 : Cond.instanceMethod ⟨"JokePump$Reader", "takeCommand", "(LJokePump$Strip;I)Z"⟩ ∈ lw_g := lw_gm (tin2 (List.mem_of_getElem? (i := 219) (by decide +kernel))) (by decide +kernel)
theorem qs_12 : Cond.selects "JokePump$Reader" ⟨"JokePump$Reader", "takeCommand", "(LJokePump$Strip;I)Z"⟩ ⟨"JokePump$Reader", "takeCommand", "(LJokePump$Strip;I)Z"⟩ ∈ lw_g := lw_gm (tinS (q := (⟨"JokePump$Reader", "takeCommand", "(LJokePump$Strip;I)Z"⟩, 4)) (List.mem_of_getElem? (i := 12) (by decide +kernel))) (by decide +kernel)
theorem q1_8 : Cond.initialized "JokePump$Reader" ∈ lw_g := lw_gm (tin1 (List.mem_of_getElem? (i := 8) (by decide +kernel))) (by decide +kernel)
theorem q2_220 : Cond.code ⟨"JokePump$Reader", "takeCommand", "(LJokePump$Strip;I)Z"⟩ prog_4_method_4_code 4 (some .boolean) ∈ lw_g := lw_gm (tin2 (List.mem_of_getElem? (i := 220) (by decide +kernel))) (by decide +kernel)
theorem lk_X2_30 : LkV RX2 30 yX2_takeCommand cX2_takeCommand 4 (some .boolean) 2 := LkV_of q2_217 q2_219 qs_12 q1_8 q2_220 ⟨by decide, by decide, by decide +kernel⟩
theorem q3_44 : Cond.methodLink "JokePump$Reader" 39 ⟨"JokePump$Strip", "signAt", "(I)I"⟩ ∈ lw_g := lw_gm (tin3 (List.mem_of_getElem? (i := 44) (by decide +kernel))) (by decide +kernel)
theorem q3_45 : Cond.instanceMethod ⟨"JokePump$Strip", "signAt", "(I)I"⟩ ∈ lw_g := lw_gm (tin3 (List.mem_of_getElem? (i := 45) (by decide +kernel))) (by decide +kernel)
theorem q3_46 : Cond.selects "JokePump$Strip" ⟨"JokePump$Strip", "signAt", "(I)I"⟩ ⟨"JokePump$Strip", "signAt", "(I)I"⟩ ∈ lw_g := lw_gm (tin3 (List.mem_of_getElem? (i := 46) (by decide +kernel))) (by decide +kernel)
theorem q1_7 : Cond.initialized "JokePump$Strip" ∈ lw_g := lw_gm (tin1 (List.mem_of_getElem? (i := 7) (by decide +kernel))) (by decide +kernel)
theorem q3_47 : Cond.code ⟨"JokePump$Strip", "signAt", "(I)I"⟩ prog_7_method_5_code 2 (some .int) ∈ lw_g := lw_gm (tin3 (List.mem_of_getElem? (i := 47) (by decide +kernel))) (by decide +kernel)
theorem lk_X2_39 : LkV RX2 39 yX5_signAt cX5_signAt 2 (some .int) 1 := LkV_of q3_44 q3_45 q3_46 q1_7 q3_47 ⟨by decide, by decide, by decide +kernel⟩
theorem q3_71 : Cond.methodLink "JokePump$Reader" 43 ⟨"JokePump$Row", "at", "(I)I"⟩ ∈ lw_g := lw_gm (tin3 (List.mem_of_getElem? (i := 71) (by decide +kernel))) (by decide +kernel)
theorem lk_X2_43 : LkV RX2 43 yX3_at cX3_at 2 (some .int) 1 := LkV_of q3_71 q2_67 q2_68 q1_4 q2_69 ⟨by decide, by decide, by decide +kernel⟩
theorem q2_221 : Cond.methodLink "JokePump$Reader" 46 ⟨"JokePump$Reader", "formOf", "(I)Ljava/lang/String;"⟩ ∈ lw_g := lw_gm (tin2 (List.mem_of_getElem? (i := 221) (by decide +kernel))) (by decide +kernel)
theorem q2_222 : Cond.static ⟨"JokePump$Reader", "formOf", "(I)Ljava/lang/String;"⟩ ∈ lw_g := lw_gm (tin2 (List.mem_of_getElem? (i := 222) (by decide +kernel))) (by decide +kernel)
theorem q2_223 : Cond.code ⟨"JokePump$Reader", "formOf", "(I)Ljava/lang/String;"⟩ prog_4_method_8_code 1 (some (.object "java/lang/String")) ∈ lw_g := lw_gm (tin2 (List.mem_of_getElem? (i := 223) (by decide +kernel))) (by decide +kernel)
theorem lk_X2_46 : LkS RX2 46 yX2_formOf cX2_formOf 1 (some (.object "java/lang/String")) 1 := LkS_of q2_221 q2_222 q1_8 q2_223 ⟨by decide, by decide, by decide +kernel⟩
theorem q2_232 : Cond.methodLink "JokePump$Reader" 50 ⟨"JokePump$Reader", "follow", "(LJokePump$Strip;ILjava/lang/String;)Z"⟩ ∈ lw_g := lw_gm (tin2 (List.mem_of_getElem? (i := 232) (by decide +kernel))) (by decide +kernel)
theorem q2_234 : Cond.instanceMethod ⟨"JokePump$Reader", "follow", "(LJokePump$Strip;ILjava/lang/String;)Z"⟩ ∈ lw_g := lw_gm (tin2 (List.mem_of_getElem? (i := 234) (by decide +kernel))) (by decide +kernel)
theorem qs_13 : Cond.selects "JokePump$Reader" ⟨"JokePump$Reader", "follow", "(LJokePump$Strip;ILjava/lang/String;)Z"⟩ ⟨"JokePump$Reader", "follow", "(LJokePump$Strip;ILjava/lang/String;)Z"⟩ ∈ lw_g := lw_gm (tinS (q := (⟨"JokePump$Reader", "follow", "(LJokePump$Strip;ILjava/lang/String;)Z"⟩, 4)) (List.mem_of_getElem? (i := 13) (by decide +kernel))) (by decide +kernel)
theorem q2_235 : Cond.code ⟨"JokePump$Reader", "follow", "(LJokePump$Strip;ILjava/lang/String;)Z"⟩ prog_4_method_5_code 9 (some .boolean) ∈ lw_g := lw_gm (tin2 (List.mem_of_getElem? (i := 235) (by decide +kernel))) (by decide +kernel)
theorem lk_X2_50 : LkV RX2 50 yX2_follow cX2_follow 9 (some .boolean) 3 := LkV_of q2_232 q2_234 qs_13 q1_8 q2_235 ⟨by decide, by decide, by decide +kernel⟩
theorem q3_55 : Cond.methodLink "JokePump$Reader" 54 ⟨"JokePump$Row", "put", "(II)V"⟩ ∈ lw_g := lw_gm (tin3 (List.mem_of_getElem? (i := 55) (by decide +kernel))) (by decide +kernel)
theorem lk_X2_54 : LkV RX2 54 yX3_put cX3_put 3 none 2 := LkV_of q3_55 q1_113 q1_114 q1_4 q1_115 ⟨by decide, by decide, by decide +kernel⟩
theorem q3_48 : Cond.methodLink "JokePump$Reader" 67 ⟨"JokePump$Reader", "takeNumber", "(LJokePump$Strip;IZI)I"⟩ ∈ lw_g := lw_gm (tin3 (List.mem_of_getElem? (i := 48) (by decide +kernel))) (by decide +kernel)
theorem q3_50 : Cond.instanceMethod ⟨"JokePump$Reader", "takeNumber", "(LJokePump$Strip;IZI)I"⟩ ∈ lw_g := lw_gm (tin3 (List.mem_of_getElem? (i := 50) (by decide +kernel))) (by decide +kernel)
theorem qs_14 : Cond.selects "JokePump$Reader" ⟨"JokePump$Reader", "takeNumber", "(LJokePump$Strip;IZI)I"⟩ ⟨"JokePump$Reader", "takeNumber", "(LJokePump$Strip;IZI)I"⟩ ∈ lw_g := lw_gm (tinS (q := (⟨"JokePump$Reader", "takeNumber", "(LJokePump$Strip;IZI)I"⟩, 4)) (List.mem_of_getElem? (i := 14) (by decide +kernel))) (by decide +kernel)
theorem q3_51 : Cond.code ⟨"JokePump$Reader", "takeNumber", "(LJokePump$Strip;IZI)I"⟩ prog_4_method_6_code 8 (some .int) ∈ lw_g := lw_gm (tin3 (List.mem_of_getElem? (i := 51) (by decide +kernel))) (by decide +kernel)
theorem lk_X2_67 : LkV RX2 67 yX2_takeNumber cX2_takeNumber 8 (some .int) 4 := LkV_of q3_48 q3_50 qs_14 q1_8 q3_51 ⟨by decide, by decide, by decide +kernel⟩
theorem q3_52 : Cond.methodLink "JokePump$Reader" 77 ⟨"JokePump$Reader", "digitAt", "(LJokePump$Strip;I)I"⟩ ∈ lw_g := lw_gm (tin3 (List.mem_of_getElem? (i := 52) (by decide +kernel))) (by decide +kernel)
theorem q3_53 : Cond.static ⟨"JokePump$Reader", "digitAt", "(LJokePump$Strip;I)I"⟩ ∈ lw_g := lw_gm (tin3 (List.mem_of_getElem? (i := 53) (by decide +kernel))) (by decide +kernel)
theorem q3_54 : Cond.code ⟨"JokePump$Reader", "digitAt", "(LJokePump$Strip;I)I"⟩ prog_4_method_7_code 3 (some .int) ∈ lw_g := lw_gm (tin3 (List.mem_of_getElem? (i := 54) (by decide +kernel))) (by decide +kernel)
theorem lk_X2_77 : LkS RX2 77 yX2_digitAt cX2_digitAt 3 (some .int) 2 := LkS_of q3_52 q3_53 q1_8 q3_54 ⟨by decide, by decide, by decide +kernel⟩
theorem q1_112 : Cond.methodLink "JokePump$State" 62 ⟨"JokePump$Row", "put", "(II)V"⟩ ∈ lw_g := lw_gm (tin1 (List.mem_of_getElem? (i := 112) (by decide +kernel))) (by decide +kernel)
theorem lk_X4_62 : LkV RX4 62 yX3_put cX3_put 3 none 2 := LkV_of q1_112 q1_113 q1_114 q1_4 q1_115 ⟨by decide, by decide, by decide +kernel⟩
theorem q2_188 : Cond.methodLink "JokePump$State" 75 ⟨"JokePump$Row", "at", "(I)I"⟩ ∈ lw_g := lw_gm (tin2 (List.mem_of_getElem? (i := 188) (by decide +kernel))) (by decide +kernel)
theorem lk_X4_75 : LkV RX4 75 yX3_at cX3_at 2 (some .int) 1 := LkV_of q2_188 q2_67 q2_68 q1_4 q2_69 ⟨by decide, by decide, by decide +kernel⟩
theorem q2_180 : Cond.methodLink "JokePump$State" 84 ⟨"JokePump$State", "reachBehind", "(II)I"⟩ ∈ lw_g := lw_gm (tin2 (List.mem_of_getElem? (i := 180) (by decide +kernel))) (by decide +kernel)
theorem q2_181 : Cond.static ⟨"JokePump$State", "reachBehind", "(II)I"⟩ ∈ lw_g := lw_gm (tin2 (List.mem_of_getElem? (i := 181) (by decide +kernel))) (by decide +kernel)
theorem q2_182 : Cond.code ⟨"JokePump$State", "reachBehind", "(II)I"⟩ prog_6_method_2_code 2 (some .int) ∈ lw_g := lw_gm (tin2 (List.mem_of_getElem? (i := 182) (by decide +kernel))) (by decide +kernel)
theorem lk_X4_84 : LkS RX4 84 yX4_reachBehind cX4_reachBehind 2 (some .int) 2 := LkS_of q2_180 q2_181 q1_2 q2_182 ⟨by decide, by decide, by decide +kernel⟩
theorem q2_184 : Cond.methodLink "JokePump$State" 87 ⟨"JokePump$State", "groansOf", "(I)I"⟩ ∈ lw_g := lw_gm (tin2 (List.mem_of_getElem? (i := 184) (by decide +kernel))) (by decide +kernel)
theorem q2_185 : Cond.static ⟨"JokePump$State", "groansOf", "(I)I"⟩ ∈ lw_g := lw_gm (tin2 (List.mem_of_getElem? (i := 185) (by decide +kernel))) (by decide +kernel)
theorem q2_186 : Cond.code ⟨"JokePump$State", "groansOf", "(I)I"⟩ prog_6_method_3_code 1 (some .int) ∈ lw_g := lw_gm (tin2 (List.mem_of_getElem? (i := 186) (by decide +kernel))) (by decide +kernel)
theorem lk_X4_87 : LkS RX4 87 yX4_groansOf cX4_groansOf 1 (some .int) 1 := LkS_of q2_184 q2_185 q1_2 q2_186 ⟨by decide, by decide, by decide +kernel⟩
theorem q2_187 : Cond.methodLink "JokePump$State" 90 ⟨"JokePump$Jokes", "countWithin", "(II)I"⟩ ∈ lw_g := lw_gm (tin2 (List.mem_of_getElem? (i := 187) (by decide +kernel))) (by decide +kernel)
theorem lk_X4_90 : LkV RX4 90 yX1_countWithin cX1_countWithin 5 (some .int) 2 := LkV_of q2_187 q2_88 q2_89 q1_3 q2_90 ⟨by decide, by decide, by decide +kernel⟩
theorem q2_189 : Cond.methodLink "JokePump$State" 93 ⟨"JokePump$Jokes", "byDepth", "(II)I"⟩ ∈ lw_g := lw_gm (tin2 (List.mem_of_getElem? (i := 189) (by decide +kernel))) (by decide +kernel)
theorem q2_190 : Cond.instanceMethod ⟨"JokePump$Jokes", "byDepth", "(II)I"⟩ ∈ lw_g := lw_gm (tin2 (List.mem_of_getElem? (i := 190) (by decide +kernel))) (by decide +kernel)
theorem q2_191 : Cond.selects "JokePump$Jokes" ⟨"JokePump$Jokes", "byDepth", "(II)I"⟩ ⟨"JokePump$Jokes", "byDepth", "(II)I"⟩ ∈ lw_g := lw_gm (tin2 (List.mem_of_getElem? (i := 191) (by decide +kernel))) (by decide +kernel)
theorem q2_192 : Cond.code ⟨"JokePump$Jokes", "byDepth", "(II)I"⟩ prog_3_method_9_code 4 (some .int) ∈ lw_g := lw_gm (tin2 (List.mem_of_getElem? (i := 192) (by decide +kernel))) (by decide +kernel)
theorem lk_X4_93 : LkV RX4 93 yX1_byDepth cX1_byDepth 4 (some .int) 2 := LkV_of q2_189 q2_190 q2_191 q1_3 q2_192 ⟨by decide, by decide, by decide +kernel⟩
theorem q2_193 : Cond.methodLink "JokePump$State" 96 ⟨"JokePump$State", "lift", "(I)V"⟩ ∈ lw_g := lw_gm (tin2 (List.mem_of_getElem? (i := 193) (by decide +kernel))) (by decide +kernel)
theorem q2_195 : Cond.instanceMethod ⟨"JokePump$State", "lift", "(I)V"⟩ ∈ lw_g := lw_gm (tin2 (List.mem_of_getElem? (i := 195) (by decide +kernel))) (by decide +kernel)
theorem qs_11 : Cond.selects "JokePump$State" ⟨"JokePump$State", "lift", "(I)V"⟩ ⟨"JokePump$State", "lift", "(I)V"⟩ ∈ lw_g := lw_gm (tinS (q := (⟨"JokePump$State", "lift", "(I)V"⟩, 12)) (List.mem_of_getElem? (i := 11) (by decide +kernel))) (by decide +kernel)
theorem q2_196 : Cond.code ⟨"JokePump$State", "lift", "(I)V"⟩ prog_6_method_6_code 2 (none : Option Jvm.ClassFile.FieldType) ∈ lw_g := lw_gm (tin2 (List.mem_of_getElem? (i := 196) (by decide +kernel))) (by decide +kernel)
theorem lk_X4_96 : LkV RX4 96 yX4_lift cX4_lift 2 none 1 := LkV_of q2_193 q2_195 qs_11 q1_2 q2_196 ⟨by decide, by decide, by decide +kernel⟩
theorem q2_197 : Cond.methodLink "JokePump$State" 105 ⟨"JokePump$State", "laughOf", "(II)F"⟩ ∈ lw_g := lw_gm (tin2 (List.mem_of_getElem? (i := 197) (by decide +kernel))) (by decide +kernel)
theorem q2_198 : Cond.instanceMethod ⟨"JokePump$State", "laughOf", "(II)F"⟩ ∈ lw_g := lw_gm (tin2 (List.mem_of_getElem? (i := 198) (by decide +kernel))) (by decide +kernel)
theorem q2_199 : Cond.selects "JokePump$State" ⟨"JokePump$State", "laughOf", "(II)F"⟩ ⟨"JokePump$State", "laughOf", "(II)F"⟩ ∈ lw_g := lw_gm (tin2 (List.mem_of_getElem? (i := 199) (by decide +kernel))) (by decide +kernel)
theorem q2_200 : Cond.code ⟨"JokePump$State", "laughOf", "(II)F"⟩ prog_6_method_4_code 4 (some .float) ∈ lw_g := lw_gm (tin2 (List.mem_of_getElem? (i := 200) (by decide +kernel))) (by decide +kernel)
theorem lk_X4_105 : LkV RX4 105 yX4_laughOf cX4_laughOf 4 (some .float) 2 := LkV_of q2_197 q2_198 q2_199 q1_2 q2_200 ⟨by decide, by decide, by decide +kernel⟩
theorem q2_203 : Cond.methodLink "JokePump$State" 109 ⟨"JokePump$Told", "add", "(IIF)V"⟩ ∈ lw_g := lw_gm (tin2 (List.mem_of_getElem? (i := 203) (by decide +kernel))) (by decide +kernel)
theorem q2_204 : Cond.instanceMethod ⟨"JokePump$Told", "add", "(IIF)V"⟩ ∈ lw_g := lw_gm (tin2 (List.mem_of_getElem? (i := 204) (by decide +kernel))) (by decide +kernel)
theorem q2_205 : Cond.selects "JokePump$Told" ⟨"JokePump$Told", "add", "(IIF)V"⟩ ⟨"JokePump$Told", "add", "(IIF)V"⟩ ∈ lw_g := lw_gm (tin2 (List.mem_of_getElem? (i := 205) (by decide +kernel))) (by decide +kernel)
theorem q1_5 : Cond.initialized "JokePump$Told" ∈ lw_g := lw_gm (tin1 (List.mem_of_getElem? (i := 5) (by decide +kernel))) (by decide +kernel)
theorem q2_206 : Cond.code ⟨"JokePump$Told", "add", "(IIF)V"⟩ prog_8_method_2_code 4 (none : Option Jvm.ClassFile.FieldType) ∈ lw_g := lw_gm (tin2 (List.mem_of_getElem? (i := 206) (by decide +kernel))) (by decide +kernel)
theorem lk_X4_109 : LkV RX4 109 yX6_add cX6_add 4 none 3 := LkV_of q2_203 q2_204 q2_205 q1_5 q2_206 ⟨by decide, by decide, by decide +kernel⟩
theorem q2_208 : Cond.methodLink "JokePump$State" 113 ⟨"JokePump$Jokes", "remove", "(I)V"⟩ ∈ lw_g := lw_gm (tin2 (List.mem_of_getElem? (i := 208) (by decide +kernel))) (by decide +kernel)
theorem q2_127 : Cond.instanceMethod ⟨"JokePump$Jokes", "remove", "(I)V"⟩ ∈ lw_g := lw_gm (tin2 (List.mem_of_getElem? (i := 127) (by decide +kernel))) (by decide +kernel)
theorem q2_128 : Cond.selects "JokePump$Jokes" ⟨"JokePump$Jokes", "remove", "(I)V"⟩ ⟨"JokePump$Jokes", "remove", "(I)V"⟩ ∈ lw_g := lw_gm (tin2 (List.mem_of_getElem? (i := 128) (by decide +kernel))) (by decide +kernel)
theorem q2_129 : Cond.code ⟨"JokePump$Jokes", "remove", "(I)V"⟩ prog_3_method_4_code 2 (none : Option Jvm.ClassFile.FieldType) ∈ lw_g := lw_gm (tin2 (List.mem_of_getElem? (i := 129) (by decide +kernel))) (by decide +kernel)
theorem lk_X4_113 : LkV RX4 113 yX1_remove cX1_remove 2 none 1 := LkV_of q2_208 q2_127 q2_128 q1_3 q2_129 ⟨by decide, by decide, by decide +kernel⟩
theorem q2_37 : Cond.methodLink "JokePump$State" 116 ⟨"JokePump$Jokes", "copy", "(LJokePump$Jokes;LJokePump$Jokes;)V"⟩ ∈ lw_g := lw_gm (tin2 (List.mem_of_getElem? (i := 37) (by decide +kernel))) (by decide +kernel)
theorem q2_38 : Cond.static ⟨"JokePump$Jokes", "copy", "(LJokePump$Jokes;LJokePump$Jokes;)V"⟩ ∈ lw_g := lw_gm (tin2 (List.mem_of_getElem? (i := 38) (by decide +kernel))) (by decide +kernel)
theorem q2_39 : Cond.code ⟨"JokePump$Jokes", "copy", "(LJokePump$Jokes;LJokePump$Jokes;)V"⟩ prog_3_method_12_code 2 (none : Option Jvm.ClassFile.FieldType) ∈ lw_g := lw_gm (tin2 (List.mem_of_getElem? (i := 39) (by decide +kernel))) (by decide +kernel)
theorem lk_X4_116 : LkS RX4 116 yX1_copy cX1_copy 2 none 2 := LkS_of q2_37 q2_38 q1_3 q2_39 ⟨by decide, by decide, by decide +kernel⟩
theorem q2_49 : Cond.methodLink "JokePump$State" 120 ⟨"JokePump$Told", "copy", "(LJokePump$Told;LJokePump$Told;)V"⟩ ∈ lw_g := lw_gm (tin2 (List.mem_of_getElem? (i := 49) (by decide +kernel))) (by decide +kernel)
theorem q2_50 : Cond.static ⟨"JokePump$Told", "copy", "(LJokePump$Told;LJokePump$Told;)V"⟩ ∈ lw_g := lw_gm (tin2 (List.mem_of_getElem? (i := 50) (by decide +kernel))) (by decide +kernel)
theorem q2_51 : Cond.code ⟨"JokePump$Told", "copy", "(LJokePump$Told;LJokePump$Told;)V"⟩ prog_8_method_7_code 2 (none : Option Jvm.ClassFile.FieldType) ∈ lw_g := lw_gm (tin2 (List.mem_of_getElem? (i := 51) (by decide +kernel))) (by decide +kernel)
theorem lk_X4_120 : LkS RX4 120 yX6_copy cX6_copy 2 none 2 := LkS_of q2_49 q2_50 q1_5 q2_51 ⟨by decide, by decide, by decide +kernel⟩
theorem q2_55 : Cond.methodLink "JokePump$State" 123 ⟨"JokePump$Row", "copy", "(LJokePump$Row;LJokePump$Row;)V"⟩ ∈ lw_g := lw_gm (tin2 (List.mem_of_getElem? (i := 55) (by decide +kernel))) (by decide +kernel)
theorem lk_X4_123 : LkS RX4 123 yX3_copy cX3_copy 3 none 2 := LkS_of q2_55 q2_41 q1_4 q2_42 ⟨by decide, by decide, by decide +kernel⟩
theorem q4_28 : Cond.methodLink "JokePump$Strip" 19 ⟨"JokePump$Strip", "putSign", "(C)V"⟩ ∈ lw_g := lw_gm (tin4 (List.mem_of_getElem? (i := 28) (by decide +kernel))) (by decide +kernel)
theorem q4_29 : Cond.instanceMethod ⟨"JokePump$Strip", "putSign", "(C)V"⟩ ∈ lw_g := lw_gm (tin4 (List.mem_of_getElem? (i := 29) (by decide +kernel))) (by decide +kernel)
theorem q4_30 : Cond.selects "JokePump$Strip" ⟨"JokePump$Strip", "putSign", "(C)V"⟩ ⟨"JokePump$Strip", "putSign", "(C)V"⟩ ∈ lw_g := lw_gm (tin4 (List.mem_of_getElem? (i := 30) (by decide +kernel))) (by decide +kernel)
theorem q4_31 : Cond.code ⟨"JokePump$Strip", "putSign", "(C)V"⟩ prog_7_method_3_code 2 (none : Option Jvm.ClassFile.FieldType) ∈ lw_g := lw_gm (tin4 (List.mem_of_getElem? (i := 31) (by decide +kernel))) (by decide +kernel)
theorem lk_X5_19 : LkV RX5 19 yX5_putSign cX5_putSign 2 none 1 := LkV_of q4_28 q4_29 q4_30 q1_7 q4_31 ⟨by decide, by decide, by decide +kernel⟩
theorem q2_207 : Cond.methodLink "JokePump$Told" 38 ⟨"JokePump$Row", "put", "(II)V"⟩ ∈ lw_g := lw_gm (tin2 (List.mem_of_getElem? (i := 207) (by decide +kernel))) (by decide +kernel)
theorem lk_X6_38 : LkV RX6 38 yX3_put cX3_put 3 none 2 := LkV_of q2_207 q1_113 q1_114 q1_4 q1_115 ⟨by decide, by decide, by decide +kernel⟩
theorem q3_186 : Cond.methodLink "JokePump$Told" 42 ⟨"JokePump$Told", "laughAt", "(I)F"⟩ ∈ lw_g := lw_gm (tin3 (List.mem_of_getElem? (i := 186) (by decide +kernel))) (by decide +kernel)
theorem q3_187 : Cond.instanceMethod ⟨"JokePump$Told", "laughAt", "(I)F"⟩ ∈ lw_g := lw_gm (tin3 (List.mem_of_getElem? (i := 187) (by decide +kernel))) (by decide +kernel)
theorem q3_188 : Cond.selects "JokePump$Told" ⟨"JokePump$Told", "laughAt", "(I)F"⟩ ⟨"JokePump$Told", "laughAt", "(I)F"⟩ ∈ lw_g := lw_gm (tin3 (List.mem_of_getElem? (i := 188) (by decide +kernel))) (by decide +kernel)
theorem q3_189 : Cond.code ⟨"JokePump$Told", "laughAt", "(I)F"⟩ prog_8_method_3_code 2 (some .float) ∈ lw_g := lw_gm (tin3 (List.mem_of_getElem? (i := 189) (by decide +kernel))) (by decide +kernel)
theorem lk_X6_42 : LkV RX6 42 yX6_laughAt cX6_laughAt 2 (some .float) 1 := LkV_of q3_186 q3_187 q3_188 q1_5 q3_189 ⟨by decide, by decide, by decide +kernel⟩
theorem q3_124 : Cond.methodLink "JokePump$Told" 46 ⟨"JokePump$Row", "at", "(I)I"⟩ ∈ lw_g := lw_gm (tin3 (List.mem_of_getElem? (i := 124) (by decide +kernel))) (by decide +kernel)
theorem lk_X6_46 : LkV RX6 46 yX3_at cX3_at 2 (some .int) 1 := LkV_of q3_124 q2_67 q2_68 q1_4 q2_69 ⟨by decide, by decide, by decide +kernel⟩
theorem q2_52 : Cond.methodLink "JokePump$Told" 50 ⟨"JokePump$Row", "copy", "(LJokePump$Row;LJokePump$Row;)V"⟩ ∈ lw_g := lw_gm (tin2 (List.mem_of_getElem? (i := 52) (by decide +kernel))) (by decide +kernel)
theorem lk_X6_50 : LkS RX6 50 yX3_copy cX3_copy 3 none 2 := LkS_of q2_52 q2_41 q1_4 q2_42 ⟨by decide, by decide, by decide +kernel⟩
theorem q2_26 : Cond.methodLink "JokePump" 63 ⟨"JokePump$History", "prepare", "(LJokePump$State;)V"⟩ ∈ lw_g := lw_gm (tin2 (List.mem_of_getElem? (i := 26) (by decide +kernel))) (by decide +kernel)
theorem q2_27 : Cond.instanceMethod ⟨"JokePump$History", "prepare", "(LJokePump$State;)V"⟩ ∈ lw_g := lw_gm (tin2 (List.mem_of_getElem? (i := 27) (by decide +kernel))) (by decide +kernel)
theorem q2_28 : Cond.selects "JokePump$History" ⟨"JokePump$History", "prepare", "(LJokePump$State;)V"⟩ ⟨"JokePump$History", "prepare", "(LJokePump$State;)V"⟩ ∈ lw_g := lw_gm (tin2 (List.mem_of_getElem? (i := 28) (by decide +kernel))) (by decide +kernel)
theorem q2_29 : Cond.code ⟨"JokePump$History", "prepare", "(LJokePump$State;)V"⟩ prog_2_method_2_code 2 (none : Option Jvm.ClassFile.FieldType) ∈ lw_g := lw_gm (tin2 (List.mem_of_getElem? (i := 29) (by decide +kernel))) (by decide +kernel)
theorem lk_X7_63 : LkV RX7 63 yX0_prepare cX0_prepare 2 none 1 := LkV_of q2_26 q2_27 q2_28 q1_6 q2_29 ⟨by decide, by decide, by decide +kernel⟩
theorem q2_56 : Cond.methodLink "JokePump" 67 ⟨"JokePump", "letCome", "(IIII)I"⟩ ∈ lw_g := lw_gm (tin2 (List.mem_of_getElem? (i := 56) (by decide +kernel))) (by decide +kernel)
theorem q2_58 : Cond.instanceMethod ⟨"JokePump", "letCome", "(IIII)I"⟩ ∈ lw_g := lw_gm (tin2 (List.mem_of_getElem? (i := 58) (by decide +kernel))) (by decide +kernel)
theorem qs_1 : Cond.selects "JokePump" ⟨"JokePump", "letCome", "(IIII)I"⟩ ⟨"JokePump", "letCome", "(IIII)I"⟩ ∈ lw_g := lw_gm (tinS (q := (⟨"JokePump", "letCome", "(IIII)I"⟩, 12)) (List.mem_of_getElem? (i := 1) (by decide +kernel))) (by decide +kernel)
theorem q2_59 : Cond.code ⟨"JokePump", "letCome", "(IIII)I"⟩ prog_1_method_40_code 7 (some .int) ∈ lw_g := lw_gm (tin2 (List.mem_of_getElem? (i := 59) (by decide +kernel))) (by decide +kernel)
theorem lk_X7_67 : LkV RX7 67 yX7_letCome cX7_letCome 7 (some .int) 4 := LkV_of q2_56 q2_58 qs_1 q1_1 q2_59 ⟨by decide, by decide, by decide +kernel⟩
theorem q2_96 : Cond.methodLink "JokePump" 71 ⟨"JokePump", "keepChange", "(I)I"⟩ ∈ lw_g := lw_gm (tin2 (List.mem_of_getElem? (i := 96) (by decide +kernel))) (by decide +kernel)
theorem q2_98 : Cond.instanceMethod ⟨"JokePump", "keepChange", "(I)I"⟩ ∈ lw_g := lw_gm (tin2 (List.mem_of_getElem? (i := 98) (by decide +kernel))) (by decide +kernel)
theorem qs_3 : Cond.selects "JokePump" ⟨"JokePump", "keepChange", "(I)I"⟩ ⟨"JokePump", "keepChange", "(I)I"⟩ ∈ lw_g := lw_gm (tinS (q := (⟨"JokePump", "keepChange", "(I)I"⟩, 12)) (List.mem_of_getElem? (i := 3) (by decide +kernel))) (by decide +kernel)
theorem q2_99 : Cond.code ⟨"JokePump", "keepChange", "(I)I"⟩ prog_1_method_48_code 2 (some .int) ∈ lw_g := lw_gm (tin2 (List.mem_of_getElem? (i := 99) (by decide +kernel))) (by decide +kernel)
theorem lk_X7_71 : LkV RX7 71 yX7_keepChange cX7_keepChange 2 (some .int) 1 := LkV_of q2_96 q2_98 qs_3 q1_1 q2_99 ⟨by decide, by decide, by decide +kernel⟩
theorem q2_109 : Cond.methodLink "JokePump" 75 ⟨"JokePump", "makePrimed", "(I)I"⟩ ∈ lw_g := lw_gm (tin2 (List.mem_of_getElem? (i := 109) (by decide +kernel))) (by decide +kernel)
theorem q2_111 : Cond.instanceMethod ⟨"JokePump", "makePrimed", "(I)I"⟩ ∈ lw_g := lw_gm (tin2 (List.mem_of_getElem? (i := 111) (by decide +kernel))) (by decide +kernel)
theorem qs_4 : Cond.selects "JokePump" ⟨"JokePump", "makePrimed", "(I)I"⟩ ⟨"JokePump", "makePrimed", "(I)I"⟩ ∈ lw_g := lw_gm (tinS (q := (⟨"JokePump", "makePrimed", "(I)I"⟩, 12)) (List.mem_of_getElem? (i := 4) (by decide +kernel))) (by decide +kernel)
theorem q2_112 : Cond.code ⟨"JokePump", "makePrimed", "(I)I"⟩ prog_1_method_41_code 2 (some .int) ∈ lw_g := lw_gm (tin2 (List.mem_of_getElem? (i := 112) (by decide +kernel))) (by decide +kernel)
theorem lk_X7_75 : LkV RX7 75 yX7_makePrimed cX7_makePrimed 2 (some .int) 1 := LkV_of q2_109 q2_111 qs_4 q1_1 q2_112 ⟨by decide, by decide, by decide +kernel⟩
theorem q2_122 : Cond.methodLink "JokePump" 78 ⟨"JokePump", "letGo", "(I)I"⟩ ∈ lw_g := lw_gm (tin2 (List.mem_of_getElem? (i := 122) (by decide +kernel))) (by decide +kernel)
theorem q2_124 : Cond.instanceMethod ⟨"JokePump", "letGo", "(I)I"⟩ ∈ lw_g := lw_gm (tin2 (List.mem_of_getElem? (i := 124) (by decide +kernel))) (by decide +kernel)
theorem qs_5 : Cond.selects "JokePump" ⟨"JokePump", "letGo", "(I)I"⟩ ⟨"JokePump", "letGo", "(I)I"⟩ ∈ lw_g := lw_gm (tinS (q := (⟨"JokePump", "letGo", "(I)I"⟩, 12)) (List.mem_of_getElem? (i := 5) (by decide +kernel))) (by decide +kernel)
theorem q2_125 : Cond.code ⟨"JokePump", "letGo", "(I)I"⟩ prog_1_method_42_code 2 (some .int) ∈ lw_g := lw_gm (tin2 (List.mem_of_getElem? (i := 125) (by decide +kernel))) (by decide +kernel)
theorem lk_X7_78 : LkV RX7 78 yX7_letGo cX7_letGo 2 (some .int) 1 := LkV_of q2_122 q2_124 qs_5 q1_1 q2_125 ⟨by decide, by decide, by decide +kernel⟩
theorem q2_139 : Cond.methodLink "JokePump" 81 ⟨"JokePump", "drainGroans", "(I)I"⟩ ∈ lw_g := lw_gm (tin2 (List.mem_of_getElem? (i := 139) (by decide +kernel))) (by decide +kernel)
theorem q2_141 : Cond.instanceMethod ⟨"JokePump", "drainGroans", "(I)I"⟩ ∈ lw_g := lw_gm (tin2 (List.mem_of_getElem? (i := 141) (by decide +kernel))) (by decide +kernel)
theorem qs_6 : Cond.selects "JokePump" ⟨"JokePump", "drainGroans", "(I)I"⟩ ⟨"JokePump", "drainGroans", "(I)I"⟩ ∈ lw_g := lw_gm (tinS (q := (⟨"JokePump", "drainGroans", "(I)I"⟩, 12)) (List.mem_of_getElem? (i := 6) (by decide +kernel))) (by decide +kernel)
theorem q2_142 : Cond.code ⟨"JokePump", "drainGroans", "(I)I"⟩ prog_1_method_43_code 2 (some .int) ∈ lw_g := lw_gm (tin2 (List.mem_of_getElem? (i := 142) (by decide +kernel))) (by decide +kernel)
theorem lk_X7_81 : LkV RX7 81 yX7_drainGroans cX7_drainGroans 2 (some .int) 1 := LkV_of q2_139 q2_141 qs_6 q1_1 q2_142 ⟨by decide, by decide, by decide +kernel⟩
theorem q2_148 : Cond.methodLink "JokePump" 84 ⟨"JokePump", "setStroke", "(I)I"⟩ ∈ lw_g := lw_gm (tin2 (List.mem_of_getElem? (i := 148) (by decide +kernel))) (by decide +kernel)
theorem q2_150 : Cond.instanceMethod ⟨"JokePump", "setStroke", "(I)I"⟩ ∈ lw_g := lw_gm (tin2 (List.mem_of_getElem? (i := 150) (by decide +kernel))) (by decide +kernel)
theorem qs_7 : Cond.selects "JokePump" ⟨"JokePump", "setStroke", "(I)I"⟩ ⟨"JokePump", "setStroke", "(I)I"⟩ ∈ lw_g := lw_gm (tinS (q := (⟨"JokePump", "setStroke", "(I)I"⟩, 12)) (List.mem_of_getElem? (i := 7) (by decide +kernel))) (by decide +kernel)
theorem q2_151 : Cond.code ⟨"JokePump", "setStroke", "(I)I"⟩ prog_1_method_44_code 3 (some .int) ∈ lw_g := lw_gm (tin2 (List.mem_of_getElem? (i := 151) (by decide +kernel))) (by decide +kernel)
theorem lk_X7_84 : LkV RX7 84 yX7_setStroke cX7_setStroke 3 (some .int) 1 := LkV_of q2_148 q2_150 qs_7 q1_1 q2_151 ⟨by decide, by decide, by decide +kernel⟩
theorem q2_156 : Cond.methodLink "JokePump" 87 ⟨"JokePump", "setBucket", "(II)I"⟩ ∈ lw_g := lw_gm (tin2 (List.mem_of_getElem? (i := 156) (by decide +kernel))) (by decide +kernel)
theorem q2_158 : Cond.instanceMethod ⟨"JokePump", "setBucket", "(II)I"⟩ ∈ lw_g := lw_gm (tin2 (List.mem_of_getElem? (i := 158) (by decide +kernel))) (by decide +kernel)
theorem qs_8 : Cond.selects "JokePump" ⟨"JokePump", "setBucket", "(II)I"⟩ ⟨"JokePump", "setBucket", "(II)I"⟩ ∈ lw_g := lw_gm (tinS (q := (⟨"JokePump", "setBucket", "(II)I"⟩, 12)) (List.mem_of_getElem? (i := 8) (by decide +kernel))) (by decide +kernel)
theorem q2_159 : Cond.code ⟨"JokePump", "setBucket", "(II)I"⟩ prog_1_method_45_code 4 (some .int) ∈ lw_g := lw_gm (tin2 (List.mem_of_getElem? (i := 159) (by decide +kernel))) (by decide +kernel)
theorem lk_X7_87 : LkV RX7 87 yX7_setBucket cX7_setBucket 4 (some .int) 2 := LkV_of q2_156 q2_158 qs_8 q1_1 q2_159 ⟨by decide, by decide, by decide +kernel⟩
theorem q2_164 : Cond.methodLink "JokePump" 91 ⟨"JokePump", "moveTo", "(I)I"⟩ ∈ lw_g := lw_gm (tin2 (List.mem_of_getElem? (i := 164) (by decide +kernel))) (by decide +kernel)
theorem q2_166 : Cond.instanceMethod ⟨"JokePump", "moveTo", "(I)I"⟩ ∈ lw_g := lw_gm (tin2 (List.mem_of_getElem? (i := 166) (by decide +kernel))) (by decide +kernel)
theorem qs_9 : Cond.selects "JokePump" ⟨"JokePump", "moveTo", "(I)I"⟩ ⟨"JokePump", "moveTo", "(I)I"⟩ ∈ lw_g := lw_gm (tinS (q := (⟨"JokePump", "moveTo", "(I)I"⟩, 12)) (List.mem_of_getElem? (i := 9) (by decide +kernel))) (by decide +kernel)
theorem q2_167 : Cond.code ⟨"JokePump", "moveTo", "(I)I"⟩ prog_1_method_46_code 3 (some .int) ∈ lw_g := lw_gm (tin2 (List.mem_of_getElem? (i := 167) (by decide +kernel))) (by decide +kernel)
theorem lk_X7_91 : LkV RX7 91 yX7_moveTo cX7_moveTo 3 (some .int) 1 := LkV_of q2_164 q2_166 qs_9 q1_1 q2_167 ⟨by decide, by decide, by decide +kernel⟩
theorem q2_172 : Cond.methodLink "JokePump" 94 ⟨"JokePump", "makeStrokes", "(I)I"⟩ ∈ lw_g := lw_gm (tin2 (List.mem_of_getElem? (i := 172) (by decide +kernel))) (by decide +kernel)
theorem q2_174 : Cond.instanceMethod ⟨"JokePump", "makeStrokes", "(I)I"⟩ ∈ lw_g := lw_gm (tin2 (List.mem_of_getElem? (i := 174) (by decide +kernel))) (by decide +kernel)
theorem qs_10 : Cond.selects "JokePump" ⟨"JokePump", "makeStrokes", "(I)I"⟩ ⟨"JokePump", "makeStrokes", "(I)I"⟩ ∈ lw_g := lw_gm (tinS (q := (⟨"JokePump", "makeStrokes", "(I)I"⟩, 12)) (List.mem_of_getElem? (i := 10) (by decide +kernel))) (by decide +kernel)
theorem q2_175 : Cond.code ⟨"JokePump", "makeStrokes", "(I)I"⟩ prog_1_method_47_code 4 (some .int) ∈ lw_g := lw_gm (tin2 (List.mem_of_getElem? (i := 175) (by decide +kernel))) (by decide +kernel)
theorem lk_X7_94 : LkV RX7 94 yX7_makeStrokes cX7_makeStrokes 4 (some .int) 1 := LkV_of q2_172 q2_174 qs_10 q1_1 q2_175 ⟨by decide, by decide, by decide +kernel⟩
theorem q2_213 : Cond.methodLink "JokePump" 97 ⟨"JokePump$Reader", "isText", "(LJokePump$Strip;)Z"⟩ ∈ lw_g := lw_gm (tin2 (List.mem_of_getElem? (i := 213) (by decide +kernel))) (by decide +kernel)
theorem q2_214 : Cond.instanceMethod ⟨"JokePump$Reader", "isText", "(LJokePump$Strip;)Z"⟩ ∈ lw_g := lw_gm (tin2 (List.mem_of_getElem? (i := 214) (by decide +kernel))) (by decide +kernel)
theorem q2_215 : Cond.selects "JokePump$Reader" ⟨"JokePump$Reader", "isText", "(LJokePump$Strip;)Z"⟩ ⟨"JokePump$Reader", "isText", "(LJokePump$Strip;)Z"⟩ ∈ lw_g := lw_gm (tin2 (List.mem_of_getElem? (i := 215) (by decide +kernel))) (by decide +kernel)
theorem q2_216 : Cond.code ⟨"JokePump$Reader", "isText", "(LJokePump$Strip;)Z"⟩ prog_4_method_2_code 3 (some .boolean) ∈ lw_g := lw_gm (tin2 (List.mem_of_getElem? (i := 216) (by decide +kernel))) (by decide +kernel)
theorem lk_X7_97 : LkV RX7 97 yX2_isText cX2_isText 3 (some .boolean) 1 := LkV_of q2_213 q2_214 q2_215 q1_8 q2_216 ⟨by decide, by decide, by decide +kernel⟩
theorem q3_59 : Cond.methodLink "JokePump" 101 ⟨"JokePump", "doCommands", "()I"⟩ ∈ lw_g := lw_gm (tin3 (List.mem_of_getElem? (i := 59) (by decide +kernel))) (by decide +kernel)
theorem q3_61 : Cond.instanceMethod ⟨"JokePump", "doCommands", "()I"⟩ ∈ lw_g := lw_gm (tin3 (List.mem_of_getElem? (i := 61) (by decide +kernel))) (by decide +kernel)
theorem qs_15 : Cond.selects "JokePump" ⟨"JokePump", "doCommands", "()I"⟩ ⟨"JokePump", "doCommands", "()I"⟩ ∈ lw_g := lw_gm (tinS (q := (⟨"JokePump", "doCommands", "()I"⟩, 12)) (List.mem_of_getElem? (i := 15) (by decide +kernel))) (by decide +kernel)
theorem q3_62 : Cond.code ⟨"JokePump", "doCommands", "()I"⟩ prog_1_method_50_code 3 (some .int) ∈ lw_g := lw_gm (tin3 (List.mem_of_getElem? (i := 62) (by decide +kernel))) (by decide +kernel)
theorem lk_X7_101 : LkV RX7 101 yX7_doCommands cX7_doCommands 3 (some .int) 0 := LkV_of q3_59 q3_61 qs_15 q1_1 q3_62 ⟨by decide, by decide, by decide +kernel⟩
theorem q3_80 : Cond.methodLink "JokePump" 108 ⟨"JokePump$Strip", "clear", "()V"⟩ ∈ lw_g := lw_gm (tin3 (List.mem_of_getElem? (i := 80) (by decide +kernel))) (by decide +kernel)
theorem q3_81 : Cond.instanceMethod ⟨"JokePump$Strip", "clear", "()V"⟩ ∈ lw_g := lw_gm (tin3 (List.mem_of_getElem? (i := 81) (by decide +kernel))) (by decide +kernel)
theorem q3_82 : Cond.selects "JokePump$Strip" ⟨"JokePump$Strip", "clear", "()V"⟩ ⟨"JokePump$Strip", "clear", "()V"⟩ ∈ lw_g := lw_gm (tin3 (List.mem_of_getElem? (i := 82) (by decide +kernel))) (by decide +kernel)
theorem q3_83 : Cond.code ⟨"JokePump$Strip", "clear", "()V"⟩ prog_7_method_2_code 1 (none : Option Jvm.ClassFile.FieldType) ∈ lw_g := lw_gm (tin3 (List.mem_of_getElem? (i := 83) (by decide +kernel))) (by decide +kernel)
theorem lk_X7_108 : LkV RX7 108 yX5_clear cX5_clear 1 none 0 := LkV_of q3_80 q3_81 q3_82 q1_7 q3_83 ⟨by decide, by decide, by decide +kernel⟩
theorem q3_89 : Cond.methodLink "JokePump" 114 ⟨"JokePump$History", "takeBack", "(LJokePump$State;)V"⟩ ∈ lw_g := lw_gm (tin3 (List.mem_of_getElem? (i := 89) (by decide +kernel))) (by decide +kernel)
theorem q3_90 : Cond.instanceMethod ⟨"JokePump$History", "takeBack", "(LJokePump$State;)V"⟩ ∈ lw_g := lw_gm (tin3 (List.mem_of_getElem? (i := 90) (by decide +kernel))) (by decide +kernel)
theorem q3_91 : Cond.selects "JokePump$History" ⟨"JokePump$History", "takeBack", "(LJokePump$State;)V"⟩ ⟨"JokePump$History", "takeBack", "(LJokePump$State;)V"⟩ ∈ lw_g := lw_gm (tin3 (List.mem_of_getElem? (i := 91) (by decide +kernel))) (by decide +kernel)
theorem q3_92 : Cond.code ⟨"JokePump$History", "takeBack", "(LJokePump$State;)V"⟩ prog_2_method_5_code 2 (none : Option Jvm.ClassFile.FieldType) ∈ lw_g := lw_gm (tin3 (List.mem_of_getElem? (i := 92) (by decide +kernel))) (by decide +kernel)
theorem lk_X7_114 : LkV RX7 114 yX0_takeBack cX0_takeBack 2 none 1 := LkV_of q3_89 q3_90 q3_91 q1_6 q3_92 ⟨by decide, by decide, by decide +kernel⟩
theorem q3_97 : Cond.methodLink "JokePump" 117 ⟨"JokePump$State", "copy", "(LJokePump$State;LJokePump$State;)V"⟩ ∈ lw_g := lw_gm (tin3 (List.mem_of_getElem? (i := 97) (by decide +kernel))) (by decide +kernel)
theorem lk_X7_117 : LkS RX7 117 yX4_copy cX4_copy 2 none 2 := LkS_of q3_97 q2_35 q1_2 q2_36 ⟨by decide, by decide, by decide +kernel⟩
theorem q3_102 : Cond.methodLink "JokePump" 128 ⟨"JokePump$History", "forget", "()V"⟩ ∈ lw_g := lw_gm (tin3 (List.mem_of_getElem? (i := 102) (by decide +kernel))) (by decide +kernel)
theorem q3_103 : Cond.instanceMethod ⟨"JokePump$History", "forget", "()V"⟩ ∈ lw_g := lw_gm (tin3 (List.mem_of_getElem? (i := 103) (by decide +kernel))) (by decide +kernel)
theorem q3_104 : Cond.selects "JokePump$History" ⟨"JokePump$History", "forget", "()V"⟩ ⟨"JokePump$History", "forget", "()V"⟩ ∈ lw_g := lw_gm (tin3 (List.mem_of_getElem? (i := 104) (by decide +kernel))) (by decide +kernel)
theorem q3_105 : Cond.code ⟨"JokePump$History", "forget", "()V"⟩ prog_2_method_6_code 1 (none : Option Jvm.ClassFile.FieldType) ∈ lw_g := lw_gm (tin3 (List.mem_of_getElem? (i := 105) (by decide +kernel))) (by decide +kernel)
theorem lk_X7_128 : LkV RX7 128 yX0_forget cX0_forget 1 none 0 := LkV_of q3_102 q3_103 q3_104 q1_6 q3_105 ⟨by decide, by decide, by decide +kernel⟩
theorem q2_113 : Cond.methodLink "JokePump" 131 ⟨"JokePump$Jokes", "has", "(I)Z"⟩ ∈ lw_g := lw_gm (tin2 (List.mem_of_getElem? (i := 113) (by decide +kernel))) (by decide +kernel)
theorem lk_X7_131 : LkV RX7 131 yX1_has cX1_has 2 (some .boolean) 1 := LkV_of q2_113 q2_114 q2_115 q1_3 q2_116 ⟨by decide, by decide, by decide +kernel⟩
theorem q2_66 : Cond.methodLink "JokePump" 139 ⟨"JokePump$Row", "at", "(I)I"⟩ ∈ lw_g := lw_gm (tin2 (List.mem_of_getElem? (i := 66) (by decide +kernel))) (by decide +kernel)
theorem lk_X7_139 : LkV RX7 139 yX3_at cX3_at 2 (some .int) 1 := LkV_of q2_66 q2_67 q2_68 q1_4 q2_69 ⟨by decide, by decide, by decide +kernel⟩
theorem q3_110 : Cond.methodLink "JokePump" 156 ⟨"JokePump$Jokes", "countWithin", "(II)I"⟩ ∈ lw_g := lw_gm (tin3 (List.mem_of_getElem? (i := 110) (by decide +kernel))) (by decide +kernel)
theorem lk_X7_156 : LkV RX7 156 yX1_countWithin cX1_countWithin 5 (some .int) 2 := LkV_of q3_110 q2_88 q2_89 q1_3 q2_90 ⟨by decide, by decide, by decide +kernel⟩
theorem q2_60 : Cond.methodLink "JokePump" 159 ⟨"JokePump", "isWell", "(I)Z"⟩ ∈ lw_g := lw_gm (tin2 (List.mem_of_getElem? (i := 60) (by decide +kernel))) (by decide +kernel)
theorem q2_61 : Cond.static ⟨"JokePump", "isWell", "(I)Z"⟩ ∈ lw_g := lw_gm (tin2 (List.mem_of_getElem? (i := 61) (by decide +kernel))) (by decide +kernel)
theorem q2_62 : Cond.code ⟨"JokePump", "isWell", "(I)Z"⟩ prog_1_method_63_code 1 (some .boolean) ∈ lw_g := lw_gm (tin2 (List.mem_of_getElem? (i := 62) (by decide +kernel))) (by decide +kernel)
theorem lk_X7_159 : LkS RX7 159 yX7_isWell cX7_isWell 1 (some .boolean) 1 := LkS_of q2_60 q2_61 q1_1 q2_62 ⟨by decide, by decide, by decide +kernel⟩
theorem q2_83 : Cond.methodLink "JokePump" 165 ⟨"JokePump$Jokes", "countIn", "(I)I"⟩ ∈ lw_g := lw_gm (tin2 (List.mem_of_getElem? (i := 83) (by decide +kernel))) (by decide +kernel)
theorem q2_84 : Cond.instanceMethod ⟨"JokePump$Jokes", "countIn", "(I)I"⟩ ∈ lw_g := lw_gm (tin2 (List.mem_of_getElem? (i := 84) (by decide +kernel))) (by decide +kernel)
theorem q2_85 : Cond.selects "JokePump$Jokes" ⟨"JokePump$Jokes", "countIn", "(I)I"⟩ ⟨"JokePump$Jokes", "countIn", "(I)I"⟩ ∈ lw_g := lw_gm (tin2 (List.mem_of_getElem? (i := 85) (by decide +kernel))) (by decide +kernel)
theorem q2_86 : Cond.code ⟨"JokePump$Jokes", "countIn", "(I)I"⟩ prog_3_method_7_code 2 (some .int) ∈ lw_g := lw_gm (tin2 (List.mem_of_getElem? (i := 86) (by decide +kernel))) (by decide +kernel)
theorem lk_X7_165 : LkV RX7 165 yX1_countIn cX1_countIn 2 (some .int) 1 := LkV_of q2_83 q2_84 q2_85 q1_3 q2_86 ⟨by decide, by decide, by decide +kernel⟩
theorem q3_115 : Cond.methodLink "JokePump" 168 ⟨"JokePump", "leastDepth", "(I)I"⟩ ∈ lw_g := lw_gm (tin3 (List.mem_of_getElem? (i := 115) (by decide +kernel))) (by decide +kernel)
theorem q3_117 : Cond.instanceMethod ⟨"JokePump", "leastDepth", "(I)I"⟩ ∈ lw_g := lw_gm (tin3 (List.mem_of_getElem? (i := 117) (by decide +kernel))) (by decide +kernel)
theorem qs_18 : Cond.selects "JokePump" ⟨"JokePump", "leastDepth", "(I)I"⟩ ⟨"JokePump", "leastDepth", "(I)I"⟩ ∈ lw_g := lw_gm (tinS (q := (⟨"JokePump", "leastDepth", "(I)I"⟩, 12)) (List.mem_of_getElem? (i := 18) (by decide +kernel))) (by decide +kernel)
theorem q3_118 : Cond.code ⟨"JokePump", "leastDepth", "(I)I"⟩ prog_1_method_53_code 3 (some .int) ∈ lw_g := lw_gm (tin3 (List.mem_of_getElem? (i := 118) (by decide +kernel))) (by decide +kernel)
theorem lk_X7_168 : LkV RX7 168 yX7_leastDepth cX7_leastDepth 3 (some .int) 1 := LkV_of q3_115 q3_117 qs_18 q1_1 q3_118 ⟨by decide, by decide, by decide +kernel⟩
theorem q3_120 : Cond.methodLink "JokePump" 175 ⟨"JokePump$Told", "countFrom", "(I)I"⟩ ∈ lw_g := lw_gm (tin3 (List.mem_of_getElem? (i := 120) (by decide +kernel))) (by decide +kernel)
theorem q3_121 : Cond.instanceMethod ⟨"JokePump$Told", "countFrom", "(I)I"⟩ ∈ lw_g := lw_gm (tin3 (List.mem_of_getElem? (i := 121) (by decide +kernel))) (by decide +kernel)
theorem q3_122 : Cond.selects "JokePump$Told" ⟨"JokePump$Told", "countFrom", "(I)I"⟩ ⟨"JokePump$Told", "countFrom", "(I)I"⟩ ∈ lw_g := lw_gm (tin3 (List.mem_of_getElem? (i := 122) (by decide +kernel))) (by decide +kernel)
theorem q3_123 : Cond.code ⟨"JokePump$Told", "countFrom", "(I)I"⟩ prog_8_method_5_code 4 (some .int) ∈ lw_g := lw_gm (tin3 (List.mem_of_getElem? (i := 123) (by decide +kernel))) (by decide +kernel)
theorem lk_X7_175 : LkV RX7 175 yX6_countFrom cX6_countFrom 4 (some .int) 1 := LkV_of q3_120 q3_121 q3_122 q1_5 q3_123 ⟨by decide, by decide, by decide +kernel⟩
theorem q2_63 : Cond.methodLink "JokePump" 180 ⟨"JokePump", "isWithin", "(III)Z"⟩ ∈ lw_g := lw_gm (tin2 (List.mem_of_getElem? (i := 63) (by decide +kernel))) (by decide +kernel)
theorem q2_64 : Cond.static ⟨"JokePump", "isWithin", "(III)Z"⟩ ∈ lw_g := lw_gm (tin2 (List.mem_of_getElem? (i := 64) (by decide +kernel))) (by decide +kernel)
theorem q2_65 : Cond.code ⟨"JokePump", "isWithin", "(III)Z"⟩ prog_1_method_64_code 3 (some .boolean) ∈ lw_g := lw_gm (tin2 (List.mem_of_getElem? (i := 65) (by decide +kernel))) (by decide +kernel)
theorem lk_X7_180 : LkS RX7 180 yX7_isWithin cX7_isWithin 3 (some .boolean) 3 := LkS_of q2_63 q2_64 q1_1 q2_65 ⟨by decide, by decide, by decide +kernel⟩
theorem q3_119 : Cond.methodLink "JokePump" 187 ⟨"JokePump$Jokes", "byDepth", "(II)I"⟩ ∈ lw_g := lw_gm (tin3 (List.mem_of_getElem? (i := 119) (by decide +kernel))) (by decide +kernel)
theorem lk_X7_187 : LkV RX7 187 yX1_byDepth cX1_byDepth 4 (some .int) 2 := LkV_of q3_119 q2_190 q2_191 q1_3 q2_192 ⟨by decide, by decide, by decide +kernel⟩
theorem q3_137 : Cond.methodLink "JokePump" 190 ⟨"JokePump", "countFunnier", "(I)I"⟩ ∈ lw_g := lw_gm (tin3 (List.mem_of_getElem? (i := 137) (by decide +kernel))) (by decide +kernel)
theorem q3_139 : Cond.instanceMethod ⟨"JokePump", "countFunnier", "(I)I"⟩ ∈ lw_g := lw_gm (tin3 (List.mem_of_getElem? (i := 139) (by decide +kernel))) (by decide +kernel)
theorem qs_19 : Cond.selects "JokePump" ⟨"JokePump", "countFunnier", "(I)I"⟩ ⟨"JokePump", "countFunnier", "(I)I"⟩ ∈ lw_g := lw_gm (tinS (q := (⟨"JokePump", "countFunnier", "(I)I"⟩, 12)) (List.mem_of_getElem? (i := 19) (by decide +kernel))) (by decide +kernel)
theorem q3_140 : Cond.code ⟨"JokePump", "countFunnier", "(I)I"⟩ prog_1_method_54_code 4 (some .int) ∈ lw_g := lw_gm (tin3 (List.mem_of_getElem? (i := 140) (by decide +kernel))) (by decide +kernel)
theorem lk_X7_190 : LkV RX7 190 yX7_countFunnier cX7_countFunnier 4 (some .int) 1 := LkV_of q3_137 q3_139 qs_19 q1_1 q3_140 ⟨by decide, by decide, by decide +kernel⟩
theorem q3_150 : Cond.methodLink "JokePump" 193 ⟨"JokePump", "countFuller", "(I)I"⟩ ∈ lw_g := lw_gm (tin3 (List.mem_of_getElem? (i := 150) (by decide +kernel))) (by decide +kernel)
theorem q3_152 : Cond.instanceMethod ⟨"JokePump", "countFuller", "(I)I"⟩ ∈ lw_g := lw_gm (tin3 (List.mem_of_getElem? (i := 152) (by decide +kernel))) (by decide +kernel)
theorem qs_21 : Cond.selects "JokePump" ⟨"JokePump", "countFuller", "(I)I"⟩ ⟨"JokePump", "countFuller", "(I)I"⟩ ∈ lw_g := lw_gm (tinS (q := (⟨"JokePump", "countFuller", "(I)I"⟩, 12)) (List.mem_of_getElem? (i := 21) (by decide +kernel))) (by decide +kernel)
theorem q3_153 : Cond.code ⟨"JokePump", "countFuller", "(I)I"⟩ prog_1_method_56_code 4 (some .int) ∈ lw_g := lw_gm (tin3 (List.mem_of_getElem? (i := 153) (by decide +kernel))) (by decide +kernel)
theorem lk_X7_193 : LkV RX7 193 yX7_countFuller cX7_countFuller 4 (some .int) 1 := LkV_of q3_150 q3_152 qs_21 q1_1 q3_153 ⟨by decide, by decide, by decide +kernel⟩
theorem q3_162 : Cond.methodLink "JokePump" 196 ⟨"JokePump$Jokes", "sumOfDepths", "()I"⟩ ∈ lw_g := lw_gm (tin3 (List.mem_of_getElem? (i := 162) (by decide +kernel))) (by decide +kernel)
theorem q3_163 : Cond.instanceMethod ⟨"JokePump$Jokes", "sumOfDepths", "()I"⟩ ∈ lw_g := lw_gm (tin3 (List.mem_of_getElem? (i := 163) (by decide +kernel))) (by decide +kernel)
theorem q3_164 : Cond.selects "JokePump$Jokes" ⟨"JokePump$Jokes", "sumOfDepths", "()I"⟩ ⟨"JokePump$Jokes", "sumOfDepths", "()I"⟩ ∈ lw_g := lw_gm (tin3 (List.mem_of_getElem? (i := 164) (by decide +kernel))) (by decide +kernel)
theorem q3_165 : Cond.code ⟨"JokePump$Jokes", "sumOfDepths", "()I"⟩ prog_3_method_11_code 3 (some .int) ∈ lw_g := lw_gm (tin3 (List.mem_of_getElem? (i := 165) (by decide +kernel))) (by decide +kernel)
theorem lk_X7_196 : LkV RX7 196 yX1_sumOfDepths cX1_sumOfDepths 3 (some .int) 0 := LkV_of q3_162 q3_163 q3_164 q1_3 q3_165 ⟨by decide, by decide, by decide +kernel⟩
theorem q3_145 : Cond.methodLink "JokePump" 199 ⟨"JokePump$State", "laughOf", "(II)F"⟩ ∈ lw_g := lw_gm (tin3 (List.mem_of_getElem? (i := 145) (by decide +kernel))) (by decide +kernel)
theorem lk_X7_199 : LkV RX7 199 yX4_laughOf cX4_laughOf 4 (some .float) 2 := LkV_of q3_145 q2_198 q2_199 q1_2 q2_200 ⟨by decide, by decide, by decide +kernel⟩
theorem q3_170 : Cond.methodLink "JokePump" 203 ⟨"JokePump", "bitsOf", "(F)I"⟩ ∈ lw_g := lw_gm (tin3 (List.mem_of_getElem? (i := 170) (by decide +kernel))) (by decide +kernel)
theorem q3_171 : Cond.static ⟨"JokePump", "bitsOf", "(F)I"⟩ ∈ lw_g := lw_gm (tin3 (List.mem_of_getElem? (i := 171) (by decide +kernel))) (by decide +kernel)
theorem q3_172 : Cond.code ⟨"JokePump", "bitsOf", "(F)I"⟩ prog_1_method_65_code 4 (some .int) ∈ lw_g := lw_gm (tin3 (List.mem_of_getElem? (i := 172) (by decide +kernel))) (by decide +kernel)
theorem lk_X7_203 : LkS RX7 203 yX7_bitsOf cX7_bitsOf 4 (some .int) 1 := LkS_of q3_170 q3_171 q1_1 q3_172 ⟨by decide, by decide, by decide +kernel⟩
theorem q3_182 : Cond.methodLink "JokePump" 211 ⟨"JokePump$Told", "sumAgain", "()F"⟩ ∈ lw_g := lw_gm (tin3 (List.mem_of_getElem? (i := 182) (by decide +kernel))) (by decide +kernel)
theorem q3_183 : Cond.instanceMethod ⟨"JokePump$Told", "sumAgain", "()F"⟩ ∈ lw_g := lw_gm (tin3 (List.mem_of_getElem? (i := 183) (by decide +kernel))) (by decide +kernel)
theorem q3_184 : Cond.selects "JokePump$Told" ⟨"JokePump$Told", "sumAgain", "()F"⟩ ⟨"JokePump$Told", "sumAgain", "()F"⟩ ∈ lw_g := lw_gm (tin3 (List.mem_of_getElem? (i := 184) (by decide +kernel))) (by decide +kernel)
theorem q3_185 : Cond.code ⟨"JokePump$Told", "sumAgain", "()F"⟩ prog_8_method_4_code 3 (some .float) ∈ lw_g := lw_gm (tin3 (List.mem_of_getElem? (i := 185) (by decide +kernel))) (by decide +kernel)
theorem lk_X7_211 : LkV RX7 211 yX6_sumAgain cX6_sumAgain 3 (some .float) 0 := LkV_of q3_182 q3_183 q3_184 q1_5 q3_185 ⟨by decide, by decide, by decide +kernel⟩
theorem q3_198 : Cond.methodLink "JokePump" 218 ⟨"JokePump$Told", "laughAt", "(I)F"⟩ ∈ lw_g := lw_gm (tin3 (List.mem_of_getElem? (i := 198) (by decide +kernel))) (by decide +kernel)
theorem lk_X7_218 : LkV RX7 218 yX6_laughAt cX6_laughAt 2 (some .float) 1 := LkV_of q3_198 q3_187 q3_188 q1_5 q3_189 ⟨by decide, by decide, by decide +kernel⟩
theorem q3_203 : Cond.methodLink "JokePump" 222 ⟨"JokePump$Told", "countKnown", "()I"⟩ ∈ lw_g := lw_gm (tin3 (List.mem_of_getElem? (i := 203) (by decide +kernel))) (by decide +kernel)
theorem q3_204 : Cond.instanceMethod ⟨"JokePump$Told", "countKnown", "()I"⟩ ∈ lw_g := lw_gm (tin3 (List.mem_of_getElem? (i := 204) (by decide +kernel))) (by decide +kernel)
theorem q3_205 : Cond.selects "JokePump$Told" ⟨"JokePump$Told", "countKnown", "()I"⟩ ⟨"JokePump$Told", "countKnown", "()I"⟩ ∈ lw_g := lw_gm (tin3 (List.mem_of_getElem? (i := 205) (by decide +kernel))) (by decide +kernel)
theorem q3_206 : Cond.code ⟨"JokePump$Told", "countKnown", "()I"⟩ prog_8_method_6_code 3 (some .int) ∈ lw_g := lw_gm (tin3 (List.mem_of_getElem? (i := 206) (by decide +kernel))) (by decide +kernel)
theorem lk_X7_222 : LkV RX7 222 yX6_countKnown cX6_countKnown 3 (some .int) 0 := LkV_of q3_203 q3_204 q3_205 q1_5 q3_206 ⟨by decide, by decide, by decide +kernel⟩
theorem q3_212 : Cond.methodLink "JokePump" 232 ⟨"JokePump$State", "reachBehind", "(II)I"⟩ ∈ lw_g := lw_gm (tin3 (List.mem_of_getElem? (i := 212) (by decide +kernel))) (by decide +kernel)
theorem lk_X7_232 : LkS RX7 232 yX4_reachBehind cX4_reachBehind 2 (some .int) 2 := LkS_of q3_212 q2_181 q1_2 q2_182 ⟨by decide, by decide, by decide +kernel⟩
theorem q3_221 : Cond.methodLink "JokePump" 238 ⟨"JokePump$State", "groansOf", "(I)I"⟩ ∈ lw_g := lw_gm (tin3 (List.mem_of_getElem? (i := 221) (by decide +kernel))) (by decide +kernel)
theorem lk_X7_238 : LkS RX7 238 yX4_groansOf cX4_groansOf 1 (some .int) 1 := LkS_of q3_221 q2_185 q1_2 q2_186 ⟨by decide, by decide, by decide +kernel⟩
theorem q3_230 : Cond.methodLink "JokePump" 249 ⟨"JokePump", "groansToReach", "(II)I"⟩ ∈ lw_g := lw_gm (tin3 (List.mem_of_getElem? (i := 230) (by decide +kernel))) (by decide +kernel)
theorem q3_232 : Cond.instanceMethod ⟨"JokePump", "groansToReach", "(II)I"⟩ ∈ lw_g := lw_gm (tin3 (List.mem_of_getElem? (i := 232) (by decide +kernel))) (by decide +kernel)
theorem qs_23 : Cond.selects "JokePump" ⟨"JokePump", "groansToReach", "(II)I"⟩ ⟨"JokePump", "groansToReach", "(II)I"⟩ ∈ lw_g := lw_gm (tinS (q := (⟨"JokePump", "groansToReach", "(II)I"⟩, 12)) (List.mem_of_getElem? (i := 23) (by decide +kernel))) (by decide +kernel)
theorem q3_233 : Cond.code ⟨"JokePump", "groansToReach", "(II)I"⟩ prog_1_method_58_code 6 (some .int) ∈ lw_g := lw_gm (tin3 (List.mem_of_getElem? (i := 233) (by decide +kernel))) (by decide +kernel)
theorem lk_X7_249 : LkV RX7 249 yX7_groansToReach cX7_groansToReach 6 (some .int) 2 := LkV_of q3_230 q3_232 qs_23 q1_1 q3_233 ⟨by decide, by decide, by decide +kernel⟩
theorem q3_238 : Cond.methodLink "JokePump" 258 ⟨"JokePump", "areLaughsAlike", "()Z"⟩ ∈ lw_g := lw_gm (tin3 (List.mem_of_getElem? (i := 238) (by decide +kernel))) (by decide +kernel)
theorem q4_0 : Cond.instanceMethod ⟨"JokePump", "areLaughsAlike", "()Z"⟩ ∈ lw_g := lw_gm (tin4 (List.mem_of_getElem? (i := 0) (by decide +kernel))) (by decide +kernel)
theorem qs_24 : Cond.selects "JokePump" ⟨"JokePump", "areLaughsAlike", "()Z"⟩ ⟨"JokePump", "areLaughsAlike", "()Z"⟩ ∈ lw_g := lw_gm (tinS (q := (⟨"JokePump", "areLaughsAlike", "()Z"⟩, 12)) (List.mem_of_getElem? (i := 24) (by decide +kernel))) (by decide +kernel)
theorem q4_1 : Cond.code ⟨"JokePump", "areLaughsAlike", "()Z"⟩ prog_1_method_59_code 1 (some .boolean) ∈ lw_g := lw_gm (tin4 (List.mem_of_getElem? (i := 1) (by decide +kernel))) (by decide +kernel)
theorem lk_X7_258 : LkV RX7 258 yX7_areLaughsAlike cX7_areLaughsAlike 1 (some .boolean) 0 := LkV_of q3_238 q4_0 qs_24 q1_1 q4_1 ⟨by decide, by decide, by decide +kernel⟩
theorem q4_2 : Cond.methodLink "JokePump" 262 ⟨"JokePump", "areStrokesAlike", "()Z"⟩ ∈ lw_g := lw_gm (tin4 (List.mem_of_getElem? (i := 2) (by decide +kernel))) (by decide +kernel)
theorem q4_4 : Cond.instanceMethod ⟨"JokePump", "areStrokesAlike", "()Z"⟩ ∈ lw_g := lw_gm (tin4 (List.mem_of_getElem? (i := 4) (by decide +kernel))) (by decide +kernel)
theorem qs_25 : Cond.selects "JokePump" ⟨"JokePump", "areStrokesAlike", "()Z"⟩ ⟨"JokePump", "areStrokesAlike", "()Z"⟩ ∈ lw_g := lw_gm (tinS (q := (⟨"JokePump", "areStrokesAlike", "()Z"⟩, 12)) (List.mem_of_getElem? (i := 25) (by decide +kernel))) (by decide +kernel)
theorem q4_5 : Cond.code ⟨"JokePump", "areStrokesAlike", "()Z"⟩ prog_1_method_60_code 2 (some .boolean) ∈ lw_g := lw_gm (tin4 (List.mem_of_getElem? (i := 5) (by decide +kernel))) (by decide +kernel)
theorem lk_X7_262 : LkV RX7 262 yX7_areStrokesAlike cX7_areStrokesAlike 2 (some .boolean) 0 := LkV_of q4_2 q4_4 qs_25 q1_1 q4_5 ⟨by decide, by decide, by decide +kernel⟩
theorem q4_8 : Cond.methodLink "JokePump" 265 ⟨"JokePump", "areSignsUnknown", "()Z"⟩ ∈ lw_g := lw_gm (tin4 (List.mem_of_getElem? (i := 8) (by decide +kernel))) (by decide +kernel)
theorem q4_10 : Cond.instanceMethod ⟨"JokePump", "areSignsUnknown", "()Z"⟩ ∈ lw_g := lw_gm (tin4 (List.mem_of_getElem? (i := 10) (by decide +kernel))) (by decide +kernel)
theorem qs_26 : Cond.selects "JokePump" ⟨"JokePump", "areSignsUnknown", "()Z"⟩ ⟨"JokePump", "areSignsUnknown", "()Z"⟩ ∈ lw_g := lw_gm (tinS (q := (⟨"JokePump", "areSignsUnknown", "()Z"⟩, 12)) (List.mem_of_getElem? (i := 26) (by decide +kernel))) (by decide +kernel)
theorem q4_11 : Cond.code ⟨"JokePump", "areSignsUnknown", "()Z"⟩ prog_1_method_61_code 2 (some .boolean) ∈ lw_g := lw_gm (tin4 (List.mem_of_getElem? (i := 11) (by decide +kernel))) (by decide +kernel)
theorem lk_X7_265 : LkV RX7 265 yX7_areSignsUnknown cX7_areSignsUnknown 2 (some .boolean) 0 := LkV_of q4_8 q4_10 qs_26 q1_1 q4_11 ⟨by decide, by decide, by decide +kernel⟩
theorem q4_16 : Cond.methodLink "JokePump" 277 ⟨"JokePump$Jokes", "countPrimed", "()I"⟩ ∈ lw_g := lw_gm (tin4 (List.mem_of_getElem? (i := 16) (by decide +kernel))) (by decide +kernel)
theorem q4_17 : Cond.instanceMethod ⟨"JokePump$Jokes", "countPrimed", "()I"⟩ ∈ lw_g := lw_gm (tin4 (List.mem_of_getElem? (i := 17) (by decide +kernel))) (by decide +kernel)
theorem q4_18 : Cond.selects "JokePump$Jokes" ⟨"JokePump$Jokes", "countPrimed", "()I"⟩ ⟨"JokePump$Jokes", "countPrimed", "()I"⟩ ∈ lw_g := lw_gm (tin4 (List.mem_of_getElem? (i := 18) (by decide +kernel))) (by decide +kernel)
theorem q4_19 : Cond.code ⟨"JokePump$Jokes", "countPrimed", "()I"⟩ prog_3_method_10_code 3 (some .int) ∈ lw_g := lw_gm (tin4 (List.mem_of_getElem? (i := 19) (by decide +kernel))) (by decide +kernel)
theorem lk_X7_277 : LkV RX7 277 yX1_countPrimed cX1_countPrimed 3 (some .int) 0 := LkV_of q4_16 q4_17 q4_18 q1_3 q4_19 ⟨by decide, by decide, by decide +kernel⟩
theorem q4_24 : Cond.methodLink "JokePump" 281 ⟨"JokePump$Strip", "putNumber", "(I)V"⟩ ∈ lw_g := lw_gm (tin4 (List.mem_of_getElem? (i := 24) (by decide +kernel))) (by decide +kernel)
theorem q4_25 : Cond.instanceMethod ⟨"JokePump$Strip", "putNumber", "(I)V"⟩ ∈ lw_g := lw_gm (tin4 (List.mem_of_getElem? (i := 25) (by decide +kernel))) (by decide +kernel)
theorem q4_26 : Cond.selects "JokePump$Strip" ⟨"JokePump$Strip", "putNumber", "(I)V"⟩ ⟨"JokePump$Strip", "putNumber", "(I)V"⟩ ∈ lw_g := lw_gm (tin4 (List.mem_of_getElem? (i := 26) (by decide +kernel))) (by decide +kernel)
theorem q4_27 : Cond.code ⟨"JokePump$Strip", "putNumber", "(I)V"⟩ prog_7_method_4_code 2 (none : Option Jvm.ClassFile.FieldType) ∈ lw_g := lw_gm (tin4 (List.mem_of_getElem? (i := 27) (by decide +kernel))) (by decide +kernel)
theorem lk_X7_281 : LkV RX7 281 yX5_putNumber cX5_putNumber 2 none 1 := LkV_of q4_24 q4_25 q4_26 q1_7 q4_27 ⟨by decide, by decide, by decide +kernel⟩
theorem q4_32 : Cond.methodLink "JokePump" 285 ⟨"JokePump$Strip", "putSign", "(C)V"⟩ ∈ lw_g := lw_gm (tin4 (List.mem_of_getElem? (i := 32) (by decide +kernel))) (by decide +kernel)
theorem lk_X7_285 : LkV RX7 285 yX5_putSign cX5_putSign 2 none 1 := LkV_of q4_32 q4_29 q4_30 q1_7 q4_31 ⟨by decide, by decide, by decide +kernel⟩
theorem q4_33 : Cond.methodLink "JokePump" 289 ⟨"JokePump", "putJoke", "(I)V"⟩ ∈ lw_g := lw_gm (tin4 (List.mem_of_getElem? (i := 33) (by decide +kernel))) (by decide +kernel)
theorem q4_35 : Cond.instanceMethod ⟨"JokePump", "putJoke", "(I)V"⟩ ∈ lw_g := lw_gm (tin4 (List.mem_of_getElem? (i := 35) (by decide +kernel))) (by decide +kernel)
theorem qs_27 : Cond.selects "JokePump" ⟨"JokePump", "putJoke", "(I)V"⟩ ⟨"JokePump", "putJoke", "(I)V"⟩ ∈ lw_g := lw_gm (tinS (q := (⟨"JokePump", "putJoke", "(I)V"⟩, 12)) (List.mem_of_getElem? (i := 27) (by decide +kernel))) (by decide +kernel)
theorem q4_36 : Cond.code ⟨"JokePump", "putJoke", "(I)V"⟩ prog_1_method_62_code 2 (none : Option Jvm.ClassFile.FieldType) ∈ lw_g := lw_gm (tin4 (List.mem_of_getElem? (i := 36) (by decide +kernel))) (by decide +kernel)
theorem lk_X7_289 : LkV RX7 289 yX7_putJoke cX7_putJoke 2 none 1 := LkV_of q4_33 q4_35 qs_27 q1_1 q4_36 ⟨by decide, by decide, by decide +kernel⟩
theorem q4_45 : Cond.methodLink "JokePump" 292 ⟨"JokePump$Strip", "signAt", "(I)I"⟩ ∈ lw_g := lw_gm (tin4 (List.mem_of_getElem? (i := 45) (by decide +kernel))) (by decide +kernel)
theorem lk_X7_292 : LkV RX7 292 yX5_signAt cX5_signAt 2 (some .int) 1 := LkV_of q4_45 q3_45 q3_46 q1_7 q3_47 ⟨by decide, by decide, by decide +kernel⟩
theorem q2_70 : Cond.methodLink "JokePump" 295 ⟨"JokePump", "refuse", "(II)I"⟩ ∈ lw_g := lw_gm (tin2 (List.mem_of_getElem? (i := 70) (by decide +kernel))) (by decide +kernel)
theorem q2_72 : Cond.instanceMethod ⟨"JokePump", "refuse", "(II)I"⟩ ∈ lw_g := lw_gm (tin2 (List.mem_of_getElem? (i := 72) (by decide +kernel))) (by decide +kernel)
theorem qs_2 : Cond.selects "JokePump" ⟨"JokePump", "refuse", "(II)I"⟩ ⟨"JokePump", "refuse", "(II)I"⟩ ∈ lw_g := lw_gm (tinS (q := (⟨"JokePump", "refuse", "(II)I"⟩, 12)) (List.mem_of_getElem? (i := 2) (by decide +kernel))) (by decide +kernel)
theorem q2_73 : Cond.code ⟨"JokePump", "refuse", "(II)I"⟩ prog_1_method_49_code 3 (some .int) ∈ lw_g := lw_gm (tin2 (List.mem_of_getElem? (i := 73) (by decide +kernel))) (by decide +kernel)
theorem lk_X7_295 : LkV RX7 295 yX7_refuse cX7_refuse 3 (some .int) 2 := LkV_of q2_70 q2_72 qs_2 q1_1 q2_73 ⟨by decide, by decide, by decide +kernel⟩
theorem q2_74 : Cond.methodLink "JokePump" 298 ⟨"JokePump$Jokes", "withSign", "(I)I"⟩ ∈ lw_g := lw_gm (tin2 (List.mem_of_getElem? (i := 74) (by decide +kernel))) (by decide +kernel)
theorem q2_75 : Cond.instanceMethod ⟨"JokePump$Jokes", "withSign", "(I)I"⟩ ∈ lw_g := lw_gm (tin2 (List.mem_of_getElem? (i := 75) (by decide +kernel))) (by decide +kernel)
theorem q2_76 : Cond.selects "JokePump$Jokes" ⟨"JokePump$Jokes", "withSign", "(I)I"⟩ ⟨"JokePump$Jokes", "withSign", "(I)I"⟩ ∈ lw_g := lw_gm (tin2 (List.mem_of_getElem? (i := 76) (by decide +kernel))) (by decide +kernel)
theorem q2_77 : Cond.code ⟨"JokePump$Jokes", "withSign", "(I)I"⟩ prog_3_method_5_code 3 (some .int) ∈ lw_g := lw_gm (tin2 (List.mem_of_getElem? (i := 77) (by decide +kernel))) (by decide +kernel)
theorem lk_X7_298 : LkV RX7 298 yX1_withSign cX1_withSign 3 (some .int) 1 := LkV_of q2_74 q2_75 q2_76 q1_3 q2_77 ⟨by decide, by decide, by decide +kernel⟩
theorem q2_79 : Cond.methodLink "JokePump" 301 ⟨"JokePump$Jokes", "atDepth", "(II)I"⟩ ∈ lw_g := lw_gm (tin2 (List.mem_of_getElem? (i := 79) (by decide +kernel))) (by decide +kernel)
theorem q2_80 : Cond.instanceMethod ⟨"JokePump$Jokes", "atDepth", "(II)I"⟩ ∈ lw_g := lw_gm (tin2 (List.mem_of_getElem? (i := 80) (by decide +kernel))) (by decide +kernel)
theorem q2_81 : Cond.selects "JokePump$Jokes" ⟨"JokePump$Jokes", "atDepth", "(II)I"⟩ ⟨"JokePump$Jokes", "atDepth", "(II)I"⟩ ∈ lw_g := lw_gm (tin2 (List.mem_of_getElem? (i := 81) (by decide +kernel))) (by decide +kernel)
theorem q2_82 : Cond.code ⟨"JokePump$Jokes", "atDepth", "(II)I"⟩ prog_3_method_6_code 4 (some .int) ∈ lw_g := lw_gm (tin2 (List.mem_of_getElem? (i := 82) (by decide +kernel))) (by decide +kernel)
theorem lk_X7_301 : LkV RX7 301 yX1_atDepth cX1_atDepth 4 (some .int) 2 := LkV_of q2_79 q2_80 q2_81 q1_3 q2_82 ⟨by decide, by decide, by decide +kernel⟩
theorem q2_91 : Cond.methodLink "JokePump" 304 ⟨"JokePump$Jokes", "add", "(IIII)V"⟩ ∈ lw_g := lw_gm (tin2 (List.mem_of_getElem? (i := 91) (by decide +kernel))) (by decide +kernel)
theorem q2_92 : Cond.instanceMethod ⟨"JokePump$Jokes", "add", "(IIII)V"⟩ ∈ lw_g := lw_gm (tin2 (List.mem_of_getElem? (i := 92) (by decide +kernel))) (by decide +kernel)
theorem q2_93 : Cond.selects "JokePump$Jokes" ⟨"JokePump$Jokes", "add", "(IIII)V"⟩ ⟨"JokePump$Jokes", "add", "(IIII)V"⟩ ∈ lw_g := lw_gm (tin2 (List.mem_of_getElem? (i := 93) (by decide +kernel))) (by decide +kernel)
theorem q2_94 : Cond.code ⟨"JokePump$Jokes", "add", "(IIII)V"⟩ prog_3_method_3_code 5 (none : Option Jvm.ClassFile.FieldType) ∈ lw_g := lw_gm (tin2 (List.mem_of_getElem? (i := 94) (by decide +kernel))) (by decide +kernel)
theorem lk_X7_304 : LkV RX7 304 yX1_add cX1_add 5 none 4 := LkV_of q2_91 q2_92 q2_93 q1_3 q2_94 ⟨by decide, by decide, by decide +kernel⟩
theorem q2_117 : Cond.methodLink "JokePump" 308 ⟨"JokePump$Row", "put", "(II)V"⟩ ∈ lw_g := lw_gm (tin2 (List.mem_of_getElem? (i := 117) (by decide +kernel))) (by decide +kernel)
theorem lk_X7_308 : LkV RX7 308 yX3_put cX3_put 3 none 2 := LkV_of q2_117 q1_113 q1_114 q1_4 q1_115 ⟨by decide, by decide, by decide +kernel⟩
theorem q2_126 : Cond.methodLink "JokePump" 312 ⟨"JokePump$Jokes", "remove", "(I)V"⟩ ∈ lw_g := lw_gm (tin2 (List.mem_of_getElem? (i := 126) (by decide +kernel))) (by decide +kernel)
theorem lk_X7_312 : LkV RX7 312 yX1_remove cX1_remove 2 none 1 := LkV_of q2_126 q2_127 q2_128 q1_3 q2_129 ⟨by decide, by decide, by decide +kernel⟩
theorem q2_176 : Cond.methodLink "JokePump" 315 ⟨"JokePump$State", "makeStroke", "()I"⟩ ∈ lw_g := lw_gm (tin2 (List.mem_of_getElem? (i := 176) (by decide +kernel))) (by decide +kernel)
theorem q2_177 : Cond.instanceMethod ⟨"JokePump$State", "makeStroke", "()I"⟩ ∈ lw_g := lw_gm (tin2 (List.mem_of_getElem? (i := 177) (by decide +kernel))) (by decide +kernel)
theorem q2_178 : Cond.selects "JokePump$State" ⟨"JokePump$State", "makeStroke", "()I"⟩ ⟨"JokePump$State", "makeStroke", "()I"⟩ ∈ lw_g := lw_gm (tin2 (List.mem_of_getElem? (i := 178) (by decide +kernel))) (by decide +kernel)
theorem q2_179 : Cond.code ⟨"JokePump$State", "makeStroke", "()I"⟩ prog_6_method_5_code 3 (some .int) ∈ lw_g := lw_gm (tin2 (List.mem_of_getElem? (i := 179) (by decide +kernel))) (by decide +kernel)
theorem lk_X7_315 : LkV RX7 315 yX4_makeStroke cX4_makeStroke 3 (some .int) 0 := LkV_of q2_176 q2_177 q2_178 q1_2 q2_179 ⟨by decide, by decide, by decide +kernel⟩
theorem q2_100 : Cond.methodLink "JokePump" 318 ⟨"JokePump$History", "keep", "()V"⟩ ∈ lw_g := lw_gm (tin2 (List.mem_of_getElem? (i := 100) (by decide +kernel))) (by decide +kernel)
theorem q2_101 : Cond.instanceMethod ⟨"JokePump$History", "keep", "()V"⟩ ∈ lw_g := lw_gm (tin2 (List.mem_of_getElem? (i := 101) (by decide +kernel))) (by decide +kernel)
theorem q2_102 : Cond.selects "JokePump$History" ⟨"JokePump$History", "keep", "()V"⟩ ⟨"JokePump$History", "keep", "()V"⟩ ∈ lw_g := lw_gm (tin2 (List.mem_of_getElem? (i := 102) (by decide +kernel))) (by decide +kernel)
theorem q2_103 : Cond.code ⟨"JokePump$History", "keep", "()V"⟩ prog_2_method_3_code 1 (none : Option Jvm.ClassFile.FieldType) ∈ lw_g := lw_gm (tin2 (List.mem_of_getElem? (i := 103) (by decide +kernel))) (by decide +kernel)
theorem lk_X7_318 : LkV RX7 318 yX0_keep cX0_keep 1 none 0 := LkV_of q2_100 q2_101 q2_102 q1_6 q2_103 ⟨by decide, by decide, by decide +kernel⟩
theorem q3_63 : Cond.methodLink "JokePump" 322 ⟨"JokePump", "doCommand", "(I)I"⟩ ∈ lw_g := lw_gm (tin3 (List.mem_of_getElem? (i := 63) (by decide +kernel))) (by decide +kernel)
theorem q3_65 : Cond.instanceMethod ⟨"JokePump", "doCommand", "(I)I"⟩ ∈ lw_g := lw_gm (tin3 (List.mem_of_getElem? (i := 65) (by decide +kernel))) (by decide +kernel)
theorem qs_16 : Cond.selects "JokePump" ⟨"JokePump", "doCommand", "(I)I"⟩ ⟨"JokePump", "doCommand", "(I)I"⟩ ∈ lw_g := lw_gm (tinS (q := (⟨"JokePump", "doCommand", "(I)I"⟩, 12)) (List.mem_of_getElem? (i := 16) (by decide +kernel))) (by decide +kernel)
theorem q3_66 : Cond.code ⟨"JokePump", "doCommand", "(I)I"⟩ prog_1_method_51_code 4 (some .int) ∈ lw_g := lw_gm (tin3 (List.mem_of_getElem? (i := 66) (by decide +kernel))) (by decide +kernel)
theorem lk_X7_322 : LkV RX7 322 yX7_doCommand cX7_doCommand 4 (some .int) 1 := LkV_of q3_63 q3_65 qs_16 q1_1 q3_66 ⟨by decide, by decide, by decide +kernel⟩
theorem q3_72 : Cond.methodLink "JokePump" 325 ⟨"JokePump$History", "dismiss", "(LJokePump$State;)V"⟩ ∈ lw_g := lw_gm (tin3 (List.mem_of_getElem? (i := 72) (by decide +kernel))) (by decide +kernel)
theorem q3_73 : Cond.instanceMethod ⟨"JokePump$History", "dismiss", "(LJokePump$State;)V"⟩ ∈ lw_g := lw_gm (tin3 (List.mem_of_getElem? (i := 73) (by decide +kernel))) (by decide +kernel)
theorem q3_74 : Cond.selects "JokePump$History" ⟨"JokePump$History", "dismiss", "(LJokePump$State;)V"⟩ ⟨"JokePump$History", "dismiss", "(LJokePump$State;)V"⟩ ∈ lw_g := lw_gm (tin3 (List.mem_of_getElem? (i := 74) (by decide +kernel))) (by decide +kernel)
theorem q3_75 : Cond.code ⟨"JokePump$History", "dismiss", "(LJokePump$State;)V"⟩ prog_2_method_4_code 2 (none : Option Jvm.ClassFile.FieldType) ∈ lw_g := lw_gm (tin3 (List.mem_of_getElem? (i := 75) (by decide +kernel))) (by decide +kernel)
theorem lk_X7_325 : LkV RX7 325 yX0_dismiss cX0_dismiss 2 none 1 := LkV_of q3_72 q3_73 q3_74 q1_6 q3_75 ⟨by decide, by decide, by decide +kernel⟩
theorem q3_76 : Cond.methodLink "JokePump" 328 ⟨"JokePump", "refuseCommand", "(IZ)I"⟩ ∈ lw_g := lw_gm (tin3 (List.mem_of_getElem? (i := 76) (by decide +kernel))) (by decide +kernel)
theorem q3_78 : Cond.instanceMethod ⟨"JokePump", "refuseCommand", "(IZ)I"⟩ ∈ lw_g := lw_gm (tin3 (List.mem_of_getElem? (i := 78) (by decide +kernel))) (by decide +kernel)
theorem qs_17 : Cond.selects "JokePump" ⟨"JokePump", "refuseCommand", "(IZ)I"⟩ ⟨"JokePump", "refuseCommand", "(IZ)I"⟩ ∈ lw_g := lw_gm (tinS (q := (⟨"JokePump", "refuseCommand", "(IZ)I"⟩, 12)) (List.mem_of_getElem? (i := 17) (by decide +kernel))) (by decide +kernel)
theorem q3_79 : Cond.code ⟨"JokePump", "refuseCommand", "(IZ)I"⟩ prog_1_method_52_code 5 (some .int) ∈ lw_g := lw_gm (tin3 (List.mem_of_getElem? (i := 79) (by decide +kernel))) (by decide +kernel)
theorem lk_X7_328 : LkV RX7 328 yX7_refuseCommand cX7_refuseCommand 5 (some .int) 2 := LkV_of q3_76 q3_78 qs_17 q1_1 q3_79 ⟨by decide, by decide, by decide +kernel⟩
theorem q3_67 : Cond.methodLink "JokePump" 332 ⟨"JokePump$Reader", "numberOf", "(II)I"⟩ ∈ lw_g := lw_gm (tin3 (List.mem_of_getElem? (i := 67) (by decide +kernel))) (by decide +kernel)
theorem q3_68 : Cond.instanceMethod ⟨"JokePump$Reader", "numberOf", "(II)I"⟩ ∈ lw_g := lw_gm (tin3 (List.mem_of_getElem? (i := 68) (by decide +kernel))) (by decide +kernel)
theorem q3_69 : Cond.selects "JokePump$Reader" ⟨"JokePump$Reader", "numberOf", "(II)I"⟩ ⟨"JokePump$Reader", "numberOf", "(II)I"⟩ ∈ lw_g := lw_gm (tin3 (List.mem_of_getElem? (i := 69) (by decide +kernel))) (by decide +kernel)
theorem q3_70 : Cond.code ⟨"JokePump$Reader", "numberOf", "(II)I"⟩ prog_4_method_3_code 3 (some .int) ∈ lw_g := lw_gm (tin3 (List.mem_of_getElem? (i := 70) (by decide +kernel))) (by decide +kernel)
theorem lk_X7_332 : LkV RX7 332 yX2_numberOf cX2_numberOf 3 (some .int) 2 := LkV_of q3_67 q3_68 q3_69 q1_8 q3_70 ⟨by decide, by decide, by decide +kernel⟩
theorem q3_141 : Cond.methodLink "JokePump" 338 ⟨"JokePump", "isFunnier", "(II)Z"⟩ ∈ lw_g := lw_gm (tin3 (List.mem_of_getElem? (i := 141) (by decide +kernel))) (by decide +kernel)
theorem q3_143 : Cond.instanceMethod ⟨"JokePump", "isFunnier", "(II)Z"⟩ ∈ lw_g := lw_gm (tin3 (List.mem_of_getElem? (i := 143) (by decide +kernel))) (by decide +kernel)
theorem qs_20 : Cond.selects "JokePump" ⟨"JokePump", "isFunnier", "(II)Z"⟩ ⟨"JokePump", "isFunnier", "(II)Z"⟩ ∈ lw_g := lw_gm (tinS (q := (⟨"JokePump", "isFunnier", "(II)Z"⟩, 12)) (List.mem_of_getElem? (i := 20) (by decide +kernel))) (by decide +kernel)
theorem q3_144 : Cond.code ⟨"JokePump", "isFunnier", "(II)Z"⟩ prog_1_method_55_code 7 (some .boolean) ∈ lw_g := lw_gm (tin3 (List.mem_of_getElem? (i := 144) (by decide +kernel))) (by decide +kernel)
theorem lk_X7_338 : LkV RX7 338 yX7_isFunnier cX7_isFunnier 7 (some .boolean) 2 := LkV_of q3_141 q3_143 qs_20 q1_1 q3_144 ⟨by decide, by decide, by decide +kernel⟩
theorem q3_154 : Cond.methodLink "JokePump" 342 ⟨"JokePump", "isFuller", "(II)Z"⟩ ∈ lw_g := lw_gm (tin3 (List.mem_of_getElem? (i := 154) (by decide +kernel))) (by decide +kernel)
theorem q3_156 : Cond.instanceMethod ⟨"JokePump", "isFuller", "(II)Z"⟩ ∈ lw_g := lw_gm (tin3 (List.mem_of_getElem? (i := 156) (by decide +kernel))) (by decide +kernel)
theorem qs_22 : Cond.selects "JokePump" ⟨"JokePump", "isFuller", "(II)Z"⟩ ⟨"JokePump", "isFuller", "(II)Z"⟩ ∈ lw_g := lw_gm (tinS (q := (⟨"JokePump", "isFuller", "(II)Z"⟩, 12)) (List.mem_of_getElem? (i := 22) (by decide +kernel))) (by decide +kernel)
theorem q3_157 : Cond.code ⟨"JokePump", "isFuller", "(II)Z"⟩ prog_1_method_57_code 7 (some .boolean) ∈ lw_g := lw_gm (tin3 (List.mem_of_getElem? (i := 157) (by decide +kernel))) (by decide +kernel)
theorem lk_X7_342 : LkV RX7 342 yX7_isFuller cX7_isFuller 7 (some .boolean) 2 := LkV_of q3_154 q3_156 qs_22 q1_1 q3_157 ⟨by decide, by decide, by decide +kernel⟩
theorem q4_6 : Cond.methodLink "JokePump" 345 ⟨"JokePump", "strokes", "(I)I"⟩ ∈ lw_g := lw_gm (tin4 (List.mem_of_getElem? (i := 6) (by decide +kernel))) (by decide +kernel)
theorem lk_X7_345 : LkV RX7 345 yX7_strokes cX7_strokes 5 (some .int) 1 := LkV_of q4_6 q3_209 q3_210 q1_1 q3_211 ⟨by decide, by decide, by decide +kernel⟩
theorem q4_7 : Cond.methodLink "JokePump" 348 ⟨"JokePump", "strokesAgain", "(I)I"⟩ ∈ lw_g := lw_gm (tin4 (List.mem_of_getElem? (i := 7) (by decide +kernel))) (by decide +kernel)
theorem lk_X7_348 : LkV RX7 348 yX7_strokesAgain cX7_strokesAgain 3 (some .int) 1 := LkV_of q4_7 q3_214 q3_215 q1_1 q3_216 ⟨by decide, by decide, by decide +kernel⟩
theorem q4_62 : Cond.methodLink "JokePumpModel" 19 ⟨"JokePumpModel", "isBetween", "(III)Z"⟩ ∈ lw_g := lw_gm (tin4 (List.mem_of_getElem? (i := 62) (by decide +kernel))) (by decide +kernel)
theorem q4_63 : Cond.static ⟨"JokePumpModel", "isBetween", "(III)Z"⟩ ∈ lw_g := lw_gm (tin4 (List.mem_of_getElem? (i := 63) (by decide +kernel))) (by decide +kernel)
theorem q4_64 : Cond.code ⟨"JokePumpModel", "isBetween", "(III)Z"⟩ prog_10_method_1_code 3 (some .boolean) ∈ lw_g := lw_gm (tin4 (List.mem_of_getElem? (i := 64) (by decide +kernel))) (by decide +kernel)
theorem lk_X8_19 : LkS RX8 19 yX8_isBetween cX8_isBetween 3 (some .boolean) 3 := LkS_of q4_62 q4_63 q1_9 q4_64 ⟨by decide, by decide, by decide +kernel⟩
theorem q4_184 : Cond.methodLink "JokePumpModel" 67 ⟨"JokePumpModel", "thinks", "()V"⟩ ∈ lw_g := lw_gm (tin4 (List.mem_of_getElem? (i := 184) (by decide +kernel))) (by decide +kernel)
theorem q4_186 : Cond.instanceMethod ⟨"JokePumpModel", "thinks", "()V"⟩ ∈ lw_g := lw_gm (tin4 (List.mem_of_getElem? (i := 186) (by decide +kernel))) (by decide +kernel)
theorem qs_37 : Cond.selects "JokePumpModel" ⟨"JokePumpModel", "thinks", "()V"⟩ ⟨"JokePumpModel", "thinks", "()V"⟩ ∈ lw_g := lw_gm (tinS (q := (⟨"JokePumpModel", "thinks", "()V"⟩, 23)) (List.mem_of_getElem? (i := 37) (by decide +kernel))) (by decide +kernel)
theorem q4_187 : Cond.code ⟨"JokePumpModel", "thinks", "()V"⟩ prog_10_method_6_code 2 (none : Option Jvm.ClassFile.FieldType) ∈ lw_g := lw_gm (tin4 (List.mem_of_getElem? (i := 187) (by decide +kernel))) (by decide +kernel)
theorem lk_X8_67 : LkV RX8 67 yX8_thinks cX8_thinks 2 none 0 := LkV_of q4_184 q4_186 qs_37 q1_9 q4_187 ⟨by decide, by decide, by decide +kernel⟩
theorem q4_188 : Cond.methodLink "JokePumpModel" 70 ⟨"JokePumpModel", "keepsMind", "()V"⟩ ∈ lw_g := lw_gm (tin4 (List.mem_of_getElem? (i := 188) (by decide +kernel))) (by decide +kernel)
theorem q4_190 : Cond.instanceMethod ⟨"JokePumpModel", "keepsMind", "()V"⟩ ∈ lw_g := lw_gm (tin4 (List.mem_of_getElem? (i := 190) (by decide +kernel))) (by decide +kernel)
theorem qs_38 : Cond.selects "JokePumpModel" ⟨"JokePumpModel", "keepsMind", "()V"⟩ ⟨"JokePumpModel", "keepsMind", "()V"⟩ ∈ lw_g := lw_gm (tinS (q := (⟨"JokePumpModel", "keepsMind", "()V"⟩, 23)) (List.mem_of_getElem? (i := 38) (by decide +kernel))) (by decide +kernel)
theorem q4_191 : Cond.code ⟨"JokePumpModel", "keepsMind", "()V"⟩ prog_10_method_8_code 3 (none : Option Jvm.ClassFile.FieldType) ∈ lw_g := lw_gm (tin4 (List.mem_of_getElem? (i := 191) (by decide +kernel))) (by decide +kernel)
theorem lk_X8_70 : LkV RX8 70 yX8_keepsMind cX8_keepsMind 3 none 0 := LkV_of q4_188 q4_190 qs_38 q1_9 q4_191 ⟨by decide, by decide, by decide +kernel⟩
theorem q4_164 : Cond.methodLink "JokePumpModel" 73 ⟨"JokePumpModel", "is", "(II)I"⟩ ∈ lw_g := lw_gm (tin4 (List.mem_of_getElem? (i := 164) (by decide +kernel))) (by decide +kernel)
theorem q4_166 : Cond.instanceMethod ⟨"JokePumpModel", "is", "(II)I"⟩ ∈ lw_g := lw_gm (tin4 (List.mem_of_getElem? (i := 166) (by decide +kernel))) (by decide +kernel)
theorem qs_32 : Cond.selects "JokePumpModel" ⟨"JokePumpModel", "is", "(II)I"⟩ ⟨"JokePumpModel", "is", "(II)I"⟩ ∈ lw_g := lw_gm (tinS (q := (⟨"JokePumpModel", "is", "(II)I"⟩, 23)) (List.mem_of_getElem? (i := 32) (by decide +kernel))) (by decide +kernel)
theorem q4_167 : Cond.code ⟨"JokePumpModel", "is", "(II)I"⟩ prog_10_method_10_code 3 (some .int) ∈ lw_g := lw_gm (tin4 (List.mem_of_getElem? (i := 167) (by decide +kernel))) (by decide +kernel)
theorem lk_X8_73 : LkV RX8 73 yX8_is cX8_is 3 (some .int) 2 := LkV_of q4_164 q4_166 qs_32 q1_9 q4_167 ⟨by decide, by decide, by decide +kernel⟩
theorem q5_55 : Cond.methodLink "JokePumpModel" 77 ⟨"JokePumpModel", "above", "(I)I"⟩ ∈ lw_g := lw_gm (tin5 (List.mem_of_getElem? (i := 55) (by decide +kernel))) (by decide +kernel)
theorem q5_57 : Cond.instanceMethod ⟨"JokePumpModel", "above", "(I)I"⟩ ∈ lw_g := lw_gm (tin5 (List.mem_of_getElem? (i := 57) (by decide +kernel))) (by decide +kernel)
theorem qs_57 : Cond.selects "JokePumpModel" ⟨"JokePumpModel", "above", "(I)I"⟩ ⟨"JokePumpModel", "above", "(I)I"⟩ ∈ lw_g := lw_gm (tinS (q := (⟨"JokePumpModel", "above", "(I)I"⟩, 23)) (List.mem_of_getElem? (i := 57) (by decide +kernel))) (by decide +kernel)
theorem q5_58 : Cond.code ⟨"JokePumpModel", "above", "(I)I"⟩ prog_10_method_17_code 4 (some .int) ∈ lw_g := lw_gm (tin5 (List.mem_of_getElem? (i := 58) (by decide +kernel))) (by decide +kernel)
theorem lk_X8_77 : LkV RX8 77 yX8_above cX8_above 4 (some .int) 1 := LkV_of q5_55 q5_57 qs_57 q1_9 q5_58 ⟨by decide, by decide, by decide +kernel⟩
theorem q4_149 : Cond.methodLink "JokePumpModel" 81 ⟨"JokePumpModel", "isWell", "(I)Z"⟩ ∈ lw_g := lw_gm (tin4 (List.mem_of_getElem? (i := 149) (by decide +kernel))) (by decide +kernel)
theorem q4_150 : Cond.static ⟨"JokePumpModel", "isWell", "(I)Z"⟩ ∈ lw_g := lw_gm (tin4 (List.mem_of_getElem? (i := 150) (by decide +kernel))) (by decide +kernel)
theorem q4_151 : Cond.code ⟨"JokePumpModel", "isWell", "(I)Z"⟩ prog_10_method_12_code 1 (some .boolean) ∈ lw_g := lw_gm (tin4 (List.mem_of_getElem? (i := 151) (by decide +kernel))) (by decide +kernel)
theorem lk_X8_81 : LkS RX8 81 yX8_isWell cX8_isWell 1 (some .boolean) 1 := LkS_of q4_149 q4_150 q1_9 q4_151 ⟨by decide, by decide, by decide +kernel⟩
theorem q4_152 : Cond.methodLink "JokePumpModel" 85 ⟨"JokePumpModel", "isKnownSign", "(I)Z"⟩ ∈ lw_g := lw_gm (tin4 (List.mem_of_getElem? (i := 152) (by decide +kernel))) (by decide +kernel)
theorem q4_154 : Cond.instanceMethod ⟨"JokePumpModel", "isKnownSign", "(I)Z"⟩ ∈ lw_g := lw_gm (tin4 (List.mem_of_getElem? (i := 154) (by decide +kernel))) (by decide +kernel)
theorem qs_29 : Cond.selects "JokePumpModel" ⟨"JokePumpModel", "isKnownSign", "(I)Z"⟩ ⟨"JokePumpModel", "isKnownSign", "(I)Z"⟩ ∈ lw_g := lw_gm (tinS (q := (⟨"JokePumpModel", "isKnownSign", "(I)Z"⟩, 23)) (List.mem_of_getElem? (i := 29) (by decide +kernel))) (by decide +kernel)
theorem q4_155 : Cond.code ⟨"JokePumpModel", "isKnownSign", "(I)Z"⟩ prog_10_method_13_code 2 (some .boolean) ∈ lw_g := lw_gm (tin4 (List.mem_of_getElem? (i := 155) (by decide +kernel))) (by decide +kernel)
theorem lk_X8_85 : LkV RX8 85 yX8_isKnownSign cX8_isKnownSign 2 (some .boolean) 1 := LkV_of q4_152 q4_154 qs_29 q1_9 q4_155 ⟨by decide, by decide, by decide +kernel⟩
theorem q4_156 : Cond.methodLink "JokePumpModel" 88 ⟨"JokePumpModel", "isNot", "(II)I"⟩ ∈ lw_g := lw_gm (tin4 (List.mem_of_getElem? (i := 156) (by decide +kernel))) (by decide +kernel)
theorem q4_158 : Cond.instanceMethod ⟨"JokePumpModel", "isNot", "(II)I"⟩ ∈ lw_g := lw_gm (tin4 (List.mem_of_getElem? (i := 158) (by decide +kernel))) (by decide +kernel)
theorem qs_30 : Cond.selects "JokePumpModel" ⟨"JokePumpModel", "isNot", "(II)I"⟩ ⟨"JokePumpModel", "isNot", "(II)I"⟩ ∈ lw_g := lw_gm (tinS (q := (⟨"JokePumpModel", "isNot", "(II)I"⟩, 23)) (List.mem_of_getElem? (i := 30) (by decide +kernel))) (by decide +kernel)
theorem q4_159 : Cond.code ⟨"JokePumpModel", "isNot", "(II)I"⟩ prog_10_method_2_code 3 (some .int) ∈ lw_g := lw_gm (tin4 (List.mem_of_getElem? (i := 159) (by decide +kernel))) (by decide +kernel)
theorem lk_X8_88 : LkV RX8 88 yX8_isNot cX8_isNot 3 (some .int) 2 := LkV_of q4_156 q4_158 qs_30 q1_9 q4_159 ⟨by decide, by decide, by decide +kernel⟩
theorem q4_160 : Cond.methodLink "JokePumpModel" 91 ⟨"JokePumpModel", "jokeWith", "(I)I"⟩ ∈ lw_g := lw_gm (tin4 (List.mem_of_getElem? (i := 160) (by decide +kernel))) (by decide +kernel)
theorem q4_162 : Cond.instanceMethod ⟨"JokePumpModel", "jokeWith", "(I)I"⟩ ∈ lw_g := lw_gm (tin4 (List.mem_of_getElem? (i := 162) (by decide +kernel))) (by decide +kernel)
theorem qs_31 : Cond.selects "JokePumpModel" ⟨"JokePumpModel", "jokeWith", "(I)I"⟩ ⟨"JokePumpModel", "jokeWith", "(I)I"⟩ ∈ lw_g := lw_gm (tinS (q := (⟨"JokePumpModel", "jokeWith", "(I)I"⟩, 23)) (List.mem_of_getElem? (i := 31) (by decide +kernel))) (by decide +kernel)
theorem q4_163 : Cond.code ⟨"JokePumpModel", "jokeWith", "(I)I"⟩ prog_10_method_15_code 3 (some .int) ∈ lw_g := lw_gm (tin4 (List.mem_of_getElem? (i := 163) (by decide +kernel))) (by decide +kernel)
theorem lk_X8_91 : LkV RX8 91 yX8_jokeWith cX8_jokeWith 3 (some .int) 1 := LkV_of q4_160 q4_162 qs_31 q1_9 q4_163 ⟨by decide, by decide, by decide +kernel⟩
theorem q4_168 : Cond.methodLink "JokePumpModel" 94 ⟨"JokePumpModel", "jokeAt", "(II)I"⟩ ∈ lw_g := lw_gm (tin4 (List.mem_of_getElem? (i := 168) (by decide +kernel))) (by decide +kernel)
theorem q4_170 : Cond.instanceMethod ⟨"JokePumpModel", "jokeAt", "(II)I"⟩ ∈ lw_g := lw_gm (tin4 (List.mem_of_getElem? (i := 170) (by decide +kernel))) (by decide +kernel)
theorem qs_33 : Cond.selects "JokePumpModel" ⟨"JokePumpModel", "jokeAt", "(II)I"⟩ ⟨"JokePumpModel", "jokeAt", "(II)I"⟩ ∈ lw_g := lw_gm (tinS (q := (⟨"JokePumpModel", "jokeAt", "(II)I"⟩, 23)) (List.mem_of_getElem? (i := 33) (by decide +kernel))) (by decide +kernel)
theorem q4_171 : Cond.code ⟨"JokePumpModel", "jokeAt", "(II)I"⟩ prog_10_method_16_code 4 (some .int) ∈ lw_g := lw_gm (tin4 (List.mem_of_getElem? (i := 171) (by decide +kernel))) (by decide +kernel)
theorem lk_X8_94 : LkV RX8 94 yX8_jokeAt cX8_jokeAt 4 (some .int) 2 := LkV_of q4_168 q4_170 qs_33 q1_9 q4_171 ⟨by decide, by decide, by decide +kernel⟩
theorem q4_172 : Cond.methodLink "JokePumpModel" 97 ⟨"JokePumpModel", "jokesIn", "(I)I"⟩ ∈ lw_g := lw_gm (tin4 (List.mem_of_getElem? (i := 172) (by decide +kernel))) (by decide +kernel)
theorem q4_174 : Cond.instanceMethod ⟨"JokePumpModel", "jokesIn", "(I)I"⟩ ∈ lw_g := lw_gm (tin4 (List.mem_of_getElem? (i := 174) (by decide +kernel))) (by decide +kernel)
theorem qs_34 : Cond.selects "JokePumpModel" ⟨"JokePumpModel", "jokesIn", "(I)I"⟩ ⟨"JokePumpModel", "jokesIn", "(I)I"⟩ ∈ lw_g := lw_gm (tinS (q := (⟨"JokePumpModel", "jokesIn", "(I)I"⟩, 23)) (List.mem_of_getElem? (i := 34) (by decide +kernel))) (by decide +kernel)
theorem q4_175 : Cond.code ⟨"JokePumpModel", "jokesIn", "(I)I"⟩ prog_10_method_14_code 4 (some .int) ∈ lw_g := lw_gm (tin4 (List.mem_of_getElem? (i := 175) (by decide +kernel))) (by decide +kernel)
theorem lk_X8_97 : LkV RX8 97 yX8_jokesIn cX8_jokesIn 4 (some .int) 1 := LkV_of q4_172 q4_174 qs_34 q1_9 q4_175 ⟨by decide, by decide, by decide +kernel⟩
theorem q4_145 : Cond.methodLink "JokePumpModel" 100 ⟨"JokePumpModel", "notJoke", "(IIII)I"⟩ ∈ lw_g := lw_gm (tin4 (List.mem_of_getElem? (i := 145) (by decide +kernel))) (by decide +kernel)
theorem q4_147 : Cond.instanceMethod ⟨"JokePumpModel", "notJoke", "(IIII)I"⟩ ∈ lw_g := lw_gm (tin4 (List.mem_of_getElem? (i := 147) (by decide +kernel))) (by decide +kernel)
theorem qs_28 : Cond.selects "JokePumpModel" ⟨"JokePumpModel", "notJoke", "(IIII)I"⟩ ⟨"JokePumpModel", "notJoke", "(IIII)I"⟩ ∈ lw_g := lw_gm (tinS (q := (⟨"JokePumpModel", "notJoke", "(IIII)I"⟩, 23)) (List.mem_of_getElem? (i := 28) (by decide +kernel))) (by decide +kernel)
theorem q4_148 : Cond.code ⟨"JokePumpModel", "notJoke", "(IIII)I"⟩ prog_10_method_19_code 5 (some .int) ∈ lw_g := lw_gm (tin4 (List.mem_of_getElem? (i := 148) (by decide +kernel))) (by decide +kernel)
theorem lk_X8_100 : LkV RX8 100 yX8_notJoke cX8_notJoke 5 (some .int) 4 := LkV_of q4_145 q4_147 qs_28 q1_9 q4_148 ⟨by decide, by decide, by decide +kernel⟩
theorem q4_176 : Cond.methodLink "JokePumpModel" 104 ⟨"JokePumpModel", "answers", "(I)I"⟩ ∈ lw_g := lw_gm (tin4 (List.mem_of_getElem? (i := 176) (by decide +kernel))) (by decide +kernel)
theorem q4_178 : Cond.instanceMethod ⟨"JokePumpModel", "answers", "(I)I"⟩ ∈ lw_g := lw_gm (tin4 (List.mem_of_getElem? (i := 178) (by decide +kernel))) (by decide +kernel)
theorem qs_35 : Cond.selects "JokePumpModel" ⟨"JokePumpModel", "answers", "(I)I"⟩ ⟨"JokePumpModel", "answers", "(I)I"⟩ ∈ lw_g := lw_gm (tinS (q := (⟨"JokePumpModel", "answers", "(I)I"⟩, 23)) (List.mem_of_getElem? (i := 35) (by decide +kernel))) (by decide +kernel)
theorem q4_179 : Cond.code ⟨"JokePumpModel", "answers", "(I)I"⟩ prog_10_method_3_code 2 (some .int) ∈ lw_g := lw_gm (tin4 (List.mem_of_getElem? (i := 179) (by decide +kernel))) (by decide +kernel)
theorem lk_X8_104 : LkV RX8 104 yX8_answers cX8_answers 2 (some .int) 1 := LkV_of q4_176 q4_178 qs_35 q1_9 q4_179 ⟨by decide, by decide, by decide +kernel⟩
theorem q4_180 : Cond.methodLink "JokePumpModel" 107 ⟨"JokePumpModel", "remembers", "()V"⟩ ∈ lw_g := lw_gm (tin4 (List.mem_of_getElem? (i := 180) (by decide +kernel))) (by decide +kernel)
theorem q4_182 : Cond.instanceMethod ⟨"JokePumpModel", "remembers", "()V"⟩ ∈ lw_g := lw_gm (tin4 (List.mem_of_getElem? (i := 182) (by decide +kernel))) (by decide +kernel)
theorem qs_36 : Cond.selects "JokePumpModel" ⟨"JokePumpModel", "remembers", "()V"⟩ ⟨"JokePumpModel", "remembers", "()V"⟩ ∈ lw_g := lw_gm (tinS (q := (⟨"JokePumpModel", "remembers", "()V"⟩, 23)) (List.mem_of_getElem? (i := 36) (by decide +kernel))) (by decide +kernel)
theorem q4_183 : Cond.code ⟨"JokePumpModel", "remembers", "()V"⟩ prog_10_method_9_code 1 (none : Option Jvm.ClassFile.FieldType) ∈ lw_g := lw_gm (tin4 (List.mem_of_getElem? (i := 183) (by decide +kernel))) (by decide +kernel)
theorem lk_X8_107 : LkV RX8 107 yX8_remembers cX8_remembers 1 none 0 := LkV_of q4_180 q4_182 qs_36 q1_9 q4_183 ⟨by decide, by decide, by decide +kernel⟩
theorem q4_192 : Cond.methodLink "JokePumpModel" 110 ⟨"JokePumpModel", "comes", "(IIII)I"⟩ ∈ lw_g := lw_gm (tin4 (List.mem_of_getElem? (i := 192) (by decide +kernel))) (by decide +kernel)
theorem q4_194 : Cond.instanceMethod ⟨"JokePumpModel", "comes", "(IIII)I"⟩ ∈ lw_g := lw_gm (tin4 (List.mem_of_getElem? (i := 194) (by decide +kernel))) (by decide +kernel)
theorem qs_39 : Cond.selects "JokePumpModel" ⟨"JokePumpModel", "comes", "(IIII)I"⟩ ⟨"JokePumpModel", "comes", "(IIII)I"⟩ ∈ lw_g := lw_gm (tinS (q := (⟨"JokePumpModel", "comes", "(IIII)I"⟩, 23)) (List.mem_of_getElem? (i := 39) (by decide +kernel))) (by decide +kernel)
theorem q4_195 : Cond.code ⟨"JokePumpModel", "comes", "(IIII)I"⟩ prog_10_method_20_code 6 (some .int) ∈ lw_g := lw_gm (tin4 (List.mem_of_getElem? (i := 195) (by decide +kernel))) (by decide +kernel)
theorem lk_X8_110 : LkV RX8 110 yX8_comes cX8_comes 6 (some .int) 4 := LkV_of q4_192 q4_194 qs_39 q1_9 q4_195 ⟨by decide, by decide, by decide +kernel⟩
theorem q4_204 : Cond.methodLink "JokePumpModel" 113 ⟨"JokePumpModel", "isJoke", "(I)Z"⟩ ∈ lw_g := lw_gm (tin4 (List.mem_of_getElem? (i := 204) (by decide +kernel))) (by decide +kernel)
theorem q4_206 : Cond.instanceMethod ⟨"JokePumpModel", "isJoke", "(I)Z"⟩ ∈ lw_g := lw_gm (tin4 (List.mem_of_getElem? (i := 206) (by decide +kernel))) (by decide +kernel)
theorem qs_41 : Cond.selects "JokePumpModel" ⟨"JokePumpModel", "isJoke", "(I)Z"⟩ ⟨"JokePumpModel", "isJoke", "(I)Z"⟩ ∈ lw_g := lw_gm (tinS (q := (⟨"JokePumpModel", "isJoke", "(I)Z"⟩, 23)) (List.mem_of_getElem? (i := 41) (by decide +kernel))) (by decide +kernel)
theorem q4_207 : Cond.code ⟨"JokePumpModel", "isJoke", "(I)Z"⟩ prog_10_method_11_code 2 (some .boolean) ∈ lw_g := lw_gm (tin4 (List.mem_of_getElem? (i := 207) (by decide +kernel))) (by decide +kernel)
theorem lk_X8_113 : LkV RX8 113 yX8_isJoke cX8_isJoke 2 (some .boolean) 1 := LkV_of q4_204 q4_206 qs_41 q1_9 q4_207 ⟨by decide, by decide, by decide +kernel⟩
theorem q4_200 : Cond.methodLink "JokePumpModel" 116 ⟨"JokePumpModel", "notPrime", "(I)I"⟩ ∈ lw_g := lw_gm (tin4 (List.mem_of_getElem? (i := 200) (by decide +kernel))) (by decide +kernel)
theorem q4_202 : Cond.instanceMethod ⟨"JokePumpModel", "notPrime", "(I)I"⟩ ∈ lw_g := lw_gm (tin4 (List.mem_of_getElem? (i := 202) (by decide +kernel))) (by decide +kernel)
theorem qs_40 : Cond.selects "JokePumpModel" ⟨"JokePumpModel", "notPrime", "(I)I"⟩ ⟨"JokePumpModel", "notPrime", "(I)I"⟩ ∈ lw_g := lw_gm (tinS (q := (⟨"JokePumpModel", "notPrime", "(I)I"⟩, 23)) (List.mem_of_getElem? (i := 40) (by decide +kernel))) (by decide +kernel)
theorem q4_203 : Cond.code ⟨"JokePumpModel", "notPrime", "(I)I"⟩ prog_10_method_22_code 2 (some .int) ∈ lw_g := lw_gm (tin4 (List.mem_of_getElem? (i := 203) (by decide +kernel))) (by decide +kernel)
theorem lk_X8_116 : LkV RX8 116 yX8_notPrime cX8_notPrime 2 (some .int) 1 := LkV_of q4_200 q4_202 qs_40 q1_9 q4_203 ⟨by decide, by decide, by decide +kernel⟩
theorem q4_208 : Cond.methodLink "JokePumpModel" 119 ⟨"JokePumpModel", "primes", "(I)I"⟩ ∈ lw_g := lw_gm (tin4 (List.mem_of_getElem? (i := 208) (by decide +kernel))) (by decide +kernel)
theorem q4_210 : Cond.instanceMethod ⟨"JokePumpModel", "primes", "(I)I"⟩ ∈ lw_g := lw_gm (tin4 (List.mem_of_getElem? (i := 210) (by decide +kernel))) (by decide +kernel)
theorem qs_42 : Cond.selects "JokePumpModel" ⟨"JokePumpModel", "primes", "(I)I"⟩ ⟨"JokePumpModel", "primes", "(I)I"⟩ ∈ lw_g := lw_gm (tinS (q := (⟨"JokePumpModel", "primes", "(I)I"⟩, 23)) (List.mem_of_getElem? (i := 42) (by decide +kernel))) (by decide +kernel)
theorem q4_211 : Cond.code ⟨"JokePumpModel", "primes", "(I)I"⟩ prog_10_method_23_code 2 (some .int) ∈ lw_g := lw_gm (tin4 (List.mem_of_getElem? (i := 211) (by decide +kernel))) (by decide +kernel)
theorem lk_X8_119 : LkV RX8 119 yX8_primes cX8_primes 2 (some .int) 1 := LkV_of q4_208 q4_210 qs_42 q1_9 q4_211 ⟨by decide, by decide, by decide +kernel⟩
theorem q4_224 : Cond.methodLink "JokePumpModel" 122 ⟨"JokePumpModel", "goes", "(I)V"⟩ ∈ lw_g := lw_gm (tin4 (List.mem_of_getElem? (i := 224) (by decide +kernel))) (by decide +kernel)
theorem q4_226 : Cond.instanceMethod ⟨"JokePumpModel", "goes", "(I)V"⟩ ∈ lw_g := lw_gm (tin4 (List.mem_of_getElem? (i := 226) (by decide +kernel))) (by decide +kernel)
theorem qs_45 : Cond.selects "JokePumpModel" ⟨"JokePumpModel", "goes", "(I)V"⟩ ⟨"JokePumpModel", "goes", "(I)V"⟩ ∈ lw_g := lw_gm (tinS (q := (⟨"JokePumpModel", "goes", "(I)V"⟩, 23)) (List.mem_of_getElem? (i := 45) (by decide +kernel))) (by decide +kernel)
theorem q4_227 : Cond.code ⟨"JokePumpModel", "goes", "(I)V"⟩ prog_10_method_25_code 4 (none : Option Jvm.ClassFile.FieldType) ∈ lw_g := lw_gm (tin4 (List.mem_of_getElem? (i := 227) (by decide +kernel))) (by decide +kernel)
theorem lk_X8_122 : LkV RX8 122 yX8_goes cX8_goes 4 none 1 := LkV_of q4_224 q4_226 qs_45 q1_9 q4_227 ⟨by decide, by decide, by decide +kernel⟩
theorem q4_216 : Cond.methodLink "JokePumpModel" 126 ⟨"JokePumpModel", "notDrop", "(I)I"⟩ ∈ lw_g := lw_gm (tin4 (List.mem_of_getElem? (i := 216) (by decide +kernel))) (by decide +kernel)
theorem q4_218 : Cond.instanceMethod ⟨"JokePumpModel", "notDrop", "(I)I"⟩ ∈ lw_g := lw_gm (tin4 (List.mem_of_getElem? (i := 218) (by decide +kernel))) (by decide +kernel)
theorem qs_43 : Cond.selects "JokePumpModel" ⟨"JokePumpModel", "notDrop", "(I)I"⟩ ⟨"JokePumpModel", "notDrop", "(I)I"⟩ ∈ lw_g := lw_gm (tinS (q := (⟨"JokePumpModel", "notDrop", "(I)I"⟩, 23)) (List.mem_of_getElem? (i := 43) (by decide +kernel))) (by decide +kernel)
theorem q4_219 : Cond.code ⟨"JokePumpModel", "notDrop", "(I)I"⟩ prog_10_method_26_code 2 (some .int) ∈ lw_g := lw_gm (tin4 (List.mem_of_getElem? (i := 219) (by decide +kernel))) (by decide +kernel)
theorem lk_X8_126 : LkV RX8 126 yX8_notDrop cX8_notDrop 2 (some .int) 1 := LkV_of q4_216 q4_218 qs_43 q1_9 q4_219 ⟨by decide, by decide, by decide +kernel⟩
theorem q4_220 : Cond.methodLink "JokePumpModel" 129 ⟨"JokePumpModel", "drops", "(I)I"⟩ ∈ lw_g := lw_gm (tin4 (List.mem_of_getElem? (i := 220) (by decide +kernel))) (by decide +kernel)
theorem q4_222 : Cond.instanceMethod ⟨"JokePumpModel", "drops", "(I)I"⟩ ∈ lw_g := lw_gm (tin4 (List.mem_of_getElem? (i := 222) (by decide +kernel))) (by decide +kernel)
theorem qs_44 : Cond.selects "JokePumpModel" ⟨"JokePumpModel", "drops", "(I)I"⟩ ⟨"JokePumpModel", "drops", "(I)I"⟩ ∈ lw_g := lw_gm (tinS (q := (⟨"JokePumpModel", "drops", "(I)I"⟩, 23)) (List.mem_of_getElem? (i := 44) (by decide +kernel))) (by decide +kernel)
theorem q4_223 : Cond.code ⟨"JokePumpModel", "drops", "(I)I"⟩ prog_10_method_27_code 2 (some .int) ∈ lw_g := lw_gm (tin4 (List.mem_of_getElem? (i := 223) (by decide +kernel))) (by decide +kernel)
theorem lk_X8_129 : LkV RX8 129 yX8_drops cX8_drops 2 (some .int) 1 := LkV_of q4_220 q4_222 qs_44 q1_9 q4_223 ⟨by decide, by decide, by decide +kernel⟩
theorem q4_232 : Cond.methodLink "JokePumpModel" 132 ⟨"JokePumpModel", "notDrain", "(I)I"⟩ ∈ lw_g := lw_gm (tin4 (List.mem_of_getElem? (i := 232) (by decide +kernel))) (by decide +kernel)
theorem q4_234 : Cond.instanceMethod ⟨"JokePumpModel", "notDrain", "(I)I"⟩ ∈ lw_g := lw_gm (tin4 (List.mem_of_getElem? (i := 234) (by decide +kernel))) (by decide +kernel)
theorem qs_46 : Cond.selects "JokePumpModel" ⟨"JokePumpModel", "notDrain", "(I)I"⟩ ⟨"JokePumpModel", "notDrain", "(I)I"⟩ ∈ lw_g := lw_gm (tinS (q := (⟨"JokePumpModel", "notDrain", "(I)I"⟩, 23)) (List.mem_of_getElem? (i := 46) (by decide +kernel))) (by decide +kernel)
theorem q4_235 : Cond.code ⟨"JokePumpModel", "notDrain", "(I)I"⟩ prog_10_method_29_code 2 (some .int) ∈ lw_g := lw_gm (tin4 (List.mem_of_getElem? (i := 235) (by decide +kernel))) (by decide +kernel)
theorem lk_X8_132 : LkV RX8 132 yX8_notDrain cX8_notDrain 2 (some .int) 1 := LkV_of q4_232 q4_234 qs_46 q1_9 q4_235 ⟨by decide, by decide, by decide +kernel⟩
theorem q4_236 : Cond.methodLink "JokePumpModel" 135 ⟨"JokePumpModel", "drains", "(I)I"⟩ ∈ lw_g := lw_gm (tin4 (List.mem_of_getElem? (i := 236) (by decide +kernel))) (by decide +kernel)
theorem q4_238 : Cond.instanceMethod ⟨"JokePumpModel", "drains", "(I)I"⟩ ∈ lw_g := lw_gm (tin4 (List.mem_of_getElem? (i := 238) (by decide +kernel))) (by decide +kernel)
theorem qs_47 : Cond.selects "JokePumpModel" ⟨"JokePumpModel", "drains", "(I)I"⟩ ⟨"JokePumpModel", "drains", "(I)I"⟩ ∈ lw_g := lw_gm (tinS (q := (⟨"JokePumpModel", "drains", "(I)I"⟩, 23)) (List.mem_of_getElem? (i := 47) (by decide +kernel))) (by decide +kernel)
theorem q4_239 : Cond.code ⟨"JokePumpModel", "drains", "(I)I"⟩ prog_10_method_30_code 2 (some .int) ∈ lw_g := lw_gm (tin4 (List.mem_of_getElem? (i := 239) (by decide +kernel))) (by decide +kernel)
theorem lk_X8_135 : LkV RX8 135 yX8_drains cX8_drains 2 (some .int) 1 := LkV_of q4_236 q4_238 qs_47 q1_9 q4_239 ⟨by decide, by decide, by decide +kernel⟩
theorem q5_4 : Cond.methodLink "JokePumpModel" 138 ⟨"JokePumpModel", "notStroke", "(I)I"⟩ ∈ lw_g := lw_gm (tin5 (List.mem_of_getElem? (i := 4) (by decide +kernel))) (by decide +kernel)
theorem q5_6 : Cond.instanceMethod ⟨"JokePumpModel", "notStroke", "(I)I"⟩ ∈ lw_g := lw_gm (tin5 (List.mem_of_getElem? (i := 6) (by decide +kernel))) (by decide +kernel)
theorem qs_48 : Cond.selects "JokePumpModel" ⟨"JokePumpModel", "notStroke", "(I)I"⟩ ⟨"JokePumpModel", "notStroke", "(I)I"⟩ ∈ lw_g := lw_gm (tinS (q := (⟨"JokePumpModel", "notStroke", "(I)I"⟩, 23)) (List.mem_of_getElem? (i := 48) (by decide +kernel))) (by decide +kernel)
theorem q5_7 : Cond.code ⟨"JokePumpModel", "notStroke", "(I)I"⟩ prog_10_method_33_code 2 (some .int) ∈ lw_g := lw_gm (tin5 (List.mem_of_getElem? (i := 7) (by decide +kernel))) (by decide +kernel)
theorem lk_X8_138 : LkV RX8 138 yX8_notStroke cX8_notStroke 2 (some .int) 1 := LkV_of q5_4 q5_6 qs_48 q1_9 q5_7 ⟨by decide, by decide, by decide +kernel⟩
theorem q5_8 : Cond.methodLink "JokePumpModel" 141 ⟨"JokePumpModel", "tells", "(II)I"⟩ ∈ lw_g := lw_gm (tin5 (List.mem_of_getElem? (i := 8) (by decide +kernel))) (by decide +kernel)
theorem q5_10 : Cond.instanceMethod ⟨"JokePumpModel", "tells", "(II)I"⟩ ∈ lw_g := lw_gm (tin5 (List.mem_of_getElem? (i := 10) (by decide +kernel))) (by decide +kernel)
theorem qs_49 : Cond.selects "JokePumpModel" ⟨"JokePumpModel", "tells", "(II)I"⟩ ⟨"JokePumpModel", "tells", "(II)I"⟩ ∈ lw_g := lw_gm (tinS (q := (⟨"JokePumpModel", "tells", "(II)I"⟩, 23)) (List.mem_of_getElem? (i := 49) (by decide +kernel))) (by decide +kernel)
theorem q5_11 : Cond.code ⟨"JokePumpModel", "tells", "(II)I"⟩ prog_10_method_32_code 4 (some .int) ∈ lw_g := lw_gm (tin5 (List.mem_of_getElem? (i := 11) (by decide +kernel))) (by decide +kernel)
theorem lk_X8_141 : LkV RX8 141 yX8_tells cX8_tells 4 (some .int) 2 := LkV_of q5_8 q5_10 qs_49 q1_9 q5_11 ⟨by decide, by decide, by decide +kernel⟩
theorem q5_16 : Cond.methodLink "JokePumpModel" 144 ⟨"JokePumpModel", "notBucket", "(II)I"⟩ ∈ lw_g := lw_gm (tin5 (List.mem_of_getElem? (i := 16) (by decide +kernel))) (by decide +kernel)
theorem q5_18 : Cond.instanceMethod ⟨"JokePumpModel", "notBucket", "(II)I"⟩ ∈ lw_g := lw_gm (tin5 (List.mem_of_getElem? (i := 18) (by decide +kernel))) (by decide +kernel)
theorem qs_50 : Cond.selects "JokePumpModel" ⟨"JokePumpModel", "notBucket", "(II)I"⟩ ⟨"JokePumpModel", "notBucket", "(II)I"⟩ ∈ lw_g := lw_gm (tinS (q := (⟨"JokePumpModel", "notBucket", "(II)I"⟩, 23)) (List.mem_of_getElem? (i := 50) (by decide +kernel))) (by decide +kernel)
theorem q5_19 : Cond.code ⟨"JokePumpModel", "notBucket", "(II)I"⟩ prog_10_method_35_code 3 (some .int) ∈ lw_g := lw_gm (tin5 (List.mem_of_getElem? (i := 19) (by decide +kernel))) (by decide +kernel)
theorem lk_X8_144 : LkV RX8 144 yX8_notBucket cX8_notBucket 3 (some .int) 2 := LkV_of q5_16 q5_18 qs_50 q1_9 q5_19 ⟨by decide, by decide, by decide +kernel⟩
theorem q5_24 : Cond.methodLink "JokePumpModel" 147 ⟨"JokePumpModel", "notGo", "(I)I"⟩ ∈ lw_g := lw_gm (tin5 (List.mem_of_getElem? (i := 24) (by decide +kernel))) (by decide +kernel)
theorem q5_26 : Cond.instanceMethod ⟨"JokePumpModel", "notGo", "(I)I"⟩ ∈ lw_g := lw_gm (tin5 (List.mem_of_getElem? (i := 26) (by decide +kernel))) (by decide +kernel)
theorem qs_51 : Cond.selects "JokePumpModel" ⟨"JokePumpModel", "notGo", "(I)I"⟩ ⟨"JokePumpModel", "notGo", "(I)I"⟩ ∈ lw_g := lw_gm (tinS (q := (⟨"JokePumpModel", "notGo", "(I)I"⟩, 23)) (List.mem_of_getElem? (i := 51) (by decide +kernel))) (by decide +kernel)
theorem q5_27 : Cond.code ⟨"JokePumpModel", "notGo", "(I)I"⟩ prog_10_method_37_code 2 (some .int) ∈ lw_g := lw_gm (tin5 (List.mem_of_getElem? (i := 27) (by decide +kernel))) (by decide +kernel)
theorem lk_X8_147 : LkV RX8 147 yX8_notGo cX8_notGo 2 (some .int) 1 := LkV_of q5_24 q5_26 qs_51 q1_9 q5_27 ⟨by decide, by decide, by decide +kernel⟩
theorem q5_28 : Cond.methodLink "JokePumpModel" 150 ⟨"JokePumpModel", "moves", "(I)I"⟩ ∈ lw_g := lw_gm (tin5 (List.mem_of_getElem? (i := 28) (by decide +kernel))) (by decide +kernel)
theorem q5_30 : Cond.instanceMethod ⟨"JokePumpModel", "moves", "(I)I"⟩ ∈ lw_g := lw_gm (tin5 (List.mem_of_getElem? (i := 30) (by decide +kernel))) (by decide +kernel)
theorem qs_52 : Cond.selects "JokePumpModel" ⟨"JokePumpModel", "moves", "(I)I"⟩ ⟨"JokePumpModel", "moves", "(I)I"⟩ ∈ lw_g := lw_gm (tinS (q := (⟨"JokePumpModel", "moves", "(I)I"⟩, 23)) (List.mem_of_getElem? (i := 52) (by decide +kernel))) (by decide +kernel)
theorem q5_31 : Cond.code ⟨"JokePumpModel", "moves", "(I)I"⟩ prog_10_method_38_code 2 (some .int) ∈ lw_g := lw_gm (tin5 (List.mem_of_getElem? (i := 31) (by decide +kernel))) (by decide +kernel)
theorem lk_X8_150 : LkV RX8 150 yX8_moves cX8_moves 2 (some .int) 1 := LkV_of q5_28 q5_30 qs_52 q1_9 q5_31 ⟨by decide, by decide, by decide +kernel⟩
theorem q5_63 : Cond.methodLink "JokePumpModel" 155 ⟨"JokePumpModel", "laughOf", "(II)F"⟩ ∈ lw_g := lw_gm (tin5 (List.mem_of_getElem? (i := 63) (by decide +kernel))) (by decide +kernel)
theorem q5_65 : Cond.instanceMethod ⟨"JokePumpModel", "laughOf", "(II)F"⟩ ∈ lw_g := lw_gm (tin5 (List.mem_of_getElem? (i := 65) (by decide +kernel))) (by decide +kernel)
theorem qs_59 : Cond.selects "JokePumpModel" ⟨"JokePumpModel", "laughOf", "(II)F"⟩ ⟨"JokePumpModel", "laughOf", "(II)F"⟩ ∈ lw_g := lw_gm (tinS (q := (⟨"JokePumpModel", "laughOf", "(II)F"⟩, 23)) (List.mem_of_getElem? (i := 59) (by decide +kernel))) (by decide +kernel)
theorem q5_66 : Cond.code ⟨"JokePumpModel", "laughOf", "(II)F"⟩ prog_10_method_40_code 4 (some .float) ∈ lw_g := lw_gm (tin5 (List.mem_of_getElem? (i := 66) (by decide +kernel))) (by decide +kernel)
theorem lk_X8_155 : LkV RX8 155 yX8_laughOf cX8_laughOf 4 (some .float) 2 := LkV_of q5_63 q5_65 qs_59 q1_9 q5_66 ⟨by decide, by decide, by decide +kernel⟩
theorem q5_48 : Cond.methodLink "JokePumpModel" 169 ⟨"JokePumpModel", "nextReach", "(II)I"⟩ ∈ lw_g := lw_gm (tin5 (List.mem_of_getElem? (i := 48) (by decide +kernel))) (by decide +kernel)
theorem q5_49 : Cond.static ⟨"JokePumpModel", "nextReach", "(II)I"⟩ ∈ lw_g := lw_gm (tin5 (List.mem_of_getElem? (i := 49) (by decide +kernel))) (by decide +kernel)
theorem q5_50 : Cond.code ⟨"JokePumpModel", "nextReach", "(II)I"⟩ prog_10_method_42_code 2 (some .int) ∈ lw_g := lw_gm (tin5 (List.mem_of_getElem? (i := 50) (by decide +kernel))) (by decide +kernel)
theorem lk_X8_169 : LkS RX8 169 yX8_nextReach cX8_nextReach 2 (some .int) 2 := LkS_of q5_48 q5_49 q1_9 q5_50 ⟨by decide, by decide, by decide +kernel⟩
theorem q5_51 : Cond.methodLink "JokePumpModel" 172 ⟨"JokePumpModel", "atPlace", "(II)I"⟩ ∈ lw_g := lw_gm (tin5 (List.mem_of_getElem? (i := 51) (by decide +kernel))) (by decide +kernel)
theorem q5_53 : Cond.instanceMethod ⟨"JokePumpModel", "atPlace", "(II)I"⟩ ∈ lw_g := lw_gm (tin5 (List.mem_of_getElem? (i := 53) (by decide +kernel))) (by decide +kernel)
theorem qs_56 : Cond.selects "JokePumpModel" ⟨"JokePumpModel", "atPlace", "(II)I"⟩ ⟨"JokePumpModel", "atPlace", "(II)I"⟩ ∈ lw_g := lw_gm (tinS (q := (⟨"JokePumpModel", "atPlace", "(II)I"⟩, 23)) (List.mem_of_getElem? (i := 56) (by decide +kernel))) (by decide +kernel)
theorem q5_54 : Cond.code ⟨"JokePumpModel", "atPlace", "(II)I"⟩ prog_10_method_18_code 4 (some .int) ∈ lw_g := lw_gm (tin5 (List.mem_of_getElem? (i := 54) (by decide +kernel))) (by decide +kernel)
theorem lk_X8_172 : LkV RX8 172 yX8_atPlace cX8_atPlace 4 (some .int) 2 := LkV_of q5_51 q5_53 qs_56 q1_9 q5_54 ⟨by decide, by decide, by decide +kernel⟩
theorem q5_59 : Cond.methodLink "JokePumpModel" 175 ⟨"JokePumpModel", "lifts", "(I)V"⟩ ∈ lw_g := lw_gm (tin5 (List.mem_of_getElem? (i := 59) (by decide +kernel))) (by decide +kernel)
theorem q5_61 : Cond.instanceMethod ⟨"JokePumpModel", "lifts", "(I)V"⟩ ∈ lw_g := lw_gm (tin5 (List.mem_of_getElem? (i := 61) (by decide +kernel))) (by decide +kernel)
theorem qs_58 : Cond.selects "JokePumpModel" ⟨"JokePumpModel", "lifts", "(I)V"⟩ ⟨"JokePumpModel", "lifts", "(I)V"⟩ ∈ lw_g := lw_gm (tinS (q := (⟨"JokePumpModel", "lifts", "(I)V"⟩, 23)) (List.mem_of_getElem? (i := 58) (by decide +kernel))) (by decide +kernel)
theorem q5_62 : Cond.code ⟨"JokePumpModel", "lifts", "(I)V"⟩ prog_10_method_41_code 5 (none : Option Jvm.ClassFile.FieldType) ∈ lw_g := lw_gm (tin5 (List.mem_of_getElem? (i := 62) (by decide +kernel))) (by decide +kernel)
theorem lk_X8_175 : LkV RX8 175 yX8_lifts cX8_lifts 5 none 1 := LkV_of q5_59 q5_61 qs_58 q1_9 q5_62 ⟨by decide, by decide, by decide +kernel⟩
theorem q5_44 : Cond.methodLink "JokePumpModel" 178 ⟨"JokePumpModel", "strokesOnce", "()I"⟩ ∈ lw_g := lw_gm (tin5 (List.mem_of_getElem? (i := 44) (by decide +kernel))) (by decide +kernel)
theorem q5_46 : Cond.instanceMethod ⟨"JokePumpModel", "strokesOnce", "()I"⟩ ∈ lw_g := lw_gm (tin5 (List.mem_of_getElem? (i := 46) (by decide +kernel))) (by decide +kernel)
theorem qs_55 : Cond.selects "JokePumpModel" ⟨"JokePumpModel", "strokesOnce", "()I"⟩ ⟨"JokePumpModel", "strokesOnce", "()I"⟩ ∈ lw_g := lw_gm (tinS (q := (⟨"JokePumpModel", "strokesOnce", "()I"⟩, 23)) (List.mem_of_getElem? (i := 55) (by decide +kernel))) (by decide +kernel)
theorem q5_47 : Cond.code ⟨"JokePumpModel", "strokesOnce", "()I"⟩ prog_10_method_43_code 4 (some .int) ∈ lw_g := lw_gm (tin5 (List.mem_of_getElem? (i := 47) (by decide +kernel))) (by decide +kernel)
theorem lk_X8_178 : LkV RX8 178 yX8_strokesOnce cX8_strokesOnce 4 (some .int) 0 := LkV_of q5_44 q5_46 qs_55 q1_9 q5_47 ⟨by decide, by decide, by decide +kernel⟩
theorem q5_36 : Cond.methodLink "JokePumpModel" 182 ⟨"JokePumpModel", "notPump", "(I)I"⟩ ∈ lw_g := lw_gm (tin5 (List.mem_of_getElem? (i := 36) (by decide +kernel))) (by decide +kernel)
theorem q5_38 : Cond.instanceMethod ⟨"JokePumpModel", "notPump", "(I)I"⟩ ∈ lw_g := lw_gm (tin5 (List.mem_of_getElem? (i := 38) (by decide +kernel))) (by decide +kernel)
theorem qs_53 : Cond.selects "JokePumpModel" ⟨"JokePumpModel", "notPump", "(I)I"⟩ ⟨"JokePumpModel", "notPump", "(I)I"⟩ ∈ lw_g := lw_gm (tinS (q := (⟨"JokePumpModel", "notPump", "(I)I"⟩, 23)) (List.mem_of_getElem? (i := 53) (by decide +kernel))) (by decide +kernel)
theorem q5_39 : Cond.code ⟨"JokePumpModel", "notPump", "(I)I"⟩ prog_10_method_45_code 2 (some .int) ∈ lw_g := lw_gm (tin5 (List.mem_of_getElem? (i := 39) (by decide +kernel))) (by decide +kernel)
theorem lk_X8_182 : LkV RX8 182 yX8_notPump cX8_notPump 2 (some .int) 1 := LkV_of q5_36 q5_38 qs_53 q1_9 q5_39 ⟨by decide, by decide, by decide +kernel⟩
theorem q5_40 : Cond.methodLink "JokePumpModel" 185 ⟨"JokePumpModel", "pumps", "(I)I"⟩ ∈ lw_g := lw_gm (tin5 (List.mem_of_getElem? (i := 40) (by decide +kernel))) (by decide +kernel)
theorem q5_42 : Cond.instanceMethod ⟨"JokePumpModel", "pumps", "(I)I"⟩ ∈ lw_g := lw_gm (tin5 (List.mem_of_getElem? (i := 42) (by decide +kernel))) (by decide +kernel)
theorem qs_54 : Cond.selects "JokePumpModel" ⟨"JokePumpModel", "pumps", "(I)I"⟩ ⟨"JokePumpModel", "pumps", "(I)I"⟩ ∈ lw_g := lw_gm (tinS (q := (⟨"JokePumpModel", "pumps", "(I)I"⟩, 23)) (List.mem_of_getElem? (i := 54) (by decide +kernel))) (by decide +kernel)
theorem q5_43 : Cond.code ⟨"JokePumpModel", "pumps", "(I)I"⟩ prog_10_method_44_code 4 (some .int) ∈ lw_g := lw_gm (tin5 (List.mem_of_getElem? (i := 43) (by decide +kernel))) (by decide +kernel)
theorem lk_X8_185 : LkV RX8 185 yX8_pumps cX8_pumps 4 (some .int) 1 := LkV_of q5_40 q5_42 qs_54 q1_9 q5_43 ⟨by decide, by decide, by decide +kernel⟩
theorem q5_110 : Cond.methodLink "JokePumpModel" 188 ⟨"JokePumpModel", "laughs", "()F"⟩ ∈ lw_g := lw_gm (tin5 (List.mem_of_getElem? (i := 110) (by decide +kernel))) (by decide +kernel)
theorem lk_X8_188 : LkV RX8 188 yX8_laughs cX8_laughs 1 (some .float) 0 := LkV_of q5_110 q5_99 q5_100 q1_9 q5_101 ⟨by decide, by decide, by decide +kernel⟩
theorem q5_123 : Cond.methodLink "JokePumpModel" 192 ⟨"JokePumpModel", "strokes", "(I)I"⟩ ∈ lw_g := lw_gm (tin5 (List.mem_of_getElem? (i := 123) (by decide +kernel))) (by decide +kernel)
theorem lk_X8_192 : LkV RX8 192 yX8_strokes cX8_strokes 4 (some .int) 1 := LkV_of q5_123 q5_116 q5_117 q1_9 q5_118 ⟨by decide, by decide, by decide +kernel⟩
theorem q5_128 : Cond.methodLink "JokePumpModel" 195 ⟨"JokePumpModel", "looksAhead", "()V"⟩ ∈ lw_g := lw_gm (tin5 (List.mem_of_getElem? (i := 128) (by decide +kernel))) (by decide +kernel)
theorem q5_130 : Cond.instanceMethod ⟨"JokePumpModel", "looksAhead", "()V"⟩ ∈ lw_g := lw_gm (tin5 (List.mem_of_getElem? (i := 130) (by decide +kernel))) (by decide +kernel)
theorem qs_60 : Cond.selects "JokePumpModel" ⟨"JokePumpModel", "looksAhead", "()V"⟩ ⟨"JokePumpModel", "looksAhead", "()V"⟩ ∈ lw_g := lw_gm (tinS (q := (⟨"JokePumpModel", "looksAhead", "()V"⟩, 23)) (List.mem_of_getElem? (i := 60) (by decide +kernel))) (by decide +kernel)
theorem q5_131 : Cond.code ⟨"JokePumpModel", "looksAhead", "()V"⟩ prog_10_method_57_code 2 (none : Option Jvm.ClassFile.FieldType) ∈ lw_g := lw_gm (tin5 (List.mem_of_getElem? (i := 131) (by decide +kernel))) (by decide +kernel)
theorem lk_X8_195 : LkV RX8 195 yX8_looksAhead cX8_looksAhead 2 none 0 := LkV_of q5_128 q5_130 qs_60 q1_9 q5_131 ⟨by decide, by decide, by decide +kernel⟩
theorem q5_132 : Cond.methodLink "JokePumpModel" 198 ⟨"JokePumpModel", "comesBack", "()V"⟩ ∈ lw_g := lw_gm (tin5 (List.mem_of_getElem? (i := 132) (by decide +kernel))) (by decide +kernel)
theorem q5_134 : Cond.instanceMethod ⟨"JokePumpModel", "comesBack", "()V"⟩ ∈ lw_g := lw_gm (tin5 (List.mem_of_getElem? (i := 134) (by decide +kernel))) (by decide +kernel)
theorem qs_61 : Cond.selects "JokePumpModel" ⟨"JokePumpModel", "comesBack", "()V"⟩ ⟨"JokePumpModel", "comesBack", "()V"⟩ ∈ lw_g := lw_gm (tinS (q := (⟨"JokePumpModel", "comesBack", "()V"⟩, 23)) (List.mem_of_getElem? (i := 61) (by decide +kernel))) (by decide +kernel)
theorem q5_135 : Cond.code ⟨"JokePumpModel", "comesBack", "()V"⟩ prog_10_method_58_code 2 (none : Option Jvm.ClassFile.FieldType) ∈ lw_g := lw_gm (tin5 (List.mem_of_getElem? (i := 135) (by decide +kernel))) (by decide +kernel)
theorem lk_X8_198 : LkV RX8 198 yX8_comesBack cX8_comesBack 2 none 0 := LkV_of q5_132 q5_134 qs_61 q1_9 q5_135 ⟨by decide, by decide, by decide +kernel⟩
theorem q5_144 : Cond.methodLink "JokePumpModel" 201 ⟨"JokePumpModel", "groansTo", "(II)I"⟩ ∈ lw_g := lw_gm (tin5 (List.mem_of_getElem? (i := 144) (by decide +kernel))) (by decide +kernel)
theorem q5_146 : Cond.instanceMethod ⟨"JokePumpModel", "groansTo", "(II)I"⟩ ∈ lw_g := lw_gm (tin5 (List.mem_of_getElem? (i := 146) (by decide +kernel))) (by decide +kernel)
theorem qs_62 : Cond.selects "JokePumpModel" ⟨"JokePumpModel", "groansTo", "(II)I"⟩ ⟨"JokePumpModel", "groansTo", "(II)I"⟩ ∈ lw_g := lw_gm (tinS (q := (⟨"JokePumpModel", "groansTo", "(II)I"⟩, 23)) (List.mem_of_getElem? (i := 62) (by decide +kernel))) (by decide +kernel)
theorem q5_147 : Cond.code ⟨"JokePumpModel", "groansTo", "(II)I"⟩ prog_10_method_61_code 5 (some .int) ∈ lw_g := lw_gm (tin5 (List.mem_of_getElem? (i := 147) (by decide +kernel))) (by decide +kernel)
theorem lk_X8_201 : LkV RX8 201 yX8_groansTo cX8_groansTo 5 (some .int) 2 := LkV_of q5_144 q5_146 qs_62 q1_9 q5_147 ⟨by decide, by decide, by decide +kernel⟩
theorem q5_152 : Cond.methodLink "JokePumpModel" 204 ⟨"JokePumpModel", "isFunnier", "(II)Z"⟩ ∈ lw_g := lw_gm (tin5 (List.mem_of_getElem? (i := 152) (by decide +kernel))) (by decide +kernel)
theorem q5_154 : Cond.instanceMethod ⟨"JokePumpModel", "isFunnier", "(II)Z"⟩ ∈ lw_g := lw_gm (tin5 (List.mem_of_getElem? (i := 154) (by decide +kernel))) (by decide +kernel)
theorem qs_63 : Cond.selects "JokePumpModel" ⟨"JokePumpModel", "isFunnier", "(II)Z"⟩ ⟨"JokePumpModel", "isFunnier", "(II)Z"⟩ ∈ lw_g := lw_gm (tinS (q := (⟨"JokePumpModel", "isFunnier", "(II)Z"⟩, 23)) (List.mem_of_getElem? (i := 63) (by decide +kernel))) (by decide +kernel)
theorem q5_155 : Cond.code ⟨"JokePumpModel", "isFunnier", "(II)Z"⟩ prog_10_method_63_code 6 (some .boolean) ∈ lw_g := lw_gm (tin5 (List.mem_of_getElem? (i := 155) (by decide +kernel))) (by decide +kernel)
theorem lk_X8_204 : LkV RX8 204 yX8_isFunnier cX8_isFunnier 6 (some .boolean) 2 := LkV_of q5_152 q5_154 qs_63 q1_9 q5_155 ⟨by decide, by decide, by decide +kernel⟩
theorem q5_164 : Cond.methodLink "JokePumpModel" 208 ⟨"JokePumpModel", "isFuller", "(II)Z"⟩ ∈ lw_g := lw_gm (tin5 (List.mem_of_getElem? (i := 164) (by decide +kernel))) (by decide +kernel)
theorem q5_166 : Cond.instanceMethod ⟨"JokePumpModel", "isFuller", "(II)Z"⟩ ∈ lw_g := lw_gm (tin5 (List.mem_of_getElem? (i := 166) (by decide +kernel))) (by decide +kernel)
theorem qs_64 : Cond.selects "JokePumpModel" ⟨"JokePumpModel", "isFuller", "(II)Z"⟩ ⟨"JokePumpModel", "isFuller", "(II)Z"⟩ ∈ lw_g := lw_gm (tinS (q := (⟨"JokePumpModel", "isFuller", "(II)Z"⟩, 23)) (List.mem_of_getElem? (i := 64) (by decide +kernel))) (by decide +kernel)
theorem q5_167 : Cond.code ⟨"JokePumpModel", "isFuller", "(II)Z"⟩ prog_10_method_66_code 5 (some .boolean) ∈ lw_g := lw_gm (tin5 (List.mem_of_getElem? (i := 167) (by decide +kernel))) (by decide +kernel)
theorem lk_X8_208 : LkV RX8 208 yX8_isFuller cX8_isFuller 5 (some .boolean) 2 := LkV_of q5_164 q5_166 qs_64 q1_9 q5_167 ⟨by decide, by decide, by decide +kernel⟩
theorem q5_172 : Cond.methodLink "JokePumpModel" 211 ⟨"JokePumpModel", "laughsAgain", "()F"⟩ ∈ lw_g := lw_gm (tin5 (List.mem_of_getElem? (i := 172) (by decide +kernel))) (by decide +kernel)
theorem lk_X8_211 : LkV RX8 211 yX8_laughsAgain cX8_laughsAgain 3 (some .float) 0 := LkV_of q5_172 q5_103 q5_104 q1_9 q5_105 ⟨by decide, by decide, by decide +kernel⟩
theorem q5_186 : Cond.methodLink "JokePumpModel" 215 ⟨"JokePumpModel", "primed", "()I"⟩ ∈ lw_g := lw_gm (tin5 (List.mem_of_getElem? (i := 186) (by decide +kernel))) (by decide +kernel)
theorem q5_188 : Cond.instanceMethod ⟨"JokePumpModel", "primed", "()I"⟩ ∈ lw_g := lw_gm (tin5 (List.mem_of_getElem? (i := 188) (by decide +kernel))) (by decide +kernel)
theorem qs_65 : Cond.selects "JokePumpModel" ⟨"JokePumpModel", "primed", "()I"⟩ ⟨"JokePumpModel", "primed", "()I"⟩ ∈ lw_g := lw_gm (tinS (q := (⟨"JokePumpModel", "primed", "()I"⟩, 23)) (List.mem_of_getElem? (i := 65) (by decide +kernel))) (by decide +kernel)
theorem q5_189 : Cond.code ⟨"JokePumpModel", "primed", "()I"⟩ prog_10_method_71_code 3 (some .int) ∈ lw_g := lw_gm (tin5 (List.mem_of_getElem? (i := 189) (by decide +kernel))) (by decide +kernel)
theorem lk_X8_215 : LkV RX8 215 yX8_primed cX8_primed 3 (some .int) 0 := LkV_of q5_186 q5_188 qs_65 q1_9 q5_189 ⟨by decide, by decide, by decide +kernel⟩
theorem q5_194 : Cond.methodLink "JokePumpModel" 224 ⟨"JokePumpModel", "writes", "(I)V"⟩ ∈ lw_g := lw_gm (tin5 (List.mem_of_getElem? (i := 194) (by decide +kernel))) (by decide +kernel)
theorem q5_196 : Cond.instanceMethod ⟨"JokePumpModel", "writes", "(I)V"⟩ ∈ lw_g := lw_gm (tin5 (List.mem_of_getElem? (i := 196) (by decide +kernel))) (by decide +kernel)
theorem qs_66 : Cond.selects "JokePumpModel" ⟨"JokePumpModel", "writes", "(I)V"⟩ ⟨"JokePumpModel", "writes", "(I)V"⟩ ∈ lw_g := lw_gm (tinS (q := (⟨"JokePumpModel", "writes", "(I)V"⟩, 23)) (List.mem_of_getElem? (i := 66) (by decide +kernel))) (by decide +kernel)
theorem q5_197 : Cond.code ⟨"JokePumpModel", "writes", "(I)V"⟩ prog_10_method_73_code 2 (none : Option Jvm.ClassFile.FieldType) ∈ lw_g := lw_gm (tin5 (List.mem_of_getElem? (i := 197) (by decide +kernel))) (by decide +kernel)
theorem lk_X8_224 : LkV RX8 224 yX8_writes cX8_writes 2 none 1 := LkV_of q5_194 q5_196 qs_66 q1_9 q5_197 ⟨by decide, by decide, by decide +kernel⟩
theorem q5_202 : Cond.methodLink "JokePumpModel" 227 ⟨"JokePumpModel", "writesNumber", "(I)V"⟩ ∈ lw_g := lw_gm (tin5 (List.mem_of_getElem? (i := 202) (by decide +kernel))) (by decide +kernel)
theorem q5_204 : Cond.instanceMethod ⟨"JokePumpModel", "writesNumber", "(I)V"⟩ ∈ lw_g := lw_gm (tin5 (List.mem_of_getElem? (i := 204) (by decide +kernel))) (by decide +kernel)
theorem qs_68 : Cond.selects "JokePumpModel" ⟨"JokePumpModel", "writesNumber", "(I)V"⟩ ⟨"JokePumpModel", "writesNumber", "(I)V"⟩ ∈ lw_g := lw_gm (tinS (q := (⟨"JokePumpModel", "writesNumber", "(I)V"⟩, 23)) (List.mem_of_getElem? (i := 68) (by decide +kernel))) (by decide +kernel)
theorem q5_205 : Cond.code ⟨"JokePumpModel", "writesNumber", "(I)V"⟩ prog_10_method_74_code 2 (none : Option Jvm.ClassFile.FieldType) ∈ lw_g := lw_gm (tin5 (List.mem_of_getElem? (i := 205) (by decide +kernel))) (by decide +kernel)
theorem lk_X8_227 : LkV RX8 227 yX8_writesNumber cX8_writesNumber 2 none 1 := LkV_of q5_202 q5_204 qs_68 q1_9 q5_205 ⟨by decide, by decide, by decide +kernel⟩
theorem q5_198 : Cond.methodLink "JokePumpModel" 230 ⟨"JokePumpModel", "writesJoke", "(I)V"⟩ ∈ lw_g := lw_gm (tin5 (List.mem_of_getElem? (i := 198) (by decide +kernel))) (by decide +kernel)
theorem q5_200 : Cond.instanceMethod ⟨"JokePumpModel", "writesJoke", "(I)V"⟩ ∈ lw_g := lw_gm (tin5 (List.mem_of_getElem? (i := 200) (by decide +kernel))) (by decide +kernel)
theorem qs_67 : Cond.selects "JokePumpModel" ⟨"JokePumpModel", "writesJoke", "(I)V"⟩ ⟨"JokePumpModel", "writesJoke", "(I)V"⟩ ∈ lw_g := lw_gm (tinS (q := (⟨"JokePumpModel", "writesJoke", "(I)V"⟩, 23)) (List.mem_of_getElem? (i := 67) (by decide +kernel))) (by decide +kernel)
theorem q5_201 : Cond.code ⟨"JokePumpModel", "writesJoke", "(I)V"⟩ prog_10_method_75_code 2 (none : Option Jvm.ClassFile.FieldType) ∈ lw_g := lw_gm (tin5 (List.mem_of_getElem? (i := 201) (by decide +kernel))) (by decide +kernel)
theorem lk_X8_230 : LkV RX8 230 yX8_writesJoke cX8_writesJoke 2 none 1 := LkV_of q5_198 q5_200 qs_67 q1_9 q5_201 ⟨by decide, by decide, by decide +kernel⟩
theorem q5_234 : Cond.methodLink "JokePumpModel" 236 ⟨"JokePumpModel", "nextSign", "()I"⟩ ∈ lw_g := lw_gm (tin5 (List.mem_of_getElem? (i := 234) (by decide +kernel))) (by decide +kernel)
theorem q5_236 : Cond.instanceMethod ⟨"JokePumpModel", "nextSign", "()I"⟩ ∈ lw_g := lw_gm (tin5 (List.mem_of_getElem? (i := 236) (by decide +kernel))) (by decide +kernel)
theorem qs_71 : Cond.selects "JokePumpModel" ⟨"JokePumpModel", "nextSign", "()I"⟩ ⟨"JokePumpModel", "nextSign", "()I"⟩ ∈ lw_g := lw_gm (tinS (q := (⟨"JokePumpModel", "nextSign", "()I"⟩, 23)) (List.mem_of_getElem? (i := 71) (by decide +kernel))) (by decide +kernel)
theorem q5_237 : Cond.code ⟨"JokePumpModel", "nextSign", "()I"⟩ prog_10_method_81_code 1 (some .int) ∈ lw_g := lw_gm (tin5 (List.mem_of_getElem? (i := 237) (by decide +kernel))) (by decide +kernel)
theorem lk_X8_236 : LkV RX8 236 yX8_nextSign cX8_nextSign 1 (some .int) 0 := LkV_of q5_234 q5_236 qs_71 q1_9 q5_237 ⟨by decide, by decide, by decide +kernel⟩
theorem q6_6 : Cond.methodLink "JokePumpModel" 239 ⟨"JokePumpModel", "readsDigit", "(I)Z"⟩ ∈ lw_g := lw_gm (tin6 (List.mem_of_getElem? (i := 6) (by decide +kernel))) (by decide +kernel)
theorem q6_8 : Cond.instanceMethod ⟨"JokePumpModel", "readsDigit", "(I)Z"⟩ ∈ lw_g := lw_gm (tin6 (List.mem_of_getElem? (i := 8) (by decide +kernel))) (by decide +kernel)
theorem qs_74 : Cond.selects "JokePumpModel" ⟨"JokePumpModel", "readsDigit", "(I)Z"⟩ ⟨"JokePumpModel", "readsDigit", "(I)Z"⟩ ∈ lw_g := lw_gm (tinS (q := (⟨"JokePumpModel", "readsDigit", "(I)Z"⟩, 23)) (List.mem_of_getElem? (i := 74) (by decide +kernel))) (by decide +kernel)
theorem q6_9 : Cond.code ⟨"JokePumpModel", "readsDigit", "(I)Z"⟩ prog_10_method_83_code 2 (some .boolean) ∈ lw_g := lw_gm (tin6 (List.mem_of_getElem? (i := 9) (by decide +kernel))) (by decide +kernel)
theorem lk_X8_239 : LkV RX8 239 yX8_readsDigit cX8_readsDigit 2 (some .boolean) 1 := LkV_of q6_6 q6_8 qs_74 q1_9 q6_9 ⟨by decide, by decide, by decide +kernel⟩
theorem q5_238 : Cond.methodLink "JokePumpModel" 242 ⟨"JokePumpModel", "reads", "(I)Z"⟩ ∈ lw_g := lw_gm (tin5 (List.mem_of_getElem? (i := 238) (by decide +kernel))) (by decide +kernel)
theorem q6_0 : Cond.instanceMethod ⟨"JokePumpModel", "reads", "(I)Z"⟩ ∈ lw_g := lw_gm (tin6 (List.mem_of_getElem? (i := 0) (by decide +kernel))) (by decide +kernel)
theorem qs_72 : Cond.selects "JokePumpModel" ⟨"JokePumpModel", "reads", "(I)Z"⟩ ⟨"JokePumpModel", "reads", "(I)Z"⟩ ∈ lw_g := lw_gm (tinS (q := (⟨"JokePumpModel", "reads", "(I)Z"⟩, 23)) (List.mem_of_getElem? (i := 72) (by decide +kernel))) (by decide +kernel)
theorem q6_1 : Cond.code ⟨"JokePumpModel", "reads", "(I)Z"⟩ prog_10_method_82_code 2 (some .boolean) ∈ lw_g := lw_gm (tin6 (List.mem_of_getElem? (i := 1) (by decide +kernel))) (by decide +kernel)
theorem lk_X8_242 : LkV RX8 242 yX8_reads cX8_reads 2 (some .boolean) 1 := LkV_of q5_238 q6_0 qs_72 q1_9 q6_1 ⟨by decide, by decide, by decide +kernel⟩
theorem q6_10 : Cond.methodLink "JokePumpModel" 245 ⟨"JokePumpModel", "readsNumber", "(I)Z"⟩ ∈ lw_g := lw_gm (tin6 (List.mem_of_getElem? (i := 10) (by decide +kernel))) (by decide +kernel)
theorem q6_12 : Cond.instanceMethod ⟨"JokePumpModel", "readsNumber", "(I)Z"⟩ ∈ lw_g := lw_gm (tin6 (List.mem_of_getElem? (i := 12) (by decide +kernel))) (by decide +kernel)
theorem qs_75 : Cond.selects "JokePumpModel" ⟨"JokePumpModel", "readsNumber", "(I)Z"⟩ ⟨"JokePumpModel", "readsNumber", "(I)Z"⟩ ∈ lw_g := lw_gm (tinS (q := (⟨"JokePumpModel", "readsNumber", "(I)Z"⟩, 23)) (List.mem_of_getElem? (i := 75) (by decide +kernel))) (by decide +kernel)
theorem q6_13 : Cond.code ⟨"JokePumpModel", "readsNumber", "(I)Z"⟩ prog_10_method_84_code 2 (some .boolean) ∈ lw_g := lw_gm (tin6 (List.mem_of_getElem? (i := 13) (by decide +kernel))) (by decide +kernel)
theorem lk_X8_245 : LkV RX8 245 yX8_readsNumber cX8_readsNumber 2 (some .boolean) 1 := LkV_of q6_10 q6_12 qs_75 q1_9 q6_13 ⟨by decide, by decide, by decide +kernel⟩
theorem q6_2 : Cond.methodLink "JokePumpModel" 251 ⟨"JokePumpModel", "readsJoke", "()Z"⟩ ∈ lw_g := lw_gm (tin6 (List.mem_of_getElem? (i := 2) (by decide +kernel))) (by decide +kernel)
theorem q6_4 : Cond.instanceMethod ⟨"JokePumpModel", "readsJoke", "()Z"⟩ ∈ lw_g := lw_gm (tin6 (List.mem_of_getElem? (i := 4) (by decide +kernel))) (by decide +kernel)
theorem qs_73 : Cond.selects "JokePumpModel" ⟨"JokePumpModel", "readsJoke", "()Z"⟩ ⟨"JokePumpModel", "readsJoke", "()Z"⟩ ∈ lw_g := lw_gm (tinS (q := (⟨"JokePumpModel", "readsJoke", "()Z"⟩, 23)) (List.mem_of_getElem? (i := 73) (by decide +kernel))) (by decide +kernel)
theorem q6_5 : Cond.code ⟨"JokePumpModel", "readsJoke", "()Z"⟩ prog_10_method_85_code 1 (some .boolean) ∈ lw_g := lw_gm (tin6 (List.mem_of_getElem? (i := 5) (by decide +kernel))) (by decide +kernel)
theorem lk_X8_251 : LkV RX8 251 yX8_readsJoke cX8_readsJoke 1 (some .boolean) 0 := LkV_of q6_2 q6_4 qs_73 q1_9 q6_5 ⟨by decide, by decide, by decide +kernel⟩
theorem q6_14 : Cond.methodLink "JokePumpModel" 255 ⟨"JokePumpModel", "readsP", "()Z"⟩ ∈ lw_g := lw_gm (tin6 (List.mem_of_getElem? (i := 14) (by decide +kernel))) (by decide +kernel)
theorem q6_16 : Cond.instanceMethod ⟨"JokePumpModel", "readsP", "()Z"⟩ ∈ lw_g := lw_gm (tin6 (List.mem_of_getElem? (i := 16) (by decide +kernel))) (by decide +kernel)
theorem qs_76 : Cond.selects "JokePumpModel" ⟨"JokePumpModel", "readsP", "()Z"⟩ ⟨"JokePumpModel", "readsP", "()Z"⟩ ∈ lw_g := lw_gm (tinS (q := (⟨"JokePumpModel", "readsP", "()Z"⟩, 23)) (List.mem_of_getElem? (i := 76) (by decide +kernel))) (by decide +kernel)
theorem q6_17 : Cond.code ⟨"JokePumpModel", "readsP", "()Z"⟩ prog_10_method_86_code 1 (some .boolean) ∈ lw_g := lw_gm (tin6 (List.mem_of_getElem? (i := 17) (by decide +kernel))) (by decide +kernel)
theorem lk_X8_255 : LkV RX8 255 yX8_readsP cX8_readsP 1 (some .boolean) 0 := LkV_of q6_14 q6_16 qs_76 q1_9 q6_17 ⟨by decide, by decide, by decide +kernel⟩
theorem q6_18 : Cond.methodLink "JokePumpModel" 258 ⟨"JokePumpModel", "readsD", "()Z"⟩ ∈ lw_g := lw_gm (tin6 (List.mem_of_getElem? (i := 18) (by decide +kernel))) (by decide +kernel)
theorem q6_20 : Cond.instanceMethod ⟨"JokePumpModel", "readsD", "()Z"⟩ ∈ lw_g := lw_gm (tin6 (List.mem_of_getElem? (i := 20) (by decide +kernel))) (by decide +kernel)
theorem qs_77 : Cond.selects "JokePumpModel" ⟨"JokePumpModel", "readsD", "()Z"⟩ ⟨"JokePumpModel", "readsD", "()Z"⟩ ∈ lw_g := lw_gm (tinS (q := (⟨"JokePumpModel", "readsD", "()Z"⟩, 23)) (List.mem_of_getElem? (i := 77) (by decide +kernel))) (by decide +kernel)
theorem q6_21 : Cond.code ⟨"JokePumpModel", "readsD", "()Z"⟩ prog_10_method_87_code 1 (some .boolean) ∈ lw_g := lw_gm (tin6 (List.mem_of_getElem? (i := 21) (by decide +kernel))) (by decide +kernel)
theorem lk_X8_258 : LkV RX8 258 yX8_readsD cX8_readsD 1 (some .boolean) 0 := LkV_of q6_18 q6_20 qs_77 q1_9 q6_21 ⟨by decide, by decide, by decide +kernel⟩
theorem q6_22 : Cond.methodLink "JokePumpModel" 261 ⟨"JokePumpModel", "readsStroke", "()Z"⟩ ∈ lw_g := lw_gm (tin6 (List.mem_of_getElem? (i := 22) (by decide +kernel))) (by decide +kernel)
theorem q6_24 : Cond.instanceMethod ⟨"JokePumpModel", "readsStroke", "()Z"⟩ ∈ lw_g := lw_gm (tin6 (List.mem_of_getElem? (i := 24) (by decide +kernel))) (by decide +kernel)
theorem qs_78 : Cond.selects "JokePumpModel" ⟨"JokePumpModel", "readsStroke", "()Z"⟩ ⟨"JokePumpModel", "readsStroke", "()Z"⟩ ∈ lw_g := lw_gm (tinS (q := (⟨"JokePumpModel", "readsStroke", "()Z"⟩, 23)) (List.mem_of_getElem? (i := 78) (by decide +kernel))) (by decide +kernel)
theorem q6_25 : Cond.code ⟨"JokePumpModel", "readsStroke", "()Z"⟩ prog_10_method_88_code 1 (some .boolean) ∈ lw_g := lw_gm (tin6 (List.mem_of_getElem? (i := 25) (by decide +kernel))) (by decide +kernel)
theorem lk_X8_261 : LkV RX8 261 yX8_readsStroke cX8_readsStroke 1 (some .boolean) 0 := LkV_of q6_22 q6_24 qs_78 q1_9 q6_25 ⟨by decide, by decide, by decide +kernel⟩
theorem q6_26 : Cond.methodLink "JokePumpModel" 264 ⟨"JokePumpModel", "readsBucket", "()Z"⟩ ∈ lw_g := lw_gm (tin6 (List.mem_of_getElem? (i := 26) (by decide +kernel))) (by decide +kernel)
theorem q6_28 : Cond.instanceMethod ⟨"JokePumpModel", "readsBucket", "()Z"⟩ ∈ lw_g := lw_gm (tin6 (List.mem_of_getElem? (i := 28) (by decide +kernel))) (by decide +kernel)
theorem qs_79 : Cond.selects "JokePumpModel" ⟨"JokePumpModel", "readsBucket", "()Z"⟩ ⟨"JokePumpModel", "readsBucket", "()Z"⟩ ∈ lw_g := lw_gm (tinS (q := (⟨"JokePumpModel", "readsBucket", "()Z"⟩, 23)) (List.mem_of_getElem? (i := 79) (by decide +kernel))) (by decide +kernel)
theorem q6_29 : Cond.code ⟨"JokePumpModel", "readsBucket", "()Z"⟩ prog_10_method_89_code 1 (some .boolean) ∈ lw_g := lw_gm (tin6 (List.mem_of_getElem? (i := 29) (by decide +kernel))) (by decide +kernel)
theorem lk_X8_264 : LkV RX8 264 yX8_readsBucket cX8_readsBucket 1 (some .boolean) 0 := LkV_of q6_26 q6_28 qs_79 q1_9 q6_29 ⟨by decide, by decide, by decide +kernel⟩
theorem q5_230 : Cond.methodLink "JokePumpModel" 267 ⟨"JokePumpModel", "readsCommand", "()Z"⟩ ∈ lw_g := lw_gm (tin5 (List.mem_of_getElem? (i := 230) (by decide +kernel))) (by decide +kernel)
theorem q5_232 : Cond.instanceMethod ⟨"JokePumpModel", "readsCommand", "()Z"⟩ ∈ lw_g := lw_gm (tin5 (List.mem_of_getElem? (i := 232) (by decide +kernel))) (by decide +kernel)
theorem qs_70 : Cond.selects "JokePumpModel" ⟨"JokePumpModel", "readsCommand", "()Z"⟩ ⟨"JokePumpModel", "readsCommand", "()Z"⟩ ∈ lw_g := lw_gm (tinS (q := (⟨"JokePumpModel", "readsCommand", "()Z"⟩, 23)) (List.mem_of_getElem? (i := 70) (by decide +kernel))) (by decide +kernel)
theorem q5_233 : Cond.code ⟨"JokePumpModel", "readsCommand", "()Z"⟩ prog_10_method_90_code 1 (some .boolean) ∈ lw_g := lw_gm (tin5 (List.mem_of_getElem? (i := 233) (by decide +kernel))) (by decide +kernel)
theorem lk_X8_267 : LkV RX8 267 yX8_readsCommand cX8_readsCommand 1 (some .boolean) 0 := LkV_of q5_230 q5_232 qs_70 q1_9 q5_233 ⟨by decide, by decide, by decide +kernel⟩
theorem q6_34 : Cond.methodLink "JokePumpModel" 273 ⟨"JokePumpModel", "notNow", "()I"⟩ ∈ lw_g := lw_gm (tin6 (List.mem_of_getElem? (i := 34) (by decide +kernel))) (by decide +kernel)
theorem q6_36 : Cond.instanceMethod ⟨"JokePumpModel", "notNow", "()I"⟩ ∈ lw_g := lw_gm (tin6 (List.mem_of_getElem? (i := 36) (by decide +kernel))) (by decide +kernel)
theorem qs_81 : Cond.selects "JokePumpModel" ⟨"JokePumpModel", "notNow", "()I"⟩ ⟨"JokePumpModel", "notNow", "()I"⟩ ∈ lw_g := lw_gm (tinS (q := (⟨"JokePumpModel", "notNow", "()I"⟩, 23)) (List.mem_of_getElem? (i := 81) (by decide +kernel))) (by decide +kernel)
theorem q6_37 : Cond.code ⟨"JokePumpModel", "notNow", "()I"⟩ prog_10_method_92_code 2 (some .int) ∈ lw_g := lw_gm (tin6 (List.mem_of_getElem? (i := 37) (by decide +kernel))) (by decide +kernel)
theorem lk_X8_273 : LkV RX8 273 yX8_notNow cX8_notNow 2 (some .int) 0 := LkV_of q6_34 q6_36 qs_81 q1_9 q6_37 ⟨by decide, by decide, by decide +kernel⟩
theorem q6_38 : Cond.methodLink "JokePumpModel" 276 ⟨"JokePumpModel", "doesNow", "()I"⟩ ∈ lw_g := lw_gm (tin6 (List.mem_of_getElem? (i := 38) (by decide +kernel))) (by decide +kernel)
theorem q6_40 : Cond.instanceMethod ⟨"JokePumpModel", "doesNow", "()I"⟩ ∈ lw_g := lw_gm (tin6 (List.mem_of_getElem? (i := 40) (by decide +kernel))) (by decide +kernel)
theorem qs_82 : Cond.selects "JokePumpModel" ⟨"JokePumpModel", "doesNow", "()I"⟩ ⟨"JokePumpModel", "doesNow", "()I"⟩ ∈ lw_g := lw_gm (tinS (q := (⟨"JokePumpModel", "doesNow", "()I"⟩, 23)) (List.mem_of_getElem? (i := 82) (by decide +kernel))) (by decide +kernel)
theorem q6_41 : Cond.code ⟨"JokePumpModel", "doesNow", "()I"⟩ prog_10_method_93_code 2 (some .int) ∈ lw_g := lw_gm (tin6 (List.mem_of_getElem? (i := 41) (by decide +kernel))) (by decide +kernel)
theorem lk_X8_276 : LkV RX8 276 yX8_doesNow cX8_doesNow 2 (some .int) 0 := LkV_of q6_38 q6_40 qs_82 q1_9 q6_41 ⟨by decide, by decide, by decide +kernel⟩
theorem q5_226 : Cond.methodLink "JokePumpModel" 279 ⟨"JokePumpModel", "readsAll", "()Z"⟩ ∈ lw_g := lw_gm (tin5 (List.mem_of_getElem? (i := 226) (by decide +kernel))) (by decide +kernel)
theorem q5_228 : Cond.instanceMethod ⟨"JokePumpModel", "readsAll", "()Z"⟩ ∈ lw_g := lw_gm (tin5 (List.mem_of_getElem? (i := 228) (by decide +kernel))) (by decide +kernel)
theorem qs_69 : Cond.selects "JokePumpModel" ⟨"JokePumpModel", "readsAll", "()Z"⟩ ⟨"JokePumpModel", "readsAll", "()Z"⟩ ∈ lw_g := lw_gm (tinS (q := (⟨"JokePumpModel", "readsAll", "()Z"⟩, 23)) (List.mem_of_getElem? (i := 69) (by decide +kernel))) (by decide +kernel)
theorem q5_229 : Cond.code ⟨"JokePumpModel", "readsAll", "()Z"⟩ prog_10_method_91_code 2 (some .boolean) ∈ lw_g := lw_gm (tin5 (List.mem_of_getElem? (i := 229) (by decide +kernel))) (by decide +kernel)
theorem lk_X8_279 : LkV RX8 279 yX8_readsAll cX8_readsAll 2 (some .boolean) 0 := LkV_of q5_226 q5_228 qs_69 q1_9 q5_229 ⟨by decide, by decide, by decide +kernel⟩
theorem q6_30 : Cond.methodLink "JokePumpModel" 282 ⟨"JokePumpModel", "doesAll", "()I"⟩ ∈ lw_g := lw_gm (tin6 (List.mem_of_getElem? (i := 30) (by decide +kernel))) (by decide +kernel)
theorem q6_32 : Cond.instanceMethod ⟨"JokePumpModel", "doesAll", "()I"⟩ ∈ lw_g := lw_gm (tin6 (List.mem_of_getElem? (i := 32) (by decide +kernel))) (by decide +kernel)
theorem qs_80 : Cond.selects "JokePumpModel" ⟨"JokePumpModel", "doesAll", "()I"⟩ ⟨"JokePumpModel", "doesAll", "()I"⟩ ∈ lw_g := lw_gm (tinS (q := (⟨"JokePumpModel", "doesAll", "()I"⟩, 23)) (List.mem_of_getElem? (i := 80) (by decide +kernel))) (by decide +kernel)
theorem q6_33 : Cond.code ⟨"JokePumpModel", "doesAll", "()I"⟩ prog_10_method_94_code 3 (some .int) ∈ lw_g := lw_gm (tin6 (List.mem_of_getElem? (i := 33) (by decide +kernel))) (by decide +kernel)
theorem lk_X8_282 : LkV RX8 282 yX8_doesAll cX8_doesAll 3 (some .int) 0 := LkV_of q6_30 q6_32 qs_80 q1_9 q6_33 ⟨by decide, by decide, by decide +kernel⟩
theorem q6_42 : Cond.methodLink "JokePumpModel" 285 ⟨"JokePumpModel", "forgets", "()V"⟩ ∈ lw_g := lw_gm (tin6 (List.mem_of_getElem? (i := 42) (by decide +kernel))) (by decide +kernel)
theorem q6_44 : Cond.instanceMethod ⟨"JokePumpModel", "forgets", "()V"⟩ ∈ lw_g := lw_gm (tin6 (List.mem_of_getElem? (i := 44) (by decide +kernel))) (by decide +kernel)
theorem qs_83 : Cond.selects "JokePumpModel" ⟨"JokePumpModel", "forgets", "()V"⟩ ⟨"JokePumpModel", "forgets", "()V"⟩ ∈ lw_g := lw_gm (tinS (q := (⟨"JokePumpModel", "forgets", "()V"⟩, 23)) (List.mem_of_getElem? (i := 83) (by decide +kernel))) (by decide +kernel)
theorem q6_45 : Cond.code ⟨"JokePumpModel", "forgets", "()V"⟩ prog_10_method_7_code 2 (none : Option Jvm.ClassFile.FieldType) ∈ lw_g := lw_gm (tin6 (List.mem_of_getElem? (i := 45) (by decide +kernel))) (by decide +kernel)
theorem lk_X8_285 : LkV RX8 285 yX8_forgets cX8_forgets 2 none 0 := LkV_of q6_42 q6_44 qs_83 q1_9 q6_45 ⟨by decide, by decide, by decide +kernel⟩
theorem q6_46 : Cond.methodLink "JokePumpModel" 288 ⟨"JokePumpModel", "refuses", "(I)I"⟩ ∈ lw_g := lw_gm (tin6 (List.mem_of_getElem? (i := 46) (by decide +kernel))) (by decide +kernel)
theorem q6_48 : Cond.instanceMethod ⟨"JokePumpModel", "refuses", "(I)I"⟩ ∈ lw_g := lw_gm (tin6 (List.mem_of_getElem? (i := 48) (by decide +kernel))) (by decide +kernel)
theorem qs_84 : Cond.selects "JokePumpModel" ⟨"JokePumpModel", "refuses", "(I)I"⟩ ⟨"JokePumpModel", "refuses", "(I)I"⟩ ∈ lw_g := lw_gm (tinS (q := (⟨"JokePumpModel", "refuses", "(I)I"⟩, 23)) (List.mem_of_getElem? (i := 84) (by decide +kernel))) (by decide +kernel)
theorem q6_49 : Cond.code ⟨"JokePumpModel", "refuses", "(I)I"⟩ prog_10_method_95_code 2 (some .int) ∈ lw_g := lw_gm (tin6 (List.mem_of_getElem? (i := 49) (by decide +kernel))) (by decide +kernel)
theorem lk_X8_288 : LkV RX8 288 yX8_refuses cX8_refuses 2 (some .int) 1 := LkV_of q6_46 q6_48 qs_84 q1_9 q6_49 ⟨by decide, by decide, by decide +kernel⟩
theorem q2_104 : Cond.methodLink "JokePump$History" 33 ⟨"java/lang/Math", "min", "(II)I"⟩ ∈ lw_g := lw_gm (tin2 (List.mem_of_getElem? (i := 104) (by decide +kernel))) (by decide +kernel)
theorem q3_56 : Cond.methodLink "JokePump$Reader" 71 ⟨"java/lang/Math", "max", "(II)I"⟩ ∈ lw_g := lw_gm (tin3 (List.mem_of_getElem? (i := 56) (by decide +kernel))) (by decide +kernel)
theorem q2_43 : Cond.methodLink "JokePump$Row" 13 ⟨"java/lang/Math", "min", "(II)I"⟩ ∈ lw_g := lw_gm (tin2 (List.mem_of_getElem? (i := 43) (by decide +kernel))) (by decide +kernel)
theorem q2_183 : Cond.methodLink "JokePump$State" 66 ⟨"java/lang/Math", "min", "(II)I"⟩ ∈ lw_g := lw_gm (tin2 (List.mem_of_getElem? (i := 183) (by decide +kernel))) (by decide +kernel)
theorem q2_53 : Cond.methodLink "JokePump$Told" 54 ⟨"java/lang/Math", "min", "(II)I"⟩ ∈ lw_g := lw_gm (tin2 (List.mem_of_getElem? (i := 53) (by decide +kernel))) (by decide +kernel)
theorem q2_143 : Cond.methodLink "JokePump" 244 ⟨"java/lang/Math", "min", "(II)I"⟩ ∈ lw_g := lw_gm (tin2 (List.mem_of_getElem? (i := 143) (by decide +kernel))) (by decide +kernel)
theorem q2_44 : Cond.static ⟨"java/lang/Math", "min", "(II)I"⟩ ∈ lw_g := lw_gm (tin2 (List.mem_of_getElem? (i := 44) (by decide +kernel))) (by decide +kernel)
theorem q3_57 : Cond.static ⟨"java/lang/Math", "max", "(II)I"⟩ ∈ lw_g := lw_gm (tin3 (List.mem_of_getElem? (i := 57) (by decide +kernel))) (by decide +kernel)
theorem q1_10 : Cond.initialized "java/lang/Math" ∈ lw_g := lw_gm (tin1 (List.mem_of_getElem? (i := 10) (by decide +kernel))) (by decide +kernel)
theorem q2_45 : Cond.code ⟨"java/lang/Math", "min", "(II)I"⟩ prog_12_method_69_code 2 (some .int) ∈ lw_g := lw_gm (tin2 (List.mem_of_getElem? (i := 45) (by decide +kernel))) (by decide +kernel)
theorem q3_58 : Cond.code ⟨"java/lang/Math", "max", "(II)I"⟩ prog_12_method_65_code 2 (some .int) ∈ lw_g := lw_gm (tin3 (List.mem_of_getElem? (i := 58) (by decide +kernel))) (by decide +kernel)
theorem q2_48 : Cond.native ⟨"java/lang/System", "arraycopy", "(Ljava/lang/Object;ILjava/lang/Object;II)V"⟩ ∈ lw_g := lw_gm (tin2 (List.mem_of_getElem? (i := 48) (by decide +kernel))) (by decide +kernel)
theorem q2_201 : Cond.constantFloat "JokePump$State" 82 (1069547520 : UInt32) ∈ lw_g := lw_gm (tin2 (List.mem_of_getElem? (i := 201) (by decide +kernel))) (by decide +kernel)
theorem q2_202 : Cond.constantFloat "JokePump$State" 83 (1098907648 : UInt32) ∈ lw_g := lw_gm (tin2 (List.mem_of_getElem? (i := 202) (by decide +kernel))) (by decide +kernel)
theorem q3_173 : Cond.constantFloat "JokePump" 351 (1258291200 : UInt32) ∈ lw_g := lw_gm (tin3 (List.mem_of_getElem? (i := 173) (by decide +kernel))) (by decide +kernel)
theorem q3_207 : Cond.constantFloat "JokePump" 225 (1115684864 : UInt32) ∈ lw_g := lw_gm (tin3 (List.mem_of_getElem? (i := 207) (by decide +kernel))) (by decide +kernel)
theorem q5_67 : Cond.constantFloat "JokePumpModel" 153 (1069547520 : UInt32) ∈ lw_g := lw_gm (tin5 (List.mem_of_getElem? (i := 67) (by decide +kernel))) (by decide +kernel)
theorem q5_68 : Cond.constantFloat "JokePumpModel" 154 (1098907648 : UInt32) ∈ lw_g := lw_gm (tin5 (List.mem_of_getElem? (i := 68) (by decide +kernel))) (by decide +kernel)
theorem q5_77 : Cond.native ⟨"java/lang/Float", "floatToRawIntBits", "(F)I"⟩ ∈ lw_g := lw_gm (tin5 (List.mem_of_getElem? (i := 77) (by decide +kernel))) (by decide +kernel)
theorem q5_78 : Cond.constant "java/lang/Float" 77 (2143289344 : Int32) ∈ lw_g := lw_gm (tin5 (List.mem_of_getElem? (i := 78) (by decide +kernel))) (by decide +kernel)
theorem q5_81 : Cond.native ⟨"java/lang/Float", "intBitsToFloat", "(I)F"⟩ ∈ lw_g := lw_gm (tin5 (List.mem_of_getElem? (i := 81) (by decide +kernel))) (by decide +kernel)
theorem q5_181 : Cond.constantFloat "JokePumpModel" 214 (1115684864 : UInt32) ∈ lw_g := lw_gm (tin5 (List.mem_of_getElem? (i := 181) (by decide +kernel))) (by decide +kernel)
theorem q1_11 : Cond.initialized "java/lang/System" ∈ lw_g := lw_gm (tin1 (List.mem_of_getElem? (i := 11) (by decide +kernel))) (by decide +kernel)
theorem q1_12 : Cond.initialized "java/lang/Float" ∈ lw_g := lw_gm (tin1 (List.mem_of_getElem? (i := 12) (by decide +kernel))) (by decide +kernel)
theorem q1_13 : Cond.initialized "java/lang/String" ∈ lw_g := lw_gm (tin1 (List.mem_of_getElem? (i := 13) (by decide +kernel))) (by decide +kernel)
theorem q1_14 : Cond.initialized "java/lang/StringLatin1" ∈ lw_g := lw_gm (tin1 (List.mem_of_getElem? (i := 14) (by decide +kernel))) (by decide +kernel)
theorem q1_15 : Cond.initialized "jdk/internal/util/Preconditions" ∈ lw_g := lw_gm (tin1 (List.mem_of_getElem? (i := 15) (by decide +kernel))) (by decide +kernel)
theorem q1_16 : Cond.initialized "java/lang/StringUTF16" ∈ lw_g := lw_gm (tin1 (List.mem_of_getElem? (i := 16) (by decide +kernel))) (by decide +kernel)
theorem q2_46 : Cond.methodLink "JokePump$Row" 19 ⟨"java/lang/System", "arraycopy", "(Ljava/lang/Object;ILjava/lang/Object;II)V"⟩ ∈ lw_g := lw_gm (tin2 (List.mem_of_getElem? (i := 46) (by decide +kernel))) (by decide +kernel)
theorem q2_47 : Cond.static ⟨"java/lang/System", "arraycopy", "(Ljava/lang/Object;ILjava/lang/Object;II)V"⟩ ∈ lw_g := lw_gm (tin2 (List.mem_of_getElem? (i := 47) (by decide +kernel))) (by decide +kernel)
theorem q2_54 : Cond.methodLink "JokePump$Told" 60 ⟨"java/lang/System", "arraycopy", "(Ljava/lang/Object;ILjava/lang/Object;II)V"⟩ ∈ lw_g := lw_gm (tin2 (List.mem_of_getElem? (i := 54) (by decide +kernel))) (by decide +kernel)
theorem q2_236 : Cond.methodLink "JokePump$Reader" 58 ⟨"java/lang/String", "length", "()I"⟩ ∈ lw_g := lw_gm (tin2 (List.mem_of_getElem? (i := 236) (by decide +kernel))) (by decide +kernel)
theorem q2_237 : Cond.instanceMethod ⟨"java/lang/String", "length", "()I"⟩ ∈ lw_g := lw_gm (tin2 (List.mem_of_getElem? (i := 237) (by decide +kernel))) (by decide +kernel)
theorem q2_238 : Cond.selects "java/lang/String" ⟨"java/lang/String", "length", "()I"⟩ ⟨"java/lang/String", "length", "()I"⟩ ∈ lw_g := lw_gm (tin2 (List.mem_of_getElem? (i := 238) (by decide +kernel))) (by decide +kernel)
theorem q2_239 : Cond.code ⟨"java/lang/String", "length", "()I"⟩ prog_13_method_54_code 1 (some .int) ∈ lw_g := lw_gm (tin2 (List.mem_of_getElem? (i := 239) (by decide +kernel))) (by decide +kernel)
theorem q3_0 : Cond.methodLink "java/lang/String" 335 ⟨"java/lang/String", "coder", "()B"⟩ ∈ lw_g := lw_gm (tin3 (List.mem_of_getElem? (i := 0) (by decide +kernel))) (by decide +kernel)
theorem q3_1 : Cond.instanceMethod ⟨"java/lang/String", "coder", "()B"⟩ ∈ lw_g := lw_gm (tin3 (List.mem_of_getElem? (i := 1) (by decide +kernel))) (by decide +kernel)
theorem q3_2 : Cond.selects "java/lang/String" ⟨"java/lang/String", "coder", "()B"⟩ ⟨"java/lang/String", "coder", "()B"⟩ ∈ lw_g := lw_gm (tin3 (List.mem_of_getElem? (i := 2) (by decide +kernel))) (by decide +kernel)
theorem q3_3 : Cond.code ⟨"java/lang/String", "coder", "()B"⟩ prog_13_method_152_code 1 (some .byte) ∈ lw_g := lw_gm (tin3 (List.mem_of_getElem? (i := 3) (by decide +kernel))) (by decide +kernel)
theorem q3_4 : Cond.fieldLink "java/lang/String" 38 "java/lang/String" "COMPACT_STRINGS" "Z" ∈ lw_g := lw_gm (tin3 (List.mem_of_getElem? (i := 4) (by decide +kernel))) (by decide +kernel)
theorem q3_6 : Cond.methodLink "JokePump$Reader" 63 ⟨"java/lang/String", "charAt", "(I)C"⟩ ∈ lw_g := lw_gm (tin3 (List.mem_of_getElem? (i := 6) (by decide +kernel))) (by decide +kernel)
theorem q3_7 : Cond.instanceMethod ⟨"java/lang/String", "charAt", "(I)C"⟩ ∈ lw_g := lw_gm (tin3 (List.mem_of_getElem? (i := 7) (by decide +kernel))) (by decide +kernel)
theorem q3_8 : Cond.selects "java/lang/String" ⟨"java/lang/String", "charAt", "(I)C"⟩ ⟨"java/lang/String", "charAt", "(I)C"⟩ ∈ lw_g := lw_gm (tin3 (List.mem_of_getElem? (i := 8) (by decide +kernel))) (by decide +kernel)
theorem q3_9 : Cond.code ⟨"java/lang/String", "charAt", "(I)C"⟩ prog_13_method_56_code 2 (some .char) ∈ lw_g := lw_gm (tin3 (List.mem_of_getElem? (i := 9) (by decide +kernel))) (by decide +kernel)
theorem q3_10 : Cond.methodLink "java/lang/String" 492 ⟨"java/lang/String", "isLatin1", "()Z"⟩ ∈ lw_g := lw_gm (tin3 (List.mem_of_getElem? (i := 10) (by decide +kernel))) (by decide +kernel)
theorem q3_11 : Cond.instanceMethod ⟨"java/lang/String", "isLatin1", "()Z"⟩ ∈ lw_g := lw_gm (tin3 (List.mem_of_getElem? (i := 11) (by decide +kernel))) (by decide +kernel)
theorem q3_12 : Cond.selects "java/lang/String" ⟨"java/lang/String", "isLatin1", "()Z"⟩ ⟨"java/lang/String", "isLatin1", "()Z"⟩ ∈ lw_g := lw_gm (tin3 (List.mem_of_getElem? (i := 12) (by decide +kernel))) (by decide +kernel)
theorem q3_13 : Cond.code ⟨"java/lang/String", "isLatin1", "()Z"⟩ prog_13_method_154_code 1 (some .boolean) ∈ lw_g := lw_gm (tin3 (List.mem_of_getElem? (i := 13) (by decide +kernel))) (by decide +kernel)
theorem q3_14 : Cond.methodLink "java/lang/String" 495 ⟨"java/lang/StringLatin1", "charAt", "([BI)C"⟩ ∈ lw_g := lw_gm (tin3 (List.mem_of_getElem? (i := 14) (by decide +kernel))) (by decide +kernel)
theorem q3_15 : Cond.static ⟨"java/lang/StringLatin1", "charAt", "([BI)C"⟩ ∈ lw_g := lw_gm (tin3 (List.mem_of_getElem? (i := 15) (by decide +kernel))) (by decide +kernel)
theorem q3_16 : Cond.code ⟨"java/lang/StringLatin1", "charAt", "([BI)C"⟩ prog_14_method_2_code 2 (some .char) ∈ lw_g := lw_gm (tin3 (List.mem_of_getElem? (i := 16) (by decide +kernel))) (by decide +kernel)
theorem q3_17 : Cond.methodLink "java/lang/StringLatin1" 9 ⟨"java/lang/String", "checkIndex", "(II)V"⟩ ∈ lw_g := lw_gm (tin3 (List.mem_of_getElem? (i := 17) (by decide +kernel))) (by decide +kernel)
theorem q3_18 : Cond.static ⟨"java/lang/String", "checkIndex", "(II)V"⟩ ∈ lw_g := lw_gm (tin3 (List.mem_of_getElem? (i := 18) (by decide +kernel))) (by decide +kernel)
theorem q3_19 : Cond.code ⟨"java/lang/String", "checkIndex", "(II)V"⟩ prog_13_method_155_code 2 (none : Option Jvm.ClassFile.FieldType) ∈ lw_g := lw_gm (tin3 (List.mem_of_getElem? (i := 19) (by decide +kernel))) (by decide +kernel)
theorem q3_20 : Cond.fieldLink "java/lang/String" 1053 "jdk/internal/util/Preconditions" "SIOOBE_FORMATTER" "Ljava/util/function/BiFunction;" ∈ lw_g := lw_gm (tin3 (List.mem_of_getElem? (i := 20) (by decide +kernel))) (by decide +kernel)
theorem q3_22 : Cond.methodLink "java/lang/String" 1059 ⟨"jdk/internal/util/Preconditions", "checkIndex", "(IILjava/util/function/BiFunction;)I"⟩ ∈ lw_g := lw_gm (tin3 (List.mem_of_getElem? (i := 22) (by decide +kernel))) (by decide +kernel)
theorem q3_23 : Cond.static ⟨"jdk/internal/util/Preconditions", "checkIndex", "(IILjava/util/function/BiFunction;)I"⟩ ∈ lw_g := lw_gm (tin3 (List.mem_of_getElem? (i := 23) (by decide +kernel))) (by decide +kernel)
theorem q3_24 : Cond.code ⟨"jdk/internal/util/Preconditions", "checkIndex", "(IILjava/util/function/BiFunction;)I"⟩ prog_17_method_11_code 3 (some .int) ∈ lw_g := lw_gm (tin3 (List.mem_of_getElem? (i := 24) (by decide +kernel))) (by decide +kernel)
theorem q3_25 : Cond.methodLink "java/lang/String" 498 ⟨"java/lang/StringUTF16", "charAt", "([BI)C"⟩ ∈ lw_g := lw_gm (tin3 (List.mem_of_getElem? (i := 25) (by decide +kernel))) (by decide +kernel)
theorem q3_26 : Cond.static ⟨"java/lang/StringUTF16", "charAt", "([BI)C"⟩ ∈ lw_g := lw_gm (tin3 (List.mem_of_getElem? (i := 26) (by decide +kernel))) (by decide +kernel)
theorem q3_27 : Cond.code ⟨"java/lang/StringUTF16", "charAt", "([BI)C"⟩ prog_15_method_83_code 2 (some .char) ∈ lw_g := lw_gm (tin3 (List.mem_of_getElem? (i := 27) (by decide +kernel))) (by decide +kernel)
theorem q3_28 : Cond.methodLink "java/lang/StringUTF16" 67 ⟨"java/lang/StringUTF16", "checkIndex", "(I[B)V"⟩ ∈ lw_g := lw_gm (tin3 (List.mem_of_getElem? (i := 28) (by decide +kernel))) (by decide +kernel)
theorem q3_29 : Cond.static ⟨"java/lang/StringUTF16", "checkIndex", "(I[B)V"⟩ ∈ lw_g := lw_gm (tin3 (List.mem_of_getElem? (i := 29) (by decide +kernel))) (by decide +kernel)
theorem q3_30 : Cond.code ⟨"java/lang/StringUTF16", "checkIndex", "(I[B)V"⟩ prog_15_method_91_code 2 (none : Option Jvm.ClassFile.FieldType) ∈ lw_g := lw_gm (tin3 (List.mem_of_getElem? (i := 30) (by decide +kernel))) (by decide +kernel)
theorem q3_31 : Cond.methodLink "java/lang/StringUTF16" 48 ⟨"java/lang/StringUTF16", "length", "([B)I"⟩ ∈ lw_g := lw_gm (tin3 (List.mem_of_getElem? (i := 31) (by decide +kernel))) (by decide +kernel)
theorem q3_32 : Cond.static ⟨"java/lang/StringUTF16", "length", "([B)I"⟩ ∈ lw_g := lw_gm (tin3 (List.mem_of_getElem? (i := 32) (by decide +kernel))) (by decide +kernel)
theorem q3_33 : Cond.code ⟨"java/lang/StringUTF16", "length", "([B)I"⟩ prog_15_method_6_code 1 (some .int) ∈ lw_g := lw_gm (tin3 (List.mem_of_getElem? (i := 33) (by decide +kernel))) (by decide +kernel)
theorem q3_34 : Cond.methodLink "java/lang/StringUTF16" 414 ⟨"java/lang/String", "checkIndex", "(II)V"⟩ ∈ lw_g := lw_gm (tin3 (List.mem_of_getElem? (i := 34) (by decide +kernel))) (by decide +kernel)
theorem q3_35 : Cond.methodLink "java/lang/StringUTF16" 71 ⟨"java/lang/StringUTF16", "getChar", "([BI)C"⟩ ∈ lw_g := lw_gm (tin3 (List.mem_of_getElem? (i := 35) (by decide +kernel))) (by decide +kernel)
theorem q3_36 : Cond.static ⟨"java/lang/StringUTF16", "getChar", "([BI)C"⟩ ∈ lw_g := lw_gm (tin3 (List.mem_of_getElem? (i := 36) (by decide +kernel))) (by decide +kernel)
theorem q3_37 : Cond.code ⟨"java/lang/StringUTF16", "getChar", "([BI)C"⟩ prog_15_method_5_code 2 (some .char) ∈ lw_g := lw_gm (tin3 (List.mem_of_getElem? (i := 37) (by decide +kernel))) (by decide +kernel)
theorem q3_38 : Cond.fieldLink "java/lang/StringUTF16" 44 "java/lang/StringUTF16" "$assertionsDisabled" "Z" ∈ lw_g := lw_gm (tin3 (List.mem_of_getElem? (i := 38) (by decide +kernel))) (by decide +kernel)
theorem q3_40 : Cond.fieldLink "java/lang/StringUTF16" 59 "java/lang/StringUTF16" "HI_BYTE_SHIFT" "I" ∈ lw_g := lw_gm (tin3 (List.mem_of_getElem? (i := 40) (by decide +kernel))) (by decide +kernel)
theorem q3_42 : Cond.fieldLink "java/lang/StringUTF16" 63 "java/lang/StringUTF16" "LO_BYTE_SHIFT" "I" ∈ lw_g := lw_gm (tin3 (List.mem_of_getElem? (i := 42) (by decide +kernel))) (by decide +kernel)
theorem q5_69 : Cond.methodLink "JokePumpModel" 159 ⟨"java/lang/Float", "floatToIntBits", "(F)I"⟩ ∈ lw_g := lw_gm (tin5 (List.mem_of_getElem? (i := 69) (by decide +kernel))) (by decide +kernel)
theorem q5_70 : Cond.static ⟨"java/lang/Float", "floatToIntBits", "(F)I"⟩ ∈ lw_g := lw_gm (tin5 (List.mem_of_getElem? (i := 70) (by decide +kernel))) (by decide +kernel)
theorem q5_71 : Cond.code ⟨"java/lang/Float", "floatToIntBits", "(F)I"⟩ prog_11_method_24_code 1 (some .int) ∈ lw_g := lw_gm (tin5 (List.mem_of_getElem? (i := 71) (by decide +kernel))) (by decide +kernel)
theorem q5_72 : Cond.methodLink "java/lang/Float" 59 ⟨"java/lang/Float", "isNaN", "(F)Z"⟩ ∈ lw_g := lw_gm (tin5 (List.mem_of_getElem? (i := 72) (by decide +kernel))) (by decide +kernel)
theorem q5_73 : Cond.static ⟨"java/lang/Float", "isNaN", "(F)Z"⟩ ∈ lw_g := lw_gm (tin5 (List.mem_of_getElem? (i := 73) (by decide +kernel))) (by decide +kernel)
theorem q5_74 : Cond.code ⟨"java/lang/Float", "isNaN", "(F)Z"⟩ prog_11_method_6_code 1 (some .boolean) ∈ lw_g := lw_gm (tin5 (List.mem_of_getElem? (i := 74) (by decide +kernel))) (by decide +kernel)
theorem q5_75 : Cond.methodLink "java/lang/Float" 74 ⟨"java/lang/Float", "floatToRawIntBits", "(F)I"⟩ ∈ lw_g := lw_gm (tin5 (List.mem_of_getElem? (i := 75) (by decide +kernel))) (by decide +kernel)
theorem q5_76 : Cond.static ⟨"java/lang/Float", "floatToRawIntBits", "(F)I"⟩ ∈ lw_g := lw_gm (tin5 (List.mem_of_getElem? (i := 76) (by decide +kernel))) (by decide +kernel)
theorem q5_79 : Cond.methodLink "JokePumpModel" 165 ⟨"java/lang/Float", "intBitsToFloat", "(I)F"⟩ ∈ lw_g := lw_gm (tin5 (List.mem_of_getElem? (i := 79) (by decide +kernel))) (by decide +kernel)
theorem q5_80 : Cond.static ⟨"java/lang/Float", "intBitsToFloat", "(I)F"⟩ ∈ lw_g := lw_gm (tin5 (List.mem_of_getElem? (i := 80) (by decide +kernel))) (by decide +kernel)
theorem q6_62 : Cond.fieldLink "java/lang/String" 9 "java/lang/String" "value" "[B" ∈ lw_g := lw_gm (tin6 (List.mem_of_getElem? (i := 62) (by decide +kernel))) (by decide +kernel)
theorem q6_63 : Cond.fieldLink "java/lang/String" 15 "java/lang/String" "coder" "B" ∈ lw_g := lw_gm (tin6 (List.mem_of_getElem? (i := 63) (by decide +kernel))) (by decide +kernel)
