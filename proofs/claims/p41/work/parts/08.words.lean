theorem q1_177 : Cond.laysFinal "JokePump$History" "JokePump$History" "slots" "[LJokePump$State;" ∈ lw_g := lw_gm (tin1 (List.mem_of_getElem? (i := 177) (by decide +kernel))) (by decide +kernel)
theorem q1_179 : Cond.lays "JokePump$History" "JokePump$History" "next" "I" ∈ lw_g := lw_gm (tin1 (List.mem_of_getElem? (i := 179) (by decide +kernel))) (by decide +kernel)
theorem q1_181 : Cond.lays "JokePump$History" "JokePump$History" "count" "I" ∈ lw_g := lw_gm (tin1 (List.mem_of_getElem? (i := 181) (by decide +kernel))) (by decide +kernel)
theorem ly_X0 : ∀ w ∈ u_ws RX0 TX0 3, w ∈ lw_g := by
  intro w hw
  obtain ⟨k, hk, rfl⟩ := List.mem_map.mp hw
  have hk := List.mem_range.mp hk
  rcases (show k = 0 ∨ k = 1 ∨ k = 2 by omega) with rfl | rfl | rfl
  · exact q1_177
  · exact q1_179
  · exact q1_181
theorem q1_63 : Cond.lays "JokePump$Jokes" "JokePump$Jokes" "count" "I" ∈ lw_g := lw_gm (tin1 (List.mem_of_getElem? (i := 63) (by decide +kernel))) (by decide +kernel)
theorem q1_65 : Cond.laysFinal "JokePump$Jokes" "JokePump$Jokes" "wells" "LJokePump$Row;" ∈ lw_g := lw_gm (tin1 (List.mem_of_getElem? (i := 65) (by decide +kernel))) (by decide +kernel)
theorem q1_67 : Cond.laysFinal "JokePump$Jokes" "JokePump$Jokes" "depths" "LJokePump$Row;" ∈ lw_g := lw_gm (tin1 (List.mem_of_getElem? (i := 67) (by decide +kernel))) (by decide +kernel)
theorem q1_69 : Cond.laysFinal "JokePump$Jokes" "JokePump$Jokes" "signs" "LJokePump$Row;" ∈ lw_g := lw_gm (tin1 (List.mem_of_getElem? (i := 69) (by decide +kernel))) (by decide +kernel)
theorem q1_71 : Cond.laysFinal "JokePump$Jokes" "JokePump$Jokes" "wits" "LJokePump$Row;" ∈ lw_g := lw_gm (tin1 (List.mem_of_getElem? (i := 71) (by decide +kernel))) (by decide +kernel)
theorem q1_73 : Cond.laysFinal "JokePump$Jokes" "JokePump$Jokes" "primed" "LJokePump$Row;" ∈ lw_g := lw_gm (tin1 (List.mem_of_getElem? (i := 73) (by decide +kernel))) (by decide +kernel)
theorem ly_X1 : ∀ w ∈ u_ws RX1 TX1 6, w ∈ lw_g := by
  intro w hw
  obtain ⟨k, hk, rfl⟩ := List.mem_map.mp hw
  have hk := List.mem_range.mp hk
  rcases (show k = 0 ∨ k = 1 ∨ k = 2 ∨ k = 3 ∨ k = 4 ∨ k = 5 by omega) with rfl | rfl | rfl | rfl | rfl | rfl
  · exact q1_63
  · exact q1_65
  · exact q1_67
  · exact q1_69
  · exact q1_71
  · exact q1_73
theorem q1_215 : Cond.laysFinal "JokePump$Reader" "JokePump$Reader" "kinds" "LJokePump$Row;" ∈ lw_g := lw_gm (tin1 (List.mem_of_getElem? (i := 215) (by decide +kernel))) (by decide +kernel)
theorem q1_217 : Cond.laysFinal "JokePump$Reader" "JokePump$Reader" "numbers" "LJokePump$Row;" ∈ lw_g := lw_gm (tin1 (List.mem_of_getElem? (i := 217) (by decide +kernel))) (by decide +kernel)
theorem q1_219 : Cond.lays "JokePump$Reader" "JokePump$Reader" "count" "I" ∈ lw_g := lw_gm (tin1 (List.mem_of_getElem? (i := 219) (by decide +kernel))) (by decide +kernel)
theorem q1_221 : Cond.lays "JokePump$Reader" "JokePump$Reader" "end" "I" ∈ lw_g := lw_gm (tin1 (List.mem_of_getElem? (i := 221) (by decide +kernel))) (by decide +kernel)
theorem ly_X2 : ∀ w ∈ u_ws RX2 TX2 4, w ∈ lw_g := by
  intro w hw
  obtain ⟨k, hk, rfl⟩ := List.mem_map.mp hw
  have hk := List.mem_range.mp hk
  rcases (show k = 0 ∨ k = 1 ∨ k = 2 ∨ k = 3 by omega) with rfl | rfl | rfl | rfl
  · exact q1_215
  · exact q1_217
  · exact q1_219
  · exact q1_221
theorem q1_43 : Cond.laysFinal "JokePump$Row" "JokePump$Row" "cells" "[I" ∈ lw_g := lw_gm (tin1 (List.mem_of_getElem? (i := 43) (by decide +kernel))) (by decide +kernel)
theorem ly_X3 : ∀ w ∈ u_ws RX3 TX3 1, w ∈ lw_g := by
  intro w hw
  obtain ⟨k, hk, rfl⟩ := List.mem_map.mp hw
  have hk := List.mem_range.mp hk
  rcases (show k = 0 by omega) with rfl
  · exact q1_43
theorem q1_139 : Cond.laysFinal "JokePump$State" "JokePump$State" "jokes" "LJokePump$Jokes;" ∈ lw_g := lw_gm (tin1 (List.mem_of_getElem? (i := 139) (by decide +kernel))) (by decide +kernel)
theorem q1_141 : Cond.laysFinal "JokePump$State" "JokePump$State" "told" "LJokePump$Told;" ∈ lw_g := lw_gm (tin1 (List.mem_of_getElem? (i := 141) (by decide +kernel))) (by decide +kernel)
theorem q1_143 : Cond.laysFinal "JokePump$State" "JokePump$State" "buckets" "LJokePump$Row;" ∈ lw_g := lw_gm (tin1 (List.mem_of_getElem? (i := 143) (by decide +kernel))) (by decide +kernel)
theorem q1_145 : Cond.lays "JokePump$State" "JokePump$State" "well" "I" ∈ lw_g := lw_gm (tin1 (List.mem_of_getElem? (i := 145) (by decide +kernel))) (by decide +kernel)
theorem q1_147 : Cond.lays "JokePump$State" "JokePump$State" "length" "I" ∈ lw_g := lw_gm (tin1 (List.mem_of_getElem? (i := 147) (by decide +kernel))) (by decide +kernel)
theorem q1_149 : Cond.lays "JokePump$State" "JokePump$State" "reach" "I" ∈ lw_g := lw_gm (tin1 (List.mem_of_getElem? (i := 149) (by decide +kernel))) (by decide +kernel)
theorem q1_151 : Cond.lays "JokePump$State" "JokePump$State" "groans" "I" ∈ lw_g := lw_gm (tin1 (List.mem_of_getElem? (i := 151) (by decide +kernel))) (by decide +kernel)
theorem q1_153 : Cond.lays "JokePump$State" "JokePump$State" "drops" "I" ∈ lw_g := lw_gm (tin1 (List.mem_of_getElem? (i := 153) (by decide +kernel))) (by decide +kernel)
theorem q1_155 : Cond.lays "JokePump$State" "JokePump$State" "came" "I" ∈ lw_g := lw_gm (tin1 (List.mem_of_getElem? (i := 155) (by decide +kernel))) (by decide +kernel)
theorem q1_157 : Cond.lays "JokePump$State" "JokePump$State" "went" "I" ∈ lw_g := lw_gm (tin1 (List.mem_of_getElem? (i := 157) (by decide +kernel))) (by decide +kernel)
theorem q1_159 : Cond.lays "JokePump$State" "JokePump$State" "strokesMade" "I" ∈ lw_g := lw_gm (tin1 (List.mem_of_getElem? (i := 159) (by decide +kernel))) (by decide +kernel)
theorem q1_161 : Cond.lays "JokePump$State" "JokePump$State" "drained" "I" ∈ lw_g := lw_gm (tin1 (List.mem_of_getElem? (i := 161) (by decide +kernel))) (by decide +kernel)
theorem ly_X4 : ∀ w ∈ u_ws RX4 TX4 12, w ∈ lw_g := by
  intro w hw
  obtain ⟨k, hk, rfl⟩ := List.mem_map.mp hw
  have hk := List.mem_range.mp hk
  rcases (show k = 0 ∨ k = 1 ∨ k = 2 ∨ k = 3 ∨ k = 4 ∨ k = 5 ∨ k = 6 ∨ k = 7 ∨ k = 8 ∨ k = 9 ∨ k = 10 ∨ k = 11 by omega) with rfl | rfl | rfl | rfl | rfl | rfl | rfl | rfl | rfl | rfl | rfl | rfl
  · exact q1_139
  · exact q1_141
  · exact q1_143
  · exact q1_145
  · exact q1_147
  · exact q1_149
  · exact q1_151
  · exact q1_153
  · exact q1_155
  · exact q1_157
  · exact q1_159
  · exact q1_161
theorem q1_194 : Cond.laysFinal "JokePump$Strip" "JokePump$Strip" "signs" "[C" ∈ lw_g := lw_gm (tin1 (List.mem_of_getElem? (i := 194) (by decide +kernel))) (by decide +kernel)
theorem q1_196 : Cond.lays "JokePump$Strip" "JokePump$Strip" "length" "I" ∈ lw_g := lw_gm (tin1 (List.mem_of_getElem? (i := 196) (by decide +kernel))) (by decide +kernel)
theorem ly_X5 : ∀ w ∈ u_ws RX5 TX5 2, w ∈ lw_g := by
  intro w hw
  obtain ⟨k, hk, rfl⟩ := List.mem_map.mp hw
  have hk := List.mem_range.mp hk
  rcases (show k = 0 ∨ k = 1 by omega) with rfl | rfl
  · exact q1_194
  · exact q1_196
theorem q1_95 : Cond.lays "JokePump$Told" "JokePump$Told" "count" "I" ∈ lw_g := lw_gm (tin1 (List.mem_of_getElem? (i := 95) (by decide +kernel))) (by decide +kernel)
theorem q1_97 : Cond.lays "JokePump$Told" "JokePump$Told" "sum" "F" ∈ lw_g := lw_gm (tin1 (List.mem_of_getElem? (i := 97) (by decide +kernel))) (by decide +kernel)
theorem q1_99 : Cond.laysFinal "JokePump$Told" "JokePump$Told" "signs" "LJokePump$Row;" ∈ lw_g := lw_gm (tin1 (List.mem_of_getElem? (i := 99) (by decide +kernel))) (by decide +kernel)
theorem q1_101 : Cond.laysFinal "JokePump$Told" "JokePump$Told" "wells" "LJokePump$Row;" ∈ lw_g := lw_gm (tin1 (List.mem_of_getElem? (i := 101) (by decide +kernel))) (by decide +kernel)
theorem q1_103 : Cond.laysFinal "JokePump$Told" "JokePump$Told" "laughs" "[F" ∈ lw_g := lw_gm (tin1 (List.mem_of_getElem? (i := 103) (by decide +kernel))) (by decide +kernel)
theorem q1_105 : Cond.laysFinal "JokePump$Told" "JokePump$Told" "known" "LJokePump$Row;" ∈ lw_g := lw_gm (tin1 (List.mem_of_getElem? (i := 105) (by decide +kernel))) (by decide +kernel)
theorem ly_X6 : ∀ w ∈ u_ws RX6 TX6 6, w ∈ lw_g := by
  intro w hw
  obtain ⟨k, hk, rfl⟩ := List.mem_map.mp hw
  have hk := List.mem_range.mp hk
  rcases (show k = 0 ∨ k = 1 ∨ k = 2 ∨ k = 3 ∨ k = 4 ∨ k = 5 by omega) with rfl | rfl | rfl | rfl | rfl | rfl
  · exact q1_95
  · exact q1_97
  · exact q1_99
  · exact q1_101
  · exact q1_103
  · exact q1_105
theorem q1_236 : Cond.laysFinal "JokePump" "JokePump" "now" "LJokePump$State;" ∈ lw_g := lw_gm (tin1 (List.mem_of_getElem? (i := 236) (by decide +kernel))) (by decide +kernel)
theorem q1_238 : Cond.laysFinal "JokePump" "JokePump" "saved" "LJokePump$State;" ∈ lw_g := lw_gm (tin1 (List.mem_of_getElem? (i := 238) (by decide +kernel))) (by decide +kernel)
theorem q2_0 : Cond.lays "JokePump" "JokePump" "isSaved" "Z" ∈ lw_g := lw_gm (tin2 (List.mem_of_getElem? (i := 0) (by decide +kernel))) (by decide +kernel)
theorem q2_2 : Cond.laysFinal "JokePump" "JokePump" "history" "LJokePump$History;" ∈ lw_g := lw_gm (tin2 (List.mem_of_getElem? (i := 2) (by decide +kernel))) (by decide +kernel)
theorem q2_4 : Cond.laysFinal "JokePump" "JokePump" "input" "LJokePump$Strip;" ∈ lw_g := lw_gm (tin2 (List.mem_of_getElem? (i := 4) (by decide +kernel))) (by decide +kernel)
theorem q2_6 : Cond.laysFinal "JokePump" "JokePump" "line" "LJokePump$Strip;" ∈ lw_g := lw_gm (tin2 (List.mem_of_getElem? (i := 6) (by decide +kernel))) (by decide +kernel)
theorem q2_8 : Cond.laysFinal "JokePump" "JokePump" "reader" "LJokePump$Reader;" ∈ lw_g := lw_gm (tin2 (List.mem_of_getElem? (i := 8) (by decide +kernel))) (by decide +kernel)
theorem q2_10 : Cond.lays "JokePump" "JokePump" "faultPosition" "I" ∈ lw_g := lw_gm (tin2 (List.mem_of_getElem? (i := 10) (by decide +kernel))) (by decide +kernel)
theorem q2_12 : Cond.lays "JokePump" "JokePump" "reasonKind" "I" ∈ lw_g := lw_gm (tin2 (List.mem_of_getElem? (i := 12) (by decide +kernel))) (by decide +kernel)
theorem q2_14 : Cond.lays "JokePump" "JokePump" "reasonDetail" "I" ∈ lw_g := lw_gm (tin2 (List.mem_of_getElem? (i := 14) (by decide +kernel))) (by decide +kernel)
theorem q2_16 : Cond.lays "JokePump" "JokePump" "behindKind" "I" ∈ lw_g := lw_gm (tin2 (List.mem_of_getElem? (i := 16) (by decide +kernel))) (by decide +kernel)
theorem q2_18 : Cond.lays "JokePump" "JokePump" "behindDetail" "I" ∈ lw_g := lw_gm (tin2 (List.mem_of_getElem? (i := 18) (by decide +kernel))) (by decide +kernel)
theorem ly_X7 : ∀ w ∈ u_ws RX7 TX7 12, w ∈ lw_g := by
  intro w hw
  obtain ⟨k, hk, rfl⟩ := List.mem_map.mp hw
  have hk := List.mem_range.mp hk
  rcases (show k = 0 ∨ k = 1 ∨ k = 2 ∨ k = 3 ∨ k = 4 ∨ k = 5 ∨ k = 6 ∨ k = 7 ∨ k = 8 ∨ k = 9 ∨ k = 10 ∨ k = 11 by omega) with rfl | rfl | rfl | rfl | rfl | rfl | rfl | rfl | rfl | rfl | rfl | rfl
  · exact q1_236
  · exact q1_238
  · exact q2_0
  · exact q2_2
  · exact q2_4
  · exact q2_6
  · exact q2_8
  · exact q2_10
  · exact q2_12
  · exact q2_14
  · exact q2_16
  · exact q2_18
theorem q1_173 : Cond.fieldLink "JokePump$History" 11 "JokePump$History" "slots" "[LJokePump$State;" ∈ lw_g := lw_gm (tin1 (List.mem_of_getElem? (i := 173) (by decide +kernel))) (by decide +kernel)
theorem fl_X0_11 : Fld RX0 11 0 0 := ⟨RX0, TX0, 3, "JokePump$History", rfl, ly_X0, by decide, (Or.inl q1_173), rfl⟩
theorem q1_174 : Cond.fieldLink "JokePump$History" 17 "JokePump$History" "next" "I" ∈ lw_g := lw_gm (tin1 (List.mem_of_getElem? (i := 174) (by decide +kernel))) (by decide +kernel)
theorem fl_X0_17 : Fld RX0 17 0 1 := ⟨RX0, TX0, 3, "JokePump$History", rfl, ly_X0, by decide, (Or.inl q1_174), rfl⟩
theorem fp_X0_17 : FldP RX0 17 0 1 .int := ⟨RX0, TX0, 3, "JokePump$History", tyX0, rfl, ly_X0, tyX0_ok, nmX0, by decide, (Or.inl q1_174), rfl, rfl, by decide +kernel⟩
theorem q1_175 : Cond.fieldLink "JokePump$History" 21 "JokePump$History" "count" "I" ∈ lw_g := lw_gm (tin1 (List.mem_of_getElem? (i := 175) (by decide +kernel))) (by decide +kernel)
theorem fl_X0_21 : Fld RX0 21 0 2 := ⟨RX0, TX0, 3, "JokePump$History", rfl, ly_X0, by decide, (Or.inl q1_175), rfl⟩
theorem fp_X0_21 : FldP RX0 21 0 2 .int := ⟨RX0, TX0, 3, "JokePump$History", tyX0, rfl, ly_X0, tyX0_ok, nmX0, by decide, (Or.inl q1_175), rfl, rfl, by decide +kernel⟩
theorem q1_47 : Cond.fieldLink "JokePump$Jokes" 9 "JokePump$Jokes" "count" "I" ∈ lw_g := lw_gm (tin1 (List.mem_of_getElem? (i := 47) (by decide +kernel))) (by decide +kernel)
theorem fl_X1_9 : Fld RX1 9 1 0 := ⟨RX1, TX1, 6, "JokePump$Jokes", rfl, ly_X1, by decide, (Or.inl q1_47), rfl⟩
theorem fp_X1_9 : FldP RX1 9 1 0 .int := ⟨RX1, TX1, 6, "JokePump$Jokes", tyX1, rfl, ly_X1, tyX1_ok, nmX1, by decide, (Or.inl q1_47), rfl, rfl, by decide +kernel⟩
theorem q1_49 : Cond.fieldLink "JokePump$Jokes" 20 "JokePump$Jokes" "wells" "LJokePump$Row;" ∈ lw_g := lw_gm (tin1 (List.mem_of_getElem? (i := 49) (by decide +kernel))) (by decide +kernel)
theorem fl_X1_20 : Fld RX1 20 1 1 := ⟨RX1, TX1, 6, "JokePump$Jokes", rfl, ly_X1, by decide, (Or.inl q1_49), rfl⟩
theorem q1_52 : Cond.fieldLink "JokePump$Jokes" 24 "JokePump$Jokes" "depths" "LJokePump$Row;" ∈ lw_g := lw_gm (tin1 (List.mem_of_getElem? (i := 52) (by decide +kernel))) (by decide +kernel)
theorem fl_X1_24 : Fld RX1 24 1 2 := ⟨RX1, TX1, 6, "JokePump$Jokes", rfl, ly_X1, by decide, (Or.inl q1_52), rfl⟩
theorem q1_54 : Cond.fieldLink "JokePump$Jokes" 27 "JokePump$Jokes" "signs" "LJokePump$Row;" ∈ lw_g := lw_gm (tin1 (List.mem_of_getElem? (i := 54) (by decide +kernel))) (by decide +kernel)
theorem fl_X1_27 : Fld RX1 27 1 3 := ⟨RX1, TX1, 6, "JokePump$Jokes", rfl, ly_X1, by decide, (Or.inl q1_54), rfl⟩
theorem q1_57 : Cond.fieldLink "JokePump$Jokes" 30 "JokePump$Jokes" "wits" "LJokePump$Row;" ∈ lw_g := lw_gm (tin1 (List.mem_of_getElem? (i := 57) (by decide +kernel))) (by decide +kernel)
theorem fl_X1_30 : Fld RX1 30 1 4 := ⟨RX1, TX1, 6, "JokePump$Jokes", rfl, ly_X1, by decide, (Or.inl q1_57), rfl⟩
theorem q1_60 : Cond.fieldLink "JokePump$Jokes" 33 "JokePump$Jokes" "primed" "LJokePump$Row;" ∈ lw_g := lw_gm (tin1 (List.mem_of_getElem? (i := 60) (by decide +kernel))) (by decide +kernel)
theorem fl_X1_33 : Fld RX1 33 1 5 := ⟨RX1, TX1, 6, "JokePump$Jokes", rfl, ly_X1, by decide, (Or.inl q1_60), rfl⟩
theorem q1_208 : Cond.fieldLink "JokePump$Reader" 14 "JokePump$Reader" "kinds" "LJokePump$Row;" ∈ lw_g := lw_gm (tin1 (List.mem_of_getElem? (i := 208) (by decide +kernel))) (by decide +kernel)
theorem fl_X2_14 : Fld RX2 14 2 0 := ⟨RX2, TX2, 4, "JokePump$Reader", rfl, ly_X2, by decide, (Or.inl q1_208), rfl⟩
theorem q1_210 : Cond.fieldLink "JokePump$Reader" 20 "JokePump$Reader" "numbers" "LJokePump$Row;" ∈ lw_g := lw_gm (tin1 (List.mem_of_getElem? (i := 210) (by decide +kernel))) (by decide +kernel)
theorem fl_X2_20 : Fld RX2 20 2 1 := ⟨RX2, TX2, 4, "JokePump$Reader", rfl, ly_X2, by decide, (Or.inl q1_210), rfl⟩
theorem q1_211 : Cond.fieldLink "JokePump$Reader" 23 "JokePump$Reader" "count" "I" ∈ lw_g := lw_gm (tin1 (List.mem_of_getElem? (i := 211) (by decide +kernel))) (by decide +kernel)
theorem fl_X2_23 : Fld RX2 23 2 2 := ⟨RX2, TX2, 4, "JokePump$Reader", rfl, ly_X2, by decide, (Or.inl q1_211), rfl⟩
theorem fp_X2_23 : FldP RX2 23 2 2 .int := ⟨RX2, TX2, 4, "JokePump$Reader", tyX2, rfl, ly_X2, tyX2_ok, nmX2, by decide, (Or.inl q1_211), rfl, rfl, by decide +kernel⟩
theorem q1_213 : Cond.fieldLink "JokePump$Reader" 27 "JokePump$Reader" "end" "I" ∈ lw_g := lw_gm (tin1 (List.mem_of_getElem? (i := 213) (by decide +kernel))) (by decide +kernel)
theorem fl_X2_27 : Fld RX2 27 2 3 := ⟨RX2, TX2, 4, "JokePump$Reader", rfl, ly_X2, by decide, (Or.inl q1_213), rfl⟩
theorem fp_X2_27 : FldP RX2 27 2 3 .int := ⟨RX2, TX2, 4, "JokePump$Reader", tyX2, rfl, ly_X2, tyX2_ok, nmX2, by decide, (Or.inl q1_213), rfl, rfl, by decide +kernel⟩
theorem q1_192 : Cond.fieldLinkNest "JokePump$Reader" 34 "JokePump$Strip" "length" "I" "JokePump" ∈ lw_n := lw_nm (tin1 (List.mem_of_getElem? (i := 192) (by decide +kernel))) (by decide +kernel)
theorem fl_X2_34 : Fld RX2 34 5 1 := ⟨RX5, TX5, 2, "JokePump$Strip", rfl, ly_X5, by decide, (Or.inr ⟨_, q1_192⟩), rfl⟩
theorem q1_42 : Cond.fieldLink "JokePump$Row" 7 "JokePump$Row" "cells" "[I" ∈ lw_g := lw_gm (tin1 (List.mem_of_getElem? (i := 42) (by decide +kernel))) (by decide +kernel)
theorem fl_X3_7 : Fld RX3 7 3 0 := ⟨RX3, TX3, 1, "JokePump$Row", rfl, ly_X3, by decide, (Or.inl q1_42), rfl⟩
theorem q1_115 : Cond.fieldLink "JokePump$State" 12 "JokePump$State" "jokes" "LJokePump$Jokes;" ∈ lw_g := lw_gm (tin1 (List.mem_of_getElem? (i := 115) (by decide +kernel))) (by decide +kernel)
theorem fl_X4_12 : Fld RX4 12 4 0 := ⟨RX4, TX4, 12, "JokePump$State", rfl, ly_X4, by decide, (Or.inl q1_115), rfl⟩
theorem q1_117 : Cond.fieldLink "JokePump$State" 21 "JokePump$State" "told" "LJokePump$Told;" ∈ lw_g := lw_gm (tin1 (List.mem_of_getElem? (i := 117) (by decide +kernel))) (by decide +kernel)
theorem fl_X4_21 : Fld RX4 21 4 1 := ⟨RX4, TX4, 12, "JokePump$State", rfl, ly_X4, by decide, (Or.inl q1_117), rfl⟩
theorem q1_119 : Cond.fieldLink "JokePump$State" 30 "JokePump$State" "buckets" "LJokePump$Row;" ∈ lw_g := lw_gm (tin1 (List.mem_of_getElem? (i := 119) (by decide +kernel))) (by decide +kernel)
theorem fl_X4_30 : Fld RX4 30 4 2 := ⟨RX4, TX4, 12, "JokePump$State", rfl, ly_X4, by decide, (Or.inl q1_119), rfl⟩
theorem q1_121 : Cond.fieldLink "JokePump$State" 34 "JokePump$State" "well" "I" ∈ lw_g := lw_gm (tin1 (List.mem_of_getElem? (i := 121) (by decide +kernel))) (by decide +kernel)
theorem fl_X4_34 : Fld RX4 34 4 3 := ⟨RX4, TX4, 12, "JokePump$State", rfl, ly_X4, by decide, (Or.inl q1_121), rfl⟩
theorem fp_X4_34 : FldP RX4 34 4 3 .int := ⟨RX4, TX4, 12, "JokePump$State", tyX4, rfl, ly_X4, tyX4_ok, nmX4, by decide, (Or.inl q1_121), rfl, rfl, by decide +kernel⟩
theorem q1_123 : Cond.fieldLink "JokePump$State" 38 "JokePump$State" "length" "I" ∈ lw_g := lw_gm (tin1 (List.mem_of_getElem? (i := 123) (by decide +kernel))) (by decide +kernel)
theorem fl_X4_38 : Fld RX4 38 4 4 := ⟨RX4, TX4, 12, "JokePump$State", rfl, ly_X4, by decide, (Or.inl q1_123), rfl⟩
theorem fp_X4_38 : FldP RX4 38 4 4 .int := ⟨RX4, TX4, 12, "JokePump$State", tyX4, rfl, ly_X4, tyX4_ok, nmX4, by decide, (Or.inl q1_123), rfl, rfl, by decide +kernel⟩
theorem q1_125 : Cond.fieldLink "JokePump$State" 41 "JokePump$State" "reach" "I" ∈ lw_g := lw_gm (tin1 (List.mem_of_getElem? (i := 125) (by decide +kernel))) (by decide +kernel)
theorem fl_X4_41 : Fld RX4 41 4 5 := ⟨RX4, TX4, 12, "JokePump$State", rfl, ly_X4, by decide, (Or.inl q1_125), rfl⟩
theorem fp_X4_41 : FldP RX4 41 4 5 .int := ⟨RX4, TX4, 12, "JokePump$State", tyX4, rfl, ly_X4, tyX4_ok, nmX4, by decide, (Or.inl q1_125), rfl, rfl, by decide +kernel⟩
theorem q1_127 : Cond.fieldLink "JokePump$State" 44 "JokePump$State" "groans" "I" ∈ lw_g := lw_gm (tin1 (List.mem_of_getElem? (i := 127) (by decide +kernel))) (by decide +kernel)
theorem fl_X4_44 : Fld RX4 44 4 6 := ⟨RX4, TX4, 12, "JokePump$State", rfl, ly_X4, by decide, (Or.inl q1_127), rfl⟩
theorem fp_X4_44 : FldP RX4 44 4 6 .int := ⟨RX4, TX4, 12, "JokePump$State", tyX4, rfl, ly_X4, tyX4_ok, nmX4, by decide, (Or.inl q1_127), rfl, rfl, by decide +kernel⟩
theorem q1_129 : Cond.fieldLink "JokePump$State" 47 "JokePump$State" "drops" "I" ∈ lw_g := lw_gm (tin1 (List.mem_of_getElem? (i := 129) (by decide +kernel))) (by decide +kernel)
theorem fl_X4_47 : Fld RX4 47 4 7 := ⟨RX4, TX4, 12, "JokePump$State", rfl, ly_X4, by decide, (Or.inl q1_129), rfl⟩
theorem fp_X4_47 : FldP RX4 47 4 7 .int := ⟨RX4, TX4, 12, "JokePump$State", tyX4, rfl, ly_X4, tyX4_ok, nmX4, by decide, (Or.inl q1_129), rfl, rfl, by decide +kernel⟩
theorem q1_131 : Cond.fieldLink "JokePump$State" 50 "JokePump$State" "came" "I" ∈ lw_g := lw_gm (tin1 (List.mem_of_getElem? (i := 131) (by decide +kernel))) (by decide +kernel)
theorem fl_X4_50 : Fld RX4 50 4 8 := ⟨RX4, TX4, 12, "JokePump$State", rfl, ly_X4, by decide, (Or.inl q1_131), rfl⟩
theorem fp_X4_50 : FldP RX4 50 4 8 .int := ⟨RX4, TX4, 12, "JokePump$State", tyX4, rfl, ly_X4, tyX4_ok, nmX4, by decide, (Or.inl q1_131), rfl, rfl, by decide +kernel⟩
theorem q1_133 : Cond.fieldLink "JokePump$State" 53 "JokePump$State" "went" "I" ∈ lw_g := lw_gm (tin1 (List.mem_of_getElem? (i := 133) (by decide +kernel))) (by decide +kernel)
theorem fl_X4_53 : Fld RX4 53 4 9 := ⟨RX4, TX4, 12, "JokePump$State", rfl, ly_X4, by decide, (Or.inl q1_133), rfl⟩
theorem fp_X4_53 : FldP RX4 53 4 9 .int := ⟨RX4, TX4, 12, "JokePump$State", tyX4, rfl, ly_X4, tyX4_ok, nmX4, by decide, (Or.inl q1_133), rfl, rfl, by decide +kernel⟩
theorem q1_135 : Cond.fieldLink "JokePump$State" 56 "JokePump$State" "strokesMade" "I" ∈ lw_g := lw_gm (tin1 (List.mem_of_getElem? (i := 135) (by decide +kernel))) (by decide +kernel)
theorem fl_X4_56 : Fld RX4 56 4 10 := ⟨RX4, TX4, 12, "JokePump$State", rfl, ly_X4, by decide, (Or.inl q1_135), rfl⟩
theorem fp_X4_56 : FldP RX4 56 4 10 .int := ⟨RX4, TX4, 12, "JokePump$State", tyX4, rfl, ly_X4, tyX4_ok, nmX4, by decide, (Or.inl q1_135), rfl, rfl, by decide +kernel⟩
theorem q1_137 : Cond.fieldLink "JokePump$State" 59 "JokePump$State" "drained" "I" ∈ lw_g := lw_gm (tin1 (List.mem_of_getElem? (i := 137) (by decide +kernel))) (by decide +kernel)
theorem fl_X4_59 : Fld RX4 59 4 11 := ⟨RX4, TX4, 12, "JokePump$State", rfl, ly_X4, by decide, (Or.inl q1_137), rfl⟩
theorem fp_X4_59 : FldP RX4 59 4 11 .int := ⟨RX4, TX4, 12, "JokePump$State", tyX4, rfl, ly_X4, tyX4_ok, nmX4, by decide, (Or.inl q1_137), rfl, rfl, by decide +kernel⟩
theorem q1_58 : Cond.fieldLinkNest "JokePump$State" 72 "JokePump$Jokes" "wits" "LJokePump$Row;" "JokePump" ∈ lw_n := lw_nm (tin1 (List.mem_of_getElem? (i := 58) (by decide +kernel))) (by decide +kernel)
theorem fl_X4_72 : Fld RX4 72 1 4 := ⟨RX1, TX1, 6, "JokePump$Jokes", rfl, ly_X1, by decide, (Or.inr ⟨_, q1_58⟩), rfl⟩
theorem q1_61 : Cond.fieldLinkNest "JokePump$State" 79 "JokePump$Jokes" "primed" "LJokePump$Row;" "JokePump" ∈ lw_n := lw_nm (tin1 (List.mem_of_getElem? (i := 61) (by decide +kernel))) (by decide +kernel)
theorem fl_X4_79 : Fld RX4 79 1 5 := ⟨RX1, TX1, 6, "JokePump$Jokes", rfl, ly_X1, by decide, (Or.inr ⟨_, q1_61⟩), rfl⟩
theorem q1_55 : Cond.fieldLinkNest "JokePump$State" 99 "JokePump$Jokes" "signs" "LJokePump$Row;" "JokePump" ∈ lw_n := lw_nm (tin1 (List.mem_of_getElem? (i := 55) (by decide +kernel))) (by decide +kernel)
theorem fl_X4_99 : Fld RX4 99 1 3 := ⟨RX1, TX1, 6, "JokePump$Jokes", rfl, ly_X1, by decide, (Or.inr ⟨_, q1_55⟩), rfl⟩
theorem q1_50 : Cond.fieldLinkNest "JokePump$State" 102 "JokePump$Jokes" "wells" "LJokePump$Row;" "JokePump" ∈ lw_n := lw_nm (tin1 (List.mem_of_getElem? (i := 50) (by decide +kernel))) (by decide +kernel)
theorem fl_X4_102 : Fld RX4 102 1 1 := ⟨RX1, TX1, 6, "JokePump$Jokes", rfl, ly_X1, by decide, (Or.inr ⟨_, q1_50⟩), rfl⟩
theorem q1_190 : Cond.fieldLink "JokePump$Strip" 9 "JokePump$Strip" "signs" "[C" ∈ lw_g := lw_gm (tin1 (List.mem_of_getElem? (i := 190) (by decide +kernel))) (by decide +kernel)
theorem fl_X5_9 : Fld RX5 9 5 0 := ⟨RX5, TX5, 2, "JokePump$Strip", rfl, ly_X5, by decide, (Or.inl q1_190), rfl⟩
theorem q1_191 : Cond.fieldLink "JokePump$Strip" 15 "JokePump$Strip" "length" "I" ∈ lw_g := lw_gm (tin1 (List.mem_of_getElem? (i := 191) (by decide +kernel))) (by decide +kernel)
theorem fl_X5_15 : Fld RX5 15 5 1 := ⟨RX5, TX5, 2, "JokePump$Strip", rfl, ly_X5, by decide, (Or.inl q1_191), rfl⟩
theorem fp_X5_15 : FldP RX5 15 5 1 .int := ⟨RX5, TX5, 2, "JokePump$Strip", tyX5, rfl, ly_X5, tyX5_ok, nmX5, by decide, (Or.inl q1_191), rfl, rfl, by decide +kernel⟩
theorem q1_84 : Cond.fieldLink "JokePump$Told" 9 "JokePump$Told" "count" "I" ∈ lw_g := lw_gm (tin1 (List.mem_of_getElem? (i := 84) (by decide +kernel))) (by decide +kernel)
theorem fl_X6_9 : Fld RX6 9 6 0 := ⟨RX6, TX6, 6, "JokePump$Told", rfl, ly_X6, by decide, (Or.inl q1_84), rfl⟩
theorem fp_X6_9 : FldP RX6 9 6 0 .int := ⟨RX6, TX6, 6, "JokePump$Told", tyX6, rfl, ly_X6, tyX6_ok, nmX6, by decide, (Or.inl q1_84), rfl, rfl, by decide +kernel⟩
theorem q1_86 : Cond.fieldLink "JokePump$Told" 15 "JokePump$Told" "sum" "F" ∈ lw_g := lw_gm (tin1 (List.mem_of_getElem? (i := 86) (by decide +kernel))) (by decide +kernel)
theorem fl_X6_15 : Fld RX6 15 6 1 := ⟨RX6, TX6, 6, "JokePump$Told", rfl, ly_X6, by decide, (Or.inl q1_86), rfl⟩
theorem fp_X6_15 : FldP RX6 15 6 1 .float := ⟨RX6, TX6, 6, "JokePump$Told", tyX6, rfl, ly_X6, tyX6_ok, nmX6, by decide, (Or.inl q1_86), rfl, rfl, by decide +kernel⟩
theorem q1_88 : Cond.fieldLink "JokePump$Told" 24 "JokePump$Told" "signs" "LJokePump$Row;" ∈ lw_g := lw_gm (tin1 (List.mem_of_getElem? (i := 88) (by decide +kernel))) (by decide +kernel)
theorem fl_X6_24 : Fld RX6 24 6 2 := ⟨RX6, TX6, 6, "JokePump$Told", rfl, ly_X6, by decide, (Or.inl q1_88), rfl⟩
theorem q1_90 : Cond.fieldLink "JokePump$Told" 28 "JokePump$Told" "wells" "LJokePump$Row;" ∈ lw_g := lw_gm (tin1 (List.mem_of_getElem? (i := 90) (by decide +kernel))) (by decide +kernel)
theorem fl_X6_28 : Fld RX6 28 6 3 := ⟨RX6, TX6, 6, "JokePump$Told", rfl, ly_X6, by decide, (Or.inl q1_90), rfl⟩
theorem q1_92 : Cond.fieldLink "JokePump$Told" 31 "JokePump$Told" "laughs" "[F" ∈ lw_g := lw_gm (tin1 (List.mem_of_getElem? (i := 92) (by decide +kernel))) (by decide +kernel)
theorem fl_X6_31 : Fld RX6 31 6 4 := ⟨RX6, TX6, 6, "JokePump$Told", rfl, ly_X6, by decide, (Or.inl q1_92), rfl⟩
theorem q1_93 : Cond.fieldLink "JokePump$Told" 35 "JokePump$Told" "known" "LJokePump$Row;" ∈ lw_g := lw_gm (tin1 (List.mem_of_getElem? (i := 93) (by decide +kernel))) (by decide +kernel)
theorem fl_X6_35 : Fld RX6 35 6 5 := ⟨RX6, TX6, 6, "JokePump$Told", rfl, ly_X6, by decide, (Or.inl q1_93), rfl⟩
theorem q1_224 : Cond.fieldLink "JokePump" 12 "JokePump" "now" "LJokePump$State;" ∈ lw_g := lw_gm (tin1 (List.mem_of_getElem? (i := 224) (by decide +kernel))) (by decide +kernel)
theorem fl_X7_12 : Fld RX7 12 7 0 := ⟨RX7, TX7, 12, "JokePump", rfl, ly_X7, by decide, (Or.inl q1_224), rfl⟩
theorem q1_225 : Cond.fieldLink "JokePump" 16 "JokePump" "saved" "LJokePump$State;" ∈ lw_g := lw_gm (tin1 (List.mem_of_getElem? (i := 225) (by decide +kernel))) (by decide +kernel)
theorem fl_X7_16 : Fld RX7 16 7 1 := ⟨RX7, TX7, 12, "JokePump", rfl, ly_X7, by decide, (Or.inl q1_225), rfl⟩
theorem q1_226 : Cond.fieldLink "JokePump" 19 "JokePump" "isSaved" "Z" ∈ lw_g := lw_gm (tin1 (List.mem_of_getElem? (i := 226) (by decide +kernel))) (by decide +kernel)
theorem fl_X7_19 : Fld RX7 19 7 2 := ⟨RX7, TX7, 12, "JokePump", rfl, ly_X7, by decide, (Or.inl q1_226), rfl⟩
theorem fp_X7_19 : FldP RX7 19 7 2 .boolean := ⟨RX7, TX7, 12, "JokePump", tyX7, rfl, ly_X7, tyX7_ok, nmX7, by decide, (Or.inl q1_226), rfl, rfl, by decide +kernel⟩
theorem q1_227 : Cond.fieldLink "JokePump" 26 "JokePump" "history" "LJokePump$History;" ∈ lw_g := lw_gm (tin1 (List.mem_of_getElem? (i := 227) (by decide +kernel))) (by decide +kernel)
theorem fl_X7_26 : Fld RX7 26 7 3 := ⟨RX7, TX7, 12, "JokePump", rfl, ly_X7, by decide, (Or.inl q1_227), rfl⟩
theorem q1_228 : Cond.fieldLink "JokePump" 33 "JokePump" "input" "LJokePump$Strip;" ∈ lw_g := lw_gm (tin1 (List.mem_of_getElem? (i := 228) (by decide +kernel))) (by decide +kernel)
theorem fl_X7_33 : Fld RX7 33 7 4 := ⟨RX7, TX7, 12, "JokePump", rfl, ly_X7, by decide, (Or.inl q1_228), rfl⟩
theorem q1_229 : Cond.fieldLink "JokePump" 37 "JokePump" "line" "LJokePump$Strip;" ∈ lw_g := lw_gm (tin1 (List.mem_of_getElem? (i := 229) (by decide +kernel))) (by decide +kernel)
theorem fl_X7_37 : Fld RX7 37 7 5 := ⟨RX7, TX7, 12, "JokePump", rfl, ly_X7, by decide, (Or.inl q1_229), rfl⟩
theorem q1_230 : Cond.fieldLink "JokePump" 43 "JokePump" "reader" "LJokePump$Reader;" ∈ lw_g := lw_gm (tin1 (List.mem_of_getElem? (i := 230) (by decide +kernel))) (by decide +kernel)
theorem fl_X7_43 : Fld RX7 43 7 6 := ⟨RX7, TX7, 12, "JokePump", rfl, ly_X7, by decide, (Or.inl q1_230), rfl⟩
theorem q1_231 : Cond.fieldLink "JokePump" 47 "JokePump" "faultPosition" "I" ∈ lw_g := lw_gm (tin1 (List.mem_of_getElem? (i := 231) (by decide +kernel))) (by decide +kernel)
theorem fl_X7_47 : Fld RX7 47 7 7 := ⟨RX7, TX7, 12, "JokePump", rfl, ly_X7, by decide, (Or.inl q1_231), rfl⟩
theorem fp_X7_47 : FldP RX7 47 7 7 .int := ⟨RX7, TX7, 12, "JokePump", tyX7, rfl, ly_X7, tyX7_ok, nmX7, by decide, (Or.inl q1_231), rfl, rfl, by decide +kernel⟩
theorem q1_232 : Cond.fieldLink "JokePump" 51 "JokePump" "reasonKind" "I" ∈ lw_g := lw_gm (tin1 (List.mem_of_getElem? (i := 232) (by decide +kernel))) (by decide +kernel)
theorem fl_X7_51 : Fld RX7 51 7 8 := ⟨RX7, TX7, 12, "JokePump", rfl, ly_X7, by decide, (Or.inl q1_232), rfl⟩
theorem fp_X7_51 : FldP RX7 51 7 8 .int := ⟨RX7, TX7, 12, "JokePump", tyX7, rfl, ly_X7, tyX7_ok, nmX7, by decide, (Or.inl q1_232), rfl, rfl, by decide +kernel⟩
theorem q1_233 : Cond.fieldLink "JokePump" 54 "JokePump" "reasonDetail" "I" ∈ lw_g := lw_gm (tin1 (List.mem_of_getElem? (i := 233) (by decide +kernel))) (by decide +kernel)
theorem fl_X7_54 : Fld RX7 54 7 9 := ⟨RX7, TX7, 12, "JokePump", rfl, ly_X7, by decide, (Or.inl q1_233), rfl⟩
theorem fp_X7_54 : FldP RX7 54 7 9 .int := ⟨RX7, TX7, 12, "JokePump", tyX7, rfl, ly_X7, tyX7_ok, nmX7, by decide, (Or.inl q1_233), rfl, rfl, by decide +kernel⟩
theorem q1_234 : Cond.fieldLink "JokePump" 57 "JokePump" "behindKind" "I" ∈ lw_g := lw_gm (tin1 (List.mem_of_getElem? (i := 234) (by decide +kernel))) (by decide +kernel)
theorem fl_X7_57 : Fld RX7 57 7 10 := ⟨RX7, TX7, 12, "JokePump", rfl, ly_X7, by decide, (Or.inl q1_234), rfl⟩
theorem fp_X7_57 : FldP RX7 57 7 10 .int := ⟨RX7, TX7, 12, "JokePump", tyX7, rfl, ly_X7, tyX7_ok, nmX7, by decide, (Or.inl q1_234), rfl, rfl, by decide +kernel⟩
theorem q1_235 : Cond.fieldLink "JokePump" 60 "JokePump" "behindDetail" "I" ∈ lw_g := lw_gm (tin1 (List.mem_of_getElem? (i := 235) (by decide +kernel))) (by decide +kernel)
theorem fl_X7_60 : Fld RX7 60 7 11 := ⟨RX7, TX7, 12, "JokePump", rfl, ly_X7, by decide, (Or.inl q1_235), rfl⟩
theorem fp_X7_60 : FldP RX7 60 7 11 .int := ⟨RX7, TX7, 12, "JokePump", tyX7, rfl, ly_X7, tyX7_ok, nmX7, by decide, (Or.inl q1_235), rfl, rfl, by decide +kernel⟩
theorem q1_214 : Cond.fieldLinkNest "JokePump" 105 "JokePump$Reader" "end" "I" "JokePump" ∈ lw_n := lw_nm (tin1 (List.mem_of_getElem? (i := 214) (by decide +kernel))) (by decide +kernel)
theorem fl_X7_105 : Fld RX7 105 2 3 := ⟨RX2, TX2, 4, "JokePump$Reader", rfl, ly_X2, by decide, (Or.inr ⟨_, q1_214⟩), rfl⟩
theorem q1_176 : Cond.fieldLinkNest "JokePump" 111 "JokePump$History" "count" "I" "JokePump" ∈ lw_n := lw_nm (tin1 (List.mem_of_getElem? (i := 176) (by decide +kernel))) (by decide +kernel)
theorem fl_X7_111 : Fld RX7 111 0 2 := ⟨RX0, TX0, 3, "JokePump$History", rfl, ly_X0, by decide, (Or.inr ⟨_, q1_176⟩), rfl⟩
theorem q1_116 : Cond.fieldLinkNest "JokePump" 121 "JokePump$State" "jokes" "LJokePump$Jokes;" "JokePump" ∈ lw_n := lw_nm (tin1 (List.mem_of_getElem? (i := 116) (by decide +kernel))) (by decide +kernel)
theorem fl_X7_121 : Fld RX7 121 4 0 := ⟨RX4, TX4, 12, "JokePump$State", rfl, ly_X4, by decide, (Or.inr ⟨_, q1_116⟩), rfl⟩
theorem q1_48 : Cond.fieldLinkNest "JokePump" 125 "JokePump$Jokes" "count" "I" "JokePump" ∈ lw_n := lw_nm (tin1 (List.mem_of_getElem? (i := 48) (by decide +kernel))) (by decide +kernel)
theorem fl_X7_125 : Fld RX7 125 1 0 := ⟨RX1, TX1, 6, "JokePump$Jokes", rfl, ly_X1, by decide, (Or.inr ⟨_, q1_48⟩), rfl⟩
theorem q1_51 : Cond.fieldLinkNest "JokePump" 135 "JokePump$Jokes" "wells" "LJokePump$Row;" "JokePump" ∈ lw_n := lw_nm (tin1 (List.mem_of_getElem? (i := 51) (by decide +kernel))) (by decide +kernel)
theorem fl_X7_135 : Fld RX7 135 1 1 := ⟨RX1, TX1, 6, "JokePump$Jokes", rfl, ly_X1, by decide, (Or.inr ⟨_, q1_51⟩), rfl⟩
theorem q1_53 : Cond.fieldLinkNest "JokePump" 144 "JokePump$Jokes" "depths" "LJokePump$Row;" "JokePump" ∈ lw_n := lw_nm (tin1 (List.mem_of_getElem? (i := 53) (by decide +kernel))) (by decide +kernel)
theorem fl_X7_144 : Fld RX7 144 1 2 := ⟨RX1, TX1, 6, "JokePump$Jokes", rfl, ly_X1, by decide, (Or.inr ⟨_, q1_53⟩), rfl⟩
theorem q1_56 : Cond.fieldLinkNest "JokePump" 147 "JokePump$Jokes" "signs" "LJokePump$Row;" "JokePump" ∈ lw_n := lw_nm (tin1 (List.mem_of_getElem? (i := 56) (by decide +kernel))) (by decide +kernel)
theorem fl_X7_147 : Fld RX7 147 1 3 := ⟨RX1, TX1, 6, "JokePump$Jokes", rfl, ly_X1, by decide, (Or.inr ⟨_, q1_56⟩), rfl⟩
theorem q1_59 : Cond.fieldLinkNest "JokePump" 150 "JokePump$Jokes" "wits" "LJokePump$Row;" "JokePump" ∈ lw_n := lw_nm (tin1 (List.mem_of_getElem? (i := 59) (by decide +kernel))) (by decide +kernel)
theorem fl_X7_150 : Fld RX7 150 1 4 := ⟨RX1, TX1, 6, "JokePump$Jokes", rfl, ly_X1, by decide, (Or.inr ⟨_, q1_59⟩), rfl⟩
theorem q1_62 : Cond.fieldLinkNest "JokePump" 153 "JokePump$Jokes" "primed" "LJokePump$Row;" "JokePump" ∈ lw_n := lw_nm (tin1 (List.mem_of_getElem? (i := 62) (by decide +kernel))) (by decide +kernel)
theorem fl_X7_153 : Fld RX7 153 1 5 := ⟨RX1, TX1, 6, "JokePump$Jokes", rfl, ly_X1, by decide, (Or.inr ⟨_, q1_62⟩), rfl⟩
theorem q1_120 : Cond.fieldLinkNest "JokePump" 162 "JokePump$State" "buckets" "LJokePump$Row;" "JokePump" ∈ lw_n := lw_nm (tin1 (List.mem_of_getElem? (i := 120) (by decide +kernel))) (by decide +kernel)
theorem fl_X7_162 : Fld RX7 162 4 2 := ⟨RX4, TX4, 12, "JokePump$State", rfl, ly_X4, by decide, (Or.inr ⟨_, q1_120⟩), rfl⟩
theorem q1_118 : Cond.fieldLinkNest "JokePump" 171 "JokePump$State" "told" "LJokePump$Told;" "JokePump" ∈ lw_n := lw_nm (tin1 (List.mem_of_getElem? (i := 118) (by decide +kernel))) (by decide +kernel)
theorem fl_X7_171 : Fld RX7 171 4 1 := ⟨RX4, TX4, 12, "JokePump$State", rfl, ly_X4, by decide, (Or.inr ⟨_, q1_118⟩), rfl⟩
theorem q1_94 : Cond.fieldLinkNest "JokePump" 184 "JokePump$Told" "known" "LJokePump$Row;" "JokePump" ∈ lw_n := lw_nm (tin1 (List.mem_of_getElem? (i := 94) (by decide +kernel))) (by decide +kernel)
theorem fl_X7_184 : Fld RX7 184 6 5 := ⟨RX6, TX6, 6, "JokePump$Told", rfl, ly_X6, by decide, (Or.inr ⟨_, q1_94⟩), rfl⟩
theorem q1_87 : Cond.fieldLinkNest "JokePump" 207 "JokePump$Told" "sum" "F" "JokePump" ∈ lw_n := lw_nm (tin1 (List.mem_of_getElem? (i := 87) (by decide +kernel))) (by decide +kernel)
theorem fl_X7_207 : Fld RX7 207 6 1 := ⟨RX6, TX6, 6, "JokePump$Told", rfl, ly_X6, by decide, (Or.inr ⟨_, q1_87⟩), rfl⟩
theorem q1_85 : Cond.fieldLinkNest "JokePump" 215 "JokePump$Told" "count" "I" "JokePump" ∈ lw_n := lw_nm (tin1 (List.mem_of_getElem? (i := 85) (by decide +kernel))) (by decide +kernel)
theorem fl_X7_215 : Fld RX7 215 6 0 := ⟨RX6, TX6, 6, "JokePump$Told", rfl, ly_X6, by decide, (Or.inr ⟨_, q1_85⟩), rfl⟩
theorem q1_89 : Cond.fieldLinkNest "JokePump" 216 "JokePump$Told" "signs" "LJokePump$Row;" "JokePump" ∈ lw_n := lw_nm (tin1 (List.mem_of_getElem? (i := 89) (by decide +kernel))) (by decide +kernel)
theorem fl_X7_216 : Fld RX7 216 6 2 := ⟨RX6, TX6, 6, "JokePump$Told", rfl, ly_X6, by decide, (Or.inr ⟨_, q1_89⟩), rfl⟩
theorem q1_91 : Cond.fieldLinkNest "JokePump" 217 "JokePump$Told" "wells" "LJokePump$Row;" "JokePump" ∈ lw_n := lw_nm (tin1 (List.mem_of_getElem? (i := 91) (by decide +kernel))) (by decide +kernel)
theorem fl_X7_217 : Fld RX7 217 6 3 := ⟨RX6, TX6, 6, "JokePump$Told", rfl, ly_X6, by decide, (Or.inr ⟨_, q1_91⟩), rfl⟩
theorem q1_126 : Cond.fieldLinkNest "JokePump" 226 "JokePump$State" "reach" "I" "JokePump" ∈ lw_n := lw_nm (tin1 (List.mem_of_getElem? (i := 126) (by decide +kernel))) (by decide +kernel)
theorem fl_X7_226 : Fld RX7 226 4 5 := ⟨RX4, TX4, 12, "JokePump$State", rfl, ly_X4, by decide, (Or.inr ⟨_, q1_126⟩), rfl⟩
theorem fp_X7_226 : FldP RX7 226 4 5 .int := ⟨RX4, TX4, 12, "JokePump$State", tyX4, rfl, ly_X4, tyX4_ok, nmX4, by decide, (Or.inr ⟨_, q1_126⟩), rfl, rfl, by decide +kernel⟩
theorem q1_124 : Cond.fieldLinkNest "JokePump" 229 "JokePump$State" "length" "I" "JokePump" ∈ lw_n := lw_nm (tin1 (List.mem_of_getElem? (i := 124) (by decide +kernel))) (by decide +kernel)
theorem fl_X7_229 : Fld RX7 229 4 4 := ⟨RX4, TX4, 12, "JokePump$State", rfl, ly_X4, by decide, (Or.inr ⟨_, q1_124⟩), rfl⟩
theorem fp_X7_229 : FldP RX7 229 4 4 .int := ⟨RX4, TX4, 12, "JokePump$State", tyX4, rfl, ly_X4, tyX4_ok, nmX4, by decide, (Or.inr ⟨_, q1_124⟩), rfl, rfl, by decide +kernel⟩
theorem q1_128 : Cond.fieldLinkNest "JokePump" 235 "JokePump$State" "groans" "I" "JokePump" ∈ lw_n := lw_nm (tin1 (List.mem_of_getElem? (i := 128) (by decide +kernel))) (by decide +kernel)
theorem fl_X7_235 : Fld RX7 235 4 6 := ⟨RX4, TX4, 12, "JokePump$State", rfl, ly_X4, by decide, (Or.inr ⟨_, q1_128⟩), rfl⟩
theorem fp_X7_235 : FldP RX7 235 4 6 .int := ⟨RX4, TX4, 12, "JokePump$State", tyX4, rfl, ly_X4, tyX4_ok, nmX4, by decide, (Or.inr ⟨_, q1_128⟩), rfl, rfl, by decide +kernel⟩
theorem q1_122 : Cond.fieldLinkNest "JokePump" 241 "JokePump$State" "well" "I" "JokePump" ∈ lw_n := lw_nm (tin1 (List.mem_of_getElem? (i := 122) (by decide +kernel))) (by decide +kernel)
theorem fl_X7_241 : Fld RX7 241 4 3 := ⟨RX4, TX4, 12, "JokePump$State", rfl, ly_X4, by decide, (Or.inr ⟨_, q1_122⟩), rfl⟩
theorem fp_X7_241 : FldP RX7 241 4 3 .int := ⟨RX4, TX4, 12, "JokePump$State", tyX4, rfl, ly_X4, tyX4_ok, nmX4, by decide, (Or.inr ⟨_, q1_122⟩), rfl, rfl, by decide +kernel⟩
theorem q1_132 : Cond.fieldLinkNest "JokePump" 252 "JokePump$State" "came" "I" "JokePump" ∈ lw_n := lw_nm (tin1 (List.mem_of_getElem? (i := 132) (by decide +kernel))) (by decide +kernel)
theorem fl_X7_252 : Fld RX7 252 4 8 := ⟨RX4, TX4, 12, "JokePump$State", rfl, ly_X4, by decide, (Or.inr ⟨_, q1_132⟩), rfl⟩
theorem fp_X7_252 : FldP RX7 252 4 8 .int := ⟨RX4, TX4, 12, "JokePump$State", tyX4, rfl, ly_X4, tyX4_ok, nmX4, by decide, (Or.inr ⟨_, q1_132⟩), rfl, rfl, by decide +kernel⟩
theorem q1_134 : Cond.fieldLinkNest "JokePump" 255 "JokePump$State" "went" "I" "JokePump" ∈ lw_n := lw_nm (tin1 (List.mem_of_getElem? (i := 134) (by decide +kernel))) (by decide +kernel)
theorem fl_X7_255 : Fld RX7 255 4 9 := ⟨RX4, TX4, 12, "JokePump$State", rfl, ly_X4, by decide, (Or.inr ⟨_, q1_134⟩), rfl⟩
theorem fp_X7_255 : FldP RX7 255 4 9 .int := ⟨RX4, TX4, 12, "JokePump$State", tyX4, rfl, ly_X4, tyX4_ok, nmX4, by decide, (Or.inr ⟨_, q1_134⟩), rfl, rfl, by decide +kernel⟩
theorem q1_130 : Cond.fieldLinkNest "JokePump" 268 "JokePump$State" "drops" "I" "JokePump" ∈ lw_n := lw_nm (tin1 (List.mem_of_getElem? (i := 130) (by decide +kernel))) (by decide +kernel)
theorem fl_X7_268 : Fld RX7 268 4 7 := ⟨RX4, TX4, 12, "JokePump$State", rfl, ly_X4, by decide, (Or.inr ⟨_, q1_130⟩), rfl⟩
theorem fp_X7_268 : FldP RX7 268 4 7 .int := ⟨RX4, TX4, 12, "JokePump$State", tyX4, rfl, ly_X4, tyX4_ok, nmX4, by decide, (Or.inr ⟨_, q1_130⟩), rfl, rfl, by decide +kernel⟩
theorem q1_136 : Cond.fieldLinkNest "JokePump" 271 "JokePump$State" "strokesMade" "I" "JokePump" ∈ lw_n := lw_nm (tin1 (List.mem_of_getElem? (i := 136) (by decide +kernel))) (by decide +kernel)
theorem fl_X7_271 : Fld RX7 271 4 10 := ⟨RX4, TX4, 12, "JokePump$State", rfl, ly_X4, by decide, (Or.inr ⟨_, q1_136⟩), rfl⟩
theorem q1_138 : Cond.fieldLinkNest "JokePump" 274 "JokePump$State" "drained" "I" "JokePump" ∈ lw_n := lw_nm (tin1 (List.mem_of_getElem? (i := 138) (by decide +kernel))) (by decide +kernel)
theorem fl_X7_274 : Fld RX7 274 4 11 := ⟨RX4, TX4, 12, "JokePump$State", rfl, ly_X4, by decide, (Or.inr ⟨_, q1_138⟩), rfl⟩
theorem fp_X7_274 : FldP RX7 274 4 11 .int := ⟨RX4, TX4, 12, "JokePump$State", tyX4, rfl, ly_X4, tyX4_ok, nmX4, by decide, (Or.inr ⟨_, q1_138⟩), rfl, rfl, by decide +kernel⟩
theorem q1_193 : Cond.fieldLinkNest "JokePump" 280 "JokePump$Strip" "length" "I" "JokePump" ∈ lw_n := lw_nm (tin1 (List.mem_of_getElem? (i := 193) (by decide +kernel))) (by decide +kernel)
theorem fl_X7_280 : Fld RX7 280 5 1 := ⟨RX5, TX5, 2, "JokePump$Strip", rfl, ly_X5, by decide, (Or.inr ⟨_, q1_193⟩), rfl⟩
theorem q1_212 : Cond.fieldLinkNest "JokePump" 321 "JokePump$Reader" "count" "I" "JokePump" ∈ lw_n := lw_nm (tin1 (List.mem_of_getElem? (i := 212) (by decide +kernel))) (by decide +kernel)
theorem fl_X7_321 : Fld RX7 321 2 2 := ⟨RX2, TX2, 4, "JokePump$Reader", rfl, ly_X2, by decide, (Or.inr ⟨_, q1_212⟩), rfl⟩
theorem q1_209 : Cond.fieldLinkNest "JokePump" 335 "JokePump$Reader" "kinds" "LJokePump$Row;" "JokePump" ∈ lw_n := lw_nm (tin1 (List.mem_of_getElem? (i := 209) (by decide +kernel))) (by decide +kernel)
theorem fl_X7_335 : Fld RX7 335 2 0 := ⟨RX2, TX2, 4, "JokePump$Reader", rfl, ly_X2, by decide, (Or.inr ⟨_, q1_209⟩), rfl⟩
theorem q3_77 : Cond.methodLink "JokePumpLaw" 18 ⟨"JokePump", "append", "(C)I"⟩ ∈ lw_g := lw_gm (tin3 (List.mem_of_getElem? (i := 77) (by decide +kernel))) (by decide +kernel)
theorem q3_78 : Cond.instanceMethod ⟨"JokePump", "append", "(C)I"⟩ ∈ lw_g := lw_gm (tin3 (List.mem_of_getElem? (i := 78) (by decide +kernel))) (by decide +kernel)
theorem q3_79 : Cond.selects "JokePump" ⟨"JokePump", "append", "(C)I"⟩ ⟨"JokePump", "append", "(C)I"⟩ ∈ lw_g := lw_gm (tin3 (List.mem_of_getElem? (i := 79) (by decide +kernel))) (by decide +kernel)
theorem q1_1 : Cond.initialized "JokePump" ∈ lw_g := lw_gm (tin1 (List.mem_of_getElem? (i := 1) (by decide +kernel))) (by decide +kernel)
theorem q3_80 : Cond.code ⟨"JokePump", "append", "(C)I"⟩ prog_1_method_37_code 2 (some .int) ∈ lw_g := lw_gm (tin3 (List.mem_of_getElem? (i := 80) (by decide +kernel))) (by decide +kernel)
theorem lk_L_18 : LkV RL 18 yX7_append cX7_append 2 (some .int) 1 := LkV_of q3_77 q3_78 q3_79 q1_1 q3_80 ⟨by decide, by decide, by decide +kernel⟩
theorem q3_85 : Cond.methodLink "JokePumpLaw" 24 ⟨"JokePump", "read", "()I"⟩ ∈ lw_g := lw_gm (tin3 (List.mem_of_getElem? (i := 85) (by decide +kernel))) (by decide +kernel)
theorem q3_86 : Cond.instanceMethod ⟨"JokePump", "read", "()I"⟩ ∈ lw_g := lw_gm (tin3 (List.mem_of_getElem? (i := 86) (by decide +kernel))) (by decide +kernel)
theorem q3_87 : Cond.selects "JokePump" ⟨"JokePump", "read", "()I"⟩ ⟨"JokePump", "read", "()I"⟩ ∈ lw_g := lw_gm (tin3 (List.mem_of_getElem? (i := 87) (by decide +kernel))) (by decide +kernel)
theorem q3_88 : Cond.code ⟨"JokePump", "read", "()I"⟩ prog_1_method_10_code 2 (some .int) ∈ lw_g := lw_gm (tin3 (List.mem_of_getElem? (i := 88) (by decide +kernel))) (by decide +kernel)
theorem lk_L_24 : LkV RL 24 yX7_read cX7_read 2 (some .int) 0 := LkV_of q3_85 q3_86 q3_87 q1_1 q3_88 ⟨by decide, by decide, by decide +kernel⟩
theorem q2_125 : Cond.methodLink "JokePumpLaw" 31 ⟨"JokePump", "account", "(I)I"⟩ ∈ lw_g := lw_gm (tin2 (List.mem_of_getElem? (i := 125) (by decide +kernel))) (by decide +kernel)
theorem q2_126 : Cond.instanceMethod ⟨"JokePump", "account", "(I)I"⟩ ∈ lw_g := lw_gm (tin2 (List.mem_of_getElem? (i := 126) (by decide +kernel))) (by decide +kernel)
theorem q2_127 : Cond.selects "JokePump" ⟨"JokePump", "account", "(I)I"⟩ ⟨"JokePump", "account", "(I)I"⟩ ∈ lw_g := lw_gm (tin2 (List.mem_of_getElem? (i := 127) (by decide +kernel))) (by decide +kernel)
theorem q2_128 : Cond.code ⟨"JokePump", "account", "(I)I"⟩ prog_1_method_33_code 2 (some .int) ∈ lw_g := lw_gm (tin2 (List.mem_of_getElem? (i := 128) (by decide +kernel))) (by decide +kernel)
theorem lk_L_31 : LkV RL 31 yX7_account cX7_account 2 (some .int) 1 := LkV_of q2_125 q2_126 q2_127 q1_1 q2_128 ⟨by decide, by decide, by decide +kernel⟩
theorem q2_145 : Cond.methodLink "JokePumpLaw" 35 ⟨"JokePump", "jokeOf", "(II)I"⟩ ∈ lw_g := lw_gm (tin2 (List.mem_of_getElem? (i := 145) (by decide +kernel))) (by decide +kernel)
theorem q2_146 : Cond.instanceMethod ⟨"JokePump", "jokeOf", "(II)I"⟩ ∈ lw_g := lw_gm (tin2 (List.mem_of_getElem? (i := 146) (by decide +kernel))) (by decide +kernel)
theorem q2_147 : Cond.selects "JokePump" ⟨"JokePump", "jokeOf", "(II)I"⟩ ⟨"JokePump", "jokeOf", "(II)I"⟩ ∈ lw_g := lw_gm (tin2 (List.mem_of_getElem? (i := 147) (by decide +kernel))) (by decide +kernel)
theorem q2_148 : Cond.code ⟨"JokePump", "jokeOf", "(II)I"⟩ prog_1_method_14_code 4 (some .int) ∈ lw_g := lw_gm (tin2 (List.mem_of_getElem? (i := 148) (by decide +kernel))) (by decide +kernel)
theorem lk_L_35 : LkV RL 35 yX7_jokeOf cX7_jokeOf 4 (some .int) 2 := LkV_of q2_145 q2_146 q2_147 q1_1 q2_148 ⟨by decide, by decide, by decide +kernel⟩
theorem q2_154 : Cond.methodLink "JokePumpLaw" 39 ⟨"JokePump", "liftedOf", "(II)I"⟩ ∈ lw_g := lw_gm (tin2 (List.mem_of_getElem? (i := 154) (by decide +kernel))) (by decide +kernel)
theorem q2_155 : Cond.instanceMethod ⟨"JokePump", "liftedOf", "(II)I"⟩ ∈ lw_g := lw_gm (tin2 (List.mem_of_getElem? (i := 155) (by decide +kernel))) (by decide +kernel)
theorem q2_156 : Cond.selects "JokePump" ⟨"JokePump", "liftedOf", "(II)I"⟩ ⟨"JokePump", "liftedOf", "(II)I"⟩ ∈ lw_g := lw_gm (tin2 (List.mem_of_getElem? (i := 156) (by decide +kernel))) (by decide +kernel)
theorem q2_157 : Cond.code ⟨"JokePump", "liftedOf", "(II)I"⟩ prog_1_method_25_code 5 (some .int) ∈ lw_g := lw_gm (tin2 (List.mem_of_getElem? (i := 157) (by decide +kernel))) (by decide +kernel)
theorem lk_L_39 : LkV RL 39 yX7_liftedOf cX7_liftedOf 5 (some .int) 2 := LkV_of q2_154 q2_155 q2_156 q1_1 q2_157 ⟨by decide, by decide, by decide +kernel⟩
theorem q2_167 : Cond.methodLink "JokePumpLaw" 44 ⟨"JokePump", "wellOf", "(II)I"⟩ ∈ lw_g := lw_gm (tin2 (List.mem_of_getElem? (i := 167) (by decide +kernel))) (by decide +kernel)
theorem q2_168 : Cond.instanceMethod ⟨"JokePump", "wellOf", "(II)I"⟩ ∈ lw_g := lw_gm (tin2 (List.mem_of_getElem? (i := 168) (by decide +kernel))) (by decide +kernel)
theorem q2_169 : Cond.selects "JokePump" ⟨"JokePump", "wellOf", "(II)I"⟩ ⟨"JokePump", "wellOf", "(II)I"⟩ ∈ lw_g := lw_gm (tin2 (List.mem_of_getElem? (i := 169) (by decide +kernel))) (by decide +kernel)
theorem q2_170 : Cond.code ⟨"JokePump", "wellOf", "(II)I"⟩ prog_1_method_15_code 3 (some .int) ∈ lw_g := lw_gm (tin2 (List.mem_of_getElem? (i := 170) (by decide +kernel))) (by decide +kernel)
theorem lk_L_44 : LkV RL 44 yX7_wellOf cX7_wellOf 3 (some .int) 2 := LkV_of q2_167 q2_168 q2_169 q1_1 q2_170 ⟨by decide, by decide, by decide +kernel⟩
theorem q2_184 : Cond.methodLink "JokePumpLaw" 47 ⟨"JokePump", "laughs", "()F"⟩ ∈ lw_g := lw_gm (tin2 (List.mem_of_getElem? (i := 184) (by decide +kernel))) (by decide +kernel)
theorem q2_185 : Cond.instanceMethod ⟨"JokePump", "laughs", "()F"⟩ ∈ lw_g := lw_gm (tin2 (List.mem_of_getElem? (i := 185) (by decide +kernel))) (by decide +kernel)
theorem q2_186 : Cond.selects "JokePump" ⟨"JokePump", "laughs", "()F"⟩ ⟨"JokePump", "laughs", "()F"⟩ ∈ lw_g := lw_gm (tin2 (List.mem_of_getElem? (i := 186) (by decide +kernel))) (by decide +kernel)
theorem q2_187 : Cond.code ⟨"JokePump", "laughs", "()F"⟩ prog_1_method_22_code 1 (some .float) ∈ lw_g := lw_gm (tin2 (List.mem_of_getElem? (i := 187) (by decide +kernel))) (by decide +kernel)
theorem lk_L_47 : LkV RL 47 yX7_laughs cX7_laughs 1 (some .float) 0 := LkV_of q2_184 q2_185 q2_186 q1_1 q2_187 ⟨by decide, by decide, by decide +kernel⟩
theorem q2_136 : Cond.methodLink "JokePumpLaw" 58 ⟨"JokePumpLaw", "chosen", "(II)I"⟩ ∈ lw_g := lw_gm (tin2 (List.mem_of_getElem? (i := 136) (by decide +kernel))) (by decide +kernel)
theorem q2_137 : Cond.static ⟨"JokePumpLaw", "chosen", "(II)I"⟩ ∈ lw_g := lw_gm (tin2 (List.mem_of_getElem? (i := 137) (by decide +kernel))) (by decide +kernel)
theorem q1_0 : Cond.initialized "JokePumpLaw" ∈ lw_g := lw_gm (tin1 (List.mem_of_getElem? (i := 0) (by decide +kernel))) (by decide +kernel)
theorem q2_138 : Cond.code ⟨"JokePumpLaw", "chosen", "(II)I"⟩ method_3_code 2 (some .int) ∈ lw_g := lw_gm (tin2 (List.mem_of_getElem? (i := 138) (by decide +kernel))) (by decide +kernel)
theorem lk_L_58 : LkS RL 58 yL_chosen cL_chosen 2 (some .int) 2 := LkS_of q2_136 q2_137 q1_0 q2_138 ⟨by decide, by decide, by decide +kernel⟩
theorem q2_21 : Cond.methodLink "JokePumpLaw" 68 ⟨"JokePump", "joke", "(IIII)I"⟩ ∈ lw_g := lw_gm (tin2 (List.mem_of_getElem? (i := 21) (by decide +kernel))) (by decide +kernel)
theorem q2_22 : Cond.instanceMethod ⟨"JokePump", "joke", "(IIII)I"⟩ ∈ lw_g := lw_gm (tin2 (List.mem_of_getElem? (i := 22) (by decide +kernel))) (by decide +kernel)
theorem q2_23 : Cond.selects "JokePump" ⟨"JokePump", "joke", "(IIII)I"⟩ ⟨"JokePump", "joke", "(IIII)I"⟩ ∈ lw_g := lw_gm (tin2 (List.mem_of_getElem? (i := 23) (by decide +kernel))) (by decide +kernel)
theorem q2_24 : Cond.code ⟨"JokePump", "joke", "(IIII)I"⟩ prog_1_method_2_code 5 (some .int) ∈ lw_g := lw_gm (tin2 (List.mem_of_getElem? (i := 24) (by decide +kernel))) (by decide +kernel)
theorem lk_L_68 : LkV RL 68 yX7_joke cX7_joke 5 (some .int) 4 := LkV_of q2_21 q2_22 q2_23 q1_1 q2_24 ⟨by decide, by decide, by decide +kernel⟩
theorem q2_205 : Cond.methodLink "JokePumpLaw" 72 ⟨"JokePump", "prime", "(I)I"⟩ ∈ lw_g := lw_gm (tin2 (List.mem_of_getElem? (i := 205) (by decide +kernel))) (by decide +kernel)
theorem q2_206 : Cond.instanceMethod ⟨"JokePump", "prime", "(I)I"⟩ ∈ lw_g := lw_gm (tin2 (List.mem_of_getElem? (i := 206) (by decide +kernel))) (by decide +kernel)
theorem q2_207 : Cond.selects "JokePump" ⟨"JokePump", "prime", "(I)I"⟩ ⟨"JokePump", "prime", "(I)I"⟩ ∈ lw_g := lw_gm (tin2 (List.mem_of_getElem? (i := 207) (by decide +kernel))) (by decide +kernel)
theorem q2_208 : Cond.code ⟨"JokePump", "prime", "(I)I"⟩ prog_1_method_3_code 2 (some .int) ∈ lw_g := lw_gm (tin2 (List.mem_of_getElem? (i := 208) (by decide +kernel))) (by decide +kernel)
theorem lk_L_72 : LkV RL 72 yX7_prime cX7_prime 2 (some .int) 1 := LkV_of q2_205 q2_206 q2_207 q1_1 q2_208 ⟨by decide, by decide, by decide +kernel⟩
theorem q2_214 : Cond.methodLink "JokePumpLaw" 75 ⟨"JokePump", "drop", "(I)I"⟩ ∈ lw_g := lw_gm (tin2 (List.mem_of_getElem? (i := 214) (by decide +kernel))) (by decide +kernel)
theorem q2_215 : Cond.instanceMethod ⟨"JokePump", "drop", "(I)I"⟩ ∈ lw_g := lw_gm (tin2 (List.mem_of_getElem? (i := 215) (by decide +kernel))) (by decide +kernel)
theorem q2_216 : Cond.selects "JokePump" ⟨"JokePump", "drop", "(I)I"⟩ ⟨"JokePump", "drop", "(I)I"⟩ ∈ lw_g := lw_gm (tin2 (List.mem_of_getElem? (i := 216) (by decide +kernel))) (by decide +kernel)
theorem q2_217 : Cond.code ⟨"JokePump", "drop", "(I)I"⟩ prog_1_method_4_code 2 (some .int) ∈ lw_g := lw_gm (tin2 (List.mem_of_getElem? (i := 217) (by decide +kernel))) (by decide +kernel)
theorem lk_L_75 : LkV RL 75 yX7_drop cX7_drop 2 (some .int) 1 := LkV_of q2_214 q2_215 q2_216 q1_1 q2_217 ⟨by decide, by decide, by decide +kernel⟩
theorem q2_231 : Cond.methodLink "JokePumpLaw" 78 ⟨"JokePump", "drain", "(I)I"⟩ ∈ lw_g := lw_gm (tin2 (List.mem_of_getElem? (i := 231) (by decide +kernel))) (by decide +kernel)
theorem q2_232 : Cond.instanceMethod ⟨"JokePump", "drain", "(I)I"⟩ ∈ lw_g := lw_gm (tin2 (List.mem_of_getElem? (i := 232) (by decide +kernel))) (by decide +kernel)
theorem q2_233 : Cond.selects "JokePump" ⟨"JokePump", "drain", "(I)I"⟩ ⟨"JokePump", "drain", "(I)I"⟩ ∈ lw_g := lw_gm (tin2 (List.mem_of_getElem? (i := 233) (by decide +kernel))) (by decide +kernel)
theorem q2_234 : Cond.code ⟨"JokePump", "drain", "(I)I"⟩ prog_1_method_5_code 2 (some .int) ∈ lw_g := lw_gm (tin2 (List.mem_of_getElem? (i := 234) (by decide +kernel))) (by decide +kernel)
theorem lk_L_78 : LkV RL 78 yX7_drain cX7_drain 2 (some .int) 1 := LkV_of q2_231 q2_232 q2_233 q1_1 q2_234 ⟨by decide, by decide, by decide +kernel⟩
theorem q3_0 : Cond.methodLink "JokePumpLaw" 81 ⟨"JokePump", "stroke", "(I)I"⟩ ∈ lw_g := lw_gm (tin3 (List.mem_of_getElem? (i := 0) (by decide +kernel))) (by decide +kernel)
theorem q3_1 : Cond.instanceMethod ⟨"JokePump", "stroke", "(I)I"⟩ ∈ lw_g := lw_gm (tin3 (List.mem_of_getElem? (i := 1) (by decide +kernel))) (by decide +kernel)
theorem q3_2 : Cond.selects "JokePump" ⟨"JokePump", "stroke", "(I)I"⟩ ⟨"JokePump", "stroke", "(I)I"⟩ ∈ lw_g := lw_gm (tin3 (List.mem_of_getElem? (i := 2) (by decide +kernel))) (by decide +kernel)
theorem q3_3 : Cond.code ⟨"JokePump", "stroke", "(I)I"⟩ prog_1_method_6_code 2 (some .int) ∈ lw_g := lw_gm (tin3 (List.mem_of_getElem? (i := 3) (by decide +kernel))) (by decide +kernel)
theorem lk_L_81 : LkV RL 81 yX7_stroke cX7_stroke 2 (some .int) 1 := LkV_of q3_0 q3_1 q3_2 q1_1 q3_3 ⟨by decide, by decide, by decide +kernel⟩
theorem q3_8 : Cond.methodLink "JokePumpLaw" 84 ⟨"JokePump", "bucket", "(II)I"⟩ ∈ lw_g := lw_gm (tin3 (List.mem_of_getElem? (i := 8) (by decide +kernel))) (by decide +kernel)
theorem q3_9 : Cond.instanceMethod ⟨"JokePump", "bucket", "(II)I"⟩ ∈ lw_g := lw_gm (tin3 (List.mem_of_getElem? (i := 9) (by decide +kernel))) (by decide +kernel)
theorem q3_10 : Cond.selects "JokePump" ⟨"JokePump", "bucket", "(II)I"⟩ ⟨"JokePump", "bucket", "(II)I"⟩ ∈ lw_g := lw_gm (tin3 (List.mem_of_getElem? (i := 10) (by decide +kernel))) (by decide +kernel)
theorem q3_11 : Cond.code ⟨"JokePump", "bucket", "(II)I"⟩ prog_1_method_7_code 3 (some .int) ∈ lw_g := lw_gm (tin3 (List.mem_of_getElem? (i := 11) (by decide +kernel))) (by decide +kernel)
theorem lk_L_84 : LkV RL 84 yX7_bucket cX7_bucket 3 (some .int) 2 := LkV_of q3_8 q3_9 q3_10 q1_1 q3_11 ⟨by decide, by decide, by decide +kernel⟩
theorem q3_16 : Cond.methodLink "JokePumpLaw" 87 ⟨"JokePump", "go", "(I)I"⟩ ∈ lw_g := lw_gm (tin3 (List.mem_of_getElem? (i := 16) (by decide +kernel))) (by decide +kernel)
theorem q3_17 : Cond.instanceMethod ⟨"JokePump", "go", "(I)I"⟩ ∈ lw_g := lw_gm (tin3 (List.mem_of_getElem? (i := 17) (by decide +kernel))) (by decide +kernel)
theorem q3_18 : Cond.selects "JokePump" ⟨"JokePump", "go", "(I)I"⟩ ⟨"JokePump", "go", "(I)I"⟩ ∈ lw_g := lw_gm (tin3 (List.mem_of_getElem? (i := 18) (by decide +kernel))) (by decide +kernel)
theorem q3_19 : Cond.code ⟨"JokePump", "go", "(I)I"⟩ prog_1_method_8_code 2 (some .int) ∈ lw_g := lw_gm (tin3 (List.mem_of_getElem? (i := 19) (by decide +kernel))) (by decide +kernel)
theorem lk_L_87 : LkV RL 87 yX7_go cX7_go 2 (some .int) 1 := LkV_of q3_16 q3_17 q3_18 q1_1 q3_19 ⟨by decide, by decide, by decide +kernel⟩
theorem q3_26 : Cond.methodLink "JokePumpLaw" 94 ⟨"JokePumpLaw", "done", "(LJokePump;Ljava/lang/String;)I"⟩ ∈ lw_g := lw_gm (tin3 (List.mem_of_getElem? (i := 26) (by decide +kernel))) (by decide +kernel)
theorem q3_27 : Cond.static ⟨"JokePumpLaw", "done", "(LJokePump;Ljava/lang/String;)I"⟩ ∈ lw_g := lw_gm (tin3 (List.mem_of_getElem? (i := 27) (by decide +kernel))) (by decide +kernel)
theorem q3_28 : Cond.code ⟨"JokePumpLaw", "done", "(LJokePump;Ljava/lang/String;)I"⟩ method_4_code 3 (some .int) ∈ lw_g := lw_gm (tin3 (List.mem_of_getElem? (i := 28) (by decide +kernel))) (by decide +kernel)
theorem lk_L_94 : LkS RL 94 yL_done cL_done 3 (some .int) 2 := LkS_of q3_26 q3_27 q1_0 q3_28 ⟨by decide, by decide, by decide +kernel⟩
theorem q3_186 : Cond.methodLink "JokePumpLaw" 98 ⟨"JokePump", "pump", "(I)I"⟩ ∈ lw_g := lw_gm (tin3 (List.mem_of_getElem? (i := 186) (by decide +kernel))) (by decide +kernel)
theorem q3_187 : Cond.instanceMethod ⟨"JokePump", "pump", "(I)I"⟩ ∈ lw_g := lw_gm (tin3 (List.mem_of_getElem? (i := 187) (by decide +kernel))) (by decide +kernel)
theorem q3_188 : Cond.selects "JokePump" ⟨"JokePump", "pump", "(I)I"⟩ ⟨"JokePump", "pump", "(I)I"⟩ ∈ lw_g := lw_gm (tin3 (List.mem_of_getElem? (i := 188) (by decide +kernel))) (by decide +kernel)
theorem q3_189 : Cond.code ⟨"JokePump", "pump", "(I)I"⟩ prog_1_method_9_code 2 (some .int) ∈ lw_g := lw_gm (tin3 (List.mem_of_getElem? (i := 189) (by decide +kernel))) (by decide +kernel)
theorem lk_L_98 : LkV RL 98 yX7_pump cX7_pump 2 (some .int) 1 := LkV_of q3_186 q3_187 q3_188 q1_1 q3_189 ⟨by decide, by decide, by decide +kernel⟩
theorem q2_140 : Cond.methodLink "JokePumpLaw" 101 ⟨"JokePumpLaw", "mark", "(LJokePump;)J"⟩ ∈ lw_g := lw_gm (tin2 (List.mem_of_getElem? (i := 140) (by decide +kernel))) (by decide +kernel)
theorem q2_141 : Cond.static ⟨"JokePumpLaw", "mark", "(LJokePump;)J"⟩ ∈ lw_g := lw_gm (tin2 (List.mem_of_getElem? (i := 141) (by decide +kernel))) (by decide +kernel)
theorem q2_142 : Cond.code ⟨"JokePumpLaw", "mark", "(LJokePump;)J"⟩ method_5_code 5 (some .long) ∈ lw_g := lw_gm (tin2 (List.mem_of_getElem? (i := 142) (by decide +kernel))) (by decide +kernel)
theorem lk_L_101 : LkS RL 101 yL_mark cL_mark 5 (some .long) 1 := LkS_of q2_140 q2_141 q1_0 q2_142 ⟨by decide, by decide, by decide +kernel⟩
theorem q3_227 : Cond.methodLink "JokePumpLaw" 105 ⟨"JokePump", "would", "(I)I"⟩ ∈ lw_g := lw_gm (tin3 (List.mem_of_getElem? (i := 227) (by decide +kernel))) (by decide +kernel)
theorem q3_228 : Cond.instanceMethod ⟨"JokePump", "would", "(I)I"⟩ ∈ lw_g := lw_gm (tin3 (List.mem_of_getElem? (i := 228) (by decide +kernel))) (by decide +kernel)
theorem q3_229 : Cond.selects "JokePump" ⟨"JokePump", "would", "(I)I"⟩ ⟨"JokePump", "would", "(I)I"⟩ ∈ lw_g := lw_gm (tin3 (List.mem_of_getElem? (i := 229) (by decide +kernel))) (by decide +kernel)
theorem q3_230 : Cond.code ⟨"JokePump", "would", "(I)I"⟩ prog_1_method_29_code 7 (some .int) ∈ lw_g := lw_gm (tin3 (List.mem_of_getElem? (i := 230) (by decide +kernel))) (by decide +kernel)
theorem lk_L_105 : LkV RL 105 yX7_would cX7_would 7 (some .int) 1 := LkV_of q3_227 q3_228 q3_229 q1_1 q3_230 ⟨by decide, by decide, by decide +kernel⟩
theorem q3_232 : Cond.methodLink "JokePumpLaw" 108 ⟨"JokePump", "groansIn", "(I)I"⟩ ∈ lw_g := lw_gm (tin3 (List.mem_of_getElem? (i := 232) (by decide +kernel))) (by decide +kernel)
theorem q3_233 : Cond.instanceMethod ⟨"JokePump", "groansIn", "(I)I"⟩ ∈ lw_g := lw_gm (tin3 (List.mem_of_getElem? (i := 233) (by decide +kernel))) (by decide +kernel)
theorem q3_234 : Cond.selects "JokePump" ⟨"JokePump", "groansIn", "(I)I"⟩ ⟨"JokePump", "groansIn", "(I)I"⟩ ∈ lw_g := lw_gm (tin3 (List.mem_of_getElem? (i := 234) (by decide +kernel))) (by decide +kernel)
theorem q3_235 : Cond.code ⟨"JokePump", "groansIn", "(I)I"⟩ prog_1_method_30_code 5 (some .int) ∈ lw_g := lw_gm (tin3 (List.mem_of_getElem? (i := 235) (by decide +kernel))) (by decide +kernel)
theorem lk_L_108 : LkV RL 108 yX7_groansIn cX7_groansIn 5 (some .int) 1 := LkV_of q3_232 q3_233 q3_234 q1_1 q3_235 ⟨by decide, by decide, by decide +kernel⟩
theorem q3_239 : Cond.methodLink "JokePumpLaw" 115 ⟨"JokePump", "isKnown", "(I)I"⟩ ∈ lw_g := lw_gm (tin3 (List.mem_of_getElem? (i := 239) (by decide +kernel))) (by decide +kernel)
theorem q4_0 : Cond.instanceMethod ⟨"JokePump", "isKnown", "(I)I"⟩ ∈ lw_g := lw_gm (tin4 (List.mem_of_getElem? (i := 0) (by decide +kernel))) (by decide +kernel)
theorem q4_1 : Cond.selects "JokePump" ⟨"JokePump", "isKnown", "(I)I"⟩ ⟨"JokePump", "isKnown", "(I)I"⟩ ∈ lw_g := lw_gm (tin4 (List.mem_of_getElem? (i := 1) (by decide +kernel))) (by decide +kernel)
theorem q4_2 : Cond.code ⟨"JokePump", "isKnown", "(I)I"⟩ prog_1_method_16_code 2 (some .int) ∈ lw_g := lw_gm (tin4 (List.mem_of_getElem? (i := 2) (by decide +kernel))) (by decide +kernel)
theorem lk_L_115 : LkV RL 115 yX7_isKnown cX7_isKnown 2 (some .int) 1 := LkV_of q3_239 q4_0 q4_1 q1_1 q4_2 ⟨by decide, by decide, by decide +kernel⟩
theorem q4_3 : Cond.methodLink "JokePumpLaw" 118 ⟨"JokePump", "reason", "(IZ)I"⟩ ∈ lw_g := lw_gm (tin4 (List.mem_of_getElem? (i := 3) (by decide +kernel))) (by decide +kernel)
theorem q4_4 : Cond.instanceMethod ⟨"JokePump", "reason", "(IZ)I"⟩ ∈ lw_g := lw_gm (tin4 (List.mem_of_getElem? (i := 4) (by decide +kernel))) (by decide +kernel)
theorem q4_5 : Cond.selects "JokePump" ⟨"JokePump", "reason", "(IZ)I"⟩ ⟨"JokePump", "reason", "(IZ)I"⟩ ∈ lw_g := lw_gm (tin4 (List.mem_of_getElem? (i := 5) (by decide +kernel))) (by decide +kernel)
theorem q4_6 : Cond.code ⟨"JokePump", "reason", "(IZ)I"⟩ prog_1_method_39_code 3 (some .int) ∈ lw_g := lw_gm (tin4 (List.mem_of_getElem? (i := 6) (by decide +kernel))) (by decide +kernel)
theorem lk_L_118 : LkV RL 118 yX7_reason cX7_reason 3 (some .int) 2 := LkV_of q4_3 q4_4 q4_5 q1_1 q4_6 ⟨by decide, by decide, by decide +kernel⟩
theorem q2_104 : Cond.methodLink "JokePumpLaw" 122 ⟨"JokePump", "undo", "()I"⟩ ∈ lw_g := lw_gm (tin2 (List.mem_of_getElem? (i := 104) (by decide +kernel))) (by decide +kernel)
theorem q2_105 : Cond.instanceMethod ⟨"JokePump", "undo", "()I"⟩ ∈ lw_g := lw_gm (tin2 (List.mem_of_getElem? (i := 105) (by decide +kernel))) (by decide +kernel)
theorem q2_106 : Cond.selects "JokePump" ⟨"JokePump", "undo", "()I"⟩ ⟨"JokePump", "undo", "()I"⟩ ∈ lw_g := lw_gm (tin2 (List.mem_of_getElem? (i := 106) (by decide +kernel))) (by decide +kernel)
theorem q2_107 : Cond.code ⟨"JokePump", "undo", "()I"⟩ prog_1_method_11_code 1 (some .int) ∈ lw_g := lw_gm (tin2 (List.mem_of_getElem? (i := 107) (by decide +kernel))) (by decide +kernel)
theorem lk_L_122 : LkV RL 122 yX7_undo cX7_undo 1 (some .int) 0 := LkV_of q2_104 q2_105 q2_106 q1_1 q2_107 ⟨by decide, by decide, by decide +kernel⟩
theorem q4_10 : Cond.methodLink "JokePumpLaw" 125 ⟨"JokePump", "bestStroke", "()I"⟩ ∈ lw_g := lw_gm (tin4 (List.mem_of_getElem? (i := 10) (by decide +kernel))) (by decide +kernel)
theorem q4_11 : Cond.instanceMethod ⟨"JokePump", "bestStroke", "()I"⟩ ∈ lw_g := lw_gm (tin4 (List.mem_of_getElem? (i := 11) (by decide +kernel))) (by decide +kernel)
theorem q4_12 : Cond.selects "JokePump" ⟨"JokePump", "bestStroke", "()I"⟩ ⟨"JokePump", "bestStroke", "()I"⟩ ∈ lw_g := lw_gm (tin4 (List.mem_of_getElem? (i := 12) (by decide +kernel))) (by decide +kernel)
theorem q4_13 : Cond.code ⟨"JokePump", "bestStroke", "()I"⟩ prog_1_method_31_code 4 (some .int) ∈ lw_g := lw_gm (tin4 (List.mem_of_getElem? (i := 13) (by decide +kernel))) (by decide +kernel)
theorem lk_L_125 : LkV RL 125 yX7_bestStroke cX7_bestStroke 4 (some .int) 0 := LkV_of q4_10 q4_11 q4_12 q1_1 q4_13 ⟨by decide, by decide, by decide +kernel⟩
theorem q4_18 : Cond.methodLink "JokePumpLaw" 128 ⟨"JokePump", "inWell", "(II)I"⟩ ∈ lw_g := lw_gm (tin4 (List.mem_of_getElem? (i := 18) (by decide +kernel))) (by decide +kernel)
theorem q4_19 : Cond.instanceMethod ⟨"JokePump", "inWell", "(II)I"⟩ ∈ lw_g := lw_gm (tin4 (List.mem_of_getElem? (i := 19) (by decide +kernel))) (by decide +kernel)
theorem q4_20 : Cond.selects "JokePump" ⟨"JokePump", "inWell", "(II)I"⟩ ⟨"JokePump", "inWell", "(II)I"⟩ ∈ lw_g := lw_gm (tin4 (List.mem_of_getElem? (i := 20) (by decide +kernel))) (by decide +kernel)
theorem q4_21 : Cond.code ⟨"JokePump", "inWell", "(II)I"⟩ prog_1_method_17_code 3 (some .int) ∈ lw_g := lw_gm (tin4 (List.mem_of_getElem? (i := 21) (by decide +kernel))) (by decide +kernel)
theorem lk_L_128 : LkV RL 128 yX7_inWell cX7_inWell 3 (some .int) 2 := LkV_of q4_18 q4_19 q4_20 q1_1 q4_21 ⟨by decide, by decide, by decide +kernel⟩
theorem q4_22 : Cond.methodLink "JokePumpLaw" 131 ⟨"JokePumpLaw", "groansBy", "(LJokePump;II)I"⟩ ∈ lw_g := lw_gm (tin4 (List.mem_of_getElem? (i := 22) (by decide +kernel))) (by decide +kernel)
theorem q4_23 : Cond.static ⟨"JokePumpLaw", "groansBy", "(LJokePump;II)I"⟩ ∈ lw_g := lw_gm (tin4 (List.mem_of_getElem? (i := 23) (by decide +kernel))) (by decide +kernel)
theorem q4_24 : Cond.code ⟨"JokePumpLaw", "groansBy", "(LJokePump;II)I"⟩ method_9_code 5 (some .int) ∈ lw_g := lw_gm (tin4 (List.mem_of_getElem? (i := 24) (by decide +kernel))) (by decide +kernel)
theorem lk_L_131 : LkS RL 131 yL_groansBy cL_groansBy 5 (some .int) 3 := LkS_of q4_22 q4_23 q1_0 q4_24 ⟨by decide, by decide, by decide +kernel⟩
theorem q3_194 : Cond.methodLink "JokePumpLaw" 138 ⟨"JokePump", "isCounted", "()Z"⟩ ∈ lw_g := lw_gm (tin3 (List.mem_of_getElem? (i := 194) (by decide +kernel))) (by decide +kernel)
theorem q3_195 : Cond.instanceMethod ⟨"JokePump", "isCounted", "()Z"⟩ ∈ lw_g := lw_gm (tin3 (List.mem_of_getElem? (i := 195) (by decide +kernel))) (by decide +kernel)
theorem q3_196 : Cond.selects "JokePump" ⟨"JokePump", "isCounted", "()Z"⟩ ⟨"JokePump", "isCounted", "()Z"⟩ ∈ lw_g := lw_gm (tin3 (List.mem_of_getElem? (i := 196) (by decide +kernel))) (by decide +kernel)
theorem q3_197 : Cond.code ⟨"JokePump", "isCounted", "()Z"⟩ prog_1_method_32_code 2 (some .boolean) ∈ lw_g := lw_gm (tin3 (List.mem_of_getElem? (i := 197) (by decide +kernel))) (by decide +kernel)
theorem lk_L_138 : LkV RL 138 yX7_isCounted cX7_isCounted 2 (some .boolean) 0 := LkV_of q3_194 q3_195 q3_196 q1_1 q3_197 ⟨by decide, by decide, by decide +kernel⟩
theorem q3_224 : Cond.methodLink "JokePumpLaw" 142 ⟨"JokePumpLaw", "pumps", "(LJokePump;I)Z"⟩ ∈ lw_g := lw_gm (tin3 (List.mem_of_getElem? (i := 224) (by decide +kernel))) (by decide +kernel)
theorem q3_225 : Cond.static ⟨"JokePumpLaw", "pumps", "(LJokePump;I)Z"⟩ ∈ lw_g := lw_gm (tin3 (List.mem_of_getElem? (i := 225) (by decide +kernel))) (by decide +kernel)
theorem q3_226 : Cond.code ⟨"JokePumpLaw", "pumps", "(LJokePump;I)Z"⟩ method_7_code 13 (some .boolean) ∈ lw_g := lw_gm (tin3 (List.mem_of_getElem? (i := 226) (by decide +kernel))) (by decide +kernel)
theorem lk_L_142 : LkS RL 142 yL_pumps cL_pumps 13 (some .boolean) 2 := LkS_of q3_224 q3_225 q1_0 q3_226 ⟨by decide, by decide, by decide +kernel⟩
theorem q4_7 : Cond.methodLink "JokePumpLaw" 146 ⟨"JokePumpLaw", "strokes", "(LJokePump;)Z"⟩ ∈ lw_g := lw_gm (tin4 (List.mem_of_getElem? (i := 7) (by decide +kernel))) (by decide +kernel)
theorem q4_8 : Cond.static ⟨"JokePumpLaw", "strokes", "(LJokePump;)Z"⟩ ∈ lw_g := lw_gm (tin4 (List.mem_of_getElem? (i := 8) (by decide +kernel))) (by decide +kernel)
theorem q4_9 : Cond.code ⟨"JokePumpLaw", "strokes", "(LJokePump;)Z"⟩ method_8_code 8 (some .boolean) ∈ lw_g := lw_gm (tin4 (List.mem_of_getElem? (i := 9) (by decide +kernel))) (by decide +kernel)
theorem lk_L_146 : LkS RL 146 yL_strokes cL_strokes 8 (some .boolean) 1 := LkS_of q4_7 q4_8 q1_0 q4_9 ⟨by decide, by decide, by decide +kernel⟩
theorem q4_26 : Cond.methodLink "JokePumpLaw" 150 ⟨"JokePump", "strokes", "(I)I"⟩ ∈ lw_g := lw_gm (tin4 (List.mem_of_getElem? (i := 26) (by decide +kernel))) (by decide +kernel)
theorem q3_212 : Cond.instanceMethod ⟨"JokePump", "strokes", "(I)I"⟩ ∈ lw_g := lw_gm (tin3 (List.mem_of_getElem? (i := 212) (by decide +kernel))) (by decide +kernel)
theorem q3_213 : Cond.selects "JokePump" ⟨"JokePump", "strokes", "(I)I"⟩ ⟨"JokePump", "strokes", "(I)I"⟩ ∈ lw_g := lw_gm (tin3 (List.mem_of_getElem? (i := 213) (by decide +kernel))) (by decide +kernel)
theorem q3_214 : Cond.code ⟨"JokePump", "strokes", "(I)I"⟩ prog_1_method_27_code 5 (some .int) ∈ lw_g := lw_gm (tin3 (List.mem_of_getElem? (i := 214) (by decide +kernel))) (by decide +kernel)
theorem lk_L_150 : LkV RL 150 yX7_strokes cX7_strokes 5 (some .int) 1 := LkV_of q4_26 q3_212 q3_213 q1_1 q3_214 ⟨by decide, by decide, by decide +kernel⟩
theorem q4_27 : Cond.methodLink "JokePumpLaw" 152 ⟨"JokePump", "strokesAgain", "(I)I"⟩ ∈ lw_g := lw_gm (tin4 (List.mem_of_getElem? (i := 27) (by decide +kernel))) (by decide +kernel)
theorem q3_217 : Cond.instanceMethod ⟨"JokePump", "strokesAgain", "(I)I"⟩ ∈ lw_g := lw_gm (tin3 (List.mem_of_getElem? (i := 217) (by decide +kernel))) (by decide +kernel)
theorem q3_218 : Cond.selects "JokePump" ⟨"JokePump", "strokesAgain", "(I)I"⟩ ⟨"JokePump", "strokesAgain", "(I)I"⟩ ∈ lw_g := lw_gm (tin3 (List.mem_of_getElem? (i := 218) (by decide +kernel))) (by decide +kernel)
theorem q3_219 : Cond.code ⟨"JokePump", "strokesAgain", "(I)I"⟩ prog_1_method_28_code 3 (some .int) ∈ lw_g := lw_gm (tin3 (List.mem_of_getElem? (i := 219) (by decide +kernel))) (by decide +kernel)
theorem lk_L_152 : LkV RL 152 yX7_strokesAgain cX7_strokesAgain 3 (some .int) 1 := LkV_of q4_27 q3_217 q3_218 q1_1 q3_219 ⟨by decide, by decide, by decide +kernel⟩
theorem q4_28 : Cond.methodLink "JokePumpLaw" 155 ⟨"JokePump", "funniest", "(I)I"⟩ ∈ lw_g := lw_gm (tin4 (List.mem_of_getElem? (i := 28) (by decide +kernel))) (by decide +kernel)
theorem q4_29 : Cond.instanceMethod ⟨"JokePump", "funniest", "(I)I"⟩ ∈ lw_g := lw_gm (tin4 (List.mem_of_getElem? (i := 29) (by decide +kernel))) (by decide +kernel)
theorem q4_30 : Cond.selects "JokePump" ⟨"JokePump", "funniest", "(I)I"⟩ ⟨"JokePump", "funniest", "(I)I"⟩ ∈ lw_g := lw_gm (tin4 (List.mem_of_getElem? (i := 30) (by decide +kernel))) (by decide +kernel)
theorem q4_31 : Cond.code ⟨"JokePump", "funniest", "(I)I"⟩ prog_1_method_18_code 3 (some .int) ∈ lw_g := lw_gm (tin4 (List.mem_of_getElem? (i := 31) (by decide +kernel))) (by decide +kernel)
theorem lk_L_155 : LkV RL 155 yX7_funniest cX7_funniest 3 (some .int) 1 := LkV_of q4_28 q4_29 q4_30 q1_1 q4_31 ⟨by decide, by decide, by decide +kernel⟩
theorem q4_41 : Cond.methodLink "JokePumpLaw" 158 ⟨"JokePump", "laughBits", "(II)I"⟩ ∈ lw_g := lw_gm (tin4 (List.mem_of_getElem? (i := 41) (by decide +kernel))) (by decide +kernel)
theorem q4_42 : Cond.instanceMethod ⟨"JokePump", "laughBits", "(II)I"⟩ ∈ lw_g := lw_gm (tin4 (List.mem_of_getElem? (i := 42) (by decide +kernel))) (by decide +kernel)
theorem q4_43 : Cond.selects "JokePump" ⟨"JokePump", "laughBits", "(II)I"⟩ ⟨"JokePump", "laughBits", "(II)I"⟩ ∈ lw_g := lw_gm (tin4 (List.mem_of_getElem? (i := 43) (by decide +kernel))) (by decide +kernel)
theorem q4_44 : Cond.code ⟨"JokePump", "laughBits", "(II)I"⟩ prog_1_method_21_code 3 (some .int) ∈ lw_g := lw_gm (tin4 (List.mem_of_getElem? (i := 44) (by decide +kernel))) (by decide +kernel)
theorem lk_L_158 : LkV RL 158 yX7_laughBits cX7_laughBits 3 (some .int) 2 := LkV_of q4_41 q4_42 q4_43 q1_1 q4_44 ⟨by decide, by decide, by decide +kernel⟩
theorem q4_45 : Cond.methodLink "JokePumpLaw" 161 ⟨"JokePump", "fullest", "(I)I"⟩ ∈ lw_g := lw_gm (tin4 (List.mem_of_getElem? (i := 45) (by decide +kernel))) (by decide +kernel)
theorem q4_46 : Cond.instanceMethod ⟨"JokePump", "fullest", "(I)I"⟩ ∈ lw_g := lw_gm (tin4 (List.mem_of_getElem? (i := 46) (by decide +kernel))) (by decide +kernel)
theorem q4_47 : Cond.selects "JokePump" ⟨"JokePump", "fullest", "(I)I"⟩ ⟨"JokePump", "fullest", "(I)I"⟩ ∈ lw_g := lw_gm (tin4 (List.mem_of_getElem? (i := 47) (by decide +kernel))) (by decide +kernel)
theorem q4_48 : Cond.code ⟨"JokePump", "fullest", "(I)I"⟩ prog_1_method_19_code 3 (some .int) ∈ lw_g := lw_gm (tin4 (List.mem_of_getElem? (i := 48) (by decide +kernel))) (by decide +kernel)
theorem lk_L_161 : LkV RL 161 yX7_fullest cX7_fullest 3 (some .int) 1 := LkV_of q4_45 q4_46 q4_47 q1_1 q4_48 ⟨by decide, by decide, by decide +kernel⟩
theorem q4_57 : Cond.methodLink "JokePumpLaw" 164 ⟨"JokePump", "wholeLaughs", "()I"⟩ ∈ lw_g := lw_gm (tin4 (List.mem_of_getElem? (i := 57) (by decide +kernel))) (by decide +kernel)
theorem q4_58 : Cond.instanceMethod ⟨"JokePump", "wholeLaughs", "()I"⟩ ∈ lw_g := lw_gm (tin4 (List.mem_of_getElem? (i := 58) (by decide +kernel))) (by decide +kernel)
theorem q4_59 : Cond.selects "JokePump" ⟨"JokePump", "wholeLaughs", "()I"⟩ ⟨"JokePump", "wholeLaughs", "()I"⟩ ∈ lw_g := lw_gm (tin4 (List.mem_of_getElem? (i := 59) (by decide +kernel))) (by decide +kernel)
theorem q4_60 : Cond.code ⟨"JokePump", "wholeLaughs", "()I"⟩ prog_1_method_24_code 1 (some .int) ∈ lw_g := lw_gm (tin4 (List.mem_of_getElem? (i := 60) (by decide +kernel))) (by decide +kernel)
theorem lk_L_164 : LkV RL 164 yX7_wholeLaughs cX7_wholeLaughs 1 (some .int) 0 := LkV_of q4_57 q4_58 q4_59 q1_1 q4_60 ⟨by decide, by decide, by decide +kernel⟩
theorem q2_133 : Cond.methodLink "JokePumpLaw" 168 ⟨"JokePumpLaw", "cell", "([II)I"⟩ ∈ lw_g := lw_gm (tin2 (List.mem_of_getElem? (i := 133) (by decide +kernel))) (by decide +kernel)
theorem q2_134 : Cond.static ⟨"JokePumpLaw", "cell", "([II)I"⟩ ∈ lw_g := lw_gm (tin2 (List.mem_of_getElem? (i := 134) (by decide +kernel))) (by decide +kernel)
theorem q2_135 : Cond.code ⟨"JokePumpLaw", "cell", "([II)I"⟩ method_2_code 2 (some .int) ∈ lw_g := lw_gm (tin2 (List.mem_of_getElem? (i := 135) (by decide +kernel))) (by decide +kernel)
theorem lk_L_168 : LkS RL 168 yL_cell cL_cell 2 (some .int) 2 := LkS_of q2_133 q2_134 q1_0 q2_135 ⟨by decide, by decide, by decide +kernel⟩
theorem q2_198 : Cond.methodLink "JokePumpLaw" 172 ⟨"JokePumpLaw", "acts", "(LJokePump;I)I"⟩ ∈ lw_g := lw_gm (tin2 (List.mem_of_getElem? (i := 198) (by decide +kernel))) (by decide +kernel)
theorem q2_199 : Cond.static ⟨"JokePumpLaw", "acts", "(LJokePump;I)I"⟩ ∈ lw_g := lw_gm (tin2 (List.mem_of_getElem? (i := 199) (by decide +kernel))) (by decide +kernel)
theorem q2_200 : Cond.code ⟨"JokePumpLaw", "acts", "(LJokePump;I)I"⟩ method_6_code 4 (some .int) ∈ lw_g := lw_gm (tin2 (List.mem_of_getElem? (i := 200) (by decide +kernel))) (by decide +kernel)
theorem lk_L_172 : LkS RL 172 yL_acts cL_acts 4 (some .int) 2 := LkS_of q2_198 q2_199 q1_0 q2_200 ⟨by decide, by decide, by decide +kernel⟩
theorem q2_112 : Cond.methodLink "JokePumpLaw" 176 ⟨"JokePump", "save", "()I"⟩ ∈ lw_g := lw_gm (tin2 (List.mem_of_getElem? (i := 112) (by decide +kernel))) (by decide +kernel)
theorem q2_113 : Cond.instanceMethod ⟨"JokePump", "save", "()I"⟩ ∈ lw_g := lw_gm (tin2 (List.mem_of_getElem? (i := 113) (by decide +kernel))) (by decide +kernel)
theorem q2_114 : Cond.selects "JokePump" ⟨"JokePump", "save", "()I"⟩ ⟨"JokePump", "save", "()I"⟩ ∈ lw_g := lw_gm (tin2 (List.mem_of_getElem? (i := 114) (by decide +kernel))) (by decide +kernel)
theorem q2_115 : Cond.code ⟨"JokePump", "save", "()I"⟩ prog_1_method_12_code 1 (some .int) ∈ lw_g := lw_gm (tin2 (List.mem_of_getElem? (i := 115) (by decide +kernel))) (by decide +kernel)
theorem lk_L_176 : LkV RL 176 yX7_save cX7_save 1 (some .int) 0 := LkV_of q2_112 q2_113 q2_114 q1_1 q2_115 ⟨by decide, by decide, by decide +kernel⟩
theorem q2_117 : Cond.methodLink "JokePumpLaw" 179 ⟨"JokePump", "restore", "()I"⟩ ∈ lw_g := lw_gm (tin2 (List.mem_of_getElem? (i := 117) (by decide +kernel))) (by decide +kernel)
theorem q2_118 : Cond.instanceMethod ⟨"JokePump", "restore", "()I"⟩ ∈ lw_g := lw_gm (tin2 (List.mem_of_getElem? (i := 118) (by decide +kernel))) (by decide +kernel)
theorem q2_119 : Cond.selects "JokePump" ⟨"JokePump", "restore", "()I"⟩ ⟨"JokePump", "restore", "()I"⟩ ∈ lw_g := lw_gm (tin2 (List.mem_of_getElem? (i := 119) (by decide +kernel))) (by decide +kernel)
theorem q2_120 : Cond.code ⟨"JokePump", "restore", "()I"⟩ prog_1_method_13_code 1 (some .int) ∈ lw_g := lw_gm (tin2 (List.mem_of_getElem? (i := 120) (by decide +kernel))) (by decide +kernel)
theorem lk_L_179 : LkV RL 179 yX7_restore cX7_restore 1 (some .int) 0 := LkV_of q2_117 q2_118 q2_119 q1_1 q2_120 ⟨by decide, by decide, by decide +kernel⟩
theorem q3_191 : Cond.methodLink "JokePumpLaw" 182 ⟨"JokePumpLaw", "fits", "(LJokePump;I)Z"⟩ ∈ lw_g := lw_gm (tin3 (List.mem_of_getElem? (i := 191) (by decide +kernel))) (by decide +kernel)
theorem q3_192 : Cond.static ⟨"JokePumpLaw", "fits", "(LJokePump;I)Z"⟩ ∈ lw_g := lw_gm (tin3 (List.mem_of_getElem? (i := 192) (by decide +kernel))) (by decide +kernel)
theorem q3_193 : Cond.code ⟨"JokePumpLaw", "fits", "(LJokePump;I)Z"⟩ method_10_code 4 (some .boolean) ∈ lw_g := lw_gm (tin3 (List.mem_of_getElem? (i := 193) (by decide +kernel))) (by decide +kernel)
theorem lk_L_182 : LkS RL 182 yL_fits cL_fits 4 (some .boolean) 2 := LkS_of q3_191 q3_192 q1_0 q3_193 ⟨by decide, by decide, by decide +kernel⟩
theorem q2_29 : Cond.methodLink "JokePump$History" 25 ⟨"JokePump$History", "slot", "()LJokePump$State;"⟩ ∈ lw_g := lw_gm (tin2 (List.mem_of_getElem? (i := 29) (by decide +kernel))) (by decide +kernel)
theorem q2_31 : Cond.instanceMethod ⟨"JokePump$History", "slot", "()LJokePump$State;"⟩ ∈ lw_g := lw_gm (tin2 (List.mem_of_getElem? (i := 31) (by decide +kernel))) (by decide +kernel)
theorem qs_0 : Cond.selects "JokePump$History" ⟨"JokePump$History", "slot", "()LJokePump$State;"⟩ ⟨"JokePump$History", "slot", "()LJokePump$State;"⟩ ∈ lw_g := lw_gm (tinS (q := (⟨"JokePump$History", "slot", "()LJokePump$State;"⟩, 3)) (List.mem_of_getElem? (i := 0) (by decide +kernel))) (by decide +kernel)
theorem q1_6 : Cond.initialized "JokePump$History" ∈ lw_g := lw_gm (tin1 (List.mem_of_getElem? (i := 6) (by decide +kernel))) (by decide +kernel)
theorem q2_32 : Cond.code ⟨"JokePump$History", "slot", "()LJokePump$State;"⟩ prog_2_method_7_code 1 (some (.object "JokePump$State")) ∈ lw_g := lw_gm (tin2 (List.mem_of_getElem? (i := 32) (by decide +kernel))) (by decide +kernel)
theorem lk_X0_25 : LkV RX0 25 yX0_slot cX0_slot 1 (some (.object "JokePump$State")) 0 := LkV_of q2_29 q2_31 qs_0 q1_6 q2_32 ⟨by decide, by decide, by decide +kernel⟩
theorem q2_33 : Cond.methodLink "JokePump$History" 29 ⟨"JokePump$State", "copy", "(LJokePump$State;LJokePump$State;)V"⟩ ∈ lw_g := lw_gm (tin2 (List.mem_of_getElem? (i := 33) (by decide +kernel))) (by decide +kernel)
theorem q2_34 : Cond.static ⟨"JokePump$State", "copy", "(LJokePump$State;LJokePump$State;)V"⟩ ∈ lw_g := lw_gm (tin2 (List.mem_of_getElem? (i := 34) (by decide +kernel))) (by decide +kernel)
theorem q1_2 : Cond.initialized "JokePump$State" ∈ lw_g := lw_gm (tin1 (List.mem_of_getElem? (i := 2) (by decide +kernel))) (by decide +kernel)
theorem q2_35 : Cond.code ⟨"JokePump$State", "copy", "(LJokePump$State;LJokePump$State;)V"⟩ prog_6_method_7_code 2 (none : Option Jvm.ClassFile.FieldType) ∈ lw_g := lw_gm (tin2 (List.mem_of_getElem? (i := 35) (by decide +kernel))) (by decide +kernel)
theorem lk_X0_29 : LkS RX0 29 yX4_copy cX4_copy 2 none 2 := LkS_of q2_33 q2_34 q1_2 q2_35 ⟨by decide, by decide, by decide +kernel⟩
theorem q2_94 : Cond.methodLink "JokePump$Jokes" 36 ⟨"JokePump$Row", "put", "(II)V"⟩ ∈ lw_g := lw_gm (tin2 (List.mem_of_getElem? (i := 94) (by decide +kernel))) (by decide +kernel)
theorem q1_112 : Cond.instanceMethod ⟨"JokePump$Row", "put", "(II)V"⟩ ∈ lw_g := lw_gm (tin1 (List.mem_of_getElem? (i := 112) (by decide +kernel))) (by decide +kernel)
theorem q1_113 : Cond.selects "JokePump$Row" ⟨"JokePump$Row", "put", "(II)V"⟩ ⟨"JokePump$Row", "put", "(II)V"⟩ ∈ lw_g := lw_gm (tin1 (List.mem_of_getElem? (i := 113) (by decide +kernel))) (by decide +kernel)
theorem q1_4 : Cond.initialized "JokePump$Row" ∈ lw_g := lw_gm (tin1 (List.mem_of_getElem? (i := 4) (by decide +kernel))) (by decide +kernel)
theorem q1_114 : Cond.code ⟨"JokePump$Row", "put", "(II)V"⟩ prog_5_method_3_code 3 (none : Option Jvm.ClassFile.FieldType) ∈ lw_g := lw_gm (tin1 (List.mem_of_getElem? (i := 114) (by decide +kernel))) (by decide +kernel)
theorem lk_X1_36 : LkV RX1 36 yX3_put cX3_put 3 none 2 := LkV_of q2_94 q1_112 q1_113 q1_4 q1_114 ⟨by decide, by decide, by decide +kernel⟩
theorem q2_226 : Cond.methodLink "JokePump$Jokes" 40 ⟨"JokePump$Jokes", "has", "(I)Z"⟩ ∈ lw_g := lw_gm (tin2 (List.mem_of_getElem? (i := 226) (by decide +kernel))) (by decide +kernel)
theorem q2_150 : Cond.instanceMethod ⟨"JokePump$Jokes", "has", "(I)Z"⟩ ∈ lw_g := lw_gm (tin2 (List.mem_of_getElem? (i := 150) (by decide +kernel))) (by decide +kernel)
theorem q2_151 : Cond.selects "JokePump$Jokes" ⟨"JokePump$Jokes", "has", "(I)Z"⟩ ⟨"JokePump$Jokes", "has", "(I)Z"⟩ ∈ lw_g := lw_gm (tin2 (List.mem_of_getElem? (i := 151) (by decide +kernel))) (by decide +kernel)
theorem q1_3 : Cond.initialized "JokePump$Jokes" ∈ lw_g := lw_gm (tin1 (List.mem_of_getElem? (i := 3) (by decide +kernel))) (by decide +kernel)
theorem q2_152 : Cond.code ⟨"JokePump$Jokes", "has", "(I)Z"⟩ prog_3_method_2_code 2 (some .boolean) ∈ lw_g := lw_gm (tin2 (List.mem_of_getElem? (i := 152) (by decide +kernel))) (by decide +kernel)
theorem lk_X1_40 : LkV RX1 40 yX1_has cX1_has 2 (some .boolean) 1 := LkV_of q2_226 q2_150 q2_151 q1_3 q2_152 ⟨by decide, by decide, by decide +kernel⟩
theorem q2_227 : Cond.methodLink "JokePump$Jokes" 44 ⟨"JokePump$Row", "takeOut", "(I)V"⟩ ∈ lw_g := lw_gm (tin2 (List.mem_of_getElem? (i := 227) (by decide +kernel))) (by decide +kernel)
theorem q2_228 : Cond.instanceMethod ⟨"JokePump$Row", "takeOut", "(I)V"⟩ ∈ lw_g := lw_gm (tin2 (List.mem_of_getElem? (i := 228) (by decide +kernel))) (by decide +kernel)
theorem q2_229 : Cond.selects "JokePump$Row" ⟨"JokePump$Row", "takeOut", "(I)V"⟩ ⟨"JokePump$Row", "takeOut", "(I)V"⟩ ∈ lw_g := lw_gm (tin2 (List.mem_of_getElem? (i := 229) (by decide +kernel))) (by decide +kernel)
theorem q2_230 : Cond.code ⟨"JokePump$Row", "takeOut", "(I)V"⟩ prog_5_method_4_code 3 (none : Option Jvm.ClassFile.FieldType) ∈ lw_g := lw_gm (tin2 (List.mem_of_getElem? (i := 230) (by decide +kernel))) (by decide +kernel)
theorem lk_X1_44 : LkV RX1 44 yX3_takeOut cX3_takeOut 3 none 1 := LkV_of q2_227 q2_228 q2_229 q1_4 q2_230 ⟨by decide, by decide, by decide +kernel⟩
theorem q2_77 : Cond.methodLink "JokePump$Jokes" 47 ⟨"JokePump$Row", "at", "(I)I"⟩ ∈ lw_g := lw_gm (tin2 (List.mem_of_getElem? (i := 77) (by decide +kernel))) (by decide +kernel)
theorem q2_66 : Cond.instanceMethod ⟨"JokePump$Row", "at", "(I)I"⟩ ∈ lw_g := lw_gm (tin2 (List.mem_of_getElem? (i := 66) (by decide +kernel))) (by decide +kernel)
theorem q2_67 : Cond.selects "JokePump$Row" ⟨"JokePump$Row", "at", "(I)I"⟩ ⟨"JokePump$Row", "at", "(I)I"⟩ ∈ lw_g := lw_gm (tin2 (List.mem_of_getElem? (i := 67) (by decide +kernel))) (by decide +kernel)
theorem q2_68 : Cond.code ⟨"JokePump$Row", "at", "(I)I"⟩ prog_5_method_2_code 2 (some .int) ∈ lw_g := lw_gm (tin2 (List.mem_of_getElem? (i := 68) (by decide +kernel))) (by decide +kernel)
theorem lk_X1_47 : LkV RX1 47 yX3_at cX3_at 2 (some .int) 1 := LkV_of q2_77 q2_66 q2_67 q1_4 q2_68 ⟨by decide, by decide, by decide +kernel⟩
theorem q2_86 : Cond.methodLink "JokePump$Jokes" 51 ⟨"JokePump$Jokes", "countWithin", "(II)I"⟩ ∈ lw_g := lw_gm (tin2 (List.mem_of_getElem? (i := 86) (by decide +kernel))) (by decide +kernel)
theorem q2_87 : Cond.instanceMethod ⟨"JokePump$Jokes", "countWithin", "(II)I"⟩ ∈ lw_g := lw_gm (tin2 (List.mem_of_getElem? (i := 87) (by decide +kernel))) (by decide +kernel)
theorem q2_88 : Cond.selects "JokePump$Jokes" ⟨"JokePump$Jokes", "countWithin", "(II)I"⟩ ⟨"JokePump$Jokes", "countWithin", "(II)I"⟩ ∈ lw_g := lw_gm (tin2 (List.mem_of_getElem? (i := 88) (by decide +kernel))) (by decide +kernel)
theorem q2_89 : Cond.code ⟨"JokePump$Jokes", "countWithin", "(II)I"⟩ prog_3_method_8_code 5 (some .int) ∈ lw_g := lw_gm (tin2 (List.mem_of_getElem? (i := 89) (by decide +kernel))) (by decide +kernel)
theorem lk_X1_51 : LkV RX1 51 yX1_countWithin cX1_countWithin 5 (some .int) 2 := LkV_of q2_86 q2_87 q2_88 q1_3 q2_89 ⟨by decide, by decide, by decide +kernel⟩
theorem q2_39 : Cond.methodLink "JokePump$Jokes" 55 ⟨"JokePump$Row", "copy", "(LJokePump$Row;LJokePump$Row;)V"⟩ ∈ lw_g := lw_gm (tin2 (List.mem_of_getElem? (i := 39) (by decide +kernel))) (by decide +kernel)
theorem q2_40 : Cond.static ⟨"JokePump$Row", "copy", "(LJokePump$Row;LJokePump$Row;)V"⟩ ∈ lw_g := lw_gm (tin2 (List.mem_of_getElem? (i := 40) (by decide +kernel))) (by decide +kernel)
theorem q2_41 : Cond.code ⟨"JokePump$Row", "copy", "(LJokePump$Row;LJokePump$Row;)V"⟩ prog_5_method_5_code 3 (none : Option Jvm.ClassFile.FieldType) ∈ lw_g := lw_gm (tin2 (List.mem_of_getElem? (i := 41) (by decide +kernel))) (by decide +kernel)
theorem lk_X1_55 : LkS RX1 55 yX3_copy cX3_copy 3 none 2 := LkS_of q2_39 q2_40 q1_4 q2_41 ⟨by decide, by decide, by decide +kernel⟩
theorem q3_93 : Cond.methodLink "JokePump$Reader" 30 ⟨"JokePump$Reader", "takeCommand", "(LJokePump$Strip;I)Z"⟩ ∈ lw_g := lw_gm (tin3 (List.mem_of_getElem? (i := 93) (by decide +kernel))) (by decide +kernel)
theorem q3_95 : Cond.instanceMethod ⟨"JokePump$Reader", "takeCommand", "(LJokePump$Strip;I)Z"⟩ ∈ lw_g := lw_gm (tin3 (List.mem_of_getElem? (i := 95) (by decide +kernel))) (by decide +kernel)
theorem qs_11 : Cond.selects "JokePump$Reader" ⟨"JokePump$Reader", "takeCommand", "(LJokePump$Strip;I)Z"⟩ ⟨"JokePump$Reader", "takeCommand", "(LJokePump$Strip;I)Z"⟩ ∈ lw_g := lw_gm (tinS (q := (⟨"JokePump$Reader", "takeCommand", "(LJokePump$Strip;I)Z"⟩, 4)) (List.mem_of_getElem? (i := 11) (by decide +kernel))) (by decide +kernel)
theorem q1_8 : Cond.initialized "JokePump$Reader" ∈ lw_g := lw_gm (tin1 (List.mem_of_getElem? (i := 8) (by decide +kernel))) (by decide +kernel)
theorem q3_96 : Cond.code ⟨"JokePump$Reader", "takeCommand", "(LJokePump$Strip;I)Z"⟩ prog_4_method_4_code 4 (some .boolean) ∈ lw_g := lw_gm (tin3 (List.mem_of_getElem? (i := 96) (by decide +kernel))) (by decide +kernel)
theorem lk_X2_30 : LkV RX2 30 yX2_takeCommand cX2_takeCommand 4 (some .boolean) 2 := LkV_of q3_93 q3_95 qs_11 q1_8 q3_96 ⟨by decide, by decide, by decide +kernel⟩
theorem q3_114 : Cond.methodLink "JokePump$Reader" 39 ⟨"JokePump$Strip", "signAt", "(I)I"⟩ ∈ lw_g := lw_gm (tin3 (List.mem_of_getElem? (i := 114) (by decide +kernel))) (by decide +kernel)
theorem q3_115 : Cond.instanceMethod ⟨"JokePump$Strip", "signAt", "(I)I"⟩ ∈ lw_g := lw_gm (tin3 (List.mem_of_getElem? (i := 115) (by decide +kernel))) (by decide +kernel)
theorem q3_116 : Cond.selects "JokePump$Strip" ⟨"JokePump$Strip", "signAt", "(I)I"⟩ ⟨"JokePump$Strip", "signAt", "(I)I"⟩ ∈ lw_g := lw_gm (tin3 (List.mem_of_getElem? (i := 116) (by decide +kernel))) (by decide +kernel)
theorem q1_7 : Cond.initialized "JokePump$Strip" ∈ lw_g := lw_gm (tin1 (List.mem_of_getElem? (i := 7) (by decide +kernel))) (by decide +kernel)
theorem q3_117 : Cond.code ⟨"JokePump$Strip", "signAt", "(I)I"⟩ prog_7_method_5_code 2 (some .int) ∈ lw_g := lw_gm (tin3 (List.mem_of_getElem? (i := 117) (by decide +kernel))) (by decide +kernel)
theorem lk_X2_39 : LkV RX2 39 yX5_signAt cX5_signAt 2 (some .int) 1 := LkV_of q3_114 q3_115 q3_116 q1_7 q3_117 ⟨by decide, by decide, by decide +kernel⟩
theorem q3_139 : Cond.methodLink "JokePump$Reader" 43 ⟨"JokePump$Row", "at", "(I)I"⟩ ∈ lw_g := lw_gm (tin3 (List.mem_of_getElem? (i := 139) (by decide +kernel))) (by decide +kernel)
theorem lk_X2_43 : LkV RX2 43 yX3_at cX3_at 2 (some .int) 1 := LkV_of q3_139 q2_66 q2_67 q1_4 q2_68 ⟨by decide, by decide, by decide +kernel⟩
theorem q3_97 : Cond.methodLink "JokePump$Reader" 46 ⟨"JokePump$Reader", "formOf", "(I)Ljava/lang/String;"⟩ ∈ lw_g := lw_gm (tin3 (List.mem_of_getElem? (i := 97) (by decide +kernel))) (by decide +kernel)
theorem q3_98 : Cond.static ⟨"JokePump$Reader", "formOf", "(I)Ljava/lang/String;"⟩ ∈ lw_g := lw_gm (tin3 (List.mem_of_getElem? (i := 98) (by decide +kernel))) (by decide +kernel)
theorem q3_99 : Cond.code ⟨"JokePump$Reader", "formOf", "(I)Ljava/lang/String;"⟩ prog_4_method_8_code 1 (some (.object "java/lang/String")) ∈ lw_g := lw_gm (tin3 (List.mem_of_getElem? (i := 99) (by decide +kernel))) (by decide +kernel)
theorem lk_X2_46 : LkS RX2 46 yX2_formOf cX2_formOf 1 (some (.object "java/lang/String")) 1 := LkS_of q3_97 q3_98 q1_8 q3_99 ⟨by decide, by decide, by decide +kernel⟩
theorem q3_108 : Cond.methodLink "JokePump$Reader" 50 ⟨"JokePump$Reader", "follow", "(LJokePump$Strip;ILjava/lang/String;)Z"⟩ ∈ lw_g := lw_gm (tin3 (List.mem_of_getElem? (i := 108) (by decide +kernel))) (by decide +kernel)
theorem q3_110 : Cond.instanceMethod ⟨"JokePump$Reader", "follow", "(LJokePump$Strip;ILjava/lang/String;)Z"⟩ ∈ lw_g := lw_gm (tin3 (List.mem_of_getElem? (i := 110) (by decide +kernel))) (by decide +kernel)
theorem qs_12 : Cond.selects "JokePump$Reader" ⟨"JokePump$Reader", "follow", "(LJokePump$Strip;ILjava/lang/String;)Z"⟩ ⟨"JokePump$Reader", "follow", "(LJokePump$Strip;ILjava/lang/String;)Z"⟩ ∈ lw_g := lw_gm (tinS (q := (⟨"JokePump$Reader", "follow", "(LJokePump$Strip;ILjava/lang/String;)Z"⟩, 4)) (List.mem_of_getElem? (i := 12) (by decide +kernel))) (by decide +kernel)
theorem q3_111 : Cond.code ⟨"JokePump$Reader", "follow", "(LJokePump$Strip;ILjava/lang/String;)Z"⟩ prog_4_method_5_code 9 (some .boolean) ∈ lw_g := lw_gm (tin3 (List.mem_of_getElem? (i := 111) (by decide +kernel))) (by decide +kernel)
theorem lk_X2_50 : LkV RX2 50 yX2_follow cX2_follow 9 (some .boolean) 3 := LkV_of q3_108 q3_110 qs_12 q1_8 q3_111 ⟨by decide, by decide, by decide +kernel⟩
theorem q3_125 : Cond.methodLink "JokePump$Reader" 54 ⟨"JokePump$Row", "put", "(II)V"⟩ ∈ lw_g := lw_gm (tin3 (List.mem_of_getElem? (i := 125) (by decide +kernel))) (by decide +kernel)
theorem lk_X2_54 : LkV RX2 54 yX3_put cX3_put 3 none 2 := LkV_of q3_125 q1_112 q1_113 q1_4 q1_114 ⟨by decide, by decide, by decide +kernel⟩
theorem q3_118 : Cond.methodLink "JokePump$Reader" 67 ⟨"JokePump$Reader", "takeNumber", "(LJokePump$Strip;IZI)I"⟩ ∈ lw_g := lw_gm (tin3 (List.mem_of_getElem? (i := 118) (by decide +kernel))) (by decide +kernel)
theorem q3_120 : Cond.instanceMethod ⟨"JokePump$Reader", "takeNumber", "(LJokePump$Strip;IZI)I"⟩ ∈ lw_g := lw_gm (tin3 (List.mem_of_getElem? (i := 120) (by decide +kernel))) (by decide +kernel)
theorem qs_13 : Cond.selects "JokePump$Reader" ⟨"JokePump$Reader", "takeNumber", "(LJokePump$Strip;IZI)I"⟩ ⟨"JokePump$Reader", "takeNumber", "(LJokePump$Strip;IZI)I"⟩ ∈ lw_g := lw_gm (tinS (q := (⟨"JokePump$Reader", "takeNumber", "(LJokePump$Strip;IZI)I"⟩, 4)) (List.mem_of_getElem? (i := 13) (by decide +kernel))) (by decide +kernel)
theorem q3_121 : Cond.code ⟨"JokePump$Reader", "takeNumber", "(LJokePump$Strip;IZI)I"⟩ prog_4_method_6_code 8 (some .int) ∈ lw_g := lw_gm (tin3 (List.mem_of_getElem? (i := 121) (by decide +kernel))) (by decide +kernel)
theorem lk_X2_67 : LkV RX2 67 yX2_takeNumber cX2_takeNumber 8 (some .int) 4 := LkV_of q3_118 q3_120 qs_13 q1_8 q3_121 ⟨by decide, by decide, by decide +kernel⟩
theorem q3_122 : Cond.methodLink "JokePump$Reader" 77 ⟨"JokePump$Reader", "digitAt", "(LJokePump$Strip;I)I"⟩ ∈ lw_g := lw_gm (tin3 (List.mem_of_getElem? (i := 122) (by decide +kernel))) (by decide +kernel)
theorem q3_123 : Cond.static ⟨"JokePump$Reader", "digitAt", "(LJokePump$Strip;I)I"⟩ ∈ lw_g := lw_gm (tin3 (List.mem_of_getElem? (i := 123) (by decide +kernel))) (by decide +kernel)
theorem q3_124 : Cond.code ⟨"JokePump$Reader", "digitAt", "(LJokePump$Strip;I)I"⟩ prog_4_method_7_code 3 (some .int) ∈ lw_g := lw_gm (tin3 (List.mem_of_getElem? (i := 124) (by decide +kernel))) (by decide +kernel)
theorem lk_X2_77 : LkS RX2 77 yX2_digitAt cX2_digitAt 3 (some .int) 2 := LkS_of q3_122 q3_123 q1_8 q3_124 ⟨by decide, by decide, by decide +kernel⟩
theorem q1_111 : Cond.methodLink "JokePump$State" 62 ⟨"JokePump$Row", "put", "(II)V"⟩ ∈ lw_g := lw_gm (tin1 (List.mem_of_getElem? (i := 111) (by decide +kernel))) (by decide +kernel)
theorem lk_X4_62 : LkV RX4 62 yX3_put cX3_put 3 none 2 := LkV_of q1_111 q1_112 q1_113 q1_4 q1_114 ⟨by decide, by decide, by decide +kernel⟩
theorem q3_156 : Cond.methodLink "JokePump$State" 75 ⟨"JokePump$Row", "at", "(I)I"⟩ ∈ lw_g := lw_gm (tin3 (List.mem_of_getElem? (i := 156) (by decide +kernel))) (by decide +kernel)
theorem lk_X4_75 : LkV RX4 75 yX3_at cX3_at 2 (some .int) 1 := LkV_of q3_156 q2_66 q2_67 q1_4 q2_68 ⟨by decide, by decide, by decide +kernel⟩
theorem q3_148 : Cond.methodLink "JokePump$State" 84 ⟨"JokePump$State", "reachBehind", "(II)I"⟩ ∈ lw_g := lw_gm (tin3 (List.mem_of_getElem? (i := 148) (by decide +kernel))) (by decide +kernel)
theorem q3_149 : Cond.static ⟨"JokePump$State", "reachBehind", "(II)I"⟩ ∈ lw_g := lw_gm (tin3 (List.mem_of_getElem? (i := 149) (by decide +kernel))) (by decide +kernel)
theorem q3_150 : Cond.code ⟨"JokePump$State", "reachBehind", "(II)I"⟩ prog_6_method_2_code 2 (some .int) ∈ lw_g := lw_gm (tin3 (List.mem_of_getElem? (i := 150) (by decide +kernel))) (by decide +kernel)
theorem lk_X4_84 : LkS RX4 84 yX4_reachBehind cX4_reachBehind 2 (some .int) 2 := LkS_of q3_148 q3_149 q1_2 q3_150 ⟨by decide, by decide, by decide +kernel⟩
theorem q3_152 : Cond.methodLink "JokePump$State" 87 ⟨"JokePump$State", "groansOf", "(I)I"⟩ ∈ lw_g := lw_gm (tin3 (List.mem_of_getElem? (i := 152) (by decide +kernel))) (by decide +kernel)
theorem q3_153 : Cond.static ⟨"JokePump$State", "groansOf", "(I)I"⟩ ∈ lw_g := lw_gm (tin3 (List.mem_of_getElem? (i := 153) (by decide +kernel))) (by decide +kernel)
theorem q3_154 : Cond.code ⟨"JokePump$State", "groansOf", "(I)I"⟩ prog_6_method_3_code 1 (some .int) ∈ lw_g := lw_gm (tin3 (List.mem_of_getElem? (i := 154) (by decide +kernel))) (by decide +kernel)
theorem lk_X4_87 : LkS RX4 87 yX4_groansOf cX4_groansOf 1 (some .int) 1 := LkS_of q3_152 q3_153 q1_2 q3_154 ⟨by decide, by decide, by decide +kernel⟩
theorem q3_155 : Cond.methodLink "JokePump$State" 90 ⟨"JokePump$Jokes", "countWithin", "(II)I"⟩ ∈ lw_g := lw_gm (tin3 (List.mem_of_getElem? (i := 155) (by decide +kernel))) (by decide +kernel)
theorem lk_X4_90 : LkV RX4 90 yX1_countWithin cX1_countWithin 5 (some .int) 2 := LkV_of q3_155 q2_87 q2_88 q1_3 q2_89 ⟨by decide, by decide, by decide +kernel⟩
theorem q3_157 : Cond.methodLink "JokePump$State" 93 ⟨"JokePump$Jokes", "byDepth", "(II)I"⟩ ∈ lw_g := lw_gm (tin3 (List.mem_of_getElem? (i := 157) (by decide +kernel))) (by decide +kernel)
theorem q2_176 : Cond.instanceMethod ⟨"JokePump$Jokes", "byDepth", "(II)I"⟩ ∈ lw_g := lw_gm (tin2 (List.mem_of_getElem? (i := 176) (by decide +kernel))) (by decide +kernel)
theorem q2_177 : Cond.selects "JokePump$Jokes" ⟨"JokePump$Jokes", "byDepth", "(II)I"⟩ ⟨"JokePump$Jokes", "byDepth", "(II)I"⟩ ∈ lw_g := lw_gm (tin2 (List.mem_of_getElem? (i := 177) (by decide +kernel))) (by decide +kernel)
theorem q2_178 : Cond.code ⟨"JokePump$Jokes", "byDepth", "(II)I"⟩ prog_3_method_9_code 4 (some .int) ∈ lw_g := lw_gm (tin2 (List.mem_of_getElem? (i := 178) (by decide +kernel))) (by decide +kernel)
theorem lk_X4_93 : LkV RX4 93 yX1_byDepth cX1_byDepth 4 (some .int) 2 := LkV_of q3_157 q2_176 q2_177 q1_3 q2_178 ⟨by decide, by decide, by decide +kernel⟩
theorem q3_158 : Cond.methodLink "JokePump$State" 96 ⟨"JokePump$State", "lift", "(I)V"⟩ ∈ lw_g := lw_gm (tin3 (List.mem_of_getElem? (i := 158) (by decide +kernel))) (by decide +kernel)
theorem q3_160 : Cond.instanceMethod ⟨"JokePump$State", "lift", "(I)V"⟩ ∈ lw_g := lw_gm (tin3 (List.mem_of_getElem? (i := 160) (by decide +kernel))) (by decide +kernel)
theorem qs_17 : Cond.selects "JokePump$State" ⟨"JokePump$State", "lift", "(I)V"⟩ ⟨"JokePump$State", "lift", "(I)V"⟩ ∈ lw_g := lw_gm (tinS (q := (⟨"JokePump$State", "lift", "(I)V"⟩, 12)) (List.mem_of_getElem? (i := 17) (by decide +kernel))) (by decide +kernel)
theorem q3_161 : Cond.code ⟨"JokePump$State", "lift", "(I)V"⟩ prog_6_method_6_code 2 (none : Option Jvm.ClassFile.FieldType) ∈ lw_g := lw_gm (tin3 (List.mem_of_getElem? (i := 161) (by decide +kernel))) (by decide +kernel)
theorem lk_X4_96 : LkV RX4 96 yX4_lift cX4_lift 2 none 1 := LkV_of q3_158 q3_160 qs_17 q1_2 q3_161 ⟨by decide, by decide, by decide +kernel⟩
theorem q3_162 : Cond.methodLink "JokePump$State" 105 ⟨"JokePump$State", "laughOf", "(II)F"⟩ ∈ lw_g := lw_gm (tin3 (List.mem_of_getElem? (i := 162) (by decide +kernel))) (by decide +kernel)
theorem q3_163 : Cond.instanceMethod ⟨"JokePump$State", "laughOf", "(II)F"⟩ ∈ lw_g := lw_gm (tin3 (List.mem_of_getElem? (i := 163) (by decide +kernel))) (by decide +kernel)
theorem q3_164 : Cond.selects "JokePump$State" ⟨"JokePump$State", "laughOf", "(II)F"⟩ ⟨"JokePump$State", "laughOf", "(II)F"⟩ ∈ lw_g := lw_gm (tin3 (List.mem_of_getElem? (i := 164) (by decide +kernel))) (by decide +kernel)
theorem q3_165 : Cond.code ⟨"JokePump$State", "laughOf", "(II)F"⟩ prog_6_method_4_code 4 (some .float) ∈ lw_g := lw_gm (tin3 (List.mem_of_getElem? (i := 165) (by decide +kernel))) (by decide +kernel)
theorem lk_X4_105 : LkV RX4 105 yX4_laughOf cX4_laughOf 4 (some .float) 2 := LkV_of q3_162 q3_163 q3_164 q1_2 q3_165 ⟨by decide, by decide, by decide +kernel⟩
theorem q3_168 : Cond.methodLink "JokePump$State" 109 ⟨"JokePump$Told", "add", "(IIF)V"⟩ ∈ lw_g := lw_gm (tin3 (List.mem_of_getElem? (i := 168) (by decide +kernel))) (by decide +kernel)
theorem q3_169 : Cond.instanceMethod ⟨"JokePump$Told", "add", "(IIF)V"⟩ ∈ lw_g := lw_gm (tin3 (List.mem_of_getElem? (i := 169) (by decide +kernel))) (by decide +kernel)
theorem q3_170 : Cond.selects "JokePump$Told" ⟨"JokePump$Told", "add", "(IIF)V"⟩ ⟨"JokePump$Told", "add", "(IIF)V"⟩ ∈ lw_g := lw_gm (tin3 (List.mem_of_getElem? (i := 170) (by decide +kernel))) (by decide +kernel)
theorem q1_5 : Cond.initialized "JokePump$Told" ∈ lw_g := lw_gm (tin1 (List.mem_of_getElem? (i := 5) (by decide +kernel))) (by decide +kernel)
theorem q3_171 : Cond.code ⟨"JokePump$Told", "add", "(IIF)V"⟩ prog_8_method_2_code 4 (none : Option Jvm.ClassFile.FieldType) ∈ lw_g := lw_gm (tin3 (List.mem_of_getElem? (i := 171) (by decide +kernel))) (by decide +kernel)
theorem lk_X4_109 : LkV RX4 109 yX6_add cX6_add 4 none 3 := LkV_of q3_168 q3_169 q3_170 q1_5 q3_171 ⟨by decide, by decide, by decide +kernel⟩
theorem q3_173 : Cond.methodLink "JokePump$State" 113 ⟨"JokePump$Jokes", "remove", "(I)V"⟩ ∈ lw_g := lw_gm (tin3 (List.mem_of_getElem? (i := 173) (by decide +kernel))) (by decide +kernel)
theorem q2_223 : Cond.instanceMethod ⟨"JokePump$Jokes", "remove", "(I)V"⟩ ∈ lw_g := lw_gm (tin2 (List.mem_of_getElem? (i := 223) (by decide +kernel))) (by decide +kernel)
theorem q2_224 : Cond.selects "JokePump$Jokes" ⟨"JokePump$Jokes", "remove", "(I)V"⟩ ⟨"JokePump$Jokes", "remove", "(I)V"⟩ ∈ lw_g := lw_gm (tin2 (List.mem_of_getElem? (i := 224) (by decide +kernel))) (by decide +kernel)
theorem q2_225 : Cond.code ⟨"JokePump$Jokes", "remove", "(I)V"⟩ prog_3_method_4_code 2 (none : Option Jvm.ClassFile.FieldType) ∈ lw_g := lw_gm (tin2 (List.mem_of_getElem? (i := 225) (by decide +kernel))) (by decide +kernel)
theorem lk_X4_113 : LkV RX4 113 yX1_remove cX1_remove 2 none 1 := LkV_of q3_173 q2_223 q2_224 q1_3 q2_225 ⟨by decide, by decide, by decide +kernel⟩
theorem q2_36 : Cond.methodLink "JokePump$State" 116 ⟨"JokePump$Jokes", "copy", "(LJokePump$Jokes;LJokePump$Jokes;)V"⟩ ∈ lw_g := lw_gm (tin2 (List.mem_of_getElem? (i := 36) (by decide +kernel))) (by decide +kernel)
theorem q2_37 : Cond.static ⟨"JokePump$Jokes", "copy", "(LJokePump$Jokes;LJokePump$Jokes;)V"⟩ ∈ lw_g := lw_gm (tin2 (List.mem_of_getElem? (i := 37) (by decide +kernel))) (by decide +kernel)
theorem q2_38 : Cond.code ⟨"JokePump$Jokes", "copy", "(LJokePump$Jokes;LJokePump$Jokes;)V"⟩ prog_3_method_12_code 2 (none : Option Jvm.ClassFile.FieldType) ∈ lw_g := lw_gm (tin2 (List.mem_of_getElem? (i := 38) (by decide +kernel))) (by decide +kernel)
theorem lk_X4_116 : LkS RX4 116 yX1_copy cX1_copy 2 none 2 := LkS_of q2_36 q2_37 q1_3 q2_38 ⟨by decide, by decide, by decide +kernel⟩
theorem q2_48 : Cond.methodLink "JokePump$State" 120 ⟨"JokePump$Told", "copy", "(LJokePump$Told;LJokePump$Told;)V"⟩ ∈ lw_g := lw_gm (tin2 (List.mem_of_getElem? (i := 48) (by decide +kernel))) (by decide +kernel)
theorem q2_49 : Cond.static ⟨"JokePump$Told", "copy", "(LJokePump$Told;LJokePump$Told;)V"⟩ ∈ lw_g := lw_gm (tin2 (List.mem_of_getElem? (i := 49) (by decide +kernel))) (by decide +kernel)
theorem q2_50 : Cond.code ⟨"JokePump$Told", "copy", "(LJokePump$Told;LJokePump$Told;)V"⟩ prog_8_method_7_code 2 (none : Option Jvm.ClassFile.FieldType) ∈ lw_g := lw_gm (tin2 (List.mem_of_getElem? (i := 50) (by decide +kernel))) (by decide +kernel)
theorem lk_X4_120 : LkS RX4 120 yX6_copy cX6_copy 2 none 2 := LkS_of q2_48 q2_49 q1_5 q2_50 ⟨by decide, by decide, by decide +kernel⟩
theorem q2_54 : Cond.methodLink "JokePump$State" 123 ⟨"JokePump$Row", "copy", "(LJokePump$Row;LJokePump$Row;)V"⟩ ∈ lw_g := lw_gm (tin2 (List.mem_of_getElem? (i := 54) (by decide +kernel))) (by decide +kernel)
theorem lk_X4_123 : LkS RX4 123 yX3_copy cX3_copy 3 none 2 := LkS_of q2_54 q2_40 q1_4 q2_41 ⟨by decide, by decide, by decide +kernel⟩
theorem q3_172 : Cond.methodLink "JokePump$Told" 38 ⟨"JokePump$Row", "put", "(II)V"⟩ ∈ lw_g := lw_gm (tin3 (List.mem_of_getElem? (i := 172) (by decide +kernel))) (by decide +kernel)
theorem lk_X6_38 : LkV RX6 38 yX3_put cX3_put 3 none 2 := LkV_of q3_172 q1_112 q1_113 q1_4 q1_114 ⟨by decide, by decide, by decide +kernel⟩
theorem q3_206 : Cond.methodLink "JokePump$Told" 42 ⟨"JokePump$Told", "laughAt", "(I)F"⟩ ∈ lw_g := lw_gm (tin3 (List.mem_of_getElem? (i := 206) (by decide +kernel))) (by decide +kernel)
theorem q2_159 : Cond.instanceMethod ⟨"JokePump$Told", "laughAt", "(I)F"⟩ ∈ lw_g := lw_gm (tin2 (List.mem_of_getElem? (i := 159) (by decide +kernel))) (by decide +kernel)
theorem q2_160 : Cond.selects "JokePump$Told" ⟨"JokePump$Told", "laughAt", "(I)F"⟩ ⟨"JokePump$Told", "laughAt", "(I)F"⟩ ∈ lw_g := lw_gm (tin2 (List.mem_of_getElem? (i := 160) (by decide +kernel))) (by decide +kernel)
theorem q2_161 : Cond.code ⟨"JokePump$Told", "laughAt", "(I)F"⟩ prog_8_method_3_code 2 (some .float) ∈ lw_g := lw_gm (tin2 (List.mem_of_getElem? (i := 161) (by decide +kernel))) (by decide +kernel)
theorem lk_X6_42 : LkV RX6 42 yX6_laughAt cX6_laughAt 2 (some .float) 1 := LkV_of q3_206 q2_159 q2_160 q1_5 q2_161 ⟨by decide, by decide, by decide +kernel⟩
theorem q2_183 : Cond.methodLink "JokePump$Told" 46 ⟨"JokePump$Row", "at", "(I)I"⟩ ∈ lw_g := lw_gm (tin2 (List.mem_of_getElem? (i := 183) (by decide +kernel))) (by decide +kernel)
theorem lk_X6_46 : LkV RX6 46 yX3_at cX3_at 2 (some .int) 1 := LkV_of q2_183 q2_66 q2_67 q1_4 q2_68 ⟨by decide, by decide, by decide +kernel⟩
theorem q2_51 : Cond.methodLink "JokePump$Told" 50 ⟨"JokePump$Row", "copy", "(LJokePump$Row;LJokePump$Row;)V"⟩ ∈ lw_g := lw_gm (tin2 (List.mem_of_getElem? (i := 51) (by decide +kernel))) (by decide +kernel)
theorem lk_X6_50 : LkS RX6 50 yX3_copy cX3_copy 3 none 2 := LkS_of q2_51 q2_40 q1_4 q2_41 ⟨by decide, by decide, by decide +kernel⟩
theorem q2_25 : Cond.methodLink "JokePump" 63 ⟨"JokePump$History", "prepare", "(LJokePump$State;)V"⟩ ∈ lw_g := lw_gm (tin2 (List.mem_of_getElem? (i := 25) (by decide +kernel))) (by decide +kernel)
theorem q2_26 : Cond.instanceMethod ⟨"JokePump$History", "prepare", "(LJokePump$State;)V"⟩ ∈ lw_g := lw_gm (tin2 (List.mem_of_getElem? (i := 26) (by decide +kernel))) (by decide +kernel)
theorem q2_27 : Cond.selects "JokePump$History" ⟨"JokePump$History", "prepare", "(LJokePump$State;)V"⟩ ⟨"JokePump$History", "prepare", "(LJokePump$State;)V"⟩ ∈ lw_g := lw_gm (tin2 (List.mem_of_getElem? (i := 27) (by decide +kernel))) (by decide +kernel)
theorem q2_28 : Cond.code ⟨"JokePump$History", "prepare", "(LJokePump$State;)V"⟩ prog_2_method_2_code 2 (none : Option Jvm.ClassFile.FieldType) ∈ lw_g := lw_gm (tin2 (List.mem_of_getElem? (i := 28) (by decide +kernel))) (by decide +kernel)
theorem lk_X7_63 : LkV RX7 63 yX0_prepare cX0_prepare 2 none 1 := LkV_of q2_25 q2_26 q2_27 q1_6 q2_28 ⟨by decide, by decide, by decide +kernel⟩
theorem q2_55 : Cond.methodLink "JokePump" 67 ⟨"JokePump", "letCome", "(IIII)I"⟩ ∈ lw_g := lw_gm (tin2 (List.mem_of_getElem? (i := 55) (by decide +kernel))) (by decide +kernel)
theorem q2_57 : Cond.instanceMethod ⟨"JokePump", "letCome", "(IIII)I"⟩ ∈ lw_g := lw_gm (tin2 (List.mem_of_getElem? (i := 57) (by decide +kernel))) (by decide +kernel)
theorem qs_1 : Cond.selects "JokePump" ⟨"JokePump", "letCome", "(IIII)I"⟩ ⟨"JokePump", "letCome", "(IIII)I"⟩ ∈ lw_g := lw_gm (tinS (q := (⟨"JokePump", "letCome", "(IIII)I"⟩, 12)) (List.mem_of_getElem? (i := 1) (by decide +kernel))) (by decide +kernel)
theorem q2_58 : Cond.code ⟨"JokePump", "letCome", "(IIII)I"⟩ prog_1_method_40_code 7 (some .int) ∈ lw_g := lw_gm (tin2 (List.mem_of_getElem? (i := 58) (by decide +kernel))) (by decide +kernel)
theorem lk_X7_67 : LkV RX7 67 yX7_letCome cX7_letCome 7 (some .int) 4 := LkV_of q2_55 q2_57 qs_1 q1_1 q2_58 ⟨by decide, by decide, by decide +kernel⟩
theorem q2_95 : Cond.methodLink "JokePump" 71 ⟨"JokePump", "keepChange", "(I)I"⟩ ∈ lw_g := lw_gm (tin2 (List.mem_of_getElem? (i := 95) (by decide +kernel))) (by decide +kernel)
theorem q2_97 : Cond.instanceMethod ⟨"JokePump", "keepChange", "(I)I"⟩ ∈ lw_g := lw_gm (tin2 (List.mem_of_getElem? (i := 97) (by decide +kernel))) (by decide +kernel)
theorem qs_3 : Cond.selects "JokePump" ⟨"JokePump", "keepChange", "(I)I"⟩ ⟨"JokePump", "keepChange", "(I)I"⟩ ∈ lw_g := lw_gm (tinS (q := (⟨"JokePump", "keepChange", "(I)I"⟩, 12)) (List.mem_of_getElem? (i := 3) (by decide +kernel))) (by decide +kernel)
theorem q2_98 : Cond.code ⟨"JokePump", "keepChange", "(I)I"⟩ prog_1_method_48_code 2 (some .int) ∈ lw_g := lw_gm (tin2 (List.mem_of_getElem? (i := 98) (by decide +kernel))) (by decide +kernel)
theorem lk_X7_71 : LkV RX7 71 yX7_keepChange cX7_keepChange 2 (some .int) 1 := LkV_of q2_95 q2_97 qs_3 q1_1 q2_98 ⟨by decide, by decide, by decide +kernel⟩
theorem q2_209 : Cond.methodLink "JokePump" 75 ⟨"JokePump", "makePrimed", "(I)I"⟩ ∈ lw_g := lw_gm (tin2 (List.mem_of_getElem? (i := 209) (by decide +kernel))) (by decide +kernel)
theorem q2_211 : Cond.instanceMethod ⟨"JokePump", "makePrimed", "(I)I"⟩ ∈ lw_g := lw_gm (tin2 (List.mem_of_getElem? (i := 211) (by decide +kernel))) (by decide +kernel)
theorem qs_5 : Cond.selects "JokePump" ⟨"JokePump", "makePrimed", "(I)I"⟩ ⟨"JokePump", "makePrimed", "(I)I"⟩ ∈ lw_g := lw_gm (tinS (q := (⟨"JokePump", "makePrimed", "(I)I"⟩, 12)) (List.mem_of_getElem? (i := 5) (by decide +kernel))) (by decide +kernel)
theorem q2_212 : Cond.code ⟨"JokePump", "makePrimed", "(I)I"⟩ prog_1_method_41_code 2 (some .int) ∈ lw_g := lw_gm (tin2 (List.mem_of_getElem? (i := 212) (by decide +kernel))) (by decide +kernel)
theorem lk_X7_75 : LkV RX7 75 yX7_makePrimed cX7_makePrimed 2 (some .int) 1 := LkV_of q2_209 q2_211 qs_5 q1_1 q2_212 ⟨by decide, by decide, by decide +kernel⟩
theorem q2_218 : Cond.methodLink "JokePump" 78 ⟨"JokePump", "letGo", "(I)I"⟩ ∈ lw_g := lw_gm (tin2 (List.mem_of_getElem? (i := 218) (by decide +kernel))) (by decide +kernel)
theorem q2_220 : Cond.instanceMethod ⟨"JokePump", "letGo", "(I)I"⟩ ∈ lw_g := lw_gm (tin2 (List.mem_of_getElem? (i := 220) (by decide +kernel))) (by decide +kernel)
theorem qs_6 : Cond.selects "JokePump" ⟨"JokePump", "letGo", "(I)I"⟩ ⟨"JokePump", "letGo", "(I)I"⟩ ∈ lw_g := lw_gm (tinS (q := (⟨"JokePump", "letGo", "(I)I"⟩, 12)) (List.mem_of_getElem? (i := 6) (by decide +kernel))) (by decide +kernel)
theorem q2_221 : Cond.code ⟨"JokePump", "letGo", "(I)I"⟩ prog_1_method_42_code 2 (some .int) ∈ lw_g := lw_gm (tin2 (List.mem_of_getElem? (i := 221) (by decide +kernel))) (by decide +kernel)
theorem lk_X7_78 : LkV RX7 78 yX7_letGo cX7_letGo 2 (some .int) 1 := LkV_of q2_218 q2_220 qs_6 q1_1 q2_221 ⟨by decide, by decide, by decide +kernel⟩
theorem q2_235 : Cond.methodLink "JokePump" 81 ⟨"JokePump", "drainGroans", "(I)I"⟩ ∈ lw_g := lw_gm (tin2 (List.mem_of_getElem? (i := 235) (by decide +kernel))) (by decide +kernel)
theorem q2_237 : Cond.instanceMethod ⟨"JokePump", "drainGroans", "(I)I"⟩ ∈ lw_g := lw_gm (tin2 (List.mem_of_getElem? (i := 237) (by decide +kernel))) (by decide +kernel)
theorem qs_7 : Cond.selects "JokePump" ⟨"JokePump", "drainGroans", "(I)I"⟩ ⟨"JokePump", "drainGroans", "(I)I"⟩ ∈ lw_g := lw_gm (tinS (q := (⟨"JokePump", "drainGroans", "(I)I"⟩, 12)) (List.mem_of_getElem? (i := 7) (by decide +kernel))) (by decide +kernel)
theorem q2_238 : Cond.code ⟨"JokePump", "drainGroans", "(I)I"⟩ prog_1_method_43_code 2 (some .int) ∈ lw_g := lw_gm (tin2 (List.mem_of_getElem? (i := 238) (by decide +kernel))) (by decide +kernel)
theorem lk_X7_81 : LkV RX7 81 yX7_drainGroans cX7_drainGroans 2 (some .int) 1 := LkV_of q2_235 q2_237 qs_7 q1_1 q2_238 ⟨by decide, by decide, by decide +kernel⟩
theorem q3_4 : Cond.methodLink "JokePump" 84 ⟨"JokePump", "setStroke", "(I)I"⟩ ∈ lw_g := lw_gm (tin3 (List.mem_of_getElem? (i := 4) (by decide +kernel))) (by decide +kernel)
theorem q3_6 : Cond.instanceMethod ⟨"JokePump", "setStroke", "(I)I"⟩ ∈ lw_g := lw_gm (tin3 (List.mem_of_getElem? (i := 6) (by decide +kernel))) (by decide +kernel)
theorem qs_8 : Cond.selects "JokePump" ⟨"JokePump", "setStroke", "(I)I"⟩ ⟨"JokePump", "setStroke", "(I)I"⟩ ∈ lw_g := lw_gm (tinS (q := (⟨"JokePump", "setStroke", "(I)I"⟩, 12)) (List.mem_of_getElem? (i := 8) (by decide +kernel))) (by decide +kernel)
theorem q3_7 : Cond.code ⟨"JokePump", "setStroke", "(I)I"⟩ prog_1_method_44_code 3 (some .int) ∈ lw_g := lw_gm (tin3 (List.mem_of_getElem? (i := 7) (by decide +kernel))) (by decide +kernel)
theorem lk_X7_84 : LkV RX7 84 yX7_setStroke cX7_setStroke 3 (some .int) 1 := LkV_of q3_4 q3_6 qs_8 q1_1 q3_7 ⟨by decide, by decide, by decide +kernel⟩
theorem q3_12 : Cond.methodLink "JokePump" 87 ⟨"JokePump", "setBucket", "(II)I"⟩ ∈ lw_g := lw_gm (tin3 (List.mem_of_getElem? (i := 12) (by decide +kernel))) (by decide +kernel)
theorem q3_14 : Cond.instanceMethod ⟨"JokePump", "setBucket", "(II)I"⟩ ∈ lw_g := lw_gm (tin3 (List.mem_of_getElem? (i := 14) (by decide +kernel))) (by decide +kernel)
theorem qs_9 : Cond.selects "JokePump" ⟨"JokePump", "setBucket", "(II)I"⟩ ⟨"JokePump", "setBucket", "(II)I"⟩ ∈ lw_g := lw_gm (tinS (q := (⟨"JokePump", "setBucket", "(II)I"⟩, 12)) (List.mem_of_getElem? (i := 9) (by decide +kernel))) (by decide +kernel)
theorem q3_15 : Cond.code ⟨"JokePump", "setBucket", "(II)I"⟩ prog_1_method_45_code 4 (some .int) ∈ lw_g := lw_gm (tin3 (List.mem_of_getElem? (i := 15) (by decide +kernel))) (by decide +kernel)
theorem lk_X7_87 : LkV RX7 87 yX7_setBucket cX7_setBucket 4 (some .int) 2 := LkV_of q3_12 q3_14 qs_9 q1_1 q3_15 ⟨by decide, by decide, by decide +kernel⟩
theorem q3_20 : Cond.methodLink "JokePump" 91 ⟨"JokePump", "moveTo", "(I)I"⟩ ∈ lw_g := lw_gm (tin3 (List.mem_of_getElem? (i := 20) (by decide +kernel))) (by decide +kernel)
theorem q3_22 : Cond.instanceMethod ⟨"JokePump", "moveTo", "(I)I"⟩ ∈ lw_g := lw_gm (tin3 (List.mem_of_getElem? (i := 22) (by decide +kernel))) (by decide +kernel)
theorem qs_10 : Cond.selects "JokePump" ⟨"JokePump", "moveTo", "(I)I"⟩ ⟨"JokePump", "moveTo", "(I)I"⟩ ∈ lw_g := lw_gm (tinS (q := (⟨"JokePump", "moveTo", "(I)I"⟩, 12)) (List.mem_of_getElem? (i := 10) (by decide +kernel))) (by decide +kernel)
theorem q3_23 : Cond.code ⟨"JokePump", "moveTo", "(I)I"⟩ prog_1_method_46_code 3 (some .int) ∈ lw_g := lw_gm (tin3 (List.mem_of_getElem? (i := 23) (by decide +kernel))) (by decide +kernel)
theorem lk_X7_91 : LkV RX7 91 yX7_moveTo cX7_moveTo 3 (some .int) 1 := LkV_of q3_20 q3_22 qs_10 q1_1 q3_23 ⟨by decide, by decide, by decide +kernel⟩
theorem q3_140 : Cond.methodLink "JokePump" 94 ⟨"JokePump", "makeStrokes", "(I)I"⟩ ∈ lw_g := lw_gm (tin3 (List.mem_of_getElem? (i := 140) (by decide +kernel))) (by decide +kernel)
theorem q3_142 : Cond.instanceMethod ⟨"JokePump", "makeStrokes", "(I)I"⟩ ∈ lw_g := lw_gm (tin3 (List.mem_of_getElem? (i := 142) (by decide +kernel))) (by decide +kernel)
theorem qs_16 : Cond.selects "JokePump" ⟨"JokePump", "makeStrokes", "(I)I"⟩ ⟨"JokePump", "makeStrokes", "(I)I"⟩ ∈ lw_g := lw_gm (tinS (q := (⟨"JokePump", "makeStrokes", "(I)I"⟩, 12)) (List.mem_of_getElem? (i := 16) (by decide +kernel))) (by decide +kernel)
theorem q3_143 : Cond.code ⟨"JokePump", "makeStrokes", "(I)I"⟩ prog_1_method_47_code 4 (some .int) ∈ lw_g := lw_gm (tin3 (List.mem_of_getElem? (i := 143) (by decide +kernel))) (by decide +kernel)
theorem lk_X7_94 : LkV RX7 94 yX7_makeStrokes cX7_makeStrokes 4 (some .int) 1 := LkV_of q3_140 q3_142 qs_16 q1_1 q3_143 ⟨by decide, by decide, by decide +kernel⟩
theorem q3_89 : Cond.methodLink "JokePump" 97 ⟨"JokePump$Reader", "isText", "(LJokePump$Strip;)Z"⟩ ∈ lw_g := lw_gm (tin3 (List.mem_of_getElem? (i := 89) (by decide +kernel))) (by decide +kernel)
theorem q3_90 : Cond.instanceMethod ⟨"JokePump$Reader", "isText", "(LJokePump$Strip;)Z"⟩ ∈ lw_g := lw_gm (tin3 (List.mem_of_getElem? (i := 90) (by decide +kernel))) (by decide +kernel)
theorem q3_91 : Cond.selects "JokePump$Reader" ⟨"JokePump$Reader", "isText", "(LJokePump$Strip;)Z"⟩ ⟨"JokePump$Reader", "isText", "(LJokePump$Strip;)Z"⟩ ∈ lw_g := lw_gm (tin3 (List.mem_of_getElem? (i := 91) (by decide +kernel))) (by decide +kernel)
theorem q3_92 : Cond.code ⟨"JokePump$Reader", "isText", "(LJokePump$Strip;)Z"⟩ prog_4_method_2_code 3 (some .boolean) ∈ lw_g := lw_gm (tin3 (List.mem_of_getElem? (i := 92) (by decide +kernel))) (by decide +kernel)
theorem lk_X7_97 : LkV RX7 97 yX2_isText cX2_isText 3 (some .boolean) 1 := LkV_of q3_89 q3_90 q3_91 q1_8 q3_92 ⟨by decide, by decide, by decide +kernel⟩
theorem q3_127 : Cond.methodLink "JokePump" 101 ⟨"JokePump", "doCommands", "()I"⟩ ∈ lw_g := lw_gm (tin3 (List.mem_of_getElem? (i := 127) (by decide +kernel))) (by decide +kernel)
theorem q3_129 : Cond.instanceMethod ⟨"JokePump", "doCommands", "()I"⟩ ∈ lw_g := lw_gm (tin3 (List.mem_of_getElem? (i := 129) (by decide +kernel))) (by decide +kernel)
theorem qs_14 : Cond.selects "JokePump" ⟨"JokePump", "doCommands", "()I"⟩ ⟨"JokePump", "doCommands", "()I"⟩ ∈ lw_g := lw_gm (tinS (q := (⟨"JokePump", "doCommands", "()I"⟩, 12)) (List.mem_of_getElem? (i := 14) (by decide +kernel))) (by decide +kernel)
theorem q3_130 : Cond.code ⟨"JokePump", "doCommands", "()I"⟩ prog_1_method_50_code 3 (some .int) ∈ lw_g := lw_gm (tin3 (List.mem_of_getElem? (i := 130) (by decide +kernel))) (by decide +kernel)
theorem lk_X7_101 : LkV RX7 101 yX7_doCommands cX7_doCommands 3 (some .int) 0 := LkV_of q3_127 q3_129 qs_14 q1_1 q3_130 ⟨by decide, by decide, by decide +kernel⟩
theorem q3_182 : Cond.methodLink "JokePump" 108 ⟨"JokePump$Strip", "clear", "()V"⟩ ∈ lw_g := lw_gm (tin3 (List.mem_of_getElem? (i := 182) (by decide +kernel))) (by decide +kernel)
theorem q3_183 : Cond.instanceMethod ⟨"JokePump$Strip", "clear", "()V"⟩ ∈ lw_g := lw_gm (tin3 (List.mem_of_getElem? (i := 183) (by decide +kernel))) (by decide +kernel)
theorem q3_184 : Cond.selects "JokePump$Strip" ⟨"JokePump$Strip", "clear", "()V"⟩ ⟨"JokePump$Strip", "clear", "()V"⟩ ∈ lw_g := lw_gm (tin3 (List.mem_of_getElem? (i := 184) (by decide +kernel))) (by decide +kernel)
theorem q3_185 : Cond.code ⟨"JokePump$Strip", "clear", "()V"⟩ prog_7_method_2_code 1 (none : Option Jvm.ClassFile.FieldType) ∈ lw_g := lw_gm (tin3 (List.mem_of_getElem? (i := 185) (by decide +kernel))) (by decide +kernel)
theorem lk_X7_108 : LkV RX7 108 yX5_clear cX5_clear 1 none 0 := LkV_of q3_182 q3_183 q3_184 q1_7 q3_185 ⟨by decide, by decide, by decide +kernel⟩
theorem q2_108 : Cond.methodLink "JokePump" 114 ⟨"JokePump$History", "takeBack", "(LJokePump$State;)V"⟩ ∈ lw_g := lw_gm (tin2 (List.mem_of_getElem? (i := 108) (by decide +kernel))) (by decide +kernel)
theorem q2_109 : Cond.instanceMethod ⟨"JokePump$History", "takeBack", "(LJokePump$State;)V"⟩ ∈ lw_g := lw_gm (tin2 (List.mem_of_getElem? (i := 109) (by decide +kernel))) (by decide +kernel)
theorem q2_110 : Cond.selects "JokePump$History" ⟨"JokePump$History", "takeBack", "(LJokePump$State;)V"⟩ ⟨"JokePump$History", "takeBack", "(LJokePump$State;)V"⟩ ∈ lw_g := lw_gm (tin2 (List.mem_of_getElem? (i := 110) (by decide +kernel))) (by decide +kernel)
theorem q2_111 : Cond.code ⟨"JokePump$History", "takeBack", "(LJokePump$State;)V"⟩ prog_2_method_5_code 2 (none : Option Jvm.ClassFile.FieldType) ∈ lw_g := lw_gm (tin2 (List.mem_of_getElem? (i := 111) (by decide +kernel))) (by decide +kernel)
theorem lk_X7_114 : LkV RX7 114 yX0_takeBack cX0_takeBack 2 none 1 := LkV_of q2_108 q2_109 q2_110 q1_6 q2_111 ⟨by decide, by decide, by decide +kernel⟩
theorem q2_116 : Cond.methodLink "JokePump" 117 ⟨"JokePump$State", "copy", "(LJokePump$State;LJokePump$State;)V"⟩ ∈ lw_g := lw_gm (tin2 (List.mem_of_getElem? (i := 116) (by decide +kernel))) (by decide +kernel)
theorem lk_X7_117 : LkS RX7 117 yX4_copy cX4_copy 2 none 2 := LkS_of q2_116 q2_34 q1_2 q2_35 ⟨by decide, by decide, by decide +kernel⟩
theorem q2_121 : Cond.methodLink "JokePump" 128 ⟨"JokePump$History", "forget", "()V"⟩ ∈ lw_g := lw_gm (tin2 (List.mem_of_getElem? (i := 121) (by decide +kernel))) (by decide +kernel)
theorem q2_122 : Cond.instanceMethod ⟨"JokePump$History", "forget", "()V"⟩ ∈ lw_g := lw_gm (tin2 (List.mem_of_getElem? (i := 122) (by decide +kernel))) (by decide +kernel)
theorem q2_123 : Cond.selects "JokePump$History" ⟨"JokePump$History", "forget", "()V"⟩ ⟨"JokePump$History", "forget", "()V"⟩ ∈ lw_g := lw_gm (tin2 (List.mem_of_getElem? (i := 123) (by decide +kernel))) (by decide +kernel)
theorem q2_124 : Cond.code ⟨"JokePump$History", "forget", "()V"⟩ prog_2_method_6_code 1 (none : Option Jvm.ClassFile.FieldType) ∈ lw_g := lw_gm (tin2 (List.mem_of_getElem? (i := 124) (by decide +kernel))) (by decide +kernel)
theorem lk_X7_128 : LkV RX7 128 yX0_forget cX0_forget 1 none 0 := LkV_of q2_121 q2_122 q2_123 q1_6 q2_124 ⟨by decide, by decide, by decide +kernel⟩
theorem q2_149 : Cond.methodLink "JokePump" 131 ⟨"JokePump$Jokes", "has", "(I)Z"⟩ ∈ lw_g := lw_gm (tin2 (List.mem_of_getElem? (i := 149) (by decide +kernel))) (by decide +kernel)
theorem lk_X7_131 : LkV RX7 131 yX1_has cX1_has 2 (some .boolean) 1 := LkV_of q2_149 q2_150 q2_151 q1_3 q2_152 ⟨by decide, by decide, by decide +kernel⟩
theorem q2_65 : Cond.methodLink "JokePump" 139 ⟨"JokePump$Row", "at", "(I)I"⟩ ∈ lw_g := lw_gm (tin2 (List.mem_of_getElem? (i := 65) (by decide +kernel))) (by decide +kernel)
theorem lk_X7_139 : LkV RX7 139 yX3_at cX3_at 2 (some .int) 1 := LkV_of q2_65 q2_66 q2_67 q1_4 q2_68 ⟨by decide, by decide, by decide +kernel⟩
theorem q2_153 : Cond.methodLink "JokePump" 156 ⟨"JokePump$Jokes", "countWithin", "(II)I"⟩ ∈ lw_g := lw_gm (tin2 (List.mem_of_getElem? (i := 153) (by decide +kernel))) (by decide +kernel)
theorem lk_X7_156 : LkV RX7 156 yX1_countWithin cX1_countWithin 5 (some .int) 2 := LkV_of q2_153 q2_87 q2_88 q1_3 q2_89 ⟨by decide, by decide, by decide +kernel⟩
theorem q2_59 : Cond.methodLink "JokePump" 159 ⟨"JokePump", "isWell", "(I)Z"⟩ ∈ lw_g := lw_gm (tin2 (List.mem_of_getElem? (i := 59) (by decide +kernel))) (by decide +kernel)
theorem q2_60 : Cond.static ⟨"JokePump", "isWell", "(I)Z"⟩ ∈ lw_g := lw_gm (tin2 (List.mem_of_getElem? (i := 60) (by decide +kernel))) (by decide +kernel)
theorem q2_61 : Cond.code ⟨"JokePump", "isWell", "(I)Z"⟩ prog_1_method_63_code 1 (some .boolean) ∈ lw_g := lw_gm (tin2 (List.mem_of_getElem? (i := 61) (by decide +kernel))) (by decide +kernel)
theorem lk_X7_159 : LkS RX7 159 yX7_isWell cX7_isWell 1 (some .boolean) 1 := LkS_of q2_59 q2_60 q1_1 q2_61 ⟨by decide, by decide, by decide +kernel⟩
theorem q2_82 : Cond.methodLink "JokePump" 165 ⟨"JokePump$Jokes", "countIn", "(I)I"⟩ ∈ lw_g := lw_gm (tin2 (List.mem_of_getElem? (i := 82) (by decide +kernel))) (by decide +kernel)
theorem q2_83 : Cond.instanceMethod ⟨"JokePump$Jokes", "countIn", "(I)I"⟩ ∈ lw_g := lw_gm (tin2 (List.mem_of_getElem? (i := 83) (by decide +kernel))) (by decide +kernel)
theorem q2_84 : Cond.selects "JokePump$Jokes" ⟨"JokePump$Jokes", "countIn", "(I)I"⟩ ⟨"JokePump$Jokes", "countIn", "(I)I"⟩ ∈ lw_g := lw_gm (tin2 (List.mem_of_getElem? (i := 84) (by decide +kernel))) (by decide +kernel)
theorem q2_85 : Cond.code ⟨"JokePump$Jokes", "countIn", "(I)I"⟩ prog_3_method_7_code 2 (some .int) ∈ lw_g := lw_gm (tin2 (List.mem_of_getElem? (i := 85) (by decide +kernel))) (by decide +kernel)
theorem lk_X7_165 : LkV RX7 165 yX1_countIn cX1_countIn 2 (some .int) 1 := LkV_of q2_82 q2_83 q2_84 q1_3 q2_85 ⟨by decide, by decide, by decide +kernel⟩
theorem q2_171 : Cond.methodLink "JokePump" 168 ⟨"JokePump", "leastDepth", "(I)I"⟩ ∈ lw_g := lw_gm (tin2 (List.mem_of_getElem? (i := 171) (by decide +kernel))) (by decide +kernel)
theorem q2_173 : Cond.instanceMethod ⟨"JokePump", "leastDepth", "(I)I"⟩ ∈ lw_g := lw_gm (tin2 (List.mem_of_getElem? (i := 173) (by decide +kernel))) (by decide +kernel)
theorem qs_4 : Cond.selects "JokePump" ⟨"JokePump", "leastDepth", "(I)I"⟩ ⟨"JokePump", "leastDepth", "(I)I"⟩ ∈ lw_g := lw_gm (tinS (q := (⟨"JokePump", "leastDepth", "(I)I"⟩, 12)) (List.mem_of_getElem? (i := 4) (by decide +kernel))) (by decide +kernel)
theorem q2_174 : Cond.code ⟨"JokePump", "leastDepth", "(I)I"⟩ prog_1_method_53_code 3 (some .int) ∈ lw_g := lw_gm (tin2 (List.mem_of_getElem? (i := 174) (by decide +kernel))) (by decide +kernel)
theorem lk_X7_168 : LkV RX7 168 yX7_leastDepth cX7_leastDepth 3 (some .int) 1 := LkV_of q2_171 q2_173 qs_4 q1_1 q2_174 ⟨by decide, by decide, by decide +kernel⟩
theorem q2_179 : Cond.methodLink "JokePump" 175 ⟨"JokePump$Told", "countFrom", "(I)I"⟩ ∈ lw_g := lw_gm (tin2 (List.mem_of_getElem? (i := 179) (by decide +kernel))) (by decide +kernel)
theorem q2_180 : Cond.instanceMethod ⟨"JokePump$Told", "countFrom", "(I)I"⟩ ∈ lw_g := lw_gm (tin2 (List.mem_of_getElem? (i := 180) (by decide +kernel))) (by decide +kernel)
theorem q2_181 : Cond.selects "JokePump$Told" ⟨"JokePump$Told", "countFrom", "(I)I"⟩ ⟨"JokePump$Told", "countFrom", "(I)I"⟩ ∈ lw_g := lw_gm (tin2 (List.mem_of_getElem? (i := 181) (by decide +kernel))) (by decide +kernel)
theorem q2_182 : Cond.code ⟨"JokePump$Told", "countFrom", "(I)I"⟩ prog_8_method_5_code 4 (some .int) ∈ lw_g := lw_gm (tin2 (List.mem_of_getElem? (i := 182) (by decide +kernel))) (by decide +kernel)
theorem lk_X7_175 : LkV RX7 175 yX6_countFrom cX6_countFrom 4 (some .int) 1 := LkV_of q2_179 q2_180 q2_181 q1_5 q2_182 ⟨by decide, by decide, by decide +kernel⟩
theorem q2_62 : Cond.methodLink "JokePump" 180 ⟨"JokePump", "isWithin", "(III)Z"⟩ ∈ lw_g := lw_gm (tin2 (List.mem_of_getElem? (i := 62) (by decide +kernel))) (by decide +kernel)
theorem q2_63 : Cond.static ⟨"JokePump", "isWithin", "(III)Z"⟩ ∈ lw_g := lw_gm (tin2 (List.mem_of_getElem? (i := 63) (by decide +kernel))) (by decide +kernel)
theorem q2_64 : Cond.code ⟨"JokePump", "isWithin", "(III)Z"⟩ prog_1_method_64_code 3 (some .boolean) ∈ lw_g := lw_gm (tin2 (List.mem_of_getElem? (i := 64) (by decide +kernel))) (by decide +kernel)
theorem lk_X7_180 : LkS RX7 180 yX7_isWithin cX7_isWithin 3 (some .boolean) 3 := LkS_of q2_62 q2_63 q1_1 q2_64 ⟨by decide, by decide, by decide +kernel⟩
theorem q2_175 : Cond.methodLink "JokePump" 187 ⟨"JokePump$Jokes", "byDepth", "(II)I"⟩ ∈ lw_g := lw_gm (tin2 (List.mem_of_getElem? (i := 175) (by decide +kernel))) (by decide +kernel)
theorem lk_X7_187 : LkV RX7 187 yX1_byDepth cX1_byDepth 4 (some .int) 2 := LkV_of q2_175 q2_176 q2_177 q1_3 q2_178 ⟨by decide, by decide, by decide +kernel⟩
theorem q4_32 : Cond.methodLink "JokePump" 190 ⟨"JokePump", "countFunnier", "(I)I"⟩ ∈ lw_g := lw_gm (tin4 (List.mem_of_getElem? (i := 32) (by decide +kernel))) (by decide +kernel)
theorem q4_34 : Cond.instanceMethod ⟨"JokePump", "countFunnier", "(I)I"⟩ ∈ lw_g := lw_gm (tin4 (List.mem_of_getElem? (i := 34) (by decide +kernel))) (by decide +kernel)
theorem qs_23 : Cond.selects "JokePump" ⟨"JokePump", "countFunnier", "(I)I"⟩ ⟨"JokePump", "countFunnier", "(I)I"⟩ ∈ lw_g := lw_gm (tinS (q := (⟨"JokePump", "countFunnier", "(I)I"⟩, 12)) (List.mem_of_getElem? (i := 23) (by decide +kernel))) (by decide +kernel)
theorem q4_35 : Cond.code ⟨"JokePump", "countFunnier", "(I)I"⟩ prog_1_method_54_code 4 (some .int) ∈ lw_g := lw_gm (tin4 (List.mem_of_getElem? (i := 35) (by decide +kernel))) (by decide +kernel)
theorem lk_X7_190 : LkV RX7 190 yX7_countFunnier cX7_countFunnier 4 (some .int) 1 := LkV_of q4_32 q4_34 qs_23 q1_1 q4_35 ⟨by decide, by decide, by decide +kernel⟩
theorem q4_49 : Cond.methodLink "JokePump" 193 ⟨"JokePump", "countFuller", "(I)I"⟩ ∈ lw_g := lw_gm (tin4 (List.mem_of_getElem? (i := 49) (by decide +kernel))) (by decide +kernel)
theorem q4_51 : Cond.instanceMethod ⟨"JokePump", "countFuller", "(I)I"⟩ ∈ lw_g := lw_gm (tin4 (List.mem_of_getElem? (i := 51) (by decide +kernel))) (by decide +kernel)
theorem qs_25 : Cond.selects "JokePump" ⟨"JokePump", "countFuller", "(I)I"⟩ ⟨"JokePump", "countFuller", "(I)I"⟩ ∈ lw_g := lw_gm (tinS (q := (⟨"JokePump", "countFuller", "(I)I"⟩, 12)) (List.mem_of_getElem? (i := 25) (by decide +kernel))) (by decide +kernel)
theorem q4_52 : Cond.code ⟨"JokePump", "countFuller", "(I)I"⟩ prog_1_method_56_code 4 (some .int) ∈ lw_g := lw_gm (tin4 (List.mem_of_getElem? (i := 52) (by decide +kernel))) (by decide +kernel)
theorem lk_X7_193 : LkV RX7 193 yX7_countFuller cX7_countFuller 4 (some .int) 1 := LkV_of q4_49 q4_51 qs_25 q1_1 q4_52 ⟨by decide, by decide, by decide +kernel⟩
theorem q4_40 : Cond.methodLink "JokePump" 199 ⟨"JokePump$State", "laughOf", "(II)F"⟩ ∈ lw_g := lw_gm (tin4 (List.mem_of_getElem? (i := 40) (by decide +kernel))) (by decide +kernel)
theorem lk_X7_199 : LkV RX7 199 yX4_laughOf cX4_laughOf 4 (some .float) 2 := LkV_of q4_40 q3_163 q3_164 q1_2 q3_165 ⟨by decide, by decide, by decide +kernel⟩
theorem q2_162 : Cond.methodLink "JokePump" 203 ⟨"JokePump", "bitsOf", "(F)I"⟩ ∈ lw_g := lw_gm (tin2 (List.mem_of_getElem? (i := 162) (by decide +kernel))) (by decide +kernel)
theorem q2_163 : Cond.static ⟨"JokePump", "bitsOf", "(F)I"⟩ ∈ lw_g := lw_gm (tin2 (List.mem_of_getElem? (i := 163) (by decide +kernel))) (by decide +kernel)
theorem q2_164 : Cond.code ⟨"JokePump", "bitsOf", "(F)I"⟩ prog_1_method_65_code 4 (some .int) ∈ lw_g := lw_gm (tin2 (List.mem_of_getElem? (i := 164) (by decide +kernel))) (by decide +kernel)
theorem lk_X7_203 : LkS RX7 203 yX7_bitsOf cX7_bitsOf 4 (some .int) 1 := LkS_of q2_162 q2_163 q1_1 q2_164 ⟨by decide, by decide, by decide +kernel⟩
theorem q3_202 : Cond.methodLink "JokePump" 211 ⟨"JokePump$Told", "sumAgain", "()F"⟩ ∈ lw_g := lw_gm (tin3 (List.mem_of_getElem? (i := 202) (by decide +kernel))) (by decide +kernel)
theorem q3_203 : Cond.instanceMethod ⟨"JokePump$Told", "sumAgain", "()F"⟩ ∈ lw_g := lw_gm (tin3 (List.mem_of_getElem? (i := 203) (by decide +kernel))) (by decide +kernel)
theorem q3_204 : Cond.selects "JokePump$Told" ⟨"JokePump$Told", "sumAgain", "()F"⟩ ⟨"JokePump$Told", "sumAgain", "()F"⟩ ∈ lw_g := lw_gm (tin3 (List.mem_of_getElem? (i := 204) (by decide +kernel))) (by decide +kernel)
theorem q3_205 : Cond.code ⟨"JokePump$Told", "sumAgain", "()F"⟩ prog_8_method_4_code 3 (some .float) ∈ lw_g := lw_gm (tin3 (List.mem_of_getElem? (i := 205) (by decide +kernel))) (by decide +kernel)
theorem lk_X7_211 : LkV RX7 211 yX6_sumAgain cX6_sumAgain 3 (some .float) 0 := LkV_of q3_202 q3_203 q3_204 q1_5 q3_205 ⟨by decide, by decide, by decide +kernel⟩
theorem q2_158 : Cond.methodLink "JokePump" 218 ⟨"JokePump$Told", "laughAt", "(I)F"⟩ ∈ lw_g := lw_gm (tin2 (List.mem_of_getElem? (i := 158) (by decide +kernel))) (by decide +kernel)
theorem lk_X7_218 : LkV RX7 218 yX6_laughAt cX6_laughAt 2 (some .float) 1 := LkV_of q2_158 q2_159 q2_160 q1_5 q2_161 ⟨by decide, by decide, by decide +kernel⟩
theorem q3_215 : Cond.methodLink "JokePump" 232 ⟨"JokePump$State", "reachBehind", "(II)I"⟩ ∈ lw_g := lw_gm (tin3 (List.mem_of_getElem? (i := 215) (by decide +kernel))) (by decide +kernel)
theorem lk_X7_232 : LkS RX7 232 yX4_reachBehind cX4_reachBehind 2 (some .int) 2 := LkS_of q3_215 q3_149 q1_2 q3_150 ⟨by decide, by decide, by decide +kernel⟩
theorem q3_231 : Cond.methodLink "JokePump" 238 ⟨"JokePump$State", "groansOf", "(I)I"⟩ ∈ lw_g := lw_gm (tin3 (List.mem_of_getElem? (i := 231) (by decide +kernel))) (by decide +kernel)
theorem lk_X7_238 : LkS RX7 238 yX4_groansOf cX4_groansOf 1 (some .int) 1 := LkS_of q3_231 q3_153 q1_2 q3_154 ⟨by decide, by decide, by decide +kernel⟩
theorem q4_14 : Cond.methodLink "JokePump" 249 ⟨"JokePump", "groansToReach", "(II)I"⟩ ∈ lw_g := lw_gm (tin4 (List.mem_of_getElem? (i := 14) (by decide +kernel))) (by decide +kernel)
theorem q4_16 : Cond.instanceMethod ⟨"JokePump", "groansToReach", "(II)I"⟩ ∈ lw_g := lw_gm (tin4 (List.mem_of_getElem? (i := 16) (by decide +kernel))) (by decide +kernel)
theorem qs_22 : Cond.selects "JokePump" ⟨"JokePump", "groansToReach", "(II)I"⟩ ⟨"JokePump", "groansToReach", "(II)I"⟩ ∈ lw_g := lw_gm (tinS (q := (⟨"JokePump", "groansToReach", "(II)I"⟩, 12)) (List.mem_of_getElem? (i := 22) (by decide +kernel))) (by decide +kernel)
theorem q4_17 : Cond.code ⟨"JokePump", "groansToReach", "(II)I"⟩ prog_1_method_58_code 6 (some .int) ∈ lw_g := lw_gm (tin4 (List.mem_of_getElem? (i := 17) (by decide +kernel))) (by decide +kernel)
theorem lk_X7_249 : LkV RX7 249 yX7_groansToReach cX7_groansToReach 6 (some .int) 2 := LkV_of q4_14 q4_16 qs_22 q1_1 q4_17 ⟨by decide, by decide, by decide +kernel⟩
theorem q3_198 : Cond.methodLink "JokePump" 258 ⟨"JokePump", "areLaughsAlike", "()Z"⟩ ∈ lw_g := lw_gm (tin3 (List.mem_of_getElem? (i := 198) (by decide +kernel))) (by decide +kernel)
theorem q3_200 : Cond.instanceMethod ⟨"JokePump", "areLaughsAlike", "()Z"⟩ ∈ lw_g := lw_gm (tin3 (List.mem_of_getElem? (i := 200) (by decide +kernel))) (by decide +kernel)
theorem qs_19 : Cond.selects "JokePump" ⟨"JokePump", "areLaughsAlike", "()Z"⟩ ⟨"JokePump", "areLaughsAlike", "()Z"⟩ ∈ lw_g := lw_gm (tinS (q := (⟨"JokePump", "areLaughsAlike", "()Z"⟩, 12)) (List.mem_of_getElem? (i := 19) (by decide +kernel))) (by decide +kernel)
theorem q3_201 : Cond.code ⟨"JokePump", "areLaughsAlike", "()Z"⟩ prog_1_method_59_code 1 (some .boolean) ∈ lw_g := lw_gm (tin3 (List.mem_of_getElem? (i := 201) (by decide +kernel))) (by decide +kernel)
theorem lk_X7_258 : LkV RX7 258 yX7_areLaughsAlike cX7_areLaughsAlike 1 (some .boolean) 0 := LkV_of q3_198 q3_200 qs_19 q1_1 q3_201 ⟨by decide, by decide, by decide +kernel⟩
theorem q3_207 : Cond.methodLink "JokePump" 262 ⟨"JokePump", "areStrokesAlike", "()Z"⟩ ∈ lw_g := lw_gm (tin3 (List.mem_of_getElem? (i := 207) (by decide +kernel))) (by decide +kernel)
theorem q3_209 : Cond.instanceMethod ⟨"JokePump", "areStrokesAlike", "()Z"⟩ ∈ lw_g := lw_gm (tin3 (List.mem_of_getElem? (i := 209) (by decide +kernel))) (by decide +kernel)
theorem qs_20 : Cond.selects "JokePump" ⟨"JokePump", "areStrokesAlike", "()Z"⟩ ⟨"JokePump", "areStrokesAlike", "()Z"⟩ ∈ lw_g := lw_gm (tinS (q := (⟨"JokePump", "areStrokesAlike", "()Z"⟩, 12)) (List.mem_of_getElem? (i := 20) (by decide +kernel))) (by decide +kernel)
theorem q3_210 : Cond.code ⟨"JokePump", "areStrokesAlike", "()Z"⟩ prog_1_method_60_code 2 (some .boolean) ∈ lw_g := lw_gm (tin3 (List.mem_of_getElem? (i := 210) (by decide +kernel))) (by decide +kernel)
theorem lk_X7_262 : LkV RX7 262 yX7_areStrokesAlike cX7_areStrokesAlike 2 (some .boolean) 0 := LkV_of q3_207 q3_209 qs_20 q1_1 q3_210 ⟨by decide, by decide, by decide +kernel⟩
theorem q3_220 : Cond.methodLink "JokePump" 265 ⟨"JokePump", "areSignsUnknown", "()Z"⟩ ∈ lw_g := lw_gm (tin3 (List.mem_of_getElem? (i := 220) (by decide +kernel))) (by decide +kernel)
theorem q3_222 : Cond.instanceMethod ⟨"JokePump", "areSignsUnknown", "()Z"⟩ ∈ lw_g := lw_gm (tin3 (List.mem_of_getElem? (i := 222) (by decide +kernel))) (by decide +kernel)
theorem qs_21 : Cond.selects "JokePump" ⟨"JokePump", "areSignsUnknown", "()Z"⟩ ⟨"JokePump", "areSignsUnknown", "()Z"⟩ ∈ lw_g := lw_gm (tinS (q := (⟨"JokePump", "areSignsUnknown", "()Z"⟩, 12)) (List.mem_of_getElem? (i := 21) (by decide +kernel))) (by decide +kernel)
theorem q3_223 : Cond.code ⟨"JokePump", "areSignsUnknown", "()Z"⟩ prog_1_method_61_code 2 (some .boolean) ∈ lw_g := lw_gm (tin3 (List.mem_of_getElem? (i := 223) (by decide +kernel))) (by decide +kernel)
theorem lk_X7_265 : LkV RX7 265 yX7_areSignsUnknown cX7_areSignsUnknown 2 (some .boolean) 0 := LkV_of q3_220 q3_222 qs_21 q1_1 q3_223 ⟨by decide, by decide, by decide +kernel⟩
theorem q2_129 : Cond.methodLink "JokePump" 277 ⟨"JokePump$Jokes", "countPrimed", "()I"⟩ ∈ lw_g := lw_gm (tin2 (List.mem_of_getElem? (i := 129) (by decide +kernel))) (by decide +kernel)
theorem q2_130 : Cond.instanceMethod ⟨"JokePump$Jokes", "countPrimed", "()I"⟩ ∈ lw_g := lw_gm (tin2 (List.mem_of_getElem? (i := 130) (by decide +kernel))) (by decide +kernel)
theorem q2_131 : Cond.selects "JokePump$Jokes" ⟨"JokePump$Jokes", "countPrimed", "()I"⟩ ⟨"JokePump$Jokes", "countPrimed", "()I"⟩ ∈ lw_g := lw_gm (tin2 (List.mem_of_getElem? (i := 131) (by decide +kernel))) (by decide +kernel)
theorem q2_132 : Cond.code ⟨"JokePump$Jokes", "countPrimed", "()I"⟩ prog_3_method_10_code 3 (some .int) ∈ lw_g := lw_gm (tin2 (List.mem_of_getElem? (i := 132) (by decide +kernel))) (by decide +kernel)
theorem lk_X7_277 : LkV RX7 277 yX1_countPrimed cX1_countPrimed 3 (some .int) 0 := LkV_of q2_129 q2_130 q2_131 q1_3 q2_132 ⟨by decide, by decide, by decide +kernel⟩
theorem q3_81 : Cond.methodLink "JokePump" 285 ⟨"JokePump$Strip", "putSign", "(C)V"⟩ ∈ lw_g := lw_gm (tin3 (List.mem_of_getElem? (i := 81) (by decide +kernel))) (by decide +kernel)
theorem q3_82 : Cond.instanceMethod ⟨"JokePump$Strip", "putSign", "(C)V"⟩ ∈ lw_g := lw_gm (tin3 (List.mem_of_getElem? (i := 82) (by decide +kernel))) (by decide +kernel)
theorem q3_83 : Cond.selects "JokePump$Strip" ⟨"JokePump$Strip", "putSign", "(C)V"⟩ ⟨"JokePump$Strip", "putSign", "(C)V"⟩ ∈ lw_g := lw_gm (tin3 (List.mem_of_getElem? (i := 83) (by decide +kernel))) (by decide +kernel)
theorem q3_84 : Cond.code ⟨"JokePump$Strip", "putSign", "(C)V"⟩ prog_7_method_3_code 2 (none : Option Jvm.ClassFile.FieldType) ∈ lw_g := lw_gm (tin3 (List.mem_of_getElem? (i := 84) (by decide +kernel))) (by decide +kernel)
theorem lk_X7_285 : LkV RX7 285 yX5_putSign cX5_putSign 2 none 1 := LkV_of q3_81 q3_82 q3_83 q1_7 q3_84 ⟨by decide, by decide, by decide +kernel⟩
theorem q2_69 : Cond.methodLink "JokePump" 295 ⟨"JokePump", "refuse", "(II)I"⟩ ∈ lw_g := lw_gm (tin2 (List.mem_of_getElem? (i := 69) (by decide +kernel))) (by decide +kernel)
theorem q2_71 : Cond.instanceMethod ⟨"JokePump", "refuse", "(II)I"⟩ ∈ lw_g := lw_gm (tin2 (List.mem_of_getElem? (i := 71) (by decide +kernel))) (by decide +kernel)
theorem qs_2 : Cond.selects "JokePump" ⟨"JokePump", "refuse", "(II)I"⟩ ⟨"JokePump", "refuse", "(II)I"⟩ ∈ lw_g := lw_gm (tinS (q := (⟨"JokePump", "refuse", "(II)I"⟩, 12)) (List.mem_of_getElem? (i := 2) (by decide +kernel))) (by decide +kernel)
theorem q2_72 : Cond.code ⟨"JokePump", "refuse", "(II)I"⟩ prog_1_method_49_code 3 (some .int) ∈ lw_g := lw_gm (tin2 (List.mem_of_getElem? (i := 72) (by decide +kernel))) (by decide +kernel)
theorem lk_X7_295 : LkV RX7 295 yX7_refuse cX7_refuse 3 (some .int) 2 := LkV_of q2_69 q2_71 qs_2 q1_1 q2_72 ⟨by decide, by decide, by decide +kernel⟩
theorem q2_73 : Cond.methodLink "JokePump" 298 ⟨"JokePump$Jokes", "withSign", "(I)I"⟩ ∈ lw_g := lw_gm (tin2 (List.mem_of_getElem? (i := 73) (by decide +kernel))) (by decide +kernel)
theorem q2_74 : Cond.instanceMethod ⟨"JokePump$Jokes", "withSign", "(I)I"⟩ ∈ lw_g := lw_gm (tin2 (List.mem_of_getElem? (i := 74) (by decide +kernel))) (by decide +kernel)
theorem q2_75 : Cond.selects "JokePump$Jokes" ⟨"JokePump$Jokes", "withSign", "(I)I"⟩ ⟨"JokePump$Jokes", "withSign", "(I)I"⟩ ∈ lw_g := lw_gm (tin2 (List.mem_of_getElem? (i := 75) (by decide +kernel))) (by decide +kernel)
theorem q2_76 : Cond.code ⟨"JokePump$Jokes", "withSign", "(I)I"⟩ prog_3_method_5_code 3 (some .int) ∈ lw_g := lw_gm (tin2 (List.mem_of_getElem? (i := 76) (by decide +kernel))) (by decide +kernel)
theorem lk_X7_298 : LkV RX7 298 yX1_withSign cX1_withSign 3 (some .int) 1 := LkV_of q2_73 q2_74 q2_75 q1_3 q2_76 ⟨by decide, by decide, by decide +kernel⟩
theorem q2_78 : Cond.methodLink "JokePump" 301 ⟨"JokePump$Jokes", "atDepth", "(II)I"⟩ ∈ lw_g := lw_gm (tin2 (List.mem_of_getElem? (i := 78) (by decide +kernel))) (by decide +kernel)
theorem q2_79 : Cond.instanceMethod ⟨"JokePump$Jokes", "atDepth", "(II)I"⟩ ∈ lw_g := lw_gm (tin2 (List.mem_of_getElem? (i := 79) (by decide +kernel))) (by decide +kernel)
theorem q2_80 : Cond.selects "JokePump$Jokes" ⟨"JokePump$Jokes", "atDepth", "(II)I"⟩ ⟨"JokePump$Jokes", "atDepth", "(II)I"⟩ ∈ lw_g := lw_gm (tin2 (List.mem_of_getElem? (i := 80) (by decide +kernel))) (by decide +kernel)
theorem q2_81 : Cond.code ⟨"JokePump$Jokes", "atDepth", "(II)I"⟩ prog_3_method_6_code 4 (some .int) ∈ lw_g := lw_gm (tin2 (List.mem_of_getElem? (i := 81) (by decide +kernel))) (by decide +kernel)
theorem lk_X7_301 : LkV RX7 301 yX1_atDepth cX1_atDepth 4 (some .int) 2 := LkV_of q2_78 q2_79 q2_80 q1_3 q2_81 ⟨by decide, by decide, by decide +kernel⟩
theorem q2_90 : Cond.methodLink "JokePump" 304 ⟨"JokePump$Jokes", "add", "(IIII)V"⟩ ∈ lw_g := lw_gm (tin2 (List.mem_of_getElem? (i := 90) (by decide +kernel))) (by decide +kernel)
theorem q2_91 : Cond.instanceMethod ⟨"JokePump$Jokes", "add", "(IIII)V"⟩ ∈ lw_g := lw_gm (tin2 (List.mem_of_getElem? (i := 91) (by decide +kernel))) (by decide +kernel)
theorem q2_92 : Cond.selects "JokePump$Jokes" ⟨"JokePump$Jokes", "add", "(IIII)V"⟩ ⟨"JokePump$Jokes", "add", "(IIII)V"⟩ ∈ lw_g := lw_gm (tin2 (List.mem_of_getElem? (i := 92) (by decide +kernel))) (by decide +kernel)
theorem q2_93 : Cond.code ⟨"JokePump$Jokes", "add", "(IIII)V"⟩ prog_3_method_3_code 5 (none : Option Jvm.ClassFile.FieldType) ∈ lw_g := lw_gm (tin2 (List.mem_of_getElem? (i := 93) (by decide +kernel))) (by decide +kernel)
theorem lk_X7_304 : LkV RX7 304 yX1_add cX1_add 5 none 4 := LkV_of q2_90 q2_91 q2_92 q1_3 q2_93 ⟨by decide, by decide, by decide +kernel⟩
theorem q2_213 : Cond.methodLink "JokePump" 308 ⟨"JokePump$Row", "put", "(II)V"⟩ ∈ lw_g := lw_gm (tin2 (List.mem_of_getElem? (i := 213) (by decide +kernel))) (by decide +kernel)
theorem lk_X7_308 : LkV RX7 308 yX3_put cX3_put 3 none 2 := LkV_of q2_213 q1_112 q1_113 q1_4 q1_114 ⟨by decide, by decide, by decide +kernel⟩
theorem q2_222 : Cond.methodLink "JokePump" 312 ⟨"JokePump$Jokes", "remove", "(I)V"⟩ ∈ lw_g := lw_gm (tin2 (List.mem_of_getElem? (i := 222) (by decide +kernel))) (by decide +kernel)
theorem lk_X7_312 : LkV RX7 312 yX1_remove cX1_remove 2 none 1 := LkV_of q2_222 q2_223 q2_224 q1_3 q2_225 ⟨by decide, by decide, by decide +kernel⟩
theorem q3_144 : Cond.methodLink "JokePump" 315 ⟨"JokePump$State", "makeStroke", "()I"⟩ ∈ lw_g := lw_gm (tin3 (List.mem_of_getElem? (i := 144) (by decide +kernel))) (by decide +kernel)
theorem q3_145 : Cond.instanceMethod ⟨"JokePump$State", "makeStroke", "()I"⟩ ∈ lw_g := lw_gm (tin3 (List.mem_of_getElem? (i := 145) (by decide +kernel))) (by decide +kernel)
theorem q3_146 : Cond.selects "JokePump$State" ⟨"JokePump$State", "makeStroke", "()I"⟩ ⟨"JokePump$State", "makeStroke", "()I"⟩ ∈ lw_g := lw_gm (tin3 (List.mem_of_getElem? (i := 146) (by decide +kernel))) (by decide +kernel)
theorem q3_147 : Cond.code ⟨"JokePump$State", "makeStroke", "()I"⟩ prog_6_method_5_code 3 (some .int) ∈ lw_g := lw_gm (tin3 (List.mem_of_getElem? (i := 147) (by decide +kernel))) (by decide +kernel)
theorem lk_X7_315 : LkV RX7 315 yX4_makeStroke cX4_makeStroke 3 (some .int) 0 := LkV_of q3_144 q3_145 q3_146 q1_2 q3_147 ⟨by decide, by decide, by decide +kernel⟩
theorem q2_99 : Cond.methodLink "JokePump" 318 ⟨"JokePump$History", "keep", "()V"⟩ ∈ lw_g := lw_gm (tin2 (List.mem_of_getElem? (i := 99) (by decide +kernel))) (by decide +kernel)
theorem q2_100 : Cond.instanceMethod ⟨"JokePump$History", "keep", "()V"⟩ ∈ lw_g := lw_gm (tin2 (List.mem_of_getElem? (i := 100) (by decide +kernel))) (by decide +kernel)
theorem q2_101 : Cond.selects "JokePump$History" ⟨"JokePump$History", "keep", "()V"⟩ ⟨"JokePump$History", "keep", "()V"⟩ ∈ lw_g := lw_gm (tin2 (List.mem_of_getElem? (i := 101) (by decide +kernel))) (by decide +kernel)
theorem q2_102 : Cond.code ⟨"JokePump$History", "keep", "()V"⟩ prog_2_method_3_code 1 (none : Option Jvm.ClassFile.FieldType) ∈ lw_g := lw_gm (tin2 (List.mem_of_getElem? (i := 102) (by decide +kernel))) (by decide +kernel)
theorem lk_X7_318 : LkV RX7 318 yX0_keep cX0_keep 1 none 0 := LkV_of q2_99 q2_100 q2_101 q1_6 q2_102 ⟨by decide, by decide, by decide +kernel⟩
theorem q3_131 : Cond.methodLink "JokePump" 322 ⟨"JokePump", "doCommand", "(I)I"⟩ ∈ lw_g := lw_gm (tin3 (List.mem_of_getElem? (i := 131) (by decide +kernel))) (by decide +kernel)
theorem q3_133 : Cond.instanceMethod ⟨"JokePump", "doCommand", "(I)I"⟩ ∈ lw_g := lw_gm (tin3 (List.mem_of_getElem? (i := 133) (by decide +kernel))) (by decide +kernel)
theorem qs_15 : Cond.selects "JokePump" ⟨"JokePump", "doCommand", "(I)I"⟩ ⟨"JokePump", "doCommand", "(I)I"⟩ ∈ lw_g := lw_gm (tinS (q := (⟨"JokePump", "doCommand", "(I)I"⟩, 12)) (List.mem_of_getElem? (i := 15) (by decide +kernel))) (by decide +kernel)
theorem q3_134 : Cond.code ⟨"JokePump", "doCommand", "(I)I"⟩ prog_1_method_51_code 4 (some .int) ∈ lw_g := lw_gm (tin3 (List.mem_of_getElem? (i := 134) (by decide +kernel))) (by decide +kernel)
theorem lk_X7_322 : LkV RX7 322 yX7_doCommand cX7_doCommand 4 (some .int) 1 := LkV_of q3_131 q3_133 qs_15 q1_1 q3_134 ⟨by decide, by decide, by decide +kernel⟩
theorem q3_174 : Cond.methodLink "JokePump" 325 ⟨"JokePump$History", "dismiss", "(LJokePump$State;)V"⟩ ∈ lw_g := lw_gm (tin3 (List.mem_of_getElem? (i := 174) (by decide +kernel))) (by decide +kernel)
theorem q3_175 : Cond.instanceMethod ⟨"JokePump$History", "dismiss", "(LJokePump$State;)V"⟩ ∈ lw_g := lw_gm (tin3 (List.mem_of_getElem? (i := 175) (by decide +kernel))) (by decide +kernel)
theorem q3_176 : Cond.selects "JokePump$History" ⟨"JokePump$History", "dismiss", "(LJokePump$State;)V"⟩ ⟨"JokePump$History", "dismiss", "(LJokePump$State;)V"⟩ ∈ lw_g := lw_gm (tin3 (List.mem_of_getElem? (i := 176) (by decide +kernel))) (by decide +kernel)
theorem q3_177 : Cond.code ⟨"JokePump$History", "dismiss", "(LJokePump$State;)V"⟩ prog_2_method_4_code 2 (none : Option Jvm.ClassFile.FieldType) ∈ lw_g := lw_gm (tin3 (List.mem_of_getElem? (i := 177) (by decide +kernel))) (by decide +kernel)
theorem lk_X7_325 : LkV RX7 325 yX0_dismiss cX0_dismiss 2 none 1 := LkV_of q3_174 q3_175 q3_176 q1_6 q3_177 ⟨by decide, by decide, by decide +kernel⟩
theorem q3_178 : Cond.methodLink "JokePump" 328 ⟨"JokePump", "refuseCommand", "(IZ)I"⟩ ∈ lw_g := lw_gm (tin3 (List.mem_of_getElem? (i := 178) (by decide +kernel))) (by decide +kernel)
theorem q3_180 : Cond.instanceMethod ⟨"JokePump", "refuseCommand", "(IZ)I"⟩ ∈ lw_g := lw_gm (tin3 (List.mem_of_getElem? (i := 180) (by decide +kernel))) (by decide +kernel)
theorem qs_18 : Cond.selects "JokePump" ⟨"JokePump", "refuseCommand", "(IZ)I"⟩ ⟨"JokePump", "refuseCommand", "(IZ)I"⟩ ∈ lw_g := lw_gm (tinS (q := (⟨"JokePump", "refuseCommand", "(IZ)I"⟩, 12)) (List.mem_of_getElem? (i := 18) (by decide +kernel))) (by decide +kernel)
theorem q3_181 : Cond.code ⟨"JokePump", "refuseCommand", "(IZ)I"⟩ prog_1_method_52_code 5 (some .int) ∈ lw_g := lw_gm (tin3 (List.mem_of_getElem? (i := 181) (by decide +kernel))) (by decide +kernel)
theorem lk_X7_328 : LkV RX7 328 yX7_refuseCommand cX7_refuseCommand 5 (some .int) 2 := LkV_of q3_178 q3_180 qs_18 q1_1 q3_181 ⟨by decide, by decide, by decide +kernel⟩
theorem q3_135 : Cond.methodLink "JokePump" 332 ⟨"JokePump$Reader", "numberOf", "(II)I"⟩ ∈ lw_g := lw_gm (tin3 (List.mem_of_getElem? (i := 135) (by decide +kernel))) (by decide +kernel)
theorem q3_136 : Cond.instanceMethod ⟨"JokePump$Reader", "numberOf", "(II)I"⟩ ∈ lw_g := lw_gm (tin3 (List.mem_of_getElem? (i := 136) (by decide +kernel))) (by decide +kernel)
theorem q3_137 : Cond.selects "JokePump$Reader" ⟨"JokePump$Reader", "numberOf", "(II)I"⟩ ⟨"JokePump$Reader", "numberOf", "(II)I"⟩ ∈ lw_g := lw_gm (tin3 (List.mem_of_getElem? (i := 137) (by decide +kernel))) (by decide +kernel)
theorem q3_138 : Cond.code ⟨"JokePump$Reader", "numberOf", "(II)I"⟩ prog_4_method_3_code 3 (some .int) ∈ lw_g := lw_gm (tin3 (List.mem_of_getElem? (i := 138) (by decide +kernel))) (by decide +kernel)
theorem lk_X7_332 : LkV RX7 332 yX2_numberOf cX2_numberOf 3 (some .int) 2 := LkV_of q3_135 q3_136 q3_137 q1_8 q3_138 ⟨by decide, by decide, by decide +kernel⟩
theorem q4_36 : Cond.methodLink "JokePump" 338 ⟨"JokePump", "isFunnier", "(II)Z"⟩ ∈ lw_g := lw_gm (tin4 (List.mem_of_getElem? (i := 36) (by decide +kernel))) (by decide +kernel)
theorem q4_38 : Cond.instanceMethod ⟨"JokePump", "isFunnier", "(II)Z"⟩ ∈ lw_g := lw_gm (tin4 (List.mem_of_getElem? (i := 38) (by decide +kernel))) (by decide +kernel)
theorem qs_24 : Cond.selects "JokePump" ⟨"JokePump", "isFunnier", "(II)Z"⟩ ⟨"JokePump", "isFunnier", "(II)Z"⟩ ∈ lw_g := lw_gm (tinS (q := (⟨"JokePump", "isFunnier", "(II)Z"⟩, 12)) (List.mem_of_getElem? (i := 24) (by decide +kernel))) (by decide +kernel)
theorem q4_39 : Cond.code ⟨"JokePump", "isFunnier", "(II)Z"⟩ prog_1_method_55_code 7 (some .boolean) ∈ lw_g := lw_gm (tin4 (List.mem_of_getElem? (i := 39) (by decide +kernel))) (by decide +kernel)
theorem lk_X7_338 : LkV RX7 338 yX7_isFunnier cX7_isFunnier 7 (some .boolean) 2 := LkV_of q4_36 q4_38 qs_24 q1_1 q4_39 ⟨by decide, by decide, by decide +kernel⟩
theorem q4_53 : Cond.methodLink "JokePump" 342 ⟨"JokePump", "isFuller", "(II)Z"⟩ ∈ lw_g := lw_gm (tin4 (List.mem_of_getElem? (i := 53) (by decide +kernel))) (by decide +kernel)
theorem q4_55 : Cond.instanceMethod ⟨"JokePump", "isFuller", "(II)Z"⟩ ∈ lw_g := lw_gm (tin4 (List.mem_of_getElem? (i := 55) (by decide +kernel))) (by decide +kernel)
theorem qs_26 : Cond.selects "JokePump" ⟨"JokePump", "isFuller", "(II)Z"⟩ ⟨"JokePump", "isFuller", "(II)Z"⟩ ∈ lw_g := lw_gm (tinS (q := (⟨"JokePump", "isFuller", "(II)Z"⟩, 12)) (List.mem_of_getElem? (i := 26) (by decide +kernel))) (by decide +kernel)
theorem q4_56 : Cond.code ⟨"JokePump", "isFuller", "(II)Z"⟩ prog_1_method_57_code 7 (some .boolean) ∈ lw_g := lw_gm (tin4 (List.mem_of_getElem? (i := 56) (by decide +kernel))) (by decide +kernel)
theorem lk_X7_342 : LkV RX7 342 yX7_isFuller cX7_isFuller 7 (some .boolean) 2 := LkV_of q4_53 q4_55 qs_26 q1_1 q4_56 ⟨by decide, by decide, by decide +kernel⟩
theorem q3_211 : Cond.methodLink "JokePump" 345 ⟨"JokePump", "strokes", "(I)I"⟩ ∈ lw_g := lw_gm (tin3 (List.mem_of_getElem? (i := 211) (by decide +kernel))) (by decide +kernel)
theorem lk_X7_345 : LkV RX7 345 yX7_strokes cX7_strokes 5 (some .int) 1 := LkV_of q3_211 q3_212 q3_213 q1_1 q3_214 ⟨by decide, by decide, by decide +kernel⟩
theorem q3_216 : Cond.methodLink "JokePump" 348 ⟨"JokePump", "strokesAgain", "(I)I"⟩ ∈ lw_g := lw_gm (tin3 (List.mem_of_getElem? (i := 216) (by decide +kernel))) (by decide +kernel)
theorem lk_X7_348 : LkV RX7 348 yX7_strokesAgain cX7_strokesAgain 3 (some .int) 1 := LkV_of q3_216 q3_217 q3_218 q1_1 q3_219 ⟨by decide, by decide, by decide +kernel⟩
theorem q2_202 : Cond.methodLink "JokePumpLaw" 63 ⟨"java/lang/Math", "max", "(II)I"⟩ ∈ lw_g := lw_gm (tin2 (List.mem_of_getElem? (i := 202) (by decide +kernel))) (by decide +kernel)
theorem q4_25 : Cond.methodLink "JokePumpLaw" 135 ⟨"java/lang/Math", "min", "(II)I"⟩ ∈ lw_g := lw_gm (tin4 (List.mem_of_getElem? (i := 25) (by decide +kernel))) (by decide +kernel)
theorem q2_103 : Cond.methodLink "JokePump$History" 33 ⟨"java/lang/Math", "min", "(II)I"⟩ ∈ lw_g := lw_gm (tin2 (List.mem_of_getElem? (i := 103) (by decide +kernel))) (by decide +kernel)
theorem q3_126 : Cond.methodLink "JokePump$Reader" 71 ⟨"java/lang/Math", "max", "(II)I"⟩ ∈ lw_g := lw_gm (tin3 (List.mem_of_getElem? (i := 126) (by decide +kernel))) (by decide +kernel)
theorem q2_42 : Cond.methodLink "JokePump$Row" 13 ⟨"java/lang/Math", "min", "(II)I"⟩ ∈ lw_g := lw_gm (tin2 (List.mem_of_getElem? (i := 42) (by decide +kernel))) (by decide +kernel)
theorem q3_151 : Cond.methodLink "JokePump$State" 66 ⟨"java/lang/Math", "min", "(II)I"⟩ ∈ lw_g := lw_gm (tin3 (List.mem_of_getElem? (i := 151) (by decide +kernel))) (by decide +kernel)
theorem q2_52 : Cond.methodLink "JokePump$Told" 54 ⟨"java/lang/Math", "min", "(II)I"⟩ ∈ lw_g := lw_gm (tin2 (List.mem_of_getElem? (i := 52) (by decide +kernel))) (by decide +kernel)
theorem q2_239 : Cond.methodLink "JokePump" 244 ⟨"java/lang/Math", "min", "(II)I"⟩ ∈ lw_g := lw_gm (tin2 (List.mem_of_getElem? (i := 239) (by decide +kernel))) (by decide +kernel)
theorem q2_43 : Cond.static ⟨"java/lang/Math", "min", "(II)I"⟩ ∈ lw_g := lw_gm (tin2 (List.mem_of_getElem? (i := 43) (by decide +kernel))) (by decide +kernel)
theorem q2_203 : Cond.static ⟨"java/lang/Math", "max", "(II)I"⟩ ∈ lw_g := lw_gm (tin2 (List.mem_of_getElem? (i := 203) (by decide +kernel))) (by decide +kernel)
theorem q1_9 : Cond.initialized "java/lang/Math" ∈ lw_g := lw_gm (tin1 (List.mem_of_getElem? (i := 9) (by decide +kernel))) (by decide +kernel)
theorem q2_44 : Cond.code ⟨"java/lang/Math", "min", "(II)I"⟩ prog_12_method_69_code 2 (some .int) ∈ lw_g := lw_gm (tin2 (List.mem_of_getElem? (i := 44) (by decide +kernel))) (by decide +kernel)
theorem q2_204 : Cond.code ⟨"java/lang/Math", "max", "(II)I"⟩ prog_12_method_65_code 2 (some .int) ∈ lw_g := lw_gm (tin2 (List.mem_of_getElem? (i := 204) (by decide +kernel))) (by decide +kernel)
theorem q2_47 : Cond.native ⟨"java/lang/System", "arraycopy", "(Ljava/lang/Object;ILjava/lang/Object;II)V"⟩ ∈ lw_g := lw_gm (tin2 (List.mem_of_getElem? (i := 47) (by decide +kernel))) (by decide +kernel)
theorem q2_139 : Cond.constant "JokePumpLaw" 7 (2147483647 : Int32) ∈ lw_g := lw_gm (tin2 (List.mem_of_getElem? (i := 139) (by decide +kernel))) (by decide +kernel)
theorem q2_165 : Cond.constantFloat "JokePump" 351 (1258291200 : UInt32) ∈ lw_g := lw_gm (tin2 (List.mem_of_getElem? (i := 165) (by decide +kernel))) (by decide +kernel)
theorem q2_196 : Cond.native ⟨"java/lang/Float", "floatToRawIntBits", "(F)I"⟩ ∈ lw_g := lw_gm (tin2 (List.mem_of_getElem? (i := 196) (by decide +kernel))) (by decide +kernel)
theorem q2_197 : Cond.constant "java/lang/Float" 77 (2143289344 : Int32) ∈ lw_g := lw_gm (tin2 (List.mem_of_getElem? (i := 197) (by decide +kernel))) (by decide +kernel)
theorem q2_201 : Cond.constant "JokePumpLaw" 57 (100000 : Int32) ∈ lw_g := lw_gm (tin2 (List.mem_of_getElem? (i := 201) (by decide +kernel))) (by decide +kernel)
theorem q3_166 : Cond.constantFloat "JokePump$State" 82 (1069547520 : UInt32) ∈ lw_g := lw_gm (tin3 (List.mem_of_getElem? (i := 166) (by decide +kernel))) (by decide +kernel)
theorem q3_167 : Cond.constantFloat "JokePump$State" 83 (1098907648 : UInt32) ∈ lw_g := lw_gm (tin3 (List.mem_of_getElem? (i := 167) (by decide +kernel))) (by decide +kernel)
theorem q3_238 : Cond.native ⟨"java/lang/Float", "intBitsToFloat", "(I)F"⟩ ∈ lw_g := lw_gm (tin3 (List.mem_of_getElem? (i := 238) (by decide +kernel))) (by decide +kernel)
theorem q1_10 : Cond.initialized "java/lang/System" ∈ lw_g := lw_gm (tin1 (List.mem_of_getElem? (i := 10) (by decide +kernel))) (by decide +kernel)
theorem q1_11 : Cond.initialized "java/lang/Float" ∈ lw_g := lw_gm (tin1 (List.mem_of_getElem? (i := 11) (by decide +kernel))) (by decide +kernel)
theorem q1_12 : Cond.initialized "java/lang/String" ∈ lw_g := lw_gm (tin1 (List.mem_of_getElem? (i := 12) (by decide +kernel))) (by decide +kernel)
theorem q1_13 : Cond.initialized "java/lang/StringLatin1" ∈ lw_g := lw_gm (tin1 (List.mem_of_getElem? (i := 13) (by decide +kernel))) (by decide +kernel)
theorem q1_14 : Cond.initialized "jdk/internal/util/Preconditions" ∈ lw_g := lw_gm (tin1 (List.mem_of_getElem? (i := 14) (by decide +kernel))) (by decide +kernel)
theorem q1_15 : Cond.initialized "java/lang/StringUTF16" ∈ lw_g := lw_gm (tin1 (List.mem_of_getElem? (i := 15) (by decide +kernel))) (by decide +kernel)
theorem q2_45 : Cond.methodLink "JokePump$Row" 19 ⟨"java/lang/System", "arraycopy", "(Ljava/lang/Object;ILjava/lang/Object;II)V"⟩ ∈ lw_g := lw_gm (tin2 (List.mem_of_getElem? (i := 45) (by decide +kernel))) (by decide +kernel)
theorem q2_46 : Cond.static ⟨"java/lang/System", "arraycopy", "(Ljava/lang/Object;ILjava/lang/Object;II)V"⟩ ∈ lw_g := lw_gm (tin2 (List.mem_of_getElem? (i := 46) (by decide +kernel))) (by decide +kernel)
theorem q2_53 : Cond.methodLink "JokePump$Told" 60 ⟨"java/lang/System", "arraycopy", "(Ljava/lang/Object;ILjava/lang/Object;II)V"⟩ ∈ lw_g := lw_gm (tin2 (List.mem_of_getElem? (i := 53) (by decide +kernel))) (by decide +kernel)
theorem q2_188 : Cond.methodLink "JokePumpLaw" 51 ⟨"java/lang/Float", "floatToIntBits", "(F)I"⟩ ∈ lw_g := lw_gm (tin2 (List.mem_of_getElem? (i := 188) (by decide +kernel))) (by decide +kernel)
theorem q2_189 : Cond.static ⟨"java/lang/Float", "floatToIntBits", "(F)I"⟩ ∈ lw_g := lw_gm (tin2 (List.mem_of_getElem? (i := 189) (by decide +kernel))) (by decide +kernel)
theorem q2_190 : Cond.code ⟨"java/lang/Float", "floatToIntBits", "(F)I"⟩ prog_11_method_24_code 1 (some .int) ∈ lw_g := lw_gm (tin2 (List.mem_of_getElem? (i := 190) (by decide +kernel))) (by decide +kernel)
theorem q2_191 : Cond.methodLink "java/lang/Float" 59 ⟨"java/lang/Float", "isNaN", "(F)Z"⟩ ∈ lw_g := lw_gm (tin2 (List.mem_of_getElem? (i := 191) (by decide +kernel))) (by decide +kernel)
theorem q2_192 : Cond.static ⟨"java/lang/Float", "isNaN", "(F)Z"⟩ ∈ lw_g := lw_gm (tin2 (List.mem_of_getElem? (i := 192) (by decide +kernel))) (by decide +kernel)
theorem q2_193 : Cond.code ⟨"java/lang/Float", "isNaN", "(F)Z"⟩ prog_11_method_6_code 1 (some .boolean) ∈ lw_g := lw_gm (tin2 (List.mem_of_getElem? (i := 193) (by decide +kernel))) (by decide +kernel)
theorem q2_194 : Cond.methodLink "java/lang/Float" 74 ⟨"java/lang/Float", "floatToRawIntBits", "(F)I"⟩ ∈ lw_g := lw_gm (tin2 (List.mem_of_getElem? (i := 194) (by decide +kernel))) (by decide +kernel)
theorem q2_195 : Cond.static ⟨"java/lang/Float", "floatToRawIntBits", "(F)I"⟩ ∈ lw_g := lw_gm (tin2 (List.mem_of_getElem? (i := 195) (by decide +kernel))) (by decide +kernel)
theorem q3_24 : Cond.fieldLink "JokePumpLaw" 90 "JokePumpLaw" "TEXTS" "[Ljava/lang/String;" ∈ lw_g := lw_gm (tin3 (List.mem_of_getElem? (i := 24) (by decide +kernel))) (by decide +kernel)
theorem q3_29 : Cond.methodLink "JokePumpLaw" 8 ⟨"java/lang/String", "length", "()I"⟩ ∈ lw_g := lw_gm (tin3 (List.mem_of_getElem? (i := 29) (by decide +kernel))) (by decide +kernel)
theorem q3_30 : Cond.instanceMethod ⟨"java/lang/String", "length", "()I"⟩ ∈ lw_g := lw_gm (tin3 (List.mem_of_getElem? (i := 30) (by decide +kernel))) (by decide +kernel)
theorem q3_31 : Cond.selects "java/lang/String" ⟨"java/lang/String", "length", "()I"⟩ ⟨"java/lang/String", "length", "()I"⟩ ∈ lw_g := lw_gm (tin3 (List.mem_of_getElem? (i := 31) (by decide +kernel))) (by decide +kernel)
theorem q3_32 : Cond.code ⟨"java/lang/String", "length", "()I"⟩ prog_13_method_54_code 1 (some .int) ∈ lw_g := lw_gm (tin3 (List.mem_of_getElem? (i := 32) (by decide +kernel))) (by decide +kernel)
theorem q3_33 : Cond.methodLink "java/lang/String" 335 ⟨"java/lang/String", "coder", "()B"⟩ ∈ lw_g := lw_gm (tin3 (List.mem_of_getElem? (i := 33) (by decide +kernel))) (by decide +kernel)
theorem q3_34 : Cond.instanceMethod ⟨"java/lang/String", "coder", "()B"⟩ ∈ lw_g := lw_gm (tin3 (List.mem_of_getElem? (i := 34) (by decide +kernel))) (by decide +kernel)
theorem q3_35 : Cond.selects "java/lang/String" ⟨"java/lang/String", "coder", "()B"⟩ ⟨"java/lang/String", "coder", "()B"⟩ ∈ lw_g := lw_gm (tin3 (List.mem_of_getElem? (i := 35) (by decide +kernel))) (by decide +kernel)
theorem q3_36 : Cond.code ⟨"java/lang/String", "coder", "()B"⟩ prog_13_method_152_code 1 (some .byte) ∈ lw_g := lw_gm (tin3 (List.mem_of_getElem? (i := 36) (by decide +kernel))) (by decide +kernel)
theorem q3_37 : Cond.fieldLink "java/lang/String" 38 "java/lang/String" "COMPACT_STRINGS" "Z" ∈ lw_g := lw_gm (tin3 (List.mem_of_getElem? (i := 37) (by decide +kernel))) (by decide +kernel)
theorem q3_39 : Cond.methodLink "JokePumpLaw" 14 ⟨"java/lang/String", "charAt", "(I)C"⟩ ∈ lw_g := lw_gm (tin3 (List.mem_of_getElem? (i := 39) (by decide +kernel))) (by decide +kernel)
theorem q3_40 : Cond.instanceMethod ⟨"java/lang/String", "charAt", "(I)C"⟩ ∈ lw_g := lw_gm (tin3 (List.mem_of_getElem? (i := 40) (by decide +kernel))) (by decide +kernel)
theorem q3_41 : Cond.selects "java/lang/String" ⟨"java/lang/String", "charAt", "(I)C"⟩ ⟨"java/lang/String", "charAt", "(I)C"⟩ ∈ lw_g := lw_gm (tin3 (List.mem_of_getElem? (i := 41) (by decide +kernel))) (by decide +kernel)
theorem q3_42 : Cond.code ⟨"java/lang/String", "charAt", "(I)C"⟩ prog_13_method_56_code 2 (some .char) ∈ lw_g := lw_gm (tin3 (List.mem_of_getElem? (i := 42) (by decide +kernel))) (by decide +kernel)
theorem q3_43 : Cond.methodLink "java/lang/String" 492 ⟨"java/lang/String", "isLatin1", "()Z"⟩ ∈ lw_g := lw_gm (tin3 (List.mem_of_getElem? (i := 43) (by decide +kernel))) (by decide +kernel)
theorem q3_44 : Cond.instanceMethod ⟨"java/lang/String", "isLatin1", "()Z"⟩ ∈ lw_g := lw_gm (tin3 (List.mem_of_getElem? (i := 44) (by decide +kernel))) (by decide +kernel)
theorem q3_45 : Cond.selects "java/lang/String" ⟨"java/lang/String", "isLatin1", "()Z"⟩ ⟨"java/lang/String", "isLatin1", "()Z"⟩ ∈ lw_g := lw_gm (tin3 (List.mem_of_getElem? (i := 45) (by decide +kernel))) (by decide +kernel)
theorem q3_46 : Cond.code ⟨"java/lang/String", "isLatin1", "()Z"⟩ prog_13_method_154_code 1 (some .boolean) ∈ lw_g := lw_gm (tin3 (List.mem_of_getElem? (i := 46) (by decide +kernel))) (by decide +kernel)
theorem q3_47 : Cond.methodLink "java/lang/String" 495 ⟨"java/lang/StringLatin1", "charAt", "([BI)C"⟩ ∈ lw_g := lw_gm (tin3 (List.mem_of_getElem? (i := 47) (by decide +kernel))) (by decide +kernel)
theorem q3_48 : Cond.static ⟨"java/lang/StringLatin1", "charAt", "([BI)C"⟩ ∈ lw_g := lw_gm (tin3 (List.mem_of_getElem? (i := 48) (by decide +kernel))) (by decide +kernel)
theorem q3_49 : Cond.code ⟨"java/lang/StringLatin1", "charAt", "([BI)C"⟩ prog_14_method_2_code 2 (some .char) ∈ lw_g := lw_gm (tin3 (List.mem_of_getElem? (i := 49) (by decide +kernel))) (by decide +kernel)
theorem q3_50 : Cond.methodLink "java/lang/StringLatin1" 9 ⟨"java/lang/String", "checkIndex", "(II)V"⟩ ∈ lw_g := lw_gm (tin3 (List.mem_of_getElem? (i := 50) (by decide +kernel))) (by decide +kernel)
theorem q3_51 : Cond.static ⟨"java/lang/String", "checkIndex", "(II)V"⟩ ∈ lw_g := lw_gm (tin3 (List.mem_of_getElem? (i := 51) (by decide +kernel))) (by decide +kernel)
theorem q3_52 : Cond.code ⟨"java/lang/String", "checkIndex", "(II)V"⟩ prog_13_method_155_code 2 (none : Option Jvm.ClassFile.FieldType) ∈ lw_g := lw_gm (tin3 (List.mem_of_getElem? (i := 52) (by decide +kernel))) (by decide +kernel)
theorem q3_53 : Cond.fieldLink "java/lang/String" 1053 "jdk/internal/util/Preconditions" "SIOOBE_FORMATTER" "Ljava/util/function/BiFunction;" ∈ lw_g := lw_gm (tin3 (List.mem_of_getElem? (i := 53) (by decide +kernel))) (by decide +kernel)
theorem q3_55 : Cond.methodLink "java/lang/String" 1059 ⟨"jdk/internal/util/Preconditions", "checkIndex", "(IILjava/util/function/BiFunction;)I"⟩ ∈ lw_g := lw_gm (tin3 (List.mem_of_getElem? (i := 55) (by decide +kernel))) (by decide +kernel)
theorem q3_56 : Cond.static ⟨"jdk/internal/util/Preconditions", "checkIndex", "(IILjava/util/function/BiFunction;)I"⟩ ∈ lw_g := lw_gm (tin3 (List.mem_of_getElem? (i := 56) (by decide +kernel))) (by decide +kernel)
theorem q3_57 : Cond.code ⟨"jdk/internal/util/Preconditions", "checkIndex", "(IILjava/util/function/BiFunction;)I"⟩ prog_17_method_11_code 3 (some .int) ∈ lw_g := lw_gm (tin3 (List.mem_of_getElem? (i := 57) (by decide +kernel))) (by decide +kernel)
theorem q3_58 : Cond.methodLink "java/lang/String" 498 ⟨"java/lang/StringUTF16", "charAt", "([BI)C"⟩ ∈ lw_g := lw_gm (tin3 (List.mem_of_getElem? (i := 58) (by decide +kernel))) (by decide +kernel)
theorem q3_59 : Cond.static ⟨"java/lang/StringUTF16", "charAt", "([BI)C"⟩ ∈ lw_g := lw_gm (tin3 (List.mem_of_getElem? (i := 59) (by decide +kernel))) (by decide +kernel)
theorem q3_60 : Cond.code ⟨"java/lang/StringUTF16", "charAt", "([BI)C"⟩ prog_15_method_83_code 2 (some .char) ∈ lw_g := lw_gm (tin3 (List.mem_of_getElem? (i := 60) (by decide +kernel))) (by decide +kernel)
theorem q3_61 : Cond.methodLink "java/lang/StringUTF16" 67 ⟨"java/lang/StringUTF16", "checkIndex", "(I[B)V"⟩ ∈ lw_g := lw_gm (tin3 (List.mem_of_getElem? (i := 61) (by decide +kernel))) (by decide +kernel)
theorem q3_62 : Cond.static ⟨"java/lang/StringUTF16", "checkIndex", "(I[B)V"⟩ ∈ lw_g := lw_gm (tin3 (List.mem_of_getElem? (i := 62) (by decide +kernel))) (by decide +kernel)
theorem q3_63 : Cond.code ⟨"java/lang/StringUTF16", "checkIndex", "(I[B)V"⟩ prog_15_method_91_code 2 (none : Option Jvm.ClassFile.FieldType) ∈ lw_g := lw_gm (tin3 (List.mem_of_getElem? (i := 63) (by decide +kernel))) (by decide +kernel)
theorem q3_64 : Cond.methodLink "java/lang/StringUTF16" 48 ⟨"java/lang/StringUTF16", "length", "([B)I"⟩ ∈ lw_g := lw_gm (tin3 (List.mem_of_getElem? (i := 64) (by decide +kernel))) (by decide +kernel)
theorem q3_65 : Cond.static ⟨"java/lang/StringUTF16", "length", "([B)I"⟩ ∈ lw_g := lw_gm (tin3 (List.mem_of_getElem? (i := 65) (by decide +kernel))) (by decide +kernel)
theorem q3_66 : Cond.code ⟨"java/lang/StringUTF16", "length", "([B)I"⟩ prog_15_method_6_code 1 (some .int) ∈ lw_g := lw_gm (tin3 (List.mem_of_getElem? (i := 66) (by decide +kernel))) (by decide +kernel)
theorem q3_67 : Cond.methodLink "java/lang/StringUTF16" 414 ⟨"java/lang/String", "checkIndex", "(II)V"⟩ ∈ lw_g := lw_gm (tin3 (List.mem_of_getElem? (i := 67) (by decide +kernel))) (by decide +kernel)
theorem q3_68 : Cond.methodLink "java/lang/StringUTF16" 71 ⟨"java/lang/StringUTF16", "getChar", "([BI)C"⟩ ∈ lw_g := lw_gm (tin3 (List.mem_of_getElem? (i := 68) (by decide +kernel))) (by decide +kernel)
theorem q3_69 : Cond.static ⟨"java/lang/StringUTF16", "getChar", "([BI)C"⟩ ∈ lw_g := lw_gm (tin3 (List.mem_of_getElem? (i := 69) (by decide +kernel))) (by decide +kernel)
theorem q3_70 : Cond.code ⟨"java/lang/StringUTF16", "getChar", "([BI)C"⟩ prog_15_method_5_code 2 (some .char) ∈ lw_g := lw_gm (tin3 (List.mem_of_getElem? (i := 70) (by decide +kernel))) (by decide +kernel)
theorem q3_71 : Cond.fieldLink "java/lang/StringUTF16" 44 "java/lang/StringUTF16" "$assertionsDisabled" "Z" ∈ lw_g := lw_gm (tin3 (List.mem_of_getElem? (i := 71) (by decide +kernel))) (by decide +kernel)
theorem q3_73 : Cond.fieldLink "java/lang/StringUTF16" 59 "java/lang/StringUTF16" "HI_BYTE_SHIFT" "I" ∈ lw_g := lw_gm (tin3 (List.mem_of_getElem? (i := 73) (by decide +kernel))) (by decide +kernel)
theorem q3_75 : Cond.fieldLink "java/lang/StringUTF16" 63 "java/lang/StringUTF16" "LO_BYTE_SHIFT" "I" ∈ lw_g := lw_gm (tin3 (List.mem_of_getElem? (i := 75) (by decide +kernel))) (by decide +kernel)
theorem q3_112 : Cond.methodLink "JokePump$Reader" 58 ⟨"java/lang/String", "length", "()I"⟩ ∈ lw_g := lw_gm (tin3 (List.mem_of_getElem? (i := 112) (by decide +kernel))) (by decide +kernel)
theorem q3_113 : Cond.methodLink "JokePump$Reader" 63 ⟨"java/lang/String", "charAt", "(I)C"⟩ ∈ lw_g := lw_gm (tin3 (List.mem_of_getElem? (i := 113) (by decide +kernel))) (by decide +kernel)
theorem q3_236 : Cond.methodLink "JokePumpLaw" 111 ⟨"java/lang/Float", "intBitsToFloat", "(I)F"⟩ ∈ lw_g := lw_gm (tin3 (List.mem_of_getElem? (i := 236) (by decide +kernel))) (by decide +kernel)
theorem q3_237 : Cond.static ⟨"java/lang/Float", "intBitsToFloat", "(I)F"⟩ ∈ lw_g := lw_gm (tin3 (List.mem_of_getElem? (i := 237) (by decide +kernel))) (by decide +kernel)
theorem q4_61 : Cond.fieldLink "java/lang/String" 9 "java/lang/String" "value" "[B" ∈ lw_g := lw_gm (tin4 (List.mem_of_getElem? (i := 61) (by decide +kernel))) (by decide +kernel)
theorem q4_62 : Cond.fieldLink "java/lang/String" 15 "java/lang/String" "coder" "B" ∈ lw_g := lw_gm (tin4 (List.mem_of_getElem? (i := 62) (by decide +kernel))) (by decide +kernel)
