theorem q1_17 : Cond.instantiable "JokePump" 12 ∈ lw_g := lw_gm (tin1 (List.mem_of_getElem? (i := 17) (by decide +kernel))) (by decide +kernel)
theorem q1_24 : Cond.classLink "JokePump" 9 "JokePump$State" ∈ lw_g := lw_gm (tin1 (List.mem_of_getElem? (i := 24) (by decide +kernel))) (by decide +kernel)
theorem q1_25 : Cond.instantiable "JokePump$State" 12 ∈ lw_g := lw_gm (tin1 (List.mem_of_getElem? (i := 25) (by decide +kernel))) (by decide +kernel)
theorem nw_X7_9 : NewP RX7 9 4 12 [.null, .null, .null, .int 0, .int 0, .int 0, .int 0, .int 0, .int 0, .int 0, .int 0, .int 0] := ⟨RX4, TX4, tyX4, rfl, ly_X4, tyX4_ok, q1_24, q1_25, q1_2, fun j hj => by rcases (show j = 0 ∨ j = 1 ∨ j = 2 ∨ j = 3 ∨ j = 4 ∨ j = 5 ∨ j = 6 ∨ j = 7 ∨ j = 8 ∨ j = 9 ∨ j = 10 ∨ j = 11 by omega) with rfl | rfl | rfl | rfl | rfl | rfl | rfl | rfl | rfl | rfl | rfl | rfl <;> rfl⟩
theorem q1_30 : Cond.classLink "JokePump$State" 9 "JokePump$Jokes" ∈ lw_g := lw_gm (tin1 (List.mem_of_getElem? (i := 30) (by decide +kernel))) (by decide +kernel)
theorem q1_31 : Cond.instantiable "JokePump$Jokes" 6 ∈ lw_g := lw_gm (tin1 (List.mem_of_getElem? (i := 31) (by decide +kernel))) (by decide +kernel)
theorem nw_X4_9 : NewP RX4 9 1 6 [.int 0, .null, .null, .null, .null, .null] := ⟨RX1, TX1, tyX1, rfl, ly_X1, tyX1_ok, q1_30, q1_31, q1_3, fun j hj => by rcases (show j = 0 ∨ j = 1 ∨ j = 2 ∨ j = 3 ∨ j = 4 ∨ j = 5 by omega) with rfl | rfl | rfl | rfl | rfl | rfl <;> rfl⟩
theorem q1_36 : Cond.classLink "JokePump$Jokes" 15 "JokePump$Row" ∈ lw_g := lw_gm (tin1 (List.mem_of_getElem? (i := 36) (by decide +kernel))) (by decide +kernel)
theorem q1_37 : Cond.instantiable "JokePump$Row" 1 ∈ lw_g := lw_gm (tin1 (List.mem_of_getElem? (i := 37) (by decide +kernel))) (by decide +kernel)
theorem nw_X1_15 : NewP RX1 15 3 1 [.null] := ⟨RX3, TX3, tyX3, rfl, ly_X3, tyX3_ok, q1_36, q1_37, q1_4, fun j hj => by rcases (show j = 0 by omega) with rfl <;> rfl⟩
theorem q1_76 : Cond.classLink "JokePump$State" 18 "JokePump$Told" ∈ lw_g := lw_gm (tin1 (List.mem_of_getElem? (i := 76) (by decide +kernel))) (by decide +kernel)
theorem q1_77 : Cond.instantiable "JokePump$Told" 6 ∈ lw_g := lw_gm (tin1 (List.mem_of_getElem? (i := 77) (by decide +kernel))) (by decide +kernel)
theorem nw_X4_18 : NewP RX4 18 6 6 [.int 0, .float 0, .null, .null, .null, .null] := ⟨RX6, TX6, tyX6, rfl, ly_X6, tyX6_ok, q1_76, q1_77, q1_5, fun j hj => by rcases (show j = 0 ∨ j = 1 ∨ j = 2 ∨ j = 3 ∨ j = 4 ∨ j = 5 by omega) with rfl | rfl | rfl | rfl | rfl | rfl <;> rfl⟩
theorem q1_82 : Cond.classLink "JokePump$Told" 19 "JokePump$Row" ∈ lw_g := lw_gm (tin1 (List.mem_of_getElem? (i := 82) (by decide +kernel))) (by decide +kernel)
theorem nw_X6_19 : NewP RX6 19 3 1 [.null] := ⟨RX3, TX3, tyX3, rfl, ly_X3, tyX3_ok, q1_82, q1_37, q1_4, fun j hj => by rcases (show j = 0 by omega) with rfl <;> rfl⟩
theorem q1_109 : Cond.classLink "JokePump$State" 25 "JokePump$Row" ∈ lw_g := lw_gm (tin1 (List.mem_of_getElem? (i := 109) (by decide +kernel))) (by decide +kernel)
theorem nw_X4_25 : NewP RX4 25 3 1 [.null] := ⟨RX3, TX3, tyX3, rfl, ly_X3, tyX3_ok, q1_109, q1_37, q1_4, fun j hj => by rcases (show j = 0 by omega) with rfl <;> rfl⟩
theorem q1_164 : Cond.classLink "JokePump" 23 "JokePump$History" ∈ lw_g := lw_gm (tin1 (List.mem_of_getElem? (i := 164) (by decide +kernel))) (by decide +kernel)
theorem q1_165 : Cond.instantiable "JokePump$History" 3 ∈ lw_g := lw_gm (tin1 (List.mem_of_getElem? (i := 165) (by decide +kernel))) (by decide +kernel)
theorem nw_X7_23 : NewP RX7 23 0 3 [.null, .int 0, .int 0] := ⟨RX0, TX0, tyX0, rfl, ly_X0, tyX0_ok, q1_164, q1_165, q1_6, fun j hj => by rcases (show j = 0 ∨ j = 1 ∨ j = 2 by omega) with rfl | rfl | rfl <;> rfl⟩
theorem q1_170 : Cond.classLink "JokePump$History" 9 "JokePump$State" ∈ lw_g := lw_gm (tin1 (List.mem_of_getElem? (i := 170) (by decide +kernel))) (by decide +kernel)
theorem nw_X0_9 : NewP RX0 9 4 12 [.null, .null, .null, .int 0, .int 0, .int 0, .int 0, .int 0, .int 0, .int 0, .int 0, .int 0] := ⟨RX4, TX4, tyX4, rfl, ly_X4, tyX4_ok, q1_170, q1_25, q1_2, fun j hj => by rcases (show j = 0 ∨ j = 1 ∨ j = 2 ∨ j = 3 ∨ j = 4 ∨ j = 5 ∨ j = 6 ∨ j = 7 ∨ j = 8 ∨ j = 9 ∨ j = 10 ∨ j = 11 by omega) with rfl | rfl | rfl | rfl | rfl | rfl | rfl | rfl | rfl | rfl | rfl | rfl <;> rfl⟩
theorem q1_184 : Cond.classLink "JokePump" 30 "JokePump$Strip" ∈ lw_g := lw_gm (tin1 (List.mem_of_getElem? (i := 184) (by decide +kernel))) (by decide +kernel)
theorem q1_185 : Cond.instantiable "JokePump$Strip" 2 ∈ lw_g := lw_gm (tin1 (List.mem_of_getElem? (i := 185) (by decide +kernel))) (by decide +kernel)
theorem nw_X7_30 : NewP RX7 30 5 2 [.null, .int 0] := ⟨RX5, TX5, tyX5, rfl, ly_X5, tyX5_ok, q1_184, q1_185, q1_7, fun j hj => by rcases (show j = 0 ∨ j = 1 by omega) with rfl | rfl <;> rfl⟩
theorem q1_200 : Cond.classLink "JokePump" 40 "JokePump$Reader" ∈ lw_g := lw_gm (tin1 (List.mem_of_getElem? (i := 200) (by decide +kernel))) (by decide +kernel)
theorem q1_201 : Cond.instantiable "JokePump$Reader" 4 ∈ lw_g := lw_gm (tin1 (List.mem_of_getElem? (i := 201) (by decide +kernel))) (by decide +kernel)
theorem nw_X7_40 : NewP RX7 40 2 4 [.null, .null, .int 0, .int 0] := ⟨RX2, TX2, tyX2, rfl, ly_X2, tyX2_ok, q1_200, q1_201, q1_8, fun j hj => by rcases (show j = 0 ∨ j = 1 ∨ j = 2 ∨ j = 3 by omega) with rfl | rfl | rfl | rfl <;> rfl⟩
theorem q1_206 : Cond.classLink "JokePump$Reader" 9 "JokePump$Row" ∈ lw_g := lw_gm (tin1 (List.mem_of_getElem? (i := 206) (by decide +kernel))) (by decide +kernel)
theorem nw_X2_9 : NewP RX2 9 3 1 [.null] := ⟨RX3, TX3, tyX3, rfl, ly_X3, tyX3_ok, q1_206, q1_37, q1_4, fun j hj => by rcases (show j = 0 by omega) with rfl <;> rfl⟩
theorem fF_X0_11 : FldF RX0 11 0 0 (.array (.object "JokePump$State")) := ⟨RX0, TX0, 3, "JokePump$History", tyX0, rfl, ly_X0, tyX0_ok, nmX0, by decide, q1_173, rfl, rfl, rfl, by decide +kernel⟩
theorem fF_X1_20 : FldF RX1 20 1 1 (.object "JokePump$Row") := ⟨RX1, TX1, 6, "JokePump$Jokes", tyX1, rfl, ly_X1, tyX1_ok, nmX1, by decide, q1_49, rfl, rfl, rfl, by decide +kernel⟩
theorem fF_X1_24 : FldF RX1 24 1 2 (.object "JokePump$Row") := ⟨RX1, TX1, 6, "JokePump$Jokes", tyX1, rfl, ly_X1, tyX1_ok, nmX1, by decide, q1_52, rfl, rfl, rfl, by decide +kernel⟩
theorem fF_X1_27 : FldF RX1 27 1 3 (.object "JokePump$Row") := ⟨RX1, TX1, 6, "JokePump$Jokes", tyX1, rfl, ly_X1, tyX1_ok, nmX1, by decide, q1_54, rfl, rfl, rfl, by decide +kernel⟩
theorem fF_X1_30 : FldF RX1 30 1 4 (.object "JokePump$Row") := ⟨RX1, TX1, 6, "JokePump$Jokes", tyX1, rfl, ly_X1, tyX1_ok, nmX1, by decide, q1_57, rfl, rfl, rfl, by decide +kernel⟩
theorem fF_X1_33 : FldF RX1 33 1 5 (.object "JokePump$Row") := ⟨RX1, TX1, 6, "JokePump$Jokes", tyX1, rfl, ly_X1, tyX1_ok, nmX1, by decide, q1_60, rfl, rfl, rfl, by decide +kernel⟩
theorem fF_X2_14 : FldF RX2 14 2 0 (.object "JokePump$Row") := ⟨RX2, TX2, 4, "JokePump$Reader", tyX2, rfl, ly_X2, tyX2_ok, nmX2, by decide, q1_208, rfl, rfl, rfl, by decide +kernel⟩
theorem fF_X2_20 : FldF RX2 20 2 1 (.object "JokePump$Row") := ⟨RX2, TX2, 4, "JokePump$Reader", tyX2, rfl, ly_X2, tyX2_ok, nmX2, by decide, q1_210, rfl, rfl, rfl, by decide +kernel⟩
theorem fF_X3_7 : FldF RX3 7 3 0 (.array .int) := ⟨RX3, TX3, 1, "JokePump$Row", tyX3, rfl, ly_X3, tyX3_ok, nmX3, by decide, q1_42, rfl, rfl, rfl, by decide +kernel⟩
theorem fF_X4_12 : FldF RX4 12 4 0 (.object "JokePump$Jokes") := ⟨RX4, TX4, 12, "JokePump$State", tyX4, rfl, ly_X4, tyX4_ok, nmX4, by decide, q1_115, rfl, rfl, rfl, by decide +kernel⟩
theorem fF_X4_21 : FldF RX4 21 4 1 (.object "JokePump$Told") := ⟨RX4, TX4, 12, "JokePump$State", tyX4, rfl, ly_X4, tyX4_ok, nmX4, by decide, q1_117, rfl, rfl, rfl, by decide +kernel⟩
theorem fF_X4_30 : FldF RX4 30 4 2 (.object "JokePump$Row") := ⟨RX4, TX4, 12, "JokePump$State", tyX4, rfl, ly_X4, tyX4_ok, nmX4, by decide, q1_119, rfl, rfl, rfl, by decide +kernel⟩
theorem fF_X5_9 : FldF RX5 9 5 0 (.array .char) := ⟨RX5, TX5, 2, "JokePump$Strip", tyX5, rfl, ly_X5, tyX5_ok, nmX5, by decide, q1_190, rfl, rfl, rfl, by decide +kernel⟩
theorem fF_X6_24 : FldF RX6 24 6 2 (.object "JokePump$Row") := ⟨RX6, TX6, 6, "JokePump$Told", tyX6, rfl, ly_X6, tyX6_ok, nmX6, by decide, q1_88, rfl, rfl, rfl, by decide +kernel⟩
theorem fF_X6_28 : FldF RX6 28 6 3 (.object "JokePump$Row") := ⟨RX6, TX6, 6, "JokePump$Told", tyX6, rfl, ly_X6, tyX6_ok, nmX6, by decide, q1_90, rfl, rfl, rfl, by decide +kernel⟩
theorem fF_X6_31 : FldF RX6 31 6 4 (.array .float) := ⟨RX6, TX6, 6, "JokePump$Told", tyX6, rfl, ly_X6, tyX6_ok, nmX6, by decide, q1_92, rfl, rfl, rfl, by decide +kernel⟩
theorem fF_X6_35 : FldF RX6 35 6 5 (.object "JokePump$Row") := ⟨RX6, TX6, 6, "JokePump$Told", tyX6, rfl, ly_X6, tyX6_ok, nmX6, by decide, q1_93, rfl, rfl, rfl, by decide +kernel⟩
theorem fF_X7_12 : FldF RX7 12 7 0 (.object "JokePump$State") := ⟨RX7, TX7, 12, "JokePump", tyX7, rfl, ly_X7, tyX7_ok, nmX7, by decide, q1_224, rfl, rfl, rfl, by decide +kernel⟩
theorem fF_X7_16 : FldF RX7 16 7 1 (.object "JokePump$State") := ⟨RX7, TX7, 12, "JokePump", tyX7, rfl, ly_X7, tyX7_ok, nmX7, by decide, q1_225, rfl, rfl, rfl, by decide +kernel⟩
theorem fF_X7_26 : FldF RX7 26 7 3 (.object "JokePump$History") := ⟨RX7, TX7, 12, "JokePump", tyX7, rfl, ly_X7, tyX7_ok, nmX7, by decide, q1_227, rfl, rfl, rfl, by decide +kernel⟩
theorem fF_X7_33 : FldF RX7 33 7 4 (.object "JokePump$Strip") := ⟨RX7, TX7, 12, "JokePump", tyX7, rfl, ly_X7, tyX7_ok, nmX7, by decide, q1_228, rfl, rfl, rfl, by decide +kernel⟩
theorem fF_X7_37 : FldF RX7 37 7 5 (.object "JokePump$Strip") := ⟨RX7, TX7, 12, "JokePump", tyX7, rfl, ly_X7, tyX7_ok, nmX7, by decide, q1_229, rfl, rfl, rfl, by decide +kernel⟩
theorem fF_X7_43 : FldF RX7 43 7 6 (.object "JokePump$Reader") := ⟨RX7, TX7, 12, "JokePump", tyX7, rfl, ly_X7, tyX7_ok, nmX7, by decide, q1_230, rfl, rfl, rfl, by decide +kernel⟩
theorem q1_19 : Cond.instanceMethod ⟨"JokePump", "<init>", "()V"⟩ ∈ lw_g := lw_gm (tin1 (List.mem_of_getElem? (i := 19) (by decide +kernel))) (by decide +kernel)
theorem q1_20 : Cond.code ⟨"JokePump", "<init>", "()V"⟩ prog_1_method_1_code 1 (none : Option Jvm.ClassFile.FieldType) ∈ lw_g := lw_gm (tin1 (List.mem_of_getElem? (i := 20) (by decide +kernel))) (by decide +kernel)
theorem q1_172 : Cond.methodLink "JokePump$History" 24 ⟨"JokePump$State", "<init>", "()V"⟩ ∈ lw_g := lw_gm (tin1 (List.mem_of_getElem? (i := 172) (by decide +kernel))) (by decide +kernel)
theorem q1_27 : Cond.instanceMethod ⟨"JokePump$State", "<init>", "()V"⟩ ∈ lw_g := lw_gm (tin1 (List.mem_of_getElem? (i := 27) (by decide +kernel))) (by decide +kernel)
theorem q1_28 : Cond.code ⟨"JokePump$State", "<init>", "()V"⟩ prog_6_method_1_code 2 (none : Option Jvm.ClassFile.FieldType) ∈ lw_g := lw_gm (tin1 (List.mem_of_getElem? (i := 28) (by decide +kernel))) (by decide +kernel)
theorem li_X0_24 : LkI RX0 24 yX4_init cX4_init 2 0 := ⟨(Or.inl q1_172), q1_27, q1_2, q1_28, rfl, by decide, by decide, by decide +kernel⟩
theorem q1_38 : Cond.methodLink "JokePump$Jokes" 17 ⟨"JokePump$Row", "<init>", "(I)V"⟩ ∈ lw_g := lw_gm (tin1 (List.mem_of_getElem? (i := 38) (by decide +kernel))) (by decide +kernel)
theorem q1_39 : Cond.instanceMethod ⟨"JokePump$Row", "<init>", "(I)V"⟩ ∈ lw_g := lw_gm (tin1 (List.mem_of_getElem? (i := 39) (by decide +kernel))) (by decide +kernel)
theorem q1_40 : Cond.code ⟨"JokePump$Row", "<init>", "(I)V"⟩ prog_5_method_1_code 2 (none : Option Jvm.ClassFile.FieldType) ∈ lw_g := lw_gm (tin1 (List.mem_of_getElem? (i := 40) (by decide +kernel))) (by decide +kernel)
theorem li_X1_17 : LkI RX1 17 yX3_init cX3_init 2 1 := ⟨(Or.inl q1_38), q1_39, q1_4, q1_40, rfl, by decide, by decide, by decide +kernel⟩
theorem q1_207 : Cond.methodLink "JokePump$Reader" 11 ⟨"JokePump$Row", "<init>", "(I)V"⟩ ∈ lw_g := lw_gm (tin1 (List.mem_of_getElem? (i := 207) (by decide +kernel))) (by decide +kernel)
theorem li_X2_11 : LkI RX2 11 yX3_init cX3_init 2 1 := ⟨(Or.inl q1_207), q1_39, q1_4, q1_40, rfl, by decide, by decide, by decide +kernel⟩
theorem q1_32 : Cond.methodLinkNest "JokePump$State" 11 ⟨"JokePump$Jokes", "<init>", "()V"⟩ "JokePump" ∈ lw_n := lw_nm (tin1 (List.mem_of_getElem? (i := 32) (by decide +kernel))) (by decide +kernel)
theorem q1_33 : Cond.instanceMethod ⟨"JokePump$Jokes", "<init>", "()V"⟩ ∈ lw_g := lw_gm (tin1 (List.mem_of_getElem? (i := 33) (by decide +kernel))) (by decide +kernel)
theorem q1_34 : Cond.code ⟨"JokePump$Jokes", "<init>", "()V"⟩ prog_3_method_1_code 1 (none : Option Jvm.ClassFile.FieldType) ∈ lw_g := lw_gm (tin1 (List.mem_of_getElem? (i := 34) (by decide +kernel))) (by decide +kernel)
theorem li_X4_11 : LkI RX4 11 yX1_init cX1_init 1 0 := ⟨(Or.inr ⟨_, q1_32⟩), q1_33, q1_3, q1_34, rfl, by decide, by decide, by decide +kernel⟩
theorem q1_78 : Cond.methodLinkNest "JokePump$State" 20 ⟨"JokePump$Told", "<init>", "()V"⟩ "JokePump" ∈ lw_n := lw_nm (tin1 (List.mem_of_getElem? (i := 78) (by decide +kernel))) (by decide +kernel)
theorem q1_79 : Cond.instanceMethod ⟨"JokePump$Told", "<init>", "()V"⟩ ∈ lw_g := lw_gm (tin1 (List.mem_of_getElem? (i := 79) (by decide +kernel))) (by decide +kernel)
theorem q1_80 : Cond.code ⟨"JokePump$Told", "<init>", "()V"⟩ prog_8_method_1_code 1 (none : Option Jvm.ClassFile.FieldType) ∈ lw_g := lw_gm (tin1 (List.mem_of_getElem? (i := 80) (by decide +kernel))) (by decide +kernel)
theorem li_X4_20 : LkI RX4 20 yX6_init cX6_init 1 0 := ⟨(Or.inr ⟨_, q1_78⟩), q1_79, q1_5, q1_80, rfl, by decide, by decide, by decide +kernel⟩
theorem q1_110 : Cond.methodLink "JokePump$State" 27 ⟨"JokePump$Row", "<init>", "(I)V"⟩ ∈ lw_g := lw_gm (tin1 (List.mem_of_getElem? (i := 110) (by decide +kernel))) (by decide +kernel)
theorem li_X4_27 : LkI RX4 27 yX3_init cX3_init 2 1 := ⟨(Or.inl q1_110), q1_39, q1_4, q1_40, rfl, by decide, by decide, by decide +kernel⟩
theorem q1_83 : Cond.methodLink "JokePump$Told" 21 ⟨"JokePump$Row", "<init>", "(I)V"⟩ ∈ lw_g := lw_gm (tin1 (List.mem_of_getElem? (i := 83) (by decide +kernel))) (by decide +kernel)
theorem li_X6_21 : LkI RX6 21 yX3_init cX3_init 2 1 := ⟨(Or.inl q1_83), q1_39, q1_4, q1_40, rfl, by decide, by decide, by decide +kernel⟩
theorem q1_26 : Cond.methodLink "JokePump" 11 ⟨"JokePump$State", "<init>", "()V"⟩ ∈ lw_g := lw_gm (tin1 (List.mem_of_getElem? (i := 26) (by decide +kernel))) (by decide +kernel)
theorem li_X7_11 : LkI RX7 11 yX4_init cX4_init 2 0 := ⟨(Or.inl q1_26), q1_27, q1_2, q1_28, rfl, by decide, by decide, by decide +kernel⟩
theorem q1_166 : Cond.methodLink "JokePump" 25 ⟨"JokePump$History", "<init>", "()V"⟩ ∈ lw_g := lw_gm (tin1 (List.mem_of_getElem? (i := 166) (by decide +kernel))) (by decide +kernel)
theorem q1_167 : Cond.instanceMethod ⟨"JokePump$History", "<init>", "()V"⟩ ∈ lw_g := lw_gm (tin1 (List.mem_of_getElem? (i := 167) (by decide +kernel))) (by decide +kernel)
theorem q1_168 : Cond.code ⟨"JokePump$History", "<init>", "()V"⟩ prog_2_method_1_code 2 (none : Option Jvm.ClassFile.FieldType) ∈ lw_g := lw_gm (tin1 (List.mem_of_getElem? (i := 168) (by decide +kernel))) (by decide +kernel)
theorem li_X7_25 : LkI RX7 25 yX0_init cX0_init 2 0 := ⟨(Or.inl q1_166), q1_167, q1_6, q1_168, rfl, by decide, by decide, by decide +kernel⟩
theorem q1_186 : Cond.methodLinkNest "JokePump" 32 ⟨"JokePump$Strip", "<init>", "()V"⟩ "JokePump" ∈ lw_n := lw_nm (tin1 (List.mem_of_getElem? (i := 186) (by decide +kernel))) (by decide +kernel)
theorem q1_187 : Cond.instanceMethod ⟨"JokePump$Strip", "<init>", "()V"⟩ ∈ lw_g := lw_gm (tin1 (List.mem_of_getElem? (i := 187) (by decide +kernel))) (by decide +kernel)
theorem q1_188 : Cond.code ⟨"JokePump$Strip", "<init>", "()V"⟩ prog_7_method_1_code 1 (none : Option Jvm.ClassFile.FieldType) ∈ lw_g := lw_gm (tin1 (List.mem_of_getElem? (i := 188) (by decide +kernel))) (by decide +kernel)
theorem li_X7_32 : LkI RX7 32 yX5_init cX5_init 1 0 := ⟨(Or.inr ⟨_, q1_186⟩), q1_187, q1_7, q1_188, rfl, by decide, by decide, by decide +kernel⟩
theorem q1_202 : Cond.methodLinkNest "JokePump" 42 ⟨"JokePump$Reader", "<init>", "()V"⟩ "JokePump" ∈ lw_n := lw_nm (tin1 (List.mem_of_getElem? (i := 202) (by decide +kernel))) (by decide +kernel)
theorem q1_203 : Cond.instanceMethod ⟨"JokePump$Reader", "<init>", "()V"⟩ ∈ lw_g := lw_gm (tin1 (List.mem_of_getElem? (i := 203) (by decide +kernel))) (by decide +kernel)
theorem q1_204 : Cond.code ⟨"JokePump$Reader", "<init>", "()V"⟩ prog_4_method_1_code 1 (none : Option Jvm.ClassFile.FieldType) ∈ lw_g := lw_gm (tin1 (List.mem_of_getElem? (i := 204) (by decide +kernel))) (by decide +kernel)
theorem li_X7_42 : LkI RX7 42 yX2_init cX2_init 1 0 := ⟨(Or.inr ⟨_, q1_202⟩), q1_203, q1_8, q1_204, rfl, by decide, by decide, by decide +kernel⟩
theorem q1_22 : Cond.instanceMethod ⟨"java/lang/Object", "<init>", "()V"⟩ ∈ lw_g := lw_gm (tin1 (List.mem_of_getElem? (i := 22) (by decide +kernel))) (by decide +kernel)
theorem q1_23 : Cond.code ⟨"java/lang/Object", "<init>", "()V"⟩ object_method_1_code 1 (none : Option Jvm.ClassFile.FieldType) ∈ lw_g := lw_gm (tin1 (List.mem_of_getElem? (i := 23) (by decide +kernel))) (by decide +kernel)
theorem wo_code : Cond.code Lib.objectInit ⟨#[0xb1]⟩ 1 none ∈ lw_g := q1_23
theorem q1_169 : Cond.methodLink "JokePump$History" 3 ⟨"java/lang/Object", "<init>", "()V"⟩ ∈ lw_g := lw_gm (tin1 (List.mem_of_getElem? (i := 169) (by decide +kernel))) (by decide +kernel)
theorem q1_35 : Cond.methodLink "JokePump$Jokes" 3 ⟨"java/lang/Object", "<init>", "()V"⟩ ∈ lw_g := lw_gm (tin1 (List.mem_of_getElem? (i := 35) (by decide +kernel))) (by decide +kernel)
theorem q1_205 : Cond.methodLink "JokePump$Reader" 3 ⟨"java/lang/Object", "<init>", "()V"⟩ ∈ lw_g := lw_gm (tin1 (List.mem_of_getElem? (i := 205) (by decide +kernel))) (by decide +kernel)
theorem q1_41 : Cond.methodLink "JokePump$Row" 1 ⟨"java/lang/Object", "<init>", "()V"⟩ ∈ lw_g := lw_gm (tin1 (List.mem_of_getElem? (i := 41) (by decide +kernel))) (by decide +kernel)
theorem q1_29 : Cond.methodLink "JokePump$State" 3 ⟨"java/lang/Object", "<init>", "()V"⟩ ∈ lw_g := lw_gm (tin1 (List.mem_of_getElem? (i := 29) (by decide +kernel))) (by decide +kernel)
theorem q1_189 : Cond.methodLink "JokePump$Strip" 3 ⟨"java/lang/Object", "<init>", "()V"⟩ ∈ lw_g := lw_gm (tin1 (List.mem_of_getElem? (i := 189) (by decide +kernel))) (by decide +kernel)
theorem q1_81 : Cond.methodLink "JokePump$Told" 3 ⟨"java/lang/Object", "<init>", "()V"⟩ ∈ lw_g := lw_gm (tin1 (List.mem_of_getElem? (i := 81) (by decide +kernel))) (by decide +kernel)
theorem q1_21 : Cond.methodLink "JokePump" 3 ⟨"java/lang/Object", "<init>", "()V"⟩ ∈ lw_g := lw_gm (tin1 (List.mem_of_getElem? (i := 21) (by decide +kernel))) (by decide +kernel)
theorem q1_46 : Cond.arrayClass .int ∈ lw_g := lw_gm (tin1 (List.mem_of_getElem? (i := 46) (by decide +kernel))) (by decide +kernel)
theorem q1_199 : Cond.arrayClass .char ∈ lw_g := lw_gm (tin1 (List.mem_of_getElem? (i := 199) (by decide +kernel))) (by decide +kernel)
theorem q1_108 : Cond.arrayClass .float ∈ lw_g := lw_gm (tin1 (List.mem_of_getElem? (i := 108) (by decide +kernel))) (by decide +kernel)
set_option maxRecDepth 40000 in
set_option maxHeartbeats 2000000 in
theorem c_X3_init (l : Launch) (g : gT) {ad : Nat → Nat} {F : Nat → va_E} (i z : Nat) (hz0 : 0 < z) (hz : z ≤ 1000) (hF : F i = .inr (3, [.null])) : CtN l yX3_init cX3_init 2 1 20 1 z g (i + 1) 1 ad F [.ref (ad i), .int (nI z)] (fun ad1 F1 => (oRow g (i + 2) ad1 F1 i z (fun _ => nI 0)) ∧ ∀ j, j < i → F1 j = F j) := by
  refine met_bodyN (by decide) rfl (Nat.le_of_ble_eq_true rfl) ?_
  intro p e s m args below meth c A H ls hA X M h hAO hnm hl
  have kx := X.1.1
  have kb := X.1.2.1
  have hl : lv_has ls 2 [(0, .ref (ad i)), (1, .int (nI z))] := hl
  have hag0 : ∀ j, j < (i + 1) → ad j = ad j := fun _ _ => rfl
  refine lv_aload_n kx kb dX3_init_0 rfl (lv_at hl 0 rfl) ?_
  refine w_objI X hl q1_41 q1_22 wo_code ⟨Nat.le_of_ble_eq_true rfl, Nat.le_of_ble_eq_true rfl⟩ (Nat.le_of_ble_eq_true rfl) dX3_init_1 ?_
  refine lv_aload_n kx kb dX3_init_4 rfl (lv_at hl 0 rfl) ?_
  refine lv_iload_n kx kb dX3_init_5 rfl (lv_at hl 1 rfl) ?_
  refine w_if_le (tgt := 13) kx kb (by omega) dX3_init_6 (by decide) (fun c_1 => (show False by omega).elim) (fun c_1 => ?_)
  refine lv_iload_n kx kb dX3_init_9 rfl (lv_at hl 1 rfl) ?_
  refine lv_goto (tgt := 14) kx kb dX3_init_10 (by decide) ?_
  refine w_newI X (show (i + 1) + 1 = (i + 2) by omega) M h q1_46 (by omega) (by omega) ⟨(by show 0 + 1 ≤ 1; omega), (by show 0 + z ≤ z; omega)⟩ dX3_init_14 (fun ad2 F2 H M h hag_2 hn_2 hfr_2 => ?_)
  have hO_3 : F2 i = .inr (3, [.null]) := by rw [hfr_2 i (by omega), hF]
  rw [← hag_2 i (by omega)] at hl
  rw [← hag_2 i (by omega)]
  have hag0 : ∀ j, j < (i + 1) → ad2 j = ad j := fun j hj => (hag_2 j (by omega)).trans (hag0 j hj)
  have hf0 : ∀ j, j < i → F2 j = F j := fun j hj => hfr_2 j (by omega)
  refine w_putF X M h hnm i hO_3 (by omega) fF_X3_7 rfl rfl (Nat.le_of_ble_eq_true rfl) dX3_init_16 (fun F4 H locs h he_F4 hf_F4 => ?_)
  have hA_5 := hn_2.fr (hf_F4 (i + 1) (by omega))
  have hf0 : ∀ j, j < i → F4 j = F j := fun j hj => (hf_F4 j (by omega)).trans (hf0 j hj)
  have hO_6 : F4 i = .inr (3, [.ref (ad2 (i + 1))]) := he_F4
  rw [Nat.zero_add z]
  exact w_nret (post := fun ad1 F1 => (oRow g (i + 2) ad1 F1 i z (fun _ => nI 0)) ∧ ∀ j, j < i → F1 j = F j) X M h hA hag0 ⟨⟨by omega, hO_6, hA_5⟩, hf0⟩ dX3_init_19
set_option maxRecDepth 40000 in
set_option maxHeartbeats 2000000 in
theorem c_X5_init (l : Launch) (g : gT) {ad : Nat → Nat} {F : Nat → va_E} (i : Nat) (hF : F i = .inr (5, [.null, .int 0])) : CtN l yX5_init cX5_init 1 1 20 1 60 g (i + 1) 1 ad F [.ref (ad i)] (fun ad1 F1 => (oStrip g (i + 2) ad1 F1 i 0 (fun _ => nI 0)) ∧ ∀ j, j < i → F1 j = F j) := by
  refine met_bodyN (by decide) rfl (Nat.le_of_ble_eq_true rfl) ?_
  intro p e s m args below meth c A H ls hA X M h hAO hnm hl
  have kx := X.1.1
  have kb := X.1.2.1
  have hl : lv_has ls 1 [(0, .ref (ad i))] := hl
  have hag0 : ∀ j, j < (i + 1) → ad j = ad j := fun _ _ => rfl
  refine lv_aload_n kx kb dX5_init_0 rfl (lv_at hl 0 rfl) ?_
  refine w_objI X hl q1_189 q1_22 wo_code ⟨Nat.le_of_ble_eq_true rfl, Nat.le_of_ble_eq_true rfl⟩ (Nat.le_of_ble_eq_true rfl) dX5_init_1 ?_
  refine lv_aload_n kx kb dX5_init_4 rfl (lv_at hl 0 rfl) ?_
  refine lv_bipush (v := nI 60) kx kb dX5_init_5 (by decide) ?_
  refine w_newC X (show (i + 1) + 1 = (i + 2) by omega) M h q1_199 (by omega) (by omega) ⟨(by decide), (by decide)⟩ dX5_init_7 (fun ad1 F1 H M h hag_1 hn_1 hfr_1 => ?_)
  have hO_2 : F1 i = .inr (5, [.null, .int 0]) := by rw [hfr_1 i (by omega), hF]
  rw [← hag_1 i (by omega)] at hl
  rw [← hag_1 i (by omega)]
  have hag0 : ∀ j, j < (i + 1) → ad1 j = ad j := fun j hj => (hag_1 j (by omega)).trans (hag0 j hj)
  have hf0 : ∀ j, j < i → F1 j = F j := fun j hj => hfr_1 j (by omega)
  refine w_putF X M h hnm i hO_2 (by omega) fF_X5_9 rfl rfl (Nat.le_of_ble_eq_true rfl) dX5_init_9 (fun F3 H locs h he_F3 hf_F3 => ?_)
  have hA_4 := hn_1.fr (hf_F3 (i + 1) (by omega))
  have hf0 : ∀ j, j < i → F3 j = F j := fun j hj => (hf_F3 j (by omega)).trans (hf0 j hj)
  have hO_5 : F3 i = .inr (5, [.ref (ad1 (i + 1)), .int 0]) := he_F3
  refine lv_aload_n kx kb dX5_init_12 rfl (lv_at hl 0 rfl) ?_
  refine lv_iconst (v := nI 0) kx kb dX5_init_13 (by decide) ?_
  refine w_put X M h i hO_5 (by omega) fp_X5_15 (rfl) (by rfl) (Nat.le_of_ble_eq_true rfl) dX5_init_14 (fun F6 H locs h he_F6 hf_F6 => ?_)
  have hA_7 := hA_4.fr (hf_F6 (i + 1) (by omega))
  have hf0 : ∀ j, j < i → F6 j = F j := fun j hj => (hf_F6 j (by omega)).trans (hf0 j hj)
  have hO_8 : F6 i = .inr (5, [.ref (ad1 (i + 1)), .int (nI 0)]) := he_F6
  exact w_nret (post := fun ad1 F1 => (oStrip g (i + 2) ad1 F1 i 0 (fun _ => nI 0)) ∧ ∀ j, j < i → F1 j = F j) X M h hA hag0 ⟨⟨by omega, hO_8, hA_7⟩, hf0⟩ dX5_init_17
set_option maxRecDepth 40000 in
set_option maxHeartbeats 2000000 in
theorem c_X1_init (l : Launch) (g : gT) {ad : Nat → Nat} {F : Nat → va_E} (i : Nat) (hF : F i = .inr (1, [.int 0, .null, .null, .null, .null, .null])) : CtN l yX1_init cX1_init 1 2 41 10 65 g (i + 1) 10 ad F [.ref (ad i)] (fun ad1 F1 => (oJokes g (i + 11) ad1 F1 i 0 (fun _ _ => nI 0)) ∧ ∀ j, j < i → F1 j = F j) := by
  refine met_bodyN (by decide) rfl (Nat.le_of_ble_eq_true rfl) ?_
  intro p e s m args below meth c A H ls hA X M h hAO hnm hl
  have kx := X.1.1
  have kb := X.1.2.1
  have hl : lv_has ls 1 [(0, .ref (ad i))] := hl
  have hag0 : ∀ j, j < (i + 1) → ad j = ad j := fun _ _ => rfl
  refine lv_aload_n kx kb dX1_init_0 rfl (lv_at hl 0 rfl) ?_
  refine w_objI X hl q1_35 q1_22 wo_code ⟨Nat.le_of_ble_eq_true rfl, Nat.le_of_ble_eq_true rfl⟩ (Nat.le_of_ble_eq_true rfl) dX1_init_1 ?_
  refine lv_aload_n kx kb dX1_init_4 rfl (lv_at hl 0 rfl) ?_
  refine lv_iconst (v := nI 0) kx kb dX1_init_5 (by decide) ?_
  refine w_put X M h i hF (by omega) fp_X1_9 (rfl) (by rfl) (Nat.le_of_ble_eq_true rfl) dX1_init_6 (fun F1 H locs h he_F1 hf_F1 => ?_)
  have hf0 : ∀ j, j < i → F1 j = F j := fun j hj => hf_F1 j (by omega)
  have hO_2 : F1 i = .inr (1, [.int (nI 0), .null, .null, .null, .null, .null]) := he_F1
  refine lv_aload_n kx kb dX1_init_9 rfl (lv_at hl 0 rfl) ?_
  refine w_new X (show (i + 1) + 1 = (i + 2) by omega) M h nw_X1_15 ⟨(by decide), (by decide)⟩ dX1_init_10 (fun ad3 F3 H M h hag_3 hn_3 hfr_3 => ?_)
  have hO_4 : F3 i = .inr (1, [.int (nI 0), .null, .null, .null, .null, .null]) := by rw [hfr_3 i (by omega), hO_2]
  rw [← hag_3 i (by omega)] at hl
  rw [← hag_3 i (by omega)]
  have hag0 : ∀ j, j < (i + 1) → ad3 j = ad j := fun j hj => (hag_3 j (by omega)).trans (hag0 j hj)
  have hf0 : ∀ j, j < i → F3 j = F j := fun j hj => (hfr_3 j (by omega)).trans (hf0 j hj)
  refine lv_dup kx kb dX1_init_13 rfl ?_
  refine lv_bipush (v := nI 12) kx kb dX1_init_14 (by decide) ?_
  refine w_callI X (show (i + 2) + 1 = (i + 3) by omega) M h hAO [.int (nI 12)] [.ref (ad3 (i + 1)), .ref (ad3 i)] (c_X3_init l g (i + 1) 12 (by omega) (by omega) hn_3) li_X1_17 rfl ⟨by decide, by decide⟩ hl ⟨(by decide), (by decide)⟩ (Nat.le_of_ble_eq_true rfl) rfl dX1_init_16 (fun ad5 F5 H locs hp_5 M h hag_5 => ?_)
  have hfr_5 := hp_5.2
  have hO_6 : F5 i = .inr (1, [.int (nI 0), .null, .null, .null, .null, .null]) := by rw [hfr_5 i (by omega), hO_4]
  rw [← hag_5 i (by omega)] at hl
  rw [← hag_5 (i + 1) (by omega)]
  rw [← hag_5 i (by omega)]
  have hag0 : ∀ j, j < (i + 1) → ad5 j = ad j := fun j hj => (hag_5 j (by omega)).trans (hag0 j hj)
  have hf0 : ∀ j, j < i → F5 j = F j := fun j hj => (hfr_5 j (by omega)).trans (hf0 j hj)
  refine w_putF X M h hnm i hO_6 (by omega) fF_X1_20 rfl rfl (Nat.le_of_ble_eq_true rfl) dX1_init_19 (fun F7 H locs h he_F7 hf_F7 => ?_)
  have hO_8 := (hf_F7 (i + 1) (by omega)).trans hp_5.1.2.1
  have hA_9 := hp_5.1.2.2.fr (hf_F7 (i + 2) (by omega))
  have hf0 : ∀ j, j < i → F7 j = F j := fun j hj => (hf_F7 j (by omega)).trans (hf0 j hj)
  have hO_10 : F7 i = .inr (1, [.int (nI 0), .ref (ad5 (i + 1)), .null, .null, .null, .null]) := he_F7
  refine lv_aload_n kx kb dX1_init_22 rfl (lv_at hl 0 rfl) ?_
  refine w_new X (show (i + 3) + 1 = (i + 4) by omega) M h nw_X1_15 ⟨(by decide), (by decide)⟩ dX1_init_23 (fun ad11 F11 H M h hag_11 hn_11 hfr_11 => ?_)
  have hO_12 : F11 (i + 1) = .inr (3, [.ref (ad11 (i + 2))]) := by rw [hfr_11 (i + 1) (by omega), hO_8, hag_11 (i + 2) (by omega)]
  have hA_13 := hA_9.fr (hfr_11 (i + 2) (by omega))
  have hO_14 : F11 i = .inr (1, [.int (nI 0), .ref (ad11 (i + 1)), .null, .null, .null, .null]) := by rw [hfr_11 i (by omega), hO_10, hag_11 (i + 1) (by omega)]
  rw [← hag_11 i (by omega)] at hl
  rw [← hag_11 i (by omega)]
  have hag0 : ∀ j, j < (i + 1) → ad11 j = ad j := fun j hj => (hag_11 j (by omega)).trans (hag0 j hj)
  have hf0 : ∀ j, j < i → F11 j = F j := fun j hj => (hfr_11 j (by omega)).trans (hf0 j hj)
  refine lv_dup kx kb dX1_init_26 rfl ?_
  refine lv_bipush (v := nI 12) kx kb dX1_init_27 (by decide) ?_
  refine w_callI X (show (i + 4) + 1 = (i + 5) by omega) M h hAO [.int (nI 12)] [.ref (ad11 (i + 3)), .ref (ad11 i)] (c_X3_init l g (i + 3) 12 (by omega) (by omega) hn_11) li_X1_17 rfl ⟨by decide, by decide⟩ hl ⟨(by decide), (by decide)⟩ (Nat.le_of_ble_eq_true rfl) rfl dX1_init_29 (fun ad15 F15 H locs hp_15 M h hag_15 => ?_)
  have hfr_15 := hp_15.2
  have hO_16 : F15 (i + 1) = .inr (3, [.ref (ad15 (i + 2))]) := by rw [hfr_15 (i + 1) (by omega), hO_12, hag_15 (i + 2) (by omega)]
  have hA_17 := hA_13.fr (hfr_15 (i + 2) (by omega))
  have hO_18 : F15 i = .inr (1, [.int (nI 0), .ref (ad15 (i + 1)), .null, .null, .null, .null]) := by rw [hfr_15 i (by omega), hO_14, hag_15 (i + 1) (by omega)]
  rw [← hag_15 i (by omega)] at hl
  rw [← hag_15 (i + 3) (by omega)]
  rw [← hag_15 i (by omega)]
  have hag0 : ∀ j, j < (i + 1) → ad15 j = ad j := fun j hj => (hag_15 j (by omega)).trans (hag0 j hj)
  have hf0 : ∀ j, j < i → F15 j = F j := fun j hj => (hfr_15 j (by omega)).trans (hf0 j hj)
  refine w_putF X M h hnm i hO_18 (by omega) fF_X1_24 rfl rfl (Nat.le_of_ble_eq_true rfl) dX1_init_32 (fun F19 H locs h he_F19 hf_F19 => ?_)
  have hO_20 := (hf_F19 (i + 1) (by omega)).trans hO_16
  have hA_21 := hA_17.fr (hf_F19 (i + 2) (by omega))
  have hO_22 := (hf_F19 (i + 3) (by omega)).trans hp_15.1.2.1
  have hA_23 := hp_15.1.2.2.fr (hf_F19 (i + 4) (by omega))
  have hf0 : ∀ j, j < i → F19 j = F j := fun j hj => (hf_F19 j (by omega)).trans (hf0 j hj)
  have hO_24 : F19 i = .inr (1, [.int (nI 0), .ref (ad15 (i + 1)), .ref (ad15 (i + 3)), .null, .null, .null]) := he_F19
  refine lv_aload_n kx kb dX1_init_35 rfl (lv_at hl 0 rfl) ?_
  refine w_new X (show (i + 5) + 1 = (i + 6) by omega) M h nw_X1_15 ⟨(by decide), (by decide)⟩ dX1_init_36 (fun ad25 F25 H M h hag_25 hn_25 hfr_25 => ?_)
  have hO_26 : F25 (i + 1) = .inr (3, [.ref (ad25 (i + 2))]) := by rw [hfr_25 (i + 1) (by omega), hO_20, hag_25 (i + 2) (by omega)]
  have hA_27 := hA_21.fr (hfr_25 (i + 2) (by omega))
  have hO_28 : F25 (i + 3) = .inr (3, [.ref (ad25 (i + 4))]) := by rw [hfr_25 (i + 3) (by omega), hO_22, hag_25 (i + 4) (by omega)]
  have hA_29 := hA_23.fr (hfr_25 (i + 4) (by omega))
  have hO_30 : F25 i = .inr (1, [.int (nI 0), .ref (ad25 (i + 1)), .ref (ad25 (i + 3)), .null, .null, .null]) := by rw [hfr_25 i (by omega), hO_24, hag_25 (i + 1) (by omega), hag_25 (i + 3) (by omega)]
  rw [← hag_25 i (by omega)] at hl
  rw [← hag_25 i (by omega)]
  have hag0 : ∀ j, j < (i + 1) → ad25 j = ad j := fun j hj => (hag_25 j (by omega)).trans (hag0 j hj)
  have hf0 : ∀ j, j < i → F25 j = F j := fun j hj => (hfr_25 j (by omega)).trans (hf0 j hj)
  refine lv_dup kx kb dX1_init_39 rfl ?_
  refine lv_bipush (v := nI 12) kx kb dX1_init_40 (by decide) ?_
  refine w_callI X (show (i + 6) + 1 = (i + 7) by omega) M h hAO [.int (nI 12)] [.ref (ad25 (i + 5)), .ref (ad25 i)] (c_X3_init l g (i + 5) 12 (by omega) (by omega) hn_25) li_X1_17 rfl ⟨by decide, by decide⟩ hl ⟨(by decide), (by decide)⟩ (Nat.le_of_ble_eq_true rfl) rfl dX1_init_42 (fun ad31 F31 H locs hp_31 M h hag_31 => ?_)
  have hfr_31 := hp_31.2
  have hO_32 : F31 (i + 1) = .inr (3, [.ref (ad31 (i + 2))]) := by rw [hfr_31 (i + 1) (by omega), hO_26, hag_31 (i + 2) (by omega)]
  have hA_33 := hA_27.fr (hfr_31 (i + 2) (by omega))
  have hO_34 : F31 (i + 3) = .inr (3, [.ref (ad31 (i + 4))]) := by rw [hfr_31 (i + 3) (by omega), hO_28, hag_31 (i + 4) (by omega)]
  have hA_35 := hA_29.fr (hfr_31 (i + 4) (by omega))
  have hO_36 : F31 i = .inr (1, [.int (nI 0), .ref (ad31 (i + 1)), .ref (ad31 (i + 3)), .null, .null, .null]) := by rw [hfr_31 i (by omega), hO_30, hag_31 (i + 1) (by omega), hag_31 (i + 3) (by omega)]
  rw [← hag_31 i (by omega)] at hl
  rw [← hag_31 (i + 5) (by omega)]
  rw [← hag_31 i (by omega)]
  have hag0 : ∀ j, j < (i + 1) → ad31 j = ad j := fun j hj => (hag_31 j (by omega)).trans (hag0 j hj)
  have hf0 : ∀ j, j < i → F31 j = F j := fun j hj => (hfr_31 j (by omega)).trans (hf0 j hj)
  refine w_putF X M h hnm i hO_36 (by omega) fF_X1_27 rfl rfl (Nat.le_of_ble_eq_true rfl) dX1_init_45 (fun F37 H locs h he_F37 hf_F37 => ?_)
  have hO_38 := (hf_F37 (i + 1) (by omega)).trans hO_32
  have hA_39 := hA_33.fr (hf_F37 (i + 2) (by omega))
  have hO_40 := (hf_F37 (i + 3) (by omega)).trans hO_34
  have hA_41 := hA_35.fr (hf_F37 (i + 4) (by omega))
  have hO_42 := (hf_F37 (i + 5) (by omega)).trans hp_31.1.2.1
  have hA_43 := hp_31.1.2.2.fr (hf_F37 (i + 6) (by omega))
  have hf0 : ∀ j, j < i → F37 j = F j := fun j hj => (hf_F37 j (by omega)).trans (hf0 j hj)
  have hO_44 : F37 i = .inr (1, [.int (nI 0), .ref (ad31 (i + 1)), .ref (ad31 (i + 3)), .ref (ad31 (i + 5)), .null, .null]) := he_F37
  refine lv_aload_n kx kb dX1_init_48 rfl (lv_at hl 0 rfl) ?_
  refine w_new X (show (i + 7) + 1 = (i + 8) by omega) M h nw_X1_15 ⟨(by decide), (by decide)⟩ dX1_init_49 (fun ad45 F45 H M h hag_45 hn_45 hfr_45 => ?_)
  have hO_46 : F45 (i + 1) = .inr (3, [.ref (ad45 (i + 2))]) := by rw [hfr_45 (i + 1) (by omega), hO_38, hag_45 (i + 2) (by omega)]
  have hA_47 := hA_39.fr (hfr_45 (i + 2) (by omega))
  have hO_48 : F45 (i + 3) = .inr (3, [.ref (ad45 (i + 4))]) := by rw [hfr_45 (i + 3) (by omega), hO_40, hag_45 (i + 4) (by omega)]
  have hA_49 := hA_41.fr (hfr_45 (i + 4) (by omega))
  have hO_50 : F45 (i + 5) = .inr (3, [.ref (ad45 (i + 6))]) := by rw [hfr_45 (i + 5) (by omega), hO_42, hag_45 (i + 6) (by omega)]
  have hA_51 := hA_43.fr (hfr_45 (i + 6) (by omega))
  have hO_52 : F45 i = .inr (1, [.int (nI 0), .ref (ad45 (i + 1)), .ref (ad45 (i + 3)), .ref (ad45 (i + 5)), .null, .null]) := by rw [hfr_45 i (by omega), hO_44, hag_45 (i + 1) (by omega), hag_45 (i + 3) (by omega), hag_45 (i + 5) (by omega)]
  rw [← hag_45 i (by omega)] at hl
  rw [← hag_45 i (by omega)]
  have hag0 : ∀ j, j < (i + 1) → ad45 j = ad j := fun j hj => (hag_45 j (by omega)).trans (hag0 j hj)
  have hf0 : ∀ j, j < i → F45 j = F j := fun j hj => (hfr_45 j (by omega)).trans (hf0 j hj)
  refine lv_dup kx kb dX1_init_52 rfl ?_
  refine lv_bipush (v := nI 12) kx kb dX1_init_53 (by decide) ?_
  refine w_callI X (show (i + 8) + 1 = (i + 9) by omega) M h hAO [.int (nI 12)] [.ref (ad45 (i + 7)), .ref (ad45 i)] (c_X3_init l g (i + 7) 12 (by omega) (by omega) hn_45) li_X1_17 rfl ⟨by decide, by decide⟩ hl ⟨(by decide), (by decide)⟩ (Nat.le_of_ble_eq_true rfl) rfl dX1_init_55 (fun ad53 F53 H locs hp_53 M h hag_53 => ?_)
  have hfr_53 := hp_53.2
  have hO_54 : F53 (i + 1) = .inr (3, [.ref (ad53 (i + 2))]) := by rw [hfr_53 (i + 1) (by omega), hO_46, hag_53 (i + 2) (by omega)]
  have hA_55 := hA_47.fr (hfr_53 (i + 2) (by omega))
  have hO_56 : F53 (i + 3) = .inr (3, [.ref (ad53 (i + 4))]) := by rw [hfr_53 (i + 3) (by omega), hO_48, hag_53 (i + 4) (by omega)]
  have hA_57 := hA_49.fr (hfr_53 (i + 4) (by omega))
  have hO_58 : F53 (i + 5) = .inr (3, [.ref (ad53 (i + 6))]) := by rw [hfr_53 (i + 5) (by omega), hO_50, hag_53 (i + 6) (by omega)]
  have hA_59 := hA_51.fr (hfr_53 (i + 6) (by omega))
  have hO_60 : F53 i = .inr (1, [.int (nI 0), .ref (ad53 (i + 1)), .ref (ad53 (i + 3)), .ref (ad53 (i + 5)), .null, .null]) := by rw [hfr_53 i (by omega), hO_52, hag_53 (i + 1) (by omega), hag_53 (i + 3) (by omega), hag_53 (i + 5) (by omega)]
  rw [← hag_53 i (by omega)] at hl
  rw [← hag_53 (i + 7) (by omega)]
  rw [← hag_53 i (by omega)]
  have hag0 : ∀ j, j < (i + 1) → ad53 j = ad j := fun j hj => (hag_53 j (by omega)).trans (hag0 j hj)
  have hf0 : ∀ j, j < i → F53 j = F j := fun j hj => (hfr_53 j (by omega)).trans (hf0 j hj)
  refine w_putF X M h hnm i hO_60 (by omega) fF_X1_30 rfl rfl (Nat.le_of_ble_eq_true rfl) dX1_init_58 (fun F61 H locs h he_F61 hf_F61 => ?_)
  have hO_62 := (hf_F61 (i + 1) (by omega)).trans hO_54
  have hA_63 := hA_55.fr (hf_F61 (i + 2) (by omega))
  have hO_64 := (hf_F61 (i + 3) (by omega)).trans hO_56
  have hA_65 := hA_57.fr (hf_F61 (i + 4) (by omega))
  have hO_66 := (hf_F61 (i + 5) (by omega)).trans hO_58
  have hA_67 := hA_59.fr (hf_F61 (i + 6) (by omega))
  have hO_68 := (hf_F61 (i + 7) (by omega)).trans hp_53.1.2.1
  have hA_69 := hp_53.1.2.2.fr (hf_F61 (i + 8) (by omega))
  have hf0 : ∀ j, j < i → F61 j = F j := fun j hj => (hf_F61 j (by omega)).trans (hf0 j hj)
  have hO_70 : F61 i = .inr (1, [.int (nI 0), .ref (ad53 (i + 1)), .ref (ad53 (i + 3)), .ref (ad53 (i + 5)), .ref (ad53 (i + 7)), .null]) := he_F61
  refine lv_aload_n kx kb dX1_init_61 rfl (lv_at hl 0 rfl) ?_
  refine w_new X (show (i + 9) + 1 = (i + 10) by omega) M h nw_X1_15 ⟨(by decide), (by decide)⟩ dX1_init_62 (fun ad71 F71 H M h hag_71 hn_71 hfr_71 => ?_)
  have hO_72 : F71 (i + 1) = .inr (3, [.ref (ad71 (i + 2))]) := by rw [hfr_71 (i + 1) (by omega), hO_62, hag_71 (i + 2) (by omega)]
  have hA_73 := hA_63.fr (hfr_71 (i + 2) (by omega))
  have hO_74 : F71 (i + 3) = .inr (3, [.ref (ad71 (i + 4))]) := by rw [hfr_71 (i + 3) (by omega), hO_64, hag_71 (i + 4) (by omega)]
  have hA_75 := hA_65.fr (hfr_71 (i + 4) (by omega))
  have hO_76 : F71 (i + 5) = .inr (3, [.ref (ad71 (i + 6))]) := by rw [hfr_71 (i + 5) (by omega), hO_66, hag_71 (i + 6) (by omega)]
  have hA_77 := hA_67.fr (hfr_71 (i + 6) (by omega))
  have hO_78 : F71 (i + 7) = .inr (3, [.ref (ad71 (i + 8))]) := by rw [hfr_71 (i + 7) (by omega), hO_68, hag_71 (i + 8) (by omega)]
  have hA_79 := hA_69.fr (hfr_71 (i + 8) (by omega))
  have hO_80 : F71 i = .inr (1, [.int (nI 0), .ref (ad71 (i + 1)), .ref (ad71 (i + 3)), .ref (ad71 (i + 5)), .ref (ad71 (i + 7)), .null]) := by rw [hfr_71 i (by omega), hO_70, hag_71 (i + 1) (by omega), hag_71 (i + 3) (by omega), hag_71 (i + 5) (by omega), hag_71 (i + 7) (by omega)]
  rw [← hag_71 i (by omega)] at hl
  rw [← hag_71 i (by omega)]
  have hag0 : ∀ j, j < (i + 1) → ad71 j = ad j := fun j hj => (hag_71 j (by omega)).trans (hag0 j hj)
  have hf0 : ∀ j, j < i → F71 j = F j := fun j hj => (hfr_71 j (by omega)).trans (hf0 j hj)
  refine lv_dup kx kb dX1_init_65 rfl ?_
  refine lv_bipush (v := nI 12) kx kb dX1_init_66 (by decide) ?_
  refine w_callI X (show (i + 10) + 1 = (i + 11) by omega) M h hAO [.int (nI 12)] [.ref (ad71 (i + 9)), .ref (ad71 i)] (c_X3_init l g (i + 9) 12 (by omega) (by omega) hn_71) li_X1_17 rfl ⟨by decide, by decide⟩ hl ⟨(by decide), (by decide)⟩ (Nat.le_of_ble_eq_true rfl) rfl dX1_init_68 (fun ad81 F81 H locs hp_81 M h hag_81 => ?_)
  have hfr_81 := hp_81.2
  have hO_82 : F81 (i + 1) = .inr (3, [.ref (ad81 (i + 2))]) := by rw [hfr_81 (i + 1) (by omega), hO_72, hag_81 (i + 2) (by omega)]
  have hA_83 := hA_73.fr (hfr_81 (i + 2) (by omega))
  have hO_84 : F81 (i + 3) = .inr (3, [.ref (ad81 (i + 4))]) := by rw [hfr_81 (i + 3) (by omega), hO_74, hag_81 (i + 4) (by omega)]
  have hA_85 := hA_75.fr (hfr_81 (i + 4) (by omega))
  have hO_86 : F81 (i + 5) = .inr (3, [.ref (ad81 (i + 6))]) := by rw [hfr_81 (i + 5) (by omega), hO_76, hag_81 (i + 6) (by omega)]
  have hA_87 := hA_77.fr (hfr_81 (i + 6) (by omega))
  have hO_88 : F81 (i + 7) = .inr (3, [.ref (ad81 (i + 8))]) := by rw [hfr_81 (i + 7) (by omega), hO_78, hag_81 (i + 8) (by omega)]
  have hA_89 := hA_79.fr (hfr_81 (i + 8) (by omega))
  have hO_90 : F81 i = .inr (1, [.int (nI 0), .ref (ad81 (i + 1)), .ref (ad81 (i + 3)), .ref (ad81 (i + 5)), .ref (ad81 (i + 7)), .null]) := by rw [hfr_81 i (by omega), hO_80, hag_81 (i + 1) (by omega), hag_81 (i + 3) (by omega), hag_81 (i + 5) (by omega), hag_81 (i + 7) (by omega)]
  rw [← hag_81 i (by omega)] at hl
  rw [← hag_81 (i + 9) (by omega)]
  rw [← hag_81 i (by omega)]
  have hag0 : ∀ j, j < (i + 1) → ad81 j = ad j := fun j hj => (hag_81 j (by omega)).trans (hag0 j hj)
  have hf0 : ∀ j, j < i → F81 j = F j := fun j hj => (hfr_81 j (by omega)).trans (hf0 j hj)
  refine w_putF X M h hnm i hO_90 (by omega) fF_X1_33 rfl rfl (Nat.le_of_ble_eq_true rfl) dX1_init_71 (fun F91 H locs h he_F91 hf_F91 => ?_)
  have hO_92 := (hf_F91 (i + 1) (by omega)).trans hO_82
  have hA_93 := hA_83.fr (hf_F91 (i + 2) (by omega))
  have hO_94 := (hf_F91 (i + 3) (by omega)).trans hO_84
  have hA_95 := hA_85.fr (hf_F91 (i + 4) (by omega))
  have hO_96 := (hf_F91 (i + 5) (by omega)).trans hO_86
  have hA_97 := hA_87.fr (hf_F91 (i + 6) (by omega))
  have hO_98 := (hf_F91 (i + 7) (by omega)).trans hO_88
  have hA_99 := hA_89.fr (hf_F91 (i + 8) (by omega))
  have hO_100 := (hf_F91 (i + 9) (by omega)).trans hp_81.1.2.1
  have hA_101 := hp_81.1.2.2.fr (hf_F91 (i + 10) (by omega))
  have hf0 : ∀ j, j < i → F91 j = F j := fun j hj => (hf_F91 j (by omega)).trans (hf0 j hj)
  have hO_102 : F91 i = .inr (1, [.int (nI 0), .ref (ad81 (i + 1)), .ref (ad81 (i + 3)), .ref (ad81 (i + 5)), .ref (ad81 (i + 7)), .ref (ad81 (i + 9))]) := he_F91
  exact w_nret (post := fun ad1 F1 => (oJokes g (i + 11) ad1 F1 i 0 (fun _ _ => nI 0)) ∧ ∀ j, j < i → F1 j = F j) X M h hA hag0 ⟨⟨by omega, hO_102, ⟨by omega, hO_92, hA_93⟩, ⟨by omega, hO_94, hA_95⟩, ⟨by omega, hO_96, hA_97⟩, ⟨by omega, hO_98, hA_99⟩, ⟨by omega, hO_100, hA_101⟩⟩, hf0⟩ dX1_init_74
set_option maxRecDepth 40000 in
set_option maxHeartbeats 2000000 in
theorem c_X6_init (l : Launch) (g : gT) {ad : Nat → Nat} {F : Nat → va_E} (i : Nat) (hF : F i = .inr (6, [.int 0, .float 0, .null, .null, .null, .null])) : CtN l yX6_init cX6_init 1 2 41 7 259 g (i + 1) 7 ad F [.ref (ad i)] (fun ad1 F1 => (oTold g (i + 8) ad1 F1 i 0 FP.fconst0 (fun _ _ => nI 0) (fun _ => 0)) ∧ ∀ j, j < i → F1 j = F j) := by
  refine met_bodyN (by decide) rfl (Nat.le_of_ble_eq_true rfl) ?_
  intro p e s m args below meth c A H ls hA X M h hAO hnm hl
  have kx := X.1.1
  have kb := X.1.2.1
  have hl : lv_has ls 1 [(0, .ref (ad i))] := hl
  have hag0 : ∀ j, j < (i + 1) → ad j = ad j := fun _ _ => rfl
  refine lv_aload_n kx kb dX6_init_0 rfl (lv_at hl 0 rfl) ?_
  refine w_objI X hl q1_81 q1_22 wo_code ⟨Nat.le_of_ble_eq_true rfl, Nat.le_of_ble_eq_true rfl⟩ (Nat.le_of_ble_eq_true rfl) dX6_init_1 ?_
  refine lv_aload_n kx kb dX6_init_4 rfl (lv_at hl 0 rfl) ?_
  refine lv_iconst (v := nI 0) kx kb dX6_init_5 (by decide) ?_
  refine w_put X M h i hF (by omega) fp_X6_9 (rfl) (by rfl) (Nat.le_of_ble_eq_true rfl) dX6_init_6 (fun F1 H locs h he_F1 hf_F1 => ?_)
  have hf0 : ∀ j, j < i → F1 j = F j := fun j hj => hf_F1 j (by omega)
  have hO_2 : F1 i = .inr (6, [.int (nI 0), .float 0, .null, .null, .null, .null]) := he_F1
  refine lv_aload_n kx kb dX6_init_9 rfl (lv_at hl 0 rfl) ?_
  refine lv_fconst0 kx kb dX6_init_10 ?_
  refine w_put X M h i hO_2 (by omega) fp_X6_15 (rfl) (by rfl) (Nat.le_of_ble_eq_true rfl) dX6_init_11 (fun F3 H locs h he_F3 hf_F3 => ?_)
  have hf0 : ∀ j, j < i → F3 j = F j := fun j hj => (hf_F3 j (by omega)).trans (hf0 j hj)
  have hO_4 : F3 i = .inr (6, [.int (nI 0), .float FP.fconst0, .null, .null, .null, .null]) := he_F3
  refine lv_aload_n kx kb dX6_init_14 rfl (lv_at hl 0 rfl) ?_
  refine w_new X (show (i + 1) + 1 = (i + 2) by omega) M h nw_X6_19 ⟨(by decide), (by decide)⟩ dX6_init_15 (fun ad5 F5 H M h hag_5 hn_5 hfr_5 => ?_)
  have hO_6 : F5 i = .inr (6, [.int (nI 0), .float FP.fconst0, .null, .null, .null, .null]) := by rw [hfr_5 i (by omega), hO_4]
  rw [← hag_5 i (by omega)] at hl
  rw [← hag_5 i (by omega)]
  have hag0 : ∀ j, j < (i + 1) → ad5 j = ad j := fun j hj => (hag_5 j (by omega)).trans (hag0 j hj)
  have hf0 : ∀ j, j < i → F5 j = F j := fun j hj => (hfr_5 j (by omega)).trans (hf0 j hj)
  refine lv_dup kx kb dX6_init_18 rfl ?_
  refine lv_bipush (v := nI 64) kx kb dX6_init_19 (by decide) ?_
  refine w_callI X (show (i + 2) + 1 = (i + 3) by omega) M h hAO [.int (nI 64)] [.ref (ad5 (i + 1)), .ref (ad5 i)] (c_X3_init l g (i + 1) 64 (by omega) (by omega) hn_5) li_X6_21 rfl ⟨by decide, by decide⟩ hl ⟨(by decide), (by decide)⟩ (Nat.le_of_ble_eq_true rfl) rfl dX6_init_21 (fun ad7 F7 H locs hp_7 M h hag_7 => ?_)
  have hfr_7 := hp_7.2
  have hO_8 : F7 i = .inr (6, [.int (nI 0), .float FP.fconst0, .null, .null, .null, .null]) := by rw [hfr_7 i (by omega), hO_6]
  rw [← hag_7 i (by omega)] at hl
  rw [← hag_7 (i + 1) (by omega)]
  rw [← hag_7 i (by omega)]
  have hag0 : ∀ j, j < (i + 1) → ad7 j = ad j := fun j hj => (hag_7 j (by omega)).trans (hag0 j hj)
  have hf0 : ∀ j, j < i → F7 j = F j := fun j hj => (hfr_7 j (by omega)).trans (hf0 j hj)
  refine w_putF X M h hnm i hO_8 (by omega) fF_X6_24 rfl rfl (Nat.le_of_ble_eq_true rfl) dX6_init_24 (fun F9 H locs h he_F9 hf_F9 => ?_)
  have hO_10 := (hf_F9 (i + 1) (by omega)).trans hp_7.1.2.1
  have hA_11 := hp_7.1.2.2.fr (hf_F9 (i + 2) (by omega))
  have hf0 : ∀ j, j < i → F9 j = F j := fun j hj => (hf_F9 j (by omega)).trans (hf0 j hj)
  have hO_12 : F9 i = .inr (6, [.int (nI 0), .float FP.fconst0, .ref (ad7 (i + 1)), .null, .null, .null]) := he_F9
  refine lv_aload_n kx kb dX6_init_27 rfl (lv_at hl 0 rfl) ?_
  refine w_new X (show (i + 3) + 1 = (i + 4) by omega) M h nw_X6_19 ⟨(by decide), (by decide)⟩ dX6_init_28 (fun ad13 F13 H M h hag_13 hn_13 hfr_13 => ?_)
  have hO_14 : F13 (i + 1) = .inr (3, [.ref (ad13 (i + 2))]) := by rw [hfr_13 (i + 1) (by omega), hO_10, hag_13 (i + 2) (by omega)]
  have hA_15 := hA_11.fr (hfr_13 (i + 2) (by omega))
  have hO_16 : F13 i = .inr (6, [.int (nI 0), .float FP.fconst0, .ref (ad13 (i + 1)), .null, .null, .null]) := by rw [hfr_13 i (by omega), hO_12, hag_13 (i + 1) (by omega)]
  rw [← hag_13 i (by omega)] at hl
  rw [← hag_13 i (by omega)]
  have hag0 : ∀ j, j < (i + 1) → ad13 j = ad j := fun j hj => (hag_13 j (by omega)).trans (hag0 j hj)
  have hf0 : ∀ j, j < i → F13 j = F j := fun j hj => (hfr_13 j (by omega)).trans (hf0 j hj)
  refine lv_dup kx kb dX6_init_31 rfl ?_
  refine lv_bipush (v := nI 64) kx kb dX6_init_32 (by decide) ?_
  refine w_callI X (show (i + 4) + 1 = (i + 5) by omega) M h hAO [.int (nI 64)] [.ref (ad13 (i + 3)), .ref (ad13 i)] (c_X3_init l g (i + 3) 64 (by omega) (by omega) hn_13) li_X6_21 rfl ⟨by decide, by decide⟩ hl ⟨(by decide), (by decide)⟩ (Nat.le_of_ble_eq_true rfl) rfl dX6_init_34 (fun ad17 F17 H locs hp_17 M h hag_17 => ?_)
  have hfr_17 := hp_17.2
  have hO_18 : F17 (i + 1) = .inr (3, [.ref (ad17 (i + 2))]) := by rw [hfr_17 (i + 1) (by omega), hO_14, hag_17 (i + 2) (by omega)]
  have hA_19 := hA_15.fr (hfr_17 (i + 2) (by omega))
  have hO_20 : F17 i = .inr (6, [.int (nI 0), .float FP.fconst0, .ref (ad17 (i + 1)), .null, .null, .null]) := by rw [hfr_17 i (by omega), hO_16, hag_17 (i + 1) (by omega)]
  rw [← hag_17 i (by omega)] at hl
  rw [← hag_17 (i + 3) (by omega)]
  rw [← hag_17 i (by omega)]
  have hag0 : ∀ j, j < (i + 1) → ad17 j = ad j := fun j hj => (hag_17 j (by omega)).trans (hag0 j hj)
  have hf0 : ∀ j, j < i → F17 j = F j := fun j hj => (hfr_17 j (by omega)).trans (hf0 j hj)
  refine w_putF X M h hnm i hO_20 (by omega) fF_X6_28 rfl rfl (Nat.le_of_ble_eq_true rfl) dX6_init_37 (fun F21 H locs h he_F21 hf_F21 => ?_)
  have hO_22 := (hf_F21 (i + 1) (by omega)).trans hO_18
  have hA_23 := hA_19.fr (hf_F21 (i + 2) (by omega))
  have hO_24 := (hf_F21 (i + 3) (by omega)).trans hp_17.1.2.1
  have hA_25 := hp_17.1.2.2.fr (hf_F21 (i + 4) (by omega))
  have hf0 : ∀ j, j < i → F21 j = F j := fun j hj => (hf_F21 j (by omega)).trans (hf0 j hj)
  have hO_26 : F21 i = .inr (6, [.int (nI 0), .float FP.fconst0, .ref (ad17 (i + 1)), .ref (ad17 (i + 3)), .null, .null]) := he_F21
  refine lv_aload_n kx kb dX6_init_40 rfl (lv_at hl 0 rfl) ?_
  refine lv_bipush (v := nI 64) kx kb dX6_init_41 (by decide) ?_
  refine w_newF X (show (i + 5) + 1 = (i + 6) by omega) M h q1_108 (by omega) (by omega) ⟨(by decide), (by decide)⟩ dX6_init_43 (fun ad27 F27 H M h hag_27 hn_27 hfr_27 => ?_)
  have hO_28 : F27 (i + 1) = .inr (3, [.ref (ad27 (i + 2))]) := by rw [hfr_27 (i + 1) (by omega), hO_22, hag_27 (i + 2) (by omega)]
  have hA_29 := hA_23.fr (hfr_27 (i + 2) (by omega))
  have hO_30 : F27 (i + 3) = .inr (3, [.ref (ad27 (i + 4))]) := by rw [hfr_27 (i + 3) (by omega), hO_24, hag_27 (i + 4) (by omega)]
  have hA_31 := hA_25.fr (hfr_27 (i + 4) (by omega))
  have hO_32 : F27 i = .inr (6, [.int (nI 0), .float FP.fconst0, .ref (ad27 (i + 1)), .ref (ad27 (i + 3)), .null, .null]) := by rw [hfr_27 i (by omega), hO_26, hag_27 (i + 1) (by omega), hag_27 (i + 3) (by omega)]
  rw [← hag_27 i (by omega)] at hl
  rw [← hag_27 i (by omega)]
  have hag0 : ∀ j, j < (i + 1) → ad27 j = ad j := fun j hj => (hag_27 j (by omega)).trans (hag0 j hj)
  have hf0 : ∀ j, j < i → F27 j = F j := fun j hj => (hfr_27 j (by omega)).trans (hf0 j hj)
  refine w_putF X M h hnm i hO_32 (by omega) fF_X6_31 rfl rfl (Nat.le_of_ble_eq_true rfl) dX6_init_45 (fun F33 H locs h he_F33 hf_F33 => ?_)
  have hO_34 := (hf_F33 (i + 1) (by omega)).trans hO_28
  have hA_35 := hA_29.fr (hf_F33 (i + 2) (by omega))
  have hO_36 := (hf_F33 (i + 3) (by omega)).trans hO_30
  have hA_37 := hA_31.fr (hf_F33 (i + 4) (by omega))
  have hA_38 := hn_27.fr (hf_F33 (i + 5) (by omega))
  have hf0 : ∀ j, j < i → F33 j = F j := fun j hj => (hf_F33 j (by omega)).trans (hf0 j hj)
  have hO_39 : F33 i = .inr (6, [.int (nI 0), .float FP.fconst0, .ref (ad27 (i + 1)), .ref (ad27 (i + 3)), .ref (ad27 (i + 5)), .null]) := he_F33
  refine lv_aload_n kx kb dX6_init_48 rfl (lv_at hl 0 rfl) ?_
  refine w_new X (show (i + 6) + 1 = (i + 7) by omega) M h nw_X6_19 ⟨(by decide), (by decide)⟩ dX6_init_49 (fun ad40 F40 H M h hag_40 hn_40 hfr_40 => ?_)
  have hO_41 : F40 (i + 1) = .inr (3, [.ref (ad40 (i + 2))]) := by rw [hfr_40 (i + 1) (by omega), hO_34, hag_40 (i + 2) (by omega)]
  have hA_42 := hA_35.fr (hfr_40 (i + 2) (by omega))
  have hO_43 : F40 (i + 3) = .inr (3, [.ref (ad40 (i + 4))]) := by rw [hfr_40 (i + 3) (by omega), hO_36, hag_40 (i + 4) (by omega)]
  have hA_44 := hA_37.fr (hfr_40 (i + 4) (by omega))
  have hA_45 := hA_38.fr (hfr_40 (i + 5) (by omega))
  have hO_46 : F40 i = .inr (6, [.int (nI 0), .float FP.fconst0, .ref (ad40 (i + 1)), .ref (ad40 (i + 3)), .ref (ad40 (i + 5)), .null]) := by rw [hfr_40 i (by omega), hO_39, hag_40 (i + 1) (by omega), hag_40 (i + 3) (by omega), hag_40 (i + 5) (by omega)]
  rw [← hag_40 i (by omega)] at hl
  rw [← hag_40 i (by omega)]
  have hag0 : ∀ j, j < (i + 1) → ad40 j = ad j := fun j hj => (hag_40 j (by omega)).trans (hag0 j hj)
  have hf0 : ∀ j, j < i → F40 j = F j := fun j hj => (hfr_40 j (by omega)).trans (hf0 j hj)
  refine lv_dup kx kb dX6_init_52 rfl ?_
  refine lv_bipush (v := nI 64) kx kb dX6_init_53 (by decide) ?_
  refine w_callI X (show (i + 7) + 1 = (i + 8) by omega) M h hAO [.int (nI 64)] [.ref (ad40 (i + 6)), .ref (ad40 i)] (c_X3_init l g (i + 6) 64 (by omega) (by omega) hn_40) li_X6_21 rfl ⟨by decide, by decide⟩ hl ⟨(by decide), (by decide)⟩ (Nat.le_of_ble_eq_true rfl) rfl dX6_init_55 (fun ad47 F47 H locs hp_47 M h hag_47 => ?_)
  have hfr_47 := hp_47.2
  have hO_48 : F47 (i + 1) = .inr (3, [.ref (ad47 (i + 2))]) := by rw [hfr_47 (i + 1) (by omega), hO_41, hag_47 (i + 2) (by omega)]
  have hA_49 := hA_42.fr (hfr_47 (i + 2) (by omega))
  have hO_50 : F47 (i + 3) = .inr (3, [.ref (ad47 (i + 4))]) := by rw [hfr_47 (i + 3) (by omega), hO_43, hag_47 (i + 4) (by omega)]
  have hA_51 := hA_44.fr (hfr_47 (i + 4) (by omega))
  have hA_52 := hA_45.fr (hfr_47 (i + 5) (by omega))
  have hO_53 : F47 i = .inr (6, [.int (nI 0), .float FP.fconst0, .ref (ad47 (i + 1)), .ref (ad47 (i + 3)), .ref (ad47 (i + 5)), .null]) := by rw [hfr_47 i (by omega), hO_46, hag_47 (i + 1) (by omega), hag_47 (i + 3) (by omega), hag_47 (i + 5) (by omega)]
  rw [← hag_47 i (by omega)] at hl
  rw [← hag_47 (i + 6) (by omega)]
  rw [← hag_47 i (by omega)]
  have hag0 : ∀ j, j < (i + 1) → ad47 j = ad j := fun j hj => (hag_47 j (by omega)).trans (hag0 j hj)
  have hf0 : ∀ j, j < i → F47 j = F j := fun j hj => (hfr_47 j (by omega)).trans (hf0 j hj)
  refine w_putF X M h hnm i hO_53 (by omega) fF_X6_35 rfl rfl (Nat.le_of_ble_eq_true rfl) dX6_init_58 (fun F54 H locs h he_F54 hf_F54 => ?_)
  have hO_55 := (hf_F54 (i + 1) (by omega)).trans hO_48
  have hA_56 := hA_49.fr (hf_F54 (i + 2) (by omega))
  have hO_57 := (hf_F54 (i + 3) (by omega)).trans hO_50
  have hA_58 := hA_51.fr (hf_F54 (i + 4) (by omega))
  have hA_59 := hA_52.fr (hf_F54 (i + 5) (by omega))
  have hO_60 := (hf_F54 (i + 6) (by omega)).trans hp_47.1.2.1
  have hA_61 := hp_47.1.2.2.fr (hf_F54 (i + 7) (by omega))
  have hf0 : ∀ j, j < i → F54 j = F j := fun j hj => (hf_F54 j (by omega)).trans (hf0 j hj)
  have hO_62 : F54 i = .inr (6, [.int (nI 0), .float FP.fconst0, .ref (ad47 (i + 1)), .ref (ad47 (i + 3)), .ref (ad47 (i + 5)), .ref (ad47 (i + 6))]) := he_F54
  exact w_nret (post := fun ad1 F1 => (oTold g (i + 8) ad1 F1 i 0 FP.fconst0 (fun _ _ => nI 0) (fun _ => 0)) ∧ ∀ j, j < i → F1 j = F j) X M h hA hag0 ⟨⟨by omega, hO_62, ⟨by omega, hO_55, hA_56⟩, ⟨by omega, hO_57, hA_58⟩, hA_59, ⟨by omega, hO_60, hA_61⟩⟩, hf0⟩ dX6_init_61
set_option maxRecDepth 40000 in
set_option maxHeartbeats 2000000 in
theorem c_X2_init (l : Launch) (g : gT) {ad : Nat → Nat} {F : Nat → va_E} (i : Nat) (hF : F i = .inr (2, [.null, .null, .int 0, .int 0])) : CtN l yX2_init cX2_init 1 2 41 4 62 g (i + 1) 4 ad F [.ref (ad i)] (fun ad1 F1 => (oRd0 g (i + 5) ad1 F1 i) ∧ ∀ j, j < i → F1 j = F j) := by
  refine met_bodyN (by decide) rfl (Nat.le_of_ble_eq_true rfl) ?_
  intro p e s m args below meth c A H ls hA X M h hAO hnm hl
  have kx := X.1.1
  have kb := X.1.2.1
  have hl : lv_has ls 1 [(0, .ref (ad i))] := hl
  have hag0 : ∀ j, j < (i + 1) → ad j = ad j := fun _ _ => rfl
  refine lv_aload_n kx kb dX2_init_0 rfl (lv_at hl 0 rfl) ?_
  refine w_objI X hl q1_205 q1_22 wo_code ⟨Nat.le_of_ble_eq_true rfl, Nat.le_of_ble_eq_true rfl⟩ (Nat.le_of_ble_eq_true rfl) dX2_init_1 ?_
  refine lv_aload_n kx kb dX2_init_4 rfl (lv_at hl 0 rfl) ?_
  refine w_new X (show (i + 1) + 1 = (i + 2) by omega) M h nw_X2_9 ⟨(by decide), (by decide)⟩ dX2_init_5 (fun ad1 F1 H M h hag_1 hn_1 hfr_1 => ?_)
  have hO_2 : F1 i = .inr (2, [.null, .null, .int 0, .int 0]) := by rw [hfr_1 i (by omega), hF]
  rw [← hag_1 i (by omega)] at hl
  rw [← hag_1 i (by omega)]
  have hag0 : ∀ j, j < (i + 1) → ad1 j = ad j := fun j hj => (hag_1 j (by omega)).trans (hag0 j hj)
  have hf0 : ∀ j, j < i → F1 j = F j := fun j hj => hfr_1 j (by omega)
  refine lv_dup kx kb dX2_init_8 rfl ?_
  refine lv_bipush (v := nI 12) kx kb dX2_init_9 (by decide) ?_
  refine w_callI X (show (i + 2) + 1 = (i + 3) by omega) M h hAO [.int (nI 12)] [.ref (ad1 (i + 1)), .ref (ad1 i)] (c_X3_init l g (i + 1) 12 (by omega) (by omega) hn_1) li_X2_11 rfl ⟨by decide, by decide⟩ hl ⟨(by decide), (by decide)⟩ (Nat.le_of_ble_eq_true rfl) rfl dX2_init_11 (fun ad3 F3 H locs hp_3 M h hag_3 => ?_)
  have hfr_3 := hp_3.2
  have hO_4 : F3 i = .inr (2, [.null, .null, .int 0, .int 0]) := by rw [hfr_3 i (by omega), hO_2]
  rw [← hag_3 i (by omega)] at hl
  rw [← hag_3 (i + 1) (by omega)]
  rw [← hag_3 i (by omega)]
  have hag0 : ∀ j, j < (i + 1) → ad3 j = ad j := fun j hj => (hag_3 j (by omega)).trans (hag0 j hj)
  have hf0 : ∀ j, j < i → F3 j = F j := fun j hj => (hfr_3 j (by omega)).trans (hf0 j hj)
  refine w_putF X M h hnm i hO_4 (by omega) fF_X2_14 rfl rfl (Nat.le_of_ble_eq_true rfl) dX2_init_14 (fun F5 H locs h he_F5 hf_F5 => ?_)
  have hO_6 := (hf_F5 (i + 1) (by omega)).trans hp_3.1.2.1
  have hA_7 := hp_3.1.2.2.fr (hf_F5 (i + 2) (by omega))
  have hf0 : ∀ j, j < i → F5 j = F j := fun j hj => (hf_F5 j (by omega)).trans (hf0 j hj)
  have hO_8 : F5 i = .inr (2, [.ref (ad3 (i + 1)), .null, .int 0, .int 0]) := he_F5
  refine lv_aload_n kx kb dX2_init_17 rfl (lv_at hl 0 rfl) ?_
  refine w_new X (show (i + 3) + 1 = (i + 4) by omega) M h nw_X2_9 ⟨(by decide), (by decide)⟩ dX2_init_18 (fun ad9 F9 H M h hag_9 hn_9 hfr_9 => ?_)
  have hO_10 : F9 (i + 1) = .inr (3, [.ref (ad9 (i + 2))]) := by rw [hfr_9 (i + 1) (by omega), hO_6, hag_9 (i + 2) (by omega)]
  have hA_11 := hA_7.fr (hfr_9 (i + 2) (by omega))
  have hO_12 : F9 i = .inr (2, [.ref (ad9 (i + 1)), .null, .int 0, .int 0]) := by rw [hfr_9 i (by omega), hO_8, hag_9 (i + 1) (by omega)]
  rw [← hag_9 i (by omega)] at hl
  rw [← hag_9 i (by omega)]
  have hag0 : ∀ j, j < (i + 1) → ad9 j = ad j := fun j hj => (hag_9 j (by omega)).trans (hag0 j hj)
  have hf0 : ∀ j, j < i → F9 j = F j := fun j hj => (hfr_9 j (by omega)).trans (hf0 j hj)
  refine lv_dup kx kb dX2_init_21 rfl ?_
  refine lv_bipush (v := nI 48) kx kb dX2_init_22 (by decide) ?_
  refine w_callI X (show (i + 4) + 1 = (i + 5) by omega) M h hAO [.int (nI 48)] [.ref (ad9 (i + 3)), .ref (ad9 i)] (c_X3_init l g (i + 3) 48 (by omega) (by omega) hn_9) li_X2_11 rfl ⟨by decide, by decide⟩ hl ⟨(by decide), (by decide)⟩ (Nat.le_of_ble_eq_true rfl) rfl dX2_init_24 (fun ad13 F13 H locs hp_13 M h hag_13 => ?_)
  have hfr_13 := hp_13.2
  have hO_14 : F13 (i + 1) = .inr (3, [.ref (ad13 (i + 2))]) := by rw [hfr_13 (i + 1) (by omega), hO_10, hag_13 (i + 2) (by omega)]
  have hA_15 := hA_11.fr (hfr_13 (i + 2) (by omega))
  have hO_16 : F13 i = .inr (2, [.ref (ad13 (i + 1)), .null, .int 0, .int 0]) := by rw [hfr_13 i (by omega), hO_12, hag_13 (i + 1) (by omega)]
  rw [← hag_13 i (by omega)] at hl
  rw [← hag_13 (i + 3) (by omega)]
  rw [← hag_13 i (by omega)]
  have hag0 : ∀ j, j < (i + 1) → ad13 j = ad j := fun j hj => (hag_13 j (by omega)).trans (hag0 j hj)
  have hf0 : ∀ j, j < i → F13 j = F j := fun j hj => (hfr_13 j (by omega)).trans (hf0 j hj)
  refine w_putF X M h hnm i hO_16 (by omega) fF_X2_20 rfl rfl (Nat.le_of_ble_eq_true rfl) dX2_init_27 (fun F17 H locs h he_F17 hf_F17 => ?_)
  have hO_18 := (hf_F17 (i + 1) (by omega)).trans hO_14
  have hA_19 := hA_15.fr (hf_F17 (i + 2) (by omega))
  have hO_20 := (hf_F17 (i + 3) (by omega)).trans hp_13.1.2.1
  have hA_21 := hp_13.1.2.2.fr (hf_F17 (i + 4) (by omega))
  have hf0 : ∀ j, j < i → F17 j = F j := fun j hj => (hf_F17 j (by omega)).trans (hf0 j hj)
  have hO_22 : F17 i = .inr (2, [.ref (ad13 (i + 1)), .ref (ad13 (i + 3)), .int 0, .int 0]) := he_F17
  refine lv_aload_n kx kb dX2_init_30 rfl (lv_at hl 0 rfl) ?_
  refine lv_iconst (v := nI 0) kx kb dX2_init_31 (by decide) ?_
  refine w_put X M h i hO_22 (by omega) fp_X2_23 (rfl) (by rfl) (Nat.le_of_ble_eq_true rfl) dX2_init_32 (fun F23 H locs h he_F23 hf_F23 => ?_)
  have hO_24 := (hf_F23 (i + 1) (by omega)).trans hO_18
  have hA_25 := hA_19.fr (hf_F23 (i + 2) (by omega))
  have hO_26 := (hf_F23 (i + 3) (by omega)).trans hO_20
  have hA_27 := hA_21.fr (hf_F23 (i + 4) (by omega))
  have hf0 : ∀ j, j < i → F23 j = F j := fun j hj => (hf_F23 j (by omega)).trans (hf0 j hj)
  have hO_28 : F23 i = .inr (2, [.ref (ad13 (i + 1)), .ref (ad13 (i + 3)), .int (nI 0), .int 0]) := he_F23
  refine lv_aload_n kx kb dX2_init_35 rfl (lv_at hl 0 rfl) ?_
  refine lv_iconst (v := nI 0) kx kb dX2_init_36 (by decide) ?_
  refine w_put X M h i hO_28 (by omega) fp_X2_27 (rfl) (by rfl) (Nat.le_of_ble_eq_true rfl) dX2_init_37 (fun F29 H locs h he_F29 hf_F29 => ?_)
  have hO_30 := (hf_F29 (i + 1) (by omega)).trans hO_24
  have hA_31 := hA_25.fr (hf_F29 (i + 2) (by omega))
  have hO_32 := (hf_F29 (i + 3) (by omega)).trans hO_26
  have hA_33 := hA_27.fr (hf_F29 (i + 4) (by omega))
  have hf0 : ∀ j, j < i → F29 j = F j := fun j hj => (hf_F29 j (by omega)).trans (hf0 j hj)
  have hO_34 : F29 i = .inr (2, [.ref (ad13 (i + 1)), .ref (ad13 (i + 3)), .int (nI 0), .int (nI 0)]) := he_F29
  exact w_nret (post := fun ad1 F1 => (oRd0 g (i + 5) ad1 F1 i) ∧ ∀ j, j < i → F1 j = F j) X M h hA hag0 ⟨⟨by omega, hO_34, ⟨by omega, hO_30, hA_31⟩, ⟨by omega, hO_32, hA_33⟩⟩, hf0⟩ dX2_init_40
