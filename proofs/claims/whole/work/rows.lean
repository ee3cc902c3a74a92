section
-- ===== PART A: goes FIRST, ahead of the names: the tables' words, and 'selects' of the private methods out of them =====
/-- a private method of a class that the tables say can be made, by its rows of tables_1 -/
def lw_okq (q : MethodName × Nat) : Prop := (q.1.cls ≠ "java/lang/invoke/MethodHandle" ∧ q.1.cls ≠ "java/lang/invoke/VarHandle") ∧ Cond.instantiable q.1.cls q.2 ∈ tables_1 ∧ Cond.privateMethod q.1 ∈ tables_1 ∧ Cond.instanceMethod q.1 ∈ tables_1
theorem lw_p0 : lw_okq (⟨"JokePump$History", "slot", "()LJokePump$State;"⟩, 3) := ⟨⟨by decide +kernel, by decide +kernel⟩, List.mem_of_getElem? (i := 166) (by decide +kernel), List.mem_of_getElem? (i := 271) (by decide +kernel), List.mem_of_getElem? (i := 272) (by decide +kernel)⟩
theorem lw_p1 : lw_okq (⟨"JokePump", "letCome", "(IIII)I"⟩, 12) := ⟨⟨by decide +kernel, by decide +kernel⟩, List.mem_of_getElem? (i := 18) (by decide +kernel), List.mem_of_getElem? (i := 297) (by decide +kernel), List.mem_of_getElem? (i := 298) (by decide +kernel)⟩
theorem lw_p2 : lw_okq (⟨"JokePump", "refuse", "(II)I"⟩, 12) := ⟨⟨by decide +kernel, by decide +kernel⟩, List.mem_of_getElem? (i := 18) (by decide +kernel), List.mem_of_getElem? (i := 311) (by decide +kernel), List.mem_of_getElem? (i := 312) (by decide +kernel)⟩
theorem lw_p3 : lw_okq (⟨"JokePump", "keepChange", "(I)I"⟩, 12) := ⟨⟨by decide +kernel, by decide +kernel⟩, List.mem_of_getElem? (i := 18) (by decide +kernel), List.mem_of_getElem? (i := 337) (by decide +kernel), List.mem_of_getElem? (i := 338) (by decide +kernel)⟩
theorem lw_p4 : lw_okq (⟨"JokePump", "makePrimed", "(I)I"⟩, 12) := ⟨⟨by decide +kernel, by decide +kernel⟩, List.mem_of_getElem? (i := 18) (by decide +kernel), List.mem_of_getElem? (i := 350) (by decide +kernel), List.mem_of_getElem? (i := 351) (by decide +kernel)⟩
theorem lw_p5 : lw_okq (⟨"JokePump", "letGo", "(I)I"⟩, 12) := ⟨⟨by decide +kernel, by decide +kernel⟩, List.mem_of_getElem? (i := 18) (by decide +kernel), List.mem_of_getElem? (i := 363) (by decide +kernel), List.mem_of_getElem? (i := 364) (by decide +kernel)⟩
theorem lw_p6 : lw_okq (⟨"JokePump", "drainGroans", "(I)I"⟩, 12) := ⟨⟨by decide +kernel, by decide +kernel⟩, List.mem_of_getElem? (i := 18) (by decide +kernel), List.mem_of_getElem? (i := 380) (by decide +kernel), List.mem_of_getElem? (i := 381) (by decide +kernel)⟩
theorem lw_p7 : lw_okq (⟨"JokePump", "setStroke", "(I)I"⟩, 12) := ⟨⟨by decide +kernel, by decide +kernel⟩, List.mem_of_getElem? (i := 18) (by decide +kernel), List.mem_of_getElem? (i := 389) (by decide +kernel), List.mem_of_getElem? (i := 390) (by decide +kernel)⟩
theorem lw_p8 : lw_okq (⟨"JokePump", "setBucket", "(II)I"⟩, 12) := ⟨⟨by decide +kernel, by decide +kernel⟩, List.mem_of_getElem? (i := 18) (by decide +kernel), List.mem_of_getElem? (i := 397) (by decide +kernel), List.mem_of_getElem? (i := 398) (by decide +kernel)⟩
theorem lw_p9 : lw_okq (⟨"JokePump", "moveTo", "(I)I"⟩, 12) := ⟨⟨by decide +kernel, by decide +kernel⟩, List.mem_of_getElem? (i := 18) (by decide +kernel), List.mem_of_getElem? (i := 405) (by decide +kernel), List.mem_of_getElem? (i := 406) (by decide +kernel)⟩
theorem lw_p10 : lw_okq (⟨"JokePump", "makeStrokes", "(I)I"⟩, 12) := ⟨⟨by decide +kernel, by decide +kernel⟩, List.mem_of_getElem? (i := 18) (by decide +kernel), List.mem_of_getElem? (i := 413) (by decide +kernel), List.mem_of_getElem? (i := 414) (by decide +kernel)⟩
theorem lw_p11 : lw_okq (⟨"JokePump$State", "lift", "(I)V"⟩, 12) := ⟨⟨by decide +kernel, by decide +kernel⟩, List.mem_of_getElem? (i := 26) (by decide +kernel), List.mem_of_getElem? (i := 434) (by decide +kernel), List.mem_of_getElem? (i := 435) (by decide +kernel)⟩
theorem lw_p12 : lw_okq (⟨"JokePump", "readInput", "()I"⟩, 12) := ⟨⟨by decide +kernel, by decide +kernel⟩, List.mem_of_getElem? (i := 18) (by decide +kernel), List.mem_of_getElem? (i := 454) (by decide +kernel), List.mem_of_getElem? (i := 455) (by decide +kernel)⟩
theorem lw_p13 : lw_okq (⟨"JokePump$Reader", "takeCommand", "(LJokePump$Strip;I)Z"⟩, 4) := ⟨⟨by decide +kernel, by decide +kernel⟩, List.mem_of_getElem? (i := 202) (by decide +kernel), List.mem_of_getElem? (i := 462) (by decide +kernel), List.mem_of_getElem? (i := 463) (by decide +kernel)⟩
theorem lw_p14 : lw_okq (⟨"JokePump$Reader", "follow", "(LJokePump$Strip;ILjava/lang/String;)Z"⟩, 4) := ⟨⟨by decide +kernel, by decide +kernel⟩, List.mem_of_getElem? (i := 202) (by decide +kernel), List.mem_of_getElem? (i := 477) (by decide +kernel), List.mem_of_getElem? (i := 478) (by decide +kernel)⟩
theorem lw_p15 : lw_okq (⟨"JokePump$Reader", "takeNumber", "(LJokePump$Strip;IZI)I"⟩, 4) := ⟨⟨by decide +kernel, by decide +kernel⟩, List.mem_of_getElem? (i := 202) (by decide +kernel), List.mem_of_getElem? (i := 533) (by decide +kernel), List.mem_of_getElem? (i := 534) (by decide +kernel)⟩
def lw_privs_1 : List (MethodName × Nat) := [(⟨"JokePump$History", "slot", "()LJokePump$State;"⟩, 3), (⟨"JokePump", "letCome", "(IIII)I"⟩, 12), (⟨"JokePump", "refuse", "(II)I"⟩, 12), (⟨"JokePump", "keepChange", "(I)I"⟩, 12), (⟨"JokePump", "makePrimed", "(I)I"⟩, 12), (⟨"JokePump", "letGo", "(I)I"⟩, 12), (⟨"JokePump", "drainGroans", "(I)I"⟩, 12), (⟨"JokePump", "setStroke", "(I)I"⟩, 12), (⟨"JokePump", "setBucket", "(II)I"⟩, 12), (⟨"JokePump", "moveTo", "(I)I"⟩, 12), (⟨"JokePump", "makeStrokes", "(I)I"⟩, 12), (⟨"JokePump$State", "lift", "(I)V"⟩, 12), (⟨"JokePump", "readInput", "()I"⟩, 12), (⟨"JokePump$Reader", "takeCommand", "(LJokePump$Strip;I)Z"⟩, 4), (⟨"JokePump$Reader", "follow", "(LJokePump$Strip;ILjava/lang/String;)Z"⟩, 4), (⟨"JokePump$Reader", "takeNumber", "(LJokePump$Strip;IZI)I"⟩, 4)]
theorem lw_r1 : ∀ q ∈ lw_privs_1, lw_okq q := List.forall_mem_cons.mpr ⟨lw_p0, List.forall_mem_cons.mpr ⟨lw_p1, List.forall_mem_cons.mpr ⟨lw_p2, List.forall_mem_cons.mpr ⟨lw_p3, List.forall_mem_cons.mpr ⟨lw_p4, List.forall_mem_cons.mpr ⟨lw_p5, List.forall_mem_cons.mpr ⟨lw_p6, List.forall_mem_cons.mpr ⟨lw_p7, List.forall_mem_cons.mpr ⟨lw_p8, List.forall_mem_cons.mpr ⟨lw_p9, List.forall_mem_cons.mpr ⟨lw_p10, List.forall_mem_cons.mpr ⟨lw_p11, List.forall_mem_cons.mpr ⟨lw_p12, List.forall_mem_cons.mpr ⟨lw_p13, List.forall_mem_cons.mpr ⟨lw_p14, List.forall_mem_cons.mpr ⟨lw_p15, fun _ h => absurd h List.not_mem_nil⟩⟩⟩⟩⟩⟩⟩⟩⟩⟩⟩⟩⟩⟩⟩⟩
theorem lw_p16 : lw_okq (⟨"JokePump", "doCommands", "()I"⟩, 12) := ⟨⟨by decide +kernel, by decide +kernel⟩, List.mem_of_getElem? (i := 18) (by decide +kernel), List.mem_of_getElem? (i := 544) (by decide +kernel), List.mem_of_getElem? (i := 545) (by decide +kernel)⟩
theorem lw_p17 : lw_okq (⟨"JokePump", "doCommand", "(I)I"⟩, 12) := ⟨⟨by decide +kernel, by decide +kernel⟩, List.mem_of_getElem? (i := 18) (by decide +kernel), List.mem_of_getElem? (i := 548) (by decide +kernel), List.mem_of_getElem? (i := 549) (by decide +kernel)⟩
theorem lw_p18 : lw_okq (⟨"JokePump", "refuseCommand", "(IZ)I"⟩, 12) := ⟨⟨by decide +kernel, by decide +kernel⟩, List.mem_of_getElem? (i := 18) (by decide +kernel), List.mem_of_getElem? (i := 557) (by decide +kernel), List.mem_of_getElem? (i := 558) (by decide +kernel)⟩
theorem lw_p19 : lw_okq (⟨"JokePump", "leastDepth", "(I)I"⟩, 12) := ⟨⟨by decide +kernel, by decide +kernel⟩, List.mem_of_getElem? (i := 18) (by decide +kernel), List.mem_of_getElem? (i := 600) (by decide +kernel), List.mem_of_getElem? (i := 601) (by decide +kernel)⟩
theorem lw_p20 : lw_okq (⟨"JokePump", "countFunnier", "(I)I"⟩, 12) := ⟨⟨by decide +kernel, by decide +kernel⟩, List.mem_of_getElem? (i := 18) (by decide +kernel), List.mem_of_getElem? (i := 622) (by decide +kernel), List.mem_of_getElem? (i := 623) (by decide +kernel)⟩
theorem lw_p21 : lw_okq (⟨"JokePump", "isFunnier", "(II)Z"⟩, 12) := ⟨⟨by decide +kernel, by decide +kernel⟩, List.mem_of_getElem? (i := 18) (by decide +kernel), List.mem_of_getElem? (i := 626) (by decide +kernel), List.mem_of_getElem? (i := 627) (by decide +kernel)⟩
theorem lw_p22 : lw_okq (⟨"JokePump", "countFuller", "(I)I"⟩, 12) := ⟨⟨by decide +kernel, by decide +kernel⟩, List.mem_of_getElem? (i := 18) (by decide +kernel), List.mem_of_getElem? (i := 635) (by decide +kernel), List.mem_of_getElem? (i := 636) (by decide +kernel)⟩
theorem lw_p23 : lw_okq (⟨"JokePump", "isFuller", "(II)Z"⟩, 12) := ⟨⟨by decide +kernel, by decide +kernel⟩, List.mem_of_getElem? (i := 18) (by decide +kernel), List.mem_of_getElem? (i := 639) (by decide +kernel), List.mem_of_getElem? (i := 640) (by decide +kernel)⟩
theorem lw_p24 : lw_okq (⟨"JokePump", "groansToReach", "(II)I"⟩, 12) := ⟨⟨by decide +kernel, by decide +kernel⟩, List.mem_of_getElem? (i := 18) (by decide +kernel), List.mem_of_getElem? (i := 715) (by decide +kernel), List.mem_of_getElem? (i := 716) (by decide +kernel)⟩
theorem lw_p25 : lw_okq (⟨"JokePump", "areLaughsAlike", "()Z"⟩, 12) := ⟨⟨by decide +kernel, by decide +kernel⟩, List.mem_of_getElem? (i := 18) (by decide +kernel), List.mem_of_getElem? (i := 723) (by decide +kernel), List.mem_of_getElem? (i := 724) (by decide +kernel)⟩
theorem lw_p26 : lw_okq (⟨"JokePump", "areStrokesAlike", "()Z"⟩, 12) := ⟨⟨by decide +kernel, by decide +kernel⟩, List.mem_of_getElem? (i := 18) (by decide +kernel), List.mem_of_getElem? (i := 727) (by decide +kernel), List.mem_of_getElem? (i := 728) (by decide +kernel)⟩
theorem lw_p27 : lw_okq (⟨"JokePump", "areSignsUnknown", "()Z"⟩, 12) := ⟨⟨by decide +kernel, by decide +kernel⟩, List.mem_of_getElem? (i := 18) (by decide +kernel), List.mem_of_getElem? (i := 733) (by decide +kernel), List.mem_of_getElem? (i := 734) (by decide +kernel)⟩
theorem lw_p28 : lw_okq (⟨"JokePump", "putJoke", "(I)V"⟩, 12) := ⟨⟨by decide +kernel, by decide +kernel⟩, List.mem_of_getElem? (i := 18) (by decide +kernel), List.mem_of_getElem? (i := 758) (by decide +kernel), List.mem_of_getElem? (i := 759) (by decide +kernel)⟩
theorem lw_p29 : lw_okq (⟨"JokePumpModel", "notJoke", "(IIII)I"⟩, 23) := ⟨⟨by decide +kernel, by decide +kernel⟩, List.mem_of_getElem? (i := 790) (by decide +kernel), List.mem_of_getElem? (i := 870) (by decide +kernel), List.mem_of_getElem? (i := 871) (by decide +kernel)⟩
theorem lw_p30 : lw_okq (⟨"JokePumpModel", "isKnownSign", "(I)Z"⟩, 23) := ⟨⟨by decide +kernel, by decide +kernel⟩, List.mem_of_getElem? (i := 790) (by decide +kernel), List.mem_of_getElem? (i := 877) (by decide +kernel), List.mem_of_getElem? (i := 878) (by decide +kernel)⟩
theorem lw_p31 : lw_okq (⟨"JokePumpModel", "isNot", "(II)I"⟩, 23) := ⟨⟨by decide +kernel, by decide +kernel⟩, List.mem_of_getElem? (i := 790) (by decide +kernel), List.mem_of_getElem? (i := 881) (by decide +kernel), List.mem_of_getElem? (i := 882) (by decide +kernel)⟩
def lw_privs_2 : List (MethodName × Nat) := [(⟨"JokePump", "doCommands", "()I"⟩, 12), (⟨"JokePump", "doCommand", "(I)I"⟩, 12), (⟨"JokePump", "refuseCommand", "(IZ)I"⟩, 12), (⟨"JokePump", "leastDepth", "(I)I"⟩, 12), (⟨"JokePump", "countFunnier", "(I)I"⟩, 12), (⟨"JokePump", "isFunnier", "(II)Z"⟩, 12), (⟨"JokePump", "countFuller", "(I)I"⟩, 12), (⟨"JokePump", "isFuller", "(II)Z"⟩, 12), (⟨"JokePump", "groansToReach", "(II)I"⟩, 12), (⟨"JokePump", "areLaughsAlike", "()Z"⟩, 12), (⟨"JokePump", "areStrokesAlike", "()Z"⟩, 12), (⟨"JokePump", "areSignsUnknown", "()Z"⟩, 12), (⟨"JokePump", "putJoke", "(I)V"⟩, 12), (⟨"JokePumpModel", "notJoke", "(IIII)I"⟩, 23), (⟨"JokePumpModel", "isKnownSign", "(I)Z"⟩, 23), (⟨"JokePumpModel", "isNot", "(II)I"⟩, 23)]
theorem lw_r2 : ∀ q ∈ lw_privs_2, lw_okq q := List.forall_mem_cons.mpr ⟨lw_p16, List.forall_mem_cons.mpr ⟨lw_p17, List.forall_mem_cons.mpr ⟨lw_p18, List.forall_mem_cons.mpr ⟨lw_p19, List.forall_mem_cons.mpr ⟨lw_p20, List.forall_mem_cons.mpr ⟨lw_p21, List.forall_mem_cons.mpr ⟨lw_p22, List.forall_mem_cons.mpr ⟨lw_p23, List.forall_mem_cons.mpr ⟨lw_p24, List.forall_mem_cons.mpr ⟨lw_p25, List.forall_mem_cons.mpr ⟨lw_p26, List.forall_mem_cons.mpr ⟨lw_p27, List.forall_mem_cons.mpr ⟨lw_p28, List.forall_mem_cons.mpr ⟨lw_p29, List.forall_mem_cons.mpr ⟨lw_p30, List.forall_mem_cons.mpr ⟨lw_p31, fun _ h => absurd h List.not_mem_nil⟩⟩⟩⟩⟩⟩⟩⟩⟩⟩⟩⟩⟩⟩⟩⟩
theorem lw_p32 : lw_okq (⟨"JokePumpModel", "jokeWith", "(I)I"⟩, 23) := ⟨⟨by decide +kernel, by decide +kernel⟩, List.mem_of_getElem? (i := 790) (by decide +kernel), List.mem_of_getElem? (i := 885) (by decide +kernel), List.mem_of_getElem? (i := 886) (by decide +kernel)⟩
theorem lw_p33 : lw_okq (⟨"JokePumpModel", "is", "(II)I"⟩, 23) := ⟨⟨by decide +kernel, by decide +kernel⟩, List.mem_of_getElem? (i := 790) (by decide +kernel), List.mem_of_getElem? (i := 889) (by decide +kernel), List.mem_of_getElem? (i := 890) (by decide +kernel)⟩
theorem lw_p34 : lw_okq (⟨"JokePumpModel", "jokeAt", "(II)I"⟩, 23) := ⟨⟨by decide +kernel, by decide +kernel⟩, List.mem_of_getElem? (i := 790) (by decide +kernel), List.mem_of_getElem? (i := 893) (by decide +kernel), List.mem_of_getElem? (i := 894) (by decide +kernel)⟩
theorem lw_p35 : lw_okq (⟨"JokePumpModel", "jokesIn", "(I)I"⟩, 23) := ⟨⟨by decide +kernel, by decide +kernel⟩, List.mem_of_getElem? (i := 790) (by decide +kernel), List.mem_of_getElem? (i := 897) (by decide +kernel), List.mem_of_getElem? (i := 898) (by decide +kernel)⟩
theorem lw_p36 : lw_okq (⟨"JokePumpModel", "answers", "(I)I"⟩, 23) := ⟨⟨by decide +kernel, by decide +kernel⟩, List.mem_of_getElem? (i := 790) (by decide +kernel), List.mem_of_getElem? (i := 901) (by decide +kernel), List.mem_of_getElem? (i := 902) (by decide +kernel)⟩
theorem lw_p37 : lw_okq (⟨"JokePumpModel", "remembers", "()V"⟩, 23) := ⟨⟨by decide +kernel, by decide +kernel⟩, List.mem_of_getElem? (i := 790) (by decide +kernel), List.mem_of_getElem? (i := 905) (by decide +kernel), List.mem_of_getElem? (i := 906) (by decide +kernel)⟩
theorem lw_p38 : lw_okq (⟨"JokePumpModel", "thinks", "()V"⟩, 23) := ⟨⟨by decide +kernel, by decide +kernel⟩, List.mem_of_getElem? (i := 790) (by decide +kernel), List.mem_of_getElem? (i := 909) (by decide +kernel), List.mem_of_getElem? (i := 910) (by decide +kernel)⟩
theorem lw_p39 : lw_okq (⟨"JokePumpModel", "keepsMind", "()V"⟩, 23) := ⟨⟨by decide +kernel, by decide +kernel⟩, List.mem_of_getElem? (i := 790) (by decide +kernel), List.mem_of_getElem? (i := 913) (by decide +kernel), List.mem_of_getElem? (i := 914) (by decide +kernel)⟩
theorem lw_p40 : lw_okq (⟨"JokePumpModel", "comes", "(IIII)I"⟩, 23) := ⟨⟨by decide +kernel, by decide +kernel⟩, List.mem_of_getElem? (i := 790) (by decide +kernel), List.mem_of_getElem? (i := 917) (by decide +kernel), List.mem_of_getElem? (i := 918) (by decide +kernel)⟩
theorem lw_p41 : lw_okq (⟨"JokePumpModel", "notPrime", "(I)I"⟩, 23) := ⟨⟨by decide +kernel, by decide +kernel⟩, List.mem_of_getElem? (i := 790) (by decide +kernel), List.mem_of_getElem? (i := 925) (by decide +kernel), List.mem_of_getElem? (i := 926) (by decide +kernel)⟩
theorem lw_p42 : lw_okq (⟨"JokePumpModel", "isJoke", "(I)Z"⟩, 23) := ⟨⟨by decide +kernel, by decide +kernel⟩, List.mem_of_getElem? (i := 790) (by decide +kernel), List.mem_of_getElem? (i := 929) (by decide +kernel), List.mem_of_getElem? (i := 930) (by decide +kernel)⟩
theorem lw_p43 : lw_okq (⟨"JokePumpModel", "primes", "(I)I"⟩, 23) := ⟨⟨by decide +kernel, by decide +kernel⟩, List.mem_of_getElem? (i := 790) (by decide +kernel), List.mem_of_getElem? (i := 933) (by decide +kernel), List.mem_of_getElem? (i := 934) (by decide +kernel)⟩
theorem lw_p44 : lw_okq (⟨"JokePumpModel", "notDrop", "(I)I"⟩, 23) := ⟨⟨by decide +kernel, by decide +kernel⟩, List.mem_of_getElem? (i := 790) (by decide +kernel), List.mem_of_getElem? (i := 941) (by decide +kernel), List.mem_of_getElem? (i := 942) (by decide +kernel)⟩
theorem lw_p45 : lw_okq (⟨"JokePumpModel", "drops", "(I)I"⟩, 23) := ⟨⟨by decide +kernel, by decide +kernel⟩, List.mem_of_getElem? (i := 790) (by decide +kernel), List.mem_of_getElem? (i := 945) (by decide +kernel), List.mem_of_getElem? (i := 946) (by decide +kernel)⟩
theorem lw_p46 : lw_okq (⟨"JokePumpModel", "goes", "(I)V"⟩, 23) := ⟨⟨by decide +kernel, by decide +kernel⟩, List.mem_of_getElem? (i := 790) (by decide +kernel), List.mem_of_getElem? (i := 949) (by decide +kernel), List.mem_of_getElem? (i := 950) (by decide +kernel)⟩
theorem lw_p47 : lw_okq (⟨"JokePumpModel", "notDrain", "(I)I"⟩, 23) := ⟨⟨by decide +kernel, by decide +kernel⟩, List.mem_of_getElem? (i := 790) (by decide +kernel), List.mem_of_getElem? (i := 957) (by decide +kernel), List.mem_of_getElem? (i := 958) (by decide +kernel)⟩
def lw_privs_3 : List (MethodName × Nat) := [(⟨"JokePumpModel", "jokeWith", "(I)I"⟩, 23), (⟨"JokePumpModel", "is", "(II)I"⟩, 23), (⟨"JokePumpModel", "jokeAt", "(II)I"⟩, 23), (⟨"JokePumpModel", "jokesIn", "(I)I"⟩, 23), (⟨"JokePumpModel", "answers", "(I)I"⟩, 23), (⟨"JokePumpModel", "remembers", "()V"⟩, 23), (⟨"JokePumpModel", "thinks", "()V"⟩, 23), (⟨"JokePumpModel", "keepsMind", "()V"⟩, 23), (⟨"JokePumpModel", "comes", "(IIII)I"⟩, 23), (⟨"JokePumpModel", "notPrime", "(I)I"⟩, 23), (⟨"JokePumpModel", "isJoke", "(I)Z"⟩, 23), (⟨"JokePumpModel", "primes", "(I)I"⟩, 23), (⟨"JokePumpModel", "notDrop", "(I)I"⟩, 23), (⟨"JokePumpModel", "drops", "(I)I"⟩, 23), (⟨"JokePumpModel", "goes", "(I)V"⟩, 23), (⟨"JokePumpModel", "notDrain", "(I)I"⟩, 23)]
theorem lw_r3 : ∀ q ∈ lw_privs_3, lw_okq q := List.forall_mem_cons.mpr ⟨lw_p32, List.forall_mem_cons.mpr ⟨lw_p33, List.forall_mem_cons.mpr ⟨lw_p34, List.forall_mem_cons.mpr ⟨lw_p35, List.forall_mem_cons.mpr ⟨lw_p36, List.forall_mem_cons.mpr ⟨lw_p37, List.forall_mem_cons.mpr ⟨lw_p38, List.forall_mem_cons.mpr ⟨lw_p39, List.forall_mem_cons.mpr ⟨lw_p40, List.forall_mem_cons.mpr ⟨lw_p41, List.forall_mem_cons.mpr ⟨lw_p42, List.forall_mem_cons.mpr ⟨lw_p43, List.forall_mem_cons.mpr ⟨lw_p44, List.forall_mem_cons.mpr ⟨lw_p45, List.forall_mem_cons.mpr ⟨lw_p46, List.forall_mem_cons.mpr ⟨lw_p47, fun _ h => absurd h List.not_mem_nil⟩⟩⟩⟩⟩⟩⟩⟩⟩⟩⟩⟩⟩⟩⟩⟩
theorem lw_p48 : lw_okq (⟨"JokePumpModel", "drains", "(I)I"⟩, 23) := ⟨⟨by decide +kernel, by decide +kernel⟩, List.mem_of_getElem? (i := 790) (by decide +kernel), List.mem_of_getElem? (i := 961) (by decide +kernel), List.mem_of_getElem? (i := 962) (by decide +kernel)⟩
theorem lw_p49 : lw_okq (⟨"JokePumpModel", "notStroke", "(I)I"⟩, 23) := ⟨⟨by decide +kernel, by decide +kernel⟩, List.mem_of_getElem? (i := 790) (by decide +kernel), List.mem_of_getElem? (i := 969) (by decide +kernel), List.mem_of_getElem? (i := 970) (by decide +kernel)⟩
theorem lw_p50 : lw_okq (⟨"JokePumpModel", "tells", "(II)I"⟩, 23) := ⟨⟨by decide +kernel, by decide +kernel⟩, List.mem_of_getElem? (i := 790) (by decide +kernel), List.mem_of_getElem? (i := 973) (by decide +kernel), List.mem_of_getElem? (i := 974) (by decide +kernel)⟩
theorem lw_p51 : lw_okq (⟨"JokePumpModel", "notBucket", "(II)I"⟩, 23) := ⟨⟨by decide +kernel, by decide +kernel⟩, List.mem_of_getElem? (i := 790) (by decide +kernel), List.mem_of_getElem? (i := 981) (by decide +kernel), List.mem_of_getElem? (i := 982) (by decide +kernel)⟩
theorem lw_p52 : lw_okq (⟨"JokePumpModel", "notGo", "(I)I"⟩, 23) := ⟨⟨by decide +kernel, by decide +kernel⟩, List.mem_of_getElem? (i := 790) (by decide +kernel), List.mem_of_getElem? (i := 989) (by decide +kernel), List.mem_of_getElem? (i := 990) (by decide +kernel)⟩
theorem lw_p53 : lw_okq (⟨"JokePumpModel", "moves", "(I)I"⟩, 23) := ⟨⟨by decide +kernel, by decide +kernel⟩, List.mem_of_getElem? (i := 790) (by decide +kernel), List.mem_of_getElem? (i := 993) (by decide +kernel), List.mem_of_getElem? (i := 994) (by decide +kernel)⟩
theorem lw_p54 : lw_okq (⟨"JokePumpModel", "notPump", "(I)I"⟩, 23) := ⟨⟨by decide +kernel, by decide +kernel⟩, List.mem_of_getElem? (i := 790) (by decide +kernel), List.mem_of_getElem? (i := 1001) (by decide +kernel), List.mem_of_getElem? (i := 1002) (by decide +kernel)⟩
theorem lw_p55 : lw_okq (⟨"JokePumpModel", "pumps", "(I)I"⟩, 23) := ⟨⟨by decide +kernel, by decide +kernel⟩, List.mem_of_getElem? (i := 790) (by decide +kernel), List.mem_of_getElem? (i := 1005) (by decide +kernel), List.mem_of_getElem? (i := 1006) (by decide +kernel)⟩
theorem lw_p56 : lw_okq (⟨"JokePumpModel", "strokesOnce", "()I"⟩, 23) := ⟨⟨by decide +kernel, by decide +kernel⟩, List.mem_of_getElem? (i := 790) (by decide +kernel), List.mem_of_getElem? (i := 1009) (by decide +kernel), List.mem_of_getElem? (i := 1010) (by decide +kernel)⟩
theorem lw_p57 : lw_okq (⟨"JokePumpModel", "atPlace", "(II)I"⟩, 23) := ⟨⟨by decide +kernel, by decide +kernel⟩, List.mem_of_getElem? (i := 790) (by decide +kernel), List.mem_of_getElem? (i := 1016) (by decide +kernel), List.mem_of_getElem? (i := 1017) (by decide +kernel)⟩
theorem lw_p58 : lw_okq (⟨"JokePumpModel", "above", "(I)I"⟩, 23) := ⟨⟨by decide +kernel, by decide +kernel⟩, List.mem_of_getElem? (i := 790) (by decide +kernel), List.mem_of_getElem? (i := 1020) (by decide +kernel), List.mem_of_getElem? (i := 1021) (by decide +kernel)⟩
theorem lw_p59 : lw_okq (⟨"JokePumpModel", "lifts", "(I)V"⟩, 23) := ⟨⟨by decide +kernel, by decide +kernel⟩, List.mem_of_getElem? (i := 790) (by decide +kernel), List.mem_of_getElem? (i := 1024) (by decide +kernel), List.mem_of_getElem? (i := 1025) (by decide +kernel)⟩
theorem lw_p60 : lw_okq (⟨"JokePumpModel", "laughOf", "(II)F"⟩, 23) := ⟨⟨by decide +kernel, by decide +kernel⟩, List.mem_of_getElem? (i := 790) (by decide +kernel), List.mem_of_getElem? (i := 1028) (by decide +kernel), List.mem_of_getElem? (i := 1029) (by decide +kernel)⟩
theorem lw_p61 : lw_okq (⟨"JokePumpModel", "looksAhead", "()V"⟩, 23) := ⟨⟨by decide +kernel, by decide +kernel⟩, List.mem_of_getElem? (i := 790) (by decide +kernel), List.mem_of_getElem? (i := 1093) (by decide +kernel), List.mem_of_getElem? (i := 1094) (by decide +kernel)⟩
theorem lw_p62 : lw_okq (⟨"JokePumpModel", "comesBack", "()V"⟩, 23) := ⟨⟨by decide +kernel, by decide +kernel⟩, List.mem_of_getElem? (i := 790) (by decide +kernel), List.mem_of_getElem? (i := 1097) (by decide +kernel), List.mem_of_getElem? (i := 1098) (by decide +kernel)⟩
theorem lw_p63 : lw_okq (⟨"JokePumpModel", "groansTo", "(II)I"⟩, 23) := ⟨⟨by decide +kernel, by decide +kernel⟩, List.mem_of_getElem? (i := 790) (by decide +kernel), List.mem_of_getElem? (i := 1109) (by decide +kernel), List.mem_of_getElem? (i := 1110) (by decide +kernel)⟩
def lw_privs_4 : List (MethodName × Nat) := [(⟨"JokePumpModel", "drains", "(I)I"⟩, 23), (⟨"JokePumpModel", "notStroke", "(I)I"⟩, 23), (⟨"JokePumpModel", "tells", "(II)I"⟩, 23), (⟨"JokePumpModel", "notBucket", "(II)I"⟩, 23), (⟨"JokePumpModel", "notGo", "(I)I"⟩, 23), (⟨"JokePumpModel", "moves", "(I)I"⟩, 23), (⟨"JokePumpModel", "notPump", "(I)I"⟩, 23), (⟨"JokePumpModel", "pumps", "(I)I"⟩, 23), (⟨"JokePumpModel", "strokesOnce", "()I"⟩, 23), (⟨"JokePumpModel", "atPlace", "(II)I"⟩, 23), (⟨"JokePumpModel", "above", "(I)I"⟩, 23), (⟨"JokePumpModel", "lifts", "(I)V"⟩, 23), (⟨"JokePumpModel", "laughOf", "(II)F"⟩, 23), (⟨"JokePumpModel", "looksAhead", "()V"⟩, 23), (⟨"JokePumpModel", "comesBack", "()V"⟩, 23), (⟨"JokePumpModel", "groansTo", "(II)I"⟩, 23)]
theorem lw_r4 : ∀ q ∈ lw_privs_4, lw_okq q := List.forall_mem_cons.mpr ⟨lw_p48, List.forall_mem_cons.mpr ⟨lw_p49, List.forall_mem_cons.mpr ⟨lw_p50, List.forall_mem_cons.mpr ⟨lw_p51, List.forall_mem_cons.mpr ⟨lw_p52, List.forall_mem_cons.mpr ⟨lw_p53, List.forall_mem_cons.mpr ⟨lw_p54, List.forall_mem_cons.mpr ⟨lw_p55, List.forall_mem_cons.mpr ⟨lw_p56, List.forall_mem_cons.mpr ⟨lw_p57, List.forall_mem_cons.mpr ⟨lw_p58, List.forall_mem_cons.mpr ⟨lw_p59, List.forall_mem_cons.mpr ⟨lw_p60, List.forall_mem_cons.mpr ⟨lw_p61, List.forall_mem_cons.mpr ⟨lw_p62, List.forall_mem_cons.mpr ⟨lw_p63, fun _ h => absurd h List.not_mem_nil⟩⟩⟩⟩⟩⟩⟩⟩⟩⟩⟩⟩⟩⟩⟩⟩
theorem lw_p64 : lw_okq (⟨"JokePumpModel", "isFunnier", "(II)Z"⟩, 23) := ⟨⟨by decide +kernel, by decide +kernel⟩, List.mem_of_getElem? (i := 790) (by decide +kernel), List.mem_of_getElem? (i := 1117) (by decide +kernel), List.mem_of_getElem? (i := 1118) (by decide +kernel)⟩
theorem lw_p65 : lw_okq (⟨"JokePumpModel", "isFuller", "(II)Z"⟩, 23) := ⟨⟨by decide +kernel, by decide +kernel⟩, List.mem_of_getElem? (i := 790) (by decide +kernel), List.mem_of_getElem? (i := 1129) (by decide +kernel), List.mem_of_getElem? (i := 1130) (by decide +kernel)⟩
theorem lw_p66 : lw_okq (⟨"JokePumpModel", "primed", "()I"⟩, 23) := ⟨⟨by decide +kernel, by decide +kernel⟩, List.mem_of_getElem? (i := 790) (by decide +kernel), List.mem_of_getElem? (i := 1151) (by decide +kernel), List.mem_of_getElem? (i := 1152) (by decide +kernel)⟩
theorem lw_p67 : lw_okq (⟨"JokePumpModel", "writes", "(I)V"⟩, 23) := ⟨⟨by decide +kernel, by decide +kernel⟩, List.mem_of_getElem? (i := 790) (by decide +kernel), List.mem_of_getElem? (i := 1159) (by decide +kernel), List.mem_of_getElem? (i := 1160) (by decide +kernel)⟩
theorem lw_p68 : lw_okq (⟨"JokePumpModel", "writesJoke", "(I)V"⟩, 23) := ⟨⟨by decide +kernel, by decide +kernel⟩, List.mem_of_getElem? (i := 790) (by decide +kernel), List.mem_of_getElem? (i := 1163) (by decide +kernel), List.mem_of_getElem? (i := 1164) (by decide +kernel)⟩
theorem lw_p69 : lw_okq (⟨"JokePumpModel", "writesNumber", "(I)V"⟩, 23) := ⟨⟨by decide +kernel, by decide +kernel⟩, List.mem_of_getElem? (i := 790) (by decide +kernel), List.mem_of_getElem? (i := 1167) (by decide +kernel), List.mem_of_getElem? (i := 1168) (by decide +kernel)⟩
theorem lw_p70 : lw_okq (⟨"JokePumpModel", "readsAll", "()Z"⟩, 23) := ⟨⟨by decide +kernel, by decide +kernel⟩, List.mem_of_getElem? (i := 790) (by decide +kernel), List.mem_of_getElem? (i := 1191) (by decide +kernel), List.mem_of_getElem? (i := 1192) (by decide +kernel)⟩
theorem lw_p71 : lw_okq (⟨"JokePumpModel", "readsCommand", "()Z"⟩, 23) := ⟨⟨by decide +kernel, by decide +kernel⟩, List.mem_of_getElem? (i := 790) (by decide +kernel), List.mem_of_getElem? (i := 1195) (by decide +kernel), List.mem_of_getElem? (i := 1196) (by decide +kernel)⟩
theorem lw_p72 : lw_okq (⟨"JokePumpModel", "nextSign", "()I"⟩, 23) := ⟨⟨by decide +kernel, by decide +kernel⟩, List.mem_of_getElem? (i := 790) (by decide +kernel), List.mem_of_getElem? (i := 1199) (by decide +kernel), List.mem_of_getElem? (i := 1200) (by decide +kernel)⟩
theorem lw_p73 : lw_okq (⟨"JokePumpModel", "reads", "(I)Z"⟩, 23) := ⟨⟨by decide +kernel, by decide +kernel⟩, List.mem_of_getElem? (i := 790) (by decide +kernel), List.mem_of_getElem? (i := 1203) (by decide +kernel), List.mem_of_getElem? (i := 1204) (by decide +kernel)⟩
theorem lw_p74 : lw_okq (⟨"JokePumpModel", "readsJoke", "()Z"⟩, 23) := ⟨⟨by decide +kernel, by decide +kernel⟩, List.mem_of_getElem? (i := 790) (by decide +kernel), List.mem_of_getElem? (i := 1207) (by decide +kernel), List.mem_of_getElem? (i := 1208) (by decide +kernel)⟩
theorem lw_p75 : lw_okq (⟨"JokePumpModel", "readsDigit", "(I)Z"⟩, 23) := ⟨⟨by decide +kernel, by decide +kernel⟩, List.mem_of_getElem? (i := 790) (by decide +kernel), List.mem_of_getElem? (i := 1211) (by decide +kernel), List.mem_of_getElem? (i := 1212) (by decide +kernel)⟩
theorem lw_p76 : lw_okq (⟨"JokePumpModel", "readsNumber", "(I)Z"⟩, 23) := ⟨⟨by decide +kernel, by decide +kernel⟩, List.mem_of_getElem? (i := 790) (by decide +kernel), List.mem_of_getElem? (i := 1215) (by decide +kernel), List.mem_of_getElem? (i := 1216) (by decide +kernel)⟩
theorem lw_p77 : lw_okq (⟨"JokePumpModel", "readsP", "()Z"⟩, 23) := ⟨⟨by decide +kernel, by decide +kernel⟩, List.mem_of_getElem? (i := 790) (by decide +kernel), List.mem_of_getElem? (i := 1219) (by decide +kernel), List.mem_of_getElem? (i := 1220) (by decide +kernel)⟩
theorem lw_p78 : lw_okq (⟨"JokePumpModel", "readsD", "()Z"⟩, 23) := ⟨⟨by decide +kernel, by decide +kernel⟩, List.mem_of_getElem? (i := 790) (by decide +kernel), List.mem_of_getElem? (i := 1223) (by decide +kernel), List.mem_of_getElem? (i := 1224) (by decide +kernel)⟩
theorem lw_p79 : lw_okq (⟨"JokePumpModel", "readsStroke", "()Z"⟩, 23) := ⟨⟨by decide +kernel, by decide +kernel⟩, List.mem_of_getElem? (i := 790) (by decide +kernel), List.mem_of_getElem? (i := 1227) (by decide +kernel), List.mem_of_getElem? (i := 1228) (by decide +kernel)⟩
def lw_privs_5 : List (MethodName × Nat) := [(⟨"JokePumpModel", "isFunnier", "(II)Z"⟩, 23), (⟨"JokePumpModel", "isFuller", "(II)Z"⟩, 23), (⟨"JokePumpModel", "primed", "()I"⟩, 23), (⟨"JokePumpModel", "writes", "(I)V"⟩, 23), (⟨"JokePumpModel", "writesJoke", "(I)V"⟩, 23), (⟨"JokePumpModel", "writesNumber", "(I)V"⟩, 23), (⟨"JokePumpModel", "readsAll", "()Z"⟩, 23), (⟨"JokePumpModel", "readsCommand", "()Z"⟩, 23), (⟨"JokePumpModel", "nextSign", "()I"⟩, 23), (⟨"JokePumpModel", "reads", "(I)Z"⟩, 23), (⟨"JokePumpModel", "readsJoke", "()Z"⟩, 23), (⟨"JokePumpModel", "readsDigit", "(I)Z"⟩, 23), (⟨"JokePumpModel", "readsNumber", "(I)Z"⟩, 23), (⟨"JokePumpModel", "readsP", "()Z"⟩, 23), (⟨"JokePumpModel", "readsD", "()Z"⟩, 23), (⟨"JokePumpModel", "readsStroke", "()Z"⟩, 23)]
theorem lw_r5 : ∀ q ∈ lw_privs_5, lw_okq q := List.forall_mem_cons.mpr ⟨lw_p64, List.forall_mem_cons.mpr ⟨lw_p65, List.forall_mem_cons.mpr ⟨lw_p66, List.forall_mem_cons.mpr ⟨lw_p67, List.forall_mem_cons.mpr ⟨lw_p68, List.forall_mem_cons.mpr ⟨lw_p69, List.forall_mem_cons.mpr ⟨lw_p70, List.forall_mem_cons.mpr ⟨lw_p71, List.forall_mem_cons.mpr ⟨lw_p72, List.forall_mem_cons.mpr ⟨lw_p73, List.forall_mem_cons.mpr ⟨lw_p74, List.forall_mem_cons.mpr ⟨lw_p75, List.forall_mem_cons.mpr ⟨lw_p76, List.forall_mem_cons.mpr ⟨lw_p77, List.forall_mem_cons.mpr ⟨lw_p78, List.forall_mem_cons.mpr ⟨lw_p79, fun _ h => absurd h List.not_mem_nil⟩⟩⟩⟩⟩⟩⟩⟩⟩⟩⟩⟩⟩⟩⟩⟩
theorem lw_p80 : lw_okq (⟨"JokePumpModel", "readsBucket", "()Z"⟩, 23) := ⟨⟨by decide +kernel, by decide +kernel⟩, List.mem_of_getElem? (i := 790) (by decide +kernel), List.mem_of_getElem? (i := 1231) (by decide +kernel), List.mem_of_getElem? (i := 1232) (by decide +kernel)⟩
theorem lw_p81 : lw_okq (⟨"JokePumpModel", "doesAll", "()I"⟩, 23) := ⟨⟨by decide +kernel, by decide +kernel⟩, List.mem_of_getElem? (i := 790) (by decide +kernel), List.mem_of_getElem? (i := 1235) (by decide +kernel), List.mem_of_getElem? (i := 1236) (by decide +kernel)⟩
theorem lw_p82 : lw_okq (⟨"JokePumpModel", "notNow", "()I"⟩, 23) := ⟨⟨by decide +kernel, by decide +kernel⟩, List.mem_of_getElem? (i := 790) (by decide +kernel), List.mem_of_getElem? (i := 1239) (by decide +kernel), List.mem_of_getElem? (i := 1240) (by decide +kernel)⟩
theorem lw_p83 : lw_okq (⟨"JokePumpModel", "doesNow", "()I"⟩, 23) := ⟨⟨by decide +kernel, by decide +kernel⟩, List.mem_of_getElem? (i := 790) (by decide +kernel), List.mem_of_getElem? (i := 1243) (by decide +kernel), List.mem_of_getElem? (i := 1244) (by decide +kernel)⟩
theorem lw_p84 : lw_okq (⟨"JokePumpModel", "forgets", "()V"⟩, 23) := ⟨⟨by decide +kernel, by decide +kernel⟩, List.mem_of_getElem? (i := 790) (by decide +kernel), List.mem_of_getElem? (i := 1247) (by decide +kernel), List.mem_of_getElem? (i := 1248) (by decide +kernel)⟩
theorem lw_p85 : lw_okq (⟨"JokePumpModel", "refuses", "(I)I"⟩, 23) := ⟨⟨by decide +kernel, by decide +kernel⟩, List.mem_of_getElem? (i := 790) (by decide +kernel), List.mem_of_getElem? (i := 1251) (by decide +kernel), List.mem_of_getElem? (i := 1252) (by decide +kernel)⟩
def lw_privs_6 : List (MethodName × Nat) := [(⟨"JokePumpModel", "readsBucket", "()Z"⟩, 23), (⟨"JokePumpModel", "doesAll", "()I"⟩, 23), (⟨"JokePumpModel", "notNow", "()I"⟩, 23), (⟨"JokePumpModel", "doesNow", "()I"⟩, 23), (⟨"JokePumpModel", "forgets", "()V"⟩, 23), (⟨"JokePumpModel", "refuses", "(I)I"⟩, 23)]
theorem lw_r6 : ∀ q ∈ lw_privs_6, lw_okq q := List.forall_mem_cons.mpr ⟨lw_p80, List.forall_mem_cons.mpr ⟨lw_p81, List.forall_mem_cons.mpr ⟨lw_p82, List.forall_mem_cons.mpr ⟨lw_p83, List.forall_mem_cons.mpr ⟨lw_p84, List.forall_mem_cons.mpr ⟨lw_p85, fun _ h => absurd h List.not_mem_nil⟩⟩⟩⟩⟩⟩
def lw_privs : List (MethodName × Nat) := lw_privs_1 ++ (lw_privs_2 ++ (lw_privs_3 ++ (lw_privs_4 ++ (lw_privs_5 ++ (lw_privs_6)))))
def lw_tbl : List Cond := k2_sels lw_privs ++ tables_1
theorem lw_privs_ok : ∀ q ∈ lw_privs, lw_okq q := by
  show ∀ q ∈ lw_privs_1 ++ (lw_privs_2 ++ (lw_privs_3 ++ (lw_privs_4 ++ (lw_privs_5 ++ (lw_privs_6))))), lw_okq q
  exact List.forall_mem_append.mpr ⟨lw_r1, List.forall_mem_append.mpr ⟨lw_r2, List.forall_mem_append.mpr ⟨lw_r3, List.forall_mem_append.mpr ⟨lw_r4, List.forall_mem_append.mpr ⟨lw_r5, lw_r6⟩⟩⟩⟩⟩
/-- the streams that the claim lets the run draw from -/
abbrev lw_cs : List Choice := [Jvm.Choice.named "NaN.bits", Jvm.Choice.named "NaN.copy"]
theorem lw_bits : nanBits ∈ lw_cs := by first | decide | exact List.mem_cons_self | simp [lw_cs, nanBits]
-- ===== end of PART A; then your names; then what follows =====
end
section
/-! ===== BEGIN words of one list among another's, by their places ===== -/
theorem goodIn_r {big : List Cond} (ws : List Cond) (ps : List Nat) (hp : ws = ps.filterMap (fun i => big[i]?)) (h : ws.all goodWord = true) : GoodIn big ws := by
  intro w hw
  have h1 := List.all_eq_true.mp h w hw
  rw [hp] at hw
  obtain ⟨i, -, hi⟩ := List.mem_filterMap.mp hw
  have hm : w ∈ big := by first | exact List.mem_of_getElem? hi | exact List.getElem?_mem hi
  exact ⟨hm, good_of_word h1⟩
theorem goodIn_app {big a b : List Cond} (ha : GoodIn big a) (hb : GoodIn big b) : GoodIn big (a ++ b) := fun w h => (List.mem_append.mp h).elim (ha w) (hb w)
theorem goodIn_ca {big a b : List Cond} {c : Cond} (ha : GoodIn big (c :: a)) (hb : GoodIn big b) : GoodIn big (c :: (a ++ b)) := fun w h => (List.mem_cons.mp h).elim (fun e => ha w (List.mem_cons.mpr (Or.inl e))) (fun h => (List.mem_append.mp h).elim (fun h => ha w (List.mem_cons.mpr (Or.inr h))) (hb w))
theorem goodIn_sub {big ws : List Cond} (hm : ∀ w ∈ ws, w ∈ big) (h : ws.all goodWord = true) : GoodIn big ws := fun w hw => ⟨hm w hw, good_of_word (List.all_eq_true.mp h w hw)⟩
/-! ===== END ===== -/

/-! ===== BEGIN printed: names, fields, word lists, decode rows ===== -/
def RX0 : String := "JokePump$History"
def TX0 : u_T := fun k => match k with
  | 0 => ("JokePump$History", "slots", "[LJokePump$State;", true)
  | 1 => ("JokePump$History", "next", "I", false)
  | _ => ("JokePump$History", "count", "I", false)
def tyX0 : Nat → FieldType := fun k => match k with
  | 0 => .array (.object "JokePump$State")
  | 1 => .int
  | _ => .int
abbrev wsX00 : List Cond := u_ws RX0 TX0 3
theorem nmX0 : ∀ a, a < 3 → ∀ b, b < 3 → a ≠ b → (TX0 a).2.1 ≠ (TX0 b).2.1 := by decide +kernel
theorem tyX0_ok : ∀ k, k < 3 → parseFieldDescriptor (TX0 k).2.2.1 = some (tyX0 k) := by decide +kernel
abbrev cX0_init : ByteArray := prog_2_method_1_code
def yX0_init : MethodName := ⟨RX0, "<init>", "()V"⟩
abbrev cX0_prepare : ByteArray := prog_2_method_2_code
def yX0_prepare : MethodName := ⟨RX0, "prepare", "(LJokePump$State;)V"⟩
abbrev cX0_keep : ByteArray := prog_2_method_3_code
def yX0_keep : MethodName := ⟨RX0, "keep", "()V"⟩
abbrev cX0_dismiss : ByteArray := prog_2_method_4_code
def yX0_dismiss : MethodName := ⟨RX0, "dismiss", "(LJokePump$State;)V"⟩
abbrev cX0_takeBack : ByteArray := prog_2_method_5_code
def yX0_takeBack : MethodName := ⟨RX0, "takeBack", "(LJokePump$State;)V"⟩
abbrev cX0_forget : ByteArray := prog_2_method_6_code
def yX0_forget : MethodName := ⟨RX0, "forget", "()V"⟩
abbrev cX0_slot : ByteArray := prog_2_method_7_code
def yX0_slot : MethodName := ⟨RX0, "slot", "()LJokePump$State;"⟩
def RX1 : String := "JokePump$Jokes"
def TX1 : u_T := fun k => match k with
  | 0 => ("JokePump$Jokes", "count", "I", false)
  | 1 => ("JokePump$Jokes", "wells", "LJokePump$Row;", true)
  | 2 => ("JokePump$Jokes", "depths", "LJokePump$Row;", true)
  | 3 => ("JokePump$Jokes", "signs", "LJokePump$Row;", true)
  | 4 => ("JokePump$Jokes", "wits", "LJokePump$Row;", true)
  | _ => ("JokePump$Jokes", "primed", "LJokePump$Row;", true)
def tyX1 : Nat → FieldType := fun k => match k with
  | 0 => .int
  | 1 => .object "JokePump$Row"
  | 2 => .object "JokePump$Row"
  | 3 => .object "JokePump$Row"
  | 4 => .object "JokePump$Row"
  | _ => .object "JokePump$Row"
abbrev wsX10 : List Cond := u_ws RX1 TX1 6
theorem nmX1 : ∀ a, a < 6 → ∀ b, b < 6 → a ≠ b → (TX1 a).2.1 ≠ (TX1 b).2.1 := by decide +kernel
theorem tyX1_ok : ∀ k, k < 6 → parseFieldDescriptor (TX1 k).2.2.1 = some (tyX1 k) := by decide +kernel
abbrev cX1_init : ByteArray := prog_3_method_1_code
def yX1_init : MethodName := ⟨RX1, "<init>", "()V"⟩
abbrev cX1_has : ByteArray := prog_3_method_2_code
def yX1_has : MethodName := ⟨RX1, "has", "(I)Z"⟩
abbrev cX1_add : ByteArray := prog_3_method_3_code
def yX1_add : MethodName := ⟨RX1, "add", "(IIII)V"⟩
abbrev cX1_remove : ByteArray := prog_3_method_4_code
def yX1_remove : MethodName := ⟨RX1, "remove", "(I)V"⟩
abbrev cX1_withSign : ByteArray := prog_3_method_5_code
def yX1_withSign : MethodName := ⟨RX1, "withSign", "(I)I"⟩
abbrev cX1_atDepth : ByteArray := prog_3_method_6_code
def yX1_atDepth : MethodName := ⟨RX1, "atDepth", "(II)I"⟩
abbrev cX1_countIn : ByteArray := prog_3_method_7_code
def yX1_countIn : MethodName := ⟨RX1, "countIn", "(I)I"⟩
abbrev cX1_countWithin : ByteArray := prog_3_method_8_code
def yX1_countWithin : MethodName := ⟨RX1, "countWithin", "(II)I"⟩
abbrev cX1_byDepth : ByteArray := prog_3_method_9_code
def yX1_byDepth : MethodName := ⟨RX1, "byDepth", "(II)I"⟩
abbrev cX1_countPrimed : ByteArray := prog_3_method_10_code
def yX1_countPrimed : MethodName := ⟨RX1, "countPrimed", "()I"⟩
abbrev cX1_sumOfDepths : ByteArray := prog_3_method_11_code
def yX1_sumOfDepths : MethodName := ⟨RX1, "sumOfDepths", "()I"⟩
abbrev cX1_copy : ByteArray := prog_3_method_12_code
def yX1_copy : MethodName := ⟨RX1, "copy", "(LJokePump$Jokes;LJokePump$Jokes;)V"⟩
def RX2 : String := "JokePump$Reader"
def TX2 : u_T := fun k => match k with
  | 0 => ("JokePump$Reader", "kinds", "LJokePump$Row;", true)
  | 1 => ("JokePump$Reader", "numbers", "LJokePump$Row;", true)
  | 2 => ("JokePump$Reader", "count", "I", false)
  | _ => ("JokePump$Reader", "end", "I", false)
def tyX2 : Nat → FieldType := fun k => match k with
  | 0 => .object "JokePump$Row"
  | 1 => .object "JokePump$Row"
  | 2 => .int
  | _ => .int
abbrev wsX20 : List Cond := u_ws RX2 TX2 4
theorem nmX2 : ∀ a, a < 4 → ∀ b, b < 4 → a ≠ b → (TX2 a).2.1 ≠ (TX2 b).2.1 := by decide +kernel
theorem tyX2_ok : ∀ k, k < 4 → parseFieldDescriptor (TX2 k).2.2.1 = some (tyX2 k) := by decide +kernel
abbrev cX2_init : ByteArray := prog_4_method_1_code
def yX2_init : MethodName := ⟨RX2, "<init>", "()V"⟩
abbrev cX2_isText : ByteArray := prog_4_method_2_code
def yX2_isText : MethodName := ⟨RX2, "isText", "(LJokePump$Strip;)Z"⟩
abbrev cX2_numberOf : ByteArray := prog_4_method_3_code
def yX2_numberOf : MethodName := ⟨RX2, "numberOf", "(II)I"⟩
abbrev cX2_takeCommand : ByteArray := prog_4_method_4_code
def yX2_takeCommand : MethodName := ⟨RX2, "takeCommand", "(LJokePump$Strip;I)Z"⟩
abbrev cX2_follow : ByteArray := prog_4_method_5_code
def yX2_follow : MethodName := ⟨RX2, "follow", "(LJokePump$Strip;ILjava/lang/String;)Z"⟩
abbrev cX2_takeNumber : ByteArray := prog_4_method_6_code
def yX2_takeNumber : MethodName := ⟨RX2, "takeNumber", "(LJokePump$Strip;IZI)I"⟩
abbrev cX2_digitAt : ByteArray := prog_4_method_7_code
def yX2_digitAt : MethodName := ⟨RX2, "digitAt", "(LJokePump$Strip;I)I"⟩
abbrev cX2_formOf : ByteArray := prog_4_method_8_code
def yX2_formOf : MethodName := ⟨RX2, "formOf", "(I)Ljava/lang/String;"⟩
def RX3 : String := "JokePump$Row"
def TX3 : u_T := fun k => match k with
  | _ => ("JokePump$Row", "cells", "[I", true)
def tyX3 : Nat → FieldType := fun k => match k with
  | _ => .array .int
abbrev wsX30 : List Cond := u_ws RX3 TX3 1
theorem nmX3 : ∀ a, a < 1 → ∀ b, b < 1 → a ≠ b → (TX3 a).2.1 ≠ (TX3 b).2.1 := by decide +kernel
theorem tyX3_ok : ∀ k, k < 1 → parseFieldDescriptor (TX3 k).2.2.1 = some (tyX3 k) := by decide +kernel
abbrev cX3_init : ByteArray := prog_5_method_1_code
def yX3_init : MethodName := ⟨RX3, "<init>", "(I)V"⟩
abbrev cX3_at : ByteArray := prog_5_method_2_code
def yX3_at : MethodName := ⟨RX3, "at", "(I)I"⟩
abbrev cX3_put : ByteArray := prog_5_method_3_code
def yX3_put : MethodName := ⟨RX3, "put", "(II)V"⟩
abbrev cX3_takeOut : ByteArray := prog_5_method_4_code
def yX3_takeOut : MethodName := ⟨RX3, "takeOut", "(I)V"⟩
abbrev cX3_copy : ByteArray := prog_5_method_5_code
def yX3_copy : MethodName := ⟨RX3, "copy", "(LJokePump$Row;LJokePump$Row;)V"⟩
def RX4 : String := "JokePump$State"
def TX4 : u_T := fun k => match k with
  | 0 => ("JokePump$State", "jokes", "LJokePump$Jokes;", true)
  | 1 => ("JokePump$State", "told", "LJokePump$Told;", true)
  | 2 => ("JokePump$State", "buckets", "LJokePump$Row;", true)
  | 3 => ("JokePump$State", "well", "I", false)
  | 4 => ("JokePump$State", "length", "I", false)
  | 5 => ("JokePump$State", "reach", "I", false)
  | 6 => ("JokePump$State", "groans", "I", false)
  | 7 => ("JokePump$State", "drops", "I", false)
  | 8 => ("JokePump$State", "came", "I", false)
  | 9 => ("JokePump$State", "went", "I", false)
  | 10 => ("JokePump$State", "strokesMade", "I", false)
  | _ => ("JokePump$State", "drained", "I", false)
def tyX4 : Nat → FieldType := fun k => match k with
  | 0 => .object "JokePump$Jokes"
  | 1 => .object "JokePump$Told"
  | 2 => .object "JokePump$Row"
  | 3 => .int
  | 4 => .int
  | 5 => .int
  | 6 => .int
  | 7 => .int
  | 8 => .int
  | 9 => .int
  | 10 => .int
  | _ => .int
abbrev wsX40 : List Cond := u_ws RX4 TX4 12
theorem nmX4 : ∀ a, a < 12 → ∀ b, b < 12 → a ≠ b → (TX4 a).2.1 ≠ (TX4 b).2.1 := by decide +kernel
theorem tyX4_ok : ∀ k, k < 12 → parseFieldDescriptor (TX4 k).2.2.1 = some (tyX4 k) := by decide +kernel
abbrev cX4_init : ByteArray := prog_6_method_1_code
def yX4_init : MethodName := ⟨RX4, "<init>", "()V"⟩
abbrev cX4_reachBehind : ByteArray := prog_6_method_2_code
def yX4_reachBehind : MethodName := ⟨RX4, "reachBehind", "(II)I"⟩
abbrev cX4_groansOf : ByteArray := prog_6_method_3_code
def yX4_groansOf : MethodName := ⟨RX4, "groansOf", "(I)I"⟩
abbrev cX4_laughOf : ByteArray := prog_6_method_4_code
def yX4_laughOf : MethodName := ⟨RX4, "laughOf", "(II)F"⟩
abbrev cX4_makeStroke : ByteArray := prog_6_method_5_code
def yX4_makeStroke : MethodName := ⟨RX4, "makeStroke", "()I"⟩
abbrev cX4_lift : ByteArray := prog_6_method_6_code
def yX4_lift : MethodName := ⟨RX4, "lift", "(I)V"⟩
abbrev cX4_copy : ByteArray := prog_6_method_7_code
def yX4_copy : MethodName := ⟨RX4, "copy", "(LJokePump$State;LJokePump$State;)V"⟩
def RX5 : String := "JokePump$Strip"
def TX5 : u_T := fun k => match k with
  | 0 => ("JokePump$Strip", "signs", "[C", true)
  | _ => ("JokePump$Strip", "length", "I", false)
def tyX5 : Nat → FieldType := fun k => match k with
  | 0 => .array .char
  | _ => .int
abbrev wsX50 : List Cond := u_ws RX5 TX5 2
theorem nmX5 : ∀ a, a < 2 → ∀ b, b < 2 → a ≠ b → (TX5 a).2.1 ≠ (TX5 b).2.1 := by decide +kernel
theorem tyX5_ok : ∀ k, k < 2 → parseFieldDescriptor (TX5 k).2.2.1 = some (tyX5 k) := by decide +kernel
abbrev cX5_init : ByteArray := prog_7_method_1_code
def yX5_init : MethodName := ⟨RX5, "<init>", "()V"⟩
abbrev cX5_clear : ByteArray := prog_7_method_2_code
def yX5_clear : MethodName := ⟨RX5, "clear", "()V"⟩
abbrev cX5_putSign : ByteArray := prog_7_method_3_code
def yX5_putSign : MethodName := ⟨RX5, "putSign", "(C)V"⟩
abbrev cX5_putNumber : ByteArray := prog_7_method_4_code
def yX5_putNumber : MethodName := ⟨RX5, "putNumber", "(I)V"⟩
abbrev cX5_signAt : ByteArray := prog_7_method_5_code
def yX5_signAt : MethodName := ⟨RX5, "signAt", "(I)I"⟩
def RX6 : String := "JokePump$Told"
def TX6 : u_T := fun k => match k with
  | 0 => ("JokePump$Told", "count", "I", false)
  | 1 => ("JokePump$Told", "sum", "F", false)
  | 2 => ("JokePump$Told", "signs", "LJokePump$Row;", true)
  | 3 => ("JokePump$Told", "wells", "LJokePump$Row;", true)
  | 4 => ("JokePump$Told", "laughs", "[F", true)
  | _ => ("JokePump$Told", "known", "LJokePump$Row;", true)
def tyX6 : Nat → FieldType := fun k => match k with
  | 0 => .int
  | 1 => .float
  | 2 => .object "JokePump$Row"
  | 3 => .object "JokePump$Row"
  | 4 => .array .float
  | _ => .object "JokePump$Row"
abbrev wsX60 : List Cond := u_ws RX6 TX6 6
theorem nmX6 : ∀ a, a < 6 → ∀ b, b < 6 → a ≠ b → (TX6 a).2.1 ≠ (TX6 b).2.1 := by decide +kernel
theorem tyX6_ok : ∀ k, k < 6 → parseFieldDescriptor (TX6 k).2.2.1 = some (tyX6 k) := by decide +kernel
abbrev cX6_init : ByteArray := prog_8_method_1_code
def yX6_init : MethodName := ⟨RX6, "<init>", "()V"⟩
abbrev cX6_add : ByteArray := prog_8_method_2_code
def yX6_add : MethodName := ⟨RX6, "add", "(IIF)V"⟩
abbrev cX6_laughAt : ByteArray := prog_8_method_3_code
def yX6_laughAt : MethodName := ⟨RX6, "laughAt", "(I)F"⟩
abbrev cX6_sumAgain : ByteArray := prog_8_method_4_code
def yX6_sumAgain : MethodName := ⟨RX6, "sumAgain", "()F"⟩
abbrev cX6_countFrom : ByteArray := prog_8_method_5_code
def yX6_countFrom : MethodName := ⟨RX6, "countFrom", "(I)I"⟩
abbrev cX6_countKnown : ByteArray := prog_8_method_6_code
def yX6_countKnown : MethodName := ⟨RX6, "countKnown", "()I"⟩
abbrev cX6_copy : ByteArray := prog_8_method_7_code
def yX6_copy : MethodName := ⟨RX6, "copy", "(LJokePump$Told;LJokePump$Told;)V"⟩
def RX7 : String := "JokePump"
def TX7 : u_T := fun k => match k with
  | 0 => ("JokePump", "now", "LJokePump$State;", true)
  | 1 => ("JokePump", "saved", "LJokePump$State;", true)
  | 2 => ("JokePump", "isSaved", "Z", false)
  | 3 => ("JokePump", "history", "LJokePump$History;", true)
  | 4 => ("JokePump", "input", "LJokePump$Strip;", true)
  | 5 => ("JokePump", "line", "LJokePump$Strip;", true)
  | 6 => ("JokePump", "reader", "LJokePump$Reader;", true)
  | 7 => ("JokePump", "faultPosition", "I", false)
  | 8 => ("JokePump", "reasonKind", "I", false)
  | 9 => ("JokePump", "reasonDetail", "I", false)
  | 10 => ("JokePump", "behindKind", "I", false)
  | _ => ("JokePump", "behindDetail", "I", false)
def tyX7 : Nat → FieldType := fun k => match k with
  | 0 => .object "JokePump$State"
  | 1 => .object "JokePump$State"
  | 2 => .boolean
  | 3 => .object "JokePump$History"
  | 4 => .object "JokePump$Strip"
  | 5 => .object "JokePump$Strip"
  | 6 => .object "JokePump$Reader"
  | 7 => .int
  | 8 => .int
  | 9 => .int
  | 10 => .int
  | _ => .int
abbrev wsX70 : List Cond := u_ws RX7 TX7 12
theorem nmX7 : ∀ a, a < 12 → ∀ b, b < 12 → a ≠ b → (TX7 a).2.1 ≠ (TX7 b).2.1 := by decide +kernel
theorem tyX7_ok : ∀ k, k < 12 → parseFieldDescriptor (TX7 k).2.2.1 = some (tyX7 k) := by decide +kernel
abbrev cX7_init : ByteArray := prog_1_method_1_code
def yX7_init : MethodName := ⟨RX7, "<init>", "()V"⟩
abbrev cX7_joke : ByteArray := prog_1_method_2_code
def yX7_joke : MethodName := ⟨RX7, "joke", "(IIII)I"⟩
abbrev cX7_prime : ByteArray := prog_1_method_3_code
def yX7_prime : MethodName := ⟨RX7, "prime", "(I)I"⟩
abbrev cX7_drop : ByteArray := prog_1_method_4_code
def yX7_drop : MethodName := ⟨RX7, "drop", "(I)I"⟩
abbrev cX7_drain : ByteArray := prog_1_method_5_code
def yX7_drain : MethodName := ⟨RX7, "drain", "(I)I"⟩
abbrev cX7_stroke : ByteArray := prog_1_method_6_code
def yX7_stroke : MethodName := ⟨RX7, "stroke", "(I)I"⟩
abbrev cX7_bucket : ByteArray := prog_1_method_7_code
def yX7_bucket : MethodName := ⟨RX7, "bucket", "(II)I"⟩
abbrev cX7_go : ByteArray := prog_1_method_8_code
def yX7_go : MethodName := ⟨RX7, "go", "(I)I"⟩
abbrev cX7_pump : ByteArray := prog_1_method_9_code
def yX7_pump : MethodName := ⟨RX7, "pump", "(I)I"⟩
abbrev cX7_read : ByteArray := prog_1_method_10_code
def yX7_read : MethodName := ⟨RX7, "read", "()I"⟩
abbrev cX7_undo : ByteArray := prog_1_method_11_code
def yX7_undo : MethodName := ⟨RX7, "undo", "()I"⟩
abbrev cX7_save : ByteArray := prog_1_method_12_code
def yX7_save : MethodName := ⟨RX7, "save", "()I"⟩
abbrev cX7_restore : ByteArray := prog_1_method_13_code
def yX7_restore : MethodName := ⟨RX7, "restore", "()I"⟩
abbrev cX7_jokeOf : ByteArray := prog_1_method_14_code
def yX7_jokeOf : MethodName := ⟨RX7, "jokeOf", "(II)I"⟩
abbrev cX7_wellOf : ByteArray := prog_1_method_15_code
def yX7_wellOf : MethodName := ⟨RX7, "wellOf", "(II)I"⟩
abbrev cX7_isKnown : ByteArray := prog_1_method_16_code
def yX7_isKnown : MethodName := ⟨RX7, "isKnown", "(I)I"⟩
abbrev cX7_inWell : ByteArray := prog_1_method_17_code
def yX7_inWell : MethodName := ⟨RX7, "inWell", "(II)I"⟩
abbrev cX7_funniest : ByteArray := prog_1_method_18_code
def yX7_funniest : MethodName := ⟨RX7, "funniest", "(I)I"⟩
abbrev cX7_fullest : ByteArray := prog_1_method_19_code
def yX7_fullest : MethodName := ⟨RX7, "fullest", "(I)I"⟩
abbrev cX7_meanDepth : ByteArray := prog_1_method_20_code
def yX7_meanDepth : MethodName := ⟨RX7, "meanDepth", "()D"⟩
abbrev cX7_laughBits : ByteArray := prog_1_method_21_code
def yX7_laughBits : MethodName := ⟨RX7, "laughBits", "(II)I"⟩
abbrev cX7_laughs : ByteArray := prog_1_method_22_code
def yX7_laughs : MethodName := ⟨RX7, "laughs", "()F"⟩
abbrev cX7_laughsAgain : ByteArray := prog_1_method_23_code
def yX7_laughsAgain : MethodName := ⟨RX7, "laughsAgain", "()F"⟩
abbrev cX7_wholeLaughs : ByteArray := prog_1_method_24_code
def yX7_wholeLaughs : MethodName := ⟨RX7, "wholeLaughs", "()I"⟩
abbrev cX7_liftedOf : ByteArray := prog_1_method_25_code
def yX7_liftedOf : MethodName := ⟨RX7, "liftedOf", "(II)I"⟩
abbrev cX7_knownShare : ByteArray := prog_1_method_26_code
def yX7_knownShare : MethodName := ⟨RX7, "knownShare", "()F"⟩
abbrev cX7_strokes : ByteArray := prog_1_method_27_code
def yX7_strokes : MethodName := ⟨RX7, "strokes", "(I)I"⟩
abbrev cX7_strokesAgain : ByteArray := prog_1_method_28_code
def yX7_strokesAgain : MethodName := ⟨RX7, "strokesAgain", "(I)I"⟩
abbrev cX7_would : ByteArray := prog_1_method_29_code
def yX7_would : MethodName := ⟨RX7, "would", "(I)I"⟩
abbrev cX7_groansIn : ByteArray := prog_1_method_30_code
def yX7_groansIn : MethodName := ⟨RX7, "groansIn", "(I)I"⟩
abbrev cX7_bestStroke : ByteArray := prog_1_method_31_code
def yX7_bestStroke : MethodName := ⟨RX7, "bestStroke", "()I"⟩
abbrev cX7_isCounted : ByteArray := prog_1_method_32_code
def yX7_isCounted : MethodName := ⟨RX7, "isCounted", "()Z"⟩
abbrev cX7_account : ByteArray := prog_1_method_33_code
def yX7_account : MethodName := ⟨RX7, "account", "(I)I"⟩
abbrev cX7_write : ByteArray := prog_1_method_34_code
def yX7_write : MethodName := ⟨RX7, "write", "(I)I"⟩
abbrev cX7_writePump : ByteArray := prog_1_method_35_code
def yX7_writePump : MethodName := ⟨RX7, "writePump", "()I"⟩
abbrev cX7_written : ByteArray := prog_1_method_36_code
def yX7_written : MethodName := ⟨RX7, "written", "(I)I"⟩
abbrev cX7_append : ByteArray := prog_1_method_37_code
def yX7_append : MethodName := ⟨RX7, "append", "(C)I"⟩
abbrev cX7_fault : ByteArray := prog_1_method_38_code
def yX7_fault : MethodName := ⟨RX7, "fault", "()I"⟩
abbrev cX7_reason : ByteArray := prog_1_method_39_code
def yX7_reason : MethodName := ⟨RX7, "reason", "(IZ)I"⟩
abbrev cX7_letCome : ByteArray := prog_1_method_40_code
def yX7_letCome : MethodName := ⟨RX7, "letCome", "(IIII)I"⟩
abbrev cX7_makePrimed : ByteArray := prog_1_method_41_code
def yX7_makePrimed : MethodName := ⟨RX7, "makePrimed", "(I)I"⟩
abbrev cX7_letGo : ByteArray := prog_1_method_42_code
def yX7_letGo : MethodName := ⟨RX7, "letGo", "(I)I"⟩
abbrev cX7_drainGroans : ByteArray := prog_1_method_43_code
def yX7_drainGroans : MethodName := ⟨RX7, "drainGroans", "(I)I"⟩
abbrev cX7_setStroke : ByteArray := prog_1_method_44_code
def yX7_setStroke : MethodName := ⟨RX7, "setStroke", "(I)I"⟩
abbrev cX7_setBucket : ByteArray := prog_1_method_45_code
def yX7_setBucket : MethodName := ⟨RX7, "setBucket", "(II)I"⟩
abbrev cX7_moveTo : ByteArray := prog_1_method_46_code
def yX7_moveTo : MethodName := ⟨RX7, "moveTo", "(I)I"⟩
abbrev cX7_makeStrokes : ByteArray := prog_1_method_47_code
def yX7_makeStrokes : MethodName := ⟨RX7, "makeStrokes", "(I)I"⟩
abbrev cX7_keepChange : ByteArray := prog_1_method_48_code
def yX7_keepChange : MethodName := ⟨RX7, "keepChange", "(I)I"⟩
abbrev cX7_refuse : ByteArray := prog_1_method_49_code
def yX7_refuse : MethodName := ⟨RX7, "refuse", "(II)I"⟩
abbrev cX7_readInput : ByteArray := prog_1_method_50_code
def yX7_readInput : MethodName := ⟨RX7, "readInput", "()I"⟩
abbrev cX7_doCommands : ByteArray := prog_1_method_51_code
def yX7_doCommands : MethodName := ⟨RX7, "doCommands", "()I"⟩
abbrev cX7_doCommand : ByteArray := prog_1_method_52_code
def yX7_doCommand : MethodName := ⟨RX7, "doCommand", "(I)I"⟩
abbrev cX7_refuseCommand : ByteArray := prog_1_method_53_code
def yX7_refuseCommand : MethodName := ⟨RX7, "refuseCommand", "(IZ)I"⟩
abbrev cX7_leastDepth : ByteArray := prog_1_method_54_code
def yX7_leastDepth : MethodName := ⟨RX7, "leastDepth", "(I)I"⟩
abbrev cX7_countFunnier : ByteArray := prog_1_method_55_code
def yX7_countFunnier : MethodName := ⟨RX7, "countFunnier", "(I)I"⟩
abbrev cX7_isFunnier : ByteArray := prog_1_method_56_code
def yX7_isFunnier : MethodName := ⟨RX7, "isFunnier", "(II)Z"⟩
abbrev cX7_countFuller : ByteArray := prog_1_method_57_code
def yX7_countFuller : MethodName := ⟨RX7, "countFuller", "(I)I"⟩
abbrev cX7_isFuller : ByteArray := prog_1_method_58_code
def yX7_isFuller : MethodName := ⟨RX7, "isFuller", "(II)Z"⟩
abbrev cX7_groansToReach : ByteArray := prog_1_method_59_code
def yX7_groansToReach : MethodName := ⟨RX7, "groansToReach", "(II)I"⟩
abbrev cX7_areLaughsAlike : ByteArray := prog_1_method_60_code
def yX7_areLaughsAlike : MethodName := ⟨RX7, "areLaughsAlike", "()Z"⟩
abbrev cX7_areStrokesAlike : ByteArray := prog_1_method_61_code
def yX7_areStrokesAlike : MethodName := ⟨RX7, "areStrokesAlike", "()Z"⟩
abbrev cX7_areSignsUnknown : ByteArray := prog_1_method_62_code
def yX7_areSignsUnknown : MethodName := ⟨RX7, "areSignsUnknown", "()Z"⟩
abbrev cX7_putJoke : ByteArray := prog_1_method_63_code
def yX7_putJoke : MethodName := ⟨RX7, "putJoke", "(I)V"⟩
abbrev cX7_isWell : ByteArray := prog_1_method_64_code
def yX7_isWell : MethodName := ⟨RX7, "isWell", "(I)Z"⟩
abbrev cX7_isWithin : ByteArray := prog_1_method_65_code
def yX7_isWithin : MethodName := ⟨RX7, "isWithin", "(III)Z"⟩
abbrev cX7_bitsOf : ByteArray := prog_1_method_66_code
def yX7_bitsOf : MethodName := ⟨RX7, "bitsOf", "(F)I"⟩
def RX8 : String := "JokePumpModel"
def TX8 : u_T := fun k => match k with
  | 0 => ("JokePumpModel", "why", "I", false)
  | 1 => ("JokePumpModel", "detail", "I", false)
  | 2 => ("JokePumpModel", "whyBehind", "I", false)
  | 3 => ("JokePumpModel", "detailBehind", "I", false)
  | 4 => ("JokePumpModel", "whyNow", "I", false)
  | 5 => ("JokePumpModel", "detailNow", "I", false)
  | 6 => ("JokePumpModel", "w", "[I", true)
  | 7 => ("JokePumpModel", "undos", "[I", true)
  | 8 => ("JokePumpModel", "savedRow", "[I", true)
  | 9 => ("JokePumpModel", "mind", "[I", true)
  | 10 => ("JokePumpModel", "ahead", "[I", true)
  | 11 => ("JokePumpModel", "changes", "I", false)
  | 12 => ("JokePumpModel", "firstChange", "I", false)
  | 13 => ("JokePumpModel", "isSaved", "Z", false)
  | 14 => ("JokePumpModel", "line", "[C", true)
  | 15 => ("JokePumpModel", "lineLength", "I", false)
  | 16 => ("JokePumpModel", "input", "[C", true)
  | 17 => ("JokePumpModel", "inputMany", "I", false)
  | 18 => ("JokePumpModel", "inputAt", "I", false)
  | 19 => ("JokePumpModel", "faultAt", "I", false)
  | 20 => ("JokePumpModel", "numbers", "[I", true)
  | 21 => ("JokePumpModel", "sort", "I", false)
  | _ => ("JokePumpModel", "done", "I", false)
def tyX8 : Nat → FieldType := fun k => match k with
  | 0 => .int
  | 1 => .int
  | 2 => .int
  | 3 => .int
  | 4 => .int
  | 5 => .int
  | 6 => .array .int
  | 7 => .array .int
  | 8 => .array .int
  | 9 => .array .int
  | 10 => .array .int
  | 11 => .int
  | 12 => .int
  | 13 => .boolean
  | 14 => .array .char
  | 15 => .int
  | 16 => .array .char
  | 17 => .int
  | 18 => .int
  | 19 => .int
  | 20 => .array .int
  | 21 => .int
  | _ => .int
abbrev wsX80 : List Cond := u_ws RX8 TX8 23
theorem nmX8 : ∀ a, a < 23 → ∀ b, b < 23 → a ≠ b → (TX8 a).2.1 ≠ (TX8 b).2.1 := by decide +kernel
theorem tyX8_ok : ∀ k, k < 23 → parseFieldDescriptor (TX8 k).2.2.1 = some (tyX8 k) := by decide +kernel
abbrev cX8_isBetween : ByteArray := prog_10_method_1_code
def yX8_isBetween : MethodName := ⟨RX8, "isBetween", "(III)Z"⟩
abbrev cX8_isNot : ByteArray := prog_10_method_2_code
def yX8_isNot : MethodName := ⟨RX8, "isNot", "(II)I"⟩
abbrev cX8_answers : ByteArray := prog_10_method_3_code
def yX8_answers : MethodName := ⟨RX8, "answers", "(I)I"⟩
abbrev cX8_reason : ByteArray := prog_10_method_4_code
def yX8_reason : MethodName := ⟨RX8, "reason", "(IZ)I"⟩
abbrev cX8_init : ByteArray := prog_10_method_5_code
def yX8_init : MethodName := ⟨RX8, "<init>", "()V"⟩
abbrev cX8_thinks : ByteArray := prog_10_method_6_code
def yX8_thinks : MethodName := ⟨RX8, "thinks", "()V"⟩
abbrev cX8_forgets : ByteArray := prog_10_method_7_code
def yX8_forgets : MethodName := ⟨RX8, "forgets", "()V"⟩
abbrev cX8_keepsMind : ByteArray := prog_10_method_8_code
def yX8_keepsMind : MethodName := ⟨RX8, "keepsMind", "()V"⟩
abbrev cX8_remembers : ByteArray := prog_10_method_9_code
def yX8_remembers : MethodName := ⟨RX8, "remembers", "()V"⟩
abbrev cX8_is : ByteArray := prog_10_method_10_code
def yX8_is : MethodName := ⟨RX8, "is", "(II)I"⟩
abbrev cX8_isJoke : ByteArray := prog_10_method_11_code
def yX8_isJoke : MethodName := ⟨RX8, "isJoke", "(I)Z"⟩
abbrev cX8_isWell : ByteArray := prog_10_method_12_code
def yX8_isWell : MethodName := ⟨RX8, "isWell", "(I)Z"⟩
abbrev cX8_isKnownSign : ByteArray := prog_10_method_13_code
def yX8_isKnownSign : MethodName := ⟨RX8, "isKnownSign", "(I)Z"⟩
abbrev cX8_jokesIn : ByteArray := prog_10_method_14_code
def yX8_jokesIn : MethodName := ⟨RX8, "jokesIn", "(I)I"⟩
abbrev cX8_jokeWith : ByteArray := prog_10_method_15_code
def yX8_jokeWith : MethodName := ⟨RX8, "jokeWith", "(I)I"⟩
abbrev cX8_jokeAt : ByteArray := prog_10_method_16_code
def yX8_jokeAt : MethodName := ⟨RX8, "jokeAt", "(II)I"⟩
abbrev cX8_above : ByteArray := prog_10_method_17_code
def yX8_above : MethodName := ⟨RX8, "above", "(I)I"⟩
abbrev cX8_atPlace : ByteArray := prog_10_method_18_code
def yX8_atPlace : MethodName := ⟨RX8, "atPlace", "(II)I"⟩
abbrev cX8_notJoke : ByteArray := prog_10_method_19_code
def yX8_notJoke : MethodName := ⟨RX8, "notJoke", "(IIII)I"⟩
abbrev cX8_comes : ByteArray := prog_10_method_20_code
def yX8_comes : MethodName := ⟨RX8, "comes", "(IIII)I"⟩
abbrev cX8_joke : ByteArray := prog_10_method_21_code
def yX8_joke : MethodName := ⟨RX8, "joke", "(IIII)I"⟩
abbrev cX8_notPrime : ByteArray := prog_10_method_22_code
def yX8_notPrime : MethodName := ⟨RX8, "notPrime", "(I)I"⟩
abbrev cX8_primes : ByteArray := prog_10_method_23_code
def yX8_primes : MethodName := ⟨RX8, "primes", "(I)I"⟩
abbrev cX8_prime : ByteArray := prog_10_method_24_code
def yX8_prime : MethodName := ⟨RX8, "prime", "(I)I"⟩
abbrev cX8_goes : ByteArray := prog_10_method_25_code
def yX8_goes : MethodName := ⟨RX8, "goes", "(I)V"⟩
abbrev cX8_notDrop : ByteArray := prog_10_method_26_code
def yX8_notDrop : MethodName := ⟨RX8, "notDrop", "(I)I"⟩
abbrev cX8_drops : ByteArray := prog_10_method_27_code
def yX8_drops : MethodName := ⟨RX8, "drops", "(I)I"⟩
abbrev cX8_drop : ByteArray := prog_10_method_28_code
def yX8_drop : MethodName := ⟨RX8, "drop", "(I)I"⟩
abbrev cX8_notDrain : ByteArray := prog_10_method_29_code
def yX8_notDrain : MethodName := ⟨RX8, "notDrain", "(I)I"⟩
abbrev cX8_drains : ByteArray := prog_10_method_30_code
def yX8_drains : MethodName := ⟨RX8, "drains", "(I)I"⟩
abbrev cX8_drain : ByteArray := prog_10_method_31_code
def yX8_drain : MethodName := ⟨RX8, "drain", "(I)I"⟩
abbrev cX8_tells : ByteArray := prog_10_method_32_code
def yX8_tells : MethodName := ⟨RX8, "tells", "(II)I"⟩
abbrev cX8_notStroke : ByteArray := prog_10_method_33_code
def yX8_notStroke : MethodName := ⟨RX8, "notStroke", "(I)I"⟩
abbrev cX8_stroke : ByteArray := prog_10_method_34_code
def yX8_stroke : MethodName := ⟨RX8, "stroke", "(I)I"⟩
abbrev cX8_notBucket : ByteArray := prog_10_method_35_code
def yX8_notBucket : MethodName := ⟨RX8, "notBucket", "(II)I"⟩
abbrev cX8_bucket : ByteArray := prog_10_method_36_code
def yX8_bucket : MethodName := ⟨RX8, "bucket", "(II)I"⟩
abbrev cX8_notGo : ByteArray := prog_10_method_37_code
def yX8_notGo : MethodName := ⟨RX8, "notGo", "(I)I"⟩
abbrev cX8_moves : ByteArray := prog_10_method_38_code
def yX8_moves : MethodName := ⟨RX8, "moves", "(I)I"⟩
abbrev cX8_go : ByteArray := prog_10_method_39_code
def yX8_go : MethodName := ⟨RX8, "go", "(I)I"⟩
abbrev cX8_laughOf : ByteArray := prog_10_method_40_code
def yX8_laughOf : MethodName := ⟨RX8, "laughOf", "(II)F"⟩
abbrev cX8_lifts : ByteArray := prog_10_method_41_code
def yX8_lifts : MethodName := ⟨RX8, "lifts", "(I)V"⟩
abbrev cX8_nextReach : ByteArray := prog_10_method_42_code
def yX8_nextReach : MethodName := ⟨RX8, "nextReach", "(II)I"⟩
abbrev cX8_strokesOnce : ByteArray := prog_10_method_43_code
def yX8_strokesOnce : MethodName := ⟨RX8, "strokesOnce", "()I"⟩
abbrev cX8_pumps : ByteArray := prog_10_method_44_code
def yX8_pumps : MethodName := ⟨RX8, "pumps", "(I)I"⟩
abbrev cX8_notPump : ByteArray := prog_10_method_45_code
def yX8_notPump : MethodName := ⟨RX8, "notPump", "(I)I"⟩
abbrev cX8_pump : ByteArray := prog_10_method_46_code
def yX8_pump : MethodName := ⟨RX8, "pump", "(I)I"⟩
abbrev cX8_jokeOf : ByteArray := prog_10_method_47_code
def yX8_jokeOf : MethodName := ⟨RX8, "jokeOf", "(II)I"⟩
abbrev cX8_wellOf : ByteArray := prog_10_method_48_code
def yX8_wellOf : MethodName := ⟨RX8, "wellOf", "(II)I"⟩
abbrev cX8_isKnown : ByteArray := prog_10_method_49_code
def yX8_isKnown : MethodName := ⟨RX8, "isKnown", "(I)I"⟩
abbrev cX8_laughBits : ByteArray := prog_10_method_50_code
def yX8_laughBits : MethodName := ⟨RX8, "laughBits", "(II)I"⟩
abbrev cX8_laughs : ByteArray := prog_10_method_51_code
def yX8_laughs : MethodName := ⟨RX8, "laughs", "()F"⟩
abbrev cX8_laughsAgain : ByteArray := prog_10_method_52_code
def yX8_laughsAgain : MethodName := ⟨RX8, "laughsAgain", "()F"⟩
abbrev cX8_wholeLaughs : ByteArray := prog_10_method_53_code
def yX8_wholeLaughs : MethodName := ⟨RX8, "wholeLaughs", "()I"⟩
abbrev cX8_liftedOf : ByteArray := prog_10_method_54_code
def yX8_liftedOf : MethodName := ⟨RX8, "liftedOf", "(II)I"⟩
abbrev cX8_strokes : ByteArray := prog_10_method_55_code
def yX8_strokes : MethodName := ⟨RX8, "strokes", "(I)I"⟩
abbrev cX8_strokesAgain : ByteArray := prog_10_method_56_code
def yX8_strokesAgain : MethodName := ⟨RX8, "strokesAgain", "(I)I"⟩
abbrev cX8_looksAhead : ByteArray := prog_10_method_57_code
def yX8_looksAhead : MethodName := ⟨RX8, "looksAhead", "()V"⟩
abbrev cX8_comesBack : ByteArray := prog_10_method_58_code
def yX8_comesBack : MethodName := ⟨RX8, "comesBack", "()V"⟩
abbrev cX8_would : ByteArray := prog_10_method_59_code
def yX8_would : MethodName := ⟨RX8, "would", "(I)I"⟩
abbrev cX8_groansIn : ByteArray := prog_10_method_60_code
def yX8_groansIn : MethodName := ⟨RX8, "groansIn", "(I)I"⟩
abbrev cX8_groansTo : ByteArray := prog_10_method_61_code
def yX8_groansTo : MethodName := ⟨RX8, "groansTo", "(II)I"⟩
abbrev cX8_bestStroke : ByteArray := prog_10_method_62_code
def yX8_bestStroke : MethodName := ⟨RX8, "bestStroke", "()I"⟩
abbrev cX8_isFunnier : ByteArray := prog_10_method_63_code
def yX8_isFunnier : MethodName := ⟨RX8, "isFunnier", "(II)Z"⟩
abbrev cX8_funniest : ByteArray := prog_10_method_64_code
def yX8_funniest : MethodName := ⟨RX8, "funniest", "(I)I"⟩
abbrev cX8_inWell : ByteArray := prog_10_method_65_code
def yX8_inWell : MethodName := ⟨RX8, "inWell", "(II)I"⟩
abbrev cX8_isFuller : ByteArray := prog_10_method_66_code
def yX8_isFuller : MethodName := ⟨RX8, "isFuller", "(II)Z"⟩
abbrev cX8_fullest : ByteArray := prog_10_method_67_code
def yX8_fullest : MethodName := ⟨RX8, "fullest", "(I)I"⟩
abbrev cX8_isCounted : ByteArray := prog_10_method_68_code
def yX8_isCounted : MethodName := ⟨RX8, "isCounted", "()Z"⟩
abbrev cX8_meanDepth : ByteArray := prog_10_method_69_code
def yX8_meanDepth : MethodName := ⟨RX8, "meanDepth", "()D"⟩
abbrev cX8_knownShare : ByteArray := prog_10_method_70_code
def yX8_knownShare : MethodName := ⟨RX8, "knownShare", "()F"⟩
abbrev cX8_primed : ByteArray := prog_10_method_71_code
def yX8_primed : MethodName := ⟨RX8, "primed", "()I"⟩
abbrev cX8_account : ByteArray := prog_10_method_72_code
def yX8_account : MethodName := ⟨RX8, "account", "(I)I"⟩
abbrev cX8_writes : ByteArray := prog_10_method_73_code
def yX8_writes : MethodName := ⟨RX8, "writes", "(I)V"⟩
abbrev cX8_writesNumber : ByteArray := prog_10_method_74_code
def yX8_writesNumber : MethodName := ⟨RX8, "writesNumber", "(I)V"⟩
abbrev cX8_writesJoke : ByteArray := prog_10_method_75_code
def yX8_writesJoke : MethodName := ⟨RX8, "writesJoke", "(I)V"⟩
abbrev cX8_write : ByteArray := prog_10_method_76_code
def yX8_write : MethodName := ⟨RX8, "write", "(I)I"⟩
abbrev cX8_writePump : ByteArray := prog_10_method_77_code
def yX8_writePump : MethodName := ⟨RX8, "writePump", "()I"⟩
abbrev cX8_written : ByteArray := prog_10_method_78_code
def yX8_written : MethodName := ⟨RX8, "written", "(I)I"⟩
abbrev cX8_append : ByteArray := prog_10_method_79_code
def yX8_append : MethodName := ⟨RX8, "append", "(C)I"⟩
abbrev cX8_fault : ByteArray := prog_10_method_80_code
def yX8_fault : MethodName := ⟨RX8, "fault", "()I"⟩
abbrev cX8_nextSign : ByteArray := prog_10_method_81_code
def yX8_nextSign : MethodName := ⟨RX8, "nextSign", "()I"⟩
abbrev cX8_reads : ByteArray := prog_10_method_82_code
def yX8_reads : MethodName := ⟨RX8, "reads", "(I)Z"⟩
abbrev cX8_readsDigit : ByteArray := prog_10_method_83_code
def yX8_readsDigit : MethodName := ⟨RX8, "readsDigit", "(I)Z"⟩
abbrev cX8_readsNumber : ByteArray := prog_10_method_84_code
def yX8_readsNumber : MethodName := ⟨RX8, "readsNumber", "(I)Z"⟩
abbrev cX8_readsJoke : ByteArray := prog_10_method_85_code
def yX8_readsJoke : MethodName := ⟨RX8, "readsJoke", "()Z"⟩
abbrev cX8_readsP : ByteArray := prog_10_method_86_code
def yX8_readsP : MethodName := ⟨RX8, "readsP", "()Z"⟩
abbrev cX8_readsD : ByteArray := prog_10_method_87_code
def yX8_readsD : MethodName := ⟨RX8, "readsD", "()Z"⟩
abbrev cX8_readsStroke : ByteArray := prog_10_method_88_code
def yX8_readsStroke : MethodName := ⟨RX8, "readsStroke", "()Z"⟩
abbrev cX8_readsBucket : ByteArray := prog_10_method_89_code
def yX8_readsBucket : MethodName := ⟨RX8, "readsBucket", "()Z"⟩
abbrev cX8_readsCommand : ByteArray := prog_10_method_90_code
def yX8_readsCommand : MethodName := ⟨RX8, "readsCommand", "()Z"⟩
abbrev cX8_readsAll : ByteArray := prog_10_method_91_code
def yX8_readsAll : MethodName := ⟨RX8, "readsAll", "()Z"⟩
abbrev cX8_notNow : ByteArray := prog_10_method_92_code
def yX8_notNow : MethodName := ⟨RX8, "notNow", "()I"⟩
abbrev cX8_doesNow : ByteArray := prog_10_method_93_code
def yX8_doesNow : MethodName := ⟨RX8, "doesNow", "()I"⟩
abbrev cX8_doesAll : ByteArray := prog_10_method_94_code
def yX8_doesAll : MethodName := ⟨RX8, "doesAll", "()I"⟩
abbrev cX8_refuses : ByteArray := prog_10_method_95_code
def yX8_refuses : MethodName := ⟨RX8, "refuses", "(I)I"⟩
abbrev cX8_read : ByteArray := prog_10_method_96_code
def yX8_read : MethodName := ⟨RX8, "read", "()I"⟩
abbrev cX8_undo : ByteArray := prog_10_method_97_code
def yX8_undo : MethodName := ⟨RX8, "undo", "()I"⟩
abbrev cX8_save : ByteArray := prog_10_method_98_code
def yX8_save : MethodName := ⟨RX8, "save", "()I"⟩
abbrev cX8_restore : ByteArray := prog_10_method_99_code
def yX8_restore : MethodName := ⟨RX8, "restore", "()I"⟩
def RJxf58ca : String := "java/lang/Float"
def TJxf58ca : u_T := fun k => match k with
  | _ => ("", "", "", false)
def tyJxf58ca : Nat → FieldType := fun k => match k with
  | _ => .int
theorem nmJxf58ca : ∀ a, a < 0 → ∀ b, b < 0 → a ≠ b → (TJxf58ca a).2.1 ≠ (TJxf58ca b).2.1 := by decide +kernel
theorem tyJxf58ca_ok : ∀ k, k < 0 → parseFieldDescriptor (TJxf58ca k).2.2.1 = some (tyJxf58ca k) := by decide +kernel
abbrev cJxf58ca_isNaN_12338 : ByteArray := prog_11_method_6_code
def yJxf58ca_isNaN_12338 : MethodName := ⟨RJxf58ca, "isNaN", "(F)Z"⟩
abbrev cJxf58ca_floatToIntBits_5c35a : ByteArray := prog_11_method_24_code
def yJxf58ca_floatToIntBits_5c35a : MethodName := ⟨RJxf58ca, "floatToIntBits", "(F)I"⟩
def RJ9 : String := "java/lang/Math"
def TJ9 : u_T := fun k => match k with
  | _ => ("", "", "", false)
def tyJ9 : Nat → FieldType := fun k => match k with
  | _ => .int
theorem nmJ9 : ∀ a, a < 0 → ∀ b, b < 0 → a ≠ b → (TJ9 a).2.1 ≠ (TJ9 b).2.1 := by decide +kernel
theorem tyJ9_ok : ∀ k, k < 0 → parseFieldDescriptor (TJ9 k).2.2.1 = some (tyJ9 k) := by decide +kernel
abbrev cJ9_max_7cf53 : ByteArray := prog_12_method_65_code
def yJ9_max_7cf53 : MethodName := ⟨RJ9, "max", "(II)I"⟩
abbrev cJ9_min_7cf53 : ByteArray := prog_12_method_69_code
def yJ9_min_7cf53 : MethodName := ⟨RJ9, "min", "(II)I"⟩
def RJ0 : String := "java/lang/String"
def TJ0 : u_T := fun k => match k with
  | _ => ("", "", "", false)
def tyJ0 : Nat → FieldType := fun k => match k with
  | _ => .int
theorem nmJ0 : ∀ a, a < 0 → ∀ b, b < 0 → a ≠ b → (TJ0 a).2.1 ≠ (TJ0 b).2.1 := by decide +kernel
theorem tyJ0_ok : ∀ k, k < 0 → parseFieldDescriptor (TJ0 k).2.2.1 = some (tyJ0 k) := by decide +kernel
abbrev cJ0_length_8abf5 : ByteArray := prog_13_method_54_code
def yJ0_length_8abf5 : MethodName := ⟨RJ0, "length", "()I"⟩
abbrev cJ0_charAt_5068e : ByteArray := prog_13_method_56_code
def yJ0_charAt_5068e : MethodName := ⟨RJ0, "charAt", "(I)C"⟩
abbrev cJ0_coder_7d493 : ByteArray := prog_13_method_152_code
def yJ0_coder_7d493 : MethodName := ⟨RJ0, "coder", "()B"⟩
abbrev cJ0_isLatin1_aae02 : ByteArray := prog_13_method_154_code
def yJ0_isLatin1_aae02 : MethodName := ⟨RJ0, "isLatin1", "()Z"⟩
abbrev cJ0_checkIndex_df160 : ByteArray := prog_13_method_155_code
def yJ0_checkIndex_df160 : MethodName := ⟨RJ0, "checkIndex", "(II)V"⟩
def RJ1 : String := "java/lang/StringLatin1"
def TJ1 : u_T := fun k => match k with
  | _ => ("", "", "", false)
def tyJ1 : Nat → FieldType := fun k => match k with
  | _ => .int
theorem nmJ1 : ∀ a, a < 0 → ∀ b, b < 0 → a ≠ b → (TJ1 a).2.1 ≠ (TJ1 b).2.1 := by decide +kernel
theorem tyJ1_ok : ∀ k, k < 0 → parseFieldDescriptor (TJ1 k).2.2.1 = some (tyJ1 k) := by decide +kernel
abbrev cJ1_charAt_3b067 : ByteArray := prog_14_method_2_code
def yJ1_charAt_3b067 : MethodName := ⟨RJ1, "charAt", "([BI)C"⟩
def RJ2 : String := "java/lang/StringUTF16"
def TJ2 : u_T := fun k => match k with
  | _ => ("", "", "", false)
def tyJ2 : Nat → FieldType := fun k => match k with
  | _ => .int
theorem nmJ2 : ∀ a, a < 0 → ∀ b, b < 0 → a ≠ b → (TJ2 a).2.1 ≠ (TJ2 b).2.1 := by decide +kernel
theorem tyJ2_ok : ∀ k, k < 0 → parseFieldDescriptor (TJ2 k).2.2.1 = some (tyJ2 k) := by decide +kernel
abbrev cJ2_getChar_3b067 : ByteArray := prog_15_method_5_code
def yJ2_getChar_3b067 : MethodName := ⟨RJ2, "getChar", "([BI)C"⟩
abbrev cJ2_length_9d52b : ByteArray := prog_15_method_6_code
def yJ2_length_9d52b : MethodName := ⟨RJ2, "length", "([B)I"⟩
abbrev cJ2_charAt_3b067 : ByteArray := prog_15_method_83_code
def yJ2_charAt_3b067 : MethodName := ⟨RJ2, "charAt", "([BI)C"⟩
abbrev cJ2_checkIndex_2214a : ByteArray := prog_15_method_91_code
def yJ2_checkIndex_2214a : MethodName := ⟨RJ2, "checkIndex", "(I[B)V"⟩
def RJ10 : String := "java/lang/System"
def TJ10 : u_T := fun k => match k with
  | _ => ("", "", "", false)
def tyJ10 : Nat → FieldType := fun k => match k with
  | _ => .int
theorem nmJ10 : ∀ a, a < 0 → ∀ b, b < 0 → a ≠ b → (TJ10 a).2.1 ≠ (TJ10 b).2.1 := by decide +kernel
theorem tyJ10_ok : ∀ k, k < 0 → parseFieldDescriptor (TJ10 k).2.2.1 = some (tyJ10 k) := by decide +kernel
def RJ3 : String := "jdk/internal/util/Preconditions"
def TJ3 : u_T := fun k => match k with
  | _ => ("", "", "", false)
def tyJ3 : Nat → FieldType := fun k => match k with
  | _ => .int
theorem nmJ3 : ∀ a, a < 0 → ∀ b, b < 0 → a ≠ b → (TJ3 a).2.1 ≠ (TJ3 b).2.1 := by decide +kernel
theorem tyJ3_ok : ∀ k, k < 0 → parseFieldDescriptor (TJ3 k).2.2.1 = some (tyJ3 k) := by decide +kernel
abbrev cJ3_checkIndex_8e157 : ByteArray := prog_17_method_11_code
def yJ3_checkIndex_8e157 : MethodName := ⟨RJ3, "checkIndex", "(IILjava/util/function/BiFunction;)I"⟩
def RL : String := "JokePumpLaw"
abbrev cL_law : ByteArray := code
def yL_law : MethodName := ⟨RL, "law", "([I)Z"⟩
abbrev vwCl : List vw_C := [(RX0, TX0, 3), (RX1, TX1, 6), (RX2, TX2, 4), (RX3, TX3, 1), (RX4, TX4, 12), (RX5, TX5, 2), (RX6, TX6, 6), (RX7, TX7, 12), (RX8, TX8, 23)]
end
section
theorem dX7_init_0 : decode cX7_init 0 = .ok (.aload_n 0, 1) := by decide +kernel
theorem dX7_init_1 : decode cX7_init 1 = .ok (.invokespecial 3, 3) := by decide +kernel
theorem dX7_init_4 : decode cX7_init 4 = .ok (.aload_n 0, 1) := by decide +kernel
theorem dX7_init_5 : decode cX7_init 5 = .ok (.new 9, 3) := by decide +kernel
theorem dX7_init_8 : decode cX7_init 8 = .ok (.dup, 1) := by decide +kernel
theorem dX7_init_9 : decode cX7_init 9 = .ok (.invokespecial 11, 3) := by decide +kernel
theorem dX7_init_12 : decode cX7_init 12 = .ok (.putfield 12, 3) := by decide +kernel
theorem dX7_init_15 : decode cX7_init 15 = .ok (.aload_n 0, 1) := by decide +kernel
theorem dX7_init_16 : decode cX7_init 16 = .ok (.new 9, 3) := by decide +kernel
theorem dX7_init_19 : decode cX7_init 19 = .ok (.dup, 1) := by decide +kernel
theorem dX7_init_20 : decode cX7_init 20 = .ok (.invokespecial 11, 3) := by decide +kernel
theorem dX7_init_23 : decode cX7_init 23 = .ok (.putfield 16, 3) := by decide +kernel
theorem dX7_init_26 : decode cX7_init 26 = .ok (.aload_n 0, 1) := by decide +kernel
theorem dX7_init_27 : decode cX7_init 27 = .ok (.iconst 0, 1) := by decide +kernel
theorem dX7_init_28 : decode cX7_init 28 = .ok (.putfield 19, 3) := by decide +kernel
theorem dX7_init_31 : decode cX7_init 31 = .ok (.aload_n 0, 1) := by decide +kernel
theorem dX7_init_32 : decode cX7_init 32 = .ok (.new 23, 3) := by decide +kernel
theorem dX7_init_35 : decode cX7_init 35 = .ok (.dup, 1) := by decide +kernel
theorem dX7_init_36 : decode cX7_init 36 = .ok (.invokespecial 25, 3) := by decide +kernel
theorem dX7_init_39 : decode cX7_init 39 = .ok (.putfield 26, 3) := by decide +kernel
theorem dX7_init_42 : decode cX7_init 42 = .ok (.aload_n 0, 1) := by decide +kernel
theorem dX7_init_43 : decode cX7_init 43 = .ok (.new 30, 3) := by decide +kernel
theorem dX7_init_46 : decode cX7_init 46 = .ok (.dup, 1) := by decide +kernel
theorem dX7_init_47 : decode cX7_init 47 = .ok (.invokespecial 32, 3) := by decide +kernel
theorem dX7_init_50 : decode cX7_init 50 = .ok (.putfield 33, 3) := by decide +kernel
theorem dX7_init_53 : decode cX7_init 53 = .ok (.aload_n 0, 1) := by decide +kernel
theorem dX7_init_54 : decode cX7_init 54 = .ok (.new 30, 3) := by decide +kernel
theorem dX7_init_57 : decode cX7_init 57 = .ok (.dup, 1) := by decide +kernel
theorem dX7_init_58 : decode cX7_init 58 = .ok (.invokespecial 32, 3) := by decide +kernel
theorem dX7_init_61 : decode cX7_init 61 = .ok (.putfield 37, 3) := by decide +kernel
theorem dX7_init_64 : decode cX7_init 64 = .ok (.aload_n 0, 1) := by decide +kernel
theorem dX7_init_65 : decode cX7_init 65 = .ok (.new 40, 3) := by decide +kernel
theorem dX7_init_68 : decode cX7_init 68 = .ok (.dup, 1) := by decide +kernel
theorem dX7_init_69 : decode cX7_init 69 = .ok (.invokespecial 42, 3) := by decide +kernel
theorem dX7_init_72 : decode cX7_init 72 = .ok (.putfield 43, 3) := by decide +kernel
theorem dX7_init_75 : decode cX7_init 75 = .ok (.aload_n 0, 1) := by decide +kernel
theorem dX7_init_76 : decode cX7_init 76 = .ok (.iconst (-1), 1) := by decide +kernel
theorem dX7_init_77 : decode cX7_init 77 = .ok (.putfield 47, 3) := by decide +kernel
theorem dX7_init_80 : decode cX7_init 80 = .ok (.aload_n 0, 1) := by decide +kernel
theorem dX7_init_81 : decode cX7_init 81 = .ok (.iconst 0, 1) := by decide +kernel
theorem dX7_init_82 : decode cX7_init 82 = .ok (.putfield 51, 3) := by decide +kernel
theorem dX7_init_85 : decode cX7_init 85 = .ok (.aload_n 0, 1) := by decide +kernel
theorem dX7_init_86 : decode cX7_init 86 = .ok (.iconst 0, 1) := by decide +kernel
theorem dX7_init_87 : decode cX7_init 87 = .ok (.putfield 54, 3) := by decide +kernel
theorem dX7_init_90 : decode cX7_init 90 = .ok (.aload_n 0, 1) := by decide +kernel
theorem dX7_init_91 : decode cX7_init 91 = .ok (.iconst 0, 1) := by decide +kernel
theorem dX7_init_92 : decode cX7_init 92 = .ok (.putfield 57, 3) := by decide +kernel
theorem dX7_init_95 : decode cX7_init 95 = .ok (.aload_n 0, 1) := by decide +kernel
theorem dX7_init_96 : decode cX7_init 96 = .ok (.iconst 0, 1) := by decide +kernel
theorem dX7_init_97 : decode cX7_init 97 = .ok (.putfield 60, 3) := by decide +kernel
theorem dX7_init_100 : decode cX7_init 100 = .ok (.return_, 1) := by decide +kernel
theorem dX7_joke_0 : decode cX7_joke 0 = .ok (.aload_n 0, 1) := by decide +kernel
theorem dX7_joke_1 : decode cX7_joke 1 = .ok (.getfield 26, 3) := by decide +kernel
theorem dX7_joke_4 : decode cX7_joke 4 = .ok (.aload_n 0, 1) := by decide +kernel
theorem dX7_joke_5 : decode cX7_joke 5 = .ok (.getfield 12, 3) := by decide +kernel
theorem dX7_joke_8 : decode cX7_joke 8 = .ok (.invokevirtual 63, 3) := by decide +kernel
theorem dX7_joke_11 : decode cX7_joke 11 = .ok (.aload_n 0, 1) := by decide +kernel
theorem dX7_joke_12 : decode cX7_joke 12 = .ok (.aload_n 0, 1) := by decide +kernel
theorem dX7_joke_13 : decode cX7_joke 13 = .ok (.iload_n 1, 1) := by decide +kernel
theorem dX7_joke_14 : decode cX7_joke 14 = .ok (.iload_n 2, 1) := by decide +kernel
theorem dX7_joke_15 : decode cX7_joke 15 = .ok (.iload_n 3, 1) := by decide +kernel
theorem dX7_joke_16 : decode cX7_joke 16 = .ok (.iload 4, 2) := by decide +kernel
theorem dX7_joke_18 : decode cX7_joke 18 = .ok (.invokevirtual 67, 3) := by decide +kernel
theorem dX7_joke_21 : decode cX7_joke 21 = .ok (.invokevirtual 71, 3) := by decide +kernel
theorem dX7_joke_24 : decode cX7_joke 24 = .ok (.ireturn, 1) := by decide +kernel
theorem dX7_prime_0 : decode cX7_prime 0 = .ok (.aload_n 0, 1) := by decide +kernel
theorem dX7_prime_1 : decode cX7_prime 1 = .ok (.getfield 26, 3) := by decide +kernel
theorem dX7_prime_4 : decode cX7_prime 4 = .ok (.aload_n 0, 1) := by decide +kernel
theorem dX7_prime_5 : decode cX7_prime 5 = .ok (.getfield 12, 3) := by decide +kernel
theorem dX7_prime_8 : decode cX7_prime 8 = .ok (.invokevirtual 63, 3) := by decide +kernel
theorem dX7_prime_11 : decode cX7_prime 11 = .ok (.aload_n 0, 1) := by decide +kernel
theorem dX7_prime_12 : decode cX7_prime 12 = .ok (.aload_n 0, 1) := by decide +kernel
theorem dX7_prime_13 : decode cX7_prime 13 = .ok (.iload_n 1, 1) := by decide +kernel
theorem dX7_prime_14 : decode cX7_prime 14 = .ok (.invokevirtual 75, 3) := by decide +kernel
theorem dX7_prime_17 : decode cX7_prime 17 = .ok (.invokevirtual 71, 3) := by decide +kernel
theorem dX7_prime_20 : decode cX7_prime 20 = .ok (.ireturn, 1) := by decide +kernel
theorem dX7_drop_0 : decode cX7_drop 0 = .ok (.aload_n 0, 1) := by decide +kernel
theorem dX7_drop_1 : decode cX7_drop 1 = .ok (.getfield 26, 3) := by decide +kernel
theorem dX7_drop_4 : decode cX7_drop 4 = .ok (.aload_n 0, 1) := by decide +kernel
theorem dX7_drop_5 : decode cX7_drop 5 = .ok (.getfield 12, 3) := by decide +kernel
theorem dX7_drop_8 : decode cX7_drop 8 = .ok (.invokevirtual 63, 3) := by decide +kernel
theorem dX7_drop_11 : decode cX7_drop 11 = .ok (.aload_n 0, 1) := by decide +kernel
theorem dX7_drop_12 : decode cX7_drop 12 = .ok (.aload_n 0, 1) := by decide +kernel
theorem dX7_drop_13 : decode cX7_drop 13 = .ok (.iload_n 1, 1) := by decide +kernel
theorem dX7_drop_14 : decode cX7_drop 14 = .ok (.invokevirtual 78, 3) := by decide +kernel
theorem dX7_drop_17 : decode cX7_drop 17 = .ok (.invokevirtual 71, 3) := by decide +kernel
theorem dX7_drop_20 : decode cX7_drop 20 = .ok (.ireturn, 1) := by decide +kernel
theorem dX7_drain_0 : decode cX7_drain 0 = .ok (.aload_n 0, 1) := by decide +kernel
theorem dX7_drain_1 : decode cX7_drain 1 = .ok (.getfield 26, 3) := by decide +kernel
theorem dX7_drain_4 : decode cX7_drain 4 = .ok (.aload_n 0, 1) := by decide +kernel
theorem dX7_drain_5 : decode cX7_drain 5 = .ok (.getfield 12, 3) := by decide +kernel
theorem dX7_drain_8 : decode cX7_drain 8 = .ok (.invokevirtual 63, 3) := by decide +kernel
theorem dX7_drain_11 : decode cX7_drain 11 = .ok (.aload_n 0, 1) := by decide +kernel
theorem dX7_drain_12 : decode cX7_drain 12 = .ok (.aload_n 0, 1) := by decide +kernel
theorem dX7_drain_13 : decode cX7_drain 13 = .ok (.iload_n 1, 1) := by decide +kernel
theorem dX7_drain_14 : decode cX7_drain 14 = .ok (.invokevirtual 81, 3) := by decide +kernel
theorem dX7_drain_17 : decode cX7_drain 17 = .ok (.invokevirtual 71, 3) := by decide +kernel
theorem dX7_drain_20 : decode cX7_drain 20 = .ok (.ireturn, 1) := by decide +kernel
theorem dX7_stroke_0 : decode cX7_stroke 0 = .ok (.aload_n 0, 1) := by decide +kernel
theorem dX7_stroke_1 : decode cX7_stroke 1 = .ok (.getfield 26, 3) := by decide +kernel
theorem dX7_stroke_4 : decode cX7_stroke 4 = .ok (.aload_n 0, 1) := by decide +kernel
theorem dX7_stroke_5 : decode cX7_stroke 5 = .ok (.getfield 12, 3) := by decide +kernel
theorem dX7_stroke_8 : decode cX7_stroke 8 = .ok (.invokevirtual 63, 3) := by decide +kernel
theorem dX7_stroke_11 : decode cX7_stroke 11 = .ok (.aload_n 0, 1) := by decide +kernel
theorem dX7_stroke_12 : decode cX7_stroke 12 = .ok (.aload_n 0, 1) := by decide +kernel
theorem dX7_stroke_13 : decode cX7_stroke 13 = .ok (.iload_n 1, 1) := by decide +kernel
theorem dX7_stroke_14 : decode cX7_stroke 14 = .ok (.invokevirtual 84, 3) := by decide +kernel
theorem dX7_stroke_17 : decode cX7_stroke 17 = .ok (.invokevirtual 71, 3) := by decide +kernel
theorem dX7_stroke_20 : decode cX7_stroke 20 = .ok (.ireturn, 1) := by decide +kernel
theorem dX7_bucket_0 : decode cX7_bucket 0 = .ok (.aload_n 0, 1) := by decide +kernel
theorem dX7_bucket_1 : decode cX7_bucket 1 = .ok (.getfield 26, 3) := by decide +kernel
theorem dX7_bucket_4 : decode cX7_bucket 4 = .ok (.aload_n 0, 1) := by decide +kernel
theorem dX7_bucket_5 : decode cX7_bucket 5 = .ok (.getfield 12, 3) := by decide +kernel
theorem dX7_bucket_8 : decode cX7_bucket 8 = .ok (.invokevirtual 63, 3) := by decide +kernel
theorem dX7_bucket_11 : decode cX7_bucket 11 = .ok (.aload_n 0, 1) := by decide +kernel
theorem dX7_bucket_12 : decode cX7_bucket 12 = .ok (.aload_n 0, 1) := by decide +kernel
theorem dX7_bucket_13 : decode cX7_bucket 13 = .ok (.iload_n 1, 1) := by decide +kernel
theorem dX7_bucket_14 : decode cX7_bucket 14 = .ok (.iload_n 2, 1) := by decide +kernel
theorem dX7_bucket_15 : decode cX7_bucket 15 = .ok (.invokevirtual 87, 3) := by decide +kernel
theorem dX7_bucket_18 : decode cX7_bucket 18 = .ok (.invokevirtual 71, 3) := by decide +kernel
theorem dX7_bucket_21 : decode cX7_bucket 21 = .ok (.ireturn, 1) := by decide +kernel
theorem dX7_go_0 : decode cX7_go 0 = .ok (.aload_n 0, 1) := by decide +kernel
theorem dX7_go_1 : decode cX7_go 1 = .ok (.getfield 26, 3) := by decide +kernel
theorem dX7_go_4 : decode cX7_go 4 = .ok (.aload_n 0, 1) := by decide +kernel
theorem dX7_go_5 : decode cX7_go 5 = .ok (.getfield 12, 3) := by decide +kernel
theorem dX7_go_8 : decode cX7_go 8 = .ok (.invokevirtual 63, 3) := by decide +kernel
theorem dX7_go_11 : decode cX7_go 11 = .ok (.aload_n 0, 1) := by decide +kernel
theorem dX7_go_12 : decode cX7_go 12 = .ok (.aload_n 0, 1) := by decide +kernel
theorem dX7_go_13 : decode cX7_go 13 = .ok (.iload_n 1, 1) := by decide +kernel
theorem dX7_go_14 : decode cX7_go 14 = .ok (.invokevirtual 91, 3) := by decide +kernel
theorem dX7_go_17 : decode cX7_go 17 = .ok (.invokevirtual 71, 3) := by decide +kernel
theorem dX7_go_20 : decode cX7_go 20 = .ok (.ireturn, 1) := by decide +kernel
theorem dX7_pump_0 : decode cX7_pump 0 = .ok (.aload_n 0, 1) := by decide +kernel
theorem dX7_pump_1 : decode cX7_pump 1 = .ok (.getfield 26, 3) := by decide +kernel
theorem dX7_pump_4 : decode cX7_pump 4 = .ok (.aload_n 0, 1) := by decide +kernel
theorem dX7_pump_5 : decode cX7_pump 5 = .ok (.getfield 12, 3) := by decide +kernel
theorem dX7_pump_8 : decode cX7_pump 8 = .ok (.invokevirtual 63, 3) := by decide +kernel
theorem dX7_pump_11 : decode cX7_pump 11 = .ok (.aload_n 0, 1) := by decide +kernel
theorem dX7_pump_12 : decode cX7_pump 12 = .ok (.aload_n 0, 1) := by decide +kernel
theorem dX7_pump_13 : decode cX7_pump 13 = .ok (.iload_n 1, 1) := by decide +kernel
theorem dX7_pump_14 : decode cX7_pump 14 = .ok (.invokevirtual 94, 3) := by decide +kernel
theorem dX7_pump_17 : decode cX7_pump 17 = .ok (.invokevirtual 71, 3) := by decide +kernel
theorem dX7_pump_20 : decode cX7_pump 20 = .ok (.ireturn, 1) := by decide +kernel
theorem dX7_read_0 : decode cX7_read 0 = .ok (.aload_n 0, 1) := by decide +kernel
theorem dX7_read_1 : decode cX7_read 1 = .ok (.invokevirtual 97, 3) := by decide +kernel
theorem dX7_read_4 : decode cX7_read 4 = .ok (.istore_n 1, 1) := by decide +kernel
theorem dX7_read_5 : decode cX7_read 5 = .ok (.aload_n 0, 1) := by decide +kernel
theorem dX7_read_6 : decode cX7_read 6 = .ok (.getfield 33, 3) := by decide +kernel
theorem dX7_read_9 : decode cX7_read 9 = .ok (.invokevirtual 101, 3) := by decide +kernel
theorem dX7_read_12 : decode cX7_read 12 = .ok (.iload_n 1, 1) := by decide +kernel
theorem dX7_read_13 : decode cX7_read 13 = .ok (.ireturn, 1) := by decide +kernel
theorem dX7_undo_0 : decode cX7_undo 0 = .ok (.aload_n 0, 1) := by decide +kernel
theorem dX7_undo_1 : decode cX7_undo 1 = .ok (.getfield 26, 3) := by decide +kernel
theorem dX7_undo_4 : decode cX7_undo 4 = .ok (.getfield 104, 3) := by decide +kernel
theorem dX7_undo_7 : decode cX7_undo 7 = .ok (.ifCond .ne 6, 3) := by decide +kernel
theorem dX7_undo_10 : decode cX7_undo 10 = .ok (.bipush (-3), 2) := by decide +kernel
theorem dX7_undo_12 : decode cX7_undo 12 = .ok (.ireturn, 1) := by decide +kernel
theorem dX7_undo_13 : decode cX7_undo 13 = .ok (.aload_n 0, 1) := by decide +kernel
theorem dX7_undo_14 : decode cX7_undo 14 = .ok (.getfield 26, 3) := by decide +kernel
theorem dX7_undo_17 : decode cX7_undo 17 = .ok (.aload_n 0, 1) := by decide +kernel
theorem dX7_undo_18 : decode cX7_undo 18 = .ok (.getfield 12, 3) := by decide +kernel
theorem dX7_undo_21 : decode cX7_undo 21 = .ok (.invokevirtual 107, 3) := by decide +kernel
theorem dX7_undo_24 : decode cX7_undo 24 = .ok (.aload_n 0, 1) := by decide +kernel
theorem dX7_undo_25 : decode cX7_undo 25 = .ok (.getfield 26, 3) := by decide +kernel
theorem dX7_undo_28 : decode cX7_undo 28 = .ok (.getfield 104, 3) := by decide +kernel
theorem dX7_undo_31 : decode cX7_undo 31 = .ok (.ireturn, 1) := by decide +kernel
theorem dX7_save_0 : decode cX7_save 0 = .ok (.aload_n 0, 1) := by decide +kernel
theorem dX7_save_1 : decode cX7_save 1 = .ok (.getfield 12, 3) := by decide +kernel
theorem dX7_save_4 : decode cX7_save 4 = .ok (.aload_n 0, 1) := by decide +kernel
theorem dX7_save_5 : decode cX7_save 5 = .ok (.getfield 16, 3) := by decide +kernel
theorem dX7_save_8 : decode cX7_save 8 = .ok (.invokestatic 110, 3) := by decide +kernel
theorem dX7_save_11 : decode cX7_save 11 = .ok (.aload_n 0, 1) := by decide +kernel
theorem dX7_save_12 : decode cX7_save 12 = .ok (.iconst 1, 1) := by decide +kernel
theorem dX7_save_13 : decode cX7_save 13 = .ok (.putfield 19, 3) := by decide +kernel
theorem dX7_save_16 : decode cX7_save 16 = .ok (.aload_n 0, 1) := by decide +kernel
theorem dX7_save_17 : decode cX7_save 17 = .ok (.getfield 12, 3) := by decide +kernel
theorem dX7_save_20 : decode cX7_save 20 = .ok (.getfield 114, 3) := by decide +kernel
theorem dX7_save_23 : decode cX7_save 23 = .ok (.getfield 118, 3) := by decide +kernel
theorem dX7_save_26 : decode cX7_save 26 = .ok (.ireturn, 1) := by decide +kernel
theorem dX7_restore_0 : decode cX7_restore 0 = .ok (.aload_n 0, 1) := by decide +kernel
theorem dX7_restore_1 : decode cX7_restore 1 = .ok (.getfield 19, 3) := by decide +kernel
theorem dX7_restore_4 : decode cX7_restore 4 = .ok (.ifCond .ne 6, 3) := by decide +kernel
theorem dX7_restore_7 : decode cX7_restore 7 = .ok (.bipush (-3), 2) := by decide +kernel
theorem dX7_restore_9 : decode cX7_restore 9 = .ok (.ireturn, 1) := by decide +kernel
theorem dX7_restore_10 : decode cX7_restore 10 = .ok (.aload_n 0, 1) := by decide +kernel
theorem dX7_restore_11 : decode cX7_restore 11 = .ok (.getfield 16, 3) := by decide +kernel
theorem dX7_restore_14 : decode cX7_restore 14 = .ok (.aload_n 0, 1) := by decide +kernel
theorem dX7_restore_15 : decode cX7_restore 15 = .ok (.getfield 12, 3) := by decide +kernel
theorem dX7_restore_18 : decode cX7_restore 18 = .ok (.invokestatic 110, 3) := by decide +kernel
theorem dX7_restore_21 : decode cX7_restore 21 = .ok (.aload_n 0, 1) := by decide +kernel
theorem dX7_restore_22 : decode cX7_restore 22 = .ok (.getfield 26, 3) := by decide +kernel
theorem dX7_restore_25 : decode cX7_restore 25 = .ok (.invokevirtual 121, 3) := by decide +kernel
theorem dX7_restore_28 : decode cX7_restore 28 = .ok (.aload_n 0, 1) := by decide +kernel
theorem dX7_restore_29 : decode cX7_restore 29 = .ok (.getfield 12, 3) := by decide +kernel
theorem dX7_restore_32 : decode cX7_restore 32 = .ok (.getfield 114, 3) := by decide +kernel
theorem dX7_restore_35 : decode cX7_restore 35 = .ok (.getfield 118, 3) := by decide +kernel
theorem dX7_restore_38 : decode cX7_restore 38 = .ok (.ireturn, 1) := by decide +kernel
theorem dX7_jokeOf_0 : decode cX7_jokeOf 0 = .ok (.aload_n 0, 1) := by decide +kernel
theorem dX7_jokeOf_1 : decode cX7_jokeOf 1 = .ok (.getfield 12, 3) := by decide +kernel
theorem dX7_jokeOf_4 : decode cX7_jokeOf 4 = .ok (.getfield 114, 3) := by decide +kernel
theorem dX7_jokeOf_7 : decode cX7_jokeOf 7 = .ok (.astore_n 3, 1) := by decide +kernel
theorem dX7_jokeOf_8 : decode cX7_jokeOf 8 = .ok (.aload_n 3, 1) := by decide +kernel
theorem dX7_jokeOf_9 : decode cX7_jokeOf 9 = .ok (.iload_n 1, 1) := by decide +kernel
theorem dX7_jokeOf_10 : decode cX7_jokeOf 10 = .ok (.invokevirtual 124, 3) := by decide +kernel
theorem dX7_jokeOf_13 : decode cX7_jokeOf 13 = .ok (.ifCond .ne 5, 3) := by decide +kernel
theorem dX7_jokeOf_16 : decode cX7_jokeOf 16 = .ok (.iconst (-1), 1) := by decide +kernel
theorem dX7_jokeOf_17 : decode cX7_jokeOf 17 = .ok (.ireturn, 1) := by decide +kernel
theorem dX7_jokeOf_18 : decode cX7_jokeOf 18 = .ok (.iload_n 2, 1) := by decide +kernel
theorem dX7_jokeOf_19 : decode cX7_jokeOf 19 = .ok (.tableswitch 105 0 5 #[37, 46, 55, 64, 73, 82], 37) := by decide +kernel
theorem dX7_jokeOf_56 : decode cX7_jokeOf 56 = .ok (.aload_n 3, 1) := by decide +kernel
theorem dX7_jokeOf_57 : decode cX7_jokeOf 57 = .ok (.getfield 128, 3) := by decide +kernel
theorem dX7_jokeOf_60 : decode cX7_jokeOf 60 = .ok (.iload_n 1, 1) := by decide +kernel
theorem dX7_jokeOf_61 : decode cX7_jokeOf 61 = .ok (.invokevirtual 132, 3) := by decide +kernel
theorem dX7_jokeOf_64 : decode cX7_jokeOf 64 = .ok (.ireturn, 1) := by decide +kernel
theorem dX7_jokeOf_65 : decode cX7_jokeOf 65 = .ok (.aload_n 3, 1) := by decide +kernel
theorem dX7_jokeOf_66 : decode cX7_jokeOf 66 = .ok (.getfield 137, 3) := by decide +kernel
theorem dX7_jokeOf_69 : decode cX7_jokeOf 69 = .ok (.iload_n 1, 1) := by decide +kernel
theorem dX7_jokeOf_70 : decode cX7_jokeOf 70 = .ok (.invokevirtual 132, 3) := by decide +kernel
theorem dX7_jokeOf_73 : decode cX7_jokeOf 73 = .ok (.ireturn, 1) := by decide +kernel
theorem dX7_jokeOf_74 : decode cX7_jokeOf 74 = .ok (.aload_n 3, 1) := by decide +kernel
theorem dX7_jokeOf_75 : decode cX7_jokeOf 75 = .ok (.getfield 140, 3) := by decide +kernel
theorem dX7_jokeOf_78 : decode cX7_jokeOf 78 = .ok (.iload_n 1, 1) := by decide +kernel
theorem dX7_jokeOf_79 : decode cX7_jokeOf 79 = .ok (.invokevirtual 132, 3) := by decide +kernel
theorem dX7_jokeOf_82 : decode cX7_jokeOf 82 = .ok (.ireturn, 1) := by decide +kernel
theorem dX7_jokeOf_83 : decode cX7_jokeOf 83 = .ok (.aload_n 3, 1) := by decide +kernel
theorem dX7_jokeOf_84 : decode cX7_jokeOf 84 = .ok (.getfield 143, 3) := by decide +kernel
theorem dX7_jokeOf_87 : decode cX7_jokeOf 87 = .ok (.iload_n 1, 1) := by decide +kernel
theorem dX7_jokeOf_88 : decode cX7_jokeOf 88 = .ok (.invokevirtual 132, 3) := by decide +kernel
theorem dX7_jokeOf_91 : decode cX7_jokeOf 91 = .ok (.ireturn, 1) := by decide +kernel
theorem dX7_jokeOf_92 : decode cX7_jokeOf 92 = .ok (.aload_n 3, 1) := by decide +kernel
theorem dX7_jokeOf_93 : decode cX7_jokeOf 93 = .ok (.getfield 146, 3) := by decide +kernel
theorem dX7_jokeOf_96 : decode cX7_jokeOf 96 = .ok (.iload_n 1, 1) := by decide +kernel
theorem dX7_jokeOf_97 : decode cX7_jokeOf 97 = .ok (.invokevirtual 132, 3) := by decide +kernel
theorem dX7_jokeOf_100 : decode cX7_jokeOf 100 = .ok (.ireturn, 1) := by decide +kernel
theorem dX7_jokeOf_101 : decode cX7_jokeOf 101 = .ok (.aload_n 3, 1) := by decide +kernel
theorem dX7_jokeOf_102 : decode cX7_jokeOf 102 = .ok (.aload_n 3, 1) := by decide +kernel
theorem dX7_jokeOf_103 : decode cX7_jokeOf 103 = .ok (.getfield 128, 3) := by decide +kernel
theorem dX7_jokeOf_106 : decode cX7_jokeOf 106 = .ok (.iload_n 1, 1) := by decide +kernel
theorem dX7_jokeOf_107 : decode cX7_jokeOf 107 = .ok (.invokevirtual 132, 3) := by decide +kernel
theorem dX7_jokeOf_110 : decode cX7_jokeOf 110 = .ok (.aload_n 3, 1) := by decide +kernel
theorem dX7_jokeOf_111 : decode cX7_jokeOf 111 = .ok (.getfield 137, 3) := by decide +kernel
theorem dX7_jokeOf_114 : decode cX7_jokeOf 114 = .ok (.iload_n 1, 1) := by decide +kernel
theorem dX7_jokeOf_115 : decode cX7_jokeOf 115 = .ok (.invokevirtual 132, 3) := by decide +kernel
theorem dX7_jokeOf_118 : decode cX7_jokeOf 118 = .ok (.iconst 1, 1) := by decide +kernel
theorem dX7_jokeOf_119 : decode cX7_jokeOf 119 = .ok (.isub, 1) := by decide +kernel
theorem dX7_jokeOf_120 : decode cX7_jokeOf 120 = .ok (.invokevirtual 149, 3) := by decide +kernel
theorem dX7_jokeOf_123 : decode cX7_jokeOf 123 = .ok (.ireturn, 1) := by decide +kernel
theorem dX7_jokeOf_124 : decode cX7_jokeOf 124 = .ok (.bipush (-2), 2) := by decide +kernel
theorem dX7_jokeOf_126 : decode cX7_jokeOf 126 = .ok (.ireturn, 1) := by decide +kernel
theorem dX7_wellOf_0 : decode cX7_wellOf 0 = .ok (.iload_n 1, 1) := by decide +kernel
theorem dX7_wellOf_1 : decode cX7_wellOf 1 = .ok (.invokestatic 152, 3) := by decide +kernel
theorem dX7_wellOf_4 : decode cX7_wellOf 4 = .ok (.ifCond .ne 5, 3) := by decide +kernel
theorem dX7_wellOf_7 : decode cX7_wellOf 7 = .ok (.iconst (-1), 1) := by decide +kernel
theorem dX7_wellOf_8 : decode cX7_wellOf 8 = .ok (.ireturn, 1) := by decide +kernel
theorem dX7_wellOf_9 : decode cX7_wellOf 9 = .ok (.iload_n 2, 1) := by decide +kernel
theorem dX7_wellOf_10 : decode cX7_wellOf 10 = .ok (.tableswitch 72 0 3 #[30, 42, 54, 60], 30) := by decide +kernel
theorem dX7_wellOf_40 : decode cX7_wellOf 40 = .ok (.aload_n 0, 1) := by decide +kernel
theorem dX7_wellOf_41 : decode cX7_wellOf 41 = .ok (.getfield 12, 3) := by decide +kernel
theorem dX7_wellOf_44 : decode cX7_wellOf 44 = .ok (.getfield 155, 3) := by decide +kernel
theorem dX7_wellOf_47 : decode cX7_wellOf 47 = .ok (.iload_n 1, 1) := by decide +kernel
theorem dX7_wellOf_48 : decode cX7_wellOf 48 = .ok (.invokevirtual 132, 3) := by decide +kernel
theorem dX7_wellOf_51 : decode cX7_wellOf 51 = .ok (.ireturn, 1) := by decide +kernel
theorem dX7_wellOf_52 : decode cX7_wellOf 52 = .ok (.aload_n 0, 1) := by decide +kernel
theorem dX7_wellOf_53 : decode cX7_wellOf 53 = .ok (.getfield 12, 3) := by decide +kernel
theorem dX7_wellOf_56 : decode cX7_wellOf 56 = .ok (.getfield 114, 3) := by decide +kernel
theorem dX7_wellOf_59 : decode cX7_wellOf 59 = .ok (.iload_n 1, 1) := by decide +kernel
theorem dX7_wellOf_60 : decode cX7_wellOf 60 = .ok (.invokevirtual 158, 3) := by decide +kernel
theorem dX7_wellOf_63 : decode cX7_wellOf 63 = .ok (.ireturn, 1) := by decide +kernel
theorem dX7_wellOf_64 : decode cX7_wellOf 64 = .ok (.aload_n 0, 1) := by decide +kernel
theorem dX7_wellOf_65 : decode cX7_wellOf 65 = .ok (.iload_n 1, 1) := by decide +kernel
theorem dX7_wellOf_66 : decode cX7_wellOf 66 = .ok (.invokevirtual 161, 3) := by decide +kernel
theorem dX7_wellOf_69 : decode cX7_wellOf 69 = .ok (.ireturn, 1) := by decide +kernel
theorem dX7_wellOf_70 : decode cX7_wellOf 70 = .ok (.aload_n 0, 1) := by decide +kernel
theorem dX7_wellOf_71 : decode cX7_wellOf 71 = .ok (.getfield 12, 3) := by decide +kernel
theorem dX7_wellOf_74 : decode cX7_wellOf 74 = .ok (.getfield 164, 3) := by decide +kernel
theorem dX7_wellOf_77 : decode cX7_wellOf 77 = .ok (.iload_n 1, 1) := by decide +kernel
theorem dX7_wellOf_78 : decode cX7_wellOf 78 = .ok (.invokevirtual 168, 3) := by decide +kernel
theorem dX7_wellOf_81 : decode cX7_wellOf 81 = .ok (.ireturn, 1) := by decide +kernel
theorem dX7_wellOf_82 : decode cX7_wellOf 82 = .ok (.bipush (-2), 2) := by decide +kernel
theorem dX7_wellOf_84 : decode cX7_wellOf 84 = .ok (.ireturn, 1) := by decide +kernel
theorem dX7_isKnown_0 : decode cX7_isKnown 0 = .ok (.iload_n 1, 1) := by decide +kernel
theorem dX7_isKnown_1 : decode cX7_isKnown 1 = .ok (.iconst 0, 1) := by decide +kernel
theorem dX7_isKnown_2 : decode cX7_isKnown 2 = .ok (.bipush 63, 2) := by decide +kernel
theorem dX7_isKnown_4 : decode cX7_isKnown 4 = .ok (.invokestatic 173, 3) := by decide +kernel
theorem dX7_isKnown_7 : decode cX7_isKnown 7 = .ok (.ifCond .ne 5, 3) := by decide +kernel
theorem dX7_isKnown_10 : decode cX7_isKnown 10 = .ok (.iconst (-1), 1) := by decide +kernel
theorem dX7_isKnown_11 : decode cX7_isKnown 11 = .ok (.ireturn, 1) := by decide +kernel
theorem dX7_isKnown_12 : decode cX7_isKnown 12 = .ok (.aload_n 0, 1) := by decide +kernel
theorem dX7_isKnown_13 : decode cX7_isKnown 13 = .ok (.getfield 12, 3) := by decide +kernel
theorem dX7_isKnown_16 : decode cX7_isKnown 16 = .ok (.getfield 164, 3) := by decide +kernel
theorem dX7_isKnown_19 : decode cX7_isKnown 19 = .ok (.getfield 177, 3) := by decide +kernel
theorem dX7_isKnown_22 : decode cX7_isKnown 22 = .ok (.iload_n 1, 1) := by decide +kernel
theorem dX7_isKnown_23 : decode cX7_isKnown 23 = .ok (.invokevirtual 132, 3) := by decide +kernel
theorem dX7_isKnown_26 : decode cX7_isKnown 26 = .ok (.ireturn, 1) := by decide +kernel
theorem dX7_inWell_0 : decode cX7_inWell 0 = .ok (.iload_n 1, 1) := by decide +kernel
theorem dX7_inWell_1 : decode cX7_inWell 1 = .ok (.invokestatic 152, 3) := by decide +kernel
theorem dX7_inWell_4 : decode cX7_inWell 4 = .ok (.ifCond .eq 18, 3) := by decide +kernel
theorem dX7_inWell_7 : decode cX7_inWell 7 = .ok (.aload_n 0, 1) := by decide +kernel
theorem dX7_inWell_8 : decode cX7_inWell 8 = .ok (.getfield 12, 3) := by decide +kernel
theorem dX7_inWell_11 : decode cX7_inWell 11 = .ok (.getfield 114, 3) := by decide +kernel
theorem dX7_inWell_14 : decode cX7_inWell 14 = .ok (.iload_n 1, 1) := by decide +kernel
theorem dX7_inWell_15 : decode cX7_inWell 15 = .ok (.iload_n 2, 1) := by decide +kernel
theorem dX7_inWell_16 : decode cX7_inWell 16 = .ok (.invokevirtual 180, 3) := by decide +kernel
theorem dX7_inWell_19 : decode cX7_inWell 19 = .ok (.goto 4, 3) := by decide +kernel
theorem dX7_inWell_22 : decode cX7_inWell 22 = .ok (.iconst (-1), 1) := by decide +kernel
theorem dX7_inWell_23 : decode cX7_inWell 23 = .ok (.ireturn, 1) := by decide +kernel
theorem dX7_funniest_0 : decode cX7_funniest 0 = .ok (.iconst 0, 1) := by decide +kernel
theorem dX7_funniest_1 : decode cX7_funniest 1 = .ok (.istore_n 2, 1) := by decide +kernel
theorem dX7_funniest_2 : decode cX7_funniest 2 = .ok (.iload_n 2, 1) := by decide +kernel
theorem dX7_funniest_3 : decode cX7_funniest 3 = .ok (.aload_n 0, 1) := by decide +kernel
theorem dX7_funniest_4 : decode cX7_funniest 4 = .ok (.getfield 12, 3) := by decide +kernel
theorem dX7_funniest_7 : decode cX7_funniest 7 = .ok (.getfield 114, 3) := by decide +kernel
theorem dX7_funniest_10 : decode cX7_funniest 10 = .ok (.getfield 118, 3) := by decide +kernel
theorem dX7_funniest_13 : decode cX7_funniest 13 = .ok (.if_icmp .ge 20, 3) := by decide +kernel
theorem dX7_funniest_16 : decode cX7_funniest 16 = .ok (.aload_n 0, 1) := by decide +kernel
theorem dX7_funniest_17 : decode cX7_funniest 17 = .ok (.iload_n 2, 1) := by decide +kernel
theorem dX7_funniest_18 : decode cX7_funniest 18 = .ok (.invokevirtual 183, 3) := by decide +kernel
theorem dX7_funniest_21 : decode cX7_funniest 21 = .ok (.iload_n 1, 1) := by decide +kernel
theorem dX7_funniest_22 : decode cX7_funniest 22 = .ok (.if_icmp .ne 5, 3) := by decide +kernel
theorem dX7_funniest_25 : decode cX7_funniest 25 = .ok (.iload_n 2, 1) := by decide +kernel
theorem dX7_funniest_26 : decode cX7_funniest 26 = .ok (.ireturn, 1) := by decide +kernel
theorem dX7_funniest_27 : decode cX7_funniest 27 = .ok (.iinc 2 1, 3) := by decide +kernel
theorem dX7_funniest_30 : decode cX7_funniest 30 = .ok (.goto (-28), 3) := by decide +kernel
theorem dX7_funniest_33 : decode cX7_funniest 33 = .ok (.iconst (-1), 1) := by decide +kernel
theorem dX7_funniest_34 : decode cX7_funniest 34 = .ok (.ireturn, 1) := by decide +kernel
theorem dX7_fullest_0 : decode cX7_fullest 0 = .ok (.iconst 0, 1) := by decide +kernel
theorem dX7_fullest_1 : decode cX7_fullest 1 = .ok (.istore_n 2, 1) := by decide +kernel
theorem dX7_fullest_2 : decode cX7_fullest 2 = .ok (.iload_n 2, 1) := by decide +kernel
theorem dX7_fullest_3 : decode cX7_fullest 3 = .ok (.iconst 4, 1) := by decide +kernel
theorem dX7_fullest_4 : decode cX7_fullest 4 = .ok (.if_icmp .ge 20, 3) := by decide +kernel
theorem dX7_fullest_7 : decode cX7_fullest 7 = .ok (.aload_n 0, 1) := by decide +kernel
theorem dX7_fullest_8 : decode cX7_fullest 8 = .ok (.iload_n 2, 1) := by decide +kernel
theorem dX7_fullest_9 : decode cX7_fullest 9 = .ok (.invokevirtual 186, 3) := by decide +kernel
theorem dX7_fullest_12 : decode cX7_fullest 12 = .ok (.iload_n 1, 1) := by decide +kernel
theorem dX7_fullest_13 : decode cX7_fullest 13 = .ok (.if_icmp .ne 5, 3) := by decide +kernel
theorem dX7_fullest_16 : decode cX7_fullest 16 = .ok (.iload_n 2, 1) := by decide +kernel
theorem dX7_fullest_17 : decode cX7_fullest 17 = .ok (.ireturn, 1) := by decide +kernel
theorem dX7_fullest_18 : decode cX7_fullest 18 = .ok (.iinc 2 1, 3) := by decide +kernel
theorem dX7_fullest_21 : decode cX7_fullest 21 = .ok (.goto (-19), 3) := by decide +kernel
theorem dX7_fullest_24 : decode cX7_fullest 24 = .ok (.iconst (-1), 1) := by decide +kernel
theorem dX7_fullest_25 : decode cX7_fullest 25 = .ok (.ireturn, 1) := by decide +kernel
theorem dX7_meanDepth_0 : decode cX7_meanDepth 0 = .ok (.aload_n 0, 1) := by decide +kernel
theorem dX7_meanDepth_1 : decode cX7_meanDepth 1 = .ok (.getfield 12, 3) := by decide +kernel
theorem dX7_meanDepth_4 : decode cX7_meanDepth 4 = .ok (.getfield 114, 3) := by decide +kernel
theorem dX7_meanDepth_7 : decode cX7_meanDepth 7 = .ok (.getfield 118, 3) := by decide +kernel
theorem dX7_meanDepth_10 : decode cX7_meanDepth 10 = .ok (.istore_n 1, 1) := by decide +kernel
theorem dX7_meanDepth_11 : decode cX7_meanDepth 11 = .ok (.iload_n 1, 1) := by decide +kernel
theorem dX7_meanDepth_12 : decode cX7_meanDepth 12 = .ok (.ifCond .le 20, 3) := by decide +kernel
theorem dX7_meanDepth_15 : decode cX7_meanDepth 15 = .ok (.aload_n 0, 1) := by decide +kernel
theorem dX7_meanDepth_16 : decode cX7_meanDepth 16 = .ok (.getfield 12, 3) := by decide +kernel
theorem dX7_meanDepth_19 : decode cX7_meanDepth 19 = .ok (.getfield 114, 3) := by decide +kernel
theorem dX7_meanDepth_22 : decode cX7_meanDepth 22 = .ok (.invokevirtual 189, 3) := by decide +kernel
theorem dX7_meanDepth_25 : decode cX7_meanDepth 25 = .ok (.i2d, 1) := by decide +kernel
theorem dX7_meanDepth_26 : decode cX7_meanDepth 26 = .ok (.iload_n 1, 1) := by decide +kernel
theorem dX7_meanDepth_27 : decode cX7_meanDepth 27 = .ok (.i2d, 1) := by decide +kernel
theorem dX7_meanDepth_28 : decode cX7_meanDepth 28 = .ok (.ddiv, 1) := by decide +kernel
theorem dX7_meanDepth_29 : decode cX7_meanDepth 29 = .ok (.goto 4, 3) := by decide +kernel
theorem dX7_meanDepth_32 : decode cX7_meanDepth 32 = .ok (.dconst 0, 1) := by decide +kernel
theorem dX7_meanDepth_33 : decode cX7_meanDepth 33 = .ok (.dreturn, 1) := by decide +kernel
theorem dX7_laughBits_0 : decode cX7_laughBits 0 = .ok (.aload_n 0, 1) := by decide +kernel
theorem dX7_laughBits_1 : decode cX7_laughBits 1 = .ok (.getfield 12, 3) := by decide +kernel
theorem dX7_laughBits_4 : decode cX7_laughBits 4 = .ok (.getfield 114, 3) := by decide +kernel
theorem dX7_laughBits_7 : decode cX7_laughBits 7 = .ok (.iload_n 1, 1) := by decide +kernel
theorem dX7_laughBits_8 : decode cX7_laughBits 8 = .ok (.invokevirtual 124, 3) := by decide +kernel
theorem dX7_laughBits_11 : decode cX7_laughBits 11 = .ok (.ifCond .ne 5, 3) := by decide +kernel
theorem dX7_laughBits_14 : decode cX7_laughBits 14 = .ok (.iconst (-1), 1) := by decide +kernel
theorem dX7_laughBits_15 : decode cX7_laughBits 15 = .ok (.ireturn, 1) := by decide +kernel
theorem dX7_laughBits_16 : decode cX7_laughBits 16 = .ok (.iload_n 2, 1) := by decide +kernel
theorem dX7_laughBits_17 : decode cX7_laughBits 17 = .ok (.iconst 0, 1) := by decide +kernel
theorem dX7_laughBits_18 : decode cX7_laughBits 18 = .ok (.bipush 50, 2) := by decide +kernel
theorem dX7_laughBits_20 : decode cX7_laughBits 20 = .ok (.invokestatic 173, 3) := by decide +kernel
theorem dX7_laughBits_23 : decode cX7_laughBits 23 = .ok (.ifCond .ne 6, 3) := by decide +kernel
theorem dX7_laughBits_26 : decode cX7_laughBits 26 = .ok (.bipush (-2), 2) := by decide +kernel
theorem dX7_laughBits_28 : decode cX7_laughBits 28 = .ok (.ireturn, 1) := by decide +kernel
theorem dX7_laughBits_29 : decode cX7_laughBits 29 = .ok (.aload_n 0, 1) := by decide +kernel
theorem dX7_laughBits_30 : decode cX7_laughBits 30 = .ok (.getfield 12, 3) := by decide +kernel
theorem dX7_laughBits_33 : decode cX7_laughBits 33 = .ok (.iload_n 1, 1) := by decide +kernel
theorem dX7_laughBits_34 : decode cX7_laughBits 34 = .ok (.iload_n 2, 1) := by decide +kernel
theorem dX7_laughBits_35 : decode cX7_laughBits 35 = .ok (.invokevirtual 192, 3) := by decide +kernel
theorem dX7_laughBits_38 : decode cX7_laughBits 38 = .ok (.invokestatic 196, 3) := by decide +kernel
theorem dX7_laughBits_41 : decode cX7_laughBits 41 = .ok (.ireturn, 1) := by decide +kernel
theorem dX7_laughs_0 : decode cX7_laughs 0 = .ok (.aload_n 0, 1) := by decide +kernel
theorem dX7_laughs_1 : decode cX7_laughs 1 = .ok (.getfield 12, 3) := by decide +kernel
theorem dX7_laughs_4 : decode cX7_laughs 4 = .ok (.getfield 164, 3) := by decide +kernel
theorem dX7_laughs_7 : decode cX7_laughs 7 = .ok (.getfield 200, 3) := by decide +kernel
theorem dX7_laughs_10 : decode cX7_laughs 10 = .ok (.freturn, 1) := by decide +kernel
theorem dX7_laughsAgain_0 : decode cX7_laughsAgain 0 = .ok (.aload_n 0, 1) := by decide +kernel
theorem dX7_laughsAgain_1 : decode cX7_laughsAgain 1 = .ok (.getfield 12, 3) := by decide +kernel
theorem dX7_laughsAgain_4 : decode cX7_laughsAgain 4 = .ok (.getfield 164, 3) := by decide +kernel
theorem dX7_laughsAgain_7 : decode cX7_laughsAgain 7 = .ok (.invokevirtual 204, 3) := by decide +kernel
theorem dX7_laughsAgain_10 : decode cX7_laughsAgain 10 = .ok (.freturn, 1) := by decide +kernel
theorem dX7_wholeLaughs_0 : decode cX7_wholeLaughs 0 = .ok (.aload_n 0, 1) := by decide +kernel
theorem dX7_wholeLaughs_1 : decode cX7_wholeLaughs 1 = .ok (.getfield 12, 3) := by decide +kernel
theorem dX7_wholeLaughs_4 : decode cX7_wholeLaughs 4 = .ok (.getfield 164, 3) := by decide +kernel
theorem dX7_wholeLaughs_7 : decode cX7_wholeLaughs 7 = .ok (.getfield 200, 3) := by decide +kernel
theorem dX7_wholeLaughs_10 : decode cX7_wholeLaughs 10 = .ok (.f2i, 1) := by decide +kernel
theorem dX7_wholeLaughs_11 : decode cX7_wholeLaughs 11 = .ok (.ireturn, 1) := by decide +kernel
theorem dX7_liftedOf_0 : decode cX7_liftedOf 0 = .ok (.aload_n 0, 1) := by decide +kernel
theorem dX7_liftedOf_1 : decode cX7_liftedOf 1 = .ok (.getfield 12, 3) := by decide +kernel
theorem dX7_liftedOf_4 : decode cX7_liftedOf 4 = .ok (.getfield 164, 3) := by decide +kernel
theorem dX7_liftedOf_7 : decode cX7_liftedOf 7 = .ok (.astore_n 3, 1) := by decide +kernel
theorem dX7_liftedOf_8 : decode cX7_liftedOf 8 = .ok (.iload_n 1, 1) := by decide +kernel
theorem dX7_liftedOf_9 : decode cX7_liftedOf 9 = .ok (.iconst 0, 1) := by decide +kernel
theorem dX7_liftedOf_10 : decode cX7_liftedOf 10 = .ok (.aload_n 3, 1) := by decide +kernel
theorem dX7_liftedOf_11 : decode cX7_liftedOf 11 = .ok (.getfield 208, 3) := by decide +kernel
theorem dX7_liftedOf_14 : decode cX7_liftedOf 14 = .ok (.iconst 1, 1) := by decide +kernel
theorem dX7_liftedOf_15 : decode cX7_liftedOf 15 = .ok (.isub, 1) := by decide +kernel
theorem dX7_liftedOf_16 : decode cX7_liftedOf 16 = .ok (.invokestatic 173, 3) := by decide +kernel
theorem dX7_liftedOf_19 : decode cX7_liftedOf 19 = .ok (.ifCond .ne 5, 3) := by decide +kernel
theorem dX7_liftedOf_22 : decode cX7_liftedOf 22 = .ok (.iconst (-1), 1) := by decide +kernel
theorem dX7_liftedOf_23 : decode cX7_liftedOf 23 = .ok (.ireturn, 1) := by decide +kernel
theorem dX7_liftedOf_24 : decode cX7_liftedOf 24 = .ok (.aload_n 3, 1) := by decide +kernel
theorem dX7_liftedOf_25 : decode cX7_liftedOf 25 = .ok (.getfield 208, 3) := by decide +kernel
theorem dX7_liftedOf_28 : decode cX7_liftedOf 28 = .ok (.iconst 1, 1) := by decide +kernel
theorem dX7_liftedOf_29 : decode cX7_liftedOf 29 = .ok (.isub, 1) := by decide +kernel
theorem dX7_liftedOf_30 : decode cX7_liftedOf 30 = .ok (.iload_n 1, 1) := by decide +kernel
theorem dX7_liftedOf_31 : decode cX7_liftedOf 31 = .ok (.isub, 1) := by decide +kernel
theorem dX7_liftedOf_32 : decode cX7_liftedOf 32 = .ok (.istore 4, 2) := by decide +kernel
theorem dX7_liftedOf_34 : decode cX7_liftedOf 34 = .ok (.iload_n 2, 1) := by decide +kernel
theorem dX7_liftedOf_35 : decode cX7_liftedOf 35 = .ok (.tableswitch 55 0 2 #[25, 35, 45], 25) := by decide +kernel
theorem dX7_liftedOf_60 : decode cX7_liftedOf 60 = .ok (.aload_n 3, 1) := by decide +kernel
theorem dX7_liftedOf_61 : decode cX7_liftedOf 61 = .ok (.getfield 209, 3) := by decide +kernel
theorem dX7_liftedOf_64 : decode cX7_liftedOf 64 = .ok (.iload 4, 2) := by decide +kernel
theorem dX7_liftedOf_66 : decode cX7_liftedOf 66 = .ok (.invokevirtual 132, 3) := by decide +kernel
theorem dX7_liftedOf_69 : decode cX7_liftedOf 69 = .ok (.ireturn, 1) := by decide +kernel
theorem dX7_liftedOf_70 : decode cX7_liftedOf 70 = .ok (.aload_n 3, 1) := by decide +kernel
theorem dX7_liftedOf_71 : decode cX7_liftedOf 71 = .ok (.getfield 210, 3) := by decide +kernel
theorem dX7_liftedOf_74 : decode cX7_liftedOf 74 = .ok (.iload 4, 2) := by decide +kernel
theorem dX7_liftedOf_76 : decode cX7_liftedOf 76 = .ok (.invokevirtual 132, 3) := by decide +kernel
theorem dX7_liftedOf_79 : decode cX7_liftedOf 79 = .ok (.ireturn, 1) := by decide +kernel
theorem dX7_liftedOf_80 : decode cX7_liftedOf 80 = .ok (.aload_n 3, 1) := by decide +kernel
theorem dX7_liftedOf_81 : decode cX7_liftedOf 81 = .ok (.iload 4, 2) := by decide +kernel
theorem dX7_liftedOf_83 : decode cX7_liftedOf 83 = .ok (.invokevirtual 211, 3) := by decide +kernel
theorem dX7_liftedOf_86 : decode cX7_liftedOf 86 = .ok (.invokestatic 196, 3) := by decide +kernel
theorem dX7_liftedOf_89 : decode cX7_liftedOf 89 = .ok (.ireturn, 1) := by decide +kernel
theorem dX7_liftedOf_90 : decode cX7_liftedOf 90 = .ok (.bipush (-2), 2) := by decide +kernel
theorem dX7_liftedOf_92 : decode cX7_liftedOf 92 = .ok (.ireturn, 1) := by decide +kernel
theorem dX7_knownShare_0 : decode cX7_knownShare 0 = .ok (.aload_n 0, 1) := by decide +kernel
theorem dX7_knownShare_1 : decode cX7_knownShare 1 = .ok (.getfield 12, 3) := by decide +kernel
theorem dX7_knownShare_4 : decode cX7_knownShare 4 = .ok (.getfield 164, 3) := by decide +kernel
theorem dX7_knownShare_7 : decode cX7_knownShare 7 = .ok (.invokevirtual 215, 3) := by decide +kernel
theorem dX7_knownShare_10 : decode cX7_knownShare 10 = .ok (.i2f, 1) := by decide +kernel
theorem dX7_knownShare_11 : decode cX7_knownShare 11 = .ok (.ldc 218, 2) := by decide +kernel
theorem dX7_knownShare_13 : decode cX7_knownShare 13 = .ok (.fdiv, 1) := by decide +kernel
theorem dX7_knownShare_14 : decode cX7_knownShare 14 = .ok (.freturn, 1) := by decide +kernel
theorem dX7_strokes_0 : decode cX7_strokes 0 = .ok (.iload_n 1, 1) := by decide +kernel
theorem dX7_strokes_1 : decode cX7_strokes 1 = .ok (.iconst 1, 1) := by decide +kernel
theorem dX7_strokes_2 : decode cX7_strokes 2 = .ok (.bipush 30, 2) := by decide +kernel
theorem dX7_strokes_4 : decode cX7_strokes 4 = .ok (.invokestatic 173, 3) := by decide +kernel
theorem dX7_strokes_7 : decode cX7_strokes 7 = .ok (.ifCond .ne 6, 3) := by decide +kernel
theorem dX7_strokes_10 : decode cX7_strokes 10 = .ok (.bipush (-2), 2) := by decide +kernel
theorem dX7_strokes_12 : decode cX7_strokes 12 = .ok (.ireturn, 1) := by decide +kernel
theorem dX7_strokes_13 : decode cX7_strokes 13 = .ok (.aload_n 0, 1) := by decide +kernel
theorem dX7_strokes_14 : decode cX7_strokes 14 = .ok (.getfield 12, 3) := by decide +kernel
theorem dX7_strokes_17 : decode cX7_strokes 17 = .ok (.getfield 219, 3) := by decide +kernel
theorem dX7_strokes_20 : decode cX7_strokes 20 = .ok (.istore_n 2, 1) := by decide +kernel
theorem dX7_strokes_21 : decode cX7_strokes 21 = .ok (.iconst 0, 1) := by decide +kernel
theorem dX7_strokes_22 : decode cX7_strokes 22 = .ok (.istore_n 3, 1) := by decide +kernel
theorem dX7_strokes_23 : decode cX7_strokes 23 = .ok (.iconst 0, 1) := by decide +kernel
theorem dX7_strokes_24 : decode cX7_strokes 24 = .ok (.istore 4, 2) := by decide +kernel
theorem dX7_strokes_26 : decode cX7_strokes 26 = .ok (.iload 4, 2) := by decide +kernel
theorem dX7_strokes_28 : decode cX7_strokes 28 = .ok (.bipush 30, 2) := by decide +kernel
theorem dX7_strokes_30 : decode cX7_strokes 30 = .ok (.if_icmp .ge 29, 3) := by decide +kernel
theorem dX7_strokes_33 : decode cX7_strokes 33 = .ok (.iload_n 2, 1) := by decide +kernel
theorem dX7_strokes_34 : decode cX7_strokes 34 = .ok (.iload_n 1, 1) := by decide +kernel
theorem dX7_strokes_35 : decode cX7_strokes 35 = .ok (.if_icmp .ge 24, 3) := by decide +kernel
theorem dX7_strokes_38 : decode cX7_strokes 38 = .ok (.iload_n 2, 1) := by decide +kernel
theorem dX7_strokes_39 : decode cX7_strokes 39 = .ok (.aload_n 0, 1) := by decide +kernel
theorem dX7_strokes_40 : decode cX7_strokes 40 = .ok (.getfield 12, 3) := by decide +kernel
theorem dX7_strokes_43 : decode cX7_strokes 43 = .ok (.getfield 222, 3) := by decide +kernel
theorem dX7_strokes_46 : decode cX7_strokes 46 = .ok (.invokestatic 225, 3) := by decide +kernel
theorem dX7_strokes_49 : decode cX7_strokes 49 = .ok (.istore_n 2, 1) := by decide +kernel
theorem dX7_strokes_50 : decode cX7_strokes 50 = .ok (.iinc 3 1, 3) := by decide +kernel
theorem dX7_strokes_53 : decode cX7_strokes 53 = .ok (.iinc 4 1, 3) := by decide +kernel
theorem dX7_strokes_56 : decode cX7_strokes 56 = .ok (.goto (-30), 3) := by decide +kernel
theorem dX7_strokes_59 : decode cX7_strokes 59 = .ok (.iload_n 3, 1) := by decide +kernel
theorem dX7_strokes_60 : decode cX7_strokes 60 = .ok (.ireturn, 1) := by decide +kernel
theorem dX7_strokesAgain_0 : decode cX7_strokesAgain 0 = .ok (.iload_n 1, 1) := by decide +kernel
theorem dX7_strokesAgain_1 : decode cX7_strokesAgain 1 = .ok (.iconst 1, 1) := by decide +kernel
theorem dX7_strokesAgain_2 : decode cX7_strokesAgain 2 = .ok (.bipush 30, 2) := by decide +kernel
theorem dX7_strokesAgain_4 : decode cX7_strokesAgain 4 = .ok (.invokestatic 173, 3) := by decide +kernel
theorem dX7_strokesAgain_7 : decode cX7_strokesAgain 7 = .ok (.ifCond .ne 6, 3) := by decide +kernel
theorem dX7_strokesAgain_10 : decode cX7_strokesAgain 10 = .ok (.bipush (-2), 2) := by decide +kernel
theorem dX7_strokesAgain_12 : decode cX7_strokesAgain 12 = .ok (.ireturn, 1) := by decide +kernel
theorem dX7_strokesAgain_13 : decode cX7_strokesAgain 13 = .ok (.iload_n 1, 1) := by decide +kernel
theorem dX7_strokesAgain_14 : decode cX7_strokesAgain 14 = .ok (.aload_n 0, 1) := by decide +kernel
theorem dX7_strokesAgain_15 : decode cX7_strokesAgain 15 = .ok (.getfield 12, 3) := by decide +kernel
theorem dX7_strokesAgain_18 : decode cX7_strokesAgain 18 = .ok (.getfield 219, 3) := by decide +kernel
theorem dX7_strokesAgain_21 : decode cX7_strokesAgain 21 = .ok (.isub, 1) := by decide +kernel
theorem dX7_strokesAgain_22 : decode cX7_strokesAgain 22 = .ok (.istore_n 2, 1) := by decide +kernel
theorem dX7_strokesAgain_23 : decode cX7_strokesAgain 23 = .ok (.iload_n 2, 1) := by decide +kernel
theorem dX7_strokesAgain_24 : decode cX7_strokesAgain 24 = .ok (.ifCond .le 14, 3) := by decide +kernel
theorem dX7_strokesAgain_27 : decode cX7_strokesAgain 27 = .ok (.aload_n 0, 1) := by decide +kernel
theorem dX7_strokesAgain_28 : decode cX7_strokesAgain 28 = .ok (.getfield 12, 3) := by decide +kernel
theorem dX7_strokesAgain_31 : decode cX7_strokesAgain 31 = .ok (.getfield 222, 3) := by decide +kernel
theorem dX7_strokesAgain_34 : decode cX7_strokesAgain 34 = .ok (.iconst 1, 1) := by decide +kernel
theorem dX7_strokesAgain_35 : decode cX7_strokesAgain 35 = .ok (.if_icmp .ge 5, 3) := by decide +kernel
theorem dX7_strokesAgain_38 : decode cX7_strokesAgain 38 = .ok (.iconst 0, 1) := by decide +kernel
theorem dX7_strokesAgain_39 : decode cX7_strokesAgain 39 = .ok (.ireturn, 1) := by decide +kernel
theorem dX7_strokesAgain_40 : decode cX7_strokesAgain 40 = .ok (.iload_n 2, 1) := by decide +kernel
theorem dX7_strokesAgain_41 : decode cX7_strokesAgain 41 = .ok (.aload_n 0, 1) := by decide +kernel
theorem dX7_strokesAgain_42 : decode cX7_strokesAgain 42 = .ok (.getfield 12, 3) := by decide +kernel
theorem dX7_strokesAgain_45 : decode cX7_strokesAgain 45 = .ok (.getfield 222, 3) := by decide +kernel
theorem dX7_strokesAgain_48 : decode cX7_strokesAgain 48 = .ok (.iadd, 1) := by decide +kernel
theorem dX7_strokesAgain_49 : decode cX7_strokesAgain 49 = .ok (.iconst 1, 1) := by decide +kernel
theorem dX7_strokesAgain_50 : decode cX7_strokesAgain 50 = .ok (.isub, 1) := by decide +kernel
theorem dX7_strokesAgain_51 : decode cX7_strokesAgain 51 = .ok (.aload_n 0, 1) := by decide +kernel
theorem dX7_strokesAgain_52 : decode cX7_strokesAgain 52 = .ok (.getfield 12, 3) := by decide +kernel
theorem dX7_strokesAgain_55 : decode cX7_strokesAgain 55 = .ok (.getfield 222, 3) := by decide +kernel
theorem dX7_strokesAgain_58 : decode cX7_strokesAgain 58 = .ok (.idiv, 1) := by decide +kernel
theorem dX7_strokesAgain_59 : decode cX7_strokesAgain 59 = .ok (.ireturn, 1) := by decide +kernel
theorem dX7_would_0 : decode cX7_would 0 = .ok (.iload_n 1, 1) := by decide +kernel
theorem dX7_would_1 : decode cX7_would 1 = .ok (.iconst 0, 1) := by decide +kernel
theorem dX7_would_2 : decode cX7_would 2 = .ok (.bipush 20, 2) := by decide +kernel
theorem dX7_would_4 : decode cX7_would 4 = .ok (.invokestatic 173, 3) := by decide +kernel
theorem dX7_would_7 : decode cX7_would 7 = .ok (.ifCond .ne 6, 3) := by decide +kernel
theorem dX7_would_10 : decode cX7_would 10 = .ok (.bipush (-2), 2) := by decide +kernel
theorem dX7_would_12 : decode cX7_would 12 = .ok (.ireturn, 1) := by decide +kernel
theorem dX7_would_13 : decode cX7_would 13 = .ok (.aload_n 0, 1) := by decide +kernel
theorem dX7_would_14 : decode cX7_would 14 = .ok (.getfield 12, 3) := by decide +kernel
theorem dX7_would_17 : decode cX7_would 17 = .ok (.getfield 219, 3) := by decide +kernel
theorem dX7_would_20 : decode cX7_would 20 = .ok (.istore_n 2, 1) := by decide +kernel
theorem dX7_would_21 : decode cX7_would 21 = .ok (.aload_n 0, 1) := by decide +kernel
theorem dX7_would_22 : decode cX7_would 22 = .ok (.getfield 12, 3) := by decide +kernel
theorem dX7_would_25 : decode cX7_would 25 = .ok (.getfield 228, 3) := by decide +kernel
theorem dX7_would_28 : decode cX7_would 28 = .ok (.istore_n 3, 1) := by decide +kernel
theorem dX7_would_29 : decode cX7_would 29 = .ok (.iconst 0, 1) := by decide +kernel
theorem dX7_would_30 : decode cX7_would 30 = .ok (.istore 4, 2) := by decide +kernel
theorem dX7_would_32 : decode cX7_would 32 = .ok (.iconst 0, 1) := by decide +kernel
theorem dX7_would_33 : decode cX7_would 33 = .ok (.istore 5, 2) := by decide +kernel
theorem dX7_would_35 : decode cX7_would 35 = .ok (.iload 5, 2) := by decide +kernel
theorem dX7_would_37 : decode cX7_would 37 = .ok (.iload_n 1, 1) := by decide +kernel
theorem dX7_would_38 : decode cX7_would 38 = .ok (.if_icmp .ge 84, 3) := by decide +kernel
theorem dX7_would_41 : decode cX7_would 41 = .ok (.iload_n 3, 1) := by decide +kernel
theorem dX7_would_42 : decode cX7_would 42 = .ok (.bipush 40, 2) := by decide +kernel
theorem dX7_would_44 : decode cX7_would 44 = .ok (.if_icmp .gt 78, 3) := by decide +kernel
theorem dX7_would_47 : decode cX7_would 47 = .ok (.iload_n 2, 1) := by decide +kernel
theorem dX7_would_48 : decode cX7_would 48 = .ok (.aload_n 0, 1) := by decide +kernel
theorem dX7_would_49 : decode cX7_would 49 = .ok (.getfield 12, 3) := by decide +kernel
theorem dX7_would_52 : decode cX7_would 52 = .ok (.getfield 222, 3) := by decide +kernel
theorem dX7_would_55 : decode cX7_would 55 = .ok (.invokestatic 225, 3) := by decide +kernel
theorem dX7_would_58 : decode cX7_would 58 = .ok (.istore_n 2, 1) := by decide +kernel
theorem dX7_would_59 : decode cX7_would 59 = .ok (.iload_n 3, 1) := by decide +kernel
theorem dX7_would_60 : decode cX7_would 60 = .ok (.iload_n 2, 1) := by decide +kernel
theorem dX7_would_61 : decode cX7_would 61 = .ok (.invokestatic 231, 3) := by decide +kernel
theorem dX7_would_64 : decode cX7_would 64 = .ok (.iadd, 1) := by decide +kernel
theorem dX7_would_65 : decode cX7_would 65 = .ok (.istore_n 3, 1) := by decide +kernel
theorem dX7_would_66 : decode cX7_would 66 = .ok (.aload_n 0, 1) := by decide +kernel
theorem dX7_would_67 : decode cX7_would 67 = .ok (.getfield 12, 3) := by decide +kernel
theorem dX7_would_70 : decode cX7_would 70 = .ok (.getfield 114, 3) := by decide +kernel
theorem dX7_would_73 : decode cX7_would 73 = .ok (.aload_n 0, 1) := by decide +kernel
theorem dX7_would_74 : decode cX7_would 74 = .ok (.getfield 12, 3) := by decide +kernel
theorem dX7_would_77 : decode cX7_would 77 = .ok (.getfield 234, 3) := by decide +kernel
theorem dX7_would_80 : decode cX7_would 80 = .ok (.iload_n 2, 1) := by decide +kernel
theorem dX7_would_81 : decode cX7_would 81 = .ok (.invokevirtual 149, 3) := by decide +kernel
theorem dX7_would_84 : decode cX7_would 84 = .ok (.iload 4, 2) := by decide +kernel
theorem dX7_would_86 : decode cX7_would 86 = .ok (.isub, 1) := by decide +kernel
theorem dX7_would_87 : decode cX7_would 87 = .ok (.istore 6, 2) := by decide +kernel
theorem dX7_would_89 : decode cX7_would 89 = .ok (.iload 4, 2) := by decide +kernel
theorem dX7_would_91 : decode cX7_would 91 = .ok (.iload 6, 2) := by decide +kernel
theorem dX7_would_93 : decode cX7_would 93 = .ok (.aload_n 0, 1) := by decide +kernel
theorem dX7_would_94 : decode cX7_would 94 = .ok (.getfield 12, 3) := by decide +kernel
theorem dX7_would_97 : decode cX7_would 97 = .ok (.getfield 155, 3) := by decide +kernel
theorem dX7_would_100 : decode cX7_would 100 = .ok (.aload_n 0, 1) := by decide +kernel
theorem dX7_would_101 : decode cX7_would 101 = .ok (.getfield 12, 3) := by decide +kernel
theorem dX7_would_104 : decode cX7_would 104 = .ok (.getfield 234, 3) := by decide +kernel
theorem dX7_would_107 : decode cX7_would 107 = .ok (.invokevirtual 132, 3) := by decide +kernel
theorem dX7_would_110 : decode cX7_would 110 = .ok (.invokestatic 237, 3) := by decide +kernel
theorem dX7_would_113 : decode cX7_would 113 = .ok (.iadd, 1) := by decide +kernel
theorem dX7_would_114 : decode cX7_would 114 = .ok (.istore 4, 2) := by decide +kernel
theorem dX7_would_116 : decode cX7_would 116 = .ok (.iinc 5 1, 3) := by decide +kernel
theorem dX7_would_119 : decode cX7_would 119 = .ok (.goto (-84), 3) := by decide +kernel
theorem dX7_would_122 : decode cX7_would 122 = .ok (.iload 4, 2) := by decide +kernel
theorem dX7_would_124 : decode cX7_would 124 = .ok (.ireturn, 1) := by decide +kernel
theorem dX7_groansIn_0 : decode cX7_groansIn 0 = .ok (.iload_n 1, 1) := by decide +kernel
theorem dX7_groansIn_1 : decode cX7_groansIn 1 = .ok (.iconst 0, 1) := by decide +kernel
theorem dX7_groansIn_2 : decode cX7_groansIn 2 = .ok (.bipush 20, 2) := by decide +kernel
theorem dX7_groansIn_4 : decode cX7_groansIn 4 = .ok (.invokestatic 173, 3) := by decide +kernel
theorem dX7_groansIn_7 : decode cX7_groansIn 7 = .ok (.ifCond .ne 6, 3) := by decide +kernel
theorem dX7_groansIn_10 : decode cX7_groansIn 10 = .ok (.bipush (-2), 2) := by decide +kernel
theorem dX7_groansIn_12 : decode cX7_groansIn 12 = .ok (.ireturn, 1) := by decide +kernel
theorem dX7_groansIn_13 : decode cX7_groansIn 13 = .ok (.aload_n 0, 1) := by decide +kernel
theorem dX7_groansIn_14 : decode cX7_groansIn 14 = .ok (.getfield 12, 3) := by decide +kernel
theorem dX7_groansIn_17 : decode cX7_groansIn 17 = .ok (.getfield 219, 3) := by decide +kernel
theorem dX7_groansIn_20 : decode cX7_groansIn 20 = .ok (.istore_n 2, 1) := by decide +kernel
theorem dX7_groansIn_21 : decode cX7_groansIn 21 = .ok (.aload_n 0, 1) := by decide +kernel
theorem dX7_groansIn_22 : decode cX7_groansIn 22 = .ok (.getfield 12, 3) := by decide +kernel
theorem dX7_groansIn_25 : decode cX7_groansIn 25 = .ok (.getfield 228, 3) := by decide +kernel
theorem dX7_groansIn_28 : decode cX7_groansIn 28 = .ok (.istore_n 3, 1) := by decide +kernel
theorem dX7_groansIn_29 : decode cX7_groansIn 29 = .ok (.iconst 0, 1) := by decide +kernel
theorem dX7_groansIn_30 : decode cX7_groansIn 30 = .ok (.istore 4, 2) := by decide +kernel
theorem dX7_groansIn_32 : decode cX7_groansIn 32 = .ok (.iload 4, 2) := by decide +kernel
theorem dX7_groansIn_34 : decode cX7_groansIn 34 = .ok (.iload_n 1, 1) := by decide +kernel
theorem dX7_groansIn_35 : decode cX7_groansIn 35 = .ok (.if_icmp .ge 34, 3) := by decide +kernel
theorem dX7_groansIn_38 : decode cX7_groansIn 38 = .ok (.iload_n 3, 1) := by decide +kernel
theorem dX7_groansIn_39 : decode cX7_groansIn 39 = .ok (.bipush 40, 2) := by decide +kernel
theorem dX7_groansIn_41 : decode cX7_groansIn 41 = .ok (.if_icmp .gt 28, 3) := by decide +kernel
theorem dX7_groansIn_44 : decode cX7_groansIn 44 = .ok (.iload_n 2, 1) := by decide +kernel
theorem dX7_groansIn_45 : decode cX7_groansIn 45 = .ok (.aload_n 0, 1) := by decide +kernel
theorem dX7_groansIn_46 : decode cX7_groansIn 46 = .ok (.getfield 12, 3) := by decide +kernel
theorem dX7_groansIn_49 : decode cX7_groansIn 49 = .ok (.getfield 222, 3) := by decide +kernel
theorem dX7_groansIn_52 : decode cX7_groansIn 52 = .ok (.invokestatic 225, 3) := by decide +kernel
theorem dX7_groansIn_55 : decode cX7_groansIn 55 = .ok (.istore_n 2, 1) := by decide +kernel
theorem dX7_groansIn_56 : decode cX7_groansIn 56 = .ok (.iload_n 3, 1) := by decide +kernel
theorem dX7_groansIn_57 : decode cX7_groansIn 57 = .ok (.iload_n 2, 1) := by decide +kernel
theorem dX7_groansIn_58 : decode cX7_groansIn 58 = .ok (.invokestatic 231, 3) := by decide +kernel
theorem dX7_groansIn_61 : decode cX7_groansIn 61 = .ok (.iadd, 1) := by decide +kernel
theorem dX7_groansIn_62 : decode cX7_groansIn 62 = .ok (.istore_n 3, 1) := by decide +kernel
theorem dX7_groansIn_63 : decode cX7_groansIn 63 = .ok (.iinc 4 1, 3) := by decide +kernel
theorem dX7_groansIn_66 : decode cX7_groansIn 66 = .ok (.goto (-34), 3) := by decide +kernel
theorem dX7_groansIn_69 : decode cX7_groansIn 69 = .ok (.iload_n 3, 1) := by decide +kernel
theorem dX7_groansIn_70 : decode cX7_groansIn 70 = .ok (.ireturn, 1) := by decide +kernel
theorem dX7_bestStroke_0 : decode cX7_bestStroke 0 = .ok (.aload_n 0, 1) := by decide +kernel
theorem dX7_bestStroke_1 : decode cX7_bestStroke 1 = .ok (.getfield 12, 3) := by decide +kernel
theorem dX7_bestStroke_4 : decode cX7_bestStroke 4 = .ok (.getfield 114, 3) := by decide +kernel
theorem dX7_bestStroke_7 : decode cX7_bestStroke 7 = .ok (.aload_n 0, 1) := by decide +kernel
theorem dX7_bestStroke_8 : decode cX7_bestStroke 8 = .ok (.getfield 12, 3) := by decide +kernel
theorem dX7_bestStroke_11 : decode cX7_bestStroke 11 = .ok (.getfield 234, 3) := by decide +kernel
theorem dX7_bestStroke_14 : decode cX7_bestStroke 14 = .ok (.invokevirtual 158, 3) := by decide +kernel
theorem dX7_bestStroke_17 : decode cX7_bestStroke 17 = .ok (.ifCond .ne 6, 3) := by decide +kernel
theorem dX7_bestStroke_20 : decode cX7_bestStroke 20 = .ok (.bipush (-6), 2) := by decide +kernel
theorem dX7_bestStroke_22 : decode cX7_bestStroke 22 = .ok (.ireturn, 1) := by decide +kernel
theorem dX7_bestStroke_23 : decode cX7_bestStroke 23 = .ok (.aload_n 0, 1) := by decide +kernel
theorem dX7_bestStroke_24 : decode cX7_bestStroke 24 = .ok (.aload_n 0, 1) := by decide +kernel
theorem dX7_bestStroke_25 : decode cX7_bestStroke 25 = .ok (.getfield 12, 3) := by decide +kernel
theorem dX7_bestStroke_28 : decode cX7_bestStroke 28 = .ok (.getfield 234, 3) := by decide +kernel
theorem dX7_bestStroke_31 : decode cX7_bestStroke 31 = .ok (.invokevirtual 161, 3) := by decide +kernel
theorem dX7_bestStroke_34 : decode cX7_bestStroke 34 = .ok (.istore_n 1, 1) := by decide +kernel
theorem dX7_bestStroke_35 : decode cX7_bestStroke 35 = .ok (.iconst 1, 1) := by decide +kernel
theorem dX7_bestStroke_36 : decode cX7_bestStroke 36 = .ok (.istore_n 2, 1) := by decide +kernel
theorem dX7_bestStroke_37 : decode cX7_bestStroke 37 = .ok (.iconst 2, 1) := by decide +kernel
theorem dX7_bestStroke_38 : decode cX7_bestStroke 38 = .ok (.istore_n 3, 1) := by decide +kernel
theorem dX7_bestStroke_39 : decode cX7_bestStroke 39 = .ok (.iload_n 3, 1) := by decide +kernel
theorem dX7_bestStroke_40 : decode cX7_bestStroke 40 = .ok (.bipush 10, 2) := by decide +kernel
theorem dX7_bestStroke_42 : decode cX7_bestStroke 42 = .ok (.if_icmp .gt 26, 3) := by decide +kernel
theorem dX7_bestStroke_45 : decode cX7_bestStroke 45 = .ok (.aload_n 0, 1) := by decide +kernel
theorem dX7_bestStroke_46 : decode cX7_bestStroke 46 = .ok (.iload_n 1, 1) := by decide +kernel
theorem dX7_bestStroke_47 : decode cX7_bestStroke 47 = .ok (.iload_n 3, 1) := by decide +kernel
theorem dX7_bestStroke_48 : decode cX7_bestStroke 48 = .ok (.invokevirtual 242, 3) := by decide +kernel
theorem dX7_bestStroke_51 : decode cX7_bestStroke 51 = .ok (.aload_n 0, 1) := by decide +kernel
theorem dX7_bestStroke_52 : decode cX7_bestStroke 52 = .ok (.iload_n 1, 1) := by decide +kernel
theorem dX7_bestStroke_53 : decode cX7_bestStroke 53 = .ok (.iload_n 2, 1) := by decide +kernel
theorem dX7_bestStroke_54 : decode cX7_bestStroke 54 = .ok (.invokevirtual 242, 3) := by decide +kernel
theorem dX7_bestStroke_57 : decode cX7_bestStroke 57 = .ok (.if_icmp .ge 5, 3) := by decide +kernel
theorem dX7_bestStroke_60 : decode cX7_bestStroke 60 = .ok (.iload_n 3, 1) := by decide +kernel
theorem dX7_bestStroke_61 : decode cX7_bestStroke 61 = .ok (.istore_n 2, 1) := by decide +kernel
theorem dX7_bestStroke_62 : decode cX7_bestStroke 62 = .ok (.iinc 3 1, 3) := by decide +kernel
theorem dX7_bestStroke_65 : decode cX7_bestStroke 65 = .ok (.goto (-26), 3) := by decide +kernel
theorem dX7_bestStroke_68 : decode cX7_bestStroke 68 = .ok (.iload_n 2, 1) := by decide +kernel
theorem dX7_bestStroke_69 : decode cX7_bestStroke 69 = .ok (.ireturn, 1) := by decide +kernel
theorem dX7_isCounted_0 : decode cX7_isCounted 0 = .ok (.aload_n 0, 1) := by decide +kernel
theorem dX7_isCounted_1 : decode cX7_isCounted 1 = .ok (.getfield 12, 3) := by decide +kernel
theorem dX7_isCounted_4 : decode cX7_isCounted 4 = .ok (.getfield 245, 3) := by decide +kernel
theorem dX7_isCounted_7 : decode cX7_isCounted 7 = .ok (.aload_n 0, 1) := by decide +kernel
theorem dX7_isCounted_8 : decode cX7_isCounted 8 = .ok (.getfield 12, 3) := by decide +kernel
theorem dX7_isCounted_11 : decode cX7_isCounted 11 = .ok (.getfield 114, 3) := by decide +kernel
theorem dX7_isCounted_14 : decode cX7_isCounted 14 = .ok (.getfield 118, 3) := by decide +kernel
theorem dX7_isCounted_17 : decode cX7_isCounted 17 = .ok (.aload_n 0, 1) := by decide +kernel
theorem dX7_isCounted_18 : decode cX7_isCounted 18 = .ok (.getfield 12, 3) := by decide +kernel
theorem dX7_isCounted_21 : decode cX7_isCounted 21 = .ok (.getfield 164, 3) := by decide +kernel
theorem dX7_isCounted_24 : decode cX7_isCounted 24 = .ok (.getfield 208, 3) := by decide +kernel
theorem dX7_isCounted_27 : decode cX7_isCounted 27 = .ok (.iadd, 1) := by decide +kernel
theorem dX7_isCounted_28 : decode cX7_isCounted 28 = .ok (.aload_n 0, 1) := by decide +kernel
theorem dX7_isCounted_29 : decode cX7_isCounted 29 = .ok (.getfield 12, 3) := by decide +kernel
theorem dX7_isCounted_32 : decode cX7_isCounted 32 = .ok (.getfield 248, 3) := by decide +kernel
theorem dX7_isCounted_35 : decode cX7_isCounted 35 = .ok (.iadd, 1) := by decide +kernel
theorem dX7_isCounted_36 : decode cX7_isCounted 36 = .ok (.if_icmp .ne 7, 3) := by decide +kernel
theorem dX7_isCounted_39 : decode cX7_isCounted 39 = .ok (.iconst 1, 1) := by decide +kernel
theorem dX7_isCounted_40 : decode cX7_isCounted 40 = .ok (.goto 4, 3) := by decide +kernel
theorem dX7_isCounted_43 : decode cX7_isCounted 43 = .ok (.iconst 0, 1) := by decide +kernel
theorem dX7_isCounted_44 : decode cX7_isCounted 44 = .ok (.istore_n 1, 1) := by decide +kernel
theorem dX7_isCounted_45 : decode cX7_isCounted 45 = .ok (.iload_n 1, 1) := by decide +kernel
theorem dX7_isCounted_46 : decode cX7_isCounted 46 = .ok (.ifCond .eq 28, 3) := by decide +kernel
theorem dX7_isCounted_49 : decode cX7_isCounted 49 = .ok (.aload_n 0, 1) := by decide +kernel
theorem dX7_isCounted_50 : decode cX7_isCounted 50 = .ok (.invokevirtual 251, 3) := by decide +kernel
theorem dX7_isCounted_53 : decode cX7_isCounted 53 = .ok (.ifCond .eq 21, 3) := by decide +kernel
theorem dX7_isCounted_56 : decode cX7_isCounted 56 = .ok (.aload_n 0, 1) := by decide +kernel
theorem dX7_isCounted_57 : decode cX7_isCounted 57 = .ok (.invokevirtual 255, 3) := by decide +kernel
theorem dX7_isCounted_60 : decode cX7_isCounted 60 = .ok (.ifCond .eq 14, 3) := by decide +kernel
theorem dX7_isCounted_63 : decode cX7_isCounted 63 = .ok (.aload_n 0, 1) := by decide +kernel
theorem dX7_isCounted_64 : decode cX7_isCounted 64 = .ok (.invokevirtual 258, 3) := by decide +kernel
theorem dX7_isCounted_67 : decode cX7_isCounted 67 = .ok (.ifCond .eq 7, 3) := by decide +kernel
theorem dX7_isCounted_70 : decode cX7_isCounted 70 = .ok (.iconst 1, 1) := by decide +kernel
theorem dX7_isCounted_71 : decode cX7_isCounted 71 = .ok (.goto 4, 3) := by decide +kernel
theorem dX7_isCounted_74 : decode cX7_isCounted 74 = .ok (.iconst 0, 1) := by decide +kernel
theorem dX7_isCounted_75 : decode cX7_isCounted 75 = .ok (.ireturn, 1) := by decide +kernel
theorem dX7_account_0 : decode cX7_account 0 = .ok (.iload_n 1, 1) := by decide +kernel
theorem dX7_account_1 : decode cX7_account 1 = .ok (.tableswitch 192 0 13 #[71, 82, 90, 98, 106, 114, 122, 133, 141, 149, 157, 165, 176, 184], 71) := by decide +kernel
theorem dX7_account_72 : decode cX7_account 72 = .ok (.aload_n 0, 1) := by decide +kernel
theorem dX7_account_73 : decode cX7_account 73 = .ok (.getfield 12, 3) := by decide +kernel
theorem dX7_account_76 : decode cX7_account 76 = .ok (.getfield 114, 3) := by decide +kernel
theorem dX7_account_79 : decode cX7_account 79 = .ok (.getfield 118, 3) := by decide +kernel
theorem dX7_account_82 : decode cX7_account 82 = .ok (.ireturn, 1) := by decide +kernel
theorem dX7_account_83 : decode cX7_account 83 = .ok (.aload_n 0, 1) := by decide +kernel
theorem dX7_account_84 : decode cX7_account 84 = .ok (.getfield 12, 3) := by decide +kernel
theorem dX7_account_87 : decode cX7_account 87 = .ok (.getfield 234, 3) := by decide +kernel
theorem dX7_account_90 : decode cX7_account 90 = .ok (.ireturn, 1) := by decide +kernel
theorem dX7_account_91 : decode cX7_account 91 = .ok (.aload_n 0, 1) := by decide +kernel
theorem dX7_account_92 : decode cX7_account 92 = .ok (.getfield 12, 3) := by decide +kernel
theorem dX7_account_95 : decode cX7_account 95 = .ok (.getfield 222, 3) := by decide +kernel
theorem dX7_account_98 : decode cX7_account 98 = .ok (.ireturn, 1) := by decide +kernel
theorem dX7_account_99 : decode cX7_account 99 = .ok (.aload_n 0, 1) := by decide +kernel
theorem dX7_account_100 : decode cX7_account 100 = .ok (.getfield 12, 3) := by decide +kernel
theorem dX7_account_103 : decode cX7_account 103 = .ok (.getfield 219, 3) := by decide +kernel
theorem dX7_account_106 : decode cX7_account 106 = .ok (.ireturn, 1) := by decide +kernel
theorem dX7_account_107 : decode cX7_account 107 = .ok (.aload_n 0, 1) := by decide +kernel
theorem dX7_account_108 : decode cX7_account 108 = .ok (.getfield 12, 3) := by decide +kernel
theorem dX7_account_111 : decode cX7_account 111 = .ok (.getfield 228, 3) := by decide +kernel
theorem dX7_account_114 : decode cX7_account 114 = .ok (.ireturn, 1) := by decide +kernel
theorem dX7_account_115 : decode cX7_account 115 = .ok (.aload_n 0, 1) := by decide +kernel
theorem dX7_account_116 : decode cX7_account 116 = .ok (.getfield 12, 3) := by decide +kernel
theorem dX7_account_119 : decode cX7_account 119 = .ok (.getfield 261, 3) := by decide +kernel
theorem dX7_account_122 : decode cX7_account 122 = .ok (.ireturn, 1) := by decide +kernel
theorem dX7_account_123 : decode cX7_account 123 = .ok (.aload_n 0, 1) := by decide +kernel
theorem dX7_account_124 : decode cX7_account 124 = .ok (.getfield 12, 3) := by decide +kernel
theorem dX7_account_127 : decode cX7_account 127 = .ok (.getfield 164, 3) := by decide +kernel
theorem dX7_account_130 : decode cX7_account 130 = .ok (.getfield 208, 3) := by decide +kernel
theorem dX7_account_133 : decode cX7_account 133 = .ok (.ireturn, 1) := by decide +kernel
theorem dX7_account_134 : decode cX7_account 134 = .ok (.aload_n 0, 1) := by decide +kernel
theorem dX7_account_135 : decode cX7_account 135 = .ok (.getfield 12, 3) := by decide +kernel
theorem dX7_account_138 : decode cX7_account 138 = .ok (.getfield 245, 3) := by decide +kernel
theorem dX7_account_141 : decode cX7_account 141 = .ok (.ireturn, 1) := by decide +kernel
theorem dX7_account_142 : decode cX7_account 142 = .ok (.aload_n 0, 1) := by decide +kernel
theorem dX7_account_143 : decode cX7_account 143 = .ok (.getfield 12, 3) := by decide +kernel
theorem dX7_account_146 : decode cX7_account 146 = .ok (.getfield 248, 3) := by decide +kernel
theorem dX7_account_149 : decode cX7_account 149 = .ok (.ireturn, 1) := by decide +kernel
theorem dX7_account_150 : decode cX7_account 150 = .ok (.aload_n 0, 1) := by decide +kernel
theorem dX7_account_151 : decode cX7_account 151 = .ok (.getfield 12, 3) := by decide +kernel
theorem dX7_account_154 : decode cX7_account 154 = .ok (.getfield 264, 3) := by decide +kernel
theorem dX7_account_157 : decode cX7_account 157 = .ok (.ireturn, 1) := by decide +kernel
theorem dX7_account_158 : decode cX7_account 158 = .ok (.aload_n 0, 1) := by decide +kernel
theorem dX7_account_159 : decode cX7_account 159 = .ok (.getfield 12, 3) := by decide +kernel
theorem dX7_account_162 : decode cX7_account 162 = .ok (.getfield 267, 3) := by decide +kernel
theorem dX7_account_165 : decode cX7_account 165 = .ok (.ireturn, 1) := by decide +kernel
theorem dX7_account_166 : decode cX7_account 166 = .ok (.aload_n 0, 1) := by decide +kernel
theorem dX7_account_167 : decode cX7_account 167 = .ok (.getfield 12, 3) := by decide +kernel
theorem dX7_account_170 : decode cX7_account 170 = .ok (.getfield 114, 3) := by decide +kernel
theorem dX7_account_173 : decode cX7_account 173 = .ok (.invokevirtual 270, 3) := by decide +kernel
theorem dX7_account_176 : decode cX7_account 176 = .ok (.ireturn, 1) := by decide +kernel
theorem dX7_account_177 : decode cX7_account 177 = .ok (.aload_n 0, 1) := by decide +kernel
theorem dX7_account_178 : decode cX7_account 178 = .ok (.getfield 33, 3) := by decide +kernel
theorem dX7_account_181 : decode cX7_account 181 = .ok (.getfield 273, 3) := by decide +kernel
theorem dX7_account_184 : decode cX7_account 184 = .ok (.ireturn, 1) := by decide +kernel
theorem dX7_account_185 : decode cX7_account 185 = .ok (.aload_n 0, 1) := by decide +kernel
theorem dX7_account_186 : decode cX7_account 186 = .ok (.getfield 26, 3) := by decide +kernel
theorem dX7_account_189 : decode cX7_account 189 = .ok (.getfield 104, 3) := by decide +kernel
theorem dX7_account_192 : decode cX7_account 192 = .ok (.ireturn, 1) := by decide +kernel
theorem dX7_account_193 : decode cX7_account 193 = .ok (.bipush (-2), 2) := by decide +kernel
theorem dX7_account_195 : decode cX7_account 195 = .ok (.ireturn, 1) := by decide +kernel
theorem dX7_write_0 : decode cX7_write 0 = .ok (.iload_n 1, 1) := by decide +kernel
theorem dX7_write_1 : decode cX7_write 1 = .ok (.invokestatic 152, 3) := by decide +kernel
theorem dX7_write_4 : decode cX7_write 4 = .ok (.ifCond .ne 5, 3) := by decide +kernel
theorem dX7_write_7 : decode cX7_write 7 = .ok (.iconst (-1), 1) := by decide +kernel
theorem dX7_write_8 : decode cX7_write 8 = .ok (.ireturn, 1) := by decide +kernel
theorem dX7_write_9 : decode cX7_write 9 = .ok (.aload_n 0, 1) := by decide +kernel
theorem dX7_write_10 : decode cX7_write 10 = .ok (.getfield 37, 3) := by decide +kernel
theorem dX7_write_13 : decode cX7_write 13 = .ok (.invokevirtual 101, 3) := by decide +kernel
theorem dX7_write_16 : decode cX7_write 16 = .ok (.aload_n 0, 1) := by decide +kernel
theorem dX7_write_17 : decode cX7_write 17 = .ok (.getfield 37, 3) := by decide +kernel
theorem dX7_write_20 : decode cX7_write 20 = .ok (.iload_n 1, 1) := by decide +kernel
theorem dX7_write_21 : decode cX7_write 21 = .ok (.invokevirtual 274, 3) := by decide +kernel
theorem dX7_write_24 : decode cX7_write 24 = .ok (.aload_n 0, 1) := by decide +kernel
theorem dX7_write_25 : decode cX7_write 25 = .ok (.getfield 37, 3) := by decide +kernel
theorem dX7_write_28 : decode cX7_write 28 = .ok (.bipush 117, 2) := by decide +kernel
theorem dX7_write_30 : decode cX7_write 30 = .ok (.invokevirtual 278, 3) := by decide +kernel
theorem dX7_write_33 : decode cX7_write 33 = .ok (.aload_n 0, 1) := by decide +kernel
theorem dX7_write_34 : decode cX7_write 34 = .ok (.getfield 37, 3) := by decide +kernel
theorem dX7_write_37 : decode cX7_write 37 = .ok (.aload_n 0, 1) := by decide +kernel
theorem dX7_write_38 : decode cX7_write 38 = .ok (.getfield 12, 3) := by decide +kernel
theorem dX7_write_41 : decode cX7_write 41 = .ok (.getfield 155, 3) := by decide +kernel
theorem dX7_write_44 : decode cX7_write 44 = .ok (.iload_n 1, 1) := by decide +kernel
theorem dX7_write_45 : decode cX7_write 45 = .ok (.invokevirtual 132, 3) := by decide +kernel
theorem dX7_write_48 : decode cX7_write 48 = .ok (.invokevirtual 274, 3) := by decide +kernel
theorem dX7_write_51 : decode cX7_write 51 = .ok (.aload_n 0, 1) := by decide +kernel
theorem dX7_write_52 : decode cX7_write 52 = .ok (.getfield 12, 3) := by decide +kernel
theorem dX7_write_55 : decode cX7_write 55 = .ok (.getfield 114, 3) := by decide +kernel
theorem dX7_write_58 : decode cX7_write 58 = .ok (.iload_n 1, 1) := by decide +kernel
theorem dX7_write_59 : decode cX7_write 59 = .ok (.invokevirtual 158, 3) := by decide +kernel
theorem dX7_write_62 : decode cX7_write 62 = .ok (.istore_n 2, 1) := by decide +kernel
theorem dX7_write_63 : decode cX7_write 63 = .ok (.iconst 0, 1) := by decide +kernel
theorem dX7_write_64 : decode cX7_write 64 = .ok (.istore_n 3, 1) := by decide +kernel
theorem dX7_write_65 : decode cX7_write 65 = .ok (.iload_n 3, 1) := by decide +kernel
theorem dX7_write_66 : decode cX7_write 66 = .ok (.iload_n 2, 1) := by decide +kernel
theorem dX7_write_67 : decode cX7_write 67 = .ok (.if_icmp .ge 25, 3) := by decide +kernel
theorem dX7_write_70 : decode cX7_write 70 = .ok (.aload_n 0, 1) := by decide +kernel
theorem dX7_write_71 : decode cX7_write 71 = .ok (.aload_n 0, 1) := by decide +kernel
theorem dX7_write_72 : decode cX7_write 72 = .ok (.getfield 12, 3) := by decide +kernel
theorem dX7_write_75 : decode cX7_write 75 = .ok (.getfield 114, 3) := by decide +kernel
theorem dX7_write_78 : decode cX7_write 78 = .ok (.iload_n 1, 1) := by decide +kernel
theorem dX7_write_79 : decode cX7_write 79 = .ok (.iload_n 3, 1) := by decide +kernel
theorem dX7_write_80 : decode cX7_write 80 = .ok (.invokevirtual 180, 3) := by decide +kernel
theorem dX7_write_83 : decode cX7_write 83 = .ok (.invokevirtual 282, 3) := by decide +kernel
theorem dX7_write_86 : decode cX7_write 86 = .ok (.iinc 3 1, 3) := by decide +kernel
theorem dX7_write_89 : decode cX7_write 89 = .ok (.goto (-24), 3) := by decide +kernel
theorem dX7_write_92 : decode cX7_write 92 = .ok (.aload_n 0, 1) := by decide +kernel
theorem dX7_write_93 : decode cX7_write 93 = .ok (.getfield 37, 3) := by decide +kernel
theorem dX7_write_96 : decode cX7_write 96 = .ok (.getfield 273, 3) := by decide +kernel
theorem dX7_write_99 : decode cX7_write 99 = .ok (.ireturn, 1) := by decide +kernel
theorem dX7_writePump_0 : decode cX7_writePump 0 = .ok (.aload_n 0, 1) := by decide +kernel
theorem dX7_writePump_1 : decode cX7_writePump 1 = .ok (.getfield 37, 3) := by decide +kernel
theorem dX7_writePump_4 : decode cX7_writePump 4 = .ok (.invokevirtual 101, 3) := by decide +kernel
theorem dX7_writePump_7 : decode cX7_writePump 7 = .ok (.aload_n 0, 1) := by decide +kernel
theorem dX7_writePump_8 : decode cX7_writePump 8 = .ok (.getfield 37, 3) := by decide +kernel
theorem dX7_writePump_11 : decode cX7_writePump 11 = .ok (.bipush 64, 2) := by decide +kernel
theorem dX7_writePump_13 : decode cX7_writePump 13 = .ok (.invokevirtual 278, 3) := by decide +kernel
theorem dX7_writePump_16 : decode cX7_writePump 16 = .ok (.aload_n 0, 1) := by decide +kernel
theorem dX7_writePump_17 : decode cX7_writePump 17 = .ok (.getfield 37, 3) := by decide +kernel
theorem dX7_writePump_20 : decode cX7_writePump 20 = .ok (.aload_n 0, 1) := by decide +kernel
theorem dX7_writePump_21 : decode cX7_writePump 21 = .ok (.getfield 12, 3) := by decide +kernel
theorem dX7_writePump_24 : decode cX7_writePump 24 = .ok (.getfield 234, 3) := by decide +kernel
theorem dX7_writePump_27 : decode cX7_writePump 27 = .ok (.invokevirtual 274, 3) := by decide +kernel
theorem dX7_writePump_30 : decode cX7_writePump 30 = .ok (.aload_n 0, 1) := by decide +kernel
theorem dX7_writePump_31 : decode cX7_writePump 31 = .ok (.getfield 37, 3) := by decide +kernel
theorem dX7_writePump_34 : decode cX7_writePump 34 = .ok (.bipush 94, 2) := by decide +kernel
theorem dX7_writePump_36 : decode cX7_writePump 36 = .ok (.invokevirtual 278, 3) := by decide +kernel
theorem dX7_writePump_39 : decode cX7_writePump 39 = .ok (.aload_n 0, 1) := by decide +kernel
theorem dX7_writePump_40 : decode cX7_writePump 40 = .ok (.getfield 37, 3) := by decide +kernel
theorem dX7_writePump_43 : decode cX7_writePump 43 = .ok (.aload_n 0, 1) := by decide +kernel
theorem dX7_writePump_44 : decode cX7_writePump 44 = .ok (.getfield 12, 3) := by decide +kernel
theorem dX7_writePump_47 : decode cX7_writePump 47 = .ok (.getfield 222, 3) := by decide +kernel
theorem dX7_writePump_50 : decode cX7_writePump 50 = .ok (.invokevirtual 274, 3) := by decide +kernel
theorem dX7_writePump_53 : decode cX7_writePump 53 = .ok (.aload_n 0, 1) := by decide +kernel
theorem dX7_writePump_54 : decode cX7_writePump 54 = .ok (.getfield 37, 3) := by decide +kernel
theorem dX7_writePump_57 : decode cX7_writePump 57 = .ok (.bipush 126, 2) := by decide +kernel
theorem dX7_writePump_59 : decode cX7_writePump 59 = .ok (.invokevirtual 278, 3) := by decide +kernel
theorem dX7_writePump_62 : decode cX7_writePump 62 = .ok (.aload_n 0, 1) := by decide +kernel
theorem dX7_writePump_63 : decode cX7_writePump 63 = .ok (.getfield 37, 3) := by decide +kernel
theorem dX7_writePump_66 : decode cX7_writePump 66 = .ok (.aload_n 0, 1) := by decide +kernel
theorem dX7_writePump_67 : decode cX7_writePump 67 = .ok (.getfield 12, 3) := by decide +kernel
theorem dX7_writePump_70 : decode cX7_writePump 70 = .ok (.getfield 219, 3) := by decide +kernel
theorem dX7_writePump_73 : decode cX7_writePump 73 = .ok (.invokevirtual 274, 3) := by decide +kernel
theorem dX7_writePump_76 : decode cX7_writePump 76 = .ok (.aload_n 0, 1) := by decide +kernel
theorem dX7_writePump_77 : decode cX7_writePump 77 = .ok (.getfield 37, 3) := by decide +kernel
theorem dX7_writePump_80 : decode cX7_writePump 80 = .ok (.bipush 111, 2) := by decide +kernel
theorem dX7_writePump_82 : decode cX7_writePump 82 = .ok (.invokevirtual 278, 3) := by decide +kernel
theorem dX7_writePump_85 : decode cX7_writePump 85 = .ok (.aload_n 0, 1) := by decide +kernel
theorem dX7_writePump_86 : decode cX7_writePump 86 = .ok (.getfield 37, 3) := by decide +kernel
theorem dX7_writePump_89 : decode cX7_writePump 89 = .ok (.aload_n 0, 1) := by decide +kernel
theorem dX7_writePump_90 : decode cX7_writePump 90 = .ok (.getfield 12, 3) := by decide +kernel
theorem dX7_writePump_93 : decode cX7_writePump 93 = .ok (.getfield 228, 3) := by decide +kernel
theorem dX7_writePump_96 : decode cX7_writePump 96 = .ok (.invokevirtual 274, 3) := by decide +kernel
theorem dX7_writePump_99 : decode cX7_writePump 99 = .ok (.aload_n 0, 1) := by decide +kernel
theorem dX7_writePump_100 : decode cX7_writePump 100 = .ok (.getfield 37, 3) := by decide +kernel
theorem dX7_writePump_103 : decode cX7_writePump 103 = .ok (.bipush 42, 2) := by decide +kernel
theorem dX7_writePump_105 : decode cX7_writePump 105 = .ok (.invokevirtual 278, 3) := by decide +kernel
theorem dX7_writePump_108 : decode cX7_writePump 108 = .ok (.aload_n 0, 1) := by decide +kernel
theorem dX7_writePump_109 : decode cX7_writePump 109 = .ok (.getfield 37, 3) := by decide +kernel
theorem dX7_writePump_112 : decode cX7_writePump 112 = .ok (.aload_n 0, 1) := by decide +kernel
theorem dX7_writePump_113 : decode cX7_writePump 113 = .ok (.getfield 12, 3) := by decide +kernel
theorem dX7_writePump_116 : decode cX7_writePump 116 = .ok (.getfield 261, 3) := by decide +kernel
theorem dX7_writePump_119 : decode cX7_writePump 119 = .ok (.invokevirtual 274, 3) := by decide +kernel
theorem dX7_writePump_122 : decode cX7_writePump 122 = .ok (.aload_n 0, 1) := by decide +kernel
theorem dX7_writePump_123 : decode cX7_writePump 123 = .ok (.getfield 37, 3) := by decide +kernel
theorem dX7_writePump_126 : decode cX7_writePump 126 = .ok (.getfield 273, 3) := by decide +kernel
theorem dX7_writePump_129 : decode cX7_writePump 129 = .ok (.ireturn, 1) := by decide +kernel
theorem dX7_written_0 : decode cX7_written 0 = .ok (.aload_n 0, 1) := by decide +kernel
theorem dX7_written_1 : decode cX7_written 1 = .ok (.getfield 37, 3) := by decide +kernel
theorem dX7_written_4 : decode cX7_written 4 = .ok (.iload_n 1, 1) := by decide +kernel
theorem dX7_written_5 : decode cX7_written 5 = .ok (.invokevirtual 285, 3) := by decide +kernel
theorem dX7_written_8 : decode cX7_written 8 = .ok (.ireturn, 1) := by decide +kernel
theorem dX7_append_0 : decode cX7_append 0 = .ok (.iload_n 1, 1) := by decide +kernel
theorem dX7_append_1 : decode cX7_append 1 = .ok (.bipush 32, 2) := by decide +kernel
theorem dX7_append_3 : decode cX7_append 3 = .ok (.bipush 126, 2) := by decide +kernel
theorem dX7_append_5 : decode cX7_append 5 = .ok (.invokestatic 173, 3) := by decide +kernel
theorem dX7_append_8 : decode cX7_append 8 = .ok (.ifCond .ne 6, 3) := by decide +kernel
theorem dX7_append_11 : decode cX7_append 11 = .ok (.bipush (-2), 2) := by decide +kernel
theorem dX7_append_13 : decode cX7_append 13 = .ok (.ireturn, 1) := by decide +kernel
theorem dX7_append_14 : decode cX7_append 14 = .ok (.aload_n 0, 1) := by decide +kernel
theorem dX7_append_15 : decode cX7_append 15 = .ok (.getfield 33, 3) := by decide +kernel
theorem dX7_append_18 : decode cX7_append 18 = .ok (.getfield 273, 3) := by decide +kernel
theorem dX7_append_21 : decode cX7_append 21 = .ok (.bipush 60, 2) := by decide +kernel
theorem dX7_append_23 : decode cX7_append 23 = .ok (.if_icmp .lt 6, 3) := by decide +kernel
theorem dX7_append_26 : decode cX7_append 26 = .ok (.bipush (-4), 2) := by decide +kernel
theorem dX7_append_28 : decode cX7_append 28 = .ok (.ireturn, 1) := by decide +kernel
theorem dX7_append_29 : decode cX7_append 29 = .ok (.aload_n 0, 1) := by decide +kernel
theorem dX7_append_30 : decode cX7_append 30 = .ok (.getfield 33, 3) := by decide +kernel
theorem dX7_append_33 : decode cX7_append 33 = .ok (.iload_n 1, 1) := by decide +kernel
theorem dX7_append_34 : decode cX7_append 34 = .ok (.invokevirtual 278, 3) := by decide +kernel
theorem dX7_append_37 : decode cX7_append 37 = .ok (.aload_n 0, 1) := by decide +kernel
theorem dX7_append_38 : decode cX7_append 38 = .ok (.getfield 33, 3) := by decide +kernel
theorem dX7_append_41 : decode cX7_append 41 = .ok (.getfield 273, 3) := by decide +kernel
theorem dX7_append_44 : decode cX7_append 44 = .ok (.ireturn, 1) := by decide +kernel
theorem dX7_fault_0 : decode cX7_fault 0 = .ok (.aload_n 0, 1) := by decide +kernel
theorem dX7_fault_1 : decode cX7_fault 1 = .ok (.getfield 47, 3) := by decide +kernel
theorem dX7_fault_4 : decode cX7_fault 4 = .ok (.iconst (-1), 1) := by decide +kernel
theorem dX7_fault_5 : decode cX7_fault 5 = .ok (.if_icmp .ne 8, 3) := by decide +kernel
theorem dX7_fault_8 : decode cX7_fault 8 = .ok (.bipush (-3), 2) := by decide +kernel
theorem dX7_fault_10 : decode cX7_fault 10 = .ok (.goto 7, 3) := by decide +kernel
theorem dX7_fault_13 : decode cX7_fault 13 = .ok (.aload_n 0, 1) := by decide +kernel
theorem dX7_fault_14 : decode cX7_fault 14 = .ok (.getfield 47, 3) := by decide +kernel
theorem dX7_fault_17 : decode cX7_fault 17 = .ok (.ireturn, 1) := by decide +kernel
theorem dX7_reason_0 : decode cX7_reason 0 = .ok (.iload_n 1, 1) := by decide +kernel
theorem dX7_reason_1 : decode cX7_reason 1 = .ok (.iconst 0, 1) := by decide +kernel
theorem dX7_reason_2 : decode cX7_reason 2 = .ok (.iconst 1, 1) := by decide +kernel
theorem dX7_reason_3 : decode cX7_reason 3 = .ok (.invokestatic 173, 3) := by decide +kernel
theorem dX7_reason_6 : decode cX7_reason 6 = .ok (.ifCond .ne 6, 3) := by decide +kernel
theorem dX7_reason_9 : decode cX7_reason 9 = .ok (.bipush (-2), 2) := by decide +kernel
theorem dX7_reason_11 : decode cX7_reason 11 = .ok (.ireturn, 1) := by decide +kernel
theorem dX7_reason_12 : decode cX7_reason 12 = .ok (.aload_n 0, 1) := by decide +kernel
theorem dX7_reason_13 : decode cX7_reason 13 = .ok (.getfield 51, 3) := by decide +kernel
theorem dX7_reason_16 : decode cX7_reason 16 = .ok (.ifCond .ne 6, 3) := by decide +kernel
theorem dX7_reason_19 : decode cX7_reason 19 = .ok (.bipush (-3), 2) := by decide +kernel
theorem dX7_reason_21 : decode cX7_reason 21 = .ok (.ireturn, 1) := by decide +kernel
theorem dX7_reason_22 : decode cX7_reason 22 = .ok (.iload_n 1, 1) := by decide +kernel
theorem dX7_reason_23 : decode cX7_reason 23 = .ok (.ifCond .ne 19, 3) := by decide +kernel
theorem dX7_reason_26 : decode cX7_reason 26 = .ok (.iload_n 2, 1) := by decide +kernel
theorem dX7_reason_27 : decode cX7_reason 27 = .ok (.ifCond .eq 10, 3) := by decide +kernel
theorem dX7_reason_30 : decode cX7_reason 30 = .ok (.aload_n 0, 1) := by decide +kernel
theorem dX7_reason_31 : decode cX7_reason 31 = .ok (.getfield 54, 3) := by decide +kernel
theorem dX7_reason_34 : decode cX7_reason 34 = .ok (.goto 7, 3) := by decide +kernel
theorem dX7_reason_37 : decode cX7_reason 37 = .ok (.aload_n 0, 1) := by decide +kernel
theorem dX7_reason_38 : decode cX7_reason 38 = .ok (.getfield 51, 3) := by decide +kernel
theorem dX7_reason_41 : decode cX7_reason 41 = .ok (.ireturn, 1) := by decide +kernel
theorem dX7_reason_42 : decode cX7_reason 42 = .ok (.aload_n 0, 1) := by decide +kernel
theorem dX7_reason_43 : decode cX7_reason 43 = .ok (.getfield 57, 3) := by decide +kernel
theorem dX7_reason_46 : decode cX7_reason 46 = .ok (.ifCond .ne 6, 3) := by decide +kernel
theorem dX7_reason_49 : decode cX7_reason 49 = .ok (.bipush (-6), 2) := by decide +kernel
theorem dX7_reason_51 : decode cX7_reason 51 = .ok (.ireturn, 1) := by decide +kernel
theorem dX7_reason_52 : decode cX7_reason 52 = .ok (.iload_n 2, 1) := by decide +kernel
theorem dX7_reason_53 : decode cX7_reason 53 = .ok (.ifCond .eq 10, 3) := by decide +kernel
theorem dX7_reason_56 : decode cX7_reason 56 = .ok (.aload_n 0, 1) := by decide +kernel
theorem dX7_reason_57 : decode cX7_reason 57 = .ok (.getfield 60, 3) := by decide +kernel
theorem dX7_reason_60 : decode cX7_reason 60 = .ok (.goto 7, 3) := by decide +kernel
theorem dX7_reason_63 : decode cX7_reason 63 = .ok (.aload_n 0, 1) := by decide +kernel
theorem dX7_reason_64 : decode cX7_reason 64 = .ok (.getfield 57, 3) := by decide +kernel
theorem dX7_reason_67 : decode cX7_reason 67 = .ok (.ireturn, 1) := by decide +kernel
theorem dX7_letCome_0 : decode cX7_letCome 0 = .ok (.iload_n 1, 1) := by decide +kernel
theorem dX7_letCome_1 : decode cX7_letCome 1 = .ok (.invokestatic 152, 3) := by decide +kernel
theorem dX7_letCome_4 : decode cX7_letCome 4 = .ok (.ifCond .ne 5, 3) := by decide +kernel
theorem dX7_letCome_7 : decode cX7_letCome 7 = .ok (.iconst (-1), 1) := by decide +kernel
theorem dX7_letCome_8 : decode cX7_letCome 8 = .ok (.ireturn, 1) := by decide +kernel
theorem dX7_letCome_9 : decode cX7_letCome 9 = .ok (.iload_n 2, 1) := by decide +kernel
theorem dX7_letCome_10 : decode cX7_letCome 10 = .ok (.iconst 1, 1) := by decide +kernel
theorem dX7_letCome_11 : decode cX7_letCome 11 = .ok (.bipush 30, 2) := by decide +kernel
theorem dX7_letCome_13 : decode cX7_letCome 13 = .ok (.invokestatic 173, 3) := by decide +kernel
theorem dX7_letCome_16 : decode cX7_letCome 16 = .ok (.ifCond .eq 24, 3) := by decide +kernel
theorem dX7_letCome_19 : decode cX7_letCome 19 = .ok (.iload_n 3, 1) := by decide +kernel
theorem dX7_letCome_20 : decode cX7_letCome 20 = .ok (.iconst 0, 1) := by decide +kernel
theorem dX7_letCome_21 : decode cX7_letCome 21 = .ok (.bipush 63, 2) := by decide +kernel
theorem dX7_letCome_23 : decode cX7_letCome 23 = .ok (.invokestatic 173, 3) := by decide +kernel
theorem dX7_letCome_26 : decode cX7_letCome 26 = .ok (.ifCond .eq 14, 3) := by decide +kernel
theorem dX7_letCome_29 : decode cX7_letCome 29 = .ok (.iload 4, 2) := by decide +kernel
theorem dX7_letCome_31 : decode cX7_letCome 31 = .ok (.iconst 1, 1) := by decide +kernel
theorem dX7_letCome_32 : decode cX7_letCome 32 = .ok (.bipush 9, 2) := by decide +kernel
theorem dX7_letCome_34 : decode cX7_letCome 34 = .ok (.invokestatic 173, 3) := by decide +kernel
theorem dX7_letCome_37 : decode cX7_letCome 37 = .ok (.ifCond .ne 6, 3) := by decide +kernel
theorem dX7_letCome_40 : decode cX7_letCome 40 = .ok (.bipush (-2), 2) := by decide +kernel
theorem dX7_letCome_42 : decode cX7_letCome 42 = .ok (.ireturn, 1) := by decide +kernel
theorem dX7_letCome_43 : decode cX7_letCome 43 = .ok (.aload_n 0, 1) := by decide +kernel
theorem dX7_letCome_44 : decode cX7_letCome 44 = .ok (.getfield 12, 3) := by decide +kernel
theorem dX7_letCome_47 : decode cX7_letCome 47 = .ok (.getfield 114, 3) := by decide +kernel
theorem dX7_letCome_50 : decode cX7_letCome 50 = .ok (.astore 5, 2) := by decide +kernel
theorem dX7_letCome_52 : decode cX7_letCome 52 = .ok (.aload_n 0, 1) := by decide +kernel
theorem dX7_letCome_53 : decode cX7_letCome 53 = .ok (.getfield 12, 3) := by decide +kernel
theorem dX7_letCome_56 : decode cX7_letCome 56 = .ok (.getfield 164, 3) := by decide +kernel
theorem dX7_letCome_59 : decode cX7_letCome 59 = .ok (.getfield 177, 3) := by decide +kernel
theorem dX7_letCome_62 : decode cX7_letCome 62 = .ok (.iload_n 3, 1) := by decide +kernel
theorem dX7_letCome_63 : decode cX7_letCome 63 = .ok (.invokevirtual 132, 3) := by decide +kernel
theorem dX7_letCome_66 : decode cX7_letCome 66 = .ok (.ifCond .eq 10, 3) := by decide +kernel
theorem dX7_letCome_69 : decode cX7_letCome 69 = .ok (.aload_n 0, 1) := by decide +kernel
theorem dX7_letCome_70 : decode cX7_letCome 70 = .ok (.iconst 3, 1) := by decide +kernel
theorem dX7_letCome_71 : decode cX7_letCome 71 = .ok (.iload_n 3, 1) := by decide +kernel
theorem dX7_letCome_72 : decode cX7_letCome 72 = .ok (.invokevirtual 288, 3) := by decide +kernel
theorem dX7_letCome_75 : decode cX7_letCome 75 = .ok (.ireturn, 1) := by decide +kernel
theorem dX7_letCome_76 : decode cX7_letCome 76 = .ok (.aload 5, 2) := by decide +kernel
theorem dX7_letCome_78 : decode cX7_letCome 78 = .ok (.iload_n 3, 1) := by decide +kernel
theorem dX7_letCome_79 : decode cX7_letCome 79 = .ok (.invokevirtual 291, 3) := by decide +kernel
theorem dX7_letCome_82 : decode cX7_letCome 82 = .ok (.istore 6, 2) := by decide +kernel
theorem dX7_letCome_84 : decode cX7_letCome 84 = .ok (.iload 6, 2) := by decide +kernel
theorem dX7_letCome_86 : decode cX7_letCome 86 = .ok (.iconst (-1), 1) := by decide +kernel
theorem dX7_letCome_87 : decode cX7_letCome 87 = .ok (.if_icmp .eq 11, 3) := by decide +kernel
theorem dX7_letCome_90 : decode cX7_letCome 90 = .ok (.aload_n 0, 1) := by decide +kernel
theorem dX7_letCome_91 : decode cX7_letCome 91 = .ok (.iconst 4, 1) := by decide +kernel
theorem dX7_letCome_92 : decode cX7_letCome 92 = .ok (.iload 6, 2) := by decide +kernel
theorem dX7_letCome_94 : decode cX7_letCome 94 = .ok (.invokevirtual 288, 3) := by decide +kernel
theorem dX7_letCome_97 : decode cX7_letCome 97 = .ok (.ireturn, 1) := by decide +kernel
theorem dX7_letCome_98 : decode cX7_letCome 98 = .ok (.aload 5, 2) := by decide +kernel
theorem dX7_letCome_100 : decode cX7_letCome 100 = .ok (.iload_n 1, 1) := by decide +kernel
theorem dX7_letCome_101 : decode cX7_letCome 101 = .ok (.iload_n 2, 1) := by decide +kernel
theorem dX7_letCome_102 : decode cX7_letCome 102 = .ok (.invokevirtual 294, 3) := by decide +kernel
theorem dX7_letCome_105 : decode cX7_letCome 105 = .ok (.istore 6, 2) := by decide +kernel
theorem dX7_letCome_107 : decode cX7_letCome 107 = .ok (.iload 6, 2) := by decide +kernel
theorem dX7_letCome_109 : decode cX7_letCome 109 = .ok (.iconst (-1), 1) := by decide +kernel
theorem dX7_letCome_110 : decode cX7_letCome 110 = .ok (.if_icmp .eq 11, 3) := by decide +kernel
theorem dX7_letCome_113 : decode cX7_letCome 113 = .ok (.aload_n 0, 1) := by decide +kernel
theorem dX7_letCome_114 : decode cX7_letCome 114 = .ok (.iconst 2, 1) := by decide +kernel
theorem dX7_letCome_115 : decode cX7_letCome 115 = .ok (.iload 6, 2) := by decide +kernel
theorem dX7_letCome_117 : decode cX7_letCome 117 = .ok (.invokevirtual 288, 3) := by decide +kernel
theorem dX7_letCome_120 : decode cX7_letCome 120 = .ok (.ireturn, 1) := by decide +kernel
theorem dX7_letCome_121 : decode cX7_letCome 121 = .ok (.aload 5, 2) := by decide +kernel
theorem dX7_letCome_123 : decode cX7_letCome 123 = .ok (.getfield 118, 3) := by decide +kernel
theorem dX7_letCome_126 : decode cX7_letCome 126 = .ok (.bipush 12, 2) := by decide +kernel
theorem dX7_letCome_128 : decode cX7_letCome 128 = .ok (.if_icmp .lt 14, 3) := by decide +kernel
theorem dX7_letCome_131 : decode cX7_letCome 131 = .ok (.aload_n 0, 1) := by decide +kernel
theorem dX7_letCome_132 : decode cX7_letCome 132 = .ok (.iconst 1, 1) := by decide +kernel
theorem dX7_letCome_133 : decode cX7_letCome 133 = .ok (.aload 5, 2) := by decide +kernel
theorem dX7_letCome_135 : decode cX7_letCome 135 = .ok (.getfield 118, 3) := by decide +kernel
theorem dX7_letCome_138 : decode cX7_letCome 138 = .ok (.invokevirtual 288, 3) := by decide +kernel
theorem dX7_letCome_141 : decode cX7_letCome 141 = .ok (.ireturn, 1) := by decide +kernel
theorem dX7_letCome_142 : decode cX7_letCome 142 = .ok (.aload 5, 2) := by decide +kernel
theorem dX7_letCome_144 : decode cX7_letCome 144 = .ok (.iload_n 1, 1) := by decide +kernel
theorem dX7_letCome_145 : decode cX7_letCome 145 = .ok (.invokevirtual 158, 3) := by decide +kernel
theorem dX7_letCome_148 : decode cX7_letCome 148 = .ok (.bipush 6, 2) := by decide +kernel
theorem dX7_letCome_150 : decode cX7_letCome 150 = .ok (.if_icmp .lt 15, 3) := by decide +kernel
theorem dX7_letCome_153 : decode cX7_letCome 153 = .ok (.aload_n 0, 1) := by decide +kernel
theorem dX7_letCome_154 : decode cX7_letCome 154 = .ok (.iconst 1, 1) := by decide +kernel
theorem dX7_letCome_155 : decode cX7_letCome 155 = .ok (.aload 5, 2) := by decide +kernel
theorem dX7_letCome_157 : decode cX7_letCome 157 = .ok (.iload_n 1, 1) := by decide +kernel
theorem dX7_letCome_158 : decode cX7_letCome 158 = .ok (.invokevirtual 158, 3) := by decide +kernel
theorem dX7_letCome_161 : decode cX7_letCome 161 = .ok (.invokevirtual 288, 3) := by decide +kernel
theorem dX7_letCome_164 : decode cX7_letCome 164 = .ok (.ireturn, 1) := by decide +kernel
theorem dX7_letCome_165 : decode cX7_letCome 165 = .ok (.aload 5, 2) := by decide +kernel
theorem dX7_letCome_167 : decode cX7_letCome 167 = .ok (.iload_n 1, 1) := by decide +kernel
theorem dX7_letCome_168 : decode cX7_letCome 168 = .ok (.iload_n 2, 1) := by decide +kernel
theorem dX7_letCome_169 : decode cX7_letCome 169 = .ok (.iload_n 3, 1) := by decide +kernel
theorem dX7_letCome_170 : decode cX7_letCome 170 = .ok (.iload 4, 2) := by decide +kernel
theorem dX7_letCome_172 : decode cX7_letCome 172 = .ok (.invokevirtual 297, 3) := by decide +kernel
theorem dX7_letCome_175 : decode cX7_letCome 175 = .ok (.aload_n 0, 1) := by decide +kernel
theorem dX7_letCome_176 : decode cX7_letCome 176 = .ok (.getfield 12, 3) := by decide +kernel
theorem dX7_letCome_179 : decode cX7_letCome 179 = .ok (.dup, 1) := by decide +kernel
theorem dX7_letCome_180 : decode cX7_letCome 180 = .ok (.getfield 245, 3) := by decide +kernel
theorem dX7_letCome_183 : decode cX7_letCome 183 = .ok (.iconst 1, 1) := by decide +kernel
theorem dX7_letCome_184 : decode cX7_letCome 184 = .ok (.iadd, 1) := by decide +kernel
theorem dX7_letCome_185 : decode cX7_letCome 185 = .ok (.putfield 245, 3) := by decide +kernel
theorem dX7_letCome_188 : decode cX7_letCome 188 = .ok (.aload 5, 2) := by decide +kernel
theorem dX7_letCome_190 : decode cX7_letCome 190 = .ok (.getfield 118, 3) := by decide +kernel
theorem dX7_letCome_193 : decode cX7_letCome 193 = .ok (.iconst 1, 1) := by decide +kernel
theorem dX7_letCome_194 : decode cX7_letCome 194 = .ok (.isub, 1) := by decide +kernel
theorem dX7_letCome_195 : decode cX7_letCome 195 = .ok (.ireturn, 1) := by decide +kernel
theorem dX7_makePrimed_0 : decode cX7_makePrimed 0 = .ok (.aload_n 0, 1) := by decide +kernel
theorem dX7_makePrimed_1 : decode cX7_makePrimed 1 = .ok (.getfield 12, 3) := by decide +kernel
theorem dX7_makePrimed_4 : decode cX7_makePrimed 4 = .ok (.getfield 114, 3) := by decide +kernel
theorem dX7_makePrimed_7 : decode cX7_makePrimed 7 = .ok (.iload_n 1, 1) := by decide +kernel
theorem dX7_makePrimed_8 : decode cX7_makePrimed 8 = .ok (.invokevirtual 124, 3) := by decide +kernel
theorem dX7_makePrimed_11 : decode cX7_makePrimed 11 = .ok (.ifCond .ne 5, 3) := by decide +kernel
theorem dX7_makePrimed_14 : decode cX7_makePrimed 14 = .ok (.iconst (-1), 1) := by decide +kernel
theorem dX7_makePrimed_15 : decode cX7_makePrimed 15 = .ok (.ireturn, 1) := by decide +kernel
theorem dX7_makePrimed_16 : decode cX7_makePrimed 16 = .ok (.aload_n 0, 1) := by decide +kernel
theorem dX7_makePrimed_17 : decode cX7_makePrimed 17 = .ok (.getfield 12, 3) := by decide +kernel
theorem dX7_makePrimed_20 : decode cX7_makePrimed 20 = .ok (.getfield 114, 3) := by decide +kernel
theorem dX7_makePrimed_23 : decode cX7_makePrimed 23 = .ok (.getfield 146, 3) := by decide +kernel
theorem dX7_makePrimed_26 : decode cX7_makePrimed 26 = .ok (.iload_n 1, 1) := by decide +kernel
theorem dX7_makePrimed_27 : decode cX7_makePrimed 27 = .ok (.invokevirtual 132, 3) := by decide +kernel
theorem dX7_makePrimed_30 : decode cX7_makePrimed 30 = .ok (.ifCond .eq 10, 3) := by decide +kernel
theorem dX7_makePrimed_33 : decode cX7_makePrimed 33 = .ok (.aload_n 0, 1) := by decide +kernel
theorem dX7_makePrimed_34 : decode cX7_makePrimed 34 = .ok (.iconst 5, 1) := by decide +kernel
theorem dX7_makePrimed_35 : decode cX7_makePrimed 35 = .ok (.iload_n 1, 1) := by decide +kernel
theorem dX7_makePrimed_36 : decode cX7_makePrimed 36 = .ok (.invokevirtual 288, 3) := by decide +kernel
theorem dX7_makePrimed_39 : decode cX7_makePrimed 39 = .ok (.ireturn, 1) := by decide +kernel
theorem dX7_makePrimed_40 : decode cX7_makePrimed 40 = .ok (.aload_n 0, 1) := by decide +kernel
theorem dX7_makePrimed_41 : decode cX7_makePrimed 41 = .ok (.getfield 12, 3) := by decide +kernel
theorem dX7_makePrimed_44 : decode cX7_makePrimed 44 = .ok (.getfield 261, 3) := by decide +kernel
theorem dX7_makePrimed_47 : decode cX7_makePrimed 47 = .ok (.ifCond .ne 17, 3) := by decide +kernel
theorem dX7_makePrimed_50 : decode cX7_makePrimed 50 = .ok (.aload_n 0, 1) := by decide +kernel
theorem dX7_makePrimed_51 : decode cX7_makePrimed 51 = .ok (.bipush 6, 2) := by decide +kernel
theorem dX7_makePrimed_53 : decode cX7_makePrimed 53 = .ok (.aload_n 0, 1) := by decide +kernel
theorem dX7_makePrimed_54 : decode cX7_makePrimed 54 = .ok (.getfield 12, 3) := by decide +kernel
theorem dX7_makePrimed_57 : decode cX7_makePrimed 57 = .ok (.getfield 228, 3) := by decide +kernel
theorem dX7_makePrimed_60 : decode cX7_makePrimed 60 = .ok (.invokevirtual 288, 3) := by decide +kernel
theorem dX7_makePrimed_63 : decode cX7_makePrimed 63 = .ok (.ireturn, 1) := by decide +kernel
theorem dX7_makePrimed_64 : decode cX7_makePrimed 64 = .ok (.aload_n 0, 1) := by decide +kernel
theorem dX7_makePrimed_65 : decode cX7_makePrimed 65 = .ok (.getfield 12, 3) := by decide +kernel
theorem dX7_makePrimed_68 : decode cX7_makePrimed 68 = .ok (.getfield 114, 3) := by decide +kernel
theorem dX7_makePrimed_71 : decode cX7_makePrimed 71 = .ok (.getfield 146, 3) := by decide +kernel
theorem dX7_makePrimed_74 : decode cX7_makePrimed 74 = .ok (.iload_n 1, 1) := by decide +kernel
theorem dX7_makePrimed_75 : decode cX7_makePrimed 75 = .ok (.iconst 1, 1) := by decide +kernel
theorem dX7_makePrimed_76 : decode cX7_makePrimed 76 = .ok (.invokevirtual 301, 3) := by decide +kernel
theorem dX7_makePrimed_79 : decode cX7_makePrimed 79 = .ok (.aload_n 0, 1) := by decide +kernel
theorem dX7_makePrimed_80 : decode cX7_makePrimed 80 = .ok (.getfield 12, 3) := by decide +kernel
theorem dX7_makePrimed_83 : decode cX7_makePrimed 83 = .ok (.dup, 1) := by decide +kernel
theorem dX7_makePrimed_84 : decode cX7_makePrimed 84 = .ok (.getfield 261, 3) := by decide +kernel
theorem dX7_makePrimed_87 : decode cX7_makePrimed 87 = .ok (.iconst 1, 1) := by decide +kernel
theorem dX7_makePrimed_88 : decode cX7_makePrimed 88 = .ok (.isub, 1) := by decide +kernel
theorem dX7_makePrimed_89 : decode cX7_makePrimed 89 = .ok (.putfield 261, 3) := by decide +kernel
theorem dX7_makePrimed_92 : decode cX7_makePrimed 92 = .ok (.aload_n 0, 1) := by decide +kernel
theorem dX7_makePrimed_93 : decode cX7_makePrimed 93 = .ok (.getfield 12, 3) := by decide +kernel
theorem dX7_makePrimed_96 : decode cX7_makePrimed 96 = .ok (.getfield 261, 3) := by decide +kernel
theorem dX7_makePrimed_99 : decode cX7_makePrimed 99 = .ok (.ireturn, 1) := by decide +kernel
theorem dX7_letGo_0 : decode cX7_letGo 0 = .ok (.aload_n 0, 1) := by decide +kernel
theorem dX7_letGo_1 : decode cX7_letGo 1 = .ok (.getfield 12, 3) := by decide +kernel
theorem dX7_letGo_4 : decode cX7_letGo 4 = .ok (.getfield 114, 3) := by decide +kernel
theorem dX7_letGo_7 : decode cX7_letGo 7 = .ok (.iload_n 1, 1) := by decide +kernel
theorem dX7_letGo_8 : decode cX7_letGo 8 = .ok (.invokevirtual 124, 3) := by decide +kernel
theorem dX7_letGo_11 : decode cX7_letGo 11 = .ok (.ifCond .ne 5, 3) := by decide +kernel
theorem dX7_letGo_14 : decode cX7_letGo 14 = .ok (.iconst (-1), 1) := by decide +kernel
theorem dX7_letGo_15 : decode cX7_letGo 15 = .ok (.ireturn, 1) := by decide +kernel
theorem dX7_letGo_16 : decode cX7_letGo 16 = .ok (.aload_n 0, 1) := by decide +kernel
theorem dX7_letGo_17 : decode cX7_letGo 17 = .ok (.getfield 12, 3) := by decide +kernel
theorem dX7_letGo_20 : decode cX7_letGo 20 = .ok (.getfield 114, 3) := by decide +kernel
theorem dX7_letGo_23 : decode cX7_letGo 23 = .ok (.iload_n 1, 1) := by decide +kernel
theorem dX7_letGo_24 : decode cX7_letGo 24 = .ok (.invokevirtual 305, 3) := by decide +kernel
theorem dX7_letGo_27 : decode cX7_letGo 27 = .ok (.aload_n 0, 1) := by decide +kernel
theorem dX7_letGo_28 : decode cX7_letGo 28 = .ok (.getfield 12, 3) := by decide +kernel
theorem dX7_letGo_31 : decode cX7_letGo 31 = .ok (.dup, 1) := by decide +kernel
theorem dX7_letGo_32 : decode cX7_letGo 32 = .ok (.getfield 248, 3) := by decide +kernel
theorem dX7_letGo_35 : decode cX7_letGo 35 = .ok (.iconst 1, 1) := by decide +kernel
theorem dX7_letGo_36 : decode cX7_letGo 36 = .ok (.iadd, 1) := by decide +kernel
theorem dX7_letGo_37 : decode cX7_letGo 37 = .ok (.putfield 248, 3) := by decide +kernel
theorem dX7_letGo_40 : decode cX7_letGo 40 = .ok (.aload_n 0, 1) := by decide +kernel
theorem dX7_letGo_41 : decode cX7_letGo 41 = .ok (.getfield 12, 3) := by decide +kernel
theorem dX7_letGo_44 : decode cX7_letGo 44 = .ok (.getfield 114, 3) := by decide +kernel
theorem dX7_letGo_47 : decode cX7_letGo 47 = .ok (.getfield 118, 3) := by decide +kernel
theorem dX7_letGo_50 : decode cX7_letGo 50 = .ok (.ireturn, 1) := by decide +kernel
theorem dX7_drainGroans_0 : decode cX7_drainGroans 0 = .ok (.iload_n 1, 1) := by decide +kernel
theorem dX7_drainGroans_1 : decode cX7_drainGroans 1 = .ok (.iconst 1, 1) := by decide +kernel
theorem dX7_drainGroans_2 : decode cX7_drainGroans 2 = .ok (.bipush 50, 2) := by decide +kernel
theorem dX7_drainGroans_4 : decode cX7_drainGroans 4 = .ok (.invokestatic 173, 3) := by decide +kernel
theorem dX7_drainGroans_7 : decode cX7_drainGroans 7 = .ok (.ifCond .ne 6, 3) := by decide +kernel
theorem dX7_drainGroans_10 : decode cX7_drainGroans 10 = .ok (.bipush (-2), 2) := by decide +kernel
theorem dX7_drainGroans_12 : decode cX7_drainGroans 12 = .ok (.ireturn, 1) := by decide +kernel
theorem dX7_drainGroans_13 : decode cX7_drainGroans 13 = .ok (.aload_n 0, 1) := by decide +kernel
theorem dX7_drainGroans_14 : decode cX7_drainGroans 14 = .ok (.getfield 12, 3) := by decide +kernel
theorem dX7_drainGroans_17 : decode cX7_drainGroans 17 = .ok (.getfield 228, 3) := by decide +kernel
theorem dX7_drainGroans_20 : decode cX7_drainGroans 20 = .ok (.iload_n 1, 1) := by decide +kernel
theorem dX7_drainGroans_21 : decode cX7_drainGroans 21 = .ok (.if_icmp .ge 17, 3) := by decide +kernel
theorem dX7_drainGroans_24 : decode cX7_drainGroans 24 = .ok (.aload_n 0, 1) := by decide +kernel
theorem dX7_drainGroans_25 : decode cX7_drainGroans 25 = .ok (.bipush 7, 2) := by decide +kernel
theorem dX7_drainGroans_27 : decode cX7_drainGroans 27 = .ok (.aload_n 0, 1) := by decide +kernel
theorem dX7_drainGroans_28 : decode cX7_drainGroans 28 = .ok (.getfield 12, 3) := by decide +kernel
theorem dX7_drainGroans_31 : decode cX7_drainGroans 31 = .ok (.getfield 228, 3) := by decide +kernel
theorem dX7_drainGroans_34 : decode cX7_drainGroans 34 = .ok (.invokevirtual 288, 3) := by decide +kernel
theorem dX7_drainGroans_37 : decode cX7_drainGroans 37 = .ok (.ireturn, 1) := by decide +kernel
theorem dX7_drainGroans_38 : decode cX7_drainGroans 38 = .ok (.aload_n 0, 1) := by decide +kernel
theorem dX7_drainGroans_39 : decode cX7_drainGroans 39 = .ok (.getfield 12, 3) := by decide +kernel
theorem dX7_drainGroans_42 : decode cX7_drainGroans 42 = .ok (.dup, 1) := by decide +kernel
theorem dX7_drainGroans_43 : decode cX7_drainGroans 43 = .ok (.getfield 228, 3) := by decide +kernel
theorem dX7_drainGroans_46 : decode cX7_drainGroans 46 = .ok (.iload_n 1, 1) := by decide +kernel
theorem dX7_drainGroans_47 : decode cX7_drainGroans 47 = .ok (.isub, 1) := by decide +kernel
theorem dX7_drainGroans_48 : decode cX7_drainGroans 48 = .ok (.putfield 228, 3) := by decide +kernel
theorem dX7_drainGroans_51 : decode cX7_drainGroans 51 = .ok (.aload_n 0, 1) := by decide +kernel
theorem dX7_drainGroans_52 : decode cX7_drainGroans 52 = .ok (.getfield 12, 3) := by decide +kernel
theorem dX7_drainGroans_55 : decode cX7_drainGroans 55 = .ok (.dup, 1) := by decide +kernel
theorem dX7_drainGroans_56 : decode cX7_drainGroans 56 = .ok (.getfield 267, 3) := by decide +kernel
theorem dX7_drainGroans_59 : decode cX7_drainGroans 59 = .ok (.iload_n 1, 1) := by decide +kernel
theorem dX7_drainGroans_60 : decode cX7_drainGroans 60 = .ok (.iadd, 1) := by decide +kernel
theorem dX7_drainGroans_61 : decode cX7_drainGroans 61 = .ok (.putfield 267, 3) := by decide +kernel
theorem dX7_drainGroans_64 : decode cX7_drainGroans 64 = .ok (.aload_n 0, 1) := by decide +kernel
theorem dX7_drainGroans_65 : decode cX7_drainGroans 65 = .ok (.getfield 12, 3) := by decide +kernel
theorem dX7_drainGroans_68 : decode cX7_drainGroans 68 = .ok (.bipush 9, 2) := by decide +kernel
theorem dX7_drainGroans_70 : decode cX7_drainGroans 70 = .ok (.aload_n 0, 1) := by decide +kernel
theorem dX7_drainGroans_71 : decode cX7_drainGroans 71 = .ok (.getfield 12, 3) := by decide +kernel
theorem dX7_drainGroans_74 : decode cX7_drainGroans 74 = .ok (.getfield 261, 3) := by decide +kernel
theorem dX7_drainGroans_77 : decode cX7_drainGroans 77 = .ok (.iload_n 1, 1) := by decide +kernel
theorem dX7_drainGroans_78 : decode cX7_drainGroans 78 = .ok (.bipush 10, 2) := by decide +kernel
theorem dX7_drainGroans_80 : decode cX7_drainGroans 80 = .ok (.idiv, 1) := by decide +kernel
theorem dX7_drainGroans_81 : decode cX7_drainGroans 81 = .ok (.iadd, 1) := by decide +kernel
theorem dX7_drainGroans_82 : decode cX7_drainGroans 82 = .ok (.invokestatic 237, 3) := by decide +kernel
theorem dX7_drainGroans_85 : decode cX7_drainGroans 85 = .ok (.putfield 261, 3) := by decide +kernel
theorem dX7_drainGroans_88 : decode cX7_drainGroans 88 = .ok (.aload_n 0, 1) := by decide +kernel
theorem dX7_drainGroans_89 : decode cX7_drainGroans 89 = .ok (.getfield 12, 3) := by decide +kernel
theorem dX7_drainGroans_92 : decode cX7_drainGroans 92 = .ok (.getfield 261, 3) := by decide +kernel
theorem dX7_drainGroans_95 : decode cX7_drainGroans 95 = .ok (.ireturn, 1) := by decide +kernel
theorem dX7_setStroke_0 : decode cX7_setStroke 0 = .ok (.iload_n 1, 1) := by decide +kernel
theorem dX7_setStroke_1 : decode cX7_setStroke 1 = .ok (.iconst 1, 1) := by decide +kernel
theorem dX7_setStroke_2 : decode cX7_setStroke 2 = .ok (.bipush 10, 2) := by decide +kernel
theorem dX7_setStroke_4 : decode cX7_setStroke 4 = .ok (.invokestatic 173, 3) := by decide +kernel
theorem dX7_setStroke_7 : decode cX7_setStroke 7 = .ok (.ifCond .ne 6, 3) := by decide +kernel
theorem dX7_setStroke_10 : decode cX7_setStroke 10 = .ok (.bipush (-2), 2) := by decide +kernel
theorem dX7_setStroke_12 : decode cX7_setStroke 12 = .ok (.ireturn, 1) := by decide +kernel
theorem dX7_setStroke_13 : decode cX7_setStroke 13 = .ok (.aload_n 0, 1) := by decide +kernel
theorem dX7_setStroke_14 : decode cX7_setStroke 14 = .ok (.getfield 12, 3) := by decide +kernel
theorem dX7_setStroke_17 : decode cX7_setStroke 17 = .ok (.getfield 222, 3) := by decide +kernel
theorem dX7_setStroke_20 : decode cX7_setStroke 20 = .ok (.iload_n 1, 1) := by decide +kernel
theorem dX7_setStroke_21 : decode cX7_setStroke 21 = .ok (.if_icmp .ne 10, 3) := by decide +kernel
theorem dX7_setStroke_24 : decode cX7_setStroke 24 = .ok (.aload_n 0, 1) := by decide +kernel
theorem dX7_setStroke_25 : decode cX7_setStroke 25 = .ok (.iconst 5, 1) := by decide +kernel
theorem dX7_setStroke_26 : decode cX7_setStroke 26 = .ok (.iload_n 1, 1) := by decide +kernel
theorem dX7_setStroke_27 : decode cX7_setStroke 27 = .ok (.invokevirtual 288, 3) := by decide +kernel
theorem dX7_setStroke_30 : decode cX7_setStroke 30 = .ok (.ireturn, 1) := by decide +kernel
theorem dX7_setStroke_31 : decode cX7_setStroke 31 = .ok (.aload_n 0, 1) := by decide +kernel
theorem dX7_setStroke_32 : decode cX7_setStroke 32 = .ok (.getfield 12, 3) := by decide +kernel
theorem dX7_setStroke_35 : decode cX7_setStroke 35 = .ok (.getfield 222, 3) := by decide +kernel
theorem dX7_setStroke_38 : decode cX7_setStroke 38 = .ok (.istore_n 2, 1) := by decide +kernel
theorem dX7_setStroke_39 : decode cX7_setStroke 39 = .ok (.aload_n 0, 1) := by decide +kernel
theorem dX7_setStroke_40 : decode cX7_setStroke 40 = .ok (.getfield 12, 3) := by decide +kernel
theorem dX7_setStroke_43 : decode cX7_setStroke 43 = .ok (.iload_n 1, 1) := by decide +kernel
theorem dX7_setStroke_44 : decode cX7_setStroke 44 = .ok (.putfield 222, 3) := by decide +kernel
theorem dX7_setStroke_47 : decode cX7_setStroke 47 = .ok (.iload_n 2, 1) := by decide +kernel
theorem dX7_setStroke_48 : decode cX7_setStroke 48 = .ok (.ireturn, 1) := by decide +kernel
theorem dX7_setBucket_0 : decode cX7_setBucket 0 = .ok (.iload_n 1, 1) := by decide +kernel
theorem dX7_setBucket_1 : decode cX7_setBucket 1 = .ok (.invokestatic 152, 3) := by decide +kernel
theorem dX7_setBucket_4 : decode cX7_setBucket 4 = .ok (.ifCond .ne 5, 3) := by decide +kernel
theorem dX7_setBucket_7 : decode cX7_setBucket 7 = .ok (.iconst (-1), 1) := by decide +kernel
theorem dX7_setBucket_8 : decode cX7_setBucket 8 = .ok (.ireturn, 1) := by decide +kernel
theorem dX7_setBucket_9 : decode cX7_setBucket 9 = .ok (.iload_n 2, 1) := by decide +kernel
theorem dX7_setBucket_10 : decode cX7_setBucket 10 = .ok (.iconst 1, 1) := by decide +kernel
theorem dX7_setBucket_11 : decode cX7_setBucket 11 = .ok (.iconst 5, 1) := by decide +kernel
theorem dX7_setBucket_12 : decode cX7_setBucket 12 = .ok (.invokestatic 173, 3) := by decide +kernel
theorem dX7_setBucket_15 : decode cX7_setBucket 15 = .ok (.ifCond .ne 6, 3) := by decide +kernel
theorem dX7_setBucket_18 : decode cX7_setBucket 18 = .ok (.bipush (-2), 2) := by decide +kernel
theorem dX7_setBucket_20 : decode cX7_setBucket 20 = .ok (.ireturn, 1) := by decide +kernel
theorem dX7_setBucket_21 : decode cX7_setBucket 21 = .ok (.aload_n 0, 1) := by decide +kernel
theorem dX7_setBucket_22 : decode cX7_setBucket 22 = .ok (.getfield 12, 3) := by decide +kernel
theorem dX7_setBucket_25 : decode cX7_setBucket 25 = .ok (.getfield 155, 3) := by decide +kernel
theorem dX7_setBucket_28 : decode cX7_setBucket 28 = .ok (.iload_n 1, 1) := by decide +kernel
theorem dX7_setBucket_29 : decode cX7_setBucket 29 = .ok (.invokevirtual 132, 3) := by decide +kernel
theorem dX7_setBucket_32 : decode cX7_setBucket 32 = .ok (.istore_n 3, 1) := by decide +kernel
theorem dX7_setBucket_33 : decode cX7_setBucket 33 = .ok (.iload_n 3, 1) := by decide +kernel
theorem dX7_setBucket_34 : decode cX7_setBucket 34 = .ok (.iload_n 2, 1) := by decide +kernel
theorem dX7_setBucket_35 : decode cX7_setBucket 35 = .ok (.if_icmp .ne 10, 3) := by decide +kernel
theorem dX7_setBucket_38 : decode cX7_setBucket 38 = .ok (.aload_n 0, 1) := by decide +kernel
theorem dX7_setBucket_39 : decode cX7_setBucket 39 = .ok (.iconst 5, 1) := by decide +kernel
theorem dX7_setBucket_40 : decode cX7_setBucket 40 = .ok (.iload_n 1, 1) := by decide +kernel
theorem dX7_setBucket_41 : decode cX7_setBucket 41 = .ok (.invokevirtual 288, 3) := by decide +kernel
theorem dX7_setBucket_44 : decode cX7_setBucket 44 = .ok (.ireturn, 1) := by decide +kernel
theorem dX7_setBucket_45 : decode cX7_setBucket 45 = .ok (.aload_n 0, 1) := by decide +kernel
theorem dX7_setBucket_46 : decode cX7_setBucket 46 = .ok (.getfield 12, 3) := by decide +kernel
theorem dX7_setBucket_49 : decode cX7_setBucket 49 = .ok (.getfield 155, 3) := by decide +kernel
theorem dX7_setBucket_52 : decode cX7_setBucket 52 = .ok (.iload_n 1, 1) := by decide +kernel
theorem dX7_setBucket_53 : decode cX7_setBucket 53 = .ok (.iload_n 2, 1) := by decide +kernel
theorem dX7_setBucket_54 : decode cX7_setBucket 54 = .ok (.invokevirtual 301, 3) := by decide +kernel
theorem dX7_setBucket_57 : decode cX7_setBucket 57 = .ok (.iload_n 3, 1) := by decide +kernel
theorem dX7_setBucket_58 : decode cX7_setBucket 58 = .ok (.ireturn, 1) := by decide +kernel
theorem dX7_moveTo_0 : decode cX7_moveTo 0 = .ok (.iload_n 1, 1) := by decide +kernel
theorem dX7_moveTo_1 : decode cX7_moveTo 1 = .ok (.invokestatic 152, 3) := by decide +kernel
theorem dX7_moveTo_4 : decode cX7_moveTo 4 = .ok (.ifCond .ne 5, 3) := by decide +kernel
theorem dX7_moveTo_7 : decode cX7_moveTo 7 = .ok (.iconst (-1), 1) := by decide +kernel
theorem dX7_moveTo_8 : decode cX7_moveTo 8 = .ok (.ireturn, 1) := by decide +kernel
theorem dX7_moveTo_9 : decode cX7_moveTo 9 = .ok (.aload_n 0, 1) := by decide +kernel
theorem dX7_moveTo_10 : decode cX7_moveTo 10 = .ok (.getfield 12, 3) := by decide +kernel
theorem dX7_moveTo_13 : decode cX7_moveTo 13 = .ok (.getfield 234, 3) := by decide +kernel
theorem dX7_moveTo_16 : decode cX7_moveTo 16 = .ok (.iload_n 1, 1) := by decide +kernel
theorem dX7_moveTo_17 : decode cX7_moveTo 17 = .ok (.if_icmp .ne 10, 3) := by decide +kernel
theorem dX7_moveTo_20 : decode cX7_moveTo 20 = .ok (.aload_n 0, 1) := by decide +kernel
theorem dX7_moveTo_21 : decode cX7_moveTo 21 = .ok (.iconst 5, 1) := by decide +kernel
theorem dX7_moveTo_22 : decode cX7_moveTo 22 = .ok (.iload_n 1, 1) := by decide +kernel
theorem dX7_moveTo_23 : decode cX7_moveTo 23 = .ok (.invokevirtual 288, 3) := by decide +kernel
theorem dX7_moveTo_26 : decode cX7_moveTo 26 = .ok (.ireturn, 1) := by decide +kernel
theorem dX7_moveTo_27 : decode cX7_moveTo 27 = .ok (.aload_n 0, 1) := by decide +kernel
theorem dX7_moveTo_28 : decode cX7_moveTo 28 = .ok (.getfield 12, 3) := by decide +kernel
theorem dX7_moveTo_31 : decode cX7_moveTo 31 = .ok (.getfield 234, 3) := by decide +kernel
theorem dX7_moveTo_34 : decode cX7_moveTo 34 = .ok (.istore_n 2, 1) := by decide +kernel
theorem dX7_moveTo_35 : decode cX7_moveTo 35 = .ok (.aload_n 0, 1) := by decide +kernel
theorem dX7_moveTo_36 : decode cX7_moveTo 36 = .ok (.getfield 12, 3) := by decide +kernel
theorem dX7_moveTo_39 : decode cX7_moveTo 39 = .ok (.iload_n 1, 1) := by decide +kernel
theorem dX7_moveTo_40 : decode cX7_moveTo 40 = .ok (.putfield 234, 3) := by decide +kernel
theorem dX7_moveTo_43 : decode cX7_moveTo 43 = .ok (.aload_n 0, 1) := by decide +kernel
theorem dX7_moveTo_44 : decode cX7_moveTo 44 = .ok (.getfield 12, 3) := by decide +kernel
theorem dX7_moveTo_47 : decode cX7_moveTo 47 = .ok (.iconst 0, 1) := by decide +kernel
theorem dX7_moveTo_48 : decode cX7_moveTo 48 = .ok (.putfield 219, 3) := by decide +kernel
theorem dX7_moveTo_51 : decode cX7_moveTo 51 = .ok (.iload_n 2, 1) := by decide +kernel
theorem dX7_moveTo_52 : decode cX7_moveTo 52 = .ok (.ireturn, 1) := by decide +kernel
theorem dX7_makeStrokes_0 : decode cX7_makeStrokes 0 = .ok (.iload_n 1, 1) := by decide +kernel
theorem dX7_makeStrokes_1 : decode cX7_makeStrokes 1 = .ok (.iconst 1, 1) := by decide +kernel
theorem dX7_makeStrokes_2 : decode cX7_makeStrokes 2 = .ok (.bipush 9, 2) := by decide +kernel
theorem dX7_makeStrokes_4 : decode cX7_makeStrokes 4 = .ok (.invokestatic 173, 3) := by decide +kernel
theorem dX7_makeStrokes_7 : decode cX7_makeStrokes 7 = .ok (.ifCond .ne 6, 3) := by decide +kernel
theorem dX7_makeStrokes_10 : decode cX7_makeStrokes 10 = .ok (.bipush (-2), 2) := by decide +kernel
theorem dX7_makeStrokes_12 : decode cX7_makeStrokes 12 = .ok (.ireturn, 1) := by decide +kernel
theorem dX7_makeStrokes_13 : decode cX7_makeStrokes 13 = .ok (.aload_n 0, 1) := by decide +kernel
theorem dX7_makeStrokes_14 : decode cX7_makeStrokes 14 = .ok (.getfield 12, 3) := by decide +kernel
theorem dX7_makeStrokes_17 : decode cX7_makeStrokes 17 = .ok (.getfield 228, 3) := by decide +kernel
theorem dX7_makeStrokes_20 : decode cX7_makeStrokes 20 = .ok (.bipush 40, 2) := by decide +kernel
theorem dX7_makeStrokes_22 : decode cX7_makeStrokes 22 = .ok (.if_icmp .le 17, 3) := by decide +kernel
theorem dX7_makeStrokes_25 : decode cX7_makeStrokes 25 = .ok (.aload_n 0, 1) := by decide +kernel
theorem dX7_makeStrokes_26 : decode cX7_makeStrokes 26 = .ok (.bipush 8, 2) := by decide +kernel
theorem dX7_makeStrokes_28 : decode cX7_makeStrokes 28 = .ok (.aload_n 0, 1) := by decide +kernel
theorem dX7_makeStrokes_29 : decode cX7_makeStrokes 29 = .ok (.getfield 12, 3) := by decide +kernel
theorem dX7_makeStrokes_32 : decode cX7_makeStrokes 32 = .ok (.getfield 228, 3) := by decide +kernel
theorem dX7_makeStrokes_35 : decode cX7_makeStrokes 35 = .ok (.invokevirtual 288, 3) := by decide +kernel
theorem dX7_makeStrokes_38 : decode cX7_makeStrokes 38 = .ok (.ireturn, 1) := by decide +kernel
theorem dX7_makeStrokes_39 : decode cX7_makeStrokes 39 = .ok (.iconst 0, 1) := by decide +kernel
theorem dX7_makeStrokes_40 : decode cX7_makeStrokes 40 = .ok (.istore_n 2, 1) := by decide +kernel
theorem dX7_makeStrokes_41 : decode cX7_makeStrokes 41 = .ok (.iconst 0, 1) := by decide +kernel
theorem dX7_makeStrokes_42 : decode cX7_makeStrokes 42 = .ok (.istore_n 3, 1) := by decide +kernel
theorem dX7_makeStrokes_43 : decode cX7_makeStrokes 43 = .ok (.iload_n 3, 1) := by decide +kernel
theorem dX7_makeStrokes_44 : decode cX7_makeStrokes 44 = .ok (.iload_n 1, 1) := by decide +kernel
theorem dX7_makeStrokes_45 : decode cX7_makeStrokes 45 = .ok (.if_icmp .ge 31, 3) := by decide +kernel
theorem dX7_makeStrokes_48 : decode cX7_makeStrokes 48 = .ok (.aload_n 0, 1) := by decide +kernel
theorem dX7_makeStrokes_49 : decode cX7_makeStrokes 49 = .ok (.getfield 12, 3) := by decide +kernel
theorem dX7_makeStrokes_52 : decode cX7_makeStrokes 52 = .ok (.getfield 228, 3) := by decide +kernel
theorem dX7_makeStrokes_55 : decode cX7_makeStrokes 55 = .ok (.bipush 40, 2) := by decide +kernel
theorem dX7_makeStrokes_57 : decode cX7_makeStrokes 57 = .ok (.if_icmp .gt 19, 3) := by decide +kernel
theorem dX7_makeStrokes_60 : decode cX7_makeStrokes 60 = .ok (.iload_n 2, 1) := by decide +kernel
theorem dX7_makeStrokes_61 : decode cX7_makeStrokes 61 = .ok (.aload_n 0, 1) := by decide +kernel
theorem dX7_makeStrokes_62 : decode cX7_makeStrokes 62 = .ok (.getfield 12, 3) := by decide +kernel
theorem dX7_makeStrokes_65 : decode cX7_makeStrokes 65 = .ok (.invokevirtual 308, 3) := by decide +kernel
theorem dX7_makeStrokes_68 : decode cX7_makeStrokes 68 = .ok (.iadd, 1) := by decide +kernel
theorem dX7_makeStrokes_69 : decode cX7_makeStrokes 69 = .ok (.istore_n 2, 1) := by decide +kernel
theorem dX7_makeStrokes_70 : decode cX7_makeStrokes 70 = .ok (.iinc 3 1, 3) := by decide +kernel
theorem dX7_makeStrokes_73 : decode cX7_makeStrokes 73 = .ok (.goto (-30), 3) := by decide +kernel
theorem dX7_makeStrokes_76 : decode cX7_makeStrokes 76 = .ok (.iload_n 2, 1) := by decide +kernel
theorem dX7_makeStrokes_77 : decode cX7_makeStrokes 77 = .ok (.ireturn, 1) := by decide +kernel
theorem dX7_keepChange_0 : decode cX7_keepChange 0 = .ok (.iload_n 1, 1) := by decide +kernel
theorem dX7_keepChange_1 : decode cX7_keepChange 1 = .ok (.ifCond .lt 10, 3) := by decide +kernel
theorem dX7_keepChange_4 : decode cX7_keepChange 4 = .ok (.aload_n 0, 1) := by decide +kernel
theorem dX7_keepChange_5 : decode cX7_keepChange 5 = .ok (.getfield 26, 3) := by decide +kernel
theorem dX7_keepChange_8 : decode cX7_keepChange 8 = .ok (.invokevirtual 311, 3) := by decide +kernel
theorem dX7_keepChange_11 : decode cX7_keepChange 11 = .ok (.iload_n 1, 1) := by decide +kernel
theorem dX7_keepChange_12 : decode cX7_keepChange 12 = .ok (.ireturn, 1) := by decide +kernel
theorem dX7_refuse_0 : decode cX7_refuse 0 = .ok (.aload_n 0, 1) := by decide +kernel
theorem dX7_refuse_1 : decode cX7_refuse 1 = .ok (.iload_n 1, 1) := by decide +kernel
theorem dX7_refuse_2 : decode cX7_refuse 2 = .ok (.putfield 51, 3) := by decide +kernel
theorem dX7_refuse_5 : decode cX7_refuse 5 = .ok (.aload_n 0, 1) := by decide +kernel
theorem dX7_refuse_6 : decode cX7_refuse 6 = .ok (.iload_n 2, 1) := by decide +kernel
theorem dX7_refuse_7 : decode cX7_refuse 7 = .ok (.putfield 54, 3) := by decide +kernel
theorem dX7_refuse_10 : decode cX7_refuse 10 = .ok (.aload_n 0, 1) := by decide +kernel
theorem dX7_refuse_11 : decode cX7_refuse 11 = .ok (.iconst 0, 1) := by decide +kernel
theorem dX7_refuse_12 : decode cX7_refuse 12 = .ok (.putfield 57, 3) := by decide +kernel
theorem dX7_refuse_15 : decode cX7_refuse 15 = .ok (.aload_n 0, 1) := by decide +kernel
theorem dX7_refuse_16 : decode cX7_refuse 16 = .ok (.iconst 0, 1) := by decide +kernel
theorem dX7_refuse_17 : decode cX7_refuse 17 = .ok (.putfield 60, 3) := by decide +kernel
theorem dX7_refuse_20 : decode cX7_refuse 20 = .ok (.bipush (-5), 2) := by decide +kernel
theorem dX7_refuse_22 : decode cX7_refuse 22 = .ok (.ireturn, 1) := by decide +kernel
theorem dX7_readInput_0 : decode cX7_readInput 0 = .ok (.aload_n 0, 1) := by decide +kernel
theorem dX7_readInput_1 : decode cX7_readInput 1 = .ok (.getfield 43, 3) := by decide +kernel
theorem dX7_readInput_4 : decode cX7_readInput 4 = .ok (.aload_n 0, 1) := by decide +kernel
theorem dX7_readInput_5 : decode cX7_readInput 5 = .ok (.getfield 33, 3) := by decide +kernel
theorem dX7_readInput_8 : decode cX7_readInput 8 = .ok (.invokevirtual 314, 3) := by decide +kernel
theorem dX7_readInput_11 : decode cX7_readInput 11 = .ok (.ifCond .ne 17, 3) := by decide +kernel
theorem dX7_readInput_14 : decode cX7_readInput 14 = .ok (.aload_n 0, 1) := by decide +kernel
theorem dX7_readInput_15 : decode cX7_readInput 15 = .ok (.aload_n 0, 1) := by decide +kernel
theorem dX7_readInput_16 : decode cX7_readInput 16 = .ok (.getfield 43, 3) := by decide +kernel
theorem dX7_readInput_19 : decode cX7_readInput 19 = .ok (.getfield 318, 3) := by decide +kernel
theorem dX7_readInput_22 : decode cX7_readInput 22 = .ok (.putfield 47, 3) := by decide +kernel
theorem dX7_readInput_25 : decode cX7_readInput 25 = .ok (.bipush (-2), 2) := by decide +kernel
theorem dX7_readInput_27 : decode cX7_readInput 27 = .ok (.ireturn, 1) := by decide +kernel
theorem dX7_readInput_28 : decode cX7_readInput 28 = .ok (.aload_n 0, 1) := by decide +kernel
theorem dX7_readInput_29 : decode cX7_readInput 29 = .ok (.getfield 26, 3) := by decide +kernel
theorem dX7_readInput_32 : decode cX7_readInput 32 = .ok (.aload_n 0, 1) := by decide +kernel
theorem dX7_readInput_33 : decode cX7_readInput 33 = .ok (.getfield 12, 3) := by decide +kernel
theorem dX7_readInput_36 : decode cX7_readInput 36 = .ok (.invokevirtual 63, 3) := by decide +kernel
theorem dX7_readInput_39 : decode cX7_readInput 39 = .ok (.aload_n 0, 1) := by decide +kernel
theorem dX7_readInput_40 : decode cX7_readInput 40 = .ok (.invokevirtual 321, 3) := by decide +kernel
theorem dX7_readInput_43 : decode cX7_readInput 43 = .ok (.istore_n 1, 1) := by decide +kernel
theorem dX7_readInput_44 : decode cX7_readInput 44 = .ok (.iload_n 1, 1) := by decide +kernel
theorem dX7_readInput_45 : decode cX7_readInput 45 = .ok (.ifCond .ge 14, 3) := by decide +kernel
theorem dX7_readInput_48 : decode cX7_readInput 48 = .ok (.aload_n 0, 1) := by decide +kernel
theorem dX7_readInput_49 : decode cX7_readInput 49 = .ok (.getfield 26, 3) := by decide +kernel
theorem dX7_readInput_52 : decode cX7_readInput 52 = .ok (.aload_n 0, 1) := by decide +kernel
theorem dX7_readInput_53 : decode cX7_readInput 53 = .ok (.getfield 12, 3) := by decide +kernel
theorem dX7_readInput_56 : decode cX7_readInput 56 = .ok (.invokevirtual 324, 3) := by decide +kernel
theorem dX7_readInput_59 : decode cX7_readInput 59 = .ok (.aload_n 0, 1) := by decide +kernel
theorem dX7_readInput_60 : decode cX7_readInput 60 = .ok (.iload_n 1, 1) := by decide +kernel
theorem dX7_readInput_61 : decode cX7_readInput 61 = .ok (.invokevirtual 71, 3) := by decide +kernel
theorem dX7_readInput_64 : decode cX7_readInput 64 = .ok (.ireturn, 1) := by decide +kernel
theorem dX7_doCommands_0 : decode cX7_doCommands 0 = .ok (.iconst 0, 1) := by decide +kernel
theorem dX7_doCommands_1 : decode cX7_doCommands 1 = .ok (.istore_n 1, 1) := by decide +kernel
theorem dX7_doCommands_2 : decode cX7_doCommands 2 = .ok (.iload_n 1, 1) := by decide +kernel
theorem dX7_doCommands_3 : decode cX7_doCommands 3 = .ok (.aload_n 0, 1) := by decide +kernel
theorem dX7_doCommands_4 : decode cX7_doCommands 4 = .ok (.getfield 43, 3) := by decide +kernel
theorem dX7_doCommands_7 : decode cX7_doCommands 7 = .ok (.getfield 327, 3) := by decide +kernel
theorem dX7_doCommands_10 : decode cX7_doCommands 10 = .ok (.if_icmp .ge 36, 3) := by decide +kernel
theorem dX7_doCommands_13 : decode cX7_doCommands 13 = .ok (.aload_n 0, 1) := by decide +kernel
theorem dX7_doCommands_14 : decode cX7_doCommands 14 = .ok (.iload_n 1, 1) := by decide +kernel
theorem dX7_doCommands_15 : decode cX7_doCommands 15 = .ok (.invokevirtual 328, 3) := by decide +kernel
theorem dX7_doCommands_18 : decode cX7_doCommands 18 = .ok (.istore_n 2, 1) := by decide +kernel
theorem dX7_doCommands_19 : decode cX7_doCommands 19 = .ok (.iload_n 2, 1) := by decide +kernel
theorem dX7_doCommands_20 : decode cX7_doCommands 20 = .ok (.ifCond .ge 20, 3) := by decide +kernel
theorem dX7_doCommands_23 : decode cX7_doCommands 23 = .ok (.aload_n 0, 1) := by decide +kernel
theorem dX7_doCommands_24 : decode cX7_doCommands 24 = .ok (.iload_n 1, 1) := by decide +kernel
theorem dX7_doCommands_25 : decode cX7_doCommands 25 = .ok (.iload_n 2, 1) := by decide +kernel
theorem dX7_doCommands_26 : decode cX7_doCommands 26 = .ok (.bipush (-5), 2) := by decide +kernel
theorem dX7_doCommands_28 : decode cX7_doCommands 28 = .ok (.if_icmp .ne 7, 3) := by decide +kernel
theorem dX7_doCommands_31 : decode cX7_doCommands 31 = .ok (.iconst 1, 1) := by decide +kernel
theorem dX7_doCommands_32 : decode cX7_doCommands 32 = .ok (.goto 4, 3) := by decide +kernel
theorem dX7_doCommands_35 : decode cX7_doCommands 35 = .ok (.iconst 0, 1) := by decide +kernel
theorem dX7_doCommands_36 : decode cX7_doCommands 36 = .ok (.invokevirtual 331, 3) := by decide +kernel
theorem dX7_doCommands_39 : decode cX7_doCommands 39 = .ok (.ireturn, 1) := by decide +kernel
theorem dX7_doCommands_40 : decode cX7_doCommands 40 = .ok (.iinc 1 1, 3) := by decide +kernel
theorem dX7_doCommands_43 : decode cX7_doCommands 43 = .ok (.goto (-41), 3) := by decide +kernel
theorem dX7_doCommands_46 : decode cX7_doCommands 46 = .ok (.aload_n 0, 1) := by decide +kernel
theorem dX7_doCommands_47 : decode cX7_doCommands 47 = .ok (.getfield 43, 3) := by decide +kernel
theorem dX7_doCommands_50 : decode cX7_doCommands 50 = .ok (.getfield 327, 3) := by decide +kernel
theorem dX7_doCommands_53 : decode cX7_doCommands 53 = .ok (.ireturn, 1) := by decide +kernel
theorem dX7_doCommand_0 : decode cX7_doCommand 0 = .ok (.aload_n 0, 1) := by decide +kernel
theorem dX7_doCommand_1 : decode cX7_doCommand 1 = .ok (.getfield 43, 3) := by decide +kernel
theorem dX7_doCommand_4 : decode cX7_doCommand 4 = .ok (.iload_n 1, 1) := by decide +kernel
theorem dX7_doCommand_5 : decode cX7_doCommand 5 = .ok (.iconst 0, 1) := by decide +kernel
theorem dX7_doCommand_6 : decode cX7_doCommand 6 = .ok (.invokevirtual 335, 3) := by decide +kernel
theorem dX7_doCommand_9 : decode cX7_doCommand 9 = .ok (.istore_n 2, 1) := by decide +kernel
theorem dX7_doCommand_10 : decode cX7_doCommand 10 = .ok (.aload_n 0, 1) := by decide +kernel
theorem dX7_doCommand_11 : decode cX7_doCommand 11 = .ok (.getfield 43, 3) := by decide +kernel
theorem dX7_doCommand_14 : decode cX7_doCommand 14 = .ok (.iload_n 1, 1) := by decide +kernel
theorem dX7_doCommand_15 : decode cX7_doCommand 15 = .ok (.iconst 1, 1) := by decide +kernel
theorem dX7_doCommand_16 : decode cX7_doCommand 16 = .ok (.invokevirtual 335, 3) := by decide +kernel
theorem dX7_doCommand_19 : decode cX7_doCommand 19 = .ok (.istore_n 3, 1) := by decide +kernel
theorem dX7_doCommand_20 : decode cX7_doCommand 20 = .ok (.aload_n 0, 1) := by decide +kernel
theorem dX7_doCommand_21 : decode cX7_doCommand 21 = .ok (.getfield 43, 3) := by decide +kernel
theorem dX7_doCommand_24 : decode cX7_doCommand 24 = .ok (.getfield 338, 3) := by decide +kernel
theorem dX7_doCommand_27 : decode cX7_doCommand 27 = .ok (.iload_n 1, 1) := by decide +kernel
theorem dX7_doCommand_28 : decode cX7_doCommand 28 = .ok (.invokevirtual 132, 3) := by decide +kernel
theorem dX7_doCommand_31 : decode cX7_doCommand 31 = .ok (.tableswitch 113 0 7 #[45, 70, 76, 82, 88, 94, 101, 107], 45) := by decide +kernel
theorem dX7_doCommand_76 : decode cX7_doCommand 76 = .ok (.aload_n 0, 1) := by decide +kernel
theorem dX7_doCommand_77 : decode cX7_doCommand 77 = .ok (.iload_n 2, 1) := by decide +kernel
theorem dX7_doCommand_78 : decode cX7_doCommand 78 = .ok (.iload_n 3, 1) := by decide +kernel
theorem dX7_doCommand_79 : decode cX7_doCommand 79 = .ok (.aload_n 0, 1) := by decide +kernel
theorem dX7_doCommand_80 : decode cX7_doCommand 80 = .ok (.getfield 43, 3) := by decide +kernel
theorem dX7_doCommand_83 : decode cX7_doCommand 83 = .ok (.iload_n 1, 1) := by decide +kernel
theorem dX7_doCommand_84 : decode cX7_doCommand 84 = .ok (.iconst 2, 1) := by decide +kernel
theorem dX7_doCommand_85 : decode cX7_doCommand 85 = .ok (.invokevirtual 335, 3) := by decide +kernel
theorem dX7_doCommand_88 : decode cX7_doCommand 88 = .ok (.aload_n 0, 1) := by decide +kernel
theorem dX7_doCommand_89 : decode cX7_doCommand 89 = .ok (.getfield 43, 3) := by decide +kernel
theorem dX7_doCommand_92 : decode cX7_doCommand 92 = .ok (.iload_n 1, 1) := by decide +kernel
theorem dX7_doCommand_93 : decode cX7_doCommand 93 = .ok (.iconst 3, 1) := by decide +kernel
theorem dX7_doCommand_94 : decode cX7_doCommand 94 = .ok (.invokevirtual 335, 3) := by decide +kernel
theorem dX7_doCommand_97 : decode cX7_doCommand 97 = .ok (.invokevirtual 67, 3) := by decide +kernel
theorem dX7_doCommand_100 : decode cX7_doCommand 100 = .ok (.ireturn, 1) := by decide +kernel
theorem dX7_doCommand_101 : decode cX7_doCommand 101 = .ok (.aload_n 0, 1) := by decide +kernel
theorem dX7_doCommand_102 : decode cX7_doCommand 102 = .ok (.iload_n 2, 1) := by decide +kernel
theorem dX7_doCommand_103 : decode cX7_doCommand 103 = .ok (.invokevirtual 75, 3) := by decide +kernel
theorem dX7_doCommand_106 : decode cX7_doCommand 106 = .ok (.ireturn, 1) := by decide +kernel
theorem dX7_doCommand_107 : decode cX7_doCommand 107 = .ok (.aload_n 0, 1) := by decide +kernel
theorem dX7_doCommand_108 : decode cX7_doCommand 108 = .ok (.iload_n 2, 1) := by decide +kernel
theorem dX7_doCommand_109 : decode cX7_doCommand 109 = .ok (.invokevirtual 78, 3) := by decide +kernel
theorem dX7_doCommand_112 : decode cX7_doCommand 112 = .ok (.ireturn, 1) := by decide +kernel
theorem dX7_doCommand_113 : decode cX7_doCommand 113 = .ok (.aload_n 0, 1) := by decide +kernel
theorem dX7_doCommand_114 : decode cX7_doCommand 114 = .ok (.iload_n 2, 1) := by decide +kernel
theorem dX7_doCommand_115 : decode cX7_doCommand 115 = .ok (.invokevirtual 81, 3) := by decide +kernel
theorem dX7_doCommand_118 : decode cX7_doCommand 118 = .ok (.ireturn, 1) := by decide +kernel
theorem dX7_doCommand_119 : decode cX7_doCommand 119 = .ok (.aload_n 0, 1) := by decide +kernel
theorem dX7_doCommand_120 : decode cX7_doCommand 120 = .ok (.iload_n 2, 1) := by decide +kernel
theorem dX7_doCommand_121 : decode cX7_doCommand 121 = .ok (.invokevirtual 84, 3) := by decide +kernel
theorem dX7_doCommand_124 : decode cX7_doCommand 124 = .ok (.ireturn, 1) := by decide +kernel
theorem dX7_doCommand_125 : decode cX7_doCommand 125 = .ok (.aload_n 0, 1) := by decide +kernel
theorem dX7_doCommand_126 : decode cX7_doCommand 126 = .ok (.iload_n 2, 1) := by decide +kernel
theorem dX7_doCommand_127 : decode cX7_doCommand 127 = .ok (.iload_n 3, 1) := by decide +kernel
theorem dX7_doCommand_128 : decode cX7_doCommand 128 = .ok (.invokevirtual 87, 3) := by decide +kernel
theorem dX7_doCommand_131 : decode cX7_doCommand 131 = .ok (.ireturn, 1) := by decide +kernel
theorem dX7_doCommand_132 : decode cX7_doCommand 132 = .ok (.aload_n 0, 1) := by decide +kernel
theorem dX7_doCommand_133 : decode cX7_doCommand 133 = .ok (.iload_n 2, 1) := by decide +kernel
theorem dX7_doCommand_134 : decode cX7_doCommand 134 = .ok (.invokevirtual 91, 3) := by decide +kernel
theorem dX7_doCommand_137 : decode cX7_doCommand 137 = .ok (.ireturn, 1) := by decide +kernel
theorem dX7_doCommand_138 : decode cX7_doCommand 138 = .ok (.aload_n 0, 1) := by decide +kernel
theorem dX7_doCommand_139 : decode cX7_doCommand 139 = .ok (.iload_n 2, 1) := by decide +kernel
theorem dX7_doCommand_140 : decode cX7_doCommand 140 = .ok (.invokevirtual 94, 3) := by decide +kernel
theorem dX7_doCommand_143 : decode cX7_doCommand 143 = .ok (.ireturn, 1) := by decide +kernel
theorem dX7_doCommand_144 : decode cX7_doCommand 144 = .ok (.bipush (-2), 2) := by decide +kernel
theorem dX7_doCommand_146 : decode cX7_doCommand 146 = .ok (.ireturn, 1) := by decide +kernel
theorem dX7_refuseCommand_0 : decode cX7_refuseCommand 0 = .ok (.iload_n 2, 1) := by decide +kernel
theorem dX7_refuseCommand_1 : decode cX7_refuseCommand 1 = .ok (.ifCond .eq 10, 3) := by decide +kernel
theorem dX7_refuseCommand_4 : decode cX7_refuseCommand 4 = .ok (.aload_n 0, 1) := by decide +kernel
theorem dX7_refuseCommand_5 : decode cX7_refuseCommand 5 = .ok (.getfield 51, 3) := by decide +kernel
theorem dX7_refuseCommand_8 : decode cX7_refuseCommand 8 = .ok (.goto 4, 3) := by decide +kernel
theorem dX7_refuseCommand_11 : decode cX7_refuseCommand 11 = .ok (.iconst 0, 1) := by decide +kernel
theorem dX7_refuseCommand_12 : decode cX7_refuseCommand 12 = .ok (.istore_n 3, 1) := by decide +kernel
theorem dX7_refuseCommand_13 : decode cX7_refuseCommand 13 = .ok (.iload_n 2, 1) := by decide +kernel
theorem dX7_refuseCommand_14 : decode cX7_refuseCommand 14 = .ok (.ifCond .eq 10, 3) := by decide +kernel
theorem dX7_refuseCommand_17 : decode cX7_refuseCommand 17 = .ok (.aload_n 0, 1) := by decide +kernel
theorem dX7_refuseCommand_18 : decode cX7_refuseCommand 18 = .ok (.getfield 54, 3) := by decide +kernel
theorem dX7_refuseCommand_21 : decode cX7_refuseCommand 21 = .ok (.goto 4, 3) := by decide +kernel
theorem dX7_refuseCommand_24 : decode cX7_refuseCommand 24 = .ok (.iconst 0, 1) := by decide +kernel
theorem dX7_refuseCommand_25 : decode cX7_refuseCommand 25 = .ok (.istore 4, 2) := by decide +kernel
theorem dX7_refuseCommand_27 : decode cX7_refuseCommand 27 = .ok (.aload_n 0, 1) := by decide +kernel
theorem dX7_refuseCommand_28 : decode cX7_refuseCommand 28 = .ok (.bipush 9, 2) := by decide +kernel
theorem dX7_refuseCommand_30 : decode cX7_refuseCommand 30 = .ok (.iload_n 1, 1) := by decide +kernel
theorem dX7_refuseCommand_31 : decode cX7_refuseCommand 31 = .ok (.invokevirtual 288, 3) := by decide +kernel
theorem dX7_refuseCommand_34 : decode cX7_refuseCommand 34 = .ok (.pop, 1) := by decide +kernel
theorem dX7_refuseCommand_35 : decode cX7_refuseCommand 35 = .ok (.aload_n 0, 1) := by decide +kernel
theorem dX7_refuseCommand_36 : decode cX7_refuseCommand 36 = .ok (.iload_n 3, 1) := by decide +kernel
theorem dX7_refuseCommand_37 : decode cX7_refuseCommand 37 = .ok (.putfield 57, 3) := by decide +kernel
theorem dX7_refuseCommand_40 : decode cX7_refuseCommand 40 = .ok (.aload_n 0, 1) := by decide +kernel
theorem dX7_refuseCommand_41 : decode cX7_refuseCommand 41 = .ok (.iload 4, 2) := by decide +kernel
theorem dX7_refuseCommand_43 : decode cX7_refuseCommand 43 = .ok (.putfield 60, 3) := by decide +kernel
theorem dX7_refuseCommand_46 : decode cX7_refuseCommand 46 = .ok (.bipush (-5), 2) := by decide +kernel
theorem dX7_refuseCommand_48 : decode cX7_refuseCommand 48 = .ok (.ireturn, 1) := by decide +kernel
theorem dX7_leastDepth_0 : decode cX7_leastDepth 0 = .ok (.aload_n 0, 1) := by decide +kernel
theorem dX7_leastDepth_1 : decode cX7_leastDepth 1 = .ok (.getfield 12, 3) := by decide +kernel
theorem dX7_leastDepth_4 : decode cX7_leastDepth 4 = .ok (.getfield 114, 3) := by decide +kernel
theorem dX7_leastDepth_7 : decode cX7_leastDepth 7 = .ok (.iload_n 1, 1) := by decide +kernel
theorem dX7_leastDepth_8 : decode cX7_leastDepth 8 = .ok (.iconst 0, 1) := by decide +kernel
theorem dX7_leastDepth_9 : decode cX7_leastDepth 9 = .ok (.invokevirtual 180, 3) := by decide +kernel
theorem dX7_leastDepth_12 : decode cX7_leastDepth 12 = .ok (.istore_n 2, 1) := by decide +kernel
theorem dX7_leastDepth_13 : decode cX7_leastDepth 13 = .ok (.iload_n 2, 1) := by decide +kernel
theorem dX7_leastDepth_14 : decode cX7_leastDepth 14 = .ok (.iconst (-1), 1) := by decide +kernel
theorem dX7_leastDepth_15 : decode cX7_leastDepth 15 = .ok (.if_icmp .ne 7, 3) := by decide +kernel
theorem dX7_leastDepth_18 : decode cX7_leastDepth 18 = .ok (.iconst 0, 1) := by decide +kernel
theorem dX7_leastDepth_19 : decode cX7_leastDepth 19 = .ok (.goto 17, 3) := by decide +kernel
theorem dX7_leastDepth_22 : decode cX7_leastDepth 22 = .ok (.aload_n 0, 1) := by decide +kernel
theorem dX7_leastDepth_23 : decode cX7_leastDepth 23 = .ok (.getfield 12, 3) := by decide +kernel
theorem dX7_leastDepth_26 : decode cX7_leastDepth 26 = .ok (.getfield 114, 3) := by decide +kernel
theorem dX7_leastDepth_29 : decode cX7_leastDepth 29 = .ok (.getfield 137, 3) := by decide +kernel
theorem dX7_leastDepth_32 : decode cX7_leastDepth 32 = .ok (.iload_n 2, 1) := by decide +kernel
theorem dX7_leastDepth_33 : decode cX7_leastDepth 33 = .ok (.invokevirtual 132, 3) := by decide +kernel
theorem dX7_leastDepth_36 : decode cX7_leastDepth 36 = .ok (.ireturn, 1) := by decide +kernel
theorem dX7_countFunnier_0 : decode cX7_countFunnier 0 = .ok (.iconst 0, 1) := by decide +kernel
theorem dX7_countFunnier_1 : decode cX7_countFunnier 1 = .ok (.istore_n 2, 1) := by decide +kernel
theorem dX7_countFunnier_2 : decode cX7_countFunnier 2 = .ok (.iconst 0, 1) := by decide +kernel
theorem dX7_countFunnier_3 : decode cX7_countFunnier 3 = .ok (.istore_n 3, 1) := by decide +kernel
theorem dX7_countFunnier_4 : decode cX7_countFunnier 4 = .ok (.iload_n 3, 1) := by decide +kernel
theorem dX7_countFunnier_5 : decode cX7_countFunnier 5 = .ok (.aload_n 0, 1) := by decide +kernel
theorem dX7_countFunnier_6 : decode cX7_countFunnier 6 = .ok (.getfield 12, 3) := by decide +kernel
theorem dX7_countFunnier_9 : decode cX7_countFunnier 9 = .ok (.getfield 114, 3) := by decide +kernel
theorem dX7_countFunnier_12 : decode cX7_countFunnier 12 = .ok (.getfield 118, 3) := by decide +kernel
theorem dX7_countFunnier_15 : decode cX7_countFunnier 15 = .ok (.if_icmp .ge 21, 3) := by decide +kernel
theorem dX7_countFunnier_18 : decode cX7_countFunnier 18 = .ok (.aload_n 0, 1) := by decide +kernel
theorem dX7_countFunnier_19 : decode cX7_countFunnier 19 = .ok (.iload_n 3, 1) := by decide +kernel
theorem dX7_countFunnier_20 : decode cX7_countFunnier 20 = .ok (.iload_n 1, 1) := by decide +kernel
theorem dX7_countFunnier_21 : decode cX7_countFunnier 21 = .ok (.invokevirtual 341, 3) := by decide +kernel
theorem dX7_countFunnier_24 : decode cX7_countFunnier 24 = .ok (.ifCond .eq 6, 3) := by decide +kernel
theorem dX7_countFunnier_27 : decode cX7_countFunnier 27 = .ok (.iinc 2 1, 3) := by decide +kernel
theorem dX7_countFunnier_30 : decode cX7_countFunnier 30 = .ok (.iinc 3 1, 3) := by decide +kernel
theorem dX7_countFunnier_33 : decode cX7_countFunnier 33 = .ok (.goto (-29), 3) := by decide +kernel
theorem dX7_countFunnier_36 : decode cX7_countFunnier 36 = .ok (.iload_n 2, 1) := by decide +kernel
theorem dX7_countFunnier_37 : decode cX7_countFunnier 37 = .ok (.ireturn, 1) := by decide +kernel
theorem dX7_isFunnier_0 : decode cX7_isFunnier 0 = .ok (.aload_n 0, 1) := by decide +kernel
theorem dX7_isFunnier_1 : decode cX7_isFunnier 1 = .ok (.getfield 12, 3) := by decide +kernel
theorem dX7_isFunnier_4 : decode cX7_isFunnier 4 = .ok (.iload_n 1, 1) := by decide +kernel
theorem dX7_isFunnier_5 : decode cX7_isFunnier 5 = .ok (.aload_n 0, 1) := by decide +kernel
theorem dX7_isFunnier_6 : decode cX7_isFunnier 6 = .ok (.getfield 12, 3) := by decide +kernel
theorem dX7_isFunnier_9 : decode cX7_isFunnier 9 = .ok (.getfield 228, 3) := by decide +kernel
theorem dX7_isFunnier_12 : decode cX7_isFunnier 12 = .ok (.invokevirtual 192, 3) := by decide +kernel
theorem dX7_isFunnier_15 : decode cX7_isFunnier 15 = .ok (.fstore_n 3, 1) := by decide +kernel
theorem dX7_isFunnier_16 : decode cX7_isFunnier 16 = .ok (.aload_n 0, 1) := by decide +kernel
theorem dX7_isFunnier_17 : decode cX7_isFunnier 17 = .ok (.getfield 12, 3) := by decide +kernel
theorem dX7_isFunnier_20 : decode cX7_isFunnier 20 = .ok (.iload_n 2, 1) := by decide +kernel
theorem dX7_isFunnier_21 : decode cX7_isFunnier 21 = .ok (.aload_n 0, 1) := by decide +kernel
theorem dX7_isFunnier_22 : decode cX7_isFunnier 22 = .ok (.getfield 12, 3) := by decide +kernel
theorem dX7_isFunnier_25 : decode cX7_isFunnier 25 = .ok (.getfield 228, 3) := by decide +kernel
theorem dX7_isFunnier_28 : decode cX7_isFunnier 28 = .ok (.invokevirtual 192, 3) := by decide +kernel
theorem dX7_isFunnier_31 : decode cX7_isFunnier 31 = .ok (.fstore 4, 2) := by decide +kernel
theorem dX7_isFunnier_33 : decode cX7_isFunnier 33 = .ok (.fload_n 3, 1) := by decide +kernel
theorem dX7_isFunnier_34 : decode cX7_isFunnier 34 = .ok (.fload 4, 2) := by decide +kernel
theorem dX7_isFunnier_36 : decode cX7_isFunnier 36 = .ok (.fcmp .l, 1) := by decide +kernel
theorem dX7_isFunnier_37 : decode cX7_isFunnier 37 = .ok (.ifCond .eq 16, 3) := by decide +kernel
theorem dX7_isFunnier_40 : decode cX7_isFunnier 40 = .ok (.fload_n 3, 1) := by decide +kernel
theorem dX7_isFunnier_41 : decode cX7_isFunnier 41 = .ok (.fload 4, 2) := by decide +kernel
theorem dX7_isFunnier_43 : decode cX7_isFunnier 43 = .ok (.fcmp .l, 1) := by decide +kernel
theorem dX7_isFunnier_44 : decode cX7_isFunnier 44 = .ok (.ifCond .le 7, 3) := by decide +kernel
theorem dX7_isFunnier_47 : decode cX7_isFunnier 47 = .ok (.iconst 1, 1) := by decide +kernel
theorem dX7_isFunnier_48 : decode cX7_isFunnier 48 = .ok (.goto 4, 3) := by decide +kernel
theorem dX7_isFunnier_51 : decode cX7_isFunnier 51 = .ok (.iconst 0, 1) := by decide +kernel
theorem dX7_isFunnier_52 : decode cX7_isFunnier 52 = .ok (.ireturn, 1) := by decide +kernel
theorem dX7_isFunnier_53 : decode cX7_isFunnier 53 = .ok (.aload_n 0, 1) := by decide +kernel
theorem dX7_isFunnier_54 : decode cX7_isFunnier 54 = .ok (.getfield 12, 3) := by decide +kernel
theorem dX7_isFunnier_57 : decode cX7_isFunnier 57 = .ok (.getfield 114, 3) := by decide +kernel
theorem dX7_isFunnier_60 : decode cX7_isFunnier 60 = .ok (.getfield 137, 3) := by decide +kernel
theorem dX7_isFunnier_63 : decode cX7_isFunnier 63 = .ok (.iload_n 1, 1) := by decide +kernel
theorem dX7_isFunnier_64 : decode cX7_isFunnier 64 = .ok (.invokevirtual 132, 3) := by decide +kernel
theorem dX7_isFunnier_67 : decode cX7_isFunnier 67 = .ok (.istore 5, 2) := by decide +kernel
theorem dX7_isFunnier_69 : decode cX7_isFunnier 69 = .ok (.aload_n 0, 1) := by decide +kernel
theorem dX7_isFunnier_70 : decode cX7_isFunnier 70 = .ok (.getfield 12, 3) := by decide +kernel
theorem dX7_isFunnier_73 : decode cX7_isFunnier 73 = .ok (.getfield 114, 3) := by decide +kernel
theorem dX7_isFunnier_76 : decode cX7_isFunnier 76 = .ok (.getfield 137, 3) := by decide +kernel
theorem dX7_isFunnier_79 : decode cX7_isFunnier 79 = .ok (.iload_n 2, 1) := by decide +kernel
theorem dX7_isFunnier_80 : decode cX7_isFunnier 80 = .ok (.invokevirtual 132, 3) := by decide +kernel
theorem dX7_isFunnier_83 : decode cX7_isFunnier 83 = .ok (.istore 6, 2) := by decide +kernel
theorem dX7_isFunnier_85 : decode cX7_isFunnier 85 = .ok (.iload 5, 2) := by decide +kernel
theorem dX7_isFunnier_87 : decode cX7_isFunnier 87 = .ok (.iload 6, 2) := by decide +kernel
theorem dX7_isFunnier_89 : decode cX7_isFunnier 89 = .ok (.if_icmp .eq 18, 3) := by decide +kernel
theorem dX7_isFunnier_92 : decode cX7_isFunnier 92 = .ok (.iload 5, 2) := by decide +kernel
theorem dX7_isFunnier_94 : decode cX7_isFunnier 94 = .ok (.iload 6, 2) := by decide +kernel
theorem dX7_isFunnier_96 : decode cX7_isFunnier 96 = .ok (.if_icmp .ge 7, 3) := by decide +kernel
theorem dX7_isFunnier_99 : decode cX7_isFunnier 99 = .ok (.iconst 1, 1) := by decide +kernel
theorem dX7_isFunnier_100 : decode cX7_isFunnier 100 = .ok (.goto 17, 3) := by decide +kernel
theorem dX7_isFunnier_103 : decode cX7_isFunnier 103 = .ok (.iconst 0, 1) := by decide +kernel
theorem dX7_isFunnier_104 : decode cX7_isFunnier 104 = .ok (.goto 13, 3) := by decide +kernel
theorem dX7_isFunnier_107 : decode cX7_isFunnier 107 = .ok (.iload_n 1, 1) := by decide +kernel
theorem dX7_isFunnier_108 : decode cX7_isFunnier 108 = .ok (.iload_n 2, 1) := by decide +kernel
theorem dX7_isFunnier_109 : decode cX7_isFunnier 109 = .ok (.if_icmp .ge 7, 3) := by decide +kernel
theorem dX7_isFunnier_112 : decode cX7_isFunnier 112 = .ok (.iconst 1, 1) := by decide +kernel
theorem dX7_isFunnier_113 : decode cX7_isFunnier 113 = .ok (.goto 4, 3) := by decide +kernel
theorem dX7_isFunnier_116 : decode cX7_isFunnier 116 = .ok (.iconst 0, 1) := by decide +kernel
theorem dX7_isFunnier_117 : decode cX7_isFunnier 117 = .ok (.ireturn, 1) := by decide +kernel
theorem dX7_countFuller_0 : decode cX7_countFuller 0 = .ok (.iconst 0, 1) := by decide +kernel
theorem dX7_countFuller_1 : decode cX7_countFuller 1 = .ok (.istore_n 2, 1) := by decide +kernel
theorem dX7_countFuller_2 : decode cX7_countFuller 2 = .ok (.iconst 0, 1) := by decide +kernel
theorem dX7_countFuller_3 : decode cX7_countFuller 3 = .ok (.istore_n 3, 1) := by decide +kernel
theorem dX7_countFuller_4 : decode cX7_countFuller 4 = .ok (.iload_n 3, 1) := by decide +kernel
theorem dX7_countFuller_5 : decode cX7_countFuller 5 = .ok (.iconst 4, 1) := by decide +kernel
theorem dX7_countFuller_6 : decode cX7_countFuller 6 = .ok (.if_icmp .ge 21, 3) := by decide +kernel
theorem dX7_countFuller_9 : decode cX7_countFuller 9 = .ok (.aload_n 0, 1) := by decide +kernel
theorem dX7_countFuller_10 : decode cX7_countFuller 10 = .ok (.iload_n 3, 1) := by decide +kernel
theorem dX7_countFuller_11 : decode cX7_countFuller 11 = .ok (.iload_n 1, 1) := by decide +kernel
theorem dX7_countFuller_12 : decode cX7_countFuller 12 = .ok (.invokevirtual 345, 3) := by decide +kernel
theorem dX7_countFuller_15 : decode cX7_countFuller 15 = .ok (.ifCond .eq 6, 3) := by decide +kernel
theorem dX7_countFuller_18 : decode cX7_countFuller 18 = .ok (.iinc 2 1, 3) := by decide +kernel
theorem dX7_countFuller_21 : decode cX7_countFuller 21 = .ok (.iinc 3 1, 3) := by decide +kernel
theorem dX7_countFuller_24 : decode cX7_countFuller 24 = .ok (.goto (-20), 3) := by decide +kernel
theorem dX7_countFuller_27 : decode cX7_countFuller 27 = .ok (.iload_n 2, 1) := by decide +kernel
theorem dX7_countFuller_28 : decode cX7_countFuller 28 = .ok (.ireturn, 1) := by decide +kernel
theorem dX7_isFuller_0 : decode cX7_isFuller 0 = .ok (.aload_n 0, 1) := by decide +kernel
theorem dX7_isFuller_1 : decode cX7_isFuller 1 = .ok (.getfield 12, 3) := by decide +kernel
theorem dX7_isFuller_4 : decode cX7_isFuller 4 = .ok (.getfield 114, 3) := by decide +kernel
theorem dX7_isFuller_7 : decode cX7_isFuller 7 = .ok (.iload_n 1, 1) := by decide +kernel
theorem dX7_isFuller_8 : decode cX7_isFuller 8 = .ok (.invokevirtual 158, 3) := by decide +kernel
theorem dX7_isFuller_11 : decode cX7_isFuller 11 = .ok (.istore_n 3, 1) := by decide +kernel
theorem dX7_isFuller_12 : decode cX7_isFuller 12 = .ok (.aload_n 0, 1) := by decide +kernel
theorem dX7_isFuller_13 : decode cX7_isFuller 13 = .ok (.getfield 12, 3) := by decide +kernel
theorem dX7_isFuller_16 : decode cX7_isFuller 16 = .ok (.getfield 114, 3) := by decide +kernel
theorem dX7_isFuller_19 : decode cX7_isFuller 19 = .ok (.iload_n 2, 1) := by decide +kernel
theorem dX7_isFuller_20 : decode cX7_isFuller 20 = .ok (.invokevirtual 158, 3) := by decide +kernel
theorem dX7_isFuller_23 : decode cX7_isFuller 23 = .ok (.istore 4, 2) := by decide +kernel
theorem dX7_isFuller_25 : decode cX7_isFuller 25 = .ok (.iload_n 3, 1) := by decide +kernel
theorem dX7_isFuller_26 : decode cX7_isFuller 26 = .ok (.iload 4, 2) := by decide +kernel
theorem dX7_isFuller_28 : decode cX7_isFuller 28 = .ok (.if_icmp .eq 15, 3) := by decide +kernel
theorem dX7_isFuller_31 : decode cX7_isFuller 31 = .ok (.iload_n 3, 1) := by decide +kernel
theorem dX7_isFuller_32 : decode cX7_isFuller 32 = .ok (.iload 4, 2) := by decide +kernel
theorem dX7_isFuller_34 : decode cX7_isFuller 34 = .ok (.if_icmp .le 7, 3) := by decide +kernel
theorem dX7_isFuller_37 : decode cX7_isFuller 37 = .ok (.iconst 1, 1) := by decide +kernel
theorem dX7_isFuller_38 : decode cX7_isFuller 38 = .ok (.goto 4, 3) := by decide +kernel
theorem dX7_isFuller_41 : decode cX7_isFuller 41 = .ok (.iconst 0, 1) := by decide +kernel
theorem dX7_isFuller_42 : decode cX7_isFuller 42 = .ok (.ireturn, 1) := by decide +kernel
theorem dX7_isFuller_43 : decode cX7_isFuller 43 = .ok (.aload_n 0, 1) := by decide +kernel
theorem dX7_isFuller_44 : decode cX7_isFuller 44 = .ok (.getfield 12, 3) := by decide +kernel
theorem dX7_isFuller_47 : decode cX7_isFuller 47 = .ok (.getfield 155, 3) := by decide +kernel
theorem dX7_isFuller_50 : decode cX7_isFuller 50 = .ok (.iload_n 1, 1) := by decide +kernel
theorem dX7_isFuller_51 : decode cX7_isFuller 51 = .ok (.invokevirtual 132, 3) := by decide +kernel
theorem dX7_isFuller_54 : decode cX7_isFuller 54 = .ok (.istore 5, 2) := by decide +kernel
theorem dX7_isFuller_56 : decode cX7_isFuller 56 = .ok (.aload_n 0, 1) := by decide +kernel
theorem dX7_isFuller_57 : decode cX7_isFuller 57 = .ok (.getfield 12, 3) := by decide +kernel
theorem dX7_isFuller_60 : decode cX7_isFuller 60 = .ok (.getfield 155, 3) := by decide +kernel
theorem dX7_isFuller_63 : decode cX7_isFuller 63 = .ok (.iload_n 2, 1) := by decide +kernel
theorem dX7_isFuller_64 : decode cX7_isFuller 64 = .ok (.invokevirtual 132, 3) := by decide +kernel
theorem dX7_isFuller_67 : decode cX7_isFuller 67 = .ok (.istore 6, 2) := by decide +kernel
theorem dX7_isFuller_69 : decode cX7_isFuller 69 = .ok (.iload 5, 2) := by decide +kernel
theorem dX7_isFuller_71 : decode cX7_isFuller 71 = .ok (.iload 6, 2) := by decide +kernel
theorem dX7_isFuller_73 : decode cX7_isFuller 73 = .ok (.if_icmp .eq 18, 3) := by decide +kernel
theorem dX7_isFuller_76 : decode cX7_isFuller 76 = .ok (.iload 5, 2) := by decide +kernel
theorem dX7_isFuller_78 : decode cX7_isFuller 78 = .ok (.iload 6, 2) := by decide +kernel
theorem dX7_isFuller_80 : decode cX7_isFuller 80 = .ok (.if_icmp .le 7, 3) := by decide +kernel
theorem dX7_isFuller_83 : decode cX7_isFuller 83 = .ok (.iconst 1, 1) := by decide +kernel
theorem dX7_isFuller_84 : decode cX7_isFuller 84 = .ok (.goto 17, 3) := by decide +kernel
theorem dX7_isFuller_87 : decode cX7_isFuller 87 = .ok (.iconst 0, 1) := by decide +kernel
theorem dX7_isFuller_88 : decode cX7_isFuller 88 = .ok (.goto 13, 3) := by decide +kernel
theorem dX7_isFuller_91 : decode cX7_isFuller 91 = .ok (.iload_n 1, 1) := by decide +kernel
theorem dX7_isFuller_92 : decode cX7_isFuller 92 = .ok (.iload_n 2, 1) := by decide +kernel
theorem dX7_isFuller_93 : decode cX7_isFuller 93 = .ok (.if_icmp .ge 7, 3) := by decide +kernel
theorem dX7_isFuller_96 : decode cX7_isFuller 96 = .ok (.iconst 1, 1) := by decide +kernel
theorem dX7_isFuller_97 : decode cX7_isFuller 97 = .ok (.goto 4, 3) := by decide +kernel
theorem dX7_isFuller_100 : decode cX7_isFuller 100 = .ok (.iconst 0, 1) := by decide +kernel
theorem dX7_isFuller_101 : decode cX7_isFuller 101 = .ok (.ireturn, 1) := by decide +kernel
theorem dX7_groansToReach_0 : decode cX7_groansToReach 0 = .ok (.aload_n 0, 1) := by decide +kernel
theorem dX7_groansToReach_1 : decode cX7_groansToReach 1 = .ok (.getfield 12, 3) := by decide +kernel
theorem dX7_groansToReach_4 : decode cX7_groansToReach 4 = .ok (.getfield 219, 3) := by decide +kernel
theorem dX7_groansToReach_7 : decode cX7_groansToReach 7 = .ok (.iload_n 2, 1) := by decide +kernel
theorem dX7_groansToReach_8 : decode cX7_groansToReach 8 = .ok (.invokestatic 225, 3) := by decide +kernel
theorem dX7_groansToReach_11 : decode cX7_groansToReach 11 = .ok (.istore_n 3, 1) := by decide +kernel
theorem dX7_groansToReach_12 : decode cX7_groansToReach 12 = .ok (.iload_n 3, 1) := by decide +kernel
theorem dX7_groansToReach_13 : decode cX7_groansToReach 13 = .ok (.invokestatic 231, 3) := by decide +kernel
theorem dX7_groansToReach_16 : decode cX7_groansToReach 16 = .ok (.istore 4, 2) := by decide +kernel
theorem dX7_groansToReach_18 : decode cX7_groansToReach 18 = .ok (.iconst 0, 1) := by decide +kernel
theorem dX7_groansToReach_19 : decode cX7_groansToReach 19 = .ok (.istore 5, 2) := by decide +kernel
theorem dX7_groansToReach_21 : decode cX7_groansToReach 21 = .ok (.iload 5, 2) := by decide +kernel
theorem dX7_groansToReach_23 : decode cX7_groansToReach 23 = .ok (.bipush 30, 2) := by decide +kernel
theorem dX7_groansToReach_25 : decode cX7_groansToReach 25 = .ok (.if_icmp .ge 29, 3) := by decide +kernel
theorem dX7_groansToReach_28 : decode cX7_groansToReach 28 = .ok (.iload_n 3, 1) := by decide +kernel
theorem dX7_groansToReach_29 : decode cX7_groansToReach 29 = .ok (.iload_n 1, 1) := by decide +kernel
theorem dX7_groansToReach_30 : decode cX7_groansToReach 30 = .ok (.if_icmp .ge 24, 3) := by decide +kernel
theorem dX7_groansToReach_33 : decode cX7_groansToReach 33 = .ok (.iload_n 3, 1) := by decide +kernel
theorem dX7_groansToReach_34 : decode cX7_groansToReach 34 = .ok (.iload_n 2, 1) := by decide +kernel
theorem dX7_groansToReach_35 : decode cX7_groansToReach 35 = .ok (.invokestatic 225, 3) := by decide +kernel
theorem dX7_groansToReach_38 : decode cX7_groansToReach 38 = .ok (.istore_n 3, 1) := by decide +kernel
theorem dX7_groansToReach_39 : decode cX7_groansToReach 39 = .ok (.iload 4, 2) := by decide +kernel
theorem dX7_groansToReach_41 : decode cX7_groansToReach 41 = .ok (.iload_n 3, 1) := by decide +kernel
theorem dX7_groansToReach_42 : decode cX7_groansToReach 42 = .ok (.invokestatic 231, 3) := by decide +kernel
theorem dX7_groansToReach_45 : decode cX7_groansToReach 45 = .ok (.iadd, 1) := by decide +kernel
theorem dX7_groansToReach_46 : decode cX7_groansToReach 46 = .ok (.istore 4, 2) := by decide +kernel
theorem dX7_groansToReach_48 : decode cX7_groansToReach 48 = .ok (.iinc 5 1, 3) := by decide +kernel
theorem dX7_groansToReach_51 : decode cX7_groansToReach 51 = .ok (.goto (-30), 3) := by decide +kernel
theorem dX7_groansToReach_54 : decode cX7_groansToReach 54 = .ok (.iload 4, 2) := by decide +kernel
theorem dX7_groansToReach_56 : decode cX7_groansToReach 56 = .ok (.ireturn, 1) := by decide +kernel
theorem dX7_areLaughsAlike_0 : decode cX7_areLaughsAlike 0 = .ok (.aload_n 0, 1) := by decide +kernel
theorem dX7_areLaughsAlike_1 : decode cX7_areLaughsAlike 1 = .ok (.getfield 12, 3) := by decide +kernel
theorem dX7_areLaughsAlike_4 : decode cX7_areLaughsAlike 4 = .ok (.getfield 164, 3) := by decide +kernel
theorem dX7_areLaughsAlike_7 : decode cX7_areLaughsAlike 7 = .ok (.getfield 200, 3) := by decide +kernel
theorem dX7_areLaughsAlike_10 : decode cX7_areLaughsAlike 10 = .ok (.aload_n 0, 1) := by decide +kernel
theorem dX7_areLaughsAlike_11 : decode cX7_areLaughsAlike 11 = .ok (.getfield 12, 3) := by decide +kernel
theorem dX7_areLaughsAlike_14 : decode cX7_areLaughsAlike 14 = .ok (.getfield 164, 3) := by decide +kernel
theorem dX7_areLaughsAlike_17 : decode cX7_areLaughsAlike 17 = .ok (.invokevirtual 204, 3) := by decide +kernel
theorem dX7_areLaughsAlike_20 : decode cX7_areLaughsAlike 20 = .ok (.fcmp .l, 1) := by decide +kernel
theorem dX7_areLaughsAlike_21 : decode cX7_areLaughsAlike 21 = .ok (.ifCond .ne 7, 3) := by decide +kernel
theorem dX7_areLaughsAlike_24 : decode cX7_areLaughsAlike 24 = .ok (.iconst 1, 1) := by decide +kernel
theorem dX7_areLaughsAlike_25 : decode cX7_areLaughsAlike 25 = .ok (.goto 4, 3) := by decide +kernel
theorem dX7_areLaughsAlike_28 : decode cX7_areLaughsAlike 28 = .ok (.iconst 0, 1) := by decide +kernel
theorem dX7_areLaughsAlike_29 : decode cX7_areLaughsAlike 29 = .ok (.ireturn, 1) := by decide +kernel
theorem dX7_areStrokesAlike_0 : decode cX7_areStrokesAlike 0 = .ok (.iconst 1, 1) := by decide +kernel
theorem dX7_areStrokesAlike_1 : decode cX7_areStrokesAlike 1 = .ok (.istore_n 1, 1) := by decide +kernel
theorem dX7_areStrokesAlike_2 : decode cX7_areStrokesAlike 2 = .ok (.iload_n 1, 1) := by decide +kernel
theorem dX7_areStrokesAlike_3 : decode cX7_areStrokesAlike 3 = .ok (.bipush 30, 2) := by decide +kernel
theorem dX7_areStrokesAlike_5 : decode cX7_areStrokesAlike 5 = .ok (.if_icmp .gt 24, 3) := by decide +kernel
theorem dX7_areStrokesAlike_8 : decode cX7_areStrokesAlike 8 = .ok (.aload_n 0, 1) := by decide +kernel
theorem dX7_areStrokesAlike_9 : decode cX7_areStrokesAlike 9 = .ok (.iload_n 1, 1) := by decide +kernel
theorem dX7_areStrokesAlike_10 : decode cX7_areStrokesAlike 10 = .ok (.invokevirtual 348, 3) := by decide +kernel
theorem dX7_areStrokesAlike_13 : decode cX7_areStrokesAlike 13 = .ok (.aload_n 0, 1) := by decide +kernel
theorem dX7_areStrokesAlike_14 : decode cX7_areStrokesAlike 14 = .ok (.iload_n 1, 1) := by decide +kernel
theorem dX7_areStrokesAlike_15 : decode cX7_areStrokesAlike 15 = .ok (.invokevirtual 351, 3) := by decide +kernel
theorem dX7_areStrokesAlike_18 : decode cX7_areStrokesAlike 18 = .ok (.if_icmp .eq 5, 3) := by decide +kernel
theorem dX7_areStrokesAlike_21 : decode cX7_areStrokesAlike 21 = .ok (.iconst 0, 1) := by decide +kernel
theorem dX7_areStrokesAlike_22 : decode cX7_areStrokesAlike 22 = .ok (.ireturn, 1) := by decide +kernel
theorem dX7_areStrokesAlike_23 : decode cX7_areStrokesAlike 23 = .ok (.iinc 1 1, 3) := by decide +kernel
theorem dX7_areStrokesAlike_26 : decode cX7_areStrokesAlike 26 = .ok (.goto (-24), 3) := by decide +kernel
theorem dX7_areStrokesAlike_29 : decode cX7_areStrokesAlike 29 = .ok (.iconst 1, 1) := by decide +kernel
theorem dX7_areStrokesAlike_30 : decode cX7_areStrokesAlike 30 = .ok (.ireturn, 1) := by decide +kernel
theorem dX7_areSignsUnknown_0 : decode cX7_areSignsUnknown 0 = .ok (.iconst 0, 1) := by decide +kernel
theorem dX7_areSignsUnknown_1 : decode cX7_areSignsUnknown 1 = .ok (.istore_n 1, 1) := by decide +kernel
theorem dX7_areSignsUnknown_2 : decode cX7_areSignsUnknown 2 = .ok (.iload_n 1, 1) := by decide +kernel
theorem dX7_areSignsUnknown_3 : decode cX7_areSignsUnknown 3 = .ok (.aload_n 0, 1) := by decide +kernel
theorem dX7_areSignsUnknown_4 : decode cX7_areSignsUnknown 4 = .ok (.getfield 12, 3) := by decide +kernel
theorem dX7_areSignsUnknown_7 : decode cX7_areSignsUnknown 7 = .ok (.getfield 114, 3) := by decide +kernel
theorem dX7_areSignsUnknown_10 : decode cX7_areSignsUnknown 10 = .ok (.getfield 118, 3) := by decide +kernel
theorem dX7_areSignsUnknown_13 : decode cX7_areSignsUnknown 13 = .ok (.if_icmp .ge 41, 3) := by decide +kernel
theorem dX7_areSignsUnknown_16 : decode cX7_areSignsUnknown 16 = .ok (.aload_n 0, 1) := by decide +kernel
theorem dX7_areSignsUnknown_17 : decode cX7_areSignsUnknown 17 = .ok (.getfield 12, 3) := by decide +kernel
theorem dX7_areSignsUnknown_20 : decode cX7_areSignsUnknown 20 = .ok (.getfield 164, 3) := by decide +kernel
theorem dX7_areSignsUnknown_23 : decode cX7_areSignsUnknown 23 = .ok (.getfield 177, 3) := by decide +kernel
theorem dX7_areSignsUnknown_26 : decode cX7_areSignsUnknown 26 = .ok (.aload_n 0, 1) := by decide +kernel
theorem dX7_areSignsUnknown_27 : decode cX7_areSignsUnknown 27 = .ok (.getfield 12, 3) := by decide +kernel
theorem dX7_areSignsUnknown_30 : decode cX7_areSignsUnknown 30 = .ok (.getfield 114, 3) := by decide +kernel
theorem dX7_areSignsUnknown_33 : decode cX7_areSignsUnknown 33 = .ok (.getfield 140, 3) := by decide +kernel
theorem dX7_areSignsUnknown_36 : decode cX7_areSignsUnknown 36 = .ok (.iload_n 1, 1) := by decide +kernel
theorem dX7_areSignsUnknown_37 : decode cX7_areSignsUnknown 37 = .ok (.invokevirtual 132, 3) := by decide +kernel
theorem dX7_areSignsUnknown_40 : decode cX7_areSignsUnknown 40 = .ok (.invokevirtual 132, 3) := by decide +kernel
theorem dX7_areSignsUnknown_43 : decode cX7_areSignsUnknown 43 = .ok (.ifCond .eq 5, 3) := by decide +kernel
theorem dX7_areSignsUnknown_46 : decode cX7_areSignsUnknown 46 = .ok (.iconst 0, 1) := by decide +kernel
theorem dX7_areSignsUnknown_47 : decode cX7_areSignsUnknown 47 = .ok (.ireturn, 1) := by decide +kernel
theorem dX7_areSignsUnknown_48 : decode cX7_areSignsUnknown 48 = .ok (.iinc 1 1, 3) := by decide +kernel
theorem dX7_areSignsUnknown_51 : decode cX7_areSignsUnknown 51 = .ok (.goto (-49), 3) := by decide +kernel
theorem dX7_areSignsUnknown_54 : decode cX7_areSignsUnknown 54 = .ok (.iconst 1, 1) := by decide +kernel
theorem dX7_areSignsUnknown_55 : decode cX7_areSignsUnknown 55 = .ok (.ireturn, 1) := by decide +kernel
theorem dX7_putJoke_0 : decode cX7_putJoke 0 = .ok (.aload_n 0, 1) := by decide +kernel
theorem dX7_putJoke_1 : decode cX7_putJoke 1 = .ok (.getfield 37, 3) := by decide +kernel
theorem dX7_putJoke_4 : decode cX7_putJoke 4 = .ok (.bipush 32, 2) := by decide +kernel
theorem dX7_putJoke_6 : decode cX7_putJoke 6 = .ok (.invokevirtual 278, 3) := by decide +kernel
theorem dX7_putJoke_9 : decode cX7_putJoke 9 = .ok (.aload_n 0, 1) := by decide +kernel
theorem dX7_putJoke_10 : decode cX7_putJoke 10 = .ok (.getfield 37, 3) := by decide +kernel
theorem dX7_putJoke_13 : decode cX7_putJoke 13 = .ok (.aload_n 0, 1) := by decide +kernel
theorem dX7_putJoke_14 : decode cX7_putJoke 14 = .ok (.getfield 12, 3) := by decide +kernel
theorem dX7_putJoke_17 : decode cX7_putJoke 17 = .ok (.getfield 114, 3) := by decide +kernel
theorem dX7_putJoke_20 : decode cX7_putJoke 20 = .ok (.getfield 137, 3) := by decide +kernel
theorem dX7_putJoke_23 : decode cX7_putJoke 23 = .ok (.iload_n 1, 1) := by decide +kernel
theorem dX7_putJoke_24 : decode cX7_putJoke 24 = .ok (.invokevirtual 132, 3) := by decide +kernel
theorem dX7_putJoke_27 : decode cX7_putJoke 27 = .ok (.invokevirtual 274, 3) := by decide +kernel
theorem dX7_putJoke_30 : decode cX7_putJoke 30 = .ok (.aload_n 0, 1) := by decide +kernel
theorem dX7_putJoke_31 : decode cX7_putJoke 31 = .ok (.getfield 37, 3) := by decide +kernel
theorem dX7_putJoke_34 : decode cX7_putJoke 34 = .ok (.bipush 58, 2) := by decide +kernel
theorem dX7_putJoke_36 : decode cX7_putJoke 36 = .ok (.invokevirtual 278, 3) := by decide +kernel
theorem dX7_putJoke_39 : decode cX7_putJoke 39 = .ok (.aload_n 0, 1) := by decide +kernel
theorem dX7_putJoke_40 : decode cX7_putJoke 40 = .ok (.getfield 37, 3) := by decide +kernel
theorem dX7_putJoke_43 : decode cX7_putJoke 43 = .ok (.aload_n 0, 1) := by decide +kernel
theorem dX7_putJoke_44 : decode cX7_putJoke 44 = .ok (.getfield 12, 3) := by decide +kernel
theorem dX7_putJoke_47 : decode cX7_putJoke 47 = .ok (.getfield 114, 3) := by decide +kernel
theorem dX7_putJoke_50 : decode cX7_putJoke 50 = .ok (.getfield 140, 3) := by decide +kernel
theorem dX7_putJoke_53 : decode cX7_putJoke 53 = .ok (.iload_n 1, 1) := by decide +kernel
theorem dX7_putJoke_54 : decode cX7_putJoke 54 = .ok (.invokevirtual 132, 3) := by decide +kernel
theorem dX7_putJoke_57 : decode cX7_putJoke 57 = .ok (.invokevirtual 274, 3) := by decide +kernel
theorem dX7_putJoke_60 : decode cX7_putJoke 60 = .ok (.aload_n 0, 1) := by decide +kernel
theorem dX7_putJoke_61 : decode cX7_putJoke 61 = .ok (.getfield 12, 3) := by decide +kernel
theorem dX7_putJoke_64 : decode cX7_putJoke 64 = .ok (.getfield 114, 3) := by decide +kernel
theorem dX7_putJoke_67 : decode cX7_putJoke 67 = .ok (.getfield 146, 3) := by decide +kernel
theorem dX7_putJoke_70 : decode cX7_putJoke 70 = .ok (.iload_n 1, 1) := by decide +kernel
theorem dX7_putJoke_71 : decode cX7_putJoke 71 = .ok (.invokevirtual 132, 3) := by decide +kernel
theorem dX7_putJoke_74 : decode cX7_putJoke 74 = .ok (.ifCond .eq 12, 3) := by decide +kernel
theorem dX7_putJoke_77 : decode cX7_putJoke 77 = .ok (.aload_n 0, 1) := by decide +kernel
theorem dX7_putJoke_78 : decode cX7_putJoke 78 = .ok (.getfield 37, 3) := by decide +kernel
theorem dX7_putJoke_81 : decode cX7_putJoke 81 = .ok (.bipush 33, 2) := by decide +kernel
theorem dX7_putJoke_83 : decode cX7_putJoke 83 = .ok (.invokevirtual 278, 3) := by decide +kernel
theorem dX7_putJoke_86 : decode cX7_putJoke 86 = .ok (.return_, 1) := by decide +kernel
theorem dX7_isWell_0 : decode cX7_isWell 0 = .ok (.iload_n 0, 1) := by decide +kernel
theorem dX7_isWell_1 : decode cX7_isWell 1 = .ok (.iconst 0, 1) := by decide +kernel
theorem dX7_isWell_2 : decode cX7_isWell 2 = .ok (.iconst 3, 1) := by decide +kernel
theorem dX7_isWell_3 : decode cX7_isWell 3 = .ok (.invokestatic 173, 3) := by decide +kernel
theorem dX7_isWell_6 : decode cX7_isWell 6 = .ok (.ireturn, 1) := by decide +kernel
theorem dX7_isWithin_0 : decode cX7_isWithin 0 = .ok (.iload_n 0, 1) := by decide +kernel
theorem dX7_isWithin_1 : decode cX7_isWithin 1 = .ok (.iload_n 1, 1) := by decide +kernel
theorem dX7_isWithin_2 : decode cX7_isWithin 2 = .ok (.if_icmp .lt 12, 3) := by decide +kernel
theorem dX7_isWithin_5 : decode cX7_isWithin 5 = .ok (.iload_n 0, 1) := by decide +kernel
theorem dX7_isWithin_6 : decode cX7_isWithin 6 = .ok (.iload_n 2, 1) := by decide +kernel
theorem dX7_isWithin_7 : decode cX7_isWithin 7 = .ok (.if_icmp .gt 7, 3) := by decide +kernel
theorem dX7_isWithin_10 : decode cX7_isWithin 10 = .ok (.iconst 1, 1) := by decide +kernel
theorem dX7_isWithin_11 : decode cX7_isWithin 11 = .ok (.goto 4, 3) := by decide +kernel
theorem dX7_isWithin_14 : decode cX7_isWithin 14 = .ok (.iconst 0, 1) := by decide +kernel
theorem dX7_isWithin_15 : decode cX7_isWithin 15 = .ok (.ireturn, 1) := by decide +kernel
theorem dX7_bitsOf_0 : decode cX7_bitsOf 0 = .ok (.fload_n 0, 1) := by decide +kernel
theorem dX7_bitsOf_1 : decode cX7_bitsOf 1 = .ok (.fconst 0, 1) := by decide +kernel
theorem dX7_bitsOf_2 : decode cX7_bitsOf 2 = .ok (.fcmp .g, 1) := by decide +kernel
theorem dX7_bitsOf_3 : decode cX7_bitsOf 3 = .ok (.ifCond .gt 5, 3) := by decide +kernel
theorem dX7_bitsOf_6 : decode cX7_bitsOf 6 = .ok (.iconst 0, 1) := by decide +kernel
theorem dX7_bitsOf_7 : decode cX7_bitsOf 7 = .ok (.ireturn, 1) := by decide +kernel
theorem dX7_bitsOf_8 : decode cX7_bitsOf 8 = .ok (.fload_n 0, 1) := by decide +kernel
theorem dX7_bitsOf_9 : decode cX7_bitsOf 9 = .ok (.fstore_n 1, 1) := by decide +kernel
theorem dX7_bitsOf_10 : decode cX7_bitsOf 10 = .ok (.bipush 127, 2) := by decide +kernel
theorem dX7_bitsOf_12 : decode cX7_bitsOf 12 = .ok (.istore_n 2, 1) := by decide +kernel
theorem dX7_bitsOf_13 : decode cX7_bitsOf 13 = .ok (.iconst 0, 1) := by decide +kernel
theorem dX7_bitsOf_14 : decode cX7_bitsOf 14 = .ok (.istore_n 3, 1) := by decide +kernel
theorem dX7_bitsOf_15 : decode cX7_bitsOf 15 = .ok (.iload_n 3, 1) := by decide +kernel
theorem dX7_bitsOf_16 : decode cX7_bitsOf 16 = .ok (.sipush 128, 3) := by decide +kernel
theorem dX7_bitsOf_19 : decode cX7_bitsOf 19 = .ok (.if_icmp .ge 22, 3) := by decide +kernel
theorem dX7_bitsOf_22 : decode cX7_bitsOf 22 = .ok (.fload_n 1, 1) := by decide +kernel
theorem dX7_bitsOf_23 : decode cX7_bitsOf 23 = .ok (.fconst 2, 1) := by decide +kernel
theorem dX7_bitsOf_24 : decode cX7_bitsOf 24 = .ok (.fcmp .l, 1) := by decide +kernel
theorem dX7_bitsOf_25 : decode cX7_bitsOf 25 = .ok (.ifCond .lt 16, 3) := by decide +kernel
theorem dX7_bitsOf_28 : decode cX7_bitsOf 28 = .ok (.fload_n 1, 1) := by decide +kernel
theorem dX7_bitsOf_29 : decode cX7_bitsOf 29 = .ok (.fconst 2, 1) := by decide +kernel
theorem dX7_bitsOf_30 : decode cX7_bitsOf 30 = .ok (.fdiv, 1) := by decide +kernel
theorem dX7_bitsOf_31 : decode cX7_bitsOf 31 = .ok (.fstore_n 1, 1) := by decide +kernel
theorem dX7_bitsOf_32 : decode cX7_bitsOf 32 = .ok (.iinc 2 1, 3) := by decide +kernel
theorem dX7_bitsOf_35 : decode cX7_bitsOf 35 = .ok (.iinc 3 1, 3) := by decide +kernel
theorem dX7_bitsOf_38 : decode cX7_bitsOf 38 = .ok (.goto (-23), 3) := by decide +kernel
theorem dX7_bitsOf_41 : decode cX7_bitsOf 41 = .ok (.iconst 0, 1) := by decide +kernel
theorem dX7_bitsOf_42 : decode cX7_bitsOf 42 = .ok (.istore_n 3, 1) := by decide +kernel
theorem dX7_bitsOf_43 : decode cX7_bitsOf 43 = .ok (.iload_n 3, 1) := by decide +kernel
theorem dX7_bitsOf_44 : decode cX7_bitsOf 44 = .ok (.bipush 126, 2) := by decide +kernel
theorem dX7_bitsOf_46 : decode cX7_bitsOf 46 = .ok (.if_icmp .ge 22, 3) := by decide +kernel
theorem dX7_bitsOf_49 : decode cX7_bitsOf 49 = .ok (.fload_n 1, 1) := by decide +kernel
theorem dX7_bitsOf_50 : decode cX7_bitsOf 50 = .ok (.fconst 1, 1) := by decide +kernel
theorem dX7_bitsOf_51 : decode cX7_bitsOf 51 = .ok (.fcmp .g, 1) := by decide +kernel
theorem dX7_bitsOf_52 : decode cX7_bitsOf 52 = .ok (.ifCond .ge 16, 3) := by decide +kernel
theorem dX7_bitsOf_55 : decode cX7_bitsOf 55 = .ok (.fload_n 1, 1) := by decide +kernel
theorem dX7_bitsOf_56 : decode cX7_bitsOf 56 = .ok (.fconst 2, 1) := by decide +kernel
theorem dX7_bitsOf_57 : decode cX7_bitsOf 57 = .ok (.fmul, 1) := by decide +kernel
theorem dX7_bitsOf_58 : decode cX7_bitsOf 58 = .ok (.fstore_n 1, 1) := by decide +kernel
theorem dX7_bitsOf_59 : decode cX7_bitsOf 59 = .ok (.iinc 2 (-1), 3) := by decide +kernel
theorem dX7_bitsOf_62 : decode cX7_bitsOf 62 = .ok (.iinc 3 1, 3) := by decide +kernel
theorem dX7_bitsOf_65 : decode cX7_bitsOf 65 = .ok (.goto (-22), 3) := by decide +kernel
theorem dX7_bitsOf_68 : decode cX7_bitsOf 68 = .ok (.iload_n 2, 1) := by decide +kernel
theorem dX7_bitsOf_69 : decode cX7_bitsOf 69 = .ok (.bipush 23, 2) := by decide +kernel
theorem dX7_bitsOf_71 : decode cX7_bitsOf 71 = .ok (.ishl, 1) := by decide +kernel
theorem dX7_bitsOf_72 : decode cX7_bitsOf 72 = .ok (.fload_n 1, 1) := by decide +kernel
theorem dX7_bitsOf_73 : decode cX7_bitsOf 73 = .ok (.fconst 1, 1) := by decide +kernel
theorem dX7_bitsOf_74 : decode cX7_bitsOf 74 = .ok (.fsub, 1) := by decide +kernel
theorem dX7_bitsOf_75 : decode cX7_bitsOf 75 = .ok (.ldc_w 354, 3) := by decide +kernel
theorem dX7_bitsOf_78 : decode cX7_bitsOf 78 = .ok (.fmul, 1) := by decide +kernel
theorem dX7_bitsOf_79 : decode cX7_bitsOf 79 = .ok (.f2i, 1) := by decide +kernel
theorem dX7_bitsOf_80 : decode cX7_bitsOf 80 = .ok (.iadd, 1) := by decide +kernel
theorem dX7_bitsOf_81 : decode cX7_bitsOf 81 = .ok (.ireturn, 1) := by decide +kernel
end
section
theorem dX8_isBetween_0 : decode cX8_isBetween 0 = .ok (.iload_n 1, 1) := by decide +kernel
theorem dX8_isBetween_1 : decode cX8_isBetween 1 = .ok (.iload_n 0, 1) := by decide +kernel
theorem dX8_isBetween_2 : decode cX8_isBetween 2 = .ok (.if_icmp .gt 12, 3) := by decide +kernel
theorem dX8_isBetween_5 : decode cX8_isBetween 5 = .ok (.iload_n 0, 1) := by decide +kernel
theorem dX8_isBetween_6 : decode cX8_isBetween 6 = .ok (.iload_n 2, 1) := by decide +kernel
theorem dX8_isBetween_7 : decode cX8_isBetween 7 = .ok (.if_icmp .gt 7, 3) := by decide +kernel
theorem dX8_isBetween_10 : decode cX8_isBetween 10 = .ok (.iconst 1, 1) := by decide +kernel
theorem dX8_isBetween_11 : decode cX8_isBetween 11 = .ok (.goto 4, 3) := by decide +kernel
theorem dX8_isBetween_14 : decode cX8_isBetween 14 = .ok (.iconst 0, 1) := by decide +kernel
theorem dX8_isBetween_15 : decode cX8_isBetween 15 = .ok (.ireturn, 1) := by decide +kernel
theorem dX8_isNot_0 : decode cX8_isNot 0 = .ok (.aload_n 0, 1) := by decide +kernel
theorem dX8_isNot_1 : decode cX8_isNot 1 = .ok (.iload_n 1, 1) := by decide +kernel
theorem dX8_isNot_2 : decode cX8_isNot 2 = .ok (.putfield 1, 3) := by decide +kernel
theorem dX8_isNot_5 : decode cX8_isNot 5 = .ok (.aload_n 0, 1) := by decide +kernel
theorem dX8_isNot_6 : decode cX8_isNot 6 = .ok (.iload_n 2, 1) := by decide +kernel
theorem dX8_isNot_7 : decode cX8_isNot 7 = .ok (.putfield 7, 3) := by decide +kernel
theorem dX8_isNot_10 : decode cX8_isNot 10 = .ok (.bipush (-5), 2) := by decide +kernel
theorem dX8_isNot_12 : decode cX8_isNot 12 = .ok (.ireturn, 1) := by decide +kernel
theorem dX8_answers_0 : decode cX8_answers 0 = .ok (.iload_n 1, 1) := by decide +kernel
theorem dX8_answers_1 : decode cX8_answers 1 = .ok (.bipush (-5), 2) := by decide +kernel
theorem dX8_answers_3 : decode cX8_answers 3 = .ok (.if_icmp .eq 5, 3) := by decide +kernel
theorem dX8_answers_6 : decode cX8_answers 6 = .ok (.iload_n 1, 1) := by decide +kernel
theorem dX8_answers_7 : decode cX8_answers 7 = .ok (.ireturn, 1) := by decide +kernel
theorem dX8_answers_8 : decode cX8_answers 8 = .ok (.aload_n 0, 1) := by decide +kernel
theorem dX8_answers_9 : decode cX8_answers 9 = .ok (.aload_n 0, 1) := by decide +kernel
theorem dX8_answers_10 : decode cX8_answers 10 = .ok (.getfield 1, 3) := by decide +kernel
theorem dX8_answers_13 : decode cX8_answers 13 = .ok (.putfield 10, 3) := by decide +kernel
theorem dX8_answers_16 : decode cX8_answers 16 = .ok (.aload_n 0, 1) := by decide +kernel
theorem dX8_answers_17 : decode cX8_answers 17 = .ok (.aload_n 0, 1) := by decide +kernel
theorem dX8_answers_18 : decode cX8_answers 18 = .ok (.getfield 7, 3) := by decide +kernel
theorem dX8_answers_21 : decode cX8_answers 21 = .ok (.putfield 13, 3) := by decide +kernel
theorem dX8_answers_24 : decode cX8_answers 24 = .ok (.aload_n 0, 1) := by decide +kernel
theorem dX8_answers_25 : decode cX8_answers 25 = .ok (.iconst 0, 1) := by decide +kernel
theorem dX8_answers_26 : decode cX8_answers 26 = .ok (.putfield 16, 3) := by decide +kernel
theorem dX8_answers_29 : decode cX8_answers 29 = .ok (.iload_n 1, 1) := by decide +kernel
theorem dX8_answers_30 : decode cX8_answers 30 = .ok (.ireturn, 1) := by decide +kernel
theorem dX8_reason_0 : decode cX8_reason 0 = .ok (.iload_n 1, 1) := by decide +kernel
theorem dX8_reason_1 : decode cX8_reason 1 = .ok (.iconst 0, 1) := by decide +kernel
theorem dX8_reason_2 : decode cX8_reason 2 = .ok (.iconst 1, 1) := by decide +kernel
theorem dX8_reason_3 : decode cX8_reason 3 = .ok (.invokestatic 19, 3) := by decide +kernel
theorem dX8_reason_6 : decode cX8_reason 6 = .ok (.ifCond .ne 6, 3) := by decide +kernel
theorem dX8_reason_9 : decode cX8_reason 9 = .ok (.bipush (-2), 2) := by decide +kernel
theorem dX8_reason_11 : decode cX8_reason 11 = .ok (.ireturn, 1) := by decide +kernel
theorem dX8_reason_12 : decode cX8_reason 12 = .ok (.aload_n 0, 1) := by decide +kernel
theorem dX8_reason_13 : decode cX8_reason 13 = .ok (.getfield 10, 3) := by decide +kernel
theorem dX8_reason_16 : decode cX8_reason 16 = .ok (.ifCond .ne 6, 3) := by decide +kernel
theorem dX8_reason_19 : decode cX8_reason 19 = .ok (.bipush (-3), 2) := by decide +kernel
theorem dX8_reason_21 : decode cX8_reason 21 = .ok (.ireturn, 1) := by decide +kernel
theorem dX8_reason_22 : decode cX8_reason 22 = .ok (.iload_n 1, 1) := by decide +kernel
theorem dX8_reason_23 : decode cX8_reason 23 = .ok (.ifCond .ne 19, 3) := by decide +kernel
theorem dX8_reason_26 : decode cX8_reason 26 = .ok (.iload_n 2, 1) := by decide +kernel
theorem dX8_reason_27 : decode cX8_reason 27 = .ok (.ifCond .eq 10, 3) := by decide +kernel
theorem dX8_reason_30 : decode cX8_reason 30 = .ok (.aload_n 0, 1) := by decide +kernel
theorem dX8_reason_31 : decode cX8_reason 31 = .ok (.getfield 13, 3) := by decide +kernel
theorem dX8_reason_34 : decode cX8_reason 34 = .ok (.goto 7, 3) := by decide +kernel
theorem dX8_reason_37 : decode cX8_reason 37 = .ok (.aload_n 0, 1) := by decide +kernel
theorem dX8_reason_38 : decode cX8_reason 38 = .ok (.getfield 10, 3) := by decide +kernel
theorem dX8_reason_41 : decode cX8_reason 41 = .ok (.ireturn, 1) := by decide +kernel
theorem dX8_reason_42 : decode cX8_reason 42 = .ok (.aload_n 0, 1) := by decide +kernel
theorem dX8_reason_43 : decode cX8_reason 43 = .ok (.getfield 16, 3) := by decide +kernel
theorem dX8_reason_46 : decode cX8_reason 46 = .ok (.ifCond .ne 6, 3) := by decide +kernel
theorem dX8_reason_49 : decode cX8_reason 49 = .ok (.bipush (-6), 2) := by decide +kernel
theorem dX8_reason_51 : decode cX8_reason 51 = .ok (.ireturn, 1) := by decide +kernel
theorem dX8_reason_52 : decode cX8_reason 52 = .ok (.iload_n 2, 1) := by decide +kernel
theorem dX8_reason_53 : decode cX8_reason 53 = .ok (.ifCond .eq 10, 3) := by decide +kernel
theorem dX8_reason_56 : decode cX8_reason 56 = .ok (.aload_n 0, 1) := by decide +kernel
theorem dX8_reason_57 : decode cX8_reason 57 = .ok (.getfield 23, 3) := by decide +kernel
theorem dX8_reason_60 : decode cX8_reason 60 = .ok (.goto 7, 3) := by decide +kernel
theorem dX8_reason_63 : decode cX8_reason 63 = .ok (.aload_n 0, 1) := by decide +kernel
theorem dX8_reason_64 : decode cX8_reason 64 = .ok (.getfield 16, 3) := by decide +kernel
theorem dX8_reason_67 : decode cX8_reason 67 = .ok (.ireturn, 1) := by decide +kernel
theorem dX8_init_0 : decode cX8_init 0 = .ok (.aload_n 0, 1) := by decide +kernel
theorem dX8_init_1 : decode cX8_init 1 = .ok (.invokespecial 26, 3) := by decide +kernel
theorem dX8_init_4 : decode cX8_init 4 = .ok (.aload_n 0, 1) := by decide +kernel
theorem dX8_init_5 : decode cX8_init 5 = .ok (.sipush 274, 3) := by decide +kernel
theorem dX8_init_8 : decode cX8_init 8 = .ok (.newarray .int, 2) := by decide +kernel
theorem dX8_init_10 : decode cX8_init 10 = .ok (.putfield 32, 3) := by decide +kernel
theorem dX8_init_13 : decode cX8_init 13 = .ok (.aload_n 0, 1) := by decide +kernel
theorem dX8_init_14 : decode cX8_init 14 = .ok (.sipush 2192, 3) := by decide +kernel
theorem dX8_init_17 : decode cX8_init 17 = .ok (.newarray .int, 2) := by decide +kernel
theorem dX8_init_19 : decode cX8_init 19 = .ok (.putfield 36, 3) := by decide +kernel
theorem dX8_init_22 : decode cX8_init 22 = .ok (.aload_n 0, 1) := by decide +kernel
theorem dX8_init_23 : decode cX8_init 23 = .ok (.sipush 274, 3) := by decide +kernel
theorem dX8_init_26 : decode cX8_init 26 = .ok (.newarray .int, 2) := by decide +kernel
theorem dX8_init_28 : decode cX8_init 28 = .ok (.putfield 39, 3) := by decide +kernel
theorem dX8_init_31 : decode cX8_init 31 = .ok (.aload_n 0, 1) := by decide +kernel
theorem dX8_init_32 : decode cX8_init 32 = .ok (.sipush 274, 3) := by decide +kernel
theorem dX8_init_35 : decode cX8_init 35 = .ok (.newarray .int, 2) := by decide +kernel
theorem dX8_init_37 : decode cX8_init 37 = .ok (.putfield 42, 3) := by decide +kernel
theorem dX8_init_40 : decode cX8_init 40 = .ok (.aload_n 0, 1) := by decide +kernel
theorem dX8_init_41 : decode cX8_init 41 = .ok (.sipush 274, 3) := by decide +kernel
theorem dX8_init_44 : decode cX8_init 44 = .ok (.newarray .int, 2) := by decide +kernel
theorem dX8_init_46 : decode cX8_init 46 = .ok (.putfield 45, 3) := by decide +kernel
theorem dX8_init_49 : decode cX8_init 49 = .ok (.aload_n 0, 1) := by decide +kernel
theorem dX8_init_50 : decode cX8_init 50 = .ok (.bipush 60, 2) := by decide +kernel
theorem dX8_init_52 : decode cX8_init 52 = .ok (.newarray .char, 2) := by decide +kernel
theorem dX8_init_54 : decode cX8_init 54 = .ok (.putfield 48, 3) := by decide +kernel
theorem dX8_init_57 : decode cX8_init 57 = .ok (.aload_n 0, 1) := by decide +kernel
theorem dX8_init_58 : decode cX8_init 58 = .ok (.bipush 60, 2) := by decide +kernel
theorem dX8_init_60 : decode cX8_init 60 = .ok (.newarray .char, 2) := by decide +kernel
theorem dX8_init_62 : decode cX8_init 62 = .ok (.putfield 52, 3) := by decide +kernel
theorem dX8_init_65 : decode cX8_init 65 = .ok (.aload_n 0, 1) := by decide +kernel
theorem dX8_init_66 : decode cX8_init 66 = .ok (.iconst (-1), 1) := by decide +kernel
theorem dX8_init_67 : decode cX8_init 67 = .ok (.putfield 55, 3) := by decide +kernel
theorem dX8_init_70 : decode cX8_init 70 = .ok (.aload_n 0, 1) := by decide +kernel
theorem dX8_init_71 : decode cX8_init 71 = .ok (.iconst 4, 1) := by decide +kernel
theorem dX8_init_72 : decode cX8_init 72 = .ok (.newarray .int, 2) := by decide +kernel
theorem dX8_init_74 : decode cX8_init 74 = .ok (.putfield 58, 3) := by decide +kernel
theorem dX8_init_77 : decode cX8_init 77 = .ok (.aload_n 0, 1) := by decide +kernel
theorem dX8_init_78 : decode cX8_init 78 = .ok (.getfield 32, 3) := by decide +kernel
theorem dX8_init_81 : decode cX8_init 81 = .ok (.iconst 2, 1) := by decide +kernel
theorem dX8_init_82 : decode cX8_init 82 = .ok (.iconst 3, 1) := by decide +kernel
theorem dX8_init_83 : decode cX8_init 83 = .ok (.iastore, 1) := by decide +kernel
theorem dX8_init_84 : decode cX8_init 84 = .ok (.aload_n 0, 1) := by decide +kernel
theorem dX8_init_85 : decode cX8_init 85 = .ok (.getfield 32, 3) := by decide +kernel
theorem dX8_init_88 : decode cX8_init 88 = .ok (.iconst 5, 1) := by decide +kernel
theorem dX8_init_89 : decode cX8_init 89 = .ok (.bipush 9, 2) := by decide +kernel
theorem dX8_init_91 : decode cX8_init 91 = .ok (.iastore, 1) := by decide +kernel
theorem dX8_init_92 : decode cX8_init 92 = .ok (.iconst 0, 1) := by decide +kernel
theorem dX8_init_93 : decode cX8_init 93 = .ok (.istore_n 1, 1) := by decide +kernel
theorem dX8_init_94 : decode cX8_init 94 = .ok (.iload_n 1, 1) := by decide +kernel
theorem dX8_init_95 : decode cX8_init 95 = .ok (.iconst 4, 1) := by decide +kernel
theorem dX8_init_96 : decode cX8_init 96 = .ok (.if_icmp .ge 19, 3) := by decide +kernel
theorem dX8_init_99 : decode cX8_init 99 = .ok (.aload_n 0, 1) := by decide +kernel
theorem dX8_init_100 : decode cX8_init 100 = .ok (.getfield 32, 3) := by decide +kernel
theorem dX8_init_103 : decode cX8_init 103 = .ok (.bipush 14, 2) := by decide +kernel
theorem dX8_init_105 : decode cX8_init 105 = .ok (.iload_n 1, 1) := by decide +kernel
theorem dX8_init_106 : decode cX8_init 106 = .ok (.iadd, 1) := by decide +kernel
theorem dX8_init_107 : decode cX8_init 107 = .ok (.iconst 2, 1) := by decide +kernel
theorem dX8_init_108 : decode cX8_init 108 = .ok (.iastore, 1) := by decide +kernel
theorem dX8_init_109 : decode cX8_init 109 = .ok (.iinc 1 1, 3) := by decide +kernel
theorem dX8_init_112 : decode cX8_init 112 = .ok (.goto (-18), 3) := by decide +kernel
theorem dX8_init_115 : decode cX8_init 115 = .ok (.return_, 1) := by decide +kernel
theorem dX8_thinks_0 : decode cX8_thinks 0 = .ok (.iconst 0, 1) := by decide +kernel
theorem dX8_thinks_1 : decode cX8_thinks 1 = .ok (.istore_n 1, 1) := by decide +kernel
theorem dX8_thinks_2 : decode cX8_thinks 2 = .ok (.iload_n 1, 1) := by decide +kernel
theorem dX8_thinks_3 : decode cX8_thinks 3 = .ok (.sipush 274, 3) := by decide +kernel
theorem dX8_thinks_6 : decode cX8_thinks 6 = .ok (.if_icmp .ge 21, 3) := by decide +kernel
theorem dX8_thinks_9 : decode cX8_thinks 9 = .ok (.aload_n 0, 1) := by decide +kernel
theorem dX8_thinks_10 : decode cX8_thinks 10 = .ok (.getfield 42, 3) := by decide +kernel
theorem dX8_thinks_13 : decode cX8_thinks 13 = .ok (.iload_n 1, 1) := by decide +kernel
theorem dX8_thinks_14 : decode cX8_thinks 14 = .ok (.aload_n 0, 1) := by decide +kernel
theorem dX8_thinks_15 : decode cX8_thinks 15 = .ok (.getfield 32, 3) := by decide +kernel
theorem dX8_thinks_18 : decode cX8_thinks 18 = .ok (.iload_n 1, 1) := by decide +kernel
theorem dX8_thinks_19 : decode cX8_thinks 19 = .ok (.iaload, 1) := by decide +kernel
theorem dX8_thinks_20 : decode cX8_thinks 20 = .ok (.iastore, 1) := by decide +kernel
theorem dX8_thinks_21 : decode cX8_thinks 21 = .ok (.iinc 1 1, 3) := by decide +kernel
theorem dX8_thinks_24 : decode cX8_thinks 24 = .ok (.goto (-22), 3) := by decide +kernel
theorem dX8_thinks_27 : decode cX8_thinks 27 = .ok (.return_, 1) := by decide +kernel
theorem dX8_forgets_0 : decode cX8_forgets 0 = .ok (.iconst 0, 1) := by decide +kernel
theorem dX8_forgets_1 : decode cX8_forgets 1 = .ok (.istore_n 1, 1) := by decide +kernel
theorem dX8_forgets_2 : decode cX8_forgets 2 = .ok (.iload_n 1, 1) := by decide +kernel
theorem dX8_forgets_3 : decode cX8_forgets 3 = .ok (.sipush 274, 3) := by decide +kernel
theorem dX8_forgets_6 : decode cX8_forgets 6 = .ok (.if_icmp .ge 21, 3) := by decide +kernel
theorem dX8_forgets_9 : decode cX8_forgets 9 = .ok (.aload_n 0, 1) := by decide +kernel
theorem dX8_forgets_10 : decode cX8_forgets 10 = .ok (.getfield 32, 3) := by decide +kernel
theorem dX8_forgets_13 : decode cX8_forgets 13 = .ok (.iload_n 1, 1) := by decide +kernel
theorem dX8_forgets_14 : decode cX8_forgets 14 = .ok (.aload_n 0, 1) := by decide +kernel
theorem dX8_forgets_15 : decode cX8_forgets 15 = .ok (.getfield 42, 3) := by decide +kernel
theorem dX8_forgets_18 : decode cX8_forgets 18 = .ok (.iload_n 1, 1) := by decide +kernel
theorem dX8_forgets_19 : decode cX8_forgets 19 = .ok (.iaload, 1) := by decide +kernel
theorem dX8_forgets_20 : decode cX8_forgets 20 = .ok (.iastore, 1) := by decide +kernel
theorem dX8_forgets_21 : decode cX8_forgets 21 = .ok (.iinc 1 1, 3) := by decide +kernel
theorem dX8_forgets_24 : decode cX8_forgets 24 = .ok (.goto (-22), 3) := by decide +kernel
theorem dX8_forgets_27 : decode cX8_forgets 27 = .ok (.return_, 1) := by decide +kernel
theorem dX8_keepsMind_0 : decode cX8_keepsMind 0 = .ok (.aload_n 0, 1) := by decide +kernel
theorem dX8_keepsMind_1 : decode cX8_keepsMind 1 = .ok (.getfield 61, 3) := by decide +kernel
theorem dX8_keepsMind_4 : decode cX8_keepsMind 4 = .ok (.bipush 8, 2) := by decide +kernel
theorem dX8_keepsMind_6 : decode cX8_keepsMind 6 = .ok (.if_icmp .ne 26, 3) := by decide +kernel
theorem dX8_keepsMind_9 : decode cX8_keepsMind 9 = .ok (.aload_n 0, 1) := by decide +kernel
theorem dX8_keepsMind_10 : decode cX8_keepsMind 10 = .ok (.aload_n 0, 1) := by decide +kernel
theorem dX8_keepsMind_11 : decode cX8_keepsMind 11 = .ok (.getfield 64, 3) := by decide +kernel
theorem dX8_keepsMind_14 : decode cX8_keepsMind 14 = .ok (.iconst 1, 1) := by decide +kernel
theorem dX8_keepsMind_15 : decode cX8_keepsMind 15 = .ok (.iadd, 1) := by decide +kernel
theorem dX8_keepsMind_16 : decode cX8_keepsMind 16 = .ok (.bipush 8, 2) := by decide +kernel
theorem dX8_keepsMind_18 : decode cX8_keepsMind 18 = .ok (.irem, 1) := by decide +kernel
theorem dX8_keepsMind_19 : decode cX8_keepsMind 19 = .ok (.putfield 64, 3) := by decide +kernel
theorem dX8_keepsMind_22 : decode cX8_keepsMind 22 = .ok (.aload_n 0, 1) := by decide +kernel
theorem dX8_keepsMind_23 : decode cX8_keepsMind 23 = .ok (.dup, 1) := by decide +kernel
theorem dX8_keepsMind_24 : decode cX8_keepsMind 24 = .ok (.getfield 61, 3) := by decide +kernel
theorem dX8_keepsMind_27 : decode cX8_keepsMind 27 = .ok (.iconst 1, 1) := by decide +kernel
theorem dX8_keepsMind_28 : decode cX8_keepsMind 28 = .ok (.isub, 1) := by decide +kernel
theorem dX8_keepsMind_29 : decode cX8_keepsMind 29 = .ok (.putfield 61, 3) := by decide +kernel
theorem dX8_keepsMind_32 : decode cX8_keepsMind 32 = .ok (.aload_n 0, 1) := by decide +kernel
theorem dX8_keepsMind_33 : decode cX8_keepsMind 33 = .ok (.getfield 64, 3) := by decide +kernel
theorem dX8_keepsMind_36 : decode cX8_keepsMind 36 = .ok (.aload_n 0, 1) := by decide +kernel
theorem dX8_keepsMind_37 : decode cX8_keepsMind 37 = .ok (.getfield 61, 3) := by decide +kernel
theorem dX8_keepsMind_40 : decode cX8_keepsMind 40 = .ok (.iadd, 1) := by decide +kernel
theorem dX8_keepsMind_41 : decode cX8_keepsMind 41 = .ok (.bipush 8, 2) := by decide +kernel
theorem dX8_keepsMind_43 : decode cX8_keepsMind 43 = .ok (.irem, 1) := by decide +kernel
theorem dX8_keepsMind_44 : decode cX8_keepsMind 44 = .ok (.istore_n 1, 1) := by decide +kernel
theorem dX8_keepsMind_45 : decode cX8_keepsMind 45 = .ok (.iconst 0, 1) := by decide +kernel
theorem dX8_keepsMind_46 : decode cX8_keepsMind 46 = .ok (.istore_n 2, 1) := by decide +kernel
theorem dX8_keepsMind_47 : decode cX8_keepsMind 47 = .ok (.iload_n 2, 1) := by decide +kernel
theorem dX8_keepsMind_48 : decode cX8_keepsMind 48 = .ok (.sipush 274, 3) := by decide +kernel
theorem dX8_keepsMind_51 : decode cX8_keepsMind 51 = .ok (.if_icmp .ge 27, 3) := by decide +kernel
theorem dX8_keepsMind_54 : decode cX8_keepsMind 54 = .ok (.aload_n 0, 1) := by decide +kernel
theorem dX8_keepsMind_55 : decode cX8_keepsMind 55 = .ok (.getfield 36, 3) := by decide +kernel
theorem dX8_keepsMind_58 : decode cX8_keepsMind 58 = .ok (.sipush 274, 3) := by decide +kernel
theorem dX8_keepsMind_61 : decode cX8_keepsMind 61 = .ok (.iload_n 1, 1) := by decide +kernel
theorem dX8_keepsMind_62 : decode cX8_keepsMind 62 = .ok (.imul, 1) := by decide +kernel
theorem dX8_keepsMind_63 : decode cX8_keepsMind 63 = .ok (.iload_n 2, 1) := by decide +kernel
theorem dX8_keepsMind_64 : decode cX8_keepsMind 64 = .ok (.iadd, 1) := by decide +kernel
theorem dX8_keepsMind_65 : decode cX8_keepsMind 65 = .ok (.aload_n 0, 1) := by decide +kernel
theorem dX8_keepsMind_66 : decode cX8_keepsMind 66 = .ok (.getfield 42, 3) := by decide +kernel
theorem dX8_keepsMind_69 : decode cX8_keepsMind 69 = .ok (.iload_n 2, 1) := by decide +kernel
theorem dX8_keepsMind_70 : decode cX8_keepsMind 70 = .ok (.iaload, 1) := by decide +kernel
theorem dX8_keepsMind_71 : decode cX8_keepsMind 71 = .ok (.iastore, 1) := by decide +kernel
theorem dX8_keepsMind_72 : decode cX8_keepsMind 72 = .ok (.iinc 2 1, 3) := by decide +kernel
theorem dX8_keepsMind_75 : decode cX8_keepsMind 75 = .ok (.goto (-28), 3) := by decide +kernel
theorem dX8_keepsMind_78 : decode cX8_keepsMind 78 = .ok (.aload_n 0, 1) := by decide +kernel
theorem dX8_keepsMind_79 : decode cX8_keepsMind 79 = .ok (.dup, 1) := by decide +kernel
theorem dX8_keepsMind_80 : decode cX8_keepsMind 80 = .ok (.getfield 61, 3) := by decide +kernel
theorem dX8_keepsMind_83 : decode cX8_keepsMind 83 = .ok (.iconst 1, 1) := by decide +kernel
theorem dX8_keepsMind_84 : decode cX8_keepsMind 84 = .ok (.iadd, 1) := by decide +kernel
theorem dX8_keepsMind_85 : decode cX8_keepsMind 85 = .ok (.putfield 61, 3) := by decide +kernel
theorem dX8_keepsMind_88 : decode cX8_keepsMind 88 = .ok (.return_, 1) := by decide +kernel
theorem dX8_remembers_0 : decode cX8_remembers 0 = .ok (.aload_n 0, 1) := by decide +kernel
theorem dX8_remembers_1 : decode cX8_remembers 1 = .ok (.invokevirtual 67, 3) := by decide +kernel
theorem dX8_remembers_4 : decode cX8_remembers 4 = .ok (.aload_n 0, 1) := by decide +kernel
theorem dX8_remembers_5 : decode cX8_remembers 5 = .ok (.invokevirtual 70, 3) := by decide +kernel
theorem dX8_remembers_8 : decode cX8_remembers 8 = .ok (.return_, 1) := by decide +kernel
theorem dX8_is_0 : decode cX8_is 0 = .ok (.aload_n 0, 1) := by decide +kernel
theorem dX8_is_1 : decode cX8_is 1 = .ok (.getfield 32, 3) := by decide +kernel
theorem dX8_is_4 : decode cX8_is 4 = .ok (.bipush 22, 2) := by decide +kernel
theorem dX8_is_6 : decode cX8_is 6 = .ok (.iconst 5, 1) := by decide +kernel
theorem dX8_is_7 : decode cX8_is 7 = .ok (.iload_n 1, 1) := by decide +kernel
theorem dX8_is_8 : decode cX8_is 8 = .ok (.imul, 1) := by decide +kernel
theorem dX8_is_9 : decode cX8_is 9 = .ok (.iadd, 1) := by decide +kernel
theorem dX8_is_10 : decode cX8_is 10 = .ok (.iload_n 2, 1) := by decide +kernel
theorem dX8_is_11 : decode cX8_is 11 = .ok (.iadd, 1) := by decide +kernel
theorem dX8_is_12 : decode cX8_is 12 = .ok (.iaload, 1) := by decide +kernel
theorem dX8_is_13 : decode cX8_is 13 = .ok (.ireturn, 1) := by decide +kernel
theorem dX8_isJoke_0 : decode cX8_isJoke 0 = .ok (.iload_n 1, 1) := by decide +kernel
theorem dX8_isJoke_1 : decode cX8_isJoke 1 = .ok (.iconst 0, 1) := by decide +kernel
theorem dX8_isJoke_2 : decode cX8_isJoke 2 = .ok (.aload_n 0, 1) := by decide +kernel
theorem dX8_isJoke_3 : decode cX8_isJoke 3 = .ok (.getfield 32, 3) := by decide +kernel
theorem dX8_isJoke_6 : decode cX8_isJoke 6 = .ok (.iconst 0, 1) := by decide +kernel
theorem dX8_isJoke_7 : decode cX8_isJoke 7 = .ok (.iaload, 1) := by decide +kernel
theorem dX8_isJoke_8 : decode cX8_isJoke 8 = .ok (.iconst 1, 1) := by decide +kernel
theorem dX8_isJoke_9 : decode cX8_isJoke 9 = .ok (.isub, 1) := by decide +kernel
theorem dX8_isJoke_10 : decode cX8_isJoke 10 = .ok (.invokestatic 19, 3) := by decide +kernel
theorem dX8_isJoke_13 : decode cX8_isJoke 13 = .ok (.ireturn, 1) := by decide +kernel
theorem dX8_isWell_0 : decode cX8_isWell 0 = .ok (.iload_n 0, 1) := by decide +kernel
theorem dX8_isWell_1 : decode cX8_isWell 1 = .ok (.iconst 0, 1) := by decide +kernel
theorem dX8_isWell_2 : decode cX8_isWell 2 = .ok (.iconst 3, 1) := by decide +kernel
theorem dX8_isWell_3 : decode cX8_isWell 3 = .ok (.invokestatic 19, 3) := by decide +kernel
theorem dX8_isWell_6 : decode cX8_isWell 6 = .ok (.ireturn, 1) := by decide +kernel
theorem dX8_isKnownSign_0 : decode cX8_isKnownSign 0 = .ok (.aload_n 0, 1) := by decide +kernel
theorem dX8_isKnownSign_1 : decode cX8_isKnownSign 1 = .ok (.getfield 32, 3) := by decide +kernel
theorem dX8_isKnownSign_4 : decode cX8_isKnownSign 4 = .ok (.bipush 12, 2) := by decide +kernel
theorem dX8_isKnownSign_6 : decode cX8_isKnownSign 6 = .ok (.iload_n 1, 1) := by decide +kernel
theorem dX8_isKnownSign_7 : decode cX8_isKnownSign 7 = .ok (.bipush 32, 2) := by decide +kernel
theorem dX8_isKnownSign_9 : decode cX8_isKnownSign 9 = .ok (.idiv, 1) := by decide +kernel
theorem dX8_isKnownSign_10 : decode cX8_isKnownSign 10 = .ok (.iadd, 1) := by decide +kernel
theorem dX8_isKnownSign_11 : decode cX8_isKnownSign 11 = .ok (.iaload, 1) := by decide +kernel
theorem dX8_isKnownSign_12 : decode cX8_isKnownSign 12 = .ok (.iload_n 1, 1) := by decide +kernel
theorem dX8_isKnownSign_13 : decode cX8_isKnownSign 13 = .ok (.bipush 32, 2) := by decide +kernel
theorem dX8_isKnownSign_15 : decode cX8_isKnownSign 15 = .ok (.irem, 1) := by decide +kernel
theorem dX8_isKnownSign_16 : decode cX8_isKnownSign 16 = .ok (.ishr, 1) := by decide +kernel
theorem dX8_isKnownSign_17 : decode cX8_isKnownSign 17 = .ok (.iconst 1, 1) := by decide +kernel
theorem dX8_isKnownSign_18 : decode cX8_isKnownSign 18 = .ok (.iand, 1) := by decide +kernel
theorem dX8_isKnownSign_19 : decode cX8_isKnownSign 19 = .ok (.iconst 1, 1) := by decide +kernel
theorem dX8_isKnownSign_20 : decode cX8_isKnownSign 20 = .ok (.if_icmp .ne 7, 3) := by decide +kernel
theorem dX8_isKnownSign_23 : decode cX8_isKnownSign 23 = .ok (.iconst 1, 1) := by decide +kernel
theorem dX8_isKnownSign_24 : decode cX8_isKnownSign 24 = .ok (.goto 4, 3) := by decide +kernel
theorem dX8_isKnownSign_27 : decode cX8_isKnownSign 27 = .ok (.iconst 0, 1) := by decide +kernel
theorem dX8_isKnownSign_28 : decode cX8_isKnownSign 28 = .ok (.ireturn, 1) := by decide +kernel
theorem dX8_jokesIn_0 : decode cX8_jokesIn 0 = .ok (.iconst 0, 1) := by decide +kernel
theorem dX8_jokesIn_1 : decode cX8_jokesIn 1 = .ok (.istore_n 2, 1) := by decide +kernel
theorem dX8_jokesIn_2 : decode cX8_jokesIn 2 = .ok (.iconst 0, 1) := by decide +kernel
theorem dX8_jokesIn_3 : decode cX8_jokesIn 3 = .ok (.istore_n 3, 1) := by decide +kernel
theorem dX8_jokesIn_4 : decode cX8_jokesIn 4 = .ok (.iload_n 3, 1) := by decide +kernel
theorem dX8_jokesIn_5 : decode cX8_jokesIn 5 = .ok (.aload_n 0, 1) := by decide +kernel
theorem dX8_jokesIn_6 : decode cX8_jokesIn 6 = .ok (.getfield 32, 3) := by decide +kernel
theorem dX8_jokesIn_9 : decode cX8_jokesIn 9 = .ok (.iconst 0, 1) := by decide +kernel
theorem dX8_jokesIn_10 : decode cX8_jokesIn 10 = .ok (.iaload, 1) := by decide +kernel
theorem dX8_jokesIn_11 : decode cX8_jokesIn 11 = .ok (.if_icmp .ge 27, 3) := by decide +kernel
theorem dX8_jokesIn_14 : decode cX8_jokesIn 14 = .ok (.iload_n 2, 1) := by decide +kernel
theorem dX8_jokesIn_15 : decode cX8_jokesIn 15 = .ok (.aload_n 0, 1) := by decide +kernel
theorem dX8_jokesIn_16 : decode cX8_jokesIn 16 = .ok (.iload_n 3, 1) := by decide +kernel
theorem dX8_jokesIn_17 : decode cX8_jokesIn 17 = .ok (.iconst 0, 1) := by decide +kernel
theorem dX8_jokesIn_18 : decode cX8_jokesIn 18 = .ok (.invokevirtual 73, 3) := by decide +kernel
theorem dX8_jokesIn_21 : decode cX8_jokesIn 21 = .ok (.iload_n 1, 1) := by decide +kernel
theorem dX8_jokesIn_22 : decode cX8_jokesIn 22 = .ok (.if_icmp .ne 7, 3) := by decide +kernel
theorem dX8_jokesIn_25 : decode cX8_jokesIn 25 = .ok (.iconst 1, 1) := by decide +kernel
theorem dX8_jokesIn_26 : decode cX8_jokesIn 26 = .ok (.goto 4, 3) := by decide +kernel
theorem dX8_jokesIn_29 : decode cX8_jokesIn 29 = .ok (.iconst 0, 1) := by decide +kernel
theorem dX8_jokesIn_30 : decode cX8_jokesIn 30 = .ok (.iadd, 1) := by decide +kernel
theorem dX8_jokesIn_31 : decode cX8_jokesIn 31 = .ok (.istore_n 2, 1) := by decide +kernel
theorem dX8_jokesIn_32 : decode cX8_jokesIn 32 = .ok (.iinc 3 1, 3) := by decide +kernel
theorem dX8_jokesIn_35 : decode cX8_jokesIn 35 = .ok (.goto (-31), 3) := by decide +kernel
theorem dX8_jokesIn_38 : decode cX8_jokesIn 38 = .ok (.iload_n 2, 1) := by decide +kernel
theorem dX8_jokesIn_39 : decode cX8_jokesIn 39 = .ok (.ireturn, 1) := by decide +kernel
theorem dX8_jokeWith_0 : decode cX8_jokeWith 0 = .ok (.iconst 0, 1) := by decide +kernel
theorem dX8_jokeWith_1 : decode cX8_jokeWith 1 = .ok (.istore_n 2, 1) := by decide +kernel
theorem dX8_jokeWith_2 : decode cX8_jokeWith 2 = .ok (.iload_n 2, 1) := by decide +kernel
theorem dX8_jokeWith_3 : decode cX8_jokeWith 3 = .ok (.aload_n 0, 1) := by decide +kernel
theorem dX8_jokeWith_4 : decode cX8_jokeWith 4 = .ok (.getfield 32, 3) := by decide +kernel
theorem dX8_jokeWith_7 : decode cX8_jokeWith 7 = .ok (.iconst 0, 1) := by decide +kernel
theorem dX8_jokeWith_8 : decode cX8_jokeWith 8 = .ok (.iaload, 1) := by decide +kernel
theorem dX8_jokeWith_9 : decode cX8_jokeWith 9 = .ok (.if_icmp .ge 21, 3) := by decide +kernel
theorem dX8_jokeWith_12 : decode cX8_jokeWith 12 = .ok (.aload_n 0, 1) := by decide +kernel
theorem dX8_jokeWith_13 : decode cX8_jokeWith 13 = .ok (.iload_n 2, 1) := by decide +kernel
theorem dX8_jokeWith_14 : decode cX8_jokeWith 14 = .ok (.iconst 2, 1) := by decide +kernel
theorem dX8_jokeWith_15 : decode cX8_jokeWith 15 = .ok (.invokevirtual 73, 3) := by decide +kernel
theorem dX8_jokeWith_18 : decode cX8_jokeWith 18 = .ok (.iload_n 1, 1) := by decide +kernel
theorem dX8_jokeWith_19 : decode cX8_jokeWith 19 = .ok (.if_icmp .ne 5, 3) := by decide +kernel
theorem dX8_jokeWith_22 : decode cX8_jokeWith 22 = .ok (.iload_n 2, 1) := by decide +kernel
theorem dX8_jokeWith_23 : decode cX8_jokeWith 23 = .ok (.ireturn, 1) := by decide +kernel
theorem dX8_jokeWith_24 : decode cX8_jokeWith 24 = .ok (.iinc 2 1, 3) := by decide +kernel
theorem dX8_jokeWith_27 : decode cX8_jokeWith 27 = .ok (.goto (-25), 3) := by decide +kernel
theorem dX8_jokeWith_30 : decode cX8_jokeWith 30 = .ok (.iconst (-1), 1) := by decide +kernel
theorem dX8_jokeWith_31 : decode cX8_jokeWith 31 = .ok (.ireturn, 1) := by decide +kernel
theorem dX8_jokeAt_0 : decode cX8_jokeAt 0 = .ok (.iconst 0, 1) := by decide +kernel
theorem dX8_jokeAt_1 : decode cX8_jokeAt 1 = .ok (.istore_n 3, 1) := by decide +kernel
theorem dX8_jokeAt_2 : decode cX8_jokeAt 2 = .ok (.iload_n 3, 1) := by decide +kernel
theorem dX8_jokeAt_3 : decode cX8_jokeAt 3 = .ok (.aload_n 0, 1) := by decide +kernel
theorem dX8_jokeAt_4 : decode cX8_jokeAt 4 = .ok (.getfield 32, 3) := by decide +kernel
theorem dX8_jokeAt_7 : decode cX8_jokeAt 7 = .ok (.iconst 0, 1) := by decide +kernel
theorem dX8_jokeAt_8 : decode cX8_jokeAt 8 = .ok (.iaload, 1) := by decide +kernel
theorem dX8_jokeAt_9 : decode cX8_jokeAt 9 = .ok (.if_icmp .ge 31, 3) := by decide +kernel
theorem dX8_jokeAt_12 : decode cX8_jokeAt 12 = .ok (.aload_n 0, 1) := by decide +kernel
theorem dX8_jokeAt_13 : decode cX8_jokeAt 13 = .ok (.iload_n 3, 1) := by decide +kernel
theorem dX8_jokeAt_14 : decode cX8_jokeAt 14 = .ok (.iconst 0, 1) := by decide +kernel
theorem dX8_jokeAt_15 : decode cX8_jokeAt 15 = .ok (.invokevirtual 73, 3) := by decide +kernel
theorem dX8_jokeAt_18 : decode cX8_jokeAt 18 = .ok (.iload_n 1, 1) := by decide +kernel
theorem dX8_jokeAt_19 : decode cX8_jokeAt 19 = .ok (.if_icmp .ne 15, 3) := by decide +kernel
theorem dX8_jokeAt_22 : decode cX8_jokeAt 22 = .ok (.aload_n 0, 1) := by decide +kernel
theorem dX8_jokeAt_23 : decode cX8_jokeAt 23 = .ok (.iload_n 3, 1) := by decide +kernel
theorem dX8_jokeAt_24 : decode cX8_jokeAt 24 = .ok (.iconst 1, 1) := by decide +kernel
theorem dX8_jokeAt_25 : decode cX8_jokeAt 25 = .ok (.invokevirtual 73, 3) := by decide +kernel
theorem dX8_jokeAt_28 : decode cX8_jokeAt 28 = .ok (.iload_n 2, 1) := by decide +kernel
theorem dX8_jokeAt_29 : decode cX8_jokeAt 29 = .ok (.if_icmp .ne 5, 3) := by decide +kernel
theorem dX8_jokeAt_32 : decode cX8_jokeAt 32 = .ok (.iload_n 3, 1) := by decide +kernel
theorem dX8_jokeAt_33 : decode cX8_jokeAt 33 = .ok (.ireturn, 1) := by decide +kernel
theorem dX8_jokeAt_34 : decode cX8_jokeAt 34 = .ok (.iinc 3 1, 3) := by decide +kernel
theorem dX8_jokeAt_37 : decode cX8_jokeAt 37 = .ok (.goto (-35), 3) := by decide +kernel
theorem dX8_jokeAt_40 : decode cX8_jokeAt 40 = .ok (.iconst (-1), 1) := by decide +kernel
theorem dX8_jokeAt_41 : decode cX8_jokeAt 41 = .ok (.ireturn, 1) := by decide +kernel
theorem dX8_above_0 : decode cX8_above 0 = .ok (.iconst 0, 1) := by decide +kernel
theorem dX8_above_1 : decode cX8_above 1 = .ok (.istore_n 2, 1) := by decide +kernel
theorem dX8_above_2 : decode cX8_above 2 = .ok (.iconst 0, 1) := by decide +kernel
theorem dX8_above_3 : decode cX8_above 3 = .ok (.istore_n 3, 1) := by decide +kernel
theorem dX8_above_4 : decode cX8_above 4 = .ok (.iload_n 3, 1) := by decide +kernel
theorem dX8_above_5 : decode cX8_above 5 = .ok (.aload_n 0, 1) := by decide +kernel
theorem dX8_above_6 : decode cX8_above 6 = .ok (.getfield 32, 3) := by decide +kernel
theorem dX8_above_9 : decode cX8_above 9 = .ok (.iconst 0, 1) := by decide +kernel
theorem dX8_above_10 : decode cX8_above 10 = .ok (.iaload, 1) := by decide +kernel
theorem dX8_above_11 : decode cX8_above 11 = .ok (.if_icmp .ge 47, 3) := by decide +kernel
theorem dX8_above_14 : decode cX8_above 14 = .ok (.iload_n 2, 1) := by decide +kernel
theorem dX8_above_15 : decode cX8_above 15 = .ok (.aload_n 0, 1) := by decide +kernel
theorem dX8_above_16 : decode cX8_above 16 = .ok (.iload_n 3, 1) := by decide +kernel
theorem dX8_above_17 : decode cX8_above 17 = .ok (.iconst 0, 1) := by decide +kernel
theorem dX8_above_18 : decode cX8_above 18 = .ok (.invokevirtual 73, 3) := by decide +kernel
theorem dX8_above_21 : decode cX8_above 21 = .ok (.aload_n 0, 1) := by decide +kernel
theorem dX8_above_22 : decode cX8_above 22 = .ok (.iload_n 1, 1) := by decide +kernel
theorem dX8_above_23 : decode cX8_above 23 = .ok (.iconst 0, 1) := by decide +kernel
theorem dX8_above_24 : decode cX8_above 24 = .ok (.invokevirtual 73, 3) := by decide +kernel
theorem dX8_above_27 : decode cX8_above 27 = .ok (.if_icmp .ne 22, 3) := by decide +kernel
theorem dX8_above_30 : decode cX8_above 30 = .ok (.aload_n 0, 1) := by decide +kernel
theorem dX8_above_31 : decode cX8_above 31 = .ok (.iload_n 3, 1) := by decide +kernel
theorem dX8_above_32 : decode cX8_above 32 = .ok (.iconst 1, 1) := by decide +kernel
theorem dX8_above_33 : decode cX8_above 33 = .ok (.invokevirtual 73, 3) := by decide +kernel
theorem dX8_above_36 : decode cX8_above 36 = .ok (.aload_n 0, 1) := by decide +kernel
theorem dX8_above_37 : decode cX8_above 37 = .ok (.iload_n 1, 1) := by decide +kernel
theorem dX8_above_38 : decode cX8_above 38 = .ok (.iconst 1, 1) := by decide +kernel
theorem dX8_above_39 : decode cX8_above 39 = .ok (.invokevirtual 73, 3) := by decide +kernel
theorem dX8_above_42 : decode cX8_above 42 = .ok (.if_icmp .ge 7, 3) := by decide +kernel
theorem dX8_above_45 : decode cX8_above 45 = .ok (.iconst 1, 1) := by decide +kernel
theorem dX8_above_46 : decode cX8_above 46 = .ok (.goto 4, 3) := by decide +kernel
theorem dX8_above_49 : decode cX8_above 49 = .ok (.iconst 0, 1) := by decide +kernel
theorem dX8_above_50 : decode cX8_above 50 = .ok (.iadd, 1) := by decide +kernel
theorem dX8_above_51 : decode cX8_above 51 = .ok (.istore_n 2, 1) := by decide +kernel
theorem dX8_above_52 : decode cX8_above 52 = .ok (.iinc 3 1, 3) := by decide +kernel
theorem dX8_above_55 : decode cX8_above 55 = .ok (.goto (-51), 3) := by decide +kernel
theorem dX8_above_58 : decode cX8_above 58 = .ok (.iload_n 2, 1) := by decide +kernel
theorem dX8_above_59 : decode cX8_above 59 = .ok (.ireturn, 1) := by decide +kernel
theorem dX8_atPlace_0 : decode cX8_atPlace 0 = .ok (.iconst 0, 1) := by decide +kernel
theorem dX8_atPlace_1 : decode cX8_atPlace 1 = .ok (.istore_n 3, 1) := by decide +kernel
theorem dX8_atPlace_2 : decode cX8_atPlace 2 = .ok (.iload_n 3, 1) := by decide +kernel
theorem dX8_atPlace_3 : decode cX8_atPlace 3 = .ok (.aload_n 0, 1) := by decide +kernel
theorem dX8_atPlace_4 : decode cX8_atPlace 4 = .ok (.getfield 32, 3) := by decide +kernel
theorem dX8_atPlace_7 : decode cX8_atPlace 7 = .ok (.iconst 0, 1) := by decide +kernel
theorem dX8_atPlace_8 : decode cX8_atPlace 8 = .ok (.iaload, 1) := by decide +kernel
theorem dX8_atPlace_9 : decode cX8_atPlace 9 = .ok (.if_icmp .ge 30, 3) := by decide +kernel
theorem dX8_atPlace_12 : decode cX8_atPlace 12 = .ok (.aload_n 0, 1) := by decide +kernel
theorem dX8_atPlace_13 : decode cX8_atPlace 13 = .ok (.iload_n 3, 1) := by decide +kernel
theorem dX8_atPlace_14 : decode cX8_atPlace 14 = .ok (.iconst 0, 1) := by decide +kernel
theorem dX8_atPlace_15 : decode cX8_atPlace 15 = .ok (.invokevirtual 73, 3) := by decide +kernel
theorem dX8_atPlace_18 : decode cX8_atPlace 18 = .ok (.iload_n 1, 1) := by decide +kernel
theorem dX8_atPlace_19 : decode cX8_atPlace 19 = .ok (.if_icmp .ne 14, 3) := by decide +kernel
theorem dX8_atPlace_22 : decode cX8_atPlace 22 = .ok (.aload_n 0, 1) := by decide +kernel
theorem dX8_atPlace_23 : decode cX8_atPlace 23 = .ok (.iload_n 3, 1) := by decide +kernel
theorem dX8_atPlace_24 : decode cX8_atPlace 24 = .ok (.invokevirtual 77, 3) := by decide +kernel
theorem dX8_atPlace_27 : decode cX8_atPlace 27 = .ok (.iload_n 2, 1) := by decide +kernel
theorem dX8_atPlace_28 : decode cX8_atPlace 28 = .ok (.if_icmp .ne 5, 3) := by decide +kernel
theorem dX8_atPlace_31 : decode cX8_atPlace 31 = .ok (.iload_n 3, 1) := by decide +kernel
theorem dX8_atPlace_32 : decode cX8_atPlace 32 = .ok (.ireturn, 1) := by decide +kernel
theorem dX8_atPlace_33 : decode cX8_atPlace 33 = .ok (.iinc 3 1, 3) := by decide +kernel
theorem dX8_atPlace_36 : decode cX8_atPlace 36 = .ok (.goto (-34), 3) := by decide +kernel
theorem dX8_atPlace_39 : decode cX8_atPlace 39 = .ok (.iconst (-1), 1) := by decide +kernel
theorem dX8_atPlace_40 : decode cX8_atPlace 40 = .ok (.ireturn, 1) := by decide +kernel
theorem dX8_notJoke_0 : decode cX8_notJoke 0 = .ok (.iload_n 1, 1) := by decide +kernel
theorem dX8_notJoke_1 : decode cX8_notJoke 1 = .ok (.invokestatic 81, 3) := by decide +kernel
theorem dX8_notJoke_4 : decode cX8_notJoke 4 = .ok (.ifCond .ne 5, 3) := by decide +kernel
theorem dX8_notJoke_7 : decode cX8_notJoke 7 = .ok (.iconst (-1), 1) := by decide +kernel
theorem dX8_notJoke_8 : decode cX8_notJoke 8 = .ok (.ireturn, 1) := by decide +kernel
theorem dX8_notJoke_9 : decode cX8_notJoke 9 = .ok (.iload_n 2, 1) := by decide +kernel
theorem dX8_notJoke_10 : decode cX8_notJoke 10 = .ok (.iconst 1, 1) := by decide +kernel
theorem dX8_notJoke_11 : decode cX8_notJoke 11 = .ok (.bipush 30, 2) := by decide +kernel
theorem dX8_notJoke_13 : decode cX8_notJoke 13 = .ok (.invokestatic 19, 3) := by decide +kernel
theorem dX8_notJoke_16 : decode cX8_notJoke 16 = .ok (.ifCond .eq 24, 3) := by decide +kernel
theorem dX8_notJoke_19 : decode cX8_notJoke 19 = .ok (.iload_n 3, 1) := by decide +kernel
theorem dX8_notJoke_20 : decode cX8_notJoke 20 = .ok (.iconst 0, 1) := by decide +kernel
theorem dX8_notJoke_21 : decode cX8_notJoke 21 = .ok (.bipush 63, 2) := by decide +kernel
theorem dX8_notJoke_23 : decode cX8_notJoke 23 = .ok (.invokestatic 19, 3) := by decide +kernel
theorem dX8_notJoke_26 : decode cX8_notJoke 26 = .ok (.ifCond .eq 14, 3) := by decide +kernel
theorem dX8_notJoke_29 : decode cX8_notJoke 29 = .ok (.iload 4, 2) := by decide +kernel
theorem dX8_notJoke_31 : decode cX8_notJoke 31 = .ok (.iconst 1, 1) := by decide +kernel
theorem dX8_notJoke_32 : decode cX8_notJoke 32 = .ok (.bipush 9, 2) := by decide +kernel
theorem dX8_notJoke_34 : decode cX8_notJoke 34 = .ok (.invokestatic 19, 3) := by decide +kernel
theorem dX8_notJoke_37 : decode cX8_notJoke 37 = .ok (.ifCond .ne 6, 3) := by decide +kernel
theorem dX8_notJoke_40 : decode cX8_notJoke 40 = .ok (.bipush (-2), 2) := by decide +kernel
theorem dX8_notJoke_42 : decode cX8_notJoke 42 = .ok (.ireturn, 1) := by decide +kernel
theorem dX8_notJoke_43 : decode cX8_notJoke 43 = .ok (.aload_n 0, 1) := by decide +kernel
theorem dX8_notJoke_44 : decode cX8_notJoke 44 = .ok (.iload_n 3, 1) := by decide +kernel
theorem dX8_notJoke_45 : decode cX8_notJoke 45 = .ok (.invokevirtual 85, 3) := by decide +kernel
theorem dX8_notJoke_48 : decode cX8_notJoke 48 = .ok (.ifCond .eq 10, 3) := by decide +kernel
theorem dX8_notJoke_51 : decode cX8_notJoke 51 = .ok (.aload_n 0, 1) := by decide +kernel
theorem dX8_notJoke_52 : decode cX8_notJoke 52 = .ok (.iconst 3, 1) := by decide +kernel
theorem dX8_notJoke_53 : decode cX8_notJoke 53 = .ok (.iload_n 3, 1) := by decide +kernel
theorem dX8_notJoke_54 : decode cX8_notJoke 54 = .ok (.invokevirtual 88, 3) := by decide +kernel
theorem dX8_notJoke_57 : decode cX8_notJoke 57 = .ok (.ireturn, 1) := by decide +kernel
theorem dX8_notJoke_58 : decode cX8_notJoke 58 = .ok (.aload_n 0, 1) := by decide +kernel
theorem dX8_notJoke_59 : decode cX8_notJoke 59 = .ok (.iload_n 3, 1) := by decide +kernel
theorem dX8_notJoke_60 : decode cX8_notJoke 60 = .ok (.invokevirtual 91, 3) := by decide +kernel
theorem dX8_notJoke_63 : decode cX8_notJoke 63 = .ok (.ifCond .lt 14, 3) := by decide +kernel
theorem dX8_notJoke_66 : decode cX8_notJoke 66 = .ok (.aload_n 0, 1) := by decide +kernel
theorem dX8_notJoke_67 : decode cX8_notJoke 67 = .ok (.iconst 4, 1) := by decide +kernel
theorem dX8_notJoke_68 : decode cX8_notJoke 68 = .ok (.aload_n 0, 1) := by decide +kernel
theorem dX8_notJoke_69 : decode cX8_notJoke 69 = .ok (.iload_n 3, 1) := by decide +kernel
theorem dX8_notJoke_70 : decode cX8_notJoke 70 = .ok (.invokevirtual 91, 3) := by decide +kernel
theorem dX8_notJoke_73 : decode cX8_notJoke 73 = .ok (.invokevirtual 88, 3) := by decide +kernel
theorem dX8_notJoke_76 : decode cX8_notJoke 76 = .ok (.ireturn, 1) := by decide +kernel
theorem dX8_notJoke_77 : decode cX8_notJoke 77 = .ok (.aload_n 0, 1) := by decide +kernel
theorem dX8_notJoke_78 : decode cX8_notJoke 78 = .ok (.iload_n 1, 1) := by decide +kernel
theorem dX8_notJoke_79 : decode cX8_notJoke 79 = .ok (.iload_n 2, 1) := by decide +kernel
theorem dX8_notJoke_80 : decode cX8_notJoke 80 = .ok (.invokevirtual 94, 3) := by decide +kernel
theorem dX8_notJoke_83 : decode cX8_notJoke 83 = .ok (.ifCond .lt 15, 3) := by decide +kernel
theorem dX8_notJoke_86 : decode cX8_notJoke 86 = .ok (.aload_n 0, 1) := by decide +kernel
theorem dX8_notJoke_87 : decode cX8_notJoke 87 = .ok (.iconst 2, 1) := by decide +kernel
theorem dX8_notJoke_88 : decode cX8_notJoke 88 = .ok (.aload_n 0, 1) := by decide +kernel
theorem dX8_notJoke_89 : decode cX8_notJoke 89 = .ok (.iload_n 1, 1) := by decide +kernel
theorem dX8_notJoke_90 : decode cX8_notJoke 90 = .ok (.iload_n 2, 1) := by decide +kernel
theorem dX8_notJoke_91 : decode cX8_notJoke 91 = .ok (.invokevirtual 94, 3) := by decide +kernel
theorem dX8_notJoke_94 : decode cX8_notJoke 94 = .ok (.invokevirtual 88, 3) := by decide +kernel
theorem dX8_notJoke_97 : decode cX8_notJoke 97 = .ok (.ireturn, 1) := by decide +kernel
theorem dX8_notJoke_98 : decode cX8_notJoke 98 = .ok (.aload_n 0, 1) := by decide +kernel
theorem dX8_notJoke_99 : decode cX8_notJoke 99 = .ok (.getfield 32, 3) := by decide +kernel
theorem dX8_notJoke_102 : decode cX8_notJoke 102 = .ok (.iconst 0, 1) := by decide +kernel
theorem dX8_notJoke_103 : decode cX8_notJoke 103 = .ok (.iaload, 1) := by decide +kernel
theorem dX8_notJoke_104 : decode cX8_notJoke 104 = .ok (.bipush 12, 2) := by decide +kernel
theorem dX8_notJoke_106 : decode cX8_notJoke 106 = .ok (.if_icmp .ne 11, 3) := by decide +kernel
theorem dX8_notJoke_109 : decode cX8_notJoke 109 = .ok (.aload_n 0, 1) := by decide +kernel
theorem dX8_notJoke_110 : decode cX8_notJoke 110 = .ok (.iconst 1, 1) := by decide +kernel
theorem dX8_notJoke_111 : decode cX8_notJoke 111 = .ok (.bipush 12, 2) := by decide +kernel
theorem dX8_notJoke_113 : decode cX8_notJoke 113 = .ok (.invokevirtual 88, 3) := by decide +kernel
theorem dX8_notJoke_116 : decode cX8_notJoke 116 = .ok (.ireturn, 1) := by decide +kernel
theorem dX8_notJoke_117 : decode cX8_notJoke 117 = .ok (.aload_n 0, 1) := by decide +kernel
theorem dX8_notJoke_118 : decode cX8_notJoke 118 = .ok (.iload_n 1, 1) := by decide +kernel
theorem dX8_notJoke_119 : decode cX8_notJoke 119 = .ok (.invokevirtual 97, 3) := by decide +kernel
theorem dX8_notJoke_122 : decode cX8_notJoke 122 = .ok (.bipush 6, 2) := by decide +kernel
theorem dX8_notJoke_124 : decode cX8_notJoke 124 = .ok (.if_icmp .ne 13, 3) := by decide +kernel
theorem dX8_notJoke_127 : decode cX8_notJoke 127 = .ok (.aload_n 0, 1) := by decide +kernel
theorem dX8_notJoke_128 : decode cX8_notJoke 128 = .ok (.iconst 1, 1) := by decide +kernel
theorem dX8_notJoke_129 : decode cX8_notJoke 129 = .ok (.bipush 6, 2) := by decide +kernel
theorem dX8_notJoke_131 : decode cX8_notJoke 131 = .ok (.invokevirtual 88, 3) := by decide +kernel
theorem dX8_notJoke_134 : decode cX8_notJoke 134 = .ok (.goto 4, 3) := by decide +kernel
theorem dX8_notJoke_137 : decode cX8_notJoke 137 = .ok (.iconst 0, 1) := by decide +kernel
theorem dX8_notJoke_138 : decode cX8_notJoke 138 = .ok (.ireturn, 1) := by decide +kernel
theorem dX8_comes_0 : decode cX8_comes 0 = .ok (.bipush 22, 2) := by decide +kernel
theorem dX8_comes_2 : decode cX8_comes 2 = .ok (.iconst 5, 1) := by decide +kernel
theorem dX8_comes_3 : decode cX8_comes 3 = .ok (.aload_n 0, 1) := by decide +kernel
theorem dX8_comes_4 : decode cX8_comes 4 = .ok (.getfield 32, 3) := by decide +kernel
theorem dX8_comes_7 : decode cX8_comes 7 = .ok (.iconst 0, 1) := by decide +kernel
theorem dX8_comes_8 : decode cX8_comes 8 = .ok (.iaload, 1) := by decide +kernel
theorem dX8_comes_9 : decode cX8_comes 9 = .ok (.imul, 1) := by decide +kernel
theorem dX8_comes_10 : decode cX8_comes 10 = .ok (.iadd, 1) := by decide +kernel
theorem dX8_comes_11 : decode cX8_comes 11 = .ok (.istore 5, 2) := by decide +kernel
theorem dX8_comes_13 : decode cX8_comes 13 = .ok (.aload_n 0, 1) := by decide +kernel
theorem dX8_comes_14 : decode cX8_comes 14 = .ok (.getfield 32, 3) := by decide +kernel
theorem dX8_comes_17 : decode cX8_comes 17 = .ok (.iload 5, 2) := by decide +kernel
theorem dX8_comes_19 : decode cX8_comes 19 = .ok (.iconst 0, 1) := by decide +kernel
theorem dX8_comes_20 : decode cX8_comes 20 = .ok (.iadd, 1) := by decide +kernel
theorem dX8_comes_21 : decode cX8_comes 21 = .ok (.iload_n 1, 1) := by decide +kernel
theorem dX8_comes_22 : decode cX8_comes 22 = .ok (.iastore, 1) := by decide +kernel
theorem dX8_comes_23 : decode cX8_comes 23 = .ok (.aload_n 0, 1) := by decide +kernel
theorem dX8_comes_24 : decode cX8_comes 24 = .ok (.getfield 32, 3) := by decide +kernel
theorem dX8_comes_27 : decode cX8_comes 27 = .ok (.iload 5, 2) := by decide +kernel
theorem dX8_comes_29 : decode cX8_comes 29 = .ok (.iconst 1, 1) := by decide +kernel
theorem dX8_comes_30 : decode cX8_comes 30 = .ok (.iadd, 1) := by decide +kernel
theorem dX8_comes_31 : decode cX8_comes 31 = .ok (.iload_n 2, 1) := by decide +kernel
theorem dX8_comes_32 : decode cX8_comes 32 = .ok (.iastore, 1) := by decide +kernel
theorem dX8_comes_33 : decode cX8_comes 33 = .ok (.aload_n 0, 1) := by decide +kernel
theorem dX8_comes_34 : decode cX8_comes 34 = .ok (.getfield 32, 3) := by decide +kernel
theorem dX8_comes_37 : decode cX8_comes 37 = .ok (.iload 5, 2) := by decide +kernel
theorem dX8_comes_39 : decode cX8_comes 39 = .ok (.iconst 2, 1) := by decide +kernel
theorem dX8_comes_40 : decode cX8_comes 40 = .ok (.iadd, 1) := by decide +kernel
theorem dX8_comes_41 : decode cX8_comes 41 = .ok (.iload_n 3, 1) := by decide +kernel
theorem dX8_comes_42 : decode cX8_comes 42 = .ok (.iastore, 1) := by decide +kernel
theorem dX8_comes_43 : decode cX8_comes 43 = .ok (.aload_n 0, 1) := by decide +kernel
theorem dX8_comes_44 : decode cX8_comes 44 = .ok (.getfield 32, 3) := by decide +kernel
theorem dX8_comes_47 : decode cX8_comes 47 = .ok (.iload 5, 2) := by decide +kernel
theorem dX8_comes_49 : decode cX8_comes 49 = .ok (.iconst 3, 1) := by decide +kernel
theorem dX8_comes_50 : decode cX8_comes 50 = .ok (.iadd, 1) := by decide +kernel
theorem dX8_comes_51 : decode cX8_comes 51 = .ok (.iload 4, 2) := by decide +kernel
theorem dX8_comes_53 : decode cX8_comes 53 = .ok (.iastore, 1) := by decide +kernel
theorem dX8_comes_54 : decode cX8_comes 54 = .ok (.aload_n 0, 1) := by decide +kernel
theorem dX8_comes_55 : decode cX8_comes 55 = .ok (.getfield 32, 3) := by decide +kernel
theorem dX8_comes_58 : decode cX8_comes 58 = .ok (.iload 5, 2) := by decide +kernel
theorem dX8_comes_60 : decode cX8_comes 60 = .ok (.iconst 4, 1) := by decide +kernel
theorem dX8_comes_61 : decode cX8_comes 61 = .ok (.iadd, 1) := by decide +kernel
theorem dX8_comes_62 : decode cX8_comes 62 = .ok (.iconst 0, 1) := by decide +kernel
theorem dX8_comes_63 : decode cX8_comes 63 = .ok (.iastore, 1) := by decide +kernel
theorem dX8_comes_64 : decode cX8_comes 64 = .ok (.aload_n 0, 1) := by decide +kernel
theorem dX8_comes_65 : decode cX8_comes 65 = .ok (.getfield 32, 3) := by decide +kernel
theorem dX8_comes_68 : decode cX8_comes 68 = .ok (.bipush 7, 2) := by decide +kernel
theorem dX8_comes_70 : decode cX8_comes 70 = .ok (.dup2, 1) := by decide +kernel
theorem dX8_comes_71 : decode cX8_comes 71 = .ok (.iaload, 1) := by decide +kernel
theorem dX8_comes_72 : decode cX8_comes 72 = .ok (.iconst 1, 1) := by decide +kernel
theorem dX8_comes_73 : decode cX8_comes 73 = .ok (.iadd, 1) := by decide +kernel
theorem dX8_comes_74 : decode cX8_comes 74 = .ok (.iastore, 1) := by decide +kernel
theorem dX8_comes_75 : decode cX8_comes 75 = .ok (.aload_n 0, 1) := by decide +kernel
theorem dX8_comes_76 : decode cX8_comes 76 = .ok (.getfield 32, 3) := by decide +kernel
theorem dX8_comes_79 : decode cX8_comes 79 = .ok (.iconst 0, 1) := by decide +kernel
theorem dX8_comes_80 : decode cX8_comes 80 = .ok (.dup2, 1) := by decide +kernel
theorem dX8_comes_81 : decode cX8_comes 81 = .ok (.iaload, 1) := by decide +kernel
theorem dX8_comes_82 : decode cX8_comes 82 = .ok (.iconst 1, 1) := by decide +kernel
theorem dX8_comes_83 : decode cX8_comes 83 = .ok (.iadd, 1) := by decide +kernel
theorem dX8_comes_84 : decode cX8_comes 84 = .ok (.iastore, 1) := by decide +kernel
theorem dX8_comes_85 : decode cX8_comes 85 = .ok (.aload_n 0, 1) := by decide +kernel
theorem dX8_comes_86 : decode cX8_comes 86 = .ok (.getfield 32, 3) := by decide +kernel
theorem dX8_comes_89 : decode cX8_comes 89 = .ok (.iconst 0, 1) := by decide +kernel
theorem dX8_comes_90 : decode cX8_comes 90 = .ok (.iaload, 1) := by decide +kernel
theorem dX8_comes_91 : decode cX8_comes 91 = .ok (.iconst 1, 1) := by decide +kernel
theorem dX8_comes_92 : decode cX8_comes 92 = .ok (.isub, 1) := by decide +kernel
theorem dX8_comes_93 : decode cX8_comes 93 = .ok (.ireturn, 1) := by decide +kernel
theorem dX8_joke_0 : decode cX8_joke 0 = .ok (.aload_n 0, 1) := by decide +kernel
theorem dX8_joke_1 : decode cX8_joke 1 = .ok (.iload_n 1, 1) := by decide +kernel
theorem dX8_joke_2 : decode cX8_joke 2 = .ok (.iload_n 2, 1) := by decide +kernel
theorem dX8_joke_3 : decode cX8_joke 3 = .ok (.iload_n 3, 1) := by decide +kernel
theorem dX8_joke_4 : decode cX8_joke 4 = .ok (.iload 4, 2) := by decide +kernel
theorem dX8_joke_6 : decode cX8_joke 6 = .ok (.invokevirtual 100, 3) := by decide +kernel
theorem dX8_joke_9 : decode cX8_joke 9 = .ok (.istore 5, 2) := by decide +kernel
theorem dX8_joke_11 : decode cX8_joke 11 = .ok (.iload 5, 2) := by decide +kernel
theorem dX8_joke_13 : decode cX8_joke 13 = .ok (.ifCond .eq 10, 3) := by decide +kernel
theorem dX8_joke_16 : decode cX8_joke 16 = .ok (.aload_n 0, 1) := by decide +kernel
theorem dX8_joke_17 : decode cX8_joke 17 = .ok (.iload 5, 2) := by decide +kernel
theorem dX8_joke_19 : decode cX8_joke 19 = .ok (.invokevirtual 104, 3) := by decide +kernel
theorem dX8_joke_22 : decode cX8_joke 22 = .ok (.ireturn, 1) := by decide +kernel
theorem dX8_joke_23 : decode cX8_joke 23 = .ok (.aload_n 0, 1) := by decide +kernel
theorem dX8_joke_24 : decode cX8_joke 24 = .ok (.invokevirtual 107, 3) := by decide +kernel
theorem dX8_joke_27 : decode cX8_joke 27 = .ok (.aload_n 0, 1) := by decide +kernel
theorem dX8_joke_28 : decode cX8_joke 28 = .ok (.iload_n 1, 1) := by decide +kernel
theorem dX8_joke_29 : decode cX8_joke 29 = .ok (.iload_n 2, 1) := by decide +kernel
theorem dX8_joke_30 : decode cX8_joke 30 = .ok (.iload_n 3, 1) := by decide +kernel
theorem dX8_joke_31 : decode cX8_joke 31 = .ok (.iload 4, 2) := by decide +kernel
theorem dX8_joke_33 : decode cX8_joke 33 = .ok (.invokevirtual 110, 3) := by decide +kernel
theorem dX8_joke_36 : decode cX8_joke 36 = .ok (.ireturn, 1) := by decide +kernel
theorem dX8_notPrime_0 : decode cX8_notPrime 0 = .ok (.aload_n 0, 1) := by decide +kernel
theorem dX8_notPrime_1 : decode cX8_notPrime 1 = .ok (.iload_n 1, 1) := by decide +kernel
theorem dX8_notPrime_2 : decode cX8_notPrime 2 = .ok (.invokevirtual 113, 3) := by decide +kernel
theorem dX8_notPrime_5 : decode cX8_notPrime 5 = .ok (.ifCond .ne 5, 3) := by decide +kernel
theorem dX8_notPrime_8 : decode cX8_notPrime 8 = .ok (.iconst (-1), 1) := by decide +kernel
theorem dX8_notPrime_9 : decode cX8_notPrime 9 = .ok (.ireturn, 1) := by decide +kernel
theorem dX8_notPrime_10 : decode cX8_notPrime 10 = .ok (.aload_n 0, 1) := by decide +kernel
theorem dX8_notPrime_11 : decode cX8_notPrime 11 = .ok (.iload_n 1, 1) := by decide +kernel
theorem dX8_notPrime_12 : decode cX8_notPrime 12 = .ok (.iconst 4, 1) := by decide +kernel
theorem dX8_notPrime_13 : decode cX8_notPrime 13 = .ok (.invokevirtual 73, 3) := by decide +kernel
theorem dX8_notPrime_16 : decode cX8_notPrime 16 = .ok (.iconst 1, 1) := by decide +kernel
theorem dX8_notPrime_17 : decode cX8_notPrime 17 = .ok (.if_icmp .ne 10, 3) := by decide +kernel
theorem dX8_notPrime_20 : decode cX8_notPrime 20 = .ok (.aload_n 0, 1) := by decide +kernel
theorem dX8_notPrime_21 : decode cX8_notPrime 21 = .ok (.iconst 5, 1) := by decide +kernel
theorem dX8_notPrime_22 : decode cX8_notPrime 22 = .ok (.iload_n 1, 1) := by decide +kernel
theorem dX8_notPrime_23 : decode cX8_notPrime 23 = .ok (.invokevirtual 88, 3) := by decide +kernel
theorem dX8_notPrime_26 : decode cX8_notPrime 26 = .ok (.ireturn, 1) := by decide +kernel
theorem dX8_notPrime_27 : decode cX8_notPrime 27 = .ok (.aload_n 0, 1) := by decide +kernel
theorem dX8_notPrime_28 : decode cX8_notPrime 28 = .ok (.getfield 32, 3) := by decide +kernel
theorem dX8_notPrime_31 : decode cX8_notPrime 31 = .ok (.iconst 5, 1) := by decide +kernel
theorem dX8_notPrime_32 : decode cX8_notPrime 32 = .ok (.iaload, 1) := by decide +kernel
theorem dX8_notPrime_33 : decode cX8_notPrime 33 = .ok (.ifCond .ne 18, 3) := by decide +kernel
theorem dX8_notPrime_36 : decode cX8_notPrime 36 = .ok (.aload_n 0, 1) := by decide +kernel
theorem dX8_notPrime_37 : decode cX8_notPrime 37 = .ok (.bipush 6, 2) := by decide +kernel
theorem dX8_notPrime_39 : decode cX8_notPrime 39 = .ok (.aload_n 0, 1) := by decide +kernel
theorem dX8_notPrime_40 : decode cX8_notPrime 40 = .ok (.getfield 32, 3) := by decide +kernel
theorem dX8_notPrime_43 : decode cX8_notPrime 43 = .ok (.iconst 4, 1) := by decide +kernel
theorem dX8_notPrime_44 : decode cX8_notPrime 44 = .ok (.iaload, 1) := by decide +kernel
theorem dX8_notPrime_45 : decode cX8_notPrime 45 = .ok (.invokevirtual 88, 3) := by decide +kernel
theorem dX8_notPrime_48 : decode cX8_notPrime 48 = .ok (.goto 4, 3) := by decide +kernel
theorem dX8_notPrime_51 : decode cX8_notPrime 51 = .ok (.iconst 0, 1) := by decide +kernel
theorem dX8_notPrime_52 : decode cX8_notPrime 52 = .ok (.ireturn, 1) := by decide +kernel
theorem dX8_primes_0 : decode cX8_primes 0 = .ok (.aload_n 0, 1) := by decide +kernel
theorem dX8_primes_1 : decode cX8_primes 1 = .ok (.getfield 32, 3) := by decide +kernel
theorem dX8_primes_4 : decode cX8_primes 4 = .ok (.bipush 22, 2) := by decide +kernel
theorem dX8_primes_6 : decode cX8_primes 6 = .ok (.iconst 5, 1) := by decide +kernel
theorem dX8_primes_7 : decode cX8_primes 7 = .ok (.iload_n 1, 1) := by decide +kernel
theorem dX8_primes_8 : decode cX8_primes 8 = .ok (.imul, 1) := by decide +kernel
theorem dX8_primes_9 : decode cX8_primes 9 = .ok (.iadd, 1) := by decide +kernel
theorem dX8_primes_10 : decode cX8_primes 10 = .ok (.iconst 4, 1) := by decide +kernel
theorem dX8_primes_11 : decode cX8_primes 11 = .ok (.iadd, 1) := by decide +kernel
theorem dX8_primes_12 : decode cX8_primes 12 = .ok (.iconst 1, 1) := by decide +kernel
theorem dX8_primes_13 : decode cX8_primes 13 = .ok (.iastore, 1) := by decide +kernel
theorem dX8_primes_14 : decode cX8_primes 14 = .ok (.aload_n 0, 1) := by decide +kernel
theorem dX8_primes_15 : decode cX8_primes 15 = .ok (.getfield 32, 3) := by decide +kernel
theorem dX8_primes_18 : decode cX8_primes 18 = .ok (.iconst 5, 1) := by decide +kernel
theorem dX8_primes_19 : decode cX8_primes 19 = .ok (.dup2, 1) := by decide +kernel
theorem dX8_primes_20 : decode cX8_primes 20 = .ok (.iaload, 1) := by decide +kernel
theorem dX8_primes_21 : decode cX8_primes 21 = .ok (.iconst 1, 1) := by decide +kernel
theorem dX8_primes_22 : decode cX8_primes 22 = .ok (.isub, 1) := by decide +kernel
theorem dX8_primes_23 : decode cX8_primes 23 = .ok (.iastore, 1) := by decide +kernel
theorem dX8_primes_24 : decode cX8_primes 24 = .ok (.aload_n 0, 1) := by decide +kernel
theorem dX8_primes_25 : decode cX8_primes 25 = .ok (.getfield 32, 3) := by decide +kernel
theorem dX8_primes_28 : decode cX8_primes 28 = .ok (.iconst 5, 1) := by decide +kernel
theorem dX8_primes_29 : decode cX8_primes 29 = .ok (.iaload, 1) := by decide +kernel
theorem dX8_primes_30 : decode cX8_primes 30 = .ok (.ireturn, 1) := by decide +kernel
theorem dX8_prime_0 : decode cX8_prime 0 = .ok (.aload_n 0, 1) := by decide +kernel
theorem dX8_prime_1 : decode cX8_prime 1 = .ok (.iload_n 1, 1) := by decide +kernel
theorem dX8_prime_2 : decode cX8_prime 2 = .ok (.invokevirtual 116, 3) := by decide +kernel
theorem dX8_prime_5 : decode cX8_prime 5 = .ok (.istore_n 2, 1) := by decide +kernel
theorem dX8_prime_6 : decode cX8_prime 6 = .ok (.iload_n 2, 1) := by decide +kernel
theorem dX8_prime_7 : decode cX8_prime 7 = .ok (.ifCond .eq 9, 3) := by decide +kernel
theorem dX8_prime_10 : decode cX8_prime 10 = .ok (.aload_n 0, 1) := by decide +kernel
theorem dX8_prime_11 : decode cX8_prime 11 = .ok (.iload_n 2, 1) := by decide +kernel
theorem dX8_prime_12 : decode cX8_prime 12 = .ok (.invokevirtual 104, 3) := by decide +kernel
theorem dX8_prime_15 : decode cX8_prime 15 = .ok (.ireturn, 1) := by decide +kernel
theorem dX8_prime_16 : decode cX8_prime 16 = .ok (.aload_n 0, 1) := by decide +kernel
theorem dX8_prime_17 : decode cX8_prime 17 = .ok (.invokevirtual 107, 3) := by decide +kernel
theorem dX8_prime_20 : decode cX8_prime 20 = .ok (.aload_n 0, 1) := by decide +kernel
theorem dX8_prime_21 : decode cX8_prime 21 = .ok (.iload_n 1, 1) := by decide +kernel
theorem dX8_prime_22 : decode cX8_prime 22 = .ok (.invokevirtual 119, 3) := by decide +kernel
theorem dX8_prime_25 : decode cX8_prime 25 = .ok (.ireturn, 1) := by decide +kernel
theorem dX8_goes_0 : decode cX8_goes 0 = .ok (.aload_n 0, 1) := by decide +kernel
theorem dX8_goes_1 : decode cX8_goes 1 = .ok (.getfield 32, 3) := by decide +kernel
theorem dX8_goes_4 : decode cX8_goes 4 = .ok (.iconst 0, 1) := by decide +kernel
theorem dX8_goes_5 : decode cX8_goes 5 = .ok (.dup2, 1) := by decide +kernel
theorem dX8_goes_6 : decode cX8_goes 6 = .ok (.iaload, 1) := by decide +kernel
theorem dX8_goes_7 : decode cX8_goes 7 = .ok (.iconst 1, 1) := by decide +kernel
theorem dX8_goes_8 : decode cX8_goes 8 = .ok (.isub, 1) := by decide +kernel
theorem dX8_goes_9 : decode cX8_goes 9 = .ok (.iastore, 1) := by decide +kernel
theorem dX8_goes_10 : decode cX8_goes 10 = .ok (.bipush 22, 2) := by decide +kernel
theorem dX8_goes_12 : decode cX8_goes 12 = .ok (.iconst 5, 1) := by decide +kernel
theorem dX8_goes_13 : decode cX8_goes 13 = .ok (.aload_n 0, 1) := by decide +kernel
theorem dX8_goes_14 : decode cX8_goes 14 = .ok (.getfield 32, 3) := by decide +kernel
theorem dX8_goes_17 : decode cX8_goes 17 = .ok (.iconst 0, 1) := by decide +kernel
theorem dX8_goes_18 : decode cX8_goes 18 = .ok (.iaload, 1) := by decide +kernel
theorem dX8_goes_19 : decode cX8_goes 19 = .ok (.imul, 1) := by decide +kernel
theorem dX8_goes_20 : decode cX8_goes 20 = .ok (.iadd, 1) := by decide +kernel
theorem dX8_goes_21 : decode cX8_goes 21 = .ok (.istore_n 2, 1) := by decide +kernel
theorem dX8_goes_22 : decode cX8_goes 22 = .ok (.bipush 22, 2) := by decide +kernel
theorem dX8_goes_24 : decode cX8_goes 24 = .ok (.iconst 5, 1) := by decide +kernel
theorem dX8_goes_25 : decode cX8_goes 25 = .ok (.iload_n 1, 1) := by decide +kernel
theorem dX8_goes_26 : decode cX8_goes 26 = .ok (.imul, 1) := by decide +kernel
theorem dX8_goes_27 : decode cX8_goes 27 = .ok (.iadd, 1) := by decide +kernel
theorem dX8_goes_28 : decode cX8_goes 28 = .ok (.istore_n 3, 1) := by decide +kernel
theorem dX8_goes_29 : decode cX8_goes 29 = .ok (.iload_n 3, 1) := by decide +kernel
theorem dX8_goes_30 : decode cX8_goes 30 = .ok (.iload_n 2, 1) := by decide +kernel
theorem dX8_goes_31 : decode cX8_goes 31 = .ok (.if_icmp .ge 23, 3) := by decide +kernel
theorem dX8_goes_34 : decode cX8_goes 34 = .ok (.aload_n 0, 1) := by decide +kernel
theorem dX8_goes_35 : decode cX8_goes 35 = .ok (.getfield 32, 3) := by decide +kernel
theorem dX8_goes_38 : decode cX8_goes 38 = .ok (.iload_n 3, 1) := by decide +kernel
theorem dX8_goes_39 : decode cX8_goes 39 = .ok (.aload_n 0, 1) := by decide +kernel
theorem dX8_goes_40 : decode cX8_goes 40 = .ok (.getfield 32, 3) := by decide +kernel
theorem dX8_goes_43 : decode cX8_goes 43 = .ok (.iload_n 3, 1) := by decide +kernel
theorem dX8_goes_44 : decode cX8_goes 44 = .ok (.iconst 5, 1) := by decide +kernel
theorem dX8_goes_45 : decode cX8_goes 45 = .ok (.iadd, 1) := by decide +kernel
theorem dX8_goes_46 : decode cX8_goes 46 = .ok (.iaload, 1) := by decide +kernel
theorem dX8_goes_47 : decode cX8_goes 47 = .ok (.iastore, 1) := by decide +kernel
theorem dX8_goes_48 : decode cX8_goes 48 = .ok (.iinc 3 1, 3) := by decide +kernel
theorem dX8_goes_51 : decode cX8_goes 51 = .ok (.goto (-22), 3) := by decide +kernel
theorem dX8_goes_54 : decode cX8_goes 54 = .ok (.iconst 0, 1) := by decide +kernel
theorem dX8_goes_55 : decode cX8_goes 55 = .ok (.istore_n 3, 1) := by decide +kernel
theorem dX8_goes_56 : decode cX8_goes 56 = .ok (.iload_n 3, 1) := by decide +kernel
theorem dX8_goes_57 : decode cX8_goes 57 = .ok (.iconst 5, 1) := by decide +kernel
theorem dX8_goes_58 : decode cX8_goes 58 = .ok (.if_icmp .ge 18, 3) := by decide +kernel
theorem dX8_goes_61 : decode cX8_goes 61 = .ok (.aload_n 0, 1) := by decide +kernel
theorem dX8_goes_62 : decode cX8_goes 62 = .ok (.getfield 32, 3) := by decide +kernel
theorem dX8_goes_65 : decode cX8_goes 65 = .ok (.iload_n 2, 1) := by decide +kernel
theorem dX8_goes_66 : decode cX8_goes 66 = .ok (.iload_n 3, 1) := by decide +kernel
theorem dX8_goes_67 : decode cX8_goes 67 = .ok (.iadd, 1) := by decide +kernel
theorem dX8_goes_68 : decode cX8_goes 68 = .ok (.iconst 0, 1) := by decide +kernel
theorem dX8_goes_69 : decode cX8_goes 69 = .ok (.iastore, 1) := by decide +kernel
theorem dX8_goes_70 : decode cX8_goes 70 = .ok (.iinc 3 1, 3) := by decide +kernel
theorem dX8_goes_73 : decode cX8_goes 73 = .ok (.goto (-17), 3) := by decide +kernel
theorem dX8_goes_76 : decode cX8_goes 76 = .ok (.return_, 1) := by decide +kernel
theorem dX8_notDrop_0 : decode cX8_notDrop 0 = .ok (.aload_n 0, 1) := by decide +kernel
theorem dX8_notDrop_1 : decode cX8_notDrop 1 = .ok (.iload_n 1, 1) := by decide +kernel
theorem dX8_notDrop_2 : decode cX8_notDrop 2 = .ok (.invokevirtual 113, 3) := by decide +kernel
theorem dX8_notDrop_5 : decode cX8_notDrop 5 = .ok (.ifCond .eq 7, 3) := by decide +kernel
theorem dX8_notDrop_8 : decode cX8_notDrop 8 = .ok (.iconst 0, 1) := by decide +kernel
theorem dX8_notDrop_9 : decode cX8_notDrop 9 = .ok (.goto 4, 3) := by decide +kernel
theorem dX8_notDrop_12 : decode cX8_notDrop 12 = .ok (.iconst (-1), 1) := by decide +kernel
theorem dX8_notDrop_13 : decode cX8_notDrop 13 = .ok (.ireturn, 1) := by decide +kernel
theorem dX8_drops_0 : decode cX8_drops 0 = .ok (.aload_n 0, 1) := by decide +kernel
theorem dX8_drops_1 : decode cX8_drops 1 = .ok (.iload_n 1, 1) := by decide +kernel
theorem dX8_drops_2 : decode cX8_drops 2 = .ok (.invokevirtual 122, 3) := by decide +kernel
theorem dX8_drops_5 : decode cX8_drops 5 = .ok (.aload_n 0, 1) := by decide +kernel
theorem dX8_drops_6 : decode cX8_drops 6 = .ok (.getfield 32, 3) := by decide +kernel
theorem dX8_drops_9 : decode cX8_drops 9 = .ok (.bipush 8, 2) := by decide +kernel
theorem dX8_drops_11 : decode cX8_drops 11 = .ok (.dup2, 1) := by decide +kernel
theorem dX8_drops_12 : decode cX8_drops 12 = .ok (.iaload, 1) := by decide +kernel
theorem dX8_drops_13 : decode cX8_drops 13 = .ok (.iconst 1, 1) := by decide +kernel
theorem dX8_drops_14 : decode cX8_drops 14 = .ok (.iadd, 1) := by decide +kernel
theorem dX8_drops_15 : decode cX8_drops 15 = .ok (.iastore, 1) := by decide +kernel
theorem dX8_drops_16 : decode cX8_drops 16 = .ok (.aload_n 0, 1) := by decide +kernel
theorem dX8_drops_17 : decode cX8_drops 17 = .ok (.getfield 32, 3) := by decide +kernel
theorem dX8_drops_20 : decode cX8_drops 20 = .ok (.iconst 0, 1) := by decide +kernel
theorem dX8_drops_21 : decode cX8_drops 21 = .ok (.iaload, 1) := by decide +kernel
theorem dX8_drops_22 : decode cX8_drops 22 = .ok (.ireturn, 1) := by decide +kernel
theorem dX8_drop_0 : decode cX8_drop 0 = .ok (.aload_n 0, 1) := by decide +kernel
theorem dX8_drop_1 : decode cX8_drop 1 = .ok (.iload_n 1, 1) := by decide +kernel
theorem dX8_drop_2 : decode cX8_drop 2 = .ok (.invokevirtual 126, 3) := by decide +kernel
theorem dX8_drop_5 : decode cX8_drop 5 = .ok (.istore_n 2, 1) := by decide +kernel
theorem dX8_drop_6 : decode cX8_drop 6 = .ok (.iload_n 2, 1) := by decide +kernel
theorem dX8_drop_7 : decode cX8_drop 7 = .ok (.ifCond .eq 5, 3) := by decide +kernel
theorem dX8_drop_10 : decode cX8_drop 10 = .ok (.iload_n 2, 1) := by decide +kernel
theorem dX8_drop_11 : decode cX8_drop 11 = .ok (.ireturn, 1) := by decide +kernel
theorem dX8_drop_12 : decode cX8_drop 12 = .ok (.aload_n 0, 1) := by decide +kernel
theorem dX8_drop_13 : decode cX8_drop 13 = .ok (.invokevirtual 107, 3) := by decide +kernel
theorem dX8_drop_16 : decode cX8_drop 16 = .ok (.aload_n 0, 1) := by decide +kernel
theorem dX8_drop_17 : decode cX8_drop 17 = .ok (.iload_n 1, 1) := by decide +kernel
theorem dX8_drop_18 : decode cX8_drop 18 = .ok (.invokevirtual 129, 3) := by decide +kernel
theorem dX8_drop_21 : decode cX8_drop 21 = .ok (.ireturn, 1) := by decide +kernel
theorem dX8_notDrain_0 : decode cX8_notDrain 0 = .ok (.iload_n 1, 1) := by decide +kernel
theorem dX8_notDrain_1 : decode cX8_notDrain 1 = .ok (.iconst 1, 1) := by decide +kernel
theorem dX8_notDrain_2 : decode cX8_notDrain 2 = .ok (.bipush 50, 2) := by decide +kernel
theorem dX8_notDrain_4 : decode cX8_notDrain 4 = .ok (.invokestatic 19, 3) := by decide +kernel
theorem dX8_notDrain_7 : decode cX8_notDrain 7 = .ok (.ifCond .ne 6, 3) := by decide +kernel
theorem dX8_notDrain_10 : decode cX8_notDrain 10 = .ok (.bipush (-2), 2) := by decide +kernel
theorem dX8_notDrain_12 : decode cX8_notDrain 12 = .ok (.ireturn, 1) := by decide +kernel
theorem dX8_notDrain_13 : decode cX8_notDrain 13 = .ok (.aload_n 0, 1) := by decide +kernel
theorem dX8_notDrain_14 : decode cX8_notDrain 14 = .ok (.getfield 32, 3) := by decide +kernel
theorem dX8_notDrain_17 : decode cX8_notDrain 17 = .ok (.iconst 4, 1) := by decide +kernel
theorem dX8_notDrain_18 : decode cX8_notDrain 18 = .ok (.iaload, 1) := by decide +kernel
theorem dX8_notDrain_19 : decode cX8_notDrain 19 = .ok (.iload_n 1, 1) := by decide +kernel
theorem dX8_notDrain_20 : decode cX8_notDrain 20 = .ok (.if_icmp .ge 18, 3) := by decide +kernel
theorem dX8_notDrain_23 : decode cX8_notDrain 23 = .ok (.aload_n 0, 1) := by decide +kernel
theorem dX8_notDrain_24 : decode cX8_notDrain 24 = .ok (.bipush 7, 2) := by decide +kernel
theorem dX8_notDrain_26 : decode cX8_notDrain 26 = .ok (.aload_n 0, 1) := by decide +kernel
theorem dX8_notDrain_27 : decode cX8_notDrain 27 = .ok (.getfield 32, 3) := by decide +kernel
theorem dX8_notDrain_30 : decode cX8_notDrain 30 = .ok (.iconst 4, 1) := by decide +kernel
theorem dX8_notDrain_31 : decode cX8_notDrain 31 = .ok (.iaload, 1) := by decide +kernel
theorem dX8_notDrain_32 : decode cX8_notDrain 32 = .ok (.invokevirtual 88, 3) := by decide +kernel
theorem dX8_notDrain_35 : decode cX8_notDrain 35 = .ok (.goto 4, 3) := by decide +kernel
theorem dX8_notDrain_38 : decode cX8_notDrain 38 = .ok (.iconst 0, 1) := by decide +kernel
theorem dX8_notDrain_39 : decode cX8_notDrain 39 = .ok (.ireturn, 1) := by decide +kernel
theorem dX8_drains_0 : decode cX8_drains 0 = .ok (.aload_n 0, 1) := by decide +kernel
theorem dX8_drains_1 : decode cX8_drains 1 = .ok (.getfield 32, 3) := by decide +kernel
theorem dX8_drains_4 : decode cX8_drains 4 = .ok (.iconst 4, 1) := by decide +kernel
theorem dX8_drains_5 : decode cX8_drains 5 = .ok (.dup2, 1) := by decide +kernel
theorem dX8_drains_6 : decode cX8_drains 6 = .ok (.iaload, 1) := by decide +kernel
theorem dX8_drains_7 : decode cX8_drains 7 = .ok (.iload_n 1, 1) := by decide +kernel
theorem dX8_drains_8 : decode cX8_drains 8 = .ok (.isub, 1) := by decide +kernel
theorem dX8_drains_9 : decode cX8_drains 9 = .ok (.iastore, 1) := by decide +kernel
theorem dX8_drains_10 : decode cX8_drains 10 = .ok (.aload_n 0, 1) := by decide +kernel
theorem dX8_drains_11 : decode cX8_drains 11 = .ok (.getfield 32, 3) := by decide +kernel
theorem dX8_drains_14 : decode cX8_drains 14 = .ok (.bipush 10, 2) := by decide +kernel
theorem dX8_drains_16 : decode cX8_drains 16 = .ok (.dup2, 1) := by decide +kernel
theorem dX8_drains_17 : decode cX8_drains 17 = .ok (.iaload, 1) := by decide +kernel
theorem dX8_drains_18 : decode cX8_drains 18 = .ok (.iload_n 1, 1) := by decide +kernel
theorem dX8_drains_19 : decode cX8_drains 19 = .ok (.iadd, 1) := by decide +kernel
theorem dX8_drains_20 : decode cX8_drains 20 = .ok (.iastore, 1) := by decide +kernel
theorem dX8_drains_21 : decode cX8_drains 21 = .ok (.aload_n 0, 1) := by decide +kernel
theorem dX8_drains_22 : decode cX8_drains 22 = .ok (.getfield 32, 3) := by decide +kernel
theorem dX8_drains_25 : decode cX8_drains 25 = .ok (.iconst 5, 1) := by decide +kernel
theorem dX8_drains_26 : decode cX8_drains 26 = .ok (.dup2, 1) := by decide +kernel
theorem dX8_drains_27 : decode cX8_drains 27 = .ok (.iaload, 1) := by decide +kernel
theorem dX8_drains_28 : decode cX8_drains 28 = .ok (.iload_n 1, 1) := by decide +kernel
theorem dX8_drains_29 : decode cX8_drains 29 = .ok (.bipush 10, 2) := by decide +kernel
theorem dX8_drains_31 : decode cX8_drains 31 = .ok (.idiv, 1) := by decide +kernel
theorem dX8_drains_32 : decode cX8_drains 32 = .ok (.iadd, 1) := by decide +kernel
theorem dX8_drains_33 : decode cX8_drains 33 = .ok (.iastore, 1) := by decide +kernel
theorem dX8_drains_34 : decode cX8_drains 34 = .ok (.aload_n 0, 1) := by decide +kernel
theorem dX8_drains_35 : decode cX8_drains 35 = .ok (.getfield 32, 3) := by decide +kernel
theorem dX8_drains_38 : decode cX8_drains 38 = .ok (.iconst 5, 1) := by decide +kernel
theorem dX8_drains_39 : decode cX8_drains 39 = .ok (.iaload, 1) := by decide +kernel
theorem dX8_drains_40 : decode cX8_drains 40 = .ok (.bipush 9, 2) := by decide +kernel
theorem dX8_drains_42 : decode cX8_drains 42 = .ok (.if_icmp .le 11, 3) := by decide +kernel
theorem dX8_drains_45 : decode cX8_drains 45 = .ok (.aload_n 0, 1) := by decide +kernel
theorem dX8_drains_46 : decode cX8_drains 46 = .ok (.getfield 32, 3) := by decide +kernel
theorem dX8_drains_49 : decode cX8_drains 49 = .ok (.iconst 5, 1) := by decide +kernel
theorem dX8_drains_50 : decode cX8_drains 50 = .ok (.bipush 9, 2) := by decide +kernel
theorem dX8_drains_52 : decode cX8_drains 52 = .ok (.iastore, 1) := by decide +kernel
theorem dX8_drains_53 : decode cX8_drains 53 = .ok (.aload_n 0, 1) := by decide +kernel
theorem dX8_drains_54 : decode cX8_drains 54 = .ok (.getfield 32, 3) := by decide +kernel
theorem dX8_drains_57 : decode cX8_drains 57 = .ok (.iconst 5, 1) := by decide +kernel
theorem dX8_drains_58 : decode cX8_drains 58 = .ok (.iaload, 1) := by decide +kernel
theorem dX8_drains_59 : decode cX8_drains 59 = .ok (.ireturn, 1) := by decide +kernel
theorem dX8_drain_0 : decode cX8_drain 0 = .ok (.aload_n 0, 1) := by decide +kernel
theorem dX8_drain_1 : decode cX8_drain 1 = .ok (.iload_n 1, 1) := by decide +kernel
theorem dX8_drain_2 : decode cX8_drain 2 = .ok (.invokevirtual 132, 3) := by decide +kernel
theorem dX8_drain_5 : decode cX8_drain 5 = .ok (.istore_n 2, 1) := by decide +kernel
theorem dX8_drain_6 : decode cX8_drain 6 = .ok (.iload_n 2, 1) := by decide +kernel
theorem dX8_drain_7 : decode cX8_drain 7 = .ok (.ifCond .eq 9, 3) := by decide +kernel
theorem dX8_drain_10 : decode cX8_drain 10 = .ok (.aload_n 0, 1) := by decide +kernel
theorem dX8_drain_11 : decode cX8_drain 11 = .ok (.iload_n 2, 1) := by decide +kernel
theorem dX8_drain_12 : decode cX8_drain 12 = .ok (.invokevirtual 104, 3) := by decide +kernel
theorem dX8_drain_15 : decode cX8_drain 15 = .ok (.ireturn, 1) := by decide +kernel
theorem dX8_drain_16 : decode cX8_drain 16 = .ok (.aload_n 0, 1) := by decide +kernel
theorem dX8_drain_17 : decode cX8_drain 17 = .ok (.invokevirtual 107, 3) := by decide +kernel
theorem dX8_drain_20 : decode cX8_drain 20 = .ok (.aload_n 0, 1) := by decide +kernel
theorem dX8_drain_21 : decode cX8_drain 21 = .ok (.iload_n 1, 1) := by decide +kernel
theorem dX8_drain_22 : decode cX8_drain 22 = .ok (.invokevirtual 135, 3) := by decide +kernel
theorem dX8_drain_25 : decode cX8_drain 25 = .ok (.ireturn, 1) := by decide +kernel
theorem dX8_tells_0 : decode cX8_tells 0 = .ok (.aload_n 0, 1) := by decide +kernel
theorem dX8_tells_1 : decode cX8_tells 1 = .ok (.getfield 32, 3) := by decide +kernel
theorem dX8_tells_4 : decode cX8_tells 4 = .ok (.iload_n 1, 1) := by decide +kernel
theorem dX8_tells_5 : decode cX8_tells 5 = .ok (.iaload, 1) := by decide +kernel
theorem dX8_tells_6 : decode cX8_tells 6 = .ok (.istore_n 3, 1) := by decide +kernel
theorem dX8_tells_7 : decode cX8_tells 7 = .ok (.aload_n 0, 1) := by decide +kernel
theorem dX8_tells_8 : decode cX8_tells 8 = .ok (.getfield 32, 3) := by decide +kernel
theorem dX8_tells_11 : decode cX8_tells 11 = .ok (.iload_n 1, 1) := by decide +kernel
theorem dX8_tells_12 : decode cX8_tells 12 = .ok (.iload_n 2, 1) := by decide +kernel
theorem dX8_tells_13 : decode cX8_tells 13 = .ok (.iastore, 1) := by decide +kernel
theorem dX8_tells_14 : decode cX8_tells 14 = .ok (.iload_n 3, 1) := by decide +kernel
theorem dX8_tells_15 : decode cX8_tells 15 = .ok (.ireturn, 1) := by decide +kernel
theorem dX8_notStroke_0 : decode cX8_notStroke 0 = .ok (.iload_n 1, 1) := by decide +kernel
theorem dX8_notStroke_1 : decode cX8_notStroke 1 = .ok (.iconst 1, 1) := by decide +kernel
theorem dX8_notStroke_2 : decode cX8_notStroke 2 = .ok (.bipush 10, 2) := by decide +kernel
theorem dX8_notStroke_4 : decode cX8_notStroke 4 = .ok (.invokestatic 19, 3) := by decide +kernel
theorem dX8_notStroke_7 : decode cX8_notStroke 7 = .ok (.ifCond .ne 6, 3) := by decide +kernel
theorem dX8_notStroke_10 : decode cX8_notStroke 10 = .ok (.bipush (-2), 2) := by decide +kernel
theorem dX8_notStroke_12 : decode cX8_notStroke 12 = .ok (.ireturn, 1) := by decide +kernel
theorem dX8_notStroke_13 : decode cX8_notStroke 13 = .ok (.aload_n 0, 1) := by decide +kernel
theorem dX8_notStroke_14 : decode cX8_notStroke 14 = .ok (.getfield 32, 3) := by decide +kernel
theorem dX8_notStroke_17 : decode cX8_notStroke 17 = .ok (.iconst 2, 1) := by decide +kernel
theorem dX8_notStroke_18 : decode cX8_notStroke 18 = .ok (.iaload, 1) := by decide +kernel
theorem dX8_notStroke_19 : decode cX8_notStroke 19 = .ok (.iload_n 1, 1) := by decide +kernel
theorem dX8_notStroke_20 : decode cX8_notStroke 20 = .ok (.if_icmp .ne 12, 3) := by decide +kernel
theorem dX8_notStroke_23 : decode cX8_notStroke 23 = .ok (.aload_n 0, 1) := by decide +kernel
theorem dX8_notStroke_24 : decode cX8_notStroke 24 = .ok (.iconst 5, 1) := by decide +kernel
theorem dX8_notStroke_25 : decode cX8_notStroke 25 = .ok (.iload_n 1, 1) := by decide +kernel
theorem dX8_notStroke_26 : decode cX8_notStroke 26 = .ok (.invokevirtual 88, 3) := by decide +kernel
theorem dX8_notStroke_29 : decode cX8_notStroke 29 = .ok (.goto 4, 3) := by decide +kernel
theorem dX8_notStroke_32 : decode cX8_notStroke 32 = .ok (.iconst 0, 1) := by decide +kernel
theorem dX8_notStroke_33 : decode cX8_notStroke 33 = .ok (.ireturn, 1) := by decide +kernel
theorem dX8_stroke_0 : decode cX8_stroke 0 = .ok (.aload_n 0, 1) := by decide +kernel
theorem dX8_stroke_1 : decode cX8_stroke 1 = .ok (.iload_n 1, 1) := by decide +kernel
theorem dX8_stroke_2 : decode cX8_stroke 2 = .ok (.invokevirtual 138, 3) := by decide +kernel
theorem dX8_stroke_5 : decode cX8_stroke 5 = .ok (.istore_n 2, 1) := by decide +kernel
theorem dX8_stroke_6 : decode cX8_stroke 6 = .ok (.iload_n 2, 1) := by decide +kernel
theorem dX8_stroke_7 : decode cX8_stroke 7 = .ok (.ifCond .eq 9, 3) := by decide +kernel
theorem dX8_stroke_10 : decode cX8_stroke 10 = .ok (.aload_n 0, 1) := by decide +kernel
theorem dX8_stroke_11 : decode cX8_stroke 11 = .ok (.iload_n 2, 1) := by decide +kernel
theorem dX8_stroke_12 : decode cX8_stroke 12 = .ok (.invokevirtual 104, 3) := by decide +kernel
theorem dX8_stroke_15 : decode cX8_stroke 15 = .ok (.ireturn, 1) := by decide +kernel
theorem dX8_stroke_16 : decode cX8_stroke 16 = .ok (.aload_n 0, 1) := by decide +kernel
theorem dX8_stroke_17 : decode cX8_stroke 17 = .ok (.invokevirtual 107, 3) := by decide +kernel
theorem dX8_stroke_20 : decode cX8_stroke 20 = .ok (.aload_n 0, 1) := by decide +kernel
theorem dX8_stroke_21 : decode cX8_stroke 21 = .ok (.iconst 2, 1) := by decide +kernel
theorem dX8_stroke_22 : decode cX8_stroke 22 = .ok (.iload_n 1, 1) := by decide +kernel
theorem dX8_stroke_23 : decode cX8_stroke 23 = .ok (.invokevirtual 141, 3) := by decide +kernel
theorem dX8_stroke_26 : decode cX8_stroke 26 = .ok (.ireturn, 1) := by decide +kernel
theorem dX8_notBucket_0 : decode cX8_notBucket 0 = .ok (.iload_n 1, 1) := by decide +kernel
theorem dX8_notBucket_1 : decode cX8_notBucket 1 = .ok (.invokestatic 81, 3) := by decide +kernel
theorem dX8_notBucket_4 : decode cX8_notBucket 4 = .ok (.ifCond .ne 5, 3) := by decide +kernel
theorem dX8_notBucket_7 : decode cX8_notBucket 7 = .ok (.iconst (-1), 1) := by decide +kernel
theorem dX8_notBucket_8 : decode cX8_notBucket 8 = .ok (.ireturn, 1) := by decide +kernel
theorem dX8_notBucket_9 : decode cX8_notBucket 9 = .ok (.iload_n 2, 1) := by decide +kernel
theorem dX8_notBucket_10 : decode cX8_notBucket 10 = .ok (.iconst 1, 1) := by decide +kernel
theorem dX8_notBucket_11 : decode cX8_notBucket 11 = .ok (.iconst 5, 1) := by decide +kernel
theorem dX8_notBucket_12 : decode cX8_notBucket 12 = .ok (.invokestatic 19, 3) := by decide +kernel
theorem dX8_notBucket_15 : decode cX8_notBucket 15 = .ok (.ifCond .ne 6, 3) := by decide +kernel
theorem dX8_notBucket_18 : decode cX8_notBucket 18 = .ok (.bipush (-2), 2) := by decide +kernel
theorem dX8_notBucket_20 : decode cX8_notBucket 20 = .ok (.ireturn, 1) := by decide +kernel
theorem dX8_notBucket_21 : decode cX8_notBucket 21 = .ok (.aload_n 0, 1) := by decide +kernel
theorem dX8_notBucket_22 : decode cX8_notBucket 22 = .ok (.getfield 32, 3) := by decide +kernel
theorem dX8_notBucket_25 : decode cX8_notBucket 25 = .ok (.bipush 14, 2) := by decide +kernel
theorem dX8_notBucket_27 : decode cX8_notBucket 27 = .ok (.iload_n 1, 1) := by decide +kernel
theorem dX8_notBucket_28 : decode cX8_notBucket 28 = .ok (.iadd, 1) := by decide +kernel
theorem dX8_notBucket_29 : decode cX8_notBucket 29 = .ok (.iaload, 1) := by decide +kernel
theorem dX8_notBucket_30 : decode cX8_notBucket 30 = .ok (.iload_n 2, 1) := by decide +kernel
theorem dX8_notBucket_31 : decode cX8_notBucket 31 = .ok (.if_icmp .ne 12, 3) := by decide +kernel
theorem dX8_notBucket_34 : decode cX8_notBucket 34 = .ok (.aload_n 0, 1) := by decide +kernel
theorem dX8_notBucket_35 : decode cX8_notBucket 35 = .ok (.iconst 5, 1) := by decide +kernel
theorem dX8_notBucket_36 : decode cX8_notBucket 36 = .ok (.iload_n 1, 1) := by decide +kernel
theorem dX8_notBucket_37 : decode cX8_notBucket 37 = .ok (.invokevirtual 88, 3) := by decide +kernel
theorem dX8_notBucket_40 : decode cX8_notBucket 40 = .ok (.goto 4, 3) := by decide +kernel
theorem dX8_notBucket_43 : decode cX8_notBucket 43 = .ok (.iconst 0, 1) := by decide +kernel
theorem dX8_notBucket_44 : decode cX8_notBucket 44 = .ok (.ireturn, 1) := by decide +kernel
theorem dX8_bucket_0 : decode cX8_bucket 0 = .ok (.aload_n 0, 1) := by decide +kernel
theorem dX8_bucket_1 : decode cX8_bucket 1 = .ok (.iload_n 1, 1) := by decide +kernel
theorem dX8_bucket_2 : decode cX8_bucket 2 = .ok (.iload_n 2, 1) := by decide +kernel
theorem dX8_bucket_3 : decode cX8_bucket 3 = .ok (.invokevirtual 144, 3) := by decide +kernel
theorem dX8_bucket_6 : decode cX8_bucket 6 = .ok (.istore_n 3, 1) := by decide +kernel
theorem dX8_bucket_7 : decode cX8_bucket 7 = .ok (.iload_n 3, 1) := by decide +kernel
theorem dX8_bucket_8 : decode cX8_bucket 8 = .ok (.ifCond .eq 9, 3) := by decide +kernel
theorem dX8_bucket_11 : decode cX8_bucket 11 = .ok (.aload_n 0, 1) := by decide +kernel
theorem dX8_bucket_12 : decode cX8_bucket 12 = .ok (.iload_n 3, 1) := by decide +kernel
theorem dX8_bucket_13 : decode cX8_bucket 13 = .ok (.invokevirtual 104, 3) := by decide +kernel
theorem dX8_bucket_16 : decode cX8_bucket 16 = .ok (.ireturn, 1) := by decide +kernel
theorem dX8_bucket_17 : decode cX8_bucket 17 = .ok (.aload_n 0, 1) := by decide +kernel
theorem dX8_bucket_18 : decode cX8_bucket 18 = .ok (.invokevirtual 107, 3) := by decide +kernel
theorem dX8_bucket_21 : decode cX8_bucket 21 = .ok (.aload_n 0, 1) := by decide +kernel
theorem dX8_bucket_22 : decode cX8_bucket 22 = .ok (.bipush 14, 2) := by decide +kernel
theorem dX8_bucket_24 : decode cX8_bucket 24 = .ok (.iload_n 1, 1) := by decide +kernel
theorem dX8_bucket_25 : decode cX8_bucket 25 = .ok (.iadd, 1) := by decide +kernel
theorem dX8_bucket_26 : decode cX8_bucket 26 = .ok (.iload_n 2, 1) := by decide +kernel
theorem dX8_bucket_27 : decode cX8_bucket 27 = .ok (.invokevirtual 141, 3) := by decide +kernel
theorem dX8_bucket_30 : decode cX8_bucket 30 = .ok (.ireturn, 1) := by decide +kernel
theorem dX8_notGo_0 : decode cX8_notGo 0 = .ok (.iload_n 1, 1) := by decide +kernel
theorem dX8_notGo_1 : decode cX8_notGo 1 = .ok (.invokestatic 81, 3) := by decide +kernel
theorem dX8_notGo_4 : decode cX8_notGo 4 = .ok (.ifCond .ne 5, 3) := by decide +kernel
theorem dX8_notGo_7 : decode cX8_notGo 7 = .ok (.iconst (-1), 1) := by decide +kernel
theorem dX8_notGo_8 : decode cX8_notGo 8 = .ok (.ireturn, 1) := by decide +kernel
theorem dX8_notGo_9 : decode cX8_notGo 9 = .ok (.aload_n 0, 1) := by decide +kernel
theorem dX8_notGo_10 : decode cX8_notGo 10 = .ok (.getfield 32, 3) := by decide +kernel
theorem dX8_notGo_13 : decode cX8_notGo 13 = .ok (.iconst 1, 1) := by decide +kernel
theorem dX8_notGo_14 : decode cX8_notGo 14 = .ok (.iaload, 1) := by decide +kernel
theorem dX8_notGo_15 : decode cX8_notGo 15 = .ok (.iload_n 1, 1) := by decide +kernel
theorem dX8_notGo_16 : decode cX8_notGo 16 = .ok (.if_icmp .ne 12, 3) := by decide +kernel
theorem dX8_notGo_19 : decode cX8_notGo 19 = .ok (.aload_n 0, 1) := by decide +kernel
theorem dX8_notGo_20 : decode cX8_notGo 20 = .ok (.iconst 5, 1) := by decide +kernel
theorem dX8_notGo_21 : decode cX8_notGo 21 = .ok (.iload_n 1, 1) := by decide +kernel
theorem dX8_notGo_22 : decode cX8_notGo 22 = .ok (.invokevirtual 88, 3) := by decide +kernel
theorem dX8_notGo_25 : decode cX8_notGo 25 = .ok (.goto 4, 3) := by decide +kernel
theorem dX8_notGo_28 : decode cX8_notGo 28 = .ok (.iconst 0, 1) := by decide +kernel
theorem dX8_notGo_29 : decode cX8_notGo 29 = .ok (.ireturn, 1) := by decide +kernel
theorem dX8_moves_0 : decode cX8_moves 0 = .ok (.aload_n 0, 1) := by decide +kernel
theorem dX8_moves_1 : decode cX8_moves 1 = .ok (.getfield 32, 3) := by decide +kernel
theorem dX8_moves_4 : decode cX8_moves 4 = .ok (.iconst 3, 1) := by decide +kernel
theorem dX8_moves_5 : decode cX8_moves 5 = .ok (.iconst 0, 1) := by decide +kernel
theorem dX8_moves_6 : decode cX8_moves 6 = .ok (.iastore, 1) := by decide +kernel
theorem dX8_moves_7 : decode cX8_moves 7 = .ok (.aload_n 0, 1) := by decide +kernel
theorem dX8_moves_8 : decode cX8_moves 8 = .ok (.iconst 1, 1) := by decide +kernel
theorem dX8_moves_9 : decode cX8_moves 9 = .ok (.iload_n 1, 1) := by decide +kernel
theorem dX8_moves_10 : decode cX8_moves 10 = .ok (.invokevirtual 141, 3) := by decide +kernel
theorem dX8_moves_13 : decode cX8_moves 13 = .ok (.ireturn, 1) := by decide +kernel
theorem dX8_go_0 : decode cX8_go 0 = .ok (.aload_n 0, 1) := by decide +kernel
theorem dX8_go_1 : decode cX8_go 1 = .ok (.iload_n 1, 1) := by decide +kernel
theorem dX8_go_2 : decode cX8_go 2 = .ok (.invokevirtual 147, 3) := by decide +kernel
theorem dX8_go_5 : decode cX8_go 5 = .ok (.istore_n 2, 1) := by decide +kernel
theorem dX8_go_6 : decode cX8_go 6 = .ok (.iload_n 2, 1) := by decide +kernel
theorem dX8_go_7 : decode cX8_go 7 = .ok (.ifCond .eq 9, 3) := by decide +kernel
theorem dX8_go_10 : decode cX8_go 10 = .ok (.aload_n 0, 1) := by decide +kernel
theorem dX8_go_11 : decode cX8_go 11 = .ok (.iload_n 2, 1) := by decide +kernel
theorem dX8_go_12 : decode cX8_go 12 = .ok (.invokevirtual 104, 3) := by decide +kernel
theorem dX8_go_15 : decode cX8_go 15 = .ok (.ireturn, 1) := by decide +kernel
theorem dX8_go_16 : decode cX8_go 16 = .ok (.aload_n 0, 1) := by decide +kernel
theorem dX8_go_17 : decode cX8_go 17 = .ok (.invokevirtual 107, 3) := by decide +kernel
theorem dX8_go_20 : decode cX8_go 20 = .ok (.aload_n 0, 1) := by decide +kernel
theorem dX8_go_21 : decode cX8_go 21 = .ok (.iload_n 1, 1) := by decide +kernel
theorem dX8_go_22 : decode cX8_go 22 = .ok (.invokevirtual 150, 3) := by decide +kernel
theorem dX8_go_25 : decode cX8_go 25 = .ok (.ireturn, 1) := by decide +kernel
theorem dX8_laughOf_0 : decode cX8_laughOf 0 = .ok (.aload_n 0, 1) := by decide +kernel
theorem dX8_laughOf_1 : decode cX8_laughOf 1 = .ok (.iload_n 1, 1) := by decide +kernel
theorem dX8_laughOf_2 : decode cX8_laughOf 2 = .ok (.iconst 3, 1) := by decide +kernel
theorem dX8_laughOf_3 : decode cX8_laughOf 3 = .ok (.invokevirtual 73, 3) := by decide +kernel
theorem dX8_laughOf_6 : decode cX8_laughOf 6 = .ok (.i2f, 1) := by decide +kernel
theorem dX8_laughOf_7 : decode cX8_laughOf 7 = .ok (.fstore_n 3, 1) := by decide +kernel
theorem dX8_laughOf_8 : decode cX8_laughOf 8 = .ok (.aload_n 0, 1) := by decide +kernel
theorem dX8_laughOf_9 : decode cX8_laughOf 9 = .ok (.iload_n 1, 1) := by decide +kernel
theorem dX8_laughOf_10 : decode cX8_laughOf 10 = .ok (.iconst 4, 1) := by decide +kernel
theorem dX8_laughOf_11 : decode cX8_laughOf 11 = .ok (.invokevirtual 73, 3) := by decide +kernel
theorem dX8_laughOf_14 : decode cX8_laughOf 14 = .ok (.iconst 1, 1) := by decide +kernel
theorem dX8_laughOf_15 : decode cX8_laughOf 15 = .ok (.if_icmp .ne 8, 3) := by decide +kernel
theorem dX8_laughOf_18 : decode cX8_laughOf 18 = .ok (.fload_n 3, 1) := by decide +kernel
theorem dX8_laughOf_19 : decode cX8_laughOf 19 = .ok (.ldc 153, 2) := by decide +kernel
theorem dX8_laughOf_21 : decode cX8_laughOf 21 = .ok (.fmul, 1) := by decide +kernel
theorem dX8_laughOf_22 : decode cX8_laughOf 22 = .ok (.fstore_n 3, 1) := by decide +kernel
theorem dX8_laughOf_23 : decode cX8_laughOf 23 = .ok (.fload_n 3, 1) := by decide +kernel
theorem dX8_laughOf_24 : decode cX8_laughOf 24 = .ok (.fconst 1, 1) := by decide +kernel
theorem dX8_laughOf_25 : decode cX8_laughOf 25 = .ok (.iload_n 2, 1) := by decide +kernel
theorem dX8_laughOf_26 : decode cX8_laughOf 26 = .ok (.i2f, 1) := by decide +kernel
theorem dX8_laughOf_27 : decode cX8_laughOf 27 = .ok (.ldc 154, 2) := by decide +kernel
theorem dX8_laughOf_29 : decode cX8_laughOf 29 = .ok (.fdiv, 1) := by decide +kernel
theorem dX8_laughOf_30 : decode cX8_laughOf 30 = .ok (.fadd, 1) := by decide +kernel
theorem dX8_laughOf_31 : decode cX8_laughOf 31 = .ok (.fdiv, 1) := by decide +kernel
theorem dX8_laughOf_32 : decode cX8_laughOf 32 = .ok (.freturn, 1) := by decide +kernel
theorem dX8_lifts_0 : decode cX8_lifts 0 = .ok (.aload_n 0, 1) := by decide +kernel
theorem dX8_lifts_1 : decode cX8_lifts 1 = .ok (.iload_n 1, 1) := by decide +kernel
theorem dX8_lifts_2 : decode cX8_lifts 2 = .ok (.aload_n 0, 1) := by decide +kernel
theorem dX8_lifts_3 : decode cX8_lifts 3 = .ok (.getfield 32, 3) := by decide +kernel
theorem dX8_lifts_6 : decode cX8_lifts 6 = .ok (.iconst 4, 1) := by decide +kernel
theorem dX8_lifts_7 : decode cX8_lifts 7 = .ok (.iaload, 1) := by decide +kernel
theorem dX8_lifts_8 : decode cX8_lifts 8 = .ok (.invokevirtual 155, 3) := by decide +kernel
theorem dX8_lifts_11 : decode cX8_lifts 11 = .ok (.fstore_n 2, 1) := by decide +kernel
theorem dX8_lifts_12 : decode cX8_lifts 12 = .ok (.aload_n 0, 1) := by decide +kernel
theorem dX8_lifts_13 : decode cX8_lifts 13 = .ok (.iload_n 1, 1) := by decide +kernel
theorem dX8_lifts_14 : decode cX8_lifts 14 = .ok (.iconst 2, 1) := by decide +kernel
theorem dX8_lifts_15 : decode cX8_lifts 15 = .ok (.invokevirtual 73, 3) := by decide +kernel
theorem dX8_lifts_18 : decode cX8_lifts 18 = .ok (.istore_n 3, 1) := by decide +kernel
theorem dX8_lifts_19 : decode cX8_lifts 19 = .ok (.bipush 82, 2) := by decide +kernel
theorem dX8_lifts_21 : decode cX8_lifts 21 = .ok (.iconst 3, 1) := by decide +kernel
theorem dX8_lifts_22 : decode cX8_lifts 22 = .ok (.aload_n 0, 1) := by decide +kernel
theorem dX8_lifts_23 : decode cX8_lifts 23 = .ok (.getfield 32, 3) := by decide +kernel
theorem dX8_lifts_26 : decode cX8_lifts 26 = .ok (.bipush 6, 2) := by decide +kernel
theorem dX8_lifts_28 : decode cX8_lifts 28 = .ok (.iaload, 1) := by decide +kernel
theorem dX8_lifts_29 : decode cX8_lifts 29 = .ok (.imul, 1) := by decide +kernel
theorem dX8_lifts_30 : decode cX8_lifts 30 = .ok (.iadd, 1) := by decide +kernel
theorem dX8_lifts_31 : decode cX8_lifts 31 = .ok (.istore 4, 2) := by decide +kernel
theorem dX8_lifts_33 : decode cX8_lifts 33 = .ok (.aload_n 0, 1) := by decide +kernel
theorem dX8_lifts_34 : decode cX8_lifts 34 = .ok (.getfield 32, 3) := by decide +kernel
theorem dX8_lifts_37 : decode cX8_lifts 37 = .ok (.iload 4, 2) := by decide +kernel
theorem dX8_lifts_39 : decode cX8_lifts 39 = .ok (.iload_n 3, 1) := by decide +kernel
theorem dX8_lifts_40 : decode cX8_lifts 40 = .ok (.iastore, 1) := by decide +kernel
theorem dX8_lifts_41 : decode cX8_lifts 41 = .ok (.aload_n 0, 1) := by decide +kernel
theorem dX8_lifts_42 : decode cX8_lifts 42 = .ok (.getfield 32, 3) := by decide +kernel
theorem dX8_lifts_45 : decode cX8_lifts 45 = .ok (.iload 4, 2) := by decide +kernel
theorem dX8_lifts_47 : decode cX8_lifts 47 = .ok (.iconst 1, 1) := by decide +kernel
theorem dX8_lifts_48 : decode cX8_lifts 48 = .ok (.iadd, 1) := by decide +kernel
theorem dX8_lifts_49 : decode cX8_lifts 49 = .ok (.aload_n 0, 1) := by decide +kernel
theorem dX8_lifts_50 : decode cX8_lifts 50 = .ok (.iload_n 1, 1) := by decide +kernel
theorem dX8_lifts_51 : decode cX8_lifts 51 = .ok (.iconst 0, 1) := by decide +kernel
theorem dX8_lifts_52 : decode cX8_lifts 52 = .ok (.invokevirtual 73, 3) := by decide +kernel
theorem dX8_lifts_55 : decode cX8_lifts 55 = .ok (.iastore, 1) := by decide +kernel
theorem dX8_lifts_56 : decode cX8_lifts 56 = .ok (.aload_n 0, 1) := by decide +kernel
theorem dX8_lifts_57 : decode cX8_lifts 57 = .ok (.getfield 32, 3) := by decide +kernel
theorem dX8_lifts_60 : decode cX8_lifts 60 = .ok (.iload 4, 2) := by decide +kernel
theorem dX8_lifts_62 : decode cX8_lifts 62 = .ok (.iconst 2, 1) := by decide +kernel
theorem dX8_lifts_63 : decode cX8_lifts 63 = .ok (.iadd, 1) := by decide +kernel
theorem dX8_lifts_64 : decode cX8_lifts 64 = .ok (.fload_n 2, 1) := by decide +kernel
theorem dX8_lifts_65 : decode cX8_lifts 65 = .ok (.invokestatic 159, 3) := by decide +kernel
theorem dX8_lifts_68 : decode cX8_lifts 68 = .ok (.iastore, 1) := by decide +kernel
theorem dX8_lifts_69 : decode cX8_lifts 69 = .ok (.aload_n 0, 1) := by decide +kernel
theorem dX8_lifts_70 : decode cX8_lifts 70 = .ok (.getfield 32, 3) := by decide +kernel
theorem dX8_lifts_73 : decode cX8_lifts 73 = .ok (.bipush 6, 2) := by decide +kernel
theorem dX8_lifts_75 : decode cX8_lifts 75 = .ok (.dup2, 1) := by decide +kernel
theorem dX8_lifts_76 : decode cX8_lifts 76 = .ok (.iaload, 1) := by decide +kernel
theorem dX8_lifts_77 : decode cX8_lifts 77 = .ok (.iconst 1, 1) := by decide +kernel
theorem dX8_lifts_78 : decode cX8_lifts 78 = .ok (.iadd, 1) := by decide +kernel
theorem dX8_lifts_79 : decode cX8_lifts 79 = .ok (.iastore, 1) := by decide +kernel
theorem dX8_lifts_80 : decode cX8_lifts 80 = .ok (.aload_n 0, 1) := by decide +kernel
theorem dX8_lifts_81 : decode cX8_lifts 81 = .ok (.getfield 32, 3) := by decide +kernel
theorem dX8_lifts_84 : decode cX8_lifts 84 = .ok (.bipush 18, 2) := by decide +kernel
theorem dX8_lifts_86 : decode cX8_lifts 86 = .ok (.aload_n 0, 1) := by decide +kernel
theorem dX8_lifts_87 : decode cX8_lifts 87 = .ok (.iload_n 1, 1) := by decide +kernel
theorem dX8_lifts_88 : decode cX8_lifts 88 = .ok (.iconst 0, 1) := by decide +kernel
theorem dX8_lifts_89 : decode cX8_lifts 89 = .ok (.invokevirtual 73, 3) := by decide +kernel
theorem dX8_lifts_92 : decode cX8_lifts 92 = .ok (.iadd, 1) := by decide +kernel
theorem dX8_lifts_93 : decode cX8_lifts 93 = .ok (.dup2, 1) := by decide +kernel
theorem dX8_lifts_94 : decode cX8_lifts 94 = .ok (.iaload, 1) := by decide +kernel
theorem dX8_lifts_95 : decode cX8_lifts 95 = .ok (.iconst 1, 1) := by decide +kernel
theorem dX8_lifts_96 : decode cX8_lifts 96 = .ok (.iadd, 1) := by decide +kernel
theorem dX8_lifts_97 : decode cX8_lifts 97 = .ok (.iastore, 1) := by decide +kernel
theorem dX8_lifts_98 : decode cX8_lifts 98 = .ok (.aload_n 0, 1) := by decide +kernel
theorem dX8_lifts_99 : decode cX8_lifts 99 = .ok (.getfield 32, 3) := by decide +kernel
theorem dX8_lifts_102 : decode cX8_lifts 102 = .ok (.bipush 12, 2) := by decide +kernel
theorem dX8_lifts_104 : decode cX8_lifts 104 = .ok (.iload_n 3, 1) := by decide +kernel
theorem dX8_lifts_105 : decode cX8_lifts 105 = .ok (.bipush 32, 2) := by decide +kernel
theorem dX8_lifts_107 : decode cX8_lifts 107 = .ok (.idiv, 1) := by decide +kernel
theorem dX8_lifts_108 : decode cX8_lifts 108 = .ok (.iadd, 1) := by decide +kernel
theorem dX8_lifts_109 : decode cX8_lifts 109 = .ok (.dup2, 1) := by decide +kernel
theorem dX8_lifts_110 : decode cX8_lifts 110 = .ok (.iaload, 1) := by decide +kernel
theorem dX8_lifts_111 : decode cX8_lifts 111 = .ok (.iconst 1, 1) := by decide +kernel
theorem dX8_lifts_112 : decode cX8_lifts 112 = .ok (.iload_n 3, 1) := by decide +kernel
theorem dX8_lifts_113 : decode cX8_lifts 113 = .ok (.bipush 32, 2) := by decide +kernel
theorem dX8_lifts_115 : decode cX8_lifts 115 = .ok (.irem, 1) := by decide +kernel
theorem dX8_lifts_116 : decode cX8_lifts 116 = .ok (.ishl, 1) := by decide +kernel
theorem dX8_lifts_117 : decode cX8_lifts 117 = .ok (.ior, 1) := by decide +kernel
theorem dX8_lifts_118 : decode cX8_lifts 118 = .ok (.iastore, 1) := by decide +kernel
theorem dX8_lifts_119 : decode cX8_lifts 119 = .ok (.aload_n 0, 1) := by decide +kernel
theorem dX8_lifts_120 : decode cX8_lifts 120 = .ok (.getfield 32, 3) := by decide +kernel
theorem dX8_lifts_123 : decode cX8_lifts 123 = .ok (.bipush 11, 2) := by decide +kernel
theorem dX8_lifts_125 : decode cX8_lifts 125 = .ok (.aload_n 0, 1) := by decide +kernel
theorem dX8_lifts_126 : decode cX8_lifts 126 = .ok (.getfield 32, 3) := by decide +kernel
theorem dX8_lifts_129 : decode cX8_lifts 129 = .ok (.bipush 11, 2) := by decide +kernel
theorem dX8_lifts_131 : decode cX8_lifts 131 = .ok (.iaload, 1) := by decide +kernel
theorem dX8_lifts_132 : decode cX8_lifts 132 = .ok (.invokestatic 165, 3) := by decide +kernel
theorem dX8_lifts_135 : decode cX8_lifts 135 = .ok (.fload_n 2, 1) := by decide +kernel
theorem dX8_lifts_136 : decode cX8_lifts 136 = .ok (.fadd, 1) := by decide +kernel
theorem dX8_lifts_137 : decode cX8_lifts 137 = .ok (.invokestatic 159, 3) := by decide +kernel
theorem dX8_lifts_140 : decode cX8_lifts 140 = .ok (.iastore, 1) := by decide +kernel
theorem dX8_lifts_141 : decode cX8_lifts 141 = .ok (.aload_n 0, 1) := by decide +kernel
theorem dX8_lifts_142 : decode cX8_lifts 142 = .ok (.iload_n 1, 1) := by decide +kernel
theorem dX8_lifts_143 : decode cX8_lifts 143 = .ok (.invokevirtual 122, 3) := by decide +kernel
theorem dX8_lifts_146 : decode cX8_lifts 146 = .ok (.return_, 1) := by decide +kernel
theorem dX8_nextReach_0 : decode cX8_nextReach 0 = .ok (.iload_n 0, 1) := by decide +kernel
theorem dX8_nextReach_1 : decode cX8_nextReach 1 = .ok (.iload_n 1, 1) := by decide +kernel
theorem dX8_nextReach_2 : decode cX8_nextReach 2 = .ok (.iadd, 1) := by decide +kernel
theorem dX8_nextReach_3 : decode cX8_nextReach 3 = .ok (.bipush 30, 2) := by decide +kernel
theorem dX8_nextReach_5 : decode cX8_nextReach 5 = .ok (.if_icmp .ge 9, 3) := by decide +kernel
theorem dX8_nextReach_8 : decode cX8_nextReach 8 = .ok (.iload_n 0, 1) := by decide +kernel
theorem dX8_nextReach_9 : decode cX8_nextReach 9 = .ok (.iload_n 1, 1) := by decide +kernel
theorem dX8_nextReach_10 : decode cX8_nextReach 10 = .ok (.iadd, 1) := by decide +kernel
theorem dX8_nextReach_11 : decode cX8_nextReach 11 = .ok (.goto 5, 3) := by decide +kernel
theorem dX8_nextReach_14 : decode cX8_nextReach 14 = .ok (.bipush 30, 2) := by decide +kernel
theorem dX8_nextReach_16 : decode cX8_nextReach 16 = .ok (.ireturn, 1) := by decide +kernel
theorem dX8_strokesOnce_0 : decode cX8_strokesOnce 0 = .ok (.aload_n 0, 1) := by decide +kernel
theorem dX8_strokesOnce_1 : decode cX8_strokesOnce 1 = .ok (.getfield 32, 3) := by decide +kernel
theorem dX8_strokesOnce_4 : decode cX8_strokesOnce 4 = .ok (.iconst 1, 1) := by decide +kernel
theorem dX8_strokesOnce_5 : decode cX8_strokesOnce 5 = .ok (.iaload, 1) := by decide +kernel
theorem dX8_strokesOnce_6 : decode cX8_strokesOnce 6 = .ok (.istore_n 1, 1) := by decide +kernel
theorem dX8_strokesOnce_7 : decode cX8_strokesOnce 7 = .ok (.aload_n 0, 1) := by decide +kernel
theorem dX8_strokesOnce_8 : decode cX8_strokesOnce 8 = .ok (.getfield 32, 3) := by decide +kernel
theorem dX8_strokesOnce_11 : decode cX8_strokesOnce 11 = .ok (.iconst 3, 1) := by decide +kernel
theorem dX8_strokesOnce_12 : decode cX8_strokesOnce 12 = .ok (.aload_n 0, 1) := by decide +kernel
theorem dX8_strokesOnce_13 : decode cX8_strokesOnce 13 = .ok (.getfield 32, 3) := by decide +kernel
theorem dX8_strokesOnce_16 : decode cX8_strokesOnce 16 = .ok (.iconst 3, 1) := by decide +kernel
theorem dX8_strokesOnce_17 : decode cX8_strokesOnce 17 = .ok (.iaload, 1) := by decide +kernel
theorem dX8_strokesOnce_18 : decode cX8_strokesOnce 18 = .ok (.aload_n 0, 1) := by decide +kernel
theorem dX8_strokesOnce_19 : decode cX8_strokesOnce 19 = .ok (.getfield 32, 3) := by decide +kernel
theorem dX8_strokesOnce_22 : decode cX8_strokesOnce 22 = .ok (.iconst 2, 1) := by decide +kernel
theorem dX8_strokesOnce_23 : decode cX8_strokesOnce 23 = .ok (.iaload, 1) := by decide +kernel
theorem dX8_strokesOnce_24 : decode cX8_strokesOnce 24 = .ok (.invokestatic 169, 3) := by decide +kernel
theorem dX8_strokesOnce_27 : decode cX8_strokesOnce 27 = .ok (.iastore, 1) := by decide +kernel
theorem dX8_strokesOnce_28 : decode cX8_strokesOnce 28 = .ok (.aload_n 0, 1) := by decide +kernel
theorem dX8_strokesOnce_29 : decode cX8_strokesOnce 29 = .ok (.getfield 32, 3) := by decide +kernel
theorem dX8_strokesOnce_32 : decode cX8_strokesOnce 32 = .ok (.iconst 4, 1) := by decide +kernel
theorem dX8_strokesOnce_33 : decode cX8_strokesOnce 33 = .ok (.dup2, 1) := by decide +kernel
theorem dX8_strokesOnce_34 : decode cX8_strokesOnce 34 = .ok (.iaload, 1) := by decide +kernel
theorem dX8_strokesOnce_35 : decode cX8_strokesOnce 35 = .ok (.iconst 1, 1) := by decide +kernel
theorem dX8_strokesOnce_36 : decode cX8_strokesOnce 36 = .ok (.aload_n 0, 1) := by decide +kernel
theorem dX8_strokesOnce_37 : decode cX8_strokesOnce 37 = .ok (.getfield 32, 3) := by decide +kernel
theorem dX8_strokesOnce_40 : decode cX8_strokesOnce 40 = .ok (.iconst 3, 1) := by decide +kernel
theorem dX8_strokesOnce_41 : decode cX8_strokesOnce 41 = .ok (.iaload, 1) := by decide +kernel
theorem dX8_strokesOnce_42 : decode cX8_strokesOnce 42 = .ok (.bipush 10, 2) := by decide +kernel
theorem dX8_strokesOnce_44 : decode cX8_strokesOnce 44 = .ok (.idiv, 1) := by decide +kernel
theorem dX8_strokesOnce_45 : decode cX8_strokesOnce 45 = .ok (.iadd, 1) := by decide +kernel
theorem dX8_strokesOnce_46 : decode cX8_strokesOnce 46 = .ok (.iadd, 1) := by decide +kernel
theorem dX8_strokesOnce_47 : decode cX8_strokesOnce 47 = .ok (.iastore, 1) := by decide +kernel
theorem dX8_strokesOnce_48 : decode cX8_strokesOnce 48 = .ok (.aload_n 0, 1) := by decide +kernel
theorem dX8_strokesOnce_49 : decode cX8_strokesOnce 49 = .ok (.getfield 32, 3) := by decide +kernel
theorem dX8_strokesOnce_52 : decode cX8_strokesOnce 52 = .ok (.bipush 9, 2) := by decide +kernel
theorem dX8_strokesOnce_54 : decode cX8_strokesOnce 54 = .ok (.dup2, 1) := by decide +kernel
theorem dX8_strokesOnce_55 : decode cX8_strokesOnce 55 = .ok (.iaload, 1) := by decide +kernel
theorem dX8_strokesOnce_56 : decode cX8_strokesOnce 56 = .ok (.iconst 1, 1) := by decide +kernel
theorem dX8_strokesOnce_57 : decode cX8_strokesOnce 57 = .ok (.iadd, 1) := by decide +kernel
theorem dX8_strokesOnce_58 : decode cX8_strokesOnce 58 = .ok (.iastore, 1) := by decide +kernel
theorem dX8_strokesOnce_59 : decode cX8_strokesOnce 59 = .ok (.iconst 0, 1) := by decide +kernel
theorem dX8_strokesOnce_60 : decode cX8_strokesOnce 60 = .ok (.istore_n 2, 1) := by decide +kernel
theorem dX8_strokesOnce_61 : decode cX8_strokesOnce 61 = .ok (.aload_n 0, 1) := by decide +kernel
theorem dX8_strokesOnce_62 : decode cX8_strokesOnce 62 = .ok (.iload_n 1, 1) := by decide +kernel
theorem dX8_strokesOnce_63 : decode cX8_strokesOnce 63 = .ok (.iconst 0, 1) := by decide +kernel
theorem dX8_strokesOnce_64 : decode cX8_strokesOnce 64 = .ok (.invokevirtual 172, 3) := by decide +kernel
theorem dX8_strokesOnce_67 : decode cX8_strokesOnce 67 = .ok (.istore_n 3, 1) := by decide +kernel
theorem dX8_strokesOnce_68 : decode cX8_strokesOnce 68 = .ok (.iload_n 2, 1) := by decide +kernel
theorem dX8_strokesOnce_69 : decode cX8_strokesOnce 69 = .ok (.aload_n 0, 1) := by decide +kernel
theorem dX8_strokesOnce_70 : decode cX8_strokesOnce 70 = .ok (.getfield 32, 3) := by decide +kernel
theorem dX8_strokesOnce_73 : decode cX8_strokesOnce 73 = .ok (.bipush 14, 2) := by decide +kernel
theorem dX8_strokesOnce_75 : decode cX8_strokesOnce 75 = .ok (.iload_n 1, 1) := by decide +kernel
theorem dX8_strokesOnce_76 : decode cX8_strokesOnce 76 = .ok (.iadd, 1) := by decide +kernel
theorem dX8_strokesOnce_77 : decode cX8_strokesOnce 77 = .ok (.iaload, 1) := by decide +kernel
theorem dX8_strokesOnce_78 : decode cX8_strokesOnce 78 = .ok (.if_icmp .ge 40, 3) := by decide +kernel
theorem dX8_strokesOnce_81 : decode cX8_strokesOnce 81 = .ok (.iload_n 3, 1) := by decide +kernel
theorem dX8_strokesOnce_82 : decode cX8_strokesOnce 82 = .ok (.ifCond .lt 36, 3) := by decide +kernel
theorem dX8_strokesOnce_85 : decode cX8_strokesOnce 85 = .ok (.aload_n 0, 1) := by decide +kernel
theorem dX8_strokesOnce_86 : decode cX8_strokesOnce 86 = .ok (.iload_n 3, 1) := by decide +kernel
theorem dX8_strokesOnce_87 : decode cX8_strokesOnce 87 = .ok (.iconst 1, 1) := by decide +kernel
theorem dX8_strokesOnce_88 : decode cX8_strokesOnce 88 = .ok (.invokevirtual 73, 3) := by decide +kernel
theorem dX8_strokesOnce_91 : decode cX8_strokesOnce 91 = .ok (.aload_n 0, 1) := by decide +kernel
theorem dX8_strokesOnce_92 : decode cX8_strokesOnce 92 = .ok (.getfield 32, 3) := by decide +kernel
theorem dX8_strokesOnce_95 : decode cX8_strokesOnce 95 = .ok (.iconst 3, 1) := by decide +kernel
theorem dX8_strokesOnce_96 : decode cX8_strokesOnce 96 = .ok (.iaload, 1) := by decide +kernel
theorem dX8_strokesOnce_97 : decode cX8_strokesOnce 97 = .ok (.if_icmp .gt 21, 3) := by decide +kernel
theorem dX8_strokesOnce_100 : decode cX8_strokesOnce 100 = .ok (.aload_n 0, 1) := by decide +kernel
theorem dX8_strokesOnce_101 : decode cX8_strokesOnce 101 = .ok (.iload_n 3, 1) := by decide +kernel
theorem dX8_strokesOnce_102 : decode cX8_strokesOnce 102 = .ok (.invokevirtual 175, 3) := by decide +kernel
theorem dX8_strokesOnce_105 : decode cX8_strokesOnce 105 = .ok (.iinc 2 1, 3) := by decide +kernel
theorem dX8_strokesOnce_108 : decode cX8_strokesOnce 108 = .ok (.aload_n 0, 1) := by decide +kernel
theorem dX8_strokesOnce_109 : decode cX8_strokesOnce 109 = .ok (.iload_n 1, 1) := by decide +kernel
theorem dX8_strokesOnce_110 : decode cX8_strokesOnce 110 = .ok (.iconst 0, 1) := by decide +kernel
theorem dX8_strokesOnce_111 : decode cX8_strokesOnce 111 = .ok (.invokevirtual 172, 3) := by decide +kernel
theorem dX8_strokesOnce_114 : decode cX8_strokesOnce 114 = .ok (.istore_n 3, 1) := by decide +kernel
theorem dX8_strokesOnce_115 : decode cX8_strokesOnce 115 = .ok (.goto (-47), 3) := by decide +kernel
theorem dX8_strokesOnce_118 : decode cX8_strokesOnce 118 = .ok (.iload_n 2, 1) := by decide +kernel
theorem dX8_strokesOnce_119 : decode cX8_strokesOnce 119 = .ok (.ireturn, 1) := by decide +kernel
theorem dX8_pumps_0 : decode cX8_pumps 0 = .ok (.iconst 0, 1) := by decide +kernel
theorem dX8_pumps_1 : decode cX8_pumps 1 = .ok (.istore_n 2, 1) := by decide +kernel
theorem dX8_pumps_2 : decode cX8_pumps 2 = .ok (.iconst 0, 1) := by decide +kernel
theorem dX8_pumps_3 : decode cX8_pumps 3 = .ok (.istore_n 3, 1) := by decide +kernel
theorem dX8_pumps_4 : decode cX8_pumps 4 = .ok (.iload_n 3, 1) := by decide +kernel
theorem dX8_pumps_5 : decode cX8_pumps 5 = .ok (.iload_n 1, 1) := by decide +kernel
theorem dX8_pumps_6 : decode cX8_pumps 6 = .ok (.if_icmp .ge 27, 3) := by decide +kernel
theorem dX8_pumps_9 : decode cX8_pumps 9 = .ok (.aload_n 0, 1) := by decide +kernel
theorem dX8_pumps_10 : decode cX8_pumps 10 = .ok (.getfield 32, 3) := by decide +kernel
theorem dX8_pumps_13 : decode cX8_pumps 13 = .ok (.iconst 4, 1) := by decide +kernel
theorem dX8_pumps_14 : decode cX8_pumps 14 = .ok (.iaload, 1) := by decide +kernel
theorem dX8_pumps_15 : decode cX8_pumps 15 = .ok (.bipush 40, 2) := by decide +kernel
theorem dX8_pumps_17 : decode cX8_pumps 17 = .ok (.if_icmp .gt 16, 3) := by decide +kernel
theorem dX8_pumps_20 : decode cX8_pumps 20 = .ok (.iload_n 2, 1) := by decide +kernel
theorem dX8_pumps_21 : decode cX8_pumps 21 = .ok (.aload_n 0, 1) := by decide +kernel
theorem dX8_pumps_22 : decode cX8_pumps 22 = .ok (.invokevirtual 178, 3) := by decide +kernel
theorem dX8_pumps_25 : decode cX8_pumps 25 = .ok (.iadd, 1) := by decide +kernel
theorem dX8_pumps_26 : decode cX8_pumps 26 = .ok (.istore_n 2, 1) := by decide +kernel
theorem dX8_pumps_27 : decode cX8_pumps 27 = .ok (.iinc 3 1, 3) := by decide +kernel
theorem dX8_pumps_30 : decode cX8_pumps 30 = .ok (.goto (-26), 3) := by decide +kernel
theorem dX8_pumps_33 : decode cX8_pumps 33 = .ok (.iload_n 2, 1) := by decide +kernel
theorem dX8_pumps_34 : decode cX8_pumps 34 = .ok (.ireturn, 1) := by decide +kernel
theorem dX8_notPump_0 : decode cX8_notPump 0 = .ok (.iload_n 1, 1) := by decide +kernel
theorem dX8_notPump_1 : decode cX8_notPump 1 = .ok (.iconst 1, 1) := by decide +kernel
theorem dX8_notPump_2 : decode cX8_notPump 2 = .ok (.bipush 9, 2) := by decide +kernel
theorem dX8_notPump_4 : decode cX8_notPump 4 = .ok (.invokestatic 19, 3) := by decide +kernel
theorem dX8_notPump_7 : decode cX8_notPump 7 = .ok (.ifCond .ne 6, 3) := by decide +kernel
theorem dX8_notPump_10 : decode cX8_notPump 10 = .ok (.bipush (-2), 2) := by decide +kernel
theorem dX8_notPump_12 : decode cX8_notPump 12 = .ok (.ireturn, 1) := by decide +kernel
theorem dX8_notPump_13 : decode cX8_notPump 13 = .ok (.aload_n 0, 1) := by decide +kernel
theorem dX8_notPump_14 : decode cX8_notPump 14 = .ok (.getfield 32, 3) := by decide +kernel
theorem dX8_notPump_17 : decode cX8_notPump 17 = .ok (.iconst 4, 1) := by decide +kernel
theorem dX8_notPump_18 : decode cX8_notPump 18 = .ok (.iaload, 1) := by decide +kernel
theorem dX8_notPump_19 : decode cX8_notPump 19 = .ok (.bipush 40, 2) := by decide +kernel
theorem dX8_notPump_21 : decode cX8_notPump 21 = .ok (.if_icmp .le 18, 3) := by decide +kernel
theorem dX8_notPump_24 : decode cX8_notPump 24 = .ok (.aload_n 0, 1) := by decide +kernel
theorem dX8_notPump_25 : decode cX8_notPump 25 = .ok (.bipush 8, 2) := by decide +kernel
theorem dX8_notPump_27 : decode cX8_notPump 27 = .ok (.aload_n 0, 1) := by decide +kernel
theorem dX8_notPump_28 : decode cX8_notPump 28 = .ok (.getfield 32, 3) := by decide +kernel
theorem dX8_notPump_31 : decode cX8_notPump 31 = .ok (.iconst 4, 1) := by decide +kernel
theorem dX8_notPump_32 : decode cX8_notPump 32 = .ok (.iaload, 1) := by decide +kernel
theorem dX8_notPump_33 : decode cX8_notPump 33 = .ok (.invokevirtual 88, 3) := by decide +kernel
theorem dX8_notPump_36 : decode cX8_notPump 36 = .ok (.goto 4, 3) := by decide +kernel
theorem dX8_notPump_39 : decode cX8_notPump 39 = .ok (.iconst 0, 1) := by decide +kernel
theorem dX8_notPump_40 : decode cX8_notPump 40 = .ok (.ireturn, 1) := by decide +kernel
theorem dX8_pump_0 : decode cX8_pump 0 = .ok (.aload_n 0, 1) := by decide +kernel
theorem dX8_pump_1 : decode cX8_pump 1 = .ok (.iload_n 1, 1) := by decide +kernel
theorem dX8_pump_2 : decode cX8_pump 2 = .ok (.invokevirtual 182, 3) := by decide +kernel
theorem dX8_pump_5 : decode cX8_pump 5 = .ok (.istore_n 2, 1) := by decide +kernel
theorem dX8_pump_6 : decode cX8_pump 6 = .ok (.iload_n 2, 1) := by decide +kernel
theorem dX8_pump_7 : decode cX8_pump 7 = .ok (.ifCond .eq 9, 3) := by decide +kernel
theorem dX8_pump_10 : decode cX8_pump 10 = .ok (.aload_n 0, 1) := by decide +kernel
theorem dX8_pump_11 : decode cX8_pump 11 = .ok (.iload_n 2, 1) := by decide +kernel
theorem dX8_pump_12 : decode cX8_pump 12 = .ok (.invokevirtual 104, 3) := by decide +kernel
theorem dX8_pump_15 : decode cX8_pump 15 = .ok (.ireturn, 1) := by decide +kernel
theorem dX8_pump_16 : decode cX8_pump 16 = .ok (.aload_n 0, 1) := by decide +kernel
theorem dX8_pump_17 : decode cX8_pump 17 = .ok (.invokevirtual 107, 3) := by decide +kernel
theorem dX8_pump_20 : decode cX8_pump 20 = .ok (.aload_n 0, 1) := by decide +kernel
theorem dX8_pump_21 : decode cX8_pump 21 = .ok (.iload_n 1, 1) := by decide +kernel
theorem dX8_pump_22 : decode cX8_pump 22 = .ok (.invokevirtual 185, 3) := by decide +kernel
theorem dX8_pump_25 : decode cX8_pump 25 = .ok (.ireturn, 1) := by decide +kernel
theorem dX8_jokeOf_0 : decode cX8_jokeOf 0 = .ok (.aload_n 0, 1) := by decide +kernel
theorem dX8_jokeOf_1 : decode cX8_jokeOf 1 = .ok (.iload_n 1, 1) := by decide +kernel
theorem dX8_jokeOf_2 : decode cX8_jokeOf 2 = .ok (.invokevirtual 113, 3) := by decide +kernel
theorem dX8_jokeOf_5 : decode cX8_jokeOf 5 = .ok (.ifCond .ne 5, 3) := by decide +kernel
theorem dX8_jokeOf_8 : decode cX8_jokeOf 8 = .ok (.iconst (-1), 1) := by decide +kernel
theorem dX8_jokeOf_9 : decode cX8_jokeOf 9 = .ok (.ireturn, 1) := by decide +kernel
theorem dX8_jokeOf_10 : decode cX8_jokeOf 10 = .ok (.iload_n 2, 1) := by decide +kernel
theorem dX8_jokeOf_11 : decode cX8_jokeOf 11 = .ok (.iconst 0, 1) := by decide +kernel
theorem dX8_jokeOf_12 : decode cX8_jokeOf 12 = .ok (.iconst 5, 1) := by decide +kernel
theorem dX8_jokeOf_13 : decode cX8_jokeOf 13 = .ok (.invokestatic 19, 3) := by decide +kernel
theorem dX8_jokeOf_16 : decode cX8_jokeOf 16 = .ok (.ifCond .ne 6, 3) := by decide +kernel
theorem dX8_jokeOf_19 : decode cX8_jokeOf 19 = .ok (.bipush (-2), 2) := by decide +kernel
theorem dX8_jokeOf_21 : decode cX8_jokeOf 21 = .ok (.ireturn, 1) := by decide +kernel
theorem dX8_jokeOf_22 : decode cX8_jokeOf 22 = .ok (.iload_n 2, 1) := by decide +kernel
theorem dX8_jokeOf_23 : decode cX8_jokeOf 23 = .ok (.iconst 5, 1) := by decide +kernel
theorem dX8_jokeOf_24 : decode cX8_jokeOf 24 = .ok (.if_icmp .ne 11, 3) := by decide +kernel
theorem dX8_jokeOf_27 : decode cX8_jokeOf 27 = .ok (.aload_n 0, 1) := by decide +kernel
theorem dX8_jokeOf_28 : decode cX8_jokeOf 28 = .ok (.iload_n 1, 1) := by decide +kernel
theorem dX8_jokeOf_29 : decode cX8_jokeOf 29 = .ok (.invokevirtual 77, 3) := by decide +kernel
theorem dX8_jokeOf_32 : decode cX8_jokeOf 32 = .ok (.goto 9, 3) := by decide +kernel
theorem dX8_jokeOf_35 : decode cX8_jokeOf 35 = .ok (.aload_n 0, 1) := by decide +kernel
theorem dX8_jokeOf_36 : decode cX8_jokeOf 36 = .ok (.iload_n 1, 1) := by decide +kernel
theorem dX8_jokeOf_37 : decode cX8_jokeOf 37 = .ok (.iload_n 2, 1) := by decide +kernel
theorem dX8_jokeOf_38 : decode cX8_jokeOf 38 = .ok (.invokevirtual 73, 3) := by decide +kernel
theorem dX8_jokeOf_41 : decode cX8_jokeOf 41 = .ok (.ireturn, 1) := by decide +kernel
theorem dX8_wellOf_0 : decode cX8_wellOf 0 = .ok (.iload_n 1, 1) := by decide +kernel
theorem dX8_wellOf_1 : decode cX8_wellOf 1 = .ok (.invokestatic 81, 3) := by decide +kernel
theorem dX8_wellOf_4 : decode cX8_wellOf 4 = .ok (.ifCond .ne 5, 3) := by decide +kernel
theorem dX8_wellOf_7 : decode cX8_wellOf 7 = .ok (.iconst (-1), 1) := by decide +kernel
theorem dX8_wellOf_8 : decode cX8_wellOf 8 = .ok (.ireturn, 1) := by decide +kernel
theorem dX8_wellOf_9 : decode cX8_wellOf 9 = .ok (.iload_n 2, 1) := by decide +kernel
theorem dX8_wellOf_10 : decode cX8_wellOf 10 = .ok (.tableswitch 80 0 3 #[30, 40, 46, 70], 30) := by decide +kernel
theorem dX8_wellOf_40 : decode cX8_wellOf 40 = .ok (.aload_n 0, 1) := by decide +kernel
theorem dX8_wellOf_41 : decode cX8_wellOf 41 = .ok (.getfield 32, 3) := by decide +kernel
theorem dX8_wellOf_44 : decode cX8_wellOf 44 = .ok (.bipush 14, 2) := by decide +kernel
theorem dX8_wellOf_46 : decode cX8_wellOf 46 = .ok (.iload_n 1, 1) := by decide +kernel
theorem dX8_wellOf_47 : decode cX8_wellOf 47 = .ok (.iadd, 1) := by decide +kernel
theorem dX8_wellOf_48 : decode cX8_wellOf 48 = .ok (.iaload, 1) := by decide +kernel
theorem dX8_wellOf_49 : decode cX8_wellOf 49 = .ok (.ireturn, 1) := by decide +kernel
theorem dX8_wellOf_50 : decode cX8_wellOf 50 = .ok (.aload_n 0, 1) := by decide +kernel
theorem dX8_wellOf_51 : decode cX8_wellOf 51 = .ok (.iload_n 1, 1) := by decide +kernel
theorem dX8_wellOf_52 : decode cX8_wellOf 52 = .ok (.invokevirtual 97, 3) := by decide +kernel
theorem dX8_wellOf_55 : decode cX8_wellOf 55 = .ok (.ireturn, 1) := by decide +kernel
theorem dX8_wellOf_56 : decode cX8_wellOf 56 = .ok (.aload_n 0, 1) := by decide +kernel
theorem dX8_wellOf_57 : decode cX8_wellOf 57 = .ok (.iload_n 1, 1) := by decide +kernel
theorem dX8_wellOf_58 : decode cX8_wellOf 58 = .ok (.invokevirtual 97, 3) := by decide +kernel
theorem dX8_wellOf_61 : decode cX8_wellOf 61 = .ok (.ifCond .ne 7, 3) := by decide +kernel
theorem dX8_wellOf_64 : decode cX8_wellOf 64 = .ok (.iconst 0, 1) := by decide +kernel
theorem dX8_wellOf_65 : decode cX8_wellOf 65 = .ok (.goto 14, 3) := by decide +kernel
theorem dX8_wellOf_68 : decode cX8_wellOf 68 = .ok (.aload_n 0, 1) := by decide +kernel
theorem dX8_wellOf_69 : decode cX8_wellOf 69 = .ok (.aload_n 0, 1) := by decide +kernel
theorem dX8_wellOf_70 : decode cX8_wellOf 70 = .ok (.iload_n 1, 1) := by decide +kernel
theorem dX8_wellOf_71 : decode cX8_wellOf 71 = .ok (.iconst 0, 1) := by decide +kernel
theorem dX8_wellOf_72 : decode cX8_wellOf 72 = .ok (.invokevirtual 172, 3) := by decide +kernel
theorem dX8_wellOf_75 : decode cX8_wellOf 75 = .ok (.iconst 1, 1) := by decide +kernel
theorem dX8_wellOf_76 : decode cX8_wellOf 76 = .ok (.invokevirtual 73, 3) := by decide +kernel
theorem dX8_wellOf_79 : decode cX8_wellOf 79 = .ok (.ireturn, 1) := by decide +kernel
theorem dX8_wellOf_80 : decode cX8_wellOf 80 = .ok (.aload_n 0, 1) := by decide +kernel
theorem dX8_wellOf_81 : decode cX8_wellOf 81 = .ok (.getfield 32, 3) := by decide +kernel
theorem dX8_wellOf_84 : decode cX8_wellOf 84 = .ok (.bipush 18, 2) := by decide +kernel
theorem dX8_wellOf_86 : decode cX8_wellOf 86 = .ok (.iload_n 1, 1) := by decide +kernel
theorem dX8_wellOf_87 : decode cX8_wellOf 87 = .ok (.iadd, 1) := by decide +kernel
theorem dX8_wellOf_88 : decode cX8_wellOf 88 = .ok (.iaload, 1) := by decide +kernel
theorem dX8_wellOf_89 : decode cX8_wellOf 89 = .ok (.ireturn, 1) := by decide +kernel
theorem dX8_wellOf_90 : decode cX8_wellOf 90 = .ok (.bipush (-2), 2) := by decide +kernel
theorem dX8_wellOf_92 : decode cX8_wellOf 92 = .ok (.ireturn, 1) := by decide +kernel
theorem dX8_isKnown_0 : decode cX8_isKnown 0 = .ok (.iload_n 1, 1) := by decide +kernel
theorem dX8_isKnown_1 : decode cX8_isKnown 1 = .ok (.iconst 0, 1) := by decide +kernel
theorem dX8_isKnown_2 : decode cX8_isKnown 2 = .ok (.bipush 63, 2) := by decide +kernel
theorem dX8_isKnown_4 : decode cX8_isKnown 4 = .ok (.invokestatic 19, 3) := by decide +kernel
theorem dX8_isKnown_7 : decode cX8_isKnown 7 = .ok (.ifCond .ne 5, 3) := by decide +kernel
theorem dX8_isKnown_10 : decode cX8_isKnown 10 = .ok (.iconst (-1), 1) := by decide +kernel
theorem dX8_isKnown_11 : decode cX8_isKnown 11 = .ok (.ireturn, 1) := by decide +kernel
theorem dX8_isKnown_12 : decode cX8_isKnown 12 = .ok (.aload_n 0, 1) := by decide +kernel
theorem dX8_isKnown_13 : decode cX8_isKnown 13 = .ok (.iload_n 1, 1) := by decide +kernel
theorem dX8_isKnown_14 : decode cX8_isKnown 14 = .ok (.invokevirtual 85, 3) := by decide +kernel
theorem dX8_isKnown_17 : decode cX8_isKnown 17 = .ok (.ifCond .eq 7, 3) := by decide +kernel
theorem dX8_isKnown_20 : decode cX8_isKnown 20 = .ok (.iconst 1, 1) := by decide +kernel
theorem dX8_isKnown_21 : decode cX8_isKnown 21 = .ok (.goto 4, 3) := by decide +kernel
theorem dX8_isKnown_24 : decode cX8_isKnown 24 = .ok (.iconst 0, 1) := by decide +kernel
theorem dX8_isKnown_25 : decode cX8_isKnown 25 = .ok (.ireturn, 1) := by decide +kernel
theorem dX8_laughBits_0 : decode cX8_laughBits 0 = .ok (.aload_n 0, 1) := by decide +kernel
theorem dX8_laughBits_1 : decode cX8_laughBits 1 = .ok (.iload_n 1, 1) := by decide +kernel
theorem dX8_laughBits_2 : decode cX8_laughBits 2 = .ok (.invokevirtual 113, 3) := by decide +kernel
theorem dX8_laughBits_5 : decode cX8_laughBits 5 = .ok (.ifCond .ne 5, 3) := by decide +kernel
theorem dX8_laughBits_8 : decode cX8_laughBits 8 = .ok (.iconst (-1), 1) := by decide +kernel
theorem dX8_laughBits_9 : decode cX8_laughBits 9 = .ok (.ireturn, 1) := by decide +kernel
theorem dX8_laughBits_10 : decode cX8_laughBits 10 = .ok (.iload_n 2, 1) := by decide +kernel
theorem dX8_laughBits_11 : decode cX8_laughBits 11 = .ok (.iconst 0, 1) := by decide +kernel
theorem dX8_laughBits_12 : decode cX8_laughBits 12 = .ok (.bipush 50, 2) := by decide +kernel
theorem dX8_laughBits_14 : decode cX8_laughBits 14 = .ok (.invokestatic 19, 3) := by decide +kernel
theorem dX8_laughBits_17 : decode cX8_laughBits 17 = .ok (.ifCond .eq 15, 3) := by decide +kernel
theorem dX8_laughBits_20 : decode cX8_laughBits 20 = .ok (.aload_n 0, 1) := by decide +kernel
theorem dX8_laughBits_21 : decode cX8_laughBits 21 = .ok (.iload_n 1, 1) := by decide +kernel
theorem dX8_laughBits_22 : decode cX8_laughBits 22 = .ok (.iload_n 2, 1) := by decide +kernel
theorem dX8_laughBits_23 : decode cX8_laughBits 23 = .ok (.invokevirtual 155, 3) := by decide +kernel
theorem dX8_laughBits_26 : decode cX8_laughBits 26 = .ok (.invokestatic 159, 3) := by decide +kernel
theorem dX8_laughBits_29 : decode cX8_laughBits 29 = .ok (.goto 5, 3) := by decide +kernel
theorem dX8_laughBits_32 : decode cX8_laughBits 32 = .ok (.bipush (-2), 2) := by decide +kernel
theorem dX8_laughBits_34 : decode cX8_laughBits 34 = .ok (.ireturn, 1) := by decide +kernel
theorem dX8_laughs_0 : decode cX8_laughs 0 = .ok (.aload_n 0, 1) := by decide +kernel
theorem dX8_laughs_1 : decode cX8_laughs 1 = .ok (.getfield 32, 3) := by decide +kernel
theorem dX8_laughs_4 : decode cX8_laughs 4 = .ok (.bipush 11, 2) := by decide +kernel
theorem dX8_laughs_6 : decode cX8_laughs 6 = .ok (.iaload, 1) := by decide +kernel
theorem dX8_laughs_7 : decode cX8_laughs 7 = .ok (.invokestatic 165, 3) := by decide +kernel
theorem dX8_laughs_10 : decode cX8_laughs 10 = .ok (.freturn, 1) := by decide +kernel
theorem dX8_laughsAgain_0 : decode cX8_laughsAgain 0 = .ok (.fconst 0, 1) := by decide +kernel
theorem dX8_laughsAgain_1 : decode cX8_laughsAgain 1 = .ok (.fstore_n 1, 1) := by decide +kernel
theorem dX8_laughsAgain_2 : decode cX8_laughsAgain 2 = .ok (.iconst 0, 1) := by decide +kernel
theorem dX8_laughsAgain_3 : decode cX8_laughsAgain 3 = .ok (.istore_n 2, 1) := by decide +kernel
theorem dX8_laughsAgain_4 : decode cX8_laughsAgain 4 = .ok (.iload_n 2, 1) := by decide +kernel
theorem dX8_laughsAgain_5 : decode cX8_laughsAgain 5 = .ok (.aload_n 0, 1) := by decide +kernel
theorem dX8_laughsAgain_6 : decode cX8_laughsAgain 6 = .ok (.getfield 32, 3) := by decide +kernel
theorem dX8_laughsAgain_9 : decode cX8_laughsAgain 9 = .ok (.bipush 6, 2) := by decide +kernel
theorem dX8_laughsAgain_11 : decode cX8_laughsAgain 11 = .ok (.iaload, 1) := by decide +kernel
theorem dX8_laughsAgain_12 : decode cX8_laughsAgain 12 = .ok (.if_icmp .ge 28, 3) := by decide +kernel
theorem dX8_laughsAgain_15 : decode cX8_laughsAgain 15 = .ok (.fload_n 1, 1) := by decide +kernel
theorem dX8_laughsAgain_16 : decode cX8_laughsAgain 16 = .ok (.aload_n 0, 1) := by decide +kernel
theorem dX8_laughsAgain_17 : decode cX8_laughsAgain 17 = .ok (.getfield 32, 3) := by decide +kernel
theorem dX8_laughsAgain_20 : decode cX8_laughsAgain 20 = .ok (.bipush 82, 2) := by decide +kernel
theorem dX8_laughsAgain_22 : decode cX8_laughsAgain 22 = .ok (.iconst 3, 1) := by decide +kernel
theorem dX8_laughsAgain_23 : decode cX8_laughsAgain 23 = .ok (.iload_n 2, 1) := by decide +kernel
theorem dX8_laughsAgain_24 : decode cX8_laughsAgain 24 = .ok (.imul, 1) := by decide +kernel
theorem dX8_laughsAgain_25 : decode cX8_laughsAgain 25 = .ok (.iadd, 1) := by decide +kernel
theorem dX8_laughsAgain_26 : decode cX8_laughsAgain 26 = .ok (.iconst 2, 1) := by decide +kernel
theorem dX8_laughsAgain_27 : decode cX8_laughsAgain 27 = .ok (.iadd, 1) := by decide +kernel
theorem dX8_laughsAgain_28 : decode cX8_laughsAgain 28 = .ok (.iaload, 1) := by decide +kernel
theorem dX8_laughsAgain_29 : decode cX8_laughsAgain 29 = .ok (.invokestatic 165, 3) := by decide +kernel
theorem dX8_laughsAgain_32 : decode cX8_laughsAgain 32 = .ok (.fadd, 1) := by decide +kernel
theorem dX8_laughsAgain_33 : decode cX8_laughsAgain 33 = .ok (.fstore_n 1, 1) := by decide +kernel
theorem dX8_laughsAgain_34 : decode cX8_laughsAgain 34 = .ok (.iinc 2 1, 3) := by decide +kernel
theorem dX8_laughsAgain_37 : decode cX8_laughsAgain 37 = .ok (.goto (-33), 3) := by decide +kernel
theorem dX8_laughsAgain_40 : decode cX8_laughsAgain 40 = .ok (.fload_n 1, 1) := by decide +kernel
theorem dX8_laughsAgain_41 : decode cX8_laughsAgain 41 = .ok (.freturn, 1) := by decide +kernel
theorem dX8_wholeLaughs_0 : decode cX8_wholeLaughs 0 = .ok (.aload_n 0, 1) := by decide +kernel
theorem dX8_wholeLaughs_1 : decode cX8_wholeLaughs 1 = .ok (.invokevirtual 188, 3) := by decide +kernel
theorem dX8_wholeLaughs_4 : decode cX8_wholeLaughs 4 = .ok (.f2i, 1) := by decide +kernel
theorem dX8_wholeLaughs_5 : decode cX8_wholeLaughs 5 = .ok (.ireturn, 1) := by decide +kernel
theorem dX8_liftedOf_0 : decode cX8_liftedOf 0 = .ok (.iload_n 1, 1) := by decide +kernel
theorem dX8_liftedOf_1 : decode cX8_liftedOf 1 = .ok (.iconst 0, 1) := by decide +kernel
theorem dX8_liftedOf_2 : decode cX8_liftedOf 2 = .ok (.aload_n 0, 1) := by decide +kernel
theorem dX8_liftedOf_3 : decode cX8_liftedOf 3 = .ok (.getfield 32, 3) := by decide +kernel
theorem dX8_liftedOf_6 : decode cX8_liftedOf 6 = .ok (.bipush 6, 2) := by decide +kernel
theorem dX8_liftedOf_8 : decode cX8_liftedOf 8 = .ok (.iaload, 1) := by decide +kernel
theorem dX8_liftedOf_9 : decode cX8_liftedOf 9 = .ok (.iconst 1, 1) := by decide +kernel
theorem dX8_liftedOf_10 : decode cX8_liftedOf 10 = .ok (.isub, 1) := by decide +kernel
theorem dX8_liftedOf_11 : decode cX8_liftedOf 11 = .ok (.invokestatic 19, 3) := by decide +kernel
theorem dX8_liftedOf_14 : decode cX8_liftedOf 14 = .ok (.ifCond .ne 5, 3) := by decide +kernel
theorem dX8_liftedOf_17 : decode cX8_liftedOf 17 = .ok (.iconst (-1), 1) := by decide +kernel
theorem dX8_liftedOf_18 : decode cX8_liftedOf 18 = .ok (.ireturn, 1) := by decide +kernel
theorem dX8_liftedOf_19 : decode cX8_liftedOf 19 = .ok (.iload_n 2, 1) := by decide +kernel
theorem dX8_liftedOf_20 : decode cX8_liftedOf 20 = .ok (.iconst 0, 1) := by decide +kernel
theorem dX8_liftedOf_21 : decode cX8_liftedOf 21 = .ok (.iconst 2, 1) := by decide +kernel
theorem dX8_liftedOf_22 : decode cX8_liftedOf 22 = .ok (.invokestatic 19, 3) := by decide +kernel
theorem dX8_liftedOf_25 : decode cX8_liftedOf 25 = .ok (.ifCond .eq 29, 3) := by decide +kernel
theorem dX8_liftedOf_28 : decode cX8_liftedOf 28 = .ok (.aload_n 0, 1) := by decide +kernel
theorem dX8_liftedOf_29 : decode cX8_liftedOf 29 = .ok (.getfield 32, 3) := by decide +kernel
theorem dX8_liftedOf_32 : decode cX8_liftedOf 32 = .ok (.bipush 82, 2) := by decide +kernel
theorem dX8_liftedOf_34 : decode cX8_liftedOf 34 = .ok (.iconst 3, 1) := by decide +kernel
theorem dX8_liftedOf_35 : decode cX8_liftedOf 35 = .ok (.aload_n 0, 1) := by decide +kernel
theorem dX8_liftedOf_36 : decode cX8_liftedOf 36 = .ok (.getfield 32, 3) := by decide +kernel
theorem dX8_liftedOf_39 : decode cX8_liftedOf 39 = .ok (.bipush 6, 2) := by decide +kernel
theorem dX8_liftedOf_41 : decode cX8_liftedOf 41 = .ok (.iaload, 1) := by decide +kernel
theorem dX8_liftedOf_42 : decode cX8_liftedOf 42 = .ok (.iconst 1, 1) := by decide +kernel
theorem dX8_liftedOf_43 : decode cX8_liftedOf 43 = .ok (.isub, 1) := by decide +kernel
theorem dX8_liftedOf_44 : decode cX8_liftedOf 44 = .ok (.iload_n 1, 1) := by decide +kernel
theorem dX8_liftedOf_45 : decode cX8_liftedOf 45 = .ok (.isub, 1) := by decide +kernel
theorem dX8_liftedOf_46 : decode cX8_liftedOf 46 = .ok (.imul, 1) := by decide +kernel
theorem dX8_liftedOf_47 : decode cX8_liftedOf 47 = .ok (.iadd, 1) := by decide +kernel
theorem dX8_liftedOf_48 : decode cX8_liftedOf 48 = .ok (.iload_n 2, 1) := by decide +kernel
theorem dX8_liftedOf_49 : decode cX8_liftedOf 49 = .ok (.iadd, 1) := by decide +kernel
theorem dX8_liftedOf_50 : decode cX8_liftedOf 50 = .ok (.iaload, 1) := by decide +kernel
theorem dX8_liftedOf_51 : decode cX8_liftedOf 51 = .ok (.goto 5, 3) := by decide +kernel
theorem dX8_liftedOf_54 : decode cX8_liftedOf 54 = .ok (.bipush (-2), 2) := by decide +kernel
theorem dX8_liftedOf_56 : decode cX8_liftedOf 56 = .ok (.ireturn, 1) := by decide +kernel
theorem dX8_strokes_0 : decode cX8_strokes 0 = .ok (.iload_n 1, 1) := by decide +kernel
theorem dX8_strokes_1 : decode cX8_strokes 1 = .ok (.iconst 1, 1) := by decide +kernel
theorem dX8_strokes_2 : decode cX8_strokes 2 = .ok (.bipush 30, 2) := by decide +kernel
theorem dX8_strokes_4 : decode cX8_strokes 4 = .ok (.invokestatic 19, 3) := by decide +kernel
theorem dX8_strokes_7 : decode cX8_strokes 7 = .ok (.ifCond .ne 6, 3) := by decide +kernel
theorem dX8_strokes_10 : decode cX8_strokes 10 = .ok (.bipush (-2), 2) := by decide +kernel
theorem dX8_strokes_12 : decode cX8_strokes 12 = .ok (.ireturn, 1) := by decide +kernel
theorem dX8_strokes_13 : decode cX8_strokes 13 = .ok (.iconst 0, 1) := by decide +kernel
theorem dX8_strokes_14 : decode cX8_strokes 14 = .ok (.istore_n 2, 1) := by decide +kernel
theorem dX8_strokes_15 : decode cX8_strokes 15 = .ok (.aload_n 0, 1) := by decide +kernel
theorem dX8_strokes_16 : decode cX8_strokes 16 = .ok (.getfield 32, 3) := by decide +kernel
theorem dX8_strokes_19 : decode cX8_strokes 19 = .ok (.iconst 3, 1) := by decide +kernel
theorem dX8_strokes_20 : decode cX8_strokes 20 = .ok (.iaload, 1) := by decide +kernel
theorem dX8_strokes_21 : decode cX8_strokes 21 = .ok (.istore_n 3, 1) := by decide +kernel
theorem dX8_strokes_22 : decode cX8_strokes 22 = .ok (.iload_n 3, 1) := by decide +kernel
theorem dX8_strokes_23 : decode cX8_strokes 23 = .ok (.iload_n 1, 1) := by decide +kernel
theorem dX8_strokes_24 : decode cX8_strokes 24 = .ok (.if_icmp .ge 20, 3) := by decide +kernel
theorem dX8_strokes_27 : decode cX8_strokes 27 = .ok (.iinc 2 1, 3) := by decide +kernel
theorem dX8_strokes_30 : decode cX8_strokes 30 = .ok (.iload_n 3, 1) := by decide +kernel
theorem dX8_strokes_31 : decode cX8_strokes 31 = .ok (.aload_n 0, 1) := by decide +kernel
theorem dX8_strokes_32 : decode cX8_strokes 32 = .ok (.getfield 32, 3) := by decide +kernel
theorem dX8_strokes_35 : decode cX8_strokes 35 = .ok (.iconst 2, 1) := by decide +kernel
theorem dX8_strokes_36 : decode cX8_strokes 36 = .ok (.iaload, 1) := by decide +kernel
theorem dX8_strokes_37 : decode cX8_strokes 37 = .ok (.invokestatic 169, 3) := by decide +kernel
theorem dX8_strokes_40 : decode cX8_strokes 40 = .ok (.istore_n 3, 1) := by decide +kernel
theorem dX8_strokes_41 : decode cX8_strokes 41 = .ok (.goto (-19), 3) := by decide +kernel
theorem dX8_strokes_44 : decode cX8_strokes 44 = .ok (.iload_n 2, 1) := by decide +kernel
theorem dX8_strokes_45 : decode cX8_strokes 45 = .ok (.ireturn, 1) := by decide +kernel
theorem dX8_strokesAgain_0 : decode cX8_strokesAgain 0 = .ok (.aload_n 0, 1) := by decide +kernel
theorem dX8_strokesAgain_1 : decode cX8_strokesAgain 1 = .ok (.iload_n 1, 1) := by decide +kernel
theorem dX8_strokesAgain_2 : decode cX8_strokesAgain 2 = .ok (.invokevirtual 192, 3) := by decide +kernel
theorem dX8_strokesAgain_5 : decode cX8_strokesAgain 5 = .ok (.ireturn, 1) := by decide +kernel
theorem dX8_looksAhead_0 : decode cX8_looksAhead 0 = .ok (.iconst 0, 1) := by decide +kernel
theorem dX8_looksAhead_1 : decode cX8_looksAhead 1 = .ok (.istore_n 1, 1) := by decide +kernel
end
section
theorem dX8_looksAhead_2 : decode cX8_looksAhead 2 = .ok (.iload_n 1, 1) := by decide +kernel
theorem dX8_looksAhead_3 : decode cX8_looksAhead 3 = .ok (.sipush 274, 3) := by decide +kernel
theorem dX8_looksAhead_6 : decode cX8_looksAhead 6 = .ok (.if_icmp .ge 21, 3) := by decide +kernel
theorem dX8_looksAhead_9 : decode cX8_looksAhead 9 = .ok (.aload_n 0, 1) := by decide +kernel
theorem dX8_looksAhead_10 : decode cX8_looksAhead 10 = .ok (.getfield 45, 3) := by decide +kernel
theorem dX8_looksAhead_13 : decode cX8_looksAhead 13 = .ok (.iload_n 1, 1) := by decide +kernel
theorem dX8_looksAhead_14 : decode cX8_looksAhead 14 = .ok (.aload_n 0, 1) := by decide +kernel
theorem dX8_looksAhead_15 : decode cX8_looksAhead 15 = .ok (.getfield 32, 3) := by decide +kernel
theorem dX8_looksAhead_18 : decode cX8_looksAhead 18 = .ok (.iload_n 1, 1) := by decide +kernel
theorem dX8_looksAhead_19 : decode cX8_looksAhead 19 = .ok (.iaload, 1) := by decide +kernel
theorem dX8_looksAhead_20 : decode cX8_looksAhead 20 = .ok (.iastore, 1) := by decide +kernel
theorem dX8_looksAhead_21 : decode cX8_looksAhead 21 = .ok (.iinc 1 1, 3) := by decide +kernel
theorem dX8_looksAhead_24 : decode cX8_looksAhead 24 = .ok (.goto (-22), 3) := by decide +kernel
theorem dX8_looksAhead_27 : decode cX8_looksAhead 27 = .ok (.return_, 1) := by decide +kernel
theorem dX8_comesBack_0 : decode cX8_comesBack 0 = .ok (.iconst 0, 1) := by decide +kernel
theorem dX8_comesBack_1 : decode cX8_comesBack 1 = .ok (.istore_n 1, 1) := by decide +kernel
theorem dX8_comesBack_2 : decode cX8_comesBack 2 = .ok (.iload_n 1, 1) := by decide +kernel
theorem dX8_comesBack_3 : decode cX8_comesBack 3 = .ok (.sipush 274, 3) := by decide +kernel
theorem dX8_comesBack_6 : decode cX8_comesBack 6 = .ok (.if_icmp .ge 21, 3) := by decide +kernel
theorem dX8_comesBack_9 : decode cX8_comesBack 9 = .ok (.aload_n 0, 1) := by decide +kernel
theorem dX8_comesBack_10 : decode cX8_comesBack 10 = .ok (.getfield 32, 3) := by decide +kernel
theorem dX8_comesBack_13 : decode cX8_comesBack 13 = .ok (.iload_n 1, 1) := by decide +kernel
theorem dX8_comesBack_14 : decode cX8_comesBack 14 = .ok (.aload_n 0, 1) := by decide +kernel
theorem dX8_comesBack_15 : decode cX8_comesBack 15 = .ok (.getfield 45, 3) := by decide +kernel
theorem dX8_comesBack_18 : decode cX8_comesBack 18 = .ok (.iload_n 1, 1) := by decide +kernel
theorem dX8_comesBack_19 : decode cX8_comesBack 19 = .ok (.iaload, 1) := by decide +kernel
theorem dX8_comesBack_20 : decode cX8_comesBack 20 = .ok (.iastore, 1) := by decide +kernel
theorem dX8_comesBack_21 : decode cX8_comesBack 21 = .ok (.iinc 1 1, 3) := by decide +kernel
theorem dX8_comesBack_24 : decode cX8_comesBack 24 = .ok (.goto (-22), 3) := by decide +kernel
theorem dX8_comesBack_27 : decode cX8_comesBack 27 = .ok (.return_, 1) := by decide +kernel
theorem dX8_would_0 : decode cX8_would 0 = .ok (.iload_n 1, 1) := by decide +kernel
theorem dX8_would_1 : decode cX8_would 1 = .ok (.iconst 0, 1) := by decide +kernel
theorem dX8_would_2 : decode cX8_would 2 = .ok (.bipush 20, 2) := by decide +kernel
theorem dX8_would_4 : decode cX8_would 4 = .ok (.invokestatic 19, 3) := by decide +kernel
theorem dX8_would_7 : decode cX8_would 7 = .ok (.ifCond .ne 6, 3) := by decide +kernel
theorem dX8_would_10 : decode cX8_would 10 = .ok (.bipush (-2), 2) := by decide +kernel
theorem dX8_would_12 : decode cX8_would 12 = .ok (.ireturn, 1) := by decide +kernel
theorem dX8_would_13 : decode cX8_would 13 = .ok (.aload_n 0, 1) := by decide +kernel
theorem dX8_would_14 : decode cX8_would 14 = .ok (.invokevirtual 195, 3) := by decide +kernel
theorem dX8_would_17 : decode cX8_would 17 = .ok (.aload_n 0, 1) := by decide +kernel
theorem dX8_would_18 : decode cX8_would 18 = .ok (.iload_n 1, 1) := by decide +kernel
theorem dX8_would_19 : decode cX8_would 19 = .ok (.invokevirtual 185, 3) := by decide +kernel
theorem dX8_would_22 : decode cX8_would 22 = .ok (.istore_n 2, 1) := by decide +kernel
theorem dX8_would_23 : decode cX8_would 23 = .ok (.aload_n 0, 1) := by decide +kernel
theorem dX8_would_24 : decode cX8_would 24 = .ok (.invokevirtual 198, 3) := by decide +kernel
theorem dX8_would_27 : decode cX8_would 27 = .ok (.iload_n 2, 1) := by decide +kernel
theorem dX8_would_28 : decode cX8_would 28 = .ok (.ireturn, 1) := by decide +kernel
theorem dX8_groansIn_0 : decode cX8_groansIn 0 = .ok (.iload_n 1, 1) := by decide +kernel
theorem dX8_groansIn_1 : decode cX8_groansIn 1 = .ok (.iconst 0, 1) := by decide +kernel
theorem dX8_groansIn_2 : decode cX8_groansIn 2 = .ok (.bipush 20, 2) := by decide +kernel
theorem dX8_groansIn_4 : decode cX8_groansIn 4 = .ok (.invokestatic 19, 3) := by decide +kernel
theorem dX8_groansIn_7 : decode cX8_groansIn 7 = .ok (.ifCond .ne 6, 3) := by decide +kernel
theorem dX8_groansIn_10 : decode cX8_groansIn 10 = .ok (.bipush (-2), 2) := by decide +kernel
theorem dX8_groansIn_12 : decode cX8_groansIn 12 = .ok (.ireturn, 1) := by decide +kernel
theorem dX8_groansIn_13 : decode cX8_groansIn 13 = .ok (.aload_n 0, 1) := by decide +kernel
theorem dX8_groansIn_14 : decode cX8_groansIn 14 = .ok (.invokevirtual 195, 3) := by decide +kernel
theorem dX8_groansIn_17 : decode cX8_groansIn 17 = .ok (.aload_n 0, 1) := by decide +kernel
theorem dX8_groansIn_18 : decode cX8_groansIn 18 = .ok (.iload_n 1, 1) := by decide +kernel
theorem dX8_groansIn_19 : decode cX8_groansIn 19 = .ok (.invokevirtual 185, 3) := by decide +kernel
theorem dX8_groansIn_22 : decode cX8_groansIn 22 = .ok (.pop, 1) := by decide +kernel
theorem dX8_groansIn_23 : decode cX8_groansIn 23 = .ok (.aload_n 0, 1) := by decide +kernel
theorem dX8_groansIn_24 : decode cX8_groansIn 24 = .ok (.getfield 32, 3) := by decide +kernel
theorem dX8_groansIn_27 : decode cX8_groansIn 27 = .ok (.iconst 4, 1) := by decide +kernel
theorem dX8_groansIn_28 : decode cX8_groansIn 28 = .ok (.iaload, 1) := by decide +kernel
theorem dX8_groansIn_29 : decode cX8_groansIn 29 = .ok (.istore_n 2, 1) := by decide +kernel
theorem dX8_groansIn_30 : decode cX8_groansIn 30 = .ok (.aload_n 0, 1) := by decide +kernel
theorem dX8_groansIn_31 : decode cX8_groansIn 31 = .ok (.invokevirtual 198, 3) := by decide +kernel
theorem dX8_groansIn_34 : decode cX8_groansIn 34 = .ok (.iload_n 2, 1) := by decide +kernel
theorem dX8_groansIn_35 : decode cX8_groansIn 35 = .ok (.ireturn, 1) := by decide +kernel
theorem dX8_groansTo_0 : decode cX8_groansTo 0 = .ok (.aload_n 0, 1) := by decide +kernel
theorem dX8_groansTo_1 : decode cX8_groansTo 1 = .ok (.getfield 32, 3) := by decide +kernel
theorem dX8_groansTo_4 : decode cX8_groansTo 4 = .ok (.iconst 3, 1) := by decide +kernel
theorem dX8_groansTo_5 : decode cX8_groansTo 5 = .ok (.iaload, 1) := by decide +kernel
theorem dX8_groansTo_6 : decode cX8_groansTo 6 = .ok (.iload_n 2, 1) := by decide +kernel
theorem dX8_groansTo_7 : decode cX8_groansTo 7 = .ok (.invokestatic 169, 3) := by decide +kernel
theorem dX8_groansTo_10 : decode cX8_groansTo 10 = .ok (.istore_n 3, 1) := by decide +kernel
theorem dX8_groansTo_11 : decode cX8_groansTo 11 = .ok (.iconst 1, 1) := by decide +kernel
theorem dX8_groansTo_12 : decode cX8_groansTo 12 = .ok (.iload_n 3, 1) := by decide +kernel
theorem dX8_groansTo_13 : decode cX8_groansTo 13 = .ok (.bipush 10, 2) := by decide +kernel
theorem dX8_groansTo_15 : decode cX8_groansTo 15 = .ok (.idiv, 1) := by decide +kernel
theorem dX8_groansTo_16 : decode cX8_groansTo 16 = .ok (.iadd, 1) := by decide +kernel
theorem dX8_groansTo_17 : decode cX8_groansTo 17 = .ok (.istore 4, 2) := by decide +kernel
theorem dX8_groansTo_19 : decode cX8_groansTo 19 = .ok (.iload_n 3, 1) := by decide +kernel
theorem dX8_groansTo_20 : decode cX8_groansTo 20 = .ok (.iload_n 1, 1) := by decide +kernel
theorem dX8_groansTo_21 : decode cX8_groansTo 21 = .ok (.if_icmp .ge 23, 3) := by decide +kernel
theorem dX8_groansTo_24 : decode cX8_groansTo 24 = .ok (.iload_n 3, 1) := by decide +kernel
theorem dX8_groansTo_25 : decode cX8_groansTo 25 = .ok (.iload_n 2, 1) := by decide +kernel
theorem dX8_groansTo_26 : decode cX8_groansTo 26 = .ok (.invokestatic 169, 3) := by decide +kernel
theorem dX8_groansTo_29 : decode cX8_groansTo 29 = .ok (.istore_n 3, 1) := by decide +kernel
theorem dX8_groansTo_30 : decode cX8_groansTo 30 = .ok (.iload 4, 2) := by decide +kernel
theorem dX8_groansTo_32 : decode cX8_groansTo 32 = .ok (.iconst 1, 1) := by decide +kernel
theorem dX8_groansTo_33 : decode cX8_groansTo 33 = .ok (.iload_n 3, 1) := by decide +kernel
theorem dX8_groansTo_34 : decode cX8_groansTo 34 = .ok (.bipush 10, 2) := by decide +kernel
theorem dX8_groansTo_36 : decode cX8_groansTo 36 = .ok (.idiv, 1) := by decide +kernel
theorem dX8_groansTo_37 : decode cX8_groansTo 37 = .ok (.iadd, 1) := by decide +kernel
theorem dX8_groansTo_38 : decode cX8_groansTo 38 = .ok (.iadd, 1) := by decide +kernel
theorem dX8_groansTo_39 : decode cX8_groansTo 39 = .ok (.istore 4, 2) := by decide +kernel
theorem dX8_groansTo_41 : decode cX8_groansTo 41 = .ok (.goto (-22), 3) := by decide +kernel
theorem dX8_groansTo_44 : decode cX8_groansTo 44 = .ok (.iload 4, 2) := by decide +kernel
theorem dX8_groansTo_46 : decode cX8_groansTo 46 = .ok (.ireturn, 1) := by decide +kernel
theorem dX8_bestStroke_0 : decode cX8_bestStroke 0 = .ok (.aload_n 0, 1) := by decide +kernel
theorem dX8_bestStroke_1 : decode cX8_bestStroke 1 = .ok (.aload_n 0, 1) := by decide +kernel
theorem dX8_bestStroke_2 : decode cX8_bestStroke 2 = .ok (.getfield 32, 3) := by decide +kernel
theorem dX8_bestStroke_5 : decode cX8_bestStroke 5 = .ok (.iconst 1, 1) := by decide +kernel
theorem dX8_bestStroke_6 : decode cX8_bestStroke 6 = .ok (.iaload, 1) := by decide +kernel
theorem dX8_bestStroke_7 : decode cX8_bestStroke 7 = .ok (.iconst 0, 1) := by decide +kernel
theorem dX8_bestStroke_8 : decode cX8_bestStroke 8 = .ok (.invokevirtual 172, 3) := by decide +kernel
theorem dX8_bestStroke_11 : decode cX8_bestStroke 11 = .ok (.istore_n 1, 1) := by decide +kernel
theorem dX8_bestStroke_12 : decode cX8_bestStroke 12 = .ok (.iload_n 1, 1) := by decide +kernel
theorem dX8_bestStroke_13 : decode cX8_bestStroke 13 = .ok (.ifCond .ge 6, 3) := by decide +kernel
theorem dX8_bestStroke_16 : decode cX8_bestStroke 16 = .ok (.bipush (-6), 2) := by decide +kernel
theorem dX8_bestStroke_18 : decode cX8_bestStroke 18 = .ok (.ireturn, 1) := by decide +kernel
theorem dX8_bestStroke_19 : decode cX8_bestStroke 19 = .ok (.iconst 1, 1) := by decide +kernel
theorem dX8_bestStroke_20 : decode cX8_bestStroke 20 = .ok (.istore_n 2, 1) := by decide +kernel
theorem dX8_bestStroke_21 : decode cX8_bestStroke 21 = .ok (.iconst 2, 1) := by decide +kernel
theorem dX8_bestStroke_22 : decode cX8_bestStroke 22 = .ok (.istore_n 3, 1) := by decide +kernel
theorem dX8_bestStroke_23 : decode cX8_bestStroke 23 = .ok (.iload_n 3, 1) := by decide +kernel
theorem dX8_bestStroke_24 : decode cX8_bestStroke 24 = .ok (.bipush 10, 2) := by decide +kernel
theorem dX8_bestStroke_26 : decode cX8_bestStroke 26 = .ok (.if_icmp .gt 40, 3) := by decide +kernel
theorem dX8_bestStroke_29 : decode cX8_bestStroke 29 = .ok (.aload_n 0, 1) := by decide +kernel
theorem dX8_bestStroke_30 : decode cX8_bestStroke 30 = .ok (.aload_n 0, 1) := by decide +kernel
theorem dX8_bestStroke_31 : decode cX8_bestStroke 31 = .ok (.iload_n 1, 1) := by decide +kernel
theorem dX8_bestStroke_32 : decode cX8_bestStroke 32 = .ok (.iconst 1, 1) := by decide +kernel
theorem dX8_bestStroke_33 : decode cX8_bestStroke 33 = .ok (.invokevirtual 73, 3) := by decide +kernel
theorem dX8_bestStroke_36 : decode cX8_bestStroke 36 = .ok (.iload_n 3, 1) := by decide +kernel
theorem dX8_bestStroke_37 : decode cX8_bestStroke 37 = .ok (.invokevirtual 201, 3) := by decide +kernel
theorem dX8_bestStroke_40 : decode cX8_bestStroke 40 = .ok (.aload_n 0, 1) := by decide +kernel
theorem dX8_bestStroke_41 : decode cX8_bestStroke 41 = .ok (.aload_n 0, 1) := by decide +kernel
theorem dX8_bestStroke_42 : decode cX8_bestStroke 42 = .ok (.iload_n 1, 1) := by decide +kernel
theorem dX8_bestStroke_43 : decode cX8_bestStroke 43 = .ok (.iconst 1, 1) := by decide +kernel
theorem dX8_bestStroke_44 : decode cX8_bestStroke 44 = .ok (.invokevirtual 73, 3) := by decide +kernel
theorem dX8_bestStroke_47 : decode cX8_bestStroke 47 = .ok (.iload_n 2, 1) := by decide +kernel
theorem dX8_bestStroke_48 : decode cX8_bestStroke 48 = .ok (.invokevirtual 201, 3) := by decide +kernel
theorem dX8_bestStroke_51 : decode cX8_bestStroke 51 = .ok (.if_icmp .ge 7, 3) := by decide +kernel
theorem dX8_bestStroke_54 : decode cX8_bestStroke 54 = .ok (.iload_n 3, 1) := by decide +kernel
theorem dX8_bestStroke_55 : decode cX8_bestStroke 55 = .ok (.goto 4, 3) := by decide +kernel
theorem dX8_bestStroke_58 : decode cX8_bestStroke 58 = .ok (.iload_n 2, 1) := by decide +kernel
theorem dX8_bestStroke_59 : decode cX8_bestStroke 59 = .ok (.istore_n 2, 1) := by decide +kernel
theorem dX8_bestStroke_60 : decode cX8_bestStroke 60 = .ok (.iinc 3 1, 3) := by decide +kernel
theorem dX8_bestStroke_63 : decode cX8_bestStroke 63 = .ok (.goto (-40), 3) := by decide +kernel
theorem dX8_bestStroke_66 : decode cX8_bestStroke 66 = .ok (.iload_n 2, 1) := by decide +kernel
theorem dX8_bestStroke_67 : decode cX8_bestStroke 67 = .ok (.ireturn, 1) := by decide +kernel
theorem dX8_isFunnier_0 : decode cX8_isFunnier 0 = .ok (.aload_n 0, 1) := by decide +kernel
theorem dX8_isFunnier_1 : decode cX8_isFunnier 1 = .ok (.iload_n 1, 1) := by decide +kernel
theorem dX8_isFunnier_2 : decode cX8_isFunnier 2 = .ok (.aload_n 0, 1) := by decide +kernel
theorem dX8_isFunnier_3 : decode cX8_isFunnier 3 = .ok (.getfield 32, 3) := by decide +kernel
theorem dX8_isFunnier_6 : decode cX8_isFunnier 6 = .ok (.iconst 4, 1) := by decide +kernel
theorem dX8_isFunnier_7 : decode cX8_isFunnier 7 = .ok (.iaload, 1) := by decide +kernel
theorem dX8_isFunnier_8 : decode cX8_isFunnier 8 = .ok (.invokevirtual 155, 3) := by decide +kernel
theorem dX8_isFunnier_11 : decode cX8_isFunnier 11 = .ok (.fstore_n 3, 1) := by decide +kernel
theorem dX8_isFunnier_12 : decode cX8_isFunnier 12 = .ok (.aload_n 0, 1) := by decide +kernel
theorem dX8_isFunnier_13 : decode cX8_isFunnier 13 = .ok (.iload_n 2, 1) := by decide +kernel
theorem dX8_isFunnier_14 : decode cX8_isFunnier 14 = .ok (.aload_n 0, 1) := by decide +kernel
theorem dX8_isFunnier_15 : decode cX8_isFunnier 15 = .ok (.getfield 32, 3) := by decide +kernel
theorem dX8_isFunnier_18 : decode cX8_isFunnier 18 = .ok (.iconst 4, 1) := by decide +kernel
theorem dX8_isFunnier_19 : decode cX8_isFunnier 19 = .ok (.iaload, 1) := by decide +kernel
theorem dX8_isFunnier_20 : decode cX8_isFunnier 20 = .ok (.invokevirtual 155, 3) := by decide +kernel
theorem dX8_isFunnier_23 : decode cX8_isFunnier 23 = .ok (.fstore 4, 2) := by decide +kernel
theorem dX8_isFunnier_25 : decode cX8_isFunnier 25 = .ok (.fload_n 3, 1) := by decide +kernel
theorem dX8_isFunnier_26 : decode cX8_isFunnier 26 = .ok (.fload 4, 2) := by decide +kernel
theorem dX8_isFunnier_28 : decode cX8_isFunnier 28 = .ok (.fcmp .l, 1) := by decide +kernel
theorem dX8_isFunnier_29 : decode cX8_isFunnier 29 = .ok (.ifCond .eq 16, 3) := by decide +kernel
theorem dX8_isFunnier_32 : decode cX8_isFunnier 32 = .ok (.fload_n 3, 1) := by decide +kernel
theorem dX8_isFunnier_33 : decode cX8_isFunnier 33 = .ok (.fload 4, 2) := by decide +kernel
theorem dX8_isFunnier_35 : decode cX8_isFunnier 35 = .ok (.fcmp .l, 1) := by decide +kernel
theorem dX8_isFunnier_36 : decode cX8_isFunnier 36 = .ok (.ifCond .le 7, 3) := by decide +kernel
theorem dX8_isFunnier_39 : decode cX8_isFunnier 39 = .ok (.iconst 1, 1) := by decide +kernel
theorem dX8_isFunnier_40 : decode cX8_isFunnier 40 = .ok (.goto 4, 3) := by decide +kernel
theorem dX8_isFunnier_43 : decode cX8_isFunnier 43 = .ok (.iconst 0, 1) := by decide +kernel
theorem dX8_isFunnier_44 : decode cX8_isFunnier 44 = .ok (.ireturn, 1) := by decide +kernel
theorem dX8_isFunnier_45 : decode cX8_isFunnier 45 = .ok (.aload_n 0, 1) := by decide +kernel
theorem dX8_isFunnier_46 : decode cX8_isFunnier 46 = .ok (.iload_n 2, 1) := by decide +kernel
theorem dX8_isFunnier_47 : decode cX8_isFunnier 47 = .ok (.iconst 1, 1) := by decide +kernel
theorem dX8_isFunnier_48 : decode cX8_isFunnier 48 = .ok (.invokevirtual 73, 3) := by decide +kernel
theorem dX8_isFunnier_51 : decode cX8_isFunnier 51 = .ok (.aload_n 0, 1) := by decide +kernel
theorem dX8_isFunnier_52 : decode cX8_isFunnier 52 = .ok (.iload_n 1, 1) := by decide +kernel
theorem dX8_isFunnier_53 : decode cX8_isFunnier 53 = .ok (.iconst 1, 1) := by decide +kernel
theorem dX8_isFunnier_54 : decode cX8_isFunnier 54 = .ok (.invokevirtual 73, 3) := by decide +kernel
theorem dX8_isFunnier_57 : decode cX8_isFunnier 57 = .ok (.isub, 1) := by decide +kernel
theorem dX8_isFunnier_58 : decode cX8_isFunnier 58 = .ok (.istore 5, 2) := by decide +kernel
theorem dX8_isFunnier_60 : decode cX8_isFunnier 60 = .ok (.iload 5, 2) := by decide +kernel
theorem dX8_isFunnier_62 : decode cX8_isFunnier 62 = .ok (.ifCond .eq 16, 3) := by decide +kernel
theorem dX8_isFunnier_65 : decode cX8_isFunnier 65 = .ok (.iload 5, 2) := by decide +kernel
theorem dX8_isFunnier_67 : decode cX8_isFunnier 67 = .ok (.ifCond .le 7, 3) := by decide +kernel
theorem dX8_isFunnier_70 : decode cX8_isFunnier 70 = .ok (.iconst 1, 1) := by decide +kernel
theorem dX8_isFunnier_71 : decode cX8_isFunnier 71 = .ok (.goto 17, 3) := by decide +kernel
theorem dX8_isFunnier_74 : decode cX8_isFunnier 74 = .ok (.iconst 0, 1) := by decide +kernel
theorem dX8_isFunnier_75 : decode cX8_isFunnier 75 = .ok (.goto 13, 3) := by decide +kernel
theorem dX8_isFunnier_78 : decode cX8_isFunnier 78 = .ok (.iload_n 1, 1) := by decide +kernel
theorem dX8_isFunnier_79 : decode cX8_isFunnier 79 = .ok (.iload_n 2, 1) := by decide +kernel
theorem dX8_isFunnier_80 : decode cX8_isFunnier 80 = .ok (.if_icmp .ge 7, 3) := by decide +kernel
theorem dX8_isFunnier_83 : decode cX8_isFunnier 83 = .ok (.iconst 1, 1) := by decide +kernel
theorem dX8_isFunnier_84 : decode cX8_isFunnier 84 = .ok (.goto 4, 3) := by decide +kernel
theorem dX8_isFunnier_87 : decode cX8_isFunnier 87 = .ok (.iconst 0, 1) := by decide +kernel
theorem dX8_isFunnier_88 : decode cX8_isFunnier 88 = .ok (.ireturn, 1) := by decide +kernel
theorem dX8_funniest_0 : decode cX8_funniest 0 = .ok (.iconst 0, 1) := by decide +kernel
theorem dX8_funniest_1 : decode cX8_funniest 1 = .ok (.istore_n 2, 1) := by decide +kernel
theorem dX8_funniest_2 : decode cX8_funniest 2 = .ok (.iload_n 2, 1) := by decide +kernel
theorem dX8_funniest_3 : decode cX8_funniest 3 = .ok (.aload_n 0, 1) := by decide +kernel
theorem dX8_funniest_4 : decode cX8_funniest 4 = .ok (.getfield 32, 3) := by decide +kernel
theorem dX8_funniest_7 : decode cX8_funniest 7 = .ok (.iconst 0, 1) := by decide +kernel
theorem dX8_funniest_8 : decode cX8_funniest 8 = .ok (.iaload, 1) := by decide +kernel
theorem dX8_funniest_9 : decode cX8_funniest 9 = .ok (.if_icmp .ge 56, 3) := by decide +kernel
theorem dX8_funniest_12 : decode cX8_funniest 12 = .ok (.iconst 0, 1) := by decide +kernel
theorem dX8_funniest_13 : decode cX8_funniest 13 = .ok (.istore_n 3, 1) := by decide +kernel
theorem dX8_funniest_14 : decode cX8_funniest 14 = .ok (.iconst 0, 1) := by decide +kernel
theorem dX8_funniest_15 : decode cX8_funniest 15 = .ok (.istore 4, 2) := by decide +kernel
theorem dX8_funniest_17 : decode cX8_funniest 17 = .ok (.iload 4, 2) := by decide +kernel
theorem dX8_funniest_19 : decode cX8_funniest 19 = .ok (.aload_n 0, 1) := by decide +kernel
theorem dX8_funniest_20 : decode cX8_funniest 20 = .ok (.getfield 32, 3) := by decide +kernel
theorem dX8_funniest_23 : decode cX8_funniest 23 = .ok (.iconst 0, 1) := by decide +kernel
theorem dX8_funniest_24 : decode cX8_funniest 24 = .ok (.iaload, 1) := by decide +kernel
theorem dX8_funniest_25 : decode cX8_funniest 25 = .ok (.if_icmp .ge 27, 3) := by decide +kernel
theorem dX8_funniest_28 : decode cX8_funniest 28 = .ok (.iload_n 3, 1) := by decide +kernel
theorem dX8_funniest_29 : decode cX8_funniest 29 = .ok (.aload_n 0, 1) := by decide +kernel
theorem dX8_funniest_30 : decode cX8_funniest 30 = .ok (.iload 4, 2) := by decide +kernel
theorem dX8_funniest_32 : decode cX8_funniest 32 = .ok (.iload_n 2, 1) := by decide +kernel
theorem dX8_funniest_33 : decode cX8_funniest 33 = .ok (.invokevirtual 204, 3) := by decide +kernel
theorem dX8_funniest_36 : decode cX8_funniest 36 = .ok (.ifCond .eq 7, 3) := by decide +kernel
theorem dX8_funniest_39 : decode cX8_funniest 39 = .ok (.iconst 1, 1) := by decide +kernel
theorem dX8_funniest_40 : decode cX8_funniest 40 = .ok (.goto 4, 3) := by decide +kernel
theorem dX8_funniest_43 : decode cX8_funniest 43 = .ok (.iconst 0, 1) := by decide +kernel
theorem dX8_funniest_44 : decode cX8_funniest 44 = .ok (.iadd, 1) := by decide +kernel
theorem dX8_funniest_45 : decode cX8_funniest 45 = .ok (.istore_n 3, 1) := by decide +kernel
theorem dX8_funniest_46 : decode cX8_funniest 46 = .ok (.iinc 4 1, 3) := by decide +kernel
theorem dX8_funniest_49 : decode cX8_funniest 49 = .ok (.goto (-32), 3) := by decide +kernel
theorem dX8_funniest_52 : decode cX8_funniest 52 = .ok (.iload_n 3, 1) := by decide +kernel
theorem dX8_funniest_53 : decode cX8_funniest 53 = .ok (.iload_n 1, 1) := by decide +kernel
theorem dX8_funniest_54 : decode cX8_funniest 54 = .ok (.if_icmp .ne 5, 3) := by decide +kernel
theorem dX8_funniest_57 : decode cX8_funniest 57 = .ok (.iload_n 2, 1) := by decide +kernel
theorem dX8_funniest_58 : decode cX8_funniest 58 = .ok (.ireturn, 1) := by decide +kernel
theorem dX8_funniest_59 : decode cX8_funniest 59 = .ok (.iinc 2 1, 3) := by decide +kernel
theorem dX8_funniest_62 : decode cX8_funniest 62 = .ok (.goto (-60), 3) := by decide +kernel
theorem dX8_funniest_65 : decode cX8_funniest 65 = .ok (.iconst (-1), 1) := by decide +kernel
theorem dX8_funniest_66 : decode cX8_funniest 66 = .ok (.ireturn, 1) := by decide +kernel
theorem dX8_inWell_0 : decode cX8_inWell 0 = .ok (.iload_n 1, 1) := by decide +kernel
theorem dX8_inWell_1 : decode cX8_inWell 1 = .ok (.invokestatic 81, 3) := by decide +kernel
theorem dX8_inWell_4 : decode cX8_inWell 4 = .ok (.ifCond .eq 12, 3) := by decide +kernel
theorem dX8_inWell_7 : decode cX8_inWell 7 = .ok (.aload_n 0, 1) := by decide +kernel
theorem dX8_inWell_8 : decode cX8_inWell 8 = .ok (.iload_n 1, 1) := by decide +kernel
theorem dX8_inWell_9 : decode cX8_inWell 9 = .ok (.iload_n 2, 1) := by decide +kernel
theorem dX8_inWell_10 : decode cX8_inWell 10 = .ok (.invokevirtual 172, 3) := by decide +kernel
theorem dX8_inWell_13 : decode cX8_inWell 13 = .ok (.goto 4, 3) := by decide +kernel
theorem dX8_inWell_16 : decode cX8_inWell 16 = .ok (.iconst (-1), 1) := by decide +kernel
theorem dX8_inWell_17 : decode cX8_inWell 17 = .ok (.ireturn, 1) := by decide +kernel
theorem dX8_isFuller_0 : decode cX8_isFuller 0 = .ok (.aload_n 0, 1) := by decide +kernel
theorem dX8_isFuller_1 : decode cX8_isFuller 1 = .ok (.iload_n 1, 1) := by decide +kernel
theorem dX8_isFuller_2 : decode cX8_isFuller 2 = .ok (.invokevirtual 97, 3) := by decide +kernel
theorem dX8_isFuller_5 : decode cX8_isFuller 5 = .ok (.aload_n 0, 1) := by decide +kernel
theorem dX8_isFuller_6 : decode cX8_isFuller 6 = .ok (.iload_n 2, 1) := by decide +kernel
theorem dX8_isFuller_7 : decode cX8_isFuller 7 = .ok (.invokevirtual 97, 3) := by decide +kernel
theorem dX8_isFuller_10 : decode cX8_isFuller 10 = .ok (.isub, 1) := by decide +kernel
theorem dX8_isFuller_11 : decode cX8_isFuller 11 = .ok (.istore_n 3, 1) := by decide +kernel
theorem dX8_isFuller_12 : decode cX8_isFuller 12 = .ok (.aload_n 0, 1) := by decide +kernel
theorem dX8_isFuller_13 : decode cX8_isFuller 13 = .ok (.getfield 32, 3) := by decide +kernel
theorem dX8_isFuller_16 : decode cX8_isFuller 16 = .ok (.bipush 14, 2) := by decide +kernel
theorem dX8_isFuller_18 : decode cX8_isFuller 18 = .ok (.iload_n 1, 1) := by decide +kernel
theorem dX8_isFuller_19 : decode cX8_isFuller 19 = .ok (.iadd, 1) := by decide +kernel
theorem dX8_isFuller_20 : decode cX8_isFuller 20 = .ok (.iaload, 1) := by decide +kernel
theorem dX8_isFuller_21 : decode cX8_isFuller 21 = .ok (.aload_n 0, 1) := by decide +kernel
theorem dX8_isFuller_22 : decode cX8_isFuller 22 = .ok (.getfield 32, 3) := by decide +kernel
theorem dX8_isFuller_25 : decode cX8_isFuller 25 = .ok (.bipush 14, 2) := by decide +kernel
theorem dX8_isFuller_27 : decode cX8_isFuller 27 = .ok (.iload_n 2, 1) := by decide +kernel
theorem dX8_isFuller_28 : decode cX8_isFuller 28 = .ok (.iadd, 1) := by decide +kernel
theorem dX8_isFuller_29 : decode cX8_isFuller 29 = .ok (.iaload, 1) := by decide +kernel
theorem dX8_isFuller_30 : decode cX8_isFuller 30 = .ok (.isub, 1) := by decide +kernel
theorem dX8_isFuller_31 : decode cX8_isFuller 31 = .ok (.istore 4, 2) := by decide +kernel
theorem dX8_isFuller_33 : decode cX8_isFuller 33 = .ok (.iload_n 3, 1) := by decide +kernel
theorem dX8_isFuller_34 : decode cX8_isFuller 34 = .ok (.ifCond .eq 13, 3) := by decide +kernel
theorem dX8_isFuller_37 : decode cX8_isFuller 37 = .ok (.iload_n 3, 1) := by decide +kernel
theorem dX8_isFuller_38 : decode cX8_isFuller 38 = .ok (.ifCond .le 7, 3) := by decide +kernel
theorem dX8_isFuller_41 : decode cX8_isFuller 41 = .ok (.iconst 1, 1) := by decide +kernel
theorem dX8_isFuller_42 : decode cX8_isFuller 42 = .ok (.goto 4, 3) := by decide +kernel
theorem dX8_isFuller_45 : decode cX8_isFuller 45 = .ok (.iconst 0, 1) := by decide +kernel
theorem dX8_isFuller_46 : decode cX8_isFuller 46 = .ok (.ireturn, 1) := by decide +kernel
theorem dX8_isFuller_47 : decode cX8_isFuller 47 = .ok (.iload 4, 2) := by decide +kernel
theorem dX8_isFuller_49 : decode cX8_isFuller 49 = .ok (.ifCond .eq 16, 3) := by decide +kernel
theorem dX8_isFuller_52 : decode cX8_isFuller 52 = .ok (.iload 4, 2) := by decide +kernel
theorem dX8_isFuller_54 : decode cX8_isFuller 54 = .ok (.ifCond .le 7, 3) := by decide +kernel
theorem dX8_isFuller_57 : decode cX8_isFuller 57 = .ok (.iconst 1, 1) := by decide +kernel
theorem dX8_isFuller_58 : decode cX8_isFuller 58 = .ok (.goto 17, 3) := by decide +kernel
theorem dX8_isFuller_61 : decode cX8_isFuller 61 = .ok (.iconst 0, 1) := by decide +kernel
theorem dX8_isFuller_62 : decode cX8_isFuller 62 = .ok (.goto 13, 3) := by decide +kernel
theorem dX8_isFuller_65 : decode cX8_isFuller 65 = .ok (.iload_n 1, 1) := by decide +kernel
theorem dX8_isFuller_66 : decode cX8_isFuller 66 = .ok (.iload_n 2, 1) := by decide +kernel
theorem dX8_isFuller_67 : decode cX8_isFuller 67 = .ok (.if_icmp .ge 7, 3) := by decide +kernel
theorem dX8_isFuller_70 : decode cX8_isFuller 70 = .ok (.iconst 1, 1) := by decide +kernel
theorem dX8_isFuller_71 : decode cX8_isFuller 71 = .ok (.goto 4, 3) := by decide +kernel
theorem dX8_isFuller_74 : decode cX8_isFuller 74 = .ok (.iconst 0, 1) := by decide +kernel
theorem dX8_isFuller_75 : decode cX8_isFuller 75 = .ok (.ireturn, 1) := by decide +kernel
theorem dX8_fullest_0 : decode cX8_fullest 0 = .ok (.iconst 0, 1) := by decide +kernel
theorem dX8_fullest_1 : decode cX8_fullest 1 = .ok (.istore_n 2, 1) := by decide +kernel
theorem dX8_fullest_2 : decode cX8_fullest 2 = .ok (.iload_n 2, 1) := by decide +kernel
theorem dX8_fullest_3 : decode cX8_fullest 3 = .ok (.iconst 4, 1) := by decide +kernel
theorem dX8_fullest_4 : decode cX8_fullest 4 = .ok (.if_icmp .ge 51, 3) := by decide +kernel
theorem dX8_fullest_7 : decode cX8_fullest 7 = .ok (.iconst 0, 1) := by decide +kernel
theorem dX8_fullest_8 : decode cX8_fullest 8 = .ok (.istore_n 3, 1) := by decide +kernel
theorem dX8_fullest_9 : decode cX8_fullest 9 = .ok (.iconst 0, 1) := by decide +kernel
theorem dX8_fullest_10 : decode cX8_fullest 10 = .ok (.istore 4, 2) := by decide +kernel
theorem dX8_fullest_12 : decode cX8_fullest 12 = .ok (.iload 4, 2) := by decide +kernel
theorem dX8_fullest_14 : decode cX8_fullest 14 = .ok (.iconst 4, 1) := by decide +kernel
theorem dX8_fullest_15 : decode cX8_fullest 15 = .ok (.if_icmp .ge 27, 3) := by decide +kernel
theorem dX8_fullest_18 : decode cX8_fullest 18 = .ok (.iload_n 3, 1) := by decide +kernel
theorem dX8_fullest_19 : decode cX8_fullest 19 = .ok (.aload_n 0, 1) := by decide +kernel
theorem dX8_fullest_20 : decode cX8_fullest 20 = .ok (.iload 4, 2) := by decide +kernel
theorem dX8_fullest_22 : decode cX8_fullest 22 = .ok (.iload_n 2, 1) := by decide +kernel
theorem dX8_fullest_23 : decode cX8_fullest 23 = .ok (.invokevirtual 208, 3) := by decide +kernel
theorem dX8_fullest_26 : decode cX8_fullest 26 = .ok (.ifCond .eq 7, 3) := by decide +kernel
theorem dX8_fullest_29 : decode cX8_fullest 29 = .ok (.iconst 1, 1) := by decide +kernel
theorem dX8_fullest_30 : decode cX8_fullest 30 = .ok (.goto 4, 3) := by decide +kernel
theorem dX8_fullest_33 : decode cX8_fullest 33 = .ok (.iconst 0, 1) := by decide +kernel
theorem dX8_fullest_34 : decode cX8_fullest 34 = .ok (.iadd, 1) := by decide +kernel
theorem dX8_fullest_35 : decode cX8_fullest 35 = .ok (.istore_n 3, 1) := by decide +kernel
theorem dX8_fullest_36 : decode cX8_fullest 36 = .ok (.iinc 4 1, 3) := by decide +kernel
theorem dX8_fullest_39 : decode cX8_fullest 39 = .ok (.goto (-27), 3) := by decide +kernel
theorem dX8_fullest_42 : decode cX8_fullest 42 = .ok (.iload_n 3, 1) := by decide +kernel
theorem dX8_fullest_43 : decode cX8_fullest 43 = .ok (.iload_n 1, 1) := by decide +kernel
theorem dX8_fullest_44 : decode cX8_fullest 44 = .ok (.if_icmp .ne 5, 3) := by decide +kernel
theorem dX8_fullest_47 : decode cX8_fullest 47 = .ok (.iload_n 2, 1) := by decide +kernel
theorem dX8_fullest_48 : decode cX8_fullest 48 = .ok (.ireturn, 1) := by decide +kernel
theorem dX8_fullest_49 : decode cX8_fullest 49 = .ok (.iinc 2 1, 3) := by decide +kernel
theorem dX8_fullest_52 : decode cX8_fullest 52 = .ok (.goto (-50), 3) := by decide +kernel
theorem dX8_fullest_55 : decode cX8_fullest 55 = .ok (.iconst (-1), 1) := by decide +kernel
theorem dX8_fullest_56 : decode cX8_fullest 56 = .ok (.ireturn, 1) := by decide +kernel
theorem dX8_isCounted_0 : decode cX8_isCounted 0 = .ok (.iconst 0, 1) := by decide +kernel
theorem dX8_isCounted_1 : decode cX8_isCounted 1 = .ok (.istore_n 1, 1) := by decide +kernel
theorem dX8_isCounted_2 : decode cX8_isCounted 2 = .ok (.iload_n 1, 1) := by decide +kernel
theorem dX8_isCounted_3 : decode cX8_isCounted 3 = .ok (.aload_n 0, 1) := by decide +kernel
theorem dX8_isCounted_4 : decode cX8_isCounted 4 = .ok (.getfield 32, 3) := by decide +kernel
theorem dX8_isCounted_7 : decode cX8_isCounted 7 = .ok (.iconst 0, 1) := by decide +kernel
theorem dX8_isCounted_8 : decode cX8_isCounted 8 = .ok (.iaload, 1) := by decide +kernel
theorem dX8_isCounted_9 : decode cX8_isCounted 9 = .ok (.if_icmp .ge 24, 3) := by decide +kernel
theorem dX8_isCounted_12 : decode cX8_isCounted 12 = .ok (.aload_n 0, 1) := by decide +kernel
theorem dX8_isCounted_13 : decode cX8_isCounted 13 = .ok (.aload_n 0, 1) := by decide +kernel
theorem dX8_isCounted_14 : decode cX8_isCounted 14 = .ok (.iload_n 1, 1) := by decide +kernel
theorem dX8_isCounted_15 : decode cX8_isCounted 15 = .ok (.iconst 2, 1) := by decide +kernel
theorem dX8_isCounted_16 : decode cX8_isCounted 16 = .ok (.invokevirtual 73, 3) := by decide +kernel
theorem dX8_isCounted_19 : decode cX8_isCounted 19 = .ok (.invokevirtual 85, 3) := by decide +kernel
theorem dX8_isCounted_22 : decode cX8_isCounted 22 = .ok (.ifCond .eq 5, 3) := by decide +kernel
theorem dX8_isCounted_25 : decode cX8_isCounted 25 = .ok (.iconst 0, 1) := by decide +kernel
theorem dX8_isCounted_26 : decode cX8_isCounted 26 = .ok (.ireturn, 1) := by decide +kernel
theorem dX8_isCounted_27 : decode cX8_isCounted 27 = .ok (.iinc 1 1, 3) := by decide +kernel
theorem dX8_isCounted_30 : decode cX8_isCounted 30 = .ok (.goto (-28), 3) := by decide +kernel
theorem dX8_isCounted_33 : decode cX8_isCounted 33 = .ok (.aload_n 0, 1) := by decide +kernel
theorem dX8_isCounted_34 : decode cX8_isCounted 34 = .ok (.getfield 32, 3) := by decide +kernel
theorem dX8_isCounted_37 : decode cX8_isCounted 37 = .ok (.bipush 7, 2) := by decide +kernel
theorem dX8_isCounted_39 : decode cX8_isCounted 39 = .ok (.iaload, 1) := by decide +kernel
theorem dX8_isCounted_40 : decode cX8_isCounted 40 = .ok (.aload_n 0, 1) := by decide +kernel
theorem dX8_isCounted_41 : decode cX8_isCounted 41 = .ok (.getfield 32, 3) := by decide +kernel
theorem dX8_isCounted_44 : decode cX8_isCounted 44 = .ok (.iconst 0, 1) := by decide +kernel
theorem dX8_isCounted_45 : decode cX8_isCounted 45 = .ok (.iaload, 1) := by decide +kernel
theorem dX8_isCounted_46 : decode cX8_isCounted 46 = .ok (.aload_n 0, 1) := by decide +kernel
theorem dX8_isCounted_47 : decode cX8_isCounted 47 = .ok (.getfield 32, 3) := by decide +kernel
theorem dX8_isCounted_50 : decode cX8_isCounted 50 = .ok (.bipush 6, 2) := by decide +kernel
theorem dX8_isCounted_52 : decode cX8_isCounted 52 = .ok (.iaload, 1) := by decide +kernel
theorem dX8_isCounted_53 : decode cX8_isCounted 53 = .ok (.iadd, 1) := by decide +kernel
theorem dX8_isCounted_54 : decode cX8_isCounted 54 = .ok (.aload_n 0, 1) := by decide +kernel
theorem dX8_isCounted_55 : decode cX8_isCounted 55 = .ok (.getfield 32, 3) := by decide +kernel
theorem dX8_isCounted_58 : decode cX8_isCounted 58 = .ok (.bipush 8, 2) := by decide +kernel
theorem dX8_isCounted_60 : decode cX8_isCounted 60 = .ok (.iaload, 1) := by decide +kernel
theorem dX8_isCounted_61 : decode cX8_isCounted 61 = .ok (.iadd, 1) := by decide +kernel
theorem dX8_isCounted_62 : decode cX8_isCounted 62 = .ok (.if_icmp .ne 24, 3) := by decide +kernel
theorem dX8_isCounted_65 : decode cX8_isCounted 65 = .ok (.aload_n 0, 1) := by decide +kernel
theorem dX8_isCounted_66 : decode cX8_isCounted 66 = .ok (.invokevirtual 188, 3) := by decide +kernel
theorem dX8_isCounted_69 : decode cX8_isCounted 69 = .ok (.invokestatic 159, 3) := by decide +kernel
theorem dX8_isCounted_72 : decode cX8_isCounted 72 = .ok (.aload_n 0, 1) := by decide +kernel
theorem dX8_isCounted_73 : decode cX8_isCounted 73 = .ok (.invokevirtual 211, 3) := by decide +kernel
theorem dX8_isCounted_76 : decode cX8_isCounted 76 = .ok (.invokestatic 159, 3) := by decide +kernel
theorem dX8_isCounted_79 : decode cX8_isCounted 79 = .ok (.if_icmp .ne 7, 3) := by decide +kernel
theorem dX8_isCounted_82 : decode cX8_isCounted 82 = .ok (.iconst 1, 1) := by decide +kernel
theorem dX8_isCounted_83 : decode cX8_isCounted 83 = .ok (.goto 4, 3) := by decide +kernel
theorem dX8_isCounted_86 : decode cX8_isCounted 86 = .ok (.iconst 0, 1) := by decide +kernel
theorem dX8_isCounted_87 : decode cX8_isCounted 87 = .ok (.ireturn, 1) := by decide +kernel
theorem dX8_meanDepth_0 : decode cX8_meanDepth 0 = .ok (.iconst 0, 1) := by decide +kernel
theorem dX8_meanDepth_1 : decode cX8_meanDepth 1 = .ok (.istore_n 1, 1) := by decide +kernel
theorem dX8_meanDepth_2 : decode cX8_meanDepth 2 = .ok (.iconst 0, 1) := by decide +kernel
theorem dX8_meanDepth_3 : decode cX8_meanDepth 3 = .ok (.istore_n 2, 1) := by decide +kernel
theorem dX8_meanDepth_4 : decode cX8_meanDepth 4 = .ok (.iload_n 2, 1) := by decide +kernel
theorem dX8_meanDepth_5 : decode cX8_meanDepth 5 = .ok (.aload_n 0, 1) := by decide +kernel
theorem dX8_meanDepth_6 : decode cX8_meanDepth 6 = .ok (.getfield 32, 3) := by decide +kernel
theorem dX8_meanDepth_9 : decode cX8_meanDepth 9 = .ok (.iconst 0, 1) := by decide +kernel
theorem dX8_meanDepth_10 : decode cX8_meanDepth 10 = .ok (.iaload, 1) := by decide +kernel
theorem dX8_meanDepth_11 : decode cX8_meanDepth 11 = .ok (.if_icmp .ge 18, 3) := by decide +kernel
theorem dX8_meanDepth_14 : decode cX8_meanDepth 14 = .ok (.iload_n 1, 1) := by decide +kernel
theorem dX8_meanDepth_15 : decode cX8_meanDepth 15 = .ok (.aload_n 0, 1) := by decide +kernel
theorem dX8_meanDepth_16 : decode cX8_meanDepth 16 = .ok (.iload_n 2, 1) := by decide +kernel
theorem dX8_meanDepth_17 : decode cX8_meanDepth 17 = .ok (.iconst 1, 1) := by decide +kernel
theorem dX8_meanDepth_18 : decode cX8_meanDepth 18 = .ok (.invokevirtual 73, 3) := by decide +kernel
theorem dX8_meanDepth_21 : decode cX8_meanDepth 21 = .ok (.iadd, 1) := by decide +kernel
theorem dX8_meanDepth_22 : decode cX8_meanDepth 22 = .ok (.istore_n 1, 1) := by decide +kernel
theorem dX8_meanDepth_23 : decode cX8_meanDepth 23 = .ok (.iinc 2 1, 3) := by decide +kernel
theorem dX8_meanDepth_26 : decode cX8_meanDepth 26 = .ok (.goto (-22), 3) := by decide +kernel
theorem dX8_meanDepth_29 : decode cX8_meanDepth 29 = .ok (.aload_n 0, 1) := by decide +kernel
theorem dX8_meanDepth_30 : decode cX8_meanDepth 30 = .ok (.getfield 32, 3) := by decide +kernel
theorem dX8_meanDepth_33 : decode cX8_meanDepth 33 = .ok (.iconst 0, 1) := by decide +kernel
theorem dX8_meanDepth_34 : decode cX8_meanDepth 34 = .ok (.iaload, 1) := by decide +kernel
theorem dX8_meanDepth_35 : decode cX8_meanDepth 35 = .ok (.ifCond .ne 7, 3) := by decide +kernel
theorem dX8_meanDepth_38 : decode cX8_meanDepth 38 = .ok (.dconst 0, 1) := by decide +kernel
theorem dX8_meanDepth_39 : decode cX8_meanDepth 39 = .ok (.goto 13, 3) := by decide +kernel
theorem dX8_meanDepth_42 : decode cX8_meanDepth 42 = .ok (.iload_n 1, 1) := by decide +kernel
theorem dX8_meanDepth_43 : decode cX8_meanDepth 43 = .ok (.i2d, 1) := by decide +kernel
theorem dX8_meanDepth_44 : decode cX8_meanDepth 44 = .ok (.aload_n 0, 1) := by decide +kernel
theorem dX8_meanDepth_45 : decode cX8_meanDepth 45 = .ok (.getfield 32, 3) := by decide +kernel
theorem dX8_meanDepth_48 : decode cX8_meanDepth 48 = .ok (.iconst 0, 1) := by decide +kernel
theorem dX8_meanDepth_49 : decode cX8_meanDepth 49 = .ok (.iaload, 1) := by decide +kernel
theorem dX8_meanDepth_50 : decode cX8_meanDepth 50 = .ok (.i2d, 1) := by decide +kernel
theorem dX8_meanDepth_51 : decode cX8_meanDepth 51 = .ok (.ddiv, 1) := by decide +kernel
theorem dX8_meanDepth_52 : decode cX8_meanDepth 52 = .ok (.dreturn, 1) := by decide +kernel
theorem dX8_knownShare_0 : decode cX8_knownShare 0 = .ok (.iconst 0, 1) := by decide +kernel
theorem dX8_knownShare_1 : decode cX8_knownShare 1 = .ok (.istore_n 1, 1) := by decide +kernel
theorem dX8_knownShare_2 : decode cX8_knownShare 2 = .ok (.iconst 0, 1) := by decide +kernel
theorem dX8_knownShare_3 : decode cX8_knownShare 3 = .ok (.istore_n 2, 1) := by decide +kernel
theorem dX8_knownShare_4 : decode cX8_knownShare 4 = .ok (.iload_n 2, 1) := by decide +kernel
theorem dX8_knownShare_5 : decode cX8_knownShare 5 = .ok (.bipush 64, 2) := by decide +kernel
theorem dX8_knownShare_7 : decode cX8_knownShare 7 = .ok (.if_icmp .ge 25, 3) := by decide +kernel
theorem dX8_knownShare_10 : decode cX8_knownShare 10 = .ok (.iload_n 1, 1) := by decide +kernel
theorem dX8_knownShare_11 : decode cX8_knownShare 11 = .ok (.aload_n 0, 1) := by decide +kernel
theorem dX8_knownShare_12 : decode cX8_knownShare 12 = .ok (.iload_n 2, 1) := by decide +kernel
theorem dX8_knownShare_13 : decode cX8_knownShare 13 = .ok (.invokevirtual 85, 3) := by decide +kernel
theorem dX8_knownShare_16 : decode cX8_knownShare 16 = .ok (.ifCond .eq 7, 3) := by decide +kernel
theorem dX8_knownShare_19 : decode cX8_knownShare 19 = .ok (.iconst 1, 1) := by decide +kernel
theorem dX8_knownShare_20 : decode cX8_knownShare 20 = .ok (.goto 4, 3) := by decide +kernel
theorem dX8_knownShare_23 : decode cX8_knownShare 23 = .ok (.iconst 0, 1) := by decide +kernel
theorem dX8_knownShare_24 : decode cX8_knownShare 24 = .ok (.iadd, 1) := by decide +kernel
theorem dX8_knownShare_25 : decode cX8_knownShare 25 = .ok (.istore_n 1, 1) := by decide +kernel
theorem dX8_knownShare_26 : decode cX8_knownShare 26 = .ok (.iinc 2 1, 3) := by decide +kernel
theorem dX8_knownShare_29 : decode cX8_knownShare 29 = .ok (.goto (-25), 3) := by decide +kernel
theorem dX8_knownShare_32 : decode cX8_knownShare 32 = .ok (.iload_n 1, 1) := by decide +kernel
theorem dX8_knownShare_33 : decode cX8_knownShare 33 = .ok (.i2f, 1) := by decide +kernel
theorem dX8_knownShare_34 : decode cX8_knownShare 34 = .ok (.ldc 214, 2) := by decide +kernel
theorem dX8_knownShare_36 : decode cX8_knownShare 36 = .ok (.fdiv, 1) := by decide +kernel
theorem dX8_knownShare_37 : decode cX8_knownShare 37 = .ok (.freturn, 1) := by decide +kernel
theorem dX8_primed_0 : decode cX8_primed 0 = .ok (.iconst 0, 1) := by decide +kernel
theorem dX8_primed_1 : decode cX8_primed 1 = .ok (.istore_n 1, 1) := by decide +kernel
theorem dX8_primed_2 : decode cX8_primed 2 = .ok (.iconst 0, 1) := by decide +kernel
theorem dX8_primed_3 : decode cX8_primed 3 = .ok (.istore_n 2, 1) := by decide +kernel
theorem dX8_primed_4 : decode cX8_primed 4 = .ok (.iload_n 2, 1) := by decide +kernel
theorem dX8_primed_5 : decode cX8_primed 5 = .ok (.aload_n 0, 1) := by decide +kernel
theorem dX8_primed_6 : decode cX8_primed 6 = .ok (.getfield 32, 3) := by decide +kernel
theorem dX8_primed_9 : decode cX8_primed 9 = .ok (.iconst 0, 1) := by decide +kernel
theorem dX8_primed_10 : decode cX8_primed 10 = .ok (.iaload, 1) := by decide +kernel
theorem dX8_primed_11 : decode cX8_primed 11 = .ok (.if_icmp .ge 18, 3) := by decide +kernel
theorem dX8_primed_14 : decode cX8_primed 14 = .ok (.iload_n 1, 1) := by decide +kernel
theorem dX8_primed_15 : decode cX8_primed 15 = .ok (.aload_n 0, 1) := by decide +kernel
theorem dX8_primed_16 : decode cX8_primed 16 = .ok (.iload_n 2, 1) := by decide +kernel
theorem dX8_primed_17 : decode cX8_primed 17 = .ok (.iconst 4, 1) := by decide +kernel
theorem dX8_primed_18 : decode cX8_primed 18 = .ok (.invokevirtual 73, 3) := by decide +kernel
theorem dX8_primed_21 : decode cX8_primed 21 = .ok (.iadd, 1) := by decide +kernel
theorem dX8_primed_22 : decode cX8_primed 22 = .ok (.istore_n 1, 1) := by decide +kernel
theorem dX8_primed_23 : decode cX8_primed 23 = .ok (.iinc 2 1, 3) := by decide +kernel
theorem dX8_primed_26 : decode cX8_primed 26 = .ok (.goto (-22), 3) := by decide +kernel
theorem dX8_primed_29 : decode cX8_primed 29 = .ok (.iload_n 1, 1) := by decide +kernel
theorem dX8_primed_30 : decode cX8_primed 30 = .ok (.ireturn, 1) := by decide +kernel
theorem dX8_account_0 : decode cX8_account 0 = .ok (.iload_n 1, 1) := by decide +kernel
theorem dX8_account_1 : decode cX8_account 1 = .ok (.tableswitch 168 0 13 #[71, 78, 85, 92, 99, 106, 113, 121, 129, 137, 145, 153, 158, 163], 71) := by decide +kernel
theorem dX8_account_72 : decode cX8_account 72 = .ok (.aload_n 0, 1) := by decide +kernel
theorem dX8_account_73 : decode cX8_account 73 = .ok (.getfield 32, 3) := by decide +kernel
theorem dX8_account_76 : decode cX8_account 76 = .ok (.iconst 0, 1) := by decide +kernel
theorem dX8_account_77 : decode cX8_account 77 = .ok (.iaload, 1) := by decide +kernel
theorem dX8_account_78 : decode cX8_account 78 = .ok (.ireturn, 1) := by decide +kernel
theorem dX8_account_79 : decode cX8_account 79 = .ok (.aload_n 0, 1) := by decide +kernel
theorem dX8_account_80 : decode cX8_account 80 = .ok (.getfield 32, 3) := by decide +kernel
theorem dX8_account_83 : decode cX8_account 83 = .ok (.iconst 1, 1) := by decide +kernel
theorem dX8_account_84 : decode cX8_account 84 = .ok (.iaload, 1) := by decide +kernel
theorem dX8_account_85 : decode cX8_account 85 = .ok (.ireturn, 1) := by decide +kernel
theorem dX8_account_86 : decode cX8_account 86 = .ok (.aload_n 0, 1) := by decide +kernel
theorem dX8_account_87 : decode cX8_account 87 = .ok (.getfield 32, 3) := by decide +kernel
theorem dX8_account_90 : decode cX8_account 90 = .ok (.iconst 2, 1) := by decide +kernel
theorem dX8_account_91 : decode cX8_account 91 = .ok (.iaload, 1) := by decide +kernel
theorem dX8_account_92 : decode cX8_account 92 = .ok (.ireturn, 1) := by decide +kernel
theorem dX8_account_93 : decode cX8_account 93 = .ok (.aload_n 0, 1) := by decide +kernel
theorem dX8_account_94 : decode cX8_account 94 = .ok (.getfield 32, 3) := by decide +kernel
theorem dX8_account_97 : decode cX8_account 97 = .ok (.iconst 3, 1) := by decide +kernel
theorem dX8_account_98 : decode cX8_account 98 = .ok (.iaload, 1) := by decide +kernel
theorem dX8_account_99 : decode cX8_account 99 = .ok (.ireturn, 1) := by decide +kernel
theorem dX8_account_100 : decode cX8_account 100 = .ok (.aload_n 0, 1) := by decide +kernel
theorem dX8_account_101 : decode cX8_account 101 = .ok (.getfield 32, 3) := by decide +kernel
theorem dX8_account_104 : decode cX8_account 104 = .ok (.iconst 4, 1) := by decide +kernel
theorem dX8_account_105 : decode cX8_account 105 = .ok (.iaload, 1) := by decide +kernel
theorem dX8_account_106 : decode cX8_account 106 = .ok (.ireturn, 1) := by decide +kernel
theorem dX8_account_107 : decode cX8_account 107 = .ok (.aload_n 0, 1) := by decide +kernel
theorem dX8_account_108 : decode cX8_account 108 = .ok (.getfield 32, 3) := by decide +kernel
theorem dX8_account_111 : decode cX8_account 111 = .ok (.iconst 5, 1) := by decide +kernel
theorem dX8_account_112 : decode cX8_account 112 = .ok (.iaload, 1) := by decide +kernel
theorem dX8_account_113 : decode cX8_account 113 = .ok (.ireturn, 1) := by decide +kernel
theorem dX8_account_114 : decode cX8_account 114 = .ok (.aload_n 0, 1) := by decide +kernel
theorem dX8_account_115 : decode cX8_account 115 = .ok (.getfield 32, 3) := by decide +kernel
theorem dX8_account_118 : decode cX8_account 118 = .ok (.bipush 6, 2) := by decide +kernel
theorem dX8_account_120 : decode cX8_account 120 = .ok (.iaload, 1) := by decide +kernel
theorem dX8_account_121 : decode cX8_account 121 = .ok (.ireturn, 1) := by decide +kernel
theorem dX8_account_122 : decode cX8_account 122 = .ok (.aload_n 0, 1) := by decide +kernel
theorem dX8_account_123 : decode cX8_account 123 = .ok (.getfield 32, 3) := by decide +kernel
theorem dX8_account_126 : decode cX8_account 126 = .ok (.bipush 7, 2) := by decide +kernel
theorem dX8_account_128 : decode cX8_account 128 = .ok (.iaload, 1) := by decide +kernel
theorem dX8_account_129 : decode cX8_account 129 = .ok (.ireturn, 1) := by decide +kernel
theorem dX8_account_130 : decode cX8_account 130 = .ok (.aload_n 0, 1) := by decide +kernel
theorem dX8_account_131 : decode cX8_account 131 = .ok (.getfield 32, 3) := by decide +kernel
theorem dX8_account_134 : decode cX8_account 134 = .ok (.bipush 8, 2) := by decide +kernel
theorem dX8_account_136 : decode cX8_account 136 = .ok (.iaload, 1) := by decide +kernel
theorem dX8_account_137 : decode cX8_account 137 = .ok (.ireturn, 1) := by decide +kernel
theorem dX8_account_138 : decode cX8_account 138 = .ok (.aload_n 0, 1) := by decide +kernel
theorem dX8_account_139 : decode cX8_account 139 = .ok (.getfield 32, 3) := by decide +kernel
theorem dX8_account_142 : decode cX8_account 142 = .ok (.bipush 9, 2) := by decide +kernel
theorem dX8_account_144 : decode cX8_account 144 = .ok (.iaload, 1) := by decide +kernel
theorem dX8_account_145 : decode cX8_account 145 = .ok (.ireturn, 1) := by decide +kernel
theorem dX8_account_146 : decode cX8_account 146 = .ok (.aload_n 0, 1) := by decide +kernel
theorem dX8_account_147 : decode cX8_account 147 = .ok (.getfield 32, 3) := by decide +kernel
theorem dX8_account_150 : decode cX8_account 150 = .ok (.bipush 10, 2) := by decide +kernel
theorem dX8_account_152 : decode cX8_account 152 = .ok (.iaload, 1) := by decide +kernel
theorem dX8_account_153 : decode cX8_account 153 = .ok (.ireturn, 1) := by decide +kernel
theorem dX8_account_154 : decode cX8_account 154 = .ok (.aload_n 0, 1) := by decide +kernel
theorem dX8_account_155 : decode cX8_account 155 = .ok (.invokevirtual 215, 3) := by decide +kernel
theorem dX8_account_158 : decode cX8_account 158 = .ok (.ireturn, 1) := by decide +kernel
theorem dX8_account_159 : decode cX8_account 159 = .ok (.aload_n 0, 1) := by decide +kernel
theorem dX8_account_160 : decode cX8_account 160 = .ok (.getfield 218, 3) := by decide +kernel
theorem dX8_account_163 : decode cX8_account 163 = .ok (.ireturn, 1) := by decide +kernel
theorem dX8_account_164 : decode cX8_account 164 = .ok (.aload_n 0, 1) := by decide +kernel
theorem dX8_account_165 : decode cX8_account 165 = .ok (.getfield 61, 3) := by decide +kernel
theorem dX8_account_168 : decode cX8_account 168 = .ok (.ireturn, 1) := by decide +kernel
theorem dX8_account_169 : decode cX8_account 169 = .ok (.bipush (-2), 2) := by decide +kernel
theorem dX8_account_171 : decode cX8_account 171 = .ok (.ireturn, 1) := by decide +kernel
theorem dX8_writes_0 : decode cX8_writes 0 = .ok (.aload_n 0, 1) := by decide +kernel
theorem dX8_writes_1 : decode cX8_writes 1 = .ok (.getfield 48, 3) := by decide +kernel
theorem dX8_writes_4 : decode cX8_writes 4 = .ok (.aload_n 0, 1) := by decide +kernel
theorem dX8_writes_5 : decode cX8_writes 5 = .ok (.getfield 221, 3) := by decide +kernel
theorem dX8_writes_8 : decode cX8_writes 8 = .ok (.iload_n 1, 1) := by decide +kernel
theorem dX8_writes_9 : decode cX8_writes 9 = .ok (.i2c, 1) := by decide +kernel
theorem dX8_writes_10 : decode cX8_writes 10 = .ok (.castore, 1) := by decide +kernel
theorem dX8_writes_11 : decode cX8_writes 11 = .ok (.aload_n 0, 1) := by decide +kernel
theorem dX8_writes_12 : decode cX8_writes 12 = .ok (.dup, 1) := by decide +kernel
theorem dX8_writes_13 : decode cX8_writes 13 = .ok (.getfield 221, 3) := by decide +kernel
theorem dX8_writes_16 : decode cX8_writes 16 = .ok (.iconst 1, 1) := by decide +kernel
theorem dX8_writes_17 : decode cX8_writes 17 = .ok (.iadd, 1) := by decide +kernel
theorem dX8_writes_18 : decode cX8_writes 18 = .ok (.putfield 221, 3) := by decide +kernel
theorem dX8_writes_21 : decode cX8_writes 21 = .ok (.return_, 1) := by decide +kernel
theorem dX8_writesNumber_0 : decode cX8_writesNumber 0 = .ok (.iload_n 1, 1) := by decide +kernel
theorem dX8_writesNumber_1 : decode cX8_writesNumber 1 = .ok (.bipush 9, 2) := by decide +kernel
theorem dX8_writesNumber_3 : decode cX8_writesNumber 3 = .ok (.if_icmp .le 14, 3) := by decide +kernel
theorem dX8_writesNumber_6 : decode cX8_writesNumber 6 = .ok (.aload_n 0, 1) := by decide +kernel
theorem dX8_writesNumber_7 : decode cX8_writesNumber 7 = .ok (.bipush 48, 2) := by decide +kernel
theorem dX8_writesNumber_9 : decode cX8_writesNumber 9 = .ok (.iload_n 1, 1) := by decide +kernel
theorem dX8_writesNumber_10 : decode cX8_writesNumber 10 = .ok (.bipush 10, 2) := by decide +kernel
theorem dX8_writesNumber_12 : decode cX8_writesNumber 12 = .ok (.idiv, 1) := by decide +kernel
theorem dX8_writesNumber_13 : decode cX8_writesNumber 13 = .ok (.iadd, 1) := by decide +kernel
theorem dX8_writesNumber_14 : decode cX8_writesNumber 14 = .ok (.invokevirtual 224, 3) := by decide +kernel
theorem dX8_writesNumber_17 : decode cX8_writesNumber 17 = .ok (.aload_n 0, 1) := by decide +kernel
theorem dX8_writesNumber_18 : decode cX8_writesNumber 18 = .ok (.bipush 48, 2) := by decide +kernel
theorem dX8_writesNumber_20 : decode cX8_writesNumber 20 = .ok (.iload_n 1, 1) := by decide +kernel
theorem dX8_writesNumber_21 : decode cX8_writesNumber 21 = .ok (.bipush 10, 2) := by decide +kernel
theorem dX8_writesNumber_23 : decode cX8_writesNumber 23 = .ok (.irem, 1) := by decide +kernel
theorem dX8_writesNumber_24 : decode cX8_writesNumber 24 = .ok (.iadd, 1) := by decide +kernel
theorem dX8_writesNumber_25 : decode cX8_writesNumber 25 = .ok (.invokevirtual 224, 3) := by decide +kernel
theorem dX8_writesNumber_28 : decode cX8_writesNumber 28 = .ok (.return_, 1) := by decide +kernel
theorem dX8_writesJoke_0 : decode cX8_writesJoke 0 = .ok (.aload_n 0, 1) := by decide +kernel
theorem dX8_writesJoke_1 : decode cX8_writesJoke 1 = .ok (.bipush 32, 2) := by decide +kernel
theorem dX8_writesJoke_3 : decode cX8_writesJoke 3 = .ok (.invokevirtual 224, 3) := by decide +kernel
theorem dX8_writesJoke_6 : decode cX8_writesJoke 6 = .ok (.aload_n 0, 1) := by decide +kernel
theorem dX8_writesJoke_7 : decode cX8_writesJoke 7 = .ok (.aload_n 0, 1) := by decide +kernel
theorem dX8_writesJoke_8 : decode cX8_writesJoke 8 = .ok (.iload_n 1, 1) := by decide +kernel
theorem dX8_writesJoke_9 : decode cX8_writesJoke 9 = .ok (.iconst 1, 1) := by decide +kernel
theorem dX8_writesJoke_10 : decode cX8_writesJoke 10 = .ok (.invokevirtual 73, 3) := by decide +kernel
theorem dX8_writesJoke_13 : decode cX8_writesJoke 13 = .ok (.invokevirtual 227, 3) := by decide +kernel
theorem dX8_writesJoke_16 : decode cX8_writesJoke 16 = .ok (.aload_n 0, 1) := by decide +kernel
theorem dX8_writesJoke_17 : decode cX8_writesJoke 17 = .ok (.bipush 58, 2) := by decide +kernel
theorem dX8_writesJoke_19 : decode cX8_writesJoke 19 = .ok (.invokevirtual 224, 3) := by decide +kernel
theorem dX8_writesJoke_22 : decode cX8_writesJoke 22 = .ok (.aload_n 0, 1) := by decide +kernel
theorem dX8_writesJoke_23 : decode cX8_writesJoke 23 = .ok (.aload_n 0, 1) := by decide +kernel
theorem dX8_writesJoke_24 : decode cX8_writesJoke 24 = .ok (.iload_n 1, 1) := by decide +kernel
theorem dX8_writesJoke_25 : decode cX8_writesJoke 25 = .ok (.iconst 2, 1) := by decide +kernel
theorem dX8_writesJoke_26 : decode cX8_writesJoke 26 = .ok (.invokevirtual 73, 3) := by decide +kernel
theorem dX8_writesJoke_29 : decode cX8_writesJoke 29 = .ok (.invokevirtual 227, 3) := by decide +kernel
theorem dX8_writesJoke_32 : decode cX8_writesJoke 32 = .ok (.aload_n 0, 1) := by decide +kernel
theorem dX8_writesJoke_33 : decode cX8_writesJoke 33 = .ok (.iload_n 1, 1) := by decide +kernel
theorem dX8_writesJoke_34 : decode cX8_writesJoke 34 = .ok (.iconst 4, 1) := by decide +kernel
theorem dX8_writesJoke_35 : decode cX8_writesJoke 35 = .ok (.invokevirtual 73, 3) := by decide +kernel
theorem dX8_writesJoke_38 : decode cX8_writesJoke 38 = .ok (.iconst 1, 1) := by decide +kernel
theorem dX8_writesJoke_39 : decode cX8_writesJoke 39 = .ok (.if_icmp .ne 9, 3) := by decide +kernel
theorem dX8_writesJoke_42 : decode cX8_writesJoke 42 = .ok (.aload_n 0, 1) := by decide +kernel
theorem dX8_writesJoke_43 : decode cX8_writesJoke 43 = .ok (.bipush 33, 2) := by decide +kernel
theorem dX8_writesJoke_45 : decode cX8_writesJoke 45 = .ok (.invokevirtual 224, 3) := by decide +kernel
theorem dX8_writesJoke_48 : decode cX8_writesJoke 48 = .ok (.return_, 1) := by decide +kernel
theorem dX8_write_0 : decode cX8_write 0 = .ok (.iload_n 1, 1) := by decide +kernel
theorem dX8_write_1 : decode cX8_write 1 = .ok (.invokestatic 81, 3) := by decide +kernel
theorem dX8_write_4 : decode cX8_write 4 = .ok (.ifCond .ne 5, 3) := by decide +kernel
theorem dX8_write_7 : decode cX8_write 7 = .ok (.iconst (-1), 1) := by decide +kernel
theorem dX8_write_8 : decode cX8_write 8 = .ok (.ireturn, 1) := by decide +kernel
theorem dX8_write_9 : decode cX8_write 9 = .ok (.aload_n 0, 1) := by decide +kernel
theorem dX8_write_10 : decode cX8_write 10 = .ok (.iconst 0, 1) := by decide +kernel
theorem dX8_write_11 : decode cX8_write 11 = .ok (.putfield 221, 3) := by decide +kernel
theorem dX8_write_14 : decode cX8_write 14 = .ok (.aload_n 0, 1) := by decide +kernel
theorem dX8_write_15 : decode cX8_write 15 = .ok (.bipush 48, 2) := by decide +kernel
theorem dX8_write_17 : decode cX8_write 17 = .ok (.iload_n 1, 1) := by decide +kernel
theorem dX8_write_18 : decode cX8_write 18 = .ok (.iadd, 1) := by decide +kernel
theorem dX8_write_19 : decode cX8_write 19 = .ok (.invokevirtual 224, 3) := by decide +kernel
theorem dX8_write_22 : decode cX8_write 22 = .ok (.aload_n 0, 1) := by decide +kernel
theorem dX8_write_23 : decode cX8_write 23 = .ok (.bipush 117, 2) := by decide +kernel
theorem dX8_write_25 : decode cX8_write 25 = .ok (.invokevirtual 224, 3) := by decide +kernel
theorem dX8_write_28 : decode cX8_write 28 = .ok (.aload_n 0, 1) := by decide +kernel
theorem dX8_write_29 : decode cX8_write 29 = .ok (.bipush 48, 2) := by decide +kernel
theorem dX8_write_31 : decode cX8_write 31 = .ok (.aload_n 0, 1) := by decide +kernel
theorem dX8_write_32 : decode cX8_write 32 = .ok (.getfield 32, 3) := by decide +kernel
theorem dX8_write_35 : decode cX8_write 35 = .ok (.bipush 14, 2) := by decide +kernel
theorem dX8_write_37 : decode cX8_write 37 = .ok (.iload_n 1, 1) := by decide +kernel
theorem dX8_write_38 : decode cX8_write 38 = .ok (.iadd, 1) := by decide +kernel
theorem dX8_write_39 : decode cX8_write 39 = .ok (.iaload, 1) := by decide +kernel
theorem dX8_write_40 : decode cX8_write 40 = .ok (.iadd, 1) := by decide +kernel
theorem dX8_write_41 : decode cX8_write 41 = .ok (.invokevirtual 224, 3) := by decide +kernel
theorem dX8_write_44 : decode cX8_write 44 = .ok (.iconst 0, 1) := by decide +kernel
theorem dX8_write_45 : decode cX8_write 45 = .ok (.istore_n 2, 1) := by decide +kernel
theorem dX8_write_46 : decode cX8_write 46 = .ok (.iload_n 2, 1) := by decide +kernel
theorem dX8_write_47 : decode cX8_write 47 = .ok (.aload_n 0, 1) := by decide +kernel
theorem dX8_write_48 : decode cX8_write 48 = .ok (.iload_n 1, 1) := by decide +kernel
theorem dX8_write_49 : decode cX8_write 49 = .ok (.invokevirtual 97, 3) := by decide +kernel
theorem dX8_write_52 : decode cX8_write 52 = .ok (.if_icmp .ge 19, 3) := by decide +kernel
theorem dX8_write_55 : decode cX8_write 55 = .ok (.aload_n 0, 1) := by decide +kernel
theorem dX8_write_56 : decode cX8_write 56 = .ok (.aload_n 0, 1) := by decide +kernel
theorem dX8_write_57 : decode cX8_write 57 = .ok (.iload_n 1, 1) := by decide +kernel
theorem dX8_write_58 : decode cX8_write 58 = .ok (.iload_n 2, 1) := by decide +kernel
theorem dX8_write_59 : decode cX8_write 59 = .ok (.invokevirtual 172, 3) := by decide +kernel
theorem dX8_write_62 : decode cX8_write 62 = .ok (.invokevirtual 230, 3) := by decide +kernel
theorem dX8_write_65 : decode cX8_write 65 = .ok (.iinc 2 1, 3) := by decide +kernel
theorem dX8_write_68 : decode cX8_write 68 = .ok (.goto (-22), 3) := by decide +kernel
theorem dX8_write_71 : decode cX8_write 71 = .ok (.aload_n 0, 1) := by decide +kernel
theorem dX8_write_72 : decode cX8_write 72 = .ok (.getfield 221, 3) := by decide +kernel
theorem dX8_write_75 : decode cX8_write 75 = .ok (.ireturn, 1) := by decide +kernel
theorem dX8_writePump_0 : decode cX8_writePump 0 = .ok (.aload_n 0, 1) := by decide +kernel
theorem dX8_writePump_1 : decode cX8_writePump 1 = .ok (.iconst 0, 1) := by decide +kernel
theorem dX8_writePump_2 : decode cX8_writePump 2 = .ok (.putfield 221, 3) := by decide +kernel
theorem dX8_writePump_5 : decode cX8_writePump 5 = .ok (.aload_n 0, 1) := by decide +kernel
theorem dX8_writePump_6 : decode cX8_writePump 6 = .ok (.bipush 64, 2) := by decide +kernel
theorem dX8_writePump_8 : decode cX8_writePump 8 = .ok (.invokevirtual 224, 3) := by decide +kernel
theorem dX8_writePump_11 : decode cX8_writePump 11 = .ok (.aload_n 0, 1) := by decide +kernel
theorem dX8_writePump_12 : decode cX8_writePump 12 = .ok (.bipush 48, 2) := by decide +kernel
theorem dX8_writePump_14 : decode cX8_writePump 14 = .ok (.aload_n 0, 1) := by decide +kernel
theorem dX8_writePump_15 : decode cX8_writePump 15 = .ok (.getfield 32, 3) := by decide +kernel
theorem dX8_writePump_18 : decode cX8_writePump 18 = .ok (.iconst 1, 1) := by decide +kernel
theorem dX8_writePump_19 : decode cX8_writePump 19 = .ok (.iaload, 1) := by decide +kernel
theorem dX8_writePump_20 : decode cX8_writePump 20 = .ok (.iadd, 1) := by decide +kernel
theorem dX8_writePump_21 : decode cX8_writePump 21 = .ok (.invokevirtual 224, 3) := by decide +kernel
theorem dX8_writePump_24 : decode cX8_writePump 24 = .ok (.aload_n 0, 1) := by decide +kernel
theorem dX8_writePump_25 : decode cX8_writePump 25 = .ok (.bipush 94, 2) := by decide +kernel
theorem dX8_writePump_27 : decode cX8_writePump 27 = .ok (.invokevirtual 224, 3) := by decide +kernel
theorem dX8_writePump_30 : decode cX8_writePump 30 = .ok (.aload_n 0, 1) := by decide +kernel
theorem dX8_writePump_31 : decode cX8_writePump 31 = .ok (.aload_n 0, 1) := by decide +kernel
theorem dX8_writePump_32 : decode cX8_writePump 32 = .ok (.getfield 32, 3) := by decide +kernel
theorem dX8_writePump_35 : decode cX8_writePump 35 = .ok (.iconst 2, 1) := by decide +kernel
theorem dX8_writePump_36 : decode cX8_writePump 36 = .ok (.iaload, 1) := by decide +kernel
theorem dX8_writePump_37 : decode cX8_writePump 37 = .ok (.invokevirtual 227, 3) := by decide +kernel
theorem dX8_writePump_40 : decode cX8_writePump 40 = .ok (.aload_n 0, 1) := by decide +kernel
theorem dX8_writePump_41 : decode cX8_writePump 41 = .ok (.bipush 126, 2) := by decide +kernel
theorem dX8_writePump_43 : decode cX8_writePump 43 = .ok (.invokevirtual 224, 3) := by decide +kernel
theorem dX8_writePump_46 : decode cX8_writePump 46 = .ok (.aload_n 0, 1) := by decide +kernel
theorem dX8_writePump_47 : decode cX8_writePump 47 = .ok (.aload_n 0, 1) := by decide +kernel
theorem dX8_writePump_48 : decode cX8_writePump 48 = .ok (.getfield 32, 3) := by decide +kernel
theorem dX8_writePump_51 : decode cX8_writePump 51 = .ok (.iconst 3, 1) := by decide +kernel
theorem dX8_writePump_52 : decode cX8_writePump 52 = .ok (.iaload, 1) := by decide +kernel
theorem dX8_writePump_53 : decode cX8_writePump 53 = .ok (.invokevirtual 227, 3) := by decide +kernel
theorem dX8_writePump_56 : decode cX8_writePump 56 = .ok (.aload_n 0, 1) := by decide +kernel
theorem dX8_writePump_57 : decode cX8_writePump 57 = .ok (.bipush 111, 2) := by decide +kernel
theorem dX8_writePump_59 : decode cX8_writePump 59 = .ok (.invokevirtual 224, 3) := by decide +kernel
theorem dX8_writePump_62 : decode cX8_writePump 62 = .ok (.aload_n 0, 1) := by decide +kernel
theorem dX8_writePump_63 : decode cX8_writePump 63 = .ok (.aload_n 0, 1) := by decide +kernel
theorem dX8_writePump_64 : decode cX8_writePump 64 = .ok (.getfield 32, 3) := by decide +kernel
theorem dX8_writePump_67 : decode cX8_writePump 67 = .ok (.iconst 4, 1) := by decide +kernel
theorem dX8_writePump_68 : decode cX8_writePump 68 = .ok (.iaload, 1) := by decide +kernel
theorem dX8_writePump_69 : decode cX8_writePump 69 = .ok (.invokevirtual 227, 3) := by decide +kernel
theorem dX8_writePump_72 : decode cX8_writePump 72 = .ok (.aload_n 0, 1) := by decide +kernel
theorem dX8_writePump_73 : decode cX8_writePump 73 = .ok (.bipush 42, 2) := by decide +kernel
theorem dX8_writePump_75 : decode cX8_writePump 75 = .ok (.invokevirtual 224, 3) := by decide +kernel
theorem dX8_writePump_78 : decode cX8_writePump 78 = .ok (.aload_n 0, 1) := by decide +kernel
theorem dX8_writePump_79 : decode cX8_writePump 79 = .ok (.bipush 48, 2) := by decide +kernel
theorem dX8_writePump_81 : decode cX8_writePump 81 = .ok (.aload_n 0, 1) := by decide +kernel
theorem dX8_writePump_82 : decode cX8_writePump 82 = .ok (.getfield 32, 3) := by decide +kernel
theorem dX8_writePump_85 : decode cX8_writePump 85 = .ok (.iconst 5, 1) := by decide +kernel
theorem dX8_writePump_86 : decode cX8_writePump 86 = .ok (.iaload, 1) := by decide +kernel
theorem dX8_writePump_87 : decode cX8_writePump 87 = .ok (.iadd, 1) := by decide +kernel
theorem dX8_writePump_88 : decode cX8_writePump 88 = .ok (.invokevirtual 224, 3) := by decide +kernel
theorem dX8_writePump_91 : decode cX8_writePump 91 = .ok (.aload_n 0, 1) := by decide +kernel
theorem dX8_writePump_92 : decode cX8_writePump 92 = .ok (.getfield 221, 3) := by decide +kernel
theorem dX8_writePump_95 : decode cX8_writePump 95 = .ok (.ireturn, 1) := by decide +kernel
theorem dX8_written_0 : decode cX8_written 0 = .ok (.iload_n 1, 1) := by decide +kernel
theorem dX8_written_1 : decode cX8_written 1 = .ok (.iconst 0, 1) := by decide +kernel
theorem dX8_written_2 : decode cX8_written 2 = .ok (.aload_n 0, 1) := by decide +kernel
theorem dX8_written_3 : decode cX8_written 3 = .ok (.getfield 221, 3) := by decide +kernel
theorem dX8_written_6 : decode cX8_written 6 = .ok (.iconst 1, 1) := by decide +kernel
theorem dX8_written_7 : decode cX8_written 7 = .ok (.isub, 1) := by decide +kernel
theorem dX8_written_8 : decode cX8_written 8 = .ok (.invokestatic 19, 3) := by decide +kernel
theorem dX8_written_11 : decode cX8_written 11 = .ok (.ifCond .eq 12, 3) := by decide +kernel
theorem dX8_written_14 : decode cX8_written 14 = .ok (.aload_n 0, 1) := by decide +kernel
theorem dX8_written_15 : decode cX8_written 15 = .ok (.getfield 48, 3) := by decide +kernel
theorem dX8_written_18 : decode cX8_written 18 = .ok (.iload_n 1, 1) := by decide +kernel
theorem dX8_written_19 : decode cX8_written 19 = .ok (.caload, 1) := by decide +kernel
theorem dX8_written_20 : decode cX8_written 20 = .ok (.goto 4, 3) := by decide +kernel
theorem dX8_written_23 : decode cX8_written 23 = .ok (.iconst (-1), 1) := by decide +kernel
theorem dX8_written_24 : decode cX8_written 24 = .ok (.ireturn, 1) := by decide +kernel
theorem dX8_append_0 : decode cX8_append 0 = .ok (.iload_n 1, 1) := by decide +kernel
theorem dX8_append_1 : decode cX8_append 1 = .ok (.bipush 32, 2) := by decide +kernel
theorem dX8_append_3 : decode cX8_append 3 = .ok (.bipush 126, 2) := by decide +kernel
theorem dX8_append_5 : decode cX8_append 5 = .ok (.invokestatic 19, 3) := by decide +kernel
theorem dX8_append_8 : decode cX8_append 8 = .ok (.ifCond .ne 6, 3) := by decide +kernel
theorem dX8_append_11 : decode cX8_append 11 = .ok (.bipush (-2), 2) := by decide +kernel
theorem dX8_append_13 : decode cX8_append 13 = .ok (.ireturn, 1) := by decide +kernel
theorem dX8_append_14 : decode cX8_append 14 = .ok (.aload_n 0, 1) := by decide +kernel
theorem dX8_append_15 : decode cX8_append 15 = .ok (.getfield 218, 3) := by decide +kernel
theorem dX8_append_18 : decode cX8_append 18 = .ok (.bipush 60, 2) := by decide +kernel
theorem dX8_append_20 : decode cX8_append 20 = .ok (.if_icmp .ne 6, 3) := by decide +kernel
theorem dX8_append_23 : decode cX8_append 23 = .ok (.bipush (-4), 2) := by decide +kernel
theorem dX8_append_25 : decode cX8_append 25 = .ok (.ireturn, 1) := by decide +kernel
theorem dX8_append_26 : decode cX8_append 26 = .ok (.aload_n 0, 1) := by decide +kernel
theorem dX8_append_27 : decode cX8_append 27 = .ok (.getfield 52, 3) := by decide +kernel
theorem dX8_append_30 : decode cX8_append 30 = .ok (.aload_n 0, 1) := by decide +kernel
theorem dX8_append_31 : decode cX8_append 31 = .ok (.getfield 218, 3) := by decide +kernel
theorem dX8_append_34 : decode cX8_append 34 = .ok (.iload_n 1, 1) := by decide +kernel
theorem dX8_append_35 : decode cX8_append 35 = .ok (.castore, 1) := by decide +kernel
theorem dX8_append_36 : decode cX8_append 36 = .ok (.aload_n 0, 1) := by decide +kernel
theorem dX8_append_37 : decode cX8_append 37 = .ok (.dup, 1) := by decide +kernel
theorem dX8_append_38 : decode cX8_append 38 = .ok (.getfield 218, 3) := by decide +kernel
theorem dX8_append_41 : decode cX8_append 41 = .ok (.iconst 1, 1) := by decide +kernel
theorem dX8_append_42 : decode cX8_append 42 = .ok (.iadd, 1) := by decide +kernel
theorem dX8_append_43 : decode cX8_append 43 = .ok (.putfield 218, 3) := by decide +kernel
theorem dX8_append_46 : decode cX8_append 46 = .ok (.aload_n 0, 1) := by decide +kernel
theorem dX8_append_47 : decode cX8_append 47 = .ok (.getfield 218, 3) := by decide +kernel
theorem dX8_append_50 : decode cX8_append 50 = .ok (.ireturn, 1) := by decide +kernel
theorem dX8_fault_0 : decode cX8_fault 0 = .ok (.aload_n 0, 1) := by decide +kernel
theorem dX8_fault_1 : decode cX8_fault 1 = .ok (.getfield 55, 3) := by decide +kernel
theorem dX8_fault_4 : decode cX8_fault 4 = .ok (.ifCond .ge 8, 3) := by decide +kernel
theorem dX8_fault_7 : decode cX8_fault 7 = .ok (.bipush (-3), 2) := by decide +kernel
theorem dX8_fault_9 : decode cX8_fault 9 = .ok (.goto 7, 3) := by decide +kernel
theorem dX8_fault_12 : decode cX8_fault 12 = .ok (.aload_n 0, 1) := by decide +kernel
theorem dX8_fault_13 : decode cX8_fault 13 = .ok (.getfield 55, 3) := by decide +kernel
theorem dX8_fault_16 : decode cX8_fault 16 = .ok (.ireturn, 1) := by decide +kernel
theorem dX8_nextSign_0 : decode cX8_nextSign 0 = .ok (.aload_n 0, 1) := by decide +kernel
theorem dX8_nextSign_1 : decode cX8_nextSign 1 = .ok (.getfield 233, 3) := by decide +kernel
theorem dX8_nextSign_4 : decode cX8_nextSign 4 = .ok (.aload_n 0, 1) := by decide +kernel
theorem dX8_nextSign_5 : decode cX8_nextSign 5 = .ok (.getfield 218, 3) := by decide +kernel
theorem dX8_nextSign_8 : decode cX8_nextSign 8 = .ok (.if_icmp .ge 15, 3) := by decide +kernel
theorem dX8_nextSign_11 : decode cX8_nextSign 11 = .ok (.aload_n 0, 1) := by decide +kernel
theorem dX8_nextSign_12 : decode cX8_nextSign 12 = .ok (.getfield 52, 3) := by decide +kernel
theorem dX8_nextSign_15 : decode cX8_nextSign 15 = .ok (.aload_n 0, 1) := by decide +kernel
theorem dX8_nextSign_16 : decode cX8_nextSign 16 = .ok (.getfield 233, 3) := by decide +kernel
theorem dX8_nextSign_19 : decode cX8_nextSign 19 = .ok (.caload, 1) := by decide +kernel
theorem dX8_nextSign_20 : decode cX8_nextSign 20 = .ok (.goto 4, 3) := by decide +kernel
theorem dX8_nextSign_23 : decode cX8_nextSign 23 = .ok (.iconst (-1), 1) := by decide +kernel
theorem dX8_nextSign_24 : decode cX8_nextSign 24 = .ok (.ireturn, 1) := by decide +kernel
theorem dX8_reads_0 : decode cX8_reads 0 = .ok (.aload_n 0, 1) := by decide +kernel
theorem dX8_reads_1 : decode cX8_reads 1 = .ok (.invokevirtual 236, 3) := by decide +kernel
theorem dX8_reads_4 : decode cX8_reads 4 = .ok (.iload_n 1, 1) := by decide +kernel
theorem dX8_reads_5 : decode cX8_reads 5 = .ok (.if_icmp .eq 5, 3) := by decide +kernel
theorem dX8_reads_8 : decode cX8_reads 8 = .ok (.iconst 0, 1) := by decide +kernel
theorem dX8_reads_9 : decode cX8_reads 9 = .ok (.ireturn, 1) := by decide +kernel
theorem dX8_reads_10 : decode cX8_reads 10 = .ok (.aload_n 0, 1) := by decide +kernel
theorem dX8_reads_11 : decode cX8_reads 11 = .ok (.dup, 1) := by decide +kernel
theorem dX8_reads_12 : decode cX8_reads 12 = .ok (.getfield 233, 3) := by decide +kernel
theorem dX8_reads_15 : decode cX8_reads 15 = .ok (.iconst 1, 1) := by decide +kernel
theorem dX8_reads_16 : decode cX8_reads 16 = .ok (.iadd, 1) := by decide +kernel
theorem dX8_reads_17 : decode cX8_reads 17 = .ok (.putfield 233, 3) := by decide +kernel
theorem dX8_reads_20 : decode cX8_reads 20 = .ok (.iconst 1, 1) := by decide +kernel
theorem dX8_reads_21 : decode cX8_reads 21 = .ok (.ireturn, 1) := by decide +kernel
theorem dX8_readsDigit_0 : decode cX8_readsDigit 0 = .ok (.aload_n 0, 1) := by decide +kernel
theorem dX8_readsDigit_1 : decode cX8_readsDigit 1 = .ok (.invokevirtual 236, 3) := by decide +kernel
theorem dX8_readsDigit_4 : decode cX8_readsDigit 4 = .ok (.bipush 48, 2) := by decide +kernel
theorem dX8_readsDigit_6 : decode cX8_readsDigit 6 = .ok (.bipush 57, 2) := by decide +kernel
theorem dX8_readsDigit_8 : decode cX8_readsDigit 8 = .ok (.invokestatic 19, 3) := by decide +kernel
theorem dX8_readsDigit_11 : decode cX8_readsDigit 11 = .ok (.ifCond .ne 5, 3) := by decide +kernel
theorem dX8_readsDigit_14 : decode cX8_readsDigit 14 = .ok (.iconst 0, 1) := by decide +kernel
theorem dX8_readsDigit_15 : decode cX8_readsDigit 15 = .ok (.ireturn, 1) := by decide +kernel
theorem dX8_readsDigit_16 : decode cX8_readsDigit 16 = .ok (.aload_n 0, 1) := by decide +kernel
theorem dX8_readsDigit_17 : decode cX8_readsDigit 17 = .ok (.getfield 58, 3) := by decide +kernel
theorem dX8_readsDigit_20 : decode cX8_readsDigit 20 = .ok (.iload_n 1, 1) := by decide +kernel
theorem dX8_readsDigit_21 : decode cX8_readsDigit 21 = .ok (.aload_n 0, 1) := by decide +kernel
theorem dX8_readsDigit_22 : decode cX8_readsDigit 22 = .ok (.invokevirtual 236, 3) := by decide +kernel
theorem dX8_readsDigit_25 : decode cX8_readsDigit 25 = .ok (.bipush 48, 2) := by decide +kernel
theorem dX8_readsDigit_27 : decode cX8_readsDigit 27 = .ok (.isub, 1) := by decide +kernel
theorem dX8_readsDigit_28 : decode cX8_readsDigit 28 = .ok (.iastore, 1) := by decide +kernel
theorem dX8_readsDigit_29 : decode cX8_readsDigit 29 = .ok (.aload_n 0, 1) := by decide +kernel
theorem dX8_readsDigit_30 : decode cX8_readsDigit 30 = .ok (.dup, 1) := by decide +kernel
theorem dX8_readsDigit_31 : decode cX8_readsDigit 31 = .ok (.getfield 233, 3) := by decide +kernel
theorem dX8_readsDigit_34 : decode cX8_readsDigit 34 = .ok (.iconst 1, 1) := by decide +kernel
theorem dX8_readsDigit_35 : decode cX8_readsDigit 35 = .ok (.iadd, 1) := by decide +kernel
theorem dX8_readsDigit_36 : decode cX8_readsDigit 36 = .ok (.putfield 233, 3) := by decide +kernel
theorem dX8_readsDigit_39 : decode cX8_readsDigit 39 = .ok (.iconst 1, 1) := by decide +kernel
theorem dX8_readsDigit_40 : decode cX8_readsDigit 40 = .ok (.ireturn, 1) := by decide +kernel
theorem dX8_readsNumber_0 : decode cX8_readsNumber 0 = .ok (.aload_n 0, 1) := by decide +kernel
theorem dX8_readsNumber_1 : decode cX8_readsNumber 1 = .ok (.iload_n 1, 1) := by decide +kernel
theorem dX8_readsNumber_2 : decode cX8_readsNumber 2 = .ok (.invokevirtual 239, 3) := by decide +kernel
theorem dX8_readsNumber_5 : decode cX8_readsNumber 5 = .ok (.ifCond .ne 5, 3) := by decide +kernel
theorem dX8_readsNumber_8 : decode cX8_readsNumber 8 = .ok (.iconst 0, 1) := by decide +kernel
theorem dX8_readsNumber_9 : decode cX8_readsNumber 9 = .ok (.ireturn, 1) := by decide +kernel
theorem dX8_readsNumber_10 : decode cX8_readsNumber 10 = .ok (.aload_n 0, 1) := by decide +kernel
theorem dX8_readsNumber_11 : decode cX8_readsNumber 11 = .ok (.invokevirtual 236, 3) := by decide +kernel
theorem dX8_readsNumber_14 : decode cX8_readsNumber 14 = .ok (.bipush 48, 2) := by decide +kernel
theorem dX8_readsNumber_16 : decode cX8_readsNumber 16 = .ok (.bipush 57, 2) := by decide +kernel
theorem dX8_readsNumber_18 : decode cX8_readsNumber 18 = .ok (.invokestatic 19, 3) := by decide +kernel
theorem dX8_readsNumber_21 : decode cX8_readsNumber 21 = .ok (.ifCond .ne 5, 3) := by decide +kernel
theorem dX8_readsNumber_24 : decode cX8_readsNumber 24 = .ok (.iconst 1, 1) := by decide +kernel
theorem dX8_readsNumber_25 : decode cX8_readsNumber 25 = .ok (.ireturn, 1) := by decide +kernel
theorem dX8_readsNumber_26 : decode cX8_readsNumber 26 = .ok (.aload_n 0, 1) := by decide +kernel
theorem dX8_readsNumber_27 : decode cX8_readsNumber 27 = .ok (.getfield 58, 3) := by decide +kernel
theorem dX8_readsNumber_30 : decode cX8_readsNumber 30 = .ok (.iload_n 1, 1) := by decide +kernel
theorem dX8_readsNumber_31 : decode cX8_readsNumber 31 = .ok (.bipush 10, 2) := by decide +kernel
theorem dX8_readsNumber_33 : decode cX8_readsNumber 33 = .ok (.aload_n 0, 1) := by decide +kernel
theorem dX8_readsNumber_34 : decode cX8_readsNumber 34 = .ok (.getfield 58, 3) := by decide +kernel
theorem dX8_readsNumber_37 : decode cX8_readsNumber 37 = .ok (.iload_n 1, 1) := by decide +kernel
theorem dX8_readsNumber_38 : decode cX8_readsNumber 38 = .ok (.iaload, 1) := by decide +kernel
theorem dX8_readsNumber_39 : decode cX8_readsNumber 39 = .ok (.imul, 1) := by decide +kernel
theorem dX8_readsNumber_40 : decode cX8_readsNumber 40 = .ok (.aload_n 0, 1) := by decide +kernel
theorem dX8_readsNumber_41 : decode cX8_readsNumber 41 = .ok (.invokevirtual 236, 3) := by decide +kernel
theorem dX8_readsNumber_44 : decode cX8_readsNumber 44 = .ok (.iadd, 1) := by decide +kernel
theorem dX8_readsNumber_45 : decode cX8_readsNumber 45 = .ok (.bipush 48, 2) := by decide +kernel
theorem dX8_readsNumber_47 : decode cX8_readsNumber 47 = .ok (.isub, 1) := by decide +kernel
theorem dX8_readsNumber_48 : decode cX8_readsNumber 48 = .ok (.iastore, 1) := by decide +kernel
theorem dX8_readsNumber_49 : decode cX8_readsNumber 49 = .ok (.aload_n 0, 1) := by decide +kernel
theorem dX8_readsNumber_50 : decode cX8_readsNumber 50 = .ok (.dup, 1) := by decide +kernel
theorem dX8_readsNumber_51 : decode cX8_readsNumber 51 = .ok (.getfield 233, 3) := by decide +kernel
theorem dX8_readsNumber_54 : decode cX8_readsNumber 54 = .ok (.iconst 1, 1) := by decide +kernel
theorem dX8_readsNumber_55 : decode cX8_readsNumber 55 = .ok (.iadd, 1) := by decide +kernel
theorem dX8_readsNumber_56 : decode cX8_readsNumber 56 = .ok (.putfield 233, 3) := by decide +kernel
theorem dX8_readsNumber_59 : decode cX8_readsNumber 59 = .ok (.iconst 1, 1) := by decide +kernel
theorem dX8_readsNumber_60 : decode cX8_readsNumber 60 = .ok (.ireturn, 1) := by decide +kernel
theorem dX8_readsJoke_0 : decode cX8_readsJoke 0 = .ok (.aload_n 0, 1) := by decide +kernel
theorem dX8_readsJoke_1 : decode cX8_readsJoke 1 = .ok (.bipush 111, 2) := by decide +kernel
theorem dX8_readsJoke_3 : decode cX8_readsJoke 3 = .ok (.invokevirtual 242, 3) := by decide +kernel
theorem dX8_readsJoke_6 : decode cX8_readsJoke 6 = .ok (.ifCond .eq 47, 3) := by decide +kernel
theorem dX8_readsJoke_9 : decode cX8_readsJoke 9 = .ok (.aload_n 0, 1) := by decide +kernel
theorem dX8_readsJoke_10 : decode cX8_readsJoke 10 = .ok (.bipush 107, 2) := by decide +kernel
theorem dX8_readsJoke_12 : decode cX8_readsJoke 12 = .ok (.invokevirtual 242, 3) := by decide +kernel
theorem dX8_readsJoke_15 : decode cX8_readsJoke 15 = .ok (.ifCond .eq 38, 3) := by decide +kernel
theorem dX8_readsJoke_18 : decode cX8_readsJoke 18 = .ok (.aload_n 0, 1) := by decide +kernel
theorem dX8_readsJoke_19 : decode cX8_readsJoke 19 = .ok (.bipush 101, 2) := by decide +kernel
theorem dX8_readsJoke_21 : decode cX8_readsJoke 21 = .ok (.invokevirtual 242, 3) := by decide +kernel
theorem dX8_readsJoke_24 : decode cX8_readsJoke 24 = .ok (.ifCond .eq 29, 3) := by decide +kernel
theorem dX8_readsJoke_27 : decode cX8_readsJoke 27 = .ok (.aload_n 0, 1) := by decide +kernel
theorem dX8_readsJoke_28 : decode cX8_readsJoke 28 = .ok (.bipush 32, 2) := by decide +kernel
theorem dX8_readsJoke_30 : decode cX8_readsJoke 30 = .ok (.invokevirtual 242, 3) := by decide +kernel
theorem dX8_readsJoke_33 : decode cX8_readsJoke 33 = .ok (.ifCond .eq 20, 3) := by decide +kernel
theorem dX8_readsJoke_36 : decode cX8_readsJoke 36 = .ok (.aload_n 0, 1) := by decide +kernel
theorem dX8_readsJoke_37 : decode cX8_readsJoke 37 = .ok (.iconst 0, 1) := by decide +kernel
theorem dX8_readsJoke_38 : decode cX8_readsJoke 38 = .ok (.invokevirtual 239, 3) := by decide +kernel
theorem dX8_readsJoke_41 : decode cX8_readsJoke 41 = .ok (.ifCond .eq 12, 3) := by decide +kernel
theorem dX8_readsJoke_44 : decode cX8_readsJoke 44 = .ok (.aload_n 0, 1) := by decide +kernel
theorem dX8_readsJoke_45 : decode cX8_readsJoke 45 = .ok (.bipush 32, 2) := by decide +kernel
theorem dX8_readsJoke_47 : decode cX8_readsJoke 47 = .ok (.invokevirtual 242, 3) := by decide +kernel
theorem dX8_readsJoke_50 : decode cX8_readsJoke 50 = .ok (.ifCond .ne 5, 3) := by decide +kernel
theorem dX8_readsJoke_53 : decode cX8_readsJoke 53 = .ok (.iconst 0, 1) := by decide +kernel
theorem dX8_readsJoke_54 : decode cX8_readsJoke 54 = .ok (.ireturn, 1) := by decide +kernel
theorem dX8_readsJoke_55 : decode cX8_readsJoke 55 = .ok (.aload_n 0, 1) := by decide +kernel
theorem dX8_readsJoke_56 : decode cX8_readsJoke 56 = .ok (.iconst 1, 1) := by decide +kernel
theorem dX8_readsJoke_57 : decode cX8_readsJoke 57 = .ok (.invokevirtual 245, 3) := by decide +kernel
theorem dX8_readsJoke_60 : decode cX8_readsJoke 60 = .ok (.ifCond .eq 41, 3) := by decide +kernel
theorem dX8_readsJoke_63 : decode cX8_readsJoke 63 = .ok (.aload_n 0, 1) := by decide +kernel
theorem dX8_readsJoke_64 : decode cX8_readsJoke 64 = .ok (.bipush 32, 2) := by decide +kernel
theorem dX8_readsJoke_66 : decode cX8_readsJoke 66 = .ok (.invokevirtual 242, 3) := by decide +kernel
theorem dX8_readsJoke_69 : decode cX8_readsJoke 69 = .ok (.ifCond .eq 32, 3) := by decide +kernel
theorem dX8_readsJoke_72 : decode cX8_readsJoke 72 = .ok (.aload_n 0, 1) := by decide +kernel
theorem dX8_readsJoke_73 : decode cX8_readsJoke 73 = .ok (.iconst 2, 1) := by decide +kernel
theorem dX8_readsJoke_74 : decode cX8_readsJoke 74 = .ok (.invokevirtual 245, 3) := by decide +kernel
theorem dX8_readsJoke_77 : decode cX8_readsJoke 77 = .ok (.ifCond .eq 24, 3) := by decide +kernel
theorem dX8_readsJoke_80 : decode cX8_readsJoke 80 = .ok (.aload_n 0, 1) := by decide +kernel
theorem dX8_readsJoke_81 : decode cX8_readsJoke 81 = .ok (.bipush 32, 2) := by decide +kernel
theorem dX8_readsJoke_83 : decode cX8_readsJoke 83 = .ok (.invokevirtual 242, 3) := by decide +kernel
theorem dX8_readsJoke_86 : decode cX8_readsJoke 86 = .ok (.ifCond .eq 15, 3) := by decide +kernel
theorem dX8_readsJoke_89 : decode cX8_readsJoke 89 = .ok (.aload_n 0, 1) := by decide +kernel
theorem dX8_readsJoke_90 : decode cX8_readsJoke 90 = .ok (.iconst 3, 1) := by decide +kernel
theorem dX8_readsJoke_91 : decode cX8_readsJoke 91 = .ok (.invokevirtual 239, 3) := by decide +kernel
theorem dX8_readsJoke_94 : decode cX8_readsJoke 94 = .ok (.ifCond .eq 7, 3) := by decide +kernel
theorem dX8_readsJoke_97 : decode cX8_readsJoke 97 = .ok (.iconst 1, 1) := by decide +kernel
theorem dX8_readsJoke_98 : decode cX8_readsJoke 98 = .ok (.goto 4, 3) := by decide +kernel
theorem dX8_readsJoke_101 : decode cX8_readsJoke 101 = .ok (.iconst 0, 1) := by decide +kernel
theorem dX8_readsJoke_102 : decode cX8_readsJoke 102 = .ok (.ireturn, 1) := by decide +kernel
theorem dX8_readsP_0 : decode cX8_readsP 0 = .ok (.aload_n 0, 1) := by decide +kernel
theorem dX8_readsP_1 : decode cX8_readsP 1 = .ok (.bipush 117, 2) := by decide +kernel
theorem dX8_readsP_3 : decode cX8_readsP 3 = .ok (.invokevirtual 242, 3) := by decide +kernel
theorem dX8_readsP_6 : decode cX8_readsP 6 = .ok (.ifCond .eq 44, 3) := by decide +kernel
theorem dX8_readsP_9 : decode cX8_readsP 9 = .ok (.aload_n 0, 1) := by decide +kernel
theorem dX8_readsP_10 : decode cX8_readsP 10 = .ok (.bipush 109, 2) := by decide +kernel
theorem dX8_readsP_12 : decode cX8_readsP 12 = .ok (.invokevirtual 242, 3) := by decide +kernel
theorem dX8_readsP_15 : decode cX8_readsP 15 = .ok (.ifCond .eq 33, 3) := by decide +kernel
theorem dX8_readsP_18 : decode cX8_readsP 18 = .ok (.aload_n 0, 1) := by decide +kernel
theorem dX8_readsP_19 : decode cX8_readsP 19 = .ok (.bipush 112, 2) := by decide +kernel
theorem dX8_readsP_21 : decode cX8_readsP 21 = .ok (.invokevirtual 242, 3) := by decide +kernel
theorem dX8_readsP_24 : decode cX8_readsP 24 = .ok (.ifCond .eq 24, 3) := by decide +kernel
theorem dX8_readsP_27 : decode cX8_readsP 27 = .ok (.aload_n 0, 1) := by decide +kernel
theorem dX8_readsP_28 : decode cX8_readsP 28 = .ok (.bipush 32, 2) := by decide +kernel
theorem dX8_readsP_30 : decode cX8_readsP 30 = .ok (.invokevirtual 242, 3) := by decide +kernel
theorem dX8_readsP_33 : decode cX8_readsP 33 = .ok (.ifCond .eq 15, 3) := by decide +kernel
theorem dX8_readsP_36 : decode cX8_readsP 36 = .ok (.aload_n 0, 1) := by decide +kernel
theorem dX8_readsP_37 : decode cX8_readsP 37 = .ok (.iconst 0, 1) := by decide +kernel
theorem dX8_readsP_38 : decode cX8_readsP 38 = .ok (.invokevirtual 239, 3) := by decide +kernel
theorem dX8_readsP_41 : decode cX8_readsP 41 = .ok (.ifCond .eq 7, 3) := by decide +kernel
theorem dX8_readsP_44 : decode cX8_readsP 44 = .ok (.iconst 1, 1) := by decide +kernel
theorem dX8_readsP_45 : decode cX8_readsP 45 = .ok (.goto 4, 3) := by decide +kernel
theorem dX8_readsP_48 : decode cX8_readsP 48 = .ok (.iconst 0, 1) := by decide +kernel
theorem dX8_readsP_49 : decode cX8_readsP 49 = .ok (.ireturn, 1) := by decide +kernel
theorem dX8_readsP_50 : decode cX8_readsP 50 = .ok (.aload_n 0, 1) := by decide +kernel
theorem dX8_readsP_51 : decode cX8_readsP 51 = .ok (.bipush 114, 2) := by decide +kernel
theorem dX8_readsP_53 : decode cX8_readsP 53 = .ok (.putfield 248, 3) := by decide +kernel
theorem dX8_readsP_56 : decode cX8_readsP 56 = .ok (.aload_n 0, 1) := by decide +kernel
theorem dX8_readsP_57 : decode cX8_readsP 57 = .ok (.bipush 114, 2) := by decide +kernel
theorem dX8_readsP_59 : decode cX8_readsP 59 = .ok (.invokevirtual 242, 3) := by decide +kernel
theorem dX8_readsP_62 : decode cX8_readsP 62 = .ok (.ifCond .eq 51, 3) := by decide +kernel
theorem dX8_readsP_65 : decode cX8_readsP 65 = .ok (.aload_n 0, 1) := by decide +kernel
theorem dX8_readsP_66 : decode cX8_readsP 66 = .ok (.bipush 105, 2) := by decide +kernel
theorem dX8_readsP_68 : decode cX8_readsP 68 = .ok (.invokevirtual 242, 3) := by decide +kernel
theorem dX8_readsP_71 : decode cX8_readsP 71 = .ok (.ifCond .eq 42, 3) := by decide +kernel
theorem dX8_readsP_74 : decode cX8_readsP 74 = .ok (.aload_n 0, 1) := by decide +kernel
theorem dX8_readsP_75 : decode cX8_readsP 75 = .ok (.bipush 109, 2) := by decide +kernel
theorem dX8_readsP_77 : decode cX8_readsP 77 = .ok (.invokevirtual 242, 3) := by decide +kernel
theorem dX8_readsP_80 : decode cX8_readsP 80 = .ok (.ifCond .eq 33, 3) := by decide +kernel
theorem dX8_readsP_83 : decode cX8_readsP 83 = .ok (.aload_n 0, 1) := by decide +kernel
theorem dX8_readsP_84 : decode cX8_readsP 84 = .ok (.bipush 101, 2) := by decide +kernel
theorem dX8_readsP_86 : decode cX8_readsP 86 = .ok (.invokevirtual 242, 3) := by decide +kernel
theorem dX8_readsP_89 : decode cX8_readsP 89 = .ok (.ifCond .eq 24, 3) := by decide +kernel
theorem dX8_readsP_92 : decode cX8_readsP 92 = .ok (.aload_n 0, 1) := by decide +kernel
theorem dX8_readsP_93 : decode cX8_readsP 93 = .ok (.bipush 32, 2) := by decide +kernel
theorem dX8_readsP_95 : decode cX8_readsP 95 = .ok (.invokevirtual 242, 3) := by decide +kernel
theorem dX8_readsP_98 : decode cX8_readsP 98 = .ok (.ifCond .eq 15, 3) := by decide +kernel
theorem dX8_readsP_101 : decode cX8_readsP 101 = .ok (.aload_n 0, 1) := by decide +kernel
theorem dX8_readsP_102 : decode cX8_readsP 102 = .ok (.iconst 0, 1) := by decide +kernel
theorem dX8_readsP_103 : decode cX8_readsP 103 = .ok (.invokevirtual 245, 3) := by decide +kernel
theorem dX8_readsP_106 : decode cX8_readsP 106 = .ok (.ifCond .eq 7, 3) := by decide +kernel
theorem dX8_readsP_109 : decode cX8_readsP 109 = .ok (.iconst 1, 1) := by decide +kernel
theorem dX8_readsP_110 : decode cX8_readsP 110 = .ok (.goto 4, 3) := by decide +kernel
theorem dX8_readsP_113 : decode cX8_readsP 113 = .ok (.iconst 0, 1) := by decide +kernel
theorem dX8_readsP_114 : decode cX8_readsP 114 = .ok (.ireturn, 1) := by decide +kernel
theorem dX8_readsD_0 : decode cX8_readsD 0 = .ok (.aload_n 0, 1) := by decide +kernel
theorem dX8_readsD_1 : decode cX8_readsD 1 = .ok (.bipush 114, 2) := by decide +kernel
theorem dX8_readsD_3 : decode cX8_readsD 3 = .ok (.invokevirtual 242, 3) := by decide +kernel
theorem dX8_readsD_6 : decode cX8_readsD 6 = .ok (.ifCond .ne 5, 3) := by decide +kernel
theorem dX8_readsD_9 : decode cX8_readsD 9 = .ok (.iconst 0, 1) := by decide +kernel
theorem dX8_readsD_10 : decode cX8_readsD 10 = .ok (.ireturn, 1) := by decide +kernel
theorem dX8_readsD_11 : decode cX8_readsD 11 = .ok (.aload_n 0, 1) := by decide +kernel
theorem dX8_readsD_12 : decode cX8_readsD 12 = .ok (.bipush 97, 2) := by decide +kernel
theorem dX8_readsD_14 : decode cX8_readsD 14 = .ok (.invokevirtual 242, 3) := by decide +kernel
theorem dX8_readsD_17 : decode cX8_readsD 17 = .ok (.ifCond .eq 44, 3) := by decide +kernel
theorem dX8_readsD_20 : decode cX8_readsD 20 = .ok (.aload_n 0, 1) := by decide +kernel
theorem dX8_readsD_21 : decode cX8_readsD 21 = .ok (.bipush 105, 2) := by decide +kernel
theorem dX8_readsD_23 : decode cX8_readsD 23 = .ok (.invokevirtual 242, 3) := by decide +kernel
theorem dX8_readsD_26 : decode cX8_readsD 26 = .ok (.ifCond .eq 33, 3) := by decide +kernel
theorem dX8_readsD_29 : decode cX8_readsD 29 = .ok (.aload_n 0, 1) := by decide +kernel
theorem dX8_readsD_30 : decode cX8_readsD 30 = .ok (.bipush 110, 2) := by decide +kernel
theorem dX8_readsD_32 : decode cX8_readsD 32 = .ok (.invokevirtual 242, 3) := by decide +kernel
theorem dX8_readsD_35 : decode cX8_readsD 35 = .ok (.ifCond .eq 24, 3) := by decide +kernel
theorem dX8_readsD_38 : decode cX8_readsD 38 = .ok (.aload_n 0, 1) := by decide +kernel
theorem dX8_readsD_39 : decode cX8_readsD 39 = .ok (.bipush 32, 2) := by decide +kernel
theorem dX8_readsD_41 : decode cX8_readsD 41 = .ok (.invokevirtual 242, 3) := by decide +kernel
theorem dX8_readsD_44 : decode cX8_readsD 44 = .ok (.ifCond .eq 15, 3) := by decide +kernel
theorem dX8_readsD_47 : decode cX8_readsD 47 = .ok (.aload_n 0, 1) := by decide +kernel
theorem dX8_readsD_48 : decode cX8_readsD 48 = .ok (.iconst 0, 1) := by decide +kernel
theorem dX8_readsD_49 : decode cX8_readsD 49 = .ok (.invokevirtual 245, 3) := by decide +kernel
theorem dX8_readsD_52 : decode cX8_readsD 52 = .ok (.ifCond .eq 7, 3) := by decide +kernel
theorem dX8_readsD_55 : decode cX8_readsD 55 = .ok (.iconst 1, 1) := by decide +kernel
theorem dX8_readsD_56 : decode cX8_readsD 56 = .ok (.goto 4, 3) := by decide +kernel
theorem dX8_readsD_59 : decode cX8_readsD 59 = .ok (.iconst 0, 1) := by decide +kernel
theorem dX8_readsD_60 : decode cX8_readsD 60 = .ok (.ireturn, 1) := by decide +kernel
theorem dX8_readsD_61 : decode cX8_readsD 61 = .ok (.aload_n 0, 1) := by decide +kernel
theorem dX8_readsD_62 : decode cX8_readsD 62 = .ok (.bipush 111, 2) := by decide +kernel
theorem dX8_readsD_64 : decode cX8_readsD 64 = .ok (.putfield 248, 3) := by decide +kernel
theorem dX8_readsD_67 : decode cX8_readsD 67 = .ok (.aload_n 0, 1) := by decide +kernel
theorem dX8_readsD_68 : decode cX8_readsD 68 = .ok (.bipush 111, 2) := by decide +kernel
theorem dX8_readsD_70 : decode cX8_readsD 70 = .ok (.invokevirtual 242, 3) := by decide +kernel
theorem dX8_readsD_73 : decode cX8_readsD 73 = .ok (.ifCond .eq 33, 3) := by decide +kernel
theorem dX8_readsD_76 : decode cX8_readsD 76 = .ok (.aload_n 0, 1) := by decide +kernel
theorem dX8_readsD_77 : decode cX8_readsD 77 = .ok (.bipush 112, 2) := by decide +kernel
theorem dX8_readsD_79 : decode cX8_readsD 79 = .ok (.invokevirtual 242, 3) := by decide +kernel
theorem dX8_readsD_82 : decode cX8_readsD 82 = .ok (.ifCond .eq 24, 3) := by decide +kernel
theorem dX8_readsD_85 : decode cX8_readsD 85 = .ok (.aload_n 0, 1) := by decide +kernel
theorem dX8_readsD_86 : decode cX8_readsD 86 = .ok (.bipush 32, 2) := by decide +kernel
theorem dX8_readsD_88 : decode cX8_readsD 88 = .ok (.invokevirtual 242, 3) := by decide +kernel
theorem dX8_readsD_91 : decode cX8_readsD 91 = .ok (.ifCond .eq 15, 3) := by decide +kernel
theorem dX8_readsD_94 : decode cX8_readsD 94 = .ok (.aload_n 0, 1) := by decide +kernel
theorem dX8_readsD_95 : decode cX8_readsD 95 = .ok (.iconst 0, 1) := by decide +kernel
theorem dX8_readsD_96 : decode cX8_readsD 96 = .ok (.invokevirtual 245, 3) := by decide +kernel
theorem dX8_readsD_99 : decode cX8_readsD 99 = .ok (.ifCond .eq 7, 3) := by decide +kernel
theorem dX8_readsD_102 : decode cX8_readsD 102 = .ok (.iconst 1, 1) := by decide +kernel
theorem dX8_readsD_103 : decode cX8_readsD 103 = .ok (.goto 4, 3) := by decide +kernel
theorem dX8_readsD_106 : decode cX8_readsD 106 = .ok (.iconst 0, 1) := by decide +kernel
theorem dX8_readsD_107 : decode cX8_readsD 107 = .ok (.ireturn, 1) := by decide +kernel
theorem dX8_readsStroke_0 : decode cX8_readsStroke 0 = .ok (.aload_n 0, 1) := by decide +kernel
theorem dX8_readsStroke_1 : decode cX8_readsStroke 1 = .ok (.bipush 116, 2) := by decide +kernel
theorem dX8_readsStroke_3 : decode cX8_readsStroke 3 = .ok (.invokevirtual 242, 3) := by decide +kernel
theorem dX8_readsStroke_6 : decode cX8_readsStroke 6 = .ok (.ifCond .eq 60, 3) := by decide +kernel
theorem dX8_readsStroke_9 : decode cX8_readsStroke 9 = .ok (.aload_n 0, 1) := by decide +kernel
theorem dX8_readsStroke_10 : decode cX8_readsStroke 10 = .ok (.bipush 114, 2) := by decide +kernel
theorem dX8_readsStroke_12 : decode cX8_readsStroke 12 = .ok (.invokevirtual 242, 3) := by decide +kernel
theorem dX8_readsStroke_15 : decode cX8_readsStroke 15 = .ok (.ifCond .eq 51, 3) := by decide +kernel
theorem dX8_readsStroke_18 : decode cX8_readsStroke 18 = .ok (.aload_n 0, 1) := by decide +kernel
theorem dX8_readsStroke_19 : decode cX8_readsStroke 19 = .ok (.bipush 111, 2) := by decide +kernel
theorem dX8_readsStroke_21 : decode cX8_readsStroke 21 = .ok (.invokevirtual 242, 3) := by decide +kernel
theorem dX8_readsStroke_24 : decode cX8_readsStroke 24 = .ok (.ifCond .eq 42, 3) := by decide +kernel
theorem dX8_readsStroke_27 : decode cX8_readsStroke 27 = .ok (.aload_n 0, 1) := by decide +kernel
theorem dX8_readsStroke_28 : decode cX8_readsStroke 28 = .ok (.bipush 107, 2) := by decide +kernel
theorem dX8_readsStroke_30 : decode cX8_readsStroke 30 = .ok (.invokevirtual 242, 3) := by decide +kernel
theorem dX8_readsStroke_33 : decode cX8_readsStroke 33 = .ok (.ifCond .eq 33, 3) := by decide +kernel
theorem dX8_readsStroke_36 : decode cX8_readsStroke 36 = .ok (.aload_n 0, 1) := by decide +kernel
theorem dX8_readsStroke_37 : decode cX8_readsStroke 37 = .ok (.bipush 101, 2) := by decide +kernel
theorem dX8_readsStroke_39 : decode cX8_readsStroke 39 = .ok (.invokevirtual 242, 3) := by decide +kernel
theorem dX8_readsStroke_42 : decode cX8_readsStroke 42 = .ok (.ifCond .eq 24, 3) := by decide +kernel
theorem dX8_readsStroke_45 : decode cX8_readsStroke 45 = .ok (.aload_n 0, 1) := by decide +kernel
theorem dX8_readsStroke_46 : decode cX8_readsStroke 46 = .ok (.bipush 32, 2) := by decide +kernel
theorem dX8_readsStroke_48 : decode cX8_readsStroke 48 = .ok (.invokevirtual 242, 3) := by decide +kernel
theorem dX8_readsStroke_51 : decode cX8_readsStroke 51 = .ok (.ifCond .eq 15, 3) := by decide +kernel
theorem dX8_readsStroke_54 : decode cX8_readsStroke 54 = .ok (.aload_n 0, 1) := by decide +kernel
theorem dX8_readsStroke_55 : decode cX8_readsStroke 55 = .ok (.iconst 0, 1) := by decide +kernel
theorem dX8_readsStroke_56 : decode cX8_readsStroke 56 = .ok (.invokevirtual 245, 3) := by decide +kernel
theorem dX8_readsStroke_59 : decode cX8_readsStroke 59 = .ok (.ifCond .eq 7, 3) := by decide +kernel
theorem dX8_readsStroke_62 : decode cX8_readsStroke 62 = .ok (.iconst 1, 1) := by decide +kernel
theorem dX8_readsStroke_63 : decode cX8_readsStroke 63 = .ok (.goto 4, 3) := by decide +kernel
theorem dX8_readsStroke_66 : decode cX8_readsStroke 66 = .ok (.iconst 0, 1) := by decide +kernel
theorem dX8_readsStroke_67 : decode cX8_readsStroke 67 = .ok (.ireturn, 1) := by decide +kernel
theorem dX8_readsBucket_0 : decode cX8_readsBucket 0 = .ok (.aload_n 0, 1) := by decide +kernel
theorem dX8_readsBucket_1 : decode cX8_readsBucket 1 = .ok (.bipush 117, 2) := by decide +kernel
theorem dX8_readsBucket_3 : decode cX8_readsBucket 3 = .ok (.invokevirtual 242, 3) := by decide +kernel
theorem dX8_readsBucket_6 : decode cX8_readsBucket 6 = .ok (.ifCond .eq 48, 3) := by decide +kernel
theorem dX8_readsBucket_9 : decode cX8_readsBucket 9 = .ok (.aload_n 0, 1) := by decide +kernel
theorem dX8_readsBucket_10 : decode cX8_readsBucket 10 = .ok (.bipush 99, 2) := by decide +kernel
theorem dX8_readsBucket_12 : decode cX8_readsBucket 12 = .ok (.invokevirtual 242, 3) := by decide +kernel
theorem dX8_readsBucket_15 : decode cX8_readsBucket 15 = .ok (.ifCond .eq 39, 3) := by decide +kernel
theorem dX8_readsBucket_18 : decode cX8_readsBucket 18 = .ok (.aload_n 0, 1) := by decide +kernel
theorem dX8_readsBucket_19 : decode cX8_readsBucket 19 = .ok (.bipush 107, 2) := by decide +kernel
theorem dX8_readsBucket_21 : decode cX8_readsBucket 21 = .ok (.invokevirtual 242, 3) := by decide +kernel
theorem dX8_readsBucket_24 : decode cX8_readsBucket 24 = .ok (.ifCond .eq 30, 3) := by decide +kernel
theorem dX8_readsBucket_27 : decode cX8_readsBucket 27 = .ok (.aload_n 0, 1) := by decide +kernel
theorem dX8_readsBucket_28 : decode cX8_readsBucket 28 = .ok (.bipush 101, 2) := by decide +kernel
theorem dX8_readsBucket_30 : decode cX8_readsBucket 30 = .ok (.invokevirtual 242, 3) := by decide +kernel
theorem dX8_readsBucket_33 : decode cX8_readsBucket 33 = .ok (.ifCond .eq 21, 3) := by decide +kernel
theorem dX8_readsBucket_36 : decode cX8_readsBucket 36 = .ok (.aload_n 0, 1) := by decide +kernel
theorem dX8_readsBucket_37 : decode cX8_readsBucket 37 = .ok (.bipush 116, 2) := by decide +kernel
theorem dX8_readsBucket_39 : decode cX8_readsBucket 39 = .ok (.invokevirtual 242, 3) := by decide +kernel
theorem dX8_readsBucket_42 : decode cX8_readsBucket 42 = .ok (.ifCond .eq 12, 3) := by decide +kernel
theorem dX8_readsBucket_45 : decode cX8_readsBucket 45 = .ok (.aload_n 0, 1) := by decide +kernel
theorem dX8_readsBucket_46 : decode cX8_readsBucket 46 = .ok (.bipush 32, 2) := by decide +kernel
theorem dX8_readsBucket_48 : decode cX8_readsBucket 48 = .ok (.invokevirtual 242, 3) := by decide +kernel
theorem dX8_readsBucket_51 : decode cX8_readsBucket 51 = .ok (.ifCond .ne 5, 3) := by decide +kernel
theorem dX8_readsBucket_54 : decode cX8_readsBucket 54 = .ok (.iconst 0, 1) := by decide +kernel
theorem dX8_readsBucket_55 : decode cX8_readsBucket 55 = .ok (.ireturn, 1) := by decide +kernel
theorem dX8_readsBucket_56 : decode cX8_readsBucket 56 = .ok (.aload_n 0, 1) := by decide +kernel
theorem dX8_readsBucket_57 : decode cX8_readsBucket 57 = .ok (.iconst 0, 1) := by decide +kernel
theorem dX8_readsBucket_58 : decode cX8_readsBucket 58 = .ok (.invokevirtual 239, 3) := by decide +kernel
theorem dX8_readsBucket_61 : decode cX8_readsBucket 61 = .ok (.ifCond .eq 24, 3) := by decide +kernel
theorem dX8_readsBucket_64 : decode cX8_readsBucket 64 = .ok (.aload_n 0, 1) := by decide +kernel
theorem dX8_readsBucket_65 : decode cX8_readsBucket 65 = .ok (.bipush 32, 2) := by decide +kernel
theorem dX8_readsBucket_67 : decode cX8_readsBucket 67 = .ok (.invokevirtual 242, 3) := by decide +kernel
theorem dX8_readsBucket_70 : decode cX8_readsBucket 70 = .ok (.ifCond .eq 15, 3) := by decide +kernel
theorem dX8_readsBucket_73 : decode cX8_readsBucket 73 = .ok (.aload_n 0, 1) := by decide +kernel
theorem dX8_readsBucket_74 : decode cX8_readsBucket 74 = .ok (.iconst 1, 1) := by decide +kernel
theorem dX8_readsBucket_75 : decode cX8_readsBucket 75 = .ok (.invokevirtual 239, 3) := by decide +kernel
theorem dX8_readsBucket_78 : decode cX8_readsBucket 78 = .ok (.ifCond .eq 7, 3) := by decide +kernel
theorem dX8_readsBucket_81 : decode cX8_readsBucket 81 = .ok (.iconst 1, 1) := by decide +kernel
theorem dX8_readsBucket_82 : decode cX8_readsBucket 82 = .ok (.goto 4, 3) := by decide +kernel
theorem dX8_readsBucket_85 : decode cX8_readsBucket 85 = .ok (.iconst 0, 1) := by decide +kernel
theorem dX8_readsBucket_86 : decode cX8_readsBucket 86 = .ok (.ireturn, 1) := by decide +kernel
theorem dX8_readsCommand_0 : decode cX8_readsCommand 0 = .ok (.aload_n 0, 1) := by decide +kernel
theorem dX8_readsCommand_1 : decode cX8_readsCommand 1 = .ok (.aload_n 0, 1) := by decide +kernel
theorem dX8_readsCommand_2 : decode cX8_readsCommand 2 = .ok (.invokevirtual 236, 3) := by decide +kernel
theorem dX8_readsCommand_5 : decode cX8_readsCommand 5 = .ok (.putfield 248, 3) := by decide +kernel
theorem dX8_readsCommand_8 : decode cX8_readsCommand 8 = .ok (.aload_n 0, 1) := by decide +kernel
theorem dX8_readsCommand_9 : decode cX8_readsCommand 9 = .ok (.bipush 106, 2) := by decide +kernel
theorem dX8_readsCommand_11 : decode cX8_readsCommand 11 = .ok (.invokevirtual 242, 3) := by decide +kernel
theorem dX8_readsCommand_14 : decode cX8_readsCommand 14 = .ok (.ifCond .eq 8, 3) := by decide +kernel
theorem dX8_readsCommand_17 : decode cX8_readsCommand 17 = .ok (.aload_n 0, 1) := by decide +kernel
theorem dX8_readsCommand_18 : decode cX8_readsCommand 18 = .ok (.invokevirtual 251, 3) := by decide +kernel
theorem dX8_readsCommand_21 : decode cX8_readsCommand 21 = .ok (.ireturn, 1) := by decide +kernel
theorem dX8_readsCommand_22 : decode cX8_readsCommand 22 = .ok (.aload_n 0, 1) := by decide +kernel
theorem dX8_readsCommand_23 : decode cX8_readsCommand 23 = .ok (.bipush 112, 2) := by decide +kernel
theorem dX8_readsCommand_25 : decode cX8_readsCommand 25 = .ok (.invokevirtual 242, 3) := by decide +kernel
theorem dX8_readsCommand_28 : decode cX8_readsCommand 28 = .ok (.ifCond .eq 8, 3) := by decide +kernel
theorem dX8_readsCommand_31 : decode cX8_readsCommand 31 = .ok (.aload_n 0, 1) := by decide +kernel
theorem dX8_readsCommand_32 : decode cX8_readsCommand 32 = .ok (.invokevirtual 255, 3) := by decide +kernel
theorem dX8_readsCommand_35 : decode cX8_readsCommand 35 = .ok (.ireturn, 1) := by decide +kernel
theorem dX8_readsCommand_36 : decode cX8_readsCommand 36 = .ok (.aload_n 0, 1) := by decide +kernel
theorem dX8_readsCommand_37 : decode cX8_readsCommand 37 = .ok (.bipush 100, 2) := by decide +kernel
theorem dX8_readsCommand_39 : decode cX8_readsCommand 39 = .ok (.invokevirtual 242, 3) := by decide +kernel
theorem dX8_readsCommand_42 : decode cX8_readsCommand 42 = .ok (.ifCond .eq 8, 3) := by decide +kernel
theorem dX8_readsCommand_45 : decode cX8_readsCommand 45 = .ok (.aload_n 0, 1) := by decide +kernel
theorem dX8_readsCommand_46 : decode cX8_readsCommand 46 = .ok (.invokevirtual 258, 3) := by decide +kernel
theorem dX8_readsCommand_49 : decode cX8_readsCommand 49 = .ok (.ireturn, 1) := by decide +kernel
theorem dX8_readsCommand_50 : decode cX8_readsCommand 50 = .ok (.aload_n 0, 1) := by decide +kernel
theorem dX8_readsCommand_51 : decode cX8_readsCommand 51 = .ok (.bipush 115, 2) := by decide +kernel
theorem dX8_readsCommand_53 : decode cX8_readsCommand 53 = .ok (.invokevirtual 242, 3) := by decide +kernel
theorem dX8_readsCommand_56 : decode cX8_readsCommand 56 = .ok (.ifCond .eq 8, 3) := by decide +kernel
theorem dX8_readsCommand_59 : decode cX8_readsCommand 59 = .ok (.aload_n 0, 1) := by decide +kernel
theorem dX8_readsCommand_60 : decode cX8_readsCommand 60 = .ok (.invokevirtual 261, 3) := by decide +kernel
theorem dX8_readsCommand_63 : decode cX8_readsCommand 63 = .ok (.ireturn, 1) := by decide +kernel
theorem dX8_readsCommand_64 : decode cX8_readsCommand 64 = .ok (.aload_n 0, 1) := by decide +kernel
theorem dX8_readsCommand_65 : decode cX8_readsCommand 65 = .ok (.bipush 98, 2) := by decide +kernel
theorem dX8_readsCommand_67 : decode cX8_readsCommand 67 = .ok (.invokevirtual 242, 3) := by decide +kernel
theorem dX8_readsCommand_70 : decode cX8_readsCommand 70 = .ok (.ifCond .eq 8, 3) := by decide +kernel
theorem dX8_readsCommand_73 : decode cX8_readsCommand 73 = .ok (.aload_n 0, 1) := by decide +kernel
theorem dX8_readsCommand_74 : decode cX8_readsCommand 74 = .ok (.invokevirtual 264, 3) := by decide +kernel
theorem dX8_readsCommand_77 : decode cX8_readsCommand 77 = .ok (.ireturn, 1) := by decide +kernel
theorem dX8_readsCommand_78 : decode cX8_readsCommand 78 = .ok (.aload_n 0, 1) := by decide +kernel
theorem dX8_readsCommand_79 : decode cX8_readsCommand 79 = .ok (.bipush 103, 2) := by decide +kernel
theorem dX8_readsCommand_81 : decode cX8_readsCommand 81 = .ok (.invokevirtual 242, 3) := by decide +kernel
theorem dX8_readsCommand_84 : decode cX8_readsCommand 84 = .ok (.ifCond .eq 33, 3) := by decide +kernel
theorem dX8_readsCommand_87 : decode cX8_readsCommand 87 = .ok (.aload_n 0, 1) := by decide +kernel
theorem dX8_readsCommand_88 : decode cX8_readsCommand 88 = .ok (.bipush 111, 2) := by decide +kernel
theorem dX8_readsCommand_90 : decode cX8_readsCommand 90 = .ok (.invokevirtual 242, 3) := by decide +kernel
theorem dX8_readsCommand_93 : decode cX8_readsCommand 93 = .ok (.ifCond .eq 24, 3) := by decide +kernel
theorem dX8_readsCommand_96 : decode cX8_readsCommand 96 = .ok (.aload_n 0, 1) := by decide +kernel
theorem dX8_readsCommand_97 : decode cX8_readsCommand 97 = .ok (.bipush 32, 2) := by decide +kernel
theorem dX8_readsCommand_99 : decode cX8_readsCommand 99 = .ok (.invokevirtual 242, 3) := by decide +kernel
theorem dX8_readsCommand_102 : decode cX8_readsCommand 102 = .ok (.ifCond .eq 15, 3) := by decide +kernel
theorem dX8_readsCommand_105 : decode cX8_readsCommand 105 = .ok (.aload_n 0, 1) := by decide +kernel
theorem dX8_readsCommand_106 : decode cX8_readsCommand 106 = .ok (.iconst 0, 1) := by decide +kernel
theorem dX8_readsCommand_107 : decode cX8_readsCommand 107 = .ok (.invokevirtual 239, 3) := by decide +kernel
theorem dX8_readsCommand_110 : decode cX8_readsCommand 110 = .ok (.ifCond .eq 7, 3) := by decide +kernel
theorem dX8_readsCommand_113 : decode cX8_readsCommand 113 = .ok (.iconst 1, 1) := by decide +kernel
theorem dX8_readsCommand_114 : decode cX8_readsCommand 114 = .ok (.goto 4, 3) := by decide +kernel
theorem dX8_readsCommand_117 : decode cX8_readsCommand 117 = .ok (.iconst 0, 1) := by decide +kernel
theorem dX8_readsCommand_118 : decode cX8_readsCommand 118 = .ok (.ireturn, 1) := by decide +kernel
theorem dX8_readsAll_0 : decode cX8_readsAll 0 = .ok (.aload_n 0, 1) := by decide +kernel
theorem dX8_readsAll_1 : decode cX8_readsAll 1 = .ok (.iconst 0, 1) := by decide +kernel
theorem dX8_readsAll_2 : decode cX8_readsAll 2 = .ok (.putfield 233, 3) := by decide +kernel
theorem dX8_readsAll_5 : decode cX8_readsAll 5 = .ok (.iconst 1, 1) := by decide +kernel
theorem dX8_readsAll_6 : decode cX8_readsAll 6 = .ok (.istore_n 1, 1) := by decide +kernel
theorem dX8_readsAll_7 : decode cX8_readsAll 7 = .ok (.iload_n 1, 1) := by decide +kernel
theorem dX8_readsAll_8 : decode cX8_readsAll 8 = .ok (.ifCond .eq 22, 3) := by decide +kernel
theorem dX8_readsAll_11 : decode cX8_readsAll 11 = .ok (.aload_n 0, 1) := by decide +kernel
theorem dX8_readsAll_12 : decode cX8_readsAll 12 = .ok (.invokevirtual 267, 3) := by decide +kernel
theorem dX8_readsAll_15 : decode cX8_readsAll 15 = .ok (.ifCond .ne 5, 3) := by decide +kernel
theorem dX8_readsAll_18 : decode cX8_readsAll 18 = .ok (.iconst 0, 1) := by decide +kernel
theorem dX8_readsAll_19 : decode cX8_readsAll 19 = .ok (.ireturn, 1) := by decide +kernel
theorem dX8_readsAll_20 : decode cX8_readsAll 20 = .ok (.aload_n 0, 1) := by decide +kernel
theorem dX8_readsAll_21 : decode cX8_readsAll 21 = .ok (.bipush 59, 2) := by decide +kernel
theorem dX8_readsAll_23 : decode cX8_readsAll 23 = .ok (.invokevirtual 242, 3) := by decide +kernel
theorem dX8_readsAll_26 : decode cX8_readsAll 26 = .ok (.istore_n 1, 1) := by decide +kernel
theorem dX8_readsAll_27 : decode cX8_readsAll 27 = .ok (.goto (-20), 3) := by decide +kernel
theorem dX8_readsAll_30 : decode cX8_readsAll 30 = .ok (.aload_n 0, 1) := by decide +kernel
theorem dX8_readsAll_31 : decode cX8_readsAll 31 = .ok (.getfield 233, 3) := by decide +kernel
theorem dX8_readsAll_34 : decode cX8_readsAll 34 = .ok (.aload_n 0, 1) := by decide +kernel
theorem dX8_readsAll_35 : decode cX8_readsAll 35 = .ok (.getfield 218, 3) := by decide +kernel
theorem dX8_readsAll_38 : decode cX8_readsAll 38 = .ok (.if_icmp .ne 7, 3) := by decide +kernel
theorem dX8_readsAll_41 : decode cX8_readsAll 41 = .ok (.iconst 1, 1) := by decide +kernel
theorem dX8_readsAll_42 : decode cX8_readsAll 42 = .ok (.goto 4, 3) := by decide +kernel
theorem dX8_readsAll_45 : decode cX8_readsAll 45 = .ok (.iconst 0, 1) := by decide +kernel
theorem dX8_readsAll_46 : decode cX8_readsAll 46 = .ok (.ireturn, 1) := by decide +kernel
theorem dX8_notNow_0 : decode cX8_notNow 0 = .ok (.aload_n 0, 1) := by decide +kernel
theorem dX8_notNow_1 : decode cX8_notNow 1 = .ok (.getfield 58, 3) := by decide +kernel
theorem dX8_notNow_4 : decode cX8_notNow 4 = .ok (.iconst 0, 1) := by decide +kernel
theorem dX8_notNow_5 : decode cX8_notNow 5 = .ok (.iaload, 1) := by decide +kernel
theorem dX8_notNow_6 : decode cX8_notNow 6 = .ok (.istore_n 1, 1) := by decide +kernel
theorem dX8_notNow_7 : decode cX8_notNow 7 = .ok (.aload_n 0, 1) := by decide +kernel
theorem dX8_notNow_8 : decode cX8_notNow 8 = .ok (.getfield 248, 3) := by decide +kernel
theorem dX8_notNow_11 : decode cX8_notNow 11 = .ok (.tableswitch 151 98 115 #[139, 151, 121, 151, 151, 151, 151, 151, 85, 151, 151, 151, 151, 127, 109, 151, 115, 133], 85) := by decide +kernel
theorem dX8_notNow_96 : decode cX8_notNow 96 = .ok (.aload_n 0, 1) := by decide +kernel
theorem dX8_notNow_97 : decode cX8_notNow 97 = .ok (.iload_n 1, 1) := by decide +kernel
theorem dX8_notNow_98 : decode cX8_notNow 98 = .ok (.aload_n 0, 1) := by decide +kernel
theorem dX8_notNow_99 : decode cX8_notNow 99 = .ok (.getfield 58, 3) := by decide +kernel
theorem dX8_notNow_102 : decode cX8_notNow 102 = .ok (.iconst 1, 1) := by decide +kernel
theorem dX8_notNow_103 : decode cX8_notNow 103 = .ok (.iaload, 1) := by decide +kernel
theorem dX8_notNow_104 : decode cX8_notNow 104 = .ok (.aload_n 0, 1) := by decide +kernel
theorem dX8_notNow_105 : decode cX8_notNow 105 = .ok (.getfield 58, 3) := by decide +kernel
theorem dX8_notNow_108 : decode cX8_notNow 108 = .ok (.iconst 2, 1) := by decide +kernel
theorem dX8_notNow_109 : decode cX8_notNow 109 = .ok (.iaload, 1) := by decide +kernel
theorem dX8_notNow_110 : decode cX8_notNow 110 = .ok (.aload_n 0, 1) := by decide +kernel
theorem dX8_notNow_111 : decode cX8_notNow 111 = .ok (.getfield 58, 3) := by decide +kernel
theorem dX8_notNow_114 : decode cX8_notNow 114 = .ok (.iconst 3, 1) := by decide +kernel
theorem dX8_notNow_115 : decode cX8_notNow 115 = .ok (.iaload, 1) := by decide +kernel
theorem dX8_notNow_116 : decode cX8_notNow 116 = .ok (.invokevirtual 100, 3) := by decide +kernel
theorem dX8_notNow_119 : decode cX8_notNow 119 = .ok (.ireturn, 1) := by decide +kernel
theorem dX8_notNow_120 : decode cX8_notNow 120 = .ok (.aload_n 0, 1) := by decide +kernel
theorem dX8_notNow_121 : decode cX8_notNow 121 = .ok (.iload_n 1, 1) := by decide +kernel
theorem dX8_notNow_122 : decode cX8_notNow 122 = .ok (.invokevirtual 182, 3) := by decide +kernel
theorem dX8_notNow_125 : decode cX8_notNow 125 = .ok (.ireturn, 1) := by decide +kernel
theorem dX8_notNow_126 : decode cX8_notNow 126 = .ok (.aload_n 0, 1) := by decide +kernel
theorem dX8_notNow_127 : decode cX8_notNow 127 = .ok (.iload_n 1, 1) := by decide +kernel
theorem dX8_notNow_128 : decode cX8_notNow 128 = .ok (.invokevirtual 116, 3) := by decide +kernel
theorem dX8_notNow_131 : decode cX8_notNow 131 = .ok (.ireturn, 1) := by decide +kernel
theorem dX8_notNow_132 : decode cX8_notNow 132 = .ok (.aload_n 0, 1) := by decide +kernel
theorem dX8_notNow_133 : decode cX8_notNow 133 = .ok (.iload_n 1, 1) := by decide +kernel
theorem dX8_notNow_134 : decode cX8_notNow 134 = .ok (.invokevirtual 132, 3) := by decide +kernel
theorem dX8_notNow_137 : decode cX8_notNow 137 = .ok (.ireturn, 1) := by decide +kernel
theorem dX8_notNow_138 : decode cX8_notNow 138 = .ok (.aload_n 0, 1) := by decide +kernel
theorem dX8_notNow_139 : decode cX8_notNow 139 = .ok (.iload_n 1, 1) := by decide +kernel
theorem dX8_notNow_140 : decode cX8_notNow 140 = .ok (.invokevirtual 126, 3) := by decide +kernel
theorem dX8_notNow_143 : decode cX8_notNow 143 = .ok (.ireturn, 1) := by decide +kernel
theorem dX8_notNow_144 : decode cX8_notNow 144 = .ok (.aload_n 0, 1) := by decide +kernel
theorem dX8_notNow_145 : decode cX8_notNow 145 = .ok (.iload_n 1, 1) := by decide +kernel
theorem dX8_notNow_146 : decode cX8_notNow 146 = .ok (.invokevirtual 138, 3) := by decide +kernel
theorem dX8_notNow_149 : decode cX8_notNow 149 = .ok (.ireturn, 1) := by decide +kernel
theorem dX8_notNow_150 : decode cX8_notNow 150 = .ok (.aload_n 0, 1) := by decide +kernel
theorem dX8_notNow_151 : decode cX8_notNow 151 = .ok (.iload_n 1, 1) := by decide +kernel
theorem dX8_notNow_152 : decode cX8_notNow 152 = .ok (.aload_n 0, 1) := by decide +kernel
theorem dX8_notNow_153 : decode cX8_notNow 153 = .ok (.getfield 58, 3) := by decide +kernel
theorem dX8_notNow_156 : decode cX8_notNow 156 = .ok (.iconst 1, 1) := by decide +kernel
theorem dX8_notNow_157 : decode cX8_notNow 157 = .ok (.iaload, 1) := by decide +kernel
theorem dX8_notNow_158 : decode cX8_notNow 158 = .ok (.invokevirtual 144, 3) := by decide +kernel
theorem dX8_notNow_161 : decode cX8_notNow 161 = .ok (.ireturn, 1) := by decide +kernel
theorem dX8_notNow_162 : decode cX8_notNow 162 = .ok (.aload_n 0, 1) := by decide +kernel
theorem dX8_notNow_163 : decode cX8_notNow 163 = .ok (.iload_n 1, 1) := by decide +kernel
theorem dX8_notNow_164 : decode cX8_notNow 164 = .ok (.invokevirtual 147, 3) := by decide +kernel
theorem dX8_notNow_167 : decode cX8_notNow 167 = .ok (.ireturn, 1) := by decide +kernel
theorem dX8_doesNow_0 : decode cX8_doesNow 0 = .ok (.aload_n 0, 1) := by decide +kernel
theorem dX8_doesNow_1 : decode cX8_doesNow 1 = .ok (.getfield 58, 3) := by decide +kernel
theorem dX8_doesNow_4 : decode cX8_doesNow 4 = .ok (.iconst 0, 1) := by decide +kernel
theorem dX8_doesNow_5 : decode cX8_doesNow 5 = .ok (.iaload, 1) := by decide +kernel
theorem dX8_doesNow_6 : decode cX8_doesNow 6 = .ok (.istore_n 1, 1) := by decide +kernel
theorem dX8_doesNow_7 : decode cX8_doesNow 7 = .ok (.aload_n 0, 1) := by decide +kernel
theorem dX8_doesNow_8 : decode cX8_doesNow 8 = .ok (.getfield 248, 3) := by decide +kernel
theorem dX8_doesNow_11 : decode cX8_doesNow 11 = .ok (.tableswitch 155 98 115 #[140, 155, 121, 155, 155, 155, 155, 155, 85, 155, 155, 155, 155, 127, 109, 155, 115, 133], 85) := by decide +kernel
theorem dX8_doesNow_96 : decode cX8_doesNow 96 = .ok (.aload_n 0, 1) := by decide +kernel
theorem dX8_doesNow_97 : decode cX8_doesNow 97 = .ok (.iload_n 1, 1) := by decide +kernel
theorem dX8_doesNow_98 : decode cX8_doesNow 98 = .ok (.aload_n 0, 1) := by decide +kernel
theorem dX8_doesNow_99 : decode cX8_doesNow 99 = .ok (.getfield 58, 3) := by decide +kernel
theorem dX8_doesNow_102 : decode cX8_doesNow 102 = .ok (.iconst 1, 1) := by decide +kernel
theorem dX8_doesNow_103 : decode cX8_doesNow 103 = .ok (.iaload, 1) := by decide +kernel
theorem dX8_doesNow_104 : decode cX8_doesNow 104 = .ok (.aload_n 0, 1) := by decide +kernel
theorem dX8_doesNow_105 : decode cX8_doesNow 105 = .ok (.getfield 58, 3) := by decide +kernel
theorem dX8_doesNow_108 : decode cX8_doesNow 108 = .ok (.iconst 2, 1) := by decide +kernel
theorem dX8_doesNow_109 : decode cX8_doesNow 109 = .ok (.iaload, 1) := by decide +kernel
theorem dX8_doesNow_110 : decode cX8_doesNow 110 = .ok (.aload_n 0, 1) := by decide +kernel
theorem dX8_doesNow_111 : decode cX8_doesNow 111 = .ok (.getfield 58, 3) := by decide +kernel
theorem dX8_doesNow_114 : decode cX8_doesNow 114 = .ok (.iconst 3, 1) := by decide +kernel
theorem dX8_doesNow_115 : decode cX8_doesNow 115 = .ok (.iaload, 1) := by decide +kernel
theorem dX8_doesNow_116 : decode cX8_doesNow 116 = .ok (.invokevirtual 110, 3) := by decide +kernel
theorem dX8_doesNow_119 : decode cX8_doesNow 119 = .ok (.ireturn, 1) := by decide +kernel
theorem dX8_doesNow_120 : decode cX8_doesNow 120 = .ok (.aload_n 0, 1) := by decide +kernel
theorem dX8_doesNow_121 : decode cX8_doesNow 121 = .ok (.iload_n 1, 1) := by decide +kernel
theorem dX8_doesNow_122 : decode cX8_doesNow 122 = .ok (.invokevirtual 185, 3) := by decide +kernel
theorem dX8_doesNow_125 : decode cX8_doesNow 125 = .ok (.ireturn, 1) := by decide +kernel
theorem dX8_doesNow_126 : decode cX8_doesNow 126 = .ok (.aload_n 0, 1) := by decide +kernel
theorem dX8_doesNow_127 : decode cX8_doesNow 127 = .ok (.iload_n 1, 1) := by decide +kernel
theorem dX8_doesNow_128 : decode cX8_doesNow 128 = .ok (.invokevirtual 119, 3) := by decide +kernel
theorem dX8_doesNow_131 : decode cX8_doesNow 131 = .ok (.ireturn, 1) := by decide +kernel
theorem dX8_doesNow_132 : decode cX8_doesNow 132 = .ok (.aload_n 0, 1) := by decide +kernel
theorem dX8_doesNow_133 : decode cX8_doesNow 133 = .ok (.iload_n 1, 1) := by decide +kernel
theorem dX8_doesNow_134 : decode cX8_doesNow 134 = .ok (.invokevirtual 135, 3) := by decide +kernel
theorem dX8_doesNow_137 : decode cX8_doesNow 137 = .ok (.ireturn, 1) := by decide +kernel
theorem dX8_doesNow_138 : decode cX8_doesNow 138 = .ok (.aload_n 0, 1) := by decide +kernel
theorem dX8_doesNow_139 : decode cX8_doesNow 139 = .ok (.iload_n 1, 1) := by decide +kernel
theorem dX8_doesNow_140 : decode cX8_doesNow 140 = .ok (.invokevirtual 129, 3) := by decide +kernel
theorem dX8_doesNow_143 : decode cX8_doesNow 143 = .ok (.ireturn, 1) := by decide +kernel
theorem dX8_doesNow_144 : decode cX8_doesNow 144 = .ok (.aload_n 0, 1) := by decide +kernel
theorem dX8_doesNow_145 : decode cX8_doesNow 145 = .ok (.iconst 2, 1) := by decide +kernel
theorem dX8_doesNow_146 : decode cX8_doesNow 146 = .ok (.iload_n 1, 1) := by decide +kernel
theorem dX8_doesNow_147 : decode cX8_doesNow 147 = .ok (.invokevirtual 141, 3) := by decide +kernel
theorem dX8_doesNow_150 : decode cX8_doesNow 150 = .ok (.ireturn, 1) := by decide +kernel
theorem dX8_doesNow_151 : decode cX8_doesNow 151 = .ok (.aload_n 0, 1) := by decide +kernel
theorem dX8_doesNow_152 : decode cX8_doesNow 152 = .ok (.bipush 14, 2) := by decide +kernel
theorem dX8_doesNow_154 : decode cX8_doesNow 154 = .ok (.iload_n 1, 1) := by decide +kernel
theorem dX8_doesNow_155 : decode cX8_doesNow 155 = .ok (.iadd, 1) := by decide +kernel
theorem dX8_doesNow_156 : decode cX8_doesNow 156 = .ok (.aload_n 0, 1) := by decide +kernel
theorem dX8_doesNow_157 : decode cX8_doesNow 157 = .ok (.getfield 58, 3) := by decide +kernel
theorem dX8_doesNow_160 : decode cX8_doesNow 160 = .ok (.iconst 1, 1) := by decide +kernel
theorem dX8_doesNow_161 : decode cX8_doesNow 161 = .ok (.iaload, 1) := by decide +kernel
theorem dX8_doesNow_162 : decode cX8_doesNow 162 = .ok (.invokevirtual 141, 3) := by decide +kernel
theorem dX8_doesNow_165 : decode cX8_doesNow 165 = .ok (.ireturn, 1) := by decide +kernel
theorem dX8_doesNow_166 : decode cX8_doesNow 166 = .ok (.aload_n 0, 1) := by decide +kernel
theorem dX8_doesNow_167 : decode cX8_doesNow 167 = .ok (.iload_n 1, 1) := by decide +kernel
theorem dX8_doesNow_168 : decode cX8_doesNow 168 = .ok (.invokevirtual 150, 3) := by decide +kernel
theorem dX8_doesNow_171 : decode cX8_doesNow 171 = .ok (.ireturn, 1) := by decide +kernel
theorem dX8_doesAll_0 : decode cX8_doesAll 0 = .ok (.aload_n 0, 1) := by decide +kernel
theorem dX8_doesAll_1 : decode cX8_doesAll 1 = .ok (.iconst 0, 1) := by decide +kernel
theorem dX8_doesAll_2 : decode cX8_doesAll 2 = .ok (.putfield 270, 3) := by decide +kernel
theorem dX8_doesAll_5 : decode cX8_doesAll 5 = .ok (.aload_n 0, 1) := by decide +kernel
theorem dX8_doesAll_6 : decode cX8_doesAll 6 = .ok (.iconst 0, 1) := by decide +kernel
theorem dX8_doesAll_7 : decode cX8_doesAll 7 = .ok (.putfield 233, 3) := by decide +kernel
theorem dX8_doesAll_10 : decode cX8_doesAll 10 = .ok (.iconst 1, 1) := by decide +kernel
theorem dX8_doesAll_11 : decode cX8_doesAll 11 = .ok (.istore_n 1, 1) := by decide +kernel
theorem dX8_doesAll_12 : decode cX8_doesAll 12 = .ok (.iload_n 1, 1) := by decide +kernel
theorem dX8_doesAll_13 : decode cX8_doesAll 13 = .ok (.ifCond .eq 44, 3) := by decide +kernel
theorem dX8_doesAll_16 : decode cX8_doesAll 16 = .ok (.aload_n 0, 1) := by decide +kernel
theorem dX8_doesAll_17 : decode cX8_doesAll 17 = .ok (.invokevirtual 267, 3) := by decide +kernel
theorem dX8_doesAll_20 : decode cX8_doesAll 20 = .ok (.pop, 1) := by decide +kernel
theorem dX8_doesAll_21 : decode cX8_doesAll 21 = .ok (.aload_n 0, 1) := by decide +kernel
theorem dX8_doesAll_22 : decode cX8_doesAll 22 = .ok (.invokevirtual 273, 3) := by decide +kernel
theorem dX8_doesAll_25 : decode cX8_doesAll 25 = .ok (.istore_n 2, 1) := by decide +kernel
theorem dX8_doesAll_26 : decode cX8_doesAll 26 = .ok (.iload_n 2, 1) := by decide +kernel
theorem dX8_doesAll_27 : decode cX8_doesAll 27 = .ok (.ifCond .eq 5, 3) := by decide +kernel
theorem dX8_doesAll_30 : decode cX8_doesAll 30 = .ok (.iload_n 2, 1) := by decide +kernel
theorem dX8_doesAll_31 : decode cX8_doesAll 31 = .ok (.ireturn, 1) := by decide +kernel
theorem dX8_doesAll_32 : decode cX8_doesAll 32 = .ok (.aload_n 0, 1) := by decide +kernel
theorem dX8_doesAll_33 : decode cX8_doesAll 33 = .ok (.invokevirtual 276, 3) := by decide +kernel
theorem dX8_doesAll_36 : decode cX8_doesAll 36 = .ok (.pop, 1) := by decide +kernel
theorem dX8_doesAll_37 : decode cX8_doesAll 37 = .ok (.aload_n 0, 1) := by decide +kernel
theorem dX8_doesAll_38 : decode cX8_doesAll 38 = .ok (.dup, 1) := by decide +kernel
theorem dX8_doesAll_39 : decode cX8_doesAll 39 = .ok (.getfield 270, 3) := by decide +kernel
theorem dX8_doesAll_42 : decode cX8_doesAll 42 = .ok (.iconst 1, 1) := by decide +kernel
theorem dX8_doesAll_43 : decode cX8_doesAll 43 = .ok (.iadd, 1) := by decide +kernel
theorem dX8_doesAll_44 : decode cX8_doesAll 44 = .ok (.putfield 270, 3) := by decide +kernel
theorem dX8_doesAll_47 : decode cX8_doesAll 47 = .ok (.aload_n 0, 1) := by decide +kernel
theorem dX8_doesAll_48 : decode cX8_doesAll 48 = .ok (.bipush 59, 2) := by decide +kernel
theorem dX8_doesAll_50 : decode cX8_doesAll 50 = .ok (.invokevirtual 242, 3) := by decide +kernel
theorem dX8_doesAll_53 : decode cX8_doesAll 53 = .ok (.istore_n 1, 1) := by decide +kernel
theorem dX8_doesAll_54 : decode cX8_doesAll 54 = .ok (.goto (-42), 3) := by decide +kernel
theorem dX8_doesAll_57 : decode cX8_doesAll 57 = .ok (.iconst 0, 1) := by decide +kernel
theorem dX8_doesAll_58 : decode cX8_doesAll 58 = .ok (.ireturn, 1) := by decide +kernel
theorem dX8_refuses_0 : decode cX8_refuses 0 = .ok (.aload_n 0, 1) := by decide +kernel
theorem dX8_refuses_1 : decode cX8_refuses 1 = .ok (.bipush 9, 2) := by decide +kernel
theorem dX8_refuses_3 : decode cX8_refuses 3 = .ok (.putfield 10, 3) := by decide +kernel
theorem dX8_refuses_6 : decode cX8_refuses 6 = .ok (.aload_n 0, 1) := by decide +kernel
theorem dX8_refuses_7 : decode cX8_refuses 7 = .ok (.aload_n 0, 1) := by decide +kernel
theorem dX8_refuses_8 : decode cX8_refuses 8 = .ok (.getfield 270, 3) := by decide +kernel
theorem dX8_refuses_11 : decode cX8_refuses 11 = .ok (.putfield 13, 3) := by decide +kernel
theorem dX8_refuses_14 : decode cX8_refuses 14 = .ok (.aload_n 0, 1) := by decide +kernel
theorem dX8_refuses_15 : decode cX8_refuses 15 = .ok (.iload_n 1, 1) := by decide +kernel
theorem dX8_refuses_16 : decode cX8_refuses 16 = .ok (.bipush (-5), 2) := by decide +kernel
theorem dX8_refuses_18 : decode cX8_refuses 18 = .ok (.if_icmp .ne 10, 3) := by decide +kernel
theorem dX8_refuses_21 : decode cX8_refuses 21 = .ok (.aload_n 0, 1) := by decide +kernel
theorem dX8_refuses_22 : decode cX8_refuses 22 = .ok (.getfield 1, 3) := by decide +kernel
theorem dX8_refuses_25 : decode cX8_refuses 25 = .ok (.goto 4, 3) := by decide +kernel
theorem dX8_refuses_28 : decode cX8_refuses 28 = .ok (.iconst 0, 1) := by decide +kernel
theorem dX8_refuses_29 : decode cX8_refuses 29 = .ok (.putfield 16, 3) := by decide +kernel
theorem dX8_refuses_32 : decode cX8_refuses 32 = .ok (.aload_n 0, 1) := by decide +kernel
theorem dX8_refuses_33 : decode cX8_refuses 33 = .ok (.aload_n 0, 1) := by decide +kernel
theorem dX8_refuses_34 : decode cX8_refuses 34 = .ok (.getfield 7, 3) := by decide +kernel
theorem dX8_refuses_37 : decode cX8_refuses 37 = .ok (.putfield 23, 3) := by decide +kernel
theorem dX8_refuses_40 : decode cX8_refuses 40 = .ok (.bipush (-5), 2) := by decide +kernel
theorem dX8_refuses_42 : decode cX8_refuses 42 = .ok (.ireturn, 1) := by decide +kernel
theorem dX8_read_0 : decode cX8_read 0 = .ok (.aload_n 0, 1) := by decide +kernel
theorem dX8_read_1 : decode cX8_read 1 = .ok (.invokevirtual 279, 3) := by decide +kernel
theorem dX8_read_4 : decode cX8_read 4 = .ok (.ifCond .ne 19, 3) := by decide +kernel
theorem dX8_read_7 : decode cX8_read 7 = .ok (.aload_n 0, 1) := by decide +kernel
theorem dX8_read_8 : decode cX8_read 8 = .ok (.aload_n 0, 1) := by decide +kernel
theorem dX8_read_9 : decode cX8_read 9 = .ok (.getfield 233, 3) := by decide +kernel
theorem dX8_read_12 : decode cX8_read 12 = .ok (.putfield 55, 3) := by decide +kernel
theorem dX8_read_15 : decode cX8_read 15 = .ok (.aload_n 0, 1) := by decide +kernel
theorem dX8_read_16 : decode cX8_read 16 = .ok (.iconst 0, 1) := by decide +kernel
theorem dX8_read_17 : decode cX8_read 17 = .ok (.putfield 218, 3) := by decide +kernel
theorem dX8_read_20 : decode cX8_read 20 = .ok (.bipush (-2), 2) := by decide +kernel
theorem dX8_read_22 : decode cX8_read 22 = .ok (.ireturn, 1) := by decide +kernel
theorem dX8_read_23 : decode cX8_read 23 = .ok (.aload_n 0, 1) := by decide +kernel
theorem dX8_read_24 : decode cX8_read 24 = .ok (.invokevirtual 67, 3) := by decide +kernel
theorem dX8_read_27 : decode cX8_read 27 = .ok (.aload_n 0, 1) := by decide +kernel
theorem dX8_read_28 : decode cX8_read 28 = .ok (.invokevirtual 282, 3) := by decide +kernel
theorem dX8_read_31 : decode cX8_read 31 = .ok (.istore_n 1, 1) := by decide +kernel
theorem dX8_read_32 : decode cX8_read 32 = .ok (.aload_n 0, 1) := by decide +kernel
theorem dX8_read_33 : decode cX8_read 33 = .ok (.iconst 0, 1) := by decide +kernel
theorem dX8_read_34 : decode cX8_read 34 = .ok (.putfield 218, 3) := by decide +kernel
theorem dX8_read_37 : decode cX8_read 37 = .ok (.iload_n 1, 1) := by decide +kernel
theorem dX8_read_38 : decode cX8_read 38 = .ok (.ifCond .ne 12, 3) := by decide +kernel
theorem dX8_read_41 : decode cX8_read 41 = .ok (.aload_n 0, 1) := by decide +kernel
theorem dX8_read_42 : decode cX8_read 42 = .ok (.invokevirtual 70, 3) := by decide +kernel
theorem dX8_read_45 : decode cX8_read 45 = .ok (.aload_n 0, 1) := by decide +kernel
theorem dX8_read_46 : decode cX8_read 46 = .ok (.getfield 270, 3) := by decide +kernel
theorem dX8_read_49 : decode cX8_read 49 = .ok (.ireturn, 1) := by decide +kernel
theorem dX8_read_50 : decode cX8_read 50 = .ok (.aload_n 0, 1) := by decide +kernel
theorem dX8_read_51 : decode cX8_read 51 = .ok (.invokevirtual 285, 3) := by decide +kernel
theorem dX8_read_54 : decode cX8_read 54 = .ok (.aload_n 0, 1) := by decide +kernel
theorem dX8_read_55 : decode cX8_read 55 = .ok (.iload_n 1, 1) := by decide +kernel
theorem dX8_read_56 : decode cX8_read 56 = .ok (.invokevirtual 288, 3) := by decide +kernel
theorem dX8_read_59 : decode cX8_read 59 = .ok (.ireturn, 1) := by decide +kernel
theorem dX8_undo_0 : decode cX8_undo 0 = .ok (.aload_n 0, 1) := by decide +kernel
theorem dX8_undo_1 : decode cX8_undo 1 = .ok (.getfield 61, 3) := by decide +kernel
theorem dX8_undo_4 : decode cX8_undo 4 = .ok (.ifCond .ne 6, 3) := by decide +kernel
theorem dX8_undo_7 : decode cX8_undo 7 = .ok (.bipush (-3), 2) := by decide +kernel
theorem dX8_undo_9 : decode cX8_undo 9 = .ok (.ireturn, 1) := by decide +kernel
theorem dX8_undo_10 : decode cX8_undo 10 = .ok (.aload_n 0, 1) := by decide +kernel
theorem dX8_undo_11 : decode cX8_undo 11 = .ok (.dup, 1) := by decide +kernel
theorem dX8_undo_12 : decode cX8_undo 12 = .ok (.getfield 61, 3) := by decide +kernel
theorem dX8_undo_15 : decode cX8_undo 15 = .ok (.iconst 1, 1) := by decide +kernel
theorem dX8_undo_16 : decode cX8_undo 16 = .ok (.isub, 1) := by decide +kernel
theorem dX8_undo_17 : decode cX8_undo 17 = .ok (.putfield 61, 3) := by decide +kernel
theorem dX8_undo_20 : decode cX8_undo 20 = .ok (.aload_n 0, 1) := by decide +kernel
theorem dX8_undo_21 : decode cX8_undo 21 = .ok (.getfield 64, 3) := by decide +kernel
theorem dX8_undo_24 : decode cX8_undo 24 = .ok (.aload_n 0, 1) := by decide +kernel
theorem dX8_undo_25 : decode cX8_undo 25 = .ok (.getfield 61, 3) := by decide +kernel
theorem dX8_undo_28 : decode cX8_undo 28 = .ok (.iadd, 1) := by decide +kernel
theorem dX8_undo_29 : decode cX8_undo 29 = .ok (.bipush 8, 2) := by decide +kernel
theorem dX8_undo_31 : decode cX8_undo 31 = .ok (.irem, 1) := by decide +kernel
theorem dX8_undo_32 : decode cX8_undo 32 = .ok (.istore_n 1, 1) := by decide +kernel
theorem dX8_undo_33 : decode cX8_undo 33 = .ok (.iconst 0, 1) := by decide +kernel
theorem dX8_undo_34 : decode cX8_undo 34 = .ok (.istore_n 2, 1) := by decide +kernel
theorem dX8_undo_35 : decode cX8_undo 35 = .ok (.iload_n 2, 1) := by decide +kernel
theorem dX8_undo_36 : decode cX8_undo 36 = .ok (.sipush 274, 3) := by decide +kernel
theorem dX8_undo_39 : decode cX8_undo 39 = .ok (.if_icmp .ge 27, 3) := by decide +kernel
theorem dX8_undo_42 : decode cX8_undo 42 = .ok (.aload_n 0, 1) := by decide +kernel
theorem dX8_undo_43 : decode cX8_undo 43 = .ok (.getfield 32, 3) := by decide +kernel
theorem dX8_undo_46 : decode cX8_undo 46 = .ok (.iload_n 2, 1) := by decide +kernel
theorem dX8_undo_47 : decode cX8_undo 47 = .ok (.aload_n 0, 1) := by decide +kernel
theorem dX8_undo_48 : decode cX8_undo 48 = .ok (.getfield 36, 3) := by decide +kernel
theorem dX8_undo_51 : decode cX8_undo 51 = .ok (.sipush 274, 3) := by decide +kernel
theorem dX8_undo_54 : decode cX8_undo 54 = .ok (.iload_n 1, 1) := by decide +kernel
theorem dX8_undo_55 : decode cX8_undo 55 = .ok (.imul, 1) := by decide +kernel
theorem dX8_undo_56 : decode cX8_undo 56 = .ok (.iload_n 2, 1) := by decide +kernel
theorem dX8_undo_57 : decode cX8_undo 57 = .ok (.iadd, 1) := by decide +kernel
theorem dX8_undo_58 : decode cX8_undo 58 = .ok (.iaload, 1) := by decide +kernel
theorem dX8_undo_59 : decode cX8_undo 59 = .ok (.iastore, 1) := by decide +kernel
theorem dX8_undo_60 : decode cX8_undo 60 = .ok (.iinc 2 1, 3) := by decide +kernel
theorem dX8_undo_63 : decode cX8_undo 63 = .ok (.goto (-28), 3) := by decide +kernel
theorem dX8_undo_66 : decode cX8_undo 66 = .ok (.aload_n 0, 1) := by decide +kernel
theorem dX8_undo_67 : decode cX8_undo 67 = .ok (.getfield 61, 3) := by decide +kernel
theorem dX8_undo_70 : decode cX8_undo 70 = .ok (.ireturn, 1) := by decide +kernel
theorem dX8_save_0 : decode cX8_save 0 = .ok (.iconst 0, 1) := by decide +kernel
theorem dX8_save_1 : decode cX8_save 1 = .ok (.istore_n 1, 1) := by decide +kernel
theorem dX8_save_2 : decode cX8_save 2 = .ok (.iload_n 1, 1) := by decide +kernel
theorem dX8_save_3 : decode cX8_save 3 = .ok (.sipush 274, 3) := by decide +kernel
theorem dX8_save_6 : decode cX8_save 6 = .ok (.if_icmp .ge 21, 3) := by decide +kernel
theorem dX8_save_9 : decode cX8_save 9 = .ok (.aload_n 0, 1) := by decide +kernel
theorem dX8_save_10 : decode cX8_save 10 = .ok (.getfield 39, 3) := by decide +kernel
theorem dX8_save_13 : decode cX8_save 13 = .ok (.iload_n 1, 1) := by decide +kernel
theorem dX8_save_14 : decode cX8_save 14 = .ok (.aload_n 0, 1) := by decide +kernel
theorem dX8_save_15 : decode cX8_save 15 = .ok (.getfield 32, 3) := by decide +kernel
theorem dX8_save_18 : decode cX8_save 18 = .ok (.iload_n 1, 1) := by decide +kernel
theorem dX8_save_19 : decode cX8_save 19 = .ok (.iaload, 1) := by decide +kernel
theorem dX8_save_20 : decode cX8_save 20 = .ok (.iastore, 1) := by decide +kernel
theorem dX8_save_21 : decode cX8_save 21 = .ok (.iinc 1 1, 3) := by decide +kernel
theorem dX8_save_24 : decode cX8_save 24 = .ok (.goto (-22), 3) := by decide +kernel
theorem dX8_save_27 : decode cX8_save 27 = .ok (.aload_n 0, 1) := by decide +kernel
theorem dX8_save_28 : decode cX8_save 28 = .ok (.iconst 1, 1) := by decide +kernel
theorem dX8_save_29 : decode cX8_save 29 = .ok (.putfield 291, 3) := by decide +kernel
theorem dX8_save_32 : decode cX8_save 32 = .ok (.aload_n 0, 1) := by decide +kernel
theorem dX8_save_33 : decode cX8_save 33 = .ok (.getfield 32, 3) := by decide +kernel
theorem dX8_save_36 : decode cX8_save 36 = .ok (.iconst 0, 1) := by decide +kernel
theorem dX8_save_37 : decode cX8_save 37 = .ok (.iaload, 1) := by decide +kernel
theorem dX8_save_38 : decode cX8_save 38 = .ok (.ireturn, 1) := by decide +kernel
theorem dX8_restore_0 : decode cX8_restore 0 = .ok (.aload_n 0, 1) := by decide +kernel
theorem dX8_restore_1 : decode cX8_restore 1 = .ok (.getfield 291, 3) := by decide +kernel
theorem dX8_restore_4 : decode cX8_restore 4 = .ok (.ifCond .ne 6, 3) := by decide +kernel
theorem dX8_restore_7 : decode cX8_restore 7 = .ok (.bipush (-3), 2) := by decide +kernel
theorem dX8_restore_9 : decode cX8_restore 9 = .ok (.ireturn, 1) := by decide +kernel
theorem dX8_restore_10 : decode cX8_restore 10 = .ok (.iconst 0, 1) := by decide +kernel
theorem dX8_restore_11 : decode cX8_restore 11 = .ok (.istore_n 1, 1) := by decide +kernel
theorem dX8_restore_12 : decode cX8_restore 12 = .ok (.iload_n 1, 1) := by decide +kernel
theorem dX8_restore_13 : decode cX8_restore 13 = .ok (.sipush 274, 3) := by decide +kernel
theorem dX8_restore_16 : decode cX8_restore 16 = .ok (.if_icmp .ge 21, 3) := by decide +kernel
theorem dX8_restore_19 : decode cX8_restore 19 = .ok (.aload_n 0, 1) := by decide +kernel
theorem dX8_restore_20 : decode cX8_restore 20 = .ok (.getfield 32, 3) := by decide +kernel
theorem dX8_restore_23 : decode cX8_restore 23 = .ok (.iload_n 1, 1) := by decide +kernel
theorem dX8_restore_24 : decode cX8_restore 24 = .ok (.aload_n 0, 1) := by decide +kernel
theorem dX8_restore_25 : decode cX8_restore 25 = .ok (.getfield 39, 3) := by decide +kernel
theorem dX8_restore_28 : decode cX8_restore 28 = .ok (.iload_n 1, 1) := by decide +kernel
theorem dX8_restore_29 : decode cX8_restore 29 = .ok (.iaload, 1) := by decide +kernel
theorem dX8_restore_30 : decode cX8_restore 30 = .ok (.iastore, 1) := by decide +kernel
theorem dX8_restore_31 : decode cX8_restore 31 = .ok (.iinc 1 1, 3) := by decide +kernel
theorem dX8_restore_34 : decode cX8_restore 34 = .ok (.goto (-22), 3) := by decide +kernel
theorem dX8_restore_37 : decode cX8_restore 37 = .ok (.aload_n 0, 1) := by decide +kernel
theorem dX8_restore_38 : decode cX8_restore 38 = .ok (.iconst 0, 1) := by decide +kernel
theorem dX8_restore_39 : decode cX8_restore 39 = .ok (.putfield 61, 3) := by decide +kernel
theorem dX8_restore_42 : decode cX8_restore 42 = .ok (.aload_n 0, 1) := by decide +kernel
theorem dX8_restore_43 : decode cX8_restore 43 = .ok (.iconst 0, 1) := by decide +kernel
theorem dX8_restore_44 : decode cX8_restore 44 = .ok (.putfield 64, 3) := by decide +kernel
theorem dX8_restore_47 : decode cX8_restore 47 = .ok (.aload_n 0, 1) := by decide +kernel
theorem dX8_restore_48 : decode cX8_restore 48 = .ok (.getfield 32, 3) := by decide +kernel
theorem dX8_restore_51 : decode cX8_restore 51 = .ok (.iconst 0, 1) := by decide +kernel
theorem dX8_restore_52 : decode cX8_restore 52 = .ok (.iaload, 1) := by decide +kernel
theorem dX8_restore_53 : decode cX8_restore 53 = .ok (.ireturn, 1) := by decide +kernel
end
section
theorem dX0_init_0 : decode cX0_init 0 = .ok (.aload_n 0, 1) := by decide +kernel
theorem dX0_init_1 : decode cX0_init 1 = .ok (.invokespecial 3, 3) := by decide +kernel
theorem dX0_init_4 : decode cX0_init 4 = .ok (.aload_n 0, 1) := by decide +kernel
theorem dX0_init_5 : decode cX0_init 5 = .ok (.bipush 9, 2) := by decide +kernel
theorem dX0_init_7 : decode cX0_init 7 = .ok (.anewarray 9, 3) := by decide +kernel
theorem dX0_init_10 : decode cX0_init 10 = .ok (.putfield 11, 3) := by decide +kernel
theorem dX0_init_13 : decode cX0_init 13 = .ok (.aload_n 0, 1) := by decide +kernel
theorem dX0_init_14 : decode cX0_init 14 = .ok (.iconst 0, 1) := by decide +kernel
theorem dX0_init_15 : decode cX0_init 15 = .ok (.putfield 17, 3) := by decide +kernel
theorem dX0_init_18 : decode cX0_init 18 = .ok (.aload_n 0, 1) := by decide +kernel
theorem dX0_init_19 : decode cX0_init 19 = .ok (.iconst 0, 1) := by decide +kernel
theorem dX0_init_20 : decode cX0_init 20 = .ok (.putfield 21, 3) := by decide +kernel
theorem dX0_init_23 : decode cX0_init 23 = .ok (.iconst 0, 1) := by decide +kernel
theorem dX0_init_24 : decode cX0_init 24 = .ok (.istore_n 1, 1) := by decide +kernel
theorem dX0_init_25 : decode cX0_init 25 = .ok (.iload_n 1, 1) := by decide +kernel
theorem dX0_init_26 : decode cX0_init 26 = .ok (.aload_n 0, 1) := by decide +kernel
theorem dX0_init_27 : decode cX0_init 27 = .ok (.getfield 11, 3) := by decide +kernel
theorem dX0_init_30 : decode cX0_init 30 = .ok (.arraylength, 1) := by decide +kernel
theorem dX0_init_31 : decode cX0_init 31 = .ok (.if_icmp .ge 22, 3) := by decide +kernel
theorem dX0_init_34 : decode cX0_init 34 = .ok (.aload_n 0, 1) := by decide +kernel
theorem dX0_init_35 : decode cX0_init 35 = .ok (.getfield 11, 3) := by decide +kernel
theorem dX0_init_38 : decode cX0_init 38 = .ok (.iload_n 1, 1) := by decide +kernel
theorem dX0_init_39 : decode cX0_init 39 = .ok (.new 9, 3) := by decide +kernel
theorem dX0_init_42 : decode cX0_init 42 = .ok (.dup, 1) := by decide +kernel
theorem dX0_init_43 : decode cX0_init 43 = .ok (.invokespecial 24, 3) := by decide +kernel
theorem dX0_init_46 : decode cX0_init 46 = .ok (.aastore, 1) := by decide +kernel
theorem dX0_init_47 : decode cX0_init 47 = .ok (.iinc 1 1, 3) := by decide +kernel
theorem dX0_init_50 : decode cX0_init 50 = .ok (.goto (-25), 3) := by decide +kernel
theorem dX0_init_53 : decode cX0_init 53 = .ok (.return_, 1) := by decide +kernel
theorem dX0_prepare_0 : decode cX0_prepare 0 = .ok (.aload_n 1, 1) := by decide +kernel
theorem dX0_prepare_1 : decode cX0_prepare 1 = .ok (.aload_n 0, 1) := by decide +kernel
theorem dX0_prepare_2 : decode cX0_prepare 2 = .ok (.invokevirtual 25, 3) := by decide +kernel
theorem dX0_prepare_5 : decode cX0_prepare 5 = .ok (.invokestatic 29, 3) := by decide +kernel
theorem dX0_prepare_8 : decode cX0_prepare 8 = .ok (.return_, 1) := by decide +kernel
theorem dX0_keep_0 : decode cX0_keep 0 = .ok (.aload_n 0, 1) := by decide +kernel
theorem dX0_keep_1 : decode cX0_keep 1 = .ok (.aload_n 0, 1) := by decide +kernel
theorem dX0_keep_2 : decode cX0_keep 2 = .ok (.getfield 17, 3) := by decide +kernel
theorem dX0_keep_5 : decode cX0_keep 5 = .ok (.bipush 8, 2) := by decide +kernel
theorem dX0_keep_7 : decode cX0_keep 7 = .ok (.if_icmp .ge 12, 3) := by decide +kernel
theorem dX0_keep_10 : decode cX0_keep 10 = .ok (.aload_n 0, 1) := by decide +kernel
theorem dX0_keep_11 : decode cX0_keep 11 = .ok (.getfield 17, 3) := by decide +kernel
theorem dX0_keep_14 : decode cX0_keep 14 = .ok (.iconst 1, 1) := by decide +kernel
theorem dX0_keep_15 : decode cX0_keep 15 = .ok (.iadd, 1) := by decide +kernel
theorem dX0_keep_16 : decode cX0_keep 16 = .ok (.goto 4, 3) := by decide +kernel
theorem dX0_keep_19 : decode cX0_keep 19 = .ok (.iconst 0, 1) := by decide +kernel
theorem dX0_keep_20 : decode cX0_keep 20 = .ok (.putfield 17, 3) := by decide +kernel
theorem dX0_keep_23 : decode cX0_keep 23 = .ok (.aload_n 0, 1) := by decide +kernel
theorem dX0_keep_24 : decode cX0_keep 24 = .ok (.bipush 8, 2) := by decide +kernel
theorem dX0_keep_26 : decode cX0_keep 26 = .ok (.aload_n 0, 1) := by decide +kernel
theorem dX0_keep_27 : decode cX0_keep 27 = .ok (.getfield 21, 3) := by decide +kernel
theorem dX0_keep_30 : decode cX0_keep 30 = .ok (.iconst 1, 1) := by decide +kernel
theorem dX0_keep_31 : decode cX0_keep 31 = .ok (.iadd, 1) := by decide +kernel
theorem dX0_keep_32 : decode cX0_keep 32 = .ok (.invokestatic 33, 3) := by decide +kernel
theorem dX0_keep_35 : decode cX0_keep 35 = .ok (.putfield 21, 3) := by decide +kernel
theorem dX0_keep_38 : decode cX0_keep 38 = .ok (.return_, 1) := by decide +kernel
theorem dX0_dismiss_0 : decode cX0_dismiss 0 = .ok (.aload_n 0, 1) := by decide +kernel
theorem dX0_dismiss_1 : decode cX0_dismiss 1 = .ok (.invokevirtual 25, 3) := by decide +kernel
theorem dX0_dismiss_4 : decode cX0_dismiss 4 = .ok (.aload_n 1, 1) := by decide +kernel
theorem dX0_dismiss_5 : decode cX0_dismiss 5 = .ok (.invokestatic 29, 3) := by decide +kernel
theorem dX0_dismiss_8 : decode cX0_dismiss 8 = .ok (.return_, 1) := by decide +kernel
theorem dX0_takeBack_0 : decode cX0_takeBack 0 = .ok (.aload_n 0, 1) := by decide +kernel
theorem dX0_takeBack_1 : decode cX0_takeBack 1 = .ok (.getfield 21, 3) := by decide +kernel
theorem dX0_takeBack_4 : decode cX0_takeBack 4 = .ok (.ifCond .le 43, 3) := by decide +kernel
theorem dX0_takeBack_7 : decode cX0_takeBack 7 = .ok (.aload_n 0, 1) := by decide +kernel
theorem dX0_takeBack_8 : decode cX0_takeBack 8 = .ok (.aload_n 0, 1) := by decide +kernel
theorem dX0_takeBack_9 : decode cX0_takeBack 9 = .ok (.getfield 17, 3) := by decide +kernel
theorem dX0_takeBack_12 : decode cX0_takeBack 12 = .ok (.ifCond .le 12, 3) := by decide +kernel
theorem dX0_takeBack_15 : decode cX0_takeBack 15 = .ok (.aload_n 0, 1) := by decide +kernel
theorem dX0_takeBack_16 : decode cX0_takeBack 16 = .ok (.getfield 17, 3) := by decide +kernel
theorem dX0_takeBack_19 : decode cX0_takeBack 19 = .ok (.iconst 1, 1) := by decide +kernel
theorem dX0_takeBack_20 : decode cX0_takeBack 20 = .ok (.isub, 1) := by decide +kernel
theorem dX0_takeBack_21 : decode cX0_takeBack 21 = .ok (.goto 5, 3) := by decide +kernel
theorem dX0_takeBack_24 : decode cX0_takeBack 24 = .ok (.bipush 8, 2) := by decide +kernel
theorem dX0_takeBack_26 : decode cX0_takeBack 26 = .ok (.putfield 17, 3) := by decide +kernel
theorem dX0_takeBack_29 : decode cX0_takeBack 29 = .ok (.aload_n 0, 1) := by decide +kernel
theorem dX0_takeBack_30 : decode cX0_takeBack 30 = .ok (.dup, 1) := by decide +kernel
theorem dX0_takeBack_31 : decode cX0_takeBack 31 = .ok (.getfield 21, 3) := by decide +kernel
theorem dX0_takeBack_34 : decode cX0_takeBack 34 = .ok (.iconst 1, 1) := by decide +kernel
theorem dX0_takeBack_35 : decode cX0_takeBack 35 = .ok (.isub, 1) := by decide +kernel
theorem dX0_takeBack_36 : decode cX0_takeBack 36 = .ok (.putfield 21, 3) := by decide +kernel
theorem dX0_takeBack_39 : decode cX0_takeBack 39 = .ok (.aload_n 0, 1) := by decide +kernel
theorem dX0_takeBack_40 : decode cX0_takeBack 40 = .ok (.invokevirtual 25, 3) := by decide +kernel
theorem dX0_takeBack_43 : decode cX0_takeBack 43 = .ok (.aload_n 1, 1) := by decide +kernel
theorem dX0_takeBack_44 : decode cX0_takeBack 44 = .ok (.invokestatic 29, 3) := by decide +kernel
theorem dX0_takeBack_47 : decode cX0_takeBack 47 = .ok (.return_, 1) := by decide +kernel
theorem dX0_forget_0 : decode cX0_forget 0 = .ok (.aload_n 0, 1) := by decide +kernel
theorem dX0_forget_1 : decode cX0_forget 1 = .ok (.iconst 0, 1) := by decide +kernel
theorem dX0_forget_2 : decode cX0_forget 2 = .ok (.putfield 21, 3) := by decide +kernel
theorem dX0_forget_5 : decode cX0_forget 5 = .ok (.return_, 1) := by decide +kernel
theorem dX0_slot_0 : decode cX0_slot 0 = .ok (.aload_n 0, 1) := by decide +kernel
theorem dX0_slot_1 : decode cX0_slot 1 = .ok (.getfield 17, 3) := by decide +kernel
theorem dX0_slot_4 : decode cX0_slot 4 = .ok (.ifCond .lt 27, 3) := by decide +kernel
theorem dX0_slot_7 : decode cX0_slot 7 = .ok (.aload_n 0, 1) := by decide +kernel
theorem dX0_slot_8 : decode cX0_slot 8 = .ok (.getfield 17, 3) := by decide +kernel
theorem dX0_slot_11 : decode cX0_slot 11 = .ok (.aload_n 0, 1) := by decide +kernel
theorem dX0_slot_12 : decode cX0_slot 12 = .ok (.getfield 11, 3) := by decide +kernel
theorem dX0_slot_15 : decode cX0_slot 15 = .ok (.arraylength, 1) := by decide +kernel
theorem dX0_slot_16 : decode cX0_slot 16 = .ok (.if_icmp .ge 15, 3) := by decide +kernel
theorem dX0_slot_19 : decode cX0_slot 19 = .ok (.aload_n 0, 1) := by decide +kernel
theorem dX0_slot_20 : decode cX0_slot 20 = .ok (.getfield 11, 3) := by decide +kernel
theorem dX0_slot_23 : decode cX0_slot 23 = .ok (.aload_n 0, 1) := by decide +kernel
theorem dX0_slot_24 : decode cX0_slot 24 = .ok (.getfield 17, 3) := by decide +kernel
theorem dX0_slot_27 : decode cX0_slot 27 = .ok (.aaload, 1) := by decide +kernel
theorem dX0_slot_28 : decode cX0_slot 28 = .ok (.goto 4, 3) := by decide +kernel
theorem dX0_slot_31 : decode cX0_slot 31 = .ok (.aconst_null, 1) := by decide +kernel
theorem dX0_slot_32 : decode cX0_slot 32 = .ok (.areturn, 1) := by decide +kernel
theorem dX1_init_0 : decode cX1_init 0 = .ok (.aload_n 0, 1) := by decide +kernel
theorem dX1_init_1 : decode cX1_init 1 = .ok (.invokespecial 3, 3) := by decide +kernel
theorem dX1_init_4 : decode cX1_init 4 = .ok (.aload_n 0, 1) := by decide +kernel
theorem dX1_init_5 : decode cX1_init 5 = .ok (.iconst 0, 1) := by decide +kernel
theorem dX1_init_6 : decode cX1_init 6 = .ok (.putfield 9, 3) := by decide +kernel
theorem dX1_init_9 : decode cX1_init 9 = .ok (.aload_n 0, 1) := by decide +kernel
theorem dX1_init_10 : decode cX1_init 10 = .ok (.new 15, 3) := by decide +kernel
theorem dX1_init_13 : decode cX1_init 13 = .ok (.dup, 1) := by decide +kernel
theorem dX1_init_14 : decode cX1_init 14 = .ok (.bipush 12, 2) := by decide +kernel
theorem dX1_init_16 : decode cX1_init 16 = .ok (.invokespecial 17, 3) := by decide +kernel
theorem dX1_init_19 : decode cX1_init 19 = .ok (.putfield 20, 3) := by decide +kernel
theorem dX1_init_22 : decode cX1_init 22 = .ok (.aload_n 0, 1) := by decide +kernel
theorem dX1_init_23 : decode cX1_init 23 = .ok (.new 15, 3) := by decide +kernel
theorem dX1_init_26 : decode cX1_init 26 = .ok (.dup, 1) := by decide +kernel
theorem dX1_init_27 : decode cX1_init 27 = .ok (.bipush 12, 2) := by decide +kernel
theorem dX1_init_29 : decode cX1_init 29 = .ok (.invokespecial 17, 3) := by decide +kernel
theorem dX1_init_32 : decode cX1_init 32 = .ok (.putfield 24, 3) := by decide +kernel
theorem dX1_init_35 : decode cX1_init 35 = .ok (.aload_n 0, 1) := by decide +kernel
theorem dX1_init_36 : decode cX1_init 36 = .ok (.new 15, 3) := by decide +kernel
theorem dX1_init_39 : decode cX1_init 39 = .ok (.dup, 1) := by decide +kernel
theorem dX1_init_40 : decode cX1_init 40 = .ok (.bipush 12, 2) := by decide +kernel
theorem dX1_init_42 : decode cX1_init 42 = .ok (.invokespecial 17, 3) := by decide +kernel
theorem dX1_init_45 : decode cX1_init 45 = .ok (.putfield 27, 3) := by decide +kernel
theorem dX1_init_48 : decode cX1_init 48 = .ok (.aload_n 0, 1) := by decide +kernel
theorem dX1_init_49 : decode cX1_init 49 = .ok (.new 15, 3) := by decide +kernel
theorem dX1_init_52 : decode cX1_init 52 = .ok (.dup, 1) := by decide +kernel
theorem dX1_init_53 : decode cX1_init 53 = .ok (.bipush 12, 2) := by decide +kernel
theorem dX1_init_55 : decode cX1_init 55 = .ok (.invokespecial 17, 3) := by decide +kernel
theorem dX1_init_58 : decode cX1_init 58 = .ok (.putfield 30, 3) := by decide +kernel
theorem dX1_init_61 : decode cX1_init 61 = .ok (.aload_n 0, 1) := by decide +kernel
theorem dX1_init_62 : decode cX1_init 62 = .ok (.new 15, 3) := by decide +kernel
theorem dX1_init_65 : decode cX1_init 65 = .ok (.dup, 1) := by decide +kernel
theorem dX1_init_66 : decode cX1_init 66 = .ok (.bipush 12, 2) := by decide +kernel
theorem dX1_init_68 : decode cX1_init 68 = .ok (.invokespecial 17, 3) := by decide +kernel
theorem dX1_init_71 : decode cX1_init 71 = .ok (.putfield 33, 3) := by decide +kernel
theorem dX1_init_74 : decode cX1_init 74 = .ok (.return_, 1) := by decide +kernel
theorem dX1_has_0 : decode cX1_has 0 = .ok (.iload_n 1, 1) := by decide +kernel
theorem dX1_has_1 : decode cX1_has 1 = .ok (.ifCond .lt 15, 3) := by decide +kernel
theorem dX1_has_4 : decode cX1_has 4 = .ok (.iload_n 1, 1) := by decide +kernel
theorem dX1_has_5 : decode cX1_has 5 = .ok (.aload_n 0, 1) := by decide +kernel
theorem dX1_has_6 : decode cX1_has 6 = .ok (.getfield 9, 3) := by decide +kernel
theorem dX1_has_9 : decode cX1_has 9 = .ok (.if_icmp .ge 7, 3) := by decide +kernel
theorem dX1_has_12 : decode cX1_has 12 = .ok (.iconst 1, 1) := by decide +kernel
theorem dX1_has_13 : decode cX1_has 13 = .ok (.goto 4, 3) := by decide +kernel
theorem dX1_has_16 : decode cX1_has 16 = .ok (.iconst 0, 1) := by decide +kernel
theorem dX1_has_17 : decode cX1_has 17 = .ok (.ireturn, 1) := by decide +kernel
theorem dX1_add_0 : decode cX1_add 0 = .ok (.aload_n 0, 1) := by decide +kernel
theorem dX1_add_1 : decode cX1_add 1 = .ok (.getfield 9, 3) := by decide +kernel
theorem dX1_add_4 : decode cX1_add 4 = .ok (.bipush 12, 2) := by decide +kernel
theorem dX1_add_6 : decode cX1_add 6 = .ok (.if_icmp .ge 74, 3) := by decide +kernel
theorem dX1_add_9 : decode cX1_add 9 = .ok (.aload_n 0, 1) := by decide +kernel
theorem dX1_add_10 : decode cX1_add 10 = .ok (.getfield 20, 3) := by decide +kernel
theorem dX1_add_13 : decode cX1_add 13 = .ok (.aload_n 0, 1) := by decide +kernel
theorem dX1_add_14 : decode cX1_add 14 = .ok (.getfield 9, 3) := by decide +kernel
theorem dX1_add_17 : decode cX1_add 17 = .ok (.iload_n 1, 1) := by decide +kernel
theorem dX1_add_18 : decode cX1_add 18 = .ok (.invokevirtual 36, 3) := by decide +kernel
theorem dX1_add_21 : decode cX1_add 21 = .ok (.aload_n 0, 1) := by decide +kernel
theorem dX1_add_22 : decode cX1_add 22 = .ok (.getfield 24, 3) := by decide +kernel
theorem dX1_add_25 : decode cX1_add 25 = .ok (.aload_n 0, 1) := by decide +kernel
theorem dX1_add_26 : decode cX1_add 26 = .ok (.getfield 9, 3) := by decide +kernel
theorem dX1_add_29 : decode cX1_add 29 = .ok (.iload_n 2, 1) := by decide +kernel
theorem dX1_add_30 : decode cX1_add 30 = .ok (.invokevirtual 36, 3) := by decide +kernel
theorem dX1_add_33 : decode cX1_add 33 = .ok (.aload_n 0, 1) := by decide +kernel
theorem dX1_add_34 : decode cX1_add 34 = .ok (.getfield 27, 3) := by decide +kernel
theorem dX1_add_37 : decode cX1_add 37 = .ok (.aload_n 0, 1) := by decide +kernel
theorem dX1_add_38 : decode cX1_add 38 = .ok (.getfield 9, 3) := by decide +kernel
theorem dX1_add_41 : decode cX1_add 41 = .ok (.iload_n 3, 1) := by decide +kernel
theorem dX1_add_42 : decode cX1_add 42 = .ok (.invokevirtual 36, 3) := by decide +kernel
theorem dX1_add_45 : decode cX1_add 45 = .ok (.aload_n 0, 1) := by decide +kernel
theorem dX1_add_46 : decode cX1_add 46 = .ok (.getfield 30, 3) := by decide +kernel
theorem dX1_add_49 : decode cX1_add 49 = .ok (.aload_n 0, 1) := by decide +kernel
theorem dX1_add_50 : decode cX1_add 50 = .ok (.getfield 9, 3) := by decide +kernel
theorem dX1_add_53 : decode cX1_add 53 = .ok (.iload 4, 2) := by decide +kernel
theorem dX1_add_55 : decode cX1_add 55 = .ok (.invokevirtual 36, 3) := by decide +kernel
theorem dX1_add_58 : decode cX1_add 58 = .ok (.aload_n 0, 1) := by decide +kernel
theorem dX1_add_59 : decode cX1_add 59 = .ok (.getfield 33, 3) := by decide +kernel
theorem dX1_add_62 : decode cX1_add 62 = .ok (.aload_n 0, 1) := by decide +kernel
theorem dX1_add_63 : decode cX1_add 63 = .ok (.getfield 9, 3) := by decide +kernel
theorem dX1_add_66 : decode cX1_add 66 = .ok (.iconst 0, 1) := by decide +kernel
theorem dX1_add_67 : decode cX1_add 67 = .ok (.invokevirtual 36, 3) := by decide +kernel
theorem dX1_add_70 : decode cX1_add 70 = .ok (.aload_n 0, 1) := by decide +kernel
theorem dX1_add_71 : decode cX1_add 71 = .ok (.dup, 1) := by decide +kernel
theorem dX1_add_72 : decode cX1_add 72 = .ok (.getfield 9, 3) := by decide +kernel
theorem dX1_add_75 : decode cX1_add 75 = .ok (.iconst 1, 1) := by decide +kernel
theorem dX1_add_76 : decode cX1_add 76 = .ok (.iadd, 1) := by decide +kernel
theorem dX1_add_77 : decode cX1_add 77 = .ok (.putfield 9, 3) := by decide +kernel
theorem dX1_add_80 : decode cX1_add 80 = .ok (.return_, 1) := by decide +kernel
theorem dX1_remove_0 : decode cX1_remove 0 = .ok (.aload_n 0, 1) := by decide +kernel
theorem dX1_remove_1 : decode cX1_remove 1 = .ok (.iload_n 1, 1) := by decide +kernel
theorem dX1_remove_2 : decode cX1_remove 2 = .ok (.invokevirtual 40, 3) := by decide +kernel
theorem dX1_remove_5 : decode cX1_remove 5 = .ok (.ifCond .eq 53, 3) := by decide +kernel
theorem dX1_remove_8 : decode cX1_remove 8 = .ok (.aload_n 0, 1) := by decide +kernel
theorem dX1_remove_9 : decode cX1_remove 9 = .ok (.getfield 20, 3) := by decide +kernel
theorem dX1_remove_12 : decode cX1_remove 12 = .ok (.iload_n 1, 1) := by decide +kernel
theorem dX1_remove_13 : decode cX1_remove 13 = .ok (.invokevirtual 44, 3) := by decide +kernel
theorem dX1_remove_16 : decode cX1_remove 16 = .ok (.aload_n 0, 1) := by decide +kernel
theorem dX1_remove_17 : decode cX1_remove 17 = .ok (.getfield 24, 3) := by decide +kernel
theorem dX1_remove_20 : decode cX1_remove 20 = .ok (.iload_n 1, 1) := by decide +kernel
theorem dX1_remove_21 : decode cX1_remove 21 = .ok (.invokevirtual 44, 3) := by decide +kernel
theorem dX1_remove_24 : decode cX1_remove 24 = .ok (.aload_n 0, 1) := by decide +kernel
theorem dX1_remove_25 : decode cX1_remove 25 = .ok (.getfield 27, 3) := by decide +kernel
theorem dX1_remove_28 : decode cX1_remove 28 = .ok (.iload_n 1, 1) := by decide +kernel
theorem dX1_remove_29 : decode cX1_remove 29 = .ok (.invokevirtual 44, 3) := by decide +kernel
theorem dX1_remove_32 : decode cX1_remove 32 = .ok (.aload_n 0, 1) := by decide +kernel
theorem dX1_remove_33 : decode cX1_remove 33 = .ok (.getfield 30, 3) := by decide +kernel
theorem dX1_remove_36 : decode cX1_remove 36 = .ok (.iload_n 1, 1) := by decide +kernel
theorem dX1_remove_37 : decode cX1_remove 37 = .ok (.invokevirtual 44, 3) := by decide +kernel
theorem dX1_remove_40 : decode cX1_remove 40 = .ok (.aload_n 0, 1) := by decide +kernel
theorem dX1_remove_41 : decode cX1_remove 41 = .ok (.getfield 33, 3) := by decide +kernel
theorem dX1_remove_44 : decode cX1_remove 44 = .ok (.iload_n 1, 1) := by decide +kernel
theorem dX1_remove_45 : decode cX1_remove 45 = .ok (.invokevirtual 44, 3) := by decide +kernel
theorem dX1_remove_48 : decode cX1_remove 48 = .ok (.aload_n 0, 1) := by decide +kernel
theorem dX1_remove_49 : decode cX1_remove 49 = .ok (.dup, 1) := by decide +kernel
theorem dX1_remove_50 : decode cX1_remove 50 = .ok (.getfield 9, 3) := by decide +kernel
theorem dX1_remove_53 : decode cX1_remove 53 = .ok (.iconst 1, 1) := by decide +kernel
theorem dX1_remove_54 : decode cX1_remove 54 = .ok (.isub, 1) := by decide +kernel
theorem dX1_remove_55 : decode cX1_remove 55 = .ok (.putfield 9, 3) := by decide +kernel
theorem dX1_remove_58 : decode cX1_remove 58 = .ok (.return_, 1) := by decide +kernel
theorem dX1_withSign_0 : decode cX1_withSign 0 = .ok (.iconst 0, 1) := by decide +kernel
theorem dX1_withSign_1 : decode cX1_withSign 1 = .ok (.istore_n 2, 1) := by decide +kernel
theorem dX1_withSign_2 : decode cX1_withSign 2 = .ok (.iload_n 2, 1) := by decide +kernel
theorem dX1_withSign_3 : decode cX1_withSign 3 = .ok (.aload_n 0, 1) := by decide +kernel
theorem dX1_withSign_4 : decode cX1_withSign 4 = .ok (.getfield 9, 3) := by decide +kernel
theorem dX1_withSign_7 : decode cX1_withSign 7 = .ok (.if_icmp .ge 23, 3) := by decide +kernel
theorem dX1_withSign_10 : decode cX1_withSign 10 = .ok (.aload_n 0, 1) := by decide +kernel
theorem dX1_withSign_11 : decode cX1_withSign 11 = .ok (.getfield 27, 3) := by decide +kernel
theorem dX1_withSign_14 : decode cX1_withSign 14 = .ok (.iload_n 2, 1) := by decide +kernel
theorem dX1_withSign_15 : decode cX1_withSign 15 = .ok (.invokevirtual 47, 3) := by decide +kernel
theorem dX1_withSign_18 : decode cX1_withSign 18 = .ok (.iload_n 1, 1) := by decide +kernel
theorem dX1_withSign_19 : decode cX1_withSign 19 = .ok (.if_icmp .ne 5, 3) := by decide +kernel
theorem dX1_withSign_22 : decode cX1_withSign 22 = .ok (.iload_n 2, 1) := by decide +kernel
theorem dX1_withSign_23 : decode cX1_withSign 23 = .ok (.ireturn, 1) := by decide +kernel
theorem dX1_withSign_24 : decode cX1_withSign 24 = .ok (.iinc 2 1, 3) := by decide +kernel
theorem dX1_withSign_27 : decode cX1_withSign 27 = .ok (.goto (-25), 3) := by decide +kernel
theorem dX1_withSign_30 : decode cX1_withSign 30 = .ok (.iconst (-1), 1) := by decide +kernel
theorem dX1_withSign_31 : decode cX1_withSign 31 = .ok (.ireturn, 1) := by decide +kernel
theorem dX1_atDepth_0 : decode cX1_atDepth 0 = .ok (.iconst 0, 1) := by decide +kernel
theorem dX1_atDepth_1 : decode cX1_atDepth 1 = .ok (.istore_n 3, 1) := by decide +kernel
theorem dX1_atDepth_2 : decode cX1_atDepth 2 = .ok (.iload_n 3, 1) := by decide +kernel
theorem dX1_atDepth_3 : decode cX1_atDepth 3 = .ok (.aload_n 0, 1) := by decide +kernel
theorem dX1_atDepth_4 : decode cX1_atDepth 4 = .ok (.getfield 9, 3) := by decide +kernel
theorem dX1_atDepth_7 : decode cX1_atDepth 7 = .ok (.if_icmp .ge 35, 3) := by decide +kernel
theorem dX1_atDepth_10 : decode cX1_atDepth 10 = .ok (.aload_n 0, 1) := by decide +kernel
theorem dX1_atDepth_11 : decode cX1_atDepth 11 = .ok (.getfield 20, 3) := by decide +kernel
theorem dX1_atDepth_14 : decode cX1_atDepth 14 = .ok (.iload_n 3, 1) := by decide +kernel
theorem dX1_atDepth_15 : decode cX1_atDepth 15 = .ok (.invokevirtual 47, 3) := by decide +kernel
theorem dX1_atDepth_18 : decode cX1_atDepth 18 = .ok (.iload_n 1, 1) := by decide +kernel
theorem dX1_atDepth_19 : decode cX1_atDepth 19 = .ok (.if_icmp .ne 17, 3) := by decide +kernel
theorem dX1_atDepth_22 : decode cX1_atDepth 22 = .ok (.aload_n 0, 1) := by decide +kernel
theorem dX1_atDepth_23 : decode cX1_atDepth 23 = .ok (.getfield 24, 3) := by decide +kernel
theorem dX1_atDepth_26 : decode cX1_atDepth 26 = .ok (.iload_n 3, 1) := by decide +kernel
theorem dX1_atDepth_27 : decode cX1_atDepth 27 = .ok (.invokevirtual 47, 3) := by decide +kernel
theorem dX1_atDepth_30 : decode cX1_atDepth 30 = .ok (.iload_n 2, 1) := by decide +kernel
theorem dX1_atDepth_31 : decode cX1_atDepth 31 = .ok (.if_icmp .ne 5, 3) := by decide +kernel
theorem dX1_atDepth_34 : decode cX1_atDepth 34 = .ok (.iload_n 3, 1) := by decide +kernel
theorem dX1_atDepth_35 : decode cX1_atDepth 35 = .ok (.ireturn, 1) := by decide +kernel
theorem dX1_atDepth_36 : decode cX1_atDepth 36 = .ok (.iinc 3 1, 3) := by decide +kernel
theorem dX1_atDepth_39 : decode cX1_atDepth 39 = .ok (.goto (-37), 3) := by decide +kernel
theorem dX1_atDepth_42 : decode cX1_atDepth 42 = .ok (.iconst (-1), 1) := by decide +kernel
theorem dX1_atDepth_43 : decode cX1_atDepth 43 = .ok (.ireturn, 1) := by decide +kernel
theorem dX1_countIn_0 : decode cX1_countIn 0 = .ok (.aload_n 0, 1) := by decide +kernel
theorem dX1_countIn_1 : decode cX1_countIn 1 = .ok (.iload_n 1, 1) := by decide +kernel
theorem dX1_countIn_2 : decode cX1_countIn 2 = .ok (.bipush 30, 2) := by decide +kernel
theorem dX1_countIn_4 : decode cX1_countIn 4 = .ok (.invokevirtual 51, 3) := by decide +kernel
theorem dX1_countIn_7 : decode cX1_countIn 7 = .ok (.ireturn, 1) := by decide +kernel
theorem dX1_countWithin_0 : decode cX1_countWithin 0 = .ok (.iconst 0, 1) := by decide +kernel
theorem dX1_countWithin_1 : decode cX1_countWithin 1 = .ok (.istore_n 3, 1) := by decide +kernel
theorem dX1_countWithin_2 : decode cX1_countWithin 2 = .ok (.iconst 0, 1) := by decide +kernel
theorem dX1_countWithin_3 : decode cX1_countWithin 3 = .ok (.istore 4, 2) := by decide +kernel
theorem dX1_countWithin_5 : decode cX1_countWithin 5 = .ok (.iload 4, 2) := by decide +kernel
theorem dX1_countWithin_7 : decode cX1_countWithin 7 = .ok (.aload_n 0, 1) := by decide +kernel
theorem dX1_countWithin_8 : decode cX1_countWithin 8 = .ok (.getfield 9, 3) := by decide +kernel
theorem dX1_countWithin_11 : decode cX1_countWithin 11 = .ok (.if_icmp .ge 38, 3) := by decide +kernel
theorem dX1_countWithin_14 : decode cX1_countWithin 14 = .ok (.aload_n 0, 1) := by decide +kernel
theorem dX1_countWithin_15 : decode cX1_countWithin 15 = .ok (.getfield 20, 3) := by decide +kernel
theorem dX1_countWithin_18 : decode cX1_countWithin 18 = .ok (.iload 4, 2) := by decide +kernel
theorem dX1_countWithin_20 : decode cX1_countWithin 20 = .ok (.invokevirtual 47, 3) := by decide +kernel
theorem dX1_countWithin_23 : decode cX1_countWithin 23 = .ok (.iload_n 1, 1) := by decide +kernel
theorem dX1_countWithin_24 : decode cX1_countWithin 24 = .ok (.if_icmp .ne 19, 3) := by decide +kernel
theorem dX1_countWithin_27 : decode cX1_countWithin 27 = .ok (.aload_n 0, 1) := by decide +kernel
theorem dX1_countWithin_28 : decode cX1_countWithin 28 = .ok (.getfield 24, 3) := by decide +kernel
theorem dX1_countWithin_31 : decode cX1_countWithin 31 = .ok (.iload 4, 2) := by decide +kernel
theorem dX1_countWithin_33 : decode cX1_countWithin 33 = .ok (.invokevirtual 47, 3) := by decide +kernel
theorem dX1_countWithin_36 : decode cX1_countWithin 36 = .ok (.iload_n 2, 1) := by decide +kernel
theorem dX1_countWithin_37 : decode cX1_countWithin 37 = .ok (.if_icmp .gt 6, 3) := by decide +kernel
theorem dX1_countWithin_40 : decode cX1_countWithin 40 = .ok (.iinc 3 1, 3) := by decide +kernel
theorem dX1_countWithin_43 : decode cX1_countWithin 43 = .ok (.iinc 4 1, 3) := by decide +kernel
theorem dX1_countWithin_46 : decode cX1_countWithin 46 = .ok (.goto (-41), 3) := by decide +kernel
theorem dX1_countWithin_49 : decode cX1_countWithin 49 = .ok (.iload_n 3, 1) := by decide +kernel
theorem dX1_countWithin_50 : decode cX1_countWithin 50 = .ok (.ireturn, 1) := by decide +kernel
theorem dX1_byDepth_0 : decode cX1_byDepth 0 = .ok (.iconst 0, 1) := by decide +kernel
theorem dX1_byDepth_1 : decode cX1_byDepth 1 = .ok (.istore_n 3, 1) := by decide +kernel
theorem dX1_byDepth_2 : decode cX1_byDepth 2 = .ok (.iload_n 3, 1) := by decide +kernel
theorem dX1_byDepth_3 : decode cX1_byDepth 3 = .ok (.aload_n 0, 1) := by decide +kernel
theorem dX1_byDepth_4 : decode cX1_byDepth 4 = .ok (.getfield 9, 3) := by decide +kernel
theorem dX1_byDepth_7 : decode cX1_byDepth 7 = .ok (.if_icmp .ge 42, 3) := by decide +kernel
theorem dX1_byDepth_10 : decode cX1_byDepth 10 = .ok (.aload_n 0, 1) := by decide +kernel
theorem dX1_byDepth_11 : decode cX1_byDepth 11 = .ok (.getfield 20, 3) := by decide +kernel
theorem dX1_byDepth_14 : decode cX1_byDepth 14 = .ok (.iload_n 3, 1) := by decide +kernel
theorem dX1_byDepth_15 : decode cX1_byDepth 15 = .ok (.invokevirtual 47, 3) := by decide +kernel
theorem dX1_byDepth_18 : decode cX1_byDepth 18 = .ok (.iload_n 1, 1) := by decide +kernel
theorem dX1_byDepth_19 : decode cX1_byDepth 19 = .ok (.if_icmp .ne 24, 3) := by decide +kernel
theorem dX1_byDepth_22 : decode cX1_byDepth 22 = .ok (.aload_n 0, 1) := by decide +kernel
theorem dX1_byDepth_23 : decode cX1_byDepth 23 = .ok (.iload_n 1, 1) := by decide +kernel
theorem dX1_byDepth_24 : decode cX1_byDepth 24 = .ok (.aload_n 0, 1) := by decide +kernel
theorem dX1_byDepth_25 : decode cX1_byDepth 25 = .ok (.getfield 24, 3) := by decide +kernel
theorem dX1_byDepth_28 : decode cX1_byDepth 28 = .ok (.iload_n 3, 1) := by decide +kernel
theorem dX1_byDepth_29 : decode cX1_byDepth 29 = .ok (.invokevirtual 47, 3) := by decide +kernel
theorem dX1_byDepth_32 : decode cX1_byDepth 32 = .ok (.iconst 1, 1) := by decide +kernel
theorem dX1_byDepth_33 : decode cX1_byDepth 33 = .ok (.isub, 1) := by decide +kernel
theorem dX1_byDepth_34 : decode cX1_byDepth 34 = .ok (.invokevirtual 51, 3) := by decide +kernel
theorem dX1_byDepth_37 : decode cX1_byDepth 37 = .ok (.iload_n 2, 1) := by decide +kernel
theorem dX1_byDepth_38 : decode cX1_byDepth 38 = .ok (.if_icmp .ne 5, 3) := by decide +kernel
theorem dX1_byDepth_41 : decode cX1_byDepth 41 = .ok (.iload_n 3, 1) := by decide +kernel
theorem dX1_byDepth_42 : decode cX1_byDepth 42 = .ok (.ireturn, 1) := by decide +kernel
theorem dX1_byDepth_43 : decode cX1_byDepth 43 = .ok (.iinc 3 1, 3) := by decide +kernel
theorem dX1_byDepth_46 : decode cX1_byDepth 46 = .ok (.goto (-44), 3) := by decide +kernel
theorem dX1_byDepth_49 : decode cX1_byDepth 49 = .ok (.iconst (-1), 1) := by decide +kernel
theorem dX1_byDepth_50 : decode cX1_byDepth 50 = .ok (.ireturn, 1) := by decide +kernel
theorem dX1_countPrimed_0 : decode cX1_countPrimed 0 = .ok (.iconst 0, 1) := by decide +kernel
theorem dX1_countPrimed_1 : decode cX1_countPrimed 1 = .ok (.istore_n 1, 1) := by decide +kernel
theorem dX1_countPrimed_2 : decode cX1_countPrimed 2 = .ok (.iconst 0, 1) := by decide +kernel
theorem dX1_countPrimed_3 : decode cX1_countPrimed 3 = .ok (.istore_n 2, 1) := by decide +kernel
theorem dX1_countPrimed_4 : decode cX1_countPrimed 4 = .ok (.iload_n 2, 1) := by decide +kernel
theorem dX1_countPrimed_5 : decode cX1_countPrimed 5 = .ok (.aload_n 0, 1) := by decide +kernel
theorem dX1_countPrimed_6 : decode cX1_countPrimed 6 = .ok (.getfield 9, 3) := by decide +kernel
theorem dX1_countPrimed_9 : decode cX1_countPrimed 9 = .ok (.if_icmp .ge 20, 3) := by decide +kernel
theorem dX1_countPrimed_12 : decode cX1_countPrimed 12 = .ok (.iload_n 1, 1) := by decide +kernel
theorem dX1_countPrimed_13 : decode cX1_countPrimed 13 = .ok (.aload_n 0, 1) := by decide +kernel
theorem dX1_countPrimed_14 : decode cX1_countPrimed 14 = .ok (.getfield 33, 3) := by decide +kernel
theorem dX1_countPrimed_17 : decode cX1_countPrimed 17 = .ok (.iload_n 2, 1) := by decide +kernel
theorem dX1_countPrimed_18 : decode cX1_countPrimed 18 = .ok (.invokevirtual 47, 3) := by decide +kernel
theorem dX1_countPrimed_21 : decode cX1_countPrimed 21 = .ok (.iadd, 1) := by decide +kernel
theorem dX1_countPrimed_22 : decode cX1_countPrimed 22 = .ok (.istore_n 1, 1) := by decide +kernel
theorem dX1_countPrimed_23 : decode cX1_countPrimed 23 = .ok (.iinc 2 1, 3) := by decide +kernel
theorem dX1_countPrimed_26 : decode cX1_countPrimed 26 = .ok (.goto (-22), 3) := by decide +kernel
theorem dX1_countPrimed_29 : decode cX1_countPrimed 29 = .ok (.iload_n 1, 1) := by decide +kernel
theorem dX1_countPrimed_30 : decode cX1_countPrimed 30 = .ok (.ireturn, 1) := by decide +kernel
theorem dX1_sumOfDepths_0 : decode cX1_sumOfDepths 0 = .ok (.iconst 0, 1) := by decide +kernel
theorem dX1_sumOfDepths_1 : decode cX1_sumOfDepths 1 = .ok (.istore_n 1, 1) := by decide +kernel
theorem dX1_sumOfDepths_2 : decode cX1_sumOfDepths 2 = .ok (.iconst 0, 1) := by decide +kernel
theorem dX1_sumOfDepths_3 : decode cX1_sumOfDepths 3 = .ok (.istore_n 2, 1) := by decide +kernel
theorem dX1_sumOfDepths_4 : decode cX1_sumOfDepths 4 = .ok (.iload_n 2, 1) := by decide +kernel
theorem dX1_sumOfDepths_5 : decode cX1_sumOfDepths 5 = .ok (.aload_n 0, 1) := by decide +kernel
theorem dX1_sumOfDepths_6 : decode cX1_sumOfDepths 6 = .ok (.getfield 9, 3) := by decide +kernel
theorem dX1_sumOfDepths_9 : decode cX1_sumOfDepths 9 = .ok (.if_icmp .ge 20, 3) := by decide +kernel
theorem dX1_sumOfDepths_12 : decode cX1_sumOfDepths 12 = .ok (.iload_n 1, 1) := by decide +kernel
theorem dX1_sumOfDepths_13 : decode cX1_sumOfDepths 13 = .ok (.aload_n 0, 1) := by decide +kernel
theorem dX1_sumOfDepths_14 : decode cX1_sumOfDepths 14 = .ok (.getfield 24, 3) := by decide +kernel
theorem dX1_sumOfDepths_17 : decode cX1_sumOfDepths 17 = .ok (.iload_n 2, 1) := by decide +kernel
theorem dX1_sumOfDepths_18 : decode cX1_sumOfDepths 18 = .ok (.invokevirtual 47, 3) := by decide +kernel
theorem dX1_sumOfDepths_21 : decode cX1_sumOfDepths 21 = .ok (.iadd, 1) := by decide +kernel
theorem dX1_sumOfDepths_22 : decode cX1_sumOfDepths 22 = .ok (.istore_n 1, 1) := by decide +kernel
theorem dX1_sumOfDepths_23 : decode cX1_sumOfDepths 23 = .ok (.iinc 2 1, 3) := by decide +kernel
theorem dX1_sumOfDepths_26 : decode cX1_sumOfDepths 26 = .ok (.goto (-22), 3) := by decide +kernel
theorem dX1_sumOfDepths_29 : decode cX1_sumOfDepths 29 = .ok (.iload_n 1, 1) := by decide +kernel
theorem dX1_sumOfDepths_30 : decode cX1_sumOfDepths 30 = .ok (.ireturn, 1) := by decide +kernel
theorem dX1_copy_0 : decode cX1_copy 0 = .ok (.aload_n 1, 1) := by decide +kernel
theorem dX1_copy_1 : decode cX1_copy 1 = .ok (.aload_n 0, 1) := by decide +kernel
theorem dX1_copy_2 : decode cX1_copy 2 = .ok (.getfield 9, 3) := by decide +kernel
theorem dX1_copy_5 : decode cX1_copy 5 = .ok (.putfield 9, 3) := by decide +kernel
theorem dX1_copy_8 : decode cX1_copy 8 = .ok (.aload_n 0, 1) := by decide +kernel
theorem dX1_copy_9 : decode cX1_copy 9 = .ok (.getfield 20, 3) := by decide +kernel
theorem dX1_copy_12 : decode cX1_copy 12 = .ok (.aload_n 1, 1) := by decide +kernel
theorem dX1_copy_13 : decode cX1_copy 13 = .ok (.getfield 20, 3) := by decide +kernel
theorem dX1_copy_16 : decode cX1_copy 16 = .ok (.invokestatic 55, 3) := by decide +kernel
theorem dX1_copy_19 : decode cX1_copy 19 = .ok (.aload_n 0, 1) := by decide +kernel
theorem dX1_copy_20 : decode cX1_copy 20 = .ok (.getfield 24, 3) := by decide +kernel
theorem dX1_copy_23 : decode cX1_copy 23 = .ok (.aload_n 1, 1) := by decide +kernel
theorem dX1_copy_24 : decode cX1_copy 24 = .ok (.getfield 24, 3) := by decide +kernel
theorem dX1_copy_27 : decode cX1_copy 27 = .ok (.invokestatic 55, 3) := by decide +kernel
theorem dX1_copy_30 : decode cX1_copy 30 = .ok (.aload_n 0, 1) := by decide +kernel
theorem dX1_copy_31 : decode cX1_copy 31 = .ok (.getfield 27, 3) := by decide +kernel
theorem dX1_copy_34 : decode cX1_copy 34 = .ok (.aload_n 1, 1) := by decide +kernel
theorem dX1_copy_35 : decode cX1_copy 35 = .ok (.getfield 27, 3) := by decide +kernel
theorem dX1_copy_38 : decode cX1_copy 38 = .ok (.invokestatic 55, 3) := by decide +kernel
theorem dX1_copy_41 : decode cX1_copy 41 = .ok (.aload_n 0, 1) := by decide +kernel
theorem dX1_copy_42 : decode cX1_copy 42 = .ok (.getfield 30, 3) := by decide +kernel
theorem dX1_copy_45 : decode cX1_copy 45 = .ok (.aload_n 1, 1) := by decide +kernel
theorem dX1_copy_46 : decode cX1_copy 46 = .ok (.getfield 30, 3) := by decide +kernel
theorem dX1_copy_49 : decode cX1_copy 49 = .ok (.invokestatic 55, 3) := by decide +kernel
theorem dX1_copy_52 : decode cX1_copy 52 = .ok (.aload_n 0, 1) := by decide +kernel
theorem dX1_copy_53 : decode cX1_copy 53 = .ok (.getfield 33, 3) := by decide +kernel
theorem dX1_copy_56 : decode cX1_copy 56 = .ok (.aload_n 1, 1) := by decide +kernel
theorem dX1_copy_57 : decode cX1_copy 57 = .ok (.getfield 33, 3) := by decide +kernel
theorem dX1_copy_60 : decode cX1_copy 60 = .ok (.invokestatic 55, 3) := by decide +kernel
theorem dX1_copy_63 : decode cX1_copy 63 = .ok (.return_, 1) := by decide +kernel
theorem dX2_init_0 : decode cX2_init 0 = .ok (.aload_n 0, 1) := by decide +kernel
theorem dX2_init_1 : decode cX2_init 1 = .ok (.invokespecial 3, 3) := by decide +kernel
theorem dX2_init_4 : decode cX2_init 4 = .ok (.aload_n 0, 1) := by decide +kernel
theorem dX2_init_5 : decode cX2_init 5 = .ok (.new 9, 3) := by decide +kernel
theorem dX2_init_8 : decode cX2_init 8 = .ok (.dup, 1) := by decide +kernel
theorem dX2_init_9 : decode cX2_init 9 = .ok (.bipush 12, 2) := by decide +kernel
theorem dX2_init_11 : decode cX2_init 11 = .ok (.invokespecial 11, 3) := by decide +kernel
theorem dX2_init_14 : decode cX2_init 14 = .ok (.putfield 14, 3) := by decide +kernel
theorem dX2_init_17 : decode cX2_init 17 = .ok (.aload_n 0, 1) := by decide +kernel
theorem dX2_init_18 : decode cX2_init 18 = .ok (.new 9, 3) := by decide +kernel
theorem dX2_init_21 : decode cX2_init 21 = .ok (.dup, 1) := by decide +kernel
theorem dX2_init_22 : decode cX2_init 22 = .ok (.bipush 48, 2) := by decide +kernel
theorem dX2_init_24 : decode cX2_init 24 = .ok (.invokespecial 11, 3) := by decide +kernel
theorem dX2_init_27 : decode cX2_init 27 = .ok (.putfield 20, 3) := by decide +kernel
theorem dX2_init_30 : decode cX2_init 30 = .ok (.aload_n 0, 1) := by decide +kernel
theorem dX2_init_31 : decode cX2_init 31 = .ok (.iconst 0, 1) := by decide +kernel
theorem dX2_init_32 : decode cX2_init 32 = .ok (.putfield 23, 3) := by decide +kernel
theorem dX2_init_35 : decode cX2_init 35 = .ok (.aload_n 0, 1) := by decide +kernel
theorem dX2_init_36 : decode cX2_init 36 = .ok (.iconst 0, 1) := by decide +kernel
theorem dX2_init_37 : decode cX2_init 37 = .ok (.putfield 27, 3) := by decide +kernel
theorem dX2_init_40 : decode cX2_init 40 = .ok (.return_, 1) := by decide +kernel
theorem dX2_isText_0 : decode cX2_isText 0 = .ok (.aload_n 0, 1) := by decide +kernel
theorem dX2_isText_1 : decode cX2_isText 1 = .ok (.iconst 0, 1) := by decide +kernel
theorem dX2_isText_2 : decode cX2_isText 2 = .ok (.putfield 23, 3) := by decide +kernel
theorem dX2_isText_5 : decode cX2_isText 5 = .ok (.aload_n 0, 1) := by decide +kernel
theorem dX2_isText_6 : decode cX2_isText 6 = .ok (.iconst 0, 1) := by decide +kernel
theorem dX2_isText_7 : decode cX2_isText 7 = .ok (.putfield 27, 3) := by decide +kernel
theorem dX2_isText_10 : decode cX2_isText 10 = .ok (.iconst 0, 1) := by decide +kernel
theorem dX2_isText_11 : decode cX2_isText 11 = .ok (.istore_n 2, 1) := by decide +kernel
theorem dX2_isText_12 : decode cX2_isText 12 = .ok (.iload_n 2, 1) := by decide +kernel
theorem dX2_isText_13 : decode cX2_isText 13 = .ok (.bipush 12, 2) := by decide +kernel
theorem dX2_isText_15 : decode cX2_isText 15 = .ok (.if_icmp .ge 61, 3) := by decide +kernel
theorem dX2_isText_18 : decode cX2_isText 18 = .ok (.aload_n 0, 1) := by decide +kernel
theorem dX2_isText_19 : decode cX2_isText 19 = .ok (.aload_n 1, 1) := by decide +kernel
theorem dX2_isText_20 : decode cX2_isText 20 = .ok (.aload_n 0, 1) := by decide +kernel
theorem dX2_isText_21 : decode cX2_isText 21 = .ok (.getfield 27, 3) := by decide +kernel
theorem dX2_isText_24 : decode cX2_isText 24 = .ok (.invokevirtual 30, 3) := by decide +kernel
theorem dX2_isText_27 : decode cX2_isText 27 = .ok (.ifCond .ne 5, 3) := by decide +kernel
theorem dX2_isText_30 : decode cX2_isText 30 = .ok (.iconst 0, 1) := by decide +kernel
theorem dX2_isText_31 : decode cX2_isText 31 = .ok (.ireturn, 1) := by decide +kernel
theorem dX2_isText_32 : decode cX2_isText 32 = .ok (.aload_n 0, 1) := by decide +kernel
theorem dX2_isText_33 : decode cX2_isText 33 = .ok (.getfield 27, 3) := by decide +kernel
theorem dX2_isText_36 : decode cX2_isText 36 = .ok (.aload_n 1, 1) := by decide +kernel
theorem dX2_isText_37 : decode cX2_isText 37 = .ok (.getfield 34, 3) := by decide +kernel
theorem dX2_isText_40 : decode cX2_isText 40 = .ok (.if_icmp .ne 5, 3) := by decide +kernel
theorem dX2_isText_43 : decode cX2_isText 43 = .ok (.iconst 1, 1) := by decide +kernel
theorem dX2_isText_44 : decode cX2_isText 44 = .ok (.ireturn, 1) := by decide +kernel
theorem dX2_isText_45 : decode cX2_isText 45 = .ok (.aload_n 1, 1) := by decide +kernel
theorem dX2_isText_46 : decode cX2_isText 46 = .ok (.aload_n 0, 1) := by decide +kernel
theorem dX2_isText_47 : decode cX2_isText 47 = .ok (.getfield 27, 3) := by decide +kernel
theorem dX2_isText_50 : decode cX2_isText 50 = .ok (.invokevirtual 39, 3) := by decide +kernel
theorem dX2_isText_53 : decode cX2_isText 53 = .ok (.bipush 59, 2) := by decide +kernel
theorem dX2_isText_55 : decode cX2_isText 55 = .ok (.if_icmp .eq 5, 3) := by decide +kernel
theorem dX2_isText_58 : decode cX2_isText 58 = .ok (.iconst 0, 1) := by decide +kernel
theorem dX2_isText_59 : decode cX2_isText 59 = .ok (.ireturn, 1) := by decide +kernel
theorem dX2_isText_60 : decode cX2_isText 60 = .ok (.aload_n 0, 1) := by decide +kernel
theorem dX2_isText_61 : decode cX2_isText 61 = .ok (.dup, 1) := by decide +kernel
theorem dX2_isText_62 : decode cX2_isText 62 = .ok (.getfield 27, 3) := by decide +kernel
theorem dX2_isText_65 : decode cX2_isText 65 = .ok (.iconst 1, 1) := by decide +kernel
theorem dX2_isText_66 : decode cX2_isText 66 = .ok (.iadd, 1) := by decide +kernel
theorem dX2_isText_67 : decode cX2_isText 67 = .ok (.putfield 27, 3) := by decide +kernel
theorem dX2_isText_70 : decode cX2_isText 70 = .ok (.iinc 2 1, 3) := by decide +kernel
theorem dX2_isText_73 : decode cX2_isText 73 = .ok (.goto (-61), 3) := by decide +kernel
theorem dX2_isText_76 : decode cX2_isText 76 = .ok (.iconst 0, 1) := by decide +kernel
theorem dX2_isText_77 : decode cX2_isText 77 = .ok (.ireturn, 1) := by decide +kernel
theorem dX2_numberOf_0 : decode cX2_numberOf 0 = .ok (.aload_n 0, 1) := by decide +kernel
theorem dX2_numberOf_1 : decode cX2_numberOf 1 = .ok (.getfield 20, 3) := by decide +kernel
theorem dX2_numberOf_4 : decode cX2_numberOf 4 = .ok (.iload_n 1, 1) := by decide +kernel
theorem dX2_numberOf_5 : decode cX2_numberOf 5 = .ok (.iconst 4, 1) := by decide +kernel
theorem dX2_numberOf_6 : decode cX2_numberOf 6 = .ok (.imul, 1) := by decide +kernel
theorem dX2_numberOf_7 : decode cX2_numberOf 7 = .ok (.iload_n 2, 1) := by decide +kernel
theorem dX2_numberOf_8 : decode cX2_numberOf 8 = .ok (.iadd, 1) := by decide +kernel
theorem dX2_numberOf_9 : decode cX2_numberOf 9 = .ok (.invokevirtual 43, 3) := by decide +kernel
theorem dX2_numberOf_12 : decode cX2_numberOf 12 = .ok (.ireturn, 1) := by decide +kernel
theorem dX2_takeCommand_0 : decode cX2_takeCommand 0 = .ok (.iconst 0, 1) := by decide +kernel
theorem dX2_takeCommand_1 : decode cX2_takeCommand 1 = .ok (.istore_n 3, 1) := by decide +kernel
theorem dX2_takeCommand_2 : decode cX2_takeCommand 2 = .ok (.iload_n 3, 1) := by decide +kernel
theorem dX2_takeCommand_3 : decode cX2_takeCommand 3 = .ok (.bipush 8, 2) := by decide +kernel
theorem dX2_takeCommand_5 : decode cX2_takeCommand 5 = .ok (.if_icmp .ge 46, 3) := by decide +kernel
theorem dX2_takeCommand_8 : decode cX2_takeCommand 8 = .ok (.aload_n 0, 1) := by decide +kernel
theorem dX2_takeCommand_9 : decode cX2_takeCommand 9 = .ok (.aload_n 1, 1) := by decide +kernel
theorem dX2_takeCommand_10 : decode cX2_takeCommand 10 = .ok (.iload_n 2, 1) := by decide +kernel
theorem dX2_takeCommand_11 : decode cX2_takeCommand 11 = .ok (.iload_n 3, 1) := by decide +kernel
theorem dX2_takeCommand_12 : decode cX2_takeCommand 12 = .ok (.invokestatic 46, 3) := by decide +kernel
theorem dX2_takeCommand_15 : decode cX2_takeCommand 15 = .ok (.invokevirtual 50, 3) := by decide +kernel
theorem dX2_takeCommand_18 : decode cX2_takeCommand 18 = .ok (.ifCond .eq 27, 3) := by decide +kernel
theorem dX2_takeCommand_21 : decode cX2_takeCommand 21 = .ok (.aload_n 0, 1) := by decide +kernel
theorem dX2_takeCommand_22 : decode cX2_takeCommand 22 = .ok (.getfield 14, 3) := by decide +kernel
theorem dX2_takeCommand_25 : decode cX2_takeCommand 25 = .ok (.aload_n 0, 1) := by decide +kernel
theorem dX2_takeCommand_26 : decode cX2_takeCommand 26 = .ok (.getfield 23, 3) := by decide +kernel
theorem dX2_takeCommand_29 : decode cX2_takeCommand 29 = .ok (.iload_n 3, 1) := by decide +kernel
theorem dX2_takeCommand_30 : decode cX2_takeCommand 30 = .ok (.invokevirtual 54, 3) := by decide +kernel
theorem dX2_takeCommand_33 : decode cX2_takeCommand 33 = .ok (.aload_n 0, 1) := by decide +kernel
theorem dX2_takeCommand_34 : decode cX2_takeCommand 34 = .ok (.dup, 1) := by decide +kernel
theorem dX2_takeCommand_35 : decode cX2_takeCommand 35 = .ok (.getfield 23, 3) := by decide +kernel
theorem dX2_takeCommand_38 : decode cX2_takeCommand 38 = .ok (.iconst 1, 1) := by decide +kernel
theorem dX2_takeCommand_39 : decode cX2_takeCommand 39 = .ok (.iadd, 1) := by decide +kernel
theorem dX2_takeCommand_40 : decode cX2_takeCommand 40 = .ok (.putfield 23, 3) := by decide +kernel
theorem dX2_takeCommand_43 : decode cX2_takeCommand 43 = .ok (.iconst 1, 1) := by decide +kernel
theorem dX2_takeCommand_44 : decode cX2_takeCommand 44 = .ok (.ireturn, 1) := by decide +kernel
theorem dX2_takeCommand_45 : decode cX2_takeCommand 45 = .ok (.iinc 3 1, 3) := by decide +kernel
theorem dX2_takeCommand_48 : decode cX2_takeCommand 48 = .ok (.goto (-46), 3) := by decide +kernel
theorem dX2_takeCommand_51 : decode cX2_takeCommand 51 = .ok (.iconst 0, 1) := by decide +kernel
theorem dX2_takeCommand_52 : decode cX2_takeCommand 52 = .ok (.ireturn, 1) := by decide +kernel
theorem dX2_follow_0 : decode cX2_follow 0 = .ok (.iload_n 2, 1) := by decide +kernel
theorem dX2_follow_1 : decode cX2_follow 1 = .ok (.istore 4, 2) := by decide +kernel
theorem dX2_follow_3 : decode cX2_follow 3 = .ok (.iconst 0, 1) := by decide +kernel
theorem dX2_follow_4 : decode cX2_follow 4 = .ok (.istore 5, 2) := by decide +kernel
theorem dX2_follow_6 : decode cX2_follow 6 = .ok (.iconst 0, 1) := by decide +kernel
theorem dX2_follow_7 : decode cX2_follow 7 = .ok (.istore 6, 2) := by decide +kernel
theorem dX2_follow_9 : decode cX2_follow 9 = .ok (.iload 6, 2) := by decide +kernel
theorem dX2_follow_11 : decode cX2_follow 11 = .ok (.aload_n 3, 1) := by decide +kernel
theorem dX2_follow_12 : decode cX2_follow 12 = .ok (.invokevirtual 58, 3) := by decide +kernel
theorem dX2_follow_15 : decode cX2_follow 15 = .ok (.if_icmp .ge 102, 3) := by decide +kernel
theorem dX2_follow_18 : decode cX2_follow 18 = .ok (.aload_n 3, 1) := by decide +kernel
theorem dX2_follow_19 : decode cX2_follow 19 = .ok (.iload 6, 2) := by decide +kernel
theorem dX2_follow_21 : decode cX2_follow 21 = .ok (.invokevirtual 63, 3) := by decide +kernel
theorem dX2_follow_24 : decode cX2_follow 24 = .ok (.istore 7, 2) := by decide +kernel
theorem dX2_follow_26 : decode cX2_follow 26 = .ok (.aload_n 1, 1) := by decide +kernel
theorem dX2_follow_27 : decode cX2_follow 27 = .ok (.iload 4, 2) := by decide +kernel
theorem dX2_follow_29 : decode cX2_follow 29 = .ok (.invokevirtual 39, 3) := by decide +kernel
theorem dX2_follow_32 : decode cX2_follow 32 = .ok (.iload 7, 2) := by decide +kernel
theorem dX2_follow_34 : decode cX2_follow 34 = .ok (.if_icmp .ne 7, 3) := by decide +kernel
theorem dX2_follow_37 : decode cX2_follow 37 = .ok (.iconst 1, 1) := by decide +kernel
theorem dX2_follow_38 : decode cX2_follow 38 = .ok (.goto 4, 3) := by decide +kernel
theorem dX2_follow_41 : decode cX2_follow 41 = .ok (.iconst 0, 1) := by decide +kernel
theorem dX2_follow_42 : decode cX2_follow 42 = .ok (.istore 8, 2) := by decide +kernel
theorem dX2_follow_44 : decode cX2_follow 44 = .ok (.iload 7, 2) := by decide +kernel
theorem dX2_follow_46 : decode cX2_follow 46 = .ok (.bipush 35, 2) := by decide +kernel
theorem dX2_follow_48 : decode cX2_follow 48 = .ok (.if_icmp .eq 10, 3) := by decide +kernel
theorem dX2_follow_51 : decode cX2_follow 51 = .ok (.iload 7, 2) := by decide +kernel
theorem dX2_follow_53 : decode cX2_follow 53 = .ok (.bipush 37, 2) := by decide +kernel
theorem dX2_follow_55 : decode cX2_follow 55 = .ok (.if_icmp .ne 29, 3) := by decide +kernel
theorem dX2_follow_58 : decode cX2_follow 58 = .ok (.aload_n 0, 1) := by decide +kernel
theorem dX2_follow_59 : decode cX2_follow 59 = .ok (.aload_n 1, 1) := by decide +kernel
theorem dX2_follow_60 : decode cX2_follow 60 = .ok (.iload 4, 2) := by decide +kernel
theorem dX2_follow_62 : decode cX2_follow 62 = .ok (.iload 7, 2) := by decide +kernel
theorem dX2_follow_64 : decode cX2_follow 64 = .ok (.bipush 37, 2) := by decide +kernel
theorem dX2_follow_66 : decode cX2_follow 66 = .ok (.if_icmp .ne 7, 3) := by decide +kernel
theorem dX2_follow_69 : decode cX2_follow 69 = .ok (.iconst 1, 1) := by decide +kernel
theorem dX2_follow_70 : decode cX2_follow 70 = .ok (.goto 4, 3) := by decide +kernel
theorem dX2_follow_73 : decode cX2_follow 73 = .ok (.iconst 0, 1) := by decide +kernel
theorem dX2_follow_74 : decode cX2_follow 74 = .ok (.iload 5, 2) := by decide +kernel
theorem dX2_follow_76 : decode cX2_follow 76 = .ok (.invokevirtual 67, 3) := by decide +kernel
theorem dX2_follow_79 : decode cX2_follow 79 = .ok (.istore 8, 2) := by decide +kernel
theorem dX2_follow_81 : decode cX2_follow 81 = .ok (.iinc 5 1, 3) := by decide +kernel
theorem dX2_follow_84 : decode cX2_follow 84 = .ok (.iload 8, 2) := by decide +kernel
theorem dX2_follow_86 : decode cX2_follow 86 = .ok (.ifCond .ne 18, 3) := by decide +kernel
theorem dX2_follow_89 : decode cX2_follow 89 = .ok (.aload_n 0, 1) := by decide +kernel
theorem dX2_follow_90 : decode cX2_follow 90 = .ok (.aload_n 0, 1) := by decide +kernel
theorem dX2_follow_91 : decode cX2_follow 91 = .ok (.getfield 27, 3) := by decide +kernel
theorem dX2_follow_94 : decode cX2_follow 94 = .ok (.iload 4, 2) := by decide +kernel
theorem dX2_follow_96 : decode cX2_follow 96 = .ok (.invokestatic 71, 3) := by decide +kernel
theorem dX2_follow_99 : decode cX2_follow 99 = .ok (.putfield 27, 3) := by decide +kernel
theorem dX2_follow_102 : decode cX2_follow 102 = .ok (.iconst 0, 1) := by decide +kernel
theorem dX2_follow_103 : decode cX2_follow 103 = .ok (.ireturn, 1) := by decide +kernel
theorem dX2_follow_104 : decode cX2_follow 104 = .ok (.iload 4, 2) := by decide +kernel
theorem dX2_follow_106 : decode cX2_follow 106 = .ok (.iload 8, 2) := by decide +kernel
theorem dX2_follow_108 : decode cX2_follow 108 = .ok (.iadd, 1) := by decide +kernel
theorem dX2_follow_109 : decode cX2_follow 109 = .ok (.istore 4, 2) := by decide +kernel
theorem dX2_follow_111 : decode cX2_follow 111 = .ok (.iinc 6 1, 3) := by decide +kernel
theorem dX2_follow_114 : decode cX2_follow 114 = .ok (.goto (-105), 3) := by decide +kernel
theorem dX2_follow_117 : decode cX2_follow 117 = .ok (.aload_n 0, 1) := by decide +kernel
theorem dX2_follow_118 : decode cX2_follow 118 = .ok (.iload 4, 2) := by decide +kernel
theorem dX2_follow_120 : decode cX2_follow 120 = .ok (.putfield 27, 3) := by decide +kernel
theorem dX2_follow_123 : decode cX2_follow 123 = .ok (.iconst 1, 1) := by decide +kernel
theorem dX2_follow_124 : decode cX2_follow 124 = .ok (.ireturn, 1) := by decide +kernel
theorem dX2_takeNumber_0 : decode cX2_takeNumber 0 = .ok (.aload_n 0, 1) := by decide +kernel
theorem dX2_takeNumber_1 : decode cX2_takeNumber 1 = .ok (.getfield 23, 3) := by decide +kernel
theorem dX2_takeNumber_4 : decode cX2_takeNumber 4 = .ok (.iconst 4, 1) := by decide +kernel
theorem dX2_takeNumber_5 : decode cX2_takeNumber 5 = .ok (.imul, 1) := by decide +kernel
theorem dX2_takeNumber_6 : decode cX2_takeNumber 6 = .ok (.iload 4, 2) := by decide +kernel
theorem dX2_takeNumber_8 : decode cX2_takeNumber 8 = .ok (.iadd, 1) := by decide +kernel
theorem dX2_takeNumber_9 : decode cX2_takeNumber 9 = .ok (.istore 5, 2) := by decide +kernel
theorem dX2_takeNumber_11 : decode cX2_takeNumber 11 = .ok (.aload_n 1, 1) := by decide +kernel
theorem dX2_takeNumber_12 : decode cX2_takeNumber 12 = .ok (.iload_n 2, 1) := by decide +kernel
theorem dX2_takeNumber_13 : decode cX2_takeNumber 13 = .ok (.invokestatic 77, 3) := by decide +kernel
theorem dX2_takeNumber_16 : decode cX2_takeNumber 16 = .ok (.istore 6, 2) := by decide +kernel
theorem dX2_takeNumber_18 : decode cX2_takeNumber 18 = .ok (.aload_n 1, 1) := by decide +kernel
theorem dX2_takeNumber_19 : decode cX2_takeNumber 19 = .ok (.iload_n 2, 1) := by decide +kernel
theorem dX2_takeNumber_20 : decode cX2_takeNumber 20 = .ok (.iconst 1, 1) := by decide +kernel
theorem dX2_takeNumber_21 : decode cX2_takeNumber 21 = .ok (.iadd, 1) := by decide +kernel
theorem dX2_takeNumber_22 : decode cX2_takeNumber 22 = .ok (.invokestatic 77, 3) := by decide +kernel
theorem dX2_takeNumber_25 : decode cX2_takeNumber 25 = .ok (.istore 7, 2) := by decide +kernel
theorem dX2_takeNumber_27 : decode cX2_takeNumber 27 = .ok (.iload 6, 2) := by decide +kernel
theorem dX2_takeNumber_29 : decode cX2_takeNumber 29 = .ok (.iconst (-1), 1) := by decide +kernel
theorem dX2_takeNumber_30 : decode cX2_takeNumber 30 = .ok (.if_icmp .ne 5, 3) := by decide +kernel
theorem dX2_takeNumber_33 : decode cX2_takeNumber 33 = .ok (.iconst 0, 1) := by decide +kernel
theorem dX2_takeNumber_34 : decode cX2_takeNumber 34 = .ok (.ireturn, 1) := by decide +kernel
theorem dX2_takeNumber_35 : decode cX2_takeNumber 35 = .ok (.iload_n 3, 1) := by decide +kernel
theorem dX2_takeNumber_36 : decode cX2_takeNumber 36 = .ok (.ifCond .eq 9, 3) := by decide +kernel
theorem dX2_takeNumber_39 : decode cX2_takeNumber 39 = .ok (.iload 7, 2) := by decide +kernel
theorem dX2_takeNumber_41 : decode cX2_takeNumber 41 = .ok (.iconst (-1), 1) := by decide +kernel
theorem dX2_takeNumber_42 : decode cX2_takeNumber 42 = .ok (.if_icmp .ne 16, 3) := by decide +kernel
theorem dX2_takeNumber_45 : decode cX2_takeNumber 45 = .ok (.aload_n 0, 1) := by decide +kernel
theorem dX2_takeNumber_46 : decode cX2_takeNumber 46 = .ok (.getfield 20, 3) := by decide +kernel
theorem dX2_takeNumber_49 : decode cX2_takeNumber 49 = .ok (.iload 5, 2) := by decide +kernel
theorem dX2_takeNumber_51 : decode cX2_takeNumber 51 = .ok (.iload 6, 2) := by decide +kernel
theorem dX2_takeNumber_53 : decode cX2_takeNumber 53 = .ok (.invokevirtual 54, 3) := by decide +kernel
theorem dX2_takeNumber_56 : decode cX2_takeNumber 56 = .ok (.iconst 1, 1) := by decide +kernel
theorem dX2_takeNumber_57 : decode cX2_takeNumber 57 = .ok (.ireturn, 1) := by decide +kernel
theorem dX2_takeNumber_58 : decode cX2_takeNumber 58 = .ok (.aload_n 0, 1) := by decide +kernel
theorem dX2_takeNumber_59 : decode cX2_takeNumber 59 = .ok (.getfield 20, 3) := by decide +kernel
theorem dX2_takeNumber_62 : decode cX2_takeNumber 62 = .ok (.iload 5, 2) := by decide +kernel
theorem dX2_takeNumber_64 : decode cX2_takeNumber 64 = .ok (.iload 6, 2) := by decide +kernel
theorem dX2_takeNumber_66 : decode cX2_takeNumber 66 = .ok (.bipush 10, 2) := by decide +kernel
theorem dX2_takeNumber_68 : decode cX2_takeNumber 68 = .ok (.imul, 1) := by decide +kernel
theorem dX2_takeNumber_69 : decode cX2_takeNumber 69 = .ok (.iload 7, 2) := by decide +kernel
theorem dX2_takeNumber_71 : decode cX2_takeNumber 71 = .ok (.iadd, 1) := by decide +kernel
theorem dX2_takeNumber_72 : decode cX2_takeNumber 72 = .ok (.invokevirtual 54, 3) := by decide +kernel
theorem dX2_takeNumber_75 : decode cX2_takeNumber 75 = .ok (.iconst 2, 1) := by decide +kernel
theorem dX2_takeNumber_76 : decode cX2_takeNumber 76 = .ok (.ireturn, 1) := by decide +kernel
theorem dX2_digitAt_0 : decode cX2_digitAt 0 = .ok (.aload_n 0, 1) := by decide +kernel
theorem dX2_digitAt_1 : decode cX2_digitAt 1 = .ok (.iload_n 1, 1) := by decide +kernel
theorem dX2_digitAt_2 : decode cX2_digitAt 2 = .ok (.invokevirtual 39, 3) := by decide +kernel
theorem dX2_digitAt_5 : decode cX2_digitAt 5 = .ok (.istore_n 2, 1) := by decide +kernel
theorem dX2_digitAt_6 : decode cX2_digitAt 6 = .ok (.iload_n 2, 1) := by decide +kernel
theorem dX2_digitAt_7 : decode cX2_digitAt 7 = .ok (.bipush 48, 2) := by decide +kernel
theorem dX2_digitAt_9 : decode cX2_digitAt 9 = .ok (.if_icmp .lt 16, 3) := by decide +kernel
theorem dX2_digitAt_12 : decode cX2_digitAt 12 = .ok (.iload_n 2, 1) := by decide +kernel
theorem dX2_digitAt_13 : decode cX2_digitAt 13 = .ok (.bipush 57, 2) := by decide +kernel
theorem dX2_digitAt_15 : decode cX2_digitAt 15 = .ok (.if_icmp .gt 10, 3) := by decide +kernel
theorem dX2_digitAt_18 : decode cX2_digitAt 18 = .ok (.iload_n 2, 1) := by decide +kernel
theorem dX2_digitAt_19 : decode cX2_digitAt 19 = .ok (.bipush 48, 2) := by decide +kernel
theorem dX2_digitAt_21 : decode cX2_digitAt 21 = .ok (.isub, 1) := by decide +kernel
theorem dX2_digitAt_22 : decode cX2_digitAt 22 = .ok (.goto 4, 3) := by decide +kernel
theorem dX2_digitAt_25 : decode cX2_digitAt 25 = .ok (.iconst (-1), 1) := by decide +kernel
theorem dX2_digitAt_26 : decode cX2_digitAt 26 = .ok (.ireturn, 1) := by decide +kernel
theorem dX2_formOf_0 : decode cX2_formOf 0 = .ok (.iload_n 0, 1) := by decide +kernel
theorem dX2_formOf_1 : decode cX2_formOf 1 = .ok (.tableswitch 64 0 6 #[43, 46, 49, 52, 55, 58, 61], 43) := by decide +kernel
theorem dX2_formOf_44 : decode cX2_formOf 44 = .ok (.ldc 81, 2) := by decide +kernel
theorem dX2_formOf_46 : decode cX2_formOf 46 = .ok (.areturn, 1) := by decide +kernel
theorem dX2_formOf_47 : decode cX2_formOf 47 = .ok (.ldc 83, 2) := by decide +kernel
theorem dX2_formOf_49 : decode cX2_formOf 49 = .ok (.areturn, 1) := by decide +kernel
theorem dX2_formOf_50 : decode cX2_formOf 50 = .ok (.ldc 85, 2) := by decide +kernel
theorem dX2_formOf_52 : decode cX2_formOf 52 = .ok (.areturn, 1) := by decide +kernel
theorem dX2_formOf_53 : decode cX2_formOf 53 = .ok (.ldc 87, 2) := by decide +kernel
theorem dX2_formOf_55 : decode cX2_formOf 55 = .ok (.areturn, 1) := by decide +kernel
theorem dX2_formOf_56 : decode cX2_formOf 56 = .ok (.ldc 89, 2) := by decide +kernel
theorem dX2_formOf_58 : decode cX2_formOf 58 = .ok (.areturn, 1) := by decide +kernel
theorem dX2_formOf_59 : decode cX2_formOf 59 = .ok (.ldc 91, 2) := by decide +kernel
theorem dX2_formOf_61 : decode cX2_formOf 61 = .ok (.areturn, 1) := by decide +kernel
theorem dX2_formOf_62 : decode cX2_formOf 62 = .ok (.ldc 93, 2) := by decide +kernel
theorem dX2_formOf_64 : decode cX2_formOf 64 = .ok (.areturn, 1) := by decide +kernel
theorem dX2_formOf_65 : decode cX2_formOf 65 = .ok (.ldc 95, 2) := by decide +kernel
theorem dX2_formOf_67 : decode cX2_formOf 67 = .ok (.areturn, 1) := by decide +kernel
theorem dX3_init_0 : decode cX3_init 0 = .ok (.aload_n 0, 1) := by decide +kernel
theorem dX3_init_1 : decode cX3_init 1 = .ok (.invokespecial 1, 3) := by decide +kernel
theorem dX3_init_4 : decode cX3_init 4 = .ok (.aload_n 0, 1) := by decide +kernel
theorem dX3_init_5 : decode cX3_init 5 = .ok (.iload_n 1, 1) := by decide +kernel
theorem dX3_init_6 : decode cX3_init 6 = .ok (.ifCond .le 7, 3) := by decide +kernel
theorem dX3_init_9 : decode cX3_init 9 = .ok (.iload_n 1, 1) := by decide +kernel
theorem dX3_init_10 : decode cX3_init 10 = .ok (.goto 4, 3) := by decide +kernel
theorem dX3_init_13 : decode cX3_init 13 = .ok (.iconst 0, 1) := by decide +kernel
theorem dX3_init_14 : decode cX3_init 14 = .ok (.newarray .int, 2) := by decide +kernel
theorem dX3_init_16 : decode cX3_init 16 = .ok (.putfield 7, 3) := by decide +kernel
theorem dX3_init_19 : decode cX3_init 19 = .ok (.return_, 1) := by decide +kernel
theorem dX3_at_0 : decode cX3_at 0 = .ok (.iload_n 1, 1) := by decide +kernel
theorem dX3_at_1 : decode cX3_at 1 = .ok (.ifCond .lt 21, 3) := by decide +kernel
theorem dX3_at_4 : decode cX3_at 4 = .ok (.iload_n 1, 1) := by decide +kernel
theorem dX3_at_5 : decode cX3_at 5 = .ok (.aload_n 0, 1) := by decide +kernel
theorem dX3_at_6 : decode cX3_at 6 = .ok (.getfield 7, 3) := by decide +kernel
theorem dX3_at_9 : decode cX3_at 9 = .ok (.arraylength, 1) := by decide +kernel
theorem dX3_at_10 : decode cX3_at 10 = .ok (.if_icmp .ge 12, 3) := by decide +kernel
theorem dX3_at_13 : decode cX3_at 13 = .ok (.aload_n 0, 1) := by decide +kernel
theorem dX3_at_14 : decode cX3_at 14 = .ok (.getfield 7, 3) := by decide +kernel
theorem dX3_at_17 : decode cX3_at 17 = .ok (.iload_n 1, 1) := by decide +kernel
theorem dX3_at_18 : decode cX3_at 18 = .ok (.iaload, 1) := by decide +kernel
theorem dX3_at_19 : decode cX3_at 19 = .ok (.goto 4, 3) := by decide +kernel
theorem dX3_at_22 : decode cX3_at 22 = .ok (.iconst 0, 1) := by decide +kernel
theorem dX3_at_23 : decode cX3_at 23 = .ok (.ireturn, 1) := by decide +kernel
theorem dX3_put_0 : decode cX3_put 0 = .ok (.iload_n 1, 1) := by decide +kernel
theorem dX3_put_1 : decode cX3_put 1 = .ok (.ifCond .lt 19, 3) := by decide +kernel
theorem dX3_put_4 : decode cX3_put 4 = .ok (.iload_n 1, 1) := by decide +kernel
theorem dX3_put_5 : decode cX3_put 5 = .ok (.aload_n 0, 1) := by decide +kernel
theorem dX3_put_6 : decode cX3_put 6 = .ok (.getfield 7, 3) := by decide +kernel
theorem dX3_put_9 : decode cX3_put 9 = .ok (.arraylength, 1) := by decide +kernel
theorem dX3_put_10 : decode cX3_put 10 = .ok (.if_icmp .ge 10, 3) := by decide +kernel
theorem dX3_put_13 : decode cX3_put 13 = .ok (.aload_n 0, 1) := by decide +kernel
theorem dX3_put_14 : decode cX3_put 14 = .ok (.getfield 7, 3) := by decide +kernel
theorem dX3_put_17 : decode cX3_put 17 = .ok (.iload_n 1, 1) := by decide +kernel
theorem dX3_put_18 : decode cX3_put 18 = .ok (.iload_n 2, 1) := by decide +kernel
theorem dX3_put_19 : decode cX3_put 19 = .ok (.iastore, 1) := by decide +kernel
theorem dX3_put_20 : decode cX3_put 20 = .ok (.return_, 1) := by decide +kernel
theorem dX3_takeOut_0 : decode cX3_takeOut 0 = .ok (.iload_n 1, 1) := by decide +kernel
theorem dX3_takeOut_1 : decode cX3_takeOut 1 = .ok (.ifCond .lt 36, 3) := by decide +kernel
theorem dX3_takeOut_4 : decode cX3_takeOut 4 = .ok (.iload_n 1, 1) := by decide +kernel
theorem dX3_takeOut_5 : decode cX3_takeOut 5 = .ok (.istore_n 2, 1) := by decide +kernel
theorem dX3_takeOut_6 : decode cX3_takeOut 6 = .ok (.iload_n 2, 1) := by decide +kernel
theorem dX3_takeOut_7 : decode cX3_takeOut 7 = .ok (.aload_n 0, 1) := by decide +kernel
theorem dX3_takeOut_8 : decode cX3_takeOut 8 = .ok (.getfield 7, 3) := by decide +kernel
theorem dX3_takeOut_11 : decode cX3_takeOut 11 = .ok (.arraylength, 1) := by decide +kernel
theorem dX3_takeOut_12 : decode cX3_takeOut 12 = .ok (.iconst 1, 1) := by decide +kernel
theorem dX3_takeOut_13 : decode cX3_takeOut 13 = .ok (.isub, 1) := by decide +kernel
theorem dX3_takeOut_14 : decode cX3_takeOut 14 = .ok (.if_icmp .ge 23, 3) := by decide +kernel
theorem dX3_takeOut_17 : decode cX3_takeOut 17 = .ok (.aload_n 0, 1) := by decide +kernel
theorem dX3_takeOut_18 : decode cX3_takeOut 18 = .ok (.getfield 7, 3) := by decide +kernel
theorem dX3_takeOut_21 : decode cX3_takeOut 21 = .ok (.iload_n 2, 1) := by decide +kernel
theorem dX3_takeOut_22 : decode cX3_takeOut 22 = .ok (.aload_n 0, 1) := by decide +kernel
theorem dX3_takeOut_23 : decode cX3_takeOut 23 = .ok (.getfield 7, 3) := by decide +kernel
theorem dX3_takeOut_26 : decode cX3_takeOut 26 = .ok (.iload_n 2, 1) := by decide +kernel
theorem dX3_takeOut_27 : decode cX3_takeOut 27 = .ok (.iconst 1, 1) := by decide +kernel
theorem dX3_takeOut_28 : decode cX3_takeOut 28 = .ok (.iadd, 1) := by decide +kernel
theorem dX3_takeOut_29 : decode cX3_takeOut 29 = .ok (.iaload, 1) := by decide +kernel
theorem dX3_takeOut_30 : decode cX3_takeOut 30 = .ok (.iastore, 1) := by decide +kernel
theorem dX3_takeOut_31 : decode cX3_takeOut 31 = .ok (.iinc 2 1, 3) := by decide +kernel
theorem dX3_takeOut_34 : decode cX3_takeOut 34 = .ok (.goto (-28), 3) := by decide +kernel
theorem dX3_takeOut_37 : decode cX3_takeOut 37 = .ok (.return_, 1) := by decide +kernel
theorem dX3_copy_0 : decode cX3_copy 0 = .ok (.aload_n 0, 1) := by decide +kernel
theorem dX3_copy_1 : decode cX3_copy 1 = .ok (.getfield 7, 3) := by decide +kernel
theorem dX3_copy_4 : decode cX3_copy 4 = .ok (.arraylength, 1) := by decide +kernel
theorem dX3_copy_5 : decode cX3_copy 5 = .ok (.aload_n 1, 1) := by decide +kernel
theorem dX3_copy_6 : decode cX3_copy 6 = .ok (.getfield 7, 3) := by decide +kernel
theorem dX3_copy_9 : decode cX3_copy 9 = .ok (.arraylength, 1) := by decide +kernel
theorem dX3_copy_10 : decode cX3_copy 10 = .ok (.invokestatic 13, 3) := by decide +kernel
theorem dX3_copy_13 : decode cX3_copy 13 = .ok (.istore_n 2, 1) := by decide +kernel
theorem dX3_copy_14 : decode cX3_copy 14 = .ok (.aload_n 0, 1) := by decide +kernel
theorem dX3_copy_15 : decode cX3_copy 15 = .ok (.getfield 7, 3) := by decide +kernel
theorem dX3_copy_18 : decode cX3_copy 18 = .ok (.iconst 0, 1) := by decide +kernel
theorem dX3_copy_19 : decode cX3_copy 19 = .ok (.aload_n 1, 1) := by decide +kernel
theorem dX3_copy_20 : decode cX3_copy 20 = .ok (.getfield 7, 3) := by decide +kernel
theorem dX3_copy_23 : decode cX3_copy 23 = .ok (.iconst 0, 1) := by decide +kernel
theorem dX3_copy_24 : decode cX3_copy 24 = .ok (.iload_n 2, 1) := by decide +kernel
theorem dX3_copy_25 : decode cX3_copy 25 = .ok (.invokestatic 19, 3) := by decide +kernel
theorem dX3_copy_28 : decode cX3_copy 28 = .ok (.return_, 1) := by decide +kernel
theorem dX4_init_0 : decode cX4_init 0 = .ok (.aload_n 0, 1) := by decide +kernel
theorem dX4_init_1 : decode cX4_init 1 = .ok (.invokespecial 3, 3) := by decide +kernel
theorem dX4_init_4 : decode cX4_init 4 = .ok (.aload_n 0, 1) := by decide +kernel
theorem dX4_init_5 : decode cX4_init 5 = .ok (.new 9, 3) := by decide +kernel
theorem dX4_init_8 : decode cX4_init 8 = .ok (.dup, 1) := by decide +kernel
theorem dX4_init_9 : decode cX4_init 9 = .ok (.invokespecial 11, 3) := by decide +kernel
theorem dX4_init_12 : decode cX4_init 12 = .ok (.putfield 12, 3) := by decide +kernel
theorem dX4_init_15 : decode cX4_init 15 = .ok (.aload_n 0, 1) := by decide +kernel
theorem dX4_init_16 : decode cX4_init 16 = .ok (.new 18, 3) := by decide +kernel
theorem dX4_init_19 : decode cX4_init 19 = .ok (.dup, 1) := by decide +kernel
theorem dX4_init_20 : decode cX4_init 20 = .ok (.invokespecial 20, 3) := by decide +kernel
theorem dX4_init_23 : decode cX4_init 23 = .ok (.putfield 21, 3) := by decide +kernel
theorem dX4_init_26 : decode cX4_init 26 = .ok (.aload_n 0, 1) := by decide +kernel
theorem dX4_init_27 : decode cX4_init 27 = .ok (.new 25, 3) := by decide +kernel
theorem dX4_init_30 : decode cX4_init 30 = .ok (.dup, 1) := by decide +kernel
theorem dX4_init_31 : decode cX4_init 31 = .ok (.iconst 4, 1) := by decide +kernel
theorem dX4_init_32 : decode cX4_init 32 = .ok (.invokespecial 27, 3) := by decide +kernel
theorem dX4_init_35 : decode cX4_init 35 = .ok (.putfield 30, 3) := by decide +kernel
theorem dX4_init_38 : decode cX4_init 38 = .ok (.aload_n 0, 1) := by decide +kernel
theorem dX4_init_39 : decode cX4_init 39 = .ok (.iconst 0, 1) := by decide +kernel
theorem dX4_init_40 : decode cX4_init 40 = .ok (.putfield 34, 3) := by decide +kernel
theorem dX4_init_43 : decode cX4_init 43 = .ok (.aload_n 0, 1) := by decide +kernel
theorem dX4_init_44 : decode cX4_init 44 = .ok (.iconst 3, 1) := by decide +kernel
theorem dX4_init_45 : decode cX4_init 45 = .ok (.putfield 38, 3) := by decide +kernel
theorem dX4_init_48 : decode cX4_init 48 = .ok (.aload_n 0, 1) := by decide +kernel
theorem dX4_init_49 : decode cX4_init 49 = .ok (.iconst 0, 1) := by decide +kernel
theorem dX4_init_50 : decode cX4_init 50 = .ok (.putfield 41, 3) := by decide +kernel
theorem dX4_init_53 : decode cX4_init 53 = .ok (.aload_n 0, 1) := by decide +kernel
theorem dX4_init_54 : decode cX4_init 54 = .ok (.iconst 0, 1) := by decide +kernel
theorem dX4_init_55 : decode cX4_init 55 = .ok (.putfield 44, 3) := by decide +kernel
theorem dX4_init_58 : decode cX4_init 58 = .ok (.aload_n 0, 1) := by decide +kernel
theorem dX4_init_59 : decode cX4_init 59 = .ok (.bipush 9, 2) := by decide +kernel
theorem dX4_init_61 : decode cX4_init 61 = .ok (.putfield 47, 3) := by decide +kernel
theorem dX4_init_64 : decode cX4_init 64 = .ok (.aload_n 0, 1) := by decide +kernel
theorem dX4_init_65 : decode cX4_init 65 = .ok (.iconst 0, 1) := by decide +kernel
theorem dX4_init_66 : decode cX4_init 66 = .ok (.putfield 50, 3) := by decide +kernel
theorem dX4_init_69 : decode cX4_init 69 = .ok (.aload_n 0, 1) := by decide +kernel
theorem dX4_init_70 : decode cX4_init 70 = .ok (.iconst 0, 1) := by decide +kernel
theorem dX4_init_71 : decode cX4_init 71 = .ok (.putfield 53, 3) := by decide +kernel
theorem dX4_init_74 : decode cX4_init 74 = .ok (.aload_n 0, 1) := by decide +kernel
theorem dX4_init_75 : decode cX4_init 75 = .ok (.iconst 0, 1) := by decide +kernel
theorem dX4_init_76 : decode cX4_init 76 = .ok (.putfield 56, 3) := by decide +kernel
theorem dX4_init_79 : decode cX4_init 79 = .ok (.aload_n 0, 1) := by decide +kernel
theorem dX4_init_80 : decode cX4_init 80 = .ok (.iconst 0, 1) := by decide +kernel
theorem dX4_init_81 : decode cX4_init 81 = .ok (.putfield 59, 3) := by decide +kernel
theorem dX4_init_84 : decode cX4_init 84 = .ok (.iconst 0, 1) := by decide +kernel
theorem dX4_init_85 : decode cX4_init 85 = .ok (.istore_n 1, 1) := by decide +kernel
theorem dX4_init_86 : decode cX4_init 86 = .ok (.iload_n 1, 1) := by decide +kernel
theorem dX4_init_87 : decode cX4_init 87 = .ok (.iconst 4, 1) := by decide +kernel
theorem dX4_init_88 : decode cX4_init 88 = .ok (.if_icmp .ge 18, 3) := by decide +kernel
theorem dX4_init_91 : decode cX4_init 91 = .ok (.aload_n 0, 1) := by decide +kernel
theorem dX4_init_92 : decode cX4_init 92 = .ok (.getfield 30, 3) := by decide +kernel
theorem dX4_init_95 : decode cX4_init 95 = .ok (.iload_n 1, 1) := by decide +kernel
theorem dX4_init_96 : decode cX4_init 96 = .ok (.iconst 2, 1) := by decide +kernel
theorem dX4_init_97 : decode cX4_init 97 = .ok (.invokevirtual 62, 3) := by decide +kernel
theorem dX4_init_100 : decode cX4_init 100 = .ok (.iinc 1 1, 3) := by decide +kernel
theorem dX4_init_103 : decode cX4_init 103 = .ok (.goto (-17), 3) := by decide +kernel
theorem dX4_init_106 : decode cX4_init 106 = .ok (.return_, 1) := by decide +kernel
theorem dX4_reachBehind_0 : decode cX4_reachBehind 0 = .ok (.bipush 30, 2) := by decide +kernel
theorem dX4_reachBehind_2 : decode cX4_reachBehind 2 = .ok (.iload_n 0, 1) := by decide +kernel
theorem dX4_reachBehind_3 : decode cX4_reachBehind 3 = .ok (.iload_n 1, 1) := by decide +kernel
theorem dX4_reachBehind_4 : decode cX4_reachBehind 4 = .ok (.iadd, 1) := by decide +kernel
theorem dX4_reachBehind_5 : decode cX4_reachBehind 5 = .ok (.invokestatic 66, 3) := by decide +kernel
theorem dX4_reachBehind_8 : decode cX4_reachBehind 8 = .ok (.ireturn, 1) := by decide +kernel
theorem dX4_groansOf_0 : decode cX4_groansOf 0 = .ok (.iconst 1, 1) := by decide +kernel
theorem dX4_groansOf_1 : decode cX4_groansOf 1 = .ok (.iload_n 0, 1) := by decide +kernel
theorem dX4_groansOf_2 : decode cX4_groansOf 2 = .ok (.bipush 10, 2) := by decide +kernel
theorem dX4_groansOf_4 : decode cX4_groansOf 4 = .ok (.idiv, 1) := by decide +kernel
theorem dX4_groansOf_5 : decode cX4_groansOf 5 = .ok (.iadd, 1) := by decide +kernel
theorem dX4_groansOf_6 : decode cX4_groansOf 6 = .ok (.ireturn, 1) := by decide +kernel
theorem dX4_laughOf_0 : decode cX4_laughOf 0 = .ok (.aload_n 0, 1) := by decide +kernel
theorem dX4_laughOf_1 : decode cX4_laughOf 1 = .ok (.getfield 12, 3) := by decide +kernel
theorem dX4_laughOf_4 : decode cX4_laughOf 4 = .ok (.getfield 72, 3) := by decide +kernel
theorem dX4_laughOf_7 : decode cX4_laughOf 7 = .ok (.iload_n 1, 1) := by decide +kernel
theorem dX4_laughOf_8 : decode cX4_laughOf 8 = .ok (.invokevirtual 75, 3) := by decide +kernel
theorem dX4_laughOf_11 : decode cX4_laughOf 11 = .ok (.i2f, 1) := by decide +kernel
theorem dX4_laughOf_12 : decode cX4_laughOf 12 = .ok (.fstore_n 3, 1) := by decide +kernel
theorem dX4_laughOf_13 : decode cX4_laughOf 13 = .ok (.aload_n 0, 1) := by decide +kernel
theorem dX4_laughOf_14 : decode cX4_laughOf 14 = .ok (.getfield 12, 3) := by decide +kernel
theorem dX4_laughOf_17 : decode cX4_laughOf 17 = .ok (.getfield 79, 3) := by decide +kernel
theorem dX4_laughOf_20 : decode cX4_laughOf 20 = .ok (.iload_n 1, 1) := by decide +kernel
theorem dX4_laughOf_21 : decode cX4_laughOf 21 = .ok (.invokevirtual 75, 3) := by decide +kernel
theorem dX4_laughOf_24 : decode cX4_laughOf 24 = .ok (.ifCond .eq 8, 3) := by decide +kernel
theorem dX4_laughOf_27 : decode cX4_laughOf 27 = .ok (.fload_n 3, 1) := by decide +kernel
theorem dX4_laughOf_28 : decode cX4_laughOf 28 = .ok (.ldc 82, 2) := by decide +kernel
theorem dX4_laughOf_30 : decode cX4_laughOf 30 = .ok (.fmul, 1) := by decide +kernel
theorem dX4_laughOf_31 : decode cX4_laughOf 31 = .ok (.fstore_n 3, 1) := by decide +kernel
theorem dX4_laughOf_32 : decode cX4_laughOf 32 = .ok (.fload_n 3, 1) := by decide +kernel
theorem dX4_laughOf_33 : decode cX4_laughOf 33 = .ok (.fconst 1, 1) := by decide +kernel
theorem dX4_laughOf_34 : decode cX4_laughOf 34 = .ok (.iload_n 2, 1) := by decide +kernel
theorem dX4_laughOf_35 : decode cX4_laughOf 35 = .ok (.i2f, 1) := by decide +kernel
theorem dX4_laughOf_36 : decode cX4_laughOf 36 = .ok (.ldc 83, 2) := by decide +kernel
theorem dX4_laughOf_38 : decode cX4_laughOf 38 = .ok (.fdiv, 1) := by decide +kernel
theorem dX4_laughOf_39 : decode cX4_laughOf 39 = .ok (.fadd, 1) := by decide +kernel
theorem dX4_laughOf_40 : decode cX4_laughOf 40 = .ok (.fdiv, 1) := by decide +kernel
theorem dX4_laughOf_41 : decode cX4_laughOf 41 = .ok (.freturn, 1) := by decide +kernel
theorem dX4_makeStroke_0 : decode cX4_makeStroke 0 = .ok (.aload_n 0, 1) := by decide +kernel
theorem dX4_makeStroke_1 : decode cX4_makeStroke 1 = .ok (.aload_n 0, 1) := by decide +kernel
theorem dX4_makeStroke_2 : decode cX4_makeStroke 2 = .ok (.getfield 41, 3) := by decide +kernel
theorem dX4_makeStroke_5 : decode cX4_makeStroke 5 = .ok (.aload_n 0, 1) := by decide +kernel
theorem dX4_makeStroke_6 : decode cX4_makeStroke 6 = .ok (.getfield 38, 3) := by decide +kernel
theorem dX4_makeStroke_9 : decode cX4_makeStroke 9 = .ok (.invokestatic 84, 3) := by decide +kernel
theorem dX4_makeStroke_12 : decode cX4_makeStroke 12 = .ok (.putfield 41, 3) := by decide +kernel
theorem dX4_makeStroke_15 : decode cX4_makeStroke 15 = .ok (.aload_n 0, 1) := by decide +kernel
theorem dX4_makeStroke_16 : decode cX4_makeStroke 16 = .ok (.dup, 1) := by decide +kernel
theorem dX4_makeStroke_17 : decode cX4_makeStroke 17 = .ok (.getfield 44, 3) := by decide +kernel
theorem dX4_makeStroke_20 : decode cX4_makeStroke 20 = .ok (.aload_n 0, 1) := by decide +kernel
theorem dX4_makeStroke_21 : decode cX4_makeStroke 21 = .ok (.getfield 41, 3) := by decide +kernel
theorem dX4_makeStroke_24 : decode cX4_makeStroke 24 = .ok (.invokestatic 87, 3) := by decide +kernel
theorem dX4_makeStroke_27 : decode cX4_makeStroke 27 = .ok (.iadd, 1) := by decide +kernel
theorem dX4_makeStroke_28 : decode cX4_makeStroke 28 = .ok (.putfield 44, 3) := by decide +kernel
theorem dX4_makeStroke_31 : decode cX4_makeStroke 31 = .ok (.aload_n 0, 1) := by decide +kernel
theorem dX4_makeStroke_32 : decode cX4_makeStroke 32 = .ok (.dup, 1) := by decide +kernel
theorem dX4_makeStroke_33 : decode cX4_makeStroke 33 = .ok (.getfield 56, 3) := by decide +kernel
theorem dX4_makeStroke_36 : decode cX4_makeStroke 36 = .ok (.iconst 1, 1) := by decide +kernel
theorem dX4_makeStroke_37 : decode cX4_makeStroke 37 = .ok (.iadd, 1) := by decide +kernel
theorem dX4_makeStroke_38 : decode cX4_makeStroke 38 = .ok (.putfield 56, 3) := by decide +kernel
theorem dX4_makeStroke_41 : decode cX4_makeStroke 41 = .ok (.aload_n 0, 1) := by decide +kernel
theorem dX4_makeStroke_42 : decode cX4_makeStroke 42 = .ok (.getfield 12, 3) := by decide +kernel
theorem dX4_makeStroke_45 : decode cX4_makeStroke 45 = .ok (.aload_n 0, 1) := by decide +kernel
theorem dX4_makeStroke_46 : decode cX4_makeStroke 46 = .ok (.getfield 34, 3) := by decide +kernel
theorem dX4_makeStroke_49 : decode cX4_makeStroke 49 = .ok (.aload_n 0, 1) := by decide +kernel
theorem dX4_makeStroke_50 : decode cX4_makeStroke 50 = .ok (.getfield 41, 3) := by decide +kernel
theorem dX4_makeStroke_53 : decode cX4_makeStroke 53 = .ok (.invokevirtual 90, 3) := by decide +kernel
theorem dX4_makeStroke_56 : decode cX4_makeStroke 56 = .ok (.aload_n 0, 1) := by decide +kernel
theorem dX4_makeStroke_57 : decode cX4_makeStroke 57 = .ok (.getfield 30, 3) := by decide +kernel
theorem dX4_makeStroke_60 : decode cX4_makeStroke 60 = .ok (.aload_n 0, 1) := by decide +kernel
theorem dX4_makeStroke_61 : decode cX4_makeStroke 61 = .ok (.getfield 34, 3) := by decide +kernel
theorem dX4_makeStroke_64 : decode cX4_makeStroke 64 = .ok (.invokevirtual 75, 3) := by decide +kernel
theorem dX4_makeStroke_67 : decode cX4_makeStroke 67 = .ok (.invokestatic 66, 3) := by decide +kernel
theorem dX4_makeStroke_70 : decode cX4_makeStroke 70 = .ok (.istore_n 1, 1) := by decide +kernel
theorem dX4_makeStroke_71 : decode cX4_makeStroke 71 = .ok (.iconst 0, 1) := by decide +kernel
theorem dX4_makeStroke_72 : decode cX4_makeStroke 72 = .ok (.istore_n 2, 1) := by decide +kernel
theorem dX4_makeStroke_73 : decode cX4_makeStroke 73 = .ok (.iload_n 2, 1) := by decide +kernel
theorem dX4_makeStroke_74 : decode cX4_makeStroke 74 = .ok (.iload_n 1, 1) := by decide +kernel
theorem dX4_makeStroke_75 : decode cX4_makeStroke 75 = .ok (.if_icmp .ge 25, 3) := by decide +kernel
theorem dX4_makeStroke_78 : decode cX4_makeStroke 78 = .ok (.aload_n 0, 1) := by decide +kernel
theorem dX4_makeStroke_79 : decode cX4_makeStroke 79 = .ok (.aload_n 0, 1) := by decide +kernel
theorem dX4_makeStroke_80 : decode cX4_makeStroke 80 = .ok (.getfield 12, 3) := by decide +kernel
theorem dX4_makeStroke_83 : decode cX4_makeStroke 83 = .ok (.aload_n 0, 1) := by decide +kernel
theorem dX4_makeStroke_84 : decode cX4_makeStroke 84 = .ok (.getfield 34, 3) := by decide +kernel
theorem dX4_makeStroke_87 : decode cX4_makeStroke 87 = .ok (.iconst 0, 1) := by decide +kernel
theorem dX4_makeStroke_88 : decode cX4_makeStroke 88 = .ok (.invokevirtual 93, 3) := by decide +kernel
theorem dX4_makeStroke_91 : decode cX4_makeStroke 91 = .ok (.invokevirtual 96, 3) := by decide +kernel
theorem dX4_makeStroke_94 : decode cX4_makeStroke 94 = .ok (.iinc 2 1, 3) := by decide +kernel
theorem dX4_makeStroke_97 : decode cX4_makeStroke 97 = .ok (.goto (-24), 3) := by decide +kernel
theorem dX4_makeStroke_100 : decode cX4_makeStroke 100 = .ok (.iload_n 1, 1) := by decide +kernel
theorem dX4_makeStroke_101 : decode cX4_makeStroke 101 = .ok (.ireturn, 1) := by decide +kernel
theorem dX4_lift_0 : decode cX4_lift 0 = .ok (.aload_n 0, 1) := by decide +kernel
theorem dX4_lift_1 : decode cX4_lift 1 = .ok (.getfield 21, 3) := by decide +kernel
theorem dX4_lift_4 : decode cX4_lift 4 = .ok (.aload_n 0, 1) := by decide +kernel
theorem dX4_lift_5 : decode cX4_lift 5 = .ok (.getfield 12, 3) := by decide +kernel
theorem dX4_lift_8 : decode cX4_lift 8 = .ok (.getfield 99, 3) := by decide +kernel
theorem dX4_lift_11 : decode cX4_lift 11 = .ok (.iload_n 1, 1) := by decide +kernel
theorem dX4_lift_12 : decode cX4_lift 12 = .ok (.invokevirtual 75, 3) := by decide +kernel
theorem dX4_lift_15 : decode cX4_lift 15 = .ok (.aload_n 0, 1) := by decide +kernel
theorem dX4_lift_16 : decode cX4_lift 16 = .ok (.getfield 12, 3) := by decide +kernel
theorem dX4_lift_19 : decode cX4_lift 19 = .ok (.getfield 102, 3) := by decide +kernel
theorem dX4_lift_22 : decode cX4_lift 22 = .ok (.iload_n 1, 1) := by decide +kernel
theorem dX4_lift_23 : decode cX4_lift 23 = .ok (.invokevirtual 75, 3) := by decide +kernel
theorem dX4_lift_26 : decode cX4_lift 26 = .ok (.aload_n 0, 1) := by decide +kernel
theorem dX4_lift_27 : decode cX4_lift 27 = .ok (.iload_n 1, 1) := by decide +kernel
theorem dX4_lift_28 : decode cX4_lift 28 = .ok (.aload_n 0, 1) := by decide +kernel
theorem dX4_lift_29 : decode cX4_lift 29 = .ok (.getfield 44, 3) := by decide +kernel
theorem dX4_lift_32 : decode cX4_lift 32 = .ok (.invokevirtual 105, 3) := by decide +kernel
theorem dX4_lift_35 : decode cX4_lift 35 = .ok (.invokevirtual 109, 3) := by decide +kernel
theorem dX4_lift_38 : decode cX4_lift 38 = .ok (.aload_n 0, 1) := by decide +kernel
theorem dX4_lift_39 : decode cX4_lift 39 = .ok (.getfield 12, 3) := by decide +kernel
theorem dX4_lift_42 : decode cX4_lift 42 = .ok (.iload_n 1, 1) := by decide +kernel
theorem dX4_lift_43 : decode cX4_lift 43 = .ok (.invokevirtual 113, 3) := by decide +kernel
theorem dX4_lift_46 : decode cX4_lift 46 = .ok (.return_, 1) := by decide +kernel
theorem dX4_copy_0 : decode cX4_copy 0 = .ok (.aload_n 0, 1) := by decide +kernel
theorem dX4_copy_1 : decode cX4_copy 1 = .ok (.ifnull 7, 3) := by decide +kernel
theorem dX4_copy_4 : decode cX4_copy 4 = .ok (.aload_n 1, 1) := by decide +kernel
theorem dX4_copy_5 : decode cX4_copy 5 = .ok (.ifnonnull 4, 3) := by decide +kernel
theorem dX4_copy_8 : decode cX4_copy 8 = .ok (.return_, 1) := by decide +kernel
theorem dX4_copy_9 : decode cX4_copy 9 = .ok (.aload_n 0, 1) := by decide +kernel
theorem dX4_copy_10 : decode cX4_copy 10 = .ok (.getfield 12, 3) := by decide +kernel
theorem dX4_copy_13 : decode cX4_copy 13 = .ok (.aload_n 1, 1) := by decide +kernel
theorem dX4_copy_14 : decode cX4_copy 14 = .ok (.getfield 12, 3) := by decide +kernel
theorem dX4_copy_17 : decode cX4_copy 17 = .ok (.invokestatic 116, 3) := by decide +kernel
theorem dX4_copy_20 : decode cX4_copy 20 = .ok (.aload_n 0, 1) := by decide +kernel
theorem dX4_copy_21 : decode cX4_copy 21 = .ok (.getfield 21, 3) := by decide +kernel
theorem dX4_copy_24 : decode cX4_copy 24 = .ok (.aload_n 1, 1) := by decide +kernel
theorem dX4_copy_25 : decode cX4_copy 25 = .ok (.getfield 21, 3) := by decide +kernel
theorem dX4_copy_28 : decode cX4_copy 28 = .ok (.invokestatic 120, 3) := by decide +kernel
theorem dX4_copy_31 : decode cX4_copy 31 = .ok (.aload_n 0, 1) := by decide +kernel
theorem dX4_copy_32 : decode cX4_copy 32 = .ok (.getfield 30, 3) := by decide +kernel
theorem dX4_copy_35 : decode cX4_copy 35 = .ok (.aload_n 1, 1) := by decide +kernel
theorem dX4_copy_36 : decode cX4_copy 36 = .ok (.getfield 30, 3) := by decide +kernel
theorem dX4_copy_39 : decode cX4_copy 39 = .ok (.invokestatic 123, 3) := by decide +kernel
theorem dX4_copy_42 : decode cX4_copy 42 = .ok (.aload_n 1, 1) := by decide +kernel
theorem dX4_copy_43 : decode cX4_copy 43 = .ok (.aload_n 0, 1) := by decide +kernel
theorem dX4_copy_44 : decode cX4_copy 44 = .ok (.getfield 34, 3) := by decide +kernel
theorem dX4_copy_47 : decode cX4_copy 47 = .ok (.putfield 34, 3) := by decide +kernel
theorem dX4_copy_50 : decode cX4_copy 50 = .ok (.aload_n 1, 1) := by decide +kernel
theorem dX4_copy_51 : decode cX4_copy 51 = .ok (.aload_n 0, 1) := by decide +kernel
theorem dX4_copy_52 : decode cX4_copy 52 = .ok (.getfield 38, 3) := by decide +kernel
theorem dX4_copy_55 : decode cX4_copy 55 = .ok (.putfield 38, 3) := by decide +kernel
theorem dX4_copy_58 : decode cX4_copy 58 = .ok (.aload_n 1, 1) := by decide +kernel
theorem dX4_copy_59 : decode cX4_copy 59 = .ok (.aload_n 0, 1) := by decide +kernel
theorem dX4_copy_60 : decode cX4_copy 60 = .ok (.getfield 41, 3) := by decide +kernel
theorem dX4_copy_63 : decode cX4_copy 63 = .ok (.putfield 41, 3) := by decide +kernel
theorem dX4_copy_66 : decode cX4_copy 66 = .ok (.aload_n 1, 1) := by decide +kernel
theorem dX4_copy_67 : decode cX4_copy 67 = .ok (.aload_n 0, 1) := by decide +kernel
theorem dX4_copy_68 : decode cX4_copy 68 = .ok (.getfield 44, 3) := by decide +kernel
theorem dX4_copy_71 : decode cX4_copy 71 = .ok (.putfield 44, 3) := by decide +kernel
theorem dX4_copy_74 : decode cX4_copy 74 = .ok (.aload_n 1, 1) := by decide +kernel
theorem dX4_copy_75 : decode cX4_copy 75 = .ok (.aload_n 0, 1) := by decide +kernel
theorem dX4_copy_76 : decode cX4_copy 76 = .ok (.getfield 47, 3) := by decide +kernel
theorem dX4_copy_79 : decode cX4_copy 79 = .ok (.putfield 47, 3) := by decide +kernel
theorem dX4_copy_82 : decode cX4_copy 82 = .ok (.aload_n 1, 1) := by decide +kernel
theorem dX4_copy_83 : decode cX4_copy 83 = .ok (.aload_n 0, 1) := by decide +kernel
theorem dX4_copy_84 : decode cX4_copy 84 = .ok (.getfield 50, 3) := by decide +kernel
theorem dX4_copy_87 : decode cX4_copy 87 = .ok (.putfield 50, 3) := by decide +kernel
theorem dX4_copy_90 : decode cX4_copy 90 = .ok (.aload_n 1, 1) := by decide +kernel
theorem dX4_copy_91 : decode cX4_copy 91 = .ok (.aload_n 0, 1) := by decide +kernel
theorem dX4_copy_92 : decode cX4_copy 92 = .ok (.getfield 53, 3) := by decide +kernel
theorem dX4_copy_95 : decode cX4_copy 95 = .ok (.putfield 53, 3) := by decide +kernel
theorem dX4_copy_98 : decode cX4_copy 98 = .ok (.aload_n 1, 1) := by decide +kernel
theorem dX4_copy_99 : decode cX4_copy 99 = .ok (.aload_n 0, 1) := by decide +kernel
theorem dX4_copy_100 : decode cX4_copy 100 = .ok (.getfield 56, 3) := by decide +kernel
theorem dX4_copy_103 : decode cX4_copy 103 = .ok (.putfield 56, 3) := by decide +kernel
theorem dX4_copy_106 : decode cX4_copy 106 = .ok (.aload_n 1, 1) := by decide +kernel
theorem dX4_copy_107 : decode cX4_copy 107 = .ok (.aload_n 0, 1) := by decide +kernel
theorem dX4_copy_108 : decode cX4_copy 108 = .ok (.getfield 59, 3) := by decide +kernel
theorem dX4_copy_111 : decode cX4_copy 111 = .ok (.putfield 59, 3) := by decide +kernel
theorem dX4_copy_114 : decode cX4_copy 114 = .ok (.return_, 1) := by decide +kernel
theorem dX5_init_0 : decode cX5_init 0 = .ok (.aload_n 0, 1) := by decide +kernel
theorem dX5_init_1 : decode cX5_init 1 = .ok (.invokespecial 3, 3) := by decide +kernel
theorem dX5_init_4 : decode cX5_init 4 = .ok (.aload_n 0, 1) := by decide +kernel
theorem dX5_init_5 : decode cX5_init 5 = .ok (.bipush 60, 2) := by decide +kernel
theorem dX5_init_7 : decode cX5_init 7 = .ok (.newarray .char, 2) := by decide +kernel
theorem dX5_init_9 : decode cX5_init 9 = .ok (.putfield 9, 3) := by decide +kernel
theorem dX5_init_12 : decode cX5_init 12 = .ok (.aload_n 0, 1) := by decide +kernel
theorem dX5_init_13 : decode cX5_init 13 = .ok (.iconst 0, 1) := by decide +kernel
theorem dX5_init_14 : decode cX5_init 14 = .ok (.putfield 15, 3) := by decide +kernel
theorem dX5_init_17 : decode cX5_init 17 = .ok (.return_, 1) := by decide +kernel
theorem dX5_clear_0 : decode cX5_clear 0 = .ok (.aload_n 0, 1) := by decide +kernel
theorem dX5_clear_1 : decode cX5_clear 1 = .ok (.iconst 0, 1) := by decide +kernel
theorem dX5_clear_2 : decode cX5_clear 2 = .ok (.putfield 15, 3) := by decide +kernel
theorem dX5_clear_5 : decode cX5_clear 5 = .ok (.return_, 1) := by decide +kernel
theorem dX5_putSign_0 : decode cX5_putSign 0 = .ok (.aload_n 0, 1) := by decide +kernel
theorem dX5_putSign_1 : decode cX5_putSign 1 = .ok (.getfield 15, 3) := by decide +kernel
theorem dX5_putSign_4 : decode cX5_putSign 4 = .ok (.ifCond .lt 35, 3) := by decide +kernel
theorem dX5_putSign_7 : decode cX5_putSign 7 = .ok (.aload_n 0, 1) := by decide +kernel
theorem dX5_putSign_8 : decode cX5_putSign 8 = .ok (.getfield 15, 3) := by decide +kernel
theorem dX5_putSign_11 : decode cX5_putSign 11 = .ok (.aload_n 0, 1) := by decide +kernel
theorem dX5_putSign_12 : decode cX5_putSign 12 = .ok (.getfield 9, 3) := by decide +kernel
theorem dX5_putSign_15 : decode cX5_putSign 15 = .ok (.arraylength, 1) := by decide +kernel
theorem dX5_putSign_16 : decode cX5_putSign 16 = .ok (.if_icmp .ge 23, 3) := by decide +kernel
theorem dX5_putSign_19 : decode cX5_putSign 19 = .ok (.aload_n 0, 1) := by decide +kernel
theorem dX5_putSign_20 : decode cX5_putSign 20 = .ok (.getfield 9, 3) := by decide +kernel
theorem dX5_putSign_23 : decode cX5_putSign 23 = .ok (.aload_n 0, 1) := by decide +kernel
theorem dX5_putSign_24 : decode cX5_putSign 24 = .ok (.getfield 15, 3) := by decide +kernel
theorem dX5_putSign_27 : decode cX5_putSign 27 = .ok (.iload_n 1, 1) := by decide +kernel
theorem dX5_putSign_28 : decode cX5_putSign 28 = .ok (.castore, 1) := by decide +kernel
theorem dX5_putSign_29 : decode cX5_putSign 29 = .ok (.aload_n 0, 1) := by decide +kernel
theorem dX5_putSign_30 : decode cX5_putSign 30 = .ok (.dup, 1) := by decide +kernel
theorem dX5_putSign_31 : decode cX5_putSign 31 = .ok (.getfield 15, 3) := by decide +kernel
theorem dX5_putSign_34 : decode cX5_putSign 34 = .ok (.iconst 1, 1) := by decide +kernel
theorem dX5_putSign_35 : decode cX5_putSign 35 = .ok (.iadd, 1) := by decide +kernel
theorem dX5_putSign_36 : decode cX5_putSign 36 = .ok (.putfield 15, 3) := by decide +kernel
theorem dX5_putSign_39 : decode cX5_putSign 39 = .ok (.return_, 1) := by decide +kernel
theorem dX5_putNumber_0 : decode cX5_putNumber 0 = .ok (.iload_n 1, 1) := by decide +kernel
theorem dX5_putNumber_1 : decode cX5_putNumber 1 = .ok (.bipush 10, 2) := by decide +kernel
theorem dX5_putNumber_3 : decode cX5_putNumber 3 = .ok (.if_icmp .lt 15, 3) := by decide +kernel
theorem dX5_putNumber_6 : decode cX5_putNumber 6 = .ok (.aload_n 0, 1) := by decide +kernel
theorem dX5_putNumber_7 : decode cX5_putNumber 7 = .ok (.bipush 48, 2) := by decide +kernel
theorem dX5_putNumber_9 : decode cX5_putNumber 9 = .ok (.iload_n 1, 1) := by decide +kernel
theorem dX5_putNumber_10 : decode cX5_putNumber 10 = .ok (.bipush 10, 2) := by decide +kernel
theorem dX5_putNumber_12 : decode cX5_putNumber 12 = .ok (.idiv, 1) := by decide +kernel
theorem dX5_putNumber_13 : decode cX5_putNumber 13 = .ok (.iadd, 1) := by decide +kernel
theorem dX5_putNumber_14 : decode cX5_putNumber 14 = .ok (.i2c, 1) := by decide +kernel
theorem dX5_putNumber_15 : decode cX5_putNumber 15 = .ok (.invokevirtual 19, 3) := by decide +kernel
theorem dX5_putNumber_18 : decode cX5_putNumber 18 = .ok (.aload_n 0, 1) := by decide +kernel
theorem dX5_putNumber_19 : decode cX5_putNumber 19 = .ok (.bipush 48, 2) := by decide +kernel
theorem dX5_putNumber_21 : decode cX5_putNumber 21 = .ok (.iload_n 1, 1) := by decide +kernel
theorem dX5_putNumber_22 : decode cX5_putNumber 22 = .ok (.bipush 10, 2) := by decide +kernel
theorem dX5_putNumber_24 : decode cX5_putNumber 24 = .ok (.irem, 1) := by decide +kernel
theorem dX5_putNumber_25 : decode cX5_putNumber 25 = .ok (.iadd, 1) := by decide +kernel
theorem dX5_putNumber_26 : decode cX5_putNumber 26 = .ok (.i2c, 1) := by decide +kernel
theorem dX5_putNumber_27 : decode cX5_putNumber 27 = .ok (.invokevirtual 19, 3) := by decide +kernel
theorem dX5_putNumber_30 : decode cX5_putNumber 30 = .ok (.return_, 1) := by decide +kernel
theorem dX5_signAt_0 : decode cX5_signAt 0 = .ok (.iload_n 1, 1) := by decide +kernel
theorem dX5_signAt_1 : decode cX5_signAt 1 = .ok (.ifCond .lt 29, 3) := by decide +kernel
theorem dX5_signAt_4 : decode cX5_signAt 4 = .ok (.iload_n 1, 1) := by decide +kernel
theorem dX5_signAt_5 : decode cX5_signAt 5 = .ok (.aload_n 0, 1) := by decide +kernel
theorem dX5_signAt_6 : decode cX5_signAt 6 = .ok (.getfield 15, 3) := by decide +kernel
theorem dX5_signAt_9 : decode cX5_signAt 9 = .ok (.if_icmp .ge 21, 3) := by decide +kernel
theorem dX5_signAt_12 : decode cX5_signAt 12 = .ok (.iload_n 1, 1) := by decide +kernel
theorem dX5_signAt_13 : decode cX5_signAt 13 = .ok (.aload_n 0, 1) := by decide +kernel
theorem dX5_signAt_14 : decode cX5_signAt 14 = .ok (.getfield 9, 3) := by decide +kernel
theorem dX5_signAt_17 : decode cX5_signAt 17 = .ok (.arraylength, 1) := by decide +kernel
theorem dX5_signAt_18 : decode cX5_signAt 18 = .ok (.if_icmp .ge 12, 3) := by decide +kernel
theorem dX5_signAt_21 : decode cX5_signAt 21 = .ok (.aload_n 0, 1) := by decide +kernel
theorem dX5_signAt_22 : decode cX5_signAt 22 = .ok (.getfield 9, 3) := by decide +kernel
theorem dX5_signAt_25 : decode cX5_signAt 25 = .ok (.iload_n 1, 1) := by decide +kernel
theorem dX5_signAt_26 : decode cX5_signAt 26 = .ok (.caload, 1) := by decide +kernel
theorem dX5_signAt_27 : decode cX5_signAt 27 = .ok (.goto 4, 3) := by decide +kernel
theorem dX5_signAt_30 : decode cX5_signAt 30 = .ok (.iconst (-1), 1) := by decide +kernel
theorem dX5_signAt_31 : decode cX5_signAt 31 = .ok (.ireturn, 1) := by decide +kernel
theorem dX6_init_0 : decode cX6_init 0 = .ok (.aload_n 0, 1) := by decide +kernel
theorem dX6_init_1 : decode cX6_init 1 = .ok (.invokespecial 3, 3) := by decide +kernel
theorem dX6_init_4 : decode cX6_init 4 = .ok (.aload_n 0, 1) := by decide +kernel
theorem dX6_init_5 : decode cX6_init 5 = .ok (.iconst 0, 1) := by decide +kernel
theorem dX6_init_6 : decode cX6_init 6 = .ok (.putfield 9, 3) := by decide +kernel
theorem dX6_init_9 : decode cX6_init 9 = .ok (.aload_n 0, 1) := by decide +kernel
theorem dX6_init_10 : decode cX6_init 10 = .ok (.fconst 0, 1) := by decide +kernel
theorem dX6_init_11 : decode cX6_init 11 = .ok (.putfield 15, 3) := by decide +kernel
theorem dX6_init_14 : decode cX6_init 14 = .ok (.aload_n 0, 1) := by decide +kernel
theorem dX6_init_15 : decode cX6_init 15 = .ok (.new 19, 3) := by decide +kernel
theorem dX6_init_18 : decode cX6_init 18 = .ok (.dup, 1) := by decide +kernel
theorem dX6_init_19 : decode cX6_init 19 = .ok (.bipush 64, 2) := by decide +kernel
theorem dX6_init_21 : decode cX6_init 21 = .ok (.invokespecial 21, 3) := by decide +kernel
theorem dX6_init_24 : decode cX6_init 24 = .ok (.putfield 24, 3) := by decide +kernel
theorem dX6_init_27 : decode cX6_init 27 = .ok (.aload_n 0, 1) := by decide +kernel
theorem dX6_init_28 : decode cX6_init 28 = .ok (.new 19, 3) := by decide +kernel
theorem dX6_init_31 : decode cX6_init 31 = .ok (.dup, 1) := by decide +kernel
theorem dX6_init_32 : decode cX6_init 32 = .ok (.bipush 64, 2) := by decide +kernel
theorem dX6_init_34 : decode cX6_init 34 = .ok (.invokespecial 21, 3) := by decide +kernel
theorem dX6_init_37 : decode cX6_init 37 = .ok (.putfield 28, 3) := by decide +kernel
theorem dX6_init_40 : decode cX6_init 40 = .ok (.aload_n 0, 1) := by decide +kernel
theorem dX6_init_41 : decode cX6_init 41 = .ok (.bipush 64, 2) := by decide +kernel
theorem dX6_init_43 : decode cX6_init 43 = .ok (.newarray .float, 2) := by decide +kernel
theorem dX6_init_45 : decode cX6_init 45 = .ok (.putfield 31, 3) := by decide +kernel
theorem dX6_init_48 : decode cX6_init 48 = .ok (.aload_n 0, 1) := by decide +kernel
theorem dX6_init_49 : decode cX6_init 49 = .ok (.new 19, 3) := by decide +kernel
theorem dX6_init_52 : decode cX6_init 52 = .ok (.dup, 1) := by decide +kernel
theorem dX6_init_53 : decode cX6_init 53 = .ok (.bipush 64, 2) := by decide +kernel
theorem dX6_init_55 : decode cX6_init 55 = .ok (.invokespecial 21, 3) := by decide +kernel
theorem dX6_init_58 : decode cX6_init 58 = .ok (.putfield 35, 3) := by decide +kernel
theorem dX6_init_61 : decode cX6_init 61 = .ok (.return_, 1) := by decide +kernel
theorem dX6_add_0 : decode cX6_add 0 = .ok (.aload_n 0, 1) := by decide +kernel
theorem dX6_add_1 : decode cX6_add 1 = .ok (.getfield 9, 3) := by decide +kernel
theorem dX6_add_4 : decode cX6_add 4 = .ok (.ifCond .lt 78, 3) := by decide +kernel
theorem dX6_add_7 : decode cX6_add 7 = .ok (.aload_n 0, 1) := by decide +kernel
theorem dX6_add_8 : decode cX6_add 8 = .ok (.getfield 9, 3) := by decide +kernel
theorem dX6_add_11 : decode cX6_add 11 = .ok (.aload_n 0, 1) := by decide +kernel
theorem dX6_add_12 : decode cX6_add 12 = .ok (.getfield 31, 3) := by decide +kernel
theorem dX6_add_15 : decode cX6_add 15 = .ok (.arraylength, 1) := by decide +kernel
theorem dX6_add_16 : decode cX6_add 16 = .ok (.if_icmp .ge 66, 3) := by decide +kernel
theorem dX6_add_19 : decode cX6_add 19 = .ok (.aload_n 0, 1) := by decide +kernel
theorem dX6_add_20 : decode cX6_add 20 = .ok (.getfield 24, 3) := by decide +kernel
theorem dX6_add_23 : decode cX6_add 23 = .ok (.aload_n 0, 1) := by decide +kernel
theorem dX6_add_24 : decode cX6_add 24 = .ok (.getfield 9, 3) := by decide +kernel
theorem dX6_add_27 : decode cX6_add 27 = .ok (.iload_n 1, 1) := by decide +kernel
theorem dX6_add_28 : decode cX6_add 28 = .ok (.invokevirtual 38, 3) := by decide +kernel
theorem dX6_add_31 : decode cX6_add 31 = .ok (.aload_n 0, 1) := by decide +kernel
theorem dX6_add_32 : decode cX6_add 32 = .ok (.getfield 28, 3) := by decide +kernel
theorem dX6_add_35 : decode cX6_add 35 = .ok (.aload_n 0, 1) := by decide +kernel
theorem dX6_add_36 : decode cX6_add 36 = .ok (.getfield 9, 3) := by decide +kernel
theorem dX6_add_39 : decode cX6_add 39 = .ok (.iload_n 2, 1) := by decide +kernel
theorem dX6_add_40 : decode cX6_add 40 = .ok (.invokevirtual 38, 3) := by decide +kernel
theorem dX6_add_43 : decode cX6_add 43 = .ok (.aload_n 0, 1) := by decide +kernel
theorem dX6_add_44 : decode cX6_add 44 = .ok (.getfield 31, 3) := by decide +kernel
theorem dX6_add_47 : decode cX6_add 47 = .ok (.aload_n 0, 1) := by decide +kernel
theorem dX6_add_48 : decode cX6_add 48 = .ok (.getfield 9, 3) := by decide +kernel
theorem dX6_add_51 : decode cX6_add 51 = .ok (.fload_n 3, 1) := by decide +kernel
theorem dX6_add_52 : decode cX6_add 52 = .ok (.fastore, 1) := by decide +kernel
theorem dX6_add_53 : decode cX6_add 53 = .ok (.aload_n 0, 1) := by decide +kernel
theorem dX6_add_54 : decode cX6_add 54 = .ok (.getfield 35, 3) := by decide +kernel
theorem dX6_add_57 : decode cX6_add 57 = .ok (.iload_n 1, 1) := by decide +kernel
theorem dX6_add_58 : decode cX6_add 58 = .ok (.iconst 1, 1) := by decide +kernel
theorem dX6_add_59 : decode cX6_add 59 = .ok (.invokevirtual 38, 3) := by decide +kernel
theorem dX6_add_62 : decode cX6_add 62 = .ok (.aload_n 0, 1) := by decide +kernel
theorem dX6_add_63 : decode cX6_add 63 = .ok (.aload_n 0, 1) := by decide +kernel
theorem dX6_add_64 : decode cX6_add 64 = .ok (.getfield 15, 3) := by decide +kernel
theorem dX6_add_67 : decode cX6_add 67 = .ok (.fload_n 3, 1) := by decide +kernel
theorem dX6_add_68 : decode cX6_add 68 = .ok (.fadd, 1) := by decide +kernel
theorem dX6_add_69 : decode cX6_add 69 = .ok (.putfield 15, 3) := by decide +kernel
theorem dX6_add_72 : decode cX6_add 72 = .ok (.aload_n 0, 1) := by decide +kernel
theorem dX6_add_73 : decode cX6_add 73 = .ok (.dup, 1) := by decide +kernel
theorem dX6_add_74 : decode cX6_add 74 = .ok (.getfield 9, 3) := by decide +kernel
theorem dX6_add_77 : decode cX6_add 77 = .ok (.iconst 1, 1) := by decide +kernel
theorem dX6_add_78 : decode cX6_add 78 = .ok (.iadd, 1) := by decide +kernel
theorem dX6_add_79 : decode cX6_add 79 = .ok (.putfield 9, 3) := by decide +kernel
theorem dX6_add_82 : decode cX6_add 82 = .ok (.return_, 1) := by decide +kernel
theorem dX6_laughAt_0 : decode cX6_laughAt 0 = .ok (.iload_n 1, 1) := by decide +kernel
theorem dX6_laughAt_1 : decode cX6_laughAt 1 = .ok (.ifCond .lt 21, 3) := by decide +kernel
theorem dX6_laughAt_4 : decode cX6_laughAt 4 = .ok (.iload_n 1, 1) := by decide +kernel
theorem dX6_laughAt_5 : decode cX6_laughAt 5 = .ok (.aload_n 0, 1) := by decide +kernel
theorem dX6_laughAt_6 : decode cX6_laughAt 6 = .ok (.getfield 31, 3) := by decide +kernel
theorem dX6_laughAt_9 : decode cX6_laughAt 9 = .ok (.arraylength, 1) := by decide +kernel
theorem dX6_laughAt_10 : decode cX6_laughAt 10 = .ok (.if_icmp .ge 12, 3) := by decide +kernel
theorem dX6_laughAt_13 : decode cX6_laughAt 13 = .ok (.aload_n 0, 1) := by decide +kernel
theorem dX6_laughAt_14 : decode cX6_laughAt 14 = .ok (.getfield 31, 3) := by decide +kernel
theorem dX6_laughAt_17 : decode cX6_laughAt 17 = .ok (.iload_n 1, 1) := by decide +kernel
theorem dX6_laughAt_18 : decode cX6_laughAt 18 = .ok (.faload, 1) := by decide +kernel
theorem dX6_laughAt_19 : decode cX6_laughAt 19 = .ok (.goto 4, 3) := by decide +kernel
theorem dX6_laughAt_22 : decode cX6_laughAt 22 = .ok (.fconst 0, 1) := by decide +kernel
theorem dX6_laughAt_23 : decode cX6_laughAt 23 = .ok (.freturn, 1) := by decide +kernel
theorem dX6_sumAgain_0 : decode cX6_sumAgain 0 = .ok (.fconst 0, 1) := by decide +kernel
theorem dX6_sumAgain_1 : decode cX6_sumAgain 1 = .ok (.fstore_n 1, 1) := by decide +kernel
theorem dX6_sumAgain_2 : decode cX6_sumAgain 2 = .ok (.iconst 0, 1) := by decide +kernel
theorem dX6_sumAgain_3 : decode cX6_sumAgain 3 = .ok (.istore_n 2, 1) := by decide +kernel
theorem dX6_sumAgain_4 : decode cX6_sumAgain 4 = .ok (.iload_n 2, 1) := by decide +kernel
theorem dX6_sumAgain_5 : decode cX6_sumAgain 5 = .ok (.aload_n 0, 1) := by decide +kernel
theorem dX6_sumAgain_6 : decode cX6_sumAgain 6 = .ok (.getfield 9, 3) := by decide +kernel
theorem dX6_sumAgain_9 : decode cX6_sumAgain 9 = .ok (.if_icmp .ge 17, 3) := by decide +kernel
theorem dX6_sumAgain_12 : decode cX6_sumAgain 12 = .ok (.fload_n 1, 1) := by decide +kernel
theorem dX6_sumAgain_13 : decode cX6_sumAgain 13 = .ok (.aload_n 0, 1) := by decide +kernel
theorem dX6_sumAgain_14 : decode cX6_sumAgain 14 = .ok (.iload_n 2, 1) := by decide +kernel
theorem dX6_sumAgain_15 : decode cX6_sumAgain 15 = .ok (.invokevirtual 42, 3) := by decide +kernel
theorem dX6_sumAgain_18 : decode cX6_sumAgain 18 = .ok (.fadd, 1) := by decide +kernel
theorem dX6_sumAgain_19 : decode cX6_sumAgain 19 = .ok (.fstore_n 1, 1) := by decide +kernel
theorem dX6_sumAgain_20 : decode cX6_sumAgain 20 = .ok (.iinc 2 1, 3) := by decide +kernel
theorem dX6_sumAgain_23 : decode cX6_sumAgain 23 = .ok (.goto (-19), 3) := by decide +kernel
theorem dX6_sumAgain_26 : decode cX6_sumAgain 26 = .ok (.fload_n 1, 1) := by decide +kernel
theorem dX6_sumAgain_27 : decode cX6_sumAgain 27 = .ok (.freturn, 1) := by decide +kernel
theorem dX6_countFrom_0 : decode cX6_countFrom 0 = .ok (.iconst 0, 1) := by decide +kernel
theorem dX6_countFrom_1 : decode cX6_countFrom 1 = .ok (.istore_n 2, 1) := by decide +kernel
theorem dX6_countFrom_2 : decode cX6_countFrom 2 = .ok (.iconst 0, 1) := by decide +kernel
theorem dX6_countFrom_3 : decode cX6_countFrom 3 = .ok (.istore_n 3, 1) := by decide +kernel
theorem dX6_countFrom_4 : decode cX6_countFrom 4 = .ok (.iload_n 3, 1) := by decide +kernel
theorem dX6_countFrom_5 : decode cX6_countFrom 5 = .ok (.aload_n 0, 1) := by decide +kernel
theorem dX6_countFrom_6 : decode cX6_countFrom 6 = .ok (.getfield 9, 3) := by decide +kernel
theorem dX6_countFrom_9 : decode cX6_countFrom 9 = .ok (.if_icmp .ge 24, 3) := by decide +kernel
theorem dX6_countFrom_12 : decode cX6_countFrom 12 = .ok (.aload_n 0, 1) := by decide +kernel
theorem dX6_countFrom_13 : decode cX6_countFrom 13 = .ok (.getfield 28, 3) := by decide +kernel
theorem dX6_countFrom_16 : decode cX6_countFrom 16 = .ok (.iload_n 3, 1) := by decide +kernel
theorem dX6_countFrom_17 : decode cX6_countFrom 17 = .ok (.invokevirtual 46, 3) := by decide +kernel
theorem dX6_countFrom_20 : decode cX6_countFrom 20 = .ok (.iload_n 1, 1) := by decide +kernel
theorem dX6_countFrom_21 : decode cX6_countFrom 21 = .ok (.if_icmp .ne 6, 3) := by decide +kernel
theorem dX6_countFrom_24 : decode cX6_countFrom 24 = .ok (.iinc 2 1, 3) := by decide +kernel
theorem dX6_countFrom_27 : decode cX6_countFrom 27 = .ok (.iinc 3 1, 3) := by decide +kernel
theorem dX6_countFrom_30 : decode cX6_countFrom 30 = .ok (.goto (-26), 3) := by decide +kernel
theorem dX6_countFrom_33 : decode cX6_countFrom 33 = .ok (.iload_n 2, 1) := by decide +kernel
theorem dX6_countFrom_34 : decode cX6_countFrom 34 = .ok (.ireturn, 1) := by decide +kernel
theorem dX6_countKnown_0 : decode cX6_countKnown 0 = .ok (.iconst 0, 1) := by decide +kernel
theorem dX6_countKnown_1 : decode cX6_countKnown 1 = .ok (.istore_n 1, 1) := by decide +kernel
theorem dX6_countKnown_2 : decode cX6_countKnown 2 = .ok (.iconst 0, 1) := by decide +kernel
theorem dX6_countKnown_3 : decode cX6_countKnown 3 = .ok (.istore_n 2, 1) := by decide +kernel
theorem dX6_countKnown_4 : decode cX6_countKnown 4 = .ok (.iload_n 2, 1) := by decide +kernel
theorem dX6_countKnown_5 : decode cX6_countKnown 5 = .ok (.bipush 64, 2) := by decide +kernel
theorem dX6_countKnown_7 : decode cX6_countKnown 7 = .ok (.if_icmp .ge 20, 3) := by decide +kernel
theorem dX6_countKnown_10 : decode cX6_countKnown 10 = .ok (.iload_n 1, 1) := by decide +kernel
theorem dX6_countKnown_11 : decode cX6_countKnown 11 = .ok (.aload_n 0, 1) := by decide +kernel
theorem dX6_countKnown_12 : decode cX6_countKnown 12 = .ok (.getfield 35, 3) := by decide +kernel
theorem dX6_countKnown_15 : decode cX6_countKnown 15 = .ok (.iload_n 2, 1) := by decide +kernel
theorem dX6_countKnown_16 : decode cX6_countKnown 16 = .ok (.invokevirtual 46, 3) := by decide +kernel
theorem dX6_countKnown_19 : decode cX6_countKnown 19 = .ok (.iadd, 1) := by decide +kernel
theorem dX6_countKnown_20 : decode cX6_countKnown 20 = .ok (.istore_n 1, 1) := by decide +kernel
theorem dX6_countKnown_21 : decode cX6_countKnown 21 = .ok (.iinc 2 1, 3) := by decide +kernel
theorem dX6_countKnown_24 : decode cX6_countKnown 24 = .ok (.goto (-20), 3) := by decide +kernel
theorem dX6_countKnown_27 : decode cX6_countKnown 27 = .ok (.iload_n 1, 1) := by decide +kernel
theorem dX6_countKnown_28 : decode cX6_countKnown 28 = .ok (.ireturn, 1) := by decide +kernel
theorem dX6_copy_0 : decode cX6_copy 0 = .ok (.aload_n 1, 1) := by decide +kernel
theorem dX6_copy_1 : decode cX6_copy 1 = .ok (.aload_n 0, 1) := by decide +kernel
theorem dX6_copy_2 : decode cX6_copy 2 = .ok (.getfield 9, 3) := by decide +kernel
theorem dX6_copy_5 : decode cX6_copy 5 = .ok (.putfield 9, 3) := by decide +kernel
theorem dX6_copy_8 : decode cX6_copy 8 = .ok (.aload_n 1, 1) := by decide +kernel
theorem dX6_copy_9 : decode cX6_copy 9 = .ok (.aload_n 0, 1) := by decide +kernel
theorem dX6_copy_10 : decode cX6_copy 10 = .ok (.getfield 15, 3) := by decide +kernel
theorem dX6_copy_13 : decode cX6_copy 13 = .ok (.putfield 15, 3) := by decide +kernel
theorem dX6_copy_16 : decode cX6_copy 16 = .ok (.aload_n 0, 1) := by decide +kernel
theorem dX6_copy_17 : decode cX6_copy 17 = .ok (.getfield 24, 3) := by decide +kernel
theorem dX6_copy_20 : decode cX6_copy 20 = .ok (.aload_n 1, 1) := by decide +kernel
theorem dX6_copy_21 : decode cX6_copy 21 = .ok (.getfield 24, 3) := by decide +kernel
theorem dX6_copy_24 : decode cX6_copy 24 = .ok (.invokestatic 50, 3) := by decide +kernel
theorem dX6_copy_27 : decode cX6_copy 27 = .ok (.aload_n 0, 1) := by decide +kernel
theorem dX6_copy_28 : decode cX6_copy 28 = .ok (.getfield 28, 3) := by decide +kernel
theorem dX6_copy_31 : decode cX6_copy 31 = .ok (.aload_n 1, 1) := by decide +kernel
theorem dX6_copy_32 : decode cX6_copy 32 = .ok (.getfield 28, 3) := by decide +kernel
theorem dX6_copy_35 : decode cX6_copy 35 = .ok (.invokestatic 50, 3) := by decide +kernel
theorem dX6_copy_38 : decode cX6_copy 38 = .ok (.aload_n 0, 1) := by decide +kernel
theorem dX6_copy_39 : decode cX6_copy 39 = .ok (.getfield 35, 3) := by decide +kernel
theorem dX6_copy_42 : decode cX6_copy 42 = .ok (.aload_n 1, 1) := by decide +kernel
theorem dX6_copy_43 : decode cX6_copy 43 = .ok (.getfield 35, 3) := by decide +kernel
theorem dX6_copy_46 : decode cX6_copy 46 = .ok (.invokestatic 50, 3) := by decide +kernel
theorem dX6_copy_49 : decode cX6_copy 49 = .ok (.aload_n 0, 1) := by decide +kernel
theorem dX6_copy_50 : decode cX6_copy 50 = .ok (.getfield 31, 3) := by decide +kernel
theorem dX6_copy_53 : decode cX6_copy 53 = .ok (.iconst 0, 1) := by decide +kernel
theorem dX6_copy_54 : decode cX6_copy 54 = .ok (.aload_n 1, 1) := by decide +kernel
theorem dX6_copy_55 : decode cX6_copy 55 = .ok (.getfield 31, 3) := by decide +kernel
theorem dX6_copy_58 : decode cX6_copy 58 = .ok (.iconst 0, 1) := by decide +kernel
theorem dX6_copy_59 : decode cX6_copy 59 = .ok (.aload_n 0, 1) := by decide +kernel
theorem dX6_copy_60 : decode cX6_copy 60 = .ok (.getfield 31, 3) := by decide +kernel
theorem dX6_copy_63 : decode cX6_copy 63 = .ok (.arraylength, 1) := by decide +kernel
theorem dX6_copy_64 : decode cX6_copy 64 = .ok (.aload_n 1, 1) := by decide +kernel
theorem dX6_copy_65 : decode cX6_copy 65 = .ok (.getfield 31, 3) := by decide +kernel
theorem dX6_copy_68 : decode cX6_copy 68 = .ok (.arraylength, 1) := by decide +kernel
theorem dX6_copy_69 : decode cX6_copy 69 = .ok (.invokestatic 54, 3) := by decide +kernel
theorem dX6_copy_72 : decode cX6_copy 72 = .ok (.invokestatic 60, 3) := by decide +kernel
theorem dX6_copy_75 : decode cX6_copy 75 = .ok (.return_, 1) := by decide +kernel
theorem dL_law_0 : decode cL_law 0 = .ok (.new 7, 3) := by decide +kernel
theorem dL_law_3 : decode cL_law 3 = .ok (.dup, 1) := by decide +kernel
theorem dL_law_4 : decode cL_law 4 = .ok (.invokespecial 9, 3) := by decide +kernel
theorem dL_law_7 : decode cL_law 7 = .ok (.astore_n 1, 1) := by decide +kernel
theorem dL_law_8 : decode cL_law 8 = .ok (.new 10, 3) := by decide +kernel
theorem dL_law_11 : decode cL_law 11 = .ok (.dup, 1) := by decide +kernel
theorem dL_law_12 : decode cL_law 12 = .ok (.invokespecial 12, 3) := by decide +kernel
theorem dL_law_15 : decode cL_law 15 = .ok (.astore_n 2, 1) := by decide +kernel
theorem dL_law_16 : decode cL_law 16 = .ok (.iconst 0, 1) := by decide +kernel
theorem dL_law_17 : decode cL_law 17 = .ok (.istore_n 3, 1) := by decide +kernel
theorem dL_law_18 : decode cL_law 18 = .ok (.iload_n 3, 1) := by decide +kernel
theorem dL_law_19 : decode cL_law 19 = .ok (.aload_n 0, 1) := by decide +kernel
theorem dL_law_20 : decode cL_law 20 = .ok (.arraylength, 1) := by decide +kernel
theorem dL_law_21 : decode cL_law 21 = .ok (.iconst 5, 1) := by decide +kernel
theorem dL_law_22 : decode cL_law 22 = .ok (.isub, 1) := by decide +kernel
theorem dL_law_23 : decode cL_law 23 = .ok (.if_icmp .gt 1163, 3) := by decide +kernel
theorem dL_law_26 : decode cL_law 26 = .ok (.aload_n 0, 1) := by decide +kernel
theorem dL_law_27 : decode cL_law 27 = .ok (.iload_n 3, 1) := by decide +kernel
theorem dL_law_28 : decode cL_law 28 = .ok (.iaload, 1) := by decide +kernel
theorem dL_law_29 : decode cL_law 29 = .ok (.bipush 63, 2) := by decide +kernel
theorem dL_law_31 : decode cL_law 31 = .ok (.iand, 1) := by decide +kernel
theorem dL_law_32 : decode cL_law 32 = .ok (.tableswitch 1148 0 37 #[168, 221, 244, 267, 290, 313, 346, 369, 392, 425, 458, 481, 514, 557, 600, 613, 646, 669, 692, 715, 738, 751, 774, 807, 830, 843, 884, 927, 950, 973, 986, 1009, 1034, 1047, 1060, 1109, 1122, 1135], 168) := by decide +kernel
theorem dL_law_200 : decode cL_law 200 = .ok (.aload_n 1, 1) := by decide +kernel
theorem dL_law_201 : decode cL_law 201 = .ok (.aload_n 0, 1) := by decide +kernel
theorem dL_law_202 : decode cL_law 202 = .ok (.iload_n 3, 1) := by decide +kernel
theorem dL_law_203 : decode cL_law 203 = .ok (.iconst 1, 1) := by decide +kernel
theorem dL_law_204 : decode cL_law 204 = .ok (.iadd, 1) := by decide +kernel
theorem dL_law_205 : decode cL_law 205 = .ok (.iaload, 1) := by decide +kernel
theorem dL_law_206 : decode cL_law 206 = .ok (.aload_n 0, 1) := by decide +kernel
theorem dL_law_207 : decode cL_law 207 = .ok (.iload_n 3, 1) := by decide +kernel
theorem dL_law_208 : decode cL_law 208 = .ok (.iconst 2, 1) := by decide +kernel
theorem dL_law_209 : decode cL_law 209 = .ok (.iadd, 1) := by decide +kernel
theorem dL_law_210 : decode cL_law 210 = .ok (.iaload, 1) := by decide +kernel
theorem dL_law_211 : decode cL_law 211 = .ok (.aload_n 0, 1) := by decide +kernel
theorem dL_law_212 : decode cL_law 212 = .ok (.iload_n 3, 1) := by decide +kernel
theorem dL_law_213 : decode cL_law 213 = .ok (.iconst 3, 1) := by decide +kernel
theorem dL_law_214 : decode cL_law 214 = .ok (.iadd, 1) := by decide +kernel
theorem dL_law_215 : decode cL_law 215 = .ok (.iaload, 1) := by decide +kernel
theorem dL_law_216 : decode cL_law 216 = .ok (.aload_n 0, 1) := by decide +kernel
theorem dL_law_217 : decode cL_law 217 = .ok (.iload_n 3, 1) := by decide +kernel
theorem dL_law_218 : decode cL_law 218 = .ok (.iconst 4, 1) := by decide +kernel
theorem dL_law_219 : decode cL_law 219 = .ok (.iadd, 1) := by decide +kernel
theorem dL_law_220 : decode cL_law 220 = .ok (.iaload, 1) := by decide +kernel
theorem dL_law_221 : decode cL_law 221 = .ok (.invokevirtual 13, 3) := by decide +kernel
theorem dL_law_224 : decode cL_law 224 = .ok (.aload_n 2, 1) := by decide +kernel
theorem dL_law_225 : decode cL_law 225 = .ok (.aload_n 0, 1) := by decide +kernel
theorem dL_law_226 : decode cL_law 226 = .ok (.iload_n 3, 1) := by decide +kernel
theorem dL_law_227 : decode cL_law 227 = .ok (.iconst 1, 1) := by decide +kernel
theorem dL_law_228 : decode cL_law 228 = .ok (.iadd, 1) := by decide +kernel
theorem dL_law_229 : decode cL_law 229 = .ok (.iaload, 1) := by decide +kernel
theorem dL_law_230 : decode cL_law 230 = .ok (.aload_n 0, 1) := by decide +kernel
theorem dL_law_231 : decode cL_law 231 = .ok (.iload_n 3, 1) := by decide +kernel
theorem dL_law_232 : decode cL_law 232 = .ok (.iconst 2, 1) := by decide +kernel
theorem dL_law_233 : decode cL_law 233 = .ok (.iadd, 1) := by decide +kernel
theorem dL_law_234 : decode cL_law 234 = .ok (.iaload, 1) := by decide +kernel
theorem dL_law_235 : decode cL_law 235 = .ok (.aload_n 0, 1) := by decide +kernel
theorem dL_law_236 : decode cL_law 236 = .ok (.iload_n 3, 1) := by decide +kernel
theorem dL_law_237 : decode cL_law 237 = .ok (.iconst 3, 1) := by decide +kernel
theorem dL_law_238 : decode cL_law 238 = .ok (.iadd, 1) := by decide +kernel
theorem dL_law_239 : decode cL_law 239 = .ok (.iaload, 1) := by decide +kernel
theorem dL_law_240 : decode cL_law 240 = .ok (.aload_n 0, 1) := by decide +kernel
theorem dL_law_241 : decode cL_law 241 = .ok (.iload_n 3, 1) := by decide +kernel
theorem dL_law_242 : decode cL_law 242 = .ok (.iconst 4, 1) := by decide +kernel
theorem dL_law_243 : decode cL_law 243 = .ok (.iadd, 1) := by decide +kernel
theorem dL_law_244 : decode cL_law 244 = .ok (.iaload, 1) := by decide +kernel
theorem dL_law_245 : decode cL_law 245 = .ok (.invokevirtual 17, 3) := by decide +kernel
theorem dL_law_248 : decode cL_law 248 = .ok (.if_icmp .eq 932, 3) := by decide +kernel
theorem dL_law_251 : decode cL_law 251 = .ok (.iconst 0, 1) := by decide +kernel
theorem dL_law_252 : decode cL_law 252 = .ok (.ireturn, 1) := by decide +kernel
theorem dL_law_253 : decode cL_law 253 = .ok (.aload_n 1, 1) := by decide +kernel
theorem dL_law_254 : decode cL_law 254 = .ok (.aload_n 0, 1) := by decide +kernel
theorem dL_law_255 : decode cL_law 255 = .ok (.iload_n 3, 1) := by decide +kernel
theorem dL_law_256 : decode cL_law 256 = .ok (.iconst 1, 1) := by decide +kernel
theorem dL_law_257 : decode cL_law 257 = .ok (.iadd, 1) := by decide +kernel
theorem dL_law_258 : decode cL_law 258 = .ok (.iaload, 1) := by decide +kernel
theorem dL_law_259 : decode cL_law 259 = .ok (.invokevirtual 18, 3) := by decide +kernel
theorem dL_law_262 : decode cL_law 262 = .ok (.aload_n 2, 1) := by decide +kernel
theorem dL_law_263 : decode cL_law 263 = .ok (.aload_n 0, 1) := by decide +kernel
theorem dL_law_264 : decode cL_law 264 = .ok (.iload_n 3, 1) := by decide +kernel
theorem dL_law_265 : decode cL_law 265 = .ok (.iconst 1, 1) := by decide +kernel
theorem dL_law_266 : decode cL_law 266 = .ok (.iadd, 1) := by decide +kernel
theorem dL_law_267 : decode cL_law 267 = .ok (.iaload, 1) := by decide +kernel
theorem dL_law_268 : decode cL_law 268 = .ok (.invokevirtual 22, 3) := by decide +kernel
theorem dL_law_271 : decode cL_law 271 = .ok (.if_icmp .eq 909, 3) := by decide +kernel
theorem dL_law_274 : decode cL_law 274 = .ok (.iconst 0, 1) := by decide +kernel
theorem dL_law_275 : decode cL_law 275 = .ok (.ireturn, 1) := by decide +kernel
theorem dL_law_276 : decode cL_law 276 = .ok (.aload_n 1, 1) := by decide +kernel
theorem dL_law_277 : decode cL_law 277 = .ok (.aload_n 0, 1) := by decide +kernel
theorem dL_law_278 : decode cL_law 278 = .ok (.iload_n 3, 1) := by decide +kernel
theorem dL_law_279 : decode cL_law 279 = .ok (.iconst 1, 1) := by decide +kernel
theorem dL_law_280 : decode cL_law 280 = .ok (.iadd, 1) := by decide +kernel
theorem dL_law_281 : decode cL_law 281 = .ok (.iaload, 1) := by decide +kernel
theorem dL_law_282 : decode cL_law 282 = .ok (.invokevirtual 23, 3) := by decide +kernel
theorem dL_law_285 : decode cL_law 285 = .ok (.aload_n 2, 1) := by decide +kernel
theorem dL_law_286 : decode cL_law 286 = .ok (.aload_n 0, 1) := by decide +kernel
theorem dL_law_287 : decode cL_law 287 = .ok (.iload_n 3, 1) := by decide +kernel
theorem dL_law_288 : decode cL_law 288 = .ok (.iconst 1, 1) := by decide +kernel
theorem dL_law_289 : decode cL_law 289 = .ok (.iadd, 1) := by decide +kernel
theorem dL_law_290 : decode cL_law 290 = .ok (.iaload, 1) := by decide +kernel
theorem dL_law_291 : decode cL_law 291 = .ok (.invokevirtual 26, 3) := by decide +kernel
theorem dL_law_294 : decode cL_law 294 = .ok (.if_icmp .eq 886, 3) := by decide +kernel
theorem dL_law_297 : decode cL_law 297 = .ok (.iconst 0, 1) := by decide +kernel
theorem dL_law_298 : decode cL_law 298 = .ok (.ireturn, 1) := by decide +kernel
theorem dL_law_299 : decode cL_law 299 = .ok (.aload_n 1, 1) := by decide +kernel
theorem dL_law_300 : decode cL_law 300 = .ok (.aload_n 0, 1) := by decide +kernel
theorem dL_law_301 : decode cL_law 301 = .ok (.iload_n 3, 1) := by decide +kernel
theorem dL_law_302 : decode cL_law 302 = .ok (.iconst 1, 1) := by decide +kernel
theorem dL_law_303 : decode cL_law 303 = .ok (.iadd, 1) := by decide +kernel
theorem dL_law_304 : decode cL_law 304 = .ok (.iaload, 1) := by decide +kernel
theorem dL_law_305 : decode cL_law 305 = .ok (.invokevirtual 27, 3) := by decide +kernel
theorem dL_law_308 : decode cL_law 308 = .ok (.aload_n 2, 1) := by decide +kernel
theorem dL_law_309 : decode cL_law 309 = .ok (.aload_n 0, 1) := by decide +kernel
theorem dL_law_310 : decode cL_law 310 = .ok (.iload_n 3, 1) := by decide +kernel
theorem dL_law_311 : decode cL_law 311 = .ok (.iconst 1, 1) := by decide +kernel
theorem dL_law_312 : decode cL_law 312 = .ok (.iadd, 1) := by decide +kernel
theorem dL_law_313 : decode cL_law 313 = .ok (.iaload, 1) := by decide +kernel
theorem dL_law_314 : decode cL_law 314 = .ok (.invokevirtual 30, 3) := by decide +kernel
theorem dL_law_317 : decode cL_law 317 = .ok (.if_icmp .eq 863, 3) := by decide +kernel
theorem dL_law_320 : decode cL_law 320 = .ok (.iconst 0, 1) := by decide +kernel
theorem dL_law_321 : decode cL_law 321 = .ok (.ireturn, 1) := by decide +kernel
theorem dL_law_322 : decode cL_law 322 = .ok (.aload_n 1, 1) := by decide +kernel
theorem dL_law_323 : decode cL_law 323 = .ok (.aload_n 0, 1) := by decide +kernel
theorem dL_law_324 : decode cL_law 324 = .ok (.iload_n 3, 1) := by decide +kernel
theorem dL_law_325 : decode cL_law 325 = .ok (.iconst 1, 1) := by decide +kernel
theorem dL_law_326 : decode cL_law 326 = .ok (.iadd, 1) := by decide +kernel
theorem dL_law_327 : decode cL_law 327 = .ok (.iaload, 1) := by decide +kernel
theorem dL_law_328 : decode cL_law 328 = .ok (.invokevirtual 31, 3) := by decide +kernel
theorem dL_law_331 : decode cL_law 331 = .ok (.aload_n 2, 1) := by decide +kernel
theorem dL_law_332 : decode cL_law 332 = .ok (.aload_n 0, 1) := by decide +kernel
theorem dL_law_333 : decode cL_law 333 = .ok (.iload_n 3, 1) := by decide +kernel
theorem dL_law_334 : decode cL_law 334 = .ok (.iconst 1, 1) := by decide +kernel
theorem dL_law_335 : decode cL_law 335 = .ok (.iadd, 1) := by decide +kernel
theorem dL_law_336 : decode cL_law 336 = .ok (.iaload, 1) := by decide +kernel
theorem dL_law_337 : decode cL_law 337 = .ok (.invokevirtual 34, 3) := by decide +kernel
theorem dL_law_340 : decode cL_law 340 = .ok (.if_icmp .eq 840, 3) := by decide +kernel
theorem dL_law_343 : decode cL_law 343 = .ok (.iconst 0, 1) := by decide +kernel
theorem dL_law_344 : decode cL_law 344 = .ok (.ireturn, 1) := by decide +kernel
theorem dL_law_345 : decode cL_law 345 = .ok (.aload_n 1, 1) := by decide +kernel
theorem dL_law_346 : decode cL_law 346 = .ok (.aload_n 0, 1) := by decide +kernel
theorem dL_law_347 : decode cL_law 347 = .ok (.iload_n 3, 1) := by decide +kernel
theorem dL_law_348 : decode cL_law 348 = .ok (.iconst 1, 1) := by decide +kernel
theorem dL_law_349 : decode cL_law 349 = .ok (.iadd, 1) := by decide +kernel
theorem dL_law_350 : decode cL_law 350 = .ok (.iaload, 1) := by decide +kernel
theorem dL_law_351 : decode cL_law 351 = .ok (.aload_n 0, 1) := by decide +kernel
theorem dL_law_352 : decode cL_law 352 = .ok (.iload_n 3, 1) := by decide +kernel
theorem dL_law_353 : decode cL_law 353 = .ok (.iconst 2, 1) := by decide +kernel
theorem dL_law_354 : decode cL_law 354 = .ok (.iadd, 1) := by decide +kernel
theorem dL_law_355 : decode cL_law 355 = .ok (.iaload, 1) := by decide +kernel
theorem dL_law_356 : decode cL_law 356 = .ok (.invokevirtual 35, 3) := by decide +kernel
theorem dL_law_359 : decode cL_law 359 = .ok (.aload_n 2, 1) := by decide +kernel
theorem dL_law_360 : decode cL_law 360 = .ok (.aload_n 0, 1) := by decide +kernel
theorem dL_law_361 : decode cL_law 361 = .ok (.iload_n 3, 1) := by decide +kernel
theorem dL_law_362 : decode cL_law 362 = .ok (.iconst 1, 1) := by decide +kernel
theorem dL_law_363 : decode cL_law 363 = .ok (.iadd, 1) := by decide +kernel
theorem dL_law_364 : decode cL_law 364 = .ok (.iaload, 1) := by decide +kernel
theorem dL_law_365 : decode cL_law 365 = .ok (.aload_n 0, 1) := by decide +kernel
theorem dL_law_366 : decode cL_law 366 = .ok (.iload_n 3, 1) := by decide +kernel
theorem dL_law_367 : decode cL_law 367 = .ok (.iconst 2, 1) := by decide +kernel
theorem dL_law_368 : decode cL_law 368 = .ok (.iadd, 1) := by decide +kernel
theorem dL_law_369 : decode cL_law 369 = .ok (.iaload, 1) := by decide +kernel
theorem dL_law_370 : decode cL_law 370 = .ok (.invokevirtual 39, 3) := by decide +kernel
theorem dL_law_373 : decode cL_law 373 = .ok (.if_icmp .eq 807, 3) := by decide +kernel
theorem dL_law_376 : decode cL_law 376 = .ok (.iconst 0, 1) := by decide +kernel
theorem dL_law_377 : decode cL_law 377 = .ok (.ireturn, 1) := by decide +kernel
theorem dL_law_378 : decode cL_law 378 = .ok (.aload_n 1, 1) := by decide +kernel
theorem dL_law_379 : decode cL_law 379 = .ok (.aload_n 0, 1) := by decide +kernel
theorem dL_law_380 : decode cL_law 380 = .ok (.iload_n 3, 1) := by decide +kernel
theorem dL_law_381 : decode cL_law 381 = .ok (.iconst 1, 1) := by decide +kernel
theorem dL_law_382 : decode cL_law 382 = .ok (.iadd, 1) := by decide +kernel
theorem dL_law_383 : decode cL_law 383 = .ok (.iaload, 1) := by decide +kernel
theorem dL_law_384 : decode cL_law 384 = .ok (.invokevirtual 40, 3) := by decide +kernel
theorem dL_law_387 : decode cL_law 387 = .ok (.aload_n 2, 1) := by decide +kernel
theorem dL_law_388 : decode cL_law 388 = .ok (.aload_n 0, 1) := by decide +kernel
theorem dL_law_389 : decode cL_law 389 = .ok (.iload_n 3, 1) := by decide +kernel
theorem dL_law_390 : decode cL_law 390 = .ok (.iconst 1, 1) := by decide +kernel
theorem dL_law_391 : decode cL_law 391 = .ok (.iadd, 1) := by decide +kernel
theorem dL_law_392 : decode cL_law 392 = .ok (.iaload, 1) := by decide +kernel
theorem dL_law_393 : decode cL_law 393 = .ok (.invokevirtual 43, 3) := by decide +kernel
theorem dL_law_396 : decode cL_law 396 = .ok (.if_icmp .eq 784, 3) := by decide +kernel
theorem dL_law_399 : decode cL_law 399 = .ok (.iconst 0, 1) := by decide +kernel
theorem dL_law_400 : decode cL_law 400 = .ok (.ireturn, 1) := by decide +kernel
theorem dL_law_401 : decode cL_law 401 = .ok (.aload_n 1, 1) := by decide +kernel
theorem dL_law_402 : decode cL_law 402 = .ok (.aload_n 0, 1) := by decide +kernel
theorem dL_law_403 : decode cL_law 403 = .ok (.iload_n 3, 1) := by decide +kernel
theorem dL_law_404 : decode cL_law 404 = .ok (.iconst 1, 1) := by decide +kernel
theorem dL_law_405 : decode cL_law 405 = .ok (.iadd, 1) := by decide +kernel
theorem dL_law_406 : decode cL_law 406 = .ok (.iaload, 1) := by decide +kernel
theorem dL_law_407 : decode cL_law 407 = .ok (.invokevirtual 44, 3) := by decide +kernel
theorem dL_law_410 : decode cL_law 410 = .ok (.aload_n 2, 1) := by decide +kernel
theorem dL_law_411 : decode cL_law 411 = .ok (.aload_n 0, 1) := by decide +kernel
theorem dL_law_412 : decode cL_law 412 = .ok (.iload_n 3, 1) := by decide +kernel
theorem dL_law_413 : decode cL_law 413 = .ok (.iconst 1, 1) := by decide +kernel
theorem dL_law_414 : decode cL_law 414 = .ok (.iadd, 1) := by decide +kernel
theorem dL_law_415 : decode cL_law 415 = .ok (.iaload, 1) := by decide +kernel
theorem dL_law_416 : decode cL_law 416 = .ok (.invokevirtual 47, 3) := by decide +kernel
theorem dL_law_419 : decode cL_law 419 = .ok (.if_icmp .eq 761, 3) := by decide +kernel
theorem dL_law_422 : decode cL_law 422 = .ok (.iconst 0, 1) := by decide +kernel
theorem dL_law_423 : decode cL_law 423 = .ok (.ireturn, 1) := by decide +kernel
theorem dL_law_424 : decode cL_law 424 = .ok (.aload_n 1, 1) := by decide +kernel
theorem dL_law_425 : decode cL_law 425 = .ok (.aload_n 0, 1) := by decide +kernel
theorem dL_law_426 : decode cL_law 426 = .ok (.iload_n 3, 1) := by decide +kernel
theorem dL_law_427 : decode cL_law 427 = .ok (.iconst 1, 1) := by decide +kernel
theorem dL_law_428 : decode cL_law 428 = .ok (.iadd, 1) := by decide +kernel
theorem dL_law_429 : decode cL_law 429 = .ok (.iaload, 1) := by decide +kernel
theorem dL_law_430 : decode cL_law 430 = .ok (.aload_n 0, 1) := by decide +kernel
theorem dL_law_431 : decode cL_law 431 = .ok (.iload_n 3, 1) := by decide +kernel
theorem dL_law_432 : decode cL_law 432 = .ok (.iconst 2, 1) := by decide +kernel
theorem dL_law_433 : decode cL_law 433 = .ok (.iadd, 1) := by decide +kernel
theorem dL_law_434 : decode cL_law 434 = .ok (.iaload, 1) := by decide +kernel
theorem dL_law_435 : decode cL_law 435 = .ok (.invokevirtual 48, 3) := by decide +kernel
theorem dL_law_438 : decode cL_law 438 = .ok (.aload_n 2, 1) := by decide +kernel
theorem dL_law_439 : decode cL_law 439 = .ok (.aload_n 0, 1) := by decide +kernel
theorem dL_law_440 : decode cL_law 440 = .ok (.iload_n 3, 1) := by decide +kernel
theorem dL_law_441 : decode cL_law 441 = .ok (.iconst 1, 1) := by decide +kernel
theorem dL_law_442 : decode cL_law 442 = .ok (.iadd, 1) := by decide +kernel
theorem dL_law_443 : decode cL_law 443 = .ok (.iaload, 1) := by decide +kernel
theorem dL_law_444 : decode cL_law 444 = .ok (.aload_n 0, 1) := by decide +kernel
theorem dL_law_445 : decode cL_law 445 = .ok (.iload_n 3, 1) := by decide +kernel
theorem dL_law_446 : decode cL_law 446 = .ok (.iconst 2, 1) := by decide +kernel
theorem dL_law_447 : decode cL_law 447 = .ok (.iadd, 1) := by decide +kernel
theorem dL_law_448 : decode cL_law 448 = .ok (.iaload, 1) := by decide +kernel
theorem dL_law_449 : decode cL_law 449 = .ok (.invokevirtual 51, 3) := by decide +kernel
theorem dL_law_452 : decode cL_law 452 = .ok (.if_icmp .eq 728, 3) := by decide +kernel
theorem dL_law_455 : decode cL_law 455 = .ok (.iconst 0, 1) := by decide +kernel
theorem dL_law_456 : decode cL_law 456 = .ok (.ireturn, 1) := by decide +kernel
theorem dL_law_457 : decode cL_law 457 = .ok (.aload_n 1, 1) := by decide +kernel
theorem dL_law_458 : decode cL_law 458 = .ok (.aload_n 0, 1) := by decide +kernel
theorem dL_law_459 : decode cL_law 459 = .ok (.iload_n 3, 1) := by decide +kernel
theorem dL_law_460 : decode cL_law 460 = .ok (.iconst 1, 1) := by decide +kernel
theorem dL_law_461 : decode cL_law 461 = .ok (.iadd, 1) := by decide +kernel
theorem dL_law_462 : decode cL_law 462 = .ok (.iaload, 1) := by decide +kernel
theorem dL_law_463 : decode cL_law 463 = .ok (.aload_n 0, 1) := by decide +kernel
theorem dL_law_464 : decode cL_law 464 = .ok (.iload_n 3, 1) := by decide +kernel
theorem dL_law_465 : decode cL_law 465 = .ok (.iconst 2, 1) := by decide +kernel
theorem dL_law_466 : decode cL_law 466 = .ok (.iadd, 1) := by decide +kernel
theorem dL_law_467 : decode cL_law 467 = .ok (.iaload, 1) := by decide +kernel
theorem dL_law_468 : decode cL_law 468 = .ok (.invokevirtual 52, 3) := by decide +kernel
theorem dL_law_471 : decode cL_law 471 = .ok (.aload_n 2, 1) := by decide +kernel
theorem dL_law_472 : decode cL_law 472 = .ok (.aload_n 0, 1) := by decide +kernel
theorem dL_law_473 : decode cL_law 473 = .ok (.iload_n 3, 1) := by decide +kernel
theorem dL_law_474 : decode cL_law 474 = .ok (.iconst 1, 1) := by decide +kernel
theorem dL_law_475 : decode cL_law 475 = .ok (.iadd, 1) := by decide +kernel
theorem dL_law_476 : decode cL_law 476 = .ok (.iaload, 1) := by decide +kernel
theorem dL_law_477 : decode cL_law 477 = .ok (.aload_n 0, 1) := by decide +kernel
theorem dL_law_478 : decode cL_law 478 = .ok (.iload_n 3, 1) := by decide +kernel
theorem dL_law_479 : decode cL_law 479 = .ok (.iconst 2, 1) := by decide +kernel
theorem dL_law_480 : decode cL_law 480 = .ok (.iadd, 1) := by decide +kernel
theorem dL_law_481 : decode cL_law 481 = .ok (.iaload, 1) := by decide +kernel
theorem dL_law_482 : decode cL_law 482 = .ok (.invokevirtual 55, 3) := by decide +kernel
theorem dL_law_485 : decode cL_law 485 = .ok (.if_icmp .eq 695, 3) := by decide +kernel
theorem dL_law_488 : decode cL_law 488 = .ok (.iconst 0, 1) := by decide +kernel
theorem dL_law_489 : decode cL_law 489 = .ok (.ireturn, 1) := by decide +kernel
theorem dL_law_490 : decode cL_law 490 = .ok (.aload_n 1, 1) := by decide +kernel
theorem dL_law_491 : decode cL_law 491 = .ok (.aload_n 0, 1) := by decide +kernel
theorem dL_law_492 : decode cL_law 492 = .ok (.iload_n 3, 1) := by decide +kernel
theorem dL_law_493 : decode cL_law 493 = .ok (.iconst 1, 1) := by decide +kernel
theorem dL_law_494 : decode cL_law 494 = .ok (.iadd, 1) := by decide +kernel
theorem dL_law_495 : decode cL_law 495 = .ok (.iaload, 1) := by decide +kernel
theorem dL_law_496 : decode cL_law 496 = .ok (.invokevirtual 56, 3) := by decide +kernel
theorem dL_law_499 : decode cL_law 499 = .ok (.aload_n 2, 1) := by decide +kernel
theorem dL_law_500 : decode cL_law 500 = .ok (.aload_n 0, 1) := by decide +kernel
theorem dL_law_501 : decode cL_law 501 = .ok (.iload_n 3, 1) := by decide +kernel
theorem dL_law_502 : decode cL_law 502 = .ok (.iconst 1, 1) := by decide +kernel
theorem dL_law_503 : decode cL_law 503 = .ok (.iadd, 1) := by decide +kernel
theorem dL_law_504 : decode cL_law 504 = .ok (.iaload, 1) := by decide +kernel
theorem dL_law_505 : decode cL_law 505 = .ok (.invokevirtual 59, 3) := by decide +kernel
theorem dL_law_508 : decode cL_law 508 = .ok (.if_icmp .eq 672, 3) := by decide +kernel
theorem dL_law_511 : decode cL_law 511 = .ok (.iconst 0, 1) := by decide +kernel
theorem dL_law_512 : decode cL_law 512 = .ok (.ireturn, 1) := by decide +kernel
theorem dL_law_513 : decode cL_law 513 = .ok (.aload_n 1, 1) := by decide +kernel
theorem dL_law_514 : decode cL_law 514 = .ok (.aload_n 0, 1) := by decide +kernel
theorem dL_law_515 : decode cL_law 515 = .ok (.iload_n 3, 1) := by decide +kernel
theorem dL_law_516 : decode cL_law 516 = .ok (.iconst 1, 1) := by decide +kernel
theorem dL_law_517 : decode cL_law 517 = .ok (.iadd, 1) := by decide +kernel
theorem dL_law_518 : decode cL_law 518 = .ok (.iaload, 1) := by decide +kernel
theorem dL_law_519 : decode cL_law 519 = .ok (.aload_n 0, 1) := by decide +kernel
theorem dL_law_520 : decode cL_law 520 = .ok (.iload_n 3, 1) := by decide +kernel
theorem dL_law_521 : decode cL_law 521 = .ok (.iconst 2, 1) := by decide +kernel
theorem dL_law_522 : decode cL_law 522 = .ok (.iadd, 1) := by decide +kernel
theorem dL_law_523 : decode cL_law 523 = .ok (.iaload, 1) := by decide +kernel
theorem dL_law_524 : decode cL_law 524 = .ok (.invokevirtual 60, 3) := by decide +kernel
theorem dL_law_527 : decode cL_law 527 = .ok (.aload_n 2, 1) := by decide +kernel
theorem dL_law_528 : decode cL_law 528 = .ok (.aload_n 0, 1) := by decide +kernel
theorem dL_law_529 : decode cL_law 529 = .ok (.iload_n 3, 1) := by decide +kernel
theorem dL_law_530 : decode cL_law 530 = .ok (.iconst 1, 1) := by decide +kernel
theorem dL_law_531 : decode cL_law 531 = .ok (.iadd, 1) := by decide +kernel
theorem dL_law_532 : decode cL_law 532 = .ok (.iaload, 1) := by decide +kernel
theorem dL_law_533 : decode cL_law 533 = .ok (.aload_n 0, 1) := by decide +kernel
theorem dL_law_534 : decode cL_law 534 = .ok (.iload_n 3, 1) := by decide +kernel
theorem dL_law_535 : decode cL_law 535 = .ok (.iconst 2, 1) := by decide +kernel
theorem dL_law_536 : decode cL_law 536 = .ok (.iadd, 1) := by decide +kernel
theorem dL_law_537 : decode cL_law 537 = .ok (.iaload, 1) := by decide +kernel
theorem dL_law_538 : decode cL_law 538 = .ok (.invokevirtual 63, 3) := by decide +kernel
theorem dL_law_541 : decode cL_law 541 = .ok (.if_icmp .eq 639, 3) := by decide +kernel
theorem dL_law_544 : decode cL_law 544 = .ok (.iconst 0, 1) := by decide +kernel
theorem dL_law_545 : decode cL_law 545 = .ok (.ireturn, 1) := by decide +kernel
theorem dL_law_546 : decode cL_law 546 = .ok (.aload_n 1, 1) := by decide +kernel
theorem dL_law_547 : decode cL_law 547 = .ok (.invokevirtual 64, 3) := by decide +kernel
theorem dL_law_550 : decode cL_law 550 = .ok (.f2d, 1) := by decide +kernel
theorem dL_law_551 : decode cL_law 551 = .ok (.dstore 4, 2) := by decide +kernel
theorem dL_law_553 : decode cL_law 553 = .ok (.aload_n 2, 1) := by decide +kernel
theorem dL_law_554 : decode cL_law 554 = .ok (.invokevirtual 68, 3) := by decide +kernel
theorem dL_law_557 : decode cL_law 557 = .ok (.f2d, 1) := by decide +kernel
theorem dL_law_558 : decode cL_law 558 = .ok (.dstore 6, 2) := by decide +kernel
theorem dL_law_560 : decode cL_law 560 = .ok (.dload 4, 2) := by decide +kernel
theorem dL_law_562 : decode cL_law 562 = .ok (.dload 6, 2) := by decide +kernel
theorem dL_law_564 : decode cL_law 564 = .ok (.dcmp .l, 1) := by decide +kernel
theorem dL_law_565 : decode cL_law 565 = .ok (.ifCond .eq 21, 3) := by decide +kernel
theorem dL_law_568 : decode cL_law 568 = .ok (.dload 4, 2) := by decide +kernel
theorem dL_law_570 : decode cL_law 570 = .ok (.dload 4, 2) := by decide +kernel
theorem dL_law_572 : decode cL_law 572 = .ok (.dcmp .l, 1) := by decide +kernel
theorem dL_law_573 : decode cL_law 573 = .ok (.ifCond .eq 11, 3) := by decide +kernel
theorem dL_law_576 : decode cL_law 576 = .ok (.dload 6, 2) := by decide +kernel
theorem dL_law_578 : decode cL_law 578 = .ok (.dload 6, 2) := by decide +kernel
theorem dL_law_580 : decode cL_law 580 = .ok (.dcmp .l, 1) := by decide +kernel
theorem dL_law_581 : decode cL_law 581 = .ok (.ifCond .ne 5, 3) := by decide +kernel
theorem dL_law_584 : decode cL_law 584 = .ok (.iconst 0, 1) := by decide +kernel
theorem dL_law_585 : decode cL_law 585 = .ok (.ireturn, 1) := by decide +kernel
theorem dL_law_586 : decode cL_law 586 = .ok (.goto 594, 3) := by decide +kernel
theorem dL_law_589 : decode cL_law 589 = .ok (.aload_n 1, 1) := by decide +kernel
theorem dL_law_590 : decode cL_law 590 = .ok (.invokevirtual 69, 3) := by decide +kernel
theorem dL_law_593 : decode cL_law 593 = .ok (.f2d, 1) := by decide +kernel
theorem dL_law_594 : decode cL_law 594 = .ok (.dstore 4, 2) := by decide +kernel
theorem dL_law_596 : decode cL_law 596 = .ok (.aload_n 2, 1) := by decide +kernel
theorem dL_law_597 : decode cL_law 597 = .ok (.invokevirtual 72, 3) := by decide +kernel
theorem dL_law_600 : decode cL_law 600 = .ok (.f2d, 1) := by decide +kernel
theorem dL_law_601 : decode cL_law 601 = .ok (.dstore 6, 2) := by decide +kernel
theorem dL_law_603 : decode cL_law 603 = .ok (.dload 4, 2) := by decide +kernel
theorem dL_law_605 : decode cL_law 605 = .ok (.dload 6, 2) := by decide +kernel
theorem dL_law_607 : decode cL_law 607 = .ok (.dcmp .l, 1) := by decide +kernel
theorem dL_law_608 : decode cL_law 608 = .ok (.ifCond .eq 21, 3) := by decide +kernel
theorem dL_law_611 : decode cL_law 611 = .ok (.dload 4, 2) := by decide +kernel
theorem dL_law_613 : decode cL_law 613 = .ok (.dload 4, 2) := by decide +kernel
theorem dL_law_615 : decode cL_law 615 = .ok (.dcmp .l, 1) := by decide +kernel
theorem dL_law_616 : decode cL_law 616 = .ok (.ifCond .eq 11, 3) := by decide +kernel
theorem dL_law_619 : decode cL_law 619 = .ok (.dload 6, 2) := by decide +kernel
theorem dL_law_621 : decode cL_law 621 = .ok (.dload 6, 2) := by decide +kernel
theorem dL_law_623 : decode cL_law 623 = .ok (.dcmp .l, 1) := by decide +kernel
theorem dL_law_624 : decode cL_law 624 = .ok (.ifCond .ne 5, 3) := by decide +kernel
theorem dL_law_627 : decode cL_law 627 = .ok (.iconst 0, 1) := by decide +kernel
theorem dL_law_628 : decode cL_law 628 = .ok (.ireturn, 1) := by decide +kernel
theorem dL_law_629 : decode cL_law 629 = .ok (.goto 551, 3) := by decide +kernel
theorem dL_law_632 : decode cL_law 632 = .ok (.aload_n 1, 1) := by decide +kernel
theorem dL_law_633 : decode cL_law 633 = .ok (.invokevirtual 73, 3) := by decide +kernel
theorem dL_law_636 : decode cL_law 636 = .ok (.aload_n 2, 1) := by decide +kernel
theorem dL_law_637 : decode cL_law 637 = .ok (.invokevirtual 77, 3) := by decide +kernel
theorem dL_law_640 : decode cL_law 640 = .ok (.if_icmp .eq 540, 3) := by decide +kernel
theorem dL_law_643 : decode cL_law 643 = .ok (.iconst 0, 1) := by decide +kernel
theorem dL_law_644 : decode cL_law 644 = .ok (.ireturn, 1) := by decide +kernel
theorem dL_law_645 : decode cL_law 645 = .ok (.aload_n 1, 1) := by decide +kernel
theorem dL_law_646 : decode cL_law 646 = .ok (.aload_n 0, 1) := by decide +kernel
theorem dL_law_647 : decode cL_law 647 = .ok (.iload_n 3, 1) := by decide +kernel
theorem dL_law_648 : decode cL_law 648 = .ok (.iconst 1, 1) := by decide +kernel
theorem dL_law_649 : decode cL_law 649 = .ok (.iadd, 1) := by decide +kernel
theorem dL_law_650 : decode cL_law 650 = .ok (.iaload, 1) := by decide +kernel
theorem dL_law_651 : decode cL_law 651 = .ok (.aload_n 0, 1) := by decide +kernel
theorem dL_law_652 : decode cL_law 652 = .ok (.iload_n 3, 1) := by decide +kernel
theorem dL_law_653 : decode cL_law 653 = .ok (.iconst 2, 1) := by decide +kernel
theorem dL_law_654 : decode cL_law 654 = .ok (.iadd, 1) := by decide +kernel
theorem dL_law_655 : decode cL_law 655 = .ok (.iaload, 1) := by decide +kernel
theorem dL_law_656 : decode cL_law 656 = .ok (.invokevirtual 78, 3) := by decide +kernel
theorem dL_law_659 : decode cL_law 659 = .ok (.aload_n 2, 1) := by decide +kernel
theorem dL_law_660 : decode cL_law 660 = .ok (.aload_n 0, 1) := by decide +kernel
theorem dL_law_661 : decode cL_law 661 = .ok (.iload_n 3, 1) := by decide +kernel
theorem dL_law_662 : decode cL_law 662 = .ok (.iconst 1, 1) := by decide +kernel
theorem dL_law_663 : decode cL_law 663 = .ok (.iadd, 1) := by decide +kernel
theorem dL_law_664 : decode cL_law 664 = .ok (.iaload, 1) := by decide +kernel
theorem dL_law_665 : decode cL_law 665 = .ok (.aload_n 0, 1) := by decide +kernel
theorem dL_law_666 : decode cL_law 666 = .ok (.iload_n 3, 1) := by decide +kernel
theorem dL_law_667 : decode cL_law 667 = .ok (.iconst 2, 1) := by decide +kernel
theorem dL_law_668 : decode cL_law 668 = .ok (.iadd, 1) := by decide +kernel
theorem dL_law_669 : decode cL_law 669 = .ok (.iaload, 1) := by decide +kernel
theorem dL_law_670 : decode cL_law 670 = .ok (.invokevirtual 81, 3) := by decide +kernel
theorem dL_law_673 : decode cL_law 673 = .ok (.if_icmp .eq 507, 3) := by decide +kernel
theorem dL_law_676 : decode cL_law 676 = .ok (.iconst 0, 1) := by decide +kernel
theorem dL_law_677 : decode cL_law 677 = .ok (.ireturn, 1) := by decide +kernel
theorem dL_law_678 : decode cL_law 678 = .ok (.aload_n 1, 1) := by decide +kernel
theorem dL_law_679 : decode cL_law 679 = .ok (.aload_n 0, 1) := by decide +kernel
theorem dL_law_680 : decode cL_law 680 = .ok (.iload_n 3, 1) := by decide +kernel
theorem dL_law_681 : decode cL_law 681 = .ok (.iconst 1, 1) := by decide +kernel
theorem dL_law_682 : decode cL_law 682 = .ok (.iadd, 1) := by decide +kernel
theorem dL_law_683 : decode cL_law 683 = .ok (.iaload, 1) := by decide +kernel
theorem dL_law_684 : decode cL_law 684 = .ok (.invokevirtual 82, 3) := by decide +kernel
theorem dL_law_687 : decode cL_law 687 = .ok (.aload_n 2, 1) := by decide +kernel
theorem dL_law_688 : decode cL_law 688 = .ok (.aload_n 0, 1) := by decide +kernel
theorem dL_law_689 : decode cL_law 689 = .ok (.iload_n 3, 1) := by decide +kernel
theorem dL_law_690 : decode cL_law 690 = .ok (.iconst 1, 1) := by decide +kernel
theorem dL_law_691 : decode cL_law 691 = .ok (.iadd, 1) := by decide +kernel
theorem dL_law_692 : decode cL_law 692 = .ok (.iaload, 1) := by decide +kernel
theorem dL_law_693 : decode cL_law 693 = .ok (.invokevirtual 85, 3) := by decide +kernel
theorem dL_law_696 : decode cL_law 696 = .ok (.if_icmp .eq 484, 3) := by decide +kernel
theorem dL_law_699 : decode cL_law 699 = .ok (.iconst 0, 1) := by decide +kernel
theorem dL_law_700 : decode cL_law 700 = .ok (.ireturn, 1) := by decide +kernel
theorem dL_law_701 : decode cL_law 701 = .ok (.aload_n 1, 1) := by decide +kernel
theorem dL_law_702 : decode cL_law 702 = .ok (.aload_n 0, 1) := by decide +kernel
theorem dL_law_703 : decode cL_law 703 = .ok (.iload_n 3, 1) := by decide +kernel
theorem dL_law_704 : decode cL_law 704 = .ok (.iconst 1, 1) := by decide +kernel
theorem dL_law_705 : decode cL_law 705 = .ok (.iadd, 1) := by decide +kernel
theorem dL_law_706 : decode cL_law 706 = .ok (.iaload, 1) := by decide +kernel
theorem dL_law_707 : decode cL_law 707 = .ok (.invokevirtual 86, 3) := by decide +kernel
theorem dL_law_710 : decode cL_law 710 = .ok (.aload_n 2, 1) := by decide +kernel
theorem dL_law_711 : decode cL_law 711 = .ok (.aload_n 0, 1) := by decide +kernel
theorem dL_law_712 : decode cL_law 712 = .ok (.iload_n 3, 1) := by decide +kernel
theorem dL_law_713 : decode cL_law 713 = .ok (.iconst 1, 1) := by decide +kernel
theorem dL_law_714 : decode cL_law 714 = .ok (.iadd, 1) := by decide +kernel
theorem dL_law_715 : decode cL_law 715 = .ok (.iaload, 1) := by decide +kernel
theorem dL_law_716 : decode cL_law 716 = .ok (.invokevirtual 89, 3) := by decide +kernel
theorem dL_law_719 : decode cL_law 719 = .ok (.if_icmp .eq 461, 3) := by decide +kernel
theorem dL_law_722 : decode cL_law 722 = .ok (.iconst 0, 1) := by decide +kernel
theorem dL_law_723 : decode cL_law 723 = .ok (.ireturn, 1) := by decide +kernel
theorem dL_law_724 : decode cL_law 724 = .ok (.aload_n 1, 1) := by decide +kernel
theorem dL_law_725 : decode cL_law 725 = .ok (.aload_n 0, 1) := by decide +kernel
theorem dL_law_726 : decode cL_law 726 = .ok (.iload_n 3, 1) := by decide +kernel
theorem dL_law_727 : decode cL_law 727 = .ok (.iconst 1, 1) := by decide +kernel
theorem dL_law_728 : decode cL_law 728 = .ok (.iadd, 1) := by decide +kernel
theorem dL_law_729 : decode cL_law 729 = .ok (.iaload, 1) := by decide +kernel
theorem dL_law_730 : decode cL_law 730 = .ok (.invokevirtual 90, 3) := by decide +kernel
theorem dL_law_733 : decode cL_law 733 = .ok (.aload_n 2, 1) := by decide +kernel
theorem dL_law_734 : decode cL_law 734 = .ok (.aload_n 0, 1) := by decide +kernel
theorem dL_law_735 : decode cL_law 735 = .ok (.iload_n 3, 1) := by decide +kernel
theorem dL_law_736 : decode cL_law 736 = .ok (.iconst 1, 1) := by decide +kernel
theorem dL_law_737 : decode cL_law 737 = .ok (.iadd, 1) := by decide +kernel
theorem dL_law_738 : decode cL_law 738 = .ok (.iaload, 1) := by decide +kernel
theorem dL_law_739 : decode cL_law 739 = .ok (.invokevirtual 93, 3) := by decide +kernel
theorem dL_law_742 : decode cL_law 742 = .ok (.if_icmp .eq 438, 3) := by decide +kernel
theorem dL_law_745 : decode cL_law 745 = .ok (.iconst 0, 1) := by decide +kernel
theorem dL_law_746 : decode cL_law 746 = .ok (.ireturn, 1) := by decide +kernel
theorem dL_law_747 : decode cL_law 747 = .ok (.aload_n 1, 1) := by decide +kernel
theorem dL_law_748 : decode cL_law 748 = .ok (.aload_n 0, 1) := by decide +kernel
theorem dL_law_749 : decode cL_law 749 = .ok (.iload_n 3, 1) := by decide +kernel
theorem dL_law_750 : decode cL_law 750 = .ok (.iconst 1, 1) := by decide +kernel
theorem dL_law_751 : decode cL_law 751 = .ok (.iadd, 1) := by decide +kernel
theorem dL_law_752 : decode cL_law 752 = .ok (.iaload, 1) := by decide +kernel
theorem dL_law_753 : decode cL_law 753 = .ok (.invokevirtual 94, 3) := by decide +kernel
theorem dL_law_756 : decode cL_law 756 = .ok (.aload_n 2, 1) := by decide +kernel
theorem dL_law_757 : decode cL_law 757 = .ok (.aload_n 0, 1) := by decide +kernel
theorem dL_law_758 : decode cL_law 758 = .ok (.iload_n 3, 1) := by decide +kernel
theorem dL_law_759 : decode cL_law 759 = .ok (.iconst 1, 1) := by decide +kernel
theorem dL_law_760 : decode cL_law 760 = .ok (.iadd, 1) := by decide +kernel
theorem dL_law_761 : decode cL_law 761 = .ok (.iaload, 1) := by decide +kernel
theorem dL_law_762 : decode cL_law 762 = .ok (.invokevirtual 97, 3) := by decide +kernel
theorem dL_law_765 : decode cL_law 765 = .ok (.if_icmp .eq 415, 3) := by decide +kernel
theorem dL_law_768 : decode cL_law 768 = .ok (.iconst 0, 1) := by decide +kernel
theorem dL_law_769 : decode cL_law 769 = .ok (.ireturn, 1) := by decide +kernel
theorem dL_law_770 : decode cL_law 770 = .ok (.aload_n 1, 1) := by decide +kernel
theorem dL_law_771 : decode cL_law 771 = .ok (.invokevirtual 98, 3) := by decide +kernel
theorem dL_law_774 : decode cL_law 774 = .ok (.aload_n 2, 1) := by decide +kernel
theorem dL_law_775 : decode cL_law 775 = .ok (.invokevirtual 101, 3) := by decide +kernel
theorem dL_law_778 : decode cL_law 778 = .ok (.if_icmp .eq 402, 3) := by decide +kernel
theorem dL_law_781 : decode cL_law 781 = .ok (.iconst 0, 1) := by decide +kernel
theorem dL_law_782 : decode cL_law 782 = .ok (.ireturn, 1) := by decide +kernel
theorem dL_law_783 : decode cL_law 783 = .ok (.aload_n 1, 1) := by decide +kernel
theorem dL_law_784 : decode cL_law 784 = .ok (.aload_n 0, 1) := by decide +kernel
theorem dL_law_785 : decode cL_law 785 = .ok (.iload_n 3, 1) := by decide +kernel
theorem dL_law_786 : decode cL_law 786 = .ok (.iconst 1, 1) := by decide +kernel
theorem dL_law_787 : decode cL_law 787 = .ok (.iadd, 1) := by decide +kernel
theorem dL_law_788 : decode cL_law 788 = .ok (.iaload, 1) := by decide +kernel
theorem dL_law_789 : decode cL_law 789 = .ok (.invokevirtual 102, 3) := by decide +kernel
theorem dL_law_792 : decode cL_law 792 = .ok (.aload_n 2, 1) := by decide +kernel
theorem dL_law_793 : decode cL_law 793 = .ok (.aload_n 0, 1) := by decide +kernel
theorem dL_law_794 : decode cL_law 794 = .ok (.iload_n 3, 1) := by decide +kernel
theorem dL_law_795 : decode cL_law 795 = .ok (.iconst 1, 1) := by decide +kernel
theorem dL_law_796 : decode cL_law 796 = .ok (.iadd, 1) := by decide +kernel
theorem dL_law_797 : decode cL_law 797 = .ok (.iaload, 1) := by decide +kernel
theorem dL_law_798 : decode cL_law 798 = .ok (.invokevirtual 105, 3) := by decide +kernel
theorem dL_law_801 : decode cL_law 801 = .ok (.if_icmp .eq 379, 3) := by decide +kernel
theorem dL_law_804 : decode cL_law 804 = .ok (.iconst 0, 1) := by decide +kernel
theorem dL_law_805 : decode cL_law 805 = .ok (.ireturn, 1) := by decide +kernel
theorem dL_law_806 : decode cL_law 806 = .ok (.aload_n 1, 1) := by decide +kernel
theorem dL_law_807 : decode cL_law 807 = .ok (.aload_n 0, 1) := by decide +kernel
theorem dL_law_808 : decode cL_law 808 = .ok (.iload_n 3, 1) := by decide +kernel
theorem dL_law_809 : decode cL_law 809 = .ok (.iconst 1, 1) := by decide +kernel
theorem dL_law_810 : decode cL_law 810 = .ok (.iadd, 1) := by decide +kernel
theorem dL_law_811 : decode cL_law 811 = .ok (.iaload, 1) := by decide +kernel
theorem dL_law_812 : decode cL_law 812 = .ok (.aload_n 0, 1) := by decide +kernel
theorem dL_law_813 : decode cL_law 813 = .ok (.iload_n 3, 1) := by decide +kernel
theorem dL_law_814 : decode cL_law 814 = .ok (.iconst 2, 1) := by decide +kernel
theorem dL_law_815 : decode cL_law 815 = .ok (.iadd, 1) := by decide +kernel
theorem dL_law_816 : decode cL_law 816 = .ok (.iaload, 1) := by decide +kernel
theorem dL_law_817 : decode cL_law 817 = .ok (.invokevirtual 106, 3) := by decide +kernel
theorem dL_law_820 : decode cL_law 820 = .ok (.aload_n 2, 1) := by decide +kernel
theorem dL_law_821 : decode cL_law 821 = .ok (.aload_n 0, 1) := by decide +kernel
theorem dL_law_822 : decode cL_law 822 = .ok (.iload_n 3, 1) := by decide +kernel
theorem dL_law_823 : decode cL_law 823 = .ok (.iconst 1, 1) := by decide +kernel
theorem dL_law_824 : decode cL_law 824 = .ok (.iadd, 1) := by decide +kernel
theorem dL_law_825 : decode cL_law 825 = .ok (.iaload, 1) := by decide +kernel
theorem dL_law_826 : decode cL_law 826 = .ok (.aload_n 0, 1) := by decide +kernel
theorem dL_law_827 : decode cL_law 827 = .ok (.iload_n 3, 1) := by decide +kernel
theorem dL_law_828 : decode cL_law 828 = .ok (.iconst 2, 1) := by decide +kernel
theorem dL_law_829 : decode cL_law 829 = .ok (.iadd, 1) := by decide +kernel
theorem dL_law_830 : decode cL_law 830 = .ok (.iaload, 1) := by decide +kernel
theorem dL_law_831 : decode cL_law 831 = .ok (.invokevirtual 109, 3) := by decide +kernel
theorem dL_law_834 : decode cL_law 834 = .ok (.if_icmp .eq 346, 3) := by decide +kernel
theorem dL_law_837 : decode cL_law 837 = .ok (.iconst 0, 1) := by decide +kernel
theorem dL_law_838 : decode cL_law 838 = .ok (.ireturn, 1) := by decide +kernel
theorem dL_law_839 : decode cL_law 839 = .ok (.aload_n 1, 1) := by decide +kernel
theorem dL_law_840 : decode cL_law 840 = .ok (.aload_n 0, 1) := by decide +kernel
theorem dL_law_841 : decode cL_law 841 = .ok (.iload_n 3, 1) := by decide +kernel
theorem dL_law_842 : decode cL_law 842 = .ok (.iconst 1, 1) := by decide +kernel
theorem dL_law_843 : decode cL_law 843 = .ok (.iadd, 1) := by decide +kernel
theorem dL_law_844 : decode cL_law 844 = .ok (.iaload, 1) := by decide +kernel
theorem dL_law_845 : decode cL_law 845 = .ok (.invokevirtual 110, 3) := by decide +kernel
theorem dL_law_848 : decode cL_law 848 = .ok (.aload_n 2, 1) := by decide +kernel
theorem dL_law_849 : decode cL_law 849 = .ok (.aload_n 0, 1) := by decide +kernel
theorem dL_law_850 : decode cL_law 850 = .ok (.iload_n 3, 1) := by decide +kernel
theorem dL_law_851 : decode cL_law 851 = .ok (.iconst 1, 1) := by decide +kernel
theorem dL_law_852 : decode cL_law 852 = .ok (.iadd, 1) := by decide +kernel
theorem dL_law_853 : decode cL_law 853 = .ok (.iaload, 1) := by decide +kernel
theorem dL_law_854 : decode cL_law 854 = .ok (.invokevirtual 113, 3) := by decide +kernel
theorem dL_law_857 : decode cL_law 857 = .ok (.if_icmp .eq 323, 3) := by decide +kernel
theorem dL_law_860 : decode cL_law 860 = .ok (.iconst 0, 1) := by decide +kernel
theorem dL_law_861 : decode cL_law 861 = .ok (.ireturn, 1) := by decide +kernel
theorem dL_law_862 : decode cL_law 862 = .ok (.aload_n 1, 1) := by decide +kernel
theorem dL_law_863 : decode cL_law 863 = .ok (.invokevirtual 114, 3) := by decide +kernel
theorem dL_law_866 : decode cL_law 866 = .ok (.aload_n 2, 1) := by decide +kernel
theorem dL_law_867 : decode cL_law 867 = .ok (.invokevirtual 118, 3) := by decide +kernel
theorem dL_law_870 : decode cL_law 870 = .ok (.if_icmp .eq 310, 3) := by decide +kernel
theorem dL_law_873 : decode cL_law 873 = .ok (.iconst 0, 1) := by decide +kernel
theorem dL_law_874 : decode cL_law 874 = .ok (.ireturn, 1) := by decide +kernel
theorem dL_law_875 : decode cL_law 875 = .ok (.aload_n 1, 1) := by decide +kernel
theorem dL_law_876 : decode cL_law 876 = .ok (.invokevirtual 119, 3) := by decide +kernel
theorem dL_law_879 : decode cL_law 879 = .ok (.dstore 4, 2) := by decide +kernel
theorem dL_law_881 : decode cL_law 881 = .ok (.aload_n 2, 1) := by decide +kernel
theorem dL_law_882 : decode cL_law 882 = .ok (.invokevirtual 123, 3) := by decide +kernel
theorem dL_law_885 : decode cL_law 885 = .ok (.dstore 6, 2) := by decide +kernel
theorem dL_law_887 : decode cL_law 887 = .ok (.dload 4, 2) := by decide +kernel
theorem dL_law_889 : decode cL_law 889 = .ok (.dload 6, 2) := by decide +kernel
theorem dL_law_891 : decode cL_law 891 = .ok (.dcmp .l, 1) := by decide +kernel
theorem dL_law_892 : decode cL_law 892 = .ok (.ifCond .eq 21, 3) := by decide +kernel
theorem dL_law_895 : decode cL_law 895 = .ok (.dload 4, 2) := by decide +kernel
theorem dL_law_897 : decode cL_law 897 = .ok (.dload 4, 2) := by decide +kernel
theorem dL_law_899 : decode cL_law 899 = .ok (.dcmp .l, 1) := by decide +kernel
theorem dL_law_900 : decode cL_law 900 = .ok (.ifCond .eq 11, 3) := by decide +kernel
theorem dL_law_903 : decode cL_law 903 = .ok (.dload 6, 2) := by decide +kernel
theorem dL_law_905 : decode cL_law 905 = .ok (.dload 6, 2) := by decide +kernel
theorem dL_law_907 : decode cL_law 907 = .ok (.dcmp .l, 1) := by decide +kernel
theorem dL_law_908 : decode cL_law 908 = .ok (.ifCond .ne 5, 3) := by decide +kernel
theorem dL_law_911 : decode cL_law 911 = .ok (.iconst 0, 1) := by decide +kernel
theorem dL_law_912 : decode cL_law 912 = .ok (.ireturn, 1) := by decide +kernel
theorem dL_law_913 : decode cL_law 913 = .ok (.goto 267, 3) := by decide +kernel
theorem dL_law_916 : decode cL_law 916 = .ok (.aload_n 1, 1) := by decide +kernel
theorem dL_law_917 : decode cL_law 917 = .ok (.invokevirtual 124, 3) := by decide +kernel
theorem dL_law_920 : decode cL_law 920 = .ok (.f2d, 1) := by decide +kernel
theorem dL_law_921 : decode cL_law 921 = .ok (.dstore 4, 2) := by decide +kernel
theorem dL_law_923 : decode cL_law 923 = .ok (.aload_n 2, 1) := by decide +kernel
theorem dL_law_924 : decode cL_law 924 = .ok (.invokevirtual 127, 3) := by decide +kernel
theorem dL_law_927 : decode cL_law 927 = .ok (.f2d, 1) := by decide +kernel
theorem dL_law_928 : decode cL_law 928 = .ok (.dstore 6, 2) := by decide +kernel
theorem dL_law_930 : decode cL_law 930 = .ok (.dload 4, 2) := by decide +kernel
theorem dL_law_932 : decode cL_law 932 = .ok (.dload 6, 2) := by decide +kernel
theorem dL_law_934 : decode cL_law 934 = .ok (.dcmp .l, 1) := by decide +kernel
theorem dL_law_935 : decode cL_law 935 = .ok (.ifCond .eq 21, 3) := by decide +kernel
theorem dL_law_938 : decode cL_law 938 = .ok (.dload 4, 2) := by decide +kernel
theorem dL_law_940 : decode cL_law 940 = .ok (.dload 4, 2) := by decide +kernel
theorem dL_law_942 : decode cL_law 942 = .ok (.dcmp .l, 1) := by decide +kernel
theorem dL_law_943 : decode cL_law 943 = .ok (.ifCond .eq 11, 3) := by decide +kernel
theorem dL_law_946 : decode cL_law 946 = .ok (.dload 6, 2) := by decide +kernel
theorem dL_law_948 : decode cL_law 948 = .ok (.dload 6, 2) := by decide +kernel
theorem dL_law_950 : decode cL_law 950 = .ok (.dcmp .l, 1) := by decide +kernel
theorem dL_law_951 : decode cL_law 951 = .ok (.ifCond .ne 5, 3) := by decide +kernel
theorem dL_law_954 : decode cL_law 954 = .ok (.iconst 0, 1) := by decide +kernel
theorem dL_law_955 : decode cL_law 955 = .ok (.ireturn, 1) := by decide +kernel
theorem dL_law_956 : decode cL_law 956 = .ok (.goto 224, 3) := by decide +kernel
theorem dL_law_959 : decode cL_law 959 = .ok (.aload_n 1, 1) := by decide +kernel
theorem dL_law_960 : decode cL_law 960 = .ok (.aload_n 0, 1) := by decide +kernel
theorem dL_law_961 : decode cL_law 961 = .ok (.iload_n 3, 1) := by decide +kernel
theorem dL_law_962 : decode cL_law 962 = .ok (.iconst 1, 1) := by decide +kernel
theorem dL_law_963 : decode cL_law 963 = .ok (.iadd, 1) := by decide +kernel
theorem dL_law_964 : decode cL_law 964 = .ok (.iaload, 1) := by decide +kernel
theorem dL_law_965 : decode cL_law 965 = .ok (.invokevirtual 128, 3) := by decide +kernel
theorem dL_law_968 : decode cL_law 968 = .ok (.aload_n 2, 1) := by decide +kernel
theorem dL_law_969 : decode cL_law 969 = .ok (.aload_n 0, 1) := by decide +kernel
theorem dL_law_970 : decode cL_law 970 = .ok (.iload_n 3, 1) := by decide +kernel
theorem dL_law_971 : decode cL_law 971 = .ok (.iconst 1, 1) := by decide +kernel
theorem dL_law_972 : decode cL_law 972 = .ok (.iadd, 1) := by decide +kernel
theorem dL_law_973 : decode cL_law 973 = .ok (.iaload, 1) := by decide +kernel
theorem dL_law_974 : decode cL_law 974 = .ok (.invokevirtual 131, 3) := by decide +kernel
theorem dL_law_977 : decode cL_law 977 = .ok (.if_icmp .eq 203, 3) := by decide +kernel
theorem dL_law_980 : decode cL_law 980 = .ok (.iconst 0, 1) := by decide +kernel
theorem dL_law_981 : decode cL_law 981 = .ok (.ireturn, 1) := by decide +kernel
theorem dL_law_982 : decode cL_law 982 = .ok (.aload_n 1, 1) := by decide +kernel
theorem dL_law_983 : decode cL_law 983 = .ok (.aload_n 0, 1) := by decide +kernel
theorem dL_law_984 : decode cL_law 984 = .ok (.iload_n 3, 1) := by decide +kernel
theorem dL_law_985 : decode cL_law 985 = .ok (.iconst 1, 1) := by decide +kernel
theorem dL_law_986 : decode cL_law 986 = .ok (.iadd, 1) := by decide +kernel
theorem dL_law_987 : decode cL_law 987 = .ok (.iaload, 1) := by decide +kernel
theorem dL_law_988 : decode cL_law 988 = .ok (.invokevirtual 132, 3) := by decide +kernel
theorem dL_law_991 : decode cL_law 991 = .ok (.aload_n 2, 1) := by decide +kernel
theorem dL_law_992 : decode cL_law 992 = .ok (.aload_n 0, 1) := by decide +kernel
theorem dL_law_993 : decode cL_law 993 = .ok (.iload_n 3, 1) := by decide +kernel
theorem dL_law_994 : decode cL_law 994 = .ok (.iconst 1, 1) := by decide +kernel
theorem dL_law_995 : decode cL_law 995 = .ok (.iadd, 1) := by decide +kernel
theorem dL_law_996 : decode cL_law 996 = .ok (.iaload, 1) := by decide +kernel
theorem dL_law_997 : decode cL_law 997 = .ok (.invokevirtual 135, 3) := by decide +kernel
theorem dL_law_1000 : decode cL_law 1000 = .ok (.if_icmp .eq 180, 3) := by decide +kernel
theorem dL_law_1003 : decode cL_law 1003 = .ok (.iconst 0, 1) := by decide +kernel
theorem dL_law_1004 : decode cL_law 1004 = .ok (.ireturn, 1) := by decide +kernel
theorem dL_law_1005 : decode cL_law 1005 = .ok (.aload_n 1, 1) := by decide +kernel
theorem dL_law_1006 : decode cL_law 1006 = .ok (.invokevirtual 136, 3) := by decide +kernel
theorem dL_law_1009 : decode cL_law 1009 = .ok (.aload_n 2, 1) := by decide +kernel
theorem dL_law_1010 : decode cL_law 1010 = .ok (.invokevirtual 139, 3) := by decide +kernel
theorem dL_law_1013 : decode cL_law 1013 = .ok (.if_icmp .eq 167, 3) := by decide +kernel
theorem dL_law_1016 : decode cL_law 1016 = .ok (.iconst 0, 1) := by decide +kernel
theorem dL_law_1017 : decode cL_law 1017 = .ok (.ireturn, 1) := by decide +kernel
theorem dL_law_1018 : decode cL_law 1018 = .ok (.aload_n 1, 1) := by decide +kernel
theorem dL_law_1019 : decode cL_law 1019 = .ok (.aload_n 0, 1) := by decide +kernel
theorem dL_law_1020 : decode cL_law 1020 = .ok (.iload_n 3, 1) := by decide +kernel
theorem dL_law_1021 : decode cL_law 1021 = .ok (.iconst 1, 1) := by decide +kernel
theorem dL_law_1022 : decode cL_law 1022 = .ok (.iadd, 1) := by decide +kernel
theorem dL_law_1023 : decode cL_law 1023 = .ok (.iaload, 1) := by decide +kernel
theorem dL_law_1024 : decode cL_law 1024 = .ok (.invokevirtual 140, 3) := by decide +kernel
theorem dL_law_1027 : decode cL_law 1027 = .ok (.aload_n 2, 1) := by decide +kernel
theorem dL_law_1028 : decode cL_law 1028 = .ok (.aload_n 0, 1) := by decide +kernel
theorem dL_law_1029 : decode cL_law 1029 = .ok (.iload_n 3, 1) := by decide +kernel
theorem dL_law_1030 : decode cL_law 1030 = .ok (.iconst 1, 1) := by decide +kernel
theorem dL_law_1031 : decode cL_law 1031 = .ok (.iadd, 1) := by decide +kernel
theorem dL_law_1032 : decode cL_law 1032 = .ok (.iaload, 1) := by decide +kernel
theorem dL_law_1033 : decode cL_law 1033 = .ok (.invokevirtual 143, 3) := by decide +kernel
theorem dL_law_1036 : decode cL_law 1036 = .ok (.if_icmp .eq 144, 3) := by decide +kernel
theorem dL_law_1039 : decode cL_law 1039 = .ok (.iconst 0, 1) := by decide +kernel
theorem dL_law_1040 : decode cL_law 1040 = .ok (.ireturn, 1) := by decide +kernel
theorem dL_law_1041 : decode cL_law 1041 = .ok (.aload_n 1, 1) := by decide +kernel
theorem dL_law_1042 : decode cL_law 1042 = .ok (.aload_n 0, 1) := by decide +kernel
theorem dL_law_1043 : decode cL_law 1043 = .ok (.iload_n 3, 1) := by decide +kernel
theorem dL_law_1044 : decode cL_law 1044 = .ok (.iconst 1, 1) := by decide +kernel
theorem dL_law_1045 : decode cL_law 1045 = .ok (.iadd, 1) := by decide +kernel
theorem dL_law_1046 : decode cL_law 1046 = .ok (.iaload, 1) := by decide +kernel
theorem dL_law_1047 : decode cL_law 1047 = .ok (.i2c, 1) := by decide +kernel
theorem dL_law_1048 : decode cL_law 1048 = .ok (.invokevirtual 144, 3) := by decide +kernel
theorem dL_law_1051 : decode cL_law 1051 = .ok (.aload_n 2, 1) := by decide +kernel
theorem dL_law_1052 : decode cL_law 1052 = .ok (.aload_n 0, 1) := by decide +kernel
theorem dL_law_1053 : decode cL_law 1053 = .ok (.iload_n 3, 1) := by decide +kernel
theorem dL_law_1054 : decode cL_law 1054 = .ok (.iconst 1, 1) := by decide +kernel
theorem dL_law_1055 : decode cL_law 1055 = .ok (.iadd, 1) := by decide +kernel
theorem dL_law_1056 : decode cL_law 1056 = .ok (.iaload, 1) := by decide +kernel
theorem dL_law_1057 : decode cL_law 1057 = .ok (.i2c, 1) := by decide +kernel
theorem dL_law_1058 : decode cL_law 1058 = .ok (.invokevirtual 148, 3) := by decide +kernel
theorem dL_law_1061 : decode cL_law 1061 = .ok (.if_icmp .eq 119, 3) := by decide +kernel
theorem dL_law_1064 : decode cL_law 1064 = .ok (.iconst 0, 1) := by decide +kernel
theorem dL_law_1065 : decode cL_law 1065 = .ok (.ireturn, 1) := by decide +kernel
theorem dL_law_1066 : decode cL_law 1066 = .ok (.aload_n 1, 1) := by decide +kernel
theorem dL_law_1067 : decode cL_law 1067 = .ok (.invokevirtual 149, 3) := by decide +kernel
theorem dL_law_1070 : decode cL_law 1070 = .ok (.aload_n 2, 1) := by decide +kernel
theorem dL_law_1071 : decode cL_law 1071 = .ok (.invokevirtual 152, 3) := by decide +kernel
theorem dL_law_1074 : decode cL_law 1074 = .ok (.if_icmp .eq 106, 3) := by decide +kernel
theorem dL_law_1077 : decode cL_law 1077 = .ok (.iconst 0, 1) := by decide +kernel
theorem dL_law_1078 : decode cL_law 1078 = .ok (.ireturn, 1) := by decide +kernel
theorem dL_law_1079 : decode cL_law 1079 = .ok (.aload_n 1, 1) := by decide +kernel
theorem dL_law_1080 : decode cL_law 1080 = .ok (.invokevirtual 153, 3) := by decide +kernel
theorem dL_law_1083 : decode cL_law 1083 = .ok (.aload_n 2, 1) := by decide +kernel
theorem dL_law_1084 : decode cL_law 1084 = .ok (.invokevirtual 156, 3) := by decide +kernel
theorem dL_law_1087 : decode cL_law 1087 = .ok (.if_icmp .eq 93, 3) := by decide +kernel
theorem dL_law_1090 : decode cL_law 1090 = .ok (.iconst 0, 1) := by decide +kernel
theorem dL_law_1091 : decode cL_law 1091 = .ok (.ireturn, 1) := by decide +kernel
theorem dL_law_1092 : decode cL_law 1092 = .ok (.aload_n 1, 1) := by decide +kernel
theorem dL_law_1093 : decode cL_law 1093 = .ok (.aload_n 0, 1) := by decide +kernel
theorem dL_law_1094 : decode cL_law 1094 = .ok (.iload_n 3, 1) := by decide +kernel
theorem dL_law_1095 : decode cL_law 1095 = .ok (.iconst 1, 1) := by decide +kernel
theorem dL_law_1096 : decode cL_law 1096 = .ok (.iadd, 1) := by decide +kernel
theorem dL_law_1097 : decode cL_law 1097 = .ok (.iaload, 1) := by decide +kernel
theorem dL_law_1098 : decode cL_law 1098 = .ok (.aload_n 0, 1) := by decide +kernel
theorem dL_law_1099 : decode cL_law 1099 = .ok (.iload_n 3, 1) := by decide +kernel
theorem dL_law_1100 : decode cL_law 1100 = .ok (.iconst 2, 1) := by decide +kernel
theorem dL_law_1101 : decode cL_law 1101 = .ok (.iadd, 1) := by decide +kernel
theorem dL_law_1102 : decode cL_law 1102 = .ok (.iaload, 1) := by decide +kernel
theorem dL_law_1103 : decode cL_law 1103 = .ok (.ifCond .eq 7, 3) := by decide +kernel
theorem dL_law_1106 : decode cL_law 1106 = .ok (.iconst 1, 1) := by decide +kernel
theorem dL_law_1107 : decode cL_law 1107 = .ok (.goto 4, 3) := by decide +kernel
theorem dL_law_1110 : decode cL_law 1110 = .ok (.iconst 0, 1) := by decide +kernel
theorem dL_law_1111 : decode cL_law 1111 = .ok (.invokevirtual 157, 3) := by decide +kernel
theorem dL_law_1114 : decode cL_law 1114 = .ok (.aload_n 2, 1) := by decide +kernel
theorem dL_law_1115 : decode cL_law 1115 = .ok (.aload_n 0, 1) := by decide +kernel
theorem dL_law_1116 : decode cL_law 1116 = .ok (.iload_n 3, 1) := by decide +kernel
theorem dL_law_1117 : decode cL_law 1117 = .ok (.iconst 1, 1) := by decide +kernel
theorem dL_law_1118 : decode cL_law 1118 = .ok (.iadd, 1) := by decide +kernel
theorem dL_law_1119 : decode cL_law 1119 = .ok (.iaload, 1) := by decide +kernel
theorem dL_law_1120 : decode cL_law 1120 = .ok (.aload_n 0, 1) := by decide +kernel
theorem dL_law_1121 : decode cL_law 1121 = .ok (.iload_n 3, 1) := by decide +kernel
theorem dL_law_1122 : decode cL_law 1122 = .ok (.iconst 2, 1) := by decide +kernel
theorem dL_law_1123 : decode cL_law 1123 = .ok (.iadd, 1) := by decide +kernel
theorem dL_law_1124 : decode cL_law 1124 = .ok (.iaload, 1) := by decide +kernel
theorem dL_law_1125 : decode cL_law 1125 = .ok (.ifCond .eq 7, 3) := by decide +kernel
theorem dL_law_1128 : decode cL_law 1128 = .ok (.iconst 1, 1) := by decide +kernel
theorem dL_law_1129 : decode cL_law 1129 = .ok (.goto 4, 3) := by decide +kernel
theorem dL_law_1132 : decode cL_law 1132 = .ok (.iconst 0, 1) := by decide +kernel
theorem dL_law_1133 : decode cL_law 1133 = .ok (.invokevirtual 161, 3) := by decide +kernel
theorem dL_law_1136 : decode cL_law 1136 = .ok (.if_icmp .eq 44, 3) := by decide +kernel
theorem dL_law_1139 : decode cL_law 1139 = .ok (.iconst 0, 1) := by decide +kernel
theorem dL_law_1140 : decode cL_law 1140 = .ok (.ireturn, 1) := by decide +kernel
theorem dL_law_1141 : decode cL_law 1141 = .ok (.aload_n 1, 1) := by decide +kernel
theorem dL_law_1142 : decode cL_law 1142 = .ok (.invokevirtual 162, 3) := by decide +kernel
theorem dL_law_1145 : decode cL_law 1145 = .ok (.aload_n 2, 1) := by decide +kernel
theorem dL_law_1146 : decode cL_law 1146 = .ok (.invokevirtual 165, 3) := by decide +kernel
theorem dL_law_1149 : decode cL_law 1149 = .ok (.if_icmp .eq 31, 3) := by decide +kernel
theorem dL_law_1152 : decode cL_law 1152 = .ok (.iconst 0, 1) := by decide +kernel
theorem dL_law_1153 : decode cL_law 1153 = .ok (.ireturn, 1) := by decide +kernel
theorem dL_law_1154 : decode cL_law 1154 = .ok (.aload_n 1, 1) := by decide +kernel
theorem dL_law_1155 : decode cL_law 1155 = .ok (.invokevirtual 166, 3) := by decide +kernel
theorem dL_law_1158 : decode cL_law 1158 = .ok (.aload_n 2, 1) := by decide +kernel
theorem dL_law_1159 : decode cL_law 1159 = .ok (.invokevirtual 169, 3) := by decide +kernel
theorem dL_law_1162 : decode cL_law 1162 = .ok (.if_icmp .eq 18, 3) := by decide +kernel
theorem dL_law_1165 : decode cL_law 1165 = .ok (.iconst 0, 1) := by decide +kernel
theorem dL_law_1166 : decode cL_law 1166 = .ok (.ireturn, 1) := by decide +kernel
theorem dL_law_1167 : decode cL_law 1167 = .ok (.aload_n 1, 1) := by decide +kernel
theorem dL_law_1168 : decode cL_law 1168 = .ok (.invokevirtual 170, 3) := by decide +kernel
theorem dL_law_1171 : decode cL_law 1171 = .ok (.aload_n 2, 1) := by decide +kernel
theorem dL_law_1172 : decode cL_law 1172 = .ok (.invokevirtual 173, 3) := by decide +kernel
theorem dL_law_1175 : decode cL_law 1175 = .ok (.if_icmp .eq 5, 3) := by decide +kernel
theorem dL_law_1178 : decode cL_law 1178 = .ok (.iconst 0, 1) := by decide +kernel
theorem dL_law_1179 : decode cL_law 1179 = .ok (.ireturn, 1) := by decide +kernel
theorem dL_law_1180 : decode cL_law 1180 = .ok (.iinc 3 5, 3) := by decide +kernel
theorem dL_law_1183 : decode cL_law 1183 = .ok (.goto (-1165), 3) := by decide +kernel
theorem dL_law_1186 : decode cL_law 1186 = .ok (.iconst 1, 1) := by decide +kernel
theorem dL_law_1187 : decode cL_law 1187 = .ok (.ireturn, 1) := by decide +kernel
end
section
/-! the words that all contracts share: those of the tables that hold all along -/
def lw_g : List Cond := lw_tbl.filter goodWord
theorem lw_gm {w : Cond} (h : w ∈ lw_tbl) (hg : goodWord w = true) : w ∈ lw_g := List.mem_filter.mpr ⟨h, hg⟩
theorem lw_g_in : ∀ w ∈ lw_g, w ∈ lw_tbl := fun w h => (List.mem_filter.mp h).1
def isNestW : Cond → Bool
  | .fieldLinkNest .. => true
  | .methodLinkNest .. => true
  | _ => false
def lw_n : List Cond := lw_tbl.filter isNestW
theorem lw_nm {w : Cond} (h : w ∈ lw_tbl) (hg : isNestW w = true) : w ∈ lw_n := List.mem_filter.mpr ⟨h, hg⟩
def NwX (U : State) : Prop := ∀ w ∈ lw_n, va_Nw w U
theorem NwX.warm {s U : State} (hW : s.WarmedH U.vm) (h : NwX s) : NwX U := by
  intro w hw
  have h1 := h w hw
  have h2 := (List.mem_filter.mp hw).2
  cases w <;> first | exact va_Nw.warmF hW h1 | exact va_Nw.warmM hW h1 | cases h2
theorem NwX.same {u U : State} (hv : u.vm = U.vm) (h : NwX u) : NwX U := by
  intro w hw
  have h1 := h w hw
  have h2 := (List.mem_filter.mp hw).2
  cases w <;> first | exact va_Nw.same rfl hv h1 | cases h2
theorem NwX.use {A : Array Value} {U : State} {w : Cond} (h : NwX U) (hw : w ∈ lw_n) : w.before A U = true := by
  have h1 := h w hw
  have h2 := (List.mem_filter.mp hw).2
  cases w <;> first | exact va_Nw.use rfl h1 | cases h2
theorem tin1 {w : Cond} (h : w ∈ tables_1_1) : w ∈ lw_tbl := List.mem_append_right _ (List.mem_append_left _ h)
theorem tin2 {w : Cond} (h : w ∈ tables_1_2) : w ∈ lw_tbl := List.mem_append_right _ (List.mem_append_right _ (List.mem_append_left _ h))
theorem tin3 {w : Cond} (h : w ∈ tables_1_3) : w ∈ lw_tbl := List.mem_append_right _ (List.mem_append_right _ (List.mem_append_right _ (List.mem_append_left _ h)))
theorem tin4 {w : Cond} (h : w ∈ tables_1_4) : w ∈ lw_tbl := List.mem_append_right _ (List.mem_append_right _ (List.mem_append_right _ (List.mem_append_right _ (List.mem_append_left _ h))))
theorem tin5 {w : Cond} (h : w ∈ tables_1_5) : w ∈ lw_tbl := List.mem_append_right _ (List.mem_append_right _ (List.mem_append_right _ (List.mem_append_right _ (List.mem_append_right _ (List.mem_append_left _ h)))))
theorem tin6 {w : Cond} (h : w ∈ tables_1_6) : w ∈ lw_tbl := List.mem_append_right _ (List.mem_append_right _ (List.mem_append_right _ (List.mem_append_right _ (List.mem_append_right _ (List.mem_append_right _ h)))))
theorem tinS {q : MethodName × Nat} (h : q ∈ lw_privs) : Cond.selects q.1.cls q.1 q.1 ∈ lw_tbl := List.mem_append_left _ (List.mem_map.mpr ⟨q, h, rfl⟩)
/-! numbers: the kit's laws of small naturals as int values -/
theorem rngI (x : Int32) : -2147483648 ≤ x.toInt ∧ x.toInt < 2147483648 := by
  have h1 := Int32.le_toInt x
  have h2 := Int32.toInt_lt x
  omega
theorem ltI (a b : Int32) : a < b ↔ a.toInt < b.toInt := Int32.lt_iff_toInt_lt
theorem leI (a b : Int32) : a ≤ b ↔ a.toInt ≤ b.toInt := Int32.le_iff_toInt_le
theorem eqI (a b : Int32) : a = b ↔ a.toInt = b.toInt := Int32.toInt_inj.symm
/-! worlds by places -/
abbrev gT : Type := va_G × ClassId × ClassId × ClassId × ClassId × (Nat → Nat) × (Nat → Nat)
abbrev gTy (g : gT) : List (ClassId × FieldType) := [(g.2.1, .int), (g.2.2.1, .float), (g.2.2.2.1, .char), (g.2.2.2.2.1, .object RX4)]
/-! the String constants of the reader's forms, and the statics that their methods read -/
def sxTx : Nat → String := fun i => match i with
  | 0 => "joke # % % #"
  | 1 => "prime %"
  | 2 => "drop %"
  | 3 => "drain %"
  | 4 => "stroke %"
  | 5 => "bucket # #"
  | 6 => "go #"
  | _ => "pump #"
def sxLen : List Nat := [12, 7, 6, 7, 8, 10, 4, 6]
def sxByt : List (List Int32) := [[106, 111, 107, 101, 32, 35, 32, 37, 32, 37, 32, 35], [112, 114, 105, 109, 101, 32, 37], [100, 114, 111, 112, 32, 37], [100, 114, 97, 105, 110, 32, 37], [115, 116, 114, 111, 107, 101, 32, 37], [98, 117, 99, 107, 101, 116, 32, 35, 32, 35], [103, 111, 32, 35], [112, 117, 109, 112, 32, 35]]
def Sx (g : gT) (A : Nat → Prop) (U : State) (H : Heap) : Prop := vk_S 8 sxLen sxByt g.2.2.2.2.2.1 g.2.2.2.2.2.2 A U H ∧ (∀ i, i < 8 → vk_R RX2 (81 + 2 * i) (sxTx i) (g.2.2.2.2.2.1 i) U) ∧ va_Z "java/lang/String" "COMPACT_STRINGS" "Z" (.int 1) A U H ∧ va_Zq "jdk/internal/util/Preconditions" "SIOOBE_FORMATTER" "Ljava/util/function/BiFunction;" A U H
theorem Sx.go {g : gT} {A B : Nat → Prop} {s U : State} {H0 H : Heap} (h : Sx g A s H0) (hW : s.WarmedH U.vm) (hq : ∀ a : Nat, a < H0.size → ¬ A a → H[a]? = H0[a]?) (hAB : ∀ q, B q → A q) : Sx g B U H := by
  obtain ⟨h1, h2, h3, h4⟩ := h
  have hv := hW.alike
  exact ⟨((h1.moved hv).kept hq).narrow hAB, fun i hi => (h2 i hi).warm hW, ((h3.moved hv).kept hq).narrow hAB, ((h4.moved hv).kept hq).narrow hAB⟩
theorem Sx.same {g : gT} {A : Nat → Prop} {u U : State} {H : Heap} (h : Sx g A u H) (hv : u.vm = U.vm) : Sx g A U H := by
  obtain ⟨h1, h2, h3, h4⟩ := h
  have hA : u.vm.Alike U.vm := by rw [hv]; exact Vm.Alike.refl U.vm
  exact ⟨h1.moved hA, fun i hi => vk_R.same hv.symm (h2 i hi), h3.moved hA, h4.moved hA⟩
def wl (N : Nat) (ad : Nat → Nat) (F : Nat → va_E) : va_W := (List.range N).map (fun i => (ad i, F i))
theorem wl_at {N : Nat} {ad : Nat → Nat} {F : Nat → va_E} {i : Nat} {e : va_E} (h : i < N) (he : F i = e) : (wl N ad F)[i]? = some (ad i, e) := by
  subst he
  simp [wl, h]
theorem wl_lt {N : Nat} {ad : Nat → Nat} {F : Nat → va_E} {k : Nat} {q : Nat × va_E} (h : (wl N ad F)[k]? = some q) : k < N ∧ q = (ad k, F k) := by
  by_cases hk : k < N
  · rw [wl_at hk rfl] at h
    exact ⟨hk, (Option.some.inj h).symm⟩
  · simp [wl, hk] at h
theorem wl_set {N : Nat} {ad : Nat → Nat} {F : Nat → va_E} {i : Nat} (e : va_E) : (wl N ad F).set i (ad i, e) = wl N ad (va_up F i e) := by
  apply List.ext_getElem?
  intro j
  rw [List.getElem?_set]
  by_cases hl : j < N
  · by_cases hj : i = j
    · subst hj
      simp [wl, hl, va_up]
    · have hj2 : ¬ j = i := fun q => hj q.symm
      simp [wl, hl, hj, hj2, va_up]
  · by_cases hj : i = j
    · subst hj
      simp [wl, hl]
    · simp [wl, hl, hj]
theorem wl_push {N : Nat} {ad : Nat → Nat} {F : Nat → va_E} (q : Nat) (e : va_E) : wl N ad F ++ [(q, e)] = wl (N + 1) (va_up ad N q) (va_up F N e) := by
  simp only [wl, List.range_succ, List.map_append, List.map_cons, List.map_nil]
  congr 1
  · apply List.map_congr_left
    intro i hi
    have h : i < N := List.mem_range.mp hi
    have h2 : ¬ i = N := by omega
    simp [va_up, h2]
  · simp [va_up]
/-! what holds all through a method: the machine, the code, the words; the tables, the addresses; the heap -/
def Kx (p : Program) (m : MethodId) (meth : Method) (c : Code) (s : State) (args : Array Value) (cc : ByteArray) (nL : Nat) (own : String) (ret : Option FieldType) : Prop := (p.tables.exec = Jvm.exec ∧ c.code = cc ∧ c.maxLocals = nL ∧ s.vm.findClass own = some m.cls ∧ ∀ w ∈ lw_g, w.before args s = true) ∧ meth.sig.returnType = ret ∧ meth.locks = false
def Mx (g : gT) (N : Nat) (ad : Nat → Nat) (A : Nat → Prop) (s : State) : Prop := va_K g.1 vwCl (gTy g) s ∧ (∀ i j, i < N → j < N → ad i = ad j → i = j) ∧ (∀ i, i < N → A (ad i)) ∧ (∀ q, s.heap.size ≤ q → A q) ∧ NwX s ∧ Sx g A s s.heap
def Hx (g : gT) (N : Nat) (ad : Nat → Nat) (F : Nat → va_E) (A : Nat → Prop) (s : State) (H : Heap) (locs : List Loc) : Prop := va_P g.1 vwCl (wl N ad F) H ∧ va_S A s.heap H locs
theorem Mx.D {g : gT} {N : Nat} {ad : Nat → Nat} {A : Nat → Prop} {s : State} (M : Mx g N ad A s) (F : Nat → va_E) : va_D A (wl N ad F) := by
  refine ⟨fun i j x y hi hj hxy => ?_, fun k q hk => ?_⟩
  · obtain ⟨h1, rfl⟩ := wl_lt hi
    obtain ⟨h2, rfl⟩ := wl_lt hj
    exact M.2.1 i j h1 h2 hxy
  · obtain ⟨h1, rfl⟩ := wl_lt hk
    exact M.2.2.1 k h1
def fr (N : Nat) (ad : Nat → Nat) (sz : Nat) : Nat → Prop := fun q => (∃ i, i < N ∧ q = ad i) ∨ sz ≤ q
/-! contracts -/
def WS (y : MethodName) (cc : ByteArray) (nL : Nat) (ret : Option FieldType) : List Cond := .code y cc nL ret :: lw_g
def Pw (g : gT) (N : Nat) (ad : Nat → Nat) (F : Nat → va_E) (sz : Nat) : State → Prop := fun U => U.heap.size = sz ∧ va_P g.1 vwCl (wl N ad F) U.heap ∧ va_K g.1 vwCl (gTy g) U ∧ (∀ i j, i < N → j < N → ad i = ad j → i = j) ∧ NwX U ∧ Sx g (fr N ad sz) U U.heap
def Bw (g : gT) (N : Nat) (ad : Nat → Nat) : (Nat → va_E) → State → Prop := fun F t => va_P g.1 vwCl (wl N ad F) t.heap
abbrev rmR (fm lo : Nat) : Room := { frames := fm, cells := 0, slots := 0, locals := lo }
def CtI (l : Launch) (y : MethodName) (cc : ByteArray) (nL : Nat) (ret : Option FieldType) (fm lo : Nat) (g : gT) (N : Nat) (ad : Nat → Nat) (F : Nat → va_E) (As : List Value) (post : Int32 → (Nat → va_E) → Prop) : Prop := ∀ sz : Nat, Met l y (WS y cc nL ret) (rmR fm lo) (va_Pc As (Pw g N ad F sz)) (va_Qi post (Bw g N ad) (fr N ad sz)) 0 0 (fr N ad sz)
def CtV (l : Launch) (y : MethodName) (cc : ByteArray) (nL : Nat) (ret : Option FieldType) (fm lo : Nat) (g : gT) (N : Nat) (ad : Nat → Nat) (F : Nat → va_E) (As : List Value) (post : (Nat → va_E) → Prop) : Prop := ∀ sz : Nat, Met l y (WS y cc nL ret) (rmR fm lo) (va_Pc As (Pw g N ad F sz)) (va_Qv post (Bw g N ad) (fr N ad sz)) 0 0 (fr N ad sz)
def CtF (l : Launch) (y : MethodName) (cc : ByteArray) (nL : Nat) (ret : Option FieldType) (fm lo : Nat) (g : gT) (N : Nat) (ad : Nat → Nat) (F : Nat → va_E) (As : List Value) (post : UInt32 → (Nat → va_E) → Prop) : Prop := ∀ sz : Nat, Met l y (WS y cc nL ret) (rmR fm lo) (va_Pc As (Pw g N ad F sz)) (va_Qf post (Bw g N ad) (fr N ad sz)) 0 0 (fr N ad sz)
def CtD (l : Launch) (y : MethodName) (cc : ByteArray) (nL : Nat) (ret : Option FieldType) (fm lo : Nat) (g : gT) (N : Nat) (ad : Nat → Nat) (F : Nat → va_E) (As : List Value) (post : UInt64 → (Nat → va_E) → Prop) : Prop := ∀ sz : Nat, Met l y (WS y cc nL ret) (rmR fm lo) (va_Pc As (Pw g N ad F sz)) (va_Qd post (Bw g N ad) (fr N ad sz)) 0 0 (fr N ad sz)
def CtQ (l : Launch) (y : MethodName) (cc : ByteArray) (nL : Nat) (ret : Option FieldType) (fm lo : Nat) (g : gT) (N : Nat) (ad : Nat → Nat) (F : Nat → va_E) (As : List Value) (post : Option Nat → (Nat → va_E) → Prop) : Prop := ∀ sz : Nat, Met l y (WS y cc nL ret) (rmR fm lo) (va_Pc As (Pw g N ad F sz)) (va_Qq post (Bw g N ad) (fr N ad sz)) 0 0 (fr N ad sz)
theorem blind_w {g : gT} {N : Nat} {ad : Nat → Nat} {F : Nat → va_E} {sz : Nat} {As : List Value} : FrameBlind (va_Pc As (Pw g N ad F sz)) := by
  intro a U gg mk q
  obtain ⟨q0, q1, qP, qK, qD, qN, qX⟩ := q
  exact ⟨q0, q1, qP, va_K.moved (u := U) (U := U.calling gg mk a) (Vm.Alike.refl U.vm) qK, qD, NwX.same (u := U) (U := U.calling gg mk a) rfl qN, Sx.same (u := U) (U := U.calling gg mk a) qX rfl⟩
theorem lwg_code {args : Array Value} {s : State} {y : MethodName} {cc : ByteArray} {nL : Nat} {ret : Option FieldType} (h : ∀ w ∈ WS y cc nL ret, w.before args s = true) : ∀ w ∈ lw_g, w.before args s = true := fun w hw => h w (List.mem_cons_of_mem _ hw)
theorem met_body {Qc : (Nat → Prop) → Array Value → State → Outcome → State → Prop} {l : Launch} {y : MethodName} {cc : ByteArray} {nL : Nat} {ret : Option FieldType} {fm lo : Nat} {g : gT} {N : Nat} {ad : Nat → Nat} {F : Nat → va_E} {As : List Value} (hy : plainName y.cls = true) (hlen : (lg_sl As).length ≤ nL)
    (body : ∀ (p : Program) (e : Env) (s : State) (m : MethodId) (args : Array Value) (below : List Frame) (meth : Method) (c : Code) (A : Nat → Prop) (H : Heap) (ls : Array Slot), Kx p m meth c s args cc nL y.cls ret → Mx g N ad A s → Hx g N ad F A s H [] → lv_has ls nL (lv_args 0 As) → W p l e (rmR fm lo) s m args below meth c H [] 0 0 (MQ below (Qc A) args s 0 0 A) (F0 m 0 ls [])) (sz : Nat) : Met l y (WS y cc nL ret) (rmR fm lo) (va_Pc As (Pw g N ad F sz)) (Qc (fr N ad sz)) 0 0 (fr N ad sz) := by
  refine Met.ofW (cc := cc) (maxL := nL) (ret := ret) hy rfl ?_
  intro p e s m args below meth c s₁ B hml hv
  obtain ⟨rfl, hsz, hP, hK, hI, hNw, hSx⟩ := hv
  have hts := atoms_spec (ws := WS y cc nL ret) B.pre
  have hown : s.vm.findClass y.cls = some m.cls := findClass_of_methodNamed B.named
  subst hsz
  have hl := lv_entry As hlen
  rw [lg_entry_eq]
  exact body p e s m _ below meth c _ s.heap _ ⟨⟨B.exec, B.bytes, hml, hown, lwg_code hts⟩, B.returns, B.notSynchronized⟩ ⟨hK, hI, fun i hi => Or.inl ⟨i, hi, rfl⟩, fun q h => Or.inr h, hNw, hSx⟩ ⟨hP, va_S.rf⟩ hl
section CT
variable {l : Launch} {y : MethodName} {cc : ByteArray} {nL : Nat} {ret : Option FieldType} {fm lo : Nat} {g : gT} {N : Nat} {ad : Nat → Nat} {F : Nat → va_E} {As : List Value}
abbrev GwI (l : Launch) (cc : ByteArray) (nL : Nat) (own : String) (ret : Option FieldType) (fm lo : Nat) (g : gT) (N : Nat) (ad : Nat → Nat) (F : Nat → va_E) (As : List Value) (post : Int32 → (Nat → va_E) → Prop) : Prop := ∀ (p : Program) (e : Env) (s : State) (m : MethodId) (args : Array Value) (below : List Frame) (meth : Method) (c : Code) (A : Nat → Prop) (H : Heap) (ls : Array Slot), Kx p m meth c s args cc nL own ret → Mx g N ad A s → Hx g N ad F A s H [] → lv_has ls nL (lv_args 0 As) → W p l e (rmR fm lo) s m args below meth c H [] 0 0 (MQ below (va_Qi post (Bw g N ad) A) args s 0 0 A) (F0 m 0 ls [])
theorem CtI_of {post : Int32 → (Nat → va_E) → Prop} (hy : plainName y.cls = true) (hlen : (lg_sl As).length ≤ nL) (body : GwI l cc nL y.cls ret fm lo g N ad F As post) : CtI l y cc nL ret fm lo g N ad F As post := fun sz => met_body (Qc := fun A => va_Qi post (Bw g N ad) A) hy hlen body sz
abbrev GwV (l : Launch) (cc : ByteArray) (nL : Nat) (own : String) (ret : Option FieldType) (fm lo : Nat) (g : gT) (N : Nat) (ad : Nat → Nat) (F : Nat → va_E) (As : List Value) (post : (Nat → va_E) → Prop) : Prop := ∀ (p : Program) (e : Env) (s : State) (m : MethodId) (args : Array Value) (below : List Frame) (meth : Method) (c : Code) (A : Nat → Prop) (H : Heap) (ls : Array Slot), Kx p m meth c s args cc nL own ret → Mx g N ad A s → Hx g N ad F A s H [] → lv_has ls nL (lv_args 0 As) → W p l e (rmR fm lo) s m args below meth c H [] 0 0 (MQ below (va_Qv post (Bw g N ad) A) args s 0 0 A) (F0 m 0 ls [])
theorem CtV_of {post : (Nat → va_E) → Prop} (hy : plainName y.cls = true) (hlen : (lg_sl As).length ≤ nL) (body : GwV l cc nL y.cls ret fm lo g N ad F As post) : CtV l y cc nL ret fm lo g N ad F As post := fun sz => met_body (Qc := fun A => va_Qv post (Bw g N ad) A) hy hlen body sz
abbrev GwF (l : Launch) (cc : ByteArray) (nL : Nat) (own : String) (ret : Option FieldType) (fm lo : Nat) (g : gT) (N : Nat) (ad : Nat → Nat) (F : Nat → va_E) (As : List Value) (post : UInt32 → (Nat → va_E) → Prop) : Prop := ∀ (p : Program) (e : Env) (s : State) (m : MethodId) (args : Array Value) (below : List Frame) (meth : Method) (c : Code) (A : Nat → Prop) (H : Heap) (ls : Array Slot), Kx p m meth c s args cc nL own ret → Mx g N ad A s → Hx g N ad F A s H [] → lv_has ls nL (lv_args 0 As) → W p l e (rmR fm lo) s m args below meth c H [] 0 0 (MQ below (va_Qf post (Bw g N ad) A) args s 0 0 A) (F0 m 0 ls [])
theorem CtF_of {post : UInt32 → (Nat → va_E) → Prop} (hy : plainName y.cls = true) (hlen : (lg_sl As).length ≤ nL) (body : GwF l cc nL y.cls ret fm lo g N ad F As post) : CtF l y cc nL ret fm lo g N ad F As post := fun sz => met_body (Qc := fun A => va_Qf post (Bw g N ad) A) hy hlen body sz
abbrev GwD (l : Launch) (cc : ByteArray) (nL : Nat) (own : String) (ret : Option FieldType) (fm lo : Nat) (g : gT) (N : Nat) (ad : Nat → Nat) (F : Nat → va_E) (As : List Value) (post : UInt64 → (Nat → va_E) → Prop) : Prop := ∀ (p : Program) (e : Env) (s : State) (m : MethodId) (args : Array Value) (below : List Frame) (meth : Method) (c : Code) (A : Nat → Prop) (H : Heap) (ls : Array Slot), Kx p m meth c s args cc nL own ret → Mx g N ad A s → Hx g N ad F A s H [] → lv_has ls nL (lv_args 0 As) → W p l e (rmR fm lo) s m args below meth c H [] 0 0 (MQ below (va_Qd post (Bw g N ad) A) args s 0 0 A) (F0 m 0 ls [])
theorem CtD_of {post : UInt64 → (Nat → va_E) → Prop} (hy : plainName y.cls = true) (hlen : (lg_sl As).length ≤ nL) (body : GwD l cc nL y.cls ret fm lo g N ad F As post) : CtD l y cc nL ret fm lo g N ad F As post := fun sz => met_body (Qc := fun A => va_Qd post (Bw g N ad) A) hy hlen body sz
abbrev GwQ (l : Launch) (cc : ByteArray) (nL : Nat) (own : String) (ret : Option FieldType) (fm lo : Nat) (g : gT) (N : Nat) (ad : Nat → Nat) (F : Nat → va_E) (As : List Value) (post : Option Nat → (Nat → va_E) → Prop) : Prop := ∀ (p : Program) (e : Env) (s : State) (m : MethodId) (args : Array Value) (below : List Frame) (meth : Method) (c : Code) (A : Nat → Prop) (H : Heap) (ls : Array Slot), Kx p m meth c s args cc nL own ret → Mx g N ad A s → Hx g N ad F A s H [] → lv_has ls nL (lv_args 0 As) → W p l e (rmR fm lo) s m args below meth c H [] 0 0 (MQ below (va_Qq post (Bw g N ad) A) args s 0 0 A) (F0 m 0 ls [])
theorem CtQ_of {post : Option Nat → (Nat → va_E) → Prop} (hy : plainName y.cls = true) (hlen : (lg_sl As).length ≤ nL) (body : GwQ l cc nL y.cls ret fm lo g N ad F As post) : CtQ l y cc nL ret fm lo g N ad F As post := fun sz => met_body (Qc := fun A => va_Qq post (Bw g N ad) A) hy hlen body sz
end CT
/-! what the tables say of fields and of calls, packed -/
def FLink (own : String) (index : Nat) (ref name desc : String) : Prop := Cond.fieldLink own index ref name desc ∈ lw_g ∨ ∃ host : String, Cond.fieldLinkNest own index ref name desc host ∈ lw_n
def Fld (own : String) (index ci k : Nat) : Prop := ∃ (C : String) (T : u_T) (n : Nat) (ref : String), vwCl[ci]? = some (C, T, n) ∧ (∀ w ∈ u_ws C T n, w ∈ lw_g) ∧ k < n ∧ FLink own index ref (T k).2.1 (T k).2.2.1 ∧ (T k).1 = ref
def FldP (own : String) (index ci k : Nat) (ty : FieldType) : Prop := ∃ (C : String) (T : u_T) (n : Nat) (ref : String) (ty0 : Nat → FieldType), vwCl[ci]? = some (C, T, n) ∧ (∀ w ∈ u_ws C T n, w ∈ lw_g) ∧ (∀ k, k < n → parseFieldDescriptor (T k).2.2.1 = some (ty0 k)) ∧ (∀ a, a < n → ∀ b, b < n → a ≠ b → (T a).2.1 ≠ (T b).2.1) ∧ k < n ∧ FLink own index ref (T k).2.1 (T k).2.2.1 ∧ (T k).1 = ref ∧ (T k).2.2.2 = false ∧ parseFieldDescriptor (T k).2.2.1 = some ty
theorem law_goodIn {ws : List Cond} (h : ∀ w ∈ ws, w ∈ lw_g) : GoodIn lw_g ws := fun w hw => ⟨h w hw, good_of_word (List.mem_filter.mp (h w hw)).2⟩
def LkV (own : String) (index : Nat) (y : MethodName) (cc : ByteArray) (nL : Nat) (ret : Option FieldType) (n : Nat) : Prop := GoodIn lw_g (wsV own index y.cls y (WS y cc nL ret)) ∧ y.cls ≠ "java/lang/invoke/MethodHandle" ∧ y.cls ≠ "java/lang/invoke/VarHandle" ∧ (parseMethodDescriptor y.desc).map (fun d => d.parameters.length) = some n
def LkS (own : String) (index : Nat) (y : MethodName) (cc : ByteArray) (nL : Nat) (ret : Option FieldType) (n : Nat) : Prop := GoodIn lw_g (va_wsS own index y (WS y cc nL ret)) ∧ y.cls ≠ "java/lang/invoke/MethodHandle" ∧ y.cls ≠ "java/lang/invoke/VarHandle" ∧ (parseMethodDescriptor y.desc).map (fun d => d.parameters.length) = some n
theorem LkV_of {own : String} {index : Nat} {y : MethodName} {cc : ByteArray} {nL : Nat} {ret : Option FieldType} {n : Nat} (h1 : Cond.methodLink own index y ∈ lw_g) (h2 : Cond.instanceMethod y ∈ lw_g) (h3 : Cond.selects y.cls y y ∈ lw_g) (h4 : Cond.initialized y.cls ∈ lw_g) (h5 : Cond.code y cc nL ret ∈ lw_g) (h6 : y.cls ≠ "java/lang/invoke/MethodHandle" ∧ y.cls ≠ "java/lang/invoke/VarHandle" ∧ (parseMethodDescriptor y.desc).map (fun d => d.parameters.length) = some n) : LkV own index y cc nL ret n :=
  ⟨law_goodIn (List.forall_mem_cons.mpr ⟨h1, List.forall_mem_cons.mpr ⟨h2, List.forall_mem_cons.mpr ⟨h3, List.forall_mem_cons.mpr ⟨h4, List.forall_mem_cons.mpr ⟨h5, fun _ h => h⟩⟩⟩⟩⟩), h6⟩
theorem LkS_of {own : String} {index : Nat} {y : MethodName} {cc : ByteArray} {nL : Nat} {ret : Option FieldType} {n : Nat} (h1 : Cond.methodLink own index y ∈ lw_g) (h2 : Cond.static y ∈ lw_g) (h4 : Cond.initialized y.cls ∈ lw_g) (h5 : Cond.code y cc nL ret ∈ lw_g) (h6 : y.cls ≠ "java/lang/invoke/MethodHandle" ∧ y.cls ≠ "java/lang/invoke/VarHandle" ∧ (parseMethodDescriptor y.desc).map (fun d => d.parameters.length) = some n) : LkS own index y cc nL ret n :=
  ⟨law_goodIn (List.forall_mem_cons.mpr ⟨h1, List.forall_mem_cons.mpr ⟨h2, List.forall_mem_cons.mpr ⟨h4, List.forall_mem_cons.mpr ⟨h5, fun _ h => h⟩⟩⟩⟩), h6⟩
/-! int, float, char arrays by what they hold within their length -/
def arI (g : gT) (F : Nat → va_E) (i n : Nat) (a : Nat → Int32) : Prop := ∃ f : Nat → Int32, F i = .inl (g.2.1, n, .inl f) ∧ ∀ k, k < n → f k = a k
def arC (g : gT) (F : Nat → va_E) (i n : Nat) (a : Nat → Int32) : Prop := ∃ f : Nat → Int32, F i = .inl (g.2.2.2.1, n, .inl f) ∧ ∀ k, k < n → f k = a k
def arF (g : gT) (F : Nat → va_E) (i n : Nat) (a : Nat → UInt32) : Prop := ∃ f : Nat → UInt32, F i = .inl (g.2.2.1, n, .inr (.inr (.inl f))) ∧ ∀ k, k < n → f k = a k
theorem arI.fr {g : gT} {F F' : Nat → va_E} {i n : Nat} {a : Nat → Int32} (h : arI g F i n a) (e : F' i = F i) : arI g F' i n a := by obtain ⟨f, h1, h2⟩ := h; exact ⟨f, e.trans h1, h2⟩
theorem arC.fr {g : gT} {F F' : Nat → va_E} {i n : Nat} {a : Nat → Int32} (h : arC g F i n a) (e : F' i = F i) : arC g F' i n a := by obtain ⟨f, h1, h2⟩ := h; exact ⟨f, e.trans h1, h2⟩
theorem arF.fr {g : gT} {F F' : Nat → va_E} {i n : Nat} {a : Nat → UInt32} (h : arF g F i n a) (e : F' i = F i) : arF g F' i n a := by obtain ⟨f, h1, h2⟩ := h; exact ⟨f, e.trans h1, h2⟩
theorem arI.eq {g : gT} {F : Nat → va_E} {i n : Nat} {a b : Nat → Int32} (h : arI g F i n a) (e : ∀ k, k < n → a k = b k) : arI g F i n b := by obtain ⟨f, h1, h2⟩ := h; exact ⟨f, h1, fun k hk => (h2 k hk).trans (e k hk)⟩
theorem arC.eq {g : gT} {F : Nat → va_E} {i n : Nat} {a b : Nat → Int32} (h : arC g F i n a) (e : ∀ k, k < n → a k = b k) : arC g F i n b := by obtain ⟨f, h1, h2⟩ := h; exact ⟨f, h1, fun k hk => (h2 k hk).trans (e k hk)⟩
theorem arF.eq {g : gT} {F : Nat → va_E} {i n : Nat} {a b : Nat → UInt32} (h : arF g F i n a) (e : ∀ k, k < n → a k = b k) : arF g F i n b := by obtain ⟨f, h1, h2⟩ := h; exact ⟨f, h1, fun k hk => (h2 k hk).trans (e k hk)⟩
section ROWS
variable {p : Program} {l : Launch} {e : Env} {R : Room} {s : State} {m : MethodId} {args : Array Value} {below : List Frame} {meth : Method} {c : Code} {H : Heap} {locs : List Loc} {cells slots : Nat} {Q : State → Prop}
variable {cc : ByteArray} {nL : Nat} {own : String} {ret : Option FieldType} {g : gT} {N : Nat} {ad : Nat → Nat} {F : Nat → va_E} {A : Nat → Prop} {pc : Nat} {ls : Array Slot} {rest : List Value}
theorem w_get (X : Kx p m meth c s args cc nL own ret) (M : Mx g N ad A s) (h : Hx g N ad F A s H locs) (i : Nat) {ci : Nat} {fs : List Value} (hF : F i = .inr (ci, fs)) (hi : i < N) {index k : Nat} (fl : Fld own index ci k) {v : Value} (hv : fs[k]? = some v) (hdg : decode cc pc = .ok (.getfield index, 3)) (kk : W p l e R s m args below meth c H locs cells slots Q (F0 m (pc + 3) ls (v :: rest))) : W p l e R s m args below meth c H locs cells slots Q (F0 m pc ls (.ref (ad i) :: rest)) := by
  obtain ⟨C, T, n, ref, h1, h2, h3, h4, h5⟩ := fl
  subst h5
  rcases h4 with h4 | ⟨host, h4⟩
  · exact va_get (D := g.1) (ci := ci) X.1.1 X.1.2.1 X.1.2.2.2.2 h2 X.1.2.2.2.1 M.1 h.1 i (wl_at hi hF) h1 k h3 (X.1.2.2.2.2 _ h4) (fun x hx => hx) hv hdg kk
  · exact va_getN (D := g.1) (ci := ci) X.1.1 X.1.2.1 X.1.2.2.2.2 h2 X.1.2.2.2.1 M.1 h.1 i (wl_at hi hF) h1 k h3 (M.2.2.2.2.1.use h4) (fun x hx => hx) hv hdg kk
theorem w_put (X : Kx p m meth c s args cc nL own ret) (M : Mx g N ad A s) (h : Hx g N ad F A s H locs) (i : Nat) {ci : Nat} {fs : List Value} (hF : F i = .inr (ci, fs)) (hi : i < N) {index k : Nat} {ty : FieldType} (fl : FldP own index ci k ty) {v : Value} (hn : narrow ty v = v) (hfit : fits ty v = true) (hl : k < fs.length) (hdg : decode cc pc = .ok (.putfield index, 3))
    (kk : ∀ (F' : Nat → va_E) (H' : Heap) (locs' : List Loc), Hx g N ad F' A s H' locs' → F' i = .inr (ci, fs.set k v) → (∀ j, j ≠ i → F' j = F j) → W p l e R s m args below meth c H' locs' cells slots Q (F0 m (pc + 3) ls rest)) : W p l e R s m args below meth c H locs cells slots Q (F0 m pc ls (v :: .ref (ad i) :: rest)) := by
  obtain ⟨C, T, n, ref, ty0, h1, h2, h3, h4, h5, h6, h7, h8, h9⟩ := fl
  subst h7
  rcases h6 with h6 | ⟨host, h6⟩
  · refine va_put (D := g.1) (ci := ci) X.1.1 X.1.2.1 X.1.2.2.2.2 h2 ty0 h3 h4 X.1.2.2.2.1 M.1 h.1 (M.D F) h.2 i (wl_at hi hF) h1 k h5 (X.1.2.2.2.2 _ h6) (fun x hx => hx) h8 h9 hn hfit hl hdg (fun H1 locs1 hP hD hS => ?_)
    rw [wl_set] at hP
    exact kk _ H1 locs1 ⟨hP, hS⟩ (by simp [va_up]) (fun j hj => by simp [va_up, hj])
  · refine va_putN (D := g.1) (ci := ci) X.1.1 X.1.2.1 X.1.2.2.2.2 h2 ty0 h3 h4 X.1.2.2.2.1 M.1 h.1 (M.D F) h.2 i (wl_at hi hF) h1 k h5 (M.2.2.2.2.1.use h6) (fun x hx => hx) h8 h9 hn hfit hl hdg (fun H1 locs1 hP hD hS => ?_)
    rw [wl_set] at hP
    exact kk _ H1 locs1 ⟨hP, hS⟩ (by simp [va_up]) (fun j hj => by simp [va_up, hj])
theorem w_iald (X : Kx p m meth c s args cc nL own ret) (M : Mx g N ad A s) (h : Hx g N ad F A s H locs) (i : Nat) {n : Nat} {a : Nat → Int32} (ha : arI g F i n a) (hi : i < N) {x : Int32} (k : Nat) (hx : x = nI k) (hk : k < n) (hn : n < 2147483648) (hdg : decode cc pc = .ok (.iaload, 1)) (kk : W p l e R s m args below meth c H locs cells slots Q (F0 m (pc + 1) ls (.int (a k) :: rest))) : W p l e R s m args below meth c H locs cells slots Q (F0 m pc ls (.int x :: .ref (ad i) :: rest)) := by
  obtain ⟨f, h1, h2⟩ := ha
  subst hx
  refine va_iald X.1.1 X.1.2.1 M.1 h.1 i 0 (wl_at hi h1) rfl (vp_in_nI hk hn) hdg ?_
  rw [nI_clamp (by omega), h2 k hk]
  exact kk
theorem w_cald (X : Kx p m meth c s args cc nL own ret) (M : Mx g N ad A s) (h : Hx g N ad F A s H locs) (i : Nat) {n : Nat} {a : Nat → Int32} (ha : arC g F i n a) (hi : i < N) {x : Int32} (k : Nat) (hx : x = nI k) (hk : k < n) (hn : n < 2147483648) (hdg : decode cc pc = .ok (.caload, 1)) (kk : W p l e R s m args below meth c H locs cells slots Q (F0 m (pc + 1) ls (.int (a k) :: rest))) : W p l e R s m args below meth c H locs cells slots Q (F0 m pc ls (.int x :: .ref (ad i) :: rest)) := by
  obtain ⟨f, h1, h2⟩ := ha
  subst hx
  refine va_cald X.1.1 X.1.2.1 M.1 h.1 i 2 (wl_at hi h1) rfl (vp_in_nI hk hn) hdg ?_
  rw [nI_clamp (by omega), h2 k hk]
  exact kk
theorem w_fald (X : Kx p m meth c s args cc nL own ret) (M : Mx g N ad A s) (h : Hx g N ad F A s H locs) (i : Nat) {n : Nat} {a : Nat → UInt32} (ha : arF g F i n a) (hi : i < N) {x : Int32} (k : Nat) (hx : x = nI k) (hk : k < n) (hn : n < 2147483648) (hdg : decode cc pc = .ok (.faload, 1)) (kk : W p l e R s m args below meth c H locs cells slots Q (F0 m (pc + 1) ls (.float (a k) :: rest))) : W p l e R s m args below meth c H locs cells slots Q (F0 m pc ls (.int x :: .ref (ad i) :: rest)) := by
  obtain ⟨f, h1, h2⟩ := ha
  subst hx
  refine va_fald X.1.1 X.1.2.1 M.1 h.1 i 1 (wl_at hi h1) rfl (vp_in_nI hk hn) hdg ?_
  rw [nI_clamp (by omega), h2 k hk]
  exact kk
theorem w_iast (X : Kx p m meth c s args cc nL own ret) (M : Mx g N ad A s) (h : Hx g N ad F A s H locs) (i : Nat) {n : Nat} {a : Nat → Int32} (ha : arI g F i n a) (hi : i < N) {x v : Int32} (k : Nat) (hx : x = nI k) (hk : k < n) (hn : n < 2147483648) (hdg : decode cc pc = .ok (.iastore, 1))
    (kk : ∀ (F' : Nat → va_E) (H' : Heap) (locs' : List Loc), Hx g N ad F' A s H' locs' → arI g F' i n (upd a k v) → (∀ j, j ≠ i → F' j = F j) → W p l e R s m args below meth c H' locs' cells slots Q (F0 m (pc + 1) ls rest)) : W p l e R s m args below meth c H locs cells slots Q (F0 m pc ls (.int v :: .int x :: .ref (ad i) :: rest)) := by
  obtain ⟨f, h1, h2⟩ := ha
  subst hx
  refine va_iast X.1.1 X.1.2.1 M.1 h.1 (M.D F) h.2 i 0 (wl_at hi h1) rfl (vp_in_nI hk hn) hdg (fun H1 locs1 hP hD hS => ?_)
  rw [wl_set] at hP
  rw [nI_clamp (by omega)] at hP
  exact kk _ H1 locs1 ⟨hP, hS⟩ ⟨upd f k v, by simp [va_up], fun j hj => by simp only [upd]; split <;> first | rfl | exact h2 j hj⟩ (fun j hj => by simp [va_up, hj])
theorem w_cast (X : Kx p m meth c s args cc nL own ret) (M : Mx g N ad A s) (h : Hx g N ad F A s H locs) (i : Nat) {n : Nat} {a : Nat → Int32} (ha : arC g F i n a) (hi : i < N) {x v : Int32} (k : Nat) (hx : x = nI k) (hk : k < n) (hn : n < 2147483648) (hv : vp_nar .char v = v) (hdg : decode cc pc = .ok (.castore, 1))
    (kk : ∀ (F' : Nat → va_E) (H' : Heap) (locs' : List Loc), Hx g N ad F' A s H' locs' → arC g F' i n (upd a k v) → (∀ j, j ≠ i → F' j = F j) → W p l e R s m args below meth c H' locs' cells slots Q (F0 m (pc + 1) ls rest)) : W p l e R s m args below meth c H locs cells slots Q (F0 m pc ls (.int v :: .int x :: .ref (ad i) :: rest)) := by
  obtain ⟨f, h1, h2⟩ := ha
  subst hx
  refine va_cast X.1.1 X.1.2.1 M.1 h.1 (M.D F) h.2 i 2 (wl_at hi h1) rfl (vp_in_nI hk hn) hdg (fun H1 locs1 hP hD hS => ?_)
  rw [wl_set] at hP
  rw [nI_clamp (by omega), hv] at hP
  exact kk _ H1 locs1 ⟨hP, hS⟩ ⟨upd f k v, by simp [va_up], fun j hj => by simp only [upd]; split <;> first | rfl | exact h2 j hj⟩ (fun j hj => by simp [va_up, hj])
theorem w_fast (X : Kx p m meth c s args cc nL own ret) (M : Mx g N ad A s) (h : Hx g N ad F A s H locs) (i : Nat) {n : Nat} {a : Nat → UInt32} (ha : arF g F i n a) (hi : i < N) {x : Int32} {v : UInt32} (k : Nat) (hx : x = nI k) (hk : k < n) (hn : n < 2147483648) (hdg : decode cc pc = .ok (.fastore, 1))
    (kk : ∀ (F' : Nat → va_E) (H' : Heap) (locs' : List Loc), Hx g N ad F' A s H' locs' → arF g F' i n (vf_upd a k v) → (∀ j, j ≠ i → F' j = F j) → W p l e R s m args below meth c H' locs' cells slots Q (F0 m (pc + 1) ls rest)) : W p l e R s m args below meth c H locs cells slots Q (F0 m pc ls (.float v :: .int x :: .ref (ad i) :: rest)) := by
  obtain ⟨f, h1, h2⟩ := ha
  subst hx
  refine va_fast X.1.1 X.1.2.1 M.1 h.1 (M.D F) h.2 i 1 (wl_at hi h1) rfl (vp_in_nI hk hn) hdg (fun H1 locs1 hP hD hS => ?_)
  rw [wl_set] at hP
  rw [nI_clamp (by omega)] at hP
  exact kk _ H1 locs1 ⟨hP, hS⟩ ⟨vf_upd f k v, by simp [va_up], fun j hj => by simp only [vf_upd]; split <;> first | rfl | exact h2 j hj⟩ (fun j hj => by simp [va_up, hj])
theorem w_aleni (X : Kx p m meth c s args cc nL own ret) (M : Mx g N ad A s) (h : Hx g N ad F A s H locs) (i : Nat) {n : Nat} {a : Nat → Int32} (ha : arI g F i n a) (hi : i < N) (hdg : decode cc pc = .ok (.arraylength, 1)) (kk : W p l e R s m args below meth c H locs cells slots Q (F0 m (pc + 1) ls (.int (nI n) :: rest))) : W p l e R s m args below meth c H locs cells slots Q (F0 m pc ls (.ref (ad i) :: rest)) := by
  obtain ⟨f, h1, h2⟩ := ha
  exact va_alen (t0 := 0) (v := nI n) X.1.1 X.1.2.1 M.1 h.1 i (wl_at hi h1) rfl rfl hdg kk
theorem w_alenc (X : Kx p m meth c s args cc nL own ret) (M : Mx g N ad A s) (h : Hx g N ad F A s H locs) (i : Nat) {n : Nat} {a : Nat → Int32} (ha : arC g F i n a) (hi : i < N) (hdg : decode cc pc = .ok (.arraylength, 1)) (kk : W p l e R s m args below meth c H locs cells slots Q (F0 m (pc + 1) ls (.int (nI n) :: rest))) : W p l e R s m args below meth c H locs cells slots Q (F0 m pc ls (.ref (ad i) :: rest)) := by
  obtain ⟨f, h1, h2⟩ := ha
  exact va_alen (t0 := 2) (v := nI n) X.1.1 X.1.2.1 M.1 h.1 i (wl_at hi h1) rfl rfl hdg kk
theorem w_alenf (X : Kx p m meth c s args cc nL own ret) (M : Mx g N ad A s) (h : Hx g N ad F A s H locs) (i : Nat) {n : Nat} {a : Nat → UInt32} (ha : arF g F i n a) (hi : i < N) (hdg : decode cc pc = .ok (.arraylength, 1)) (kk : W p l e R s m args below meth c H locs cells slots Q (F0 m (pc + 1) ls (.int (nI n) :: rest))) : W p l e R s m args below meth c H locs cells slots Q (F0 m pc ls (.ref (ad i) :: rest)) := by
  obtain ⟨f, h1, h2⟩ := ha
  exact va_alen (t0 := 1) (v := nI n) X.1.1 X.1.2.1 M.1 h.1 i (wl_at hi h1) rfl rfl hdg kk
/-- ends -/
theorem w_iret {post : Int32 → (Nat → va_E) → Prop} (X : Kx p m meth c s args cc nL own (some .int)) (h : Hx g N ad F A s H locs) {v : Int32} (hp : post v F) (hdg : decode cc pc = .ok (.ireturn, 1)) : W p l e R s m args below meth c H locs 0 0 (MQ below (va_Qi post (Bw g N ad) A) args s 0 0 A) (F0 m pc ls [.int v]) :=
  W.iret X.1.1 X.1.2.1 X.2.1 (fun t ht hW => ⟨⟨v, F, rfl, hp, by rw [Bw, ht]; exact h.1⟩, h.2.F ht⟩) h.2.2.2 hdg (hlocks := X.2.2)
theorem w_zret {post : Int32 → (Nat → va_E) → Prop} (X : Kx p m meth c s args cc nL own (some .boolean)) (h : Hx g N ad F A s H locs) {v : Int32} (hv : v = 0 ∨ v = 1) (hp : post v F) (hdg : decode cc pc = .ok (.ireturn, 1)) : W p l e R s m args below meth c H locs 0 0 (MQ below (va_Qi post (Bw g N ad) A) args s 0 0 A) (F0 m pc ls [.int v]) :=
  W.zret X.1.1 X.1.2.1 X.2.1 (by rcases hv with rfl | rfl <;> rfl) (fun t ht hW => ⟨⟨v, F, rfl, hp, by rw [Bw, ht]; exact h.1⟩, h.2.F ht⟩) h.2.2.2 hdg (hlocks := X.2.2)
theorem w_vret {post : (Nat → va_E) → Prop} (X : Kx p m meth c s args cc nL own none) (h : Hx g N ad F A s H locs) (hp : post F) (hdg : decode cc pc = .ok (.return_, 1)) : W p l e R s m args below meth c H locs 0 0 (MQ below (va_Qv post (Bw g N ad) A) args s 0 0 A) (F0 m pc ls []) :=
  W.vret X.1.1 X.1.2.1 X.2.1 (fun t ht hW => ⟨⟨F, rfl, hp, by rw [Bw, ht]; exact h.1⟩, h.2.F ht⟩) h.2.2.2 hdg (hlocks := X.2.2)
theorem w_fret {post : UInt32 → (Nat → va_E) → Prop} (X : Kx p m meth c s args cc nL own (some .float)) (h : Hx g N ad F A s H locs) {v : UInt32} (hp : post v F) (hdg : decode cc pc = .ok (.freturn, 1)) : W p l e R s m args below meth c H locs 0 0 (MQ below (va_Qf post (Bw g N ad) A) args s 0 0 A) (F0 m pc ls [.float v]) :=
  W.fret X.1.1 X.1.2.1 X.2.1 (fun t ht hW => ⟨⟨v, F, rfl, hp, by rw [Bw, ht]; exact h.1⟩, h.2.F ht⟩) h.2.2.2 hdg X.2.2
theorem w_dret {post : UInt64 → (Nat → va_E) → Prop} (X : Kx p m meth c s args cc nL own (some .double)) (h : Hx g N ad F A s H locs) {v : UInt64} (hp : post v F) (hdg : decode cc pc = .ok (.dreturn, 1)) : W p l e R s m args below meth c H locs 0 0 (MQ below (va_Qd post (Bw g N ad) A) args s 0 0 A) (F0 m pc ls [.double v]) :=
  W.dret X.1.1 X.1.2.1 X.2.1 (fun t ht hW => ⟨⟨v, F, rfl, hp, by rw [Bw, ht]; exact h.1⟩, h.2.F ht⟩) h.2.2.2 hdg X.2.2
/-- calls: the contract's world is the caller's whole world -/
theorem w_free (M : Mx g N ad A s) (h : Hx g N ad F A s H locs) : ∀ q, fr N ad H.size q → A q := by
  intro q hq
  rcases hq with ⟨i, hi, rfl⟩ | hq
  · exact M.2.2.1 i hi
  · exact M.2.2.2.1 q (Nat.le_trans h.2.1 hq)
theorem w_pre (M : Mx g N ad A s) (h : Hx g N ad F A s H locs) {As : List Value} : ∀ U : State, U.heap = H → s.WarmedH U.vm → va_Pc As (Pw g N ad F H.size) As.toArray U := fun U hU hW => ⟨rfl, by rw [hU], by rw [hU]; exact h.1, va_K.moved hW.alike M.1, M.2.1, M.2.2.2.2.1.warm hW, M.2.2.2.2.2.go hW (fun a h1 h2 => by rw [hU]; exact h.2.2.1 a h1 h2) (w_free M h)⟩
theorem w_cwV (X : Kx p m meth c s args cc nL own ret) {y : MethodName} {ccY : ByteArray} {nY : Nat} {retY : Option FieldType} {fm lo index n : Nat} (lk : LkV own index y ccY nY retY n) (hR : fm + 1 ≤ R.frames ∧ 8 + (nY + 11) + lo ≤ R.locals) : CallW R s args own y.cls index y ccY nY retY (WS y ccY nY retY) (rmR fm lo) 0 0 n := cwV n X.1.2.2.2.2 lk.1 rfl rfl rfl ⟨rfl, lk.2⟩ hR
theorem w_cwS (X : Kx p m meth c s args cc nL own ret) {y : MethodName} {ccY : ByteArray} {nY : Nat} {retY : Option FieldType} {fm lo index n : Nat} (lk : LkS own index y ccY nY retY n) (hR : fm + 1 ≤ R.frames ∧ 8 + (nY + 11) + lo ≤ R.locals) : CallB R s args own index y ccY nY retY (WS y ccY nY retY) (rmR fm lo) 0 0 n ∧ (Cond.static y).before args s = true := va_cwS n X.1.2.2.2.2 lk.1 rfl rfl rfl lk.2 hR
theorem w_preV (M : Mx g N ad A s) (h : Hx g N ad F A s H locs) {i ci : Nat} {fs As : List Value} {C : String} {T : u_T} {n : Nat} (hF : F i = .inr (ci, fs)) (hi : i < N) (hc : vwCl[ci]? = some (C, T, n)) : PreV s H C (ad i) (va_Pc (.ref (ad i) :: As) (Pw g N ad F H.size)) As := ⟨blind_w, va_recv M.1 h.1 hc (wl_at hi hF), w_pre M h⟩
theorem w_preS (M : Mx g N ad A s) (h : Hx g N ad F A s H locs) {As : List Value} : PreS s H (va_Pc As (Pw g N ad F H.size)) As := ⟨blind_w, w_pre M h⟩
end ROWS
end
section
theorem q1_178 : Cond.laysFinal "JokePump$History" "JokePump$History" "slots" "[LJokePump$State;" ∈ lw_g := lw_gm (tin1 (List.mem_of_getElem? (i := 178) (by decide +kernel))) (by decide +kernel)
theorem q1_180 : Cond.lays "JokePump$History" "JokePump$History" "next" "I" ∈ lw_g := lw_gm (tin1 (List.mem_of_getElem? (i := 180) (by decide +kernel))) (by decide +kernel)
theorem q1_182 : Cond.lays "JokePump$History" "JokePump$History" "count" "I" ∈ lw_g := lw_gm (tin1 (List.mem_of_getElem? (i := 182) (by decide +kernel))) (by decide +kernel)
theorem ly_X0 : ∀ w ∈ u_ws RX0 TX0 3, w ∈ lw_g := by
  intro w hw
  obtain ⟨k, hk, rfl⟩ := List.mem_map.mp hw
  have hk := List.mem_range.mp hk
  rcases (show k = 0 ∨ k = 1 ∨ k = 2 by omega) with rfl | rfl | rfl
  · exact q1_178
  · exact q1_180
  · exact q1_182
theorem q1_64 : Cond.lays "JokePump$Jokes" "JokePump$Jokes" "count" "I" ∈ lw_g := lw_gm (tin1 (List.mem_of_getElem? (i := 64) (by decide +kernel))) (by decide +kernel)
theorem q1_66 : Cond.laysFinal "JokePump$Jokes" "JokePump$Jokes" "wells" "LJokePump$Row;" ∈ lw_g := lw_gm (tin1 (List.mem_of_getElem? (i := 66) (by decide +kernel))) (by decide +kernel)
theorem q1_68 : Cond.laysFinal "JokePump$Jokes" "JokePump$Jokes" "depths" "LJokePump$Row;" ∈ lw_g := lw_gm (tin1 (List.mem_of_getElem? (i := 68) (by decide +kernel))) (by decide +kernel)
theorem q1_70 : Cond.laysFinal "JokePump$Jokes" "JokePump$Jokes" "signs" "LJokePump$Row;" ∈ lw_g := lw_gm (tin1 (List.mem_of_getElem? (i := 70) (by decide +kernel))) (by decide +kernel)
theorem q1_72 : Cond.laysFinal "JokePump$Jokes" "JokePump$Jokes" "wits" "LJokePump$Row;" ∈ lw_g := lw_gm (tin1 (List.mem_of_getElem? (i := 72) (by decide +kernel))) (by decide +kernel)
theorem q1_74 : Cond.laysFinal "JokePump$Jokes" "JokePump$Jokes" "primed" "LJokePump$Row;" ∈ lw_g := lw_gm (tin1 (List.mem_of_getElem? (i := 74) (by decide +kernel))) (by decide +kernel)
theorem ly_X1 : ∀ w ∈ u_ws RX1 TX1 6, w ∈ lw_g := by
  intro w hw
  obtain ⟨k, hk, rfl⟩ := List.mem_map.mp hw
  have hk := List.mem_range.mp hk
  rcases (show k = 0 ∨ k = 1 ∨ k = 2 ∨ k = 3 ∨ k = 4 ∨ k = 5 by omega) with rfl | rfl | rfl | rfl | rfl | rfl
  · exact q1_64
  · exact q1_66
  · exact q1_68
  · exact q1_70
  · exact q1_72
  · exact q1_74
theorem q1_216 : Cond.laysFinal "JokePump$Reader" "JokePump$Reader" "kinds" "LJokePump$Row;" ∈ lw_g := lw_gm (tin1 (List.mem_of_getElem? (i := 216) (by decide +kernel))) (by decide +kernel)
theorem q1_218 : Cond.laysFinal "JokePump$Reader" "JokePump$Reader" "numbers" "LJokePump$Row;" ∈ lw_g := lw_gm (tin1 (List.mem_of_getElem? (i := 218) (by decide +kernel))) (by decide +kernel)
theorem q1_220 : Cond.lays "JokePump$Reader" "JokePump$Reader" "count" "I" ∈ lw_g := lw_gm (tin1 (List.mem_of_getElem? (i := 220) (by decide +kernel))) (by decide +kernel)
theorem q1_222 : Cond.lays "JokePump$Reader" "JokePump$Reader" "end" "I" ∈ lw_g := lw_gm (tin1 (List.mem_of_getElem? (i := 222) (by decide +kernel))) (by decide +kernel)
theorem ly_X2 : ∀ w ∈ u_ws RX2 TX2 4, w ∈ lw_g := by
  intro w hw
  obtain ⟨k, hk, rfl⟩ := List.mem_map.mp hw
  have hk := List.mem_range.mp hk
  rcases (show k = 0 ∨ k = 1 ∨ k = 2 ∨ k = 3 by omega) with rfl | rfl | rfl | rfl
  · exact q1_216
  · exact q1_218
  · exact q1_220
  · exact q1_222
theorem q1_44 : Cond.laysFinal "JokePump$Row" "JokePump$Row" "cells" "[I" ∈ lw_g := lw_gm (tin1 (List.mem_of_getElem? (i := 44) (by decide +kernel))) (by decide +kernel)
theorem ly_X3 : ∀ w ∈ u_ws RX3 TX3 1, w ∈ lw_g := by
  intro w hw
  obtain ⟨k, hk, rfl⟩ := List.mem_map.mp hw
  have hk := List.mem_range.mp hk
  rcases (show k = 0 by omega) with rfl
  · exact q1_44
theorem q1_140 : Cond.laysFinal "JokePump$State" "JokePump$State" "jokes" "LJokePump$Jokes;" ∈ lw_g := lw_gm (tin1 (List.mem_of_getElem? (i := 140) (by decide +kernel))) (by decide +kernel)
theorem q1_142 : Cond.laysFinal "JokePump$State" "JokePump$State" "told" "LJokePump$Told;" ∈ lw_g := lw_gm (tin1 (List.mem_of_getElem? (i := 142) (by decide +kernel))) (by decide +kernel)
theorem q1_144 : Cond.laysFinal "JokePump$State" "JokePump$State" "buckets" "LJokePump$Row;" ∈ lw_g := lw_gm (tin1 (List.mem_of_getElem? (i := 144) (by decide +kernel))) (by decide +kernel)
theorem q1_146 : Cond.lays "JokePump$State" "JokePump$State" "well" "I" ∈ lw_g := lw_gm (tin1 (List.mem_of_getElem? (i := 146) (by decide +kernel))) (by decide +kernel)
theorem q1_148 : Cond.lays "JokePump$State" "JokePump$State" "length" "I" ∈ lw_g := lw_gm (tin1 (List.mem_of_getElem? (i := 148) (by decide +kernel))) (by decide +kernel)
theorem q1_150 : Cond.lays "JokePump$State" "JokePump$State" "reach" "I" ∈ lw_g := lw_gm (tin1 (List.mem_of_getElem? (i := 150) (by decide +kernel))) (by decide +kernel)
theorem q1_152 : Cond.lays "JokePump$State" "JokePump$State" "groans" "I" ∈ lw_g := lw_gm (tin1 (List.mem_of_getElem? (i := 152) (by decide +kernel))) (by decide +kernel)
theorem q1_154 : Cond.lays "JokePump$State" "JokePump$State" "drops" "I" ∈ lw_g := lw_gm (tin1 (List.mem_of_getElem? (i := 154) (by decide +kernel))) (by decide +kernel)
theorem q1_156 : Cond.lays "JokePump$State" "JokePump$State" "came" "I" ∈ lw_g := lw_gm (tin1 (List.mem_of_getElem? (i := 156) (by decide +kernel))) (by decide +kernel)
theorem q1_158 : Cond.lays "JokePump$State" "JokePump$State" "went" "I" ∈ lw_g := lw_gm (tin1 (List.mem_of_getElem? (i := 158) (by decide +kernel))) (by decide +kernel)
theorem q1_160 : Cond.lays "JokePump$State" "JokePump$State" "strokesMade" "I" ∈ lw_g := lw_gm (tin1 (List.mem_of_getElem? (i := 160) (by decide +kernel))) (by decide +kernel)
theorem q1_162 : Cond.lays "JokePump$State" "JokePump$State" "drained" "I" ∈ lw_g := lw_gm (tin1 (List.mem_of_getElem? (i := 162) (by decide +kernel))) (by decide +kernel)
theorem ly_X4 : ∀ w ∈ u_ws RX4 TX4 12, w ∈ lw_g := by
  intro w hw
  obtain ⟨k, hk, rfl⟩ := List.mem_map.mp hw
  have hk := List.mem_range.mp hk
  rcases (show k = 0 ∨ k = 1 ∨ k = 2 ∨ k = 3 ∨ k = 4 ∨ k = 5 ∨ k = 6 ∨ k = 7 ∨ k = 8 ∨ k = 9 ∨ k = 10 ∨ k = 11 by omega) with rfl | rfl | rfl | rfl | rfl | rfl | rfl | rfl | rfl | rfl | rfl | rfl
  · exact q1_140
  · exact q1_142
  · exact q1_144
  · exact q1_146
  · exact q1_148
  · exact q1_150
  · exact q1_152
  · exact q1_154
  · exact q1_156
  · exact q1_158
  · exact q1_160
  · exact q1_162
theorem q1_195 : Cond.laysFinal "JokePump$Strip" "JokePump$Strip" "signs" "[C" ∈ lw_g := lw_gm (tin1 (List.mem_of_getElem? (i := 195) (by decide +kernel))) (by decide +kernel)
theorem q1_197 : Cond.lays "JokePump$Strip" "JokePump$Strip" "length" "I" ∈ lw_g := lw_gm (tin1 (List.mem_of_getElem? (i := 197) (by decide +kernel))) (by decide +kernel)
theorem ly_X5 : ∀ w ∈ u_ws RX5 TX5 2, w ∈ lw_g := by
  intro w hw
  obtain ⟨k, hk, rfl⟩ := List.mem_map.mp hw
  have hk := List.mem_range.mp hk
  rcases (show k = 0 ∨ k = 1 by omega) with rfl | rfl
  · exact q1_195
  · exact q1_197
theorem q1_96 : Cond.lays "JokePump$Told" "JokePump$Told" "count" "I" ∈ lw_g := lw_gm (tin1 (List.mem_of_getElem? (i := 96) (by decide +kernel))) (by decide +kernel)
theorem q1_98 : Cond.lays "JokePump$Told" "JokePump$Told" "sum" "F" ∈ lw_g := lw_gm (tin1 (List.mem_of_getElem? (i := 98) (by decide +kernel))) (by decide +kernel)
theorem q1_100 : Cond.laysFinal "JokePump$Told" "JokePump$Told" "signs" "LJokePump$Row;" ∈ lw_g := lw_gm (tin1 (List.mem_of_getElem? (i := 100) (by decide +kernel))) (by decide +kernel)
theorem q1_102 : Cond.laysFinal "JokePump$Told" "JokePump$Told" "wells" "LJokePump$Row;" ∈ lw_g := lw_gm (tin1 (List.mem_of_getElem? (i := 102) (by decide +kernel))) (by decide +kernel)
theorem q1_104 : Cond.laysFinal "JokePump$Told" "JokePump$Told" "laughs" "[F" ∈ lw_g := lw_gm (tin1 (List.mem_of_getElem? (i := 104) (by decide +kernel))) (by decide +kernel)
theorem q1_106 : Cond.laysFinal "JokePump$Told" "JokePump$Told" "known" "LJokePump$Row;" ∈ lw_g := lw_gm (tin1 (List.mem_of_getElem? (i := 106) (by decide +kernel))) (by decide +kernel)
theorem ly_X6 : ∀ w ∈ u_ws RX6 TX6 6, w ∈ lw_g := by
  intro w hw
  obtain ⟨k, hk, rfl⟩ := List.mem_map.mp hw
  have hk := List.mem_range.mp hk
  rcases (show k = 0 ∨ k = 1 ∨ k = 2 ∨ k = 3 ∨ k = 4 ∨ k = 5 by omega) with rfl | rfl | rfl | rfl | rfl | rfl
  · exact q1_96
  · exact q1_98
  · exact q1_100
  · exact q1_102
  · exact q1_104
  · exact q1_106
theorem q1_237 : Cond.laysFinal "JokePump" "JokePump" "now" "LJokePump$State;" ∈ lw_g := lw_gm (tin1 (List.mem_of_getElem? (i := 237) (by decide +kernel))) (by decide +kernel)
theorem q1_239 : Cond.laysFinal "JokePump" "JokePump" "saved" "LJokePump$State;" ∈ lw_g := lw_gm (tin1 (List.mem_of_getElem? (i := 239) (by decide +kernel))) (by decide +kernel)
theorem q2_1 : Cond.lays "JokePump" "JokePump" "isSaved" "Z" ∈ lw_g := lw_gm (tin2 (List.mem_of_getElem? (i := 1) (by decide +kernel))) (by decide +kernel)
theorem q2_3 : Cond.laysFinal "JokePump" "JokePump" "history" "LJokePump$History;" ∈ lw_g := lw_gm (tin2 (List.mem_of_getElem? (i := 3) (by decide +kernel))) (by decide +kernel)
theorem q2_5 : Cond.laysFinal "JokePump" "JokePump" "input" "LJokePump$Strip;" ∈ lw_g := lw_gm (tin2 (List.mem_of_getElem? (i := 5) (by decide +kernel))) (by decide +kernel)
theorem q2_7 : Cond.laysFinal "JokePump" "JokePump" "line" "LJokePump$Strip;" ∈ lw_g := lw_gm (tin2 (List.mem_of_getElem? (i := 7) (by decide +kernel))) (by decide +kernel)
theorem q2_9 : Cond.laysFinal "JokePump" "JokePump" "reader" "LJokePump$Reader;" ∈ lw_g := lw_gm (tin2 (List.mem_of_getElem? (i := 9) (by decide +kernel))) (by decide +kernel)
theorem q2_11 : Cond.lays "JokePump" "JokePump" "faultPosition" "I" ∈ lw_g := lw_gm (tin2 (List.mem_of_getElem? (i := 11) (by decide +kernel))) (by decide +kernel)
theorem q2_13 : Cond.lays "JokePump" "JokePump" "reasonKind" "I" ∈ lw_g := lw_gm (tin2 (List.mem_of_getElem? (i := 13) (by decide +kernel))) (by decide +kernel)
theorem q2_15 : Cond.lays "JokePump" "JokePump" "reasonDetail" "I" ∈ lw_g := lw_gm (tin2 (List.mem_of_getElem? (i := 15) (by decide +kernel))) (by decide +kernel)
theorem q2_17 : Cond.lays "JokePump" "JokePump" "behindKind" "I" ∈ lw_g := lw_gm (tin2 (List.mem_of_getElem? (i := 17) (by decide +kernel))) (by decide +kernel)
theorem q2_19 : Cond.lays "JokePump" "JokePump" "behindDetail" "I" ∈ lw_g := lw_gm (tin2 (List.mem_of_getElem? (i := 19) (by decide +kernel))) (by decide +kernel)
theorem ly_X7 : ∀ w ∈ u_ws RX7 TX7 12, w ∈ lw_g := by
  intro w hw
  obtain ⟨k, hk, rfl⟩ := List.mem_map.mp hw
  have hk := List.mem_range.mp hk
  rcases (show k = 0 ∨ k = 1 ∨ k = 2 ∨ k = 3 ∨ k = 4 ∨ k = 5 ∨ k = 6 ∨ k = 7 ∨ k = 8 ∨ k = 9 ∨ k = 10 ∨ k = 11 by omega) with rfl | rfl | rfl | rfl | rfl | rfl | rfl | rfl | rfl | rfl | rfl | rfl
  · exact q1_237
  · exact q1_239
  · exact q2_1
  · exact q2_3
  · exact q2_5
  · exact q2_7
  · exact q2_9
  · exact q2_11
  · exact q2_13
  · exact q2_15
  · exact q2_17
  · exact q2_19
theorem q4_98 : Cond.lays "JokePumpModel" "JokePumpModel" "why" "I" ∈ lw_g := lw_gm (tin4 (List.mem_of_getElem? (i := 98) (by decide +kernel))) (by decide +kernel)
theorem q4_100 : Cond.lays "JokePumpModel" "JokePumpModel" "detail" "I" ∈ lw_g := lw_gm (tin4 (List.mem_of_getElem? (i := 100) (by decide +kernel))) (by decide +kernel)
theorem q4_102 : Cond.lays "JokePumpModel" "JokePumpModel" "whyBehind" "I" ∈ lw_g := lw_gm (tin4 (List.mem_of_getElem? (i := 102) (by decide +kernel))) (by decide +kernel)
theorem q4_104 : Cond.lays "JokePumpModel" "JokePumpModel" "detailBehind" "I" ∈ lw_g := lw_gm (tin4 (List.mem_of_getElem? (i := 104) (by decide +kernel))) (by decide +kernel)
theorem q4_106 : Cond.lays "JokePumpModel" "JokePumpModel" "whyNow" "I" ∈ lw_g := lw_gm (tin4 (List.mem_of_getElem? (i := 106) (by decide +kernel))) (by decide +kernel)
theorem q4_108 : Cond.lays "JokePumpModel" "JokePumpModel" "detailNow" "I" ∈ lw_g := lw_gm (tin4 (List.mem_of_getElem? (i := 108) (by decide +kernel))) (by decide +kernel)
theorem q4_110 : Cond.laysFinal "JokePumpModel" "JokePumpModel" "w" "[I" ∈ lw_g := lw_gm (tin4 (List.mem_of_getElem? (i := 110) (by decide +kernel))) (by decide +kernel)
theorem q4_112 : Cond.laysFinal "JokePumpModel" "JokePumpModel" "undos" "[I" ∈ lw_g := lw_gm (tin4 (List.mem_of_getElem? (i := 112) (by decide +kernel))) (by decide +kernel)
theorem q4_114 : Cond.laysFinal "JokePumpModel" "JokePumpModel" "savedRow" "[I" ∈ lw_g := lw_gm (tin4 (List.mem_of_getElem? (i := 114) (by decide +kernel))) (by decide +kernel)
theorem q4_116 : Cond.laysFinal "JokePumpModel" "JokePumpModel" "mind" "[I" ∈ lw_g := lw_gm (tin4 (List.mem_of_getElem? (i := 116) (by decide +kernel))) (by decide +kernel)
theorem q4_118 : Cond.laysFinal "JokePumpModel" "JokePumpModel" "ahead" "[I" ∈ lw_g := lw_gm (tin4 (List.mem_of_getElem? (i := 118) (by decide +kernel))) (by decide +kernel)
theorem q4_120 : Cond.lays "JokePumpModel" "JokePumpModel" "changes" "I" ∈ lw_g := lw_gm (tin4 (List.mem_of_getElem? (i := 120) (by decide +kernel))) (by decide +kernel)
theorem q4_122 : Cond.lays "JokePumpModel" "JokePumpModel" "firstChange" "I" ∈ lw_g := lw_gm (tin4 (List.mem_of_getElem? (i := 122) (by decide +kernel))) (by decide +kernel)
theorem q4_124 : Cond.lays "JokePumpModel" "JokePumpModel" "isSaved" "Z" ∈ lw_g := lw_gm (tin4 (List.mem_of_getElem? (i := 124) (by decide +kernel))) (by decide +kernel)
theorem q4_126 : Cond.laysFinal "JokePumpModel" "JokePumpModel" "line" "[C" ∈ lw_g := lw_gm (tin4 (List.mem_of_getElem? (i := 126) (by decide +kernel))) (by decide +kernel)
theorem q4_128 : Cond.lays "JokePumpModel" "JokePumpModel" "lineLength" "I" ∈ lw_g := lw_gm (tin4 (List.mem_of_getElem? (i := 128) (by decide +kernel))) (by decide +kernel)
theorem q4_130 : Cond.laysFinal "JokePumpModel" "JokePumpModel" "input" "[C" ∈ lw_g := lw_gm (tin4 (List.mem_of_getElem? (i := 130) (by decide +kernel))) (by decide +kernel)
theorem q4_132 : Cond.lays "JokePumpModel" "JokePumpModel" "inputMany" "I" ∈ lw_g := lw_gm (tin4 (List.mem_of_getElem? (i := 132) (by decide +kernel))) (by decide +kernel)
theorem q4_134 : Cond.lays "JokePumpModel" "JokePumpModel" "inputAt" "I" ∈ lw_g := lw_gm (tin4 (List.mem_of_getElem? (i := 134) (by decide +kernel))) (by decide +kernel)
theorem q4_136 : Cond.lays "JokePumpModel" "JokePumpModel" "faultAt" "I" ∈ lw_g := lw_gm (tin4 (List.mem_of_getElem? (i := 136) (by decide +kernel))) (by decide +kernel)
theorem q4_138 : Cond.laysFinal "JokePumpModel" "JokePumpModel" "numbers" "[I" ∈ lw_g := lw_gm (tin4 (List.mem_of_getElem? (i := 138) (by decide +kernel))) (by decide +kernel)
theorem q4_140 : Cond.lays "JokePumpModel" "JokePumpModel" "sort" "I" ∈ lw_g := lw_gm (tin4 (List.mem_of_getElem? (i := 140) (by decide +kernel))) (by decide +kernel)
theorem q4_142 : Cond.lays "JokePumpModel" "JokePumpModel" "done" "I" ∈ lw_g := lw_gm (tin4 (List.mem_of_getElem? (i := 142) (by decide +kernel))) (by decide +kernel)
theorem ly_X8 : ∀ w ∈ u_ws RX8 TX8 23, w ∈ lw_g := by
  intro w hw
  obtain ⟨k, hk, rfl⟩ := List.mem_map.mp hw
  have hk := List.mem_range.mp hk
  rcases (show k = 0 ∨ k = 1 ∨ k = 2 ∨ k = 3 ∨ k = 4 ∨ k = 5 ∨ k = 6 ∨ k = 7 ∨ k = 8 ∨ k = 9 ∨ k = 10 ∨ k = 11 ∨ k = 12 ∨ k = 13 ∨ k = 14 ∨ k = 15 ∨ k = 16 ∨ k = 17 ∨ k = 18 ∨ k = 19 ∨ k = 20 ∨ k = 21 ∨ k = 22 by omega) with rfl | rfl | rfl | rfl | rfl | rfl | rfl | rfl | rfl | rfl | rfl | rfl | rfl | rfl | rfl | rfl | rfl | rfl | rfl | rfl | rfl | rfl | rfl
  · exact q4_98
  · exact q4_100
  · exact q4_102
  · exact q4_104
  · exact q4_106
  · exact q4_108
  · exact q4_110
  · exact q4_112
  · exact q4_114
  · exact q4_116
  · exact q4_118
  · exact q4_120
  · exact q4_122
  · exact q4_124
  · exact q4_126
  · exact q4_128
  · exact q4_130
  · exact q4_132
  · exact q4_134
  · exact q4_136
  · exact q4_138
  · exact q4_140
  · exact q4_142
theorem q1_174 : Cond.fieldLink "JokePump$History" 11 "JokePump$History" "slots" "[LJokePump$State;" ∈ lw_g := lw_gm (tin1 (List.mem_of_getElem? (i := 174) (by decide +kernel))) (by decide +kernel)
theorem fl_X0_11 : Fld RX0 11 0 0 := ⟨RX0, TX0, 3, "JokePump$History", rfl, ly_X0, by decide, (Or.inl q1_174), rfl⟩
theorem q1_175 : Cond.fieldLink "JokePump$History" 17 "JokePump$History" "next" "I" ∈ lw_g := lw_gm (tin1 (List.mem_of_getElem? (i := 175) (by decide +kernel))) (by decide +kernel)
theorem fl_X0_17 : Fld RX0 17 0 1 := ⟨RX0, TX0, 3, "JokePump$History", rfl, ly_X0, by decide, (Or.inl q1_175), rfl⟩
theorem fp_X0_17 : FldP RX0 17 0 1 .int := ⟨RX0, TX0, 3, "JokePump$History", tyX0, rfl, ly_X0, tyX0_ok, nmX0, by decide, (Or.inl q1_175), rfl, rfl, by decide +kernel⟩
theorem q1_176 : Cond.fieldLink "JokePump$History" 21 "JokePump$History" "count" "I" ∈ lw_g := lw_gm (tin1 (List.mem_of_getElem? (i := 176) (by decide +kernel))) (by decide +kernel)
theorem fl_X0_21 : Fld RX0 21 0 2 := ⟨RX0, TX0, 3, "JokePump$History", rfl, ly_X0, by decide, (Or.inl q1_176), rfl⟩
theorem fp_X0_21 : FldP RX0 21 0 2 .int := ⟨RX0, TX0, 3, "JokePump$History", tyX0, rfl, ly_X0, tyX0_ok, nmX0, by decide, (Or.inl q1_176), rfl, rfl, by decide +kernel⟩
theorem q1_48 : Cond.fieldLink "JokePump$Jokes" 9 "JokePump$Jokes" "count" "I" ∈ lw_g := lw_gm (tin1 (List.mem_of_getElem? (i := 48) (by decide +kernel))) (by decide +kernel)
theorem fl_X1_9 : Fld RX1 9 1 0 := ⟨RX1, TX1, 6, "JokePump$Jokes", rfl, ly_X1, by decide, (Or.inl q1_48), rfl⟩
theorem fp_X1_9 : FldP RX1 9 1 0 .int := ⟨RX1, TX1, 6, "JokePump$Jokes", tyX1, rfl, ly_X1, tyX1_ok, nmX1, by decide, (Or.inl q1_48), rfl, rfl, by decide +kernel⟩
theorem q1_50 : Cond.fieldLink "JokePump$Jokes" 20 "JokePump$Jokes" "wells" "LJokePump$Row;" ∈ lw_g := lw_gm (tin1 (List.mem_of_getElem? (i := 50) (by decide +kernel))) (by decide +kernel)
theorem fl_X1_20 : Fld RX1 20 1 1 := ⟨RX1, TX1, 6, "JokePump$Jokes", rfl, ly_X1, by decide, (Or.inl q1_50), rfl⟩
theorem q1_53 : Cond.fieldLink "JokePump$Jokes" 24 "JokePump$Jokes" "depths" "LJokePump$Row;" ∈ lw_g := lw_gm (tin1 (List.mem_of_getElem? (i := 53) (by decide +kernel))) (by decide +kernel)
theorem fl_X1_24 : Fld RX1 24 1 2 := ⟨RX1, TX1, 6, "JokePump$Jokes", rfl, ly_X1, by decide, (Or.inl q1_53), rfl⟩
theorem q1_55 : Cond.fieldLink "JokePump$Jokes" 27 "JokePump$Jokes" "signs" "LJokePump$Row;" ∈ lw_g := lw_gm (tin1 (List.mem_of_getElem? (i := 55) (by decide +kernel))) (by decide +kernel)
theorem fl_X1_27 : Fld RX1 27 1 3 := ⟨RX1, TX1, 6, "JokePump$Jokes", rfl, ly_X1, by decide, (Or.inl q1_55), rfl⟩
theorem q1_58 : Cond.fieldLink "JokePump$Jokes" 30 "JokePump$Jokes" "wits" "LJokePump$Row;" ∈ lw_g := lw_gm (tin1 (List.mem_of_getElem? (i := 58) (by decide +kernel))) (by decide +kernel)
theorem fl_X1_30 : Fld RX1 30 1 4 := ⟨RX1, TX1, 6, "JokePump$Jokes", rfl, ly_X1, by decide, (Or.inl q1_58), rfl⟩
theorem q1_61 : Cond.fieldLink "JokePump$Jokes" 33 "JokePump$Jokes" "primed" "LJokePump$Row;" ∈ lw_g := lw_gm (tin1 (List.mem_of_getElem? (i := 61) (by decide +kernel))) (by decide +kernel)
theorem fl_X1_33 : Fld RX1 33 1 5 := ⟨RX1, TX1, 6, "JokePump$Jokes", rfl, ly_X1, by decide, (Or.inl q1_61), rfl⟩
theorem q1_209 : Cond.fieldLink "JokePump$Reader" 14 "JokePump$Reader" "kinds" "LJokePump$Row;" ∈ lw_g := lw_gm (tin1 (List.mem_of_getElem? (i := 209) (by decide +kernel))) (by decide +kernel)
theorem fl_X2_14 : Fld RX2 14 2 0 := ⟨RX2, TX2, 4, "JokePump$Reader", rfl, ly_X2, by decide, (Or.inl q1_209), rfl⟩
theorem q1_211 : Cond.fieldLink "JokePump$Reader" 20 "JokePump$Reader" "numbers" "LJokePump$Row;" ∈ lw_g := lw_gm (tin1 (List.mem_of_getElem? (i := 211) (by decide +kernel))) (by decide +kernel)
theorem fl_X2_20 : Fld RX2 20 2 1 := ⟨RX2, TX2, 4, "JokePump$Reader", rfl, ly_X2, by decide, (Or.inl q1_211), rfl⟩
theorem q1_212 : Cond.fieldLink "JokePump$Reader" 23 "JokePump$Reader" "count" "I" ∈ lw_g := lw_gm (tin1 (List.mem_of_getElem? (i := 212) (by decide +kernel))) (by decide +kernel)
theorem fl_X2_23 : Fld RX2 23 2 2 := ⟨RX2, TX2, 4, "JokePump$Reader", rfl, ly_X2, by decide, (Or.inl q1_212), rfl⟩
theorem fp_X2_23 : FldP RX2 23 2 2 .int := ⟨RX2, TX2, 4, "JokePump$Reader", tyX2, rfl, ly_X2, tyX2_ok, nmX2, by decide, (Or.inl q1_212), rfl, rfl, by decide +kernel⟩
theorem q1_214 : Cond.fieldLink "JokePump$Reader" 27 "JokePump$Reader" "end" "I" ∈ lw_g := lw_gm (tin1 (List.mem_of_getElem? (i := 214) (by decide +kernel))) (by decide +kernel)
theorem fl_X2_27 : Fld RX2 27 2 3 := ⟨RX2, TX2, 4, "JokePump$Reader", rfl, ly_X2, by decide, (Or.inl q1_214), rfl⟩
theorem fp_X2_27 : FldP RX2 27 2 3 .int := ⟨RX2, TX2, 4, "JokePump$Reader", tyX2, rfl, ly_X2, tyX2_ok, nmX2, by decide, (Or.inl q1_214), rfl, rfl, by decide +kernel⟩
theorem q1_193 : Cond.fieldLinkNest "JokePump$Reader" 34 "JokePump$Strip" "length" "I" "JokePump" ∈ lw_n := lw_nm (tin1 (List.mem_of_getElem? (i := 193) (by decide +kernel))) (by decide +kernel)
theorem fl_X2_34 : Fld RX2 34 5 1 := ⟨RX5, TX5, 2, "JokePump$Strip", rfl, ly_X5, by decide, (Or.inr ⟨_, q1_193⟩), rfl⟩
theorem q1_43 : Cond.fieldLink "JokePump$Row" 7 "JokePump$Row" "cells" "[I" ∈ lw_g := lw_gm (tin1 (List.mem_of_getElem? (i := 43) (by decide +kernel))) (by decide +kernel)
theorem fl_X3_7 : Fld RX3 7 3 0 := ⟨RX3, TX3, 1, "JokePump$Row", rfl, ly_X3, by decide, (Or.inl q1_43), rfl⟩
theorem q1_116 : Cond.fieldLink "JokePump$State" 12 "JokePump$State" "jokes" "LJokePump$Jokes;" ∈ lw_g := lw_gm (tin1 (List.mem_of_getElem? (i := 116) (by decide +kernel))) (by decide +kernel)
theorem fl_X4_12 : Fld RX4 12 4 0 := ⟨RX4, TX4, 12, "JokePump$State", rfl, ly_X4, by decide, (Or.inl q1_116), rfl⟩
theorem q1_118 : Cond.fieldLink "JokePump$State" 21 "JokePump$State" "told" "LJokePump$Told;" ∈ lw_g := lw_gm (tin1 (List.mem_of_getElem? (i := 118) (by decide +kernel))) (by decide +kernel)
theorem fl_X4_21 : Fld RX4 21 4 1 := ⟨RX4, TX4, 12, "JokePump$State", rfl, ly_X4, by decide, (Or.inl q1_118), rfl⟩
theorem q1_120 : Cond.fieldLink "JokePump$State" 30 "JokePump$State" "buckets" "LJokePump$Row;" ∈ lw_g := lw_gm (tin1 (List.mem_of_getElem? (i := 120) (by decide +kernel))) (by decide +kernel)
theorem fl_X4_30 : Fld RX4 30 4 2 := ⟨RX4, TX4, 12, "JokePump$State", rfl, ly_X4, by decide, (Or.inl q1_120), rfl⟩
theorem q1_122 : Cond.fieldLink "JokePump$State" 34 "JokePump$State" "well" "I" ∈ lw_g := lw_gm (tin1 (List.mem_of_getElem? (i := 122) (by decide +kernel))) (by decide +kernel)
theorem fl_X4_34 : Fld RX4 34 4 3 := ⟨RX4, TX4, 12, "JokePump$State", rfl, ly_X4, by decide, (Or.inl q1_122), rfl⟩
theorem fp_X4_34 : FldP RX4 34 4 3 .int := ⟨RX4, TX4, 12, "JokePump$State", tyX4, rfl, ly_X4, tyX4_ok, nmX4, by decide, (Or.inl q1_122), rfl, rfl, by decide +kernel⟩
theorem q1_124 : Cond.fieldLink "JokePump$State" 38 "JokePump$State" "length" "I" ∈ lw_g := lw_gm (tin1 (List.mem_of_getElem? (i := 124) (by decide +kernel))) (by decide +kernel)
theorem fl_X4_38 : Fld RX4 38 4 4 := ⟨RX4, TX4, 12, "JokePump$State", rfl, ly_X4, by decide, (Or.inl q1_124), rfl⟩
theorem fp_X4_38 : FldP RX4 38 4 4 .int := ⟨RX4, TX4, 12, "JokePump$State", tyX4, rfl, ly_X4, tyX4_ok, nmX4, by decide, (Or.inl q1_124), rfl, rfl, by decide +kernel⟩
theorem q1_126 : Cond.fieldLink "JokePump$State" 41 "JokePump$State" "reach" "I" ∈ lw_g := lw_gm (tin1 (List.mem_of_getElem? (i := 126) (by decide +kernel))) (by decide +kernel)
theorem fl_X4_41 : Fld RX4 41 4 5 := ⟨RX4, TX4, 12, "JokePump$State", rfl, ly_X4, by decide, (Or.inl q1_126), rfl⟩
theorem fp_X4_41 : FldP RX4 41 4 5 .int := ⟨RX4, TX4, 12, "JokePump$State", tyX4, rfl, ly_X4, tyX4_ok, nmX4, by decide, (Or.inl q1_126), rfl, rfl, by decide +kernel⟩
theorem q1_128 : Cond.fieldLink "JokePump$State" 44 "JokePump$State" "groans" "I" ∈ lw_g := lw_gm (tin1 (List.mem_of_getElem? (i := 128) (by decide +kernel))) (by decide +kernel)
theorem fl_X4_44 : Fld RX4 44 4 6 := ⟨RX4, TX4, 12, "JokePump$State", rfl, ly_X4, by decide, (Or.inl q1_128), rfl⟩
theorem fp_X4_44 : FldP RX4 44 4 6 .int := ⟨RX4, TX4, 12, "JokePump$State", tyX4, rfl, ly_X4, tyX4_ok, nmX4, by decide, (Or.inl q1_128), rfl, rfl, by decide +kernel⟩
theorem q1_130 : Cond.fieldLink "JokePump$State" 47 "JokePump$State" "drops" "I" ∈ lw_g := lw_gm (tin1 (List.mem_of_getElem? (i := 130) (by decide +kernel))) (by decide +kernel)
theorem fl_X4_47 : Fld RX4 47 4 7 := ⟨RX4, TX4, 12, "JokePump$State", rfl, ly_X4, by decide, (Or.inl q1_130), rfl⟩
theorem fp_X4_47 : FldP RX4 47 4 7 .int := ⟨RX4, TX4, 12, "JokePump$State", tyX4, rfl, ly_X4, tyX4_ok, nmX4, by decide, (Or.inl q1_130), rfl, rfl, by decide +kernel⟩
theorem q1_132 : Cond.fieldLink "JokePump$State" 50 "JokePump$State" "came" "I" ∈ lw_g := lw_gm (tin1 (List.mem_of_getElem? (i := 132) (by decide +kernel))) (by decide +kernel)
theorem fl_X4_50 : Fld RX4 50 4 8 := ⟨RX4, TX4, 12, "JokePump$State", rfl, ly_X4, by decide, (Or.inl q1_132), rfl⟩
theorem fp_X4_50 : FldP RX4 50 4 8 .int := ⟨RX4, TX4, 12, "JokePump$State", tyX4, rfl, ly_X4, tyX4_ok, nmX4, by decide, (Or.inl q1_132), rfl, rfl, by decide +kernel⟩
theorem q1_134 : Cond.fieldLink "JokePump$State" 53 "JokePump$State" "went" "I" ∈ lw_g := lw_gm (tin1 (List.mem_of_getElem? (i := 134) (by decide +kernel))) (by decide +kernel)
theorem fl_X4_53 : Fld RX4 53 4 9 := ⟨RX4, TX4, 12, "JokePump$State", rfl, ly_X4, by decide, (Or.inl q1_134), rfl⟩
theorem fp_X4_53 : FldP RX4 53 4 9 .int := ⟨RX4, TX4, 12, "JokePump$State", tyX4, rfl, ly_X4, tyX4_ok, nmX4, by decide, (Or.inl q1_134), rfl, rfl, by decide +kernel⟩
theorem q1_136 : Cond.fieldLink "JokePump$State" 56 "JokePump$State" "strokesMade" "I" ∈ lw_g := lw_gm (tin1 (List.mem_of_getElem? (i := 136) (by decide +kernel))) (by decide +kernel)
theorem fl_X4_56 : Fld RX4 56 4 10 := ⟨RX4, TX4, 12, "JokePump$State", rfl, ly_X4, by decide, (Or.inl q1_136), rfl⟩
theorem fp_X4_56 : FldP RX4 56 4 10 .int := ⟨RX4, TX4, 12, "JokePump$State", tyX4, rfl, ly_X4, tyX4_ok, nmX4, by decide, (Or.inl q1_136), rfl, rfl, by decide +kernel⟩
theorem q1_138 : Cond.fieldLink "JokePump$State" 59 "JokePump$State" "drained" "I" ∈ lw_g := lw_gm (tin1 (List.mem_of_getElem? (i := 138) (by decide +kernel))) (by decide +kernel)
theorem fl_X4_59 : Fld RX4 59 4 11 := ⟨RX4, TX4, 12, "JokePump$State", rfl, ly_X4, by decide, (Or.inl q1_138), rfl⟩
theorem fp_X4_59 : FldP RX4 59 4 11 .int := ⟨RX4, TX4, 12, "JokePump$State", tyX4, rfl, ly_X4, tyX4_ok, nmX4, by decide, (Or.inl q1_138), rfl, rfl, by decide +kernel⟩
theorem q1_59 : Cond.fieldLinkNest "JokePump$State" 72 "JokePump$Jokes" "wits" "LJokePump$Row;" "JokePump" ∈ lw_n := lw_nm (tin1 (List.mem_of_getElem? (i := 59) (by decide +kernel))) (by decide +kernel)
theorem fl_X4_72 : Fld RX4 72 1 4 := ⟨RX1, TX1, 6, "JokePump$Jokes", rfl, ly_X1, by decide, (Or.inr ⟨_, q1_59⟩), rfl⟩
theorem q1_62 : Cond.fieldLinkNest "JokePump$State" 79 "JokePump$Jokes" "primed" "LJokePump$Row;" "JokePump" ∈ lw_n := lw_nm (tin1 (List.mem_of_getElem? (i := 62) (by decide +kernel))) (by decide +kernel)
theorem fl_X4_79 : Fld RX4 79 1 5 := ⟨RX1, TX1, 6, "JokePump$Jokes", rfl, ly_X1, by decide, (Or.inr ⟨_, q1_62⟩), rfl⟩
theorem q1_56 : Cond.fieldLinkNest "JokePump$State" 99 "JokePump$Jokes" "signs" "LJokePump$Row;" "JokePump" ∈ lw_n := lw_nm (tin1 (List.mem_of_getElem? (i := 56) (by decide +kernel))) (by decide +kernel)
theorem fl_X4_99 : Fld RX4 99 1 3 := ⟨RX1, TX1, 6, "JokePump$Jokes", rfl, ly_X1, by decide, (Or.inr ⟨_, q1_56⟩), rfl⟩
theorem q1_51 : Cond.fieldLinkNest "JokePump$State" 102 "JokePump$Jokes" "wells" "LJokePump$Row;" "JokePump" ∈ lw_n := lw_nm (tin1 (List.mem_of_getElem? (i := 51) (by decide +kernel))) (by decide +kernel)
theorem fl_X4_102 : Fld RX4 102 1 1 := ⟨RX1, TX1, 6, "JokePump$Jokes", rfl, ly_X1, by decide, (Or.inr ⟨_, q1_51⟩), rfl⟩
theorem q1_191 : Cond.fieldLink "JokePump$Strip" 9 "JokePump$Strip" "signs" "[C" ∈ lw_g := lw_gm (tin1 (List.mem_of_getElem? (i := 191) (by decide +kernel))) (by decide +kernel)
theorem fl_X5_9 : Fld RX5 9 5 0 := ⟨RX5, TX5, 2, "JokePump$Strip", rfl, ly_X5, by decide, (Or.inl q1_191), rfl⟩
theorem q1_192 : Cond.fieldLink "JokePump$Strip" 15 "JokePump$Strip" "length" "I" ∈ lw_g := lw_gm (tin1 (List.mem_of_getElem? (i := 192) (by decide +kernel))) (by decide +kernel)
theorem fl_X5_15 : Fld RX5 15 5 1 := ⟨RX5, TX5, 2, "JokePump$Strip", rfl, ly_X5, by decide, (Or.inl q1_192), rfl⟩
theorem fp_X5_15 : FldP RX5 15 5 1 .int := ⟨RX5, TX5, 2, "JokePump$Strip", tyX5, rfl, ly_X5, tyX5_ok, nmX5, by decide, (Or.inl q1_192), rfl, rfl, by decide +kernel⟩
theorem q1_85 : Cond.fieldLink "JokePump$Told" 9 "JokePump$Told" "count" "I" ∈ lw_g := lw_gm (tin1 (List.mem_of_getElem? (i := 85) (by decide +kernel))) (by decide +kernel)
theorem fl_X6_9 : Fld RX6 9 6 0 := ⟨RX6, TX6, 6, "JokePump$Told", rfl, ly_X6, by decide, (Or.inl q1_85), rfl⟩
theorem fp_X6_9 : FldP RX6 9 6 0 .int := ⟨RX6, TX6, 6, "JokePump$Told", tyX6, rfl, ly_X6, tyX6_ok, nmX6, by decide, (Or.inl q1_85), rfl, rfl, by decide +kernel⟩
theorem q1_87 : Cond.fieldLink "JokePump$Told" 15 "JokePump$Told" "sum" "F" ∈ lw_g := lw_gm (tin1 (List.mem_of_getElem? (i := 87) (by decide +kernel))) (by decide +kernel)
theorem fl_X6_15 : Fld RX6 15 6 1 := ⟨RX6, TX6, 6, "JokePump$Told", rfl, ly_X6, by decide, (Or.inl q1_87), rfl⟩
theorem fp_X6_15 : FldP RX6 15 6 1 .float := ⟨RX6, TX6, 6, "JokePump$Told", tyX6, rfl, ly_X6, tyX6_ok, nmX6, by decide, (Or.inl q1_87), rfl, rfl, by decide +kernel⟩
theorem q1_89 : Cond.fieldLink "JokePump$Told" 24 "JokePump$Told" "signs" "LJokePump$Row;" ∈ lw_g := lw_gm (tin1 (List.mem_of_getElem? (i := 89) (by decide +kernel))) (by decide +kernel)
theorem fl_X6_24 : Fld RX6 24 6 2 := ⟨RX6, TX6, 6, "JokePump$Told", rfl, ly_X6, by decide, (Or.inl q1_89), rfl⟩
theorem q1_91 : Cond.fieldLink "JokePump$Told" 28 "JokePump$Told" "wells" "LJokePump$Row;" ∈ lw_g := lw_gm (tin1 (List.mem_of_getElem? (i := 91) (by decide +kernel))) (by decide +kernel)
theorem fl_X6_28 : Fld RX6 28 6 3 := ⟨RX6, TX6, 6, "JokePump$Told", rfl, ly_X6, by decide, (Or.inl q1_91), rfl⟩
theorem q1_93 : Cond.fieldLink "JokePump$Told" 31 "JokePump$Told" "laughs" "[F" ∈ lw_g := lw_gm (tin1 (List.mem_of_getElem? (i := 93) (by decide +kernel))) (by decide +kernel)
theorem fl_X6_31 : Fld RX6 31 6 4 := ⟨RX6, TX6, 6, "JokePump$Told", rfl, ly_X6, by decide, (Or.inl q1_93), rfl⟩
theorem q1_94 : Cond.fieldLink "JokePump$Told" 35 "JokePump$Told" "known" "LJokePump$Row;" ∈ lw_g := lw_gm (tin1 (List.mem_of_getElem? (i := 94) (by decide +kernel))) (by decide +kernel)
theorem fl_X6_35 : Fld RX6 35 6 5 := ⟨RX6, TX6, 6, "JokePump$Told", rfl, ly_X6, by decide, (Or.inl q1_94), rfl⟩
theorem q1_225 : Cond.fieldLink "JokePump" 12 "JokePump" "now" "LJokePump$State;" ∈ lw_g := lw_gm (tin1 (List.mem_of_getElem? (i := 225) (by decide +kernel))) (by decide +kernel)
theorem fl_X7_12 : Fld RX7 12 7 0 := ⟨RX7, TX7, 12, "JokePump", rfl, ly_X7, by decide, (Or.inl q1_225), rfl⟩
theorem q1_226 : Cond.fieldLink "JokePump" 16 "JokePump" "saved" "LJokePump$State;" ∈ lw_g := lw_gm (tin1 (List.mem_of_getElem? (i := 226) (by decide +kernel))) (by decide +kernel)
theorem fl_X7_16 : Fld RX7 16 7 1 := ⟨RX7, TX7, 12, "JokePump", rfl, ly_X7, by decide, (Or.inl q1_226), rfl⟩
theorem q1_227 : Cond.fieldLink "JokePump" 19 "JokePump" "isSaved" "Z" ∈ lw_g := lw_gm (tin1 (List.mem_of_getElem? (i := 227) (by decide +kernel))) (by decide +kernel)
theorem fl_X7_19 : Fld RX7 19 7 2 := ⟨RX7, TX7, 12, "JokePump", rfl, ly_X7, by decide, (Or.inl q1_227), rfl⟩
theorem fp_X7_19 : FldP RX7 19 7 2 .boolean := ⟨RX7, TX7, 12, "JokePump", tyX7, rfl, ly_X7, tyX7_ok, nmX7, by decide, (Or.inl q1_227), rfl, rfl, by decide +kernel⟩
theorem q1_228 : Cond.fieldLink "JokePump" 26 "JokePump" "history" "LJokePump$History;" ∈ lw_g := lw_gm (tin1 (List.mem_of_getElem? (i := 228) (by decide +kernel))) (by decide +kernel)
theorem fl_X7_26 : Fld RX7 26 7 3 := ⟨RX7, TX7, 12, "JokePump", rfl, ly_X7, by decide, (Or.inl q1_228), rfl⟩
theorem q1_229 : Cond.fieldLink "JokePump" 33 "JokePump" "input" "LJokePump$Strip;" ∈ lw_g := lw_gm (tin1 (List.mem_of_getElem? (i := 229) (by decide +kernel))) (by decide +kernel)
theorem fl_X7_33 : Fld RX7 33 7 4 := ⟨RX7, TX7, 12, "JokePump", rfl, ly_X7, by decide, (Or.inl q1_229), rfl⟩
theorem q1_230 : Cond.fieldLink "JokePump" 37 "JokePump" "line" "LJokePump$Strip;" ∈ lw_g := lw_gm (tin1 (List.mem_of_getElem? (i := 230) (by decide +kernel))) (by decide +kernel)
theorem fl_X7_37 : Fld RX7 37 7 5 := ⟨RX7, TX7, 12, "JokePump", rfl, ly_X7, by decide, (Or.inl q1_230), rfl⟩
theorem q1_231 : Cond.fieldLink "JokePump" 43 "JokePump" "reader" "LJokePump$Reader;" ∈ lw_g := lw_gm (tin1 (List.mem_of_getElem? (i := 231) (by decide +kernel))) (by decide +kernel)
theorem fl_X7_43 : Fld RX7 43 7 6 := ⟨RX7, TX7, 12, "JokePump", rfl, ly_X7, by decide, (Or.inl q1_231), rfl⟩
theorem q1_232 : Cond.fieldLink "JokePump" 47 "JokePump" "faultPosition" "I" ∈ lw_g := lw_gm (tin1 (List.mem_of_getElem? (i := 232) (by decide +kernel))) (by decide +kernel)
theorem fl_X7_47 : Fld RX7 47 7 7 := ⟨RX7, TX7, 12, "JokePump", rfl, ly_X7, by decide, (Or.inl q1_232), rfl⟩
theorem fp_X7_47 : FldP RX7 47 7 7 .int := ⟨RX7, TX7, 12, "JokePump", tyX7, rfl, ly_X7, tyX7_ok, nmX7, by decide, (Or.inl q1_232), rfl, rfl, by decide +kernel⟩
theorem q1_233 : Cond.fieldLink "JokePump" 51 "JokePump" "reasonKind" "I" ∈ lw_g := lw_gm (tin1 (List.mem_of_getElem? (i := 233) (by decide +kernel))) (by decide +kernel)
theorem fl_X7_51 : Fld RX7 51 7 8 := ⟨RX7, TX7, 12, "JokePump", rfl, ly_X7, by decide, (Or.inl q1_233), rfl⟩
theorem fp_X7_51 : FldP RX7 51 7 8 .int := ⟨RX7, TX7, 12, "JokePump", tyX7, rfl, ly_X7, tyX7_ok, nmX7, by decide, (Or.inl q1_233), rfl, rfl, by decide +kernel⟩
theorem q1_234 : Cond.fieldLink "JokePump" 54 "JokePump" "reasonDetail" "I" ∈ lw_g := lw_gm (tin1 (List.mem_of_getElem? (i := 234) (by decide +kernel))) (by decide +kernel)
theorem fl_X7_54 : Fld RX7 54 7 9 := ⟨RX7, TX7, 12, "JokePump", rfl, ly_X7, by decide, (Or.inl q1_234), rfl⟩
theorem fp_X7_54 : FldP RX7 54 7 9 .int := ⟨RX7, TX7, 12, "JokePump", tyX7, rfl, ly_X7, tyX7_ok, nmX7, by decide, (Or.inl q1_234), rfl, rfl, by decide +kernel⟩
theorem q1_235 : Cond.fieldLink "JokePump" 57 "JokePump" "behindKind" "I" ∈ lw_g := lw_gm (tin1 (List.mem_of_getElem? (i := 235) (by decide +kernel))) (by decide +kernel)
theorem fl_X7_57 : Fld RX7 57 7 10 := ⟨RX7, TX7, 12, "JokePump", rfl, ly_X7, by decide, (Or.inl q1_235), rfl⟩
theorem fp_X7_57 : FldP RX7 57 7 10 .int := ⟨RX7, TX7, 12, "JokePump", tyX7, rfl, ly_X7, tyX7_ok, nmX7, by decide, (Or.inl q1_235), rfl, rfl, by decide +kernel⟩
theorem q1_236 : Cond.fieldLink "JokePump" 60 "JokePump" "behindDetail" "I" ∈ lw_g := lw_gm (tin1 (List.mem_of_getElem? (i := 236) (by decide +kernel))) (by decide +kernel)
theorem fl_X7_60 : Fld RX7 60 7 11 := ⟨RX7, TX7, 12, "JokePump", rfl, ly_X7, by decide, (Or.inl q1_236), rfl⟩
theorem fp_X7_60 : FldP RX7 60 7 11 .int := ⟨RX7, TX7, 12, "JokePump", tyX7, rfl, ly_X7, tyX7_ok, nmX7, by decide, (Or.inl q1_236), rfl, rfl, by decide +kernel⟩
theorem q1_177 : Cond.fieldLinkNest "JokePump" 104 "JokePump$History" "count" "I" "JokePump" ∈ lw_n := lw_nm (tin1 (List.mem_of_getElem? (i := 177) (by decide +kernel))) (by decide +kernel)
theorem fl_X7_104 : Fld RX7 104 0 2 := ⟨RX0, TX0, 3, "JokePump$History", rfl, ly_X0, by decide, (Or.inr ⟨_, q1_177⟩), rfl⟩
theorem q1_117 : Cond.fieldLinkNest "JokePump" 114 "JokePump$State" "jokes" "LJokePump$Jokes;" "JokePump" ∈ lw_n := lw_nm (tin1 (List.mem_of_getElem? (i := 117) (by decide +kernel))) (by decide +kernel)
theorem fl_X7_114 : Fld RX7 114 4 0 := ⟨RX4, TX4, 12, "JokePump$State", rfl, ly_X4, by decide, (Or.inr ⟨_, q1_117⟩), rfl⟩
theorem q1_49 : Cond.fieldLinkNest "JokePump" 118 "JokePump$Jokes" "count" "I" "JokePump" ∈ lw_n := lw_nm (tin1 (List.mem_of_getElem? (i := 49) (by decide +kernel))) (by decide +kernel)
theorem fl_X7_118 : Fld RX7 118 1 0 := ⟨RX1, TX1, 6, "JokePump$Jokes", rfl, ly_X1, by decide, (Or.inr ⟨_, q1_49⟩), rfl⟩
theorem q1_52 : Cond.fieldLinkNest "JokePump" 128 "JokePump$Jokes" "wells" "LJokePump$Row;" "JokePump" ∈ lw_n := lw_nm (tin1 (List.mem_of_getElem? (i := 52) (by decide +kernel))) (by decide +kernel)
theorem fl_X7_128 : Fld RX7 128 1 1 := ⟨RX1, TX1, 6, "JokePump$Jokes", rfl, ly_X1, by decide, (Or.inr ⟨_, q1_52⟩), rfl⟩
theorem q1_54 : Cond.fieldLinkNest "JokePump" 137 "JokePump$Jokes" "depths" "LJokePump$Row;" "JokePump" ∈ lw_n := lw_nm (tin1 (List.mem_of_getElem? (i := 54) (by decide +kernel))) (by decide +kernel)
theorem fl_X7_137 : Fld RX7 137 1 2 := ⟨RX1, TX1, 6, "JokePump$Jokes", rfl, ly_X1, by decide, (Or.inr ⟨_, q1_54⟩), rfl⟩
theorem q1_57 : Cond.fieldLinkNest "JokePump" 140 "JokePump$Jokes" "signs" "LJokePump$Row;" "JokePump" ∈ lw_n := lw_nm (tin1 (List.mem_of_getElem? (i := 57) (by decide +kernel))) (by decide +kernel)
theorem fl_X7_140 : Fld RX7 140 1 3 := ⟨RX1, TX1, 6, "JokePump$Jokes", rfl, ly_X1, by decide, (Or.inr ⟨_, q1_57⟩), rfl⟩
theorem q1_60 : Cond.fieldLinkNest "JokePump" 143 "JokePump$Jokes" "wits" "LJokePump$Row;" "JokePump" ∈ lw_n := lw_nm (tin1 (List.mem_of_getElem? (i := 60) (by decide +kernel))) (by decide +kernel)
theorem fl_X7_143 : Fld RX7 143 1 4 := ⟨RX1, TX1, 6, "JokePump$Jokes", rfl, ly_X1, by decide, (Or.inr ⟨_, q1_60⟩), rfl⟩
theorem q1_63 : Cond.fieldLinkNest "JokePump" 146 "JokePump$Jokes" "primed" "LJokePump$Row;" "JokePump" ∈ lw_n := lw_nm (tin1 (List.mem_of_getElem? (i := 63) (by decide +kernel))) (by decide +kernel)
theorem fl_X7_146 : Fld RX7 146 1 5 := ⟨RX1, TX1, 6, "JokePump$Jokes", rfl, ly_X1, by decide, (Or.inr ⟨_, q1_63⟩), rfl⟩
theorem q1_121 : Cond.fieldLinkNest "JokePump" 155 "JokePump$State" "buckets" "LJokePump$Row;" "JokePump" ∈ lw_n := lw_nm (tin1 (List.mem_of_getElem? (i := 121) (by decide +kernel))) (by decide +kernel)
theorem fl_X7_155 : Fld RX7 155 4 2 := ⟨RX4, TX4, 12, "JokePump$State", rfl, ly_X4, by decide, (Or.inr ⟨_, q1_121⟩), rfl⟩
theorem q1_119 : Cond.fieldLinkNest "JokePump" 164 "JokePump$State" "told" "LJokePump$Told;" "JokePump" ∈ lw_n := lw_nm (tin1 (List.mem_of_getElem? (i := 119) (by decide +kernel))) (by decide +kernel)
theorem fl_X7_164 : Fld RX7 164 4 1 := ⟨RX4, TX4, 12, "JokePump$State", rfl, ly_X4, by decide, (Or.inr ⟨_, q1_119⟩), rfl⟩
theorem q1_95 : Cond.fieldLinkNest "JokePump" 177 "JokePump$Told" "known" "LJokePump$Row;" "JokePump" ∈ lw_n := lw_nm (tin1 (List.mem_of_getElem? (i := 95) (by decide +kernel))) (by decide +kernel)
theorem fl_X7_177 : Fld RX7 177 6 5 := ⟨RX6, TX6, 6, "JokePump$Told", rfl, ly_X6, by decide, (Or.inr ⟨_, q1_95⟩), rfl⟩
theorem q1_88 : Cond.fieldLinkNest "JokePump" 200 "JokePump$Told" "sum" "F" "JokePump" ∈ lw_n := lw_nm (tin1 (List.mem_of_getElem? (i := 88) (by decide +kernel))) (by decide +kernel)
theorem fl_X7_200 : Fld RX7 200 6 1 := ⟨RX6, TX6, 6, "JokePump$Told", rfl, ly_X6, by decide, (Or.inr ⟨_, q1_88⟩), rfl⟩
theorem q1_86 : Cond.fieldLinkNest "JokePump" 208 "JokePump$Told" "count" "I" "JokePump" ∈ lw_n := lw_nm (tin1 (List.mem_of_getElem? (i := 86) (by decide +kernel))) (by decide +kernel)
theorem fl_X7_208 : Fld RX7 208 6 0 := ⟨RX6, TX6, 6, "JokePump$Told", rfl, ly_X6, by decide, (Or.inr ⟨_, q1_86⟩), rfl⟩
theorem q1_90 : Cond.fieldLinkNest "JokePump" 209 "JokePump$Told" "signs" "LJokePump$Row;" "JokePump" ∈ lw_n := lw_nm (tin1 (List.mem_of_getElem? (i := 90) (by decide +kernel))) (by decide +kernel)
theorem fl_X7_209 : Fld RX7 209 6 2 := ⟨RX6, TX6, 6, "JokePump$Told", rfl, ly_X6, by decide, (Or.inr ⟨_, q1_90⟩), rfl⟩
theorem q1_92 : Cond.fieldLinkNest "JokePump" 210 "JokePump$Told" "wells" "LJokePump$Row;" "JokePump" ∈ lw_n := lw_nm (tin1 (List.mem_of_getElem? (i := 92) (by decide +kernel))) (by decide +kernel)
theorem fl_X7_210 : Fld RX7 210 6 3 := ⟨RX6, TX6, 6, "JokePump$Told", rfl, ly_X6, by decide, (Or.inr ⟨_, q1_92⟩), rfl⟩
theorem q1_127 : Cond.fieldLinkNest "JokePump" 219 "JokePump$State" "reach" "I" "JokePump" ∈ lw_n := lw_nm (tin1 (List.mem_of_getElem? (i := 127) (by decide +kernel))) (by decide +kernel)
theorem fl_X7_219 : Fld RX7 219 4 5 := ⟨RX4, TX4, 12, "JokePump$State", rfl, ly_X4, by decide, (Or.inr ⟨_, q1_127⟩), rfl⟩
theorem fp_X7_219 : FldP RX7 219 4 5 .int := ⟨RX4, TX4, 12, "JokePump$State", tyX4, rfl, ly_X4, tyX4_ok, nmX4, by decide, (Or.inr ⟨_, q1_127⟩), rfl, rfl, by decide +kernel⟩
theorem q1_125 : Cond.fieldLinkNest "JokePump" 222 "JokePump$State" "length" "I" "JokePump" ∈ lw_n := lw_nm (tin1 (List.mem_of_getElem? (i := 125) (by decide +kernel))) (by decide +kernel)
theorem fl_X7_222 : Fld RX7 222 4 4 := ⟨RX4, TX4, 12, "JokePump$State", rfl, ly_X4, by decide, (Or.inr ⟨_, q1_125⟩), rfl⟩
theorem fp_X7_222 : FldP RX7 222 4 4 .int := ⟨RX4, TX4, 12, "JokePump$State", tyX4, rfl, ly_X4, tyX4_ok, nmX4, by decide, (Or.inr ⟨_, q1_125⟩), rfl, rfl, by decide +kernel⟩
theorem q1_129 : Cond.fieldLinkNest "JokePump" 228 "JokePump$State" "groans" "I" "JokePump" ∈ lw_n := lw_nm (tin1 (List.mem_of_getElem? (i := 129) (by decide +kernel))) (by decide +kernel)
theorem fl_X7_228 : Fld RX7 228 4 6 := ⟨RX4, TX4, 12, "JokePump$State", rfl, ly_X4, by decide, (Or.inr ⟨_, q1_129⟩), rfl⟩
theorem fp_X7_228 : FldP RX7 228 4 6 .int := ⟨RX4, TX4, 12, "JokePump$State", tyX4, rfl, ly_X4, tyX4_ok, nmX4, by decide, (Or.inr ⟨_, q1_129⟩), rfl, rfl, by decide +kernel⟩
theorem q1_123 : Cond.fieldLinkNest "JokePump" 234 "JokePump$State" "well" "I" "JokePump" ∈ lw_n := lw_nm (tin1 (List.mem_of_getElem? (i := 123) (by decide +kernel))) (by decide +kernel)
theorem fl_X7_234 : Fld RX7 234 4 3 := ⟨RX4, TX4, 12, "JokePump$State", rfl, ly_X4, by decide, (Or.inr ⟨_, q1_123⟩), rfl⟩
theorem fp_X7_234 : FldP RX7 234 4 3 .int := ⟨RX4, TX4, 12, "JokePump$State", tyX4, rfl, ly_X4, tyX4_ok, nmX4, by decide, (Or.inr ⟨_, q1_123⟩), rfl, rfl, by decide +kernel⟩
theorem q1_133 : Cond.fieldLinkNest "JokePump" 245 "JokePump$State" "came" "I" "JokePump" ∈ lw_n := lw_nm (tin1 (List.mem_of_getElem? (i := 133) (by decide +kernel))) (by decide +kernel)
theorem fl_X7_245 : Fld RX7 245 4 8 := ⟨RX4, TX4, 12, "JokePump$State", rfl, ly_X4, by decide, (Or.inr ⟨_, q1_133⟩), rfl⟩
theorem fp_X7_245 : FldP RX7 245 4 8 .int := ⟨RX4, TX4, 12, "JokePump$State", tyX4, rfl, ly_X4, tyX4_ok, nmX4, by decide, (Or.inr ⟨_, q1_133⟩), rfl, rfl, by decide +kernel⟩
theorem q1_135 : Cond.fieldLinkNest "JokePump" 248 "JokePump$State" "went" "I" "JokePump" ∈ lw_n := lw_nm (tin1 (List.mem_of_getElem? (i := 135) (by decide +kernel))) (by decide +kernel)
theorem fl_X7_248 : Fld RX7 248 4 9 := ⟨RX4, TX4, 12, "JokePump$State", rfl, ly_X4, by decide, (Or.inr ⟨_, q1_135⟩), rfl⟩
theorem fp_X7_248 : FldP RX7 248 4 9 .int := ⟨RX4, TX4, 12, "JokePump$State", tyX4, rfl, ly_X4, tyX4_ok, nmX4, by decide, (Or.inr ⟨_, q1_135⟩), rfl, rfl, by decide +kernel⟩
theorem q1_131 : Cond.fieldLinkNest "JokePump" 261 "JokePump$State" "drops" "I" "JokePump" ∈ lw_n := lw_nm (tin1 (List.mem_of_getElem? (i := 131) (by decide +kernel))) (by decide +kernel)
theorem fl_X7_261 : Fld RX7 261 4 7 := ⟨RX4, TX4, 12, "JokePump$State", rfl, ly_X4, by decide, (Or.inr ⟨_, q1_131⟩), rfl⟩
theorem fp_X7_261 : FldP RX7 261 4 7 .int := ⟨RX4, TX4, 12, "JokePump$State", tyX4, rfl, ly_X4, tyX4_ok, nmX4, by decide, (Or.inr ⟨_, q1_131⟩), rfl, rfl, by decide +kernel⟩
theorem q1_137 : Cond.fieldLinkNest "JokePump" 264 "JokePump$State" "strokesMade" "I" "JokePump" ∈ lw_n := lw_nm (tin1 (List.mem_of_getElem? (i := 137) (by decide +kernel))) (by decide +kernel)
theorem fl_X7_264 : Fld RX7 264 4 10 := ⟨RX4, TX4, 12, "JokePump$State", rfl, ly_X4, by decide, (Or.inr ⟨_, q1_137⟩), rfl⟩
theorem q1_139 : Cond.fieldLinkNest "JokePump" 267 "JokePump$State" "drained" "I" "JokePump" ∈ lw_n := lw_nm (tin1 (List.mem_of_getElem? (i := 139) (by decide +kernel))) (by decide +kernel)
theorem fl_X7_267 : Fld RX7 267 4 11 := ⟨RX4, TX4, 12, "JokePump$State", rfl, ly_X4, by decide, (Or.inr ⟨_, q1_139⟩), rfl⟩
theorem fp_X7_267 : FldP RX7 267 4 11 .int := ⟨RX4, TX4, 12, "JokePump$State", tyX4, rfl, ly_X4, tyX4_ok, nmX4, by decide, (Or.inr ⟨_, q1_139⟩), rfl, rfl, by decide +kernel⟩
theorem q1_194 : Cond.fieldLinkNest "JokePump" 273 "JokePump$Strip" "length" "I" "JokePump" ∈ lw_n := lw_nm (tin1 (List.mem_of_getElem? (i := 194) (by decide +kernel))) (by decide +kernel)
theorem fl_X7_273 : Fld RX7 273 5 1 := ⟨RX5, TX5, 2, "JokePump$Strip", rfl, ly_X5, by decide, (Or.inr ⟨_, q1_194⟩), rfl⟩
theorem q1_215 : Cond.fieldLinkNest "JokePump" 318 "JokePump$Reader" "end" "I" "JokePump" ∈ lw_n := lw_nm (tin1 (List.mem_of_getElem? (i := 215) (by decide +kernel))) (by decide +kernel)
theorem fl_X7_318 : Fld RX7 318 2 3 := ⟨RX2, TX2, 4, "JokePump$Reader", rfl, ly_X2, by decide, (Or.inr ⟨_, q1_215⟩), rfl⟩
theorem q1_213 : Cond.fieldLinkNest "JokePump" 327 "JokePump$Reader" "count" "I" "JokePump" ∈ lw_n := lw_nm (tin1 (List.mem_of_getElem? (i := 213) (by decide +kernel))) (by decide +kernel)
theorem fl_X7_327 : Fld RX7 327 2 2 := ⟨RX2, TX2, 4, "JokePump$Reader", rfl, ly_X2, by decide, (Or.inr ⟨_, q1_213⟩), rfl⟩
theorem q1_210 : Cond.fieldLinkNest "JokePump" 338 "JokePump$Reader" "kinds" "LJokePump$Row;" "JokePump" ∈ lw_n := lw_nm (tin1 (List.mem_of_getElem? (i := 210) (by decide +kernel))) (by decide +kernel)
theorem fl_X7_338 : Fld RX7 338 2 0 := ⟨RX2, TX2, 4, "JokePump$Reader", rfl, ly_X2, by decide, (Or.inr ⟨_, q1_210⟩), rfl⟩
theorem q4_79 : Cond.fieldLink "JokePumpModel" 1 "JokePumpModel" "whyNow" "I" ∈ lw_g := lw_gm (tin4 (List.mem_of_getElem? (i := 79) (by decide +kernel))) (by decide +kernel)
theorem fl_X8_1 : Fld RX8 1 8 4 := ⟨RX8, TX8, 23, "JokePumpModel", rfl, ly_X8, by decide, (Or.inl q4_79), rfl⟩
theorem fp_X8_1 : FldP RX8 1 8 4 .int := ⟨RX8, TX8, 23, "JokePumpModel", tyX8, rfl, ly_X8, tyX8_ok, nmX8, by decide, (Or.inl q4_79), rfl, rfl, by decide +kernel⟩
theorem q4_80 : Cond.fieldLink "JokePumpModel" 7 "JokePumpModel" "detailNow" "I" ∈ lw_g := lw_gm (tin4 (List.mem_of_getElem? (i := 80) (by decide +kernel))) (by decide +kernel)
theorem fl_X8_7 : Fld RX8 7 8 5 := ⟨RX8, TX8, 23, "JokePumpModel", rfl, ly_X8, by decide, (Or.inl q4_80), rfl⟩
theorem fp_X8_7 : FldP RX8 7 8 5 .int := ⟨RX8, TX8, 23, "JokePumpModel", tyX8, rfl, ly_X8, tyX8_ok, nmX8, by decide, (Or.inl q4_80), rfl, rfl, by decide +kernel⟩
theorem q4_75 : Cond.fieldLink "JokePumpModel" 10 "JokePumpModel" "why" "I" ∈ lw_g := lw_gm (tin4 (List.mem_of_getElem? (i := 75) (by decide +kernel))) (by decide +kernel)
theorem fl_X8_10 : Fld RX8 10 8 0 := ⟨RX8, TX8, 23, "JokePumpModel", rfl, ly_X8, by decide, (Or.inl q4_75), rfl⟩
theorem fp_X8_10 : FldP RX8 10 8 0 .int := ⟨RX8, TX8, 23, "JokePumpModel", tyX8, rfl, ly_X8, tyX8_ok, nmX8, by decide, (Or.inl q4_75), rfl, rfl, by decide +kernel⟩
theorem q4_76 : Cond.fieldLink "JokePumpModel" 13 "JokePumpModel" "detail" "I" ∈ lw_g := lw_gm (tin4 (List.mem_of_getElem? (i := 76) (by decide +kernel))) (by decide +kernel)
theorem fl_X8_13 : Fld RX8 13 8 1 := ⟨RX8, TX8, 23, "JokePumpModel", rfl, ly_X8, by decide, (Or.inl q4_76), rfl⟩
theorem fp_X8_13 : FldP RX8 13 8 1 .int := ⟨RX8, TX8, 23, "JokePumpModel", tyX8, rfl, ly_X8, tyX8_ok, nmX8, by decide, (Or.inl q4_76), rfl, rfl, by decide +kernel⟩
theorem q4_77 : Cond.fieldLink "JokePumpModel" 16 "JokePumpModel" "whyBehind" "I" ∈ lw_g := lw_gm (tin4 (List.mem_of_getElem? (i := 77) (by decide +kernel))) (by decide +kernel)
theorem fl_X8_16 : Fld RX8 16 8 2 := ⟨RX8, TX8, 23, "JokePumpModel", rfl, ly_X8, by decide, (Or.inl q4_77), rfl⟩
theorem fp_X8_16 : FldP RX8 16 8 2 .int := ⟨RX8, TX8, 23, "JokePumpModel", tyX8, rfl, ly_X8, tyX8_ok, nmX8, by decide, (Or.inl q4_77), rfl, rfl, by decide +kernel⟩
theorem q4_78 : Cond.fieldLink "JokePumpModel" 23 "JokePumpModel" "detailBehind" "I" ∈ lw_g := lw_gm (tin4 (List.mem_of_getElem? (i := 78) (by decide +kernel))) (by decide +kernel)
theorem fl_X8_23 : Fld RX8 23 8 3 := ⟨RX8, TX8, 23, "JokePumpModel", rfl, ly_X8, by decide, (Or.inl q4_78), rfl⟩
theorem fp_X8_23 : FldP RX8 23 8 3 .int := ⟨RX8, TX8, 23, "JokePumpModel", tyX8, rfl, ly_X8, tyX8_ok, nmX8, by decide, (Or.inl q4_78), rfl, rfl, by decide +kernel⟩
theorem q4_81 : Cond.fieldLink "JokePumpModel" 32 "JokePumpModel" "w" "[I" ∈ lw_g := lw_gm (tin4 (List.mem_of_getElem? (i := 81) (by decide +kernel))) (by decide +kernel)
theorem fl_X8_32 : Fld RX8 32 8 6 := ⟨RX8, TX8, 23, "JokePumpModel", rfl, ly_X8, by decide, (Or.inl q4_81), rfl⟩
theorem q4_82 : Cond.fieldLink "JokePumpModel" 36 "JokePumpModel" "undos" "[I" ∈ lw_g := lw_gm (tin4 (List.mem_of_getElem? (i := 82) (by decide +kernel))) (by decide +kernel)
theorem fl_X8_36 : Fld RX8 36 8 7 := ⟨RX8, TX8, 23, "JokePumpModel", rfl, ly_X8, by decide, (Or.inl q4_82), rfl⟩
theorem q4_83 : Cond.fieldLink "JokePumpModel" 39 "JokePumpModel" "savedRow" "[I" ∈ lw_g := lw_gm (tin4 (List.mem_of_getElem? (i := 83) (by decide +kernel))) (by decide +kernel)
theorem fl_X8_39 : Fld RX8 39 8 8 := ⟨RX8, TX8, 23, "JokePumpModel", rfl, ly_X8, by decide, (Or.inl q4_83), rfl⟩
theorem q4_84 : Cond.fieldLink "JokePumpModel" 42 "JokePumpModel" "mind" "[I" ∈ lw_g := lw_gm (tin4 (List.mem_of_getElem? (i := 84) (by decide +kernel))) (by decide +kernel)
theorem fl_X8_42 : Fld RX8 42 8 9 := ⟨RX8, TX8, 23, "JokePumpModel", rfl, ly_X8, by decide, (Or.inl q4_84), rfl⟩
theorem q4_85 : Cond.fieldLink "JokePumpModel" 45 "JokePumpModel" "ahead" "[I" ∈ lw_g := lw_gm (tin4 (List.mem_of_getElem? (i := 85) (by decide +kernel))) (by decide +kernel)
theorem fl_X8_45 : Fld RX8 45 8 10 := ⟨RX8, TX8, 23, "JokePumpModel", rfl, ly_X8, by decide, (Or.inl q4_85), rfl⟩
theorem q4_89 : Cond.fieldLink "JokePumpModel" 48 "JokePumpModel" "line" "[C" ∈ lw_g := lw_gm (tin4 (List.mem_of_getElem? (i := 89) (by decide +kernel))) (by decide +kernel)
theorem fl_X8_48 : Fld RX8 48 8 14 := ⟨RX8, TX8, 23, "JokePumpModel", rfl, ly_X8, by decide, (Or.inl q4_89), rfl⟩
theorem q4_91 : Cond.fieldLink "JokePumpModel" 52 "JokePumpModel" "input" "[C" ∈ lw_g := lw_gm (tin4 (List.mem_of_getElem? (i := 91) (by decide +kernel))) (by decide +kernel)
theorem fl_X8_52 : Fld RX8 52 8 16 := ⟨RX8, TX8, 23, "JokePumpModel", rfl, ly_X8, by decide, (Or.inl q4_91), rfl⟩
theorem q4_94 : Cond.fieldLink "JokePumpModel" 55 "JokePumpModel" "faultAt" "I" ∈ lw_g := lw_gm (tin4 (List.mem_of_getElem? (i := 94) (by decide +kernel))) (by decide +kernel)
theorem fl_X8_55 : Fld RX8 55 8 19 := ⟨RX8, TX8, 23, "JokePumpModel", rfl, ly_X8, by decide, (Or.inl q4_94), rfl⟩
theorem fp_X8_55 : FldP RX8 55 8 19 .int := ⟨RX8, TX8, 23, "JokePumpModel", tyX8, rfl, ly_X8, tyX8_ok, nmX8, by decide, (Or.inl q4_94), rfl, rfl, by decide +kernel⟩
theorem q4_95 : Cond.fieldLink "JokePumpModel" 58 "JokePumpModel" "numbers" "[I" ∈ lw_g := lw_gm (tin4 (List.mem_of_getElem? (i := 95) (by decide +kernel))) (by decide +kernel)
theorem fl_X8_58 : Fld RX8 58 8 20 := ⟨RX8, TX8, 23, "JokePumpModel", rfl, ly_X8, by decide, (Or.inl q4_95), rfl⟩
theorem q4_86 : Cond.fieldLink "JokePumpModel" 61 "JokePumpModel" "changes" "I" ∈ lw_g := lw_gm (tin4 (List.mem_of_getElem? (i := 86) (by decide +kernel))) (by decide +kernel)
theorem fl_X8_61 : Fld RX8 61 8 11 := ⟨RX8, TX8, 23, "JokePumpModel", rfl, ly_X8, by decide, (Or.inl q4_86), rfl⟩
theorem fp_X8_61 : FldP RX8 61 8 11 .int := ⟨RX8, TX8, 23, "JokePumpModel", tyX8, rfl, ly_X8, tyX8_ok, nmX8, by decide, (Or.inl q4_86), rfl, rfl, by decide +kernel⟩
theorem q4_87 : Cond.fieldLink "JokePumpModel" 64 "JokePumpModel" "firstChange" "I" ∈ lw_g := lw_gm (tin4 (List.mem_of_getElem? (i := 87) (by decide +kernel))) (by decide +kernel)
theorem fl_X8_64 : Fld RX8 64 8 12 := ⟨RX8, TX8, 23, "JokePumpModel", rfl, ly_X8, by decide, (Or.inl q4_87), rfl⟩
theorem fp_X8_64 : FldP RX8 64 8 12 .int := ⟨RX8, TX8, 23, "JokePumpModel", tyX8, rfl, ly_X8, tyX8_ok, nmX8, by decide, (Or.inl q4_87), rfl, rfl, by decide +kernel⟩
theorem q4_92 : Cond.fieldLink "JokePumpModel" 218 "JokePumpModel" "inputMany" "I" ∈ lw_g := lw_gm (tin4 (List.mem_of_getElem? (i := 92) (by decide +kernel))) (by decide +kernel)
theorem fl_X8_218 : Fld RX8 218 8 17 := ⟨RX8, TX8, 23, "JokePumpModel", rfl, ly_X8, by decide, (Or.inl q4_92), rfl⟩
theorem fp_X8_218 : FldP RX8 218 8 17 .int := ⟨RX8, TX8, 23, "JokePumpModel", tyX8, rfl, ly_X8, tyX8_ok, nmX8, by decide, (Or.inl q4_92), rfl, rfl, by decide +kernel⟩
theorem q4_90 : Cond.fieldLink "JokePumpModel" 221 "JokePumpModel" "lineLength" "I" ∈ lw_g := lw_gm (tin4 (List.mem_of_getElem? (i := 90) (by decide +kernel))) (by decide +kernel)
theorem fl_X8_221 : Fld RX8 221 8 15 := ⟨RX8, TX8, 23, "JokePumpModel", rfl, ly_X8, by decide, (Or.inl q4_90), rfl⟩
theorem fp_X8_221 : FldP RX8 221 8 15 .int := ⟨RX8, TX8, 23, "JokePumpModel", tyX8, rfl, ly_X8, tyX8_ok, nmX8, by decide, (Or.inl q4_90), rfl, rfl, by decide +kernel⟩
theorem q4_93 : Cond.fieldLink "JokePumpModel" 233 "JokePumpModel" "inputAt" "I" ∈ lw_g := lw_gm (tin4 (List.mem_of_getElem? (i := 93) (by decide +kernel))) (by decide +kernel)
theorem fl_X8_233 : Fld RX8 233 8 18 := ⟨RX8, TX8, 23, "JokePumpModel", rfl, ly_X8, by decide, (Or.inl q4_93), rfl⟩
theorem fp_X8_233 : FldP RX8 233 8 18 .int := ⟨RX8, TX8, 23, "JokePumpModel", tyX8, rfl, ly_X8, tyX8_ok, nmX8, by decide, (Or.inl q4_93), rfl, rfl, by decide +kernel⟩
theorem q4_96 : Cond.fieldLink "JokePumpModel" 248 "JokePumpModel" "sort" "I" ∈ lw_g := lw_gm (tin4 (List.mem_of_getElem? (i := 96) (by decide +kernel))) (by decide +kernel)
theorem fl_X8_248 : Fld RX8 248 8 21 := ⟨RX8, TX8, 23, "JokePumpModel", rfl, ly_X8, by decide, (Or.inl q4_96), rfl⟩
theorem fp_X8_248 : FldP RX8 248 8 21 .int := ⟨RX8, TX8, 23, "JokePumpModel", tyX8, rfl, ly_X8, tyX8_ok, nmX8, by decide, (Or.inl q4_96), rfl, rfl, by decide +kernel⟩
theorem q4_97 : Cond.fieldLink "JokePumpModel" 270 "JokePumpModel" "done" "I" ∈ lw_g := lw_gm (tin4 (List.mem_of_getElem? (i := 97) (by decide +kernel))) (by decide +kernel)
theorem fl_X8_270 : Fld RX8 270 8 22 := ⟨RX8, TX8, 23, "JokePumpModel", rfl, ly_X8, by decide, (Or.inl q4_97), rfl⟩
theorem fp_X8_270 : FldP RX8 270 8 22 .int := ⟨RX8, TX8, 23, "JokePumpModel", tyX8, rfl, ly_X8, tyX8_ok, nmX8, by decide, (Or.inl q4_97), rfl, rfl, by decide +kernel⟩
theorem q4_88 : Cond.fieldLink "JokePumpModel" 291 "JokePumpModel" "isSaved" "Z" ∈ lw_g := lw_gm (tin4 (List.mem_of_getElem? (i := 88) (by decide +kernel))) (by decide +kernel)
theorem fl_X8_291 : Fld RX8 291 8 13 := ⟨RX8, TX8, 23, "JokePumpModel", rfl, ly_X8, by decide, (Or.inl q4_88), rfl⟩
theorem fp_X8_291 : FldP RX8 291 8 13 .boolean := ⟨RX8, TX8, 23, "JokePumpModel", tyX8, rfl, ly_X8, tyX8_ok, nmX8, by decide, (Or.inl q4_88), rfl, rfl, by decide +kernel⟩
theorem q2_22 : Cond.methodLink "JokePumpLaw" 13 ⟨"JokePump", "joke", "(IIII)I"⟩ ∈ lw_g := lw_gm (tin2 (List.mem_of_getElem? (i := 22) (by decide +kernel))) (by decide +kernel)
theorem q2_23 : Cond.instanceMethod ⟨"JokePump", "joke", "(IIII)I"⟩ ∈ lw_g := lw_gm (tin2 (List.mem_of_getElem? (i := 23) (by decide +kernel))) (by decide +kernel)
theorem q2_24 : Cond.selects "JokePump" ⟨"JokePump", "joke", "(IIII)I"⟩ ⟨"JokePump", "joke", "(IIII)I"⟩ ∈ lw_g := lw_gm (tin2 (List.mem_of_getElem? (i := 24) (by decide +kernel))) (by decide +kernel)
theorem q1_1 : Cond.initialized "JokePump" ∈ lw_g := lw_gm (tin1 (List.mem_of_getElem? (i := 1) (by decide +kernel))) (by decide +kernel)
theorem q2_25 : Cond.code ⟨"JokePump", "joke", "(IIII)I"⟩ prog_1_method_2_code 5 (some .int) ∈ lw_g := lw_gm (tin2 (List.mem_of_getElem? (i := 25) (by decide +kernel))) (by decide +kernel)
theorem lk_L_13 : LkV RL 13 yX7_joke cX7_joke 5 (some .int) 4 := LkV_of q2_22 q2_23 q2_24 q1_1 q2_25 ⟨by decide, by decide, by decide +kernel⟩
theorem q4_145 : Cond.methodLink "JokePumpLaw" 17 ⟨"JokePumpModel", "joke", "(IIII)I"⟩ ∈ lw_g := lw_gm (tin4 (List.mem_of_getElem? (i := 145) (by decide +kernel))) (by decide +kernel)
theorem q4_146 : Cond.instanceMethod ⟨"JokePumpModel", "joke", "(IIII)I"⟩ ∈ lw_g := lw_gm (tin4 (List.mem_of_getElem? (i := 146) (by decide +kernel))) (by decide +kernel)
theorem q4_147 : Cond.selects "JokePumpModel" ⟨"JokePumpModel", "joke", "(IIII)I"⟩ ⟨"JokePumpModel", "joke", "(IIII)I"⟩ ∈ lw_g := lw_gm (tin4 (List.mem_of_getElem? (i := 147) (by decide +kernel))) (by decide +kernel)
theorem q1_9 : Cond.initialized "JokePumpModel" ∈ lw_g := lw_gm (tin1 (List.mem_of_getElem? (i := 9) (by decide +kernel))) (by decide +kernel)
theorem q4_148 : Cond.code ⟨"JokePumpModel", "joke", "(IIII)I"⟩ prog_10_method_21_code 6 (some .int) ∈ lw_g := lw_gm (tin4 (List.mem_of_getElem? (i := 148) (by decide +kernel))) (by decide +kernel)
theorem lk_L_17 : LkV RL 17 yX8_joke cX8_joke 6 (some .int) 4 := LkV_of q4_145 q4_146 q4_147 q1_9 q4_148 ⟨by decide, by decide, by decide +kernel⟩
theorem q2_105 : Cond.methodLink "JokePumpLaw" 18 ⟨"JokePump", "prime", "(I)I"⟩ ∈ lw_g := lw_gm (tin2 (List.mem_of_getElem? (i := 105) (by decide +kernel))) (by decide +kernel)
theorem q2_106 : Cond.instanceMethod ⟨"JokePump", "prime", "(I)I"⟩ ∈ lw_g := lw_gm (tin2 (List.mem_of_getElem? (i := 106) (by decide +kernel))) (by decide +kernel)
theorem q2_107 : Cond.selects "JokePump" ⟨"JokePump", "prime", "(I)I"⟩ ⟨"JokePump", "prime", "(I)I"⟩ ∈ lw_g := lw_gm (tin2 (List.mem_of_getElem? (i := 107) (by decide +kernel))) (by decide +kernel)
theorem q2_108 : Cond.code ⟨"JokePump", "prime", "(I)I"⟩ prog_1_method_3_code 2 (some .int) ∈ lw_g := lw_gm (tin2 (List.mem_of_getElem? (i := 108) (by decide +kernel))) (by decide +kernel)
theorem lk_L_18 : LkV RL 18 yX7_prime cX7_prime 2 (some .int) 1 := LkV_of q2_105 q2_106 q2_107 q1_1 q2_108 ⟨by decide, by decide, by decide +kernel⟩
theorem q4_200 : Cond.methodLink "JokePumpLaw" 22 ⟨"JokePumpModel", "prime", "(I)I"⟩ ∈ lw_g := lw_gm (tin4 (List.mem_of_getElem? (i := 200) (by decide +kernel))) (by decide +kernel)
theorem q4_201 : Cond.instanceMethod ⟨"JokePumpModel", "prime", "(I)I"⟩ ∈ lw_g := lw_gm (tin4 (List.mem_of_getElem? (i := 201) (by decide +kernel))) (by decide +kernel)
theorem q4_202 : Cond.selects "JokePumpModel" ⟨"JokePumpModel", "prime", "(I)I"⟩ ⟨"JokePumpModel", "prime", "(I)I"⟩ ∈ lw_g := lw_gm (tin4 (List.mem_of_getElem? (i := 202) (by decide +kernel))) (by decide +kernel)
theorem q4_203 : Cond.code ⟨"JokePumpModel", "prime", "(I)I"⟩ prog_10_method_24_code 3 (some .int) ∈ lw_g := lw_gm (tin4 (List.mem_of_getElem? (i := 203) (by decide +kernel))) (by decide +kernel)
theorem lk_L_22 : LkV RL 22 yX8_prime cX8_prime 3 (some .int) 1 := LkV_of q4_200 q4_201 q4_202 q1_9 q4_203 ⟨by decide, by decide, by decide +kernel⟩
theorem q2_118 : Cond.methodLink "JokePumpLaw" 23 ⟨"JokePump", "drop", "(I)I"⟩ ∈ lw_g := lw_gm (tin2 (List.mem_of_getElem? (i := 118) (by decide +kernel))) (by decide +kernel)
theorem q2_119 : Cond.instanceMethod ⟨"JokePump", "drop", "(I)I"⟩ ∈ lw_g := lw_gm (tin2 (List.mem_of_getElem? (i := 119) (by decide +kernel))) (by decide +kernel)
theorem q2_120 : Cond.selects "JokePump" ⟨"JokePump", "drop", "(I)I"⟩ ⟨"JokePump", "drop", "(I)I"⟩ ∈ lw_g := lw_gm (tin2 (List.mem_of_getElem? (i := 120) (by decide +kernel))) (by decide +kernel)
theorem q2_121 : Cond.code ⟨"JokePump", "drop", "(I)I"⟩ prog_1_method_4_code 2 (some .int) ∈ lw_g := lw_gm (tin2 (List.mem_of_getElem? (i := 121) (by decide +kernel))) (by decide +kernel)
theorem lk_L_23 : LkV RL 23 yX7_drop cX7_drop 2 (some .int) 1 := LkV_of q2_118 q2_119 q2_120 q1_1 q2_121 ⟨by decide, by decide, by decide +kernel⟩
theorem q4_216 : Cond.methodLink "JokePumpLaw" 26 ⟨"JokePumpModel", "drop", "(I)I"⟩ ∈ lw_g := lw_gm (tin4 (List.mem_of_getElem? (i := 216) (by decide +kernel))) (by decide +kernel)
theorem q4_217 : Cond.instanceMethod ⟨"JokePumpModel", "drop", "(I)I"⟩ ∈ lw_g := lw_gm (tin4 (List.mem_of_getElem? (i := 217) (by decide +kernel))) (by decide +kernel)
theorem q4_218 : Cond.selects "JokePumpModel" ⟨"JokePumpModel", "drop", "(I)I"⟩ ⟨"JokePumpModel", "drop", "(I)I"⟩ ∈ lw_g := lw_gm (tin4 (List.mem_of_getElem? (i := 218) (by decide +kernel))) (by decide +kernel)
theorem q4_219 : Cond.code ⟨"JokePumpModel", "drop", "(I)I"⟩ prog_10_method_28_code 3 (some .int) ∈ lw_g := lw_gm (tin4 (List.mem_of_getElem? (i := 219) (by decide +kernel))) (by decide +kernel)
theorem lk_L_26 : LkV RL 26 yX8_drop cX8_drop 3 (some .int) 1 := LkV_of q4_216 q4_217 q4_218 q1_9 q4_219 ⟨by decide, by decide, by decide +kernel⟩
theorem q2_135 : Cond.methodLink "JokePumpLaw" 27 ⟨"JokePump", "drain", "(I)I"⟩ ∈ lw_g := lw_gm (tin2 (List.mem_of_getElem? (i := 135) (by decide +kernel))) (by decide +kernel)
theorem q2_136 : Cond.instanceMethod ⟨"JokePump", "drain", "(I)I"⟩ ∈ lw_g := lw_gm (tin2 (List.mem_of_getElem? (i := 136) (by decide +kernel))) (by decide +kernel)
theorem q2_137 : Cond.selects "JokePump" ⟨"JokePump", "drain", "(I)I"⟩ ⟨"JokePump", "drain", "(I)I"⟩ ∈ lw_g := lw_gm (tin2 (List.mem_of_getElem? (i := 137) (by decide +kernel))) (by decide +kernel)
theorem q2_138 : Cond.code ⟨"JokePump", "drain", "(I)I"⟩ prog_1_method_5_code 2 (some .int) ∈ lw_g := lw_gm (tin2 (List.mem_of_getElem? (i := 138) (by decide +kernel))) (by decide +kernel)
theorem lk_L_27 : LkV RL 27 yX7_drain cX7_drain 2 (some .int) 1 := LkV_of q2_135 q2_136 q2_137 q1_1 q2_138 ⟨by decide, by decide, by decide +kernel⟩
theorem q4_232 : Cond.methodLink "JokePumpLaw" 30 ⟨"JokePumpModel", "drain", "(I)I"⟩ ∈ lw_g := lw_gm (tin4 (List.mem_of_getElem? (i := 232) (by decide +kernel))) (by decide +kernel)
theorem q4_233 : Cond.instanceMethod ⟨"JokePumpModel", "drain", "(I)I"⟩ ∈ lw_g := lw_gm (tin4 (List.mem_of_getElem? (i := 233) (by decide +kernel))) (by decide +kernel)
theorem q4_234 : Cond.selects "JokePumpModel" ⟨"JokePumpModel", "drain", "(I)I"⟩ ⟨"JokePumpModel", "drain", "(I)I"⟩ ∈ lw_g := lw_gm (tin4 (List.mem_of_getElem? (i := 234) (by decide +kernel))) (by decide +kernel)
theorem q4_235 : Cond.code ⟨"JokePumpModel", "drain", "(I)I"⟩ prog_10_method_31_code 3 (some .int) ∈ lw_g := lw_gm (tin4 (List.mem_of_getElem? (i := 235) (by decide +kernel))) (by decide +kernel)
theorem lk_L_30 : LkV RL 30 yX8_drain cX8_drain 3 (some .int) 1 := LkV_of q4_232 q4_233 q4_234 q1_9 q4_235 ⟨by decide, by decide, by decide +kernel⟩
theorem q2_144 : Cond.methodLink "JokePumpLaw" 31 ⟨"JokePump", "stroke", "(I)I"⟩ ∈ lw_g := lw_gm (tin2 (List.mem_of_getElem? (i := 144) (by decide +kernel))) (by decide +kernel)
theorem q2_145 : Cond.instanceMethod ⟨"JokePump", "stroke", "(I)I"⟩ ∈ lw_g := lw_gm (tin2 (List.mem_of_getElem? (i := 145) (by decide +kernel))) (by decide +kernel)
theorem q2_146 : Cond.selects "JokePump" ⟨"JokePump", "stroke", "(I)I"⟩ ⟨"JokePump", "stroke", "(I)I"⟩ ∈ lw_g := lw_gm (tin2 (List.mem_of_getElem? (i := 146) (by decide +kernel))) (by decide +kernel)
theorem q2_147 : Cond.code ⟨"JokePump", "stroke", "(I)I"⟩ prog_1_method_6_code 2 (some .int) ∈ lw_g := lw_gm (tin2 (List.mem_of_getElem? (i := 147) (by decide +kernel))) (by decide +kernel)
theorem lk_L_31 : LkV RL 31 yX7_stroke cX7_stroke 2 (some .int) 1 := LkV_of q2_144 q2_145 q2_146 q1_1 q2_147 ⟨by decide, by decide, by decide +kernel⟩
theorem q5_4 : Cond.methodLink "JokePumpLaw" 34 ⟨"JokePumpModel", "stroke", "(I)I"⟩ ∈ lw_g := lw_gm (tin5 (List.mem_of_getElem? (i := 4) (by decide +kernel))) (by decide +kernel)
theorem q5_5 : Cond.instanceMethod ⟨"JokePumpModel", "stroke", "(I)I"⟩ ∈ lw_g := lw_gm (tin5 (List.mem_of_getElem? (i := 5) (by decide +kernel))) (by decide +kernel)
theorem q5_6 : Cond.selects "JokePumpModel" ⟨"JokePumpModel", "stroke", "(I)I"⟩ ⟨"JokePumpModel", "stroke", "(I)I"⟩ ∈ lw_g := lw_gm (tin5 (List.mem_of_getElem? (i := 6) (by decide +kernel))) (by decide +kernel)
theorem q5_7 : Cond.code ⟨"JokePumpModel", "stroke", "(I)I"⟩ prog_10_method_34_code 3 (some .int) ∈ lw_g := lw_gm (tin5 (List.mem_of_getElem? (i := 7) (by decide +kernel))) (by decide +kernel)
theorem lk_L_34 : LkV RL 34 yX8_stroke cX8_stroke 3 (some .int) 1 := LkV_of q5_4 q5_5 q5_6 q1_9 q5_7 ⟨by decide, by decide, by decide +kernel⟩
theorem q2_152 : Cond.methodLink "JokePumpLaw" 35 ⟨"JokePump", "bucket", "(II)I"⟩ ∈ lw_g := lw_gm (tin2 (List.mem_of_getElem? (i := 152) (by decide +kernel))) (by decide +kernel)
theorem q2_153 : Cond.instanceMethod ⟨"JokePump", "bucket", "(II)I"⟩ ∈ lw_g := lw_gm (tin2 (List.mem_of_getElem? (i := 153) (by decide +kernel))) (by decide +kernel)
theorem q2_154 : Cond.selects "JokePump" ⟨"JokePump", "bucket", "(II)I"⟩ ⟨"JokePump", "bucket", "(II)I"⟩ ∈ lw_g := lw_gm (tin2 (List.mem_of_getElem? (i := 154) (by decide +kernel))) (by decide +kernel)
theorem q2_155 : Cond.code ⟨"JokePump", "bucket", "(II)I"⟩ prog_1_method_7_code 3 (some .int) ∈ lw_g := lw_gm (tin2 (List.mem_of_getElem? (i := 155) (by decide +kernel))) (by decide +kernel)
theorem lk_L_35 : LkV RL 35 yX7_bucket cX7_bucket 3 (some .int) 2 := LkV_of q2_152 q2_153 q2_154 q1_1 q2_155 ⟨by decide, by decide, by decide +kernel⟩
theorem q5_16 : Cond.methodLink "JokePumpLaw" 39 ⟨"JokePumpModel", "bucket", "(II)I"⟩ ∈ lw_g := lw_gm (tin5 (List.mem_of_getElem? (i := 16) (by decide +kernel))) (by decide +kernel)
theorem q5_17 : Cond.instanceMethod ⟨"JokePumpModel", "bucket", "(II)I"⟩ ∈ lw_g := lw_gm (tin5 (List.mem_of_getElem? (i := 17) (by decide +kernel))) (by decide +kernel)
theorem q5_18 : Cond.selects "JokePumpModel" ⟨"JokePumpModel", "bucket", "(II)I"⟩ ⟨"JokePumpModel", "bucket", "(II)I"⟩ ∈ lw_g := lw_gm (tin5 (List.mem_of_getElem? (i := 18) (by decide +kernel))) (by decide +kernel)
theorem q5_19 : Cond.code ⟨"JokePumpModel", "bucket", "(II)I"⟩ prog_10_method_36_code 4 (some .int) ∈ lw_g := lw_gm (tin5 (List.mem_of_getElem? (i := 19) (by decide +kernel))) (by decide +kernel)
theorem lk_L_39 : LkV RL 39 yX8_bucket cX8_bucket 4 (some .int) 2 := LkV_of q5_16 q5_17 q5_18 q1_9 q5_19 ⟨by decide, by decide, by decide +kernel⟩
theorem q2_160 : Cond.methodLink "JokePumpLaw" 40 ⟨"JokePump", "go", "(I)I"⟩ ∈ lw_g := lw_gm (tin2 (List.mem_of_getElem? (i := 160) (by decide +kernel))) (by decide +kernel)
theorem q2_161 : Cond.instanceMethod ⟨"JokePump", "go", "(I)I"⟩ ∈ lw_g := lw_gm (tin2 (List.mem_of_getElem? (i := 161) (by decide +kernel))) (by decide +kernel)
theorem q2_162 : Cond.selects "JokePump" ⟨"JokePump", "go", "(I)I"⟩ ⟨"JokePump", "go", "(I)I"⟩ ∈ lw_g := lw_gm (tin2 (List.mem_of_getElem? (i := 162) (by decide +kernel))) (by decide +kernel)
theorem q2_163 : Cond.code ⟨"JokePump", "go", "(I)I"⟩ prog_1_method_8_code 2 (some .int) ∈ lw_g := lw_gm (tin2 (List.mem_of_getElem? (i := 163) (by decide +kernel))) (by decide +kernel)
theorem lk_L_40 : LkV RL 40 yX7_go cX7_go 2 (some .int) 1 := LkV_of q2_160 q2_161 q2_162 q1_1 q2_163 ⟨by decide, by decide, by decide +kernel⟩
theorem q5_24 : Cond.methodLink "JokePumpLaw" 43 ⟨"JokePumpModel", "go", "(I)I"⟩ ∈ lw_g := lw_gm (tin5 (List.mem_of_getElem? (i := 24) (by decide +kernel))) (by decide +kernel)
theorem q5_25 : Cond.instanceMethod ⟨"JokePumpModel", "go", "(I)I"⟩ ∈ lw_g := lw_gm (tin5 (List.mem_of_getElem? (i := 25) (by decide +kernel))) (by decide +kernel)
theorem q5_26 : Cond.selects "JokePumpModel" ⟨"JokePumpModel", "go", "(I)I"⟩ ⟨"JokePumpModel", "go", "(I)I"⟩ ∈ lw_g := lw_gm (tin5 (List.mem_of_getElem? (i := 26) (by decide +kernel))) (by decide +kernel)
theorem q5_27 : Cond.code ⟨"JokePumpModel", "go", "(I)I"⟩ prog_10_method_39_code 3 (some .int) ∈ lw_g := lw_gm (tin5 (List.mem_of_getElem? (i := 27) (by decide +kernel))) (by decide +kernel)
theorem lk_L_43 : LkV RL 43 yX8_go cX8_go 3 (some .int) 1 := LkV_of q5_24 q5_25 q5_26 q1_9 q5_27 ⟨by decide, by decide, by decide +kernel⟩
theorem q2_168 : Cond.methodLink "JokePumpLaw" 44 ⟨"JokePump", "pump", "(I)I"⟩ ∈ lw_g := lw_gm (tin2 (List.mem_of_getElem? (i := 168) (by decide +kernel))) (by decide +kernel)
theorem q2_169 : Cond.instanceMethod ⟨"JokePump", "pump", "(I)I"⟩ ∈ lw_g := lw_gm (tin2 (List.mem_of_getElem? (i := 169) (by decide +kernel))) (by decide +kernel)
theorem q2_170 : Cond.selects "JokePump" ⟨"JokePump", "pump", "(I)I"⟩ ⟨"JokePump", "pump", "(I)I"⟩ ∈ lw_g := lw_gm (tin2 (List.mem_of_getElem? (i := 170) (by decide +kernel))) (by decide +kernel)
theorem q2_171 : Cond.code ⟨"JokePump", "pump", "(I)I"⟩ prog_1_method_9_code 2 (some .int) ∈ lw_g := lw_gm (tin2 (List.mem_of_getElem? (i := 171) (by decide +kernel))) (by decide +kernel)
theorem lk_L_44 : LkV RL 44 yX7_pump cX7_pump 2 (some .int) 1 := LkV_of q2_168 q2_169 q2_170 q1_1 q2_171 ⟨by decide, by decide, by decide +kernel⟩
theorem q5_36 : Cond.methodLink "JokePumpLaw" 47 ⟨"JokePumpModel", "pump", "(I)I"⟩ ∈ lw_g := lw_gm (tin5 (List.mem_of_getElem? (i := 36) (by decide +kernel))) (by decide +kernel)
theorem q5_37 : Cond.instanceMethod ⟨"JokePumpModel", "pump", "(I)I"⟩ ∈ lw_g := lw_gm (tin5 (List.mem_of_getElem? (i := 37) (by decide +kernel))) (by decide +kernel)
theorem q5_38 : Cond.selects "JokePumpModel" ⟨"JokePumpModel", "pump", "(I)I"⟩ ⟨"JokePumpModel", "pump", "(I)I"⟩ ∈ lw_g := lw_gm (tin5 (List.mem_of_getElem? (i := 38) (by decide +kernel))) (by decide +kernel)
theorem q5_39 : Cond.code ⟨"JokePumpModel", "pump", "(I)I"⟩ prog_10_method_46_code 3 (some .int) ∈ lw_g := lw_gm (tin5 (List.mem_of_getElem? (i := 39) (by decide +kernel))) (by decide +kernel)
theorem lk_L_47 : LkV RL 47 yX8_pump cX8_pump 3 (some .int) 1 := LkV_of q5_36 q5_37 q5_38 q1_9 q5_39 ⟨by decide, by decide, by decide +kernel⟩
theorem q3_110 : Cond.methodLink "JokePumpLaw" 48 ⟨"JokePump", "jokeOf", "(II)I"⟩ ∈ lw_g := lw_gm (tin3 (List.mem_of_getElem? (i := 110) (by decide +kernel))) (by decide +kernel)
theorem q3_111 : Cond.instanceMethod ⟨"JokePump", "jokeOf", "(II)I"⟩ ∈ lw_g := lw_gm (tin3 (List.mem_of_getElem? (i := 111) (by decide +kernel))) (by decide +kernel)
theorem q3_112 : Cond.selects "JokePump" ⟨"JokePump", "jokeOf", "(II)I"⟩ ⟨"JokePump", "jokeOf", "(II)I"⟩ ∈ lw_g := lw_gm (tin3 (List.mem_of_getElem? (i := 112) (by decide +kernel))) (by decide +kernel)
theorem q3_113 : Cond.code ⟨"JokePump", "jokeOf", "(II)I"⟩ prog_1_method_14_code 4 (some .int) ∈ lw_g := lw_gm (tin3 (List.mem_of_getElem? (i := 113) (by decide +kernel))) (by decide +kernel)
theorem lk_L_48 : LkV RL 48 yX7_jokeOf cX7_jokeOf 4 (some .int) 2 := LkV_of q3_110 q3_111 q3_112 q1_1 q3_113 ⟨by decide, by decide, by decide +kernel⟩
theorem q5_86 : Cond.methodLink "JokePumpLaw" 51 ⟨"JokePumpModel", "jokeOf", "(II)I"⟩ ∈ lw_g := lw_gm (tin5 (List.mem_of_getElem? (i := 86) (by decide +kernel))) (by decide +kernel)
theorem q5_87 : Cond.instanceMethod ⟨"JokePumpModel", "jokeOf", "(II)I"⟩ ∈ lw_g := lw_gm (tin5 (List.mem_of_getElem? (i := 87) (by decide +kernel))) (by decide +kernel)
theorem q5_88 : Cond.selects "JokePumpModel" ⟨"JokePumpModel", "jokeOf", "(II)I"⟩ ⟨"JokePumpModel", "jokeOf", "(II)I"⟩ ∈ lw_g := lw_gm (tin5 (List.mem_of_getElem? (i := 88) (by decide +kernel))) (by decide +kernel)
theorem q5_89 : Cond.code ⟨"JokePumpModel", "jokeOf", "(II)I"⟩ prog_10_method_47_code 3 (some .int) ∈ lw_g := lw_gm (tin5 (List.mem_of_getElem? (i := 89) (by decide +kernel))) (by decide +kernel)
theorem lk_L_51 : LkV RL 51 yX8_jokeOf cX8_jokeOf 3 (some .int) 2 := LkV_of q5_86 q5_87 q5_88 q1_9 q5_89 ⟨by decide, by decide, by decide +kernel⟩
theorem q3_115 : Cond.methodLink "JokePumpLaw" 52 ⟨"JokePump", "wellOf", "(II)I"⟩ ∈ lw_g := lw_gm (tin3 (List.mem_of_getElem? (i := 115) (by decide +kernel))) (by decide +kernel)
theorem q3_116 : Cond.instanceMethod ⟨"JokePump", "wellOf", "(II)I"⟩ ∈ lw_g := lw_gm (tin3 (List.mem_of_getElem? (i := 116) (by decide +kernel))) (by decide +kernel)
theorem q3_117 : Cond.selects "JokePump" ⟨"JokePump", "wellOf", "(II)I"⟩ ⟨"JokePump", "wellOf", "(II)I"⟩ ∈ lw_g := lw_gm (tin3 (List.mem_of_getElem? (i := 117) (by decide +kernel))) (by decide +kernel)
theorem q3_118 : Cond.code ⟨"JokePump", "wellOf", "(II)I"⟩ prog_1_method_15_code 3 (some .int) ∈ lw_g := lw_gm (tin3 (List.mem_of_getElem? (i := 118) (by decide +kernel))) (by decide +kernel)
theorem lk_L_52 : LkV RL 52 yX7_wellOf cX7_wellOf 3 (some .int) 2 := LkV_of q3_115 q3_116 q3_117 q1_1 q3_118 ⟨by decide, by decide, by decide +kernel⟩
theorem q5_90 : Cond.methodLink "JokePumpLaw" 55 ⟨"JokePumpModel", "wellOf", "(II)I"⟩ ∈ lw_g := lw_gm (tin5 (List.mem_of_getElem? (i := 90) (by decide +kernel))) (by decide +kernel)
theorem q5_91 : Cond.instanceMethod ⟨"JokePumpModel", "wellOf", "(II)I"⟩ ∈ lw_g := lw_gm (tin5 (List.mem_of_getElem? (i := 91) (by decide +kernel))) (by decide +kernel)
theorem q5_92 : Cond.selects "JokePumpModel" ⟨"JokePumpModel", "wellOf", "(II)I"⟩ ⟨"JokePumpModel", "wellOf", "(II)I"⟩ ∈ lw_g := lw_gm (tin5 (List.mem_of_getElem? (i := 92) (by decide +kernel))) (by decide +kernel)
theorem q5_93 : Cond.code ⟨"JokePumpModel", "wellOf", "(II)I"⟩ prog_10_method_48_code 3 (some .int) ∈ lw_g := lw_gm (tin5 (List.mem_of_getElem? (i := 93) (by decide +kernel))) (by decide +kernel)
theorem lk_L_55 : LkV RL 55 yX8_wellOf cX8_wellOf 3 (some .int) 2 := LkV_of q5_90 q5_91 q5_92 q1_9 q5_93 ⟨by decide, by decide, by decide +kernel⟩
theorem q3_129 : Cond.methodLink "JokePumpLaw" 56 ⟨"JokePump", "isKnown", "(I)I"⟩ ∈ lw_g := lw_gm (tin3 (List.mem_of_getElem? (i := 129) (by decide +kernel))) (by decide +kernel)
theorem q3_130 : Cond.instanceMethod ⟨"JokePump", "isKnown", "(I)I"⟩ ∈ lw_g := lw_gm (tin3 (List.mem_of_getElem? (i := 130) (by decide +kernel))) (by decide +kernel)
theorem q3_131 : Cond.selects "JokePump" ⟨"JokePump", "isKnown", "(I)I"⟩ ⟨"JokePump", "isKnown", "(I)I"⟩ ∈ lw_g := lw_gm (tin3 (List.mem_of_getElem? (i := 131) (by decide +kernel))) (by decide +kernel)
theorem q3_132 : Cond.code ⟨"JokePump", "isKnown", "(I)I"⟩ prog_1_method_16_code 2 (some .int) ∈ lw_g := lw_gm (tin3 (List.mem_of_getElem? (i := 132) (by decide +kernel))) (by decide +kernel)
theorem lk_L_56 : LkV RL 56 yX7_isKnown cX7_isKnown 2 (some .int) 1 := LkV_of q3_129 q3_130 q3_131 q1_1 q3_132 ⟨by decide, by decide, by decide +kernel⟩
theorem q5_94 : Cond.methodLink "JokePumpLaw" 59 ⟨"JokePumpModel", "isKnown", "(I)I"⟩ ∈ lw_g := lw_gm (tin5 (List.mem_of_getElem? (i := 94) (by decide +kernel))) (by decide +kernel)
theorem q5_95 : Cond.instanceMethod ⟨"JokePumpModel", "isKnown", "(I)I"⟩ ∈ lw_g := lw_gm (tin5 (List.mem_of_getElem? (i := 95) (by decide +kernel))) (by decide +kernel)
theorem q5_96 : Cond.selects "JokePumpModel" ⟨"JokePumpModel", "isKnown", "(I)I"⟩ ⟨"JokePumpModel", "isKnown", "(I)I"⟩ ∈ lw_g := lw_gm (tin5 (List.mem_of_getElem? (i := 96) (by decide +kernel))) (by decide +kernel)
theorem q5_97 : Cond.code ⟨"JokePumpModel", "isKnown", "(I)I"⟩ prog_10_method_49_code 2 (some .int) ∈ lw_g := lw_gm (tin5 (List.mem_of_getElem? (i := 97) (by decide +kernel))) (by decide +kernel)
theorem lk_L_59 : LkV RL 59 yX8_isKnown cX8_isKnown 2 (some .int) 1 := LkV_of q5_94 q5_95 q5_96 q1_9 q5_97 ⟨by decide, by decide, by decide +kernel⟩
theorem q3_170 : Cond.methodLink "JokePumpLaw" 60 ⟨"JokePump", "laughBits", "(II)I"⟩ ∈ lw_g := lw_gm (tin3 (List.mem_of_getElem? (i := 170) (by decide +kernel))) (by decide +kernel)
theorem q3_171 : Cond.instanceMethod ⟨"JokePump", "laughBits", "(II)I"⟩ ∈ lw_g := lw_gm (tin3 (List.mem_of_getElem? (i := 171) (by decide +kernel))) (by decide +kernel)
theorem q3_172 : Cond.selects "JokePump" ⟨"JokePump", "laughBits", "(II)I"⟩ ⟨"JokePump", "laughBits", "(II)I"⟩ ∈ lw_g := lw_gm (tin3 (List.mem_of_getElem? (i := 172) (by decide +kernel))) (by decide +kernel)
theorem q3_173 : Cond.code ⟨"JokePump", "laughBits", "(II)I"⟩ prog_1_method_21_code 3 (some .int) ∈ lw_g := lw_gm (tin3 (List.mem_of_getElem? (i := 173) (by decide +kernel))) (by decide +kernel)
theorem lk_L_60 : LkV RL 60 yX7_laughBits cX7_laughBits 3 (some .int) 2 := LkV_of q3_170 q3_171 q3_172 q1_1 q3_173 ⟨by decide, by decide, by decide +kernel⟩
theorem q5_98 : Cond.methodLink "JokePumpLaw" 63 ⟨"JokePumpModel", "laughBits", "(II)I"⟩ ∈ lw_g := lw_gm (tin5 (List.mem_of_getElem? (i := 98) (by decide +kernel))) (by decide +kernel)
theorem q5_99 : Cond.instanceMethod ⟨"JokePumpModel", "laughBits", "(II)I"⟩ ∈ lw_g := lw_gm (tin5 (List.mem_of_getElem? (i := 99) (by decide +kernel))) (by decide +kernel)
theorem q5_100 : Cond.selects "JokePumpModel" ⟨"JokePumpModel", "laughBits", "(II)I"⟩ ⟨"JokePumpModel", "laughBits", "(II)I"⟩ ∈ lw_g := lw_gm (tin5 (List.mem_of_getElem? (i := 100) (by decide +kernel))) (by decide +kernel)
theorem q5_101 : Cond.code ⟨"JokePumpModel", "laughBits", "(II)I"⟩ prog_10_method_50_code 3 (some .int) ∈ lw_g := lw_gm (tin5 (List.mem_of_getElem? (i := 101) (by decide +kernel))) (by decide +kernel)
theorem lk_L_63 : LkV RL 63 yX8_laughBits cX8_laughBits 3 (some .int) 2 := LkV_of q5_98 q5_99 q5_100 q1_9 q5_101 ⟨by decide, by decide, by decide +kernel⟩
theorem q3_178 : Cond.methodLink "JokePumpLaw" 64 ⟨"JokePump", "laughs", "()F"⟩ ∈ lw_g := lw_gm (tin3 (List.mem_of_getElem? (i := 178) (by decide +kernel))) (by decide +kernel)
theorem q3_179 : Cond.instanceMethod ⟨"JokePump", "laughs", "()F"⟩ ∈ lw_g := lw_gm (tin3 (List.mem_of_getElem? (i := 179) (by decide +kernel))) (by decide +kernel)
theorem q3_180 : Cond.selects "JokePump" ⟨"JokePump", "laughs", "()F"⟩ ⟨"JokePump", "laughs", "()F"⟩ ∈ lw_g := lw_gm (tin3 (List.mem_of_getElem? (i := 180) (by decide +kernel))) (by decide +kernel)
theorem q3_181 : Cond.code ⟨"JokePump", "laughs", "()F"⟩ prog_1_method_22_code 1 (some .float) ∈ lw_g := lw_gm (tin3 (List.mem_of_getElem? (i := 181) (by decide +kernel))) (by decide +kernel)
theorem lk_L_64 : LkV RL 64 yX7_laughs cX7_laughs 1 (some .float) 0 := LkV_of q3_178 q3_179 q3_180 q1_1 q3_181 ⟨by decide, by decide, by decide +kernel⟩
theorem q5_102 : Cond.methodLink "JokePumpLaw" 68 ⟨"JokePumpModel", "laughs", "()F"⟩ ∈ lw_g := lw_gm (tin5 (List.mem_of_getElem? (i := 102) (by decide +kernel))) (by decide +kernel)
theorem q5_103 : Cond.instanceMethod ⟨"JokePumpModel", "laughs", "()F"⟩ ∈ lw_g := lw_gm (tin5 (List.mem_of_getElem? (i := 103) (by decide +kernel))) (by decide +kernel)
theorem q5_104 : Cond.selects "JokePumpModel" ⟨"JokePumpModel", "laughs", "()F"⟩ ⟨"JokePumpModel", "laughs", "()F"⟩ ∈ lw_g := lw_gm (tin5 (List.mem_of_getElem? (i := 104) (by decide +kernel))) (by decide +kernel)
theorem q5_105 : Cond.code ⟨"JokePumpModel", "laughs", "()F"⟩ prog_10_method_51_code 1 (some .float) ∈ lw_g := lw_gm (tin5 (List.mem_of_getElem? (i := 105) (by decide +kernel))) (by decide +kernel)
theorem lk_L_68 : LkV RL 68 yX8_laughs cX8_laughs 1 (some .float) 0 := LkV_of q5_102 q5_103 q5_104 q1_9 q5_105 ⟨by decide, by decide, by decide +kernel⟩
theorem q3_182 : Cond.methodLink "JokePumpLaw" 69 ⟨"JokePump", "laughsAgain", "()F"⟩ ∈ lw_g := lw_gm (tin3 (List.mem_of_getElem? (i := 182) (by decide +kernel))) (by decide +kernel)
theorem q3_183 : Cond.instanceMethod ⟨"JokePump", "laughsAgain", "()F"⟩ ∈ lw_g := lw_gm (tin3 (List.mem_of_getElem? (i := 183) (by decide +kernel))) (by decide +kernel)
theorem q3_184 : Cond.selects "JokePump" ⟨"JokePump", "laughsAgain", "()F"⟩ ⟨"JokePump", "laughsAgain", "()F"⟩ ∈ lw_g := lw_gm (tin3 (List.mem_of_getElem? (i := 184) (by decide +kernel))) (by decide +kernel)
theorem q3_185 : Cond.code ⟨"JokePump", "laughsAgain", "()F"⟩ prog_1_method_23_code 1 (some .float) ∈ lw_g := lw_gm (tin3 (List.mem_of_getElem? (i := 185) (by decide +kernel))) (by decide +kernel)
theorem lk_L_69 : LkV RL 69 yX7_laughsAgain cX7_laughsAgain 1 (some .float) 0 := LkV_of q3_182 q3_183 q3_184 q1_1 q3_185 ⟨by decide, by decide, by decide +kernel⟩
theorem q5_106 : Cond.methodLink "JokePumpLaw" 72 ⟨"JokePumpModel", "laughsAgain", "()F"⟩ ∈ lw_g := lw_gm (tin5 (List.mem_of_getElem? (i := 106) (by decide +kernel))) (by decide +kernel)
theorem q5_107 : Cond.instanceMethod ⟨"JokePumpModel", "laughsAgain", "()F"⟩ ∈ lw_g := lw_gm (tin5 (List.mem_of_getElem? (i := 107) (by decide +kernel))) (by decide +kernel)
theorem q5_108 : Cond.selects "JokePumpModel" ⟨"JokePumpModel", "laughsAgain", "()F"⟩ ⟨"JokePumpModel", "laughsAgain", "()F"⟩ ∈ lw_g := lw_gm (tin5 (List.mem_of_getElem? (i := 108) (by decide +kernel))) (by decide +kernel)
theorem q5_109 : Cond.code ⟨"JokePumpModel", "laughsAgain", "()F"⟩ prog_10_method_52_code 3 (some .float) ∈ lw_g := lw_gm (tin5 (List.mem_of_getElem? (i := 109) (by decide +kernel))) (by decide +kernel)
theorem lk_L_72 : LkV RL 72 yX8_laughsAgain cX8_laughsAgain 3 (some .float) 0 := LkV_of q5_106 q5_107 q5_108 q1_9 q5_109 ⟨by decide, by decide, by decide +kernel⟩
theorem q3_194 : Cond.methodLink "JokePumpLaw" 73 ⟨"JokePump", "wholeLaughs", "()I"⟩ ∈ lw_g := lw_gm (tin3 (List.mem_of_getElem? (i := 194) (by decide +kernel))) (by decide +kernel)
theorem q3_195 : Cond.instanceMethod ⟨"JokePump", "wholeLaughs", "()I"⟩ ∈ lw_g := lw_gm (tin3 (List.mem_of_getElem? (i := 195) (by decide +kernel))) (by decide +kernel)
theorem q3_196 : Cond.selects "JokePump" ⟨"JokePump", "wholeLaughs", "()I"⟩ ⟨"JokePump", "wholeLaughs", "()I"⟩ ∈ lw_g := lw_gm (tin3 (List.mem_of_getElem? (i := 196) (by decide +kernel))) (by decide +kernel)
theorem q3_197 : Cond.code ⟨"JokePump", "wholeLaughs", "()I"⟩ prog_1_method_24_code 1 (some .int) ∈ lw_g := lw_gm (tin3 (List.mem_of_getElem? (i := 197) (by decide +kernel))) (by decide +kernel)
theorem lk_L_73 : LkV RL 73 yX7_wholeLaughs cX7_wholeLaughs 1 (some .int) 0 := LkV_of q3_194 q3_195 q3_196 q1_1 q3_197 ⟨by decide, by decide, by decide +kernel⟩
theorem q5_110 : Cond.methodLink "JokePumpLaw" 77 ⟨"JokePumpModel", "wholeLaughs", "()I"⟩ ∈ lw_g := lw_gm (tin5 (List.mem_of_getElem? (i := 110) (by decide +kernel))) (by decide +kernel)
theorem q5_111 : Cond.instanceMethod ⟨"JokePumpModel", "wholeLaughs", "()I"⟩ ∈ lw_g := lw_gm (tin5 (List.mem_of_getElem? (i := 111) (by decide +kernel))) (by decide +kernel)
theorem q5_112 : Cond.selects "JokePumpModel" ⟨"JokePumpModel", "wholeLaughs", "()I"⟩ ⟨"JokePumpModel", "wholeLaughs", "()I"⟩ ∈ lw_g := lw_gm (tin5 (List.mem_of_getElem? (i := 112) (by decide +kernel))) (by decide +kernel)
theorem q5_113 : Cond.code ⟨"JokePumpModel", "wholeLaughs", "()I"⟩ prog_10_method_53_code 1 (some .int) ∈ lw_g := lw_gm (tin5 (List.mem_of_getElem? (i := 113) (by decide +kernel))) (by decide +kernel)
theorem lk_L_77 : LkV RL 77 yX8_wholeLaughs cX8_wholeLaughs 1 (some .int) 0 := LkV_of q5_110 q5_111 q5_112 q1_9 q5_113 ⟨by decide, by decide, by decide +kernel⟩
theorem q3_198 : Cond.methodLink "JokePumpLaw" 78 ⟨"JokePump", "liftedOf", "(II)I"⟩ ∈ lw_g := lw_gm (tin3 (List.mem_of_getElem? (i := 198) (by decide +kernel))) (by decide +kernel)
theorem q3_199 : Cond.instanceMethod ⟨"JokePump", "liftedOf", "(II)I"⟩ ∈ lw_g := lw_gm (tin3 (List.mem_of_getElem? (i := 199) (by decide +kernel))) (by decide +kernel)
theorem q3_200 : Cond.selects "JokePump" ⟨"JokePump", "liftedOf", "(II)I"⟩ ⟨"JokePump", "liftedOf", "(II)I"⟩ ∈ lw_g := lw_gm (tin3 (List.mem_of_getElem? (i := 200) (by decide +kernel))) (by decide +kernel)
theorem q3_201 : Cond.code ⟨"JokePump", "liftedOf", "(II)I"⟩ prog_1_method_25_code 5 (some .int) ∈ lw_g := lw_gm (tin3 (List.mem_of_getElem? (i := 201) (by decide +kernel))) (by decide +kernel)
theorem lk_L_78 : LkV RL 78 yX7_liftedOf cX7_liftedOf 5 (some .int) 2 := LkV_of q3_198 q3_199 q3_200 q1_1 q3_201 ⟨by decide, by decide, by decide +kernel⟩
theorem q5_115 : Cond.methodLink "JokePumpLaw" 81 ⟨"JokePumpModel", "liftedOf", "(II)I"⟩ ∈ lw_g := lw_gm (tin5 (List.mem_of_getElem? (i := 115) (by decide +kernel))) (by decide +kernel)
theorem q5_116 : Cond.instanceMethod ⟨"JokePumpModel", "liftedOf", "(II)I"⟩ ∈ lw_g := lw_gm (tin5 (List.mem_of_getElem? (i := 116) (by decide +kernel))) (by decide +kernel)
theorem q5_117 : Cond.selects "JokePumpModel" ⟨"JokePumpModel", "liftedOf", "(II)I"⟩ ⟨"JokePumpModel", "liftedOf", "(II)I"⟩ ∈ lw_g := lw_gm (tin5 (List.mem_of_getElem? (i := 117) (by decide +kernel))) (by decide +kernel)
theorem q5_118 : Cond.code ⟨"JokePumpModel", "liftedOf", "(II)I"⟩ prog_10_method_54_code 3 (some .int) ∈ lw_g := lw_gm (tin5 (List.mem_of_getElem? (i := 118) (by decide +kernel))) (by decide +kernel)
theorem lk_L_81 : LkV RL 81 yX8_liftedOf cX8_liftedOf 3 (some .int) 2 := LkV_of q5_115 q5_116 q5_117 q1_9 q5_118 ⟨by decide, by decide, by decide +kernel⟩
theorem q3_212 : Cond.methodLink "JokePumpLaw" 82 ⟨"JokePump", "strokes", "(I)I"⟩ ∈ lw_g := lw_gm (tin3 (List.mem_of_getElem? (i := 212) (by decide +kernel))) (by decide +kernel)
theorem q3_213 : Cond.instanceMethod ⟨"JokePump", "strokes", "(I)I"⟩ ∈ lw_g := lw_gm (tin3 (List.mem_of_getElem? (i := 213) (by decide +kernel))) (by decide +kernel)
theorem q3_214 : Cond.selects "JokePump" ⟨"JokePump", "strokes", "(I)I"⟩ ⟨"JokePump", "strokes", "(I)I"⟩ ∈ lw_g := lw_gm (tin3 (List.mem_of_getElem? (i := 214) (by decide +kernel))) (by decide +kernel)
theorem q3_215 : Cond.code ⟨"JokePump", "strokes", "(I)I"⟩ prog_1_method_27_code 5 (some .int) ∈ lw_g := lw_gm (tin3 (List.mem_of_getElem? (i := 215) (by decide +kernel))) (by decide +kernel)
theorem lk_L_82 : LkV RL 82 yX7_strokes cX7_strokes 5 (some .int) 1 := LkV_of q3_212 q3_213 q3_214 q1_1 q3_215 ⟨by decide, by decide, by decide +kernel⟩
theorem q5_119 : Cond.methodLink "JokePumpLaw" 85 ⟨"JokePumpModel", "strokes", "(I)I"⟩ ∈ lw_g := lw_gm (tin5 (List.mem_of_getElem? (i := 119) (by decide +kernel))) (by decide +kernel)
theorem q5_120 : Cond.instanceMethod ⟨"JokePumpModel", "strokes", "(I)I"⟩ ∈ lw_g := lw_gm (tin5 (List.mem_of_getElem? (i := 120) (by decide +kernel))) (by decide +kernel)
theorem q5_121 : Cond.selects "JokePumpModel" ⟨"JokePumpModel", "strokes", "(I)I"⟩ ⟨"JokePumpModel", "strokes", "(I)I"⟩ ∈ lw_g := lw_gm (tin5 (List.mem_of_getElem? (i := 121) (by decide +kernel))) (by decide +kernel)
theorem q5_122 : Cond.code ⟨"JokePumpModel", "strokes", "(I)I"⟩ prog_10_method_55_code 4 (some .int) ∈ lw_g := lw_gm (tin5 (List.mem_of_getElem? (i := 122) (by decide +kernel))) (by decide +kernel)
theorem lk_L_85 : LkV RL 85 yX8_strokes cX8_strokes 4 (some .int) 1 := LkV_of q5_119 q5_120 q5_121 q1_9 q5_122 ⟨by decide, by decide, by decide +kernel⟩
theorem q3_217 : Cond.methodLink "JokePumpLaw" 86 ⟨"JokePump", "strokesAgain", "(I)I"⟩ ∈ lw_g := lw_gm (tin3 (List.mem_of_getElem? (i := 217) (by decide +kernel))) (by decide +kernel)
theorem q3_218 : Cond.instanceMethod ⟨"JokePump", "strokesAgain", "(I)I"⟩ ∈ lw_g := lw_gm (tin3 (List.mem_of_getElem? (i := 218) (by decide +kernel))) (by decide +kernel)
theorem q3_219 : Cond.selects "JokePump" ⟨"JokePump", "strokesAgain", "(I)I"⟩ ⟨"JokePump", "strokesAgain", "(I)I"⟩ ∈ lw_g := lw_gm (tin3 (List.mem_of_getElem? (i := 219) (by decide +kernel))) (by decide +kernel)
theorem q3_220 : Cond.code ⟨"JokePump", "strokesAgain", "(I)I"⟩ prog_1_method_28_code 3 (some .int) ∈ lw_g := lw_gm (tin3 (List.mem_of_getElem? (i := 220) (by decide +kernel))) (by decide +kernel)
theorem lk_L_86 : LkV RL 86 yX7_strokesAgain cX7_strokesAgain 3 (some .int) 1 := LkV_of q3_217 q3_218 q3_219 q1_1 q3_220 ⟨by decide, by decide, by decide +kernel⟩
theorem q5_123 : Cond.methodLink "JokePumpLaw" 89 ⟨"JokePumpModel", "strokesAgain", "(I)I"⟩ ∈ lw_g := lw_gm (tin5 (List.mem_of_getElem? (i := 123) (by decide +kernel))) (by decide +kernel)
theorem q5_124 : Cond.instanceMethod ⟨"JokePumpModel", "strokesAgain", "(I)I"⟩ ∈ lw_g := lw_gm (tin5 (List.mem_of_getElem? (i := 124) (by decide +kernel))) (by decide +kernel)
theorem q5_125 : Cond.selects "JokePumpModel" ⟨"JokePumpModel", "strokesAgain", "(I)I"⟩ ⟨"JokePumpModel", "strokesAgain", "(I)I"⟩ ∈ lw_g := lw_gm (tin5 (List.mem_of_getElem? (i := 125) (by decide +kernel))) (by decide +kernel)
theorem q5_126 : Cond.code ⟨"JokePumpModel", "strokesAgain", "(I)I"⟩ prog_10_method_56_code 2 (some .int) ∈ lw_g := lw_gm (tin5 (List.mem_of_getElem? (i := 126) (by decide +kernel))) (by decide +kernel)
theorem lk_L_89 : LkV RL 89 yX8_strokesAgain cX8_strokesAgain 2 (some .int) 1 := LkV_of q5_123 q5_124 q5_125 q1_9 q5_126 ⟨by decide, by decide, by decide +kernel⟩
theorem q3_221 : Cond.methodLink "JokePumpLaw" 90 ⟨"JokePump", "would", "(I)I"⟩ ∈ lw_g := lw_gm (tin3 (List.mem_of_getElem? (i := 221) (by decide +kernel))) (by decide +kernel)
theorem q3_222 : Cond.instanceMethod ⟨"JokePump", "would", "(I)I"⟩ ∈ lw_g := lw_gm (tin3 (List.mem_of_getElem? (i := 222) (by decide +kernel))) (by decide +kernel)
theorem q3_223 : Cond.selects "JokePump" ⟨"JokePump", "would", "(I)I"⟩ ⟨"JokePump", "would", "(I)I"⟩ ∈ lw_g := lw_gm (tin3 (List.mem_of_getElem? (i := 223) (by decide +kernel))) (by decide +kernel)
theorem q3_224 : Cond.code ⟨"JokePump", "would", "(I)I"⟩ prog_1_method_29_code 7 (some .int) ∈ lw_g := lw_gm (tin3 (List.mem_of_getElem? (i := 224) (by decide +kernel))) (by decide +kernel)
theorem lk_L_90 : LkV RL 90 yX7_would cX7_would 7 (some .int) 1 := LkV_of q3_221 q3_222 q3_223 q1_1 q3_224 ⟨by decide, by decide, by decide +kernel⟩
theorem q5_128 : Cond.methodLink "JokePumpLaw" 93 ⟨"JokePumpModel", "would", "(I)I"⟩ ∈ lw_g := lw_gm (tin5 (List.mem_of_getElem? (i := 128) (by decide +kernel))) (by decide +kernel)
theorem q5_129 : Cond.instanceMethod ⟨"JokePumpModel", "would", "(I)I"⟩ ∈ lw_g := lw_gm (tin5 (List.mem_of_getElem? (i := 129) (by decide +kernel))) (by decide +kernel)
theorem q5_130 : Cond.selects "JokePumpModel" ⟨"JokePumpModel", "would", "(I)I"⟩ ⟨"JokePumpModel", "would", "(I)I"⟩ ∈ lw_g := lw_gm (tin5 (List.mem_of_getElem? (i := 130) (by decide +kernel))) (by decide +kernel)
theorem q5_131 : Cond.code ⟨"JokePumpModel", "would", "(I)I"⟩ prog_10_method_59_code 3 (some .int) ∈ lw_g := lw_gm (tin5 (List.mem_of_getElem? (i := 131) (by decide +kernel))) (by decide +kernel)
theorem lk_L_93 : LkV RL 93 yX8_would cX8_would 3 (some .int) 1 := LkV_of q5_128 q5_129 q5_130 q1_9 q5_131 ⟨by decide, by decide, by decide +kernel⟩
theorem q3_226 : Cond.methodLink "JokePumpLaw" 94 ⟨"JokePump", "groansIn", "(I)I"⟩ ∈ lw_g := lw_gm (tin3 (List.mem_of_getElem? (i := 226) (by decide +kernel))) (by decide +kernel)
theorem q3_227 : Cond.instanceMethod ⟨"JokePump", "groansIn", "(I)I"⟩ ∈ lw_g := lw_gm (tin3 (List.mem_of_getElem? (i := 227) (by decide +kernel))) (by decide +kernel)
theorem q3_228 : Cond.selects "JokePump" ⟨"JokePump", "groansIn", "(I)I"⟩ ⟨"JokePump", "groansIn", "(I)I"⟩ ∈ lw_g := lw_gm (tin3 (List.mem_of_getElem? (i := 228) (by decide +kernel))) (by decide +kernel)
theorem q3_229 : Cond.code ⟨"JokePump", "groansIn", "(I)I"⟩ prog_1_method_30_code 5 (some .int) ∈ lw_g := lw_gm (tin3 (List.mem_of_getElem? (i := 229) (by decide +kernel))) (by decide +kernel)
theorem lk_L_94 : LkV RL 94 yX7_groansIn cX7_groansIn 5 (some .int) 1 := LkV_of q3_226 q3_227 q3_228 q1_1 q3_229 ⟨by decide, by decide, by decide +kernel⟩
theorem q5_140 : Cond.methodLink "JokePumpLaw" 97 ⟨"JokePumpModel", "groansIn", "(I)I"⟩ ∈ lw_g := lw_gm (tin5 (List.mem_of_getElem? (i := 140) (by decide +kernel))) (by decide +kernel)
theorem q5_141 : Cond.instanceMethod ⟨"JokePumpModel", "groansIn", "(I)I"⟩ ∈ lw_g := lw_gm (tin5 (List.mem_of_getElem? (i := 141) (by decide +kernel))) (by decide +kernel)
theorem q5_142 : Cond.selects "JokePumpModel" ⟨"JokePumpModel", "groansIn", "(I)I"⟩ ⟨"JokePumpModel", "groansIn", "(I)I"⟩ ∈ lw_g := lw_gm (tin5 (List.mem_of_getElem? (i := 142) (by decide +kernel))) (by decide +kernel)
theorem q5_143 : Cond.code ⟨"JokePumpModel", "groansIn", "(I)I"⟩ prog_10_method_60_code 3 (some .int) ∈ lw_g := lw_gm (tin5 (List.mem_of_getElem? (i := 143) (by decide +kernel))) (by decide +kernel)
theorem lk_L_97 : LkV RL 97 yX8_groansIn cX8_groansIn 3 (some .int) 1 := LkV_of q5_140 q5_141 q5_142 q1_9 q5_143 ⟨by decide, by decide, by decide +kernel⟩
theorem q3_230 : Cond.methodLink "JokePumpLaw" 98 ⟨"JokePump", "bestStroke", "()I"⟩ ∈ lw_g := lw_gm (tin3 (List.mem_of_getElem? (i := 230) (by decide +kernel))) (by decide +kernel)
theorem q3_231 : Cond.instanceMethod ⟨"JokePump", "bestStroke", "()I"⟩ ∈ lw_g := lw_gm (tin3 (List.mem_of_getElem? (i := 231) (by decide +kernel))) (by decide +kernel)
theorem q3_232 : Cond.selects "JokePump" ⟨"JokePump", "bestStroke", "()I"⟩ ⟨"JokePump", "bestStroke", "()I"⟩ ∈ lw_g := lw_gm (tin3 (List.mem_of_getElem? (i := 232) (by decide +kernel))) (by decide +kernel)
theorem q3_233 : Cond.code ⟨"JokePump", "bestStroke", "()I"⟩ prog_1_method_31_code 4 (some .int) ∈ lw_g := lw_gm (tin3 (List.mem_of_getElem? (i := 233) (by decide +kernel))) (by decide +kernel)
theorem lk_L_98 : LkV RL 98 yX7_bestStroke cX7_bestStroke 4 (some .int) 0 := LkV_of q3_230 q3_231 q3_232 q1_1 q3_233 ⟨by decide, by decide, by decide +kernel⟩
theorem q5_144 : Cond.methodLink "JokePumpLaw" 101 ⟨"JokePumpModel", "bestStroke", "()I"⟩ ∈ lw_g := lw_gm (tin5 (List.mem_of_getElem? (i := 144) (by decide +kernel))) (by decide +kernel)
theorem q5_145 : Cond.instanceMethod ⟨"JokePumpModel", "bestStroke", "()I"⟩ ∈ lw_g := lw_gm (tin5 (List.mem_of_getElem? (i := 145) (by decide +kernel))) (by decide +kernel)
theorem q5_146 : Cond.selects "JokePumpModel" ⟨"JokePumpModel", "bestStroke", "()I"⟩ ⟨"JokePumpModel", "bestStroke", "()I"⟩ ∈ lw_g := lw_gm (tin5 (List.mem_of_getElem? (i := 146) (by decide +kernel))) (by decide +kernel)
theorem q5_147 : Cond.code ⟨"JokePumpModel", "bestStroke", "()I"⟩ prog_10_method_62_code 4 (some .int) ∈ lw_g := lw_gm (tin5 (List.mem_of_getElem? (i := 147) (by decide +kernel))) (by decide +kernel)
theorem lk_L_101 : LkV RL 101 yX8_bestStroke cX8_bestStroke 4 (some .int) 0 := LkV_of q5_144 q5_145 q5_146 q1_9 q5_147 ⟨by decide, by decide, by decide +kernel⟩
theorem q3_137 : Cond.methodLink "JokePumpLaw" 102 ⟨"JokePump", "funniest", "(I)I"⟩ ∈ lw_g := lw_gm (tin3 (List.mem_of_getElem? (i := 137) (by decide +kernel))) (by decide +kernel)
theorem q3_138 : Cond.instanceMethod ⟨"JokePump", "funniest", "(I)I"⟩ ∈ lw_g := lw_gm (tin3 (List.mem_of_getElem? (i := 138) (by decide +kernel))) (by decide +kernel)
theorem q3_139 : Cond.selects "JokePump" ⟨"JokePump", "funniest", "(I)I"⟩ ⟨"JokePump", "funniest", "(I)I"⟩ ∈ lw_g := lw_gm (tin3 (List.mem_of_getElem? (i := 139) (by decide +kernel))) (by decide +kernel)
theorem q3_140 : Cond.code ⟨"JokePump", "funniest", "(I)I"⟩ prog_1_method_18_code 3 (some .int) ∈ lw_g := lw_gm (tin3 (List.mem_of_getElem? (i := 140) (by decide +kernel))) (by decide +kernel)
theorem lk_L_102 : LkV RL 102 yX7_funniest cX7_funniest 3 (some .int) 1 := LkV_of q3_137 q3_138 q3_139 q1_1 q3_140 ⟨by decide, by decide, by decide +kernel⟩
theorem q5_152 : Cond.methodLink "JokePumpLaw" 105 ⟨"JokePumpModel", "funniest", "(I)I"⟩ ∈ lw_g := lw_gm (tin5 (List.mem_of_getElem? (i := 152) (by decide +kernel))) (by decide +kernel)
theorem q5_153 : Cond.instanceMethod ⟨"JokePumpModel", "funniest", "(I)I"⟩ ∈ lw_g := lw_gm (tin5 (List.mem_of_getElem? (i := 153) (by decide +kernel))) (by decide +kernel)
theorem q5_154 : Cond.selects "JokePumpModel" ⟨"JokePumpModel", "funniest", "(I)I"⟩ ⟨"JokePumpModel", "funniest", "(I)I"⟩ ∈ lw_g := lw_gm (tin5 (List.mem_of_getElem? (i := 154) (by decide +kernel))) (by decide +kernel)
theorem q5_155 : Cond.code ⟨"JokePumpModel", "funniest", "(I)I"⟩ prog_10_method_64_code 5 (some .int) ∈ lw_g := lw_gm (tin5 (List.mem_of_getElem? (i := 155) (by decide +kernel))) (by decide +kernel)
theorem lk_L_105 : LkV RL 105 yX8_funniest cX8_funniest 5 (some .int) 1 := LkV_of q5_152 q5_153 q5_154 q1_9 q5_155 ⟨by decide, by decide, by decide +kernel⟩
theorem q3_133 : Cond.methodLink "JokePumpLaw" 106 ⟨"JokePump", "inWell", "(II)I"⟩ ∈ lw_g := lw_gm (tin3 (List.mem_of_getElem? (i := 133) (by decide +kernel))) (by decide +kernel)
theorem q3_134 : Cond.instanceMethod ⟨"JokePump", "inWell", "(II)I"⟩ ∈ lw_g := lw_gm (tin3 (List.mem_of_getElem? (i := 134) (by decide +kernel))) (by decide +kernel)
theorem q3_135 : Cond.selects "JokePump" ⟨"JokePump", "inWell", "(II)I"⟩ ⟨"JokePump", "inWell", "(II)I"⟩ ∈ lw_g := lw_gm (tin3 (List.mem_of_getElem? (i := 135) (by decide +kernel))) (by decide +kernel)
theorem q3_136 : Cond.code ⟨"JokePump", "inWell", "(II)I"⟩ prog_1_method_17_code 3 (some .int) ∈ lw_g := lw_gm (tin3 (List.mem_of_getElem? (i := 136) (by decide +kernel))) (by decide +kernel)
theorem lk_L_106 : LkV RL 106 yX7_inWell cX7_inWell 3 (some .int) 2 := LkV_of q3_133 q3_134 q3_135 q1_1 q3_136 ⟨by decide, by decide, by decide +kernel⟩
theorem q5_160 : Cond.methodLink "JokePumpLaw" 109 ⟨"JokePumpModel", "inWell", "(II)I"⟩ ∈ lw_g := lw_gm (tin5 (List.mem_of_getElem? (i := 160) (by decide +kernel))) (by decide +kernel)
theorem q5_161 : Cond.instanceMethod ⟨"JokePumpModel", "inWell", "(II)I"⟩ ∈ lw_g := lw_gm (tin5 (List.mem_of_getElem? (i := 161) (by decide +kernel))) (by decide +kernel)
theorem q5_162 : Cond.selects "JokePumpModel" ⟨"JokePumpModel", "inWell", "(II)I"⟩ ⟨"JokePumpModel", "inWell", "(II)I"⟩ ∈ lw_g := lw_gm (tin5 (List.mem_of_getElem? (i := 162) (by decide +kernel))) (by decide +kernel)
theorem q5_163 : Cond.code ⟨"JokePumpModel", "inWell", "(II)I"⟩ prog_10_method_65_code 3 (some .int) ∈ lw_g := lw_gm (tin5 (List.mem_of_getElem? (i := 163) (by decide +kernel))) (by decide +kernel)
theorem lk_L_109 : LkV RL 109 yX8_inWell cX8_inWell 3 (some .int) 2 := LkV_of q5_160 q5_161 q5_162 q1_9 q5_163 ⟨by decide, by decide, by decide +kernel⟩
theorem q3_150 : Cond.methodLink "JokePumpLaw" 110 ⟨"JokePump", "fullest", "(I)I"⟩ ∈ lw_g := lw_gm (tin3 (List.mem_of_getElem? (i := 150) (by decide +kernel))) (by decide +kernel)
theorem q3_151 : Cond.instanceMethod ⟨"JokePump", "fullest", "(I)I"⟩ ∈ lw_g := lw_gm (tin3 (List.mem_of_getElem? (i := 151) (by decide +kernel))) (by decide +kernel)
theorem q3_152 : Cond.selects "JokePump" ⟨"JokePump", "fullest", "(I)I"⟩ ⟨"JokePump", "fullest", "(I)I"⟩ ∈ lw_g := lw_gm (tin3 (List.mem_of_getElem? (i := 152) (by decide +kernel))) (by decide +kernel)
theorem q3_153 : Cond.code ⟨"JokePump", "fullest", "(I)I"⟩ prog_1_method_19_code 3 (some .int) ∈ lw_g := lw_gm (tin3 (List.mem_of_getElem? (i := 153) (by decide +kernel))) (by decide +kernel)
theorem lk_L_110 : LkV RL 110 yX7_fullest cX7_fullest 3 (some .int) 1 := LkV_of q3_150 q3_151 q3_152 q1_1 q3_153 ⟨by decide, by decide, by decide +kernel⟩
theorem q5_164 : Cond.methodLink "JokePumpLaw" 113 ⟨"JokePumpModel", "fullest", "(I)I"⟩ ∈ lw_g := lw_gm (tin5 (List.mem_of_getElem? (i := 164) (by decide +kernel))) (by decide +kernel)
theorem q5_165 : Cond.instanceMethod ⟨"JokePumpModel", "fullest", "(I)I"⟩ ∈ lw_g := lw_gm (tin5 (List.mem_of_getElem? (i := 165) (by decide +kernel))) (by decide +kernel)
theorem q5_166 : Cond.selects "JokePumpModel" ⟨"JokePumpModel", "fullest", "(I)I"⟩ ⟨"JokePumpModel", "fullest", "(I)I"⟩ ∈ lw_g := lw_gm (tin5 (List.mem_of_getElem? (i := 166) (by decide +kernel))) (by decide +kernel)
theorem q5_167 : Cond.code ⟨"JokePumpModel", "fullest", "(I)I"⟩ prog_10_method_67_code 5 (some .int) ∈ lw_g := lw_gm (tin5 (List.mem_of_getElem? (i := 167) (by decide +kernel))) (by decide +kernel)
theorem lk_L_113 : LkV RL 113 yX8_fullest cX8_fullest 5 (some .int) 1 := LkV_of q5_164 q5_165 q5_166 q1_9 q5_167 ⟨by decide, by decide, by decide +kernel⟩
theorem q3_238 : Cond.methodLink "JokePumpLaw" 114 ⟨"JokePump", "isCounted", "()Z"⟩ ∈ lw_g := lw_gm (tin3 (List.mem_of_getElem? (i := 238) (by decide +kernel))) (by decide +kernel)
theorem q3_239 : Cond.instanceMethod ⟨"JokePump", "isCounted", "()Z"⟩ ∈ lw_g := lw_gm (tin3 (List.mem_of_getElem? (i := 239) (by decide +kernel))) (by decide +kernel)
theorem q4_0 : Cond.selects "JokePump" ⟨"JokePump", "isCounted", "()Z"⟩ ⟨"JokePump", "isCounted", "()Z"⟩ ∈ lw_g := lw_gm (tin4 (List.mem_of_getElem? (i := 0) (by decide +kernel))) (by decide +kernel)
theorem q4_1 : Cond.code ⟨"JokePump", "isCounted", "()Z"⟩ prog_1_method_32_code 2 (some .boolean) ∈ lw_g := lw_gm (tin4 (List.mem_of_getElem? (i := 1) (by decide +kernel))) (by decide +kernel)
theorem lk_L_114 : LkV RL 114 yX7_isCounted cX7_isCounted 2 (some .boolean) 0 := LkV_of q3_238 q3_239 q4_0 q1_1 q4_1 ⟨by decide, by decide, by decide +kernel⟩
theorem q5_172 : Cond.methodLink "JokePumpLaw" 118 ⟨"JokePumpModel", "isCounted", "()Z"⟩ ∈ lw_g := lw_gm (tin5 (List.mem_of_getElem? (i := 172) (by decide +kernel))) (by decide +kernel)
theorem q5_173 : Cond.instanceMethod ⟨"JokePumpModel", "isCounted", "()Z"⟩ ∈ lw_g := lw_gm (tin5 (List.mem_of_getElem? (i := 173) (by decide +kernel))) (by decide +kernel)
theorem q5_174 : Cond.selects "JokePumpModel" ⟨"JokePumpModel", "isCounted", "()Z"⟩ ⟨"JokePumpModel", "isCounted", "()Z"⟩ ∈ lw_g := lw_gm (tin5 (List.mem_of_getElem? (i := 174) (by decide +kernel))) (by decide +kernel)
theorem q5_175 : Cond.code ⟨"JokePumpModel", "isCounted", "()Z"⟩ prog_10_method_68_code 2 (some .boolean) ∈ lw_g := lw_gm (tin5 (List.mem_of_getElem? (i := 175) (by decide +kernel))) (by decide +kernel)
theorem lk_L_118 : LkV RL 118 yX8_isCounted cX8_isCounted 2 (some .boolean) 0 := LkV_of q5_172 q5_173 q5_174 q1_9 q5_175 ⟨by decide, by decide, by decide +kernel⟩
theorem q3_162 : Cond.methodLink "JokePumpLaw" 119 ⟨"JokePump", "meanDepth", "()D"⟩ ∈ lw_g := lw_gm (tin3 (List.mem_of_getElem? (i := 162) (by decide +kernel))) (by decide +kernel)
theorem q3_163 : Cond.instanceMethod ⟨"JokePump", "meanDepth", "()D"⟩ ∈ lw_g := lw_gm (tin3 (List.mem_of_getElem? (i := 163) (by decide +kernel))) (by decide +kernel)
theorem q3_164 : Cond.selects "JokePump" ⟨"JokePump", "meanDepth", "()D"⟩ ⟨"JokePump", "meanDepth", "()D"⟩ ∈ lw_g := lw_gm (tin3 (List.mem_of_getElem? (i := 164) (by decide +kernel))) (by decide +kernel)
theorem q3_165 : Cond.code ⟨"JokePump", "meanDepth", "()D"⟩ prog_1_method_20_code 2 (some .double) ∈ lw_g := lw_gm (tin3 (List.mem_of_getElem? (i := 165) (by decide +kernel))) (by decide +kernel)
theorem lk_L_119 : LkV RL 119 yX7_meanDepth cX7_meanDepth 2 (some .double) 0 := LkV_of q3_162 q3_163 q3_164 q1_1 q3_165 ⟨by decide, by decide, by decide +kernel⟩
theorem q5_177 : Cond.methodLink "JokePumpLaw" 123 ⟨"JokePumpModel", "meanDepth", "()D"⟩ ∈ lw_g := lw_gm (tin5 (List.mem_of_getElem? (i := 177) (by decide +kernel))) (by decide +kernel)
theorem q5_178 : Cond.instanceMethod ⟨"JokePumpModel", "meanDepth", "()D"⟩ ∈ lw_g := lw_gm (tin5 (List.mem_of_getElem? (i := 178) (by decide +kernel))) (by decide +kernel)
theorem q5_179 : Cond.selects "JokePumpModel" ⟨"JokePumpModel", "meanDepth", "()D"⟩ ⟨"JokePumpModel", "meanDepth", "()D"⟩ ∈ lw_g := lw_gm (tin5 (List.mem_of_getElem? (i := 179) (by decide +kernel))) (by decide +kernel)
theorem q5_180 : Cond.code ⟨"JokePumpModel", "meanDepth", "()D"⟩ prog_10_method_69_code 3 (some .double) ∈ lw_g := lw_gm (tin5 (List.mem_of_getElem? (i := 180) (by decide +kernel))) (by decide +kernel)
theorem lk_L_123 : LkV RL 123 yX8_meanDepth cX8_meanDepth 3 (some .double) 0 := LkV_of q5_177 q5_178 q5_179 q1_9 q5_180 ⟨by decide, by decide, by decide +kernel⟩
theorem q3_203 : Cond.methodLink "JokePumpLaw" 124 ⟨"JokePump", "knownShare", "()F"⟩ ∈ lw_g := lw_gm (tin3 (List.mem_of_getElem? (i := 203) (by decide +kernel))) (by decide +kernel)
theorem q3_204 : Cond.instanceMethod ⟨"JokePump", "knownShare", "()F"⟩ ∈ lw_g := lw_gm (tin3 (List.mem_of_getElem? (i := 204) (by decide +kernel))) (by decide +kernel)
theorem q3_205 : Cond.selects "JokePump" ⟨"JokePump", "knownShare", "()F"⟩ ⟨"JokePump", "knownShare", "()F"⟩ ∈ lw_g := lw_gm (tin3 (List.mem_of_getElem? (i := 205) (by decide +kernel))) (by decide +kernel)
theorem q3_206 : Cond.code ⟨"JokePump", "knownShare", "()F"⟩ prog_1_method_26_code 1 (some .float) ∈ lw_g := lw_gm (tin3 (List.mem_of_getElem? (i := 206) (by decide +kernel))) (by decide +kernel)
theorem lk_L_124 : LkV RL 124 yX7_knownShare cX7_knownShare 1 (some .float) 0 := LkV_of q3_203 q3_204 q3_205 q1_1 q3_206 ⟨by decide, by decide, by decide +kernel⟩
theorem q5_181 : Cond.methodLink "JokePumpLaw" 127 ⟨"JokePumpModel", "knownShare", "()F"⟩ ∈ lw_g := lw_gm (tin5 (List.mem_of_getElem? (i := 181) (by decide +kernel))) (by decide +kernel)
theorem q5_182 : Cond.instanceMethod ⟨"JokePumpModel", "knownShare", "()F"⟩ ∈ lw_g := lw_gm (tin5 (List.mem_of_getElem? (i := 182) (by decide +kernel))) (by decide +kernel)
theorem q5_183 : Cond.selects "JokePumpModel" ⟨"JokePumpModel", "knownShare", "()F"⟩ ⟨"JokePumpModel", "knownShare", "()F"⟩ ∈ lw_g := lw_gm (tin5 (List.mem_of_getElem? (i := 183) (by decide +kernel))) (by decide +kernel)
theorem q5_184 : Cond.code ⟨"JokePumpModel", "knownShare", "()F"⟩ prog_10_method_70_code 3 (some .float) ∈ lw_g := lw_gm (tin5 (List.mem_of_getElem? (i := 184) (by decide +kernel))) (by decide +kernel)
theorem lk_L_127 : LkV RL 127 yX8_knownShare cX8_knownShare 3 (some .float) 0 := LkV_of q5_181 q5_182 q5_183 q1_9 q5_184 ⟨by decide, by decide, by decide +kernel⟩
theorem q4_16 : Cond.methodLink "JokePumpLaw" 128 ⟨"JokePump", "account", "(I)I"⟩ ∈ lw_g := lw_gm (tin4 (List.mem_of_getElem? (i := 16) (by decide +kernel))) (by decide +kernel)
theorem q4_17 : Cond.instanceMethod ⟨"JokePump", "account", "(I)I"⟩ ∈ lw_g := lw_gm (tin4 (List.mem_of_getElem? (i := 17) (by decide +kernel))) (by decide +kernel)
theorem q4_18 : Cond.selects "JokePump" ⟨"JokePump", "account", "(I)I"⟩ ⟨"JokePump", "account", "(I)I"⟩ ∈ lw_g := lw_gm (tin4 (List.mem_of_getElem? (i := 18) (by decide +kernel))) (by decide +kernel)
theorem q4_19 : Cond.code ⟨"JokePump", "account", "(I)I"⟩ prog_1_method_33_code 2 (some .int) ∈ lw_g := lw_gm (tin4 (List.mem_of_getElem? (i := 19) (by decide +kernel))) (by decide +kernel)
theorem lk_L_128 : LkV RL 128 yX7_account cX7_account 2 (some .int) 1 := LkV_of q4_16 q4_17 q4_18 q1_1 q4_19 ⟨by decide, by decide, by decide +kernel⟩
theorem q5_186 : Cond.methodLink "JokePumpLaw" 131 ⟨"JokePumpModel", "account", "(I)I"⟩ ∈ lw_g := lw_gm (tin5 (List.mem_of_getElem? (i := 186) (by decide +kernel))) (by decide +kernel)
theorem q5_187 : Cond.instanceMethod ⟨"JokePumpModel", "account", "(I)I"⟩ ∈ lw_g := lw_gm (tin5 (List.mem_of_getElem? (i := 187) (by decide +kernel))) (by decide +kernel)
theorem q5_188 : Cond.selects "JokePumpModel" ⟨"JokePumpModel", "account", "(I)I"⟩ ⟨"JokePumpModel", "account", "(I)I"⟩ ∈ lw_g := lw_gm (tin5 (List.mem_of_getElem? (i := 188) (by decide +kernel))) (by decide +kernel)
theorem q5_189 : Cond.code ⟨"JokePumpModel", "account", "(I)I"⟩ prog_10_method_72_code 2 (some .int) ∈ lw_g := lw_gm (tin5 (List.mem_of_getElem? (i := 189) (by decide +kernel))) (by decide +kernel)
theorem lk_L_131 : LkV RL 131 yX8_account cX8_account 2 (some .int) 1 := LkV_of q5_186 q5_187 q5_188 q1_9 q5_189 ⟨by decide, by decide, by decide +kernel⟩
theorem q4_24 : Cond.methodLink "JokePumpLaw" 132 ⟨"JokePump", "write", "(I)I"⟩ ∈ lw_g := lw_gm (tin4 (List.mem_of_getElem? (i := 24) (by decide +kernel))) (by decide +kernel)
theorem q4_25 : Cond.instanceMethod ⟨"JokePump", "write", "(I)I"⟩ ∈ lw_g := lw_gm (tin4 (List.mem_of_getElem? (i := 25) (by decide +kernel))) (by decide +kernel)
theorem q4_26 : Cond.selects "JokePump" ⟨"JokePump", "write", "(I)I"⟩ ⟨"JokePump", "write", "(I)I"⟩ ∈ lw_g := lw_gm (tin4 (List.mem_of_getElem? (i := 26) (by decide +kernel))) (by decide +kernel)
theorem q4_27 : Cond.code ⟨"JokePump", "write", "(I)I"⟩ prog_1_method_34_code 4 (some .int) ∈ lw_g := lw_gm (tin4 (List.mem_of_getElem? (i := 27) (by decide +kernel))) (by decide +kernel)
theorem lk_L_132 : LkV RL 132 yX7_write cX7_write 4 (some .int) 1 := LkV_of q4_24 q4_25 q4_26 q1_1 q4_27 ⟨by decide, by decide, by decide +kernel⟩
theorem q5_194 : Cond.methodLink "JokePumpLaw" 135 ⟨"JokePumpModel", "write", "(I)I"⟩ ∈ lw_g := lw_gm (tin5 (List.mem_of_getElem? (i := 194) (by decide +kernel))) (by decide +kernel)
theorem q5_195 : Cond.instanceMethod ⟨"JokePumpModel", "write", "(I)I"⟩ ∈ lw_g := lw_gm (tin5 (List.mem_of_getElem? (i := 195) (by decide +kernel))) (by decide +kernel)
theorem q5_196 : Cond.selects "JokePumpModel" ⟨"JokePumpModel", "write", "(I)I"⟩ ⟨"JokePumpModel", "write", "(I)I"⟩ ∈ lw_g := lw_gm (tin5 (List.mem_of_getElem? (i := 196) (by decide +kernel))) (by decide +kernel)
theorem q5_197 : Cond.code ⟨"JokePumpModel", "write", "(I)I"⟩ prog_10_method_76_code 3 (some .int) ∈ lw_g := lw_gm (tin5 (List.mem_of_getElem? (i := 197) (by decide +kernel))) (by decide +kernel)
theorem lk_L_135 : LkV RL 135 yX8_write cX8_write 3 (some .int) 1 := LkV_of q5_194 q5_195 q5_196 q1_9 q5_197 ⟨by decide, by decide, by decide +kernel⟩
theorem q4_41 : Cond.methodLink "JokePumpLaw" 136 ⟨"JokePump", "writePump", "()I"⟩ ∈ lw_g := lw_gm (tin4 (List.mem_of_getElem? (i := 41) (by decide +kernel))) (by decide +kernel)
theorem q4_42 : Cond.instanceMethod ⟨"JokePump", "writePump", "()I"⟩ ∈ lw_g := lw_gm (tin4 (List.mem_of_getElem? (i := 42) (by decide +kernel))) (by decide +kernel)
theorem q4_43 : Cond.selects "JokePump" ⟨"JokePump", "writePump", "()I"⟩ ⟨"JokePump", "writePump", "()I"⟩ ∈ lw_g := lw_gm (tin4 (List.mem_of_getElem? (i := 43) (by decide +kernel))) (by decide +kernel)
theorem q4_44 : Cond.code ⟨"JokePump", "writePump", "()I"⟩ prog_1_method_35_code 1 (some .int) ∈ lw_g := lw_gm (tin4 (List.mem_of_getElem? (i := 44) (by decide +kernel))) (by decide +kernel)
theorem lk_L_136 : LkV RL 136 yX7_writePump cX7_writePump 1 (some .int) 0 := LkV_of q4_41 q4_42 q4_43 q1_1 q4_44 ⟨by decide, by decide, by decide +kernel⟩
theorem q5_210 : Cond.methodLink "JokePumpLaw" 139 ⟨"JokePumpModel", "writePump", "()I"⟩ ∈ lw_g := lw_gm (tin5 (List.mem_of_getElem? (i := 210) (by decide +kernel))) (by decide +kernel)
theorem q5_211 : Cond.instanceMethod ⟨"JokePumpModel", "writePump", "()I"⟩ ∈ lw_g := lw_gm (tin5 (List.mem_of_getElem? (i := 211) (by decide +kernel))) (by decide +kernel)
theorem q5_212 : Cond.selects "JokePumpModel" ⟨"JokePumpModel", "writePump", "()I"⟩ ⟨"JokePumpModel", "writePump", "()I"⟩ ∈ lw_g := lw_gm (tin5 (List.mem_of_getElem? (i := 212) (by decide +kernel))) (by decide +kernel)
theorem q5_213 : Cond.code ⟨"JokePumpModel", "writePump", "()I"⟩ prog_10_method_77_code 1 (some .int) ∈ lw_g := lw_gm (tin5 (List.mem_of_getElem? (i := 213) (by decide +kernel))) (by decide +kernel)
theorem lk_L_139 : LkV RL 139 yX8_writePump cX8_writePump 1 (some .int) 0 := LkV_of q5_210 q5_211 q5_212 q1_9 q5_213 ⟨by decide, by decide, by decide +kernel⟩
theorem q4_45 : Cond.methodLink "JokePumpLaw" 140 ⟨"JokePump", "written", "(I)I"⟩ ∈ lw_g := lw_gm (tin4 (List.mem_of_getElem? (i := 45) (by decide +kernel))) (by decide +kernel)
theorem q4_46 : Cond.instanceMethod ⟨"JokePump", "written", "(I)I"⟩ ∈ lw_g := lw_gm (tin4 (List.mem_of_getElem? (i := 46) (by decide +kernel))) (by decide +kernel)
theorem q4_47 : Cond.selects "JokePump" ⟨"JokePump", "written", "(I)I"⟩ ⟨"JokePump", "written", "(I)I"⟩ ∈ lw_g := lw_gm (tin4 (List.mem_of_getElem? (i := 47) (by decide +kernel))) (by decide +kernel)
theorem q4_48 : Cond.code ⟨"JokePump", "written", "(I)I"⟩ prog_1_method_36_code 2 (some .int) ∈ lw_g := lw_gm (tin4 (List.mem_of_getElem? (i := 48) (by decide +kernel))) (by decide +kernel)
theorem lk_L_140 : LkV RL 140 yX7_written cX7_written 2 (some .int) 1 := LkV_of q4_45 q4_46 q4_47 q1_1 q4_48 ⟨by decide, by decide, by decide +kernel⟩
theorem q5_214 : Cond.methodLink "JokePumpLaw" 143 ⟨"JokePumpModel", "written", "(I)I"⟩ ∈ lw_g := lw_gm (tin5 (List.mem_of_getElem? (i := 214) (by decide +kernel))) (by decide +kernel)
theorem q5_215 : Cond.instanceMethod ⟨"JokePumpModel", "written", "(I)I"⟩ ∈ lw_g := lw_gm (tin5 (List.mem_of_getElem? (i := 215) (by decide +kernel))) (by decide +kernel)
theorem q5_216 : Cond.selects "JokePumpModel" ⟨"JokePumpModel", "written", "(I)I"⟩ ⟨"JokePumpModel", "written", "(I)I"⟩ ∈ lw_g := lw_gm (tin5 (List.mem_of_getElem? (i := 216) (by decide +kernel))) (by decide +kernel)
theorem q5_217 : Cond.code ⟨"JokePumpModel", "written", "(I)I"⟩ prog_10_method_78_code 2 (some .int) ∈ lw_g := lw_gm (tin5 (List.mem_of_getElem? (i := 217) (by decide +kernel))) (by decide +kernel)
theorem lk_L_143 : LkV RL 143 yX8_written cX8_written 2 (some .int) 1 := LkV_of q5_214 q5_215 q5_216 q1_9 q5_217 ⟨by decide, by decide, by decide +kernel⟩
theorem q4_50 : Cond.methodLink "JokePumpLaw" 144 ⟨"JokePump", "append", "(C)I"⟩ ∈ lw_g := lw_gm (tin4 (List.mem_of_getElem? (i := 50) (by decide +kernel))) (by decide +kernel)
theorem q4_51 : Cond.instanceMethod ⟨"JokePump", "append", "(C)I"⟩ ∈ lw_g := lw_gm (tin4 (List.mem_of_getElem? (i := 51) (by decide +kernel))) (by decide +kernel)
theorem q4_52 : Cond.selects "JokePump" ⟨"JokePump", "append", "(C)I"⟩ ⟨"JokePump", "append", "(C)I"⟩ ∈ lw_g := lw_gm (tin4 (List.mem_of_getElem? (i := 52) (by decide +kernel))) (by decide +kernel)
theorem q4_53 : Cond.code ⟨"JokePump", "append", "(C)I"⟩ prog_1_method_37_code 2 (some .int) ∈ lw_g := lw_gm (tin4 (List.mem_of_getElem? (i := 53) (by decide +kernel))) (by decide +kernel)
theorem lk_L_144 : LkV RL 144 yX7_append cX7_append 2 (some .int) 1 := LkV_of q4_50 q4_51 q4_52 q1_1 q4_53 ⟨by decide, by decide, by decide +kernel⟩
theorem q5_218 : Cond.methodLink "JokePumpLaw" 148 ⟨"JokePumpModel", "append", "(C)I"⟩ ∈ lw_g := lw_gm (tin5 (List.mem_of_getElem? (i := 218) (by decide +kernel))) (by decide +kernel)
theorem q5_219 : Cond.instanceMethod ⟨"JokePumpModel", "append", "(C)I"⟩ ∈ lw_g := lw_gm (tin5 (List.mem_of_getElem? (i := 219) (by decide +kernel))) (by decide +kernel)
theorem q5_220 : Cond.selects "JokePumpModel" ⟨"JokePumpModel", "append", "(C)I"⟩ ⟨"JokePumpModel", "append", "(C)I"⟩ ∈ lw_g := lw_gm (tin5 (List.mem_of_getElem? (i := 220) (by decide +kernel))) (by decide +kernel)
theorem q5_221 : Cond.code ⟨"JokePumpModel", "append", "(C)I"⟩ prog_10_method_79_code 2 (some .int) ∈ lw_g := lw_gm (tin5 (List.mem_of_getElem? (i := 221) (by decide +kernel))) (by decide +kernel)
theorem lk_L_148 : LkV RL 148 yX8_append cX8_append 2 (some .int) 1 := LkV_of q5_218 q5_219 q5_220 q1_9 q5_221 ⟨by decide, by decide, by decide +kernel⟩
theorem q2_209 : Cond.methodLink "JokePumpLaw" 149 ⟨"JokePump", "read", "()I"⟩ ∈ lw_g := lw_gm (tin2 (List.mem_of_getElem? (i := 209) (by decide +kernel))) (by decide +kernel)
theorem q2_210 : Cond.instanceMethod ⟨"JokePump", "read", "()I"⟩ ∈ lw_g := lw_gm (tin2 (List.mem_of_getElem? (i := 210) (by decide +kernel))) (by decide +kernel)
theorem q2_211 : Cond.selects "JokePump" ⟨"JokePump", "read", "()I"⟩ ⟨"JokePump", "read", "()I"⟩ ∈ lw_g := lw_gm (tin2 (List.mem_of_getElem? (i := 211) (by decide +kernel))) (by decide +kernel)
theorem q2_212 : Cond.code ⟨"JokePump", "read", "()I"⟩ prog_1_method_10_code 2 (some .int) ∈ lw_g := lw_gm (tin2 (List.mem_of_getElem? (i := 212) (by decide +kernel))) (by decide +kernel)
theorem lk_L_149 : LkV RL 149 yX7_read cX7_read 2 (some .int) 0 := LkV_of q2_209 q2_210 q2_211 q1_1 q2_212 ⟨by decide, by decide, by decide +kernel⟩
theorem q5_226 : Cond.methodLink "JokePumpLaw" 152 ⟨"JokePumpModel", "read", "()I"⟩ ∈ lw_g := lw_gm (tin5 (List.mem_of_getElem? (i := 226) (by decide +kernel))) (by decide +kernel)
theorem q5_227 : Cond.instanceMethod ⟨"JokePumpModel", "read", "()I"⟩ ∈ lw_g := lw_gm (tin5 (List.mem_of_getElem? (i := 227) (by decide +kernel))) (by decide +kernel)
theorem q5_228 : Cond.selects "JokePumpModel" ⟨"JokePumpModel", "read", "()I"⟩ ⟨"JokePumpModel", "read", "()I"⟩ ∈ lw_g := lw_gm (tin5 (List.mem_of_getElem? (i := 228) (by decide +kernel))) (by decide +kernel)
theorem q5_229 : Cond.code ⟨"JokePumpModel", "read", "()I"⟩ prog_10_method_96_code 2 (some .int) ∈ lw_g := lw_gm (tin5 (List.mem_of_getElem? (i := 229) (by decide +kernel))) (by decide +kernel)
theorem lk_L_152 : LkV RL 152 yX8_read cX8_read 2 (some .int) 0 := LkV_of q5_226 q5_227 q5_228 q1_9 q5_229 ⟨by decide, by decide, by decide +kernel⟩
theorem q4_54 : Cond.methodLink "JokePumpLaw" 153 ⟨"JokePump", "fault", "()I"⟩ ∈ lw_g := lw_gm (tin4 (List.mem_of_getElem? (i := 54) (by decide +kernel))) (by decide +kernel)
theorem q4_55 : Cond.instanceMethod ⟨"JokePump", "fault", "()I"⟩ ∈ lw_g := lw_gm (tin4 (List.mem_of_getElem? (i := 55) (by decide +kernel))) (by decide +kernel)
theorem q4_56 : Cond.selects "JokePump" ⟨"JokePump", "fault", "()I"⟩ ⟨"JokePump", "fault", "()I"⟩ ∈ lw_g := lw_gm (tin4 (List.mem_of_getElem? (i := 56) (by decide +kernel))) (by decide +kernel)
theorem q4_57 : Cond.code ⟨"JokePump", "fault", "()I"⟩ prog_1_method_38_code 1 (some .int) ∈ lw_g := lw_gm (tin4 (List.mem_of_getElem? (i := 57) (by decide +kernel))) (by decide +kernel)
theorem lk_L_153 : LkV RL 153 yX7_fault cX7_fault 1 (some .int) 0 := LkV_of q4_54 q4_55 q4_56 q1_1 q4_57 ⟨by decide, by decide, by decide +kernel⟩
theorem q5_222 : Cond.methodLink "JokePumpLaw" 156 ⟨"JokePumpModel", "fault", "()I"⟩ ∈ lw_g := lw_gm (tin5 (List.mem_of_getElem? (i := 222) (by decide +kernel))) (by decide +kernel)
theorem q5_223 : Cond.instanceMethod ⟨"JokePumpModel", "fault", "()I"⟩ ∈ lw_g := lw_gm (tin5 (List.mem_of_getElem? (i := 223) (by decide +kernel))) (by decide +kernel)
theorem q5_224 : Cond.selects "JokePumpModel" ⟨"JokePumpModel", "fault", "()I"⟩ ⟨"JokePumpModel", "fault", "()I"⟩ ∈ lw_g := lw_gm (tin5 (List.mem_of_getElem? (i := 224) (by decide +kernel))) (by decide +kernel)
theorem q5_225 : Cond.code ⟨"JokePumpModel", "fault", "()I"⟩ prog_10_method_80_code 1 (some .int) ∈ lw_g := lw_gm (tin5 (List.mem_of_getElem? (i := 225) (by decide +kernel))) (by decide +kernel)
theorem lk_L_156 : LkV RL 156 yX8_fault cX8_fault 1 (some .int) 0 := LkV_of q5_222 q5_223 q5_224 q1_9 q5_225 ⟨by decide, by decide, by decide +kernel⟩
theorem q4_58 : Cond.methodLink "JokePumpLaw" 157 ⟨"JokePump", "reason", "(IZ)I"⟩ ∈ lw_g := lw_gm (tin4 (List.mem_of_getElem? (i := 58) (by decide +kernel))) (by decide +kernel)
theorem q4_59 : Cond.instanceMethod ⟨"JokePump", "reason", "(IZ)I"⟩ ∈ lw_g := lw_gm (tin4 (List.mem_of_getElem? (i := 59) (by decide +kernel))) (by decide +kernel)
theorem q4_60 : Cond.selects "JokePump" ⟨"JokePump", "reason", "(IZ)I"⟩ ⟨"JokePump", "reason", "(IZ)I"⟩ ∈ lw_g := lw_gm (tin4 (List.mem_of_getElem? (i := 60) (by decide +kernel))) (by decide +kernel)
theorem q4_61 : Cond.code ⟨"JokePump", "reason", "(IZ)I"⟩ prog_1_method_39_code 3 (some .int) ∈ lw_g := lw_gm (tin4 (List.mem_of_getElem? (i := 61) (by decide +kernel))) (by decide +kernel)
theorem lk_L_157 : LkV RL 157 yX7_reason cX7_reason 3 (some .int) 2 := LkV_of q4_58 q4_59 q4_60 q1_1 q4_61 ⟨by decide, by decide, by decide +kernel⟩
theorem q4_62 : Cond.methodLink "JokePumpLaw" 161 ⟨"JokePumpModel", "reason", "(IZ)I"⟩ ∈ lw_g := lw_gm (tin4 (List.mem_of_getElem? (i := 62) (by decide +kernel))) (by decide +kernel)
theorem q4_63 : Cond.instanceMethod ⟨"JokePumpModel", "reason", "(IZ)I"⟩ ∈ lw_g := lw_gm (tin4 (List.mem_of_getElem? (i := 63) (by decide +kernel))) (by decide +kernel)
theorem q4_64 : Cond.selects "JokePumpModel" ⟨"JokePumpModel", "reason", "(IZ)I"⟩ ⟨"JokePumpModel", "reason", "(IZ)I"⟩ ∈ lw_g := lw_gm (tin4 (List.mem_of_getElem? (i := 64) (by decide +kernel))) (by decide +kernel)
theorem q4_65 : Cond.code ⟨"JokePumpModel", "reason", "(IZ)I"⟩ prog_10_method_4_code 3 (some .int) ∈ lw_g := lw_gm (tin4 (List.mem_of_getElem? (i := 65) (by decide +kernel))) (by decide +kernel)
theorem lk_L_161 : LkV RL 161 yX8_reason cX8_reason 3 (some .int) 2 := LkV_of q4_62 q4_63 q4_64 q1_9 q4_65 ⟨by decide, by decide, by decide +kernel⟩
theorem q3_89 : Cond.methodLink "JokePumpLaw" 162 ⟨"JokePump", "undo", "()I"⟩ ∈ lw_g := lw_gm (tin3 (List.mem_of_getElem? (i := 89) (by decide +kernel))) (by decide +kernel)
theorem q3_90 : Cond.instanceMethod ⟨"JokePump", "undo", "()I"⟩ ∈ lw_g := lw_gm (tin3 (List.mem_of_getElem? (i := 90) (by decide +kernel))) (by decide +kernel)
theorem q3_91 : Cond.selects "JokePump" ⟨"JokePump", "undo", "()I"⟩ ⟨"JokePump", "undo", "()I"⟩ ∈ lw_g := lw_gm (tin3 (List.mem_of_getElem? (i := 91) (by decide +kernel))) (by decide +kernel)
theorem q3_92 : Cond.code ⟨"JokePump", "undo", "()I"⟩ prog_1_method_11_code 1 (some .int) ∈ lw_g := lw_gm (tin3 (List.mem_of_getElem? (i := 92) (by decide +kernel))) (by decide +kernel)
theorem lk_L_162 : LkV RL 162 yX7_undo cX7_undo 1 (some .int) 0 := LkV_of q3_89 q3_90 q3_91 q1_1 q3_92 ⟨by decide, by decide, by decide +kernel⟩
theorem q6_54 : Cond.methodLink "JokePumpLaw" 165 ⟨"JokePumpModel", "undo", "()I"⟩ ∈ lw_g := lw_gm (tin6 (List.mem_of_getElem? (i := 54) (by decide +kernel))) (by decide +kernel)
theorem q6_55 : Cond.instanceMethod ⟨"JokePumpModel", "undo", "()I"⟩ ∈ lw_g := lw_gm (tin6 (List.mem_of_getElem? (i := 55) (by decide +kernel))) (by decide +kernel)
theorem q6_56 : Cond.selects "JokePumpModel" ⟨"JokePumpModel", "undo", "()I"⟩ ⟨"JokePumpModel", "undo", "()I"⟩ ∈ lw_g := lw_gm (tin6 (List.mem_of_getElem? (i := 56) (by decide +kernel))) (by decide +kernel)
theorem q6_57 : Cond.code ⟨"JokePumpModel", "undo", "()I"⟩ prog_10_method_97_code 3 (some .int) ∈ lw_g := lw_gm (tin6 (List.mem_of_getElem? (i := 57) (by decide +kernel))) (by decide +kernel)
theorem lk_L_165 : LkV RL 165 yX8_undo cX8_undo 3 (some .int) 0 := LkV_of q6_54 q6_55 q6_56 q1_9 q6_57 ⟨by decide, by decide, by decide +kernel⟩
theorem q3_97 : Cond.methodLink "JokePumpLaw" 166 ⟨"JokePump", "save", "()I"⟩ ∈ lw_g := lw_gm (tin3 (List.mem_of_getElem? (i := 97) (by decide +kernel))) (by decide +kernel)
theorem q3_98 : Cond.instanceMethod ⟨"JokePump", "save", "()I"⟩ ∈ lw_g := lw_gm (tin3 (List.mem_of_getElem? (i := 98) (by decide +kernel))) (by decide +kernel)
theorem q3_99 : Cond.selects "JokePump" ⟨"JokePump", "save", "()I"⟩ ⟨"JokePump", "save", "()I"⟩ ∈ lw_g := lw_gm (tin3 (List.mem_of_getElem? (i := 99) (by decide +kernel))) (by decide +kernel)
theorem q3_100 : Cond.code ⟨"JokePump", "save", "()I"⟩ prog_1_method_12_code 1 (some .int) ∈ lw_g := lw_gm (tin3 (List.mem_of_getElem? (i := 100) (by decide +kernel))) (by decide +kernel)
theorem lk_L_166 : LkV RL 166 yX7_save cX7_save 1 (some .int) 0 := LkV_of q3_97 q3_98 q3_99 q1_1 q3_100 ⟨by decide, by decide, by decide +kernel⟩
theorem q6_58 : Cond.methodLink "JokePumpLaw" 169 ⟨"JokePumpModel", "save", "()I"⟩ ∈ lw_g := lw_gm (tin6 (List.mem_of_getElem? (i := 58) (by decide +kernel))) (by decide +kernel)
theorem q6_59 : Cond.instanceMethod ⟨"JokePumpModel", "save", "()I"⟩ ∈ lw_g := lw_gm (tin6 (List.mem_of_getElem? (i := 59) (by decide +kernel))) (by decide +kernel)
theorem q6_60 : Cond.selects "JokePumpModel" ⟨"JokePumpModel", "save", "()I"⟩ ⟨"JokePumpModel", "save", "()I"⟩ ∈ lw_g := lw_gm (tin6 (List.mem_of_getElem? (i := 60) (by decide +kernel))) (by decide +kernel)
theorem q6_61 : Cond.code ⟨"JokePumpModel", "save", "()I"⟩ prog_10_method_98_code 2 (some .int) ∈ lw_g := lw_gm (tin6 (List.mem_of_getElem? (i := 61) (by decide +kernel))) (by decide +kernel)
theorem lk_L_169 : LkV RL 169 yX8_save cX8_save 2 (some .int) 0 := LkV_of q6_58 q6_59 q6_60 q1_9 q6_61 ⟨by decide, by decide, by decide +kernel⟩
theorem q3_102 : Cond.methodLink "JokePumpLaw" 170 ⟨"JokePump", "restore", "()I"⟩ ∈ lw_g := lw_gm (tin3 (List.mem_of_getElem? (i := 102) (by decide +kernel))) (by decide +kernel)
theorem q3_103 : Cond.instanceMethod ⟨"JokePump", "restore", "()I"⟩ ∈ lw_g := lw_gm (tin3 (List.mem_of_getElem? (i := 103) (by decide +kernel))) (by decide +kernel)
theorem q3_104 : Cond.selects "JokePump" ⟨"JokePump", "restore", "()I"⟩ ⟨"JokePump", "restore", "()I"⟩ ∈ lw_g := lw_gm (tin3 (List.mem_of_getElem? (i := 104) (by decide +kernel))) (by decide +kernel)
theorem q3_105 : Cond.code ⟨"JokePump", "restore", "()I"⟩ prog_1_method_13_code 1 (some .int) ∈ lw_g := lw_gm (tin3 (List.mem_of_getElem? (i := 105) (by decide +kernel))) (by decide +kernel)
theorem lk_L_170 : LkV RL 170 yX7_restore cX7_restore 1 (some .int) 0 := LkV_of q3_102 q3_103 q3_104 q1_1 q3_105 ⟨by decide, by decide, by decide +kernel⟩
theorem q6_62 : Cond.methodLink "JokePumpLaw" 173 ⟨"JokePumpModel", "restore", "()I"⟩ ∈ lw_g := lw_gm (tin6 (List.mem_of_getElem? (i := 62) (by decide +kernel))) (by decide +kernel)
theorem q6_63 : Cond.instanceMethod ⟨"JokePumpModel", "restore", "()I"⟩ ∈ lw_g := lw_gm (tin6 (List.mem_of_getElem? (i := 63) (by decide +kernel))) (by decide +kernel)
theorem q6_64 : Cond.selects "JokePumpModel" ⟨"JokePumpModel", "restore", "()I"⟩ ⟨"JokePumpModel", "restore", "()I"⟩ ∈ lw_g := lw_gm (tin6 (List.mem_of_getElem? (i := 64) (by decide +kernel))) (by decide +kernel)
theorem q6_65 : Cond.code ⟨"JokePumpModel", "restore", "()I"⟩ prog_10_method_99_code 2 (some .int) ∈ lw_g := lw_gm (tin6 (List.mem_of_getElem? (i := 65) (by decide +kernel))) (by decide +kernel)
theorem lk_L_173 : LkV RL 173 yX8_restore cX8_restore 2 (some .int) 0 := LkV_of q6_62 q6_63 q6_64 q1_9 q6_65 ⟨by decide, by decide, by decide +kernel⟩
theorem q2_30 : Cond.methodLink "JokePump$History" 25 ⟨"JokePump$History", "slot", "()LJokePump$State;"⟩ ∈ lw_g := lw_gm (tin2 (List.mem_of_getElem? (i := 30) (by decide +kernel))) (by decide +kernel)
theorem q2_32 : Cond.instanceMethod ⟨"JokePump$History", "slot", "()LJokePump$State;"⟩ ∈ lw_g := lw_gm (tin2 (List.mem_of_getElem? (i := 32) (by decide +kernel))) (by decide +kernel)
theorem qs_0 : Cond.selects "JokePump$History" ⟨"JokePump$History", "slot", "()LJokePump$State;"⟩ ⟨"JokePump$History", "slot", "()LJokePump$State;"⟩ ∈ lw_g := lw_gm (tinS (q := (⟨"JokePump$History", "slot", "()LJokePump$State;"⟩, 3)) (List.mem_of_getElem? (i := 0) (by decide +kernel))) (by decide +kernel)
theorem q1_6 : Cond.initialized "JokePump$History" ∈ lw_g := lw_gm (tin1 (List.mem_of_getElem? (i := 6) (by decide +kernel))) (by decide +kernel)
theorem q2_33 : Cond.code ⟨"JokePump$History", "slot", "()LJokePump$State;"⟩ prog_2_method_7_code 1 (some (.object "JokePump$State")) ∈ lw_g := lw_gm (tin2 (List.mem_of_getElem? (i := 33) (by decide +kernel))) (by decide +kernel)
theorem lk_X0_25 : LkV RX0 25 yX0_slot cX0_slot 1 (some (.object "JokePump$State")) 0 := LkV_of q2_30 q2_32 qs_0 q1_6 q2_33 ⟨by decide, by decide, by decide +kernel⟩
theorem q2_34 : Cond.methodLink "JokePump$History" 29 ⟨"JokePump$State", "copy", "(LJokePump$State;LJokePump$State;)V"⟩ ∈ lw_g := lw_gm (tin2 (List.mem_of_getElem? (i := 34) (by decide +kernel))) (by decide +kernel)
theorem q2_35 : Cond.static ⟨"JokePump$State", "copy", "(LJokePump$State;LJokePump$State;)V"⟩ ∈ lw_g := lw_gm (tin2 (List.mem_of_getElem? (i := 35) (by decide +kernel))) (by decide +kernel)
theorem q1_2 : Cond.initialized "JokePump$State" ∈ lw_g := lw_gm (tin1 (List.mem_of_getElem? (i := 2) (by decide +kernel))) (by decide +kernel)
theorem q2_36 : Cond.code ⟨"JokePump$State", "copy", "(LJokePump$State;LJokePump$State;)V"⟩ prog_6_method_7_code 2 (none : Option Jvm.ClassFile.FieldType) ∈ lw_g := lw_gm (tin2 (List.mem_of_getElem? (i := 36) (by decide +kernel))) (by decide +kernel)
theorem lk_X0_29 : LkS RX0 29 yX4_copy cX4_copy 2 (none : Option Jvm.ClassFile.FieldType) 2 := LkS_of q2_34 q2_35 q1_2 q2_36 ⟨by decide, by decide, by decide +kernel⟩
theorem q2_95 : Cond.methodLink "JokePump$Jokes" 36 ⟨"JokePump$Row", "put", "(II)V"⟩ ∈ lw_g := lw_gm (tin2 (List.mem_of_getElem? (i := 95) (by decide +kernel))) (by decide +kernel)
theorem q1_113 : Cond.instanceMethod ⟨"JokePump$Row", "put", "(II)V"⟩ ∈ lw_g := lw_gm (tin1 (List.mem_of_getElem? (i := 113) (by decide +kernel))) (by decide +kernel)
theorem q1_114 : Cond.selects "JokePump$Row" ⟨"JokePump$Row", "put", "(II)V"⟩ ⟨"JokePump$Row", "put", "(II)V"⟩ ∈ lw_g := lw_gm (tin1 (List.mem_of_getElem? (i := 114) (by decide +kernel))) (by decide +kernel)
theorem q1_4 : Cond.initialized "JokePump$Row" ∈ lw_g := lw_gm (tin1 (List.mem_of_getElem? (i := 4) (by decide +kernel))) (by decide +kernel)
theorem q1_115 : Cond.code ⟨"JokePump$Row", "put", "(II)V"⟩ prog_5_method_3_code 3 (none : Option Jvm.ClassFile.FieldType) ∈ lw_g := lw_gm (tin1 (List.mem_of_getElem? (i := 115) (by decide +kernel))) (by decide +kernel)
theorem lk_X1_36 : LkV RX1 36 yX3_put cX3_put 3 (none : Option Jvm.ClassFile.FieldType) 2 := LkV_of q2_95 q1_113 q1_114 q1_4 q1_115 ⟨by decide, by decide, by decide +kernel⟩
theorem q2_130 : Cond.methodLink "JokePump$Jokes" 40 ⟨"JokePump$Jokes", "has", "(I)Z"⟩ ∈ lw_g := lw_gm (tin2 (List.mem_of_getElem? (i := 130) (by decide +kernel))) (by decide +kernel)
theorem q2_114 : Cond.instanceMethod ⟨"JokePump$Jokes", "has", "(I)Z"⟩ ∈ lw_g := lw_gm (tin2 (List.mem_of_getElem? (i := 114) (by decide +kernel))) (by decide +kernel)
theorem q2_115 : Cond.selects "JokePump$Jokes" ⟨"JokePump$Jokes", "has", "(I)Z"⟩ ⟨"JokePump$Jokes", "has", "(I)Z"⟩ ∈ lw_g := lw_gm (tin2 (List.mem_of_getElem? (i := 115) (by decide +kernel))) (by decide +kernel)
theorem q1_3 : Cond.initialized "JokePump$Jokes" ∈ lw_g := lw_gm (tin1 (List.mem_of_getElem? (i := 3) (by decide +kernel))) (by decide +kernel)
theorem q2_116 : Cond.code ⟨"JokePump$Jokes", "has", "(I)Z"⟩ prog_3_method_2_code 2 (some .boolean) ∈ lw_g := lw_gm (tin2 (List.mem_of_getElem? (i := 116) (by decide +kernel))) (by decide +kernel)
theorem lk_X1_40 : LkV RX1 40 yX1_has cX1_has 2 (some .boolean) 1 := LkV_of q2_130 q2_114 q2_115 q1_3 q2_116 ⟨by decide, by decide, by decide +kernel⟩
theorem q2_131 : Cond.methodLink "JokePump$Jokes" 44 ⟨"JokePump$Row", "takeOut", "(I)V"⟩ ∈ lw_g := lw_gm (tin2 (List.mem_of_getElem? (i := 131) (by decide +kernel))) (by decide +kernel)
theorem q2_132 : Cond.instanceMethod ⟨"JokePump$Row", "takeOut", "(I)V"⟩ ∈ lw_g := lw_gm (tin2 (List.mem_of_getElem? (i := 132) (by decide +kernel))) (by decide +kernel)
theorem q2_133 : Cond.selects "JokePump$Row" ⟨"JokePump$Row", "takeOut", "(I)V"⟩ ⟨"JokePump$Row", "takeOut", "(I)V"⟩ ∈ lw_g := lw_gm (tin2 (List.mem_of_getElem? (i := 133) (by decide +kernel))) (by decide +kernel)
theorem q2_134 : Cond.code ⟨"JokePump$Row", "takeOut", "(I)V"⟩ prog_5_method_4_code 3 (none : Option Jvm.ClassFile.FieldType) ∈ lw_g := lw_gm (tin2 (List.mem_of_getElem? (i := 134) (by decide +kernel))) (by decide +kernel)
theorem lk_X1_44 : LkV RX1 44 yX3_takeOut cX3_takeOut 3 (none : Option Jvm.ClassFile.FieldType) 1 := LkV_of q2_131 q2_132 q2_133 q1_4 q2_134 ⟨by decide, by decide, by decide +kernel⟩
theorem q2_78 : Cond.methodLink "JokePump$Jokes" 47 ⟨"JokePump$Row", "at", "(I)I"⟩ ∈ lw_g := lw_gm (tin2 (List.mem_of_getElem? (i := 78) (by decide +kernel))) (by decide +kernel)
theorem q2_67 : Cond.instanceMethod ⟨"JokePump$Row", "at", "(I)I"⟩ ∈ lw_g := lw_gm (tin2 (List.mem_of_getElem? (i := 67) (by decide +kernel))) (by decide +kernel)
theorem q2_68 : Cond.selects "JokePump$Row" ⟨"JokePump$Row", "at", "(I)I"⟩ ⟨"JokePump$Row", "at", "(I)I"⟩ ∈ lw_g := lw_gm (tin2 (List.mem_of_getElem? (i := 68) (by decide +kernel))) (by decide +kernel)
theorem q2_69 : Cond.code ⟨"JokePump$Row", "at", "(I)I"⟩ prog_5_method_2_code 2 (some .int) ∈ lw_g := lw_gm (tin2 (List.mem_of_getElem? (i := 69) (by decide +kernel))) (by decide +kernel)
theorem lk_X1_47 : LkV RX1 47 yX3_at cX3_at 2 (some .int) 1 := LkV_of q2_78 q2_67 q2_68 q1_4 q2_69 ⟨by decide, by decide, by decide +kernel⟩
theorem q2_87 : Cond.methodLink "JokePump$Jokes" 51 ⟨"JokePump$Jokes", "countWithin", "(II)I"⟩ ∈ lw_g := lw_gm (tin2 (List.mem_of_getElem? (i := 87) (by decide +kernel))) (by decide +kernel)
theorem q2_88 : Cond.instanceMethod ⟨"JokePump$Jokes", "countWithin", "(II)I"⟩ ∈ lw_g := lw_gm (tin2 (List.mem_of_getElem? (i := 88) (by decide +kernel))) (by decide +kernel)
theorem q2_89 : Cond.selects "JokePump$Jokes" ⟨"JokePump$Jokes", "countWithin", "(II)I"⟩ ⟨"JokePump$Jokes", "countWithin", "(II)I"⟩ ∈ lw_g := lw_gm (tin2 (List.mem_of_getElem? (i := 89) (by decide +kernel))) (by decide +kernel)
theorem q2_90 : Cond.code ⟨"JokePump$Jokes", "countWithin", "(II)I"⟩ prog_3_method_8_code 5 (some .int) ∈ lw_g := lw_gm (tin2 (List.mem_of_getElem? (i := 90) (by decide +kernel))) (by decide +kernel)
theorem lk_X1_51 : LkV RX1 51 yX1_countWithin cX1_countWithin 5 (some .int) 2 := LkV_of q2_87 q2_88 q2_89 q1_3 q2_90 ⟨by decide, by decide, by decide +kernel⟩
theorem q2_40 : Cond.methodLink "JokePump$Jokes" 55 ⟨"JokePump$Row", "copy", "(LJokePump$Row;LJokePump$Row;)V"⟩ ∈ lw_g := lw_gm (tin2 (List.mem_of_getElem? (i := 40) (by decide +kernel))) (by decide +kernel)
theorem q2_41 : Cond.static ⟨"JokePump$Row", "copy", "(LJokePump$Row;LJokePump$Row;)V"⟩ ∈ lw_g := lw_gm (tin2 (List.mem_of_getElem? (i := 41) (by decide +kernel))) (by decide +kernel)
theorem q2_42 : Cond.code ⟨"JokePump$Row", "copy", "(LJokePump$Row;LJokePump$Row;)V"⟩ prog_5_method_5_code 3 (none : Option Jvm.ClassFile.FieldType) ∈ lw_g := lw_gm (tin2 (List.mem_of_getElem? (i := 42) (by decide +kernel))) (by decide +kernel)
theorem lk_X1_55 : LkS RX1 55 yX3_copy cX3_copy 3 (none : Option Jvm.ClassFile.FieldType) 2 := LkS_of q2_40 q2_41 q1_4 q2_42 ⟨by decide, by decide, by decide +kernel⟩
theorem q2_221 : Cond.methodLink "JokePump$Reader" 30 ⟨"JokePump$Reader", "takeCommand", "(LJokePump$Strip;I)Z"⟩ ∈ lw_g := lw_gm (tin2 (List.mem_of_getElem? (i := 221) (by decide +kernel))) (by decide +kernel)
theorem q2_223 : Cond.instanceMethod ⟨"JokePump$Reader", "takeCommand", "(LJokePump$Strip;I)Z"⟩ ∈ lw_g := lw_gm (tin2 (List.mem_of_getElem? (i := 223) (by decide +kernel))) (by decide +kernel)
theorem qs_13 : Cond.selects "JokePump$Reader" ⟨"JokePump$Reader", "takeCommand", "(LJokePump$Strip;I)Z"⟩ ⟨"JokePump$Reader", "takeCommand", "(LJokePump$Strip;I)Z"⟩ ∈ lw_g := lw_gm (tinS (q := (⟨"JokePump$Reader", "takeCommand", "(LJokePump$Strip;I)Z"⟩, 4)) (List.mem_of_getElem? (i := 13) (by decide +kernel))) (by decide +kernel)
theorem q1_8 : Cond.initialized "JokePump$Reader" ∈ lw_g := lw_gm (tin1 (List.mem_of_getElem? (i := 8) (by decide +kernel))) (by decide +kernel)
theorem q2_224 : Cond.code ⟨"JokePump$Reader", "takeCommand", "(LJokePump$Strip;I)Z"⟩ prog_4_method_4_code 4 (some .boolean) ∈ lw_g := lw_gm (tin2 (List.mem_of_getElem? (i := 224) (by decide +kernel))) (by decide +kernel)
theorem lk_X2_30 : LkV RX2 30 yX2_takeCommand cX2_takeCommand 4 (some .boolean) 2 := LkV_of q2_221 q2_223 qs_13 q1_8 q2_224 ⟨by decide, by decide, by decide +kernel⟩
theorem q3_48 : Cond.methodLink "JokePump$Reader" 39 ⟨"JokePump$Strip", "signAt", "(I)I"⟩ ∈ lw_g := lw_gm (tin3 (List.mem_of_getElem? (i := 48) (by decide +kernel))) (by decide +kernel)
theorem q3_49 : Cond.instanceMethod ⟨"JokePump$Strip", "signAt", "(I)I"⟩ ∈ lw_g := lw_gm (tin3 (List.mem_of_getElem? (i := 49) (by decide +kernel))) (by decide +kernel)
theorem q3_50 : Cond.selects "JokePump$Strip" ⟨"JokePump$Strip", "signAt", "(I)I"⟩ ⟨"JokePump$Strip", "signAt", "(I)I"⟩ ∈ lw_g := lw_gm (tin3 (List.mem_of_getElem? (i := 50) (by decide +kernel))) (by decide +kernel)
theorem q1_7 : Cond.initialized "JokePump$Strip" ∈ lw_g := lw_gm (tin1 (List.mem_of_getElem? (i := 7) (by decide +kernel))) (by decide +kernel)
theorem q3_51 : Cond.code ⟨"JokePump$Strip", "signAt", "(I)I"⟩ prog_7_method_5_code 2 (some .int) ∈ lw_g := lw_gm (tin3 (List.mem_of_getElem? (i := 51) (by decide +kernel))) (by decide +kernel)
theorem lk_X2_39 : LkV RX2 39 yX5_signAt cX5_signAt 2 (some .int) 1 := LkV_of q3_48 q3_49 q3_50 q1_7 q3_51 ⟨by decide, by decide, by decide +kernel⟩
theorem q3_75 : Cond.methodLink "JokePump$Reader" 43 ⟨"JokePump$Row", "at", "(I)I"⟩ ∈ lw_g := lw_gm (tin3 (List.mem_of_getElem? (i := 75) (by decide +kernel))) (by decide +kernel)
theorem lk_X2_43 : LkV RX2 43 yX3_at cX3_at 2 (some .int) 1 := LkV_of q3_75 q2_67 q2_68 q1_4 q2_69 ⟨by decide, by decide, by decide +kernel⟩
theorem q2_225 : Cond.methodLink "JokePump$Reader" 46 ⟨"JokePump$Reader", "formOf", "(I)Ljava/lang/String;"⟩ ∈ lw_g := lw_gm (tin2 (List.mem_of_getElem? (i := 225) (by decide +kernel))) (by decide +kernel)
theorem q2_226 : Cond.static ⟨"JokePump$Reader", "formOf", "(I)Ljava/lang/String;"⟩ ∈ lw_g := lw_gm (tin2 (List.mem_of_getElem? (i := 226) (by decide +kernel))) (by decide +kernel)
theorem q2_227 : Cond.code ⟨"JokePump$Reader", "formOf", "(I)Ljava/lang/String;"⟩ prog_4_method_8_code 1 (some (.object "java/lang/String")) ∈ lw_g := lw_gm (tin2 (List.mem_of_getElem? (i := 227) (by decide +kernel))) (by decide +kernel)
theorem lk_X2_46 : LkS RX2 46 yX2_formOf cX2_formOf 1 (some (.object "java/lang/String")) 1 := LkS_of q2_225 q2_226 q1_8 q2_227 ⟨by decide, by decide, by decide +kernel⟩
theorem q2_236 : Cond.methodLink "JokePump$Reader" 50 ⟨"JokePump$Reader", "follow", "(LJokePump$Strip;ILjava/lang/String;)Z"⟩ ∈ lw_g := lw_gm (tin2 (List.mem_of_getElem? (i := 236) (by decide +kernel))) (by decide +kernel)
theorem q2_238 : Cond.instanceMethod ⟨"JokePump$Reader", "follow", "(LJokePump$Strip;ILjava/lang/String;)Z"⟩ ∈ lw_g := lw_gm (tin2 (List.mem_of_getElem? (i := 238) (by decide +kernel))) (by decide +kernel)
theorem qs_14 : Cond.selects "JokePump$Reader" ⟨"JokePump$Reader", "follow", "(LJokePump$Strip;ILjava/lang/String;)Z"⟩ ⟨"JokePump$Reader", "follow", "(LJokePump$Strip;ILjava/lang/String;)Z"⟩ ∈ lw_g := lw_gm (tinS (q := (⟨"JokePump$Reader", "follow", "(LJokePump$Strip;ILjava/lang/String;)Z"⟩, 4)) (List.mem_of_getElem? (i := 14) (by decide +kernel))) (by decide +kernel)
theorem q2_239 : Cond.code ⟨"JokePump$Reader", "follow", "(LJokePump$Strip;ILjava/lang/String;)Z"⟩ prog_4_method_5_code 9 (some .boolean) ∈ lw_g := lw_gm (tin2 (List.mem_of_getElem? (i := 239) (by decide +kernel))) (by decide +kernel)
theorem lk_X2_50 : LkV RX2 50 yX2_follow cX2_follow 9 (some .boolean) 3 := LkV_of q2_236 q2_238 qs_14 q1_8 q2_239 ⟨by decide, by decide, by decide +kernel⟩
theorem q3_59 : Cond.methodLink "JokePump$Reader" 54 ⟨"JokePump$Row", "put", "(II)V"⟩ ∈ lw_g := lw_gm (tin3 (List.mem_of_getElem? (i := 59) (by decide +kernel))) (by decide +kernel)
theorem lk_X2_54 : LkV RX2 54 yX3_put cX3_put 3 (none : Option Jvm.ClassFile.FieldType) 2 := LkV_of q3_59 q1_113 q1_114 q1_4 q1_115 ⟨by decide, by decide, by decide +kernel⟩
theorem q3_52 : Cond.methodLink "JokePump$Reader" 67 ⟨"JokePump$Reader", "takeNumber", "(LJokePump$Strip;IZI)I"⟩ ∈ lw_g := lw_gm (tin3 (List.mem_of_getElem? (i := 52) (by decide +kernel))) (by decide +kernel)
theorem q3_54 : Cond.instanceMethod ⟨"JokePump$Reader", "takeNumber", "(LJokePump$Strip;IZI)I"⟩ ∈ lw_g := lw_gm (tin3 (List.mem_of_getElem? (i := 54) (by decide +kernel))) (by decide +kernel)
theorem qs_15 : Cond.selects "JokePump$Reader" ⟨"JokePump$Reader", "takeNumber", "(LJokePump$Strip;IZI)I"⟩ ⟨"JokePump$Reader", "takeNumber", "(LJokePump$Strip;IZI)I"⟩ ∈ lw_g := lw_gm (tinS (q := (⟨"JokePump$Reader", "takeNumber", "(LJokePump$Strip;IZI)I"⟩, 4)) (List.mem_of_getElem? (i := 15) (by decide +kernel))) (by decide +kernel)
theorem q3_55 : Cond.code ⟨"JokePump$Reader", "takeNumber", "(LJokePump$Strip;IZI)I"⟩ prog_4_method_6_code 8 (some .int) ∈ lw_g := lw_gm (tin3 (List.mem_of_getElem? (i := 55) (by decide +kernel))) (by decide +kernel)
theorem lk_X2_67 : LkV RX2 67 yX2_takeNumber cX2_takeNumber 8 (some .int) 4 := LkV_of q3_52 q3_54 qs_15 q1_8 q3_55 ⟨by decide, by decide, by decide +kernel⟩
theorem q3_56 : Cond.methodLink "JokePump$Reader" 77 ⟨"JokePump$Reader", "digitAt", "(LJokePump$Strip;I)I"⟩ ∈ lw_g := lw_gm (tin3 (List.mem_of_getElem? (i := 56) (by decide +kernel))) (by decide +kernel)
theorem q3_57 : Cond.static ⟨"JokePump$Reader", "digitAt", "(LJokePump$Strip;I)I"⟩ ∈ lw_g := lw_gm (tin3 (List.mem_of_getElem? (i := 57) (by decide +kernel))) (by decide +kernel)
theorem q3_58 : Cond.code ⟨"JokePump$Reader", "digitAt", "(LJokePump$Strip;I)I"⟩ prog_4_method_7_code 3 (some .int) ∈ lw_g := lw_gm (tin3 (List.mem_of_getElem? (i := 58) (by decide +kernel))) (by decide +kernel)
theorem lk_X2_77 : LkS RX2 77 yX2_digitAt cX2_digitAt 3 (some .int) 2 := LkS_of q3_56 q3_57 q1_8 q3_58 ⟨by decide, by decide, by decide +kernel⟩
theorem q1_112 : Cond.methodLink "JokePump$State" 62 ⟨"JokePump$Row", "put", "(II)V"⟩ ∈ lw_g := lw_gm (tin1 (List.mem_of_getElem? (i := 112) (by decide +kernel))) (by decide +kernel)
theorem lk_X4_62 : LkV RX4 62 yX3_put cX3_put 3 (none : Option Jvm.ClassFile.FieldType) 2 := LkV_of q1_112 q1_113 q1_114 q1_4 q1_115 ⟨by decide, by decide, by decide +kernel⟩
theorem q2_188 : Cond.methodLink "JokePump$State" 75 ⟨"JokePump$Row", "at", "(I)I"⟩ ∈ lw_g := lw_gm (tin2 (List.mem_of_getElem? (i := 188) (by decide +kernel))) (by decide +kernel)
theorem lk_X4_75 : LkV RX4 75 yX3_at cX3_at 2 (some .int) 1 := LkV_of q2_188 q2_67 q2_68 q1_4 q2_69 ⟨by decide, by decide, by decide +kernel⟩
theorem q2_180 : Cond.methodLink "JokePump$State" 84 ⟨"JokePump$State", "reachBehind", "(II)I"⟩ ∈ lw_g := lw_gm (tin2 (List.mem_of_getElem? (i := 180) (by decide +kernel))) (by decide +kernel)
theorem q2_181 : Cond.static ⟨"JokePump$State", "reachBehind", "(II)I"⟩ ∈ lw_g := lw_gm (tin2 (List.mem_of_getElem? (i := 181) (by decide +kernel))) (by decide +kernel)
theorem q2_182 : Cond.code ⟨"JokePump$State", "reachBehind", "(II)I"⟩ prog_6_method_2_code 2 (some .int) ∈ lw_g := lw_gm (tin2 (List.mem_of_getElem? (i := 182) (by decide +kernel))) (by decide +kernel)
theorem lk_X4_84 : LkS RX4 84 yX4_reachBehind cX4_reachBehind 2 (some .int) 2 := LkS_of q2_180 q2_181 q1_2 q2_182 ⟨by decide, by decide, by decide +kernel⟩
theorem q2_184 : Cond.methodLink "JokePump$State" 87 ⟨"JokePump$State", "groansOf", "(I)I"⟩ ∈ lw_g := lw_gm (tin2 (List.mem_of_getElem? (i := 184) (by decide +kernel))) (by decide +kernel)
theorem q2_185 : Cond.static ⟨"JokePump$State", "groansOf", "(I)I"⟩ ∈ lw_g := lw_gm (tin2 (List.mem_of_getElem? (i := 185) (by decide +kernel))) (by decide +kernel)
theorem q2_186 : Cond.code ⟨"JokePump$State", "groansOf", "(I)I"⟩ prog_6_method_3_code 1 (some .int) ∈ lw_g := lw_gm (tin2 (List.mem_of_getElem? (i := 186) (by decide +kernel))) (by decide +kernel)
theorem lk_X4_87 : LkS RX4 87 yX4_groansOf cX4_groansOf 1 (some .int) 1 := LkS_of q2_184 q2_185 q1_2 q2_186 ⟨by decide, by decide, by decide +kernel⟩
theorem q2_187 : Cond.methodLink "JokePump$State" 90 ⟨"JokePump$Jokes", "countWithin", "(II)I"⟩ ∈ lw_g := lw_gm (tin2 (List.mem_of_getElem? (i := 187) (by decide +kernel))) (by decide +kernel)
theorem lk_X4_90 : LkV RX4 90 yX1_countWithin cX1_countWithin 5 (some .int) 2 := LkV_of q2_187 q2_88 q2_89 q1_3 q2_90 ⟨by decide, by decide, by decide +kernel⟩
theorem q2_189 : Cond.methodLink "JokePump$State" 93 ⟨"JokePump$Jokes", "byDepth", "(II)I"⟩ ∈ lw_g := lw_gm (tin2 (List.mem_of_getElem? (i := 189) (by decide +kernel))) (by decide +kernel)
theorem q2_190 : Cond.instanceMethod ⟨"JokePump$Jokes", "byDepth", "(II)I"⟩ ∈ lw_g := lw_gm (tin2 (List.mem_of_getElem? (i := 190) (by decide +kernel))) (by decide +kernel)
theorem q2_191 : Cond.selects "JokePump$Jokes" ⟨"JokePump$Jokes", "byDepth", "(II)I"⟩ ⟨"JokePump$Jokes", "byDepth", "(II)I"⟩ ∈ lw_g := lw_gm (tin2 (List.mem_of_getElem? (i := 191) (by decide +kernel))) (by decide +kernel)
theorem q2_192 : Cond.code ⟨"JokePump$Jokes", "byDepth", "(II)I"⟩ prog_3_method_9_code 4 (some .int) ∈ lw_g := lw_gm (tin2 (List.mem_of_getElem? (i := 192) (by decide +kernel))) (by decide +kernel)
theorem lk_X4_93 : LkV RX4 93 yX1_byDepth cX1_byDepth 4 (some .int) 2 := LkV_of q2_189 q2_190 q2_191 q1_3 q2_192 ⟨by decide, by decide, by decide +kernel⟩
theorem q2_193 : Cond.methodLink "JokePump$State" 96 ⟨"JokePump$State", "lift", "(I)V"⟩ ∈ lw_g := lw_gm (tin2 (List.mem_of_getElem? (i := 193) (by decide +kernel))) (by decide +kernel)
theorem q2_195 : Cond.instanceMethod ⟨"JokePump$State", "lift", "(I)V"⟩ ∈ lw_g := lw_gm (tin2 (List.mem_of_getElem? (i := 195) (by decide +kernel))) (by decide +kernel)
theorem qs_11 : Cond.selects "JokePump$State" ⟨"JokePump$State", "lift", "(I)V"⟩ ⟨"JokePump$State", "lift", "(I)V"⟩ ∈ lw_g := lw_gm (tinS (q := (⟨"JokePump$State", "lift", "(I)V"⟩, 12)) (List.mem_of_getElem? (i := 11) (by decide +kernel))) (by decide +kernel)
theorem q2_196 : Cond.code ⟨"JokePump$State", "lift", "(I)V"⟩ prog_6_method_6_code 2 (none : Option Jvm.ClassFile.FieldType) ∈ lw_g := lw_gm (tin2 (List.mem_of_getElem? (i := 196) (by decide +kernel))) (by decide +kernel)
theorem lk_X4_96 : LkV RX4 96 yX4_lift cX4_lift 2 (none : Option Jvm.ClassFile.FieldType) 1 := LkV_of q2_193 q2_195 qs_11 q1_2 q2_196 ⟨by decide, by decide, by decide +kernel⟩
theorem q2_197 : Cond.methodLink "JokePump$State" 105 ⟨"JokePump$State", "laughOf", "(II)F"⟩ ∈ lw_g := lw_gm (tin2 (List.mem_of_getElem? (i := 197) (by decide +kernel))) (by decide +kernel)
theorem q2_198 : Cond.instanceMethod ⟨"JokePump$State", "laughOf", "(II)F"⟩ ∈ lw_g := lw_gm (tin2 (List.mem_of_getElem? (i := 198) (by decide +kernel))) (by decide +kernel)
theorem q2_199 : Cond.selects "JokePump$State" ⟨"JokePump$State", "laughOf", "(II)F"⟩ ⟨"JokePump$State", "laughOf", "(II)F"⟩ ∈ lw_g := lw_gm (tin2 (List.mem_of_getElem? (i := 199) (by decide +kernel))) (by decide +kernel)
theorem q2_200 : Cond.code ⟨"JokePump$State", "laughOf", "(II)F"⟩ prog_6_method_4_code 4 (some .float) ∈ lw_g := lw_gm (tin2 (List.mem_of_getElem? (i := 200) (by decide +kernel))) (by decide +kernel)
theorem lk_X4_105 : LkV RX4 105 yX4_laughOf cX4_laughOf 4 (some .float) 2 := LkV_of q2_197 q2_198 q2_199 q1_2 q2_200 ⟨by decide, by decide, by decide +kernel⟩
theorem q2_203 : Cond.methodLink "JokePump$State" 109 ⟨"JokePump$Told", "add", "(IIF)V"⟩ ∈ lw_g := lw_gm (tin2 (List.mem_of_getElem? (i := 203) (by decide +kernel))) (by decide +kernel)
theorem q2_204 : Cond.instanceMethod ⟨"JokePump$Told", "add", "(IIF)V"⟩ ∈ lw_g := lw_gm (tin2 (List.mem_of_getElem? (i := 204) (by decide +kernel))) (by decide +kernel)
theorem q2_205 : Cond.selects "JokePump$Told" ⟨"JokePump$Told", "add", "(IIF)V"⟩ ⟨"JokePump$Told", "add", "(IIF)V"⟩ ∈ lw_g := lw_gm (tin2 (List.mem_of_getElem? (i := 205) (by decide +kernel))) (by decide +kernel)
theorem q1_5 : Cond.initialized "JokePump$Told" ∈ lw_g := lw_gm (tin1 (List.mem_of_getElem? (i := 5) (by decide +kernel))) (by decide +kernel)
theorem q2_206 : Cond.code ⟨"JokePump$Told", "add", "(IIF)V"⟩ prog_8_method_2_code 4 (none : Option Jvm.ClassFile.FieldType) ∈ lw_g := lw_gm (tin2 (List.mem_of_getElem? (i := 206) (by decide +kernel))) (by decide +kernel)
theorem lk_X4_109 : LkV RX4 109 yX6_add cX6_add 4 (none : Option Jvm.ClassFile.FieldType) 3 := LkV_of q2_203 q2_204 q2_205 q1_5 q2_206 ⟨by decide, by decide, by decide +kernel⟩
theorem q2_208 : Cond.methodLink "JokePump$State" 113 ⟨"JokePump$Jokes", "remove", "(I)V"⟩ ∈ lw_g := lw_gm (tin2 (List.mem_of_getElem? (i := 208) (by decide +kernel))) (by decide +kernel)
theorem q2_127 : Cond.instanceMethod ⟨"JokePump$Jokes", "remove", "(I)V"⟩ ∈ lw_g := lw_gm (tin2 (List.mem_of_getElem? (i := 127) (by decide +kernel))) (by decide +kernel)
theorem q2_128 : Cond.selects "JokePump$Jokes" ⟨"JokePump$Jokes", "remove", "(I)V"⟩ ⟨"JokePump$Jokes", "remove", "(I)V"⟩ ∈ lw_g := lw_gm (tin2 (List.mem_of_getElem? (i := 128) (by decide +kernel))) (by decide +kernel)
theorem q2_129 : Cond.code ⟨"JokePump$Jokes", "remove", "(I)V"⟩ prog_3_method_4_code 2 (none : Option Jvm.ClassFile.FieldType) ∈ lw_g := lw_gm (tin2 (List.mem_of_getElem? (i := 129) (by decide +kernel))) (by decide +kernel)
theorem lk_X4_113 : LkV RX4 113 yX1_remove cX1_remove 2 (none : Option Jvm.ClassFile.FieldType) 1 := LkV_of q2_208 q2_127 q2_128 q1_3 q2_129 ⟨by decide, by decide, by decide +kernel⟩
theorem q2_37 : Cond.methodLink "JokePump$State" 116 ⟨"JokePump$Jokes", "copy", "(LJokePump$Jokes;LJokePump$Jokes;)V"⟩ ∈ lw_g := lw_gm (tin2 (List.mem_of_getElem? (i := 37) (by decide +kernel))) (by decide +kernel)
theorem q2_38 : Cond.static ⟨"JokePump$Jokes", "copy", "(LJokePump$Jokes;LJokePump$Jokes;)V"⟩ ∈ lw_g := lw_gm (tin2 (List.mem_of_getElem? (i := 38) (by decide +kernel))) (by decide +kernel)
theorem q2_39 : Cond.code ⟨"JokePump$Jokes", "copy", "(LJokePump$Jokes;LJokePump$Jokes;)V"⟩ prog_3_method_12_code 2 (none : Option Jvm.ClassFile.FieldType) ∈ lw_g := lw_gm (tin2 (List.mem_of_getElem? (i := 39) (by decide +kernel))) (by decide +kernel)
theorem lk_X4_116 : LkS RX4 116 yX1_copy cX1_copy 2 (none : Option Jvm.ClassFile.FieldType) 2 := LkS_of q2_37 q2_38 q1_3 q2_39 ⟨by decide, by decide, by decide +kernel⟩
theorem q2_49 : Cond.methodLink "JokePump$State" 120 ⟨"JokePump$Told", "copy", "(LJokePump$Told;LJokePump$Told;)V"⟩ ∈ lw_g := lw_gm (tin2 (List.mem_of_getElem? (i := 49) (by decide +kernel))) (by decide +kernel)
theorem q2_50 : Cond.static ⟨"JokePump$Told", "copy", "(LJokePump$Told;LJokePump$Told;)V"⟩ ∈ lw_g := lw_gm (tin2 (List.mem_of_getElem? (i := 50) (by decide +kernel))) (by decide +kernel)
theorem q2_51 : Cond.code ⟨"JokePump$Told", "copy", "(LJokePump$Told;LJokePump$Told;)V"⟩ prog_8_method_7_code 2 (none : Option Jvm.ClassFile.FieldType) ∈ lw_g := lw_gm (tin2 (List.mem_of_getElem? (i := 51) (by decide +kernel))) (by decide +kernel)
theorem lk_X4_120 : LkS RX4 120 yX6_copy cX6_copy 2 (none : Option Jvm.ClassFile.FieldType) 2 := LkS_of q2_49 q2_50 q1_5 q2_51 ⟨by decide, by decide, by decide +kernel⟩
theorem q2_55 : Cond.methodLink "JokePump$State" 123 ⟨"JokePump$Row", "copy", "(LJokePump$Row;LJokePump$Row;)V"⟩ ∈ lw_g := lw_gm (tin2 (List.mem_of_getElem? (i := 55) (by decide +kernel))) (by decide +kernel)
theorem lk_X4_123 : LkS RX4 123 yX3_copy cX3_copy 3 (none : Option Jvm.ClassFile.FieldType) 2 := LkS_of q2_55 q2_41 q1_4 q2_42 ⟨by decide, by decide, by decide +kernel⟩
theorem q4_32 : Cond.methodLink "JokePump$Strip" 19 ⟨"JokePump$Strip", "putSign", "(C)V"⟩ ∈ lw_g := lw_gm (tin4 (List.mem_of_getElem? (i := 32) (by decide +kernel))) (by decide +kernel)
theorem q4_33 : Cond.instanceMethod ⟨"JokePump$Strip", "putSign", "(C)V"⟩ ∈ lw_g := lw_gm (tin4 (List.mem_of_getElem? (i := 33) (by decide +kernel))) (by decide +kernel)
theorem q4_34 : Cond.selects "JokePump$Strip" ⟨"JokePump$Strip", "putSign", "(C)V"⟩ ⟨"JokePump$Strip", "putSign", "(C)V"⟩ ∈ lw_g := lw_gm (tin4 (List.mem_of_getElem? (i := 34) (by decide +kernel))) (by decide +kernel)
theorem q4_35 : Cond.code ⟨"JokePump$Strip", "putSign", "(C)V"⟩ prog_7_method_3_code 2 (none : Option Jvm.ClassFile.FieldType) ∈ lw_g := lw_gm (tin4 (List.mem_of_getElem? (i := 35) (by decide +kernel))) (by decide +kernel)
theorem lk_X5_19 : LkV RX5 19 yX5_putSign cX5_putSign 2 (none : Option Jvm.ClassFile.FieldType) 1 := LkV_of q4_32 q4_33 q4_34 q1_7 q4_35 ⟨by decide, by decide, by decide +kernel⟩
theorem q2_207 : Cond.methodLink "JokePump$Told" 38 ⟨"JokePump$Row", "put", "(II)V"⟩ ∈ lw_g := lw_gm (tin2 (List.mem_of_getElem? (i := 207) (by decide +kernel))) (by decide +kernel)
theorem lk_X6_38 : LkV RX6 38 yX3_put cX3_put 3 (none : Option Jvm.ClassFile.FieldType) 2 := LkV_of q2_207 q1_113 q1_114 q1_4 q1_115 ⟨by decide, by decide, by decide +kernel⟩
theorem q3_190 : Cond.methodLink "JokePump$Told" 42 ⟨"JokePump$Told", "laughAt", "(I)F"⟩ ∈ lw_g := lw_gm (tin3 (List.mem_of_getElem? (i := 190) (by decide +kernel))) (by decide +kernel)
theorem q3_191 : Cond.instanceMethod ⟨"JokePump$Told", "laughAt", "(I)F"⟩ ∈ lw_g := lw_gm (tin3 (List.mem_of_getElem? (i := 191) (by decide +kernel))) (by decide +kernel)
theorem q3_192 : Cond.selects "JokePump$Told" ⟨"JokePump$Told", "laughAt", "(I)F"⟩ ⟨"JokePump$Told", "laughAt", "(I)F"⟩ ∈ lw_g := lw_gm (tin3 (List.mem_of_getElem? (i := 192) (by decide +kernel))) (by decide +kernel)
theorem q3_193 : Cond.code ⟨"JokePump$Told", "laughAt", "(I)F"⟩ prog_8_method_3_code 2 (some .float) ∈ lw_g := lw_gm (tin3 (List.mem_of_getElem? (i := 193) (by decide +kernel))) (by decide +kernel)
theorem lk_X6_42 : LkV RX6 42 yX6_laughAt cX6_laughAt 2 (some .float) 1 := LkV_of q3_190 q3_191 q3_192 q1_5 q3_193 ⟨by decide, by decide, by decide +kernel⟩
theorem q3_128 : Cond.methodLink "JokePump$Told" 46 ⟨"JokePump$Row", "at", "(I)I"⟩ ∈ lw_g := lw_gm (tin3 (List.mem_of_getElem? (i := 128) (by decide +kernel))) (by decide +kernel)
theorem lk_X6_46 : LkV RX6 46 yX3_at cX3_at 2 (some .int) 1 := LkV_of q3_128 q2_67 q2_68 q1_4 q2_69 ⟨by decide, by decide, by decide +kernel⟩
theorem q2_52 : Cond.methodLink "JokePump$Told" 50 ⟨"JokePump$Row", "copy", "(LJokePump$Row;LJokePump$Row;)V"⟩ ∈ lw_g := lw_gm (tin2 (List.mem_of_getElem? (i := 52) (by decide +kernel))) (by decide +kernel)
theorem lk_X6_50 : LkS RX6 50 yX3_copy cX3_copy 3 (none : Option Jvm.ClassFile.FieldType) 2 := LkS_of q2_52 q2_41 q1_4 q2_42 ⟨by decide, by decide, by decide +kernel⟩
theorem q2_26 : Cond.methodLink "JokePump" 63 ⟨"JokePump$History", "prepare", "(LJokePump$State;)V"⟩ ∈ lw_g := lw_gm (tin2 (List.mem_of_getElem? (i := 26) (by decide +kernel))) (by decide +kernel)
theorem q2_27 : Cond.instanceMethod ⟨"JokePump$History", "prepare", "(LJokePump$State;)V"⟩ ∈ lw_g := lw_gm (tin2 (List.mem_of_getElem? (i := 27) (by decide +kernel))) (by decide +kernel)
theorem q2_28 : Cond.selects "JokePump$History" ⟨"JokePump$History", "prepare", "(LJokePump$State;)V"⟩ ⟨"JokePump$History", "prepare", "(LJokePump$State;)V"⟩ ∈ lw_g := lw_gm (tin2 (List.mem_of_getElem? (i := 28) (by decide +kernel))) (by decide +kernel)
theorem q2_29 : Cond.code ⟨"JokePump$History", "prepare", "(LJokePump$State;)V"⟩ prog_2_method_2_code 2 (none : Option Jvm.ClassFile.FieldType) ∈ lw_g := lw_gm (tin2 (List.mem_of_getElem? (i := 29) (by decide +kernel))) (by decide +kernel)
theorem lk_X7_63 : LkV RX7 63 yX0_prepare cX0_prepare 2 (none : Option Jvm.ClassFile.FieldType) 1 := LkV_of q2_26 q2_27 q2_28 q1_6 q2_29 ⟨by decide, by decide, by decide +kernel⟩
theorem q2_56 : Cond.methodLink "JokePump" 67 ⟨"JokePump", "letCome", "(IIII)I"⟩ ∈ lw_g := lw_gm (tin2 (List.mem_of_getElem? (i := 56) (by decide +kernel))) (by decide +kernel)
theorem q2_58 : Cond.instanceMethod ⟨"JokePump", "letCome", "(IIII)I"⟩ ∈ lw_g := lw_gm (tin2 (List.mem_of_getElem? (i := 58) (by decide +kernel))) (by decide +kernel)
theorem qs_1 : Cond.selects "JokePump" ⟨"JokePump", "letCome", "(IIII)I"⟩ ⟨"JokePump", "letCome", "(IIII)I"⟩ ∈ lw_g := lw_gm (tinS (q := (⟨"JokePump", "letCome", "(IIII)I"⟩, 12)) (List.mem_of_getElem? (i := 1) (by decide +kernel))) (by decide +kernel)
theorem q2_59 : Cond.code ⟨"JokePump", "letCome", "(IIII)I"⟩ prog_1_method_40_code 7 (some .int) ∈ lw_g := lw_gm (tin2 (List.mem_of_getElem? (i := 59) (by decide +kernel))) (by decide +kernel)
theorem lk_X7_67 : LkV RX7 67 yX7_letCome cX7_letCome 7 (some .int) 4 := LkV_of q2_56 q2_58 qs_1 q1_1 q2_59 ⟨by decide, by decide, by decide +kernel⟩
theorem q2_96 : Cond.methodLink "JokePump" 71 ⟨"JokePump", "keepChange", "(I)I"⟩ ∈ lw_g := lw_gm (tin2 (List.mem_of_getElem? (i := 96) (by decide +kernel))) (by decide +kernel)
theorem q2_98 : Cond.instanceMethod ⟨"JokePump", "keepChange", "(I)I"⟩ ∈ lw_g := lw_gm (tin2 (List.mem_of_getElem? (i := 98) (by decide +kernel))) (by decide +kernel)
theorem qs_3 : Cond.selects "JokePump" ⟨"JokePump", "keepChange", "(I)I"⟩ ⟨"JokePump", "keepChange", "(I)I"⟩ ∈ lw_g := lw_gm (tinS (q := (⟨"JokePump", "keepChange", "(I)I"⟩, 12)) (List.mem_of_getElem? (i := 3) (by decide +kernel))) (by decide +kernel)
theorem q2_99 : Cond.code ⟨"JokePump", "keepChange", "(I)I"⟩ prog_1_method_48_code 2 (some .int) ∈ lw_g := lw_gm (tin2 (List.mem_of_getElem? (i := 99) (by decide +kernel))) (by decide +kernel)
theorem lk_X7_71 : LkV RX7 71 yX7_keepChange cX7_keepChange 2 (some .int) 1 := LkV_of q2_96 q2_98 qs_3 q1_1 q2_99 ⟨by decide, by decide, by decide +kernel⟩
theorem q2_109 : Cond.methodLink "JokePump" 75 ⟨"JokePump", "makePrimed", "(I)I"⟩ ∈ lw_g := lw_gm (tin2 (List.mem_of_getElem? (i := 109) (by decide +kernel))) (by decide +kernel)
theorem q2_111 : Cond.instanceMethod ⟨"JokePump", "makePrimed", "(I)I"⟩ ∈ lw_g := lw_gm (tin2 (List.mem_of_getElem? (i := 111) (by decide +kernel))) (by decide +kernel)
theorem qs_4 : Cond.selects "JokePump" ⟨"JokePump", "makePrimed", "(I)I"⟩ ⟨"JokePump", "makePrimed", "(I)I"⟩ ∈ lw_g := lw_gm (tinS (q := (⟨"JokePump", "makePrimed", "(I)I"⟩, 12)) (List.mem_of_getElem? (i := 4) (by decide +kernel))) (by decide +kernel)
theorem q2_112 : Cond.code ⟨"JokePump", "makePrimed", "(I)I"⟩ prog_1_method_41_code 2 (some .int) ∈ lw_g := lw_gm (tin2 (List.mem_of_getElem? (i := 112) (by decide +kernel))) (by decide +kernel)
theorem lk_X7_75 : LkV RX7 75 yX7_makePrimed cX7_makePrimed 2 (some .int) 1 := LkV_of q2_109 q2_111 qs_4 q1_1 q2_112 ⟨by decide, by decide, by decide +kernel⟩
theorem q2_122 : Cond.methodLink "JokePump" 78 ⟨"JokePump", "letGo", "(I)I"⟩ ∈ lw_g := lw_gm (tin2 (List.mem_of_getElem? (i := 122) (by decide +kernel))) (by decide +kernel)
theorem q2_124 : Cond.instanceMethod ⟨"JokePump", "letGo", "(I)I"⟩ ∈ lw_g := lw_gm (tin2 (List.mem_of_getElem? (i := 124) (by decide +kernel))) (by decide +kernel)
theorem qs_5 : Cond.selects "JokePump" ⟨"JokePump", "letGo", "(I)I"⟩ ⟨"JokePump", "letGo", "(I)I"⟩ ∈ lw_g := lw_gm (tinS (q := (⟨"JokePump", "letGo", "(I)I"⟩, 12)) (List.mem_of_getElem? (i := 5) (by decide +kernel))) (by decide +kernel)
theorem q2_125 : Cond.code ⟨"JokePump", "letGo", "(I)I"⟩ prog_1_method_42_code 2 (some .int) ∈ lw_g := lw_gm (tin2 (List.mem_of_getElem? (i := 125) (by decide +kernel))) (by decide +kernel)
theorem lk_X7_78 : LkV RX7 78 yX7_letGo cX7_letGo 2 (some .int) 1 := LkV_of q2_122 q2_124 qs_5 q1_1 q2_125 ⟨by decide, by decide, by decide +kernel⟩
theorem q2_139 : Cond.methodLink "JokePump" 81 ⟨"JokePump", "drainGroans", "(I)I"⟩ ∈ lw_g := lw_gm (tin2 (List.mem_of_getElem? (i := 139) (by decide +kernel))) (by decide +kernel)
theorem q2_141 : Cond.instanceMethod ⟨"JokePump", "drainGroans", "(I)I"⟩ ∈ lw_g := lw_gm (tin2 (List.mem_of_getElem? (i := 141) (by decide +kernel))) (by decide +kernel)
theorem qs_6 : Cond.selects "JokePump" ⟨"JokePump", "drainGroans", "(I)I"⟩ ⟨"JokePump", "drainGroans", "(I)I"⟩ ∈ lw_g := lw_gm (tinS (q := (⟨"JokePump", "drainGroans", "(I)I"⟩, 12)) (List.mem_of_getElem? (i := 6) (by decide +kernel))) (by decide +kernel)
theorem q2_142 : Cond.code ⟨"JokePump", "drainGroans", "(I)I"⟩ prog_1_method_43_code 2 (some .int) ∈ lw_g := lw_gm (tin2 (List.mem_of_getElem? (i := 142) (by decide +kernel))) (by decide +kernel)
theorem lk_X7_81 : LkV RX7 81 yX7_drainGroans cX7_drainGroans 2 (some .int) 1 := LkV_of q2_139 q2_141 qs_6 q1_1 q2_142 ⟨by decide, by decide, by decide +kernel⟩
theorem q2_148 : Cond.methodLink "JokePump" 84 ⟨"JokePump", "setStroke", "(I)I"⟩ ∈ lw_g := lw_gm (tin2 (List.mem_of_getElem? (i := 148) (by decide +kernel))) (by decide +kernel)
theorem q2_150 : Cond.instanceMethod ⟨"JokePump", "setStroke", "(I)I"⟩ ∈ lw_g := lw_gm (tin2 (List.mem_of_getElem? (i := 150) (by decide +kernel))) (by decide +kernel)
theorem qs_7 : Cond.selects "JokePump" ⟨"JokePump", "setStroke", "(I)I"⟩ ⟨"JokePump", "setStroke", "(I)I"⟩ ∈ lw_g := lw_gm (tinS (q := (⟨"JokePump", "setStroke", "(I)I"⟩, 12)) (List.mem_of_getElem? (i := 7) (by decide +kernel))) (by decide +kernel)
theorem q2_151 : Cond.code ⟨"JokePump", "setStroke", "(I)I"⟩ prog_1_method_44_code 3 (some .int) ∈ lw_g := lw_gm (tin2 (List.mem_of_getElem? (i := 151) (by decide +kernel))) (by decide +kernel)
theorem lk_X7_84 : LkV RX7 84 yX7_setStroke cX7_setStroke 3 (some .int) 1 := LkV_of q2_148 q2_150 qs_7 q1_1 q2_151 ⟨by decide, by decide, by decide +kernel⟩
theorem q2_156 : Cond.methodLink "JokePump" 87 ⟨"JokePump", "setBucket", "(II)I"⟩ ∈ lw_g := lw_gm (tin2 (List.mem_of_getElem? (i := 156) (by decide +kernel))) (by decide +kernel)
theorem q2_158 : Cond.instanceMethod ⟨"JokePump", "setBucket", "(II)I"⟩ ∈ lw_g := lw_gm (tin2 (List.mem_of_getElem? (i := 158) (by decide +kernel))) (by decide +kernel)
theorem qs_8 : Cond.selects "JokePump" ⟨"JokePump", "setBucket", "(II)I"⟩ ⟨"JokePump", "setBucket", "(II)I"⟩ ∈ lw_g := lw_gm (tinS (q := (⟨"JokePump", "setBucket", "(II)I"⟩, 12)) (List.mem_of_getElem? (i := 8) (by decide +kernel))) (by decide +kernel)
theorem q2_159 : Cond.code ⟨"JokePump", "setBucket", "(II)I"⟩ prog_1_method_45_code 4 (some .int) ∈ lw_g := lw_gm (tin2 (List.mem_of_getElem? (i := 159) (by decide +kernel))) (by decide +kernel)
theorem lk_X7_87 : LkV RX7 87 yX7_setBucket cX7_setBucket 4 (some .int) 2 := LkV_of q2_156 q2_158 qs_8 q1_1 q2_159 ⟨by decide, by decide, by decide +kernel⟩
theorem q2_164 : Cond.methodLink "JokePump" 91 ⟨"JokePump", "moveTo", "(I)I"⟩ ∈ lw_g := lw_gm (tin2 (List.mem_of_getElem? (i := 164) (by decide +kernel))) (by decide +kernel)
theorem q2_166 : Cond.instanceMethod ⟨"JokePump", "moveTo", "(I)I"⟩ ∈ lw_g := lw_gm (tin2 (List.mem_of_getElem? (i := 166) (by decide +kernel))) (by decide +kernel)
theorem qs_9 : Cond.selects "JokePump" ⟨"JokePump", "moveTo", "(I)I"⟩ ⟨"JokePump", "moveTo", "(I)I"⟩ ∈ lw_g := lw_gm (tinS (q := (⟨"JokePump", "moveTo", "(I)I"⟩, 12)) (List.mem_of_getElem? (i := 9) (by decide +kernel))) (by decide +kernel)
theorem q2_167 : Cond.code ⟨"JokePump", "moveTo", "(I)I"⟩ prog_1_method_46_code 3 (some .int) ∈ lw_g := lw_gm (tin2 (List.mem_of_getElem? (i := 167) (by decide +kernel))) (by decide +kernel)
theorem lk_X7_91 : LkV RX7 91 yX7_moveTo cX7_moveTo 3 (some .int) 1 := LkV_of q2_164 q2_166 qs_9 q1_1 q2_167 ⟨by decide, by decide, by decide +kernel⟩
theorem q2_172 : Cond.methodLink "JokePump" 94 ⟨"JokePump", "makeStrokes", "(I)I"⟩ ∈ lw_g := lw_gm (tin2 (List.mem_of_getElem? (i := 172) (by decide +kernel))) (by decide +kernel)
theorem q2_174 : Cond.instanceMethod ⟨"JokePump", "makeStrokes", "(I)I"⟩ ∈ lw_g := lw_gm (tin2 (List.mem_of_getElem? (i := 174) (by decide +kernel))) (by decide +kernel)
theorem qs_10 : Cond.selects "JokePump" ⟨"JokePump", "makeStrokes", "(I)I"⟩ ⟨"JokePump", "makeStrokes", "(I)I"⟩ ∈ lw_g := lw_gm (tinS (q := (⟨"JokePump", "makeStrokes", "(I)I"⟩, 12)) (List.mem_of_getElem? (i := 10) (by decide +kernel))) (by decide +kernel)
theorem q2_175 : Cond.code ⟨"JokePump", "makeStrokes", "(I)I"⟩ prog_1_method_47_code 4 (some .int) ∈ lw_g := lw_gm (tin2 (List.mem_of_getElem? (i := 175) (by decide +kernel))) (by decide +kernel)
theorem lk_X7_94 : LkV RX7 94 yX7_makeStrokes cX7_makeStrokes 4 (some .int) 1 := LkV_of q2_172 q2_174 qs_10 q1_1 q2_175 ⟨by decide, by decide, by decide +kernel⟩
theorem q2_213 : Cond.methodLink "JokePump" 97 ⟨"JokePump", "readInput", "()I"⟩ ∈ lw_g := lw_gm (tin2 (List.mem_of_getElem? (i := 213) (by decide +kernel))) (by decide +kernel)
theorem q2_215 : Cond.instanceMethod ⟨"JokePump", "readInput", "()I"⟩ ∈ lw_g := lw_gm (tin2 (List.mem_of_getElem? (i := 215) (by decide +kernel))) (by decide +kernel)
theorem qs_12 : Cond.selects "JokePump" ⟨"JokePump", "readInput", "()I"⟩ ⟨"JokePump", "readInput", "()I"⟩ ∈ lw_g := lw_gm (tinS (q := (⟨"JokePump", "readInput", "()I"⟩, 12)) (List.mem_of_getElem? (i := 12) (by decide +kernel))) (by decide +kernel)
theorem q2_216 : Cond.code ⟨"JokePump", "readInput", "()I"⟩ prog_1_method_50_code 2 (some .int) ∈ lw_g := lw_gm (tin2 (List.mem_of_getElem? (i := 216) (by decide +kernel))) (by decide +kernel)
theorem lk_X7_97 : LkV RX7 97 yX7_readInput cX7_readInput 2 (some .int) 0 := LkV_of q2_213 q2_215 qs_12 q1_1 q2_216 ⟨by decide, by decide, by decide +kernel⟩
theorem q3_84 : Cond.methodLink "JokePump" 101 ⟨"JokePump$Strip", "clear", "()V"⟩ ∈ lw_g := lw_gm (tin3 (List.mem_of_getElem? (i := 84) (by decide +kernel))) (by decide +kernel)
theorem q3_85 : Cond.instanceMethod ⟨"JokePump$Strip", "clear", "()V"⟩ ∈ lw_g := lw_gm (tin3 (List.mem_of_getElem? (i := 85) (by decide +kernel))) (by decide +kernel)
theorem q3_86 : Cond.selects "JokePump$Strip" ⟨"JokePump$Strip", "clear", "()V"⟩ ⟨"JokePump$Strip", "clear", "()V"⟩ ∈ lw_g := lw_gm (tin3 (List.mem_of_getElem? (i := 86) (by decide +kernel))) (by decide +kernel)
theorem q3_87 : Cond.code ⟨"JokePump$Strip", "clear", "()V"⟩ prog_7_method_2_code 1 (none : Option Jvm.ClassFile.FieldType) ∈ lw_g := lw_gm (tin3 (List.mem_of_getElem? (i := 87) (by decide +kernel))) (by decide +kernel)
theorem lk_X7_101 : LkV RX7 101 yX5_clear cX5_clear 1 (none : Option Jvm.ClassFile.FieldType) 0 := LkV_of q3_84 q3_85 q3_86 q1_7 q3_87 ⟨by decide, by decide, by decide +kernel⟩
theorem q3_93 : Cond.methodLink "JokePump" 107 ⟨"JokePump$History", "takeBack", "(LJokePump$State;)V"⟩ ∈ lw_g := lw_gm (tin3 (List.mem_of_getElem? (i := 93) (by decide +kernel))) (by decide +kernel)
theorem q3_94 : Cond.instanceMethod ⟨"JokePump$History", "takeBack", "(LJokePump$State;)V"⟩ ∈ lw_g := lw_gm (tin3 (List.mem_of_getElem? (i := 94) (by decide +kernel))) (by decide +kernel)
theorem q3_95 : Cond.selects "JokePump$History" ⟨"JokePump$History", "takeBack", "(LJokePump$State;)V"⟩ ⟨"JokePump$History", "takeBack", "(LJokePump$State;)V"⟩ ∈ lw_g := lw_gm (tin3 (List.mem_of_getElem? (i := 95) (by decide +kernel))) (by decide +kernel)
theorem q3_96 : Cond.code ⟨"JokePump$History", "takeBack", "(LJokePump$State;)V"⟩ prog_2_method_5_code 2 (none : Option Jvm.ClassFile.FieldType) ∈ lw_g := lw_gm (tin3 (List.mem_of_getElem? (i := 96) (by decide +kernel))) (by decide +kernel)
theorem lk_X7_107 : LkV RX7 107 yX0_takeBack cX0_takeBack 2 (none : Option Jvm.ClassFile.FieldType) 1 := LkV_of q3_93 q3_94 q3_95 q1_6 q3_96 ⟨by decide, by decide, by decide +kernel⟩
theorem q3_101 : Cond.methodLink "JokePump" 110 ⟨"JokePump$State", "copy", "(LJokePump$State;LJokePump$State;)V"⟩ ∈ lw_g := lw_gm (tin3 (List.mem_of_getElem? (i := 101) (by decide +kernel))) (by decide +kernel)
theorem lk_X7_110 : LkS RX7 110 yX4_copy cX4_copy 2 (none : Option Jvm.ClassFile.FieldType) 2 := LkS_of q3_101 q2_35 q1_2 q2_36 ⟨by decide, by decide, by decide +kernel⟩
theorem q3_106 : Cond.methodLink "JokePump" 121 ⟨"JokePump$History", "forget", "()V"⟩ ∈ lw_g := lw_gm (tin3 (List.mem_of_getElem? (i := 106) (by decide +kernel))) (by decide +kernel)
theorem q3_107 : Cond.instanceMethod ⟨"JokePump$History", "forget", "()V"⟩ ∈ lw_g := lw_gm (tin3 (List.mem_of_getElem? (i := 107) (by decide +kernel))) (by decide +kernel)
theorem q3_108 : Cond.selects "JokePump$History" ⟨"JokePump$History", "forget", "()V"⟩ ⟨"JokePump$History", "forget", "()V"⟩ ∈ lw_g := lw_gm (tin3 (List.mem_of_getElem? (i := 108) (by decide +kernel))) (by decide +kernel)
theorem q3_109 : Cond.code ⟨"JokePump$History", "forget", "()V"⟩ prog_2_method_6_code 1 (none : Option Jvm.ClassFile.FieldType) ∈ lw_g := lw_gm (tin3 (List.mem_of_getElem? (i := 109) (by decide +kernel))) (by decide +kernel)
theorem lk_X7_121 : LkV RX7 121 yX0_forget cX0_forget 1 (none : Option Jvm.ClassFile.FieldType) 0 := LkV_of q3_106 q3_107 q3_108 q1_6 q3_109 ⟨by decide, by decide, by decide +kernel⟩
theorem q2_113 : Cond.methodLink "JokePump" 124 ⟨"JokePump$Jokes", "has", "(I)Z"⟩ ∈ lw_g := lw_gm (tin2 (List.mem_of_getElem? (i := 113) (by decide +kernel))) (by decide +kernel)
theorem lk_X7_124 : LkV RX7 124 yX1_has cX1_has 2 (some .boolean) 1 := LkV_of q2_113 q2_114 q2_115 q1_3 q2_116 ⟨by decide, by decide, by decide +kernel⟩
theorem q2_66 : Cond.methodLink "JokePump" 132 ⟨"JokePump$Row", "at", "(I)I"⟩ ∈ lw_g := lw_gm (tin2 (List.mem_of_getElem? (i := 66) (by decide +kernel))) (by decide +kernel)
theorem lk_X7_132 : LkV RX7 132 yX3_at cX3_at 2 (some .int) 1 := LkV_of q2_66 q2_67 q2_68 q1_4 q2_69 ⟨by decide, by decide, by decide +kernel⟩
theorem q3_114 : Cond.methodLink "JokePump" 149 ⟨"JokePump$Jokes", "countWithin", "(II)I"⟩ ∈ lw_g := lw_gm (tin3 (List.mem_of_getElem? (i := 114) (by decide +kernel))) (by decide +kernel)
theorem lk_X7_149 : LkV RX7 149 yX1_countWithin cX1_countWithin 5 (some .int) 2 := LkV_of q3_114 q2_88 q2_89 q1_3 q2_90 ⟨by decide, by decide, by decide +kernel⟩
theorem q2_60 : Cond.methodLink "JokePump" 152 ⟨"JokePump", "isWell", "(I)Z"⟩ ∈ lw_g := lw_gm (tin2 (List.mem_of_getElem? (i := 60) (by decide +kernel))) (by decide +kernel)
theorem q2_61 : Cond.static ⟨"JokePump", "isWell", "(I)Z"⟩ ∈ lw_g := lw_gm (tin2 (List.mem_of_getElem? (i := 61) (by decide +kernel))) (by decide +kernel)
theorem q2_62 : Cond.code ⟨"JokePump", "isWell", "(I)Z"⟩ prog_1_method_64_code 1 (some .boolean) ∈ lw_g := lw_gm (tin2 (List.mem_of_getElem? (i := 62) (by decide +kernel))) (by decide +kernel)
theorem lk_X7_152 : LkS RX7 152 yX7_isWell cX7_isWell 1 (some .boolean) 1 := LkS_of q2_60 q2_61 q1_1 q2_62 ⟨by decide, by decide, by decide +kernel⟩
theorem q2_83 : Cond.methodLink "JokePump" 158 ⟨"JokePump$Jokes", "countIn", "(I)I"⟩ ∈ lw_g := lw_gm (tin2 (List.mem_of_getElem? (i := 83) (by decide +kernel))) (by decide +kernel)
theorem q2_84 : Cond.instanceMethod ⟨"JokePump$Jokes", "countIn", "(I)I"⟩ ∈ lw_g := lw_gm (tin2 (List.mem_of_getElem? (i := 84) (by decide +kernel))) (by decide +kernel)
theorem q2_85 : Cond.selects "JokePump$Jokes" ⟨"JokePump$Jokes", "countIn", "(I)I"⟩ ⟨"JokePump$Jokes", "countIn", "(I)I"⟩ ∈ lw_g := lw_gm (tin2 (List.mem_of_getElem? (i := 85) (by decide +kernel))) (by decide +kernel)
theorem q2_86 : Cond.code ⟨"JokePump$Jokes", "countIn", "(I)I"⟩ prog_3_method_7_code 2 (some .int) ∈ lw_g := lw_gm (tin2 (List.mem_of_getElem? (i := 86) (by decide +kernel))) (by decide +kernel)
theorem lk_X7_158 : LkV RX7 158 yX1_countIn cX1_countIn 2 (some .int) 1 := LkV_of q2_83 q2_84 q2_85 q1_3 q2_86 ⟨by decide, by decide, by decide +kernel⟩
theorem q3_119 : Cond.methodLink "JokePump" 161 ⟨"JokePump", "leastDepth", "(I)I"⟩ ∈ lw_g := lw_gm (tin3 (List.mem_of_getElem? (i := 119) (by decide +kernel))) (by decide +kernel)
theorem q3_121 : Cond.instanceMethod ⟨"JokePump", "leastDepth", "(I)I"⟩ ∈ lw_g := lw_gm (tin3 (List.mem_of_getElem? (i := 121) (by decide +kernel))) (by decide +kernel)
theorem qs_19 : Cond.selects "JokePump" ⟨"JokePump", "leastDepth", "(I)I"⟩ ⟨"JokePump", "leastDepth", "(I)I"⟩ ∈ lw_g := lw_gm (tinS (q := (⟨"JokePump", "leastDepth", "(I)I"⟩, 12)) (List.mem_of_getElem? (i := 19) (by decide +kernel))) (by decide +kernel)
theorem q3_122 : Cond.code ⟨"JokePump", "leastDepth", "(I)I"⟩ prog_1_method_54_code 3 (some .int) ∈ lw_g := lw_gm (tin3 (List.mem_of_getElem? (i := 122) (by decide +kernel))) (by decide +kernel)
theorem lk_X7_161 : LkV RX7 161 yX7_leastDepth cX7_leastDepth 3 (some .int) 1 := LkV_of q3_119 q3_121 qs_19 q1_1 q3_122 ⟨by decide, by decide, by decide +kernel⟩
theorem q3_124 : Cond.methodLink "JokePump" 168 ⟨"JokePump$Told", "countFrom", "(I)I"⟩ ∈ lw_g := lw_gm (tin3 (List.mem_of_getElem? (i := 124) (by decide +kernel))) (by decide +kernel)
theorem q3_125 : Cond.instanceMethod ⟨"JokePump$Told", "countFrom", "(I)I"⟩ ∈ lw_g := lw_gm (tin3 (List.mem_of_getElem? (i := 125) (by decide +kernel))) (by decide +kernel)
theorem q3_126 : Cond.selects "JokePump$Told" ⟨"JokePump$Told", "countFrom", "(I)I"⟩ ⟨"JokePump$Told", "countFrom", "(I)I"⟩ ∈ lw_g := lw_gm (tin3 (List.mem_of_getElem? (i := 126) (by decide +kernel))) (by decide +kernel)
theorem q3_127 : Cond.code ⟨"JokePump$Told", "countFrom", "(I)I"⟩ prog_8_method_5_code 4 (some .int) ∈ lw_g := lw_gm (tin3 (List.mem_of_getElem? (i := 127) (by decide +kernel))) (by decide +kernel)
theorem lk_X7_168 : LkV RX7 168 yX6_countFrom cX6_countFrom 4 (some .int) 1 := LkV_of q3_124 q3_125 q3_126 q1_5 q3_127 ⟨by decide, by decide, by decide +kernel⟩
theorem q2_63 : Cond.methodLink "JokePump" 173 ⟨"JokePump", "isWithin", "(III)Z"⟩ ∈ lw_g := lw_gm (tin2 (List.mem_of_getElem? (i := 63) (by decide +kernel))) (by decide +kernel)
theorem q2_64 : Cond.static ⟨"JokePump", "isWithin", "(III)Z"⟩ ∈ lw_g := lw_gm (tin2 (List.mem_of_getElem? (i := 64) (by decide +kernel))) (by decide +kernel)
theorem q2_65 : Cond.code ⟨"JokePump", "isWithin", "(III)Z"⟩ prog_1_method_65_code 3 (some .boolean) ∈ lw_g := lw_gm (tin2 (List.mem_of_getElem? (i := 65) (by decide +kernel))) (by decide +kernel)
theorem lk_X7_173 : LkS RX7 173 yX7_isWithin cX7_isWithin 3 (some .boolean) 3 := LkS_of q2_63 q2_64 q1_1 q2_65 ⟨by decide, by decide, by decide +kernel⟩
theorem q3_123 : Cond.methodLink "JokePump" 180 ⟨"JokePump$Jokes", "byDepth", "(II)I"⟩ ∈ lw_g := lw_gm (tin3 (List.mem_of_getElem? (i := 123) (by decide +kernel))) (by decide +kernel)
theorem lk_X7_180 : LkV RX7 180 yX1_byDepth cX1_byDepth 4 (some .int) 2 := LkV_of q3_123 q2_190 q2_191 q1_3 q2_192 ⟨by decide, by decide, by decide +kernel⟩
theorem q3_141 : Cond.methodLink "JokePump" 183 ⟨"JokePump", "countFunnier", "(I)I"⟩ ∈ lw_g := lw_gm (tin3 (List.mem_of_getElem? (i := 141) (by decide +kernel))) (by decide +kernel)
theorem q3_143 : Cond.instanceMethod ⟨"JokePump", "countFunnier", "(I)I"⟩ ∈ lw_g := lw_gm (tin3 (List.mem_of_getElem? (i := 143) (by decide +kernel))) (by decide +kernel)
theorem qs_20 : Cond.selects "JokePump" ⟨"JokePump", "countFunnier", "(I)I"⟩ ⟨"JokePump", "countFunnier", "(I)I"⟩ ∈ lw_g := lw_gm (tinS (q := (⟨"JokePump", "countFunnier", "(I)I"⟩, 12)) (List.mem_of_getElem? (i := 20) (by decide +kernel))) (by decide +kernel)
theorem q3_144 : Cond.code ⟨"JokePump", "countFunnier", "(I)I"⟩ prog_1_method_55_code 4 (some .int) ∈ lw_g := lw_gm (tin3 (List.mem_of_getElem? (i := 144) (by decide +kernel))) (by decide +kernel)
theorem lk_X7_183 : LkV RX7 183 yX7_countFunnier cX7_countFunnier 4 (some .int) 1 := LkV_of q3_141 q3_143 qs_20 q1_1 q3_144 ⟨by decide, by decide, by decide +kernel⟩
theorem q3_154 : Cond.methodLink "JokePump" 186 ⟨"JokePump", "countFuller", "(I)I"⟩ ∈ lw_g := lw_gm (tin3 (List.mem_of_getElem? (i := 154) (by decide +kernel))) (by decide +kernel)
theorem q3_156 : Cond.instanceMethod ⟨"JokePump", "countFuller", "(I)I"⟩ ∈ lw_g := lw_gm (tin3 (List.mem_of_getElem? (i := 156) (by decide +kernel))) (by decide +kernel)
theorem qs_22 : Cond.selects "JokePump" ⟨"JokePump", "countFuller", "(I)I"⟩ ⟨"JokePump", "countFuller", "(I)I"⟩ ∈ lw_g := lw_gm (tinS (q := (⟨"JokePump", "countFuller", "(I)I"⟩, 12)) (List.mem_of_getElem? (i := 22) (by decide +kernel))) (by decide +kernel)
theorem q3_157 : Cond.code ⟨"JokePump", "countFuller", "(I)I"⟩ prog_1_method_57_code 4 (some .int) ∈ lw_g := lw_gm (tin3 (List.mem_of_getElem? (i := 157) (by decide +kernel))) (by decide +kernel)
theorem lk_X7_186 : LkV RX7 186 yX7_countFuller cX7_countFuller 4 (some .int) 1 := LkV_of q3_154 q3_156 qs_22 q1_1 q3_157 ⟨by decide, by decide, by decide +kernel⟩
theorem q3_166 : Cond.methodLink "JokePump" 189 ⟨"JokePump$Jokes", "sumOfDepths", "()I"⟩ ∈ lw_g := lw_gm (tin3 (List.mem_of_getElem? (i := 166) (by decide +kernel))) (by decide +kernel)
theorem q3_167 : Cond.instanceMethod ⟨"JokePump$Jokes", "sumOfDepths", "()I"⟩ ∈ lw_g := lw_gm (tin3 (List.mem_of_getElem? (i := 167) (by decide +kernel))) (by decide +kernel)
theorem q3_168 : Cond.selects "JokePump$Jokes" ⟨"JokePump$Jokes", "sumOfDepths", "()I"⟩ ⟨"JokePump$Jokes", "sumOfDepths", "()I"⟩ ∈ lw_g := lw_gm (tin3 (List.mem_of_getElem? (i := 168) (by decide +kernel))) (by decide +kernel)
theorem q3_169 : Cond.code ⟨"JokePump$Jokes", "sumOfDepths", "()I"⟩ prog_3_method_11_code 3 (some .int) ∈ lw_g := lw_gm (tin3 (List.mem_of_getElem? (i := 169) (by decide +kernel))) (by decide +kernel)
theorem lk_X7_189 : LkV RX7 189 yX1_sumOfDepths cX1_sumOfDepths 3 (some .int) 0 := LkV_of q3_166 q3_167 q3_168 q1_3 q3_169 ⟨by decide, by decide, by decide +kernel⟩
theorem q3_149 : Cond.methodLink "JokePump" 192 ⟨"JokePump$State", "laughOf", "(II)F"⟩ ∈ lw_g := lw_gm (tin3 (List.mem_of_getElem? (i := 149) (by decide +kernel))) (by decide +kernel)
theorem lk_X7_192 : LkV RX7 192 yX4_laughOf cX4_laughOf 4 (some .float) 2 := LkV_of q3_149 q2_198 q2_199 q1_2 q2_200 ⟨by decide, by decide, by decide +kernel⟩
theorem q3_174 : Cond.methodLink "JokePump" 196 ⟨"JokePump", "bitsOf", "(F)I"⟩ ∈ lw_g := lw_gm (tin3 (List.mem_of_getElem? (i := 174) (by decide +kernel))) (by decide +kernel)
theorem q3_175 : Cond.static ⟨"JokePump", "bitsOf", "(F)I"⟩ ∈ lw_g := lw_gm (tin3 (List.mem_of_getElem? (i := 175) (by decide +kernel))) (by decide +kernel)
theorem q3_176 : Cond.code ⟨"JokePump", "bitsOf", "(F)I"⟩ prog_1_method_66_code 4 (some .int) ∈ lw_g := lw_gm (tin3 (List.mem_of_getElem? (i := 176) (by decide +kernel))) (by decide +kernel)
theorem lk_X7_196 : LkS RX7 196 yX7_bitsOf cX7_bitsOf 4 (some .int) 1 := LkS_of q3_174 q3_175 q1_1 q3_176 ⟨by decide, by decide, by decide +kernel⟩
theorem q3_186 : Cond.methodLink "JokePump" 204 ⟨"JokePump$Told", "sumAgain", "()F"⟩ ∈ lw_g := lw_gm (tin3 (List.mem_of_getElem? (i := 186) (by decide +kernel))) (by decide +kernel)
theorem q3_187 : Cond.instanceMethod ⟨"JokePump$Told", "sumAgain", "()F"⟩ ∈ lw_g := lw_gm (tin3 (List.mem_of_getElem? (i := 187) (by decide +kernel))) (by decide +kernel)
theorem q3_188 : Cond.selects "JokePump$Told" ⟨"JokePump$Told", "sumAgain", "()F"⟩ ⟨"JokePump$Told", "sumAgain", "()F"⟩ ∈ lw_g := lw_gm (tin3 (List.mem_of_getElem? (i := 188) (by decide +kernel))) (by decide +kernel)
theorem q3_189 : Cond.code ⟨"JokePump$Told", "sumAgain", "()F"⟩ prog_8_method_4_code 3 (some .float) ∈ lw_g := lw_gm (tin3 (List.mem_of_getElem? (i := 189) (by decide +kernel))) (by decide +kernel)
theorem lk_X7_204 : LkV RX7 204 yX6_sumAgain cX6_sumAgain 3 (some .float) 0 := LkV_of q3_186 q3_187 q3_188 q1_5 q3_189 ⟨by decide, by decide, by decide +kernel⟩
theorem q3_202 : Cond.methodLink "JokePump" 211 ⟨"JokePump$Told", "laughAt", "(I)F"⟩ ∈ lw_g := lw_gm (tin3 (List.mem_of_getElem? (i := 202) (by decide +kernel))) (by decide +kernel)
theorem lk_X7_211 : LkV RX7 211 yX6_laughAt cX6_laughAt 2 (some .float) 1 := LkV_of q3_202 q3_191 q3_192 q1_5 q3_193 ⟨by decide, by decide, by decide +kernel⟩
theorem q3_207 : Cond.methodLink "JokePump" 215 ⟨"JokePump$Told", "countKnown", "()I"⟩ ∈ lw_g := lw_gm (tin3 (List.mem_of_getElem? (i := 207) (by decide +kernel))) (by decide +kernel)
theorem q3_208 : Cond.instanceMethod ⟨"JokePump$Told", "countKnown", "()I"⟩ ∈ lw_g := lw_gm (tin3 (List.mem_of_getElem? (i := 208) (by decide +kernel))) (by decide +kernel)
theorem q3_209 : Cond.selects "JokePump$Told" ⟨"JokePump$Told", "countKnown", "()I"⟩ ⟨"JokePump$Told", "countKnown", "()I"⟩ ∈ lw_g := lw_gm (tin3 (List.mem_of_getElem? (i := 209) (by decide +kernel))) (by decide +kernel)
theorem q3_210 : Cond.code ⟨"JokePump$Told", "countKnown", "()I"⟩ prog_8_method_6_code 3 (some .int) ∈ lw_g := lw_gm (tin3 (List.mem_of_getElem? (i := 210) (by decide +kernel))) (by decide +kernel)
theorem lk_X7_215 : LkV RX7 215 yX6_countKnown cX6_countKnown 3 (some .int) 0 := LkV_of q3_207 q3_208 q3_209 q1_5 q3_210 ⟨by decide, by decide, by decide +kernel⟩
theorem q3_216 : Cond.methodLink "JokePump" 225 ⟨"JokePump$State", "reachBehind", "(II)I"⟩ ∈ lw_g := lw_gm (tin3 (List.mem_of_getElem? (i := 216) (by decide +kernel))) (by decide +kernel)
theorem lk_X7_225 : LkS RX7 225 yX4_reachBehind cX4_reachBehind 2 (some .int) 2 := LkS_of q3_216 q2_181 q1_2 q2_182 ⟨by decide, by decide, by decide +kernel⟩
theorem q3_225 : Cond.methodLink "JokePump" 231 ⟨"JokePump$State", "groansOf", "(I)I"⟩ ∈ lw_g := lw_gm (tin3 (List.mem_of_getElem? (i := 225) (by decide +kernel))) (by decide +kernel)
theorem lk_X7_231 : LkS RX7 231 yX4_groansOf cX4_groansOf 1 (some .int) 1 := LkS_of q3_225 q2_185 q1_2 q2_186 ⟨by decide, by decide, by decide +kernel⟩
theorem q3_234 : Cond.methodLink "JokePump" 242 ⟨"JokePump", "groansToReach", "(II)I"⟩ ∈ lw_g := lw_gm (tin3 (List.mem_of_getElem? (i := 234) (by decide +kernel))) (by decide +kernel)
theorem q3_236 : Cond.instanceMethod ⟨"JokePump", "groansToReach", "(II)I"⟩ ∈ lw_g := lw_gm (tin3 (List.mem_of_getElem? (i := 236) (by decide +kernel))) (by decide +kernel)
theorem qs_24 : Cond.selects "JokePump" ⟨"JokePump", "groansToReach", "(II)I"⟩ ⟨"JokePump", "groansToReach", "(II)I"⟩ ∈ lw_g := lw_gm (tinS (q := (⟨"JokePump", "groansToReach", "(II)I"⟩, 12)) (List.mem_of_getElem? (i := 24) (by decide +kernel))) (by decide +kernel)
theorem q3_237 : Cond.code ⟨"JokePump", "groansToReach", "(II)I"⟩ prog_1_method_59_code 6 (some .int) ∈ lw_g := lw_gm (tin3 (List.mem_of_getElem? (i := 237) (by decide +kernel))) (by decide +kernel)
theorem lk_X7_242 : LkV RX7 242 yX7_groansToReach cX7_groansToReach 6 (some .int) 2 := LkV_of q3_234 q3_236 qs_24 q1_1 q3_237 ⟨by decide, by decide, by decide +kernel⟩
theorem q4_2 : Cond.methodLink "JokePump" 251 ⟨"JokePump", "areLaughsAlike", "()Z"⟩ ∈ lw_g := lw_gm (tin4 (List.mem_of_getElem? (i := 2) (by decide +kernel))) (by decide +kernel)
theorem q4_4 : Cond.instanceMethod ⟨"JokePump", "areLaughsAlike", "()Z"⟩ ∈ lw_g := lw_gm (tin4 (List.mem_of_getElem? (i := 4) (by decide +kernel))) (by decide +kernel)
theorem qs_25 : Cond.selects "JokePump" ⟨"JokePump", "areLaughsAlike", "()Z"⟩ ⟨"JokePump", "areLaughsAlike", "()Z"⟩ ∈ lw_g := lw_gm (tinS (q := (⟨"JokePump", "areLaughsAlike", "()Z"⟩, 12)) (List.mem_of_getElem? (i := 25) (by decide +kernel))) (by decide +kernel)
theorem q4_5 : Cond.code ⟨"JokePump", "areLaughsAlike", "()Z"⟩ prog_1_method_60_code 1 (some .boolean) ∈ lw_g := lw_gm (tin4 (List.mem_of_getElem? (i := 5) (by decide +kernel))) (by decide +kernel)
theorem lk_X7_251 : LkV RX7 251 yX7_areLaughsAlike cX7_areLaughsAlike 1 (some .boolean) 0 := LkV_of q4_2 q4_4 qs_25 q1_1 q4_5 ⟨by decide, by decide, by decide +kernel⟩
theorem q4_6 : Cond.methodLink "JokePump" 255 ⟨"JokePump", "areStrokesAlike", "()Z"⟩ ∈ lw_g := lw_gm (tin4 (List.mem_of_getElem? (i := 6) (by decide +kernel))) (by decide +kernel)
theorem q4_8 : Cond.instanceMethod ⟨"JokePump", "areStrokesAlike", "()Z"⟩ ∈ lw_g := lw_gm (tin4 (List.mem_of_getElem? (i := 8) (by decide +kernel))) (by decide +kernel)
theorem qs_26 : Cond.selects "JokePump" ⟨"JokePump", "areStrokesAlike", "()Z"⟩ ⟨"JokePump", "areStrokesAlike", "()Z"⟩ ∈ lw_g := lw_gm (tinS (q := (⟨"JokePump", "areStrokesAlike", "()Z"⟩, 12)) (List.mem_of_getElem? (i := 26) (by decide +kernel))) (by decide +kernel)
theorem q4_9 : Cond.code ⟨"JokePump", "areStrokesAlike", "()Z"⟩ prog_1_method_61_code 2 (some .boolean) ∈ lw_g := lw_gm (tin4 (List.mem_of_getElem? (i := 9) (by decide +kernel))) (by decide +kernel)
theorem lk_X7_255 : LkV RX7 255 yX7_areStrokesAlike cX7_areStrokesAlike 2 (some .boolean) 0 := LkV_of q4_6 q4_8 qs_26 q1_1 q4_9 ⟨by decide, by decide, by decide +kernel⟩
theorem q4_12 : Cond.methodLink "JokePump" 258 ⟨"JokePump", "areSignsUnknown", "()Z"⟩ ∈ lw_g := lw_gm (tin4 (List.mem_of_getElem? (i := 12) (by decide +kernel))) (by decide +kernel)
theorem q4_14 : Cond.instanceMethod ⟨"JokePump", "areSignsUnknown", "()Z"⟩ ∈ lw_g := lw_gm (tin4 (List.mem_of_getElem? (i := 14) (by decide +kernel))) (by decide +kernel)
theorem qs_27 : Cond.selects "JokePump" ⟨"JokePump", "areSignsUnknown", "()Z"⟩ ⟨"JokePump", "areSignsUnknown", "()Z"⟩ ∈ lw_g := lw_gm (tinS (q := (⟨"JokePump", "areSignsUnknown", "()Z"⟩, 12)) (List.mem_of_getElem? (i := 27) (by decide +kernel))) (by decide +kernel)
theorem q4_15 : Cond.code ⟨"JokePump", "areSignsUnknown", "()Z"⟩ prog_1_method_62_code 2 (some .boolean) ∈ lw_g := lw_gm (tin4 (List.mem_of_getElem? (i := 15) (by decide +kernel))) (by decide +kernel)
theorem lk_X7_258 : LkV RX7 258 yX7_areSignsUnknown cX7_areSignsUnknown 2 (some .boolean) 0 := LkV_of q4_12 q4_14 qs_27 q1_1 q4_15 ⟨by decide, by decide, by decide +kernel⟩
theorem q4_20 : Cond.methodLink "JokePump" 270 ⟨"JokePump$Jokes", "countPrimed", "()I"⟩ ∈ lw_g := lw_gm (tin4 (List.mem_of_getElem? (i := 20) (by decide +kernel))) (by decide +kernel)
theorem q4_21 : Cond.instanceMethod ⟨"JokePump$Jokes", "countPrimed", "()I"⟩ ∈ lw_g := lw_gm (tin4 (List.mem_of_getElem? (i := 21) (by decide +kernel))) (by decide +kernel)
theorem q4_22 : Cond.selects "JokePump$Jokes" ⟨"JokePump$Jokes", "countPrimed", "()I"⟩ ⟨"JokePump$Jokes", "countPrimed", "()I"⟩ ∈ lw_g := lw_gm (tin4 (List.mem_of_getElem? (i := 22) (by decide +kernel))) (by decide +kernel)
theorem q4_23 : Cond.code ⟨"JokePump$Jokes", "countPrimed", "()I"⟩ prog_3_method_10_code 3 (some .int) ∈ lw_g := lw_gm (tin4 (List.mem_of_getElem? (i := 23) (by decide +kernel))) (by decide +kernel)
theorem lk_X7_270 : LkV RX7 270 yX1_countPrimed cX1_countPrimed 3 (some .int) 0 := LkV_of q4_20 q4_21 q4_22 q1_3 q4_23 ⟨by decide, by decide, by decide +kernel⟩
theorem q4_28 : Cond.methodLink "JokePump" 274 ⟨"JokePump$Strip", "putNumber", "(I)V"⟩ ∈ lw_g := lw_gm (tin4 (List.mem_of_getElem? (i := 28) (by decide +kernel))) (by decide +kernel)
theorem q4_29 : Cond.instanceMethod ⟨"JokePump$Strip", "putNumber", "(I)V"⟩ ∈ lw_g := lw_gm (tin4 (List.mem_of_getElem? (i := 29) (by decide +kernel))) (by decide +kernel)
theorem q4_30 : Cond.selects "JokePump$Strip" ⟨"JokePump$Strip", "putNumber", "(I)V"⟩ ⟨"JokePump$Strip", "putNumber", "(I)V"⟩ ∈ lw_g := lw_gm (tin4 (List.mem_of_getElem? (i := 30) (by decide +kernel))) (by decide +kernel)
theorem q4_31 : Cond.code ⟨"JokePump$Strip", "putNumber", "(I)V"⟩ prog_7_method_4_code 2 (none : Option Jvm.ClassFile.FieldType) ∈ lw_g := lw_gm (tin4 (List.mem_of_getElem? (i := 31) (by decide +kernel))) (by decide +kernel)
theorem lk_X7_274 : LkV RX7 274 yX5_putNumber cX5_putNumber 2 (none : Option Jvm.ClassFile.FieldType) 1 := LkV_of q4_28 q4_29 q4_30 q1_7 q4_31 ⟨by decide, by decide, by decide +kernel⟩
theorem q4_36 : Cond.methodLink "JokePump" 278 ⟨"JokePump$Strip", "putSign", "(C)V"⟩ ∈ lw_g := lw_gm (tin4 (List.mem_of_getElem? (i := 36) (by decide +kernel))) (by decide +kernel)
theorem lk_X7_278 : LkV RX7 278 yX5_putSign cX5_putSign 2 (none : Option Jvm.ClassFile.FieldType) 1 := LkV_of q4_36 q4_33 q4_34 q1_7 q4_35 ⟨by decide, by decide, by decide +kernel⟩
theorem q4_37 : Cond.methodLink "JokePump" 282 ⟨"JokePump", "putJoke", "(I)V"⟩ ∈ lw_g := lw_gm (tin4 (List.mem_of_getElem? (i := 37) (by decide +kernel))) (by decide +kernel)
theorem q4_39 : Cond.instanceMethod ⟨"JokePump", "putJoke", "(I)V"⟩ ∈ lw_g := lw_gm (tin4 (List.mem_of_getElem? (i := 39) (by decide +kernel))) (by decide +kernel)
theorem qs_28 : Cond.selects "JokePump" ⟨"JokePump", "putJoke", "(I)V"⟩ ⟨"JokePump", "putJoke", "(I)V"⟩ ∈ lw_g := lw_gm (tinS (q := (⟨"JokePump", "putJoke", "(I)V"⟩, 12)) (List.mem_of_getElem? (i := 28) (by decide +kernel))) (by decide +kernel)
theorem q4_40 : Cond.code ⟨"JokePump", "putJoke", "(I)V"⟩ prog_1_method_63_code 2 (none : Option Jvm.ClassFile.FieldType) ∈ lw_g := lw_gm (tin4 (List.mem_of_getElem? (i := 40) (by decide +kernel))) (by decide +kernel)
theorem lk_X7_282 : LkV RX7 282 yX7_putJoke cX7_putJoke 2 (none : Option Jvm.ClassFile.FieldType) 1 := LkV_of q4_37 q4_39 qs_28 q1_1 q4_40 ⟨by decide, by decide, by decide +kernel⟩
theorem q4_49 : Cond.methodLink "JokePump" 285 ⟨"JokePump$Strip", "signAt", "(I)I"⟩ ∈ lw_g := lw_gm (tin4 (List.mem_of_getElem? (i := 49) (by decide +kernel))) (by decide +kernel)
theorem lk_X7_285 : LkV RX7 285 yX5_signAt cX5_signAt 2 (some .int) 1 := LkV_of q4_49 q3_49 q3_50 q1_7 q3_51 ⟨by decide, by decide, by decide +kernel⟩
theorem q2_70 : Cond.methodLink "JokePump" 288 ⟨"JokePump", "refuse", "(II)I"⟩ ∈ lw_g := lw_gm (tin2 (List.mem_of_getElem? (i := 70) (by decide +kernel))) (by decide +kernel)
theorem q2_72 : Cond.instanceMethod ⟨"JokePump", "refuse", "(II)I"⟩ ∈ lw_g := lw_gm (tin2 (List.mem_of_getElem? (i := 72) (by decide +kernel))) (by decide +kernel)
theorem qs_2 : Cond.selects "JokePump" ⟨"JokePump", "refuse", "(II)I"⟩ ⟨"JokePump", "refuse", "(II)I"⟩ ∈ lw_g := lw_gm (tinS (q := (⟨"JokePump", "refuse", "(II)I"⟩, 12)) (List.mem_of_getElem? (i := 2) (by decide +kernel))) (by decide +kernel)
theorem q2_73 : Cond.code ⟨"JokePump", "refuse", "(II)I"⟩ prog_1_method_49_code 3 (some .int) ∈ lw_g := lw_gm (tin2 (List.mem_of_getElem? (i := 73) (by decide +kernel))) (by decide +kernel)
theorem lk_X7_288 : LkV RX7 288 yX7_refuse cX7_refuse 3 (some .int) 2 := LkV_of q2_70 q2_72 qs_2 q1_1 q2_73 ⟨by decide, by decide, by decide +kernel⟩
theorem q2_74 : Cond.methodLink "JokePump" 291 ⟨"JokePump$Jokes", "withSign", "(I)I"⟩ ∈ lw_g := lw_gm (tin2 (List.mem_of_getElem? (i := 74) (by decide +kernel))) (by decide +kernel)
theorem q2_75 : Cond.instanceMethod ⟨"JokePump$Jokes", "withSign", "(I)I"⟩ ∈ lw_g := lw_gm (tin2 (List.mem_of_getElem? (i := 75) (by decide +kernel))) (by decide +kernel)
theorem q2_76 : Cond.selects "JokePump$Jokes" ⟨"JokePump$Jokes", "withSign", "(I)I"⟩ ⟨"JokePump$Jokes", "withSign", "(I)I"⟩ ∈ lw_g := lw_gm (tin2 (List.mem_of_getElem? (i := 76) (by decide +kernel))) (by decide +kernel)
theorem q2_77 : Cond.code ⟨"JokePump$Jokes", "withSign", "(I)I"⟩ prog_3_method_5_code 3 (some .int) ∈ lw_g := lw_gm (tin2 (List.mem_of_getElem? (i := 77) (by decide +kernel))) (by decide +kernel)
theorem lk_X7_291 : LkV RX7 291 yX1_withSign cX1_withSign 3 (some .int) 1 := LkV_of q2_74 q2_75 q2_76 q1_3 q2_77 ⟨by decide, by decide, by decide +kernel⟩
theorem q2_79 : Cond.methodLink "JokePump" 294 ⟨"JokePump$Jokes", "atDepth", "(II)I"⟩ ∈ lw_g := lw_gm (tin2 (List.mem_of_getElem? (i := 79) (by decide +kernel))) (by decide +kernel)
theorem q2_80 : Cond.instanceMethod ⟨"JokePump$Jokes", "atDepth", "(II)I"⟩ ∈ lw_g := lw_gm (tin2 (List.mem_of_getElem? (i := 80) (by decide +kernel))) (by decide +kernel)
theorem q2_81 : Cond.selects "JokePump$Jokes" ⟨"JokePump$Jokes", "atDepth", "(II)I"⟩ ⟨"JokePump$Jokes", "atDepth", "(II)I"⟩ ∈ lw_g := lw_gm (tin2 (List.mem_of_getElem? (i := 81) (by decide +kernel))) (by decide +kernel)
theorem q2_82 : Cond.code ⟨"JokePump$Jokes", "atDepth", "(II)I"⟩ prog_3_method_6_code 4 (some .int) ∈ lw_g := lw_gm (tin2 (List.mem_of_getElem? (i := 82) (by decide +kernel))) (by decide +kernel)
theorem lk_X7_294 : LkV RX7 294 yX1_atDepth cX1_atDepth 4 (some .int) 2 := LkV_of q2_79 q2_80 q2_81 q1_3 q2_82 ⟨by decide, by decide, by decide +kernel⟩
theorem q2_91 : Cond.methodLink "JokePump" 297 ⟨"JokePump$Jokes", "add", "(IIII)V"⟩ ∈ lw_g := lw_gm (tin2 (List.mem_of_getElem? (i := 91) (by decide +kernel))) (by decide +kernel)
theorem q2_92 : Cond.instanceMethod ⟨"JokePump$Jokes", "add", "(IIII)V"⟩ ∈ lw_g := lw_gm (tin2 (List.mem_of_getElem? (i := 92) (by decide +kernel))) (by decide +kernel)
theorem q2_93 : Cond.selects "JokePump$Jokes" ⟨"JokePump$Jokes", "add", "(IIII)V"⟩ ⟨"JokePump$Jokes", "add", "(IIII)V"⟩ ∈ lw_g := lw_gm (tin2 (List.mem_of_getElem? (i := 93) (by decide +kernel))) (by decide +kernel)
theorem q2_94 : Cond.code ⟨"JokePump$Jokes", "add", "(IIII)V"⟩ prog_3_method_3_code 5 (none : Option Jvm.ClassFile.FieldType) ∈ lw_g := lw_gm (tin2 (List.mem_of_getElem? (i := 94) (by decide +kernel))) (by decide +kernel)
theorem lk_X7_297 : LkV RX7 297 yX1_add cX1_add 5 (none : Option Jvm.ClassFile.FieldType) 4 := LkV_of q2_91 q2_92 q2_93 q1_3 q2_94 ⟨by decide, by decide, by decide +kernel⟩
theorem q2_117 : Cond.methodLink "JokePump" 301 ⟨"JokePump$Row", "put", "(II)V"⟩ ∈ lw_g := lw_gm (tin2 (List.mem_of_getElem? (i := 117) (by decide +kernel))) (by decide +kernel)
theorem lk_X7_301 : LkV RX7 301 yX3_put cX3_put 3 (none : Option Jvm.ClassFile.FieldType) 2 := LkV_of q2_117 q1_113 q1_114 q1_4 q1_115 ⟨by decide, by decide, by decide +kernel⟩
theorem q2_126 : Cond.methodLink "JokePump" 305 ⟨"JokePump$Jokes", "remove", "(I)V"⟩ ∈ lw_g := lw_gm (tin2 (List.mem_of_getElem? (i := 126) (by decide +kernel))) (by decide +kernel)
theorem lk_X7_305 : LkV RX7 305 yX1_remove cX1_remove 2 (none : Option Jvm.ClassFile.FieldType) 1 := LkV_of q2_126 q2_127 q2_128 q1_3 q2_129 ⟨by decide, by decide, by decide +kernel⟩
theorem q2_176 : Cond.methodLink "JokePump" 308 ⟨"JokePump$State", "makeStroke", "()I"⟩ ∈ lw_g := lw_gm (tin2 (List.mem_of_getElem? (i := 176) (by decide +kernel))) (by decide +kernel)
theorem q2_177 : Cond.instanceMethod ⟨"JokePump$State", "makeStroke", "()I"⟩ ∈ lw_g := lw_gm (tin2 (List.mem_of_getElem? (i := 177) (by decide +kernel))) (by decide +kernel)
theorem q2_178 : Cond.selects "JokePump$State" ⟨"JokePump$State", "makeStroke", "()I"⟩ ⟨"JokePump$State", "makeStroke", "()I"⟩ ∈ lw_g := lw_gm (tin2 (List.mem_of_getElem? (i := 178) (by decide +kernel))) (by decide +kernel)
theorem q2_179 : Cond.code ⟨"JokePump$State", "makeStroke", "()I"⟩ prog_6_method_5_code 3 (some .int) ∈ lw_g := lw_gm (tin2 (List.mem_of_getElem? (i := 179) (by decide +kernel))) (by decide +kernel)
theorem lk_X7_308 : LkV RX7 308 yX4_makeStroke cX4_makeStroke 3 (some .int) 0 := LkV_of q2_176 q2_177 q2_178 q1_2 q2_179 ⟨by decide, by decide, by decide +kernel⟩
theorem q2_100 : Cond.methodLink "JokePump" 311 ⟨"JokePump$History", "keep", "()V"⟩ ∈ lw_g := lw_gm (tin2 (List.mem_of_getElem? (i := 100) (by decide +kernel))) (by decide +kernel)
theorem q2_101 : Cond.instanceMethod ⟨"JokePump$History", "keep", "()V"⟩ ∈ lw_g := lw_gm (tin2 (List.mem_of_getElem? (i := 101) (by decide +kernel))) (by decide +kernel)
theorem q2_102 : Cond.selects "JokePump$History" ⟨"JokePump$History", "keep", "()V"⟩ ⟨"JokePump$History", "keep", "()V"⟩ ∈ lw_g := lw_gm (tin2 (List.mem_of_getElem? (i := 102) (by decide +kernel))) (by decide +kernel)
theorem q2_103 : Cond.code ⟨"JokePump$History", "keep", "()V"⟩ prog_2_method_3_code 1 (none : Option Jvm.ClassFile.FieldType) ∈ lw_g := lw_gm (tin2 (List.mem_of_getElem? (i := 103) (by decide +kernel))) (by decide +kernel)
theorem lk_X7_311 : LkV RX7 311 yX0_keep cX0_keep 1 (none : Option Jvm.ClassFile.FieldType) 0 := LkV_of q2_100 q2_101 q2_102 q1_6 q2_103 ⟨by decide, by decide, by decide +kernel⟩
theorem q2_217 : Cond.methodLink "JokePump" 314 ⟨"JokePump$Reader", "isText", "(LJokePump$Strip;)Z"⟩ ∈ lw_g := lw_gm (tin2 (List.mem_of_getElem? (i := 217) (by decide +kernel))) (by decide +kernel)
theorem q2_218 : Cond.instanceMethod ⟨"JokePump$Reader", "isText", "(LJokePump$Strip;)Z"⟩ ∈ lw_g := lw_gm (tin2 (List.mem_of_getElem? (i := 218) (by decide +kernel))) (by decide +kernel)
theorem q2_219 : Cond.selects "JokePump$Reader" ⟨"JokePump$Reader", "isText", "(LJokePump$Strip;)Z"⟩ ⟨"JokePump$Reader", "isText", "(LJokePump$Strip;)Z"⟩ ∈ lw_g := lw_gm (tin2 (List.mem_of_getElem? (i := 219) (by decide +kernel))) (by decide +kernel)
theorem q2_220 : Cond.code ⟨"JokePump$Reader", "isText", "(LJokePump$Strip;)Z"⟩ prog_4_method_2_code 3 (some .boolean) ∈ lw_g := lw_gm (tin2 (List.mem_of_getElem? (i := 220) (by decide +kernel))) (by decide +kernel)
theorem lk_X7_314 : LkV RX7 314 yX2_isText cX2_isText 3 (some .boolean) 1 := LkV_of q2_217 q2_218 q2_219 q1_8 q2_220 ⟨by decide, by decide, by decide +kernel⟩
theorem q3_63 : Cond.methodLink "JokePump" 321 ⟨"JokePump", "doCommands", "()I"⟩ ∈ lw_g := lw_gm (tin3 (List.mem_of_getElem? (i := 63) (by decide +kernel))) (by decide +kernel)
theorem q3_65 : Cond.instanceMethod ⟨"JokePump", "doCommands", "()I"⟩ ∈ lw_g := lw_gm (tin3 (List.mem_of_getElem? (i := 65) (by decide +kernel))) (by decide +kernel)
theorem qs_16 : Cond.selects "JokePump" ⟨"JokePump", "doCommands", "()I"⟩ ⟨"JokePump", "doCommands", "()I"⟩ ∈ lw_g := lw_gm (tinS (q := (⟨"JokePump", "doCommands", "()I"⟩, 12)) (List.mem_of_getElem? (i := 16) (by decide +kernel))) (by decide +kernel)
theorem q3_66 : Cond.code ⟨"JokePump", "doCommands", "()I"⟩ prog_1_method_51_code 3 (some .int) ∈ lw_g := lw_gm (tin3 (List.mem_of_getElem? (i := 66) (by decide +kernel))) (by decide +kernel)
theorem lk_X7_321 : LkV RX7 321 yX7_doCommands cX7_doCommands 3 (some .int) 0 := LkV_of q3_63 q3_65 qs_16 q1_1 q3_66 ⟨by decide, by decide, by decide +kernel⟩
theorem q3_80 : Cond.methodLink "JokePump" 324 ⟨"JokePump$History", "dismiss", "(LJokePump$State;)V"⟩ ∈ lw_g := lw_gm (tin3 (List.mem_of_getElem? (i := 80) (by decide +kernel))) (by decide +kernel)
theorem q3_81 : Cond.instanceMethod ⟨"JokePump$History", "dismiss", "(LJokePump$State;)V"⟩ ∈ lw_g := lw_gm (tin3 (List.mem_of_getElem? (i := 81) (by decide +kernel))) (by decide +kernel)
theorem q3_82 : Cond.selects "JokePump$History" ⟨"JokePump$History", "dismiss", "(LJokePump$State;)V"⟩ ⟨"JokePump$History", "dismiss", "(LJokePump$State;)V"⟩ ∈ lw_g := lw_gm (tin3 (List.mem_of_getElem? (i := 82) (by decide +kernel))) (by decide +kernel)
theorem q3_83 : Cond.code ⟨"JokePump$History", "dismiss", "(LJokePump$State;)V"⟩ prog_2_method_4_code 2 (none : Option Jvm.ClassFile.FieldType) ∈ lw_g := lw_gm (tin3 (List.mem_of_getElem? (i := 83) (by decide +kernel))) (by decide +kernel)
theorem lk_X7_324 : LkV RX7 324 yX0_dismiss cX0_dismiss 2 (none : Option Jvm.ClassFile.FieldType) 1 := LkV_of q3_80 q3_81 q3_82 q1_6 q3_83 ⟨by decide, by decide, by decide +kernel⟩
theorem q3_67 : Cond.methodLink "JokePump" 328 ⟨"JokePump", "doCommand", "(I)I"⟩ ∈ lw_g := lw_gm (tin3 (List.mem_of_getElem? (i := 67) (by decide +kernel))) (by decide +kernel)
theorem q3_69 : Cond.instanceMethod ⟨"JokePump", "doCommand", "(I)I"⟩ ∈ lw_g := lw_gm (tin3 (List.mem_of_getElem? (i := 69) (by decide +kernel))) (by decide +kernel)
theorem qs_17 : Cond.selects "JokePump" ⟨"JokePump", "doCommand", "(I)I"⟩ ⟨"JokePump", "doCommand", "(I)I"⟩ ∈ lw_g := lw_gm (tinS (q := (⟨"JokePump", "doCommand", "(I)I"⟩, 12)) (List.mem_of_getElem? (i := 17) (by decide +kernel))) (by decide +kernel)
theorem q3_70 : Cond.code ⟨"JokePump", "doCommand", "(I)I"⟩ prog_1_method_52_code 4 (some .int) ∈ lw_g := lw_gm (tin3 (List.mem_of_getElem? (i := 70) (by decide +kernel))) (by decide +kernel)
theorem lk_X7_328 : LkV RX7 328 yX7_doCommand cX7_doCommand 4 (some .int) 1 := LkV_of q3_67 q3_69 qs_17 q1_1 q3_70 ⟨by decide, by decide, by decide +kernel⟩
theorem q3_76 : Cond.methodLink "JokePump" 331 ⟨"JokePump", "refuseCommand", "(IZ)I"⟩ ∈ lw_g := lw_gm (tin3 (List.mem_of_getElem? (i := 76) (by decide +kernel))) (by decide +kernel)
theorem q3_78 : Cond.instanceMethod ⟨"JokePump", "refuseCommand", "(IZ)I"⟩ ∈ lw_g := lw_gm (tin3 (List.mem_of_getElem? (i := 78) (by decide +kernel))) (by decide +kernel)
theorem qs_18 : Cond.selects "JokePump" ⟨"JokePump", "refuseCommand", "(IZ)I"⟩ ⟨"JokePump", "refuseCommand", "(IZ)I"⟩ ∈ lw_g := lw_gm (tinS (q := (⟨"JokePump", "refuseCommand", "(IZ)I"⟩, 12)) (List.mem_of_getElem? (i := 18) (by decide +kernel))) (by decide +kernel)
theorem q3_79 : Cond.code ⟨"JokePump", "refuseCommand", "(IZ)I"⟩ prog_1_method_53_code 5 (some .int) ∈ lw_g := lw_gm (tin3 (List.mem_of_getElem? (i := 79) (by decide +kernel))) (by decide +kernel)
theorem lk_X7_331 : LkV RX7 331 yX7_refuseCommand cX7_refuseCommand 5 (some .int) 2 := LkV_of q3_76 q3_78 qs_18 q1_1 q3_79 ⟨by decide, by decide, by decide +kernel⟩
theorem q3_71 : Cond.methodLink "JokePump" 335 ⟨"JokePump$Reader", "numberOf", "(II)I"⟩ ∈ lw_g := lw_gm (tin3 (List.mem_of_getElem? (i := 71) (by decide +kernel))) (by decide +kernel)
theorem q3_72 : Cond.instanceMethod ⟨"JokePump$Reader", "numberOf", "(II)I"⟩ ∈ lw_g := lw_gm (tin3 (List.mem_of_getElem? (i := 72) (by decide +kernel))) (by decide +kernel)
theorem q3_73 : Cond.selects "JokePump$Reader" ⟨"JokePump$Reader", "numberOf", "(II)I"⟩ ⟨"JokePump$Reader", "numberOf", "(II)I"⟩ ∈ lw_g := lw_gm (tin3 (List.mem_of_getElem? (i := 73) (by decide +kernel))) (by decide +kernel)
theorem q3_74 : Cond.code ⟨"JokePump$Reader", "numberOf", "(II)I"⟩ prog_4_method_3_code 3 (some .int) ∈ lw_g := lw_gm (tin3 (List.mem_of_getElem? (i := 74) (by decide +kernel))) (by decide +kernel)
theorem lk_X7_335 : LkV RX7 335 yX2_numberOf cX2_numberOf 3 (some .int) 2 := LkV_of q3_71 q3_72 q3_73 q1_8 q3_74 ⟨by decide, by decide, by decide +kernel⟩
theorem q3_145 : Cond.methodLink "JokePump" 341 ⟨"JokePump", "isFunnier", "(II)Z"⟩ ∈ lw_g := lw_gm (tin3 (List.mem_of_getElem? (i := 145) (by decide +kernel))) (by decide +kernel)
theorem q3_147 : Cond.instanceMethod ⟨"JokePump", "isFunnier", "(II)Z"⟩ ∈ lw_g := lw_gm (tin3 (List.mem_of_getElem? (i := 147) (by decide +kernel))) (by decide +kernel)
theorem qs_21 : Cond.selects "JokePump" ⟨"JokePump", "isFunnier", "(II)Z"⟩ ⟨"JokePump", "isFunnier", "(II)Z"⟩ ∈ lw_g := lw_gm (tinS (q := (⟨"JokePump", "isFunnier", "(II)Z"⟩, 12)) (List.mem_of_getElem? (i := 21) (by decide +kernel))) (by decide +kernel)
theorem q3_148 : Cond.code ⟨"JokePump", "isFunnier", "(II)Z"⟩ prog_1_method_56_code 7 (some .boolean) ∈ lw_g := lw_gm (tin3 (List.mem_of_getElem? (i := 148) (by decide +kernel))) (by decide +kernel)
theorem lk_X7_341 : LkV RX7 341 yX7_isFunnier cX7_isFunnier 7 (some .boolean) 2 := LkV_of q3_145 q3_147 qs_21 q1_1 q3_148 ⟨by decide, by decide, by decide +kernel⟩
theorem q3_158 : Cond.methodLink "JokePump" 345 ⟨"JokePump", "isFuller", "(II)Z"⟩ ∈ lw_g := lw_gm (tin3 (List.mem_of_getElem? (i := 158) (by decide +kernel))) (by decide +kernel)
theorem q3_160 : Cond.instanceMethod ⟨"JokePump", "isFuller", "(II)Z"⟩ ∈ lw_g := lw_gm (tin3 (List.mem_of_getElem? (i := 160) (by decide +kernel))) (by decide +kernel)
theorem qs_23 : Cond.selects "JokePump" ⟨"JokePump", "isFuller", "(II)Z"⟩ ⟨"JokePump", "isFuller", "(II)Z"⟩ ∈ lw_g := lw_gm (tinS (q := (⟨"JokePump", "isFuller", "(II)Z"⟩, 12)) (List.mem_of_getElem? (i := 23) (by decide +kernel))) (by decide +kernel)
theorem q3_161 : Cond.code ⟨"JokePump", "isFuller", "(II)Z"⟩ prog_1_method_58_code 7 (some .boolean) ∈ lw_g := lw_gm (tin3 (List.mem_of_getElem? (i := 161) (by decide +kernel))) (by decide +kernel)
theorem lk_X7_345 : LkV RX7 345 yX7_isFuller cX7_isFuller 7 (some .boolean) 2 := LkV_of q3_158 q3_160 qs_23 q1_1 q3_161 ⟨by decide, by decide, by decide +kernel⟩
theorem q4_10 : Cond.methodLink "JokePump" 348 ⟨"JokePump", "strokes", "(I)I"⟩ ∈ lw_g := lw_gm (tin4 (List.mem_of_getElem? (i := 10) (by decide +kernel))) (by decide +kernel)
theorem lk_X7_348 : LkV RX7 348 yX7_strokes cX7_strokes 5 (some .int) 1 := LkV_of q4_10 q3_213 q3_214 q1_1 q3_215 ⟨by decide, by decide, by decide +kernel⟩
theorem q4_11 : Cond.methodLink "JokePump" 351 ⟨"JokePump", "strokesAgain", "(I)I"⟩ ∈ lw_g := lw_gm (tin4 (List.mem_of_getElem? (i := 11) (by decide +kernel))) (by decide +kernel)
theorem lk_X7_351 : LkV RX7 351 yX7_strokesAgain cX7_strokesAgain 3 (some .int) 1 := LkV_of q4_11 q3_218 q3_219 q1_1 q3_220 ⟨by decide, by decide, by decide +kernel⟩
theorem q4_66 : Cond.methodLink "JokePumpModel" 19 ⟨"JokePumpModel", "isBetween", "(III)Z"⟩ ∈ lw_g := lw_gm (tin4 (List.mem_of_getElem? (i := 66) (by decide +kernel))) (by decide +kernel)
theorem q4_67 : Cond.static ⟨"JokePumpModel", "isBetween", "(III)Z"⟩ ∈ lw_g := lw_gm (tin4 (List.mem_of_getElem? (i := 67) (by decide +kernel))) (by decide +kernel)
theorem q4_68 : Cond.code ⟨"JokePumpModel", "isBetween", "(III)Z"⟩ prog_10_method_1_code 3 (some .boolean) ∈ lw_g := lw_gm (tin4 (List.mem_of_getElem? (i := 68) (by decide +kernel))) (by decide +kernel)
theorem lk_X8_19 : LkS RX8 19 yX8_isBetween cX8_isBetween 3 (some .boolean) 3 := LkS_of q4_66 q4_67 q1_9 q4_68 ⟨by decide, by decide, by decide +kernel⟩
theorem q4_188 : Cond.methodLink "JokePumpModel" 67 ⟨"JokePumpModel", "thinks", "()V"⟩ ∈ lw_g := lw_gm (tin4 (List.mem_of_getElem? (i := 188) (by decide +kernel))) (by decide +kernel)
theorem q4_190 : Cond.instanceMethod ⟨"JokePumpModel", "thinks", "()V"⟩ ∈ lw_g := lw_gm (tin4 (List.mem_of_getElem? (i := 190) (by decide +kernel))) (by decide +kernel)
theorem qs_38 : Cond.selects "JokePumpModel" ⟨"JokePumpModel", "thinks", "()V"⟩ ⟨"JokePumpModel", "thinks", "()V"⟩ ∈ lw_g := lw_gm (tinS (q := (⟨"JokePumpModel", "thinks", "()V"⟩, 23)) (List.mem_of_getElem? (i := 38) (by decide +kernel))) (by decide +kernel)
theorem q4_191 : Cond.code ⟨"JokePumpModel", "thinks", "()V"⟩ prog_10_method_6_code 2 (none : Option Jvm.ClassFile.FieldType) ∈ lw_g := lw_gm (tin4 (List.mem_of_getElem? (i := 191) (by decide +kernel))) (by decide +kernel)
theorem lk_X8_67 : LkV RX8 67 yX8_thinks cX8_thinks 2 (none : Option Jvm.ClassFile.FieldType) 0 := LkV_of q4_188 q4_190 qs_38 q1_9 q4_191 ⟨by decide, by decide, by decide +kernel⟩
theorem q4_192 : Cond.methodLink "JokePumpModel" 70 ⟨"JokePumpModel", "keepsMind", "()V"⟩ ∈ lw_g := lw_gm (tin4 (List.mem_of_getElem? (i := 192) (by decide +kernel))) (by decide +kernel)
theorem q4_194 : Cond.instanceMethod ⟨"JokePumpModel", "keepsMind", "()V"⟩ ∈ lw_g := lw_gm (tin4 (List.mem_of_getElem? (i := 194) (by decide +kernel))) (by decide +kernel)
theorem qs_39 : Cond.selects "JokePumpModel" ⟨"JokePumpModel", "keepsMind", "()V"⟩ ⟨"JokePumpModel", "keepsMind", "()V"⟩ ∈ lw_g := lw_gm (tinS (q := (⟨"JokePumpModel", "keepsMind", "()V"⟩, 23)) (List.mem_of_getElem? (i := 39) (by decide +kernel))) (by decide +kernel)
theorem q4_195 : Cond.code ⟨"JokePumpModel", "keepsMind", "()V"⟩ prog_10_method_8_code 3 (none : Option Jvm.ClassFile.FieldType) ∈ lw_g := lw_gm (tin4 (List.mem_of_getElem? (i := 195) (by decide +kernel))) (by decide +kernel)
theorem lk_X8_70 : LkV RX8 70 yX8_keepsMind cX8_keepsMind 3 (none : Option Jvm.ClassFile.FieldType) 0 := LkV_of q4_192 q4_194 qs_39 q1_9 q4_195 ⟨by decide, by decide, by decide +kernel⟩
theorem q4_168 : Cond.methodLink "JokePumpModel" 73 ⟨"JokePumpModel", "is", "(II)I"⟩ ∈ lw_g := lw_gm (tin4 (List.mem_of_getElem? (i := 168) (by decide +kernel))) (by decide +kernel)
theorem q4_170 : Cond.instanceMethod ⟨"JokePumpModel", "is", "(II)I"⟩ ∈ lw_g := lw_gm (tin4 (List.mem_of_getElem? (i := 170) (by decide +kernel))) (by decide +kernel)
theorem qs_33 : Cond.selects "JokePumpModel" ⟨"JokePumpModel", "is", "(II)I"⟩ ⟨"JokePumpModel", "is", "(II)I"⟩ ∈ lw_g := lw_gm (tinS (q := (⟨"JokePumpModel", "is", "(II)I"⟩, 23)) (List.mem_of_getElem? (i := 33) (by decide +kernel))) (by decide +kernel)
theorem q4_171 : Cond.code ⟨"JokePumpModel", "is", "(II)I"⟩ prog_10_method_10_code 3 (some .int) ∈ lw_g := lw_gm (tin4 (List.mem_of_getElem? (i := 171) (by decide +kernel))) (by decide +kernel)
theorem lk_X8_73 : LkV RX8 73 yX8_is cX8_is 3 (some .int) 2 := LkV_of q4_168 q4_170 qs_33 q1_9 q4_171 ⟨by decide, by decide, by decide +kernel⟩
theorem q5_59 : Cond.methodLink "JokePumpModel" 77 ⟨"JokePumpModel", "above", "(I)I"⟩ ∈ lw_g := lw_gm (tin5 (List.mem_of_getElem? (i := 59) (by decide +kernel))) (by decide +kernel)
theorem q5_61 : Cond.instanceMethod ⟨"JokePumpModel", "above", "(I)I"⟩ ∈ lw_g := lw_gm (tin5 (List.mem_of_getElem? (i := 61) (by decide +kernel))) (by decide +kernel)
theorem qs_58 : Cond.selects "JokePumpModel" ⟨"JokePumpModel", "above", "(I)I"⟩ ⟨"JokePumpModel", "above", "(I)I"⟩ ∈ lw_g := lw_gm (tinS (q := (⟨"JokePumpModel", "above", "(I)I"⟩, 23)) (List.mem_of_getElem? (i := 58) (by decide +kernel))) (by decide +kernel)
theorem q5_62 : Cond.code ⟨"JokePumpModel", "above", "(I)I"⟩ prog_10_method_17_code 4 (some .int) ∈ lw_g := lw_gm (tin5 (List.mem_of_getElem? (i := 62) (by decide +kernel))) (by decide +kernel)
theorem lk_X8_77 : LkV RX8 77 yX8_above cX8_above 4 (some .int) 1 := LkV_of q5_59 q5_61 qs_58 q1_9 q5_62 ⟨by decide, by decide, by decide +kernel⟩
theorem q4_153 : Cond.methodLink "JokePumpModel" 81 ⟨"JokePumpModel", "isWell", "(I)Z"⟩ ∈ lw_g := lw_gm (tin4 (List.mem_of_getElem? (i := 153) (by decide +kernel))) (by decide +kernel)
theorem q4_154 : Cond.static ⟨"JokePumpModel", "isWell", "(I)Z"⟩ ∈ lw_g := lw_gm (tin4 (List.mem_of_getElem? (i := 154) (by decide +kernel))) (by decide +kernel)
theorem q4_155 : Cond.code ⟨"JokePumpModel", "isWell", "(I)Z"⟩ prog_10_method_12_code 1 (some .boolean) ∈ lw_g := lw_gm (tin4 (List.mem_of_getElem? (i := 155) (by decide +kernel))) (by decide +kernel)
theorem lk_X8_81 : LkS RX8 81 yX8_isWell cX8_isWell 1 (some .boolean) 1 := LkS_of q4_153 q4_154 q1_9 q4_155 ⟨by decide, by decide, by decide +kernel⟩
theorem q4_156 : Cond.methodLink "JokePumpModel" 85 ⟨"JokePumpModel", "isKnownSign", "(I)Z"⟩ ∈ lw_g := lw_gm (tin4 (List.mem_of_getElem? (i := 156) (by decide +kernel))) (by decide +kernel)
theorem q4_158 : Cond.instanceMethod ⟨"JokePumpModel", "isKnownSign", "(I)Z"⟩ ∈ lw_g := lw_gm (tin4 (List.mem_of_getElem? (i := 158) (by decide +kernel))) (by decide +kernel)
theorem qs_30 : Cond.selects "JokePumpModel" ⟨"JokePumpModel", "isKnownSign", "(I)Z"⟩ ⟨"JokePumpModel", "isKnownSign", "(I)Z"⟩ ∈ lw_g := lw_gm (tinS (q := (⟨"JokePumpModel", "isKnownSign", "(I)Z"⟩, 23)) (List.mem_of_getElem? (i := 30) (by decide +kernel))) (by decide +kernel)
theorem q4_159 : Cond.code ⟨"JokePumpModel", "isKnownSign", "(I)Z"⟩ prog_10_method_13_code 2 (some .boolean) ∈ lw_g := lw_gm (tin4 (List.mem_of_getElem? (i := 159) (by decide +kernel))) (by decide +kernel)
theorem lk_X8_85 : LkV RX8 85 yX8_isKnownSign cX8_isKnownSign 2 (some .boolean) 1 := LkV_of q4_156 q4_158 qs_30 q1_9 q4_159 ⟨by decide, by decide, by decide +kernel⟩
theorem q4_160 : Cond.methodLink "JokePumpModel" 88 ⟨"JokePumpModel", "isNot", "(II)I"⟩ ∈ lw_g := lw_gm (tin4 (List.mem_of_getElem? (i := 160) (by decide +kernel))) (by decide +kernel)
theorem q4_162 : Cond.instanceMethod ⟨"JokePumpModel", "isNot", "(II)I"⟩ ∈ lw_g := lw_gm (tin4 (List.mem_of_getElem? (i := 162) (by decide +kernel))) (by decide +kernel)
theorem qs_31 : Cond.selects "JokePumpModel" ⟨"JokePumpModel", "isNot", "(II)I"⟩ ⟨"JokePumpModel", "isNot", "(II)I"⟩ ∈ lw_g := lw_gm (tinS (q := (⟨"JokePumpModel", "isNot", "(II)I"⟩, 23)) (List.mem_of_getElem? (i := 31) (by decide +kernel))) (by decide +kernel)
theorem q4_163 : Cond.code ⟨"JokePumpModel", "isNot", "(II)I"⟩ prog_10_method_2_code 3 (some .int) ∈ lw_g := lw_gm (tin4 (List.mem_of_getElem? (i := 163) (by decide +kernel))) (by decide +kernel)
theorem lk_X8_88 : LkV RX8 88 yX8_isNot cX8_isNot 3 (some .int) 2 := LkV_of q4_160 q4_162 qs_31 q1_9 q4_163 ⟨by decide, by decide, by decide +kernel⟩
theorem q4_164 : Cond.methodLink "JokePumpModel" 91 ⟨"JokePumpModel", "jokeWith", "(I)I"⟩ ∈ lw_g := lw_gm (tin4 (List.mem_of_getElem? (i := 164) (by decide +kernel))) (by decide +kernel)
theorem q4_166 : Cond.instanceMethod ⟨"JokePumpModel", "jokeWith", "(I)I"⟩ ∈ lw_g := lw_gm (tin4 (List.mem_of_getElem? (i := 166) (by decide +kernel))) (by decide +kernel)
theorem qs_32 : Cond.selects "JokePumpModel" ⟨"JokePumpModel", "jokeWith", "(I)I"⟩ ⟨"JokePumpModel", "jokeWith", "(I)I"⟩ ∈ lw_g := lw_gm (tinS (q := (⟨"JokePumpModel", "jokeWith", "(I)I"⟩, 23)) (List.mem_of_getElem? (i := 32) (by decide +kernel))) (by decide +kernel)
theorem q4_167 : Cond.code ⟨"JokePumpModel", "jokeWith", "(I)I"⟩ prog_10_method_15_code 3 (some .int) ∈ lw_g := lw_gm (tin4 (List.mem_of_getElem? (i := 167) (by decide +kernel))) (by decide +kernel)
theorem lk_X8_91 : LkV RX8 91 yX8_jokeWith cX8_jokeWith 3 (some .int) 1 := LkV_of q4_164 q4_166 qs_32 q1_9 q4_167 ⟨by decide, by decide, by decide +kernel⟩
theorem q4_172 : Cond.methodLink "JokePumpModel" 94 ⟨"JokePumpModel", "jokeAt", "(II)I"⟩ ∈ lw_g := lw_gm (tin4 (List.mem_of_getElem? (i := 172) (by decide +kernel))) (by decide +kernel)
theorem q4_174 : Cond.instanceMethod ⟨"JokePumpModel", "jokeAt", "(II)I"⟩ ∈ lw_g := lw_gm (tin4 (List.mem_of_getElem? (i := 174) (by decide +kernel))) (by decide +kernel)
theorem qs_34 : Cond.selects "JokePumpModel" ⟨"JokePumpModel", "jokeAt", "(II)I"⟩ ⟨"JokePumpModel", "jokeAt", "(II)I"⟩ ∈ lw_g := lw_gm (tinS (q := (⟨"JokePumpModel", "jokeAt", "(II)I"⟩, 23)) (List.mem_of_getElem? (i := 34) (by decide +kernel))) (by decide +kernel)
theorem q4_175 : Cond.code ⟨"JokePumpModel", "jokeAt", "(II)I"⟩ prog_10_method_16_code 4 (some .int) ∈ lw_g := lw_gm (tin4 (List.mem_of_getElem? (i := 175) (by decide +kernel))) (by decide +kernel)
theorem lk_X8_94 : LkV RX8 94 yX8_jokeAt cX8_jokeAt 4 (some .int) 2 := LkV_of q4_172 q4_174 qs_34 q1_9 q4_175 ⟨by decide, by decide, by decide +kernel⟩
theorem q4_176 : Cond.methodLink "JokePumpModel" 97 ⟨"JokePumpModel", "jokesIn", "(I)I"⟩ ∈ lw_g := lw_gm (tin4 (List.mem_of_getElem? (i := 176) (by decide +kernel))) (by decide +kernel)
theorem q4_178 : Cond.instanceMethod ⟨"JokePumpModel", "jokesIn", "(I)I"⟩ ∈ lw_g := lw_gm (tin4 (List.mem_of_getElem? (i := 178) (by decide +kernel))) (by decide +kernel)
theorem qs_35 : Cond.selects "JokePumpModel" ⟨"JokePumpModel", "jokesIn", "(I)I"⟩ ⟨"JokePumpModel", "jokesIn", "(I)I"⟩ ∈ lw_g := lw_gm (tinS (q := (⟨"JokePumpModel", "jokesIn", "(I)I"⟩, 23)) (List.mem_of_getElem? (i := 35) (by decide +kernel))) (by decide +kernel)
theorem q4_179 : Cond.code ⟨"JokePumpModel", "jokesIn", "(I)I"⟩ prog_10_method_14_code 4 (some .int) ∈ lw_g := lw_gm (tin4 (List.mem_of_getElem? (i := 179) (by decide +kernel))) (by decide +kernel)
theorem lk_X8_97 : LkV RX8 97 yX8_jokesIn cX8_jokesIn 4 (some .int) 1 := LkV_of q4_176 q4_178 qs_35 q1_9 q4_179 ⟨by decide, by decide, by decide +kernel⟩
theorem q4_149 : Cond.methodLink "JokePumpModel" 100 ⟨"JokePumpModel", "notJoke", "(IIII)I"⟩ ∈ lw_g := lw_gm (tin4 (List.mem_of_getElem? (i := 149) (by decide +kernel))) (by decide +kernel)
theorem q4_151 : Cond.instanceMethod ⟨"JokePumpModel", "notJoke", "(IIII)I"⟩ ∈ lw_g := lw_gm (tin4 (List.mem_of_getElem? (i := 151) (by decide +kernel))) (by decide +kernel)
theorem qs_29 : Cond.selects "JokePumpModel" ⟨"JokePumpModel", "notJoke", "(IIII)I"⟩ ⟨"JokePumpModel", "notJoke", "(IIII)I"⟩ ∈ lw_g := lw_gm (tinS (q := (⟨"JokePumpModel", "notJoke", "(IIII)I"⟩, 23)) (List.mem_of_getElem? (i := 29) (by decide +kernel))) (by decide +kernel)
theorem q4_152 : Cond.code ⟨"JokePumpModel", "notJoke", "(IIII)I"⟩ prog_10_method_19_code 5 (some .int) ∈ lw_g := lw_gm (tin4 (List.mem_of_getElem? (i := 152) (by decide +kernel))) (by decide +kernel)
theorem lk_X8_100 : LkV RX8 100 yX8_notJoke cX8_notJoke 5 (some .int) 4 := LkV_of q4_149 q4_151 qs_29 q1_9 q4_152 ⟨by decide, by decide, by decide +kernel⟩
theorem q4_180 : Cond.methodLink "JokePumpModel" 104 ⟨"JokePumpModel", "answers", "(I)I"⟩ ∈ lw_g := lw_gm (tin4 (List.mem_of_getElem? (i := 180) (by decide +kernel))) (by decide +kernel)
theorem q4_182 : Cond.instanceMethod ⟨"JokePumpModel", "answers", "(I)I"⟩ ∈ lw_g := lw_gm (tin4 (List.mem_of_getElem? (i := 182) (by decide +kernel))) (by decide +kernel)
theorem qs_36 : Cond.selects "JokePumpModel" ⟨"JokePumpModel", "answers", "(I)I"⟩ ⟨"JokePumpModel", "answers", "(I)I"⟩ ∈ lw_g := lw_gm (tinS (q := (⟨"JokePumpModel", "answers", "(I)I"⟩, 23)) (List.mem_of_getElem? (i := 36) (by decide +kernel))) (by decide +kernel)
theorem q4_183 : Cond.code ⟨"JokePumpModel", "answers", "(I)I"⟩ prog_10_method_3_code 2 (some .int) ∈ lw_g := lw_gm (tin4 (List.mem_of_getElem? (i := 183) (by decide +kernel))) (by decide +kernel)
theorem lk_X8_104 : LkV RX8 104 yX8_answers cX8_answers 2 (some .int) 1 := LkV_of q4_180 q4_182 qs_36 q1_9 q4_183 ⟨by decide, by decide, by decide +kernel⟩
theorem q4_184 : Cond.methodLink "JokePumpModel" 107 ⟨"JokePumpModel", "remembers", "()V"⟩ ∈ lw_g := lw_gm (tin4 (List.mem_of_getElem? (i := 184) (by decide +kernel))) (by decide +kernel)
theorem q4_186 : Cond.instanceMethod ⟨"JokePumpModel", "remembers", "()V"⟩ ∈ lw_g := lw_gm (tin4 (List.mem_of_getElem? (i := 186) (by decide +kernel))) (by decide +kernel)
theorem qs_37 : Cond.selects "JokePumpModel" ⟨"JokePumpModel", "remembers", "()V"⟩ ⟨"JokePumpModel", "remembers", "()V"⟩ ∈ lw_g := lw_gm (tinS (q := (⟨"JokePumpModel", "remembers", "()V"⟩, 23)) (List.mem_of_getElem? (i := 37) (by decide +kernel))) (by decide +kernel)
theorem q4_187 : Cond.code ⟨"JokePumpModel", "remembers", "()V"⟩ prog_10_method_9_code 1 (none : Option Jvm.ClassFile.FieldType) ∈ lw_g := lw_gm (tin4 (List.mem_of_getElem? (i := 187) (by decide +kernel))) (by decide +kernel)
theorem lk_X8_107 : LkV RX8 107 yX8_remembers cX8_remembers 1 (none : Option Jvm.ClassFile.FieldType) 0 := LkV_of q4_184 q4_186 qs_37 q1_9 q4_187 ⟨by decide, by decide, by decide +kernel⟩
theorem q4_196 : Cond.methodLink "JokePumpModel" 110 ⟨"JokePumpModel", "comes", "(IIII)I"⟩ ∈ lw_g := lw_gm (tin4 (List.mem_of_getElem? (i := 196) (by decide +kernel))) (by decide +kernel)
theorem q4_198 : Cond.instanceMethod ⟨"JokePumpModel", "comes", "(IIII)I"⟩ ∈ lw_g := lw_gm (tin4 (List.mem_of_getElem? (i := 198) (by decide +kernel))) (by decide +kernel)
theorem qs_40 : Cond.selects "JokePumpModel" ⟨"JokePumpModel", "comes", "(IIII)I"⟩ ⟨"JokePumpModel", "comes", "(IIII)I"⟩ ∈ lw_g := lw_gm (tinS (q := (⟨"JokePumpModel", "comes", "(IIII)I"⟩, 23)) (List.mem_of_getElem? (i := 40) (by decide +kernel))) (by decide +kernel)
theorem q4_199 : Cond.code ⟨"JokePumpModel", "comes", "(IIII)I"⟩ prog_10_method_20_code 6 (some .int) ∈ lw_g := lw_gm (tin4 (List.mem_of_getElem? (i := 199) (by decide +kernel))) (by decide +kernel)
theorem lk_X8_110 : LkV RX8 110 yX8_comes cX8_comes 6 (some .int) 4 := LkV_of q4_196 q4_198 qs_40 q1_9 q4_199 ⟨by decide, by decide, by decide +kernel⟩
theorem q4_208 : Cond.methodLink "JokePumpModel" 113 ⟨"JokePumpModel", "isJoke", "(I)Z"⟩ ∈ lw_g := lw_gm (tin4 (List.mem_of_getElem? (i := 208) (by decide +kernel))) (by decide +kernel)
theorem q4_210 : Cond.instanceMethod ⟨"JokePumpModel", "isJoke", "(I)Z"⟩ ∈ lw_g := lw_gm (tin4 (List.mem_of_getElem? (i := 210) (by decide +kernel))) (by decide +kernel)
theorem qs_42 : Cond.selects "JokePumpModel" ⟨"JokePumpModel", "isJoke", "(I)Z"⟩ ⟨"JokePumpModel", "isJoke", "(I)Z"⟩ ∈ lw_g := lw_gm (tinS (q := (⟨"JokePumpModel", "isJoke", "(I)Z"⟩, 23)) (List.mem_of_getElem? (i := 42) (by decide +kernel))) (by decide +kernel)
theorem q4_211 : Cond.code ⟨"JokePumpModel", "isJoke", "(I)Z"⟩ prog_10_method_11_code 2 (some .boolean) ∈ lw_g := lw_gm (tin4 (List.mem_of_getElem? (i := 211) (by decide +kernel))) (by decide +kernel)
theorem lk_X8_113 : LkV RX8 113 yX8_isJoke cX8_isJoke 2 (some .boolean) 1 := LkV_of q4_208 q4_210 qs_42 q1_9 q4_211 ⟨by decide, by decide, by decide +kernel⟩
theorem q4_204 : Cond.methodLink "JokePumpModel" 116 ⟨"JokePumpModel", "notPrime", "(I)I"⟩ ∈ lw_g := lw_gm (tin4 (List.mem_of_getElem? (i := 204) (by decide +kernel))) (by decide +kernel)
theorem q4_206 : Cond.instanceMethod ⟨"JokePumpModel", "notPrime", "(I)I"⟩ ∈ lw_g := lw_gm (tin4 (List.mem_of_getElem? (i := 206) (by decide +kernel))) (by decide +kernel)
theorem qs_41 : Cond.selects "JokePumpModel" ⟨"JokePumpModel", "notPrime", "(I)I"⟩ ⟨"JokePumpModel", "notPrime", "(I)I"⟩ ∈ lw_g := lw_gm (tinS (q := (⟨"JokePumpModel", "notPrime", "(I)I"⟩, 23)) (List.mem_of_getElem? (i := 41) (by decide +kernel))) (by decide +kernel)
theorem q4_207 : Cond.code ⟨"JokePumpModel", "notPrime", "(I)I"⟩ prog_10_method_22_code 2 (some .int) ∈ lw_g := lw_gm (tin4 (List.mem_of_getElem? (i := 207) (by decide +kernel))) (by decide +kernel)
theorem lk_X8_116 : LkV RX8 116 yX8_notPrime cX8_notPrime 2 (some .int) 1 := LkV_of q4_204 q4_206 qs_41 q1_9 q4_207 ⟨by decide, by decide, by decide +kernel⟩
theorem q4_212 : Cond.methodLink "JokePumpModel" 119 ⟨"JokePumpModel", "primes", "(I)I"⟩ ∈ lw_g := lw_gm (tin4 (List.mem_of_getElem? (i := 212) (by decide +kernel))) (by decide +kernel)
theorem q4_214 : Cond.instanceMethod ⟨"JokePumpModel", "primes", "(I)I"⟩ ∈ lw_g := lw_gm (tin4 (List.mem_of_getElem? (i := 214) (by decide +kernel))) (by decide +kernel)
theorem qs_43 : Cond.selects "JokePumpModel" ⟨"JokePumpModel", "primes", "(I)I"⟩ ⟨"JokePumpModel", "primes", "(I)I"⟩ ∈ lw_g := lw_gm (tinS (q := (⟨"JokePumpModel", "primes", "(I)I"⟩, 23)) (List.mem_of_getElem? (i := 43) (by decide +kernel))) (by decide +kernel)
theorem q4_215 : Cond.code ⟨"JokePumpModel", "primes", "(I)I"⟩ prog_10_method_23_code 2 (some .int) ∈ lw_g := lw_gm (tin4 (List.mem_of_getElem? (i := 215) (by decide +kernel))) (by decide +kernel)
theorem lk_X8_119 : LkV RX8 119 yX8_primes cX8_primes 2 (some .int) 1 := LkV_of q4_212 q4_214 qs_43 q1_9 q4_215 ⟨by decide, by decide, by decide +kernel⟩
theorem q4_228 : Cond.methodLink "JokePumpModel" 122 ⟨"JokePumpModel", "goes", "(I)V"⟩ ∈ lw_g := lw_gm (tin4 (List.mem_of_getElem? (i := 228) (by decide +kernel))) (by decide +kernel)
theorem q4_230 : Cond.instanceMethod ⟨"JokePumpModel", "goes", "(I)V"⟩ ∈ lw_g := lw_gm (tin4 (List.mem_of_getElem? (i := 230) (by decide +kernel))) (by decide +kernel)
theorem qs_46 : Cond.selects "JokePumpModel" ⟨"JokePumpModel", "goes", "(I)V"⟩ ⟨"JokePumpModel", "goes", "(I)V"⟩ ∈ lw_g := lw_gm (tinS (q := (⟨"JokePumpModel", "goes", "(I)V"⟩, 23)) (List.mem_of_getElem? (i := 46) (by decide +kernel))) (by decide +kernel)
theorem q4_231 : Cond.code ⟨"JokePumpModel", "goes", "(I)V"⟩ prog_10_method_25_code 4 (none : Option Jvm.ClassFile.FieldType) ∈ lw_g := lw_gm (tin4 (List.mem_of_getElem? (i := 231) (by decide +kernel))) (by decide +kernel)
theorem lk_X8_122 : LkV RX8 122 yX8_goes cX8_goes 4 (none : Option Jvm.ClassFile.FieldType) 1 := LkV_of q4_228 q4_230 qs_46 q1_9 q4_231 ⟨by decide, by decide, by decide +kernel⟩
theorem q4_220 : Cond.methodLink "JokePumpModel" 126 ⟨"JokePumpModel", "notDrop", "(I)I"⟩ ∈ lw_g := lw_gm (tin4 (List.mem_of_getElem? (i := 220) (by decide +kernel))) (by decide +kernel)
theorem q4_222 : Cond.instanceMethod ⟨"JokePumpModel", "notDrop", "(I)I"⟩ ∈ lw_g := lw_gm (tin4 (List.mem_of_getElem? (i := 222) (by decide +kernel))) (by decide +kernel)
theorem qs_44 : Cond.selects "JokePumpModel" ⟨"JokePumpModel", "notDrop", "(I)I"⟩ ⟨"JokePumpModel", "notDrop", "(I)I"⟩ ∈ lw_g := lw_gm (tinS (q := (⟨"JokePumpModel", "notDrop", "(I)I"⟩, 23)) (List.mem_of_getElem? (i := 44) (by decide +kernel))) (by decide +kernel)
theorem q4_223 : Cond.code ⟨"JokePumpModel", "notDrop", "(I)I"⟩ prog_10_method_26_code 2 (some .int) ∈ lw_g := lw_gm (tin4 (List.mem_of_getElem? (i := 223) (by decide +kernel))) (by decide +kernel)
theorem lk_X8_126 : LkV RX8 126 yX8_notDrop cX8_notDrop 2 (some .int) 1 := LkV_of q4_220 q4_222 qs_44 q1_9 q4_223 ⟨by decide, by decide, by decide +kernel⟩
theorem q4_224 : Cond.methodLink "JokePumpModel" 129 ⟨"JokePumpModel", "drops", "(I)I"⟩ ∈ lw_g := lw_gm (tin4 (List.mem_of_getElem? (i := 224) (by decide +kernel))) (by decide +kernel)
theorem q4_226 : Cond.instanceMethod ⟨"JokePumpModel", "drops", "(I)I"⟩ ∈ lw_g := lw_gm (tin4 (List.mem_of_getElem? (i := 226) (by decide +kernel))) (by decide +kernel)
theorem qs_45 : Cond.selects "JokePumpModel" ⟨"JokePumpModel", "drops", "(I)I"⟩ ⟨"JokePumpModel", "drops", "(I)I"⟩ ∈ lw_g := lw_gm (tinS (q := (⟨"JokePumpModel", "drops", "(I)I"⟩, 23)) (List.mem_of_getElem? (i := 45) (by decide +kernel))) (by decide +kernel)
theorem q4_227 : Cond.code ⟨"JokePumpModel", "drops", "(I)I"⟩ prog_10_method_27_code 2 (some .int) ∈ lw_g := lw_gm (tin4 (List.mem_of_getElem? (i := 227) (by decide +kernel))) (by decide +kernel)
theorem lk_X8_129 : LkV RX8 129 yX8_drops cX8_drops 2 (some .int) 1 := LkV_of q4_224 q4_226 qs_45 q1_9 q4_227 ⟨by decide, by decide, by decide +kernel⟩
theorem q4_236 : Cond.methodLink "JokePumpModel" 132 ⟨"JokePumpModel", "notDrain", "(I)I"⟩ ∈ lw_g := lw_gm (tin4 (List.mem_of_getElem? (i := 236) (by decide +kernel))) (by decide +kernel)
theorem q4_238 : Cond.instanceMethod ⟨"JokePumpModel", "notDrain", "(I)I"⟩ ∈ lw_g := lw_gm (tin4 (List.mem_of_getElem? (i := 238) (by decide +kernel))) (by decide +kernel)
theorem qs_47 : Cond.selects "JokePumpModel" ⟨"JokePumpModel", "notDrain", "(I)I"⟩ ⟨"JokePumpModel", "notDrain", "(I)I"⟩ ∈ lw_g := lw_gm (tinS (q := (⟨"JokePumpModel", "notDrain", "(I)I"⟩, 23)) (List.mem_of_getElem? (i := 47) (by decide +kernel))) (by decide +kernel)
theorem q4_239 : Cond.code ⟨"JokePumpModel", "notDrain", "(I)I"⟩ prog_10_method_29_code 2 (some .int) ∈ lw_g := lw_gm (tin4 (List.mem_of_getElem? (i := 239) (by decide +kernel))) (by decide +kernel)
theorem lk_X8_132 : LkV RX8 132 yX8_notDrain cX8_notDrain 2 (some .int) 1 := LkV_of q4_236 q4_238 qs_47 q1_9 q4_239 ⟨by decide, by decide, by decide +kernel⟩
theorem q5_0 : Cond.methodLink "JokePumpModel" 135 ⟨"JokePumpModel", "drains", "(I)I"⟩ ∈ lw_g := lw_gm (tin5 (List.mem_of_getElem? (i := 0) (by decide +kernel))) (by decide +kernel)
theorem q5_2 : Cond.instanceMethod ⟨"JokePumpModel", "drains", "(I)I"⟩ ∈ lw_g := lw_gm (tin5 (List.mem_of_getElem? (i := 2) (by decide +kernel))) (by decide +kernel)
theorem qs_48 : Cond.selects "JokePumpModel" ⟨"JokePumpModel", "drains", "(I)I"⟩ ⟨"JokePumpModel", "drains", "(I)I"⟩ ∈ lw_g := lw_gm (tinS (q := (⟨"JokePumpModel", "drains", "(I)I"⟩, 23)) (List.mem_of_getElem? (i := 48) (by decide +kernel))) (by decide +kernel)
theorem q5_3 : Cond.code ⟨"JokePumpModel", "drains", "(I)I"⟩ prog_10_method_30_code 2 (some .int) ∈ lw_g := lw_gm (tin5 (List.mem_of_getElem? (i := 3) (by decide +kernel))) (by decide +kernel)
theorem lk_X8_135 : LkV RX8 135 yX8_drains cX8_drains 2 (some .int) 1 := LkV_of q5_0 q5_2 qs_48 q1_9 q5_3 ⟨by decide, by decide, by decide +kernel⟩
theorem q5_8 : Cond.methodLink "JokePumpModel" 138 ⟨"JokePumpModel", "notStroke", "(I)I"⟩ ∈ lw_g := lw_gm (tin5 (List.mem_of_getElem? (i := 8) (by decide +kernel))) (by decide +kernel)
theorem q5_10 : Cond.instanceMethod ⟨"JokePumpModel", "notStroke", "(I)I"⟩ ∈ lw_g := lw_gm (tin5 (List.mem_of_getElem? (i := 10) (by decide +kernel))) (by decide +kernel)
theorem qs_49 : Cond.selects "JokePumpModel" ⟨"JokePumpModel", "notStroke", "(I)I"⟩ ⟨"JokePumpModel", "notStroke", "(I)I"⟩ ∈ lw_g := lw_gm (tinS (q := (⟨"JokePumpModel", "notStroke", "(I)I"⟩, 23)) (List.mem_of_getElem? (i := 49) (by decide +kernel))) (by decide +kernel)
theorem q5_11 : Cond.code ⟨"JokePumpModel", "notStroke", "(I)I"⟩ prog_10_method_33_code 2 (some .int) ∈ lw_g := lw_gm (tin5 (List.mem_of_getElem? (i := 11) (by decide +kernel))) (by decide +kernel)
theorem lk_X8_138 : LkV RX8 138 yX8_notStroke cX8_notStroke 2 (some .int) 1 := LkV_of q5_8 q5_10 qs_49 q1_9 q5_11 ⟨by decide, by decide, by decide +kernel⟩
theorem q5_12 : Cond.methodLink "JokePumpModel" 141 ⟨"JokePumpModel", "tells", "(II)I"⟩ ∈ lw_g := lw_gm (tin5 (List.mem_of_getElem? (i := 12) (by decide +kernel))) (by decide +kernel)
theorem q5_14 : Cond.instanceMethod ⟨"JokePumpModel", "tells", "(II)I"⟩ ∈ lw_g := lw_gm (tin5 (List.mem_of_getElem? (i := 14) (by decide +kernel))) (by decide +kernel)
theorem qs_50 : Cond.selects "JokePumpModel" ⟨"JokePumpModel", "tells", "(II)I"⟩ ⟨"JokePumpModel", "tells", "(II)I"⟩ ∈ lw_g := lw_gm (tinS (q := (⟨"JokePumpModel", "tells", "(II)I"⟩, 23)) (List.mem_of_getElem? (i := 50) (by decide +kernel))) (by decide +kernel)
theorem q5_15 : Cond.code ⟨"JokePumpModel", "tells", "(II)I"⟩ prog_10_method_32_code 4 (some .int) ∈ lw_g := lw_gm (tin5 (List.mem_of_getElem? (i := 15) (by decide +kernel))) (by decide +kernel)
theorem lk_X8_141 : LkV RX8 141 yX8_tells cX8_tells 4 (some .int) 2 := LkV_of q5_12 q5_14 qs_50 q1_9 q5_15 ⟨by decide, by decide, by decide +kernel⟩
theorem q5_20 : Cond.methodLink "JokePumpModel" 144 ⟨"JokePumpModel", "notBucket", "(II)I"⟩ ∈ lw_g := lw_gm (tin5 (List.mem_of_getElem? (i := 20) (by decide +kernel))) (by decide +kernel)
theorem q5_22 : Cond.instanceMethod ⟨"JokePumpModel", "notBucket", "(II)I"⟩ ∈ lw_g := lw_gm (tin5 (List.mem_of_getElem? (i := 22) (by decide +kernel))) (by decide +kernel)
theorem qs_51 : Cond.selects "JokePumpModel" ⟨"JokePumpModel", "notBucket", "(II)I"⟩ ⟨"JokePumpModel", "notBucket", "(II)I"⟩ ∈ lw_g := lw_gm (tinS (q := (⟨"JokePumpModel", "notBucket", "(II)I"⟩, 23)) (List.mem_of_getElem? (i := 51) (by decide +kernel))) (by decide +kernel)
theorem q5_23 : Cond.code ⟨"JokePumpModel", "notBucket", "(II)I"⟩ prog_10_method_35_code 3 (some .int) ∈ lw_g := lw_gm (tin5 (List.mem_of_getElem? (i := 23) (by decide +kernel))) (by decide +kernel)
theorem lk_X8_144 : LkV RX8 144 yX8_notBucket cX8_notBucket 3 (some .int) 2 := LkV_of q5_20 q5_22 qs_51 q1_9 q5_23 ⟨by decide, by decide, by decide +kernel⟩
theorem q5_28 : Cond.methodLink "JokePumpModel" 147 ⟨"JokePumpModel", "notGo", "(I)I"⟩ ∈ lw_g := lw_gm (tin5 (List.mem_of_getElem? (i := 28) (by decide +kernel))) (by decide +kernel)
theorem q5_30 : Cond.instanceMethod ⟨"JokePumpModel", "notGo", "(I)I"⟩ ∈ lw_g := lw_gm (tin5 (List.mem_of_getElem? (i := 30) (by decide +kernel))) (by decide +kernel)
theorem qs_52 : Cond.selects "JokePumpModel" ⟨"JokePumpModel", "notGo", "(I)I"⟩ ⟨"JokePumpModel", "notGo", "(I)I"⟩ ∈ lw_g := lw_gm (tinS (q := (⟨"JokePumpModel", "notGo", "(I)I"⟩, 23)) (List.mem_of_getElem? (i := 52) (by decide +kernel))) (by decide +kernel)
theorem q5_31 : Cond.code ⟨"JokePumpModel", "notGo", "(I)I"⟩ prog_10_method_37_code 2 (some .int) ∈ lw_g := lw_gm (tin5 (List.mem_of_getElem? (i := 31) (by decide +kernel))) (by decide +kernel)
theorem lk_X8_147 : LkV RX8 147 yX8_notGo cX8_notGo 2 (some .int) 1 := LkV_of q5_28 q5_30 qs_52 q1_9 q5_31 ⟨by decide, by decide, by decide +kernel⟩
theorem q5_32 : Cond.methodLink "JokePumpModel" 150 ⟨"JokePumpModel", "moves", "(I)I"⟩ ∈ lw_g := lw_gm (tin5 (List.mem_of_getElem? (i := 32) (by decide +kernel))) (by decide +kernel)
theorem q5_34 : Cond.instanceMethod ⟨"JokePumpModel", "moves", "(I)I"⟩ ∈ lw_g := lw_gm (tin5 (List.mem_of_getElem? (i := 34) (by decide +kernel))) (by decide +kernel)
theorem qs_53 : Cond.selects "JokePumpModel" ⟨"JokePumpModel", "moves", "(I)I"⟩ ⟨"JokePumpModel", "moves", "(I)I"⟩ ∈ lw_g := lw_gm (tinS (q := (⟨"JokePumpModel", "moves", "(I)I"⟩, 23)) (List.mem_of_getElem? (i := 53) (by decide +kernel))) (by decide +kernel)
theorem q5_35 : Cond.code ⟨"JokePumpModel", "moves", "(I)I"⟩ prog_10_method_38_code 2 (some .int) ∈ lw_g := lw_gm (tin5 (List.mem_of_getElem? (i := 35) (by decide +kernel))) (by decide +kernel)
theorem lk_X8_150 : LkV RX8 150 yX8_moves cX8_moves 2 (some .int) 1 := LkV_of q5_32 q5_34 qs_53 q1_9 q5_35 ⟨by decide, by decide, by decide +kernel⟩
theorem q5_67 : Cond.methodLink "JokePumpModel" 155 ⟨"JokePumpModel", "laughOf", "(II)F"⟩ ∈ lw_g := lw_gm (tin5 (List.mem_of_getElem? (i := 67) (by decide +kernel))) (by decide +kernel)
theorem q5_69 : Cond.instanceMethod ⟨"JokePumpModel", "laughOf", "(II)F"⟩ ∈ lw_g := lw_gm (tin5 (List.mem_of_getElem? (i := 69) (by decide +kernel))) (by decide +kernel)
theorem qs_60 : Cond.selects "JokePumpModel" ⟨"JokePumpModel", "laughOf", "(II)F"⟩ ⟨"JokePumpModel", "laughOf", "(II)F"⟩ ∈ lw_g := lw_gm (tinS (q := (⟨"JokePumpModel", "laughOf", "(II)F"⟩, 23)) (List.mem_of_getElem? (i := 60) (by decide +kernel))) (by decide +kernel)
theorem q5_70 : Cond.code ⟨"JokePumpModel", "laughOf", "(II)F"⟩ prog_10_method_40_code 4 (some .float) ∈ lw_g := lw_gm (tin5 (List.mem_of_getElem? (i := 70) (by decide +kernel))) (by decide +kernel)
theorem lk_X8_155 : LkV RX8 155 yX8_laughOf cX8_laughOf 4 (some .float) 2 := LkV_of q5_67 q5_69 qs_60 q1_9 q5_70 ⟨by decide, by decide, by decide +kernel⟩
theorem q5_52 : Cond.methodLink "JokePumpModel" 169 ⟨"JokePumpModel", "nextReach", "(II)I"⟩ ∈ lw_g := lw_gm (tin5 (List.mem_of_getElem? (i := 52) (by decide +kernel))) (by decide +kernel)
theorem q5_53 : Cond.static ⟨"JokePumpModel", "nextReach", "(II)I"⟩ ∈ lw_g := lw_gm (tin5 (List.mem_of_getElem? (i := 53) (by decide +kernel))) (by decide +kernel)
theorem q5_54 : Cond.code ⟨"JokePumpModel", "nextReach", "(II)I"⟩ prog_10_method_42_code 2 (some .int) ∈ lw_g := lw_gm (tin5 (List.mem_of_getElem? (i := 54) (by decide +kernel))) (by decide +kernel)
theorem lk_X8_169 : LkS RX8 169 yX8_nextReach cX8_nextReach 2 (some .int) 2 := LkS_of q5_52 q5_53 q1_9 q5_54 ⟨by decide, by decide, by decide +kernel⟩
theorem q5_55 : Cond.methodLink "JokePumpModel" 172 ⟨"JokePumpModel", "atPlace", "(II)I"⟩ ∈ lw_g := lw_gm (tin5 (List.mem_of_getElem? (i := 55) (by decide +kernel))) (by decide +kernel)
theorem q5_57 : Cond.instanceMethod ⟨"JokePumpModel", "atPlace", "(II)I"⟩ ∈ lw_g := lw_gm (tin5 (List.mem_of_getElem? (i := 57) (by decide +kernel))) (by decide +kernel)
theorem qs_57 : Cond.selects "JokePumpModel" ⟨"JokePumpModel", "atPlace", "(II)I"⟩ ⟨"JokePumpModel", "atPlace", "(II)I"⟩ ∈ lw_g := lw_gm (tinS (q := (⟨"JokePumpModel", "atPlace", "(II)I"⟩, 23)) (List.mem_of_getElem? (i := 57) (by decide +kernel))) (by decide +kernel)
theorem q5_58 : Cond.code ⟨"JokePumpModel", "atPlace", "(II)I"⟩ prog_10_method_18_code 4 (some .int) ∈ lw_g := lw_gm (tin5 (List.mem_of_getElem? (i := 58) (by decide +kernel))) (by decide +kernel)
theorem lk_X8_172 : LkV RX8 172 yX8_atPlace cX8_atPlace 4 (some .int) 2 := LkV_of q5_55 q5_57 qs_57 q1_9 q5_58 ⟨by decide, by decide, by decide +kernel⟩
theorem q5_63 : Cond.methodLink "JokePumpModel" 175 ⟨"JokePumpModel", "lifts", "(I)V"⟩ ∈ lw_g := lw_gm (tin5 (List.mem_of_getElem? (i := 63) (by decide +kernel))) (by decide +kernel)
theorem q5_65 : Cond.instanceMethod ⟨"JokePumpModel", "lifts", "(I)V"⟩ ∈ lw_g := lw_gm (tin5 (List.mem_of_getElem? (i := 65) (by decide +kernel))) (by decide +kernel)
theorem qs_59 : Cond.selects "JokePumpModel" ⟨"JokePumpModel", "lifts", "(I)V"⟩ ⟨"JokePumpModel", "lifts", "(I)V"⟩ ∈ lw_g := lw_gm (tinS (q := (⟨"JokePumpModel", "lifts", "(I)V"⟩, 23)) (List.mem_of_getElem? (i := 59) (by decide +kernel))) (by decide +kernel)
theorem q5_66 : Cond.code ⟨"JokePumpModel", "lifts", "(I)V"⟩ prog_10_method_41_code 5 (none : Option Jvm.ClassFile.FieldType) ∈ lw_g := lw_gm (tin5 (List.mem_of_getElem? (i := 66) (by decide +kernel))) (by decide +kernel)
theorem lk_X8_175 : LkV RX8 175 yX8_lifts cX8_lifts 5 (none : Option Jvm.ClassFile.FieldType) 1 := LkV_of q5_63 q5_65 qs_59 q1_9 q5_66 ⟨by decide, by decide, by decide +kernel⟩
theorem q5_48 : Cond.methodLink "JokePumpModel" 178 ⟨"JokePumpModel", "strokesOnce", "()I"⟩ ∈ lw_g := lw_gm (tin5 (List.mem_of_getElem? (i := 48) (by decide +kernel))) (by decide +kernel)
theorem q5_50 : Cond.instanceMethod ⟨"JokePumpModel", "strokesOnce", "()I"⟩ ∈ lw_g := lw_gm (tin5 (List.mem_of_getElem? (i := 50) (by decide +kernel))) (by decide +kernel)
theorem qs_56 : Cond.selects "JokePumpModel" ⟨"JokePumpModel", "strokesOnce", "()I"⟩ ⟨"JokePumpModel", "strokesOnce", "()I"⟩ ∈ lw_g := lw_gm (tinS (q := (⟨"JokePumpModel", "strokesOnce", "()I"⟩, 23)) (List.mem_of_getElem? (i := 56) (by decide +kernel))) (by decide +kernel)
theorem q5_51 : Cond.code ⟨"JokePumpModel", "strokesOnce", "()I"⟩ prog_10_method_43_code 4 (some .int) ∈ lw_g := lw_gm (tin5 (List.mem_of_getElem? (i := 51) (by decide +kernel))) (by decide +kernel)
theorem lk_X8_178 : LkV RX8 178 yX8_strokesOnce cX8_strokesOnce 4 (some .int) 0 := LkV_of q5_48 q5_50 qs_56 q1_9 q5_51 ⟨by decide, by decide, by decide +kernel⟩
theorem q5_40 : Cond.methodLink "JokePumpModel" 182 ⟨"JokePumpModel", "notPump", "(I)I"⟩ ∈ lw_g := lw_gm (tin5 (List.mem_of_getElem? (i := 40) (by decide +kernel))) (by decide +kernel)
theorem q5_42 : Cond.instanceMethod ⟨"JokePumpModel", "notPump", "(I)I"⟩ ∈ lw_g := lw_gm (tin5 (List.mem_of_getElem? (i := 42) (by decide +kernel))) (by decide +kernel)
theorem qs_54 : Cond.selects "JokePumpModel" ⟨"JokePumpModel", "notPump", "(I)I"⟩ ⟨"JokePumpModel", "notPump", "(I)I"⟩ ∈ lw_g := lw_gm (tinS (q := (⟨"JokePumpModel", "notPump", "(I)I"⟩, 23)) (List.mem_of_getElem? (i := 54) (by decide +kernel))) (by decide +kernel)
theorem q5_43 : Cond.code ⟨"JokePumpModel", "notPump", "(I)I"⟩ prog_10_method_45_code 2 (some .int) ∈ lw_g := lw_gm (tin5 (List.mem_of_getElem? (i := 43) (by decide +kernel))) (by decide +kernel)
theorem lk_X8_182 : LkV RX8 182 yX8_notPump cX8_notPump 2 (some .int) 1 := LkV_of q5_40 q5_42 qs_54 q1_9 q5_43 ⟨by decide, by decide, by decide +kernel⟩
theorem q5_44 : Cond.methodLink "JokePumpModel" 185 ⟨"JokePumpModel", "pumps", "(I)I"⟩ ∈ lw_g := lw_gm (tin5 (List.mem_of_getElem? (i := 44) (by decide +kernel))) (by decide +kernel)
theorem q5_46 : Cond.instanceMethod ⟨"JokePumpModel", "pumps", "(I)I"⟩ ∈ lw_g := lw_gm (tin5 (List.mem_of_getElem? (i := 46) (by decide +kernel))) (by decide +kernel)
theorem qs_55 : Cond.selects "JokePumpModel" ⟨"JokePumpModel", "pumps", "(I)I"⟩ ⟨"JokePumpModel", "pumps", "(I)I"⟩ ∈ lw_g := lw_gm (tinS (q := (⟨"JokePumpModel", "pumps", "(I)I"⟩, 23)) (List.mem_of_getElem? (i := 55) (by decide +kernel))) (by decide +kernel)
theorem q5_47 : Cond.code ⟨"JokePumpModel", "pumps", "(I)I"⟩ prog_10_method_44_code 4 (some .int) ∈ lw_g := lw_gm (tin5 (List.mem_of_getElem? (i := 47) (by decide +kernel))) (by decide +kernel)
theorem lk_X8_185 : LkV RX8 185 yX8_pumps cX8_pumps 4 (some .int) 1 := LkV_of q5_44 q5_46 qs_55 q1_9 q5_47 ⟨by decide, by decide, by decide +kernel⟩
theorem q5_114 : Cond.methodLink "JokePumpModel" 188 ⟨"JokePumpModel", "laughs", "()F"⟩ ∈ lw_g := lw_gm (tin5 (List.mem_of_getElem? (i := 114) (by decide +kernel))) (by decide +kernel)
theorem lk_X8_188 : LkV RX8 188 yX8_laughs cX8_laughs 1 (some .float) 0 := LkV_of q5_114 q5_103 q5_104 q1_9 q5_105 ⟨by decide, by decide, by decide +kernel⟩
theorem q5_127 : Cond.methodLink "JokePumpModel" 192 ⟨"JokePumpModel", "strokes", "(I)I"⟩ ∈ lw_g := lw_gm (tin5 (List.mem_of_getElem? (i := 127) (by decide +kernel))) (by decide +kernel)
theorem lk_X8_192 : LkV RX8 192 yX8_strokes cX8_strokes 4 (some .int) 1 := LkV_of q5_127 q5_120 q5_121 q1_9 q5_122 ⟨by decide, by decide, by decide +kernel⟩
theorem q5_132 : Cond.methodLink "JokePumpModel" 195 ⟨"JokePumpModel", "looksAhead", "()V"⟩ ∈ lw_g := lw_gm (tin5 (List.mem_of_getElem? (i := 132) (by decide +kernel))) (by decide +kernel)
theorem q5_134 : Cond.instanceMethod ⟨"JokePumpModel", "looksAhead", "()V"⟩ ∈ lw_g := lw_gm (tin5 (List.mem_of_getElem? (i := 134) (by decide +kernel))) (by decide +kernel)
theorem qs_61 : Cond.selects "JokePumpModel" ⟨"JokePumpModel", "looksAhead", "()V"⟩ ⟨"JokePumpModel", "looksAhead", "()V"⟩ ∈ lw_g := lw_gm (tinS (q := (⟨"JokePumpModel", "looksAhead", "()V"⟩, 23)) (List.mem_of_getElem? (i := 61) (by decide +kernel))) (by decide +kernel)
theorem q5_135 : Cond.code ⟨"JokePumpModel", "looksAhead", "()V"⟩ prog_10_method_57_code 2 (none : Option Jvm.ClassFile.FieldType) ∈ lw_g := lw_gm (tin5 (List.mem_of_getElem? (i := 135) (by decide +kernel))) (by decide +kernel)
theorem lk_X8_195 : LkV RX8 195 yX8_looksAhead cX8_looksAhead 2 (none : Option Jvm.ClassFile.FieldType) 0 := LkV_of q5_132 q5_134 qs_61 q1_9 q5_135 ⟨by decide, by decide, by decide +kernel⟩
theorem q5_136 : Cond.methodLink "JokePumpModel" 198 ⟨"JokePumpModel", "comesBack", "()V"⟩ ∈ lw_g := lw_gm (tin5 (List.mem_of_getElem? (i := 136) (by decide +kernel))) (by decide +kernel)
theorem q5_138 : Cond.instanceMethod ⟨"JokePumpModel", "comesBack", "()V"⟩ ∈ lw_g := lw_gm (tin5 (List.mem_of_getElem? (i := 138) (by decide +kernel))) (by decide +kernel)
theorem qs_62 : Cond.selects "JokePumpModel" ⟨"JokePumpModel", "comesBack", "()V"⟩ ⟨"JokePumpModel", "comesBack", "()V"⟩ ∈ lw_g := lw_gm (tinS (q := (⟨"JokePumpModel", "comesBack", "()V"⟩, 23)) (List.mem_of_getElem? (i := 62) (by decide +kernel))) (by decide +kernel)
theorem q5_139 : Cond.code ⟨"JokePumpModel", "comesBack", "()V"⟩ prog_10_method_58_code 2 (none : Option Jvm.ClassFile.FieldType) ∈ lw_g := lw_gm (tin5 (List.mem_of_getElem? (i := 139) (by decide +kernel))) (by decide +kernel)
theorem lk_X8_198 : LkV RX8 198 yX8_comesBack cX8_comesBack 2 (none : Option Jvm.ClassFile.FieldType) 0 := LkV_of q5_136 q5_138 qs_62 q1_9 q5_139 ⟨by decide, by decide, by decide +kernel⟩
theorem q5_148 : Cond.methodLink "JokePumpModel" 201 ⟨"JokePumpModel", "groansTo", "(II)I"⟩ ∈ lw_g := lw_gm (tin5 (List.mem_of_getElem? (i := 148) (by decide +kernel))) (by decide +kernel)
theorem q5_150 : Cond.instanceMethod ⟨"JokePumpModel", "groansTo", "(II)I"⟩ ∈ lw_g := lw_gm (tin5 (List.mem_of_getElem? (i := 150) (by decide +kernel))) (by decide +kernel)
theorem qs_63 : Cond.selects "JokePumpModel" ⟨"JokePumpModel", "groansTo", "(II)I"⟩ ⟨"JokePumpModel", "groansTo", "(II)I"⟩ ∈ lw_g := lw_gm (tinS (q := (⟨"JokePumpModel", "groansTo", "(II)I"⟩, 23)) (List.mem_of_getElem? (i := 63) (by decide +kernel))) (by decide +kernel)
theorem q5_151 : Cond.code ⟨"JokePumpModel", "groansTo", "(II)I"⟩ prog_10_method_61_code 5 (some .int) ∈ lw_g := lw_gm (tin5 (List.mem_of_getElem? (i := 151) (by decide +kernel))) (by decide +kernel)
theorem lk_X8_201 : LkV RX8 201 yX8_groansTo cX8_groansTo 5 (some .int) 2 := LkV_of q5_148 q5_150 qs_63 q1_9 q5_151 ⟨by decide, by decide, by decide +kernel⟩
theorem q5_156 : Cond.methodLink "JokePumpModel" 204 ⟨"JokePumpModel", "isFunnier", "(II)Z"⟩ ∈ lw_g := lw_gm (tin5 (List.mem_of_getElem? (i := 156) (by decide +kernel))) (by decide +kernel)
theorem q5_158 : Cond.instanceMethod ⟨"JokePumpModel", "isFunnier", "(II)Z"⟩ ∈ lw_g := lw_gm (tin5 (List.mem_of_getElem? (i := 158) (by decide +kernel))) (by decide +kernel)
theorem qs_64 : Cond.selects "JokePumpModel" ⟨"JokePumpModel", "isFunnier", "(II)Z"⟩ ⟨"JokePumpModel", "isFunnier", "(II)Z"⟩ ∈ lw_g := lw_gm (tinS (q := (⟨"JokePumpModel", "isFunnier", "(II)Z"⟩, 23)) (List.mem_of_getElem? (i := 64) (by decide +kernel))) (by decide +kernel)
theorem q5_159 : Cond.code ⟨"JokePumpModel", "isFunnier", "(II)Z"⟩ prog_10_method_63_code 6 (some .boolean) ∈ lw_g := lw_gm (tin5 (List.mem_of_getElem? (i := 159) (by decide +kernel))) (by decide +kernel)
theorem lk_X8_204 : LkV RX8 204 yX8_isFunnier cX8_isFunnier 6 (some .boolean) 2 := LkV_of q5_156 q5_158 qs_64 q1_9 q5_159 ⟨by decide, by decide, by decide +kernel⟩
theorem q5_168 : Cond.methodLink "JokePumpModel" 208 ⟨"JokePumpModel", "isFuller", "(II)Z"⟩ ∈ lw_g := lw_gm (tin5 (List.mem_of_getElem? (i := 168) (by decide +kernel))) (by decide +kernel)
theorem q5_170 : Cond.instanceMethod ⟨"JokePumpModel", "isFuller", "(II)Z"⟩ ∈ lw_g := lw_gm (tin5 (List.mem_of_getElem? (i := 170) (by decide +kernel))) (by decide +kernel)
theorem qs_65 : Cond.selects "JokePumpModel" ⟨"JokePumpModel", "isFuller", "(II)Z"⟩ ⟨"JokePumpModel", "isFuller", "(II)Z"⟩ ∈ lw_g := lw_gm (tinS (q := (⟨"JokePumpModel", "isFuller", "(II)Z"⟩, 23)) (List.mem_of_getElem? (i := 65) (by decide +kernel))) (by decide +kernel)
theorem q5_171 : Cond.code ⟨"JokePumpModel", "isFuller", "(II)Z"⟩ prog_10_method_66_code 5 (some .boolean) ∈ lw_g := lw_gm (tin5 (List.mem_of_getElem? (i := 171) (by decide +kernel))) (by decide +kernel)
theorem lk_X8_208 : LkV RX8 208 yX8_isFuller cX8_isFuller 5 (some .boolean) 2 := LkV_of q5_168 q5_170 qs_65 q1_9 q5_171 ⟨by decide, by decide, by decide +kernel⟩
theorem q5_176 : Cond.methodLink "JokePumpModel" 211 ⟨"JokePumpModel", "laughsAgain", "()F"⟩ ∈ lw_g := lw_gm (tin5 (List.mem_of_getElem? (i := 176) (by decide +kernel))) (by decide +kernel)
theorem lk_X8_211 : LkV RX8 211 yX8_laughsAgain cX8_laughsAgain 3 (some .float) 0 := LkV_of q5_176 q5_107 q5_108 q1_9 q5_109 ⟨by decide, by decide, by decide +kernel⟩
theorem q5_190 : Cond.methodLink "JokePumpModel" 215 ⟨"JokePumpModel", "primed", "()I"⟩ ∈ lw_g := lw_gm (tin5 (List.mem_of_getElem? (i := 190) (by decide +kernel))) (by decide +kernel)
theorem q5_192 : Cond.instanceMethod ⟨"JokePumpModel", "primed", "()I"⟩ ∈ lw_g := lw_gm (tin5 (List.mem_of_getElem? (i := 192) (by decide +kernel))) (by decide +kernel)
theorem qs_66 : Cond.selects "JokePumpModel" ⟨"JokePumpModel", "primed", "()I"⟩ ⟨"JokePumpModel", "primed", "()I"⟩ ∈ lw_g := lw_gm (tinS (q := (⟨"JokePumpModel", "primed", "()I"⟩, 23)) (List.mem_of_getElem? (i := 66) (by decide +kernel))) (by decide +kernel)
theorem q5_193 : Cond.code ⟨"JokePumpModel", "primed", "()I"⟩ prog_10_method_71_code 3 (some .int) ∈ lw_g := lw_gm (tin5 (List.mem_of_getElem? (i := 193) (by decide +kernel))) (by decide +kernel)
theorem lk_X8_215 : LkV RX8 215 yX8_primed cX8_primed 3 (some .int) 0 := LkV_of q5_190 q5_192 qs_66 q1_9 q5_193 ⟨by decide, by decide, by decide +kernel⟩
theorem q5_198 : Cond.methodLink "JokePumpModel" 224 ⟨"JokePumpModel", "writes", "(I)V"⟩ ∈ lw_g := lw_gm (tin5 (List.mem_of_getElem? (i := 198) (by decide +kernel))) (by decide +kernel)
theorem q5_200 : Cond.instanceMethod ⟨"JokePumpModel", "writes", "(I)V"⟩ ∈ lw_g := lw_gm (tin5 (List.mem_of_getElem? (i := 200) (by decide +kernel))) (by decide +kernel)
theorem qs_67 : Cond.selects "JokePumpModel" ⟨"JokePumpModel", "writes", "(I)V"⟩ ⟨"JokePumpModel", "writes", "(I)V"⟩ ∈ lw_g := lw_gm (tinS (q := (⟨"JokePumpModel", "writes", "(I)V"⟩, 23)) (List.mem_of_getElem? (i := 67) (by decide +kernel))) (by decide +kernel)
theorem q5_201 : Cond.code ⟨"JokePumpModel", "writes", "(I)V"⟩ prog_10_method_73_code 2 (none : Option Jvm.ClassFile.FieldType) ∈ lw_g := lw_gm (tin5 (List.mem_of_getElem? (i := 201) (by decide +kernel))) (by decide +kernel)
theorem lk_X8_224 : LkV RX8 224 yX8_writes cX8_writes 2 (none : Option Jvm.ClassFile.FieldType) 1 := LkV_of q5_198 q5_200 qs_67 q1_9 q5_201 ⟨by decide, by decide, by decide +kernel⟩
theorem q5_206 : Cond.methodLink "JokePumpModel" 227 ⟨"JokePumpModel", "writesNumber", "(I)V"⟩ ∈ lw_g := lw_gm (tin5 (List.mem_of_getElem? (i := 206) (by decide +kernel))) (by decide +kernel)
theorem q5_208 : Cond.instanceMethod ⟨"JokePumpModel", "writesNumber", "(I)V"⟩ ∈ lw_g := lw_gm (tin5 (List.mem_of_getElem? (i := 208) (by decide +kernel))) (by decide +kernel)
theorem qs_69 : Cond.selects "JokePumpModel" ⟨"JokePumpModel", "writesNumber", "(I)V"⟩ ⟨"JokePumpModel", "writesNumber", "(I)V"⟩ ∈ lw_g := lw_gm (tinS (q := (⟨"JokePumpModel", "writesNumber", "(I)V"⟩, 23)) (List.mem_of_getElem? (i := 69) (by decide +kernel))) (by decide +kernel)
theorem q5_209 : Cond.code ⟨"JokePumpModel", "writesNumber", "(I)V"⟩ prog_10_method_74_code 2 (none : Option Jvm.ClassFile.FieldType) ∈ lw_g := lw_gm (tin5 (List.mem_of_getElem? (i := 209) (by decide +kernel))) (by decide +kernel)
theorem lk_X8_227 : LkV RX8 227 yX8_writesNumber cX8_writesNumber 2 (none : Option Jvm.ClassFile.FieldType) 1 := LkV_of q5_206 q5_208 qs_69 q1_9 q5_209 ⟨by decide, by decide, by decide +kernel⟩
theorem q5_202 : Cond.methodLink "JokePumpModel" 230 ⟨"JokePumpModel", "writesJoke", "(I)V"⟩ ∈ lw_g := lw_gm (tin5 (List.mem_of_getElem? (i := 202) (by decide +kernel))) (by decide +kernel)
theorem q5_204 : Cond.instanceMethod ⟨"JokePumpModel", "writesJoke", "(I)V"⟩ ∈ lw_g := lw_gm (tin5 (List.mem_of_getElem? (i := 204) (by decide +kernel))) (by decide +kernel)
theorem qs_68 : Cond.selects "JokePumpModel" ⟨"JokePumpModel", "writesJoke", "(I)V"⟩ ⟨"JokePumpModel", "writesJoke", "(I)V"⟩ ∈ lw_g := lw_gm (tinS (q := (⟨"JokePumpModel", "writesJoke", "(I)V"⟩, 23)) (List.mem_of_getElem? (i := 68) (by decide +kernel))) (by decide +kernel)
theorem q5_205 : Cond.code ⟨"JokePumpModel", "writesJoke", "(I)V"⟩ prog_10_method_75_code 2 (none : Option Jvm.ClassFile.FieldType) ∈ lw_g := lw_gm (tin5 (List.mem_of_getElem? (i := 205) (by decide +kernel))) (by decide +kernel)
theorem lk_X8_230 : LkV RX8 230 yX8_writesJoke cX8_writesJoke 2 (none : Option Jvm.ClassFile.FieldType) 1 := LkV_of q5_202 q5_204 qs_68 q1_9 q5_205 ⟨by decide, by decide, by decide +kernel⟩
theorem q5_238 : Cond.methodLink "JokePumpModel" 236 ⟨"JokePumpModel", "nextSign", "()I"⟩ ∈ lw_g := lw_gm (tin5 (List.mem_of_getElem? (i := 238) (by decide +kernel))) (by decide +kernel)
theorem q6_0 : Cond.instanceMethod ⟨"JokePumpModel", "nextSign", "()I"⟩ ∈ lw_g := lw_gm (tin6 (List.mem_of_getElem? (i := 0) (by decide +kernel))) (by decide +kernel)
theorem qs_72 : Cond.selects "JokePumpModel" ⟨"JokePumpModel", "nextSign", "()I"⟩ ⟨"JokePumpModel", "nextSign", "()I"⟩ ∈ lw_g := lw_gm (tinS (q := (⟨"JokePumpModel", "nextSign", "()I"⟩, 23)) (List.mem_of_getElem? (i := 72) (by decide +kernel))) (by decide +kernel)
theorem q6_1 : Cond.code ⟨"JokePumpModel", "nextSign", "()I"⟩ prog_10_method_81_code 1 (some .int) ∈ lw_g := lw_gm (tin6 (List.mem_of_getElem? (i := 1) (by decide +kernel))) (by decide +kernel)
theorem lk_X8_236 : LkV RX8 236 yX8_nextSign cX8_nextSign 1 (some .int) 0 := LkV_of q5_238 q6_0 qs_72 q1_9 q6_1 ⟨by decide, by decide, by decide +kernel⟩
theorem q6_10 : Cond.methodLink "JokePumpModel" 239 ⟨"JokePumpModel", "readsDigit", "(I)Z"⟩ ∈ lw_g := lw_gm (tin6 (List.mem_of_getElem? (i := 10) (by decide +kernel))) (by decide +kernel)
theorem q6_12 : Cond.instanceMethod ⟨"JokePumpModel", "readsDigit", "(I)Z"⟩ ∈ lw_g := lw_gm (tin6 (List.mem_of_getElem? (i := 12) (by decide +kernel))) (by decide +kernel)
theorem qs_75 : Cond.selects "JokePumpModel" ⟨"JokePumpModel", "readsDigit", "(I)Z"⟩ ⟨"JokePumpModel", "readsDigit", "(I)Z"⟩ ∈ lw_g := lw_gm (tinS (q := (⟨"JokePumpModel", "readsDigit", "(I)Z"⟩, 23)) (List.mem_of_getElem? (i := 75) (by decide +kernel))) (by decide +kernel)
theorem q6_13 : Cond.code ⟨"JokePumpModel", "readsDigit", "(I)Z"⟩ prog_10_method_83_code 2 (some .boolean) ∈ lw_g := lw_gm (tin6 (List.mem_of_getElem? (i := 13) (by decide +kernel))) (by decide +kernel)
theorem lk_X8_239 : LkV RX8 239 yX8_readsDigit cX8_readsDigit 2 (some .boolean) 1 := LkV_of q6_10 q6_12 qs_75 q1_9 q6_13 ⟨by decide, by decide, by decide +kernel⟩
theorem q6_2 : Cond.methodLink "JokePumpModel" 242 ⟨"JokePumpModel", "reads", "(I)Z"⟩ ∈ lw_g := lw_gm (tin6 (List.mem_of_getElem? (i := 2) (by decide +kernel))) (by decide +kernel)
theorem q6_4 : Cond.instanceMethod ⟨"JokePumpModel", "reads", "(I)Z"⟩ ∈ lw_g := lw_gm (tin6 (List.mem_of_getElem? (i := 4) (by decide +kernel))) (by decide +kernel)
theorem qs_73 : Cond.selects "JokePumpModel" ⟨"JokePumpModel", "reads", "(I)Z"⟩ ⟨"JokePumpModel", "reads", "(I)Z"⟩ ∈ lw_g := lw_gm (tinS (q := (⟨"JokePumpModel", "reads", "(I)Z"⟩, 23)) (List.mem_of_getElem? (i := 73) (by decide +kernel))) (by decide +kernel)
theorem q6_5 : Cond.code ⟨"JokePumpModel", "reads", "(I)Z"⟩ prog_10_method_82_code 2 (some .boolean) ∈ lw_g := lw_gm (tin6 (List.mem_of_getElem? (i := 5) (by decide +kernel))) (by decide +kernel)
theorem lk_X8_242 : LkV RX8 242 yX8_reads cX8_reads 2 (some .boolean) 1 := LkV_of q6_2 q6_4 qs_73 q1_9 q6_5 ⟨by decide, by decide, by decide +kernel⟩
theorem q6_14 : Cond.methodLink "JokePumpModel" 245 ⟨"JokePumpModel", "readsNumber", "(I)Z"⟩ ∈ lw_g := lw_gm (tin6 (List.mem_of_getElem? (i := 14) (by decide +kernel))) (by decide +kernel)
theorem q6_16 : Cond.instanceMethod ⟨"JokePumpModel", "readsNumber", "(I)Z"⟩ ∈ lw_g := lw_gm (tin6 (List.mem_of_getElem? (i := 16) (by decide +kernel))) (by decide +kernel)
theorem qs_76 : Cond.selects "JokePumpModel" ⟨"JokePumpModel", "readsNumber", "(I)Z"⟩ ⟨"JokePumpModel", "readsNumber", "(I)Z"⟩ ∈ lw_g := lw_gm (tinS (q := (⟨"JokePumpModel", "readsNumber", "(I)Z"⟩, 23)) (List.mem_of_getElem? (i := 76) (by decide +kernel))) (by decide +kernel)
theorem q6_17 : Cond.code ⟨"JokePumpModel", "readsNumber", "(I)Z"⟩ prog_10_method_84_code 2 (some .boolean) ∈ lw_g := lw_gm (tin6 (List.mem_of_getElem? (i := 17) (by decide +kernel))) (by decide +kernel)
theorem lk_X8_245 : LkV RX8 245 yX8_readsNumber cX8_readsNumber 2 (some .boolean) 1 := LkV_of q6_14 q6_16 qs_76 q1_9 q6_17 ⟨by decide, by decide, by decide +kernel⟩
theorem q6_6 : Cond.methodLink "JokePumpModel" 251 ⟨"JokePumpModel", "readsJoke", "()Z"⟩ ∈ lw_g := lw_gm (tin6 (List.mem_of_getElem? (i := 6) (by decide +kernel))) (by decide +kernel)
theorem q6_8 : Cond.instanceMethod ⟨"JokePumpModel", "readsJoke", "()Z"⟩ ∈ lw_g := lw_gm (tin6 (List.mem_of_getElem? (i := 8) (by decide +kernel))) (by decide +kernel)
theorem qs_74 : Cond.selects "JokePumpModel" ⟨"JokePumpModel", "readsJoke", "()Z"⟩ ⟨"JokePumpModel", "readsJoke", "()Z"⟩ ∈ lw_g := lw_gm (tinS (q := (⟨"JokePumpModel", "readsJoke", "()Z"⟩, 23)) (List.mem_of_getElem? (i := 74) (by decide +kernel))) (by decide +kernel)
theorem q6_9 : Cond.code ⟨"JokePumpModel", "readsJoke", "()Z"⟩ prog_10_method_85_code 1 (some .boolean) ∈ lw_g := lw_gm (tin6 (List.mem_of_getElem? (i := 9) (by decide +kernel))) (by decide +kernel)
theorem lk_X8_251 : LkV RX8 251 yX8_readsJoke cX8_readsJoke 1 (some .boolean) 0 := LkV_of q6_6 q6_8 qs_74 q1_9 q6_9 ⟨by decide, by decide, by decide +kernel⟩
theorem q6_18 : Cond.methodLink "JokePumpModel" 255 ⟨"JokePumpModel", "readsP", "()Z"⟩ ∈ lw_g := lw_gm (tin6 (List.mem_of_getElem? (i := 18) (by decide +kernel))) (by decide +kernel)
theorem q6_20 : Cond.instanceMethod ⟨"JokePumpModel", "readsP", "()Z"⟩ ∈ lw_g := lw_gm (tin6 (List.mem_of_getElem? (i := 20) (by decide +kernel))) (by decide +kernel)
theorem qs_77 : Cond.selects "JokePumpModel" ⟨"JokePumpModel", "readsP", "()Z"⟩ ⟨"JokePumpModel", "readsP", "()Z"⟩ ∈ lw_g := lw_gm (tinS (q := (⟨"JokePumpModel", "readsP", "()Z"⟩, 23)) (List.mem_of_getElem? (i := 77) (by decide +kernel))) (by decide +kernel)
theorem q6_21 : Cond.code ⟨"JokePumpModel", "readsP", "()Z"⟩ prog_10_method_86_code 1 (some .boolean) ∈ lw_g := lw_gm (tin6 (List.mem_of_getElem? (i := 21) (by decide +kernel))) (by decide +kernel)
theorem lk_X8_255 : LkV RX8 255 yX8_readsP cX8_readsP 1 (some .boolean) 0 := LkV_of q6_18 q6_20 qs_77 q1_9 q6_21 ⟨by decide, by decide, by decide +kernel⟩
theorem q6_22 : Cond.methodLink "JokePumpModel" 258 ⟨"JokePumpModel", "readsD", "()Z"⟩ ∈ lw_g := lw_gm (tin6 (List.mem_of_getElem? (i := 22) (by decide +kernel))) (by decide +kernel)
theorem q6_24 : Cond.instanceMethod ⟨"JokePumpModel", "readsD", "()Z"⟩ ∈ lw_g := lw_gm (tin6 (List.mem_of_getElem? (i := 24) (by decide +kernel))) (by decide +kernel)
theorem qs_78 : Cond.selects "JokePumpModel" ⟨"JokePumpModel", "readsD", "()Z"⟩ ⟨"JokePumpModel", "readsD", "()Z"⟩ ∈ lw_g := lw_gm (tinS (q := (⟨"JokePumpModel", "readsD", "()Z"⟩, 23)) (List.mem_of_getElem? (i := 78) (by decide +kernel))) (by decide +kernel)
theorem q6_25 : Cond.code ⟨"JokePumpModel", "readsD", "()Z"⟩ prog_10_method_87_code 1 (some .boolean) ∈ lw_g := lw_gm (tin6 (List.mem_of_getElem? (i := 25) (by decide +kernel))) (by decide +kernel)
theorem lk_X8_258 : LkV RX8 258 yX8_readsD cX8_readsD 1 (some .boolean) 0 := LkV_of q6_22 q6_24 qs_78 q1_9 q6_25 ⟨by decide, by decide, by decide +kernel⟩
theorem q6_26 : Cond.methodLink "JokePumpModel" 261 ⟨"JokePumpModel", "readsStroke", "()Z"⟩ ∈ lw_g := lw_gm (tin6 (List.mem_of_getElem? (i := 26) (by decide +kernel))) (by decide +kernel)
theorem q6_28 : Cond.instanceMethod ⟨"JokePumpModel", "readsStroke", "()Z"⟩ ∈ lw_g := lw_gm (tin6 (List.mem_of_getElem? (i := 28) (by decide +kernel))) (by decide +kernel)
theorem qs_79 : Cond.selects "JokePumpModel" ⟨"JokePumpModel", "readsStroke", "()Z"⟩ ⟨"JokePumpModel", "readsStroke", "()Z"⟩ ∈ lw_g := lw_gm (tinS (q := (⟨"JokePumpModel", "readsStroke", "()Z"⟩, 23)) (List.mem_of_getElem? (i := 79) (by decide +kernel))) (by decide +kernel)
theorem q6_29 : Cond.code ⟨"JokePumpModel", "readsStroke", "()Z"⟩ prog_10_method_88_code 1 (some .boolean) ∈ lw_g := lw_gm (tin6 (List.mem_of_getElem? (i := 29) (by decide +kernel))) (by decide +kernel)
theorem lk_X8_261 : LkV RX8 261 yX8_readsStroke cX8_readsStroke 1 (some .boolean) 0 := LkV_of q6_26 q6_28 qs_79 q1_9 q6_29 ⟨by decide, by decide, by decide +kernel⟩
theorem q6_30 : Cond.methodLink "JokePumpModel" 264 ⟨"JokePumpModel", "readsBucket", "()Z"⟩ ∈ lw_g := lw_gm (tin6 (List.mem_of_getElem? (i := 30) (by decide +kernel))) (by decide +kernel)
theorem q6_32 : Cond.instanceMethod ⟨"JokePumpModel", "readsBucket", "()Z"⟩ ∈ lw_g := lw_gm (tin6 (List.mem_of_getElem? (i := 32) (by decide +kernel))) (by decide +kernel)
theorem qs_80 : Cond.selects "JokePumpModel" ⟨"JokePumpModel", "readsBucket", "()Z"⟩ ⟨"JokePumpModel", "readsBucket", "()Z"⟩ ∈ lw_g := lw_gm (tinS (q := (⟨"JokePumpModel", "readsBucket", "()Z"⟩, 23)) (List.mem_of_getElem? (i := 80) (by decide +kernel))) (by decide +kernel)
theorem q6_33 : Cond.code ⟨"JokePumpModel", "readsBucket", "()Z"⟩ prog_10_method_89_code 1 (some .boolean) ∈ lw_g := lw_gm (tin6 (List.mem_of_getElem? (i := 33) (by decide +kernel))) (by decide +kernel)
theorem lk_X8_264 : LkV RX8 264 yX8_readsBucket cX8_readsBucket 1 (some .boolean) 0 := LkV_of q6_30 q6_32 qs_80 q1_9 q6_33 ⟨by decide, by decide, by decide +kernel⟩
theorem q5_234 : Cond.methodLink "JokePumpModel" 267 ⟨"JokePumpModel", "readsCommand", "()Z"⟩ ∈ lw_g := lw_gm (tin5 (List.mem_of_getElem? (i := 234) (by decide +kernel))) (by decide +kernel)
theorem q5_236 : Cond.instanceMethod ⟨"JokePumpModel", "readsCommand", "()Z"⟩ ∈ lw_g := lw_gm (tin5 (List.mem_of_getElem? (i := 236) (by decide +kernel))) (by decide +kernel)
theorem qs_71 : Cond.selects "JokePumpModel" ⟨"JokePumpModel", "readsCommand", "()Z"⟩ ⟨"JokePumpModel", "readsCommand", "()Z"⟩ ∈ lw_g := lw_gm (tinS (q := (⟨"JokePumpModel", "readsCommand", "()Z"⟩, 23)) (List.mem_of_getElem? (i := 71) (by decide +kernel))) (by decide +kernel)
theorem q5_237 : Cond.code ⟨"JokePumpModel", "readsCommand", "()Z"⟩ prog_10_method_90_code 1 (some .boolean) ∈ lw_g := lw_gm (tin5 (List.mem_of_getElem? (i := 237) (by decide +kernel))) (by decide +kernel)
theorem lk_X8_267 : LkV RX8 267 yX8_readsCommand cX8_readsCommand 1 (some .boolean) 0 := LkV_of q5_234 q5_236 qs_71 q1_9 q5_237 ⟨by decide, by decide, by decide +kernel⟩
theorem q6_38 : Cond.methodLink "JokePumpModel" 273 ⟨"JokePumpModel", "notNow", "()I"⟩ ∈ lw_g := lw_gm (tin6 (List.mem_of_getElem? (i := 38) (by decide +kernel))) (by decide +kernel)
theorem q6_40 : Cond.instanceMethod ⟨"JokePumpModel", "notNow", "()I"⟩ ∈ lw_g := lw_gm (tin6 (List.mem_of_getElem? (i := 40) (by decide +kernel))) (by decide +kernel)
theorem qs_82 : Cond.selects "JokePumpModel" ⟨"JokePumpModel", "notNow", "()I"⟩ ⟨"JokePumpModel", "notNow", "()I"⟩ ∈ lw_g := lw_gm (tinS (q := (⟨"JokePumpModel", "notNow", "()I"⟩, 23)) (List.mem_of_getElem? (i := 82) (by decide +kernel))) (by decide +kernel)
theorem q6_41 : Cond.code ⟨"JokePumpModel", "notNow", "()I"⟩ prog_10_method_92_code 2 (some .int) ∈ lw_g := lw_gm (tin6 (List.mem_of_getElem? (i := 41) (by decide +kernel))) (by decide +kernel)
theorem lk_X8_273 : LkV RX8 273 yX8_notNow cX8_notNow 2 (some .int) 0 := LkV_of q6_38 q6_40 qs_82 q1_9 q6_41 ⟨by decide, by decide, by decide +kernel⟩
theorem q6_42 : Cond.methodLink "JokePumpModel" 276 ⟨"JokePumpModel", "doesNow", "()I"⟩ ∈ lw_g := lw_gm (tin6 (List.mem_of_getElem? (i := 42) (by decide +kernel))) (by decide +kernel)
theorem q6_44 : Cond.instanceMethod ⟨"JokePumpModel", "doesNow", "()I"⟩ ∈ lw_g := lw_gm (tin6 (List.mem_of_getElem? (i := 44) (by decide +kernel))) (by decide +kernel)
theorem qs_83 : Cond.selects "JokePumpModel" ⟨"JokePumpModel", "doesNow", "()I"⟩ ⟨"JokePumpModel", "doesNow", "()I"⟩ ∈ lw_g := lw_gm (tinS (q := (⟨"JokePumpModel", "doesNow", "()I"⟩, 23)) (List.mem_of_getElem? (i := 83) (by decide +kernel))) (by decide +kernel)
theorem q6_45 : Cond.code ⟨"JokePumpModel", "doesNow", "()I"⟩ prog_10_method_93_code 2 (some .int) ∈ lw_g := lw_gm (tin6 (List.mem_of_getElem? (i := 45) (by decide +kernel))) (by decide +kernel)
theorem lk_X8_276 : LkV RX8 276 yX8_doesNow cX8_doesNow 2 (some .int) 0 := LkV_of q6_42 q6_44 qs_83 q1_9 q6_45 ⟨by decide, by decide, by decide +kernel⟩
theorem q5_230 : Cond.methodLink "JokePumpModel" 279 ⟨"JokePumpModel", "readsAll", "()Z"⟩ ∈ lw_g := lw_gm (tin5 (List.mem_of_getElem? (i := 230) (by decide +kernel))) (by decide +kernel)
theorem q5_232 : Cond.instanceMethod ⟨"JokePumpModel", "readsAll", "()Z"⟩ ∈ lw_g := lw_gm (tin5 (List.mem_of_getElem? (i := 232) (by decide +kernel))) (by decide +kernel)
theorem qs_70 : Cond.selects "JokePumpModel" ⟨"JokePumpModel", "readsAll", "()Z"⟩ ⟨"JokePumpModel", "readsAll", "()Z"⟩ ∈ lw_g := lw_gm (tinS (q := (⟨"JokePumpModel", "readsAll", "()Z"⟩, 23)) (List.mem_of_getElem? (i := 70) (by decide +kernel))) (by decide +kernel)
theorem q5_233 : Cond.code ⟨"JokePumpModel", "readsAll", "()Z"⟩ prog_10_method_91_code 2 (some .boolean) ∈ lw_g := lw_gm (tin5 (List.mem_of_getElem? (i := 233) (by decide +kernel))) (by decide +kernel)
theorem lk_X8_279 : LkV RX8 279 yX8_readsAll cX8_readsAll 2 (some .boolean) 0 := LkV_of q5_230 q5_232 qs_70 q1_9 q5_233 ⟨by decide, by decide, by decide +kernel⟩
theorem q6_34 : Cond.methodLink "JokePumpModel" 282 ⟨"JokePumpModel", "doesAll", "()I"⟩ ∈ lw_g := lw_gm (tin6 (List.mem_of_getElem? (i := 34) (by decide +kernel))) (by decide +kernel)
theorem q6_36 : Cond.instanceMethod ⟨"JokePumpModel", "doesAll", "()I"⟩ ∈ lw_g := lw_gm (tin6 (List.mem_of_getElem? (i := 36) (by decide +kernel))) (by decide +kernel)
theorem qs_81 : Cond.selects "JokePumpModel" ⟨"JokePumpModel", "doesAll", "()I"⟩ ⟨"JokePumpModel", "doesAll", "()I"⟩ ∈ lw_g := lw_gm (tinS (q := (⟨"JokePumpModel", "doesAll", "()I"⟩, 23)) (List.mem_of_getElem? (i := 81) (by decide +kernel))) (by decide +kernel)
theorem q6_37 : Cond.code ⟨"JokePumpModel", "doesAll", "()I"⟩ prog_10_method_94_code 3 (some .int) ∈ lw_g := lw_gm (tin6 (List.mem_of_getElem? (i := 37) (by decide +kernel))) (by decide +kernel)
theorem lk_X8_282 : LkV RX8 282 yX8_doesAll cX8_doesAll 3 (some .int) 0 := LkV_of q6_34 q6_36 qs_81 q1_9 q6_37 ⟨by decide, by decide, by decide +kernel⟩
theorem q6_46 : Cond.methodLink "JokePumpModel" 285 ⟨"JokePumpModel", "forgets", "()V"⟩ ∈ lw_g := lw_gm (tin6 (List.mem_of_getElem? (i := 46) (by decide +kernel))) (by decide +kernel)
theorem q6_48 : Cond.instanceMethod ⟨"JokePumpModel", "forgets", "()V"⟩ ∈ lw_g := lw_gm (tin6 (List.mem_of_getElem? (i := 48) (by decide +kernel))) (by decide +kernel)
theorem qs_84 : Cond.selects "JokePumpModel" ⟨"JokePumpModel", "forgets", "()V"⟩ ⟨"JokePumpModel", "forgets", "()V"⟩ ∈ lw_g := lw_gm (tinS (q := (⟨"JokePumpModel", "forgets", "()V"⟩, 23)) (List.mem_of_getElem? (i := 84) (by decide +kernel))) (by decide +kernel)
theorem q6_49 : Cond.code ⟨"JokePumpModel", "forgets", "()V"⟩ prog_10_method_7_code 2 (none : Option Jvm.ClassFile.FieldType) ∈ lw_g := lw_gm (tin6 (List.mem_of_getElem? (i := 49) (by decide +kernel))) (by decide +kernel)
theorem lk_X8_285 : LkV RX8 285 yX8_forgets cX8_forgets 2 (none : Option Jvm.ClassFile.FieldType) 0 := LkV_of q6_46 q6_48 qs_84 q1_9 q6_49 ⟨by decide, by decide, by decide +kernel⟩
theorem q6_50 : Cond.methodLink "JokePumpModel" 288 ⟨"JokePumpModel", "refuses", "(I)I"⟩ ∈ lw_g := lw_gm (tin6 (List.mem_of_getElem? (i := 50) (by decide +kernel))) (by decide +kernel)
theorem q6_52 : Cond.instanceMethod ⟨"JokePumpModel", "refuses", "(I)I"⟩ ∈ lw_g := lw_gm (tin6 (List.mem_of_getElem? (i := 52) (by decide +kernel))) (by decide +kernel)
theorem qs_85 : Cond.selects "JokePumpModel" ⟨"JokePumpModel", "refuses", "(I)I"⟩ ⟨"JokePumpModel", "refuses", "(I)I"⟩ ∈ lw_g := lw_gm (tinS (q := (⟨"JokePumpModel", "refuses", "(I)I"⟩, 23)) (List.mem_of_getElem? (i := 85) (by decide +kernel))) (by decide +kernel)
theorem q6_53 : Cond.code ⟨"JokePumpModel", "refuses", "(I)I"⟩ prog_10_method_95_code 2 (some .int) ∈ lw_g := lw_gm (tin6 (List.mem_of_getElem? (i := 53) (by decide +kernel))) (by decide +kernel)
theorem lk_X8_288 : LkV RX8 288 yX8_refuses cX8_refuses 2 (some .int) 1 := LkV_of q6_50 q6_52 qs_85 q1_9 q6_53 ⟨by decide, by decide, by decide +kernel⟩
theorem q2_104 : Cond.methodLink "JokePump$History" 33 ⟨"java/lang/Math", "min", "(II)I"⟩ ∈ lw_g := lw_gm (tin2 (List.mem_of_getElem? (i := 104) (by decide +kernel))) (by decide +kernel)
theorem q3_60 : Cond.methodLink "JokePump$Reader" 71 ⟨"java/lang/Math", "max", "(II)I"⟩ ∈ lw_g := lw_gm (tin3 (List.mem_of_getElem? (i := 60) (by decide +kernel))) (by decide +kernel)
theorem q2_43 : Cond.methodLink "JokePump$Row" 13 ⟨"java/lang/Math", "min", "(II)I"⟩ ∈ lw_g := lw_gm (tin2 (List.mem_of_getElem? (i := 43) (by decide +kernel))) (by decide +kernel)
theorem q2_183 : Cond.methodLink "JokePump$State" 66 ⟨"java/lang/Math", "min", "(II)I"⟩ ∈ lw_g := lw_gm (tin2 (List.mem_of_getElem? (i := 183) (by decide +kernel))) (by decide +kernel)
theorem q2_53 : Cond.methodLink "JokePump$Told" 54 ⟨"java/lang/Math", "min", "(II)I"⟩ ∈ lw_g := lw_gm (tin2 (List.mem_of_getElem? (i := 53) (by decide +kernel))) (by decide +kernel)
theorem q2_143 : Cond.methodLink "JokePump" 237 ⟨"java/lang/Math", "min", "(II)I"⟩ ∈ lw_g := lw_gm (tin2 (List.mem_of_getElem? (i := 143) (by decide +kernel))) (by decide +kernel)
theorem q2_44 : Cond.static ⟨"java/lang/Math", "min", "(II)I"⟩ ∈ lw_g := lw_gm (tin2 (List.mem_of_getElem? (i := 44) (by decide +kernel))) (by decide +kernel)
theorem q3_61 : Cond.static ⟨"java/lang/Math", "max", "(II)I"⟩ ∈ lw_g := lw_gm (tin3 (List.mem_of_getElem? (i := 61) (by decide +kernel))) (by decide +kernel)
theorem q1_10 : Cond.initialized "java/lang/Math" ∈ lw_g := lw_gm (tin1 (List.mem_of_getElem? (i := 10) (by decide +kernel))) (by decide +kernel)
theorem q2_45 : Cond.code ⟨"java/lang/Math", "min", "(II)I"⟩ prog_12_method_69_code 2 (some .int) ∈ lw_g := lw_gm (tin2 (List.mem_of_getElem? (i := 45) (by decide +kernel))) (by decide +kernel)
theorem q3_62 : Cond.code ⟨"java/lang/Math", "max", "(II)I"⟩ prog_12_method_65_code 2 (some .int) ∈ lw_g := lw_gm (tin3 (List.mem_of_getElem? (i := 62) (by decide +kernel))) (by decide +kernel)
theorem q2_48 : Cond.native ⟨"java/lang/System", "arraycopy", "(Ljava/lang/Object;ILjava/lang/Object;II)V"⟩ ∈ lw_g := lw_gm (tin2 (List.mem_of_getElem? (i := 48) (by decide +kernel))) (by decide +kernel)
theorem q2_201 : Cond.constantFloat "JokePump$State" 82 (1069547520 : UInt32) ∈ lw_g := lw_gm (tin2 (List.mem_of_getElem? (i := 201) (by decide +kernel))) (by decide +kernel)
theorem q2_202 : Cond.constantFloat "JokePump$State" 83 (1098907648 : UInt32) ∈ lw_g := lw_gm (tin2 (List.mem_of_getElem? (i := 202) (by decide +kernel))) (by decide +kernel)
theorem q3_177 : Cond.constantFloat "JokePump" 354 (1258291200 : UInt32) ∈ lw_g := lw_gm (tin3 (List.mem_of_getElem? (i := 177) (by decide +kernel))) (by decide +kernel)
theorem q3_211 : Cond.constantFloat "JokePump" 218 (1115684864 : UInt32) ∈ lw_g := lw_gm (tin3 (List.mem_of_getElem? (i := 211) (by decide +kernel))) (by decide +kernel)
theorem q5_71 : Cond.constantFloat "JokePumpModel" 153 (1069547520 : UInt32) ∈ lw_g := lw_gm (tin5 (List.mem_of_getElem? (i := 71) (by decide +kernel))) (by decide +kernel)
theorem q5_72 : Cond.constantFloat "JokePumpModel" 154 (1098907648 : UInt32) ∈ lw_g := lw_gm (tin5 (List.mem_of_getElem? (i := 72) (by decide +kernel))) (by decide +kernel)
theorem q5_81 : Cond.native ⟨"java/lang/Float", "floatToRawIntBits", "(F)I"⟩ ∈ lw_g := lw_gm (tin5 (List.mem_of_getElem? (i := 81) (by decide +kernel))) (by decide +kernel)
theorem q5_82 : Cond.constant "java/lang/Float" 77 (2143289344 : Int32) ∈ lw_g := lw_gm (tin5 (List.mem_of_getElem? (i := 82) (by decide +kernel))) (by decide +kernel)
theorem q5_85 : Cond.native ⟨"java/lang/Float", "intBitsToFloat", "(I)F"⟩ ∈ lw_g := lw_gm (tin5 (List.mem_of_getElem? (i := 85) (by decide +kernel))) (by decide +kernel)
theorem q5_185 : Cond.constantFloat "JokePumpModel" 214 (1115684864 : UInt32) ∈ lw_g := lw_gm (tin5 (List.mem_of_getElem? (i := 185) (by decide +kernel))) (by decide +kernel)
theorem q1_11 : Cond.initialized "java/lang/System" ∈ lw_g := lw_gm (tin1 (List.mem_of_getElem? (i := 11) (by decide +kernel))) (by decide +kernel)
theorem q1_12 : Cond.initialized "java/lang/Float" ∈ lw_g := lw_gm (tin1 (List.mem_of_getElem? (i := 12) (by decide +kernel))) (by decide +kernel)
theorem q1_13 : Cond.initialized "java/lang/String" ∈ lw_g := lw_gm (tin1 (List.mem_of_getElem? (i := 13) (by decide +kernel))) (by decide +kernel)
theorem q1_14 : Cond.initialized "java/lang/StringLatin1" ∈ lw_g := lw_gm (tin1 (List.mem_of_getElem? (i := 14) (by decide +kernel))) (by decide +kernel)
theorem q1_15 : Cond.initialized "jdk/internal/util/Preconditions" ∈ lw_g := lw_gm (tin1 (List.mem_of_getElem? (i := 15) (by decide +kernel))) (by decide +kernel)
theorem q1_16 : Cond.initialized "java/lang/StringUTF16" ∈ lw_g := lw_gm (tin1 (List.mem_of_getElem? (i := 16) (by decide +kernel))) (by decide +kernel)
theorem q2_46 : Cond.methodLink "JokePump$Row" 19 ⟨"java/lang/System", "arraycopy", "(Ljava/lang/Object;ILjava/lang/Object;II)V"⟩ ∈ lw_g := lw_gm (tin2 (List.mem_of_getElem? (i := 46) (by decide +kernel))) (by decide +kernel)
theorem q2_47 : Cond.static ⟨"java/lang/System", "arraycopy", "(Ljava/lang/Object;ILjava/lang/Object;II)V"⟩ ∈ lw_g := lw_gm (tin2 (List.mem_of_getElem? (i := 47) (by decide +kernel))) (by decide +kernel)
theorem q2_54 : Cond.methodLink "JokePump$Told" 60 ⟨"java/lang/System", "arraycopy", "(Ljava/lang/Object;ILjava/lang/Object;II)V"⟩ ∈ lw_g := lw_gm (tin2 (List.mem_of_getElem? (i := 54) (by decide +kernel))) (by decide +kernel)
theorem q3_0 : Cond.methodLink "JokePump$Reader" 58 ⟨"java/lang/String", "length", "()I"⟩ ∈ lw_g := lw_gm (tin3 (List.mem_of_getElem? (i := 0) (by decide +kernel))) (by decide +kernel)
theorem q3_1 : Cond.instanceMethod ⟨"java/lang/String", "length", "()I"⟩ ∈ lw_g := lw_gm (tin3 (List.mem_of_getElem? (i := 1) (by decide +kernel))) (by decide +kernel)
theorem q3_2 : Cond.selects "java/lang/String" ⟨"java/lang/String", "length", "()I"⟩ ⟨"java/lang/String", "length", "()I"⟩ ∈ lw_g := lw_gm (tin3 (List.mem_of_getElem? (i := 2) (by decide +kernel))) (by decide +kernel)
theorem q3_3 : Cond.code ⟨"java/lang/String", "length", "()I"⟩ prog_13_method_54_code 1 (some .int) ∈ lw_g := lw_gm (tin3 (List.mem_of_getElem? (i := 3) (by decide +kernel))) (by decide +kernel)
theorem q3_4 : Cond.methodLink "java/lang/String" 335 ⟨"java/lang/String", "coder", "()B"⟩ ∈ lw_g := lw_gm (tin3 (List.mem_of_getElem? (i := 4) (by decide +kernel))) (by decide +kernel)
theorem q3_5 : Cond.instanceMethod ⟨"java/lang/String", "coder", "()B"⟩ ∈ lw_g := lw_gm (tin3 (List.mem_of_getElem? (i := 5) (by decide +kernel))) (by decide +kernel)
theorem q3_6 : Cond.selects "java/lang/String" ⟨"java/lang/String", "coder", "()B"⟩ ⟨"java/lang/String", "coder", "()B"⟩ ∈ lw_g := lw_gm (tin3 (List.mem_of_getElem? (i := 6) (by decide +kernel))) (by decide +kernel)
theorem q3_7 : Cond.code ⟨"java/lang/String", "coder", "()B"⟩ prog_13_method_152_code 1 (some .byte) ∈ lw_g := lw_gm (tin3 (List.mem_of_getElem? (i := 7) (by decide +kernel))) (by decide +kernel)
theorem q3_8 : Cond.fieldLink "java/lang/String" 38 "java/lang/String" "COMPACT_STRINGS" "Z" ∈ lw_g := lw_gm (tin3 (List.mem_of_getElem? (i := 8) (by decide +kernel))) (by decide +kernel)
theorem q3_10 : Cond.methodLink "JokePump$Reader" 63 ⟨"java/lang/String", "charAt", "(I)C"⟩ ∈ lw_g := lw_gm (tin3 (List.mem_of_getElem? (i := 10) (by decide +kernel))) (by decide +kernel)
theorem q3_11 : Cond.instanceMethod ⟨"java/lang/String", "charAt", "(I)C"⟩ ∈ lw_g := lw_gm (tin3 (List.mem_of_getElem? (i := 11) (by decide +kernel))) (by decide +kernel)
theorem q3_12 : Cond.selects "java/lang/String" ⟨"java/lang/String", "charAt", "(I)C"⟩ ⟨"java/lang/String", "charAt", "(I)C"⟩ ∈ lw_g := lw_gm (tin3 (List.mem_of_getElem? (i := 12) (by decide +kernel))) (by decide +kernel)
theorem q3_13 : Cond.code ⟨"java/lang/String", "charAt", "(I)C"⟩ prog_13_method_56_code 2 (some .char) ∈ lw_g := lw_gm (tin3 (List.mem_of_getElem? (i := 13) (by decide +kernel))) (by decide +kernel)
theorem q3_14 : Cond.methodLink "java/lang/String" 492 ⟨"java/lang/String", "isLatin1", "()Z"⟩ ∈ lw_g := lw_gm (tin3 (List.mem_of_getElem? (i := 14) (by decide +kernel))) (by decide +kernel)
theorem q3_15 : Cond.instanceMethod ⟨"java/lang/String", "isLatin1", "()Z"⟩ ∈ lw_g := lw_gm (tin3 (List.mem_of_getElem? (i := 15) (by decide +kernel))) (by decide +kernel)
theorem q3_16 : Cond.selects "java/lang/String" ⟨"java/lang/String", "isLatin1", "()Z"⟩ ⟨"java/lang/String", "isLatin1", "()Z"⟩ ∈ lw_g := lw_gm (tin3 (List.mem_of_getElem? (i := 16) (by decide +kernel))) (by decide +kernel)
theorem q3_17 : Cond.code ⟨"java/lang/String", "isLatin1", "()Z"⟩ prog_13_method_154_code 1 (some .boolean) ∈ lw_g := lw_gm (tin3 (List.mem_of_getElem? (i := 17) (by decide +kernel))) (by decide +kernel)
theorem q3_18 : Cond.methodLink "java/lang/String" 495 ⟨"java/lang/StringLatin1", "charAt", "([BI)C"⟩ ∈ lw_g := lw_gm (tin3 (List.mem_of_getElem? (i := 18) (by decide +kernel))) (by decide +kernel)
theorem q3_19 : Cond.static ⟨"java/lang/StringLatin1", "charAt", "([BI)C"⟩ ∈ lw_g := lw_gm (tin3 (List.mem_of_getElem? (i := 19) (by decide +kernel))) (by decide +kernel)
theorem q3_20 : Cond.code ⟨"java/lang/StringLatin1", "charAt", "([BI)C"⟩ prog_14_method_2_code 2 (some .char) ∈ lw_g := lw_gm (tin3 (List.mem_of_getElem? (i := 20) (by decide +kernel))) (by decide +kernel)
theorem q3_21 : Cond.methodLink "java/lang/StringLatin1" 9 ⟨"java/lang/String", "checkIndex", "(II)V"⟩ ∈ lw_g := lw_gm (tin3 (List.mem_of_getElem? (i := 21) (by decide +kernel))) (by decide +kernel)
theorem q3_22 : Cond.static ⟨"java/lang/String", "checkIndex", "(II)V"⟩ ∈ lw_g := lw_gm (tin3 (List.mem_of_getElem? (i := 22) (by decide +kernel))) (by decide +kernel)
theorem q3_23 : Cond.code ⟨"java/lang/String", "checkIndex", "(II)V"⟩ prog_13_method_155_code 2 (none : Option Jvm.ClassFile.FieldType) ∈ lw_g := lw_gm (tin3 (List.mem_of_getElem? (i := 23) (by decide +kernel))) (by decide +kernel)
theorem q3_24 : Cond.fieldLink "java/lang/String" 1053 "jdk/internal/util/Preconditions" "SIOOBE_FORMATTER" "Ljava/util/function/BiFunction;" ∈ lw_g := lw_gm (tin3 (List.mem_of_getElem? (i := 24) (by decide +kernel))) (by decide +kernel)
theorem q3_26 : Cond.methodLink "java/lang/String" 1059 ⟨"jdk/internal/util/Preconditions", "checkIndex", "(IILjava/util/function/BiFunction;)I"⟩ ∈ lw_g := lw_gm (tin3 (List.mem_of_getElem? (i := 26) (by decide +kernel))) (by decide +kernel)
theorem q3_27 : Cond.static ⟨"jdk/internal/util/Preconditions", "checkIndex", "(IILjava/util/function/BiFunction;)I"⟩ ∈ lw_g := lw_gm (tin3 (List.mem_of_getElem? (i := 27) (by decide +kernel))) (by decide +kernel)
theorem q3_28 : Cond.code ⟨"jdk/internal/util/Preconditions", "checkIndex", "(IILjava/util/function/BiFunction;)I"⟩ prog_17_method_11_code 3 (some .int) ∈ lw_g := lw_gm (tin3 (List.mem_of_getElem? (i := 28) (by decide +kernel))) (by decide +kernel)
theorem q3_29 : Cond.methodLink "java/lang/String" 498 ⟨"java/lang/StringUTF16", "charAt", "([BI)C"⟩ ∈ lw_g := lw_gm (tin3 (List.mem_of_getElem? (i := 29) (by decide +kernel))) (by decide +kernel)
theorem q3_30 : Cond.static ⟨"java/lang/StringUTF16", "charAt", "([BI)C"⟩ ∈ lw_g := lw_gm (tin3 (List.mem_of_getElem? (i := 30) (by decide +kernel))) (by decide +kernel)
theorem q3_31 : Cond.code ⟨"java/lang/StringUTF16", "charAt", "([BI)C"⟩ prog_15_method_83_code 2 (some .char) ∈ lw_g := lw_gm (tin3 (List.mem_of_getElem? (i := 31) (by decide +kernel))) (by decide +kernel)
theorem q3_32 : Cond.methodLink "java/lang/StringUTF16" 67 ⟨"java/lang/StringUTF16", "checkIndex", "(I[B)V"⟩ ∈ lw_g := lw_gm (tin3 (List.mem_of_getElem? (i := 32) (by decide +kernel))) (by decide +kernel)
theorem q3_33 : Cond.static ⟨"java/lang/StringUTF16", "checkIndex", "(I[B)V"⟩ ∈ lw_g := lw_gm (tin3 (List.mem_of_getElem? (i := 33) (by decide +kernel))) (by decide +kernel)
theorem q3_34 : Cond.code ⟨"java/lang/StringUTF16", "checkIndex", "(I[B)V"⟩ prog_15_method_91_code 2 (none : Option Jvm.ClassFile.FieldType) ∈ lw_g := lw_gm (tin3 (List.mem_of_getElem? (i := 34) (by decide +kernel))) (by decide +kernel)
theorem q3_35 : Cond.methodLink "java/lang/StringUTF16" 48 ⟨"java/lang/StringUTF16", "length", "([B)I"⟩ ∈ lw_g := lw_gm (tin3 (List.mem_of_getElem? (i := 35) (by decide +kernel))) (by decide +kernel)
theorem q3_36 : Cond.static ⟨"java/lang/StringUTF16", "length", "([B)I"⟩ ∈ lw_g := lw_gm (tin3 (List.mem_of_getElem? (i := 36) (by decide +kernel))) (by decide +kernel)
theorem q3_37 : Cond.code ⟨"java/lang/StringUTF16", "length", "([B)I"⟩ prog_15_method_6_code 1 (some .int) ∈ lw_g := lw_gm (tin3 (List.mem_of_getElem? (i := 37) (by decide +kernel))) (by decide +kernel)
theorem q3_38 : Cond.methodLink "java/lang/StringUTF16" 414 ⟨"java/lang/String", "checkIndex", "(II)V"⟩ ∈ lw_g := lw_gm (tin3 (List.mem_of_getElem? (i := 38) (by decide +kernel))) (by decide +kernel)
theorem q3_39 : Cond.methodLink "java/lang/StringUTF16" 71 ⟨"java/lang/StringUTF16", "getChar", "([BI)C"⟩ ∈ lw_g := lw_gm (tin3 (List.mem_of_getElem? (i := 39) (by decide +kernel))) (by decide +kernel)
theorem q3_40 : Cond.static ⟨"java/lang/StringUTF16", "getChar", "([BI)C"⟩ ∈ lw_g := lw_gm (tin3 (List.mem_of_getElem? (i := 40) (by decide +kernel))) (by decide +kernel)
theorem q3_41 : Cond.code ⟨"java/lang/StringUTF16", "getChar", "([BI)C"⟩ prog_15_method_5_code 2 (some .char) ∈ lw_g := lw_gm (tin3 (List.mem_of_getElem? (i := 41) (by decide +kernel))) (by decide +kernel)
theorem q3_42 : Cond.fieldLink "java/lang/StringUTF16" 44 "java/lang/StringUTF16" "$assertionsDisabled" "Z" ∈ lw_g := lw_gm (tin3 (List.mem_of_getElem? (i := 42) (by decide +kernel))) (by decide +kernel)
theorem q3_44 : Cond.fieldLink "java/lang/StringUTF16" 59 "java/lang/StringUTF16" "HI_BYTE_SHIFT" "I" ∈ lw_g := lw_gm (tin3 (List.mem_of_getElem? (i := 44) (by decide +kernel))) (by decide +kernel)
theorem q3_46 : Cond.fieldLink "java/lang/StringUTF16" 63 "java/lang/StringUTF16" "LO_BYTE_SHIFT" "I" ∈ lw_g := lw_gm (tin3 (List.mem_of_getElem? (i := 46) (by decide +kernel))) (by decide +kernel)
theorem q5_73 : Cond.methodLink "JokePumpModel" 159 ⟨"java/lang/Float", "floatToIntBits", "(F)I"⟩ ∈ lw_g := lw_gm (tin5 (List.mem_of_getElem? (i := 73) (by decide +kernel))) (by decide +kernel)
theorem q5_74 : Cond.static ⟨"java/lang/Float", "floatToIntBits", "(F)I"⟩ ∈ lw_g := lw_gm (tin5 (List.mem_of_getElem? (i := 74) (by decide +kernel))) (by decide +kernel)
theorem q5_75 : Cond.code ⟨"java/lang/Float", "floatToIntBits", "(F)I"⟩ prog_11_method_24_code 1 (some .int) ∈ lw_g := lw_gm (tin5 (List.mem_of_getElem? (i := 75) (by decide +kernel))) (by decide +kernel)
theorem q5_76 : Cond.methodLink "java/lang/Float" 59 ⟨"java/lang/Float", "isNaN", "(F)Z"⟩ ∈ lw_g := lw_gm (tin5 (List.mem_of_getElem? (i := 76) (by decide +kernel))) (by decide +kernel)
theorem q5_77 : Cond.static ⟨"java/lang/Float", "isNaN", "(F)Z"⟩ ∈ lw_g := lw_gm (tin5 (List.mem_of_getElem? (i := 77) (by decide +kernel))) (by decide +kernel)
theorem q5_78 : Cond.code ⟨"java/lang/Float", "isNaN", "(F)Z"⟩ prog_11_method_6_code 1 (some .boolean) ∈ lw_g := lw_gm (tin5 (List.mem_of_getElem? (i := 78) (by decide +kernel))) (by decide +kernel)
theorem q5_79 : Cond.methodLink "java/lang/Float" 74 ⟨"java/lang/Float", "floatToRawIntBits", "(F)I"⟩ ∈ lw_g := lw_gm (tin5 (List.mem_of_getElem? (i := 79) (by decide +kernel))) (by decide +kernel)
theorem q5_80 : Cond.static ⟨"java/lang/Float", "floatToRawIntBits", "(F)I"⟩ ∈ lw_g := lw_gm (tin5 (List.mem_of_getElem? (i := 80) (by decide +kernel))) (by decide +kernel)
theorem q5_83 : Cond.methodLink "JokePumpModel" 165 ⟨"java/lang/Float", "intBitsToFloat", "(I)F"⟩ ∈ lw_g := lw_gm (tin5 (List.mem_of_getElem? (i := 83) (by decide +kernel))) (by decide +kernel)
theorem q5_84 : Cond.static ⟨"java/lang/Float", "intBitsToFloat", "(I)F"⟩ ∈ lw_g := lw_gm (tin5 (List.mem_of_getElem? (i := 84) (by decide +kernel))) (by decide +kernel)
theorem q6_66 : Cond.fieldLink "java/lang/String" 9 "java/lang/String" "value" "[B" ∈ lw_g := lw_gm (tin6 (List.mem_of_getElem? (i := 66) (by decide +kernel))) (by decide +kernel)
theorem q6_67 : Cond.fieldLink "java/lang/String" 15 "java/lang/String" "coder" "B" ∈ lw_g := lw_gm (tin6 (List.mem_of_getElem? (i := 67) (by decide +kernel))) (by decide +kernel)
end
