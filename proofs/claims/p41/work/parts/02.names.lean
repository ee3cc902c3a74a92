/-! ===== BEGIN words of one list among another's, by their places ===== -/
theorem goodIn_r {big : List Cond} (ws : List Cond) (ps : List Nat) (hp : ws = ps.filterMap (fun i => big[i]?)) (h : ws.all goodWord = true) : GoodIn big ws := by
  intro w hw
  have h1 := List.all_eq_true.mp h w hw
  rw [hp] at hw
  obtain ⟨i, -, hi⟩ := List.mem_filterMap.mp hw
  have hm : w ∈ big := by first | exact List.mem_of_getElem? hi | exact List.getElem?_mem hi
  exact ⟨hm, good_of_word h1⟩
theorem goodIn_app {big a b : List Cond} (ha : GoodIn big a) (hb : GoodIn big b) : GoodIn big (a ++ b) := fun w h => (List.mem_append.mp h).elim (ha w) (hb w)
theorem goodIn_ca {big a b : List Cond} {c : Cond} (ha : GoodIn big (c :: a)) (hb : GoodIn big b) : GoodIn big (c :: (a ++ b)) := fun w h => (List.mem_cons.mp h).elim (fun e => ha w (List.mem_cons.mpr (Or.inl e))) (fun h => (List.mem_append.mp h).elim (fun h => ha w (List.mem_cons.mpr (Or.inr h))) (hb w))
theorem goodIn_sub {big ws : List Cond} (hm : ∀ w ∈ ws, w ∈ big) (h : ws.all goodWord = true) : GoodIn big ws := fun w hw => ⟨hm w hw, good_of_word (List.all_eq_true.mp h w hw)⟩
/-! ===== END ===== -/

/-! ===== BEGIN printed: names, fields, word lists, decode rows ===== -/
def RX0 : String := "JokePump$History"
def TX0 : u_T := fun k => match k with
  | 0 => ("JokePump$History", "slots", "[LJokePump$State;", true)
  | 1 => ("JokePump$History", "next", "I", false)
  | _ => ("JokePump$History", "count", "I", false)
def tyX0 : Nat → FieldType := fun k => match k with
  | 0 => .array (.object "JokePump$State")
  | 1 => .int
  | _ => .int
abbrev wsX00 : List Cond := u_ws RX0 TX0 3
theorem nmX0 : ∀ a, a < 3 → ∀ b, b < 3 → a ≠ b → (TX0 a).2.1 ≠ (TX0 b).2.1 := by decide +kernel
theorem tyX0_ok : ∀ k, k < 3 → parseFieldDescriptor (TX0 k).2.2.1 = some (tyX0 k) := by decide +kernel
abbrev cX0_init : ByteArray := prog_2_method_1_code
def yX0_init : MethodName := ⟨RX0, "<init>", "()V"⟩
abbrev cX0_prepare : ByteArray := prog_2_method_2_code
def yX0_prepare : MethodName := ⟨RX0, "prepare", "(LJokePump$State;)V"⟩
abbrev cX0_keep : ByteArray := prog_2_method_3_code
def yX0_keep : MethodName := ⟨RX0, "keep", "()V"⟩
abbrev cX0_dismiss : ByteArray := prog_2_method_4_code
def yX0_dismiss : MethodName := ⟨RX0, "dismiss", "(LJokePump$State;)V"⟩
abbrev cX0_takeBack : ByteArray := prog_2_method_5_code
def yX0_takeBack : MethodName := ⟨RX0, "takeBack", "(LJokePump$State;)V"⟩
abbrev cX0_forget : ByteArray := prog_2_method_6_code
def yX0_forget : MethodName := ⟨RX0, "forget", "()V"⟩
abbrev cX0_slot : ByteArray := prog_2_method_7_code
def yX0_slot : MethodName := ⟨RX0, "slot", "()LJokePump$State;"⟩
def RX1 : String := "JokePump$Jokes"
def TX1 : u_T := fun k => match k with
  | 0 => ("JokePump$Jokes", "count", "I", false)
  | 1 => ("JokePump$Jokes", "wells", "LJokePump$Row;", true)
  | 2 => ("JokePump$Jokes", "depths", "LJokePump$Row;", true)
  | 3 => ("JokePump$Jokes", "signs", "LJokePump$Row;", true)
  | 4 => ("JokePump$Jokes", "wits", "LJokePump$Row;", true)
  | _ => ("JokePump$Jokes", "primed", "LJokePump$Row;", true)
def tyX1 : Nat → FieldType := fun k => match k with
  | 0 => .int
  | 1 => .object "JokePump$Row"
  | 2 => .object "JokePump$Row"
  | 3 => .object "JokePump$Row"
  | 4 => .object "JokePump$Row"
  | _ => .object "JokePump$Row"
abbrev wsX10 : List Cond := u_ws RX1 TX1 6
theorem nmX1 : ∀ a, a < 6 → ∀ b, b < 6 → a ≠ b → (TX1 a).2.1 ≠ (TX1 b).2.1 := by decide +kernel
theorem tyX1_ok : ∀ k, k < 6 → parseFieldDescriptor (TX1 k).2.2.1 = some (tyX1 k) := by decide +kernel
abbrev cX1_init : ByteArray := prog_3_method_1_code
def yX1_init : MethodName := ⟨RX1, "<init>", "()V"⟩
abbrev cX1_has : ByteArray := prog_3_method_2_code
def yX1_has : MethodName := ⟨RX1, "has", "(I)Z"⟩
abbrev cX1_add : ByteArray := prog_3_method_3_code
def yX1_add : MethodName := ⟨RX1, "add", "(IIII)V"⟩
abbrev cX1_remove : ByteArray := prog_3_method_4_code
def yX1_remove : MethodName := ⟨RX1, "remove", "(I)V"⟩
abbrev cX1_withSign : ByteArray := prog_3_method_5_code
def yX1_withSign : MethodName := ⟨RX1, "withSign", "(I)I"⟩
abbrev cX1_atDepth : ByteArray := prog_3_method_6_code
def yX1_atDepth : MethodName := ⟨RX1, "atDepth", "(II)I"⟩
abbrev cX1_countIn : ByteArray := prog_3_method_7_code
def yX1_countIn : MethodName := ⟨RX1, "countIn", "(I)I"⟩
abbrev cX1_countWithin : ByteArray := prog_3_method_8_code
def yX1_countWithin : MethodName := ⟨RX1, "countWithin", "(II)I"⟩
abbrev cX1_byDepth : ByteArray := prog_3_method_9_code
def yX1_byDepth : MethodName := ⟨RX1, "byDepth", "(II)I"⟩
abbrev cX1_countPrimed : ByteArray := prog_3_method_10_code
def yX1_countPrimed : MethodName := ⟨RX1, "countPrimed", "()I"⟩
abbrev cX1_copy : ByteArray := prog_3_method_12_code
def yX1_copy : MethodName := ⟨RX1, "copy", "(LJokePump$Jokes;LJokePump$Jokes;)V"⟩
def RX2 : String := "JokePump$Reader"
def TX2 : u_T := fun k => match k with
  | 0 => ("JokePump$Reader", "kinds", "LJokePump$Row;", true)
  | 1 => ("JokePump$Reader", "numbers", "LJokePump$Row;", true)
  | 2 => ("JokePump$Reader", "count", "I", false)
  | _ => ("JokePump$Reader", "end", "I", false)
def tyX2 : Nat → FieldType := fun k => match k with
  | 0 => .object "JokePump$Row"
  | 1 => .object "JokePump$Row"
  | 2 => .int
  | _ => .int
abbrev wsX20 : List Cond := u_ws RX2 TX2 4
theorem nmX2 : ∀ a, a < 4 → ∀ b, b < 4 → a ≠ b → (TX2 a).2.1 ≠ (TX2 b).2.1 := by decide +kernel
theorem tyX2_ok : ∀ k, k < 4 → parseFieldDescriptor (TX2 k).2.2.1 = some (tyX2 k) := by decide +kernel
abbrev cX2_init : ByteArray := prog_4_method_1_code
def yX2_init : MethodName := ⟨RX2, "<init>", "()V"⟩
abbrev cX2_isText : ByteArray := prog_4_method_2_code
def yX2_isText : MethodName := ⟨RX2, "isText", "(LJokePump$Strip;)Z"⟩
abbrev cX2_numberOf : ByteArray := prog_4_method_3_code
def yX2_numberOf : MethodName := ⟨RX2, "numberOf", "(II)I"⟩
abbrev cX2_takeCommand : ByteArray := prog_4_method_4_code
def yX2_takeCommand : MethodName := ⟨RX2, "takeCommand", "(LJokePump$Strip;I)Z"⟩
abbrev cX2_follow : ByteArray := prog_4_method_5_code
def yX2_follow : MethodName := ⟨RX2, "follow", "(LJokePump$Strip;ILjava/lang/String;)Z"⟩
abbrev cX2_takeNumber : ByteArray := prog_4_method_6_code
def yX2_takeNumber : MethodName := ⟨RX2, "takeNumber", "(LJokePump$Strip;IZI)I"⟩
abbrev cX2_digitAt : ByteArray := prog_4_method_7_code
def yX2_digitAt : MethodName := ⟨RX2, "digitAt", "(LJokePump$Strip;I)I"⟩
abbrev cX2_formOf : ByteArray := prog_4_method_8_code
def yX2_formOf : MethodName := ⟨RX2, "formOf", "(I)Ljava/lang/String;"⟩
def RX3 : String := "JokePump$Row"
def TX3 : u_T := fun k => match k with
  | _ => ("JokePump$Row", "cells", "[I", true)
def tyX3 : Nat → FieldType := fun k => match k with
  | _ => .array .int
abbrev wsX30 : List Cond := u_ws RX3 TX3 1
theorem nmX3 : ∀ a, a < 1 → ∀ b, b < 1 → a ≠ b → (TX3 a).2.1 ≠ (TX3 b).2.1 := by decide +kernel
theorem tyX3_ok : ∀ k, k < 1 → parseFieldDescriptor (TX3 k).2.2.1 = some (tyX3 k) := by decide +kernel
abbrev cX3_init : ByteArray := prog_5_method_1_code
def yX3_init : MethodName := ⟨RX3, "<init>", "(I)V"⟩
abbrev cX3_at : ByteArray := prog_5_method_2_code
def yX3_at : MethodName := ⟨RX3, "at", "(I)I"⟩
abbrev cX3_put : ByteArray := prog_5_method_3_code
def yX3_put : MethodName := ⟨RX3, "put", "(II)V"⟩
abbrev cX3_takeOut : ByteArray := prog_5_method_4_code
def yX3_takeOut : MethodName := ⟨RX3, "takeOut", "(I)V"⟩
abbrev cX3_copy : ByteArray := prog_5_method_5_code
def yX3_copy : MethodName := ⟨RX3, "copy", "(LJokePump$Row;LJokePump$Row;)V"⟩
def RX4 : String := "JokePump$State"
def TX4 : u_T := fun k => match k with
  | 0 => ("JokePump$State", "jokes", "LJokePump$Jokes;", true)
  | 1 => ("JokePump$State", "told", "LJokePump$Told;", true)
  | 2 => ("JokePump$State", "buckets", "LJokePump$Row;", true)
  | 3 => ("JokePump$State", "well", "I", false)
  | 4 => ("JokePump$State", "length", "I", false)
  | 5 => ("JokePump$State", "reach", "I", false)
  | 6 => ("JokePump$State", "groans", "I", false)
  | 7 => ("JokePump$State", "drops", "I", false)
  | 8 => ("JokePump$State", "came", "I", false)
  | 9 => ("JokePump$State", "went", "I", false)
  | 10 => ("JokePump$State", "strokesMade", "I", false)
  | _ => ("JokePump$State", "drained", "I", false)
def tyX4 : Nat → FieldType := fun k => match k with
  | 0 => .object "JokePump$Jokes"
  | 1 => .object "JokePump$Told"
  | 2 => .object "JokePump$Row"
  | 3 => .int
  | 4 => .int
  | 5 => .int
  | 6 => .int
  | 7 => .int
  | 8 => .int
  | 9 => .int
  | 10 => .int
  | _ => .int
abbrev wsX40 : List Cond := u_ws RX4 TX4 12
theorem nmX4 : ∀ a, a < 12 → ∀ b, b < 12 → a ≠ b → (TX4 a).2.1 ≠ (TX4 b).2.1 := by decide +kernel
theorem tyX4_ok : ∀ k, k < 12 → parseFieldDescriptor (TX4 k).2.2.1 = some (tyX4 k) := by decide +kernel
abbrev cX4_init : ByteArray := prog_6_method_1_code
def yX4_init : MethodName := ⟨RX4, "<init>", "()V"⟩
abbrev cX4_reachBehind : ByteArray := prog_6_method_2_code
def yX4_reachBehind : MethodName := ⟨RX4, "reachBehind", "(II)I"⟩
abbrev cX4_groansOf : ByteArray := prog_6_method_3_code
def yX4_groansOf : MethodName := ⟨RX4, "groansOf", "(I)I"⟩
abbrev cX4_laughOf : ByteArray := prog_6_method_4_code
def yX4_laughOf : MethodName := ⟨RX4, "laughOf", "(II)F"⟩
abbrev cX4_makeStroke : ByteArray := prog_6_method_5_code
def yX4_makeStroke : MethodName := ⟨RX4, "makeStroke", "()I"⟩
abbrev cX4_lift : ByteArray := prog_6_method_6_code
def yX4_lift : MethodName := ⟨RX4, "lift", "(I)V"⟩
abbrev cX4_copy : ByteArray := prog_6_method_7_code
def yX4_copy : MethodName := ⟨RX4, "copy", "(LJokePump$State;LJokePump$State;)V"⟩
def RX5 : String := "JokePump$Strip"
def TX5 : u_T := fun k => match k with
  | 0 => ("JokePump$Strip", "signs", "[C", true)
  | _ => ("JokePump$Strip", "length", "I", false)
def tyX5 : Nat → FieldType := fun k => match k with
  | 0 => .array .char
  | _ => .int
abbrev wsX50 : List Cond := u_ws RX5 TX5 2
theorem nmX5 : ∀ a, a < 2 → ∀ b, b < 2 → a ≠ b → (TX5 a).2.1 ≠ (TX5 b).2.1 := by decide +kernel
theorem tyX5_ok : ∀ k, k < 2 → parseFieldDescriptor (TX5 k).2.2.1 = some (tyX5 k) := by decide +kernel
abbrev cX5_init : ByteArray := prog_7_method_1_code
def yX5_init : MethodName := ⟨RX5, "<init>", "()V"⟩
abbrev cX5_clear : ByteArray := prog_7_method_2_code
def yX5_clear : MethodName := ⟨RX5, "clear", "()V"⟩
abbrev cX5_putSign : ByteArray := prog_7_method_3_code
def yX5_putSign : MethodName := ⟨RX5, "putSign", "(C)V"⟩
abbrev cX5_signAt : ByteArray := prog_7_method_5_code
def yX5_signAt : MethodName := ⟨RX5, "signAt", "(I)I"⟩
def RX6 : String := "JokePump$Told"
def TX6 : u_T := fun k => match k with
  | 0 => ("JokePump$Told", "count", "I", false)
  | 1 => ("JokePump$Told", "sum", "F", false)
  | 2 => ("JokePump$Told", "signs", "LJokePump$Row;", true)
  | 3 => ("JokePump$Told", "wells", "LJokePump$Row;", true)
  | 4 => ("JokePump$Told", "laughs", "[F", true)
  | _ => ("JokePump$Told", "known", "LJokePump$Row;", true)
def tyX6 : Nat → FieldType := fun k => match k with
  | 0 => .int
  | 1 => .float
  | 2 => .object "JokePump$Row"
  | 3 => .object "JokePump$Row"
  | 4 => .array .float
  | _ => .object "JokePump$Row"
abbrev wsX60 : List Cond := u_ws RX6 TX6 6
theorem nmX6 : ∀ a, a < 6 → ∀ b, b < 6 → a ≠ b → (TX6 a).2.1 ≠ (TX6 b).2.1 := by decide +kernel
theorem tyX6_ok : ∀ k, k < 6 → parseFieldDescriptor (TX6 k).2.2.1 = some (tyX6 k) := by decide +kernel
abbrev cX6_init : ByteArray := prog_8_method_1_code
def yX6_init : MethodName := ⟨RX6, "<init>", "()V"⟩
abbrev cX6_add : ByteArray := prog_8_method_2_code
def yX6_add : MethodName := ⟨RX6, "add", "(IIF)V"⟩
abbrev cX6_laughAt : ByteArray := prog_8_method_3_code
def yX6_laughAt : MethodName := ⟨RX6, "laughAt", "(I)F"⟩
abbrev cX6_sumAgain : ByteArray := prog_8_method_4_code
def yX6_sumAgain : MethodName := ⟨RX6, "sumAgain", "()F"⟩
abbrev cX6_countFrom : ByteArray := prog_8_method_5_code
def yX6_countFrom : MethodName := ⟨RX6, "countFrom", "(I)I"⟩
abbrev cX6_copy : ByteArray := prog_8_method_7_code
def yX6_copy : MethodName := ⟨RX6, "copy", "(LJokePump$Told;LJokePump$Told;)V"⟩
def RX7 : String := "JokePump"
def TX7 : u_T := fun k => match k with
  | 0 => ("JokePump", "now", "LJokePump$State;", true)
  | 1 => ("JokePump", "saved", "LJokePump$State;", true)
  | 2 => ("JokePump", "isSaved", "Z", false)
  | 3 => ("JokePump", "history", "LJokePump$History;", true)
  | 4 => ("JokePump", "input", "LJokePump$Strip;", true)
  | 5 => ("JokePump", "line", "LJokePump$Strip;", true)
  | 6 => ("JokePump", "reader", "LJokePump$Reader;", true)
  | 7 => ("JokePump", "faultPosition", "I", false)
  | 8 => ("JokePump", "reasonKind", "I", false)
  | 9 => ("JokePump", "reasonDetail", "I", false)
  | 10 => ("JokePump", "behindKind", "I", false)
  | _ => ("JokePump", "behindDetail", "I", false)
def tyX7 : Nat → FieldType := fun k => match k with
  | 0 => .object "JokePump$State"
  | 1 => .object "JokePump$State"
  | 2 => .boolean
  | 3 => .object "JokePump$History"
  | 4 => .object "JokePump$Strip"
  | 5 => .object "JokePump$Strip"
  | 6 => .object "JokePump$Reader"
  | 7 => .int
  | 8 => .int
  | 9 => .int
  | 10 => .int
  | _ => .int
abbrev wsX70 : List Cond := u_ws RX7 TX7 12
theorem nmX7 : ∀ a, a < 12 → ∀ b, b < 12 → a ≠ b → (TX7 a).2.1 ≠ (TX7 b).2.1 := by decide +kernel
theorem tyX7_ok : ∀ k, k < 12 → parseFieldDescriptor (TX7 k).2.2.1 = some (tyX7 k) := by decide +kernel
abbrev cX7_init : ByteArray := prog_1_method_1_code
def yX7_init : MethodName := ⟨RX7, "<init>", "()V"⟩
abbrev cX7_joke : ByteArray := prog_1_method_2_code
def yX7_joke : MethodName := ⟨RX7, "joke", "(IIII)I"⟩
abbrev cX7_prime : ByteArray := prog_1_method_3_code
def yX7_prime : MethodName := ⟨RX7, "prime", "(I)I"⟩
abbrev cX7_drop : ByteArray := prog_1_method_4_code
def yX7_drop : MethodName := ⟨RX7, "drop", "(I)I"⟩
abbrev cX7_drain : ByteArray := prog_1_method_5_code
def yX7_drain : MethodName := ⟨RX7, "drain", "(I)I"⟩
abbrev cX7_stroke : ByteArray := prog_1_method_6_code
def yX7_stroke : MethodName := ⟨RX7, "stroke", "(I)I"⟩
abbrev cX7_bucket : ByteArray := prog_1_method_7_code
def yX7_bucket : MethodName := ⟨RX7, "bucket", "(II)I"⟩
abbrev cX7_go : ByteArray := prog_1_method_8_code
def yX7_go : MethodName := ⟨RX7, "go", "(I)I"⟩
abbrev cX7_pump : ByteArray := prog_1_method_9_code
def yX7_pump : MethodName := ⟨RX7, "pump", "(I)I"⟩
abbrev cX7_read : ByteArray := prog_1_method_10_code
def yX7_read : MethodName := ⟨RX7, "read", "()I"⟩
abbrev cX7_undo : ByteArray := prog_1_method_11_code
def yX7_undo : MethodName := ⟨RX7, "undo", "()I"⟩
abbrev cX7_save : ByteArray := prog_1_method_12_code
def yX7_save : MethodName := ⟨RX7, "save", "()I"⟩
abbrev cX7_restore : ByteArray := prog_1_method_13_code
def yX7_restore : MethodName := ⟨RX7, "restore", "()I"⟩
abbrev cX7_jokeOf : ByteArray := prog_1_method_14_code
def yX7_jokeOf : MethodName := ⟨RX7, "jokeOf", "(II)I"⟩
abbrev cX7_wellOf : ByteArray := prog_1_method_15_code
def yX7_wellOf : MethodName := ⟨RX7, "wellOf", "(II)I"⟩
abbrev cX7_isKnown : ByteArray := prog_1_method_16_code
def yX7_isKnown : MethodName := ⟨RX7, "isKnown", "(I)I"⟩
abbrev cX7_inWell : ByteArray := prog_1_method_17_code
def yX7_inWell : MethodName := ⟨RX7, "inWell", "(II)I"⟩
abbrev cX7_funniest : ByteArray := prog_1_method_18_code
def yX7_funniest : MethodName := ⟨RX7, "funniest", "(I)I"⟩
abbrev cX7_fullest : ByteArray := prog_1_method_19_code
def yX7_fullest : MethodName := ⟨RX7, "fullest", "(I)I"⟩
abbrev cX7_laughBits : ByteArray := prog_1_method_21_code
def yX7_laughBits : MethodName := ⟨RX7, "laughBits", "(II)I"⟩
abbrev cX7_laughs : ByteArray := prog_1_method_22_code
def yX7_laughs : MethodName := ⟨RX7, "laughs", "()F"⟩
abbrev cX7_wholeLaughs : ByteArray := prog_1_method_24_code
def yX7_wholeLaughs : MethodName := ⟨RX7, "wholeLaughs", "()I"⟩
abbrev cX7_liftedOf : ByteArray := prog_1_method_25_code
def yX7_liftedOf : MethodName := ⟨RX7, "liftedOf", "(II)I"⟩
abbrev cX7_strokes : ByteArray := prog_1_method_27_code
def yX7_strokes : MethodName := ⟨RX7, "strokes", "(I)I"⟩
abbrev cX7_strokesAgain : ByteArray := prog_1_method_28_code
def yX7_strokesAgain : MethodName := ⟨RX7, "strokesAgain", "(I)I"⟩
abbrev cX7_would : ByteArray := prog_1_method_29_code
def yX7_would : MethodName := ⟨RX7, "would", "(I)I"⟩
abbrev cX7_groansIn : ByteArray := prog_1_method_30_code
def yX7_groansIn : MethodName := ⟨RX7, "groansIn", "(I)I"⟩
abbrev cX7_bestStroke : ByteArray := prog_1_method_31_code
def yX7_bestStroke : MethodName := ⟨RX7, "bestStroke", "()I"⟩
abbrev cX7_isCounted : ByteArray := prog_1_method_32_code
def yX7_isCounted : MethodName := ⟨RX7, "isCounted", "()Z"⟩
abbrev cX7_account : ByteArray := prog_1_method_33_code
def yX7_account : MethodName := ⟨RX7, "account", "(I)I"⟩
abbrev cX7_append : ByteArray := prog_1_method_37_code
def yX7_append : MethodName := ⟨RX7, "append", "(C)I"⟩
abbrev cX7_reason : ByteArray := prog_1_method_39_code
def yX7_reason : MethodName := ⟨RX7, "reason", "(IZ)I"⟩
abbrev cX7_letCome : ByteArray := prog_1_method_40_code
def yX7_letCome : MethodName := ⟨RX7, "letCome", "(IIII)I"⟩
abbrev cX7_makePrimed : ByteArray := prog_1_method_41_code
def yX7_makePrimed : MethodName := ⟨RX7, "makePrimed", "(I)I"⟩
abbrev cX7_letGo : ByteArray := prog_1_method_42_code
def yX7_letGo : MethodName := ⟨RX7, "letGo", "(I)I"⟩
abbrev cX7_drainGroans : ByteArray := prog_1_method_43_code
def yX7_drainGroans : MethodName := ⟨RX7, "drainGroans", "(I)I"⟩
abbrev cX7_setStroke : ByteArray := prog_1_method_44_code
def yX7_setStroke : MethodName := ⟨RX7, "setStroke", "(I)I"⟩
abbrev cX7_setBucket : ByteArray := prog_1_method_45_code
def yX7_setBucket : MethodName := ⟨RX7, "setBucket", "(II)I"⟩
abbrev cX7_moveTo : ByteArray := prog_1_method_46_code
def yX7_moveTo : MethodName := ⟨RX7, "moveTo", "(I)I"⟩
abbrev cX7_makeStrokes : ByteArray := prog_1_method_47_code
def yX7_makeStrokes : MethodName := ⟨RX7, "makeStrokes", "(I)I"⟩
abbrev cX7_keepChange : ByteArray := prog_1_method_48_code
def yX7_keepChange : MethodName := ⟨RX7, "keepChange", "(I)I"⟩
abbrev cX7_refuse : ByteArray := prog_1_method_49_code
def yX7_refuse : MethodName := ⟨RX7, "refuse", "(II)I"⟩
abbrev cX7_doCommands : ByteArray := prog_1_method_50_code
def yX7_doCommands : MethodName := ⟨RX7, "doCommands", "()I"⟩
abbrev cX7_doCommand : ByteArray := prog_1_method_51_code
def yX7_doCommand : MethodName := ⟨RX7, "doCommand", "(I)I"⟩
abbrev cX7_refuseCommand : ByteArray := prog_1_method_52_code
def yX7_refuseCommand : MethodName := ⟨RX7, "refuseCommand", "(IZ)I"⟩
abbrev cX7_leastDepth : ByteArray := prog_1_method_53_code
def yX7_leastDepth : MethodName := ⟨RX7, "leastDepth", "(I)I"⟩
abbrev cX7_countFunnier : ByteArray := prog_1_method_54_code
def yX7_countFunnier : MethodName := ⟨RX7, "countFunnier", "(I)I"⟩
abbrev cX7_isFunnier : ByteArray := prog_1_method_55_code
def yX7_isFunnier : MethodName := ⟨RX7, "isFunnier", "(II)Z"⟩
abbrev cX7_countFuller : ByteArray := prog_1_method_56_code
def yX7_countFuller : MethodName := ⟨RX7, "countFuller", "(I)I"⟩
abbrev cX7_isFuller : ByteArray := prog_1_method_57_code
def yX7_isFuller : MethodName := ⟨RX7, "isFuller", "(II)Z"⟩
abbrev cX7_groansToReach : ByteArray := prog_1_method_58_code
def yX7_groansToReach : MethodName := ⟨RX7, "groansToReach", "(II)I"⟩
abbrev cX7_areLaughsAlike : ByteArray := prog_1_method_59_code
def yX7_areLaughsAlike : MethodName := ⟨RX7, "areLaughsAlike", "()Z"⟩
abbrev cX7_areStrokesAlike : ByteArray := prog_1_method_60_code
def yX7_areStrokesAlike : MethodName := ⟨RX7, "areStrokesAlike", "()Z"⟩
abbrev cX7_areSignsUnknown : ByteArray := prog_1_method_61_code
def yX7_areSignsUnknown : MethodName := ⟨RX7, "areSignsUnknown", "()Z"⟩
abbrev cX7_isWell : ByteArray := prog_1_method_63_code
def yX7_isWell : MethodName := ⟨RX7, "isWell", "(I)Z"⟩
abbrev cX7_isWithin : ByteArray := prog_1_method_64_code
def yX7_isWithin : MethodName := ⟨RX7, "isWithin", "(III)Z"⟩
abbrev cX7_bitsOf : ByteArray := prog_1_method_65_code
def yX7_bitsOf : MethodName := ⟨RX7, "bitsOf", "(F)I"⟩
def RJxf58ca : String := "java/lang/Float"
def TJxf58ca : u_T := fun k => match k with
  | _ => ("", "", "", false)
def tyJxf58ca : Nat → FieldType := fun k => match k with
  | _ => .int
theorem nmJxf58ca : ∀ a, a < 0 → ∀ b, b < 0 → a ≠ b → (TJxf58ca a).2.1 ≠ (TJxf58ca b).2.1 := by decide +kernel
theorem tyJxf58ca_ok : ∀ k, k < 0 → parseFieldDescriptor (TJxf58ca k).2.2.1 = some (tyJxf58ca k) := by decide +kernel
abbrev cJxf58ca_isNaN_12338 : ByteArray := prog_11_method_6_code
def yJxf58ca_isNaN_12338 : MethodName := ⟨RJxf58ca, "isNaN", "(F)Z"⟩
abbrev cJxf58ca_floatToIntBits_5c35a : ByteArray := prog_11_method_24_code
def yJxf58ca_floatToIntBits_5c35a : MethodName := ⟨RJxf58ca, "floatToIntBits", "(F)I"⟩
def RJ9 : String := "java/lang/Math"
def TJ9 : u_T := fun k => match k with
  | _ => ("", "", "", false)
def tyJ9 : Nat → FieldType := fun k => match k with
  | _ => .int
theorem nmJ9 : ∀ a, a < 0 → ∀ b, b < 0 → a ≠ b → (TJ9 a).2.1 ≠ (TJ9 b).2.1 := by decide +kernel
theorem tyJ9_ok : ∀ k, k < 0 → parseFieldDescriptor (TJ9 k).2.2.1 = some (tyJ9 k) := by decide +kernel
abbrev cJ9_max_7cf53 : ByteArray := prog_12_method_65_code
def yJ9_max_7cf53 : MethodName := ⟨RJ9, "max", "(II)I"⟩
abbrev cJ9_min_7cf53 : ByteArray := prog_12_method_69_code
def yJ9_min_7cf53 : MethodName := ⟨RJ9, "min", "(II)I"⟩
def RJ0 : String := "java/lang/String"
def TJ0 : u_T := fun k => match k with
  | _ => ("", "", "", false)
def tyJ0 : Nat → FieldType := fun k => match k with
  | _ => .int
theorem nmJ0 : ∀ a, a < 0 → ∀ b, b < 0 → a ≠ b → (TJ0 a).2.1 ≠ (TJ0 b).2.1 := by decide +kernel
theorem tyJ0_ok : ∀ k, k < 0 → parseFieldDescriptor (TJ0 k).2.2.1 = some (tyJ0 k) := by decide +kernel
abbrev cJ0_length_8abf5 : ByteArray := prog_13_method_54_code
def yJ0_length_8abf5 : MethodName := ⟨RJ0, "length", "()I"⟩
abbrev cJ0_charAt_5068e : ByteArray := prog_13_method_56_code
def yJ0_charAt_5068e : MethodName := ⟨RJ0, "charAt", "(I)C"⟩
abbrev cJ0_coder_7d493 : ByteArray := prog_13_method_152_code
def yJ0_coder_7d493 : MethodName := ⟨RJ0, "coder", "()B"⟩
abbrev cJ0_isLatin1_aae02 : ByteArray := prog_13_method_154_code
def yJ0_isLatin1_aae02 : MethodName := ⟨RJ0, "isLatin1", "()Z"⟩
abbrev cJ0_checkIndex_df160 : ByteArray := prog_13_method_155_code
def yJ0_checkIndex_df160 : MethodName := ⟨RJ0, "checkIndex", "(II)V"⟩
def RJ1 : String := "java/lang/StringLatin1"
def TJ1 : u_T := fun k => match k with
  | _ => ("", "", "", false)
def tyJ1 : Nat → FieldType := fun k => match k with
  | _ => .int
theorem nmJ1 : ∀ a, a < 0 → ∀ b, b < 0 → a ≠ b → (TJ1 a).2.1 ≠ (TJ1 b).2.1 := by decide +kernel
theorem tyJ1_ok : ∀ k, k < 0 → parseFieldDescriptor (TJ1 k).2.2.1 = some (tyJ1 k) := by decide +kernel
abbrev cJ1_charAt_3b067 : ByteArray := prog_14_method_2_code
def yJ1_charAt_3b067 : MethodName := ⟨RJ1, "charAt", "([BI)C"⟩
def RJ2 : String := "java/lang/StringUTF16"
def TJ2 : u_T := fun k => match k with
  | _ => ("", "", "", false)
def tyJ2 : Nat → FieldType := fun k => match k with
  | _ => .int
theorem nmJ2 : ∀ a, a < 0 → ∀ b, b < 0 → a ≠ b → (TJ2 a).2.1 ≠ (TJ2 b).2.1 := by decide +kernel
theorem tyJ2_ok : ∀ k, k < 0 → parseFieldDescriptor (TJ2 k).2.2.1 = some (tyJ2 k) := by decide +kernel
abbrev cJ2_getChar_3b067 : ByteArray := prog_15_method_5_code
def yJ2_getChar_3b067 : MethodName := ⟨RJ2, "getChar", "([BI)C"⟩
abbrev cJ2_length_9d52b : ByteArray := prog_15_method_6_code
def yJ2_length_9d52b : MethodName := ⟨RJ2, "length", "([B)I"⟩
abbrev cJ2_charAt_3b067 : ByteArray := prog_15_method_83_code
def yJ2_charAt_3b067 : MethodName := ⟨RJ2, "charAt", "([BI)C"⟩
abbrev cJ2_checkIndex_2214a : ByteArray := prog_15_method_91_code
def yJ2_checkIndex_2214a : MethodName := ⟨RJ2, "checkIndex", "(I[B)V"⟩
def RJ10 : String := "java/lang/System"
def TJ10 : u_T := fun k => match k with
  | _ => ("", "", "", false)
def tyJ10 : Nat → FieldType := fun k => match k with
  | _ => .int
theorem nmJ10 : ∀ a, a < 0 → ∀ b, b < 0 → a ≠ b → (TJ10 a).2.1 ≠ (TJ10 b).2.1 := by decide +kernel
theorem tyJ10_ok : ∀ k, k < 0 → parseFieldDescriptor (TJ10 k).2.2.1 = some (tyJ10 k) := by decide +kernel
def RJ3 : String := "jdk/internal/util/Preconditions"
def TJ3 : u_T := fun k => match k with
  | _ => ("", "", "", false)
def tyJ3 : Nat → FieldType := fun k => match k with
  | _ => .int
theorem nmJ3 : ∀ a, a < 0 → ∀ b, b < 0 → a ≠ b → (TJ3 a).2.1 ≠ (TJ3 b).2.1 := by decide +kernel
theorem tyJ3_ok : ∀ k, k < 0 → parseFieldDescriptor (TJ3 k).2.2.1 = some (tyJ3 k) := by decide +kernel
abbrev cJ3_checkIndex_8e157 : ByteArray := prog_17_method_11_code
def yJ3_checkIndex_8e157 : MethodName := ⟨RJ3, "checkIndex", "(IILjava/util/function/BiFunction;)I"⟩
def RL : String := "JokePumpLaw"
abbrev cL_cell : ByteArray := method_2_code
def yL_cell : MethodName := ⟨RL, "cell", "([II)I"⟩
abbrev cL_chosen : ByteArray := method_3_code
def yL_chosen : MethodName := ⟨RL, "chosen", "(II)I"⟩
abbrev cL_done : ByteArray := method_4_code
def yL_done : MethodName := ⟨RL, "done", "(LJokePump;Ljava/lang/String;)I"⟩
abbrev cL_mark : ByteArray := method_5_code
def yL_mark : MethodName := ⟨RL, "mark", "(LJokePump;)J"⟩
abbrev cL_acts : ByteArray := method_6_code
def yL_acts : MethodName := ⟨RL, "acts", "(LJokePump;I)I"⟩
abbrev cL_pumps : ByteArray := method_7_code
def yL_pumps : MethodName := ⟨RL, "pumps", "(LJokePump;I)Z"⟩
abbrev cL_strokes : ByteArray := method_8_code
def yL_strokes : MethodName := ⟨RL, "strokes", "(LJokePump;)Z"⟩
abbrev cL_groansBy : ByteArray := method_9_code
def yL_groansBy : MethodName := ⟨RL, "groansBy", "(LJokePump;II)I"⟩
abbrev cL_fits : ByteArray := method_10_code
def yL_fits : MethodName := ⟨RL, "fits", "(LJokePump;I)Z"⟩
abbrev cL_law : ByteArray := code
def yL_law : MethodName := ⟨RL, "law", "([I)Z"⟩
abbrev vwCl : List vw_C := [(RX0, TX0, 3), (RX1, TX1, 6), (RX2, TX2, 4), (RX3, TX3, 1), (RX4, TX4, 12), (RX5, TX5, 2), (RX6, TX6, 6), (RX7, TX7, 12)]
