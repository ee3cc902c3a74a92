/-! the law's start and its loop -/
def nwL : List Cond := flatC (Cond.and given_1 narrow_1)
def sxTm (i : Nat) : Term := if i < 8 then Term.string RX2 (81 + 2 * i) else Term.string RL (185 + 2 * (i - 8))
section START0
variable {s : State} {args : Array Value}
theorem sx_ex (hn : ∀ w ∈ nwL, w.before args s = true) : ∀ i : Nat, i < 16 → (Cond.exactly (sxTm i) "java/lang/String").before args s = true := by
  intro i hi
  rcases (show i = 0 ∨ i = 1 ∨ i = 2 ∨ i = 3 ∨ i = 4 ∨ i = 5 ∨ i = 6 ∨ i = 7 ∨ i = 8 ∨ i = 9 ∨ i = 10 ∨ i = 11 ∨ i = 12 ∨ i = 13 ∨ i = 14 ∨ i = 15 by omega) with rfl | rfl | rfl | rfl | rfl | rfl | rfl | rfl | rfl | rfl | rfl | rfl | rfl | rfl | rfl | rfl
  · exact hn _ (List.mem_of_getElem? (i := 20) (by decide +kernel))
  · exact hn _ (List.mem_of_getElem? (i := 36) (by decide +kernel))
  · exact hn _ (List.mem_of_getElem? (i := 48) (by decide +kernel))
  · exact hn _ (List.mem_of_getElem? (i := 60) (by decide +kernel))
  · exact hn _ (List.mem_of_getElem? (i := 74) (by decide +kernel))
  · exact hn _ (List.mem_of_getElem? (i := 90) (by decide +kernel))
  · exact hn _ (List.mem_of_getElem? (i := 109) (by decide +kernel))
  · exact hn _ (List.mem_of_getElem? (i := 123) (by decide +kernel))
  · exact hn _ (List.mem_of_getElem? (i := 140) (by decide +kernel))
  · exact hn _ (List.mem_of_getElem? (i := 158) (by decide +kernel))
  · exact hn _ (List.mem_of_getElem? (i := 192) (by decide +kernel))
  · exact hn _ (List.mem_of_getElem? (i := 217) (by decide +kernel))
  · exact hn _ (List.mem_of_getElem? (i := 247) (by decide +kernel))
  · exact hn _ (List.mem_of_getElem? (i := 271) (by decide +kernel))
  · exact hn _ (List.mem_of_getElem? (i := 303) (by decide +kernel))
  · exact hn _ (List.mem_of_getElem? (i := 346) (by decide +kernel))
theorem sx_co (hn : ∀ w ∈ nwL, w.before args s = true) : ∀ i : Nat, i < 16 → (Cond.eq (.field (sxTm i) "java/lang/String" "coder" "B") (.int 0)).before args s = true := by
  intro i hi
  rcases (show i = 0 ∨ i = 1 ∨ i = 2 ∨ i = 3 ∨ i = 4 ∨ i = 5 ∨ i = 6 ∨ i = 7 ∨ i = 8 ∨ i = 9 ∨ i = 10 ∨ i = 11 ∨ i = 12 ∨ i = 13 ∨ i = 14 ∨ i = 15 by omega) with rfl | rfl | rfl | rfl | rfl | rfl | rfl | rfl | rfl | rfl | rfl | rfl | rfl | rfl | rfl | rfl
  · exact hn _ (List.mem_of_getElem? (i := 21) (by decide +kernel))
  · exact hn _ (List.mem_of_getElem? (i := 37) (by decide +kernel))
  · exact hn _ (List.mem_of_getElem? (i := 49) (by decide +kernel))
  · exact hn _ (List.mem_of_getElem? (i := 61) (by decide +kernel))
  · exact hn _ (List.mem_of_getElem? (i := 75) (by decide +kernel))
  · exact hn _ (List.mem_of_getElem? (i := 91) (by decide +kernel))
  · exact hn _ (List.mem_of_getElem? (i := 110) (by decide +kernel))
  · exact hn _ (List.mem_of_getElem? (i := 124) (by decide +kernel))
  · exact hn _ (List.mem_of_getElem? (i := 141) (by decide +kernel))
  · exact hn _ (List.mem_of_getElem? (i := 159) (by decide +kernel))
  · exact hn _ (List.mem_of_getElem? (i := 193) (by decide +kernel))
  · exact hn _ (List.mem_of_getElem? (i := 218) (by decide +kernel))
  · exact hn _ (List.mem_of_getElem? (i := 248) (by decide +kernel))
  · exact hn _ (List.mem_of_getElem? (i := 272) (by decide +kernel))
  · exact hn _ (List.mem_of_getElem? (i := 304) (by decide +kernel))
  · exact hn _ (List.mem_of_getElem? (i := 347) (by decide +kernel))
theorem sx_ar (hn : ∀ w ∈ nwL, w.before args s = true) : ∀ i : Nat, i < 16 → (Cond.arrayOf (.field (sxTm i) "java/lang/String" "value" "[B") .byte).before args s = true := by
  intro i hi
  rcases (show i = 0 ∨ i = 1 ∨ i = 2 ∨ i = 3 ∨ i = 4 ∨ i = 5 ∨ i = 6 ∨ i = 7 ∨ i = 8 ∨ i = 9 ∨ i = 10 ∨ i = 11 ∨ i = 12 ∨ i = 13 ∨ i = 14 ∨ i = 15 by omega) with rfl | rfl | rfl | rfl | rfl | rfl | rfl | rfl | rfl | rfl | rfl | rfl | rfl | rfl | rfl | rfl
  · exact hn _ (List.mem_of_getElem? (i := 22) (by decide +kernel))
  · exact hn _ (List.mem_of_getElem? (i := 38) (by decide +kernel))
  · exact hn _ (List.mem_of_getElem? (i := 50) (by decide +kernel))
  · exact hn _ (List.mem_of_getElem? (i := 62) (by decide +kernel))
  · exact hn _ (List.mem_of_getElem? (i := 76) (by decide +kernel))
  · exact hn _ (List.mem_of_getElem? (i := 92) (by decide +kernel))
  · exact hn _ (List.mem_of_getElem? (i := 111) (by decide +kernel))
  · exact hn _ (List.mem_of_getElem? (i := 125) (by decide +kernel))
  · exact hn _ (List.mem_of_getElem? (i := 142) (by decide +kernel))
  · exact hn _ (List.mem_of_getElem? (i := 160) (by decide +kernel))
  · exact hn _ (List.mem_of_getElem? (i := 194) (by decide +kernel))
  · exact hn _ (List.mem_of_getElem? (i := 219) (by decide +kernel))
  · exact hn _ (List.mem_of_getElem? (i := 249) (by decide +kernel))
  · exact hn _ (List.mem_of_getElem? (i := 273) (by decide +kernel))
  · exact hn _ (List.mem_of_getElem? (i := 305) (by decide +kernel))
  · exact hn _ (List.mem_of_getElem? (i := 348) (by decide +kernel))
theorem sx_lg (hn : ∀ w ∈ nwL, w.before args s = true) : ∀ i : Nat, i < 16 → (Cond.eq (.length (.field (sxTm i) "java/lang/String" "value" "[B")) (.int (Int32.ofNat (sxLen.getD i 0)))).before args s = true := by
  intro i hi
  rcases (show i = 0 ∨ i = 1 ∨ i = 2 ∨ i = 3 ∨ i = 4 ∨ i = 5 ∨ i = 6 ∨ i = 7 ∨ i = 8 ∨ i = 9 ∨ i = 10 ∨ i = 11 ∨ i = 12 ∨ i = 13 ∨ i = 14 ∨ i = 15 by omega) with rfl | rfl | rfl | rfl | rfl | rfl | rfl | rfl | rfl | rfl | rfl | rfl | rfl | rfl | rfl | rfl
  · exact hn _ (List.mem_of_getElem? (i := 23) (by decide +kernel))
  · exact hn _ (List.mem_of_getElem? (i := 39) (by decide +kernel))
  · exact hn _ (List.mem_of_getElem? (i := 51) (by decide +kernel))
  · exact hn _ (List.mem_of_getElem? (i := 63) (by decide +kernel))
  · exact hn _ (List.mem_of_getElem? (i := 77) (by decide +kernel))
  · exact hn _ (List.mem_of_getElem? (i := 93) (by decide +kernel))
  · exact hn _ (List.mem_of_getElem? (i := 112) (by decide +kernel))
  · exact hn _ (List.mem_of_getElem? (i := 126) (by decide +kernel))
  · exact hn _ (List.mem_of_getElem? (i := 143) (by decide +kernel))
  · exact hn _ (List.mem_of_getElem? (i := 161) (by decide +kernel))
  · exact hn _ (List.mem_of_getElem? (i := 195) (by decide +kernel))
  · exact hn _ (List.mem_of_getElem? (i := 220) (by decide +kernel))
  · exact hn _ (List.mem_of_getElem? (i := 250) (by decide +kernel))
  · exact hn _ (List.mem_of_getElem? (i := 274) (by decide +kernel))
  · exact hn _ (List.mem_of_getElem? (i := 306) (by decide +kernel))
  · exact hn _ (List.mem_of_getElem? (i := 349) (by decide +kernel))
theorem sx_el (hn : ∀ w ∈ nwL, w.before args s = true) : ∀ i : Nat, i < 16 → ∀ j : Nat, j < sxLen.getD i 0 → (Cond.eq (.elem (.field (sxTm i) "java/lang/String" "value" "[B") (.int (Int32.ofNat j))) (.int ((sxByt.getD i []).getD j 0))).before args s = true := by
  intro i hi j hj
  rcases (show i = 0 ∨ i = 1 ∨ i = 2 ∨ i = 3 ∨ i = 4 ∨ i = 5 ∨ i = 6 ∨ i = 7 ∨ i = 8 ∨ i = 9 ∨ i = 10 ∨ i = 11 ∨ i = 12 ∨ i = 13 ∨ i = 14 ∨ i = 15 by omega) with rfl | rfl | rfl | rfl | rfl | rfl | rfl | rfl | rfl | rfl | rfl | rfl | rfl | rfl | rfl | rfl
  · have hj : j < 12 := hj
    rcases (show j = 0 ∨ j = 1 ∨ j = 2 ∨ j = 3 ∨ j = 4 ∨ j = 5 ∨ j = 6 ∨ j = 7 ∨ j = 8 ∨ j = 9 ∨ j = 10 ∨ j = 11 by omega) with rfl | rfl | rfl | rfl | rfl | rfl | rfl | rfl | rfl | rfl | rfl | rfl
    · exact hn _ (List.mem_of_getElem? (i := 24) (by decide +kernel))
    · exact hn _ (List.mem_of_getElem? (i := 25) (by decide +kernel))
    · exact hn _ (List.mem_of_getElem? (i := 26) (by decide +kernel))
    · exact hn _ (List.mem_of_getElem? (i := 27) (by decide +kernel))
    · exact hn _ (List.mem_of_getElem? (i := 28) (by decide +kernel))
    · exact hn _ (List.mem_of_getElem? (i := 29) (by decide +kernel))
    · exact hn _ (List.mem_of_getElem? (i := 30) (by decide +kernel))
    · exact hn _ (List.mem_of_getElem? (i := 31) (by decide +kernel))
    · exact hn _ (List.mem_of_getElem? (i := 32) (by decide +kernel))
    · exact hn _ (List.mem_of_getElem? (i := 33) (by decide +kernel))
    · exact hn _ (List.mem_of_getElem? (i := 34) (by decide +kernel))
    · exact hn _ (List.mem_of_getElem? (i := 35) (by decide +kernel))
  · have hj : j < 7 := hj
    rcases (show j = 0 ∨ j = 1 ∨ j = 2 ∨ j = 3 ∨ j = 4 ∨ j = 5 ∨ j = 6 by omega) with rfl | rfl | rfl | rfl | rfl | rfl | rfl
    · exact hn _ (List.mem_of_getElem? (i := 40) (by decide +kernel))
    · exact hn _ (List.mem_of_getElem? (i := 41) (by decide +kernel))
    · exact hn _ (List.mem_of_getElem? (i := 42) (by decide +kernel))
    · exact hn _ (List.mem_of_getElem? (i := 43) (by decide +kernel))
    · exact hn _ (List.mem_of_getElem? (i := 44) (by decide +kernel))
    · exact hn _ (List.mem_of_getElem? (i := 45) (by decide +kernel))
    · exact hn _ (List.mem_of_getElem? (i := 46) (by decide +kernel))
  · have hj : j < 6 := hj
    rcases (show j = 0 ∨ j = 1 ∨ j = 2 ∨ j = 3 ∨ j = 4 ∨ j = 5 by omega) with rfl | rfl | rfl | rfl | rfl | rfl
    · exact hn _ (List.mem_of_getElem? (i := 52) (by decide +kernel))
    · exact hn _ (List.mem_of_getElem? (i := 53) (by decide +kernel))
    · exact hn _ (List.mem_of_getElem? (i := 54) (by decide +kernel))
    · exact hn _ (List.mem_of_getElem? (i := 55) (by decide +kernel))
    · exact hn _ (List.mem_of_getElem? (i := 56) (by decide +kernel))
    · exact hn _ (List.mem_of_getElem? (i := 57) (by decide +kernel))
  · have hj : j < 7 := hj
    rcases (show j = 0 ∨ j = 1 ∨ j = 2 ∨ j = 3 ∨ j = 4 ∨ j = 5 ∨ j = 6 by omega) with rfl | rfl | rfl | rfl | rfl | rfl | rfl
    · exact hn _ (List.mem_of_getElem? (i := 64) (by decide +kernel))
    · exact hn _ (List.mem_of_getElem? (i := 65) (by decide +kernel))
    · exact hn _ (List.mem_of_getElem? (i := 66) (by decide +kernel))
    · exact hn _ (List.mem_of_getElem? (i := 67) (by decide +kernel))
    · exact hn _ (List.mem_of_getElem? (i := 68) (by decide +kernel))
    · exact hn _ (List.mem_of_getElem? (i := 69) (by decide +kernel))
    · exact hn _ (List.mem_of_getElem? (i := 70) (by decide +kernel))
  · have hj : j < 8 := hj
    rcases (show j = 0 ∨ j = 1 ∨ j = 2 ∨ j = 3 ∨ j = 4 ∨ j = 5 ∨ j = 6 ∨ j = 7 by omega) with rfl | rfl | rfl | rfl | rfl | rfl | rfl | rfl
    · exact hn _ (List.mem_of_getElem? (i := 78) (by decide +kernel))
    · exact hn _ (List.mem_of_getElem? (i := 79) (by decide +kernel))
    · exact hn _ (List.mem_of_getElem? (i := 80) (by decide +kernel))
    · exact hn _ (List.mem_of_getElem? (i := 81) (by decide +kernel))
    · exact hn _ (List.mem_of_getElem? (i := 82) (by decide +kernel))
    · exact hn _ (List.mem_of_getElem? (i := 83) (by decide +kernel))
    · exact hn _ (List.mem_of_getElem? (i := 84) (by decide +kernel))
    · exact hn _ (List.mem_of_getElem? (i := 85) (by decide +kernel))
  · have hj : j < 10 := hj
    rcases (show j = 0 ∨ j = 1 ∨ j = 2 ∨ j = 3 ∨ j = 4 ∨ j = 5 ∨ j = 6 ∨ j = 7 ∨ j = 8 ∨ j = 9 by omega) with rfl | rfl | rfl | rfl | rfl | rfl | rfl | rfl | rfl | rfl
    · exact hn _ (List.mem_of_getElem? (i := 94) (by decide +kernel))
    · exact hn _ (List.mem_of_getElem? (i := 95) (by decide +kernel))
    · exact hn _ (List.mem_of_getElem? (i := 96) (by decide +kernel))
    · exact hn _ (List.mem_of_getElem? (i := 97) (by decide +kernel))
    · exact hn _ (List.mem_of_getElem? (i := 98) (by decide +kernel))
    · exact hn _ (List.mem_of_getElem? (i := 99) (by decide +kernel))
    · exact hn _ (List.mem_of_getElem? (i := 100) (by decide +kernel))
    · exact hn _ (List.mem_of_getElem? (i := 101) (by decide +kernel))
    · exact hn _ (List.mem_of_getElem? (i := 102) (by decide +kernel))
    · exact hn _ (List.mem_of_getElem? (i := 103) (by decide +kernel))
  · have hj : j < 4 := hj
    rcases (show j = 0 ∨ j = 1 ∨ j = 2 ∨ j = 3 by omega) with rfl | rfl | rfl | rfl
    · exact hn _ (List.mem_of_getElem? (i := 113) (by decide +kernel))
    · exact hn _ (List.mem_of_getElem? (i := 114) (by decide +kernel))
    · exact hn _ (List.mem_of_getElem? (i := 115) (by decide +kernel))
    · exact hn _ (List.mem_of_getElem? (i := 116) (by decide +kernel))
  · have hj : j < 6 := hj
    rcases (show j = 0 ∨ j = 1 ∨ j = 2 ∨ j = 3 ∨ j = 4 ∨ j = 5 by omega) with rfl | rfl | rfl | rfl | rfl | rfl
    · exact hn _ (List.mem_of_getElem? (i := 127) (by decide +kernel))
    · exact hn _ (List.mem_of_getElem? (i := 128) (by decide +kernel))
    · exact hn _ (List.mem_of_getElem? (i := 129) (by decide +kernel))
    · exact hn _ (List.mem_of_getElem? (i := 130) (by decide +kernel))
    · exact hn _ (List.mem_of_getElem? (i := 131) (by decide +kernel))
    · exact hn _ (List.mem_of_getElem? (i := 132) (by decide +kernel))
  · have hj : j < 6 := hj
    rcases (show j = 0 ∨ j = 1 ∨ j = 2 ∨ j = 3 ∨ j = 4 ∨ j = 5 by omega) with rfl | rfl | rfl | rfl | rfl | rfl
    · exact hn _ (List.mem_of_getElem? (i := 144) (by decide +kernel))
    · exact hn _ (List.mem_of_getElem? (i := 145) (by decide +kernel))
    · exact hn _ (List.mem_of_getElem? (i := 146) (by decide +kernel))
    · exact hn _ (List.mem_of_getElem? (i := 147) (by decide +kernel))
    · exact hn _ (List.mem_of_getElem? (i := 148) (by decide +kernel))
    · exact hn _ (List.mem_of_getElem? (i := 149) (by decide +kernel))
  · have hj : j < 21 := hj
    rcases (show j = 0 ∨ j = 1 ∨ j = 2 ∨ j = 3 ∨ j = 4 ∨ j = 5 ∨ j = 6 ∨ j = 7 ∨ j = 8 ∨ j = 9 ∨ j = 10 ∨ j = 11 ∨ j = 12 ∨ j = 13 ∨ j = 14 ∨ j = 15 ∨ j = 16 ∨ j = 17 ∨ j = 18 ∨ j = 19 ∨ j = 20 by omega) with rfl | rfl | rfl | rfl | rfl | rfl | rfl | rfl | rfl | rfl | rfl | rfl | rfl | rfl | rfl | rfl | rfl | rfl | rfl | rfl | rfl
    · exact hn _ (List.mem_of_getElem? (i := 162) (by decide +kernel))
    · exact hn _ (List.mem_of_getElem? (i := 163) (by decide +kernel))
    · exact hn _ (List.mem_of_getElem? (i := 164) (by decide +kernel))
    · exact hn _ (List.mem_of_getElem? (i := 165) (by decide +kernel))
    · exact hn _ (List.mem_of_getElem? (i := 166) (by decide +kernel))
    · exact hn _ (List.mem_of_getElem? (i := 167) (by decide +kernel))
    · exact hn _ (List.mem_of_getElem? (i := 168) (by decide +kernel))
    · exact hn _ (List.mem_of_getElem? (i := 169) (by decide +kernel))
    · exact hn _ (List.mem_of_getElem? (i := 170) (by decide +kernel))
    · exact hn _ (List.mem_of_getElem? (i := 171) (by decide +kernel))
    · exact hn _ (List.mem_of_getElem? (i := 172) (by decide +kernel))
    · exact hn _ (List.mem_of_getElem? (i := 173) (by decide +kernel))
    · exact hn _ (List.mem_of_getElem? (i := 174) (by decide +kernel))
    · exact hn _ (List.mem_of_getElem? (i := 175) (by decide +kernel))
    · exact hn _ (List.mem_of_getElem? (i := 176) (by decide +kernel))
    · exact hn _ (List.mem_of_getElem? (i := 177) (by decide +kernel))
    · exact hn _ (List.mem_of_getElem? (i := 178) (by decide +kernel))
    · exact hn _ (List.mem_of_getElem? (i := 179) (by decide +kernel))
    · exact hn _ (List.mem_of_getElem? (i := 180) (by decide +kernel))
    · exact hn _ (List.mem_of_getElem? (i := 181) (by decide +kernel))
    · exact hn _ (List.mem_of_getElem? (i := 182) (by decide +kernel))
  · have hj : j < 11 := hj
    rcases (show j = 0 ∨ j = 1 ∨ j = 2 ∨ j = 3 ∨ j = 4 ∨ j = 5 ∨ j = 6 ∨ j = 7 ∨ j = 8 ∨ j = 9 ∨ j = 10 by omega) with rfl | rfl | rfl | rfl | rfl | rfl | rfl | rfl | rfl | rfl | rfl
    · exact hn _ (List.mem_of_getElem? (i := 196) (by decide +kernel))
    · exact hn _ (List.mem_of_getElem? (i := 197) (by decide +kernel))
    · exact hn _ (List.mem_of_getElem? (i := 198) (by decide +kernel))
    · exact hn _ (List.mem_of_getElem? (i := 199) (by decide +kernel))
    · exact hn _ (List.mem_of_getElem? (i := 200) (by decide +kernel))
    · exact hn _ (List.mem_of_getElem? (i := 201) (by decide +kernel))
    · exact hn _ (List.mem_of_getElem? (i := 202) (by decide +kernel))
    · exact hn _ (List.mem_of_getElem? (i := 203) (by decide +kernel))
    · exact hn _ (List.mem_of_getElem? (i := 204) (by decide +kernel))
    · exact hn _ (List.mem_of_getElem? (i := 205) (by decide +kernel))
    · exact hn _ (List.mem_of_getElem? (i := 206) (by decide +kernel))
  · have hj : j < 15 := hj
    rcases (show j = 0 ∨ j = 1 ∨ j = 2 ∨ j = 3 ∨ j = 4 ∨ j = 5 ∨ j = 6 ∨ j = 7 ∨ j = 8 ∨ j = 9 ∨ j = 10 ∨ j = 11 ∨ j = 12 ∨ j = 13 ∨ j = 14 by omega) with rfl | rfl | rfl | rfl | rfl | rfl | rfl | rfl | rfl | rfl | rfl | rfl | rfl | rfl | rfl
    · exact hn _ (List.mem_of_getElem? (i := 221) (by decide +kernel))
    · exact hn _ (List.mem_of_getElem? (i := 222) (by decide +kernel))
    · exact hn _ (List.mem_of_getElem? (i := 223) (by decide +kernel))
    · exact hn _ (List.mem_of_getElem? (i := 224) (by decide +kernel))
    · exact hn _ (List.mem_of_getElem? (i := 225) (by decide +kernel))
    · exact hn _ (List.mem_of_getElem? (i := 226) (by decide +kernel))
    · exact hn _ (List.mem_of_getElem? (i := 227) (by decide +kernel))
    · exact hn _ (List.mem_of_getElem? (i := 228) (by decide +kernel))
    · exact hn _ (List.mem_of_getElem? (i := 229) (by decide +kernel))
    · exact hn _ (List.mem_of_getElem? (i := 230) (by decide +kernel))
    · exact hn _ (List.mem_of_getElem? (i := 231) (by decide +kernel))
    · exact hn _ (List.mem_of_getElem? (i := 232) (by decide +kernel))
    · exact hn _ (List.mem_of_getElem? (i := 233) (by decide +kernel))
    · exact hn _ (List.mem_of_getElem? (i := 234) (by decide +kernel))
    · exact hn _ (List.mem_of_getElem? (i := 235) (by decide +kernel))
  · have hj : j < 8 := hj
    rcases (show j = 0 ∨ j = 1 ∨ j = 2 ∨ j = 3 ∨ j = 4 ∨ j = 5 ∨ j = 6 ∨ j = 7 by omega) with rfl | rfl | rfl | rfl | rfl | rfl | rfl | rfl
    · exact hn _ (List.mem_of_getElem? (i := 251) (by decide +kernel))
    · exact hn _ (List.mem_of_getElem? (i := 252) (by decide +kernel))
    · exact hn _ (List.mem_of_getElem? (i := 253) (by decide +kernel))
    · exact hn _ (List.mem_of_getElem? (i := 254) (by decide +kernel))
    · exact hn _ (List.mem_of_getElem? (i := 255) (by decide +kernel))
    · exact hn _ (List.mem_of_getElem? (i := 256) (by decide +kernel))
    · exact hn _ (List.mem_of_getElem? (i := 257) (by decide +kernel))
    · exact hn _ (List.mem_of_getElem? (i := 258) (by decide +kernel))
  · have hj : j < 15 := hj
    rcases (show j = 0 ∨ j = 1 ∨ j = 2 ∨ j = 3 ∨ j = 4 ∨ j = 5 ∨ j = 6 ∨ j = 7 ∨ j = 8 ∨ j = 9 ∨ j = 10 ∨ j = 11 ∨ j = 12 ∨ j = 13 ∨ j = 14 by omega) with rfl | rfl | rfl | rfl | rfl | rfl | rfl | rfl | rfl | rfl | rfl | rfl | rfl | rfl | rfl
    · exact hn _ (List.mem_of_getElem? (i := 275) (by decide +kernel))
    · exact hn _ (List.mem_of_getElem? (i := 276) (by decide +kernel))
    · exact hn _ (List.mem_of_getElem? (i := 277) (by decide +kernel))
    · exact hn _ (List.mem_of_getElem? (i := 278) (by decide +kernel))
    · exact hn _ (List.mem_of_getElem? (i := 279) (by decide +kernel))
    · exact hn _ (List.mem_of_getElem? (i := 280) (by decide +kernel))
    · exact hn _ (List.mem_of_getElem? (i := 281) (by decide +kernel))
    · exact hn _ (List.mem_of_getElem? (i := 282) (by decide +kernel))
    · exact hn _ (List.mem_of_getElem? (i := 283) (by decide +kernel))
    · exact hn _ (List.mem_of_getElem? (i := 284) (by decide +kernel))
    · exact hn _ (List.mem_of_getElem? (i := 285) (by decide +kernel))
    · exact hn _ (List.mem_of_getElem? (i := 286) (by decide +kernel))
    · exact hn _ (List.mem_of_getElem? (i := 287) (by decide +kernel))
    · exact hn _ (List.mem_of_getElem? (i := 288) (by decide +kernel))
    · exact hn _ (List.mem_of_getElem? (i := 289) (by decide +kernel))
  · have hj : j < 25 := hj
    rcases (show j = 0 ∨ j = 1 ∨ j = 2 ∨ j = 3 ∨ j = 4 ∨ j = 5 ∨ j = 6 ∨ j = 7 ∨ j = 8 ∨ j = 9 ∨ j = 10 ∨ j = 11 ∨ j = 12 ∨ j = 13 ∨ j = 14 ∨ j = 15 ∨ j = 16 ∨ j = 17 ∨ j = 18 ∨ j = 19 ∨ j = 20 ∨ j = 21 ∨ j = 22 ∨ j = 23 ∨ j = 24 by omega) with rfl | rfl | rfl | rfl | rfl | rfl | rfl | rfl | rfl | rfl | rfl | rfl | rfl | rfl | rfl | rfl | rfl | rfl | rfl | rfl | rfl | rfl | rfl | rfl | rfl
    · exact hn _ (List.mem_of_getElem? (i := 307) (by decide +kernel))
    · exact hn _ (List.mem_of_getElem? (i := 308) (by decide +kernel))
    · exact hn _ (List.mem_of_getElem? (i := 309) (by decide +kernel))
    · exact hn _ (List.mem_of_getElem? (i := 310) (by decide +kernel))
    · exact hn _ (List.mem_of_getElem? (i := 311) (by decide +kernel))
    · exact hn _ (List.mem_of_getElem? (i := 312) (by decide +kernel))
    · exact hn _ (List.mem_of_getElem? (i := 313) (by decide +kernel))
    · exact hn _ (List.mem_of_getElem? (i := 314) (by decide +kernel))
    · exact hn _ (List.mem_of_getElem? (i := 315) (by decide +kernel))
    · exact hn _ (List.mem_of_getElem? (i := 316) (by decide +kernel))
    · exact hn _ (List.mem_of_getElem? (i := 317) (by decide +kernel))
    · exact hn _ (List.mem_of_getElem? (i := 318) (by decide +kernel))
    · exact hn _ (List.mem_of_getElem? (i := 319) (by decide +kernel))
    · exact hn _ (List.mem_of_getElem? (i := 320) (by decide +kernel))
    · exact hn _ (List.mem_of_getElem? (i := 321) (by decide +kernel))
    · exact hn _ (List.mem_of_getElem? (i := 322) (by decide +kernel))
    · exact hn _ (List.mem_of_getElem? (i := 323) (by decide +kernel))
    · exact hn _ (List.mem_of_getElem? (i := 324) (by decide +kernel))
    · exact hn _ (List.mem_of_getElem? (i := 325) (by decide +kernel))
    · exact hn _ (List.mem_of_getElem? (i := 326) (by decide +kernel))
    · exact hn _ (List.mem_of_getElem? (i := 327) (by decide +kernel))
    · exact hn _ (List.mem_of_getElem? (i := 328) (by decide +kernel))
    · exact hn _ (List.mem_of_getElem? (i := 329) (by decide +kernel))
    · exact hn _ (List.mem_of_getElem? (i := 330) (by decide +kernel))
    · exact hn _ (List.mem_of_getElem? (i := 331) (by decide +kernel))
  · have hj : j < 13 := hj
    rcases (show j = 0 ∨ j = 1 ∨ j = 2 ∨ j = 3 ∨ j = 4 ∨ j = 5 ∨ j = 6 ∨ j = 7 ∨ j = 8 ∨ j = 9 ∨ j = 10 ∨ j = 11 ∨ j = 12 by omega) with rfl | rfl | rfl | rfl | rfl | rfl | rfl | rfl | rfl | rfl | rfl | rfl | rfl
    · exact hn _ (List.mem_of_getElem? (i := 350) (by decide +kernel))
    · exact hn _ (List.mem_of_getElem? (i := 351) (by decide +kernel))
    · exact hn _ (List.mem_of_getElem? (i := 352) (by decide +kernel))
    · exact hn _ (List.mem_of_getElem? (i := 353) (by decide +kernel))
    · exact hn _ (List.mem_of_getElem? (i := 354) (by decide +kernel))
    · exact hn _ (List.mem_of_getElem? (i := 355) (by decide +kernel))
    · exact hn _ (List.mem_of_getElem? (i := 356) (by decide +kernel))
    · exact hn _ (List.mem_of_getElem? (i := 357) (by decide +kernel))
    · exact hn _ (List.mem_of_getElem? (i := 358) (by decide +kernel))
    · exact hn _ (List.mem_of_getElem? (i := 359) (by decide +kernel))
    · exact hn _ (List.mem_of_getElem? (i := 360) (by decide +kernel))
    · exact hn _ (List.mem_of_getElem? (i := 361) (by decide +kernel))
    · exact hn _ (List.mem_of_getElem? (i := 362) (by decide +kernel))
theorem sx_ne (hn : ∀ w ∈ nwL, w.before args s = true) : ∀ i j : Nat, i < 16 → j < 16 → i ≠ j → (Cond.not (Cond.eq (sxTm i) (sxTm j))).before args s = true ∨ (Cond.not (Cond.eq (sxTm j) (sxTm i))).before args s = true := by
  intro i j hi hj hij
  rcases (show i = 0 ∨ i = 1 ∨ i = 2 ∨ i = 3 ∨ i = 4 ∨ i = 5 ∨ i = 6 ∨ i = 7 ∨ i = 8 ∨ i = 9 ∨ i = 10 ∨ i = 11 ∨ i = 12 ∨ i = 13 ∨ i = 14 ∨ i = 15 by omega) with rfl | rfl | rfl | rfl | rfl | rfl | rfl | rfl | rfl | rfl | rfl | rfl | rfl | rfl | rfl | rfl
  · rcases (show j = 0 ∨ j = 1 ∨ j = 2 ∨ j = 3 ∨ j = 4 ∨ j = 5 ∨ j = 6 ∨ j = 7 ∨ j = 8 ∨ j = 9 ∨ j = 10 ∨ j = 11 ∨ j = 12 ∨ j = 13 ∨ j = 14 ∨ j = 15 by omega) with rfl | rfl | rfl | rfl | rfl | rfl | rfl | rfl | rfl | rfl | rfl | rfl | rfl | rfl | rfl | rfl
    · exact absurd rfl hij
    · exact Or.inl (hn _ (List.mem_of_getElem? (i := 47) (by decide +kernel)))
    · exact Or.inl (hn _ (List.mem_of_getElem? (i := 58) (by decide +kernel)))
    · exact Or.inl (hn _ (List.mem_of_getElem? (i := 71) (by decide +kernel)))
    · exact Or.inl (hn _ (List.mem_of_getElem? (i := 86) (by decide +kernel)))
    · exact Or.inl (hn _ (List.mem_of_getElem? (i := 104) (by decide +kernel)))
    · exact Or.inl (hn _ (List.mem_of_getElem? (i := 117) (by decide +kernel)))
    · exact Or.inl (hn _ (List.mem_of_getElem? (i := 133) (by decide +kernel)))
    · exact Or.inl (hn _ (List.mem_of_getElem? (i := 150) (by decide +kernel)))
    · exact Or.inl (hn _ (List.mem_of_getElem? (i := 183) (by decide +kernel)))
    · exact Or.inl (hn _ (List.mem_of_getElem? (i := 207) (by decide +kernel)))
    · exact Or.inl (hn _ (List.mem_of_getElem? (i := 236) (by decide +kernel)))
    · exact Or.inl (hn _ (List.mem_of_getElem? (i := 259) (by decide +kernel)))
    · exact Or.inl (hn _ (List.mem_of_getElem? (i := 290) (by decide +kernel)))
    · exact Or.inl (hn _ (List.mem_of_getElem? (i := 332) (by decide +kernel)))
    · exact Or.inl (hn _ (List.mem_of_getElem? (i := 363) (by decide +kernel)))
  · rcases (show j = 0 ∨ j = 1 ∨ j = 2 ∨ j = 3 ∨ j = 4 ∨ j = 5 ∨ j = 6 ∨ j = 7 ∨ j = 8 ∨ j = 9 ∨ j = 10 ∨ j = 11 ∨ j = 12 ∨ j = 13 ∨ j = 14 ∨ j = 15 by omega) with rfl | rfl | rfl | rfl | rfl | rfl | rfl | rfl | rfl | rfl | rfl | rfl | rfl | rfl | rfl | rfl
    · exact Or.inr (hn _ (List.mem_of_getElem? (i := 47) (by decide +kernel)))
    · exact absurd rfl hij
    · exact Or.inl (hn _ (List.mem_of_getElem? (i := 59) (by decide +kernel)))
    · exact Or.inl (hn _ (List.mem_of_getElem? (i := 72) (by decide +kernel)))
    · exact Or.inl (hn _ (List.mem_of_getElem? (i := 87) (by decide +kernel)))
    · exact Or.inl (hn _ (List.mem_of_getElem? (i := 105) (by decide +kernel)))
    · exact Or.inl (hn _ (List.mem_of_getElem? (i := 118) (by decide +kernel)))
    · exact Or.inl (hn _ (List.mem_of_getElem? (i := 134) (by decide +kernel)))
    · exact Or.inl (hn _ (List.mem_of_getElem? (i := 151) (by decide +kernel)))
    · exact Or.inl (hn _ (List.mem_of_getElem? (i := 184) (by decide +kernel)))
    · exact Or.inl (hn _ (List.mem_of_getElem? (i := 208) (by decide +kernel)))
    · exact Or.inl (hn _ (List.mem_of_getElem? (i := 237) (by decide +kernel)))
    · exact Or.inl (hn _ (List.mem_of_getElem? (i := 260) (by decide +kernel)))
    · exact Or.inl (hn _ (List.mem_of_getElem? (i := 291) (by decide +kernel)))
    · exact Or.inl (hn _ (List.mem_of_getElem? (i := 333) (by decide +kernel)))
    · exact Or.inl (hn _ (List.mem_of_getElem? (i := 364) (by decide +kernel)))
  · rcases (show j = 0 ∨ j = 1 ∨ j = 2 ∨ j = 3 ∨ j = 4 ∨ j = 5 ∨ j = 6 ∨ j = 7 ∨ j = 8 ∨ j = 9 ∨ j = 10 ∨ j = 11 ∨ j = 12 ∨ j = 13 ∨ j = 14 ∨ j = 15 by omega) with rfl | rfl | rfl | rfl | rfl | rfl | rfl | rfl | rfl | rfl | rfl | rfl | rfl | rfl | rfl | rfl
    · exact Or.inr (hn _ (List.mem_of_getElem? (i := 58) (by decide +kernel)))
    · exact Or.inr (hn _ (List.mem_of_getElem? (i := 59) (by decide +kernel)))
    · exact absurd rfl hij
    · exact Or.inl (hn _ (List.mem_of_getElem? (i := 73) (by decide +kernel)))
    · exact Or.inl (hn _ (List.mem_of_getElem? (i := 88) (by decide +kernel)))
    · exact Or.inl (hn _ (List.mem_of_getElem? (i := 106) (by decide +kernel)))
    · exact Or.inl (hn _ (List.mem_of_getElem? (i := 119) (by decide +kernel)))
    · exact Or.inl (hn _ (List.mem_of_getElem? (i := 135) (by decide +kernel)))
    · exact Or.inl (hn _ (List.mem_of_getElem? (i := 152) (by decide +kernel)))
    · exact Or.inl (hn _ (List.mem_of_getElem? (i := 185) (by decide +kernel)))
    · exact Or.inl (hn _ (List.mem_of_getElem? (i := 209) (by decide +kernel)))
    · exact Or.inl (hn _ (List.mem_of_getElem? (i := 238) (by decide +kernel)))
    · exact Or.inl (hn _ (List.mem_of_getElem? (i := 261) (by decide +kernel)))
    · exact Or.inl (hn _ (List.mem_of_getElem? (i := 292) (by decide +kernel)))
    · exact Or.inl (hn _ (List.mem_of_getElem? (i := 334) (by decide +kernel)))
    · exact Or.inl (hn _ (List.mem_of_getElem? (i := 365) (by decide +kernel)))
  · rcases (show j = 0 ∨ j = 1 ∨ j = 2 ∨ j = 3 ∨ j = 4 ∨ j = 5 ∨ j = 6 ∨ j = 7 ∨ j = 8 ∨ j = 9 ∨ j = 10 ∨ j = 11 ∨ j = 12 ∨ j = 13 ∨ j = 14 ∨ j = 15 by omega) with rfl | rfl | rfl | rfl | rfl | rfl | rfl | rfl | rfl | rfl | rfl | rfl | rfl | rfl | rfl | rfl
    · exact Or.inr (hn _ (List.mem_of_getElem? (i := 71) (by decide +kernel)))
    · exact Or.inr (hn _ (List.mem_of_getElem? (i := 72) (by decide +kernel)))
    · exact Or.inr (hn _ (List.mem_of_getElem? (i := 73) (by decide +kernel)))
    · exact absurd rfl hij
    · exact Or.inl (hn _ (List.mem_of_getElem? (i := 89) (by decide +kernel)))
    · exact Or.inl (hn _ (List.mem_of_getElem? (i := 107) (by decide +kernel)))
    · exact Or.inl (hn _ (List.mem_of_getElem? (i := 120) (by decide +kernel)))
    · exact Or.inl (hn _ (List.mem_of_getElem? (i := 136) (by decide +kernel)))
    · exact Or.inl (hn _ (List.mem_of_getElem? (i := 153) (by decide +kernel)))
    · exact Or.inl (hn _ (List.mem_of_getElem? (i := 186) (by decide +kernel)))
    · exact Or.inl (hn _ (List.mem_of_getElem? (i := 210) (by decide +kernel)))
    · exact Or.inl (hn _ (List.mem_of_getElem? (i := 239) (by decide +kernel)))
    · exact Or.inl (hn _ (List.mem_of_getElem? (i := 262) (by decide +kernel)))
    · exact Or.inl (hn _ (List.mem_of_getElem? (i := 293) (by decide +kernel)))
    · exact Or.inl (hn _ (List.mem_of_getElem? (i := 335) (by decide +kernel)))
    · exact Or.inl (hn _ (List.mem_of_getElem? (i := 366) (by decide +kernel)))
  · rcases (show j = 0 ∨ j = 1 ∨ j = 2 ∨ j = 3 ∨ j = 4 ∨ j = 5 ∨ j = 6 ∨ j = 7 ∨ j = 8 ∨ j = 9 ∨ j = 10 ∨ j = 11 ∨ j = 12 ∨ j = 13 ∨ j = 14 ∨ j = 15 by omega) with rfl | rfl | rfl | rfl | rfl | rfl | rfl | rfl | rfl | rfl | rfl | rfl | rfl | rfl | rfl | rfl
    · exact Or.inr (hn _ (List.mem_of_getElem? (i := 86) (by decide +kernel)))
    · exact Or.inr (hn _ (List.mem_of_getElem? (i := 87) (by decide +kernel)))
    · exact Or.inr (hn _ (List.mem_of_getElem? (i := 88) (by decide +kernel)))
    · exact Or.inr (hn _ (List.mem_of_getElem? (i := 89) (by decide +kernel)))
    · exact absurd rfl hij
    · exact Or.inl (hn _ (List.mem_of_getElem? (i := 108) (by decide +kernel)))
    · exact Or.inl (hn _ (List.mem_of_getElem? (i := 121) (by decide +kernel)))
    · exact Or.inl (hn _ (List.mem_of_getElem? (i := 137) (by decide +kernel)))
    · exact Or.inl (hn _ (List.mem_of_getElem? (i := 154) (by decide +kernel)))
    · exact Or.inl (hn _ (List.mem_of_getElem? (i := 187) (by decide +kernel)))
    · exact Or.inl (hn _ (List.mem_of_getElem? (i := 211) (by decide +kernel)))
    · exact Or.inl (hn _ (List.mem_of_getElem? (i := 240) (by decide +kernel)))
    · exact Or.inl (hn _ (List.mem_of_getElem? (i := 263) (by decide +kernel)))
    · exact Or.inl (hn _ (List.mem_of_getElem? (i := 294) (by decide +kernel)))
    · exact Or.inl (hn _ (List.mem_of_getElem? (i := 336) (by decide +kernel)))
    · exact Or.inl (hn _ (List.mem_of_getElem? (i := 367) (by decide +kernel)))
  · rcases (show j = 0 ∨ j = 1 ∨ j = 2 ∨ j = 3 ∨ j = 4 ∨ j = 5 ∨ j = 6 ∨ j = 7 ∨ j = 8 ∨ j = 9 ∨ j = 10 ∨ j = 11 ∨ j = 12 ∨ j = 13 ∨ j = 14 ∨ j = 15 by omega) with rfl | rfl | rfl | rfl | rfl | rfl | rfl | rfl | rfl | rfl | rfl | rfl | rfl | rfl | rfl | rfl
    · exact Or.inr (hn _ (List.mem_of_getElem? (i := 104) (by decide +kernel)))
    · exact Or.inr (hn _ (List.mem_of_getElem? (i := 105) (by decide +kernel)))
    · exact Or.inr (hn _ (List.mem_of_getElem? (i := 106) (by decide +kernel)))
    · exact Or.inr (hn _ (List.mem_of_getElem? (i := 107) (by decide +kernel)))
    · exact Or.inr (hn _ (List.mem_of_getElem? (i := 108) (by decide +kernel)))
    · exact absurd rfl hij
    · exact Or.inl (hn _ (List.mem_of_getElem? (i := 122) (by decide +kernel)))
    · exact Or.inl (hn _ (List.mem_of_getElem? (i := 138) (by decide +kernel)))
    · exact Or.inl (hn _ (List.mem_of_getElem? (i := 155) (by decide +kernel)))
    · exact Or.inl (hn _ (List.mem_of_getElem? (i := 188) (by decide +kernel)))
    · exact Or.inl (hn _ (List.mem_of_getElem? (i := 212) (by decide +kernel)))
    · exact Or.inl (hn _ (List.mem_of_getElem? (i := 241) (by decide +kernel)))
    · exact Or.inl (hn _ (List.mem_of_getElem? (i := 264) (by decide +kernel)))
    · exact Or.inl (hn _ (List.mem_of_getElem? (i := 295) (by decide +kernel)))
    · exact Or.inl (hn _ (List.mem_of_getElem? (i := 337) (by decide +kernel)))
    · exact Or.inl (hn _ (List.mem_of_getElem? (i := 368) (by decide +kernel)))
  · rcases (show j = 0 ∨ j = 1 ∨ j = 2 ∨ j = 3 ∨ j = 4 ∨ j = 5 ∨ j = 6 ∨ j = 7 ∨ j = 8 ∨ j = 9 ∨ j = 10 ∨ j = 11 ∨ j = 12 ∨ j = 13 ∨ j = 14 ∨ j = 15 by omega) with rfl | rfl | rfl | rfl | rfl | rfl | rfl | rfl | rfl | rfl | rfl | rfl | rfl | rfl | rfl | rfl
    · exact Or.inr (hn _ (List.mem_of_getElem? (i := 117) (by decide +kernel)))
    · exact Or.inr (hn _ (List.mem_of_getElem? (i := 118) (by decide +kernel)))
    · exact Or.inr (hn _ (List.mem_of_getElem? (i := 119) (by decide +kernel)))
    · exact Or.inr (hn _ (List.mem_of_getElem? (i := 120) (by decide +kernel)))
    · exact Or.inr (hn _ (List.mem_of_getElem? (i := 121) (by decide +kernel)))
    · exact Or.inr (hn _ (List.mem_of_getElem? (i := 122) (by decide +kernel)))
    · exact absurd rfl hij
    · exact Or.inl (hn _ (List.mem_of_getElem? (i := 139) (by decide +kernel)))
    · exact Or.inl (hn _ (List.mem_of_getElem? (i := 156) (by decide +kernel)))
    · exact Or.inl (hn _ (List.mem_of_getElem? (i := 189) (by decide +kernel)))
    · exact Or.inl (hn _ (List.mem_of_getElem? (i := 213) (by decide +kernel)))
    · exact Or.inl (hn _ (List.mem_of_getElem? (i := 242) (by decide +kernel)))
    · exact Or.inl (hn _ (List.mem_of_getElem? (i := 265) (by decide +kernel)))
    · exact Or.inl (hn _ (List.mem_of_getElem? (i := 296) (by decide +kernel)))
    · exact Or.inl (hn _ (List.mem_of_getElem? (i := 338) (by decide +kernel)))
    · exact Or.inl (hn _ (List.mem_of_getElem? (i := 369) (by decide +kernel)))
  · rcases (show j = 0 ∨ j = 1 ∨ j = 2 ∨ j = 3 ∨ j = 4 ∨ j = 5 ∨ j = 6 ∨ j = 7 ∨ j = 8 ∨ j = 9 ∨ j = 10 ∨ j = 11 ∨ j = 12 ∨ j = 13 ∨ j = 14 ∨ j = 15 by omega) with rfl | rfl | rfl | rfl | rfl | rfl | rfl | rfl | rfl | rfl | rfl | rfl | rfl | rfl | rfl | rfl
    · exact Or.inr (hn _ (List.mem_of_getElem? (i := 133) (by decide +kernel)))
    · exact Or.inr (hn _ (List.mem_of_getElem? (i := 134) (by decide +kernel)))
    · exact Or.inr (hn _ (List.mem_of_getElem? (i := 135) (by decide +kernel)))
    · exact Or.inr (hn _ (List.mem_of_getElem? (i := 136) (by decide +kernel)))
    · exact Or.inr (hn _ (List.mem_of_getElem? (i := 137) (by decide +kernel)))
    · exact Or.inr (hn _ (List.mem_of_getElem? (i := 138) (by decide +kernel)))
    · exact Or.inr (hn _ (List.mem_of_getElem? (i := 139) (by decide +kernel)))
    · exact absurd rfl hij
    · exact Or.inl (hn _ (List.mem_of_getElem? (i := 157) (by decide +kernel)))
    · exact Or.inl (hn _ (List.mem_of_getElem? (i := 190) (by decide +kernel)))
    · exact Or.inl (hn _ (List.mem_of_getElem? (i := 214) (by decide +kernel)))
    · exact Or.inl (hn _ (List.mem_of_getElem? (i := 243) (by decide +kernel)))
    · exact Or.inl (hn _ (List.mem_of_getElem? (i := 266) (by decide +kernel)))
    · exact Or.inl (hn _ (List.mem_of_getElem? (i := 297) (by decide +kernel)))
    · exact Or.inl (hn _ (List.mem_of_getElem? (i := 339) (by decide +kernel)))
    · exact Or.inl (hn _ (List.mem_of_getElem? (i := 370) (by decide +kernel)))
  · rcases (show j = 0 ∨ j = 1 ∨ j = 2 ∨ j = 3 ∨ j = 4 ∨ j = 5 ∨ j = 6 ∨ j = 7 ∨ j = 8 ∨ j = 9 ∨ j = 10 ∨ j = 11 ∨ j = 12 ∨ j = 13 ∨ j = 14 ∨ j = 15 by omega) with rfl | rfl | rfl | rfl | rfl | rfl | rfl | rfl | rfl | rfl | rfl | rfl | rfl | rfl | rfl | rfl
    · exact Or.inr (hn _ (List.mem_of_getElem? (i := 150) (by decide +kernel)))
    · exact Or.inr (hn _ (List.mem_of_getElem? (i := 151) (by decide +kernel)))
    · exact Or.inr (hn _ (List.mem_of_getElem? (i := 152) (by decide +kernel)))
    · exact Or.inr (hn _ (List.mem_of_getElem? (i := 153) (by decide +kernel)))
    · exact Or.inr (hn _ (List.mem_of_getElem? (i := 154) (by decide +kernel)))
    · exact Or.inr (hn _ (List.mem_of_getElem? (i := 155) (by decide +kernel)))
    · exact Or.inr (hn _ (List.mem_of_getElem? (i := 156) (by decide +kernel)))
    · exact Or.inr (hn _ (List.mem_of_getElem? (i := 157) (by decide +kernel)))
    · exact absurd rfl hij
    · exact Or.inl (hn _ (List.mem_of_getElem? (i := 191) (by decide +kernel)))
    · exact Or.inl (hn _ (List.mem_of_getElem? (i := 215) (by decide +kernel)))
    · exact Or.inl (hn _ (List.mem_of_getElem? (i := 244) (by decide +kernel)))
    · exact Or.inl (hn _ (List.mem_of_getElem? (i := 267) (by decide +kernel)))
    · exact Or.inl (hn _ (List.mem_of_getElem? (i := 298) (by decide +kernel)))
    · exact Or.inl (hn _ (List.mem_of_getElem? (i := 340) (by decide +kernel)))
    · exact Or.inl (hn _ (List.mem_of_getElem? (i := 371) (by decide +kernel)))
  · rcases (show j = 0 ∨ j = 1 ∨ j = 2 ∨ j = 3 ∨ j = 4 ∨ j = 5 ∨ j = 6 ∨ j = 7 ∨ j = 8 ∨ j = 9 ∨ j = 10 ∨ j = 11 ∨ j = 12 ∨ j = 13 ∨ j = 14 ∨ j = 15 by omega) with rfl | rfl | rfl | rfl | rfl | rfl | rfl | rfl | rfl | rfl | rfl | rfl | rfl | rfl | rfl | rfl
    · exact Or.inr (hn _ (List.mem_of_getElem? (i := 183) (by decide +kernel)))
    · exact Or.inr (hn _ (List.mem_of_getElem? (i := 184) (by decide +kernel)))
    · exact Or.inr (hn _ (List.mem_of_getElem? (i := 185) (by decide +kernel)))
    · exact Or.inr (hn _ (List.mem_of_getElem? (i := 186) (by decide +kernel)))
    · exact Or.inr (hn _ (List.mem_of_getElem? (i := 187) (by decide +kernel)))
    · exact Or.inr (hn _ (List.mem_of_getElem? (i := 188) (by decide +kernel)))
    · exact Or.inr (hn _ (List.mem_of_getElem? (i := 189) (by decide +kernel)))
    · exact Or.inr (hn _ (List.mem_of_getElem? (i := 190) (by decide +kernel)))
    · exact Or.inr (hn _ (List.mem_of_getElem? (i := 191) (by decide +kernel)))
    · exact absurd rfl hij
    · exact Or.inl (hn _ (List.mem_of_getElem? (i := 216) (by decide +kernel)))
    · exact Or.inl (hn _ (List.mem_of_getElem? (i := 245) (by decide +kernel)))
    · exact Or.inl (hn _ (List.mem_of_getElem? (i := 268) (by decide +kernel)))
    · exact Or.inl (hn _ (List.mem_of_getElem? (i := 299) (by decide +kernel)))
    · exact Or.inl (hn _ (List.mem_of_getElem? (i := 341) (by decide +kernel)))
    · exact Or.inl (hn _ (List.mem_of_getElem? (i := 372) (by decide +kernel)))
  · rcases (show j = 0 ∨ j = 1 ∨ j = 2 ∨ j = 3 ∨ j = 4 ∨ j = 5 ∨ j = 6 ∨ j = 7 ∨ j = 8 ∨ j = 9 ∨ j = 10 ∨ j = 11 ∨ j = 12 ∨ j = 13 ∨ j = 14 ∨ j = 15 by omega) with rfl | rfl | rfl | rfl | rfl | rfl | rfl | rfl | rfl | rfl | rfl | rfl | rfl | rfl | rfl | rfl
    · exact Or.inr (hn _ (List.mem_of_getElem? (i := 207) (by decide +kernel)))
    · exact Or.inr (hn _ (List.mem_of_getElem? (i := 208) (by decide +kernel)))
    · exact Or.inr (hn _ (List.mem_of_getElem? (i := 209) (by decide +kernel)))
    · exact Or.inr (hn _ (List.mem_of_getElem? (i := 210) (by decide +kernel)))
    · exact Or.inr (hn _ (List.mem_of_getElem? (i := 211) (by decide +kernel)))
    · exact Or.inr (hn _ (List.mem_of_getElem? (i := 212) (by decide +kernel)))
    · exact Or.inr (hn _ (List.mem_of_getElem? (i := 213) (by decide +kernel)))
    · exact Or.inr (hn _ (List.mem_of_getElem? (i := 214) (by decide +kernel)))
    · exact Or.inr (hn _ (List.mem_of_getElem? (i := 215) (by decide +kernel)))
    · exact Or.inr (hn _ (List.mem_of_getElem? (i := 216) (by decide +kernel)))
    · exact absurd rfl hij
    · exact Or.inl (hn _ (List.mem_of_getElem? (i := 246) (by decide +kernel)))
    · exact Or.inl (hn _ (List.mem_of_getElem? (i := 269) (by decide +kernel)))
    · exact Or.inl (hn _ (List.mem_of_getElem? (i := 300) (by decide +kernel)))
    · exact Or.inl (hn _ (List.mem_of_getElem? (i := 342) (by decide +kernel)))
    · exact Or.inl (hn _ (List.mem_of_getElem? (i := 373) (by decide +kernel)))
  · rcases (show j = 0 ∨ j = 1 ∨ j = 2 ∨ j = 3 ∨ j = 4 ∨ j = 5 ∨ j = 6 ∨ j = 7 ∨ j = 8 ∨ j = 9 ∨ j = 10 ∨ j = 11 ∨ j = 12 ∨ j = 13 ∨ j = 14 ∨ j = 15 by omega) with rfl | rfl | rfl | rfl | rfl | rfl | rfl | rfl | rfl | rfl | rfl | rfl | rfl | rfl | rfl | rfl
    · exact Or.inr (hn _ (List.mem_of_getElem? (i := 236) (by decide +kernel)))
    · exact Or.inr (hn _ (List.mem_of_getElem? (i := 237) (by decide +kernel)))
    · exact Or.inr (hn _ (List.mem_of_getElem? (i := 238) (by decide +kernel)))
    · exact Or.inr (hn _ (List.mem_of_getElem? (i := 239) (by decide +kernel)))
    · exact Or.inr (hn _ (List.mem_of_getElem? (i := 240) (by decide +kernel)))
    · exact Or.inr (hn _ (List.mem_of_getElem? (i := 241) (by decide +kernel)))
    · exact Or.inr (hn _ (List.mem_of_getElem? (i := 242) (by decide +kernel)))
    · exact Or.inr (hn _ (List.mem_of_getElem? (i := 243) (by decide +kernel)))
    · exact Or.inr (hn _ (List.mem_of_getElem? (i := 244) (by decide +kernel)))
    · exact Or.inr (hn _ (List.mem_of_getElem? (i := 245) (by decide +kernel)))
    · exact Or.inr (hn _ (List.mem_of_getElem? (i := 246) (by decide +kernel)))
    · exact absurd rfl hij
    · exact Or.inl (hn _ (List.mem_of_getElem? (i := 270) (by decide +kernel)))
    · exact Or.inl (hn _ (List.mem_of_getElem? (i := 301) (by decide +kernel)))
    · exact Or.inl (hn _ (List.mem_of_getElem? (i := 343) (by decide +kernel)))
    · exact Or.inl (hn _ (List.mem_of_getElem? (i := 374) (by decide +kernel)))
  · rcases (show j = 0 ∨ j = 1 ∨ j = 2 ∨ j = 3 ∨ j = 4 ∨ j = 5 ∨ j = 6 ∨ j = 7 ∨ j = 8 ∨ j = 9 ∨ j = 10 ∨ j = 11 ∨ j = 12 ∨ j = 13 ∨ j = 14 ∨ j = 15 by omega) with rfl | rfl | rfl | rfl | rfl | rfl | rfl | rfl | rfl | rfl | rfl | rfl | rfl | rfl | rfl | rfl
    · exact Or.inr (hn _ (List.mem_of_getElem? (i := 259) (by decide +kernel)))
    · exact Or.inr (hn _ (List.mem_of_getElem? (i := 260) (by decide +kernel)))
    · exact Or.inr (hn _ (List.mem_of_getElem? (i := 261) (by decide +kernel)))
    · exact Or.inr (hn _ (List.mem_of_getElem? (i := 262) (by decide +kernel)))
    · exact Or.inr (hn _ (List.mem_of_getElem? (i := 263) (by decide +kernel)))
    · exact Or.inr (hn _ (List.mem_of_getElem? (i := 264) (by decide +kernel)))
    · exact Or.inr (hn _ (List.mem_of_getElem? (i := 265) (by decide +kernel)))
    · exact Or.inr (hn _ (List.mem_of_getElem? (i := 266) (by decide +kernel)))
    · exact Or.inr (hn _ (List.mem_of_getElem? (i := 267) (by decide +kernel)))
    · exact Or.inr (hn _ (List.mem_of_getElem? (i := 268) (by decide +kernel)))
    · exact Or.inr (hn _ (List.mem_of_getElem? (i := 269) (by decide +kernel)))
    · exact Or.inr (hn _ (List.mem_of_getElem? (i := 270) (by decide +kernel)))
    · exact absurd rfl hij
    · exact Or.inl (hn _ (List.mem_of_getElem? (i := 302) (by decide +kernel)))
    · exact Or.inl (hn _ (List.mem_of_getElem? (i := 344) (by decide +kernel)))
    · exact Or.inl (hn _ (List.mem_of_getElem? (i := 375) (by decide +kernel)))
  · rcases (show j = 0 ∨ j = 1 ∨ j = 2 ∨ j = 3 ∨ j = 4 ∨ j = 5 ∨ j = 6 ∨ j = 7 ∨ j = 8 ∨ j = 9 ∨ j = 10 ∨ j = 11 ∨ j = 12 ∨ j = 13 ∨ j = 14 ∨ j = 15 by omega) with rfl | rfl | rfl | rfl | rfl | rfl | rfl | rfl | rfl | rfl | rfl | rfl | rfl | rfl | rfl | rfl
    · exact Or.inr (hn _ (List.mem_of_getElem? (i := 290) (by decide +kernel)))
    · exact Or.inr (hn _ (List.mem_of_getElem? (i := 291) (by decide +kernel)))
    · exact Or.inr (hn _ (List.mem_of_getElem? (i := 292) (by decide +kernel)))
    · exact Or.inr (hn _ (List.mem_of_getElem? (i := 293) (by decide +kernel)))
    · exact Or.inr (hn _ (List.mem_of_getElem? (i := 294) (by decide +kernel)))
    · exact Or.inr (hn _ (List.mem_of_getElem? (i := 295) (by decide +kernel)))
    · exact Or.inr (hn _ (List.mem_of_getElem? (i := 296) (by decide +kernel)))
    · exact Or.inr (hn _ (List.mem_of_getElem? (i := 297) (by decide +kernel)))
    · exact Or.inr (hn _ (List.mem_of_getElem? (i := 298) (by decide +kernel)))
    · exact Or.inr (hn _ (List.mem_of_getElem? (i := 299) (by decide +kernel)))
    · exact Or.inr (hn _ (List.mem_of_getElem? (i := 300) (by decide +kernel)))
    · exact Or.inr (hn _ (List.mem_of_getElem? (i := 301) (by decide +kernel)))
    · exact Or.inr (hn _ (List.mem_of_getElem? (i := 302) (by decide +kernel)))
    · exact absurd rfl hij
    · exact Or.inl (hn _ (List.mem_of_getElem? (i := 345) (by decide +kernel)))
    · exact Or.inl (hn _ (List.mem_of_getElem? (i := 376) (by decide +kernel)))
  · rcases (show j = 0 ∨ j = 1 ∨ j = 2 ∨ j = 3 ∨ j = 4 ∨ j = 5 ∨ j = 6 ∨ j = 7 ∨ j = 8 ∨ j = 9 ∨ j = 10 ∨ j = 11 ∨ j = 12 ∨ j = 13 ∨ j = 14 ∨ j = 15 by omega) with rfl | rfl | rfl | rfl | rfl | rfl | rfl | rfl | rfl | rfl | rfl | rfl | rfl | rfl | rfl | rfl
    · exact Or.inr (hn _ (List.mem_of_getElem? (i := 332) (by decide +kernel)))
    · exact Or.inr (hn _ (List.mem_of_getElem? (i := 333) (by decide +kernel)))
    · exact Or.inr (hn _ (List.mem_of_getElem? (i := 334) (by decide +kernel)))
    · exact Or.inr (hn _ (List.mem_of_getElem? (i := 335) (by decide +kernel)))
    · exact Or.inr (hn _ (List.mem_of_getElem? (i := 336) (by decide +kernel)))
    · exact Or.inr (hn _ (List.mem_of_getElem? (i := 337) (by decide +kernel)))
    · exact Or.inr (hn _ (List.mem_of_getElem? (i := 338) (by decide +kernel)))
    · exact Or.inr (hn _ (List.mem_of_getElem? (i := 339) (by decide +kernel)))
    · exact Or.inr (hn _ (List.mem_of_getElem? (i := 340) (by decide +kernel)))
    · exact Or.inr (hn _ (List.mem_of_getElem? (i := 341) (by decide +kernel)))
    · exact Or.inr (hn _ (List.mem_of_getElem? (i := 342) (by decide +kernel)))
    · exact Or.inr (hn _ (List.mem_of_getElem? (i := 343) (by decide +kernel)))
    · exact Or.inr (hn _ (List.mem_of_getElem? (i := 344) (by decide +kernel)))
    · exact Or.inr (hn _ (List.mem_of_getElem? (i := 345) (by decide +kernel)))
    · exact absurd rfl hij
    · exact Or.inl (hn _ (List.mem_of_getElem? (i := 377) (by decide +kernel)))
  · rcases (show j = 0 ∨ j = 1 ∨ j = 2 ∨ j = 3 ∨ j = 4 ∨ j = 5 ∨ j = 6 ∨ j = 7 ∨ j = 8 ∨ j = 9 ∨ j = 10 ∨ j = 11 ∨ j = 12 ∨ j = 13 ∨ j = 14 ∨ j = 15 by omega) with rfl | rfl | rfl | rfl | rfl | rfl | rfl | rfl | rfl | rfl | rfl | rfl | rfl | rfl | rfl | rfl
    · exact Or.inr (hn _ (List.mem_of_getElem? (i := 363) (by decide +kernel)))
    · exact Or.inr (hn _ (List.mem_of_getElem? (i := 364) (by decide +kernel)))
    · exact Or.inr (hn _ (List.mem_of_getElem? (i := 365) (by decide +kernel)))
    · exact Or.inr (hn _ (List.mem_of_getElem? (i := 366) (by decide +kernel)))
    · exact Or.inr (hn _ (List.mem_of_getElem? (i := 367) (by decide +kernel)))
    · exact Or.inr (hn _ (List.mem_of_getElem? (i := 368) (by decide +kernel)))
    · exact Or.inr (hn _ (List.mem_of_getElem? (i := 369) (by decide +kernel)))
    · exact Or.inr (hn _ (List.mem_of_getElem? (i := 370) (by decide +kernel)))
    · exact Or.inr (hn _ (List.mem_of_getElem? (i := 371) (by decide +kernel)))
    · exact Or.inr (hn _ (List.mem_of_getElem? (i := 372) (by decide +kernel)))
    · exact Or.inr (hn _ (List.mem_of_getElem? (i := 373) (by decide +kernel)))
    · exact Or.inr (hn _ (List.mem_of_getElem? (i := 374) (by decide +kernel)))
    · exact Or.inr (hn _ (List.mem_of_getElem? (i := 375) (by decide +kernel)))
    · exact Or.inr (hn _ (List.mem_of_getElem? (i := 376) (by decide +kernel)))
    · exact Or.inr (hn _ (List.mem_of_getElem? (i := 377) (by decide +kernel)))
    · exact absurd rfl hij
theorem arr_at {ty : FieldType} (h : (Cond.arrayClass ty).before args s = true) : ∃ cA, ArrOfT s cA ty ∧ s.vm.findClass ("[" ++ ty.toString) = some cA := by
  obtain ⟨cA, kA, comp, h1, h2, h3⟩ := Cond.arrayClass_spec h
  exact ⟨cA, fun n z => ⟨fun k h => (by cases h), kA, h2, comp, h3⟩, h1⟩
theorem sx_rf (hts : ∀ w ∈ lw_tbl, w.before args s = true) {adK : Nat → Nat} (hev : ∀ i : Nat, i < 16 → (sxTm i).eval args s none [] s = some (.ref (adK i))) : ∀ i : Nat, i < 8 → vk_R RX2 (81 + 2 * i) (sxTx i) (adK i) s := by
  intro i hi
  rcases (show i = 0 ∨ i = 1 ∨ i = 2 ∨ i = 3 ∨ i = 4 ∨ i = 5 ∨ i = 6 ∨ i = 7 by omega) with rfl | rfl | rfl | rfl | rfl | rfl | rfl | rfl
  · exact vk_R.of (hts _ (tin3 (List.mem_of_getElem? (i := 100) (by decide +kernel)))) (hev 0 (by decide))
  · exact vk_R.of (hts _ (tin3 (List.mem_of_getElem? (i := 101) (by decide +kernel)))) (hev 1 (by decide))
  · exact vk_R.of (hts _ (tin3 (List.mem_of_getElem? (i := 102) (by decide +kernel)))) (hev 2 (by decide))
  · exact vk_R.of (hts _ (tin3 (List.mem_of_getElem? (i := 103) (by decide +kernel)))) (hev 3 (by decide))
  · exact vk_R.of (hts _ (tin3 (List.mem_of_getElem? (i := 104) (by decide +kernel)))) (hev 4 (by decide))
  · exact vk_R.of (hts _ (tin3 (List.mem_of_getElem? (i := 105) (by decide +kernel)))) (hev 5 (by decide))
  · exact vk_R.of (hts _ (tin3 (List.mem_of_getElem? (i := 106) (by decide +kernel)))) (hev 6 (by decide))
  · exact vk_R.of (hts _ (tin3 (List.mem_of_getElem? (i := 107) (by decide +kernel)))) (hev 7 (by decide))
theorem sx_tx (hts : ∀ w ∈ lw_tbl, w.before args s = true) (hn : ∀ w ∈ nwL, w.before args s = true) {adK : Nat → Nat} (hev : ∀ i : Nat, i < 16 → (sxTm i).eval args s none [] s = some (.ref (adK i))) {A : Nat → Prop} (hA : ∀ a : Nat, a < s.heap.size → ¬ A a) : ∃ tA : Nat, va_Z "JokePumpLaw" "TEXTS" "[Ljava/lang/String;" (.ref tA) A s s.heap ∧ va_T (.object "java/lang/String") tA 8 (fun j => .ref (adK (8 + j))) A s s.heap := by
  have hel : ∀ j : Nat, j < 8 → (Term.elem (Term.static "JokePumpLaw" "TEXTS" "[Ljava/lang/String;") (.int (Int32.ofNat j))).eval args s none [] s = some (.ref (adK (8 + j))) := by
    intro j hj
    rcases (show j = 0 ∨ j = 1 ∨ j = 2 ∨ j = 3 ∨ j = 4 ∨ j = 5 ∨ j = 6 ∨ j = 7 by omega) with rfl | rfl | rfl | rfl | rfl | rfl | rfl | rfl
    · exact va_eqv (u := sxTm 8) (hn _ (List.mem_of_getElem? (i := 7) (by decide +kernel))) (hev 8 (by decide))
    · exact va_eqv (u := sxTm 9) (hn _ (List.mem_of_getElem? (i := 8) (by decide +kernel))) (hev 9 (by decide))
    · exact va_eqv (u := sxTm 10) (hn _ (List.mem_of_getElem? (i := 9) (by decide +kernel))) (hev 10 (by decide))
    · exact va_eqv (u := sxTm 11) (hn _ (List.mem_of_getElem? (i := 10) (by decide +kernel))) (hev 11 (by decide))
    · exact va_eqv (u := sxTm 12) (hn _ (List.mem_of_getElem? (i := 11) (by decide +kernel))) (hev 12 (by decide))
    · exact va_eqv (u := sxTm 13) (hn _ (List.mem_of_getElem? (i := 12) (by decide +kernel))) (hev 13 (by decide))
    · exact va_eqv (u := sxTm 14) (hn _ (List.mem_of_getElem? (i := 13) (by decide +kernel))) (hev 14 (by decide))
    · exact va_eqv (u := sxTm 15) (hn _ (List.mem_of_getElem? (i := 14) (by decide +kernel))) (hev 15 (by decide))
  obtain ⟨tA, h1, h2⟩ := va_Tof (tm := (Term.static "JokePumpLaw" "TEXTS" "[Ljava/lang/String;")) (ty := .object "java/lang/String") (N := 8) (f := fun j => .ref (adK (8 + j))) (A := A) (by decide) (hn _ (List.mem_of_getElem? (i := 5) (by decide +kernel))) (va_eqt (hn _ (List.mem_of_getElem? (i := 6) (by decide +kernel)))) hel hA
  exact ⟨tA, va_Zof (hts _ (tin3 (List.mem_of_getElem? (i := 25) (by decide +kernel)))) (hts _ (tin1 (List.mem_of_getElem? (i := 0) (by decide +kernel)))) h1 hA, h2⟩
theorem sx_sc {b L : Nat} {xs : Nat → Int32} (hX : va_X b L xs s s.heap) (hL : L ≤ 260) (hb : b < s.heap.size) {A : Nat → Prop} (hA : ∀ a : Nat, a < s.heap.size → ¬ A a) : va_T .int b L (fun j => .int (nI ((xs j).toUInt32.toNat))) A s s.heap := by
  obtain ⟨scr, h1, h2, h3, h4, h5⟩ := hX
  refine ⟨scr, h1, h2, h3, by omega, by rw [h4], fun j hj => ?_, hA b hb⟩
  rw [h5 j hj]
  show some (Value.int (xs j)) = some (Value.int (nI (xs j).toUInt32.toNat))
  rw [show nI (xs j).toUInt32.toNat = (UInt32.ofNat (xs j).toUInt32.toNat).toInt32 from rfl, UInt32.ofNat_toNat]
  rfl
theorem nw_at (hts : ∀ w ∈ lw_tbl, w.before args s = true) : NwX s := by
  intro w hw
  obtain ⟨h0, h2⟩ := List.mem_filter.mp hw
  have h1 := hts w h0
  cases w <;> first | exact va_Nw.of rfl h1 | cases h2
theorem vkS_cong {len : List Nat} {byt : List (List Int32)} {k1 k2 v1 v2 : Nat → Nat} {A : Nat → Prop} {U : State} {H : Heap} (h : vk_S 16 len byt k1 v1 A U H) (ek : ∀ i, i < 16 → k2 i = k1 i) (ev : ∀ i, i < 16 → v2 i = v1 i) : vk_S 16 len byt k2 v2 A U H :=
  ⟨fun i hi => by rw [ek i hi, ev i hi]; exact h.1 i hi, fun i j hi hj e => h.2 i j hi hj (by rw [← ek i hi, ← ek j hj]; exact e)⟩
theorem mx_at (hts : ∀ w ∈ lw_tbl, w.before args s = true) (hn : ∀ w ∈ nwL, w.before args s = true) {b L : Nat} {xs : Nat → Int32} (hX : va_X b L xs s s.heap) (hL : L ≤ 260) (hb : b < s.heap.size) : ∃ g : gT, g.2.2.2.2.2.1 100 = b ∧ ∀ ad : Nat → Nat, Mx g 0 ad (fun q : Nat => s.heap.size ≤ q) s := by
  have hg : ∀ w ∈ lw_g, w.before args s = true := fun w hw => hts w (lw_g_in w hw)
  obtain ⟨c0, i0, k0⟩ := u_known (C := RX0) (T := TX0) (N := 3) (n := 3) hg ly_X0 (hts _ (tin1 (List.mem_of_getElem? (i := 165) (by decide +kernel))))
  obtain ⟨c1, i1, k1⟩ := u_known (C := RX1) (T := TX1) (N := 6) (n := 6) hg ly_X1 (hts _ (tin1 (List.mem_of_getElem? (i := 31) (by decide +kernel))))
  obtain ⟨c2, i2, k2⟩ := u_known (C := RX2) (T := TX2) (N := 4) (n := 4) hg ly_X2 (hts _ (tin1 (List.mem_of_getElem? (i := 201) (by decide +kernel))))
  obtain ⟨c3, i3, k3⟩ := u_known (C := RX3) (T := TX3) (N := 1) (n := 1) hg ly_X3 (hts _ (tin1 (List.mem_of_getElem? (i := 37) (by decide +kernel))))
  obtain ⟨c4, i4, k4⟩ := u_known (C := RX4) (T := TX4) (N := 12) (n := 12) hg ly_X4 (hts _ (tin1 (List.mem_of_getElem? (i := 25) (by decide +kernel))))
  obtain ⟨c5, i5, k5⟩ := u_known (C := RX5) (T := TX5) (N := 2) (n := 2) hg ly_X5 (hts _ (tin1 (List.mem_of_getElem? (i := 185) (by decide +kernel))))
  obtain ⟨c6, i6, k6⟩ := u_known (C := RX6) (T := TX6) (N := 6) (n := 6) hg ly_X6 (hts _ (tin1 (List.mem_of_getElem? (i := 77) (by decide +kernel))))
  obtain ⟨c7, i7, k7⟩ := u_known (C := RX7) (T := TX7) (N := 12) (n := 12) hg ly_X7 (hts _ (tin1 (List.mem_of_getElem? (i := 17) (by decide +kernel))))
  obtain ⟨dC, dI, hKc⟩ : ∃ (dC : Nat → ClassId) (dI : Nat → Nat → Nat), ∀ (k : Nat) (q : vw_C), vwCl[k]? = some q → u_Kn s q.1 q.2.1 q.2.2 (dC k) (dI k) := by
    refine ⟨fun k => match k with | 0 => c0 | 1 => c1 | 2 => c2 | 3 => c3 | 4 => c4 | 5 => c5 | 6 => c6 | _ => c7, fun k => match k with | 0 => i0 | 1 => i1 | 2 => i2 | 3 => i3 | 4 => i4 | 5 => i5 | 6 => i6 | _ => i7, ?_⟩
    intro k q hq
    match k, hq with
    | 0, hq => cases hq; exact k0
    | 1, hq => cases hq; exact k1
    | 2, hq => cases hq; exact k2
    | 3, hq => cases hq; exact k3
    | 4, hq => cases hq; exact k4
    | 5, hq => cases hq; exact k5
    | 6, hq => cases hq; exact k6
    | 7, hq => cases hq; exact k7
    | k + 8, hq => simp [vwCl] at hq
  obtain ⟨cI, aI, fI⟩ := arr_at (ty := .int) (hts _ (tin1 (List.mem_of_getElem? (i := 46) (by decide +kernel))))
  obtain ⟨cF, aF, fF⟩ := arr_at (ty := .float) (hts _ (tin1 (List.mem_of_getElem? (i := 108) (by decide +kernel))))
  obtain ⟨cC, aC, fC⟩ := arr_at (ty := .char) (hts _ (tin1 (List.mem_of_getElem? (i := 199) (by decide +kernel))))
  obtain ⟨comp, cQ, kQ, o1, o2, o3, o4, o5⟩ := Cond.arrayOver_spec (hts (Cond.arrayOver (.object RX4)) (tin1 (List.mem_of_getElem? (i := 171) (by decide +kernel))))
  have hA : ∀ a : Nat, a < s.heap.size → ¬ (fun q : Nat => s.heap.size ≤ q) a := fun a h => Nat.not_le.mpr h
  obtain ⟨adK, adV, s1, h2⟩ := vk_Sof (args := args) (tm := sxTm) (len := sxLen) (byt := sxByt) (A := fun q : Nat => s.heap.size ≤ q) (N := 16) (fun i hi => by
    rcases (show i = 0 ∨ i = 1 ∨ i = 2 ∨ i = 3 ∨ i = 4 ∨ i = 5 ∨ i = 6 ∨ i = 7 ∨ i = 8 ∨ i = 9 ∨ i = 10 ∨ i = 11 ∨ i = 12 ∨ i = 13 ∨ i = 14 ∨ i = 15 by omega) with rfl | rfl | rfl | rfl | rfl | rfl | rfl | rfl | rfl | rfl | rfl | rfl | rfl | rfl | rfl | rfl <;> decide) (sx_ex hn) (sx_co hn) (sx_ar hn) (sx_lg hn) (sx_el hn) (sx_ne hn) hA
  obtain ⟨tA, t1, t2⟩ := sx_tx hts hn (adK := fun i => if i = 100 then b else if i = 101 then L else adK i) (fun i hi => by show (sxTm i).eval args s none [] s = some (Value.ref (if i = 100 then b else if i = 101 then L else adK i)); rw [if_neg (show ¬ i = 100 by omega), if_neg (show ¬ i = 101 by omega)]; exact h2 i hi) hA
  refine ⟨((dC, dI), cI, cF, cC, cQ, fun i => if i = 100 then b else if i = 101 then L else adK i, fun i => if 1000 ≤ i then (xs (i - 1000)).toUInt32.toNat else adV i), rfl, fun ad => ⟨⟨hKc, fun k q hq => ?_⟩, fun i j hi => absurd hi (Nat.not_lt_zero i), fun i hi => absurd hi (Nat.not_lt_zero i), fun q h => h, nw_at hts, vkS_cong s1 (fun i hi => (if_neg (show ¬ i = 100 by omega)).trans (if_neg (show ¬ i = 101 by omega))) (fun i hi => if_neg (show ¬ 1000 ≤ i by omega)), sx_rf hts (fun i hi => by show (sxTm i).eval args s none [] s = some (Value.ref (if i = 100 then b else if i = 101 then L else adK i)); rw [if_neg (show ¬ i = 100 by omega), if_neg (show ¬ i = 101 by omega)]; exact h2 i hi), va_Zof (hts _ (tin3 (List.mem_of_getElem? (i := 38) (by decide +kernel)))) (hts _ (tin1 (List.mem_of_getElem? (i := 12) (by decide +kernel)))) (va_eqi (hn _ (List.mem_of_getElem? (i := 15) (by decide +kernel)))) hA, va_Zqof (hts _ (tin3 (List.mem_of_getElem? (i := 54) (by decide +kernel)))) (hts _ (tin1 (List.mem_of_getElem? (i := 14) (by decide +kernel)))) (hn _ (List.mem_of_getElem? (i := 16) (by decide +kernel))) hA, ?_, tA, t1, t2⟩⟩
  · match k, hq with
    | 0, hq => cases hq; exact ⟨aI, fI⟩
    | 1, hq => cases hq; exact ⟨aF, fF⟩
    | 2, hq => cases hq; exact ⟨aC, fC⟩
    | 3, hq => cases hq; exact ⟨fun N z => ⟨fun k h => (by cases h), kQ, o3, comp, o4⟩, kQ, comp, o3, o4, o1, o5⟩
    | k + 4, hq => simp [gTy] at hq
  · have hsc := sx_sc hX hL hb (A := fun q : Nat => s.heap.size ≤ q) hA
    have e : (fun j => Value.int (nI ((fun i => if 1000 ≤ i then (xs (i - 1000)).toUInt32.toNat else adV i) (1000 + j)))) = (fun j => Value.int (nI ((xs j).toUInt32.toNat))) := by
      funext j
      show Value.int (nI (if 1000 ≤ 1000 + j then (xs (1000 + j - 1000)).toUInt32.toNat else adV (1000 + j))) = _
      rw [if_pos (by omega), show 1000 + j - 1000 = j by omega]
    show va_T .int b L (fun j => Value.int (nI ((fun i => if 1000 ≤ i then (xs (i - 1000)).toUInt32.toNat else adV i) (1000 + j)))) (fun q : Nat => s.heap.size ≤ q) s s.heap
    rw [e]
    exact hsc
end START0
theorem inv_0 : Iva stX0 := by
  refine ⟨⟨Nat.zero_le 12, fun k hk => absurd hk (Nat.not_lt_zero k), fun k i hk => absurd hk (Nat.not_lt_zero k), fun k i hk => absurd hk (Nat.not_lt_zero k), fun w hw => Nat.zero_le 6, fun i hi => absurd hi (Nat.not_lt_zero i), rfl, fun s hs => Or.inl rfl, ?_, fun k => ⟨by show 1 ≤ 2; omega, by show 2 ≤ 5; omega⟩, by decide, by decide, by decide, by decide, by decide, by decide⟩, rfl⟩
  show cnt (fun s => decide (nI 0 = nI 1)) 64 = 0
  have e : ∀ n, cnt (fun s => decide (nI 0 = nI 1)) n = 0 := by
    intro n
    induction n with
    | zero => rfl
    | succ n ih => rw [cnt_f (by decide), ih]
  exact e 64
