/-! the law's start and its loop -/
def nwL : List Cond := flatC (Cond.and given_1 narrow_1)
abbrev sxTm : Nat → Term := fun i => Term.string RX2 (81 + 2 * i)
section START0
variable {s : State} {args : Array Value}
theorem sx_ex (hn : ∀ w ∈ nwL, w.before args s = true) : ∀ i : Nat, i < 8 → (Cond.exactly (sxTm i) "java/lang/String").before args s = true := by
  intro i hi
  rcases (show i = 0 ∨ i = 1 ∨ i = 2 ∨ i = 3 ∨ i = 4 ∨ i = 5 ∨ i = 6 ∨ i = 7 by omega) with rfl | rfl | rfl | rfl | rfl | rfl | rfl | rfl
  · exact hn _ (List.mem_of_getElem? (i := 9) (by decide +kernel))
  · exact hn _ (List.mem_of_getElem? (i := 25) (by decide +kernel))
  · exact hn _ (List.mem_of_getElem? (i := 37) (by decide +kernel))
  · exact hn _ (List.mem_of_getElem? (i := 49) (by decide +kernel))
  · exact hn _ (List.mem_of_getElem? (i := 63) (by decide +kernel))
  · exact hn _ (List.mem_of_getElem? (i := 79) (by decide +kernel))
  · exact hn _ (List.mem_of_getElem? (i := 98) (by decide +kernel))
  · exact hn _ (List.mem_of_getElem? (i := 112) (by decide +kernel))
theorem sx_co (hn : ∀ w ∈ nwL, w.before args s = true) : ∀ i : Nat, i < 8 → (Cond.eq (.field (sxTm i) "java/lang/String" "coder" "B") (.int 0)).before args s = true := by
  intro i hi
  rcases (show i = 0 ∨ i = 1 ∨ i = 2 ∨ i = 3 ∨ i = 4 ∨ i = 5 ∨ i = 6 ∨ i = 7 by omega) with rfl | rfl | rfl | rfl | rfl | rfl | rfl | rfl
  · exact hn _ (List.mem_of_getElem? (i := 10) (by decide +kernel))
  · exact hn _ (List.mem_of_getElem? (i := 26) (by decide +kernel))
  · exact hn _ (List.mem_of_getElem? (i := 38) (by decide +kernel))
  · exact hn _ (List.mem_of_getElem? (i := 50) (by decide +kernel))
  · exact hn _ (List.mem_of_getElem? (i := 64) (by decide +kernel))
  · exact hn _ (List.mem_of_getElem? (i := 80) (by decide +kernel))
  · exact hn _ (List.mem_of_getElem? (i := 99) (by decide +kernel))
  · exact hn _ (List.mem_of_getElem? (i := 113) (by decide +kernel))
theorem sx_ar (hn : ∀ w ∈ nwL, w.before args s = true) : ∀ i : Nat, i < 8 → (Cond.arrayOf (.field (sxTm i) "java/lang/String" "value" "[B") .byte).before args s = true := by
  intro i hi
  rcases (show i = 0 ∨ i = 1 ∨ i = 2 ∨ i = 3 ∨ i = 4 ∨ i = 5 ∨ i = 6 ∨ i = 7 by omega) with rfl | rfl | rfl | rfl | rfl | rfl | rfl | rfl
  · exact hn _ (List.mem_of_getElem? (i := 11) (by decide +kernel))
  · exact hn _ (List.mem_of_getElem? (i := 27) (by decide +kernel))
  · exact hn _ (List.mem_of_getElem? (i := 39) (by decide +kernel))
  · exact hn _ (List.mem_of_getElem? (i := 51) (by decide +kernel))
  · exact hn _ (List.mem_of_getElem? (i := 65) (by decide +kernel))
  · exact hn _ (List.mem_of_getElem? (i := 81) (by decide +kernel))
  · exact hn _ (List.mem_of_getElem? (i := 100) (by decide +kernel))
  · exact hn _ (List.mem_of_getElem? (i := 114) (by decide +kernel))
theorem sx_lg (hn : ∀ w ∈ nwL, w.before args s = true) : ∀ i : Nat, i < 8 → (Cond.eq (.length (.field (sxTm i) "java/lang/String" "value" "[B")) (.int (Int32.ofNat (sxLen.getD i 0)))).before args s = true := by
  intro i hi
  rcases (show i = 0 ∨ i = 1 ∨ i = 2 ∨ i = 3 ∨ i = 4 ∨ i = 5 ∨ i = 6 ∨ i = 7 by omega) with rfl | rfl | rfl | rfl | rfl | rfl | rfl | rfl
  · exact hn _ (List.mem_of_getElem? (i := 12) (by decide +kernel))
  · exact hn _ (List.mem_of_getElem? (i := 28) (by decide +kernel))
  · exact hn _ (List.mem_of_getElem? (i := 40) (by decide +kernel))
  · exact hn _ (List.mem_of_getElem? (i := 52) (by decide +kernel))
  · exact hn _ (List.mem_of_getElem? (i := 66) (by decide +kernel))
  · exact hn _ (List.mem_of_getElem? (i := 82) (by decide +kernel))
  · exact hn _ (List.mem_of_getElem? (i := 101) (by decide +kernel))
  · exact hn _ (List.mem_of_getElem? (i := 115) (by decide +kernel))
theorem sx_el (hn : ∀ w ∈ nwL, w.before args s = true) : ∀ i : Nat, i < 8 → ∀ j : Nat, j < sxLen.getD i 0 → (Cond.eq (.elem (.field (sxTm i) "java/lang/String" "value" "[B") (.int (Int32.ofNat j))) (.int ((sxByt.getD i []).getD j 0))).before args s = true := by
  intro i hi j hj
  rcases (show i = 0 ∨ i = 1 ∨ i = 2 ∨ i = 3 ∨ i = 4 ∨ i = 5 ∨ i = 6 ∨ i = 7 by omega) with rfl | rfl | rfl | rfl | rfl | rfl | rfl | rfl
  · have hj : j < 12 := hj
    rcases (show j = 0 ∨ j = 1 ∨ j = 2 ∨ j = 3 ∨ j = 4 ∨ j = 5 ∨ j = 6 ∨ j = 7 ∨ j = 8 ∨ j = 9 ∨ j = 10 ∨ j = 11 by omega) with rfl | rfl | rfl | rfl | rfl | rfl | rfl | rfl | rfl | rfl | rfl | rfl
    · exact hn _ (List.mem_of_getElem? (i := 13) (by decide +kernel))
    · exact hn _ (List.mem_of_getElem? (i := 14) (by decide +kernel))
    · exact hn _ (List.mem_of_getElem? (i := 15) (by decide +kernel))
    · exact hn _ (List.mem_of_getElem? (i := 16) (by decide +kernel))
    · exact hn _ (List.mem_of_getElem? (i := 17) (by decide +kernel))
    · exact hn _ (List.mem_of_getElem? (i := 18) (by decide +kernel))
    · exact hn _ (List.mem_of_getElem? (i := 19) (by decide +kernel))
    · exact hn _ (List.mem_of_getElem? (i := 20) (by decide +kernel))
    · exact hn _ (List.mem_of_getElem? (i := 21) (by decide +kernel))
    · exact hn _ (List.mem_of_getElem? (i := 22) (by decide +kernel))
    · exact hn _ (List.mem_of_getElem? (i := 23) (by decide +kernel))
    · exact hn _ (List.mem_of_getElem? (i := 24) (by decide +kernel))
  · have hj : j < 7 := hj
    rcases (show j = 0 ∨ j = 1 ∨ j = 2 ∨ j = 3 ∨ j = 4 ∨ j = 5 ∨ j = 6 by omega) with rfl | rfl | rfl | rfl | rfl | rfl | rfl
    · exact hn _ (List.mem_of_getElem? (i := 29) (by decide +kernel))
    · exact hn _ (List.mem_of_getElem? (i := 30) (by decide +kernel))
    · exact hn _ (List.mem_of_getElem? (i := 31) (by decide +kernel))
    · exact hn _ (List.mem_of_getElem? (i := 32) (by decide +kernel))
    · exact hn _ (List.mem_of_getElem? (i := 33) (by decide +kernel))
    · exact hn _ (List.mem_of_getElem? (i := 34) (by decide +kernel))
    · exact hn _ (List.mem_of_getElem? (i := 35) (by decide +kernel))
  · have hj : j < 6 := hj
    rcases (show j = 0 ∨ j = 1 ∨ j = 2 ∨ j = 3 ∨ j = 4 ∨ j = 5 by omega) with rfl | rfl | rfl | rfl | rfl | rfl
    · exact hn _ (List.mem_of_getElem? (i := 41) (by decide +kernel))
    · exact hn _ (List.mem_of_getElem? (i := 42) (by decide +kernel))
    · exact hn _ (List.mem_of_getElem? (i := 43) (by decide +kernel))
    · exact hn _ (List.mem_of_getElem? (i := 44) (by decide +kernel))
    · exact hn _ (List.mem_of_getElem? (i := 45) (by decide +kernel))
    · exact hn _ (List.mem_of_getElem? (i := 46) (by decide +kernel))
  · have hj : j < 7 := hj
    rcases (show j = 0 ∨ j = 1 ∨ j = 2 ∨ j = 3 ∨ j = 4 ∨ j = 5 ∨ j = 6 by omega) with rfl | rfl | rfl | rfl | rfl | rfl | rfl
    · exact hn _ (List.mem_of_getElem? (i := 53) (by decide +kernel))
    · exact hn _ (List.mem_of_getElem? (i := 54) (by decide +kernel))
    · exact hn _ (List.mem_of_getElem? (i := 55) (by decide +kernel))
    · exact hn _ (List.mem_of_getElem? (i := 56) (by decide +kernel))
    · exact hn _ (List.mem_of_getElem? (i := 57) (by decide +kernel))
    · exact hn _ (List.mem_of_getElem? (i := 58) (by decide +kernel))
    · exact hn _ (List.mem_of_getElem? (i := 59) (by decide +kernel))
  · have hj : j < 8 := hj
    rcases (show j = 0 ∨ j = 1 ∨ j = 2 ∨ j = 3 ∨ j = 4 ∨ j = 5 ∨ j = 6 ∨ j = 7 by omega) with rfl | rfl | rfl | rfl | rfl | rfl | rfl | rfl
    · exact hn _ (List.mem_of_getElem? (i := 67) (by decide +kernel))
    · exact hn _ (List.mem_of_getElem? (i := 68) (by decide +kernel))
    · exact hn _ (List.mem_of_getElem? (i := 69) (by decide +kernel))
    · exact hn _ (List.mem_of_getElem? (i := 70) (by decide +kernel))
    · exact hn _ (List.mem_of_getElem? (i := 71) (by decide +kernel))
    · exact hn _ (List.mem_of_getElem? (i := 72) (by decide +kernel))
    · exact hn _ (List.mem_of_getElem? (i := 73) (by decide +kernel))
    · exact hn _ (List.mem_of_getElem? (i := 74) (by decide +kernel))
  · have hj : j < 10 := hj
    rcases (show j = 0 ∨ j = 1 ∨ j = 2 ∨ j = 3 ∨ j = 4 ∨ j = 5 ∨ j = 6 ∨ j = 7 ∨ j = 8 ∨ j = 9 by omega) with rfl | rfl | rfl | rfl | rfl | rfl | rfl | rfl | rfl | rfl
    · exact hn _ (List.mem_of_getElem? (i := 83) (by decide +kernel))
    · exact hn _ (List.mem_of_getElem? (i := 84) (by decide +kernel))
    · exact hn _ (List.mem_of_getElem? (i := 85) (by decide +kernel))
    · exact hn _ (List.mem_of_getElem? (i := 86) (by decide +kernel))
    · exact hn _ (List.mem_of_getElem? (i := 87) (by decide +kernel))
    · exact hn _ (List.mem_of_getElem? (i := 88) (by decide +kernel))
    · exact hn _ (List.mem_of_getElem? (i := 89) (by decide +kernel))
    · exact hn _ (List.mem_of_getElem? (i := 90) (by decide +kernel))
    · exact hn _ (List.mem_of_getElem? (i := 91) (by decide +kernel))
    · exact hn _ (List.mem_of_getElem? (i := 92) (by decide +kernel))
  · have hj : j < 4 := hj
    rcases (show j = 0 ∨ j = 1 ∨ j = 2 ∨ j = 3 by omega) with rfl | rfl | rfl | rfl
    · exact hn _ (List.mem_of_getElem? (i := 102) (by decide +kernel))
    · exact hn _ (List.mem_of_getElem? (i := 103) (by decide +kernel))
    · exact hn _ (List.mem_of_getElem? (i := 104) (by decide +kernel))
    · exact hn _ (List.mem_of_getElem? (i := 105) (by decide +kernel))
  · have hj : j < 6 := hj
    rcases (show j = 0 ∨ j = 1 ∨ j = 2 ∨ j = 3 ∨ j = 4 ∨ j = 5 by omega) with rfl | rfl | rfl | rfl | rfl | rfl
    · exact hn _ (List.mem_of_getElem? (i := 116) (by decide +kernel))
    · exact hn _ (List.mem_of_getElem? (i := 117) (by decide +kernel))
    · exact hn _ (List.mem_of_getElem? (i := 118) (by decide +kernel))
    · exact hn _ (List.mem_of_getElem? (i := 119) (by decide +kernel))
    · exact hn _ (List.mem_of_getElem? (i := 120) (by decide +kernel))
    · exact hn _ (List.mem_of_getElem? (i := 121) (by decide +kernel))
theorem sx_ne (hn : ∀ w ∈ nwL, w.before args s = true) : ∀ i j : Nat, i < 8 → j < 8 → i ≠ j → (Cond.not (Cond.eq (sxTm i) (sxTm j))).before args s = true ∨ (Cond.not (Cond.eq (sxTm j) (sxTm i))).before args s = true := by
  intro i j hi hj hij
  rcases (show i = 0 ∨ i = 1 ∨ i = 2 ∨ i = 3 ∨ i = 4 ∨ i = 5 ∨ i = 6 ∨ i = 7 by omega) with rfl | rfl | rfl | rfl | rfl | rfl | rfl | rfl
  · rcases (show j = 0 ∨ j = 1 ∨ j = 2 ∨ j = 3 ∨ j = 4 ∨ j = 5 ∨ j = 6 ∨ j = 7 by omega) with rfl | rfl | rfl | rfl | rfl | rfl | rfl | rfl
    · exact absurd rfl hij
    · exact Or.inl (hn _ (List.mem_of_getElem? (i := 36) (by decide +kernel)))
    · exact Or.inl (hn _ (List.mem_of_getElem? (i := 47) (by decide +kernel)))
    · exact Or.inl (hn _ (List.mem_of_getElem? (i := 60) (by decide +kernel)))
    · exact Or.inl (hn _ (List.mem_of_getElem? (i := 75) (by decide +kernel)))
    · exact Or.inl (hn _ (List.mem_of_getElem? (i := 93) (by decide +kernel)))
    · exact Or.inl (hn _ (List.mem_of_getElem? (i := 106) (by decide +kernel)))
    · exact Or.inl (hn _ (List.mem_of_getElem? (i := 122) (by decide +kernel)))
  · rcases (show j = 0 ∨ j = 1 ∨ j = 2 ∨ j = 3 ∨ j = 4 ∨ j = 5 ∨ j = 6 ∨ j = 7 by omega) with rfl | rfl | rfl | rfl | rfl | rfl | rfl | rfl
    · exact Or.inr (hn _ (List.mem_of_getElem? (i := 36) (by decide +kernel)))
    · exact absurd rfl hij
    · exact Or.inl (hn _ (List.mem_of_getElem? (i := 48) (by decide +kernel)))
    · exact Or.inl (hn _ (List.mem_of_getElem? (i := 61) (by decide +kernel)))
    · exact Or.inl (hn _ (List.mem_of_getElem? (i := 76) (by decide +kernel)))
    · exact Or.inl (hn _ (List.mem_of_getElem? (i := 94) (by decide +kernel)))
    · exact Or.inl (hn _ (List.mem_of_getElem? (i := 107) (by decide +kernel)))
    · exact Or.inl (hn _ (List.mem_of_getElem? (i := 123) (by decide +kernel)))
  · rcases (show j = 0 ∨ j = 1 ∨ j = 2 ∨ j = 3 ∨ j = 4 ∨ j = 5 ∨ j = 6 ∨ j = 7 by omega) with rfl | rfl | rfl | rfl | rfl | rfl | rfl | rfl
    · exact Or.inr (hn _ (List.mem_of_getElem? (i := 47) (by decide +kernel)))
    · exact Or.inr (hn _ (List.mem_of_getElem? (i := 48) (by decide +kernel)))
    · exact absurd rfl hij
    · exact Or.inl (hn _ (List.mem_of_getElem? (i := 62) (by decide +kernel)))
    · exact Or.inl (hn _ (List.mem_of_getElem? (i := 77) (by decide +kernel)))
    · exact Or.inl (hn _ (List.mem_of_getElem? (i := 95) (by decide +kernel)))
    · exact Or.inl (hn _ (List.mem_of_getElem? (i := 108) (by decide +kernel)))
    · exact Or.inl (hn _ (List.mem_of_getElem? (i := 124) (by decide +kernel)))
  · rcases (show j = 0 ∨ j = 1 ∨ j = 2 ∨ j = 3 ∨ j = 4 ∨ j = 5 ∨ j = 6 ∨ j = 7 by omega) with rfl | rfl | rfl | rfl | rfl | rfl | rfl | rfl
    · exact Or.inr (hn _ (List.mem_of_getElem? (i := 60) (by decide +kernel)))
    · exact Or.inr (hn _ (List.mem_of_getElem? (i := 61) (by decide +kernel)))
    · exact Or.inr (hn _ (List.mem_of_getElem? (i := 62) (by decide +kernel)))
    · exact absurd rfl hij
    · exact Or.inl (hn _ (List.mem_of_getElem? (i := 78) (by decide +kernel)))
    · exact Or.inl (hn _ (List.mem_of_getElem? (i := 96) (by decide +kernel)))
    · exact Or.inl (hn _ (List.mem_of_getElem? (i := 109) (by decide +kernel)))
    · exact Or.inl (hn _ (List.mem_of_getElem? (i := 125) (by decide +kernel)))
  · rcases (show j = 0 ∨ j = 1 ∨ j = 2 ∨ j = 3 ∨ j = 4 ∨ j = 5 ∨ j = 6 ∨ j = 7 by omega) with rfl | rfl | rfl | rfl | rfl | rfl | rfl | rfl
    · exact Or.inr (hn _ (List.mem_of_getElem? (i := 75) (by decide +kernel)))
    · exact Or.inr (hn _ (List.mem_of_getElem? (i := 76) (by decide +kernel)))
    · exact Or.inr (hn _ (List.mem_of_getElem? (i := 77) (by decide +kernel)))
    · exact Or.inr (hn _ (List.mem_of_getElem? (i := 78) (by decide +kernel)))
    · exact absurd rfl hij
    · exact Or.inl (hn _ (List.mem_of_getElem? (i := 97) (by decide +kernel)))
    · exact Or.inl (hn _ (List.mem_of_getElem? (i := 110) (by decide +kernel)))
    · exact Or.inl (hn _ (List.mem_of_getElem? (i := 126) (by decide +kernel)))
  · rcases (show j = 0 ∨ j = 1 ∨ j = 2 ∨ j = 3 ∨ j = 4 ∨ j = 5 ∨ j = 6 ∨ j = 7 by omega) with rfl | rfl | rfl | rfl | rfl | rfl | rfl | rfl
    · exact Or.inr (hn _ (List.mem_of_getElem? (i := 93) (by decide +kernel)))
    · exact Or.inr (hn _ (List.mem_of_getElem? (i := 94) (by decide +kernel)))
    · exact Or.inr (hn _ (List.mem_of_getElem? (i := 95) (by decide +kernel)))
    · exact Or.inr (hn _ (List.mem_of_getElem? (i := 96) (by decide +kernel)))
    · exact Or.inr (hn _ (List.mem_of_getElem? (i := 97) (by decide +kernel)))
    · exact absurd rfl hij
    · exact Or.inl (hn _ (List.mem_of_getElem? (i := 111) (by decide +kernel)))
    · exact Or.inl (hn _ (List.mem_of_getElem? (i := 127) (by decide +kernel)))
  · rcases (show j = 0 ∨ j = 1 ∨ j = 2 ∨ j = 3 ∨ j = 4 ∨ j = 5 ∨ j = 6 ∨ j = 7 by omega) with rfl | rfl | rfl | rfl | rfl | rfl | rfl | rfl
    · exact Or.inr (hn _ (List.mem_of_getElem? (i := 106) (by decide +kernel)))
    · exact Or.inr (hn _ (List.mem_of_getElem? (i := 107) (by decide +kernel)))
    · exact Or.inr (hn _ (List.mem_of_getElem? (i := 108) (by decide +kernel)))
    · exact Or.inr (hn _ (List.mem_of_getElem? (i := 109) (by decide +kernel)))
    · exact Or.inr (hn _ (List.mem_of_getElem? (i := 110) (by decide +kernel)))
    · exact Or.inr (hn _ (List.mem_of_getElem? (i := 111) (by decide +kernel)))
    · exact absurd rfl hij
    · exact Or.inl (hn _ (List.mem_of_getElem? (i := 128) (by decide +kernel)))
  · rcases (show j = 0 ∨ j = 1 ∨ j = 2 ∨ j = 3 ∨ j = 4 ∨ j = 5 ∨ j = 6 ∨ j = 7 by omega) with rfl | rfl | rfl | rfl | rfl | rfl | rfl | rfl
    · exact Or.inr (hn _ (List.mem_of_getElem? (i := 122) (by decide +kernel)))
    · exact Or.inr (hn _ (List.mem_of_getElem? (i := 123) (by decide +kernel)))
    · exact Or.inr (hn _ (List.mem_of_getElem? (i := 124) (by decide +kernel)))
    · exact Or.inr (hn _ (List.mem_of_getElem? (i := 125) (by decide +kernel)))
    · exact Or.inr (hn _ (List.mem_of_getElem? (i := 126) (by decide +kernel)))
    · exact Or.inr (hn _ (List.mem_of_getElem? (i := 127) (by decide +kernel)))
    · exact Or.inr (hn _ (List.mem_of_getElem? (i := 128) (by decide +kernel)))
    · exact absurd rfl hij
theorem arr_at {ty : FieldType} (h : (Cond.arrayClass ty).before args s = true) : ∃ cA, ArrOfT s cA ty ∧ s.vm.findClass ("[" ++ ty.toString) = some cA := by
  obtain ⟨cA, kA, comp, h1, h2, h3⟩ := Cond.arrayClass_spec h
  exact ⟨cA, fun n z => ⟨fun k h => (by cases h), kA, h2, comp, h3⟩, h1⟩
theorem sx_rf (hts : ∀ w ∈ lw_tbl, w.before args s = true) {adK : Nat → Nat} (hev : ∀ i : Nat, i < 8 → (sxTm i).eval args s none [] s = some (.ref (adK i))) : ∀ i : Nat, i < 8 → vk_R RX2 (81 + 2 * i) (sxTx i) (adK i) s := by
  intro i hi
  rcases (show i = 0 ∨ i = 1 ∨ i = 2 ∨ i = 3 ∨ i = 4 ∨ i = 5 ∨ i = 6 ∨ i = 7 by omega) with rfl | rfl | rfl | rfl | rfl | rfl | rfl | rfl
  · exact vk_R.of (hts _ (tin2 (List.mem_of_getElem? (i := 224) (by decide +kernel)))) (hev 0 (by decide))
  · exact vk_R.of (hts _ (tin2 (List.mem_of_getElem? (i := 225) (by decide +kernel)))) (hev 1 (by decide))
  · exact vk_R.of (hts _ (tin2 (List.mem_of_getElem? (i := 226) (by decide +kernel)))) (hev 2 (by decide))
  · exact vk_R.of (hts _ (tin2 (List.mem_of_getElem? (i := 227) (by decide +kernel)))) (hev 3 (by decide))
  · exact vk_R.of (hts _ (tin2 (List.mem_of_getElem? (i := 228) (by decide +kernel)))) (hev 4 (by decide))
  · exact vk_R.of (hts _ (tin2 (List.mem_of_getElem? (i := 229) (by decide +kernel)))) (hev 5 (by decide))
  · exact vk_R.of (hts _ (tin2 (List.mem_of_getElem? (i := 230) (by decide +kernel)))) (hev 6 (by decide))
  · exact vk_R.of (hts _ (tin2 (List.mem_of_getElem? (i := 231) (by decide +kernel)))) (hev 7 (by decide))
theorem sx_at (hts : ∀ w ∈ lw_tbl, w.before args s = true) (hn : ∀ w ∈ nwL, w.before args s = true) {A : Nat → Prop} (hA : ∀ a : Nat, a < s.heap.size → ¬ A a) : ∃ adK adV : Nat → Nat, vk_S 8 sxLen sxByt adK adV A s s.heap ∧ (∀ i, i < 8 → vk_R RX2 (81 + 2 * i) (sxTx i) (adK i) s) ∧ va_Z "java/lang/String" "COMPACT_STRINGS" "Z" (.int 1) A s s.heap ∧ va_Zq "jdk/internal/util/Preconditions" "SIOOBE_FORMATTER" "Ljava/util/function/BiFunction;" A s s.heap := by
  obtain ⟨adK, adV, h1, h2⟩ := vk_Sof (args := args) (tm := sxTm) (len := sxLen) (byt := sxByt) (A := A) (N := 8) (fun i hi => by
    rcases (show i = 0 ∨ i = 1 ∨ i = 2 ∨ i = 3 ∨ i = 4 ∨ i = 5 ∨ i = 6 ∨ i = 7 by omega) with rfl | rfl | rfl | rfl | rfl | rfl | rfl | rfl <;> decide) (sx_ex hn) (sx_co hn) (sx_ar hn) (sx_lg hn) (sx_el hn) (sx_ne hn) hA
  exact ⟨adK, adV, h1, sx_rf hts h2, va_Zof (hts _ (tin3 (List.mem_of_getElem? (i := 5) (by decide +kernel)))) (hts _ (tin1 (List.mem_of_getElem? (i := 13) (by decide +kernel)))) (va_eqi (hn _ (List.mem_of_getElem? (i := 4) (by decide +kernel)))) hA, va_Zqof (hts _ (tin3 (List.mem_of_getElem? (i := 21) (by decide +kernel)))) (hts _ (tin1 (List.mem_of_getElem? (i := 15) (by decide +kernel)))) (hn _ (List.mem_of_getElem? (i := 5) (by decide +kernel))) hA⟩
theorem nw_at (hts : ∀ w ∈ lw_tbl, w.before args s = true) : NwX s := by
  intro w hw
  obtain ⟨h0, h2⟩ := List.mem_filter.mp hw
  have h1 := hts w h0
  cases w <;> first | exact va_Nw.of rfl h1 | cases h2
theorem mx_at (hts : ∀ w ∈ lw_tbl, w.before args s = true) (hn : ∀ w ∈ nwL, w.before args s = true) : ∃ g : gT, ∀ ad : Nat → Nat, Mx g 0 ad (fun q : Nat => s.heap.size ≤ q) s := by
  have hg : ∀ w ∈ lw_g, w.before args s = true := fun w hw => hts w (lw_g_in w hw)
  obtain ⟨c0, i0, k0⟩ := u_known (C := RX0) (T := TX0) (N := 3) (n := 3) hg ly_X0 (hg _ q1_166)
  obtain ⟨c1, i1, k1⟩ := u_known (C := RX1) (T := TX1) (N := 6) (n := 6) hg ly_X1 (hg _ q1_32)
  obtain ⟨c2, i2, k2⟩ := u_known (C := RX2) (T := TX2) (N := 4) (n := 4) hg ly_X2 (hg _ q1_202)
  obtain ⟨c3, i3, k3⟩ := u_known (C := RX3) (T := TX3) (N := 1) (n := 1) hg ly_X3 (hg _ q1_38)
  obtain ⟨c4, i4, k4⟩ := u_known (C := RX4) (T := TX4) (N := 12) (n := 12) hg ly_X4 (hg _ q1_26)
  obtain ⟨c5, i5, k5⟩ := u_known (C := RX5) (T := TX5) (N := 2) (n := 2) hg ly_X5 (hg _ q1_186)
  obtain ⟨c6, i6, k6⟩ := u_known (C := RX6) (T := TX6) (N := 6) (n := 6) hg ly_X6 (hg _ q1_78)
  obtain ⟨c7, i7, k7⟩ := u_known (C := RX7) (T := TX7) (N := 12) (n := 12) hg ly_X7 (hg _ q1_18)
  obtain ⟨c8, i8, k8⟩ := u_known (C := RX8) (T := TX8) (N := 23) (n := 23) hg ly_X8 (hg _ q4_66)
  obtain ⟨dC, dI, hKc⟩ : ∃ (dC : Nat → ClassId) (dI : Nat → Nat → Nat), ∀ (k : Nat) (q : vw_C), vwCl[k]? = some q → u_Kn s q.1 q.2.1 q.2.2 (dC k) (dI k) := by
    refine ⟨fun k => match k with | 0 => c0 | 1 => c1 | 2 => c2 | 3 => c3 | 4 => c4 | 5 => c5 | 6 => c6 | 7 => c7 | _ => c8, fun k => match k with | 0 => i0 | 1 => i1 | 2 => i2 | 3 => i3 | 4 => i4 | 5 => i5 | 6 => i6 | 7 => i7 | _ => i8, ?_⟩
    intro k q hq
    match k, hq with
    | 0, hq => cases hq; exact k0
    | 1, hq => cases hq; exact k1
    | 2, hq => cases hq; exact k2
    | 3, hq => cases hq; exact k3
    | 4, hq => cases hq; exact k4
    | 5, hq => cases hq; exact k5
    | 6, hq => cases hq; exact k6
    | 7, hq => cases hq; exact k7
    | 8, hq => cases hq; exact k8
    | k + 9, hq => simp [vwCl] at hq
  obtain ⟨cI, aI, fI⟩ := arr_at (hg _ q1_47)
  obtain ⟨cF, aF, fF⟩ := arr_at (hg _ q1_109)
  obtain ⟨cC, aC, fC⟩ := arr_at (hg _ q1_200)
  obtain ⟨comp, cQ, kQ, o1, o2, o3, o4, o5⟩ := Cond.arrayOver_spec (hts (Cond.arrayOver (.object RX4)) (tin1 (List.mem_of_getElem? (i := 172) (by decide +kernel))))
  obtain ⟨adK, adV, s1, s2, s3, s4⟩ := sx_at hts hn (A := fun q : Nat => s.heap.size ≤ q) (fun a h => Nat.not_le.mpr h)
  refine ⟨((dC, dI), cI, cF, cC, cQ, adK, adV), fun ad => ⟨⟨hKc, fun k q hq => ?_⟩, fun i j hi => absurd hi (Nat.not_lt_zero i), fun i hi => absurd hi (Nat.not_lt_zero i), fun q h => h, nw_at hts, s1, s2, s3, s4⟩⟩
  match k, hq with
  | 0, hq => cases hq; exact ⟨aI, fI⟩
  | 1, hq => cases hq; exact ⟨aF, fF⟩
  | 2, hq => cases hq; exact ⟨aC, fC⟩
  | 3, hq => cases hq; exact ⟨fun N z => ⟨fun k h => (by cases h), kQ, o3, comp, o4⟩, kQ, comp, o3, o4, o1, o5⟩
  | k + 4, hq => simp [gTy] at hq
end START0
theorem inv_0 : Iva stX0 := by
  refine ⟨⟨Nat.zero_le 12, fun k hk => absurd hk (Nat.not_lt_zero k), fun k i hk => absurd hk (Nat.not_lt_zero k), fun k i hk => absurd hk (Nat.not_lt_zero k), fun w hw => Nat.zero_le 6, fun i hi => absurd hi (Nat.not_lt_zero i), rfl, fun s hs => Or.inl rfl, ?_, fun k => ⟨by show 1 ≤ 2; omega, by show 2 ≤ 5; omega⟩, by decide, by decide, by decide, by decide, by decide, by decide⟩, rfl⟩
  show cnt (fun s => decide (nI 0 = nI 1)) 64 = 0
  have e : ∀ n, cnt (fun s => decide (nI 0 = nI 1)) n = 0 := by
    intro n
    induction n with
    | zero => rfl
    | succ n ih => rw [cnt_f (by decide), ih]
  exact e 64
theorem rq_0 : Rq q0X uM0 := ⟨rfl, fun z => absurd rfl z, rfl, fun z => absurd rfl z, rfl, by decide⟩
theorem lsub5 {i Ls : Nat} (hi : i ≤ 2600) (hL : Ls ≤ 2560) (h : ¬ nI Ls - nI 5 < nI i) : i + 5 ≤ Ls := by
  rcases Nat.lt_or_ge Ls 5 with q | q
  · exfalso
    apply h
    have h0 : ¬ nI i < 0 := nI_pos (by omega)
    have e : (nI Ls - nI 5).toInt = (Ls : Int) - 5 := by
      rcases (show Ls = 0 ∨ Ls = 1 ∨ Ls = 2 ∨ Ls = 3 ∨ Ls = 4 by omega) with rfl | rfl | rfl | rfl | rfl <;> decide
    have z : (0 : Int32).toInt = 0 := by decide
    rw [ltI] at h0 ⊢
    omega
  · rw [pk_sub q, nI_ltI (by omega) (by omega)] at h
    omega
set_option maxRecDepth 20000 in
theorem law_turn {p : Program} (l : Launch) {e : Env} {s : State} {m : MethodId} {below : List Frame} {meth : Method} {c : Code} {b Ls : Nat} {xs : Nat → Int32} (g : gT) {N : Nat} {ad : Nat → Nat} {F : Nat → va_E} {A : Nat → Prop} {H : Heap} {locs : List Loc} {cells slots : Nat} {Q : State → Prop} {ls : Array Slot} {i : Nat} (X : Kx p m meth c s #[.ref b] code 8 RL ret) (M : Mx g N ad A s) (h : Hx g N ad F A s H locs) (hW : PW g N ad F) (hX : va_X b Ls xs s s.heap) (hb : b < s.heap.size) (hbA : ¬ A b) (hl : lv_has ls 8 [(0, .ref b), (1, .ref (ad 0)), (2, .ref (ad 254)), (3, .int (nI i))]) (hi : i + 5 ≤ Ls) (hLs : Ls ≤ 2560) (hcs : cells ≤ room_1.cells ∧ slots ≤ room_1.slots) (hnext : ∀ (F' : Nat → va_E) (H' : Heap) (locs' : List Loc) (ls' : Array Slot), PW g N ad F' → Hx g N ad F' A s H' locs' → lv_has ls' 8 [(0, .ref b), (1, .ref (ad 0)), (2, .ref (ad 254)), (3, .int (nI i))] → W p l e room_1 s m #[.ref b] below meth c H' locs' cells slots Q (F0 m 1180 ls' [])) : W p l e room_1 s m #[.ref b] below meth c H locs cells slots Q (F0 m 26 ls []) := by
  have kx := X.1.1
  have kb := X.1.2.1
  refine lv_aload_n kx kb dL_law_26 rfl (lv_at hl 0 rfl) ?_
  refine lv_iload_n kx kb dL_law_27 rfl (lv_at hl 3 rfl) ?_
  refine w_sld X h hX hb hbA (show i < Ls by omega) hLs dL_law_28 ?_
  refine lv_bipush (v := nI 63) kx kb dL_law_29 (by decide) ?_
  refine lv_iand kx kb dL_law_31 ?_
  generalize xs i &&& nI 63 = z
  rcases sw_of z 38 (by decide) with ⟨k, hk, hv⟩ | ⟨hsw, hne⟩
  · rcases (show k = 0 ∨ k = 1 ∨ k = 2 ∨ k = 3 ∨ k = 4 ∨ k = 5 ∨ k = 6 ∨ k = 7 ∨ k = 8 ∨ k = 9 ∨ k = 10 ∨ k = 11 ∨ k = 12 ∨ k = 13 ∨ k = 14 ∨ k = 15 ∨ k = 16 ∨ k = 17 ∨ k = 18 ∨ k = 19 ∨ k = 20 ∨ k = 21 ∨ k = 22 ∨ k = 23 ∨ k = 24 ∨ k = 25 ∨ k = 26 ∨ k = 27 ∨ k = 28 ∨ k = 29 ∨ k = 30 ∨ k = 31 ∨ k = 32 ∨ k = 33 ∨ k = 34 ∨ k = 35 ∨ k = 36 ∨ k = 37 by omega) with rfl | rfl | rfl | rfl | rfl | rfl | rfl | rfl | rfl | rfl | rfl | rfl | rfl | rfl | rfl | rfl | rfl | rfl | rfl | rfl | rfl | rfl | rfl | rfl | rfl | rfl | rfl | rfl | rfl | rfl | rfl | rfl | rfl | rfl | rfl | rfl | rfl | rfl
    · rw [hv]
      refine lv_tableIn (tgt := 200) (off := 168) kx kb dL_law_32 (by decide) (by decide) (by decide) (by decide) ?_
      exact law_0 l g X M h hW hX hb hbA hl hi hLs hcs hnext
    · rw [hv]
      refine lv_tableIn (tgt := 253) (off := 221) kx kb dL_law_32 (by decide) (by decide) (by decide) (by decide) ?_
      exact law_1 l g X M h hW hX hb hbA hl hi hLs hcs hnext
    · rw [hv]
      refine lv_tableIn (tgt := 276) (off := 244) kx kb dL_law_32 (by decide) (by decide) (by decide) (by decide) ?_
      exact law_2 l g X M h hW hX hb hbA hl hi hLs hcs hnext
    · rw [hv]
      refine lv_tableIn (tgt := 299) (off := 267) kx kb dL_law_32 (by decide) (by decide) (by decide) (by decide) ?_
      exact law_3 l g X M h hW hX hb hbA hl hi hLs hcs hnext
    · rw [hv]
      refine lv_tableIn (tgt := 322) (off := 290) kx kb dL_law_32 (by decide) (by decide) (by decide) (by decide) ?_
      exact law_4 l g X M h hW hX hb hbA hl hi hLs hcs hnext
    · rw [hv]
      refine lv_tableIn (tgt := 345) (off := 313) kx kb dL_law_32 (by decide) (by decide) (by decide) (by decide) ?_
      exact law_5 l g X M h hW hX hb hbA hl hi hLs hcs hnext
    · rw [hv]
      refine lv_tableIn (tgt := 378) (off := 346) kx kb dL_law_32 (by decide) (by decide) (by decide) (by decide) ?_
      exact law_6 l g X M h hW hX hb hbA hl hi hLs hcs hnext
    · rw [hv]
      refine lv_tableIn (tgt := 401) (off := 369) kx kb dL_law_32 (by decide) (by decide) (by decide) (by decide) ?_
      exact law_7 l g X M h hW hX hb hbA hl hi hLs hcs hnext
    · rw [hv]
      refine lv_tableIn (tgt := 424) (off := 392) kx kb dL_law_32 (by decide) (by decide) (by decide) (by decide) ?_
      exact law_8 l g X M h hW hX hb hbA hl hi hLs hcs hnext
    · rw [hv]
      refine lv_tableIn (tgt := 457) (off := 425) kx kb dL_law_32 (by decide) (by decide) (by decide) (by decide) ?_
      exact law_9 l g X M h hW hX hb hbA hl hi hLs hcs hnext
    · rw [hv]
      refine lv_tableIn (tgt := 490) (off := 458) kx kb dL_law_32 (by decide) (by decide) (by decide) (by decide) ?_
      exact law_10 l g X M h hW hX hb hbA hl hi hLs hcs hnext
    · rw [hv]
      refine lv_tableIn (tgt := 513) (off := 481) kx kb dL_law_32 (by decide) (by decide) (by decide) (by decide) ?_
      exact law_11 l g X M h hW hX hb hbA hl hi hLs hcs hnext
    · rw [hv]
      refine lv_tableIn (tgt := 546) (off := 514) kx kb dL_law_32 (by decide) (by decide) (by decide) (by decide) ?_
      exact law_12 l g X M h hW hX hb hbA hl hi hLs hcs hnext
    · rw [hv]
      refine lv_tableIn (tgt := 589) (off := 557) kx kb dL_law_32 (by decide) (by decide) (by decide) (by decide) ?_
      exact law_13 l g X M h hW hX hb hbA hl hi hLs hcs hnext
    · rw [hv]
      refine lv_tableIn (tgt := 632) (off := 600) kx kb dL_law_32 (by decide) (by decide) (by decide) (by decide) ?_
      exact law_14 l g X M h hW hX hb hbA hl hi hLs hcs hnext
    · rw [hv]
      refine lv_tableIn (tgt := 645) (off := 613) kx kb dL_law_32 (by decide) (by decide) (by decide) (by decide) ?_
      exact law_15 l g X M h hW hX hb hbA hl hi hLs hcs hnext
    · rw [hv]
      refine lv_tableIn (tgt := 678) (off := 646) kx kb dL_law_32 (by decide) (by decide) (by decide) (by decide) ?_
      exact law_16 l g X M h hW hX hb hbA hl hi hLs hcs hnext
    · rw [hv]
      refine lv_tableIn (tgt := 701) (off := 669) kx kb dL_law_32 (by decide) (by decide) (by decide) (by decide) ?_
      exact law_17 l g X M h hW hX hb hbA hl hi hLs hcs hnext
    · rw [hv]
      refine lv_tableIn (tgt := 724) (off := 692) kx kb dL_law_32 (by decide) (by decide) (by decide) (by decide) ?_
      exact law_18 l g X M h hW hX hb hbA hl hi hLs hcs hnext
    · rw [hv]
      refine lv_tableIn (tgt := 747) (off := 715) kx kb dL_law_32 (by decide) (by decide) (by decide) (by decide) ?_
      exact law_19 l g X M h hW hX hb hbA hl hi hLs hcs hnext
    · rw [hv]
      refine lv_tableIn (tgt := 770) (off := 738) kx kb dL_law_32 (by decide) (by decide) (by decide) (by decide) ?_
      exact law_20 l g X M h hW hX hb hbA hl hi hLs hcs hnext
    · rw [hv]
      refine lv_tableIn (tgt := 783) (off := 751) kx kb dL_law_32 (by decide) (by decide) (by decide) (by decide) ?_
      exact law_21 l g X M h hW hX hb hbA hl hi hLs hcs hnext
    · rw [hv]
      refine lv_tableIn (tgt := 806) (off := 774) kx kb dL_law_32 (by decide) (by decide) (by decide) (by decide) ?_
      exact law_22 l g X M h hW hX hb hbA hl hi hLs hcs hnext
    · rw [hv]
      refine lv_tableIn (tgt := 839) (off := 807) kx kb dL_law_32 (by decide) (by decide) (by decide) (by decide) ?_
      exact law_23 l g X M h hW hX hb hbA hl hi hLs hcs hnext
    · rw [hv]
      refine lv_tableIn (tgt := 862) (off := 830) kx kb dL_law_32 (by decide) (by decide) (by decide) (by decide) ?_
      exact law_24 l g X M h hW hX hb hbA hl hi hLs hcs hnext
    · rw [hv]
      refine lv_tableIn (tgt := 875) (off := 843) kx kb dL_law_32 (by decide) (by decide) (by decide) (by decide) ?_
      exact law_25 l g X M h hW hX hb hbA hl hi hLs hcs hnext
    · rw [hv]
      refine lv_tableIn (tgt := 916) (off := 884) kx kb dL_law_32 (by decide) (by decide) (by decide) (by decide) ?_
      exact law_26 l g X M h hW hX hb hbA hl hi hLs hcs hnext
    · rw [hv]
      refine lv_tableIn (tgt := 959) (off := 927) kx kb dL_law_32 (by decide) (by decide) (by decide) (by decide) ?_
      exact law_27 l g X M h hW hX hb hbA hl hi hLs hcs hnext
    · rw [hv]
      refine lv_tableIn (tgt := 982) (off := 950) kx kb dL_law_32 (by decide) (by decide) (by decide) (by decide) ?_
      exact law_28 l g X M h hW hX hb hbA hl hi hLs hcs hnext
    · rw [hv]
      refine lv_tableIn (tgt := 1005) (off := 973) kx kb dL_law_32 (by decide) (by decide) (by decide) (by decide) ?_
      exact law_29 l g X M h hW hX hb hbA hl hi hLs hcs hnext
    · rw [hv]
      refine lv_tableIn (tgt := 1018) (off := 986) kx kb dL_law_32 (by decide) (by decide) (by decide) (by decide) ?_
      exact law_30 l g X M h hW hX hb hbA hl hi hLs hcs hnext
    · rw [hv]
      refine lv_tableIn (tgt := 1041) (off := 1009) kx kb dL_law_32 (by decide) (by decide) (by decide) (by decide) ?_
      exact law_31 l g X M h hW hX hb hbA hl hi hLs hcs hnext
    · rw [hv]
      refine lv_tableIn (tgt := 1066) (off := 1034) kx kb dL_law_32 (by decide) (by decide) (by decide) (by decide) ?_
      exact law_32 l g X M h hW hX hb hbA hl hi hLs hcs hnext
    · rw [hv]
      refine lv_tableIn (tgt := 1079) (off := 1047) kx kb dL_law_32 (by decide) (by decide) (by decide) (by decide) ?_
      exact law_33 l g X M h hW hX hb hbA hl hi hLs hcs hnext
    · rw [hv]
      refine lv_tableIn (tgt := 1092) (off := 1060) kx kb dL_law_32 (by decide) (by decide) (by decide) (by decide) ?_
      exact law_34 l g X M h hW hX hb hbA hl hi hLs hcs hnext
    · rw [hv]
      refine lv_tableIn (tgt := 1141) (off := 1109) kx kb dL_law_32 (by decide) (by decide) (by decide) (by decide) ?_
      exact law_35 l g X M h hW hX hb hbA hl hi hLs hcs hnext
    · rw [hv]
      refine lv_tableIn (tgt := 1154) (off := 1122) kx kb dL_law_32 (by decide) (by decide) (by decide) (by decide) ?_
      exact law_36 l g X M h hW hX hb hbA hl hi hLs hcs hnext
    · rw [hv]
      refine lv_tableIn (tgt := 1167) (off := 1135) kx kb dL_law_32 (by decide) (by decide) (by decide) (by decide) ?_
      exact law_37 l g X M h hW hX hb hbA hl hi hLs hcs hnext
  · refine lv_tableOut (tgt := 1180) kx kb dL_law_32 hsw (by decide) ?_
    exact hnext _ _ _ _ hW h hl
set_option maxRecDepth 20000 in
theorem law_loop {p : Program} (l : Launch) {e : Env} {s : State} {m : MethodId} {below : List Frame} {meth : Method} {c : Code} {b Ls : Nat} {xs : Nat → Int32} (g : gT) {N : Nat} {ad : Nat → Nat} {A : Nat → Prop} {cells slots : Nat} {Q : State → Prop} (X : Kx p m meth c s #[.ref b] code 8 RL ret) (M : Mx g N ad A s) (hX : va_X b Ls xs s s.heap) (hb : b < s.heap.size) (hbA : ¬ A b) (hLs : Ls ≤ 2560) (hcs : cells ≤ room_1.cells ∧ slots ≤ room_1.slots) (hend : ∀ (F : Nat → va_E) (H : Heap) (locs : List Loc) (ls : Array Slot), Hx g N ad F A s H locs → W p l e room_1 s m #[.ref b] below meth c H locs cells slots Q (F0 m 1186 ls [])) : ∀ (n i : Nat) (F : Nat → va_E) (H : Heap) (locs : List Loc) (ls : Array Slot), i ≤ Ls + 5 → Ls + 6 ≤ i + n → Hx g N ad F A s H locs → PW g N ad F → lv_has ls 8 [(0, .ref b), (1, .ref (ad 0)), (2, .ref (ad 254)), (3, .int (nI i))] → W p l e room_1 s m #[.ref b] below meth c H locs cells slots Q (F0 m 18 ls []) := by
  have kx := X.1.1
  have kb := X.1.2.1
  intro n
  induction n with
  | zero => intro i F H locs ls h1 h2; exact absurd h2 (by omega)
  | succ n ih =>
    intro i F H locs ls h1 h2 h hW hl
    refine lv_iload_n kx kb dL_law_18 rfl (lv_at hl 3 rfl) ?_
    refine lv_aload_n kx kb dL_law_19 rfl (lv_at hl 0 rfl) ?_
    refine w_slenL X h hX hb hbA dL_law_20 ?_
    refine lv_iconst (v := nI 5) kx kb dL_law_21 (by decide) ?_
    refine lv_isub kx kb dL_law_22 ?_
    refine lv_icmp_gt (tgt := 1186) kx kb dL_law_23 (by decide) (fun c_1 => ?_) (fun c_1 => ?_)
    · exact hend F H locs ls h
    · have hi := lsub5 (by omega) hLs c_1
      refine law_turn l g X M h hW hX hb hbA hl hi hLs hcs (fun F' H' locs' ls' hW' h' hl' => ?_)
      refine lv_iinc (v := nI (i + 5)) (lv' := [(3, .int (nI (i + 5))), (0, .ref b), (1, .ref (ad 0)), (2, .ref (ad 254))]) kx kb dL_law_1180 hl' (k := 3) rfl (nI_add _ _) (by decide) rfl (fun ls hl => ?_)
      refine lv_goto (tgt := 18) kx kb dL_law_1183 (by decide) ?_
      exact ih (i + 5) F' H' locs' ls (by omega) (by omega) h' hW' (lv_sub hl [1, 2, 3, 0] rfl)
theorem pw_0 {g : gT} {ad2 ad : Nat → Nat} {F2 F : Nat → va_E} (hp : oP0 g 254 ad2 F2 q0X ∧ oSt g 254 ad2 F2 1 stX0 ∧ oSt g 254 ad2 F2 23 stX0 ∧ oHi0 g 254 ad2 F2 ∧ oStrip g 254 ad2 F2 245 0 (fun _ => nI 0) ∧ oStrip g 254 ad2 F2 247 0 (fun _ => nI 0) ∧ oRd0 g 254 ad2 F2 249) (hq : oM g 263 ad F uM0 vM0 ∧ oX g F 255 stX0 ∧ (∃ U, arI g F 256 2192 U) ∧ (∃ S, arI g F 257 274 S) ∧ (∃ D, arI g F 258 274 D) ∧ (∃ A, arI g F 259 274 A) ∧ arC g F 260 60 (fun _ => nI 0) ∧ arC g F 261 60 (fun _ => nI 0) ∧ ∃ nm, arI g F 262 4 nm) (ha : ∀ j, j < 254 → ad j = ad2 j) (hF : ∀ j, j < 254 → F j = F2 j) : PW g 263 ad F := by
  obtain ⟨p1, p2, p3, p4, p5, p6, p7⟩ := hp
  obtain ⟨m1, m2, ⟨U, m3⟩, ⟨S, m4⟩, m5, m6, m7, m8, m9⟩ := hq
  obtain ⟨r1, r2, r3, r4⟩ := p7.gr (show 254 ≤ 263 by omega) ha (fun j g1 g2 => hF j (by omega))
  obtain ⟨t1, t2, t3, t4⟩ := p4.gr (show 254 ≤ 263 by omega) ha (fun j g1 g2 => hF j (by omega))
  have e0 : F 0 = .inr (7, [.ref (ad 1), .ref (ad 23), .int (q0X 0), .ref (ad 45), .ref (ad 245), .ref (ad 247), .ref (ad 249), .int (q0X 1), .int (q0X 2), .int (q0X 3), .int (q0X 4), .int (q0X 5)]) := by
    rw [hF 0 (by omega), p1.2, ha 1 (by omega), ha 23 (by omega), ha 45 (by omega), ha 245 (by omega), ha 247 (by omega), ha 249 (by omega)]
  refine ⟨stX0, stX0, fun _ => stX0, 0, 0, (0, fun _ => nI 0), 0, fun _ => nI 0, q0X, uM0, vM0, ?_, ?_, ?_⟩
  · exact ⟨⟨by omega, e0⟩, p2.gr (by omega) ha (fun j g1 g2 => hF j (by omega)), p3.gr (by omega) ha (fun j g1 g2 => hF j (by omega)), ⟨by omega, t2, t3⟩, fun k hk => ⟨_, t4 k hk⟩, fun i hi => absurd hi (Nat.not_lt_zero i), p5.gr (by omega) ha (fun j g1 g2 => hF j (by omega)), p6.gr (by omega) ha (fun j g1 g2 => hF j (by omega)), 0, 0, _, _, ⟨by omega, r2, r3, r4⟩⟩
  · exact ⟨m1, m2, ⟨U, m3, fun i hi => absurd hi (Nat.not_lt_zero i)⟩, ⟨S, m4, fun z => absurd rfl z⟩, m5, m6, m7, m8, m9, rfl, by decide, rfl, rfl⟩
  · exact ⟨inv_0, fun z => absurd rfl z, Nat.zero_le 12, Nat.zero_le 64, fun i hi => absurd hi (Nat.not_lt_zero i), by omega, by omega, by show 0 ≤ 60; omega, by omega, rq_0⟩
set_option maxRecDepth 40000 in
set_option maxHeartbeats 2000000 in
theorem law_start {p : Program} {e : Env} {s : State} {m : MethodId} {below : List Frame} {meth : Method} {c : Code} (l : Launch) {b L : Nat} {xs : Nat → Int32} (hL : L ≤ 2560) {Q : State → Prop} (X : Kx p m meth c s #[Value.ref b] code 8 RL ret) (hts : ∀ w ∈ lw_tbl, w.before #[Value.ref b] s = true) (hn : ∀ w ∈ nwL, w.before #[Value.ref b] s = true) (hX : va_X b L xs s s.heap) (hbl : b < s.heap.size) (hend : ∀ (H : Heap) (locs : List Loc) (ls : Array Slot), (∀ q ∈ locs, s.heap.size ≤ q.base) → W p l e room_1 s m #[Value.ref b] below meth c H locs 600000 7302250 Q (F0 m 1186 ls [])) : W p l e room_1 s m #[Value.ref b] below meth c s.heap [] 0 0 Q (entryFrame m ([Value.ref b] : List Value).toArray 8) := by
  obtain ⟨g, hM⟩ := mx_at hts hn
  have M := hM (fun _ => 0)
  have kx := X.1.1
  have kb := X.1.2.1
  have hbA : ¬ (fun q : Nat => s.heap.size ≤ q) b := Nat.not_le.mpr hbl
  have h : Hx g 0 (fun _ => 0) (fun _ => .inr (0, [])) (fun q : Nat => s.heap.size ≤ q) s s.heap [] := ⟨fun k q hq => absurd (wl_lt hq).1 (Nat.not_lt_zero k), va_S.rf⟩
  have hAO : va_AO RX4 s := va_AO.of (hts (Cond.arrayOver (.object RX4)) (tin1 (List.mem_of_getElem? (i := 172) (by decide +kernel))))
  have hl := lv_entry ([.ref b]) (n := 8) (Nat.le_of_ble_eq_true rfl)
  rw [lg_entry_eq]
  generalize (lg_sl ([.ref b]) ++ List.replicate (8 - (lg_sl ([.ref b])).length) Slot.unset).toArray = ls at hl ⊢
  have hl : lv_has ls 8 [(0, .ref b)] := hl
  refine w_new X (show 0 + 1 = 1 by omega) M h nw_L_7 ⟨Nat.le_of_ble_eq_true rfl, Nat.le_of_ble_eq_true rfl⟩ dL_law_0 (fun ad1 F1 H M h hag1 hO1 hfr1 => ?_)
  refine lv_dup kx kb dL_law_3 rfl ?_
  refine w_callI X (show 1 + 253 = 254 by omega) M h hAO (i := 0) [] [.ref (ad1 0)] (c_X7_init l g hO1) li_L_9 rfl ⟨Nat.le_of_ble_eq_true rfl, Nat.le_of_ble_eq_true rfl⟩ hl ⟨Nat.le_of_ble_eq_true rfl, Nat.le_of_ble_eq_true rfl⟩ (Nat.le_of_ble_eq_true rfl) rfl dL_law_4 (fun ad2 F2 H locs hp2 M h hag2 => ?_)
  rw [← hag2 0 (by omega)]
  refine lv_astore_n (lv' := [(1, .ref (ad2 0)), (0, .ref b)]) kx kb dL_law_7 rfl hl (by decide) rfl (fun ls hl => ?_)
  refine w_new X (show 254 + 1 = 255 by omega) M h nw_L_10 ⟨Nat.le_of_ble_eq_true rfl, Nat.le_of_ble_eq_true rfl⟩ dL_law_8 (fun ad3 F3 H M h hag3 hO3 hfr3 => ?_)
  rw [← hag3 0 (by omega)] at hl
  refine lv_dup kx kb dL_law_11 rfl ?_
  refine w_callI X (show 255 + 8 = 263 by omega) M h hAO (i := 254) [] [.ref (ad3 254)] (c_X8_init l g hO3) li_L_12 rfl ⟨Nat.le_of_ble_eq_true rfl, Nat.le_of_ble_eq_true rfl⟩ hl ⟨Nat.le_of_ble_eq_true rfl, Nat.le_of_ble_eq_true rfl⟩ (Nat.le_of_ble_eq_true rfl) rfl dL_law_12 (fun ad4 F4 H locs hp4 M h hag4 => ?_)
  rw [← hag4 254 (by omega)]
  rw [← hag4 0 (by omega)] at hl
  refine lv_astore_n (lv' := [(2, .ref (ad4 254)), (1, .ref (ad4 0)), (0, .ref b)]) kx kb dL_law_15 rfl hl (by decide) rfl (fun ls hl => ?_)
  refine lv_iconst (v := nI 0) kx kb dL_law_16 (by decide) ?_
  refine lv_istore_n (lv' := [(3, .int (nI 0)), (2, .ref (ad4 254)), (1, .ref (ad4 0)), (0, .ref b)]) kx kb dL_law_17 rfl hl (by decide) rfl (fun ls hl => ?_)
  refine W.widen (k := 600000) (n := 7302250) (Nat.le_of_ble_eq_true rfl) (Nat.le_of_ble_eq_true rfl) ?_
  have hPW : PW g 263 ad4 F4 := pw_0 hp2.1 hp4.1 (fun j hj => (hag4 j (by omega)).trans (hag3 j hj)) (fun j hj => (hp4.2 j hj).trans (hfr3 j hj))
  exact law_loop l g X M hX hbl hbA hL ⟨Nat.le_of_ble_eq_true rfl, Nat.le_of_ble_eq_true rfl⟩ (fun F H locs ls h => hend H locs ls h.2.2.2) (L + 6) 0 F4 H locs ls (Nat.zero_le _) (by omega) h hPW (lv_sub hl [3, 2, 1, 0] rfl)
