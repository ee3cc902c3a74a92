set_option maxRecDepth 20000 in
theorem c_X7_strokes (l : Launch) (g : gT) {N : Nat} {ad : Nat → Nat} {F : Nat → va_E} (x : SX) (q : Nat → Int32) (hp : oP0 g N ad F q) (hs : oSt g N ad F 1 x) (hn : x.1 ≤ 12) (htn : xtn x ≤ 64) (a : Int32) (hz1 : xz x 1 ≤ 1000) (hz2 : xz x 2 ≤ 1000) (hz3 : xz x 3 ≤ 1000)  : CtI l yX7_strokes cX7_strokes 5 (some .int) 2 42 g N ad F [.ref (ad 0), .int a] (fun r F' => r = (strokesF x a) ∧ F' = F) := by
  refine CtI_of (by decide) (Nat.le_of_ble_eq_true rfl) ?_
  intro p e s m args below meth c A H ls X M h hl
  have kx := X.1.1
  have kb := X.1.2.1
  have hl : lv_has ls 5 [(0, .ref (ad 0)), (1, .int a)] := hl
  have hN0 := hp.1
  have htn2 : x.2.2.1 ≤ 64 := htn
  have z1 : x.2.2.2.2.2.2.2 1 ≤ 1000 := hz1
  have z2 : x.2.2.2.2.2.2.2 2 ≤ 1000 := hz2
  have z3 : x.2.2.2.2.2.2.2 3 ≤ 1000 := hz3
  refine lv_iload_n kx kb dX7_strokes_0 rfl (lv_at hl 1 rfl) ?_
  refine lv_iconst (v := nI 1) kx kb dX7_strokes_1 (by decide) ?_
  refine lv_bipush (v := nI 30) kx kb dX7_strokes_2 (by decide) ?_
  refine w_readSi X M h [.int a, .int (nI 1), .int (nI 30)] [] ((c_X7_isWithin l g a (nI 1) (nI 30))) lk_X7_180 rfl ⟨by decide, by decide⟩ hl ⟨Nat.zero_le _, Nat.zero_le _⟩ (Nat.le_of_ble_eq_true rfl) rfl dX7_strokes_4 (fun H locs h => ?_)
  refine w_if_neb (tgt := 13) kx kb dX7_strokes_7 (by decide) (fun c_1 => ?_) (fun c_1 => ?_)
  · obtain ⟨k, hk0, hk, rfl⟩ := inW_of (by decide) (by decide) c_1
    refine lv_aload_n kx kb dX7_strokes_13 rfl (lv_at hl 0 rfl) ?_
    refine w_get X M h 0 hp.2 (by omega) fl_X7_12 rfl dX7_strokes_14 ?_
    refine w_get X M h 1 hs.2.1 (by omega) fl_X7_226 rfl dX7_strokes_17 ?_
    refine lv_istore_n (lv' := [(2, .int (nI (x.2.2.2.2.2.2.2 2))), (0, .ref (ad 0)), (1, .int (nI k))]) kx kb dX7_strokes_20 rfl hl (by decide) rfl (fun ls hl => ?_)
    refine lv_iconst (v := nI 0) kx kb dX7_strokes_21 (by decide) ?_
    refine lv_istore_n (lv' := [(3, .int (nI 0)), (2, .int (nI (x.2.2.2.2.2.2.2 2))), (0, .ref (ad 0)), (1, .int (nI k))]) kx kb dX7_strokes_22 rfl hl (by decide) rfl (fun ls hl => ?_)
    refine lv_iconst (v := nI 0) kx kb dX7_strokes_23 (by decide) ?_
    refine lv_istore (lv' := [(4, .int (nI 0)), (3, .int (nI 0)), (2, .int (nI (x.2.2.2.2.2.2.2 2))), (0, .ref (ad 0)), (1, .int (nI k))]) kx kb dX7_strokes_24 hl (by decide) rfl (fun ls hl => ?_)
    refine w_loop3 (fun (i : Nat) (rc : Nat) (ct : Nat) => 30 - i) (fun (i : Nat) (rc : Nat) (ct : Nat) H locs ls => Hx g N ad F A s H locs ∧ lv_has ls 5 [(0, .ref (ad 0)), (1, .int (nI k)), (2, .int (nI rc)), (3, .int (nI ct)), (4, .int (nI i))] ∧ (i ≤ 30) ∧ (rc ≤ 1000) ∧ (ct ≤ i) ∧ (stkN (30 - i) rc (x.2.2.2.2.2.2.2 1) k + ct = stkN 30 (x.2.2.2.2.2.2.2 2) (x.2.2.2.2.2.2.2 1) k)) ?_ 0 (x.2.2.2.2.2.2.2 2) 0 ⟨h, lv_sub hl [3, 4, 2, 1, 0] rfl, by omega, by omega, by omega, by simp⟩
    intro i rc ct H locs ls hinv ih
    obtain ⟨h, hl, hi, hrc, hct, hS⟩ := hinv
    refine lv_iload kx kb dX7_strokes_26 (lv_at hl 4 rfl) ?_
    refine lv_bipush (v := nI 30) kx kb dX7_strokes_28 (by decide) ?_
    refine w_cmp_ge (tgt := 59) kx kb (by omega) (by omega) dX7_strokes_30 (by decide) (fun c_2 => ?_) (fun c_2 => ?_)
    · refine lv_iload_n kx kb dX7_strokes_59 rfl (lv_at hl 3 rfl) ?_
      exact w_iret X h ⟨by rw [strokesF, if_pos c_1, cl_n (by omega)]; exact congrArg nI (by rw [← hS]; rcases Nat.eq_zero_or_pos (30 - i) with z | z; rw [z, stkN]; omega; rw [show 30 - i = (30 - i - 1) + 1 by omega, stkN, if_neg (by omega)]; omega), rfl⟩ dX7_strokes_60
    · refine lv_iload_n kx kb dX7_strokes_33 rfl (lv_at hl 2 rfl) ?_
      refine lv_iload_n kx kb dX7_strokes_34 rfl (lv_at hl 1 rfl) ?_
      refine w_cmp_ge (tgt := 59) kx kb (by omega) (by omega) dX7_strokes_35 (by decide) (fun c_3 => ?_) (fun c_3 => ?_)
      · refine lv_iload_n kx kb dX7_strokes_59 rfl (lv_at hl 3 rfl) ?_
        exact w_iret X h ⟨by rw [strokesF, if_pos c_1, cl_n (by omega)]; exact congrArg nI (by rw [← hS]; rcases Nat.eq_zero_or_pos (30 - i) with z | z; rw [z, stkN]; omega; rw [show 30 - i = (30 - i - 1) + 1 by omega, stkN, if_neg (by omega)]; omega), rfl⟩ dX7_strokes_60
      · refine lv_iload_n kx kb dX7_strokes_38 rfl (lv_at hl 2 rfl) ?_
        refine lv_aload_n kx kb dX7_strokes_39 rfl (lv_at hl 0 rfl) ?_
        refine w_get X M h 0 hp.2 (by omega) fl_X7_12 rfl dX7_strokes_40 ?_
        refine w_get X M h 1 hs.2.1 (by omega) fl_X7_229 rfl dX7_strokes_43 ?_
        refine w_readSi X M h [.int (nI rc), .int (nI (x.2.2.2.2.2.2.2 1))] [] ((c_X4_reachBehind l g rc (x.2.2.2.2.2.2.2 1) (by omega))) lk_X7_232 rfl ⟨by decide, by decide⟩ hl ⟨Nat.zero_le _, Nat.zero_le _⟩ (Nat.le_of_ble_eq_true rfl) rfl dX7_strokes_46 (fun H locs h => ?_)
        refine lv_istore_n (lv' := [(2, .int (nI (min 30 (rc + (x.2.2.2.2.2.2.2 1))))), (0, .ref (ad 0)), (1, .int (nI k)), (3, .int (nI ct)), (4, .int (nI i))]) kx kb dX7_strokes_49 rfl hl (by decide) rfl (fun ls hl => ?_)
        refine lv_iinc (v := nI (ct + 1)) (lv' := [(3, .int (nI (ct + 1))), (2, .int (nI (min 30 (rc + (x.2.2.2.2.2.2.2 1))))), (0, .ref (ad 0)), (1, .int (nI k)), (4, .int (nI i))]) kx kb dX7_strokes_50 hl (k := 3) rfl (nI_add _ _) (by decide) rfl (fun ls hl => ?_)
        refine lv_iinc (v := nI (i + 1)) (lv' := [(4, .int (nI (i + 1))), (3, .int (nI (ct + 1))), (2, .int (nI (min 30 (rc + (x.2.2.2.2.2.2.2 1))))), (0, .ref (ad 0)), (1, .int (nI k))]) kx kb dX7_strokes_53 hl (k := 4) rfl (nI_add _ _) (by decide) rfl (fun ls hl => ?_)
        refine lv_goto (tgt := 26) kx kb dX7_strokes_56 (by decide) ?_
        exact ih (i + 1) (min 30 (rc + x.2.2.2.2.2.2.2 1)) (ct + 1) _ _ _ ⟨h, lv_sub hl [3, 4, 2, 1, 0] rfl, by omega, by omega, by omega, by rw [show 30 - i = (30 - (i + 1)) + 1 by omega, stkN, if_pos (by omega)] at hS; omega⟩ (by omega)
  · refine lv_bipush (v := (-2)) kx kb dX7_strokes_10 (by decide) ?_
    exact w_iret X h ⟨by rw [strokesF, if_neg c_1], rfl⟩ dX7_strokes_12
set_option maxRecDepth 20000 in
theorem c_X7_strokesAgain (l : Launch) (g : gT) {N : Nat} {ad : Nat → Nat} {F : Nat → va_E} (x : SX) (q : Nat → Int32) (hp : oP0 g N ad F q) (hs : oSt g N ad F 1 x) (hn : x.1 ≤ 12) (htn : xtn x ≤ 64) (a : Int32) (hz1 : xz x 1 ≤ 1000) (hz2 : xz x 2 ≤ 1000) (hz3 : xz x 3 ≤ 1000)  : CtI l yX7_strokesAgain cX7_strokesAgain 3 (some .int) 1 22 g N ad F [.ref (ad 0), .int a] (fun r F' => r = (strokesAF x a) ∧ F' = F) := by
  refine CtI_of (by decide) (Nat.le_of_ble_eq_true rfl) ?_
  intro p e s m args below meth c A H ls X M h hl
  have kx := X.1.1
  have kb := X.1.2.1
  have hl : lv_has ls 3 [(0, .ref (ad 0)), (1, .int a)] := hl
  have hN0 := hp.1
  have htn2 : x.2.2.1 ≤ 64 := htn
  have z1 : x.2.2.2.2.2.2.2 1 ≤ 1000 := hz1
  have z2 : x.2.2.2.2.2.2.2 2 ≤ 1000 := hz2
  have z3 : x.2.2.2.2.2.2.2 3 ≤ 1000 := hz3
  refine lv_iload_n kx kb dX7_strokesAgain_0 rfl (lv_at hl 1 rfl) ?_
  refine lv_iconst (v := nI 1) kx kb dX7_strokesAgain_1 (by decide) ?_
  refine lv_bipush (v := nI 30) kx kb dX7_strokesAgain_2 (by decide) ?_
  refine w_readSi X M h [.int a, .int (nI 1), .int (nI 30)] [] ((c_X7_isWithin l g a (nI 1) (nI 30))) lk_X7_180 rfl ⟨by decide, by decide⟩ hl ⟨Nat.zero_le _, Nat.zero_le _⟩ (Nat.le_of_ble_eq_true rfl) rfl dX7_strokesAgain_4 (fun H locs h => ?_)
  refine w_if_neb (tgt := 13) kx kb dX7_strokesAgain_7 (by decide) (fun c_1 => ?_) (fun c_1 => ?_)
  · obtain ⟨k, hk0, hk, rfl⟩ := inW_of (by decide) (by decide) c_1
    refine lv_iload_n kx kb dX7_strokesAgain_13 rfl (lv_at hl 1 rfl) ?_
    refine lv_aload_n kx kb dX7_strokesAgain_14 rfl (lv_at hl 0 rfl) ?_
    refine w_get X M h 0 hp.2 (by omega) fl_X7_12 rfl dX7_strokesAgain_15 ?_
    refine w_get X M h 1 hs.2.1 (by omega) fl_X7_226 rfl dX7_strokesAgain_18 ?_
    rcases Nat.lt_or_ge (x.2.2.2.2.2.2.2 2) k with hd | hd
    · refine w_subn kx kb (by omega) dX7_strokesAgain_21 ?_
      refine lv_istore_n (lv' := [(2, .int (nI (k - (x.2.2.2.2.2.2.2 2)))), (0, .ref (ad 0)), (1, .int (nI k))]) kx kb dX7_strokesAgain_22 rfl hl (by decide) rfl (fun ls hl => ?_)
      refine lv_iload_n kx kb dX7_strokesAgain_23 rfl (lv_at hl 0 rfl) ?_
      refine w_if_le (tgt := 38) kx kb (by omega) dX7_strokesAgain_24 (by decide) (fun c_2 => (show False by omega).elim) (fun c_2 => ?_)
      refine lv_aload_n kx kb dX7_strokesAgain_27 rfl (lv_at hl 1 rfl) ?_
      refine w_get X M h 0 hp.2 (by omega) fl_X7_12 rfl dX7_strokesAgain_28 ?_
      refine w_get X M h 1 hs.2.1 (by omega) fl_X7_229 rfl dX7_strokesAgain_31 ?_
      refine lv_iconst (v := nI 1) kx kb dX7_strokesAgain_34 (by decide) ?_
      refine w_cmp_ge (tgt := 40) kx kb (by omega) (by omega) dX7_strokesAgain_35 (by decide) (fun c_3 => ?_) (fun c_3 => ?_)
      · refine lv_iload_n kx kb dX7_strokesAgain_40 rfl (lv_at hl 0 rfl) ?_
        refine lv_aload_n kx kb dX7_strokesAgain_41 rfl (lv_at hl 1 rfl) ?_
        refine w_get X M h 0 hp.2 (by omega) fl_X7_12 rfl dX7_strokesAgain_42 ?_
        refine w_get X M h 1 hs.2.1 (by omega) fl_X7_229 rfl dX7_strokesAgain_45 ?_
        refine w_addn kx kb dX7_strokesAgain_48 ?_
        refine lv_iconst (v := nI 1) kx kb dX7_strokesAgain_49 (by decide) ?_
        refine w_subn kx kb (by omega) dX7_strokesAgain_50 ?_
        refine lv_aload_n kx kb dX7_strokesAgain_51 rfl (lv_at hl 1 rfl) ?_
        refine w_get X M h 0 hp.2 (by omega) fl_X7_12 rfl dX7_strokesAgain_52 ?_
        refine w_get X M h 1 hs.2.1 (by omega) fl_X7_229 rfl dX7_strokesAgain_55 ?_
        refine w_divn kx kb (by omega) (by omega) (by omega) dX7_strokesAgain_58 ?_
        exact w_iret X h ⟨by rw [strokesAF, if_pos c_1, cl_n (by omega), if_neg (show ¬ (k ≤ x.2.2.2.2.2.2.2 2 ∨ x.2.2.2.2.2.2.2 1 < 1) by omega)], rfl⟩ dX7_strokesAgain_59
      · refine lv_iconst (v := nI 0) kx kb dX7_strokesAgain_38 (by decide) ?_
        exact w_iret X h ⟨by rw [strokesAF, if_pos c_1, if_pos (Or.inr (by show x.2.2.2.2.2.2.2 1 < 1; omega))], rfl⟩ dX7_strokesAgain_39
    · refine lv_isub kx kb dX7_strokesAgain_21 ?_
      refine lv_istore_n (lv' := [(2, .int ((nI k) - (nI (x.2.2.2.2.2.2.2 2)))), (0, .ref (ad 0)), (1, .int (nI k))]) kx kb dX7_strokesAgain_22 rfl hl (by decide) rfl (fun ls hl => ?_)
      refine lv_iload_n kx kb dX7_strokesAgain_23 rfl (lv_at hl 0 rfl) ?_
      refine lv_if_le (tgt := 38) kx kb dX7_strokesAgain_24 (by decide) (fun c_4 => ?_) (fun c_4 => (c_4 (sub_le0 hd (by omega))).elim)
      refine lv_iconst (v := nI 0) kx kb dX7_strokesAgain_38 (by decide) ?_
      exact w_iret X h ⟨by rw [strokesAF, if_pos c_1, cl_n (by omega), if_pos (Or.inl hd)], rfl⟩ dX7_strokesAgain_39
  · refine lv_bipush (v := (-2)) kx kb dX7_strokesAgain_10 (by decide) ?_
    exact w_iret X h ⟨by rw [strokesAF, if_neg c_1], rfl⟩ dX7_strokesAgain_12
set_option maxRecDepth 20000 in
theorem c_X7_groansIn (l : Launch) (g : gT) {N : Nat} {ad : Nat → Nat} {F : Nat → va_E} (x : SX) (q : Nat → Int32) (hp : oP0 g N ad F q) (hs : oSt g N ad F 1 x) (hn : x.1 ≤ 12) (htn : xtn x ≤ 64) (a : Int32) (hz1 : xz x 1 ≤ 1000) (hz2 : xz x 2 ≤ 1000) (hz3 : xz x 3 ≤ 1000)  : CtI l yX7_groansIn cX7_groansIn 5 (some .int) 2 42 g N ad F [.ref (ad 0), .int a] (fun r F' => r = (groansInF x a) ∧ F' = F) := by
  refine CtI_of (by decide) (Nat.le_of_ble_eq_true rfl) ?_
  intro p e s m args below meth c A H ls X M h hl
  have kx := X.1.1
  have kb := X.1.2.1
  have hl : lv_has ls 5 [(0, .ref (ad 0)), (1, .int a)] := hl
  have hN0 := hp.1
  have htn2 : x.2.2.1 ≤ 64 := htn
  have z1 : x.2.2.2.2.2.2.2 1 ≤ 1000 := hz1
  have z2 : x.2.2.2.2.2.2.2 2 ≤ 1000 := hz2
  have z3 : x.2.2.2.2.2.2.2 3 ≤ 1000 := hz3
  refine lv_iload_n kx kb dX7_groansIn_0 rfl (lv_at hl 1 rfl) ?_
  refine lv_iconst (v := nI 0) kx kb dX7_groansIn_1 (by decide) ?_
  refine lv_bipush (v := nI 20) kx kb dX7_groansIn_2 (by decide) ?_
  refine w_readSi X M h [.int a, .int (nI 0), .int (nI 20)] [] ((c_X7_isWithin l g a (nI 0) (nI 20))) lk_X7_180 rfl ⟨by decide, by decide⟩ hl ⟨Nat.zero_le _, Nat.zero_le _⟩ (Nat.le_of_ble_eq_true rfl) rfl dX7_groansIn_4 (fun H locs h => ?_)
  refine w_if_neb (tgt := 13) kx kb dX7_groansIn_7 (by decide) (fun c_1 => ?_) (fun c_1 => ?_)
  · obtain ⟨k, hk0, hk, rfl⟩ := inW_of (by decide) (by decide) c_1
    refine lv_aload_n kx kb dX7_groansIn_13 rfl (lv_at hl 0 rfl) ?_
    refine w_get X M h 0 hp.2 (by omega) fl_X7_12 rfl dX7_groansIn_14 ?_
    refine w_get X M h 1 hs.2.1 (by omega) fl_X7_226 rfl dX7_groansIn_17 ?_
    refine lv_istore_n (lv' := [(2, .int (nI (x.2.2.2.2.2.2.2 2))), (0, .ref (ad 0)), (1, .int (nI k))]) kx kb dX7_groansIn_20 rfl hl (by decide) rfl (fun ls hl => ?_)
    refine lv_aload_n kx kb dX7_groansIn_21 rfl (lv_at hl 1 rfl) ?_
    refine w_get X M h 0 hp.2 (by omega) fl_X7_12 rfl dX7_groansIn_22 ?_
    refine w_get X M h 1 hs.2.1 (by omega) fl_X7_235 rfl dX7_groansIn_25 ?_
    refine lv_istore_n (lv' := [(3, .int (nI (x.2.2.2.2.2.2.2 3))), (2, .int (nI (x.2.2.2.2.2.2.2 2))), (0, .ref (ad 0)), (1, .int (nI k))]) kx kb dX7_groansIn_28 rfl hl (by decide) rfl (fun ls hl => ?_)
    refine lv_iconst (v := nI 0) kx kb dX7_groansIn_29 (by decide) ?_
    refine lv_istore (lv' := [(4, .int (nI 0)), (3, .int (nI (x.2.2.2.2.2.2.2 3))), (2, .int (nI (x.2.2.2.2.2.2.2 2))), (0, .ref (ad 0)), (1, .int (nI k))]) kx kb dX7_groansIn_30 hl (by decide) rfl (fun ls hl => ?_)
    refine w_loop3 (fun (i : Nat) (rc : Nat) (gr : Nat) => k - i) (fun (i : Nat) (rc : Nat) (gr : Nat) H locs ls => Hx g N ad F A s H locs ∧ lv_has ls 5 [(0, .ref (ad 0)), (1, .int (nI k)), (2, .int (nI rc)), (3, .int (nI gr)), (4, .int (nI i))] ∧ (i ≤ k) ∧ (rc ≤ 1000) ∧ (gr ≤ 1100) ∧ (giN (k - i) rc gr (x.2.2.2.2.2.2.2 1) = giN k (x.2.2.2.2.2.2.2 2) (x.2.2.2.2.2.2.2 3) (x.2.2.2.2.2.2.2 1))) ?_ 0 (x.2.2.2.2.2.2.2 2) (x.2.2.2.2.2.2.2 3) ⟨h, lv_sub hl [3, 4, 2, 1, 0] rfl, by omega, by omega, by omega, rfl⟩
    intro i rc gr H locs ls hinv ih
    obtain ⟨h, hl, hi, hrc, hgr, hS⟩ := hinv
    refine lv_iload kx kb dX7_groansIn_32 (lv_at hl 4 rfl) ?_
    refine lv_iload_n kx kb dX7_groansIn_34 rfl (lv_at hl 1 rfl) ?_
    refine w_cmp_ge (tgt := 69) kx kb (by omega) (by omega) dX7_groansIn_35 (by decide) (fun c_2 => ?_) (fun c_2 => ?_)
    · refine lv_iload_n kx kb dX7_groansIn_69 rfl (lv_at hl 3 rfl) ?_
      exact w_iret X h ⟨by rw [groansInF, if_pos c_1, cl_n (by omega)]; exact congrArg nI (by rw [← hS]; rcases Nat.eq_zero_or_pos (k - i) with z | z; rw [z, giN]; rw [show k - i = (k - i - 1) + 1 by omega, giN, if_pos (by omega)]), rfl⟩ dX7_groansIn_70
    · refine lv_iload_n kx kb dX7_groansIn_38 rfl (lv_at hl 3 rfl) ?_
      refine lv_bipush (v := nI 40) kx kb dX7_groansIn_39 (by decide) ?_
      refine w_cmp_gt (tgt := 69) kx kb (by omega) (by omega) dX7_groansIn_41 (by decide) (fun c_3 => ?_) (fun c_3 => ?_)
      · refine lv_iload_n kx kb dX7_groansIn_69 rfl (lv_at hl 3 rfl) ?_
        exact w_iret X h ⟨by rw [groansInF, if_pos c_1, cl_n (by omega)]; exact congrArg nI (by rw [← hS]; rcases Nat.eq_zero_or_pos (k - i) with z | z; rw [z, giN]; rw [show k - i = (k - i - 1) + 1 by omega, giN, if_pos (by omega)]), rfl⟩ dX7_groansIn_70
      · refine lv_iload_n kx kb dX7_groansIn_44 rfl (lv_at hl 2 rfl) ?_
        refine lv_aload_n kx kb dX7_groansIn_45 rfl (lv_at hl 0 rfl) ?_
        refine w_get X M h 0 hp.2 (by omega) fl_X7_12 rfl dX7_groansIn_46 ?_
        refine w_get X M h 1 hs.2.1 (by omega) fl_X7_229 rfl dX7_groansIn_49 ?_
        refine w_readSi X M h [.int (nI rc), .int (nI (x.2.2.2.2.2.2.2 1))] [] ((c_X4_reachBehind l g rc (x.2.2.2.2.2.2.2 1) (by omega))) lk_X7_232 rfl ⟨by decide, by decide⟩ hl ⟨Nat.zero_le _, Nat.zero_le _⟩ (Nat.le_of_ble_eq_true rfl) rfl dX7_groansIn_52 (fun H locs h => ?_)
        refine lv_istore_n (lv' := [(2, .int (nI (min 30 (rc + (x.2.2.2.2.2.2.2 1))))), (0, .ref (ad 0)), (1, .int (nI k)), (3, .int (nI gr)), (4, .int (nI i))]) kx kb dX7_groansIn_55 rfl hl (by decide) rfl (fun ls hl => ?_)
        refine lv_iload_n kx kb dX7_groansIn_56 rfl (lv_at hl 3 rfl) ?_
        refine lv_iload_n kx kb dX7_groansIn_57 rfl (lv_at hl 0 rfl) ?_
        refine w_readSi X M h [.int (nI (min 30 (rc + (x.2.2.2.2.2.2.2 1))))] [.int (nI gr)] ((c_X4_groansOf l g (min 30 (rc + (x.2.2.2.2.2.2.2 1))) (by omega))) lk_X7_238 rfl ⟨by decide, by decide⟩ hl ⟨Nat.zero_le _, Nat.zero_le _⟩ (Nat.le_of_ble_eq_true rfl) rfl dX7_groansIn_58 (fun H locs h => ?_)
        refine w_addn kx kb dX7_groansIn_61 ?_
        refine lv_istore_n (lv' := [(3, .int (nI (gr + (1 + (min 30 (rc + (x.2.2.2.2.2.2.2 1))) / 10)))), (2, .int (nI (min 30 (rc + (x.2.2.2.2.2.2.2 1))))), (0, .ref (ad 0)), (1, .int (nI k)), (4, .int (nI i))]) kx kb dX7_groansIn_62 rfl hl (by decide) rfl (fun ls hl => ?_)
        refine lv_iinc (v := nI (i + 1)) (lv' := [(4, .int (nI (i + 1))), (3, .int (nI (gr + (1 + (min 30 (rc + (x.2.2.2.2.2.2.2 1))) / 10)))), (2, .int (nI (min 30 (rc + (x.2.2.2.2.2.2.2 1))))), (0, .ref (ad 0)), (1, .int (nI k))]) kx kb dX7_groansIn_63 hl (k := 4) rfl (nI_add _ _) (by decide) rfl (fun ls hl => ?_)
        refine lv_goto (tgt := 32) kx kb dX7_groansIn_66 (by decide) ?_
        exact ih (i + 1) (min 30 (rc + x.2.2.2.2.2.2.2 1)) (gr + (1 + min 30 (rc + x.2.2.2.2.2.2.2 1) / 10)) _ _ _ ⟨h, lv_sub hl [3, 4, 2, 1, 0] rfl, by omega, by omega, by omega, by rw [show k - i = (k - (i + 1)) + 1 by omega, giN, if_neg (by omega)] at hS; exact hS⟩ (by omega)
  · refine lv_bipush (v := (-2)) kx kb dX7_groansIn_10 (by decide) ?_
    exact w_iret X h ⟨by rw [groansInF, if_neg c_1], rfl⟩ dX7_groansIn_12
set_option maxRecDepth 20000 in
theorem c_X7_would (l : Launch) (g : gT) {N : Nat} {ad : Nat → Nat} {F : Nat → va_E} (x : SX) (q : Nat → Int32) (hp : oP0 g N ad F q) (hs : oSt g N ad F 1 x) (hn : x.1 ≤ 12) (htn : xtn x ≤ 64) (a : Int32) (hz1 : xz x 1 ≤ 1000) (hz2 : xz x 2 ≤ 30) (hz3 : xz x 3 ≤ 1000) (hw : xz x 0 < 4) (hbk : xbk x (xz x 0) ≤ 1000) : CtI l yX7_would cX7_would 7 (some .int) 2 45 g N ad F [.ref (ad 0), .int a] (fun r F' => r = (wouldF x a) ∧ F' = F) := by
  refine CtI_of (by decide) (Nat.le_of_ble_eq_true rfl) ?_
  intro p e s m args below meth c A H ls X M h hl
  have kx := X.1.1
  have kb := X.1.2.1
  have hl : lv_has ls 7 [(0, .ref (ad 0)), (1, .int a)] := hl
  have hN0 := hp.1
  have htn2 : x.2.2.1 ≤ 64 := htn
  have z1 : x.2.2.2.2.2.2.2 1 ≤ 1000 := hz1
  have z2 : x.2.2.2.2.2.2.2 2 ≤ 30 := hz2
  have z3 : x.2.2.2.2.2.2.2 3 ≤ 1000 := hz3
  have z0 : x.2.2.2.2.2.2.2 0 < 4 := hw
  have zb : x.2.2.2.2.2.2.1 (x.2.2.2.2.2.2.2 0) ≤ 1000 := hbk
  refine lv_iload_n kx kb dX7_would_0 rfl (lv_at hl 1 rfl) ?_
  refine lv_iconst (v := nI 0) kx kb dX7_would_1 (by decide) ?_
  refine lv_bipush (v := nI 20) kx kb dX7_would_2 (by decide) ?_
  refine w_readSi X M h [.int a, .int (nI 0), .int (nI 20)] [] ((c_X7_isWithin l g a (nI 0) (nI 20))) lk_X7_180 rfl ⟨by decide, by decide⟩ hl ⟨Nat.zero_le _, Nat.zero_le _⟩ (Nat.le_of_ble_eq_true rfl) rfl dX7_would_4 (fun H locs h => ?_)
  refine w_if_neb (tgt := 13) kx kb dX7_would_7 (by decide) (fun c_1 => ?_) (fun c_1 => ?_)
  · obtain ⟨k, hk0, hk, rfl⟩ := inW_of (by decide) (by decide) c_1
    refine lv_aload_n kx kb dX7_would_13 rfl (lv_at hl 0 rfl) ?_
    refine w_get X M h 0 hp.2 (by omega) fl_X7_12 rfl dX7_would_14 ?_
    refine w_get X M h 1 hs.2.1 (by omega) fl_X7_226 rfl dX7_would_17 ?_
    refine lv_istore_n (lv' := [(2, .int (nI (x.2.2.2.2.2.2.2 2))), (0, .ref (ad 0)), (1, .int (nI k))]) kx kb dX7_would_20 rfl hl (by decide) rfl (fun ls hl => ?_)
    refine lv_aload_n kx kb dX7_would_21 rfl (lv_at hl 1 rfl) ?_
    refine w_get X M h 0 hp.2 (by omega) fl_X7_12 rfl dX7_would_22 ?_
    refine w_get X M h 1 hs.2.1 (by omega) fl_X7_235 rfl dX7_would_25 ?_
    refine lv_istore_n (lv' := [(3, .int (nI (x.2.2.2.2.2.2.2 3))), (2, .int (nI (x.2.2.2.2.2.2.2 2))), (0, .ref (ad 0)), (1, .int (nI k))]) kx kb dX7_would_28 rfl hl (by decide) rfl (fun ls hl => ?_)
    refine lv_iconst (v := nI 0) kx kb dX7_would_29 (by decide) ?_
    refine lv_istore (lv' := [(4, .int (nI 0)), (3, .int (nI (x.2.2.2.2.2.2.2 3))), (2, .int (nI (x.2.2.2.2.2.2.2 2))), (0, .ref (ad 0)), (1, .int (nI k))]) kx kb dX7_would_30 hl (by decide) rfl (fun ls hl => ?_)
    refine lv_iconst (v := nI 0) kx kb dX7_would_32 (by decide) ?_
    refine lv_istore (lv' := [(5, .int (nI 0)), (4, .int (nI 0)), (3, .int (nI (x.2.2.2.2.2.2.2 3))), (2, .int (nI (x.2.2.2.2.2.2.2 2))), (0, .ref (ad 0)), (1, .int (nI k))]) kx kb dX7_would_33 hl (by decide) rfl (fun ls hl => ?_)
    refine w_loop4 (fun (i : Nat) (rc : Nat) (gr : Nat) (lf : Nat) => k - i) (fun (i : Nat) (rc : Nat) (gr : Nat) (lf : Nat) H locs ls => Hx g N ad F A s H locs ∧ lv_has ls 7 [(0, .ref (ad 0)), (1, .int (nI k)), (2, .int (nI rc)), (3, .int (nI gr)), (4, .int (nI lf)), (5, .int (nI i))] ∧ (i ≤ k) ∧ (rc ≤ 30) ∧ (gr ≤ 1100) ∧ (lf ≤ cnt (cwP x.2.1 (nI (x.2.2.2.2.2.2.2 0)) (nI (rc))) x.1) ∧ (wdN x (k - i) rc gr lf = wdN x k (x.2.2.2.2.2.2.2 2) (x.2.2.2.2.2.2.2 3) 0)) ?_ 0 (x.2.2.2.2.2.2.2 2) (x.2.2.2.2.2.2.2 3) 0 ⟨h, lv_sub hl [4, 5, 3, 2, 1, 0] rfl, by omega, by omega, by omega, Nat.zero_le _, rfl⟩
    intro i rc gr lf H locs ls hinv ih
    obtain ⟨h, hl, hi, hrc, hgr, hlf, hS⟩ := hinv
    refine lv_iload kx kb dX7_would_35 (lv_at hl 5 rfl) ?_
    refine lv_iload_n kx kb dX7_would_37 rfl (lv_at hl 1 rfl) ?_
    refine w_cmp_ge (tgt := 122) kx kb (by omega) (by omega) dX7_would_38 (by decide) (fun c_2 => ?_) (fun c_2 => ?_)
    · refine lv_iload kx kb dX7_would_122 (lv_at hl 4 rfl) ?_
      exact w_iret X h ⟨by rw [wouldF, if_pos c_1, cl_n (by omega)]; exact congrArg nI (by rw [← hS]; rcases Nat.eq_zero_or_pos (k - i) with z | z; rw [z, wdN]; rw [show k - i = (k - i - 1) + 1 by omega, wdN, if_pos (by omega)]), rfl⟩ dX7_would_124
    · refine lv_iload_n kx kb dX7_would_41 rfl (lv_at hl 3 rfl) ?_
      refine lv_bipush (v := nI 40) kx kb dX7_would_42 (by decide) ?_
      refine w_cmp_gt (tgt := 122) kx kb (by omega) (by omega) dX7_would_44 (by decide) (fun c_3 => ?_) (fun c_3 => ?_)
      · refine lv_iload kx kb dX7_would_122 (lv_at hl 4 rfl) ?_
        exact w_iret X h ⟨by rw [wouldF, if_pos c_1, cl_n (by omega)]; exact congrArg nI (by rw [← hS]; rcases Nat.eq_zero_or_pos (k - i) with z | z; rw [z, wdN]; rw [show k - i = (k - i - 1) + 1 by omega, wdN, if_pos (by omega)]), rfl⟩ dX7_would_124
      · have hm0 : lf ≤ cnt (cwP x.2.1 (nI (x.2.2.2.2.2.2.2 0)) (nI (min 30 (rc + x.2.2.2.2.2.2.2 1)))) x.1 := Nat.le_trans hlf (cwP_mono (by omega) (by omega))
        have hm1 := cnt_le (cwP x.2.1 (nI (x.2.2.2.2.2.2.2 0)) (nI (min 30 (rc + x.2.2.2.2.2.2.2 1)))) x.1
        refine lv_iload_n kx kb dX7_would_47 rfl (lv_at hl 2 rfl) ?_
        refine lv_aload_n kx kb dX7_would_48 rfl (lv_at hl 0 rfl) ?_
        refine w_get X M h 0 hp.2 (by omega) fl_X7_12 rfl dX7_would_49 ?_
        refine w_get X M h 1 hs.2.1 (by omega) fl_X7_229 rfl dX7_would_52 ?_
        refine w_readSi X M h [.int (nI rc), .int (nI (x.2.2.2.2.2.2.2 1))] [] ((c_X4_reachBehind l g rc (x.2.2.2.2.2.2.2 1) (by omega))) lk_X7_232 rfl ⟨by decide, by decide⟩ hl ⟨Nat.zero_le _, Nat.zero_le _⟩ (Nat.le_of_ble_eq_true rfl) rfl dX7_would_55 (fun H locs h => ?_)
        refine lv_istore_n (lv' := [(2, .int (nI (min 30 (rc + (x.2.2.2.2.2.2.2 1))))), (0, .ref (ad 0)), (1, .int (nI k)), (3, .int (nI gr)), (4, .int (nI lf)), (5, .int (nI i))]) kx kb dX7_would_58 rfl hl (by decide) rfl (fun ls hl => ?_)
        refine lv_iload_n kx kb dX7_would_59 rfl (lv_at hl 3 rfl) ?_
        refine lv_iload_n kx kb dX7_would_60 rfl (lv_at hl 0 rfl) ?_
        refine w_readSi X M h [.int (nI (min 30 (rc + (x.2.2.2.2.2.2.2 1))))] [.int (nI gr)] ((c_X4_groansOf l g (min 30 (rc + (x.2.2.2.2.2.2.2 1))) (by omega))) lk_X7_238 rfl ⟨by decide, by decide⟩ hl ⟨Nat.zero_le _, Nat.zero_le _⟩ (Nat.le_of_ble_eq_true rfl) rfl dX7_would_61 (fun H locs h => ?_)
        refine w_addn kx kb dX7_would_64 ?_
        refine lv_istore_n (lv' := [(3, .int (nI (gr + (1 + (min 30 (rc + (x.2.2.2.2.2.2.2 1))) / 10)))), (2, .int (nI (min 30 (rc + (x.2.2.2.2.2.2.2 1))))), (0, .ref (ad 0)), (1, .int (nI k)), (4, .int (nI lf)), (5, .int (nI i))]) kx kb dX7_would_65 rfl hl (by decide) rfl (fun ls hl => ?_)
        refine lv_aload_n kx kb dX7_would_66 rfl (lv_at hl 2 rfl) ?_
        refine w_get X M h 0 hp.2 (by omega) fl_X7_12 rfl dX7_would_67 ?_
        refine w_get X M h 1 hs.2.1 (by omega) fl_X7_121 rfl dX7_would_70 ?_
        refine lv_aload_n kx kb dX7_would_73 rfl (lv_at hl 2 rfl) ?_
        refine w_get X M h 0 hp.2 (by omega) fl_X7_12 rfl dX7_would_74 ?_
        refine w_get X M h 1 hs.2.1 (by omega) fl_X7_241 rfl dX7_would_77 ?_
        refine lv_iload_n kx kb dX7_would_80 rfl (lv_at hl 1 rfl) ?_
        refine w_readVi X M h [.int (nI (x.2.2.2.2.2.2.2 0)), .int (nI (min 30 (rc + (x.2.2.2.2.2.2.2 1))))] [] ((c_X1_countWithin l g 2 x.1 x.2.1 ⟨by omega, hs.2.2.1.2.1, ⟨by omega, hs.2.2.1.2.2.1.2.1, hs.2.2.1.2.2.1.2.2⟩, ⟨by omega, hs.2.2.1.2.2.2.1.2.1, hs.2.2.1.2.2.2.1.2.2⟩, ⟨by omega, hs.2.2.1.2.2.2.2.1.2.1, hs.2.2.1.2.2.2.2.1.2.2⟩, ⟨by omega, hs.2.2.1.2.2.2.2.2.1.2.1, hs.2.2.1.2.2.2.2.2.1.2.2⟩, ⟨by omega, hs.2.2.1.2.2.2.2.2.2.2.1, hs.2.2.1.2.2.2.2.2.2.2.2⟩⟩ (by omega) (nI (x.2.2.2.2.2.2.2 0)) (nI (min 30 (rc + (x.2.2.2.2.2.2.2 1)))))) lk_X7_156 hs.2.2.1.2.1 (by omega) rfl rfl ⟨by decide, by decide⟩ hl ⟨Nat.zero_le _, Nat.zero_le _⟩ (Nat.le_of_ble_eq_true rfl) rfl dX7_would_81 (fun H locs h => ?_)
        refine lv_iload kx kb dX7_would_84 (lv_at hl 4 rfl) ?_
        refine w_subn kx kb (by omega) dX7_would_86 ?_
        refine lv_istore (lv' := [(6, .int (nI ((cnt (cwP x.2.1 (nI (x.2.2.2.2.2.2.2 0)) (nI (min 30 (rc + (x.2.2.2.2.2.2.2 1))))) x.1) - lf))), (3, .int (nI (gr + (1 + (min 30 (rc + (x.2.2.2.2.2.2.2 1))) / 10)))), (2, .int (nI (min 30 (rc + (x.2.2.2.2.2.2.2 1))))), (0, .ref (ad 0)), (1, .int (nI k)), (4, .int (nI lf)), (5, .int (nI i))]) kx kb dX7_would_87 hl (by decide) rfl (fun ls hl => ?_)
        refine lv_iload kx kb dX7_would_89 (lv_at hl 5 rfl) ?_
        refine lv_iload kx kb dX7_would_91 (lv_at hl 0 rfl) ?_
        refine lv_aload_n kx kb dX7_would_93 rfl (lv_at hl 3 rfl) ?_
        refine w_get X M h 0 hp.2 (by omega) fl_X7_12 rfl dX7_would_94 ?_
        refine w_get X M h 1 hs.2.1 (by omega) fl_X7_162 rfl dX7_would_97 ?_
        refine lv_aload_n kx kb dX7_would_100 rfl (lv_at hl 3 rfl) ?_
        refine w_get X M h 0 hp.2 (by omega) fl_X7_12 rfl dX7_would_101 ?_
        refine w_get X M h 1 hs.2.1 (by omega) fl_X7_241 rfl dX7_would_104 ?_
        refine w_readVi X M h [.int (nI (x.2.2.2.2.2.2.2 0))] [.int (nI ((cnt (cwP x.2.1 (nI (x.2.2.2.2.2.2.2 0)) (nI (min 30 (rc + (x.2.2.2.2.2.2.2 1))))) x.1) - lf)), .int (nI lf)] ((c_X3_at_n l g 21 4 (fun k => nI (x.2.2.2.2.2.2.1 k)) (x.2.2.2.2.2.2.2 0) ⟨by omega, hs.2.2.2.2.2.1, hs.2.2.2.2.2.2⟩ (by omega) (by omega))) lk_X7_139 hs.2.2.2.2.2.1 (by omega) rfl rfl ⟨by decide, by decide⟩ hl ⟨Nat.zero_le _, Nat.zero_le _⟩ (Nat.le_of_ble_eq_true rfl) rfl dX7_would_107 (fun H locs h => ?_)
        refine w_mminn X hl q2_239 (by omega) (by omega) ⟨by decide, by decide⟩ (Nat.le_of_ble_eq_true rfl) ⟨Nat.zero_le _, Nat.zero_le _⟩ dX7_would_110 ?_
        refine w_addn kx kb dX7_would_113 ?_
        refine lv_istore (lv' := [(4, .int (nI (lf + (min ((cnt (cwP x.2.1 (nI (x.2.2.2.2.2.2.2 0)) (nI (min 30 (rc + (x.2.2.2.2.2.2.2 1))))) x.1) - lf) (x.2.2.2.2.2.2.1 (x.2.2.2.2.2.2.2 0)))))), (6, .int (nI ((cnt (cwP x.2.1 (nI (x.2.2.2.2.2.2.2 0)) (nI (min 30 (rc + (x.2.2.2.2.2.2.2 1))))) x.1) - lf))), (3, .int (nI (gr + (1 + (min 30 (rc + (x.2.2.2.2.2.2.2 1))) / 10)))), (2, .int (nI (min 30 (rc + (x.2.2.2.2.2.2.2 1))))), (0, .ref (ad 0)), (1, .int (nI k)), (5, .int (nI i))]) kx kb dX7_would_114 hl (by decide) rfl (fun ls hl => ?_)
        refine lv_iinc (v := nI (i + 1)) (lv' := [(5, .int (nI (i + 1))), (4, .int (nI (lf + (min ((cnt (cwP x.2.1 (nI (x.2.2.2.2.2.2.2 0)) (nI (min 30 (rc + (x.2.2.2.2.2.2.2 1))))) x.1) - lf) (x.2.2.2.2.2.2.1 (x.2.2.2.2.2.2.2 0)))))), (6, .int (nI ((cnt (cwP x.2.1 (nI (x.2.2.2.2.2.2.2 0)) (nI (min 30 (rc + (x.2.2.2.2.2.2.2 1))))) x.1) - lf))), (3, .int (nI (gr + (1 + (min 30 (rc + (x.2.2.2.2.2.2.2 1))) / 10)))), (2, .int (nI (min 30 (rc + (x.2.2.2.2.2.2.2 1))))), (0, .ref (ad 0)), (1, .int (nI k))]) kx kb dX7_would_116 hl (k := 6) rfl (nI_add _ _) (by decide) rfl (fun ls hl => ?_)
        refine lv_goto (tgt := 35) kx kb dX7_would_119 (by decide) ?_
        exact ih (i + 1) (min 30 (rc + x.2.2.2.2.2.2.2 1)) (gr + (1 + min 30 (rc + x.2.2.2.2.2.2.2 1) / 10)) (lf + (min ((cnt (cwP x.2.1 (nI (x.2.2.2.2.2.2.2 0)) (nI (min 30 (rc + (x.2.2.2.2.2.2.2 1))))) x.1) - lf) (x.2.2.2.2.2.2.1 (x.2.2.2.2.2.2.2 0)))) _ _ _ ⟨h, lv_sub hl [5, 6, 4, 3, 1, 0] rfl, by omega, by omega, by omega, by omega, by rw [show k - i = (k - (i + 1)) + 1 by omega, wdN, if_neg (by omega)] at hS; exact hS⟩ (by omega)
  · refine lv_bipush (v := (-2)) kx kb dX7_would_10 (by decide) ?_
    exact w_iret X h ⟨by rw [wouldF, if_neg c_1], rfl⟩ dX7_would_12
set_option maxRecDepth 20000 in
theorem c_X7_groansToReach (l : Launch) (g : gT) {N : Nat} {ad : Nat → Nat} {F : Nat → va_E} (x : SX) (q : Nat → Int32) (hp : oP0 g N ad F q) (hs : oSt g N ad F 1 x) (hn : x.1 ≤ 12) (htn : xtn x ≤ 64) (dp : Int32) (ln : Nat) (hln : ln ≤ 1000) (hz1 : xz x 1 ≤ 1000) (hz2 : xz x 2 ≤ 1000) (hz3 : xz x 3 ≤ 1000)  : CtI l yX7_groansToReach cX7_groansToReach 6 (some .int) 2 42 g N ad F [.ref (ad 0), .int dp, .int (nI ln)] (fun r F' => r = (nI (grTo x dp ln)) ∧ F' = F) := by
  refine CtI_of (by decide) (Nat.le_of_ble_eq_true rfl) ?_
  intro p e s m args below meth c A H ls X M h hl
  have kx := X.1.1
  have kb := X.1.2.1
  have hl : lv_has ls 6 [(0, .ref (ad 0)), (1, .int dp), (2, .int (nI ln))] := hl
  have hN0 := hp.1
  have htn2 : x.2.2.1 ≤ 64 := htn
  have z1 : x.2.2.2.2.2.2.2 1 ≤ 1000 := hz1
  have z2 : x.2.2.2.2.2.2.2 2 ≤ 1000 := hz2
  have z3 : x.2.2.2.2.2.2.2 3 ≤ 1000 := hz3
  refine lv_aload_n kx kb dX7_groansToReach_0 rfl (lv_at hl 0 rfl) ?_
  refine w_get X M h 0 hp.2 (by omega) fl_X7_12 rfl dX7_groansToReach_1 ?_
  refine w_get X M h 1 hs.2.1 (by omega) fl_X7_226 rfl dX7_groansToReach_4 ?_
  refine lv_iload_n kx kb dX7_groansToReach_7 rfl (lv_at hl 2 rfl) ?_
  refine w_readSi X M h [.int (nI (x.2.2.2.2.2.2.2 2)), .int (nI ln)] [] ((c_X4_reachBehind l g (x.2.2.2.2.2.2.2 2) ln (by omega))) lk_X7_232 rfl ⟨by decide, by decide⟩ hl ⟨Nat.zero_le _, Nat.zero_le _⟩ (Nat.le_of_ble_eq_true rfl) rfl dX7_groansToReach_8 (fun H locs h => ?_)
  refine lv_istore_n (lv' := [(3, .int (nI (min 30 ((x.2.2.2.2.2.2.2 2) + ln)))), (0, .ref (ad 0)), (1, .int dp), (2, .int (nI ln))]) kx kb dX7_groansToReach_11 rfl hl (by decide) rfl (fun ls hl => ?_)
  refine lv_iload_n kx kb dX7_groansToReach_12 rfl (lv_at hl 0 rfl) ?_
  refine w_readSi X M h [.int (nI (min 30 ((x.2.2.2.2.2.2.2 2) + ln)))] [] ((c_X4_groansOf l g (min 30 ((x.2.2.2.2.2.2.2 2) + ln)) (by omega))) lk_X7_238 rfl ⟨by decide, by decide⟩ hl ⟨Nat.zero_le _, Nat.zero_le _⟩ (Nat.le_of_ble_eq_true rfl) rfl dX7_groansToReach_13 (fun H locs h => ?_)
  refine lv_istore (lv' := [(4, .int (nI (1 + (min 30 ((x.2.2.2.2.2.2.2 2) + ln)) / 10))), (3, .int (nI (min 30 ((x.2.2.2.2.2.2.2 2) + ln)))), (0, .ref (ad 0)), (1, .int dp), (2, .int (nI ln))]) kx kb dX7_groansToReach_16 hl (by decide) rfl (fun ls hl => ?_)
  refine lv_iconst (v := nI 0) kx kb dX7_groansToReach_18 (by decide) ?_
  refine lv_istore (lv' := [(5, .int (nI 0)), (4, .int (nI (1 + (min 30 ((x.2.2.2.2.2.2.2 2) + ln)) / 10))), (3, .int (nI (min 30 ((x.2.2.2.2.2.2.2 2) + ln)))), (0, .ref (ad 0)), (1, .int dp), (2, .int (nI ln))]) kx kb dX7_groansToReach_19 hl (by decide) rfl (fun ls hl => ?_)
  refine w_loop3 (fun (i : Nat) (rc : Nat) (gr : Nat) => 30 - i) (fun (i : Nat) (rc : Nat) (gr : Nat) H locs ls => Hx g N ad F A s H locs ∧ lv_has ls 6 [(0, .ref (ad 0)), (1, .int dp), (2, .int (nI ln)), (3, .int (nI rc)), (4, .int (nI gr)), (5, .int (nI i))] ∧ (i ≤ 30) ∧ (rc ≤ 30) ∧ (gr ≤ 4 + 4 * i) ∧ (gtN dp ln (30 - i) rc gr = grTo x dp ln)) ?_ 0 (min 30 (x.2.2.2.2.2.2.2 2 + ln)) (1 + min 30 (x.2.2.2.2.2.2.2 2 + ln) / 10) ⟨h, lv_sub hl [3, 4, 5, 2, 1, 0] rfl, by omega, by omega, by omega, rfl⟩
  intro i rc gr H locs ls hinv ih
  obtain ⟨h, hl, hi, hrc, hgr, hS⟩ := hinv
  refine lv_iload kx kb dX7_groansToReach_21 (lv_at hl 5 rfl) ?_
  refine lv_bipush (v := nI 30) kx kb dX7_groansToReach_23 (by decide) ?_
  refine w_cmp_ge (tgt := 54) kx kb (by omega) (by omega) dX7_groansToReach_25 (by decide) (fun c_1 => ?_) (fun c_1 => ?_)
  · refine lv_iload kx kb dX7_groansToReach_54 (lv_at hl 4 rfl) ?_
    exact w_iret X h ⟨congrArg nI (by rw [← hS]; rw [show 30 - i = 0 by omega, gtN]), rfl⟩ dX7_groansToReach_56
  · refine lv_iload_n kx kb dX7_groansToReach_28 rfl (lv_at hl 3 rfl) ?_
    refine lv_iload_n kx kb dX7_groansToReach_29 rfl (lv_at hl 1 rfl) ?_
    refine lv_icmp_ge (tgt := 54) kx kb dX7_groansToReach_30 (by decide) (fun c_2 => ?_) (fun c_2 => ?_)
    · refine lv_iload kx kb dX7_groansToReach_54 (lv_at hl 4 rfl) ?_
      exact w_iret X h ⟨congrArg nI (by rw [← hS]; rw [show 30 - i = (30 - i - 1) + 1 by omega, gtN, if_pos c_2]), rfl⟩ dX7_groansToReach_56
    · refine lv_iload_n kx kb dX7_groansToReach_33 rfl (lv_at hl 3 rfl) ?_
      refine lv_iload_n kx kb dX7_groansToReach_34 rfl (lv_at hl 2 rfl) ?_
      refine w_readSi X M h [.int (nI rc), .int (nI ln)] [] ((c_X4_reachBehind l g rc ln (by omega))) lk_X7_232 rfl ⟨by decide, by decide⟩ hl ⟨Nat.zero_le _, Nat.zero_le _⟩ (Nat.le_of_ble_eq_true rfl) rfl dX7_groansToReach_35 (fun H locs h => ?_)
      refine lv_istore_n (lv' := [(3, .int (nI (min 30 (rc + ln)))), (0, .ref (ad 0)), (1, .int dp), (2, .int (nI ln)), (4, .int (nI gr)), (5, .int (nI i))]) kx kb dX7_groansToReach_38 rfl hl (by decide) rfl (fun ls hl => ?_)
      refine lv_iload kx kb dX7_groansToReach_39 (lv_at hl 4 rfl) ?_
      refine lv_iload_n kx kb dX7_groansToReach_41 rfl (lv_at hl 0 rfl) ?_
      refine w_readSi X M h [.int (nI (min 30 (rc + ln)))] [.int (nI gr)] ((c_X4_groansOf l g (min 30 (rc + ln)) (by omega))) lk_X7_238 rfl ⟨by decide, by decide⟩ hl ⟨Nat.zero_le _, Nat.zero_le _⟩ (Nat.le_of_ble_eq_true rfl) rfl dX7_groansToReach_42 (fun H locs h => ?_)
      refine w_addn kx kb dX7_groansToReach_45 ?_
      refine lv_istore (lv' := [(4, .int (nI (gr + (1 + (min 30 (rc + ln)) / 10)))), (3, .int (nI (min 30 (rc + ln)))), (0, .ref (ad 0)), (1, .int dp), (2, .int (nI ln)), (5, .int (nI i))]) kx kb dX7_groansToReach_46 hl (by decide) rfl (fun ls hl => ?_)
      refine lv_iinc (v := nI (i + 1)) (lv' := [(5, .int (nI (i + 1))), (4, .int (nI (gr + (1 + (min 30 (rc + ln)) / 10)))), (3, .int (nI (min 30 (rc + ln)))), (0, .ref (ad 0)), (1, .int dp), (2, .int (nI ln))]) kx kb dX7_groansToReach_48 hl (k := 5) rfl (nI_add _ _) (by decide) rfl (fun ls hl => ?_)
      refine lv_goto (tgt := 21) kx kb dX7_groansToReach_51 (by decide) ?_
      exact ih (i + 1) (min 30 (rc + ln)) (gr + (1 + min 30 (rc + ln) / 10)) _ _ _ ⟨h, lv_sub hl [3, 4, 5, 2, 1, 0] rfl, by omega, by omega, by omega, by rw [show 30 - i = (30 - (i + 1)) + 1 by omega, gtN, if_neg c_2] at hS; exact hS⟩ (by omega)
set_option maxRecDepth 20000 in
theorem c_X7_bestStroke (l : Launch) (g : gT) {N : Nat} {ad : Nat → Nat} {F : Nat → va_E} (x : SX) (q : Nat → Int32) (hp : oP0 g N ad F q) (hs : oSt g N ad F 1 x) (hn : x.1 ≤ 12) (htn : xtn x ≤ 64) (hz1 : xz x 1 ≤ 1000) (hz2 : xz x 2 ≤ 1000) (hz3 : xz x 3 ≤ 1000)  : CtI l yX7_bestStroke cX7_bestStroke 4 (some .int) 4 90 g N ad F [.ref (ad 0)] (fun r F' => r = (bestF x) ∧ F' = F) := by
  refine CtI_of (by decide) (Nat.le_of_ble_eq_true rfl) ?_
  intro p e s m args below meth c A H ls X M h hl
  have kx := X.1.1
  have kb := X.1.2.1
  have hl : lv_has ls 4 [(0, .ref (ad 0))] := hl
  have hN0 := hp.1
  have htn2 : x.2.2.1 ≤ 64 := htn
  have z1 : x.2.2.2.2.2.2.2 1 ≤ 1000 := hz1
  have z2 : x.2.2.2.2.2.2.2 2 ≤ 1000 := hz2
  have z3 : x.2.2.2.2.2.2.2 3 ≤ 1000 := hz3
  have hc9 := cnt_le (cwP x.2.1 (nI (x.2.2.2.2.2.2.2 0)) (nI 30)) x.1
  refine lv_aload_n kx kb dX7_bestStroke_0 rfl (lv_at hl 0 rfl) ?_
  refine w_get X M h 0 hp.2 (by omega) fl_X7_12 rfl dX7_bestStroke_1 ?_
  refine w_get X M h 1 hs.2.1 (by omega) fl_X7_121 rfl dX7_bestStroke_4 ?_
  refine lv_aload_n kx kb dX7_bestStroke_7 rfl (lv_at hl 0 rfl) ?_
  refine w_get X M h 0 hp.2 (by omega) fl_X7_12 rfl dX7_bestStroke_8 ?_
  refine w_get X M h 1 hs.2.1 (by omega) fl_X7_241 rfl dX7_bestStroke_11 ?_
  refine w_readVi X M h [.int (nI (x.2.2.2.2.2.2.2 0))] [] ((c_X1_countIn l g 2 x.1 x.2.1 ⟨by omega, hs.2.2.1.2.1, ⟨by omega, hs.2.2.1.2.2.1.2.1, hs.2.2.1.2.2.1.2.2⟩, ⟨by omega, hs.2.2.1.2.2.2.1.2.1, hs.2.2.1.2.2.2.1.2.2⟩, ⟨by omega, hs.2.2.1.2.2.2.2.1.2.1, hs.2.2.1.2.2.2.2.1.2.2⟩, ⟨by omega, hs.2.2.1.2.2.2.2.2.1.2.1, hs.2.2.1.2.2.2.2.2.1.2.2⟩, ⟨by omega, hs.2.2.1.2.2.2.2.2.2.2.1, hs.2.2.1.2.2.2.2.2.2.2.2⟩⟩ (by omega) (nI (x.2.2.2.2.2.2.2 0)))) lk_X7_165 hs.2.2.1.2.1 (by omega) rfl rfl ⟨by decide, by decide⟩ hl ⟨Nat.zero_le _, Nat.zero_le _⟩ (Nat.le_of_ble_eq_true rfl) rfl dX7_bestStroke_14 (fun H locs h => ?_)
  refine w_if_ne (tgt := 23) kx kb (by omega) dX7_bestStroke_17 (by decide) (fun c_1 => ?_) (fun c_1 => ?_)
  · refine lv_aload_n kx kb dX7_bestStroke_23 rfl (lv_at hl 0 rfl) ?_
    refine lv_aload_n kx kb dX7_bestStroke_24 rfl (lv_at hl 0 rfl) ?_
    refine w_get X M h 0 hp.2 (by omega) fl_X7_12 rfl dX7_bestStroke_25 ?_
    refine w_get X M h 1 hs.2.1 (by omega) fl_X7_241 rfl dX7_bestStroke_28 ?_
    refine w_readVi X M h [.int (nI (x.2.2.2.2.2.2.2 0))] [] ((c_X7_leastDepth l g x q ⟨by omega, hp.2⟩ ⟨by omega, hs.2.1, ⟨by omega, hs.2.2.1.2.1, ⟨by omega, hs.2.2.1.2.2.1.2.1, hs.2.2.1.2.2.1.2.2⟩, ⟨by omega, hs.2.2.1.2.2.2.1.2.1, hs.2.2.1.2.2.2.1.2.2⟩, ⟨by omega, hs.2.2.1.2.2.2.2.1.2.1, hs.2.2.1.2.2.2.2.1.2.2⟩, ⟨by omega, hs.2.2.1.2.2.2.2.2.1.2.1, hs.2.2.1.2.2.2.2.2.1.2.2⟩, ⟨by omega, hs.2.2.1.2.2.2.2.2.2.2.1, hs.2.2.1.2.2.2.2.2.2.2.2⟩⟩, ⟨by omega, hs.2.2.2.1.2.1, ⟨by omega, hs.2.2.2.1.2.2.1.2.1, hs.2.2.2.1.2.2.1.2.2⟩, ⟨by omega, hs.2.2.2.1.2.2.2.1.2.1, hs.2.2.2.1.2.2.2.1.2.2⟩, hs.2.2.2.1.2.2.2.2.1, ⟨by omega, hs.2.2.2.1.2.2.2.2.2.2.1, hs.2.2.2.1.2.2.2.2.2.2.2⟩⟩, ⟨by omega, hs.2.2.2.2.2.1, hs.2.2.2.2.2.2⟩⟩ (by omega) (by omega) (nI (x.2.2.2.2.2.2.2 0)))) lk_X7_168 hp.2 (by omega) rfl rfl ⟨by decide, by decide⟩ hl ⟨Nat.zero_le _, Nat.zero_le _⟩ (Nat.le_of_ble_eq_true rfl) rfl dX7_bestStroke_31 (fun H locs h => ?_)
    refine lv_istore_n (lv' := [(1, .int (leastD x (nI (x.2.2.2.2.2.2.2 0)))), (0, .ref (ad 0))]) kx kb dX7_bestStroke_34 rfl hl (by decide) rfl (fun ls hl => ?_)
    refine lv_iconst (v := nI 1) kx kb dX7_bestStroke_35 (by decide) ?_
    refine lv_istore_n (lv' := [(2, .int (nI 1)), (1, .int (leastD x (nI (x.2.2.2.2.2.2.2 0)))), (0, .ref (ad 0))]) kx kb dX7_bestStroke_36 rfl hl (by decide) rfl (fun ls hl => ?_)
    refine lv_iconst (v := nI 2) kx kb dX7_bestStroke_37 (by decide) ?_
    refine lv_istore_n (lv' := [(3, .int (nI 2)), (2, .int (nI 1)), (1, .int (leastD x (nI (x.2.2.2.2.2.2.2 0)))), (0, .ref (ad 0))]) kx kb dX7_bestStroke_38 rfl hl (by decide) rfl (fun ls hl => ?_)
    refine w_loop2 (fun (i : Nat) (b : Nat) => 11 - i) (fun (i : Nat) (b : Nat) H locs ls => Hx g N ad F A s H locs ∧ lv_has ls 4 [(0, .ref (ad 0)), (1, .int (leastD x (nI (x.2.2.2.2.2.2.2 0)))), (2, .int (nI b)), (3, .int (nI i))] ∧ (2 ≤ i ∧ i ≤ 11) ∧ (b ≤ 10) ∧ (b = bsN x (leastD x (nI (x.2.2.2.2.2.2.2 0))) (i - 2))) ?_ 2 1 ⟨h, lv_sub hl [3, 2, 1, 0] rfl, by omega, by omega, rfl⟩
    intro i b H locs ls hinv ih
    obtain ⟨h, hl, hi, hbb, hS⟩ := hinv
    refine lv_iload_n kx kb dX7_bestStroke_39 rfl (lv_at hl 3 rfl) ?_
    refine lv_bipush (v := nI 10) kx kb dX7_bestStroke_40 (by decide) ?_
    refine w_cmp_gt (tgt := 68) kx kb (by omega) (by omega) dX7_bestStroke_42 (by decide) (fun c_2 => ?_) (fun c_2 => ?_)
    · refine lv_iload_n kx kb dX7_bestStroke_68 rfl (lv_at hl 2 rfl) ?_
      exact w_iret X h ⟨by rw [bestF, if_neg (Nat.pos_iff_ne_zero.mp c_1), hS, show i - 2 = 9 by omega], rfl⟩ dX7_bestStroke_69
    · refine lv_aload_n kx kb dX7_bestStroke_45 rfl (lv_at hl 0 rfl) ?_
      refine lv_iload_n kx kb dX7_bestStroke_46 rfl (lv_at hl 1 rfl) ?_
      refine lv_iload_n kx kb dX7_bestStroke_47 rfl (lv_at hl 3 rfl) ?_
      refine w_readVi X M h [.int (leastD x (nI (x.2.2.2.2.2.2.2 0))), .int (nI i)] [] ((c_X7_groansToReach l g x q ⟨by omega, hp.2⟩ ⟨by omega, hs.2.1, ⟨by omega, hs.2.2.1.2.1, ⟨by omega, hs.2.2.1.2.2.1.2.1, hs.2.2.1.2.2.1.2.2⟩, ⟨by omega, hs.2.2.1.2.2.2.1.2.1, hs.2.2.1.2.2.2.1.2.2⟩, ⟨by omega, hs.2.2.1.2.2.2.2.1.2.1, hs.2.2.1.2.2.2.2.1.2.2⟩, ⟨by omega, hs.2.2.1.2.2.2.2.2.1.2.1, hs.2.2.1.2.2.2.2.2.1.2.2⟩, ⟨by omega, hs.2.2.1.2.2.2.2.2.2.2.1, hs.2.2.1.2.2.2.2.2.2.2.2⟩⟩, ⟨by omega, hs.2.2.2.1.2.1, ⟨by omega, hs.2.2.2.1.2.2.1.2.1, hs.2.2.2.1.2.2.1.2.2⟩, ⟨by omega, hs.2.2.2.1.2.2.2.1.2.1, hs.2.2.2.1.2.2.2.1.2.2⟩, hs.2.2.2.1.2.2.2.2.1, ⟨by omega, hs.2.2.2.1.2.2.2.2.2.2.1, hs.2.2.2.1.2.2.2.2.2.2.2⟩⟩, ⟨by omega, hs.2.2.2.2.2.1, hs.2.2.2.2.2.2⟩⟩ (by omega) (by omega) (leastD x (nI (x.2.2.2.2.2.2.2 0))) i (by omega) (by omega) (by omega) (by omega))) lk_X7_249 hp.2 (by omega) rfl rfl ⟨by decide, by decide⟩ hl ⟨Nat.zero_le _, Nat.zero_le _⟩ (Nat.le_of_ble_eq_true rfl) rfl dX7_bestStroke_48 (fun H locs h => ?_)
      refine lv_aload_n kx kb dX7_bestStroke_51 rfl (lv_at hl 0 rfl) ?_
      refine lv_iload_n kx kb dX7_bestStroke_52 rfl (lv_at hl 1 rfl) ?_
      refine lv_iload_n kx kb dX7_bestStroke_53 rfl (lv_at hl 2 rfl) ?_
      refine w_readVi X M h [.int (leastD x (nI (x.2.2.2.2.2.2.2 0))), .int (nI b)] [.int (nI (grTo x (leastD x (nI (x.2.2.2.2.2.2.2 0))) i))] ((c_X7_groansToReach l g x q ⟨by omega, hp.2⟩ ⟨by omega, hs.2.1, ⟨by omega, hs.2.2.1.2.1, ⟨by omega, hs.2.2.1.2.2.1.2.1, hs.2.2.1.2.2.1.2.2⟩, ⟨by omega, hs.2.2.1.2.2.2.1.2.1, hs.2.2.1.2.2.2.1.2.2⟩, ⟨by omega, hs.2.2.1.2.2.2.2.1.2.1, hs.2.2.1.2.2.2.2.1.2.2⟩, ⟨by omega, hs.2.2.1.2.2.2.2.2.1.2.1, hs.2.2.1.2.2.2.2.2.1.2.2⟩, ⟨by omega, hs.2.2.1.2.2.2.2.2.2.2.1, hs.2.2.1.2.2.2.2.2.2.2.2⟩⟩, ⟨by omega, hs.2.2.2.1.2.1, ⟨by omega, hs.2.2.2.1.2.2.1.2.1, hs.2.2.2.1.2.2.1.2.2⟩, ⟨by omega, hs.2.2.2.1.2.2.2.1.2.1, hs.2.2.2.1.2.2.2.1.2.2⟩, hs.2.2.2.1.2.2.2.2.1, ⟨by omega, hs.2.2.2.1.2.2.2.2.2.2.1, hs.2.2.2.1.2.2.2.2.2.2.2⟩⟩, ⟨by omega, hs.2.2.2.2.2.1, hs.2.2.2.2.2.2⟩⟩ (by omega) (by omega) (leastD x (nI (x.2.2.2.2.2.2.2 0))) b (by omega) (by omega) (by omega) (by omega))) lk_X7_249 hp.2 (by omega) rfl rfl ⟨by decide, by decide⟩ hl ⟨Nat.zero_le _, Nat.zero_le _⟩ (Nat.le_of_ble_eq_true rfl) rfl dX7_bestStroke_54 (fun H locs h => ?_)
      have hg1 := grTo_lt x (leastD x (nI (x.2.2.2.2.2.2.2 0))) i
      have hg2 := grTo_lt x (leastD x (nI (x.2.2.2.2.2.2.2 0))) b
      refine w_cmp_ge (tgt := 62) kx kb (by omega) (by omega) dX7_bestStroke_57 (by decide) (fun c_3 => ?_) (fun c_3 => ?_)
      · refine lv_iinc (v := nI (i + 1)) (lv' := [(3, .int (nI (i + 1))), (0, .ref (ad 0)), (1, .int (leastD x (nI (x.2.2.2.2.2.2.2 0)))), (2, .int (nI b))]) kx kb dX7_bestStroke_62 hl (k := 3) rfl (nI_add _ _) (by decide) rfl (fun ls hl => ?_)
        refine lv_goto (tgt := 39) kx kb dX7_bestStroke_65 (by decide) ?_
        exact ih (i + 1) b _ _ _ ⟨h, lv_sub hl [1, 2, 3, 0] rfl, by omega, by omega, by rw [show i + 1 - 2 = (i - 2) + 1 by omega, bsN, show i - 2 + 2 = i by omega, ← hS, if_neg (by omega)]⟩ (by omega)
      · refine lv_iload_n kx kb dX7_bestStroke_60 rfl (lv_at hl 3 rfl) ?_
        refine lv_istore_n (lv' := [(2, .int (nI i)), (0, .ref (ad 0)), (1, .int (leastD x (nI (x.2.2.2.2.2.2.2 0)))), (3, .int (nI i))]) kx kb dX7_bestStroke_61 rfl hl (by decide) rfl (fun ls hl => ?_)
        refine lv_iinc (v := nI (i + 1)) (lv' := [(3, .int (nI (i + 1))), (2, .int (nI i)), (0, .ref (ad 0)), (1, .int (leastD x (nI (x.2.2.2.2.2.2.2 0))))]) kx kb dX7_bestStroke_62 hl (k := 3) rfl (nI_add _ _) (by decide) rfl (fun ls hl => ?_)
        refine lv_goto (tgt := 39) kx kb dX7_bestStroke_65 (by decide) ?_
        exact ih (i + 1) i _ _ _ ⟨h, lv_sub hl [2, 3, 1, 0] rfl, by omega, by omega, by rw [show i + 1 - 2 = (i - 2) + 1 by omega, bsN, show i - 2 + 2 = i by omega, ← hS, if_pos c_3]⟩ (by omega)
  · refine lv_bipush (v := (-6)) kx kb dX7_bestStroke_20 (by decide) ?_
    exact w_iret X h ⟨by rw [bestF, if_pos c_1], rfl⟩ dX7_bestStroke_22
set_option maxRecDepth 20000 in
theorem c_X7_isFunnier (l : Launch) (g : gT) {N : Nat} {ad : Nat → Nat} {F : Nat → va_E} (x : SX) (q : Nat → Int32) (hp : oP0 g N ad F q) (hs : oSt g N ad F 1 x) (hn : x.1 ≤ 12) (htn : xtn x ≤ 64) (a b : Nat) (ha : a < x.1) (hb : b < x.1) (hlnn : ∀ k, k < x.1 → lnn (xj x 3 k) (xj x 4 k) (nI (xz x 3)))  : CtI l yX7_isFunnier cX7_isFunnier 7 (some .boolean) 2 44 g N ad F [.ref (ad 0), .int (nI a), .int (nI b)] (fun r F' => r = (bI (fnXb x a b = true)) ∧ F' = F) := by
  refine CtI_of (by decide) (Nat.le_of_ble_eq_true rfl) ?_
  intro p e s m args below meth c A H ls X M h hl
  have kx := X.1.1
  have kb := X.1.2.1
  have hl : lv_has ls 7 [(0, .ref (ad 0)), (1, .int (nI a)), (2, .int (nI b))] := hl
  have hN0 := hp.1
  have htn2 : x.2.2.1 ≤ 64 := htn
  refine lv_aload_n kx kb dX7_isFunnier_0 rfl (lv_at hl 0 rfl) ?_
  refine w_get X M h 0 hp.2 (by omega) fl_X7_12 rfl dX7_isFunnier_1 ?_
  refine lv_iload_n kx kb dX7_isFunnier_4 rfl (lv_at hl 1 rfl) ?_
  refine lv_aload_n kx kb dX7_isFunnier_5 rfl (lv_at hl 0 rfl) ?_
  refine w_get X M h 0 hp.2 (by omega) fl_X7_12 rfl dX7_isFunnier_6 ?_
  refine w_get X M h 1 hs.2.1 (by omega) fl_X7_235 rfl dX7_isFunnier_9 ?_
  refine w_readVf X M h [.int (nI a), .int (nI (x.2.2.2.2.2.2.2 3))] [] ((c_X4_laughOf l g 1 x ⟨by omega, hs.2.1, ⟨by omega, hs.2.2.1.2.1, ⟨by omega, hs.2.2.1.2.2.1.2.1, hs.2.2.1.2.2.1.2.2⟩, ⟨by omega, hs.2.2.1.2.2.2.1.2.1, hs.2.2.1.2.2.2.1.2.2⟩, ⟨by omega, hs.2.2.1.2.2.2.2.1.2.1, hs.2.2.1.2.2.2.2.1.2.2⟩, ⟨by omega, hs.2.2.1.2.2.2.2.2.1.2.1, hs.2.2.1.2.2.2.2.2.1.2.2⟩, ⟨by omega, hs.2.2.1.2.2.2.2.2.2.2.1, hs.2.2.1.2.2.2.2.2.2.2.2⟩⟩, ⟨by omega, hs.2.2.2.1.2.1, ⟨by omega, hs.2.2.2.1.2.2.1.2.1, hs.2.2.2.1.2.2.1.2.2⟩, ⟨by omega, hs.2.2.2.1.2.2.2.1.2.1, hs.2.2.2.1.2.2.2.1.2.2⟩, hs.2.2.2.1.2.2.2.2.1, ⟨by omega, hs.2.2.2.1.2.2.2.2.2.2.1, hs.2.2.2.1.2.2.2.2.2.2.2⟩⟩, ⟨by omega, hs.2.2.2.2.2.1, hs.2.2.2.2.2.2⟩⟩ a (by omega) (nI (x.2.2.2.2.2.2.2 3)) ((hlnn a ha)))) lk_X7_199 hs.2.1 (by omega) rfl rfl ⟨by decide, by decide⟩ hl ⟨Nat.zero_le _, Nat.zero_le _⟩ (Nat.le_of_ble_eq_true rfl) rfl dX7_isFunnier_12 (fun H locs h => ?_)
  refine lv_fstore_n (lv' := [(3, .float (lfO (x.2.1 3 a) (x.2.1 4 a) (nI (x.2.2.2.2.2.2.2 3)))), (0, .ref (ad 0)), (1, .int (nI a)), (2, .int (nI b))]) kx kb dX7_isFunnier_15 rfl hl (by decide) rfl (fun ls hl => ?_)
  refine lv_aload_n kx kb dX7_isFunnier_16 rfl (lv_at hl 1 rfl) ?_
  refine w_get X M h 0 hp.2 (by omega) fl_X7_12 rfl dX7_isFunnier_17 ?_
  refine lv_iload_n kx kb dX7_isFunnier_20 rfl (lv_at hl 3 rfl) ?_
  refine lv_aload_n kx kb dX7_isFunnier_21 rfl (lv_at hl 1 rfl) ?_
  refine w_get X M h 0 hp.2 (by omega) fl_X7_12 rfl dX7_isFunnier_22 ?_
  refine w_get X M h 1 hs.2.1 (by omega) fl_X7_235 rfl dX7_isFunnier_25 ?_
  refine w_readVf X M h [.int (nI b), .int (nI (x.2.2.2.2.2.2.2 3))] [] ((c_X4_laughOf l g 1 x ⟨by omega, hs.2.1, ⟨by omega, hs.2.2.1.2.1, ⟨by omega, hs.2.2.1.2.2.1.2.1, hs.2.2.1.2.2.1.2.2⟩, ⟨by omega, hs.2.2.1.2.2.2.1.2.1, hs.2.2.1.2.2.2.1.2.2⟩, ⟨by omega, hs.2.2.1.2.2.2.2.1.2.1, hs.2.2.1.2.2.2.2.1.2.2⟩, ⟨by omega, hs.2.2.1.2.2.2.2.2.1.2.1, hs.2.2.1.2.2.2.2.2.1.2.2⟩, ⟨by omega, hs.2.2.1.2.2.2.2.2.2.2.1, hs.2.2.1.2.2.2.2.2.2.2.2⟩⟩, ⟨by omega, hs.2.2.2.1.2.1, ⟨by omega, hs.2.2.2.1.2.2.1.2.1, hs.2.2.2.1.2.2.1.2.2⟩, ⟨by omega, hs.2.2.2.1.2.2.2.1.2.1, hs.2.2.2.1.2.2.2.1.2.2⟩, hs.2.2.2.1.2.2.2.2.1, ⟨by omega, hs.2.2.2.1.2.2.2.2.2.2.1, hs.2.2.2.1.2.2.2.2.2.2.2⟩⟩, ⟨by omega, hs.2.2.2.2.2.1, hs.2.2.2.2.2.2⟩⟩ b (by omega) (nI (x.2.2.2.2.2.2.2 3)) ((hlnn b hb)))) lk_X7_199 hs.2.1 (by omega) rfl rfl ⟨by decide, by decide⟩ hl ⟨Nat.zero_le _, Nat.zero_le _⟩ (Nat.le_of_ble_eq_true rfl) rfl dX7_isFunnier_28 (fun H locs h => ?_)
  refine lv_fstore (lv' := [(4, .float (lfO (x.2.1 3 b) (x.2.1 4 b) (nI (x.2.2.2.2.2.2.2 3)))), (3, .float (lfO (x.2.1 3 a) (x.2.1 4 a) (nI (x.2.2.2.2.2.2.2 3)))), (0, .ref (ad 0)), (1, .int (nI a)), (2, .int (nI b))]) kx kb dX7_isFunnier_31 hl (by decide) rfl (fun ls hl => ?_)
  refine lv_fload_n kx kb dX7_isFunnier_33 rfl (lv_at hl 1 rfl) ?_
  refine lv_fload kx kb dX7_isFunnier_34 (lv_at hl 0 rfl) ?_
  refine lv_fcmp kx kb dX7_isFunnier_36 ?_
  refine lv_if_eq (tgt := 53) kx kb dX7_isFunnier_37 (by decide) (fun c_1 => ?_) (fun c_1 => ?_)
  · refine lv_aload_n kx kb dX7_isFunnier_53 rfl (lv_at hl 2 rfl) ?_
    refine w_get X M h 0 hp.2 (by omega) fl_X7_12 rfl dX7_isFunnier_54 ?_
    refine w_get X M h 1 hs.2.1 (by omega) fl_X7_121 rfl dX7_isFunnier_57 ?_
    refine w_get X M h 2 hs.2.2.1.2.1 (by omega) fl_X7_144 rfl dX7_isFunnier_60 ?_
    refine lv_iload_n kx kb dX7_isFunnier_63 rfl (lv_at hl 3 rfl) ?_
    refine w_readVi X M h [.int (nI a)] [] ((c_X3_at_n l g 5 12 (x.2.1 1) a ⟨by omega, hs.2.2.1.2.2.2.1.2.1, hs.2.2.1.2.2.2.1.2.2⟩ (by omega) (by omega))) lk_X7_139 hs.2.2.1.2.2.2.1.2.1 (by omega) rfl rfl ⟨by decide, by decide⟩ hl ⟨Nat.zero_le _, Nat.zero_le _⟩ (Nat.le_of_ble_eq_true rfl) rfl dX7_isFunnier_64 (fun H locs h => ?_)
    refine lv_istore (lv' := [(5, .int ((x.2.1 1) a)), (4, .float (lfO (x.2.1 3 b) (x.2.1 4 b) (nI (x.2.2.2.2.2.2.2 3)))), (3, .float (lfO (x.2.1 3 a) (x.2.1 4 a) (nI (x.2.2.2.2.2.2.2 3)))), (0, .ref (ad 0)), (1, .int (nI a)), (2, .int (nI b))]) kx kb dX7_isFunnier_67 hl (by decide) rfl (fun ls hl => ?_)
    refine lv_aload_n kx kb dX7_isFunnier_69 rfl (lv_at hl 3 rfl) ?_
    refine w_get X M h 0 hp.2 (by omega) fl_X7_12 rfl dX7_isFunnier_70 ?_
    refine w_get X M h 1 hs.2.1 (by omega) fl_X7_121 rfl dX7_isFunnier_73 ?_
    refine w_get X M h 2 hs.2.2.1.2.1 (by omega) fl_X7_144 rfl dX7_isFunnier_76 ?_
    refine lv_iload_n kx kb dX7_isFunnier_79 rfl (lv_at hl 5 rfl) ?_
    refine w_readVi X M h [.int (nI b)] [] ((c_X3_at_n l g 5 12 (x.2.1 1) b ⟨by omega, hs.2.2.1.2.2.2.1.2.1, hs.2.2.1.2.2.2.1.2.2⟩ (by omega) (by omega))) lk_X7_139 hs.2.2.1.2.2.2.1.2.1 (by omega) rfl rfl ⟨by decide, by decide⟩ hl ⟨Nat.zero_le _, Nat.zero_le _⟩ (Nat.le_of_ble_eq_true rfl) rfl dX7_isFunnier_80 (fun H locs h => ?_)
    refine lv_istore (lv' := [(6, .int ((x.2.1 1) b)), (5, .int ((x.2.1 1) a)), (4, .float (lfO (x.2.1 3 b) (x.2.1 4 b) (nI (x.2.2.2.2.2.2.2 3)))), (3, .float (lfO (x.2.1 3 a) (x.2.1 4 a) (nI (x.2.2.2.2.2.2.2 3)))), (0, .ref (ad 0)), (1, .int (nI a)), (2, .int (nI b))]) kx kb dX7_isFunnier_83 hl (by decide) rfl (fun ls hl => ?_)
    refine lv_iload kx kb dX7_isFunnier_85 (lv_at hl 1 rfl) ?_
    refine lv_iload kx kb dX7_isFunnier_87 (lv_at hl 0 rfl) ?_
    refine lv_icmp_eq (tgt := 107) kx kb dX7_isFunnier_89 (by decide) (fun c_2 => ?_) (fun c_2 => ?_)
    · refine lv_iload_n kx kb dX7_isFunnier_107 rfl (lv_at hl 5 rfl) ?_
      refine lv_iload_n kx kb dX7_isFunnier_108 rfl (lv_at hl 6 rfl) ?_
      refine w_cmp_ge (tgt := 116) kx kb (by omega) (by omega) dX7_isFunnier_109 (by decide) (fun c_3 => ?_) (fun c_3 => ?_)
      · refine lv_iconst (v := nI 0) kx kb dX7_isFunnier_116 (by decide) ?_
        exact w_zret X h (Or.inl (by decide)) ⟨bI_fn (by simp [fnXb, laX, xj, xz, c_1, c_2, c_3]), rfl⟩ dX7_isFunnier_117
      · refine lv_iconst (v := nI 1) kx kb dX7_isFunnier_112 (by decide) ?_
        refine lv_goto (tgt := 117) kx kb dX7_isFunnier_113 (by decide) ?_
        exact w_zret X h (Or.inr (by decide)) ⟨bI_tn (by simp [fnXb, laX, xj, xz, c_1, c_2, c_3]), rfl⟩ dX7_isFunnier_117
    · refine lv_iload kx kb dX7_isFunnier_92 (lv_at hl 1 rfl) ?_
      refine lv_iload kx kb dX7_isFunnier_94 (lv_at hl 0 rfl) ?_
      refine lv_icmp_ge (tgt := 103) kx kb dX7_isFunnier_96 (by decide) (fun c_4 => ?_) (fun c_4 => ?_)
      · refine lv_iconst (v := nI 0) kx kb dX7_isFunnier_103 (by decide) ?_
        refine lv_goto (tgt := 117) kx kb dX7_isFunnier_104 (by decide) ?_
        exact w_zret X h (Or.inl (by decide)) ⟨bI_fn (by simp [fnXb, laX, xj, xz, c_1, c_2, Int32.not_lt.mpr c_4]), rfl⟩ dX7_isFunnier_117
      · refine lv_iconst (v := nI 1) kx kb dX7_isFunnier_99 (by decide) ?_
        refine lv_goto (tgt := 117) kx kb dX7_isFunnier_100 (by decide) ?_
        exact w_zret X h (Or.inr (by decide)) ⟨bI_tn (by simp [fnXb, laX, xj, xz, c_1, c_2, Int32.not_le.mp c_4]), rfl⟩ dX7_isFunnier_117
  · refine lv_fload_n kx kb dX7_isFunnier_40 rfl (lv_at hl 1 rfl) ?_
    refine lv_fload kx kb dX7_isFunnier_41 (lv_at hl 0 rfl) ?_
    refine lv_fcmp kx kb dX7_isFunnier_43 ?_
    refine lv_if_le (tgt := 51) kx kb dX7_isFunnier_44 (by decide) (fun c_5 => ?_) (fun c_5 => ?_)
    · refine lv_iconst (v := nI 0) kx kb dX7_isFunnier_51 (by decide) ?_
      exact w_zret X h (Or.inl (by decide)) ⟨bI_fn (by simp [fnXb, laX, xj, xz, c_1, Int32.not_lt.mpr c_5]), rfl⟩ dX7_isFunnier_52
    · refine lv_iconst (v := nI 1) kx kb dX7_isFunnier_47 (by decide) ?_
      refine lv_goto (tgt := 52) kx kb dX7_isFunnier_48 (by decide) ?_
      exact w_zret X h (Or.inr (by decide)) ⟨bI_tn (by simp [fnXb, laX, xj, xz, c_1, Int32.not_le.mp c_5]), rfl⟩ dX7_isFunnier_52
set_option maxRecDepth 20000 in
theorem c_X7_countFunnier (l : Launch) (g : gT) {N : Nat} {ad : Nat → Nat} {F : Nat → va_E} (x : SX) (q : Nat → Int32) (hp : oP0 g N ad F q) (hs : oSt g N ad F 1 x) (hn : x.1 ≤ 12) (htn : xtn x ≤ 64) (a : Nat) (ha : a < x.1) (hlnn : ∀ k, k < x.1 → lnn (xj x 3 k) (xj x 4 k) (nI (xz x 3)))  : CtI l yX7_countFunnier cX7_countFunnier 4 (some .int) 3 70 g N ad F [.ref (ad 0), .int (nI a)] (fun r F' => r = (nI (cnt (fun b => fnXb x b a) x.1)) ∧ F' = F) := by
  refine CtI_of (by decide) (Nat.le_of_ble_eq_true rfl) ?_
  intro p e s m args below meth c A H ls X M h hl
  have kx := X.1.1
  have kb := X.1.2.1
  have hl : lv_has ls 4 [(0, .ref (ad 0)), (1, .int (nI a))] := hl
  have hN0 := hp.1
  have htn2 : x.2.2.1 ≤ 64 := htn
  refine lv_iconst (v := nI 0) kx kb dX7_countFunnier_0 (by decide) ?_
  refine lv_istore_n (lv' := [(2, .int (nI 0)), (0, .ref (ad 0)), (1, .int (nI a))]) kx kb dX7_countFunnier_1 rfl hl (by decide) rfl (fun ls hl => ?_)
  refine lv_iconst (v := nI 0) kx kb dX7_countFunnier_2 (by decide) ?_
  refine lv_istore_n (lv' := [(3, .int (nI 0)), (2, .int (nI 0)), (0, .ref (ad 0)), (1, .int (nI a))]) kx kb dX7_countFunnier_3 rfl hl (by decide) rfl (fun ls hl => ?_)
  refine w_loop2 (fun (k : Nat) (v : Int32) => x.1 - k) (fun (k : Nat) (v : Int32) H locs ls => Hx g N ad F A s H locs ∧ lv_has ls 4 [(0, .ref (ad 0)), (1, .int (nI a)), (2, .int v), (3, .int (nI k))] ∧ (k ≤ x.1) ∧ (v = nI (cnt (fun b => fnXb x b a) k))) ?_ 0 (nI 0) ⟨h, lv_sub hl [2, 3, 1, 0] rfl, Nat.zero_le _, rfl⟩
  intro k v H locs ls hinv ih
  obtain ⟨h, hl, hk, hv⟩ := hinv
  refine lv_iload_n kx kb dX7_countFunnier_4 rfl (lv_at hl 3 rfl) ?_
  refine lv_aload_n kx kb dX7_countFunnier_5 rfl (lv_at hl 0 rfl) ?_
  refine w_get X M h 0 hp.2 (by omega) fl_X7_12 rfl dX7_countFunnier_6 ?_
  refine w_get X M h 1 hs.2.1 (by omega) fl_X7_121 rfl dX7_countFunnier_9 ?_
  refine w_get X M h 2 hs.2.2.1.2.1 (by omega) fl_X7_125 rfl dX7_countFunnier_12 ?_
  refine w_cmp_ge (tgt := 36) kx kb (by omega) (by omega) dX7_countFunnier_15 (by decide) (fun c_1 => ?_) (fun c_1 => ?_)
  · refine lv_iload_n kx kb dX7_countFunnier_36 rfl (lv_at hl 2 rfl) ?_
    exact w_iret X h ⟨by rw [hv, show k = x.1 by omega], rfl⟩ dX7_countFunnier_37
  · refine lv_aload_n kx kb dX7_countFunnier_18 rfl (lv_at hl 0 rfl) ?_
    refine lv_iload_n kx kb dX7_countFunnier_19 rfl (lv_at hl 3 rfl) ?_
    refine lv_iload_n kx kb dX7_countFunnier_20 rfl (lv_at hl 1 rfl) ?_
    refine w_readVi X M h [.int (nI k), .int (nI a)] [] ((c_X7_isFunnier l g x q ⟨by omega, hp.2⟩ ⟨by omega, hs.2.1, ⟨by omega, hs.2.2.1.2.1, ⟨by omega, hs.2.2.1.2.2.1.2.1, hs.2.2.1.2.2.1.2.2⟩, ⟨by omega, hs.2.2.1.2.2.2.1.2.1, hs.2.2.1.2.2.2.1.2.2⟩, ⟨by omega, hs.2.2.1.2.2.2.2.1.2.1, hs.2.2.1.2.2.2.2.1.2.2⟩, ⟨by omega, hs.2.2.1.2.2.2.2.2.1.2.1, hs.2.2.1.2.2.2.2.2.1.2.2⟩, ⟨by omega, hs.2.2.1.2.2.2.2.2.2.2.1, hs.2.2.1.2.2.2.2.2.2.2.2⟩⟩, ⟨by omega, hs.2.2.2.1.2.1, ⟨by omega, hs.2.2.2.1.2.2.1.2.1, hs.2.2.2.1.2.2.1.2.2⟩, ⟨by omega, hs.2.2.2.1.2.2.2.1.2.1, hs.2.2.2.1.2.2.2.1.2.2⟩, hs.2.2.2.1.2.2.2.2.1, ⟨by omega, hs.2.2.2.1.2.2.2.2.2.2.1, hs.2.2.2.1.2.2.2.2.2.2.2⟩⟩, ⟨by omega, hs.2.2.2.2.2.1, hs.2.2.2.2.2.2⟩⟩ (by omega) (by omega) k a (by omega) (by omega) hlnn)) lk_X7_338 hp.2 (by omega) rfl rfl ⟨by decide, by decide⟩ hl ⟨Nat.zero_le _, Nat.zero_le _⟩ (Nat.le_of_ble_eq_true rfl) rfl dX7_countFunnier_21 (fun H locs h => ?_)
    refine w_if_eqb (tgt := 30) kx kb dX7_countFunnier_24 (by decide) (fun c_2 => ?_) (fun c_2 => ?_)
    · refine lv_iinc (v := nI (k + 1)) (lv' := [(3, .int (nI (k + 1))), (0, .ref (ad 0)), (1, .int (nI a)), (2, .int v)]) kx kb dX7_countFunnier_30 hl (k := 3) rfl (nI_add _ _) (by decide) rfl (fun ls hl => ?_)
      refine lv_goto (tgt := 4) kx kb dX7_countFunnier_33 (by decide) ?_
      exact ih (k + 1) v _ _ _ ⟨h, lv_sub hl [1, 2, 3, 0] rfl, by omega, by rw [hv, cnt_f (by simpa using c_2)]⟩ (by omega)
    · refine lv_iinc (v := v + 1) (lv' := [(2, .int (v + 1)), (0, .ref (ad 0)), (1, .int (nI a)), (3, .int (nI k))]) kx kb dX7_countFunnier_27 hl (k := 2) rfl (rfl) (by decide) rfl (fun ls hl => ?_)
      refine lv_iinc (v := nI (k + 1)) (lv' := [(3, .int (nI (k + 1))), (2, .int (v + 1)), (0, .ref (ad 0)), (1, .int (nI a))]) kx kb dX7_countFunnier_30 hl (k := 3) rfl (nI_add _ _) (by decide) rfl (fun ls hl => ?_)
      refine lv_goto (tgt := 4) kx kb dX7_countFunnier_33 (by decide) ?_
      exact ih (k + 1) (v + 1) _ _ _ ⟨h, lv_sub hl [2, 3, 1, 0] rfl, by omega, by rw [hv, nI_1, cnt_t (by simpa using c_2)]⟩ (by omega)
set_option maxRecDepth 20000 in
theorem c_X7_funniest (l : Launch) (g : gT) {N : Nat} {ad : Nat → Nat} {F : Nat → va_E} (x : SX) (q : Nat → Int32) (hp : oP0 g N ad F q) (hs : oSt g N ad F 1 x) (hn : x.1 ≤ 12) (htn : xtn x ≤ 64) (pl : Int32) (hlnn : ∀ k, k < x.1 → lnn (xj x 3 k) (xj x 4 k) (nI (xz x 3)))  : CtI l yX7_funniest cX7_funniest 3 (some .int) 4 93 g N ad F [.ref (ad 0), .int pl] (fun r F' => r = (funniestF x pl) ∧ F' = F) := by
  refine CtI_of (by decide) (Nat.le_of_ble_eq_true rfl) ?_
  intro p e s m args below meth c A H ls X M h hl
  have kx := X.1.1
  have kb := X.1.2.1
  have hl : lv_has ls 3 [(0, .ref (ad 0)), (1, .int pl)] := hl
  have hN0 := hp.1
  have htn2 : x.2.2.1 ≤ 64 := htn
  refine lv_iconst (v := nI 0) kx kb dX7_funniest_0 (by decide) ?_
  refine lv_istore_n (lv' := [(2, .int (nI 0)), (0, .ref (ad 0)), (1, .int pl)]) kx kb dX7_funniest_1 rfl hl (by decide) rfl (fun ls hl => ?_)
  refine w_loop1 (fun (k : Nat) => x.1 - k) (fun (k : Nat) H locs ls => Hx g N ad F A s H locs ∧ lv_has ls 3 [(0, .ref (ad 0)), (1, .int pl), (2, .int (nI k))] ∧ (k ≤ x.1) ∧ (∀ z, z < k → (fun a => decide (nI (cnt (fun b => fnXb x b a) x.1) = pl)) z = false)) ?_ 0 ⟨h, lv_sub hl [1, 2, 0] rfl, Nat.zero_le _, fun z hz => absurd hz (Nat.not_lt_zero z)⟩
  intro k H locs ls hinv ih
  obtain ⟨h, hl, hk, hno⟩ := hinv
  refine lv_iload_n kx kb dX7_funniest_2 rfl (lv_at hl 2 rfl) ?_
  refine lv_aload_n kx kb dX7_funniest_3 rfl (lv_at hl 0 rfl) ?_
  refine w_get X M h 0 hp.2 (by omega) fl_X7_12 rfl dX7_funniest_4 ?_
  refine w_get X M h 1 hs.2.1 (by omega) fl_X7_121 rfl dX7_funniest_7 ?_
  refine w_get X M h 2 hs.2.2.1.2.1 (by omega) fl_X7_125 rfl dX7_funniest_10 ?_
  refine w_cmp_ge (tgt := 33) kx kb (by omega) (by omega) dX7_funniest_13 (by decide) (fun c_1 => ?_) (fun c_1 => ?_)
  · refine lv_iconst (v := (-1)) kx kb dX7_funniest_33 (by decide) ?_
    exact w_iret X h ⟨(ixO_no (fun z hz => hno z (by omega))).symm, rfl⟩ dX7_funniest_34
  · refine lv_aload_n kx kb dX7_funniest_16 rfl (lv_at hl 0 rfl) ?_
    refine lv_iload_n kx kb dX7_funniest_17 rfl (lv_at hl 2 rfl) ?_
    refine w_readVi X M h [.int (nI k)] [] ((c_X7_countFunnier l g x q ⟨by omega, hp.2⟩ ⟨by omega, hs.2.1, ⟨by omega, hs.2.2.1.2.1, ⟨by omega, hs.2.2.1.2.2.1.2.1, hs.2.2.1.2.2.1.2.2⟩, ⟨by omega, hs.2.2.1.2.2.2.1.2.1, hs.2.2.1.2.2.2.1.2.2⟩, ⟨by omega, hs.2.2.1.2.2.2.2.1.2.1, hs.2.2.1.2.2.2.2.1.2.2⟩, ⟨by omega, hs.2.2.1.2.2.2.2.2.1.2.1, hs.2.2.1.2.2.2.2.2.1.2.2⟩, ⟨by omega, hs.2.2.1.2.2.2.2.2.2.2.1, hs.2.2.1.2.2.2.2.2.2.2.2⟩⟩, ⟨by omega, hs.2.2.2.1.2.1, ⟨by omega, hs.2.2.2.1.2.2.1.2.1, hs.2.2.2.1.2.2.1.2.2⟩, ⟨by omega, hs.2.2.2.1.2.2.2.1.2.1, hs.2.2.2.1.2.2.2.1.2.2⟩, hs.2.2.2.1.2.2.2.2.1, ⟨by omega, hs.2.2.2.1.2.2.2.2.2.2.1, hs.2.2.2.1.2.2.2.2.2.2.2⟩⟩, ⟨by omega, hs.2.2.2.2.2.1, hs.2.2.2.2.2.2⟩⟩ (by omega) (by omega) k (by omega) hlnn)) lk_X7_190 hp.2 (by omega) rfl rfl ⟨by decide, by decide⟩ hl ⟨Nat.zero_le _, Nat.zero_le _⟩ (Nat.le_of_ble_eq_true rfl) rfl dX7_funniest_18 (fun H locs h => ?_)
    refine lv_iload_n kx kb dX7_funniest_21 rfl (lv_at hl 1 rfl) ?_
    refine lv_icmp_ne (tgt := 27) kx kb dX7_funniest_22 (by decide) (fun c_2 => ?_) (fun c_2 => ?_)
    · refine lv_iinc (v := nI (k + 1)) (lv' := [(2, .int (nI (k + 1))), (0, .ref (ad 0)), (1, .int pl)]) kx kb dX7_funniest_27 hl (k := 2) rfl (nI_add _ _) (by decide) rfl (fun ls hl => ?_)
      refine lv_goto (tgt := 2) kx kb dX7_funniest_30 (by decide) ?_
      exact ih (k + 1) _ _ _ ⟨h, lv_sub hl [1, 2, 0] rfl, by omega, fun z hz => by
          rcases Nat.lt_or_ge z k with y | y
          · exact hno z y
          · have e : z = k := by omega
            subst e
            simp [c_2]⟩ (by omega)
    · refine lv_iload_n kx kb dX7_funniest_25 rfl (lv_at hl 2 rfl) ?_
      exact w_iret X h ⟨(ixO_at (by omega) hno (by simp [c_2])).symm, rfl⟩ dX7_funniest_26
set_option maxRecDepth 20000 in
theorem c_X7_isFuller (l : Launch) (g : gT) {N : Nat} {ad : Nat → Nat} {F : Nat → va_E} (x : SX) (q : Nat → Int32) (hp : oP0 g N ad F q) (hs : oSt g N ad F 1 x) (hn : x.1 ≤ 12) (htn : xtn x ≤ 64) (a b : Nat) (ha : a < 4) (hb : b < 4) (hbk : ∀ k, xbk x k ≤ 1000)  : CtI l yX7_isFuller cX7_isFuller 7 (some .boolean) 3 66 g N ad F [.ref (ad 0), .int (nI a), .int (nI b)] (fun r F' => r = (bI (flXb x a b = true)) ∧ F' = F) := by
  refine CtI_of (by decide) (Nat.le_of_ble_eq_true rfl) ?_
  intro p e s m args below meth c A H ls X M h hl
  have kx := X.1.1
  have kb := X.1.2.1
  have hl : lv_has ls 7 [(0, .ref (ad 0)), (1, .int (nI a)), (2, .int (nI b))] := hl
  have hN0 := hp.1
  have htn2 : x.2.2.1 ≤ 64 := htn
  have zb : ∀ k, x.2.2.2.2.2.2.1 k ≤ 1000 := hbk
  have hca := cnt_le (cwP x.2.1 (nI a) (nI 30)) x.1
  have hcb := cnt_le (cwP x.2.1 (nI b) (nI 30)) x.1
  have zba := zb a
  have zbb := zb b
  refine lv_aload_n kx kb dX7_isFuller_0 rfl (lv_at hl 0 rfl) ?_
  refine w_get X M h 0 hp.2 (by omega) fl_X7_12 rfl dX7_isFuller_1 ?_
  refine w_get X M h 1 hs.2.1 (by omega) fl_X7_121 rfl dX7_isFuller_4 ?_
  refine lv_iload_n kx kb dX7_isFuller_7 rfl (lv_at hl 1 rfl) ?_
  refine w_readVi X M h [.int (nI a)] [] ((c_X1_countIn l g 2 x.1 x.2.1 ⟨by omega, hs.2.2.1.2.1, ⟨by omega, hs.2.2.1.2.2.1.2.1, hs.2.2.1.2.2.1.2.2⟩, ⟨by omega, hs.2.2.1.2.2.2.1.2.1, hs.2.2.1.2.2.2.1.2.2⟩, ⟨by omega, hs.2.2.1.2.2.2.2.1.2.1, hs.2.2.1.2.2.2.2.1.2.2⟩, ⟨by omega, hs.2.2.1.2.2.2.2.2.1.2.1, hs.2.2.1.2.2.2.2.2.1.2.2⟩, ⟨by omega, hs.2.2.1.2.2.2.2.2.2.2.1, hs.2.2.1.2.2.2.2.2.2.2.2⟩⟩ (by omega) (nI a))) lk_X7_165 hs.2.2.1.2.1 (by omega) rfl rfl ⟨by decide, by decide⟩ hl ⟨Nat.zero_le _, Nat.zero_le _⟩ (Nat.le_of_ble_eq_true rfl) rfl dX7_isFuller_8 (fun H locs h => ?_)
  refine lv_istore_n (lv' := [(3, .int (nI (cnt (cwP x.2.1 (nI a) (nI 30)) x.1))), (0, .ref (ad 0)), (1, .int (nI a)), (2, .int (nI b))]) kx kb dX7_isFuller_11 rfl hl (by decide) rfl (fun ls hl => ?_)
  refine lv_aload_n kx kb dX7_isFuller_12 rfl (lv_at hl 1 rfl) ?_
  refine w_get X M h 0 hp.2 (by omega) fl_X7_12 rfl dX7_isFuller_13 ?_
  refine w_get X M h 1 hs.2.1 (by omega) fl_X7_121 rfl dX7_isFuller_16 ?_
  refine lv_iload_n kx kb dX7_isFuller_19 rfl (lv_at hl 3 rfl) ?_
  refine w_readVi X M h [.int (nI b)] [] ((c_X1_countIn l g 2 x.1 x.2.1 ⟨by omega, hs.2.2.1.2.1, ⟨by omega, hs.2.2.1.2.2.1.2.1, hs.2.2.1.2.2.1.2.2⟩, ⟨by omega, hs.2.2.1.2.2.2.1.2.1, hs.2.2.1.2.2.2.1.2.2⟩, ⟨by omega, hs.2.2.1.2.2.2.2.1.2.1, hs.2.2.1.2.2.2.2.1.2.2⟩, ⟨by omega, hs.2.2.1.2.2.2.2.2.1.2.1, hs.2.2.1.2.2.2.2.2.1.2.2⟩, ⟨by omega, hs.2.2.1.2.2.2.2.2.2.2.1, hs.2.2.1.2.2.2.2.2.2.2.2⟩⟩ (by omega) (nI b))) lk_X7_165 hs.2.2.1.2.1 (by omega) rfl rfl ⟨by decide, by decide⟩ hl ⟨Nat.zero_le _, Nat.zero_le _⟩ (Nat.le_of_ble_eq_true rfl) rfl dX7_isFuller_20 (fun H locs h => ?_)
  refine lv_istore (lv' := [(4, .int (nI (cnt (cwP x.2.1 (nI b) (nI 30)) x.1))), (3, .int (nI (cnt (cwP x.2.1 (nI a) (nI 30)) x.1))), (0, .ref (ad 0)), (1, .int (nI a)), (2, .int (nI b))]) kx kb dX7_isFuller_23 hl (by decide) rfl (fun ls hl => ?_)
  refine lv_iload_n kx kb dX7_isFuller_25 rfl (lv_at hl 1 rfl) ?_
  refine lv_iload kx kb dX7_isFuller_26 (lv_at hl 0 rfl) ?_
  refine w_cmp_eq (tgt := 43) kx kb (by omega) (by omega) dX7_isFuller_28 (by decide) (fun c_1 => ?_) (fun c_1 => ?_)
  · refine lv_aload_n kx kb dX7_isFuller_43 rfl (lv_at hl 2 rfl) ?_
    refine w_get X M h 0 hp.2 (by omega) fl_X7_12 rfl dX7_isFuller_44 ?_
    refine w_get X M h 1 hs.2.1 (by omega) fl_X7_162 rfl dX7_isFuller_47 ?_
    refine lv_iload_n kx kb dX7_isFuller_50 rfl (lv_at hl 3 rfl) ?_
    refine w_readVi X M h [.int (nI a)] [] ((c_X3_at_n l g 21 4 (fun k => nI (x.2.2.2.2.2.2.1 k)) a ⟨by omega, hs.2.2.2.2.2.1, hs.2.2.2.2.2.2⟩ (by omega) (by omega))) lk_X7_139 hs.2.2.2.2.2.1 (by omega) rfl rfl ⟨by decide, by decide⟩ hl ⟨Nat.zero_le _, Nat.zero_le _⟩ (Nat.le_of_ble_eq_true rfl) rfl dX7_isFuller_51 (fun H locs h => ?_)
    refine lv_istore (lv' := [(5, .int (nI (x.2.2.2.2.2.2.1 a))), (4, .int (nI (cnt (cwP x.2.1 (nI b) (nI 30)) x.1))), (3, .int (nI (cnt (cwP x.2.1 (nI a) (nI 30)) x.1))), (0, .ref (ad 0)), (1, .int (nI a)), (2, .int (nI b))]) kx kb dX7_isFuller_54 hl (by decide) rfl (fun ls hl => ?_)
    refine lv_aload_n kx kb dX7_isFuller_56 rfl (lv_at hl 3 rfl) ?_
    refine w_get X M h 0 hp.2 (by omega) fl_X7_12 rfl dX7_isFuller_57 ?_
    refine w_get X M h 1 hs.2.1 (by omega) fl_X7_162 rfl dX7_isFuller_60 ?_
    refine lv_iload_n kx kb dX7_isFuller_63 rfl (lv_at hl 5 rfl) ?_
    refine w_readVi X M h [.int (nI b)] [] ((c_X3_at_n l g 21 4 (fun k => nI (x.2.2.2.2.2.2.1 k)) b ⟨by omega, hs.2.2.2.2.2.1, hs.2.2.2.2.2.2⟩ (by omega) (by omega))) lk_X7_139 hs.2.2.2.2.2.1 (by omega) rfl rfl ⟨by decide, by decide⟩ hl ⟨Nat.zero_le _, Nat.zero_le _⟩ (Nat.le_of_ble_eq_true rfl) rfl dX7_isFuller_64 (fun H locs h => ?_)
    refine lv_istore (lv' := [(6, .int (nI (x.2.2.2.2.2.2.1 b))), (5, .int (nI (x.2.2.2.2.2.2.1 a))), (4, .int (nI (cnt (cwP x.2.1 (nI b) (nI 30)) x.1))), (3, .int (nI (cnt (cwP x.2.1 (nI a) (nI 30)) x.1))), (0, .ref (ad 0)), (1, .int (nI a)), (2, .int (nI b))]) kx kb dX7_isFuller_67 hl (by decide) rfl (fun ls hl => ?_)
    refine lv_iload kx kb dX7_isFuller_69 (lv_at hl 1 rfl) ?_
    refine lv_iload kx kb dX7_isFuller_71 (lv_at hl 0 rfl) ?_
    refine w_cmp_eq (tgt := 91) kx kb (by omega) (by omega) dX7_isFuller_73 (by decide) (fun c_2 => ?_) (fun c_2 => ?_)
    · refine lv_iload_n kx kb dX7_isFuller_91 rfl (lv_at hl 5 rfl) ?_
      refine lv_iload_n kx kb dX7_isFuller_92 rfl (lv_at hl 6 rfl) ?_
      refine w_cmp_ge (tgt := 100) kx kb (by omega) (by omega) dX7_isFuller_93 (by decide) (fun c_3 => ?_) (fun c_3 => ?_)
      · refine lv_iconst (v := nI 0) kx kb dX7_isFuller_100 (by decide) ?_
        exact w_zret X h (Or.inl (by decide)) ⟨bI_fn (by simp only [flXb, xj, xbk]; (repeat split) <;> simp <;> omega), rfl⟩ dX7_isFuller_101
      · refine lv_iconst (v := nI 1) kx kb dX7_isFuller_96 (by decide) ?_
        refine lv_goto (tgt := 101) kx kb dX7_isFuller_97 (by decide) ?_
        exact w_zret X h (Or.inr (by decide)) ⟨bI_tn (by simp only [flXb, xj, xbk]; (repeat split) <;> simp <;> omega), rfl⟩ dX7_isFuller_101
    · refine lv_iload kx kb dX7_isFuller_76 (lv_at hl 1 rfl) ?_
      refine lv_iload kx kb dX7_isFuller_78 (lv_at hl 0 rfl) ?_
      refine w_cmp_le (tgt := 87) kx kb (by omega) (by omega) dX7_isFuller_80 (by decide) (fun c_4 => ?_) (fun c_4 => ?_)
      · refine lv_iconst (v := nI 0) kx kb dX7_isFuller_87 (by decide) ?_
        refine lv_goto (tgt := 101) kx kb dX7_isFuller_88 (by decide) ?_
        exact w_zret X h (Or.inl (by decide)) ⟨bI_fn (by simp only [flXb, xj, xbk]; (repeat split) <;> simp <;> omega), rfl⟩ dX7_isFuller_101
      · refine lv_iconst (v := nI 1) kx kb dX7_isFuller_83 (by decide) ?_
        refine lv_goto (tgt := 101) kx kb dX7_isFuller_84 (by decide) ?_
        exact w_zret X h (Or.inr (by decide)) ⟨bI_tn (by simp only [flXb, xj, xbk]; (repeat split) <;> simp <;> omega), rfl⟩ dX7_isFuller_101
  · refine lv_iload_n kx kb dX7_isFuller_31 rfl (lv_at hl 1 rfl) ?_
    refine lv_iload kx kb dX7_isFuller_32 (lv_at hl 0 rfl) ?_
    refine w_cmp_le (tgt := 41) kx kb (by omega) (by omega) dX7_isFuller_34 (by decide) (fun c_5 => ?_) (fun c_5 => ?_)
    · refine lv_iconst (v := nI 0) kx kb dX7_isFuller_41 (by decide) ?_
      exact w_zret X h (Or.inl (by decide)) ⟨bI_fn (by simp only [flXb, xj, xbk]; (repeat split) <;> simp <;> omega), rfl⟩ dX7_isFuller_42
    · refine lv_iconst (v := nI 1) kx kb dX7_isFuller_37 (by decide) ?_
      refine lv_goto (tgt := 42) kx kb dX7_isFuller_38 (by decide) ?_
      exact w_zret X h (Or.inr (by decide)) ⟨bI_tn (by simp only [flXb, xj, xbk]; (repeat split) <;> simp <;> omega), rfl⟩ dX7_isFuller_42
set_option maxRecDepth 20000 in
theorem c_X7_countFuller (l : Launch) (g : gT) {N : Nat} {ad : Nat → Nat} {F : Nat → va_E} (x : SX) (q : Nat → Int32) (hp : oP0 g N ad F q) (hs : oSt g N ad F 1 x) (hn : x.1 ≤ 12) (htn : xtn x ≤ 64) (a : Nat) (ha : a < 4) (hbk : ∀ k, xbk x k ≤ 1000)  : CtI l yX7_countFuller cX7_countFuller 4 (some .int) 4 92 g N ad F [.ref (ad 0), .int (nI a)] (fun r F' => r = (nI (cnt (fun b => flXb x b a) 4)) ∧ F' = F) := by
  refine CtI_of (by decide) (Nat.le_of_ble_eq_true rfl) ?_
  intro p e s m args below meth c A H ls X M h hl
  have kx := X.1.1
  have kb := X.1.2.1
  have hl : lv_has ls 4 [(0, .ref (ad 0)), (1, .int (nI a))] := hl
  have hN0 := hp.1
  have htn2 : x.2.2.1 ≤ 64 := htn
  refine lv_iconst (v := nI 0) kx kb dX7_countFuller_0 (by decide) ?_
  refine lv_istore_n (lv' := [(2, .int (nI 0)), (0, .ref (ad 0)), (1, .int (nI a))]) kx kb dX7_countFuller_1 rfl hl (by decide) rfl (fun ls hl => ?_)
  refine lv_iconst (v := nI 0) kx kb dX7_countFuller_2 (by decide) ?_
  refine lv_istore_n (lv' := [(3, .int (nI 0)), (2, .int (nI 0)), (0, .ref (ad 0)), (1, .int (nI a))]) kx kb dX7_countFuller_3 rfl hl (by decide) rfl (fun ls hl => ?_)
  refine w_loop2 (fun (k : Nat) (v : Int32) => 4 - k) (fun (k : Nat) (v : Int32) H locs ls => Hx g N ad F A s H locs ∧ lv_has ls 4 [(0, .ref (ad 0)), (1, .int (nI a)), (2, .int v), (3, .int (nI k))] ∧ (k ≤ 4) ∧ (v = nI (cnt (fun b => flXb x b a) k))) ?_ 0 (nI 0) ⟨h, lv_sub hl [2, 3, 1, 0] rfl, Nat.zero_le _, rfl⟩
  intro k v H locs ls hinv ih
  obtain ⟨h, hl, hk, hv⟩ := hinv
  refine lv_iload_n kx kb dX7_countFuller_4 rfl (lv_at hl 3 rfl) ?_
  refine lv_iconst (v := nI 4) kx kb dX7_countFuller_5 (by decide) ?_
  refine w_cmp_ge (tgt := 27) kx kb (by omega) (by omega) dX7_countFuller_6 (by decide) (fun c_1 => ?_) (fun c_1 => ?_)
  · refine lv_iload_n kx kb dX7_countFuller_27 rfl (lv_at hl 2 rfl) ?_
    exact w_iret X h ⟨by rw [hv, show k = 4 by omega], rfl⟩ dX7_countFuller_28
  · refine lv_aload_n kx kb dX7_countFuller_9 rfl (lv_at hl 0 rfl) ?_
    refine lv_iload_n kx kb dX7_countFuller_10 rfl (lv_at hl 3 rfl) ?_
    refine lv_iload_n kx kb dX7_countFuller_11 rfl (lv_at hl 1 rfl) ?_
    refine w_readVi X M h [.int (nI k), .int (nI a)] [] ((c_X7_isFuller l g x q ⟨by omega, hp.2⟩ ⟨by omega, hs.2.1, ⟨by omega, hs.2.2.1.2.1, ⟨by omega, hs.2.2.1.2.2.1.2.1, hs.2.2.1.2.2.1.2.2⟩, ⟨by omega, hs.2.2.1.2.2.2.1.2.1, hs.2.2.1.2.2.2.1.2.2⟩, ⟨by omega, hs.2.2.1.2.2.2.2.1.2.1, hs.2.2.1.2.2.2.2.1.2.2⟩, ⟨by omega, hs.2.2.1.2.2.2.2.2.1.2.1, hs.2.2.1.2.2.2.2.2.1.2.2⟩, ⟨by omega, hs.2.2.1.2.2.2.2.2.2.2.1, hs.2.2.1.2.2.2.2.2.2.2.2⟩⟩, ⟨by omega, hs.2.2.2.1.2.1, ⟨by omega, hs.2.2.2.1.2.2.1.2.1, hs.2.2.2.1.2.2.1.2.2⟩, ⟨by omega, hs.2.2.2.1.2.2.2.1.2.1, hs.2.2.2.1.2.2.2.1.2.2⟩, hs.2.2.2.1.2.2.2.2.1, ⟨by omega, hs.2.2.2.1.2.2.2.2.2.2.1, hs.2.2.2.1.2.2.2.2.2.2.2⟩⟩, ⟨by omega, hs.2.2.2.2.2.1, hs.2.2.2.2.2.2⟩⟩ (by omega) (by omega) k a (by omega) (by omega) hbk)) lk_X7_342 hp.2 (by omega) rfl rfl ⟨by decide, by decide⟩ hl ⟨Nat.zero_le _, Nat.zero_le _⟩ (Nat.le_of_ble_eq_true rfl) rfl dX7_countFuller_12 (fun H locs h => ?_)
    refine w_if_eqb (tgt := 21) kx kb dX7_countFuller_15 (by decide) (fun c_2 => ?_) (fun c_2 => ?_)
    · refine lv_iinc (v := nI (k + 1)) (lv' := [(3, .int (nI (k + 1))), (0, .ref (ad 0)), (1, .int (nI a)), (2, .int v)]) kx kb dX7_countFuller_21 hl (k := 3) rfl (nI_add _ _) (by decide) rfl (fun ls hl => ?_)
      refine lv_goto (tgt := 4) kx kb dX7_countFuller_24 (by decide) ?_
      exact ih (k + 1) v _ _ _ ⟨h, lv_sub hl [1, 2, 3, 0] rfl, by omega, by rw [hv, cnt_f (by simpa using c_2)]⟩ (by omega)
    · refine lv_iinc (v := v + 1) (lv' := [(2, .int (v + 1)), (0, .ref (ad 0)), (1, .int (nI a)), (3, .int (nI k))]) kx kb dX7_countFuller_18 hl (k := 2) rfl (rfl) (by decide) rfl (fun ls hl => ?_)
      refine lv_iinc (v := nI (k + 1)) (lv' := [(3, .int (nI (k + 1))), (2, .int (v + 1)), (0, .ref (ad 0)), (1, .int (nI a))]) kx kb dX7_countFuller_21 hl (k := 3) rfl (nI_add _ _) (by decide) rfl (fun ls hl => ?_)
      refine lv_goto (tgt := 4) kx kb dX7_countFuller_24 (by decide) ?_
      exact ih (k + 1) (v + 1) _ _ _ ⟨h, lv_sub hl [2, 3, 1, 0] rfl, by omega, by rw [hv, nI_1, cnt_t (by simpa using c_2)]⟩ (by omega)
set_option maxRecDepth 20000 in
theorem c_X7_fullest (l : Launch) (g : gT) {N : Nat} {ad : Nat → Nat} {F : Nat → va_E} (x : SX) (q : Nat → Int32) (hp : oP0 g N ad F q) (hs : oSt g N ad F 1 x) (hn : x.1 ≤ 12) (htn : xtn x ≤ 64) (pl : Int32) (hbk : ∀ k, xbk x k ≤ 1000)  : CtI l yX7_fullest cX7_fullest 3 (some .int) 5 115 g N ad F [.ref (ad 0), .int pl] (fun r F' => r = (fullestF x pl) ∧ F' = F) := by
  refine CtI_of (by decide) (Nat.le_of_ble_eq_true rfl) ?_
  intro p e s m args below meth c A H ls X M h hl
  have kx := X.1.1
  have kb := X.1.2.1
  have hl : lv_has ls 3 [(0, .ref (ad 0)), (1, .int pl)] := hl
  have hN0 := hp.1
  have htn2 : x.2.2.1 ≤ 64 := htn
  refine lv_iconst (v := nI 0) kx kb dX7_fullest_0 (by decide) ?_
  refine lv_istore_n (lv' := [(2, .int (nI 0)), (0, .ref (ad 0)), (1, .int pl)]) kx kb dX7_fullest_1 rfl hl (by decide) rfl (fun ls hl => ?_)
  refine w_loop1 (fun (k : Nat) => 4 - k) (fun (k : Nat) H locs ls => Hx g N ad F A s H locs ∧ lv_has ls 3 [(0, .ref (ad 0)), (1, .int pl), (2, .int (nI k))] ∧ (k ≤ 4) ∧ (∀ z, z < k → (fun a => decide (nI (cnt (fun b => flXb x b a) 4) = pl)) z = false)) ?_ 0 ⟨h, lv_sub hl [1, 2, 0] rfl, Nat.zero_le _, fun z hz => absurd hz (Nat.not_lt_zero z)⟩
  intro k H locs ls hinv ih
  obtain ⟨h, hl, hk, hno⟩ := hinv
  refine lv_iload_n kx kb dX7_fullest_2 rfl (lv_at hl 2 rfl) ?_
  refine lv_iconst (v := nI 4) kx kb dX7_fullest_3 (by decide) ?_
  refine w_cmp_ge (tgt := 24) kx kb (by omega) (by omega) dX7_fullest_4 (by decide) (fun c_1 => ?_) (fun c_1 => ?_)
  · refine lv_iconst (v := (-1)) kx kb dX7_fullest_24 (by decide) ?_
    exact w_iret X h ⟨(ixO_no (fun z hz => hno z (by omega))).symm, rfl⟩ dX7_fullest_25
  · refine lv_aload_n kx kb dX7_fullest_7 rfl (lv_at hl 0 rfl) ?_
    refine lv_iload_n kx kb dX7_fullest_8 rfl (lv_at hl 2 rfl) ?_
    refine w_readVi X M h [.int (nI k)] [] ((c_X7_countFuller l g x q ⟨by omega, hp.2⟩ ⟨by omega, hs.2.1, ⟨by omega, hs.2.2.1.2.1, ⟨by omega, hs.2.2.1.2.2.1.2.1, hs.2.2.1.2.2.1.2.2⟩, ⟨by omega, hs.2.2.1.2.2.2.1.2.1, hs.2.2.1.2.2.2.1.2.2⟩, ⟨by omega, hs.2.2.1.2.2.2.2.1.2.1, hs.2.2.1.2.2.2.2.1.2.2⟩, ⟨by omega, hs.2.2.1.2.2.2.2.2.1.2.1, hs.2.2.1.2.2.2.2.2.1.2.2⟩, ⟨by omega, hs.2.2.1.2.2.2.2.2.2.2.1, hs.2.2.1.2.2.2.2.2.2.2.2⟩⟩, ⟨by omega, hs.2.2.2.1.2.1, ⟨by omega, hs.2.2.2.1.2.2.1.2.1, hs.2.2.2.1.2.2.1.2.2⟩, ⟨by omega, hs.2.2.2.1.2.2.2.1.2.1, hs.2.2.2.1.2.2.2.1.2.2⟩, hs.2.2.2.1.2.2.2.2.1, ⟨by omega, hs.2.2.2.1.2.2.2.2.2.2.1, hs.2.2.2.1.2.2.2.2.2.2.2⟩⟩, ⟨by omega, hs.2.2.2.2.2.1, hs.2.2.2.2.2.2⟩⟩ (by omega) (by omega) k (by omega) hbk)) lk_X7_193 hp.2 (by omega) rfl rfl ⟨by decide, by decide⟩ hl ⟨Nat.zero_le _, Nat.zero_le _⟩ (Nat.le_of_ble_eq_true rfl) rfl dX7_fullest_9 (fun H locs h => ?_)
    refine lv_iload_n kx kb dX7_fullest_12 rfl (lv_at hl 1 rfl) ?_
    refine lv_icmp_ne (tgt := 18) kx kb dX7_fullest_13 (by decide) (fun c_2 => ?_) (fun c_2 => ?_)
    · refine lv_iinc (v := nI (k + 1)) (lv' := [(2, .int (nI (k + 1))), (0, .ref (ad 0)), (1, .int pl)]) kx kb dX7_fullest_18 hl (k := 2) rfl (nI_add _ _) (by decide) rfl (fun ls hl => ?_)
      refine lv_goto (tgt := 2) kx kb dX7_fullest_21 (by decide) ?_
      exact ih (k + 1) _ _ _ ⟨h, lv_sub hl [1, 2, 0] rfl, by omega, fun z hz => by
          rcases Nat.lt_or_ge z k with y | y
          · exact hno z y
          · have e : z = k := by omega
            subst e
            simp [c_2]⟩ (by omega)
    · refine lv_iload_n kx kb dX7_fullest_16 rfl (lv_at hl 2 rfl) ?_
      exact w_iret X h ⟨(ixO_at (by omega) hno (by simp [c_2])).symm, rfl⟩ dX7_fullest_17
set_option maxRecDepth 20000 in
theorem c_X7_areLaughsAlike (l : Launch) (g : gT) {N : Nat} {ad : Nat → Nat} {F : Nat → va_E} (x : SX) (q : Nat → Int32) (hp : oP0 g N ad F q) (hs : oSt g N ad F 1 x) (hn : x.1 ≤ 12) (htn : xtn x ≤ 64) (hnn : ∀ k, k < xtn x → vf_n32 (fsum (xlf x) (k + 1))) (hal : Op.cmpValue (FP.fcmp (xsm x) (fsum (xlf x) (xtn x))) .l = 0)  : CtI l yX7_areLaughsAlike cX7_areLaughsAlike 1 (some .boolean) 2 43 g N ad F [.ref (ad 0)] (fun r F' => r = (bI True) ∧ F' = F) := by
  refine CtI_of (by decide) (Nat.le_of_ble_eq_true rfl) ?_
  intro p e s m args below meth c A H ls X M h hl
  have kx := X.1.1
  have kb := X.1.2.1
  have hl : lv_has ls 1 [(0, .ref (ad 0))] := hl
  have hN0 := hp.1
  have htn2 : x.2.2.1 ≤ 64 := htn
  refine lv_aload_n kx kb dX7_areLaughsAlike_0 rfl (lv_at hl 0 rfl) ?_
  refine w_get X M h 0 hp.2 (by omega) fl_X7_12 rfl dX7_areLaughsAlike_1 ?_
  refine w_get X M h 1 hs.2.1 (by omega) fl_X7_171 rfl dX7_areLaughsAlike_4 ?_
  refine w_get X M h 13 hs.2.2.2.1.2.1 (by omega) fl_X7_207 rfl dX7_areLaughsAlike_7 ?_
  refine lv_aload_n kx kb dX7_areLaughsAlike_10 rfl (lv_at hl 0 rfl) ?_
  refine w_get X M h 0 hp.2 (by omega) fl_X7_12 rfl dX7_areLaughsAlike_11 ?_
  refine w_get X M h 1 hs.2.1 (by omega) fl_X7_171 rfl dX7_areLaughsAlike_14 ?_
  refine w_readVf X M h [] [.float x.2.2.2.1] ((c_X6_sumAgain l g 13 x.2.2.1 x.2.2.2.1 x.2.2.2.2.1 x.2.2.2.2.2.1 ⟨by omega, hs.2.2.2.1.2.1, ⟨by omega, hs.2.2.2.1.2.2.1.2.1, hs.2.2.2.1.2.2.1.2.2⟩, ⟨by omega, hs.2.2.2.1.2.2.2.1.2.1, hs.2.2.2.1.2.2.2.1.2.2⟩, hs.2.2.2.1.2.2.2.2.1, ⟨by omega, hs.2.2.2.1.2.2.2.2.2.2.1, hs.2.2.2.1.2.2.2.2.2.2.2⟩⟩ (by omega) (hnn))) lk_X7_211 hs.2.2.2.1.2.1 (by omega) rfl rfl ⟨by decide, by decide⟩ hl ⟨Nat.zero_le _, Nat.zero_le _⟩ (Nat.le_of_ble_eq_true rfl) rfl dX7_areLaughsAlike_17 (fun H locs h => ?_)
  refine lv_fcmp kx kb dX7_areLaughsAlike_20 ?_
  refine lv_if_ne (tgt := 28) kx kb dX7_areLaughsAlike_21 (by decide) (fun c_1 => (c_1 hal).elim) (fun c_1 => ?_)
  refine lv_iconst (v := nI 1) kx kb dX7_areLaughsAlike_24 (by decide) ?_
  refine lv_goto (tgt := 29) kx kb dX7_areLaughsAlike_25 (by decide) ?_
  exact w_zret X h (Or.inr (by decide)) ⟨bI_tn trivial, rfl⟩ dX7_areLaughsAlike_29
set_option maxRecDepth 20000 in
theorem c_X7_areStrokesAlike (l : Launch) (g : gT) {N : Nat} {ad : Nat → Nat} {F : Nat → va_E} (x : SX) (q : Nat → Int32) (hp : oP0 g N ad F q) (hs : oSt g N ad F 1 x) (hn : x.1 ≤ 12) (htn : xtn x ≤ 64) (hz1 : xz x 1 ≤ 1000) (hz2 : xz x 2 ≤ 1000) (hz3 : xz x 3 ≤ 1000) (hst : ∀ k : Nat, 1 ≤ k → k ≤ 30 → strokesF x (nI k) = strokesAF x (nI k))  : CtI l yX7_areStrokesAlike cX7_areStrokesAlike 2 (some .boolean) 3 66 g N ad F [.ref (ad 0)] (fun r F' => r = (bI True) ∧ F' = F) := by
  refine CtI_of (by decide) (Nat.le_of_ble_eq_true rfl) ?_
  intro p e s m args below meth c A H ls X M h hl
  have kx := X.1.1
  have kb := X.1.2.1
  have hl : lv_has ls 2 [(0, .ref (ad 0))] := hl
  have hN0 := hp.1
  have htn2 : x.2.2.1 ≤ 64 := htn
  have z1 : x.2.2.2.2.2.2.2 1 ≤ 1000 := hz1
  have z2 : x.2.2.2.2.2.2.2 2 ≤ 1000 := hz2
  have z3 : x.2.2.2.2.2.2.2 3 ≤ 1000 := hz3
  refine lv_iconst (v := nI 1) kx kb dX7_areStrokesAlike_0 (by decide) ?_
  refine lv_istore_n (lv' := [(1, .int (nI 1)), (0, .ref (ad 0))]) kx kb dX7_areStrokesAlike_1 rfl hl (by decide) rfl (fun ls hl => ?_)
  refine w_loop1 (fun (k : Nat) => 31 - k) (fun (k : Nat) H locs ls => Hx g N ad F A s H locs ∧ lv_has ls 2 [(0, .ref (ad 0)), (1, .int (nI k))] ∧ (1 ≤ k ∧ k ≤ 31)) ?_ 1 ⟨h, lv_sub hl [1, 0] rfl, by omega⟩
  intro k H locs ls hinv ih
  obtain ⟨h, hl, hk⟩ := hinv
  refine lv_iload_n kx kb dX7_areStrokesAlike_2 rfl (lv_at hl 1 rfl) ?_
  refine lv_bipush (v := nI 30) kx kb dX7_areStrokesAlike_3 (by decide) ?_
  refine w_cmp_gt (tgt := 29) kx kb (by omega) (by omega) dX7_areStrokesAlike_5 (by decide) (fun c_1 => ?_) (fun c_1 => ?_)
  · refine lv_iconst (v := nI 1) kx kb dX7_areStrokesAlike_29 (by decide) ?_
    exact w_zret X h (Or.inr (by decide)) ⟨bI_tn trivial, rfl⟩ dX7_areStrokesAlike_30
  · refine lv_aload_n kx kb dX7_areStrokesAlike_8 rfl (lv_at hl 0 rfl) ?_
    refine lv_iload_n kx kb dX7_areStrokesAlike_9 rfl (lv_at hl 1 rfl) ?_
    refine w_readVi X M h [.int (nI k)] [] ((c_X7_strokes l g x q ⟨by omega, hp.2⟩ ⟨by omega, hs.2.1, ⟨by omega, hs.2.2.1.2.1, ⟨by omega, hs.2.2.1.2.2.1.2.1, hs.2.2.1.2.2.1.2.2⟩, ⟨by omega, hs.2.2.1.2.2.2.1.2.1, hs.2.2.1.2.2.2.1.2.2⟩, ⟨by omega, hs.2.2.1.2.2.2.2.1.2.1, hs.2.2.1.2.2.2.2.1.2.2⟩, ⟨by omega, hs.2.2.1.2.2.2.2.2.1.2.1, hs.2.2.1.2.2.2.2.2.1.2.2⟩, ⟨by omega, hs.2.2.1.2.2.2.2.2.2.2.1, hs.2.2.1.2.2.2.2.2.2.2.2⟩⟩, ⟨by omega, hs.2.2.2.1.2.1, ⟨by omega, hs.2.2.2.1.2.2.1.2.1, hs.2.2.2.1.2.2.1.2.2⟩, ⟨by omega, hs.2.2.2.1.2.2.2.1.2.1, hs.2.2.2.1.2.2.2.1.2.2⟩, hs.2.2.2.1.2.2.2.2.1, ⟨by omega, hs.2.2.2.1.2.2.2.2.2.2.1, hs.2.2.2.1.2.2.2.2.2.2.2⟩⟩, ⟨by omega, hs.2.2.2.2.2.1, hs.2.2.2.2.2.2⟩⟩ (by omega) (by omega) (nI k) (by omega) (by omega) (by omega))) lk_X7_345 hp.2 (by omega) rfl rfl ⟨by decide, by decide⟩ hl ⟨Nat.zero_le _, Nat.zero_le _⟩ (Nat.le_of_ble_eq_true rfl) rfl dX7_areStrokesAlike_10 (fun H locs h => ?_)
    refine lv_aload_n kx kb dX7_areStrokesAlike_13 rfl (lv_at hl 0 rfl) ?_
    refine lv_iload_n kx kb dX7_areStrokesAlike_14 rfl (lv_at hl 1 rfl) ?_
    refine w_readVi X M h [.int (nI k)] [.int (strokesF x (nI k))] ((c_X7_strokesAgain l g x q ⟨by omega, hp.2⟩ ⟨by omega, hs.2.1, ⟨by omega, hs.2.2.1.2.1, ⟨by omega, hs.2.2.1.2.2.1.2.1, hs.2.2.1.2.2.1.2.2⟩, ⟨by omega, hs.2.2.1.2.2.2.1.2.1, hs.2.2.1.2.2.2.1.2.2⟩, ⟨by omega, hs.2.2.1.2.2.2.2.1.2.1, hs.2.2.1.2.2.2.2.1.2.2⟩, ⟨by omega, hs.2.2.1.2.2.2.2.2.1.2.1, hs.2.2.1.2.2.2.2.2.1.2.2⟩, ⟨by omega, hs.2.2.1.2.2.2.2.2.2.2.1, hs.2.2.1.2.2.2.2.2.2.2.2⟩⟩, ⟨by omega, hs.2.2.2.1.2.1, ⟨by omega, hs.2.2.2.1.2.2.1.2.1, hs.2.2.2.1.2.2.1.2.2⟩, ⟨by omega, hs.2.2.2.1.2.2.2.1.2.1, hs.2.2.2.1.2.2.2.1.2.2⟩, hs.2.2.2.1.2.2.2.2.1, ⟨by omega, hs.2.2.2.1.2.2.2.2.2.2.1, hs.2.2.2.1.2.2.2.2.2.2.2⟩⟩, ⟨by omega, hs.2.2.2.2.2.1, hs.2.2.2.2.2.2⟩⟩ (by omega) (by omega) (nI k) (by omega) (by omega) (by omega))) lk_X7_348 hp.2 (by omega) rfl rfl ⟨by decide, by decide⟩ hl ⟨Nat.zero_le _, Nat.zero_le _⟩ (Nat.le_of_ble_eq_true rfl) rfl dX7_areStrokesAlike_15 (fun H locs h => ?_)
    refine lv_icmp_eq (tgt := 23) kx kb dX7_areStrokesAlike_18 (by decide) (fun c_2 => ?_) (fun c_2 => (c_2 (hst k (by omega) (by omega))).elim)
    refine lv_iinc (v := nI (k + 1)) (lv' := [(1, .int (nI (k + 1))), (0, .ref (ad 0))]) kx kb dX7_areStrokesAlike_23 hl (k := 1) rfl (nI_add _ _) (by decide) rfl (fun ls hl => ?_)
    refine lv_goto (tgt := 2) kx kb dX7_areStrokesAlike_26 (by decide) ?_
    exact ih (k + 1) _ _ _ ⟨h, lv_sub hl [1, 0] rfl, by omega⟩ (by omega)
set_option maxRecDepth 20000 in
theorem c_X7_areSignsUnknown (l : Launch) (g : gT) {N : Nat} {ad : Nat → Nat} {F : Nat → va_E} (x : SX) (q : Nat → Int32) (hp : oP0 g N ad F q) (hs : oSt g N ad F 1 x) (hn : x.1 ≤ 12) (htn : xtn x ≤ 64) (hsu : ∀ k, k < x.1 → rowAt 64 (xt x 2) (xj x 2 k) = 0)  : CtI l yX7_areSignsUnknown cX7_areSignsUnknown 2 (some .boolean) 1 21 g N ad F [.ref (ad 0)] (fun r F' => r = (bI True) ∧ F' = F) := by
  refine CtI_of (by decide) (Nat.le_of_ble_eq_true rfl) ?_
  intro p e s m args below meth c A H ls X M h hl
  have kx := X.1.1
  have kb := X.1.2.1
  have hl : lv_has ls 2 [(0, .ref (ad 0))] := hl
  have hN0 := hp.1
  have htn2 : x.2.2.1 ≤ 64 := htn
  refine lv_iconst (v := nI 0) kx kb dX7_areSignsUnknown_0 (by decide) ?_
  refine lv_istore_n (lv' := [(1, .int (nI 0)), (0, .ref (ad 0))]) kx kb dX7_areSignsUnknown_1 rfl hl (by decide) rfl (fun ls hl => ?_)
  refine w_loop1 (fun (k : Nat) => x.1 - k) (fun (k : Nat) H locs ls => Hx g N ad F A s H locs ∧ lv_has ls 2 [(0, .ref (ad 0)), (1, .int (nI k))] ∧ (k ≤ x.1)) ?_ 0 ⟨h, lv_sub hl [1, 0] rfl, by omega⟩
  intro k H locs ls hinv ih
  obtain ⟨h, hl, hk⟩ := hinv
  refine lv_iload_n kx kb dX7_areSignsUnknown_2 rfl (lv_at hl 1 rfl) ?_
  refine lv_aload_n kx kb dX7_areSignsUnknown_3 rfl (lv_at hl 0 rfl) ?_
  refine w_get X M h 0 hp.2 (by omega) fl_X7_12 rfl dX7_areSignsUnknown_4 ?_
  refine w_get X M h 1 hs.2.1 (by omega) fl_X7_121 rfl dX7_areSignsUnknown_7 ?_
  refine w_get X M h 2 hs.2.2.1.2.1 (by omega) fl_X7_125 rfl dX7_areSignsUnknown_10 ?_
  refine w_cmp_ge (tgt := 54) kx kb (by omega) (by omega) dX7_areSignsUnknown_13 (by decide) (fun c_1 => ?_) (fun c_1 => ?_)
  · refine lv_iconst (v := nI 1) kx kb dX7_areSignsUnknown_54 (by decide) ?_
    exact w_zret X h (Or.inr (by decide)) ⟨bI_tn trivial, rfl⟩ dX7_areSignsUnknown_55
  · refine lv_aload_n kx kb dX7_areSignsUnknown_16 rfl (lv_at hl 0 rfl) ?_
    refine w_get X M h 0 hp.2 (by omega) fl_X7_12 rfl dX7_areSignsUnknown_17 ?_
    refine w_get X M h 1 hs.2.1 (by omega) fl_X7_171 rfl dX7_areSignsUnknown_20 ?_
    refine w_get X M h 13 hs.2.2.2.1.2.1 (by omega) fl_X7_184 rfl dX7_areSignsUnknown_23 ?_
    refine lv_aload_n kx kb dX7_areSignsUnknown_26 rfl (lv_at hl 0 rfl) ?_
    refine w_get X M h 0 hp.2 (by omega) fl_X7_12 rfl dX7_areSignsUnknown_27 ?_
    refine w_get X M h 1 hs.2.1 (by omega) fl_X7_121 rfl dX7_areSignsUnknown_30 ?_
    refine w_get X M h 2 hs.2.2.1.2.1 (by omega) fl_X7_147 rfl dX7_areSignsUnknown_33 ?_
    refine lv_iload_n kx kb dX7_areSignsUnknown_36 rfl (lv_at hl 1 rfl) ?_
    refine w_readVi X M h [.int (nI k)] [.ref (ad 19)] ((c_X3_at_n l g 7 12 (x.2.1 2) k ⟨by omega, hs.2.2.1.2.2.2.2.1.2.1, hs.2.2.1.2.2.2.2.1.2.2⟩ (by omega) (by omega))) lk_X7_139 hs.2.2.1.2.2.2.2.1.2.1 (by omega) rfl rfl ⟨by decide, by decide⟩ hl ⟨Nat.zero_le _, Nat.zero_le _⟩ (Nat.le_of_ble_eq_true rfl) rfl dX7_areSignsUnknown_37 (fun H locs h => ?_)
    refine w_readVi X M h [.int ((x.2.1 2) k)] [] ((c_X3_at l g 19 64 (x.2.2.2.2.1 2) ((x.2.1 2) k) ⟨by omega, hs.2.2.2.1.2.2.2.2.2.2.1, hs.2.2.2.1.2.2.2.2.2.2.2⟩ (by omega))) lk_X7_139 hs.2.2.2.1.2.2.2.2.2.2.1 (by omega) rfl rfl ⟨by decide, by decide⟩ hl ⟨Nat.zero_le _, Nat.zero_le _⟩ (Nat.le_of_ble_eq_true rfl) rfl dX7_areSignsUnknown_40 (fun H locs h => ?_)
    refine lv_if_eq (tgt := 48) kx kb dX7_areSignsUnknown_43 (by decide) (fun c_2 => ?_) (fun c_2 => (c_2 (hsu k (by omega))).elim)
    refine lv_iinc (v := nI (k + 1)) (lv' := [(1, .int (nI (k + 1))), (0, .ref (ad 0))]) kx kb dX7_areSignsUnknown_48 hl (k := 1) rfl (nI_add _ _) (by decide) rfl (fun ls hl => ?_)
    refine lv_goto (tgt := 2) kx kb dX7_areSignsUnknown_51 (by decide) ?_
    exact ih (k + 1) _ _ _ ⟨h, lv_sub hl [1, 0] rfl, by omega⟩ (by omega)
set_option maxRecDepth 20000 in
theorem c_X7_isCounted (l : Launch) (g : gT) {N : Nat} {ad : Nat → Nat} {F : Nat → va_E} (x : SX) (q : Nat → Int32) (hp : oP0 g N ad F q) (hs : oSt g N ad F 1 x) (hn : x.1 ≤ 12) (htn : xtn x ≤ 64) (hz1 : xz x 1 ≤ 1000) (hz2 : xz x 2 ≤ 1000) (hz3 : xz x 3 ≤ 1000) (hnn : ∀ k, k < xtn x → vf_n32 (fsum (xlf x) (k + 1))) (hal : Op.cmpValue (FP.fcmp (xsm x) (fsum (xlf x) (xtn x))) .l = 0) (hst : ∀ k : Nat, 1 ≤ k → k ≤ 30 → strokesF x (nI k) = strokesAF x (nI k)) (hsu : ∀ k, k < x.1 → rowAt 64 (xt x 2) (xj x 2 k) = 0)  : CtI l yX7_isCounted cX7_isCounted 2 (some .boolean) 4 87 g N ad F [.ref (ad 0)] (fun r F' => r = (bI (nI (xz x 5) = nI (x.1 + xtn x + xz x 6))) ∧ F' = F) := by
  refine CtI_of (by decide) (Nat.le_of_ble_eq_true rfl) ?_
  intro p e s m args below meth c A H ls X M h hl
  have kx := X.1.1
  have kb := X.1.2.1
  have hl : lv_has ls 2 [(0, .ref (ad 0))] := hl
  have hN0 := hp.1
  have htn2 : x.2.2.1 ≤ 64 := htn
  have z1 : x.2.2.2.2.2.2.2 1 ≤ 1000 := hz1
  have z2 : x.2.2.2.2.2.2.2 2 ≤ 1000 := hz2
  have z3 : x.2.2.2.2.2.2.2 3 ≤ 1000 := hz3
  refine lv_aload_n kx kb dX7_isCounted_0 rfl (lv_at hl 0 rfl) ?_
  refine w_get X M h 0 hp.2 (by omega) fl_X7_12 rfl dX7_isCounted_1 ?_
  refine w_get X M h 1 hs.2.1 (by omega) fl_X7_252 rfl dX7_isCounted_4 ?_
  refine lv_aload_n kx kb dX7_isCounted_7 rfl (lv_at hl 0 rfl) ?_
  refine w_get X M h 0 hp.2 (by omega) fl_X7_12 rfl dX7_isCounted_8 ?_
  refine w_get X M h 1 hs.2.1 (by omega) fl_X7_121 rfl dX7_isCounted_11 ?_
  refine w_get X M h 2 hs.2.2.1.2.1 (by omega) fl_X7_125 rfl dX7_isCounted_14 ?_
  refine lv_aload_n kx kb dX7_isCounted_17 rfl (lv_at hl 0 rfl) ?_
  refine w_get X M h 0 hp.2 (by omega) fl_X7_12 rfl dX7_isCounted_18 ?_
  refine w_get X M h 1 hs.2.1 (by omega) fl_X7_171 rfl dX7_isCounted_21 ?_
  refine w_get X M h 13 hs.2.2.2.1.2.1 (by omega) fl_X7_215 rfl dX7_isCounted_24 ?_
  refine w_addn kx kb dX7_isCounted_27 ?_
  refine lv_aload_n kx kb dX7_isCounted_28 rfl (lv_at hl 0 rfl) ?_
  refine w_get X M h 0 hp.2 (by omega) fl_X7_12 rfl dX7_isCounted_29 ?_
  refine w_get X M h 1 hs.2.1 (by omega) fl_X7_255 rfl dX7_isCounted_32 ?_
  refine w_addn kx kb dX7_isCounted_35 ?_
  refine lv_icmp_ne (tgt := 43) kx kb dX7_isCounted_36 (by decide) (fun c_1 => ?_) (fun c_1 => ?_)
  · refine lv_iconst (v := nI 0) kx kb dX7_isCounted_43 (by decide) ?_
    refine lv_istore_n (lv' := [(1, .int (nI 0)), (0, .ref (ad 0))]) kx kb dX7_isCounted_44 rfl hl (by decide) rfl (fun ls hl => ?_)
    refine lv_iload_n kx kb dX7_isCounted_45 rfl (lv_at hl 0 rfl) ?_
    refine lv_if_eq (tgt := 74) kx kb dX7_isCounted_46 (by decide) (fun _ => ?_) (fun q => absurd (by decide) q)
    refine lv_iconst (v := nI 0) kx kb dX7_isCounted_74 (by decide) ?_
    exact w_zret X h (Or.inl (by decide)) ⟨bI_fn c_1, rfl⟩ dX7_isCounted_75
  · refine lv_iconst (v := nI 1) kx kb dX7_isCounted_39 (by decide) ?_
    refine lv_goto (tgt := 44) kx kb dX7_isCounted_40 (by decide) ?_
    refine lv_istore_n (lv' := [(1, .int (nI 1)), (0, .ref (ad 0))]) kx kb dX7_isCounted_44 rfl hl (by decide) rfl (fun ls hl => ?_)
    refine lv_iload_n kx kb dX7_isCounted_45 rfl (lv_at hl 0 rfl) ?_
    refine lv_if_eq (tgt := 74) kx kb dX7_isCounted_46 (by decide) (fun q => absurd q (by decide)) (fun _ => ?_)
    refine lv_aload_n kx kb dX7_isCounted_49 rfl (lv_at hl 1 rfl) ?_
    refine w_readVi X M h [] [] ((c_X7_areLaughsAlike l g x q ⟨by omega, hp.2⟩ ⟨by omega, hs.2.1, ⟨by omega, hs.2.2.1.2.1, ⟨by omega, hs.2.2.1.2.2.1.2.1, hs.2.2.1.2.2.1.2.2⟩, ⟨by omega, hs.2.2.1.2.2.2.1.2.1, hs.2.2.1.2.2.2.1.2.2⟩, ⟨by omega, hs.2.2.1.2.2.2.2.1.2.1, hs.2.2.1.2.2.2.2.1.2.2⟩, ⟨by omega, hs.2.2.1.2.2.2.2.2.1.2.1, hs.2.2.1.2.2.2.2.2.1.2.2⟩, ⟨by omega, hs.2.2.1.2.2.2.2.2.2.2.1, hs.2.2.1.2.2.2.2.2.2.2.2⟩⟩, ⟨by omega, hs.2.2.2.1.2.1, ⟨by omega, hs.2.2.2.1.2.2.1.2.1, hs.2.2.2.1.2.2.1.2.2⟩, ⟨by omega, hs.2.2.2.1.2.2.2.1.2.1, hs.2.2.2.1.2.2.2.1.2.2⟩, hs.2.2.2.1.2.2.2.2.1, ⟨by omega, hs.2.2.2.1.2.2.2.2.2.2.1, hs.2.2.2.1.2.2.2.2.2.2.2⟩⟩, ⟨by omega, hs.2.2.2.2.2.1, hs.2.2.2.2.2.2⟩⟩ (by omega) (by omega) hnn hal)) lk_X7_258 hp.2 (by omega) rfl rfl ⟨by decide, by decide⟩ hl ⟨Nat.zero_le _, Nat.zero_le _⟩ (Nat.le_of_ble_eq_true rfl) rfl dX7_isCounted_50 (fun H locs h => ?_)
    refine w_if_eqb (tgt := 74) kx kb dX7_isCounted_53 (by decide) (fun c_2 => (c_2 trivial).elim) (fun c_2 => ?_)
    refine lv_aload_n kx kb dX7_isCounted_56 rfl (lv_at hl 1 rfl) ?_
    refine w_readVi X M h [] [] ((c_X7_areStrokesAlike l g x q ⟨by omega, hp.2⟩ ⟨by omega, hs.2.1, ⟨by omega, hs.2.2.1.2.1, ⟨by omega, hs.2.2.1.2.2.1.2.1, hs.2.2.1.2.2.1.2.2⟩, ⟨by omega, hs.2.2.1.2.2.2.1.2.1, hs.2.2.1.2.2.2.1.2.2⟩, ⟨by omega, hs.2.2.1.2.2.2.2.1.2.1, hs.2.2.1.2.2.2.2.1.2.2⟩, ⟨by omega, hs.2.2.1.2.2.2.2.2.1.2.1, hs.2.2.1.2.2.2.2.2.1.2.2⟩, ⟨by omega, hs.2.2.1.2.2.2.2.2.2.2.1, hs.2.2.1.2.2.2.2.2.2.2.2⟩⟩, ⟨by omega, hs.2.2.2.1.2.1, ⟨by omega, hs.2.2.2.1.2.2.1.2.1, hs.2.2.2.1.2.2.1.2.2⟩, ⟨by omega, hs.2.2.2.1.2.2.2.1.2.1, hs.2.2.2.1.2.2.2.1.2.2⟩, hs.2.2.2.1.2.2.2.2.1, ⟨by omega, hs.2.2.2.1.2.2.2.2.2.2.1, hs.2.2.2.1.2.2.2.2.2.2.2⟩⟩, ⟨by omega, hs.2.2.2.2.2.1, hs.2.2.2.2.2.2⟩⟩ (by omega) (by omega) (by omega) (by omega) (by omega) hst)) lk_X7_262 hp.2 (by omega) rfl rfl ⟨by decide, by decide⟩ hl ⟨Nat.zero_le _, Nat.zero_le _⟩ (Nat.le_of_ble_eq_true rfl) rfl dX7_isCounted_57 (fun H locs h => ?_)
    refine w_if_eqb (tgt := 74) kx kb dX7_isCounted_60 (by decide) (fun c_3 => (c_3 trivial).elim) (fun c_3 => ?_)
    refine lv_aload_n kx kb dX7_isCounted_63 rfl (lv_at hl 1 rfl) ?_
    refine w_readVi X M h [] [] ((c_X7_areSignsUnknown l g x q ⟨by omega, hp.2⟩ ⟨by omega, hs.2.1, ⟨by omega, hs.2.2.1.2.1, ⟨by omega, hs.2.2.1.2.2.1.2.1, hs.2.2.1.2.2.1.2.2⟩, ⟨by omega, hs.2.2.1.2.2.2.1.2.1, hs.2.2.1.2.2.2.1.2.2⟩, ⟨by omega, hs.2.2.1.2.2.2.2.1.2.1, hs.2.2.1.2.2.2.2.1.2.2⟩, ⟨by omega, hs.2.2.1.2.2.2.2.2.1.2.1, hs.2.2.1.2.2.2.2.2.1.2.2⟩, ⟨by omega, hs.2.2.1.2.2.2.2.2.2.2.1, hs.2.2.1.2.2.2.2.2.2.2.2⟩⟩, ⟨by omega, hs.2.2.2.1.2.1, ⟨by omega, hs.2.2.2.1.2.2.1.2.1, hs.2.2.2.1.2.2.1.2.2⟩, ⟨by omega, hs.2.2.2.1.2.2.2.1.2.1, hs.2.2.2.1.2.2.2.1.2.2⟩, hs.2.2.2.1.2.2.2.2.1, ⟨by omega, hs.2.2.2.1.2.2.2.2.2.2.1, hs.2.2.2.1.2.2.2.2.2.2.2⟩⟩, ⟨by omega, hs.2.2.2.2.2.1, hs.2.2.2.2.2.2⟩⟩ (by omega) (by omega) hsu)) lk_X7_265 hp.2 (by omega) rfl rfl ⟨by decide, by decide⟩ hl ⟨Nat.zero_le _, Nat.zero_le _⟩ (Nat.le_of_ble_eq_true rfl) rfl dX7_isCounted_64 (fun H locs h => ?_)
    refine w_if_eqb (tgt := 74) kx kb dX7_isCounted_67 (by decide) (fun c_4 => (c_4 trivial).elim) (fun c_4 => ?_)
    refine lv_iconst (v := nI 1) kx kb dX7_isCounted_70 (by decide) ?_
    refine lv_goto (tgt := 75) kx kb dX7_isCounted_71 (by decide) ?_
    exact w_zret X h (Or.inr (by decide)) ⟨bI_tn c_1, rfl⟩ dX7_isCounted_75
set_option maxRecDepth 20000 in
theorem c_X7_account (l : Launch) (g : gT) {N : Nat} {ad : Nat → Nat} {F : Nat → va_E} (x : SX) (q : Nat → Int32) (hp : oP0 g N ad F q) (hs : oSt g N ad F 1 x) (hn : x.1 ≤ 12) (htn : xtn x ≤ 64) (nx ct : Nat) (hh : oHist g N ad F nx ct) (il : Nat) (ia : Nat → Int32) (hi : oStrip g N ad F 245 il ia) (a : Int32) : CtI l yX7_account cX7_account 2 (some .int) 2 43 g N ad F [.ref (ad 0), .int a] (fun r F' => r = (accountF x il ct a) ∧ F' = F) := by
  refine CtI_of (by decide) (Nat.le_of_ble_eq_true rfl) ?_
  intro p e s m args below meth c A H ls X M h hl
  have kx := X.1.1
  have kb := X.1.2.1
  have hl : lv_has ls 2 [(0, .ref (ad 0)), (1, .int a)] := hl
  have hN0 := hp.1
  have htn2 : x.2.2.1 ≤ 64 := htn
  refine lv_iload_n kx kb dX7_account_0 rfl (lv_at hl 1 rfl) ?_
  rcases sw_of a 14 (by decide) with ⟨k1, hk1, hvk1⟩ | ⟨hsw, hne⟩
  · rcases (show k1 = 0 ∨ k1 = 1 ∨ k1 = 2 ∨ k1 = 3 ∨ k1 = 4 ∨ k1 = 5 ∨ k1 = 6 ∨ k1 = 7 ∨ k1 = 8 ∨ k1 = 9 ∨ k1 = 10 ∨ k1 = 11 ∨ k1 = 12 ∨ k1 = 13 by omega) with rfl | rfl | rfl | rfl | rfl | rfl | rfl | rfl | rfl | rfl | rfl | rfl | rfl | rfl
    · subst hvk1
      refine lv_tableIn (tgt := 72) (off := 71) kx kb dX7_account_1 (by decide) (by decide) (by decide) (by decide) ?_
      refine lv_aload_n kx kb dX7_account_72 rfl (lv_at hl 0 rfl) ?_
      refine w_get X M h 0 hp.2 (by omega) fl_X7_12 rfl dX7_account_73 ?_
      refine w_get X M h 1 hs.2.1 (by omega) fl_X7_121 rfl dX7_account_76 ?_
      refine w_get X M h 2 hs.2.2.1.2.1 (by omega) fl_X7_125 rfl dX7_account_79 ?_
      exact w_iret X h ⟨by rw [accountF, if_pos rfl], rfl⟩ dX7_account_82
    · subst hvk1
      refine lv_tableIn (tgt := 83) (off := 82) kx kb dX7_account_1 (by decide) (by decide) (by decide) (by decide) ?_
      refine lv_aload_n kx kb dX7_account_83 rfl (lv_at hl 0 rfl) ?_
      refine w_get X M h 0 hp.2 (by omega) fl_X7_12 rfl dX7_account_84 ?_
      refine w_get X M h 1 hs.2.1 (by omega) fl_X7_241 rfl dX7_account_87 ?_
      exact w_iret X h ⟨by rw [accountF, if_neg (show ¬ nI 1 = nI 0 by decide), if_pos rfl], rfl⟩ dX7_account_90
    · subst hvk1
      refine lv_tableIn (tgt := 91) (off := 90) kx kb dX7_account_1 (by decide) (by decide) (by decide) (by decide) ?_
      refine lv_aload_n kx kb dX7_account_91 rfl (lv_at hl 0 rfl) ?_
      refine w_get X M h 0 hp.2 (by omega) fl_X7_12 rfl dX7_account_92 ?_
      refine w_get X M h 1 hs.2.1 (by omega) fl_X7_229 rfl dX7_account_95 ?_
      exact w_iret X h ⟨by rw [accountF, if_neg (show ¬ nI 2 = nI 0 by decide), if_neg (show ¬ nI 2 = nI 1 by decide), if_pos rfl], rfl⟩ dX7_account_98
    · subst hvk1
      refine lv_tableIn (tgt := 99) (off := 98) kx kb dX7_account_1 (by decide) (by decide) (by decide) (by decide) ?_
      refine lv_aload_n kx kb dX7_account_99 rfl (lv_at hl 0 rfl) ?_
      refine w_get X M h 0 hp.2 (by omega) fl_X7_12 rfl dX7_account_100 ?_
      refine w_get X M h 1 hs.2.1 (by omega) fl_X7_226 rfl dX7_account_103 ?_
      exact w_iret X h ⟨by rw [accountF, if_neg (show ¬ nI 3 = nI 0 by decide), if_neg (show ¬ nI 3 = nI 1 by decide), if_neg (show ¬ nI 3 = nI 2 by decide), if_pos rfl], rfl⟩ dX7_account_106
    · subst hvk1
      refine lv_tableIn (tgt := 107) (off := 106) kx kb dX7_account_1 (by decide) (by decide) (by decide) (by decide) ?_
      refine lv_aload_n kx kb dX7_account_107 rfl (lv_at hl 0 rfl) ?_
      refine w_get X M h 0 hp.2 (by omega) fl_X7_12 rfl dX7_account_108 ?_
      refine w_get X M h 1 hs.2.1 (by omega) fl_X7_235 rfl dX7_account_111 ?_
      exact w_iret X h ⟨by rw [accountF, if_neg (show ¬ nI 4 = nI 0 by decide), if_neg (show ¬ nI 4 = nI 1 by decide), if_neg (show ¬ nI 4 = nI 2 by decide), if_neg (show ¬ nI 4 = nI 3 by decide), if_pos rfl], rfl⟩ dX7_account_114
    · subst hvk1
      refine lv_tableIn (tgt := 115) (off := 114) kx kb dX7_account_1 (by decide) (by decide) (by decide) (by decide) ?_
      refine lv_aload_n kx kb dX7_account_115 rfl (lv_at hl 0 rfl) ?_
      refine w_get X M h 0 hp.2 (by omega) fl_X7_12 rfl dX7_account_116 ?_
      refine w_get X M h 1 hs.2.1 (by omega) fl_X7_268 rfl dX7_account_119 ?_
      exact w_iret X h ⟨by rw [accountF, if_neg (show ¬ nI 5 = nI 0 by decide), if_neg (show ¬ nI 5 = nI 1 by decide), if_neg (show ¬ nI 5 = nI 2 by decide), if_neg (show ¬ nI 5 = nI 3 by decide), if_neg (show ¬ nI 5 = nI 4 by decide), if_pos rfl], rfl⟩ dX7_account_122
    · subst hvk1
      refine lv_tableIn (tgt := 123) (off := 122) kx kb dX7_account_1 (by decide) (by decide) (by decide) (by decide) ?_
      refine lv_aload_n kx kb dX7_account_123 rfl (lv_at hl 0 rfl) ?_
      refine w_get X M h 0 hp.2 (by omega) fl_X7_12 rfl dX7_account_124 ?_
      refine w_get X M h 1 hs.2.1 (by omega) fl_X7_171 rfl dX7_account_127 ?_
      refine w_get X M h 13 hs.2.2.2.1.2.1 (by omega) fl_X7_215 rfl dX7_account_130 ?_
      exact w_iret X h ⟨by rw [accountF, if_neg (show ¬ nI 6 = nI 0 by decide), if_neg (show ¬ nI 6 = nI 1 by decide), if_neg (show ¬ nI 6 = nI 2 by decide), if_neg (show ¬ nI 6 = nI 3 by decide), if_neg (show ¬ nI 6 = nI 4 by decide), if_neg (show ¬ nI 6 = nI 5 by decide), if_pos rfl], rfl⟩ dX7_account_133
    · subst hvk1
      refine lv_tableIn (tgt := 134) (off := 133) kx kb dX7_account_1 (by decide) (by decide) (by decide) (by decide) ?_
      refine lv_aload_n kx kb dX7_account_134 rfl (lv_at hl 0 rfl) ?_
      refine w_get X M h 0 hp.2 (by omega) fl_X7_12 rfl dX7_account_135 ?_
      refine w_get X M h 1 hs.2.1 (by omega) fl_X7_252 rfl dX7_account_138 ?_
      exact w_iret X h ⟨by rw [accountF, if_neg (show ¬ nI 7 = nI 0 by decide), if_neg (show ¬ nI 7 = nI 1 by decide), if_neg (show ¬ nI 7 = nI 2 by decide), if_neg (show ¬ nI 7 = nI 3 by decide), if_neg (show ¬ nI 7 = nI 4 by decide), if_neg (show ¬ nI 7 = nI 5 by decide), if_neg (show ¬ nI 7 = nI 6 by decide), if_pos rfl], rfl⟩ dX7_account_141
    · subst hvk1
      refine lv_tableIn (tgt := 142) (off := 141) kx kb dX7_account_1 (by decide) (by decide) (by decide) (by decide) ?_
      refine lv_aload_n kx kb dX7_account_142 rfl (lv_at hl 0 rfl) ?_
      refine w_get X M h 0 hp.2 (by omega) fl_X7_12 rfl dX7_account_143 ?_
      refine w_get X M h 1 hs.2.1 (by omega) fl_X7_255 rfl dX7_account_146 ?_
      exact w_iret X h ⟨by rw [accountF, if_neg (show ¬ nI 8 = nI 0 by decide), if_neg (show ¬ nI 8 = nI 1 by decide), if_neg (show ¬ nI 8 = nI 2 by decide), if_neg (show ¬ nI 8 = nI 3 by decide), if_neg (show ¬ nI 8 = nI 4 by decide), if_neg (show ¬ nI 8 = nI 5 by decide), if_neg (show ¬ nI 8 = nI 6 by decide), if_neg (show ¬ nI 8 = nI 7 by decide), if_pos rfl], rfl⟩ dX7_account_149
    · subst hvk1
      refine lv_tableIn (tgt := 150) (off := 149) kx kb dX7_account_1 (by decide) (by decide) (by decide) (by decide) ?_
      refine lv_aload_n kx kb dX7_account_150 rfl (lv_at hl 0 rfl) ?_
      refine w_get X M h 0 hp.2 (by omega) fl_X7_12 rfl dX7_account_151 ?_
      refine w_get X M h 1 hs.2.1 (by omega) fl_X7_271 rfl dX7_account_154 ?_
      exact w_iret X h ⟨by rw [accountF, if_neg (show ¬ nI 9 = nI 0 by decide), if_neg (show ¬ nI 9 = nI 1 by decide), if_neg (show ¬ nI 9 = nI 2 by decide), if_neg (show ¬ nI 9 = nI 3 by decide), if_neg (show ¬ nI 9 = nI 4 by decide), if_neg (show ¬ nI 9 = nI 5 by decide), if_neg (show ¬ nI 9 = nI 6 by decide), if_neg (show ¬ nI 9 = nI 7 by decide), if_neg (show ¬ nI 9 = nI 8 by decide), if_pos rfl], rfl⟩ dX7_account_157
    · subst hvk1
      refine lv_tableIn (tgt := 158) (off := 157) kx kb dX7_account_1 (by decide) (by decide) (by decide) (by decide) ?_
      refine lv_aload_n kx kb dX7_account_158 rfl (lv_at hl 0 rfl) ?_
      refine w_get X M h 0 hp.2 (by omega) fl_X7_12 rfl dX7_account_159 ?_
      refine w_get X M h 1 hs.2.1 (by omega) fl_X7_274 rfl dX7_account_162 ?_
      exact w_iret X h ⟨by rw [accountF, if_neg (show ¬ nI 10 = nI 0 by decide), if_neg (show ¬ nI 10 = nI 1 by decide), if_neg (show ¬ nI 10 = nI 2 by decide), if_neg (show ¬ nI 10 = nI 3 by decide), if_neg (show ¬ nI 10 = nI 4 by decide), if_neg (show ¬ nI 10 = nI 5 by decide), if_neg (show ¬ nI 10 = nI 6 by decide), if_neg (show ¬ nI 10 = nI 7 by decide), if_neg (show ¬ nI 10 = nI 8 by decide), if_neg (show ¬ nI 10 = nI 9 by decide), if_pos rfl], rfl⟩ dX7_account_165
    · subst hvk1
      refine lv_tableIn (tgt := 166) (off := 165) kx kb dX7_account_1 (by decide) (by decide) (by decide) (by decide) ?_
      refine lv_aload_n kx kb dX7_account_166 rfl (lv_at hl 0 rfl) ?_
      refine w_get X M h 0 hp.2 (by omega) fl_X7_12 rfl dX7_account_167 ?_
      refine w_get X M h 1 hs.2.1 (by omega) fl_X7_121 rfl dX7_account_170 ?_
      refine w_readVi X M h [] [] ((c_X1_countPrimed l g 2 x.1 x.2.1 ⟨by omega, hs.2.2.1.2.1, ⟨by omega, hs.2.2.1.2.2.1.2.1, hs.2.2.1.2.2.1.2.2⟩, ⟨by omega, hs.2.2.1.2.2.2.1.2.1, hs.2.2.1.2.2.2.1.2.2⟩, ⟨by omega, hs.2.2.1.2.2.2.2.1.2.1, hs.2.2.1.2.2.2.2.1.2.2⟩, ⟨by omega, hs.2.2.1.2.2.2.2.2.1.2.1, hs.2.2.1.2.2.2.2.2.1.2.2⟩, ⟨by omega, hs.2.2.1.2.2.2.2.2.2.2.1, hs.2.2.1.2.2.2.2.2.2.2.2⟩⟩ (by omega))) lk_X7_277 hs.2.2.1.2.1 (by omega) rfl rfl ⟨by decide, by decide⟩ hl ⟨Nat.zero_le _, Nat.zero_le _⟩ (Nat.le_of_ble_eq_true rfl) rfl dX7_account_173 (fun H locs h => ?_)
      exact w_iret X h ⟨by rw [accountF, if_neg (show ¬ nI 11 = nI 0 by decide), if_neg (show ¬ nI 11 = nI 1 by decide), if_neg (show ¬ nI 11 = nI 2 by decide), if_neg (show ¬ nI 11 = nI 3 by decide), if_neg (show ¬ nI 11 = nI 4 by decide), if_neg (show ¬ nI 11 = nI 5 by decide), if_neg (show ¬ nI 11 = nI 6 by decide), if_neg (show ¬ nI 11 = nI 7 by decide), if_neg (show ¬ nI 11 = nI 8 by decide), if_neg (show ¬ nI 11 = nI 9 by decide), if_neg (show ¬ nI 11 = nI 10 by decide), if_pos rfl], rfl⟩ dX7_account_176
    · subst hvk1
      refine lv_tableIn (tgt := 177) (off := 176) kx kb dX7_account_1 (by decide) (by decide) (by decide) (by decide) ?_
      refine lv_aload_n kx kb dX7_account_177 rfl (lv_at hl 0 rfl) ?_
      refine w_get X M h 0 hp.2 (by omega) fl_X7_33 rfl dX7_account_178 ?_
      refine w_get X M h 245 hi.2.1 (by omega) fl_X7_280 rfl dX7_account_181 ?_
      exact w_iret X h ⟨by rw [accountF, if_neg (show ¬ nI 12 = nI 0 by decide), if_neg (show ¬ nI 12 = nI 1 by decide), if_neg (show ¬ nI 12 = nI 2 by decide), if_neg (show ¬ nI 12 = nI 3 by decide), if_neg (show ¬ nI 12 = nI 4 by decide), if_neg (show ¬ nI 12 = nI 5 by decide), if_neg (show ¬ nI 12 = nI 6 by decide), if_neg (show ¬ nI 12 = nI 7 by decide), if_neg (show ¬ nI 12 = nI 8 by decide), if_neg (show ¬ nI 12 = nI 9 by decide), if_neg (show ¬ nI 12 = nI 10 by decide), if_neg (show ¬ nI 12 = nI 11 by decide), if_pos rfl], rfl⟩ dX7_account_184
    · subst hvk1
      refine lv_tableIn (tgt := 185) (off := 184) kx kb dX7_account_1 (by decide) (by decide) (by decide) (by decide) ?_
      refine lv_aload_n kx kb dX7_account_185 rfl (lv_at hl 0 rfl) ?_
      refine w_get X M h 0 hp.2 (by omega) fl_X7_26 rfl dX7_account_186 ?_
      refine w_get X M h 45 hh.2.1 (by omega) fl_X7_111 rfl dX7_account_189 ?_
      exact w_iret X h ⟨by rw [accountF, if_neg (show ¬ nI 13 = nI 0 by decide), if_neg (show ¬ nI 13 = nI 1 by decide), if_neg (show ¬ nI 13 = nI 2 by decide), if_neg (show ¬ nI 13 = nI 3 by decide), if_neg (show ¬ nI 13 = nI 4 by decide), if_neg (show ¬ nI 13 = nI 5 by decide), if_neg (show ¬ nI 13 = nI 6 by decide), if_neg (show ¬ nI 13 = nI 7 by decide), if_neg (show ¬ nI 13 = nI 8 by decide), if_neg (show ¬ nI 13 = nI 9 by decide), if_neg (show ¬ nI 13 = nI 10 by decide), if_neg (show ¬ nI 13 = nI 11 by decide), if_neg (show ¬ nI 13 = nI 12 by decide), if_pos rfl], rfl⟩ dX7_account_192
  · refine lv_tableOut (tgt := 193) kx kb dX7_account_1 hsw (by decide) ?_
    refine lv_bipush (v := (-2)) kx kb dX7_account_193 (by decide) ?_
    exact w_iret X h ⟨by rw [accountF, if_neg (hne 0 (by omega)), if_neg (hne 1 (by omega)), if_neg (hne 2 (by omega)), if_neg (hne 3 (by omega)), if_neg (hne 4 (by omega)), if_neg (hne 5 (by omega)), if_neg (hne 6 (by omega)), if_neg (hne 7 (by omega)), if_neg (hne 8 (by omega)), if_neg (hne 9 (by omega)), if_neg (hne 10 (by omega)), if_neg (hne 11 (by omega)), if_neg (hne 12 (by omega)), if_neg (hne 13 (by omega))], rfl⟩ dX7_account_195
set_option maxRecDepth 20000 in
theorem c_X7_reason (l : Launch) (g : gT) {N : Nat} {ad : Nat → Nat} {F : Nat → va_E} (q : Nat → Int32) (hp : oP0 g N ad F q) (d b : Int32) : CtI l yX7_reason cX7_reason 3 (some .int) 1 22 g N ad F [.ref (ad 0), .int d, .int b] (fun r F' => r = (reasonF q d b) ∧ F' = F) := by
  refine CtI_of (by decide) (Nat.le_of_ble_eq_true rfl) ?_
  intro p e s m args below meth c A H ls X M h hl
  have kx := X.1.1
  have kb := X.1.2.1
  have hl : lv_has ls 3 [(0, .ref (ad 0)), (1, .int d), (2, .int b)] := hl
  have hN0 := hp.1
  refine lv_iload_n kx kb dX7_reason_0 rfl (lv_at hl 1 rfl) ?_
  refine lv_iconst (v := nI 0) kx kb dX7_reason_1 (by decide) ?_
  refine lv_iconst (v := nI 1) kx kb dX7_reason_2 (by decide) ?_
  refine w_readSi X M h [.int d, .int (nI 0), .int (nI 1)] [] ((c_X7_isWithin l g d (nI 0) (nI 1))) lk_X7_180 rfl ⟨by decide, by decide⟩ hl ⟨Nat.zero_le _, Nat.zero_le _⟩ (Nat.le_of_ble_eq_true rfl) rfl dX7_reason_3 (fun H locs h => ?_)
  refine w_if_neb (tgt := 12) kx kb dX7_reason_6 (by decide) (fun c_1 => ?_) (fun c_1 => ?_)
  · refine lv_aload_n kx kb dX7_reason_12 rfl (lv_at hl 0 rfl) ?_
    refine w_get X M h 0 hp.2 (by omega) fl_X7_51 rfl dX7_reason_13 ?_
    refine lv_if_ne (tgt := 22) kx kb dX7_reason_16 (by decide) (fun c_2 => ?_) (fun c_2 => ?_)
    · refine lv_iload_n kx kb dX7_reason_22 rfl (lv_at hl 1 rfl) ?_
      refine lv_if_ne (tgt := 42) kx kb dX7_reason_23 (by decide) (fun c_3 => ?_) (fun c_3 => ?_)
      · refine lv_aload_n kx kb dX7_reason_42 rfl (lv_at hl 0 rfl) ?_
        refine w_get X M h 0 hp.2 (by omega) fl_X7_57 rfl dX7_reason_43 ?_
        refine lv_if_ne (tgt := 52) kx kb dX7_reason_46 (by decide) (fun c_4 => ?_) (fun c_4 => ?_)
        · refine lv_iload_n kx kb dX7_reason_52 rfl (lv_at hl 2 rfl) ?_
          refine lv_if_eq (tgt := 63) kx kb dX7_reason_53 (by decide) (fun c_5 => ?_) (fun c_5 => ?_)
          · refine lv_aload_n kx kb dX7_reason_63 rfl (lv_at hl 0 rfl) ?_
            refine w_get X M h 0 hp.2 (by omega) fl_X7_57 rfl dX7_reason_64 ?_
            exact w_iret X h ⟨by rw [reasonF, if_pos c_1, if_neg c_2, if_neg c_3, if_neg c_4, if_pos c_5], rfl⟩ dX7_reason_67
          · refine lv_aload_n kx kb dX7_reason_56 rfl (lv_at hl 0 rfl) ?_
            refine w_get X M h 0 hp.2 (by omega) fl_X7_60 rfl dX7_reason_57 ?_
            refine lv_goto (tgt := 67) kx kb dX7_reason_60 (by decide) ?_
            exact w_iret X h ⟨by rw [reasonF, if_pos c_1, if_neg c_2, if_neg c_3, if_neg c_4, if_neg c_5], rfl⟩ dX7_reason_67
        · refine lv_bipush (v := (-6)) kx kb dX7_reason_49 (by decide) ?_
          exact w_iret X h ⟨by rw [reasonF, if_pos c_1, if_neg c_2, if_neg c_3, if_pos c_4], rfl⟩ dX7_reason_51
      · refine lv_iload_n kx kb dX7_reason_26 rfl (lv_at hl 2 rfl) ?_
        refine lv_if_eq (tgt := 37) kx kb dX7_reason_27 (by decide) (fun c_6 => ?_) (fun c_6 => ?_)
        · refine lv_aload_n kx kb dX7_reason_37 rfl (lv_at hl 0 rfl) ?_
          refine w_get X M h 0 hp.2 (by omega) fl_X7_51 rfl dX7_reason_38 ?_
          exact w_iret X h ⟨by rw [reasonF, if_pos c_1, if_neg c_2, if_pos c_3, if_pos c_6], rfl⟩ dX7_reason_41
        · refine lv_aload_n kx kb dX7_reason_30 rfl (lv_at hl 0 rfl) ?_
          refine w_get X M h 0 hp.2 (by omega) fl_X7_54 rfl dX7_reason_31 ?_
          refine lv_goto (tgt := 41) kx kb dX7_reason_34 (by decide) ?_
          exact w_iret X h ⟨by rw [reasonF, if_pos c_1, if_neg c_2, if_pos c_3, if_neg c_6], rfl⟩ dX7_reason_41
    · refine lv_bipush (v := (-3)) kx kb dX7_reason_19 (by decide) ?_
      exact w_iret X h ⟨by rw [reasonF, if_pos c_1, if_pos c_2], rfl⟩ dX7_reason_21
  · refine lv_bipush (v := (-2)) kx kb dX7_reason_9 (by decide) ?_
    exact w_iret X h ⟨by rw [reasonF, if_neg c_1], rfl⟩ dX7_reason_11
