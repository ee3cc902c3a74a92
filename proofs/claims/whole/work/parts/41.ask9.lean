set_option maxRecDepth 20000 in
theorem c_X8_groansTo (l : Launch) (g : gT) {N : Nat} {ad : Nat → Nat} {F : Nat → va_E} (u : Nat → Int32) (v : Nat → Nat) (hm : oM g N ad F u v) (x : SX) (hI : Inv x) (W : Nat → Int32) (hW : arI g F 255 274 W) (hR : RW x W) (d ln : Nat) (hd : d ≤ 30) (hl1 : 1 ≤ ln) (hl10 : ln ≤ 10) : CtI l yX8_groansTo cX8_groansTo 5 (some .int) 1 21 g N ad F [.ref (ad 254), .int (nI d), .int (nI ln)] (fun r F' => r = (nI (grTo x (nI d) ln)) ∧ F' = F) := by
  refine CtI_of (by decide) (Nat.le_of_ble_eq_true rfl) ?_
  intro p e s m args below meth c A H ls X M h hl
  have kx := X.1.1
  have kb := X.1.2.1
  have hl : lv_has ls 5 [(0, .ref (ad 254)), (1, .int (nI d)), (2, .int (nI ln))] := hl
  have hN0 := hm.1
  have hn12 := hI.n
  have htn64 := hI.tn
  obtain ⟨hz0, hz1a, hz1, hz2, hz3, hz4⟩ := hI.zz
  refine lv_aload_n kx kb dX8_groansTo_0 rfl (lv_at hl 0 rfl) ?_
  refine w_get X M h 254 hm.2 (by omega) fl_X8_32 rfl dX8_groansTo_1 ?_
  refine lv_iconst (v := nI 3) kx kb dX8_groansTo_4 (by decide) ?_
  refine w_iald X M h 255 hW (by omega) (3) (rfl) (by omega) (by omega) dX8_groansTo_5 ?_
  refine w_top (y := nI (x.2.2.2.2.2.2.2 2)) (hR.z 2 (by omega)) ?_
  refine lv_iload_n kx kb dX8_groansTo_6 rfl (lv_at hl 2 rfl) ?_
  refine w_readSi X M h [.int (nI (x.2.2.2.2.2.2.2 2)), .int (nI ln)] [] ((c_X8_nextReach l g (x.2.2.2.2.2.2.2 2) ln (by omega))) lk_X8_169 rfl ⟨by decide, by decide⟩ hl ⟨Nat.zero_le _, Nat.zero_le _⟩ (Nat.le_of_ble_eq_true rfl) rfl dX8_groansTo_7 (fun H locs h => ?_)
  refine lv_istore_n (lv' := [(3, .int (nI (min 30 ((x.2.2.2.2.2.2.2 2) + ln)))), (0, .ref (ad 254)), (1, .int (nI d)), (2, .int (nI ln))]) kx kb dX8_groansTo_10 rfl hl (by decide) rfl (fun ls hl => ?_)
  refine lv_iconst (v := nI 1) kx kb dX8_groansTo_11 (by decide) ?_
  refine lv_iload_n kx kb dX8_groansTo_12 rfl (lv_at hl 0 rfl) ?_
  refine lv_bipush (v := nI 10) kx kb dX8_groansTo_13 (by decide) ?_
  refine w_divn kx kb (by omega) (by omega) (by omega) dX8_groansTo_15 ?_
  refine w_addn kx kb dX8_groansTo_16 ?_
  refine lv_istore (lv' := [(4, .int (nI (1 + ((min 30 ((x.2.2.2.2.2.2.2 2) + ln)) / 10)))), (3, .int (nI (min 30 ((x.2.2.2.2.2.2.2 2) + ln)))), (0, .ref (ad 254)), (1, .int (nI d)), (2, .int (nI ln))]) kx kb dX8_groansTo_17 hl (by decide) rfl (fun ls hl => ?_)
  refine w_loop3 (fun (i : Nat) (rc : Nat) (gr : Nat) => 30 - i) (fun (i : Nat) (rc : Nat) (gr : Nat) H locs ls => Hx g N ad F A s H locs ∧ lv_has ls 5 [(0, .ref (ad 254)), (1, .int (nI d)), (2, .int (nI ln)), (3, .int (nI rc)), (4, .int (nI gr))] ∧ (i ≤ 30) ∧ (rc ≤ 30 ∧ i ≤ rc) ∧ (gr ≤ 4 + 4 * i) ∧ (gtN (nI d) ln (30 - i) rc gr = grTo x (nI d) ln)) ?_ 0 (min 30 (x.2.2.2.2.2.2.2 2 + ln)) (1 + (min 30 (x.2.2.2.2.2.2.2 2 + ln)) / 10) ⟨h, lv_sub hl [2, 3, 4, 1, 0] rfl, by omega, by omega, by omega, rfl⟩
  intro i rc gr H locs ls hinv ih
  obtain ⟨h, hl, hi, hrc, hgr, hS⟩ := hinv
  refine lv_iload_n kx kb dX8_groansTo_19 rfl (lv_at hl 3 rfl) ?_
  refine lv_iload_n kx kb dX8_groansTo_20 rfl (lv_at hl 1 rfl) ?_
  refine w_cmp_ge (tgt := 44) kx kb (by omega) (by omega) dX8_groansTo_21 (by decide) (fun c_1 => ?_) (fun c_1 => ?_)
  · refine lv_iload kx kb dX8_groansTo_44 (lv_at hl 4 rfl) ?_
    exact w_iret X h ⟨congrArg nI (by rw [← hS]; rcases Nat.eq_zero_or_pos (30 - i) with z | z; rw [z, gtN]; rw [show 30 - i = (30 - i - 1) + 1 by omega, gtN, if_pos ((nI_leI (by omega) (by omega)).mpr (by omega))]), rfl⟩ dX8_groansTo_46
  · refine lv_iload_n kx kb dX8_groansTo_24 rfl (lv_at hl 3 rfl) ?_
    refine lv_iload_n kx kb dX8_groansTo_25 rfl (lv_at hl 2 rfl) ?_
    refine w_readSi X M h [.int (nI rc), .int (nI ln)] [] ((c_X8_nextReach l g rc ln (by omega))) lk_X8_169 rfl ⟨by decide, by decide⟩ hl ⟨Nat.zero_le _, Nat.zero_le _⟩ (Nat.le_of_ble_eq_true rfl) rfl dX8_groansTo_26 (fun H locs h => ?_)
    refine lv_istore_n (lv' := [(3, .int (nI (min 30 (rc + ln)))), (0, .ref (ad 254)), (1, .int (nI d)), (2, .int (nI ln)), (4, .int (nI gr))]) kx kb dX8_groansTo_29 rfl hl (by decide) rfl (fun ls hl => ?_)
    refine lv_iload kx kb dX8_groansTo_30 (lv_at hl 4 rfl) ?_
    refine lv_iconst (v := nI 1) kx kb dX8_groansTo_32 (by decide) ?_
    refine lv_iload_n kx kb dX8_groansTo_33 rfl (lv_at hl 0 rfl) ?_
    refine lv_bipush (v := nI 10) kx kb dX8_groansTo_34 (by decide) ?_
    refine w_divn kx kb (by omega) (by omega) (by omega) dX8_groansTo_36 ?_
    refine w_addn kx kb dX8_groansTo_37 ?_
    refine w_addn kx kb dX8_groansTo_38 ?_
    refine lv_istore (lv' := [(4, .int (nI (gr + (1 + ((min 30 (rc + ln)) / 10))))), (3, .int (nI (min 30 (rc + ln)))), (0, .ref (ad 254)), (1, .int (nI d)), (2, .int (nI ln))]) kx kb dX8_groansTo_39 hl (by decide) rfl (fun ls hl => ?_)
    refine lv_goto (tgt := 19) kx kb dX8_groansTo_41 (by decide) ?_
    exact ih (i + 1) (min 30 (rc + ln)) (gr + (1 + (min 30 (rc + ln)) / 10)) _ _ _ ⟨h, lv_sub hl [2, 3, 4, 1, 0] rfl, by omega, by omega, by omega, by rw [show 30 - i = (30 - (i + 1)) + 1 by omega, gtN, if_neg (fun e => absurd ((nI_leI (by omega) (by omega)).mp e) (by omega))] at hS; exact hS⟩ (by omega)
set_option maxRecDepth 20000 in
theorem c_X8_bestStroke (l : Launch) (g : gT) {N : Nat} {ad : Nat → Nat} {F : Nat → va_E} (u : Nat → Int32) (v : Nat → Nat) (hm : oM g N ad F u v) (x : SX) (hI : Inv x) (W : Nat → Int32) (hW : arI g F 255 274 W) (hR : RW x W)  : CtI l yX8_bestStroke cX8_bestStroke 4 (some .int) 3 68 g N ad F [.ref (ad 254)] (fun r F' => r = (bestF x) ∧ F' = F) := by
  refine CtI_of (by decide) (Nat.le_of_ble_eq_true rfl) ?_
  intro p e s m args below meth c A H ls X M h hl
  have kx := X.1.1
  have kb := X.1.2.1
  have hl : lv_has ls 4 [(0, .ref (ad 254))] := hl
  have hN0 := hm.1
  have hn12 := hI.n
  have htn64 := hI.tn
  obtain ⟨hz0, hz1a, hz1, hz2, hz3, hz4⟩ := hI.zz
  refine lv_aload_n kx kb dX8_bestStroke_0 rfl (lv_at hl 0 rfl) ?_
  refine lv_aload_n kx kb dX8_bestStroke_1 rfl (lv_at hl 0 rfl) ?_
  refine w_get X M h 254 hm.2 (by omega) fl_X8_32 rfl dX8_bestStroke_2 ?_
  refine lv_iconst (v := nI 1) kx kb dX8_bestStroke_5 (by decide) ?_
  refine w_iald X M h 255 hW (by omega) (1) (rfl) (by omega) (by omega) dX8_bestStroke_6 ?_
  refine w_top (y := nI (x.2.2.2.2.2.2.2 0)) (hR.z 0 (by omega)) ?_
  refine lv_iconst (v := nI 0) kx kb dX8_bestStroke_7 (by decide) ?_
  refine w_readVi X M h [.int (nI (x.2.2.2.2.2.2.2 0)), .int (nI 0)] [] ((c_X8_atPlace l g u v ⟨by omega, hm.2⟩ x hI W hW hR (nI (x.2.2.2.2.2.2.2 0)) (nI 0))) lk_X8_172 hm.2 (by omega) rfl rfl ⟨by decide, by decide⟩ hl ⟨Nat.zero_le _, Nat.zero_le _⟩ (Nat.le_of_ble_eq_true rfl) rfl dX8_bestStroke_8 (fun H locs h => ?_)
  refine lv_istore_n (lv' := [(1, .int (ixO (bdP x.2.1 x.1 (nI (x.2.2.2.2.2.2.2 0)) (nI 0)) x.1)), (0, .ref (ad 254))]) kx kb dX8_bestStroke_11 rfl hl (by decide) rfl (fun ls hl => ?_)
  refine lv_iload_n kx kb dX8_bestStroke_12 rfl (lv_at hl 0 rfl) ?_
  refine lv_if_ge (tgt := 19) kx kb dX8_bestStroke_13 (by decide) (fun c_1 => ?_) (fun c_1 => ?_)
  · obtain ⟨k, hk, hik, hkk⟩ := ixO_nx rfl (Int32.not_lt.mpr c_1)
    obtain ⟨wj, d, sj, tj, pj, h1, h2, h3, h4, h5, h6, h7, h8, h9, h10, h11, h12, h13⟩ := hI.j hk
    have hbp := bd_pos hI hk hik
    have hld := leastD_k hI hk hik
    rw [hik] at hl
    refine lv_iconst (v := nI 1) kx kb dX8_bestStroke_19 (by decide) ?_
    refine lv_istore_n (lv' := [(2, .int (nI 1)), (1, .int (nI k)), (0, .ref (ad 254))]) kx kb dX8_bestStroke_20 rfl hl (by decide) rfl (fun ls hl => ?_)
    refine lv_iconst (v := nI 2) kx kb dX8_bestStroke_21 (by decide) ?_
    refine lv_istore_n (lv' := [(3, .int (nI 2)), (2, .int (nI 1)), (1, .int (nI k)), (0, .ref (ad 254))]) kx kb dX8_bestStroke_22 rfl hl (by decide) rfl (fun ls hl => ?_)
    refine w_loop2 (fun (i : Nat) (b : Nat) => 11 - i) (fun (i : Nat) (b : Nat) H locs ls => Hx g N ad F A s H locs ∧ lv_has ls 4 [(0, .ref (ad 254)), (1, .int (nI k)), (2, .int (nI b)), (3, .int (nI i))] ∧ (2 ≤ i ∧ i ≤ 11) ∧ (1 ≤ b ∧ b ≤ 10) ∧ (b = bsN x (nI d) (i - 2))) ?_ 2 1 ⟨h, lv_sub hl [3, 2, 1, 0] rfl, by omega, by omega, rfl⟩
    intro i b H locs ls hinv ih
    obtain ⟨h, hl, hi, hbb, hS⟩ := hinv
    have hg1 := grTo_lt x (nI d) i
    have hg2 := grTo_lt x (nI d) b
    refine lv_iload_n kx kb dX8_bestStroke_23 rfl (lv_at hl 3 rfl) ?_
    refine lv_bipush (v := nI 10) kx kb dX8_bestStroke_24 (by decide) ?_
    refine w_cmp_gt (tgt := 66) kx kb (by omega) (by omega) dX8_bestStroke_26 (by decide) (fun c_2 => ?_) (fun c_2 => ?_)
    · refine lv_iload_n kx kb dX8_bestStroke_66 rfl (lv_at hl 2 rfl) ?_
      exact w_iret X h ⟨by rw [bestF]; show _ = if cnt (cwP x.2.1 (nI (x.2.2.2.2.2.2.2 0)) (nI 30)) x.1 = 0 then _ else nI (bsN x (leastD x (nI (x.2.2.2.2.2.2.2 0))) 9); rw [if_neg (by omega), hld, h9, hS, show i - 2 = 9 by omega], rfl⟩ dX8_bestStroke_67
    · refine lv_aload_n kx kb dX8_bestStroke_29 rfl (lv_at hl 0 rfl) ?_
      refine lv_aload_n kx kb dX8_bestStroke_30 rfl (lv_at hl 0 rfl) ?_
      refine lv_iload_n kx kb dX8_bestStroke_31 rfl (lv_at hl 1 rfl) ?_
      refine lv_iconst (v := nI 1) kx kb dX8_bestStroke_32 (by decide) ?_
      refine w_readVi X M h [.int (nI k), .int (nI 1)] [.ref (ad 254)] ((c_X8_is l g u v ⟨by omega, hm.2⟩ x hI W hW hR k 1 (by omega) (by omega))) lk_X8_73 hm.2 (by omega) rfl rfl ⟨by decide, by decide⟩ hl ⟨Nat.zero_le _, Nat.zero_le _⟩ (Nat.le_of_ble_eq_true rfl) rfl dX8_bestStroke_33 (fun H locs h => ?_)
      refine w_top (y := nI d) h9 ?_
      refine lv_iload_n kx kb dX8_bestStroke_36 rfl (lv_at hl 3 rfl) ?_
      refine w_readVi X M h [.int (nI d), .int (nI i)] [] ((c_X8_groansTo l g u v ⟨by omega, hm.2⟩ x hI W hW hR d i (by omega) (by omega) (by omega))) lk_X8_201 hm.2 (by omega) rfl rfl ⟨by decide, by decide⟩ hl ⟨Nat.zero_le _, Nat.zero_le _⟩ (Nat.le_of_ble_eq_true rfl) rfl dX8_bestStroke_37 (fun H locs h => ?_)
      refine lv_aload_n kx kb dX8_bestStroke_40 rfl (lv_at hl 0 rfl) ?_
      refine lv_aload_n kx kb dX8_bestStroke_41 rfl (lv_at hl 0 rfl) ?_
      refine lv_iload_n kx kb dX8_bestStroke_42 rfl (lv_at hl 1 rfl) ?_
      refine lv_iconst (v := nI 1) kx kb dX8_bestStroke_43 (by decide) ?_
      refine w_readVi X M h [.int (nI k), .int (nI 1)] [.ref (ad 254), .int (nI (grTo x (nI d) i))] ((c_X8_is l g u v ⟨by omega, hm.2⟩ x hI W hW hR k 1 (by omega) (by omega))) lk_X8_73 hm.2 (by omega) rfl rfl ⟨by decide, by decide⟩ hl ⟨Nat.zero_le _, Nat.zero_le _⟩ (Nat.le_of_ble_eq_true rfl) rfl dX8_bestStroke_44 (fun H locs h => ?_)
      refine w_top (y := nI d) h9 ?_
      refine lv_iload_n kx kb dX8_bestStroke_47 rfl (lv_at hl 2 rfl) ?_
      refine w_readVi X M h [.int (nI d), .int (nI b)] [.int (nI (grTo x (nI d) i))] ((c_X8_groansTo l g u v ⟨by omega, hm.2⟩ x hI W hW hR d b (by omega) (by omega) (by omega))) lk_X8_201 hm.2 (by omega) rfl rfl ⟨by decide, by decide⟩ hl ⟨Nat.zero_le _, Nat.zero_le _⟩ (Nat.le_of_ble_eq_true rfl) rfl dX8_bestStroke_48 (fun H locs h => ?_)
      refine w_cmp_ge (tgt := 58) kx kb (by omega) (by omega) dX8_bestStroke_51 (by decide) (fun c_3 => ?_) (fun c_3 => ?_)
      · refine lv_iload_n kx kb dX8_bestStroke_58 rfl (lv_at hl 2 rfl) ?_
        refine lv_istore_n (lv' := [(2, .int (nI b)), (0, .ref (ad 254)), (1, .int (nI k)), (3, .int (nI i))]) kx kb dX8_bestStroke_59 rfl hl (by decide) rfl (fun ls hl => ?_)
        refine lv_iinc (v := nI (i + 1)) (lv' := [(3, .int (nI (i + 1))), (2, .int (nI b)), (0, .ref (ad 254)), (1, .int (nI k))]) kx kb dX8_bestStroke_60 hl (k := 3) rfl (nI_add _ _) (by decide) rfl (fun ls hl => ?_)
        refine lv_goto (tgt := 23) kx kb dX8_bestStroke_63 (by decide) ?_
        exact ih (i + 1) b _ _ _ ⟨h, lv_sub hl [2, 3, 1, 0] rfl, by omega, by omega, by rw [show i + 1 - 2 = (i - 2) + 1 by omega, bsN, show i - 2 + 2 = i by omega, ← hS, if_neg (by omega)]⟩ (by omega)
      · refine lv_iload_n kx kb dX8_bestStroke_54 rfl (lv_at hl 3 rfl) ?_
        refine lv_goto (tgt := 59) kx kb dX8_bestStroke_55 (by decide) ?_
        refine lv_istore_n (lv' := [(2, .int (nI i)), (0, .ref (ad 254)), (1, .int (nI k)), (3, .int (nI i))]) kx kb dX8_bestStroke_59 rfl hl (by decide) rfl (fun ls hl => ?_)
        refine lv_iinc (v := nI (i + 1)) (lv' := [(3, .int (nI (i + 1))), (2, .int (nI i)), (0, .ref (ad 254)), (1, .int (nI k))]) kx kb dX8_bestStroke_60 hl (k := 3) rfl (nI_add _ _) (by decide) rfl (fun ls hl => ?_)
        refine lv_goto (tgt := 23) kx kb dX8_bestStroke_63 (by decide) ?_
        exact ih (i + 1) i _ _ _ ⟨h, lv_sub hl [2, 3, 1, 0] rfl, by omega, by omega, by rw [show i + 1 - 2 = (i - 2) + 1 by omega, bsN, show i - 2 + 2 = i by omega, ← hS, if_pos (by omega)]⟩ (by omega)
  · refine lv_bipush (v := (-6)) kx kb dX8_bestStroke_16 (by decide) ?_
    exact w_iret X h ⟨by rw [bestF]; show _ = if cnt (cwP x.2.1 (nI (x.2.2.2.2.2.2.2 0)) (nI 30)) x.1 = 0 then _ else _; rcases Nat.eq_zero_or_pos (cnt (cwP x.2.1 (nI (x.2.2.2.2.2.2.2 0)) (nI 30)) x.1) with z | z; rw [if_pos z]; obtain ⟨k, g1, g2, g3, g4⟩ := fnd_b hI (d := 30) (by decide) z; rw [g2] at c_1; exact absurd (Int32.not_lt.mp (nI_pos (by omega))) c_1, rfl⟩ dX8_bestStroke_18
set_option maxRecDepth 20000 in
theorem c_X8_isFunnier (l : Launch) (g : gT) {N : Nat} {ad : Nat → Nat} {F : Nat → va_E} (u : Nat → Int32) (v : Nat → Nat) (hm : oM g N ad F u v) (x : SX) (hI : Inv x) (W : Nat → Int32) (hW : arI g F 255 274 W) (hR : RW x W) (a b : Nat) (ha : a < x.1) (hb : b < x.1) : CtI l yX8_isFunnier cX8_isFunnier 6 (some .boolean) 2 45 g N ad F [.ref (ad 254), .int (nI a), .int (nI b)] (fun r F' => r = (bI (fnXb x a b = true)) ∧ F' = F) := by
  refine CtI_of (by decide) (Nat.le_of_ble_eq_true rfl) ?_
  intro p e s m args below meth c A H ls X M h hl
  have kx := X.1.1
  have kb := X.1.2.1
  have hl : lv_has ls 6 [(0, .ref (ad 254)), (1, .int (nI a)), (2, .int (nI b))] := hl
  have hN0 := hm.1
  have hn12 := hI.n
  have htn64 := hI.tn
  obtain ⟨hz0, hz1a, hz1, hz2, hz3, hz4⟩ := hI.zz
  obtain ⟨wa, da, sa, ta, pa, a1, a2, a3, a4, a5, a6, a7, a8, a9, a10, a11, a12, a13⟩ := hI.j ha
  obtain ⟨wb, db, sb, tb, pb, b1, b2, b3, b4, b5, b6, b7, b8, b9, b10, b11, b12, b13⟩ := hI.j hb
  refine lv_aload_n kx kb dX8_isFunnier_0 rfl (lv_at hl 0 rfl) ?_
  refine lv_iload_n kx kb dX8_isFunnier_1 rfl (lv_at hl 1 rfl) ?_
  refine lv_aload_n kx kb dX8_isFunnier_2 rfl (lv_at hl 0 rfl) ?_
  refine w_get X M h 254 hm.2 (by omega) fl_X8_32 rfl dX8_isFunnier_3 ?_
  refine lv_iconst (v := nI 4) kx kb dX8_isFunnier_6 (by decide) ?_
  refine w_iald X M h 255 hW (by omega) (4) (rfl) (by omega) (by omega) dX8_isFunnier_7 ?_
  refine w_top (y := nI (x.2.2.2.2.2.2.2 3)) (hR.z 3 (by omega)) ?_
  refine w_readVf X M h [.int (nI a), .int (nI (x.2.2.2.2.2.2.2 3))] [] ((c_X8_laughOf l g u v ⟨by omega, hm.2⟩ x hI W hW hR a (by omega) (x.2.2.2.2.2.2.2 3) (hI.lnn (by omega) (by omega)))) lk_X8_155 hm.2 (by omega) rfl rfl ⟨by decide, by decide⟩ hl ⟨Nat.zero_le _, Nat.zero_le _⟩ (Nat.le_of_ble_eq_true rfl) rfl dX8_isFunnier_8 (fun H locs h => ?_)
  refine lv_fstore_n (lv' := [(3, .float (lfO (x.2.1 3 a) (x.2.1 4 a) (nI (x.2.2.2.2.2.2.2 3)))), (0, .ref (ad 254)), (1, .int (nI a)), (2, .int (nI b))]) kx kb dX8_isFunnier_11 rfl hl (by decide) rfl (fun ls hl => ?_)
  refine lv_aload_n kx kb dX8_isFunnier_12 rfl (lv_at hl 1 rfl) ?_
  refine lv_iload_n kx kb dX8_isFunnier_13 rfl (lv_at hl 3 rfl) ?_
  refine lv_aload_n kx kb dX8_isFunnier_14 rfl (lv_at hl 1 rfl) ?_
  refine w_get X M h 254 hm.2 (by omega) fl_X8_32 rfl dX8_isFunnier_15 ?_
  refine lv_iconst (v := nI 4) kx kb dX8_isFunnier_18 (by decide) ?_
  refine w_iald X M h 255 hW (by omega) (4) (rfl) (by omega) (by omega) dX8_isFunnier_19 ?_
  refine w_top (y := nI (x.2.2.2.2.2.2.2 3)) (hR.z 3 (by omega)) ?_
  refine w_readVf X M h [.int (nI b), .int (nI (x.2.2.2.2.2.2.2 3))] [] ((c_X8_laughOf l g u v ⟨by omega, hm.2⟩ x hI W hW hR b (by omega) (x.2.2.2.2.2.2.2 3) (hI.lnn (by omega) (by omega)))) lk_X8_155 hm.2 (by omega) rfl rfl ⟨by decide, by decide⟩ hl ⟨Nat.zero_le _, Nat.zero_le _⟩ (Nat.le_of_ble_eq_true rfl) rfl dX8_isFunnier_20 (fun H locs h => ?_)
  refine lv_fstore (lv' := [(4, .float (lfO (x.2.1 3 b) (x.2.1 4 b) (nI (x.2.2.2.2.2.2.2 3)))), (3, .float (lfO (x.2.1 3 a) (x.2.1 4 a) (nI (x.2.2.2.2.2.2.2 3)))), (0, .ref (ad 254)), (1, .int (nI a)), (2, .int (nI b))]) kx kb dX8_isFunnier_23 hl (by decide) rfl (fun ls hl => ?_)
  refine lv_fload_n kx kb dX8_isFunnier_25 rfl (lv_at hl 1 rfl) ?_
  refine lv_fload kx kb dX8_isFunnier_26 (lv_at hl 0 rfl) ?_
  refine lv_fcmp kx kb dX8_isFunnier_28 ?_
  refine lv_if_eq (tgt := 45) kx kb dX8_isFunnier_29 (by decide) (fun c_1 => ?_) (fun c_1 => ?_)
  · refine lv_aload_n kx kb dX8_isFunnier_45 rfl (lv_at hl 2 rfl) ?_
    refine lv_iload_n kx kb dX8_isFunnier_46 rfl (lv_at hl 4 rfl) ?_
    refine lv_iconst (v := nI 1) kx kb dX8_isFunnier_47 (by decide) ?_
    refine w_readVi X M h [.int (nI b), .int (nI 1)] [] ((c_X8_is l g u v ⟨by omega, hm.2⟩ x hI W hW hR b 1 (by omega) (by omega))) lk_X8_73 hm.2 (by omega) rfl rfl ⟨by decide, by decide⟩ hl ⟨Nat.zero_le _, Nat.zero_le _⟩ (Nat.le_of_ble_eq_true rfl) rfl dX8_isFunnier_48 (fun H locs h => ?_)
    refine w_top (y := nI db) b9 ?_
    refine lv_aload_n kx kb dX8_isFunnier_51 rfl (lv_at hl 2 rfl) ?_
    refine lv_iload_n kx kb dX8_isFunnier_52 rfl (lv_at hl 3 rfl) ?_
    refine lv_iconst (v := nI 1) kx kb dX8_isFunnier_53 (by decide) ?_
    refine w_readVi X M h [.int (nI a), .int (nI 1)] [.int (nI db)] ((c_X8_is l g u v ⟨by omega, hm.2⟩ x hI W hW hR a 1 (by omega) (by omega))) lk_X8_73 hm.2 (by omega) rfl rfl ⟨by decide, by decide⟩ hl ⟨Nat.zero_le _, Nat.zero_le _⟩ (Nat.le_of_ble_eq_true rfl) rfl dX8_isFunnier_54 (fun H locs h => ?_)
    refine w_top (y := nI da) a9 ?_
    refine lv_isub kx kb dX8_isFunnier_57 ?_
    refine lv_istore (lv' := [(5, .int ((nI db) - (nI da))), (4, .float (lfO (x.2.1 3 b) (x.2.1 4 b) (nI (x.2.2.2.2.2.2.2 3)))), (3, .float (lfO (x.2.1 3 a) (x.2.1 4 a) (nI (x.2.2.2.2.2.2.2 3)))), (0, .ref (ad 254)), (1, .int (nI a)), (2, .int (nI b))]) kx kb dX8_isFunnier_58 hl (by decide) rfl (fun ls hl => ?_)
    refine lv_iload kx kb dX8_isFunnier_60 (lv_at hl 0 rfl) ?_
    refine lv_if_eq (tgt := 78) kx kb dX8_isFunnier_62 (by decide) (fun c_2 => ?_) (fun c_2 => ?_)
    · refine lv_iload_n kx kb dX8_isFunnier_78 rfl (lv_at hl 4 rfl) ?_
      refine lv_iload_n kx kb dX8_isFunnier_79 rfl (lv_at hl 5 rfl) ?_
      refine w_cmp_ge (tgt := 87) kx kb (by omega) (by omega) dX8_isFunnier_80 (by decide) (fun c_3 => ?_) (fun c_3 => ?_)
      · refine lv_iconst (v := nI 0) kx kb dX8_isFunnier_87 (by decide) ?_
        exact w_zret X h (Or.inl (by decide)) ⟨bI_fn (Bool.eq_false_iff.mp (by rw [fnXb, if_pos (show Op.cmpValue (FP.fcmp (laX x a) (laX x b)) .l = 0 from c_1), if_pos (by show x.2.1 1 a = x.2.1 1 b; rw [a9, b9]; exact congrArg nI ((sub_eq0 (by omega) (by omega)).mp c_2).symm)]; exact decide_eq_false (by omega))), rfl⟩ dX8_isFunnier_88
      · refine lv_iconst (v := nI 1) kx kb dX8_isFunnier_83 (by decide) ?_
        refine lv_goto (tgt := 88) kx kb dX8_isFunnier_84 (by decide) ?_
        exact w_zret X h (Or.inr (by decide)) ⟨bI_tn (by rw [fnXb, if_pos (show Op.cmpValue (FP.fcmp (laX x a) (laX x b)) .l = 0 from c_1), if_pos (by show x.2.1 1 a = x.2.1 1 b; rw [a9, b9]; exact congrArg nI ((sub_eq0 (by omega) (by omega)).mp c_2).symm)]; exact decide_eq_true (by omega)), rfl⟩ dX8_isFunnier_88
    · refine lv_iload kx kb dX8_isFunnier_65 (lv_at hl 0 rfl) ?_
      refine lv_if_le (tgt := 74) kx kb dX8_isFunnier_67 (by decide) (fun c_4 => ?_) (fun c_4 => ?_)
      · refine lv_iconst (v := nI 0) kx kb dX8_isFunnier_74 (by decide) ?_
        refine lv_goto (tgt := 88) kx kb dX8_isFunnier_75 (by decide) ?_
        exact w_zret X h (Or.inl (by decide)) ⟨bI_fn (Bool.eq_false_iff.mp (by rw [fnXb, if_pos (show Op.cmpValue (FP.fcmp (laX x a) (laX x b)) .l = 0 from c_1), if_neg (by show ¬ x.2.1 1 a = x.2.1 1 b; rw [a9, b9]; exact fun e => c_2 ((sub_eq0 (by omega) (by omega)).mpr (nI_inj (by omega) (by omega) e).symm))]; show decide (x.2.1 1 a < x.2.1 1 b) = _; rw [a9, b9]; exact decide_eq_false (fun e => absurd ((sub_gt0 (by omega) (by omega)).mpr ((nI_ltI (by omega) (by omega)).mp e)) (Int32.not_lt.mpr c_4)))), rfl⟩ dX8_isFunnier_88
      · refine lv_iconst (v := nI 1) kx kb dX8_isFunnier_70 (by decide) ?_
        refine lv_goto (tgt := 88) kx kb dX8_isFunnier_71 (by decide) ?_
        exact w_zret X h (Or.inr (by decide)) ⟨bI_tn (by rw [fnXb, if_pos (show Op.cmpValue (FP.fcmp (laX x a) (laX x b)) .l = 0 from c_1), if_neg (by show ¬ x.2.1 1 a = x.2.1 1 b; rw [a9, b9]; exact fun e => c_2 ((sub_eq0 (by omega) (by omega)).mpr (nI_inj (by omega) (by omega) e).symm))]; show decide (x.2.1 1 a < x.2.1 1 b) = _; rw [a9, b9]; exact decide_eq_true ((nI_ltI (by omega) (by omega)).mpr ((sub_gt0 (by omega) (by omega)).mp (Int32.not_le.mp c_4)))), rfl⟩ dX8_isFunnier_88
  · refine lv_fload_n kx kb dX8_isFunnier_32 rfl (lv_at hl 1 rfl) ?_
    refine lv_fload kx kb dX8_isFunnier_33 (lv_at hl 0 rfl) ?_
    refine lv_fcmp kx kb dX8_isFunnier_35 ?_
    refine lv_if_le (tgt := 43) kx kb dX8_isFunnier_36 (by decide) (fun c_5 => ?_) (fun c_5 => ?_)
    · refine lv_iconst (v := nI 0) kx kb dX8_isFunnier_43 (by decide) ?_
      exact w_zret X h (Or.inl (by decide)) ⟨bI_fn (Bool.eq_false_iff.mp (by rw [fnXb, if_neg (show ¬ Op.cmpValue (FP.fcmp (laX x a) (laX x b)) .l = 0 from c_1)]; exact decide_eq_false (Int32.not_lt.mpr c_5))), rfl⟩ dX8_isFunnier_44
    · refine lv_iconst (v := nI 1) kx kb dX8_isFunnier_39 (by decide) ?_
      refine lv_goto (tgt := 44) kx kb dX8_isFunnier_40 (by decide) ?_
      exact w_zret X h (Or.inr (by decide)) ⟨bI_tn (by rw [fnXb, if_neg (show ¬ Op.cmpValue (FP.fcmp (laX x a) (laX x b)) .l = 0 from c_1)]; exact decide_eq_true (Int32.not_le.mp c_5)), rfl⟩ dX8_isFunnier_44
set_option maxRecDepth 20000 in
theorem c_X8_funniest (l : Launch) (g : gT) {N : Nat} {ad : Nat → Nat} {F : Nat → va_E} (u : Nat → Int32) (v : Nat → Nat) (hm : oM g N ad F u v) (x : SX) (hI : Inv x) (W : Nat → Int32) (hW : arI g F 255 274 W) (hR : RW x W) (pl : Int32) : CtI l yX8_funniest cX8_funniest 5 (some .int) 3 70 g N ad F [.ref (ad 254), .int pl] (fun r F' => r = (funniestF x pl) ∧ F' = F) := by
  refine CtI_of (by decide) (Nat.le_of_ble_eq_true rfl) ?_
  intro p e s m args below meth c A H ls X M h hl
  have kx := X.1.1
  have kb := X.1.2.1
  have hl : lv_has ls 5 [(0, .ref (ad 254)), (1, .int pl)] := hl
  have hN0 := hm.1
  have hn12 := hI.n
  have htn64 := hI.tn
  obtain ⟨hz0, hz1a, hz1, hz2, hz3, hz4⟩ := hI.zz
  refine lv_iconst (v := nI 0) kx kb dX8_funniest_0 (by decide) ?_
  refine lv_istore_n (lv' := [(2, .int (nI 0)), (0, .ref (ad 254)), (1, .int pl)]) kx kb dX8_funniest_1 rfl hl (by decide) rfl (fun ls hl => ?_)
  refine w_loop1 (fun (a : Nat) => x.1 - a) (fun (a : Nat) H locs ls => Hx g N ad F A s H locs ∧ lv_has ls 5 [(0, .ref (ad 254)), (1, .int pl), (2, .int (nI a))] ∧ (a ≤ x.1) ∧ (∀ z, z < a → (fun a => decide (nI (cnt (fun b => fnXb x b a) x.1) = pl)) z = false)) ?_ 0 ⟨h, lv_sub hl [1, 2, 0] rfl, Nat.zero_le _, fun z hz => absurd hz (Nat.not_lt_zero z)⟩
  intro a H locs ls hinv ih
  obtain ⟨h, hl, ha, hno⟩ := hinv
  have iho := ih
  refine lv_iload_n kx kb dX8_funniest_2 rfl (lv_at hl 2 rfl) ?_
  refine lv_aload_n kx kb dX8_funniest_3 rfl (lv_at hl 0 rfl) ?_
  refine w_get X M h 254 hm.2 (by omega) fl_X8_32 rfl dX8_funniest_4 ?_
  refine lv_iconst (v := nI 0) kx kb dX8_funniest_7 (by decide) ?_
  refine w_iald X M h 255 hW (by omega) (0) (rfl) (by omega) (by omega) dX8_funniest_8 ?_
  refine w_top (y := nI x.1) (hR.n) ?_
  refine w_cmp_ge (tgt := 65) kx kb (by omega) (by omega) dX8_funniest_9 (by decide) (fun c_1 => ?_) (fun c_1 => ?_)
  · refine lv_iconst (v := (-1)) kx kb dX8_funniest_65 (by decide) ?_
    exact w_iret X h ⟨(ixO_no (fun z hz => hno z (by omega))).symm, rfl⟩ dX8_funniest_66
  · refine lv_iconst (v := nI 0) kx kb dX8_funniest_12 (by decide) ?_
    refine lv_istore_n (lv' := [(3, .int (nI 0)), (0, .ref (ad 254)), (1, .int pl), (2, .int (nI a))]) kx kb dX8_funniest_13 rfl hl (by decide) rfl (fun ls hl => ?_)
    refine lv_iconst (v := nI 0) kx kb dX8_funniest_14 (by decide) ?_
    refine lv_istore (lv' := [(4, .int (nI 0)), (3, .int (nI 0)), (0, .ref (ad 254)), (1, .int pl), (2, .int (nI a))]) kx kb dX8_funniest_15 hl (by decide) rfl (fun ls hl => ?_)
    refine w_loop2 (fun (b : Nat) (m : Nat) => x.1 - b) (fun (b : Nat) (m : Nat) H locs ls => Hx g N ad F A s H locs ∧ lv_has ls 5 [(0, .ref (ad 254)), (1, .int pl), (2, .int (nI a)), (3, .int (nI m)), (4, .int (nI b))] ∧ (b ≤ x.1) ∧ (m = cnt (fun b => fnXb x b a) b)) ?_ 0 0 ⟨h, lv_sub hl [2, 3, 4, 1, 0] rfl, Nat.zero_le _, rfl⟩
    intro b m H locs ls hinv ih
    obtain ⟨h, hl, hb, hv⟩ := hinv
    refine lv_iload kx kb dX8_funniest_17 (lv_at hl 4 rfl) ?_
    refine lv_aload_n kx kb dX8_funniest_19 rfl (lv_at hl 0 rfl) ?_
    refine w_get X M h 254 hm.2 (by omega) fl_X8_32 rfl dX8_funniest_20 ?_
    refine lv_iconst (v := nI 0) kx kb dX8_funniest_23 (by decide) ?_
    refine w_iald X M h 255 hW (by omega) (0) (rfl) (by omega) (by omega) dX8_funniest_24 ?_
    refine w_top (y := nI x.1) (hR.n) ?_
    refine w_cmp_ge (tgt := 52) kx kb (by omega) (by omega) dX8_funniest_25 (by decide) (fun c_2 => ?_) (fun c_2 => ?_)
    · refine lv_iload_n kx kb dX8_funniest_52 rfl (lv_at hl 3 rfl) ?_
      refine lv_iload_n kx kb dX8_funniest_53 rfl (lv_at hl 1 rfl) ?_
      refine lv_icmp_ne (tgt := 59) kx kb dX8_funniest_54 (by decide) (fun c_3 => ?_) (fun c_3 => ?_)
      · refine lv_iinc (v := nI (a + 1)) (lv' := [(2, .int (nI (a + 1))), (0, .ref (ad 254)), (1, .int pl), (3, .int (nI m)), (4, .int (nI b))]) kx kb dX8_funniest_59 hl (k := 2) rfl (nI_add _ _) (by decide) rfl (fun ls hl => ?_)
        refine lv_goto (tgt := 2) kx kb dX8_funniest_62 (by decide) ?_
        exact iho (a + 1) _ _ _ ⟨h, lv_sub hl [1, 2, 0] rfl, by omega, fun z hz => by
            rcases Nat.lt_or_ge z a with y | y
            · exact hno z y
            · have e : z = a := by omega
              subst e
              rw [hv, show b = x.1 by omega] at c_3
              simp [c_3]⟩ (by omega)
      · refine lv_iload_n kx kb dX8_funniest_57 rfl (lv_at hl 2 rfl) ?_
        exact w_iret X h ⟨(ixO_at (by omega) hno (by rw [hv, show b = x.1 by omega] at c_3; simp [c_3])).symm, rfl⟩ dX8_funniest_58
    · refine lv_iload_n kx kb dX8_funniest_28 rfl (lv_at hl 3 rfl) ?_
      refine lv_aload_n kx kb dX8_funniest_29 rfl (lv_at hl 0 rfl) ?_
      refine lv_iload kx kb dX8_funniest_30 (lv_at hl 4 rfl) ?_
      refine lv_iload_n kx kb dX8_funniest_32 rfl (lv_at hl 2 rfl) ?_
      refine w_readVi X M h [.int (nI b), .int (nI a)] [.int (nI m)] ((c_X8_isFunnier l g u v ⟨by omega, hm.2⟩ x hI W hW hR b a (by omega) (by omega))) lk_X8_204 hm.2 (by omega) rfl rfl ⟨by decide, by decide⟩ hl ⟨Nat.zero_le _, Nat.zero_le _⟩ (Nat.le_of_ble_eq_true rfl) rfl dX8_funniest_33 (fun H locs h => ?_)
      refine w_if_eqb (tgt := 43) kx kb dX8_funniest_36 (by decide) (fun c_4 => ?_) (fun c_4 => ?_)
      · refine lv_iconst (v := nI 0) kx kb dX8_funniest_43 (by decide) ?_
        refine w_addn kx kb dX8_funniest_44 ?_
        refine lv_istore_n (lv' := [(3, .int (nI (m + 0))), (0, .ref (ad 254)), (1, .int pl), (2, .int (nI a)), (4, .int (nI b))]) kx kb dX8_funniest_45 rfl hl (by decide) rfl (fun ls hl => ?_)
        refine lv_iinc (v := nI (b + 1)) (lv' := [(4, .int (nI (b + 1))), (3, .int (nI (m + 0))), (0, .ref (ad 254)), (1, .int pl), (2, .int (nI a))]) kx kb dX8_funniest_46 hl (k := 4) rfl (nI_add _ _) (by decide) rfl (fun ls hl => ?_)
        refine lv_goto (tgt := 17) kx kb dX8_funniest_49 (by decide) ?_
        exact ih (b + 1) (m + 0) _ _ _ ⟨h, lv_sub hl [2, 3, 4, 1, 0] rfl, by omega, by rw [hv, cnt_f (by simpa using c_4)]; rfl⟩ (by omega)
      · refine lv_iconst (v := nI 1) kx kb dX8_funniest_39 (by decide) ?_
        refine lv_goto (tgt := 44) kx kb dX8_funniest_40 (by decide) ?_
        refine w_addn kx kb dX8_funniest_44 ?_
        refine lv_istore_n (lv' := [(3, .int (nI (m + 1))), (0, .ref (ad 254)), (1, .int pl), (2, .int (nI a)), (4, .int (nI b))]) kx kb dX8_funniest_45 rfl hl (by decide) rfl (fun ls hl => ?_)
        refine lv_iinc (v := nI (b + 1)) (lv' := [(4, .int (nI (b + 1))), (3, .int (nI (m + 1))), (0, .ref (ad 254)), (1, .int pl), (2, .int (nI a))]) kx kb dX8_funniest_46 hl (k := 4) rfl (nI_add _ _) (by decide) rfl (fun ls hl => ?_)
        refine lv_goto (tgt := 17) kx kb dX8_funniest_49 (by decide) ?_
        exact ih (b + 1) (m + 1) _ _ _ ⟨h, lv_sub hl [2, 3, 4, 1, 0] rfl, by omega, by rw [hv, cnt_t (by simpa using c_4)]⟩ (by omega)
set_option maxRecDepth 20000 in
theorem c_X8_isFuller (l : Launch) (g : gT) {N : Nat} {ad : Nat → Nat} {F : Nat → va_E} (u : Nat → Int32) (v : Nat → Nat) (hm : oM g N ad F u v) (x : SX) (hI : Inv x) (W : Nat → Int32) (hW : arI g F 255 274 W) (hR : RW x W) (a b : Nat) (ha : a < 4) (hb : b < 4) : CtI l yX8_isFuller cX8_isFuller 5 (some .boolean) 2 45 g N ad F [.ref (ad 254), .int (nI a), .int (nI b)] (fun r F' => r = (bI (flXb x a b = true)) ∧ F' = F) := by
  refine CtI_of (by decide) (Nat.le_of_ble_eq_true rfl) ?_
  intro p e s m args below meth c A H ls X M h hl
  have kx := X.1.1
  have kb := X.1.2.1
  have hl : lv_has ls 5 [(0, .ref (ad 254)), (1, .int (nI a)), (2, .int (nI b))] := hl
  have hN0 := hm.1
  have hn12 := hI.n
  have htn64 := hI.tn
  obtain ⟨hz0, hz1a, hz1, hz2, hz3, hz4⟩ := hI.zz
  have hca := cnt_le (cwP x.2.1 (nI a) (nI 30)) x.1
  have hcb := cnt_le (cwP x.2.1 (nI b) (nI 30)) x.1
  have zba := hI.bk a
  have zbb := hI.bk b
  refine lv_aload_n kx kb dX8_isFuller_0 rfl (lv_at hl 0 rfl) ?_
  refine lv_iload_n kx kb dX8_isFuller_1 rfl (lv_at hl 1 rfl) ?_
  refine w_readVi X M h [.int (nI a)] [] ((c_X8_jokesIn l g u v ⟨by omega, hm.2⟩ x hI W hW hR (nI a))) lk_X8_97 hm.2 (by omega) rfl rfl ⟨by decide, by decide⟩ hl ⟨Nat.zero_le _, Nat.zero_le _⟩ (Nat.le_of_ble_eq_true rfl) rfl dX8_isFuller_2 (fun H locs h => ?_)
  refine lv_aload_n kx kb dX8_isFuller_5 rfl (lv_at hl 0 rfl) ?_
  refine lv_iload_n kx kb dX8_isFuller_6 rfl (lv_at hl 2 rfl) ?_
  refine w_readVi X M h [.int (nI b)] [.int (nI (cnt (cwP x.2.1 (nI a) (nI 30)) x.1))] ((c_X8_jokesIn l g u v ⟨by omega, hm.2⟩ x hI W hW hR (nI b))) lk_X8_97 hm.2 (by omega) rfl rfl ⟨by decide, by decide⟩ hl ⟨Nat.zero_le _, Nat.zero_le _⟩ (Nat.le_of_ble_eq_true rfl) rfl dX8_isFuller_7 (fun H locs h => ?_)
  refine lv_isub kx kb dX8_isFuller_10 ?_
  refine lv_istore_n (lv' := [(3, .int ((nI (cnt (cwP x.2.1 (nI a) (nI 30)) x.1)) - (nI (cnt (cwP x.2.1 (nI b) (nI 30)) x.1)))), (0, .ref (ad 254)), (1, .int (nI a)), (2, .int (nI b))]) kx kb dX8_isFuller_11 rfl hl (by decide) rfl (fun ls hl => ?_)
  refine lv_aload_n kx kb dX8_isFuller_12 rfl (lv_at hl 1 rfl) ?_
  refine w_get X M h 254 hm.2 (by omega) fl_X8_32 rfl dX8_isFuller_13 ?_
  refine lv_bipush (v := nI 14) kx kb dX8_isFuller_16 (by decide) ?_
  refine lv_iload_n kx kb dX8_isFuller_18 rfl (lv_at hl 2 rfl) ?_
  refine w_addn kx kb dX8_isFuller_19 ?_
  refine w_iald X M h 255 hW (by omega) (14 + a) (rfl) (by omega) (by omega) dX8_isFuller_20 ?_
  refine w_top (y := nI (x.2.2.2.2.2.2.1 a)) (hR.b a (by omega)) ?_
  refine lv_aload_n kx kb dX8_isFuller_21 rfl (lv_at hl 1 rfl) ?_
  refine w_get X M h 254 hm.2 (by omega) fl_X8_32 rfl dX8_isFuller_22 ?_
  refine lv_bipush (v := nI 14) kx kb dX8_isFuller_25 (by decide) ?_
  refine lv_iload_n kx kb dX8_isFuller_27 rfl (lv_at hl 3 rfl) ?_
  refine w_addn kx kb dX8_isFuller_28 ?_
  refine w_iald X M h 255 hW (by omega) (14 + b) (rfl) (by omega) (by omega) dX8_isFuller_29 ?_
  refine w_top (y := nI (x.2.2.2.2.2.2.1 b)) (hR.b b (by omega)) ?_
  refine lv_isub kx kb dX8_isFuller_30 ?_
  refine lv_istore (lv' := [(4, .int ((nI (x.2.2.2.2.2.2.1 a)) - (nI (x.2.2.2.2.2.2.1 b)))), (3, .int ((nI (cnt (cwP x.2.1 (nI a) (nI 30)) x.1)) - (nI (cnt (cwP x.2.1 (nI b) (nI 30)) x.1)))), (0, .ref (ad 254)), (1, .int (nI a)), (2, .int (nI b))]) kx kb dX8_isFuller_31 hl (by decide) rfl (fun ls hl => ?_)
  refine lv_iload_n kx kb dX8_isFuller_33 rfl (lv_at hl 1 rfl) ?_
  refine lv_if_eq (tgt := 47) kx kb dX8_isFuller_34 (by decide) (fun c_1 => ?_) (fun c_1 => ?_)
  · refine lv_iload kx kb dX8_isFuller_47 (lv_at hl 0 rfl) ?_
    refine lv_if_eq (tgt := 65) kx kb dX8_isFuller_49 (by decide) (fun c_2 => ?_) (fun c_2 => ?_)
    · refine lv_iload_n kx kb dX8_isFuller_65 rfl (lv_at hl 3 rfl) ?_
      refine lv_iload_n kx kb dX8_isFuller_66 rfl (lv_at hl 4 rfl) ?_
      refine w_cmp_ge (tgt := 74) kx kb (by omega) (by omega) dX8_isFuller_67 (by decide) (fun c_3 => ?_) (fun c_3 => ?_)
      · refine lv_iconst (v := nI 0) kx kb dX8_isFuller_74 (by decide) ?_
        exact w_zret X h (Or.inl (by decide)) ⟨bI_fn (Bool.eq_false_iff.mp (by rw [flXb, if_pos (show cnt (cwP x.2.1 (nI a) (nI 30)) x.1 = cnt (cwP x.2.1 (nI b) (nI 30)) x.1 from (sub_eq0 (by omega) (by omega)).mp c_1), if_pos (show x.2.2.2.2.2.2.1 a = x.2.2.2.2.2.2.1 b from (sub_eq0 (by omega) (by omega)).mp c_2)]; exact decide_eq_false (by omega))), rfl⟩ dX8_isFuller_75
      · refine lv_iconst (v := nI 1) kx kb dX8_isFuller_70 (by decide) ?_
        refine lv_goto (tgt := 75) kx kb dX8_isFuller_71 (by decide) ?_
        exact w_zret X h (Or.inr (by decide)) ⟨bI_tn (by rw [flXb, if_pos (show cnt (cwP x.2.1 (nI a) (nI 30)) x.1 = cnt (cwP x.2.1 (nI b) (nI 30)) x.1 from (sub_eq0 (by omega) (by omega)).mp c_1), if_pos (show x.2.2.2.2.2.2.1 a = x.2.2.2.2.2.2.1 b from (sub_eq0 (by omega) (by omega)).mp c_2)]; exact decide_eq_true (by omega)), rfl⟩ dX8_isFuller_75
    · refine lv_iload kx kb dX8_isFuller_52 (lv_at hl 0 rfl) ?_
      refine lv_if_le (tgt := 61) kx kb dX8_isFuller_54 (by decide) (fun c_4 => ?_) (fun c_4 => ?_)
      · refine lv_iconst (v := nI 0) kx kb dX8_isFuller_61 (by decide) ?_
        refine lv_goto (tgt := 75) kx kb dX8_isFuller_62 (by decide) ?_
        exact w_zret X h (Or.inl (by decide)) ⟨bI_fn (Bool.eq_false_iff.mp (by rw [flXb, if_pos (show cnt (cwP x.2.1 (nI a) (nI 30)) x.1 = cnt (cwP x.2.1 (nI b) (nI 30)) x.1 from (sub_eq0 (by omega) (by omega)).mp c_1), if_neg (show ¬ x.2.2.2.2.2.2.1 a = x.2.2.2.2.2.2.1 b from fun e => c_2 ((sub_eq0 (by omega) (by omega)).mpr e))]; show decide (x.2.2.2.2.2.2.1 b < x.2.2.2.2.2.2.1 a) = _; exact decide_eq_false (fun e => absurd ((sub_gt0 (by omega) (by omega)).mpr e) (Int32.not_lt.mpr c_4)))), rfl⟩ dX8_isFuller_75
      · refine lv_iconst (v := nI 1) kx kb dX8_isFuller_57 (by decide) ?_
        refine lv_goto (tgt := 75) kx kb dX8_isFuller_58 (by decide) ?_
        exact w_zret X h (Or.inr (by decide)) ⟨bI_tn (by rw [flXb, if_pos (show cnt (cwP x.2.1 (nI a) (nI 30)) x.1 = cnt (cwP x.2.1 (nI b) (nI 30)) x.1 from (sub_eq0 (by omega) (by omega)).mp c_1), if_neg (show ¬ x.2.2.2.2.2.2.1 a = x.2.2.2.2.2.2.1 b from fun e => c_2 ((sub_eq0 (by omega) (by omega)).mpr e))]; show decide (x.2.2.2.2.2.2.1 b < x.2.2.2.2.2.2.1 a) = _; exact decide_eq_true ((sub_gt0 (by omega) (by omega)).mp (Int32.not_le.mp c_4))), rfl⟩ dX8_isFuller_75
  · refine lv_iload_n kx kb dX8_isFuller_37 rfl (lv_at hl 1 rfl) ?_
    refine lv_if_le (tgt := 45) kx kb dX8_isFuller_38 (by decide) (fun c_5 => ?_) (fun c_5 => ?_)
    · refine lv_iconst (v := nI 0) kx kb dX8_isFuller_45 (by decide) ?_
      exact w_zret X h (Or.inl (by decide)) ⟨bI_fn (Bool.eq_false_iff.mp (by rw [flXb, if_neg (show ¬ cnt (cwP x.2.1 (nI a) (nI 30)) x.1 = cnt (cwP x.2.1 (nI b) (nI 30)) x.1 from fun e => c_1 ((sub_eq0 (by omega) (by omega)).mpr e))]; show decide (cnt (cwP x.2.1 (nI b) (nI 30)) x.1 < cnt (cwP x.2.1 (nI a) (nI 30)) x.1) = _; exact decide_eq_false (fun e => absurd ((sub_gt0 (by omega) (by omega)).mpr e) (Int32.not_lt.mpr c_5)))), rfl⟩ dX8_isFuller_46
    · refine lv_iconst (v := nI 1) kx kb dX8_isFuller_41 (by decide) ?_
      refine lv_goto (tgt := 46) kx kb dX8_isFuller_42 (by decide) ?_
      exact w_zret X h (Or.inr (by decide)) ⟨bI_tn (by rw [flXb, if_neg (show ¬ cnt (cwP x.2.1 (nI a) (nI 30)) x.1 = cnt (cwP x.2.1 (nI b) (nI 30)) x.1 from fun e => c_1 ((sub_eq0 (by omega) (by omega)).mpr e))]; show decide (cnt (cwP x.2.1 (nI b) (nI 30)) x.1 < cnt (cwP x.2.1 (nI a) (nI 30)) x.1) = _; exact decide_eq_true ((sub_gt0 (by omega) (by omega)).mp (Int32.not_le.mp c_5))), rfl⟩ dX8_isFuller_46
set_option maxRecDepth 20000 in
theorem c_X8_fullest (l : Launch) (g : gT) {N : Nat} {ad : Nat → Nat} {F : Nat → va_E} (u : Nat → Int32) (v : Nat → Nat) (hm : oM g N ad F u v) (x : SX) (hI : Inv x) (W : Nat → Int32) (hW : arI g F 255 274 W) (hR : RW x W) (pl : Int32) : CtI l yX8_fullest cX8_fullest 5 (some .int) 3 69 g N ad F [.ref (ad 254), .int pl] (fun r F' => r = (fullestF x pl) ∧ F' = F) := by
  refine CtI_of (by decide) (Nat.le_of_ble_eq_true rfl) ?_
  intro p e s m args below meth c A H ls X M h hl
  have kx := X.1.1
  have kb := X.1.2.1
  have hl : lv_has ls 5 [(0, .ref (ad 254)), (1, .int pl)] := hl
  have hN0 := hm.1
  have hn12 := hI.n
  have htn64 := hI.tn
  obtain ⟨hz0, hz1a, hz1, hz2, hz3, hz4⟩ := hI.zz
  refine lv_iconst (v := nI 0) kx kb dX8_fullest_0 (by decide) ?_
  refine lv_istore_n (lv' := [(2, .int (nI 0)), (0, .ref (ad 254)), (1, .int pl)]) kx kb dX8_fullest_1 rfl hl (by decide) rfl (fun ls hl => ?_)
  refine w_loop1 (fun (a : Nat) => 4 - a) (fun (a : Nat) H locs ls => Hx g N ad F A s H locs ∧ lv_has ls 5 [(0, .ref (ad 254)), (1, .int pl), (2, .int (nI a))] ∧ (a ≤ 4) ∧ (∀ z, z < a → (fun a => decide (nI (cnt (fun b => flXb x b a) 4) = pl)) z = false)) ?_ 0 ⟨h, lv_sub hl [1, 2, 0] rfl, Nat.zero_le _, fun z hz => absurd hz (Nat.not_lt_zero z)⟩
  intro a H locs ls hinv ih
  obtain ⟨h, hl, ha, hno⟩ := hinv
  have iho := ih
  refine lv_iload_n kx kb dX8_fullest_2 rfl (lv_at hl 2 rfl) ?_
  refine lv_iconst (v := nI 4) kx kb dX8_fullest_3 (by decide) ?_
  refine w_cmp_ge (tgt := 55) kx kb (by omega) (by omega) dX8_fullest_4 (by decide) (fun c_1 => ?_) (fun c_1 => ?_)
  · refine lv_iconst (v := (-1)) kx kb dX8_fullest_55 (by decide) ?_
    exact w_iret X h ⟨(ixO_no (fun z hz => hno z (by omega))).symm, rfl⟩ dX8_fullest_56
  · refine lv_iconst (v := nI 0) kx kb dX8_fullest_7 (by decide) ?_
    refine lv_istore_n (lv' := [(3, .int (nI 0)), (0, .ref (ad 254)), (1, .int pl), (2, .int (nI a))]) kx kb dX8_fullest_8 rfl hl (by decide) rfl (fun ls hl => ?_)
    refine lv_iconst (v := nI 0) kx kb dX8_fullest_9 (by decide) ?_
    refine lv_istore (lv' := [(4, .int (nI 0)), (3, .int (nI 0)), (0, .ref (ad 254)), (1, .int pl), (2, .int (nI a))]) kx kb dX8_fullest_10 hl (by decide) rfl (fun ls hl => ?_)
    refine w_loop2 (fun (b : Nat) (m : Nat) => 4 - b) (fun (b : Nat) (m : Nat) H locs ls => Hx g N ad F A s H locs ∧ lv_has ls 5 [(0, .ref (ad 254)), (1, .int pl), (2, .int (nI a)), (3, .int (nI m)), (4, .int (nI b))] ∧ (b ≤ 4) ∧ (m = cnt (fun b => flXb x b a) b)) ?_ 0 0 ⟨h, lv_sub hl [2, 3, 4, 1, 0] rfl, Nat.zero_le _, rfl⟩
    intro b m H locs ls hinv ih
    obtain ⟨h, hl, hb, hv⟩ := hinv
    refine lv_iload kx kb dX8_fullest_12 (lv_at hl 4 rfl) ?_
    refine lv_iconst (v := nI 4) kx kb dX8_fullest_14 (by decide) ?_
    refine w_cmp_ge (tgt := 42) kx kb (by omega) (by omega) dX8_fullest_15 (by decide) (fun c_2 => ?_) (fun c_2 => ?_)
    · refine lv_iload_n kx kb dX8_fullest_42 rfl (lv_at hl 3 rfl) ?_
      refine lv_iload_n kx kb dX8_fullest_43 rfl (lv_at hl 1 rfl) ?_
      refine lv_icmp_ne (tgt := 49) kx kb dX8_fullest_44 (by decide) (fun c_3 => ?_) (fun c_3 => ?_)
      · refine lv_iinc (v := nI (a + 1)) (lv' := [(2, .int (nI (a + 1))), (0, .ref (ad 254)), (1, .int pl), (3, .int (nI m)), (4, .int (nI b))]) kx kb dX8_fullest_49 hl (k := 2) rfl (nI_add _ _) (by decide) rfl (fun ls hl => ?_)
        refine lv_goto (tgt := 2) kx kb dX8_fullest_52 (by decide) ?_
        exact iho (a + 1) _ _ _ ⟨h, lv_sub hl [1, 2, 0] rfl, by omega, fun z hz => by
            rcases Nat.lt_or_ge z a with y | y
            · exact hno z y
            · have e : z = a := by omega
              subst e
              rw [hv, show b = 4 by omega] at c_3
              simp [c_3]⟩ (by omega)
      · refine lv_iload_n kx kb dX8_fullest_47 rfl (lv_at hl 2 rfl) ?_
        exact w_iret X h ⟨(ixO_at (by omega) hno (by rw [hv, show b = 4 by omega] at c_3; simp [c_3])).symm, rfl⟩ dX8_fullest_48
    · refine lv_iload_n kx kb dX8_fullest_18 rfl (lv_at hl 3 rfl) ?_
      refine lv_aload_n kx kb dX8_fullest_19 rfl (lv_at hl 0 rfl) ?_
      refine lv_iload kx kb dX8_fullest_20 (lv_at hl 4 rfl) ?_
      refine lv_iload_n kx kb dX8_fullest_22 rfl (lv_at hl 2 rfl) ?_
      refine w_readVi X M h [.int (nI b), .int (nI a)] [.int (nI m)] ((c_X8_isFuller l g u v ⟨by omega, hm.2⟩ x hI W hW hR b a (by omega) (by omega))) lk_X8_208 hm.2 (by omega) rfl rfl ⟨by decide, by decide⟩ hl ⟨Nat.zero_le _, Nat.zero_le _⟩ (Nat.le_of_ble_eq_true rfl) rfl dX8_fullest_23 (fun H locs h => ?_)
      refine w_if_eqb (tgt := 33) kx kb dX8_fullest_26 (by decide) (fun c_4 => ?_) (fun c_4 => ?_)
      · refine lv_iconst (v := nI 0) kx kb dX8_fullest_33 (by decide) ?_
        refine w_addn kx kb dX8_fullest_34 ?_
        refine lv_istore_n (lv' := [(3, .int (nI (m + 0))), (0, .ref (ad 254)), (1, .int pl), (2, .int (nI a)), (4, .int (nI b))]) kx kb dX8_fullest_35 rfl hl (by decide) rfl (fun ls hl => ?_)
        refine lv_iinc (v := nI (b + 1)) (lv' := [(4, .int (nI (b + 1))), (3, .int (nI (m + 0))), (0, .ref (ad 254)), (1, .int pl), (2, .int (nI a))]) kx kb dX8_fullest_36 hl (k := 4) rfl (nI_add _ _) (by decide) rfl (fun ls hl => ?_)
        refine lv_goto (tgt := 12) kx kb dX8_fullest_39 (by decide) ?_
        exact ih (b + 1) (m + 0) _ _ _ ⟨h, lv_sub hl [2, 3, 4, 1, 0] rfl, by omega, by rw [hv, cnt_f (by simpa using c_4)]; rfl⟩ (by omega)
      · refine lv_iconst (v := nI 1) kx kb dX8_fullest_29 (by decide) ?_
        refine lv_goto (tgt := 34) kx kb dX8_fullest_30 (by decide) ?_
        refine w_addn kx kb dX8_fullest_34 ?_
        refine lv_istore_n (lv' := [(3, .int (nI (m + 1))), (0, .ref (ad 254)), (1, .int pl), (2, .int (nI a)), (4, .int (nI b))]) kx kb dX8_fullest_35 rfl hl (by decide) rfl (fun ls hl => ?_)
        refine lv_iinc (v := nI (b + 1)) (lv' := [(4, .int (nI (b + 1))), (3, .int (nI (m + 1))), (0, .ref (ad 254)), (1, .int pl), (2, .int (nI a))]) kx kb dX8_fullest_36 hl (k := 4) rfl (nI_add _ _) (by decide) rfl (fun ls hl => ?_)
        refine lv_goto (tgt := 12) kx kb dX8_fullest_39 (by decide) ?_
        exact ih (b + 1) (m + 1) _ _ _ ⟨h, lv_sub hl [2, 3, 4, 1, 0] rfl, by omega, by rw [hv, cnt_t (by simpa using c_4)]⟩ (by omega)
set_option maxRecDepth 20000 in
theorem c_X8_isCounted (l : Launch) (g : gT) {N : Nat} {ad : Nat → Nat} {F : Nat → va_E} (u : Nat → Int32) (v : Nat → Nat) (hm : oM g N ad F u v) (x : SX) (hI : Inv x) (W : Nat → Int32) (hW : arI g F 255 274 W) (hR : RW x W)  : CtI l yX8_isCounted cX8_isCounted 2 (some .boolean) 2 42 g N ad F [.ref (ad 254)] (fun r F' => r = (bI (nI (x.2.2.2.2.2.2.2 5) = nI (x.1 + x.2.2.1 + x.2.2.2.2.2.2.2 6))) ∧ F' = F) := by
  refine CtI_of (by decide) (Nat.le_of_ble_eq_true rfl) ?_
  intro p e s m args below meth c A H ls X M h hl
  have kx := X.1.1
  have kb := X.1.2.1
  have hl : lv_has ls 2 [(0, .ref (ad 254))] := hl
  have hN0 := hm.1
  have hn12 := hI.n
  have htn64 := hI.tn
  obtain ⟨hz0, hz1a, hz1, hz2, hz3, hz4⟩ := hI.zz
  refine lv_iconst (v := nI 0) kx kb dX8_isCounted_0 (by decide) ?_
  refine lv_istore_n (lv' := [(1, .int (nI 0)), (0, .ref (ad 254))]) kx kb dX8_isCounted_1 rfl hl (by decide) rfl (fun ls hl => ?_)
  refine w_loop1 (fun (k : Nat) => x.1 - k) (fun (k : Nat) H locs ls => Hx g N ad F A s H locs ∧ lv_has ls 2 [(0, .ref (ad 254)), (1, .int (nI k))] ∧ (k ≤ x.1)) ?_ 0 ⟨h, lv_sub hl [1, 0] rfl, by omega⟩
  intro k H locs ls hinv ih
  obtain ⟨h, hl, hk⟩ := hinv
  refine lv_iload_n kx kb dX8_isCounted_2 rfl (lv_at hl 1 rfl) ?_
  refine lv_aload_n kx kb dX8_isCounted_3 rfl (lv_at hl 0 rfl) ?_
  refine w_get X M h 254 hm.2 (by omega) fl_X8_32 rfl dX8_isCounted_4 ?_
  refine lv_iconst (v := nI 0) kx kb dX8_isCounted_7 (by decide) ?_
  refine w_iald X M h 255 hW (by omega) (0) (rfl) (by omega) (by omega) dX8_isCounted_8 ?_
  refine w_top (y := nI x.1) (hR.n) ?_
  refine w_cmp_ge (tgt := 33) kx kb (by omega) (by omega) dX8_isCounted_9 (by decide) (fun c_1 => ?_) (fun c_1 => ?_)
  · refine lv_aload_n kx kb dX8_isCounted_33 rfl (lv_at hl 0 rfl) ?_
    refine w_get X M h 254 hm.2 (by omega) fl_X8_32 rfl dX8_isCounted_34 ?_
    refine lv_bipush (v := nI 7) kx kb dX8_isCounted_37 (by decide) ?_
    refine w_iald X M h 255 hW (by omega) (7) (rfl) (by omega) (by omega) dX8_isCounted_39 ?_
    refine w_top (y := nI (x.2.2.2.2.2.2.2 5)) (hR.c 0 (by omega)) ?_
    refine lv_aload_n kx kb dX8_isCounted_40 rfl (lv_at hl 0 rfl) ?_
    refine w_get X M h 254 hm.2 (by omega) fl_X8_32 rfl dX8_isCounted_41 ?_
    refine lv_iconst (v := nI 0) kx kb dX8_isCounted_44 (by decide) ?_
    refine w_iald X M h 255 hW (by omega) (0) (rfl) (by omega) (by omega) dX8_isCounted_45 ?_
    refine w_top (y := nI x.1) (hR.n) ?_
    refine lv_aload_n kx kb dX8_isCounted_46 rfl (lv_at hl 0 rfl) ?_
    refine w_get X M h 254 hm.2 (by omega) fl_X8_32 rfl dX8_isCounted_47 ?_
    refine lv_bipush (v := nI 6) kx kb dX8_isCounted_50 (by decide) ?_
    refine w_iald X M h 255 hW (by omega) (6) (rfl) (by omega) (by omega) dX8_isCounted_52 ?_
    refine w_top (y := nI x.2.2.1) (hR.t) ?_
    refine w_addn kx kb dX8_isCounted_53 ?_
    refine lv_aload_n kx kb dX8_isCounted_54 rfl (lv_at hl 0 rfl) ?_
    refine w_get X M h 254 hm.2 (by omega) fl_X8_32 rfl dX8_isCounted_55 ?_
    refine lv_bipush (v := nI 8) kx kb dX8_isCounted_58 (by decide) ?_
    refine w_iald X M h 255 hW (by omega) (8) (rfl) (by omega) (by omega) dX8_isCounted_60 ?_
    refine w_top (y := nI (x.2.2.2.2.2.2.2 6)) (hR.c 1 (by omega)) ?_
    refine w_addn kx kb dX8_isCounted_61 ?_
    refine lv_icmp_ne (tgt := 86) kx kb dX8_isCounted_62 (by decide) (fun c_2 => ?_) (fun c_2 => ?_)
    · refine lv_iconst (v := nI 0) kx kb dX8_isCounted_86 (by decide) ?_
      exact w_zret X h (Or.inl (by decide)) ⟨bI_fn c_2, rfl⟩ dX8_isCounted_87
    · refine lv_aload_n kx kb dX8_isCounted_65 rfl (lv_at hl 0 rfl) ?_
      refine w_readVf X M h [] [] ((c_X8_laughs l g u v ⟨by omega, hm.2⟩ x hI W hW hR)) lk_X8_188 hm.2 (by omega) rfl rfl ⟨by decide, by decide⟩ hl ⟨Nat.zero_le _, Nat.zero_le _⟩ (Nat.le_of_ble_eq_true rfl) rfl dX8_isCounted_66 (fun H locs h => ?_)
      refine w_readSi X M h [.float x.2.2.2.1] [] ((c_JF_f2i l g x.2.2.2.1 (hI.smn))) lk_X8_159 rfl ⟨by decide, by decide⟩ hl ⟨Nat.zero_le _, Nat.zero_le _⟩ (Nat.le_of_ble_eq_true rfl) rfl dX8_isCounted_69 (fun H locs h => ?_)
      refine lv_aload_n kx kb dX8_isCounted_72 rfl (lv_at hl 0 rfl) ?_
      refine w_readVf X M h [] [.int (fb x.2.2.2.1)] ((c_X8_laughsAgain l g u v ⟨by omega, hm.2⟩ x hI W hW hR)) lk_X8_211 hm.2 (by omega) rfl rfl ⟨by decide, by decide⟩ hl ⟨Nat.zero_le _, Nat.zero_le _⟩ (Nat.le_of_ble_eq_true rfl) rfl dX8_isCounted_73 (fun H locs h => ?_)
      refine w_readSi X M h [.float (fsum x.2.2.2.2.2.1 x.2.2.1)] [.int (fb x.2.2.2.1)] ((c_JF_f2i l g (fsum x.2.2.2.2.2.1 x.2.2.1) ((fsum_nn (fun z hz => hI.lfn hz))))) lk_X8_159 rfl ⟨by decide, by decide⟩ hl ⟨Nat.zero_le _, Nat.zero_le _⟩ (Nat.le_of_ble_eq_true rfl) rfl dX8_isCounted_76 (fun H locs h => ?_)
      refine lv_icmp_ne (tgt := 86) kx kb dX8_isCounted_79 (by decide) (fun c_3 => (c_3 (congrArg fb hI.sm)).elim) (fun c_3 => ?_)
      refine lv_iconst (v := nI 1) kx kb dX8_isCounted_82 (by decide) ?_
      refine lv_goto (tgt := 87) kx kb dX8_isCounted_83 (by decide) ?_
      exact w_zret X h (Or.inr (by decide)) ⟨bI_tn c_2, rfl⟩ dX8_isCounted_87
  · refine lv_aload_n kx kb dX8_isCounted_12 rfl (lv_at hl 0 rfl) ?_
    refine lv_aload_n kx kb dX8_isCounted_13 rfl (lv_at hl 0 rfl) ?_
    refine lv_iload_n kx kb dX8_isCounted_14 rfl (lv_at hl 1 rfl) ?_
    refine lv_iconst (v := nI 2) kx kb dX8_isCounted_15 (by decide) ?_
    refine w_readVi X M h [.int (nI k), .int (nI 2)] [.ref (ad 254)] ((c_X8_is l g u v ⟨by omega, hm.2⟩ x hI W hW hR k 2 (by omega) (by omega))) lk_X8_73 hm.2 (by omega) rfl rfl ⟨by decide, by decide⟩ hl ⟨Nat.zero_le _, Nat.zero_le _⟩ (Nat.le_of_ble_eq_true rfl) rfl dX8_isCounted_16 (fun H locs h => ?_)
    obtain ⟨sg, hsg, hks, hkn⟩ := hI.sgn (k := k) (by omega)
    refine w_top (y := nI sg) hks ?_
    refine w_readVi X M h [.int (nI sg)] [] ((c_X8_isKnownSign l g u v ⟨by omega, hm.2⟩ x hI W hW hR sg (by omega))) lk_X8_85 hm.2 (by omega) rfl rfl ⟨by decide, by decide⟩ hl ⟨Nat.zero_le _, Nat.zero_le _⟩ (Nat.le_of_ble_eq_true rfl) rfl dX8_isCounted_19 (fun H locs h => ?_)
    refine w_if_eqb (tgt := 27) kx kb dX8_isCounted_22 (by decide) (fun c_4 => ?_) (fun c_4 => (show False from absurd (show nI 0 = nI 1 from hkn.symm.trans c_4) (by decide)).elim)
    refine lv_iinc (v := nI (k + 1)) (lv' := [(1, .int (nI (k + 1))), (0, .ref (ad 254))]) kx kb dX8_isCounted_27 hl (k := 1) rfl (nI_add _ _) (by decide) rfl (fun ls hl => ?_)
    refine lv_goto (tgt := 2) kx kb dX8_isCounted_30 (by decide) ?_
    exact ih (k + 1) _ _ _ ⟨h, lv_sub hl [1, 0] rfl, by omega⟩ (by omega)
set_option maxRecDepth 20000 in
theorem c_X8_would (l : Launch) (g : gT) {N : Nat} {ad : Nat → Nat} {F : Nat → va_E} (u : Nat → Int32) (v : Nat → Nat) (hm : oM g N ad F u v) (x : SX) (hI : Inv x) (W : Nat → Int32) (hW : arI g F 255 274 W) (hR : RW x W) (A9 : Nat → Int32) (hA : arI g F 259 274 A9) (a : Int32) : CtI l yX8_would cX8_would 3 (some .int) 5 115 g N ad F [.ref (ad 254), .int a] (fun r F' => r = (if inW a (nI 0) (nI 20) then nI (runN (cl a) x) else -2) ∧ oX g F' 255 x ∧ (∃ A, arI g F' 259 274 A) ∧ ∀ i, i ≠ 255 → i ≠ 259 → F' i = F i) := by
  refine CtI_of (by decide) (Nat.le_of_ble_eq_true rfl) ?_
  intro p e s m args below meth c A H ls X M h hl
  have kx := X.1.1
  have kb := X.1.2.1
  have hl : lv_has ls 3 [(0, .ref (ad 254)), (1, .int a)] := hl
  have hN0 := hm.1
  have hn12 := hI.n
  have htn64 := hI.tn
  obtain ⟨hz0, hz1a, hz1, hz2, hz3, hz4⟩ := hI.zz
  refine lv_iload_n kx kb dX8_would_0 rfl (lv_at hl 1 rfl) ?_
  refine lv_iconst (v := nI 0) kx kb dX8_would_1 (by decide) ?_
  refine lv_bipush (v := nI 20) kx kb dX8_would_2 (by decide) ?_
  refine w_readSi X M h [.int a, .int (nI 0), .int (nI 20)] [] ((c_X8_isBetween l g a (nI 0) (nI 20))) lk_X8_19 rfl ⟨by decide, by decide⟩ hl ⟨Nat.zero_le _, Nat.zero_le _⟩ (Nat.le_of_ble_eq_true rfl) rfl dX8_would_4 (fun H locs h => ?_)
  refine w_if_neb (tgt := 13) kx kb dX8_would_7 (by decide) (fun c_1 => ?_) (fun c_1 => ?_)
  · obtain ⟨k, hk0, hk, rfl⟩ := inW_of (by decide) (by decide) c_1
    refine lv_aload_n kx kb dX8_would_13 rfl (lv_at hl 0 rfl) ?_
    refine w_callVv X M h [] [] ((c_X8_looksAhead l g u v ⟨by omega, hm.2⟩ W hW A9 hA)) lk_X8_195 hm.2 (by omega) rfl rfl ⟨by decide, by decide⟩ hl ⟨Nat.zero_le _, Nat.zero_le _⟩ (Nat.le_of_ble_eq_true rfl) rfl dX8_would_14 (fun F2 H locs hp_F2 h => ?_)
    refine lv_aload_n kx kb dX8_would_17 rfl (lv_at hl 0 rfl) ?_
    refine lv_iload_n kx kb dX8_would_18 rfl (lv_at hl 1 rfl) ?_
    refine w_callVi X M h [.int (nI k)] [] ((c_X8_pumps l g u v ⟨by omega, ((hp_F2.2 254 (by omega)).trans hm.2)⟩ x hI W (hW.fr (hp_F2.2 255 (by omega))) hR k (by omega))) lk_X8_185 ((hp_F2.2 254 (by omega)).trans hm.2) (by omega) rfl rfl ⟨by decide, by decide⟩ hl ⟨Nat.zero_le _, Nat.zero_le _⟩ (Nat.le_of_ble_eq_true rfl) rfl dX8_would_19 (fun r_F3 F3 H locs hp_F3 h => ?_)
    obtain ⟨W_F3, hW_F3, hR_F3⟩ := hp_F3.2.1
    refine w_top (y := nI (runN k x)) hp_F3.1 ?_
    refine lv_istore_n (lv' := [(2, .int (nI (runN k x))), (0, .ref (ad 254)), (1, .int (nI k))]) kx kb dX8_would_22 rfl hl (by decide) rfl (fun ls hl => ?_)
    refine lv_aload_n kx kb dX8_would_23 rfl (lv_at hl 1 rfl) ?_
    refine w_callVv X M h [] [] ((c_X8_comesBack l g u v ⟨by omega, ((hp_F3.2.2 254 (by omega)).trans ((hp_F2.2 254 (by omega)).trans hm.2))⟩ W (hp_F2.1.fr (hp_F3.2.2 259 (by omega))) W_F3 hW_F3)) lk_X8_198 ((hp_F3.2.2 254 (by omega)).trans ((hp_F2.2 254 (by omega)).trans hm.2)) (by omega) rfl rfl ⟨by decide, by decide⟩ hl ⟨Nat.zero_le _, Nat.zero_le _⟩ (Nat.le_of_ble_eq_true rfl) rfl dX8_would_24 (fun F4 H locs hp_F4 h => ?_)
    refine lv_iload_n kx kb dX8_would_27 rfl (lv_at hl 0 rfl) ?_
    exact w_iret X h ⟨by rw [if_pos c_1, cl_n (by omega)], ⟨_, hp_F4.1, hR⟩, ⟨_, ((hp_F2.1.fr (hp_F3.2.2 259 (by omega))).fr (hp_F4.2 259 (by omega)))⟩, (fun i hi hi2 => (hp_F4.2 i (by omega)).trans ((hp_F3.2.2 i (by omega)).trans (hp_F2.2 i (by omega))))⟩ dX8_would_28
  · refine lv_bipush (v := (-2)) kx kb dX8_would_10 (by decide) ?_
    exact w_iret X h ⟨by rw [if_neg c_1], ⟨_, hW, hR⟩, ⟨_, hA⟩, (fun i hi hi2 => rfl)⟩ dX8_would_12
set_option maxRecDepth 20000 in
theorem c_X8_groansIn (l : Launch) (g : gT) {N : Nat} {ad : Nat → Nat} {F : Nat → va_E} (u : Nat → Int32) (v : Nat → Nat) (hm : oM g N ad F u v) (x : SX) (hI : Inv x) (W : Nat → Int32) (hW : arI g F 255 274 W) (hR : RW x W) (A9 : Nat → Int32) (hA : arI g F 259 274 A9) (a : Int32) : CtI l yX8_groansIn cX8_groansIn 3 (some .int) 5 115 g N ad F [.ref (ad 254), .int a] (fun r F' => r = (if inW a (nI 0) (nI 20) then nI ((runX (cl a) x).2.2.2.2.2.2.2 3) else -2) ∧ oX g F' 255 x ∧ (∃ A, arI g F' 259 274 A) ∧ ∀ i, i ≠ 255 → i ≠ 259 → F' i = F i) := by
  refine CtI_of (by decide) (Nat.le_of_ble_eq_true rfl) ?_
  intro p e s m args below meth c A H ls X M h hl
  have kx := X.1.1
  have kb := X.1.2.1
  have hl : lv_has ls 3 [(0, .ref (ad 254)), (1, .int a)] := hl
  have hN0 := hm.1
  have hn12 := hI.n
  have htn64 := hI.tn
  obtain ⟨hz0, hz1a, hz1, hz2, hz3, hz4⟩ := hI.zz
  refine lv_iload_n kx kb dX8_groansIn_0 rfl (lv_at hl 1 rfl) ?_
  refine lv_iconst (v := nI 0) kx kb dX8_groansIn_1 (by decide) ?_
  refine lv_bipush (v := nI 20) kx kb dX8_groansIn_2 (by decide) ?_
  refine w_readSi X M h [.int a, .int (nI 0), .int (nI 20)] [] ((c_X8_isBetween l g a (nI 0) (nI 20))) lk_X8_19 rfl ⟨by decide, by decide⟩ hl ⟨Nat.zero_le _, Nat.zero_le _⟩ (Nat.le_of_ble_eq_true rfl) rfl dX8_groansIn_4 (fun H locs h => ?_)
  refine w_if_neb (tgt := 13) kx kb dX8_groansIn_7 (by decide) (fun c_1 => ?_) (fun c_1 => ?_)
  · obtain ⟨k, hk0, hk, rfl⟩ := inW_of (by decide) (by decide) c_1
    refine lv_aload_n kx kb dX8_groansIn_13 rfl (lv_at hl 0 rfl) ?_
    refine w_callVv X M h [] [] ((c_X8_looksAhead l g u v ⟨by omega, hm.2⟩ W hW A9 hA)) lk_X8_195 hm.2 (by omega) rfl rfl ⟨by decide, by decide⟩ hl ⟨Nat.zero_le _, Nat.zero_le _⟩ (Nat.le_of_ble_eq_true rfl) rfl dX8_groansIn_14 (fun F2 H locs hp_F2 h => ?_)
    refine lv_aload_n kx kb dX8_groansIn_17 rfl (lv_at hl 0 rfl) ?_
    refine lv_iload_n kx kb dX8_groansIn_18 rfl (lv_at hl 1 rfl) ?_
    refine w_callVi X M h [.int (nI k)] [] ((c_X8_pumps l g u v ⟨by omega, ((hp_F2.2 254 (by omega)).trans hm.2)⟩ x hI W (hW.fr (hp_F2.2 255 (by omega))) hR k (by omega))) lk_X8_185 ((hp_F2.2 254 (by omega)).trans hm.2) (by omega) rfl rfl ⟨by decide, by decide⟩ hl ⟨Nat.zero_le _, Nat.zero_le _⟩ (Nat.le_of_ble_eq_true rfl) rfl dX8_groansIn_19 (fun r_F3 F3 H locs hp_F3 h => ?_)
    obtain ⟨W_F3, hW_F3, hR_F3⟩ := hp_F3.2.1
    refine w_top (y := nI (runN k x)) hp_F3.1 ?_
    refine lv_pop kx kb dX8_groansIn_22 rfl ?_
    refine lv_aload_n kx kb dX8_groansIn_23 rfl (lv_at hl 0 rfl) ?_
    refine w_get X M h 254 ((hp_F3.2.2 254 (by omega)).trans ((hp_F2.2 254 (by omega)).trans hm.2)) (by omega) fl_X8_32 rfl dX8_groansIn_24 ?_
    refine lv_iconst (v := nI 4) kx kb dX8_groansIn_27 (by decide) ?_
    refine w_iald X M h 255 hW_F3 (by omega) (4) (rfl) (by omega) (by omega) dX8_groansIn_28 ?_
    refine w_top (y := nI ((runX k x).2.2.2.2.2.2.2 3)) (hR_F3.z 3 (by omega)) ?_
    refine lv_istore_n (lv' := [(2, .int (nI ((runX k x).2.2.2.2.2.2.2 3))), (0, .ref (ad 254)), (1, .int (nI k))]) kx kb dX8_groansIn_29 rfl hl (by decide) rfl (fun ls hl => ?_)
    refine lv_aload_n kx kb dX8_groansIn_30 rfl (lv_at hl 1 rfl) ?_
    refine w_callVv X M h [] [] ((c_X8_comesBack l g u v ⟨by omega, ((hp_F3.2.2 254 (by omega)).trans ((hp_F2.2 254 (by omega)).trans hm.2))⟩ W (hp_F2.1.fr (hp_F3.2.2 259 (by omega))) W_F3 hW_F3)) lk_X8_198 ((hp_F3.2.2 254 (by omega)).trans ((hp_F2.2 254 (by omega)).trans hm.2)) (by omega) rfl rfl ⟨by decide, by decide⟩ hl ⟨Nat.zero_le _, Nat.zero_le _⟩ (Nat.le_of_ble_eq_true rfl) rfl dX8_groansIn_31 (fun F4 H locs hp_F4 h => ?_)
    refine lv_iload_n kx kb dX8_groansIn_34 rfl (lv_at hl 0 rfl) ?_
    exact w_iret X h ⟨by rw [if_pos c_1, cl_n (by omega)], ⟨_, hp_F4.1, hR⟩, ⟨_, ((hp_F2.1.fr (hp_F3.2.2 259 (by omega))).fr (hp_F4.2 259 (by omega)))⟩, (fun i hi hi2 => (hp_F4.2 i (by omega)).trans ((hp_F3.2.2 i (by omega)).trans (hp_F2.2 i (by omega))))⟩ dX8_groansIn_35
  · refine lv_bipush (v := (-2)) kx kb dX8_groansIn_10 (by decide) ?_
    exact w_iret X h ⟨by rw [if_neg c_1], ⟨_, hW, hR⟩, ⟨_, hA⟩, (fun i hi hi2 => rfl)⟩ dX8_groansIn_12
