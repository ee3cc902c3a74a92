theorem inW_ne {wh : Int32} {lo hi : Nat} (c : ¬ inW wh (nI lo) (nI hi)) (i : Nat) (h1 : lo ≤ i) (h2 : i ≤ hi) (hh : hi < 2147483648) : ¬ wh = nI i := fun e => by subst e; exact c (inW_n h1 h2 hh)
theorem sub_eq0 {a b : Nat} (ha : a < 1000000) (hb : b < 1000000) : nI a - nI b = 0 ↔ a = b := by
  have h0 : (0 : Int32).toInt = 0 := by decide
  rw [← Int32.toInt_inj, pk_sub_toInt (by omega) (by omega), h0]
  omega
theorem sub_gt0 {a b : Nat} (ha : a < 1000000) (hb : b < 1000000) : 0 < nI a - nI b ↔ b < a := by
  have h0 : (0 : Int32).toInt = 0 := by decide
  rw [ltI, pk_sub_toInt (by omega) (by omega), h0]
  omega
theorem wl_none {x : SX} {wl pl : Int32} (h : cnt (cwP x.2.1 wl (nI 30)) x.1 = 0) (hI : Inv x) : ixO (bdP x.2.1 x.1 wl pl) x.1 = -1 := by
  rw [cnt_in hI] at h
  refine ixO_no (fun k hk => ?_)
  by_cases e : x.2.1 0 k = wl
  · have := cnt_pos_of (p := fun k => decide (x.2.1 0 k = wl)) hk (by simp [e])
    omega
  · simp [bdP, e]
theorem leastD_0 {x : SX} {wl : Int32} (h : cnt (cwP x.2.1 wl (nI 30)) x.1 = 0) (hI : Inv x) : leastD x wl = nI 0 := by
  rw [leastD, if_pos (wl_none h hI)]
theorem leastD_k {x : SX} {wl : Int32} {k : Nat} (hI : Inv x) (hk : k < x.1) (h : ixO (bdP x.2.1 x.1 wl (nI 0)) x.1 = nI k) : leastD x wl = x.2.1 1 k := by
  have hn := hI.n
  have hne : ¬ (nI k = -1) := fun e => nI_pos (n := k) (by omega) (by rw [e]; decide)
  rw [leastD]
  show (if ixO (bdP x.2.1 x.1 wl (nI 0)) x.1 = -1 then nI 0 else rowAt 12 (x.2.1 1) (ixO (bdP x.2.1 x.1 wl (nI 0)) x.1)) = _
  rw [h, if_neg hne, rowAt_n (by omega) (by omega)]
theorem bd_pos {x : SX} (hI : Inv x) {wl pl : Int32} {k : Nat} (hk : k < x.1) (h : ixO (bdP x.2.1 x.1 wl pl) x.1 = nI k) : 0 < cnt (cwP x.2.1 wl (nI 30)) x.1 := by
  have hn := hI.n
  rw [cnt_in hI]
  rw [ixO] at h
  split at h
  · rename_i q
    have e := nI_inj (by omega) (by omega) h
    have hy := (fnd_yes q).1
    rw [e] at hy
    simp only [bdP, decide_eq_true_eq] at hy
    exact cnt_pos_of hk (by simp [hy.1])
  · exact absurd (show nI k < 0 by rw [← h]; decide) (nI_pos (by omega))
set_option maxRecDepth 20000 in
theorem c_X8_jokeOf (l : Launch) (g : gT) {N : Nat} {ad : Nat → Nat} {F : Nat → va_E} (u : Nat → Int32) (v : Nat → Nat) (hm : oM g N ad F u v) (x : SX) (hI : Inv x) (W : Nat → Int32) (hW : arI g F 255 274 W) (hR : RW x W) (a wh : Int32) : CtI l yX8_jokeOf cX8_jokeOf 3 (some .int) 2 45 g N ad F [.ref (ad 254), .int a, .int wh] (fun r F' => r = (jokeOfF x a wh) ∧ F' = F) := by
  refine CtI_of (by decide) (Nat.le_of_ble_eq_true rfl) ?_
  intro p e s m args below meth c A H ls X M h hl
  have kx := X.1.1
  have kb := X.1.2.1
  have hl : lv_has ls 3 [(0, .ref (ad 254)), (1, .int a), (2, .int wh)] := hl
  have hN0 := hm.1
  have hn12 := hI.n
  have htn64 := hI.tn
  obtain ⟨hz0, hz1a, hz1, hz2, hz3, hz4⟩ := hI.zz
  refine lv_aload_n kx kb dX8_jokeOf_0 rfl (lv_at hl 0 rfl) ?_
  refine lv_iload_n kx kb dX8_jokeOf_1 rfl (lv_at hl 1 rfl) ?_
  refine w_readVi X M h [.int a] [] ((c_X8_isJoke l g u v ⟨by omega, hm.2⟩ x hI W hW hR a)) lk_X8_113 hm.2 (by omega) rfl rfl ⟨by decide, by decide⟩ hl ⟨Nat.zero_le _, Nat.zero_le _⟩ (Nat.le_of_ble_eq_true rfl) rfl dX8_jokeOf_2 (fun H locs h => ?_)
  refine w_if_neb (tgt := 10) kx kb dX8_jokeOf_5 (by decide) (fun c_1 => ?_) (fun c_1 => ?_)
  · obtain ⟨k, hk, rfl⟩ := hasJ_of (by omega) c_1
    refine lv_iload_n kx kb dX8_jokeOf_10 rfl (lv_at hl 2 rfl) ?_
    refine lv_iconst (v := nI 0) kx kb dX8_jokeOf_11 (by decide) ?_
    refine lv_iconst (v := nI 5) kx kb dX8_jokeOf_12 (by decide) ?_
    refine w_readSi X M h [.int wh, .int (nI 0), .int (nI 5)] [] ((c_X8_isBetween l g wh (nI 0) (nI 5))) lk_X8_19 rfl ⟨by decide, by decide⟩ hl ⟨Nat.zero_le _, Nat.zero_le _⟩ (Nat.le_of_ble_eq_true rfl) rfl dX8_jokeOf_13 (fun H locs h => ?_)
    refine w_if_neb (tgt := 22) kx kb dX8_jokeOf_16 (by decide) (fun c_2 => ?_) (fun c_2 => ?_)
    · obtain ⟨q, hq0, hq5, rfl⟩ := inW_of (by decide) (by decide) c_2
      refine lv_iload_n kx kb dX8_jokeOf_22 rfl (lv_at hl 2 rfl) ?_
      refine lv_iconst (v := nI 5) kx kb dX8_jokeOf_23 (by decide) ?_
      refine w_cmp_ne (tgt := 35) kx kb (by omega) (by omega) dX8_jokeOf_24 (by decide) (fun c_3 => ?_) (fun c_3 => ?_)
      · refine lv_aload_n kx kb dX8_jokeOf_35 rfl (lv_at hl 0 rfl) ?_
        refine lv_iload_n kx kb dX8_jokeOf_36 rfl (lv_at hl 1 rfl) ?_
        refine lv_iload_n kx kb dX8_jokeOf_37 rfl (lv_at hl 2 rfl) ?_
        refine w_readVi X M h [.int (nI k), .int (nI q)] [] ((c_X8_is l g u v ⟨by omega, hm.2⟩ x hI W hW hR k q (by omega) (by omega))) lk_X8_73 hm.2 (by omega) rfl rfl ⟨by decide, by decide⟩ hl ⟨Nat.zero_le _, Nat.zero_le _⟩ (Nat.le_of_ble_eq_true rfl) rfl dX8_jokeOf_38 (fun H locs h => ?_)
        exact w_iret X h ⟨by rw [jokeOfF, if_pos c_1, cl_n (by omega)]; rcases (show q = 0 ∨ q = 1 ∨ q = 2 ∨ q = 3 ∨ q = 4 by omega) with rfl | rfl | rfl | rfl | rfl <;> rfl, rfl⟩ dX8_jokeOf_41
      · refine lv_aload_n kx kb dX8_jokeOf_27 rfl (lv_at hl 0 rfl) ?_
        refine lv_iload_n kx kb dX8_jokeOf_28 rfl (lv_at hl 1 rfl) ?_
        refine w_readVi X M h [.int (nI k)] [] ((c_X8_above l g u v ⟨by omega, hm.2⟩ x hI W hW hR k (by omega))) lk_X8_77 hm.2 (by omega) rfl rfl ⟨by decide, by decide⟩ hl ⟨Nat.zero_le _, Nat.zero_le _⟩ (Nat.le_of_ble_eq_true rfl) rfl dX8_jokeOf_29 (fun H locs h => ?_)
        refine lv_goto (tgt := 41) kx kb dX8_jokeOf_32 (by decide) ?_
        exact w_iret X h ⟨by subst c_3; rw [jokeOfF, if_pos c_1, cl_n (by omega)]; rfl, rfl⟩ dX8_jokeOf_41
    · refine lv_bipush (v := (-2)) kx kb dX8_jokeOf_19 (by decide) ?_
      exact w_iret X h ⟨by rw [jokeOfF, if_pos c_1]; rw [if_neg (inW_ne c_2 0 (by decide) (by decide) (by decide)), if_neg (inW_ne c_2 1 (by decide) (by decide) (by decide)), if_neg (inW_ne c_2 2 (by decide) (by decide) (by decide)), if_neg (inW_ne c_2 3 (by decide) (by decide) (by decide)), if_neg (inW_ne c_2 4 (by decide) (by decide) (by decide)), if_neg (inW_ne c_2 5 (by decide) (by decide) (by decide))], rfl⟩ dX8_jokeOf_21
  · refine lv_iconst (v := (-1)) kx kb dX8_jokeOf_8 (by decide) ?_
    exact w_iret X h ⟨by rw [jokeOfF, if_neg c_1], rfl⟩ dX8_jokeOf_9
set_option maxRecDepth 20000 in
theorem c_X8_wellOf (l : Launch) (g : gT) {N : Nat} {ad : Nat → Nat} {F : Nat → va_E} (u : Nat → Int32) (v : Nat → Nat) (hm : oM g N ad F u v) (x : SX) (hI : Inv x) (W : Nat → Int32) (hW : arI g F 255 274 W) (hR : RW x W) (a wh : Int32) : CtI l yX8_wellOf cX8_wellOf 3 (some .int) 3 68 g N ad F [.ref (ad 254), .int a, .int wh] (fun r F' => r = (wellOfF x a wh) ∧ F' = F) := by
  refine CtI_of (by decide) (Nat.le_of_ble_eq_true rfl) ?_
  intro p e s m args below meth c A H ls X M h hl
  have kx := X.1.1
  have kb := X.1.2.1
  have hl : lv_has ls 3 [(0, .ref (ad 254)), (1, .int a), (2, .int wh)] := hl
  have hN0 := hm.1
  have hn12 := hI.n
  have htn64 := hI.tn
  obtain ⟨hz0, hz1a, hz1, hz2, hz3, hz4⟩ := hI.zz
  refine lv_iload_n kx kb dX8_wellOf_0 rfl (lv_at hl 1 rfl) ?_
  refine w_readSi X M h [.int a] [] ((c_X8_isWell l g a)) lk_X8_81 rfl ⟨by decide, by decide⟩ hl ⟨Nat.zero_le _, Nat.zero_le _⟩ (Nat.le_of_ble_eq_true rfl) rfl dX8_wellOf_1 (fun H locs h => ?_)
  refine w_if_neb (tgt := 9) kx kb dX8_wellOf_4 (by decide) (fun c_1 => ?_) (fun c_1 => ?_)
  · obtain ⟨k, hk0, hk, rfl⟩ := inW_of (by decide) (by decide) c_1
    have hc9 := cnt_le (cwP x.2.1 (nI k) (nI 30)) x.1
    refine lv_iload_n kx kb dX8_wellOf_9 rfl (lv_at hl 2 rfl) ?_
    rcases sw_of wh 4 (by decide) with ⟨k2, hk2, hvk2⟩ | ⟨hsw, hne⟩
    · rcases (show k2 = 0 ∨ k2 = 1 ∨ k2 = 2 ∨ k2 = 3 by omega) with rfl | rfl | rfl | rfl
      · subst hvk2
        refine lv_tableIn (tgt := 40) (off := 30) kx kb dX8_wellOf_10 (by decide) (by decide) (by decide) (by decide) ?_
        refine lv_aload_n kx kb dX8_wellOf_40 rfl (lv_at hl 0 rfl) ?_
        refine w_get X M h 254 hm.2 (by omega) fl_X8_32 rfl dX8_wellOf_41 ?_
        refine lv_bipush (v := nI 14) kx kb dX8_wellOf_44 (by decide) ?_
        refine lv_iload_n kx kb dX8_wellOf_46 rfl (lv_at hl 1 rfl) ?_
        refine w_addn kx kb dX8_wellOf_47 ?_
        refine w_iald X M h 255 hW (by omega) (14 + k) (rfl) (by omega) (by omega) dX8_wellOf_48 ?_
        refine w_top (y := nI (x.2.2.2.2.2.2.1 k)) (hR.b k (by omega)) ?_
        exact w_iret X h ⟨by rw [wellOfF, if_pos c_1, if_pos rfl]; rw [cl_n (by omega)], rfl⟩ dX8_wellOf_49
      · subst hvk2
        refine lv_tableIn (tgt := 50) (off := 40) kx kb dX8_wellOf_10 (by decide) (by decide) (by decide) (by decide) ?_
        refine lv_aload_n kx kb dX8_wellOf_50 rfl (lv_at hl 0 rfl) ?_
        refine lv_iload_n kx kb dX8_wellOf_51 rfl (lv_at hl 1 rfl) ?_
        refine w_readVi X M h [.int (nI k)] [] ((c_X8_jokesIn l g u v ⟨by omega, hm.2⟩ x hI W hW hR (nI k))) lk_X8_97 hm.2 (by omega) rfl rfl ⟨by decide, by decide⟩ hl ⟨Nat.zero_le _, Nat.zero_le _⟩ (Nat.le_of_ble_eq_true rfl) rfl dX8_wellOf_52 (fun H locs h => ?_)
        exact w_iret X h ⟨by rw [wellOfF, if_pos c_1, if_neg (show ¬ nI 1 = nI 0 by decide), if_pos rfl], rfl⟩ dX8_wellOf_55
      · subst hvk2
        refine lv_tableIn (tgt := 56) (off := 46) kx kb dX8_wellOf_10 (by decide) (by decide) (by decide) (by decide) ?_
        refine lv_aload_n kx kb dX8_wellOf_56 rfl (lv_at hl 0 rfl) ?_
        refine lv_iload_n kx kb dX8_wellOf_57 rfl (lv_at hl 1 rfl) ?_
        refine w_readVi X M h [.int (nI k)] [] ((c_X8_jokesIn l g u v ⟨by omega, hm.2⟩ x hI W hW hR (nI k))) lk_X8_97 hm.2 (by omega) rfl rfl ⟨by decide, by decide⟩ hl ⟨Nat.zero_le _, Nat.zero_le _⟩ (Nat.le_of_ble_eq_true rfl) rfl dX8_wellOf_58 (fun H locs h => ?_)
        refine w_if_ne (tgt := 68) kx kb (by omega) dX8_wellOf_61 (by decide) (fun c_3 => ?_) (fun c_3 => ?_)
        · refine lv_aload_n kx kb dX8_wellOf_68 rfl (lv_at hl 0 rfl) ?_
          refine lv_aload_n kx kb dX8_wellOf_69 rfl (lv_at hl 0 rfl) ?_
          refine lv_iload_n kx kb dX8_wellOf_70 rfl (lv_at hl 1 rfl) ?_
          refine lv_iconst (v := nI 0) kx kb dX8_wellOf_71 (by decide) ?_
          refine w_readVi X M h [.int (nI k), .int (nI 0)] [.ref (ad 254)] ((c_X8_atPlace l g u v ⟨by omega, hm.2⟩ x hI W hW hR (nI k) (nI 0))) lk_X8_172 hm.2 (by omega) rfl rfl ⟨by decide, by decide⟩ hl ⟨Nat.zero_le _, Nat.zero_le _⟩ (Nat.le_of_ble_eq_true rfl) rfl dX8_wellOf_72 (fun H locs h => ?_)
          obtain ⟨k2, hk2, hik, hkw, hkd⟩ := fnd_b hI (wl := nI k) (d := 30) (by decide) (by omega)
          refine w_top (y := nI k2) hik ?_
          refine lv_iconst (v := nI 1) kx kb dX8_wellOf_75 (by decide) ?_
          refine w_readVi X M h [.int (nI k2), .int (nI 1)] [] ((c_X8_is l g u v ⟨by omega, hm.2⟩ x hI W hW hR k2 1 (by omega) (by omega))) lk_X8_73 hm.2 (by omega) rfl rfl ⟨by decide, by decide⟩ hl ⟨Nat.zero_le _, Nat.zero_le _⟩ (Nat.le_of_ble_eq_true rfl) rfl dX8_wellOf_76 (fun H locs h => ?_)
          exact w_iret X h ⟨by rw [wellOfF, if_pos c_1, if_neg (show ¬ nI 2 = nI 0 by decide), if_neg (show ¬ nI 2 = nI 1 by decide), if_pos rfl]; rw [leastD_k hI hk2 hik], rfl⟩ dX8_wellOf_79
        · refine lv_iconst (v := nI 0) kx kb dX8_wellOf_64 (by decide) ?_
          refine lv_goto (tgt := 79) kx kb dX8_wellOf_65 (by decide) ?_
          exact w_iret X h ⟨by rw [wellOfF, if_pos c_1, if_neg (show ¬ nI 2 = nI 0 by decide), if_neg (show ¬ nI 2 = nI 1 by decide), if_pos rfl]; rw [leastD_0 (by omega) hI], rfl⟩ dX8_wellOf_79
      · subst hvk2
        refine lv_tableIn (tgt := 80) (off := 70) kx kb dX8_wellOf_10 (by decide) (by decide) (by decide) (by decide) ?_
        refine lv_aload_n kx kb dX8_wellOf_80 rfl (lv_at hl 0 rfl) ?_
        refine w_get X M h 254 hm.2 (by omega) fl_X8_32 rfl dX8_wellOf_81 ?_
        refine lv_bipush (v := nI 18) kx kb dX8_wellOf_84 (by decide) ?_
        refine lv_iload_n kx kb dX8_wellOf_86 rfl (lv_at hl 1 rfl) ?_
        refine w_addn kx kb dX8_wellOf_87 ?_
        refine w_iald X M h 255 hW (by omega) (18 + k) (rfl) (by omega) (by omega) dX8_wellOf_88 ?_
        refine w_top (y := nI (cnt (fun i => decide (x.2.2.2.2.1 1 i = nI k)) x.2.2.1)) (hR.f k (by omega)) ?_
        exact w_iret X h ⟨by rw [wellOfF, if_pos c_1, if_neg (show ¬ nI 3 = nI 0 by decide), if_neg (show ¬ nI 3 = nI 1 by decide), if_neg (show ¬ nI 3 = nI 2 by decide), if_pos rfl], rfl⟩ dX8_wellOf_89
    · refine lv_tableOut (tgt := 90) kx kb dX8_wellOf_10 hsw (by decide) ?_
      refine lv_bipush (v := (-2)) kx kb dX8_wellOf_90 (by decide) ?_
      exact w_iret X h ⟨by rw [wellOfF, if_pos c_1, if_neg (hne 0 (by omega)), if_neg (hne 1 (by omega)), if_neg (hne 2 (by omega)), if_neg (hne 3 (by omega))], rfl⟩ dX8_wellOf_92
  · refine lv_iconst (v := (-1)) kx kb dX8_wellOf_7 (by decide) ?_
    exact w_iret X h ⟨by rw [wellOfF, if_neg c_1], rfl⟩ dX8_wellOf_8
set_option maxRecDepth 20000 in
theorem c_X8_isKnown (l : Launch) (g : gT) {N : Nat} {ad : Nat → Nat} {F : Nat → va_E} (u : Nat → Int32) (v : Nat → Nat) (hm : oM g N ad F u v) (x : SX) (hI : Inv x) (W : Nat → Int32) (hW : arI g F 255 274 W) (hR : RW x W) (a : Int32) : CtI l yX8_isKnown cX8_isKnown 2 (some .int) 1 22 g N ad F [.ref (ad 254), .int a] (fun r F' => r = (isKnownF x a) ∧ F' = F) := by
  refine CtI_of (by decide) (Nat.le_of_ble_eq_true rfl) ?_
  intro p e s m args below meth c A H ls X M h hl
  have kx := X.1.1
  have kb := X.1.2.1
  have hl : lv_has ls 2 [(0, .ref (ad 254)), (1, .int a)] := hl
  have hN0 := hm.1
  have hn12 := hI.n
  have htn64 := hI.tn
  obtain ⟨hz0, hz1a, hz1, hz2, hz3, hz4⟩ := hI.zz
  refine lv_iload_n kx kb dX8_isKnown_0 rfl (lv_at hl 1 rfl) ?_
  refine lv_iconst (v := nI 0) kx kb dX8_isKnown_1 (by decide) ?_
  refine lv_bipush (v := nI 63) kx kb dX8_isKnown_2 (by decide) ?_
  refine w_readSi X M h [.int a, .int (nI 0), .int (nI 63)] [] ((c_X8_isBetween l g a (nI 0) (nI 63))) lk_X8_19 rfl ⟨by decide, by decide⟩ hl ⟨Nat.zero_le _, Nat.zero_le _⟩ (Nat.le_of_ble_eq_true rfl) rfl dX8_isKnown_4 (fun H locs h => ?_)
  refine w_if_neb (tgt := 12) kx kb dX8_isKnown_7 (by decide) (fun c_1 => ?_) (fun c_1 => ?_)
  · obtain ⟨k, hk0, hk, rfl⟩ := inW_of (by decide) (by decide) c_1
    have hkn := hI.kn k (by omega)
    refine lv_aload_n kx kb dX8_isKnown_12 rfl (lv_at hl 0 rfl) ?_
    refine lv_iload_n kx kb dX8_isKnown_13 rfl (lv_at hl 1 rfl) ?_
    refine w_readVi X M h [.int (nI k)] [] ((c_X8_isKnownSign l g u v ⟨by omega, hm.2⟩ x hI W hW hR k (by omega))) lk_X8_85 hm.2 (by omega) rfl rfl ⟨by decide, by decide⟩ hl ⟨Nat.zero_le _, Nat.zero_le _⟩ (Nat.le_of_ble_eq_true rfl) rfl dX8_isKnown_14 (fun H locs h => ?_)
    refine w_if_eqb (tgt := 24) kx kb dX8_isKnown_17 (by decide) (fun c_2 => ?_) (fun c_2 => ?_)
    · refine lv_iconst (v := nI 0) kx kb dX8_isKnown_24 (by decide) ?_
      exact w_iret X h ⟨by rw [isKnownF, if_pos c_1, cl_n (by omega)]; show _ = x.2.2.2.2.1 2 k; exact (hkn.resolve_right c_2).symm, rfl⟩ dX8_isKnown_25
    · refine lv_iconst (v := nI 1) kx kb dX8_isKnown_20 (by decide) ?_
      refine lv_goto (tgt := 25) kx kb dX8_isKnown_21 (by decide) ?_
      exact w_iret X h ⟨by rw [isKnownF, if_pos c_1, cl_n (by omega)]; show _ = x.2.2.2.2.1 2 k; rw [c_2], rfl⟩ dX8_isKnown_25
  · refine lv_iconst (v := (-1)) kx kb dX8_isKnown_10 (by decide) ?_
    exact w_iret X h ⟨by rw [isKnownF, if_neg c_1], rfl⟩ dX8_isKnown_11
set_option maxRecDepth 20000 in
theorem c_X8_inWell (l : Launch) (g : gT) {N : Nat} {ad : Nat → Nat} {F : Nat → va_E} (u : Nat → Int32) (v : Nat → Nat) (hm : oM g N ad F u v) (x : SX) (hI : Inv x) (W : Nat → Int32) (hW : arI g F 255 274 W) (hR : RW x W) (a pl : Int32) : CtI l yX8_inWell cX8_inWell 3 (some .int) 3 68 g N ad F [.ref (ad 254), .int a, .int pl] (fun r F' => r = (inWellF x a pl) ∧ F' = F) := by
  refine CtI_of (by decide) (Nat.le_of_ble_eq_true rfl) ?_
  intro p e s m args below meth c A H ls X M h hl
  have kx := X.1.1
  have kb := X.1.2.1
  have hl : lv_has ls 3 [(0, .ref (ad 254)), (1, .int a), (2, .int pl)] := hl
  have hN0 := hm.1
  have hn12 := hI.n
  have htn64 := hI.tn
  obtain ⟨hz0, hz1a, hz1, hz2, hz3, hz4⟩ := hI.zz
  refine lv_iload_n kx kb dX8_inWell_0 rfl (lv_at hl 1 rfl) ?_
  refine w_readSi X M h [.int a] [] ((c_X8_isWell l g a)) lk_X8_81 rfl ⟨by decide, by decide⟩ hl ⟨Nat.zero_le _, Nat.zero_le _⟩ (Nat.le_of_ble_eq_true rfl) rfl dX8_inWell_1 (fun H locs h => ?_)
  refine w_if_eqb (tgt := 16) kx kb dX8_inWell_4 (by decide) (fun c_1 => ?_) (fun c_1 => ?_)
  · refine lv_iconst (v := (-1)) kx kb dX8_inWell_16 (by decide) ?_
    exact w_iret X h ⟨by rw [inWellF, if_neg c_1], rfl⟩ dX8_inWell_17
  · refine lv_aload_n kx kb dX8_inWell_7 rfl (lv_at hl 0 rfl) ?_
    refine lv_iload_n kx kb dX8_inWell_8 rfl (lv_at hl 1 rfl) ?_
    refine lv_iload_n kx kb dX8_inWell_9 rfl (lv_at hl 2 rfl) ?_
    refine w_readVi X M h [.int a, .int pl] [] ((c_X8_atPlace l g u v ⟨by omega, hm.2⟩ x hI W hW hR a pl)) lk_X8_172 hm.2 (by omega) rfl rfl ⟨by decide, by decide⟩ hl ⟨Nat.zero_le _, Nat.zero_le _⟩ (Nat.le_of_ble_eq_true rfl) rfl dX8_inWell_10 (fun H locs h => ?_)
    refine lv_goto (tgt := 17) kx kb dX8_inWell_13 (by decide) ?_
    exact w_iret X h ⟨by rw [inWellF, if_pos c_1], rfl⟩ dX8_inWell_17
set_option maxRecDepth 20000 in
theorem c_X8_liftedOf (l : Launch) (g : gT) {N : Nat} {ad : Nat → Nat} {F : Nat → va_E} (u : Nat → Int32) (v : Nat → Nat) (hm : oM g N ad F u v) (x : SX) (hI : Inv x) (W : Nat → Int32) (hW : arI g F 255 274 W) (hR : RW x W) (a wh : Int32) : CtI l yX8_liftedOf cX8_liftedOf 3 (some .int) 1 22 g N ad F [.ref (ad 254), .int a, .int wh] (fun r F' => r = (liftedF x a wh (fun i => fb (x.2.2.2.2.2.1 i))) ∧ F' = F) := by
  refine CtI_of (by decide) (Nat.le_of_ble_eq_true rfl) ?_
  intro p e s m args below meth c A H ls X M h hl
  have kx := X.1.1
  have kb := X.1.2.1
  have hl : lv_has ls 3 [(0, .ref (ad 254)), (1, .int a), (2, .int wh)] := hl
  have hN0 := hm.1
  have hn12 := hI.n
  have htn64 := hI.tn
  obtain ⟨hz0, hz1a, hz1, hz2, hz3, hz4⟩ := hI.zz
  refine lv_iload_n kx kb dX8_liftedOf_0 rfl (lv_at hl 1 rfl) ?_
  refine lv_iconst (v := nI 0) kx kb dX8_liftedOf_1 (by decide) ?_
  refine lv_aload_n kx kb dX8_liftedOf_2 rfl (lv_at hl 0 rfl) ?_
  refine w_get X M h 254 hm.2 (by omega) fl_X8_32 rfl dX8_liftedOf_3 ?_
  refine lv_bipush (v := nI 6) kx kb dX8_liftedOf_6 (by decide) ?_
  refine w_iald X M h 255 hW (by omega) (6) (rfl) (by omega) (by omega) dX8_liftedOf_8 ?_
  refine w_top (y := nI x.2.2.1) (hR.t) ?_
  refine lv_iconst (v := nI 1) kx kb dX8_liftedOf_9 (by decide) ?_
  refine lv_isub kx kb dX8_liftedOf_10 ?_
  refine w_readSi X M h [.int a, .int (nI 0), .int ((nI x.2.2.1) - (nI 1))] [] ((c_X8_isBetween l g a (nI 0) ((nI x.2.2.1) - (nI 1)))) lk_X8_19 rfl ⟨by decide, by decide⟩ hl ⟨Nat.zero_le _, Nat.zero_le _⟩ (Nat.le_of_ble_eq_true rfl) rfl dX8_liftedOf_11 (fun H locs h => ?_)
  refine w_if_neb (tgt := 19) kx kb dX8_liftedOf_14 (by decide) (fun c_1 => ?_) (fun c_1 => ?_)
  · obtain ⟨k, hk, rfl⟩ := inW_pl (by omega) c_1
    refine lv_iload_n kx kb dX8_liftedOf_19 rfl (lv_at hl 2 rfl) ?_
    refine lv_iconst (v := nI 0) kx kb dX8_liftedOf_20 (by decide) ?_
    refine lv_iconst (v := nI 2) kx kb dX8_liftedOf_21 (by decide) ?_
    refine w_readSi X M h [.int wh, .int (nI 0), .int (nI 2)] [] ((c_X8_isBetween l g wh (nI 0) (nI 2))) lk_X8_19 rfl ⟨by decide, by decide⟩ hl ⟨Nat.zero_le _, Nat.zero_le _⟩ (Nat.le_of_ble_eq_true rfl) rfl dX8_liftedOf_22 (fun H locs h => ?_)
    refine w_if_eqb (tgt := 54) kx kb dX8_liftedOf_25 (by decide) (fun c_2 => ?_) (fun c_2 => ?_)
    · refine lv_bipush (v := (-2)) kx kb dX8_liftedOf_54 (by decide) ?_
      exact w_iret X h ⟨by rw [liftedF, if_pos c_1]; rw [if_neg (inW_ne c_2 0 (by decide) (by decide) (by decide)), if_neg (inW_ne c_2 1 (by decide) (by decide) (by decide)), if_neg (inW_ne c_2 2 (by decide) (by decide) (by decide))], rfl⟩ dX8_liftedOf_56
    · obtain ⟨q, hq0, hq2, rfl⟩ := inW_of (by decide) (by decide) c_2
      have hl3 := hR.l (x.2.2.1 - 1 - k) (by omega)
      have hlv : ∀ z, z = 82 + 3 * (x.2.2.1 - 1 - k) + q → W z = liftedF x (nI k) (nI q) (fun i => fb (x.2.2.2.2.2.1 i)) := by
          intro z ez
          subst ez
          rw [liftedF, if_pos c_1, cl_n (by omega)]
          rcases (show q = 0 ∨ q = 1 ∨ q = 2 by omega) with rfl | rfl | rfl
          · exact hl3.1
          · exact hl3.2.1
          · exact hl3.2.2
      refine lv_aload_n kx kb dX8_liftedOf_28 rfl (lv_at hl 0 rfl) ?_
      refine w_get X M h 254 hm.2 (by omega) fl_X8_32 rfl dX8_liftedOf_29 ?_
      refine lv_bipush (v := nI 82) kx kb dX8_liftedOf_32 (by decide) ?_
      refine lv_iconst (v := nI 3) kx kb dX8_liftedOf_34 (by decide) ?_
      refine lv_aload_n kx kb dX8_liftedOf_35 rfl (lv_at hl 0 rfl) ?_
      refine w_get X M h 254 hm.2 (by omega) fl_X8_32 rfl dX8_liftedOf_36 ?_
      refine lv_bipush (v := nI 6) kx kb dX8_liftedOf_39 (by decide) ?_
      refine w_iald X M h 255 hW (by omega) (6) (rfl) (by omega) (by omega) dX8_liftedOf_41 ?_
      refine w_top (y := nI x.2.2.1) (hR.t) ?_
      refine lv_iconst (v := nI 1) kx kb dX8_liftedOf_42 (by decide) ?_
      refine w_subn kx kb (by omega) dX8_liftedOf_43 ?_
      refine lv_iload_n kx kb dX8_liftedOf_44 rfl (lv_at hl 1 rfl) ?_
      refine w_subn kx kb (by omega) dX8_liftedOf_45 ?_
      refine w_muln kx kb dX8_liftedOf_46 ?_
      refine w_addn kx kb dX8_liftedOf_47 ?_
      refine lv_iload_n kx kb dX8_liftedOf_48 rfl (lv_at hl 2 rfl) ?_
      refine w_addn kx kb dX8_liftedOf_49 ?_
      refine w_iald X M h 255 hW (by omega) (82 + (3 * ((x.2.2.1 - 1) - k)) + q) (rfl) (by omega) (by omega) dX8_liftedOf_50 ?_
      refine lv_goto (tgt := 56) kx kb dX8_liftedOf_51 (by decide) ?_
      exact w_iret X h ⟨hlv _ rfl, rfl⟩ dX8_liftedOf_56
  · refine lv_iconst (v := (-1)) kx kb dX8_liftedOf_17 (by decide) ?_
    exact w_iret X h ⟨by rw [liftedF, if_neg c_1], rfl⟩ dX8_liftedOf_18
set_option maxRecDepth 20000 in
theorem c_X8_laughs (l : Launch) (g : gT) {N : Nat} {ad : Nat → Nat} {F : Nat → va_E} (u : Nat → Int32) (v : Nat → Nat) (hm : oM g N ad F u v) (x : SX) (hI : Inv x) (W : Nat → Int32) (hW : arI g F 255 274 W) (hR : RW x W)  : CtF l yX8_laughs cX8_laughs 1 (some .float) 1 20 g N ad F [.ref (ad 254)] (fun r F' => r = (x.2.2.2.1) ∧ F' = F) := by
  refine CtF_of (by decide) (Nat.le_of_ble_eq_true rfl) ?_
  intro p e s m args below meth c A H ls X M h hl
  have kx := X.1.1
  have kb := X.1.2.1
  have hl : lv_has ls 1 [(0, .ref (ad 254))] := hl
  have hN0 := hm.1
  have hn12 := hI.n
  have htn64 := hI.tn
  obtain ⟨hz0, hz1a, hz1, hz2, hz3, hz4⟩ := hI.zz
  refine lv_aload_n kx kb dX8_laughs_0 rfl (lv_at hl 0 rfl) ?_
  refine w_get X M h 254 hm.2 (by omega) fl_X8_32 rfl dX8_laughs_1 ?_
  refine lv_bipush (v := nI 11) kx kb dX8_laughs_4 (by decide) ?_
  refine w_iald X M h 255 hW (by omega) (11) (rfl) (by omega) (by omega) dX8_laughs_6 ?_
  refine w_top (y := fb x.2.2.2.1) (hR.s) ?_
  refine w_i2fb X hl q5_79 ⟨by decide, by decide⟩ (Nat.le_of_ble_eq_true rfl) hI.smn dX8_laughs_7 ?_
  exact w_fret X h ⟨rfl, rfl⟩ dX8_laughs_10
set_option maxRecDepth 20000 in
theorem c_X8_laughsAgain (l : Launch) (g : gT) {N : Nat} {ad : Nat → Nat} {F : Nat → va_E} (u : Nat → Int32) (v : Nat → Nat) (hm : oM g N ad F u v) (x : SX) (hI : Inv x) (W : Nat → Int32) (hW : arI g F 255 274 W) (hR : RW x W)  : CtF l yX8_laughsAgain cX8_laughsAgain 3 (some .float) 1 20 g N ad F [.ref (ad 254)] (fun r F' => r = (fsum x.2.2.2.2.2.1 x.2.2.1) ∧ F' = F) := by
  refine CtF_of (by decide) (Nat.le_of_ble_eq_true rfl) ?_
  intro p e s m args below meth c A H ls X M h hl
  have kx := X.1.1
  have kb := X.1.2.1
  have hl : lv_has ls 3 [(0, .ref (ad 254))] := hl
  have hN0 := hm.1
  have hn12 := hI.n
  have htn64 := hI.tn
  obtain ⟨hz0, hz1a, hz1, hz2, hz3, hz4⟩ := hI.zz
  refine lv_fconst0 kx kb dX8_laughsAgain_0 ?_
  refine lv_fstore_n (lv' := [(1, .float FP.fconst0), (0, .ref (ad 254))]) kx kb dX8_laughsAgain_1 rfl hl (by decide) rfl (fun ls hl => ?_)
  refine lv_iconst (v := nI 0) kx kb dX8_laughsAgain_2 (by decide) ?_
  refine lv_istore_n (lv' := [(2, .int (nI 0)), (1, .float FP.fconst0), (0, .ref (ad 254))]) kx kb dX8_laughsAgain_3 rfl hl (by decide) rfl (fun ls hl => ?_)
  refine w_loop2 (fun (k : Nat) (sv : UInt32) => x.2.2.1 - k) (fun (k : Nat) (sv : UInt32) H locs ls => Hx g N ad F A s H locs ∧ lv_has ls 3 [(0, .ref (ad 254)), (1, .float sv), (2, .int (nI k))] ∧ (k ≤ x.2.2.1) ∧ (sv = fsum x.2.2.2.2.2.1 k)) ?_ 0 FP.fconst0 ⟨h, lv_sub hl [2, 1, 0] rfl, Nat.zero_le _, rfl⟩
  intro k sv H locs ls hinv ih
  obtain ⟨h, hl, hk, hv⟩ := hinv
  refine lv_iload_n kx kb dX8_laughsAgain_4 rfl (lv_at hl 2 rfl) ?_
  refine lv_aload_n kx kb dX8_laughsAgain_5 rfl (lv_at hl 0 rfl) ?_
  refine w_get X M h 254 hm.2 (by omega) fl_X8_32 rfl dX8_laughsAgain_6 ?_
  refine lv_bipush (v := nI 6) kx kb dX8_laughsAgain_9 (by decide) ?_
  refine w_iald X M h 255 hW (by omega) (6) (rfl) (by omega) (by omega) dX8_laughsAgain_11 ?_
  refine w_top (y := nI x.2.2.1) (hR.t) ?_
  refine w_cmp_ge (tgt := 40) kx kb (by omega) (by omega) dX8_laughsAgain_12 (by decide) (fun c_1 => ?_) (fun c_1 => ?_)
  · refine lv_fload_n kx kb dX8_laughsAgain_40 rfl (lv_at hl 1 rfl) ?_
    exact w_fret X h ⟨by rw [hv, show k = x.2.2.1 by omega], rfl⟩ dX8_laughsAgain_41
  · refine lv_fload_n kx kb dX8_laughsAgain_15 rfl (lv_at hl 1 rfl) ?_
    refine lv_aload_n kx kb dX8_laughsAgain_16 rfl (lv_at hl 0 rfl) ?_
    refine w_get X M h 254 hm.2 (by omega) fl_X8_32 rfl dX8_laughsAgain_17 ?_
    refine lv_bipush (v := nI 82) kx kb dX8_laughsAgain_20 (by decide) ?_
    refine lv_iconst (v := nI 3) kx kb dX8_laughsAgain_22 (by decide) ?_
    refine lv_iload_n kx kb dX8_laughsAgain_23 rfl (lv_at hl 2 rfl) ?_
    refine w_muln kx kb dX8_laughsAgain_24 ?_
    refine w_addn kx kb dX8_laughsAgain_25 ?_
    refine lv_iconst (v := nI 2) kx kb dX8_laughsAgain_26 (by decide) ?_
    refine w_addn kx kb dX8_laughsAgain_27 ?_
    refine w_iald X M h 255 hW (by omega) (82 + (3 * k) + 2) (rfl) (by omega) (by omega) dX8_laughsAgain_28 ?_
    refine w_top (y := fb (x.2.2.2.2.2.1 k)) ((hR.l k (by omega)).2.2) ?_
    refine w_i2fb X hl q5_79 ⟨by decide, by decide⟩ (Nat.le_of_ble_eq_true rfl) (hI.lfn (by omega)) dX8_laughsAgain_29 ?_
    refine lv_fadd kx kb dX8_laughsAgain_32 (by rw [hv]; exact nnF_n (nnF_add (fsum_nn (fun z hz => hI.lfn (by omega))) (hI.lfn (by omega)))) ?_
    refine lv_fstore_n (lv' := [(1, .float (FP.fadd sv (x.2.2.2.2.2.1 k))), (0, .ref (ad 254)), (2, .int (nI k))]) kx kb dX8_laughsAgain_33 rfl hl (by decide) rfl (fun ls hl => ?_)
    refine lv_iinc (v := nI (k + 1)) (lv' := [(2, .int (nI (k + 1))), (1, .float (FP.fadd sv (x.2.2.2.2.2.1 k))), (0, .ref (ad 254))]) kx kb dX8_laughsAgain_34 hl (k := 2) rfl (nI_add _ _) (by decide) rfl (fun ls hl => ?_)
    refine lv_goto (tgt := 4) kx kb dX8_laughsAgain_37 (by decide) ?_
    exact ih (k + 1) (FP.fadd sv (x.2.2.2.2.2.1 k)) _ _ _ ⟨h, lv_sub hl [2, 1, 0] rfl, by omega, by rw [hv, fsum]⟩ (by omega)
set_option maxRecDepth 20000 in
theorem c_X8_wholeLaughs (l : Launch) (g : gT) {N : Nat} {ad : Nat → Nat} {F : Nat → va_E} (u : Nat → Int32) (v : Nat → Nat) (hm : oM g N ad F u v) (x : SX) (hI : Inv x) (W : Nat → Int32) (hW : arI g F 255 274 W) (hR : RW x W)  : CtI l yX8_wholeLaughs cX8_wholeLaughs 1 (some .int) 2 40 g N ad F [.ref (ad 254)] (fun r F' => r = (FP.f2i x.2.2.2.1) ∧ F' = F) := by
  refine CtI_of (by decide) (Nat.le_of_ble_eq_true rfl) ?_
  intro p e s m args below meth c A H ls X M h hl
  have kx := X.1.1
  have kb := X.1.2.1
  have hl : lv_has ls 1 [(0, .ref (ad 254))] := hl
  have hN0 := hm.1
  have hn12 := hI.n
  have htn64 := hI.tn
  obtain ⟨hz0, hz1a, hz1, hz2, hz3, hz4⟩ := hI.zz
  refine lv_aload_n kx kb dX8_wholeLaughs_0 rfl (lv_at hl 0 rfl) ?_
  refine w_readVf X M h [] [] ((c_X8_laughs l g u v ⟨by omega, hm.2⟩ x hI W hW hR)) lk_X8_188 hm.2 (by omega) rfl rfl ⟨by decide, by decide⟩ hl ⟨Nat.zero_le _, Nat.zero_le _⟩ (Nat.le_of_ble_eq_true rfl) rfl dX8_wholeLaughs_1 (fun H locs h => ?_)
  refine lv_f2i kx kb dX8_wholeLaughs_4 ?_
  exact w_iret X h ⟨rfl, rfl⟩ dX8_wholeLaughs_5
set_option maxRecDepth 20000 in
theorem c_X8_laughBits (l : Launch) (g : gT) {N : Nat} {ad : Nat → Nat} {F : Nat → va_E} (u : Nat → Int32) (v : Nat → Nat) (hm : oM g N ad F u v) (x : SX) (hI : Inv x) (W : Nat → Int32) (hW : arI g F 255 274 W) (hR : RW x W) (a b : Int32) : CtI l yX8_laughBits cX8_laughBits 3 (some .int) 2 45 g N ad F [.ref (ad 254), .int a, .int b] (fun r F' => r = ((if hasJ x.1 a then (if inW b (nI 0) (nI 50) then fb (lfO (x.2.1 3 (cl a)) (x.2.1 4 (cl a)) (nI (cl b))) else -2) else -1)) ∧ F' = F) := by
  refine CtI_of (by decide) (Nat.le_of_ble_eq_true rfl) ?_
  intro p e s m args below meth c A H ls X M h hl
  have kx := X.1.1
  have kb := X.1.2.1
  have hl : lv_has ls 3 [(0, .ref (ad 254)), (1, .int a), (2, .int b)] := hl
  have hN0 := hm.1
  have hn12 := hI.n
  have htn64 := hI.tn
  obtain ⟨hz0, hz1a, hz1, hz2, hz3, hz4⟩ := hI.zz
  refine lv_aload_n kx kb dX8_laughBits_0 rfl (lv_at hl 0 rfl) ?_
  refine lv_iload_n kx kb dX8_laughBits_1 rfl (lv_at hl 1 rfl) ?_
  refine w_readVi X M h [.int a] [] ((c_X8_isJoke l g u v ⟨by omega, hm.2⟩ x hI W hW hR a)) lk_X8_113 hm.2 (by omega) rfl rfl ⟨by decide, by decide⟩ hl ⟨Nat.zero_le _, Nat.zero_le _⟩ (Nat.le_of_ble_eq_true rfl) rfl dX8_laughBits_2 (fun H locs h => ?_)
  refine w_if_neb (tgt := 10) kx kb dX8_laughBits_5 (by decide) (fun c_1 => ?_) (fun c_1 => ?_)
  · obtain ⟨k, hk, rfl⟩ := hasJ_of (by omega) c_1
    refine lv_iload_n kx kb dX8_laughBits_10 rfl (lv_at hl 2 rfl) ?_
    refine lv_iconst (v := nI 0) kx kb dX8_laughBits_11 (by decide) ?_
    refine lv_bipush (v := nI 50) kx kb dX8_laughBits_12 (by decide) ?_
    refine w_readSi X M h [.int b, .int (nI 0), .int (nI 50)] [] ((c_X8_isBetween l g b (nI 0) (nI 50))) lk_X8_19 rfl ⟨by decide, by decide⟩ hl ⟨Nat.zero_le _, Nat.zero_le _⟩ (Nat.le_of_ble_eq_true rfl) rfl dX8_laughBits_14 (fun H locs h => ?_)
    refine w_if_eqb (tgt := 32) kx kb dX8_laughBits_17 (by decide) (fun c_2 => ?_) (fun c_2 => ?_)
    · refine lv_bipush (v := (-2)) kx kb dX8_laughBits_32 (by decide) ?_
      exact w_iret X h ⟨by rw [if_pos c_1, if_neg c_2], rfl⟩ dX8_laughBits_34
    · obtain ⟨gr, hg0, hg1, rfl⟩ := inW_of (by decide) (by decide) c_2
      refine lv_aload_n kx kb dX8_laughBits_20 rfl (lv_at hl 0 rfl) ?_
      refine lv_iload_n kx kb dX8_laughBits_21 rfl (lv_at hl 1 rfl) ?_
      refine lv_iload_n kx kb dX8_laughBits_22 rfl (lv_at hl 2 rfl) ?_
      refine w_readVf X M h [.int (nI k), .int (nI gr)] [] ((c_X8_laughOf l g u v ⟨by omega, hm.2⟩ x hI W hW hR k (by omega) gr (hI.lnn (by omega) (by omega)))) lk_X8_155 hm.2 (by omega) rfl rfl ⟨by decide, by decide⟩ hl ⟨Nat.zero_le _, Nat.zero_le _⟩ (Nat.le_of_ble_eq_true rfl) rfl dX8_laughBits_23 (fun H locs h => ?_)
      refine w_readSi X M h [.float (lfO (x.2.1 3 k) (x.2.1 4 k) (nI gr))] [] ((c_JF_f2i l g (lfO (x.2.1 3 k) (x.2.1 4 k) (nI gr)) ((hI.isl hk hg1).nn))) lk_X8_159 rfl ⟨by decide, by decide⟩ hl ⟨Nat.zero_le _, Nat.zero_le _⟩ (Nat.le_of_ble_eq_true rfl) rfl dX8_laughBits_26 (fun H locs h => ?_)
      refine lv_goto (tgt := 34) kx kb dX8_laughBits_29 (by decide) ?_
      exact w_iret X h ⟨by rw [if_pos c_1, if_pos c_2, cl_n (by omega), cl_n (by omega)], rfl⟩ dX8_laughBits_34
  · refine lv_iconst (v := (-1)) kx kb dX8_laughBits_8 (by decide) ?_
    exact w_iret X h ⟨by rw [if_neg c_1], rfl⟩ dX8_laughBits_9
set_option maxRecDepth 20000 in
theorem c_X8_strokes (l : Launch) (g : gT) {N : Nat} {ad : Nat → Nat} {F : Nat → va_E} (u : Nat → Int32) (v : Nat → Nat) (hm : oM g N ad F u v) (x : SX) (hI : Inv x) (W : Nat → Int32) (hW : arI g F 255 274 W) (hR : RW x W) (a : Int32) : CtI l yX8_strokes cX8_strokes 4 (some .int) 1 22 g N ad F [.ref (ad 254), .int a] (fun r F' => r = (strokesF x a) ∧ F' = F) := by
  refine CtI_of (by decide) (Nat.le_of_ble_eq_true rfl) ?_
  intro p e s m args below meth c A H ls X M h hl
  have kx := X.1.1
  have kb := X.1.2.1
  have hl : lv_has ls 4 [(0, .ref (ad 254)), (1, .int a)] := hl
  have hN0 := hm.1
  have hn12 := hI.n
  have htn64 := hI.tn
  obtain ⟨hz0, hz1a, hz1, hz2, hz3, hz4⟩ := hI.zz
  refine lv_iload_n kx kb dX8_strokes_0 rfl (lv_at hl 1 rfl) ?_
  refine lv_iconst (v := nI 1) kx kb dX8_strokes_1 (by decide) ?_
  refine lv_bipush (v := nI 30) kx kb dX8_strokes_2 (by decide) ?_
  refine w_readSi X M h [.int a, .int (nI 1), .int (nI 30)] [] ((c_X8_isBetween l g a (nI 1) (nI 30))) lk_X8_19 rfl ⟨by decide, by decide⟩ hl ⟨Nat.zero_le _, Nat.zero_le _⟩ (Nat.le_of_ble_eq_true rfl) rfl dX8_strokes_4 (fun H locs h => ?_)
  refine w_if_neb (tgt := 13) kx kb dX8_strokes_7 (by decide) (fun c_1 => ?_) (fun c_1 => ?_)
  · obtain ⟨k, hk0, hk, rfl⟩ := inW_of (by decide) (by decide) c_1
    refine lv_iconst (v := nI 0) kx kb dX8_strokes_13 (by decide) ?_
    refine lv_istore_n (lv' := [(2, .int (nI 0)), (0, .ref (ad 254)), (1, .int (nI k))]) kx kb dX8_strokes_14 rfl hl (by decide) rfl (fun ls hl => ?_)
    refine lv_aload_n kx kb dX8_strokes_15 rfl (lv_at hl 1 rfl) ?_
    refine w_get X M h 254 hm.2 (by omega) fl_X8_32 rfl dX8_strokes_16 ?_
    refine lv_iconst (v := nI 3) kx kb dX8_strokes_19 (by decide) ?_
    refine w_iald X M h 255 hW (by omega) (3) (rfl) (by omega) (by omega) dX8_strokes_20 ?_
    refine w_top (y := nI (x.2.2.2.2.2.2.2 2)) (hR.z 2 (by omega)) ?_
    refine lv_istore_n (lv' := [(3, .int (nI (x.2.2.2.2.2.2.2 2))), (2, .int (nI 0)), (0, .ref (ad 254)), (1, .int (nI k))]) kx kb dX8_strokes_21 rfl hl (by decide) rfl (fun ls hl => ?_)
    refine w_loop3 (fun (i : Nat) (rc : Nat) (ct : Nat) => 30 - i) (fun (i : Nat) (rc : Nat) (ct : Nat) H locs ls => Hx g N ad F A s H locs ∧ lv_has ls 4 [(0, .ref (ad 254)), (1, .int (nI k)), (2, .int (nI ct)), (3, .int (nI rc))] ∧ (i ≤ 30) ∧ (rc ≤ 30 ∧ i ≤ rc) ∧ (ct ≤ i) ∧ (stkN (30 - i) rc (x.2.2.2.2.2.2.2 1) k + ct = stkN 30 (x.2.2.2.2.2.2.2 2) (x.2.2.2.2.2.2.2 1) k)) ?_ 0 (x.2.2.2.2.2.2.2 2) 0 ⟨h, lv_sub hl [2, 3, 1, 0] rfl, by omega, by omega, by omega, by simp⟩
    intro i rc ct H locs ls hinv ih
    obtain ⟨h, hl, hi, hrc, hct, hS⟩ := hinv
    refine lv_iload_n kx kb dX8_strokes_22 rfl (lv_at hl 3 rfl) ?_
    refine lv_iload_n kx kb dX8_strokes_23 rfl (lv_at hl 1 rfl) ?_
    refine w_cmp_ge (tgt := 44) kx kb (by omega) (by omega) dX8_strokes_24 (by decide) (fun c_2 => ?_) (fun c_2 => ?_)
    · refine lv_iload_n kx kb dX8_strokes_44 rfl (lv_at hl 2 rfl) ?_
      exact w_iret X h ⟨by rw [strokesF, if_pos c_1, cl_n (by omega)]; exact congrArg nI (by rw [← hS]; rcases Nat.eq_zero_or_pos (30 - i) with z | z; rw [z, stkN]; omega; rw [show 30 - i = (30 - i - 1) + 1 by omega, stkN, if_neg (by omega)]; omega), rfl⟩ dX8_strokes_45
    · refine lv_iinc (v := nI (ct + 1)) (lv' := [(2, .int (nI (ct + 1))), (0, .ref (ad 254)), (1, .int (nI k)), (3, .int (nI rc))]) kx kb dX8_strokes_27 hl (k := 2) rfl (nI_add _ _) (by decide) rfl (fun ls hl => ?_)
      refine lv_iload_n kx kb dX8_strokes_30 rfl (lv_at hl 3 rfl) ?_
      refine lv_aload_n kx kb dX8_strokes_31 rfl (lv_at hl 1 rfl) ?_
      refine w_get X M h 254 hm.2 (by omega) fl_X8_32 rfl dX8_strokes_32 ?_
      refine lv_iconst (v := nI 2) kx kb dX8_strokes_35 (by decide) ?_
      refine w_iald X M h 255 hW (by omega) (2) (rfl) (by omega) (by omega) dX8_strokes_36 ?_
      refine w_top (y := nI (x.2.2.2.2.2.2.2 1)) (hR.z 1 (by omega)) ?_
      refine w_readSi X M h [.int (nI rc), .int (nI (x.2.2.2.2.2.2.2 1))] [] ((c_X8_nextReach l g rc (x.2.2.2.2.2.2.2 1) (by omega))) lk_X8_169 rfl ⟨by decide, by decide⟩ hl ⟨Nat.zero_le _, Nat.zero_le _⟩ (Nat.le_of_ble_eq_true rfl) rfl dX8_strokes_37 (fun H locs h => ?_)
      refine lv_istore_n (lv' := [(3, .int (nI (min 30 (rc + (x.2.2.2.2.2.2.2 1))))), (2, .int (nI (ct + 1))), (0, .ref (ad 254)), (1, .int (nI k))]) kx kb dX8_strokes_40 rfl hl (by decide) rfl (fun ls hl => ?_)
      refine lv_goto (tgt := 22) kx kb dX8_strokes_41 (by decide) ?_
      exact ih (i + 1) (min 30 (rc + x.2.2.2.2.2.2.2 1)) (ct + 1) _ _ _ ⟨h, lv_sub hl [2, 3, 1, 0] rfl, by omega, by omega, by omega, by rw [show 30 - i = (30 - (i + 1)) + 1 by omega, stkN, if_pos (by omega)] at hS; omega⟩ (by omega)
  · refine lv_bipush (v := (-2)) kx kb dX8_strokes_10 (by decide) ?_
    exact w_iret X h ⟨by rw [strokesF, if_neg c_1], rfl⟩ dX8_strokes_12
set_option maxRecDepth 20000 in
theorem c_X8_strokesAgain (l : Launch) (g : gT) {N : Nat} {ad : Nat → Nat} {F : Nat → va_E} (u : Nat → Int32) (v : Nat → Nat) (hm : oM g N ad F u v) (x : SX) (hI : Inv x) (W : Nat → Int32) (hW : arI g F 255 274 W) (hR : RW x W) (a : Int32) : CtI l yX8_strokesAgain cX8_strokesAgain 2 (some .int) 2 45 g N ad F [.ref (ad 254), .int a] (fun r F' => r = (strokesF x a) ∧ F' = F) := by
  refine CtI_of (by decide) (Nat.le_of_ble_eq_true rfl) ?_
  intro p e s m args below meth c A H ls X M h hl
  have kx := X.1.1
  have kb := X.1.2.1
  have hl : lv_has ls 2 [(0, .ref (ad 254)), (1, .int a)] := hl
  have hN0 := hm.1
  have hn12 := hI.n
  have htn64 := hI.tn
  obtain ⟨hz0, hz1a, hz1, hz2, hz3, hz4⟩ := hI.zz
  refine lv_aload_n kx kb dX8_strokesAgain_0 rfl (lv_at hl 0 rfl) ?_
  refine lv_iload_n kx kb dX8_strokesAgain_1 rfl (lv_at hl 1 rfl) ?_
  refine w_readVi X M h [.int a] [] ((c_X8_strokes l g u v ⟨by omega, hm.2⟩ x hI W hW hR a)) lk_X8_192 hm.2 (by omega) rfl rfl ⟨by decide, by decide⟩ hl ⟨Nat.zero_le _, Nat.zero_le _⟩ (Nat.le_of_ble_eq_true rfl) rfl dX8_strokesAgain_2 (fun H locs h => ?_)
  exact w_iret X h ⟨rfl, rfl⟩ dX8_strokesAgain_5
set_option maxRecDepth 20000 in
theorem c_X8_primed (l : Launch) (g : gT) {N : Nat} {ad : Nat → Nat} {F : Nat → va_E} (u : Nat → Int32) (v : Nat → Nat) (hm : oM g N ad F u v) (x : SX) (hI : Inv x) (W : Nat → Int32) (hW : arI g F 255 274 W) (hR : RW x W)  : CtI l yX8_primed cX8_primed 3 (some .int) 1 22 g N ad F [.ref (ad 254)] (fun r F' => r = (sumI (x.2.1 4) x.1) ∧ F' = F) := by
  refine CtI_of (by decide) (Nat.le_of_ble_eq_true rfl) ?_
  intro p e s m args below meth c A H ls X M h hl
  have kx := X.1.1
  have kb := X.1.2.1
  have hl : lv_has ls 3 [(0, .ref (ad 254))] := hl
  have hN0 := hm.1
  have hn12 := hI.n
  have htn64 := hI.tn
  obtain ⟨hz0, hz1a, hz1, hz2, hz3, hz4⟩ := hI.zz
  refine lv_iconst (v := nI 0) kx kb dX8_primed_0 (by decide) ?_
  refine lv_istore_n (lv' := [(1, .int (nI 0)), (0, .ref (ad 254))]) kx kb dX8_primed_1 rfl hl (by decide) rfl (fun ls hl => ?_)
  refine lv_iconst (v := nI 0) kx kb dX8_primed_2 (by decide) ?_
  refine lv_istore_n (lv' := [(2, .int (nI 0)), (1, .int (nI 0)), (0, .ref (ad 254))]) kx kb dX8_primed_3 rfl hl (by decide) rfl (fun ls hl => ?_)
  refine w_loop2 (fun (k : Nat) (sv : Int32) => x.1 - k) (fun (k : Nat) (sv : Int32) H locs ls => Hx g N ad F A s H locs ∧ lv_has ls 3 [(0, .ref (ad 254)), (1, .int sv), (2, .int (nI k))] ∧ (k ≤ x.1) ∧ (sv = sumI (x.2.1 4) k)) ?_ 0 (nI 0) ⟨h, lv_sub hl [2, 1, 0] rfl, Nat.zero_le _, rfl⟩
  intro k sv H locs ls hinv ih
  obtain ⟨h, hl, hk, hv⟩ := hinv
  refine lv_iload_n kx kb dX8_primed_4 rfl (lv_at hl 2 rfl) ?_
  refine lv_aload_n kx kb dX8_primed_5 rfl (lv_at hl 0 rfl) ?_
  refine w_get X M h 254 hm.2 (by omega) fl_X8_32 rfl dX8_primed_6 ?_
  refine lv_iconst (v := nI 0) kx kb dX8_primed_9 (by decide) ?_
  refine w_iald X M h 255 hW (by omega) (0) (rfl) (by omega) (by omega) dX8_primed_10 ?_
  refine w_top (y := nI x.1) (hR.n) ?_
  refine w_cmp_ge (tgt := 29) kx kb (by omega) (by omega) dX8_primed_11 (by decide) (fun c_1 => ?_) (fun c_1 => ?_)
  · refine lv_iload_n kx kb dX8_primed_29 rfl (lv_at hl 1 rfl) ?_
    exact w_iret X h ⟨by rw [hv, show k = x.1 by omega], rfl⟩ dX8_primed_30
  · refine lv_iload_n kx kb dX8_primed_14 rfl (lv_at hl 1 rfl) ?_
    refine lv_aload_n kx kb dX8_primed_15 rfl (lv_at hl 0 rfl) ?_
    refine lv_iload_n kx kb dX8_primed_16 rfl (lv_at hl 2 rfl) ?_
    refine lv_iconst (v := nI 4) kx kb dX8_primed_17 (by decide) ?_
    refine w_readVi X M h [.int (nI k), .int (nI 4)] [.int sv] ((c_X8_is l g u v ⟨by omega, hm.2⟩ x hI W hW hR k 4 (by omega) (by omega))) lk_X8_73 hm.2 (by omega) rfl rfl ⟨by decide, by decide⟩ hl ⟨Nat.zero_le _, Nat.zero_le _⟩ (Nat.le_of_ble_eq_true rfl) rfl dX8_primed_18 (fun H locs h => ?_)
    refine lv_iadd kx kb dX8_primed_21 ?_
    refine lv_istore_n (lv' := [(1, .int (sv + (x.2.1 4 k))), (0, .ref (ad 254)), (2, .int (nI k))]) kx kb dX8_primed_22 rfl hl (by decide) rfl (fun ls hl => ?_)
    refine lv_iinc (v := nI (k + 1)) (lv' := [(2, .int (nI (k + 1))), (1, .int (sv + (x.2.1 4 k))), (0, .ref (ad 254))]) kx kb dX8_primed_23 hl (k := 2) rfl (nI_add _ _) (by decide) rfl (fun ls hl => ?_)
    refine lv_goto (tgt := 4) kx kb dX8_primed_26 (by decide) ?_
    exact ih (k + 1) (sv + (x.2.1 4 k)) _ _ _ ⟨h, lv_sub hl [2, 1, 0] rfl, by omega, by rw [hv, sumI]⟩ (by omega)
set_option maxRecDepth 20000 in
theorem c_X8_meanDepth (l : Launch) (g : gT) {N : Nat} {ad : Nat → Nat} {F : Nat → va_E} (u : Nat → Int32) (v : Nat → Nat) (hm : oM g N ad F u v) (x : SX) (hI : Inv x) (W : Nat → Int32) (hW : arI g F 255 274 W) (hR : RW x W) (hnn : 0 < x.1 → vf_n64 (meanF x)) : CtD l yX8_meanDepth cX8_meanDepth 3 (some .double) 1 22 g N ad F [.ref (ad 254)] (fun r F' => r = (meanF x) ∧ F' = F) := by
  refine CtD_of (by decide) (Nat.le_of_ble_eq_true rfl) ?_
  intro p e s m args below meth c A H ls X M h hl
  have kx := X.1.1
  have kb := X.1.2.1
  have hl : lv_has ls 3 [(0, .ref (ad 254))] := hl
  have hN0 := hm.1
  have hn12 := hI.n
  have htn64 := hI.tn
  obtain ⟨hz0, hz1a, hz1, hz2, hz3, hz4⟩ := hI.zz
  refine lv_iconst (v := nI 0) kx kb dX8_meanDepth_0 (by decide) ?_
  refine lv_istore_n (lv' := [(1, .int (nI 0)), (0, .ref (ad 254))]) kx kb dX8_meanDepth_1 rfl hl (by decide) rfl (fun ls hl => ?_)
  refine lv_iconst (v := nI 0) kx kb dX8_meanDepth_2 (by decide) ?_
  refine lv_istore_n (lv' := [(2, .int (nI 0)), (1, .int (nI 0)), (0, .ref (ad 254))]) kx kb dX8_meanDepth_3 rfl hl (by decide) rfl (fun ls hl => ?_)
  refine w_loop2 (fun (k : Nat) (sv : Int32) => x.1 - k) (fun (k : Nat) (sv : Int32) H locs ls => Hx g N ad F A s H locs ∧ lv_has ls 3 [(0, .ref (ad 254)), (1, .int sv), (2, .int (nI k))] ∧ (k ≤ x.1) ∧ (sv = sumI (x.2.1 1) k)) ?_ 0 (nI 0) ⟨h, lv_sub hl [2, 1, 0] rfl, Nat.zero_le _, rfl⟩
  intro k sv H locs ls hinv ih
  obtain ⟨h, hl, hk, hv⟩ := hinv
  refine lv_iload_n kx kb dX8_meanDepth_4 rfl (lv_at hl 2 rfl) ?_
  refine lv_aload_n kx kb dX8_meanDepth_5 rfl (lv_at hl 0 rfl) ?_
  refine w_get X M h 254 hm.2 (by omega) fl_X8_32 rfl dX8_meanDepth_6 ?_
  refine lv_iconst (v := nI 0) kx kb dX8_meanDepth_9 (by decide) ?_
  refine w_iald X M h 255 hW (by omega) (0) (rfl) (by omega) (by omega) dX8_meanDepth_10 ?_
  refine w_top (y := nI x.1) (hR.n) ?_
  refine w_cmp_ge (tgt := 29) kx kb (by omega) (by omega) dX8_meanDepth_11 (by decide) (fun c_1 => ?_) (fun c_1 => ?_)
  · refine lv_aload_n kx kb dX8_meanDepth_29 rfl (lv_at hl 0 rfl) ?_
    refine w_get X M h 254 hm.2 (by omega) fl_X8_32 rfl dX8_meanDepth_30 ?_
    refine lv_iconst (v := nI 0) kx kb dX8_meanDepth_33 (by decide) ?_
    refine w_iald X M h 255 hW (by omega) (0) (rfl) (by omega) (by omega) dX8_meanDepth_34 ?_
    refine w_top (y := nI x.1) (hR.n) ?_
    refine w_if_ne (tgt := 42) kx kb (by omega) dX8_meanDepth_35 (by decide) (fun c_2 => ?_) (fun c_2 => ?_)
    · refine lv_iload_n kx kb dX8_meanDepth_42 rfl (lv_at hl 1 rfl) ?_
      refine lv_i2d kx kb dX8_meanDepth_43 ?_
      refine lv_aload_n kx kb dX8_meanDepth_44 rfl (lv_at hl 0 rfl) ?_
      refine w_get X M h 254 hm.2 (by omega) fl_X8_32 rfl dX8_meanDepth_45 ?_
      refine lv_iconst (v := nI 0) kx kb dX8_meanDepth_48 (by decide) ?_
      refine w_iald X M h 255 hW (by omega) (0) (rfl) (by omega) (by omega) dX8_meanDepth_49 ?_
      refine w_top (y := nI x.1) (hR.n) ?_
      refine lv_i2d kx kb dX8_meanDepth_50 ?_
      refine lv_ddiv kx kb dX8_meanDepth_51 (by have z := hnn (by omega); rw [meanF, if_pos (by omega)] at z; rw [hv, show k = x.1 by omega]; exact z) ?_
      exact w_dret X h ⟨by rw [meanF, if_pos (by omega), hv, show k = x.1 by omega], rfl⟩ dX8_meanDepth_52
    · refine lv_dconst0 kx kb dX8_meanDepth_38 ?_
      refine lv_goto (tgt := 52) kx kb dX8_meanDepth_39 (by decide) ?_
      exact w_dret X h ⟨by rw [meanF, if_neg (by omega)], rfl⟩ dX8_meanDepth_52
  · refine lv_iload_n kx kb dX8_meanDepth_14 rfl (lv_at hl 1 rfl) ?_
    refine lv_aload_n kx kb dX8_meanDepth_15 rfl (lv_at hl 0 rfl) ?_
    refine lv_iload_n kx kb dX8_meanDepth_16 rfl (lv_at hl 2 rfl) ?_
    refine lv_iconst (v := nI 1) kx kb dX8_meanDepth_17 (by decide) ?_
    refine w_readVi X M h [.int (nI k), .int (nI 1)] [.int sv] ((c_X8_is l g u v ⟨by omega, hm.2⟩ x hI W hW hR k 1 (by omega) (by omega))) lk_X8_73 hm.2 (by omega) rfl rfl ⟨by decide, by decide⟩ hl ⟨Nat.zero_le _, Nat.zero_le _⟩ (Nat.le_of_ble_eq_true rfl) rfl dX8_meanDepth_18 (fun H locs h => ?_)
    refine lv_iadd kx kb dX8_meanDepth_21 ?_
    refine lv_istore_n (lv' := [(1, .int (sv + (x.2.1 1 k))), (0, .ref (ad 254)), (2, .int (nI k))]) kx kb dX8_meanDepth_22 rfl hl (by decide) rfl (fun ls hl => ?_)
    refine lv_iinc (v := nI (k + 1)) (lv' := [(2, .int (nI (k + 1))), (1, .int (sv + (x.2.1 1 k))), (0, .ref (ad 254))]) kx kb dX8_meanDepth_23 hl (k := 2) rfl (nI_add _ _) (by decide) rfl (fun ls hl => ?_)
    refine lv_goto (tgt := 4) kx kb dX8_meanDepth_26 (by decide) ?_
    exact ih (k + 1) (sv + (x.2.1 1 k)) _ _ _ ⟨h, lv_sub hl [2, 1, 0] rfl, by omega, by rw [hv, sumI]⟩ (by omega)
set_option maxRecDepth 20000 in
theorem c_X8_knownShare (l : Launch) (g : gT) {N : Nat} {ad : Nat → Nat} {F : Nat → va_E} (u : Nat → Int32) (v : Nat → Nat) (hm : oM g N ad F u v) (x : SX) (hI : Inv x) (W : Nat → Int32) (hW : arI g F 255 274 W) (hR : RW x W) (hnn : vf_n32 (shareF x)) : CtF l yX8_knownShare cX8_knownShare 3 (some .float) 1 21 g N ad F [.ref (ad 254)] (fun r F' => r = (shareF x) ∧ F' = F) := by
  refine CtF_of (by decide) (Nat.le_of_ble_eq_true rfl) ?_
  intro p e s m args below meth c A H ls X M h hl
  have kx := X.1.1
  have kb := X.1.2.1
  have hl : lv_has ls 3 [(0, .ref (ad 254))] := hl
  have hN0 := hm.1
  have hn12 := hI.n
  have htn64 := hI.tn
  obtain ⟨hz0, hz1a, hz1, hz2, hz3, hz4⟩ := hI.zz
  refine lv_iconst (v := nI 0) kx kb dX8_knownShare_0 (by decide) ?_
  refine lv_istore_n (lv' := [(1, .int (nI 0)), (0, .ref (ad 254))]) kx kb dX8_knownShare_1 rfl hl (by decide) rfl (fun ls hl => ?_)
  refine lv_iconst (v := nI 0) kx kb dX8_knownShare_2 (by decide) ?_
  refine lv_istore_n (lv' := [(2, .int (nI 0)), (1, .int (nI 0)), (0, .ref (ad 254))]) kx kb dX8_knownShare_3 rfl hl (by decide) rfl (fun ls hl => ?_)
  refine w_loop2 (fun (k : Nat) (sv : Int32) => 64 - k) (fun (k : Nat) (sv : Int32) H locs ls => Hx g N ad F A s H locs ∧ lv_has ls 3 [(0, .ref (ad 254)), (1, .int sv), (2, .int (nI k))] ∧ (k ≤ 64) ∧ (sv = sumI (x.2.2.2.2.1 2) k)) ?_ 0 (nI 0) ⟨h, lv_sub hl [2, 1, 0] rfl, Nat.zero_le _, rfl⟩
  intro k sv H locs ls hinv ih
  obtain ⟨h, hl, hk, hv⟩ := hinv
  have hkn : k < 64 → x.2.2.2.2.1 2 k = nI 0 ∨ x.2.2.2.2.1 2 k = nI 1 := fun z => hI.kn k z
  refine lv_iload_n kx kb dX8_knownShare_4 rfl (lv_at hl 2 rfl) ?_
  refine lv_bipush (v := nI 64) kx kb dX8_knownShare_5 (by decide) ?_
  refine w_cmp_ge (tgt := 32) kx kb (by omega) (by omega) dX8_knownShare_7 (by decide) (fun c_1 => ?_) (fun c_1 => ?_)
  · refine lv_iload_n kx kb dX8_knownShare_32 rfl (lv_at hl 1 rfl) ?_
    refine lv_i2f kx kb dX8_knownShare_33 ?_
    refine lv_ldcf (v := 1115684864) kx kb X.1.2.2.2.1 (X.1.2.2.2.2 _ q5_181) dX8_knownShare_34 ?_
    refine lv_fdiv kx kb dX8_knownShare_36 (by rw [hv, show k = 64 by omega]; exact hnn) ?_
    exact w_fret X h ⟨by rw [hv, show k = 64 by omega]; rfl, rfl⟩ dX8_knownShare_37
  · refine lv_iload_n kx kb dX8_knownShare_10 rfl (lv_at hl 1 rfl) ?_
    refine lv_aload_n kx kb dX8_knownShare_11 rfl (lv_at hl 0 rfl) ?_
    refine lv_iload_n kx kb dX8_knownShare_12 rfl (lv_at hl 2 rfl) ?_
    refine w_readVi X M h [.int (nI k)] [.int sv] ((c_X8_isKnownSign l g u v ⟨by omega, hm.2⟩ x hI W hW hR k (by omega))) lk_X8_85 hm.2 (by omega) rfl rfl ⟨by decide, by decide⟩ hl ⟨Nat.zero_le _, Nat.zero_le _⟩ (Nat.le_of_ble_eq_true rfl) rfl dX8_knownShare_13 (fun H locs h => ?_)
    refine w_if_eqb (tgt := 23) kx kb dX8_knownShare_16 (by decide) (fun c_2 => ?_) (fun c_2 => ?_)
    · refine lv_iconst (v := nI 0) kx kb dX8_knownShare_23 (by decide) ?_
      refine lv_iadd kx kb dX8_knownShare_24 ?_
      refine lv_istore_n (lv' := [(1, .int (sv + (nI 0))), (0, .ref (ad 254)), (2, .int (nI k))]) kx kb dX8_knownShare_25 rfl hl (by decide) rfl (fun ls hl => ?_)
      refine lv_iinc (v := nI (k + 1)) (lv' := [(2, .int (nI (k + 1))), (1, .int (sv + (nI 0))), (0, .ref (ad 254))]) kx kb dX8_knownShare_26 hl (k := 2) rfl (nI_add _ _) (by decide) rfl (fun ls hl => ?_)
      refine lv_goto (tgt := 4) kx kb dX8_knownShare_29 (by decide) ?_
      exact ih (k + 1) (sv + (nI 0)) _ _ _ ⟨h, lv_sub hl [2, 1, 0] rfl, by omega, by rw [hv, sumI, (hkn (by omega)).resolve_right c_2]⟩ (by omega)
    · refine lv_iconst (v := nI 1) kx kb dX8_knownShare_19 (by decide) ?_
      refine lv_goto (tgt := 24) kx kb dX8_knownShare_20 (by decide) ?_
      refine lv_iadd kx kb dX8_knownShare_24 ?_
      refine lv_istore_n (lv' := [(1, .int (sv + (nI 1))), (0, .ref (ad 254)), (2, .int (nI k))]) kx kb dX8_knownShare_25 rfl hl (by decide) rfl (fun ls hl => ?_)
      refine lv_iinc (v := nI (k + 1)) (lv' := [(2, .int (nI (k + 1))), (1, .int (sv + (nI 1))), (0, .ref (ad 254))]) kx kb dX8_knownShare_26 hl (k := 2) rfl (nI_add _ _) (by decide) rfl (fun ls hl => ?_)
      refine lv_goto (tgt := 4) kx kb dX8_knownShare_29 (by decide) ?_
      exact ih (k + 1) (sv + (nI 1)) _ _ _ ⟨h, lv_sub hl [2, 1, 0] rfl, by omega, by rw [hv, sumI, c_2]⟩ (by omega)
set_option maxRecDepth 20000 in
theorem c_X8_account (l : Launch) (g : gT) {N : Nat} {ad : Nat → Nat} {F : Nat → va_E} (u : Nat → Int32) (v : Nat → Nat) (hm : oM g N ad F u v) (x : SX) (hI : Inv x) (W : Nat → Int32) (hW : arI g F 255 274 W) (hR : RW x W) (a : Int32) : CtI l yX8_account cX8_account 2 (some .int) 2 44 g N ad F [.ref (ad 254), .int a] (fun r F' => r = (accountF x (v 3) (v 0) a) ∧ F' = F) := by
  refine CtI_of (by decide) (Nat.le_of_ble_eq_true rfl) ?_
  intro p e s m args below meth c A H ls X M h hl
  have kx := X.1.1
  have kb := X.1.2.1
  have hl : lv_has ls 2 [(0, .ref (ad 254)), (1, .int a)] := hl
  have hN0 := hm.1
  have hn12 := hI.n
  have htn64 := hI.tn
  obtain ⟨hz0, hz1a, hz1, hz2, hz3, hz4⟩ := hI.zz
  refine lv_iload_n kx kb dX8_account_0 rfl (lv_at hl 1 rfl) ?_
  rcases sw_of a 14 (by decide) with ⟨k1, hk1, hvk1⟩ | ⟨hsw, hne⟩
  · rcases (show k1 = 0 ∨ k1 = 1 ∨ k1 = 2 ∨ k1 = 3 ∨ k1 = 4 ∨ k1 = 5 ∨ k1 = 6 ∨ k1 = 7 ∨ k1 = 8 ∨ k1 = 9 ∨ k1 = 10 ∨ k1 = 11 ∨ k1 = 12 ∨ k1 = 13 by omega) with rfl | rfl | rfl | rfl | rfl | rfl | rfl | rfl | rfl | rfl | rfl | rfl | rfl | rfl
    · subst hvk1
      refine lv_tableIn (tgt := 72) (off := 71) kx kb dX8_account_1 (by decide) (by decide) (by decide) (by decide) ?_
      refine lv_aload_n kx kb dX8_account_72 rfl (lv_at hl 0 rfl) ?_
      refine w_get X M h 254 hm.2 (by omega) fl_X8_32 rfl dX8_account_73 ?_
      refine lv_iconst (v := nI 0) kx kb dX8_account_76 (by decide) ?_
      refine w_iald X M h 255 hW (by omega) (0) (rfl) (by omega) (by omega) dX8_account_77 ?_
      refine w_top (y := nI x.1) (hR.n) ?_
      exact w_iret X h ⟨by rw [accountF, if_pos rfl], rfl⟩ dX8_account_78
    · subst hvk1
      refine lv_tableIn (tgt := 79) (off := 78) kx kb dX8_account_1 (by decide) (by decide) (by decide) (by decide) ?_
      refine lv_aload_n kx kb dX8_account_79 rfl (lv_at hl 0 rfl) ?_
      refine w_get X M h 254 hm.2 (by omega) fl_X8_32 rfl dX8_account_80 ?_
      refine lv_iconst (v := nI 1) kx kb dX8_account_83 (by decide) ?_
      refine w_iald X M h 255 hW (by omega) (1) (rfl) (by omega) (by omega) dX8_account_84 ?_
      refine w_top (y := nI (x.2.2.2.2.2.2.2 0)) (hR.z 0 (by omega)) ?_
      exact w_iret X h ⟨by rw [accountF, if_neg (show ¬ nI 1 = nI 0 by decide), if_pos rfl], rfl⟩ dX8_account_85
    · subst hvk1
      refine lv_tableIn (tgt := 86) (off := 85) kx kb dX8_account_1 (by decide) (by decide) (by decide) (by decide) ?_
      refine lv_aload_n kx kb dX8_account_86 rfl (lv_at hl 0 rfl) ?_
      refine w_get X M h 254 hm.2 (by omega) fl_X8_32 rfl dX8_account_87 ?_
      refine lv_iconst (v := nI 2) kx kb dX8_account_90 (by decide) ?_
      refine w_iald X M h 255 hW (by omega) (2) (rfl) (by omega) (by omega) dX8_account_91 ?_
      refine w_top (y := nI (x.2.2.2.2.2.2.2 1)) (hR.z 1 (by omega)) ?_
      exact w_iret X h ⟨by rw [accountF, if_neg (show ¬ nI 2 = nI 0 by decide), if_neg (show ¬ nI 2 = nI 1 by decide), if_pos rfl], rfl⟩ dX8_account_92
    · subst hvk1
      refine lv_tableIn (tgt := 93) (off := 92) kx kb dX8_account_1 (by decide) (by decide) (by decide) (by decide) ?_
      refine lv_aload_n kx kb dX8_account_93 rfl (lv_at hl 0 rfl) ?_
      refine w_get X M h 254 hm.2 (by omega) fl_X8_32 rfl dX8_account_94 ?_
      refine lv_iconst (v := nI 3) kx kb dX8_account_97 (by decide) ?_
      refine w_iald X M h 255 hW (by omega) (3) (rfl) (by omega) (by omega) dX8_account_98 ?_
      refine w_top (y := nI (x.2.2.2.2.2.2.2 2)) (hR.z 2 (by omega)) ?_
      exact w_iret X h ⟨by rw [accountF, if_neg (show ¬ nI 3 = nI 0 by decide), if_neg (show ¬ nI 3 = nI 1 by decide), if_neg (show ¬ nI 3 = nI 2 by decide), if_pos rfl], rfl⟩ dX8_account_99
    · subst hvk1
      refine lv_tableIn (tgt := 100) (off := 99) kx kb dX8_account_1 (by decide) (by decide) (by decide) (by decide) ?_
      refine lv_aload_n kx kb dX8_account_100 rfl (lv_at hl 0 rfl) ?_
      refine w_get X M h 254 hm.2 (by omega) fl_X8_32 rfl dX8_account_101 ?_
      refine lv_iconst (v := nI 4) kx kb dX8_account_104 (by decide) ?_
      refine w_iald X M h 255 hW (by omega) (4) (rfl) (by omega) (by omega) dX8_account_105 ?_
      refine w_top (y := nI (x.2.2.2.2.2.2.2 3)) (hR.z 3 (by omega)) ?_
      exact w_iret X h ⟨by rw [accountF, if_neg (show ¬ nI 4 = nI 0 by decide), if_neg (show ¬ nI 4 = nI 1 by decide), if_neg (show ¬ nI 4 = nI 2 by decide), if_neg (show ¬ nI 4 = nI 3 by decide), if_pos rfl], rfl⟩ dX8_account_106
    · subst hvk1
      refine lv_tableIn (tgt := 107) (off := 106) kx kb dX8_account_1 (by decide) (by decide) (by decide) (by decide) ?_
      refine lv_aload_n kx kb dX8_account_107 rfl (lv_at hl 0 rfl) ?_
      refine w_get X M h 254 hm.2 (by omega) fl_X8_32 rfl dX8_account_108 ?_
      refine lv_iconst (v := nI 5) kx kb dX8_account_111 (by decide) ?_
      refine w_iald X M h 255 hW (by omega) (5) (rfl) (by omega) (by omega) dX8_account_112 ?_
      refine w_top (y := nI (x.2.2.2.2.2.2.2 4)) (hR.z 4 (by omega)) ?_
      exact w_iret X h ⟨by rw [accountF, if_neg (show ¬ nI 5 = nI 0 by decide), if_neg (show ¬ nI 5 = nI 1 by decide), if_neg (show ¬ nI 5 = nI 2 by decide), if_neg (show ¬ nI 5 = nI 3 by decide), if_neg (show ¬ nI 5 = nI 4 by decide), if_pos rfl], rfl⟩ dX8_account_113
    · subst hvk1
      refine lv_tableIn (tgt := 114) (off := 113) kx kb dX8_account_1 (by decide) (by decide) (by decide) (by decide) ?_
      refine lv_aload_n kx kb dX8_account_114 rfl (lv_at hl 0 rfl) ?_
      refine w_get X M h 254 hm.2 (by omega) fl_X8_32 rfl dX8_account_115 ?_
      refine lv_bipush (v := nI 6) kx kb dX8_account_118 (by decide) ?_
      refine w_iald X M h 255 hW (by omega) (6) (rfl) (by omega) (by omega) dX8_account_120 ?_
      refine w_top (y := nI x.2.2.1) (hR.t) ?_
      exact w_iret X h ⟨by rw [accountF, if_neg (show ¬ nI 6 = nI 0 by decide), if_neg (show ¬ nI 6 = nI 1 by decide), if_neg (show ¬ nI 6 = nI 2 by decide), if_neg (show ¬ nI 6 = nI 3 by decide), if_neg (show ¬ nI 6 = nI 4 by decide), if_neg (show ¬ nI 6 = nI 5 by decide), if_pos rfl], rfl⟩ dX8_account_121
    · subst hvk1
      refine lv_tableIn (tgt := 122) (off := 121) kx kb dX8_account_1 (by decide) (by decide) (by decide) (by decide) ?_
      refine lv_aload_n kx kb dX8_account_122 rfl (lv_at hl 0 rfl) ?_
      refine w_get X M h 254 hm.2 (by omega) fl_X8_32 rfl dX8_account_123 ?_
      refine lv_bipush (v := nI 7) kx kb dX8_account_126 (by decide) ?_
      refine w_iald X M h 255 hW (by omega) (7) (rfl) (by omega) (by omega) dX8_account_128 ?_
      refine w_top (y := nI (x.2.2.2.2.2.2.2 5)) (hR.c 0 (by omega)) ?_
      exact w_iret X h ⟨by rw [accountF, if_neg (show ¬ nI 7 = nI 0 by decide), if_neg (show ¬ nI 7 = nI 1 by decide), if_neg (show ¬ nI 7 = nI 2 by decide), if_neg (show ¬ nI 7 = nI 3 by decide), if_neg (show ¬ nI 7 = nI 4 by decide), if_neg (show ¬ nI 7 = nI 5 by decide), if_neg (show ¬ nI 7 = nI 6 by decide), if_pos rfl], rfl⟩ dX8_account_129
    · subst hvk1
      refine lv_tableIn (tgt := 130) (off := 129) kx kb dX8_account_1 (by decide) (by decide) (by decide) (by decide) ?_
      refine lv_aload_n kx kb dX8_account_130 rfl (lv_at hl 0 rfl) ?_
      refine w_get X M h 254 hm.2 (by omega) fl_X8_32 rfl dX8_account_131 ?_
      refine lv_bipush (v := nI 8) kx kb dX8_account_134 (by decide) ?_
      refine w_iald X M h 255 hW (by omega) (8) (rfl) (by omega) (by omega) dX8_account_136 ?_
      refine w_top (y := nI (x.2.2.2.2.2.2.2 6)) (hR.c 1 (by omega)) ?_
      exact w_iret X h ⟨by rw [accountF, if_neg (show ¬ nI 8 = nI 0 by decide), if_neg (show ¬ nI 8 = nI 1 by decide), if_neg (show ¬ nI 8 = nI 2 by decide), if_neg (show ¬ nI 8 = nI 3 by decide), if_neg (show ¬ nI 8 = nI 4 by decide), if_neg (show ¬ nI 8 = nI 5 by decide), if_neg (show ¬ nI 8 = nI 6 by decide), if_neg (show ¬ nI 8 = nI 7 by decide), if_pos rfl], rfl⟩ dX8_account_137
    · subst hvk1
      refine lv_tableIn (tgt := 138) (off := 137) kx kb dX8_account_1 (by decide) (by decide) (by decide) (by decide) ?_
      refine lv_aload_n kx kb dX8_account_138 rfl (lv_at hl 0 rfl) ?_
      refine w_get X M h 254 hm.2 (by omega) fl_X8_32 rfl dX8_account_139 ?_
      refine lv_bipush (v := nI 9) kx kb dX8_account_142 (by decide) ?_
      refine w_iald X M h 255 hW (by omega) (9) (rfl) (by omega) (by omega) dX8_account_144 ?_
      refine w_top (y := nI (x.2.2.2.2.2.2.2 7)) (hR.c 2 (by omega)) ?_
      exact w_iret X h ⟨by rw [accountF, if_neg (show ¬ nI 9 = nI 0 by decide), if_neg (show ¬ nI 9 = nI 1 by decide), if_neg (show ¬ nI 9 = nI 2 by decide), if_neg (show ¬ nI 9 = nI 3 by decide), if_neg (show ¬ nI 9 = nI 4 by decide), if_neg (show ¬ nI 9 = nI 5 by decide), if_neg (show ¬ nI 9 = nI 6 by decide), if_neg (show ¬ nI 9 = nI 7 by decide), if_neg (show ¬ nI 9 = nI 8 by decide), if_pos rfl], rfl⟩ dX8_account_145
    · subst hvk1
      refine lv_tableIn (tgt := 146) (off := 145) kx kb dX8_account_1 (by decide) (by decide) (by decide) (by decide) ?_
      refine lv_aload_n kx kb dX8_account_146 rfl (lv_at hl 0 rfl) ?_
      refine w_get X M h 254 hm.2 (by omega) fl_X8_32 rfl dX8_account_147 ?_
      refine lv_bipush (v := nI 10) kx kb dX8_account_150 (by decide) ?_
      refine w_iald X M h 255 hW (by omega) (10) (rfl) (by omega) (by omega) dX8_account_152 ?_
      refine w_top (y := nI (x.2.2.2.2.2.2.2 8)) (hR.c 3 (by omega)) ?_
      exact w_iret X h ⟨by rw [accountF, if_neg (show ¬ nI 10 = nI 0 by decide), if_neg (show ¬ nI 10 = nI 1 by decide), if_neg (show ¬ nI 10 = nI 2 by decide), if_neg (show ¬ nI 10 = nI 3 by decide), if_neg (show ¬ nI 10 = nI 4 by decide), if_neg (show ¬ nI 10 = nI 5 by decide), if_neg (show ¬ nI 10 = nI 6 by decide), if_neg (show ¬ nI 10 = nI 7 by decide), if_neg (show ¬ nI 10 = nI 8 by decide), if_neg (show ¬ nI 10 = nI 9 by decide), if_pos rfl], rfl⟩ dX8_account_153
    · subst hvk1
      refine lv_tableIn (tgt := 154) (off := 153) kx kb dX8_account_1 (by decide) (by decide) (by decide) (by decide) ?_
      refine lv_aload_n kx kb dX8_account_154 rfl (lv_at hl 0 rfl) ?_
      refine w_readVi X M h [] [] ((c_X8_primed l g u v ⟨by omega, hm.2⟩ x hI W hW hR)) lk_X8_215 hm.2 (by omega) rfl rfl ⟨by decide, by decide⟩ hl ⟨Nat.zero_le _, Nat.zero_le _⟩ (Nat.le_of_ble_eq_true rfl) rfl dX8_account_155 (fun H locs h => ?_)
      exact w_iret X h ⟨by rw [accountF, if_neg (show ¬ nI 11 = nI 0 by decide), if_neg (show ¬ nI 11 = nI 1 by decide), if_neg (show ¬ nI 11 = nI 2 by decide), if_neg (show ¬ nI 11 = nI 3 by decide), if_neg (show ¬ nI 11 = nI 4 by decide), if_neg (show ¬ nI 11 = nI 5 by decide), if_neg (show ¬ nI 11 = nI 6 by decide), if_neg (show ¬ nI 11 = nI 7 by decide), if_neg (show ¬ nI 11 = nI 8 by decide), if_neg (show ¬ nI 11 = nI 9 by decide), if_neg (show ¬ nI 11 = nI 10 by decide), if_pos rfl], rfl⟩ dX8_account_158
    · subst hvk1
      refine lv_tableIn (tgt := 159) (off := 158) kx kb dX8_account_1 (by decide) (by decide) (by decide) (by decide) ?_
      refine lv_aload_n kx kb dX8_account_159 rfl (lv_at hl 0 rfl) ?_
      refine w_get X M h 254 hm.2 (by omega) fl_X8_218 rfl dX8_account_160 ?_
      exact w_iret X h ⟨by rw [accountF, if_neg (show ¬ nI 12 = nI 0 by decide), if_neg (show ¬ nI 12 = nI 1 by decide), if_neg (show ¬ nI 12 = nI 2 by decide), if_neg (show ¬ nI 12 = nI 3 by decide), if_neg (show ¬ nI 12 = nI 4 by decide), if_neg (show ¬ nI 12 = nI 5 by decide), if_neg (show ¬ nI 12 = nI 6 by decide), if_neg (show ¬ nI 12 = nI 7 by decide), if_neg (show ¬ nI 12 = nI 8 by decide), if_neg (show ¬ nI 12 = nI 9 by decide), if_neg (show ¬ nI 12 = nI 10 by decide), if_neg (show ¬ nI 12 = nI 11 by decide), if_pos rfl], rfl⟩ dX8_account_163
    · subst hvk1
      refine lv_tableIn (tgt := 164) (off := 163) kx kb dX8_account_1 (by decide) (by decide) (by decide) (by decide) ?_
      refine lv_aload_n kx kb dX8_account_164 rfl (lv_at hl 0 rfl) ?_
      refine w_get X M h 254 hm.2 (by omega) fl_X8_61 rfl dX8_account_165 ?_
      exact w_iret X h ⟨by rw [accountF, if_neg (show ¬ nI 13 = nI 0 by decide), if_neg (show ¬ nI 13 = nI 1 by decide), if_neg (show ¬ nI 13 = nI 2 by decide), if_neg (show ¬ nI 13 = nI 3 by decide), if_neg (show ¬ nI 13 = nI 4 by decide), if_neg (show ¬ nI 13 = nI 5 by decide), if_neg (show ¬ nI 13 = nI 6 by decide), if_neg (show ¬ nI 13 = nI 7 by decide), if_neg (show ¬ nI 13 = nI 8 by decide), if_neg (show ¬ nI 13 = nI 9 by decide), if_neg (show ¬ nI 13 = nI 10 by decide), if_neg (show ¬ nI 13 = nI 11 by decide), if_neg (show ¬ nI 13 = nI 12 by decide), if_pos rfl], rfl⟩ dX8_account_168
  · refine lv_tableOut (tgt := 169) kx kb dX8_account_1 hsw (by decide) ?_
    refine lv_bipush (v := (-2)) kx kb dX8_account_169 (by decide) ?_
    exact w_iret X h ⟨by rw [accountF, if_neg (hne 0 (by omega)), if_neg (hne 1 (by omega)), if_neg (hne 2 (by omega)), if_neg (hne 3 (by omega)), if_neg (hne 4 (by omega)), if_neg (hne 5 (by omega)), if_neg (hne 6 (by omega)), if_neg (hne 7 (by omega)), if_neg (hne 8 (by omega)), if_neg (hne 9 (by omega)), if_neg (hne 10 (by omega)), if_neg (hne 11 (by omega)), if_neg (hne 12 (by omega)), if_neg (hne 13 (by omega))], rfl⟩ dX8_account_171
def faultM (u : Nat → Int32) : Int32 := if u 7 < 0 then -3 else u 7
set_option maxRecDepth 20000 in
theorem c_X8_fault (l : Launch) (g : gT) {N : Nat} {ad : Nat → Nat} {F : Nat → va_E} (u : Nat → Int32) (v : Nat → Nat) (hm : oM g N ad F u v)  : CtI l yX8_fault cX8_fault 1 (some .int) 0 0 g N ad F [.ref (ad 254)] (fun r F' => r = (faultM u) ∧ F' = F) := by
  refine CtI_of (by decide) (Nat.le_of_ble_eq_true rfl) ?_
  intro p e s m args below meth c A H ls X M h hl
  have kx := X.1.1
  have kb := X.1.2.1
  have hl : lv_has ls 1 [(0, .ref (ad 254))] := hl
  have hN0 := hm.1
  refine lv_aload_n kx kb dX8_fault_0 rfl (lv_at hl 0 rfl) ?_
  refine w_get X M h 254 hm.2 (by omega) fl_X8_55 rfl dX8_fault_1 ?_
  refine lv_if_ge (tgt := 12) kx kb dX8_fault_4 (by decide) (fun c_1 => ?_) (fun c_1 => ?_)
  · refine lv_aload_n kx kb dX8_fault_12 rfl (lv_at hl 0 rfl) ?_
    refine w_get X M h 254 hm.2 (by omega) fl_X8_55 rfl dX8_fault_13 ?_
    exact w_iret X h ⟨by rw [faultM, if_neg (Int32.not_lt.mpr c_1)], rfl⟩ dX8_fault_16
  · refine lv_bipush (v := (-3)) kx kb dX8_fault_7 (by decide) ?_
    refine lv_goto (tgt := 16) kx kb dX8_fault_9 (by decide) ?_
    exact w_iret X h ⟨by rw [faultM, if_pos (Int32.not_le.mp c_1)], rfl⟩ dX8_fault_16
set_option maxRecDepth 20000 in
theorem c_X8_written (l : Launch) (g : gT) {N : Nat} {ad : Nat → Nat} {F : Nat → va_E} (u : Nat → Int32) (v : Nat → Nat) (hm : oM g N ad F u v) (la : Nat → Int32) (hL : arC g F 260 60 la) (h60 : v 2 ≤ 60) (a : Int32) : CtI l yX8_written cX8_written 2 (some .int) 1 22 g N ad F [.ref (ad 254), .int a] (fun r F' => r = (sgAt (v 2) la a) ∧ F' = F) := by
  refine CtI_of (by decide) (Nat.le_of_ble_eq_true rfl) ?_
  intro p e s m args below meth c A H ls X M h hl
  have kx := X.1.1
  have kb := X.1.2.1
  have hl : lv_has ls 2 [(0, .ref (ad 254)), (1, .int a)] := hl
  have hN0 := hm.1
  refine lv_iload_n kx kb dX8_written_0 rfl (lv_at hl 1 rfl) ?_
  refine lv_iconst (v := nI 0) kx kb dX8_written_1 (by decide) ?_
  refine lv_aload_n kx kb dX8_written_2 rfl (lv_at hl 0 rfl) ?_
  refine w_get X M h 254 hm.2 (by omega) fl_X8_221 rfl dX8_written_3 ?_
  refine lv_iconst (v := nI 1) kx kb dX8_written_6 (by decide) ?_
  refine lv_isub kx kb dX8_written_7 ?_
  refine w_readSi X M h [.int a, .int (nI 0), .int ((nI (v 2)) - (nI 1))] [] ((c_X8_isBetween l g a (nI 0) ((nI (v 2)) - (nI 1)))) lk_X8_19 rfl ⟨by decide, by decide⟩ hl ⟨Nat.zero_le _, Nat.zero_le _⟩ (Nat.le_of_ble_eq_true rfl) rfl dX8_written_8 (fun H locs h => ?_)
  refine w_if_eqb (tgt := 23) kx kb dX8_written_11 (by decide) (fun c_1 => ?_) (fun c_1 => ?_)
  · refine lv_iconst (v := (-1)) kx kb dX8_written_23 (by decide) ?_
    exact w_iret X h ⟨by by_cases hc : inW a (nI 0) (nI (v 2) - nI 1); exact absurd hc c_1; rw [sgAt]; by_cases h0 : a < 0; rw [if_pos h0]; rw [if_neg h0]; by_cases h1 : nI (v 2) ≤ a; rw [if_pos h1]; exact absurd ((inW_has (by omega) a).mpr ⟨h0, h1⟩) hc, rfl⟩ dX8_written_24
  · obtain ⟨k, hk, rfl⟩ := inW_pl (by omega) c_1
    refine lv_aload_n kx kb dX8_written_14 rfl (lv_at hl 0 rfl) ?_
    refine w_get X M h 254 hm.2 (by omega) fl_X8_48 rfl dX8_written_15 ?_
    refine lv_iload_n kx kb dX8_written_18 rfl (lv_at hl 1 rfl) ?_
    refine w_cald X M h 260 hL (by omega) (k) (rfl) (by omega) (by omega) dX8_written_19 ?_
    refine lv_goto (tgt := 24) kx kb dX8_written_20 (by decide) ?_
    exact w_iret X h ⟨by rw [sgAt_n (by omega) (by omega), if_pos hk], rfl⟩ dX8_written_24
