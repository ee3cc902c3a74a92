theorem uNot_n {u : Nat → Int32} {t : NT} (h : t.1 ≠ -5) : uNot u t = u := by rw [uNot, if_neg h]
set_option maxRecDepth 20000 in
theorem c_X8_notJoke (l : Launch) (g : gT) {N : Nat} {ad : Nat → Nat} {F : Nat → va_E} (u : Nat → Int32) (v : Nat → Nat) (hm : oM g N ad F u v) (x : SX) (hI : Inv x) (W : Nat → Int32) (hW : arI g F 255 274 W) (hR : RW x W) (wl dp sg wt : Int32) : CtI l yX8_notJoke cX8_notJoke 5 (some .int) 2 45 g N ad F [.ref (ad 254), .int wl, .int dp, .int sg, .int wt] (fun r F' => r = (notJokeF x wl dp sg wt).1 ∧ oM g N ad F' (uNot u (notJokeF x wl dp sg wt)) v ∧ ∀ i, i ≠ 254 → F' i = F i) := by
  refine CtI_of (by decide) (Nat.le_of_ble_eq_true rfl) ?_
  intro p e s m args below meth c A H ls X M h hl
  have kx := X.1.1
  have kb := X.1.2.1
  have hl : lv_has ls 5 [(0, .ref (ad 254)), (1, .int wl), (2, .int dp), (3, .int sg), (4, .int wt)] := hl
  have hN0 := hm.1
  have hn12 := hI.n
  have htn64 := hI.tn
  obtain ⟨hz0, hz1a, hz1, hz2, hz3, hz4⟩ := hI.zz
  have hcn := cnt_le (cwP x.2.1 wl (nI 30)) x.1
  refine lv_iload_n kx kb dX8_notJoke_0 rfl (lv_at hl 1 rfl) ?_
  refine w_readSi X M h [.int wl] [] ((c_X8_isWell l g wl)) lk_X8_81 rfl ⟨by decide, by decide⟩ hl ⟨Nat.zero_le _, Nat.zero_le _⟩ (Nat.le_of_ble_eq_true rfl) rfl dX8_notJoke_1 (fun H locs h => ?_)
  refine w_if_neb (tgt := 9) kx kb dX8_notJoke_4 (by decide) (fun c_1 => ?_) (fun c_1 => ?_)
  · obtain ⟨kw, hw0, hw1, rfl⟩ := inW_of (by decide) (by decide) c_1
    refine lv_iload_n kx kb dX8_notJoke_9 rfl (lv_at hl 2 rfl) ?_
    refine lv_iconst (v := nI 1) kx kb dX8_notJoke_10 (by decide) ?_
    refine lv_bipush (v := nI 30) kx kb dX8_notJoke_11 (by decide) ?_
    refine w_readSi X M h [.int dp, .int (nI 1), .int (nI 30)] [] ((c_X8_isBetween l g dp (nI 1) (nI 30))) lk_X8_19 rfl ⟨by decide, by decide⟩ hl ⟨Nat.zero_le _, Nat.zero_le _⟩ (Nat.le_of_ble_eq_true rfl) rfl dX8_notJoke_13 (fun H locs h => ?_)
    refine w_if_eqb (tgt := 40) kx kb dX8_notJoke_16 (by decide) (fun c_2 => ?_) (fun c_2 => ?_)
    · refine lv_bipush (v := (-2)) kx kb dX8_notJoke_40 (by decide) ?_
      exact w_iret X h (by rw [show notJokeF x (nI kw) dp sg wt = _ from by rw [notJokeF, if_pos c_1, if_neg c_2], uNot_n (by decide)]; exact ⟨rfl, ⟨by omega, hm.2⟩, fun i hi => rfl⟩) dX8_notJoke_42
    · refine lv_iload_n kx kb dX8_notJoke_19 rfl (lv_at hl 3 rfl) ?_
      refine lv_iconst (v := nI 0) kx kb dX8_notJoke_20 (by decide) ?_
      refine lv_bipush (v := nI 63) kx kb dX8_notJoke_21 (by decide) ?_
      refine w_readSi X M h [.int sg, .int (nI 0), .int (nI 63)] [] ((c_X8_isBetween l g sg (nI 0) (nI 63))) lk_X8_19 rfl ⟨by decide, by decide⟩ hl ⟨Nat.zero_le _, Nat.zero_le _⟩ (Nat.le_of_ble_eq_true rfl) rfl dX8_notJoke_23 (fun H locs h => ?_)
      refine w_if_eqb (tgt := 40) kx kb dX8_notJoke_26 (by decide) (fun c_3 => ?_) (fun c_3 => ?_)
      · refine lv_bipush (v := (-2)) kx kb dX8_notJoke_40 (by decide) ?_
        exact w_iret X h (by rw [show notJokeF x (nI kw) dp sg wt = _ from by rw [notJokeF, if_pos c_1, if_pos c_2, if_neg c_3], uNot_n (by decide)]; exact ⟨rfl, ⟨by omega, hm.2⟩, fun i hi => rfl⟩) dX8_notJoke_42
      · obtain ⟨ks, hs0, hs1, rfl⟩ := inW_of (by decide) (by decide) c_3
        refine lv_iload kx kb dX8_notJoke_29 (lv_at hl 4 rfl) ?_
        refine lv_iconst (v := nI 1) kx kb dX8_notJoke_31 (by decide) ?_
        refine lv_bipush (v := nI 9) kx kb dX8_notJoke_32 (by decide) ?_
        refine w_readSi X M h [.int wt, .int (nI 1), .int (nI 9)] [] ((c_X8_isBetween l g wt (nI 1) (nI 9))) lk_X8_19 rfl ⟨by decide, by decide⟩ hl ⟨Nat.zero_le _, Nat.zero_le _⟩ (Nat.le_of_ble_eq_true rfl) rfl dX8_notJoke_34 (fun H locs h => ?_)
        refine w_if_neb (tgt := 43) kx kb dX8_notJoke_37 (by decide) (fun c_4 => ?_) (fun c_4 => ?_)
        · refine lv_aload_n kx kb dX8_notJoke_43 rfl (lv_at hl 0 rfl) ?_
          refine lv_iload_n kx kb dX8_notJoke_44 rfl (lv_at hl 3 rfl) ?_
          refine w_readVi X M h [.int (nI ks)] [] ((c_X8_isKnownSign l g u v ⟨by omega, hm.2⟩ x hI W hW hR ks (by omega))) lk_X8_85 hm.2 (by omega) rfl rfl ⟨by decide, by decide⟩ hl ⟨Nat.zero_le _, Nat.zero_le _⟩ (Nat.le_of_ble_eq_true rfl) rfl dX8_notJoke_45 (fun H locs h => ?_)
          refine w_if_eqb (tgt := 58) kx kb dX8_notJoke_48 (by decide) (fun c_5 => ?_) (fun c_5 => ?_)
          · have d_6 : x.2.2.2.2.1 2 ks = 0 := (hI.kn0 (by omega)).resolve_right c_5
            refine lv_aload_n kx kb dX8_notJoke_58 rfl (lv_at hl 0 rfl) ?_
            refine lv_iload_n kx kb dX8_notJoke_59 rfl (lv_at hl 3 rfl) ?_
            refine w_readVi X M h [.int (nI ks)] [] ((c_X8_jokeWith l g u v ⟨by omega, hm.2⟩ x hI W hW hR (nI ks))) lk_X8_91 hm.2 (by omega) rfl rfl ⟨by decide, by decide⟩ hl ⟨Nat.zero_le _, Nat.zero_le _⟩ (Nat.le_of_ble_eq_true rfl) rfl dX8_notJoke_60 (fun H locs h => ?_)
            refine lv_if_lt (tgt := 77) kx kb dX8_notJoke_63 (by decide) (fun c_7 => ?_) (fun c_7 => ?_)
            · have d_8 : ixO (fun k => decide (x.2.1 2 k = nI ks)) x.1 = -1 := (ixO_neg (by omega)).mpr (Int32.not_le.mpr c_7)
              refine lv_aload_n kx kb dX8_notJoke_77 rfl (lv_at hl 0 rfl) ?_
              refine lv_iload_n kx kb dX8_notJoke_78 rfl (lv_at hl 1 rfl) ?_
              refine lv_iload_n kx kb dX8_notJoke_79 rfl (lv_at hl 2 rfl) ?_
              refine w_readVi X M h [.int (nI kw), .int dp] [] ((c_X8_jokeAt l g u v ⟨by omega, hm.2⟩ x hI W hW hR (nI kw) dp)) lk_X8_94 hm.2 (by omega) rfl rfl ⟨by decide, by decide⟩ hl ⟨Nat.zero_le _, Nat.zero_le _⟩ (Nat.le_of_ble_eq_true rfl) rfl dX8_notJoke_80 (fun H locs h => ?_)
              refine lv_if_lt (tgt := 98) kx kb dX8_notJoke_83 (by decide) (fun c_9 => ?_) (fun c_9 => ?_)
              · have d_10 : ixO (fun k => decide (x.2.1 0 k = nI kw ∧ x.2.1 1 k = dp)) x.1 = -1 := (ixO_neg (by omega)).mpr (Int32.not_le.mpr c_9)
                refine lv_aload_n kx kb dX8_notJoke_98 rfl (lv_at hl 0 rfl) ?_
                refine w_get X M h 254 hm.2 (by omega) fl_X8_32 rfl dX8_notJoke_99 ?_
                refine lv_iconst (v := nI 0) kx kb dX8_notJoke_102 (by decide) ?_
                refine w_iald X M h 255 hW (by omega) (0) (rfl) (by omega) (by omega) dX8_notJoke_103 ?_
                refine w_top (y := nI x.1) (hR.n) ?_
                refine lv_bipush (v := nI 12) kx kb dX8_notJoke_104 (by decide) ?_
                refine w_cmp_ne (tgt := 117) kx kb (by omega) (by omega) dX8_notJoke_106 (by decide) (fun c_11 => ?_) (fun c_11 => ?_)
                · have d_12 : x.1 < 12 := by omega
                  refine lv_aload_n kx kb dX8_notJoke_117 rfl (lv_at hl 0 rfl) ?_
                  refine lv_iload_n kx kb dX8_notJoke_118 rfl (lv_at hl 1 rfl) ?_
                  refine w_readVi X M h [.int (nI kw)] [] ((c_X8_jokesIn l g u v ⟨by omega, hm.2⟩ x hI W hW hR (nI kw))) lk_X8_97 hm.2 (by omega) rfl rfl ⟨by decide, by decide⟩ hl ⟨Nat.zero_le _, Nat.zero_le _⟩ (Nat.le_of_ble_eq_true rfl) rfl dX8_notJoke_119 (fun H locs h => ?_)
                  refine lv_bipush (v := nI 6) kx kb dX8_notJoke_122 (by decide) ?_
                  refine w_cmp_ne (tgt := 137) kx kb (by omega) (by omega) dX8_notJoke_124 (by decide) (fun c_13 => ?_) (fun c_13 => ?_)
                  · have h6 := hI.w6 kw (by omega)
                    have d_14 : cnt (cwP x.2.1 (nI kw) (nI 30)) x.1 < 6 := by omega
                    refine lv_iconst (v := nI 0) kx kb dX8_notJoke_137 (by decide) ?_
                    exact w_iret X h (by rw [show notJokeF x (nI kw) dp (nI ks) wt = _ from by rw [notJokeF, if_pos c_1, if_pos c_2, if_pos c_3, cl_n (show ks < 2147483648 by omega), if_pos c_4, if_pos d_6, if_pos d_8, if_pos d_10, if_pos d_12, if_pos d_14], uNot_n (by decide)]; exact ⟨rfl, ⟨by omega, hm.2⟩, fun i hi => rfl⟩) dX8_notJoke_138
                  · have d_15 : ¬ cnt (cwP x.2.1 (nI kw) (nI 30)) x.1 < 6 := by omega
                    refine lv_aload_n kx kb dX8_notJoke_127 rfl (lv_at hl 0 rfl) ?_
                    refine lv_iconst (v := nI 1) kx kb dX8_notJoke_128 (by decide) ?_
                    refine lv_bipush (v := nI 6) kx kb dX8_notJoke_129 (by decide) ?_
                    refine w_callVi X M h [.int (nI 1), .int (nI 6)] [] ((c_X8_isNot l g u v ⟨by omega, hm.2⟩ (nI 1) (nI 6))) lk_X8_88 hm.2 (by omega) rfl rfl ⟨by decide, by decide⟩ hl ⟨Nat.zero_le _, Nat.zero_le _⟩ (Nat.le_of_ble_eq_true rfl) rfl dX8_notJoke_131 (fun r_F16 F16 H locs hp_F16 h => ?_)
                    refine w_top (y := (-5)) hp_F16.1 ?_
                    refine lv_goto (tgt := 138) kx kb dX8_notJoke_134 (by decide) ?_
                    exact w_iret X h (by rw [show notJokeF x (nI kw) dp (nI ks) wt = ntF (nI 1) (nI 6) from by rw [notJokeF, if_pos c_1, if_pos c_2, if_pos c_3, cl_n (show ks < 2147483648 by omega), if_pos c_4, if_pos d_6, if_pos d_8, if_pos d_10, if_pos d_12, if_neg d_15]; exact congrArg (fun t => ntF (nI 1) (nI t)) (by omega)]; exact ⟨rfl, ⟨by omega, hp_F16.2.1.2⟩, (fun i hi => hp_F16.2.2 i (by omega))⟩) dX8_notJoke_138
                · have d_17 : ¬ x.1 < 12 := by omega
                  refine lv_aload_n kx kb dX8_notJoke_109 rfl (lv_at hl 0 rfl) ?_
                  refine lv_iconst (v := nI 1) kx kb dX8_notJoke_110 (by decide) ?_
                  refine lv_bipush (v := nI 12) kx kb dX8_notJoke_111 (by decide) ?_
                  refine w_callVi X M h [.int (nI 1), .int (nI 12)] [] ((c_X8_isNot l g u v ⟨by omega, hm.2⟩ (nI 1) (nI 12))) lk_X8_88 hm.2 (by omega) rfl rfl ⟨by decide, by decide⟩ hl ⟨Nat.zero_le _, Nat.zero_le _⟩ (Nat.le_of_ble_eq_true rfl) rfl dX8_notJoke_113 (fun r_F18 F18 H locs hp_F18 h => ?_)
                  refine w_top (y := (-5)) hp_F18.1 ?_
                  exact w_iret X h (by rw [show notJokeF x (nI kw) dp (nI ks) wt = ntF (nI 1) (nI 12) from by rw [notJokeF, if_pos c_1, if_pos c_2, if_pos c_3, cl_n (show ks < 2147483648 by omega), if_pos c_4, if_pos d_6, if_pos d_8, if_pos d_10, if_neg d_17]; exact congrArg (fun t => ntF (nI 1) (nI t)) (by omega)]; exact ⟨rfl, ⟨by omega, hp_F18.2.1.2⟩, (fun i hi => hp_F18.2.2 i (by omega))⟩) dX8_notJoke_116
              · have d_19 : ¬ ixO (fun k => decide (x.2.1 0 k = nI kw ∧ x.2.1 1 k = dp)) x.1 = -1 := fun e => (ixO_neg (by omega)).mp e (Int32.not_lt.mp c_9)
                refine lv_aload_n kx kb dX8_notJoke_86 rfl (lv_at hl 0 rfl) ?_
                refine lv_iconst (v := nI 2) kx kb dX8_notJoke_87 (by decide) ?_
                refine lv_aload_n kx kb dX8_notJoke_88 rfl (lv_at hl 0 rfl) ?_
                refine lv_iload_n kx kb dX8_notJoke_89 rfl (lv_at hl 1 rfl) ?_
                refine lv_iload_n kx kb dX8_notJoke_90 rfl (lv_at hl 2 rfl) ?_
                refine w_readVi X M h [.int (nI kw), .int dp] [.int (nI 2), .ref (ad 254)] ((c_X8_jokeAt l g u v ⟨by omega, hm.2⟩ x hI W hW hR (nI kw) dp)) lk_X8_94 hm.2 (by omega) rfl rfl ⟨by decide, by decide⟩ hl ⟨Nat.zero_le _, Nat.zero_le _⟩ (Nat.le_of_ble_eq_true rfl) rfl dX8_notJoke_91 (fun H locs h => ?_)
                refine w_callVi X M h [.int (nI 2), .int (ixO (fun k => decide (x.2.1 0 k = nI kw ∧ x.2.1 1 k = dp)) x.1)] [] ((c_X8_isNot l g u v ⟨by omega, hm.2⟩ (nI 2) (ixO (fun k => decide (x.2.1 0 k = nI kw ∧ x.2.1 1 k = dp)) x.1))) lk_X8_88 hm.2 (by omega) rfl rfl ⟨by decide, by decide⟩ hl ⟨Nat.zero_le _, Nat.zero_le _⟩ (Nat.le_of_ble_eq_true rfl) rfl dX8_notJoke_94 (fun r_F20 F20 H locs hp_F20 h => ?_)
                refine w_top (y := (-5)) hp_F20.1 ?_
                exact w_iret X h (by rw [show notJokeF x (nI kw) dp (nI ks) wt = _ from by rw [notJokeF, if_pos c_1, if_pos c_2, if_pos c_3, cl_n (show ks < 2147483648 by omega), if_pos c_4, if_pos d_6, if_pos d_8, if_neg d_19]]; exact ⟨rfl, ⟨by omega, hp_F20.2.1.2⟩, (fun i hi => hp_F20.2.2 i (by omega))⟩) dX8_notJoke_97
            · have d_21 : ¬ ixO (fun k => decide (x.2.1 2 k = nI ks)) x.1 = -1 := fun e => (ixO_neg (by omega)).mp e (Int32.not_lt.mp c_7)
              refine lv_aload_n kx kb dX8_notJoke_66 rfl (lv_at hl 0 rfl) ?_
              refine lv_iconst (v := nI 4) kx kb dX8_notJoke_67 (by decide) ?_
              refine lv_aload_n kx kb dX8_notJoke_68 rfl (lv_at hl 0 rfl) ?_
              refine lv_iload_n kx kb dX8_notJoke_69 rfl (lv_at hl 3 rfl) ?_
              refine w_readVi X M h [.int (nI ks)] [.int (nI 4), .ref (ad 254)] ((c_X8_jokeWith l g u v ⟨by omega, hm.2⟩ x hI W hW hR (nI ks))) lk_X8_91 hm.2 (by omega) rfl rfl ⟨by decide, by decide⟩ hl ⟨Nat.zero_le _, Nat.zero_le _⟩ (Nat.le_of_ble_eq_true rfl) rfl dX8_notJoke_70 (fun H locs h => ?_)
              refine w_callVi X M h [.int (nI 4), .int (ixO (fun k => decide (x.2.1 2 k = nI ks)) x.1)] [] ((c_X8_isNot l g u v ⟨by omega, hm.2⟩ (nI 4) (ixO (fun k => decide (x.2.1 2 k = nI ks)) x.1))) lk_X8_88 hm.2 (by omega) rfl rfl ⟨by decide, by decide⟩ hl ⟨Nat.zero_le _, Nat.zero_le _⟩ (Nat.le_of_ble_eq_true rfl) rfl dX8_notJoke_73 (fun r_F22 F22 H locs hp_F22 h => ?_)
              refine w_top (y := (-5)) hp_F22.1 ?_
              exact w_iret X h (by rw [show notJokeF x (nI kw) dp (nI ks) wt = _ from by rw [notJokeF, if_pos c_1, if_pos c_2, if_pos c_3, cl_n (show ks < 2147483648 by omega), if_pos c_4, if_pos d_6, if_neg d_21]]; exact ⟨rfl, ⟨by omega, hp_F22.2.1.2⟩, (fun i hi => hp_F22.2.2 i (by omega))⟩) dX8_notJoke_76
          · have d_23 : ¬ x.2.2.2.2.1 2 ks = 0 := by rw [c_5]; decide
            refine lv_aload_n kx kb dX8_notJoke_51 rfl (lv_at hl 0 rfl) ?_
            refine lv_iconst (v := nI 3) kx kb dX8_notJoke_52 (by decide) ?_
            refine lv_iload_n kx kb dX8_notJoke_53 rfl (lv_at hl 3 rfl) ?_
            refine w_callVi X M h [.int (nI 3), .int (nI ks)] [] ((c_X8_isNot l g u v ⟨by omega, hm.2⟩ (nI 3) (nI ks))) lk_X8_88 hm.2 (by omega) rfl rfl ⟨by decide, by decide⟩ hl ⟨Nat.zero_le _, Nat.zero_le _⟩ (Nat.le_of_ble_eq_true rfl) rfl dX8_notJoke_54 (fun r_F24 F24 H locs hp_F24 h => ?_)
            refine w_top (y := (-5)) hp_F24.1 ?_
            exact w_iret X h (by rw [show notJokeF x (nI kw) dp (nI ks) wt = _ from by rw [notJokeF, if_pos c_1, if_pos c_2, if_pos c_3, cl_n (show ks < 2147483648 by omega), if_pos c_4, if_neg d_23]]; exact ⟨rfl, ⟨by omega, hp_F24.2.1.2⟩, (fun i hi => hp_F24.2.2 i (by omega))⟩) dX8_notJoke_57
        · refine lv_bipush (v := (-2)) kx kb dX8_notJoke_40 (by decide) ?_
          exact w_iret X h (by rw [show notJokeF x (nI kw) dp (nI ks) wt = _ from by rw [notJokeF, if_pos c_1, if_pos c_2, if_pos c_3, cl_n (show ks < 2147483648 by omega), if_neg c_4], uNot_n (by decide)]; exact ⟨rfl, ⟨by omega, hm.2⟩, fun i hi => rfl⟩) dX8_notJoke_42
  · refine lv_iconst (v := (-1)) kx kb dX8_notJoke_7 (by decide) ?_
    exact w_iret X h (by rw [show notJokeF x wl dp sg wt = _ from by rw [notJokeF, if_neg c_1], uNot_n (by decide)]; exact ⟨rfl, ⟨by omega, hm.2⟩, fun i hi => rfl⟩) dX8_notJoke_8
set_option maxRecDepth 20000 in
theorem c_X8_notPrime (l : Launch) (g : gT) {N : Nat} {ad : Nat → Nat} {F : Nat → va_E} (u : Nat → Int32) (v : Nat → Nat) (hm : oM g N ad F u v) (x : SX) (hI : Inv x) (W : Nat → Int32) (hW : arI g F 255 274 W) (hR : RW x W) (a : Int32) : CtI l yX8_notPrime cX8_notPrime 2 (some .int) 2 43 g N ad F [.ref (ad 254), .int a] (fun r F' => r = (notPrimeF x a).1 ∧ oM g N ad F' (uNot u (notPrimeF x a)) v ∧ ∀ i, i ≠ 254 → F' i = F i) := by
  refine CtI_of (by decide) (Nat.le_of_ble_eq_true rfl) ?_
  intro p e s m args below meth c A H ls X M h hl
  have kx := X.1.1
  have kb := X.1.2.1
  have hl : lv_has ls 2 [(0, .ref (ad 254)), (1, .int a)] := hl
  have hN0 := hm.1
  have hn12 := hI.n
  have htn64 := hI.tn
  obtain ⟨hz0, hz1a, hz1, hz2, hz3, hz4⟩ := hI.zz
  refine lv_aload_n kx kb dX8_notPrime_0 rfl (lv_at hl 0 rfl) ?_
  refine lv_iload_n kx kb dX8_notPrime_1 rfl (lv_at hl 1 rfl) ?_
  refine w_readVi X M h [.int a] [] ((c_X8_isJoke l g u v ⟨by omega, hm.2⟩ x hI W hW hR a)) lk_X8_113 hm.2 (by omega) rfl rfl ⟨by decide, by decide⟩ hl ⟨Nat.zero_le _, Nat.zero_le _⟩ (Nat.le_of_ble_eq_true rfl) rfl dX8_notPrime_2 (fun H locs h => ?_)
  refine w_if_neb (tgt := 10) kx kb dX8_notPrime_5 (by decide) (fun c_1 => ?_) (fun c_1 => ?_)
  · obtain ⟨k, hk, rfl⟩ := hasJ_of (by omega) c_1
    refine lv_aload_n kx kb dX8_notPrime_10 rfl (lv_at hl 0 rfl) ?_
    refine lv_iload_n kx kb dX8_notPrime_11 rfl (lv_at hl 1 rfl) ?_
    refine lv_iconst (v := nI 4) kx kb dX8_notPrime_12 (by decide) ?_
    refine w_readVi X M h [.int (nI k), .int (nI 4)] [] ((c_X8_is l g u v ⟨by omega, hm.2⟩ x hI W hW hR k 4 (by omega) (by omega))) lk_X8_73 hm.2 (by omega) rfl rfl ⟨by decide, by decide⟩ hl ⟨Nat.zero_le _, Nat.zero_le _⟩ (Nat.le_of_ble_eq_true rfl) rfl dX8_notPrime_13 (fun H locs h => ?_)
    refine lv_iconst (v := nI 1) kx kb dX8_notPrime_16 (by decide) ?_
    refine lv_icmp_ne (tgt := 27) kx kb dX8_notPrime_17 (by decide) (fun c_2 => ?_) (fun c_2 => ?_)
    · have d_3 : x.2.1 4 k = 0 := (hI.pr hk).resolve_right c_2
      refine lv_aload_n kx kb dX8_notPrime_27 rfl (lv_at hl 0 rfl) ?_
      refine w_get X M h 254 hm.2 (by omega) fl_X8_32 rfl dX8_notPrime_28 ?_
      refine lv_iconst (v := nI 5) kx kb dX8_notPrime_31 (by decide) ?_
      refine w_iald X M h 255 hW (by omega) (5) (rfl) (by omega) (by omega) dX8_notPrime_32 ?_
      refine w_top (y := nI (x.2.2.2.2.2.2.2 4)) (hR.z 4 (by omega)) ?_
      refine w_if_ne (tgt := 51) kx kb (by omega) dX8_notPrime_33 (by decide) (fun c_4 => ?_) (fun c_4 => ?_)
      · have d_5 : 0 < x.2.2.2.2.2.2.2 4 := by omega
        refine lv_iconst (v := nI 0) kx kb dX8_notPrime_51 (by decide) ?_
        exact w_iret X h (by rw [show notPrimeF x (nI k) = _ from by rw [notPrimeF, if_pos c_1, cl_n (show k < 2147483648 by omega), if_pos d_3, if_pos d_5], uNot_n (by decide)]; exact ⟨rfl, ⟨by omega, hm.2⟩, fun i hi => rfl⟩) dX8_notPrime_52
      · have d_6 : ¬ 0 < x.2.2.2.2.2.2.2 4 := by omega
        refine lv_aload_n kx kb dX8_notPrime_36 rfl (lv_at hl 0 rfl) ?_
        refine lv_bipush (v := nI 6) kx kb dX8_notPrime_37 (by decide) ?_
        refine lv_aload_n kx kb dX8_notPrime_39 rfl (lv_at hl 0 rfl) ?_
        refine w_get X M h 254 hm.2 (by omega) fl_X8_32 rfl dX8_notPrime_40 ?_
        refine lv_iconst (v := nI 4) kx kb dX8_notPrime_43 (by decide) ?_
        refine w_iald X M h 255 hW (by omega) (4) (rfl) (by omega) (by omega) dX8_notPrime_44 ?_
        refine w_top (y := nI (x.2.2.2.2.2.2.2 3)) (hR.z 3 (by omega)) ?_
        refine w_callVi X M h [.int (nI 6), .int (nI (x.2.2.2.2.2.2.2 3))] [] ((c_X8_isNot l g u v ⟨by omega, hm.2⟩ (nI 6) (nI (x.2.2.2.2.2.2.2 3)))) lk_X8_88 hm.2 (by omega) rfl rfl ⟨by decide, by decide⟩ hl ⟨Nat.zero_le _, Nat.zero_le _⟩ (Nat.le_of_ble_eq_true rfl) rfl dX8_notPrime_45 (fun r_F7 F7 H locs hp_F7 h => ?_)
        refine w_top (y := (-5)) hp_F7.1 ?_
        refine lv_goto (tgt := 52) kx kb dX8_notPrime_48 (by decide) ?_
        exact w_iret X h (by rw [show notPrimeF x (nI k) = _ from by rw [notPrimeF, if_pos c_1, cl_n (show k < 2147483648 by omega), if_pos d_3, if_neg d_6]]; exact ⟨rfl, ⟨by omega, hp_F7.2.1.2⟩, (fun i hi => hp_F7.2.2 i (by omega))⟩) dX8_notPrime_52
    · have d_8 : ¬ x.2.1 4 k = 0 := by rw [c_2]; decide
      refine lv_aload_n kx kb dX8_notPrime_20 rfl (lv_at hl 0 rfl) ?_
      refine lv_iconst (v := nI 5) kx kb dX8_notPrime_21 (by decide) ?_
      refine lv_iload_n kx kb dX8_notPrime_22 rfl (lv_at hl 1 rfl) ?_
      refine w_callVi X M h [.int (nI 5), .int (nI k)] [] ((c_X8_isNot l g u v ⟨by omega, hm.2⟩ (nI 5) (nI k))) lk_X8_88 hm.2 (by omega) rfl rfl ⟨by decide, by decide⟩ hl ⟨Nat.zero_le _, Nat.zero_le _⟩ (Nat.le_of_ble_eq_true rfl) rfl dX8_notPrime_23 (fun r_F9 F9 H locs hp_F9 h => ?_)
      refine w_top (y := (-5)) hp_F9.1 ?_
      exact w_iret X h (by rw [show notPrimeF x (nI k) = _ from by rw [notPrimeF, if_pos c_1, cl_n (show k < 2147483648 by omega), if_neg d_8]]; exact ⟨rfl, ⟨by omega, hp_F9.2.1.2⟩, (fun i hi => hp_F9.2.2 i (by omega))⟩) dX8_notPrime_26
  · refine lv_iconst (v := (-1)) kx kb dX8_notPrime_8 (by decide) ?_
    exact w_iret X h (by rw [show notPrimeF x a = _ from by rw [notPrimeF, if_neg c_1], uNot_n (by decide)]; exact ⟨rfl, ⟨by omega, hm.2⟩, fun i hi => rfl⟩) dX8_notPrime_9
set_option maxRecDepth 20000 in
theorem c_X8_notDrop (l : Launch) (g : gT) {N : Nat} {ad : Nat → Nat} {F : Nat → va_E} (u : Nat → Int32) (v : Nat → Nat) (hm : oM g N ad F u v) (x : SX) (hI : Inv x) (W : Nat → Int32) (hW : arI g F 255 274 W) (hR : RW x W) (a : Int32) : CtI l yX8_notDrop cX8_notDrop 2 (some .int) 2 43 g N ad F [.ref (ad 254), .int a] (fun r F' => r = (notDropF x a).1 ∧ oM g N ad F' (uNot u (notDropF x a)) v ∧ ∀ i, i ≠ 254 → F' i = F i) := by
  refine CtI_of (by decide) (Nat.le_of_ble_eq_true rfl) ?_
  intro p e s m args below meth c A H ls X M h hl
  have kx := X.1.1
  have kb := X.1.2.1
  have hl : lv_has ls 2 [(0, .ref (ad 254)), (1, .int a)] := hl
  have hN0 := hm.1
  have hn12 := hI.n
  have htn64 := hI.tn
  obtain ⟨hz0, hz1a, hz1, hz2, hz3, hz4⟩ := hI.zz
  refine lv_aload_n kx kb dX8_notDrop_0 rfl (lv_at hl 0 rfl) ?_
  refine lv_iload_n kx kb dX8_notDrop_1 rfl (lv_at hl 1 rfl) ?_
  refine w_readVi X M h [.int a] [] ((c_X8_isJoke l g u v ⟨by omega, hm.2⟩ x hI W hW hR a)) lk_X8_113 hm.2 (by omega) rfl rfl ⟨by decide, by decide⟩ hl ⟨Nat.zero_le _, Nat.zero_le _⟩ (Nat.le_of_ble_eq_true rfl) rfl dX8_notDrop_2 (fun H locs h => ?_)
  refine w_if_eqb (tgt := 12) kx kb dX8_notDrop_5 (by decide) (fun c_1 => ?_) (fun c_1 => ?_)
  · refine lv_iconst (v := (-1)) kx kb dX8_notDrop_12 (by decide) ?_
    exact w_iret X h (by rw [show notDropF x a = _ from by rw [notDropF, if_neg c_1], uNot_n (by decide)]; exact ⟨rfl, ⟨by omega, hm.2⟩, fun i hi => rfl⟩) dX8_notDrop_13
  · refine lv_iconst (v := nI 0) kx kb dX8_notDrop_8 (by decide) ?_
    refine lv_goto (tgt := 13) kx kb dX8_notDrop_9 (by decide) ?_
    exact w_iret X h (by rw [show notDropF x a = _ from by rw [notDropF, if_pos c_1], uNot_n (by decide)]; exact ⟨rfl, ⟨by omega, hm.2⟩, fun i hi => rfl⟩) dX8_notDrop_13
set_option maxRecDepth 20000 in
theorem c_X8_notDrain (l : Launch) (g : gT) {N : Nat} {ad : Nat → Nat} {F : Nat → va_E} (u : Nat → Int32) (v : Nat → Nat) (hm : oM g N ad F u v) (x : SX) (hI : Inv x) (W : Nat → Int32) (hW : arI g F 255 274 W) (hR : RW x W) (a : Int32) : CtI l yX8_notDrain cX8_notDrain 2 (some .int) 1 22 g N ad F [.ref (ad 254), .int a] (fun r F' => r = (notDrainF x a).1 ∧ oM g N ad F' (uNot u (notDrainF x a)) v ∧ ∀ i, i ≠ 254 → F' i = F i) := by
  refine CtI_of (by decide) (Nat.le_of_ble_eq_true rfl) ?_
  intro p e s m args below meth c A H ls X M h hl
  have kx := X.1.1
  have kb := X.1.2.1
  have hl : lv_has ls 2 [(0, .ref (ad 254)), (1, .int a)] := hl
  have hN0 := hm.1
  have hn12 := hI.n
  have htn64 := hI.tn
  obtain ⟨hz0, hz1a, hz1, hz2, hz3, hz4⟩ := hI.zz
  refine lv_iload_n kx kb dX8_notDrain_0 rfl (lv_at hl 1 rfl) ?_
  refine lv_iconst (v := nI 1) kx kb dX8_notDrain_1 (by decide) ?_
  refine lv_bipush (v := nI 50) kx kb dX8_notDrain_2 (by decide) ?_
  refine w_readSi X M h [.int a, .int (nI 1), .int (nI 50)] [] ((c_X8_isBetween l g a (nI 1) (nI 50))) lk_X8_19 rfl ⟨by decide, by decide⟩ hl ⟨Nat.zero_le _, Nat.zero_le _⟩ (Nat.le_of_ble_eq_true rfl) rfl dX8_notDrain_4 (fun H locs h => ?_)
  refine w_if_neb (tgt := 13) kx kb dX8_notDrain_7 (by decide) (fun c_1 => ?_) (fun c_1 => ?_)
  · obtain ⟨k, hk0, hk, rfl⟩ := inW_of (by decide) (by decide) c_1
    refine lv_aload_n kx kb dX8_notDrain_13 rfl (lv_at hl 0 rfl) ?_
    refine w_get X M h 254 hm.2 (by omega) fl_X8_32 rfl dX8_notDrain_14 ?_
    refine lv_iconst (v := nI 4) kx kb dX8_notDrain_17 (by decide) ?_
    refine w_iald X M h 255 hW (by omega) (4) (rfl) (by omega) (by omega) dX8_notDrain_18 ?_
    refine w_top (y := nI (x.2.2.2.2.2.2.2 3)) (hR.z 3 (by omega)) ?_
    refine lv_iload_n kx kb dX8_notDrain_19 rfl (lv_at hl 1 rfl) ?_
    refine w_cmp_ge (tgt := 38) kx kb (by omega) (by omega) dX8_notDrain_20 (by decide) (fun c_2 => ?_) (fun c_2 => ?_)
    · have d_3 : k ≤ x.2.2.2.2.2.2.2 3 := by omega
      refine lv_iconst (v := nI 0) kx kb dX8_notDrain_38 (by decide) ?_
      exact w_iret X h (by rw [show notDrainF x (nI k) = _ from by rw [notDrainF, if_pos c_1, cl_n (show k < 2147483648 by omega), if_pos d_3], uNot_n (by decide)]; exact ⟨rfl, ⟨by omega, hm.2⟩, fun i hi => rfl⟩) dX8_notDrain_39
    · have d_4 : ¬ k ≤ x.2.2.2.2.2.2.2 3 := by omega
      refine lv_aload_n kx kb dX8_notDrain_23 rfl (lv_at hl 0 rfl) ?_
      refine lv_bipush (v := nI 7) kx kb dX8_notDrain_24 (by decide) ?_
      refine lv_aload_n kx kb dX8_notDrain_26 rfl (lv_at hl 0 rfl) ?_
      refine w_get X M h 254 hm.2 (by omega) fl_X8_32 rfl dX8_notDrain_27 ?_
      refine lv_iconst (v := nI 4) kx kb dX8_notDrain_30 (by decide) ?_
      refine w_iald X M h 255 hW (by omega) (4) (rfl) (by omega) (by omega) dX8_notDrain_31 ?_
      refine w_top (y := nI (x.2.2.2.2.2.2.2 3)) (hR.z 3 (by omega)) ?_
      refine w_callVi X M h [.int (nI 7), .int (nI (x.2.2.2.2.2.2.2 3))] [] ((c_X8_isNot l g u v ⟨by omega, hm.2⟩ (nI 7) (nI (x.2.2.2.2.2.2.2 3)))) lk_X8_88 hm.2 (by omega) rfl rfl ⟨by decide, by decide⟩ hl ⟨Nat.zero_le _, Nat.zero_le _⟩ (Nat.le_of_ble_eq_true rfl) rfl dX8_notDrain_32 (fun r_F5 F5 H locs hp_F5 h => ?_)
      refine w_top (y := (-5)) hp_F5.1 ?_
      refine lv_goto (tgt := 39) kx kb dX8_notDrain_35 (by decide) ?_
      exact w_iret X h (by rw [show notDrainF x (nI k) = _ from by rw [notDrainF, if_pos c_1, cl_n (show k < 2147483648 by omega), if_neg d_4]]; exact ⟨rfl, ⟨by omega, hp_F5.2.1.2⟩, (fun i hi => hp_F5.2.2 i (by omega))⟩) dX8_notDrain_39
  · refine lv_bipush (v := (-2)) kx kb dX8_notDrain_10 (by decide) ?_
    exact w_iret X h (by rw [show notDrainF x a = _ from by rw [notDrainF, if_neg c_1], uNot_n (by decide)]; exact ⟨rfl, ⟨by omega, hm.2⟩, fun i hi => rfl⟩) dX8_notDrain_12
set_option maxRecDepth 20000 in
theorem c_X8_notStroke (l : Launch) (g : gT) {N : Nat} {ad : Nat → Nat} {F : Nat → va_E} (u : Nat → Int32) (v : Nat → Nat) (hm : oM g N ad F u v) (x : SX) (hI : Inv x) (W : Nat → Int32) (hW : arI g F 255 274 W) (hR : RW x W) (a : Int32) : CtI l yX8_notStroke cX8_notStroke 2 (some .int) 1 22 g N ad F [.ref (ad 254), .int a] (fun r F' => r = (notStrokeF x a).1 ∧ oM g N ad F' (uNot u (notStrokeF x a)) v ∧ ∀ i, i ≠ 254 → F' i = F i) := by
  refine CtI_of (by decide) (Nat.le_of_ble_eq_true rfl) ?_
  intro p e s m args below meth c A H ls X M h hl
  have kx := X.1.1
  have kb := X.1.2.1
  have hl : lv_has ls 2 [(0, .ref (ad 254)), (1, .int a)] := hl
  have hN0 := hm.1
  have hn12 := hI.n
  have htn64 := hI.tn
  obtain ⟨hz0, hz1a, hz1, hz2, hz3, hz4⟩ := hI.zz
  refine lv_iload_n kx kb dX8_notStroke_0 rfl (lv_at hl 1 rfl) ?_
  refine lv_iconst (v := nI 1) kx kb dX8_notStroke_1 (by decide) ?_
  refine lv_bipush (v := nI 10) kx kb dX8_notStroke_2 (by decide) ?_
  refine w_readSi X M h [.int a, .int (nI 1), .int (nI 10)] [] ((c_X8_isBetween l g a (nI 1) (nI 10))) lk_X8_19 rfl ⟨by decide, by decide⟩ hl ⟨Nat.zero_le _, Nat.zero_le _⟩ (Nat.le_of_ble_eq_true rfl) rfl dX8_notStroke_4 (fun H locs h => ?_)
  refine w_if_neb (tgt := 13) kx kb dX8_notStroke_7 (by decide) (fun c_1 => ?_) (fun c_1 => ?_)
  · obtain ⟨k, hk0, hk, rfl⟩ := inW_of (by decide) (by decide) c_1
    refine lv_aload_n kx kb dX8_notStroke_13 rfl (lv_at hl 0 rfl) ?_
    refine w_get X M h 254 hm.2 (by omega) fl_X8_32 rfl dX8_notStroke_14 ?_
    refine lv_iconst (v := nI 2) kx kb dX8_notStroke_17 (by decide) ?_
    refine w_iald X M h 255 hW (by omega) (2) (rfl) (by omega) (by omega) dX8_notStroke_18 ?_
    refine w_top (y := nI (x.2.2.2.2.2.2.2 1)) (hR.z 1 (by omega)) ?_
    refine lv_iload_n kx kb dX8_notStroke_19 rfl (lv_at hl 1 rfl) ?_
    refine w_cmp_ne (tgt := 32) kx kb (by omega) (by omega) dX8_notStroke_20 (by decide) (fun c_2 => ?_) (fun c_2 => ?_)
    · have d_3 : ¬ x.2.2.2.2.2.2.2 1 = k := by omega
      refine lv_iconst (v := nI 0) kx kb dX8_notStroke_32 (by decide) ?_
      exact w_iret X h (by rw [show notStrokeF x (nI k) = _ from by rw [notStrokeF, if_pos c_1, cl_n (show k < 2147483648 by omega), if_neg d_3], uNot_n (by decide)]; exact ⟨rfl, ⟨by omega, hm.2⟩, fun i hi => rfl⟩) dX8_notStroke_33
    · have d_4 : x.2.2.2.2.2.2.2 1 = k := by omega
      refine lv_aload_n kx kb dX8_notStroke_23 rfl (lv_at hl 0 rfl) ?_
      refine lv_iconst (v := nI 5) kx kb dX8_notStroke_24 (by decide) ?_
      refine lv_iload_n kx kb dX8_notStroke_25 rfl (lv_at hl 1 rfl) ?_
      refine w_callVi X M h [.int (nI 5), .int (nI k)] [] ((c_X8_isNot l g u v ⟨by omega, hm.2⟩ (nI 5) (nI k))) lk_X8_88 hm.2 (by omega) rfl rfl ⟨by decide, by decide⟩ hl ⟨Nat.zero_le _, Nat.zero_le _⟩ (Nat.le_of_ble_eq_true rfl) rfl dX8_notStroke_26 (fun r_F5 F5 H locs hp_F5 h => ?_)
      refine w_top (y := (-5)) hp_F5.1 ?_
      refine lv_goto (tgt := 33) kx kb dX8_notStroke_29 (by decide) ?_
      exact w_iret X h (by rw [show notStrokeF x (nI k) = _ from by rw [notStrokeF, if_pos c_1, cl_n (show k < 2147483648 by omega), if_pos d_4]]; exact ⟨rfl, ⟨by omega, hp_F5.2.1.2⟩, (fun i hi => hp_F5.2.2 i (by omega))⟩) dX8_notStroke_33
  · refine lv_bipush (v := (-2)) kx kb dX8_notStroke_10 (by decide) ?_
    exact w_iret X h (by rw [show notStrokeF x a = _ from by rw [notStrokeF, if_neg c_1], uNot_n (by decide)]; exact ⟨rfl, ⟨by omega, hm.2⟩, fun i hi => rfl⟩) dX8_notStroke_12
set_option maxRecDepth 20000 in
theorem c_X8_notBucket (l : Launch) (g : gT) {N : Nat} {ad : Nat → Nat} {F : Nat → va_E} (u : Nat → Int32) (v : Nat → Nat) (hm : oM g N ad F u v) (x : SX) (hI : Inv x) (W : Nat → Int32) (hW : arI g F 255 274 W) (hR : RW x W) (a b : Int32) : CtI l yX8_notBucket cX8_notBucket 3 (some .int) 2 42 g N ad F [.ref (ad 254), .int a, .int b] (fun r F' => r = (notBucketF x a b).1 ∧ oM g N ad F' (uNot u (notBucketF x a b)) v ∧ ∀ i, i ≠ 254 → F' i = F i) := by
  refine CtI_of (by decide) (Nat.le_of_ble_eq_true rfl) ?_
  intro p e s m args below meth c A H ls X M h hl
  have kx := X.1.1
  have kb := X.1.2.1
  have hl : lv_has ls 3 [(0, .ref (ad 254)), (1, .int a), (2, .int b)] := hl
  have hN0 := hm.1
  have hn12 := hI.n
  have htn64 := hI.tn
  obtain ⟨hz0, hz1a, hz1, hz2, hz3, hz4⟩ := hI.zz
  refine lv_iload_n kx kb dX8_notBucket_0 rfl (lv_at hl 1 rfl) ?_
  refine w_readSi X M h [.int a] [] ((c_X8_isWell l g a)) lk_X8_81 rfl ⟨by decide, by decide⟩ hl ⟨Nat.zero_le _, Nat.zero_le _⟩ (Nat.le_of_ble_eq_true rfl) rfl dX8_notBucket_1 (fun H locs h => ?_)
  refine w_if_neb (tgt := 9) kx kb dX8_notBucket_4 (by decide) (fun c_1 => ?_) (fun c_1 => ?_)
  · obtain ⟨k, hk0, hk, rfl⟩ := inW_of (by decide) (by decide) c_1
    have zbk := hI.bk k
    refine lv_iload_n kx kb dX8_notBucket_9 rfl (lv_at hl 2 rfl) ?_
    refine lv_iconst (v := nI 1) kx kb dX8_notBucket_10 (by decide) ?_
    refine lv_iconst (v := nI 5) kx kb dX8_notBucket_11 (by decide) ?_
    refine w_readSi X M h [.int b, .int (nI 1), .int (nI 5)] [] ((c_X8_isBetween l g b (nI 1) (nI 5))) lk_X8_19 rfl ⟨by decide, by decide⟩ hl ⟨Nat.zero_le _, Nat.zero_le _⟩ (Nat.le_of_ble_eq_true rfl) rfl dX8_notBucket_12 (fun H locs h => ?_)
    refine w_if_neb (tgt := 21) kx kb dX8_notBucket_15 (by decide) (fun c_2 => ?_) (fun c_2 => ?_)
    · obtain ⟨b2, hb0, hb2, rfl⟩ := inW_of (by decide) (by decide) c_2
      refine lv_aload_n kx kb dX8_notBucket_21 rfl (lv_at hl 0 rfl) ?_
      refine w_get X M h 254 hm.2 (by omega) fl_X8_32 rfl dX8_notBucket_22 ?_
      refine lv_bipush (v := nI 14) kx kb dX8_notBucket_25 (by decide) ?_
      refine lv_iload_n kx kb dX8_notBucket_27 rfl (lv_at hl 1 rfl) ?_
      refine w_addn kx kb dX8_notBucket_28 ?_
      refine w_iald X M h 255 hW (by omega) (14 + k) (rfl) (by omega) (by omega) dX8_notBucket_29 ?_
      refine w_top (y := nI (x.2.2.2.2.2.2.1 k)) (hR.b k (by omega)) ?_
      refine lv_iload_n kx kb dX8_notBucket_30 rfl (lv_at hl 2 rfl) ?_
      refine w_cmp_ne (tgt := 43) kx kb (by omega) (by omega) dX8_notBucket_31 (by decide) (fun c_3 => ?_) (fun c_3 => ?_)
      · have d_4 : ¬ x.2.2.2.2.2.2.1 k = b2 := by omega
        refine lv_iconst (v := nI 0) kx kb dX8_notBucket_43 (by decide) ?_
        exact w_iret X h (by rw [show notBucketF x (nI k) (nI b2) = _ from by rw [notBucketF, if_pos c_1, cl_n (show k < 2147483648 by omega), if_pos c_2, cl_n (show b2 < 2147483648 by omega), if_neg d_4], uNot_n (by decide)]; exact ⟨rfl, ⟨by omega, hm.2⟩, fun i hi => rfl⟩) dX8_notBucket_44
      · have d_5 : x.2.2.2.2.2.2.1 k = b2 := by omega
        refine lv_aload_n kx kb dX8_notBucket_34 rfl (lv_at hl 0 rfl) ?_
        refine lv_iconst (v := nI 5) kx kb dX8_notBucket_35 (by decide) ?_
        refine lv_iload_n kx kb dX8_notBucket_36 rfl (lv_at hl 1 rfl) ?_
        refine w_callVi X M h [.int (nI 5), .int (nI k)] [] ((c_X8_isNot l g u v ⟨by omega, hm.2⟩ (nI 5) (nI k))) lk_X8_88 hm.2 (by omega) rfl rfl ⟨by decide, by decide⟩ hl ⟨Nat.zero_le _, Nat.zero_le _⟩ (Nat.le_of_ble_eq_true rfl) rfl dX8_notBucket_37 (fun r_F6 F6 H locs hp_F6 h => ?_)
        refine w_top (y := (-5)) hp_F6.1 ?_
        refine lv_goto (tgt := 44) kx kb dX8_notBucket_40 (by decide) ?_
        exact w_iret X h (by rw [show notBucketF x (nI k) (nI b2) = _ from by rw [notBucketF, if_pos c_1, cl_n (show k < 2147483648 by omega), if_pos c_2, cl_n (show b2 < 2147483648 by omega), if_pos d_5]]; exact ⟨rfl, ⟨by omega, hp_F6.2.1.2⟩, (fun i hi => hp_F6.2.2 i (by omega))⟩) dX8_notBucket_44
    · refine lv_bipush (v := (-2)) kx kb dX8_notBucket_18 (by decide) ?_
      exact w_iret X h (by rw [show notBucketF x (nI k) b = _ from by rw [notBucketF, if_pos c_1, cl_n (show k < 2147483648 by omega), if_neg c_2], uNot_n (by decide)]; exact ⟨rfl, ⟨by omega, hm.2⟩, fun i hi => rfl⟩) dX8_notBucket_20
  · refine lv_iconst (v := (-1)) kx kb dX8_notBucket_7 (by decide) ?_
    exact w_iret X h (by rw [show notBucketF x a b = _ from by rw [notBucketF, if_neg c_1], uNot_n (by decide)]; exact ⟨rfl, ⟨by omega, hm.2⟩, fun i hi => rfl⟩) dX8_notBucket_8
set_option maxRecDepth 20000 in
theorem c_X8_notGo (l : Launch) (g : gT) {N : Nat} {ad : Nat → Nat} {F : Nat → va_E} (u : Nat → Int32) (v : Nat → Nat) (hm : oM g N ad F u v) (x : SX) (hI : Inv x) (W : Nat → Int32) (hW : arI g F 255 274 W) (hR : RW x W) (a : Int32) : CtI l yX8_notGo cX8_notGo 2 (some .int) 2 42 g N ad F [.ref (ad 254), .int a] (fun r F' => r = (notGoF x a).1 ∧ oM g N ad F' (uNot u (notGoF x a)) v ∧ ∀ i, i ≠ 254 → F' i = F i) := by
  refine CtI_of (by decide) (Nat.le_of_ble_eq_true rfl) ?_
  intro p e s m args below meth c A H ls X M h hl
  have kx := X.1.1
  have kb := X.1.2.1
  have hl : lv_has ls 2 [(0, .ref (ad 254)), (1, .int a)] := hl
  have hN0 := hm.1
  have hn12 := hI.n
  have htn64 := hI.tn
  obtain ⟨hz0, hz1a, hz1, hz2, hz3, hz4⟩ := hI.zz
  refine lv_iload_n kx kb dX8_notGo_0 rfl (lv_at hl 1 rfl) ?_
  refine w_readSi X M h [.int a] [] ((c_X8_isWell l g a)) lk_X8_81 rfl ⟨by decide, by decide⟩ hl ⟨Nat.zero_le _, Nat.zero_le _⟩ (Nat.le_of_ble_eq_true rfl) rfl dX8_notGo_1 (fun H locs h => ?_)
  refine w_if_neb (tgt := 9) kx kb dX8_notGo_4 (by decide) (fun c_1 => ?_) (fun c_1 => ?_)
  · obtain ⟨k, hk0, hk, rfl⟩ := inW_of (by decide) (by decide) c_1
    refine lv_aload_n kx kb dX8_notGo_9 rfl (lv_at hl 0 rfl) ?_
    refine w_get X M h 254 hm.2 (by omega) fl_X8_32 rfl dX8_notGo_10 ?_
    refine lv_iconst (v := nI 1) kx kb dX8_notGo_13 (by decide) ?_
    refine w_iald X M h 255 hW (by omega) (1) (rfl) (by omega) (by omega) dX8_notGo_14 ?_
    refine w_top (y := nI (x.2.2.2.2.2.2.2 0)) (hR.z 0 (by omega)) ?_
    refine lv_iload_n kx kb dX8_notGo_15 rfl (lv_at hl 1 rfl) ?_
    refine w_cmp_ne (tgt := 28) kx kb (by omega) (by omega) dX8_notGo_16 (by decide) (fun c_2 => ?_) (fun c_2 => ?_)
    · have d_3 : ¬ x.2.2.2.2.2.2.2 0 = k := by omega
      refine lv_iconst (v := nI 0) kx kb dX8_notGo_28 (by decide) ?_
      exact w_iret X h (by rw [show notGoF x (nI k) = _ from by rw [notGoF, if_pos c_1, cl_n (show k < 2147483648 by omega), if_neg d_3], uNot_n (by decide)]; exact ⟨rfl, ⟨by omega, hm.2⟩, fun i hi => rfl⟩) dX8_notGo_29
    · have d_4 : x.2.2.2.2.2.2.2 0 = k := by omega
      refine lv_aload_n kx kb dX8_notGo_19 rfl (lv_at hl 0 rfl) ?_
      refine lv_iconst (v := nI 5) kx kb dX8_notGo_20 (by decide) ?_
      refine lv_iload_n kx kb dX8_notGo_21 rfl (lv_at hl 1 rfl) ?_
      refine w_callVi X M h [.int (nI 5), .int (nI k)] [] ((c_X8_isNot l g u v ⟨by omega, hm.2⟩ (nI 5) (nI k))) lk_X8_88 hm.2 (by omega) rfl rfl ⟨by decide, by decide⟩ hl ⟨Nat.zero_le _, Nat.zero_le _⟩ (Nat.le_of_ble_eq_true rfl) rfl dX8_notGo_22 (fun r_F5 F5 H locs hp_F5 h => ?_)
      refine w_top (y := (-5)) hp_F5.1 ?_
      refine lv_goto (tgt := 29) kx kb dX8_notGo_25 (by decide) ?_
      exact w_iret X h (by rw [show notGoF x (nI k) = _ from by rw [notGoF, if_pos c_1, cl_n (show k < 2147483648 by omega), if_pos d_4]]; exact ⟨rfl, ⟨by omega, hp_F5.2.1.2⟩, (fun i hi => hp_F5.2.2 i (by omega))⟩) dX8_notGo_29
  · refine lv_iconst (v := (-1)) kx kb dX8_notGo_7 (by decide) ?_
    exact w_iret X h (by rw [show notGoF x a = _ from by rw [notGoF, if_neg c_1], uNot_n (by decide)]; exact ⟨rfl, ⟨by omega, hm.2⟩, fun i hi => rfl⟩) dX8_notGo_8
set_option maxRecDepth 20000 in
theorem c_X8_notPump (l : Launch) (g : gT) {N : Nat} {ad : Nat → Nat} {F : Nat → va_E} (u : Nat → Int32) (v : Nat → Nat) (hm : oM g N ad F u v) (x : SX) (hI : Inv x) (W : Nat → Int32) (hW : arI g F 255 274 W) (hR : RW x W) (a : Int32) : CtI l yX8_notPump cX8_notPump 2 (some .int) 1 22 g N ad F [.ref (ad 254), .int a] (fun r F' => r = (notPumpF x a).1 ∧ oM g N ad F' (uNot u (notPumpF x a)) v ∧ ∀ i, i ≠ 254 → F' i = F i) := by
  refine CtI_of (by decide) (Nat.le_of_ble_eq_true rfl) ?_
  intro p e s m args below meth c A H ls X M h hl
  have kx := X.1.1
  have kb := X.1.2.1
  have hl : lv_has ls 2 [(0, .ref (ad 254)), (1, .int a)] := hl
  have hN0 := hm.1
  have hn12 := hI.n
  have htn64 := hI.tn
  obtain ⟨hz0, hz1a, hz1, hz2, hz3, hz4⟩ := hI.zz
  refine lv_iload_n kx kb dX8_notPump_0 rfl (lv_at hl 1 rfl) ?_
  refine lv_iconst (v := nI 1) kx kb dX8_notPump_1 (by decide) ?_
  refine lv_bipush (v := nI 9) kx kb dX8_notPump_2 (by decide) ?_
  refine w_readSi X M h [.int a, .int (nI 1), .int (nI 9)] [] ((c_X8_isBetween l g a (nI 1) (nI 9))) lk_X8_19 rfl ⟨by decide, by decide⟩ hl ⟨Nat.zero_le _, Nat.zero_le _⟩ (Nat.le_of_ble_eq_true rfl) rfl dX8_notPump_4 (fun H locs h => ?_)
  refine w_if_neb (tgt := 13) kx kb dX8_notPump_7 (by decide) (fun c_1 => ?_) (fun c_1 => ?_)
  · obtain ⟨k, hk0, hk, rfl⟩ := inW_of (by decide) (by decide) c_1
    refine lv_aload_n kx kb dX8_notPump_13 rfl (lv_at hl 0 rfl) ?_
    refine w_get X M h 254 hm.2 (by omega) fl_X8_32 rfl dX8_notPump_14 ?_
    refine lv_iconst (v := nI 4) kx kb dX8_notPump_17 (by decide) ?_
    refine w_iald X M h 255 hW (by omega) (4) (rfl) (by omega) (by omega) dX8_notPump_18 ?_
    refine w_top (y := nI (x.2.2.2.2.2.2.2 3)) (hR.z 3 (by omega)) ?_
    refine lv_bipush (v := nI 40) kx kb dX8_notPump_19 (by decide) ?_
    refine w_cmp_le (tgt := 39) kx kb (by omega) (by omega) dX8_notPump_21 (by decide) (fun c_2 => ?_) (fun c_2 => ?_)
    · have d_3 : x.2.2.2.2.2.2.2 3 ≤ 40 := by omega
      refine lv_iconst (v := nI 0) kx kb dX8_notPump_39 (by decide) ?_
      exact w_iret X h (by rw [show notPumpF x (nI k) = _ from by rw [notPumpF, if_pos c_1, if_pos d_3], uNot_n (by decide)]; exact ⟨rfl, ⟨by omega, hm.2⟩, fun i hi => rfl⟩) dX8_notPump_40
    · have d_4 : ¬ x.2.2.2.2.2.2.2 3 ≤ 40 := by omega
      refine lv_aload_n kx kb dX8_notPump_24 rfl (lv_at hl 0 rfl) ?_
      refine lv_bipush (v := nI 8) kx kb dX8_notPump_25 (by decide) ?_
      refine lv_aload_n kx kb dX8_notPump_27 rfl (lv_at hl 0 rfl) ?_
      refine w_get X M h 254 hm.2 (by omega) fl_X8_32 rfl dX8_notPump_28 ?_
      refine lv_iconst (v := nI 4) kx kb dX8_notPump_31 (by decide) ?_
      refine w_iald X M h 255 hW (by omega) (4) (rfl) (by omega) (by omega) dX8_notPump_32 ?_
      refine w_top (y := nI (x.2.2.2.2.2.2.2 3)) (hR.z 3 (by omega)) ?_
      refine w_callVi X M h [.int (nI 8), .int (nI (x.2.2.2.2.2.2.2 3))] [] ((c_X8_isNot l g u v ⟨by omega, hm.2⟩ (nI 8) (nI (x.2.2.2.2.2.2.2 3)))) lk_X8_88 hm.2 (by omega) rfl rfl ⟨by decide, by decide⟩ hl ⟨Nat.zero_le _, Nat.zero_le _⟩ (Nat.le_of_ble_eq_true rfl) rfl dX8_notPump_33 (fun r_F5 F5 H locs hp_F5 h => ?_)
      refine w_top (y := (-5)) hp_F5.1 ?_
      refine lv_goto (tgt := 40) kx kb dX8_notPump_36 (by decide) ?_
      exact w_iret X h (by rw [show notPumpF x (nI k) = _ from by rw [notPumpF, if_pos c_1, if_neg d_4]]; exact ⟨rfl, ⟨by omega, hp_F5.2.1.2⟩, (fun i hi => hp_F5.2.2 i (by omega))⟩) dX8_notPump_40
  · refine lv_bipush (v := (-2)) kx kb dX8_notPump_10 (by decide) ?_
    exact w_iret X h (by rw [show notPumpF x a = _ from by rw [notPumpF, if_neg c_1], uNot_n (by decide)]; exact ⟨rfl, ⟨by omega, hm.2⟩, fun i hi => rfl⟩) dX8_notPump_12
