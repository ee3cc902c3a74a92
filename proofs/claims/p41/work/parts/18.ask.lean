set_option maxRecDepth 20000 in
theorem c_X7_isWithin (l : Launch) (g : gT) {N : Nat} {ad : Nat → Nat} {F : Nat → va_E} (a lo hi : Int32) : CtI l yX7_isWithin cX7_isWithin 3 (some .boolean) 0 0 g N ad F [.int a, .int lo, .int hi] (fun r F' => r = (bI (inW a lo hi)) ∧ F' = F) := by
  refine CtI_of (by decide) (Nat.le_of_ble_eq_true rfl) ?_
  intro p e s m args below meth c A H ls X M h hl
  have kx := X.1.1
  have kb := X.1.2.1
  have hl : lv_has ls 3 [(0, .int a), (1, .int lo), (2, .int hi)] := hl
  refine lv_iload_n kx kb dX7_isWithin_0 rfl (lv_at hl 0 rfl) ?_
  refine lv_iload_n kx kb dX7_isWithin_1 rfl (lv_at hl 1 rfl) ?_
  refine lv_icmp_lt (tgt := 14) kx kb dX7_isWithin_2 (by decide) (fun c_1 => ?_) (fun c_1 => ?_)
  · refine lv_iconst (v := nI 0) kx kb dX7_isWithin_14 (by decide) ?_
    exact w_zret X h (Or.inl (by decide)) ⟨bI_fn (fun z => z.1 c_1), rfl⟩ dX7_isWithin_15
  · refine lv_iload_n kx kb dX7_isWithin_5 rfl (lv_at hl 0 rfl) ?_
    refine lv_iload_n kx kb dX7_isWithin_6 rfl (lv_at hl 2 rfl) ?_
    refine lv_icmp_gt (tgt := 14) kx kb dX7_isWithin_7 (by decide) (fun c_2 => ?_) (fun c_2 => ?_)
    · refine lv_iconst (v := nI 0) kx kb dX7_isWithin_14 (by decide) ?_
      exact w_zret X h (Or.inl (by decide)) ⟨bI_fn (fun z => z.2 c_2), rfl⟩ dX7_isWithin_15
    · refine lv_iconst (v := nI 1) kx kb dX7_isWithin_10 (by decide) ?_
      refine lv_goto (tgt := 15) kx kb dX7_isWithin_11 (by decide) ?_
      exact w_zret X h (Or.inr (by decide)) ⟨bI_tn ⟨c_1, c_2⟩, rfl⟩ dX7_isWithin_15
set_option maxRecDepth 20000 in
theorem c_X7_isWell (l : Launch) (g : gT) {N : Nat} {ad : Nat → Nat} {F : Nat → va_E} (a : Int32) : CtI l yX7_isWell cX7_isWell 1 (some .boolean) 1 22 g N ad F [.int a] (fun r F' => r = (bI (inW a (nI 0) (nI 3))) ∧ F' = F) := by
  refine CtI_of (by decide) (Nat.le_of_ble_eq_true rfl) ?_
  intro p e s m args below meth c A H ls X M h hl
  have kx := X.1.1
  have kb := X.1.2.1
  have hl : lv_has ls 1 [(0, .int a)] := hl
  refine lv_iload_n kx kb dX7_isWell_0 rfl (lv_at hl 0 rfl) ?_
  refine lv_iconst (v := nI 0) kx kb dX7_isWell_1 (by decide) ?_
  refine lv_iconst (v := nI 3) kx kb dX7_isWell_2 (by decide) ?_
  refine w_readSi X M h [.int a, .int (nI 0), .int (nI 3)] [] ((c_X7_isWithin l g a (nI 0) (nI 3))) lk_X7_180 rfl ⟨by decide, by decide⟩ hl ⟨Nat.zero_le _, Nat.zero_le _⟩ (Nat.le_of_ble_eq_true rfl) rfl dX7_isWell_3 (fun H locs h => ?_)
  exact w_zret X h (bI_01 _) ⟨rfl, rfl⟩ dX7_isWell_6
set_option maxRecDepth 20000 in
theorem c_X7_jokeOf (l : Launch) (g : gT) {N : Nat} {ad : Nat → Nat} {F : Nat → va_E} (x : SX) (q : Nat → Int32) (hp : oP0 g N ad F q) (hs : oSt g N ad F 1 x) (hn : x.1 ≤ 12) (htn : xtn x ≤ 64) (a wh : Int32) : CtI l yX7_jokeOf cX7_jokeOf 4 (some .int) 2 45 g N ad F [.ref (ad 0), .int a, .int wh] (fun r F' => r = (jokeOfF x a wh) ∧ F' = F) := by
  refine CtI_of (by decide) (Nat.le_of_ble_eq_true rfl) ?_
  intro p e s m args below meth c A H ls X M h hl
  have kx := X.1.1
  have kb := X.1.2.1
  have hl : lv_has ls 4 [(0, .ref (ad 0)), (1, .int a), (2, .int wh)] := hl
  have hN0 := hp.1
  have htn2 : x.2.2.1 ≤ 64 := htn
  refine lv_aload_n kx kb dX7_jokeOf_0 rfl (lv_at hl 0 rfl) ?_
  refine w_get X M h 0 hp.2 (by omega) fl_X7_12 rfl dX7_jokeOf_1 ?_
  refine w_get X M h 1 hs.2.1 (by omega) fl_X7_121 rfl dX7_jokeOf_4 ?_
  refine lv_astore_n (lv' := [(3, .ref (ad 2)), (0, .ref (ad 0)), (1, .int a), (2, .int wh)]) kx kb dX7_jokeOf_7 rfl hl (by decide) rfl (fun ls hl => ?_)
  refine lv_aload_n kx kb dX7_jokeOf_8 rfl (lv_at hl 0 rfl) ?_
  refine lv_iload_n kx kb dX7_jokeOf_9 rfl (lv_at hl 2 rfl) ?_
  refine w_readVi X M h [.int a] [] ((c_X1_has l g 2 x.1 x.2.1 ⟨by omega, hs.2.2.1.2.1, ⟨by omega, hs.2.2.1.2.2.1.2.1, hs.2.2.1.2.2.1.2.2⟩, ⟨by omega, hs.2.2.1.2.2.2.1.2.1, hs.2.2.1.2.2.2.1.2.2⟩, ⟨by omega, hs.2.2.1.2.2.2.2.1.2.1, hs.2.2.1.2.2.2.2.1.2.2⟩, ⟨by omega, hs.2.2.1.2.2.2.2.2.1.2.1, hs.2.2.1.2.2.2.2.2.1.2.2⟩, ⟨by omega, hs.2.2.1.2.2.2.2.2.2.2.1, hs.2.2.1.2.2.2.2.2.2.2.2⟩⟩ (by omega) a)) lk_X7_131 hs.2.2.1.2.1 (by omega) rfl rfl ⟨by decide, by decide⟩ hl ⟨Nat.zero_le _, Nat.zero_le _⟩ (Nat.le_of_ble_eq_true rfl) rfl dX7_jokeOf_10 (fun H locs h => ?_)
  refine w_if_neb (tgt := 18) kx kb dX7_jokeOf_13 (by decide) (fun c_1 => ?_) (fun c_1 => ?_)
  · obtain ⟨k, hk, rfl⟩ := hasJ_of (by omega) c_1
    refine lv_iload_n kx kb dX7_jokeOf_18 rfl (lv_at hl 3 rfl) ?_
    rcases sw_of wh 6 (by decide) with ⟨k2, hk2, hvk2⟩ | ⟨hsw, hne⟩
    · rcases (show k2 = 0 ∨ k2 = 1 ∨ k2 = 2 ∨ k2 = 3 ∨ k2 = 4 ∨ k2 = 5 by omega) with rfl | rfl | rfl | rfl | rfl | rfl
      · subst hvk2
        refine lv_tableIn (tgt := 56) (off := 37) kx kb dX7_jokeOf_19 (by decide) (by decide) (by decide) (by decide) ?_
        refine lv_aload_n kx kb dX7_jokeOf_56 rfl (lv_at hl 0 rfl) ?_
        refine w_get X M h 2 hs.2.2.1.2.1 (by omega) fl_X7_135 rfl dX7_jokeOf_57 ?_
        refine lv_iload_n kx kb dX7_jokeOf_60 rfl (lv_at hl 2 rfl) ?_
        refine w_readVi X M h [.int (nI k)] [] ((c_X3_at_n l g 3 12 (x.2.1 0) k ⟨by omega, hs.2.2.1.2.2.1.2.1, hs.2.2.1.2.2.1.2.2⟩ (by omega) (by omega))) lk_X7_139 hs.2.2.1.2.2.1.2.1 (by omega) rfl rfl ⟨by decide, by decide⟩ hl ⟨Nat.zero_le _, Nat.zero_le _⟩ (Nat.le_of_ble_eq_true rfl) rfl dX7_jokeOf_61 (fun H locs h => ?_)
        exact w_iret X h ⟨by rw [jokeOfF, if_pos c_1, if_pos rfl, cl_n (by omega)], rfl⟩ dX7_jokeOf_64
      · subst hvk2
        refine lv_tableIn (tgt := 65) (off := 46) kx kb dX7_jokeOf_19 (by decide) (by decide) (by decide) (by decide) ?_
        refine lv_aload_n kx kb dX7_jokeOf_65 rfl (lv_at hl 0 rfl) ?_
        refine w_get X M h 2 hs.2.2.1.2.1 (by omega) fl_X7_144 rfl dX7_jokeOf_66 ?_
        refine lv_iload_n kx kb dX7_jokeOf_69 rfl (lv_at hl 2 rfl) ?_
        refine w_readVi X M h [.int (nI k)] [] ((c_X3_at_n l g 5 12 (x.2.1 1) k ⟨by omega, hs.2.2.1.2.2.2.1.2.1, hs.2.2.1.2.2.2.1.2.2⟩ (by omega) (by omega))) lk_X7_139 hs.2.2.1.2.2.2.1.2.1 (by omega) rfl rfl ⟨by decide, by decide⟩ hl ⟨Nat.zero_le _, Nat.zero_le _⟩ (Nat.le_of_ble_eq_true rfl) rfl dX7_jokeOf_70 (fun H locs h => ?_)
        exact w_iret X h ⟨by rw [jokeOfF, if_pos c_1, if_neg (show ¬ nI 1 = nI 0 by decide), if_pos rfl, cl_n (by omega)], rfl⟩ dX7_jokeOf_73
      · subst hvk2
        refine lv_tableIn (tgt := 74) (off := 55) kx kb dX7_jokeOf_19 (by decide) (by decide) (by decide) (by decide) ?_
        refine lv_aload_n kx kb dX7_jokeOf_74 rfl (lv_at hl 0 rfl) ?_
        refine w_get X M h 2 hs.2.2.1.2.1 (by omega) fl_X7_147 rfl dX7_jokeOf_75 ?_
        refine lv_iload_n kx kb dX7_jokeOf_78 rfl (lv_at hl 2 rfl) ?_
        refine w_readVi X M h [.int (nI k)] [] ((c_X3_at_n l g 7 12 (x.2.1 2) k ⟨by omega, hs.2.2.1.2.2.2.2.1.2.1, hs.2.2.1.2.2.2.2.1.2.2⟩ (by omega) (by omega))) lk_X7_139 hs.2.2.1.2.2.2.2.1.2.1 (by omega) rfl rfl ⟨by decide, by decide⟩ hl ⟨Nat.zero_le _, Nat.zero_le _⟩ (Nat.le_of_ble_eq_true rfl) rfl dX7_jokeOf_79 (fun H locs h => ?_)
        exact w_iret X h ⟨by rw [jokeOfF, if_pos c_1, if_neg (show ¬ nI 2 = nI 0 by decide), if_neg (show ¬ nI 2 = nI 1 by decide), if_pos rfl, cl_n (by omega)], rfl⟩ dX7_jokeOf_82
      · subst hvk2
        refine lv_tableIn (tgt := 83) (off := 64) kx kb dX7_jokeOf_19 (by decide) (by decide) (by decide) (by decide) ?_
        refine lv_aload_n kx kb dX7_jokeOf_83 rfl (lv_at hl 0 rfl) ?_
        refine w_get X M h 2 hs.2.2.1.2.1 (by omega) fl_X7_150 rfl dX7_jokeOf_84 ?_
        refine lv_iload_n kx kb dX7_jokeOf_87 rfl (lv_at hl 2 rfl) ?_
        refine w_readVi X M h [.int (nI k)] [] ((c_X3_at_n l g 9 12 (x.2.1 3) k ⟨by omega, hs.2.2.1.2.2.2.2.2.1.2.1, hs.2.2.1.2.2.2.2.2.1.2.2⟩ (by omega) (by omega))) lk_X7_139 hs.2.2.1.2.2.2.2.2.1.2.1 (by omega) rfl rfl ⟨by decide, by decide⟩ hl ⟨Nat.zero_le _, Nat.zero_le _⟩ (Nat.le_of_ble_eq_true rfl) rfl dX7_jokeOf_88 (fun H locs h => ?_)
        exact w_iret X h ⟨by rw [jokeOfF, if_pos c_1, if_neg (show ¬ nI 3 = nI 0 by decide), if_neg (show ¬ nI 3 = nI 1 by decide), if_neg (show ¬ nI 3 = nI 2 by decide), if_pos rfl, cl_n (by omega)], rfl⟩ dX7_jokeOf_91
      · subst hvk2
        refine lv_tableIn (tgt := 92) (off := 73) kx kb dX7_jokeOf_19 (by decide) (by decide) (by decide) (by decide) ?_
        refine lv_aload_n kx kb dX7_jokeOf_92 rfl (lv_at hl 0 rfl) ?_
        refine w_get X M h 2 hs.2.2.1.2.1 (by omega) fl_X7_153 rfl dX7_jokeOf_93 ?_
        refine lv_iload_n kx kb dX7_jokeOf_96 rfl (lv_at hl 2 rfl) ?_
        refine w_readVi X M h [.int (nI k)] [] ((c_X3_at_n l g 11 12 (x.2.1 4) k ⟨by omega, hs.2.2.1.2.2.2.2.2.2.2.1, hs.2.2.1.2.2.2.2.2.2.2.2⟩ (by omega) (by omega))) lk_X7_139 hs.2.2.1.2.2.2.2.2.2.2.1 (by omega) rfl rfl ⟨by decide, by decide⟩ hl ⟨Nat.zero_le _, Nat.zero_le _⟩ (Nat.le_of_ble_eq_true rfl) rfl dX7_jokeOf_97 (fun H locs h => ?_)
        exact w_iret X h ⟨by rw [jokeOfF, if_pos c_1, if_neg (show ¬ nI 4 = nI 0 by decide), if_neg (show ¬ nI 4 = nI 1 by decide), if_neg (show ¬ nI 4 = nI 2 by decide), if_neg (show ¬ nI 4 = nI 3 by decide), if_pos rfl, cl_n (by omega)], rfl⟩ dX7_jokeOf_100
      · subst hvk2
        refine lv_tableIn (tgt := 101) (off := 82) kx kb dX7_jokeOf_19 (by decide) (by decide) (by decide) (by decide) ?_
        refine lv_aload_n kx kb dX7_jokeOf_101 rfl (lv_at hl 0 rfl) ?_
        refine lv_aload_n kx kb dX7_jokeOf_102 rfl (lv_at hl 0 rfl) ?_
        refine w_get X M h 2 hs.2.2.1.2.1 (by omega) fl_X7_135 rfl dX7_jokeOf_103 ?_
        refine lv_iload_n kx kb dX7_jokeOf_106 rfl (lv_at hl 2 rfl) ?_
        refine w_readVi X M h [.int (nI k)] [.ref (ad 2)] ((c_X3_at_n l g 3 12 (x.2.1 0) k ⟨by omega, hs.2.2.1.2.2.1.2.1, hs.2.2.1.2.2.1.2.2⟩ (by omega) (by omega))) lk_X7_139 hs.2.2.1.2.2.1.2.1 (by omega) rfl rfl ⟨by decide, by decide⟩ hl ⟨Nat.zero_le _, Nat.zero_le _⟩ (Nat.le_of_ble_eq_true rfl) rfl dX7_jokeOf_107 (fun H locs h => ?_)
        refine lv_aload_n kx kb dX7_jokeOf_110 rfl (lv_at hl 0 rfl) ?_
        refine w_get X M h 2 hs.2.2.1.2.1 (by omega) fl_X7_144 rfl dX7_jokeOf_111 ?_
        refine lv_iload_n kx kb dX7_jokeOf_114 rfl (lv_at hl 2 rfl) ?_
        refine w_readVi X M h [.int (nI k)] [.int ((x.2.1 0) k), .ref (ad 2)] ((c_X3_at_n l g 5 12 (x.2.1 1) k ⟨by omega, hs.2.2.1.2.2.2.1.2.1, hs.2.2.1.2.2.2.1.2.2⟩ (by omega) (by omega))) lk_X7_139 hs.2.2.1.2.2.2.1.2.1 (by omega) rfl rfl ⟨by decide, by decide⟩ hl ⟨Nat.zero_le _, Nat.zero_le _⟩ (Nat.le_of_ble_eq_true rfl) rfl dX7_jokeOf_115 (fun H locs h => ?_)
        refine lv_iconst (v := nI 1) kx kb dX7_jokeOf_118 (by decide) ?_
        refine lv_isub kx kb dX7_jokeOf_119 ?_
        refine w_readVi X M h [.int ((x.2.1 0) k), .int (((x.2.1 1) k) - (nI 1))] [] ((c_X1_countWithin l g 2 x.1 x.2.1 ⟨by omega, hs.2.2.1.2.1, ⟨by omega, hs.2.2.1.2.2.1.2.1, hs.2.2.1.2.2.1.2.2⟩, ⟨by omega, hs.2.2.1.2.2.2.1.2.1, hs.2.2.1.2.2.2.1.2.2⟩, ⟨by omega, hs.2.2.1.2.2.2.2.1.2.1, hs.2.2.1.2.2.2.2.1.2.2⟩, ⟨by omega, hs.2.2.1.2.2.2.2.2.1.2.1, hs.2.2.1.2.2.2.2.2.1.2.2⟩, ⟨by omega, hs.2.2.1.2.2.2.2.2.2.2.1, hs.2.2.1.2.2.2.2.2.2.2.2⟩⟩ (by omega) ((x.2.1 0) k) (((x.2.1 1) k) - (nI 1)))) lk_X7_156 hs.2.2.1.2.1 (by omega) rfl rfl ⟨by decide, by decide⟩ hl ⟨Nat.zero_le _, Nat.zero_le _⟩ (Nat.le_of_ble_eq_true rfl) rfl dX7_jokeOf_120 (fun H locs h => ?_)
        exact w_iret X h ⟨by rw [jokeOfF, if_pos c_1, if_neg (show ¬ nI 5 = nI 0 by decide), if_neg (show ¬ nI 5 = nI 1 by decide), if_neg (show ¬ nI 5 = nI 2 by decide), if_neg (show ¬ nI 5 = nI 3 by decide), if_neg (show ¬ nI 5 = nI 4 by decide), if_pos rfl, cl_n (by omega)], rfl⟩ dX7_jokeOf_123
    · refine lv_tableOut (tgt := 124) kx kb dX7_jokeOf_19 hsw (by decide) ?_
      refine lv_bipush (v := (-2)) kx kb dX7_jokeOf_124 (by decide) ?_
      exact w_iret X h ⟨by rw [jokeOfF, if_pos c_1, if_neg (hne 0 (by omega)), if_neg (hne 1 (by omega)), if_neg (hne 2 (by omega)), if_neg (hne 3 (by omega)), if_neg (hne 4 (by omega)), if_neg (hne 5 (by omega))], rfl⟩ dX7_jokeOf_126
  · refine lv_iconst (v := (-1)) kx kb dX7_jokeOf_16 (by decide) ?_
    exact w_iret X h ⟨by rw [jokeOfF, if_neg c_1], rfl⟩ dX7_jokeOf_17
set_option maxRecDepth 20000 in
theorem c_X7_leastDepth (l : Launch) (g : gT) {N : Nat} {ad : Nat → Nat} {F : Nat → va_E} (x : SX) (q : Nat → Int32) (hp : oP0 g N ad F q) (hs : oSt g N ad F 1 x) (hn : x.1 ≤ 12) (htn : xtn x ≤ 64) (wl : Int32) : CtI l yX7_leastDepth cX7_leastDepth 3 (some .int) 3 68 g N ad F [.ref (ad 0), .int wl] (fun r F' => r = (leastD x wl) ∧ F' = F) := by
  refine CtI_of (by decide) (Nat.le_of_ble_eq_true rfl) ?_
  intro p e s m args below meth c A H ls X M h hl
  have kx := X.1.1
  have kb := X.1.2.1
  have hl : lv_has ls 3 [(0, .ref (ad 0)), (1, .int wl)] := hl
  have hN0 := hp.1
  have htn2 : x.2.2.1 ≤ 64 := htn
  refine lv_aload_n kx kb dX7_leastDepth_0 rfl (lv_at hl 0 rfl) ?_
  refine w_get X M h 0 hp.2 (by omega) fl_X7_12 rfl dX7_leastDepth_1 ?_
  refine w_get X M h 1 hs.2.1 (by omega) fl_X7_121 rfl dX7_leastDepth_4 ?_
  refine lv_iload_n kx kb dX7_leastDepth_7 rfl (lv_at hl 1 rfl) ?_
  refine lv_iconst (v := nI 0) kx kb dX7_leastDepth_8 (by decide) ?_
  refine w_readVi X M h [.int wl, .int (nI 0)] [] ((c_X1_byDepth l g 2 x.1 x.2.1 ⟨by omega, hs.2.2.1.2.1, ⟨by omega, hs.2.2.1.2.2.1.2.1, hs.2.2.1.2.2.1.2.2⟩, ⟨by omega, hs.2.2.1.2.2.2.1.2.1, hs.2.2.1.2.2.2.1.2.2⟩, ⟨by omega, hs.2.2.1.2.2.2.2.1.2.1, hs.2.2.1.2.2.2.2.1.2.2⟩, ⟨by omega, hs.2.2.1.2.2.2.2.2.1.2.1, hs.2.2.1.2.2.2.2.2.1.2.2⟩, ⟨by omega, hs.2.2.1.2.2.2.2.2.2.2.1, hs.2.2.1.2.2.2.2.2.2.2.2⟩⟩ (by omega) wl (nI 0))) lk_X7_187 hs.2.2.1.2.1 (by omega) rfl rfl ⟨by decide, by decide⟩ hl ⟨Nat.zero_le _, Nat.zero_le _⟩ (Nat.le_of_ble_eq_true rfl) rfl dX7_leastDepth_9 (fun H locs h => ?_)
  refine lv_istore_n (lv' := [(2, .int (ixO (bdP x.2.1 x.1 wl (nI 0)) x.1)), (0, .ref (ad 0)), (1, .int wl)]) kx kb dX7_leastDepth_12 rfl hl (by decide) rfl (fun ls hl => ?_)
  refine lv_iload_n kx kb dX7_leastDepth_13 rfl (lv_at hl 0 rfl) ?_
  refine lv_iconst (v := (-1)) kx kb dX7_leastDepth_14 (by decide) ?_
  refine lv_icmp_ne (tgt := 22) kx kb dX7_leastDepth_15 (by decide) (fun c_1 => ?_) (fun c_1 => ?_)
  · refine lv_aload_n kx kb dX7_leastDepth_22 rfl (lv_at hl 1 rfl) ?_
    refine w_get X M h 0 hp.2 (by omega) fl_X7_12 rfl dX7_leastDepth_23 ?_
    refine w_get X M h 1 hs.2.1 (by omega) fl_X7_121 rfl dX7_leastDepth_26 ?_
    refine w_get X M h 2 hs.2.2.1.2.1 (by omega) fl_X7_144 rfl dX7_leastDepth_29 ?_
    refine lv_iload_n kx kb dX7_leastDepth_32 rfl (lv_at hl 0 rfl) ?_
    refine w_readVi X M h [.int (ixO (bdP x.2.1 x.1 wl (nI 0)) x.1)] [] ((c_X3_at l g 5 12 (x.2.1 1) (ixO (bdP x.2.1 x.1 wl (nI 0)) x.1) ⟨by omega, hs.2.2.1.2.2.2.1.2.1, hs.2.2.1.2.2.2.1.2.2⟩ (by omega))) lk_X7_139 hs.2.2.1.2.2.2.1.2.1 (by omega) rfl rfl ⟨by decide, by decide⟩ hl ⟨Nat.zero_le _, Nat.zero_le _⟩ (Nat.le_of_ble_eq_true rfl) rfl dX7_leastDepth_33 (fun H locs h => ?_)
    exact w_iret X h ⟨by rw [leastD, if_neg c_1], rfl⟩ dX7_leastDepth_36
  · refine lv_iconst (v := nI 0) kx kb dX7_leastDepth_18 (by decide) ?_
    refine lv_goto (tgt := 36) kx kb dX7_leastDepth_19 (by decide) ?_
    exact w_iret X h ⟨by rw [leastD, if_pos c_1], rfl⟩ dX7_leastDepth_36
set_option maxRecDepth 20000 in
theorem c_X7_wellOf (l : Launch) (g : gT) {N : Nat} {ad : Nat → Nat} {F : Nat → va_E} (x : SX) (q : Nat → Int32) (hp : oP0 g N ad F q) (hs : oSt g N ad F 1 x) (hn : x.1 ≤ 12) (htn : xtn x ≤ 64) (a wh : Int32) : CtI l yX7_wellOf cX7_wellOf 3 (some .int) 4 90 g N ad F [.ref (ad 0), .int a, .int wh] (fun r F' => r = (wellOfF x a wh) ∧ F' = F) := by
  refine CtI_of (by decide) (Nat.le_of_ble_eq_true rfl) ?_
  intro p e s m args below meth c A H ls X M h hl
  have kx := X.1.1
  have kb := X.1.2.1
  have hl : lv_has ls 3 [(0, .ref (ad 0)), (1, .int a), (2, .int wh)] := hl
  have hN0 := hp.1
  have htn2 : x.2.2.1 ≤ 64 := htn
  refine lv_iload_n kx kb dX7_wellOf_0 rfl (lv_at hl 1 rfl) ?_
  refine w_readSi X M h [.int a] [] ((c_X7_isWell l g a)) lk_X7_159 rfl ⟨by decide, by decide⟩ hl ⟨Nat.zero_le _, Nat.zero_le _⟩ (Nat.le_of_ble_eq_true rfl) rfl dX7_wellOf_1 (fun H locs h => ?_)
  refine w_if_neb (tgt := 9) kx kb dX7_wellOf_4 (by decide) (fun c_1 => ?_) (fun c_1 => ?_)
  · obtain ⟨k, hk0, hk, rfl⟩ := inW_of (by decide) (by decide) c_1
    refine lv_iload_n kx kb dX7_wellOf_9 rfl (lv_at hl 2 rfl) ?_
    rcases sw_of wh 4 (by decide) with ⟨k2, hk2, hvk2⟩ | ⟨hsw, hne⟩
    · rcases (show k2 = 0 ∨ k2 = 1 ∨ k2 = 2 ∨ k2 = 3 by omega) with rfl | rfl | rfl | rfl
      · subst hvk2
        refine lv_tableIn (tgt := 40) (off := 30) kx kb dX7_wellOf_10 (by decide) (by decide) (by decide) (by decide) ?_
        refine lv_aload_n kx kb dX7_wellOf_40 rfl (lv_at hl 0 rfl) ?_
        refine w_get X M h 0 hp.2 (by omega) fl_X7_12 rfl dX7_wellOf_41 ?_
        refine w_get X M h 1 hs.2.1 (by omega) fl_X7_162 rfl dX7_wellOf_44 ?_
        refine lv_iload_n kx kb dX7_wellOf_47 rfl (lv_at hl 1 rfl) ?_
        refine w_readVi X M h [.int (nI k)] [] ((c_X3_at_n l g 21 4 (fun k => nI (x.2.2.2.2.2.2.1 k)) k ⟨by omega, hs.2.2.2.2.2.1, hs.2.2.2.2.2.2⟩ (by omega) (by omega))) lk_X7_139 hs.2.2.2.2.2.1 (by omega) rfl rfl ⟨by decide, by decide⟩ hl ⟨Nat.zero_le _, Nat.zero_le _⟩ (Nat.le_of_ble_eq_true rfl) rfl dX7_wellOf_48 (fun H locs h => ?_)
        exact w_iret X h ⟨by rw [wellOfF, if_pos c_1, if_pos rfl, cl_n (by omega)], rfl⟩ dX7_wellOf_51
      · subst hvk2
        refine lv_tableIn (tgt := 52) (off := 42) kx kb dX7_wellOf_10 (by decide) (by decide) (by decide) (by decide) ?_
        refine lv_aload_n kx kb dX7_wellOf_52 rfl (lv_at hl 0 rfl) ?_
        refine w_get X M h 0 hp.2 (by omega) fl_X7_12 rfl dX7_wellOf_53 ?_
        refine w_get X M h 1 hs.2.1 (by omega) fl_X7_121 rfl dX7_wellOf_56 ?_
        refine lv_iload_n kx kb dX7_wellOf_59 rfl (lv_at hl 1 rfl) ?_
        refine w_readVi X M h [.int (nI k)] [] ((c_X1_countIn l g 2 x.1 x.2.1 ⟨by omega, hs.2.2.1.2.1, ⟨by omega, hs.2.2.1.2.2.1.2.1, hs.2.2.1.2.2.1.2.2⟩, ⟨by omega, hs.2.2.1.2.2.2.1.2.1, hs.2.2.1.2.2.2.1.2.2⟩, ⟨by omega, hs.2.2.1.2.2.2.2.1.2.1, hs.2.2.1.2.2.2.2.1.2.2⟩, ⟨by omega, hs.2.2.1.2.2.2.2.2.1.2.1, hs.2.2.1.2.2.2.2.2.1.2.2⟩, ⟨by omega, hs.2.2.1.2.2.2.2.2.2.2.1, hs.2.2.1.2.2.2.2.2.2.2.2⟩⟩ (by omega) (nI k))) lk_X7_165 hs.2.2.1.2.1 (by omega) rfl rfl ⟨by decide, by decide⟩ hl ⟨Nat.zero_le _, Nat.zero_le _⟩ (Nat.le_of_ble_eq_true rfl) rfl dX7_wellOf_60 (fun H locs h => ?_)
        exact w_iret X h ⟨by rw [wellOfF, if_pos c_1, if_neg (show ¬ nI 1 = nI 0 by decide), if_pos rfl], rfl⟩ dX7_wellOf_63
      · subst hvk2
        refine lv_tableIn (tgt := 64) (off := 54) kx kb dX7_wellOf_10 (by decide) (by decide) (by decide) (by decide) ?_
        refine lv_aload_n kx kb dX7_wellOf_64 rfl (lv_at hl 0 rfl) ?_
        refine lv_iload_n kx kb dX7_wellOf_65 rfl (lv_at hl 1 rfl) ?_
        refine w_readVi X M h [.int (nI k)] [] ((c_X7_leastDepth l g x q ⟨by omega, hp.2⟩ ⟨by omega, hs.2.1, ⟨by omega, hs.2.2.1.2.1, ⟨by omega, hs.2.2.1.2.2.1.2.1, hs.2.2.1.2.2.1.2.2⟩, ⟨by omega, hs.2.2.1.2.2.2.1.2.1, hs.2.2.1.2.2.2.1.2.2⟩, ⟨by omega, hs.2.2.1.2.2.2.2.1.2.1, hs.2.2.1.2.2.2.2.1.2.2⟩, ⟨by omega, hs.2.2.1.2.2.2.2.2.1.2.1, hs.2.2.1.2.2.2.2.2.1.2.2⟩, ⟨by omega, hs.2.2.1.2.2.2.2.2.2.2.1, hs.2.2.1.2.2.2.2.2.2.2.2⟩⟩, ⟨by omega, hs.2.2.2.1.2.1, ⟨by omega, hs.2.2.2.1.2.2.1.2.1, hs.2.2.2.1.2.2.1.2.2⟩, ⟨by omega, hs.2.2.2.1.2.2.2.1.2.1, hs.2.2.2.1.2.2.2.1.2.2⟩, hs.2.2.2.1.2.2.2.2.1, ⟨by omega, hs.2.2.2.1.2.2.2.2.2.2.1, hs.2.2.2.1.2.2.2.2.2.2.2⟩⟩, ⟨by omega, hs.2.2.2.2.2.1, hs.2.2.2.2.2.2⟩⟩ (by omega) (by omega) (nI k))) lk_X7_168 hp.2 (by omega) rfl rfl ⟨by decide, by decide⟩ hl ⟨Nat.zero_le _, Nat.zero_le _⟩ (Nat.le_of_ble_eq_true rfl) rfl dX7_wellOf_66 (fun H locs h => ?_)
        exact w_iret X h ⟨by rw [wellOfF, if_pos c_1, if_neg (show ¬ nI 2 = nI 0 by decide), if_neg (show ¬ nI 2 = nI 1 by decide), if_pos rfl], rfl⟩ dX7_wellOf_69
      · subst hvk2
        refine lv_tableIn (tgt := 70) (off := 60) kx kb dX7_wellOf_10 (by decide) (by decide) (by decide) (by decide) ?_
        refine lv_aload_n kx kb dX7_wellOf_70 rfl (lv_at hl 0 rfl) ?_
        refine w_get X M h 0 hp.2 (by omega) fl_X7_12 rfl dX7_wellOf_71 ?_
        refine w_get X M h 1 hs.2.1 (by omega) fl_X7_171 rfl dX7_wellOf_74 ?_
        refine lv_iload_n kx kb dX7_wellOf_77 rfl (lv_at hl 1 rfl) ?_
        refine w_readVi X M h [.int (nI k)] [] ((c_X6_countFrom l g 13 x.2.2.1 x.2.2.2.1 x.2.2.2.2.1 x.2.2.2.2.2.1 ⟨by omega, hs.2.2.2.1.2.1, ⟨by omega, hs.2.2.2.1.2.2.1.2.1, hs.2.2.2.1.2.2.1.2.2⟩, ⟨by omega, hs.2.2.2.1.2.2.2.1.2.1, hs.2.2.2.1.2.2.2.1.2.2⟩, hs.2.2.2.1.2.2.2.2.1, ⟨by omega, hs.2.2.2.1.2.2.2.2.2.2.1, hs.2.2.2.1.2.2.2.2.2.2.2⟩⟩ (by omega) (nI k))) lk_X7_175 hs.2.2.2.1.2.1 (by omega) rfl rfl ⟨by decide, by decide⟩ hl ⟨Nat.zero_le _, Nat.zero_le _⟩ (Nat.le_of_ble_eq_true rfl) rfl dX7_wellOf_78 (fun H locs h => ?_)
        exact w_iret X h ⟨by rw [wellOfF, if_pos c_1, if_neg (show ¬ nI 3 = nI 0 by decide), if_neg (show ¬ nI 3 = nI 1 by decide), if_neg (show ¬ nI 3 = nI 2 by decide), if_pos rfl], rfl⟩ dX7_wellOf_81
    · refine lv_tableOut (tgt := 82) kx kb dX7_wellOf_10 hsw (by decide) ?_
      refine lv_bipush (v := (-2)) kx kb dX7_wellOf_82 (by decide) ?_
      exact w_iret X h ⟨by rw [wellOfF, if_pos c_1, if_neg (hne 0 (by omega)), if_neg (hne 1 (by omega)), if_neg (hne 2 (by omega)), if_neg (hne 3 (by omega))], rfl⟩ dX7_wellOf_84
  · refine lv_iconst (v := (-1)) kx kb dX7_wellOf_7 (by decide) ?_
    exact w_iret X h ⟨by rw [wellOfF, if_neg c_1], rfl⟩ dX7_wellOf_8
set_option maxRecDepth 20000 in
theorem c_X7_isKnown (l : Launch) (g : gT) {N : Nat} {ad : Nat → Nat} {F : Nat → va_E} (x : SX) (q : Nat → Int32) (hp : oP0 g N ad F q) (hs : oSt g N ad F 1 x) (hn : x.1 ≤ 12) (htn : xtn x ≤ 64) (a : Int32) : CtI l yX7_isKnown cX7_isKnown 2 (some .int) 1 22 g N ad F [.ref (ad 0), .int a] (fun r F' => r = (isKnownF x a) ∧ F' = F) := by
  refine CtI_of (by decide) (Nat.le_of_ble_eq_true rfl) ?_
  intro p e s m args below meth c A H ls X M h hl
  have kx := X.1.1
  have kb := X.1.2.1
  have hl : lv_has ls 2 [(0, .ref (ad 0)), (1, .int a)] := hl
  have hN0 := hp.1
  have htn2 : x.2.2.1 ≤ 64 := htn
  refine lv_iload_n kx kb dX7_isKnown_0 rfl (lv_at hl 1 rfl) ?_
  refine lv_iconst (v := nI 0) kx kb dX7_isKnown_1 (by decide) ?_
  refine lv_bipush (v := nI 63) kx kb dX7_isKnown_2 (by decide) ?_
  refine w_readSi X M h [.int a, .int (nI 0), .int (nI 63)] [] ((c_X7_isWithin l g a (nI 0) (nI 63))) lk_X7_180 rfl ⟨by decide, by decide⟩ hl ⟨Nat.zero_le _, Nat.zero_le _⟩ (Nat.le_of_ble_eq_true rfl) rfl dX7_isKnown_4 (fun H locs h => ?_)
  refine w_if_neb (tgt := 12) kx kb dX7_isKnown_7 (by decide) (fun c_1 => ?_) (fun c_1 => ?_)
  · obtain ⟨k, hk0, hk, rfl⟩ := inW_of (by decide) (by decide) c_1
    refine lv_aload_n kx kb dX7_isKnown_12 rfl (lv_at hl 0 rfl) ?_
    refine w_get X M h 0 hp.2 (by omega) fl_X7_12 rfl dX7_isKnown_13 ?_
    refine w_get X M h 1 hs.2.1 (by omega) fl_X7_171 rfl dX7_isKnown_16 ?_
    refine w_get X M h 13 hs.2.2.2.1.2.1 (by omega) fl_X7_184 rfl dX7_isKnown_19 ?_
    refine lv_iload_n kx kb dX7_isKnown_22 rfl (lv_at hl 1 rfl) ?_
    refine w_readVi X M h [.int (nI k)] [] ((c_X3_at_n l g 19 64 (x.2.2.2.2.1 2) k ⟨by omega, hs.2.2.2.1.2.2.2.2.2.2.1, hs.2.2.2.1.2.2.2.2.2.2.2⟩ (by omega) (by omega))) lk_X7_139 hs.2.2.2.1.2.2.2.2.2.2.1 (by omega) rfl rfl ⟨by decide, by decide⟩ hl ⟨Nat.zero_le _, Nat.zero_le _⟩ (Nat.le_of_ble_eq_true rfl) rfl dX7_isKnown_23 (fun H locs h => ?_)
    exact w_iret X h ⟨by rw [isKnownF, if_pos c_1, cl_n (by omega)], rfl⟩ dX7_isKnown_26
  · refine lv_iconst (v := (-1)) kx kb dX7_isKnown_10 (by decide) ?_
    exact w_iret X h ⟨by rw [isKnownF, if_neg c_1], rfl⟩ dX7_isKnown_11
set_option maxRecDepth 20000 in
theorem c_X7_inWell (l : Launch) (g : gT) {N : Nat} {ad : Nat → Nat} {F : Nat → va_E} (x : SX) (q : Nat → Int32) (hp : oP0 g N ad F q) (hs : oSt g N ad F 1 x) (hn : x.1 ≤ 12) (htn : xtn x ≤ 64) (a pl : Int32) : CtI l yX7_inWell cX7_inWell 3 (some .int) 3 68 g N ad F [.ref (ad 0), .int a, .int pl] (fun r F' => r = (inWellF x a pl) ∧ F' = F) := by
  refine CtI_of (by decide) (Nat.le_of_ble_eq_true rfl) ?_
  intro p e s m args below meth c A H ls X M h hl
  have kx := X.1.1
  have kb := X.1.2.1
  have hl : lv_has ls 3 [(0, .ref (ad 0)), (1, .int a), (2, .int pl)] := hl
  have hN0 := hp.1
  have htn2 : x.2.2.1 ≤ 64 := htn
  refine lv_iload_n kx kb dX7_inWell_0 rfl (lv_at hl 1 rfl) ?_
  refine w_readSi X M h [.int a] [] ((c_X7_isWell l g a)) lk_X7_159 rfl ⟨by decide, by decide⟩ hl ⟨Nat.zero_le _, Nat.zero_le _⟩ (Nat.le_of_ble_eq_true rfl) rfl dX7_inWell_1 (fun H locs h => ?_)
  refine w_if_eqb (tgt := 22) kx kb dX7_inWell_4 (by decide) (fun c_1 => ?_) (fun c_1 => ?_)
  · refine lv_iconst (v := (-1)) kx kb dX7_inWell_22 (by decide) ?_
    exact w_iret X h ⟨by rw [inWellF, if_neg c_1], rfl⟩ dX7_inWell_23
  · refine lv_aload_n kx kb dX7_inWell_7 rfl (lv_at hl 0 rfl) ?_
    refine w_get X M h 0 hp.2 (by omega) fl_X7_12 rfl dX7_inWell_8 ?_
    refine w_get X M h 1 hs.2.1 (by omega) fl_X7_121 rfl dX7_inWell_11 ?_
    refine lv_iload_n kx kb dX7_inWell_14 rfl (lv_at hl 1 rfl) ?_
    refine lv_iload_n kx kb dX7_inWell_15 rfl (lv_at hl 2 rfl) ?_
    refine w_readVi X M h [.int a, .int pl] [] ((c_X1_byDepth l g 2 x.1 x.2.1 ⟨by omega, hs.2.2.1.2.1, ⟨by omega, hs.2.2.1.2.2.1.2.1, hs.2.2.1.2.2.1.2.2⟩, ⟨by omega, hs.2.2.1.2.2.2.1.2.1, hs.2.2.1.2.2.2.1.2.2⟩, ⟨by omega, hs.2.2.1.2.2.2.2.1.2.1, hs.2.2.1.2.2.2.2.1.2.2⟩, ⟨by omega, hs.2.2.1.2.2.2.2.2.1.2.1, hs.2.2.1.2.2.2.2.2.1.2.2⟩, ⟨by omega, hs.2.2.1.2.2.2.2.2.2.2.1, hs.2.2.1.2.2.2.2.2.2.2.2⟩⟩ (by omega) a pl)) lk_X7_187 hs.2.2.1.2.1 (by omega) rfl rfl ⟨by decide, by decide⟩ hl ⟨Nat.zero_le _, Nat.zero_le _⟩ (Nat.le_of_ble_eq_true rfl) rfl dX7_inWell_16 (fun H locs h => ?_)
    refine lv_goto (tgt := 23) kx kb dX7_inWell_19 (by decide) ?_
    exact w_iret X h ⟨by rw [inWellF, if_pos c_1], rfl⟩ dX7_inWell_23
set_option maxRecDepth 20000 in
theorem c_X7_laughs (l : Launch) (g : gT) {N : Nat} {ad : Nat → Nat} {F : Nat → va_E} (x : SX) (q : Nat → Int32) (hp : oP0 g N ad F q) (hs : oSt g N ad F 1 x) (hn : x.1 ≤ 12) (htn : xtn x ≤ 64)  : CtF l yX7_laughs cX7_laughs 1 (some .float) 0 0 g N ad F [.ref (ad 0)] (fun r F' => r = (xsm x) ∧ F' = F) := by
  refine CtF_of (by decide) (Nat.le_of_ble_eq_true rfl) ?_
  intro p e s m args below meth c A H ls X M h hl
  have kx := X.1.1
  have kb := X.1.2.1
  have hl : lv_has ls 1 [(0, .ref (ad 0))] := hl
  have hN0 := hp.1
  have htn2 : x.2.2.1 ≤ 64 := htn
  refine lv_aload_n kx kb dX7_laughs_0 rfl (lv_at hl 0 rfl) ?_
  refine w_get X M h 0 hp.2 (by omega) fl_X7_12 rfl dX7_laughs_1 ?_
  refine w_get X M h 1 hs.2.1 (by omega) fl_X7_171 rfl dX7_laughs_4 ?_
  refine w_get X M h 13 hs.2.2.2.1.2.1 (by omega) fl_X7_207 rfl dX7_laughs_7 ?_
  exact w_fret X h ⟨rfl, rfl⟩ dX7_laughs_10
set_option maxRecDepth 20000 in
theorem c_X7_wholeLaughs (l : Launch) (g : gT) {N : Nat} {ad : Nat → Nat} {F : Nat → va_E} (x : SX) (q : Nat → Int32) (hp : oP0 g N ad F q) (hs : oSt g N ad F 1 x) (hn : x.1 ≤ 12) (htn : xtn x ≤ 64)  : CtI l yX7_wholeLaughs cX7_wholeLaughs 1 (some .int) 0 0 g N ad F [.ref (ad 0)] (fun r F' => r = (FP.f2i (xsm x)) ∧ F' = F) := by
  refine CtI_of (by decide) (Nat.le_of_ble_eq_true rfl) ?_
  intro p e s m args below meth c A H ls X M h hl
  have kx := X.1.1
  have kb := X.1.2.1
  have hl : lv_has ls 1 [(0, .ref (ad 0))] := hl
  have hN0 := hp.1
  have htn2 : x.2.2.1 ≤ 64 := htn
  refine lv_aload_n kx kb dX7_wholeLaughs_0 rfl (lv_at hl 0 rfl) ?_
  refine w_get X M h 0 hp.2 (by omega) fl_X7_12 rfl dX7_wholeLaughs_1 ?_
  refine w_get X M h 1 hs.2.1 (by omega) fl_X7_171 rfl dX7_wholeLaughs_4 ?_
  refine w_get X M h 13 hs.2.2.2.1.2.1 (by omega) fl_X7_207 rfl dX7_wholeLaughs_7 ?_
  refine lv_f2i kx kb dX7_wholeLaughs_10 ?_
  exact w_iret X h ⟨rfl, rfl⟩ dX7_wholeLaughs_11
set_option maxRecDepth 20000 in
theorem c_X7_bitsOf (l : Launch) (g : gT) {N : Nat} {ad : Nat → Nat} {F : Nat → va_E} (v : UInt32) (rr : Int32) (hr : bits v = some rr) : CtI l yX7_bitsOf cX7_bitsOf 4 (some .int) 0 0 g N ad F [.float v] (fun r F' => r = (rr) ∧ F' = F) := by
  refine CtI_of (by decide) (Nat.le_of_ble_eq_true rfl) ?_
  intro p e s m args below meth c A H ls X M h hl
  have kx := X.1.1
  have kb := X.1.2.1
  have hl : lv_has ls 4 [(0, .float v)] := hl
  refine lv_fload_n kx kb dX7_bitsOf_0 rfl (lv_at hl 0 rfl) ?_
  refine lv_fconst0 kx kb dX7_bitsOf_1 ?_
  refine lv_fcmp kx kb dX7_bitsOf_2 ?_
  refine lv_if_gt (tgt := 8) kx kb dX7_bitsOf_3 (by decide) (fun c_1 => ?_) (fun c_1 => ?_)
  · obtain ⟨s1, e1, s2, e2, hA1, hB1, hE1⟩ := bits_in hr c_1
    refine lv_fload_n kx kb dX7_bitsOf_8 rfl (lv_at hl 0 rfl) ?_
    refine lv_fstore_n (lv' := [(1, .float v), (0, .float v)]) kx kb dX7_bitsOf_9 rfl hl (by decide) rfl (fun ls hl => ?_)
    refine lv_bipush (v := nI 127) kx kb dX7_bitsOf_10 (by decide) ?_
    refine lv_istore_n (lv' := [(2, .int (nI 127)), (1, .float v), (0, .float v)]) kx kb dX7_bitsOf_12 rfl hl (by decide) rfl (fun ls hl => ?_)
    refine lv_iconst (v := nI 0) kx kb dX7_bitsOf_13 (by decide) ?_
    refine lv_istore_n (lv' := [(3, .int (nI 0)), (2, .int (nI 127)), (1, .float v), (0, .float v)]) kx kb dX7_bitsOf_14 rfl hl (by decide) rfl (fun ls hl => ?_)
    refine w_loop3 (fun (i : Nat) (v1 : UInt32) (e0 : Int32) => 128 - i) (fun (i : Nat) (v1 : UInt32) (e0 : Int32) H locs ls => Hx g N ad F A s H locs ∧ lv_has ls 4 [(1, .float v1), (2, .int e0), (3, .int (nI i))] ∧ (i ≤ 128) ∧ (bA (128 - i) v1 e0 = some (s1, e1))) ?_ 0 v (nI 127) ⟨h, lv_sub hl [2, 1, 0] rfl, Nat.zero_le _, hA1⟩
    intro i v1 e0 H locs ls hinv ih
    obtain ⟨h, hl, hi, hA⟩ := hinv
    refine lv_iload_n kx kb dX7_bitsOf_15 rfl (lv_at hl 2 rfl) ?_
    refine lv_sipush (v := nI 128) kx kb dX7_bitsOf_16 (by decide) ?_
    refine w_cmp_ge (tgt := 41) kx kb (by omega) (by omega) dX7_bitsOf_19 (by decide) (fun c_2 => ?_) (fun c_2 => ?_)
    · rw [show 128 - i = 0 by omega, bA] at hA
      obtain ⟨rfl, rfl⟩ : v1 = s1 ∧ e0 = e1 := by cases hA; exact ⟨rfl, rfl⟩
      refine lv_iconst (v := nI 0) kx kb dX7_bitsOf_41 (by decide) ?_
      refine lv_istore_n (lv' := [(3, .int (nI 0)), (1, .float v1), (2, .int e0)]) kx kb dX7_bitsOf_42 rfl hl (by decide) rfl (fun ls hl => ?_)
      refine w_loop3 (fun (k : Nat) (v3 : UInt32) (e3 : Int32) => 126 - k) (fun (k : Nat) (v3 : UInt32) (e3 : Int32) H locs ls => Hx g N ad F A s H locs ∧ lv_has ls 4 [(1, .float v3), (2, .int e3), (3, .int (nI k))] ∧ (k ≤ 126) ∧ (bB (126 - k) v3 e3 = some (s2, e2))) ?_ 0 v1 e0 ⟨h, lv_sub hl [1, 2, 0] rfl, Nat.zero_le _, hB1⟩
      intro k v3 e3 H locs ls hinv ih
      obtain ⟨h, hl, hk, hB⟩ := hinv
      refine lv_iload_n kx kb dX7_bitsOf_43 rfl (lv_at hl 2 rfl) ?_
      refine lv_bipush (v := nI 126) kx kb dX7_bitsOf_44 (by decide) ?_
      refine w_cmp_ge (tgt := 68) kx kb (by omega) (by omega) dX7_bitsOf_46 (by decide) (fun c_3 => ?_) (fun c_3 => ?_)
      · rw [show 126 - k = 0 by omega, bB] at hB
        obtain ⟨rfl, rfl⟩ : v3 = s2 ∧ e3 = e2 := by cases hB; exact ⟨rfl, rfl⟩
        have hE2 : nnb (FP.fsub v3 FP.fconst1) = true ∧ nnb (FP.fmul (FP.fsub v3 FP.fconst1) (1258291200 : UInt32)) = true := by
          by_cases z : nnb (FP.fsub v3 FP.fconst1) = true ∧ nnb (FP.fmul (FP.fsub v3 FP.fconst1) (1258291200 : UInt32)) = true
          · exact z
          · rw [bE, if_neg z] at hE1; cases hE1
        rw [bE, if_pos hE2] at hE1
        refine lv_iload_n kx kb dX7_bitsOf_68 rfl (lv_at hl 1 rfl) ?_
        refine lv_bipush (v := nI 23) kx kb dX7_bitsOf_69 (by decide) ?_
        refine lv_ishl kx kb dX7_bitsOf_71 ?_
        refine lv_fload_n kx kb dX7_bitsOf_72 rfl (lv_at hl 0 rfl) ?_
        refine lv_fconst1 kx kb dX7_bitsOf_73 ?_
        refine lv_fsub kx kb dX7_bitsOf_74 (nnb_n hE2.1) ?_
        refine lv_ldcwf X q2_165 dX7_bitsOf_75 ?_
        refine lv_fmul kx kb dX7_bitsOf_78 (nnb_n hE2.2) ?_
        refine lv_f2i kx kb dX7_bitsOf_79 ?_
        refine lv_iadd kx kb dX7_bitsOf_80 ?_
        exact w_iret X h ⟨Option.some.inj hE1, rfl⟩ dX7_bitsOf_81
      · refine lv_fload_n kx kb dX7_bitsOf_49 rfl (lv_at hl 0 rfl) ?_
        refine lv_fconst1 kx kb dX7_bitsOf_50 ?_
        refine lv_fcmp kx kb dX7_bitsOf_51 ?_
        refine lv_if_ge (tgt := 68) kx kb dX7_bitsOf_52 (by decide) (fun c_4 => ?_) (fun c_4 => ?_)
        · rw [show 126 - k = (126 - k - 1) + 1 by omega, bB, if_pos c_4] at hB
          obtain ⟨rfl, rfl⟩ : v3 = s2 ∧ e3 = e2 := by cases hB; exact ⟨rfl, rfl⟩
          have hE2 : nnb (FP.fsub v3 FP.fconst1) = true ∧ nnb (FP.fmul (FP.fsub v3 FP.fconst1) (1258291200 : UInt32)) = true := by
            by_cases z : nnb (FP.fsub v3 FP.fconst1) = true ∧ nnb (FP.fmul (FP.fsub v3 FP.fconst1) (1258291200 : UInt32)) = true
            · exact z
            · rw [bE, if_neg z] at hE1; cases hE1
          rw [bE, if_pos hE2] at hE1
          refine lv_iload_n kx kb dX7_bitsOf_68 rfl (lv_at hl 1 rfl) ?_
          refine lv_bipush (v := nI 23) kx kb dX7_bitsOf_69 (by decide) ?_
          refine lv_ishl kx kb dX7_bitsOf_71 ?_
          refine lv_fload_n kx kb dX7_bitsOf_72 rfl (lv_at hl 0 rfl) ?_
          refine lv_fconst1 kx kb dX7_bitsOf_73 ?_
          refine lv_fsub kx kb dX7_bitsOf_74 (nnb_n hE2.1) ?_
          refine lv_ldcwf X q2_165 dX7_bitsOf_75 ?_
          refine lv_fmul kx kb dX7_bitsOf_78 (nnb_n hE2.2) ?_
          refine lv_f2i kx kb dX7_bitsOf_79 ?_
          refine lv_iadd kx kb dX7_bitsOf_80 ?_
          exact w_iret X h ⟨Option.some.inj hE1, rfl⟩ dX7_bitsOf_81
        · have hB0 := hB
          rw [show 126 - k = (126 - k - 1) + 1 by omega, bB, if_neg c_4] at hB0
          have hnq2 : nnb (FP.fmul v3 FP.fconst2) = true := by
            by_cases z : nnb (FP.fmul v3 FP.fconst2) = true
            · exact z
            · rw [if_neg z] at hB0; cases hB0
          rw [if_pos hnq2] at hB0
          have hB2 : bB (126 - (k + 1)) (FP.fmul v3 FP.fconst2) (e3 + (-1)) = some (s2, e2) := by rw [show 126 - (k + 1) = 126 - k - 1 by omega]; exact hB0
          refine lv_fload_n kx kb dX7_bitsOf_55 rfl (lv_at hl 0 rfl) ?_
          refine lv_fconst2 kx kb dX7_bitsOf_56 ?_
          refine lv_fmul kx kb dX7_bitsOf_57 (nnb_n hnq2) ?_
          refine lv_fstore_n (lv' := [(1, .float (FP.fmul v3 FP.fconst2)), (2, .int e3), (3, .int (nI k))]) kx kb dX7_bitsOf_58 rfl hl (by decide) rfl (fun ls hl => ?_)
          refine lv_iinc (v := e3 + (-1)) (lv' := [(2, .int (e3 + (-1))), (1, .float (FP.fmul v3 FP.fconst2)), (3, .int (nI k))]) kx kb dX7_bitsOf_59 hl (k := 1) rfl (rfl) (by decide) rfl (fun ls hl => ?_)
          refine lv_iinc (v := nI (k + 1)) (lv' := [(3, .int (nI (k + 1))), (2, .int (e3 + (-1))), (1, .float (FP.fmul v3 FP.fconst2))]) kx kb dX7_bitsOf_62 hl (k := 2) rfl (nI_add _ _) (by decide) rfl (fun ls hl => ?_)
          refine lv_goto (tgt := 43) kx kb dX7_bitsOf_65 (by decide) ?_
          exact ih (k + 1) (FP.fmul v3 FP.fconst2) (e3 + (-1)) _ _ _ ⟨h, lv_sub hl [2, 1, 0] rfl, by omega, hB2⟩ (by omega)
    · refine lv_fload_n kx kb dX7_bitsOf_22 rfl (lv_at hl 0 rfl) ?_
      refine lv_fconst2 kx kb dX7_bitsOf_23 ?_
      refine lv_fcmp kx kb dX7_bitsOf_24 ?_
      refine lv_if_lt (tgt := 41) kx kb dX7_bitsOf_25 (by decide) (fun c_5 => ?_) (fun c_5 => ?_)
      · rw [show 128 - i = (128 - i - 1) + 1 by omega, bA, if_pos c_5] at hA
        obtain ⟨rfl, rfl⟩ : v1 = s1 ∧ e0 = e1 := by cases hA; exact ⟨rfl, rfl⟩
        refine lv_iconst (v := nI 0) kx kb dX7_bitsOf_41 (by decide) ?_
        refine lv_istore_n (lv' := [(3, .int (nI 0)), (1, .float v1), (2, .int e0)]) kx kb dX7_bitsOf_42 rfl hl (by decide) rfl (fun ls hl => ?_)
        refine w_loop3 (fun (k : Nat) (v3 : UInt32) (e3 : Int32) => 126 - k) (fun (k : Nat) (v3 : UInt32) (e3 : Int32) H locs ls => Hx g N ad F A s H locs ∧ lv_has ls 4 [(1, .float v3), (2, .int e3), (3, .int (nI k))] ∧ (k ≤ 126) ∧ (bB (126 - k) v3 e3 = some (s2, e2))) ?_ 0 v1 e0 ⟨h, lv_sub hl [1, 2, 0] rfl, Nat.zero_le _, hB1⟩
        intro k v3 e3 H locs ls hinv ih
        obtain ⟨h, hl, hk, hB⟩ := hinv
        refine lv_iload_n kx kb dX7_bitsOf_43 rfl (lv_at hl 2 rfl) ?_
        refine lv_bipush (v := nI 126) kx kb dX7_bitsOf_44 (by decide) ?_
        refine w_cmp_ge (tgt := 68) kx kb (by omega) (by omega) dX7_bitsOf_46 (by decide) (fun c_6 => ?_) (fun c_6 => ?_)
        · rw [show 126 - k = 0 by omega, bB] at hB
          obtain ⟨rfl, rfl⟩ : v3 = s2 ∧ e3 = e2 := by cases hB; exact ⟨rfl, rfl⟩
          have hE2 : nnb (FP.fsub v3 FP.fconst1) = true ∧ nnb (FP.fmul (FP.fsub v3 FP.fconst1) (1258291200 : UInt32)) = true := by
            by_cases z : nnb (FP.fsub v3 FP.fconst1) = true ∧ nnb (FP.fmul (FP.fsub v3 FP.fconst1) (1258291200 : UInt32)) = true
            · exact z
            · rw [bE, if_neg z] at hE1; cases hE1
          rw [bE, if_pos hE2] at hE1
          refine lv_iload_n kx kb dX7_bitsOf_68 rfl (lv_at hl 1 rfl) ?_
          refine lv_bipush (v := nI 23) kx kb dX7_bitsOf_69 (by decide) ?_
          refine lv_ishl kx kb dX7_bitsOf_71 ?_
          refine lv_fload_n kx kb dX7_bitsOf_72 rfl (lv_at hl 0 rfl) ?_
          refine lv_fconst1 kx kb dX7_bitsOf_73 ?_
          refine lv_fsub kx kb dX7_bitsOf_74 (nnb_n hE2.1) ?_
          refine lv_ldcwf X q2_165 dX7_bitsOf_75 ?_
          refine lv_fmul kx kb dX7_bitsOf_78 (nnb_n hE2.2) ?_
          refine lv_f2i kx kb dX7_bitsOf_79 ?_
          refine lv_iadd kx kb dX7_bitsOf_80 ?_
          exact w_iret X h ⟨Option.some.inj hE1, rfl⟩ dX7_bitsOf_81
        · refine lv_fload_n kx kb dX7_bitsOf_49 rfl (lv_at hl 0 rfl) ?_
          refine lv_fconst1 kx kb dX7_bitsOf_50 ?_
          refine lv_fcmp kx kb dX7_bitsOf_51 ?_
          refine lv_if_ge (tgt := 68) kx kb dX7_bitsOf_52 (by decide) (fun c_7 => ?_) (fun c_7 => ?_)
          · rw [show 126 - k = (126 - k - 1) + 1 by omega, bB, if_pos c_7] at hB
            obtain ⟨rfl, rfl⟩ : v3 = s2 ∧ e3 = e2 := by cases hB; exact ⟨rfl, rfl⟩
            have hE2 : nnb (FP.fsub v3 FP.fconst1) = true ∧ nnb (FP.fmul (FP.fsub v3 FP.fconst1) (1258291200 : UInt32)) = true := by
              by_cases z : nnb (FP.fsub v3 FP.fconst1) = true ∧ nnb (FP.fmul (FP.fsub v3 FP.fconst1) (1258291200 : UInt32)) = true
              · exact z
              · rw [bE, if_neg z] at hE1; cases hE1
            rw [bE, if_pos hE2] at hE1
            refine lv_iload_n kx kb dX7_bitsOf_68 rfl (lv_at hl 1 rfl) ?_
            refine lv_bipush (v := nI 23) kx kb dX7_bitsOf_69 (by decide) ?_
            refine lv_ishl kx kb dX7_bitsOf_71 ?_
            refine lv_fload_n kx kb dX7_bitsOf_72 rfl (lv_at hl 0 rfl) ?_
            refine lv_fconst1 kx kb dX7_bitsOf_73 ?_
            refine lv_fsub kx kb dX7_bitsOf_74 (nnb_n hE2.1) ?_
            refine lv_ldcwf X q2_165 dX7_bitsOf_75 ?_
            refine lv_fmul kx kb dX7_bitsOf_78 (nnb_n hE2.2) ?_
            refine lv_f2i kx kb dX7_bitsOf_79 ?_
            refine lv_iadd kx kb dX7_bitsOf_80 ?_
            exact w_iret X h ⟨Option.some.inj hE1, rfl⟩ dX7_bitsOf_81
          · have hB0 := hB
            rw [show 126 - k = (126 - k - 1) + 1 by omega, bB, if_neg c_7] at hB0
            have hnq2 : nnb (FP.fmul v3 FP.fconst2) = true := by
              by_cases z : nnb (FP.fmul v3 FP.fconst2) = true
              · exact z
              · rw [if_neg z] at hB0; cases hB0
            rw [if_pos hnq2] at hB0
            have hB2 : bB (126 - (k + 1)) (FP.fmul v3 FP.fconst2) (e3 + (-1)) = some (s2, e2) := by rw [show 126 - (k + 1) = 126 - k - 1 by omega]; exact hB0
            refine lv_fload_n kx kb dX7_bitsOf_55 rfl (lv_at hl 0 rfl) ?_
            refine lv_fconst2 kx kb dX7_bitsOf_56 ?_
            refine lv_fmul kx kb dX7_bitsOf_57 (nnb_n hnq2) ?_
            refine lv_fstore_n (lv' := [(1, .float (FP.fmul v3 FP.fconst2)), (2, .int e3), (3, .int (nI k))]) kx kb dX7_bitsOf_58 rfl hl (by decide) rfl (fun ls hl => ?_)
            refine lv_iinc (v := e3 + (-1)) (lv' := [(2, .int (e3 + (-1))), (1, .float (FP.fmul v3 FP.fconst2)), (3, .int (nI k))]) kx kb dX7_bitsOf_59 hl (k := 1) rfl (rfl) (by decide) rfl (fun ls hl => ?_)
            refine lv_iinc (v := nI (k + 1)) (lv' := [(3, .int (nI (k + 1))), (2, .int (e3 + (-1))), (1, .float (FP.fmul v3 FP.fconst2))]) kx kb dX7_bitsOf_62 hl (k := 2) rfl (nI_add _ _) (by decide) rfl (fun ls hl => ?_)
            refine lv_goto (tgt := 43) kx kb dX7_bitsOf_65 (by decide) ?_
            exact ih (k + 1) (FP.fmul v3 FP.fconst2) (e3 + (-1)) _ _ _ ⟨h, lv_sub hl [2, 1, 0] rfl, by omega, hB2⟩ (by omega)
      · have hA0 := hA
        rw [show 128 - i = (128 - i - 1) + 1 by omega, bA, if_neg c_5] at hA0
        have hnq : nnb (FP.fdiv v1 FP.fconst2) = true := by
          by_cases z : nnb (FP.fdiv v1 FP.fconst2) = true
          · exact z
          · rw [if_neg z] at hA0; cases hA0
        rw [if_pos hnq] at hA0
        have hA2 : bA (128 - (i + 1)) (FP.fdiv v1 FP.fconst2) (e0 + 1) = some (s1, e1) := by rw [show 128 - (i + 1) = 128 - i - 1 by omega]; exact hA0
        refine lv_fload_n kx kb dX7_bitsOf_28 rfl (lv_at hl 0 rfl) ?_
        refine lv_fconst2 kx kb dX7_bitsOf_29 ?_
        refine lv_fdiv kx kb dX7_bitsOf_30 (nnb_n hnq) ?_
        refine lv_fstore_n (lv' := [(1, .float (FP.fdiv v1 FP.fconst2)), (2, .int e0), (3, .int (nI i))]) kx kb dX7_bitsOf_31 rfl hl (by decide) rfl (fun ls hl => ?_)
        refine lv_iinc (v := e0 + 1) (lv' := [(2, .int (e0 + 1)), (1, .float (FP.fdiv v1 FP.fconst2)), (3, .int (nI i))]) kx kb dX7_bitsOf_32 hl (k := 1) rfl (rfl) (by decide) rfl (fun ls hl => ?_)
        refine lv_iinc (v := nI (i + 1)) (lv' := [(3, .int (nI (i + 1))), (2, .int (e0 + 1)), (1, .float (FP.fdiv v1 FP.fconst2))]) kx kb dX7_bitsOf_35 hl (k := 2) rfl (nI_add _ _) (by decide) rfl (fun ls hl => ?_)
        refine lv_goto (tgt := 15) kx kb dX7_bitsOf_38 (by decide) ?_
        exact ih (i + 1) (FP.fdiv v1 FP.fconst2) (e0 + 1) _ _ _ ⟨h, lv_sub hl [2, 1, 0] rfl, by omega, hA2⟩ (by omega)
  · refine lv_iconst (v := nI 0) kx kb dX7_bitsOf_6 (by decide) ?_
    exact w_iret X h ⟨by rw [bits, if_neg c_1] at hr; exact Option.some.inj hr, rfl⟩ dX7_bitsOf_7
set_option maxRecDepth 20000 in
theorem c_X7_laughBits (l : Launch) (g : gT) {N : Nat} {ad : Nat → Nat} {F : Nat → va_E} (x : SX) (q : Nat → Int32) (hp : oP0 g N ad F q) (hs : oSt g N ad F 1 x) (hn : x.1 ≤ 12) (htn : xtn x ≤ 64) (a b rr : Int32) (hr : ∀ k gr : Nat, a = nI k → b = nI gr → k < x.1 → gr ≤ 50 → lnn (xj x 3 k) (xj x 4 k) (nI gr) ∧ bits (lfO (xj x 3 k) (xj x 4 k) (nI gr)) = some rr) : CtI l yX7_laughBits cX7_laughBits 3 (some .int) 2 44 g N ad F [.ref (ad 0), .int a, .int b] (fun r F' => r = (if hasJ x.1 a then (if inW b (nI 0) (nI 50) then rr else -2) else -1) ∧ F' = F) := by
  refine CtI_of (by decide) (Nat.le_of_ble_eq_true rfl) ?_
  intro p e s m args below meth c A H ls X M h hl
  have kx := X.1.1
  have kb := X.1.2.1
  have hl : lv_has ls 3 [(0, .ref (ad 0)), (1, .int a), (2, .int b)] := hl
  have hN0 := hp.1
  have htn2 : x.2.2.1 ≤ 64 := htn
  refine lv_aload_n kx kb dX7_laughBits_0 rfl (lv_at hl 0 rfl) ?_
  refine w_get X M h 0 hp.2 (by omega) fl_X7_12 rfl dX7_laughBits_1 ?_
  refine w_get X M h 1 hs.2.1 (by omega) fl_X7_121 rfl dX7_laughBits_4 ?_
  refine lv_iload_n kx kb dX7_laughBits_7 rfl (lv_at hl 1 rfl) ?_
  refine w_readVi X M h [.int a] [] ((c_X1_has l g 2 x.1 x.2.1 ⟨by omega, hs.2.2.1.2.1, ⟨by omega, hs.2.2.1.2.2.1.2.1, hs.2.2.1.2.2.1.2.2⟩, ⟨by omega, hs.2.2.1.2.2.2.1.2.1, hs.2.2.1.2.2.2.1.2.2⟩, ⟨by omega, hs.2.2.1.2.2.2.2.1.2.1, hs.2.2.1.2.2.2.2.1.2.2⟩, ⟨by omega, hs.2.2.1.2.2.2.2.2.1.2.1, hs.2.2.1.2.2.2.2.2.1.2.2⟩, ⟨by omega, hs.2.2.1.2.2.2.2.2.2.2.1, hs.2.2.1.2.2.2.2.2.2.2.2⟩⟩ (by omega) a)) lk_X7_131 hs.2.2.1.2.1 (by omega) rfl rfl ⟨by decide, by decide⟩ hl ⟨Nat.zero_le _, Nat.zero_le _⟩ (Nat.le_of_ble_eq_true rfl) rfl dX7_laughBits_8 (fun H locs h => ?_)
  refine w_if_neb (tgt := 16) kx kb dX7_laughBits_11 (by decide) (fun c_1 => ?_) (fun c_1 => ?_)
  · obtain ⟨k, hk, rfl⟩ := hasJ_of (by omega) c_1
    refine lv_iload_n kx kb dX7_laughBits_16 rfl (lv_at hl 2 rfl) ?_
    refine lv_iconst (v := nI 0) kx kb dX7_laughBits_17 (by decide) ?_
    refine lv_bipush (v := nI 50) kx kb dX7_laughBits_18 (by decide) ?_
    refine w_readSi X M h [.int b, .int (nI 0), .int (nI 50)] [] ((c_X7_isWithin l g b (nI 0) (nI 50))) lk_X7_180 rfl ⟨by decide, by decide⟩ hl ⟨Nat.zero_le _, Nat.zero_le _⟩ (Nat.le_of_ble_eq_true rfl) rfl dX7_laughBits_20 (fun H locs h => ?_)
    refine w_if_neb (tgt := 29) kx kb dX7_laughBits_23 (by decide) (fun c_2 => ?_) (fun c_2 => ?_)
    · obtain ⟨gr, hg0, hg, rfl⟩ := inW_of (by decide) (by decide) c_2
      obtain ⟨hr1, hr2⟩ := hr k gr rfl rfl hk hg
      refine lv_aload_n kx kb dX7_laughBits_29 rfl (lv_at hl 0 rfl) ?_
      refine w_get X M h 0 hp.2 (by omega) fl_X7_12 rfl dX7_laughBits_30 ?_
      refine lv_iload_n kx kb dX7_laughBits_33 rfl (lv_at hl 1 rfl) ?_
      refine lv_iload_n kx kb dX7_laughBits_34 rfl (lv_at hl 2 rfl) ?_
      refine w_readVf X M h [.int (nI k), .int (nI gr)] [] ((c_X4_laughOf l g 1 x ⟨by omega, hs.2.1, ⟨by omega, hs.2.2.1.2.1, ⟨by omega, hs.2.2.1.2.2.1.2.1, hs.2.2.1.2.2.1.2.2⟩, ⟨by omega, hs.2.2.1.2.2.2.1.2.1, hs.2.2.1.2.2.2.1.2.2⟩, ⟨by omega, hs.2.2.1.2.2.2.2.1.2.1, hs.2.2.1.2.2.2.2.1.2.2⟩, ⟨by omega, hs.2.2.1.2.2.2.2.2.1.2.1, hs.2.2.1.2.2.2.2.2.1.2.2⟩, ⟨by omega, hs.2.2.1.2.2.2.2.2.2.2.1, hs.2.2.1.2.2.2.2.2.2.2.2⟩⟩, ⟨by omega, hs.2.2.2.1.2.1, ⟨by omega, hs.2.2.2.1.2.2.1.2.1, hs.2.2.2.1.2.2.1.2.2⟩, ⟨by omega, hs.2.2.2.1.2.2.2.1.2.1, hs.2.2.2.1.2.2.2.1.2.2⟩, hs.2.2.2.1.2.2.2.2.1, ⟨by omega, hs.2.2.2.1.2.2.2.2.2.2.1, hs.2.2.2.1.2.2.2.2.2.2.2⟩⟩, ⟨by omega, hs.2.2.2.2.2.1, hs.2.2.2.2.2.2⟩⟩ k (by omega) (nI gr) (hr1))) lk_X7_199 hs.2.1 (by omega) rfl rfl ⟨by decide, by decide⟩ hl ⟨Nat.zero_le _, Nat.zero_le _⟩ (Nat.le_of_ble_eq_true rfl) rfl dX7_laughBits_35 (fun H locs h => ?_)
      refine w_readSi X M h [.float (lfO (x.2.1 3 k) (x.2.1 4 k) (nI gr))] [] ((c_X7_bitsOf l g (lfO (x.2.1 3 k) (x.2.1 4 k) (nI gr)) rr hr2)) lk_X7_203 rfl ⟨by decide, by decide⟩ hl ⟨Nat.zero_le _, Nat.zero_le _⟩ (Nat.le_of_ble_eq_true rfl) rfl dX7_laughBits_38 (fun H locs h => ?_)
      exact w_iret X h ⟨by rw [if_pos c_1, if_pos c_2], rfl⟩ dX7_laughBits_41
    · refine lv_bipush (v := (-2)) kx kb dX7_laughBits_26 (by decide) ?_
      exact w_iret X h ⟨by rw [if_pos c_1, if_neg c_2], rfl⟩ dX7_laughBits_28
  · refine lv_iconst (v := (-1)) kx kb dX7_laughBits_14 (by decide) ?_
    exact w_iret X h ⟨by rw [if_neg c_1], rfl⟩ dX7_laughBits_15
set_option maxRecDepth 20000 in
theorem c_X7_liftedOf (l : Launch) (g : gT) {N : Nat} {ad : Nat → Nat} {F : Nat → va_E} (x : SX) (q : Nat → Int32) (hp : oP0 g N ad F q) (hs : oSt g N ad F 1 x) (hn : x.1 ≤ 12) (htn : xtn x ≤ 64) (a wh : Int32) (lb : Nat → Int32) (hlb : ∀ k, k < xtn x → bits (xlf x k) = some (lb k)) : CtI l yX7_liftedOf cX7_liftedOf 5 (some .int) 1 23 g N ad F [.ref (ad 0), .int a, .int wh] (fun r F' => r = (liftedF x a wh lb) ∧ F' = F) := by
  refine CtI_of (by decide) (Nat.le_of_ble_eq_true rfl) ?_
  intro p e s m args below meth c A H ls X M h hl
  have kx := X.1.1
  have kb := X.1.2.1
  have hl : lv_has ls 5 [(0, .ref (ad 0)), (1, .int a), (2, .int wh)] := hl
  have hN0 := hp.1
  have htn2 : x.2.2.1 ≤ 64 := htn
  refine lv_aload_n kx kb dX7_liftedOf_0 rfl (lv_at hl 0 rfl) ?_
  refine w_get X M h 0 hp.2 (by omega) fl_X7_12 rfl dX7_liftedOf_1 ?_
  refine w_get X M h 1 hs.2.1 (by omega) fl_X7_171 rfl dX7_liftedOf_4 ?_
  refine lv_astore_n (lv' := [(3, .ref (ad 13)), (0, .ref (ad 0)), (1, .int a), (2, .int wh)]) kx kb dX7_liftedOf_7 rfl hl (by decide) rfl (fun ls hl => ?_)
  refine lv_iload_n kx kb dX7_liftedOf_8 rfl (lv_at hl 2 rfl) ?_
  refine lv_iconst (v := nI 0) kx kb dX7_liftedOf_9 (by decide) ?_
  refine lv_aload_n kx kb dX7_liftedOf_10 rfl (lv_at hl 0 rfl) ?_
  refine w_get X M h 13 hs.2.2.2.1.2.1 (by omega) fl_X7_215 rfl dX7_liftedOf_11 ?_
  refine lv_iconst (v := nI 1) kx kb dX7_liftedOf_14 (by decide) ?_
  refine lv_isub kx kb dX7_liftedOf_15 ?_
  refine w_readSi X M h [.int a, .int (nI 0), .int ((nI x.2.2.1) - (nI 1))] [] ((c_X7_isWithin l g a (nI 0) ((nI x.2.2.1) - (nI 1)))) lk_X7_180 rfl ⟨by decide, by decide⟩ hl ⟨Nat.zero_le _, Nat.zero_le _⟩ (Nat.le_of_ble_eq_true rfl) rfl dX7_liftedOf_16 (fun H locs h => ?_)
  refine w_if_neb (tgt := 24) kx kb dX7_liftedOf_19 (by decide) (fun c_1 => ?_) (fun c_1 => ?_)
  · obtain ⟨k, hk, rfl⟩ := inW_pl (by omega) c_1
    refine lv_aload_n kx kb dX7_liftedOf_24 rfl (lv_at hl 0 rfl) ?_
    refine w_get X M h 13 hs.2.2.2.1.2.1 (by omega) fl_X7_215 rfl dX7_liftedOf_25 ?_
    refine lv_iconst (v := nI 1) kx kb dX7_liftedOf_28 (by decide) ?_
    refine w_subn kx kb (by omega) dX7_liftedOf_29 ?_
    refine lv_iload_n kx kb dX7_liftedOf_30 rfl (lv_at hl 2 rfl) ?_
    refine w_subn kx kb (by omega) dX7_liftedOf_31 ?_
    refine lv_istore (lv' := [(4, .int (nI ((x.2.2.1 - 1) - k))), (3, .ref (ad 13)), (0, .ref (ad 0)), (1, .int (nI k)), (2, .int wh)]) kx kb dX7_liftedOf_32 hl (by decide) rfl (fun ls hl => ?_)
    refine lv_iload_n kx kb dX7_liftedOf_34 rfl (lv_at hl 4 rfl) ?_
    rcases sw_of wh 3 (by decide) with ⟨k2, hk2, hvk2⟩ | ⟨hsw, hne⟩
    · rcases (show k2 = 0 ∨ k2 = 1 ∨ k2 = 2 by omega) with rfl | rfl | rfl
      · subst hvk2
        refine lv_tableIn (tgt := 60) (off := 25) kx kb dX7_liftedOf_35 (by decide) (by decide) (by decide) (by decide) ?_
        refine lv_aload_n kx kb dX7_liftedOf_60 rfl (lv_at hl 1 rfl) ?_
        refine w_get X M h 13 hs.2.2.2.1.2.1 (by omega) fl_X7_216 rfl dX7_liftedOf_61 ?_
        refine lv_iload kx kb dX7_liftedOf_64 (lv_at hl 0 rfl) ?_
        refine w_readVi X M h [.int (nI ((x.2.2.1 - 1) - k))] [] ((c_X3_at_n l g 14 64 (x.2.2.2.2.1 0) ((x.2.2.1 - 1) - k) ⟨by omega, hs.2.2.2.1.2.2.1.2.1, hs.2.2.2.1.2.2.1.2.2⟩ (by omega) (by omega))) lk_X7_139 hs.2.2.2.1.2.2.1.2.1 (by omega) rfl rfl ⟨by decide, by decide⟩ hl ⟨Nat.zero_le _, Nat.zero_le _⟩ (Nat.le_of_ble_eq_true rfl) rfl dX7_liftedOf_66 (fun H locs h => ?_)
        exact w_iret X h ⟨by rw [liftedF, if_pos c_1, if_pos rfl, cl_n (by omega)], rfl⟩ dX7_liftedOf_69
      · subst hvk2
        refine lv_tableIn (tgt := 70) (off := 35) kx kb dX7_liftedOf_35 (by decide) (by decide) (by decide) (by decide) ?_
        refine lv_aload_n kx kb dX7_liftedOf_70 rfl (lv_at hl 1 rfl) ?_
        refine w_get X M h 13 hs.2.2.2.1.2.1 (by omega) fl_X7_217 rfl dX7_liftedOf_71 ?_
        refine lv_iload kx kb dX7_liftedOf_74 (lv_at hl 0 rfl) ?_
        refine w_readVi X M h [.int (nI ((x.2.2.1 - 1) - k))] [] ((c_X3_at_n l g 16 64 (x.2.2.2.2.1 1) ((x.2.2.1 - 1) - k) ⟨by omega, hs.2.2.2.1.2.2.2.1.2.1, hs.2.2.2.1.2.2.2.1.2.2⟩ (by omega) (by omega))) lk_X7_139 hs.2.2.2.1.2.2.2.1.2.1 (by omega) rfl rfl ⟨by decide, by decide⟩ hl ⟨Nat.zero_le _, Nat.zero_le _⟩ (Nat.le_of_ble_eq_true rfl) rfl dX7_liftedOf_76 (fun H locs h => ?_)
        exact w_iret X h ⟨by rw [liftedF, if_pos c_1, if_neg (show ¬ nI 1 = nI 0 by decide), if_pos rfl, cl_n (by omega)], rfl⟩ dX7_liftedOf_79
      · subst hvk2
        refine lv_tableIn (tgt := 80) (off := 45) kx kb dX7_liftedOf_35 (by decide) (by decide) (by decide) (by decide) ?_
        refine lv_aload_n kx kb dX7_liftedOf_80 rfl (lv_at hl 1 rfl) ?_
        refine lv_iload kx kb dX7_liftedOf_81 (lv_at hl 0 rfl) ?_
        refine w_readVf X M h [.int (nI ((x.2.2.1 - 1) - k))] [] ((c_X6_laughAt l g 13 x.2.2.1 x.2.2.2.1 x.2.2.2.2.1 x.2.2.2.2.2.1 ⟨by omega, hs.2.2.2.1.2.1, ⟨by omega, hs.2.2.2.1.2.2.1.2.1, hs.2.2.2.1.2.2.1.2.2⟩, ⟨by omega, hs.2.2.2.1.2.2.2.1.2.1, hs.2.2.2.1.2.2.2.1.2.2⟩, hs.2.2.2.1.2.2.2.2.1, ⟨by omega, hs.2.2.2.1.2.2.2.2.2.2.1, hs.2.2.2.1.2.2.2.2.2.2.2⟩⟩ (by omega) ((x.2.2.1 - 1) - k) (by omega))) lk_X7_218 hs.2.2.2.1.2.1 (by omega) rfl rfl ⟨by decide, by decide⟩ hl ⟨Nat.zero_le _, Nat.zero_le _⟩ (Nat.le_of_ble_eq_true rfl) rfl dX7_liftedOf_83 (fun H locs h => ?_)
        refine w_readSi X M h [.float (x.2.2.2.2.2.1 ((x.2.2.1 - 1) - k))] [] ((c_X7_bitsOf l g (x.2.2.2.2.2.1 ((x.2.2.1 - 1) - k)) (lb (xtn x - 1 - k)) (hlb _ (show _ < x.2.2.1 by omega)))) lk_X7_203 rfl ⟨by decide, by decide⟩ hl ⟨Nat.zero_le _, Nat.zero_le _⟩ (Nat.le_of_ble_eq_true rfl) rfl dX7_liftedOf_86 (fun H locs h => ?_)
        exact w_iret X h ⟨by rw [liftedF, if_pos c_1, if_neg (show ¬ nI 2 = nI 0 by decide), if_neg (show ¬ nI 2 = nI 1 by decide), if_pos rfl, cl_n (by omega)], rfl⟩ dX7_liftedOf_89
    · refine lv_tableOut (tgt := 90) kx kb dX7_liftedOf_35 hsw (by decide) ?_
      refine lv_bipush (v := (-2)) kx kb dX7_liftedOf_90 (by decide) ?_
      exact w_iret X h ⟨by rw [liftedF, if_pos c_1, if_neg (hne 0 (by omega)), if_neg (hne 1 (by omega)), if_neg (hne 2 (by omega))], rfl⟩ dX7_liftedOf_92
  · refine lv_iconst (v := (-1)) kx kb dX7_liftedOf_22 (by decide) ?_
    exact w_iret X h ⟨by rw [liftedF, if_neg c_1], rfl⟩ dX7_liftedOf_23
