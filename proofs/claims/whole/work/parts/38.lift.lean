theorem ixO_nx {p : Nat → Bool} {n : Nat} {nx : Int32} (h : nx = ixO p n) (c : ¬ nx < 0) : ∃ k, k < n ∧ ixO p n = nI k ∧ nx = nI k := by
  subst h
  rw [ixO] at c ⊢
  split at c
  · rename_i q
    rw [if_pos q]
    exact ⟨_, q, rfl, rfl⟩
  · exact absurd (by decide) c
theorem lift_step2 {x : SX} (h : Inv x) {k sg : Nat} (hk : k < x.1) (hi : ixO (bdP x.2.1 x.1 (nI (x.2.2.2.2.2.2.2 0)) (nI 0)) x.1 = nI k) (hd : x.2.1 1 k ≤ nI (x.2.2.2.2.2.2.2 2)) (hs : x.2.1 2 k = nI sg) (hsg : sg < 64) : liftF x = lift1 x k sg ∧ Inv (lift1 x k sg) ∧ stW (lift1 x k sg) + 1 = stW x := by
  have hn := h.n
  obtain ⟨k', sg', h1, h2, h3, h4, h5, h6⟩ := lift_step h ((lift_more h).mpr ⟨k, hk, hi, hd⟩)
  have e : k' = k := nI_inj (by have := h1.1; omega) (by omega) (h2.symm.trans hi)
  subst e
  have e2 : sg' = sg := nI_inj (by have := h1.2.2.2.2.1; omega) (by omega) (h1.2.2.2.1.symm.trans hs)
  subst e2
  exact ⟨h3, h4, h5⟩
theorem lift_none {x : SX} (h : Inv x) (hi : ixO (bdP x.2.1 x.1 (nI (x.2.2.2.2.2.2.2 0)) (nI 0)) x.1 < 0) : stW x = 0 := by
  have hn := h.n
  rcases Nat.eq_zero_or_pos (stW x) with e | e
  · exact e
  · obtain ⟨k, h1, h2, h3⟩ := (lift_more h).mp e
    rw [h2] at hi
    exact absurd hi (nI_pos (by omega))
theorem lift_deep {x : SX} (h : Inv x) {k : Nat} (hk : k < x.1) (hi : ixO (bdP x.2.1 x.1 (nI (x.2.2.2.2.2.2.2 0)) (nI 0)) x.1 = nI k) (hd : nI (x.2.2.2.2.2.2.2 2) < x.2.1 1 k) : stW x = 0 := by
  have hn := h.n
  rcases Nat.eq_zero_or_pos (stW x) with e | e
  · exact e
  · obtain ⟨k', h1, h2, h3⟩ := (lift_more h).mp e
    have e2 : k' = k := nI_inj (by omega) (by omega) (h2.symm.trans hi)
    subst e2
    exact absurd h3 (Int32.not_le.mpr hd)
set_option maxRecDepth 20000 in
theorem c_X8_is0 (l : Launch) (g : gT) {N : Nat} {ad : Nat → Nat} {F : Nat → va_E} (u : Nat → Int32) (v : Nat → Nat) (hm : oM g N ad F u v) (W : Nat → Int32) (hW : arI g F 255 274 W) (k q : Nat) (hk : k < 12) (hq : q < 5) (r : Int32) (hr : W (22 + 5 * k + q) = r)  : CtI l yX8_is cX8_is 3 (some .int) 0 0 g N ad F [.ref (ad 254), .int (nI k), .int (nI q)] (fun r' F' => r' = r ∧ F' = F) := by
  refine CtI_of (by decide) (Nat.le_of_ble_eq_true rfl) ?_
  intro p e s m args below meth c A H ls X M h hl
  have kx := X.1.1
  have kb := X.1.2.1
  have hl : lv_has ls 3 [(0, .ref (ad 254)), (1, .int (nI k)), (2, .int (nI q))] := hl
  have hN0 := hm.1
  refine lv_aload_n kx kb dX8_is_0 rfl (lv_at hl 0 rfl) ?_
  refine w_get X M h 254 hm.2 (by omega) fl_X8_32 rfl dX8_is_1 ?_
  refine lv_bipush (v := nI 22) kx kb dX8_is_4 (by decide) ?_
  refine lv_iconst (v := nI 5) kx kb dX8_is_6 (by decide) ?_
  refine lv_iload_n kx kb dX8_is_7 rfl (lv_at hl 1 rfl) ?_
  refine w_muln kx kb dX8_is_8 ?_
  refine w_addn kx kb dX8_is_9 ?_
  refine lv_iload_n kx kb dX8_is_10 rfl (lv_at hl 2 rfl) ?_
  refine w_addn kx kb dX8_is_11 ?_
  refine w_iald X M h 255 hW (by omega) (22 + (5 * k) + q) (rfl) (by omega) (by omega) dX8_is_12 ?_
  exact w_iret X h ⟨hr, rfl⟩ dX8_is_13
set_option maxRecDepth 20000 in
theorem c_X8_lifts (l : Launch) (g : gT) {N : Nat} {ad : Nat → Nat} {F : Nat → va_E} (u : Nat → Int32) (v : Nat → Nat) (hm : oM g N ad F u v) (x : SX) (hI : Inv x) (W : Nat → Int32) (hW : arI g F 255 274 W) (hR : RW x W) (k sg : Nat) (hk : k < x.1) (hks : x.2.1 2 k = nI sg) (hsg0 : sg < 64)  : CtV l yX8_lifts cX8_lifts 5 none 2 45 g N ad F [.ref (ad 254), .int (nI k)] (fun F' => oX g F' 255 (lift1 x k sg) ∧ ∀ i, i ≠ 255 → F' i = F i) := by
  refine CtV_of (by decide) (Nat.le_of_ble_eq_true rfl) ?_
  intro p e s m args below meth c A H ls X M h hl
  have kx := X.1.1
  have kb := X.1.2.1
  have hl : lv_has ls 5 [(0, .ref (ad 254)), (1, .int (nI k))] := hl
  have hN0 := hm.1
  have hn12 := hI.n
  have htn64 := hI.tn
  obtain ⟨hz0, hz1a, hz1, hz2, hz3, hz4⟩ := hI.zz
  have hsg := hsg0
  obtain ⟨wl, hwl, hw⟩ : ∃ wl, wl < 4 ∧ x.2.1 0 k = nI wl := by
      obtain ⟨w, d, s, t, p, h1, h2, h3, h4, h5, h6, h7, h8, h9, h10, h11, h12, h13⟩ := hI.j hk
      exact ⟨w, h1, h8⟩
  have ht64 := hI.tlt hk
  have hlg : isL (lfO (x.2.1 3 k) (x.2.1 4 k) (nI (x.2.2.2.2.2.2.2 3))) := hI.isl hk (by omega)
  have hsn := nnF_add hI.smn hlg.nn
  refine lv_aload_n kx kb dX8_lifts_0 rfl (lv_at hl 0 rfl) ?_
  refine lv_iload_n kx kb dX8_lifts_1 rfl (lv_at hl 1 rfl) ?_
  refine lv_aload_n kx kb dX8_lifts_2 rfl (lv_at hl 0 rfl) ?_
  refine w_get X M h 254 hm.2 (by omega) fl_X8_32 rfl dX8_lifts_3 ?_
  refine lv_iconst (v := nI 4) kx kb dX8_lifts_6 (by decide) ?_
  refine w_iald X M h 255 hW (by omega) (4) (rfl) (by omega) (by omega) dX8_lifts_7 ?_
  refine w_top (y := nI (x.2.2.2.2.2.2.2 3)) (hR.z 3 (by omega)) ?_
  refine w_readVf X M h [.int (nI k), .int (nI (x.2.2.2.2.2.2.2 3))] [] ((c_X8_laughOf l g u v ⟨by omega, hm.2⟩ x hI W hW hR k (by omega) (x.2.2.2.2.2.2.2 3) (hI.lnn (by omega) (by omega)))) lk_X8_155 hm.2 (by omega) rfl rfl ⟨by decide, by decide⟩ hl ⟨Nat.zero_le _, Nat.zero_le _⟩ (Nat.le_of_ble_eq_true rfl) rfl dX8_lifts_8 (fun H locs h => ?_)
  refine lv_fstore_n (lv' := [(2, .float (lfO (x.2.1 3 k) (x.2.1 4 k) (nI (x.2.2.2.2.2.2.2 3)))), (0, .ref (ad 254)), (1, .int (nI k))]) kx kb dX8_lifts_11 rfl hl (by decide) rfl (fun ls hl => ?_)
  refine lv_aload_n kx kb dX8_lifts_12 rfl (lv_at hl 1 rfl) ?_
  refine lv_iload_n kx kb dX8_lifts_13 rfl (lv_at hl 2 rfl) ?_
  refine lv_iconst (v := nI 2) kx kb dX8_lifts_14 (by decide) ?_
  refine w_readVi X M h [.int (nI k), .int (nI 2)] [] ((c_X8_is l g u v ⟨by omega, hm.2⟩ x hI W hW hR k 2 (by omega) (by omega))) lk_X8_73 hm.2 (by omega) rfl rfl ⟨by decide, by decide⟩ hl ⟨Nat.zero_le _, Nat.zero_le _⟩ (Nat.le_of_ble_eq_true rfl) rfl dX8_lifts_15 (fun H locs h => ?_)
  refine w_top (y := nI sg) (hks) ?_
  refine lv_istore_n (lv' := [(3, .int (nI sg)), (2, .float (lfO (x.2.1 3 k) (x.2.1 4 k) (nI (x.2.2.2.2.2.2.2 3)))), (0, .ref (ad 254)), (1, .int (nI k))]) kx kb dX8_lifts_18 rfl hl (by decide) rfl (fun ls hl => ?_)
  refine lv_bipush (v := nI 82) kx kb dX8_lifts_19 (by decide) ?_
  refine lv_iconst (v := nI 3) kx kb dX8_lifts_21 (by decide) ?_
  refine lv_aload_n kx kb dX8_lifts_22 rfl (lv_at hl 2 rfl) ?_
  refine w_get X M h 254 hm.2 (by omega) fl_X8_32 rfl dX8_lifts_23 ?_
  refine lv_bipush (v := nI 6) kx kb dX8_lifts_26 (by decide) ?_
  refine w_iald X M h 255 hW (by omega) (6) (rfl) (by omega) (by omega) dX8_lifts_28 ?_
  refine w_top (y := nI x.2.2.1) (hR.t) ?_
  refine w_muln kx kb dX8_lifts_29 ?_
  refine w_addn kx kb dX8_lifts_30 ?_
  refine lv_istore (lv' := [(4, .int (nI (82 + (3 * x.2.2.1)))), (3, .int (nI sg)), (2, .float (lfO (x.2.1 3 k) (x.2.1 4 k) (nI (x.2.2.2.2.2.2.2 3)))), (0, .ref (ad 254)), (1, .int (nI k))]) kx kb dX8_lifts_31 hl (by decide) rfl (fun ls hl => ?_)
  refine lv_aload_n kx kb dX8_lifts_33 rfl (lv_at hl 3 rfl) ?_
  refine w_get X M h 254 hm.2 (by omega) fl_X8_32 rfl dX8_lifts_34 ?_
  refine lv_iload kx kb dX8_lifts_37 (lv_at hl 0 rfl) ?_
  refine lv_iload_n kx kb dX8_lifts_39 rfl (lv_at hl 1 rfl) ?_
  refine w_iast X M h 255 hW (by omega) (82 + (3 * x.2.2.1)) (rfl) (by omega) (by omega) dX8_lifts_40 (fun F1 H locs h he_F1 hf_F1 => ?_)
  have hR_2 : RW x (upd W (82 + (3 * x.2.2.1)) (nI sg)) := RW.congw hR (fun z hz => upd_ne (by omega))
  refine lv_aload_n kx kb dX8_lifts_41 rfl (lv_at hl 3 rfl) ?_
  refine w_get X M h 254 ((hf_F1 254 (by omega)).trans hm.2) (by omega) fl_X8_32 rfl dX8_lifts_42 ?_
  refine lv_iload kx kb dX8_lifts_45 (lv_at hl 0 rfl) ?_
  refine lv_iconst (v := nI 1) kx kb dX8_lifts_47 (by decide) ?_
  refine w_addn kx kb dX8_lifts_48 ?_
  refine lv_aload_n kx kb dX8_lifts_49 rfl (lv_at hl 3 rfl) ?_
  refine lv_iload_n kx kb dX8_lifts_50 rfl (lv_at hl 4 rfl) ?_
  refine lv_iconst (v := nI 0) kx kb dX8_lifts_51 (by decide) ?_
  refine w_readVi X M h [.int (nI k), .int (nI 0)] [.int (nI (82 + (3 * x.2.2.1) + 1)), .ref (ad 255)] ((c_X8_is l g u v ⟨by omega, ((hf_F1 254 (by omega)).trans hm.2)⟩ x hI (upd W (82 + (3 * x.2.2.1)) (nI sg)) he_F1 hR_2 k 0 (by omega) (by omega))) lk_X8_73 ((hf_F1 254 (by omega)).trans hm.2) (by omega) rfl rfl ⟨by decide, by decide⟩ hl ⟨Nat.zero_le _, Nat.zero_le _⟩ (Nat.le_of_ble_eq_true rfl) rfl dX8_lifts_52 (fun H locs h => ?_)
  refine w_iast X M h 255 he_F1 (by omega) (82 + (3 * x.2.2.1) + 1) (rfl) (by omega) (by omega) dX8_lifts_55 (fun F3 H locs h he_F3 hf_F3 => ?_)
  have hR_4 : RW x (upd (upd W (82 + (3 * x.2.2.1)) (nI sg)) (82 + (3 * x.2.2.1) + 1) (x.2.1 0 k)) := RW.congw hR_2 (fun z hz => upd_ne (by omega))
  refine lv_aload_n kx kb dX8_lifts_56 rfl (lv_at hl 3 rfl) ?_
  refine w_get X M h 254 ((hf_F3 254 (by omega)).trans ((hf_F1 254 (by omega)).trans hm.2)) (by omega) fl_X8_32 rfl dX8_lifts_57 ?_
  refine lv_iload kx kb dX8_lifts_60 (lv_at hl 0 rfl) ?_
  refine lv_iconst (v := nI 2) kx kb dX8_lifts_62 (by decide) ?_
  refine w_addn kx kb dX8_lifts_63 ?_
  refine lv_fload_n kx kb dX8_lifts_64 rfl (lv_at hl 2 rfl) ?_
  refine w_readSi X M h [.float (lfO (x.2.1 3 k) (x.2.1 4 k) (nI (x.2.2.2.2.2.2.2 3)))] [.int (nI (82 + (3 * x.2.2.1) + 2)), .ref (ad 255)] ((c_JF_f2i l g (lfO (x.2.1 3 k) (x.2.1 4 k) (nI (x.2.2.2.2.2.2.2 3))) (hlg.nn))) lk_X8_159 rfl ⟨by decide, by decide⟩ hl ⟨Nat.zero_le _, Nat.zero_le _⟩ (Nat.le_of_ble_eq_true rfl) rfl dX8_lifts_65 (fun H locs h => ?_)
  refine w_iast X M h 255 he_F3 (by omega) (82 + (3 * x.2.2.1) + 2) (rfl) (by omega) (by omega) dX8_lifts_68 (fun F5 H locs h he_F5 hf_F5 => ?_)
  have hR_6 : RW x (upd (upd (upd W (82 + (3 * x.2.2.1)) (nI sg)) (82 + (3 * x.2.2.1) + 1) (x.2.1 0 k)) (82 + (3 * x.2.2.1) + 2) (fb (lfO (x.2.1 3 k) (x.2.1 4 k) (nI (x.2.2.2.2.2.2.2 3))))) := RW.congw hR_4 (fun z hz => upd_ne (by omega))
  refine lv_aload_n kx kb dX8_lifts_69 rfl (lv_at hl 3 rfl) ?_
  refine w_get X M h 254 ((hf_F5 254 (by omega)).trans ((hf_F3 254 (by omega)).trans ((hf_F1 254 (by omega)).trans hm.2))) (by omega) fl_X8_32 rfl dX8_lifts_70 ?_
  refine lv_bipush (v := nI 6) kx kb dX8_lifts_73 (by decide) ?_
  refine lv_dup2_11 kx kb dX8_lifts_75 rfl rfl ?_
  refine w_iald X M h 255 he_F5 (by omega) (6) (rfl) (by omega) (by omega) dX8_lifts_76 ?_
  refine w_top (y := nI x.2.2.1) (hR_6.t) ?_
  refine lv_iconst (v := nI 1) kx kb dX8_lifts_77 (by decide) ?_
  refine w_addn kx kb dX8_lifts_78 ?_
  refine w_iast X M h 255 he_F5 (by omega) (6) (rfl) (by omega) (by omega) dX8_lifts_79 (fun F7 H locs h he_F7 hf_F7 => ?_)
  refine lv_aload_n kx kb dX8_lifts_80 rfl (lv_at hl 3 rfl) ?_
  refine w_get X M h 254 ((hf_F7 254 (by omega)).trans ((hf_F5 254 (by omega)).trans ((hf_F3 254 (by omega)).trans ((hf_F1 254 (by omega)).trans hm.2)))) (by omega) fl_X8_32 rfl dX8_lifts_81 ?_
  refine lv_bipush (v := nI 18) kx kb dX8_lifts_84 (by decide) ?_
  refine lv_aload_n kx kb dX8_lifts_86 rfl (lv_at hl 3 rfl) ?_
  refine lv_iload_n kx kb dX8_lifts_87 rfl (lv_at hl 4 rfl) ?_
  refine lv_iconst (v := nI 0) kx kb dX8_lifts_88 (by decide) ?_
  refine w_readVi X M h [.int (nI k), .int (nI 0)] [.int (nI 18), .ref (ad 255)] ((c_X8_is0 l g u v ⟨by omega, ((hf_F7 254 (by omega)).trans ((hf_F5 254 (by omega)).trans ((hf_F3 254 (by omega)).trans ((hf_F1 254 (by omega)).trans hm.2))))⟩ (upd (upd (upd (upd W (82 + (3 * x.2.2.1)) (nI sg)) (82 + (3 * x.2.2.1) + 1) (x.2.1 0 k)) (82 + (3 * x.2.2.1) + 2) (fb (lfO (x.2.1 3 k) (x.2.1 4 k) (nI (x.2.2.2.2.2.2.2 3))))) 6 (nI (x.2.2.1 + 1))) he_F7 k 0 (by omega) (by omega) (nI wl) (by rw [upd_ne (by omega), upd_ne (by omega), upd_ne (by omega), upd_ne (by omega)]; exact (hR.j k 0 hk (by omega)).trans hw))) lk_X8_73 ((hf_F7 254 (by omega)).trans ((hf_F5 254 (by omega)).trans ((hf_F3 254 (by omega)).trans ((hf_F1 254 (by omega)).trans hm.2)))) (by omega) rfl rfl ⟨by decide, by decide⟩ hl ⟨Nat.zero_le _, Nat.zero_le _⟩ (Nat.le_of_ble_eq_true rfl) rfl dX8_lifts_89 (fun H locs h => ?_)
  refine w_addn kx kb dX8_lifts_92 ?_
  refine lv_dup2_11 kx kb dX8_lifts_93 rfl rfl ?_
  refine w_iald X M h 255 he_F7 (by omega) (18 + wl) (rfl) (by omega) (by omega) dX8_lifts_94 ?_
  refine w_top (y := nI (cnt (fun i => decide (x.2.2.2.2.1 1 i = nI wl)) x.2.2.1)) (by rw [upd_ne (by omega), upd_ne (by omega), upd_ne (by omega), upd_ne (by omega)]; exact hR.f wl hwl) ?_
  refine lv_iconst (v := nI 1) kx kb dX8_lifts_95 (by decide) ?_
  refine w_addn kx kb dX8_lifts_96 ?_
  refine w_iast X M h 255 he_F7 (by omega) (18 + wl) (rfl) (by omega) (by omega) dX8_lifts_97 (fun F8 H locs h he_F8 hf_F8 => ?_)
  refine lv_aload_n kx kb dX8_lifts_98 rfl (lv_at hl 3 rfl) ?_
  refine w_get X M h 254 ((hf_F8 254 (by omega)).trans ((hf_F7 254 (by omega)).trans ((hf_F5 254 (by omega)).trans ((hf_F3 254 (by omega)).trans ((hf_F1 254 (by omega)).trans hm.2))))) (by omega) fl_X8_32 rfl dX8_lifts_99 ?_
  refine lv_bipush (v := nI 12) kx kb dX8_lifts_102 (by decide) ?_
  refine lv_iload_n kx kb dX8_lifts_104 rfl (lv_at hl 1 rfl) ?_
  refine lv_bipush (v := nI 32) kx kb dX8_lifts_105 (by decide) ?_
  refine w_divn kx kb (by omega) (by omega) (by omega) dX8_lifts_107 ?_
  refine w_addn kx kb dX8_lifts_108 ?_
  refine lv_dup2_11 kx kb dX8_lifts_109 rfl rfl ?_
  refine w_iald X M h 255 he_F8 (by omega) (12 + (sg / 32)) (rfl) (by omega) (by omega) dX8_lifts_110 ?_
  refine w_top (y := W (12 + sg / 32)) (by rw [upd_ne (by omega), upd_ne (by omega), upd_ne (by omega), upd_ne (by omega), upd_ne (by omega)]) ?_
  refine lv_iconst (v := nI 1) kx kb dX8_lifts_111 (by decide) ?_
  refine lv_iload_n kx kb dX8_lifts_112 rfl (lv_at hl 1 rfl) ?_
  refine lv_bipush (v := nI 32) kx kb dX8_lifts_113 (by decide) ?_
  refine w_remn kx kb (by omega) (by omega) (by omega) dX8_lifts_115 ?_
  refine lv_ishl kx kb dX8_lifts_116 ?_
  refine lv_ior kx kb dX8_lifts_117 ?_
  refine w_iast X M h 255 he_F8 (by omega) (12 + (sg / 32)) (rfl) (by omega) (by omega) dX8_lifts_118 (fun F9 H locs h he_F9 hf_F9 => ?_)
  refine lv_aload_n kx kb dX8_lifts_119 rfl (lv_at hl 3 rfl) ?_
  refine w_get X M h 254 ((hf_F9 254 (by omega)).trans ((hf_F8 254 (by omega)).trans ((hf_F7 254 (by omega)).trans ((hf_F5 254 (by omega)).trans ((hf_F3 254 (by omega)).trans ((hf_F1 254 (by omega)).trans hm.2)))))) (by omega) fl_X8_32 rfl dX8_lifts_120 ?_
  refine lv_bipush (v := nI 11) kx kb dX8_lifts_123 (by decide) ?_
  refine lv_aload_n kx kb dX8_lifts_125 rfl (lv_at hl 3 rfl) ?_
  refine w_get X M h 254 ((hf_F9 254 (by omega)).trans ((hf_F8 254 (by omega)).trans ((hf_F7 254 (by omega)).trans ((hf_F5 254 (by omega)).trans ((hf_F3 254 (by omega)).trans ((hf_F1 254 (by omega)).trans hm.2)))))) (by omega) fl_X8_32 rfl dX8_lifts_126 ?_
  refine lv_bipush (v := nI 11) kx kb dX8_lifts_129 (by decide) ?_
  refine w_iald X M h 255 he_F9 (by omega) (11) (rfl) (by omega) (by omega) dX8_lifts_131 ?_
  refine w_top (y := fb x.2.2.2.1) (by rw [upd_ne (by omega), upd_ne (by omega), upd_ne (by omega), upd_ne (by omega), upd_ne (by omega), upd_ne (by omega)]; exact hR.s) ?_
  refine w_i2fb X hl q5_79 ⟨by decide, by decide⟩ (Nat.le_of_ble_eq_true rfl) hI.smn dX8_lifts_132 ?_
  refine lv_fload_n kx kb dX8_lifts_135 rfl (lv_at hl 2 rfl) ?_
  refine lv_fadd kx kb dX8_lifts_136 (nnF_n hsn) ?_
  refine w_readSi X M h [.float (FP.fadd x.2.2.2.1 (lfO (x.2.1 3 k) (x.2.1 4 k) (nI (x.2.2.2.2.2.2.2 3))))] [.int (nI 11), .ref (ad 255)] ((c_JF_f2i l g (FP.fadd x.2.2.2.1 (lfO (x.2.1 3 k) (x.2.1 4 k) (nI (x.2.2.2.2.2.2.2 3)))) (hsn))) lk_X8_159 rfl ⟨by decide, by decide⟩ hl ⟨Nat.zero_le _, Nat.zero_le _⟩ (Nat.le_of_ble_eq_true rfl) rfl dX8_lifts_137 (fun H locs h => ?_)
  refine w_iast X M h 255 he_F9 (by omega) (11) (rfl) (by omega) (by omega) dX8_lifts_140 (fun F10 H locs h he_F10 hf_F10 => ?_)
  have hR_l : RW (xLog1 x (lfO (x.2.1 3 k) (x.2.1 4 k) (nI (x.2.2.2.2.2.2.2 3))) sg (nI wl)) (upd (upd (upd (upd (upd (upd (upd W (82 + (3 * x.2.2.1)) (nI sg)) (82 + (3 * x.2.2.1) + 1) (x.2.1 0 k)) (82 + (3 * x.2.2.1) + 2) (fb (lfO (x.2.1 3 k) (x.2.1 4 k) (nI (x.2.2.2.2.2.2.2 3))))) 6 (nI (x.2.2.1 + 1))) (18 + wl) (nI (cnt (fun i => decide (x.2.2.2.2.1 1 i = nI wl)) x.2.2.1 + 1))) (12 + (sg / 32)) ((W (12 + sg / 32)) ||| ((nI 1) <<< ((nI (sg % 32)) &&& 31)))) 11 (fb (FP.fadd x.2.2.2.1 (lfO (x.2.1 3 k) (x.2.1 4 k) (nI (x.2.2.2.2.2.2.2 3)))))) := hR.log hsg hwl (by omega) hn12 (by rw [upd_ne (by omega), upd_ne (by omega), upd_ne (by omega), upd_ne (by omega), upd_ne (by omega), upd_ne (by omega), upd_eq rfl]) (by rw [upd_ne (by omega), upd_ne (by omega), upd_ne (by omega), upd_ne (by omega), upd_ne (by omega), upd_eq rfl]; exact hw) (by rw [upd_ne (by omega), upd_ne (by omega), upd_ne (by omega), upd_ne (by omega), upd_eq rfl]) (by rw [upd_ne (by omega), upd_ne (by omega), upd_ne (by omega), upd_eq rfl]) (by rw [upd_ne (by omega), upd_ne (by omega), upd_eq rfl]) (by rw [upd_ne (by omega), upd_eq rfl]) (upd_eq rfl) (fun i h1 h2 h3 h4 h5 h6 h7 => by rw [upd_ne (by omega), upd_ne (by omega), upd_ne (by omega), upd_ne (by omega), upd_ne (by omega), upd_ne (by omega), upd_ne (by omega)])
  refine lv_aload_n kx kb dX8_lifts_141 rfl (lv_at hl 3 rfl) ?_
  refine lv_iload_n kx kb dX8_lifts_142 rfl (lv_at hl 4 rfl) ?_
  refine w_callVv X M h [.int (nI k)] [] ((c_X8_goes l g u v ⟨by omega, ((hf_F10 254 (by omega)).trans ((hf_F9 254 (by omega)).trans ((hf_F8 254 (by omega)).trans ((hf_F7 254 (by omega)).trans ((hf_F5 254 (by omega)).trans ((hf_F3 254 (by omega)).trans ((hf_F1 254 (by omega)).trans hm.2)))))))⟩ (xLog1 x (lfO (x.2.1 3 k) (x.2.1 4 k) (nI (x.2.2.2.2.2.2.2 3))) sg (nI wl)) hn12 (upd (upd (upd (upd (upd (upd (upd W (82 + (3 * x.2.2.1)) (nI sg)) (82 + (3 * x.2.2.1) + 1) (x.2.1 0 k)) (82 + (3 * x.2.2.1) + 2) (fb (lfO (x.2.1 3 k) (x.2.1 4 k) (nI (x.2.2.2.2.2.2.2 3))))) 6 (nI (x.2.2.1 + 1))) (18 + wl) (nI (cnt (fun i => decide (x.2.2.2.2.1 1 i = nI wl)) x.2.2.1 + 1))) (12 + (sg / 32)) ((W (12 + sg / 32)) ||| ((nI 1) <<< ((nI (sg % 32)) &&& 31)))) 11 (fb (FP.fadd x.2.2.2.1 (lfO (x.2.1 3 k) (x.2.1 4 k) (nI (x.2.2.2.2.2.2.2 3)))))) he_F10 hR_l k (by exact hk))) lk_X8_122 ((hf_F10 254 (by omega)).trans ((hf_F9 254 (by omega)).trans ((hf_F8 254 (by omega)).trans ((hf_F7 254 (by omega)).trans ((hf_F5 254 (by omega)).trans ((hf_F3 254 (by omega)).trans ((hf_F1 254 (by omega)).trans hm.2))))))) (by omega) rfl rfl ⟨by decide, by decide⟩ hl ⟨Nat.zero_le _, Nat.zero_le _⟩ (Nat.le_of_ble_eq_true rfl) rfl dX8_lifts_143 (fun F11 H locs hp_F11 h => ?_)
  obtain ⟨W_F11, hW_F11, hR_F11⟩ := hp_F11.1
  exact w_vret X h ⟨⟨_, hW_F11, by rw [show lift1 x k sg = xOut1 (xLog1 x (lfO (x.2.1 3 k) (x.2.1 4 k) (nI (x.2.2.2.2.2.2.2 3))) sg (nI wl)) k from by rw [lift1, hw]; rfl]; exact hR_F11⟩, (fun i hi => (hp_F11.2 i (by omega)).trans ((hf_F10 i (by omega)).trans ((hf_F9 i (by omega)).trans ((hf_F8 i (by omega)).trans ((hf_F7 i (by omega)).trans ((hf_F5 i (by omega)).trans ((hf_F3 i (by omega)).trans (hf_F1 i (by omega)))))))))⟩ dX8_lifts_146
set_option maxRecDepth 20000 in
theorem c_X8_strokesOnce (l : Launch) (g : gT) {N : Nat} {ad : Nat → Nat} {F : Nat → va_E} (u : Nat → Int32) (v : Nat → Nat) (hm : oM g N ad F u v) (x : SX) (hI : Inv x) (W : Nat → Int32) (hW : arI g F 255 274 W) (hR : RW x W) (h40 : x.2.2.2.2.2.2.2 3 ≤ 40)  : CtI l yX8_strokesOnce cX8_strokesOnce 4 (some .int) 3 69 g N ad F [.ref (ad 254)] (fun r F' => r = nI (stCnt (strk x)) ∧ oX g F' 255 (strokeF x) ∧ ∀ i, i ≠ 255 → F' i = F i) := by
  refine CtI_of (by decide) (Nat.le_of_ble_eq_true rfl) ?_
  intro p e s m args below meth c A H ls X M h hl
  have kx := X.1.1
  have kb := X.1.2.1
  have hl : lv_has ls 4 [(0, .ref (ad 254))] := hl
  have hN0 := hm.1
  have hn12 := hI.n
  have htn64 := hI.tn
  obtain ⟨hz0, hz1a, hz1, hz2, hz3, hz4⟩ := hI.zz
  refine lv_aload_n kx kb dX8_strokesOnce_0 rfl (lv_at hl 0 rfl) ?_
  refine w_get X M h 254 hm.2 (by omega) fl_X8_32 rfl dX8_strokesOnce_1 ?_
  refine lv_iconst (v := nI 1) kx kb dX8_strokesOnce_4 (by decide) ?_
  refine w_iald X M h 255 hW (by omega) (1) (rfl) (by omega) (by omega) dX8_strokesOnce_5 ?_
  refine w_top (y := nI (x.2.2.2.2.2.2.2 0)) (hR.z 0 (by omega)) ?_
  refine lv_istore_n (lv' := [(1, .int (nI (x.2.2.2.2.2.2.2 0))), (0, .ref (ad 254))]) kx kb dX8_strokesOnce_6 rfl hl (by decide) rfl (fun ls hl => ?_)
  refine lv_aload_n kx kb dX8_strokesOnce_7 rfl (lv_at hl 1 rfl) ?_
  refine w_get X M h 254 hm.2 (by omega) fl_X8_32 rfl dX8_strokesOnce_8 ?_
  refine lv_iconst (v := nI 3) kx kb dX8_strokesOnce_11 (by decide) ?_
  refine lv_aload_n kx kb dX8_strokesOnce_12 rfl (lv_at hl 1 rfl) ?_
  refine w_get X M h 254 hm.2 (by omega) fl_X8_32 rfl dX8_strokesOnce_13 ?_
  refine lv_iconst (v := nI 3) kx kb dX8_strokesOnce_16 (by decide) ?_
  refine w_iald X M h 255 hW (by omega) (3) (rfl) (by omega) (by omega) dX8_strokesOnce_17 ?_
  refine w_top (y := nI (x.2.2.2.2.2.2.2 2)) (hR.z 2 (by omega)) ?_
  refine lv_aload_n kx kb dX8_strokesOnce_18 rfl (lv_at hl 1 rfl) ?_
  refine w_get X M h 254 hm.2 (by omega) fl_X8_32 rfl dX8_strokesOnce_19 ?_
  refine lv_iconst (v := nI 2) kx kb dX8_strokesOnce_22 (by decide) ?_
  refine w_iald X M h 255 hW (by omega) (2) (rfl) (by omega) (by omega) dX8_strokesOnce_23 ?_
  refine w_top (y := nI (x.2.2.2.2.2.2.2 1)) (hR.z 1 (by omega)) ?_
  refine w_readSi X M h [.int (nI (x.2.2.2.2.2.2.2 2)), .int (nI (x.2.2.2.2.2.2.2 1))] [.int (nI 3), .ref (ad 255)] ((c_X8_nextReach l g (x.2.2.2.2.2.2.2 2) (x.2.2.2.2.2.2.2 1) (by omega))) lk_X8_169 rfl ⟨by decide, by decide⟩ hl ⟨Nat.zero_le _, Nat.zero_le _⟩ (Nat.le_of_ble_eq_true rfl) rfl dX8_strokesOnce_24 (fun H locs h => ?_)
  refine w_iast X M h 255 hW (by omega) (3) (rfl) (by omega) (by omega) dX8_strokesOnce_27 (fun F1 H locs h he_F1 hf_F1 => ?_)
  have hR_2 : RW (xZ x (zUp x.2.2.2.2.2.2.2 2 (min 30 ((x.2.2.2.2.2.2.2 2) + (x.2.2.2.2.2.2.2 1))))) (upd W 3 (nI (min 30 ((x.2.2.2.2.2.2.2 2) + (x.2.2.2.2.2.2.2 1))))) := RW.setz hR 2 (min 30 ((x.2.2.2.2.2.2.2 2) + (x.2.2.2.2.2.2.2 1))) (by omega)
  refine lv_aload_n kx kb dX8_strokesOnce_28 rfl (lv_at hl 1 rfl) ?_
  refine w_get X M h 254 ((hf_F1 254 (by omega)).trans hm.2) (by omega) fl_X8_32 rfl dX8_strokesOnce_29 ?_
  refine lv_iconst (v := nI 4) kx kb dX8_strokesOnce_32 (by decide) ?_
  refine lv_dup2_11 kx kb dX8_strokesOnce_33 rfl rfl ?_
  refine w_iald X M h 255 he_F1 (by omega) (4) (rfl) (by omega) (by omega) dX8_strokesOnce_34 ?_
  refine w_top (y := nI (x.2.2.2.2.2.2.2 3)) (hR_2.z 3 (by omega)) ?_
  refine lv_iconst (v := nI 1) kx kb dX8_strokesOnce_35 (by decide) ?_
  refine lv_aload_n kx kb dX8_strokesOnce_36 rfl (lv_at hl 1 rfl) ?_
  refine w_get X M h 254 ((hf_F1 254 (by omega)).trans hm.2) (by omega) fl_X8_32 rfl dX8_strokesOnce_37 ?_
  refine lv_iconst (v := nI 3) kx kb dX8_strokesOnce_40 (by decide) ?_
  refine w_iald X M h 255 he_F1 (by omega) (3) (rfl) (by omega) (by omega) dX8_strokesOnce_41 ?_
  refine w_top (y := nI (min 30 ((x.2.2.2.2.2.2.2 2) + (x.2.2.2.2.2.2.2 1)))) (hR_2.z 2 (by omega)) ?_
  refine lv_bipush (v := nI 10) kx kb dX8_strokesOnce_42 (by decide) ?_
  refine w_divn kx kb (by omega) (by omega) (by omega) dX8_strokesOnce_44 ?_
  refine w_addn kx kb dX8_strokesOnce_45 ?_
  refine w_addn kx kb dX8_strokesOnce_46 ?_
  refine w_iast X M h 255 he_F1 (by omega) (4) (rfl) (by omega) (by omega) dX8_strokesOnce_47 (fun F3 H locs h he_F3 hf_F3 => ?_)
  have hR_4 : RW (xZ x (zUp (zUp x.2.2.2.2.2.2.2 2 (min 30 ((x.2.2.2.2.2.2.2 2) + (x.2.2.2.2.2.2.2 1)))) 3 (x.2.2.2.2.2.2.2 3 + (1 + ((min 30 ((x.2.2.2.2.2.2.2 2) + (x.2.2.2.2.2.2.2 1))) / 10))))) (upd (upd W 3 (nI (min 30 ((x.2.2.2.2.2.2.2 2) + (x.2.2.2.2.2.2.2 1))))) 4 (nI (x.2.2.2.2.2.2.2 3 + (1 + ((min 30 ((x.2.2.2.2.2.2.2 2) + (x.2.2.2.2.2.2.2 1))) / 10))))) := RW.setz hR_2 3 (x.2.2.2.2.2.2.2 3 + (1 + ((min 30 ((x.2.2.2.2.2.2.2 2) + (x.2.2.2.2.2.2.2 1))) / 10))) (by omega)
  refine lv_aload_n kx kb dX8_strokesOnce_48 rfl (lv_at hl 1 rfl) ?_
  refine w_get X M h 254 ((hf_F3 254 (by omega)).trans ((hf_F1 254 (by omega)).trans hm.2)) (by omega) fl_X8_32 rfl dX8_strokesOnce_49 ?_
  refine lv_bipush (v := nI 9) kx kb dX8_strokesOnce_52 (by decide) ?_
  refine lv_dup2_11 kx kb dX8_strokesOnce_54 rfl rfl ?_
  refine w_iald X M h 255 he_F3 (by omega) (9) (rfl) (by omega) (by omega) dX8_strokesOnce_55 ?_
  refine w_top (y := nI (x.2.2.2.2.2.2.2 7)) (hR_4.c 2 (by omega)) ?_
  refine lv_iconst (v := nI 1) kx kb dX8_strokesOnce_56 (by decide) ?_
  refine w_addn kx kb dX8_strokesOnce_57 ?_
  refine w_iast X M h 255 he_F3 (by omega) (9) (rfl) (by omega) (by omega) dX8_strokesOnce_58 (fun F5 H locs h he_F5 hf_F5 => ?_)
  have hR_6 : RW (xZ x (zUp (zUp (zUp x.2.2.2.2.2.2.2 2 (min 30 ((x.2.2.2.2.2.2.2 2) + (x.2.2.2.2.2.2.2 1)))) 3 (x.2.2.2.2.2.2.2 3 + (1 + ((min 30 ((x.2.2.2.2.2.2.2 2) + (x.2.2.2.2.2.2.2 1))) / 10)))) 7 (x.2.2.2.2.2.2.2 7 + 1))) (upd (upd (upd W 3 (nI (min 30 ((x.2.2.2.2.2.2.2 2) + (x.2.2.2.2.2.2.2 1))))) 4 (nI (x.2.2.2.2.2.2.2 3 + (1 + ((min 30 ((x.2.2.2.2.2.2.2 2) + (x.2.2.2.2.2.2.2 1))) / 10))))) 9 (nI (x.2.2.2.2.2.2.2 7 + 1))) := RW.setc hR_4 2 (x.2.2.2.2.2.2.2 7 + 1) (by omega)
  refine lv_iconst (v := nI 0) kx kb dX8_strokesOnce_59 (by decide) ?_
  refine lv_istore_n (lv' := [(2, .int (nI 0)), (1, .int (nI (x.2.2.2.2.2.2.2 0))), (0, .ref (ad 254))]) kx kb dX8_strokesOnce_60 rfl hl (by decide) rfl (fun ls hl => ?_)
  have hR_s : RW (strk x) (upd (upd (upd W 3 (nI (min 30 ((x.2.2.2.2.2.2.2 2) + (x.2.2.2.2.2.2.2 1))))) 4 (nI (x.2.2.2.2.2.2.2 3 + (1 + ((min 30 ((x.2.2.2.2.2.2.2 2) + (x.2.2.2.2.2.2.2 1))) / 10))))) 9 (nI (x.2.2.2.2.2.2.2 7 + 1))) := hR_6.congz (fun j hj => by rcases (show j = 0 ∨ j = 1 ∨ j = 2 ∨ j = 3 ∨ j = 4 ∨ j = 5 ∨ j = 6 ∨ j = 7 ∨ j = 8 by omega) with rfl | rfl | rfl | rfl | rfl | rfl | rfl | rfl | rfl <;> simp [zUp, zStrk])
  have hS := hI.strk h40
  refine lv_aload_n kx kb dX8_strokesOnce_61 rfl (lv_at hl 2 rfl) ?_
  refine lv_iload_n kx kb dX8_strokesOnce_62 rfl (lv_at hl 1 rfl) ?_
  refine lv_iconst (v := nI 0) kx kb dX8_strokesOnce_63 (by decide) ?_
  refine w_readVi X M h [.int (nI (x.2.2.2.2.2.2.2 0)), .int (nI 0)] [] ((c_X8_atPlace l g u v ⟨by omega, ((hf_F5 254 (by omega)).trans ((hf_F3 254 (by omega)).trans ((hf_F1 254 (by omega)).trans hm.2)))⟩ (strk x) hS (upd (upd (upd W 3 (nI (min 30 ((x.2.2.2.2.2.2.2 2) + (x.2.2.2.2.2.2.2 1))))) 4 (nI (x.2.2.2.2.2.2.2 3 + (1 + ((min 30 ((x.2.2.2.2.2.2.2 2) + (x.2.2.2.2.2.2.2 1))) / 10))))) 9 (nI (x.2.2.2.2.2.2.2 7 + 1))) he_F5 hR_s (nI (x.2.2.2.2.2.2.2 0)) (nI 0))) lk_X8_172 ((hf_F5 254 (by omega)).trans ((hf_F3 254 (by omega)).trans ((hf_F1 254 (by omega)).trans hm.2))) (by omega) rfl rfl ⟨by decide, by decide⟩ hl ⟨Nat.zero_le _, Nat.zero_le _⟩ (Nat.le_of_ble_eq_true rfl) rfl dX8_strokesOnce_64 (fun H locs h => ?_)
  refine lv_istore_n (lv' := [(3, .int (ixO (bdP (strk x).2.1 (strk x).1 (nI (x.2.2.2.2.2.2.2 0)) (nI 0)) (strk x).1)), (2, .int (nI 0)), (1, .int (nI (x.2.2.2.2.2.2.2 0))), (0, .ref (ad 254))]) kx kb dX8_strokesOnce_67 rfl hl (by decide) rfl (fun ls hl => ?_)
  refine w_loop5 (fun (ct : Nat) (y : SX) (F1 : Nat → va_E) (W1 : Nat → Int32) (nx : Int32) => stW y) (fun (ct : Nat) (y : SX) (F1 : Nat → va_E) (W1 : Nat → Int32) (nx : Int32) H locs ls => Hx g N ad F1 A s H locs ∧ lv_has ls 4 [(0, .ref (ad 254)), (1, .int (nI (x.2.2.2.2.2.2.2 0))), (2, .int (nI ct)), (3, .int nx)] ∧ (Inv y) ∧ (arI g F1 255 274 W1) ∧ (RW y W1) ∧ (∀ q, q ≠ 255 → F1 q = F q) ∧ (ct ≤ stCnt (strk x)) ∧ (stW y + ct = stW (strk x)) ∧ (y.2.2.2.2.2.2.1 = x.2.2.2.2.2.2.1) ∧ (y.2.2.2.2.2.2.2 = zStrk x.2.2.2.2.2.2.2) ∧ (liftsF (stCnt (strk x) - ct) y = strokeF x) ∧ (nx = ixO (bdP y.2.1 y.1 (nI (x.2.2.2.2.2.2.2 0)) (nI 0)) y.1)) ?_ 0 (strk x) F5 (upd (upd (upd W 3 (nI (min 30 ((x.2.2.2.2.2.2.2 2) + (x.2.2.2.2.2.2.2 1))))) 4 (nI (x.2.2.2.2.2.2.2 3 + (1 + ((min 30 ((x.2.2.2.2.2.2.2 2) + (x.2.2.2.2.2.2.2 1))) / 10))))) 9 (nI (x.2.2.2.2.2.2.2 7 + 1))) (ixO (bdP (strk x).2.1 (strk x).1 (nI (x.2.2.2.2.2.2.2 0)) (nI 0)) (strk x).1) ⟨h, lv_sub hl [3, 2, 1, 0] rfl, hS, he_F5, hR_s, (fun q hq => (hf_F5 q (by omega)).trans ((hf_F3 q (by omega)).trans (hf_F1 q (by omega)))), by omega, by omega, rfl, rfl, by rw [Nat.sub_zero]; rfl, rfl⟩
  intro ct y F1 W1 nx H locs ls hinv ih
  obtain ⟨h, hl, hy, hW1, hR1, hf1, hcs, hsw, hyb, hyz, hX, hnx⟩ := hinv
  have hyn := hy.n
  obtain ⟨gz0, gz1a, gz1, gz2, gz3, gz4⟩ := hy.zz
  have ey0 : y.2.2.2.2.2.2.2 0 = x.2.2.2.2.2.2.2 0 := by rw [hyz]; rfl
  have hbk := hI.bk (x.2.2.2.2.2.2.2 0)
  have eyb : y.2.2.2.2.2.2.1 (x.2.2.2.2.2.2.2 0) = x.2.2.2.2.2.2.1 (x.2.2.2.2.2.2.2 0) := by rw [hyb]
  have hsc : stCnt (strk x) = min (stW (strk x)) (x.2.2.2.2.2.2.1 (x.2.2.2.2.2.2.2 0)) := rfl
  refine lv_iload_n kx kb dX8_strokesOnce_68 rfl (lv_at hl 2 rfl) ?_
  refine lv_aload_n kx kb dX8_strokesOnce_69 rfl (lv_at hl 0 rfl) ?_
  refine w_get X M h 254 ((hm.fr (hf1 254 (by omega))).2) (by omega) fl_X8_32 rfl dX8_strokesOnce_70 ?_
  refine lv_bipush (v := nI 14) kx kb dX8_strokesOnce_73 (by decide) ?_
  refine lv_iload_n kx kb dX8_strokesOnce_75 rfl (lv_at hl 1 rfl) ?_
  refine w_addn kx kb dX8_strokesOnce_76 ?_
  refine w_iald X M h 255 hW1 (by omega) (14 + (x.2.2.2.2.2.2.2 0)) (rfl) (by omega) (by omega) dX8_strokesOnce_77 ?_
  refine w_top (y := nI (y.2.2.2.2.2.2.1 (x.2.2.2.2.2.2.2 0))) (hR1.b (x.2.2.2.2.2.2.2 0) (by omega)) ?_
  refine w_cmp_ge (tgt := 118) kx kb (by omega) (by omega) dX8_strokesOnce_78 (by decide) (fun c_7 => ?_) (fun c_7 => ?_)
  · refine lv_iload_n kx kb dX8_strokesOnce_118 rfl (lv_at hl 2 rfl) ?_
    exact w_iret X h (by have ec : ct = stCnt (strk x) := (by omega); rw [ec, Nat.sub_self] at hX; rw [ec, ← hX]; exact ⟨rfl, ⟨W1, hW1, hR1⟩, fun i hi => hf1 i hi⟩) dX8_strokesOnce_119
  · refine lv_iload_n kx kb dX8_strokesOnce_81 rfl (lv_at hl 3 rfl) ?_
    refine lv_if_lt (tgt := 118) kx kb dX8_strokesOnce_82 (by decide) (fun c_8 => ?_) (fun c_8 => ?_)
    · refine lv_iload_n kx kb dX8_strokesOnce_118 rfl (lv_at hl 2 rfl) ?_
      exact w_iret X h (by have ec : ct = stCnt (strk x) := (by have := lift_none hy (by rw [ey0, ← hnx]; exact c_8); omega); rw [ec, Nat.sub_self] at hX; rw [ec, ← hX]; exact ⟨rfl, ⟨W1, hW1, hR1⟩, fun i hi => hf1 i hi⟩) dX8_strokesOnce_119
    · obtain ⟨k, hk, hik, rfl⟩ := ixO_nx hnx c_8
      refine lv_aload_n kx kb dX8_strokesOnce_85 rfl (lv_at hl 0 rfl) ?_
      refine lv_iload_n kx kb dX8_strokesOnce_86 rfl (lv_at hl 3 rfl) ?_
      refine lv_iconst (v := nI 1) kx kb dX8_strokesOnce_87 (by decide) ?_
      refine w_readVi X M h [.int (nI k), .int (nI 1)] [] ((c_X8_is l g u v ⟨by omega, (hm.fr (hf1 254 (by omega))).2⟩ y hy W1 hW1 hR1 k 1 (by omega) (by omega))) lk_X8_73 ((hm.fr (hf1 254 (by omega))).2) (by omega) rfl rfl ⟨by decide, by decide⟩ hl ⟨Nat.zero_le _, Nat.zero_le _⟩ (Nat.le_of_ble_eq_true rfl) rfl dX8_strokesOnce_88 (fun H locs h => ?_)
      refine lv_aload_n kx kb dX8_strokesOnce_91 rfl (lv_at hl 0 rfl) ?_
      refine w_get X M h 254 ((hm.fr (hf1 254 (by omega))).2) (by omega) fl_X8_32 rfl dX8_strokesOnce_92 ?_
      refine lv_iconst (v := nI 3) kx kb dX8_strokesOnce_95 (by decide) ?_
      refine w_iald X M h 255 hW1 (by omega) (3) (rfl) (by omega) (by omega) dX8_strokesOnce_96 ?_
      refine w_top (y := nI (y.2.2.2.2.2.2.2 2)) (hR1.z 2 (by omega)) ?_
      refine lv_icmp_gt (tgt := 118) kx kb dX8_strokesOnce_97 (by decide) (fun c_9 => ?_) (fun c_9 => ?_)
      · refine lv_iload_n kx kb dX8_strokesOnce_118 rfl (lv_at hl 2 rfl) ?_
        exact w_iret X h (by have ec : ct = stCnt (strk x) := (by have := lift_deep hy hk (by rw [ey0]; exact hik) (c_9); omega); rw [ec, Nat.sub_self] at hX; rw [ec, ← hX]; exact ⟨rfl, ⟨W1, hW1, hR1⟩, fun i hi => hf1 i hi⟩) dX8_strokesOnce_119
      · have hdp := Int32.not_lt.mp c_9
        obtain ⟨sg, hsg, hks, hkn⟩ := hy.sgn hk
        have hl2 := lift_step2 hy hk (by rw [ey0]; exact hik) hdp hks hsg
        refine lv_aload_n kx kb dX8_strokesOnce_100 rfl (lv_at hl 0 rfl) ?_
        refine lv_iload_n kx kb dX8_strokesOnce_101 rfl (lv_at hl 3 rfl) ?_
        refine w_callVv X M h [.int (nI k)] [] ((c_X8_lifts l g u v ⟨by omega, (hm.fr (hf1 254 (by omega))).2⟩ y hy W1 hW1 hR1 k sg hk hks hsg)) lk_X8_175 ((hm.fr (hf1 254 (by omega))).2) (by omega) rfl rfl ⟨by decide, by decide⟩ hl ⟨Nat.zero_le _, Nat.zero_le _⟩ (Nat.le_of_ble_eq_true rfl) rfl dX8_strokesOnce_102 (fun F10 H locs hp_F10 h => ?_)
        obtain ⟨W_F10, hW_F10, hR_F10⟩ := hp_F10.1
        refine lv_iinc (v := nI (ct + 1)) (lv' := [(2, .int (nI (ct + 1))), (0, .ref (ad 254)), (1, .int (nI (x.2.2.2.2.2.2.2 0))), (3, .int (nI k))]) kx kb dX8_strokesOnce_105 hl (k := 2) rfl (nI_add _ _) (by decide) rfl (fun ls hl => ?_)
        refine lv_aload_n kx kb dX8_strokesOnce_108 rfl (lv_at hl 1 rfl) ?_
        refine lv_iload_n kx kb dX8_strokesOnce_109 rfl (lv_at hl 2 rfl) ?_
        refine lv_iconst (v := nI 0) kx kb dX8_strokesOnce_110 (by decide) ?_
        refine w_readVi X M h [.int (nI (x.2.2.2.2.2.2.2 0)), .int (nI 0)] [] ((c_X8_atPlace l g u v ⟨by omega, ((hp_F10.2 254 (by omega)).trans (hm.fr (hf1 254 (by omega))).2)⟩ (lift1 y k sg) hl2.2.1 W_F10 hW_F10 hR_F10 (nI (x.2.2.2.2.2.2.2 0)) (nI 0))) lk_X8_172 ((hp_F10.2 254 (by omega)).trans (hm.fr (hf1 254 (by omega))).2) (by omega) rfl rfl ⟨by decide, by decide⟩ hl ⟨Nat.zero_le _, Nat.zero_le _⟩ (Nat.le_of_ble_eq_true rfl) rfl dX8_strokesOnce_111 (fun H locs h => ?_)
        refine lv_istore_n (lv' := [(3, .int (ixO (bdP (lift1 y k sg).2.1 (lift1 y k sg).1 (nI (x.2.2.2.2.2.2.2 0)) (nI 0)) (lift1 y k sg).1)), (2, .int (nI (ct + 1))), (0, .ref (ad 254)), (1, .int (nI (x.2.2.2.2.2.2.2 0)))]) kx kb dX8_strokesOnce_114 rfl hl (by decide) rfl (fun ls hl => ?_)
        refine lv_goto (tgt := 68) kx kb dX8_strokesOnce_115 (by decide) ?_
        exact ih (ct + 1) (lift1 y k sg) F10 W_F10 (ixO (bdP (lift1 y k sg).2.1 (lift1 y k sg).1 (nI (x.2.2.2.2.2.2.2 0)) (nI 0)) (lift1 y k sg).1) _ _ _ ⟨h, lv_sub hl [2, 3, 1, 0] rfl, hl2.2.1, hW_F10, hR_F10, (fun q hq => (hp_F10.2 q (by omega)).trans (hf1 q (by omega))), by omega, by omega, hyb, hyz, by rw [← hX, show stCnt (strk x) - ct = (stCnt (strk x) - (ct + 1)) + 1 by omega, liftsF, hl2.1], rfl⟩ (by omega)
