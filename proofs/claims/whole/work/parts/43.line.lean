set_option maxRecDepth 20000 in
theorem c_X8_writes (l : Launch) (g : gT) {N : Nat} {ad : Nat → Nat} {F : Nat → va_E} (u : Nat → Int32) (v : Nat → Nat) (L : LN) (hm : oM g N ad F u (vLn v L.1)) (hL : arC g F 260 60 L.2) (hn : L.1 < 60) (k : Nat) (hk : k < 65536) : CtV l yX8_writes cX8_writes 2 none 0 0 g N ad F [.ref (ad 254), .int (nI k)] (fun F' => oM g N ad F' u (vLn v (lput L (nI k)).1) ∧ arC g F' 260 60 (lput L (nI k)).2 ∧ ∀ i, i ≠ 254 → i ≠ 260 → F' i = F i) := by
  refine CtV_of (by decide) (Nat.le_of_ble_eq_true rfl) ?_
  intro p e s m args below meth c A H ls X M h hl
  have kx := X.1.1
  have kb := X.1.2.1
  have hl : lv_has ls 2 [(0, .ref (ad 254)), (1, .int (nI k))] := hl
  have hN0 := hm.1
  refine lv_aload_n kx kb dX8_writes_0 rfl (lv_at hl 0 rfl) ?_
  refine w_get X M h 254 hm.2 (by omega) fl_X8_48 rfl dX8_writes_1 ?_
  refine lv_aload_n kx kb dX8_writes_4 rfl (lv_at hl 0 rfl) ?_
  refine w_get X M h 254 hm.2 (by omega) fl_X8_221 rfl dX8_writes_5 ?_
  refine lv_iload_n kx kb dX8_writes_8 rfl (lv_at hl 1 rfl) ?_
  refine lv_i2c (v := nI k) kx kb dX8_writes_9 (c2_n (by omega)) ?_
  refine w_cast X M h 260 hL (by omega) (L.1) (rfl) (by omega) (by omega) (nar_n (by omega)) dX8_writes_10 (fun F1 H locs h he_F1 hf_F1 => ?_)
  refine lv_aload_n kx kb dX8_writes_11 rfl (lv_at hl 0 rfl) ?_
  refine lv_dup kx kb dX8_writes_12 rfl ?_
  refine w_get X M h 254 ((hf_F1 254 (by omega)).trans hm.2) (by omega) fl_X8_221 rfl dX8_writes_13 ?_
  refine lv_iconst (v := nI 1) kx kb dX8_writes_16 (by decide) ?_
  refine w_addn kx kb dX8_writes_17 ?_
  refine w_put X M h 254 ((hf_F1 254 (by omega)).trans hm.2) (by omega) fp_X8_221 (rfl) (by rfl) (Nat.le_of_ble_eq_true rfl) dX8_writes_18 (fun F2 H locs h he_F2 hf_F2 => ?_)
  exact w_vret X h ⟨⟨by omega, he_F2⟩, (he_F1.fr (hf_F2 260 (by omega))), (fun i hi hi2 => (hf_F2 i (by omega)).trans (hf_F1 i (by omega)))⟩ dX8_writes_21
set_option maxRecDepth 20000 in
theorem c_X8_writesNumber (l : Launch) (g : gT) {N : Nat} {ad : Nat → Nat} {F : Nat → va_E} (u : Nat → Int32) (v : Nat → Nat) (L : LN) (hm : oM g N ad F u (vLn v L.1)) (hL : arC g F 260 60 L.2) (hn : L.1 + 1 < 60) (z : Nat) (hz : z < 100) : CtV l yX8_writesNumber cX8_writesNumber 2 none 1 21 g N ad F [.ref (ad 254), .int (nI z)] (fun F' => oM g N ad F' u (vLn v (lnum L z).1) ∧ arC g F' 260 60 (lnum L z).2 ∧ ∀ i, i ≠ 254 → i ≠ 260 → F' i = F i) := by
  refine CtV_of (by decide) (Nat.le_of_ble_eq_true rfl) ?_
  intro p e s m args below meth c A H ls X M h hl
  have kx := X.1.1
  have kb := X.1.2.1
  have hl : lv_has ls 2 [(0, .ref (ad 254)), (1, .int (nI z))] := hl
  have hN0 := hm.1
  refine lv_iload_n kx kb dX8_writesNumber_0 rfl (lv_at hl 1 rfl) ?_
  refine lv_bipush (v := nI 9) kx kb dX8_writesNumber_1 (by decide) ?_
  refine w_cmp_le (tgt := 17) kx kb (by omega) (by omega) dX8_writesNumber_3 (by decide) (fun c_1 => ?_) (fun c_1 => ?_)
  · refine lv_aload_n kx kb dX8_writesNumber_17 rfl (lv_at hl 0 rfl) ?_
    refine lv_bipush (v := nI 48) kx kb dX8_writesNumber_18 (by decide) ?_
    refine lv_iload_n kx kb dX8_writesNumber_20 rfl (lv_at hl 1 rfl) ?_
    refine lv_bipush (v := nI 10) kx kb dX8_writesNumber_21 (by decide) ?_
    refine w_remn kx kb (by omega) (by omega) (by omega) dX8_writesNumber_23 ?_
    refine w_addn kx kb dX8_writesNumber_24 ?_
    refine w_callVv X M h [.int (nI (48 + (z % 10)))] [] ((c_X8_writes l g u v L (⟨by omega, hm.2⟩) hL (by omega) (48 + (z % 10)) (by omega))) lk_X8_224 hm.2 (by omega) rfl rfl ⟨by decide, by decide⟩ hl ⟨Nat.zero_le _, Nat.zero_le _⟩ (Nat.le_of_ble_eq_true rfl) rfl dX8_writesNumber_25 (fun F2 H locs hp_F2 h => ?_)
    obtain ⟨hm_F2, hL_F2, hg_F2⟩ := hp_F2
    have e_F2 : (lput L (nI (48 + (z % 10)))).1 = (L).1 + 1 := rfl
    exact w_vret X h (by rw [show lnum L z = lput L (nI (48 + z % 10)) from by rw [Nat.mod_eq_of_lt (show z < 10 by omega)]; exact lnum_1 (by omega)]; exact ⟨⟨by omega, hm_F2.2⟩, hL_F2, (fun i hi hi2 => hg_F2 i (by omega) (by omega))⟩) dX8_writesNumber_28
  · refine lv_aload_n kx kb dX8_writesNumber_6 rfl (lv_at hl 0 rfl) ?_
    refine lv_bipush (v := nI 48) kx kb dX8_writesNumber_7 (by decide) ?_
    refine lv_iload_n kx kb dX8_writesNumber_9 rfl (lv_at hl 1 rfl) ?_
    refine lv_bipush (v := nI 10) kx kb dX8_writesNumber_10 (by decide) ?_
    refine w_divn kx kb (by omega) (by omega) (by omega) dX8_writesNumber_12 ?_
    refine w_addn kx kb dX8_writesNumber_13 ?_
    refine w_callVv X M h [.int (nI (48 + (z / 10)))] [] ((c_X8_writes l g u v L (⟨by omega, hm.2⟩) hL (by omega) (48 + (z / 10)) (by omega))) lk_X8_224 hm.2 (by omega) rfl rfl ⟨by decide, by decide⟩ hl ⟨Nat.zero_le _, Nat.zero_le _⟩ (Nat.le_of_ble_eq_true rfl) rfl dX8_writesNumber_14 (fun F3 H locs hp_F3 h => ?_)
    obtain ⟨hm_F3, hL_F3, hg_F3⟩ := hp_F3
    have e_F3 : (lput L (nI (48 + (z / 10)))).1 = (L).1 + 1 := rfl
    refine lv_aload_n kx kb dX8_writesNumber_17 rfl (lv_at hl 0 rfl) ?_
    refine lv_bipush (v := nI 48) kx kb dX8_writesNumber_18 (by decide) ?_
    refine lv_iload_n kx kb dX8_writesNumber_20 rfl (lv_at hl 1 rfl) ?_
    refine lv_bipush (v := nI 10) kx kb dX8_writesNumber_21 (by decide) ?_
    refine w_remn kx kb (by omega) (by omega) (by omega) dX8_writesNumber_23 ?_
    refine w_addn kx kb dX8_writesNumber_24 ?_
    refine w_callVv X M h [.int (nI (48 + (z % 10)))] [] ((c_X8_writes l g u v (lput L (nI (48 + (z / 10)))) (⟨by omega, hm_F3.2⟩) hL_F3 (by omega) (48 + (z % 10)) (by omega))) lk_X8_224 hm_F3.2 (by omega) rfl rfl ⟨by decide, by decide⟩ hl ⟨Nat.zero_le _, Nat.zero_le _⟩ (Nat.le_of_ble_eq_true rfl) rfl dX8_writesNumber_25 (fun F4 H locs hp_F4 h => ?_)
    obtain ⟨hm_F4, hL_F4, hg_F4⟩ := hp_F4
    have e_F4 : (lput (lput L (nI (48 + (z / 10)))) (nI (48 + (z % 10)))).1 = (lput L (nI (48 + (z / 10)))).1 + 1 := rfl
    exact w_vret X h (by rw [lnum_2 (by omega)]; exact ⟨⟨by omega, hm_F4.2⟩, hL_F4, (fun i hi hi2 => (hg_F4 i (by omega) (by omega)).trans (hg_F3 i (by omega) (by omega)))⟩) dX8_writesNumber_28
set_option maxRecDepth 20000 in
theorem c_X8_writesJoke (l : Launch) (g : gT) {N : Nat} {ad : Nat → Nat} {F : Nat → va_E} (u : Nat → Int32) (v : Nat → Nat) (x : SX) (hI : Inv x) (W : Nat → Int32) (hW : arI g F 255 274 W) (hR : RW x W) (L : LN) (hm : oM g N ad F u (vLn v L.1)) (hL : arC g F 260 60 L.2) (k : Nat) (hk : k < x.1) (hn : L.1 + 7 < 60) : CtV l yX8_writesJoke cX8_writesJoke 2 none 2 42 g N ad F [.ref (ad 254), .int (nI k)] (fun F' => oM g N ad F' u (vLn v (pjX x (nI k) L).1) ∧ arC g F' 260 60 (pjX x (nI k) L).2 ∧ ∀ i, i ≠ 254 → i ≠ 260 → F' i = F i) := by
  refine CtV_of (by decide) (Nat.le_of_ble_eq_true rfl) ?_
  intro p e s m args below meth c A H ls X M h hl
  have kx := X.1.1
  have kb := X.1.2.1
  have hl : lv_has ls 2 [(0, .ref (ad 254)), (1, .int (nI k))] := hl
  have hN0 := hm.1
  have hn12 := hI.n
  obtain ⟨wj, d, sj, tj, pj, h1, h2, h3, h4, h5, h6, h7, h8, h9, h10, h11, h12, h13⟩ := hI.j hk
  have gd := dgN_le d
  have gs := dgN_le sj
  refine lv_aload_n kx kb dX8_writesJoke_0 rfl (lv_at hl 0 rfl) ?_
  refine lv_bipush (v := nI 32) kx kb dX8_writesJoke_1 (by decide) ?_
  refine w_callVv X M h [.int (nI 32)] [] ((c_X8_writes l g u v L (⟨by omega, hm.2⟩) hL (by omega) 32 (by omega))) lk_X8_224 hm.2 (by omega) rfl rfl ⟨by decide, by decide⟩ hl ⟨Nat.zero_le _, Nat.zero_le _⟩ (Nat.le_of_ble_eq_true rfl) rfl dX8_writesJoke_3 (fun F1 H locs hp_F1 h => ?_)
  obtain ⟨hm_F1, hL_F1, hg_F1⟩ := hp_F1
  have e_F1 : (lput L (nI 32)).1 = (L).1 + 1 := rfl
  refine lv_aload_n kx kb dX8_writesJoke_6 rfl (lv_at hl 0 rfl) ?_
  refine lv_aload_n kx kb dX8_writesJoke_7 rfl (lv_at hl 0 rfl) ?_
  refine lv_iload_n kx kb dX8_writesJoke_8 rfl (lv_at hl 1 rfl) ?_
  refine lv_iconst (v := nI 1) kx kb dX8_writesJoke_9 (by decide) ?_
  refine w_readVi X M h [.int (nI k), .int (nI 1)] [.ref (ad 254)] ((c_X8_is l g u (vLn v (lput L (nI 32)).1) ⟨by omega, hm_F1.2⟩ x hI W (hW.fr (hg_F1 255 (by omega) (by omega))) hR k 1 (by omega) (by omega))) lk_X8_73 hm_F1.2 (by omega) rfl rfl ⟨by decide, by decide⟩ hl ⟨Nat.zero_le _, Nat.zero_le _⟩ (Nat.le_of_ble_eq_true rfl) rfl dX8_writesJoke_10 (fun H locs h => ?_)
  refine w_top (y := nI d) h9 ?_
  refine w_callVv X M h [.int (nI d)] [] ((c_X8_writesNumber l g u v (lput L (nI 32)) (⟨by omega, hm_F1.2⟩) hL_F1 (by omega) d (by omega))) lk_X8_227 hm_F1.2 (by omega) rfl rfl ⟨by decide, by decide⟩ hl ⟨Nat.zero_le _, Nat.zero_le _⟩ (Nat.le_of_ble_eq_true rfl) rfl dX8_writesJoke_13 (fun F2 H locs hp_F2 h => ?_)
  obtain ⟨hm_F2, hL_F2, hg_F2⟩ := hp_F2
  have e_F2 : (lnum (lput L (nI 32)) d).1 = (lput L (nI 32)).1 + dgN d := rfl
  refine lv_aload_n kx kb dX8_writesJoke_16 rfl (lv_at hl 0 rfl) ?_
  refine lv_bipush (v := nI 58) kx kb dX8_writesJoke_17 (by decide) ?_
  refine w_callVv X M h [.int (nI 58)] [] ((c_X8_writes l g u v (lnum (lput L (nI 32)) d) (⟨by omega, hm_F2.2⟩) hL_F2 (by omega) 58 (by omega))) lk_X8_224 hm_F2.2 (by omega) rfl rfl ⟨by decide, by decide⟩ hl ⟨Nat.zero_le _, Nat.zero_le _⟩ (Nat.le_of_ble_eq_true rfl) rfl dX8_writesJoke_19 (fun F3 H locs hp_F3 h => ?_)
  obtain ⟨hm_F3, hL_F3, hg_F3⟩ := hp_F3
  have e_F3 : (lput (lnum (lput L (nI 32)) d) (nI 58)).1 = (lnum (lput L (nI 32)) d).1 + 1 := rfl
  refine lv_aload_n kx kb dX8_writesJoke_22 rfl (lv_at hl 0 rfl) ?_
  refine lv_aload_n kx kb dX8_writesJoke_23 rfl (lv_at hl 0 rfl) ?_
  refine lv_iload_n kx kb dX8_writesJoke_24 rfl (lv_at hl 1 rfl) ?_
  refine lv_iconst (v := nI 2) kx kb dX8_writesJoke_25 (by decide) ?_
  refine w_readVi X M h [.int (nI k), .int (nI 2)] [.ref (ad 254)] ((c_X8_is l g u (vLn v (lput (lnum (lput L (nI 32)) d) (nI 58)).1) ⟨by omega, hm_F3.2⟩ x hI W (((hW.fr (hg_F1 255 (by omega) (by omega))).fr (hg_F2 255 (by omega) (by omega))).fr (hg_F3 255 (by omega) (by omega))) hR k 2 (by omega) (by omega))) lk_X8_73 hm_F3.2 (by omega) rfl rfl ⟨by decide, by decide⟩ hl ⟨Nat.zero_le _, Nat.zero_le _⟩ (Nat.le_of_ble_eq_true rfl) rfl dX8_writesJoke_26 (fun H locs h => ?_)
  refine w_top (y := nI sj) h10 ?_
  refine w_callVv X M h [.int (nI sj)] [] ((c_X8_writesNumber l g u v (lput (lnum (lput L (nI 32)) d) (nI 58)) (⟨by omega, hm_F3.2⟩) hL_F3 (by omega) sj (by omega))) lk_X8_227 hm_F3.2 (by omega) rfl rfl ⟨by decide, by decide⟩ hl ⟨Nat.zero_le _, Nat.zero_le _⟩ (Nat.le_of_ble_eq_true rfl) rfl dX8_writesJoke_29 (fun F4 H locs hp_F4 h => ?_)
  obtain ⟨hm_F4, hL_F4, hg_F4⟩ := hp_F4
  have e_F4 : (lnum (lput (lnum (lput L (nI 32)) d) (nI 58)) sj).1 = (lput (lnum (lput L (nI 32)) d) (nI 58)).1 + dgN sj := rfl
  refine lv_aload_n kx kb dX8_writesJoke_32 rfl (lv_at hl 0 rfl) ?_
  refine lv_iload_n kx kb dX8_writesJoke_33 rfl (lv_at hl 1 rfl) ?_
  refine lv_iconst (v := nI 4) kx kb dX8_writesJoke_34 (by decide) ?_
  refine w_readVi X M h [.int (nI k), .int (nI 4)] [] ((c_X8_is l g u (vLn v (lnum (lput (lnum (lput L (nI 32)) d) (nI 58)) sj).1) ⟨by omega, hm_F4.2⟩ x hI W ((((hW.fr (hg_F1 255 (by omega) (by omega))).fr (hg_F2 255 (by omega) (by omega))).fr (hg_F3 255 (by omega) (by omega))).fr (hg_F4 255 (by omega) (by omega))) hR k 4 (by omega) (by omega))) lk_X8_73 hm_F4.2 (by omega) rfl rfl ⟨by decide, by decide⟩ hl ⟨Nat.zero_le _, Nat.zero_le _⟩ (Nat.le_of_ble_eq_true rfl) rfl dX8_writesJoke_35 (fun H locs h => ?_)
  refine lv_iconst (v := nI 1) kx kb dX8_writesJoke_38 (by decide) ?_
  refine lv_icmp_ne (tgt := 48) kx kb dX8_writesJoke_39 (by decide) (fun c_5 => ?_) (fun c_5 => ?_)
  · exact w_vret X h (by rw [pjX_k (by omega) h9 h10 (by omega) (by omega), pjF, if_pos ((hI.pr hk).resolve_right c_5)]; exact ⟨⟨by omega, hm_F4.2⟩, hL_F4, (fun i hi hi2 => (hg_F4 i (by omega) (by omega)).trans ((hg_F3 i (by omega) (by omega)).trans ((hg_F2 i (by omega) (by omega)).trans (hg_F1 i (by omega) (by omega)))))⟩) dX8_writesJoke_48
  · refine lv_aload_n kx kb dX8_writesJoke_42 rfl (lv_at hl 0 rfl) ?_
    refine lv_bipush (v := nI 33) kx kb dX8_writesJoke_43 (by decide) ?_
    refine w_callVv X M h [.int (nI 33)] [] ((c_X8_writes l g u v (lnum (lput (lnum (lput L (nI 32)) d) (nI 58)) sj) (⟨by omega, hm_F4.2⟩) hL_F4 (by omega) 33 (by omega))) lk_X8_224 hm_F4.2 (by omega) rfl rfl ⟨by decide, by decide⟩ hl ⟨Nat.zero_le _, Nat.zero_le _⟩ (Nat.le_of_ble_eq_true rfl) rfl dX8_writesJoke_45 (fun F6 H locs hp_F6 h => ?_)
    obtain ⟨hm_F6, hL_F6, hg_F6⟩ := hp_F6
    have e_F6 : (lput (lnum (lput (lnum (lput L (nI 32)) d) (nI 58)) sj) (nI 33)).1 = (lnum (lput (lnum (lput L (nI 32)) d) (nI 58)) sj).1 + 1 := rfl
    exact w_vret X h (by rw [pjX_k (by omega) h9 h10 (by omega) (by omega), pjF, if_neg (by rw [c_5]; decide)]; exact ⟨⟨by omega, hm_F6.2⟩, hL_F6, (fun i hi hi2 => (hg_F6 i (by omega) (by omega)).trans ((hg_F4 i (by omega) (by omega)).trans ((hg_F3 i (by omega) (by omega)).trans ((hg_F2 i (by omega) (by omega)).trans (hg_F1 i (by omega) (by omega))))))⟩) dX8_writesJoke_48
set_option maxRecDepth 20000 in
theorem c_X8_write (l : Launch) (g : gT) {N : Nat} {ad : Nat → Nat} {F : Nat → va_E} (u : Nat → Int32) (v : Nat → Nat) (hm : oM g N ad F u v) (x : SX) (hI : Inv x) (W : Nat → Int32) (hW : arI g F 255 274 W) (hR : RW x W) (la : Nat → Int32) (hL : arC g F 260 60 la) (a : Int32) : CtI l yX8_write cX8_write 3 (some .int) 3 68 g N ad F [.ref (ad 254), .int a] (fun r F' => (inW a (nI 0) (nI 3) → r = nI (wrF x (cl a) (0, la)).1 ∧ oM g N ad F' u (vLn v (wrF x (cl a) (0, la)).1) ∧ arC g F' 260 60 (wrF x (cl a) (0, la)).2) ∧ (¬ inW a (nI 0) (nI 3) → r = -1 ∧ oM g N ad F' u v ∧ arC g F' 260 60 la) ∧ ∀ i, i ≠ 254 → i ≠ 260 → F' i = F i) := by
  refine CtI_of (by decide) (Nat.le_of_ble_eq_true rfl) ?_
  intro p e s m args below meth c A H ls X M h hl
  have kx := X.1.1
  have kb := X.1.2.1
  have hl : lv_has ls 3 [(0, .ref (ad 254)), (1, .int a)] := hl
  have hN0 := hm.1
  have hn12 := hI.n
  refine lv_iload_n kx kb dX8_write_0 rfl (lv_at hl 1 rfl) ?_
  refine w_readSi X M h [.int a] [] ((c_X8_isWell l g a)) lk_X8_81 rfl ⟨by decide, by decide⟩ hl ⟨Nat.zero_le _, Nat.zero_le _⟩ (Nat.le_of_ble_eq_true rfl) rfl dX8_write_1 (fun H locs h => ?_)
  refine w_if_neb (tgt := 9) kx kb dX8_write_4 (by decide) (fun c_1 => ?_) (fun c_1 => ?_)
  · obtain ⟨k, hk0, hk, rfl⟩ := inW_of (by decide) (by decide) c_1
    have hbkk := hI.bk k
    have h6 := hI.w6 k (by omega)
    refine lv_aload_n kx kb dX8_write_9 rfl (lv_at hl 0 rfl) ?_
    refine lv_iconst (v := nI 0) kx kb dX8_write_10 (by decide) ?_
    refine w_put X M h 254 hm.2 (by omega) fp_X8_221 (rfl) (by rfl) (Nat.le_of_ble_eq_true rfl) dX8_write_11 (fun F2 H locs h he_F2 hf_F2 => ?_)
    have hm0 : oM g N ad F2 u (vLn v (((0, la) : LN).1)) := ⟨by omega, he_F2⟩
    have e_0 : ((0, la) : LN).1 = 0 := rfl
    refine lv_aload_n kx kb dX8_write_14 rfl (lv_at hl 0 rfl) ?_
    refine lv_bipush (v := nI 48) kx kb dX8_write_15 (by decide) ?_
    refine lv_iload_n kx kb dX8_write_17 rfl (lv_at hl 1 rfl) ?_
    refine w_addn kx kb dX8_write_18 ?_
    refine w_callVv X M h [.int (nI (48 + k))] [] ((c_X8_writes l g u v ((0, la) : LN) (⟨by omega, hm0.2⟩) (hL.fr (hf_F2 260 (by omega))) (by omega) (48 + k) (by omega))) lk_X8_224 hm0.2 (by omega) rfl rfl ⟨by decide, by decide⟩ hl ⟨Nat.zero_le _, Nat.zero_le _⟩ (Nat.le_of_ble_eq_true rfl) rfl dX8_write_19 (fun F3 H locs hp_F3 h => ?_)
    obtain ⟨hm_F3, hL_F3, hg_F3⟩ := hp_F3
    have e_F3 : (lput ((0, la) : LN) (nI (48 + k))).1 = (((0, la) : LN)).1 + 1 := rfl
    refine lv_aload_n kx kb dX8_write_22 rfl (lv_at hl 0 rfl) ?_
    refine lv_bipush (v := nI 117) kx kb dX8_write_23 (by decide) ?_
    refine w_callVv X M h [.int (nI 117)] [] ((c_X8_writes l g u v (lput ((0, la) : LN) (nI (48 + k))) (⟨by omega, hm_F3.2⟩) hL_F3 (by omega) 117 (by omega))) lk_X8_224 hm_F3.2 (by omega) rfl rfl ⟨by decide, by decide⟩ hl ⟨Nat.zero_le _, Nat.zero_le _⟩ (Nat.le_of_ble_eq_true rfl) rfl dX8_write_25 (fun F4 H locs hp_F4 h => ?_)
    obtain ⟨hm_F4, hL_F4, hg_F4⟩ := hp_F4
    have e_F4 : (lput (lput ((0, la) : LN) (nI (48 + k))) (nI 117)).1 = (lput ((0, la) : LN) (nI (48 + k))).1 + 1 := rfl
    refine lv_aload_n kx kb dX8_write_28 rfl (lv_at hl 0 rfl) ?_
    refine lv_bipush (v := nI 48) kx kb dX8_write_29 (by decide) ?_
    refine lv_aload_n kx kb dX8_write_31 rfl (lv_at hl 0 rfl) ?_
    refine w_get X M h 254 hm_F4.2 (by omega) fl_X8_32 rfl dX8_write_32 ?_
    refine lv_bipush (v := nI 14) kx kb dX8_write_35 (by decide) ?_
    refine lv_iload_n kx kb dX8_write_37 rfl (lv_at hl 1 rfl) ?_
    refine w_addn kx kb dX8_write_38 ?_
    refine w_iald X M h 255 (((hW.fr (hf_F2 255 (by omega))).fr (hg_F3 255 (by omega) (by omega))).fr (hg_F4 255 (by omega) (by omega))) (by omega) (14 + k) (rfl) (by omega) (by omega) dX8_write_39 ?_
    refine w_top (y := nI (x.2.2.2.2.2.2.1 k)) (hR.b k (by omega)) ?_
    refine w_addn kx kb dX8_write_40 ?_
    refine w_callVv X M h [.int (nI (48 + (x.2.2.2.2.2.2.1 k)))] [] ((c_X8_writes l g u v (lput (lput ((0, la) : LN) (nI (48 + k))) (nI 117)) (⟨by omega, hm_F4.2⟩) hL_F4 (by omega) (48 + (x.2.2.2.2.2.2.1 k)) (by omega))) lk_X8_224 hm_F4.2 (by omega) rfl rfl ⟨by decide, by decide⟩ hl ⟨Nat.zero_le _, Nat.zero_le _⟩ (Nat.le_of_ble_eq_true rfl) rfl dX8_write_41 (fun F5 H locs hp_F5 h => ?_)
    obtain ⟨hm_F5, hL_F5, hg_F5⟩ := hp_F5
    have e_F5 : (lput (lput (lput ((0, la) : LN) (nI (48 + k))) (nI 117)) (nI (48 + (x.2.2.2.2.2.2.1 k)))).1 = (lput (lput ((0, la) : LN) (nI (48 + k))) (nI 117)).1 + 1 := rfl
    refine lv_iconst (v := nI 0) kx kb dX8_write_44 (by decide) ?_
    refine lv_istore_n (lv' := [(2, .int (nI 0)), (0, .ref (ad 254)), (1, .int (nI k))]) kx kb dX8_write_45 rfl hl (by decide) rfl (fun ls hl => ?_)
    have eL : lnum (lput (lnum ((0, la) : LN) k) (nI 117)) (x.2.2.2.2.2.2.1 k) = (lput (lput (lput ((0, la) : LN) (nI (48 + k))) (nI 117)) (nI (48 + (x.2.2.2.2.2.2.1 k)))) := by rw [lnum_1 (L := ((0, la) : LN)) (v := k) (by omega), lnum_1 (v := x.2.2.2.2.2.2.1 k) (by omega)]
    have e3 : (lnum (lput (lnum ((0, la) : LN) k) (nI 117)) (x.2.2.2.2.2.2.1 k)).1 = 3 := by rw [eL]; omega
    refine w_loop3 (fun (i : Nat) (F1 : Nat → va_E) (L1 : LN) => cnt (cwP x.2.1 (nI k) (nI 30)) x.1 - i) (fun (i : Nat) (F1 : Nat → va_E) (L1 : LN) H locs ls => Hx g N ad F1 A s H locs ∧ lv_has ls 3 [(0, .ref (ad 254)), (1, .int (nI k)), (2, .int (nI i))] ∧ (i ≤ cnt (cwP x.2.1 (nI k) (nI 30)) x.1) ∧ (oM g N ad F1 u (vLn v L1.1)) ∧ (arC g F1 260 60 L1.2) ∧ (∀ q, q ≠ 254 → q ≠ 260 → F1 q = F q) ∧ (L1 = wrN x (nI k) i (lnum (lput (lnum ((0, la) : LN) k) (nI 117)) (x.2.2.2.2.2.2.1 k)))) ?_ 0 F5 (lput (lput (lput ((0, la) : LN) (nI (48 + k))) (nI 117)) (nI (48 + (x.2.2.2.2.2.2.1 k)))) ⟨h, lv_sub hl [1, 2, 0] rfl, Nat.zero_le _, ⟨by omega, hm_F5.2⟩, hL_F5, (fun q hi hi2 => (hg_F5 q (by omega) (by omega)).trans ((hg_F4 q (by omega) (by omega)).trans ((hg_F3 q (by omega) (by omega)).trans (hf_F2 q (by omega))))), by rw [← eL]; rfl⟩
    intro i F1 L1 H locs ls hinv ih
    obtain ⟨h, hl, hi, hm1, hL1, hf1, hl1⟩ := hinv
    have hg_1 := hf1
    have hwl := wrN_le x (nI k) i (lnum (lput (lnum ((0, la) : LN) k) (nI 117)) (x.2.2.2.2.2.2.1 k))
    have hl2 : L1.1 ≤ 3 + 7 * i := by rw [hl1]; omega
    refine lv_iload_n kx kb dX8_write_46 rfl (lv_at hl 2 rfl) ?_
    refine lv_aload_n kx kb dX8_write_47 rfl (lv_at hl 0 rfl) ?_
    refine lv_iload_n kx kb dX8_write_48 rfl (lv_at hl 1 rfl) ?_
    refine w_readVi X M h [.int (nI k)] [.int (nI i)] ((c_X8_jokesIn l g u (vLn v L1.1) ⟨by omega, hm1.2⟩ x hI W (hW.fr (hf1 255 (by omega) (by omega))) hR (nI k))) lk_X8_97 hm1.2 (by omega) rfl rfl ⟨by decide, by decide⟩ hl ⟨Nat.zero_le _, Nat.zero_le _⟩ (Nat.le_of_ble_eq_true rfl) rfl dX8_write_49 (fun H locs h => ?_)
    refine w_cmp_ge (tgt := 71) kx kb (by omega) (by omega) dX8_write_52 (by decide) (fun c_6 => ?_) (fun c_6 => ?_)
    · refine lv_aload_n kx kb dX8_write_71 rfl (lv_at hl 0 rfl) ?_
      refine w_get X M h 254 hm1.2 (by omega) fl_X8_221 rfl dX8_write_72 ?_
      exact w_iret X h ⟨fun _ => (by have ek : i = cnt (cwP x.2.1 (nI k) (nI 30)) x.1 := (by omega); have eW : wrF x (cl (nI k)) (0, la) = L1 := (by rw [hl1, cl_n (by omega), ek]; rfl); rw [eW]; exact ⟨rfl, hm1, hL1⟩), fun q => absurd c_1 q, fun i hi hi2 => hf1 i hi hi2⟩ dX8_write_75
    · refine lv_aload_n kx kb dX8_write_55 rfl (lv_at hl 0 rfl) ?_
      refine lv_aload_n kx kb dX8_write_56 rfl (lv_at hl 0 rfl) ?_
      refine lv_iload_n kx kb dX8_write_57 rfl (lv_at hl 1 rfl) ?_
      refine lv_iload_n kx kb dX8_write_58 rfl (lv_at hl 2 rfl) ?_
      refine w_readVi X M h [.int (nI k), .int (nI i)] [.ref (ad 254)] ((c_X8_atPlace l g u (vLn v L1.1) ⟨by omega, hm1.2⟩ x hI W (hW.fr (hf1 255 (by omega) (by omega))) hR (nI k) (nI i))) lk_X8_172 hm1.2 (by omega) rfl rfl ⟨by decide, by decide⟩ hl ⟨Nat.zero_le _, Nat.zero_le _⟩ (Nat.le_of_ble_eq_true rfl) rfl dX8_write_59 (fun H locs h => ?_)
      obtain ⟨k2, hk2, hik⟩ := place_at hI (wl := nI k) (i := i) (by omega)
      refine w_top (y := nI k2) hik ?_
      refine w_callVv X M h [.int (nI k2)] [] ((c_X8_writesJoke l g u v x hI W (hW.fr (hf1 255 (by omega) (by omega))) hR L1 (⟨by omega, hm1.2⟩) hL1 k2 hk2 (by omega))) lk_X8_230 hm1.2 (by omega) rfl rfl ⟨by decide, by decide⟩ hl ⟨Nat.zero_le _, Nat.zero_le _⟩ (Nat.le_of_ble_eq_true rfl) rfl dX8_write_62 (fun F7 H locs hp_F7 h => ?_)
      obtain ⟨hm_F7, hL_F7, hg_F7⟩ := hp_F7
      refine lv_iinc (v := nI (i + 1)) (lv' := [(2, .int (nI (i + 1))), (0, .ref (ad 254)), (1, .int (nI k))]) kx kb dX8_write_65 hl (k := 2) rfl (nI_add _ _) (by decide) rfl (fun ls hl => ?_)
      refine lv_goto (tgt := 46) kx kb dX8_write_68 (by decide) ?_
      exact ih (i + 1) F7 (pjX x (nI k2) L1) _ _ _ ⟨h, lv_sub hl [1, 2, 0] rfl, by omega, ⟨by omega, hm_F7.2⟩, hL_F7, (fun q hi hi2 => (hg_F7 q (by omega) (by omega)).trans (hg_1 q (by omega) (by omega))), by rw [wrN, ← hl1, hik]⟩ (by omega)
  · refine lv_iconst (v := (-1)) kx kb dX8_write_7 (by decide) ?_
    exact w_iret X h ⟨fun q => absurd q c_1, fun _ => ⟨rfl, hm, hL⟩, fun i hi hi2 => rfl⟩ dX8_write_8
set_option maxRecDepth 20000 in
theorem c_X8_writePump (l : Launch) (g : gT) {N : Nat} {ad : Nat → Nat} {F : Nat → va_E} (u : Nat → Int32) (v : Nat → Nat) (hm : oM g N ad F u v) (x : SX) (hI : Inv x) (W : Nat → Int32) (hW : arI g F 255 274 W) (hR : RW x W) (la : Nat → Int32) (hL : arC g F 260 60 la)  : CtI l yX8_writePump cX8_writePump 1 (some .int) 2 42 g N ad F [.ref (ad 254)] (fun r F' => r = nI (wpF (0, la) x.2.2.2.2.2.2.2).1 ∧ oM g N ad F' u (vLn v (wpF (0, la) x.2.2.2.2.2.2.2).1) ∧ arC g F' 260 60 (wpF (0, la) x.2.2.2.2.2.2.2).2 ∧ ∀ i, i ≠ 254 → i ≠ 260 → F' i = F i) := by
  refine CtI_of (by decide) (Nat.le_of_ble_eq_true rfl) ?_
  intro p e s m args below meth c A H ls X M h hl
  have kx := X.1.1
  have kb := X.1.2.1
  have hl : lv_has ls 1 [(0, .ref (ad 254))] := hl
  have hN0 := hm.1
  have hn12 := hI.n
  have htn64 := hI.tn
  obtain ⟨hz0, hz1a, hz1, hz2, hz3, hz4⟩ := hI.zz
  have g0 := dgN_le (x.2.2.2.2.2.2.2 0)
  have g1 := dgN_le (x.2.2.2.2.2.2.2 1)
  have g2 := dgN_le (x.2.2.2.2.2.2.2 2)
  have g3 := dgN_le (x.2.2.2.2.2.2.2 3)
  have g4 := dgN_le (x.2.2.2.2.2.2.2 4)
  refine lv_aload_n kx kb dX8_writePump_0 rfl (lv_at hl 0 rfl) ?_
  refine lv_iconst (v := nI 0) kx kb dX8_writePump_1 (by decide) ?_
  refine w_put X M h 254 hm.2 (by omega) fp_X8_221 (rfl) (by rfl) (Nat.le_of_ble_eq_true rfl) dX8_writePump_2 (fun F1 H locs h he_F1 hf_F1 => ?_)
  have hm0 : oM g N ad F1 u (vLn v (((0, la) : LN).1)) := ⟨by omega, he_F1⟩
  have e_0 : ((0, la) : LN).1 = 0 := rfl
  refine lv_aload_n kx kb dX8_writePump_5 rfl (lv_at hl 0 rfl) ?_
  refine lv_bipush (v := nI 64) kx kb dX8_writePump_6 (by decide) ?_
  refine w_callVv X M h [.int (nI 64)] [] ((c_X8_writes l g u v ((0, la) : LN) (⟨by omega, hm0.2⟩) (hL.fr (hf_F1 260 (by omega))) (by omega) 64 (by omega))) lk_X8_224 hm0.2 (by omega) rfl rfl ⟨by decide, by decide⟩ hl ⟨Nat.zero_le _, Nat.zero_le _⟩ (Nat.le_of_ble_eq_true rfl) rfl dX8_writePump_8 (fun F2 H locs hp_F2 h => ?_)
  obtain ⟨hm_F2, hL_F2, hg_F2⟩ := hp_F2
  have e_F2 : (lput ((0, la) : LN) (nI 64)).1 = (((0, la) : LN)).1 + 1 := rfl
  refine lv_aload_n kx kb dX8_writePump_11 rfl (lv_at hl 0 rfl) ?_
  refine lv_bipush (v := nI 48) kx kb dX8_writePump_12 (by decide) ?_
  refine lv_aload_n kx kb dX8_writePump_14 rfl (lv_at hl 0 rfl) ?_
  refine w_get X M h 254 hm_F2.2 (by omega) fl_X8_32 rfl dX8_writePump_15 ?_
  refine lv_iconst (v := nI 1) kx kb dX8_writePump_18 (by decide) ?_
  refine w_iald X M h 255 ((hW.fr (hf_F1 255 (by omega))).fr (hg_F2 255 (by omega) (by omega))) (by omega) (1) (rfl) (by omega) (by omega) dX8_writePump_19 ?_
  refine w_top (y := nI (x.2.2.2.2.2.2.2 0)) (hR.z 0 (by omega)) ?_
  refine w_addn kx kb dX8_writePump_20 ?_
  refine w_callVv X M h [.int (nI (48 + (x.2.2.2.2.2.2.2 0)))] [] ((c_X8_writes l g u v (lput ((0, la) : LN) (nI 64)) (⟨by omega, hm_F2.2⟩) hL_F2 (by omega) (48 + (x.2.2.2.2.2.2.2 0)) (by omega))) lk_X8_224 hm_F2.2 (by omega) rfl rfl ⟨by decide, by decide⟩ hl ⟨Nat.zero_le _, Nat.zero_le _⟩ (Nat.le_of_ble_eq_true rfl) rfl dX8_writePump_21 (fun F3 H locs hp_F3 h => ?_)
  obtain ⟨hm_F3, hL_F3, hg_F3⟩ := hp_F3
  have e_F3 : (lput (lput ((0, la) : LN) (nI 64)) (nI (48 + (x.2.2.2.2.2.2.2 0)))).1 = (lput ((0, la) : LN) (nI 64)).1 + 1 := rfl
  refine lv_aload_n kx kb dX8_writePump_24 rfl (lv_at hl 0 rfl) ?_
  refine lv_bipush (v := nI 94) kx kb dX8_writePump_25 (by decide) ?_
  refine w_callVv X M h [.int (nI 94)] [] ((c_X8_writes l g u v (lput (lput ((0, la) : LN) (nI 64)) (nI (48 + (x.2.2.2.2.2.2.2 0)))) (⟨by omega, hm_F3.2⟩) hL_F3 (by omega) 94 (by omega))) lk_X8_224 hm_F3.2 (by omega) rfl rfl ⟨by decide, by decide⟩ hl ⟨Nat.zero_le _, Nat.zero_le _⟩ (Nat.le_of_ble_eq_true rfl) rfl dX8_writePump_27 (fun F4 H locs hp_F4 h => ?_)
  obtain ⟨hm_F4, hL_F4, hg_F4⟩ := hp_F4
  have e_F4 : (lput (lput (lput ((0, la) : LN) (nI 64)) (nI (48 + (x.2.2.2.2.2.2.2 0)))) (nI 94)).1 = (lput (lput ((0, la) : LN) (nI 64)) (nI (48 + (x.2.2.2.2.2.2.2 0)))).1 + 1 := rfl
  refine lv_aload_n kx kb dX8_writePump_30 rfl (lv_at hl 0 rfl) ?_
  refine lv_aload_n kx kb dX8_writePump_31 rfl (lv_at hl 0 rfl) ?_
  refine w_get X M h 254 hm_F4.2 (by omega) fl_X8_32 rfl dX8_writePump_32 ?_
  refine lv_iconst (v := nI 2) kx kb dX8_writePump_35 (by decide) ?_
  refine w_iald X M h 255 ((((hW.fr (hf_F1 255 (by omega))).fr (hg_F2 255 (by omega) (by omega))).fr (hg_F3 255 (by omega) (by omega))).fr (hg_F4 255 (by omega) (by omega))) (by omega) (2) (rfl) (by omega) (by omega) dX8_writePump_36 ?_
  refine w_top (y := nI (x.2.2.2.2.2.2.2 1)) (hR.z 1 (by omega)) ?_
  refine w_callVv X M h [.int (nI (x.2.2.2.2.2.2.2 1))] [] ((c_X8_writesNumber l g u v (lput (lput (lput ((0, la) : LN) (nI 64)) (nI (48 + (x.2.2.2.2.2.2.2 0)))) (nI 94)) (⟨by omega, hm_F4.2⟩) hL_F4 (by omega) (x.2.2.2.2.2.2.2 1) (by omega))) lk_X8_227 hm_F4.2 (by omega) rfl rfl ⟨by decide, by decide⟩ hl ⟨Nat.zero_le _, Nat.zero_le _⟩ (Nat.le_of_ble_eq_true rfl) rfl dX8_writePump_37 (fun F5 H locs hp_F5 h => ?_)
  obtain ⟨hm_F5, hL_F5, hg_F5⟩ := hp_F5
  have e_F5 : (lnum (lput (lput (lput ((0, la) : LN) (nI 64)) (nI (48 + (x.2.2.2.2.2.2.2 0)))) (nI 94)) (x.2.2.2.2.2.2.2 1)).1 = (lput (lput (lput ((0, la) : LN) (nI 64)) (nI (48 + (x.2.2.2.2.2.2.2 0)))) (nI 94)).1 + dgN (x.2.2.2.2.2.2.2 1) := rfl
  refine lv_aload_n kx kb dX8_writePump_40 rfl (lv_at hl 0 rfl) ?_
  refine lv_bipush (v := nI 126) kx kb dX8_writePump_41 (by decide) ?_
  refine w_callVv X M h [.int (nI 126)] [] ((c_X8_writes l g u v (lnum (lput (lput (lput ((0, la) : LN) (nI 64)) (nI (48 + (x.2.2.2.2.2.2.2 0)))) (nI 94)) (x.2.2.2.2.2.2.2 1)) (⟨by omega, hm_F5.2⟩) hL_F5 (by omega) 126 (by omega))) lk_X8_224 hm_F5.2 (by omega) rfl rfl ⟨by decide, by decide⟩ hl ⟨Nat.zero_le _, Nat.zero_le _⟩ (Nat.le_of_ble_eq_true rfl) rfl dX8_writePump_43 (fun F6 H locs hp_F6 h => ?_)
  obtain ⟨hm_F6, hL_F6, hg_F6⟩ := hp_F6
  have e_F6 : (lput (lnum (lput (lput (lput ((0, la) : LN) (nI 64)) (nI (48 + (x.2.2.2.2.2.2.2 0)))) (nI 94)) (x.2.2.2.2.2.2.2 1)) (nI 126)).1 = (lnum (lput (lput (lput ((0, la) : LN) (nI 64)) (nI (48 + (x.2.2.2.2.2.2.2 0)))) (nI 94)) (x.2.2.2.2.2.2.2 1)).1 + 1 := rfl
  refine lv_aload_n kx kb dX8_writePump_46 rfl (lv_at hl 0 rfl) ?_
  refine lv_aload_n kx kb dX8_writePump_47 rfl (lv_at hl 0 rfl) ?_
  refine w_get X M h 254 hm_F6.2 (by omega) fl_X8_32 rfl dX8_writePump_48 ?_
  refine lv_iconst (v := nI 3) kx kb dX8_writePump_51 (by decide) ?_
  refine w_iald X M h 255 ((((((hW.fr (hf_F1 255 (by omega))).fr (hg_F2 255 (by omega) (by omega))).fr (hg_F3 255 (by omega) (by omega))).fr (hg_F4 255 (by omega) (by omega))).fr (hg_F5 255 (by omega) (by omega))).fr (hg_F6 255 (by omega) (by omega))) (by omega) (3) (rfl) (by omega) (by omega) dX8_writePump_52 ?_
  refine w_top (y := nI (x.2.2.2.2.2.2.2 2)) (hR.z 2 (by omega)) ?_
  refine w_callVv X M h [.int (nI (x.2.2.2.2.2.2.2 2))] [] ((c_X8_writesNumber l g u v (lput (lnum (lput (lput (lput ((0, la) : LN) (nI 64)) (nI (48 + (x.2.2.2.2.2.2.2 0)))) (nI 94)) (x.2.2.2.2.2.2.2 1)) (nI 126)) (⟨by omega, hm_F6.2⟩) hL_F6 (by omega) (x.2.2.2.2.2.2.2 2) (by omega))) lk_X8_227 hm_F6.2 (by omega) rfl rfl ⟨by decide, by decide⟩ hl ⟨Nat.zero_le _, Nat.zero_le _⟩ (Nat.le_of_ble_eq_true rfl) rfl dX8_writePump_53 (fun F7 H locs hp_F7 h => ?_)
  obtain ⟨hm_F7, hL_F7, hg_F7⟩ := hp_F7
  have e_F7 : (lnum (lput (lnum (lput (lput (lput ((0, la) : LN) (nI 64)) (nI (48 + (x.2.2.2.2.2.2.2 0)))) (nI 94)) (x.2.2.2.2.2.2.2 1)) (nI 126)) (x.2.2.2.2.2.2.2 2)).1 = (lput (lnum (lput (lput (lput ((0, la) : LN) (nI 64)) (nI (48 + (x.2.2.2.2.2.2.2 0)))) (nI 94)) (x.2.2.2.2.2.2.2 1)) (nI 126)).1 + dgN (x.2.2.2.2.2.2.2 2) := rfl
  refine lv_aload_n kx kb dX8_writePump_56 rfl (lv_at hl 0 rfl) ?_
  refine lv_bipush (v := nI 111) kx kb dX8_writePump_57 (by decide) ?_
  refine w_callVv X M h [.int (nI 111)] [] ((c_X8_writes l g u v (lnum (lput (lnum (lput (lput (lput ((0, la) : LN) (nI 64)) (nI (48 + (x.2.2.2.2.2.2.2 0)))) (nI 94)) (x.2.2.2.2.2.2.2 1)) (nI 126)) (x.2.2.2.2.2.2.2 2)) (⟨by omega, hm_F7.2⟩) hL_F7 (by omega) 111 (by omega))) lk_X8_224 hm_F7.2 (by omega) rfl rfl ⟨by decide, by decide⟩ hl ⟨Nat.zero_le _, Nat.zero_le _⟩ (Nat.le_of_ble_eq_true rfl) rfl dX8_writePump_59 (fun F8 H locs hp_F8 h => ?_)
  obtain ⟨hm_F8, hL_F8, hg_F8⟩ := hp_F8
  have e_F8 : (lput (lnum (lput (lnum (lput (lput (lput ((0, la) : LN) (nI 64)) (nI (48 + (x.2.2.2.2.2.2.2 0)))) (nI 94)) (x.2.2.2.2.2.2.2 1)) (nI 126)) (x.2.2.2.2.2.2.2 2)) (nI 111)).1 = (lnum (lput (lnum (lput (lput (lput ((0, la) : LN) (nI 64)) (nI (48 + (x.2.2.2.2.2.2.2 0)))) (nI 94)) (x.2.2.2.2.2.2.2 1)) (nI 126)) (x.2.2.2.2.2.2.2 2)).1 + 1 := rfl
  refine lv_aload_n kx kb dX8_writePump_62 rfl (lv_at hl 0 rfl) ?_
  refine lv_aload_n kx kb dX8_writePump_63 rfl (lv_at hl 0 rfl) ?_
  refine w_get X M h 254 hm_F8.2 (by omega) fl_X8_32 rfl dX8_writePump_64 ?_
  refine lv_iconst (v := nI 4) kx kb dX8_writePump_67 (by decide) ?_
  refine w_iald X M h 255 ((((((((hW.fr (hf_F1 255 (by omega))).fr (hg_F2 255 (by omega) (by omega))).fr (hg_F3 255 (by omega) (by omega))).fr (hg_F4 255 (by omega) (by omega))).fr (hg_F5 255 (by omega) (by omega))).fr (hg_F6 255 (by omega) (by omega))).fr (hg_F7 255 (by omega) (by omega))).fr (hg_F8 255 (by omega) (by omega))) (by omega) (4) (rfl) (by omega) (by omega) dX8_writePump_68 ?_
  refine w_top (y := nI (x.2.2.2.2.2.2.2 3)) (hR.z 3 (by omega)) ?_
  refine w_callVv X M h [.int (nI (x.2.2.2.2.2.2.2 3))] [] ((c_X8_writesNumber l g u v (lput (lnum (lput (lnum (lput (lput (lput ((0, la) : LN) (nI 64)) (nI (48 + (x.2.2.2.2.2.2.2 0)))) (nI 94)) (x.2.2.2.2.2.2.2 1)) (nI 126)) (x.2.2.2.2.2.2.2 2)) (nI 111)) (⟨by omega, hm_F8.2⟩) hL_F8 (by omega) (x.2.2.2.2.2.2.2 3) (by omega))) lk_X8_227 hm_F8.2 (by omega) rfl rfl ⟨by decide, by decide⟩ hl ⟨Nat.zero_le _, Nat.zero_le _⟩ (Nat.le_of_ble_eq_true rfl) rfl dX8_writePump_69 (fun F9 H locs hp_F9 h => ?_)
  obtain ⟨hm_F9, hL_F9, hg_F9⟩ := hp_F9
  have e_F9 : (lnum (lput (lnum (lput (lnum (lput (lput (lput ((0, la) : LN) (nI 64)) (nI (48 + (x.2.2.2.2.2.2.2 0)))) (nI 94)) (x.2.2.2.2.2.2.2 1)) (nI 126)) (x.2.2.2.2.2.2.2 2)) (nI 111)) (x.2.2.2.2.2.2.2 3)).1 = (lput (lnum (lput (lnum (lput (lput (lput ((0, la) : LN) (nI 64)) (nI (48 + (x.2.2.2.2.2.2.2 0)))) (nI 94)) (x.2.2.2.2.2.2.2 1)) (nI 126)) (x.2.2.2.2.2.2.2 2)) (nI 111)).1 + dgN (x.2.2.2.2.2.2.2 3) := rfl
  refine lv_aload_n kx kb dX8_writePump_72 rfl (lv_at hl 0 rfl) ?_
  refine lv_bipush (v := nI 42) kx kb dX8_writePump_73 (by decide) ?_
  refine w_callVv X M h [.int (nI 42)] [] ((c_X8_writes l g u v (lnum (lput (lnum (lput (lnum (lput (lput (lput ((0, la) : LN) (nI 64)) (nI (48 + (x.2.2.2.2.2.2.2 0)))) (nI 94)) (x.2.2.2.2.2.2.2 1)) (nI 126)) (x.2.2.2.2.2.2.2 2)) (nI 111)) (x.2.2.2.2.2.2.2 3)) (⟨by omega, hm_F9.2⟩) hL_F9 (by omega) 42 (by omega))) lk_X8_224 hm_F9.2 (by omega) rfl rfl ⟨by decide, by decide⟩ hl ⟨Nat.zero_le _, Nat.zero_le _⟩ (Nat.le_of_ble_eq_true rfl) rfl dX8_writePump_75 (fun F10 H locs hp_F10 h => ?_)
  obtain ⟨hm_F10, hL_F10, hg_F10⟩ := hp_F10
  have e_F10 : (lput (lnum (lput (lnum (lput (lnum (lput (lput (lput ((0, la) : LN) (nI 64)) (nI (48 + (x.2.2.2.2.2.2.2 0)))) (nI 94)) (x.2.2.2.2.2.2.2 1)) (nI 126)) (x.2.2.2.2.2.2.2 2)) (nI 111)) (x.2.2.2.2.2.2.2 3)) (nI 42)).1 = (lnum (lput (lnum (lput (lnum (lput (lput (lput ((0, la) : LN) (nI 64)) (nI (48 + (x.2.2.2.2.2.2.2 0)))) (nI 94)) (x.2.2.2.2.2.2.2 1)) (nI 126)) (x.2.2.2.2.2.2.2 2)) (nI 111)) (x.2.2.2.2.2.2.2 3)).1 + 1 := rfl
  refine lv_aload_n kx kb dX8_writePump_78 rfl (lv_at hl 0 rfl) ?_
  refine lv_bipush (v := nI 48) kx kb dX8_writePump_79 (by decide) ?_
  refine lv_aload_n kx kb dX8_writePump_81 rfl (lv_at hl 0 rfl) ?_
  refine w_get X M h 254 hm_F10.2 (by omega) fl_X8_32 rfl dX8_writePump_82 ?_
  refine lv_iconst (v := nI 5) kx kb dX8_writePump_85 (by decide) ?_
  refine w_iald X M h 255 ((((((((((hW.fr (hf_F1 255 (by omega))).fr (hg_F2 255 (by omega) (by omega))).fr (hg_F3 255 (by omega) (by omega))).fr (hg_F4 255 (by omega) (by omega))).fr (hg_F5 255 (by omega) (by omega))).fr (hg_F6 255 (by omega) (by omega))).fr (hg_F7 255 (by omega) (by omega))).fr (hg_F8 255 (by omega) (by omega))).fr (hg_F9 255 (by omega) (by omega))).fr (hg_F10 255 (by omega) (by omega))) (by omega) (5) (rfl) (by omega) (by omega) dX8_writePump_86 ?_
  refine w_top (y := nI (x.2.2.2.2.2.2.2 4)) (hR.z 4 (by omega)) ?_
  refine w_addn kx kb dX8_writePump_87 ?_
  refine w_callVv X M h [.int (nI (48 + (x.2.2.2.2.2.2.2 4)))] [] ((c_X8_writes l g u v (lput (lnum (lput (lnum (lput (lnum (lput (lput (lput ((0, la) : LN) (nI 64)) (nI (48 + (x.2.2.2.2.2.2.2 0)))) (nI 94)) (x.2.2.2.2.2.2.2 1)) (nI 126)) (x.2.2.2.2.2.2.2 2)) (nI 111)) (x.2.2.2.2.2.2.2 3)) (nI 42)) (⟨by omega, hm_F10.2⟩) hL_F10 (by omega) (48 + (x.2.2.2.2.2.2.2 4)) (by omega))) lk_X8_224 hm_F10.2 (by omega) rfl rfl ⟨by decide, by decide⟩ hl ⟨Nat.zero_le _, Nat.zero_le _⟩ (Nat.le_of_ble_eq_true rfl) rfl dX8_writePump_88 (fun F11 H locs hp_F11 h => ?_)
  obtain ⟨hm_F11, hL_F11, hg_F11⟩ := hp_F11
  have e_F11 : (lput (lput (lnum (lput (lnum (lput (lnum (lput (lput (lput ((0, la) : LN) (nI 64)) (nI (48 + (x.2.2.2.2.2.2.2 0)))) (nI 94)) (x.2.2.2.2.2.2.2 1)) (nI 126)) (x.2.2.2.2.2.2.2 2)) (nI 111)) (x.2.2.2.2.2.2.2 3)) (nI 42)) (nI (48 + (x.2.2.2.2.2.2.2 4)))).1 = (lput (lnum (lput (lnum (lput (lnum (lput (lput (lput ((0, la) : LN) (nI 64)) (nI (48 + (x.2.2.2.2.2.2.2 0)))) (nI 94)) (x.2.2.2.2.2.2.2 1)) (nI 126)) (x.2.2.2.2.2.2.2 2)) (nI 111)) (x.2.2.2.2.2.2.2 3)) (nI 42)).1 + 1 := rfl
  refine lv_aload_n kx kb dX8_writePump_91 rfl (lv_at hl 0 rfl) ?_
  refine w_get X M h 254 hm_F11.2 (by omega) fl_X8_221 rfl dX8_writePump_92 ?_
  exact w_iret X h (by rw [show wpF (0, la) x.2.2.2.2.2.2.2 = (lput (lput (lnum (lput (lnum (lput (lnum (lput (lput (lput ((0, la) : LN) (nI 64)) (nI (48 + (x.2.2.2.2.2.2.2 0)))) (nI 94)) (x.2.2.2.2.2.2.2 1)) (nI 126)) (x.2.2.2.2.2.2.2 2)) (nI 111)) (x.2.2.2.2.2.2.2 3)) (nI 42)) (nI (48 + (x.2.2.2.2.2.2.2 4)))) from by rw [wpF, lnum_1 (v := x.2.2.2.2.2.2.2 0) (by omega), lnum_1 (v := x.2.2.2.2.2.2.2 4) (by omega)]]; exact ⟨rfl, ⟨by omega, hm_F11.2⟩, hL_F11, (fun i hi hi2 => (hg_F11 i (by omega) (by omega)).trans ((hg_F10 i (by omega) (by omega)).trans ((hg_F9 i (by omega) (by omega)).trans ((hg_F8 i (by omega) (by omega)).trans ((hg_F7 i (by omega) (by omega)).trans ((hg_F6 i (by omega) (by omega)).trans ((hg_F5 i (by omega) (by omega)).trans ((hg_F4 i (by omega) (by omega)).trans ((hg_F3 i (by omega) (by omega)).trans ((hg_F2 i (by omega) (by omega)).trans (hf_F1 i (by omega))))))))))))⟩) dX8_writePump_95
