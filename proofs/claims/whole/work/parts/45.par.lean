set_option maxRecDepth 20000 in
theorem c_X8_nextSign (l : Launch) (g : gT) {N : Nat} {ad : Nat → Nat} {F : Nat → va_E} (u : Nat → Int32) (v : Nat → Nat) (p0 : Nat) (so : Int32) (a nm : Nat → Int32) (hm : oM g N ad F (uSo u so) (vAt v p0)) (h3 : v 3 ≤ 60) (hp0 : p0 ≤ v 3) (hA : arC g F 261 60 a) (hM : arI g F 262 4 nm)  : CtI l yX8_nextSign cX8_nextSign 1 (some .int) 0 0 g N ad F [.ref (ad 254)] (fun r F' => r = sgN (v 3) a p0 ∧ F' = F) := by
  refine CtI_of (by decide) (Nat.le_of_ble_eq_true rfl) ?_
  intro p e s m args below meth c A H ls X M h hl
  have kx := X.1.1
  have kb := X.1.2.1
  have hl : lv_has ls 1 [(0, .ref (ad 254))] := hl
  have hN0 := hm.1
  have hF_1 : F 254 = .inr (8, [.int (u 0), .int (u 1), .int (u 2), .int (u 3), .int (u 4), .int (u 5), .ref (ad 255), .ref (ad 256), .ref (ad 257), .ref (ad 258), .ref (ad 259), .int (nI (v 0)), .int (nI (v 1)), .int (u 6), .ref (ad 260), .int (nI (v 2)), .ref (ad 261), .int (nI (v 3)), .int (nI p0), .int (u 7), .ref (ad 262), .int so, .int (nI (v 5))]) := hm.2
  refine lv_aload_n kx kb dX8_nextSign_0 rfl (lv_at hl 0 rfl) ?_
  refine w_get X M h 254 hF_1 (by omega) fl_X8_233 rfl dX8_nextSign_1 ?_
  refine lv_aload_n kx kb dX8_nextSign_4 rfl (lv_at hl 0 rfl) ?_
  refine w_get X M h 254 hF_1 (by omega) fl_X8_218 rfl dX8_nextSign_5 ?_
  refine w_cmp_ge (tgt := 23) kx kb (by omega) (by omega) dX8_nextSign_8 (by decide) (fun c_2 => ?_) (fun c_2 => ?_)
  · refine lv_iconst (v := (-1)) kx kb dX8_nextSign_23 (by decide) ?_
    exact w_iret X h ⟨by rw [sgN, if_neg (by omega)], rfl⟩ dX8_nextSign_24
  · refine lv_aload_n kx kb dX8_nextSign_11 rfl (lv_at hl 0 rfl) ?_
    refine w_get X M h 254 hF_1 (by omega) fl_X8_52 rfl dX8_nextSign_12 ?_
    refine lv_aload_n kx kb dX8_nextSign_15 rfl (lv_at hl 0 rfl) ?_
    refine w_get X M h 254 hF_1 (by omega) fl_X8_233 rfl dX8_nextSign_16 ?_
    refine w_cald X M h 261 hA (by omega) (p0) (rfl) (by omega) (by omega) dX8_nextSign_19 ?_
    refine lv_goto (tgt := 24) kx kb dX8_nextSign_20 (by decide) ?_
    exact w_iret X h ⟨by rw [sgN, if_pos (by omega)], rfl⟩ dX8_nextSign_24
set_option maxRecDepth 20000 in
theorem c_X8_reads (l : Launch) (g : gT) {N : Nat} {ad : Nat → Nat} {F : Nat → va_E} (u : Nat → Int32) (v : Nat → Nat) (p0 : Nat) (so : Int32) (a nm : Nat → Int32) (hm : oM g N ad F (uSo u so) (vAt v p0)) (h3 : v 3 ≤ 60) (hp0 : p0 ≤ v 3) (hA : arC g F 261 60 a) (hM : arI g F 262 4 nm) (k : Nat) (hk : k < 1000) : CtI l yX8_reads cX8_reads 2 (some .boolean) 1 20 g N ad F [.ref (ad 254), .int (nI k)] (fun r F' => (sgN (v 3) a p0 = nI k → r = nI 1 ∧ oM g N ad F' (uSo u so) (vAt v (p0 + 1))) ∧ (¬ sgN (v 3) a p0 = nI k → r = nI 0 ∧ oM g N ad F' (uSo u so) (vAt v p0)) ∧ ∀ i, i ≠ 254 → F' i = F i) := by
  refine CtI_of (by decide) (Nat.le_of_ble_eq_true rfl) ?_
  intro p e s m args below meth c A H ls X M h hl
  have kx := X.1.1
  have kb := X.1.2.1
  have hl : lv_has ls 2 [(0, .ref (ad 254)), (1, .int (nI k))] := hl
  have hN0 := hm.1
  have hF_1 : F 254 = .inr (8, [.int (u 0), .int (u 1), .int (u 2), .int (u 3), .int (u 4), .int (u 5), .ref (ad 255), .ref (ad 256), .ref (ad 257), .ref (ad 258), .ref (ad 259), .int (nI (v 0)), .int (nI (v 1)), .int (u 6), .ref (ad 260), .int (nI (v 2)), .ref (ad 261), .int (nI (v 3)), .int (nI p0), .int (u 7), .ref (ad 262), .int so, .int (nI (v 5))]) := hm.2
  refine lv_aload_n kx kb dX8_reads_0 rfl (lv_at hl 0 rfl) ?_
  refine w_readVi X M h [] [] ((c_X8_nextSign l g u v p0 so a nm (⟨by omega, hF_1⟩) h3 (by omega) hA hM)) lk_X8_236 hF_1 (by omega) rfl rfl ⟨by decide, by decide⟩ hl ⟨Nat.zero_le _, Nat.zero_le _⟩ (Nat.le_of_ble_eq_true rfl) rfl dX8_reads_1 (fun H locs h => ?_)
  refine lv_iload_n kx kb dX8_reads_4 rfl (lv_at hl 1 rfl) ?_
  refine lv_icmp_eq (tgt := 10) kx kb dX8_reads_5 (by decide) (fun c_2 => ?_) (fun c_2 => ?_)
  · refine lv_aload_n kx kb dX8_reads_10 rfl (lv_at hl 0 rfl) ?_
    refine lv_dup kx kb dX8_reads_11 rfl ?_
    refine w_get X M h 254 hF_1 (by omega) fl_X8_233 rfl dX8_reads_12 ?_
    refine lv_iconst (v := nI 1) kx kb dX8_reads_15 (by decide) ?_
    refine w_addn kx kb dX8_reads_16 ?_
    refine w_put X M h 254 hF_1 (by omega) fp_X8_233 (rfl) (by rfl) (Nat.le_of_ble_eq_true rfl) dX8_reads_17 (fun F3 H locs h he_F3 hf_F3 => ?_)
    refine lv_iconst (v := nI 1) kx kb dX8_reads_20 (by decide) ?_
    exact w_zret X h (Or.inr (by decide)) ⟨fun _ => ⟨rfl, ⟨by omega, he_F3⟩⟩, fun e => absurd c_2 e, (fun i hi0 => hf_F3 i (by omega))⟩ dX8_reads_21
  · refine lv_iconst (v := nI 0) kx kb dX8_reads_8 (by decide) ?_
    exact w_zret X h (Or.inl (by decide)) ⟨fun e => absurd e c_2, fun _ => ⟨rfl, ⟨by omega, hF_1⟩⟩, (fun i hi0 => rfl)⟩ dX8_reads_9
set_option maxRecDepth 20000 in
theorem c_X8_readsDigit (l : Launch) (g : gT) {N : Nat} {ad : Nat → Nat} {F : Nat → va_E} (u : Nat → Int32) (v : Nat → Nat) (p0 : Nat) (so : Int32) (a nm : Nat → Int32) (hm : oM g N ad F (uSo u so) (vAt v p0)) (h3 : v 3 ≤ 60) (hp0 : p0 ≤ v 3) (hA : arC g F 261 60 a) (hM : arI g F 262 4 nm) (k : Nat) (hk : k < 4) : CtI l yX8_readsDigit cX8_readsDigit 2 (some .boolean) 1 22 g N ad F [.ref (ad 254), .int (nI k)] (fun r F' => (isD (v 3) a p0 → r = nI 1 ∧ oM g N ad F' (uSo u so) (vAt v (p0 + 1)) ∧ arI g F' 262 4 (upd nm k (sgN (v 3) a p0 - nI 48))) ∧ (¬ isD (v 3) a p0 → r = nI 0 ∧ oM g N ad F' (uSo u so) (vAt v p0) ∧ arI g F' 262 4 nm) ∧ ∀ i, i ≠ 254 → i ≠ 262 → F' i = F i) := by
  refine CtI_of (by decide) (Nat.le_of_ble_eq_true rfl) ?_
  intro p e s m args below meth c A H ls X M h hl
  have kx := X.1.1
  have kb := X.1.2.1
  have hl : lv_has ls 2 [(0, .ref (ad 254)), (1, .int (nI k))] := hl
  have hN0 := hm.1
  have hF_1 : F 254 = .inr (8, [.int (u 0), .int (u 1), .int (u 2), .int (u 3), .int (u 4), .int (u 5), .ref (ad 255), .ref (ad 256), .ref (ad 257), .ref (ad 258), .ref (ad 259), .int (nI (v 0)), .int (nI (v 1)), .int (u 6), .ref (ad 260), .int (nI (v 2)), .ref (ad 261), .int (nI (v 3)), .int (nI p0), .int (u 7), .ref (ad 262), .int so, .int (nI (v 5))]) := hm.2
  refine lv_aload_n kx kb dX8_readsDigit_0 rfl (lv_at hl 0 rfl) ?_
  refine w_readVi X M h [] [] ((c_X8_nextSign l g u v p0 so a nm (⟨by omega, hF_1⟩) h3 (by omega) hA hM)) lk_X8_236 hF_1 (by omega) rfl rfl ⟨by decide, by decide⟩ hl ⟨Nat.zero_le _, Nat.zero_le _⟩ (Nat.le_of_ble_eq_true rfl) rfl dX8_readsDigit_1 (fun H locs h => ?_)
  refine lv_bipush (v := nI 48) kx kb dX8_readsDigit_4 (by decide) ?_
  refine lv_bipush (v := nI 57) kx kb dX8_readsDigit_6 (by decide) ?_
  refine w_readSi X M h [.int (sgN (v 3) a p0), .int (nI 48), .int (nI 57)] [] ((c_X8_isBetween l g (sgN (v 3) a p0) (nI 48) (nI 57))) lk_X8_19 rfl ⟨by decide, by decide⟩ hl ⟨Nat.zero_le _, Nat.zero_le _⟩ (Nat.le_of_ble_eq_true rfl) rfl dX8_readsDigit_8 (fun H locs h => ?_)
  refine w_if_neb (tgt := 16) kx kb dX8_readsDigit_11 (by decide) (fun c_2 => ?_) (fun c_2 => ?_)
  · have hq := isD_lt c_2
    refine lv_aload_n kx kb dX8_readsDigit_16 rfl (lv_at hl 0 rfl) ?_
    refine w_get X M h 254 hF_1 (by omega) fl_X8_58 rfl dX8_readsDigit_17 ?_
    refine lv_iload_n kx kb dX8_readsDigit_20 rfl (lv_at hl 1 rfl) ?_
    refine lv_aload_n kx kb dX8_readsDigit_21 rfl (lv_at hl 0 rfl) ?_
    refine w_readVi X M h [] [.int (nI k), .ref (ad 262)] ((c_X8_nextSign l g u v p0 so a nm (⟨by omega, hF_1⟩) h3 (by omega) hA hM)) lk_X8_236 hF_1 (by omega) rfl rfl ⟨by decide, by decide⟩ hl ⟨Nat.zero_le _, Nat.zero_le _⟩ (Nat.le_of_ble_eq_true rfl) rfl dX8_readsDigit_22 (fun H locs h => ?_)
    refine lv_bipush (v := nI 48) kx kb dX8_readsDigit_25 (by decide) ?_
    refine lv_isub kx kb dX8_readsDigit_27 ?_
    refine w_iast X M h 262 hM (by omega) (k) (rfl) (by omega) (by omega) dX8_readsDigit_28 (fun F3 H locs h he_F3 hf_F3 => ?_)
    refine lv_aload_n kx kb dX8_readsDigit_29 rfl (lv_at hl 0 rfl) ?_
    refine lv_dup kx kb dX8_readsDigit_30 rfl ?_
    refine w_get X M h 254 ((hf_F3 254 (by omega)).trans hF_1) (by omega) fl_X8_233 rfl dX8_readsDigit_31 ?_
    refine lv_iconst (v := nI 1) kx kb dX8_readsDigit_34 (by decide) ?_
    refine w_addn kx kb dX8_readsDigit_35 ?_
    refine w_put X M h 254 ((hf_F3 254 (by omega)).trans hF_1) (by omega) fp_X8_233 (rfl) (by rfl) (Nat.le_of_ble_eq_true rfl) dX8_readsDigit_36 (fun F4 H locs h he_F4 hf_F4 => ?_)
    refine lv_iconst (v := nI 1) kx kb dX8_readsDigit_39 (by decide) ?_
    exact w_zret X h (Or.inr (by decide)) ⟨fun _ => ⟨rfl, ⟨by omega, he_F4⟩, (he_F3.fr (hf_F4 262 (by omega)))⟩, fun e => absurd c_2 e, (fun i hi0 hi1 => (hf_F4 i (by omega)).trans (hf_F3 i (by omega)))⟩ dX8_readsDigit_40
  · refine lv_iconst (v := nI 0) kx kb dX8_readsDigit_14 (by decide) ?_
    exact w_zret X h (Or.inl (by decide)) ⟨fun e => absurd e c_2, fun _ => ⟨rfl, ⟨by omega, hF_1⟩, hM⟩, (fun i hi0 hi1 => rfl)⟩ dX8_readsDigit_15
set_option maxRecDepth 20000 in
theorem c_X8_readsNumber (l : Launch) (g : gT) {N : Nat} {ad : Nat → Nat} {F : Nat → va_E} (u : Nat → Int32) (v : Nat → Nat) (p0 : Nat) (so : Int32) (a nm : Nat → Int32) (hm : oM g N ad F (uSo u so) (vAt v p0)) (h3 : v 3 ≤ 60) (hp0 : p0 ≤ v 3) (hA : arC g F 261 60 a) (hM : arI g F 262 4 nm) (k : Nat) (hk : k < 4) : CtI l yX8_readsNumber cX8_readsNumber 2 (some .boolean) 2 43 g N ad F [.ref (ad 254), .int (nI k)] (fun r F' => (tkL (v 3) a p0 ≠ 0 → r = nI 1 ∧ oM g N ad F' (uSo u so) (vAt v (p0 + tkL (v 3) a p0)) ∧ arI g F' 262 4 (upd nm k (tkV (v 3) a p0))) ∧ (¬ tkL (v 3) a p0 ≠ 0 → r = nI 0 ∧ oM g N ad F' (uSo u so) (vAt v p0) ∧ arI g F' 262 4 nm) ∧ ∀ i, i ≠ 254 → i ≠ 262 → F' i = F i) := by
  refine CtI_of (by decide) (Nat.le_of_ble_eq_true rfl) ?_
  intro p e s m args below meth c A H ls X M h hl
  have kx := X.1.1
  have kb := X.1.2.1
  have hl : lv_has ls 2 [(0, .ref (ad 254)), (1, .int (nI k))] := hl
  have hN0 := hm.1
  have hF_1 : F 254 = .inr (8, [.int (u 0), .int (u 1), .int (u 2), .int (u 3), .int (u 4), .int (u 5), .ref (ad 255), .ref (ad 256), .ref (ad 257), .ref (ad 258), .ref (ad 259), .int (nI (v 0)), .int (nI (v 1)), .int (u 6), .ref (ad 260), .int (nI (v 2)), .ref (ad 261), .int (nI (v 3)), .int (nI p0), .int (u 7), .ref (ad 262), .int so, .int (nI (v 5))]) := hm.2
  refine lv_aload_n kx kb dX8_readsNumber_0 rfl (lv_at hl 0 rfl) ?_
  refine lv_iload_n kx kb dX8_readsNumber_1 rfl (lv_at hl 1 rfl) ?_
  refine w_callVi X M h [.int (nI k)] [] ((c_X8_readsDigit l g u v p0 so a nm (⟨by omega, hF_1⟩) h3 (by omega) hA hM k (by omega))) lk_X8_239 hF_1 (by omega) rfl rfl ⟨by decide, by decide⟩ hl ⟨Nat.zero_le _, Nat.zero_le _⟩ (Nat.le_of_ble_eq_true rfl) rfl dX8_readsNumber_2 (fun r_F2 F2 H locs hp_F2 h => ?_)
  by_cases c_F2 : isD (v 3) a p0
  · obtain ⟨hr_F2, hm_F2, hM_F2⟩ := hp_F2.1 c_F2
    have hg_F2 := hp_F2.2.2
    have hq_F2 : p0 + 1 ≤ v 3 := isD_lt c_F2
    have hF_3 : F2 254 = .inr (8, [.int (u 0), .int (u 1), .int (u 2), .int (u 3), .int (u 4), .int (u 5), .ref (ad 255), .ref (ad 256), .ref (ad 257), .ref (ad 258), .ref (ad 259), .int (nI (v 0)), .int (nI (v 1)), .int (u 6), .ref (ad 260), .int (nI (v 2)), .ref (ad 261), .int (nI (v 3)), .int (nI (p0 + 1)), .int (u 7), .ref (ad 262), .int so, .int (nI (v 5))]) := hm_F2.2
    refine w_top (y := nI 1) hr_F2 ?_
    refine lv_if_ne (tgt := 10) kx kb dX8_readsNumber_5 (by decide) (fun _ => ?_) (fun q => absurd q (by decide))
    refine lv_aload_n kx kb dX8_readsNumber_10 rfl (lv_at hl 0 rfl) ?_
    refine w_readVi X M h [] [] ((c_X8_nextSign l g u v (p0 + 1) so a (upd nm k (sgN (v 3) a p0 - nI 48)) (⟨by omega, hF_3⟩) h3 (by omega) (hA.fr (hg_F2 261 (by omega) (by omega))) hM_F2)) lk_X8_236 hF_3 (by omega) rfl rfl ⟨by decide, by decide⟩ hl ⟨Nat.zero_le _, Nat.zero_le _⟩ (Nat.le_of_ble_eq_true rfl) rfl dX8_readsNumber_11 (fun H locs h => ?_)
    refine lv_bipush (v := nI 48) kx kb dX8_readsNumber_14 (by decide) ?_
    refine lv_bipush (v := nI 57) kx kb dX8_readsNumber_16 (by decide) ?_
    refine w_readSi X M h [.int (sgN (v 3) a (p0 + 1)), .int (nI 48), .int (nI 57)] [] ((c_X8_isBetween l g (sgN (v 3) a (p0 + 1)) (nI 48) (nI 57))) lk_X8_19 rfl ⟨by decide, by decide⟩ hl ⟨Nat.zero_le _, Nat.zero_le _⟩ (Nat.le_of_ble_eq_true rfl) rfl dX8_readsNumber_18 (fun H locs h => ?_)
    refine w_if_neb (tgt := 26) kx kb dX8_readsNumber_21 (by decide) (fun c_4 => ?_) (fun c_4 => ?_)
    · have hq2 := isD_lt c_4
      refine lv_aload_n kx kb dX8_readsNumber_26 rfl (lv_at hl 0 rfl) ?_
      refine w_get X M h 254 hF_3 (by omega) fl_X8_58 rfl dX8_readsNumber_27 ?_
      refine lv_iload_n kx kb dX8_readsNumber_30 rfl (lv_at hl 1 rfl) ?_
      refine lv_bipush (v := nI 10) kx kb dX8_readsNumber_31 (by decide) ?_
      refine lv_aload_n kx kb dX8_readsNumber_33 rfl (lv_at hl 0 rfl) ?_
      refine w_get X M h 254 hF_3 (by omega) fl_X8_58 rfl dX8_readsNumber_34 ?_
      refine lv_iload_n kx kb dX8_readsNumber_37 rfl (lv_at hl 1 rfl) ?_
      refine w_iald X M h 262 hM_F2 (by omega) (k) (rfl) (by omega) (by omega) dX8_readsNumber_38 ?_
      refine lv_imul kx kb dX8_readsNumber_39 ?_
      refine lv_aload_n kx kb dX8_readsNumber_40 rfl (lv_at hl 0 rfl) ?_
      refine w_readVi X M h [] [.int ((nI 10) * ((upd nm k (sgN (v 3) a p0 - nI 48)) k)), .int (nI k), .ref (ad 262)] ((c_X8_nextSign l g u v (p0 + 1) so a (upd nm k (sgN (v 3) a p0 - nI 48)) (⟨by omega, hF_3⟩) h3 (by omega) (hA.fr (hg_F2 261 (by omega) (by omega))) hM_F2)) lk_X8_236 hF_3 (by omega) rfl rfl ⟨by decide, by decide⟩ hl ⟨Nat.zero_le _, Nat.zero_le _⟩ (Nat.le_of_ble_eq_true rfl) rfl dX8_readsNumber_41 (fun H locs h => ?_)
      refine lv_iadd kx kb dX8_readsNumber_44 ?_
      refine lv_bipush (v := nI 48) kx kb dX8_readsNumber_45 (by decide) ?_
      refine lv_isub kx kb dX8_readsNumber_47 ?_
      refine w_iast X M h 262 hM_F2 (by omega) (k) (rfl) (by omega) (by omega) dX8_readsNumber_48 (fun F5 H locs h he_F5 hf_F5 => ?_)
      refine lv_aload_n kx kb dX8_readsNumber_49 rfl (lv_at hl 0 rfl) ?_
      refine lv_dup kx kb dX8_readsNumber_50 rfl ?_
      refine w_get X M h 254 ((hf_F5 254 (by omega)).trans hF_3) (by omega) fl_X8_233 rfl dX8_readsNumber_51 ?_
      refine lv_iconst (v := nI 1) kx kb dX8_readsNumber_54 (by decide) ?_
      refine w_addn kx kb dX8_readsNumber_55 ?_
      refine w_put X M h 254 ((hf_F5 254 (by omega)).trans hF_3) (by omega) fp_X8_233 (rfl) (by rfl) (Nat.le_of_ble_eq_true rfl) dX8_readsNumber_56 (fun F6 H locs h he_F6 hf_F6 => ?_)
      refine lv_iconst (v := nI 1) kx kb dX8_readsNumber_59 (by decide) ?_
      exact w_zret X h (Or.inr (by decide)) (by have eL : tkL (v 3) a p0 = 2 := (by rw [tkL, if_pos c_F2, if_pos c_4]); have eV : tkV (v 3) a p0 = nI 10 * (sgN (v 3) a p0 - nI 48) + sgN (v 3) a (p0 + 1) - nI 48 := (by rw [tkV, if_pos c_4]); rw [eL, eV]; exact ⟨fun _ => ⟨rfl, ⟨by omega, he_F6⟩, ((he_F5.fr (hf_F6 262 (by omega)))).eq (fun z hz => by simp only [upd]; split <;> rfl)⟩, fun e => absurd (show ¬ (2 = 0) by decide) e, (fun i hi0 hi1 => (hf_F6 i (by omega)).trans ((hf_F5 i (by omega)).trans (hg_F2 i (by omega) (by omega))))⟩) dX8_readsNumber_60
    · refine lv_iconst (v := nI 1) kx kb dX8_readsNumber_24 (by decide) ?_
      exact w_zret X h (Or.inr (by decide)) (by have eL : tkL (v 3) a p0 = 1 := (by rw [tkL, if_pos c_F2, if_neg c_4]); have eV : tkV (v 3) a p0 = sgN (v 3) a p0 - nI 48 := (by rw [tkV, if_neg c_4]); rw [eL, eV]; exact ⟨fun _ => ⟨rfl, ⟨by omega, hF_3⟩, hM_F2⟩, fun e => absurd (show ¬ (1 = 0) by decide) e, (fun i hi0 hi1 => hg_F2 i (by omega) (by omega))⟩) dX8_readsNumber_25
  · obtain ⟨hr_F2, hm_F2, hM_F2⟩ := hp_F2.2.1 c_F2
    have hg_F2 := hp_F2.2.2
    have hF_7 : F2 254 = .inr (8, [.int (u 0), .int (u 1), .int (u 2), .int (u 3), .int (u 4), .int (u 5), .ref (ad 255), .ref (ad 256), .ref (ad 257), .ref (ad 258), .ref (ad 259), .int (nI (v 0)), .int (nI (v 1)), .int (u 6), .ref (ad 260), .int (nI (v 2)), .ref (ad 261), .int (nI (v 3)), .int (nI p0), .int (u 7), .ref (ad 262), .int so, .int (nI (v 5))]) := hm_F2.2
    refine w_top (y := nI 0) hr_F2 ?_
    refine lv_if_ne (tgt := 10) kx kb dX8_readsNumber_5 (by decide) (fun q => absurd (by decide) q) (fun _ => ?_)
    refine lv_iconst (v := nI 0) kx kb dX8_readsNumber_8 (by decide) ?_
    exact w_zret X h (Or.inl (by decide)) ⟨fun e => absurd (show tkL (v 3) a p0 = 0 by rw [tkL, if_neg c_F2]) e, fun _ => ⟨rfl, ⟨by omega, hF_7⟩, hM_F2⟩, (fun i hi0 hi1 => hg_F2 i (by omega) (by omega))⟩ dX8_readsNumber_9
set_option maxRecDepth 20000 in
theorem c_X8_readsJoke (l : Launch) (g : gT) {N : Nat} {ad : Nat → Nat} {F : Nat → va_E} (u : Nat → Int32) (v : Nat → Nat) (p0 : Nat) (so : Int32) (a nm : Nat → Int32) (hm : oM g N ad F (uSo u so) (vAt v p0)) (h3 : v 3 ≤ 60) (hp0 : p0 ≤ v 3) (hA : arC g F 261 60 a) (hM : arI g F 262 4 nm)  : CtI l yX8_readsJoke cX8_readsJoke 1 (some .boolean) 3 64 g N ad F [.ref (ad 254)] (fun r F' => r = bI ((mt (v 3) a [111, 107, 101, 32, 35, 32, 37, 32, 37, 32, 35] p0).1 = true) ∧ oM g N ad F' (uSo u so) (vAt v (mt (v 3) a [111, 107, 101, 32, 35, 32, 37, 32, 37, 32, 35] p0).2.1) ∧ arI g F' 262 4 (nmP nm 0 (mt (v 3) a [111, 107, 101, 32, 35, 32, 37, 32, 37, 32, 35] p0).2.2) ∧ ∀ i, i ≠ 254 → i ≠ 262 → F' i = F i) := by
  refine CtI_of (by decide) (Nat.le_of_ble_eq_true rfl) ?_
  intro p e s m args below meth c A H ls X M h hl
  have kx := X.1.1
  have kb := X.1.2.1
  have hl : lv_has ls 1 [(0, .ref (ad 254))] := hl
  have hN0 := hm.1
  have hF_1 : F 254 = .inr (8, [.int (u 0), .int (u 1), .int (u 2), .int (u 3), .int (u 4), .int (u 5), .ref (ad 255), .ref (ad 256), .ref (ad 257), .ref (ad 258), .ref (ad 259), .int (nI (v 0)), .int (nI (v 1)), .int (u 6), .ref (ad 260), .int (nI (v 2)), .ref (ad 261), .int (nI (v 3)), .int (nI p0), .int (u 7), .ref (ad 262), .int so, .int (nI (v 5))]) := hm.2
  refine lv_aload_n kx kb dX8_readsJoke_0 rfl (lv_at hl 0 rfl) ?_
  refine lv_bipush (v := nI 111) kx kb dX8_readsJoke_1 (by decide) ?_
  refine w_callVi X M h [.int (nI 111)] [] ((c_X8_reads l g u v p0 so a nm (⟨by omega, hF_1⟩) h3 (by omega) hA hM 111 (by decide))) lk_X8_242 hF_1 (by omega) rfl rfl ⟨by decide, by decide⟩ hl ⟨Nat.zero_le _, Nat.zero_le _⟩ (Nat.le_of_ble_eq_true rfl) rfl dX8_readsJoke_3 (fun r_F2 F2 H locs hp_F2 h => ?_)
  by_cases c_F2 : sgN (v 3) a p0 = nI 111
  · obtain ⟨hr_F2, hm_F2⟩ := hp_F2.1 c_F2
    have hf_F2 := hp_F2.2.2
    have hq_F2 : p0 + 1 ≤ v 3 := sgN_lt (by decide) c_F2
    have hF_3 : F2 254 = .inr (8, [.int (u 0), .int (u 1), .int (u 2), .int (u 3), .int (u 4), .int (u 5), .ref (ad 255), .ref (ad 256), .ref (ad 257), .ref (ad 258), .ref (ad 259), .int (nI (v 0)), .int (nI (v 1)), .int (u 6), .ref (ad 260), .int (nI (v 2)), .ref (ad 261), .int (nI (v 3)), .int (nI (p0 + 1)), .int (u 7), .ref (ad 262), .int so, .int (nI (v 5))]) := hm_F2.2
    refine w_top (y := nI 1) hr_F2 ?_
    refine lv_if_eq (tgt := 53) kx kb dX8_readsJoke_6 (by decide) (fun q => absurd q (by decide)) (fun _ => ?_)
    refine lv_aload_n kx kb dX8_readsJoke_9 rfl (lv_at hl 0 rfl) ?_
    refine lv_bipush (v := nI 107) kx kb dX8_readsJoke_10 (by decide) ?_
    refine w_callVi X M h [.int (nI 107)] [] ((c_X8_reads l g u v (p0 + 1) so a nm (⟨by omega, hF_3⟩) h3 (by omega) (hA.fr (hf_F2 261 (by omega))) (hM.fr (hf_F2 262 (by omega))) 107 (by decide))) lk_X8_242 hF_3 (by omega) rfl rfl ⟨by decide, by decide⟩ hl ⟨Nat.zero_le _, Nat.zero_le _⟩ (Nat.le_of_ble_eq_true rfl) rfl dX8_readsJoke_12 (fun r_F4 F4 H locs hp_F4 h => ?_)
    by_cases c_F4 : sgN (v 3) a (p0 + 1) = nI 107
    · obtain ⟨hr_F4, hm_F4⟩ := hp_F4.1 c_F4
      have hf_F4 := hp_F4.2.2
      have hq_F4 : p0 + 1 + 1 ≤ v 3 := sgN_lt (by decide) c_F4
      have hF_5 : F4 254 = .inr (8, [.int (u 0), .int (u 1), .int (u 2), .int (u 3), .int (u 4), .int (u 5), .ref (ad 255), .ref (ad 256), .ref (ad 257), .ref (ad 258), .ref (ad 259), .int (nI (v 0)), .int (nI (v 1)), .int (u 6), .ref (ad 260), .int (nI (v 2)), .ref (ad 261), .int (nI (v 3)), .int (nI (p0 + 1 + 1)), .int (u 7), .ref (ad 262), .int so, .int (nI (v 5))]) := hm_F4.2
      refine w_top (y := nI 1) hr_F4 ?_
      refine lv_if_eq (tgt := 53) kx kb dX8_readsJoke_15 (by decide) (fun q => absurd q (by decide)) (fun _ => ?_)
      refine lv_aload_n kx kb dX8_readsJoke_18 rfl (lv_at hl 0 rfl) ?_
      refine lv_bipush (v := nI 101) kx kb dX8_readsJoke_19 (by decide) ?_
      refine w_callVi X M h [.int (nI 101)] [] ((c_X8_reads l g u v (p0 + 1 + 1) so a nm (⟨by omega, hF_5⟩) h3 (by omega) ((hA.fr (hf_F2 261 (by omega))).fr (hf_F4 261 (by omega))) ((hM.fr (hf_F2 262 (by omega))).fr (hf_F4 262 (by omega))) 101 (by decide))) lk_X8_242 hF_5 (by omega) rfl rfl ⟨by decide, by decide⟩ hl ⟨Nat.zero_le _, Nat.zero_le _⟩ (Nat.le_of_ble_eq_true rfl) rfl dX8_readsJoke_21 (fun r_F6 F6 H locs hp_F6 h => ?_)
      by_cases c_F6 : sgN (v 3) a (p0 + 1 + 1) = nI 101
      · obtain ⟨hr_F6, hm_F6⟩ := hp_F6.1 c_F6
        have hf_F6 := hp_F6.2.2
        have hq_F6 : p0 + 1 + 1 + 1 ≤ v 3 := sgN_lt (by decide) c_F6
        have hF_7 : F6 254 = .inr (8, [.int (u 0), .int (u 1), .int (u 2), .int (u 3), .int (u 4), .int (u 5), .ref (ad 255), .ref (ad 256), .ref (ad 257), .ref (ad 258), .ref (ad 259), .int (nI (v 0)), .int (nI (v 1)), .int (u 6), .ref (ad 260), .int (nI (v 2)), .ref (ad 261), .int (nI (v 3)), .int (nI (p0 + 1 + 1 + 1)), .int (u 7), .ref (ad 262), .int so, .int (nI (v 5))]) := hm_F6.2
        refine w_top (y := nI 1) hr_F6 ?_
        refine lv_if_eq (tgt := 53) kx kb dX8_readsJoke_24 (by decide) (fun q => absurd q (by decide)) (fun _ => ?_)
        refine lv_aload_n kx kb dX8_readsJoke_27 rfl (lv_at hl 0 rfl) ?_
        refine lv_bipush (v := nI 32) kx kb dX8_readsJoke_28 (by decide) ?_
        refine w_callVi X M h [.int (nI 32)] [] ((c_X8_reads l g u v (p0 + 1 + 1 + 1) so a nm (⟨by omega, hF_7⟩) h3 (by omega) (((hA.fr (hf_F2 261 (by omega))).fr (hf_F4 261 (by omega))).fr (hf_F6 261 (by omega))) (((hM.fr (hf_F2 262 (by omega))).fr (hf_F4 262 (by omega))).fr (hf_F6 262 (by omega))) 32 (by decide))) lk_X8_242 hF_7 (by omega) rfl rfl ⟨by decide, by decide⟩ hl ⟨Nat.zero_le _, Nat.zero_le _⟩ (Nat.le_of_ble_eq_true rfl) rfl dX8_readsJoke_30 (fun r_F8 F8 H locs hp_F8 h => ?_)
        by_cases c_F8 : sgN (v 3) a (p0 + 1 + 1 + 1) = nI 32
        · obtain ⟨hr_F8, hm_F8⟩ := hp_F8.1 c_F8
          have hf_F8 := hp_F8.2.2
          have hq_F8 : p0 + 1 + 1 + 1 + 1 ≤ v 3 := sgN_lt (by decide) c_F8
          have hF_9 : F8 254 = .inr (8, [.int (u 0), .int (u 1), .int (u 2), .int (u 3), .int (u 4), .int (u 5), .ref (ad 255), .ref (ad 256), .ref (ad 257), .ref (ad 258), .ref (ad 259), .int (nI (v 0)), .int (nI (v 1)), .int (u 6), .ref (ad 260), .int (nI (v 2)), .ref (ad 261), .int (nI (v 3)), .int (nI (p0 + 1 + 1 + 1 + 1)), .int (u 7), .ref (ad 262), .int so, .int (nI (v 5))]) := hm_F8.2
          refine w_top (y := nI 1) hr_F8 ?_
          refine lv_if_eq (tgt := 53) kx kb dX8_readsJoke_33 (by decide) (fun q => absurd q (by decide)) (fun _ => ?_)
          refine lv_aload_n kx kb dX8_readsJoke_36 rfl (lv_at hl 0 rfl) ?_
          refine lv_iconst (v := nI 0) kx kb dX8_readsJoke_37 (by decide) ?_
          refine w_callVi X M h [.int (nI 0)] [] ((c_X8_readsDigit l g u v (p0 + 1 + 1 + 1 + 1) so a nm (⟨by omega, hF_9⟩) h3 (by omega) ((((hA.fr (hf_F2 261 (by omega))).fr (hf_F4 261 (by omega))).fr (hf_F6 261 (by omega))).fr (hf_F8 261 (by omega))) ((((hM.fr (hf_F2 262 (by omega))).fr (hf_F4 262 (by omega))).fr (hf_F6 262 (by omega))).fr (hf_F8 262 (by omega))) 0 (by omega))) lk_X8_239 hF_9 (by omega) rfl rfl ⟨by decide, by decide⟩ hl ⟨Nat.zero_le _, Nat.zero_le _⟩ (Nat.le_of_ble_eq_true rfl) rfl dX8_readsJoke_38 (fun r_F10 F10 H locs hp_F10 h => ?_)
          by_cases c_F10 : isD (v 3) a (p0 + 1 + 1 + 1 + 1)
          · obtain ⟨hr_F10, hm_F10, hM_F10⟩ := hp_F10.1 c_F10
            have hg_F10 := hp_F10.2.2
            have hq_F10 : p0 + 1 + 1 + 1 + 1 + 1 ≤ v 3 := isD_lt c_F10
            have hF_11 : F10 254 = .inr (8, [.int (u 0), .int (u 1), .int (u 2), .int (u 3), .int (u 4), .int (u 5), .ref (ad 255), .ref (ad 256), .ref (ad 257), .ref (ad 258), .ref (ad 259), .int (nI (v 0)), .int (nI (v 1)), .int (u 6), .ref (ad 260), .int (nI (v 2)), .ref (ad 261), .int (nI (v 3)), .int (nI (p0 + 1 + 1 + 1 + 1 + 1)), .int (u 7), .ref (ad 262), .int so, .int (nI (v 5))]) := hm_F10.2
            refine w_top (y := nI 1) hr_F10 ?_
            refine lv_if_eq (tgt := 53) kx kb dX8_readsJoke_41 (by decide) (fun q => absurd q (by decide)) (fun _ => ?_)
            refine lv_aload_n kx kb dX8_readsJoke_44 rfl (lv_at hl 0 rfl) ?_
            refine lv_bipush (v := nI 32) kx kb dX8_readsJoke_45 (by decide) ?_
            refine w_callVi X M h [.int (nI 32)] [] ((c_X8_reads l g u v (p0 + 1 + 1 + 1 + 1 + 1) so a (upd nm 0 (sgN (v 3) a (p0 + 1 + 1 + 1 + 1) - nI 48)) (⟨by omega, hF_11⟩) h3 (by omega) (((((hA.fr (hf_F2 261 (by omega))).fr (hf_F4 261 (by omega))).fr (hf_F6 261 (by omega))).fr (hf_F8 261 (by omega))).fr (hg_F10 261 (by omega) (by omega))) hM_F10 32 (by decide))) lk_X8_242 hF_11 (by omega) rfl rfl ⟨by decide, by decide⟩ hl ⟨Nat.zero_le _, Nat.zero_le _⟩ (Nat.le_of_ble_eq_true rfl) rfl dX8_readsJoke_47 (fun r_F12 F12 H locs hp_F12 h => ?_)
            by_cases c_F12 : sgN (v 3) a (p0 + 1 + 1 + 1 + 1 + 1) = nI 32
            · obtain ⟨hr_F12, hm_F12⟩ := hp_F12.1 c_F12
              have hf_F12 := hp_F12.2.2
              have hq_F12 : p0 + 1 + 1 + 1 + 1 + 1 + 1 ≤ v 3 := sgN_lt (by decide) c_F12
              have hF_13 : F12 254 = .inr (8, [.int (u 0), .int (u 1), .int (u 2), .int (u 3), .int (u 4), .int (u 5), .ref (ad 255), .ref (ad 256), .ref (ad 257), .ref (ad 258), .ref (ad 259), .int (nI (v 0)), .int (nI (v 1)), .int (u 6), .ref (ad 260), .int (nI (v 2)), .ref (ad 261), .int (nI (v 3)), .int (nI (p0 + 1 + 1 + 1 + 1 + 1 + 1)), .int (u 7), .ref (ad 262), .int so, .int (nI (v 5))]) := hm_F12.2
              refine w_top (y := nI 1) hr_F12 ?_
              refine lv_if_ne (tgt := 55) kx kb dX8_readsJoke_50 (by decide) (fun _ => ?_) (fun q => absurd q (by decide))
              refine lv_aload_n kx kb dX8_readsJoke_55 rfl (lv_at hl 0 rfl) ?_
              refine lv_iconst (v := nI 1) kx kb dX8_readsJoke_56 (by decide) ?_
              refine w_callVi X M h [.int (nI 1)] [] ((c_X8_readsNumber l g u v (p0 + 1 + 1 + 1 + 1 + 1 + 1) so a (upd nm 0 (sgN (v 3) a (p0 + 1 + 1 + 1 + 1) - nI 48)) (⟨by omega, hF_13⟩) h3 (by omega) ((((((hA.fr (hf_F2 261 (by omega))).fr (hf_F4 261 (by omega))).fr (hf_F6 261 (by omega))).fr (hf_F8 261 (by omega))).fr (hg_F10 261 (by omega) (by omega))).fr (hf_F12 261 (by omega))) (hM_F10.fr (hf_F12 262 (by omega))) 1 (by omega))) lk_X8_245 hF_13 (by omega) rfl rfl ⟨by decide, by decide⟩ hl ⟨Nat.zero_le _, Nat.zero_le _⟩ (Nat.le_of_ble_eq_true rfl) rfl dX8_readsJoke_57 (fun r_F14 F14 H locs hp_F14 h => ?_)
              by_cases c_F14 : tkL (v 3) a (p0 + 1 + 1 + 1 + 1 + 1 + 1) ≠ 0
              · obtain ⟨hr_F14, hm_F14, hM_F14⟩ := hp_F14.1 c_F14
                have hg_F14 := hp_F14.2.2
                have hq_F14 : p0 + 1 + 1 + 1 + 1 + 1 + 1 + tkL (v 3) a (p0 + 1 + 1 + 1 + 1 + 1 + 1) ≤ v 3 := tkL_le (by omega)
                have hF_15 : F14 254 = .inr (8, [.int (u 0), .int (u 1), .int (u 2), .int (u 3), .int (u 4), .int (u 5), .ref (ad 255), .ref (ad 256), .ref (ad 257), .ref (ad 258), .ref (ad 259), .int (nI (v 0)), .int (nI (v 1)), .int (u 6), .ref (ad 260), .int (nI (v 2)), .ref (ad 261), .int (nI (v 3)), .int (nI (p0 + 1 + 1 + 1 + 1 + 1 + 1 + (tkL (v 3) a (p0 + 1 + 1 + 1 + 1 + 1 + 1)))), .int (u 7), .ref (ad 262), .int so, .int (nI (v 5))]) := hm_F14.2
                refine w_top (y := nI 1) hr_F14 ?_
                refine lv_if_eq (tgt := 101) kx kb dX8_readsJoke_60 (by decide) (fun q => absurd q (by decide)) (fun _ => ?_)
                refine lv_aload_n kx kb dX8_readsJoke_63 rfl (lv_at hl 0 rfl) ?_
                refine lv_bipush (v := nI 32) kx kb dX8_readsJoke_64 (by decide) ?_
                refine w_callVi X M h [.int (nI 32)] [] ((c_X8_reads l g u v (p0 + 1 + 1 + 1 + 1 + 1 + 1 + (tkL (v 3) a (p0 + 1 + 1 + 1 + 1 + 1 + 1))) so a (upd (upd nm 0 (sgN (v 3) a (p0 + 1 + 1 + 1 + 1) - nI 48)) 1 (tkV (v 3) a (p0 + 1 + 1 + 1 + 1 + 1 + 1))) (⟨by omega, hF_15⟩) h3 (by omega) (((((((hA.fr (hf_F2 261 (by omega))).fr (hf_F4 261 (by omega))).fr (hf_F6 261 (by omega))).fr (hf_F8 261 (by omega))).fr (hg_F10 261 (by omega) (by omega))).fr (hf_F12 261 (by omega))).fr (hg_F14 261 (by omega) (by omega))) hM_F14 32 (by decide))) lk_X8_242 hF_15 (by omega) rfl rfl ⟨by decide, by decide⟩ hl ⟨Nat.zero_le _, Nat.zero_le _⟩ (Nat.le_of_ble_eq_true rfl) rfl dX8_readsJoke_66 (fun r_F16 F16 H locs hp_F16 h => ?_)
                by_cases c_F16 : sgN (v 3) a (p0 + 1 + 1 + 1 + 1 + 1 + 1 + (tkL (v 3) a (p0 + 1 + 1 + 1 + 1 + 1 + 1))) = nI 32
                · obtain ⟨hr_F16, hm_F16⟩ := hp_F16.1 c_F16
                  have hf_F16 := hp_F16.2.2
                  have hq_F16 : p0 + 1 + 1 + 1 + 1 + 1 + 1 + (tkL (v 3) a (p0 + 1 + 1 + 1 + 1 + 1 + 1)) + 1 ≤ v 3 := sgN_lt (by decide) c_F16
                  have hF_17 : F16 254 = .inr (8, [.int (u 0), .int (u 1), .int (u 2), .int (u 3), .int (u 4), .int (u 5), .ref (ad 255), .ref (ad 256), .ref (ad 257), .ref (ad 258), .ref (ad 259), .int (nI (v 0)), .int (nI (v 1)), .int (u 6), .ref (ad 260), .int (nI (v 2)), .ref (ad 261), .int (nI (v 3)), .int (nI (p0 + 1 + 1 + 1 + 1 + 1 + 1 + (tkL (v 3) a (p0 + 1 + 1 + 1 + 1 + 1 + 1)) + 1)), .int (u 7), .ref (ad 262), .int so, .int (nI (v 5))]) := hm_F16.2
                  refine w_top (y := nI 1) hr_F16 ?_
                  refine lv_if_eq (tgt := 101) kx kb dX8_readsJoke_69 (by decide) (fun q => absurd q (by decide)) (fun _ => ?_)
                  refine lv_aload_n kx kb dX8_readsJoke_72 rfl (lv_at hl 0 rfl) ?_
                  refine lv_iconst (v := nI 2) kx kb dX8_readsJoke_73 (by decide) ?_
                  refine w_callVi X M h [.int (nI 2)] [] ((c_X8_readsNumber l g u v (p0 + 1 + 1 + 1 + 1 + 1 + 1 + (tkL (v 3) a (p0 + 1 + 1 + 1 + 1 + 1 + 1)) + 1) so a (upd (upd nm 0 (sgN (v 3) a (p0 + 1 + 1 + 1 + 1) - nI 48)) 1 (tkV (v 3) a (p0 + 1 + 1 + 1 + 1 + 1 + 1))) (⟨by omega, hF_17⟩) h3 (by omega) ((((((((hA.fr (hf_F2 261 (by omega))).fr (hf_F4 261 (by omega))).fr (hf_F6 261 (by omega))).fr (hf_F8 261 (by omega))).fr (hg_F10 261 (by omega) (by omega))).fr (hf_F12 261 (by omega))).fr (hg_F14 261 (by omega) (by omega))).fr (hf_F16 261 (by omega))) (hM_F14.fr (hf_F16 262 (by omega))) 2 (by omega))) lk_X8_245 hF_17 (by omega) rfl rfl ⟨by decide, by decide⟩ hl ⟨Nat.zero_le _, Nat.zero_le _⟩ (Nat.le_of_ble_eq_true rfl) rfl dX8_readsJoke_74 (fun r_F18 F18 H locs hp_F18 h => ?_)
                  by_cases c_F18 : tkL (v 3) a (p0 + 1 + 1 + 1 + 1 + 1 + 1 + (tkL (v 3) a (p0 + 1 + 1 + 1 + 1 + 1 + 1)) + 1) ≠ 0
                  · obtain ⟨hr_F18, hm_F18, hM_F18⟩ := hp_F18.1 c_F18
                    have hg_F18 := hp_F18.2.2
                    have hq_F18 : p0 + 1 + 1 + 1 + 1 + 1 + 1 + (tkL (v 3) a (p0 + 1 + 1 + 1 + 1 + 1 + 1)) + 1 + tkL (v 3) a (p0 + 1 + 1 + 1 + 1 + 1 + 1 + (tkL (v 3) a (p0 + 1 + 1 + 1 + 1 + 1 + 1)) + 1) ≤ v 3 := tkL_le (by omega)
                    have hF_19 : F18 254 = .inr (8, [.int (u 0), .int (u 1), .int (u 2), .int (u 3), .int (u 4), .int (u 5), .ref (ad 255), .ref (ad 256), .ref (ad 257), .ref (ad 258), .ref (ad 259), .int (nI (v 0)), .int (nI (v 1)), .int (u 6), .ref (ad 260), .int (nI (v 2)), .ref (ad 261), .int (nI (v 3)), .int (nI (p0 + 1 + 1 + 1 + 1 + 1 + 1 + (tkL (v 3) a (p0 + 1 + 1 + 1 + 1 + 1 + 1)) + 1 + (tkL (v 3) a (p0 + 1 + 1 + 1 + 1 + 1 + 1 + (tkL (v 3) a (p0 + 1 + 1 + 1 + 1 + 1 + 1)) + 1)))), .int (u 7), .ref (ad 262), .int so, .int (nI (v 5))]) := hm_F18.2
                    refine w_top (y := nI 1) hr_F18 ?_
                    refine lv_if_eq (tgt := 101) kx kb dX8_readsJoke_77 (by decide) (fun q => absurd q (by decide)) (fun _ => ?_)
                    refine lv_aload_n kx kb dX8_readsJoke_80 rfl (lv_at hl 0 rfl) ?_
                    refine lv_bipush (v := nI 32) kx kb dX8_readsJoke_81 (by decide) ?_
                    refine w_callVi X M h [.int (nI 32)] [] ((c_X8_reads l g u v (p0 + 1 + 1 + 1 + 1 + 1 + 1 + (tkL (v 3) a (p0 + 1 + 1 + 1 + 1 + 1 + 1)) + 1 + (tkL (v 3) a (p0 + 1 + 1 + 1 + 1 + 1 + 1 + (tkL (v 3) a (p0 + 1 + 1 + 1 + 1 + 1 + 1)) + 1))) so a (upd (upd (upd nm 0 (sgN (v 3) a (p0 + 1 + 1 + 1 + 1) - nI 48)) 1 (tkV (v 3) a (p0 + 1 + 1 + 1 + 1 + 1 + 1))) 2 (tkV (v 3) a (p0 + 1 + 1 + 1 + 1 + 1 + 1 + (tkL (v 3) a (p0 + 1 + 1 + 1 + 1 + 1 + 1)) + 1))) (⟨by omega, hF_19⟩) h3 (by omega) (((((((((hA.fr (hf_F2 261 (by omega))).fr (hf_F4 261 (by omega))).fr (hf_F6 261 (by omega))).fr (hf_F8 261 (by omega))).fr (hg_F10 261 (by omega) (by omega))).fr (hf_F12 261 (by omega))).fr (hg_F14 261 (by omega) (by omega))).fr (hf_F16 261 (by omega))).fr (hg_F18 261 (by omega) (by omega))) hM_F18 32 (by decide))) lk_X8_242 hF_19 (by omega) rfl rfl ⟨by decide, by decide⟩ hl ⟨Nat.zero_le _, Nat.zero_le _⟩ (Nat.le_of_ble_eq_true rfl) rfl dX8_readsJoke_83 (fun r_F20 F20 H locs hp_F20 h => ?_)
                    by_cases c_F20 : sgN (v 3) a (p0 + 1 + 1 + 1 + 1 + 1 + 1 + (tkL (v 3) a (p0 + 1 + 1 + 1 + 1 + 1 + 1)) + 1 + (tkL (v 3) a (p0 + 1 + 1 + 1 + 1 + 1 + 1 + (tkL (v 3) a (p0 + 1 + 1 + 1 + 1 + 1 + 1)) + 1))) = nI 32
                    · obtain ⟨hr_F20, hm_F20⟩ := hp_F20.1 c_F20
                      have hf_F20 := hp_F20.2.2
                      have hq_F20 : p0 + 1 + 1 + 1 + 1 + 1 + 1 + (tkL (v 3) a (p0 + 1 + 1 + 1 + 1 + 1 + 1)) + 1 + (tkL (v 3) a (p0 + 1 + 1 + 1 + 1 + 1 + 1 + (tkL (v 3) a (p0 + 1 + 1 + 1 + 1 + 1 + 1)) + 1)) + 1 ≤ v 3 := sgN_lt (by decide) c_F20
                      have hF_21 : F20 254 = .inr (8, [.int (u 0), .int (u 1), .int (u 2), .int (u 3), .int (u 4), .int (u 5), .ref (ad 255), .ref (ad 256), .ref (ad 257), .ref (ad 258), .ref (ad 259), .int (nI (v 0)), .int (nI (v 1)), .int (u 6), .ref (ad 260), .int (nI (v 2)), .ref (ad 261), .int (nI (v 3)), .int (nI (p0 + 1 + 1 + 1 + 1 + 1 + 1 + (tkL (v 3) a (p0 + 1 + 1 + 1 + 1 + 1 + 1)) + 1 + (tkL (v 3) a (p0 + 1 + 1 + 1 + 1 + 1 + 1 + (tkL (v 3) a (p0 + 1 + 1 + 1 + 1 + 1 + 1)) + 1)) + 1)), .int (u 7), .ref (ad 262), .int so, .int (nI (v 5))]) := hm_F20.2
                      refine w_top (y := nI 1) hr_F20 ?_
                      refine lv_if_eq (tgt := 101) kx kb dX8_readsJoke_86 (by decide) (fun q => absurd q (by decide)) (fun _ => ?_)
                      refine lv_aload_n kx kb dX8_readsJoke_89 rfl (lv_at hl 0 rfl) ?_
                      refine lv_iconst (v := nI 3) kx kb dX8_readsJoke_90 (by decide) ?_
                      refine w_callVi X M h [.int (nI 3)] [] ((c_X8_readsDigit l g u v (p0 + 1 + 1 + 1 + 1 + 1 + 1 + (tkL (v 3) a (p0 + 1 + 1 + 1 + 1 + 1 + 1)) + 1 + (tkL (v 3) a (p0 + 1 + 1 + 1 + 1 + 1 + 1 + (tkL (v 3) a (p0 + 1 + 1 + 1 + 1 + 1 + 1)) + 1)) + 1) so a (upd (upd (upd nm 0 (sgN (v 3) a (p0 + 1 + 1 + 1 + 1) - nI 48)) 1 (tkV (v 3) a (p0 + 1 + 1 + 1 + 1 + 1 + 1))) 2 (tkV (v 3) a (p0 + 1 + 1 + 1 + 1 + 1 + 1 + (tkL (v 3) a (p0 + 1 + 1 + 1 + 1 + 1 + 1)) + 1))) (⟨by omega, hF_21⟩) h3 (by omega) ((((((((((hA.fr (hf_F2 261 (by omega))).fr (hf_F4 261 (by omega))).fr (hf_F6 261 (by omega))).fr (hf_F8 261 (by omega))).fr (hg_F10 261 (by omega) (by omega))).fr (hf_F12 261 (by omega))).fr (hg_F14 261 (by omega) (by omega))).fr (hf_F16 261 (by omega))).fr (hg_F18 261 (by omega) (by omega))).fr (hf_F20 261 (by omega))) (hM_F18.fr (hf_F20 262 (by omega))) 3 (by omega))) lk_X8_239 hF_21 (by omega) rfl rfl ⟨by decide, by decide⟩ hl ⟨Nat.zero_le _, Nat.zero_le _⟩ (Nat.le_of_ble_eq_true rfl) rfl dX8_readsJoke_91 (fun r_F22 F22 H locs hp_F22 h => ?_)
                      by_cases c_F22 : isD (v 3) a (p0 + 1 + 1 + 1 + 1 + 1 + 1 + (tkL (v 3) a (p0 + 1 + 1 + 1 + 1 + 1 + 1)) + 1 + (tkL (v 3) a (p0 + 1 + 1 + 1 + 1 + 1 + 1 + (tkL (v 3) a (p0 + 1 + 1 + 1 + 1 + 1 + 1)) + 1)) + 1)
                      · obtain ⟨hr_F22, hm_F22, hM_F22⟩ := hp_F22.1 c_F22
                        have hg_F22 := hp_F22.2.2
                        have hq_F22 : p0 + 1 + 1 + 1 + 1 + 1 + 1 + (tkL (v 3) a (p0 + 1 + 1 + 1 + 1 + 1 + 1)) + 1 + (tkL (v 3) a (p0 + 1 + 1 + 1 + 1 + 1 + 1 + (tkL (v 3) a (p0 + 1 + 1 + 1 + 1 + 1 + 1)) + 1)) + 1 + 1 ≤ v 3 := isD_lt c_F22
                        have hF_23 : F22 254 = .inr (8, [.int (u 0), .int (u 1), .int (u 2), .int (u 3), .int (u 4), .int (u 5), .ref (ad 255), .ref (ad 256), .ref (ad 257), .ref (ad 258), .ref (ad 259), .int (nI (v 0)), .int (nI (v 1)), .int (u 6), .ref (ad 260), .int (nI (v 2)), .ref (ad 261), .int (nI (v 3)), .int (nI (p0 + 1 + 1 + 1 + 1 + 1 + 1 + (tkL (v 3) a (p0 + 1 + 1 + 1 + 1 + 1 + 1)) + 1 + (tkL (v 3) a (p0 + 1 + 1 + 1 + 1 + 1 + 1 + (tkL (v 3) a (p0 + 1 + 1 + 1 + 1 + 1 + 1)) + 1)) + 1 + 1)), .int (u 7), .ref (ad 262), .int so, .int (nI (v 5))]) := hm_F22.2
                        refine w_top (y := nI 1) hr_F22 ?_
                        refine lv_if_eq (tgt := 101) kx kb dX8_readsJoke_94 (by decide) (fun q => absurd q (by decide)) (fun _ => ?_)
                        refine lv_iconst (v := nI 1) kx kb dX8_readsJoke_97 (by decide) ?_
                        refine lv_goto (tgt := 102) kx kb dX8_readsJoke_98 (by decide) ?_
                        exact w_zret X h (Or.inr (by decide)) (by have eq : (mt (v 3) a [111, 107, 101, 32, 35, 32, 37, 32, 37, 32, 35] p0) = (true, p0 + 1 + 1 + 1 + 1 + 1 + 1 + (tkL (v 3) a (p0 + 1 + 1 + 1 + 1 + 1 + 1)) + 1 + (tkL (v 3) a (p0 + 1 + 1 + 1 + 1 + 1 + 1 + (tkL (v 3) a (p0 + 1 + 1 + 1 + 1 + 1 + 1)) + 1)) + 1 + 1, [(sgN (v 3) a (p0 + 1 + 1 + 1 + 1) - nI 48), (tkV (v 3) a (p0 + 1 + 1 + 1 + 1 + 1 + 1)), (tkV (v 3) a (p0 + 1 + 1 + 1 + 1 + 1 + 1 + (tkL (v 3) a (p0 + 1 + 1 + 1 + 1 + 1 + 1)) + 1)), (sgN (v 3) a (p0 + 1 + 1 + 1 + 1 + 1 + 1 + (tkL (v 3) a (p0 + 1 + 1 + 1 + 1 + 1 + 1)) + 1 + (tkL (v 3) a (p0 + 1 + 1 + 1 + 1 + 1 + 1 + (tkL (v 3) a (p0 + 1 + 1 + 1 + 1 + 1 + 1)) + 1)) + 1) - nI 48)]) := (by rw [mt_cy 111 (by decide) (by decide) c_F2, mt_cy 107 (by decide) (by decide) c_F4, mt_cy 101 (by decide) (by decide) c_F6, mt_cy 32 (by decide) (by decide) c_F8, mt_dy c_F10, mt_cy 32 (by decide) (by decide) c_F12, mt_ny c_F14, mt_cy 32 (by decide) (by decide) c_F16, mt_ny c_F18, mt_cy 32 (by decide) (by decide) c_F20, mt_dy c_F22, mt_0]); rw [eq]; exact ⟨bI_tn rfl, ⟨by omega, hF_23⟩, hM_F22, (fun i hi0 hi1 => (hg_F22 i (by omega) (by omega)).trans ((hf_F20 i (by omega)).trans ((hg_F18 i (by omega) (by omega)).trans ((hf_F16 i (by omega)).trans ((hg_F14 i (by omega) (by omega)).trans ((hf_F12 i (by omega)).trans ((hg_F10 i (by omega) (by omega)).trans ((hf_F8 i (by omega)).trans ((hf_F6 i (by omega)).trans ((hf_F4 i (by omega)).trans (hf_F2 i (by omega))))))))))))⟩) dX8_readsJoke_102
                      · obtain ⟨hr_F22, hm_F22, hM_F22⟩ := hp_F22.2.1 c_F22
                        have hg_F22 := hp_F22.2.2
                        have hF_24 : F22 254 = .inr (8, [.int (u 0), .int (u 1), .int (u 2), .int (u 3), .int (u 4), .int (u 5), .ref (ad 255), .ref (ad 256), .ref (ad 257), .ref (ad 258), .ref (ad 259), .int (nI (v 0)), .int (nI (v 1)), .int (u 6), .ref (ad 260), .int (nI (v 2)), .ref (ad 261), .int (nI (v 3)), .int (nI (p0 + 1 + 1 + 1 + 1 + 1 + 1 + (tkL (v 3) a (p0 + 1 + 1 + 1 + 1 + 1 + 1)) + 1 + (tkL (v 3) a (p0 + 1 + 1 + 1 + 1 + 1 + 1 + (tkL (v 3) a (p0 + 1 + 1 + 1 + 1 + 1 + 1)) + 1)) + 1)), .int (u 7), .ref (ad 262), .int so, .int (nI (v 5))]) := hm_F22.2
                        refine w_top (y := nI 0) hr_F22 ?_
                        refine lv_if_eq (tgt := 101) kx kb dX8_readsJoke_94 (by decide) (fun _ => ?_) (fun q => absurd (by decide) q)
                        refine lv_iconst (v := nI 0) kx kb dX8_readsJoke_101 (by decide) ?_
                        exact w_zret X h (Or.inl (by decide)) (by have eq : (mt (v 3) a [111, 107, 101, 32, 35, 32, 37, 32, 37, 32, 35] p0) = (false, p0 + 1 + 1 + 1 + 1 + 1 + 1 + (tkL (v 3) a (p0 + 1 + 1 + 1 + 1 + 1 + 1)) + 1 + (tkL (v 3) a (p0 + 1 + 1 + 1 + 1 + 1 + 1 + (tkL (v 3) a (p0 + 1 + 1 + 1 + 1 + 1 + 1)) + 1)) + 1, [(sgN (v 3) a (p0 + 1 + 1 + 1 + 1) - nI 48), (tkV (v 3) a (p0 + 1 + 1 + 1 + 1 + 1 + 1)), (tkV (v 3) a (p0 + 1 + 1 + 1 + 1 + 1 + 1 + (tkL (v 3) a (p0 + 1 + 1 + 1 + 1 + 1 + 1)) + 1))]) := (by rw [mt_cy 111 (by decide) (by decide) c_F2, mt_cy 107 (by decide) (by decide) c_F4, mt_cy 101 (by decide) (by decide) c_F6, mt_cy 32 (by decide) (by decide) c_F8, mt_dy c_F10, mt_cy 32 (by decide) (by decide) c_F12, mt_ny c_F14, mt_cy 32 (by decide) (by decide) c_F16, mt_ny c_F18, mt_cy 32 (by decide) (by decide) c_F20, mt_dn c_F22]); rw [eq]; exact ⟨bI_fn (show ¬ (false = true) by decide), ⟨by omega, hF_24⟩, hM_F22, (fun i hi0 hi1 => (hg_F22 i (by omega) (by omega)).trans ((hf_F20 i (by omega)).trans ((hg_F18 i (by omega) (by omega)).trans ((hf_F16 i (by omega)).trans ((hg_F14 i (by omega) (by omega)).trans ((hf_F12 i (by omega)).trans ((hg_F10 i (by omega) (by omega)).trans ((hf_F8 i (by omega)).trans ((hf_F6 i (by omega)).trans ((hf_F4 i (by omega)).trans (hf_F2 i (by omega))))))))))))⟩) dX8_readsJoke_102
                    · obtain ⟨hr_F20, hm_F20⟩ := hp_F20.2.1 c_F20
                      have hf_F20 := hp_F20.2.2
                      have hF_25 : F20 254 = .inr (8, [.int (u 0), .int (u 1), .int (u 2), .int (u 3), .int (u 4), .int (u 5), .ref (ad 255), .ref (ad 256), .ref (ad 257), .ref (ad 258), .ref (ad 259), .int (nI (v 0)), .int (nI (v 1)), .int (u 6), .ref (ad 260), .int (nI (v 2)), .ref (ad 261), .int (nI (v 3)), .int (nI (p0 + 1 + 1 + 1 + 1 + 1 + 1 + (tkL (v 3) a (p0 + 1 + 1 + 1 + 1 + 1 + 1)) + 1 + (tkL (v 3) a (p0 + 1 + 1 + 1 + 1 + 1 + 1 + (tkL (v 3) a (p0 + 1 + 1 + 1 + 1 + 1 + 1)) + 1)))), .int (u 7), .ref (ad 262), .int so, .int (nI (v 5))]) := hm_F20.2
                      refine w_top (y := nI 0) hr_F20 ?_
                      refine lv_if_eq (tgt := 101) kx kb dX8_readsJoke_86 (by decide) (fun _ => ?_) (fun q => absurd (by decide) q)
                      refine lv_iconst (v := nI 0) kx kb dX8_readsJoke_101 (by decide) ?_
                      exact w_zret X h (Or.inl (by decide)) (by have eq : (mt (v 3) a [111, 107, 101, 32, 35, 32, 37, 32, 37, 32, 35] p0) = (false, p0 + 1 + 1 + 1 + 1 + 1 + 1 + (tkL (v 3) a (p0 + 1 + 1 + 1 + 1 + 1 + 1)) + 1 + (tkL (v 3) a (p0 + 1 + 1 + 1 + 1 + 1 + 1 + (tkL (v 3) a (p0 + 1 + 1 + 1 + 1 + 1 + 1)) + 1)), [(sgN (v 3) a (p0 + 1 + 1 + 1 + 1) - nI 48), (tkV (v 3) a (p0 + 1 + 1 + 1 + 1 + 1 + 1)), (tkV (v 3) a (p0 + 1 + 1 + 1 + 1 + 1 + 1 + (tkL (v 3) a (p0 + 1 + 1 + 1 + 1 + 1 + 1)) + 1))]) := (by rw [mt_cy 111 (by decide) (by decide) c_F2, mt_cy 107 (by decide) (by decide) c_F4, mt_cy 101 (by decide) (by decide) c_F6, mt_cy 32 (by decide) (by decide) c_F8, mt_dy c_F10, mt_cy 32 (by decide) (by decide) c_F12, mt_ny c_F14, mt_cy 32 (by decide) (by decide) c_F16, mt_ny c_F18, mt_cn 32 (by decide) (by decide) c_F20]); rw [eq]; exact ⟨bI_fn (show ¬ (false = true) by decide), ⟨by omega, hF_25⟩, (hM_F18.fr (hf_F20 262 (by omega))), (fun i hi0 hi1 => (hf_F20 i (by omega)).trans ((hg_F18 i (by omega) (by omega)).trans ((hf_F16 i (by omega)).trans ((hg_F14 i (by omega) (by omega)).trans ((hf_F12 i (by omega)).trans ((hg_F10 i (by omega) (by omega)).trans ((hf_F8 i (by omega)).trans ((hf_F6 i (by omega)).trans ((hf_F4 i (by omega)).trans (hf_F2 i (by omega)))))))))))⟩) dX8_readsJoke_102
                  · obtain ⟨hr_F18, hm_F18, hM_F18⟩ := hp_F18.2.1 c_F18
                    have hg_F18 := hp_F18.2.2
                    have hF_26 : F18 254 = .inr (8, [.int (u 0), .int (u 1), .int (u 2), .int (u 3), .int (u 4), .int (u 5), .ref (ad 255), .ref (ad 256), .ref (ad 257), .ref (ad 258), .ref (ad 259), .int (nI (v 0)), .int (nI (v 1)), .int (u 6), .ref (ad 260), .int (nI (v 2)), .ref (ad 261), .int (nI (v 3)), .int (nI (p0 + 1 + 1 + 1 + 1 + 1 + 1 + (tkL (v 3) a (p0 + 1 + 1 + 1 + 1 + 1 + 1)) + 1)), .int (u 7), .ref (ad 262), .int so, .int (nI (v 5))]) := hm_F18.2
                    refine w_top (y := nI 0) hr_F18 ?_
                    refine lv_if_eq (tgt := 101) kx kb dX8_readsJoke_77 (by decide) (fun _ => ?_) (fun q => absurd (by decide) q)
                    refine lv_iconst (v := nI 0) kx kb dX8_readsJoke_101 (by decide) ?_
                    exact w_zret X h (Or.inl (by decide)) (by have eq : (mt (v 3) a [111, 107, 101, 32, 35, 32, 37, 32, 37, 32, 35] p0) = (false, p0 + 1 + 1 + 1 + 1 + 1 + 1 + (tkL (v 3) a (p0 + 1 + 1 + 1 + 1 + 1 + 1)) + 1, [(sgN (v 3) a (p0 + 1 + 1 + 1 + 1) - nI 48), (tkV (v 3) a (p0 + 1 + 1 + 1 + 1 + 1 + 1))]) := (by rw [mt_cy 111 (by decide) (by decide) c_F2, mt_cy 107 (by decide) (by decide) c_F4, mt_cy 101 (by decide) (by decide) c_F6, mt_cy 32 (by decide) (by decide) c_F8, mt_dy c_F10, mt_cy 32 (by decide) (by decide) c_F12, mt_ny c_F14, mt_cy 32 (by decide) (by decide) c_F16, mt_nn c_F18]); rw [eq]; exact ⟨bI_fn (show ¬ (false = true) by decide), ⟨by omega, hF_26⟩, hM_F18, (fun i hi0 hi1 => (hg_F18 i (by omega) (by omega)).trans ((hf_F16 i (by omega)).trans ((hg_F14 i (by omega) (by omega)).trans ((hf_F12 i (by omega)).trans ((hg_F10 i (by omega) (by omega)).trans ((hf_F8 i (by omega)).trans ((hf_F6 i (by omega)).trans ((hf_F4 i (by omega)).trans (hf_F2 i (by omega))))))))))⟩) dX8_readsJoke_102
                · obtain ⟨hr_F16, hm_F16⟩ := hp_F16.2.1 c_F16
                  have hf_F16 := hp_F16.2.2
                  have hF_27 : F16 254 = .inr (8, [.int (u 0), .int (u 1), .int (u 2), .int (u 3), .int (u 4), .int (u 5), .ref (ad 255), .ref (ad 256), .ref (ad 257), .ref (ad 258), .ref (ad 259), .int (nI (v 0)), .int (nI (v 1)), .int (u 6), .ref (ad 260), .int (nI (v 2)), .ref (ad 261), .int (nI (v 3)), .int (nI (p0 + 1 + 1 + 1 + 1 + 1 + 1 + (tkL (v 3) a (p0 + 1 + 1 + 1 + 1 + 1 + 1)))), .int (u 7), .ref (ad 262), .int so, .int (nI (v 5))]) := hm_F16.2
                  refine w_top (y := nI 0) hr_F16 ?_
                  refine lv_if_eq (tgt := 101) kx kb dX8_readsJoke_69 (by decide) (fun _ => ?_) (fun q => absurd (by decide) q)
                  refine lv_iconst (v := nI 0) kx kb dX8_readsJoke_101 (by decide) ?_
                  exact w_zret X h (Or.inl (by decide)) (by have eq : (mt (v 3) a [111, 107, 101, 32, 35, 32, 37, 32, 37, 32, 35] p0) = (false, p0 + 1 + 1 + 1 + 1 + 1 + 1 + (tkL (v 3) a (p0 + 1 + 1 + 1 + 1 + 1 + 1)), [(sgN (v 3) a (p0 + 1 + 1 + 1 + 1) - nI 48), (tkV (v 3) a (p0 + 1 + 1 + 1 + 1 + 1 + 1))]) := (by rw [mt_cy 111 (by decide) (by decide) c_F2, mt_cy 107 (by decide) (by decide) c_F4, mt_cy 101 (by decide) (by decide) c_F6, mt_cy 32 (by decide) (by decide) c_F8, mt_dy c_F10, mt_cy 32 (by decide) (by decide) c_F12, mt_ny c_F14, mt_cn 32 (by decide) (by decide) c_F16]); rw [eq]; exact ⟨bI_fn (show ¬ (false = true) by decide), ⟨by omega, hF_27⟩, (hM_F14.fr (hf_F16 262 (by omega))), (fun i hi0 hi1 => (hf_F16 i (by omega)).trans ((hg_F14 i (by omega) (by omega)).trans ((hf_F12 i (by omega)).trans ((hg_F10 i (by omega) (by omega)).trans ((hf_F8 i (by omega)).trans ((hf_F6 i (by omega)).trans ((hf_F4 i (by omega)).trans (hf_F2 i (by omega)))))))))⟩) dX8_readsJoke_102
              · obtain ⟨hr_F14, hm_F14, hM_F14⟩ := hp_F14.2.1 c_F14
                have hg_F14 := hp_F14.2.2
                have hF_28 : F14 254 = .inr (8, [.int (u 0), .int (u 1), .int (u 2), .int (u 3), .int (u 4), .int (u 5), .ref (ad 255), .ref (ad 256), .ref (ad 257), .ref (ad 258), .ref (ad 259), .int (nI (v 0)), .int (nI (v 1)), .int (u 6), .ref (ad 260), .int (nI (v 2)), .ref (ad 261), .int (nI (v 3)), .int (nI (p0 + 1 + 1 + 1 + 1 + 1 + 1)), .int (u 7), .ref (ad 262), .int so, .int (nI (v 5))]) := hm_F14.2
                refine w_top (y := nI 0) hr_F14 ?_
                refine lv_if_eq (tgt := 101) kx kb dX8_readsJoke_60 (by decide) (fun _ => ?_) (fun q => absurd (by decide) q)
                refine lv_iconst (v := nI 0) kx kb dX8_readsJoke_101 (by decide) ?_
                exact w_zret X h (Or.inl (by decide)) (by have eq : (mt (v 3) a [111, 107, 101, 32, 35, 32, 37, 32, 37, 32, 35] p0) = (false, p0 + 1 + 1 + 1 + 1 + 1 + 1, [(sgN (v 3) a (p0 + 1 + 1 + 1 + 1) - nI 48)]) := (by rw [mt_cy 111 (by decide) (by decide) c_F2, mt_cy 107 (by decide) (by decide) c_F4, mt_cy 101 (by decide) (by decide) c_F6, mt_cy 32 (by decide) (by decide) c_F8, mt_dy c_F10, mt_cy 32 (by decide) (by decide) c_F12, mt_nn c_F14]); rw [eq]; exact ⟨bI_fn (show ¬ (false = true) by decide), ⟨by omega, hF_28⟩, hM_F14, (fun i hi0 hi1 => (hg_F14 i (by omega) (by omega)).trans ((hf_F12 i (by omega)).trans ((hg_F10 i (by omega) (by omega)).trans ((hf_F8 i (by omega)).trans ((hf_F6 i (by omega)).trans ((hf_F4 i (by omega)).trans (hf_F2 i (by omega))))))))⟩) dX8_readsJoke_102
            · obtain ⟨hr_F12, hm_F12⟩ := hp_F12.2.1 c_F12
              have hf_F12 := hp_F12.2.2
              have hF_29 : F12 254 = .inr (8, [.int (u 0), .int (u 1), .int (u 2), .int (u 3), .int (u 4), .int (u 5), .ref (ad 255), .ref (ad 256), .ref (ad 257), .ref (ad 258), .ref (ad 259), .int (nI (v 0)), .int (nI (v 1)), .int (u 6), .ref (ad 260), .int (nI (v 2)), .ref (ad 261), .int (nI (v 3)), .int (nI (p0 + 1 + 1 + 1 + 1 + 1)), .int (u 7), .ref (ad 262), .int so, .int (nI (v 5))]) := hm_F12.2
              refine w_top (y := nI 0) hr_F12 ?_
              refine lv_if_ne (tgt := 55) kx kb dX8_readsJoke_50 (by decide) (fun q => absurd (by decide) q) (fun _ => ?_)
              refine lv_iconst (v := nI 0) kx kb dX8_readsJoke_53 (by decide) ?_
              exact w_zret X h (Or.inl (by decide)) (by have eq : (mt (v 3) a [111, 107, 101, 32, 35, 32, 37, 32, 37, 32, 35] p0) = (false, p0 + 1 + 1 + 1 + 1 + 1, [(sgN (v 3) a (p0 + 1 + 1 + 1 + 1) - nI 48)]) := (by rw [mt_cy 111 (by decide) (by decide) c_F2, mt_cy 107 (by decide) (by decide) c_F4, mt_cy 101 (by decide) (by decide) c_F6, mt_cy 32 (by decide) (by decide) c_F8, mt_dy c_F10, mt_cn 32 (by decide) (by decide) c_F12]); rw [eq]; exact ⟨bI_fn (show ¬ (false = true) by decide), ⟨by omega, hF_29⟩, (hM_F10.fr (hf_F12 262 (by omega))), (fun i hi0 hi1 => (hf_F12 i (by omega)).trans ((hg_F10 i (by omega) (by omega)).trans ((hf_F8 i (by omega)).trans ((hf_F6 i (by omega)).trans ((hf_F4 i (by omega)).trans (hf_F2 i (by omega)))))))⟩) dX8_readsJoke_54
          · obtain ⟨hr_F10, hm_F10, hM_F10⟩ := hp_F10.2.1 c_F10
            have hg_F10 := hp_F10.2.2
            have hF_30 : F10 254 = .inr (8, [.int (u 0), .int (u 1), .int (u 2), .int (u 3), .int (u 4), .int (u 5), .ref (ad 255), .ref (ad 256), .ref (ad 257), .ref (ad 258), .ref (ad 259), .int (nI (v 0)), .int (nI (v 1)), .int (u 6), .ref (ad 260), .int (nI (v 2)), .ref (ad 261), .int (nI (v 3)), .int (nI (p0 + 1 + 1 + 1 + 1)), .int (u 7), .ref (ad 262), .int so, .int (nI (v 5))]) := hm_F10.2
            refine w_top (y := nI 0) hr_F10 ?_
            refine lv_if_eq (tgt := 53) kx kb dX8_readsJoke_41 (by decide) (fun _ => ?_) (fun q => absurd (by decide) q)
            refine lv_iconst (v := nI 0) kx kb dX8_readsJoke_53 (by decide) ?_
            exact w_zret X h (Or.inl (by decide)) (by have eq : (mt (v 3) a [111, 107, 101, 32, 35, 32, 37, 32, 37, 32, 35] p0) = (false, p0 + 1 + 1 + 1 + 1, []) := (by rw [mt_cy 111 (by decide) (by decide) c_F2, mt_cy 107 (by decide) (by decide) c_F4, mt_cy 101 (by decide) (by decide) c_F6, mt_cy 32 (by decide) (by decide) c_F8, mt_dn c_F10]); rw [eq]; exact ⟨bI_fn (show ¬ (false = true) by decide), ⟨by omega, hF_30⟩, hM_F10, (fun i hi0 hi1 => (hg_F10 i (by omega) (by omega)).trans ((hf_F8 i (by omega)).trans ((hf_F6 i (by omega)).trans ((hf_F4 i (by omega)).trans (hf_F2 i (by omega))))))⟩) dX8_readsJoke_54
        · obtain ⟨hr_F8, hm_F8⟩ := hp_F8.2.1 c_F8
          have hf_F8 := hp_F8.2.2
          have hF_31 : F8 254 = .inr (8, [.int (u 0), .int (u 1), .int (u 2), .int (u 3), .int (u 4), .int (u 5), .ref (ad 255), .ref (ad 256), .ref (ad 257), .ref (ad 258), .ref (ad 259), .int (nI (v 0)), .int (nI (v 1)), .int (u 6), .ref (ad 260), .int (nI (v 2)), .ref (ad 261), .int (nI (v 3)), .int (nI (p0 + 1 + 1 + 1)), .int (u 7), .ref (ad 262), .int so, .int (nI (v 5))]) := hm_F8.2
          refine w_top (y := nI 0) hr_F8 ?_
          refine lv_if_eq (tgt := 53) kx kb dX8_readsJoke_33 (by decide) (fun _ => ?_) (fun q => absurd (by decide) q)
          refine lv_iconst (v := nI 0) kx kb dX8_readsJoke_53 (by decide) ?_
          exact w_zret X h (Or.inl (by decide)) (by have eq : (mt (v 3) a [111, 107, 101, 32, 35, 32, 37, 32, 37, 32, 35] p0) = (false, p0 + 1 + 1 + 1, []) := (by rw [mt_cy 111 (by decide) (by decide) c_F2, mt_cy 107 (by decide) (by decide) c_F4, mt_cy 101 (by decide) (by decide) c_F6, mt_cn 32 (by decide) (by decide) c_F8]); rw [eq]; exact ⟨bI_fn (show ¬ (false = true) by decide), ⟨by omega, hF_31⟩, ((((hM.fr (hf_F2 262 (by omega))).fr (hf_F4 262 (by omega))).fr (hf_F6 262 (by omega))).fr (hf_F8 262 (by omega))), (fun i hi0 hi1 => (hf_F8 i (by omega)).trans ((hf_F6 i (by omega)).trans ((hf_F4 i (by omega)).trans (hf_F2 i (by omega)))))⟩) dX8_readsJoke_54
      · obtain ⟨hr_F6, hm_F6⟩ := hp_F6.2.1 c_F6
        have hf_F6 := hp_F6.2.2
        have hF_32 : F6 254 = .inr (8, [.int (u 0), .int (u 1), .int (u 2), .int (u 3), .int (u 4), .int (u 5), .ref (ad 255), .ref (ad 256), .ref (ad 257), .ref (ad 258), .ref (ad 259), .int (nI (v 0)), .int (nI (v 1)), .int (u 6), .ref (ad 260), .int (nI (v 2)), .ref (ad 261), .int (nI (v 3)), .int (nI (p0 + 1 + 1)), .int (u 7), .ref (ad 262), .int so, .int (nI (v 5))]) := hm_F6.2
        refine w_top (y := nI 0) hr_F6 ?_
        refine lv_if_eq (tgt := 53) kx kb dX8_readsJoke_24 (by decide) (fun _ => ?_) (fun q => absurd (by decide) q)
        refine lv_iconst (v := nI 0) kx kb dX8_readsJoke_53 (by decide) ?_
        exact w_zret X h (Or.inl (by decide)) (by have eq : (mt (v 3) a [111, 107, 101, 32, 35, 32, 37, 32, 37, 32, 35] p0) = (false, p0 + 1 + 1, []) := (by rw [mt_cy 111 (by decide) (by decide) c_F2, mt_cy 107 (by decide) (by decide) c_F4, mt_cn 101 (by decide) (by decide) c_F6]); rw [eq]; exact ⟨bI_fn (show ¬ (false = true) by decide), ⟨by omega, hF_32⟩, (((hM.fr (hf_F2 262 (by omega))).fr (hf_F4 262 (by omega))).fr (hf_F6 262 (by omega))), (fun i hi0 hi1 => (hf_F6 i (by omega)).trans ((hf_F4 i (by omega)).trans (hf_F2 i (by omega))))⟩) dX8_readsJoke_54
    · obtain ⟨hr_F4, hm_F4⟩ := hp_F4.2.1 c_F4
      have hf_F4 := hp_F4.2.2
      have hF_33 : F4 254 = .inr (8, [.int (u 0), .int (u 1), .int (u 2), .int (u 3), .int (u 4), .int (u 5), .ref (ad 255), .ref (ad 256), .ref (ad 257), .ref (ad 258), .ref (ad 259), .int (nI (v 0)), .int (nI (v 1)), .int (u 6), .ref (ad 260), .int (nI (v 2)), .ref (ad 261), .int (nI (v 3)), .int (nI (p0 + 1)), .int (u 7), .ref (ad 262), .int so, .int (nI (v 5))]) := hm_F4.2
      refine w_top (y := nI 0) hr_F4 ?_
      refine lv_if_eq (tgt := 53) kx kb dX8_readsJoke_15 (by decide) (fun _ => ?_) (fun q => absurd (by decide) q)
      refine lv_iconst (v := nI 0) kx kb dX8_readsJoke_53 (by decide) ?_
      exact w_zret X h (Or.inl (by decide)) (by have eq : (mt (v 3) a [111, 107, 101, 32, 35, 32, 37, 32, 37, 32, 35] p0) = (false, p0 + 1, []) := (by rw [mt_cy 111 (by decide) (by decide) c_F2, mt_cn 107 (by decide) (by decide) c_F4]); rw [eq]; exact ⟨bI_fn (show ¬ (false = true) by decide), ⟨by omega, hF_33⟩, ((hM.fr (hf_F2 262 (by omega))).fr (hf_F4 262 (by omega))), (fun i hi0 hi1 => (hf_F4 i (by omega)).trans (hf_F2 i (by omega)))⟩) dX8_readsJoke_54
  · obtain ⟨hr_F2, hm_F2⟩ := hp_F2.2.1 c_F2
    have hf_F2 := hp_F2.2.2
    have hF_34 : F2 254 = .inr (8, [.int (u 0), .int (u 1), .int (u 2), .int (u 3), .int (u 4), .int (u 5), .ref (ad 255), .ref (ad 256), .ref (ad 257), .ref (ad 258), .ref (ad 259), .int (nI (v 0)), .int (nI (v 1)), .int (u 6), .ref (ad 260), .int (nI (v 2)), .ref (ad 261), .int (nI (v 3)), .int (nI p0), .int (u 7), .ref (ad 262), .int so, .int (nI (v 5))]) := hm_F2.2
    refine w_top (y := nI 0) hr_F2 ?_
    refine lv_if_eq (tgt := 53) kx kb dX8_readsJoke_6 (by decide) (fun _ => ?_) (fun q => absurd (by decide) q)
    refine lv_iconst (v := nI 0) kx kb dX8_readsJoke_53 (by decide) ?_
    exact w_zret X h (Or.inl (by decide)) (by have eq : (mt (v 3) a [111, 107, 101, 32, 35, 32, 37, 32, 37, 32, 35] p0) = (false, p0, []) := (by rw [mt_cn 111 (by decide) (by decide) c_F2]); rw [eq]; exact ⟨bI_fn (show ¬ (false = true) by decide), ⟨by omega, hF_34⟩, (hM.fr (hf_F2 262 (by omega))), (fun i hi0 hi1 => hf_F2 i (by omega))⟩) dX8_readsJoke_54
set_option maxRecDepth 20000 in
theorem c_X8_readsStroke (l : Launch) (g : gT) {N : Nat} {ad : Nat → Nat} {F : Nat → va_E} (u : Nat → Int32) (v : Nat → Nat) (p0 : Nat) (so : Int32) (a nm : Nat → Int32) (hm : oM g N ad F (uSo u so) (vAt v p0)) (h3 : v 3 ≤ 60) (hp0 : p0 ≤ v 3) (hA : arC g F 261 60 a) (hM : arI g F 262 4 nm)  : CtI l yX8_readsStroke cX8_readsStroke 1 (some .boolean) 3 64 g N ad F [.ref (ad 254)] (fun r F' => r = bI ((mt (v 3) a [116, 114, 111, 107, 101, 32, 37] p0).1 = true) ∧ oM g N ad F' (uSo u so) (vAt v (mt (v 3) a [116, 114, 111, 107, 101, 32, 37] p0).2.1) ∧ arI g F' 262 4 (nmP nm 0 (mt (v 3) a [116, 114, 111, 107, 101, 32, 37] p0).2.2) ∧ ∀ i, i ≠ 254 → i ≠ 262 → F' i = F i) := by
  refine CtI_of (by decide) (Nat.le_of_ble_eq_true rfl) ?_
  intro p e s m args below meth c A H ls X M h hl
  have kx := X.1.1
  have kb := X.1.2.1
  have hl : lv_has ls 1 [(0, .ref (ad 254))] := hl
  have hN0 := hm.1
  have hF_1 : F 254 = .inr (8, [.int (u 0), .int (u 1), .int (u 2), .int (u 3), .int (u 4), .int (u 5), .ref (ad 255), .ref (ad 256), .ref (ad 257), .ref (ad 258), .ref (ad 259), .int (nI (v 0)), .int (nI (v 1)), .int (u 6), .ref (ad 260), .int (nI (v 2)), .ref (ad 261), .int (nI (v 3)), .int (nI p0), .int (u 7), .ref (ad 262), .int so, .int (nI (v 5))]) := hm.2
  refine lv_aload_n kx kb dX8_readsStroke_0 rfl (lv_at hl 0 rfl) ?_
  refine lv_bipush (v := nI 116) kx kb dX8_readsStroke_1 (by decide) ?_
  refine w_callVi X M h [.int (nI 116)] [] ((c_X8_reads l g u v p0 so a nm (⟨by omega, hF_1⟩) h3 (by omega) hA hM 116 (by decide))) lk_X8_242 hF_1 (by omega) rfl rfl ⟨by decide, by decide⟩ hl ⟨Nat.zero_le _, Nat.zero_le _⟩ (Nat.le_of_ble_eq_true rfl) rfl dX8_readsStroke_3 (fun r_F2 F2 H locs hp_F2 h => ?_)
  by_cases c_F2 : sgN (v 3) a p0 = nI 116
  · obtain ⟨hr_F2, hm_F2⟩ := hp_F2.1 c_F2
    have hf_F2 := hp_F2.2.2
    have hq_F2 : p0 + 1 ≤ v 3 := sgN_lt (by decide) c_F2
    have hF_3 : F2 254 = .inr (8, [.int (u 0), .int (u 1), .int (u 2), .int (u 3), .int (u 4), .int (u 5), .ref (ad 255), .ref (ad 256), .ref (ad 257), .ref (ad 258), .ref (ad 259), .int (nI (v 0)), .int (nI (v 1)), .int (u 6), .ref (ad 260), .int (nI (v 2)), .ref (ad 261), .int (nI (v 3)), .int (nI (p0 + 1)), .int (u 7), .ref (ad 262), .int so, .int (nI (v 5))]) := hm_F2.2
    refine w_top (y := nI 1) hr_F2 ?_
    refine lv_if_eq (tgt := 66) kx kb dX8_readsStroke_6 (by decide) (fun q => absurd q (by decide)) (fun _ => ?_)
    refine lv_aload_n kx kb dX8_readsStroke_9 rfl (lv_at hl 0 rfl) ?_
    refine lv_bipush (v := nI 114) kx kb dX8_readsStroke_10 (by decide) ?_
    refine w_callVi X M h [.int (nI 114)] [] ((c_X8_reads l g u v (p0 + 1) so a nm (⟨by omega, hF_3⟩) h3 (by omega) (hA.fr (hf_F2 261 (by omega))) (hM.fr (hf_F2 262 (by omega))) 114 (by decide))) lk_X8_242 hF_3 (by omega) rfl rfl ⟨by decide, by decide⟩ hl ⟨Nat.zero_le _, Nat.zero_le _⟩ (Nat.le_of_ble_eq_true rfl) rfl dX8_readsStroke_12 (fun r_F4 F4 H locs hp_F4 h => ?_)
    by_cases c_F4 : sgN (v 3) a (p0 + 1) = nI 114
    · obtain ⟨hr_F4, hm_F4⟩ := hp_F4.1 c_F4
      have hf_F4 := hp_F4.2.2
      have hq_F4 : p0 + 1 + 1 ≤ v 3 := sgN_lt (by decide) c_F4
      have hF_5 : F4 254 = .inr (8, [.int (u 0), .int (u 1), .int (u 2), .int (u 3), .int (u 4), .int (u 5), .ref (ad 255), .ref (ad 256), .ref (ad 257), .ref (ad 258), .ref (ad 259), .int (nI (v 0)), .int (nI (v 1)), .int (u 6), .ref (ad 260), .int (nI (v 2)), .ref (ad 261), .int (nI (v 3)), .int (nI (p0 + 1 + 1)), .int (u 7), .ref (ad 262), .int so, .int (nI (v 5))]) := hm_F4.2
      refine w_top (y := nI 1) hr_F4 ?_
      refine lv_if_eq (tgt := 66) kx kb dX8_readsStroke_15 (by decide) (fun q => absurd q (by decide)) (fun _ => ?_)
      refine lv_aload_n kx kb dX8_readsStroke_18 rfl (lv_at hl 0 rfl) ?_
      refine lv_bipush (v := nI 111) kx kb dX8_readsStroke_19 (by decide) ?_
      refine w_callVi X M h [.int (nI 111)] [] ((c_X8_reads l g u v (p0 + 1 + 1) so a nm (⟨by omega, hF_5⟩) h3 (by omega) ((hA.fr (hf_F2 261 (by omega))).fr (hf_F4 261 (by omega))) ((hM.fr (hf_F2 262 (by omega))).fr (hf_F4 262 (by omega))) 111 (by decide))) lk_X8_242 hF_5 (by omega) rfl rfl ⟨by decide, by decide⟩ hl ⟨Nat.zero_le _, Nat.zero_le _⟩ (Nat.le_of_ble_eq_true rfl) rfl dX8_readsStroke_21 (fun r_F6 F6 H locs hp_F6 h => ?_)
      by_cases c_F6 : sgN (v 3) a (p0 + 1 + 1) = nI 111
      · obtain ⟨hr_F6, hm_F6⟩ := hp_F6.1 c_F6
        have hf_F6 := hp_F6.2.2
        have hq_F6 : p0 + 1 + 1 + 1 ≤ v 3 := sgN_lt (by decide) c_F6
        have hF_7 : F6 254 = .inr (8, [.int (u 0), .int (u 1), .int (u 2), .int (u 3), .int (u 4), .int (u 5), .ref (ad 255), .ref (ad 256), .ref (ad 257), .ref (ad 258), .ref (ad 259), .int (nI (v 0)), .int (nI (v 1)), .int (u 6), .ref (ad 260), .int (nI (v 2)), .ref (ad 261), .int (nI (v 3)), .int (nI (p0 + 1 + 1 + 1)), .int (u 7), .ref (ad 262), .int so, .int (nI (v 5))]) := hm_F6.2
        refine w_top (y := nI 1) hr_F6 ?_
        refine lv_if_eq (tgt := 66) kx kb dX8_readsStroke_24 (by decide) (fun q => absurd q (by decide)) (fun _ => ?_)
        refine lv_aload_n kx kb dX8_readsStroke_27 rfl (lv_at hl 0 rfl) ?_
        refine lv_bipush (v := nI 107) kx kb dX8_readsStroke_28 (by decide) ?_
        refine w_callVi X M h [.int (nI 107)] [] ((c_X8_reads l g u v (p0 + 1 + 1 + 1) so a nm (⟨by omega, hF_7⟩) h3 (by omega) (((hA.fr (hf_F2 261 (by omega))).fr (hf_F4 261 (by omega))).fr (hf_F6 261 (by omega))) (((hM.fr (hf_F2 262 (by omega))).fr (hf_F4 262 (by omega))).fr (hf_F6 262 (by omega))) 107 (by decide))) lk_X8_242 hF_7 (by omega) rfl rfl ⟨by decide, by decide⟩ hl ⟨Nat.zero_le _, Nat.zero_le _⟩ (Nat.le_of_ble_eq_true rfl) rfl dX8_readsStroke_30 (fun r_F8 F8 H locs hp_F8 h => ?_)
        by_cases c_F8 : sgN (v 3) a (p0 + 1 + 1 + 1) = nI 107
        · obtain ⟨hr_F8, hm_F8⟩ := hp_F8.1 c_F8
          have hf_F8 := hp_F8.2.2
          have hq_F8 : p0 + 1 + 1 + 1 + 1 ≤ v 3 := sgN_lt (by decide) c_F8
          have hF_9 : F8 254 = .inr (8, [.int (u 0), .int (u 1), .int (u 2), .int (u 3), .int (u 4), .int (u 5), .ref (ad 255), .ref (ad 256), .ref (ad 257), .ref (ad 258), .ref (ad 259), .int (nI (v 0)), .int (nI (v 1)), .int (u 6), .ref (ad 260), .int (nI (v 2)), .ref (ad 261), .int (nI (v 3)), .int (nI (p0 + 1 + 1 + 1 + 1)), .int (u 7), .ref (ad 262), .int so, .int (nI (v 5))]) := hm_F8.2
          refine w_top (y := nI 1) hr_F8 ?_
          refine lv_if_eq (tgt := 66) kx kb dX8_readsStroke_33 (by decide) (fun q => absurd q (by decide)) (fun _ => ?_)
          refine lv_aload_n kx kb dX8_readsStroke_36 rfl (lv_at hl 0 rfl) ?_
          refine lv_bipush (v := nI 101) kx kb dX8_readsStroke_37 (by decide) ?_
          refine w_callVi X M h [.int (nI 101)] [] ((c_X8_reads l g u v (p0 + 1 + 1 + 1 + 1) so a nm (⟨by omega, hF_9⟩) h3 (by omega) ((((hA.fr (hf_F2 261 (by omega))).fr (hf_F4 261 (by omega))).fr (hf_F6 261 (by omega))).fr (hf_F8 261 (by omega))) ((((hM.fr (hf_F2 262 (by omega))).fr (hf_F4 262 (by omega))).fr (hf_F6 262 (by omega))).fr (hf_F8 262 (by omega))) 101 (by decide))) lk_X8_242 hF_9 (by omega) rfl rfl ⟨by decide, by decide⟩ hl ⟨Nat.zero_le _, Nat.zero_le _⟩ (Nat.le_of_ble_eq_true rfl) rfl dX8_readsStroke_39 (fun r_F10 F10 H locs hp_F10 h => ?_)
          by_cases c_F10 : sgN (v 3) a (p0 + 1 + 1 + 1 + 1) = nI 101
          · obtain ⟨hr_F10, hm_F10⟩ := hp_F10.1 c_F10
            have hf_F10 := hp_F10.2.2
            have hq_F10 : p0 + 1 + 1 + 1 + 1 + 1 ≤ v 3 := sgN_lt (by decide) c_F10
            have hF_11 : F10 254 = .inr (8, [.int (u 0), .int (u 1), .int (u 2), .int (u 3), .int (u 4), .int (u 5), .ref (ad 255), .ref (ad 256), .ref (ad 257), .ref (ad 258), .ref (ad 259), .int (nI (v 0)), .int (nI (v 1)), .int (u 6), .ref (ad 260), .int (nI (v 2)), .ref (ad 261), .int (nI (v 3)), .int (nI (p0 + 1 + 1 + 1 + 1 + 1)), .int (u 7), .ref (ad 262), .int so, .int (nI (v 5))]) := hm_F10.2
            refine w_top (y := nI 1) hr_F10 ?_
            refine lv_if_eq (tgt := 66) kx kb dX8_readsStroke_42 (by decide) (fun q => absurd q (by decide)) (fun _ => ?_)
            refine lv_aload_n kx kb dX8_readsStroke_45 rfl (lv_at hl 0 rfl) ?_
            refine lv_bipush (v := nI 32) kx kb dX8_readsStroke_46 (by decide) ?_
            refine w_callVi X M h [.int (nI 32)] [] ((c_X8_reads l g u v (p0 + 1 + 1 + 1 + 1 + 1) so a nm (⟨by omega, hF_11⟩) h3 (by omega) (((((hA.fr (hf_F2 261 (by omega))).fr (hf_F4 261 (by omega))).fr (hf_F6 261 (by omega))).fr (hf_F8 261 (by omega))).fr (hf_F10 261 (by omega))) (((((hM.fr (hf_F2 262 (by omega))).fr (hf_F4 262 (by omega))).fr (hf_F6 262 (by omega))).fr (hf_F8 262 (by omega))).fr (hf_F10 262 (by omega))) 32 (by decide))) lk_X8_242 hF_11 (by omega) rfl rfl ⟨by decide, by decide⟩ hl ⟨Nat.zero_le _, Nat.zero_le _⟩ (Nat.le_of_ble_eq_true rfl) rfl dX8_readsStroke_48 (fun r_F12 F12 H locs hp_F12 h => ?_)
            by_cases c_F12 : sgN (v 3) a (p0 + 1 + 1 + 1 + 1 + 1) = nI 32
            · obtain ⟨hr_F12, hm_F12⟩ := hp_F12.1 c_F12
              have hf_F12 := hp_F12.2.2
              have hq_F12 : p0 + 1 + 1 + 1 + 1 + 1 + 1 ≤ v 3 := sgN_lt (by decide) c_F12
              have hF_13 : F12 254 = .inr (8, [.int (u 0), .int (u 1), .int (u 2), .int (u 3), .int (u 4), .int (u 5), .ref (ad 255), .ref (ad 256), .ref (ad 257), .ref (ad 258), .ref (ad 259), .int (nI (v 0)), .int (nI (v 1)), .int (u 6), .ref (ad 260), .int (nI (v 2)), .ref (ad 261), .int (nI (v 3)), .int (nI (p0 + 1 + 1 + 1 + 1 + 1 + 1)), .int (u 7), .ref (ad 262), .int so, .int (nI (v 5))]) := hm_F12.2
              refine w_top (y := nI 1) hr_F12 ?_
              refine lv_if_eq (tgt := 66) kx kb dX8_readsStroke_51 (by decide) (fun q => absurd q (by decide)) (fun _ => ?_)
              refine lv_aload_n kx kb dX8_readsStroke_54 rfl (lv_at hl 0 rfl) ?_
              refine lv_iconst (v := nI 0) kx kb dX8_readsStroke_55 (by decide) ?_
              refine w_callVi X M h [.int (nI 0)] [] ((c_X8_readsNumber l g u v (p0 + 1 + 1 + 1 + 1 + 1 + 1) so a nm (⟨by omega, hF_13⟩) h3 (by omega) ((((((hA.fr (hf_F2 261 (by omega))).fr (hf_F4 261 (by omega))).fr (hf_F6 261 (by omega))).fr (hf_F8 261 (by omega))).fr (hf_F10 261 (by omega))).fr (hf_F12 261 (by omega))) ((((((hM.fr (hf_F2 262 (by omega))).fr (hf_F4 262 (by omega))).fr (hf_F6 262 (by omega))).fr (hf_F8 262 (by omega))).fr (hf_F10 262 (by omega))).fr (hf_F12 262 (by omega))) 0 (by omega))) lk_X8_245 hF_13 (by omega) rfl rfl ⟨by decide, by decide⟩ hl ⟨Nat.zero_le _, Nat.zero_le _⟩ (Nat.le_of_ble_eq_true rfl) rfl dX8_readsStroke_56 (fun r_F14 F14 H locs hp_F14 h => ?_)
              by_cases c_F14 : tkL (v 3) a (p0 + 1 + 1 + 1 + 1 + 1 + 1) ≠ 0
              · obtain ⟨hr_F14, hm_F14, hM_F14⟩ := hp_F14.1 c_F14
                have hg_F14 := hp_F14.2.2
                have hq_F14 : p0 + 1 + 1 + 1 + 1 + 1 + 1 + tkL (v 3) a (p0 + 1 + 1 + 1 + 1 + 1 + 1) ≤ v 3 := tkL_le (by omega)
                have hF_15 : F14 254 = .inr (8, [.int (u 0), .int (u 1), .int (u 2), .int (u 3), .int (u 4), .int (u 5), .ref (ad 255), .ref (ad 256), .ref (ad 257), .ref (ad 258), .ref (ad 259), .int (nI (v 0)), .int (nI (v 1)), .int (u 6), .ref (ad 260), .int (nI (v 2)), .ref (ad 261), .int (nI (v 3)), .int (nI (p0 + 1 + 1 + 1 + 1 + 1 + 1 + (tkL (v 3) a (p0 + 1 + 1 + 1 + 1 + 1 + 1)))), .int (u 7), .ref (ad 262), .int so, .int (nI (v 5))]) := hm_F14.2
                refine w_top (y := nI 1) hr_F14 ?_
                refine lv_if_eq (tgt := 66) kx kb dX8_readsStroke_59 (by decide) (fun q => absurd q (by decide)) (fun _ => ?_)
                refine lv_iconst (v := nI 1) kx kb dX8_readsStroke_62 (by decide) ?_
                refine lv_goto (tgt := 67) kx kb dX8_readsStroke_63 (by decide) ?_
                exact w_zret X h (Or.inr (by decide)) (by have eq : (mt (v 3) a [116, 114, 111, 107, 101, 32, 37] p0) = (true, p0 + 1 + 1 + 1 + 1 + 1 + 1 + (tkL (v 3) a (p0 + 1 + 1 + 1 + 1 + 1 + 1)), [(tkV (v 3) a (p0 + 1 + 1 + 1 + 1 + 1 + 1))]) := (by rw [mt_cy 116 (by decide) (by decide) c_F2, mt_cy 114 (by decide) (by decide) c_F4, mt_cy 111 (by decide) (by decide) c_F6, mt_cy 107 (by decide) (by decide) c_F8, mt_cy 101 (by decide) (by decide) c_F10, mt_cy 32 (by decide) (by decide) c_F12, mt_ny c_F14, mt_0]); rw [eq]; exact ⟨bI_tn rfl, ⟨by omega, hF_15⟩, hM_F14, (fun i hi0 hi1 => (hg_F14 i (by omega) (by omega)).trans ((hf_F12 i (by omega)).trans ((hf_F10 i (by omega)).trans ((hf_F8 i (by omega)).trans ((hf_F6 i (by omega)).trans ((hf_F4 i (by omega)).trans (hf_F2 i (by omega))))))))⟩) dX8_readsStroke_67
              · obtain ⟨hr_F14, hm_F14, hM_F14⟩ := hp_F14.2.1 c_F14
                have hg_F14 := hp_F14.2.2
                have hF_16 : F14 254 = .inr (8, [.int (u 0), .int (u 1), .int (u 2), .int (u 3), .int (u 4), .int (u 5), .ref (ad 255), .ref (ad 256), .ref (ad 257), .ref (ad 258), .ref (ad 259), .int (nI (v 0)), .int (nI (v 1)), .int (u 6), .ref (ad 260), .int (nI (v 2)), .ref (ad 261), .int (nI (v 3)), .int (nI (p0 + 1 + 1 + 1 + 1 + 1 + 1)), .int (u 7), .ref (ad 262), .int so, .int (nI (v 5))]) := hm_F14.2
                refine w_top (y := nI 0) hr_F14 ?_
                refine lv_if_eq (tgt := 66) kx kb dX8_readsStroke_59 (by decide) (fun _ => ?_) (fun q => absurd (by decide) q)
                refine lv_iconst (v := nI 0) kx kb dX8_readsStroke_66 (by decide) ?_
                exact w_zret X h (Or.inl (by decide)) (by have eq : (mt (v 3) a [116, 114, 111, 107, 101, 32, 37] p0) = (false, p0 + 1 + 1 + 1 + 1 + 1 + 1, []) := (by rw [mt_cy 116 (by decide) (by decide) c_F2, mt_cy 114 (by decide) (by decide) c_F4, mt_cy 111 (by decide) (by decide) c_F6, mt_cy 107 (by decide) (by decide) c_F8, mt_cy 101 (by decide) (by decide) c_F10, mt_cy 32 (by decide) (by decide) c_F12, mt_nn c_F14]); rw [eq]; exact ⟨bI_fn (show ¬ (false = true) by decide), ⟨by omega, hF_16⟩, hM_F14, (fun i hi0 hi1 => (hg_F14 i (by omega) (by omega)).trans ((hf_F12 i (by omega)).trans ((hf_F10 i (by omega)).trans ((hf_F8 i (by omega)).trans ((hf_F6 i (by omega)).trans ((hf_F4 i (by omega)).trans (hf_F2 i (by omega))))))))⟩) dX8_readsStroke_67
            · obtain ⟨hr_F12, hm_F12⟩ := hp_F12.2.1 c_F12
              have hf_F12 := hp_F12.2.2
              have hF_17 : F12 254 = .inr (8, [.int (u 0), .int (u 1), .int (u 2), .int (u 3), .int (u 4), .int (u 5), .ref (ad 255), .ref (ad 256), .ref (ad 257), .ref (ad 258), .ref (ad 259), .int (nI (v 0)), .int (nI (v 1)), .int (u 6), .ref (ad 260), .int (nI (v 2)), .ref (ad 261), .int (nI (v 3)), .int (nI (p0 + 1 + 1 + 1 + 1 + 1)), .int (u 7), .ref (ad 262), .int so, .int (nI (v 5))]) := hm_F12.2
              refine w_top (y := nI 0) hr_F12 ?_
              refine lv_if_eq (tgt := 66) kx kb dX8_readsStroke_51 (by decide) (fun _ => ?_) (fun q => absurd (by decide) q)
              refine lv_iconst (v := nI 0) kx kb dX8_readsStroke_66 (by decide) ?_
              exact w_zret X h (Or.inl (by decide)) (by have eq : (mt (v 3) a [116, 114, 111, 107, 101, 32, 37] p0) = (false, p0 + 1 + 1 + 1 + 1 + 1, []) := (by rw [mt_cy 116 (by decide) (by decide) c_F2, mt_cy 114 (by decide) (by decide) c_F4, mt_cy 111 (by decide) (by decide) c_F6, mt_cy 107 (by decide) (by decide) c_F8, mt_cy 101 (by decide) (by decide) c_F10, mt_cn 32 (by decide) (by decide) c_F12]); rw [eq]; exact ⟨bI_fn (show ¬ (false = true) by decide), ⟨by omega, hF_17⟩, ((((((hM.fr (hf_F2 262 (by omega))).fr (hf_F4 262 (by omega))).fr (hf_F6 262 (by omega))).fr (hf_F8 262 (by omega))).fr (hf_F10 262 (by omega))).fr (hf_F12 262 (by omega))), (fun i hi0 hi1 => (hf_F12 i (by omega)).trans ((hf_F10 i (by omega)).trans ((hf_F8 i (by omega)).trans ((hf_F6 i (by omega)).trans ((hf_F4 i (by omega)).trans (hf_F2 i (by omega)))))))⟩) dX8_readsStroke_67
          · obtain ⟨hr_F10, hm_F10⟩ := hp_F10.2.1 c_F10
            have hf_F10 := hp_F10.2.2
            have hF_18 : F10 254 = .inr (8, [.int (u 0), .int (u 1), .int (u 2), .int (u 3), .int (u 4), .int (u 5), .ref (ad 255), .ref (ad 256), .ref (ad 257), .ref (ad 258), .ref (ad 259), .int (nI (v 0)), .int (nI (v 1)), .int (u 6), .ref (ad 260), .int (nI (v 2)), .ref (ad 261), .int (nI (v 3)), .int (nI (p0 + 1 + 1 + 1 + 1)), .int (u 7), .ref (ad 262), .int so, .int (nI (v 5))]) := hm_F10.2
            refine w_top (y := nI 0) hr_F10 ?_
            refine lv_if_eq (tgt := 66) kx kb dX8_readsStroke_42 (by decide) (fun _ => ?_) (fun q => absurd (by decide) q)
            refine lv_iconst (v := nI 0) kx kb dX8_readsStroke_66 (by decide) ?_
            exact w_zret X h (Or.inl (by decide)) (by have eq : (mt (v 3) a [116, 114, 111, 107, 101, 32, 37] p0) = (false, p0 + 1 + 1 + 1 + 1, []) := (by rw [mt_cy 116 (by decide) (by decide) c_F2, mt_cy 114 (by decide) (by decide) c_F4, mt_cy 111 (by decide) (by decide) c_F6, mt_cy 107 (by decide) (by decide) c_F8, mt_cn 101 (by decide) (by decide) c_F10]); rw [eq]; exact ⟨bI_fn (show ¬ (false = true) by decide), ⟨by omega, hF_18⟩, (((((hM.fr (hf_F2 262 (by omega))).fr (hf_F4 262 (by omega))).fr (hf_F6 262 (by omega))).fr (hf_F8 262 (by omega))).fr (hf_F10 262 (by omega))), (fun i hi0 hi1 => (hf_F10 i (by omega)).trans ((hf_F8 i (by omega)).trans ((hf_F6 i (by omega)).trans ((hf_F4 i (by omega)).trans (hf_F2 i (by omega))))))⟩) dX8_readsStroke_67
        · obtain ⟨hr_F8, hm_F8⟩ := hp_F8.2.1 c_F8
          have hf_F8 := hp_F8.2.2
          have hF_19 : F8 254 = .inr (8, [.int (u 0), .int (u 1), .int (u 2), .int (u 3), .int (u 4), .int (u 5), .ref (ad 255), .ref (ad 256), .ref (ad 257), .ref (ad 258), .ref (ad 259), .int (nI (v 0)), .int (nI (v 1)), .int (u 6), .ref (ad 260), .int (nI (v 2)), .ref (ad 261), .int (nI (v 3)), .int (nI (p0 + 1 + 1 + 1)), .int (u 7), .ref (ad 262), .int so, .int (nI (v 5))]) := hm_F8.2
          refine w_top (y := nI 0) hr_F8 ?_
          refine lv_if_eq (tgt := 66) kx kb dX8_readsStroke_33 (by decide) (fun _ => ?_) (fun q => absurd (by decide) q)
          refine lv_iconst (v := nI 0) kx kb dX8_readsStroke_66 (by decide) ?_
          exact w_zret X h (Or.inl (by decide)) (by have eq : (mt (v 3) a [116, 114, 111, 107, 101, 32, 37] p0) = (false, p0 + 1 + 1 + 1, []) := (by rw [mt_cy 116 (by decide) (by decide) c_F2, mt_cy 114 (by decide) (by decide) c_F4, mt_cy 111 (by decide) (by decide) c_F6, mt_cn 107 (by decide) (by decide) c_F8]); rw [eq]; exact ⟨bI_fn (show ¬ (false = true) by decide), ⟨by omega, hF_19⟩, ((((hM.fr (hf_F2 262 (by omega))).fr (hf_F4 262 (by omega))).fr (hf_F6 262 (by omega))).fr (hf_F8 262 (by omega))), (fun i hi0 hi1 => (hf_F8 i (by omega)).trans ((hf_F6 i (by omega)).trans ((hf_F4 i (by omega)).trans (hf_F2 i (by omega)))))⟩) dX8_readsStroke_67
      · obtain ⟨hr_F6, hm_F6⟩ := hp_F6.2.1 c_F6
        have hf_F6 := hp_F6.2.2
        have hF_20 : F6 254 = .inr (8, [.int (u 0), .int (u 1), .int (u 2), .int (u 3), .int (u 4), .int (u 5), .ref (ad 255), .ref (ad 256), .ref (ad 257), .ref (ad 258), .ref (ad 259), .int (nI (v 0)), .int (nI (v 1)), .int (u 6), .ref (ad 260), .int (nI (v 2)), .ref (ad 261), .int (nI (v 3)), .int (nI (p0 + 1 + 1)), .int (u 7), .ref (ad 262), .int so, .int (nI (v 5))]) := hm_F6.2
        refine w_top (y := nI 0) hr_F6 ?_
        refine lv_if_eq (tgt := 66) kx kb dX8_readsStroke_24 (by decide) (fun _ => ?_) (fun q => absurd (by decide) q)
        refine lv_iconst (v := nI 0) kx kb dX8_readsStroke_66 (by decide) ?_
        exact w_zret X h (Or.inl (by decide)) (by have eq : (mt (v 3) a [116, 114, 111, 107, 101, 32, 37] p0) = (false, p0 + 1 + 1, []) := (by rw [mt_cy 116 (by decide) (by decide) c_F2, mt_cy 114 (by decide) (by decide) c_F4, mt_cn 111 (by decide) (by decide) c_F6]); rw [eq]; exact ⟨bI_fn (show ¬ (false = true) by decide), ⟨by omega, hF_20⟩, (((hM.fr (hf_F2 262 (by omega))).fr (hf_F4 262 (by omega))).fr (hf_F6 262 (by omega))), (fun i hi0 hi1 => (hf_F6 i (by omega)).trans ((hf_F4 i (by omega)).trans (hf_F2 i (by omega))))⟩) dX8_readsStroke_67
    · obtain ⟨hr_F4, hm_F4⟩ := hp_F4.2.1 c_F4
      have hf_F4 := hp_F4.2.2
      have hF_21 : F4 254 = .inr (8, [.int (u 0), .int (u 1), .int (u 2), .int (u 3), .int (u 4), .int (u 5), .ref (ad 255), .ref (ad 256), .ref (ad 257), .ref (ad 258), .ref (ad 259), .int (nI (v 0)), .int (nI (v 1)), .int (u 6), .ref (ad 260), .int (nI (v 2)), .ref (ad 261), .int (nI (v 3)), .int (nI (p0 + 1)), .int (u 7), .ref (ad 262), .int so, .int (nI (v 5))]) := hm_F4.2
      refine w_top (y := nI 0) hr_F4 ?_
      refine lv_if_eq (tgt := 66) kx kb dX8_readsStroke_15 (by decide) (fun _ => ?_) (fun q => absurd (by decide) q)
      refine lv_iconst (v := nI 0) kx kb dX8_readsStroke_66 (by decide) ?_
      exact w_zret X h (Or.inl (by decide)) (by have eq : (mt (v 3) a [116, 114, 111, 107, 101, 32, 37] p0) = (false, p0 + 1, []) := (by rw [mt_cy 116 (by decide) (by decide) c_F2, mt_cn 114 (by decide) (by decide) c_F4]); rw [eq]; exact ⟨bI_fn (show ¬ (false = true) by decide), ⟨by omega, hF_21⟩, ((hM.fr (hf_F2 262 (by omega))).fr (hf_F4 262 (by omega))), (fun i hi0 hi1 => (hf_F4 i (by omega)).trans (hf_F2 i (by omega)))⟩) dX8_readsStroke_67
  · obtain ⟨hr_F2, hm_F2⟩ := hp_F2.2.1 c_F2
    have hf_F2 := hp_F2.2.2
    have hF_22 : F2 254 = .inr (8, [.int (u 0), .int (u 1), .int (u 2), .int (u 3), .int (u 4), .int (u 5), .ref (ad 255), .ref (ad 256), .ref (ad 257), .ref (ad 258), .ref (ad 259), .int (nI (v 0)), .int (nI (v 1)), .int (u 6), .ref (ad 260), .int (nI (v 2)), .ref (ad 261), .int (nI (v 3)), .int (nI p0), .int (u 7), .ref (ad 262), .int so, .int (nI (v 5))]) := hm_F2.2
    refine w_top (y := nI 0) hr_F2 ?_
    refine lv_if_eq (tgt := 66) kx kb dX8_readsStroke_6 (by decide) (fun _ => ?_) (fun q => absurd (by decide) q)
    refine lv_iconst (v := nI 0) kx kb dX8_readsStroke_66 (by decide) ?_
    exact w_zret X h (Or.inl (by decide)) (by have eq : (mt (v 3) a [116, 114, 111, 107, 101, 32, 37] p0) = (false, p0, []) := (by rw [mt_cn 116 (by decide) (by decide) c_F2]); rw [eq]; exact ⟨bI_fn (show ¬ (false = true) by decide), ⟨by omega, hF_22⟩, (hM.fr (hf_F2 262 (by omega))), (fun i hi0 hi1 => hf_F2 i (by omega))⟩) dX8_readsStroke_67
set_option maxRecDepth 20000 in
theorem c_X8_readsBucket (l : Launch) (g : gT) {N : Nat} {ad : Nat → Nat} {F : Nat → va_E} (u : Nat → Int32) (v : Nat → Nat) (p0 : Nat) (so : Int32) (a nm : Nat → Int32) (hm : oM g N ad F (uSo u so) (vAt v p0)) (h3 : v 3 ≤ 60) (hp0 : p0 ≤ v 3) (hA : arC g F 261 60 a) (hM : arI g F 262 4 nm)  : CtI l yX8_readsBucket cX8_readsBucket 1 (some .boolean) 2 43 g N ad F [.ref (ad 254)] (fun r F' => r = bI ((mt (v 3) a [117, 99, 107, 101, 116, 32, 35, 32, 35] p0).1 = true) ∧ oM g N ad F' (uSo u so) (vAt v (mt (v 3) a [117, 99, 107, 101, 116, 32, 35, 32, 35] p0).2.1) ∧ arI g F' 262 4 (nmP nm 0 (mt (v 3) a [117, 99, 107, 101, 116, 32, 35, 32, 35] p0).2.2) ∧ ∀ i, i ≠ 254 → i ≠ 262 → F' i = F i) := by
  refine CtI_of (by decide) (Nat.le_of_ble_eq_true rfl) ?_
  intro p e s m args below meth c A H ls X M h hl
  have kx := X.1.1
  have kb := X.1.2.1
  have hl : lv_has ls 1 [(0, .ref (ad 254))] := hl
  have hN0 := hm.1
  have hF_1 : F 254 = .inr (8, [.int (u 0), .int (u 1), .int (u 2), .int (u 3), .int (u 4), .int (u 5), .ref (ad 255), .ref (ad 256), .ref (ad 257), .ref (ad 258), .ref (ad 259), .int (nI (v 0)), .int (nI (v 1)), .int (u 6), .ref (ad 260), .int (nI (v 2)), .ref (ad 261), .int (nI (v 3)), .int (nI p0), .int (u 7), .ref (ad 262), .int so, .int (nI (v 5))]) := hm.2
  refine lv_aload_n kx kb dX8_readsBucket_0 rfl (lv_at hl 0 rfl) ?_
  refine lv_bipush (v := nI 117) kx kb dX8_readsBucket_1 (by decide) ?_
  refine w_callVi X M h [.int (nI 117)] [] ((c_X8_reads l g u v p0 so a nm (⟨by omega, hF_1⟩) h3 (by omega) hA hM 117 (by decide))) lk_X8_242 hF_1 (by omega) rfl rfl ⟨by decide, by decide⟩ hl ⟨Nat.zero_le _, Nat.zero_le _⟩ (Nat.le_of_ble_eq_true rfl) rfl dX8_readsBucket_3 (fun r_F2 F2 H locs hp_F2 h => ?_)
  by_cases c_F2 : sgN (v 3) a p0 = nI 117
  · obtain ⟨hr_F2, hm_F2⟩ := hp_F2.1 c_F2
    have hf_F2 := hp_F2.2.2
    have hq_F2 : p0 + 1 ≤ v 3 := sgN_lt (by decide) c_F2
    have hF_3 : F2 254 = .inr (8, [.int (u 0), .int (u 1), .int (u 2), .int (u 3), .int (u 4), .int (u 5), .ref (ad 255), .ref (ad 256), .ref (ad 257), .ref (ad 258), .ref (ad 259), .int (nI (v 0)), .int (nI (v 1)), .int (u 6), .ref (ad 260), .int (nI (v 2)), .ref (ad 261), .int (nI (v 3)), .int (nI (p0 + 1)), .int (u 7), .ref (ad 262), .int so, .int (nI (v 5))]) := hm_F2.2
    refine w_top (y := nI 1) hr_F2 ?_
    refine lv_if_eq (tgt := 54) kx kb dX8_readsBucket_6 (by decide) (fun q => absurd q (by decide)) (fun _ => ?_)
    refine lv_aload_n kx kb dX8_readsBucket_9 rfl (lv_at hl 0 rfl) ?_
    refine lv_bipush (v := nI 99) kx kb dX8_readsBucket_10 (by decide) ?_
    refine w_callVi X M h [.int (nI 99)] [] ((c_X8_reads l g u v (p0 + 1) so a nm (⟨by omega, hF_3⟩) h3 (by omega) (hA.fr (hf_F2 261 (by omega))) (hM.fr (hf_F2 262 (by omega))) 99 (by decide))) lk_X8_242 hF_3 (by omega) rfl rfl ⟨by decide, by decide⟩ hl ⟨Nat.zero_le _, Nat.zero_le _⟩ (Nat.le_of_ble_eq_true rfl) rfl dX8_readsBucket_12 (fun r_F4 F4 H locs hp_F4 h => ?_)
    by_cases c_F4 : sgN (v 3) a (p0 + 1) = nI 99
    · obtain ⟨hr_F4, hm_F4⟩ := hp_F4.1 c_F4
      have hf_F4 := hp_F4.2.2
      have hq_F4 : p0 + 1 + 1 ≤ v 3 := sgN_lt (by decide) c_F4
      have hF_5 : F4 254 = .inr (8, [.int (u 0), .int (u 1), .int (u 2), .int (u 3), .int (u 4), .int (u 5), .ref (ad 255), .ref (ad 256), .ref (ad 257), .ref (ad 258), .ref (ad 259), .int (nI (v 0)), .int (nI (v 1)), .int (u 6), .ref (ad 260), .int (nI (v 2)), .ref (ad 261), .int (nI (v 3)), .int (nI (p0 + 1 + 1)), .int (u 7), .ref (ad 262), .int so, .int (nI (v 5))]) := hm_F4.2
      refine w_top (y := nI 1) hr_F4 ?_
      refine lv_if_eq (tgt := 54) kx kb dX8_readsBucket_15 (by decide) (fun q => absurd q (by decide)) (fun _ => ?_)
      refine lv_aload_n kx kb dX8_readsBucket_18 rfl (lv_at hl 0 rfl) ?_
      refine lv_bipush (v := nI 107) kx kb dX8_readsBucket_19 (by decide) ?_
      refine w_callVi X M h [.int (nI 107)] [] ((c_X8_reads l g u v (p0 + 1 + 1) so a nm (⟨by omega, hF_5⟩) h3 (by omega) ((hA.fr (hf_F2 261 (by omega))).fr (hf_F4 261 (by omega))) ((hM.fr (hf_F2 262 (by omega))).fr (hf_F4 262 (by omega))) 107 (by decide))) lk_X8_242 hF_5 (by omega) rfl rfl ⟨by decide, by decide⟩ hl ⟨Nat.zero_le _, Nat.zero_le _⟩ (Nat.le_of_ble_eq_true rfl) rfl dX8_readsBucket_21 (fun r_F6 F6 H locs hp_F6 h => ?_)
      by_cases c_F6 : sgN (v 3) a (p0 + 1 + 1) = nI 107
      · obtain ⟨hr_F6, hm_F6⟩ := hp_F6.1 c_F6
        have hf_F6 := hp_F6.2.2
        have hq_F6 : p0 + 1 + 1 + 1 ≤ v 3 := sgN_lt (by decide) c_F6
        have hF_7 : F6 254 = .inr (8, [.int (u 0), .int (u 1), .int (u 2), .int (u 3), .int (u 4), .int (u 5), .ref (ad 255), .ref (ad 256), .ref (ad 257), .ref (ad 258), .ref (ad 259), .int (nI (v 0)), .int (nI (v 1)), .int (u 6), .ref (ad 260), .int (nI (v 2)), .ref (ad 261), .int (nI (v 3)), .int (nI (p0 + 1 + 1 + 1)), .int (u 7), .ref (ad 262), .int so, .int (nI (v 5))]) := hm_F6.2
        refine w_top (y := nI 1) hr_F6 ?_
        refine lv_if_eq (tgt := 54) kx kb dX8_readsBucket_24 (by decide) (fun q => absurd q (by decide)) (fun _ => ?_)
        refine lv_aload_n kx kb dX8_readsBucket_27 rfl (lv_at hl 0 rfl) ?_
        refine lv_bipush (v := nI 101) kx kb dX8_readsBucket_28 (by decide) ?_
        refine w_callVi X M h [.int (nI 101)] [] ((c_X8_reads l g u v (p0 + 1 + 1 + 1) so a nm (⟨by omega, hF_7⟩) h3 (by omega) (((hA.fr (hf_F2 261 (by omega))).fr (hf_F4 261 (by omega))).fr (hf_F6 261 (by omega))) (((hM.fr (hf_F2 262 (by omega))).fr (hf_F4 262 (by omega))).fr (hf_F6 262 (by omega))) 101 (by decide))) lk_X8_242 hF_7 (by omega) rfl rfl ⟨by decide, by decide⟩ hl ⟨Nat.zero_le _, Nat.zero_le _⟩ (Nat.le_of_ble_eq_true rfl) rfl dX8_readsBucket_30 (fun r_F8 F8 H locs hp_F8 h => ?_)
        by_cases c_F8 : sgN (v 3) a (p0 + 1 + 1 + 1) = nI 101
        · obtain ⟨hr_F8, hm_F8⟩ := hp_F8.1 c_F8
          have hf_F8 := hp_F8.2.2
          have hq_F8 : p0 + 1 + 1 + 1 + 1 ≤ v 3 := sgN_lt (by decide) c_F8
          have hF_9 : F8 254 = .inr (8, [.int (u 0), .int (u 1), .int (u 2), .int (u 3), .int (u 4), .int (u 5), .ref (ad 255), .ref (ad 256), .ref (ad 257), .ref (ad 258), .ref (ad 259), .int (nI (v 0)), .int (nI (v 1)), .int (u 6), .ref (ad 260), .int (nI (v 2)), .ref (ad 261), .int (nI (v 3)), .int (nI (p0 + 1 + 1 + 1 + 1)), .int (u 7), .ref (ad 262), .int so, .int (nI (v 5))]) := hm_F8.2
          refine w_top (y := nI 1) hr_F8 ?_
          refine lv_if_eq (tgt := 54) kx kb dX8_readsBucket_33 (by decide) (fun q => absurd q (by decide)) (fun _ => ?_)
          refine lv_aload_n kx kb dX8_readsBucket_36 rfl (lv_at hl 0 rfl) ?_
          refine lv_bipush (v := nI 116) kx kb dX8_readsBucket_37 (by decide) ?_
          refine w_callVi X M h [.int (nI 116)] [] ((c_X8_reads l g u v (p0 + 1 + 1 + 1 + 1) so a nm (⟨by omega, hF_9⟩) h3 (by omega) ((((hA.fr (hf_F2 261 (by omega))).fr (hf_F4 261 (by omega))).fr (hf_F6 261 (by omega))).fr (hf_F8 261 (by omega))) ((((hM.fr (hf_F2 262 (by omega))).fr (hf_F4 262 (by omega))).fr (hf_F6 262 (by omega))).fr (hf_F8 262 (by omega))) 116 (by decide))) lk_X8_242 hF_9 (by omega) rfl rfl ⟨by decide, by decide⟩ hl ⟨Nat.zero_le _, Nat.zero_le _⟩ (Nat.le_of_ble_eq_true rfl) rfl dX8_readsBucket_39 (fun r_F10 F10 H locs hp_F10 h => ?_)
          by_cases c_F10 : sgN (v 3) a (p0 + 1 + 1 + 1 + 1) = nI 116
          · obtain ⟨hr_F10, hm_F10⟩ := hp_F10.1 c_F10
            have hf_F10 := hp_F10.2.2
            have hq_F10 : p0 + 1 + 1 + 1 + 1 + 1 ≤ v 3 := sgN_lt (by decide) c_F10
            have hF_11 : F10 254 = .inr (8, [.int (u 0), .int (u 1), .int (u 2), .int (u 3), .int (u 4), .int (u 5), .ref (ad 255), .ref (ad 256), .ref (ad 257), .ref (ad 258), .ref (ad 259), .int (nI (v 0)), .int (nI (v 1)), .int (u 6), .ref (ad 260), .int (nI (v 2)), .ref (ad 261), .int (nI (v 3)), .int (nI (p0 + 1 + 1 + 1 + 1 + 1)), .int (u 7), .ref (ad 262), .int so, .int (nI (v 5))]) := hm_F10.2
            refine w_top (y := nI 1) hr_F10 ?_
            refine lv_if_eq (tgt := 54) kx kb dX8_readsBucket_42 (by decide) (fun q => absurd q (by decide)) (fun _ => ?_)
            refine lv_aload_n kx kb dX8_readsBucket_45 rfl (lv_at hl 0 rfl) ?_
            refine lv_bipush (v := nI 32) kx kb dX8_readsBucket_46 (by decide) ?_
            refine w_callVi X M h [.int (nI 32)] [] ((c_X8_reads l g u v (p0 + 1 + 1 + 1 + 1 + 1) so a nm (⟨by omega, hF_11⟩) h3 (by omega) (((((hA.fr (hf_F2 261 (by omega))).fr (hf_F4 261 (by omega))).fr (hf_F6 261 (by omega))).fr (hf_F8 261 (by omega))).fr (hf_F10 261 (by omega))) (((((hM.fr (hf_F2 262 (by omega))).fr (hf_F4 262 (by omega))).fr (hf_F6 262 (by omega))).fr (hf_F8 262 (by omega))).fr (hf_F10 262 (by omega))) 32 (by decide))) lk_X8_242 hF_11 (by omega) rfl rfl ⟨by decide, by decide⟩ hl ⟨Nat.zero_le _, Nat.zero_le _⟩ (Nat.le_of_ble_eq_true rfl) rfl dX8_readsBucket_48 (fun r_F12 F12 H locs hp_F12 h => ?_)
            by_cases c_F12 : sgN (v 3) a (p0 + 1 + 1 + 1 + 1 + 1) = nI 32
            · obtain ⟨hr_F12, hm_F12⟩ := hp_F12.1 c_F12
              have hf_F12 := hp_F12.2.2
              have hq_F12 : p0 + 1 + 1 + 1 + 1 + 1 + 1 ≤ v 3 := sgN_lt (by decide) c_F12
              have hF_13 : F12 254 = .inr (8, [.int (u 0), .int (u 1), .int (u 2), .int (u 3), .int (u 4), .int (u 5), .ref (ad 255), .ref (ad 256), .ref (ad 257), .ref (ad 258), .ref (ad 259), .int (nI (v 0)), .int (nI (v 1)), .int (u 6), .ref (ad 260), .int (nI (v 2)), .ref (ad 261), .int (nI (v 3)), .int (nI (p0 + 1 + 1 + 1 + 1 + 1 + 1)), .int (u 7), .ref (ad 262), .int so, .int (nI (v 5))]) := hm_F12.2
              refine w_top (y := nI 1) hr_F12 ?_
              refine lv_if_ne (tgt := 56) kx kb dX8_readsBucket_51 (by decide) (fun _ => ?_) (fun q => absurd q (by decide))
              refine lv_aload_n kx kb dX8_readsBucket_56 rfl (lv_at hl 0 rfl) ?_
              refine lv_iconst (v := nI 0) kx kb dX8_readsBucket_57 (by decide) ?_
              refine w_callVi X M h [.int (nI 0)] [] ((c_X8_readsDigit l g u v (p0 + 1 + 1 + 1 + 1 + 1 + 1) so a nm (⟨by omega, hF_13⟩) h3 (by omega) ((((((hA.fr (hf_F2 261 (by omega))).fr (hf_F4 261 (by omega))).fr (hf_F6 261 (by omega))).fr (hf_F8 261 (by omega))).fr (hf_F10 261 (by omega))).fr (hf_F12 261 (by omega))) ((((((hM.fr (hf_F2 262 (by omega))).fr (hf_F4 262 (by omega))).fr (hf_F6 262 (by omega))).fr (hf_F8 262 (by omega))).fr (hf_F10 262 (by omega))).fr (hf_F12 262 (by omega))) 0 (by omega))) lk_X8_239 hF_13 (by omega) rfl rfl ⟨by decide, by decide⟩ hl ⟨Nat.zero_le _, Nat.zero_le _⟩ (Nat.le_of_ble_eq_true rfl) rfl dX8_readsBucket_58 (fun r_F14 F14 H locs hp_F14 h => ?_)
              by_cases c_F14 : isD (v 3) a (p0 + 1 + 1 + 1 + 1 + 1 + 1)
              · obtain ⟨hr_F14, hm_F14, hM_F14⟩ := hp_F14.1 c_F14
                have hg_F14 := hp_F14.2.2
                have hq_F14 : p0 + 1 + 1 + 1 + 1 + 1 + 1 + 1 ≤ v 3 := isD_lt c_F14
                have hF_15 : F14 254 = .inr (8, [.int (u 0), .int (u 1), .int (u 2), .int (u 3), .int (u 4), .int (u 5), .ref (ad 255), .ref (ad 256), .ref (ad 257), .ref (ad 258), .ref (ad 259), .int (nI (v 0)), .int (nI (v 1)), .int (u 6), .ref (ad 260), .int (nI (v 2)), .ref (ad 261), .int (nI (v 3)), .int (nI (p0 + 1 + 1 + 1 + 1 + 1 + 1 + 1)), .int (u 7), .ref (ad 262), .int so, .int (nI (v 5))]) := hm_F14.2
                refine w_top (y := nI 1) hr_F14 ?_
                refine lv_if_eq (tgt := 85) kx kb dX8_readsBucket_61 (by decide) (fun q => absurd q (by decide)) (fun _ => ?_)
                refine lv_aload_n kx kb dX8_readsBucket_64 rfl (lv_at hl 0 rfl) ?_
                refine lv_bipush (v := nI 32) kx kb dX8_readsBucket_65 (by decide) ?_
                refine w_callVi X M h [.int (nI 32)] [] ((c_X8_reads l g u v (p0 + 1 + 1 + 1 + 1 + 1 + 1 + 1) so a (upd nm 0 (sgN (v 3) a (p0 + 1 + 1 + 1 + 1 + 1 + 1) - nI 48)) (⟨by omega, hF_15⟩) h3 (by omega) (((((((hA.fr (hf_F2 261 (by omega))).fr (hf_F4 261 (by omega))).fr (hf_F6 261 (by omega))).fr (hf_F8 261 (by omega))).fr (hf_F10 261 (by omega))).fr (hf_F12 261 (by omega))).fr (hg_F14 261 (by omega) (by omega))) hM_F14 32 (by decide))) lk_X8_242 hF_15 (by omega) rfl rfl ⟨by decide, by decide⟩ hl ⟨Nat.zero_le _, Nat.zero_le _⟩ (Nat.le_of_ble_eq_true rfl) rfl dX8_readsBucket_67 (fun r_F16 F16 H locs hp_F16 h => ?_)
                by_cases c_F16 : sgN (v 3) a (p0 + 1 + 1 + 1 + 1 + 1 + 1 + 1) = nI 32
                · obtain ⟨hr_F16, hm_F16⟩ := hp_F16.1 c_F16
                  have hf_F16 := hp_F16.2.2
                  have hq_F16 : p0 + 1 + 1 + 1 + 1 + 1 + 1 + 1 + 1 ≤ v 3 := sgN_lt (by decide) c_F16
                  have hF_17 : F16 254 = .inr (8, [.int (u 0), .int (u 1), .int (u 2), .int (u 3), .int (u 4), .int (u 5), .ref (ad 255), .ref (ad 256), .ref (ad 257), .ref (ad 258), .ref (ad 259), .int (nI (v 0)), .int (nI (v 1)), .int (u 6), .ref (ad 260), .int (nI (v 2)), .ref (ad 261), .int (nI (v 3)), .int (nI (p0 + 1 + 1 + 1 + 1 + 1 + 1 + 1 + 1)), .int (u 7), .ref (ad 262), .int so, .int (nI (v 5))]) := hm_F16.2
                  refine w_top (y := nI 1) hr_F16 ?_
                  refine lv_if_eq (tgt := 85) kx kb dX8_readsBucket_70 (by decide) (fun q => absurd q (by decide)) (fun _ => ?_)
                  refine lv_aload_n kx kb dX8_readsBucket_73 rfl (lv_at hl 0 rfl) ?_
                  refine lv_iconst (v := nI 1) kx kb dX8_readsBucket_74 (by decide) ?_
                  refine w_callVi X M h [.int (nI 1)] [] ((c_X8_readsDigit l g u v (p0 + 1 + 1 + 1 + 1 + 1 + 1 + 1 + 1) so a (upd nm 0 (sgN (v 3) a (p0 + 1 + 1 + 1 + 1 + 1 + 1) - nI 48)) (⟨by omega, hF_17⟩) h3 (by omega) ((((((((hA.fr (hf_F2 261 (by omega))).fr (hf_F4 261 (by omega))).fr (hf_F6 261 (by omega))).fr (hf_F8 261 (by omega))).fr (hf_F10 261 (by omega))).fr (hf_F12 261 (by omega))).fr (hg_F14 261 (by omega) (by omega))).fr (hf_F16 261 (by omega))) (hM_F14.fr (hf_F16 262 (by omega))) 1 (by omega))) lk_X8_239 hF_17 (by omega) rfl rfl ⟨by decide, by decide⟩ hl ⟨Nat.zero_le _, Nat.zero_le _⟩ (Nat.le_of_ble_eq_true rfl) rfl dX8_readsBucket_75 (fun r_F18 F18 H locs hp_F18 h => ?_)
                  by_cases c_F18 : isD (v 3) a (p0 + 1 + 1 + 1 + 1 + 1 + 1 + 1 + 1)
                  · obtain ⟨hr_F18, hm_F18, hM_F18⟩ := hp_F18.1 c_F18
                    have hg_F18 := hp_F18.2.2
                    have hq_F18 : p0 + 1 + 1 + 1 + 1 + 1 + 1 + 1 + 1 + 1 ≤ v 3 := isD_lt c_F18
                    have hF_19 : F18 254 = .inr (8, [.int (u 0), .int (u 1), .int (u 2), .int (u 3), .int (u 4), .int (u 5), .ref (ad 255), .ref (ad 256), .ref (ad 257), .ref (ad 258), .ref (ad 259), .int (nI (v 0)), .int (nI (v 1)), .int (u 6), .ref (ad 260), .int (nI (v 2)), .ref (ad 261), .int (nI (v 3)), .int (nI (p0 + 1 + 1 + 1 + 1 + 1 + 1 + 1 + 1 + 1)), .int (u 7), .ref (ad 262), .int so, .int (nI (v 5))]) := hm_F18.2
                    refine w_top (y := nI 1) hr_F18 ?_
                    refine lv_if_eq (tgt := 85) kx kb dX8_readsBucket_78 (by decide) (fun q => absurd q (by decide)) (fun _ => ?_)
                    refine lv_iconst (v := nI 1) kx kb dX8_readsBucket_81 (by decide) ?_
                    refine lv_goto (tgt := 86) kx kb dX8_readsBucket_82 (by decide) ?_
                    exact w_zret X h (Or.inr (by decide)) (by have eq : (mt (v 3) a [117, 99, 107, 101, 116, 32, 35, 32, 35] p0) = (true, p0 + 1 + 1 + 1 + 1 + 1 + 1 + 1 + 1 + 1, [(sgN (v 3) a (p0 + 1 + 1 + 1 + 1 + 1 + 1) - nI 48), (sgN (v 3) a (p0 + 1 + 1 + 1 + 1 + 1 + 1 + 1 + 1) - nI 48)]) := (by rw [mt_cy 117 (by decide) (by decide) c_F2, mt_cy 99 (by decide) (by decide) c_F4, mt_cy 107 (by decide) (by decide) c_F6, mt_cy 101 (by decide) (by decide) c_F8, mt_cy 116 (by decide) (by decide) c_F10, mt_cy 32 (by decide) (by decide) c_F12, mt_dy c_F14, mt_cy 32 (by decide) (by decide) c_F16, mt_dy c_F18, mt_0]); rw [eq]; exact ⟨bI_tn rfl, ⟨by omega, hF_19⟩, hM_F18, (fun i hi0 hi1 => (hg_F18 i (by omega) (by omega)).trans ((hf_F16 i (by omega)).trans ((hg_F14 i (by omega) (by omega)).trans ((hf_F12 i (by omega)).trans ((hf_F10 i (by omega)).trans ((hf_F8 i (by omega)).trans ((hf_F6 i (by omega)).trans ((hf_F4 i (by omega)).trans (hf_F2 i (by omega))))))))))⟩) dX8_readsBucket_86
                  · obtain ⟨hr_F18, hm_F18, hM_F18⟩ := hp_F18.2.1 c_F18
                    have hg_F18 := hp_F18.2.2
                    have hF_20 : F18 254 = .inr (8, [.int (u 0), .int (u 1), .int (u 2), .int (u 3), .int (u 4), .int (u 5), .ref (ad 255), .ref (ad 256), .ref (ad 257), .ref (ad 258), .ref (ad 259), .int (nI (v 0)), .int (nI (v 1)), .int (u 6), .ref (ad 260), .int (nI (v 2)), .ref (ad 261), .int (nI (v 3)), .int (nI (p0 + 1 + 1 + 1 + 1 + 1 + 1 + 1 + 1)), .int (u 7), .ref (ad 262), .int so, .int (nI (v 5))]) := hm_F18.2
                    refine w_top (y := nI 0) hr_F18 ?_
                    refine lv_if_eq (tgt := 85) kx kb dX8_readsBucket_78 (by decide) (fun _ => ?_) (fun q => absurd (by decide) q)
                    refine lv_iconst (v := nI 0) kx kb dX8_readsBucket_85 (by decide) ?_
                    exact w_zret X h (Or.inl (by decide)) (by have eq : (mt (v 3) a [117, 99, 107, 101, 116, 32, 35, 32, 35] p0) = (false, p0 + 1 + 1 + 1 + 1 + 1 + 1 + 1 + 1, [(sgN (v 3) a (p0 + 1 + 1 + 1 + 1 + 1 + 1) - nI 48)]) := (by rw [mt_cy 117 (by decide) (by decide) c_F2, mt_cy 99 (by decide) (by decide) c_F4, mt_cy 107 (by decide) (by decide) c_F6, mt_cy 101 (by decide) (by decide) c_F8, mt_cy 116 (by decide) (by decide) c_F10, mt_cy 32 (by decide) (by decide) c_F12, mt_dy c_F14, mt_cy 32 (by decide) (by decide) c_F16, mt_dn c_F18]); rw [eq]; exact ⟨bI_fn (show ¬ (false = true) by decide), ⟨by omega, hF_20⟩, hM_F18, (fun i hi0 hi1 => (hg_F18 i (by omega) (by omega)).trans ((hf_F16 i (by omega)).trans ((hg_F14 i (by omega) (by omega)).trans ((hf_F12 i (by omega)).trans ((hf_F10 i (by omega)).trans ((hf_F8 i (by omega)).trans ((hf_F6 i (by omega)).trans ((hf_F4 i (by omega)).trans (hf_F2 i (by omega))))))))))⟩) dX8_readsBucket_86
                · obtain ⟨hr_F16, hm_F16⟩ := hp_F16.2.1 c_F16
                  have hf_F16 := hp_F16.2.2
                  have hF_21 : F16 254 = .inr (8, [.int (u 0), .int (u 1), .int (u 2), .int (u 3), .int (u 4), .int (u 5), .ref (ad 255), .ref (ad 256), .ref (ad 257), .ref (ad 258), .ref (ad 259), .int (nI (v 0)), .int (nI (v 1)), .int (u 6), .ref (ad 260), .int (nI (v 2)), .ref (ad 261), .int (nI (v 3)), .int (nI (p0 + 1 + 1 + 1 + 1 + 1 + 1 + 1)), .int (u 7), .ref (ad 262), .int so, .int (nI (v 5))]) := hm_F16.2
                  refine w_top (y := nI 0) hr_F16 ?_
                  refine lv_if_eq (tgt := 85) kx kb dX8_readsBucket_70 (by decide) (fun _ => ?_) (fun q => absurd (by decide) q)
                  refine lv_iconst (v := nI 0) kx kb dX8_readsBucket_85 (by decide) ?_
                  exact w_zret X h (Or.inl (by decide)) (by have eq : (mt (v 3) a [117, 99, 107, 101, 116, 32, 35, 32, 35] p0) = (false, p0 + 1 + 1 + 1 + 1 + 1 + 1 + 1, [(sgN (v 3) a (p0 + 1 + 1 + 1 + 1 + 1 + 1) - nI 48)]) := (by rw [mt_cy 117 (by decide) (by decide) c_F2, mt_cy 99 (by decide) (by decide) c_F4, mt_cy 107 (by decide) (by decide) c_F6, mt_cy 101 (by decide) (by decide) c_F8, mt_cy 116 (by decide) (by decide) c_F10, mt_cy 32 (by decide) (by decide) c_F12, mt_dy c_F14, mt_cn 32 (by decide) (by decide) c_F16]); rw [eq]; exact ⟨bI_fn (show ¬ (false = true) by decide), ⟨by omega, hF_21⟩, (hM_F14.fr (hf_F16 262 (by omega))), (fun i hi0 hi1 => (hf_F16 i (by omega)).trans ((hg_F14 i (by omega) (by omega)).trans ((hf_F12 i (by omega)).trans ((hf_F10 i (by omega)).trans ((hf_F8 i (by omega)).trans ((hf_F6 i (by omega)).trans ((hf_F4 i (by omega)).trans (hf_F2 i (by omega)))))))))⟩) dX8_readsBucket_86
              · obtain ⟨hr_F14, hm_F14, hM_F14⟩ := hp_F14.2.1 c_F14
                have hg_F14 := hp_F14.2.2
                have hF_22 : F14 254 = .inr (8, [.int (u 0), .int (u 1), .int (u 2), .int (u 3), .int (u 4), .int (u 5), .ref (ad 255), .ref (ad 256), .ref (ad 257), .ref (ad 258), .ref (ad 259), .int (nI (v 0)), .int (nI (v 1)), .int (u 6), .ref (ad 260), .int (nI (v 2)), .ref (ad 261), .int (nI (v 3)), .int (nI (p0 + 1 + 1 + 1 + 1 + 1 + 1)), .int (u 7), .ref (ad 262), .int so, .int (nI (v 5))]) := hm_F14.2
                refine w_top (y := nI 0) hr_F14 ?_
                refine lv_if_eq (tgt := 85) kx kb dX8_readsBucket_61 (by decide) (fun _ => ?_) (fun q => absurd (by decide) q)
                refine lv_iconst (v := nI 0) kx kb dX8_readsBucket_85 (by decide) ?_
                exact w_zret X h (Or.inl (by decide)) (by have eq : (mt (v 3) a [117, 99, 107, 101, 116, 32, 35, 32, 35] p0) = (false, p0 + 1 + 1 + 1 + 1 + 1 + 1, []) := (by rw [mt_cy 117 (by decide) (by decide) c_F2, mt_cy 99 (by decide) (by decide) c_F4, mt_cy 107 (by decide) (by decide) c_F6, mt_cy 101 (by decide) (by decide) c_F8, mt_cy 116 (by decide) (by decide) c_F10, mt_cy 32 (by decide) (by decide) c_F12, mt_dn c_F14]); rw [eq]; exact ⟨bI_fn (show ¬ (false = true) by decide), ⟨by omega, hF_22⟩, hM_F14, (fun i hi0 hi1 => (hg_F14 i (by omega) (by omega)).trans ((hf_F12 i (by omega)).trans ((hf_F10 i (by omega)).trans ((hf_F8 i (by omega)).trans ((hf_F6 i (by omega)).trans ((hf_F4 i (by omega)).trans (hf_F2 i (by omega))))))))⟩) dX8_readsBucket_86
            · obtain ⟨hr_F12, hm_F12⟩ := hp_F12.2.1 c_F12
              have hf_F12 := hp_F12.2.2
              have hF_23 : F12 254 = .inr (8, [.int (u 0), .int (u 1), .int (u 2), .int (u 3), .int (u 4), .int (u 5), .ref (ad 255), .ref (ad 256), .ref (ad 257), .ref (ad 258), .ref (ad 259), .int (nI (v 0)), .int (nI (v 1)), .int (u 6), .ref (ad 260), .int (nI (v 2)), .ref (ad 261), .int (nI (v 3)), .int (nI (p0 + 1 + 1 + 1 + 1 + 1)), .int (u 7), .ref (ad 262), .int so, .int (nI (v 5))]) := hm_F12.2
              refine w_top (y := nI 0) hr_F12 ?_
              refine lv_if_ne (tgt := 56) kx kb dX8_readsBucket_51 (by decide) (fun q => absurd (by decide) q) (fun _ => ?_)
              refine lv_iconst (v := nI 0) kx kb dX8_readsBucket_54 (by decide) ?_
              exact w_zret X h (Or.inl (by decide)) (by have eq : (mt (v 3) a [117, 99, 107, 101, 116, 32, 35, 32, 35] p0) = (false, p0 + 1 + 1 + 1 + 1 + 1, []) := (by rw [mt_cy 117 (by decide) (by decide) c_F2, mt_cy 99 (by decide) (by decide) c_F4, mt_cy 107 (by decide) (by decide) c_F6, mt_cy 101 (by decide) (by decide) c_F8, mt_cy 116 (by decide) (by decide) c_F10, mt_cn 32 (by decide) (by decide) c_F12]); rw [eq]; exact ⟨bI_fn (show ¬ (false = true) by decide), ⟨by omega, hF_23⟩, ((((((hM.fr (hf_F2 262 (by omega))).fr (hf_F4 262 (by omega))).fr (hf_F6 262 (by omega))).fr (hf_F8 262 (by omega))).fr (hf_F10 262 (by omega))).fr (hf_F12 262 (by omega))), (fun i hi0 hi1 => (hf_F12 i (by omega)).trans ((hf_F10 i (by omega)).trans ((hf_F8 i (by omega)).trans ((hf_F6 i (by omega)).trans ((hf_F4 i (by omega)).trans (hf_F2 i (by omega)))))))⟩) dX8_readsBucket_55
          · obtain ⟨hr_F10, hm_F10⟩ := hp_F10.2.1 c_F10
            have hf_F10 := hp_F10.2.2
            have hF_24 : F10 254 = .inr (8, [.int (u 0), .int (u 1), .int (u 2), .int (u 3), .int (u 4), .int (u 5), .ref (ad 255), .ref (ad 256), .ref (ad 257), .ref (ad 258), .ref (ad 259), .int (nI (v 0)), .int (nI (v 1)), .int (u 6), .ref (ad 260), .int (nI (v 2)), .ref (ad 261), .int (nI (v 3)), .int (nI (p0 + 1 + 1 + 1 + 1)), .int (u 7), .ref (ad 262), .int so, .int (nI (v 5))]) := hm_F10.2
            refine w_top (y := nI 0) hr_F10 ?_
            refine lv_if_eq (tgt := 54) kx kb dX8_readsBucket_42 (by decide) (fun _ => ?_) (fun q => absurd (by decide) q)
            refine lv_iconst (v := nI 0) kx kb dX8_readsBucket_54 (by decide) ?_
            exact w_zret X h (Or.inl (by decide)) (by have eq : (mt (v 3) a [117, 99, 107, 101, 116, 32, 35, 32, 35] p0) = (false, p0 + 1 + 1 + 1 + 1, []) := (by rw [mt_cy 117 (by decide) (by decide) c_F2, mt_cy 99 (by decide) (by decide) c_F4, mt_cy 107 (by decide) (by decide) c_F6, mt_cy 101 (by decide) (by decide) c_F8, mt_cn 116 (by decide) (by decide) c_F10]); rw [eq]; exact ⟨bI_fn (show ¬ (false = true) by decide), ⟨by omega, hF_24⟩, (((((hM.fr (hf_F2 262 (by omega))).fr (hf_F4 262 (by omega))).fr (hf_F6 262 (by omega))).fr (hf_F8 262 (by omega))).fr (hf_F10 262 (by omega))), (fun i hi0 hi1 => (hf_F10 i (by omega)).trans ((hf_F8 i (by omega)).trans ((hf_F6 i (by omega)).trans ((hf_F4 i (by omega)).trans (hf_F2 i (by omega))))))⟩) dX8_readsBucket_55
        · obtain ⟨hr_F8, hm_F8⟩ := hp_F8.2.1 c_F8
          have hf_F8 := hp_F8.2.2
          have hF_25 : F8 254 = .inr (8, [.int (u 0), .int (u 1), .int (u 2), .int (u 3), .int (u 4), .int (u 5), .ref (ad 255), .ref (ad 256), .ref (ad 257), .ref (ad 258), .ref (ad 259), .int (nI (v 0)), .int (nI (v 1)), .int (u 6), .ref (ad 260), .int (nI (v 2)), .ref (ad 261), .int (nI (v 3)), .int (nI (p0 + 1 + 1 + 1)), .int (u 7), .ref (ad 262), .int so, .int (nI (v 5))]) := hm_F8.2
          refine w_top (y := nI 0) hr_F8 ?_
          refine lv_if_eq (tgt := 54) kx kb dX8_readsBucket_33 (by decide) (fun _ => ?_) (fun q => absurd (by decide) q)
          refine lv_iconst (v := nI 0) kx kb dX8_readsBucket_54 (by decide) ?_
          exact w_zret X h (Or.inl (by decide)) (by have eq : (mt (v 3) a [117, 99, 107, 101, 116, 32, 35, 32, 35] p0) = (false, p0 + 1 + 1 + 1, []) := (by rw [mt_cy 117 (by decide) (by decide) c_F2, mt_cy 99 (by decide) (by decide) c_F4, mt_cy 107 (by decide) (by decide) c_F6, mt_cn 101 (by decide) (by decide) c_F8]); rw [eq]; exact ⟨bI_fn (show ¬ (false = true) by decide), ⟨by omega, hF_25⟩, ((((hM.fr (hf_F2 262 (by omega))).fr (hf_F4 262 (by omega))).fr (hf_F6 262 (by omega))).fr (hf_F8 262 (by omega))), (fun i hi0 hi1 => (hf_F8 i (by omega)).trans ((hf_F6 i (by omega)).trans ((hf_F4 i (by omega)).trans (hf_F2 i (by omega)))))⟩) dX8_readsBucket_55
      · obtain ⟨hr_F6, hm_F6⟩ := hp_F6.2.1 c_F6
        have hf_F6 := hp_F6.2.2
        have hF_26 : F6 254 = .inr (8, [.int (u 0), .int (u 1), .int (u 2), .int (u 3), .int (u 4), .int (u 5), .ref (ad 255), .ref (ad 256), .ref (ad 257), .ref (ad 258), .ref (ad 259), .int (nI (v 0)), .int (nI (v 1)), .int (u 6), .ref (ad 260), .int (nI (v 2)), .ref (ad 261), .int (nI (v 3)), .int (nI (p0 + 1 + 1)), .int (u 7), .ref (ad 262), .int so, .int (nI (v 5))]) := hm_F6.2
        refine w_top (y := nI 0) hr_F6 ?_
        refine lv_if_eq (tgt := 54) kx kb dX8_readsBucket_24 (by decide) (fun _ => ?_) (fun q => absurd (by decide) q)
        refine lv_iconst (v := nI 0) kx kb dX8_readsBucket_54 (by decide) ?_
        exact w_zret X h (Or.inl (by decide)) (by have eq : (mt (v 3) a [117, 99, 107, 101, 116, 32, 35, 32, 35] p0) = (false, p0 + 1 + 1, []) := (by rw [mt_cy 117 (by decide) (by decide) c_F2, mt_cy 99 (by decide) (by decide) c_F4, mt_cn 107 (by decide) (by decide) c_F6]); rw [eq]; exact ⟨bI_fn (show ¬ (false = true) by decide), ⟨by omega, hF_26⟩, (((hM.fr (hf_F2 262 (by omega))).fr (hf_F4 262 (by omega))).fr (hf_F6 262 (by omega))), (fun i hi0 hi1 => (hf_F6 i (by omega)).trans ((hf_F4 i (by omega)).trans (hf_F2 i (by omega))))⟩) dX8_readsBucket_55
    · obtain ⟨hr_F4, hm_F4⟩ := hp_F4.2.1 c_F4
      have hf_F4 := hp_F4.2.2
      have hF_27 : F4 254 = .inr (8, [.int (u 0), .int (u 1), .int (u 2), .int (u 3), .int (u 4), .int (u 5), .ref (ad 255), .ref (ad 256), .ref (ad 257), .ref (ad 258), .ref (ad 259), .int (nI (v 0)), .int (nI (v 1)), .int (u 6), .ref (ad 260), .int (nI (v 2)), .ref (ad 261), .int (nI (v 3)), .int (nI (p0 + 1)), .int (u 7), .ref (ad 262), .int so, .int (nI (v 5))]) := hm_F4.2
      refine w_top (y := nI 0) hr_F4 ?_
      refine lv_if_eq (tgt := 54) kx kb dX8_readsBucket_15 (by decide) (fun _ => ?_) (fun q => absurd (by decide) q)
      refine lv_iconst (v := nI 0) kx kb dX8_readsBucket_54 (by decide) ?_
      exact w_zret X h (Or.inl (by decide)) (by have eq : (mt (v 3) a [117, 99, 107, 101, 116, 32, 35, 32, 35] p0) = (false, p0 + 1, []) := (by rw [mt_cy 117 (by decide) (by decide) c_F2, mt_cn 99 (by decide) (by decide) c_F4]); rw [eq]; exact ⟨bI_fn (show ¬ (false = true) by decide), ⟨by omega, hF_27⟩, ((hM.fr (hf_F2 262 (by omega))).fr (hf_F4 262 (by omega))), (fun i hi0 hi1 => (hf_F4 i (by omega)).trans (hf_F2 i (by omega)))⟩) dX8_readsBucket_55
  · obtain ⟨hr_F2, hm_F2⟩ := hp_F2.2.1 c_F2
    have hf_F2 := hp_F2.2.2
    have hF_28 : F2 254 = .inr (8, [.int (u 0), .int (u 1), .int (u 2), .int (u 3), .int (u 4), .int (u 5), .ref (ad 255), .ref (ad 256), .ref (ad 257), .ref (ad 258), .ref (ad 259), .int (nI (v 0)), .int (nI (v 1)), .int (u 6), .ref (ad 260), .int (nI (v 2)), .ref (ad 261), .int (nI (v 3)), .int (nI p0), .int (u 7), .ref (ad 262), .int so, .int (nI (v 5))]) := hm_F2.2
    refine w_top (y := nI 0) hr_F2 ?_
    refine lv_if_eq (tgt := 54) kx kb dX8_readsBucket_6 (by decide) (fun _ => ?_) (fun q => absurd (by decide) q)
    refine lv_iconst (v := nI 0) kx kb dX8_readsBucket_54 (by decide) ?_
    exact w_zret X h (Or.inl (by decide)) (by have eq : (mt (v 3) a [117, 99, 107, 101, 116, 32, 35, 32, 35] p0) = (false, p0, []) := (by rw [mt_cn 117 (by decide) (by decide) c_F2]); rw [eq]; exact ⟨bI_fn (show ¬ (false = true) by decide), ⟨by omega, hF_28⟩, (hM.fr (hf_F2 262 (by omega))), (fun i hi0 hi1 => hf_F2 i (by omega))⟩) dX8_readsBucket_55
set_option maxRecDepth 20000 in
theorem c_X8_readsP (l : Launch) (g : gT) {N : Nat} {ad : Nat → Nat} {F : Nat → va_E} (u : Nat → Int32) (v : Nat → Nat) (p0 : Nat) (a nm : Nat → Int32) (hm : oM g N ad F (uSo u (nI 112)) (vAt v p0)) (h3 : v 3 ≤ 60) (hp0 : p0 ≤ v 3) (hA : arC g F 261 60 a) (hM : arI g F 262 4 nm)  : CtI l yX8_readsP cX8_readsP 1 (some .boolean) 3 64 g N ad F [.ref (ad 254)] (fun r F' => r = bI ((fmP (v 3) a p0).1.1 = true) ∧ oM g N ad F' (uSo u (fmP (v 3) a p0).2) (vAt v (fmP (v 3) a p0).1.2.1) ∧ arI g F' 262 4 (nmP nm 0 (fmP (v 3) a p0).1.2.2) ∧ ∀ i, i ≠ 254 → i ≠ 262 → F' i = F i) := by
  refine CtI_of (by decide) (Nat.le_of_ble_eq_true rfl) ?_
  intro p e s m args below meth c A H ls X M h hl
  have kx := X.1.1
  have kb := X.1.2.1
  have hl : lv_has ls 1 [(0, .ref (ad 254))] := hl
  have hN0 := hm.1
  have hF_1 : F 254 = .inr (8, [.int (u 0), .int (u 1), .int (u 2), .int (u 3), .int (u 4), .int (u 5), .ref (ad 255), .ref (ad 256), .ref (ad 257), .ref (ad 258), .ref (ad 259), .int (nI (v 0)), .int (nI (v 1)), .int (u 6), .ref (ad 260), .int (nI (v 2)), .ref (ad 261), .int (nI (v 3)), .int (nI p0), .int (u 7), .ref (ad 262), .int (nI 112), .int (nI (v 5))]) := hm.2
  refine lv_aload_n kx kb dX8_readsP_0 rfl (lv_at hl 0 rfl) ?_
  refine lv_bipush (v := nI 117) kx kb dX8_readsP_1 (by decide) ?_
  refine w_callVi X M h [.int (nI 117)] [] ((c_X8_reads l g u v p0 (nI 112) a nm (⟨by omega, hF_1⟩) h3 (by omega) hA hM 117 (by decide))) lk_X8_242 hF_1 (by omega) rfl rfl ⟨by decide, by decide⟩ hl ⟨Nat.zero_le _, Nat.zero_le _⟩ (Nat.le_of_ble_eq_true rfl) rfl dX8_readsP_3 (fun r_F2 F2 H locs hp_F2 h => ?_)
  by_cases c_F2 : sgN (v 3) a p0 = nI 117
  · obtain ⟨hr_F2, hm_F2⟩ := hp_F2.1 c_F2
    have hf_F2 := hp_F2.2.2
    have hq_F2 : p0 + 1 ≤ v 3 := sgN_lt (by decide) c_F2
    have hF_3 : F2 254 = .inr (8, [.int (u 0), .int (u 1), .int (u 2), .int (u 3), .int (u 4), .int (u 5), .ref (ad 255), .ref (ad 256), .ref (ad 257), .ref (ad 258), .ref (ad 259), .int (nI (v 0)), .int (nI (v 1)), .int (u 6), .ref (ad 260), .int (nI (v 2)), .ref (ad 261), .int (nI (v 3)), .int (nI (p0 + 1)), .int (u 7), .ref (ad 262), .int (nI 112), .int (nI (v 5))]) := hm_F2.2
    refine w_top (y := nI 1) hr_F2 ?_
    refine lv_if_eq (tgt := 50) kx kb dX8_readsP_6 (by decide) (fun q => absurd q (by decide)) (fun _ => ?_)
    refine lv_aload_n kx kb dX8_readsP_9 rfl (lv_at hl 0 rfl) ?_
    refine lv_bipush (v := nI 109) kx kb dX8_readsP_10 (by decide) ?_
    refine w_callVi X M h [.int (nI 109)] [] ((c_X8_reads l g u v (p0 + 1) (nI 112) a nm (⟨by omega, hF_3⟩) h3 (by omega) (hA.fr (hf_F2 261 (by omega))) (hM.fr (hf_F2 262 (by omega))) 109 (by decide))) lk_X8_242 hF_3 (by omega) rfl rfl ⟨by decide, by decide⟩ hl ⟨Nat.zero_le _, Nat.zero_le _⟩ (Nat.le_of_ble_eq_true rfl) rfl dX8_readsP_12 (fun r_F4 F4 H locs hp_F4 h => ?_)
    by_cases c_F4 : sgN (v 3) a (p0 + 1) = nI 109
    · obtain ⟨hr_F4, hm_F4⟩ := hp_F4.1 c_F4
      have hf_F4 := hp_F4.2.2
      have hq_F4 : p0 + 1 + 1 ≤ v 3 := sgN_lt (by decide) c_F4
      have hF_5 : F4 254 = .inr (8, [.int (u 0), .int (u 1), .int (u 2), .int (u 3), .int (u 4), .int (u 5), .ref (ad 255), .ref (ad 256), .ref (ad 257), .ref (ad 258), .ref (ad 259), .int (nI (v 0)), .int (nI (v 1)), .int (u 6), .ref (ad 260), .int (nI (v 2)), .ref (ad 261), .int (nI (v 3)), .int (nI (p0 + 1 + 1)), .int (u 7), .ref (ad 262), .int (nI 112), .int (nI (v 5))]) := hm_F4.2
      refine w_top (y := nI 1) hr_F4 ?_
      refine lv_if_eq (tgt := 48) kx kb dX8_readsP_15 (by decide) (fun q => absurd q (by decide)) (fun _ => ?_)
      refine lv_aload_n kx kb dX8_readsP_18 rfl (lv_at hl 0 rfl) ?_
      refine lv_bipush (v := nI 112) kx kb dX8_readsP_19 (by decide) ?_
      refine w_callVi X M h [.int (nI 112)] [] ((c_X8_reads l g u v (p0 + 1 + 1) (nI 112) a nm (⟨by omega, hF_5⟩) h3 (by omega) ((hA.fr (hf_F2 261 (by omega))).fr (hf_F4 261 (by omega))) ((hM.fr (hf_F2 262 (by omega))).fr (hf_F4 262 (by omega))) 112 (by decide))) lk_X8_242 hF_5 (by omega) rfl rfl ⟨by decide, by decide⟩ hl ⟨Nat.zero_le _, Nat.zero_le _⟩ (Nat.le_of_ble_eq_true rfl) rfl dX8_readsP_21 (fun r_F6 F6 H locs hp_F6 h => ?_)
      by_cases c_F6 : sgN (v 3) a (p0 + 1 + 1) = nI 112
      · obtain ⟨hr_F6, hm_F6⟩ := hp_F6.1 c_F6
        have hf_F6 := hp_F6.2.2
        have hq_F6 : p0 + 1 + 1 + 1 ≤ v 3 := sgN_lt (by decide) c_F6
        have hF_7 : F6 254 = .inr (8, [.int (u 0), .int (u 1), .int (u 2), .int (u 3), .int (u 4), .int (u 5), .ref (ad 255), .ref (ad 256), .ref (ad 257), .ref (ad 258), .ref (ad 259), .int (nI (v 0)), .int (nI (v 1)), .int (u 6), .ref (ad 260), .int (nI (v 2)), .ref (ad 261), .int (nI (v 3)), .int (nI (p0 + 1 + 1 + 1)), .int (u 7), .ref (ad 262), .int (nI 112), .int (nI (v 5))]) := hm_F6.2
        refine w_top (y := nI 1) hr_F6 ?_
        refine lv_if_eq (tgt := 48) kx kb dX8_readsP_24 (by decide) (fun q => absurd q (by decide)) (fun _ => ?_)
        refine lv_aload_n kx kb dX8_readsP_27 rfl (lv_at hl 0 rfl) ?_
        refine lv_bipush (v := nI 32) kx kb dX8_readsP_28 (by decide) ?_
        refine w_callVi X M h [.int (nI 32)] [] ((c_X8_reads l g u v (p0 + 1 + 1 + 1) (nI 112) a nm (⟨by omega, hF_7⟩) h3 (by omega) (((hA.fr (hf_F2 261 (by omega))).fr (hf_F4 261 (by omega))).fr (hf_F6 261 (by omega))) (((hM.fr (hf_F2 262 (by omega))).fr (hf_F4 262 (by omega))).fr (hf_F6 262 (by omega))) 32 (by decide))) lk_X8_242 hF_7 (by omega) rfl rfl ⟨by decide, by decide⟩ hl ⟨Nat.zero_le _, Nat.zero_le _⟩ (Nat.le_of_ble_eq_true rfl) rfl dX8_readsP_30 (fun r_F8 F8 H locs hp_F8 h => ?_)
        by_cases c_F8 : sgN (v 3) a (p0 + 1 + 1 + 1) = nI 32
        · obtain ⟨hr_F8, hm_F8⟩ := hp_F8.1 c_F8
          have hf_F8 := hp_F8.2.2
          have hq_F8 : p0 + 1 + 1 + 1 + 1 ≤ v 3 := sgN_lt (by decide) c_F8
          have hF_9 : F8 254 = .inr (8, [.int (u 0), .int (u 1), .int (u 2), .int (u 3), .int (u 4), .int (u 5), .ref (ad 255), .ref (ad 256), .ref (ad 257), .ref (ad 258), .ref (ad 259), .int (nI (v 0)), .int (nI (v 1)), .int (u 6), .ref (ad 260), .int (nI (v 2)), .ref (ad 261), .int (nI (v 3)), .int (nI (p0 + 1 + 1 + 1 + 1)), .int (u 7), .ref (ad 262), .int (nI 112), .int (nI (v 5))]) := hm_F8.2
          refine w_top (y := nI 1) hr_F8 ?_
          refine lv_if_eq (tgt := 48) kx kb dX8_readsP_33 (by decide) (fun q => absurd q (by decide)) (fun _ => ?_)
          refine lv_aload_n kx kb dX8_readsP_36 rfl (lv_at hl 0 rfl) ?_
          refine lv_iconst (v := nI 0) kx kb dX8_readsP_37 (by decide) ?_
          refine w_callVi X M h [.int (nI 0)] [] ((c_X8_readsDigit l g u v (p0 + 1 + 1 + 1 + 1) (nI 112) a nm (⟨by omega, hF_9⟩) h3 (by omega) ((((hA.fr (hf_F2 261 (by omega))).fr (hf_F4 261 (by omega))).fr (hf_F6 261 (by omega))).fr (hf_F8 261 (by omega))) ((((hM.fr (hf_F2 262 (by omega))).fr (hf_F4 262 (by omega))).fr (hf_F6 262 (by omega))).fr (hf_F8 262 (by omega))) 0 (by omega))) lk_X8_239 hF_9 (by omega) rfl rfl ⟨by decide, by decide⟩ hl ⟨Nat.zero_le _, Nat.zero_le _⟩ (Nat.le_of_ble_eq_true rfl) rfl dX8_readsP_38 (fun r_F10 F10 H locs hp_F10 h => ?_)
          by_cases c_F10 : isD (v 3) a (p0 + 1 + 1 + 1 + 1)
          · obtain ⟨hr_F10, hm_F10, hM_F10⟩ := hp_F10.1 c_F10
            have hg_F10 := hp_F10.2.2
            have hq_F10 : p0 + 1 + 1 + 1 + 1 + 1 ≤ v 3 := isD_lt c_F10
            have hF_11 : F10 254 = .inr (8, [.int (u 0), .int (u 1), .int (u 2), .int (u 3), .int (u 4), .int (u 5), .ref (ad 255), .ref (ad 256), .ref (ad 257), .ref (ad 258), .ref (ad 259), .int (nI (v 0)), .int (nI (v 1)), .int (u 6), .ref (ad 260), .int (nI (v 2)), .ref (ad 261), .int (nI (v 3)), .int (nI (p0 + 1 + 1 + 1 + 1 + 1)), .int (u 7), .ref (ad 262), .int (nI 112), .int (nI (v 5))]) := hm_F10.2
            refine w_top (y := nI 1) hr_F10 ?_
            refine lv_if_eq (tgt := 48) kx kb dX8_readsP_41 (by decide) (fun q => absurd q (by decide)) (fun _ => ?_)
            refine lv_iconst (v := nI 1) kx kb dX8_readsP_44 (by decide) ?_
            refine lv_goto (tgt := 49) kx kb dX8_readsP_45 (by decide) ?_
            exact w_zret X h (Or.inr (by decide)) (by have eq : fmP (v 3) a p0 = ((true, p0 + 1 + 1 + 1 + 1 + 1, [(sgN (v 3) a (p0 + 1 + 1 + 1 + 1) - nI 48)]), nI 112) := (by rw [fmP, if_pos c_F2, mt_cy 109 (by decide) (by decide) c_F4, mt_cy 112 (by decide) (by decide) c_F6, mt_cy 32 (by decide) (by decide) c_F8, mt_dy c_F10, mt_0]); rw [eq]; exact ⟨bI_tn rfl, ⟨by omega, hF_11⟩, hM_F10, (fun i hi0 hi1 => (hg_F10 i (by omega) (by omega)).trans ((hf_F8 i (by omega)).trans ((hf_F6 i (by omega)).trans ((hf_F4 i (by omega)).trans (hf_F2 i (by omega))))))⟩) dX8_readsP_49
          · obtain ⟨hr_F10, hm_F10, hM_F10⟩ := hp_F10.2.1 c_F10
            have hg_F10 := hp_F10.2.2
            have hF_12 : F10 254 = .inr (8, [.int (u 0), .int (u 1), .int (u 2), .int (u 3), .int (u 4), .int (u 5), .ref (ad 255), .ref (ad 256), .ref (ad 257), .ref (ad 258), .ref (ad 259), .int (nI (v 0)), .int (nI (v 1)), .int (u 6), .ref (ad 260), .int (nI (v 2)), .ref (ad 261), .int (nI (v 3)), .int (nI (p0 + 1 + 1 + 1 + 1)), .int (u 7), .ref (ad 262), .int (nI 112), .int (nI (v 5))]) := hm_F10.2
            refine w_top (y := nI 0) hr_F10 ?_
            refine lv_if_eq (tgt := 48) kx kb dX8_readsP_41 (by decide) (fun _ => ?_) (fun q => absurd (by decide) q)
            refine lv_iconst (v := nI 0) kx kb dX8_readsP_48 (by decide) ?_
            exact w_zret X h (Or.inl (by decide)) (by have eq : fmP (v 3) a p0 = ((false, p0 + 1 + 1 + 1 + 1, []), nI 112) := (by rw [fmP, if_pos c_F2, mt_cy 109 (by decide) (by decide) c_F4, mt_cy 112 (by decide) (by decide) c_F6, mt_cy 32 (by decide) (by decide) c_F8, mt_dn c_F10]); rw [eq]; exact ⟨bI_fn (show ¬ (false = true) by decide), ⟨by omega, hF_12⟩, hM_F10, (fun i hi0 hi1 => (hg_F10 i (by omega) (by omega)).trans ((hf_F8 i (by omega)).trans ((hf_F6 i (by omega)).trans ((hf_F4 i (by omega)).trans (hf_F2 i (by omega))))))⟩) dX8_readsP_49
        · obtain ⟨hr_F8, hm_F8⟩ := hp_F8.2.1 c_F8
          have hf_F8 := hp_F8.2.2
          have hF_13 : F8 254 = .inr (8, [.int (u 0), .int (u 1), .int (u 2), .int (u 3), .int (u 4), .int (u 5), .ref (ad 255), .ref (ad 256), .ref (ad 257), .ref (ad 258), .ref (ad 259), .int (nI (v 0)), .int (nI (v 1)), .int (u 6), .ref (ad 260), .int (nI (v 2)), .ref (ad 261), .int (nI (v 3)), .int (nI (p0 + 1 + 1 + 1)), .int (u 7), .ref (ad 262), .int (nI 112), .int (nI (v 5))]) := hm_F8.2
          refine w_top (y := nI 0) hr_F8 ?_
          refine lv_if_eq (tgt := 48) kx kb dX8_readsP_33 (by decide) (fun _ => ?_) (fun q => absurd (by decide) q)
          refine lv_iconst (v := nI 0) kx kb dX8_readsP_48 (by decide) ?_
          exact w_zret X h (Or.inl (by decide)) (by have eq : fmP (v 3) a p0 = ((false, p0 + 1 + 1 + 1, []), nI 112) := (by rw [fmP, if_pos c_F2, mt_cy 109 (by decide) (by decide) c_F4, mt_cy 112 (by decide) (by decide) c_F6, mt_cn 32 (by decide) (by decide) c_F8]); rw [eq]; exact ⟨bI_fn (show ¬ (false = true) by decide), ⟨by omega, hF_13⟩, ((((hM.fr (hf_F2 262 (by omega))).fr (hf_F4 262 (by omega))).fr (hf_F6 262 (by omega))).fr (hf_F8 262 (by omega))), (fun i hi0 hi1 => (hf_F8 i (by omega)).trans ((hf_F6 i (by omega)).trans ((hf_F4 i (by omega)).trans (hf_F2 i (by omega)))))⟩) dX8_readsP_49
      · obtain ⟨hr_F6, hm_F6⟩ := hp_F6.2.1 c_F6
        have hf_F6 := hp_F6.2.2
        have hF_14 : F6 254 = .inr (8, [.int (u 0), .int (u 1), .int (u 2), .int (u 3), .int (u 4), .int (u 5), .ref (ad 255), .ref (ad 256), .ref (ad 257), .ref (ad 258), .ref (ad 259), .int (nI (v 0)), .int (nI (v 1)), .int (u 6), .ref (ad 260), .int (nI (v 2)), .ref (ad 261), .int (nI (v 3)), .int (nI (p0 + 1 + 1)), .int (u 7), .ref (ad 262), .int (nI 112), .int (nI (v 5))]) := hm_F6.2
        refine w_top (y := nI 0) hr_F6 ?_
        refine lv_if_eq (tgt := 48) kx kb dX8_readsP_24 (by decide) (fun _ => ?_) (fun q => absurd (by decide) q)
        refine lv_iconst (v := nI 0) kx kb dX8_readsP_48 (by decide) ?_
        exact w_zret X h (Or.inl (by decide)) (by have eq : fmP (v 3) a p0 = ((false, p0 + 1 + 1, []), nI 112) := (by rw [fmP, if_pos c_F2, mt_cy 109 (by decide) (by decide) c_F4, mt_cn 112 (by decide) (by decide) c_F6]); rw [eq]; exact ⟨bI_fn (show ¬ (false = true) by decide), ⟨by omega, hF_14⟩, (((hM.fr (hf_F2 262 (by omega))).fr (hf_F4 262 (by omega))).fr (hf_F6 262 (by omega))), (fun i hi0 hi1 => (hf_F6 i (by omega)).trans ((hf_F4 i (by omega)).trans (hf_F2 i (by omega))))⟩) dX8_readsP_49
    · obtain ⟨hr_F4, hm_F4⟩ := hp_F4.2.1 c_F4
      have hf_F4 := hp_F4.2.2
      have hF_15 : F4 254 = .inr (8, [.int (u 0), .int (u 1), .int (u 2), .int (u 3), .int (u 4), .int (u 5), .ref (ad 255), .ref (ad 256), .ref (ad 257), .ref (ad 258), .ref (ad 259), .int (nI (v 0)), .int (nI (v 1)), .int (u 6), .ref (ad 260), .int (nI (v 2)), .ref (ad 261), .int (nI (v 3)), .int (nI (p0 + 1)), .int (u 7), .ref (ad 262), .int (nI 112), .int (nI (v 5))]) := hm_F4.2
      refine w_top (y := nI 0) hr_F4 ?_
      refine lv_if_eq (tgt := 48) kx kb dX8_readsP_15 (by decide) (fun _ => ?_) (fun q => absurd (by decide) q)
      refine lv_iconst (v := nI 0) kx kb dX8_readsP_48 (by decide) ?_
      exact w_zret X h (Or.inl (by decide)) (by have eq : fmP (v 3) a p0 = ((false, p0 + 1, []), nI 112) := (by rw [fmP, if_pos c_F2, mt_cn 109 (by decide) (by decide) c_F4]); rw [eq]; exact ⟨bI_fn (show ¬ (false = true) by decide), ⟨by omega, hF_15⟩, ((hM.fr (hf_F2 262 (by omega))).fr (hf_F4 262 (by omega))), (fun i hi0 hi1 => (hf_F4 i (by omega)).trans (hf_F2 i (by omega)))⟩) dX8_readsP_49
  · obtain ⟨hr_F2, hm_F2⟩ := hp_F2.2.1 c_F2
    have hf_F2 := hp_F2.2.2
    have hF_16 : F2 254 = .inr (8, [.int (u 0), .int (u 1), .int (u 2), .int (u 3), .int (u 4), .int (u 5), .ref (ad 255), .ref (ad 256), .ref (ad 257), .ref (ad 258), .ref (ad 259), .int (nI (v 0)), .int (nI (v 1)), .int (u 6), .ref (ad 260), .int (nI (v 2)), .ref (ad 261), .int (nI (v 3)), .int (nI p0), .int (u 7), .ref (ad 262), .int (nI 112), .int (nI (v 5))]) := hm_F2.2
    refine w_top (y := nI 0) hr_F2 ?_
    refine lv_if_eq (tgt := 50) kx kb dX8_readsP_6 (by decide) (fun _ => ?_) (fun q => absurd (by decide) q)
    refine lv_aload_n kx kb dX8_readsP_50 rfl (lv_at hl 0 rfl) ?_
    refine lv_bipush (v := nI 114) kx kb dX8_readsP_51 (by decide) ?_
    refine w_put X M h 254 hF_16 (by omega) fp_X8_248 (rfl) (by rfl) (Nat.le_of_ble_eq_true rfl) dX8_readsP_53 (fun F17 H locs h he_F17 hf_F17 => ?_)
    refine lv_aload_n kx kb dX8_readsP_56 rfl (lv_at hl 0 rfl) ?_
    refine lv_bipush (v := nI 114) kx kb dX8_readsP_57 (by decide) ?_
    refine w_callVi X M h [.int (nI 114)] [] ((c_X8_reads l g u v p0 (nI 114) a nm (⟨by omega, he_F17⟩) h3 (by omega) ((hA.fr (hf_F2 261 (by omega))).fr (hf_F17 261 (by omega))) ((hM.fr (hf_F2 262 (by omega))).fr (hf_F17 262 (by omega))) 114 (by decide))) lk_X8_242 he_F17 (by omega) rfl rfl ⟨by decide, by decide⟩ hl ⟨Nat.zero_le _, Nat.zero_le _⟩ (Nat.le_of_ble_eq_true rfl) rfl dX8_readsP_59 (fun r_F18 F18 H locs hp_F18 h => ?_)
    by_cases c_F18 : sgN (v 3) a p0 = nI 114
    · obtain ⟨hr_F18, hm_F18⟩ := hp_F18.1 c_F18
      have hf_F18 := hp_F18.2.2
      have hq_F18 : p0 + 1 ≤ v 3 := sgN_lt (by decide) c_F18
      have hF_19 : F18 254 = .inr (8, [.int (u 0), .int (u 1), .int (u 2), .int (u 3), .int (u 4), .int (u 5), .ref (ad 255), .ref (ad 256), .ref (ad 257), .ref (ad 258), .ref (ad 259), .int (nI (v 0)), .int (nI (v 1)), .int (u 6), .ref (ad 260), .int (nI (v 2)), .ref (ad 261), .int (nI (v 3)), .int (nI (p0 + 1)), .int (u 7), .ref (ad 262), .int (nI 114), .int (nI (v 5))]) := hm_F18.2
      refine w_top (y := nI 1) hr_F18 ?_
      refine lv_if_eq (tgt := 113) kx kb dX8_readsP_62 (by decide) (fun q => absurd q (by decide)) (fun _ => ?_)
      refine lv_aload_n kx kb dX8_readsP_65 rfl (lv_at hl 0 rfl) ?_
      refine lv_bipush (v := nI 105) kx kb dX8_readsP_66 (by decide) ?_
      refine w_callVi X M h [.int (nI 105)] [] ((c_X8_reads l g u v (p0 + 1) (nI 114) a nm (⟨by omega, hF_19⟩) h3 (by omega) (((hA.fr (hf_F2 261 (by omega))).fr (hf_F17 261 (by omega))).fr (hf_F18 261 (by omega))) (((hM.fr (hf_F2 262 (by omega))).fr (hf_F17 262 (by omega))).fr (hf_F18 262 (by omega))) 105 (by decide))) lk_X8_242 hF_19 (by omega) rfl rfl ⟨by decide, by decide⟩ hl ⟨Nat.zero_le _, Nat.zero_le _⟩ (Nat.le_of_ble_eq_true rfl) rfl dX8_readsP_68 (fun r_F20 F20 H locs hp_F20 h => ?_)
      by_cases c_F20 : sgN (v 3) a (p0 + 1) = nI 105
      · obtain ⟨hr_F20, hm_F20⟩ := hp_F20.1 c_F20
        have hf_F20 := hp_F20.2.2
        have hq_F20 : p0 + 1 + 1 ≤ v 3 := sgN_lt (by decide) c_F20
        have hF_21 : F20 254 = .inr (8, [.int (u 0), .int (u 1), .int (u 2), .int (u 3), .int (u 4), .int (u 5), .ref (ad 255), .ref (ad 256), .ref (ad 257), .ref (ad 258), .ref (ad 259), .int (nI (v 0)), .int (nI (v 1)), .int (u 6), .ref (ad 260), .int (nI (v 2)), .ref (ad 261), .int (nI (v 3)), .int (nI (p0 + 1 + 1)), .int (u 7), .ref (ad 262), .int (nI 114), .int (nI (v 5))]) := hm_F20.2
        refine w_top (y := nI 1) hr_F20 ?_
        refine lv_if_eq (tgt := 113) kx kb dX8_readsP_71 (by decide) (fun q => absurd q (by decide)) (fun _ => ?_)
        refine lv_aload_n kx kb dX8_readsP_74 rfl (lv_at hl 0 rfl) ?_
        refine lv_bipush (v := nI 109) kx kb dX8_readsP_75 (by decide) ?_
        refine w_callVi X M h [.int (nI 109)] [] ((c_X8_reads l g u v (p0 + 1 + 1) (nI 114) a nm (⟨by omega, hF_21⟩) h3 (by omega) ((((hA.fr (hf_F2 261 (by omega))).fr (hf_F17 261 (by omega))).fr (hf_F18 261 (by omega))).fr (hf_F20 261 (by omega))) ((((hM.fr (hf_F2 262 (by omega))).fr (hf_F17 262 (by omega))).fr (hf_F18 262 (by omega))).fr (hf_F20 262 (by omega))) 109 (by decide))) lk_X8_242 hF_21 (by omega) rfl rfl ⟨by decide, by decide⟩ hl ⟨Nat.zero_le _, Nat.zero_le _⟩ (Nat.le_of_ble_eq_true rfl) rfl dX8_readsP_77 (fun r_F22 F22 H locs hp_F22 h => ?_)
        by_cases c_F22 : sgN (v 3) a (p0 + 1 + 1) = nI 109
        · obtain ⟨hr_F22, hm_F22⟩ := hp_F22.1 c_F22
          have hf_F22 := hp_F22.2.2
          have hq_F22 : p0 + 1 + 1 + 1 ≤ v 3 := sgN_lt (by decide) c_F22
          have hF_23 : F22 254 = .inr (8, [.int (u 0), .int (u 1), .int (u 2), .int (u 3), .int (u 4), .int (u 5), .ref (ad 255), .ref (ad 256), .ref (ad 257), .ref (ad 258), .ref (ad 259), .int (nI (v 0)), .int (nI (v 1)), .int (u 6), .ref (ad 260), .int (nI (v 2)), .ref (ad 261), .int (nI (v 3)), .int (nI (p0 + 1 + 1 + 1)), .int (u 7), .ref (ad 262), .int (nI 114), .int (nI (v 5))]) := hm_F22.2
          refine w_top (y := nI 1) hr_F22 ?_
          refine lv_if_eq (tgt := 113) kx kb dX8_readsP_80 (by decide) (fun q => absurd q (by decide)) (fun _ => ?_)
          refine lv_aload_n kx kb dX8_readsP_83 rfl (lv_at hl 0 rfl) ?_
          refine lv_bipush (v := nI 101) kx kb dX8_readsP_84 (by decide) ?_
          refine w_callVi X M h [.int (nI 101)] [] ((c_X8_reads l g u v (p0 + 1 + 1 + 1) (nI 114) a nm (⟨by omega, hF_23⟩) h3 (by omega) (((((hA.fr (hf_F2 261 (by omega))).fr (hf_F17 261 (by omega))).fr (hf_F18 261 (by omega))).fr (hf_F20 261 (by omega))).fr (hf_F22 261 (by omega))) (((((hM.fr (hf_F2 262 (by omega))).fr (hf_F17 262 (by omega))).fr (hf_F18 262 (by omega))).fr (hf_F20 262 (by omega))).fr (hf_F22 262 (by omega))) 101 (by decide))) lk_X8_242 hF_23 (by omega) rfl rfl ⟨by decide, by decide⟩ hl ⟨Nat.zero_le _, Nat.zero_le _⟩ (Nat.le_of_ble_eq_true rfl) rfl dX8_readsP_86 (fun r_F24 F24 H locs hp_F24 h => ?_)
          by_cases c_F24 : sgN (v 3) a (p0 + 1 + 1 + 1) = nI 101
          · obtain ⟨hr_F24, hm_F24⟩ := hp_F24.1 c_F24
            have hf_F24 := hp_F24.2.2
            have hq_F24 : p0 + 1 + 1 + 1 + 1 ≤ v 3 := sgN_lt (by decide) c_F24
            have hF_25 : F24 254 = .inr (8, [.int (u 0), .int (u 1), .int (u 2), .int (u 3), .int (u 4), .int (u 5), .ref (ad 255), .ref (ad 256), .ref (ad 257), .ref (ad 258), .ref (ad 259), .int (nI (v 0)), .int (nI (v 1)), .int (u 6), .ref (ad 260), .int (nI (v 2)), .ref (ad 261), .int (nI (v 3)), .int (nI (p0 + 1 + 1 + 1 + 1)), .int (u 7), .ref (ad 262), .int (nI 114), .int (nI (v 5))]) := hm_F24.2
            refine w_top (y := nI 1) hr_F24 ?_
            refine lv_if_eq (tgt := 113) kx kb dX8_readsP_89 (by decide) (fun q => absurd q (by decide)) (fun _ => ?_)
            refine lv_aload_n kx kb dX8_readsP_92 rfl (lv_at hl 0 rfl) ?_
            refine lv_bipush (v := nI 32) kx kb dX8_readsP_93 (by decide) ?_
            refine w_callVi X M h [.int (nI 32)] [] ((c_X8_reads l g u v (p0 + 1 + 1 + 1 + 1) (nI 114) a nm (⟨by omega, hF_25⟩) h3 (by omega) ((((((hA.fr (hf_F2 261 (by omega))).fr (hf_F17 261 (by omega))).fr (hf_F18 261 (by omega))).fr (hf_F20 261 (by omega))).fr (hf_F22 261 (by omega))).fr (hf_F24 261 (by omega))) ((((((hM.fr (hf_F2 262 (by omega))).fr (hf_F17 262 (by omega))).fr (hf_F18 262 (by omega))).fr (hf_F20 262 (by omega))).fr (hf_F22 262 (by omega))).fr (hf_F24 262 (by omega))) 32 (by decide))) lk_X8_242 hF_25 (by omega) rfl rfl ⟨by decide, by decide⟩ hl ⟨Nat.zero_le _, Nat.zero_le _⟩ (Nat.le_of_ble_eq_true rfl) rfl dX8_readsP_95 (fun r_F26 F26 H locs hp_F26 h => ?_)
            by_cases c_F26 : sgN (v 3) a (p0 + 1 + 1 + 1 + 1) = nI 32
            · obtain ⟨hr_F26, hm_F26⟩ := hp_F26.1 c_F26
              have hf_F26 := hp_F26.2.2
              have hq_F26 : p0 + 1 + 1 + 1 + 1 + 1 ≤ v 3 := sgN_lt (by decide) c_F26
              have hF_27 : F26 254 = .inr (8, [.int (u 0), .int (u 1), .int (u 2), .int (u 3), .int (u 4), .int (u 5), .ref (ad 255), .ref (ad 256), .ref (ad 257), .ref (ad 258), .ref (ad 259), .int (nI (v 0)), .int (nI (v 1)), .int (u 6), .ref (ad 260), .int (nI (v 2)), .ref (ad 261), .int (nI (v 3)), .int (nI (p0 + 1 + 1 + 1 + 1 + 1)), .int (u 7), .ref (ad 262), .int (nI 114), .int (nI (v 5))]) := hm_F26.2
              refine w_top (y := nI 1) hr_F26 ?_
              refine lv_if_eq (tgt := 113) kx kb dX8_readsP_98 (by decide) (fun q => absurd q (by decide)) (fun _ => ?_)
              refine lv_aload_n kx kb dX8_readsP_101 rfl (lv_at hl 0 rfl) ?_
              refine lv_iconst (v := nI 0) kx kb dX8_readsP_102 (by decide) ?_
              refine w_callVi X M h [.int (nI 0)] [] ((c_X8_readsNumber l g u v (p0 + 1 + 1 + 1 + 1 + 1) (nI 114) a nm (⟨by omega, hF_27⟩) h3 (by omega) (((((((hA.fr (hf_F2 261 (by omega))).fr (hf_F17 261 (by omega))).fr (hf_F18 261 (by omega))).fr (hf_F20 261 (by omega))).fr (hf_F22 261 (by omega))).fr (hf_F24 261 (by omega))).fr (hf_F26 261 (by omega))) (((((((hM.fr (hf_F2 262 (by omega))).fr (hf_F17 262 (by omega))).fr (hf_F18 262 (by omega))).fr (hf_F20 262 (by omega))).fr (hf_F22 262 (by omega))).fr (hf_F24 262 (by omega))).fr (hf_F26 262 (by omega))) 0 (by omega))) lk_X8_245 hF_27 (by omega) rfl rfl ⟨by decide, by decide⟩ hl ⟨Nat.zero_le _, Nat.zero_le _⟩ (Nat.le_of_ble_eq_true rfl) rfl dX8_readsP_103 (fun r_F28 F28 H locs hp_F28 h => ?_)
              by_cases c_F28 : tkL (v 3) a (p0 + 1 + 1 + 1 + 1 + 1) ≠ 0
              · obtain ⟨hr_F28, hm_F28, hM_F28⟩ := hp_F28.1 c_F28
                have hg_F28 := hp_F28.2.2
                have hq_F28 : p0 + 1 + 1 + 1 + 1 + 1 + tkL (v 3) a (p0 + 1 + 1 + 1 + 1 + 1) ≤ v 3 := tkL_le (by omega)
                have hF_29 : F28 254 = .inr (8, [.int (u 0), .int (u 1), .int (u 2), .int (u 3), .int (u 4), .int (u 5), .ref (ad 255), .ref (ad 256), .ref (ad 257), .ref (ad 258), .ref (ad 259), .int (nI (v 0)), .int (nI (v 1)), .int (u 6), .ref (ad 260), .int (nI (v 2)), .ref (ad 261), .int (nI (v 3)), .int (nI (p0 + 1 + 1 + 1 + 1 + 1 + (tkL (v 3) a (p0 + 1 + 1 + 1 + 1 + 1)))), .int (u 7), .ref (ad 262), .int (nI 114), .int (nI (v 5))]) := hm_F28.2
                refine w_top (y := nI 1) hr_F28 ?_
                refine lv_if_eq (tgt := 113) kx kb dX8_readsP_106 (by decide) (fun q => absurd q (by decide)) (fun _ => ?_)
                refine lv_iconst (v := nI 1) kx kb dX8_readsP_109 (by decide) ?_
                refine lv_goto (tgt := 114) kx kb dX8_readsP_110 (by decide) ?_
                exact w_zret X h (Or.inr (by decide)) (by have eq : fmP (v 3) a p0 = ((true, p0 + 1 + 1 + 1 + 1 + 1 + (tkL (v 3) a (p0 + 1 + 1 + 1 + 1 + 1)), [(tkV (v 3) a (p0 + 1 + 1 + 1 + 1 + 1))]), nI 114) := (by rw [fmP, if_neg c_F2, mt_cy 114 (by decide) (by decide) c_F18, mt_cy 105 (by decide) (by decide) c_F20, mt_cy 109 (by decide) (by decide) c_F22, mt_cy 101 (by decide) (by decide) c_F24, mt_cy 32 (by decide) (by decide) c_F26, mt_ny c_F28, mt_0]); rw [eq]; exact ⟨bI_tn rfl, ⟨by omega, hF_29⟩, hM_F28, (fun i hi0 hi1 => (hg_F28 i (by omega) (by omega)).trans ((hf_F26 i (by omega)).trans ((hf_F24 i (by omega)).trans ((hf_F22 i (by omega)).trans ((hf_F20 i (by omega)).trans ((hf_F18 i (by omega)).trans ((hf_F17 i (by omega)).trans (hf_F2 i (by omega)))))))))⟩) dX8_readsP_114
              · obtain ⟨hr_F28, hm_F28, hM_F28⟩ := hp_F28.2.1 c_F28
                have hg_F28 := hp_F28.2.2
                have hF_30 : F28 254 = .inr (8, [.int (u 0), .int (u 1), .int (u 2), .int (u 3), .int (u 4), .int (u 5), .ref (ad 255), .ref (ad 256), .ref (ad 257), .ref (ad 258), .ref (ad 259), .int (nI (v 0)), .int (nI (v 1)), .int (u 6), .ref (ad 260), .int (nI (v 2)), .ref (ad 261), .int (nI (v 3)), .int (nI (p0 + 1 + 1 + 1 + 1 + 1)), .int (u 7), .ref (ad 262), .int (nI 114), .int (nI (v 5))]) := hm_F28.2
                refine w_top (y := nI 0) hr_F28 ?_
                refine lv_if_eq (tgt := 113) kx kb dX8_readsP_106 (by decide) (fun _ => ?_) (fun q => absurd (by decide) q)
                refine lv_iconst (v := nI 0) kx kb dX8_readsP_113 (by decide) ?_
                exact w_zret X h (Or.inl (by decide)) (by have eq : fmP (v 3) a p0 = ((false, p0 + 1 + 1 + 1 + 1 + 1, []), nI 114) := (by rw [fmP, if_neg c_F2, mt_cy 114 (by decide) (by decide) c_F18, mt_cy 105 (by decide) (by decide) c_F20, mt_cy 109 (by decide) (by decide) c_F22, mt_cy 101 (by decide) (by decide) c_F24, mt_cy 32 (by decide) (by decide) c_F26, mt_nn c_F28]); rw [eq]; exact ⟨bI_fn (show ¬ (false = true) by decide), ⟨by omega, hF_30⟩, hM_F28, (fun i hi0 hi1 => (hg_F28 i (by omega) (by omega)).trans ((hf_F26 i (by omega)).trans ((hf_F24 i (by omega)).trans ((hf_F22 i (by omega)).trans ((hf_F20 i (by omega)).trans ((hf_F18 i (by omega)).trans ((hf_F17 i (by omega)).trans (hf_F2 i (by omega)))))))))⟩) dX8_readsP_114
            · obtain ⟨hr_F26, hm_F26⟩ := hp_F26.2.1 c_F26
              have hf_F26 := hp_F26.2.2
              have hF_31 : F26 254 = .inr (8, [.int (u 0), .int (u 1), .int (u 2), .int (u 3), .int (u 4), .int (u 5), .ref (ad 255), .ref (ad 256), .ref (ad 257), .ref (ad 258), .ref (ad 259), .int (nI (v 0)), .int (nI (v 1)), .int (u 6), .ref (ad 260), .int (nI (v 2)), .ref (ad 261), .int (nI (v 3)), .int (nI (p0 + 1 + 1 + 1 + 1)), .int (u 7), .ref (ad 262), .int (nI 114), .int (nI (v 5))]) := hm_F26.2
              refine w_top (y := nI 0) hr_F26 ?_
              refine lv_if_eq (tgt := 113) kx kb dX8_readsP_98 (by decide) (fun _ => ?_) (fun q => absurd (by decide) q)
              refine lv_iconst (v := nI 0) kx kb dX8_readsP_113 (by decide) ?_
              exact w_zret X h (Or.inl (by decide)) (by have eq : fmP (v 3) a p0 = ((false, p0 + 1 + 1 + 1 + 1, []), nI 114) := (by rw [fmP, if_neg c_F2, mt_cy 114 (by decide) (by decide) c_F18, mt_cy 105 (by decide) (by decide) c_F20, mt_cy 109 (by decide) (by decide) c_F22, mt_cy 101 (by decide) (by decide) c_F24, mt_cn 32 (by decide) (by decide) c_F26]); rw [eq]; exact ⟨bI_fn (show ¬ (false = true) by decide), ⟨by omega, hF_31⟩, (((((((hM.fr (hf_F2 262 (by omega))).fr (hf_F17 262 (by omega))).fr (hf_F18 262 (by omega))).fr (hf_F20 262 (by omega))).fr (hf_F22 262 (by omega))).fr (hf_F24 262 (by omega))).fr (hf_F26 262 (by omega))), (fun i hi0 hi1 => (hf_F26 i (by omega)).trans ((hf_F24 i (by omega)).trans ((hf_F22 i (by omega)).trans ((hf_F20 i (by omega)).trans ((hf_F18 i (by omega)).trans ((hf_F17 i (by omega)).trans (hf_F2 i (by omega))))))))⟩) dX8_readsP_114
          · obtain ⟨hr_F24, hm_F24⟩ := hp_F24.2.1 c_F24
            have hf_F24 := hp_F24.2.2
            have hF_32 : F24 254 = .inr (8, [.int (u 0), .int (u 1), .int (u 2), .int (u 3), .int (u 4), .int (u 5), .ref (ad 255), .ref (ad 256), .ref (ad 257), .ref (ad 258), .ref (ad 259), .int (nI (v 0)), .int (nI (v 1)), .int (u 6), .ref (ad 260), .int (nI (v 2)), .ref (ad 261), .int (nI (v 3)), .int (nI (p0 + 1 + 1 + 1)), .int (u 7), .ref (ad 262), .int (nI 114), .int (nI (v 5))]) := hm_F24.2
            refine w_top (y := nI 0) hr_F24 ?_
            refine lv_if_eq (tgt := 113) kx kb dX8_readsP_89 (by decide) (fun _ => ?_) (fun q => absurd (by decide) q)
            refine lv_iconst (v := nI 0) kx kb dX8_readsP_113 (by decide) ?_
            exact w_zret X h (Or.inl (by decide)) (by have eq : fmP (v 3) a p0 = ((false, p0 + 1 + 1 + 1, []), nI 114) := (by rw [fmP, if_neg c_F2, mt_cy 114 (by decide) (by decide) c_F18, mt_cy 105 (by decide) (by decide) c_F20, mt_cy 109 (by decide) (by decide) c_F22, mt_cn 101 (by decide) (by decide) c_F24]); rw [eq]; exact ⟨bI_fn (show ¬ (false = true) by decide), ⟨by omega, hF_32⟩, ((((((hM.fr (hf_F2 262 (by omega))).fr (hf_F17 262 (by omega))).fr (hf_F18 262 (by omega))).fr (hf_F20 262 (by omega))).fr (hf_F22 262 (by omega))).fr (hf_F24 262 (by omega))), (fun i hi0 hi1 => (hf_F24 i (by omega)).trans ((hf_F22 i (by omega)).trans ((hf_F20 i (by omega)).trans ((hf_F18 i (by omega)).trans ((hf_F17 i (by omega)).trans (hf_F2 i (by omega)))))))⟩) dX8_readsP_114
        · obtain ⟨hr_F22, hm_F22⟩ := hp_F22.2.1 c_F22
          have hf_F22 := hp_F22.2.2
          have hF_33 : F22 254 = .inr (8, [.int (u 0), .int (u 1), .int (u 2), .int (u 3), .int (u 4), .int (u 5), .ref (ad 255), .ref (ad 256), .ref (ad 257), .ref (ad 258), .ref (ad 259), .int (nI (v 0)), .int (nI (v 1)), .int (u 6), .ref (ad 260), .int (nI (v 2)), .ref (ad 261), .int (nI (v 3)), .int (nI (p0 + 1 + 1)), .int (u 7), .ref (ad 262), .int (nI 114), .int (nI (v 5))]) := hm_F22.2
          refine w_top (y := nI 0) hr_F22 ?_
          refine lv_if_eq (tgt := 113) kx kb dX8_readsP_80 (by decide) (fun _ => ?_) (fun q => absurd (by decide) q)
          refine lv_iconst (v := nI 0) kx kb dX8_readsP_113 (by decide) ?_
          exact w_zret X h (Or.inl (by decide)) (by have eq : fmP (v 3) a p0 = ((false, p0 + 1 + 1, []), nI 114) := (by rw [fmP, if_neg c_F2, mt_cy 114 (by decide) (by decide) c_F18, mt_cy 105 (by decide) (by decide) c_F20, mt_cn 109 (by decide) (by decide) c_F22]); rw [eq]; exact ⟨bI_fn (show ¬ (false = true) by decide), ⟨by omega, hF_33⟩, (((((hM.fr (hf_F2 262 (by omega))).fr (hf_F17 262 (by omega))).fr (hf_F18 262 (by omega))).fr (hf_F20 262 (by omega))).fr (hf_F22 262 (by omega))), (fun i hi0 hi1 => (hf_F22 i (by omega)).trans ((hf_F20 i (by omega)).trans ((hf_F18 i (by omega)).trans ((hf_F17 i (by omega)).trans (hf_F2 i (by omega))))))⟩) dX8_readsP_114
      · obtain ⟨hr_F20, hm_F20⟩ := hp_F20.2.1 c_F20
        have hf_F20 := hp_F20.2.2
        have hF_34 : F20 254 = .inr (8, [.int (u 0), .int (u 1), .int (u 2), .int (u 3), .int (u 4), .int (u 5), .ref (ad 255), .ref (ad 256), .ref (ad 257), .ref (ad 258), .ref (ad 259), .int (nI (v 0)), .int (nI (v 1)), .int (u 6), .ref (ad 260), .int (nI (v 2)), .ref (ad 261), .int (nI (v 3)), .int (nI (p0 + 1)), .int (u 7), .ref (ad 262), .int (nI 114), .int (nI (v 5))]) := hm_F20.2
        refine w_top (y := nI 0) hr_F20 ?_
        refine lv_if_eq (tgt := 113) kx kb dX8_readsP_71 (by decide) (fun _ => ?_) (fun q => absurd (by decide) q)
        refine lv_iconst (v := nI 0) kx kb dX8_readsP_113 (by decide) ?_
        exact w_zret X h (Or.inl (by decide)) (by have eq : fmP (v 3) a p0 = ((false, p0 + 1, []), nI 114) := (by rw [fmP, if_neg c_F2, mt_cy 114 (by decide) (by decide) c_F18, mt_cn 105 (by decide) (by decide) c_F20]); rw [eq]; exact ⟨bI_fn (show ¬ (false = true) by decide), ⟨by omega, hF_34⟩, ((((hM.fr (hf_F2 262 (by omega))).fr (hf_F17 262 (by omega))).fr (hf_F18 262 (by omega))).fr (hf_F20 262 (by omega))), (fun i hi0 hi1 => (hf_F20 i (by omega)).trans ((hf_F18 i (by omega)).trans ((hf_F17 i (by omega)).trans (hf_F2 i (by omega)))))⟩) dX8_readsP_114
    · obtain ⟨hr_F18, hm_F18⟩ := hp_F18.2.1 c_F18
      have hf_F18 := hp_F18.2.2
      have hF_35 : F18 254 = .inr (8, [.int (u 0), .int (u 1), .int (u 2), .int (u 3), .int (u 4), .int (u 5), .ref (ad 255), .ref (ad 256), .ref (ad 257), .ref (ad 258), .ref (ad 259), .int (nI (v 0)), .int (nI (v 1)), .int (u 6), .ref (ad 260), .int (nI (v 2)), .ref (ad 261), .int (nI (v 3)), .int (nI p0), .int (u 7), .ref (ad 262), .int (nI 114), .int (nI (v 5))]) := hm_F18.2
      refine w_top (y := nI 0) hr_F18 ?_
      refine lv_if_eq (tgt := 113) kx kb dX8_readsP_62 (by decide) (fun _ => ?_) (fun q => absurd (by decide) q)
      refine lv_iconst (v := nI 0) kx kb dX8_readsP_113 (by decide) ?_
      exact w_zret X h (Or.inl (by decide)) (by have eq : fmP (v 3) a p0 = ((false, p0, []), nI 114) := (by rw [fmP, if_neg c_F2, mt_cn 114 (by decide) (by decide) c_F18]); rw [eq]; exact ⟨bI_fn (show ¬ (false = true) by decide), ⟨by omega, hF_35⟩, (((hM.fr (hf_F2 262 (by omega))).fr (hf_F17 262 (by omega))).fr (hf_F18 262 (by omega))), (fun i hi0 hi1 => (hf_F18 i (by omega)).trans ((hf_F17 i (by omega)).trans (hf_F2 i (by omega))))⟩) dX8_readsP_114
set_option maxRecDepth 20000 in
theorem c_X8_readsD (l : Launch) (g : gT) {N : Nat} {ad : Nat → Nat} {F : Nat → va_E} (u : Nat → Int32) (v : Nat → Nat) (p0 : Nat) (a nm : Nat → Int32) (hm : oM g N ad F (uSo u (nI 100)) (vAt v p0)) (h3 : v 3 ≤ 60) (hp0 : p0 ≤ v 3) (hA : arC g F 261 60 a) (hM : arI g F 262 4 nm)  : CtI l yX8_readsD cX8_readsD 1 (some .boolean) 3 64 g N ad F [.ref (ad 254)] (fun r F' => r = bI ((fmD (v 3) a p0).1.1 = true) ∧ oM g N ad F' (uSo u (fmD (v 3) a p0).2) (vAt v (fmD (v 3) a p0).1.2.1) ∧ arI g F' 262 4 (nmP nm 0 (fmD (v 3) a p0).1.2.2) ∧ ∀ i, i ≠ 254 → i ≠ 262 → F' i = F i) := by
  refine CtI_of (by decide) (Nat.le_of_ble_eq_true rfl) ?_
  intro p e s m args below meth c A H ls X M h hl
  have kx := X.1.1
  have kb := X.1.2.1
  have hl : lv_has ls 1 [(0, .ref (ad 254))] := hl
  have hN0 := hm.1
  have hF_1 : F 254 = .inr (8, [.int (u 0), .int (u 1), .int (u 2), .int (u 3), .int (u 4), .int (u 5), .ref (ad 255), .ref (ad 256), .ref (ad 257), .ref (ad 258), .ref (ad 259), .int (nI (v 0)), .int (nI (v 1)), .int (u 6), .ref (ad 260), .int (nI (v 2)), .ref (ad 261), .int (nI (v 3)), .int (nI p0), .int (u 7), .ref (ad 262), .int (nI 100), .int (nI (v 5))]) := hm.2
  refine lv_aload_n kx kb dX8_readsD_0 rfl (lv_at hl 0 rfl) ?_
  refine lv_bipush (v := nI 114) kx kb dX8_readsD_1 (by decide) ?_
  refine w_callVi X M h [.int (nI 114)] [] ((c_X8_reads l g u v p0 (nI 100) a nm (⟨by omega, hF_1⟩) h3 (by omega) hA hM 114 (by decide))) lk_X8_242 hF_1 (by omega) rfl rfl ⟨by decide, by decide⟩ hl ⟨Nat.zero_le _, Nat.zero_le _⟩ (Nat.le_of_ble_eq_true rfl) rfl dX8_readsD_3 (fun r_F2 F2 H locs hp_F2 h => ?_)
  by_cases c_F2 : sgN (v 3) a p0 = nI 114
  · obtain ⟨hr_F2, hm_F2⟩ := hp_F2.1 c_F2
    have hf_F2 := hp_F2.2.2
    have hq_F2 : p0 + 1 ≤ v 3 := sgN_lt (by decide) c_F2
    have hF_3 : F2 254 = .inr (8, [.int (u 0), .int (u 1), .int (u 2), .int (u 3), .int (u 4), .int (u 5), .ref (ad 255), .ref (ad 256), .ref (ad 257), .ref (ad 258), .ref (ad 259), .int (nI (v 0)), .int (nI (v 1)), .int (u 6), .ref (ad 260), .int (nI (v 2)), .ref (ad 261), .int (nI (v 3)), .int (nI (p0 + 1)), .int (u 7), .ref (ad 262), .int (nI 100), .int (nI (v 5))]) := hm_F2.2
    refine w_top (y := nI 1) hr_F2 ?_
    refine lv_if_ne (tgt := 11) kx kb dX8_readsD_6 (by decide) (fun _ => ?_) (fun q => absurd q (by decide))
    refine lv_aload_n kx kb dX8_readsD_11 rfl (lv_at hl 0 rfl) ?_
    refine lv_bipush (v := nI 97) kx kb dX8_readsD_12 (by decide) ?_
    refine w_callVi X M h [.int (nI 97)] [] ((c_X8_reads l g u v (p0 + 1) (nI 100) a nm (⟨by omega, hF_3⟩) h3 (by omega) (hA.fr (hf_F2 261 (by omega))) (hM.fr (hf_F2 262 (by omega))) 97 (by decide))) lk_X8_242 hF_3 (by omega) rfl rfl ⟨by decide, by decide⟩ hl ⟨Nat.zero_le _, Nat.zero_le _⟩ (Nat.le_of_ble_eq_true rfl) rfl dX8_readsD_14 (fun r_F4 F4 H locs hp_F4 h => ?_)
    by_cases c_F4 : sgN (v 3) a (p0 + 1) = nI 97
    · obtain ⟨hr_F4, hm_F4⟩ := hp_F4.1 c_F4
      have hf_F4 := hp_F4.2.2
      have hq_F4 : p0 + 1 + 1 ≤ v 3 := sgN_lt (by decide) c_F4
      have hF_5 : F4 254 = .inr (8, [.int (u 0), .int (u 1), .int (u 2), .int (u 3), .int (u 4), .int (u 5), .ref (ad 255), .ref (ad 256), .ref (ad 257), .ref (ad 258), .ref (ad 259), .int (nI (v 0)), .int (nI (v 1)), .int (u 6), .ref (ad 260), .int (nI (v 2)), .ref (ad 261), .int (nI (v 3)), .int (nI (p0 + 1 + 1)), .int (u 7), .ref (ad 262), .int (nI 100), .int (nI (v 5))]) := hm_F4.2
      refine w_top (y := nI 1) hr_F4 ?_
      refine lv_if_eq (tgt := 61) kx kb dX8_readsD_17 (by decide) (fun q => absurd q (by decide)) (fun _ => ?_)
      refine lv_aload_n kx kb dX8_readsD_20 rfl (lv_at hl 0 rfl) ?_
      refine lv_bipush (v := nI 105) kx kb dX8_readsD_21 (by decide) ?_
      refine w_callVi X M h [.int (nI 105)] [] ((c_X8_reads l g u v (p0 + 1 + 1) (nI 100) a nm (⟨by omega, hF_5⟩) h3 (by omega) ((hA.fr (hf_F2 261 (by omega))).fr (hf_F4 261 (by omega))) ((hM.fr (hf_F2 262 (by omega))).fr (hf_F4 262 (by omega))) 105 (by decide))) lk_X8_242 hF_5 (by omega) rfl rfl ⟨by decide, by decide⟩ hl ⟨Nat.zero_le _, Nat.zero_le _⟩ (Nat.le_of_ble_eq_true rfl) rfl dX8_readsD_23 (fun r_F6 F6 H locs hp_F6 h => ?_)
      by_cases c_F6 : sgN (v 3) a (p0 + 1 + 1) = nI 105
      · obtain ⟨hr_F6, hm_F6⟩ := hp_F6.1 c_F6
        have hf_F6 := hp_F6.2.2
        have hq_F6 : p0 + 1 + 1 + 1 ≤ v 3 := sgN_lt (by decide) c_F6
        have hF_7 : F6 254 = .inr (8, [.int (u 0), .int (u 1), .int (u 2), .int (u 3), .int (u 4), .int (u 5), .ref (ad 255), .ref (ad 256), .ref (ad 257), .ref (ad 258), .ref (ad 259), .int (nI (v 0)), .int (nI (v 1)), .int (u 6), .ref (ad 260), .int (nI (v 2)), .ref (ad 261), .int (nI (v 3)), .int (nI (p0 + 1 + 1 + 1)), .int (u 7), .ref (ad 262), .int (nI 100), .int (nI (v 5))]) := hm_F6.2
        refine w_top (y := nI 1) hr_F6 ?_
        refine lv_if_eq (tgt := 59) kx kb dX8_readsD_26 (by decide) (fun q => absurd q (by decide)) (fun _ => ?_)
        refine lv_aload_n kx kb dX8_readsD_29 rfl (lv_at hl 0 rfl) ?_
        refine lv_bipush (v := nI 110) kx kb dX8_readsD_30 (by decide) ?_
        refine w_callVi X M h [.int (nI 110)] [] ((c_X8_reads l g u v (p0 + 1 + 1 + 1) (nI 100) a nm (⟨by omega, hF_7⟩) h3 (by omega) (((hA.fr (hf_F2 261 (by omega))).fr (hf_F4 261 (by omega))).fr (hf_F6 261 (by omega))) (((hM.fr (hf_F2 262 (by omega))).fr (hf_F4 262 (by omega))).fr (hf_F6 262 (by omega))) 110 (by decide))) lk_X8_242 hF_7 (by omega) rfl rfl ⟨by decide, by decide⟩ hl ⟨Nat.zero_le _, Nat.zero_le _⟩ (Nat.le_of_ble_eq_true rfl) rfl dX8_readsD_32 (fun r_F8 F8 H locs hp_F8 h => ?_)
        by_cases c_F8 : sgN (v 3) a (p0 + 1 + 1 + 1) = nI 110
        · obtain ⟨hr_F8, hm_F8⟩ := hp_F8.1 c_F8
          have hf_F8 := hp_F8.2.2
          have hq_F8 : p0 + 1 + 1 + 1 + 1 ≤ v 3 := sgN_lt (by decide) c_F8
          have hF_9 : F8 254 = .inr (8, [.int (u 0), .int (u 1), .int (u 2), .int (u 3), .int (u 4), .int (u 5), .ref (ad 255), .ref (ad 256), .ref (ad 257), .ref (ad 258), .ref (ad 259), .int (nI (v 0)), .int (nI (v 1)), .int (u 6), .ref (ad 260), .int (nI (v 2)), .ref (ad 261), .int (nI (v 3)), .int (nI (p0 + 1 + 1 + 1 + 1)), .int (u 7), .ref (ad 262), .int (nI 100), .int (nI (v 5))]) := hm_F8.2
          refine w_top (y := nI 1) hr_F8 ?_
          refine lv_if_eq (tgt := 59) kx kb dX8_readsD_35 (by decide) (fun q => absurd q (by decide)) (fun _ => ?_)
          refine lv_aload_n kx kb dX8_readsD_38 rfl (lv_at hl 0 rfl) ?_
          refine lv_bipush (v := nI 32) kx kb dX8_readsD_39 (by decide) ?_
          refine w_callVi X M h [.int (nI 32)] [] ((c_X8_reads l g u v (p0 + 1 + 1 + 1 + 1) (nI 100) a nm (⟨by omega, hF_9⟩) h3 (by omega) ((((hA.fr (hf_F2 261 (by omega))).fr (hf_F4 261 (by omega))).fr (hf_F6 261 (by omega))).fr (hf_F8 261 (by omega))) ((((hM.fr (hf_F2 262 (by omega))).fr (hf_F4 262 (by omega))).fr (hf_F6 262 (by omega))).fr (hf_F8 262 (by omega))) 32 (by decide))) lk_X8_242 hF_9 (by omega) rfl rfl ⟨by decide, by decide⟩ hl ⟨Nat.zero_le _, Nat.zero_le _⟩ (Nat.le_of_ble_eq_true rfl) rfl dX8_readsD_41 (fun r_F10 F10 H locs hp_F10 h => ?_)
          by_cases c_F10 : sgN (v 3) a (p0 + 1 + 1 + 1 + 1) = nI 32
          · obtain ⟨hr_F10, hm_F10⟩ := hp_F10.1 c_F10
            have hf_F10 := hp_F10.2.2
            have hq_F10 : p0 + 1 + 1 + 1 + 1 + 1 ≤ v 3 := sgN_lt (by decide) c_F10
            have hF_11 : F10 254 = .inr (8, [.int (u 0), .int (u 1), .int (u 2), .int (u 3), .int (u 4), .int (u 5), .ref (ad 255), .ref (ad 256), .ref (ad 257), .ref (ad 258), .ref (ad 259), .int (nI (v 0)), .int (nI (v 1)), .int (u 6), .ref (ad 260), .int (nI (v 2)), .ref (ad 261), .int (nI (v 3)), .int (nI (p0 + 1 + 1 + 1 + 1 + 1)), .int (u 7), .ref (ad 262), .int (nI 100), .int (nI (v 5))]) := hm_F10.2
            refine w_top (y := nI 1) hr_F10 ?_
            refine lv_if_eq (tgt := 59) kx kb dX8_readsD_44 (by decide) (fun q => absurd q (by decide)) (fun _ => ?_)
            refine lv_aload_n kx kb dX8_readsD_47 rfl (lv_at hl 0 rfl) ?_
            refine lv_iconst (v := nI 0) kx kb dX8_readsD_48 (by decide) ?_
            refine w_callVi X M h [.int (nI 0)] [] ((c_X8_readsNumber l g u v (p0 + 1 + 1 + 1 + 1 + 1) (nI 100) a nm (⟨by omega, hF_11⟩) h3 (by omega) (((((hA.fr (hf_F2 261 (by omega))).fr (hf_F4 261 (by omega))).fr (hf_F6 261 (by omega))).fr (hf_F8 261 (by omega))).fr (hf_F10 261 (by omega))) (((((hM.fr (hf_F2 262 (by omega))).fr (hf_F4 262 (by omega))).fr (hf_F6 262 (by omega))).fr (hf_F8 262 (by omega))).fr (hf_F10 262 (by omega))) 0 (by omega))) lk_X8_245 hF_11 (by omega) rfl rfl ⟨by decide, by decide⟩ hl ⟨Nat.zero_le _, Nat.zero_le _⟩ (Nat.le_of_ble_eq_true rfl) rfl dX8_readsD_49 (fun r_F12 F12 H locs hp_F12 h => ?_)
            by_cases c_F12 : tkL (v 3) a (p0 + 1 + 1 + 1 + 1 + 1) ≠ 0
            · obtain ⟨hr_F12, hm_F12, hM_F12⟩ := hp_F12.1 c_F12
              have hg_F12 := hp_F12.2.2
              have hq_F12 : p0 + 1 + 1 + 1 + 1 + 1 + tkL (v 3) a (p0 + 1 + 1 + 1 + 1 + 1) ≤ v 3 := tkL_le (by omega)
              have hF_13 : F12 254 = .inr (8, [.int (u 0), .int (u 1), .int (u 2), .int (u 3), .int (u 4), .int (u 5), .ref (ad 255), .ref (ad 256), .ref (ad 257), .ref (ad 258), .ref (ad 259), .int (nI (v 0)), .int (nI (v 1)), .int (u 6), .ref (ad 260), .int (nI (v 2)), .ref (ad 261), .int (nI (v 3)), .int (nI (p0 + 1 + 1 + 1 + 1 + 1 + (tkL (v 3) a (p0 + 1 + 1 + 1 + 1 + 1)))), .int (u 7), .ref (ad 262), .int (nI 100), .int (nI (v 5))]) := hm_F12.2
              refine w_top (y := nI 1) hr_F12 ?_
              refine lv_if_eq (tgt := 59) kx kb dX8_readsD_52 (by decide) (fun q => absurd q (by decide)) (fun _ => ?_)
              refine lv_iconst (v := nI 1) kx kb dX8_readsD_55 (by decide) ?_
              refine lv_goto (tgt := 60) kx kb dX8_readsD_56 (by decide) ?_
              exact w_zret X h (Or.inr (by decide)) (by have eq : fmD (v 3) a p0 = ((true, p0 + 1 + 1 + 1 + 1 + 1 + (tkL (v 3) a (p0 + 1 + 1 + 1 + 1 + 1)), [(tkV (v 3) a (p0 + 1 + 1 + 1 + 1 + 1))]), nI 100) := (by rw [fmD, if_pos c_F2, if_pos c_F4, mt_cy 105 (by decide) (by decide) c_F6, mt_cy 110 (by decide) (by decide) c_F8, mt_cy 32 (by decide) (by decide) c_F10, mt_ny c_F12, mt_0]); rw [eq]; exact ⟨bI_tn rfl, ⟨by omega, hF_13⟩, hM_F12, (fun i hi0 hi1 => (hg_F12 i (by omega) (by omega)).trans ((hf_F10 i (by omega)).trans ((hf_F8 i (by omega)).trans ((hf_F6 i (by omega)).trans ((hf_F4 i (by omega)).trans (hf_F2 i (by omega)))))))⟩) dX8_readsD_60
            · obtain ⟨hr_F12, hm_F12, hM_F12⟩ := hp_F12.2.1 c_F12
              have hg_F12 := hp_F12.2.2
              have hF_14 : F12 254 = .inr (8, [.int (u 0), .int (u 1), .int (u 2), .int (u 3), .int (u 4), .int (u 5), .ref (ad 255), .ref (ad 256), .ref (ad 257), .ref (ad 258), .ref (ad 259), .int (nI (v 0)), .int (nI (v 1)), .int (u 6), .ref (ad 260), .int (nI (v 2)), .ref (ad 261), .int (nI (v 3)), .int (nI (p0 + 1 + 1 + 1 + 1 + 1)), .int (u 7), .ref (ad 262), .int (nI 100), .int (nI (v 5))]) := hm_F12.2
              refine w_top (y := nI 0) hr_F12 ?_
              refine lv_if_eq (tgt := 59) kx kb dX8_readsD_52 (by decide) (fun _ => ?_) (fun q => absurd (by decide) q)
              refine lv_iconst (v := nI 0) kx kb dX8_readsD_59 (by decide) ?_
              exact w_zret X h (Or.inl (by decide)) (by have eq : fmD (v 3) a p0 = ((false, p0 + 1 + 1 + 1 + 1 + 1, []), nI 100) := (by rw [fmD, if_pos c_F2, if_pos c_F4, mt_cy 105 (by decide) (by decide) c_F6, mt_cy 110 (by decide) (by decide) c_F8, mt_cy 32 (by decide) (by decide) c_F10, mt_nn c_F12]); rw [eq]; exact ⟨bI_fn (show ¬ (false = true) by decide), ⟨by omega, hF_14⟩, hM_F12, (fun i hi0 hi1 => (hg_F12 i (by omega) (by omega)).trans ((hf_F10 i (by omega)).trans ((hf_F8 i (by omega)).trans ((hf_F6 i (by omega)).trans ((hf_F4 i (by omega)).trans (hf_F2 i (by omega)))))))⟩) dX8_readsD_60
          · obtain ⟨hr_F10, hm_F10⟩ := hp_F10.2.1 c_F10
            have hf_F10 := hp_F10.2.2
            have hF_15 : F10 254 = .inr (8, [.int (u 0), .int (u 1), .int (u 2), .int (u 3), .int (u 4), .int (u 5), .ref (ad 255), .ref (ad 256), .ref (ad 257), .ref (ad 258), .ref (ad 259), .int (nI (v 0)), .int (nI (v 1)), .int (u 6), .ref (ad 260), .int (nI (v 2)), .ref (ad 261), .int (nI (v 3)), .int (nI (p0 + 1 + 1 + 1 + 1)), .int (u 7), .ref (ad 262), .int (nI 100), .int (nI (v 5))]) := hm_F10.2
            refine w_top (y := nI 0) hr_F10 ?_
            refine lv_if_eq (tgt := 59) kx kb dX8_readsD_44 (by decide) (fun _ => ?_) (fun q => absurd (by decide) q)
            refine lv_iconst (v := nI 0) kx kb dX8_readsD_59 (by decide) ?_
            exact w_zret X h (Or.inl (by decide)) (by have eq : fmD (v 3) a p0 = ((false, p0 + 1 + 1 + 1 + 1, []), nI 100) := (by rw [fmD, if_pos c_F2, if_pos c_F4, mt_cy 105 (by decide) (by decide) c_F6, mt_cy 110 (by decide) (by decide) c_F8, mt_cn 32 (by decide) (by decide) c_F10]); rw [eq]; exact ⟨bI_fn (show ¬ (false = true) by decide), ⟨by omega, hF_15⟩, (((((hM.fr (hf_F2 262 (by omega))).fr (hf_F4 262 (by omega))).fr (hf_F6 262 (by omega))).fr (hf_F8 262 (by omega))).fr (hf_F10 262 (by omega))), (fun i hi0 hi1 => (hf_F10 i (by omega)).trans ((hf_F8 i (by omega)).trans ((hf_F6 i (by omega)).trans ((hf_F4 i (by omega)).trans (hf_F2 i (by omega))))))⟩) dX8_readsD_60
        · obtain ⟨hr_F8, hm_F8⟩ := hp_F8.2.1 c_F8
          have hf_F8 := hp_F8.2.2
          have hF_16 : F8 254 = .inr (8, [.int (u 0), .int (u 1), .int (u 2), .int (u 3), .int (u 4), .int (u 5), .ref (ad 255), .ref (ad 256), .ref (ad 257), .ref (ad 258), .ref (ad 259), .int (nI (v 0)), .int (nI (v 1)), .int (u 6), .ref (ad 260), .int (nI (v 2)), .ref (ad 261), .int (nI (v 3)), .int (nI (p0 + 1 + 1 + 1)), .int (u 7), .ref (ad 262), .int (nI 100), .int (nI (v 5))]) := hm_F8.2
          refine w_top (y := nI 0) hr_F8 ?_
          refine lv_if_eq (tgt := 59) kx kb dX8_readsD_35 (by decide) (fun _ => ?_) (fun q => absurd (by decide) q)
          refine lv_iconst (v := nI 0) kx kb dX8_readsD_59 (by decide) ?_
          exact w_zret X h (Or.inl (by decide)) (by have eq : fmD (v 3) a p0 = ((false, p0 + 1 + 1 + 1, []), nI 100) := (by rw [fmD, if_pos c_F2, if_pos c_F4, mt_cy 105 (by decide) (by decide) c_F6, mt_cn 110 (by decide) (by decide) c_F8]); rw [eq]; exact ⟨bI_fn (show ¬ (false = true) by decide), ⟨by omega, hF_16⟩, ((((hM.fr (hf_F2 262 (by omega))).fr (hf_F4 262 (by omega))).fr (hf_F6 262 (by omega))).fr (hf_F8 262 (by omega))), (fun i hi0 hi1 => (hf_F8 i (by omega)).trans ((hf_F6 i (by omega)).trans ((hf_F4 i (by omega)).trans (hf_F2 i (by omega)))))⟩) dX8_readsD_60
      · obtain ⟨hr_F6, hm_F6⟩ := hp_F6.2.1 c_F6
        have hf_F6 := hp_F6.2.2
        have hF_17 : F6 254 = .inr (8, [.int (u 0), .int (u 1), .int (u 2), .int (u 3), .int (u 4), .int (u 5), .ref (ad 255), .ref (ad 256), .ref (ad 257), .ref (ad 258), .ref (ad 259), .int (nI (v 0)), .int (nI (v 1)), .int (u 6), .ref (ad 260), .int (nI (v 2)), .ref (ad 261), .int (nI (v 3)), .int (nI (p0 + 1 + 1)), .int (u 7), .ref (ad 262), .int (nI 100), .int (nI (v 5))]) := hm_F6.2
        refine w_top (y := nI 0) hr_F6 ?_
        refine lv_if_eq (tgt := 59) kx kb dX8_readsD_26 (by decide) (fun _ => ?_) (fun q => absurd (by decide) q)
        refine lv_iconst (v := nI 0) kx kb dX8_readsD_59 (by decide) ?_
        exact w_zret X h (Or.inl (by decide)) (by have eq : fmD (v 3) a p0 = ((false, p0 + 1 + 1, []), nI 100) := (by rw [fmD, if_pos c_F2, if_pos c_F4, mt_cn 105 (by decide) (by decide) c_F6]); rw [eq]; exact ⟨bI_fn (show ¬ (false = true) by decide), ⟨by omega, hF_17⟩, (((hM.fr (hf_F2 262 (by omega))).fr (hf_F4 262 (by omega))).fr (hf_F6 262 (by omega))), (fun i hi0 hi1 => (hf_F6 i (by omega)).trans ((hf_F4 i (by omega)).trans (hf_F2 i (by omega))))⟩) dX8_readsD_60
    · obtain ⟨hr_F4, hm_F4⟩ := hp_F4.2.1 c_F4
      have hf_F4 := hp_F4.2.2
      have hF_18 : F4 254 = .inr (8, [.int (u 0), .int (u 1), .int (u 2), .int (u 3), .int (u 4), .int (u 5), .ref (ad 255), .ref (ad 256), .ref (ad 257), .ref (ad 258), .ref (ad 259), .int (nI (v 0)), .int (nI (v 1)), .int (u 6), .ref (ad 260), .int (nI (v 2)), .ref (ad 261), .int (nI (v 3)), .int (nI (p0 + 1)), .int (u 7), .ref (ad 262), .int (nI 100), .int (nI (v 5))]) := hm_F4.2
      refine w_top (y := nI 0) hr_F4 ?_
      refine lv_if_eq (tgt := 61) kx kb dX8_readsD_17 (by decide) (fun _ => ?_) (fun q => absurd (by decide) q)
      refine lv_aload_n kx kb dX8_readsD_61 rfl (lv_at hl 0 rfl) ?_
      refine lv_bipush (v := nI 111) kx kb dX8_readsD_62 (by decide) ?_
      refine w_put X M h 254 hF_18 (by omega) fp_X8_248 (rfl) (by rfl) (Nat.le_of_ble_eq_true rfl) dX8_readsD_64 (fun F19 H locs h he_F19 hf_F19 => ?_)
      refine lv_aload_n kx kb dX8_readsD_67 rfl (lv_at hl 0 rfl) ?_
      refine lv_bipush (v := nI 111) kx kb dX8_readsD_68 (by decide) ?_
      refine w_callVi X M h [.int (nI 111)] [] ((c_X8_reads l g u v (p0 + 1) (nI 111) a nm (⟨by omega, he_F19⟩) h3 (by omega) (((hA.fr (hf_F2 261 (by omega))).fr (hf_F4 261 (by omega))).fr (hf_F19 261 (by omega))) (((hM.fr (hf_F2 262 (by omega))).fr (hf_F4 262 (by omega))).fr (hf_F19 262 (by omega))) 111 (by decide))) lk_X8_242 he_F19 (by omega) rfl rfl ⟨by decide, by decide⟩ hl ⟨Nat.zero_le _, Nat.zero_le _⟩ (Nat.le_of_ble_eq_true rfl) rfl dX8_readsD_70 (fun r_F20 F20 H locs hp_F20 h => ?_)
      by_cases c_F20 : sgN (v 3) a (p0 + 1) = nI 111
      · obtain ⟨hr_F20, hm_F20⟩ := hp_F20.1 c_F20
        have hf_F20 := hp_F20.2.2
        have hq_F20 : p0 + 1 + 1 ≤ v 3 := sgN_lt (by decide) c_F20
        have hF_21 : F20 254 = .inr (8, [.int (u 0), .int (u 1), .int (u 2), .int (u 3), .int (u 4), .int (u 5), .ref (ad 255), .ref (ad 256), .ref (ad 257), .ref (ad 258), .ref (ad 259), .int (nI (v 0)), .int (nI (v 1)), .int (u 6), .ref (ad 260), .int (nI (v 2)), .ref (ad 261), .int (nI (v 3)), .int (nI (p0 + 1 + 1)), .int (u 7), .ref (ad 262), .int (nI 111), .int (nI (v 5))]) := hm_F20.2
        refine w_top (y := nI 1) hr_F20 ?_
        refine lv_if_eq (tgt := 106) kx kb dX8_readsD_73 (by decide) (fun q => absurd q (by decide)) (fun _ => ?_)
        refine lv_aload_n kx kb dX8_readsD_76 rfl (lv_at hl 0 rfl) ?_
        refine lv_bipush (v := nI 112) kx kb dX8_readsD_77 (by decide) ?_
        refine w_callVi X M h [.int (nI 112)] [] ((c_X8_reads l g u v (p0 + 1 + 1) (nI 111) a nm (⟨by omega, hF_21⟩) h3 (by omega) ((((hA.fr (hf_F2 261 (by omega))).fr (hf_F4 261 (by omega))).fr (hf_F19 261 (by omega))).fr (hf_F20 261 (by omega))) ((((hM.fr (hf_F2 262 (by omega))).fr (hf_F4 262 (by omega))).fr (hf_F19 262 (by omega))).fr (hf_F20 262 (by omega))) 112 (by decide))) lk_X8_242 hF_21 (by omega) rfl rfl ⟨by decide, by decide⟩ hl ⟨Nat.zero_le _, Nat.zero_le _⟩ (Nat.le_of_ble_eq_true rfl) rfl dX8_readsD_79 (fun r_F22 F22 H locs hp_F22 h => ?_)
        by_cases c_F22 : sgN (v 3) a (p0 + 1 + 1) = nI 112
        · obtain ⟨hr_F22, hm_F22⟩ := hp_F22.1 c_F22
          have hf_F22 := hp_F22.2.2
          have hq_F22 : p0 + 1 + 1 + 1 ≤ v 3 := sgN_lt (by decide) c_F22
          have hF_23 : F22 254 = .inr (8, [.int (u 0), .int (u 1), .int (u 2), .int (u 3), .int (u 4), .int (u 5), .ref (ad 255), .ref (ad 256), .ref (ad 257), .ref (ad 258), .ref (ad 259), .int (nI (v 0)), .int (nI (v 1)), .int (u 6), .ref (ad 260), .int (nI (v 2)), .ref (ad 261), .int (nI (v 3)), .int (nI (p0 + 1 + 1 + 1)), .int (u 7), .ref (ad 262), .int (nI 111), .int (nI (v 5))]) := hm_F22.2
          refine w_top (y := nI 1) hr_F22 ?_
          refine lv_if_eq (tgt := 106) kx kb dX8_readsD_82 (by decide) (fun q => absurd q (by decide)) (fun _ => ?_)
          refine lv_aload_n kx kb dX8_readsD_85 rfl (lv_at hl 0 rfl) ?_
          refine lv_bipush (v := nI 32) kx kb dX8_readsD_86 (by decide) ?_
          refine w_callVi X M h [.int (nI 32)] [] ((c_X8_reads l g u v (p0 + 1 + 1 + 1) (nI 111) a nm (⟨by omega, hF_23⟩) h3 (by omega) (((((hA.fr (hf_F2 261 (by omega))).fr (hf_F4 261 (by omega))).fr (hf_F19 261 (by omega))).fr (hf_F20 261 (by omega))).fr (hf_F22 261 (by omega))) (((((hM.fr (hf_F2 262 (by omega))).fr (hf_F4 262 (by omega))).fr (hf_F19 262 (by omega))).fr (hf_F20 262 (by omega))).fr (hf_F22 262 (by omega))) 32 (by decide))) lk_X8_242 hF_23 (by omega) rfl rfl ⟨by decide, by decide⟩ hl ⟨Nat.zero_le _, Nat.zero_le _⟩ (Nat.le_of_ble_eq_true rfl) rfl dX8_readsD_88 (fun r_F24 F24 H locs hp_F24 h => ?_)
          by_cases c_F24 : sgN (v 3) a (p0 + 1 + 1 + 1) = nI 32
          · obtain ⟨hr_F24, hm_F24⟩ := hp_F24.1 c_F24
            have hf_F24 := hp_F24.2.2
            have hq_F24 : p0 + 1 + 1 + 1 + 1 ≤ v 3 := sgN_lt (by decide) c_F24
            have hF_25 : F24 254 = .inr (8, [.int (u 0), .int (u 1), .int (u 2), .int (u 3), .int (u 4), .int (u 5), .ref (ad 255), .ref (ad 256), .ref (ad 257), .ref (ad 258), .ref (ad 259), .int (nI (v 0)), .int (nI (v 1)), .int (u 6), .ref (ad 260), .int (nI (v 2)), .ref (ad 261), .int (nI (v 3)), .int (nI (p0 + 1 + 1 + 1 + 1)), .int (u 7), .ref (ad 262), .int (nI 111), .int (nI (v 5))]) := hm_F24.2
            refine w_top (y := nI 1) hr_F24 ?_
            refine lv_if_eq (tgt := 106) kx kb dX8_readsD_91 (by decide) (fun q => absurd q (by decide)) (fun _ => ?_)
            refine lv_aload_n kx kb dX8_readsD_94 rfl (lv_at hl 0 rfl) ?_
            refine lv_iconst (v := nI 0) kx kb dX8_readsD_95 (by decide) ?_
            refine w_callVi X M h [.int (nI 0)] [] ((c_X8_readsNumber l g u v (p0 + 1 + 1 + 1 + 1) (nI 111) a nm (⟨by omega, hF_25⟩) h3 (by omega) ((((((hA.fr (hf_F2 261 (by omega))).fr (hf_F4 261 (by omega))).fr (hf_F19 261 (by omega))).fr (hf_F20 261 (by omega))).fr (hf_F22 261 (by omega))).fr (hf_F24 261 (by omega))) ((((((hM.fr (hf_F2 262 (by omega))).fr (hf_F4 262 (by omega))).fr (hf_F19 262 (by omega))).fr (hf_F20 262 (by omega))).fr (hf_F22 262 (by omega))).fr (hf_F24 262 (by omega))) 0 (by omega))) lk_X8_245 hF_25 (by omega) rfl rfl ⟨by decide, by decide⟩ hl ⟨Nat.zero_le _, Nat.zero_le _⟩ (Nat.le_of_ble_eq_true rfl) rfl dX8_readsD_96 (fun r_F26 F26 H locs hp_F26 h => ?_)
            by_cases c_F26 : tkL (v 3) a (p0 + 1 + 1 + 1 + 1) ≠ 0
            · obtain ⟨hr_F26, hm_F26, hM_F26⟩ := hp_F26.1 c_F26
              have hg_F26 := hp_F26.2.2
              have hq_F26 : p0 + 1 + 1 + 1 + 1 + tkL (v 3) a (p0 + 1 + 1 + 1 + 1) ≤ v 3 := tkL_le (by omega)
              have hF_27 : F26 254 = .inr (8, [.int (u 0), .int (u 1), .int (u 2), .int (u 3), .int (u 4), .int (u 5), .ref (ad 255), .ref (ad 256), .ref (ad 257), .ref (ad 258), .ref (ad 259), .int (nI (v 0)), .int (nI (v 1)), .int (u 6), .ref (ad 260), .int (nI (v 2)), .ref (ad 261), .int (nI (v 3)), .int (nI (p0 + 1 + 1 + 1 + 1 + (tkL (v 3) a (p0 + 1 + 1 + 1 + 1)))), .int (u 7), .ref (ad 262), .int (nI 111), .int (nI (v 5))]) := hm_F26.2
              refine w_top (y := nI 1) hr_F26 ?_
              refine lv_if_eq (tgt := 106) kx kb dX8_readsD_99 (by decide) (fun q => absurd q (by decide)) (fun _ => ?_)
              refine lv_iconst (v := nI 1) kx kb dX8_readsD_102 (by decide) ?_
              refine lv_goto (tgt := 107) kx kb dX8_readsD_103 (by decide) ?_
              exact w_zret X h (Or.inr (by decide)) (by have eq : fmD (v 3) a p0 = ((true, p0 + 1 + 1 + 1 + 1 + (tkL (v 3) a (p0 + 1 + 1 + 1 + 1)), [(tkV (v 3) a (p0 + 1 + 1 + 1 + 1))]), nI 111) := (by rw [fmD, if_pos c_F2, if_neg c_F4, mt_cy 111 (by decide) (by decide) c_F20, mt_cy 112 (by decide) (by decide) c_F22, mt_cy 32 (by decide) (by decide) c_F24, mt_ny c_F26, mt_0]); rw [eq]; exact ⟨bI_tn rfl, ⟨by omega, hF_27⟩, hM_F26, (fun i hi0 hi1 => (hg_F26 i (by omega) (by omega)).trans ((hf_F24 i (by omega)).trans ((hf_F22 i (by omega)).trans ((hf_F20 i (by omega)).trans ((hf_F19 i (by omega)).trans ((hf_F4 i (by omega)).trans (hf_F2 i (by omega))))))))⟩) dX8_readsD_107
            · obtain ⟨hr_F26, hm_F26, hM_F26⟩ := hp_F26.2.1 c_F26
              have hg_F26 := hp_F26.2.2
              have hF_28 : F26 254 = .inr (8, [.int (u 0), .int (u 1), .int (u 2), .int (u 3), .int (u 4), .int (u 5), .ref (ad 255), .ref (ad 256), .ref (ad 257), .ref (ad 258), .ref (ad 259), .int (nI (v 0)), .int (nI (v 1)), .int (u 6), .ref (ad 260), .int (nI (v 2)), .ref (ad 261), .int (nI (v 3)), .int (nI (p0 + 1 + 1 + 1 + 1)), .int (u 7), .ref (ad 262), .int (nI 111), .int (nI (v 5))]) := hm_F26.2
              refine w_top (y := nI 0) hr_F26 ?_
              refine lv_if_eq (tgt := 106) kx kb dX8_readsD_99 (by decide) (fun _ => ?_) (fun q => absurd (by decide) q)
              refine lv_iconst (v := nI 0) kx kb dX8_readsD_106 (by decide) ?_
              exact w_zret X h (Or.inl (by decide)) (by have eq : fmD (v 3) a p0 = ((false, p0 + 1 + 1 + 1 + 1, []), nI 111) := (by rw [fmD, if_pos c_F2, if_neg c_F4, mt_cy 111 (by decide) (by decide) c_F20, mt_cy 112 (by decide) (by decide) c_F22, mt_cy 32 (by decide) (by decide) c_F24, mt_nn c_F26]); rw [eq]; exact ⟨bI_fn (show ¬ (false = true) by decide), ⟨by omega, hF_28⟩, hM_F26, (fun i hi0 hi1 => (hg_F26 i (by omega) (by omega)).trans ((hf_F24 i (by omega)).trans ((hf_F22 i (by omega)).trans ((hf_F20 i (by omega)).trans ((hf_F19 i (by omega)).trans ((hf_F4 i (by omega)).trans (hf_F2 i (by omega))))))))⟩) dX8_readsD_107
          · obtain ⟨hr_F24, hm_F24⟩ := hp_F24.2.1 c_F24
            have hf_F24 := hp_F24.2.2
            have hF_29 : F24 254 = .inr (8, [.int (u 0), .int (u 1), .int (u 2), .int (u 3), .int (u 4), .int (u 5), .ref (ad 255), .ref (ad 256), .ref (ad 257), .ref (ad 258), .ref (ad 259), .int (nI (v 0)), .int (nI (v 1)), .int (u 6), .ref (ad 260), .int (nI (v 2)), .ref (ad 261), .int (nI (v 3)), .int (nI (p0 + 1 + 1 + 1)), .int (u 7), .ref (ad 262), .int (nI 111), .int (nI (v 5))]) := hm_F24.2
            refine w_top (y := nI 0) hr_F24 ?_
            refine lv_if_eq (tgt := 106) kx kb dX8_readsD_91 (by decide) (fun _ => ?_) (fun q => absurd (by decide) q)
            refine lv_iconst (v := nI 0) kx kb dX8_readsD_106 (by decide) ?_
            exact w_zret X h (Or.inl (by decide)) (by have eq : fmD (v 3) a p0 = ((false, p0 + 1 + 1 + 1, []), nI 111) := (by rw [fmD, if_pos c_F2, if_neg c_F4, mt_cy 111 (by decide) (by decide) c_F20, mt_cy 112 (by decide) (by decide) c_F22, mt_cn 32 (by decide) (by decide) c_F24]); rw [eq]; exact ⟨bI_fn (show ¬ (false = true) by decide), ⟨by omega, hF_29⟩, ((((((hM.fr (hf_F2 262 (by omega))).fr (hf_F4 262 (by omega))).fr (hf_F19 262 (by omega))).fr (hf_F20 262 (by omega))).fr (hf_F22 262 (by omega))).fr (hf_F24 262 (by omega))), (fun i hi0 hi1 => (hf_F24 i (by omega)).trans ((hf_F22 i (by omega)).trans ((hf_F20 i (by omega)).trans ((hf_F19 i (by omega)).trans ((hf_F4 i (by omega)).trans (hf_F2 i (by omega)))))))⟩) dX8_readsD_107
        · obtain ⟨hr_F22, hm_F22⟩ := hp_F22.2.1 c_F22
          have hf_F22 := hp_F22.2.2
          have hF_30 : F22 254 = .inr (8, [.int (u 0), .int (u 1), .int (u 2), .int (u 3), .int (u 4), .int (u 5), .ref (ad 255), .ref (ad 256), .ref (ad 257), .ref (ad 258), .ref (ad 259), .int (nI (v 0)), .int (nI (v 1)), .int (u 6), .ref (ad 260), .int (nI (v 2)), .ref (ad 261), .int (nI (v 3)), .int (nI (p0 + 1 + 1)), .int (u 7), .ref (ad 262), .int (nI 111), .int (nI (v 5))]) := hm_F22.2
          refine w_top (y := nI 0) hr_F22 ?_
          refine lv_if_eq (tgt := 106) kx kb dX8_readsD_82 (by decide) (fun _ => ?_) (fun q => absurd (by decide) q)
          refine lv_iconst (v := nI 0) kx kb dX8_readsD_106 (by decide) ?_
          exact w_zret X h (Or.inl (by decide)) (by have eq : fmD (v 3) a p0 = ((false, p0 + 1 + 1, []), nI 111) := (by rw [fmD, if_pos c_F2, if_neg c_F4, mt_cy 111 (by decide) (by decide) c_F20, mt_cn 112 (by decide) (by decide) c_F22]); rw [eq]; exact ⟨bI_fn (show ¬ (false = true) by decide), ⟨by omega, hF_30⟩, (((((hM.fr (hf_F2 262 (by omega))).fr (hf_F4 262 (by omega))).fr (hf_F19 262 (by omega))).fr (hf_F20 262 (by omega))).fr (hf_F22 262 (by omega))), (fun i hi0 hi1 => (hf_F22 i (by omega)).trans ((hf_F20 i (by omega)).trans ((hf_F19 i (by omega)).trans ((hf_F4 i (by omega)).trans (hf_F2 i (by omega))))))⟩) dX8_readsD_107
      · obtain ⟨hr_F20, hm_F20⟩ := hp_F20.2.1 c_F20
        have hf_F20 := hp_F20.2.2
        have hF_31 : F20 254 = .inr (8, [.int (u 0), .int (u 1), .int (u 2), .int (u 3), .int (u 4), .int (u 5), .ref (ad 255), .ref (ad 256), .ref (ad 257), .ref (ad 258), .ref (ad 259), .int (nI (v 0)), .int (nI (v 1)), .int (u 6), .ref (ad 260), .int (nI (v 2)), .ref (ad 261), .int (nI (v 3)), .int (nI (p0 + 1)), .int (u 7), .ref (ad 262), .int (nI 111), .int (nI (v 5))]) := hm_F20.2
        refine w_top (y := nI 0) hr_F20 ?_
        refine lv_if_eq (tgt := 106) kx kb dX8_readsD_73 (by decide) (fun _ => ?_) (fun q => absurd (by decide) q)
        refine lv_iconst (v := nI 0) kx kb dX8_readsD_106 (by decide) ?_
        exact w_zret X h (Or.inl (by decide)) (by have eq : fmD (v 3) a p0 = ((false, p0 + 1, []), nI 111) := (by rw [fmD, if_pos c_F2, if_neg c_F4, mt_cn 111 (by decide) (by decide) c_F20]); rw [eq]; exact ⟨bI_fn (show ¬ (false = true) by decide), ⟨by omega, hF_31⟩, ((((hM.fr (hf_F2 262 (by omega))).fr (hf_F4 262 (by omega))).fr (hf_F19 262 (by omega))).fr (hf_F20 262 (by omega))), (fun i hi0 hi1 => (hf_F20 i (by omega)).trans ((hf_F19 i (by omega)).trans ((hf_F4 i (by omega)).trans (hf_F2 i (by omega)))))⟩) dX8_readsD_107
  · obtain ⟨hr_F2, hm_F2⟩ := hp_F2.2.1 c_F2
    have hf_F2 := hp_F2.2.2
    have hF_32 : F2 254 = .inr (8, [.int (u 0), .int (u 1), .int (u 2), .int (u 3), .int (u 4), .int (u 5), .ref (ad 255), .ref (ad 256), .ref (ad 257), .ref (ad 258), .ref (ad 259), .int (nI (v 0)), .int (nI (v 1)), .int (u 6), .ref (ad 260), .int (nI (v 2)), .ref (ad 261), .int (nI (v 3)), .int (nI p0), .int (u 7), .ref (ad 262), .int (nI 100), .int (nI (v 5))]) := hm_F2.2
    refine w_top (y := nI 0) hr_F2 ?_
    refine lv_if_ne (tgt := 11) kx kb dX8_readsD_6 (by decide) (fun q => absurd (by decide) q) (fun _ => ?_)
    refine lv_iconst (v := nI 0) kx kb dX8_readsD_9 (by decide) ?_
    exact w_zret X h (Or.inl (by decide)) (by have eq : fmD (v 3) a p0 = ((false, p0, []), nI 100) := (by rw [fmD, if_neg c_F2]); rw [eq]; exact ⟨bI_fn (show ¬ (false = true) by decide), ⟨by omega, hF_32⟩, (hM.fr (hf_F2 262 (by omega))), (fun i hi0 hi1 => hf_F2 i (by omega))⟩) dX8_readsD_10
set_option maxRecDepth 20000 in
theorem c_X8_readsCommand (l : Launch) (g : gT) {N : Nat} {ad : Nat → Nat} {F : Nat → va_E} (u : Nat → Int32) (v : Nat → Nat) (p0 : Nat) (so : Int32) (a nm : Nat → Int32) (hm : oM g N ad F (uSo u so) (vAt v p0)) (h3 : v 3 ≤ 60) (hp0 : p0 ≤ v 3) (hA : arC g F 261 60 a) (hM : arI g F 262 4 nm)  : CtI l yX8_readsCommand cX8_readsCommand 1 (some .boolean) 4 84 g N ad F [.ref (ad 254)] (fun r F' => r = bI ((cmR (v 3) a p0).1.1 = true) ∧ oM g N ad F' (uSo u (cmR (v 3) a p0).2) (vAt v (cmR (v 3) a p0).1.2.1) ∧ arI g F' 262 4 (nmP nm 0 (cmR (v 3) a p0).1.2.2) ∧ ∀ i, i ≠ 254 → i ≠ 262 → F' i = F i) := by
  refine CtI_of (by decide) (Nat.le_of_ble_eq_true rfl) ?_
  intro p e s m args below meth c A H ls X M h hl
  have kx := X.1.1
  have kb := X.1.2.1
  have hl : lv_has ls 1 [(0, .ref (ad 254))] := hl
  have hN0 := hm.1
  have hF_1 : F 254 = .inr (8, [.int (u 0), .int (u 1), .int (u 2), .int (u 3), .int (u 4), .int (u 5), .ref (ad 255), .ref (ad 256), .ref (ad 257), .ref (ad 258), .ref (ad 259), .int (nI (v 0)), .int (nI (v 1)), .int (u 6), .ref (ad 260), .int (nI (v 2)), .ref (ad 261), .int (nI (v 3)), .int (nI p0), .int (u 7), .ref (ad 262), .int so, .int (nI (v 5))]) := hm.2
  refine lv_aload_n kx kb dX8_readsCommand_0 rfl (lv_at hl 0 rfl) ?_
  refine lv_aload_n kx kb dX8_readsCommand_1 rfl (lv_at hl 0 rfl) ?_
  refine w_readVi X M h [] [.ref (ad 254)] ((c_X8_nextSign l g u v p0 so a nm (⟨by omega, hF_1⟩) h3 (by omega) hA hM)) lk_X8_236 hF_1 (by omega) rfl rfl ⟨by decide, by decide⟩ hl ⟨Nat.zero_le _, Nat.zero_le _⟩ (Nat.le_of_ble_eq_true rfl) rfl dX8_readsCommand_2 (fun H locs h => ?_)
  refine w_put X M h 254 hF_1 (by omega) fp_X8_248 (rfl) (by rfl) (Nat.le_of_ble_eq_true rfl) dX8_readsCommand_5 (fun F2 H locs h he_F2 hf_F2 => ?_)
  refine lv_aload_n kx kb dX8_readsCommand_8 rfl (lv_at hl 0 rfl) ?_
  refine lv_bipush (v := nI 106) kx kb dX8_readsCommand_9 (by decide) ?_
  refine w_callVi X M h [.int (nI 106)] [] ((c_X8_reads l g u v p0 (sgN (v 3) a p0) a nm (⟨by omega, he_F2⟩) h3 (by omega) (hA.fr (hf_F2 261 (by omega))) (hM.fr (hf_F2 262 (by omega))) 106 (by decide))) lk_X8_242 he_F2 (by omega) rfl rfl ⟨by decide, by decide⟩ hl ⟨Nat.zero_le _, Nat.zero_le _⟩ (Nat.le_of_ble_eq_true rfl) rfl dX8_readsCommand_11 (fun r_F3 F3 H locs hp_F3 h => ?_)
  by_cases c_F3 : sgN (v 3) a p0 = nI 106
  · obtain ⟨hr_F3, hm_F3⟩ := hp_F3.1 c_F3
    have hf_F3 := hp_F3.2.2
    have hq_F3 : p0 + 1 ≤ v 3 := sgN_lt (by decide) c_F3
    rw [c_F3] at hm_F3
    have hF_4 : F3 254 = .inr (8, [.int (u 0), .int (u 1), .int (u 2), .int (u 3), .int (u 4), .int (u 5), .ref (ad 255), .ref (ad 256), .ref (ad 257), .ref (ad 258), .ref (ad 259), .int (nI (v 0)), .int (nI (v 1)), .int (u 6), .ref (ad 260), .int (nI (v 2)), .ref (ad 261), .int (nI (v 3)), .int (nI (p0 + 1)), .int (u 7), .ref (ad 262), .int (nI 106), .int (nI (v 5))]) := hm_F3.2
    refine w_top (y := nI 1) hr_F3 ?_
    refine lv_if_eq (tgt := 22) kx kb dX8_readsCommand_14 (by decide) (fun q => absurd q (by decide)) (fun _ => ?_)
    refine lv_aload_n kx kb dX8_readsCommand_17 rfl (lv_at hl 0 rfl) ?_
    refine w_callVi X M h [] [] ((c_X8_readsJoke l g u v (p0 + 1) (nI 106) a nm (⟨by omega, hF_4⟩) h3 (by omega) ((hA.fr (hf_F2 261 (by omega))).fr (hf_F3 261 (by omega))) ((hM.fr (hf_F2 262 (by omega))).fr (hf_F3 262 (by omega))))) lk_X8_251 hF_4 (by omega) rfl rfl ⟨by decide, by decide⟩ hl ⟨Nat.zero_le _, Nat.zero_le _⟩ (Nat.le_of_ble_eq_true rfl) rfl dX8_readsCommand_18 (fun r_F5 F5 H locs hp_F5 h => ?_)
    obtain ⟨hr_F5, hm_F5, hM_F5, hg_F5⟩ := hp_F5
    have hF_6 : F5 254 = .inr (8, [.int (u 0), .int (u 1), .int (u 2), .int (u 3), .int (u 4), .int (u 5), .ref (ad 255), .ref (ad 256), .ref (ad 257), .ref (ad 258), .ref (ad 259), .int (nI (v 0)), .int (nI (v 1)), .int (u 6), .ref (ad 260), .int (nI (v 2)), .ref (ad 261), .int (nI (v 3)), .int (nI ((mt (v 3) a [111, 107, 101, 32, 35, 32, 37, 32, 37, 32, 35] (p0 + 1)).2.1)), .int (u 7), .ref (ad 262), .int (nI 106), .int (nI (v 5))]) := hm_F5.2
    refine w_top (y := bI ((mt (v 3) a [111, 107, 101, 32, 35, 32, 37, 32, 37, 32, 35] (p0 + 1)).1 = true)) hr_F5 ?_
    exact w_zret X h (bI_01 _) (by have eq : (cmR (v 3) a p0) = _ := (by rw [cmR, if_pos c_F3]); rw [eq]; exact ⟨rfl, ⟨by omega, hF_6⟩, hM_F5, (fun i hi0 hi1 => (hg_F5 i (by omega) (by omega)).trans ((hf_F3 i (by omega)).trans (hf_F2 i (by omega))))⟩) dX8_readsCommand_21
  · obtain ⟨hr_F3, hm_F3⟩ := hp_F3.2.1 c_F3
    have hf_F3 := hp_F3.2.2
    have hF_7 : F3 254 = .inr (8, [.int (u 0), .int (u 1), .int (u 2), .int (u 3), .int (u 4), .int (u 5), .ref (ad 255), .ref (ad 256), .ref (ad 257), .ref (ad 258), .ref (ad 259), .int (nI (v 0)), .int (nI (v 1)), .int (u 6), .ref (ad 260), .int (nI (v 2)), .ref (ad 261), .int (nI (v 3)), .int (nI p0), .int (u 7), .ref (ad 262), .int (sgN (v 3) a p0), .int (nI (v 5))]) := hm_F3.2
    refine w_top (y := nI 0) hr_F3 ?_
    refine lv_if_eq (tgt := 22) kx kb dX8_readsCommand_14 (by decide) (fun _ => ?_) (fun q => absurd (by decide) q)
    refine lv_aload_n kx kb dX8_readsCommand_22 rfl (lv_at hl 0 rfl) ?_
    refine lv_bipush (v := nI 112) kx kb dX8_readsCommand_23 (by decide) ?_
    refine w_callVi X M h [.int (nI 112)] [] ((c_X8_reads l g u v p0 (sgN (v 3) a p0) a nm (⟨by omega, hF_7⟩) h3 (by omega) ((hA.fr (hf_F2 261 (by omega))).fr (hf_F3 261 (by omega))) ((hM.fr (hf_F2 262 (by omega))).fr (hf_F3 262 (by omega))) 112 (by decide))) lk_X8_242 hF_7 (by omega) rfl rfl ⟨by decide, by decide⟩ hl ⟨Nat.zero_le _, Nat.zero_le _⟩ (Nat.le_of_ble_eq_true rfl) rfl dX8_readsCommand_25 (fun r_F8 F8 H locs hp_F8 h => ?_)
    by_cases c_F8 : sgN (v 3) a p0 = nI 112
    · obtain ⟨hr_F8, hm_F8⟩ := hp_F8.1 c_F8
      have hf_F8 := hp_F8.2.2
      have hq_F8 : p0 + 1 ≤ v 3 := sgN_lt (by decide) c_F8
      rw [c_F8] at hm_F8
      have hF_9 : F8 254 = .inr (8, [.int (u 0), .int (u 1), .int (u 2), .int (u 3), .int (u 4), .int (u 5), .ref (ad 255), .ref (ad 256), .ref (ad 257), .ref (ad 258), .ref (ad 259), .int (nI (v 0)), .int (nI (v 1)), .int (u 6), .ref (ad 260), .int (nI (v 2)), .ref (ad 261), .int (nI (v 3)), .int (nI (p0 + 1)), .int (u 7), .ref (ad 262), .int (nI 112), .int (nI (v 5))]) := hm_F8.2
      refine w_top (y := nI 1) hr_F8 ?_
      refine lv_if_eq (tgt := 36) kx kb dX8_readsCommand_28 (by decide) (fun q => absurd q (by decide)) (fun _ => ?_)
      refine lv_aload_n kx kb dX8_readsCommand_31 rfl (lv_at hl 0 rfl) ?_
      refine w_callVi X M h [] [] ((c_X8_readsP l g u v (p0 + 1) a nm (⟨by omega, hF_9⟩) h3 (by omega) (((hA.fr (hf_F2 261 (by omega))).fr (hf_F3 261 (by omega))).fr (hf_F8 261 (by omega))) (((hM.fr (hf_F2 262 (by omega))).fr (hf_F3 262 (by omega))).fr (hf_F8 262 (by omega))))) lk_X8_255 hF_9 (by omega) rfl rfl ⟨by decide, by decide⟩ hl ⟨Nat.zero_le _, Nat.zero_le _⟩ (Nat.le_of_ble_eq_true rfl) rfl dX8_readsCommand_32 (fun r_F10 F10 H locs hp_F10 h => ?_)
      obtain ⟨hr_F10, hm_F10, hM_F10, hg_F10⟩ := hp_F10
      have hF_11 : F10 254 = .inr (8, [.int (u 0), .int (u 1), .int (u 2), .int (u 3), .int (u 4), .int (u 5), .ref (ad 255), .ref (ad 256), .ref (ad 257), .ref (ad 258), .ref (ad 259), .int (nI (v 0)), .int (nI (v 1)), .int (u 6), .ref (ad 260), .int (nI (v 2)), .ref (ad 261), .int (nI (v 3)), .int (nI ((fmP (v 3) a (p0 + 1)).1.2.1)), .int (u 7), .ref (ad 262), .int ((fmP (v 3) a (p0 + 1)).2), .int (nI (v 5))]) := hm_F10.2
      refine w_top (y := bI ((fmP (v 3) a (p0 + 1)).1.1 = true)) hr_F10 ?_
      exact w_zret X h (bI_01 _) (by have eq : (cmR (v 3) a p0) = _ := (by rw [cmR, if_neg c_F3, if_pos c_F8]); rw [eq]; exact ⟨rfl, ⟨by omega, hF_11⟩, hM_F10, (fun i hi0 hi1 => (hg_F10 i (by omega) (by omega)).trans ((hf_F8 i (by omega)).trans ((hf_F3 i (by omega)).trans (hf_F2 i (by omega)))))⟩) dX8_readsCommand_35
    · obtain ⟨hr_F8, hm_F8⟩ := hp_F8.2.1 c_F8
      have hf_F8 := hp_F8.2.2
      have hF_12 : F8 254 = .inr (8, [.int (u 0), .int (u 1), .int (u 2), .int (u 3), .int (u 4), .int (u 5), .ref (ad 255), .ref (ad 256), .ref (ad 257), .ref (ad 258), .ref (ad 259), .int (nI (v 0)), .int (nI (v 1)), .int (u 6), .ref (ad 260), .int (nI (v 2)), .ref (ad 261), .int (nI (v 3)), .int (nI p0), .int (u 7), .ref (ad 262), .int (sgN (v 3) a p0), .int (nI (v 5))]) := hm_F8.2
      refine w_top (y := nI 0) hr_F8 ?_
      refine lv_if_eq (tgt := 36) kx kb dX8_readsCommand_28 (by decide) (fun _ => ?_) (fun q => absurd (by decide) q)
      refine lv_aload_n kx kb dX8_readsCommand_36 rfl (lv_at hl 0 rfl) ?_
      refine lv_bipush (v := nI 100) kx kb dX8_readsCommand_37 (by decide) ?_
      refine w_callVi X M h [.int (nI 100)] [] ((c_X8_reads l g u v p0 (sgN (v 3) a p0) a nm (⟨by omega, hF_12⟩) h3 (by omega) (((hA.fr (hf_F2 261 (by omega))).fr (hf_F3 261 (by omega))).fr (hf_F8 261 (by omega))) (((hM.fr (hf_F2 262 (by omega))).fr (hf_F3 262 (by omega))).fr (hf_F8 262 (by omega))) 100 (by decide))) lk_X8_242 hF_12 (by omega) rfl rfl ⟨by decide, by decide⟩ hl ⟨Nat.zero_le _, Nat.zero_le _⟩ (Nat.le_of_ble_eq_true rfl) rfl dX8_readsCommand_39 (fun r_F13 F13 H locs hp_F13 h => ?_)
      by_cases c_F13 : sgN (v 3) a p0 = nI 100
      · obtain ⟨hr_F13, hm_F13⟩ := hp_F13.1 c_F13
        have hf_F13 := hp_F13.2.2
        have hq_F13 : p0 + 1 ≤ v 3 := sgN_lt (by decide) c_F13
        rw [c_F13] at hm_F13
        have hF_14 : F13 254 = .inr (8, [.int (u 0), .int (u 1), .int (u 2), .int (u 3), .int (u 4), .int (u 5), .ref (ad 255), .ref (ad 256), .ref (ad 257), .ref (ad 258), .ref (ad 259), .int (nI (v 0)), .int (nI (v 1)), .int (u 6), .ref (ad 260), .int (nI (v 2)), .ref (ad 261), .int (nI (v 3)), .int (nI (p0 + 1)), .int (u 7), .ref (ad 262), .int (nI 100), .int (nI (v 5))]) := hm_F13.2
        refine w_top (y := nI 1) hr_F13 ?_
        refine lv_if_eq (tgt := 50) kx kb dX8_readsCommand_42 (by decide) (fun q => absurd q (by decide)) (fun _ => ?_)
        refine lv_aload_n kx kb dX8_readsCommand_45 rfl (lv_at hl 0 rfl) ?_
        refine w_callVi X M h [] [] ((c_X8_readsD l g u v (p0 + 1) a nm (⟨by omega, hF_14⟩) h3 (by omega) ((((hA.fr (hf_F2 261 (by omega))).fr (hf_F3 261 (by omega))).fr (hf_F8 261 (by omega))).fr (hf_F13 261 (by omega))) ((((hM.fr (hf_F2 262 (by omega))).fr (hf_F3 262 (by omega))).fr (hf_F8 262 (by omega))).fr (hf_F13 262 (by omega))))) lk_X8_258 hF_14 (by omega) rfl rfl ⟨by decide, by decide⟩ hl ⟨Nat.zero_le _, Nat.zero_le _⟩ (Nat.le_of_ble_eq_true rfl) rfl dX8_readsCommand_46 (fun r_F15 F15 H locs hp_F15 h => ?_)
        obtain ⟨hr_F15, hm_F15, hM_F15, hg_F15⟩ := hp_F15
        have hF_16 : F15 254 = .inr (8, [.int (u 0), .int (u 1), .int (u 2), .int (u 3), .int (u 4), .int (u 5), .ref (ad 255), .ref (ad 256), .ref (ad 257), .ref (ad 258), .ref (ad 259), .int (nI (v 0)), .int (nI (v 1)), .int (u 6), .ref (ad 260), .int (nI (v 2)), .ref (ad 261), .int (nI (v 3)), .int (nI ((fmD (v 3) a (p0 + 1)).1.2.1)), .int (u 7), .ref (ad 262), .int ((fmD (v 3) a (p0 + 1)).2), .int (nI (v 5))]) := hm_F15.2
        refine w_top (y := bI ((fmD (v 3) a (p0 + 1)).1.1 = true)) hr_F15 ?_
        exact w_zret X h (bI_01 _) (by have eq : (cmR (v 3) a p0) = _ := (by rw [cmR, if_neg c_F3, if_neg c_F8, if_pos c_F13]); rw [eq]; exact ⟨rfl, ⟨by omega, hF_16⟩, hM_F15, (fun i hi0 hi1 => (hg_F15 i (by omega) (by omega)).trans ((hf_F13 i (by omega)).trans ((hf_F8 i (by omega)).trans ((hf_F3 i (by omega)).trans (hf_F2 i (by omega))))))⟩) dX8_readsCommand_49
      · obtain ⟨hr_F13, hm_F13⟩ := hp_F13.2.1 c_F13
        have hf_F13 := hp_F13.2.2
        have hF_17 : F13 254 = .inr (8, [.int (u 0), .int (u 1), .int (u 2), .int (u 3), .int (u 4), .int (u 5), .ref (ad 255), .ref (ad 256), .ref (ad 257), .ref (ad 258), .ref (ad 259), .int (nI (v 0)), .int (nI (v 1)), .int (u 6), .ref (ad 260), .int (nI (v 2)), .ref (ad 261), .int (nI (v 3)), .int (nI p0), .int (u 7), .ref (ad 262), .int (sgN (v 3) a p0), .int (nI (v 5))]) := hm_F13.2
        refine w_top (y := nI 0) hr_F13 ?_
        refine lv_if_eq (tgt := 50) kx kb dX8_readsCommand_42 (by decide) (fun _ => ?_) (fun q => absurd (by decide) q)
        refine lv_aload_n kx kb dX8_readsCommand_50 rfl (lv_at hl 0 rfl) ?_
        refine lv_bipush (v := nI 115) kx kb dX8_readsCommand_51 (by decide) ?_
        refine w_callVi X M h [.int (nI 115)] [] ((c_X8_reads l g u v p0 (sgN (v 3) a p0) a nm (⟨by omega, hF_17⟩) h3 (by omega) ((((hA.fr (hf_F2 261 (by omega))).fr (hf_F3 261 (by omega))).fr (hf_F8 261 (by omega))).fr (hf_F13 261 (by omega))) ((((hM.fr (hf_F2 262 (by omega))).fr (hf_F3 262 (by omega))).fr (hf_F8 262 (by omega))).fr (hf_F13 262 (by omega))) 115 (by decide))) lk_X8_242 hF_17 (by omega) rfl rfl ⟨by decide, by decide⟩ hl ⟨Nat.zero_le _, Nat.zero_le _⟩ (Nat.le_of_ble_eq_true rfl) rfl dX8_readsCommand_53 (fun r_F18 F18 H locs hp_F18 h => ?_)
        by_cases c_F18 : sgN (v 3) a p0 = nI 115
        · obtain ⟨hr_F18, hm_F18⟩ := hp_F18.1 c_F18
          have hf_F18 := hp_F18.2.2
          have hq_F18 : p0 + 1 ≤ v 3 := sgN_lt (by decide) c_F18
          rw [c_F18] at hm_F18
          have hF_19 : F18 254 = .inr (8, [.int (u 0), .int (u 1), .int (u 2), .int (u 3), .int (u 4), .int (u 5), .ref (ad 255), .ref (ad 256), .ref (ad 257), .ref (ad 258), .ref (ad 259), .int (nI (v 0)), .int (nI (v 1)), .int (u 6), .ref (ad 260), .int (nI (v 2)), .ref (ad 261), .int (nI (v 3)), .int (nI (p0 + 1)), .int (u 7), .ref (ad 262), .int (nI 115), .int (nI (v 5))]) := hm_F18.2
          refine w_top (y := nI 1) hr_F18 ?_
          refine lv_if_eq (tgt := 64) kx kb dX8_readsCommand_56 (by decide) (fun q => absurd q (by decide)) (fun _ => ?_)
          refine lv_aload_n kx kb dX8_readsCommand_59 rfl (lv_at hl 0 rfl) ?_
          refine w_callVi X M h [] [] ((c_X8_readsStroke l g u v (p0 + 1) (nI 115) a nm (⟨by omega, hF_19⟩) h3 (by omega) (((((hA.fr (hf_F2 261 (by omega))).fr (hf_F3 261 (by omega))).fr (hf_F8 261 (by omega))).fr (hf_F13 261 (by omega))).fr (hf_F18 261 (by omega))) (((((hM.fr (hf_F2 262 (by omega))).fr (hf_F3 262 (by omega))).fr (hf_F8 262 (by omega))).fr (hf_F13 262 (by omega))).fr (hf_F18 262 (by omega))))) lk_X8_261 hF_19 (by omega) rfl rfl ⟨by decide, by decide⟩ hl ⟨Nat.zero_le _, Nat.zero_le _⟩ (Nat.le_of_ble_eq_true rfl) rfl dX8_readsCommand_60 (fun r_F20 F20 H locs hp_F20 h => ?_)
          obtain ⟨hr_F20, hm_F20, hM_F20, hg_F20⟩ := hp_F20
          have hF_21 : F20 254 = .inr (8, [.int (u 0), .int (u 1), .int (u 2), .int (u 3), .int (u 4), .int (u 5), .ref (ad 255), .ref (ad 256), .ref (ad 257), .ref (ad 258), .ref (ad 259), .int (nI (v 0)), .int (nI (v 1)), .int (u 6), .ref (ad 260), .int (nI (v 2)), .ref (ad 261), .int (nI (v 3)), .int (nI ((mt (v 3) a [116, 114, 111, 107, 101, 32, 37] (p0 + 1)).2.1)), .int (u 7), .ref (ad 262), .int (nI 115), .int (nI (v 5))]) := hm_F20.2
          refine w_top (y := bI ((mt (v 3) a [116, 114, 111, 107, 101, 32, 37] (p0 + 1)).1 = true)) hr_F20 ?_
          exact w_zret X h (bI_01 _) (by have eq : (cmR (v 3) a p0) = _ := (by rw [cmR, if_neg c_F3, if_neg c_F8, if_neg c_F13, if_pos c_F18]); rw [eq]; exact ⟨rfl, ⟨by omega, hF_21⟩, hM_F20, (fun i hi0 hi1 => (hg_F20 i (by omega) (by omega)).trans ((hf_F18 i (by omega)).trans ((hf_F13 i (by omega)).trans ((hf_F8 i (by omega)).trans ((hf_F3 i (by omega)).trans (hf_F2 i (by omega)))))))⟩) dX8_readsCommand_63
        · obtain ⟨hr_F18, hm_F18⟩ := hp_F18.2.1 c_F18
          have hf_F18 := hp_F18.2.2
          have hF_22 : F18 254 = .inr (8, [.int (u 0), .int (u 1), .int (u 2), .int (u 3), .int (u 4), .int (u 5), .ref (ad 255), .ref (ad 256), .ref (ad 257), .ref (ad 258), .ref (ad 259), .int (nI (v 0)), .int (nI (v 1)), .int (u 6), .ref (ad 260), .int (nI (v 2)), .ref (ad 261), .int (nI (v 3)), .int (nI p0), .int (u 7), .ref (ad 262), .int (sgN (v 3) a p0), .int (nI (v 5))]) := hm_F18.2
          refine w_top (y := nI 0) hr_F18 ?_
          refine lv_if_eq (tgt := 64) kx kb dX8_readsCommand_56 (by decide) (fun _ => ?_) (fun q => absurd (by decide) q)
          refine lv_aload_n kx kb dX8_readsCommand_64 rfl (lv_at hl 0 rfl) ?_
          refine lv_bipush (v := nI 98) kx kb dX8_readsCommand_65 (by decide) ?_
          refine w_callVi X M h [.int (nI 98)] [] ((c_X8_reads l g u v p0 (sgN (v 3) a p0) a nm (⟨by omega, hF_22⟩) h3 (by omega) (((((hA.fr (hf_F2 261 (by omega))).fr (hf_F3 261 (by omega))).fr (hf_F8 261 (by omega))).fr (hf_F13 261 (by omega))).fr (hf_F18 261 (by omega))) (((((hM.fr (hf_F2 262 (by omega))).fr (hf_F3 262 (by omega))).fr (hf_F8 262 (by omega))).fr (hf_F13 262 (by omega))).fr (hf_F18 262 (by omega))) 98 (by decide))) lk_X8_242 hF_22 (by omega) rfl rfl ⟨by decide, by decide⟩ hl ⟨Nat.zero_le _, Nat.zero_le _⟩ (Nat.le_of_ble_eq_true rfl) rfl dX8_readsCommand_67 (fun r_F23 F23 H locs hp_F23 h => ?_)
          by_cases c_F23 : sgN (v 3) a p0 = nI 98
          · obtain ⟨hr_F23, hm_F23⟩ := hp_F23.1 c_F23
            have hf_F23 := hp_F23.2.2
            have hq_F23 : p0 + 1 ≤ v 3 := sgN_lt (by decide) c_F23
            rw [c_F23] at hm_F23
            have hF_24 : F23 254 = .inr (8, [.int (u 0), .int (u 1), .int (u 2), .int (u 3), .int (u 4), .int (u 5), .ref (ad 255), .ref (ad 256), .ref (ad 257), .ref (ad 258), .ref (ad 259), .int (nI (v 0)), .int (nI (v 1)), .int (u 6), .ref (ad 260), .int (nI (v 2)), .ref (ad 261), .int (nI (v 3)), .int (nI (p0 + 1)), .int (u 7), .ref (ad 262), .int (nI 98), .int (nI (v 5))]) := hm_F23.2
            refine w_top (y := nI 1) hr_F23 ?_
            refine lv_if_eq (tgt := 78) kx kb dX8_readsCommand_70 (by decide) (fun q => absurd q (by decide)) (fun _ => ?_)
            refine lv_aload_n kx kb dX8_readsCommand_73 rfl (lv_at hl 0 rfl) ?_
            refine w_callVi X M h [] [] ((c_X8_readsBucket l g u v (p0 + 1) (nI 98) a nm (⟨by omega, hF_24⟩) h3 (by omega) ((((((hA.fr (hf_F2 261 (by omega))).fr (hf_F3 261 (by omega))).fr (hf_F8 261 (by omega))).fr (hf_F13 261 (by omega))).fr (hf_F18 261 (by omega))).fr (hf_F23 261 (by omega))) ((((((hM.fr (hf_F2 262 (by omega))).fr (hf_F3 262 (by omega))).fr (hf_F8 262 (by omega))).fr (hf_F13 262 (by omega))).fr (hf_F18 262 (by omega))).fr (hf_F23 262 (by omega))))) lk_X8_264 hF_24 (by omega) rfl rfl ⟨by decide, by decide⟩ hl ⟨Nat.zero_le _, Nat.zero_le _⟩ (Nat.le_of_ble_eq_true rfl) rfl dX8_readsCommand_74 (fun r_F25 F25 H locs hp_F25 h => ?_)
            obtain ⟨hr_F25, hm_F25, hM_F25, hg_F25⟩ := hp_F25
            have hF_26 : F25 254 = .inr (8, [.int (u 0), .int (u 1), .int (u 2), .int (u 3), .int (u 4), .int (u 5), .ref (ad 255), .ref (ad 256), .ref (ad 257), .ref (ad 258), .ref (ad 259), .int (nI (v 0)), .int (nI (v 1)), .int (u 6), .ref (ad 260), .int (nI (v 2)), .ref (ad 261), .int (nI (v 3)), .int (nI ((mt (v 3) a [117, 99, 107, 101, 116, 32, 35, 32, 35] (p0 + 1)).2.1)), .int (u 7), .ref (ad 262), .int (nI 98), .int (nI (v 5))]) := hm_F25.2
            refine w_top (y := bI ((mt (v 3) a [117, 99, 107, 101, 116, 32, 35, 32, 35] (p0 + 1)).1 = true)) hr_F25 ?_
            exact w_zret X h (bI_01 _) (by have eq : (cmR (v 3) a p0) = _ := (by rw [cmR, if_neg c_F3, if_neg c_F8, if_neg c_F13, if_neg c_F18, if_pos c_F23]); rw [eq]; exact ⟨rfl, ⟨by omega, hF_26⟩, hM_F25, (fun i hi0 hi1 => (hg_F25 i (by omega) (by omega)).trans ((hf_F23 i (by omega)).trans ((hf_F18 i (by omega)).trans ((hf_F13 i (by omega)).trans ((hf_F8 i (by omega)).trans ((hf_F3 i (by omega)).trans (hf_F2 i (by omega))))))))⟩) dX8_readsCommand_77
          · obtain ⟨hr_F23, hm_F23⟩ := hp_F23.2.1 c_F23
            have hf_F23 := hp_F23.2.2
            have hF_27 : F23 254 = .inr (8, [.int (u 0), .int (u 1), .int (u 2), .int (u 3), .int (u 4), .int (u 5), .ref (ad 255), .ref (ad 256), .ref (ad 257), .ref (ad 258), .ref (ad 259), .int (nI (v 0)), .int (nI (v 1)), .int (u 6), .ref (ad 260), .int (nI (v 2)), .ref (ad 261), .int (nI (v 3)), .int (nI p0), .int (u 7), .ref (ad 262), .int (sgN (v 3) a p0), .int (nI (v 5))]) := hm_F23.2
            refine w_top (y := nI 0) hr_F23 ?_
            refine lv_if_eq (tgt := 78) kx kb dX8_readsCommand_70 (by decide) (fun _ => ?_) (fun q => absurd (by decide) q)
            refine lv_aload_n kx kb dX8_readsCommand_78 rfl (lv_at hl 0 rfl) ?_
            refine lv_bipush (v := nI 103) kx kb dX8_readsCommand_79 (by decide) ?_
            refine w_callVi X M h [.int (nI 103)] [] ((c_X8_reads l g u v p0 (sgN (v 3) a p0) a nm (⟨by omega, hF_27⟩) h3 (by omega) ((((((hA.fr (hf_F2 261 (by omega))).fr (hf_F3 261 (by omega))).fr (hf_F8 261 (by omega))).fr (hf_F13 261 (by omega))).fr (hf_F18 261 (by omega))).fr (hf_F23 261 (by omega))) ((((((hM.fr (hf_F2 262 (by omega))).fr (hf_F3 262 (by omega))).fr (hf_F8 262 (by omega))).fr (hf_F13 262 (by omega))).fr (hf_F18 262 (by omega))).fr (hf_F23 262 (by omega))) 103 (by decide))) lk_X8_242 hF_27 (by omega) rfl rfl ⟨by decide, by decide⟩ hl ⟨Nat.zero_le _, Nat.zero_le _⟩ (Nat.le_of_ble_eq_true rfl) rfl dX8_readsCommand_81 (fun r_F28 F28 H locs hp_F28 h => ?_)
            by_cases c_F28 : sgN (v 3) a p0 = nI 103
            · obtain ⟨hr_F28, hm_F28⟩ := hp_F28.1 c_F28
              have hf_F28 := hp_F28.2.2
              have hq_F28 : p0 + 1 ≤ v 3 := sgN_lt (by decide) c_F28
              have hF_29 : F28 254 = .inr (8, [.int (u 0), .int (u 1), .int (u 2), .int (u 3), .int (u 4), .int (u 5), .ref (ad 255), .ref (ad 256), .ref (ad 257), .ref (ad 258), .ref (ad 259), .int (nI (v 0)), .int (nI (v 1)), .int (u 6), .ref (ad 260), .int (nI (v 2)), .ref (ad 261), .int (nI (v 3)), .int (nI (p0 + 1)), .int (u 7), .ref (ad 262), .int (sgN (v 3) a p0), .int (nI (v 5))]) := hm_F28.2
              refine w_top (y := nI 1) hr_F28 ?_
              refine lv_if_eq (tgt := 117) kx kb dX8_readsCommand_84 (by decide) (fun q => absurd q (by decide)) (fun _ => ?_)
              refine lv_aload_n kx kb dX8_readsCommand_87 rfl (lv_at hl 0 rfl) ?_
              refine lv_bipush (v := nI 111) kx kb dX8_readsCommand_88 (by decide) ?_
              refine w_callVi X M h [.int (nI 111)] [] ((c_X8_reads l g u v (p0 + 1) (sgN (v 3) a p0) a nm (⟨by omega, hF_29⟩) h3 (by omega) (((((((hA.fr (hf_F2 261 (by omega))).fr (hf_F3 261 (by omega))).fr (hf_F8 261 (by omega))).fr (hf_F13 261 (by omega))).fr (hf_F18 261 (by omega))).fr (hf_F23 261 (by omega))).fr (hf_F28 261 (by omega))) (((((((hM.fr (hf_F2 262 (by omega))).fr (hf_F3 262 (by omega))).fr (hf_F8 262 (by omega))).fr (hf_F13 262 (by omega))).fr (hf_F18 262 (by omega))).fr (hf_F23 262 (by omega))).fr (hf_F28 262 (by omega))) 111 (by decide))) lk_X8_242 hF_29 (by omega) rfl rfl ⟨by decide, by decide⟩ hl ⟨Nat.zero_le _, Nat.zero_le _⟩ (Nat.le_of_ble_eq_true rfl) rfl dX8_readsCommand_90 (fun r_F30 F30 H locs hp_F30 h => ?_)
              by_cases c_F30 : sgN (v 3) a (p0 + 1) = nI 111
              · obtain ⟨hr_F30, hm_F30⟩ := hp_F30.1 c_F30
                have hf_F30 := hp_F30.2.2
                have hq_F30 : p0 + 1 + 1 ≤ v 3 := sgN_lt (by decide) c_F30
                have hF_31 : F30 254 = .inr (8, [.int (u 0), .int (u 1), .int (u 2), .int (u 3), .int (u 4), .int (u 5), .ref (ad 255), .ref (ad 256), .ref (ad 257), .ref (ad 258), .ref (ad 259), .int (nI (v 0)), .int (nI (v 1)), .int (u 6), .ref (ad 260), .int (nI (v 2)), .ref (ad 261), .int (nI (v 3)), .int (nI (p0 + 1 + 1)), .int (u 7), .ref (ad 262), .int (sgN (v 3) a p0), .int (nI (v 5))]) := hm_F30.2
                refine w_top (y := nI 1) hr_F30 ?_
                refine lv_if_eq (tgt := 117) kx kb dX8_readsCommand_93 (by decide) (fun q => absurd q (by decide)) (fun _ => ?_)
                refine lv_aload_n kx kb dX8_readsCommand_96 rfl (lv_at hl 0 rfl) ?_
                refine lv_bipush (v := nI 32) kx kb dX8_readsCommand_97 (by decide) ?_
                refine w_callVi X M h [.int (nI 32)] [] ((c_X8_reads l g u v (p0 + 1 + 1) (sgN (v 3) a p0) a nm (⟨by omega, hF_31⟩) h3 (by omega) ((((((((hA.fr (hf_F2 261 (by omega))).fr (hf_F3 261 (by omega))).fr (hf_F8 261 (by omega))).fr (hf_F13 261 (by omega))).fr (hf_F18 261 (by omega))).fr (hf_F23 261 (by omega))).fr (hf_F28 261 (by omega))).fr (hf_F30 261 (by omega))) ((((((((hM.fr (hf_F2 262 (by omega))).fr (hf_F3 262 (by omega))).fr (hf_F8 262 (by omega))).fr (hf_F13 262 (by omega))).fr (hf_F18 262 (by omega))).fr (hf_F23 262 (by omega))).fr (hf_F28 262 (by omega))).fr (hf_F30 262 (by omega))) 32 (by decide))) lk_X8_242 hF_31 (by omega) rfl rfl ⟨by decide, by decide⟩ hl ⟨Nat.zero_le _, Nat.zero_le _⟩ (Nat.le_of_ble_eq_true rfl) rfl dX8_readsCommand_99 (fun r_F32 F32 H locs hp_F32 h => ?_)
                by_cases c_F32 : sgN (v 3) a (p0 + 1 + 1) = nI 32
                · obtain ⟨hr_F32, hm_F32⟩ := hp_F32.1 c_F32
                  have hf_F32 := hp_F32.2.2
                  have hq_F32 : p0 + 1 + 1 + 1 ≤ v 3 := sgN_lt (by decide) c_F32
                  have hF_33 : F32 254 = .inr (8, [.int (u 0), .int (u 1), .int (u 2), .int (u 3), .int (u 4), .int (u 5), .ref (ad 255), .ref (ad 256), .ref (ad 257), .ref (ad 258), .ref (ad 259), .int (nI (v 0)), .int (nI (v 1)), .int (u 6), .ref (ad 260), .int (nI (v 2)), .ref (ad 261), .int (nI (v 3)), .int (nI (p0 + 1 + 1 + 1)), .int (u 7), .ref (ad 262), .int (sgN (v 3) a p0), .int (nI (v 5))]) := hm_F32.2
                  refine w_top (y := nI 1) hr_F32 ?_
                  refine lv_if_eq (tgt := 117) kx kb dX8_readsCommand_102 (by decide) (fun q => absurd q (by decide)) (fun _ => ?_)
                  refine lv_aload_n kx kb dX8_readsCommand_105 rfl (lv_at hl 0 rfl) ?_
                  refine lv_iconst (v := nI 0) kx kb dX8_readsCommand_106 (by decide) ?_
                  refine w_callVi X M h [.int (nI 0)] [] ((c_X8_readsDigit l g u v (p0 + 1 + 1 + 1) (sgN (v 3) a p0) a nm (⟨by omega, hF_33⟩) h3 (by omega) (((((((((hA.fr (hf_F2 261 (by omega))).fr (hf_F3 261 (by omega))).fr (hf_F8 261 (by omega))).fr (hf_F13 261 (by omega))).fr (hf_F18 261 (by omega))).fr (hf_F23 261 (by omega))).fr (hf_F28 261 (by omega))).fr (hf_F30 261 (by omega))).fr (hf_F32 261 (by omega))) (((((((((hM.fr (hf_F2 262 (by omega))).fr (hf_F3 262 (by omega))).fr (hf_F8 262 (by omega))).fr (hf_F13 262 (by omega))).fr (hf_F18 262 (by omega))).fr (hf_F23 262 (by omega))).fr (hf_F28 262 (by omega))).fr (hf_F30 262 (by omega))).fr (hf_F32 262 (by omega))) 0 (by omega))) lk_X8_239 hF_33 (by omega) rfl rfl ⟨by decide, by decide⟩ hl ⟨Nat.zero_le _, Nat.zero_le _⟩ (Nat.le_of_ble_eq_true rfl) rfl dX8_readsCommand_107 (fun r_F34 F34 H locs hp_F34 h => ?_)
                  by_cases c_F34 : isD (v 3) a (p0 + 1 + 1 + 1)
                  · obtain ⟨hr_F34, hm_F34, hM_F34⟩ := hp_F34.1 c_F34
                    have hg_F34 := hp_F34.2.2
                    have hq_F34 : p0 + 1 + 1 + 1 + 1 ≤ v 3 := isD_lt c_F34
                    have hF_35 : F34 254 = .inr (8, [.int (u 0), .int (u 1), .int (u 2), .int (u 3), .int (u 4), .int (u 5), .ref (ad 255), .ref (ad 256), .ref (ad 257), .ref (ad 258), .ref (ad 259), .int (nI (v 0)), .int (nI (v 1)), .int (u 6), .ref (ad 260), .int (nI (v 2)), .ref (ad 261), .int (nI (v 3)), .int (nI (p0 + 1 + 1 + 1 + 1)), .int (u 7), .ref (ad 262), .int (sgN (v 3) a p0), .int (nI (v 5))]) := hm_F34.2
                    refine w_top (y := nI 1) hr_F34 ?_
                    refine lv_if_eq (tgt := 117) kx kb dX8_readsCommand_110 (by decide) (fun q => absurd q (by decide)) (fun _ => ?_)
                    refine lv_iconst (v := nI 1) kx kb dX8_readsCommand_113 (by decide) ?_
                    refine lv_goto (tgt := 118) kx kb dX8_readsCommand_114 (by decide) ?_
                    exact w_zret X h (Or.inr (by decide)) (by have eq : (cmR (v 3) a p0) = ((true, p0 + 1 + 1 + 1 + 1, [(sgN (v 3) a (p0 + 1 + 1 + 1) - nI 48)]), sgN (v 3) a p0) := (by rw [cmR, if_neg c_F3, if_neg c_F8, if_neg c_F13, if_neg c_F18, if_neg c_F23, mt_cy 103 (by decide) (by decide) c_F28, mt_cy 111 (by decide) (by decide) c_F30, mt_cy 32 (by decide) (by decide) c_F32, mt_dy c_F34, mt_0]); rw [eq]; exact ⟨bI_tn rfl, ⟨by omega, hF_35⟩, hM_F34, (fun i hi0 hi1 => (hg_F34 i (by omega) (by omega)).trans ((hf_F32 i (by omega)).trans ((hf_F30 i (by omega)).trans ((hf_F28 i (by omega)).trans ((hf_F23 i (by omega)).trans ((hf_F18 i (by omega)).trans ((hf_F13 i (by omega)).trans ((hf_F8 i (by omega)).trans ((hf_F3 i (by omega)).trans (hf_F2 i (by omega)))))))))))⟩) dX8_readsCommand_118
                  · obtain ⟨hr_F34, hm_F34, hM_F34⟩ := hp_F34.2.1 c_F34
                    have hg_F34 := hp_F34.2.2
                    have hF_36 : F34 254 = .inr (8, [.int (u 0), .int (u 1), .int (u 2), .int (u 3), .int (u 4), .int (u 5), .ref (ad 255), .ref (ad 256), .ref (ad 257), .ref (ad 258), .ref (ad 259), .int (nI (v 0)), .int (nI (v 1)), .int (u 6), .ref (ad 260), .int (nI (v 2)), .ref (ad 261), .int (nI (v 3)), .int (nI (p0 + 1 + 1 + 1)), .int (u 7), .ref (ad 262), .int (sgN (v 3) a p0), .int (nI (v 5))]) := hm_F34.2
                    refine w_top (y := nI 0) hr_F34 ?_
                    refine lv_if_eq (tgt := 117) kx kb dX8_readsCommand_110 (by decide) (fun _ => ?_) (fun q => absurd (by decide) q)
                    refine lv_iconst (v := nI 0) kx kb dX8_readsCommand_117 (by decide) ?_
                    exact w_zret X h (Or.inl (by decide)) (by have eq : (cmR (v 3) a p0) = ((false, p0 + 1 + 1 + 1, []), sgN (v 3) a p0) := (by rw [cmR, if_neg c_F3, if_neg c_F8, if_neg c_F13, if_neg c_F18, if_neg c_F23, mt_cy 103 (by decide) (by decide) c_F28, mt_cy 111 (by decide) (by decide) c_F30, mt_cy 32 (by decide) (by decide) c_F32, mt_dn c_F34]); rw [eq]; exact ⟨bI_fn (show ¬ (false = true) by decide), ⟨by omega, hF_36⟩, hM_F34, (fun i hi0 hi1 => (hg_F34 i (by omega) (by omega)).trans ((hf_F32 i (by omega)).trans ((hf_F30 i (by omega)).trans ((hf_F28 i (by omega)).trans ((hf_F23 i (by omega)).trans ((hf_F18 i (by omega)).trans ((hf_F13 i (by omega)).trans ((hf_F8 i (by omega)).trans ((hf_F3 i (by omega)).trans (hf_F2 i (by omega)))))))))))⟩) dX8_readsCommand_118
                · obtain ⟨hr_F32, hm_F32⟩ := hp_F32.2.1 c_F32
                  have hf_F32 := hp_F32.2.2
                  have hF_37 : F32 254 = .inr (8, [.int (u 0), .int (u 1), .int (u 2), .int (u 3), .int (u 4), .int (u 5), .ref (ad 255), .ref (ad 256), .ref (ad 257), .ref (ad 258), .ref (ad 259), .int (nI (v 0)), .int (nI (v 1)), .int (u 6), .ref (ad 260), .int (nI (v 2)), .ref (ad 261), .int (nI (v 3)), .int (nI (p0 + 1 + 1)), .int (u 7), .ref (ad 262), .int (sgN (v 3) a p0), .int (nI (v 5))]) := hm_F32.2
                  refine w_top (y := nI 0) hr_F32 ?_
                  refine lv_if_eq (tgt := 117) kx kb dX8_readsCommand_102 (by decide) (fun _ => ?_) (fun q => absurd (by decide) q)
                  refine lv_iconst (v := nI 0) kx kb dX8_readsCommand_117 (by decide) ?_
                  exact w_zret X h (Or.inl (by decide)) (by have eq : (cmR (v 3) a p0) = ((false, p0 + 1 + 1, []), sgN (v 3) a p0) := (by rw [cmR, if_neg c_F3, if_neg c_F8, if_neg c_F13, if_neg c_F18, if_neg c_F23, mt_cy 103 (by decide) (by decide) c_F28, mt_cy 111 (by decide) (by decide) c_F30, mt_cn 32 (by decide) (by decide) c_F32]); rw [eq]; exact ⟨bI_fn (show ¬ (false = true) by decide), ⟨by omega, hF_37⟩, (((((((((hM.fr (hf_F2 262 (by omega))).fr (hf_F3 262 (by omega))).fr (hf_F8 262 (by omega))).fr (hf_F13 262 (by omega))).fr (hf_F18 262 (by omega))).fr (hf_F23 262 (by omega))).fr (hf_F28 262 (by omega))).fr (hf_F30 262 (by omega))).fr (hf_F32 262 (by omega))), (fun i hi0 hi1 => (hf_F32 i (by omega)).trans ((hf_F30 i (by omega)).trans ((hf_F28 i (by omega)).trans ((hf_F23 i (by omega)).trans ((hf_F18 i (by omega)).trans ((hf_F13 i (by omega)).trans ((hf_F8 i (by omega)).trans ((hf_F3 i (by omega)).trans (hf_F2 i (by omega))))))))))⟩) dX8_readsCommand_118
              · obtain ⟨hr_F30, hm_F30⟩ := hp_F30.2.1 c_F30
                have hf_F30 := hp_F30.2.2
                have hF_38 : F30 254 = .inr (8, [.int (u 0), .int (u 1), .int (u 2), .int (u 3), .int (u 4), .int (u 5), .ref (ad 255), .ref (ad 256), .ref (ad 257), .ref (ad 258), .ref (ad 259), .int (nI (v 0)), .int (nI (v 1)), .int (u 6), .ref (ad 260), .int (nI (v 2)), .ref (ad 261), .int (nI (v 3)), .int (nI (p0 + 1)), .int (u 7), .ref (ad 262), .int (sgN (v 3) a p0), .int (nI (v 5))]) := hm_F30.2
                refine w_top (y := nI 0) hr_F30 ?_
                refine lv_if_eq (tgt := 117) kx kb dX8_readsCommand_93 (by decide) (fun _ => ?_) (fun q => absurd (by decide) q)
                refine lv_iconst (v := nI 0) kx kb dX8_readsCommand_117 (by decide) ?_
                exact w_zret X h (Or.inl (by decide)) (by have eq : (cmR (v 3) a p0) = ((false, p0 + 1, []), sgN (v 3) a p0) := (by rw [cmR, if_neg c_F3, if_neg c_F8, if_neg c_F13, if_neg c_F18, if_neg c_F23, mt_cy 103 (by decide) (by decide) c_F28, mt_cn 111 (by decide) (by decide) c_F30]); rw [eq]; exact ⟨bI_fn (show ¬ (false = true) by decide), ⟨by omega, hF_38⟩, ((((((((hM.fr (hf_F2 262 (by omega))).fr (hf_F3 262 (by omega))).fr (hf_F8 262 (by omega))).fr (hf_F13 262 (by omega))).fr (hf_F18 262 (by omega))).fr (hf_F23 262 (by omega))).fr (hf_F28 262 (by omega))).fr (hf_F30 262 (by omega))), (fun i hi0 hi1 => (hf_F30 i (by omega)).trans ((hf_F28 i (by omega)).trans ((hf_F23 i (by omega)).trans ((hf_F18 i (by omega)).trans ((hf_F13 i (by omega)).trans ((hf_F8 i (by omega)).trans ((hf_F3 i (by omega)).trans (hf_F2 i (by omega)))))))))⟩) dX8_readsCommand_118
            · obtain ⟨hr_F28, hm_F28⟩ := hp_F28.2.1 c_F28
              have hf_F28 := hp_F28.2.2
              have hF_39 : F28 254 = .inr (8, [.int (u 0), .int (u 1), .int (u 2), .int (u 3), .int (u 4), .int (u 5), .ref (ad 255), .ref (ad 256), .ref (ad 257), .ref (ad 258), .ref (ad 259), .int (nI (v 0)), .int (nI (v 1)), .int (u 6), .ref (ad 260), .int (nI (v 2)), .ref (ad 261), .int (nI (v 3)), .int (nI p0), .int (u 7), .ref (ad 262), .int (sgN (v 3) a p0), .int (nI (v 5))]) := hm_F28.2
              refine w_top (y := nI 0) hr_F28 ?_
              refine lv_if_eq (tgt := 117) kx kb dX8_readsCommand_84 (by decide) (fun _ => ?_) (fun q => absurd (by decide) q)
              refine lv_iconst (v := nI 0) kx kb dX8_readsCommand_117 (by decide) ?_
              exact w_zret X h (Or.inl (by decide)) (by have eq : (cmR (v 3) a p0) = ((false, p0, []), sgN (v 3) a p0) := (by rw [cmR, if_neg c_F3, if_neg c_F8, if_neg c_F13, if_neg c_F18, if_neg c_F23, mt_cn 103 (by decide) (by decide) c_F28]); rw [eq]; exact ⟨bI_fn (show ¬ (false = true) by decide), ⟨by omega, hF_39⟩, (((((((hM.fr (hf_F2 262 (by omega))).fr (hf_F3 262 (by omega))).fr (hf_F8 262 (by omega))).fr (hf_F13 262 (by omega))).fr (hf_F18 262 (by omega))).fr (hf_F23 262 (by omega))).fr (hf_F28 262 (by omega))), (fun i hi0 hi1 => (hf_F28 i (by omega)).trans ((hf_F23 i (by omega)).trans ((hf_F18 i (by omega)).trans ((hf_F13 i (by omega)).trans ((hf_F8 i (by omega)).trans ((hf_F3 i (by omega)).trans (hf_F2 i (by omega))))))))⟩) dX8_readsCommand_118
