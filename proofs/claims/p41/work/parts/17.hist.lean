set_option maxRecDepth 20000 in
theorem c_X0_slot (l : Launch) (g : gT) {N : Nat} {ad : Nat → Nat} {F : Nat → va_E} (nx ct : Nat) (hh : oHist g N ad F nx ct) (hnx : nx < 9)  : CtQ l yX0_slot cX0_slot 1 (some (.object "JokePump$State")) 0 0 g N ad F [.ref (ad 45)] (fun r F' => r = some (ad (47 + 22 * nx)) ∧ F' = F) := by
  refine CtQ_of (by decide) (Nat.le_of_ble_eq_true rfl) ?_
  intro p e s m args below meth c A H ls X M h hl
  have kx := X.1.1
  have kb := X.1.2.1
  have hl : lv_has ls 1 [(0, .ref (ad 45))] := hl
  have hN0 := hh.1
  refine lv_aload_n kx kb dX0_slot_0 rfl (lv_at hl 0 rfl) ?_
  refine w_get X M h 45 hh.2.1 (by omega) fl_X0_17 rfl dX0_slot_1 ?_
  refine w_if_lt (tgt := 31) kx kb (by omega) dX0_slot_4 (by decide) ?_
  refine lv_aload_n kx kb dX0_slot_7 rfl (lv_at hl 0 rfl) ?_
  refine w_get X M h 45 hh.2.1 (by omega) fl_X0_17 rfl dX0_slot_8 ?_
  refine lv_aload_n kx kb dX0_slot_11 rfl (lv_at hl 0 rfl) ?_
  refine w_get X M h 45 hh.2.1 (by omega) fl_X0_11 rfl dX0_slot_12 ?_
  refine w_alenq X M h 46 hh.2.2 (by omega) dX0_slot_15 ?_
  refine w_cmp_ge (tgt := 31) kx kb (by omega) (by omega) dX0_slot_16 (by decide) (fun c_1 => (show False by omega).elim) (fun c_1 => ?_)
  refine lv_aload_n kx kb dX0_slot_19 rfl (lv_at hl 0 rfl) ?_
  refine w_get X M h 45 hh.2.1 (by omega) fl_X0_11 rfl dX0_slot_20 ?_
  refine lv_aload_n kx kb dX0_slot_23 rfl (lv_at hl 0 rfl) ?_
  refine w_get X M h 45 hh.2.1 (by omega) fl_X0_17 rfl dX0_slot_24 ?_
  refine w_aald X M h 46 hh.2.2 (by omega) (nx) (rfl) (by omega) (by omega) (rfl) dX0_slot_27 ?_
  refine lv_goto (tgt := 32) kx kb dX0_slot_28 (by decide) ?_
  exact w_qret X h (Or.inl ⟨_, rfl⟩) (v := (some (ad (47 + 22 * nx)))) ⟨rfl, rfl⟩ dX0_slot_32
set_option maxRecDepth 20000 in
theorem c_X0_prepare (l : Launch) (g : gT) {N : Nat} {ad : Nat → Nat} {F : Nat → va_E} (nx ct : Nat) (hh : oHist g N ad F nx ct) (hnx : nx < 9) (x y : SX) (hs : oSt g N ad F 1 x) (hy : oSt g N ad F (47 + 22 * nx) y) : CtV l yX0_prepare cX0_prepare 2 none 4 94 g N ad F [.ref (ad 45), .ref (ad 1)] (fun F' => oSt g N ad F' (47 + 22 * nx) x ∧ ∀ q, (q < 47 + 22 * nx ∨ 47 + 22 * nx + 21 < q) → F' q = F q) := by
  refine CtV_of (by decide) (Nat.le_of_ble_eq_true rfl) ?_
  intro p e s m args below meth c A H ls X M h hl
  have kx := X.1.1
  have kb := X.1.2.1
  have hl : lv_has ls 2 [(0, .ref (ad 45)), (1, .ref (ad 1))] := hl
  have hN0 := hh.1
  refine lv_aload_n kx kb dX0_prepare_0 rfl (lv_at hl 1 rfl) ?_
  refine lv_aload_n kx kb dX0_prepare_1 rfl (lv_at hl 0 rfl) ?_
  refine w_readVq X M h [] [.ref (ad 1)] ((c_X0_slot l g nx ct ⟨by omega, hh.2.1, hh.2.2⟩ (by omega))) lk_X0_25 hh.2.1 (by omega) rfl rfl ⟨by decide, by decide⟩ hl ⟨Nat.zero_le _, Nat.zero_le _⟩ (Nat.le_of_ble_eq_true rfl) rfl dX0_prepare_2 (fun H locs h => ?_)
  refine w_callSv X M h [.ref (ad 1), .ref (ad (47 + 22 * nx))] [] ((c_X4_copy l g 1 x ⟨by omega, hs.2.1, ⟨by omega, hs.2.2.1.2.1, ⟨by omega, hs.2.2.1.2.2.1.2.1, hs.2.2.1.2.2.1.2.2⟩, ⟨by omega, hs.2.2.1.2.2.2.1.2.1, hs.2.2.1.2.2.2.1.2.2⟩, ⟨by omega, hs.2.2.1.2.2.2.2.1.2.1, hs.2.2.1.2.2.2.2.1.2.2⟩, ⟨by omega, hs.2.2.1.2.2.2.2.2.1.2.1, hs.2.2.1.2.2.2.2.2.1.2.2⟩, ⟨by omega, hs.2.2.1.2.2.2.2.2.2.2.1, hs.2.2.1.2.2.2.2.2.2.2.2⟩⟩, ⟨by omega, hs.2.2.2.1.2.1, ⟨by omega, hs.2.2.2.1.2.2.1.2.1, hs.2.2.2.1.2.2.1.2.2⟩, ⟨by omega, hs.2.2.2.1.2.2.2.1.2.1, hs.2.2.2.1.2.2.2.1.2.2⟩, hs.2.2.2.1.2.2.2.2.1, ⟨by omega, hs.2.2.2.1.2.2.2.2.2.2.1, hs.2.2.2.1.2.2.2.2.2.2.2⟩⟩, ⟨by omega, hs.2.2.2.2.2.1, hs.2.2.2.2.2.2⟩⟩ (47 + 22 * nx) y ⟨by omega, hy.2.1, ⟨by omega, hy.2.2.1.2.1, ⟨by omega, hy.2.2.1.2.2.1.2.1, hy.2.2.1.2.2.1.2.2⟩, ⟨by omega, hy.2.2.1.2.2.2.1.2.1, hy.2.2.1.2.2.2.1.2.2⟩, ⟨by omega, hy.2.2.1.2.2.2.2.1.2.1, hy.2.2.1.2.2.2.2.1.2.2⟩, ⟨by omega, hy.2.2.1.2.2.2.2.2.1.2.1, hy.2.2.1.2.2.2.2.2.1.2.2⟩, ⟨by omega, hy.2.2.1.2.2.2.2.2.2.2.1, hy.2.2.1.2.2.2.2.2.2.2.2⟩⟩, ⟨by omega, hy.2.2.2.1.2.1, ⟨by omega, hy.2.2.2.1.2.2.1.2.1, hy.2.2.2.1.2.2.1.2.2⟩, ⟨by omega, hy.2.2.2.1.2.2.2.1.2.1, hy.2.2.2.1.2.2.2.1.2.2⟩, hy.2.2.2.1.2.2.2.2.1, ⟨by omega, hy.2.2.2.1.2.2.2.2.2.2.1, hy.2.2.2.1.2.2.2.2.2.2.2⟩⟩, ⟨by omega, hy.2.2.2.2.2.1, hy.2.2.2.2.2.2⟩⟩ (by omega))) lk_X0_29 rfl ⟨by decide, by decide⟩ hl ⟨Nat.zero_le _, Nat.zero_le _⟩ (Nat.le_of_ble_eq_true rfl) rfl dX0_prepare_5 (fun F1 H locs hp_F1 h => ?_)
  exact w_vret X h ⟨⟨by omega, hp_F1.1.2.1, ⟨by omega, hp_F1.1.2.2.1.2.1, ⟨by omega, hp_F1.1.2.2.1.2.2.1.2.1, hp_F1.1.2.2.1.2.2.1.2.2⟩, ⟨by omega, hp_F1.1.2.2.1.2.2.2.1.2.1, hp_F1.1.2.2.1.2.2.2.1.2.2⟩, ⟨by omega, hp_F1.1.2.2.1.2.2.2.2.1.2.1, hp_F1.1.2.2.1.2.2.2.2.1.2.2⟩, ⟨by omega, hp_F1.1.2.2.1.2.2.2.2.2.1.2.1, hp_F1.1.2.2.1.2.2.2.2.2.1.2.2⟩, ⟨by omega, hp_F1.1.2.2.1.2.2.2.2.2.2.2.1, hp_F1.1.2.2.1.2.2.2.2.2.2.2.2⟩⟩, ⟨by omega, hp_F1.1.2.2.2.1.2.1, ⟨by omega, hp_F1.1.2.2.2.1.2.2.1.2.1, hp_F1.1.2.2.2.1.2.2.1.2.2⟩, ⟨by omega, hp_F1.1.2.2.2.1.2.2.2.1.2.1, hp_F1.1.2.2.2.1.2.2.2.1.2.2⟩, hp_F1.1.2.2.2.1.2.2.2.2.1, ⟨by omega, hp_F1.1.2.2.2.1.2.2.2.2.2.2.1, hp_F1.1.2.2.2.1.2.2.2.2.2.2.2⟩⟩, ⟨by omega, hp_F1.1.2.2.2.2.2.1, hp_F1.1.2.2.2.2.2.2⟩⟩, (fun q hq => hp_F1.2 q (by omega))⟩ dX0_prepare_8
set_option maxRecDepth 20000 in
theorem c_X0_dismiss (l : Launch) (g : gT) {N : Nat} {ad : Nat → Nat} {F : Nat → va_E} (nx ct : Nat) (hh : oHist g N ad F nx ct) (hnx : nx < 9) (x y : SX) (hs : oSt g N ad F 1 x) (hy : oSt g N ad F (47 + 22 * nx) y) : CtV l yX0_dismiss cX0_dismiss 2 none 4 94 g N ad F [.ref (ad 45), .ref (ad 1)] (fun F' => oSt g N ad F' 1 y ∧ ∀ q, (q < 1 ∨ 22 < q) → F' q = F q) := by
  refine CtV_of (by decide) (Nat.le_of_ble_eq_true rfl) ?_
  intro p e s m args below meth c A H ls X M h hl
  have kx := X.1.1
  have kb := X.1.2.1
  have hl : lv_has ls 2 [(0, .ref (ad 45)), (1, .ref (ad 1))] := hl
  have hN0 := hh.1
  refine lv_aload_n kx kb dX0_dismiss_0 rfl (lv_at hl 0 rfl) ?_
  refine w_readVq X M h [] [] ((c_X0_slot l g nx ct ⟨by omega, hh.2.1, hh.2.2⟩ (by omega))) lk_X0_25 hh.2.1 (by omega) rfl rfl ⟨by decide, by decide⟩ hl ⟨Nat.zero_le _, Nat.zero_le _⟩ (Nat.le_of_ble_eq_true rfl) rfl dX0_dismiss_1 (fun H locs h => ?_)
  refine lv_aload_n kx kb dX0_dismiss_4 rfl (lv_at hl 1 rfl) ?_
  refine w_callSv X M h [.ref (ad (47 + 22 * nx)), .ref (ad 1)] [] ((c_X4_copy l g (47 + 22 * nx) y ⟨by omega, hy.2.1, ⟨by omega, hy.2.2.1.2.1, ⟨by omega, hy.2.2.1.2.2.1.2.1, hy.2.2.1.2.2.1.2.2⟩, ⟨by omega, hy.2.2.1.2.2.2.1.2.1, hy.2.2.1.2.2.2.1.2.2⟩, ⟨by omega, hy.2.2.1.2.2.2.2.1.2.1, hy.2.2.1.2.2.2.2.1.2.2⟩, ⟨by omega, hy.2.2.1.2.2.2.2.2.1.2.1, hy.2.2.1.2.2.2.2.2.1.2.2⟩, ⟨by omega, hy.2.2.1.2.2.2.2.2.2.2.1, hy.2.2.1.2.2.2.2.2.2.2.2⟩⟩, ⟨by omega, hy.2.2.2.1.2.1, ⟨by omega, hy.2.2.2.1.2.2.1.2.1, hy.2.2.2.1.2.2.1.2.2⟩, ⟨by omega, hy.2.2.2.1.2.2.2.1.2.1, hy.2.2.2.1.2.2.2.1.2.2⟩, hy.2.2.2.1.2.2.2.2.1, ⟨by omega, hy.2.2.2.1.2.2.2.2.2.2.1, hy.2.2.2.1.2.2.2.2.2.2.2⟩⟩, ⟨by omega, hy.2.2.2.2.2.1, hy.2.2.2.2.2.2⟩⟩ 1 x ⟨by omega, hs.2.1, ⟨by omega, hs.2.2.1.2.1, ⟨by omega, hs.2.2.1.2.2.1.2.1, hs.2.2.1.2.2.1.2.2⟩, ⟨by omega, hs.2.2.1.2.2.2.1.2.1, hs.2.2.1.2.2.2.1.2.2⟩, ⟨by omega, hs.2.2.1.2.2.2.2.1.2.1, hs.2.2.1.2.2.2.2.1.2.2⟩, ⟨by omega, hs.2.2.1.2.2.2.2.2.1.2.1, hs.2.2.1.2.2.2.2.2.1.2.2⟩, ⟨by omega, hs.2.2.1.2.2.2.2.2.2.2.1, hs.2.2.1.2.2.2.2.2.2.2.2⟩⟩, ⟨by omega, hs.2.2.2.1.2.1, ⟨by omega, hs.2.2.2.1.2.2.1.2.1, hs.2.2.2.1.2.2.1.2.2⟩, ⟨by omega, hs.2.2.2.1.2.2.2.1.2.1, hs.2.2.2.1.2.2.2.1.2.2⟩, hs.2.2.2.1.2.2.2.2.1, ⟨by omega, hs.2.2.2.1.2.2.2.2.2.2.1, hs.2.2.2.1.2.2.2.2.2.2.2⟩⟩, ⟨by omega, hs.2.2.2.2.2.1, hs.2.2.2.2.2.2⟩⟩ (by omega))) lk_X0_29 rfl ⟨by decide, by decide⟩ hl ⟨Nat.zero_le _, Nat.zero_le _⟩ (Nat.le_of_ble_eq_true rfl) rfl dX0_dismiss_5 (fun F1 H locs hp_F1 h => ?_)
  exact w_vret X h ⟨⟨by omega, hp_F1.1.2.1, ⟨by omega, hp_F1.1.2.2.1.2.1, ⟨by omega, hp_F1.1.2.2.1.2.2.1.2.1, hp_F1.1.2.2.1.2.2.1.2.2⟩, ⟨by omega, hp_F1.1.2.2.1.2.2.2.1.2.1, hp_F1.1.2.2.1.2.2.2.1.2.2⟩, ⟨by omega, hp_F1.1.2.2.1.2.2.2.2.1.2.1, hp_F1.1.2.2.1.2.2.2.2.1.2.2⟩, ⟨by omega, hp_F1.1.2.2.1.2.2.2.2.2.1.2.1, hp_F1.1.2.2.1.2.2.2.2.2.1.2.2⟩, ⟨by omega, hp_F1.1.2.2.1.2.2.2.2.2.2.2.1, hp_F1.1.2.2.1.2.2.2.2.2.2.2.2⟩⟩, ⟨by omega, hp_F1.1.2.2.2.1.2.1, ⟨by omega, hp_F1.1.2.2.2.1.2.2.1.2.1, hp_F1.1.2.2.2.1.2.2.1.2.2⟩, ⟨by omega, hp_F1.1.2.2.2.1.2.2.2.1.2.1, hp_F1.1.2.2.2.1.2.2.2.1.2.2⟩, hp_F1.1.2.2.2.1.2.2.2.2.1, ⟨by omega, hp_F1.1.2.2.2.1.2.2.2.2.2.2.1, hp_F1.1.2.2.2.1.2.2.2.2.2.2.2⟩⟩, ⟨by omega, hp_F1.1.2.2.2.2.2.1, hp_F1.1.2.2.2.2.2.2⟩⟩, (fun q hq => hp_F1.2 q (by omega))⟩ dX0_dismiss_8
set_option maxRecDepth 20000 in
theorem c_X0_forget (l : Launch) (g : gT) {N : Nat} {ad : Nat → Nat} {F : Nat → va_E} (nx ct : Nat) (hh : oHist g N ad F nx ct) (hnx : nx < 9)  : CtV l yX0_forget cX0_forget 1 none 0 0 g N ad F [.ref (ad 45)] (fun F' => oHist g N ad F' nx 0 ∧ ∀ q, q ≠ 45 → F' q = F q) := by
  refine CtV_of (by decide) (Nat.le_of_ble_eq_true rfl) ?_
  intro p e s m args below meth c A H ls X M h hl
  have kx := X.1.1
  have kb := X.1.2.1
  have hl : lv_has ls 1 [(0, .ref (ad 45))] := hl
  have hN0 := hh.1
  refine lv_aload_n kx kb dX0_forget_0 rfl (lv_at hl 0 rfl) ?_
  refine lv_iconst (v := nI 0) kx kb dX0_forget_1 (by decide) ?_
  refine w_put X M h 45 hh.2.1 (by omega) fp_X0_21 (rfl) (by rfl) (Nat.le_of_ble_eq_true rfl) dX0_forget_2 (fun F1 H locs h he_F1 hf_F1 => ?_)
  exact w_vret X h ⟨⟨by omega, he_F1, (hh.2.2.fr (hf_F1 46 (by omega)))⟩, (fun q hq => hf_F1 q (by omega))⟩ dX0_forget_5
set_option maxRecDepth 20000 in
theorem c_X0_keep (l : Launch) (g : gT) {N : Nat} {ad : Nat → Nat} {F : Nat → va_E} (nx ct : Nat) (hh : oHist g N ad F nx ct) (hnx : nx < 9) (hct : ct < 1000) : CtV l yX0_keep cX0_keep 1 none 1 21 g N ad F [.ref (ad 45)] (fun F' => oHist g N ad F' (nxUp nx) (min 8 (ct + 1)) ∧ ∀ q, q ≠ 45 → F' q = F q) := by
  refine CtV_of (by decide) (Nat.le_of_ble_eq_true rfl) ?_
  intro p e s m args below meth c A H ls X M h hl
  have kx := X.1.1
  have kb := X.1.2.1
  have hl : lv_has ls 1 [(0, .ref (ad 45))] := hl
  have hN0 := hh.1
  refine lv_aload_n kx kb dX0_keep_0 rfl (lv_at hl 0 rfl) ?_
  refine lv_aload_n kx kb dX0_keep_1 rfl (lv_at hl 0 rfl) ?_
  refine w_get X M h 45 hh.2.1 (by omega) fl_X0_17 rfl dX0_keep_2 ?_
  refine lv_bipush (v := nI 8) kx kb dX0_keep_5 (by decide) ?_
  refine w_cmp_ge (tgt := 19) kx kb (by omega) (by omega) dX0_keep_7 (by decide) (fun c_1 => ?_) (fun c_1 => ?_)
  · refine lv_iconst (v := nI 0) kx kb dX0_keep_19 (by decide) ?_
    have e20 : nxUp nx = 0 := by rw [nxUp, if_neg (by omega)]
    refine w_top (y := nI (nxUp nx)) (by rw [e20]) ?_
    refine w_put X M h 45 hh.2.1 (by omega) fp_X0_17 (rfl) (by rfl) (Nat.le_of_ble_eq_true rfl) dX0_keep_20 (fun F2 H locs h he_F2 hf_F2 => ?_)
    refine lv_aload_n kx kb dX0_keep_23 rfl (lv_at hl 0 rfl) ?_
    refine lv_bipush (v := nI 8) kx kb dX0_keep_24 (by decide) ?_
    refine lv_aload_n kx kb dX0_keep_26 rfl (lv_at hl 0 rfl) ?_
    refine w_get X M h 45 he_F2 (by omega) fl_X0_21 rfl dX0_keep_27 ?_
    refine lv_iconst (v := nI 1) kx kb dX0_keep_30 (by decide) ?_
    refine w_addn kx kb dX0_keep_31 ?_
    refine w_mminn X hl q2_103 (by omega) (by omega) ⟨by decide, by decide⟩ (Nat.le_of_ble_eq_true rfl) ⟨Nat.zero_le _, Nat.zero_le _⟩ dX0_keep_32 ?_
    refine w_put X M h 45 he_F2 (by omega) fp_X0_21 (rfl) (by rfl) (Nat.le_of_ble_eq_true rfl) dX0_keep_35 (fun F3 H locs h he_F3 hf_F3 => ?_)
    exact w_vret X h ⟨⟨by omega, he_F3, ((hh.2.2.fr (hf_F2 46 (by omega))).fr (hf_F3 46 (by omega)))⟩, (fun q hq => (hf_F3 q (by omega)).trans (hf_F2 q (by omega)))⟩ dX0_keep_38
  · refine lv_aload_n kx kb dX0_keep_10 rfl (lv_at hl 0 rfl) ?_
    refine w_get X M h 45 hh.2.1 (by omega) fl_X0_17 rfl dX0_keep_11 ?_
    refine lv_iconst (v := nI 1) kx kb dX0_keep_14 (by decide) ?_
    refine w_addn kx kb dX0_keep_15 ?_
    refine lv_goto (tgt := 20) kx kb dX0_keep_16 (by decide) ?_
    have e20 : nxUp nx = nx + 1 := by rw [nxUp, if_pos c_1]
    refine w_top (y := nI (nxUp nx)) (by rw [e20]) ?_
    refine w_put X M h 45 hh.2.1 (by omega) fp_X0_17 (rfl) (by rfl) (Nat.le_of_ble_eq_true rfl) dX0_keep_20 (fun F4 H locs h he_F4 hf_F4 => ?_)
    refine lv_aload_n kx kb dX0_keep_23 rfl (lv_at hl 0 rfl) ?_
    refine lv_bipush (v := nI 8) kx kb dX0_keep_24 (by decide) ?_
    refine lv_aload_n kx kb dX0_keep_26 rfl (lv_at hl 0 rfl) ?_
    refine w_get X M h 45 he_F4 (by omega) fl_X0_21 rfl dX0_keep_27 ?_
    refine lv_iconst (v := nI 1) kx kb dX0_keep_30 (by decide) ?_
    refine w_addn kx kb dX0_keep_31 ?_
    refine w_mminn X hl q2_103 (by omega) (by omega) ⟨by decide, by decide⟩ (Nat.le_of_ble_eq_true rfl) ⟨Nat.zero_le _, Nat.zero_le _⟩ dX0_keep_32 ?_
    refine w_put X M h 45 he_F4 (by omega) fp_X0_21 (rfl) (by rfl) (Nat.le_of_ble_eq_true rfl) dX0_keep_35 (fun F5 H locs h he_F5 hf_F5 => ?_)
    exact w_vret X h ⟨⟨by omega, he_F5, ((hh.2.2.fr (hf_F4 46 (by omega))).fr (hf_F5 46 (by omega)))⟩, (fun q hq => (hf_F5 q (by omega)).trans (hf_F4 q (by omega)))⟩ dX0_keep_38
set_option maxRecDepth 20000 in
theorem c_X0_takeBack (l : Launch) (g : gT) {N : Nat} {ad : Nat → Nat} {F : Nat → va_E} (nx ct : Nat) (hh : oHist g N ad F nx ct) (hnx : nx < 9) (hct : 0 < ct) (hct2 : ct < 1000) (x y : SX) (hs : oSt g N ad F 1 x) (hy : oSt g N ad F (47 + 22 * nxDn nx) y) : CtV l yX0_takeBack cX0_takeBack 2 none 4 94 g N ad F [.ref (ad 45), .ref (ad 1)] (fun F' => oHist g N ad F' (nxDn nx) (ct - 1) ∧ oSt g N ad F' 1 y ∧ ∀ q, (q < 1 ∨ (22 < q ∧ q ≠ 45)) → F' q = F q) := by
  refine CtV_of (by decide) (Nat.le_of_ble_eq_true rfl) ?_
  intro p e s m args below meth c A H ls X M h hl
  have kx := X.1.1
  have kb := X.1.2.1
  have hl : lv_has ls 2 [(0, .ref (ad 45)), (1, .ref (ad 1))] := hl
  have hN0 := hh.1
  have hd : nxDn nx < 9 := by rw [nxDn]; split <;> omega
  refine lv_aload_n kx kb dX0_takeBack_0 rfl (lv_at hl 0 rfl) ?_
  refine w_get X M h 45 hh.2.1 (by omega) fl_X0_21 rfl dX0_takeBack_1 ?_
  refine w_if_le (tgt := 47) kx kb (by omega) dX0_takeBack_4 (by decide) (fun c_1 => (show False by omega).elim) (fun c_1 => ?_)
  refine lv_aload_n kx kb dX0_takeBack_7 rfl (lv_at hl 0 rfl) ?_
  refine lv_aload_n kx kb dX0_takeBack_8 rfl (lv_at hl 0 rfl) ?_
  refine w_get X M h 45 hh.2.1 (by omega) fl_X0_17 rfl dX0_takeBack_9 ?_
  refine w_if_le (tgt := 24) kx kb (by omega) dX0_takeBack_12 (by decide) (fun c_2 => ?_) (fun c_2 => ?_)
  · refine lv_bipush (v := nI 8) kx kb dX0_takeBack_24 (by decide) ?_
    have e26 : nxDn nx = 8 := by rw [nxDn, if_neg (by omega)]
    refine w_top (y := nI (nxDn nx)) (by rw [e26]) ?_
    refine w_put X M h 45 hh.2.1 (by omega) fp_X0_17 (rfl) (by rfl) (Nat.le_of_ble_eq_true rfl) dX0_takeBack_26 (fun F3 H locs h he_F3 hf_F3 => ?_)
    refine lv_aload_n kx kb dX0_takeBack_29 rfl (lv_at hl 0 rfl) ?_
    refine lv_dup kx kb dX0_takeBack_30 rfl ?_
    refine w_get X M h 45 he_F3 (by omega) fl_X0_21 rfl dX0_takeBack_31 ?_
    refine lv_iconst (v := nI 1) kx kb dX0_takeBack_34 (by decide) ?_
    refine w_subn kx kb (by omega) dX0_takeBack_35 ?_
    refine w_put X M h 45 he_F3 (by omega) fp_X0_21 (rfl) (by rfl) (Nat.le_of_ble_eq_true rfl) dX0_takeBack_36 (fun F4 H locs h he_F4 hf_F4 => ?_)
    refine lv_aload_n kx kb dX0_takeBack_39 rfl (lv_at hl 0 rfl) ?_
    refine w_readVq X M h [] [] ((c_X0_slot l g (nxDn nx) (ct - 1) ⟨by omega, he_F4, ((hh.2.2.fr (hf_F3 46 (by omega))).fr (hf_F4 46 (by omega)))⟩ (by omega))) lk_X0_25 he_F4 (by omega) rfl rfl ⟨by decide, by decide⟩ hl ⟨Nat.zero_le _, Nat.zero_le _⟩ (Nat.le_of_ble_eq_true rfl) rfl dX0_takeBack_40 (fun H locs h => ?_)
    refine lv_aload_n kx kb dX0_takeBack_43 rfl (lv_at hl 1 rfl) ?_
    refine w_callSv X M h [.ref (ad (47 + 22 * (nxDn nx))), .ref (ad 1)] [] ((c_X4_copy l g (47 + 22 * (nxDn nx)) y ⟨by omega, ((hf_F4 (47 + 22 * (nxDn nx)) (by omega)).trans ((hf_F3 (47 + 22 * (nxDn nx)) (by omega)).trans hy.2.1)), ⟨by omega, ((hf_F4 (47 + 22 * (nxDn nx) + 1) (by omega)).trans ((hf_F3 (47 + 22 * (nxDn nx) + 1) (by omega)).trans hy.2.2.1.2.1)), ⟨by omega, ((hf_F4 (47 + 22 * (nxDn nx) + 2) (by omega)).trans ((hf_F3 (47 + 22 * (nxDn nx) + 2) (by omega)).trans hy.2.2.1.2.2.1.2.1)), ((hy.2.2.1.2.2.1.2.2.fr (hf_F3 (47 + 22 * (nxDn nx) + 3) (by omega))).fr (hf_F4 (47 + 22 * (nxDn nx) + 3) (by omega)))⟩, ⟨by omega, ((hf_F4 (47 + 22 * (nxDn nx) + 4) (by omega)).trans ((hf_F3 (47 + 22 * (nxDn nx) + 4) (by omega)).trans hy.2.2.1.2.2.2.1.2.1)), ((hy.2.2.1.2.2.2.1.2.2.fr (hf_F3 (47 + 22 * (nxDn nx) + 5) (by omega))).fr (hf_F4 (47 + 22 * (nxDn nx) + 5) (by omega)))⟩, ⟨by omega, ((hf_F4 (47 + 22 * (nxDn nx) + 6) (by omega)).trans ((hf_F3 (47 + 22 * (nxDn nx) + 6) (by omega)).trans hy.2.2.1.2.2.2.2.1.2.1)), ((hy.2.2.1.2.2.2.2.1.2.2.fr (hf_F3 (47 + 22 * (nxDn nx) + 7) (by omega))).fr (hf_F4 (47 + 22 * (nxDn nx) + 7) (by omega)))⟩, ⟨by omega, ((hf_F4 (47 + 22 * (nxDn nx) + 8) (by omega)).trans ((hf_F3 (47 + 22 * (nxDn nx) + 8) (by omega)).trans hy.2.2.1.2.2.2.2.2.1.2.1)), ((hy.2.2.1.2.2.2.2.2.1.2.2.fr (hf_F3 (47 + 22 * (nxDn nx) + 9) (by omega))).fr (hf_F4 (47 + 22 * (nxDn nx) + 9) (by omega)))⟩, ⟨by omega, ((hf_F4 (47 + 22 * (nxDn nx) + 10) (by omega)).trans ((hf_F3 (47 + 22 * (nxDn nx) + 10) (by omega)).trans hy.2.2.1.2.2.2.2.2.2.2.1)), ((hy.2.2.1.2.2.2.2.2.2.2.2.fr (hf_F3 (47 + 22 * (nxDn nx) + 11) (by omega))).fr (hf_F4 (47 + 22 * (nxDn nx) + 11) (by omega)))⟩⟩, ⟨by omega, ((hf_F4 (47 + 22 * (nxDn nx) + 12) (by omega)).trans ((hf_F3 (47 + 22 * (nxDn nx) + 12) (by omega)).trans hy.2.2.2.1.2.1)), ⟨by omega, ((hf_F4 (47 + 22 * (nxDn nx) + 13) (by omega)).trans ((hf_F3 (47 + 22 * (nxDn nx) + 13) (by omega)).trans hy.2.2.2.1.2.2.1.2.1)), ((hy.2.2.2.1.2.2.1.2.2.fr (hf_F3 (47 + 22 * (nxDn nx) + 14) (by omega))).fr (hf_F4 (47 + 22 * (nxDn nx) + 14) (by omega)))⟩, ⟨by omega, ((hf_F4 (47 + 22 * (nxDn nx) + 15) (by omega)).trans ((hf_F3 (47 + 22 * (nxDn nx) + 15) (by omega)).trans hy.2.2.2.1.2.2.2.1.2.1)), ((hy.2.2.2.1.2.2.2.1.2.2.fr (hf_F3 (47 + 22 * (nxDn nx) + 16) (by omega))).fr (hf_F4 (47 + 22 * (nxDn nx) + 16) (by omega)))⟩, ((hy.2.2.2.1.2.2.2.2.1.fr (hf_F3 (47 + 22 * (nxDn nx) + 17) (by omega))).fr (hf_F4 (47 + 22 * (nxDn nx) + 17) (by omega))), ⟨by omega, ((hf_F4 (47 + 22 * (nxDn nx) + 18) (by omega)).trans ((hf_F3 (47 + 22 * (nxDn nx) + 18) (by omega)).trans hy.2.2.2.1.2.2.2.2.2.2.1)), ((hy.2.2.2.1.2.2.2.2.2.2.2.fr (hf_F3 (47 + 22 * (nxDn nx) + 19) (by omega))).fr (hf_F4 (47 + 22 * (nxDn nx) + 19) (by omega)))⟩⟩, ⟨by omega, ((hf_F4 (47 + 22 * (nxDn nx) + 20) (by omega)).trans ((hf_F3 (47 + 22 * (nxDn nx) + 20) (by omega)).trans hy.2.2.2.2.2.1)), ((hy.2.2.2.2.2.2.fr (hf_F3 (47 + 22 * (nxDn nx) + 21) (by omega))).fr (hf_F4 (47 + 22 * (nxDn nx) + 21) (by omega)))⟩⟩ 1 x ⟨by omega, ((hf_F4 1 (by omega)).trans ((hf_F3 1 (by omega)).trans hs.2.1)), ⟨by omega, ((hf_F4 2 (by omega)).trans ((hf_F3 2 (by omega)).trans hs.2.2.1.2.1)), ⟨by omega, ((hf_F4 3 (by omega)).trans ((hf_F3 3 (by omega)).trans hs.2.2.1.2.2.1.2.1)), ((hs.2.2.1.2.2.1.2.2.fr (hf_F3 4 (by omega))).fr (hf_F4 4 (by omega)))⟩, ⟨by omega, ((hf_F4 5 (by omega)).trans ((hf_F3 5 (by omega)).trans hs.2.2.1.2.2.2.1.2.1)), ((hs.2.2.1.2.2.2.1.2.2.fr (hf_F3 6 (by omega))).fr (hf_F4 6 (by omega)))⟩, ⟨by omega, ((hf_F4 7 (by omega)).trans ((hf_F3 7 (by omega)).trans hs.2.2.1.2.2.2.2.1.2.1)), ((hs.2.2.1.2.2.2.2.1.2.2.fr (hf_F3 8 (by omega))).fr (hf_F4 8 (by omega)))⟩, ⟨by omega, ((hf_F4 9 (by omega)).trans ((hf_F3 9 (by omega)).trans hs.2.2.1.2.2.2.2.2.1.2.1)), ((hs.2.2.1.2.2.2.2.2.1.2.2.fr (hf_F3 10 (by omega))).fr (hf_F4 10 (by omega)))⟩, ⟨by omega, ((hf_F4 11 (by omega)).trans ((hf_F3 11 (by omega)).trans hs.2.2.1.2.2.2.2.2.2.2.1)), ((hs.2.2.1.2.2.2.2.2.2.2.2.fr (hf_F3 12 (by omega))).fr (hf_F4 12 (by omega)))⟩⟩, ⟨by omega, ((hf_F4 13 (by omega)).trans ((hf_F3 13 (by omega)).trans hs.2.2.2.1.2.1)), ⟨by omega, ((hf_F4 14 (by omega)).trans ((hf_F3 14 (by omega)).trans hs.2.2.2.1.2.2.1.2.1)), ((hs.2.2.2.1.2.2.1.2.2.fr (hf_F3 15 (by omega))).fr (hf_F4 15 (by omega)))⟩, ⟨by omega, ((hf_F4 16 (by omega)).trans ((hf_F3 16 (by omega)).trans hs.2.2.2.1.2.2.2.1.2.1)), ((hs.2.2.2.1.2.2.2.1.2.2.fr (hf_F3 17 (by omega))).fr (hf_F4 17 (by omega)))⟩, ((hs.2.2.2.1.2.2.2.2.1.fr (hf_F3 18 (by omega))).fr (hf_F4 18 (by omega))), ⟨by omega, ((hf_F4 19 (by omega)).trans ((hf_F3 19 (by omega)).trans hs.2.2.2.1.2.2.2.2.2.2.1)), ((hs.2.2.2.1.2.2.2.2.2.2.2.fr (hf_F3 20 (by omega))).fr (hf_F4 20 (by omega)))⟩⟩, ⟨by omega, ((hf_F4 21 (by omega)).trans ((hf_F3 21 (by omega)).trans hs.2.2.2.2.2.1)), ((hs.2.2.2.2.2.2.fr (hf_F3 22 (by omega))).fr (hf_F4 22 (by omega)))⟩⟩ (by omega))) lk_X0_29 rfl ⟨by decide, by decide⟩ hl ⟨Nat.zero_le _, Nat.zero_le _⟩ (Nat.le_of_ble_eq_true rfl) rfl dX0_takeBack_44 (fun F5 H locs hp_F5 h => ?_)
    exact w_vret X h ⟨⟨by omega, ((hp_F5.2 45 (by omega)).trans he_F4), (((hh.2.2.fr (hf_F3 46 (by omega))).fr (hf_F4 46 (by omega))).fr (hp_F5.2 46 (by omega)))⟩, ⟨by omega, hp_F5.1.2.1, ⟨by omega, hp_F5.1.2.2.1.2.1, ⟨by omega, hp_F5.1.2.2.1.2.2.1.2.1, hp_F5.1.2.2.1.2.2.1.2.2⟩, ⟨by omega, hp_F5.1.2.2.1.2.2.2.1.2.1, hp_F5.1.2.2.1.2.2.2.1.2.2⟩, ⟨by omega, hp_F5.1.2.2.1.2.2.2.2.1.2.1, hp_F5.1.2.2.1.2.2.2.2.1.2.2⟩, ⟨by omega, hp_F5.1.2.2.1.2.2.2.2.2.1.2.1, hp_F5.1.2.2.1.2.2.2.2.2.1.2.2⟩, ⟨by omega, hp_F5.1.2.2.1.2.2.2.2.2.2.2.1, hp_F5.1.2.2.1.2.2.2.2.2.2.2.2⟩⟩, ⟨by omega, hp_F5.1.2.2.2.1.2.1, ⟨by omega, hp_F5.1.2.2.2.1.2.2.1.2.1, hp_F5.1.2.2.2.1.2.2.1.2.2⟩, ⟨by omega, hp_F5.1.2.2.2.1.2.2.2.1.2.1, hp_F5.1.2.2.2.1.2.2.2.1.2.2⟩, hp_F5.1.2.2.2.1.2.2.2.2.1, ⟨by omega, hp_F5.1.2.2.2.1.2.2.2.2.2.2.1, hp_F5.1.2.2.2.1.2.2.2.2.2.2.2⟩⟩, ⟨by omega, hp_F5.1.2.2.2.2.2.1, hp_F5.1.2.2.2.2.2.2⟩⟩, (fun q hq => (hp_F5.2 q (by omega)).trans ((hf_F4 q (by omega)).trans (hf_F3 q (by omega))))⟩ dX0_takeBack_47
  · refine lv_aload_n kx kb dX0_takeBack_15 rfl (lv_at hl 0 rfl) ?_
    refine w_get X M h 45 hh.2.1 (by omega) fl_X0_17 rfl dX0_takeBack_16 ?_
    refine lv_iconst (v := nI 1) kx kb dX0_takeBack_19 (by decide) ?_
    refine w_subn kx kb (by omega) dX0_takeBack_20 ?_
    refine lv_goto (tgt := 26) kx kb dX0_takeBack_21 (by decide) ?_
    have e26 : nxDn nx = nx - 1 := by rw [nxDn, if_pos c_2]
    refine w_top (y := nI (nxDn nx)) (by rw [e26]) ?_
    refine w_put X M h 45 hh.2.1 (by omega) fp_X0_17 (rfl) (by rfl) (Nat.le_of_ble_eq_true rfl) dX0_takeBack_26 (fun F6 H locs h he_F6 hf_F6 => ?_)
    refine lv_aload_n kx kb dX0_takeBack_29 rfl (lv_at hl 0 rfl) ?_
    refine lv_dup kx kb dX0_takeBack_30 rfl ?_
    refine w_get X M h 45 he_F6 (by omega) fl_X0_21 rfl dX0_takeBack_31 ?_
    refine lv_iconst (v := nI 1) kx kb dX0_takeBack_34 (by decide) ?_
    refine w_subn kx kb (by omega) dX0_takeBack_35 ?_
    refine w_put X M h 45 he_F6 (by omega) fp_X0_21 (rfl) (by rfl) (Nat.le_of_ble_eq_true rfl) dX0_takeBack_36 (fun F7 H locs h he_F7 hf_F7 => ?_)
    refine lv_aload_n kx kb dX0_takeBack_39 rfl (lv_at hl 0 rfl) ?_
    refine w_readVq X M h [] [] ((c_X0_slot l g (nxDn nx) (ct - 1) ⟨by omega, he_F7, ((hh.2.2.fr (hf_F6 46 (by omega))).fr (hf_F7 46 (by omega)))⟩ (by omega))) lk_X0_25 he_F7 (by omega) rfl rfl ⟨by decide, by decide⟩ hl ⟨Nat.zero_le _, Nat.zero_le _⟩ (Nat.le_of_ble_eq_true rfl) rfl dX0_takeBack_40 (fun H locs h => ?_)
    refine lv_aload_n kx kb dX0_takeBack_43 rfl (lv_at hl 1 rfl) ?_
    refine w_callSv X M h [.ref (ad (47 + 22 * (nxDn nx))), .ref (ad 1)] [] ((c_X4_copy l g (47 + 22 * (nxDn nx)) y ⟨by omega, ((hf_F7 (47 + 22 * (nxDn nx)) (by omega)).trans ((hf_F6 (47 + 22 * (nxDn nx)) (by omega)).trans hy.2.1)), ⟨by omega, ((hf_F7 (47 + 22 * (nxDn nx) + 1) (by omega)).trans ((hf_F6 (47 + 22 * (nxDn nx) + 1) (by omega)).trans hy.2.2.1.2.1)), ⟨by omega, ((hf_F7 (47 + 22 * (nxDn nx) + 2) (by omega)).trans ((hf_F6 (47 + 22 * (nxDn nx) + 2) (by omega)).trans hy.2.2.1.2.2.1.2.1)), ((hy.2.2.1.2.2.1.2.2.fr (hf_F6 (47 + 22 * (nxDn nx) + 3) (by omega))).fr (hf_F7 (47 + 22 * (nxDn nx) + 3) (by omega)))⟩, ⟨by omega, ((hf_F7 (47 + 22 * (nxDn nx) + 4) (by omega)).trans ((hf_F6 (47 + 22 * (nxDn nx) + 4) (by omega)).trans hy.2.2.1.2.2.2.1.2.1)), ((hy.2.2.1.2.2.2.1.2.2.fr (hf_F6 (47 + 22 * (nxDn nx) + 5) (by omega))).fr (hf_F7 (47 + 22 * (nxDn nx) + 5) (by omega)))⟩, ⟨by omega, ((hf_F7 (47 + 22 * (nxDn nx) + 6) (by omega)).trans ((hf_F6 (47 + 22 * (nxDn nx) + 6) (by omega)).trans hy.2.2.1.2.2.2.2.1.2.1)), ((hy.2.2.1.2.2.2.2.1.2.2.fr (hf_F6 (47 + 22 * (nxDn nx) + 7) (by omega))).fr (hf_F7 (47 + 22 * (nxDn nx) + 7) (by omega)))⟩, ⟨by omega, ((hf_F7 (47 + 22 * (nxDn nx) + 8) (by omega)).trans ((hf_F6 (47 + 22 * (nxDn nx) + 8) (by omega)).trans hy.2.2.1.2.2.2.2.2.1.2.1)), ((hy.2.2.1.2.2.2.2.2.1.2.2.fr (hf_F6 (47 + 22 * (nxDn nx) + 9) (by omega))).fr (hf_F7 (47 + 22 * (nxDn nx) + 9) (by omega)))⟩, ⟨by omega, ((hf_F7 (47 + 22 * (nxDn nx) + 10) (by omega)).trans ((hf_F6 (47 + 22 * (nxDn nx) + 10) (by omega)).trans hy.2.2.1.2.2.2.2.2.2.2.1)), ((hy.2.2.1.2.2.2.2.2.2.2.2.fr (hf_F6 (47 + 22 * (nxDn nx) + 11) (by omega))).fr (hf_F7 (47 + 22 * (nxDn nx) + 11) (by omega)))⟩⟩, ⟨by omega, ((hf_F7 (47 + 22 * (nxDn nx) + 12) (by omega)).trans ((hf_F6 (47 + 22 * (nxDn nx) + 12) (by omega)).trans hy.2.2.2.1.2.1)), ⟨by omega, ((hf_F7 (47 + 22 * (nxDn nx) + 13) (by omega)).trans ((hf_F6 (47 + 22 * (nxDn nx) + 13) (by omega)).trans hy.2.2.2.1.2.2.1.2.1)), ((hy.2.2.2.1.2.2.1.2.2.fr (hf_F6 (47 + 22 * (nxDn nx) + 14) (by omega))).fr (hf_F7 (47 + 22 * (nxDn nx) + 14) (by omega)))⟩, ⟨by omega, ((hf_F7 (47 + 22 * (nxDn nx) + 15) (by omega)).trans ((hf_F6 (47 + 22 * (nxDn nx) + 15) (by omega)).trans hy.2.2.2.1.2.2.2.1.2.1)), ((hy.2.2.2.1.2.2.2.1.2.2.fr (hf_F6 (47 + 22 * (nxDn nx) + 16) (by omega))).fr (hf_F7 (47 + 22 * (nxDn nx) + 16) (by omega)))⟩, ((hy.2.2.2.1.2.2.2.2.1.fr (hf_F6 (47 + 22 * (nxDn nx) + 17) (by omega))).fr (hf_F7 (47 + 22 * (nxDn nx) + 17) (by omega))), ⟨by omega, ((hf_F7 (47 + 22 * (nxDn nx) + 18) (by omega)).trans ((hf_F6 (47 + 22 * (nxDn nx) + 18) (by omega)).trans hy.2.2.2.1.2.2.2.2.2.2.1)), ((hy.2.2.2.1.2.2.2.2.2.2.2.fr (hf_F6 (47 + 22 * (nxDn nx) + 19) (by omega))).fr (hf_F7 (47 + 22 * (nxDn nx) + 19) (by omega)))⟩⟩, ⟨by omega, ((hf_F7 (47 + 22 * (nxDn nx) + 20) (by omega)).trans ((hf_F6 (47 + 22 * (nxDn nx) + 20) (by omega)).trans hy.2.2.2.2.2.1)), ((hy.2.2.2.2.2.2.fr (hf_F6 (47 + 22 * (nxDn nx) + 21) (by omega))).fr (hf_F7 (47 + 22 * (nxDn nx) + 21) (by omega)))⟩⟩ 1 x ⟨by omega, ((hf_F7 1 (by omega)).trans ((hf_F6 1 (by omega)).trans hs.2.1)), ⟨by omega, ((hf_F7 2 (by omega)).trans ((hf_F6 2 (by omega)).trans hs.2.2.1.2.1)), ⟨by omega, ((hf_F7 3 (by omega)).trans ((hf_F6 3 (by omega)).trans hs.2.2.1.2.2.1.2.1)), ((hs.2.2.1.2.2.1.2.2.fr (hf_F6 4 (by omega))).fr (hf_F7 4 (by omega)))⟩, ⟨by omega, ((hf_F7 5 (by omega)).trans ((hf_F6 5 (by omega)).trans hs.2.2.1.2.2.2.1.2.1)), ((hs.2.2.1.2.2.2.1.2.2.fr (hf_F6 6 (by omega))).fr (hf_F7 6 (by omega)))⟩, ⟨by omega, ((hf_F7 7 (by omega)).trans ((hf_F6 7 (by omega)).trans hs.2.2.1.2.2.2.2.1.2.1)), ((hs.2.2.1.2.2.2.2.1.2.2.fr (hf_F6 8 (by omega))).fr (hf_F7 8 (by omega)))⟩, ⟨by omega, ((hf_F7 9 (by omega)).trans ((hf_F6 9 (by omega)).trans hs.2.2.1.2.2.2.2.2.1.2.1)), ((hs.2.2.1.2.2.2.2.2.1.2.2.fr (hf_F6 10 (by omega))).fr (hf_F7 10 (by omega)))⟩, ⟨by omega, ((hf_F7 11 (by omega)).trans ((hf_F6 11 (by omega)).trans hs.2.2.1.2.2.2.2.2.2.2.1)), ((hs.2.2.1.2.2.2.2.2.2.2.2.fr (hf_F6 12 (by omega))).fr (hf_F7 12 (by omega)))⟩⟩, ⟨by omega, ((hf_F7 13 (by omega)).trans ((hf_F6 13 (by omega)).trans hs.2.2.2.1.2.1)), ⟨by omega, ((hf_F7 14 (by omega)).trans ((hf_F6 14 (by omega)).trans hs.2.2.2.1.2.2.1.2.1)), ((hs.2.2.2.1.2.2.1.2.2.fr (hf_F6 15 (by omega))).fr (hf_F7 15 (by omega)))⟩, ⟨by omega, ((hf_F7 16 (by omega)).trans ((hf_F6 16 (by omega)).trans hs.2.2.2.1.2.2.2.1.2.1)), ((hs.2.2.2.1.2.2.2.1.2.2.fr (hf_F6 17 (by omega))).fr (hf_F7 17 (by omega)))⟩, ((hs.2.2.2.1.2.2.2.2.1.fr (hf_F6 18 (by omega))).fr (hf_F7 18 (by omega))), ⟨by omega, ((hf_F7 19 (by omega)).trans ((hf_F6 19 (by omega)).trans hs.2.2.2.1.2.2.2.2.2.2.1)), ((hs.2.2.2.1.2.2.2.2.2.2.2.fr (hf_F6 20 (by omega))).fr (hf_F7 20 (by omega)))⟩⟩, ⟨by omega, ((hf_F7 21 (by omega)).trans ((hf_F6 21 (by omega)).trans hs.2.2.2.2.2.1)), ((hs.2.2.2.2.2.2.fr (hf_F6 22 (by omega))).fr (hf_F7 22 (by omega)))⟩⟩ (by omega))) lk_X0_29 rfl ⟨by decide, by decide⟩ hl ⟨Nat.zero_le _, Nat.zero_le _⟩ (Nat.le_of_ble_eq_true rfl) rfl dX0_takeBack_44 (fun F8 H locs hp_F8 h => ?_)
    exact w_vret X h ⟨⟨by omega, ((hp_F8.2 45 (by omega)).trans he_F7), (((hh.2.2.fr (hf_F6 46 (by omega))).fr (hf_F7 46 (by omega))).fr (hp_F8.2 46 (by omega)))⟩, ⟨by omega, hp_F8.1.2.1, ⟨by omega, hp_F8.1.2.2.1.2.1, ⟨by omega, hp_F8.1.2.2.1.2.2.1.2.1, hp_F8.1.2.2.1.2.2.1.2.2⟩, ⟨by omega, hp_F8.1.2.2.1.2.2.2.1.2.1, hp_F8.1.2.2.1.2.2.2.1.2.2⟩, ⟨by omega, hp_F8.1.2.2.1.2.2.2.2.1.2.1, hp_F8.1.2.2.1.2.2.2.2.1.2.2⟩, ⟨by omega, hp_F8.1.2.2.1.2.2.2.2.2.1.2.1, hp_F8.1.2.2.1.2.2.2.2.2.1.2.2⟩, ⟨by omega, hp_F8.1.2.2.1.2.2.2.2.2.2.2.1, hp_F8.1.2.2.1.2.2.2.2.2.2.2.2⟩⟩, ⟨by omega, hp_F8.1.2.2.2.1.2.1, ⟨by omega, hp_F8.1.2.2.2.1.2.2.1.2.1, hp_F8.1.2.2.2.1.2.2.1.2.2⟩, ⟨by omega, hp_F8.1.2.2.2.1.2.2.2.1.2.1, hp_F8.1.2.2.2.1.2.2.2.1.2.2⟩, hp_F8.1.2.2.2.1.2.2.2.2.1, ⟨by omega, hp_F8.1.2.2.2.1.2.2.2.2.2.2.1, hp_F8.1.2.2.2.1.2.2.2.2.2.2.2⟩⟩, ⟨by omega, hp_F8.1.2.2.2.2.2.1, hp_F8.1.2.2.2.2.2.2⟩⟩, (fun q hq => (hp_F8.2 q (by omega)).trans ((hf_F7 q (by omega)).trans (hf_F6 q (by omega))))⟩ dX0_takeBack_47
