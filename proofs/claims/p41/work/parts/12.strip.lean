set_option maxRecDepth 20000 in
theorem c_X5_clear (l : Launch) (g : gT) {N : Nat} {ad : Nat → Nat} {F : Nat → va_E} (i n : Nat) (a : Nat → Int32) (ho : oStrip g N ad F i n a)  : CtV l yX5_clear cX5_clear 1 none 0 0 g N ad F [.ref (ad i)] (fun F' => oStrip g N ad F' i 0 a ∧ ∀ q, (q < i ∨ i + 1 < q) → F' q = F q) := by
  refine CtV_of (by decide) (Nat.le_of_ble_eq_true rfl) ?_
  intro p e s m args below meth c A H ls X M h hl
  have kx := X.1.1
  have kb := X.1.2.1
  have hl : lv_has ls 1 [(0, .ref (ad i))] := hl
  have hN := ho.1
  refine lv_aload_n kx kb dX5_clear_0 rfl (lv_at hl 0 rfl) ?_
  refine lv_iconst (v := nI 0) kx kb dX5_clear_1 (by decide) ?_
  refine w_put X M h i ho.2.1 (by omega) fp_X5_15 (rfl) (by rfl) (Nat.le_of_ble_eq_true rfl) dX5_clear_2 (fun F1 H locs h he_F1 hf_F1 => ?_)
  exact w_vret X h ⟨⟨by omega, he_F1, (ho.2.2.fr (hf_F1 (i + 1) (by omega)))⟩, (fun q hq => hf_F1 q (by omega))⟩ dX5_clear_5
set_option maxRecDepth 20000 in
theorem c_X5_putSign (l : Launch) (g : gT) {N : Nat} {ad : Nat → Nat} {F : Nat → va_E} (i n : Nat) (a : Nat → Int32) (ho : oStrip g N ad F i n a) (ch : Int32) (hn : n < 60) (hc : vp_nar .char ch = ch) : CtV l yX5_putSign cX5_putSign 2 none 0 0 g N ad F [.ref (ad i), .int ch] (fun F' => oStrip g N ad F' i (n + 1) (upd a n ch) ∧ ∀ q, (q < i ∨ i + 1 < q) → F' q = F q) := by
  refine CtV_of (by decide) (Nat.le_of_ble_eq_true rfl) ?_
  intro p e s m args below meth c A H ls X M h hl
  have kx := X.1.1
  have kb := X.1.2.1
  have hl : lv_has ls 2 [(0, .ref (ad i)), (1, .int ch)] := hl
  have hN := ho.1
  refine lv_aload_n kx kb dX5_putSign_0 rfl (lv_at hl 0 rfl) ?_
  refine w_get X M h i ho.2.1 (by omega) fl_X5_15 rfl dX5_putSign_1 ?_
  refine w_if_lt (tgt := 39) kx kb (by omega) dX5_putSign_4 (by decide) ?_
  refine lv_aload_n kx kb dX5_putSign_7 rfl (lv_at hl 0 rfl) ?_
  refine w_get X M h i ho.2.1 (by omega) fl_X5_15 rfl dX5_putSign_8 ?_
  refine lv_aload_n kx kb dX5_putSign_11 rfl (lv_at hl 0 rfl) ?_
  refine w_get X M h i ho.2.1 (by omega) fl_X5_9 rfl dX5_putSign_12 ?_
  refine w_alenc X M h (i + 1) ho.2.2 (by omega) dX5_putSign_15 ?_
  refine w_cmp_ge (tgt := 39) kx kb (by omega) (by omega) dX5_putSign_16 (by decide) (fun c_1 => (show False by omega).elim) (fun c_1 => ?_)
  refine lv_aload_n kx kb dX5_putSign_19 rfl (lv_at hl 0 rfl) ?_
  refine w_get X M h i ho.2.1 (by omega) fl_X5_9 rfl dX5_putSign_20 ?_
  refine lv_aload_n kx kb dX5_putSign_23 rfl (lv_at hl 0 rfl) ?_
  refine w_get X M h i ho.2.1 (by omega) fl_X5_15 rfl dX5_putSign_24 ?_
  refine lv_iload_n kx kb dX5_putSign_27 rfl (lv_at hl 1 rfl) ?_
  refine w_cast X M h (i + 1) ho.2.2 (by omega) (n) (rfl) (by omega) (by omega) (hc) dX5_putSign_28 (fun F2 H locs h he_F2 hf_F2 => ?_)
  refine lv_aload_n kx kb dX5_putSign_29 rfl (lv_at hl 0 rfl) ?_
  refine lv_dup kx kb dX5_putSign_30 rfl ?_
  refine w_get X M h i ((hf_F2 i (by omega)).trans ho.2.1) (by omega) fl_X5_15 rfl dX5_putSign_31 ?_
  refine lv_iconst (v := nI 1) kx kb dX5_putSign_34 (by decide) ?_
  refine w_addn kx kb dX5_putSign_35 ?_
  refine w_put X M h i ((hf_F2 i (by omega)).trans ho.2.1) (by omega) fp_X5_15 (rfl) (by rfl) (Nat.le_of_ble_eq_true rfl) dX5_putSign_36 (fun F3 H locs h he_F3 hf_F3 => ?_)
  exact w_vret X h ⟨⟨by omega, he_F3, (he_F2.fr (hf_F3 (i + 1) (by omega)))⟩, (fun q hq => (hf_F3 q (by omega)).trans (hf_F2 q (by omega)))⟩ dX5_putSign_39
set_option maxRecDepth 20000 in
theorem c_X5_signAt (l : Launch) (g : gT) {N : Nat} {ad : Nat → Nat} {F : Nat → va_E} (i n : Nat) (a : Nat → Int32) (ho : oStrip g N ad F i n a) (x : Int32) (hn : n ≤ 60) : CtI l yX5_signAt cX5_signAt 2 (some .int) 0 0 g N ad F [.ref (ad i), .int x] (fun r F' => r = sgAt n a x ∧ F' = F) := by
  refine CtI_of (by decide) (Nat.le_of_ble_eq_true rfl) ?_
  intro p e s m args below meth c A H ls X M h hl
  have kx := X.1.1
  have kb := X.1.2.1
  have hl : lv_has ls 2 [(0, .ref (ad i)), (1, .int x)] := hl
  have hN := ho.1
  refine lv_iload_n kx kb dX5_signAt_0 rfl (lv_at hl 1 rfl) ?_
  refine lv_if_lt (tgt := 30) kx kb dX5_signAt_1 (by decide) (fun c_1 => ?_) (fun c_1 => ?_)
  · refine lv_iconst (v := (-1)) kx kb dX5_signAt_30 (by decide) ?_
    exact w_iret X h ⟨by simp [sgAt, c_1], rfl⟩ dX5_signAt_31
  · refine lv_iload_n kx kb dX5_signAt_4 rfl (lv_at hl 1 rfl) ?_
    refine lv_aload_n kx kb dX5_signAt_5 rfl (lv_at hl 0 rfl) ?_
    refine w_get X M h i ho.2.1 (by omega) fl_X5_15 rfl dX5_signAt_6 ?_
    refine lv_icmp_ge (tgt := 30) kx kb dX5_signAt_9 (by decide) (fun c_2 => ?_) (fun c_2 => ?_)
    · refine lv_iconst (v := (-1)) kx kb dX5_signAt_30 (by decide) ?_
      exact w_iret X h ⟨by simp [sgAt, c_1, c_2], rfl⟩ dX5_signAt_31
    · obtain ⟨k, hk, rfl⟩ := ix_of c_1 c_2 (by omega)
      refine lv_iload_n kx kb dX5_signAt_12 rfl (lv_at hl 1 rfl) ?_
      refine lv_aload_n kx kb dX5_signAt_13 rfl (lv_at hl 0 rfl) ?_
      refine w_get X M h i ho.2.1 (by omega) fl_X5_9 rfl dX5_signAt_14 ?_
      refine w_alenc X M h (i + 1) ho.2.2 (by omega) dX5_signAt_17 ?_
      refine w_cmp_ge (tgt := 30) kx kb (by omega) (by omega) dX5_signAt_18 (by decide) (fun c_3 => (show False by omega).elim) (fun c_3 => ?_)
      refine lv_aload_n kx kb dX5_signAt_21 rfl (lv_at hl 0 rfl) ?_
      refine w_get X M h i ho.2.1 (by omega) fl_X5_9 rfl dX5_signAt_22 ?_
      refine lv_iload_n kx kb dX5_signAt_25 rfl (lv_at hl 1 rfl) ?_
      refine w_cald X M h (i + 1) ho.2.2 (by omega) (k) (rfl) (by omega) (by omega) dX5_signAt_26 ?_
      refine lv_goto (tgt := 31) kx kb dX5_signAt_27 (by decide) ?_
      exact w_iret X h ⟨by rw [sgAt_n (by omega) (by omega), if_pos hk], rfl⟩ dX5_signAt_31
