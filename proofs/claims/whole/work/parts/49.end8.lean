def vIn (v : Nat → Nat) (n : Nat) : Nat → Nat := fun i => match i with
  | 3 => n
  | i => v i
def vUn (v : Nat → Nat) : Nat → Nat := fun i => match i with
  | 0 => v 0 - 1
  | i => v i
def vRs (v : Nat → Nat) : Nat → Nat := fun i => match i with
  | 0 => 0
  | 1 => 0
  | i => v i
def uSv (u : Nat → Int32) : Nat → Int32 := fun i => match i with
  | 6 => nI 1
  | i => u i
def uFt (u : Nat → Int32) (k : Nat) : Nat → Int32 := fun i => match i with
  | 7 => nI k
  | i => u i
def uRf (u : Nat → Int32) (k : Nat) (c : Int32) : Nat → Int32 := fun i => match i with
  | 0 => nI 9
  | 1 => nI k
  | 2 => if c = -5 then u 4 else nI 0
  | 3 => u 5
  | i => u i
set_option maxRecDepth 20000 in
theorem c_X8_append (l : Launch) (g : gT) {N : Nat} {ad : Nat → Nat} {F : Nat → va_E} (u : Nat → Int32) (v : Nat → Nat) (hm : oM g N ad F u v) (ia : Nat → Int32) (hA : arC g F 261 60 ia) (h3 : v 3 ≤ 60) (ch : Int32) (hc : vp_nar .char ch = ch) : CtI l yX8_append cX8_append 2 (some .int) 1 22 g N ad F [.ref (ad 254), .int ch] (fun r F' => r = (if inW ch (nI 32) (nI 126) then (if v 3 < 60 then nI (v 3 + 1) else -4) else -2) ∧ oM g N ad F' u (vIn v (if inW ch (nI 32) (nI 126) then (if v 3 < 60 then v 3 + 1 else v 3) else v 3)) ∧ arC g F' 261 60 (if inW ch (nI 32) (nI 126) then (if v 3 < 60 then upd ia (v 3) ch else ia) else ia) ∧ ∀ i, i ≠ 254 → i ≠ 261 → F' i = F i) := by
  refine CtI_of (by decide) (Nat.le_of_ble_eq_true rfl) ?_
  intro p e s m args below meth c A H ls X M h hl
  have kx := X.1.1
  have kb := X.1.2.1
  have hl : lv_has ls 2 [(0, .ref (ad 254)), (1, .int ch)] := hl
  have hN0 := hm.1
  refine lv_iload_n kx kb dX8_append_0 rfl (lv_at hl 1 rfl) ?_
  refine lv_bipush (v := nI 32) kx kb dX8_append_1 (by decide) ?_
  refine lv_bipush (v := nI 126) kx kb dX8_append_3 (by decide) ?_
  refine w_readSi X M h [.int ch, .int (nI 32), .int (nI 126)] [] ((c_X8_isBetween l g ch (nI 32) (nI 126))) lk_X8_19 rfl ⟨by decide, by decide⟩ hl ⟨Nat.zero_le _, Nat.zero_le _⟩ (Nat.le_of_ble_eq_true rfl) rfl dX8_append_5 (fun H locs h => ?_)
  refine w_if_neb (tgt := 14) kx kb dX8_append_8 (by decide) (fun c_1 => ?_) (fun c_1 => ?_)
  · refine lv_aload_n kx kb dX8_append_14 rfl (lv_at hl 0 rfl) ?_
    refine w_get X M h 254 hm.2 (by omega) fl_X8_218 rfl dX8_append_15 ?_
    refine lv_bipush (v := nI 60) kx kb dX8_append_18 (by decide) ?_
    refine w_cmp_ne (tgt := 26) kx kb (by omega) (by omega) dX8_append_20 (by decide) (fun c_2 => ?_) (fun c_2 => ?_)
    · refine lv_aload_n kx kb dX8_append_26 rfl (lv_at hl 0 rfl) ?_
      refine w_get X M h 254 hm.2 (by omega) fl_X8_52 rfl dX8_append_27 ?_
      refine lv_aload_n kx kb dX8_append_30 rfl (lv_at hl 0 rfl) ?_
      refine w_get X M h 254 hm.2 (by omega) fl_X8_218 rfl dX8_append_31 ?_
      refine lv_iload_n kx kb dX8_append_34 rfl (lv_at hl 1 rfl) ?_
      refine w_cast X M h 261 hA (by omega) (v 3) (rfl) (by omega) (by omega) (hc) dX8_append_35 (fun F3 H locs h he_F3 hf_F3 => ?_)
      refine lv_aload_n kx kb dX8_append_36 rfl (lv_at hl 0 rfl) ?_
      refine lv_dup kx kb dX8_append_37 rfl ?_
      refine w_get X M h 254 ((hf_F3 254 (by omega)).trans hm.2) (by omega) fl_X8_218 rfl dX8_append_38 ?_
      refine lv_iconst (v := nI 1) kx kb dX8_append_41 (by decide) ?_
      refine w_addn kx kb dX8_append_42 ?_
      refine w_put X M h 254 ((hf_F3 254 (by omega)).trans hm.2) (by omega) fp_X8_218 (rfl) (by rfl) (Nat.le_of_ble_eq_true rfl) dX8_append_43 (fun F4 H locs h he_F4 hf_F4 => ?_)
      refine lv_aload_n kx kb dX8_append_46 rfl (lv_at hl 0 rfl) ?_
      refine w_get X M h 254 he_F4 (by omega) fl_X8_218 rfl dX8_append_47 ?_
      exact w_iret X h (by rw [if_pos c_1, if_pos (show v 3 < 60 by omega), if_pos c_1, if_pos (show v 3 < 60 by omega), if_pos c_1, if_pos (show v 3 < 60 by omega)]; exact ⟨rfl, ⟨by omega, he_F4⟩, (he_F3.fr (hf_F4 261 (by omega))), (fun i hi0 hi1 => (hf_F4 i (by omega)).trans (hf_F3 i (by omega)))⟩) dX8_append_50
    · refine lv_bipush (v := (-4)) kx kb dX8_append_23 (by decide) ?_
      exact w_iret X h (by rw [if_pos c_1, if_neg (show ¬ v 3 < 60 by omega), if_pos c_1, if_neg (show ¬ v 3 < 60 by omega), if_pos c_1, if_neg (show ¬ v 3 < 60 by omega)]; exact ⟨rfl, ⟨by omega, hm.2⟩, hA, (fun i hi0 hi1 => rfl)⟩) dX8_append_25
  · refine lv_bipush (v := (-2)) kx kb dX8_append_11 (by decide) ?_
    exact w_iret X h (by rw [if_neg c_1, if_neg c_1, if_neg c_1]; exact ⟨rfl, ⟨by omega, hm.2⟩, hA, (fun i hi0 hi1 => rfl)⟩) dX8_append_13
set_option maxRecDepth 20000 in
theorem c_X8_refuses (l : Launch) (g : gT) {N : Nat} {ad : Nat → Nat} {F : Nat → va_E} (u : Nat → Int32) (v : Nat → Nat) (hm : oM g N ad F u v) (c9 : Int32) : CtI l yX8_refuses cX8_refuses 2 (some .int) 0 0 g N ad F [.ref (ad 254), .int c9] (fun r F' => r = -5 ∧ oM g N ad F' (uRf u (v 5) c9) v ∧ ∀ i, i ≠ 254 → F' i = F i) := by
  refine CtI_of (by decide) (Nat.le_of_ble_eq_true rfl) ?_
  intro p e s m args below meth c A H ls X M h hl
  have kx := X.1.1
  have kb := X.1.2.1
  have hl : lv_has ls 2 [(0, .ref (ad 254)), (1, .int c9)] := hl
  have hN0 := hm.1
  refine lv_aload_n kx kb dX8_refuses_0 rfl (lv_at hl 0 rfl) ?_
  refine lv_bipush (v := nI 9) kx kb dX8_refuses_1 (by decide) ?_
  refine w_put X M h 254 hm.2 (by omega) fp_X8_10 (rfl) (by rfl) (Nat.le_of_ble_eq_true rfl) dX8_refuses_3 (fun F1 H locs h he_F1 hf_F1 => ?_)
  refine lv_aload_n kx kb dX8_refuses_6 rfl (lv_at hl 0 rfl) ?_
  refine lv_aload_n kx kb dX8_refuses_7 rfl (lv_at hl 0 rfl) ?_
  refine w_get X M h 254 he_F1 (by omega) fl_X8_270 rfl dX8_refuses_8 ?_
  refine w_put X M h 254 he_F1 (by omega) fp_X8_13 (rfl) (by rfl) (Nat.le_of_ble_eq_true rfl) dX8_refuses_11 (fun F2 H locs h he_F2 hf_F2 => ?_)
  refine lv_aload_n kx kb dX8_refuses_14 rfl (lv_at hl 0 rfl) ?_
  refine lv_iload_n kx kb dX8_refuses_15 rfl (lv_at hl 1 rfl) ?_
  refine lv_bipush (v := (-5)) kx kb dX8_refuses_16 (by decide) ?_
  refine lv_icmp_ne (tgt := 28) kx kb dX8_refuses_18 (by decide) (fun c_3 => ?_) (fun c_3 => ?_)
  · refine lv_iconst (v := nI 0) kx kb dX8_refuses_28 (by decide) ?_
    refine w_put X M h 254 he_F2 (by omega) fp_X8_16 (rfl) (by rfl) (Nat.le_of_ble_eq_true rfl) dX8_refuses_29 (fun F4 H locs h he_F4 hf_F4 => ?_)
    refine lv_aload_n kx kb dX8_refuses_32 rfl (lv_at hl 0 rfl) ?_
    refine lv_aload_n kx kb dX8_refuses_33 rfl (lv_at hl 0 rfl) ?_
    refine w_get X M h 254 he_F4 (by omega) fl_X8_7 rfl dX8_refuses_34 ?_
    refine w_put X M h 254 he_F4 (by omega) fp_X8_23 (rfl) (by rfl) (Nat.le_of_ble_eq_true rfl) dX8_refuses_37 (fun F5 H locs h he_F5 hf_F5 => ?_)
    refine lv_bipush (v := (-5)) kx kb dX8_refuses_40 (by decide) ?_
    exact w_iret X h ⟨rfl, ⟨by omega, (he_F5).trans (by show Sum.inr _ = Sum.inr _; rw [show uRf u (v 5) c9 2 = _ from if_neg c_3]; rfl)⟩, (fun i hi => (hf_F5 i (by omega)).trans ((hf_F4 i (by omega)).trans ((hf_F2 i (by omega)).trans (hf_F1 i (by omega)))))⟩ dX8_refuses_42
  · refine lv_aload_n kx kb dX8_refuses_21 rfl (lv_at hl 0 rfl) ?_
    refine w_get X M h 254 he_F2 (by omega) fl_X8_1 rfl dX8_refuses_22 ?_
    refine lv_goto (tgt := 29) kx kb dX8_refuses_25 (by decide) ?_
    refine w_put X M h 254 he_F2 (by omega) fp_X8_16 (rfl) (by rfl) (Nat.le_of_ble_eq_true rfl) dX8_refuses_29 (fun F6 H locs h he_F6 hf_F6 => ?_)
    refine lv_aload_n kx kb dX8_refuses_32 rfl (lv_at hl 0 rfl) ?_
    refine lv_aload_n kx kb dX8_refuses_33 rfl (lv_at hl 0 rfl) ?_
    refine w_get X M h 254 he_F6 (by omega) fl_X8_7 rfl dX8_refuses_34 ?_
    refine w_put X M h 254 he_F6 (by omega) fp_X8_23 (rfl) (by rfl) (Nat.le_of_ble_eq_true rfl) dX8_refuses_37 (fun F7 H locs h he_F7 hf_F7 => ?_)
    refine lv_bipush (v := (-5)) kx kb dX8_refuses_40 (by decide) ?_
    exact w_iret X h ⟨rfl, ⟨by omega, (he_F7).trans (by show Sum.inr _ = Sum.inr _; rw [show uRf u (v 5) c9 2 = _ from if_pos c_3]; rfl)⟩, (fun i hi => (hf_F7 i (by omega)).trans ((hf_F6 i (by omega)).trans ((hf_F2 i (by omega)).trans (hf_F1 i (by omega)))))⟩ dX8_refuses_42
theorem RW.congw2 {x : SX} {W W' : Nat → Int32} (h : RW x W) (e : ∀ k, k < 274 → W' k = W k) (hb : x.1 ≤ 12 ∧ x.2.2.1 ≤ 64) : RW x W' := h.congw (fun k hk => e k (by omega))
set_option maxRecDepth 20000 in
theorem c_X8_undo (l : Launch) (g : gT) {N : Nat} {ad : Nat → Nat} {F : Nat → va_E} (u : Nat → Int32) (v : Nat → Nat) (hm : oM g N ad F u v) (W : Nat → Int32) (hW : arI g F 255 274 W) (hv0 : v 0 ≤ 8) (hv1 : v 1 < 8) (hs : Nat → SX) (hns : ∀ i, i < v 0 → (hs i).1 ≤ 12 ∧ (hs i).2.2.1 ≤ 64) (hU : oU g F hs (v 1) (v 0))  : CtI l yX8_undo cX8_undo 3 (some .int) 0 0 g N ad F [.ref (ad 254)] (fun r F' => (v 0 = 0 → r = -3 ∧ F' = F) ∧ (v 0 ≠ 0 → r = nI (v 0 - 1) ∧ oM g N ad F' u (vUn v) ∧ oX g F' 255 (hs (v 0 - 1)) ∧ ∀ i, i ≠ 254 → i ≠ 255 → F' i = F i)) := by
  refine CtI_of (by decide) (Nat.le_of_ble_eq_true rfl) ?_
  intro p e s m args below meth c A H ls X M h hl
  have kx := X.1.1
  have kb := X.1.2.1
  have hl : lv_has ls 3 [(0, .ref (ad 254))] := hl
  have hN0 := hm.1
  obtain ⟨U, hU, hRU⟩ := hU
  refine lv_aload_n kx kb dX8_undo_0 rfl (lv_at hl 0 rfl) ?_
  refine w_get X M h 254 hm.2 (by omega) fl_X8_61 rfl dX8_undo_1 ?_
  refine w_if_ne (tgt := 10) kx kb (by omega) dX8_undo_4 (by decide) (fun c_1 => ?_) (fun c_1 => ?_)
  · refine lv_aload_n kx kb dX8_undo_10 rfl (lv_at hl 0 rfl) ?_
    refine lv_dup kx kb dX8_undo_11 rfl ?_
    refine w_get X M h 254 hm.2 (by omega) fl_X8_61 rfl dX8_undo_12 ?_
    refine lv_iconst (v := nI 1) kx kb dX8_undo_15 (by decide) ?_
    refine w_subn kx kb (by omega) dX8_undo_16 ?_
    refine w_put X M h 254 hm.2 (by omega) fp_X8_61 (rfl) (by rfl) (Nat.le_of_ble_eq_true rfl) dX8_undo_17 (fun F2 H locs h he_F2 hf_F2 => ?_)
    refine lv_aload_n kx kb dX8_undo_20 rfl (lv_at hl 0 rfl) ?_
    refine w_get X M h 254 he_F2 (by omega) fl_X8_64 rfl dX8_undo_21 ?_
    refine lv_aload_n kx kb dX8_undo_24 rfl (lv_at hl 0 rfl) ?_
    refine w_get X M h 254 he_F2 (by omega) fl_X8_61 rfl dX8_undo_25 ?_
    refine w_addn kx kb dX8_undo_28 ?_
    refine lv_bipush (v := nI 8) kx kb dX8_undo_29 (by decide) ?_
    refine w_remn kx kb (by omega) (by omega) (by omega) dX8_undo_31 ?_
    refine lv_istore_n (lv' := [(1, .int (nI ((v 1 + ((v 0) - 1)) % 8))), (0, .ref (ad 254))]) kx kb dX8_undo_32 rfl hl (by decide) rfl (fun ls hl => ?_)
    refine lv_iconst (v := nI 0) kx kb dX8_undo_33 (by decide) ?_
    refine lv_istore_n (lv' := [(2, .int (nI 0)), (1, .int (nI ((v 1 + ((v 0) - 1)) % 8))), (0, .ref (ad 254))]) kx kb dX8_undo_34 rfl hl (by decide) rfl (fun ls hl => ?_)
    have hto : (v 1 + (v 0 - 1)) % 8 < 8 := Nat.mod_lt _ (by decide)
    refine w_loop3 (fun (k : Nat) (F1 : Nat → va_E) (W1 : Nat → Int32) => 274 - k) (fun (k : Nat) (F1 : Nat → va_E) (W1 : Nat → Int32) H locs ls => Hx g N ad F1 A s H locs ∧ lv_has ls 3 [(0, .ref (ad 254)), (1, .int (nI ((v 1 + (v 0 - 1)) % 8))), (2, .int (nI k))] ∧ (k ≤ 274) ∧ (arI g F1 255 274 W1) ∧ (∀ q, q ≠ 255 → F1 q = F2 q) ∧ (∀ j, j < k → W1 j = U (274 * ((v 1 + (v 0 - 1)) % 8) + j))) ?_ 0 F2 W ⟨h, lv_sub hl [2, 1, 0] rfl, by omega, (hW.fr (hf_F2 255 (by omega))), fun q hq => rfl, fun q hq => absurd hq (Nat.not_lt_zero q)⟩
    intro k F1 W1 H locs ls hinv ih
    obtain ⟨h, hl, hk, hW1, hf1, h1⟩ := hinv
    refine lv_iload_n kx kb dX8_undo_35 rfl (lv_at hl 2 rfl) ?_
    refine lv_sipush (v := nI 274) kx kb dX8_undo_36 (by decide) ?_
    refine w_cmp_ge (tgt := 66) kx kb (by omega) (by omega) dX8_undo_39 (by decide) (fun c_3 => ?_) (fun c_3 => ?_)
    · refine lv_aload_n kx kb dX8_undo_66 rfl (lv_at hl 0 rfl) ?_
      refine w_get X M h 254 ((hf1 254 (by omega)).trans he_F2) (by omega) fl_X8_61 rfl dX8_undo_67 ?_
      exact w_iret X h ⟨fun q => absurd q (by omega), fun _ => ⟨rfl, ⟨by omega, ((hf1 254 (by omega)).trans he_F2)⟩, ⟨W1, hW1, (hRU (v 0 - 1) (by omega)).congw2 (fun z hz => h1 z (by omega)) (hns _ (by omega))⟩, fun i hi hi2 => (hf1 i (by omega)).trans (hf_F2 i (by omega))⟩⟩ dX8_undo_70
    · refine lv_aload_n kx kb dX8_undo_42 rfl (lv_at hl 0 rfl) ?_
      refine w_get X M h 254 ((hf1 254 (by omega)).trans he_F2) (by omega) fl_X8_32 rfl dX8_undo_43 ?_
      refine lv_iload_n kx kb dX8_undo_46 rfl (lv_at hl 2 rfl) ?_
      refine lv_aload_n kx kb dX8_undo_47 rfl (lv_at hl 0 rfl) ?_
      refine w_get X M h 254 ((hf1 254 (by omega)).trans he_F2) (by omega) fl_X8_36 rfl dX8_undo_48 ?_
      refine lv_sipush (v := nI 274) kx kb dX8_undo_51 (by decide) ?_
      refine lv_iload_n kx kb dX8_undo_54 rfl (lv_at hl 1 rfl) ?_
      refine w_muln kx kb dX8_undo_55 ?_
      refine lv_iload_n kx kb dX8_undo_56 rfl (lv_at hl 2 rfl) ?_
      refine w_addn kx kb dX8_undo_57 ?_
      refine w_iald X M h 256 ((hU.fr (hf_F2 256 (by omega))).fr (hf1 256 (by omega))) (by omega) (274 * ((v 1 + (v 0 - 1)) % 8) + k) (rfl) (by omega) (by omega) dX8_undo_58 ?_
      refine w_iast X M h 255 hW1 (by omega) (k) (rfl) (by omega) (by omega) dX8_undo_59 (fun F4 H locs h he_F4 hf_F4 => ?_)
      refine lv_iinc (v := nI (k + 1)) (lv' := [(2, .int (nI (k + 1))), (0, .ref (ad 254)), (1, .int (nI ((v 1 + (v 0 - 1)) % 8)))]) kx kb dX8_undo_60 hl (k := 2) rfl (nI_add _ _) (by decide) rfl (fun ls hl => ?_)
      refine lv_goto (tgt := 35) kx kb dX8_undo_63 (by decide) ?_
      exact ih (k + 1) F4 (upd W1 k (U (274 * ((v 1 + (v 0 - 1)) % 8) + k))) _ _ _ ⟨h, lv_sub hl [1, 2, 0] rfl, by omega, he_F4, (fun q hq => (hf_F4 q (by omega)).trans (hf1 q (by omega))), fun q g1 => by
          by_cases e : q = k
          · subst e; exact upd_eq rfl
          · rw [upd_ne (by omega)]; exact h1 q (by omega)⟩ (by omega)
  · refine lv_bipush (v := (-3)) kx kb dX8_undo_7 (by decide) ?_
    exact w_iret X h ⟨fun _ => ⟨rfl, rfl⟩, fun q => absurd (show v 0 = 0 by omega) q⟩ dX8_undo_9
set_option maxRecDepth 20000 in
theorem c_X8_save (l : Launch) (g : gT) {N : Nat} {ad : Nat → Nat} {F : Nat → va_E} (u : Nat → Int32) (v : Nat → Nat) (hm : oM g N ad F u v) (x : SX) (hI : Inv x) (W : Nat → Int32) (hW : arI g F 255 274 W) (hR : RW x W) (S : Nat → Int32) (hS : arI g F 257 274 S)  : CtI l yX8_save cX8_save 2 (some .int) 0 0 g N ad F [.ref (ad 254)] (fun r F' => r = nI x.1 ∧ oM g N ad F' (uSv u) v ∧ oX g F' 257 x ∧ ∀ i, i ≠ 254 → i ≠ 257 → F' i = F i) := by
  refine CtI_of (by decide) (Nat.le_of_ble_eq_true rfl) ?_
  intro p e s m args below meth c A H ls X M h hl
  have kx := X.1.1
  have kb := X.1.2.1
  have hl : lv_has ls 2 [(0, .ref (ad 254))] := hl
  have hN0 := hm.1
  have hn12 := hI.n
  have htn64 := hI.tn
  refine lv_iconst (v := nI 0) kx kb dX8_save_0 (by decide) ?_
  refine lv_istore_n (lv' := [(1, .int (nI 0)), (0, .ref (ad 254))]) kx kb dX8_save_1 rfl hl (by decide) rfl (fun ls hl => ?_)
  refine w_loop3 (fun (k : Nat) (F1 : Nat → va_E) (M1 : Nat → Int32) => 274 - k) (fun (k : Nat) (F1 : Nat → va_E) (M1 : Nat → Int32) H locs ls => Hx g N ad F1 A s H locs ∧ lv_has ls 2 [(0, .ref (ad 254)), (1, .int (nI k))] ∧ (k ≤ 274) ∧ (arI g F1 257 274 M1) ∧ (∀ q, q ≠ 257 → F1 q = F q) ∧ (∀ q, q < k → M1 q = W q)) ?_ 0 F S ⟨h, lv_sub hl [1, 0] rfl, by omega, hS, fun q hq => rfl, fun q hq => absurd hq (Nat.not_lt_zero q)⟩
  intro k F1 M1 H locs ls hinv ih
  obtain ⟨h, hl, hk, hM1, hf1, h1⟩ := hinv
  refine lv_iload_n kx kb dX8_save_2 rfl (lv_at hl 1 rfl) ?_
  refine lv_sipush (v := nI 274) kx kb dX8_save_3 (by decide) ?_
  refine w_cmp_ge (tgt := 27) kx kb (by omega) (by omega) dX8_save_6 (by decide) (fun c_1 => ?_) (fun c_1 => ?_)
  · refine lv_aload_n kx kb dX8_save_27 rfl (lv_at hl 0 rfl) ?_
    refine lv_iconst (v := nI 1) kx kb dX8_save_28 (by decide) ?_
    refine w_put X M h 254 ((hm.fr (hf1 254 (by omega))).2) (by omega) fp_X8_291 (rfl) (by rfl) (Nat.le_of_ble_eq_true rfl) dX8_save_29 (fun F2 H locs h he_F2 hf_F2 => ?_)
    refine lv_aload_n kx kb dX8_save_32 rfl (lv_at hl 0 rfl) ?_
    refine w_get X M h 254 he_F2 (by omega) fl_X8_32 rfl dX8_save_33 ?_
    refine lv_iconst (v := nI 0) kx kb dX8_save_36 (by decide) ?_
    refine w_iald X M h 255 ((hW.fr (hf1 255 (by omega))).fr (hf_F2 255 (by omega))) (by omega) (0) (rfl) (by omega) (by omega) dX8_save_37 ?_
    exact w_iret X h ⟨hR.n, ⟨by omega, he_F2⟩, ⟨M1, (hM1.fr (hf_F2 257 (by omega))), hR.congw2 (fun z hz => h1 z (by omega)) ⟨hI.n, hI.tn⟩⟩, (fun i hi hi2 => (hf_F2 i (by omega)).trans (hf1 i (by omega)))⟩ dX8_save_38
  · refine lv_aload_n kx kb dX8_save_9 rfl (lv_at hl 0 rfl) ?_
    refine w_get X M h 254 ((hm.fr (hf1 254 (by omega))).2) (by omega) fl_X8_39 rfl dX8_save_10 ?_
    refine lv_iload_n kx kb dX8_save_13 rfl (lv_at hl 1 rfl) ?_
    refine lv_aload_n kx kb dX8_save_14 rfl (lv_at hl 0 rfl) ?_
    refine w_get X M h 254 ((hm.fr (hf1 254 (by omega))).2) (by omega) fl_X8_32 rfl dX8_save_15 ?_
    refine lv_iload_n kx kb dX8_save_18 rfl (lv_at hl 1 rfl) ?_
    refine w_iald X M h 255 (hW.fr (hf1 255 (by omega))) (by omega) (k) (rfl) (by omega) (by omega) dX8_save_19 ?_
    refine w_iast X M h 257 hM1 (by omega) (k) (rfl) (by omega) (by omega) dX8_save_20 (fun F3 H locs h he_F3 hf_F3 => ?_)
    refine lv_iinc (v := nI (k + 1)) (lv' := [(1, .int (nI (k + 1))), (0, .ref (ad 254))]) kx kb dX8_save_21 hl (k := 1) rfl (nI_add _ _) (by decide) rfl (fun ls hl => ?_)
    refine lv_goto (tgt := 2) kx kb dX8_save_24 (by decide) ?_
    exact ih (k + 1) F3 (upd M1 k (W k)) _ _ _ ⟨h, lv_sub hl [1, 0] rfl, by omega, he_F3, (fun q hq => (hf_F3 q (by omega)).trans (hf1 q (by omega))), fun q g1 => by
        by_cases e : q = k
        · subst e; exact upd_eq rfl
        · rw [upd_ne e]; exact h1 q (by omega)⟩ (by omega)
set_option maxRecDepth 20000 in
theorem c_X8_restore (l : Launch) (g : gT) {N : Nat} {ad : Nat → Nat} {F : Nat → va_E} (u : Nat → Int32) (v : Nat → Nat) (hm : oM g N ad F u v) (W : Nat → Int32) (hW : arI g F 255 274 W) (y : SX) (hys : y.1 ≤ 12 ∧ y.2.2.1 ≤ 64) (S : Nat → Int32) (hS : arI g F 257 274 S) (hRS : u 6 ≠ 0 → RW y S)  : CtI l yX8_restore cX8_restore 2 (some .int) 0 0 g N ad F [.ref (ad 254)] (fun r F' => (u 6 = 0 → r = -3 ∧ F' = F) ∧ (u 6 ≠ 0 → r = nI y.1 ∧ oM g N ad F' u (vRs v) ∧ oX g F' 255 y ∧ ∀ i, i ≠ 254 → i ≠ 255 → F' i = F i)) := by
  refine CtI_of (by decide) (Nat.le_of_ble_eq_true rfl) ?_
  intro p e s m args below meth c A H ls X M h hl
  have kx := X.1.1
  have kb := X.1.2.1
  have hl : lv_has ls 2 [(0, .ref (ad 254))] := hl
  have hN0 := hm.1
  refine lv_aload_n kx kb dX8_restore_0 rfl (lv_at hl 0 rfl) ?_
  refine w_get X M h 254 hm.2 (by omega) fl_X8_291 rfl dX8_restore_1 ?_
  refine lv_if_ne (tgt := 10) kx kb dX8_restore_4 (by decide) (fun c_1 => ?_) (fun c_1 => ?_)
  · refine lv_iconst (v := nI 0) kx kb dX8_restore_10 (by decide) ?_
    refine lv_istore_n (lv' := [(1, .int (nI 0)), (0, .ref (ad 254))]) kx kb dX8_restore_11 rfl hl (by decide) rfl (fun ls hl => ?_)
    refine w_loop3 (fun (k : Nat) (F1 : Nat → va_E) (M1 : Nat → Int32) => 274 - k) (fun (k : Nat) (F1 : Nat → va_E) (M1 : Nat → Int32) H locs ls => Hx g N ad F1 A s H locs ∧ lv_has ls 2 [(0, .ref (ad 254)), (1, .int (nI k))] ∧ (k ≤ 274) ∧ (arI g F1 255 274 M1) ∧ (∀ q, q ≠ 255 → F1 q = F q) ∧ (∀ q, q < k → M1 q = S q)) ?_ 0 F W ⟨h, lv_sub hl [1, 0] rfl, by omega, hW, fun q hq => rfl, fun q hq => absurd hq (Nat.not_lt_zero q)⟩
    intro k F1 M1 H locs ls hinv ih
    obtain ⟨h, hl, hk, hM1, hf1, h1⟩ := hinv
    refine lv_iload_n kx kb dX8_restore_12 rfl (lv_at hl 1 rfl) ?_
    refine lv_sipush (v := nI 274) kx kb dX8_restore_13 (by decide) ?_
    refine w_cmp_ge (tgt := 37) kx kb (by omega) (by omega) dX8_restore_16 (by decide) (fun c_2 => ?_) (fun c_2 => ?_)
    · refine lv_aload_n kx kb dX8_restore_37 rfl (lv_at hl 0 rfl) ?_
      refine lv_iconst (v := nI 0) kx kb dX8_restore_38 (by decide) ?_
      refine w_put X M h 254 ((hm.fr (hf1 254 (by omega))).2) (by omega) fp_X8_61 (rfl) (by rfl) (Nat.le_of_ble_eq_true rfl) dX8_restore_39 (fun F3 H locs h he_F3 hf_F3 => ?_)
      refine lv_aload_n kx kb dX8_restore_42 rfl (lv_at hl 0 rfl) ?_
      refine lv_iconst (v := nI 0) kx kb dX8_restore_43 (by decide) ?_
      refine w_put X M h 254 he_F3 (by omega) fp_X8_64 (rfl) (by rfl) (Nat.le_of_ble_eq_true rfl) dX8_restore_44 (fun F4 H locs h he_F4 hf_F4 => ?_)
      refine lv_aload_n kx kb dX8_restore_47 rfl (lv_at hl 0 rfl) ?_
      refine w_get X M h 254 he_F4 (by omega) fl_X8_32 rfl dX8_restore_48 ?_
      refine lv_iconst (v := nI 0) kx kb dX8_restore_51 (by decide) ?_
      refine w_iald X M h 255 ((hM1.fr (hf_F3 255 (by omega))).fr (hf_F4 255 (by omega))) (by omega) (0) (rfl) (by omega) (by omega) dX8_restore_52 ?_
      exact w_iret X h ⟨fun q => absurd q c_1, fun q => ⟨(h1 0 (by omega)).trans (hRS q).n, ⟨by omega, he_F4⟩, ⟨M1, ((hM1.fr (hf_F3 255 (by omega))).fr (hf_F4 255 (by omega))), (hRS q).congw2 (fun z hz => h1 z (by omega)) hys⟩, (fun i hi hi2 => (hf_F4 i (by omega)).trans ((hf_F3 i (by omega)).trans (hf1 i (by omega))))⟩⟩ dX8_restore_53
    · refine lv_aload_n kx kb dX8_restore_19 rfl (lv_at hl 0 rfl) ?_
      refine w_get X M h 254 ((hm.fr (hf1 254 (by omega))).2) (by omega) fl_X8_32 rfl dX8_restore_20 ?_
      refine lv_iload_n kx kb dX8_restore_23 rfl (lv_at hl 1 rfl) ?_
      refine lv_aload_n kx kb dX8_restore_24 rfl (lv_at hl 0 rfl) ?_
      refine w_get X M h 254 ((hm.fr (hf1 254 (by omega))).2) (by omega) fl_X8_39 rfl dX8_restore_25 ?_
      refine lv_iload_n kx kb dX8_restore_28 rfl (lv_at hl 1 rfl) ?_
      refine w_iald X M h 257 (hS.fr (hf1 257 (by omega))) (by omega) (k) (rfl) (by omega) (by omega) dX8_restore_29 ?_
      refine w_iast X M h 255 hM1 (by omega) (k) (rfl) (by omega) (by omega) dX8_restore_30 (fun F5 H locs h he_F5 hf_F5 => ?_)
      refine lv_iinc (v := nI (k + 1)) (lv' := [(1, .int (nI (k + 1))), (0, .ref (ad 254))]) kx kb dX8_restore_31 hl (k := 1) rfl (nI_add _ _) (by decide) rfl (fun ls hl => ?_)
      refine lv_goto (tgt := 12) kx kb dX8_restore_34 (by decide) ?_
      exact ih (k + 1) F5 (upd M1 k (S k)) _ _ _ ⟨h, lv_sub hl [1, 0] rfl, by omega, he_F5, (fun q hq => (hf_F5 q (by omega)).trans (hf1 q (by omega))), fun q g1 => by
          by_cases e : q = k
          · subst e; exact upd_eq rfl
          · rw [upd_ne e]; exact h1 q (by omega)⟩ (by omega)
  · refine lv_bipush (v := (-3)) kx kb dX8_restore_7 (by decide) ?_
    exact w_iret X h ⟨fun _ => ⟨rfl, rfl⟩, fun q => absurd (c_1) q⟩ dX8_restore_9
