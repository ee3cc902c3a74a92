set_option maxRecDepth 20000 in
theorem c_X4_reachBehind (l : Launch) (g : gT) {N : Nat} {ad : Nat → Nat} {F : Nat → va_E} (rc ln : Nat) (hr : rc + ln < 2147483648) : CtI l yX4_reachBehind cX4_reachBehind 2 (some .int) 1 21 g N ad F [.int (nI rc), .int (nI ln)] (fun r F' => r = (nI (min 30 (rc + ln))) ∧ F' = F) := by
  refine CtI_of (by decide) (Nat.le_of_ble_eq_true rfl) ?_
  intro p e s m args below meth c A H ls X M h hl
  have kx := X.1.1
  have kb := X.1.2.1
  have hl : lv_has ls 2 [(0, .int (nI rc)), (1, .int (nI ln))] := hl
  refine lv_bipush (v := nI 30) kx kb dX4_reachBehind_0 (by decide) ?_
  refine lv_iload_n kx kb dX4_reachBehind_2 rfl (lv_at hl 0 rfl) ?_
  refine lv_iload_n kx kb dX4_reachBehind_3 rfl (lv_at hl 1 rfl) ?_
  refine w_addn kx kb dX4_reachBehind_4 ?_
  refine w_mminn X hl q3_151 (by omega) (by omega) ⟨by decide, by decide⟩ (Nat.le_of_ble_eq_true rfl) ⟨Nat.zero_le _, Nat.zero_le _⟩ dX4_reachBehind_5 ?_
  exact w_iret X h ⟨rfl, rfl⟩ dX4_reachBehind_8
set_option maxRecDepth 20000 in
theorem c_X4_groansOf (l : Launch) (g : gT) {N : Nat} {ad : Nat → Nat} {F : Nat → va_E} (rc : Nat) (hr : rc < 2147483648) : CtI l yX4_groansOf cX4_groansOf 1 (some .int) 0 0 g N ad F [.int (nI rc)] (fun r F' => r = (nI (1 + rc / 10)) ∧ F' = F) := by
  refine CtI_of (by decide) (Nat.le_of_ble_eq_true rfl) ?_
  intro p e s m args below meth c A H ls X M h hl
  have kx := X.1.1
  have kb := X.1.2.1
  have hl : lv_has ls 1 [(0, .int (nI rc))] := hl
  refine lv_iconst (v := nI 1) kx kb dX4_groansOf_0 (by decide) ?_
  refine lv_iload_n kx kb dX4_groansOf_1 rfl (lv_at hl 0 rfl) ?_
  refine lv_bipush (v := nI 10) kx kb dX4_groansOf_2 (by decide) ?_
  refine w_divn kx kb (by omega) (by omega) (by omega) dX4_groansOf_4 ?_
  refine w_addn kx kb dX4_groansOf_5 ?_
  exact w_iret X h ⟨rfl, rfl⟩ dX4_groansOf_6
set_option maxRecDepth 20000 in
theorem c_X4_laughOf (l : Launch) (g : gT) {N : Nat} {ad : Nat → Nat} {F : Nat → va_E} (b : Nat) (x : SX) (ho : oSt g N ad F b x) (k : Nat) (hk : k < 12) (gr : Int32) (hn : lnn (x.2.1 3 k) (x.2.1 4 k) gr) : CtF l yX4_laughOf cX4_laughOf 4 (some .float) 1 21 g N ad F [.ref (ad b), .int (nI k), .int gr] (fun r F' => r = (lfO (x.2.1 3 k) (x.2.1 4 k) gr) ∧ F' = F) := by
  refine CtF_of (by decide) (Nat.le_of_ble_eq_true rfl) ?_
  intro p e s m args below meth c A H ls X M h hl
  have kx := X.1.1
  have kb := X.1.2.1
  have hl : lv_has ls 4 [(0, .ref (ad b)), (1, .int (nI k)), (2, .int gr)] := hl
  have hN := ho.1
  refine lv_aload_n kx kb dX4_laughOf_0 rfl (lv_at hl 0 rfl) ?_
  refine w_get X M h b ho.2.1 (by omega) fl_X4_12 rfl dX4_laughOf_1 ?_
  refine w_get X M h (b + 1) ho.2.2.1.2.1 (by omega) fl_X4_72 rfl dX4_laughOf_4 ?_
  refine lv_iload_n kx kb dX4_laughOf_7 rfl (lv_at hl 1 rfl) ?_
  refine w_readVi X M h [.int (nI k)] [] ((c_X3_at_n l g (b + 8) 12 (x.2.1 3) k ⟨by omega, ho.2.2.1.2.2.2.2.2.1.2.1, ho.2.2.1.2.2.2.2.2.1.2.2⟩ (by omega) (by omega))) lk_X4_75 ho.2.2.1.2.2.2.2.2.1.2.1 (by omega) rfl rfl ⟨by decide, by decide⟩ hl ⟨Nat.zero_le _, Nat.zero_le _⟩ (Nat.le_of_ble_eq_true rfl) rfl dX4_laughOf_8 (fun H locs h => ?_)
  refine lv_i2f kx kb dX4_laughOf_11 ?_
  refine lv_fstore_n (lv' := [(3, .float (FP.i2f ((x.2.1 3) k))), (0, .ref (ad b)), (1, .int (nI k)), (2, .int gr)]) kx kb dX4_laughOf_12 rfl hl (by decide) rfl (fun ls hl => ?_)
  refine lv_aload_n kx kb dX4_laughOf_13 rfl (lv_at hl 1 rfl) ?_
  refine w_get X M h b ho.2.1 (by omega) fl_X4_12 rfl dX4_laughOf_14 ?_
  refine w_get X M h (b + 1) ho.2.2.1.2.1 (by omega) fl_X4_79 rfl dX4_laughOf_17 ?_
  refine lv_iload_n kx kb dX4_laughOf_20 rfl (lv_at hl 2 rfl) ?_
  refine w_readVi X M h [.int (nI k)] [] ((c_X3_at_n l g (b + 10) 12 (x.2.1 4) k ⟨by omega, ho.2.2.1.2.2.2.2.2.2.2.1, ho.2.2.1.2.2.2.2.2.2.2.2⟩ (by omega) (by omega))) lk_X4_75 ho.2.2.1.2.2.2.2.2.2.2.1 (by omega) rfl rfl ⟨by decide, by decide⟩ hl ⟨Nat.zero_le _, Nat.zero_le _⟩ (Nat.le_of_ble_eq_true rfl) rfl dX4_laughOf_21 (fun H locs h => ?_)
  refine lv_if_eq (tgt := 32) kx kb dX4_laughOf_24 (by decide) (fun c_1 => ?_) (fun c_1 => ?_)
  · refine lv_fload_n kx kb dX4_laughOf_32 rfl (lv_at hl 0 rfl) ?_
    refine lv_fconst1 kx kb dX4_laughOf_33 ?_
    refine lv_iload_n kx kb dX4_laughOf_34 rfl (lv_at hl 3 rfl) ?_
    refine lv_i2f kx kb dX4_laughOf_35 ?_
    refine lv_ldcf (v := 1098907648) kx kb X.1.2.2.2.1 (X.1.2.2.2.2 _ q3_167) dX4_laughOf_36 ?_
    refine lv_fdiv kx kb dX4_laughOf_38 (hn.2.1) ?_
    refine lv_fadd kx kb dX4_laughOf_39 (hn.2.2.1) ?_
    refine lv_fdiv kx kb dX4_laughOf_40 (by have z := hn.2.2.2; rw [lfO, lfB, if_pos c_1] at z; exact z) ?_
    exact w_fret X h ⟨by rw [lfO, lfB, if_pos c_1], rfl⟩ dX4_laughOf_41
  · refine lv_fload_n kx kb dX4_laughOf_27 rfl (lv_at hl 0 rfl) ?_
    refine lv_ldcf (v := 1069547520) kx kb X.1.2.2.2.1 (X.1.2.2.2.2 _ q3_166) dX4_laughOf_28 ?_
    refine lv_fmul kx kb dX4_laughOf_30 (hn.1) ?_
    refine lv_fstore_n (lv' := [(3, .float (FP.fmul (FP.i2f ((x.2.1 3) k)) (1069547520 : UInt32))), (0, .ref (ad b)), (1, .int (nI k)), (2, .int gr)]) kx kb dX4_laughOf_31 rfl hl (by decide) rfl (fun ls hl => ?_)
    refine lv_fload_n kx kb dX4_laughOf_32 rfl (lv_at hl 0 rfl) ?_
    refine lv_fconst1 kx kb dX4_laughOf_33 ?_
    refine lv_iload_n kx kb dX4_laughOf_34 rfl (lv_at hl 3 rfl) ?_
    refine lv_i2f kx kb dX4_laughOf_35 ?_
    refine lv_ldcf (v := 1098907648) kx kb X.1.2.2.2.1 (X.1.2.2.2.2 _ q3_167) dX4_laughOf_36 ?_
    refine lv_fdiv kx kb dX4_laughOf_38 (hn.2.1) ?_
    refine lv_fadd kx kb dX4_laughOf_39 (hn.2.2.1) ?_
    refine lv_fdiv kx kb dX4_laughOf_40 (by have z := hn.2.2.2; rw [lfO, lfB, if_neg c_1] at z; exact z) ?_
    exact w_fret X h ⟨by rw [lfO, lfB, if_neg c_1], rfl⟩ dX4_laughOf_41
set_option maxRecDepth 20000 in
theorem c_X4_lift (l : Launch) (g : gT) {N : Nat} {ad : Nat → Nat} {F : Nat → va_E} (b : Nat) (x : SX) (ho : oSt g N ad F b x) (k sg : Nat) (hok : liftOk x k sg) : CtV l yX4_lift cX4_lift 2 none 2 45 g N ad F [.ref (ad b), .int (nI k)] (fun F' => oSt g N ad F' b (lift1 x k sg) ∧ ∀ q, (q < b ∨ b + 21 < q) → F' q = F q) := by
  refine CtV_of (by decide) (Nat.le_of_ble_eq_true rfl) ?_
  intro p e s m args below meth c A H ls X M h hl
  have kx := X.1.1
  have kb := X.1.2.1
  have hl : lv_has ls 2 [(0, .ref (ad b)), (1, .int (nI k))] := hl
  have hN := ho.1
  have hk := hok.1
  have hk2 := hok.2.1
  have hk3 := hok.2.2.1
  have hk4 := hok.2.2.2.2.1
  refine lv_aload_n kx kb dX4_lift_0 rfl (lv_at hl 0 rfl) ?_
  refine w_get X M h b ho.2.1 (by omega) fl_X4_21 rfl dX4_lift_1 ?_
  refine lv_aload_n kx kb dX4_lift_4 rfl (lv_at hl 0 rfl) ?_
  refine w_get X M h b ho.2.1 (by omega) fl_X4_12 rfl dX4_lift_5 ?_
  refine w_get X M h (b + 1) ho.2.2.1.2.1 (by omega) fl_X4_99 rfl dX4_lift_8 ?_
  refine lv_iload_n kx kb dX4_lift_11 rfl (lv_at hl 1 rfl) ?_
  refine w_readVi X M h [.int (nI k)] [.ref (ad (b + 12))] ((c_X3_at_n l g (b + 6) 12 (x.2.1 2) k ⟨by omega, ho.2.2.1.2.2.2.2.1.2.1, ho.2.2.1.2.2.2.2.1.2.2⟩ (by omega) (by omega))) lk_X4_75 ho.2.2.1.2.2.2.2.1.2.1 (by omega) rfl rfl ⟨by decide, by decide⟩ hl ⟨Nat.zero_le _, Nat.zero_le _⟩ (Nat.le_of_ble_eq_true rfl) rfl dX4_lift_12 (fun H locs h => ?_)
  refine w_top (y := nI sg) hok.2.2.2.1 ?_
  refine lv_aload_n kx kb dX4_lift_15 rfl (lv_at hl 0 rfl) ?_
  refine w_get X M h b ho.2.1 (by omega) fl_X4_12 rfl dX4_lift_16 ?_
  refine w_get X M h (b + 1) ho.2.2.1.2.1 (by omega) fl_X4_102 rfl dX4_lift_19 ?_
  refine lv_iload_n kx kb dX4_lift_22 rfl (lv_at hl 1 rfl) ?_
  refine w_readVi X M h [.int (nI k)] [.int (nI sg), .ref (ad (b + 12))] ((c_X3_at_n l g (b + 2) 12 (x.2.1 0) k ⟨by omega, ho.2.2.1.2.2.1.2.1, ho.2.2.1.2.2.1.2.2⟩ (by omega) (by omega))) lk_X4_75 ho.2.2.1.2.2.1.2.1 (by omega) rfl rfl ⟨by decide, by decide⟩ hl ⟨Nat.zero_le _, Nat.zero_le _⟩ (Nat.le_of_ble_eq_true rfl) rfl dX4_lift_23 (fun H locs h => ?_)
  refine lv_aload_n kx kb dX4_lift_26 rfl (lv_at hl 0 rfl) ?_
  refine lv_iload_n kx kb dX4_lift_27 rfl (lv_at hl 1 rfl) ?_
  refine lv_aload_n kx kb dX4_lift_28 rfl (lv_at hl 0 rfl) ?_
  refine w_get X M h b ho.2.1 (by omega) fl_X4_44 rfl dX4_lift_29 ?_
  refine w_readVf X M h [.int (nI k), .int (nI (x.2.2.2.2.2.2.2 3))] [.int ((x.2.1 0) k), .int (nI sg), .ref (ad (b + 12))] ((c_X4_laughOf l g b x ⟨by omega, ho.2.1, ⟨by omega, ho.2.2.1.2.1, ⟨by omega, ho.2.2.1.2.2.1.2.1, ho.2.2.1.2.2.1.2.2⟩, ⟨by omega, ho.2.2.1.2.2.2.1.2.1, ho.2.2.1.2.2.2.1.2.2⟩, ⟨by omega, ho.2.2.1.2.2.2.2.1.2.1, ho.2.2.1.2.2.2.2.1.2.2⟩, ⟨by omega, ho.2.2.1.2.2.2.2.2.1.2.1, ho.2.2.1.2.2.2.2.2.1.2.2⟩, ⟨by omega, ho.2.2.1.2.2.2.2.2.2.2.1, ho.2.2.1.2.2.2.2.2.2.2.2⟩⟩, ⟨by omega, ho.2.2.2.1.2.1, ⟨by omega, ho.2.2.2.1.2.2.1.2.1, ho.2.2.2.1.2.2.1.2.2⟩, ⟨by omega, ho.2.2.2.1.2.2.2.1.2.1, ho.2.2.2.1.2.2.2.1.2.2⟩, ho.2.2.2.1.2.2.2.2.1, ⟨by omega, ho.2.2.2.1.2.2.2.2.2.2.1, ho.2.2.2.1.2.2.2.2.2.2.2⟩⟩, ⟨by omega, ho.2.2.2.2.2.1, ho.2.2.2.2.2.2⟩⟩ k (by omega) (nI (x.2.2.2.2.2.2.2 3)) (hok.2.2.2.2.2.1))) lk_X4_105 ho.2.1 (by omega) rfl rfl ⟨by decide, by decide⟩ hl ⟨Nat.zero_le _, Nat.zero_le _⟩ (Nat.le_of_ble_eq_true rfl) rfl dX4_lift_32 (fun H locs h => ?_)
  refine w_callVv X M h [.int (nI sg), .int ((x.2.1 0) k), .float (lfO (x.2.1 3 k) (x.2.1 4 k) (nI (x.2.2.2.2.2.2.2 3)))] [] ((c_X6_add l g (b + 12) x.2.2.1 x.2.2.2.1 x.2.2.2.2.1 x.2.2.2.2.2.1 ⟨by omega, ho.2.2.2.1.2.1, ⟨by omega, ho.2.2.2.1.2.2.1.2.1, ho.2.2.2.1.2.2.1.2.2⟩, ⟨by omega, ho.2.2.2.1.2.2.2.1.2.1, ho.2.2.2.1.2.2.2.1.2.2⟩, ho.2.2.2.1.2.2.2.2.1, ⟨by omega, ho.2.2.2.1.2.2.2.2.2.2.1, ho.2.2.2.1.2.2.2.2.2.2.2⟩⟩ (by omega) sg (by omega) ((x.2.1 0) k) (lfO (x.2.1 3 k) (x.2.1 4 k) (nI (x.2.2.2.2.2.2.2 3))) (hok.2.2.2.2.2.2))) lk_X4_109 ho.2.2.2.1.2.1 (by omega) rfl rfl ⟨by decide, by decide⟩ hl ⟨Nat.zero_le _, Nat.zero_le _⟩ (Nat.le_of_ble_eq_true rfl) rfl dX4_lift_35 (fun F1 H locs hp_F1 h => ?_)
  refine lv_aload_n kx kb dX4_lift_38 rfl (lv_at hl 0 rfl) ?_
  refine w_get X M h b ((hp_F1.2 b (by omega)).trans ho.2.1) (by omega) fl_X4_12 rfl dX4_lift_39 ?_
  refine lv_iload_n kx kb dX4_lift_42 rfl (lv_at hl 1 rfl) ?_
  refine w_callVv X M h [.int (nI k)] [] ((c_X1_remove l g (b + 1) x.1 x.2.1 ⟨by omega, ((hp_F1.2 (b + 1) (by omega)).trans ho.2.2.1.2.1), ⟨by omega, ((hp_F1.2 (b + 2) (by omega)).trans ho.2.2.1.2.2.1.2.1), (ho.2.2.1.2.2.1.2.2.fr (hp_F1.2 (b + 3) (by omega)))⟩, ⟨by omega, ((hp_F1.2 (b + 4) (by omega)).trans ho.2.2.1.2.2.2.1.2.1), (ho.2.2.1.2.2.2.1.2.2.fr (hp_F1.2 (b + 5) (by omega)))⟩, ⟨by omega, ((hp_F1.2 (b + 6) (by omega)).trans ho.2.2.1.2.2.2.2.1.2.1), (ho.2.2.1.2.2.2.2.1.2.2.fr (hp_F1.2 (b + 7) (by omega)))⟩, ⟨by omega, ((hp_F1.2 (b + 8) (by omega)).trans ho.2.2.1.2.2.2.2.2.1.2.1), (ho.2.2.1.2.2.2.2.2.1.2.2.fr (hp_F1.2 (b + 9) (by omega)))⟩, ⟨by omega, ((hp_F1.2 (b + 10) (by omega)).trans ho.2.2.1.2.2.2.2.2.2.2.1), (ho.2.2.1.2.2.2.2.2.2.2.2.fr (hp_F1.2 (b + 11) (by omega)))⟩⟩ (by omega) k (by omega))) lk_X4_113 ((hp_F1.2 (b + 1) (by omega)).trans ho.2.2.1.2.1) (by omega) rfl rfl ⟨by decide, by decide⟩ hl ⟨Nat.zero_le _, Nat.zero_le _⟩ (Nat.le_of_ble_eq_true rfl) rfl dX4_lift_43 (fun F2 H locs hp_F2 h => ?_)
  exact w_vret X h ⟨⟨by omega, ((hp_F2.2 b (by omega)).trans ((hp_F1.2 b (by omega)).trans ho.2.1)), ⟨by omega, hp_F2.1.2.1, ⟨by omega, hp_F2.1.2.2.1.2.1, hp_F2.1.2.2.1.2.2⟩, ⟨by omega, hp_F2.1.2.2.2.1.2.1, hp_F2.1.2.2.2.1.2.2⟩, ⟨by omega, hp_F2.1.2.2.2.2.1.2.1, hp_F2.1.2.2.2.2.1.2.2⟩, ⟨by omega, hp_F2.1.2.2.2.2.2.1.2.1, hp_F2.1.2.2.2.2.2.1.2.2⟩, ⟨by omega, hp_F2.1.2.2.2.2.2.2.2.1, hp_F2.1.2.2.2.2.2.2.2.2⟩⟩, ⟨by omega, ((hp_F2.2 (b + 12) (by omega)).trans hp_F1.1.2.1), ⟨by omega, ((hp_F2.2 (b + 13) (by omega)).trans hp_F1.1.2.2.1.2.1), (hp_F1.1.2.2.1.2.2.fr (hp_F2.2 (b + 14) (by omega)))⟩, ⟨by omega, ((hp_F2.2 (b + 15) (by omega)).trans hp_F1.1.2.2.2.1.2.1), (hp_F1.1.2.2.2.1.2.2.fr (hp_F2.2 (b + 16) (by omega)))⟩, (hp_F1.1.2.2.2.2.1.fr (hp_F2.2 (b + 17) (by omega))), ⟨by omega, ((hp_F2.2 (b + 18) (by omega)).trans hp_F1.1.2.2.2.2.2.2.1), (hp_F1.1.2.2.2.2.2.2.2.fr (hp_F2.2 (b + 19) (by omega)))⟩⟩, ⟨by omega, ((hp_F2.2 (b + 20) (by omega)).trans ((hp_F1.2 (b + 20) (by omega)).trans ho.2.2.2.2.2.1)), ((ho.2.2.2.2.2.2.fr (hp_F1.2 (b + 21) (by omega))).fr (hp_F2.2 (b + 21) (by omega)))⟩⟩, (fun q hq => (hp_F2.2 q (by omega)).trans (hp_F1.2 q (by omega)))⟩ dX4_lift_46
set_option maxRecDepth 20000 in
theorem c_X4_makeStroke (l : Launch) (g : gT) {N : Nat} {ad : Nat → Nat} {F : Nat → va_E} (b : Nat) (x : SX) (ho : oSt g N ad F b x) (y : SX) (hn : x.1 ≤ 12) (hw : x.2.2.2.2.2.2.2 0 < 4) (hz : x.2.2.2.2.2.2.2 1 + x.2.2.2.2.2.2.2 2 < 1000) (hbk : ∀ k, x.2.2.2.2.2.2.1 k < 1000) (hS : LiftR (stCnt (strk x)) (strk x) y) : CtI l yX4_makeStroke cX4_makeStroke 3 (some .int) 3 68 g N ad F [.ref (ad b)] (fun r F' => r = nI (stCnt (strk x)) ∧ oSt g N ad F' b y ∧ ∀ q, (q < b ∨ b + 21 < q) → F' q = F q) := by
  refine CtI_of (by decide) (Nat.le_of_ble_eq_true rfl) ?_
  intro p e s m args below meth c A H ls X M h hl
  have kx := X.1.1
  have kb := X.1.2.1
  have hl : lv_has ls 3 [(0, .ref (ad b))] := hl
  have hN := ho.1
  have hcn := cnt_le (cwP x.2.1 (nI (x.2.2.2.2.2.2.2 0)) (nI (min 30 (x.2.2.2.2.2.2.2 2 + x.2.2.2.2.2.2.2 1)))) x.1
  have hb0 := hbk (x.2.2.2.2.2.2.2 0)
  have hsc : stCnt (strk x) ≤ 12 := Nat.le_trans (Nat.min_le_left _ _) (Nat.le_trans (cnt_le _ _) hn)
  refine lv_aload_n kx kb dX4_makeStroke_0 rfl (lv_at hl 0 rfl) ?_
  refine lv_aload_n kx kb dX4_makeStroke_1 rfl (lv_at hl 0 rfl) ?_
  refine w_get X M h b ho.2.1 (by omega) fl_X4_41 rfl dX4_makeStroke_2 ?_
  refine lv_aload_n kx kb dX4_makeStroke_5 rfl (lv_at hl 0 rfl) ?_
  refine w_get X M h b ho.2.1 (by omega) fl_X4_38 rfl dX4_makeStroke_6 ?_
  refine w_readSi X M h [.int (nI (x.2.2.2.2.2.2.2 2)), .int (nI (x.2.2.2.2.2.2.2 1))] [.ref (ad b)] ((c_X4_reachBehind l g (x.2.2.2.2.2.2.2 2) (x.2.2.2.2.2.2.2 1) (by omega))) lk_X4_84 rfl ⟨by decide, by decide⟩ hl ⟨Nat.zero_le _, Nat.zero_le _⟩ (Nat.le_of_ble_eq_true rfl) rfl dX4_makeStroke_9 (fun H locs h => ?_)
  refine w_put X M h b ho.2.1 (by omega) fp_X4_41 (rfl) (by rfl) (Nat.le_of_ble_eq_true rfl) dX4_makeStroke_12 (fun F1 H locs h he_F1 hf_F1 => ?_)
  refine lv_aload_n kx kb dX4_makeStroke_15 rfl (lv_at hl 0 rfl) ?_
  refine lv_dup kx kb dX4_makeStroke_16 rfl ?_
  refine w_get X M h b he_F1 (by omega) fl_X4_44 rfl dX4_makeStroke_17 ?_
  refine lv_aload_n kx kb dX4_makeStroke_20 rfl (lv_at hl 0 rfl) ?_
  refine w_get X M h b he_F1 (by omega) fl_X4_41 rfl dX4_makeStroke_21 ?_
  refine w_readSi X M h [.int (nI (min 30 ((x.2.2.2.2.2.2.2 2) + (x.2.2.2.2.2.2.2 1))))] [.int (nI (x.2.2.2.2.2.2.2 3)), .ref (ad b)] ((c_X4_groansOf l g (min 30 ((x.2.2.2.2.2.2.2 2) + (x.2.2.2.2.2.2.2 1))) (by omega))) lk_X4_87 rfl ⟨by decide, by decide⟩ hl ⟨Nat.zero_le _, Nat.zero_le _⟩ (Nat.le_of_ble_eq_true rfl) rfl dX4_makeStroke_24 (fun H locs h => ?_)
  refine w_addn kx kb dX4_makeStroke_27 ?_
  refine w_put X M h b he_F1 (by omega) fp_X4_44 (rfl) (by rfl) (Nat.le_of_ble_eq_true rfl) dX4_makeStroke_28 (fun F2 H locs h he_F2 hf_F2 => ?_)
  refine lv_aload_n kx kb dX4_makeStroke_31 rfl (lv_at hl 0 rfl) ?_
  refine lv_dup kx kb dX4_makeStroke_32 rfl ?_
  refine w_get X M h b he_F2 (by omega) fl_X4_56 rfl dX4_makeStroke_33 ?_
  refine lv_iconst (v := nI 1) kx kb dX4_makeStroke_36 (by decide) ?_
  refine w_addn kx kb dX4_makeStroke_37 ?_
  refine w_put X M h b he_F2 (by omega) fp_X4_56 (rfl) (by rfl) (Nat.le_of_ble_eq_true rfl) dX4_makeStroke_38 (fun F3 H locs h he_F3 hf_F3 => ?_)
  refine lv_aload_n kx kb dX4_makeStroke_41 rfl (lv_at hl 0 rfl) ?_
  refine w_get X M h b he_F3 (by omega) fl_X4_12 rfl dX4_makeStroke_42 ?_
  refine lv_aload_n kx kb dX4_makeStroke_45 rfl (lv_at hl 0 rfl) ?_
  refine w_get X M h b he_F3 (by omega) fl_X4_34 rfl dX4_makeStroke_46 ?_
  refine lv_aload_n kx kb dX4_makeStroke_49 rfl (lv_at hl 0 rfl) ?_
  refine w_get X M h b he_F3 (by omega) fl_X4_41 rfl dX4_makeStroke_50 ?_
  refine w_readVi X M h [.int (nI (x.2.2.2.2.2.2.2 0)), .int (nI (min 30 ((x.2.2.2.2.2.2.2 2) + (x.2.2.2.2.2.2.2 1))))] [] ((c_X1_countWithin l g (b + 1) x.1 x.2.1 ⟨by omega, ((hf_F3 (b + 1) (by omega)).trans ((hf_F2 (b + 1) (by omega)).trans ((hf_F1 (b + 1) (by omega)).trans ho.2.2.1.2.1))), ⟨by omega, ((hf_F3 (b + 2) (by omega)).trans ((hf_F2 (b + 2) (by omega)).trans ((hf_F1 (b + 2) (by omega)).trans ho.2.2.1.2.2.1.2.1))), (((ho.2.2.1.2.2.1.2.2.fr (hf_F1 (b + 3) (by omega))).fr (hf_F2 (b + 3) (by omega))).fr (hf_F3 (b + 3) (by omega)))⟩, ⟨by omega, ((hf_F3 (b + 4) (by omega)).trans ((hf_F2 (b + 4) (by omega)).trans ((hf_F1 (b + 4) (by omega)).trans ho.2.2.1.2.2.2.1.2.1))), (((ho.2.2.1.2.2.2.1.2.2.fr (hf_F1 (b + 5) (by omega))).fr (hf_F2 (b + 5) (by omega))).fr (hf_F3 (b + 5) (by omega)))⟩, ⟨by omega, ((hf_F3 (b + 6) (by omega)).trans ((hf_F2 (b + 6) (by omega)).trans ((hf_F1 (b + 6) (by omega)).trans ho.2.2.1.2.2.2.2.1.2.1))), (((ho.2.2.1.2.2.2.2.1.2.2.fr (hf_F1 (b + 7) (by omega))).fr (hf_F2 (b + 7) (by omega))).fr (hf_F3 (b + 7) (by omega)))⟩, ⟨by omega, ((hf_F3 (b + 8) (by omega)).trans ((hf_F2 (b + 8) (by omega)).trans ((hf_F1 (b + 8) (by omega)).trans ho.2.2.1.2.2.2.2.2.1.2.1))), (((ho.2.2.1.2.2.2.2.2.1.2.2.fr (hf_F1 (b + 9) (by omega))).fr (hf_F2 (b + 9) (by omega))).fr (hf_F3 (b + 9) (by omega)))⟩, ⟨by omega, ((hf_F3 (b + 10) (by omega)).trans ((hf_F2 (b + 10) (by omega)).trans ((hf_F1 (b + 10) (by omega)).trans ho.2.2.1.2.2.2.2.2.2.2.1))), (((ho.2.2.1.2.2.2.2.2.2.2.2.fr (hf_F1 (b + 11) (by omega))).fr (hf_F2 (b + 11) (by omega))).fr (hf_F3 (b + 11) (by omega)))⟩⟩ (by omega) (nI (x.2.2.2.2.2.2.2 0)) (nI (min 30 ((x.2.2.2.2.2.2.2 2) + (x.2.2.2.2.2.2.2 1)))))) lk_X4_90 ((hf_F3 (b + 1) (by omega)).trans ((hf_F2 (b + 1) (by omega)).trans ((hf_F1 (b + 1) (by omega)).trans ho.2.2.1.2.1))) (by omega) rfl rfl ⟨by decide, by decide⟩ hl ⟨Nat.zero_le _, Nat.zero_le _⟩ (Nat.le_of_ble_eq_true rfl) rfl dX4_makeStroke_53 (fun H locs h => ?_)
  refine lv_aload_n kx kb dX4_makeStroke_56 rfl (lv_at hl 0 rfl) ?_
  refine w_get X M h b he_F3 (by omega) fl_X4_30 rfl dX4_makeStroke_57 ?_
  refine lv_aload_n kx kb dX4_makeStroke_60 rfl (lv_at hl 0 rfl) ?_
  refine w_get X M h b he_F3 (by omega) fl_X4_34 rfl dX4_makeStroke_61 ?_
  refine w_readVi X M h [.int (nI (x.2.2.2.2.2.2.2 0))] [.int (nI (cnt (cwP x.2.1 (nI (x.2.2.2.2.2.2.2 0)) (nI (min 30 ((x.2.2.2.2.2.2.2 2) + (x.2.2.2.2.2.2.2 1))))) x.1))] ((c_X3_at_n l g (b + 20) 4 (fun k => nI (x.2.2.2.2.2.2.1 k)) (x.2.2.2.2.2.2.2 0) ⟨by omega, ((hf_F3 (b + 20) (by omega)).trans ((hf_F2 (b + 20) (by omega)).trans ((hf_F1 (b + 20) (by omega)).trans ho.2.2.2.2.2.1))), (((ho.2.2.2.2.2.2.fr (hf_F1 (b + 21) (by omega))).fr (hf_F2 (b + 21) (by omega))).fr (hf_F3 (b + 21) (by omega)))⟩ (by omega) (by omega))) lk_X4_75 ((hf_F3 (b + 20) (by omega)).trans ((hf_F2 (b + 20) (by omega)).trans ((hf_F1 (b + 20) (by omega)).trans ho.2.2.2.2.2.1))) (by omega) rfl rfl ⟨by decide, by decide⟩ hl ⟨Nat.zero_le _, Nat.zero_le _⟩ (Nat.le_of_ble_eq_true rfl) rfl dX4_makeStroke_64 (fun H locs h => ?_)
  refine w_mminn X hl q3_151 (by omega) (by omega) ⟨by decide, by decide⟩ (Nat.le_of_ble_eq_true rfl) ⟨Nat.zero_le _, Nat.zero_le _⟩ dX4_makeStroke_67 ?_
  refine w_top (y := nI (stCnt (strk x))) rfl ?_
  refine lv_istore_n (lv' := [(1, .int (nI (stCnt (strk x)))), (0, .ref (ad b))]) kx kb dX4_makeStroke_70 rfl hl (by decide) rfl (fun ls hl => ?_)
  refine lv_iconst (v := nI 0) kx kb dX4_makeStroke_71 (by decide) ?_
  refine lv_istore_n (lv' := [(2, .int (nI 0)), (1, .int (nI (stCnt (strk x)))), (0, .ref (ad b))]) kx kb dX4_makeStroke_72 rfl hl (by decide) rfl (fun ls hl => ?_)
  have hx1 : oSt g N ad F3 b (strk x) := ⟨by omega, he_F3, ⟨by omega, ((hf_F3 (b + 1) (by omega)).trans ((hf_F2 (b + 1) (by omega)).trans ((hf_F1 (b + 1) (by omega)).trans ho.2.2.1.2.1))), ⟨by omega, ((hf_F3 (b + 2) (by omega)).trans ((hf_F2 (b + 2) (by omega)).trans ((hf_F1 (b + 2) (by omega)).trans ho.2.2.1.2.2.1.2.1))), (((ho.2.2.1.2.2.1.2.2.fr (hf_F1 (b + 3) (by omega))).fr (hf_F2 (b + 3) (by omega))).fr (hf_F3 (b + 3) (by omega)))⟩, ⟨by omega, ((hf_F3 (b + 4) (by omega)).trans ((hf_F2 (b + 4) (by omega)).trans ((hf_F1 (b + 4) (by omega)).trans ho.2.2.1.2.2.2.1.2.1))), (((ho.2.2.1.2.2.2.1.2.2.fr (hf_F1 (b + 5) (by omega))).fr (hf_F2 (b + 5) (by omega))).fr (hf_F3 (b + 5) (by omega)))⟩, ⟨by omega, ((hf_F3 (b + 6) (by omega)).trans ((hf_F2 (b + 6) (by omega)).trans ((hf_F1 (b + 6) (by omega)).trans ho.2.2.1.2.2.2.2.1.2.1))), (((ho.2.2.1.2.2.2.2.1.2.2.fr (hf_F1 (b + 7) (by omega))).fr (hf_F2 (b + 7) (by omega))).fr (hf_F3 (b + 7) (by omega)))⟩, ⟨by omega, ((hf_F3 (b + 8) (by omega)).trans ((hf_F2 (b + 8) (by omega)).trans ((hf_F1 (b + 8) (by omega)).trans ho.2.2.1.2.2.2.2.2.1.2.1))), (((ho.2.2.1.2.2.2.2.2.1.2.2.fr (hf_F1 (b + 9) (by omega))).fr (hf_F2 (b + 9) (by omega))).fr (hf_F3 (b + 9) (by omega)))⟩, ⟨by omega, ((hf_F3 (b + 10) (by omega)).trans ((hf_F2 (b + 10) (by omega)).trans ((hf_F1 (b + 10) (by omega)).trans ho.2.2.1.2.2.2.2.2.2.2.1))), (((ho.2.2.1.2.2.2.2.2.2.2.2.fr (hf_F1 (b + 11) (by omega))).fr (hf_F2 (b + 11) (by omega))).fr (hf_F3 (b + 11) (by omega)))⟩⟩, ⟨by omega, ((hf_F3 (b + 12) (by omega)).trans ((hf_F2 (b + 12) (by omega)).trans ((hf_F1 (b + 12) (by omega)).trans ho.2.2.2.1.2.1))), ⟨by omega, ((hf_F3 (b + 13) (by omega)).trans ((hf_F2 (b + 13) (by omega)).trans ((hf_F1 (b + 13) (by omega)).trans ho.2.2.2.1.2.2.1.2.1))), (((ho.2.2.2.1.2.2.1.2.2.fr (hf_F1 (b + 14) (by omega))).fr (hf_F2 (b + 14) (by omega))).fr (hf_F3 (b + 14) (by omega)))⟩, ⟨by omega, ((hf_F3 (b + 15) (by omega)).trans ((hf_F2 (b + 15) (by omega)).trans ((hf_F1 (b + 15) (by omega)).trans ho.2.2.2.1.2.2.2.1.2.1))), (((ho.2.2.2.1.2.2.2.1.2.2.fr (hf_F1 (b + 16) (by omega))).fr (hf_F2 (b + 16) (by omega))).fr (hf_F3 (b + 16) (by omega)))⟩, (((ho.2.2.2.1.2.2.2.2.1.fr (hf_F1 (b + 17) (by omega))).fr (hf_F2 (b + 17) (by omega))).fr (hf_F3 (b + 17) (by omega))), ⟨by omega, ((hf_F3 (b + 18) (by omega)).trans ((hf_F2 (b + 18) (by omega)).trans ((hf_F1 (b + 18) (by omega)).trans ho.2.2.2.1.2.2.2.2.2.2.1))), (((ho.2.2.2.1.2.2.2.2.2.2.2.fr (hf_F1 (b + 19) (by omega))).fr (hf_F2 (b + 19) (by omega))).fr (hf_F3 (b + 19) (by omega)))⟩⟩, ⟨by omega, ((hf_F3 (b + 20) (by omega)).trans ((hf_F2 (b + 20) (by omega)).trans ((hf_F1 (b + 20) (by omega)).trans ho.2.2.2.2.2.1))), (((ho.2.2.2.2.2.2.fr (hf_F1 (b + 21) (by omega))).fr (hf_F2 (b + 21) (by omega))).fr (hf_F3 (b + 21) (by omega)))⟩⟩
  refine w_loop3 (fun (i : Nat) (F1 : Nat → va_E) (y0 : SX) => stCnt (strk x) - i) (fun (i : Nat) (F1 : Nat → va_E) (y0 : SX) H locs ls => Hx g N ad F1 A s H locs ∧ lv_has ls 3 [(0, .ref (ad b)), (1, .int (nI (stCnt (strk x)))), (2, .int (nI i))] ∧ (i ≤ stCnt (strk x)) ∧ (oSt g N ad F1 b y0) ∧ (∀ q, (q < b ∨ b + 21 < q) → F1 q = F q) ∧ (LiftR (stCnt (strk x) - i) y0 y) ∧ (y0.2.2.2.2.2.2.2 = zStrk x.2.2.2.2.2.2.2)) ?_ 0 F3 (strk x) ⟨h, lv_sub hl [2, 1, 0] rfl, Nat.zero_le _, hx1, (fun q hq => (hf_F3 q (by omega)).trans ((hf_F2 q (by omega)).trans (hf_F1 q (by omega)))), hS, rfl⟩
  intro i F1 y0 H locs ls hinv ih
  obtain ⟨h, hl, hi, ho1, hfr, hL, hz0⟩ := hinv
  refine lv_iload_n kx kb dX4_makeStroke_73 rfl (lv_at hl 2 rfl) ?_
  refine lv_iload_n kx kb dX4_makeStroke_74 rfl (lv_at hl 1 rfl) ?_
  refine w_cmp_ge (tgt := 100) kx kb (by omega) (by omega) dX4_makeStroke_75 (by decide) (fun c_4 => ?_) (fun c_4 => ?_)
  · refine lv_iload_n kx kb dX4_makeStroke_100 rfl (lv_at hl 1 rfl) ?_
    exact w_iret X h ⟨rfl, by rw [show stCnt (strk x) - i = 0 by omega] at hL; rw [← show y0 = y from hL]; exact ho1, hfr⟩ dX4_makeStroke_101
  · obtain ⟨k, sg, hok, hk1, hL4⟩ : LiftR (stCnt (strk x) - i - 1 + 1) y0 y := by rw [show stCnt (strk x) - i - 1 + 1 = stCnt (strk x) - i by omega]; exact hL
    have hk := hok.1
    have hk2 := hok.2.1
    refine lv_aload_n kx kb dX4_makeStroke_78 rfl (lv_at hl 0 rfl) ?_
    refine lv_aload_n kx kb dX4_makeStroke_79 rfl (lv_at hl 0 rfl) ?_
    refine w_get X M h b ho1.2.1 (by omega) fl_X4_12 rfl dX4_makeStroke_80 ?_
    refine lv_aload_n kx kb dX4_makeStroke_83 rfl (lv_at hl 0 rfl) ?_
    refine w_get X M h b ho1.2.1 (by omega) fl_X4_34 rfl dX4_makeStroke_84 ?_
    refine lv_iconst (v := nI 0) kx kb dX4_makeStroke_87 (by decide) ?_
    refine w_readVi X M h [.int (nI (y0.2.2.2.2.2.2.2 0)), .int (nI 0)] [.ref (ad b)] ((c_X1_byDepth l g (b + 1) y0.1 y0.2.1 ⟨by omega, ho1.2.2.1.2.1, ⟨by omega, ho1.2.2.1.2.2.1.2.1, ho1.2.2.1.2.2.1.2.2⟩, ⟨by omega, ho1.2.2.1.2.2.2.1.2.1, ho1.2.2.1.2.2.2.1.2.2⟩, ⟨by omega, ho1.2.2.1.2.2.2.2.1.2.1, ho1.2.2.1.2.2.2.2.1.2.2⟩, ⟨by omega, ho1.2.2.1.2.2.2.2.2.1.2.1, ho1.2.2.1.2.2.2.2.2.1.2.2⟩, ⟨by omega, ho1.2.2.1.2.2.2.2.2.2.2.1, ho1.2.2.1.2.2.2.2.2.2.2.2⟩⟩ (by omega) (nI (y0.2.2.2.2.2.2.2 0)) (nI 0))) lk_X4_93 ho1.2.2.1.2.1 (by omega) rfl rfl ⟨by decide, by decide⟩ hl ⟨Nat.zero_le _, Nat.zero_le _⟩ (Nat.le_of_ble_eq_true rfl) rfl dX4_makeStroke_88 (fun H locs h => ?_)
    refine w_top (y := nI k) hk1 ?_
    refine w_callVv X M h [.int (nI k)] [] ((c_X4_lift l g b y0 ⟨by omega, ho1.2.1, ⟨by omega, ho1.2.2.1.2.1, ⟨by omega, ho1.2.2.1.2.2.1.2.1, ho1.2.2.1.2.2.1.2.2⟩, ⟨by omega, ho1.2.2.1.2.2.2.1.2.1, ho1.2.2.1.2.2.2.1.2.2⟩, ⟨by omega, ho1.2.2.1.2.2.2.2.1.2.1, ho1.2.2.1.2.2.2.2.1.2.2⟩, ⟨by omega, ho1.2.2.1.2.2.2.2.2.1.2.1, ho1.2.2.1.2.2.2.2.2.1.2.2⟩, ⟨by omega, ho1.2.2.1.2.2.2.2.2.2.2.1, ho1.2.2.1.2.2.2.2.2.2.2.2⟩⟩, ⟨by omega, ho1.2.2.2.1.2.1, ⟨by omega, ho1.2.2.2.1.2.2.1.2.1, ho1.2.2.2.1.2.2.1.2.2⟩, ⟨by omega, ho1.2.2.2.1.2.2.2.1.2.1, ho1.2.2.2.1.2.2.2.1.2.2⟩, ho1.2.2.2.1.2.2.2.2.1, ⟨by omega, ho1.2.2.2.1.2.2.2.2.2.2.1, ho1.2.2.2.1.2.2.2.2.2.2.2⟩⟩, ⟨by omega, ho1.2.2.2.2.2.1, ho1.2.2.2.2.2.2⟩⟩ k sg hok)) lk_X4_96 ho1.2.1 (by omega) rfl rfl ⟨by decide, by decide⟩ hl ⟨Nat.zero_le _, Nat.zero_le _⟩ (Nat.le_of_ble_eq_true rfl) rfl dX4_makeStroke_91 (fun F5 H locs hp_F5 h => ?_)
    refine lv_iinc (v := nI (i + 1)) (lv' := [(2, .int (nI (i + 1))), (0, .ref (ad b)), (1, .int (nI (stCnt (strk x))))]) kx kb dX4_makeStroke_94 hl (k := 2) rfl (nI_add _ _) (by decide) rfl (fun ls hl => ?_)
    refine lv_goto (tgt := 73) kx kb dX4_makeStroke_97 (by decide) ?_
    exact ih (i + 1) F5 (lift1 y0 k sg) _ _ _ ⟨h, lv_sub hl [1, 2, 0] rfl, by omega, ⟨by omega, hp_F5.1.2.1, ⟨by omega, hp_F5.1.2.2.1.2.1, ⟨by omega, hp_F5.1.2.2.1.2.2.1.2.1, hp_F5.1.2.2.1.2.2.1.2.2⟩, ⟨by omega, hp_F5.1.2.2.1.2.2.2.1.2.1, hp_F5.1.2.2.1.2.2.2.1.2.2⟩, ⟨by omega, hp_F5.1.2.2.1.2.2.2.2.1.2.1, hp_F5.1.2.2.1.2.2.2.2.1.2.2⟩, ⟨by omega, hp_F5.1.2.2.1.2.2.2.2.2.1.2.1, hp_F5.1.2.2.1.2.2.2.2.2.1.2.2⟩, ⟨by omega, hp_F5.1.2.2.1.2.2.2.2.2.2.2.1, hp_F5.1.2.2.1.2.2.2.2.2.2.2.2⟩⟩, ⟨by omega, hp_F5.1.2.2.2.1.2.1, ⟨by omega, hp_F5.1.2.2.2.1.2.2.1.2.1, hp_F5.1.2.2.2.1.2.2.1.2.2⟩, ⟨by omega, hp_F5.1.2.2.2.1.2.2.2.1.2.1, hp_F5.1.2.2.2.1.2.2.2.1.2.2⟩, hp_F5.1.2.2.2.1.2.2.2.2.1, ⟨by omega, hp_F5.1.2.2.2.1.2.2.2.2.2.2.1, hp_F5.1.2.2.2.1.2.2.2.2.2.2.2⟩⟩, ⟨by omega, hp_F5.1.2.2.2.2.2.1, hp_F5.1.2.2.2.2.2.2⟩⟩, (fun q hq => (hp_F5.2 q (by omega)).trans (hfr q (by omega))), by rw [show stCnt (strk x) - (i + 1) = stCnt (strk x) - i - 1 by omega]; exact hL4, hz0⟩ (by omega)
set_option maxRecDepth 20000 in
theorem c_X4_copy (l : Launch) (g : gT) {N : Nat} {ad : Nat → Nat} {F : Nat → va_E} (b : Nat) (x : SX) (ho : oSt g N ad F b x) (b2 : Nat) (x2 : SX) (ho2 : oSt g N ad F b2 x2) (hap : b + 21 < b2 ∨ b2 + 21 < b) : CtV l yX4_copy cX4_copy 2 none 3 73 g N ad F [.ref (ad b), .ref (ad b2)] (fun F' => oSt g N ad F' b2 x ∧ ∀ q, (q < b2 ∨ b2 + 21 < q) → F' q = F q) := by
  refine CtV_of (by decide) (Nat.le_of_ble_eq_true rfl) ?_
  intro p e s m args below meth c A H ls X M h hl
  have kx := X.1.1
  have kb := X.1.2.1
  have hl : lv_has ls 2 [(0, .ref (ad b)), (1, .ref (ad b2))] := hl
  have hN := ho.1
  have hN2 := ho2.1
  refine lv_aload_n kx kb dX4_copy_0 rfl (lv_at hl 0 rfl) ?_
  refine lv_ifnull kx kb dX4_copy_1 ?_
  refine lv_aload_n kx kb dX4_copy_4 rfl (lv_at hl 1 rfl) ?_
  refine lv_ifnonnull (tgt := 9) kx kb dX4_copy_5 (by decide) ?_
  refine lv_aload_n kx kb dX4_copy_9 rfl (lv_at hl 0 rfl) ?_
  refine w_get X M h b ho.2.1 (by omega) fl_X4_12 rfl dX4_copy_10 ?_
  refine lv_aload_n kx kb dX4_copy_13 rfl (lv_at hl 1 rfl) ?_
  refine w_get X M h b2 ho2.2.1 (by omega) fl_X4_12 rfl dX4_copy_14 ?_
  refine w_callSv X M h [.ref (ad (b + 1)), .ref (ad (b2 + 1))] [] ((c_X1_copy l g (b + 1) x.1 x.2.1 ⟨by omega, ho.2.2.1.2.1, ⟨by omega, ho.2.2.1.2.2.1.2.1, ho.2.2.1.2.2.1.2.2⟩, ⟨by omega, ho.2.2.1.2.2.2.1.2.1, ho.2.2.1.2.2.2.1.2.2⟩, ⟨by omega, ho.2.2.1.2.2.2.2.1.2.1, ho.2.2.1.2.2.2.2.1.2.2⟩, ⟨by omega, ho.2.2.1.2.2.2.2.2.1.2.1, ho.2.2.1.2.2.2.2.2.1.2.2⟩, ⟨by omega, ho.2.2.1.2.2.2.2.2.2.2.1, ho.2.2.1.2.2.2.2.2.2.2.2⟩⟩ (b2 + 1) x2.1 x2.2.1 ⟨by omega, ho2.2.2.1.2.1, ⟨by omega, ho2.2.2.1.2.2.1.2.1, ho2.2.2.1.2.2.1.2.2⟩, ⟨by omega, ho2.2.2.1.2.2.2.1.2.1, ho2.2.2.1.2.2.2.1.2.2⟩, ⟨by omega, ho2.2.2.1.2.2.2.2.1.2.1, ho2.2.2.1.2.2.2.2.1.2.2⟩, ⟨by omega, ho2.2.2.1.2.2.2.2.2.1.2.1, ho2.2.2.1.2.2.2.2.2.1.2.2⟩, ⟨by omega, ho2.2.2.1.2.2.2.2.2.2.2.1, ho2.2.2.1.2.2.2.2.2.2.2.2⟩⟩ (by omega))) lk_X4_116 rfl ⟨by decide, by decide⟩ hl ⟨Nat.zero_le _, Nat.zero_le _⟩ (Nat.le_of_ble_eq_true rfl) rfl dX4_copy_17 (fun F1 H locs hp_F1 h => ?_)
  refine lv_aload_n kx kb dX4_copy_20 rfl (lv_at hl 0 rfl) ?_
  refine w_get X M h b ((hp_F1.2 b (by omega)).trans ho.2.1) (by omega) fl_X4_21 rfl dX4_copy_21 ?_
  refine lv_aload_n kx kb dX4_copy_24 rfl (lv_at hl 1 rfl) ?_
  refine w_get X M h b2 ((hp_F1.2 b2 (by omega)).trans ho2.2.1) (by omega) fl_X4_21 rfl dX4_copy_25 ?_
  refine w_callSv X M h [.ref (ad (b + 12)), .ref (ad (b2 + 12))] [] ((c_X6_copy l g (b + 12) x.2.2.1 x.2.2.2.1 x.2.2.2.2.1 x.2.2.2.2.2.1 ⟨by omega, ((hp_F1.2 (b + 12) (by omega)).trans ho.2.2.2.1.2.1), ⟨by omega, ((hp_F1.2 (b + 13) (by omega)).trans ho.2.2.2.1.2.2.1.2.1), (ho.2.2.2.1.2.2.1.2.2.fr (hp_F1.2 (b + 14) (by omega)))⟩, ⟨by omega, ((hp_F1.2 (b + 15) (by omega)).trans ho.2.2.2.1.2.2.2.1.2.1), (ho.2.2.2.1.2.2.2.1.2.2.fr (hp_F1.2 (b + 16) (by omega)))⟩, (ho.2.2.2.1.2.2.2.2.1.fr (hp_F1.2 (b + 17) (by omega))), ⟨by omega, ((hp_F1.2 (b + 18) (by omega)).trans ho.2.2.2.1.2.2.2.2.2.2.1), (ho.2.2.2.1.2.2.2.2.2.2.2.fr (hp_F1.2 (b + 19) (by omega)))⟩⟩ (b2 + 12) x2.2.2.1 x2.2.2.2.1 x2.2.2.2.2.1 x2.2.2.2.2.2.1 ⟨by omega, ((hp_F1.2 (b2 + 12) (by omega)).trans ho2.2.2.2.1.2.1), ⟨by omega, ((hp_F1.2 (b2 + 13) (by omega)).trans ho2.2.2.2.1.2.2.1.2.1), (ho2.2.2.2.1.2.2.1.2.2.fr (hp_F1.2 (b2 + 14) (by omega)))⟩, ⟨by omega, ((hp_F1.2 (b2 + 15) (by omega)).trans ho2.2.2.2.1.2.2.2.1.2.1), (ho2.2.2.2.1.2.2.2.1.2.2.fr (hp_F1.2 (b2 + 16) (by omega)))⟩, (ho2.2.2.2.1.2.2.2.2.1.fr (hp_F1.2 (b2 + 17) (by omega))), ⟨by omega, ((hp_F1.2 (b2 + 18) (by omega)).trans ho2.2.2.2.1.2.2.2.2.2.2.1), (ho2.2.2.2.1.2.2.2.2.2.2.2.fr (hp_F1.2 (b2 + 19) (by omega)))⟩⟩ (by omega))) lk_X4_120 rfl ⟨by decide, by decide⟩ hl ⟨Nat.zero_le _, Nat.zero_le _⟩ (Nat.le_of_ble_eq_true rfl) rfl dX4_copy_28 (fun F2 H locs hp_F2 h => ?_)
  refine lv_aload_n kx kb dX4_copy_31 rfl (lv_at hl 0 rfl) ?_
  refine w_get X M h b ((hp_F2.2 b (by omega)).trans ((hp_F1.2 b (by omega)).trans ho.2.1)) (by omega) fl_X4_30 rfl dX4_copy_32 ?_
  refine lv_aload_n kx kb dX4_copy_35 rfl (lv_at hl 1 rfl) ?_
  refine w_get X M h b2 ((hp_F2.2 b2 (by omega)).trans ((hp_F1.2 b2 (by omega)).trans ho2.2.1)) (by omega) fl_X4_30 rfl dX4_copy_36 ?_
  refine w_callSv X M h [.ref (ad (b + 20)), .ref (ad (b2 + 20))] [] ((c_X3_copy l g (b + 20) (b2 + 20) 4 (fun k => nI (x.2.2.2.2.2.2.1 k)) (fun k => nI (x2.2.2.2.2.2.2.1 k)) ⟨by omega, ((hp_F2.2 (b + 20) (by omega)).trans ((hp_F1.2 (b + 20) (by omega)).trans ho.2.2.2.2.2.1)), ((ho.2.2.2.2.2.2.fr (hp_F1.2 (b + 21) (by omega))).fr (hp_F2.2 (b + 21) (by omega)))⟩ ⟨by omega, ((hp_F2.2 (b2 + 20) (by omega)).trans ((hp_F1.2 (b2 + 20) (by omega)).trans ho2.2.2.2.2.2.1)), ((ho2.2.2.2.2.2.2.fr (hp_F1.2 (b2 + 21) (by omega))).fr (hp_F2.2 (b2 + 21) (by omega)))⟩ (by omega))) lk_X4_123 rfl ⟨by decide, by decide⟩ hl ⟨Nat.zero_le _, Nat.zero_le _⟩ (Nat.le_of_ble_eq_true rfl) rfl dX4_copy_39 (fun F3 H locs hp_F3 h => ?_)
  refine lv_aload_n kx kb dX4_copy_42 rfl (lv_at hl 1 rfl) ?_
  refine lv_aload_n kx kb dX4_copy_43 rfl (lv_at hl 0 rfl) ?_
  refine w_get X M h b ((hp_F3.2 b (by omega)).trans ((hp_F2.2 b (by omega)).trans ((hp_F1.2 b (by omega)).trans ho.2.1))) (by omega) fl_X4_34 rfl dX4_copy_44 ?_
  refine w_put X M h b2 ((hp_F3.2 b2 (by omega)).trans ((hp_F2.2 b2 (by omega)).trans ((hp_F1.2 b2 (by omega)).trans ho2.2.1))) (by omega) fp_X4_34 (rfl) (by rfl) (Nat.le_of_ble_eq_true rfl) dX4_copy_47 (fun F4 H locs h he_F4 hf_F4 => ?_)
  refine lv_aload_n kx kb dX4_copy_50 rfl (lv_at hl 1 rfl) ?_
  refine lv_aload_n kx kb dX4_copy_51 rfl (lv_at hl 0 rfl) ?_
  refine w_get X M h b ((hf_F4 b (by omega)).trans ((hp_F3.2 b (by omega)).trans ((hp_F2.2 b (by omega)).trans ((hp_F1.2 b (by omega)).trans ho.2.1)))) (by omega) fl_X4_38 rfl dX4_copy_52 ?_
  refine w_put X M h b2 he_F4 (by omega) fp_X4_38 (rfl) (by rfl) (Nat.le_of_ble_eq_true rfl) dX4_copy_55 (fun F5 H locs h he_F5 hf_F5 => ?_)
  refine lv_aload_n kx kb dX4_copy_58 rfl (lv_at hl 1 rfl) ?_
  refine lv_aload_n kx kb dX4_copy_59 rfl (lv_at hl 0 rfl) ?_
  refine w_get X M h b ((hf_F5 b (by omega)).trans ((hf_F4 b (by omega)).trans ((hp_F3.2 b (by omega)).trans ((hp_F2.2 b (by omega)).trans ((hp_F1.2 b (by omega)).trans ho.2.1))))) (by omega) fl_X4_41 rfl dX4_copy_60 ?_
  refine w_put X M h b2 he_F5 (by omega) fp_X4_41 (rfl) (by rfl) (Nat.le_of_ble_eq_true rfl) dX4_copy_63 (fun F6 H locs h he_F6 hf_F6 => ?_)
  refine lv_aload_n kx kb dX4_copy_66 rfl (lv_at hl 1 rfl) ?_
  refine lv_aload_n kx kb dX4_copy_67 rfl (lv_at hl 0 rfl) ?_
  refine w_get X M h b ((hf_F6 b (by omega)).trans ((hf_F5 b (by omega)).trans ((hf_F4 b (by omega)).trans ((hp_F3.2 b (by omega)).trans ((hp_F2.2 b (by omega)).trans ((hp_F1.2 b (by omega)).trans ho.2.1)))))) (by omega) fl_X4_44 rfl dX4_copy_68 ?_
  refine w_put X M h b2 he_F6 (by omega) fp_X4_44 (rfl) (by rfl) (Nat.le_of_ble_eq_true rfl) dX4_copy_71 (fun F7 H locs h he_F7 hf_F7 => ?_)
  refine lv_aload_n kx kb dX4_copy_74 rfl (lv_at hl 1 rfl) ?_
  refine lv_aload_n kx kb dX4_copy_75 rfl (lv_at hl 0 rfl) ?_
  refine w_get X M h b ((hf_F7 b (by omega)).trans ((hf_F6 b (by omega)).trans ((hf_F5 b (by omega)).trans ((hf_F4 b (by omega)).trans ((hp_F3.2 b (by omega)).trans ((hp_F2.2 b (by omega)).trans ((hp_F1.2 b (by omega)).trans ho.2.1))))))) (by omega) fl_X4_47 rfl dX4_copy_76 ?_
  refine w_put X M h b2 he_F7 (by omega) fp_X4_47 (rfl) (by rfl) (Nat.le_of_ble_eq_true rfl) dX4_copy_79 (fun F8 H locs h he_F8 hf_F8 => ?_)
  refine lv_aload_n kx kb dX4_copy_82 rfl (lv_at hl 1 rfl) ?_
  refine lv_aload_n kx kb dX4_copy_83 rfl (lv_at hl 0 rfl) ?_
  refine w_get X M h b ((hf_F8 b (by omega)).trans ((hf_F7 b (by omega)).trans ((hf_F6 b (by omega)).trans ((hf_F5 b (by omega)).trans ((hf_F4 b (by omega)).trans ((hp_F3.2 b (by omega)).trans ((hp_F2.2 b (by omega)).trans ((hp_F1.2 b (by omega)).trans ho.2.1)))))))) (by omega) fl_X4_50 rfl dX4_copy_84 ?_
  refine w_put X M h b2 he_F8 (by omega) fp_X4_50 (rfl) (by rfl) (Nat.le_of_ble_eq_true rfl) dX4_copy_87 (fun F9 H locs h he_F9 hf_F9 => ?_)
  refine lv_aload_n kx kb dX4_copy_90 rfl (lv_at hl 1 rfl) ?_
  refine lv_aload_n kx kb dX4_copy_91 rfl (lv_at hl 0 rfl) ?_
  refine w_get X M h b ((hf_F9 b (by omega)).trans ((hf_F8 b (by omega)).trans ((hf_F7 b (by omega)).trans ((hf_F6 b (by omega)).trans ((hf_F5 b (by omega)).trans ((hf_F4 b (by omega)).trans ((hp_F3.2 b (by omega)).trans ((hp_F2.2 b (by omega)).trans ((hp_F1.2 b (by omega)).trans ho.2.1))))))))) (by omega) fl_X4_53 rfl dX4_copy_92 ?_
  refine w_put X M h b2 he_F9 (by omega) fp_X4_53 (rfl) (by rfl) (Nat.le_of_ble_eq_true rfl) dX4_copy_95 (fun F10 H locs h he_F10 hf_F10 => ?_)
  refine lv_aload_n kx kb dX4_copy_98 rfl (lv_at hl 1 rfl) ?_
  refine lv_aload_n kx kb dX4_copy_99 rfl (lv_at hl 0 rfl) ?_
  refine w_get X M h b ((hf_F10 b (by omega)).trans ((hf_F9 b (by omega)).trans ((hf_F8 b (by omega)).trans ((hf_F7 b (by omega)).trans ((hf_F6 b (by omega)).trans ((hf_F5 b (by omega)).trans ((hf_F4 b (by omega)).trans ((hp_F3.2 b (by omega)).trans ((hp_F2.2 b (by omega)).trans ((hp_F1.2 b (by omega)).trans ho.2.1)))))))))) (by omega) fl_X4_56 rfl dX4_copy_100 ?_
  refine w_put X M h b2 he_F10 (by omega) fp_X4_56 (rfl) (by rfl) (Nat.le_of_ble_eq_true rfl) dX4_copy_103 (fun F11 H locs h he_F11 hf_F11 => ?_)
  refine lv_aload_n kx kb dX4_copy_106 rfl (lv_at hl 1 rfl) ?_
  refine lv_aload_n kx kb dX4_copy_107 rfl (lv_at hl 0 rfl) ?_
  refine w_get X M h b ((hf_F11 b (by omega)).trans ((hf_F10 b (by omega)).trans ((hf_F9 b (by omega)).trans ((hf_F8 b (by omega)).trans ((hf_F7 b (by omega)).trans ((hf_F6 b (by omega)).trans ((hf_F5 b (by omega)).trans ((hf_F4 b (by omega)).trans ((hp_F3.2 b (by omega)).trans ((hp_F2.2 b (by omega)).trans ((hp_F1.2 b (by omega)).trans ho.2.1))))))))))) (by omega) fl_X4_59 rfl dX4_copy_108 ?_
  refine w_put X M h b2 he_F11 (by omega) fp_X4_59 (rfl) (by rfl) (Nat.le_of_ble_eq_true rfl) dX4_copy_111 (fun F12 H locs h he_F12 hf_F12 => ?_)
  exact w_vret X h ⟨⟨by omega, he_F12, ⟨by omega, ((hf_F12 (b2 + 1) (by omega)).trans ((hf_F11 (b2 + 1) (by omega)).trans ((hf_F10 (b2 + 1) (by omega)).trans ((hf_F9 (b2 + 1) (by omega)).trans ((hf_F8 (b2 + 1) (by omega)).trans ((hf_F7 (b2 + 1) (by omega)).trans ((hf_F6 (b2 + 1) (by omega)).trans ((hf_F5 (b2 + 1) (by omega)).trans ((hf_F4 (b2 + 1) (by omega)).trans ((hp_F3.2 (b2 + 1) (by omega)).trans ((hp_F2.2 (b2 + 1) (by omega)).trans hp_F1.1.2.1))))))))))), ⟨by omega, ((hf_F12 (b2 + 2) (by omega)).trans ((hf_F11 (b2 + 2) (by omega)).trans ((hf_F10 (b2 + 2) (by omega)).trans ((hf_F9 (b2 + 2) (by omega)).trans ((hf_F8 (b2 + 2) (by omega)).trans ((hf_F7 (b2 + 2) (by omega)).trans ((hf_F6 (b2 + 2) (by omega)).trans ((hf_F5 (b2 + 2) (by omega)).trans ((hf_F4 (b2 + 2) (by omega)).trans ((hp_F3.2 (b2 + 2) (by omega)).trans ((hp_F2.2 (b2 + 2) (by omega)).trans hp_F1.1.2.2.1.2.1))))))))))), (((((((((((hp_F1.1.2.2.1.2.2.fr (hp_F2.2 (b2 + 3) (by omega))).fr (hp_F3.2 (b2 + 3) (by omega))).fr (hf_F4 (b2 + 3) (by omega))).fr (hf_F5 (b2 + 3) (by omega))).fr (hf_F6 (b2 + 3) (by omega))).fr (hf_F7 (b2 + 3) (by omega))).fr (hf_F8 (b2 + 3) (by omega))).fr (hf_F9 (b2 + 3) (by omega))).fr (hf_F10 (b2 + 3) (by omega))).fr (hf_F11 (b2 + 3) (by omega))).fr (hf_F12 (b2 + 3) (by omega)))⟩, ⟨by omega, ((hf_F12 (b2 + 4) (by omega)).trans ((hf_F11 (b2 + 4) (by omega)).trans ((hf_F10 (b2 + 4) (by omega)).trans ((hf_F9 (b2 + 4) (by omega)).trans ((hf_F8 (b2 + 4) (by omega)).trans ((hf_F7 (b2 + 4) (by omega)).trans ((hf_F6 (b2 + 4) (by omega)).trans ((hf_F5 (b2 + 4) (by omega)).trans ((hf_F4 (b2 + 4) (by omega)).trans ((hp_F3.2 (b2 + 4) (by omega)).trans ((hp_F2.2 (b2 + 4) (by omega)).trans hp_F1.1.2.2.2.1.2.1))))))))))), (((((((((((hp_F1.1.2.2.2.1.2.2.fr (hp_F2.2 (b2 + 5) (by omega))).fr (hp_F3.2 (b2 + 5) (by omega))).fr (hf_F4 (b2 + 5) (by omega))).fr (hf_F5 (b2 + 5) (by omega))).fr (hf_F6 (b2 + 5) (by omega))).fr (hf_F7 (b2 + 5) (by omega))).fr (hf_F8 (b2 + 5) (by omega))).fr (hf_F9 (b2 + 5) (by omega))).fr (hf_F10 (b2 + 5) (by omega))).fr (hf_F11 (b2 + 5) (by omega))).fr (hf_F12 (b2 + 5) (by omega)))⟩, ⟨by omega, ((hf_F12 (b2 + 6) (by omega)).trans ((hf_F11 (b2 + 6) (by omega)).trans ((hf_F10 (b2 + 6) (by omega)).trans ((hf_F9 (b2 + 6) (by omega)).trans ((hf_F8 (b2 + 6) (by omega)).trans ((hf_F7 (b2 + 6) (by omega)).trans ((hf_F6 (b2 + 6) (by omega)).trans ((hf_F5 (b2 + 6) (by omega)).trans ((hf_F4 (b2 + 6) (by omega)).trans ((hp_F3.2 (b2 + 6) (by omega)).trans ((hp_F2.2 (b2 + 6) (by omega)).trans hp_F1.1.2.2.2.2.1.2.1))))))))))), (((((((((((hp_F1.1.2.2.2.2.1.2.2.fr (hp_F2.2 (b2 + 7) (by omega))).fr (hp_F3.2 (b2 + 7) (by omega))).fr (hf_F4 (b2 + 7) (by omega))).fr (hf_F5 (b2 + 7) (by omega))).fr (hf_F6 (b2 + 7) (by omega))).fr (hf_F7 (b2 + 7) (by omega))).fr (hf_F8 (b2 + 7) (by omega))).fr (hf_F9 (b2 + 7) (by omega))).fr (hf_F10 (b2 + 7) (by omega))).fr (hf_F11 (b2 + 7) (by omega))).fr (hf_F12 (b2 + 7) (by omega)))⟩, ⟨by omega, ((hf_F12 (b2 + 8) (by omega)).trans ((hf_F11 (b2 + 8) (by omega)).trans ((hf_F10 (b2 + 8) (by omega)).trans ((hf_F9 (b2 + 8) (by omega)).trans ((hf_F8 (b2 + 8) (by omega)).trans ((hf_F7 (b2 + 8) (by omega)).trans ((hf_F6 (b2 + 8) (by omega)).trans ((hf_F5 (b2 + 8) (by omega)).trans ((hf_F4 (b2 + 8) (by omega)).trans ((hp_F3.2 (b2 + 8) (by omega)).trans ((hp_F2.2 (b2 + 8) (by omega)).trans hp_F1.1.2.2.2.2.2.1.2.1))))))))))), (((((((((((hp_F1.1.2.2.2.2.2.1.2.2.fr (hp_F2.2 (b2 + 9) (by omega))).fr (hp_F3.2 (b2 + 9) (by omega))).fr (hf_F4 (b2 + 9) (by omega))).fr (hf_F5 (b2 + 9) (by omega))).fr (hf_F6 (b2 + 9) (by omega))).fr (hf_F7 (b2 + 9) (by omega))).fr (hf_F8 (b2 + 9) (by omega))).fr (hf_F9 (b2 + 9) (by omega))).fr (hf_F10 (b2 + 9) (by omega))).fr (hf_F11 (b2 + 9) (by omega))).fr (hf_F12 (b2 + 9) (by omega)))⟩, ⟨by omega, ((hf_F12 (b2 + 10) (by omega)).trans ((hf_F11 (b2 + 10) (by omega)).trans ((hf_F10 (b2 + 10) (by omega)).trans ((hf_F9 (b2 + 10) (by omega)).trans ((hf_F8 (b2 + 10) (by omega)).trans ((hf_F7 (b2 + 10) (by omega)).trans ((hf_F6 (b2 + 10) (by omega)).trans ((hf_F5 (b2 + 10) (by omega)).trans ((hf_F4 (b2 + 10) (by omega)).trans ((hp_F3.2 (b2 + 10) (by omega)).trans ((hp_F2.2 (b2 + 10) (by omega)).trans hp_F1.1.2.2.2.2.2.2.2.1))))))))))), (((((((((((hp_F1.1.2.2.2.2.2.2.2.2.fr (hp_F2.2 (b2 + 11) (by omega))).fr (hp_F3.2 (b2 + 11) (by omega))).fr (hf_F4 (b2 + 11) (by omega))).fr (hf_F5 (b2 + 11) (by omega))).fr (hf_F6 (b2 + 11) (by omega))).fr (hf_F7 (b2 + 11) (by omega))).fr (hf_F8 (b2 + 11) (by omega))).fr (hf_F9 (b2 + 11) (by omega))).fr (hf_F10 (b2 + 11) (by omega))).fr (hf_F11 (b2 + 11) (by omega))).fr (hf_F12 (b2 + 11) (by omega)))⟩⟩, ⟨by omega, ((hf_F12 (b2 + 12) (by omega)).trans ((hf_F11 (b2 + 12) (by omega)).trans ((hf_F10 (b2 + 12) (by omega)).trans ((hf_F9 (b2 + 12) (by omega)).trans ((hf_F8 (b2 + 12) (by omega)).trans ((hf_F7 (b2 + 12) (by omega)).trans ((hf_F6 (b2 + 12) (by omega)).trans ((hf_F5 (b2 + 12) (by omega)).trans ((hf_F4 (b2 + 12) (by omega)).trans ((hp_F3.2 (b2 + 12) (by omega)).trans hp_F2.1.2.1)))))))))), ⟨by omega, ((hf_F12 (b2 + 13) (by omega)).trans ((hf_F11 (b2 + 13) (by omega)).trans ((hf_F10 (b2 + 13) (by omega)).trans ((hf_F9 (b2 + 13) (by omega)).trans ((hf_F8 (b2 + 13) (by omega)).trans ((hf_F7 (b2 + 13) (by omega)).trans ((hf_F6 (b2 + 13) (by omega)).trans ((hf_F5 (b2 + 13) (by omega)).trans ((hf_F4 (b2 + 13) (by omega)).trans ((hp_F3.2 (b2 + 13) (by omega)).trans hp_F2.1.2.2.1.2.1)))))))))), ((((((((((hp_F2.1.2.2.1.2.2.fr (hp_F3.2 (b2 + 14) (by omega))).fr (hf_F4 (b2 + 14) (by omega))).fr (hf_F5 (b2 + 14) (by omega))).fr (hf_F6 (b2 + 14) (by omega))).fr (hf_F7 (b2 + 14) (by omega))).fr (hf_F8 (b2 + 14) (by omega))).fr (hf_F9 (b2 + 14) (by omega))).fr (hf_F10 (b2 + 14) (by omega))).fr (hf_F11 (b2 + 14) (by omega))).fr (hf_F12 (b2 + 14) (by omega)))⟩, ⟨by omega, ((hf_F12 (b2 + 15) (by omega)).trans ((hf_F11 (b2 + 15) (by omega)).trans ((hf_F10 (b2 + 15) (by omega)).trans ((hf_F9 (b2 + 15) (by omega)).trans ((hf_F8 (b2 + 15) (by omega)).trans ((hf_F7 (b2 + 15) (by omega)).trans ((hf_F6 (b2 + 15) (by omega)).trans ((hf_F5 (b2 + 15) (by omega)).trans ((hf_F4 (b2 + 15) (by omega)).trans ((hp_F3.2 (b2 + 15) (by omega)).trans hp_F2.1.2.2.2.1.2.1)))))))))), ((((((((((hp_F2.1.2.2.2.1.2.2.fr (hp_F3.2 (b2 + 16) (by omega))).fr (hf_F4 (b2 + 16) (by omega))).fr (hf_F5 (b2 + 16) (by omega))).fr (hf_F6 (b2 + 16) (by omega))).fr (hf_F7 (b2 + 16) (by omega))).fr (hf_F8 (b2 + 16) (by omega))).fr (hf_F9 (b2 + 16) (by omega))).fr (hf_F10 (b2 + 16) (by omega))).fr (hf_F11 (b2 + 16) (by omega))).fr (hf_F12 (b2 + 16) (by omega)))⟩, ((((((((((hp_F2.1.2.2.2.2.1.fr (hp_F3.2 (b2 + 17) (by omega))).fr (hf_F4 (b2 + 17) (by omega))).fr (hf_F5 (b2 + 17) (by omega))).fr (hf_F6 (b2 + 17) (by omega))).fr (hf_F7 (b2 + 17) (by omega))).fr (hf_F8 (b2 + 17) (by omega))).fr (hf_F9 (b2 + 17) (by omega))).fr (hf_F10 (b2 + 17) (by omega))).fr (hf_F11 (b2 + 17) (by omega))).fr (hf_F12 (b2 + 17) (by omega))), ⟨by omega, ((hf_F12 (b2 + 18) (by omega)).trans ((hf_F11 (b2 + 18) (by omega)).trans ((hf_F10 (b2 + 18) (by omega)).trans ((hf_F9 (b2 + 18) (by omega)).trans ((hf_F8 (b2 + 18) (by omega)).trans ((hf_F7 (b2 + 18) (by omega)).trans ((hf_F6 (b2 + 18) (by omega)).trans ((hf_F5 (b2 + 18) (by omega)).trans ((hf_F4 (b2 + 18) (by omega)).trans ((hp_F3.2 (b2 + 18) (by omega)).trans hp_F2.1.2.2.2.2.2.2.1)))))))))), ((((((((((hp_F2.1.2.2.2.2.2.2.2.fr (hp_F3.2 (b2 + 19) (by omega))).fr (hf_F4 (b2 + 19) (by omega))).fr (hf_F5 (b2 + 19) (by omega))).fr (hf_F6 (b2 + 19) (by omega))).fr (hf_F7 (b2 + 19) (by omega))).fr (hf_F8 (b2 + 19) (by omega))).fr (hf_F9 (b2 + 19) (by omega))).fr (hf_F10 (b2 + 19) (by omega))).fr (hf_F11 (b2 + 19) (by omega))).fr (hf_F12 (b2 + 19) (by omega)))⟩⟩, ⟨by omega, ((hf_F12 (b2 + 20) (by omega)).trans ((hf_F11 (b2 + 20) (by omega)).trans ((hf_F10 (b2 + 20) (by omega)).trans ((hf_F9 (b2 + 20) (by omega)).trans ((hf_F8 (b2 + 20) (by omega)).trans ((hf_F7 (b2 + 20) (by omega)).trans ((hf_F6 (b2 + 20) (by omega)).trans ((hf_F5 (b2 + 20) (by omega)).trans ((hf_F4 (b2 + 20) (by omega)).trans hp_F3.1.2.1))))))))), (((((((((hp_F3.1.2.2.fr (hf_F4 (b2 + 21) (by omega))).fr (hf_F5 (b2 + 21) (by omega))).fr (hf_F6 (b2 + 21) (by omega))).fr (hf_F7 (b2 + 21) (by omega))).fr (hf_F8 (b2 + 21) (by omega))).fr (hf_F9 (b2 + 21) (by omega))).fr (hf_F10 (b2 + 21) (by omega))).fr (hf_F11 (b2 + 21) (by omega))).fr (hf_F12 (b2 + 21) (by omega)))⟩⟩, (fun q hq => (hf_F12 q (by omega)).trans ((hf_F11 q (by omega)).trans ((hf_F10 q (by omega)).trans ((hf_F9 q (by omega)).trans ((hf_F8 q (by omega)).trans ((hf_F7 q (by omega)).trans ((hf_F6 q (by omega)).trans ((hf_F5 q (by omega)).trans ((hf_F4 q (by omega)).trans ((hp_F3.2 q (by omega)).trans ((hp_F2.2 q (by omega)).trans (hp_F1.2 q (by omega)))))))))))))⟩ dX4_copy_114
