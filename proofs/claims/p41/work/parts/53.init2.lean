set_option maxRecDepth 40000 in
set_option maxHeartbeats 2000000 in
theorem c_X4_init (l : Launch) (g : gT) {ad : Nat → Nat} {F : Nat → va_E} (b : Nat) (hF : F b = .inr (4, [.null, .null, .null, .int 0, .int 0, .int 0, .int 0, .int 0, .int 0, .int 0, .int 0, .int 0])) : CtN l yX4_init cX4_init 2 3 61 21 341 g (b + 1) 21 ad F [.ref (ad b)] (fun ad1 F1 => (oSt g (b + 22) ad1 F1 b stX0) ∧ ∀ j, j < b → F1 j = F j) := by
  refine met_bodyN (by decide) rfl (Nat.le_of_ble_eq_true rfl) ?_
  intro p e s m args below meth c A H ls hA X M h hAO hnm hl
  have kx := X.1.1
  have kb := X.1.2.1
  have hl : lv_has ls 2 [(0, .ref (ad b))] := hl
  have hag0 : ∀ j, j < (b + 1) → ad j = ad j := fun _ _ => rfl
  refine lv_aload_n kx kb dX4_init_0 rfl (lv_at hl 0 rfl) ?_
  refine w_objI X hl q1_29 q1_22 wo_code ⟨Nat.le_of_ble_eq_true rfl, Nat.le_of_ble_eq_true rfl⟩ (Nat.le_of_ble_eq_true rfl) dX4_init_1 ?_
  refine lv_aload_n kx kb dX4_init_4 rfl (lv_at hl 0 rfl) ?_
  refine w_new X (show (b + 1) + 1 = (b + 2) by omega) M h nw_X4_9 ⟨(by decide), (by decide)⟩ dX4_init_5 (fun ad1 F1 H M h hag_1 hn_1 hfr_1 => ?_)
  have hO_2 : F1 b = .inr (4, [.null, .null, .null, .int 0, .int 0, .int 0, .int 0, .int 0, .int 0, .int 0, .int 0, .int 0]) := by rw [hfr_1 b (by omega), hF]
  rw [← hag_1 b (by omega)] at hl
  rw [← hag_1 b (by omega)]
  have hag0 : ∀ j, j < (b + 1) → ad1 j = ad j := fun j hj => (hag_1 j (by omega)).trans (hag0 j hj)
  have hf0 : ∀ j, j < b → F1 j = F j := fun j hj => hfr_1 j (by omega)
  refine lv_dup kx kb dX4_init_8 rfl ?_
  refine w_callI X (show (b + 2) + 10 = (b + 12) by omega) M h hAO [] [.ref (ad1 (b + 1)), .ref (ad1 b)] (c_X1_init l g (b + 1) hn_1) li_X4_11 rfl ⟨by decide, by decide⟩ hl ⟨(by decide), (by decide)⟩ (Nat.le_of_ble_eq_true rfl) rfl dX4_init_9 (fun ad3 F3 H locs hp_3 M h hag_3 => ?_)
  have hfr_3 := hp_3.2
  have hO_4 : F3 b = .inr (4, [.null, .null, .null, .int 0, .int 0, .int 0, .int 0, .int 0, .int 0, .int 0, .int 0, .int 0]) := by rw [hfr_3 b (by omega), hO_2]
  rw [← hag_3 b (by omega)] at hl
  rw [← hag_3 (b + 1) (by omega)]
  rw [← hag_3 b (by omega)]
  have hag0 : ∀ j, j < (b + 1) → ad3 j = ad j := fun j hj => (hag_3 j (by omega)).trans (hag0 j hj)
  have hf0 : ∀ j, j < b → F3 j = F j := fun j hj => (hfr_3 j (by omega)).trans (hf0 j hj)
  refine w_putF X M h hnm b hO_4 (by omega) fF_X4_12 rfl rfl (Nat.le_of_ble_eq_true rfl) dX4_init_12 (fun F5 H locs h he_F5 hf_F5 => ?_)
  have hP_6 : oJokes g (b + 12) ad3 F5 (b + 1) 0 (fun _ _ => nI 0) := hp_3.1.gr (Nat.le_refl _) (fun _ _ => rfl) (fun q g1 g2 => hf_F5 q (by omega))
  have hf0 : ∀ j, j < b → F5 j = F j := fun j hj => (hf_F5 j (by omega)).trans (hf0 j hj)
  have hO_7 : F5 b = .inr (4, [.ref (ad3 (b + 1)), .null, .null, .int 0, .int 0, .int 0, .int 0, .int 0, .int 0, .int 0, .int 0, .int 0]) := he_F5
  refine lv_aload_n kx kb dX4_init_15 rfl (lv_at hl 0 rfl) ?_
  refine w_new X (show (b + 12) + 1 = (b + 13) by omega) M h nw_X4_18 ⟨(by decide), (by decide)⟩ dX4_init_16 (fun ad8 F8 H M h hag_8 hn_8 hfr_8 => ?_)
  have hP_9 : oJokes g (b + 13) ad8 F8 (b + 1) 0 (fun _ _ => nI 0) := hP_6.gr (by omega) hag_8 (fun q g1 g2 => hfr_8 q (by omega))
  have hO_10 : F8 b = .inr (4, [.ref (ad8 (b + 1)), .null, .null, .int 0, .int 0, .int 0, .int 0, .int 0, .int 0, .int 0, .int 0, .int 0]) := by rw [hfr_8 b (by omega), hO_7, hag_8 (b + 1) (by omega)]
  rw [← hag_8 b (by omega)] at hl
  rw [← hag_8 b (by omega)]
  have hag0 : ∀ j, j < (b + 1) → ad8 j = ad j := fun j hj => (hag_8 j (by omega)).trans (hag0 j hj)
  have hf0 : ∀ j, j < b → F8 j = F j := fun j hj => (hfr_8 j (by omega)).trans (hf0 j hj)
  refine lv_dup kx kb dX4_init_19 rfl ?_
  refine w_callI X (show (b + 13) + 7 = (b + 20) by omega) M h hAO [] [.ref (ad8 (b + 12)), .ref (ad8 b)] (c_X6_init l g (b + 12) hn_8) li_X4_20 rfl ⟨by decide, by decide⟩ hl ⟨(by decide), (by decide)⟩ (Nat.le_of_ble_eq_true rfl) rfl dX4_init_20 (fun ad11 F11 H locs hp_11 M h hag_11 => ?_)
  have hfr_11 := hp_11.2
  have hP_12 : oJokes g (b + 20) ad11 F11 (b + 1) 0 (fun _ _ => nI 0) := hP_9.gr (by omega) hag_11 (fun q g1 g2 => hfr_11 q (by omega))
  have hO_13 : F11 b = .inr (4, [.ref (ad11 (b + 1)), .null, .null, .int 0, .int 0, .int 0, .int 0, .int 0, .int 0, .int 0, .int 0, .int 0]) := by rw [hfr_11 b (by omega), hO_10, hag_11 (b + 1) (by omega)]
  rw [← hag_11 b (by omega)] at hl
  rw [← hag_11 (b + 12) (by omega)]
  rw [← hag_11 b (by omega)]
  have hag0 : ∀ j, j < (b + 1) → ad11 j = ad j := fun j hj => (hag_11 j (by omega)).trans (hag0 j hj)
  have hf0 : ∀ j, j < b → F11 j = F j := fun j hj => (hfr_11 j (by omega)).trans (hf0 j hj)
  refine w_putF X M h hnm b hO_13 (by omega) fF_X4_21 rfl rfl (Nat.le_of_ble_eq_true rfl) dX4_init_23 (fun F14 H locs h he_F14 hf_F14 => ?_)
  have hP_15 : oJokes g (b + 20) ad11 F14 (b + 1) 0 (fun _ _ => nI 0) := hP_12.gr (Nat.le_refl _) (fun _ _ => rfl) (fun q g1 g2 => hf_F14 q (by omega))
  have hP_16 : oTold g (b + 20) ad11 F14 (b + 12) 0 FP.fconst0 (fun _ _ => nI 0) (fun _ => 0) := hp_11.1.gr (Nat.le_refl _) (fun _ _ => rfl) (fun q g1 g2 => hf_F14 q (by omega))
  have hf0 : ∀ j, j < b → F14 j = F j := fun j hj => (hf_F14 j (by omega)).trans (hf0 j hj)
  have hO_17 : F14 b = .inr (4, [.ref (ad11 (b + 1)), .ref (ad11 (b + 12)), .null, .int 0, .int 0, .int 0, .int 0, .int 0, .int 0, .int 0, .int 0, .int 0]) := he_F14
  refine lv_aload_n kx kb dX4_init_26 rfl (lv_at hl 0 rfl) ?_
  refine w_new X (show (b + 20) + 1 = (b + 21) by omega) M h nw_X4_25 ⟨(by decide), (by decide)⟩ dX4_init_27 (fun ad18 F18 H M h hag_18 hn_18 hfr_18 => ?_)
  have hP_19 : oJokes g (b + 21) ad18 F18 (b + 1) 0 (fun _ _ => nI 0) := hP_15.gr (by omega) hag_18 (fun q g1 g2 => hfr_18 q (by omega))
  have hP_20 : oTold g (b + 21) ad18 F18 (b + 12) 0 FP.fconst0 (fun _ _ => nI 0) (fun _ => 0) := hP_16.gr (by omega) hag_18 (fun q g1 g2 => hfr_18 q (by omega))
  have hO_21 : F18 b = .inr (4, [.ref (ad18 (b + 1)), .ref (ad18 (b + 12)), .null, .int 0, .int 0, .int 0, .int 0, .int 0, .int 0, .int 0, .int 0, .int 0]) := by rw [hfr_18 b (by omega), hO_17, hag_18 (b + 1) (by omega), hag_18 (b + 12) (by omega)]
  rw [← hag_18 b (by omega)] at hl
  rw [← hag_18 b (by omega)]
  have hag0 : ∀ j, j < (b + 1) → ad18 j = ad j := fun j hj => (hag_18 j (by omega)).trans (hag0 j hj)
  have hf0 : ∀ j, j < b → F18 j = F j := fun j hj => (hfr_18 j (by omega)).trans (hf0 j hj)
  refine lv_dup kx kb dX4_init_30 rfl ?_
  refine lv_iconst (v := nI 4) kx kb dX4_init_31 (by decide) ?_
  refine w_callI X (show (b + 21) + 1 = (b + 22) by omega) M h hAO [.int (nI 4)] [.ref (ad18 (b + 20)), .ref (ad18 b)] (c_X3_init l g (b + 20) 4 (by omega) (by omega) hn_18) li_X4_27 rfl ⟨by decide, by decide⟩ hl ⟨(by decide), (by decide)⟩ (Nat.le_of_ble_eq_true rfl) rfl dX4_init_32 (fun ad22 F22 H locs hp_22 M h hag_22 => ?_)
  have hfr_22 := hp_22.2
  have hP_23 : oJokes g (b + 22) ad22 F22 (b + 1) 0 (fun _ _ => nI 0) := hP_19.gr (by omega) hag_22 (fun q g1 g2 => hfr_22 q (by omega))
  have hP_24 : oTold g (b + 22) ad22 F22 (b + 12) 0 FP.fconst0 (fun _ _ => nI 0) (fun _ => 0) := hP_20.gr (by omega) hag_22 (fun q g1 g2 => hfr_22 q (by omega))
  have hO_25 : F22 b = .inr (4, [.ref (ad22 (b + 1)), .ref (ad22 (b + 12)), .null, .int 0, .int 0, .int 0, .int 0, .int 0, .int 0, .int 0, .int 0, .int 0]) := by rw [hfr_22 b (by omega), hO_21, hag_22 (b + 1) (by omega), hag_22 (b + 12) (by omega)]
  rw [← hag_22 b (by omega)] at hl
  rw [← hag_22 (b + 20) (by omega)]
  rw [← hag_22 b (by omega)]
  have hag0 : ∀ j, j < (b + 1) → ad22 j = ad j := fun j hj => (hag_22 j (by omega)).trans (hag0 j hj)
  have hf0 : ∀ j, j < b → F22 j = F j := fun j hj => (hfr_22 j (by omega)).trans (hf0 j hj)
  refine w_putF X M h hnm b hO_25 (by omega) fF_X4_30 rfl rfl (Nat.le_of_ble_eq_true rfl) dX4_init_35 (fun F26 H locs h he_F26 hf_F26 => ?_)
  have hP_27 : oJokes g (b + 22) ad22 F26 (b + 1) 0 (fun _ _ => nI 0) := hP_23.gr (Nat.le_refl _) (fun _ _ => rfl) (fun q g1 g2 => hf_F26 q (by omega))
  have hP_28 : oTold g (b + 22) ad22 F26 (b + 12) 0 FP.fconst0 (fun _ _ => nI 0) (fun _ => 0) := hP_24.gr (Nat.le_refl _) (fun _ _ => rfl) (fun q g1 g2 => hf_F26 q (by omega))
  have hO_29 := (hf_F26 (b + 20) (by omega)).trans hp_22.1.2.1
  have hA_30 := hp_22.1.2.2.fr (hf_F26 (b + 21) (by omega))
  have hf0 : ∀ j, j < b → F26 j = F j := fun j hj => (hf_F26 j (by omega)).trans (hf0 j hj)
  have hO_31 : F26 b = .inr (4, [.ref (ad22 (b + 1)), .ref (ad22 (b + 12)), .ref (ad22 (b + 20)), .int 0, .int 0, .int 0, .int 0, .int 0, .int 0, .int 0, .int 0, .int 0]) := he_F26
  refine lv_aload_n kx kb dX4_init_38 rfl (lv_at hl 0 rfl) ?_
  refine lv_iconst (v := nI 0) kx kb dX4_init_39 (by decide) ?_
  refine w_put X M h b hO_31 (by omega) fp_X4_34 (rfl) (by rfl) (Nat.le_of_ble_eq_true rfl) dX4_init_40 (fun F32 H locs h he_F32 hf_F32 => ?_)
  have hP_33 : oJokes g (b + 22) ad22 F32 (b + 1) 0 (fun _ _ => nI 0) := hP_27.gr (Nat.le_refl _) (fun _ _ => rfl) (fun q g1 g2 => hf_F32 q (by omega))
  have hP_34 : oTold g (b + 22) ad22 F32 (b + 12) 0 FP.fconst0 (fun _ _ => nI 0) (fun _ => 0) := hP_28.gr (Nat.le_refl _) (fun _ _ => rfl) (fun q g1 g2 => hf_F32 q (by omega))
  have hO_35 := (hf_F32 (b + 20) (by omega)).trans hO_29
  have hA_36 := hA_30.fr (hf_F32 (b + 21) (by omega))
  have hf0 : ∀ j, j < b → F32 j = F j := fun j hj => (hf_F32 j (by omega)).trans (hf0 j hj)
  have hO_37 : F32 b = .inr (4, [.ref (ad22 (b + 1)), .ref (ad22 (b + 12)), .ref (ad22 (b + 20)), .int (nI 0), .int 0, .int 0, .int 0, .int 0, .int 0, .int 0, .int 0, .int 0]) := he_F32
  refine lv_aload_n kx kb dX4_init_43 rfl (lv_at hl 0 rfl) ?_
  refine lv_iconst (v := nI 3) kx kb dX4_init_44 (by decide) ?_
  refine w_put X M h b hO_37 (by omega) fp_X4_38 (rfl) (by rfl) (Nat.le_of_ble_eq_true rfl) dX4_init_45 (fun F38 H locs h he_F38 hf_F38 => ?_)
  have hP_39 : oJokes g (b + 22) ad22 F38 (b + 1) 0 (fun _ _ => nI 0) := hP_33.gr (Nat.le_refl _) (fun _ _ => rfl) (fun q g1 g2 => hf_F38 q (by omega))
  have hP_40 : oTold g (b + 22) ad22 F38 (b + 12) 0 FP.fconst0 (fun _ _ => nI 0) (fun _ => 0) := hP_34.gr (Nat.le_refl _) (fun _ _ => rfl) (fun q g1 g2 => hf_F38 q (by omega))
  have hO_41 := (hf_F38 (b + 20) (by omega)).trans hO_35
  have hA_42 := hA_36.fr (hf_F38 (b + 21) (by omega))
  have hf0 : ∀ j, j < b → F38 j = F j := fun j hj => (hf_F38 j (by omega)).trans (hf0 j hj)
  have hO_43 : F38 b = .inr (4, [.ref (ad22 (b + 1)), .ref (ad22 (b + 12)), .ref (ad22 (b + 20)), .int (nI 0), .int (nI 3), .int 0, .int 0, .int 0, .int 0, .int 0, .int 0, .int 0]) := he_F38
  refine lv_aload_n kx kb dX4_init_48 rfl (lv_at hl 0 rfl) ?_
  refine lv_iconst (v := nI 0) kx kb dX4_init_49 (by decide) ?_
  refine w_put X M h b hO_43 (by omega) fp_X4_41 (rfl) (by rfl) (Nat.le_of_ble_eq_true rfl) dX4_init_50 (fun F44 H locs h he_F44 hf_F44 => ?_)
  have hP_45 : oJokes g (b + 22) ad22 F44 (b + 1) 0 (fun _ _ => nI 0) := hP_39.gr (Nat.le_refl _) (fun _ _ => rfl) (fun q g1 g2 => hf_F44 q (by omega))
  have hP_46 : oTold g (b + 22) ad22 F44 (b + 12) 0 FP.fconst0 (fun _ _ => nI 0) (fun _ => 0) := hP_40.gr (Nat.le_refl _) (fun _ _ => rfl) (fun q g1 g2 => hf_F44 q (by omega))
  have hO_47 := (hf_F44 (b + 20) (by omega)).trans hO_41
  have hA_48 := hA_42.fr (hf_F44 (b + 21) (by omega))
  have hf0 : ∀ j, j < b → F44 j = F j := fun j hj => (hf_F44 j (by omega)).trans (hf0 j hj)
  have hO_49 : F44 b = .inr (4, [.ref (ad22 (b + 1)), .ref (ad22 (b + 12)), .ref (ad22 (b + 20)), .int (nI 0), .int (nI 3), .int (nI 0), .int 0, .int 0, .int 0, .int 0, .int 0, .int 0]) := he_F44
  refine lv_aload_n kx kb dX4_init_53 rfl (lv_at hl 0 rfl) ?_
  refine lv_iconst (v := nI 0) kx kb dX4_init_54 (by decide) ?_
  refine w_put X M h b hO_49 (by omega) fp_X4_44 (rfl) (by rfl) (Nat.le_of_ble_eq_true rfl) dX4_init_55 (fun F50 H locs h he_F50 hf_F50 => ?_)
  have hP_51 : oJokes g (b + 22) ad22 F50 (b + 1) 0 (fun _ _ => nI 0) := hP_45.gr (Nat.le_refl _) (fun _ _ => rfl) (fun q g1 g2 => hf_F50 q (by omega))
  have hP_52 : oTold g (b + 22) ad22 F50 (b + 12) 0 FP.fconst0 (fun _ _ => nI 0) (fun _ => 0) := hP_46.gr (Nat.le_refl _) (fun _ _ => rfl) (fun q g1 g2 => hf_F50 q (by omega))
  have hO_53 := (hf_F50 (b + 20) (by omega)).trans hO_47
  have hA_54 := hA_48.fr (hf_F50 (b + 21) (by omega))
  have hf0 : ∀ j, j < b → F50 j = F j := fun j hj => (hf_F50 j (by omega)).trans (hf0 j hj)
  have hO_55 : F50 b = .inr (4, [.ref (ad22 (b + 1)), .ref (ad22 (b + 12)), .ref (ad22 (b + 20)), .int (nI 0), .int (nI 3), .int (nI 0), .int (nI 0), .int 0, .int 0, .int 0, .int 0, .int 0]) := he_F50
  refine lv_aload_n kx kb dX4_init_58 rfl (lv_at hl 0 rfl) ?_
  refine lv_bipush (v := nI 9) kx kb dX4_init_59 (by decide) ?_
  refine w_put X M h b hO_55 (by omega) fp_X4_47 (rfl) (by rfl) (Nat.le_of_ble_eq_true rfl) dX4_init_61 (fun F56 H locs h he_F56 hf_F56 => ?_)
  have hP_57 : oJokes g (b + 22) ad22 F56 (b + 1) 0 (fun _ _ => nI 0) := hP_51.gr (Nat.le_refl _) (fun _ _ => rfl) (fun q g1 g2 => hf_F56 q (by omega))
  have hP_58 : oTold g (b + 22) ad22 F56 (b + 12) 0 FP.fconst0 (fun _ _ => nI 0) (fun _ => 0) := hP_52.gr (Nat.le_refl _) (fun _ _ => rfl) (fun q g1 g2 => hf_F56 q (by omega))
  have hO_59 := (hf_F56 (b + 20) (by omega)).trans hO_53
  have hA_60 := hA_54.fr (hf_F56 (b + 21) (by omega))
  have hf0 : ∀ j, j < b → F56 j = F j := fun j hj => (hf_F56 j (by omega)).trans (hf0 j hj)
  have hO_61 : F56 b = .inr (4, [.ref (ad22 (b + 1)), .ref (ad22 (b + 12)), .ref (ad22 (b + 20)), .int (nI 0), .int (nI 3), .int (nI 0), .int (nI 0), .int (nI 9), .int 0, .int 0, .int 0, .int 0]) := he_F56
  refine lv_aload_n kx kb dX4_init_64 rfl (lv_at hl 0 rfl) ?_
  refine lv_iconst (v := nI 0) kx kb dX4_init_65 (by decide) ?_
  refine w_put X M h b hO_61 (by omega) fp_X4_50 (rfl) (by rfl) (Nat.le_of_ble_eq_true rfl) dX4_init_66 (fun F62 H locs h he_F62 hf_F62 => ?_)
  have hP_63 : oJokes g (b + 22) ad22 F62 (b + 1) 0 (fun _ _ => nI 0) := hP_57.gr (Nat.le_refl _) (fun _ _ => rfl) (fun q g1 g2 => hf_F62 q (by omega))
  have hP_64 : oTold g (b + 22) ad22 F62 (b + 12) 0 FP.fconst0 (fun _ _ => nI 0) (fun _ => 0) := hP_58.gr (Nat.le_refl _) (fun _ _ => rfl) (fun q g1 g2 => hf_F62 q (by omega))
  have hO_65 := (hf_F62 (b + 20) (by omega)).trans hO_59
  have hA_66 := hA_60.fr (hf_F62 (b + 21) (by omega))
  have hf0 : ∀ j, j < b → F62 j = F j := fun j hj => (hf_F62 j (by omega)).trans (hf0 j hj)
  have hO_67 : F62 b = .inr (4, [.ref (ad22 (b + 1)), .ref (ad22 (b + 12)), .ref (ad22 (b + 20)), .int (nI 0), .int (nI 3), .int (nI 0), .int (nI 0), .int (nI 9), .int (nI 0), .int 0, .int 0, .int 0]) := he_F62
  refine lv_aload_n kx kb dX4_init_69 rfl (lv_at hl 0 rfl) ?_
  refine lv_iconst (v := nI 0) kx kb dX4_init_70 (by decide) ?_
  refine w_put X M h b hO_67 (by omega) fp_X4_53 (rfl) (by rfl) (Nat.le_of_ble_eq_true rfl) dX4_init_71 (fun F68 H locs h he_F68 hf_F68 => ?_)
  have hP_69 : oJokes g (b + 22) ad22 F68 (b + 1) 0 (fun _ _ => nI 0) := hP_63.gr (Nat.le_refl _) (fun _ _ => rfl) (fun q g1 g2 => hf_F68 q (by omega))
  have hP_70 : oTold g (b + 22) ad22 F68 (b + 12) 0 FP.fconst0 (fun _ _ => nI 0) (fun _ => 0) := hP_64.gr (Nat.le_refl _) (fun _ _ => rfl) (fun q g1 g2 => hf_F68 q (by omega))
  have hO_71 := (hf_F68 (b + 20) (by omega)).trans hO_65
  have hA_72 := hA_66.fr (hf_F68 (b + 21) (by omega))
  have hf0 : ∀ j, j < b → F68 j = F j := fun j hj => (hf_F68 j (by omega)).trans (hf0 j hj)
  have hO_73 : F68 b = .inr (4, [.ref (ad22 (b + 1)), .ref (ad22 (b + 12)), .ref (ad22 (b + 20)), .int (nI 0), .int (nI 3), .int (nI 0), .int (nI 0), .int (nI 9), .int (nI 0), .int (nI 0), .int 0, .int 0]) := he_F68
  refine lv_aload_n kx kb dX4_init_74 rfl (lv_at hl 0 rfl) ?_
  refine lv_iconst (v := nI 0) kx kb dX4_init_75 (by decide) ?_
  refine w_put X M h b hO_73 (by omega) fp_X4_56 (rfl) (by rfl) (Nat.le_of_ble_eq_true rfl) dX4_init_76 (fun F74 H locs h he_F74 hf_F74 => ?_)
  have hP_75 : oJokes g (b + 22) ad22 F74 (b + 1) 0 (fun _ _ => nI 0) := hP_69.gr (Nat.le_refl _) (fun _ _ => rfl) (fun q g1 g2 => hf_F74 q (by omega))
  have hP_76 : oTold g (b + 22) ad22 F74 (b + 12) 0 FP.fconst0 (fun _ _ => nI 0) (fun _ => 0) := hP_70.gr (Nat.le_refl _) (fun _ _ => rfl) (fun q g1 g2 => hf_F74 q (by omega))
  have hO_77 := (hf_F74 (b + 20) (by omega)).trans hO_71
  have hA_78 := hA_72.fr (hf_F74 (b + 21) (by omega))
  have hf0 : ∀ j, j < b → F74 j = F j := fun j hj => (hf_F74 j (by omega)).trans (hf0 j hj)
  have hO_79 : F74 b = .inr (4, [.ref (ad22 (b + 1)), .ref (ad22 (b + 12)), .ref (ad22 (b + 20)), .int (nI 0), .int (nI 3), .int (nI 0), .int (nI 0), .int (nI 9), .int (nI 0), .int (nI 0), .int (nI 0), .int 0]) := he_F74
  refine lv_aload_n kx kb dX4_init_79 rfl (lv_at hl 0 rfl) ?_
  refine lv_iconst (v := nI 0) kx kb dX4_init_80 (by decide) ?_
  refine w_put X M h b hO_79 (by omega) fp_X4_59 (rfl) (by rfl) (Nat.le_of_ble_eq_true rfl) dX4_init_81 (fun F80 H locs h he_F80 hf_F80 => ?_)
  have hP_81 : oJokes g (b + 22) ad22 F80 (b + 1) 0 (fun _ _ => nI 0) := hP_75.gr (Nat.le_refl _) (fun _ _ => rfl) (fun q g1 g2 => hf_F80 q (by omega))
  have hP_82 : oTold g (b + 22) ad22 F80 (b + 12) 0 FP.fconst0 (fun _ _ => nI 0) (fun _ => 0) := hP_76.gr (Nat.le_refl _) (fun _ _ => rfl) (fun q g1 g2 => hf_F80 q (by omega))
  have hO_83 := (hf_F80 (b + 20) (by omega)).trans hO_77
  have hA_84 := hA_78.fr (hf_F80 (b + 21) (by omega))
  have hf0 : ∀ j, j < b → F80 j = F j := fun j hj => (hf_F80 j (by omega)).trans (hf0 j hj)
  have hO_85 : F80 b = .inr (4, [.ref (ad22 (b + 1)), .ref (ad22 (b + 12)), .ref (ad22 (b + 20)), .int (nI 0), .int (nI 3), .int (nI 0), .int (nI 0), .int (nI 9), .int (nI 0), .int (nI 0), .int (nI 0), .int (nI 0)]) := he_F80
  refine lv_iconst (v := nI 0) kx kb dX4_init_84 (by decide) ?_
  refine lv_istore_n (lv' := [(1, .int (nI 0)), (0, .ref (ad22 b))]) kx kb dX4_init_85 rfl hl (by decide) rfl (fun ls hl => ?_)
  refine lv_iload_n kx kb dX4_init_86 rfl (lv_at hl 0 rfl) ?_
  refine lv_iconst (v := nI 4) kx kb dX4_init_87 (by decide) ?_
  refine w_cmp_ge (tgt := 106) kx kb (by omega) (by omega) dX4_init_88 (by decide) (fun c_86 => (show False by omega).elim) (fun c_86 => ?_)
  refine lv_aload_n kx kb dX4_init_91 rfl (lv_at hl 1 rfl) ?_
  refine w_get X M h b hO_85 (by omega) fl_X4_30 rfl dX4_init_92 ?_
  refine lv_iload_n kx kb dX4_init_95 rfl (lv_at hl 0 rfl) ?_
  refine lv_iconst (v := nI 2) kx kb dX4_init_96 (by decide) ?_
  refine w_callVv X M h [.int (nI 0), .int (nI 2)] [] ((c_X3_put l g (b + 20) 4 (fun _ => nI 0) 0 (nI 2) ⟨by omega, hO_83, hA_84⟩ (by omega) (by omega))) lk_X4_62 hO_83 (by omega) rfl rfl ⟨by decide, by decide⟩ hl ⟨Nat.le_of_ble_eq_true rfl, Nat.le_of_ble_eq_true rfl⟩ (Nat.le_of_ble_eq_true rfl) rfl dX4_init_97 (fun F87 H locs hp_F87 h => ?_)
  have hP_88 : oJokes g (b + 22) ad22 F87 (b + 1) 0 (fun _ _ => nI 0) := hP_81.gr (Nat.le_refl _) (fun _ _ => rfl) (fun q g1 g2 => hp_F87.2 q (by omega))
  have hP_89 : oTold g (b + 22) ad22 F87 (b + 12) 0 FP.fconst0 (fun _ _ => nI 0) (fun _ => 0) := hP_82.gr (Nat.le_refl _) (fun _ _ => rfl) (fun q g1 g2 => hp_F87.2 q (by omega))
  have hO_90 := (hp_F87.2 (b + 20) (by omega)).trans hO_83
  have hO_91 := (hp_F87.2 b (by omega)).trans hO_85
  have hf0 : ∀ j, j < b → F87 j = F j := fun j hj => (hp_F87.2 j (by omega)).trans (hf0 j hj)
  refine lv_iinc (v := nI 1) (lv' := [(1, .int (nI 1)), (0, .ref (ad22 b))]) kx kb dX4_init_100 hl (k := 0) rfl (nI_add _ _) (by decide) rfl (fun ls hl => ?_)
  refine lv_goto (tgt := 86) kx kb dX4_init_103 (by decide) ?_
  refine lv_iload_n kx kb dX4_init_86 rfl (lv_at hl 0 rfl) ?_
  refine lv_iconst (v := nI 4) kx kb dX4_init_87 (by decide) ?_
  refine w_cmp_ge (tgt := 106) kx kb (by omega) (by omega) dX4_init_88 (by decide) (fun c_92 => (show False by omega).elim) (fun c_92 => ?_)
  refine lv_aload_n kx kb dX4_init_91 rfl (lv_at hl 1 rfl) ?_
  refine w_get X M h b hO_91 (by omega) fl_X4_30 rfl dX4_init_92 ?_
  refine lv_iload_n kx kb dX4_init_95 rfl (lv_at hl 0 rfl) ?_
  refine lv_iconst (v := nI 2) kx kb dX4_init_96 (by decide) ?_
  refine w_callVv X M h [.int (nI 1), .int (nI 2)] [] ((c_X3_put l g (b + 20) 4 (rowPut 4 (fun _ => nI 0) 0 (nI 2)) 1 (nI 2) ⟨by omega, hp_F87.1.2.1, hp_F87.1.2.2⟩ (by omega) (by omega))) lk_X4_62 hp_F87.1.2.1 (by omega) rfl rfl ⟨by decide, by decide⟩ hl ⟨Nat.le_of_ble_eq_true rfl, Nat.le_of_ble_eq_true rfl⟩ (Nat.le_of_ble_eq_true rfl) rfl dX4_init_97 (fun F93 H locs hp_F93 h => ?_)
  have hP_94 : oJokes g (b + 22) ad22 F93 (b + 1) 0 (fun _ _ => nI 0) := hP_88.gr (Nat.le_refl _) (fun _ _ => rfl) (fun q g1 g2 => hp_F93.2 q (by omega))
  have hP_95 : oTold g (b + 22) ad22 F93 (b + 12) 0 FP.fconst0 (fun _ _ => nI 0) (fun _ => 0) := hP_89.gr (Nat.le_refl _) (fun _ _ => rfl) (fun q g1 g2 => hp_F93.2 q (by omega))
  have hO_96 := (hp_F93.2 (b + 20) (by omega)).trans hp_F87.1.2.1
  have hO_97 := (hp_F93.2 b (by omega)).trans hO_91
  have hf0 : ∀ j, j < b → F93 j = F j := fun j hj => (hp_F93.2 j (by omega)).trans (hf0 j hj)
  refine lv_iinc (v := nI 2) (lv' := [(1, .int (nI 2)), (0, .ref (ad22 b))]) kx kb dX4_init_100 hl (k := 0) rfl (nI_add _ _) (by decide) rfl (fun ls hl => ?_)
  refine lv_goto (tgt := 86) kx kb dX4_init_103 (by decide) ?_
  refine lv_iload_n kx kb dX4_init_86 rfl (lv_at hl 0 rfl) ?_
  refine lv_iconst (v := nI 4) kx kb dX4_init_87 (by decide) ?_
  refine w_cmp_ge (tgt := 106) kx kb (by omega) (by omega) dX4_init_88 (by decide) (fun c_98 => (show False by omega).elim) (fun c_98 => ?_)
  refine lv_aload_n kx kb dX4_init_91 rfl (lv_at hl 1 rfl) ?_
  refine w_get X M h b hO_97 (by omega) fl_X4_30 rfl dX4_init_92 ?_
  refine lv_iload_n kx kb dX4_init_95 rfl (lv_at hl 0 rfl) ?_
  refine lv_iconst (v := nI 2) kx kb dX4_init_96 (by decide) ?_
  refine w_callVv X M h [.int (nI 2), .int (nI 2)] [] ((c_X3_put l g (b + 20) 4 (rowPut 4 (rowPut 4 (fun _ => nI 0) 0 (nI 2)) 1 (nI 2)) 2 (nI 2) ⟨by omega, hp_F93.1.2.1, hp_F93.1.2.2⟩ (by omega) (by omega))) lk_X4_62 hp_F93.1.2.1 (by omega) rfl rfl ⟨by decide, by decide⟩ hl ⟨Nat.le_of_ble_eq_true rfl, Nat.le_of_ble_eq_true rfl⟩ (Nat.le_of_ble_eq_true rfl) rfl dX4_init_97 (fun F99 H locs hp_F99 h => ?_)
  have hP_100 : oJokes g (b + 22) ad22 F99 (b + 1) 0 (fun _ _ => nI 0) := hP_94.gr (Nat.le_refl _) (fun _ _ => rfl) (fun q g1 g2 => hp_F99.2 q (by omega))
  have hP_101 : oTold g (b + 22) ad22 F99 (b + 12) 0 FP.fconst0 (fun _ _ => nI 0) (fun _ => 0) := hP_95.gr (Nat.le_refl _) (fun _ _ => rfl) (fun q g1 g2 => hp_F99.2 q (by omega))
  have hO_102 := (hp_F99.2 (b + 20) (by omega)).trans hp_F93.1.2.1
  have hO_103 := (hp_F99.2 b (by omega)).trans hO_97
  have hf0 : ∀ j, j < b → F99 j = F j := fun j hj => (hp_F99.2 j (by omega)).trans (hf0 j hj)
  refine lv_iinc (v := nI 3) (lv' := [(1, .int (nI 3)), (0, .ref (ad22 b))]) kx kb dX4_init_100 hl (k := 0) rfl (nI_add _ _) (by decide) rfl (fun ls hl => ?_)
  refine lv_goto (tgt := 86) kx kb dX4_init_103 (by decide) ?_
  refine lv_iload_n kx kb dX4_init_86 rfl (lv_at hl 0 rfl) ?_
  refine lv_iconst (v := nI 4) kx kb dX4_init_87 (by decide) ?_
  refine w_cmp_ge (tgt := 106) kx kb (by omega) (by omega) dX4_init_88 (by decide) (fun c_104 => (show False by omega).elim) (fun c_104 => ?_)
  refine lv_aload_n kx kb dX4_init_91 rfl (lv_at hl 1 rfl) ?_
  refine w_get X M h b hO_103 (by omega) fl_X4_30 rfl dX4_init_92 ?_
  refine lv_iload_n kx kb dX4_init_95 rfl (lv_at hl 0 rfl) ?_
  refine lv_iconst (v := nI 2) kx kb dX4_init_96 (by decide) ?_
  refine w_callVv X M h [.int (nI 3), .int (nI 2)] [] ((c_X3_put l g (b + 20) 4 (rowPut 4 (rowPut 4 (rowPut 4 (fun _ => nI 0) 0 (nI 2)) 1 (nI 2)) 2 (nI 2)) 3 (nI 2) ⟨by omega, hp_F99.1.2.1, hp_F99.1.2.2⟩ (by omega) (by omega))) lk_X4_62 hp_F99.1.2.1 (by omega) rfl rfl ⟨by decide, by decide⟩ hl ⟨Nat.le_of_ble_eq_true rfl, Nat.le_of_ble_eq_true rfl⟩ (Nat.le_of_ble_eq_true rfl) rfl dX4_init_97 (fun F105 H locs hp_F105 h => ?_)
  have hP_106 : oJokes g (b + 22) ad22 F105 (b + 1) 0 (fun _ _ => nI 0) := hP_100.gr (Nat.le_refl _) (fun _ _ => rfl) (fun q g1 g2 => hp_F105.2 q (by omega))
  have hP_107 : oTold g (b + 22) ad22 F105 (b + 12) 0 FP.fconst0 (fun _ _ => nI 0) (fun _ => 0) := hP_101.gr (Nat.le_refl _) (fun _ _ => rfl) (fun q g1 g2 => hp_F105.2 q (by omega))
  have hO_108 := (hp_F105.2 (b + 20) (by omega)).trans hp_F99.1.2.1
  have hO_109 := (hp_F105.2 b (by omega)).trans hO_103
  have hf0 : ∀ j, j < b → F105 j = F j := fun j hj => (hp_F105.2 j (by omega)).trans (hf0 j hj)
  refine lv_iinc (v := nI 4) (lv' := [(1, .int (nI 4)), (0, .ref (ad22 b))]) kx kb dX4_init_100 hl (k := 0) rfl (nI_add _ _) (by decide) rfl (fun ls hl => ?_)
  refine lv_goto (tgt := 86) kx kb dX4_init_103 (by decide) ?_
  refine lv_iload_n kx kb dX4_init_86 rfl (lv_at hl 0 rfl) ?_
  refine lv_iconst (v := nI 4) kx kb dX4_init_87 (by decide) ?_
  refine w_cmp_ge (tgt := 106) kx kb (by omega) (by omega) dX4_init_88 (by decide) (fun c_110 => ?_) (fun c_110 => (show False by omega).elim)
  exact w_nret (post := fun ad1 F1 => (oSt g (b + 22) ad1 F1 b stX0) ∧ ∀ j, j < b → F1 j = F j) X M h hA hag0 ⟨⟨by omega, hO_109, hP_106, hP_107, ⟨by omega, hp_F105.1.2.1, hp_F105.1.2.2.eq (fun z hz => by rcases (show z = 0 ∨ z = 1 ∨ z = 2 ∨ z = 3 by omega) with rfl | rfl | rfl | rfl <;> rfl)⟩⟩, hf0⟩ dX4_init_106
set_option maxRecDepth 40000 in
set_option maxHeartbeats 2000000 in
theorem c_X0_init (l : Launch) (g : gT) {ad : Nat → Nat} {F : Nat → va_E} (hF : F 45 = .inr (0, [.null, .int 0, .int 0])) : CtN l yX0_init cX0_init 2 4 82 199 3186 g 46 199 ad F [.ref (ad 45)] (fun ad1 F1 => (oHi0 g 245 ad1 F1) ∧ ∀ j, j < 45 → F1 j = F j) := by
  refine met_bodyN (by decide) rfl (Nat.le_of_ble_eq_true rfl) ?_
  intro p e s m args below meth c A H ls hA X M h hAO hnm hl
  have kx := X.1.1
  have kb := X.1.2.1
  have hl : lv_has ls 2 [(0, .ref (ad 45))] := hl
  have hag0 : ∀ j, j < 46 → ad j = ad j := fun _ _ => rfl
  refine lv_aload_n kx kb dX0_init_0 rfl (lv_at hl 0 rfl) ?_
  refine w_objI X hl q1_169 q1_22 wo_code ⟨Nat.le_of_ble_eq_true rfl, Nat.le_of_ble_eq_true rfl⟩ (Nat.le_of_ble_eq_true rfl) dX0_init_1 ?_
  refine lv_aload_n kx kb dX0_init_4 rfl (lv_at hl 0 rfl) ?_
  refine lv_bipush (v := nI 9) kx kb dX0_init_5 (by decide) ?_
  refine w_newQ X (show 46 + 1 = 47 by omega) M h hAO q1_170 (by omega) (by omega) ⟨(by decide), (by decide)⟩ dX0_init_7 (fun ad1 F1 H M h hag_1 hn_1 hfr_1 => ?_)
  have hO_2 : F1 45 = .inr (0, [.null, .int 0, .int 0]) := by rw [hfr_1 45 (by omega), hF]
  rw [← hag_1 45 (by omega)] at hl
  rw [← hag_1 45 (by omega)]
  have hag0 : ∀ j, j < 46 → ad1 j = ad j := fun j hj => (hag_1 j (by omega)).trans (hag0 j hj)
  have hf0 : ∀ j, j < 45 → F1 j = F j := fun j hj => hfr_1 j (by omega)
  have hQ_3 := hn_1.eq (b := fun k => if k < 0 then some (ad1 (47 + 22 * k)) else none) (fun k hk => (if_neg (by omega)).symm)
  refine w_putF X M h hnm 45 hO_2 (by omega) fF_X0_11 rfl rfl (Nat.le_of_ble_eq_true rfl) dX0_init_10 (fun F4 H locs h he_F4 hf_F4 => ?_)
  have hA_5 := hQ_3.fr (hf_F4 46 (by omega))
  have hf0 : ∀ j, j < 45 → F4 j = F j := fun j hj => (hf_F4 j (by omega)).trans (hf0 j hj)
  have hO_6 : F4 45 = .inr (0, [.ref (ad1 46), .int 0, .int 0]) := he_F4
  refine lv_aload_n kx kb dX0_init_13 rfl (lv_at hl 0 rfl) ?_
  refine lv_iconst (v := nI 0) kx kb dX0_init_14 (by decide) ?_
  refine w_put X M h 45 hO_6 (by omega) fp_X0_17 (rfl) (by rfl) (Nat.le_of_ble_eq_true rfl) dX0_init_15 (fun F7 H locs h he_F7 hf_F7 => ?_)
  have hA_8 := hA_5.fr (hf_F7 46 (by omega))
  have hf0 : ∀ j, j < 45 → F7 j = F j := fun j hj => (hf_F7 j (by omega)).trans (hf0 j hj)
  have hO_9 : F7 45 = .inr (0, [.ref (ad1 46), .int (nI 0), .int 0]) := he_F7
  refine lv_aload_n kx kb dX0_init_18 rfl (lv_at hl 0 rfl) ?_
  refine lv_iconst (v := nI 0) kx kb dX0_init_19 (by decide) ?_
  refine w_put X M h 45 hO_9 (by omega) fp_X0_21 (rfl) (by rfl) (Nat.le_of_ble_eq_true rfl) dX0_init_20 (fun F10 H locs h he_F10 hf_F10 => ?_)
  have hA_11 := hA_8.fr (hf_F10 46 (by omega))
  have hf0 : ∀ j, j < 45 → F10 j = F j := fun j hj => (hf_F10 j (by omega)).trans (hf0 j hj)
  have hO_12 : F10 45 = .inr (0, [.ref (ad1 46), .int (nI 0), .int (nI 0)]) := he_F10
  refine lv_iconst (v := nI 0) kx kb dX0_init_23 (by decide) ?_
  refine lv_istore_n (lv' := [(1, .int (nI 0)), (0, .ref (ad1 45))]) kx kb dX0_init_24 rfl hl (by decide) rfl (fun ls hl => ?_)
  refine lv_iload_n kx kb dX0_init_25 rfl (lv_at hl 0 rfl) ?_
  refine lv_aload_n kx kb dX0_init_26 rfl (lv_at hl 1 rfl) ?_
  refine w_get X M h 45 hO_12 (by omega) fl_X0_11 rfl dX0_init_27 ?_
  refine w_alenq X M h 46 hA_11 (by omega) dX0_init_30 ?_
  refine w_cmp_ge (tgt := 53) kx kb (by omega) (by omega) dX0_init_31 (by decide) (fun c_13 => (show False by omega).elim) (fun c_13 => ?_)
  refine lv_aload_n kx kb dX0_init_34 rfl (lv_at hl 1 rfl) ?_
  refine w_get X M h 45 hO_12 (by omega) fl_X0_11 rfl dX0_init_35 ?_
  refine lv_iload_n kx kb dX0_init_38 rfl (lv_at hl 0 rfl) ?_
  refine w_new X (show 47 + 1 = 48 by omega) M h nw_X0_9 ⟨(by decide), (by decide)⟩ dX0_init_39 (fun ad14 F14 H M h hag_14 hn_14 hfr_14 => ?_)
  have hA_15 := hA_11.fr (hfr_14 46 (by omega))
  have hO_16 : F14 45 = .inr (0, [.ref (ad14 46), .int (nI 0), .int (nI 0)]) := by rw [hfr_14 45 (by omega), hO_12, hag_14 46 (by omega)]
  rw [← hag_14 45 (by omega)] at hl
  rw [← hag_14 46 (by omega)]
  have hag0 : ∀ j, j < 46 → ad14 j = ad j := fun j hj => (hag_14 j (by omega)).trans (hag0 j hj)
  have hf0 : ∀ j, j < 45 → F14 j = F j := fun j hj => (hfr_14 j (by omega)).trans (hf0 j hj)
  have hQ_17 := hA_15.eq (b := fun k => if k < 0 then some (ad14 (47 + 22 * k)) else none) (fun k hk => by by_cases q : k < 0; rw [if_pos q, if_pos q, hag_14 _ (by omega)]; rw [if_neg q, if_neg q])
  refine lv_dup kx kb dX0_init_42 rfl ?_
  refine w_callI X (show 48 + 21 = 69 by omega) M h hAO [] [.ref (ad14 47), .int (nI 0), .ref (ad14 46)] (c_X4_init l g 47 hn_14) li_X0_24 rfl ⟨by decide, by decide⟩ hl ⟨(by decide), (by decide)⟩ (Nat.le_of_ble_eq_true rfl) rfl dX0_init_43 (fun ad18 F18 H locs hp_18 M h hag_18 => ?_)
  have hfr_18 := hp_18.2
  have hA_19 := hQ_17.fr (hfr_18 46 (by omega))
  have hO_20 : F18 45 = .inr (0, [.ref (ad18 46), .int (nI 0), .int (nI 0)]) := by rw [hfr_18 45 (by omega), hO_16, hag_18 46 (by omega)]
  rw [← hag_18 45 (by omega)] at hl
  rw [← hag_18 47 (by omega)]
  rw [← hag_18 46 (by omega)]
  have hag0 : ∀ j, j < 46 → ad18 j = ad j := fun j hj => (hag_18 j (by omega)).trans (hag0 j hj)
  have hf0 : ∀ j, j < 45 → F18 j = F j := fun j hj => (hfr_18 j (by omega)).trans (hf0 j hj)
  have hQ_21 := hA_19.eq (b := fun k => if k < 0 then some (ad18 (47 + 22 * k)) else none) (fun k hk => by by_cases q : k < 0; rw [if_pos q, if_pos q, hag_18 _ (by omega)]; rw [if_neg q, if_neg q])
  refine w_aast X M h 46 hQ_21 (by omega) 0 (by omega) (by omega) hp_18.1.2.1 (by omega) dX0_init_46 (fun F22 H locs h he_F22 hf_F22 => ?_)
  have hO_23 := (hf_F22 45 (by omega)).trans hO_20
  have hP_24 : oSt g 69 ad18 F22 47 stX0 := hp_18.1.gr (Nat.le_refl _) (fun _ _ => rfl) (fun q g1 g2 => hf_F22 q (by omega))
  have hf0 : ∀ j, j < 45 → F22 j = F j := fun j hj => (hf_F22 j (by omega)).trans (hf0 j hj)
  have hQ_25 := he_F22.eq (b := fun k => if k < 1 then some (ad18 (47 + 22 * k)) else none) (fun k hk => by simp only [va_up]; by_cases e : k = 0; subst e; rw [if_pos rfl, if_pos (by omega)]; rw [if_neg e]; by_cases q : k < 0; rw [if_pos q, if_pos (by omega)]; rw [if_neg q, if_neg (by omega)])
  refine lv_iinc (v := nI 1) (lv' := [(1, .int (nI 1)), (0, .ref (ad18 45))]) kx kb dX0_init_47 hl (k := 0) rfl (nI_add _ _) (by decide) rfl (fun ls hl => ?_)
  refine lv_goto (tgt := 25) kx kb dX0_init_50 (by decide) ?_
  refine lv_iload_n kx kb dX0_init_25 rfl (lv_at hl 0 rfl) ?_
  refine lv_aload_n kx kb dX0_init_26 rfl (lv_at hl 1 rfl) ?_
  refine w_get X M h 45 hO_23 (by omega) fl_X0_11 rfl dX0_init_27 ?_
  refine w_alenq X M h 46 hQ_25 (by omega) dX0_init_30 ?_
  refine w_cmp_ge (tgt := 53) kx kb (by omega) (by omega) dX0_init_31 (by decide) (fun c_26 => (show False by omega).elim) (fun c_26 => ?_)
  refine lv_aload_n kx kb dX0_init_34 rfl (lv_at hl 1 rfl) ?_
  refine w_get X M h 45 hO_23 (by omega) fl_X0_11 rfl dX0_init_35 ?_
  refine lv_iload_n kx kb dX0_init_38 rfl (lv_at hl 0 rfl) ?_
  refine w_new X (show 69 + 1 = 70 by omega) M h nw_X0_9 ⟨(by decide), (by decide)⟩ dX0_init_39 (fun ad27 F27 H M h hag_27 hn_27 hfr_27 => ?_)
  have hO_28 : F27 45 = .inr (0, [.ref (ad27 46), .int (nI 0), .int (nI 0)]) := by rw [hfr_27 45 (by omega), hO_23, hag_27 46 (by omega)]
  have hP_29 : oSt g 70 ad27 F27 47 stX0 := hP_24.gr (by omega) hag_27 (fun q g1 g2 => hfr_27 q (by omega))
  have hA_30 := hQ_25.fr (hfr_27 46 (by omega))
  rw [← hag_27 45 (by omega)] at hl
  rw [← hag_27 46 (by omega)]
  have hag0 : ∀ j, j < 46 → ad27 j = ad j := fun j hj => (hag_27 j (by omega)).trans (hag0 j hj)
  have hf0 : ∀ j, j < 45 → F27 j = F j := fun j hj => (hfr_27 j (by omega)).trans (hf0 j hj)
  have hQ_31 := hA_30.eq (b := fun k => if k < 1 then some (ad27 (47 + 22 * k)) else none) (fun k hk => by by_cases q : k < 1; rw [if_pos q, if_pos q, hag_27 _ (by omega)]; rw [if_neg q, if_neg q])
  refine lv_dup kx kb dX0_init_42 rfl ?_
  refine w_callI X (show 70 + 21 = 91 by omega) M h hAO [] [.ref (ad27 69), .int (nI 1), .ref (ad27 46)] (c_X4_init l g 69 hn_27) li_X0_24 rfl ⟨by decide, by decide⟩ hl ⟨(by decide), (by decide)⟩ (Nat.le_of_ble_eq_true rfl) rfl dX0_init_43 (fun ad32 F32 H locs hp_32 M h hag_32 => ?_)
  have hfr_32 := hp_32.2
  have hO_33 : F32 45 = .inr (0, [.ref (ad32 46), .int (nI 0), .int (nI 0)]) := by rw [hfr_32 45 (by omega), hO_28, hag_32 46 (by omega)]
  have hP_34 : oSt g 91 ad32 F32 47 stX0 := hP_29.gr (by omega) hag_32 (fun q g1 g2 => hfr_32 q (by omega))
  have hA_35 := hQ_31.fr (hfr_32 46 (by omega))
  rw [← hag_32 45 (by omega)] at hl
  rw [← hag_32 69 (by omega)]
  rw [← hag_32 46 (by omega)]
  have hag0 : ∀ j, j < 46 → ad32 j = ad j := fun j hj => (hag_32 j (by omega)).trans (hag0 j hj)
  have hf0 : ∀ j, j < 45 → F32 j = F j := fun j hj => (hfr_32 j (by omega)).trans (hf0 j hj)
  have hQ_36 := hA_35.eq (b := fun k => if k < 1 then some (ad32 (47 + 22 * k)) else none) (fun k hk => by by_cases q : k < 1; rw [if_pos q, if_pos q, hag_32 _ (by omega)]; rw [if_neg q, if_neg q])
  refine w_aast X M h 46 hQ_36 (by omega) 1 (by omega) (by omega) hp_32.1.2.1 (by omega) dX0_init_46 (fun F37 H locs h he_F37 hf_F37 => ?_)
  have hO_38 := (hf_F37 45 (by omega)).trans hO_33
  have hP_39 : oSt g 91 ad32 F37 47 stX0 := hP_34.gr (Nat.le_refl _) (fun _ _ => rfl) (fun q g1 g2 => hf_F37 q (by omega))
  have hP_40 : oSt g 91 ad32 F37 69 stX0 := hp_32.1.gr (Nat.le_refl _) (fun _ _ => rfl) (fun q g1 g2 => hf_F37 q (by omega))
  have hf0 : ∀ j, j < 45 → F37 j = F j := fun j hj => (hf_F37 j (by omega)).trans (hf0 j hj)
  have hQ_41 := he_F37.eq (b := fun k => if k < 2 then some (ad32 (47 + 22 * k)) else none) (fun k hk => by simp only [va_up]; by_cases e : k = 1; subst e; rw [if_pos rfl, if_pos (by omega)]; rw [if_neg e]; by_cases q : k < 1; rw [if_pos q, if_pos (by omega)]; rw [if_neg q, if_neg (by omega)])
  refine lv_iinc (v := nI 2) (lv' := [(1, .int (nI 2)), (0, .ref (ad32 45))]) kx kb dX0_init_47 hl (k := 0) rfl (nI_add _ _) (by decide) rfl (fun ls hl => ?_)
  refine lv_goto (tgt := 25) kx kb dX0_init_50 (by decide) ?_
  refine lv_iload_n kx kb dX0_init_25 rfl (lv_at hl 0 rfl) ?_
  refine lv_aload_n kx kb dX0_init_26 rfl (lv_at hl 1 rfl) ?_
  refine w_get X M h 45 hO_38 (by omega) fl_X0_11 rfl dX0_init_27 ?_
  refine w_alenq X M h 46 hQ_41 (by omega) dX0_init_30 ?_
  refine w_cmp_ge (tgt := 53) kx kb (by omega) (by omega) dX0_init_31 (by decide) (fun c_42 => (show False by omega).elim) (fun c_42 => ?_)
  refine lv_aload_n kx kb dX0_init_34 rfl (lv_at hl 1 rfl) ?_
  refine w_get X M h 45 hO_38 (by omega) fl_X0_11 rfl dX0_init_35 ?_
  refine lv_iload_n kx kb dX0_init_38 rfl (lv_at hl 0 rfl) ?_
  refine w_new X (show 91 + 1 = 92 by omega) M h nw_X0_9 ⟨(by decide), (by decide)⟩ dX0_init_39 (fun ad43 F43 H M h hag_43 hn_43 hfr_43 => ?_)
  have hO_44 : F43 45 = .inr (0, [.ref (ad43 46), .int (nI 0), .int (nI 0)]) := by rw [hfr_43 45 (by omega), hO_38, hag_43 46 (by omega)]
  have hP_45 : oSt g 92 ad43 F43 47 stX0 := hP_39.gr (by omega) hag_43 (fun q g1 g2 => hfr_43 q (by omega))
  have hP_46 : oSt g 92 ad43 F43 69 stX0 := hP_40.gr (by omega) hag_43 (fun q g1 g2 => hfr_43 q (by omega))
  have hA_47 := hQ_41.fr (hfr_43 46 (by omega))
  rw [← hag_43 45 (by omega)] at hl
  rw [← hag_43 46 (by omega)]
  have hag0 : ∀ j, j < 46 → ad43 j = ad j := fun j hj => (hag_43 j (by omega)).trans (hag0 j hj)
  have hf0 : ∀ j, j < 45 → F43 j = F j := fun j hj => (hfr_43 j (by omega)).trans (hf0 j hj)
  have hQ_48 := hA_47.eq (b := fun k => if k < 2 then some (ad43 (47 + 22 * k)) else none) (fun k hk => by by_cases q : k < 2; rw [if_pos q, if_pos q, hag_43 _ (by omega)]; rw [if_neg q, if_neg q])
  refine lv_dup kx kb dX0_init_42 rfl ?_
  refine w_callI X (show 92 + 21 = 113 by omega) M h hAO [] [.ref (ad43 91), .int (nI 2), .ref (ad43 46)] (c_X4_init l g 91 hn_43) li_X0_24 rfl ⟨by decide, by decide⟩ hl ⟨(by decide), (by decide)⟩ (Nat.le_of_ble_eq_true rfl) rfl dX0_init_43 (fun ad49 F49 H locs hp_49 M h hag_49 => ?_)
  have hfr_49 := hp_49.2
  have hO_50 : F49 45 = .inr (0, [.ref (ad49 46), .int (nI 0), .int (nI 0)]) := by rw [hfr_49 45 (by omega), hO_44, hag_49 46 (by omega)]
  have hP_51 : oSt g 113 ad49 F49 47 stX0 := hP_45.gr (by omega) hag_49 (fun q g1 g2 => hfr_49 q (by omega))
  have hP_52 : oSt g 113 ad49 F49 69 stX0 := hP_46.gr (by omega) hag_49 (fun q g1 g2 => hfr_49 q (by omega))
  have hA_53 := hQ_48.fr (hfr_49 46 (by omega))
  rw [← hag_49 45 (by omega)] at hl
  rw [← hag_49 91 (by omega)]
  rw [← hag_49 46 (by omega)]
  have hag0 : ∀ j, j < 46 → ad49 j = ad j := fun j hj => (hag_49 j (by omega)).trans (hag0 j hj)
  have hf0 : ∀ j, j < 45 → F49 j = F j := fun j hj => (hfr_49 j (by omega)).trans (hf0 j hj)
  have hQ_54 := hA_53.eq (b := fun k => if k < 2 then some (ad49 (47 + 22 * k)) else none) (fun k hk => by by_cases q : k < 2; rw [if_pos q, if_pos q, hag_49 _ (by omega)]; rw [if_neg q, if_neg q])
  refine w_aast X M h 46 hQ_54 (by omega) 2 (by omega) (by omega) hp_49.1.2.1 (by omega) dX0_init_46 (fun F55 H locs h he_F55 hf_F55 => ?_)
  have hO_56 := (hf_F55 45 (by omega)).trans hO_50
  have hP_57 : oSt g 113 ad49 F55 47 stX0 := hP_51.gr (Nat.le_refl _) (fun _ _ => rfl) (fun q g1 g2 => hf_F55 q (by omega))
  have hP_58 : oSt g 113 ad49 F55 69 stX0 := hP_52.gr (Nat.le_refl _) (fun _ _ => rfl) (fun q g1 g2 => hf_F55 q (by omega))
  have hP_59 : oSt g 113 ad49 F55 91 stX0 := hp_49.1.gr (Nat.le_refl _) (fun _ _ => rfl) (fun q g1 g2 => hf_F55 q (by omega))
  have hf0 : ∀ j, j < 45 → F55 j = F j := fun j hj => (hf_F55 j (by omega)).trans (hf0 j hj)
  have hQ_60 := he_F55.eq (b := fun k => if k < 3 then some (ad49 (47 + 22 * k)) else none) (fun k hk => by simp only [va_up]; by_cases e : k = 2; subst e; rw [if_pos rfl, if_pos (by omega)]; rw [if_neg e]; by_cases q : k < 2; rw [if_pos q, if_pos (by omega)]; rw [if_neg q, if_neg (by omega)])
  refine lv_iinc (v := nI 3) (lv' := [(1, .int (nI 3)), (0, .ref (ad49 45))]) kx kb dX0_init_47 hl (k := 0) rfl (nI_add _ _) (by decide) rfl (fun ls hl => ?_)
  refine lv_goto (tgt := 25) kx kb dX0_init_50 (by decide) ?_
  refine lv_iload_n kx kb dX0_init_25 rfl (lv_at hl 0 rfl) ?_
  refine lv_aload_n kx kb dX0_init_26 rfl (lv_at hl 1 rfl) ?_
  refine w_get X M h 45 hO_56 (by omega) fl_X0_11 rfl dX0_init_27 ?_
  refine w_alenq X M h 46 hQ_60 (by omega) dX0_init_30 ?_
  refine w_cmp_ge (tgt := 53) kx kb (by omega) (by omega) dX0_init_31 (by decide) (fun c_61 => (show False by omega).elim) (fun c_61 => ?_)
  refine lv_aload_n kx kb dX0_init_34 rfl (lv_at hl 1 rfl) ?_
  refine w_get X M h 45 hO_56 (by omega) fl_X0_11 rfl dX0_init_35 ?_
  refine lv_iload_n kx kb dX0_init_38 rfl (lv_at hl 0 rfl) ?_
  refine w_new X (show 113 + 1 = 114 by omega) M h nw_X0_9 ⟨(by decide), (by decide)⟩ dX0_init_39 (fun ad62 F62 H M h hag_62 hn_62 hfr_62 => ?_)
  have hO_63 : F62 45 = .inr (0, [.ref (ad62 46), .int (nI 0), .int (nI 0)]) := by rw [hfr_62 45 (by omega), hO_56, hag_62 46 (by omega)]
  have hP_64 : oSt g 114 ad62 F62 47 stX0 := hP_57.gr (by omega) hag_62 (fun q g1 g2 => hfr_62 q (by omega))
  have hP_65 : oSt g 114 ad62 F62 69 stX0 := hP_58.gr (by omega) hag_62 (fun q g1 g2 => hfr_62 q (by omega))
  have hP_66 : oSt g 114 ad62 F62 91 stX0 := hP_59.gr (by omega) hag_62 (fun q g1 g2 => hfr_62 q (by omega))
  have hA_67 := hQ_60.fr (hfr_62 46 (by omega))
  rw [← hag_62 45 (by omega)] at hl
  rw [← hag_62 46 (by omega)]
  have hag0 : ∀ j, j < 46 → ad62 j = ad j := fun j hj => (hag_62 j (by omega)).trans (hag0 j hj)
  have hf0 : ∀ j, j < 45 → F62 j = F j := fun j hj => (hfr_62 j (by omega)).trans (hf0 j hj)
  have hQ_68 := hA_67.eq (b := fun k => if k < 3 then some (ad62 (47 + 22 * k)) else none) (fun k hk => by by_cases q : k < 3; rw [if_pos q, if_pos q, hag_62 _ (by omega)]; rw [if_neg q, if_neg q])
  refine lv_dup kx kb dX0_init_42 rfl ?_
  refine w_callI X (show 114 + 21 = 135 by omega) M h hAO [] [.ref (ad62 113), .int (nI 3), .ref (ad62 46)] (c_X4_init l g 113 hn_62) li_X0_24 rfl ⟨by decide, by decide⟩ hl ⟨(by decide), (by decide)⟩ (Nat.le_of_ble_eq_true rfl) rfl dX0_init_43 (fun ad69 F69 H locs hp_69 M h hag_69 => ?_)
  have hfr_69 := hp_69.2
  have hO_70 : F69 45 = .inr (0, [.ref (ad69 46), .int (nI 0), .int (nI 0)]) := by rw [hfr_69 45 (by omega), hO_63, hag_69 46 (by omega)]
  have hP_71 : oSt g 135 ad69 F69 47 stX0 := hP_64.gr (by omega) hag_69 (fun q g1 g2 => hfr_69 q (by omega))
  have hP_72 : oSt g 135 ad69 F69 69 stX0 := hP_65.gr (by omega) hag_69 (fun q g1 g2 => hfr_69 q (by omega))
  have hP_73 : oSt g 135 ad69 F69 91 stX0 := hP_66.gr (by omega) hag_69 (fun q g1 g2 => hfr_69 q (by omega))
  have hA_74 := hQ_68.fr (hfr_69 46 (by omega))
  rw [← hag_69 45 (by omega)] at hl
  rw [← hag_69 113 (by omega)]
  rw [← hag_69 46 (by omega)]
  have hag0 : ∀ j, j < 46 → ad69 j = ad j := fun j hj => (hag_69 j (by omega)).trans (hag0 j hj)
  have hf0 : ∀ j, j < 45 → F69 j = F j := fun j hj => (hfr_69 j (by omega)).trans (hf0 j hj)
  have hQ_75 := hA_74.eq (b := fun k => if k < 3 then some (ad69 (47 + 22 * k)) else none) (fun k hk => by by_cases q : k < 3; rw [if_pos q, if_pos q, hag_69 _ (by omega)]; rw [if_neg q, if_neg q])
  refine w_aast X M h 46 hQ_75 (by omega) 3 (by omega) (by omega) hp_69.1.2.1 (by omega) dX0_init_46 (fun F76 H locs h he_F76 hf_F76 => ?_)
  have hO_77 := (hf_F76 45 (by omega)).trans hO_70
  have hP_78 : oSt g 135 ad69 F76 47 stX0 := hP_71.gr (Nat.le_refl _) (fun _ _ => rfl) (fun q g1 g2 => hf_F76 q (by omega))
  have hP_79 : oSt g 135 ad69 F76 69 stX0 := hP_72.gr (Nat.le_refl _) (fun _ _ => rfl) (fun q g1 g2 => hf_F76 q (by omega))
  have hP_80 : oSt g 135 ad69 F76 91 stX0 := hP_73.gr (Nat.le_refl _) (fun _ _ => rfl) (fun q g1 g2 => hf_F76 q (by omega))
  have hP_81 : oSt g 135 ad69 F76 113 stX0 := hp_69.1.gr (Nat.le_refl _) (fun _ _ => rfl) (fun q g1 g2 => hf_F76 q (by omega))
  have hf0 : ∀ j, j < 45 → F76 j = F j := fun j hj => (hf_F76 j (by omega)).trans (hf0 j hj)
  have hQ_82 := he_F76.eq (b := fun k => if k < 4 then some (ad69 (47 + 22 * k)) else none) (fun k hk => by simp only [va_up]; by_cases e : k = 3; subst e; rw [if_pos rfl, if_pos (by omega)]; rw [if_neg e]; by_cases q : k < 3; rw [if_pos q, if_pos (by omega)]; rw [if_neg q, if_neg (by omega)])
  refine lv_iinc (v := nI 4) (lv' := [(1, .int (nI 4)), (0, .ref (ad69 45))]) kx kb dX0_init_47 hl (k := 0) rfl (nI_add _ _) (by decide) rfl (fun ls hl => ?_)
  refine lv_goto (tgt := 25) kx kb dX0_init_50 (by decide) ?_
  refine lv_iload_n kx kb dX0_init_25 rfl (lv_at hl 0 rfl) ?_
  refine lv_aload_n kx kb dX0_init_26 rfl (lv_at hl 1 rfl) ?_
  refine w_get X M h 45 hO_77 (by omega) fl_X0_11 rfl dX0_init_27 ?_
  refine w_alenq X M h 46 hQ_82 (by omega) dX0_init_30 ?_
  refine w_cmp_ge (tgt := 53) kx kb (by omega) (by omega) dX0_init_31 (by decide) (fun c_83 => (show False by omega).elim) (fun c_83 => ?_)
  refine lv_aload_n kx kb dX0_init_34 rfl (lv_at hl 1 rfl) ?_
  refine w_get X M h 45 hO_77 (by omega) fl_X0_11 rfl dX0_init_35 ?_
  refine lv_iload_n kx kb dX0_init_38 rfl (lv_at hl 0 rfl) ?_
  refine w_new X (show 135 + 1 = 136 by omega) M h nw_X0_9 ⟨(by decide), (by decide)⟩ dX0_init_39 (fun ad84 F84 H M h hag_84 hn_84 hfr_84 => ?_)
  have hO_85 : F84 45 = .inr (0, [.ref (ad84 46), .int (nI 0), .int (nI 0)]) := by rw [hfr_84 45 (by omega), hO_77, hag_84 46 (by omega)]
  have hP_86 : oSt g 136 ad84 F84 47 stX0 := hP_78.gr (by omega) hag_84 (fun q g1 g2 => hfr_84 q (by omega))
  have hP_87 : oSt g 136 ad84 F84 69 stX0 := hP_79.gr (by omega) hag_84 (fun q g1 g2 => hfr_84 q (by omega))
  have hP_88 : oSt g 136 ad84 F84 91 stX0 := hP_80.gr (by omega) hag_84 (fun q g1 g2 => hfr_84 q (by omega))
  have hP_89 : oSt g 136 ad84 F84 113 stX0 := hP_81.gr (by omega) hag_84 (fun q g1 g2 => hfr_84 q (by omega))
  have hA_90 := hQ_82.fr (hfr_84 46 (by omega))
  rw [← hag_84 45 (by omega)] at hl
  rw [← hag_84 46 (by omega)]
  have hag0 : ∀ j, j < 46 → ad84 j = ad j := fun j hj => (hag_84 j (by omega)).trans (hag0 j hj)
  have hf0 : ∀ j, j < 45 → F84 j = F j := fun j hj => (hfr_84 j (by omega)).trans (hf0 j hj)
  have hQ_91 := hA_90.eq (b := fun k => if k < 4 then some (ad84 (47 + 22 * k)) else none) (fun k hk => by by_cases q : k < 4; rw [if_pos q, if_pos q, hag_84 _ (by omega)]; rw [if_neg q, if_neg q])
  refine lv_dup kx kb dX0_init_42 rfl ?_
  refine w_callI X (show 136 + 21 = 157 by omega) M h hAO [] [.ref (ad84 135), .int (nI 4), .ref (ad84 46)] (c_X4_init l g 135 hn_84) li_X0_24 rfl ⟨by decide, by decide⟩ hl ⟨(by decide), (by decide)⟩ (Nat.le_of_ble_eq_true rfl) rfl dX0_init_43 (fun ad92 F92 H locs hp_92 M h hag_92 => ?_)
  have hfr_92 := hp_92.2
  have hO_93 : F92 45 = .inr (0, [.ref (ad92 46), .int (nI 0), .int (nI 0)]) := by rw [hfr_92 45 (by omega), hO_85, hag_92 46 (by omega)]
  have hP_94 : oSt g 157 ad92 F92 47 stX0 := hP_86.gr (by omega) hag_92 (fun q g1 g2 => hfr_92 q (by omega))
  have hP_95 : oSt g 157 ad92 F92 69 stX0 := hP_87.gr (by omega) hag_92 (fun q g1 g2 => hfr_92 q (by omega))
  have hP_96 : oSt g 157 ad92 F92 91 stX0 := hP_88.gr (by omega) hag_92 (fun q g1 g2 => hfr_92 q (by omega))
  have hP_97 : oSt g 157 ad92 F92 113 stX0 := hP_89.gr (by omega) hag_92 (fun q g1 g2 => hfr_92 q (by omega))
  have hA_98 := hQ_91.fr (hfr_92 46 (by omega))
  rw [← hag_92 45 (by omega)] at hl
  rw [← hag_92 135 (by omega)]
  rw [← hag_92 46 (by omega)]
  have hag0 : ∀ j, j < 46 → ad92 j = ad j := fun j hj => (hag_92 j (by omega)).trans (hag0 j hj)
  have hf0 : ∀ j, j < 45 → F92 j = F j := fun j hj => (hfr_92 j (by omega)).trans (hf0 j hj)
  have hQ_99 := hA_98.eq (b := fun k => if k < 4 then some (ad92 (47 + 22 * k)) else none) (fun k hk => by by_cases q : k < 4; rw [if_pos q, if_pos q, hag_92 _ (by omega)]; rw [if_neg q, if_neg q])
  refine w_aast X M h 46 hQ_99 (by omega) 4 (by omega) (by omega) hp_92.1.2.1 (by omega) dX0_init_46 (fun F100 H locs h he_F100 hf_F100 => ?_)
  have hO_101 := (hf_F100 45 (by omega)).trans hO_93
  have hP_102 : oSt g 157 ad92 F100 47 stX0 := hP_94.gr (Nat.le_refl _) (fun _ _ => rfl) (fun q g1 g2 => hf_F100 q (by omega))
  have hP_103 : oSt g 157 ad92 F100 69 stX0 := hP_95.gr (Nat.le_refl _) (fun _ _ => rfl) (fun q g1 g2 => hf_F100 q (by omega))
  have hP_104 : oSt g 157 ad92 F100 91 stX0 := hP_96.gr (Nat.le_refl _) (fun _ _ => rfl) (fun q g1 g2 => hf_F100 q (by omega))
  have hP_105 : oSt g 157 ad92 F100 113 stX0 := hP_97.gr (Nat.le_refl _) (fun _ _ => rfl) (fun q g1 g2 => hf_F100 q (by omega))
  have hP_106 : oSt g 157 ad92 F100 135 stX0 := hp_92.1.gr (Nat.le_refl _) (fun _ _ => rfl) (fun q g1 g2 => hf_F100 q (by omega))
  have hf0 : ∀ j, j < 45 → F100 j = F j := fun j hj => (hf_F100 j (by omega)).trans (hf0 j hj)
  have hQ_107 := he_F100.eq (b := fun k => if k < 5 then some (ad92 (47 + 22 * k)) else none) (fun k hk => by simp only [va_up]; by_cases e : k = 4; subst e; rw [if_pos rfl, if_pos (by omega)]; rw [if_neg e]; by_cases q : k < 4; rw [if_pos q, if_pos (by omega)]; rw [if_neg q, if_neg (by omega)])
  refine lv_iinc (v := nI 5) (lv' := [(1, .int (nI 5)), (0, .ref (ad92 45))]) kx kb dX0_init_47 hl (k := 0) rfl (nI_add _ _) (by decide) rfl (fun ls hl => ?_)
  refine lv_goto (tgt := 25) kx kb dX0_init_50 (by decide) ?_
  refine lv_iload_n kx kb dX0_init_25 rfl (lv_at hl 0 rfl) ?_
  refine lv_aload_n kx kb dX0_init_26 rfl (lv_at hl 1 rfl) ?_
  refine w_get X M h 45 hO_101 (by omega) fl_X0_11 rfl dX0_init_27 ?_
  refine w_alenq X M h 46 hQ_107 (by omega) dX0_init_30 ?_
  refine w_cmp_ge (tgt := 53) kx kb (by omega) (by omega) dX0_init_31 (by decide) (fun c_108 => (show False by omega).elim) (fun c_108 => ?_)
  refine lv_aload_n kx kb dX0_init_34 rfl (lv_at hl 1 rfl) ?_
  refine w_get X M h 45 hO_101 (by omega) fl_X0_11 rfl dX0_init_35 ?_
  refine lv_iload_n kx kb dX0_init_38 rfl (lv_at hl 0 rfl) ?_
  refine w_new X (show 157 + 1 = 158 by omega) M h nw_X0_9 ⟨(by decide), (by decide)⟩ dX0_init_39 (fun ad109 F109 H M h hag_109 hn_109 hfr_109 => ?_)
  have hO_110 : F109 45 = .inr (0, [.ref (ad109 46), .int (nI 0), .int (nI 0)]) := by rw [hfr_109 45 (by omega), hO_101, hag_109 46 (by omega)]
  have hP_111 : oSt g 158 ad109 F109 47 stX0 := hP_102.gr (by omega) hag_109 (fun q g1 g2 => hfr_109 q (by omega))
  have hP_112 : oSt g 158 ad109 F109 69 stX0 := hP_103.gr (by omega) hag_109 (fun q g1 g2 => hfr_109 q (by omega))
  have hP_113 : oSt g 158 ad109 F109 91 stX0 := hP_104.gr (by omega) hag_109 (fun q g1 g2 => hfr_109 q (by omega))
  have hP_114 : oSt g 158 ad109 F109 113 stX0 := hP_105.gr (by omega) hag_109 (fun q g1 g2 => hfr_109 q (by omega))
  have hP_115 : oSt g 158 ad109 F109 135 stX0 := hP_106.gr (by omega) hag_109 (fun q g1 g2 => hfr_109 q (by omega))
  have hA_116 := hQ_107.fr (hfr_109 46 (by omega))
  rw [← hag_109 45 (by omega)] at hl
  rw [← hag_109 46 (by omega)]
  have hag0 : ∀ j, j < 46 → ad109 j = ad j := fun j hj => (hag_109 j (by omega)).trans (hag0 j hj)
  have hf0 : ∀ j, j < 45 → F109 j = F j := fun j hj => (hfr_109 j (by omega)).trans (hf0 j hj)
  have hQ_117 := hA_116.eq (b := fun k => if k < 5 then some (ad109 (47 + 22 * k)) else none) (fun k hk => by by_cases q : k < 5; rw [if_pos q, if_pos q, hag_109 _ (by omega)]; rw [if_neg q, if_neg q])
  refine lv_dup kx kb dX0_init_42 rfl ?_
  refine w_callI X (show 158 + 21 = 179 by omega) M h hAO [] [.ref (ad109 157), .int (nI 5), .ref (ad109 46)] (c_X4_init l g 157 hn_109) li_X0_24 rfl ⟨by decide, by decide⟩ hl ⟨(by decide), (by decide)⟩ (Nat.le_of_ble_eq_true rfl) rfl dX0_init_43 (fun ad118 F118 H locs hp_118 M h hag_118 => ?_)
  have hfr_118 := hp_118.2
  have hO_119 : F118 45 = .inr (0, [.ref (ad118 46), .int (nI 0), .int (nI 0)]) := by rw [hfr_118 45 (by omega), hO_110, hag_118 46 (by omega)]
  have hP_120 : oSt g 179 ad118 F118 47 stX0 := hP_111.gr (by omega) hag_118 (fun q g1 g2 => hfr_118 q (by omega))
  have hP_121 : oSt g 179 ad118 F118 69 stX0 := hP_112.gr (by omega) hag_118 (fun q g1 g2 => hfr_118 q (by omega))
  have hP_122 : oSt g 179 ad118 F118 91 stX0 := hP_113.gr (by omega) hag_118 (fun q g1 g2 => hfr_118 q (by omega))
  have hP_123 : oSt g 179 ad118 F118 113 stX0 := hP_114.gr (by omega) hag_118 (fun q g1 g2 => hfr_118 q (by omega))
  have hP_124 : oSt g 179 ad118 F118 135 stX0 := hP_115.gr (by omega) hag_118 (fun q g1 g2 => hfr_118 q (by omega))
  have hA_125 := hQ_117.fr (hfr_118 46 (by omega))
  rw [← hag_118 45 (by omega)] at hl
  rw [← hag_118 157 (by omega)]
  rw [← hag_118 46 (by omega)]
  have hag0 : ∀ j, j < 46 → ad118 j = ad j := fun j hj => (hag_118 j (by omega)).trans (hag0 j hj)
  have hf0 : ∀ j, j < 45 → F118 j = F j := fun j hj => (hfr_118 j (by omega)).trans (hf0 j hj)
  have hQ_126 := hA_125.eq (b := fun k => if k < 5 then some (ad118 (47 + 22 * k)) else none) (fun k hk => by by_cases q : k < 5; rw [if_pos q, if_pos q, hag_118 _ (by omega)]; rw [if_neg q, if_neg q])
  refine w_aast X M h 46 hQ_126 (by omega) 5 (by omega) (by omega) hp_118.1.2.1 (by omega) dX0_init_46 (fun F127 H locs h he_F127 hf_F127 => ?_)
  have hO_128 := (hf_F127 45 (by omega)).trans hO_119
  have hP_129 : oSt g 179 ad118 F127 47 stX0 := hP_120.gr (Nat.le_refl _) (fun _ _ => rfl) (fun q g1 g2 => hf_F127 q (by omega))
  have hP_130 : oSt g 179 ad118 F127 69 stX0 := hP_121.gr (Nat.le_refl _) (fun _ _ => rfl) (fun q g1 g2 => hf_F127 q (by omega))
  have hP_131 : oSt g 179 ad118 F127 91 stX0 := hP_122.gr (Nat.le_refl _) (fun _ _ => rfl) (fun q g1 g2 => hf_F127 q (by omega))
  have hP_132 : oSt g 179 ad118 F127 113 stX0 := hP_123.gr (Nat.le_refl _) (fun _ _ => rfl) (fun q g1 g2 => hf_F127 q (by omega))
  have hP_133 : oSt g 179 ad118 F127 135 stX0 := hP_124.gr (Nat.le_refl _) (fun _ _ => rfl) (fun q g1 g2 => hf_F127 q (by omega))
  have hP_134 : oSt g 179 ad118 F127 157 stX0 := hp_118.1.gr (Nat.le_refl _) (fun _ _ => rfl) (fun q g1 g2 => hf_F127 q (by omega))
  have hf0 : ∀ j, j < 45 → F127 j = F j := fun j hj => (hf_F127 j (by omega)).trans (hf0 j hj)
  have hQ_135 := he_F127.eq (b := fun k => if k < 6 then some (ad118 (47 + 22 * k)) else none) (fun k hk => by simp only [va_up]; by_cases e : k = 5; subst e; rw [if_pos rfl, if_pos (by omega)]; rw [if_neg e]; by_cases q : k < 5; rw [if_pos q, if_pos (by omega)]; rw [if_neg q, if_neg (by omega)])
  refine lv_iinc (v := nI 6) (lv' := [(1, .int (nI 6)), (0, .ref (ad118 45))]) kx kb dX0_init_47 hl (k := 0) rfl (nI_add _ _) (by decide) rfl (fun ls hl => ?_)
  refine lv_goto (tgt := 25) kx kb dX0_init_50 (by decide) ?_
  refine lv_iload_n kx kb dX0_init_25 rfl (lv_at hl 0 rfl) ?_
  refine lv_aload_n kx kb dX0_init_26 rfl (lv_at hl 1 rfl) ?_
  refine w_get X M h 45 hO_128 (by omega) fl_X0_11 rfl dX0_init_27 ?_
  refine w_alenq X M h 46 hQ_135 (by omega) dX0_init_30 ?_
  refine w_cmp_ge (tgt := 53) kx kb (by omega) (by omega) dX0_init_31 (by decide) (fun c_136 => (show False by omega).elim) (fun c_136 => ?_)
  refine lv_aload_n kx kb dX0_init_34 rfl (lv_at hl 1 rfl) ?_
  refine w_get X M h 45 hO_128 (by omega) fl_X0_11 rfl dX0_init_35 ?_
  refine lv_iload_n kx kb dX0_init_38 rfl (lv_at hl 0 rfl) ?_
  refine w_new X (show 179 + 1 = 180 by omega) M h nw_X0_9 ⟨(by decide), (by decide)⟩ dX0_init_39 (fun ad137 F137 H M h hag_137 hn_137 hfr_137 => ?_)
  have hO_138 : F137 45 = .inr (0, [.ref (ad137 46), .int (nI 0), .int (nI 0)]) := by rw [hfr_137 45 (by omega), hO_128, hag_137 46 (by omega)]
  have hP_139 : oSt g 180 ad137 F137 47 stX0 := hP_129.gr (by omega) hag_137 (fun q g1 g2 => hfr_137 q (by omega))
  have hP_140 : oSt g 180 ad137 F137 69 stX0 := hP_130.gr (by omega) hag_137 (fun q g1 g2 => hfr_137 q (by omega))
  have hP_141 : oSt g 180 ad137 F137 91 stX0 := hP_131.gr (by omega) hag_137 (fun q g1 g2 => hfr_137 q (by omega))
  have hP_142 : oSt g 180 ad137 F137 113 stX0 := hP_132.gr (by omega) hag_137 (fun q g1 g2 => hfr_137 q (by omega))
  have hP_143 : oSt g 180 ad137 F137 135 stX0 := hP_133.gr (by omega) hag_137 (fun q g1 g2 => hfr_137 q (by omega))
  have hP_144 : oSt g 180 ad137 F137 157 stX0 := hP_134.gr (by omega) hag_137 (fun q g1 g2 => hfr_137 q (by omega))
  have hA_145 := hQ_135.fr (hfr_137 46 (by omega))
  rw [← hag_137 45 (by omega)] at hl
  rw [← hag_137 46 (by omega)]
  have hag0 : ∀ j, j < 46 → ad137 j = ad j := fun j hj => (hag_137 j (by omega)).trans (hag0 j hj)
  have hf0 : ∀ j, j < 45 → F137 j = F j := fun j hj => (hfr_137 j (by omega)).trans (hf0 j hj)
  have hQ_146 := hA_145.eq (b := fun k => if k < 6 then some (ad137 (47 + 22 * k)) else none) (fun k hk => by by_cases q : k < 6; rw [if_pos q, if_pos q, hag_137 _ (by omega)]; rw [if_neg q, if_neg q])
  refine lv_dup kx kb dX0_init_42 rfl ?_
  refine w_callI X (show 180 + 21 = 201 by omega) M h hAO [] [.ref (ad137 179), .int (nI 6), .ref (ad137 46)] (c_X4_init l g 179 hn_137) li_X0_24 rfl ⟨by decide, by decide⟩ hl ⟨(by decide), (by decide)⟩ (Nat.le_of_ble_eq_true rfl) rfl dX0_init_43 (fun ad147 F147 H locs hp_147 M h hag_147 => ?_)
  have hfr_147 := hp_147.2
  have hO_148 : F147 45 = .inr (0, [.ref (ad147 46), .int (nI 0), .int (nI 0)]) := by rw [hfr_147 45 (by omega), hO_138, hag_147 46 (by omega)]
  have hP_149 : oSt g 201 ad147 F147 47 stX0 := hP_139.gr (by omega) hag_147 (fun q g1 g2 => hfr_147 q (by omega))
  have hP_150 : oSt g 201 ad147 F147 69 stX0 := hP_140.gr (by omega) hag_147 (fun q g1 g2 => hfr_147 q (by omega))
  have hP_151 : oSt g 201 ad147 F147 91 stX0 := hP_141.gr (by omega) hag_147 (fun q g1 g2 => hfr_147 q (by omega))
  have hP_152 : oSt g 201 ad147 F147 113 stX0 := hP_142.gr (by omega) hag_147 (fun q g1 g2 => hfr_147 q (by omega))
  have hP_153 : oSt g 201 ad147 F147 135 stX0 := hP_143.gr (by omega) hag_147 (fun q g1 g2 => hfr_147 q (by omega))
  have hP_154 : oSt g 201 ad147 F147 157 stX0 := hP_144.gr (by omega) hag_147 (fun q g1 g2 => hfr_147 q (by omega))
  have hA_155 := hQ_146.fr (hfr_147 46 (by omega))
  rw [← hag_147 45 (by omega)] at hl
  rw [← hag_147 179 (by omega)]
  rw [← hag_147 46 (by omega)]
  have hag0 : ∀ j, j < 46 → ad147 j = ad j := fun j hj => (hag_147 j (by omega)).trans (hag0 j hj)
  have hf0 : ∀ j, j < 45 → F147 j = F j := fun j hj => (hfr_147 j (by omega)).trans (hf0 j hj)
  have hQ_156 := hA_155.eq (b := fun k => if k < 6 then some (ad147 (47 + 22 * k)) else none) (fun k hk => by by_cases q : k < 6; rw [if_pos q, if_pos q, hag_147 _ (by omega)]; rw [if_neg q, if_neg q])
  refine w_aast X M h 46 hQ_156 (by omega) 6 (by omega) (by omega) hp_147.1.2.1 (by omega) dX0_init_46 (fun F157 H locs h he_F157 hf_F157 => ?_)
  have hO_158 := (hf_F157 45 (by omega)).trans hO_148
  have hP_159 : oSt g 201 ad147 F157 47 stX0 := hP_149.gr (Nat.le_refl _) (fun _ _ => rfl) (fun q g1 g2 => hf_F157 q (by omega))
  have hP_160 : oSt g 201 ad147 F157 69 stX0 := hP_150.gr (Nat.le_refl _) (fun _ _ => rfl) (fun q g1 g2 => hf_F157 q (by omega))
  have hP_161 : oSt g 201 ad147 F157 91 stX0 := hP_151.gr (Nat.le_refl _) (fun _ _ => rfl) (fun q g1 g2 => hf_F157 q (by omega))
  have hP_162 : oSt g 201 ad147 F157 113 stX0 := hP_152.gr (Nat.le_refl _) (fun _ _ => rfl) (fun q g1 g2 => hf_F157 q (by omega))
  have hP_163 : oSt g 201 ad147 F157 135 stX0 := hP_153.gr (Nat.le_refl _) (fun _ _ => rfl) (fun q g1 g2 => hf_F157 q (by omega))
  have hP_164 : oSt g 201 ad147 F157 157 stX0 := hP_154.gr (Nat.le_refl _) (fun _ _ => rfl) (fun q g1 g2 => hf_F157 q (by omega))
  have hP_165 : oSt g 201 ad147 F157 179 stX0 := hp_147.1.gr (Nat.le_refl _) (fun _ _ => rfl) (fun q g1 g2 => hf_F157 q (by omega))
  have hf0 : ∀ j, j < 45 → F157 j = F j := fun j hj => (hf_F157 j (by omega)).trans (hf0 j hj)
  have hQ_166 := he_F157.eq (b := fun k => if k < 7 then some (ad147 (47 + 22 * k)) else none) (fun k hk => by simp only [va_up]; by_cases e : k = 6; subst e; rw [if_pos rfl, if_pos (by omega)]; rw [if_neg e]; by_cases q : k < 6; rw [if_pos q, if_pos (by omega)]; rw [if_neg q, if_neg (by omega)])
  refine lv_iinc (v := nI 7) (lv' := [(1, .int (nI 7)), (0, .ref (ad147 45))]) kx kb dX0_init_47 hl (k := 0) rfl (nI_add _ _) (by decide) rfl (fun ls hl => ?_)
  refine lv_goto (tgt := 25) kx kb dX0_init_50 (by decide) ?_
  refine lv_iload_n kx kb dX0_init_25 rfl (lv_at hl 0 rfl) ?_
  refine lv_aload_n kx kb dX0_init_26 rfl (lv_at hl 1 rfl) ?_
  refine w_get X M h 45 hO_158 (by omega) fl_X0_11 rfl dX0_init_27 ?_
  refine w_alenq X M h 46 hQ_166 (by omega) dX0_init_30 ?_
  refine w_cmp_ge (tgt := 53) kx kb (by omega) (by omega) dX0_init_31 (by decide) (fun c_167 => (show False by omega).elim) (fun c_167 => ?_)
  refine lv_aload_n kx kb dX0_init_34 rfl (lv_at hl 1 rfl) ?_
  refine w_get X M h 45 hO_158 (by omega) fl_X0_11 rfl dX0_init_35 ?_
  refine lv_iload_n kx kb dX0_init_38 rfl (lv_at hl 0 rfl) ?_
  refine w_new X (show 201 + 1 = 202 by omega) M h nw_X0_9 ⟨(by decide), (by decide)⟩ dX0_init_39 (fun ad168 F168 H M h hag_168 hn_168 hfr_168 => ?_)
  have hO_169 : F168 45 = .inr (0, [.ref (ad168 46), .int (nI 0), .int (nI 0)]) := by rw [hfr_168 45 (by omega), hO_158, hag_168 46 (by omega)]
  have hP_170 : oSt g 202 ad168 F168 47 stX0 := hP_159.gr (by omega) hag_168 (fun q g1 g2 => hfr_168 q (by omega))
  have hP_171 : oSt g 202 ad168 F168 69 stX0 := hP_160.gr (by omega) hag_168 (fun q g1 g2 => hfr_168 q (by omega))
  have hP_172 : oSt g 202 ad168 F168 91 stX0 := hP_161.gr (by omega) hag_168 (fun q g1 g2 => hfr_168 q (by omega))
  have hP_173 : oSt g 202 ad168 F168 113 stX0 := hP_162.gr (by omega) hag_168 (fun q g1 g2 => hfr_168 q (by omega))
  have hP_174 : oSt g 202 ad168 F168 135 stX0 := hP_163.gr (by omega) hag_168 (fun q g1 g2 => hfr_168 q (by omega))
  have hP_175 : oSt g 202 ad168 F168 157 stX0 := hP_164.gr (by omega) hag_168 (fun q g1 g2 => hfr_168 q (by omega))
  have hP_176 : oSt g 202 ad168 F168 179 stX0 := hP_165.gr (by omega) hag_168 (fun q g1 g2 => hfr_168 q (by omega))
  have hA_177 := hQ_166.fr (hfr_168 46 (by omega))
  rw [← hag_168 45 (by omega)] at hl
  rw [← hag_168 46 (by omega)]
  have hag0 : ∀ j, j < 46 → ad168 j = ad j := fun j hj => (hag_168 j (by omega)).trans (hag0 j hj)
  have hf0 : ∀ j, j < 45 → F168 j = F j := fun j hj => (hfr_168 j (by omega)).trans (hf0 j hj)
  have hQ_178 := hA_177.eq (b := fun k => if k < 7 then some (ad168 (47 + 22 * k)) else none) (fun k hk => by by_cases q : k < 7; rw [if_pos q, if_pos q, hag_168 _ (by omega)]; rw [if_neg q, if_neg q])
  refine lv_dup kx kb dX0_init_42 rfl ?_
  refine w_callI X (show 202 + 21 = 223 by omega) M h hAO [] [.ref (ad168 201), .int (nI 7), .ref (ad168 46)] (c_X4_init l g 201 hn_168) li_X0_24 rfl ⟨by decide, by decide⟩ hl ⟨(by decide), (by decide)⟩ (Nat.le_of_ble_eq_true rfl) rfl dX0_init_43 (fun ad179 F179 H locs hp_179 M h hag_179 => ?_)
  have hfr_179 := hp_179.2
  have hO_180 : F179 45 = .inr (0, [.ref (ad179 46), .int (nI 0), .int (nI 0)]) := by rw [hfr_179 45 (by omega), hO_169, hag_179 46 (by omega)]
  have hP_181 : oSt g 223 ad179 F179 47 stX0 := hP_170.gr (by omega) hag_179 (fun q g1 g2 => hfr_179 q (by omega))
  have hP_182 : oSt g 223 ad179 F179 69 stX0 := hP_171.gr (by omega) hag_179 (fun q g1 g2 => hfr_179 q (by omega))
  have hP_183 : oSt g 223 ad179 F179 91 stX0 := hP_172.gr (by omega) hag_179 (fun q g1 g2 => hfr_179 q (by omega))
  have hP_184 : oSt g 223 ad179 F179 113 stX0 := hP_173.gr (by omega) hag_179 (fun q g1 g2 => hfr_179 q (by omega))
  have hP_185 : oSt g 223 ad179 F179 135 stX0 := hP_174.gr (by omega) hag_179 (fun q g1 g2 => hfr_179 q (by omega))
  have hP_186 : oSt g 223 ad179 F179 157 stX0 := hP_175.gr (by omega) hag_179 (fun q g1 g2 => hfr_179 q (by omega))
  have hP_187 : oSt g 223 ad179 F179 179 stX0 := hP_176.gr (by omega) hag_179 (fun q g1 g2 => hfr_179 q (by omega))
  have hA_188 := hQ_178.fr (hfr_179 46 (by omega))
  rw [← hag_179 45 (by omega)] at hl
  rw [← hag_179 201 (by omega)]
  rw [← hag_179 46 (by omega)]
  have hag0 : ∀ j, j < 46 → ad179 j = ad j := fun j hj => (hag_179 j (by omega)).trans (hag0 j hj)
  have hf0 : ∀ j, j < 45 → F179 j = F j := fun j hj => (hfr_179 j (by omega)).trans (hf0 j hj)
  have hQ_189 := hA_188.eq (b := fun k => if k < 7 then some (ad179 (47 + 22 * k)) else none) (fun k hk => by by_cases q : k < 7; rw [if_pos q, if_pos q, hag_179 _ (by omega)]; rw [if_neg q, if_neg q])
  refine w_aast X M h 46 hQ_189 (by omega) 7 (by omega) (by omega) hp_179.1.2.1 (by omega) dX0_init_46 (fun F190 H locs h he_F190 hf_F190 => ?_)
  have hO_191 := (hf_F190 45 (by omega)).trans hO_180
  have hP_192 : oSt g 223 ad179 F190 47 stX0 := hP_181.gr (Nat.le_refl _) (fun _ _ => rfl) (fun q g1 g2 => hf_F190 q (by omega))
  have hP_193 : oSt g 223 ad179 F190 69 stX0 := hP_182.gr (Nat.le_refl _) (fun _ _ => rfl) (fun q g1 g2 => hf_F190 q (by omega))
  have hP_194 : oSt g 223 ad179 F190 91 stX0 := hP_183.gr (Nat.le_refl _) (fun _ _ => rfl) (fun q g1 g2 => hf_F190 q (by omega))
  have hP_195 : oSt g 223 ad179 F190 113 stX0 := hP_184.gr (Nat.le_refl _) (fun _ _ => rfl) (fun q g1 g2 => hf_F190 q (by omega))
  have hP_196 : oSt g 223 ad179 F190 135 stX0 := hP_185.gr (Nat.le_refl _) (fun _ _ => rfl) (fun q g1 g2 => hf_F190 q (by omega))
  have hP_197 : oSt g 223 ad179 F190 157 stX0 := hP_186.gr (Nat.le_refl _) (fun _ _ => rfl) (fun q g1 g2 => hf_F190 q (by omega))
  have hP_198 : oSt g 223 ad179 F190 179 stX0 := hP_187.gr (Nat.le_refl _) (fun _ _ => rfl) (fun q g1 g2 => hf_F190 q (by omega))
  have hP_199 : oSt g 223 ad179 F190 201 stX0 := hp_179.1.gr (Nat.le_refl _) (fun _ _ => rfl) (fun q g1 g2 => hf_F190 q (by omega))
  have hf0 : ∀ j, j < 45 → F190 j = F j := fun j hj => (hf_F190 j (by omega)).trans (hf0 j hj)
  have hQ_200 := he_F190.eq (b := fun k => if k < 8 then some (ad179 (47 + 22 * k)) else none) (fun k hk => by simp only [va_up]; by_cases e : k = 7; subst e; rw [if_pos rfl, if_pos (by omega)]; rw [if_neg e]; by_cases q : k < 7; rw [if_pos q, if_pos (by omega)]; rw [if_neg q, if_neg (by omega)])
  refine lv_iinc (v := nI 8) (lv' := [(1, .int (nI 8)), (0, .ref (ad179 45))]) kx kb dX0_init_47 hl (k := 0) rfl (nI_add _ _) (by decide) rfl (fun ls hl => ?_)
  refine lv_goto (tgt := 25) kx kb dX0_init_50 (by decide) ?_
  refine lv_iload_n kx kb dX0_init_25 rfl (lv_at hl 0 rfl) ?_
  refine lv_aload_n kx kb dX0_init_26 rfl (lv_at hl 1 rfl) ?_
  refine w_get X M h 45 hO_191 (by omega) fl_X0_11 rfl dX0_init_27 ?_
  refine w_alenq X M h 46 hQ_200 (by omega) dX0_init_30 ?_
  refine w_cmp_ge (tgt := 53) kx kb (by omega) (by omega) dX0_init_31 (by decide) (fun c_201 => (show False by omega).elim) (fun c_201 => ?_)
  refine lv_aload_n kx kb dX0_init_34 rfl (lv_at hl 1 rfl) ?_
  refine w_get X M h 45 hO_191 (by omega) fl_X0_11 rfl dX0_init_35 ?_
  refine lv_iload_n kx kb dX0_init_38 rfl (lv_at hl 0 rfl) ?_
  refine w_new X (show 223 + 1 = 224 by omega) M h nw_X0_9 ⟨(by decide), (by decide)⟩ dX0_init_39 (fun ad202 F202 H M h hag_202 hn_202 hfr_202 => ?_)
  have hO_203 : F202 45 = .inr (0, [.ref (ad202 46), .int (nI 0), .int (nI 0)]) := by rw [hfr_202 45 (by omega), hO_191, hag_202 46 (by omega)]
  have hP_204 : oSt g 224 ad202 F202 47 stX0 := hP_192.gr (by omega) hag_202 (fun q g1 g2 => hfr_202 q (by omega))
  have hP_205 : oSt g 224 ad202 F202 69 stX0 := hP_193.gr (by omega) hag_202 (fun q g1 g2 => hfr_202 q (by omega))
  have hP_206 : oSt g 224 ad202 F202 91 stX0 := hP_194.gr (by omega) hag_202 (fun q g1 g2 => hfr_202 q (by omega))
  have hP_207 : oSt g 224 ad202 F202 113 stX0 := hP_195.gr (by omega) hag_202 (fun q g1 g2 => hfr_202 q (by omega))
  have hP_208 : oSt g 224 ad202 F202 135 stX0 := hP_196.gr (by omega) hag_202 (fun q g1 g2 => hfr_202 q (by omega))
  have hP_209 : oSt g 224 ad202 F202 157 stX0 := hP_197.gr (by omega) hag_202 (fun q g1 g2 => hfr_202 q (by omega))
  have hP_210 : oSt g 224 ad202 F202 179 stX0 := hP_198.gr (by omega) hag_202 (fun q g1 g2 => hfr_202 q (by omega))
  have hP_211 : oSt g 224 ad202 F202 201 stX0 := hP_199.gr (by omega) hag_202 (fun q g1 g2 => hfr_202 q (by omega))
  have hA_212 := hQ_200.fr (hfr_202 46 (by omega))
  rw [← hag_202 45 (by omega)] at hl
  rw [← hag_202 46 (by omega)]
  have hag0 : ∀ j, j < 46 → ad202 j = ad j := fun j hj => (hag_202 j (by omega)).trans (hag0 j hj)
  have hf0 : ∀ j, j < 45 → F202 j = F j := fun j hj => (hfr_202 j (by omega)).trans (hf0 j hj)
  have hQ_213 := hA_212.eq (b := fun k => if k < 8 then some (ad202 (47 + 22 * k)) else none) (fun k hk => by by_cases q : k < 8; rw [if_pos q, if_pos q, hag_202 _ (by omega)]; rw [if_neg q, if_neg q])
  refine lv_dup kx kb dX0_init_42 rfl ?_
  refine w_callI X (show 224 + 21 = 245 by omega) M h hAO [] [.ref (ad202 223), .int (nI 8), .ref (ad202 46)] (c_X4_init l g 223 hn_202) li_X0_24 rfl ⟨by decide, by decide⟩ hl ⟨(by decide), (by decide)⟩ (Nat.le_of_ble_eq_true rfl) rfl dX0_init_43 (fun ad214 F214 H locs hp_214 M h hag_214 => ?_)
  have hfr_214 := hp_214.2
  have hO_215 : F214 45 = .inr (0, [.ref (ad214 46), .int (nI 0), .int (nI 0)]) := by rw [hfr_214 45 (by omega), hO_203, hag_214 46 (by omega)]
  have hP_216 : oSt g 245 ad214 F214 47 stX0 := hP_204.gr (by omega) hag_214 (fun q g1 g2 => hfr_214 q (by omega))
  have hP_217 : oSt g 245 ad214 F214 69 stX0 := hP_205.gr (by omega) hag_214 (fun q g1 g2 => hfr_214 q (by omega))
  have hP_218 : oSt g 245 ad214 F214 91 stX0 := hP_206.gr (by omega) hag_214 (fun q g1 g2 => hfr_214 q (by omega))
  have hP_219 : oSt g 245 ad214 F214 113 stX0 := hP_207.gr (by omega) hag_214 (fun q g1 g2 => hfr_214 q (by omega))
  have hP_220 : oSt g 245 ad214 F214 135 stX0 := hP_208.gr (by omega) hag_214 (fun q g1 g2 => hfr_214 q (by omega))
  have hP_221 : oSt g 245 ad214 F214 157 stX0 := hP_209.gr (by omega) hag_214 (fun q g1 g2 => hfr_214 q (by omega))
  have hP_222 : oSt g 245 ad214 F214 179 stX0 := hP_210.gr (by omega) hag_214 (fun q g1 g2 => hfr_214 q (by omega))
  have hP_223 : oSt g 245 ad214 F214 201 stX0 := hP_211.gr (by omega) hag_214 (fun q g1 g2 => hfr_214 q (by omega))
  have hA_224 := hQ_213.fr (hfr_214 46 (by omega))
  rw [← hag_214 45 (by omega)] at hl
  rw [← hag_214 223 (by omega)]
  rw [← hag_214 46 (by omega)]
  have hag0 : ∀ j, j < 46 → ad214 j = ad j := fun j hj => (hag_214 j (by omega)).trans (hag0 j hj)
  have hf0 : ∀ j, j < 45 → F214 j = F j := fun j hj => (hfr_214 j (by omega)).trans (hf0 j hj)
  have hQ_225 := hA_224.eq (b := fun k => if k < 8 then some (ad214 (47 + 22 * k)) else none) (fun k hk => by by_cases q : k < 8; rw [if_pos q, if_pos q, hag_214 _ (by omega)]; rw [if_neg q, if_neg q])
  refine w_aast X M h 46 hQ_225 (by omega) 8 (by omega) (by omega) hp_214.1.2.1 (by omega) dX0_init_46 (fun F226 H locs h he_F226 hf_F226 => ?_)
  have hO_227 := (hf_F226 45 (by omega)).trans hO_215
  have hP_228 : oSt g 245 ad214 F226 47 stX0 := hP_216.gr (Nat.le_refl _) (fun _ _ => rfl) (fun q g1 g2 => hf_F226 q (by omega))
  have hP_229 : oSt g 245 ad214 F226 69 stX0 := hP_217.gr (Nat.le_refl _) (fun _ _ => rfl) (fun q g1 g2 => hf_F226 q (by omega))
  have hP_230 : oSt g 245 ad214 F226 91 stX0 := hP_218.gr (Nat.le_refl _) (fun _ _ => rfl) (fun q g1 g2 => hf_F226 q (by omega))
  have hP_231 : oSt g 245 ad214 F226 113 stX0 := hP_219.gr (Nat.le_refl _) (fun _ _ => rfl) (fun q g1 g2 => hf_F226 q (by omega))
  have hP_232 : oSt g 245 ad214 F226 135 stX0 := hP_220.gr (Nat.le_refl _) (fun _ _ => rfl) (fun q g1 g2 => hf_F226 q (by omega))
  have hP_233 : oSt g 245 ad214 F226 157 stX0 := hP_221.gr (Nat.le_refl _) (fun _ _ => rfl) (fun q g1 g2 => hf_F226 q (by omega))
  have hP_234 : oSt g 245 ad214 F226 179 stX0 := hP_222.gr (Nat.le_refl _) (fun _ _ => rfl) (fun q g1 g2 => hf_F226 q (by omega))
  have hP_235 : oSt g 245 ad214 F226 201 stX0 := hP_223.gr (Nat.le_refl _) (fun _ _ => rfl) (fun q g1 g2 => hf_F226 q (by omega))
  have hP_236 : oSt g 245 ad214 F226 223 stX0 := hp_214.1.gr (Nat.le_refl _) (fun _ _ => rfl) (fun q g1 g2 => hf_F226 q (by omega))
  have hf0 : ∀ j, j < 45 → F226 j = F j := fun j hj => (hf_F226 j (by omega)).trans (hf0 j hj)
  have hQ_237 := he_F226.eq (b := fun k => if k < 9 then some (ad214 (47 + 22 * k)) else none) (fun k hk => by simp only [va_up]; by_cases e : k = 8; subst e; rw [if_pos rfl, if_pos (by omega)]; rw [if_neg e]; by_cases q : k < 8; rw [if_pos q, if_pos (by omega)]; rw [if_neg q, if_neg (by omega)])
  refine lv_iinc (v := nI 9) (lv' := [(1, .int (nI 9)), (0, .ref (ad214 45))]) kx kb dX0_init_47 hl (k := 0) rfl (nI_add _ _) (by decide) rfl (fun ls hl => ?_)
  refine lv_goto (tgt := 25) kx kb dX0_init_50 (by decide) ?_
  refine lv_iload_n kx kb dX0_init_25 rfl (lv_at hl 0 rfl) ?_
  refine lv_aload_n kx kb dX0_init_26 rfl (lv_at hl 1 rfl) ?_
  refine w_get X M h 45 hO_227 (by omega) fl_X0_11 rfl dX0_init_27 ?_
  refine w_alenq X M h 46 hQ_237 (by omega) dX0_init_30 ?_
  refine w_cmp_ge (tgt := 53) kx kb (by omega) (by omega) dX0_init_31 (by decide) (fun c_238 => ?_) (fun c_238 => (show False by omega).elim)
  have hst : ∀ k, k < 9 → oSt g 245 ad214 F226 (47 + 22 * k) stX0 := by
    intro k hk
    rcases (show k = 0 ∨ k = 1 ∨ k = 2 ∨ k = 3 ∨ k = 4 ∨ k = 5 ∨ k = 6 ∨ k = 7 ∨ k = 8 by omega) with rfl | rfl | rfl | rfl | rfl | rfl | rfl | rfl | rfl
    · exact hP_228
    · exact hP_229
    · exact hP_230
    · exact hP_231
    · exact hP_232
    · exact hP_233
    · exact hP_234
    · exact hP_235
    · exact hP_236
  exact w_nret (post := fun ad1 F1 => (oHi0 g 245 ad1 F1) ∧ ∀ j, j < 45 → F1 j = F j) X M h hA hag0 ⟨⟨by omega, hO_227, hQ_237.eq (fun k hk => if_pos hk), hst⟩, hf0⟩ dX0_init_53
def q0X : Nat → Int32 := fun i => match i with
  | 1 => -1
  | _ => nI 0
def uM0 : Nat → Int32 := fun i => match i with
  | 7 => -1
  | _ => nI 0
def vM0 : Nat → Nat := fun _ => 0
set_option maxRecDepth 40000 in
set_option maxHeartbeats 2000000 in
theorem c_X7_init (l : Launch) (g : gT) {ad : Nat → Nat} {F : Nat → va_E} (hF : F 0 = .inr (7, [.null, .null, .int 0, .null, .null, .null, .null, .int 0, .int 0, .int 0, .int 0, .int 0])) : CtN l yX7_init cX7_init 1 5 103 253 4085 g 1 253 ad F [.ref (ad 0)] (fun ad1 F1 => (oP0 g 254 ad1 F1 q0X ∧ oSt g 254 ad1 F1 1 stX0 ∧ oSt g 254 ad1 F1 23 stX0 ∧ oHi0 g 254 ad1 F1 ∧ oStrip g 254 ad1 F1 245 0 (fun _ => nI 0) ∧ oStrip g 254 ad1 F1 247 0 (fun _ => nI 0) ∧ oRd0 g 254 ad1 F1 249) ∧ ∀ j, j < 0 → F1 j = F j) := by
  refine met_bodyN (by decide) rfl (Nat.le_of_ble_eq_true rfl) ?_
  intro p e s m args below meth c A H ls hA X M h hAO hnm hl
  have kx := X.1.1
  have kb := X.1.2.1
  have hl : lv_has ls 1 [(0, .ref (ad 0))] := hl
  have hag0 : ∀ j, j < 1 → ad j = ad j := fun _ _ => rfl
  refine lv_aload_n kx kb dX7_init_0 rfl (lv_at hl 0 rfl) ?_
  refine w_objI X hl q1_21 q1_22 wo_code ⟨Nat.le_of_ble_eq_true rfl, Nat.le_of_ble_eq_true rfl⟩ (Nat.le_of_ble_eq_true rfl) dX7_init_1 ?_
  refine lv_aload_n kx kb dX7_init_4 rfl (lv_at hl 0 rfl) ?_
  refine w_new X (show 1 + 1 = 2 by omega) M h nw_X7_9 ⟨(by decide), (by decide)⟩ dX7_init_5 (fun ad1 F1 H M h hag_1 hn_1 hfr_1 => ?_)
  have hO_2 : F1 0 = .inr (7, [.null, .null, .int 0, .null, .null, .null, .null, .int 0, .int 0, .int 0, .int 0, .int 0]) := by rw [hfr_1 0 (by omega), hF]
  rw [← hag_1 0 (by omega)] at hl
  rw [← hag_1 0 (by omega)]
  have hag0 : ∀ j, j < 1 → ad1 j = ad j := fun j hj => (hag_1 j (by omega)).trans (hag0 j hj)
  have hf0 : ∀ j, j < 0 → F1 j = F j := fun j hj => hfr_1 j (by omega)
  refine lv_dup kx kb dX7_init_8 rfl ?_
  refine w_callI X (show 2 + 21 = 23 by omega) M h hAO [] [.ref (ad1 1), .ref (ad1 0)] (c_X4_init l g 1 hn_1) li_X7_11 rfl ⟨by decide, by decide⟩ hl ⟨(by decide), (by decide)⟩ (Nat.le_of_ble_eq_true rfl) rfl dX7_init_9 (fun ad3 F3 H locs hp_3 M h hag_3 => ?_)
  have hfr_3 := hp_3.2
  have hO_4 : F3 0 = .inr (7, [.null, .null, .int 0, .null, .null, .null, .null, .int 0, .int 0, .int 0, .int 0, .int 0]) := by rw [hfr_3 0 (by omega), hO_2]
  rw [← hag_3 0 (by omega)] at hl
  rw [← hag_3 1 (by omega)]
  rw [← hag_3 0 (by omega)]
  have hag0 : ∀ j, j < 1 → ad3 j = ad j := fun j hj => (hag_3 j (by omega)).trans (hag0 j hj)
  have hf0 : ∀ j, j < 0 → F3 j = F j := fun j hj => (hfr_3 j (by omega)).trans (hf0 j hj)
  refine w_putF X M h hnm 0 hO_4 (by omega) fF_X7_12 rfl rfl (Nat.le_of_ble_eq_true rfl) dX7_init_12 (fun F5 H locs h he_F5 hf_F5 => ?_)
  have hP_6 : oSt g 23 ad3 F5 1 stX0 := hp_3.1.gr (Nat.le_refl _) (fun _ _ => rfl) (fun q g1 g2 => hf_F5 q (by omega))
  have hf0 : ∀ j, j < 0 → F5 j = F j := fun j hj => (hf_F5 j (by omega)).trans (hf0 j hj)
  have hO_7 : F5 0 = .inr (7, [.ref (ad3 1), .null, .int 0, .null, .null, .null, .null, .int 0, .int 0, .int 0, .int 0, .int 0]) := he_F5
  refine lv_aload_n kx kb dX7_init_15 rfl (lv_at hl 0 rfl) ?_
  refine w_new X (show 23 + 1 = 24 by omega) M h nw_X7_9 ⟨(by decide), (by decide)⟩ dX7_init_16 (fun ad8 F8 H M h hag_8 hn_8 hfr_8 => ?_)
  have hP_9 : oSt g 24 ad8 F8 1 stX0 := hP_6.gr (by omega) hag_8 (fun q g1 g2 => hfr_8 q (by omega))
  have hO_10 : F8 0 = .inr (7, [.ref (ad8 1), .null, .int 0, .null, .null, .null, .null, .int 0, .int 0, .int 0, .int 0, .int 0]) := by rw [hfr_8 0 (by omega), hO_7, hag_8 1 (by omega)]
  rw [← hag_8 0 (by omega)] at hl
  rw [← hag_8 0 (by omega)]
  have hag0 : ∀ j, j < 1 → ad8 j = ad j := fun j hj => (hag_8 j (by omega)).trans (hag0 j hj)
  have hf0 : ∀ j, j < 0 → F8 j = F j := fun j hj => (hfr_8 j (by omega)).trans (hf0 j hj)
  refine lv_dup kx kb dX7_init_19 rfl ?_
  refine w_callI X (show 24 + 21 = 45 by omega) M h hAO [] [.ref (ad8 23), .ref (ad8 0)] (c_X4_init l g 23 hn_8) li_X7_11 rfl ⟨by decide, by decide⟩ hl ⟨(by decide), (by decide)⟩ (Nat.le_of_ble_eq_true rfl) rfl dX7_init_20 (fun ad11 F11 H locs hp_11 M h hag_11 => ?_)
  have hfr_11 := hp_11.2
  have hP_12 : oSt g 45 ad11 F11 1 stX0 := hP_9.gr (by omega) hag_11 (fun q g1 g2 => hfr_11 q (by omega))
  have hO_13 : F11 0 = .inr (7, [.ref (ad11 1), .null, .int 0, .null, .null, .null, .null, .int 0, .int 0, .int 0, .int 0, .int 0]) := by rw [hfr_11 0 (by omega), hO_10, hag_11 1 (by omega)]
  rw [← hag_11 0 (by omega)] at hl
  rw [← hag_11 23 (by omega)]
  rw [← hag_11 0 (by omega)]
  have hag0 : ∀ j, j < 1 → ad11 j = ad j := fun j hj => (hag_11 j (by omega)).trans (hag0 j hj)
  have hf0 : ∀ j, j < 0 → F11 j = F j := fun j hj => (hfr_11 j (by omega)).trans (hf0 j hj)
  refine w_putF X M h hnm 0 hO_13 (by omega) fF_X7_16 rfl rfl (Nat.le_of_ble_eq_true rfl) dX7_init_23 (fun F14 H locs h he_F14 hf_F14 => ?_)
  have hP_15 : oSt g 45 ad11 F14 1 stX0 := hP_12.gr (Nat.le_refl _) (fun _ _ => rfl) (fun q g1 g2 => hf_F14 q (by omega))
  have hP_16 : oSt g 45 ad11 F14 23 stX0 := hp_11.1.gr (Nat.le_refl _) (fun _ _ => rfl) (fun q g1 g2 => hf_F14 q (by omega))
  have hf0 : ∀ j, j < 0 → F14 j = F j := fun j hj => (hf_F14 j (by omega)).trans (hf0 j hj)
  have hO_17 : F14 0 = .inr (7, [.ref (ad11 1), .ref (ad11 23), .int 0, .null, .null, .null, .null, .int 0, .int 0, .int 0, .int 0, .int 0]) := he_F14
  refine lv_aload_n kx kb dX7_init_26 rfl (lv_at hl 0 rfl) ?_
  refine lv_iconst (v := nI 0) kx kb dX7_init_27 (by decide) ?_
  refine w_put X M h 0 hO_17 (by omega) fp_X7_19 (rfl) (by rfl) (Nat.le_of_ble_eq_true rfl) dX7_init_28 (fun F18 H locs h he_F18 hf_F18 => ?_)
  have hP_19 : oSt g 45 ad11 F18 1 stX0 := hP_15.gr (Nat.le_refl _) (fun _ _ => rfl) (fun q g1 g2 => hf_F18 q (by omega))
  have hP_20 : oSt g 45 ad11 F18 23 stX0 := hP_16.gr (Nat.le_refl _) (fun _ _ => rfl) (fun q g1 g2 => hf_F18 q (by omega))
  have hf0 : ∀ j, j < 0 → F18 j = F j := fun j hj => (hf_F18 j (by omega)).trans (hf0 j hj)
  have hO_21 : F18 0 = .inr (7, [.ref (ad11 1), .ref (ad11 23), .int (nI 0), .null, .null, .null, .null, .int 0, .int 0, .int 0, .int 0, .int 0]) := he_F18
  refine lv_aload_n kx kb dX7_init_31 rfl (lv_at hl 0 rfl) ?_
  refine w_new X (show 45 + 1 = 46 by omega) M h nw_X7_23 ⟨(by decide), (by decide)⟩ dX7_init_32 (fun ad22 F22 H M h hag_22 hn_22 hfr_22 => ?_)
  have hP_23 : oSt g 46 ad22 F22 1 stX0 := hP_19.gr (by omega) hag_22 (fun q g1 g2 => hfr_22 q (by omega))
  have hP_24 : oSt g 46 ad22 F22 23 stX0 := hP_20.gr (by omega) hag_22 (fun q g1 g2 => hfr_22 q (by omega))
  have hO_25 : F22 0 = .inr (7, [.ref (ad22 1), .ref (ad22 23), .int (nI 0), .null, .null, .null, .null, .int 0, .int 0, .int 0, .int 0, .int 0]) := by rw [hfr_22 0 (by omega), hO_21, hag_22 1 (by omega), hag_22 23 (by omega)]
  rw [← hag_22 0 (by omega)] at hl
  rw [← hag_22 0 (by omega)]
  have hag0 : ∀ j, j < 1 → ad22 j = ad j := fun j hj => (hag_22 j (by omega)).trans (hag0 j hj)
  have hf0 : ∀ j, j < 0 → F22 j = F j := fun j hj => (hfr_22 j (by omega)).trans (hf0 j hj)
  refine lv_dup kx kb dX7_init_35 rfl ?_
  refine w_callI X (show 46 + 199 = 245 by omega) M h hAO [] [.ref (ad22 45), .ref (ad22 0)] (c_X0_init l g hn_22) li_X7_25 rfl ⟨by decide, by decide⟩ hl ⟨(by decide), (by decide)⟩ (Nat.le_of_ble_eq_true rfl) rfl dX7_init_36 (fun ad26 F26 H locs hp_26 M h hag_26 => ?_)
  have hfr_26 := hp_26.2
  have hP_27 : oSt g 245 ad26 F26 1 stX0 := hP_23.gr (by omega) hag_26 (fun q g1 g2 => hfr_26 q (by omega))
  have hP_28 : oSt g 245 ad26 F26 23 stX0 := hP_24.gr (by omega) hag_26 (fun q g1 g2 => hfr_26 q (by omega))
  have hO_29 : F26 0 = .inr (7, [.ref (ad26 1), .ref (ad26 23), .int (nI 0), .null, .null, .null, .null, .int 0, .int 0, .int 0, .int 0, .int 0]) := by rw [hfr_26 0 (by omega), hO_25, hag_26 1 (by omega), hag_26 23 (by omega)]
  rw [← hag_26 0 (by omega)] at hl
  rw [← hag_26 45 (by omega)]
  rw [← hag_26 0 (by omega)]
  have hag0 : ∀ j, j < 1 → ad26 j = ad j := fun j hj => (hag_26 j (by omega)).trans (hag0 j hj)
  have hf0 : ∀ j, j < 0 → F26 j = F j := fun j hj => (hfr_26 j (by omega)).trans (hf0 j hj)
  refine w_putF X M h hnm 0 hO_29 (by omega) fF_X7_26 rfl rfl (Nat.le_of_ble_eq_true rfl) dX7_init_39 (fun F30 H locs h he_F30 hf_F30 => ?_)
  have hP_31 : oSt g 245 ad26 F30 1 stX0 := hP_27.gr (Nat.le_refl _) (fun _ _ => rfl) (fun q g1 g2 => hf_F30 q (by omega))
  have hP_32 : oSt g 245 ad26 F30 23 stX0 := hP_28.gr (Nat.le_refl _) (fun _ _ => rfl) (fun q g1 g2 => hf_F30 q (by omega))
  have hP_33 : oHi0 g 245 ad26 F30 := hp_26.1.gr (Nat.le_refl _) (fun _ _ => rfl) (fun q g1 g2 => hf_F30 q (by omega))
  have hf0 : ∀ j, j < 0 → F30 j = F j := fun j hj => (hf_F30 j (by omega)).trans (hf0 j hj)
  have hO_34 : F30 0 = .inr (7, [.ref (ad26 1), .ref (ad26 23), .int (nI 0), .ref (ad26 45), .null, .null, .null, .int 0, .int 0, .int 0, .int 0, .int 0]) := he_F30
  refine lv_aload_n kx kb dX7_init_42 rfl (lv_at hl 0 rfl) ?_
  refine w_new X (show 245 + 1 = 246 by omega) M h nw_X7_30 ⟨(by decide), (by decide)⟩ dX7_init_43 (fun ad35 F35 H M h hag_35 hn_35 hfr_35 => ?_)
  have hP_36 : oSt g 246 ad35 F35 1 stX0 := hP_31.gr (by omega) hag_35 (fun q g1 g2 => hfr_35 q (by omega))
  have hP_37 : oSt g 246 ad35 F35 23 stX0 := hP_32.gr (by omega) hag_35 (fun q g1 g2 => hfr_35 q (by omega))
  have hP_38 : oHi0 g 246 ad35 F35 := hP_33.gr (by omega) hag_35 (fun q g1 g2 => hfr_35 q (by omega))
  have hO_39 : F35 0 = .inr (7, [.ref (ad35 1), .ref (ad35 23), .int (nI 0), .ref (ad35 45), .null, .null, .null, .int 0, .int 0, .int 0, .int 0, .int 0]) := by rw [hfr_35 0 (by omega), hO_34, hag_35 1 (by omega), hag_35 23 (by omega), hag_35 45 (by omega)]
  rw [← hag_35 0 (by omega)] at hl
  rw [← hag_35 0 (by omega)]
  have hag0 : ∀ j, j < 1 → ad35 j = ad j := fun j hj => (hag_35 j (by omega)).trans (hag0 j hj)
  have hf0 : ∀ j, j < 0 → F35 j = F j := fun j hj => (hfr_35 j (by omega)).trans (hf0 j hj)
  refine lv_dup kx kb dX7_init_46 rfl ?_
  refine w_callI X (show 246 + 1 = 247 by omega) M h hAO [] [.ref (ad35 245), .ref (ad35 0)] (c_X5_init l g 245 hn_35) li_X7_32 rfl ⟨by decide, by decide⟩ hl ⟨(by decide), (by decide)⟩ (Nat.le_of_ble_eq_true rfl) rfl dX7_init_47 (fun ad40 F40 H locs hp_40 M h hag_40 => ?_)
  have hfr_40 := hp_40.2
  have hP_41 : oSt g 247 ad40 F40 1 stX0 := hP_36.gr (by omega) hag_40 (fun q g1 g2 => hfr_40 q (by omega))
  have hP_42 : oSt g 247 ad40 F40 23 stX0 := hP_37.gr (by omega) hag_40 (fun q g1 g2 => hfr_40 q (by omega))
  have hP_43 : oHi0 g 247 ad40 F40 := hP_38.gr (by omega) hag_40 (fun q g1 g2 => hfr_40 q (by omega))
  have hO_44 : F40 0 = .inr (7, [.ref (ad40 1), .ref (ad40 23), .int (nI 0), .ref (ad40 45), .null, .null, .null, .int 0, .int 0, .int 0, .int 0, .int 0]) := by rw [hfr_40 0 (by omega), hO_39, hag_40 1 (by omega), hag_40 23 (by omega), hag_40 45 (by omega)]
  rw [← hag_40 0 (by omega)] at hl
  rw [← hag_40 245 (by omega)]
  rw [← hag_40 0 (by omega)]
  have hag0 : ∀ j, j < 1 → ad40 j = ad j := fun j hj => (hag_40 j (by omega)).trans (hag0 j hj)
  have hf0 : ∀ j, j < 0 → F40 j = F j := fun j hj => (hfr_40 j (by omega)).trans (hf0 j hj)
  refine w_putF X M h hnm 0 hO_44 (by omega) fF_X7_33 rfl rfl (Nat.le_of_ble_eq_true rfl) dX7_init_50 (fun F45 H locs h he_F45 hf_F45 => ?_)
  have hP_46 : oSt g 247 ad40 F45 1 stX0 := hP_41.gr (Nat.le_refl _) (fun _ _ => rfl) (fun q g1 g2 => hf_F45 q (by omega))
  have hP_47 : oSt g 247 ad40 F45 23 stX0 := hP_42.gr (Nat.le_refl _) (fun _ _ => rfl) (fun q g1 g2 => hf_F45 q (by omega))
  have hP_48 : oHi0 g 247 ad40 F45 := hP_43.gr (Nat.le_refl _) (fun _ _ => rfl) (fun q g1 g2 => hf_F45 q (by omega))
  have hP_49 : oStrip g 247 ad40 F45 245 0 (fun _ => nI 0) := hp_40.1.gr (Nat.le_refl _) (fun _ _ => rfl) (fun q g1 g2 => hf_F45 q (by omega))
  have hf0 : ∀ j, j < 0 → F45 j = F j := fun j hj => (hf_F45 j (by omega)).trans (hf0 j hj)
  have hO_50 : F45 0 = .inr (7, [.ref (ad40 1), .ref (ad40 23), .int (nI 0), .ref (ad40 45), .ref (ad40 245), .null, .null, .int 0, .int 0, .int 0, .int 0, .int 0]) := he_F45
  refine lv_aload_n kx kb dX7_init_53 rfl (lv_at hl 0 rfl) ?_
  refine w_new X (show 247 + 1 = 248 by omega) M h nw_X7_30 ⟨(by decide), (by decide)⟩ dX7_init_54 (fun ad51 F51 H M h hag_51 hn_51 hfr_51 => ?_)
  have hP_52 : oSt g 248 ad51 F51 1 stX0 := hP_46.gr (by omega) hag_51 (fun q g1 g2 => hfr_51 q (by omega))
  have hP_53 : oSt g 248 ad51 F51 23 stX0 := hP_47.gr (by omega) hag_51 (fun q g1 g2 => hfr_51 q (by omega))
  have hP_54 : oHi0 g 248 ad51 F51 := hP_48.gr (by omega) hag_51 (fun q g1 g2 => hfr_51 q (by omega))
  have hP_55 : oStrip g 248 ad51 F51 245 0 (fun _ => nI 0) := hP_49.gr (by omega) hag_51 (fun q g1 g2 => hfr_51 q (by omega))
  have hO_56 : F51 0 = .inr (7, [.ref (ad51 1), .ref (ad51 23), .int (nI 0), .ref (ad51 45), .ref (ad51 245), .null, .null, .int 0, .int 0, .int 0, .int 0, .int 0]) := by rw [hfr_51 0 (by omega), hO_50, hag_51 1 (by omega), hag_51 23 (by omega), hag_51 45 (by omega), hag_51 245 (by omega)]
  rw [← hag_51 0 (by omega)] at hl
  rw [← hag_51 0 (by omega)]
  have hag0 : ∀ j, j < 1 → ad51 j = ad j := fun j hj => (hag_51 j (by omega)).trans (hag0 j hj)
  have hf0 : ∀ j, j < 0 → F51 j = F j := fun j hj => (hfr_51 j (by omega)).trans (hf0 j hj)
  refine lv_dup kx kb dX7_init_57 rfl ?_
  refine w_callI X (show 248 + 1 = 249 by omega) M h hAO [] [.ref (ad51 247), .ref (ad51 0)] (c_X5_init l g 247 hn_51) li_X7_32 rfl ⟨by decide, by decide⟩ hl ⟨(by decide), (by decide)⟩ (Nat.le_of_ble_eq_true rfl) rfl dX7_init_58 (fun ad57 F57 H locs hp_57 M h hag_57 => ?_)
  have hfr_57 := hp_57.2
  have hP_58 : oSt g 249 ad57 F57 1 stX0 := hP_52.gr (by omega) hag_57 (fun q g1 g2 => hfr_57 q (by omega))
  have hP_59 : oSt g 249 ad57 F57 23 stX0 := hP_53.gr (by omega) hag_57 (fun q g1 g2 => hfr_57 q (by omega))
  have hP_60 : oHi0 g 249 ad57 F57 := hP_54.gr (by omega) hag_57 (fun q g1 g2 => hfr_57 q (by omega))
  have hP_61 : oStrip g 249 ad57 F57 245 0 (fun _ => nI 0) := hP_55.gr (by omega) hag_57 (fun q g1 g2 => hfr_57 q (by omega))
  have hO_62 : F57 0 = .inr (7, [.ref (ad57 1), .ref (ad57 23), .int (nI 0), .ref (ad57 45), .ref (ad57 245), .null, .null, .int 0, .int 0, .int 0, .int 0, .int 0]) := by rw [hfr_57 0 (by omega), hO_56, hag_57 1 (by omega), hag_57 23 (by omega), hag_57 45 (by omega), hag_57 245 (by omega)]
  rw [← hag_57 0 (by omega)] at hl
  rw [← hag_57 247 (by omega)]
  rw [← hag_57 0 (by omega)]
  have hag0 : ∀ j, j < 1 → ad57 j = ad j := fun j hj => (hag_57 j (by omega)).trans (hag0 j hj)
  have hf0 : ∀ j, j < 0 → F57 j = F j := fun j hj => (hfr_57 j (by omega)).trans (hf0 j hj)
  refine w_putF X M h hnm 0 hO_62 (by omega) fF_X7_37 rfl rfl (Nat.le_of_ble_eq_true rfl) dX7_init_61 (fun F63 H locs h he_F63 hf_F63 => ?_)
  have hP_64 : oSt g 249 ad57 F63 1 stX0 := hP_58.gr (Nat.le_refl _) (fun _ _ => rfl) (fun q g1 g2 => hf_F63 q (by omega))
  have hP_65 : oSt g 249 ad57 F63 23 stX0 := hP_59.gr (Nat.le_refl _) (fun _ _ => rfl) (fun q g1 g2 => hf_F63 q (by omega))
  have hP_66 : oHi0 g 249 ad57 F63 := hP_60.gr (Nat.le_refl _) (fun _ _ => rfl) (fun q g1 g2 => hf_F63 q (by omega))
  have hP_67 : oStrip g 249 ad57 F63 245 0 (fun _ => nI 0) := hP_61.gr (Nat.le_refl _) (fun _ _ => rfl) (fun q g1 g2 => hf_F63 q (by omega))
  have hP_68 : oStrip g 249 ad57 F63 247 0 (fun _ => nI 0) := hp_57.1.gr (Nat.le_refl _) (fun _ _ => rfl) (fun q g1 g2 => hf_F63 q (by omega))
  have hf0 : ∀ j, j < 0 → F63 j = F j := fun j hj => (hf_F63 j (by omega)).trans (hf0 j hj)
  have hO_69 : F63 0 = .inr (7, [.ref (ad57 1), .ref (ad57 23), .int (nI 0), .ref (ad57 45), .ref (ad57 245), .ref (ad57 247), .null, .int 0, .int 0, .int 0, .int 0, .int 0]) := he_F63
  refine lv_aload_n kx kb dX7_init_64 rfl (lv_at hl 0 rfl) ?_
  refine w_new X (show 249 + 1 = 250 by omega) M h nw_X7_40 ⟨(by decide), (by decide)⟩ dX7_init_65 (fun ad70 F70 H M h hag_70 hn_70 hfr_70 => ?_)
  have hP_71 : oSt g 250 ad70 F70 1 stX0 := hP_64.gr (by omega) hag_70 (fun q g1 g2 => hfr_70 q (by omega))
  have hP_72 : oSt g 250 ad70 F70 23 stX0 := hP_65.gr (by omega) hag_70 (fun q g1 g2 => hfr_70 q (by omega))
  have hP_73 : oHi0 g 250 ad70 F70 := hP_66.gr (by omega) hag_70 (fun q g1 g2 => hfr_70 q (by omega))
  have hP_74 : oStrip g 250 ad70 F70 245 0 (fun _ => nI 0) := hP_67.gr (by omega) hag_70 (fun q g1 g2 => hfr_70 q (by omega))
  have hP_75 : oStrip g 250 ad70 F70 247 0 (fun _ => nI 0) := hP_68.gr (by omega) hag_70 (fun q g1 g2 => hfr_70 q (by omega))
  have hO_76 : F70 0 = .inr (7, [.ref (ad70 1), .ref (ad70 23), .int (nI 0), .ref (ad70 45), .ref (ad70 245), .ref (ad70 247), .null, .int 0, .int 0, .int 0, .int 0, .int 0]) := by rw [hfr_70 0 (by omega), hO_69, hag_70 1 (by omega), hag_70 23 (by omega), hag_70 45 (by omega), hag_70 245 (by omega), hag_70 247 (by omega)]
  rw [← hag_70 0 (by omega)] at hl
  rw [← hag_70 0 (by omega)]
  have hag0 : ∀ j, j < 1 → ad70 j = ad j := fun j hj => (hag_70 j (by omega)).trans (hag0 j hj)
  have hf0 : ∀ j, j < 0 → F70 j = F j := fun j hj => (hfr_70 j (by omega)).trans (hf0 j hj)
  refine lv_dup kx kb dX7_init_68 rfl ?_
  refine w_callI X (show 250 + 4 = 254 by omega) M h hAO [] [.ref (ad70 249), .ref (ad70 0)] (c_X2_init l g 249 hn_70) li_X7_42 rfl ⟨by decide, by decide⟩ hl ⟨(by decide), (by decide)⟩ (Nat.le_of_ble_eq_true rfl) rfl dX7_init_69 (fun ad77 F77 H locs hp_77 M h hag_77 => ?_)
  have hfr_77 := hp_77.2
  have hP_78 : oSt g 254 ad77 F77 1 stX0 := hP_71.gr (by omega) hag_77 (fun q g1 g2 => hfr_77 q (by omega))
  have hP_79 : oSt g 254 ad77 F77 23 stX0 := hP_72.gr (by omega) hag_77 (fun q g1 g2 => hfr_77 q (by omega))
  have hP_80 : oHi0 g 254 ad77 F77 := hP_73.gr (by omega) hag_77 (fun q g1 g2 => hfr_77 q (by omega))
  have hP_81 : oStrip g 254 ad77 F77 245 0 (fun _ => nI 0) := hP_74.gr (by omega) hag_77 (fun q g1 g2 => hfr_77 q (by omega))
  have hP_82 : oStrip g 254 ad77 F77 247 0 (fun _ => nI 0) := hP_75.gr (by omega) hag_77 (fun q g1 g2 => hfr_77 q (by omega))
  have hO_83 : F77 0 = .inr (7, [.ref (ad77 1), .ref (ad77 23), .int (nI 0), .ref (ad77 45), .ref (ad77 245), .ref (ad77 247), .null, .int 0, .int 0, .int 0, .int 0, .int 0]) := by rw [hfr_77 0 (by omega), hO_76, hag_77 1 (by omega), hag_77 23 (by omega), hag_77 45 (by omega), hag_77 245 (by omega), hag_77 247 (by omega)]
  rw [← hag_77 0 (by omega)] at hl
  rw [← hag_77 249 (by omega)]
  rw [← hag_77 0 (by omega)]
  have hag0 : ∀ j, j < 1 → ad77 j = ad j := fun j hj => (hag_77 j (by omega)).trans (hag0 j hj)
  have hf0 : ∀ j, j < 0 → F77 j = F j := fun j hj => (hfr_77 j (by omega)).trans (hf0 j hj)
  refine w_putF X M h hnm 0 hO_83 (by omega) fF_X7_43 rfl rfl (Nat.le_of_ble_eq_true rfl) dX7_init_72 (fun F84 H locs h he_F84 hf_F84 => ?_)
  have hP_85 : oSt g 254 ad77 F84 1 stX0 := hP_78.gr (Nat.le_refl _) (fun _ _ => rfl) (fun q g1 g2 => hf_F84 q (by omega))
  have hP_86 : oSt g 254 ad77 F84 23 stX0 := hP_79.gr (Nat.le_refl _) (fun _ _ => rfl) (fun q g1 g2 => hf_F84 q (by omega))
  have hP_87 : oHi0 g 254 ad77 F84 := hP_80.gr (Nat.le_refl _) (fun _ _ => rfl) (fun q g1 g2 => hf_F84 q (by omega))
  have hP_88 : oStrip g 254 ad77 F84 245 0 (fun _ => nI 0) := hP_81.gr (Nat.le_refl _) (fun _ _ => rfl) (fun q g1 g2 => hf_F84 q (by omega))
  have hP_89 : oStrip g 254 ad77 F84 247 0 (fun _ => nI 0) := hP_82.gr (Nat.le_refl _) (fun _ _ => rfl) (fun q g1 g2 => hf_F84 q (by omega))
  have hP_90 : oRd0 g 254 ad77 F84 249 := hp_77.1.gr (Nat.le_refl _) (fun _ _ => rfl) (fun q g1 g2 => hf_F84 q (by omega))
  have hf0 : ∀ j, j < 0 → F84 j = F j := fun j hj => (hf_F84 j (by omega)).trans (hf0 j hj)
  have hO_91 : F84 0 = .inr (7, [.ref (ad77 1), .ref (ad77 23), .int (nI 0), .ref (ad77 45), .ref (ad77 245), .ref (ad77 247), .ref (ad77 249), .int 0, .int 0, .int 0, .int 0, .int 0]) := he_F84
  refine lv_aload_n kx kb dX7_init_75 rfl (lv_at hl 0 rfl) ?_
  refine lv_iconst (v := (-1)) kx kb dX7_init_76 (by decide) ?_
  refine w_put X M h 0 hO_91 (by omega) fp_X7_47 (rfl) (by rfl) (Nat.le_of_ble_eq_true rfl) dX7_init_77 (fun F92 H locs h he_F92 hf_F92 => ?_)
  have hP_93 : oSt g 254 ad77 F92 1 stX0 := hP_85.gr (Nat.le_refl _) (fun _ _ => rfl) (fun q g1 g2 => hf_F92 q (by omega))
  have hP_94 : oSt g 254 ad77 F92 23 stX0 := hP_86.gr (Nat.le_refl _) (fun _ _ => rfl) (fun q g1 g2 => hf_F92 q (by omega))
  have hP_95 : oHi0 g 254 ad77 F92 := hP_87.gr (Nat.le_refl _) (fun _ _ => rfl) (fun q g1 g2 => hf_F92 q (by omega))
  have hP_96 : oStrip g 254 ad77 F92 245 0 (fun _ => nI 0) := hP_88.gr (Nat.le_refl _) (fun _ _ => rfl) (fun q g1 g2 => hf_F92 q (by omega))
  have hP_97 : oStrip g 254 ad77 F92 247 0 (fun _ => nI 0) := hP_89.gr (Nat.le_refl _) (fun _ _ => rfl) (fun q g1 g2 => hf_F92 q (by omega))
  have hP_98 : oRd0 g 254 ad77 F92 249 := hP_90.gr (Nat.le_refl _) (fun _ _ => rfl) (fun q g1 g2 => hf_F92 q (by omega))
  have hf0 : ∀ j, j < 0 → F92 j = F j := fun j hj => (hf_F92 j (by omega)).trans (hf0 j hj)
  have hO_99 : F92 0 = .inr (7, [.ref (ad77 1), .ref (ad77 23), .int (nI 0), .ref (ad77 45), .ref (ad77 245), .ref (ad77 247), .ref (ad77 249), .int (-1), .int 0, .int 0, .int 0, .int 0]) := he_F92
  refine lv_aload_n kx kb dX7_init_80 rfl (lv_at hl 0 rfl) ?_
  refine lv_iconst (v := nI 0) kx kb dX7_init_81 (by decide) ?_
  refine w_put X M h 0 hO_99 (by omega) fp_X7_51 (rfl) (by rfl) (Nat.le_of_ble_eq_true rfl) dX7_init_82 (fun F100 H locs h he_F100 hf_F100 => ?_)
  have hP_101 : oSt g 254 ad77 F100 1 stX0 := hP_93.gr (Nat.le_refl _) (fun _ _ => rfl) (fun q g1 g2 => hf_F100 q (by omega))
  have hP_102 : oSt g 254 ad77 F100 23 stX0 := hP_94.gr (Nat.le_refl _) (fun _ _ => rfl) (fun q g1 g2 => hf_F100 q (by omega))
  have hP_103 : oHi0 g 254 ad77 F100 := hP_95.gr (Nat.le_refl _) (fun _ _ => rfl) (fun q g1 g2 => hf_F100 q (by omega))
  have hP_104 : oStrip g 254 ad77 F100 245 0 (fun _ => nI 0) := hP_96.gr (Nat.le_refl _) (fun _ _ => rfl) (fun q g1 g2 => hf_F100 q (by omega))
  have hP_105 : oStrip g 254 ad77 F100 247 0 (fun _ => nI 0) := hP_97.gr (Nat.le_refl _) (fun _ _ => rfl) (fun q g1 g2 => hf_F100 q (by omega))
  have hP_106 : oRd0 g 254 ad77 F100 249 := hP_98.gr (Nat.le_refl _) (fun _ _ => rfl) (fun q g1 g2 => hf_F100 q (by omega))
  have hf0 : ∀ j, j < 0 → F100 j = F j := fun j hj => (hf_F100 j (by omega)).trans (hf0 j hj)
  have hO_107 : F100 0 = .inr (7, [.ref (ad77 1), .ref (ad77 23), .int (nI 0), .ref (ad77 45), .ref (ad77 245), .ref (ad77 247), .ref (ad77 249), .int (-1), .int (nI 0), .int 0, .int 0, .int 0]) := he_F100
  refine lv_aload_n kx kb dX7_init_85 rfl (lv_at hl 0 rfl) ?_
  refine lv_iconst (v := nI 0) kx kb dX7_init_86 (by decide) ?_
  refine w_put X M h 0 hO_107 (by omega) fp_X7_54 (rfl) (by rfl) (Nat.le_of_ble_eq_true rfl) dX7_init_87 (fun F108 H locs h he_F108 hf_F108 => ?_)
  have hP_109 : oSt g 254 ad77 F108 1 stX0 := hP_101.gr (Nat.le_refl _) (fun _ _ => rfl) (fun q g1 g2 => hf_F108 q (by omega))
  have hP_110 : oSt g 254 ad77 F108 23 stX0 := hP_102.gr (Nat.le_refl _) (fun _ _ => rfl) (fun q g1 g2 => hf_F108 q (by omega))
  have hP_111 : oHi0 g 254 ad77 F108 := hP_103.gr (Nat.le_refl _) (fun _ _ => rfl) (fun q g1 g2 => hf_F108 q (by omega))
  have hP_112 : oStrip g 254 ad77 F108 245 0 (fun _ => nI 0) := hP_104.gr (Nat.le_refl _) (fun _ _ => rfl) (fun q g1 g2 => hf_F108 q (by omega))
  have hP_113 : oStrip g 254 ad77 F108 247 0 (fun _ => nI 0) := hP_105.gr (Nat.le_refl _) (fun _ _ => rfl) (fun q g1 g2 => hf_F108 q (by omega))
  have hP_114 : oRd0 g 254 ad77 F108 249 := hP_106.gr (Nat.le_refl _) (fun _ _ => rfl) (fun q g1 g2 => hf_F108 q (by omega))
  have hf0 : ∀ j, j < 0 → F108 j = F j := fun j hj => (hf_F108 j (by omega)).trans (hf0 j hj)
  have hO_115 : F108 0 = .inr (7, [.ref (ad77 1), .ref (ad77 23), .int (nI 0), .ref (ad77 45), .ref (ad77 245), .ref (ad77 247), .ref (ad77 249), .int (-1), .int (nI 0), .int (nI 0), .int 0, .int 0]) := he_F108
  refine lv_aload_n kx kb dX7_init_90 rfl (lv_at hl 0 rfl) ?_
  refine lv_iconst (v := nI 0) kx kb dX7_init_91 (by decide) ?_
  refine w_put X M h 0 hO_115 (by omega) fp_X7_57 (rfl) (by rfl) (Nat.le_of_ble_eq_true rfl) dX7_init_92 (fun F116 H locs h he_F116 hf_F116 => ?_)
  have hP_117 : oSt g 254 ad77 F116 1 stX0 := hP_109.gr (Nat.le_refl _) (fun _ _ => rfl) (fun q g1 g2 => hf_F116 q (by omega))
  have hP_118 : oSt g 254 ad77 F116 23 stX0 := hP_110.gr (Nat.le_refl _) (fun _ _ => rfl) (fun q g1 g2 => hf_F116 q (by omega))
  have hP_119 : oHi0 g 254 ad77 F116 := hP_111.gr (Nat.le_refl _) (fun _ _ => rfl) (fun q g1 g2 => hf_F116 q (by omega))
  have hP_120 : oStrip g 254 ad77 F116 245 0 (fun _ => nI 0) := hP_112.gr (Nat.le_refl _) (fun _ _ => rfl) (fun q g1 g2 => hf_F116 q (by omega))
  have hP_121 : oStrip g 254 ad77 F116 247 0 (fun _ => nI 0) := hP_113.gr (Nat.le_refl _) (fun _ _ => rfl) (fun q g1 g2 => hf_F116 q (by omega))
  have hP_122 : oRd0 g 254 ad77 F116 249 := hP_114.gr (Nat.le_refl _) (fun _ _ => rfl) (fun q g1 g2 => hf_F116 q (by omega))
  have hf0 : ∀ j, j < 0 → F116 j = F j := fun j hj => (hf_F116 j (by omega)).trans (hf0 j hj)
  have hO_123 : F116 0 = .inr (7, [.ref (ad77 1), .ref (ad77 23), .int (nI 0), .ref (ad77 45), .ref (ad77 245), .ref (ad77 247), .ref (ad77 249), .int (-1), .int (nI 0), .int (nI 0), .int (nI 0), .int 0]) := he_F116
  refine lv_aload_n kx kb dX7_init_95 rfl (lv_at hl 0 rfl) ?_
  refine lv_iconst (v := nI 0) kx kb dX7_init_96 (by decide) ?_
  refine w_put X M h 0 hO_123 (by omega) fp_X7_60 (rfl) (by rfl) (Nat.le_of_ble_eq_true rfl) dX7_init_97 (fun F124 H locs h he_F124 hf_F124 => ?_)
  have hP_125 : oSt g 254 ad77 F124 1 stX0 := hP_117.gr (Nat.le_refl _) (fun _ _ => rfl) (fun q g1 g2 => hf_F124 q (by omega))
  have hP_126 : oSt g 254 ad77 F124 23 stX0 := hP_118.gr (Nat.le_refl _) (fun _ _ => rfl) (fun q g1 g2 => hf_F124 q (by omega))
  have hP_127 : oHi0 g 254 ad77 F124 := hP_119.gr (Nat.le_refl _) (fun _ _ => rfl) (fun q g1 g2 => hf_F124 q (by omega))
  have hP_128 : oStrip g 254 ad77 F124 245 0 (fun _ => nI 0) := hP_120.gr (Nat.le_refl _) (fun _ _ => rfl) (fun q g1 g2 => hf_F124 q (by omega))
  have hP_129 : oStrip g 254 ad77 F124 247 0 (fun _ => nI 0) := hP_121.gr (Nat.le_refl _) (fun _ _ => rfl) (fun q g1 g2 => hf_F124 q (by omega))
  have hP_130 : oRd0 g 254 ad77 F124 249 := hP_122.gr (Nat.le_refl _) (fun _ _ => rfl) (fun q g1 g2 => hf_F124 q (by omega))
  have hf0 : ∀ j, j < 0 → F124 j = F j := fun j hj => (hf_F124 j (by omega)).trans (hf0 j hj)
  have hO_131 : F124 0 = .inr (7, [.ref (ad77 1), .ref (ad77 23), .int (nI 0), .ref (ad77 45), .ref (ad77 245), .ref (ad77 247), .ref (ad77 249), .int (-1), .int (nI 0), .int (nI 0), .int (nI 0), .int (nI 0)]) := he_F124
  exact w_nret (post := fun ad1 F1 => (oP0 g 254 ad1 F1 q0X ∧ oSt g 254 ad1 F1 1 stX0 ∧ oSt g 254 ad1 F1 23 stX0 ∧ oHi0 g 254 ad1 F1 ∧ oStrip g 254 ad1 F1 245 0 (fun _ => nI 0) ∧ oStrip g 254 ad1 F1 247 0 (fun _ => nI 0) ∧ oRd0 g 254 ad1 F1 249) ∧ ∀ j, j < 0 → F1 j = F j) X M h hA hag0 ⟨⟨⟨by omega, hO_131⟩, hP_125, hP_126, hP_127, hP_128, hP_129, hP_130⟩, hf0⟩ dX7_init_100
theorem rw0 : RW stX0 (upd (upd (upd (upd (upd (upd (fun _ => nI 0) 2 (nI 3)) 5 (nI 9)) 14 (nI 2)) 15 (nI 2)) 16 (nI 2)) 17 (nI 2)) := by
  refine ⟨rfl, fun k hk => ?_, rfl, fun k hk => ?_, rfl, fun s hs => ?_, fun k hk => ?_, fun k hk => ?_, fun k q hk hq => absurd hk (Nat.not_lt_zero k), fun i hi => absurd hi (Nat.not_lt_zero i)⟩
  · rcases (show k = 0 ∨ k = 1 ∨ k = 2 ∨ k = 3 ∨ k = 4 by omega) with rfl | rfl | rfl | rfl | rfl <;> rfl
  · rcases (show k = 0 ∨ k = 1 ∨ k = 2 ∨ k = 3 by omega) with rfl | rfl | rfl | rfl <;> rfl
  · rcases (show s / 32 = 0 ∨ s / 32 = 1 by omega) with h | h <;> rw [h, bit1 _ (Nat.mod_lt _ (by decide))] <;> exact if_neg (by simp [upd, show (nI 0).toBitVec = 0#32 by decide])
  · rcases (show k = 0 ∨ k = 1 ∨ k = 2 ∨ k = 3 by omega) with rfl | rfl | rfl | rfl <;> rfl
  · rcases (show k = 0 ∨ k = 1 ∨ k = 2 ∨ k = 3 by omega) with rfl | rfl | rfl | rfl <;> rfl
