theorem dJ0_length_8abf5_0 : decode cJ0_length_8abf5 0 = .ok (.aload_n 0, 1) := by decide +kernel
theorem dJ0_length_8abf5_1 : decode cJ0_length_8abf5 1 = .ok (.getfield 9, 3) := by decide +kernel
theorem dJ0_length_8abf5_4 : decode cJ0_length_8abf5 4 = .ok (.arraylength, 1) := by decide +kernel
theorem dJ0_length_8abf5_5 : decode cJ0_length_8abf5 5 = .ok (.aload_n 0, 1) := by decide +kernel
theorem dJ0_length_8abf5_6 : decode cJ0_length_8abf5 6 = .ok (.invokevirtual 335, 3) := by decide +kernel
theorem dJ0_length_8abf5_9 : decode cJ0_length_8abf5 9 = .ok (.ishr, 1) := by decide +kernel
theorem dJ0_length_8abf5_10 : decode cJ0_length_8abf5 10 = .ok (.ireturn, 1) := by decide +kernel
theorem dJ0_charAt_5068e_0 : decode cJ0_charAt_5068e 0 = .ok (.aload_n 0, 1) := by decide +kernel
theorem dJ0_charAt_5068e_1 : decode cJ0_charAt_5068e 1 = .ok (.invokevirtual 492, 3) := by decide +kernel
theorem dJ0_charAt_5068e_4 : decode cJ0_charAt_5068e 4 = .ok (.ifCond .eq 12, 3) := by decide +kernel
theorem dJ0_charAt_5068e_7 : decode cJ0_charAt_5068e 7 = .ok (.aload_n 0, 1) := by decide +kernel
theorem dJ0_charAt_5068e_8 : decode cJ0_charAt_5068e 8 = .ok (.getfield 9, 3) := by decide +kernel
theorem dJ0_charAt_5068e_11 : decode cJ0_charAt_5068e 11 = .ok (.iload_n 1, 1) := by decide +kernel
theorem dJ0_charAt_5068e_12 : decode cJ0_charAt_5068e 12 = .ok (.invokestatic 495, 3) := by decide +kernel
theorem dJ0_charAt_5068e_15 : decode cJ0_charAt_5068e 15 = .ok (.ireturn, 1) := by decide +kernel
theorem dJ0_charAt_5068e_16 : decode cJ0_charAt_5068e 16 = .ok (.aload_n 0, 1) := by decide +kernel
theorem dJ0_charAt_5068e_17 : decode cJ0_charAt_5068e 17 = .ok (.getfield 9, 3) := by decide +kernel
theorem dJ0_charAt_5068e_20 : decode cJ0_charAt_5068e 20 = .ok (.iload_n 1, 1) := by decide +kernel
theorem dJ0_charAt_5068e_21 : decode cJ0_charAt_5068e 21 = .ok (.invokestatic 498, 3) := by decide +kernel
theorem dJ0_charAt_5068e_24 : decode cJ0_charAt_5068e 24 = .ok (.ireturn, 1) := by decide +kernel
theorem dJ0_coder_7d493_0 : decode cJ0_coder_7d493 0 = .ok (.getstatic 38, 3) := by decide +kernel
theorem dJ0_coder_7d493_3 : decode cJ0_coder_7d493 3 = .ok (.ifCond .eq 10, 3) := by decide +kernel
theorem dJ0_coder_7d493_6 : decode cJ0_coder_7d493 6 = .ok (.aload_n 0, 1) := by decide +kernel
theorem dJ0_coder_7d493_7 : decode cJ0_coder_7d493 7 = .ok (.getfield 15, 3) := by decide +kernel
theorem dJ0_coder_7d493_10 : decode cJ0_coder_7d493 10 = .ok (.goto 4, 3) := by decide +kernel
theorem dJ0_coder_7d493_13 : decode cJ0_coder_7d493 13 = .ok (.iconst 1, 1) := by decide +kernel
theorem dJ0_coder_7d493_14 : decode cJ0_coder_7d493 14 = .ok (.ireturn, 1) := by decide +kernel
theorem dJ0_isLatin1_aae02_0 : decode cJ0_isLatin1_aae02 0 = .ok (.getstatic 38, 3) := by decide +kernel
theorem dJ0_isLatin1_aae02_3 : decode cJ0_isLatin1_aae02 3 = .ok (.ifCond .eq 14, 3) := by decide +kernel
theorem dJ0_isLatin1_aae02_6 : decode cJ0_isLatin1_aae02 6 = .ok (.aload_n 0, 1) := by decide +kernel
theorem dJ0_isLatin1_aae02_7 : decode cJ0_isLatin1_aae02 7 = .ok (.getfield 15, 3) := by decide +kernel
theorem dJ0_isLatin1_aae02_10 : decode cJ0_isLatin1_aae02 10 = .ok (.ifCond .ne 7, 3) := by decide +kernel
theorem dJ0_isLatin1_aae02_13 : decode cJ0_isLatin1_aae02 13 = .ok (.iconst 1, 1) := by decide +kernel
theorem dJ0_isLatin1_aae02_14 : decode cJ0_isLatin1_aae02 14 = .ok (.goto 4, 3) := by decide +kernel
theorem dJ0_isLatin1_aae02_17 : decode cJ0_isLatin1_aae02 17 = .ok (.iconst 0, 1) := by decide +kernel
theorem dJ0_isLatin1_aae02_18 : decode cJ0_isLatin1_aae02 18 = .ok (.ireturn, 1) := by decide +kernel
theorem dJ0_checkIndex_df160_0 : decode cJ0_checkIndex_df160 0 = .ok (.iload_n 0, 1) := by decide +kernel
theorem dJ0_checkIndex_df160_1 : decode cJ0_checkIndex_df160 1 = .ok (.iload_n 1, 1) := by decide +kernel
theorem dJ0_checkIndex_df160_2 : decode cJ0_checkIndex_df160 2 = .ok (.getstatic 1053, 3) := by decide +kernel
theorem dJ0_checkIndex_df160_5 : decode cJ0_checkIndex_df160 5 = .ok (.invokestatic 1059, 3) := by decide +kernel
theorem dJ0_checkIndex_df160_8 : decode cJ0_checkIndex_df160 8 = .ok (.pop, 1) := by decide +kernel
theorem dJ0_checkIndex_df160_9 : decode cJ0_checkIndex_df160 9 = .ok (.return_, 1) := by decide +kernel
theorem dJ1_charAt_3b067_0 : decode cJ1_charAt_3b067 0 = .ok (.iload_n 1, 1) := by decide +kernel
theorem dJ1_charAt_3b067_1 : decode cJ1_charAt_3b067 1 = .ok (.aload_n 0, 1) := by decide +kernel
theorem dJ1_charAt_3b067_2 : decode cJ1_charAt_3b067 2 = .ok (.arraylength, 1) := by decide +kernel
theorem dJ1_charAt_3b067_3 : decode cJ1_charAt_3b067 3 = .ok (.invokestatic 9, 3) := by decide +kernel
theorem dJ1_charAt_3b067_6 : decode cJ1_charAt_3b067 6 = .ok (.aload_n 0, 1) := by decide +kernel
theorem dJ1_charAt_3b067_7 : decode cJ1_charAt_3b067 7 = .ok (.iload_n 1, 1) := by decide +kernel
theorem dJ1_charAt_3b067_8 : decode cJ1_charAt_3b067 8 = .ok (.baload, 1) := by decide +kernel
theorem dJ1_charAt_3b067_9 : decode cJ1_charAt_3b067 9 = .ok (.sipush 255, 3) := by decide +kernel
theorem dJ1_charAt_3b067_12 : decode cJ1_charAt_3b067 12 = .ok (.iand, 1) := by decide +kernel
theorem dJ1_charAt_3b067_13 : decode cJ1_charAt_3b067 13 = .ok (.i2c, 1) := by decide +kernel
theorem dJ1_charAt_3b067_14 : decode cJ1_charAt_3b067 14 = .ok (.ireturn, 1) := by decide +kernel
theorem dJ3_checkIndex_8e157_0 : decode cJ3_checkIndex_8e157 0 = .ok (.iload_n 0, 1) := by decide +kernel
theorem dJ3_checkIndex_8e157_1 : decode cJ3_checkIndex_8e157 1 = .ok (.ifCond .lt 8, 3) := by decide +kernel
theorem dJ3_checkIndex_8e157_4 : decode cJ3_checkIndex_8e157 4 = .ok (.iload_n 0, 1) := by decide +kernel
theorem dJ3_checkIndex_8e157_5 : decode cJ3_checkIndex_8e157 5 = .ok (.iload_n 1, 1) := by decide +kernel
theorem dJ3_checkIndex_8e157_6 : decode cJ3_checkIndex_8e157 6 = .ok (.if_icmp .lt 10, 3) := by decide +kernel
theorem dJ3_checkIndex_8e157_9 : decode cJ3_checkIndex_8e157 9 = .ok (.aload_n 2, 1) := by decide +kernel
theorem dJ3_checkIndex_8e157_10 : decode cJ3_checkIndex_8e157 10 = .ok (.iload_n 0, 1) := by decide +kernel
theorem dJ3_checkIndex_8e157_11 : decode cJ3_checkIndex_8e157 11 = .ok (.iload_n 1, 1) := by decide +kernel
theorem dJ3_checkIndex_8e157_12 : decode cJ3_checkIndex_8e157 12 = .ok (.invokestatic 95, 3) := by decide +kernel
theorem dJ3_checkIndex_8e157_15 : decode cJ3_checkIndex_8e157 15 = .ok (.athrow, 1) := by decide +kernel
theorem dJ3_checkIndex_8e157_16 : decode cJ3_checkIndex_8e157 16 = .ok (.iload_n 0, 1) := by decide +kernel
theorem dJ3_checkIndex_8e157_17 : decode cJ3_checkIndex_8e157 17 = .ok (.ireturn, 1) := by decide +kernel
theorem lk_J0_335 : LkV RJ0 335 yJ0_coder_7d493 cJ0_coder_7d493 1 (some .byte) 0 := LkV_of q3_33 q3_34 q3_35 q1_12 q3_36 ⟨by decide, by decide, by decide +kernel⟩
theorem lk_J0_492 : LkV RJ0 492 yJ0_isLatin1_aae02 cJ0_isLatin1_aae02 1 (some .boolean) 0 := LkV_of q3_43 q3_44 q3_45 q1_12 q3_46 ⟨by decide, by decide, by decide +kernel⟩
theorem lk_X2_58 : LkV RX2 58 yJ0_length_8abf5 cJ0_length_8abf5 1 (some .int) 0 := LkV_of q3_112 q3_30 q3_31 q1_12 q3_32 ⟨by decide, by decide, by decide +kernel⟩
theorem lk_X2_63 : LkV RX2 63 yJ0_charAt_5068e cJ0_charAt_5068e 2 (some .char) 1 := LkV_of q3_113 q3_40 q3_41 q1_12 q3_42 ⟨by decide, by decide, by decide +kernel⟩
theorem lk_J0_495 : LkS RJ0 495 yJ1_charAt_3b067 cJ1_charAt_3b067 2 (some .char) 2 := LkS_of q3_47 q3_48 q1_13 q3_49 ⟨by decide, by decide, by decide +kernel⟩
theorem lk_J0_1059 : LkS RJ0 1059 yJ3_checkIndex_8e157 cJ3_checkIndex_8e157 3 (some .int) 3 := LkS_of q3_55 q3_56 q1_14 q3_57 ⟨by decide, by decide, by decide +kernel⟩
theorem lk_J1_9 : LkS RJ1 9 yJ0_checkIndex_df160 cJ0_checkIndex_df160 2 none 2 := LkS_of q3_50 q3_51 q1_12 q3_52 ⟨by decide, by decide, by decide +kernel⟩
set_option maxRecDepth 20000 in
theorem c_J0_coder (l : Launch) (g : gT) {N : Nat} {ad : Nat → Nat} {F : Nat → va_E} (i : Nat) (hi8 : i < 16)  : CtI l yJ0_coder_7d493 cJ0_coder_7d493 1 (some .byte) 0 0 g N ad F [.ref (g.2.2.2.2.2.1 i)] (fun r F' => r = (nI 0) ∧ F' = F) := by
  refine CtI_of (by decide) (Nat.le_of_ble_eq_true rfl) ?_
  intro p e s m args below meth c A H ls X M h hl
  have kx := X.1.1
  have kb := X.1.2.1
  have hl : lv_has ls 1 [(0, .ref (g.2.2.2.2.2.1 i))] := hl
  refine w_cpct X M h q3_37 dJ0_coder_7d493_0 ?_
  refine lv_if_eq (tgt := 13) kx kb dJ0_coder_7d493_3 (by decide) (fun q => absurd q (by decide)) (fun _ => ?_)
  refine lv_aload_n kx kb dJ0_coder_7d493_6 rfl (lv_at hl 0 rfl) ?_
  refine w_scod X M h i hi8 q4_62 dJ0_coder_7d493_7 ?_
  refine lv_goto (tgt := 14) kx kb dJ0_coder_7d493_10 (by decide) ?_
  exact w_bret X h (by decide) ⟨rfl, rfl⟩ dJ0_coder_7d493_14
set_option maxRecDepth 20000 in
theorem c_J0_length (l : Launch) (g : gT) {N : Nat} {ad : Nat → Nat} {F : Nat → va_E} (i : Nat) (hi8 : i < 16)  : CtI l yJ0_length_8abf5 cJ0_length_8abf5 1 (some .int) 1 20 g N ad F [.ref (g.2.2.2.2.2.1 i)] (fun r F' => r = (nI (sxN i)) ∧ F' = F) := by
  refine CtI_of (by decide) (Nat.le_of_ble_eq_true rfl) ?_
  intro p e s m args below meth c A H ls X M h hl
  have kx := X.1.1
  have kb := X.1.2.1
  have hl : lv_has ls 1 [(0, .ref (g.2.2.2.2.2.1 i))] := hl
  have h12 := sx_le6 i hi8
  refine lv_aload_n kx kb dJ0_length_8abf5_0 rfl (lv_at hl 0 rfl) ?_
  refine w_sval X M h i hi8 q4_61 dJ0_length_8abf5_1 ?_
  refine w_slen X M h i hi8 dJ0_length_8abf5_4 ?_
  refine lv_aload_n kx kb dJ0_length_8abf5_5 rfl (lv_at hl 0 rfl) ?_
  refine w_readKi X M h (i := i) [] [.int (nI (sxN i))] ((c_J0_coder l g i hi8)) lk_J0_335 hi8 rfl rfl ⟨by decide, by decide⟩ hl ⟨Nat.zero_le _, Nat.zero_le _⟩ (Nat.le_of_ble_eq_true rfl) rfl dJ0_length_8abf5_6 (fun H locs h => ?_)
  refine lv_ishr kx kb dJ0_length_8abf5_9 ?_
  exact w_iret X h ⟨sh0 _, rfl⟩ dJ0_length_8abf5_10
set_option maxRecDepth 20000 in
theorem c_J0_isLatin1 (l : Launch) (g : gT) {N : Nat} {ad : Nat → Nat} {F : Nat → va_E} (i : Nat) (hi8 : i < 16)  : CtI l yJ0_isLatin1_aae02 cJ0_isLatin1_aae02 1 (some .boolean) 0 0 g N ad F [.ref (g.2.2.2.2.2.1 i)] (fun r F' => r = (nI 1) ∧ F' = F) := by
  refine CtI_of (by decide) (Nat.le_of_ble_eq_true rfl) ?_
  intro p e s m args below meth c A H ls X M h hl
  have kx := X.1.1
  have kb := X.1.2.1
  have hl : lv_has ls 1 [(0, .ref (g.2.2.2.2.2.1 i))] := hl
  refine w_cpct X M h q3_37 dJ0_isLatin1_aae02_0 ?_
  refine lv_if_eq (tgt := 17) kx kb dJ0_isLatin1_aae02_3 (by decide) (fun q => absurd q (by decide)) (fun _ => ?_)
  refine lv_aload_n kx kb dJ0_isLatin1_aae02_6 rfl (lv_at hl 0 rfl) ?_
  refine w_scod X M h i hi8 q4_62 dJ0_isLatin1_aae02_7 ?_
  refine lv_if_ne (tgt := 17) kx kb dJ0_isLatin1_aae02_10 (by decide) (fun q => absurd (by decide) q) (fun _ => ?_)
  refine lv_iconst (v := nI 1) kx kb dJ0_isLatin1_aae02_13 (by decide) ?_
  refine lv_goto (tgt := 18) kx kb dJ0_isLatin1_aae02_14 (by decide) ?_
  exact w_zret X h (Or.inr (by decide)) ⟨rfl, rfl⟩ dJ0_isLatin1_aae02_18
set_option maxRecDepth 20000 in
theorem c_J3_checkn (l : Launch) (g : gT) {N : Nat} {ad : Nat → Nat} {F : Nat → va_E} (k n : Nat) (hk : k < n) (hn : n < 2147483648)  : CtI l yJ3_checkIndex_8e157 cJ3_checkIndex_8e157 3 (some .int) 0 0 g N ad F [.int (nI k), .int (nI n), .null] (fun r F' => r = (nI k) ∧ F' = F) := by
  refine CtI_of (by decide) (Nat.le_of_ble_eq_true rfl) ?_
  intro p e s m args below meth c A H ls X M h hl
  have kx := X.1.1
  have kb := X.1.2.1
  have hl : lv_has ls 3 [(0, .int (nI k)), (1, .int (nI n)), (2, .null)] := hl
  refine lv_iload_n kx kb dJ3_checkIndex_8e157_0 rfl (lv_at hl 0 rfl) ?_
  refine w_if_lt (tgt := 9) kx kb (by omega) dJ3_checkIndex_8e157_1 (by decide) ?_
  refine lv_iload_n kx kb dJ3_checkIndex_8e157_4 rfl (lv_at hl 0 rfl) ?_
  refine lv_iload_n kx kb dJ3_checkIndex_8e157_5 rfl (lv_at hl 1 rfl) ?_
  refine w_cmp_lt (tgt := 16) kx kb (by omega) (by omega) dJ3_checkIndex_8e157_6 (by decide) (fun c_1 => ?_) (fun c_1 => (show False by omega).elim)
  refine lv_iload_n kx kb dJ3_checkIndex_8e157_16 rfl (lv_at hl 0 rfl) ?_
  exact w_iret X h ⟨rfl, rfl⟩ dJ3_checkIndex_8e157_17
set_option maxRecDepth 20000 in
theorem c_J3_checkr (l : Launch) (g : gT) {N : Nat} {ad : Nat → Nat} {F : Nat → va_E} (k n : Nat) (hk : k < n) (hn : n < 2147483648) (tq : Nat)  : CtI l yJ3_checkIndex_8e157 cJ3_checkIndex_8e157 3 (some .int) 0 0 g N ad F [.int (nI k), .int (nI n), .ref tq] (fun r F' => r = (nI k) ∧ F' = F) := by
  refine CtI_of (by decide) (Nat.le_of_ble_eq_true rfl) ?_
  intro p e s m args below meth c A H ls X M h hl
  have kx := X.1.1
  have kb := X.1.2.1
  have hl : lv_has ls 3 [(0, .int (nI k)), (1, .int (nI n)), (2, .ref tq)] := hl
  refine lv_iload_n kx kb dJ3_checkIndex_8e157_0 rfl (lv_at hl 0 rfl) ?_
  refine w_if_lt (tgt := 9) kx kb (by omega) dJ3_checkIndex_8e157_1 (by decide) ?_
  refine lv_iload_n kx kb dJ3_checkIndex_8e157_4 rfl (lv_at hl 0 rfl) ?_
  refine lv_iload_n kx kb dJ3_checkIndex_8e157_5 rfl (lv_at hl 1 rfl) ?_
  refine w_cmp_lt (tgt := 16) kx kb (by omega) (by omega) dJ3_checkIndex_8e157_6 (by decide) (fun c_1 => ?_) (fun c_1 => (show False by omega).elim)
  refine lv_iload_n kx kb dJ3_checkIndex_8e157_16 rfl (lv_at hl 0 rfl) ?_
  exact w_iret X h ⟨rfl, rfl⟩ dJ3_checkIndex_8e157_17
set_option maxRecDepth 20000 in
theorem c_J0_check (l : Launch) (g : gT) {N : Nat} {ad : Nat → Nat} {F : Nat → va_E} (k n : Nat) (hk : k < n) (hn : n < 2147483648) : CtV l yJ0_checkIndex_df160 cJ0_checkIndex_df160 2 none 1 22 g N ad F [.int (nI k), .int (nI n)] (fun F' => F' = F) := by
  refine CtV_of (by decide) (Nat.le_of_ble_eq_true rfl) ?_
  intro p e s m args below meth c A H ls X M h hl
  have kx := X.1.1
  have kb := X.1.2.1
  have hl : lv_has ls 2 [(0, .int (nI k)), (1, .int (nI n))] := hl
  refine lv_iload_n kx kb dJ0_checkIndex_df160_0 rfl (lv_at hl 0 rfl) ?_
  refine lv_iload_n kx kb dJ0_checkIndex_df160_1 rfl (lv_at hl 1 rfl) ?_
  refine w_sioobe X M h q3_53 dJ0_checkIndex_df160_2 ?_ (fun tq => ?_)
  · refine w_readSi X M h [.int (nI k), .int (nI n), .null] [] ((c_J3_checkn l g k n (by omega) (by omega))) lk_J0_1059 rfl ⟨by decide, by decide⟩ hl ⟨Nat.zero_le _, Nat.zero_le _⟩ (Nat.le_of_ble_eq_true rfl) rfl dJ0_checkIndex_df160_5 (fun H locs h => ?_)
    refine lv_pop kx kb dJ0_checkIndex_df160_8 rfl ?_
    exact w_vret X h rfl dJ0_checkIndex_df160_9
  · refine w_readSi X M h [.int (nI k), .int (nI n), .ref tq] [] ((c_J3_checkr l g k n (by omega) (by omega) tq)) lk_J0_1059 rfl ⟨by decide, by decide⟩ hl ⟨Nat.zero_le _, Nat.zero_le _⟩ (Nat.le_of_ble_eq_true rfl) rfl dJ0_checkIndex_df160_5 (fun H locs h => ?_)
    refine lv_pop kx kb dJ0_checkIndex_df160_8 rfl ?_
    exact w_vret X h rfl dJ0_checkIndex_df160_9
set_option maxRecDepth 20000 in
theorem c_J1_charAt (l : Launch) (g : gT) {N : Nat} {ad : Nat → Nat} {F : Nat → va_E} (i : Nat) (hi8 : i < 16) (k : Nat) (hk : k < sxN i)  : CtI l yJ1_charAt_3b067 cJ1_charAt_3b067 2 (some .char) 2 43 g N ad F [.ref (g.2.2.2.2.2.2 i), .int (nI k)] (fun r F' => r = (sxB i k) ∧ F' = F) := by
  refine CtI_of (by decide) (Nat.le_of_ble_eq_true rfl) ?_
  intro p e s m args below meth c A H ls X M h hl
  have kx := X.1.1
  have kb := X.1.2.1
  have hl : lv_has ls 2 [(0, .ref (g.2.2.2.2.2.2 i)), (1, .int (nI k))] := hl
  have h12 := sx_le6 i hi8
  refine lv_iload_n kx kb dJ1_charAt_3b067_0 rfl (lv_at hl 1 rfl) ?_
  refine lv_aload_n kx kb dJ1_charAt_3b067_1 rfl (lv_at hl 0 rfl) ?_
  refine w_slen X M h i hi8 dJ1_charAt_3b067_2 ?_
  refine w_callSv X M h [.int (nI k), .int (nI (sxN i))] [] ((c_J0_check l g k (sxN i) (by omega) (by omega))) lk_J1_9 rfl ⟨by decide, by decide⟩ hl ⟨Nat.zero_le _, Nat.zero_le _⟩ (Nat.le_of_ble_eq_true rfl) rfl dJ1_charAt_3b067_3 (fun F1 H locs hp_F1 h => ?_)
  rw [hp_F1] at h
  refine lv_aload_n kx kb dJ1_charAt_3b067_6 rfl (lv_at hl 0 rfl) ?_
  refine lv_iload_n kx kb dJ1_charAt_3b067_7 rfl (lv_at hl 1 rfl) ?_
  refine w_sbal X M h i hi8 (by omega) dJ1_charAt_3b067_8 ?_
  refine lv_sipush (v := nI 255) kx kb dJ1_charAt_3b067_9 (by decide) ?_
  refine lv_iand kx kb dJ1_charAt_3b067_12 ?_
  refine lv_i2c (v := sxB i k) kx kb dJ1_charAt_3b067_13 ((sx_ch i hi8 k hk).1) ?_
  exact w_cret X h (sx_ch i hi8 k hk).2 ⟨rfl, rfl⟩ dJ1_charAt_3b067_14
set_option maxRecDepth 20000 in
theorem c_J0_charAt (l : Launch) (g : gT) {N : Nat} {ad : Nat → Nat} {F : Nat → va_E} (i : Nat) (hi8 : i < 16) (k : Nat) (hk : k < sxN i)  : CtI l yJ0_charAt_5068e cJ0_charAt_5068e 2 (some .char) 3 64 g N ad F [.ref (g.2.2.2.2.2.1 i), .int (nI k)] (fun r F' => r = (sxB i k) ∧ F' = F) := by
  refine CtI_of (by decide) (Nat.le_of_ble_eq_true rfl) ?_
  intro p e s m args below meth c A H ls X M h hl
  have kx := X.1.1
  have kb := X.1.2.1
  have hl : lv_has ls 2 [(0, .ref (g.2.2.2.2.2.1 i)), (1, .int (nI k))] := hl
  have h12 := sx_le6 i hi8
  refine lv_aload_n kx kb dJ0_charAt_5068e_0 rfl (lv_at hl 0 rfl) ?_
  refine w_readKi X M h (i := i) [] [] ((c_J0_isLatin1 l g i hi8)) lk_J0_492 hi8 rfl rfl ⟨by decide, by decide⟩ hl ⟨Nat.zero_le _, Nat.zero_le _⟩ (Nat.le_of_ble_eq_true rfl) rfl dJ0_charAt_5068e_1 (fun H locs h => ?_)
  refine lv_if_eq (tgt := 16) kx kb dJ0_charAt_5068e_4 (by decide) (fun q => absurd q (by decide)) (fun _ => ?_)
  refine lv_aload_n kx kb dJ0_charAt_5068e_7 rfl (lv_at hl 0 rfl) ?_
  refine w_sval X M h i hi8 q4_61 dJ0_charAt_5068e_8 ?_
  refine lv_iload_n kx kb dJ0_charAt_5068e_11 rfl (lv_at hl 1 rfl) ?_
  refine w_readSi X M h [.ref (g.2.2.2.2.2.2 i), .int (nI k)] [] ((c_J1_charAt l g i hi8 k (by omega))) lk_J0_495 rfl ⟨by decide, by decide⟩ hl ⟨Nat.zero_le _, Nat.zero_le _⟩ (Nat.le_of_ble_eq_true rfl) rfl dJ0_charAt_5068e_12 (fun H locs h => ?_)
  exact w_cret X h (sx_ch i hi8 k hk).2 ⟨rfl, rfl⟩ dJ0_charAt_5068e_15
set_option maxRecDepth 20000 in
theorem c_X2_digitAt (l : Launch) (g : gT) {N : Nat} {ad : Nat → Nat} {F : Nat → va_E} (n : Nat) (a : NM) (hn : n ≤ 60) (ht : oStrip g N ad F 245 n a) (po : Nat) (hp : po < 1000) : CtI l yX2_digitAt cX2_digitAt 3 (some .int) 1 21 g N ad F [.ref (ad 245), .int (nI po)] (fun r F' => r = (dgF n a po) ∧ F' = F) := by
  refine CtI_of (by decide) (Nat.le_of_ble_eq_true rfl) ?_
  intro p e s m args below meth c A H ls X M h hl
  have kx := X.1.1
  have kb := X.1.2.1
  have hl : lv_has ls 3 [(0, .ref (ad 245)), (1, .int (nI po))] := hl
  have hN := ht.1
  refine lv_aload_n kx kb dX2_digitAt_0 rfl (lv_at hl 0 rfl) ?_
  refine lv_iload_n kx kb dX2_digitAt_1 rfl (lv_at hl 1 rfl) ?_
  refine w_readVi X M h [.int (nI po)] [] ((c_X5_signAt l g 245 n a ⟨by omega, ht.2.1, ht.2.2⟩ (nI po) (by omega))) lk_X2_39 ht.2.1 (by omega) rfl rfl ⟨by decide, by decide⟩ hl ⟨Nat.zero_le _, Nat.zero_le _⟩ (Nat.le_of_ble_eq_true rfl) rfl dX2_digitAt_2 (fun H locs h => ?_)
  refine lv_istore_n (lv' := [(2, .int (sgAt n a (nI po))), (0, .ref (ad 245)), (1, .int (nI po))]) kx kb dX2_digitAt_5 rfl hl (by decide) rfl (fun ls hl => ?_)
  refine lv_iload_n kx kb dX2_digitAt_6 rfl (lv_at hl 0 rfl) ?_
  refine lv_bipush (v := nI 48) kx kb dX2_digitAt_7 (by decide) ?_
  refine lv_icmp_lt (tgt := 25) kx kb dX2_digitAt_9 (by decide) (fun c_1 => ?_) (fun c_1 => ?_)
  · refine lv_iconst (v := (-1)) kx kb dX2_digitAt_25 (by decide) ?_
    exact w_iret X h ⟨by rw [dgF, if_pos c_1], rfl⟩ dX2_digitAt_26
  · refine lv_iload_n kx kb dX2_digitAt_12 rfl (lv_at hl 0 rfl) ?_
    refine lv_bipush (v := nI 57) kx kb dX2_digitAt_13 (by decide) ?_
    refine lv_icmp_gt (tgt := 25) kx kb dX2_digitAt_15 (by decide) (fun c_2 => ?_) (fun c_2 => ?_)
    · refine lv_iconst (v := (-1)) kx kb dX2_digitAt_25 (by decide) ?_
      exact w_iret X h ⟨by rw [dgF, if_neg c_1, if_pos c_2], rfl⟩ dX2_digitAt_26
    · refine lv_iload_n kx kb dX2_digitAt_18 rfl (lv_at hl 0 rfl) ?_
      refine lv_bipush (v := nI 48) kx kb dX2_digitAt_19 (by decide) ?_
      refine lv_isub kx kb dX2_digitAt_21 ?_
      refine lv_goto (tgt := 26) kx kb dX2_digitAt_22 (by decide) ?_
      exact w_iret X h ⟨by rw [dgF, if_neg c_1, if_neg c_2], rfl⟩ dX2_digitAt_26
set_option maxRecDepth 20000 in
theorem c_X2_takeNumber (l : Launch) (g : gT) {N : Nat} {ad : Nat → Nat} {F : Nat → va_E} (n : Nat) (a : NM) (hn : n ≤ 60) (ht : oStrip g N ad F 245 n a) (rc re : Nat) (kd nm : NM) (hr : oRead g N ad F rc re kd nm) (po : Nat) (hp : po + 1 < 1000) (lg : Int32) (pl : Nat) (hpl : pl < 1000) (hrc : rc < 1000) : CtI l yX2_takeNumber cX2_takeNumber 8 (some .int) 2 43 g N ad F [.ref (ad 249), .ref (ad 245), .int (nI po), .int lg, .int (nI pl)] (fun r F' => r = nI (tkF n a po lg pl rc nm).1 ∧ oRead g N ad F' rc re kd (tkF n a po lg pl rc nm).2 ∧ ∀ i, i ≠ 253 → F' i = F i) := by
  refine CtI_of (by decide) (Nat.le_of_ble_eq_true rfl) ?_
  intro p e s m args below meth c A H ls X M h hl
  have kx := X.1.1
  have kb := X.1.2.1
  have hl : lv_has ls 8 [(0, .ref (ad 249)), (1, .ref (ad 245)), (2, .int (nI po)), (3, .int lg), (4, .int (nI pl))] := hl
  have hN := hr.1
  refine lv_aload_n kx kb dX2_takeNumber_0 rfl (lv_at hl 0 rfl) ?_
  refine w_get X M h 249 hr.2.1 (by omega) fl_X2_23 rfl dX2_takeNumber_1 ?_
  refine lv_iconst (v := nI 4) kx kb dX2_takeNumber_4 (by decide) ?_
  refine w_muln kx kb dX2_takeNumber_5 ?_
  refine lv_iload kx kb dX2_takeNumber_6 (lv_at hl 4 rfl) ?_
  refine w_addn kx kb dX2_takeNumber_8 ?_
  refine lv_istore (lv' := [(5, .int (nI (rc * 4 + pl))), (0, .ref (ad 249)), (1, .ref (ad 245)), (2, .int (nI po)), (3, .int lg), (4, .int (nI pl))]) kx kb dX2_takeNumber_9 hl (by decide) rfl (fun ls hl => ?_)
  refine lv_aload_n kx kb dX2_takeNumber_11 rfl (lv_at hl 2 rfl) ?_
  refine lv_iload_n kx kb dX2_takeNumber_12 rfl (lv_at hl 3 rfl) ?_
  refine w_readSi X M h [.ref (ad 245), .int (nI po)] [] ((c_X2_digitAt l g n a (by omega) ⟨by omega, ht.2.1, ht.2.2⟩ po (by omega))) lk_X2_77 rfl ⟨by decide, by decide⟩ hl ⟨Nat.zero_le _, Nat.zero_le _⟩ (Nat.le_of_ble_eq_true rfl) rfl dX2_takeNumber_13 (fun H locs h => ?_)
  refine lv_istore (lv' := [(6, .int (dgF n a po)), (5, .int (nI (rc * 4 + pl))), (0, .ref (ad 249)), (1, .ref (ad 245)), (2, .int (nI po)), (3, .int lg), (4, .int (nI pl))]) kx kb dX2_takeNumber_16 hl (by decide) rfl (fun ls hl => ?_)
  refine lv_aload_n kx kb dX2_takeNumber_18 rfl (lv_at hl 3 rfl) ?_
  refine lv_iload_n kx kb dX2_takeNumber_19 rfl (lv_at hl 4 rfl) ?_
  refine lv_iconst (v := nI 1) kx kb dX2_takeNumber_20 (by decide) ?_
  refine w_addn kx kb dX2_takeNumber_21 ?_
  refine w_readSi X M h [.ref (ad 245), .int (nI (po + 1))] [] ((c_X2_digitAt l g n a (by omega) ⟨by omega, ht.2.1, ht.2.2⟩ (po + 1) (by omega))) lk_X2_77 rfl ⟨by decide, by decide⟩ hl ⟨Nat.zero_le _, Nat.zero_le _⟩ (Nat.le_of_ble_eq_true rfl) rfl dX2_takeNumber_22 (fun H locs h => ?_)
  refine lv_istore (lv' := [(7, .int (dgF n a (po + 1))), (6, .int (dgF n a po)), (5, .int (nI (rc * 4 + pl))), (0, .ref (ad 249)), (1, .ref (ad 245)), (2, .int (nI po)), (3, .int lg), (4, .int (nI pl))]) kx kb dX2_takeNumber_25 hl (by decide) rfl (fun ls hl => ?_)
  refine lv_iload kx kb dX2_takeNumber_27 (lv_at hl 1 rfl) ?_
  refine lv_iconst (v := (-1)) kx kb dX2_takeNumber_29 (by decide) ?_
  refine lv_icmp_ne (tgt := 35) kx kb dX2_takeNumber_30 (by decide) (fun c_1 => ?_) (fun c_1 => ?_)
  · refine lv_iload_n kx kb dX2_takeNumber_35 rfl (lv_at hl 6 rfl) ?_
    refine lv_if_eq (tgt := 45) kx kb dX2_takeNumber_36 (by decide) (fun c_2 => ?_) (fun c_2 => ?_)
    · refine lv_aload_n kx kb dX2_takeNumber_45 rfl (lv_at hl 3 rfl) ?_
      refine w_get X M h 249 hr.2.1 (by omega) fl_X2_20 rfl dX2_takeNumber_46 ?_
      refine lv_iload kx kb dX2_takeNumber_49 (lv_at hl 2 rfl) ?_
      refine lv_iload kx kb dX2_takeNumber_51 (lv_at hl 1 rfl) ?_
      refine w_callVv X M h [.int (nI (rc * 4 + pl)), .int (dgF n a po)] [] ((c_X3_put l g 252 48 nm (rc * 4 + pl) (dgF n a po) ⟨by omega, hr.2.2.2.2.1, hr.2.2.2.2.2⟩ (by omega) (by omega))) lk_X2_54 hr.2.2.2.2.1 (by omega) rfl rfl ⟨by decide, by decide⟩ hl ⟨Nat.zero_le _, Nat.zero_le _⟩ (Nat.le_of_ble_eq_true rfl) rfl dX2_takeNumber_53 (fun F3 H locs hp_F3 h => ?_)
      refine lv_iconst (v := nI 1) kx kb dX2_takeNumber_56 (by decide) ?_
      exact w_iret X h ⟨by rw [tkF, if_neg c_1, if_pos c_2], by rw [tkF, if_neg c_1, if_pos c_2]; exact ⟨by omega, ((hp_F3.2 249 (by omega)).trans hr.2.1), ⟨by omega, ((hp_F3.2 250 (by omega)).trans hr.2.2.1.2.1), (hr.2.2.1.2.2.fr (hp_F3.2 251 (by omega)))⟩, ⟨by omega, hp_F3.1.2.1, hp_F3.1.2.2⟩⟩, (fun i hi => hp_F3.2 i (by omega))⟩ dX2_takeNumber_57
    · refine lv_iload kx kb dX2_takeNumber_39 (lv_at hl 0 rfl) ?_
      refine lv_iconst (v := (-1)) kx kb dX2_takeNumber_41 (by decide) ?_
      refine lv_icmp_ne (tgt := 58) kx kb dX2_takeNumber_42 (by decide) (fun c_4 => ?_) (fun c_4 => ?_)
      · refine lv_aload_n kx kb dX2_takeNumber_58 rfl (lv_at hl 3 rfl) ?_
        refine w_get X M h 249 hr.2.1 (by omega) fl_X2_20 rfl dX2_takeNumber_59 ?_
        refine lv_iload kx kb dX2_takeNumber_62 (lv_at hl 2 rfl) ?_
        refine lv_iload kx kb dX2_takeNumber_64 (lv_at hl 1 rfl) ?_
        refine lv_bipush (v := nI 10) kx kb dX2_takeNumber_66 (by decide) ?_
        refine lv_imul kx kb dX2_takeNumber_68 ?_
        refine lv_iload kx kb dX2_takeNumber_69 (lv_at hl 0 rfl) ?_
        refine lv_iadd kx kb dX2_takeNumber_71 ?_
        refine w_callVv X M h [.int (nI (rc * 4 + pl)), .int (((dgF n a po) * (nI 10)) + (dgF n a (po + 1)))] [] ((c_X3_put l g 252 48 nm (rc * 4 + pl) (((dgF n a po) * (nI 10)) + (dgF n a (po + 1))) ⟨by omega, hr.2.2.2.2.1, hr.2.2.2.2.2⟩ (by omega) (by omega))) lk_X2_54 hr.2.2.2.2.1 (by omega) rfl rfl ⟨by decide, by decide⟩ hl ⟨Nat.zero_le _, Nat.zero_le _⟩ (Nat.le_of_ble_eq_true rfl) rfl dX2_takeNumber_72 (fun F5 H locs hp_F5 h => ?_)
        refine lv_iconst (v := nI 2) kx kb dX2_takeNumber_75 (by decide) ?_
        exact w_iret X h ⟨by rw [tkF, if_neg c_1, if_neg c_2, if_neg c_4], by rw [tkF, if_neg c_1, if_neg c_2, if_neg c_4]; exact ⟨by omega, ((hp_F5.2 249 (by omega)).trans hr.2.1), ⟨by omega, ((hp_F5.2 250 (by omega)).trans hr.2.2.1.2.1), (hr.2.2.1.2.2.fr (hp_F5.2 251 (by omega)))⟩, ⟨by omega, hp_F5.1.2.1, hp_F5.1.2.2⟩⟩, (fun i hi => hp_F5.2 i (by omega))⟩ dX2_takeNumber_76
      · refine lv_aload_n kx kb dX2_takeNumber_45 rfl (lv_at hl 3 rfl) ?_
        refine w_get X M h 249 hr.2.1 (by omega) fl_X2_20 rfl dX2_takeNumber_46 ?_
        refine lv_iload kx kb dX2_takeNumber_49 (lv_at hl 2 rfl) ?_
        refine lv_iload kx kb dX2_takeNumber_51 (lv_at hl 1 rfl) ?_
        refine w_callVv X M h [.int (nI (rc * 4 + pl)), .int (dgF n a po)] [] ((c_X3_put l g 252 48 nm (rc * 4 + pl) (dgF n a po) ⟨by omega, hr.2.2.2.2.1, hr.2.2.2.2.2⟩ (by omega) (by omega))) lk_X2_54 hr.2.2.2.2.1 (by omega) rfl rfl ⟨by decide, by decide⟩ hl ⟨Nat.zero_le _, Nat.zero_le _⟩ (Nat.le_of_ble_eq_true rfl) rfl dX2_takeNumber_53 (fun F6 H locs hp_F6 h => ?_)
        refine lv_iconst (v := nI 1) kx kb dX2_takeNumber_56 (by decide) ?_
        exact w_iret X h ⟨by rw [tkF, if_neg c_1, if_neg c_2, if_pos c_4], by rw [tkF, if_neg c_1, if_neg c_2, if_pos c_4]; exact ⟨by omega, ((hp_F6.2 249 (by omega)).trans hr.2.1), ⟨by omega, ((hp_F6.2 250 (by omega)).trans hr.2.2.1.2.1), (hr.2.2.1.2.2.fr (hp_F6.2 251 (by omega)))⟩, ⟨by omega, hp_F6.1.2.1, hp_F6.1.2.2⟩⟩, (fun i hi => hp_F6.2 i (by omega))⟩ dX2_takeNumber_57
  · refine lv_iconst (v := nI 0) kx kb dX2_takeNumber_33 (by decide) ?_
    exact w_iret X h ⟨by rw [tkF, if_pos c_1], by rw [tkF, if_pos c_1]; exact ⟨by omega, hr.2.1, ⟨by omega, hr.2.2.1.2.1, hr.2.2.1.2.2⟩, ⟨by omega, hr.2.2.2.2.1, hr.2.2.2.2.2⟩⟩, (fun i hi => rfl)⟩ dX2_takeNumber_34
set_option maxRecDepth 20000 in
theorem c_X2_numberOf (l : Launch) (g : gT) {N : Nat} {ad : Nat → Nat} {F : Nat → va_E} (rc re : Nat) (kd nm : NM) (hr : oRead g N ad F rc re kd nm) (cm po : Nat) (hc : cm < 12) (hp : po < 4) : CtI l yX2_numberOf cX2_numberOf 3 (some .int) 1 21 g N ad F [.ref (ad 249), .int (nI cm), .int (nI po)] (fun r F' => r = (nm (cm * 4 + po)) ∧ F' = F) := by
  refine CtI_of (by decide) (Nat.le_of_ble_eq_true rfl) ?_
  intro p e s m args below meth c A H ls X M h hl
  have kx := X.1.1
  have kb := X.1.2.1
  have hl : lv_has ls 3 [(0, .ref (ad 249)), (1, .int (nI cm)), (2, .int (nI po))] := hl
  have hN := hr.1
  refine lv_aload_n kx kb dX2_numberOf_0 rfl (lv_at hl 0 rfl) ?_
  refine w_get X M h 249 hr.2.1 (by omega) fl_X2_20 rfl dX2_numberOf_1 ?_
  refine lv_iload_n kx kb dX2_numberOf_4 rfl (lv_at hl 1 rfl) ?_
  refine lv_iconst (v := nI 4) kx kb dX2_numberOf_5 (by decide) ?_
  refine w_muln kx kb dX2_numberOf_6 ?_
  refine lv_iload_n kx kb dX2_numberOf_7 rfl (lv_at hl 2 rfl) ?_
  refine w_addn kx kb dX2_numberOf_8 ?_
  refine w_readVi X M h [.int (nI (cm * 4 + po))] [] ((c_X3_at_n l g 252 48 nm (cm * 4 + po) ⟨by omega, hr.2.2.2.2.1, hr.2.2.2.2.2⟩ (by omega) (by omega))) lk_X2_43 hr.2.2.2.2.1 (by omega) rfl rfl ⟨by decide, by decide⟩ hl ⟨Nat.zero_le _, Nat.zero_le _⟩ (Nat.le_of_ble_eq_true rfl) rfl dX2_numberOf_9 (fun H locs h => ?_)
  exact w_iret X h ⟨rfl, rfl⟩ dX2_numberOf_12
set_option maxRecDepth 20000 in
theorem c_X2_formOf (l : Launch) (g : gT) {N : Nat} {ad : Nat → Nat} {F : Nat → va_E} (t : Nat) (ht : t < 8) : CtQ l yX2_formOf cX2_formOf 1 (some (.object "java/lang/String")) 0 0 g N ad F [.int (nI t)] (fun r F' => r = some (g.2.2.2.2.2.1 t) ∧ F' = F) := by
  refine CtQ_of (by decide) (Nat.le_of_ble_eq_true rfl) ?_
  intro p e s m args below meth c A H ls X M h hl
  have kx := X.1.1
  have kb := X.1.2.1
  have hl : lv_has ls 1 [(0, .int (nI t))] := hl
  refine lv_iload_n kx kb dX2_formOf_0 rfl (lv_at hl 0 rfl) ?_
  rcases (show t = 0 ∨ t = 1 ∨ t = 2 ∨ t = 3 ∨ t = 4 ∨ t = 5 ∨ t = 6 ∨ t = 7 by omega) with rfl | rfl | rfl | rfl | rfl | rfl | rfl | rfl
  · refine lv_tableIn (tgt := 44) (off := 43) kx kb dX2_formOf_1 (by decide) (by decide) (by decide) (by decide) ?_
    refine va_ldcS kx kb X.1.2.2.2.1 (M.2.2.2.2.2.2.1 0 (by decide)) dX2_formOf_44 ?_
    exact w_qret X h (Or.inl ⟨_, rfl⟩) (v := some (g.2.2.2.2.2.1 0)) ⟨rfl, rfl⟩ dX2_formOf_46
  · refine lv_tableIn (tgt := 47) (off := 46) kx kb dX2_formOf_1 (by decide) (by decide) (by decide) (by decide) ?_
    refine va_ldcS kx kb X.1.2.2.2.1 (M.2.2.2.2.2.2.1 1 (by decide)) dX2_formOf_47 ?_
    exact w_qret X h (Or.inl ⟨_, rfl⟩) (v := some (g.2.2.2.2.2.1 1)) ⟨rfl, rfl⟩ dX2_formOf_49
  · refine lv_tableIn (tgt := 50) (off := 49) kx kb dX2_formOf_1 (by decide) (by decide) (by decide) (by decide) ?_
    refine va_ldcS kx kb X.1.2.2.2.1 (M.2.2.2.2.2.2.1 2 (by decide)) dX2_formOf_50 ?_
    exact w_qret X h (Or.inl ⟨_, rfl⟩) (v := some (g.2.2.2.2.2.1 2)) ⟨rfl, rfl⟩ dX2_formOf_52
  · refine lv_tableIn (tgt := 53) (off := 52) kx kb dX2_formOf_1 (by decide) (by decide) (by decide) (by decide) ?_
    refine va_ldcS kx kb X.1.2.2.2.1 (M.2.2.2.2.2.2.1 3 (by decide)) dX2_formOf_53 ?_
    exact w_qret X h (Or.inl ⟨_, rfl⟩) (v := some (g.2.2.2.2.2.1 3)) ⟨rfl, rfl⟩ dX2_formOf_55
  · refine lv_tableIn (tgt := 56) (off := 55) kx kb dX2_formOf_1 (by decide) (by decide) (by decide) (by decide) ?_
    refine va_ldcS kx kb X.1.2.2.2.1 (M.2.2.2.2.2.2.1 4 (by decide)) dX2_formOf_56 ?_
    exact w_qret X h (Or.inl ⟨_, rfl⟩) (v := some (g.2.2.2.2.2.1 4)) ⟨rfl, rfl⟩ dX2_formOf_58
  · refine lv_tableIn (tgt := 59) (off := 58) kx kb dX2_formOf_1 (by decide) (by decide) (by decide) (by decide) ?_
    refine va_ldcS kx kb X.1.2.2.2.1 (M.2.2.2.2.2.2.1 5 (by decide)) dX2_formOf_59 ?_
    exact w_qret X h (Or.inl ⟨_, rfl⟩) (v := some (g.2.2.2.2.2.1 5)) ⟨rfl, rfl⟩ dX2_formOf_61
  · refine lv_tableIn (tgt := 62) (off := 61) kx kb dX2_formOf_1 (by decide) (by decide) (by decide) (by decide) ?_
    refine va_ldcS kx kb X.1.2.2.2.1 (M.2.2.2.2.2.2.1 6 (by decide)) dX2_formOf_62 ?_
    exact w_qret X h (Or.inl ⟨_, rfl⟩) (v := some (g.2.2.2.2.2.1 6)) ⟨rfl, rfl⟩ dX2_formOf_64
  · refine lv_tableOut (tgt := 65) kx kb dX2_formOf_1 (Or.inr (by decide)) (by decide) ?_
    refine va_ldcS kx kb X.1.2.2.2.1 (M.2.2.2.2.2.2.1 7 (by decide)) dX2_formOf_65 ?_
    exact w_qret X h (Or.inl ⟨_, rfl⟩) (v := some (g.2.2.2.2.2.1 7)) ⟨rfl, rfl⟩ dX2_formOf_67
set_option maxRecDepth 20000 in
theorem c_X2_follow (l : Launch) (g : gT) {N : Nat} {ad : Nat → Nat} {F : Nat → va_E} (n : Nat) (a : NM) (hn : n ≤ 60) (ht : oStrip g N ad F 245 n a) (rc re : Nat) (kd nm : NM) (hr : oRead g N ad F rc re kd nm) (st i : Nat) (hi8 : i < 8) (hst : st ≤ 500) (hrc : rc < 1000) (hre : re < 1000) : CtI l yX2_follow cX2_follow 9 (some .boolean) 4 85 g N ad F [.ref (ad 249), .ref (ad 245), .int (nI st), .ref (g.2.2.2.2.2.1 i)] (fun r F' => r = bI ((flR i n a st rc nm).1 = true) ∧ oRead g N ad F' rc (if (flR i n a st rc nm).1 = true then (flR i n a st rc nm).2.1 else max re (flR i n a st rc nm).2.1) kd (flR i n a st rc nm).2.2 ∧ ∀ i, (i ≠ 249 ∧ i ≠ 253) → F' i = F i) := by
  refine CtI_of (by decide) (Nat.le_of_ble_eq_true rfl) ?_
  intro p e s m args below meth c A H ls X M h hl
  have kx := X.1.1
  have kb := X.1.2.1
  have hl : lv_has ls 9 [(0, .ref (ad 249)), (1, .ref (ad 245)), (2, .int (nI st)), (3, .ref (g.2.2.2.2.2.1 i))] := hl
  have hN := hr.1
  have h12 := sx_le i hi8
  have hi16 : i < 16 := by omega
  refine lv_iload_n kx kb dX2_follow_0 rfl (lv_at hl 2 rfl) ?_
  refine lv_istore (lv' := [(4, .int (nI st)), (0, .ref (ad 249)), (1, .ref (ad 245)), (2, .int (nI st)), (3, .ref (g.2.2.2.2.2.1 i))]) kx kb dX2_follow_1 hl (by decide) rfl (fun ls hl => ?_)
  refine lv_iconst (v := nI 0) kx kb dX2_follow_3 (by decide) ?_
  refine lv_istore (lv' := [(5, .int (nI 0)), (4, .int (nI st)), (0, .ref (ad 249)), (1, .ref (ad 245)), (2, .int (nI st)), (3, .ref (g.2.2.2.2.2.1 i))]) kx kb dX2_follow_4 hl (by decide) rfl (fun ls hl => ?_)
  refine lv_iconst (v := nI 0) kx kb dX2_follow_6 (by decide) ?_
  refine lv_istore (lv' := [(6, .int (nI 0)), (5, .int (nI 0)), (4, .int (nI st)), (0, .ref (ad 249)), (1, .ref (ad 245)), (2, .int (nI st)), (3, .ref (g.2.2.2.2.2.1 i))]) kx kb dX2_follow_7 hl (by decide) rfl (fun ls hl => ?_)
  refine w_loop5 (fun (k : Nat) (ps : Nat) (pl : Nat) (nm1 : NM) (F1 : Nat → va_E) => sxN i - k) (fun (k : Nat) (ps : Nat) (pl : Nat) (nm1 : NM) (F1 : Nat → va_E) H locs ls => Hx g N ad F1 A s H locs ∧ lv_has ls 9 [(0, .ref (ad 249)), (1, .ref (ad 245)), (2, .int (nI st)), (3, .ref (g.2.2.2.2.2.1 i)), (4, .int (nI ps)), (5, .int (nI pl)), (6, .int (nI k))] ∧ (k ≤ sxN i) ∧ (ps ≤ st + 2 * k) ∧ (pl ≤ k) ∧ (oRead g N ad F1 rc re kd nm1) ∧ (∀ i, i ≠ 253 → F1 i = F i) ∧ (flF i n a rc (sxN i - k) k ps pl nm1 = flR i n a st rc nm)) ?_ 0 st 0 nm F ⟨h, lv_sub hl [3, 4, 5, 6, 2, 1, 0] rfl, Nat.zero_le _, by omega, Nat.le_refl _, hr, fun i hi => rfl, rfl⟩
  intro k ps pl nm1 F1 H locs ls hinv ih
  obtain ⟨h, hl, hk, hps, hpl, hr1, hfr, hS⟩ := hinv
  refine lv_iload kx kb dX2_follow_9 (lv_at hl 6 rfl) ?_
  refine lv_aload_n kx kb dX2_follow_11 rfl (lv_at hl 3 rfl) ?_
  refine w_readKi X M h (i := i) [] [.int (nI k)] ((c_J0_length l g i hi16)) lk_X2_58 hi16 rfl rfl ⟨by decide, by decide⟩ hl ⟨Nat.zero_le _, Nat.zero_le _⟩ (Nat.le_of_ble_eq_true rfl) rfl dX2_follow_12 (fun H locs h => ?_)
  refine w_cmp_ge (tgt := 117) kx kb (by omega) (by omega) dX2_follow_15 (by decide) (fun c_1 => ?_) (fun c_1 => ?_)
  · refine lv_aload_n kx kb dX2_follow_117 rfl (lv_at hl 0 rfl) ?_
    refine lv_iload kx kb dX2_follow_118 (lv_at hl 4 rfl) ?_
    refine w_put X M h 249 hr1.2.1 (by omega) fp_X2_27 (rfl) (by rfl) (Nat.le_of_ble_eq_true rfl) dX2_follow_120 (fun F2 H locs h he_F2 hf_F2 => ?_)
    refine lv_iconst (v := nI 1) kx kb dX2_follow_123 (by decide) ?_
    exact w_zret X h (Or.inr (by decide)) (by rw [show sxN i - k = 0 by omega, flF] at hS; rw [← hS]; exact ⟨bI_tn rfl, ⟨by omega, he_F2, ⟨by omega, ((hf_F2 250 (by omega)).trans hr1.2.2.1.2.1), (hr1.2.2.1.2.2.fr (hf_F2 251 (by omega)))⟩, ⟨by omega, ((hf_F2 252 (by omega)).trans hr1.2.2.2.2.1), (hr1.2.2.2.2.2.fr (hf_F2 253 (by omega)))⟩⟩, (fun i hi => (hf_F2 i (by omega)).trans (hfr i (by omega)))⟩) dX2_follow_124
  · refine lv_aload_n kx kb dX2_follow_18 rfl (lv_at hl 3 rfl) ?_
    refine lv_iload kx kb dX2_follow_19 (lv_at hl 6 rfl) ?_
    refine w_readKi X M h (i := i) [.int (nI k)] [] ((c_J0_charAt l g i hi16 k (by omega))) lk_X2_63 hi16 rfl rfl ⟨by decide, by decide⟩ hl ⟨Nat.zero_le _, Nat.zero_le _⟩ (Nat.le_of_ble_eq_true rfl) rfl dX2_follow_21 (fun H locs h => ?_)
    refine lv_istore (lv' := [(7, .int (sxB i k)), (0, .ref (ad 249)), (1, .ref (ad 245)), (2, .int (nI st)), (3, .ref (g.2.2.2.2.2.1 i)), (4, .int (nI ps)), (5, .int (nI pl)), (6, .int (nI k))]) kx kb dX2_follow_24 hl (by decide) rfl (fun ls hl => ?_)
    refine lv_aload_n kx kb dX2_follow_26 rfl (lv_at hl 2 rfl) ?_
    refine lv_iload kx kb dX2_follow_27 (lv_at hl 5 rfl) ?_
    refine w_readVi X M h [.int (nI ps)] [] ((c_X5_signAt l g 245 n a ⟨by omega, ((hfr 245 (by omega)).trans ht.2.1), (ht.2.2.fr (hfr 246 (by omega)))⟩ (nI ps) (by omega))) lk_X2_39 ((hfr 245 (by omega)).trans ht.2.1) (by omega) rfl rfl ⟨by decide, by decide⟩ hl ⟨Nat.zero_le _, Nat.zero_le _⟩ (Nat.le_of_ble_eq_true rfl) rfl dX2_follow_29 (fun H locs h => ?_)
    refine lv_iload kx kb dX2_follow_32 (lv_at hl 0 rfl) ?_
    refine lv_icmp_ne (tgt := 41) kx kb dX2_follow_34 (by decide) (fun c_3 => ?_) (fun c_3 => ?_)
    · refine lv_iconst (v := nI 0) kx kb dX2_follow_41 (by decide) ?_
      refine lv_istore (lv' := [(8, .int (nI 0)), (7, .int (sxB i k)), (0, .ref (ad 249)), (1, .ref (ad 245)), (2, .int (nI st)), (3, .ref (g.2.2.2.2.2.1 i)), (4, .int (nI ps)), (5, .int (nI pl)), (6, .int (nI k))]) kx kb dX2_follow_42 hl (by decide) rfl (fun ls hl => ?_)
      refine lv_iload kx kb dX2_follow_44 (lv_at hl 1 rfl) ?_
      refine lv_bipush (v := nI 35) kx kb dX2_follow_46 (by decide) ?_
      refine lv_icmp_eq (tgt := 58) kx kb dX2_follow_48 (by decide) (fun c_4 => ?_) (fun c_4 => ?_)
      · refine lv_aload_n kx kb dX2_follow_58 rfl (lv_at hl 2 rfl) ?_
        refine lv_aload_n kx kb dX2_follow_59 rfl (lv_at hl 3 rfl) ?_
        refine lv_iload kx kb dX2_follow_60 (lv_at hl 6 rfl) ?_
        refine lv_iload kx kb dX2_follow_62 (lv_at hl 1 rfl) ?_
        refine lv_bipush (v := nI 37) kx kb dX2_follow_64 (by decide) ?_
        refine lv_icmp_ne (tgt := 73) kx kb dX2_follow_66 (by decide) (fun c_5 => ?_) (fun c_5 => (show False from absurd (c_4.symm.trans c_5) (by decide)).elim)
        refine lv_iconst (v := nI 0) kx kb dX2_follow_73 (by decide) ?_
        refine lv_iload kx kb dX2_follow_74 (lv_at hl 7 rfl) ?_
        refine w_callVi X M h [.ref (ad 245), .int (nI ps), .int (nI 0), .int (nI pl)] [] ((c_X2_takeNumber l g n a (by omega) ⟨by omega, ((hfr 245 (by omega)).trans ht.2.1), (ht.2.2.fr (hfr 246 (by omega)))⟩ rc re kd nm1 ⟨by omega, hr1.2.1, ⟨by omega, hr1.2.2.1.2.1, hr1.2.2.1.2.2⟩, ⟨by omega, hr1.2.2.2.2.1, hr1.2.2.2.2.2⟩⟩ ps (by omega) (nI 0) pl (by omega) (by omega))) lk_X2_67 hr1.2.1 (by omega) rfl rfl ⟨by decide, by decide⟩ hl ⟨Nat.zero_le _, Nat.zero_le _⟩ (Nat.le_of_ble_eq_true rfl) rfl dX2_follow_76 (fun r_F6 F6 H locs hp_F6 h => ?_)
        refine w_top (y := nI (tkF n a ps (nI 0) pl rc nm1).1) hp_F6.1 ?_
        have htk_F6 := tkF_le n a ps (nI 0) pl rc nm1
        refine lv_istore (lv' := [(8, .int (nI ((tkF n a ps (nI 0) pl rc nm1).1))), (7, .int (sxB i k)), (0, .ref (ad 249)), (1, .ref (ad 245)), (2, .int (nI st)), (3, .ref (g.2.2.2.2.2.1 i)), (4, .int (nI ps)), (5, .int (nI pl)), (6, .int (nI k))]) kx kb dX2_follow_79 hl (by decide) rfl (fun ls hl => ?_)
        refine lv_iinc (v := nI (pl + 1)) (lv' := [(5, .int (nI (pl + 1))), (8, .int (nI ((tkF n a ps (nI 0) pl rc nm1).1))), (7, .int (sxB i k)), (0, .ref (ad 249)), (1, .ref (ad 245)), (2, .int (nI st)), (3, .ref (g.2.2.2.2.2.1 i)), (4, .int (nI ps)), (6, .int (nI k))]) kx kb dX2_follow_81 hl (k := 7) rfl (nI_add _ _) (by decide) rfl (fun ls hl => ?_)
        refine lv_iload kx kb dX2_follow_84 (lv_at hl 1 rfl) ?_
        refine w_if_ne (tgt := 104) kx kb (by omega) dX2_follow_86 (by decide) (fun c_7 => ?_) (fun c_7 => ?_)
        · refine lv_iload kx kb dX2_follow_104 (lv_at hl 7 rfl) ?_
          refine lv_iload kx kb dX2_follow_106 (lv_at hl 1 rfl) ?_
          refine w_addn kx kb dX2_follow_108 ?_
          refine lv_istore (lv' := [(4, .int (nI (ps + ((tkF n a ps (nI 0) pl rc nm1).1)))), (5, .int (nI (pl + 1))), (8, .int (nI ((tkF n a ps (nI 0) pl rc nm1).1))), (7, .int (sxB i k)), (0, .ref (ad 249)), (1, .ref (ad 245)), (2, .int (nI st)), (3, .ref (g.2.2.2.2.2.1 i)), (6, .int (nI k))]) kx kb dX2_follow_109 hl (by decide) rfl (fun ls hl => ?_)
          refine lv_iinc (v := nI (k + 1)) (lv' := [(6, .int (nI (k + 1))), (4, .int (nI (ps + ((tkF n a ps (nI 0) pl rc nm1).1)))), (5, .int (nI (pl + 1))), (8, .int (nI ((tkF n a ps (nI 0) pl rc nm1).1))), (7, .int (sxB i k)), (0, .ref (ad 249)), (1, .ref (ad 245)), (2, .int (nI st)), (3, .ref (g.2.2.2.2.2.1 i))]) kx kb dX2_follow_111 hl (k := 8) rfl (nI_add _ _) (by decide) rfl (fun ls hl => ?_)
          refine lv_goto (tgt := 9) kx kb dX2_follow_114 (by decide) ?_
          exact ih (k + 1) (ps + ((tkF n a ps (nI 0) pl rc nm1).1)) (pl + 1) ((tkF n a ps (nI 0) pl rc nm1).2) F6 _ _ _ ⟨h, lv_sub hl [5, 6, 7, 8, 1, 2, 0] rfl, by omega, by omega, by omega, ⟨by omega, hp_F6.2.1.2.1, ⟨by omega, hp_F6.2.1.2.2.1.2.1, hp_F6.2.1.2.2.1.2.2⟩, ⟨by omega, hp_F6.2.1.2.2.2.2.1, hp_F6.2.1.2.2.2.2.2⟩⟩, (fun i hi => (hp_F6.2.2 i (by omega)).trans (hfr i (by omega))), by rw [show sxN i - k = (sxN i - (k + 1)) + 1 by omega, flF, if_pos c_4, if_neg (Nat.ne_of_gt c_7)] at hS; exact hS⟩ (by omega)
        · refine lv_aload_n kx kb dX2_follow_89 rfl (lv_at hl 3 rfl) ?_
          refine lv_aload_n kx kb dX2_follow_90 rfl (lv_at hl 3 rfl) ?_
          refine w_get X M h 249 hp_F6.2.1.2.1 (by omega) fl_X2_27 rfl dX2_follow_91 ?_
          refine lv_iload kx kb dX2_follow_94 (lv_at hl 7 rfl) ?_
          refine w_mmaxn X hl q3_126 (by omega) (by omega) ⟨by decide, by decide⟩ (Nat.le_of_ble_eq_true rfl) ⟨Nat.zero_le _, Nat.zero_le _⟩ dX2_follow_96 ?_
          refine w_put X M h 249 hp_F6.2.1.2.1 (by omega) fp_X2_27 (rfl) (by rfl) (Nat.le_of_ble_eq_true rfl) dX2_follow_99 (fun F8 H locs h he_F8 hf_F8 => ?_)
          refine lv_iconst (v := nI 0) kx kb dX2_follow_102 (by decide) ?_
          exact w_zret X h (Or.inl (by decide)) (by rw [show sxN i - k = (sxN i - (k + 1)) + 1 by omega, flF, if_pos c_4, if_pos c_7] at hS; rw [← hS]; exact ⟨bI_fn (fun z => by cases z), ⟨by omega, he_F8, ⟨by omega, ((hf_F8 250 (by omega)).trans hp_F6.2.1.2.2.1.2.1), (hp_F6.2.1.2.2.1.2.2.fr (hf_F8 251 (by omega)))⟩, ⟨by omega, ((hf_F8 252 (by omega)).trans hp_F6.2.1.2.2.2.2.1), (hp_F6.2.1.2.2.2.2.2.fr (hf_F8 253 (by omega)))⟩⟩, (fun i hi => (hf_F8 i (by omega)).trans ((hp_F6.2.2 i (by omega)).trans (hfr i (by omega))))⟩) dX2_follow_103
      · refine lv_iload kx kb dX2_follow_51 (lv_at hl 1 rfl) ?_
        refine lv_bipush (v := nI 37) kx kb dX2_follow_53 (by decide) ?_
        refine lv_icmp_ne (tgt := 84) kx kb dX2_follow_55 (by decide) (fun c_9 => ?_) (fun c_9 => ?_)
        · refine lv_iload kx kb dX2_follow_84 (lv_at hl 0 rfl) ?_
          refine lv_if_ne (tgt := 104) kx kb dX2_follow_86 (by decide) (fun q => absurd (by decide) q) (fun _ => ?_)
          refine lv_aload_n kx kb dX2_follow_89 rfl (lv_at hl 2 rfl) ?_
          refine lv_aload_n kx kb dX2_follow_90 rfl (lv_at hl 2 rfl) ?_
          refine w_get X M h 249 hr1.2.1 (by omega) fl_X2_27 rfl dX2_follow_91 ?_
          refine lv_iload kx kb dX2_follow_94 (lv_at hl 6 rfl) ?_
          refine w_mmaxn X hl q3_126 (by omega) (by omega) ⟨by decide, by decide⟩ (Nat.le_of_ble_eq_true rfl) ⟨Nat.zero_le _, Nat.zero_le _⟩ dX2_follow_96 ?_
          refine w_put X M h 249 hr1.2.1 (by omega) fp_X2_27 (rfl) (by rfl) (Nat.le_of_ble_eq_true rfl) dX2_follow_99 (fun F10 H locs h he_F10 hf_F10 => ?_)
          refine lv_iconst (v := nI 0) kx kb dX2_follow_102 (by decide) ?_
          exact w_zret X h (Or.inl (by decide)) (by rw [show sxN i - k = (sxN i - (k + 1)) + 1 by omega, flF, if_neg c_4, if_neg c_9, if_neg c_3] at hS; rw [← hS]; exact ⟨bI_fn (fun z => by cases z), ⟨by omega, he_F10, ⟨by omega, ((hf_F10 250 (by omega)).trans hr1.2.2.1.2.1), (hr1.2.2.1.2.2.fr (hf_F10 251 (by omega)))⟩, ⟨by omega, ((hf_F10 252 (by omega)).trans hr1.2.2.2.2.1), (hr1.2.2.2.2.2.fr (hf_F10 253 (by omega)))⟩⟩, (fun i hi => (hf_F10 i (by omega)).trans (hfr i (by omega)))⟩) dX2_follow_103
        · refine lv_aload_n kx kb dX2_follow_58 rfl (lv_at hl 2 rfl) ?_
          refine lv_aload_n kx kb dX2_follow_59 rfl (lv_at hl 3 rfl) ?_
          refine lv_iload kx kb dX2_follow_60 (lv_at hl 6 rfl) ?_
          refine lv_iload kx kb dX2_follow_62 (lv_at hl 1 rfl) ?_
          refine lv_bipush (v := nI 37) kx kb dX2_follow_64 (by decide) ?_
          refine lv_icmp_ne (tgt := 73) kx kb dX2_follow_66 (by decide) (fun c_11 => (c_11 c_9).elim) (fun c_11 => ?_)
          refine lv_iconst (v := nI 1) kx kb dX2_follow_69 (by decide) ?_
          refine lv_goto (tgt := 74) kx kb dX2_follow_70 (by decide) ?_
          refine lv_iload kx kb dX2_follow_74 (lv_at hl 7 rfl) ?_
          refine w_callVi X M h [.ref (ad 245), .int (nI ps), .int (nI 1), .int (nI pl)] [] ((c_X2_takeNumber l g n a (by omega) ⟨by omega, ((hfr 245 (by omega)).trans ht.2.1), (ht.2.2.fr (hfr 246 (by omega)))⟩ rc re kd nm1 ⟨by omega, hr1.2.1, ⟨by omega, hr1.2.2.1.2.1, hr1.2.2.1.2.2⟩, ⟨by omega, hr1.2.2.2.2.1, hr1.2.2.2.2.2⟩⟩ ps (by omega) (nI 1) pl (by omega) (by omega))) lk_X2_67 hr1.2.1 (by omega) rfl rfl ⟨by decide, by decide⟩ hl ⟨Nat.zero_le _, Nat.zero_le _⟩ (Nat.le_of_ble_eq_true rfl) rfl dX2_follow_76 (fun r_F12 F12 H locs hp_F12 h => ?_)
          refine w_top (y := nI (tkF n a ps (nI 1) pl rc nm1).1) hp_F12.1 ?_
          have htk_F12 := tkF_le n a ps (nI 1) pl rc nm1
          refine lv_istore (lv' := [(8, .int (nI ((tkF n a ps (nI 1) pl rc nm1).1))), (7, .int (sxB i k)), (0, .ref (ad 249)), (1, .ref (ad 245)), (2, .int (nI st)), (3, .ref (g.2.2.2.2.2.1 i)), (4, .int (nI ps)), (5, .int (nI pl)), (6, .int (nI k))]) kx kb dX2_follow_79 hl (by decide) rfl (fun ls hl => ?_)
          refine lv_iinc (v := nI (pl + 1)) (lv' := [(5, .int (nI (pl + 1))), (8, .int (nI ((tkF n a ps (nI 1) pl rc nm1).1))), (7, .int (sxB i k)), (0, .ref (ad 249)), (1, .ref (ad 245)), (2, .int (nI st)), (3, .ref (g.2.2.2.2.2.1 i)), (4, .int (nI ps)), (6, .int (nI k))]) kx kb dX2_follow_81 hl (k := 7) rfl (nI_add _ _) (by decide) rfl (fun ls hl => ?_)
          refine lv_iload kx kb dX2_follow_84 (lv_at hl 1 rfl) ?_
          refine w_if_ne (tgt := 104) kx kb (by omega) dX2_follow_86 (by decide) (fun c_13 => ?_) (fun c_13 => ?_)
          · refine lv_iload kx kb dX2_follow_104 (lv_at hl 7 rfl) ?_
            refine lv_iload kx kb dX2_follow_106 (lv_at hl 1 rfl) ?_
            refine w_addn kx kb dX2_follow_108 ?_
            refine lv_istore (lv' := [(4, .int (nI (ps + ((tkF n a ps (nI 1) pl rc nm1).1)))), (5, .int (nI (pl + 1))), (8, .int (nI ((tkF n a ps (nI 1) pl rc nm1).1))), (7, .int (sxB i k)), (0, .ref (ad 249)), (1, .ref (ad 245)), (2, .int (nI st)), (3, .ref (g.2.2.2.2.2.1 i)), (6, .int (nI k))]) kx kb dX2_follow_109 hl (by decide) rfl (fun ls hl => ?_)
            refine lv_iinc (v := nI (k + 1)) (lv' := [(6, .int (nI (k + 1))), (4, .int (nI (ps + ((tkF n a ps (nI 1) pl rc nm1).1)))), (5, .int (nI (pl + 1))), (8, .int (nI ((tkF n a ps (nI 1) pl rc nm1).1))), (7, .int (sxB i k)), (0, .ref (ad 249)), (1, .ref (ad 245)), (2, .int (nI st)), (3, .ref (g.2.2.2.2.2.1 i))]) kx kb dX2_follow_111 hl (k := 8) rfl (nI_add _ _) (by decide) rfl (fun ls hl => ?_)
            refine lv_goto (tgt := 9) kx kb dX2_follow_114 (by decide) ?_
            exact ih (k + 1) (ps + ((tkF n a ps (nI 1) pl rc nm1).1)) (pl + 1) ((tkF n a ps (nI 1) pl rc nm1).2) F12 _ _ _ ⟨h, lv_sub hl [5, 6, 7, 8, 1, 2, 0] rfl, by omega, by omega, by omega, ⟨by omega, hp_F12.2.1.2.1, ⟨by omega, hp_F12.2.1.2.2.1.2.1, hp_F12.2.1.2.2.1.2.2⟩, ⟨by omega, hp_F12.2.1.2.2.2.2.1, hp_F12.2.1.2.2.2.2.2⟩⟩, (fun i hi => (hp_F12.2.2 i (by omega)).trans (hfr i (by omega))), by rw [show sxN i - k = (sxN i - (k + 1)) + 1 by omega, flF, if_neg c_4, if_pos c_9, if_neg (Nat.ne_of_gt c_13)] at hS; exact hS⟩ (by omega)
          · refine lv_aload_n kx kb dX2_follow_89 rfl (lv_at hl 3 rfl) ?_
            refine lv_aload_n kx kb dX2_follow_90 rfl (lv_at hl 3 rfl) ?_
            refine w_get X M h 249 hp_F12.2.1.2.1 (by omega) fl_X2_27 rfl dX2_follow_91 ?_
            refine lv_iload kx kb dX2_follow_94 (lv_at hl 7 rfl) ?_
            refine w_mmaxn X hl q3_126 (by omega) (by omega) ⟨by decide, by decide⟩ (Nat.le_of_ble_eq_true rfl) ⟨Nat.zero_le _, Nat.zero_le _⟩ dX2_follow_96 ?_
            refine w_put X M h 249 hp_F12.2.1.2.1 (by omega) fp_X2_27 (rfl) (by rfl) (Nat.le_of_ble_eq_true rfl) dX2_follow_99 (fun F14 H locs h he_F14 hf_F14 => ?_)
            refine lv_iconst (v := nI 0) kx kb dX2_follow_102 (by decide) ?_
            exact w_zret X h (Or.inl (by decide)) (by rw [show sxN i - k = (sxN i - (k + 1)) + 1 by omega, flF, if_neg c_4, if_pos c_9, if_pos c_13] at hS; rw [← hS]; exact ⟨bI_fn (fun z => by cases z), ⟨by omega, he_F14, ⟨by omega, ((hf_F14 250 (by omega)).trans hp_F12.2.1.2.2.1.2.1), (hp_F12.2.1.2.2.1.2.2.fr (hf_F14 251 (by omega)))⟩, ⟨by omega, ((hf_F14 252 (by omega)).trans hp_F12.2.1.2.2.2.2.1), (hp_F12.2.1.2.2.2.2.2.fr (hf_F14 253 (by omega)))⟩⟩, (fun i hi => (hf_F14 i (by omega)).trans ((hp_F12.2.2 i (by omega)).trans (hfr i (by omega))))⟩) dX2_follow_103
    · refine lv_iconst (v := nI 1) kx kb dX2_follow_37 (by decide) ?_
      refine lv_goto (tgt := 42) kx kb dX2_follow_38 (by decide) ?_
      refine lv_istore (lv' := [(8, .int (nI 1)), (7, .int (sxB i k)), (0, .ref (ad 249)), (1, .ref (ad 245)), (2, .int (nI st)), (3, .ref (g.2.2.2.2.2.1 i)), (4, .int (nI ps)), (5, .int (nI pl)), (6, .int (nI k))]) kx kb dX2_follow_42 hl (by decide) rfl (fun ls hl => ?_)
      refine lv_iload kx kb dX2_follow_44 (lv_at hl 1 rfl) ?_
      refine lv_bipush (v := nI 35) kx kb dX2_follow_46 (by decide) ?_
      refine lv_icmp_eq (tgt := 58) kx kb dX2_follow_48 (by decide) (fun c_15 => ?_) (fun c_15 => ?_)
      · refine lv_aload_n kx kb dX2_follow_58 rfl (lv_at hl 2 rfl) ?_
        refine lv_aload_n kx kb dX2_follow_59 rfl (lv_at hl 3 rfl) ?_
        refine lv_iload kx kb dX2_follow_60 (lv_at hl 6 rfl) ?_
        refine lv_iload kx kb dX2_follow_62 (lv_at hl 1 rfl) ?_
        refine lv_bipush (v := nI 37) kx kb dX2_follow_64 (by decide) ?_
        refine lv_icmp_ne (tgt := 73) kx kb dX2_follow_66 (by decide) (fun c_16 => ?_) (fun c_16 => (show False from absurd (c_15.symm.trans c_16) (by decide)).elim)
        refine lv_iconst (v := nI 0) kx kb dX2_follow_73 (by decide) ?_
        refine lv_iload kx kb dX2_follow_74 (lv_at hl 7 rfl) ?_
        refine w_callVi X M h [.ref (ad 245), .int (nI ps), .int (nI 0), .int (nI pl)] [] ((c_X2_takeNumber l g n a (by omega) ⟨by omega, ((hfr 245 (by omega)).trans ht.2.1), (ht.2.2.fr (hfr 246 (by omega)))⟩ rc re kd nm1 ⟨by omega, hr1.2.1, ⟨by omega, hr1.2.2.1.2.1, hr1.2.2.1.2.2⟩, ⟨by omega, hr1.2.2.2.2.1, hr1.2.2.2.2.2⟩⟩ ps (by omega) (nI 0) pl (by omega) (by omega))) lk_X2_67 hr1.2.1 (by omega) rfl rfl ⟨by decide, by decide⟩ hl ⟨Nat.zero_le _, Nat.zero_le _⟩ (Nat.le_of_ble_eq_true rfl) rfl dX2_follow_76 (fun r_F17 F17 H locs hp_F17 h => ?_)
        refine w_top (y := nI (tkF n a ps (nI 0) pl rc nm1).1) hp_F17.1 ?_
        have htk_F17 := tkF_le n a ps (nI 0) pl rc nm1
        refine lv_istore (lv' := [(8, .int (nI ((tkF n a ps (nI 0) pl rc nm1).1))), (7, .int (sxB i k)), (0, .ref (ad 249)), (1, .ref (ad 245)), (2, .int (nI st)), (3, .ref (g.2.2.2.2.2.1 i)), (4, .int (nI ps)), (5, .int (nI pl)), (6, .int (nI k))]) kx kb dX2_follow_79 hl (by decide) rfl (fun ls hl => ?_)
        refine lv_iinc (v := nI (pl + 1)) (lv' := [(5, .int (nI (pl + 1))), (8, .int (nI ((tkF n a ps (nI 0) pl rc nm1).1))), (7, .int (sxB i k)), (0, .ref (ad 249)), (1, .ref (ad 245)), (2, .int (nI st)), (3, .ref (g.2.2.2.2.2.1 i)), (4, .int (nI ps)), (6, .int (nI k))]) kx kb dX2_follow_81 hl (k := 7) rfl (nI_add _ _) (by decide) rfl (fun ls hl => ?_)
        refine lv_iload kx kb dX2_follow_84 (lv_at hl 1 rfl) ?_
        refine w_if_ne (tgt := 104) kx kb (by omega) dX2_follow_86 (by decide) (fun c_18 => ?_) (fun c_18 => ?_)
        · refine lv_iload kx kb dX2_follow_104 (lv_at hl 7 rfl) ?_
          refine lv_iload kx kb dX2_follow_106 (lv_at hl 1 rfl) ?_
          refine w_addn kx kb dX2_follow_108 ?_
          refine lv_istore (lv' := [(4, .int (nI (ps + ((tkF n a ps (nI 0) pl rc nm1).1)))), (5, .int (nI (pl + 1))), (8, .int (nI ((tkF n a ps (nI 0) pl rc nm1).1))), (7, .int (sxB i k)), (0, .ref (ad 249)), (1, .ref (ad 245)), (2, .int (nI st)), (3, .ref (g.2.2.2.2.2.1 i)), (6, .int (nI k))]) kx kb dX2_follow_109 hl (by decide) rfl (fun ls hl => ?_)
          refine lv_iinc (v := nI (k + 1)) (lv' := [(6, .int (nI (k + 1))), (4, .int (nI (ps + ((tkF n a ps (nI 0) pl rc nm1).1)))), (5, .int (nI (pl + 1))), (8, .int (nI ((tkF n a ps (nI 0) pl rc nm1).1))), (7, .int (sxB i k)), (0, .ref (ad 249)), (1, .ref (ad 245)), (2, .int (nI st)), (3, .ref (g.2.2.2.2.2.1 i))]) kx kb dX2_follow_111 hl (k := 8) rfl (nI_add _ _) (by decide) rfl (fun ls hl => ?_)
          refine lv_goto (tgt := 9) kx kb dX2_follow_114 (by decide) ?_
          exact ih (k + 1) (ps + ((tkF n a ps (nI 0) pl rc nm1).1)) (pl + 1) ((tkF n a ps (nI 0) pl rc nm1).2) F17 _ _ _ ⟨h, lv_sub hl [5, 6, 7, 8, 1, 2, 0] rfl, by omega, by omega, by omega, ⟨by omega, hp_F17.2.1.2.1, ⟨by omega, hp_F17.2.1.2.2.1.2.1, hp_F17.2.1.2.2.1.2.2⟩, ⟨by omega, hp_F17.2.1.2.2.2.2.1, hp_F17.2.1.2.2.2.2.2⟩⟩, (fun i hi => (hp_F17.2.2 i (by omega)).trans (hfr i (by omega))), by rw [show sxN i - k = (sxN i - (k + 1)) + 1 by omega, flF, if_pos c_15, if_neg (Nat.ne_of_gt c_18)] at hS; exact hS⟩ (by omega)
        · refine lv_aload_n kx kb dX2_follow_89 rfl (lv_at hl 3 rfl) ?_
          refine lv_aload_n kx kb dX2_follow_90 rfl (lv_at hl 3 rfl) ?_
          refine w_get X M h 249 hp_F17.2.1.2.1 (by omega) fl_X2_27 rfl dX2_follow_91 ?_
          refine lv_iload kx kb dX2_follow_94 (lv_at hl 7 rfl) ?_
          refine w_mmaxn X hl q3_126 (by omega) (by omega) ⟨by decide, by decide⟩ (Nat.le_of_ble_eq_true rfl) ⟨Nat.zero_le _, Nat.zero_le _⟩ dX2_follow_96 ?_
          refine w_put X M h 249 hp_F17.2.1.2.1 (by omega) fp_X2_27 (rfl) (by rfl) (Nat.le_of_ble_eq_true rfl) dX2_follow_99 (fun F19 H locs h he_F19 hf_F19 => ?_)
          refine lv_iconst (v := nI 0) kx kb dX2_follow_102 (by decide) ?_
          exact w_zret X h (Or.inl (by decide)) (by rw [show sxN i - k = (sxN i - (k + 1)) + 1 by omega, flF, if_pos c_15, if_pos c_18] at hS; rw [← hS]; exact ⟨bI_fn (fun z => by cases z), ⟨by omega, he_F19, ⟨by omega, ((hf_F19 250 (by omega)).trans hp_F17.2.1.2.2.1.2.1), (hp_F17.2.1.2.2.1.2.2.fr (hf_F19 251 (by omega)))⟩, ⟨by omega, ((hf_F19 252 (by omega)).trans hp_F17.2.1.2.2.2.2.1), (hp_F17.2.1.2.2.2.2.2.fr (hf_F19 253 (by omega)))⟩⟩, (fun i hi => (hf_F19 i (by omega)).trans ((hp_F17.2.2 i (by omega)).trans (hfr i (by omega))))⟩) dX2_follow_103
      · refine lv_iload kx kb dX2_follow_51 (lv_at hl 1 rfl) ?_
        refine lv_bipush (v := nI 37) kx kb dX2_follow_53 (by decide) ?_
        refine lv_icmp_ne (tgt := 84) kx kb dX2_follow_55 (by decide) (fun c_20 => ?_) (fun c_20 => ?_)
        · refine lv_iload kx kb dX2_follow_84 (lv_at hl 0 rfl) ?_
          refine lv_if_ne (tgt := 104) kx kb dX2_follow_86 (by decide) (fun _ => ?_) (fun q => absurd q (by decide))
          refine lv_iload kx kb dX2_follow_104 (lv_at hl 6 rfl) ?_
          refine lv_iload kx kb dX2_follow_106 (lv_at hl 0 rfl) ?_
          refine w_addn kx kb dX2_follow_108 ?_
          refine lv_istore (lv' := [(4, .int (nI (ps + 1))), (8, .int (nI 1)), (7, .int (sxB i k)), (0, .ref (ad 249)), (1, .ref (ad 245)), (2, .int (nI st)), (3, .ref (g.2.2.2.2.2.1 i)), (5, .int (nI pl)), (6, .int (nI k))]) kx kb dX2_follow_109 hl (by decide) rfl (fun ls hl => ?_)
          refine lv_iinc (v := nI (k + 1)) (lv' := [(6, .int (nI (k + 1))), (4, .int (nI (ps + 1))), (8, .int (nI 1)), (7, .int (sxB i k)), (0, .ref (ad 249)), (1, .ref (ad 245)), (2, .int (nI st)), (3, .ref (g.2.2.2.2.2.1 i)), (5, .int (nI pl))]) kx kb dX2_follow_111 hl (k := 8) rfl (nI_add _ _) (by decide) rfl (fun ls hl => ?_)
          refine lv_goto (tgt := 9) kx kb dX2_follow_114 (by decide) ?_
          exact ih (k + 1) (ps + 1) pl nm1 F1 _ _ _ ⟨h, lv_sub hl [4, 5, 6, 7, 1, 8, 0] rfl, by omega, by omega, by omega, ⟨by omega, hr1.2.1, ⟨by omega, hr1.2.2.1.2.1, hr1.2.2.1.2.2⟩, ⟨by omega, hr1.2.2.2.2.1, hr1.2.2.2.2.2⟩⟩, (fun i hi => hfr i (by omega)), by rw [show sxN i - k = (sxN i - (k + 1)) + 1 by omega, flF, if_neg c_15, if_neg c_20, if_pos c_3] at hS; exact hS⟩ (by omega)
        · refine lv_aload_n kx kb dX2_follow_58 rfl (lv_at hl 2 rfl) ?_
          refine lv_aload_n kx kb dX2_follow_59 rfl (lv_at hl 3 rfl) ?_
          refine lv_iload kx kb dX2_follow_60 (lv_at hl 6 rfl) ?_
          refine lv_iload kx kb dX2_follow_62 (lv_at hl 1 rfl) ?_
          refine lv_bipush (v := nI 37) kx kb dX2_follow_64 (by decide) ?_
          refine lv_icmp_ne (tgt := 73) kx kb dX2_follow_66 (by decide) (fun c_21 => (c_21 c_20).elim) (fun c_21 => ?_)
          refine lv_iconst (v := nI 1) kx kb dX2_follow_69 (by decide) ?_
          refine lv_goto (tgt := 74) kx kb dX2_follow_70 (by decide) ?_
          refine lv_iload kx kb dX2_follow_74 (lv_at hl 7 rfl) ?_
          refine w_callVi X M h [.ref (ad 245), .int (nI ps), .int (nI 1), .int (nI pl)] [] ((c_X2_takeNumber l g n a (by omega) ⟨by omega, ((hfr 245 (by omega)).trans ht.2.1), (ht.2.2.fr (hfr 246 (by omega)))⟩ rc re kd nm1 ⟨by omega, hr1.2.1, ⟨by omega, hr1.2.2.1.2.1, hr1.2.2.1.2.2⟩, ⟨by omega, hr1.2.2.2.2.1, hr1.2.2.2.2.2⟩⟩ ps (by omega) (nI 1) pl (by omega) (by omega))) lk_X2_67 hr1.2.1 (by omega) rfl rfl ⟨by decide, by decide⟩ hl ⟨Nat.zero_le _, Nat.zero_le _⟩ (Nat.le_of_ble_eq_true rfl) rfl dX2_follow_76 (fun r_F22 F22 H locs hp_F22 h => ?_)
          refine w_top (y := nI (tkF n a ps (nI 1) pl rc nm1).1) hp_F22.1 ?_
          have htk_F22 := tkF_le n a ps (nI 1) pl rc nm1
          refine lv_istore (lv' := [(8, .int (nI ((tkF n a ps (nI 1) pl rc nm1).1))), (7, .int (sxB i k)), (0, .ref (ad 249)), (1, .ref (ad 245)), (2, .int (nI st)), (3, .ref (g.2.2.2.2.2.1 i)), (4, .int (nI ps)), (5, .int (nI pl)), (6, .int (nI k))]) kx kb dX2_follow_79 hl (by decide) rfl (fun ls hl => ?_)
          refine lv_iinc (v := nI (pl + 1)) (lv' := [(5, .int (nI (pl + 1))), (8, .int (nI ((tkF n a ps (nI 1) pl rc nm1).1))), (7, .int (sxB i k)), (0, .ref (ad 249)), (1, .ref (ad 245)), (2, .int (nI st)), (3, .ref (g.2.2.2.2.2.1 i)), (4, .int (nI ps)), (6, .int (nI k))]) kx kb dX2_follow_81 hl (k := 7) rfl (nI_add _ _) (by decide) rfl (fun ls hl => ?_)
          refine lv_iload kx kb dX2_follow_84 (lv_at hl 1 rfl) ?_
          refine w_if_ne (tgt := 104) kx kb (by omega) dX2_follow_86 (by decide) (fun c_23 => ?_) (fun c_23 => ?_)
          · refine lv_iload kx kb dX2_follow_104 (lv_at hl 7 rfl) ?_
            refine lv_iload kx kb dX2_follow_106 (lv_at hl 1 rfl) ?_
            refine w_addn kx kb dX2_follow_108 ?_
            refine lv_istore (lv' := [(4, .int (nI (ps + ((tkF n a ps (nI 1) pl rc nm1).1)))), (5, .int (nI (pl + 1))), (8, .int (nI ((tkF n a ps (nI 1) pl rc nm1).1))), (7, .int (sxB i k)), (0, .ref (ad 249)), (1, .ref (ad 245)), (2, .int (nI st)), (3, .ref (g.2.2.2.2.2.1 i)), (6, .int (nI k))]) kx kb dX2_follow_109 hl (by decide) rfl (fun ls hl => ?_)
            refine lv_iinc (v := nI (k + 1)) (lv' := [(6, .int (nI (k + 1))), (4, .int (nI (ps + ((tkF n a ps (nI 1) pl rc nm1).1)))), (5, .int (nI (pl + 1))), (8, .int (nI ((tkF n a ps (nI 1) pl rc nm1).1))), (7, .int (sxB i k)), (0, .ref (ad 249)), (1, .ref (ad 245)), (2, .int (nI st)), (3, .ref (g.2.2.2.2.2.1 i))]) kx kb dX2_follow_111 hl (k := 8) rfl (nI_add _ _) (by decide) rfl (fun ls hl => ?_)
            refine lv_goto (tgt := 9) kx kb dX2_follow_114 (by decide) ?_
            exact ih (k + 1) (ps + ((tkF n a ps (nI 1) pl rc nm1).1)) (pl + 1) ((tkF n a ps (nI 1) pl rc nm1).2) F22 _ _ _ ⟨h, lv_sub hl [5, 6, 7, 8, 1, 2, 0] rfl, by omega, by omega, by omega, ⟨by omega, hp_F22.2.1.2.1, ⟨by omega, hp_F22.2.1.2.2.1.2.1, hp_F22.2.1.2.2.1.2.2⟩, ⟨by omega, hp_F22.2.1.2.2.2.2.1, hp_F22.2.1.2.2.2.2.2⟩⟩, (fun i hi => (hp_F22.2.2 i (by omega)).trans (hfr i (by omega))), by rw [show sxN i - k = (sxN i - (k + 1)) + 1 by omega, flF, if_neg c_15, if_pos c_20, if_neg (Nat.ne_of_gt c_23)] at hS; exact hS⟩ (by omega)
          · refine lv_aload_n kx kb dX2_follow_89 rfl (lv_at hl 3 rfl) ?_
            refine lv_aload_n kx kb dX2_follow_90 rfl (lv_at hl 3 rfl) ?_
            refine w_get X M h 249 hp_F22.2.1.2.1 (by omega) fl_X2_27 rfl dX2_follow_91 ?_
            refine lv_iload kx kb dX2_follow_94 (lv_at hl 7 rfl) ?_
            refine w_mmaxn X hl q3_126 (by omega) (by omega) ⟨by decide, by decide⟩ (Nat.le_of_ble_eq_true rfl) ⟨Nat.zero_le _, Nat.zero_le _⟩ dX2_follow_96 ?_
            refine w_put X M h 249 hp_F22.2.1.2.1 (by omega) fp_X2_27 (rfl) (by rfl) (Nat.le_of_ble_eq_true rfl) dX2_follow_99 (fun F24 H locs h he_F24 hf_F24 => ?_)
            refine lv_iconst (v := nI 0) kx kb dX2_follow_102 (by decide) ?_
            exact w_zret X h (Or.inl (by decide)) (by rw [show sxN i - k = (sxN i - (k + 1)) + 1 by omega, flF, if_neg c_15, if_pos c_20, if_pos c_23] at hS; rw [← hS]; exact ⟨bI_fn (fun z => by cases z), ⟨by omega, he_F24, ⟨by omega, ((hf_F24 250 (by omega)).trans hp_F22.2.1.2.2.1.2.1), (hp_F22.2.1.2.2.1.2.2.fr (hf_F24 251 (by omega)))⟩, ⟨by omega, ((hf_F24 252 (by omega)).trans hp_F22.2.1.2.2.2.2.1), (hp_F22.2.1.2.2.2.2.2.fr (hf_F24 253 (by omega)))⟩⟩, (fun i hi => (hf_F24 i (by omega)).trans ((hp_F22.2.2 i (by omega)).trans (hfr i (by omega))))⟩) dX2_follow_103
