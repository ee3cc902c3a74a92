set_option maxRecDepth 20000 in
theorem c_X8_isBetween (l : Launch) (g : gT) {N : Nat} {ad : Nat → Nat} {F : Nat → va_E} (a lo hi : Int32) : CtI l yX8_isBetween cX8_isBetween 3 (some .boolean) 0 0 g N ad F [.int a, .int lo, .int hi] (fun r F' => r = (bI (inW a lo hi)) ∧ F' = F) := by
  refine CtI_of (by decide) (Nat.le_of_ble_eq_true rfl) ?_
  intro p e s m args below meth c A H ls X M h hl
  have kx := X.1.1
  have kb := X.1.2.1
  have hl : lv_has ls 3 [(0, .int a), (1, .int lo), (2, .int hi)] := hl
  refine lv_iload_n kx kb dX8_isBetween_0 rfl (lv_at hl 1 rfl) ?_
  refine lv_iload_n kx kb dX8_isBetween_1 rfl (lv_at hl 0 rfl) ?_
  refine lv_icmp_gt (tgt := 14) kx kb dX8_isBetween_2 (by decide) (fun c_1 => ?_) (fun c_1 => ?_)
  · refine lv_iconst (v := nI 0) kx kb dX8_isBetween_14 (by decide) ?_
    exact w_zret X h (Or.inl (by decide)) ⟨bI_fn (fun z => z.1 c_1), rfl⟩ dX8_isBetween_15
  · refine lv_iload_n kx kb dX8_isBetween_5 rfl (lv_at hl 0 rfl) ?_
    refine lv_iload_n kx kb dX8_isBetween_6 rfl (lv_at hl 2 rfl) ?_
    refine lv_icmp_gt (tgt := 14) kx kb dX8_isBetween_7 (by decide) (fun c_2 => ?_) (fun c_2 => ?_)
    · refine lv_iconst (v := nI 0) kx kb dX8_isBetween_14 (by decide) ?_
      exact w_zret X h (Or.inl (by decide)) ⟨bI_fn (fun z => z.2 c_2), rfl⟩ dX8_isBetween_15
    · refine lv_iconst (v := nI 1) kx kb dX8_isBetween_10 (by decide) ?_
      refine lv_goto (tgt := 15) kx kb dX8_isBetween_11 (by decide) ?_
      exact w_zret X h (Or.inr (by decide)) ⟨bI_tn ⟨c_1, c_2⟩, rfl⟩ dX8_isBetween_15
set_option maxRecDepth 20000 in
theorem c_X8_isWell (l : Launch) (g : gT) {N : Nat} {ad : Nat → Nat} {F : Nat → va_E} (a : Int32) : CtI l yX8_isWell cX8_isWell 1 (some .boolean) 1 22 g N ad F [.int a] (fun r F' => r = (bI (inW a (nI 0) (nI 3))) ∧ F' = F) := by
  refine CtI_of (by decide) (Nat.le_of_ble_eq_true rfl) ?_
  intro p e s m args below meth c A H ls X M h hl
  have kx := X.1.1
  have kb := X.1.2.1
  have hl : lv_has ls 1 [(0, .int a)] := hl
  refine lv_iload_n kx kb dX8_isWell_0 rfl (lv_at hl 0 rfl) ?_
  refine lv_iconst (v := nI 0) kx kb dX8_isWell_1 (by decide) ?_
  refine lv_iconst (v := nI 3) kx kb dX8_isWell_2 (by decide) ?_
  refine w_readSi X M h [.int a, .int (nI 0), .int (nI 3)] [] ((c_X8_isBetween l g a (nI 0) (nI 3))) lk_X8_19 rfl ⟨by decide, by decide⟩ hl ⟨Nat.zero_le _, Nat.zero_le _⟩ (Nat.le_of_ble_eq_true rfl) rfl dX8_isWell_3 (fun H locs h => ?_)
  exact w_zret X h (bI_01 _) ⟨rfl, rfl⟩ dX8_isWell_6
set_option maxRecDepth 20000 in
theorem c_X8_nextReach (l : Launch) (g : gT) {N : Nat} {ad : Nat → Nat} {F : Nat → va_E} (rc ln : Nat) (hr : rc + ln < 2147483648) : CtI l yX8_nextReach cX8_nextReach 2 (some .int) 0 0 g N ad F [.int (nI rc), .int (nI ln)] (fun r F' => r = (nI (min 30 (rc + ln))) ∧ F' = F) := by
  refine CtI_of (by decide) (Nat.le_of_ble_eq_true rfl) ?_
  intro p e s m args below meth c A H ls X M h hl
  have kx := X.1.1
  have kb := X.1.2.1
  have hl : lv_has ls 2 [(0, .int (nI rc)), (1, .int (nI ln))] := hl
  refine lv_iload_n kx kb dX8_nextReach_0 rfl (lv_at hl 0 rfl) ?_
  refine lv_iload_n kx kb dX8_nextReach_1 rfl (lv_at hl 1 rfl) ?_
  refine w_addn kx kb dX8_nextReach_2 ?_
  refine lv_bipush (v := nI 30) kx kb dX8_nextReach_3 (by decide) ?_
  refine w_cmp_ge (tgt := 14) kx kb (by omega) (by omega) dX8_nextReach_5 (by decide) (fun c_1 => ?_) (fun c_1 => ?_)
  · refine lv_bipush (v := nI 30) kx kb dX8_nextReach_14 (by decide) ?_
    exact w_iret X h ⟨congrArg nI (by omega), rfl⟩ dX8_nextReach_16
  · refine lv_iload_n kx kb dX8_nextReach_8 rfl (lv_at hl 0 rfl) ?_
    refine lv_iload_n kx kb dX8_nextReach_9 rfl (lv_at hl 1 rfl) ?_
    refine w_addn kx kb dX8_nextReach_10 ?_
    refine lv_goto (tgt := 16) kx kb dX8_nextReach_11 (by decide) ?_
    exact w_iret X h ⟨congrArg nI (by omega), rfl⟩ dX8_nextReach_16
set_option maxRecDepth 20000 in
theorem c_X8_isNot (l : Launch) (g : gT) {N : Nat} {ad : Nat → Nat} {F : Nat → va_E} (u : Nat → Int32) (v : Nat → Nat) (hm : oM g N ad F u v) (a b : Int32) : CtI l yX8_isNot cX8_isNot 3 (some .int) 0 0 g N ad F [.ref (ad 254), .int a, .int b] (fun r F' => r = -5 ∧ oM g N ad F' (uNot u (ntF a b)) v ∧ ∀ i, i ≠ 254 → F' i = F i) := by
  refine CtI_of (by decide) (Nat.le_of_ble_eq_true rfl) ?_
  intro p e s m args below meth c A H ls X M h hl
  have kx := X.1.1
  have kb := X.1.2.1
  have hl : lv_has ls 3 [(0, .ref (ad 254)), (1, .int a), (2, .int b)] := hl
  have hN0 := hm.1
  refine lv_aload_n kx kb dX8_isNot_0 rfl (lv_at hl 0 rfl) ?_
  refine lv_iload_n kx kb dX8_isNot_1 rfl (lv_at hl 1 rfl) ?_
  refine w_put X M h 254 hm.2 (by omega) fp_X8_1 (rfl) (by rfl) (Nat.le_of_ble_eq_true rfl) dX8_isNot_2 (fun F1 H locs h he_F1 hf_F1 => ?_)
  refine lv_aload_n kx kb dX8_isNot_5 rfl (lv_at hl 0 rfl) ?_
  refine lv_iload_n kx kb dX8_isNot_6 rfl (lv_at hl 2 rfl) ?_
  refine w_put X M h 254 he_F1 (by omega) fp_X8_7 (rfl) (by rfl) (Nat.le_of_ble_eq_true rfl) dX8_isNot_7 (fun F2 H locs h he_F2 hf_F2 => ?_)
  refine lv_bipush (v := (-5)) kx kb dX8_isNot_10 (by decide) ?_
  exact w_iret X h ⟨rfl, ⟨by omega, he_F2⟩, (fun i hi => (hf_F2 i (by omega)).trans (hf_F1 i (by omega)))⟩ dX8_isNot_12
def uAns (u : Nat → Int32) (r : Int32) : Nat → Int32 := if r = -5 then (fun i => match i with | 0 => u 4 | 1 => u 5 | 2 => nI 0 | i => u i) else u
def reasonU (u : Nat → Int32) (d b : Int32) : Int32 := if inW d (nI 0) (nI 1) then (if u 0 = 0 then -3 else if d = 0 then (if b = 0 then u 0 else u 1) else if u 2 = 0 then -6 else if b = 0 then u 2 else u 3) else -2
set_option maxRecDepth 20000 in
theorem c_X8_answers (l : Launch) (g : gT) {N : Nat} {ad : Nat → Nat} {F : Nat → va_E} (u : Nat → Int32) (v : Nat → Nat) (hm : oM g N ad F u v) (a : Int32) : CtI l yX8_answers cX8_answers 2 (some .int) 0 0 g N ad F [.ref (ad 254), .int a] (fun r F' => r = a ∧ oM g N ad F' (uAns u a) v ∧ ∀ i, i ≠ 254 → F' i = F i) := by
  refine CtI_of (by decide) (Nat.le_of_ble_eq_true rfl) ?_
  intro p e s m args below meth c A H ls X M h hl
  have kx := X.1.1
  have kb := X.1.2.1
  have hl : lv_has ls 2 [(0, .ref (ad 254)), (1, .int a)] := hl
  have hN0 := hm.1
  refine lv_iload_n kx kb dX8_answers_0 rfl (lv_at hl 1 rfl) ?_
  refine lv_bipush (v := (-5)) kx kb dX8_answers_1 (by decide) ?_
  refine lv_icmp_eq (tgt := 8) kx kb dX8_answers_3 (by decide) (fun c_1 => ?_) (fun c_1 => ?_)
  · refine lv_aload_n kx kb dX8_answers_8 rfl (lv_at hl 0 rfl) ?_
    refine lv_aload_n kx kb dX8_answers_9 rfl (lv_at hl 0 rfl) ?_
    refine w_get X M h 254 hm.2 (by omega) fl_X8_1 rfl dX8_answers_10 ?_
    refine w_put X M h 254 hm.2 (by omega) fp_X8_10 (rfl) (by rfl) (Nat.le_of_ble_eq_true rfl) dX8_answers_13 (fun F2 H locs h he_F2 hf_F2 => ?_)
    refine lv_aload_n kx kb dX8_answers_16 rfl (lv_at hl 0 rfl) ?_
    refine lv_aload_n kx kb dX8_answers_17 rfl (lv_at hl 0 rfl) ?_
    refine w_get X M h 254 he_F2 (by omega) fl_X8_7 rfl dX8_answers_18 ?_
    refine w_put X M h 254 he_F2 (by omega) fp_X8_13 (rfl) (by rfl) (Nat.le_of_ble_eq_true rfl) dX8_answers_21 (fun F3 H locs h he_F3 hf_F3 => ?_)
    refine lv_aload_n kx kb dX8_answers_24 rfl (lv_at hl 0 rfl) ?_
    refine lv_iconst (v := nI 0) kx kb dX8_answers_25 (by decide) ?_
    refine w_put X M h 254 he_F3 (by omega) fp_X8_16 (rfl) (by rfl) (Nat.le_of_ble_eq_true rfl) dX8_answers_26 (fun F4 H locs h he_F4 hf_F4 => ?_)
    refine lv_iload_n kx kb dX8_answers_29 rfl (lv_at hl 1 rfl) ?_
    exact w_iret X h (by rw [show uAns u a = _ from if_pos c_1]; exact ⟨rfl, ⟨by omega, he_F4⟩, (fun i hi => (hf_F4 i (by omega)).trans ((hf_F3 i (by omega)).trans (hf_F2 i (by omega))))⟩) dX8_answers_30
  · refine lv_iload_n kx kb dX8_answers_6 rfl (lv_at hl 1 rfl) ?_
    exact w_iret X h (by rw [show uAns u a = _ from if_neg c_1]; exact ⟨rfl, ⟨by omega, hm.2⟩, (fun i hi => rfl)⟩) dX8_answers_7
set_option maxRecDepth 20000 in
theorem c_X8_reason (l : Launch) (g : gT) {N : Nat} {ad : Nat → Nat} {F : Nat → va_E} (u : Nat → Int32) (v : Nat → Nat) (hm : oM g N ad F u v) (d b : Int32) : CtI l yX8_reason cX8_reason 3 (some .int) 1 22 g N ad F [.ref (ad 254), .int d, .int b] (fun r F' => r = (reasonU u d b) ∧ F' = F) := by
  refine CtI_of (by decide) (Nat.le_of_ble_eq_true rfl) ?_
  intro p e s m args below meth c A H ls X M h hl
  have kx := X.1.1
  have kb := X.1.2.1
  have hl : lv_has ls 3 [(0, .ref (ad 254)), (1, .int d), (2, .int b)] := hl
  have hN0 := hm.1
  refine lv_iload_n kx kb dX8_reason_0 rfl (lv_at hl 1 rfl) ?_
  refine lv_iconst (v := nI 0) kx kb dX8_reason_1 (by decide) ?_
  refine lv_iconst (v := nI 1) kx kb dX8_reason_2 (by decide) ?_
  refine w_readSi X M h [.int d, .int (nI 0), .int (nI 1)] [] ((c_X8_isBetween l g d (nI 0) (nI 1))) lk_X8_19 rfl ⟨by decide, by decide⟩ hl ⟨Nat.zero_le _, Nat.zero_le _⟩ (Nat.le_of_ble_eq_true rfl) rfl dX8_reason_3 (fun H locs h => ?_)
  refine w_if_neb (tgt := 12) kx kb dX8_reason_6 (by decide) (fun c_1 => ?_) (fun c_1 => ?_)
  · refine lv_aload_n kx kb dX8_reason_12 rfl (lv_at hl 0 rfl) ?_
    refine w_get X M h 254 hm.2 (by omega) fl_X8_10 rfl dX8_reason_13 ?_
    refine lv_if_ne (tgt := 22) kx kb dX8_reason_16 (by decide) (fun c_2 => ?_) (fun c_2 => ?_)
    · refine lv_iload_n kx kb dX8_reason_22 rfl (lv_at hl 1 rfl) ?_
      refine lv_if_ne (tgt := 42) kx kb dX8_reason_23 (by decide) (fun c_3 => ?_) (fun c_3 => ?_)
      · refine lv_aload_n kx kb dX8_reason_42 rfl (lv_at hl 0 rfl) ?_
        refine w_get X M h 254 hm.2 (by omega) fl_X8_16 rfl dX8_reason_43 ?_
        refine lv_if_ne (tgt := 52) kx kb dX8_reason_46 (by decide) (fun c_4 => ?_) (fun c_4 => ?_)
        · refine lv_iload_n kx kb dX8_reason_52 rfl (lv_at hl 2 rfl) ?_
          refine lv_if_eq (tgt := 63) kx kb dX8_reason_53 (by decide) (fun c_5 => ?_) (fun c_5 => ?_)
          · refine lv_aload_n kx kb dX8_reason_63 rfl (lv_at hl 0 rfl) ?_
            refine w_get X M h 254 hm.2 (by omega) fl_X8_16 rfl dX8_reason_64 ?_
            exact w_iret X h ⟨by rw [reasonU, if_pos c_1, if_neg c_2, if_neg c_3, if_neg c_4, if_pos c_5], rfl⟩ dX8_reason_67
          · refine lv_aload_n kx kb dX8_reason_56 rfl (lv_at hl 0 rfl) ?_
            refine w_get X M h 254 hm.2 (by omega) fl_X8_23 rfl dX8_reason_57 ?_
            refine lv_goto (tgt := 67) kx kb dX8_reason_60 (by decide) ?_
            exact w_iret X h ⟨by rw [reasonU, if_pos c_1, if_neg c_2, if_neg c_3, if_neg c_4, if_neg c_5], rfl⟩ dX8_reason_67
        · refine lv_bipush (v := (-6)) kx kb dX8_reason_49 (by decide) ?_
          exact w_iret X h ⟨by rw [reasonU, if_pos c_1, if_neg c_2, if_neg c_3, if_pos c_4], rfl⟩ dX8_reason_51
      · refine lv_iload_n kx kb dX8_reason_26 rfl (lv_at hl 2 rfl) ?_
        refine lv_if_eq (tgt := 37) kx kb dX8_reason_27 (by decide) (fun c_6 => ?_) (fun c_6 => ?_)
        · refine lv_aload_n kx kb dX8_reason_37 rfl (lv_at hl 0 rfl) ?_
          refine w_get X M h 254 hm.2 (by omega) fl_X8_10 rfl dX8_reason_38 ?_
          exact w_iret X h ⟨by rw [reasonU, if_pos c_1, if_neg c_2, if_pos c_3, if_pos c_6], rfl⟩ dX8_reason_41
        · refine lv_aload_n kx kb dX8_reason_30 rfl (lv_at hl 0 rfl) ?_
          refine w_get X M h 254 hm.2 (by omega) fl_X8_13 rfl dX8_reason_31 ?_
          refine lv_goto (tgt := 41) kx kb dX8_reason_34 (by decide) ?_
          exact w_iret X h ⟨by rw [reasonU, if_pos c_1, if_neg c_2, if_pos c_3, if_neg c_6], rfl⟩ dX8_reason_41
    · refine lv_bipush (v := (-3)) kx kb dX8_reason_19 (by decide) ?_
      exact w_iret X h ⟨by rw [reasonU, if_pos c_1, if_pos c_2], rfl⟩ dX8_reason_21
  · refine lv_bipush (v := (-2)) kx kb dX8_reason_9 (by decide) ?_
    exact w_iret X h ⟨by rw [reasonU, if_neg c_1], rfl⟩ dX8_reason_11
set_option maxRecDepth 20000 in
theorem c_X8_is (l : Launch) (g : gT) {N : Nat} {ad : Nat → Nat} {F : Nat → va_E} (u : Nat → Int32) (v : Nat → Nat) (hm : oM g N ad F u v) (x : SX) (hI : Inv x) (W : Nat → Int32) (hW : arI g F 255 274 W) (hR : RW x W) (k q : Nat) (hk : k < x.1) (hq : q < 5) : CtI l yX8_is cX8_is 3 (some .int) 0 0 g N ad F [.ref (ad 254), .int (nI k), .int (nI q)] (fun r F' => r = (x.2.1 q k) ∧ F' = F) := by
  refine CtI_of (by decide) (Nat.le_of_ble_eq_true rfl) ?_
  intro p e s m args below meth c A H ls X M h hl
  have kx := X.1.1
  have kb := X.1.2.1
  have hl : lv_has ls 3 [(0, .ref (ad 254)), (1, .int (nI k)), (2, .int (nI q))] := hl
  have hN0 := hm.1
  have hn12 := hI.n
  have htn64 := hI.tn
  refine lv_aload_n kx kb dX8_is_0 rfl (lv_at hl 0 rfl) ?_
  refine w_get X M h 254 hm.2 (by omega) fl_X8_32 rfl dX8_is_1 ?_
  refine lv_bipush (v := nI 22) kx kb dX8_is_4 (by decide) ?_
  refine lv_iconst (v := nI 5) kx kb dX8_is_6 (by decide) ?_
  refine lv_iload_n kx kb dX8_is_7 rfl (lv_at hl 1 rfl) ?_
  refine w_muln kx kb dX8_is_8 ?_
  refine w_addn kx kb dX8_is_9 ?_
  refine lv_iload_n kx kb dX8_is_10 rfl (lv_at hl 2 rfl) ?_
  refine w_addn kx kb dX8_is_11 ?_
  refine w_iald X M h 255 hW (by omega) (22 + (5 * k) + q) (rfl) (by omega) (by omega) dX8_is_12 ?_
  exact w_iret X h ⟨hR.j k q hk hq, rfl⟩ dX8_is_13
set_option maxRecDepth 20000 in
theorem c_X8_isJoke (l : Launch) (g : gT) {N : Nat} {ad : Nat → Nat} {F : Nat → va_E} (u : Nat → Int32) (v : Nat → Nat) (hm : oM g N ad F u v) (x : SX) (hI : Inv x) (W : Nat → Int32) (hW : arI g F 255 274 W) (hR : RW x W) (a : Int32) : CtI l yX8_isJoke cX8_isJoke 2 (some .boolean) 1 22 g N ad F [.ref (ad 254), .int a] (fun r F' => r = (bI (hasJ x.1 a)) ∧ F' = F) := by
  refine CtI_of (by decide) (Nat.le_of_ble_eq_true rfl) ?_
  intro p e s m args below meth c A H ls X M h hl
  have kx := X.1.1
  have kb := X.1.2.1
  have hl : lv_has ls 2 [(0, .ref (ad 254)), (1, .int a)] := hl
  have hN0 := hm.1
  have hn12 := hI.n
  have htn64 := hI.tn
  refine lv_iload_n kx kb dX8_isJoke_0 rfl (lv_at hl 1 rfl) ?_
  refine lv_iconst (v := nI 0) kx kb dX8_isJoke_1 (by decide) ?_
  refine lv_aload_n kx kb dX8_isJoke_2 rfl (lv_at hl 0 rfl) ?_
  refine w_get X M h 254 hm.2 (by omega) fl_X8_32 rfl dX8_isJoke_3 ?_
  refine lv_iconst (v := nI 0) kx kb dX8_isJoke_6 (by decide) ?_
  refine w_iald X M h 255 hW (by omega) (0) (rfl) (by omega) (by omega) dX8_isJoke_7 ?_
  refine w_top (y := nI x.1) (hR.n) ?_
  refine lv_iconst (v := nI 1) kx kb dX8_isJoke_8 (by decide) ?_
  refine lv_isub kx kb dX8_isJoke_9 ?_
  refine w_readSi X M h [.int a, .int (nI 0), .int ((nI x.1) - (nI 1))] [] ((c_X8_isBetween l g a (nI 0) ((nI x.1) - (nI 1)))) lk_X8_19 rfl ⟨by decide, by decide⟩ hl ⟨Nat.zero_le _, Nat.zero_le _⟩ (Nat.le_of_ble_eq_true rfl) rfl dX8_isJoke_10 (fun H locs h => ?_)
  exact w_zret X h (bI_01 _) ⟨bI_cong (inW_has (by omega) a), rfl⟩ dX8_isJoke_13
set_option maxRecDepth 20000 in
theorem c_X8_isKnownSign (l : Launch) (g : gT) {N : Nat} {ad : Nat → Nat} {F : Nat → va_E} (u : Nat → Int32) (v : Nat → Nat) (hm : oM g N ad F u v) (x : SX) (hI : Inv x) (W : Nat → Int32) (hW : arI g F 255 274 W) (hR : RW x W) (k : Nat) (hk : k < 64) : CtI l yX8_isKnownSign cX8_isKnownSign 2 (some .boolean) 0 0 g N ad F [.ref (ad 254), .int (nI k)] (fun r F' => r = (bI (x.2.2.2.2.1 2 k = nI 1)) ∧ F' = F) := by
  refine CtI_of (by decide) (Nat.le_of_ble_eq_true rfl) ?_
  intro p e s m args below meth c A H ls X M h hl
  have kx := X.1.1
  have kb := X.1.2.1
  have hl : lv_has ls 2 [(0, .ref (ad 254)), (1, .int (nI k))] := hl
  have hN0 := hm.1
  have hn12 := hI.n
  have htn64 := hI.tn
  refine lv_aload_n kx kb dX8_isKnownSign_0 rfl (lv_at hl 0 rfl) ?_
  refine w_get X M h 254 hm.2 (by omega) fl_X8_32 rfl dX8_isKnownSign_1 ?_
  refine lv_bipush (v := nI 12) kx kb dX8_isKnownSign_4 (by decide) ?_
  refine lv_iload_n kx kb dX8_isKnownSign_6 rfl (lv_at hl 1 rfl) ?_
  refine lv_bipush (v := nI 32) kx kb dX8_isKnownSign_7 (by decide) ?_
  refine w_divn kx kb (by omega) (by omega) (by omega) dX8_isKnownSign_9 ?_
  refine w_addn kx kb dX8_isKnownSign_10 ?_
  refine w_iald X M h 255 hW (by omega) (12 + (k / 32)) (rfl) (by omega) (by omega) dX8_isKnownSign_11 ?_
  refine lv_iload_n kx kb dX8_isKnownSign_12 rfl (lv_at hl 1 rfl) ?_
  refine lv_bipush (v := nI 32) kx kb dX8_isKnownSign_13 (by decide) ?_
  refine w_remn kx kb (by omega) (by omega) (by omega) dX8_isKnownSign_15 ?_
  refine lv_ishr kx kb dX8_isKnownSign_16 ?_
  refine lv_iconst (v := nI 1) kx kb dX8_isKnownSign_17 (by decide) ?_
  refine lv_iand kx kb dX8_isKnownSign_18 ?_
  refine lv_iconst (v := nI 1) kx kb dX8_isKnownSign_19 (by decide) ?_
  refine lv_icmp_ne (tgt := 27) kx kb dX8_isKnownSign_20 (by decide) (fun c_1 => ?_) (fun c_1 => ?_)
  · refine lv_iconst (v := nI 0) kx kb dX8_isKnownSign_27 (by decide) ?_
    exact w_zret X h (Or.inl (by decide)) ⟨by rw [← hR.k k hk]; exact bI_fn c_1, rfl⟩ dX8_isKnownSign_28
  · refine lv_iconst (v := nI 1) kx kb dX8_isKnownSign_23 (by decide) ?_
    refine lv_goto (tgt := 28) kx kb dX8_isKnownSign_24 (by decide) ?_
    exact w_zret X h (Or.inr (by decide)) ⟨by rw [← hR.k k hk]; exact bI_tn c_1, rfl⟩ dX8_isKnownSign_28
set_option maxRecDepth 20000 in
theorem c_X8_jokesIn (l : Launch) (g : gT) {N : Nat} {ad : Nat → Nat} {F : Nat → va_E} (u : Nat → Int32) (v : Nat → Nat) (hm : oM g N ad F u v) (x : SX) (hI : Inv x) (W : Nat → Int32) (hW : arI g F 255 274 W) (hR : RW x W) (wl : Int32) : CtI l yX8_jokesIn cX8_jokesIn 4 (some .int) 1 22 g N ad F [.ref (ad 254), .int wl] (fun r F' => r = (nI (cnt (cwP x.2.1 wl (nI 30)) x.1)) ∧ F' = F) := by
  refine CtI_of (by decide) (Nat.le_of_ble_eq_true rfl) ?_
  intro p e s m args below meth c A H ls X M h hl
  have kx := X.1.1
  have kb := X.1.2.1
  have hl : lv_has ls 4 [(0, .ref (ad 254)), (1, .int wl)] := hl
  have hN0 := hm.1
  have hn12 := hI.n
  have htn64 := hI.tn
  refine lv_iconst (v := nI 0) kx kb dX8_jokesIn_0 (by decide) ?_
  refine lv_istore_n (lv' := [(2, .int (nI 0)), (0, .ref (ad 254)), (1, .int wl)]) kx kb dX8_jokesIn_1 rfl hl (by decide) rfl (fun ls hl => ?_)
  refine lv_iconst (v := nI 0) kx kb dX8_jokesIn_2 (by decide) ?_
  refine lv_istore_n (lv' := [(3, .int (nI 0)), (2, .int (nI 0)), (0, .ref (ad 254)), (1, .int wl)]) kx kb dX8_jokesIn_3 rfl hl (by decide) rfl (fun ls hl => ?_)
  refine w_loop2 (fun (k : Nat) (m : Nat) => x.1 - k) (fun (k : Nat) (m : Nat) H locs ls => Hx g N ad F A s H locs ∧ lv_has ls 4 [(0, .ref (ad 254)), (1, .int wl), (2, .int (nI m)), (3, .int (nI k))] ∧ (k ≤ x.1) ∧ (m = cnt (fun k => decide (x.2.1 0 k = wl)) k)) ?_ 0 0 ⟨h, lv_sub hl [2, 3, 1, 0] rfl, Nat.zero_le _, rfl⟩
  intro k m H locs ls hinv ih
  obtain ⟨h, hl, hk, hv⟩ := hinv
  refine lv_iload_n kx kb dX8_jokesIn_4 rfl (lv_at hl 3 rfl) ?_
  refine lv_aload_n kx kb dX8_jokesIn_5 rfl (lv_at hl 0 rfl) ?_
  refine w_get X M h 254 hm.2 (by omega) fl_X8_32 rfl dX8_jokesIn_6 ?_
  refine lv_iconst (v := nI 0) kx kb dX8_jokesIn_9 (by decide) ?_
  refine w_iald X M h 255 hW (by omega) (0) (rfl) (by omega) (by omega) dX8_jokesIn_10 ?_
  refine w_top (y := nI x.1) (hR.n) ?_
  refine w_cmp_ge (tgt := 38) kx kb (by omega) (by omega) dX8_jokesIn_11 (by decide) (fun c_1 => ?_) (fun c_1 => ?_)
  · refine lv_iload_n kx kb dX8_jokesIn_38 rfl (lv_at hl 2 rfl) ?_
    exact w_iret X h ⟨by rw [cnt_in hI, hv, show k = x.1 by omega], rfl⟩ dX8_jokesIn_39
  · refine lv_iload_n kx kb dX8_jokesIn_14 rfl (lv_at hl 2 rfl) ?_
    refine lv_aload_n kx kb dX8_jokesIn_15 rfl (lv_at hl 0 rfl) ?_
    refine lv_iload_n kx kb dX8_jokesIn_16 rfl (lv_at hl 3 rfl) ?_
    refine lv_iconst (v := nI 0) kx kb dX8_jokesIn_17 (by decide) ?_
    refine w_readVi X M h [.int (nI k), .int (nI 0)] [.int (nI m)] ((c_X8_is l g u v ⟨by omega, hm.2⟩ x hI W hW hR k 0 (by omega) (by omega))) lk_X8_73 hm.2 (by omega) rfl rfl ⟨by decide, by decide⟩ hl ⟨Nat.zero_le _, Nat.zero_le _⟩ (Nat.le_of_ble_eq_true rfl) rfl dX8_jokesIn_18 (fun H locs h => ?_)
    refine lv_iload_n kx kb dX8_jokesIn_21 rfl (lv_at hl 1 rfl) ?_
    refine lv_icmp_ne (tgt := 29) kx kb dX8_jokesIn_22 (by decide) (fun c_2 => ?_) (fun c_2 => ?_)
    · refine lv_iconst (v := nI 0) kx kb dX8_jokesIn_29 (by decide) ?_
      refine w_addn kx kb dX8_jokesIn_30 ?_
      refine lv_istore_n (lv' := [(2, .int (nI (m + 0))), (0, .ref (ad 254)), (1, .int wl), (3, .int (nI k))]) kx kb dX8_jokesIn_31 rfl hl (by decide) rfl (fun ls hl => ?_)
      refine lv_iinc (v := nI (k + 1)) (lv' := [(3, .int (nI (k + 1))), (2, .int (nI (m + 0))), (0, .ref (ad 254)), (1, .int wl)]) kx kb dX8_jokesIn_32 hl (k := 3) rfl (nI_add _ _) (by decide) rfl (fun ls hl => ?_)
      refine lv_goto (tgt := 4) kx kb dX8_jokesIn_35 (by decide) ?_
      exact ih (k + 1) (m + 0) _ _ _ ⟨h, lv_sub hl [2, 3, 1, 0] rfl, by omega, by rw [hv, cnt_f (by simp [c_2])]; rfl⟩ (by omega)
    · refine lv_iconst (v := nI 1) kx kb dX8_jokesIn_25 (by decide) ?_
      refine lv_goto (tgt := 30) kx kb dX8_jokesIn_26 (by decide) ?_
      refine w_addn kx kb dX8_jokesIn_30 ?_
      refine lv_istore_n (lv' := [(2, .int (nI (m + 1))), (0, .ref (ad 254)), (1, .int wl), (3, .int (nI k))]) kx kb dX8_jokesIn_31 rfl hl (by decide) rfl (fun ls hl => ?_)
      refine lv_iinc (v := nI (k + 1)) (lv' := [(3, .int (nI (k + 1))), (2, .int (nI (m + 1))), (0, .ref (ad 254)), (1, .int wl)]) kx kb dX8_jokesIn_32 hl (k := 3) rfl (nI_add _ _) (by decide) rfl (fun ls hl => ?_)
      refine lv_goto (tgt := 4) kx kb dX8_jokesIn_35 (by decide) ?_
      exact ih (k + 1) (m + 1) _ _ _ ⟨h, lv_sub hl [2, 3, 1, 0] rfl, by omega, by rw [hv, cnt_t (by simp [c_2])]⟩ (by omega)
set_option maxRecDepth 20000 in
theorem c_X8_jokeWith (l : Launch) (g : gT) {N : Nat} {ad : Nat → Nat} {F : Nat → va_E} (u : Nat → Int32) (v : Nat → Nat) (hm : oM g N ad F u v) (x : SX) (hI : Inv x) (W : Nat → Int32) (hW : arI g F 255 274 W) (hR : RW x W) (sg : Int32) : CtI l yX8_jokeWith cX8_jokeWith 3 (some .int) 1 22 g N ad F [.ref (ad 254), .int sg] (fun r F' => r = (ixO (fun k => decide (x.2.1 2 k = sg)) x.1) ∧ F' = F) := by
  refine CtI_of (by decide) (Nat.le_of_ble_eq_true rfl) ?_
  intro p e s m args below meth c A H ls X M h hl
  have kx := X.1.1
  have kb := X.1.2.1
  have hl : lv_has ls 3 [(0, .ref (ad 254)), (1, .int sg)] := hl
  have hN0 := hm.1
  have hn12 := hI.n
  have htn64 := hI.tn
  refine lv_iconst (v := nI 0) kx kb dX8_jokeWith_0 (by decide) ?_
  refine lv_istore_n (lv' := [(2, .int (nI 0)), (0, .ref (ad 254)), (1, .int sg)]) kx kb dX8_jokeWith_1 rfl hl (by decide) rfl (fun ls hl => ?_)
  refine w_loop1 (fun (k : Nat) => x.1 - k) (fun (k : Nat) H locs ls => Hx g N ad F A s H locs ∧ lv_has ls 3 [(0, .ref (ad 254)), (1, .int sg), (2, .int (nI k))] ∧ (k ≤ x.1) ∧ (∀ z, z < k → (fun k => decide (x.2.1 2 k = sg)) z = false)) ?_ 0 ⟨h, lv_sub hl [1, 2, 0] rfl, Nat.zero_le _, fun z hz => absurd hz (Nat.not_lt_zero z)⟩
  intro k H locs ls hinv ih
  obtain ⟨h, hl, hk, hno⟩ := hinv
  refine lv_iload_n kx kb dX8_jokeWith_2 rfl (lv_at hl 2 rfl) ?_
  refine lv_aload_n kx kb dX8_jokeWith_3 rfl (lv_at hl 0 rfl) ?_
  refine w_get X M h 254 hm.2 (by omega) fl_X8_32 rfl dX8_jokeWith_4 ?_
  refine lv_iconst (v := nI 0) kx kb dX8_jokeWith_7 (by decide) ?_
  refine w_iald X M h 255 hW (by omega) (0) (rfl) (by omega) (by omega) dX8_jokeWith_8 ?_
  refine w_top (y := nI x.1) (hR.n) ?_
  refine w_cmp_ge (tgt := 30) kx kb (by omega) (by omega) dX8_jokeWith_9 (by decide) (fun c_1 => ?_) (fun c_1 => ?_)
  · refine lv_iconst (v := (-1)) kx kb dX8_jokeWith_30 (by decide) ?_
    exact w_iret X h ⟨(ixO_no (fun z hz => hno z (by omega))).symm, rfl⟩ dX8_jokeWith_31
  · refine lv_aload_n kx kb dX8_jokeWith_12 rfl (lv_at hl 0 rfl) ?_
    refine lv_iload_n kx kb dX8_jokeWith_13 rfl (lv_at hl 2 rfl) ?_
    refine lv_iconst (v := nI 2) kx kb dX8_jokeWith_14 (by decide) ?_
    refine w_readVi X M h [.int (nI k), .int (nI 2)] [] ((c_X8_is l g u v ⟨by omega, hm.2⟩ x hI W hW hR k 2 (by omega) (by omega))) lk_X8_73 hm.2 (by omega) rfl rfl ⟨by decide, by decide⟩ hl ⟨Nat.zero_le _, Nat.zero_le _⟩ (Nat.le_of_ble_eq_true rfl) rfl dX8_jokeWith_15 (fun H locs h => ?_)
    refine lv_iload_n kx kb dX8_jokeWith_18 rfl (lv_at hl 1 rfl) ?_
    refine lv_icmp_ne (tgt := 24) kx kb dX8_jokeWith_19 (by decide) (fun c_2 => ?_) (fun c_2 => ?_)
    · refine lv_iinc (v := nI (k + 1)) (lv' := [(2, .int (nI (k + 1))), (0, .ref (ad 254)), (1, .int sg)]) kx kb dX8_jokeWith_24 hl (k := 2) rfl (nI_add _ _) (by decide) rfl (fun ls hl => ?_)
      refine lv_goto (tgt := 2) kx kb dX8_jokeWith_27 (by decide) ?_
      exact ih (k + 1) _ _ _ ⟨h, lv_sub hl [1, 2, 0] rfl, by omega, fun z hz => by
          rcases Nat.lt_or_ge z k with y | y
          · exact hno z y
          · have e : z = k := by omega
            subst e
            simp [c_2]⟩ (by omega)
    · refine lv_iload_n kx kb dX8_jokeWith_22 rfl (lv_at hl 2 rfl) ?_
      exact w_iret X h ⟨(ixO_at (by omega) hno (by simp [c_2])).symm, rfl⟩ dX8_jokeWith_23
set_option maxRecDepth 20000 in
theorem c_X8_jokeAt (l : Launch) (g : gT) {N : Nat} {ad : Nat → Nat} {F : Nat → va_E} (u : Nat → Int32) (v : Nat → Nat) (hm : oM g N ad F u v) (x : SX) (hI : Inv x) (W : Nat → Int32) (hW : arI g F 255 274 W) (hR : RW x W) (wl dp : Int32) : CtI l yX8_jokeAt cX8_jokeAt 4 (some .int) 1 22 g N ad F [.ref (ad 254), .int wl, .int dp] (fun r F' => r = (ixO (fun k => decide (x.2.1 0 k = wl ∧ x.2.1 1 k = dp)) x.1) ∧ F' = F) := by
  refine CtI_of (by decide) (Nat.le_of_ble_eq_true rfl) ?_
  intro p e s m args below meth c A H ls X M h hl
  have kx := X.1.1
  have kb := X.1.2.1
  have hl : lv_has ls 4 [(0, .ref (ad 254)), (1, .int wl), (2, .int dp)] := hl
  have hN0 := hm.1
  have hn12 := hI.n
  have htn64 := hI.tn
  refine lv_iconst (v := nI 0) kx kb dX8_jokeAt_0 (by decide) ?_
  refine lv_istore_n (lv' := [(3, .int (nI 0)), (0, .ref (ad 254)), (1, .int wl), (2, .int dp)]) kx kb dX8_jokeAt_1 rfl hl (by decide) rfl (fun ls hl => ?_)
  refine w_loop1 (fun (k : Nat) => x.1 - k) (fun (k : Nat) H locs ls => Hx g N ad F A s H locs ∧ lv_has ls 4 [(0, .ref (ad 254)), (1, .int wl), (2, .int dp), (3, .int (nI k))] ∧ (k ≤ x.1) ∧ (∀ z, z < k → (fun k => decide (x.2.1 0 k = wl ∧ x.2.1 1 k = dp)) z = false)) ?_ 0 ⟨h, lv_sub hl [1, 2, 3, 0] rfl, Nat.zero_le _, fun z hz => absurd hz (Nat.not_lt_zero z)⟩
  intro k H locs ls hinv ih
  obtain ⟨h, hl, hk, hno⟩ := hinv
  refine lv_iload_n kx kb dX8_jokeAt_2 rfl (lv_at hl 3 rfl) ?_
  refine lv_aload_n kx kb dX8_jokeAt_3 rfl (lv_at hl 0 rfl) ?_
  refine w_get X M h 254 hm.2 (by omega) fl_X8_32 rfl dX8_jokeAt_4 ?_
  refine lv_iconst (v := nI 0) kx kb dX8_jokeAt_7 (by decide) ?_
  refine w_iald X M h 255 hW (by omega) (0) (rfl) (by omega) (by omega) dX8_jokeAt_8 ?_
  refine w_top (y := nI x.1) (hR.n) ?_
  refine w_cmp_ge (tgt := 40) kx kb (by omega) (by omega) dX8_jokeAt_9 (by decide) (fun c_1 => ?_) (fun c_1 => ?_)
  · refine lv_iconst (v := (-1)) kx kb dX8_jokeAt_40 (by decide) ?_
    exact w_iret X h ⟨(ixO_no (fun z hz => hno z (by omega))).symm, rfl⟩ dX8_jokeAt_41
  · refine lv_aload_n kx kb dX8_jokeAt_12 rfl (lv_at hl 0 rfl) ?_
    refine lv_iload_n kx kb dX8_jokeAt_13 rfl (lv_at hl 3 rfl) ?_
    refine lv_iconst (v := nI 0) kx kb dX8_jokeAt_14 (by decide) ?_
    refine w_readVi X M h [.int (nI k), .int (nI 0)] [] ((c_X8_is l g u v ⟨by omega, hm.2⟩ x hI W hW hR k 0 (by omega) (by omega))) lk_X8_73 hm.2 (by omega) rfl rfl ⟨by decide, by decide⟩ hl ⟨Nat.zero_le _, Nat.zero_le _⟩ (Nat.le_of_ble_eq_true rfl) rfl dX8_jokeAt_15 (fun H locs h => ?_)
    refine lv_iload_n kx kb dX8_jokeAt_18 rfl (lv_at hl 1 rfl) ?_
    refine lv_icmp_ne (tgt := 34) kx kb dX8_jokeAt_19 (by decide) (fun c_2 => ?_) (fun c_2 => ?_)
    · refine lv_iinc (v := nI (k + 1)) (lv' := [(3, .int (nI (k + 1))), (0, .ref (ad 254)), (1, .int wl), (2, .int dp)]) kx kb dX8_jokeAt_34 hl (k := 3) rfl (nI_add _ _) (by decide) rfl (fun ls hl => ?_)
      refine lv_goto (tgt := 2) kx kb dX8_jokeAt_37 (by decide) ?_
      exact ih (k + 1) _ _ _ ⟨h, lv_sub hl [1, 2, 3, 0] rfl, by omega, fun z hz => by
          rcases Nat.lt_or_ge z k with y | y
          · exact hno z y
          · have e : z = k := by omega
            subst e
            simp [c_2]⟩ (by omega)
    · refine lv_aload_n kx kb dX8_jokeAt_22 rfl (lv_at hl 0 rfl) ?_
      refine lv_iload_n kx kb dX8_jokeAt_23 rfl (lv_at hl 3 rfl) ?_
      refine lv_iconst (v := nI 1) kx kb dX8_jokeAt_24 (by decide) ?_
      refine w_readVi X M h [.int (nI k), .int (nI 1)] [] ((c_X8_is l g u v ⟨by omega, hm.2⟩ x hI W hW hR k 1 (by omega) (by omega))) lk_X8_73 hm.2 (by omega) rfl rfl ⟨by decide, by decide⟩ hl ⟨Nat.zero_le _, Nat.zero_le _⟩ (Nat.le_of_ble_eq_true rfl) rfl dX8_jokeAt_25 (fun H locs h => ?_)
      refine lv_iload_n kx kb dX8_jokeAt_28 rfl (lv_at hl 2 rfl) ?_
      refine lv_icmp_ne (tgt := 34) kx kb dX8_jokeAt_29 (by decide) (fun c_3 => ?_) (fun c_3 => ?_)
      · refine lv_iinc (v := nI (k + 1)) (lv' := [(3, .int (nI (k + 1))), (0, .ref (ad 254)), (1, .int wl), (2, .int dp)]) kx kb dX8_jokeAt_34 hl (k := 3) rfl (nI_add _ _) (by decide) rfl (fun ls hl => ?_)
        refine lv_goto (tgt := 2) kx kb dX8_jokeAt_37 (by decide) ?_
        exact ih (k + 1) _ _ _ ⟨h, lv_sub hl [1, 2, 3, 0] rfl, by omega, fun z hz => by
            rcases Nat.lt_or_ge z k with y | y
            · exact hno z y
            · have e : z = k := by omega
              subst e
              simp [c_2, c_3]⟩ (by omega)
      · refine lv_iload_n kx kb dX8_jokeAt_32 rfl (lv_at hl 3 rfl) ?_
        exact w_iret X h ⟨(ixO_at (by omega) hno (by simp [c_2, c_3])).symm, rfl⟩ dX8_jokeAt_33
set_option maxRecDepth 20000 in
theorem c_X8_above (l : Launch) (g : gT) {N : Nat} {ad : Nat → Nat} {F : Nat → va_E} (u : Nat → Int32) (v : Nat → Nat) (hm : oM g N ad F u v) (x : SX) (hI : Inv x) (W : Nat → Int32) (hW : arI g F 255 274 W) (hR : RW x W) (a : Nat) (ha : a < x.1) : CtI l yX8_above cX8_above 4 (some .int) 1 22 g N ad F [.ref (ad 254), .int (nI a)] (fun r F' => r = (nI (cnt (cwP x.2.1 (x.2.1 0 a) (x.2.1 1 a - nI 1)) x.1)) ∧ F' = F) := by
  refine CtI_of (by decide) (Nat.le_of_ble_eq_true rfl) ?_
  intro p e s m args below meth c A H ls X M h hl
  have kx := X.1.1
  have kb := X.1.2.1
  have hl : lv_has ls 4 [(0, .ref (ad 254)), (1, .int (nI a))] := hl
  have hN0 := hm.1
  have hn12 := hI.n
  have htn64 := hI.tn
  refine lv_iconst (v := nI 0) kx kb dX8_above_0 (by decide) ?_
  refine lv_istore_n (lv' := [(2, .int (nI 0)), (0, .ref (ad 254)), (1, .int (nI a))]) kx kb dX8_above_1 rfl hl (by decide) rfl (fun ls hl => ?_)
  refine lv_iconst (v := nI 0) kx kb dX8_above_2 (by decide) ?_
  refine lv_istore_n (lv' := [(3, .int (nI 0)), (2, .int (nI 0)), (0, .ref (ad 254)), (1, .int (nI a))]) kx kb dX8_above_3 rfl hl (by decide) rfl (fun ls hl => ?_)
  refine w_loop2 (fun (k : Nat) (m : Nat) => x.1 - k) (fun (k : Nat) (m : Nat) H locs ls => Hx g N ad F A s H locs ∧ lv_has ls 4 [(0, .ref (ad 254)), (1, .int (nI a)), (2, .int (nI m)), (3, .int (nI k))] ∧ (k ≤ x.1) ∧ (m = cnt (fun i => decide (x.2.1 0 i = x.2.1 0 a ∧ x.2.1 1 i < x.2.1 1 a)) k)) ?_ 0 0 ⟨h, lv_sub hl [2, 3, 1, 0] rfl, Nat.zero_le _, rfl⟩
  intro k m H locs ls hinv ih
  obtain ⟨h, hl, hk, hv⟩ := hinv
  refine lv_iload_n kx kb dX8_above_4 rfl (lv_at hl 3 rfl) ?_
  refine lv_aload_n kx kb dX8_above_5 rfl (lv_at hl 0 rfl) ?_
  refine w_get X M h 254 hm.2 (by omega) fl_X8_32 rfl dX8_above_6 ?_
  refine lv_iconst (v := nI 0) kx kb dX8_above_9 (by decide) ?_
  refine w_iald X M h 255 hW (by omega) (0) (rfl) (by omega) (by omega) dX8_above_10 ?_
  refine w_top (y := nI x.1) (hR.n) ?_
  refine w_cmp_ge (tgt := 58) kx kb (by omega) (by omega) dX8_above_11 (by decide) (fun c_1 => ?_) (fun c_1 => ?_)
  · refine lv_iload_n kx kb dX8_above_58 rfl (lv_at hl 2 rfl) ?_
    exact w_iret X h ⟨by rw [cnt_ab hI ha, hv, show k = x.1 by omega], rfl⟩ dX8_above_59
  · refine lv_iload_n kx kb dX8_above_14 rfl (lv_at hl 2 rfl) ?_
    refine lv_aload_n kx kb dX8_above_15 rfl (lv_at hl 0 rfl) ?_
    refine lv_iload_n kx kb dX8_above_16 rfl (lv_at hl 3 rfl) ?_
    refine lv_iconst (v := nI 0) kx kb dX8_above_17 (by decide) ?_
    refine w_readVi X M h [.int (nI k), .int (nI 0)] [.int (nI m)] ((c_X8_is l g u v ⟨by omega, hm.2⟩ x hI W hW hR k 0 (by omega) (by omega))) lk_X8_73 hm.2 (by omega) rfl rfl ⟨by decide, by decide⟩ hl ⟨Nat.zero_le _, Nat.zero_le _⟩ (Nat.le_of_ble_eq_true rfl) rfl dX8_above_18 (fun H locs h => ?_)
    refine lv_aload_n kx kb dX8_above_21 rfl (lv_at hl 0 rfl) ?_
    refine lv_iload_n kx kb dX8_above_22 rfl (lv_at hl 1 rfl) ?_
    refine lv_iconst (v := nI 0) kx kb dX8_above_23 (by decide) ?_
    refine w_readVi X M h [.int (nI a), .int (nI 0)] [.int (x.2.1 0 k), .int (nI m)] ((c_X8_is l g u v ⟨by omega, hm.2⟩ x hI W hW hR a 0 (by omega) (by omega))) lk_X8_73 hm.2 (by omega) rfl rfl ⟨by decide, by decide⟩ hl ⟨Nat.zero_le _, Nat.zero_le _⟩ (Nat.le_of_ble_eq_true rfl) rfl dX8_above_24 (fun H locs h => ?_)
    refine lv_icmp_ne (tgt := 49) kx kb dX8_above_27 (by decide) (fun c_2 => ?_) (fun c_2 => ?_)
    · refine lv_iconst (v := nI 0) kx kb dX8_above_49 (by decide) ?_
      refine w_addn kx kb dX8_above_50 ?_
      refine lv_istore_n (lv' := [(2, .int (nI (m + 0))), (0, .ref (ad 254)), (1, .int (nI a)), (3, .int (nI k))]) kx kb dX8_above_51 rfl hl (by decide) rfl (fun ls hl => ?_)
      refine lv_iinc (v := nI (k + 1)) (lv' := [(3, .int (nI (k + 1))), (2, .int (nI (m + 0))), (0, .ref (ad 254)), (1, .int (nI a))]) kx kb dX8_above_52 hl (k := 3) rfl (nI_add _ _) (by decide) rfl (fun ls hl => ?_)
      refine lv_goto (tgt := 4) kx kb dX8_above_55 (by decide) ?_
      exact ih (k + 1) (m + 0) _ _ _ ⟨h, lv_sub hl [2, 3, 1, 0] rfl, by omega, by rw [hv, cnt_f (by simp [c_2])]; rfl⟩ (by omega)
    · refine lv_aload_n kx kb dX8_above_30 rfl (lv_at hl 0 rfl) ?_
      refine lv_iload_n kx kb dX8_above_31 rfl (lv_at hl 3 rfl) ?_
      refine lv_iconst (v := nI 1) kx kb dX8_above_32 (by decide) ?_
      refine w_readVi X M h [.int (nI k), .int (nI 1)] [.int (nI m)] ((c_X8_is l g u v ⟨by omega, hm.2⟩ x hI W hW hR k 1 (by omega) (by omega))) lk_X8_73 hm.2 (by omega) rfl rfl ⟨by decide, by decide⟩ hl ⟨Nat.zero_le _, Nat.zero_le _⟩ (Nat.le_of_ble_eq_true rfl) rfl dX8_above_33 (fun H locs h => ?_)
      refine lv_aload_n kx kb dX8_above_36 rfl (lv_at hl 0 rfl) ?_
      refine lv_iload_n kx kb dX8_above_37 rfl (lv_at hl 1 rfl) ?_
      refine lv_iconst (v := nI 1) kx kb dX8_above_38 (by decide) ?_
      refine w_readVi X M h [.int (nI a), .int (nI 1)] [.int (x.2.1 1 k), .int (nI m)] ((c_X8_is l g u v ⟨by omega, hm.2⟩ x hI W hW hR a 1 (by omega) (by omega))) lk_X8_73 hm.2 (by omega) rfl rfl ⟨by decide, by decide⟩ hl ⟨Nat.zero_le _, Nat.zero_le _⟩ (Nat.le_of_ble_eq_true rfl) rfl dX8_above_39 (fun H locs h => ?_)
      refine lv_icmp_ge (tgt := 49) kx kb dX8_above_42 (by decide) (fun c_3 => ?_) (fun c_3 => ?_)
      · refine lv_iconst (v := nI 0) kx kb dX8_above_49 (by decide) ?_
        refine w_addn kx kb dX8_above_50 ?_
        refine lv_istore_n (lv' := [(2, .int (nI (m + 0))), (0, .ref (ad 254)), (1, .int (nI a)), (3, .int (nI k))]) kx kb dX8_above_51 rfl hl (by decide) rfl (fun ls hl => ?_)
        refine lv_iinc (v := nI (k + 1)) (lv' := [(3, .int (nI (k + 1))), (2, .int (nI (m + 0))), (0, .ref (ad 254)), (1, .int (nI a))]) kx kb dX8_above_52 hl (k := 3) rfl (nI_add _ _) (by decide) rfl (fun ls hl => ?_)
        refine lv_goto (tgt := 4) kx kb dX8_above_55 (by decide) ?_
        exact ih (k + 1) (m + 0) _ _ _ ⟨h, lv_sub hl [2, 3, 1, 0] rfl, by omega, by rw [hv, cnt_f (by simp [c_2, c_3])]; rfl⟩ (by omega)
      · refine lv_iconst (v := nI 1) kx kb dX8_above_45 (by decide) ?_
        refine lv_goto (tgt := 50) kx kb dX8_above_46 (by decide) ?_
        refine w_addn kx kb dX8_above_50 ?_
        refine lv_istore_n (lv' := [(2, .int (nI (m + 1))), (0, .ref (ad 254)), (1, .int (nI a)), (3, .int (nI k))]) kx kb dX8_above_51 rfl hl (by decide) rfl (fun ls hl => ?_)
        refine lv_iinc (v := nI (k + 1)) (lv' := [(3, .int (nI (k + 1))), (2, .int (nI (m + 1))), (0, .ref (ad 254)), (1, .int (nI a))]) kx kb dX8_above_52 hl (k := 3) rfl (nI_add _ _) (by decide) rfl (fun ls hl => ?_)
        refine lv_goto (tgt := 4) kx kb dX8_above_55 (by decide) ?_
        exact ih (k + 1) (m + 1) _ _ _ ⟨h, lv_sub hl [2, 3, 1, 0] rfl, by omega, by rw [hv, cnt_t (by simp [c_2, Int32.not_le.mp c_3])]⟩ (by omega)
set_option maxRecDepth 20000 in
theorem c_X8_atPlace (l : Launch) (g : gT) {N : Nat} {ad : Nat → Nat} {F : Nat → va_E} (u : Nat → Int32) (v : Nat → Nat) (hm : oM g N ad F u v) (x : SX) (hI : Inv x) (W : Nat → Int32) (hW : arI g F 255 274 W) (hR : RW x W) (wl pl : Int32) : CtI l yX8_atPlace cX8_atPlace 4 (some .int) 2 45 g N ad F [.ref (ad 254), .int wl, .int pl] (fun r F' => r = (ixO (bdP x.2.1 x.1 wl pl) x.1) ∧ F' = F) := by
  refine CtI_of (by decide) (Nat.le_of_ble_eq_true rfl) ?_
  intro p e s m args below meth c A H ls X M h hl
  have kx := X.1.1
  have kb := X.1.2.1
  have hl : lv_has ls 4 [(0, .ref (ad 254)), (1, .int wl), (2, .int pl)] := hl
  have hN0 := hm.1
  have hn12 := hI.n
  have htn64 := hI.tn
  refine lv_iconst (v := nI 0) kx kb dX8_atPlace_0 (by decide) ?_
  refine lv_istore_n (lv' := [(3, .int (nI 0)), (0, .ref (ad 254)), (1, .int wl), (2, .int pl)]) kx kb dX8_atPlace_1 rfl hl (by decide) rfl (fun ls hl => ?_)
  refine w_loop1 (fun (k : Nat) => x.1 - k) (fun (k : Nat) H locs ls => Hx g N ad F A s H locs ∧ lv_has ls 4 [(0, .ref (ad 254)), (1, .int wl), (2, .int pl), (3, .int (nI k))] ∧ (k ≤ x.1) ∧ (∀ z, z < k → (bdP x.2.1 x.1 wl pl) z = false)) ?_ 0 ⟨h, lv_sub hl [1, 2, 3, 0] rfl, Nat.zero_le _, fun z hz => absurd hz (Nat.not_lt_zero z)⟩
  intro k H locs ls hinv ih
  obtain ⟨h, hl, hk, hno⟩ := hinv
  refine lv_iload_n kx kb dX8_atPlace_2 rfl (lv_at hl 3 rfl) ?_
  refine lv_aload_n kx kb dX8_atPlace_3 rfl (lv_at hl 0 rfl) ?_
  refine w_get X M h 254 hm.2 (by omega) fl_X8_32 rfl dX8_atPlace_4 ?_
  refine lv_iconst (v := nI 0) kx kb dX8_atPlace_7 (by decide) ?_
  refine w_iald X M h 255 hW (by omega) (0) (rfl) (by omega) (by omega) dX8_atPlace_8 ?_
  refine w_top (y := nI x.1) (hR.n) ?_
  refine w_cmp_ge (tgt := 39) kx kb (by omega) (by omega) dX8_atPlace_9 (by decide) (fun c_1 => ?_) (fun c_1 => ?_)
  · refine lv_iconst (v := (-1)) kx kb dX8_atPlace_39 (by decide) ?_
    exact w_iret X h ⟨(ixO_no (fun z hz => hno z (by omega))).symm, rfl⟩ dX8_atPlace_40
  · refine lv_aload_n kx kb dX8_atPlace_12 rfl (lv_at hl 0 rfl) ?_
    refine lv_iload_n kx kb dX8_atPlace_13 rfl (lv_at hl 3 rfl) ?_
    refine lv_iconst (v := nI 0) kx kb dX8_atPlace_14 (by decide) ?_
    refine w_readVi X M h [.int (nI k), .int (nI 0)] [] ((c_X8_is l g u v ⟨by omega, hm.2⟩ x hI W hW hR k 0 (by omega) (by omega))) lk_X8_73 hm.2 (by omega) rfl rfl ⟨by decide, by decide⟩ hl ⟨Nat.zero_le _, Nat.zero_le _⟩ (Nat.le_of_ble_eq_true rfl) rfl dX8_atPlace_15 (fun H locs h => ?_)
    refine lv_iload_n kx kb dX8_atPlace_18 rfl (lv_at hl 1 rfl) ?_
    refine lv_icmp_ne (tgt := 33) kx kb dX8_atPlace_19 (by decide) (fun c_2 => ?_) (fun c_2 => ?_)
    · refine lv_iinc (v := nI (k + 1)) (lv' := [(3, .int (nI (k + 1))), (0, .ref (ad 254)), (1, .int wl), (2, .int pl)]) kx kb dX8_atPlace_33 hl (k := 3) rfl (nI_add _ _) (by decide) rfl (fun ls hl => ?_)
      refine lv_goto (tgt := 2) kx kb dX8_atPlace_36 (by decide) ?_
      exact ih (k + 1) _ _ _ ⟨h, lv_sub hl [1, 2, 3, 0] rfl, by omega, fun z hz => by
          rcases Nat.lt_or_ge z k with y | y
          · exact hno z y
          · have e : z = k := by omega
            subst e
            simp [bdP, c_2]⟩ (by omega)
    · refine lv_aload_n kx kb dX8_atPlace_22 rfl (lv_at hl 0 rfl) ?_
      refine lv_iload_n kx kb dX8_atPlace_23 rfl (lv_at hl 3 rfl) ?_
      refine w_readVi X M h [.int (nI k)] [] ((c_X8_above l g u v ⟨by omega, hm.2⟩ x hI W hW hR k (by omega))) lk_X8_77 hm.2 (by omega) rfl rfl ⟨by decide, by decide⟩ hl ⟨Nat.zero_le _, Nat.zero_le _⟩ (Nat.le_of_ble_eq_true rfl) rfl dX8_atPlace_24 (fun H locs h => ?_)
      refine lv_iload_n kx kb dX8_atPlace_27 rfl (lv_at hl 2 rfl) ?_
      refine lv_icmp_ne (tgt := 33) kx kb dX8_atPlace_28 (by decide) (fun c_3 => ?_) (fun c_3 => ?_)
      · refine lv_iinc (v := nI (k + 1)) (lv' := [(3, .int (nI (k + 1))), (0, .ref (ad 254)), (1, .int wl), (2, .int pl)]) kx kb dX8_atPlace_33 hl (k := 3) rfl (nI_add _ _) (by decide) rfl (fun ls hl => ?_)
        refine lv_goto (tgt := 2) kx kb dX8_atPlace_36 (by decide) ?_
        exact ih (k + 1) _ _ _ ⟨h, lv_sub hl [1, 2, 3, 0] rfl, by omega, fun z hz => by
            rcases Nat.lt_or_ge z k with y | y
            · exact hno z y
            · have e : z = k := by omega
              subst e
              rw [c_2] at c_3; simp [bdP, c_2, c_3]⟩ (by omega)
      · refine lv_iload_n kx kb dX8_atPlace_31 rfl (lv_at hl 3 rfl) ?_
        exact w_iret X h ⟨(ixO_at (by omega) hno (by rw [c_2] at c_3; simp [bdP, c_2, c_3])).symm, rfl⟩ dX8_atPlace_32
