set_option maxRecDepth 20000 in
theorem c_X8_thinks (l : Launch) (g : gT) {N : Nat} {ad : Nat → Nat} {F : Nat → va_E} (u : Nat → Int32) (v : Nat → Nat) (hm : oM g N ad F u v) (W : Nat → Int32) (hW : arI g F 255 274 W) (D : Nat → Int32) (hD : arI g F 258 274 D)  : CtV l yX8_thinks cX8_thinks 2 none 0 0 g N ad F [.ref (ad 254)] (fun F' => arI g F' 258 274 W ∧ ∀ i, i ≠ 258 → F' i = F i) := by
  refine CtV_of (by decide) (Nat.le_of_ble_eq_true rfl) ?_
  intro p e s m args below meth c A H ls X M h hl
  have kx := X.1.1
  have kb := X.1.2.1
  have hl : lv_has ls 2 [(0, .ref (ad 254))] := hl
  have hN0 := hm.1
  refine lv_iconst (v := nI 0) kx kb dX8_thinks_0 (by decide) ?_
  refine lv_istore_n (lv' := [(1, .int (nI 0)), (0, .ref (ad 254))]) kx kb dX8_thinks_1 rfl hl (by decide) rfl (fun ls hl => ?_)
  refine w_loop3 (fun (k : Nat) (F1 : Nat → va_E) (M1 : Nat → Int32) => 274 - k) (fun (k : Nat) (F1 : Nat → va_E) (M1 : Nat → Int32) H locs ls => Hx g N ad F1 A s H locs ∧ lv_has ls 2 [(0, .ref (ad 254)), (1, .int (nI k))] ∧ (k ≤ 274) ∧ (arI g F1 258 274 M1) ∧ (∀ q, q ≠ 258 → F1 q = F q) ∧ (∀ q, q < k → M1 q = W q)) ?_ 0 F D ⟨h, lv_sub hl [1, 0] rfl, by omega, hD, fun q hq => rfl, fun q hq => absurd hq (Nat.not_lt_zero q)⟩
  intro k F1 M1 H locs ls hinv ih
  obtain ⟨h, hl, hk, hM1, hf1, h1⟩ := hinv
  refine lv_iload_n kx kb dX8_thinks_2 rfl (lv_at hl 1 rfl) ?_
  refine lv_sipush (v := nI 274) kx kb dX8_thinks_3 (by decide) ?_
  refine w_cmp_ge (tgt := 27) kx kb (by omega) (by omega) dX8_thinks_6 (by decide) (fun c_1 => ?_) (fun c_1 => ?_)
  · exact w_vret X h ⟨hM1.eq (fun z hz => h1 z (by omega)), fun i hi => hf1 i hi⟩ dX8_thinks_27
  · refine lv_aload_n kx kb dX8_thinks_9 rfl (lv_at hl 0 rfl) ?_
    refine w_get X M h 254 ((hm.fr (hf1 254 (by omega))).2) (by omega) fl_X8_42 rfl dX8_thinks_10 ?_
    refine lv_iload_n kx kb dX8_thinks_13 rfl (lv_at hl 1 rfl) ?_
    refine lv_aload_n kx kb dX8_thinks_14 rfl (lv_at hl 0 rfl) ?_
    refine w_get X M h 254 ((hm.fr (hf1 254 (by omega))).2) (by omega) fl_X8_32 rfl dX8_thinks_15 ?_
    refine lv_iload_n kx kb dX8_thinks_18 rfl (lv_at hl 1 rfl) ?_
    refine w_iald X M h 255 (hW.fr (hf1 255 (by omega))) (by omega) (k) (rfl) (by omega) (by omega) dX8_thinks_19 ?_
    refine w_iast X M h 258 hM1 (by omega) (k) (rfl) (by omega) (by omega) dX8_thinks_20 (fun F2 H locs h he_F2 hf_F2 => ?_)
    refine lv_iinc (v := nI (k + 1)) (lv' := [(1, .int (nI (k + 1))), (0, .ref (ad 254))]) kx kb dX8_thinks_21 hl (k := 1) rfl (nI_add _ _) (by decide) rfl (fun ls hl => ?_)
    refine lv_goto (tgt := 2) kx kb dX8_thinks_24 (by decide) ?_
    exact ih (k + 1) F2 (upd M1 k (W k)) _ _ _ ⟨h, lv_sub hl [1, 0] rfl, by omega, he_F2, (fun q hq => (hf_F2 q (by omega)).trans (hf1 q (by omega))), fun q g1 => by
        by_cases e : q = k
        · subst e; exact upd_eq rfl
        · rw [upd_ne e]; exact h1 q (by omega)⟩ (by omega)
set_option maxRecDepth 20000 in
theorem c_X8_forgets (l : Launch) (g : gT) {N : Nat} {ad : Nat → Nat} {F : Nat → va_E} (u : Nat → Int32) (v : Nat → Nat) (hm : oM g N ad F u v) (W : Nat → Int32) (hW : arI g F 258 274 W) (D : Nat → Int32) (hD : arI g F 255 274 D)  : CtV l yX8_forgets cX8_forgets 2 none 0 0 g N ad F [.ref (ad 254)] (fun F' => arI g F' 255 274 W ∧ ∀ i, i ≠ 255 → F' i = F i) := by
  refine CtV_of (by decide) (Nat.le_of_ble_eq_true rfl) ?_
  intro p e s m args below meth c A H ls X M h hl
  have kx := X.1.1
  have kb := X.1.2.1
  have hl : lv_has ls 2 [(0, .ref (ad 254))] := hl
  have hN0 := hm.1
  refine lv_iconst (v := nI 0) kx kb dX8_forgets_0 (by decide) ?_
  refine lv_istore_n (lv' := [(1, .int (nI 0)), (0, .ref (ad 254))]) kx kb dX8_forgets_1 rfl hl (by decide) rfl (fun ls hl => ?_)
  refine w_loop3 (fun (k : Nat) (F1 : Nat → va_E) (M1 : Nat → Int32) => 274 - k) (fun (k : Nat) (F1 : Nat → va_E) (M1 : Nat → Int32) H locs ls => Hx g N ad F1 A s H locs ∧ lv_has ls 2 [(0, .ref (ad 254)), (1, .int (nI k))] ∧ (k ≤ 274) ∧ (arI g F1 255 274 M1) ∧ (∀ q, q ≠ 255 → F1 q = F q) ∧ (∀ q, q < k → M1 q = W q)) ?_ 0 F D ⟨h, lv_sub hl [1, 0] rfl, by omega, hD, fun q hq => rfl, fun q hq => absurd hq (Nat.not_lt_zero q)⟩
  intro k F1 M1 H locs ls hinv ih
  obtain ⟨h, hl, hk, hM1, hf1, h1⟩ := hinv
  refine lv_iload_n kx kb dX8_forgets_2 rfl (lv_at hl 1 rfl) ?_
  refine lv_sipush (v := nI 274) kx kb dX8_forgets_3 (by decide) ?_
  refine w_cmp_ge (tgt := 27) kx kb (by omega) (by omega) dX8_forgets_6 (by decide) (fun c_1 => ?_) (fun c_1 => ?_)
  · exact w_vret X h ⟨hM1.eq (fun z hz => h1 z (by omega)), fun i hi => hf1 i hi⟩ dX8_forgets_27
  · refine lv_aload_n kx kb dX8_forgets_9 rfl (lv_at hl 0 rfl) ?_
    refine w_get X M h 254 ((hm.fr (hf1 254 (by omega))).2) (by omega) fl_X8_32 rfl dX8_forgets_10 ?_
    refine lv_iload_n kx kb dX8_forgets_13 rfl (lv_at hl 1 rfl) ?_
    refine lv_aload_n kx kb dX8_forgets_14 rfl (lv_at hl 0 rfl) ?_
    refine w_get X M h 254 ((hm.fr (hf1 254 (by omega))).2) (by omega) fl_X8_42 rfl dX8_forgets_15 ?_
    refine lv_iload_n kx kb dX8_forgets_18 rfl (lv_at hl 1 rfl) ?_
    refine w_iald X M h 258 (hW.fr (hf1 258 (by omega))) (by omega) (k) (rfl) (by omega) (by omega) dX8_forgets_19 ?_
    refine w_iast X M h 255 hM1 (by omega) (k) (rfl) (by omega) (by omega) dX8_forgets_20 (fun F2 H locs h he_F2 hf_F2 => ?_)
    refine lv_iinc (v := nI (k + 1)) (lv' := [(1, .int (nI (k + 1))), (0, .ref (ad 254))]) kx kb dX8_forgets_21 hl (k := 1) rfl (nI_add _ _) (by decide) rfl (fun ls hl => ?_)
    refine lv_goto (tgt := 2) kx kb dX8_forgets_24 (by decide) ?_
    exact ih (k + 1) F2 (upd M1 k (W k)) _ _ _ ⟨h, lv_sub hl [1, 0] rfl, by omega, he_F2, (fun q hq => (hf_F2 q (by omega)).trans (hf1 q (by omega))), fun q g1 => by
        by_cases e : q = k
        · subst e; exact upd_eq rfl
        · rw [upd_ne e]; exact h1 q (by omega)⟩ (by omega)
set_option maxRecDepth 20000 in
theorem c_X8_looksAhead (l : Launch) (g : gT) {N : Nat} {ad : Nat → Nat} {F : Nat → va_E} (u : Nat → Int32) (v : Nat → Nat) (hm : oM g N ad F u v) (W : Nat → Int32) (hW : arI g F 255 274 W) (D : Nat → Int32) (hD : arI g F 259 274 D)  : CtV l yX8_looksAhead cX8_looksAhead 2 none 0 0 g N ad F [.ref (ad 254)] (fun F' => arI g F' 259 274 W ∧ ∀ i, i ≠ 259 → F' i = F i) := by
  refine CtV_of (by decide) (Nat.le_of_ble_eq_true rfl) ?_
  intro p e s m args below meth c A H ls X M h hl
  have kx := X.1.1
  have kb := X.1.2.1
  have hl : lv_has ls 2 [(0, .ref (ad 254))] := hl
  have hN0 := hm.1
  refine lv_iconst (v := nI 0) kx kb dX8_looksAhead_0 (by decide) ?_
  refine lv_istore_n (lv' := [(1, .int (nI 0)), (0, .ref (ad 254))]) kx kb dX8_looksAhead_1 rfl hl (by decide) rfl (fun ls hl => ?_)
  refine w_loop3 (fun (k : Nat) (F1 : Nat → va_E) (M1 : Nat → Int32) => 274 - k) (fun (k : Nat) (F1 : Nat → va_E) (M1 : Nat → Int32) H locs ls => Hx g N ad F1 A s H locs ∧ lv_has ls 2 [(0, .ref (ad 254)), (1, .int (nI k))] ∧ (k ≤ 274) ∧ (arI g F1 259 274 M1) ∧ (∀ q, q ≠ 259 → F1 q = F q) ∧ (∀ q, q < k → M1 q = W q)) ?_ 0 F D ⟨h, lv_sub hl [1, 0] rfl, by omega, hD, fun q hq => rfl, fun q hq => absurd hq (Nat.not_lt_zero q)⟩
  intro k F1 M1 H locs ls hinv ih
  obtain ⟨h, hl, hk, hM1, hf1, h1⟩ := hinv
  refine lv_iload_n kx kb dX8_looksAhead_2 rfl (lv_at hl 1 rfl) ?_
  refine lv_sipush (v := nI 274) kx kb dX8_looksAhead_3 (by decide) ?_
  refine w_cmp_ge (tgt := 27) kx kb (by omega) (by omega) dX8_looksAhead_6 (by decide) (fun c_1 => ?_) (fun c_1 => ?_)
  · exact w_vret X h ⟨hM1.eq (fun z hz => h1 z (by omega)), fun i hi => hf1 i hi⟩ dX8_looksAhead_27
  · refine lv_aload_n kx kb dX8_looksAhead_9 rfl (lv_at hl 0 rfl) ?_
    refine w_get X M h 254 ((hm.fr (hf1 254 (by omega))).2) (by omega) fl_X8_45 rfl dX8_looksAhead_10 ?_
    refine lv_iload_n kx kb dX8_looksAhead_13 rfl (lv_at hl 1 rfl) ?_
    refine lv_aload_n kx kb dX8_looksAhead_14 rfl (lv_at hl 0 rfl) ?_
    refine w_get X M h 254 ((hm.fr (hf1 254 (by omega))).2) (by omega) fl_X8_32 rfl dX8_looksAhead_15 ?_
    refine lv_iload_n kx kb dX8_looksAhead_18 rfl (lv_at hl 1 rfl) ?_
    refine w_iald X M h 255 (hW.fr (hf1 255 (by omega))) (by omega) (k) (rfl) (by omega) (by omega) dX8_looksAhead_19 ?_
    refine w_iast X M h 259 hM1 (by omega) (k) (rfl) (by omega) (by omega) dX8_looksAhead_20 (fun F2 H locs h he_F2 hf_F2 => ?_)
    refine lv_iinc (v := nI (k + 1)) (lv' := [(1, .int (nI (k + 1))), (0, .ref (ad 254))]) kx kb dX8_looksAhead_21 hl (k := 1) rfl (nI_add _ _) (by decide) rfl (fun ls hl => ?_)
    refine lv_goto (tgt := 2) kx kb dX8_looksAhead_24 (by decide) ?_
    exact ih (k + 1) F2 (upd M1 k (W k)) _ _ _ ⟨h, lv_sub hl [1, 0] rfl, by omega, he_F2, (fun q hq => (hf_F2 q (by omega)).trans (hf1 q (by omega))), fun q g1 => by
        by_cases e : q = k
        · subst e; exact upd_eq rfl
        · rw [upd_ne e]; exact h1 q (by omega)⟩ (by omega)
set_option maxRecDepth 20000 in
theorem c_X8_comesBack (l : Launch) (g : gT) {N : Nat} {ad : Nat → Nat} {F : Nat → va_E} (u : Nat → Int32) (v : Nat → Nat) (hm : oM g N ad F u v) (W : Nat → Int32) (hW : arI g F 259 274 W) (D : Nat → Int32) (hD : arI g F 255 274 D)  : CtV l yX8_comesBack cX8_comesBack 2 none 0 0 g N ad F [.ref (ad 254)] (fun F' => arI g F' 255 274 W ∧ ∀ i, i ≠ 255 → F' i = F i) := by
  refine CtV_of (by decide) (Nat.le_of_ble_eq_true rfl) ?_
  intro p e s m args below meth c A H ls X M h hl
  have kx := X.1.1
  have kb := X.1.2.1
  have hl : lv_has ls 2 [(0, .ref (ad 254))] := hl
  have hN0 := hm.1
  refine lv_iconst (v := nI 0) kx kb dX8_comesBack_0 (by decide) ?_
  refine lv_istore_n (lv' := [(1, .int (nI 0)), (0, .ref (ad 254))]) kx kb dX8_comesBack_1 rfl hl (by decide) rfl (fun ls hl => ?_)
  refine w_loop3 (fun (k : Nat) (F1 : Nat → va_E) (M1 : Nat → Int32) => 274 - k) (fun (k : Nat) (F1 : Nat → va_E) (M1 : Nat → Int32) H locs ls => Hx g N ad F1 A s H locs ∧ lv_has ls 2 [(0, .ref (ad 254)), (1, .int (nI k))] ∧ (k ≤ 274) ∧ (arI g F1 255 274 M1) ∧ (∀ q, q ≠ 255 → F1 q = F q) ∧ (∀ q, q < k → M1 q = W q)) ?_ 0 F D ⟨h, lv_sub hl [1, 0] rfl, by omega, hD, fun q hq => rfl, fun q hq => absurd hq (Nat.not_lt_zero q)⟩
  intro k F1 M1 H locs ls hinv ih
  obtain ⟨h, hl, hk, hM1, hf1, h1⟩ := hinv
  refine lv_iload_n kx kb dX8_comesBack_2 rfl (lv_at hl 1 rfl) ?_
  refine lv_sipush (v := nI 274) kx kb dX8_comesBack_3 (by decide) ?_
  refine w_cmp_ge (tgt := 27) kx kb (by omega) (by omega) dX8_comesBack_6 (by decide) (fun c_1 => ?_) (fun c_1 => ?_)
  · exact w_vret X h ⟨hM1.eq (fun z hz => h1 z (by omega)), fun i hi => hf1 i hi⟩ dX8_comesBack_27
  · refine lv_aload_n kx kb dX8_comesBack_9 rfl (lv_at hl 0 rfl) ?_
    refine w_get X M h 254 ((hm.fr (hf1 254 (by omega))).2) (by omega) fl_X8_32 rfl dX8_comesBack_10 ?_
    refine lv_iload_n kx kb dX8_comesBack_13 rfl (lv_at hl 1 rfl) ?_
    refine lv_aload_n kx kb dX8_comesBack_14 rfl (lv_at hl 0 rfl) ?_
    refine w_get X M h 254 ((hm.fr (hf1 254 (by omega))).2) (by omega) fl_X8_45 rfl dX8_comesBack_15 ?_
    refine lv_iload_n kx kb dX8_comesBack_18 rfl (lv_at hl 1 rfl) ?_
    refine w_iald X M h 259 (hW.fr (hf1 259 (by omega))) (by omega) (k) (rfl) (by omega) (by omega) dX8_comesBack_19 ?_
    refine w_iast X M h 255 hM1 (by omega) (k) (rfl) (by omega) (by omega) dX8_comesBack_20 (fun F2 H locs h he_F2 hf_F2 => ?_)
    refine lv_iinc (v := nI (k + 1)) (lv' := [(1, .int (nI (k + 1))), (0, .ref (ad 254))]) kx kb dX8_comesBack_21 hl (k := 1) rfl (nI_add _ _) (by decide) rfl (fun ls hl => ?_)
    refine lv_goto (tgt := 2) kx kb dX8_comesBack_24 (by decide) ?_
    exact ih (k + 1) F2 (upd M1 k (W k)) _ _ _ ⟨h, lv_sub hl [1, 0] rfl, by omega, he_F2, (fun q hq => (hf_F2 q (by omega)).trans (hf1 q (by omega))), fun q g1 => by
        by_cases e : q = k
        · subst e; exact upd_eq rfl
        · rw [upd_ne e]; exact h1 q (by omega)⟩ (by omega)
theorem rg1 {f c i : Nat} (hf : f < 8) (hc : c < 8) (hi : i < c) : (f + i) % 8 ≠ (f + c) % 8 := by omega
theorem rg2 {f i : Nat} (hf : f < 8) (hi : i < 7) : (f + 1) % 8 + i < 16 ∧ ((f + 1) % 8 + i) % 8 = (f + (i + 1)) % 8 := by omega
theorem oU_push {hs : Nat → SX} {f c f2 c2 : Nat} {U U' M : Nat → Int32} {x : SX} (hf : f < 8) (hc : c ≤ 8) (h : ∀ i, i < c → RW (hs i) (fun j => U (274 * ((f + i) % 8) + j))) (hM : RW x M) (e1 : f2 = if c = 8 then (f + 1) % 8 else f) (e2 : c2 = min c 7) (k1 : ∀ j, j < 274 → U' (274 * ((f2 + c2) % 8) + j) = M j) (k2 : ∀ j, j < 274 * ((f2 + c2) % 8) ∨ 274 * ((f2 + c2) % 8) + 274 ≤ j → U' j = U j) (hn : x.1 ≤ 12) (ht : x.2.2.1 ≤ 64) (hns : ∀ i, i < c → (hs i).1 ≤ 12 ∧ (hs i).2.2.1 ≤ 64) : ∀ i, i < min 8 (c + 1) → RW (hPush hs c x i) (fun j => U' (274 * ((f2 + i) % 8) + j)) := by
  intro i hi
  by_cases e : i = c2
  · subst e
    have : hPush hs c x i = x := by rw [hPush, if_pos e2]
    rw [this]
    exact hM.congw (fun k hk => k1 k (by omega))
  · have hne : i ≠ min c 7 := fun q => e (q.trans e2.symm)
    by_cases c8 : c = 8
    · rw [if_pos c8] at e1
      have : hPush hs c x i = hs (i + 1) := by rw [hPush, if_neg hne, if_pos c8]
      rw [this]
      have h1 := hns (i + 1) (by omega)
      have e3 : (f2 + i) % 8 = (f + (i + 1)) % 8 := by omega
      have e4 : (f2 + c2) % 8 ≠ (f2 + i) % 8 := by omega
      refine (h (i + 1) (by omega)).congw (fun k hk => ?_)
      rw [e3] at e4 ⊢
      exact k2 _ (by omega)
    · rw [if_neg c8] at e1
      have : hPush hs c x i = hs i := by rw [hPush, if_neg hne, if_neg c8]
      rw [this]
      have h1 := hns i (by omega)
      have e4 : (f2 + c2) % 8 ≠ (f2 + i) % 8 := by omega
      rw [e1] at e4 ⊢
      refine (h i (by omega)).congw (fun k hk => k2 _ ?_)
      rw [e1]
      omega
set_option maxRecDepth 20000 in
theorem c_X8_keepsMind (l : Launch) (g : gT) {N : Nat} {ad : Nat → Nat} {F : Nat → va_E} (u : Nat → Int32) (v : Nat → Nat) (hm : oM g N ad F u v) (hv0 : v 0 ≤ 8) (hv1 : v 1 < 8) (hs : Nat → SX) (hns : ∀ i, i < v 0 → (hs i).1 ≤ 12 ∧ (hs i).2.2.1 ≤ 64) (hU : oU g F hs (v 1) (v 0)) (x : SX) (hn : x.1 ≤ 12) (ht : x.2.2.1 ≤ 64) (hD : oX g F 258 x)  : CtV l yX8_keepsMind cX8_keepsMind 3 none 0 0 g N ad F [.ref (ad 254)] (fun F' => oM g N ad F' u (vKeep v) ∧ oU g F' (hPush hs (v 0) x) (vKeep v 1) (vKeep v 0) ∧ ∀ i, i ≠ 254 → i ≠ 256 → F' i = F i) := by
  refine CtV_of (by decide) (Nat.le_of_ble_eq_true rfl) ?_
  intro p e s m args below meth c A H ls X M h hl
  have kx := X.1.1
  have kb := X.1.2.1
  have hl : lv_has ls 3 [(0, .ref (ad 254))] := hl
  have hN0 := hm.1
  obtain ⟨U, hU, hRU⟩ := hU
  obtain ⟨D, hD, hRM⟩ := hD
  refine lv_aload_n kx kb dX8_keepsMind_0 rfl (lv_at hl 0 rfl) ?_
  refine w_get X M h 254 hm.2 (by omega) fl_X8_61 rfl dX8_keepsMind_1 ?_
  refine lv_bipush (v := nI 8) kx kb dX8_keepsMind_4 (by decide) ?_
  refine w_cmp_ne (tgt := 32) kx kb (by omega) (by omega) dX8_keepsMind_6 (by decide) (fun c_1 => ?_) (fun c_1 => ?_)
  · refine lv_aload_n kx kb dX8_keepsMind_32 rfl (lv_at hl 0 rfl) ?_
    refine w_get X M h 254 hm.2 (by omega) fl_X8_64 rfl dX8_keepsMind_33 ?_
    refine lv_aload_n kx kb dX8_keepsMind_36 rfl (lv_at hl 0 rfl) ?_
    refine w_get X M h 254 hm.2 (by omega) fl_X8_61 rfl dX8_keepsMind_37 ?_
    refine w_addn kx kb dX8_keepsMind_40 ?_
    refine lv_bipush (v := nI 8) kx kb dX8_keepsMind_41 (by decide) ?_
    refine w_remn kx kb (by omega) (by omega) (by omega) dX8_keepsMind_43 ?_
    refine lv_istore_n (lv' := [(1, .int (nI ((v 1 + (v 0)) % 8))), (0, .ref (ad 254))]) kx kb dX8_keepsMind_44 rfl hl (by decide) rfl (fun ls hl => ?_)
    refine lv_iconst (v := nI 0) kx kb dX8_keepsMind_45 (by decide) ?_
    refine lv_istore_n (lv' := [(2, .int (nI 0)), (1, .int (nI ((v 1 + (v 0)) % 8))), (0, .ref (ad 254))]) kx kb dX8_keepsMind_46 rfl hl (by decide) rfl (fun ls hl => ?_)
    have hto : (v 1 + (v 0)) % 8 < 8 := Nat.mod_lt _ (by decide)
    refine w_loop3 (fun (k : Nat) (F1 : Nat → va_E) (U1 : Nat → Int32) => 274 - k) (fun (k : Nat) (F1 : Nat → va_E) (U1 : Nat → Int32) H locs ls => Hx g N ad F1 A s H locs ∧ lv_has ls 3 [(0, .ref (ad 254)), (1, .int (nI ((v 1 + (v 0)) % 8))), (2, .int (nI k))] ∧ (k ≤ 274) ∧ (arI g F1 256 2192 U1) ∧ (∀ q, q ≠ 256 → F1 q = F q) ∧ (∀ j, j < k → U1 (274 * ((v 1 + (v 0)) % 8) + j) = D j) ∧ (∀ j, j < 274 * ((v 1 + (v 0)) % 8) ∨ 274 * ((v 1 + (v 0)) % 8) + 274 ≤ j → U1 j = U j)) ?_ 0 F U ⟨h, lv_sub hl [2, 1, 0] rfl, by omega, hU, fun q hq => rfl, fun q hq => absurd hq (Nat.not_lt_zero q), fun q hq => rfl⟩
    intro k F1 U1 H locs ls hinv ih
    obtain ⟨h, hl, hk, hU1, hf1, h1, h2⟩ := hinv
    refine lv_iload_n kx kb dX8_keepsMind_47 rfl (lv_at hl 2 rfl) ?_
    refine lv_sipush (v := nI 274) kx kb dX8_keepsMind_48 (by decide) ?_
    refine w_cmp_ge (tgt := 78) kx kb (by omega) (by omega) dX8_keepsMind_51 (by decide) (fun c_2 => ?_) (fun c_2 => ?_)
    · refine lv_aload_n kx kb dX8_keepsMind_78 rfl (lv_at hl 0 rfl) ?_
      refine lv_dup kx kb dX8_keepsMind_79 rfl ?_
      refine w_get X M h 254 ((hf1 254 (by omega)).trans hm.2) (by omega) fl_X8_61 rfl dX8_keepsMind_80 ?_
      refine lv_iconst (v := nI 1) kx kb dX8_keepsMind_83 (by decide) ?_
      refine w_addn kx kb dX8_keepsMind_84 ?_
      refine w_put X M h 254 ((hf1 254 (by omega)).trans hm.2) (by omega) fp_X8_61 (rfl) (by rfl) (Nat.le_of_ble_eq_true rfl) dX8_keepsMind_85 (fun F3 H locs h he_F3 hf_F3 => ?_)
      exact w_vret X h ⟨⟨by omega, he_F3.trans (by rw [show vKeep v 0 = v 0 + 1 from by show min 8 (v 0 + 1) = _; omega, show vKeep v 1 = v 1 from if_neg c_1]; rfl)⟩, ⟨U1, (hU1.fr (hf_F3 256 (by omega))), by have hh := oU_push hv1 hv0 hRU hRM (f2 := v 1) (c2 := (v 0)) ((if_neg c_1).symm) (by omega) (fun j hj => h1 j (by omega)) h2 hn ht hns; rw [show vKeep v 1 = v 1 from if_neg c_1]; exact hh⟩, (fun i hi hi2 => (hf_F3 i (by omega)).trans (hf1 i (by omega)))⟩ dX8_keepsMind_88
    · refine lv_aload_n kx kb dX8_keepsMind_54 rfl (lv_at hl 0 rfl) ?_
      refine w_get X M h 254 ((hf1 254 (by omega)).trans hm.2) (by omega) fl_X8_36 rfl dX8_keepsMind_55 ?_
      refine lv_sipush (v := nI 274) kx kb dX8_keepsMind_58 (by decide) ?_
      refine lv_iload_n kx kb dX8_keepsMind_61 rfl (lv_at hl 1 rfl) ?_
      refine w_muln kx kb dX8_keepsMind_62 ?_
      refine lv_iload_n kx kb dX8_keepsMind_63 rfl (lv_at hl 2 rfl) ?_
      refine w_addn kx kb dX8_keepsMind_64 ?_
      refine lv_aload_n kx kb dX8_keepsMind_65 rfl (lv_at hl 0 rfl) ?_
      refine w_get X M h 254 ((hf1 254 (by omega)).trans hm.2) (by omega) fl_X8_42 rfl dX8_keepsMind_66 ?_
      refine lv_iload_n kx kb dX8_keepsMind_69 rfl (lv_at hl 2 rfl) ?_
      refine w_iald X M h 258 (hD.fr (hf1 258 (by omega))) (by omega) (k) (rfl) (by omega) (by omega) dX8_keepsMind_70 ?_
      refine w_iast X M h 256 hU1 (by omega) (274 * ((v 1 + (v 0)) % 8) + k) (rfl) (by omega) (by omega) dX8_keepsMind_71 (fun F4 H locs h he_F4 hf_F4 => ?_)
      refine lv_iinc (v := nI (k + 1)) (lv' := [(2, .int (nI (k + 1))), (0, .ref (ad 254)), (1, .int (nI ((v 1 + (v 0)) % 8)))]) kx kb dX8_keepsMind_72 hl (k := 2) rfl (nI_add _ _) (by decide) rfl (fun ls hl => ?_)
      refine lv_goto (tgt := 47) kx kb dX8_keepsMind_75 (by decide) ?_
      exact ih (k + 1) F4 (upd U1 (274 * ((v 1 + (v 0)) % 8) + k) (D k)) _ _ _ ⟨h, lv_sub hl [1, 2, 0] rfl, by omega, he_F4, (fun q hq => (hf_F4 q (by omega)).trans (hf1 q (by omega))), fun q g1 => by
          by_cases e : q = k
          · subst e; exact upd_eq rfl
          · rw [upd_ne (by omega)]; exact h1 q (by omega), fun q g1 => by rw [upd_ne (by omega)]; exact h2 q g1⟩ (by omega)
  · refine lv_aload_n kx kb dX8_keepsMind_9 rfl (lv_at hl 0 rfl) ?_
    refine lv_aload_n kx kb dX8_keepsMind_10 rfl (lv_at hl 0 rfl) ?_
    refine w_get X M h 254 hm.2 (by omega) fl_X8_64 rfl dX8_keepsMind_11 ?_
    refine lv_iconst (v := nI 1) kx kb dX8_keepsMind_14 (by decide) ?_
    refine w_addn kx kb dX8_keepsMind_15 ?_
    refine lv_bipush (v := nI 8) kx kb dX8_keepsMind_16 (by decide) ?_
    refine w_remn kx kb (by omega) (by omega) (by omega) dX8_keepsMind_18 ?_
    refine w_put X M h 254 hm.2 (by omega) fp_X8_64 (rfl) (by rfl) (Nat.le_of_ble_eq_true rfl) dX8_keepsMind_19 (fun F5 H locs h he_F5 hf_F5 => ?_)
    refine lv_aload_n kx kb dX8_keepsMind_22 rfl (lv_at hl 0 rfl) ?_
    refine lv_dup kx kb dX8_keepsMind_23 rfl ?_
    refine w_get X M h 254 he_F5 (by omega) fl_X8_61 rfl dX8_keepsMind_24 ?_
    refine lv_iconst (v := nI 1) kx kb dX8_keepsMind_27 (by decide) ?_
    refine w_subn kx kb (by omega) dX8_keepsMind_28 ?_
    refine w_put X M h 254 he_F5 (by omega) fp_X8_61 (rfl) (by rfl) (Nat.le_of_ble_eq_true rfl) dX8_keepsMind_29 (fun F6 H locs h he_F6 hf_F6 => ?_)
    refine lv_aload_n kx kb dX8_keepsMind_32 rfl (lv_at hl 0 rfl) ?_
    refine w_get X M h 254 he_F6 (by omega) fl_X8_64 rfl dX8_keepsMind_33 ?_
    refine lv_aload_n kx kb dX8_keepsMind_36 rfl (lv_at hl 0 rfl) ?_
    refine w_get X M h 254 he_F6 (by omega) fl_X8_61 rfl dX8_keepsMind_37 ?_
    refine w_addn kx kb dX8_keepsMind_40 ?_
    refine lv_bipush (v := nI 8) kx kb dX8_keepsMind_41 (by decide) ?_
    refine w_remn kx kb (by omega) (by omega) (by omega) dX8_keepsMind_43 ?_
    refine lv_istore_n (lv' := [(1, .int (nI (((v 1 + 1) % 8 + ((v 0) - 1)) % 8))), (0, .ref (ad 254))]) kx kb dX8_keepsMind_44 rfl hl (by decide) rfl (fun ls hl => ?_)
    refine lv_iconst (v := nI 0) kx kb dX8_keepsMind_45 (by decide) ?_
    refine lv_istore_n (lv' := [(2, .int (nI 0)), (1, .int (nI (((v 1 + 1) % 8 + ((v 0) - 1)) % 8))), (0, .ref (ad 254))]) kx kb dX8_keepsMind_46 rfl hl (by decide) rfl (fun ls hl => ?_)
    have hto : ((v 1 + 1) % 8 + ((v 0) - 1)) % 8 < 8 := Nat.mod_lt _ (by decide)
    refine w_loop3 (fun (k : Nat) (F1 : Nat → va_E) (U1 : Nat → Int32) => 274 - k) (fun (k : Nat) (F1 : Nat → va_E) (U1 : Nat → Int32) H locs ls => Hx g N ad F1 A s H locs ∧ lv_has ls 3 [(0, .ref (ad 254)), (1, .int (nI (((v 1 + 1) % 8 + ((v 0) - 1)) % 8))), (2, .int (nI k))] ∧ (k ≤ 274) ∧ (arI g F1 256 2192 U1) ∧ (∀ q, q ≠ 256 → F1 q = F6 q) ∧ (∀ j, j < k → U1 (274 * (((v 1 + 1) % 8 + ((v 0) - 1)) % 8) + j) = D j) ∧ (∀ j, j < 274 * (((v 1 + 1) % 8 + ((v 0) - 1)) % 8) ∨ 274 * (((v 1 + 1) % 8 + ((v 0) - 1)) % 8) + 274 ≤ j → U1 j = U j)) ?_ 0 F6 U ⟨h, lv_sub hl [2, 1, 0] rfl, by omega, ((hU.fr (hf_F5 256 (by omega))).fr (hf_F6 256 (by omega))), fun q hq => rfl, fun q hq => absurd hq (Nat.not_lt_zero q), fun q hq => rfl⟩
    intro k F1 U1 H locs ls hinv ih
    obtain ⟨h, hl, hk, hU1, hf1, h1, h2⟩ := hinv
    refine lv_iload_n kx kb dX8_keepsMind_47 rfl (lv_at hl 2 rfl) ?_
    refine lv_sipush (v := nI 274) kx kb dX8_keepsMind_48 (by decide) ?_
    refine w_cmp_ge (tgt := 78) kx kb (by omega) (by omega) dX8_keepsMind_51 (by decide) (fun c_7 => ?_) (fun c_7 => ?_)
    · refine lv_aload_n kx kb dX8_keepsMind_78 rfl (lv_at hl 0 rfl) ?_
      refine lv_dup kx kb dX8_keepsMind_79 rfl ?_
      refine w_get X M h 254 ((hf1 254 (by omega)).trans he_F6) (by omega) fl_X8_61 rfl dX8_keepsMind_80 ?_
      refine lv_iconst (v := nI 1) kx kb dX8_keepsMind_83 (by decide) ?_
      refine w_addn kx kb dX8_keepsMind_84 ?_
      refine w_put X M h 254 ((hf1 254 (by omega)).trans he_F6) (by omega) fp_X8_61 (rfl) (by rfl) (Nat.le_of_ble_eq_true rfl) dX8_keepsMind_85 (fun F8 H locs h he_F8 hf_F8 => ?_)
      exact w_vret X h ⟨⟨by omega, he_F8.trans (by rw [show vKeep v 0 = (v 0) - 1 + 1 from by show min 8 (v 0 + 1) = _; omega, show vKeep v 1 = (v 1 + 1) % 8 from if_pos c_1]; rfl)⟩, ⟨U1, (hU1.fr (hf_F8 256 (by omega))), by have hh := oU_push hv1 hv0 hRU hRM (f2 := (v 1 + 1) % 8) (c2 := ((v 0) - 1)) ((if_pos c_1).symm) (by omega) (fun j hj => h1 j (by omega)) h2 hn ht hns; rw [show vKeep v 1 = (v 1 + 1) % 8 from if_pos c_1]; exact hh⟩, (fun i hi hi2 => (hf_F8 i (by omega)).trans ((hf1 i (by omega)).trans ((hf_F6 i (by omega)).trans (hf_F5 i (by omega)))))⟩ dX8_keepsMind_88
    · refine lv_aload_n kx kb dX8_keepsMind_54 rfl (lv_at hl 0 rfl) ?_
      refine w_get X M h 254 ((hf1 254 (by omega)).trans he_F6) (by omega) fl_X8_36 rfl dX8_keepsMind_55 ?_
      refine lv_sipush (v := nI 274) kx kb dX8_keepsMind_58 (by decide) ?_
      refine lv_iload_n kx kb dX8_keepsMind_61 rfl (lv_at hl 1 rfl) ?_
      refine w_muln kx kb dX8_keepsMind_62 ?_
      refine lv_iload_n kx kb dX8_keepsMind_63 rfl (lv_at hl 2 rfl) ?_
      refine w_addn kx kb dX8_keepsMind_64 ?_
      refine lv_aload_n kx kb dX8_keepsMind_65 rfl (lv_at hl 0 rfl) ?_
      refine w_get X M h 254 ((hf1 254 (by omega)).trans he_F6) (by omega) fl_X8_42 rfl dX8_keepsMind_66 ?_
      refine lv_iload_n kx kb dX8_keepsMind_69 rfl (lv_at hl 2 rfl) ?_
      refine w_iald X M h 258 (((hD.fr (hf_F5 258 (by omega))).fr (hf_F6 258 (by omega))).fr (hf1 258 (by omega))) (by omega) (k) (rfl) (by omega) (by omega) dX8_keepsMind_70 ?_
      refine w_iast X M h 256 hU1 (by omega) (274 * (((v 1 + 1) % 8 + ((v 0) - 1)) % 8) + k) (rfl) (by omega) (by omega) dX8_keepsMind_71 (fun F9 H locs h he_F9 hf_F9 => ?_)
      refine lv_iinc (v := nI (k + 1)) (lv' := [(2, .int (nI (k + 1))), (0, .ref (ad 254)), (1, .int (nI (((v 1 + 1) % 8 + ((v 0) - 1)) % 8)))]) kx kb dX8_keepsMind_72 hl (k := 2) rfl (nI_add _ _) (by decide) rfl (fun ls hl => ?_)
      refine lv_goto (tgt := 47) kx kb dX8_keepsMind_75 (by decide) ?_
      exact ih (k + 1) F9 (upd U1 (274 * (((v 1 + 1) % 8 + ((v 0) - 1)) % 8) + k) (D k)) _ _ _ ⟨h, lv_sub hl [1, 2, 0] rfl, by omega, he_F9, (fun q hq => (hf_F9 q (by omega)).trans (hf1 q (by omega))), fun q g1 => by
          by_cases e : q = k
          · subst e; exact upd_eq rfl
          · rw [upd_ne (by omega)]; exact h1 q (by omega), fun q g1 => by rw [upd_ne (by omega)]; exact h2 q g1⟩ (by omega)
