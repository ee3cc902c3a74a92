set_option maxRecDepth 20000 in
theorem c_X3_at (l : Launch) (g : gT) {N : Nat} {ad : Nat → Nat} {F : Nat → va_E} (i n : Nat) (a : Nat → Int32) (x : Int32) (ho : oRow g N ad F i n a) (hn : n < 2147483648) : CtI l yX3_at cX3_at 2 (some .int) 0 0 g N ad F [.ref (ad i), .int x] (fun r F' => r = rowAt n a x ∧ F' = F) := by
  refine CtI_of (by decide) (Nat.le_of_ble_eq_true rfl) ?_
  intro p e s m args below meth c A H ls X M h hl
  have kx := X.1.1
  have kb := X.1.2.1
  have hl : lv_has ls 2 [(0, .ref (ad i)), (1, .int x)] := hl
  have hN := ho.1
  refine lv_iload_n kx kb dX3_at_0 rfl (lv_at hl 1 rfl) ?_
  refine lv_if_lt (tgt := 22) kx kb dX3_at_1 (by decide) (fun c_1 => ?_) (fun c_1 => ?_)
  · refine lv_iconst (v := nI 0) kx kb dX3_at_22 (by decide) ?_
    exact w_iret X h ⟨by simp [rowAt, nI_0, c_1], rfl⟩ dX3_at_23
  · refine lv_iload_n kx kb dX3_at_4 rfl (lv_at hl 1 rfl) ?_
    refine lv_aload_n kx kb dX3_at_5 rfl (lv_at hl 0 rfl) ?_
    refine w_get X M h i ho.2.1 (by omega) fl_X3_7 rfl dX3_at_6 ?_
    refine w_aleni X M h (i + 1) ho.2.2 (by omega) dX3_at_9 ?_
    refine lv_icmp_ge (tgt := 22) kx kb dX3_at_10 (by decide) (fun c_2 => ?_) (fun c_2 => ?_)
    · refine lv_iconst (v := nI 0) kx kb dX3_at_22 (by decide) ?_
      exact w_iret X h ⟨by simp [rowAt, nI_0, c_1, c_2], rfl⟩ dX3_at_23
    · obtain ⟨k, hk, rfl⟩ := ix_of c_1 c_2 hn
      refine lv_aload_n kx kb dX3_at_13 rfl (lv_at hl 0 rfl) ?_
      refine w_get X M h i ho.2.1 (by omega) fl_X3_7 rfl dX3_at_14 ?_
      refine lv_iload_n kx kb dX3_at_17 rfl (lv_at hl 1 rfl) ?_
      refine w_iald X M h (i + 1) ho.2.2 (by omega) (k) (rfl) (by omega) (by omega) dX3_at_18 ?_
      refine lv_goto (tgt := 23) kx kb dX3_at_19 (by decide) ?_
      exact w_iret X h ⟨(rowAt_n hk hn).symm, rfl⟩ dX3_at_23
theorem c_X3_at_n (l : Launch) (g : gT) {N : Nat} {ad : Nat → Nat} {F : Nat → va_E} (i n : Nat) (a : Nat → Int32) (k : Nat) (ho : oRow g N ad F i n a) (hk : k < n) (hn : n < 2147483648) : CtI l yX3_at cX3_at 2 (some .int) 0 0 g N ad F [.ref (ad i), .int (nI k)] (fun r F' => r = a k ∧ F' = F) := by
  have h := c_X3_at l g i n a (nI k) ho hn
  rw [rowAt_n hk hn] at h
  exact h
set_option maxRecDepth 20000 in
theorem c_X3_put (l : Launch) (g : gT) {N : Nat} {ad : Nat → Nat} {F : Nat → va_E} (i n : Nat) (a : Nat → Int32) (k : Nat) (v : Int32) (ho : oRow g N ad F i n a) (hn : n < 2147483648) (hk : k < 2147483648) : CtV l yX3_put cX3_put 3 none 0 0 g N ad F [.ref (ad i), .int (nI k), .int v] (fun F' => oRow g N ad F' i n (rowPut n a k v) ∧ ∀ q, q ≠ i + 1 → F' q = F q) := by
  refine CtV_of (by decide) (Nat.le_of_ble_eq_true rfl) ?_
  intro p e s m args below meth c A H ls X M h hl
  have kx := X.1.1
  have kb := X.1.2.1
  have hl : lv_has ls 3 [(0, .ref (ad i)), (1, .int (nI k)), (2, .int v)] := hl
  have hN := ho.1
  refine lv_iload_n kx kb dX3_put_0 rfl (lv_at hl 1 rfl) ?_
  refine w_if_lt (tgt := 20) kx kb (by omega) dX3_put_1 (by decide) ?_
  refine lv_iload_n kx kb dX3_put_4 rfl (lv_at hl 1 rfl) ?_
  refine lv_aload_n kx kb dX3_put_5 rfl (lv_at hl 0 rfl) ?_
  refine w_get X M h i ho.2.1 (by omega) fl_X3_7 rfl dX3_put_6 ?_
  refine w_aleni X M h (i + 1) ho.2.2 (by omega) dX3_put_9 ?_
  refine w_cmp_ge (tgt := 20) kx kb (by omega) (by omega) dX3_put_10 (by decide) (fun c_1 => ?_) (fun c_1 => ?_)
  · exact w_vret X h ⟨by rw [rowPut, if_neg (by omega)]; exact ho, fun q hq => rfl⟩ dX3_put_20
  · refine lv_aload_n kx kb dX3_put_13 rfl (lv_at hl 0 rfl) ?_
    refine w_get X M h i ho.2.1 (by omega) fl_X3_7 rfl dX3_put_14 ?_
    refine lv_iload_n kx kb dX3_put_17 rfl (lv_at hl 1 rfl) ?_
    refine lv_iload_n kx kb dX3_put_18 rfl (lv_at hl 2 rfl) ?_
    refine w_iast X M h (i + 1) ho.2.2 (by omega) (k) (rfl) (by omega) (by omega) dX3_put_19 (fun F2 H locs h he_F2 hf_F2 => ?_)
    exact w_vret X h ⟨⟨by omega, ((hf_F2 i (by omega)).trans ho.2.1), by rw [rowPut_in c_1]; exact he_F2⟩, fun q hq => hf_F2 q hq⟩ dX3_put_20
set_option maxRecDepth 20000 in
theorem c_X3_takeOut (l : Launch) (g : gT) {N : Nat} {ad : Nat → Nat} {F : Nat → va_E} (i n : Nat) (a : Nat → Int32) (k : Nat) (ho : oRow g N ad F i n a) (hn : n < 2147483647) (h0 : 0 < n) (hk : k < 2147483647) : CtV l yX3_takeOut cX3_takeOut 3 none 0 0 g N ad F [.ref (ad i), .int (nI k)] (fun F' => oRow g N ad F' i n (rowOut n a k) ∧ ∀ q, q ≠ i + 1 → F' q = F q) := by
  refine CtV_of (by decide) (Nat.le_of_ble_eq_true rfl) ?_
  intro p e s m args below meth c A H ls X M h hl
  have kx := X.1.1
  have kb := X.1.2.1
  have hl : lv_has ls 3 [(0, .ref (ad i)), (1, .int (nI k))] := hl
  have hN := ho.1
  refine lv_iload_n kx kb dX3_takeOut_0 rfl (lv_at hl 1 rfl) ?_
  refine w_if_lt (tgt := 37) kx kb (by omega) dX3_takeOut_1 (by decide) ?_
  refine lv_iload_n kx kb dX3_takeOut_4 rfl (lv_at hl 1 rfl) ?_
  refine lv_istore_n (lv' := [(2, .int (nI k)), (0, .ref (ad i)), (1, .int (nI k))]) kx kb dX3_takeOut_5 rfl hl (by decide) rfl (fun ls hl => ?_)
  refine w_loop3 (fun (b : Nat) (F1 : Nat → va_E) (a1 : Nat → Int32) => n - b) (fun (b : Nat) (F1 : Nat → va_E) (a1 : Nat → Int32) H locs ls => Hx g N ad F1 A s H locs ∧ lv_has ls 3 [(0, .ref (ad i)), (2, .int (nI b))] ∧ (k ≤ b ∧ (b + 1 ≤ n ∨ b = k)) ∧ (oRow g N ad F1 i n a1) ∧ (∀ q, a1 q = if k ≤ q ∧ q < b then a (q + 1) else a q) ∧ (∀ q, q ≠ i + 1 → F1 q = F q)) ?_ k F a ⟨h, lv_sub hl [1, 0] rfl, by omega, ho, fun q => by rw [if_neg (by omega)], fun q _ => rfl⟩
  intro b F1 a1 H locs ls hinv ih
  obtain ⟨h, hl, hb, ho1, ha1, hfr⟩ := hinv
  refine lv_iload_n kx kb dX3_takeOut_6 rfl (lv_at hl 1 rfl) ?_
  refine lv_aload_n kx kb dX3_takeOut_7 rfl (lv_at hl 0 rfl) ?_
  refine w_get X M h i ho1.2.1 (by omega) fl_X3_7 rfl dX3_takeOut_8 ?_
  refine w_aleni X M h (i + 1) ho1.2.2 (by omega) dX3_takeOut_11 ?_
  refine lv_iconst (v := nI 1) kx kb dX3_takeOut_12 (by decide) ?_
  refine w_subn kx kb (by omega) dX3_takeOut_13 ?_
  refine w_cmp_ge (tgt := 37) kx kb (by omega) (by omega) dX3_takeOut_14 (by decide) (fun c_1 => ?_) (fun c_1 => ?_)
  · exact w_vret X h ⟨ho1.eq (fun q hq => by simp only [rowOut, ha1]; split <;> (try split) <;> first | rfl | (exfalso; omega)), fun q hq => hfr q hq⟩ dX3_takeOut_37
  · refine lv_aload_n kx kb dX3_takeOut_17 rfl (lv_at hl 0 rfl) ?_
    refine w_get X M h i ho1.2.1 (by omega) fl_X3_7 rfl dX3_takeOut_18 ?_
    refine lv_iload_n kx kb dX3_takeOut_21 rfl (lv_at hl 1 rfl) ?_
    refine lv_aload_n kx kb dX3_takeOut_22 rfl (lv_at hl 0 rfl) ?_
    refine w_get X M h i ho1.2.1 (by omega) fl_X3_7 rfl dX3_takeOut_23 ?_
    refine lv_iload_n kx kb dX3_takeOut_26 rfl (lv_at hl 1 rfl) ?_
    refine lv_iconst (v := nI 1) kx kb dX3_takeOut_27 (by decide) ?_
    refine w_addn kx kb dX3_takeOut_28 ?_
    refine w_iald X M h (i + 1) ho1.2.2 (by omega) (b + 1) (rfl) (by omega) (by omega) dX3_takeOut_29 ?_
    refine w_iast X M h (i + 1) ho1.2.2 (by omega) (b) (rfl) (by omega) (by omega) dX3_takeOut_30 (fun F2 H locs h he_F2 hf_F2 => ?_)
    refine lv_iinc (v := nI (b + 1)) (lv' := [(2, .int (nI (b + 1))), (0, .ref (ad i))]) kx kb dX3_takeOut_31 hl (k := 1) rfl (nI_add _ _) (by decide) rfl (fun ls hl => ?_)
    refine lv_goto (tgt := 6) kx kb dX3_takeOut_34 (by decide) ?_
    exact ih (b + 1) F2 (upd a1 b (a1 (b + 1))) _ _ _ ⟨h, lv_sub hl [1, 0] rfl, by omega, ⟨by omega, ((hf_F2 i (by omega)).trans ho1.2.1), he_F2⟩, fun q => by simp only [upd, ha1]; split <;> (try split) <;> (try split) <;> (try subst_vars) <;> first | rfl | (exfalso; omega) | (congr 1), fun q hq => (hf_F2 q hq).trans (hfr q hq)⟩ (by omega)
set_option maxRecDepth 20000 in
theorem c_X3_copy (l : Launch) (g : gT) {N : Nat} {ad : Nat → Nat} {F : Nat → va_E} (i j n : Nat) (a b : Nat → Int32) (ho : oRow g N ad F i n a) (ho2 : oRow g N ad F j n b) (hn : n < 2147483648) : CtV l yX3_copy cX3_copy 3 none 1 30 g N ad F [.ref (ad i), .ref (ad j)] (fun F' => oRow g N ad F' j n a ∧ ∀ q, q ≠ j + 1 → F' q = F q) := by
  refine CtV_of (by decide) (Nat.le_of_ble_eq_true rfl) ?_
  intro p e s m args below meth c A H ls X M h hl
  have kx := X.1.1
  have kb := X.1.2.1
  have hl : lv_has ls 3 [(0, .ref (ad i)), (1, .ref (ad j))] := hl
  have hN := ho.1
  have hN2 := ho2.1
  refine lv_aload_n kx kb dX3_copy_0 rfl (lv_at hl 0 rfl) ?_
  refine w_get X M h i ho.2.1 (by omega) fl_X3_7 rfl dX3_copy_1 ?_
  refine w_aleni X M h (i + 1) ho.2.2 (by omega) dX3_copy_4 ?_
  refine lv_aload_n kx kb dX3_copy_5 rfl (lv_at hl 1 rfl) ?_
  refine w_get X M h j ho2.2.1 (by omega) fl_X3_7 rfl dX3_copy_6 ?_
  refine w_aleni X M h (j + 1) ho2.2.2 (by omega) dX3_copy_9 ?_
  refine w_mminn X hl q2_42 (by omega) (by omega) ⟨by decide, by decide⟩ (Nat.le_of_ble_eq_true rfl) ⟨Nat.zero_le _, Nat.zero_le _⟩ dX3_copy_10 ?_
  refine w_top (y := nI n) (by rw [Nat.min_self]) ?_
  refine lv_istore_n (lv' := [(2, .int (nI n)), (0, .ref (ad i)), (1, .ref (ad j))]) kx kb dX3_copy_13 rfl hl (by decide) rfl (fun ls hl => ?_)
  refine lv_aload_n kx kb dX3_copy_14 rfl (lv_at hl 1 rfl) ?_
  refine w_get X M h i ho.2.1 (by omega) fl_X3_7 rfl dX3_copy_15 ?_
  refine lv_iconst (v := nI 0) kx kb dX3_copy_18 (by decide) ?_
  refine lv_aload_n kx kb dX3_copy_19 rfl (lv_at hl 2 rfl) ?_
  refine w_get X M h j ho2.2.1 (by omega) fl_X3_7 rfl dX3_copy_20 ?_
  refine lv_iconst (v := nI 0) kx kb dX3_copy_23 (by decide) ?_
  refine lv_iload_n kx kb dX3_copy_24 rfl (lv_at hl 0 rfl) ?_
  refine w_copyi X M h (i + 1) (j + 1) ho.2.2 ho2.2.2 (by omega) (by omega) hl (by omega) q2_45 ⟨by decide, by decide⟩ (Nat.le_of_ble_eq_true rfl) dX3_copy_25 (fun F1 H locs h he_F1 hf_F1 => ?_)
  exact w_vret X h ⟨⟨by omega, (hf_F1 j (by omega)).trans ho2.2.1, he_F1⟩, fun q hq => hf_F1 q hq⟩ dX3_copy_28
