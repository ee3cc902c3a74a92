set_option maxRecDepth 20000 in
theorem c_X1_has (l : Launch) (g : gT) {N : Nat} {ad : Nat → Nat} {F : Nat → va_E} (i n : Nat) (j : Nat → Nat → Int32) (ho : oJokes g N ad F i n j) (hn : n ≤ 12) (x : Int32) : CtI l yX1_has cX1_has 2 (some .boolean) 0 0 g N ad F [.ref (ad i), .int x] (fun r F' => r = (bI (¬ x < 0 ∧ ¬ nI n ≤ x)) ∧ F' = F) := by
  refine CtI_of (by decide) (Nat.le_of_ble_eq_true rfl) ?_
  intro p e s m args below meth c A H ls X M h hl
  have kx := X.1.1
  have kb := X.1.2.1
  have hl : lv_has ls 2 [(0, .ref (ad i)), (1, .int x)] := hl
  have hN := ho.1
  refine lv_iload_n kx kb dX1_has_0 rfl (lv_at hl 1 rfl) ?_
  refine lv_if_lt (tgt := 16) kx kb dX1_has_1 (by decide) (fun c_1 => ?_) (fun c_1 => ?_)
  · refine lv_iconst (v := nI 0) kx kb dX1_has_16 (by decide) ?_
    exact w_zret X h (Or.inl (by decide)) ⟨bI_fn (fun z => z.1 c_1), rfl⟩ dX1_has_17
  · refine lv_iload_n kx kb dX1_has_4 rfl (lv_at hl 1 rfl) ?_
    refine lv_aload_n kx kb dX1_has_5 rfl (lv_at hl 0 rfl) ?_
    refine w_get X M h i ho.2.1 (by omega) fl_X1_9 rfl dX1_has_6 ?_
    refine lv_icmp_ge (tgt := 16) kx kb dX1_has_9 (by decide) (fun c_2 => ?_) (fun c_2 => ?_)
    · refine lv_iconst (v := nI 0) kx kb dX1_has_16 (by decide) ?_
      exact w_zret X h (Or.inl (by decide)) ⟨bI_fn (fun z => z.2 c_2), rfl⟩ dX1_has_17
    · refine lv_iconst (v := nI 1) kx kb dX1_has_12 (by decide) ?_
      refine lv_goto (tgt := 17) kx kb dX1_has_13 (by decide) ?_
      exact w_zret X h (Or.inr (by decide)) ⟨bI_tn ⟨c_1, c_2⟩, rfl⟩ dX1_has_17
set_option maxRecDepth 20000 in
theorem c_X1_add (l : Launch) (g : gT) {N : Nat} {ad : Nat → Nat} {F : Nat → va_E} (i n : Nat) (j : Nat → Nat → Int32) (ho : oJokes g N ad F i n j) (hn : n < 12) (wl dp sg wt : Int32) : CtV l yX1_add cX1_add 5 none 1 22 g N ad F [.ref (ad i), .int wl, .int dp, .int sg, .int wt] (fun F' => oJokes g N ad F' i (n + 1) (jAdd j n wl dp sg wt) ∧ ∀ q, (q < i ∨ i + 10 < q) → F' q = F q) := by
  refine CtV_of (by decide) (Nat.le_of_ble_eq_true rfl) ?_
  intro p e s m args below meth c A H ls X M h hl
  have kx := X.1.1
  have kb := X.1.2.1
  have hl : lv_has ls 5 [(0, .ref (ad i)), (1, .int wl), (2, .int dp), (3, .int sg), (4, .int wt)] := hl
  have hN := ho.1
  refine lv_aload_n kx kb dX1_add_0 rfl (lv_at hl 0 rfl) ?_
  refine w_get X M h i ho.2.1 (by omega) fl_X1_9 rfl dX1_add_1 ?_
  refine lv_bipush (v := nI 12) kx kb dX1_add_4 (by decide) ?_
  refine w_cmp_ge (tgt := 80) kx kb (by omega) (by omega) dX1_add_6 (by decide) (fun c_1 => (show False by omega).elim) (fun c_1 => ?_)
  refine lv_aload_n kx kb dX1_add_9 rfl (lv_at hl 0 rfl) ?_
  refine w_get X M h i ho.2.1 (by omega) fl_X1_20 rfl dX1_add_10 ?_
  refine lv_aload_n kx kb dX1_add_13 rfl (lv_at hl 0 rfl) ?_
  refine w_get X M h i ho.2.1 (by omega) fl_X1_9 rfl dX1_add_14 ?_
  refine lv_iload_n kx kb dX1_add_17 rfl (lv_at hl 1 rfl) ?_
  refine w_callVv X M h [.int (nI n), .int wl] [] ((c_X3_put l g (i + 1) 12 (j 0) n wl ⟨by omega, ho.2.2.1.2.1, ho.2.2.1.2.2⟩ (by omega) (by omega))) lk_X1_36 ho.2.2.1.2.1 (by omega) rfl rfl ⟨by decide, by decide⟩ hl ⟨Nat.zero_le _, Nat.zero_le _⟩ (Nat.le_of_ble_eq_true rfl) rfl dX1_add_18 (fun F2 H locs hp_F2 h => ?_)
  refine lv_aload_n kx kb dX1_add_21 rfl (lv_at hl 0 rfl) ?_
  refine w_get X M h i ((hp_F2.2 i (by omega)).trans ho.2.1) (by omega) fl_X1_24 rfl dX1_add_22 ?_
  refine lv_aload_n kx kb dX1_add_25 rfl (lv_at hl 0 rfl) ?_
  refine w_get X M h i ((hp_F2.2 i (by omega)).trans ho.2.1) (by omega) fl_X1_9 rfl dX1_add_26 ?_
  refine lv_iload_n kx kb dX1_add_29 rfl (lv_at hl 2 rfl) ?_
  refine w_callVv X M h [.int (nI n), .int dp] [] ((c_X3_put l g (i + 3) 12 (j 1) n dp ⟨by omega, ((hp_F2.2 (i + 3) (by omega)).trans ho.2.2.2.1.2.1), (ho.2.2.2.1.2.2.fr (hp_F2.2 (i + 4) (by omega)))⟩ (by omega) (by omega))) lk_X1_36 ((hp_F2.2 (i + 3) (by omega)).trans ho.2.2.2.1.2.1) (by omega) rfl rfl ⟨by decide, by decide⟩ hl ⟨Nat.zero_le _, Nat.zero_le _⟩ (Nat.le_of_ble_eq_true rfl) rfl dX1_add_30 (fun F3 H locs hp_F3 h => ?_)
  refine lv_aload_n kx kb dX1_add_33 rfl (lv_at hl 0 rfl) ?_
  refine w_get X M h i ((hp_F3.2 i (by omega)).trans ((hp_F2.2 i (by omega)).trans ho.2.1)) (by omega) fl_X1_27 rfl dX1_add_34 ?_
  refine lv_aload_n kx kb dX1_add_37 rfl (lv_at hl 0 rfl) ?_
  refine w_get X M h i ((hp_F3.2 i (by omega)).trans ((hp_F2.2 i (by omega)).trans ho.2.1)) (by omega) fl_X1_9 rfl dX1_add_38 ?_
  refine lv_iload_n kx kb dX1_add_41 rfl (lv_at hl 3 rfl) ?_
  refine w_callVv X M h [.int (nI n), .int sg] [] ((c_X3_put l g (i + 5) 12 (j 2) n sg ⟨by omega, ((hp_F3.2 (i + 5) (by omega)).trans ((hp_F2.2 (i + 5) (by omega)).trans ho.2.2.2.2.1.2.1)), ((ho.2.2.2.2.1.2.2.fr (hp_F2.2 (i + 6) (by omega))).fr (hp_F3.2 (i + 6) (by omega)))⟩ (by omega) (by omega))) lk_X1_36 ((hp_F3.2 (i + 5) (by omega)).trans ((hp_F2.2 (i + 5) (by omega)).trans ho.2.2.2.2.1.2.1)) (by omega) rfl rfl ⟨by decide, by decide⟩ hl ⟨Nat.zero_le _, Nat.zero_le _⟩ (Nat.le_of_ble_eq_true rfl) rfl dX1_add_42 (fun F4 H locs hp_F4 h => ?_)
  refine lv_aload_n kx kb dX1_add_45 rfl (lv_at hl 0 rfl) ?_
  refine w_get X M h i ((hp_F4.2 i (by omega)).trans ((hp_F3.2 i (by omega)).trans ((hp_F2.2 i (by omega)).trans ho.2.1))) (by omega) fl_X1_30 rfl dX1_add_46 ?_
  refine lv_aload_n kx kb dX1_add_49 rfl (lv_at hl 0 rfl) ?_
  refine w_get X M h i ((hp_F4.2 i (by omega)).trans ((hp_F3.2 i (by omega)).trans ((hp_F2.2 i (by omega)).trans ho.2.1))) (by omega) fl_X1_9 rfl dX1_add_50 ?_
  refine lv_iload kx kb dX1_add_53 (lv_at hl 4 rfl) ?_
  refine w_callVv X M h [.int (nI n), .int wt] [] ((c_X3_put l g (i + 7) 12 (j 3) n wt ⟨by omega, ((hp_F4.2 (i + 7) (by omega)).trans ((hp_F3.2 (i + 7) (by omega)).trans ((hp_F2.2 (i + 7) (by omega)).trans ho.2.2.2.2.2.1.2.1))), (((ho.2.2.2.2.2.1.2.2.fr (hp_F2.2 (i + 8) (by omega))).fr (hp_F3.2 (i + 8) (by omega))).fr (hp_F4.2 (i + 8) (by omega)))⟩ (by omega) (by omega))) lk_X1_36 ((hp_F4.2 (i + 7) (by omega)).trans ((hp_F3.2 (i + 7) (by omega)).trans ((hp_F2.2 (i + 7) (by omega)).trans ho.2.2.2.2.2.1.2.1))) (by omega) rfl rfl ⟨by decide, by decide⟩ hl ⟨Nat.zero_le _, Nat.zero_le _⟩ (Nat.le_of_ble_eq_true rfl) rfl dX1_add_55 (fun F5 H locs hp_F5 h => ?_)
  refine lv_aload_n kx kb dX1_add_58 rfl (lv_at hl 0 rfl) ?_
  refine w_get X M h i ((hp_F5.2 i (by omega)).trans ((hp_F4.2 i (by omega)).trans ((hp_F3.2 i (by omega)).trans ((hp_F2.2 i (by omega)).trans ho.2.1)))) (by omega) fl_X1_33 rfl dX1_add_59 ?_
  refine lv_aload_n kx kb dX1_add_62 rfl (lv_at hl 0 rfl) ?_
  refine w_get X M h i ((hp_F5.2 i (by omega)).trans ((hp_F4.2 i (by omega)).trans ((hp_F3.2 i (by omega)).trans ((hp_F2.2 i (by omega)).trans ho.2.1)))) (by omega) fl_X1_9 rfl dX1_add_63 ?_
  refine lv_iconst (v := nI 0) kx kb dX1_add_66 (by decide) ?_
  refine w_callVv X M h [.int (nI n), .int (nI 0)] [] ((c_X3_put l g (i + 9) 12 (j 4) n (nI 0) ⟨by omega, ((hp_F5.2 (i + 9) (by omega)).trans ((hp_F4.2 (i + 9) (by omega)).trans ((hp_F3.2 (i + 9) (by omega)).trans ((hp_F2.2 (i + 9) (by omega)).trans ho.2.2.2.2.2.2.2.1)))), ((((ho.2.2.2.2.2.2.2.2.fr (hp_F2.2 (i + 10) (by omega))).fr (hp_F3.2 (i + 10) (by omega))).fr (hp_F4.2 (i + 10) (by omega))).fr (hp_F5.2 (i + 10) (by omega)))⟩ (by omega) (by omega))) lk_X1_36 ((hp_F5.2 (i + 9) (by omega)).trans ((hp_F4.2 (i + 9) (by omega)).trans ((hp_F3.2 (i + 9) (by omega)).trans ((hp_F2.2 (i + 9) (by omega)).trans ho.2.2.2.2.2.2.2.1)))) (by omega) rfl rfl ⟨by decide, by decide⟩ hl ⟨Nat.zero_le _, Nat.zero_le _⟩ (Nat.le_of_ble_eq_true rfl) rfl dX1_add_67 (fun F6 H locs hp_F6 h => ?_)
  refine lv_aload_n kx kb dX1_add_70 rfl (lv_at hl 0 rfl) ?_
  refine lv_dup kx kb dX1_add_71 rfl ?_
  refine w_get X M h i ((hp_F6.2 i (by omega)).trans ((hp_F5.2 i (by omega)).trans ((hp_F4.2 i (by omega)).trans ((hp_F3.2 i (by omega)).trans ((hp_F2.2 i (by omega)).trans ho.2.1))))) (by omega) fl_X1_9 rfl dX1_add_72 ?_
  refine lv_iconst (v := nI 1) kx kb dX1_add_75 (by decide) ?_
  refine w_addn kx kb dX1_add_76 ?_
  refine w_put X M h i ((hp_F6.2 i (by omega)).trans ((hp_F5.2 i (by omega)).trans ((hp_F4.2 i (by omega)).trans ((hp_F3.2 i (by omega)).trans ((hp_F2.2 i (by omega)).trans ho.2.1))))) (by omega) fp_X1_9 (rfl) (by rfl) (Nat.le_of_ble_eq_true rfl) dX1_add_77 (fun F7 H locs h he_F7 hf_F7 => ?_)
  exact w_vret X h ⟨⟨by omega, he_F7, (⟨by omega, ((hf_F7 (i + 1) (by omega)).trans ((hp_F6.2 (i + 1) (by omega)).trans ((hp_F5.2 (i + 1) (by omega)).trans ((hp_F4.2 (i + 1) (by omega)).trans ((hp_F3.2 (i + 1) (by omega)).trans hp_F2.1.2.1))))), (((((hp_F2.1.2.2.fr (hp_F3.2 (i + 2) (by omega))).fr (hp_F4.2 (i + 2) (by omega))).fr (hp_F5.2 (i + 2) (by omega))).fr (hp_F6.2 (i + 2) (by omega))).fr (hf_F7 (i + 2) (by omega)))⟩ : oRow _ _ _ _ _ _ _), (⟨by omega, ((hf_F7 (i + 3) (by omega)).trans ((hp_F6.2 (i + 3) (by omega)).trans ((hp_F5.2 (i + 3) (by omega)).trans ((hp_F4.2 (i + 3) (by omega)).trans hp_F3.1.2.1)))), ((((hp_F3.1.2.2.fr (hp_F4.2 (i + 4) (by omega))).fr (hp_F5.2 (i + 4) (by omega))).fr (hp_F6.2 (i + 4) (by omega))).fr (hf_F7 (i + 4) (by omega)))⟩ : oRow _ _ _ _ _ _ _), (⟨by omega, ((hf_F7 (i + 5) (by omega)).trans ((hp_F6.2 (i + 5) (by omega)).trans ((hp_F5.2 (i + 5) (by omega)).trans hp_F4.1.2.1))), (((hp_F4.1.2.2.fr (hp_F5.2 (i + 6) (by omega))).fr (hp_F6.2 (i + 6) (by omega))).fr (hf_F7 (i + 6) (by omega)))⟩ : oRow _ _ _ _ _ _ _), (⟨by omega, ((hf_F7 (i + 7) (by omega)).trans ((hp_F6.2 (i + 7) (by omega)).trans hp_F5.1.2.1)), ((hp_F5.1.2.2.fr (hp_F6.2 (i + 8) (by omega))).fr (hf_F7 (i + 8) (by omega)))⟩ : oRow _ _ _ _ _ _ _), (⟨by omega, ((hf_F7 (i + 9) (by omega)).trans hp_F6.1.2.1), (hp_F6.1.2.2.fr (hf_F7 (i + 10) (by omega)))⟩ : oRow _ _ _ _ _ _ _)⟩, (fun q hq => (hf_F7 q (by omega)).trans ((hp_F6.2 q (by omega)).trans ((hp_F5.2 q (by omega)).trans ((hp_F4.2 q (by omega)).trans ((hp_F3.2 q (by omega)).trans (hp_F2.2 q (by omega)))))))⟩ dX1_add_80
set_option maxRecDepth 20000 in
theorem c_X1_remove (l : Launch) (g : gT) {N : Nat} {ad : Nat → Nat} {F : Nat → va_E} (i n : Nat) (j : Nat → Nat → Int32) (ho : oJokes g N ad F i n j) (hn : n ≤ 12) (k : Nat) (hk : k < n) : CtV l yX1_remove cX1_remove 2 none 1 22 g N ad F [.ref (ad i), .int (nI k)] (fun F' => oJokes g N ad F' i (n - 1) (jOut j k) ∧ ∀ q, (q < i ∨ i + 10 < q) → F' q = F q) := by
  refine CtV_of (by decide) (Nat.le_of_ble_eq_true rfl) ?_
  intro p e s m args below meth c A H ls X M h hl
  have kx := X.1.1
  have kb := X.1.2.1
  have hl : lv_has ls 2 [(0, .ref (ad i)), (1, .int (nI k))] := hl
  have hN := ho.1
  refine lv_aload_n kx kb dX1_remove_0 rfl (lv_at hl 0 rfl) ?_
  refine lv_iload_n kx kb dX1_remove_1 rfl (lv_at hl 1 rfl) ?_
  refine w_readVi X M h [.int (nI k)] [] ((c_X1_has l g i n j ⟨by omega, ho.2.1, ⟨by omega, ho.2.2.1.2.1, ho.2.2.1.2.2⟩, ⟨by omega, ho.2.2.2.1.2.1, ho.2.2.2.1.2.2⟩, ⟨by omega, ho.2.2.2.2.1.2.1, ho.2.2.2.2.1.2.2⟩, ⟨by omega, ho.2.2.2.2.2.1.2.1, ho.2.2.2.2.2.1.2.2⟩, ⟨by omega, ho.2.2.2.2.2.2.2.1, ho.2.2.2.2.2.2.2.2⟩⟩ (by omega) (nI k))) lk_X1_40 ho.2.1 (by omega) rfl rfl ⟨by decide, by decide⟩ hl ⟨Nat.zero_le _, Nat.zero_le _⟩ (Nat.le_of_ble_eq_true rfl) rfl dX1_remove_2 (fun H locs h => ?_)
  refine w_if_eqb (tgt := 58) kx kb dX1_remove_5 (by decide) (fun c_1 => (c_1 ⟨nI_pos (by omega), nI_ge hk (by omega)⟩).elim) (fun c_1 => ?_)
  refine lv_aload_n kx kb dX1_remove_8 rfl (lv_at hl 0 rfl) ?_
  refine w_get X M h i ho.2.1 (by omega) fl_X1_20 rfl dX1_remove_9 ?_
  refine lv_iload_n kx kb dX1_remove_12 rfl (lv_at hl 1 rfl) ?_
  refine w_callVv X M h [.int (nI k)] [] ((c_X3_takeOut l g (i + 1) 12 (j 0) k ⟨by omega, ho.2.2.1.2.1, ho.2.2.1.2.2⟩ (by omega) (by omega) (by omega))) lk_X1_44 ho.2.2.1.2.1 (by omega) rfl rfl ⟨by decide, by decide⟩ hl ⟨Nat.zero_le _, Nat.zero_le _⟩ (Nat.le_of_ble_eq_true rfl) rfl dX1_remove_13 (fun F2 H locs hp_F2 h => ?_)
  refine lv_aload_n kx kb dX1_remove_16 rfl (lv_at hl 0 rfl) ?_
  refine w_get X M h i ((hp_F2.2 i (by omega)).trans ho.2.1) (by omega) fl_X1_24 rfl dX1_remove_17 ?_
  refine lv_iload_n kx kb dX1_remove_20 rfl (lv_at hl 1 rfl) ?_
  refine w_callVv X M h [.int (nI k)] [] ((c_X3_takeOut l g (i + 3) 12 (j 1) k ⟨by omega, ((hp_F2.2 (i + 3) (by omega)).trans ho.2.2.2.1.2.1), (ho.2.2.2.1.2.2.fr (hp_F2.2 (i + 4) (by omega)))⟩ (by omega) (by omega) (by omega))) lk_X1_44 ((hp_F2.2 (i + 3) (by omega)).trans ho.2.2.2.1.2.1) (by omega) rfl rfl ⟨by decide, by decide⟩ hl ⟨Nat.zero_le _, Nat.zero_le _⟩ (Nat.le_of_ble_eq_true rfl) rfl dX1_remove_21 (fun F3 H locs hp_F3 h => ?_)
  refine lv_aload_n kx kb dX1_remove_24 rfl (lv_at hl 0 rfl) ?_
  refine w_get X M h i ((hp_F3.2 i (by omega)).trans ((hp_F2.2 i (by omega)).trans ho.2.1)) (by omega) fl_X1_27 rfl dX1_remove_25 ?_
  refine lv_iload_n kx kb dX1_remove_28 rfl (lv_at hl 1 rfl) ?_
  refine w_callVv X M h [.int (nI k)] [] ((c_X3_takeOut l g (i + 5) 12 (j 2) k ⟨by omega, ((hp_F3.2 (i + 5) (by omega)).trans ((hp_F2.2 (i + 5) (by omega)).trans ho.2.2.2.2.1.2.1)), ((ho.2.2.2.2.1.2.2.fr (hp_F2.2 (i + 6) (by omega))).fr (hp_F3.2 (i + 6) (by omega)))⟩ (by omega) (by omega) (by omega))) lk_X1_44 ((hp_F3.2 (i + 5) (by omega)).trans ((hp_F2.2 (i + 5) (by omega)).trans ho.2.2.2.2.1.2.1)) (by omega) rfl rfl ⟨by decide, by decide⟩ hl ⟨Nat.zero_le _, Nat.zero_le _⟩ (Nat.le_of_ble_eq_true rfl) rfl dX1_remove_29 (fun F4 H locs hp_F4 h => ?_)
  refine lv_aload_n kx kb dX1_remove_32 rfl (lv_at hl 0 rfl) ?_
  refine w_get X M h i ((hp_F4.2 i (by omega)).trans ((hp_F3.2 i (by omega)).trans ((hp_F2.2 i (by omega)).trans ho.2.1))) (by omega) fl_X1_30 rfl dX1_remove_33 ?_
  refine lv_iload_n kx kb dX1_remove_36 rfl (lv_at hl 1 rfl) ?_
  refine w_callVv X M h [.int (nI k)] [] ((c_X3_takeOut l g (i + 7) 12 (j 3) k ⟨by omega, ((hp_F4.2 (i + 7) (by omega)).trans ((hp_F3.2 (i + 7) (by omega)).trans ((hp_F2.2 (i + 7) (by omega)).trans ho.2.2.2.2.2.1.2.1))), (((ho.2.2.2.2.2.1.2.2.fr (hp_F2.2 (i + 8) (by omega))).fr (hp_F3.2 (i + 8) (by omega))).fr (hp_F4.2 (i + 8) (by omega)))⟩ (by omega) (by omega) (by omega))) lk_X1_44 ((hp_F4.2 (i + 7) (by omega)).trans ((hp_F3.2 (i + 7) (by omega)).trans ((hp_F2.2 (i + 7) (by omega)).trans ho.2.2.2.2.2.1.2.1))) (by omega) rfl rfl ⟨by decide, by decide⟩ hl ⟨Nat.zero_le _, Nat.zero_le _⟩ (Nat.le_of_ble_eq_true rfl) rfl dX1_remove_37 (fun F5 H locs hp_F5 h => ?_)
  refine lv_aload_n kx kb dX1_remove_40 rfl (lv_at hl 0 rfl) ?_
  refine w_get X M h i ((hp_F5.2 i (by omega)).trans ((hp_F4.2 i (by omega)).trans ((hp_F3.2 i (by omega)).trans ((hp_F2.2 i (by omega)).trans ho.2.1)))) (by omega) fl_X1_33 rfl dX1_remove_41 ?_
  refine lv_iload_n kx kb dX1_remove_44 rfl (lv_at hl 1 rfl) ?_
  refine w_callVv X M h [.int (nI k)] [] ((c_X3_takeOut l g (i + 9) 12 (j 4) k ⟨by omega, ((hp_F5.2 (i + 9) (by omega)).trans ((hp_F4.2 (i + 9) (by omega)).trans ((hp_F3.2 (i + 9) (by omega)).trans ((hp_F2.2 (i + 9) (by omega)).trans ho.2.2.2.2.2.2.2.1)))), ((((ho.2.2.2.2.2.2.2.2.fr (hp_F2.2 (i + 10) (by omega))).fr (hp_F3.2 (i + 10) (by omega))).fr (hp_F4.2 (i + 10) (by omega))).fr (hp_F5.2 (i + 10) (by omega)))⟩ (by omega) (by omega) (by omega))) lk_X1_44 ((hp_F5.2 (i + 9) (by omega)).trans ((hp_F4.2 (i + 9) (by omega)).trans ((hp_F3.2 (i + 9) (by omega)).trans ((hp_F2.2 (i + 9) (by omega)).trans ho.2.2.2.2.2.2.2.1)))) (by omega) rfl rfl ⟨by decide, by decide⟩ hl ⟨Nat.zero_le _, Nat.zero_le _⟩ (Nat.le_of_ble_eq_true rfl) rfl dX1_remove_45 (fun F6 H locs hp_F6 h => ?_)
  refine lv_aload_n kx kb dX1_remove_48 rfl (lv_at hl 0 rfl) ?_
  refine lv_dup kx kb dX1_remove_49 rfl ?_
  refine w_get X M h i ((hp_F6.2 i (by omega)).trans ((hp_F5.2 i (by omega)).trans ((hp_F4.2 i (by omega)).trans ((hp_F3.2 i (by omega)).trans ((hp_F2.2 i (by omega)).trans ho.2.1))))) (by omega) fl_X1_9 rfl dX1_remove_50 ?_
  refine lv_iconst (v := nI 1) kx kb dX1_remove_53 (by decide) ?_
  refine w_subn kx kb (by omega) dX1_remove_54 ?_
  refine w_put X M h i ((hp_F6.2 i (by omega)).trans ((hp_F5.2 i (by omega)).trans ((hp_F4.2 i (by omega)).trans ((hp_F3.2 i (by omega)).trans ((hp_F2.2 i (by omega)).trans ho.2.1))))) (by omega) fp_X1_9 (rfl) (by rfl) (Nat.le_of_ble_eq_true rfl) dX1_remove_55 (fun F7 H locs h he_F7 hf_F7 => ?_)
  exact w_vret X h ⟨⟨by omega, he_F7, (⟨by omega, ((hf_F7 (i + 1) (by omega)).trans ((hp_F6.2 (i + 1) (by omega)).trans ((hp_F5.2 (i + 1) (by omega)).trans ((hp_F4.2 (i + 1) (by omega)).trans ((hp_F3.2 (i + 1) (by omega)).trans hp_F2.1.2.1))))), (((((hp_F2.1.2.2.fr (hp_F3.2 (i + 2) (by omega))).fr (hp_F4.2 (i + 2) (by omega))).fr (hp_F5.2 (i + 2) (by omega))).fr (hp_F6.2 (i + 2) (by omega))).fr (hf_F7 (i + 2) (by omega)))⟩ : oRow _ _ _ _ _ _ _), (⟨by omega, ((hf_F7 (i + 3) (by omega)).trans ((hp_F6.2 (i + 3) (by omega)).trans ((hp_F5.2 (i + 3) (by omega)).trans ((hp_F4.2 (i + 3) (by omega)).trans hp_F3.1.2.1)))), ((((hp_F3.1.2.2.fr (hp_F4.2 (i + 4) (by omega))).fr (hp_F5.2 (i + 4) (by omega))).fr (hp_F6.2 (i + 4) (by omega))).fr (hf_F7 (i + 4) (by omega)))⟩ : oRow _ _ _ _ _ _ _), (⟨by omega, ((hf_F7 (i + 5) (by omega)).trans ((hp_F6.2 (i + 5) (by omega)).trans ((hp_F5.2 (i + 5) (by omega)).trans hp_F4.1.2.1))), (((hp_F4.1.2.2.fr (hp_F5.2 (i + 6) (by omega))).fr (hp_F6.2 (i + 6) (by omega))).fr (hf_F7 (i + 6) (by omega)))⟩ : oRow _ _ _ _ _ _ _), (⟨by omega, ((hf_F7 (i + 7) (by omega)).trans ((hp_F6.2 (i + 7) (by omega)).trans hp_F5.1.2.1)), ((hp_F5.1.2.2.fr (hp_F6.2 (i + 8) (by omega))).fr (hf_F7 (i + 8) (by omega)))⟩ : oRow _ _ _ _ _ _ _), (⟨by omega, ((hf_F7 (i + 9) (by omega)).trans hp_F6.1.2.1), (hp_F6.1.2.2.fr (hf_F7 (i + 10) (by omega)))⟩ : oRow _ _ _ _ _ _ _)⟩, (fun q hq => (hf_F7 q (by omega)).trans ((hp_F6.2 q (by omega)).trans ((hp_F5.2 q (by omega)).trans ((hp_F4.2 q (by omega)).trans ((hp_F3.2 q (by omega)).trans (hp_F2.2 q (by omega)))))))⟩ dX1_remove_58
set_option maxRecDepth 20000 in
theorem c_X1_withSign (l : Launch) (g : gT) {N : Nat} {ad : Nat → Nat} {F : Nat → va_E} (i n : Nat) (j : Nat → Nat → Int32) (ho : oJokes g N ad F i n j) (hn : n ≤ 12) (x : Int32) : CtI l yX1_withSign cX1_withSign 3 (some .int) 1 21 g N ad F [.ref (ad i), .int x] (fun r F' => r = (ixO (fun k => decide (j 2 k = x)) n) ∧ F' = F) := by
  refine CtI_of (by decide) (Nat.le_of_ble_eq_true rfl) ?_
  intro p e s m args below meth c A H ls X M h hl
  have kx := X.1.1
  have kb := X.1.2.1
  have hl : lv_has ls 3 [(0, .ref (ad i)), (1, .int x)] := hl
  have hN := ho.1
  refine lv_iconst (v := nI 0) kx kb dX1_withSign_0 (by decide) ?_
  refine lv_istore_n (lv' := [(2, .int (nI 0)), (0, .ref (ad i)), (1, .int x)]) kx kb dX1_withSign_1 rfl hl (by decide) rfl (fun ls hl => ?_)
  refine w_loop1 (fun (k : Nat) => n - k) (fun (k : Nat) H locs ls => Hx g N ad F A s H locs ∧ lv_has ls 3 [(0, .ref (ad i)), (1, .int x), (2, .int (nI k))] ∧ (k ≤ n) ∧ (∀ q, q < k → (fun k => decide (j 2 k = x)) q = false)) ?_ 0 ⟨h, lv_sub hl [1, 2, 0] rfl, Nat.zero_le _, fun q hq => absurd hq (Nat.not_lt_zero q)⟩
  intro k H locs ls hinv ih
  obtain ⟨h, hl, hk, hno⟩ := hinv
  refine lv_iload_n kx kb dX1_withSign_2 rfl (lv_at hl 2 rfl) ?_
  refine lv_aload_n kx kb dX1_withSign_3 rfl (lv_at hl 0 rfl) ?_
  refine w_get X M h i ho.2.1 (by omega) fl_X1_9 rfl dX1_withSign_4 ?_
  refine w_cmp_ge (tgt := 30) kx kb (by omega) (by omega) dX1_withSign_7 (by decide) (fun c_1 => ?_) (fun c_1 => ?_)
  · refine lv_iconst (v := (-1)) kx kb dX1_withSign_30 (by decide) ?_
    exact w_iret X h ⟨(ixO_no (fun q hq => hno q (by omega))).symm, rfl⟩ dX1_withSign_31
  · have hkn : k < n := c_1
    refine lv_aload_n kx kb dX1_withSign_10 rfl (lv_at hl 0 rfl) ?_
    refine w_get X M h i ho.2.1 (by omega) fl_X1_27 rfl dX1_withSign_11 ?_
    refine lv_iload_n kx kb dX1_withSign_14 rfl (lv_at hl 2 rfl) ?_
    refine w_readVi X M h [.int (nI k)] [] ((c_X3_at_n l g (i + 5) 12 (j 2) k ⟨by omega, ho.2.2.2.2.1.2.1, ho.2.2.2.2.1.2.2⟩ (by omega) (by omega))) lk_X1_47 ho.2.2.2.2.1.2.1 (by omega) rfl rfl ⟨by decide, by decide⟩ hl ⟨Nat.zero_le _, Nat.zero_le _⟩ (Nat.le_of_ble_eq_true rfl) rfl dX1_withSign_15 (fun H locs h => ?_)
    refine lv_iload_n kx kb dX1_withSign_18 rfl (lv_at hl 1 rfl) ?_
    refine lv_icmp_ne (tgt := 24) kx kb dX1_withSign_19 (by decide) (fun c_2 => ?_) (fun c_2 => ?_)
    · refine lv_iinc (v := nI (k + 1)) (lv' := [(2, .int (nI (k + 1))), (0, .ref (ad i)), (1, .int x)]) kx kb dX1_withSign_24 hl (k := 2) rfl (nI_add _ _) (by decide) rfl (fun ls hl => ?_)
      refine lv_goto (tgt := 2) kx kb dX1_withSign_27 (by decide) ?_
      exact ih (k + 1) _ _ _ ⟨h, lv_sub hl [1, 2, 0] rfl, by omega, fun q hq => by
          rcases Nat.lt_or_ge q k with z | z
          · exact hno q z
          · have e : q = k := by omega
            subst e
            simp [bdP, c_2]⟩ (by omega)
    · refine lv_iload_n kx kb dX1_withSign_22 rfl (lv_at hl 2 rfl) ?_
      exact w_iret X h ⟨(ixO_at hkn hno (by simp [bdP, c_2])).symm, rfl⟩ dX1_withSign_23
set_option maxRecDepth 20000 in
theorem c_X1_atDepth (l : Launch) (g : gT) {N : Nat} {ad : Nat → Nat} {F : Nat → va_E} (i n : Nat) (j : Nat → Nat → Int32) (ho : oJokes g N ad F i n j) (hn : n ≤ 12) (wl dp : Int32) : CtI l yX1_atDepth cX1_atDepth 4 (some .int) 1 21 g N ad F [.ref (ad i), .int wl, .int dp] (fun r F' => r = (ixO (fun k => decide (j 0 k = wl ∧ j 1 k = dp)) n) ∧ F' = F) := by
  refine CtI_of (by decide) (Nat.le_of_ble_eq_true rfl) ?_
  intro p e s m args below meth c A H ls X M h hl
  have kx := X.1.1
  have kb := X.1.2.1
  have hl : lv_has ls 4 [(0, .ref (ad i)), (1, .int wl), (2, .int dp)] := hl
  have hN := ho.1
  refine lv_iconst (v := nI 0) kx kb dX1_atDepth_0 (by decide) ?_
  refine lv_istore_n (lv' := [(3, .int (nI 0)), (0, .ref (ad i)), (1, .int wl), (2, .int dp)]) kx kb dX1_atDepth_1 rfl hl (by decide) rfl (fun ls hl => ?_)
  refine w_loop1 (fun (k : Nat) => n - k) (fun (k : Nat) H locs ls => Hx g N ad F A s H locs ∧ lv_has ls 4 [(0, .ref (ad i)), (1, .int wl), (2, .int dp), (3, .int (nI k))] ∧ (k ≤ n) ∧ (∀ q, q < k → (fun k => decide (j 0 k = wl ∧ j 1 k = dp)) q = false)) ?_ 0 ⟨h, lv_sub hl [1, 2, 3, 0] rfl, Nat.zero_le _, fun q hq => absurd hq (Nat.not_lt_zero q)⟩
  intro k H locs ls hinv ih
  obtain ⟨h, hl, hk, hno⟩ := hinv
  refine lv_iload_n kx kb dX1_atDepth_2 rfl (lv_at hl 3 rfl) ?_
  refine lv_aload_n kx kb dX1_atDepth_3 rfl (lv_at hl 0 rfl) ?_
  refine w_get X M h i ho.2.1 (by omega) fl_X1_9 rfl dX1_atDepth_4 ?_
  refine w_cmp_ge (tgt := 42) kx kb (by omega) (by omega) dX1_atDepth_7 (by decide) (fun c_1 => ?_) (fun c_1 => ?_)
  · refine lv_iconst (v := (-1)) kx kb dX1_atDepth_42 (by decide) ?_
    exact w_iret X h ⟨(ixO_no (fun q hq => hno q (by omega))).symm, rfl⟩ dX1_atDepth_43
  · have hkn : k < n := c_1
    refine lv_aload_n kx kb dX1_atDepth_10 rfl (lv_at hl 0 rfl) ?_
    refine w_get X M h i ho.2.1 (by omega) fl_X1_20 rfl dX1_atDepth_11 ?_
    refine lv_iload_n kx kb dX1_atDepth_14 rfl (lv_at hl 3 rfl) ?_
    refine w_readVi X M h [.int (nI k)] [] ((c_X3_at_n l g (i + 1) 12 (j 0) k ⟨by omega, ho.2.2.1.2.1, ho.2.2.1.2.2⟩ (by omega) (by omega))) lk_X1_47 ho.2.2.1.2.1 (by omega) rfl rfl ⟨by decide, by decide⟩ hl ⟨Nat.zero_le _, Nat.zero_le _⟩ (Nat.le_of_ble_eq_true rfl) rfl dX1_atDepth_15 (fun H locs h => ?_)
    refine lv_iload_n kx kb dX1_atDepth_18 rfl (lv_at hl 1 rfl) ?_
    refine lv_icmp_ne (tgt := 36) kx kb dX1_atDepth_19 (by decide) (fun c_2 => ?_) (fun c_2 => ?_)
    · refine lv_iinc (v := nI (k + 1)) (lv' := [(3, .int (nI (k + 1))), (0, .ref (ad i)), (1, .int wl), (2, .int dp)]) kx kb dX1_atDepth_36 hl (k := 3) rfl (nI_add _ _) (by decide) rfl (fun ls hl => ?_)
      refine lv_goto (tgt := 2) kx kb dX1_atDepth_39 (by decide) ?_
      exact ih (k + 1) _ _ _ ⟨h, lv_sub hl [1, 2, 3, 0] rfl, by omega, fun q hq => by
          rcases Nat.lt_or_ge q k with z | z
          · exact hno q z
          · have e : q = k := by omega
            subst e
            simp [bdP, c_2]⟩ (by omega)
    · refine lv_aload_n kx kb dX1_atDepth_22 rfl (lv_at hl 0 rfl) ?_
      refine w_get X M h i ho.2.1 (by omega) fl_X1_24 rfl dX1_atDepth_23 ?_
      refine lv_iload_n kx kb dX1_atDepth_26 rfl (lv_at hl 3 rfl) ?_
      refine w_readVi X M h [.int (nI k)] [] ((c_X3_at_n l g (i + 3) 12 (j 1) k ⟨by omega, ho.2.2.2.1.2.1, ho.2.2.2.1.2.2⟩ (by omega) (by omega))) lk_X1_47 ho.2.2.2.1.2.1 (by omega) rfl rfl ⟨by decide, by decide⟩ hl ⟨Nat.zero_le _, Nat.zero_le _⟩ (Nat.le_of_ble_eq_true rfl) rfl dX1_atDepth_27 (fun H locs h => ?_)
      refine lv_iload_n kx kb dX1_atDepth_30 rfl (lv_at hl 2 rfl) ?_
      refine lv_icmp_ne (tgt := 36) kx kb dX1_atDepth_31 (by decide) (fun c_3 => ?_) (fun c_3 => ?_)
      · refine lv_iinc (v := nI (k + 1)) (lv' := [(3, .int (nI (k + 1))), (0, .ref (ad i)), (1, .int wl), (2, .int dp)]) kx kb dX1_atDepth_36 hl (k := 3) rfl (nI_add _ _) (by decide) rfl (fun ls hl => ?_)
        refine lv_goto (tgt := 2) kx kb dX1_atDepth_39 (by decide) ?_
        exact ih (k + 1) _ _ _ ⟨h, lv_sub hl [1, 2, 3, 0] rfl, by omega, fun q hq => by
            rcases Nat.lt_or_ge q k with z | z
            · exact hno q z
            · have e : q = k := by omega
              subst e
              simp [bdP, c_2, c_3]⟩ (by omega)
      · refine lv_iload_n kx kb dX1_atDepth_34 rfl (lv_at hl 3 rfl) ?_
        exact w_iret X h ⟨(ixO_at hkn hno (by simp [bdP, c_2, c_3])).symm, rfl⟩ dX1_atDepth_35
set_option maxRecDepth 20000 in
theorem c_X1_countWithin (l : Launch) (g : gT) {N : Nat} {ad : Nat → Nat} {F : Nat → va_E} (i n : Nat) (j : Nat → Nat → Int32) (ho : oJokes g N ad F i n j) (hn : n ≤ 12) (wl dp : Int32) : CtI l yX1_countWithin cX1_countWithin 5 (some .int) 1 21 g N ad F [.ref (ad i), .int wl, .int dp] (fun r F' => r = (nI (cnt (cwP j wl dp) n)) ∧ F' = F) := by
  refine CtI_of (by decide) (Nat.le_of_ble_eq_true rfl) ?_
  intro p e s m args below meth c A H ls X M h hl
  have kx := X.1.1
  have kb := X.1.2.1
  have hl : lv_has ls 5 [(0, .ref (ad i)), (1, .int wl), (2, .int dp)] := hl
  have hN := ho.1
  refine lv_iconst (v := nI 0) kx kb dX1_countWithin_0 (by decide) ?_
  refine lv_istore_n (lv' := [(3, .int (nI 0)), (0, .ref (ad i)), (1, .int wl), (2, .int dp)]) kx kb dX1_countWithin_1 rfl hl (by decide) rfl (fun ls hl => ?_)
  refine lv_iconst (v := nI 0) kx kb dX1_countWithin_2 (by decide) ?_
  refine lv_istore (lv' := [(4, .int (nI 0)), (3, .int (nI 0)), (0, .ref (ad i)), (1, .int wl), (2, .int dp)]) kx kb dX1_countWithin_3 hl (by decide) rfl (fun ls hl => ?_)
  refine w_loop2 (fun (k : Nat) (v : Int32) => n - k) (fun (k : Nat) (v : Int32) H locs ls => Hx g N ad F A s H locs ∧ lv_has ls 5 [(0, .ref (ad i)), (1, .int wl), (2, .int dp), (3, .int v), (4, .int (nI k))] ∧ (k ≤ n) ∧ (v = nI (cnt (cwP j wl dp) k))) ?_ 0 (nI 0) ⟨h, lv_sub hl [2, 3, 4, 1, 0] rfl, Nat.zero_le _, rfl⟩
  intro k v H locs ls hinv ih
  obtain ⟨h, hl, hk, hv⟩ := hinv
  refine lv_iload kx kb dX1_countWithin_5 (lv_at hl 4 rfl) ?_
  refine lv_aload_n kx kb dX1_countWithin_7 rfl (lv_at hl 0 rfl) ?_
  refine w_get X M h i ho.2.1 (by omega) fl_X1_9 rfl dX1_countWithin_8 ?_
  refine w_cmp_ge (tgt := 49) kx kb (by omega) (by omega) dX1_countWithin_11 (by decide) (fun c_1 => ?_) (fun c_1 => ?_)
  · refine lv_iload_n kx kb dX1_countWithin_49 rfl (lv_at hl 3 rfl) ?_
    exact w_iret X h ⟨by rw [hv, show k = n by omega], rfl⟩ dX1_countWithin_50
  · refine lv_aload_n kx kb dX1_countWithin_14 rfl (lv_at hl 0 rfl) ?_
    refine w_get X M h i ho.2.1 (by omega) fl_X1_20 rfl dX1_countWithin_15 ?_
    refine lv_iload kx kb dX1_countWithin_18 (lv_at hl 4 rfl) ?_
    refine w_readVi X M h [.int (nI k)] [] ((c_X3_at_n l g (i + 1) 12 (j 0) k ⟨by omega, ho.2.2.1.2.1, ho.2.2.1.2.2⟩ (by omega) (by omega))) lk_X1_47 ho.2.2.1.2.1 (by omega) rfl rfl ⟨by decide, by decide⟩ hl ⟨Nat.zero_le _, Nat.zero_le _⟩ (Nat.le_of_ble_eq_true rfl) rfl dX1_countWithin_20 (fun H locs h => ?_)
    refine lv_iload_n kx kb dX1_countWithin_23 rfl (lv_at hl 1 rfl) ?_
    refine lv_icmp_ne (tgt := 43) kx kb dX1_countWithin_24 (by decide) (fun c_2 => ?_) (fun c_2 => ?_)
    · refine lv_iinc (v := nI (k + 1)) (lv' := [(4, .int (nI (k + 1))), (0, .ref (ad i)), (1, .int wl), (2, .int dp), (3, .int v)]) kx kb dX1_countWithin_43 hl (k := 4) rfl (nI_add _ _) (by decide) rfl (fun ls hl => ?_)
      refine lv_goto (tgt := 5) kx kb dX1_countWithin_46 (by decide) ?_
      exact ih (k + 1) v _ _ _ ⟨h, lv_sub hl [1, 2, 3, 4, 0] rfl, by omega, by rw [hv, cnt_f (by simp [cwP, c_2])]⟩ (by omega)
    · refine lv_aload_n kx kb dX1_countWithin_27 rfl (lv_at hl 0 rfl) ?_
      refine w_get X M h i ho.2.1 (by omega) fl_X1_24 rfl dX1_countWithin_28 ?_
      refine lv_iload kx kb dX1_countWithin_31 (lv_at hl 4 rfl) ?_
      refine w_readVi X M h [.int (nI k)] [] ((c_X3_at_n l g (i + 3) 12 (j 1) k ⟨by omega, ho.2.2.2.1.2.1, ho.2.2.2.1.2.2⟩ (by omega) (by omega))) lk_X1_47 ho.2.2.2.1.2.1 (by omega) rfl rfl ⟨by decide, by decide⟩ hl ⟨Nat.zero_le _, Nat.zero_le _⟩ (Nat.le_of_ble_eq_true rfl) rfl dX1_countWithin_33 (fun H locs h => ?_)
      refine lv_iload_n kx kb dX1_countWithin_36 rfl (lv_at hl 2 rfl) ?_
      refine lv_icmp_gt (tgt := 43) kx kb dX1_countWithin_37 (by decide) (fun c_3 => ?_) (fun c_3 => ?_)
      · refine lv_iinc (v := nI (k + 1)) (lv' := [(4, .int (nI (k + 1))), (0, .ref (ad i)), (1, .int wl), (2, .int dp), (3, .int v)]) kx kb dX1_countWithin_43 hl (k := 4) rfl (nI_add _ _) (by decide) rfl (fun ls hl => ?_)
        refine lv_goto (tgt := 5) kx kb dX1_countWithin_46 (by decide) ?_
        exact ih (k + 1) v _ _ _ ⟨h, lv_sub hl [1, 2, 3, 4, 0] rfl, by omega, by rw [hv, cnt_f (by simp [cwP, c_2, c_3])]⟩ (by omega)
      · refine lv_iinc (v := v + 1) (lv' := [(3, .int (v + 1)), (0, .ref (ad i)), (1, .int wl), (2, .int dp), (4, .int (nI k))]) kx kb dX1_countWithin_40 hl (k := 3) rfl (rfl) (by decide) rfl (fun ls hl => ?_)
        refine lv_iinc (v := nI (k + 1)) (lv' := [(4, .int (nI (k + 1))), (3, .int (v + 1)), (0, .ref (ad i)), (1, .int wl), (2, .int dp)]) kx kb dX1_countWithin_43 hl (k := 4) rfl (nI_add _ _) (by decide) rfl (fun ls hl => ?_)
        refine lv_goto (tgt := 5) kx kb dX1_countWithin_46 (by decide) ?_
        exact ih (k + 1) (v + 1) _ _ _ ⟨h, lv_sub hl [2, 3, 4, 1, 0] rfl, by omega, by rw [hv, nI_1, cnt_t (by simp [cwP, c_2, Int32.not_lt.mp c_3])]⟩ (by omega)
set_option maxRecDepth 20000 in
theorem c_X1_countIn (l : Launch) (g : gT) {N : Nat} {ad : Nat → Nat} {F : Nat → va_E} (i n : Nat) (j : Nat → Nat → Int32) (ho : oJokes g N ad F i n j) (hn : n ≤ 12) (wl : Int32) : CtI l yX1_countIn cX1_countIn 2 (some .int) 2 45 g N ad F [.ref (ad i), .int wl] (fun r F' => r = (nI (cnt (cwP j wl (nI 30)) n)) ∧ F' = F) := by
  refine CtI_of (by decide) (Nat.le_of_ble_eq_true rfl) ?_
  intro p e s m args below meth c A H ls X M h hl
  have kx := X.1.1
  have kb := X.1.2.1
  have hl : lv_has ls 2 [(0, .ref (ad i)), (1, .int wl)] := hl
  have hN := ho.1
  refine lv_aload_n kx kb dX1_countIn_0 rfl (lv_at hl 0 rfl) ?_
  refine lv_iload_n kx kb dX1_countIn_1 rfl (lv_at hl 1 rfl) ?_
  refine lv_bipush (v := nI 30) kx kb dX1_countIn_2 (by decide) ?_
  refine w_readVi X M h [.int wl, .int (nI 30)] [] ((c_X1_countWithin l g i n j ⟨by omega, ho.2.1, ⟨by omega, ho.2.2.1.2.1, ho.2.2.1.2.2⟩, ⟨by omega, ho.2.2.2.1.2.1, ho.2.2.2.1.2.2⟩, ⟨by omega, ho.2.2.2.2.1.2.1, ho.2.2.2.2.1.2.2⟩, ⟨by omega, ho.2.2.2.2.2.1.2.1, ho.2.2.2.2.2.1.2.2⟩, ⟨by omega, ho.2.2.2.2.2.2.2.1, ho.2.2.2.2.2.2.2.2⟩⟩ (by omega) wl (nI 30))) lk_X1_51 ho.2.1 (by omega) rfl rfl ⟨by decide, by decide⟩ hl ⟨Nat.zero_le _, Nat.zero_le _⟩ (Nat.le_of_ble_eq_true rfl) rfl dX1_countIn_4 (fun H locs h => ?_)
  exact w_iret X h ⟨rfl, rfl⟩ dX1_countIn_7
set_option maxRecDepth 20000 in
theorem c_X1_byDepth (l : Launch) (g : gT) {N : Nat} {ad : Nat → Nat} {F : Nat → va_E} (i n : Nat) (j : Nat → Nat → Int32) (ho : oJokes g N ad F i n j) (hn : n ≤ 12) (wl pl : Int32) : CtI l yX1_byDepth cX1_byDepth 4 (some .int) 2 45 g N ad F [.ref (ad i), .int wl, .int pl] (fun r F' => r = (ixO (bdP j n wl pl) n) ∧ F' = F) := by
  refine CtI_of (by decide) (Nat.le_of_ble_eq_true rfl) ?_
  intro p e s m args below meth c A H ls X M h hl
  have kx := X.1.1
  have kb := X.1.2.1
  have hl : lv_has ls 4 [(0, .ref (ad i)), (1, .int wl), (2, .int pl)] := hl
  have hN := ho.1
  refine lv_iconst (v := nI 0) kx kb dX1_byDepth_0 (by decide) ?_
  refine lv_istore_n (lv' := [(3, .int (nI 0)), (0, .ref (ad i)), (1, .int wl), (2, .int pl)]) kx kb dX1_byDepth_1 rfl hl (by decide) rfl (fun ls hl => ?_)
  refine w_loop1 (fun (k : Nat) => n - k) (fun (k : Nat) H locs ls => Hx g N ad F A s H locs ∧ lv_has ls 4 [(0, .ref (ad i)), (1, .int wl), (2, .int pl), (3, .int (nI k))] ∧ (k ≤ n) ∧ (∀ q, q < k → (bdP j n wl pl) q = false)) ?_ 0 ⟨h, lv_sub hl [1, 2, 3, 0] rfl, Nat.zero_le _, fun q hq => absurd hq (Nat.not_lt_zero q)⟩
  intro k H locs ls hinv ih
  obtain ⟨h, hl, hk, hno⟩ := hinv
  refine lv_iload_n kx kb dX1_byDepth_2 rfl (lv_at hl 3 rfl) ?_
  refine lv_aload_n kx kb dX1_byDepth_3 rfl (lv_at hl 0 rfl) ?_
  refine w_get X M h i ho.2.1 (by omega) fl_X1_9 rfl dX1_byDepth_4 ?_
  refine w_cmp_ge (tgt := 49) kx kb (by omega) (by omega) dX1_byDepth_7 (by decide) (fun c_1 => ?_) (fun c_1 => ?_)
  · refine lv_iconst (v := (-1)) kx kb dX1_byDepth_49 (by decide) ?_
    exact w_iret X h ⟨(ixO_no (fun q hq => hno q (by omega))).symm, rfl⟩ dX1_byDepth_50
  · have hkn : k < n := c_1
    refine lv_aload_n kx kb dX1_byDepth_10 rfl (lv_at hl 0 rfl) ?_
    refine w_get X M h i ho.2.1 (by omega) fl_X1_20 rfl dX1_byDepth_11 ?_
    refine lv_iload_n kx kb dX1_byDepth_14 rfl (lv_at hl 3 rfl) ?_
    refine w_readVi X M h [.int (nI k)] [] ((c_X3_at_n l g (i + 1) 12 (j 0) k ⟨by omega, ho.2.2.1.2.1, ho.2.2.1.2.2⟩ (by omega) (by omega))) lk_X1_47 ho.2.2.1.2.1 (by omega) rfl rfl ⟨by decide, by decide⟩ hl ⟨Nat.zero_le _, Nat.zero_le _⟩ (Nat.le_of_ble_eq_true rfl) rfl dX1_byDepth_15 (fun H locs h => ?_)
    refine lv_iload_n kx kb dX1_byDepth_18 rfl (lv_at hl 1 rfl) ?_
    refine lv_icmp_ne (tgt := 43) kx kb dX1_byDepth_19 (by decide) (fun c_2 => ?_) (fun c_2 => ?_)
    · refine lv_iinc (v := nI (k + 1)) (lv' := [(3, .int (nI (k + 1))), (0, .ref (ad i)), (1, .int wl), (2, .int pl)]) kx kb dX1_byDepth_43 hl (k := 3) rfl (nI_add _ _) (by decide) rfl (fun ls hl => ?_)
      refine lv_goto (tgt := 2) kx kb dX1_byDepth_46 (by decide) ?_
      exact ih (k + 1) _ _ _ ⟨h, lv_sub hl [1, 2, 3, 0] rfl, by omega, fun q hq => by
          rcases Nat.lt_or_ge q k with z | z
          · exact hno q z
          · have e : q = k := by omega
            subst e
            simp [bdP, c_2]⟩ (by omega)
    · refine lv_aload_n kx kb dX1_byDepth_22 rfl (lv_at hl 0 rfl) ?_
      refine lv_iload_n kx kb dX1_byDepth_23 rfl (lv_at hl 1 rfl) ?_
      refine lv_aload_n kx kb dX1_byDepth_24 rfl (lv_at hl 0 rfl) ?_
      refine w_get X M h i ho.2.1 (by omega) fl_X1_24 rfl dX1_byDepth_25 ?_
      refine lv_iload_n kx kb dX1_byDepth_28 rfl (lv_at hl 3 rfl) ?_
      refine w_readVi X M h [.int (nI k)] [.int wl, .ref (ad i)] ((c_X3_at_n l g (i + 3) 12 (j 1) k ⟨by omega, ho.2.2.2.1.2.1, ho.2.2.2.1.2.2⟩ (by omega) (by omega))) lk_X1_47 ho.2.2.2.1.2.1 (by omega) rfl rfl ⟨by decide, by decide⟩ hl ⟨Nat.zero_le _, Nat.zero_le _⟩ (Nat.le_of_ble_eq_true rfl) rfl dX1_byDepth_29 (fun H locs h => ?_)
      refine lv_iconst (v := nI 1) kx kb dX1_byDepth_32 (by decide) ?_
      refine lv_isub kx kb dX1_byDepth_33 ?_
      refine w_readVi X M h [.int wl, .int (((j 1) k) - (nI 1))] [] ((c_X1_countWithin l g i n j ⟨by omega, ho.2.1, ⟨by omega, ho.2.2.1.2.1, ho.2.2.1.2.2⟩, ⟨by omega, ho.2.2.2.1.2.1, ho.2.2.2.1.2.2⟩, ⟨by omega, ho.2.2.2.2.1.2.1, ho.2.2.2.2.1.2.2⟩, ⟨by omega, ho.2.2.2.2.2.1.2.1, ho.2.2.2.2.2.1.2.2⟩, ⟨by omega, ho.2.2.2.2.2.2.2.1, ho.2.2.2.2.2.2.2.2⟩⟩ (by omega) wl (((j 1) k) - (nI 1)))) lk_X1_51 ho.2.1 (by omega) rfl rfl ⟨by decide, by decide⟩ hl ⟨Nat.zero_le _, Nat.zero_le _⟩ (Nat.le_of_ble_eq_true rfl) rfl dX1_byDepth_34 (fun H locs h => ?_)
      refine lv_iload_n kx kb dX1_byDepth_37 rfl (lv_at hl 2 rfl) ?_
      refine lv_icmp_ne (tgt := 43) kx kb dX1_byDepth_38 (by decide) (fun c_3 => ?_) (fun c_3 => ?_)
      · refine lv_iinc (v := nI (k + 1)) (lv' := [(3, .int (nI (k + 1))), (0, .ref (ad i)), (1, .int wl), (2, .int pl)]) kx kb dX1_byDepth_43 hl (k := 3) rfl (nI_add _ _) (by decide) rfl (fun ls hl => ?_)
        refine lv_goto (tgt := 2) kx kb dX1_byDepth_46 (by decide) ?_
        exact ih (k + 1) _ _ _ ⟨h, lv_sub hl [1, 2, 3, 0] rfl, by omega, fun q hq => by
            rcases Nat.lt_or_ge q k with z | z
            · exact hno q z
            · have e : q = k := by omega
              subst e
              simp [bdP, c_2, c_3]⟩ (by omega)
      · refine lv_iload_n kx kb dX1_byDepth_41 rfl (lv_at hl 3 rfl) ?_
        exact w_iret X h ⟨(ixO_at hkn hno (by simp [bdP, c_2, c_3])).symm, rfl⟩ dX1_byDepth_42
set_option maxRecDepth 20000 in
theorem c_X1_countPrimed (l : Launch) (g : gT) {N : Nat} {ad : Nat → Nat} {F : Nat → va_E} (i n : Nat) (j : Nat → Nat → Int32) (ho : oJokes g N ad F i n j) (hn : n ≤ 12)  : CtI l yX1_countPrimed cX1_countPrimed 3 (some .int) 1 21 g N ad F [.ref (ad i)] (fun r F' => r = (sumI (j 4) n) ∧ F' = F) := by
  refine CtI_of (by decide) (Nat.le_of_ble_eq_true rfl) ?_
  intro p e s m args below meth c A H ls X M h hl
  have kx := X.1.1
  have kb := X.1.2.1
  have hl : lv_has ls 3 [(0, .ref (ad i))] := hl
  have hN := ho.1
  refine lv_iconst (v := nI 0) kx kb dX1_countPrimed_0 (by decide) ?_
  refine lv_istore_n (lv' := [(1, .int (nI 0)), (0, .ref (ad i))]) kx kb dX1_countPrimed_1 rfl hl (by decide) rfl (fun ls hl => ?_)
  refine lv_iconst (v := nI 0) kx kb dX1_countPrimed_2 (by decide) ?_
  refine lv_istore_n (lv' := [(2, .int (nI 0)), (1, .int (nI 0)), (0, .ref (ad i))]) kx kb dX1_countPrimed_3 rfl hl (by decide) rfl (fun ls hl => ?_)
  refine w_loop2 (fun (k : Nat) (v : Int32) => n - k) (fun (k : Nat) (v : Int32) H locs ls => Hx g N ad F A s H locs ∧ lv_has ls 3 [(0, .ref (ad i)), (1, .int v), (2, .int (nI k))] ∧ (k ≤ n) ∧ (v = sumI (j 4) k)) ?_ 0 (nI 0) ⟨h, lv_sub hl [2, 1, 0] rfl, Nat.zero_le _, rfl⟩
  intro k v H locs ls hinv ih
  obtain ⟨h, hl, hk, hv⟩ := hinv
  refine lv_iload_n kx kb dX1_countPrimed_4 rfl (lv_at hl 2 rfl) ?_
  refine lv_aload_n kx kb dX1_countPrimed_5 rfl (lv_at hl 0 rfl) ?_
  refine w_get X M h i ho.2.1 (by omega) fl_X1_9 rfl dX1_countPrimed_6 ?_
  refine w_cmp_ge (tgt := 29) kx kb (by omega) (by omega) dX1_countPrimed_9 (by decide) (fun c_1 => ?_) (fun c_1 => ?_)
  · refine lv_iload_n kx kb dX1_countPrimed_29 rfl (lv_at hl 1 rfl) ?_
    exact w_iret X h ⟨by rw [hv, show k = n by omega], rfl⟩ dX1_countPrimed_30
  · refine lv_iload_n kx kb dX1_countPrimed_12 rfl (lv_at hl 1 rfl) ?_
    refine lv_aload_n kx kb dX1_countPrimed_13 rfl (lv_at hl 0 rfl) ?_
    refine w_get X M h i ho.2.1 (by omega) fl_X1_33 rfl dX1_countPrimed_14 ?_
    refine lv_iload_n kx kb dX1_countPrimed_17 rfl (lv_at hl 2 rfl) ?_
    refine w_readVi X M h [.int (nI k)] [.int v] ((c_X3_at_n l g (i + 9) 12 (j 4) k ⟨by omega, ho.2.2.2.2.2.2.2.1, ho.2.2.2.2.2.2.2.2⟩ (by omega) (by omega))) lk_X1_47 ho.2.2.2.2.2.2.2.1 (by omega) rfl rfl ⟨by decide, by decide⟩ hl ⟨Nat.zero_le _, Nat.zero_le _⟩ (Nat.le_of_ble_eq_true rfl) rfl dX1_countPrimed_18 (fun H locs h => ?_)
    refine lv_iadd kx kb dX1_countPrimed_21 ?_
    refine lv_istore_n (lv' := [(1, .int (v + ((j 4) k))), (0, .ref (ad i)), (2, .int (nI k))]) kx kb dX1_countPrimed_22 rfl hl (by decide) rfl (fun ls hl => ?_)
    refine lv_iinc (v := nI (k + 1)) (lv' := [(2, .int (nI (k + 1))), (1, .int (v + ((j 4) k))), (0, .ref (ad i))]) kx kb dX1_countPrimed_23 hl (k := 2) rfl (nI_add _ _) (by decide) rfl (fun ls hl => ?_)
    refine lv_goto (tgt := 4) kx kb dX1_countPrimed_26 (by decide) ?_
    exact ih (k + 1) (v + ((j 4) k)) _ _ _ ⟨h, lv_sub hl [2, 1, 0] rfl, by omega, by rw [hv, sumI]⟩ (by omega)
set_option maxRecDepth 20000 in
theorem c_X1_copy (l : Launch) (g : gT) {N : Nat} {ad : Nat → Nat} {F : Nat → va_E} (i n : Nat) (j : Nat → Nat → Int32) (ho : oJokes g N ad F i n j) (i2 n2 : Nat) (j2 : Nat → Nat → Int32) (ho2 : oJokes g N ad F i2 n2 j2) (hap : i + 10 < i2 ∨ i2 + 10 < i) : CtV l yX1_copy cX1_copy 2 none 2 52 g N ad F [.ref (ad i), .ref (ad i2)] (fun F' => oJokes g N ad F' i2 n j ∧ ∀ q, (q < i2 ∨ i2 + 10 < q) → F' q = F q) := by
  refine CtV_of (by decide) (Nat.le_of_ble_eq_true rfl) ?_
  intro p e s m args below meth c A H ls X M h hl
  have kx := X.1.1
  have kb := X.1.2.1
  have hl : lv_has ls 2 [(0, .ref (ad i)), (1, .ref (ad i2))] := hl
  have hN := ho.1
  have hN2 := ho2.1
  refine lv_aload_n kx kb dX1_copy_0 rfl (lv_at hl 1 rfl) ?_
  refine lv_aload_n kx kb dX1_copy_1 rfl (lv_at hl 0 rfl) ?_
  refine w_get X M h i ho.2.1 (by omega) fl_X1_9 rfl dX1_copy_2 ?_
  refine w_put X M h i2 ho2.2.1 (by omega) fp_X1_9 (rfl) (by rfl) (Nat.le_of_ble_eq_true rfl) dX1_copy_5 (fun F1 H locs h he_F1 hf_F1 => ?_)
  refine lv_aload_n kx kb dX1_copy_8 rfl (lv_at hl 0 rfl) ?_
  refine w_get X M h i ((hf_F1 i (by omega)).trans ho.2.1) (by omega) fl_X1_20 rfl dX1_copy_9 ?_
  refine lv_aload_n kx kb dX1_copy_12 rfl (lv_at hl 1 rfl) ?_
  refine w_get X M h i2 he_F1 (by omega) fl_X1_20 rfl dX1_copy_13 ?_
  refine w_callSv X M h [.ref (ad (i + 1)), .ref (ad (i2 + 1))] [] ((c_X3_copy l g (i + 1) (i2 + 1) 12 (j 0) (j2 0) ⟨by omega, ((hf_F1 (i + 1) (by omega)).trans ho.2.2.1.2.1), (ho.2.2.1.2.2.fr (hf_F1 (i + 2) (by omega)))⟩ ⟨by omega, ((hf_F1 (i2 + 1) (by omega)).trans ho2.2.2.1.2.1), (ho2.2.2.1.2.2.fr (hf_F1 (i2 + 2) (by omega)))⟩ (by omega))) lk_X1_55 rfl ⟨by decide, by decide⟩ hl ⟨Nat.zero_le _, Nat.zero_le _⟩ (Nat.le_of_ble_eq_true rfl) rfl dX1_copy_16 (fun F2 H locs hp_F2 h => ?_)
  refine lv_aload_n kx kb dX1_copy_19 rfl (lv_at hl 0 rfl) ?_
  refine w_get X M h i ((hp_F2.2 i (by omega)).trans ((hf_F1 i (by omega)).trans ho.2.1)) (by omega) fl_X1_24 rfl dX1_copy_20 ?_
  refine lv_aload_n kx kb dX1_copy_23 rfl (lv_at hl 1 rfl) ?_
  refine w_get X M h i2 ((hp_F2.2 i2 (by omega)).trans he_F1) (by omega) fl_X1_24 rfl dX1_copy_24 ?_
  refine w_callSv X M h [.ref (ad (i + 3)), .ref (ad (i2 + 3))] [] ((c_X3_copy l g (i + 3) (i2 + 3) 12 (j 1) (j2 1) ⟨by omega, ((hp_F2.2 (i + 3) (by omega)).trans ((hf_F1 (i + 3) (by omega)).trans ho.2.2.2.1.2.1)), ((ho.2.2.2.1.2.2.fr (hf_F1 (i + 4) (by omega))).fr (hp_F2.2 (i + 4) (by omega)))⟩ ⟨by omega, ((hp_F2.2 (i2 + 3) (by omega)).trans ((hf_F1 (i2 + 3) (by omega)).trans ho2.2.2.2.1.2.1)), ((ho2.2.2.2.1.2.2.fr (hf_F1 (i2 + 4) (by omega))).fr (hp_F2.2 (i2 + 4) (by omega)))⟩ (by omega))) lk_X1_55 rfl ⟨by decide, by decide⟩ hl ⟨Nat.zero_le _, Nat.zero_le _⟩ (Nat.le_of_ble_eq_true rfl) rfl dX1_copy_27 (fun F3 H locs hp_F3 h => ?_)
  refine lv_aload_n kx kb dX1_copy_30 rfl (lv_at hl 0 rfl) ?_
  refine w_get X M h i ((hp_F3.2 i (by omega)).trans ((hp_F2.2 i (by omega)).trans ((hf_F1 i (by omega)).trans ho.2.1))) (by omega) fl_X1_27 rfl dX1_copy_31 ?_
  refine lv_aload_n kx kb dX1_copy_34 rfl (lv_at hl 1 rfl) ?_
  refine w_get X M h i2 ((hp_F3.2 i2 (by omega)).trans ((hp_F2.2 i2 (by omega)).trans he_F1)) (by omega) fl_X1_27 rfl dX1_copy_35 ?_
  refine w_callSv X M h [.ref (ad (i + 5)), .ref (ad (i2 + 5))] [] ((c_X3_copy l g (i + 5) (i2 + 5) 12 (j 2) (j2 2) ⟨by omega, ((hp_F3.2 (i + 5) (by omega)).trans ((hp_F2.2 (i + 5) (by omega)).trans ((hf_F1 (i + 5) (by omega)).trans ho.2.2.2.2.1.2.1))), (((ho.2.2.2.2.1.2.2.fr (hf_F1 (i + 6) (by omega))).fr (hp_F2.2 (i + 6) (by omega))).fr (hp_F3.2 (i + 6) (by omega)))⟩ ⟨by omega, ((hp_F3.2 (i2 + 5) (by omega)).trans ((hp_F2.2 (i2 + 5) (by omega)).trans ((hf_F1 (i2 + 5) (by omega)).trans ho2.2.2.2.2.1.2.1))), (((ho2.2.2.2.2.1.2.2.fr (hf_F1 (i2 + 6) (by omega))).fr (hp_F2.2 (i2 + 6) (by omega))).fr (hp_F3.2 (i2 + 6) (by omega)))⟩ (by omega))) lk_X1_55 rfl ⟨by decide, by decide⟩ hl ⟨Nat.zero_le _, Nat.zero_le _⟩ (Nat.le_of_ble_eq_true rfl) rfl dX1_copy_38 (fun F4 H locs hp_F4 h => ?_)
  refine lv_aload_n kx kb dX1_copy_41 rfl (lv_at hl 0 rfl) ?_
  refine w_get X M h i ((hp_F4.2 i (by omega)).trans ((hp_F3.2 i (by omega)).trans ((hp_F2.2 i (by omega)).trans ((hf_F1 i (by omega)).trans ho.2.1)))) (by omega) fl_X1_30 rfl dX1_copy_42 ?_
  refine lv_aload_n kx kb dX1_copy_45 rfl (lv_at hl 1 rfl) ?_
  refine w_get X M h i2 ((hp_F4.2 i2 (by omega)).trans ((hp_F3.2 i2 (by omega)).trans ((hp_F2.2 i2 (by omega)).trans he_F1))) (by omega) fl_X1_30 rfl dX1_copy_46 ?_
  refine w_callSv X M h [.ref (ad (i + 7)), .ref (ad (i2 + 7))] [] ((c_X3_copy l g (i + 7) (i2 + 7) 12 (j 3) (j2 3) ⟨by omega, ((hp_F4.2 (i + 7) (by omega)).trans ((hp_F3.2 (i + 7) (by omega)).trans ((hp_F2.2 (i + 7) (by omega)).trans ((hf_F1 (i + 7) (by omega)).trans ho.2.2.2.2.2.1.2.1)))), ((((ho.2.2.2.2.2.1.2.2.fr (hf_F1 (i + 8) (by omega))).fr (hp_F2.2 (i + 8) (by omega))).fr (hp_F3.2 (i + 8) (by omega))).fr (hp_F4.2 (i + 8) (by omega)))⟩ ⟨by omega, ((hp_F4.2 (i2 + 7) (by omega)).trans ((hp_F3.2 (i2 + 7) (by omega)).trans ((hp_F2.2 (i2 + 7) (by omega)).trans ((hf_F1 (i2 + 7) (by omega)).trans ho2.2.2.2.2.2.1.2.1)))), ((((ho2.2.2.2.2.2.1.2.2.fr (hf_F1 (i2 + 8) (by omega))).fr (hp_F2.2 (i2 + 8) (by omega))).fr (hp_F3.2 (i2 + 8) (by omega))).fr (hp_F4.2 (i2 + 8) (by omega)))⟩ (by omega))) lk_X1_55 rfl ⟨by decide, by decide⟩ hl ⟨Nat.zero_le _, Nat.zero_le _⟩ (Nat.le_of_ble_eq_true rfl) rfl dX1_copy_49 (fun F5 H locs hp_F5 h => ?_)
  refine lv_aload_n kx kb dX1_copy_52 rfl (lv_at hl 0 rfl) ?_
  refine w_get X M h i ((hp_F5.2 i (by omega)).trans ((hp_F4.2 i (by omega)).trans ((hp_F3.2 i (by omega)).trans ((hp_F2.2 i (by omega)).trans ((hf_F1 i (by omega)).trans ho.2.1))))) (by omega) fl_X1_33 rfl dX1_copy_53 ?_
  refine lv_aload_n kx kb dX1_copy_56 rfl (lv_at hl 1 rfl) ?_
  refine w_get X M h i2 ((hp_F5.2 i2 (by omega)).trans ((hp_F4.2 i2 (by omega)).trans ((hp_F3.2 i2 (by omega)).trans ((hp_F2.2 i2 (by omega)).trans he_F1)))) (by omega) fl_X1_33 rfl dX1_copy_57 ?_
  refine w_callSv X M h [.ref (ad (i + 9)), .ref (ad (i2 + 9))] [] ((c_X3_copy l g (i + 9) (i2 + 9) 12 (j 4) (j2 4) ⟨by omega, ((hp_F5.2 (i + 9) (by omega)).trans ((hp_F4.2 (i + 9) (by omega)).trans ((hp_F3.2 (i + 9) (by omega)).trans ((hp_F2.2 (i + 9) (by omega)).trans ((hf_F1 (i + 9) (by omega)).trans ho.2.2.2.2.2.2.2.1))))), (((((ho.2.2.2.2.2.2.2.2.fr (hf_F1 (i + 10) (by omega))).fr (hp_F2.2 (i + 10) (by omega))).fr (hp_F3.2 (i + 10) (by omega))).fr (hp_F4.2 (i + 10) (by omega))).fr (hp_F5.2 (i + 10) (by omega)))⟩ ⟨by omega, ((hp_F5.2 (i2 + 9) (by omega)).trans ((hp_F4.2 (i2 + 9) (by omega)).trans ((hp_F3.2 (i2 + 9) (by omega)).trans ((hp_F2.2 (i2 + 9) (by omega)).trans ((hf_F1 (i2 + 9) (by omega)).trans ho2.2.2.2.2.2.2.2.1))))), (((((ho2.2.2.2.2.2.2.2.2.fr (hf_F1 (i2 + 10) (by omega))).fr (hp_F2.2 (i2 + 10) (by omega))).fr (hp_F3.2 (i2 + 10) (by omega))).fr (hp_F4.2 (i2 + 10) (by omega))).fr (hp_F5.2 (i2 + 10) (by omega)))⟩ (by omega))) lk_X1_55 rfl ⟨by decide, by decide⟩ hl ⟨Nat.zero_le _, Nat.zero_le _⟩ (Nat.le_of_ble_eq_true rfl) rfl dX1_copy_60 (fun F6 H locs hp_F6 h => ?_)
  exact w_vret X h ⟨⟨by omega, ((hp_F6.2 i2 (by omega)).trans ((hp_F5.2 i2 (by omega)).trans ((hp_F4.2 i2 (by omega)).trans ((hp_F3.2 i2 (by omega)).trans ((hp_F2.2 i2 (by omega)).trans he_F1))))), ⟨by omega, ((hp_F6.2 (i2 + 1) (by omega)).trans ((hp_F5.2 (i2 + 1) (by omega)).trans ((hp_F4.2 (i2 + 1) (by omega)).trans ((hp_F3.2 (i2 + 1) (by omega)).trans hp_F2.1.2.1)))), ((((hp_F2.1.2.2.fr (hp_F3.2 (i2 + 2) (by omega))).fr (hp_F4.2 (i2 + 2) (by omega))).fr (hp_F5.2 (i2 + 2) (by omega))).fr (hp_F6.2 (i2 + 2) (by omega)))⟩, ⟨by omega, ((hp_F6.2 (i2 + 3) (by omega)).trans ((hp_F5.2 (i2 + 3) (by omega)).trans ((hp_F4.2 (i2 + 3) (by omega)).trans hp_F3.1.2.1))), (((hp_F3.1.2.2.fr (hp_F4.2 (i2 + 4) (by omega))).fr (hp_F5.2 (i2 + 4) (by omega))).fr (hp_F6.2 (i2 + 4) (by omega)))⟩, ⟨by omega, ((hp_F6.2 (i2 + 5) (by omega)).trans ((hp_F5.2 (i2 + 5) (by omega)).trans hp_F4.1.2.1)), ((hp_F4.1.2.2.fr (hp_F5.2 (i2 + 6) (by omega))).fr (hp_F6.2 (i2 + 6) (by omega)))⟩, ⟨by omega, ((hp_F6.2 (i2 + 7) (by omega)).trans hp_F5.1.2.1), (hp_F5.1.2.2.fr (hp_F6.2 (i2 + 8) (by omega)))⟩, ⟨by omega, hp_F6.1.2.1, hp_F6.1.2.2⟩⟩, (fun q hq => (hp_F6.2 q (by omega)).trans ((hp_F5.2 q (by omega)).trans ((hp_F4.2 q (by omega)).trans ((hp_F3.2 q (by omega)).trans ((hp_F2.2 q (by omega)).trans (hf_F1 q (by omega)))))))⟩ dX1_copy_63
