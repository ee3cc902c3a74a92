set_option maxRecDepth 20000 in
theorem c_X6_add (l : Launch) (g : gT) {N : Nat} {ad : Nat → Nat} {F : Nat → va_E} (i n : Nat) (sm : UInt32) (t : Nat → Nat → Int32) (lf : Nat → UInt32) (ho : oTold g N ad F i n sm t lf) (hn : n < 64) (sg : Nat) (hs : sg < 64) (wl : Int32) (lv : UInt32) (hnn : vf_n32 (FP.fadd sm lv)) : CtV l yX6_add cX6_add 4 none 1 22 g N ad F [.ref (ad i), .int (nI sg), .int wl, .float lv] (fun F' => oTold g N ad F' i (n + 1) (FP.fadd sm lv) (tAdd t n sg wl) (vf_upd lf n lv) ∧ ∀ q, (q < i ∨ i + 7 < q) → F' q = F q) := by
  refine CtV_of (by decide) (Nat.le_of_ble_eq_true rfl) ?_
  intro p e s m args below meth c A H ls X M h hl
  have kx := X.1.1
  have kb := X.1.2.1
  have hl : lv_has ls 4 [(0, .ref (ad i)), (1, .int (nI sg)), (2, .int wl), (3, .float lv)] := hl
  have hN := ho.1
  refine lv_aload_n kx kb dX6_add_0 rfl (lv_at hl 0 rfl) ?_
  refine w_get X M h i ho.2.1 (by omega) fl_X6_9 rfl dX6_add_1 ?_
  refine w_if_lt (tgt := 82) kx kb (by omega) dX6_add_4 (by decide) ?_
  refine lv_aload_n kx kb dX6_add_7 rfl (lv_at hl 0 rfl) ?_
  refine w_get X M h i ho.2.1 (by omega) fl_X6_9 rfl dX6_add_8 ?_
  refine lv_aload_n kx kb dX6_add_11 rfl (lv_at hl 0 rfl) ?_
  refine w_get X M h i ho.2.1 (by omega) fl_X6_31 rfl dX6_add_12 ?_
  refine w_alenf X M h (i + 5) ho.2.2.2.2.1 (by omega) dX6_add_15 ?_
  refine w_cmp_ge (tgt := 82) kx kb (by omega) (by omega) dX6_add_16 (by decide) (fun c_1 => (show False by omega).elim) (fun c_1 => ?_)
  refine lv_aload_n kx kb dX6_add_19 rfl (lv_at hl 0 rfl) ?_
  refine w_get X M h i ho.2.1 (by omega) fl_X6_24 rfl dX6_add_20 ?_
  refine lv_aload_n kx kb dX6_add_23 rfl (lv_at hl 0 rfl) ?_
  refine w_get X M h i ho.2.1 (by omega) fl_X6_9 rfl dX6_add_24 ?_
  refine lv_iload_n kx kb dX6_add_27 rfl (lv_at hl 1 rfl) ?_
  refine w_callVv X M h [.int (nI n), .int (nI sg)] [] ((c_X3_put l g (i + 1) 64 (t 0) n (nI sg) ⟨by omega, ho.2.2.1.2.1, ho.2.2.1.2.2⟩ (by omega) (by omega))) lk_X6_38 ho.2.2.1.2.1 (by omega) rfl rfl ⟨by decide, by decide⟩ hl ⟨Nat.zero_le _, Nat.zero_le _⟩ (Nat.le_of_ble_eq_true rfl) rfl dX6_add_28 (fun F2 H locs hp_F2 h => ?_)
  refine lv_aload_n kx kb dX6_add_31 rfl (lv_at hl 0 rfl) ?_
  refine w_get X M h i ((hp_F2.2 i (by omega)).trans ho.2.1) (by omega) fl_X6_28 rfl dX6_add_32 ?_
  refine lv_aload_n kx kb dX6_add_35 rfl (lv_at hl 0 rfl) ?_
  refine w_get X M h i ((hp_F2.2 i (by omega)).trans ho.2.1) (by omega) fl_X6_9 rfl dX6_add_36 ?_
  refine lv_iload_n kx kb dX6_add_39 rfl (lv_at hl 2 rfl) ?_
  refine w_callVv X M h [.int (nI n), .int wl] [] ((c_X3_put l g (i + 3) 64 (t 1) n wl ⟨by omega, ((hp_F2.2 (i + 3) (by omega)).trans ho.2.2.2.1.2.1), (ho.2.2.2.1.2.2.fr (hp_F2.2 (i + 4) (by omega)))⟩ (by omega) (by omega))) lk_X6_38 ((hp_F2.2 (i + 3) (by omega)).trans ho.2.2.2.1.2.1) (by omega) rfl rfl ⟨by decide, by decide⟩ hl ⟨Nat.zero_le _, Nat.zero_le _⟩ (Nat.le_of_ble_eq_true rfl) rfl dX6_add_40 (fun F3 H locs hp_F3 h => ?_)
  refine lv_aload_n kx kb dX6_add_43 rfl (lv_at hl 0 rfl) ?_
  refine w_get X M h i ((hp_F3.2 i (by omega)).trans ((hp_F2.2 i (by omega)).trans ho.2.1)) (by omega) fl_X6_31 rfl dX6_add_44 ?_
  refine lv_aload_n kx kb dX6_add_47 rfl (lv_at hl 0 rfl) ?_
  refine w_get X M h i ((hp_F3.2 i (by omega)).trans ((hp_F2.2 i (by omega)).trans ho.2.1)) (by omega) fl_X6_9 rfl dX6_add_48 ?_
  refine lv_fload_n kx kb dX6_add_51 rfl (lv_at hl 3 rfl) ?_
  refine w_fast X M h (i + 5) ((ho.2.2.2.2.1.fr (hp_F2.2 (i + 5) (by omega))).fr (hp_F3.2 (i + 5) (by omega))) (by omega) (n) (rfl) (by omega) (by omega) dX6_add_52 (fun F4 H locs h he_F4 hf_F4 => ?_)
  refine lv_aload_n kx kb dX6_add_53 rfl (lv_at hl 0 rfl) ?_
  refine w_get X M h i ((hf_F4 i (by omega)).trans ((hp_F3.2 i (by omega)).trans ((hp_F2.2 i (by omega)).trans ho.2.1))) (by omega) fl_X6_35 rfl dX6_add_54 ?_
  refine lv_iload_n kx kb dX6_add_57 rfl (lv_at hl 1 rfl) ?_
  refine lv_iconst (v := nI 1) kx kb dX6_add_58 (by decide) ?_
  refine w_callVv X M h [.int (nI sg), .int (nI 1)] [] ((c_X3_put l g (i + 6) 64 (t 2) sg (nI 1) ⟨by omega, ((hf_F4 (i + 6) (by omega)).trans ((hp_F3.2 (i + 6) (by omega)).trans ((hp_F2.2 (i + 6) (by omega)).trans ho.2.2.2.2.2.2.1))), (((ho.2.2.2.2.2.2.2.fr (hp_F2.2 (i + 7) (by omega))).fr (hp_F3.2 (i + 7) (by omega))).fr (hf_F4 (i + 7) (by omega)))⟩ (by omega) (by omega))) lk_X6_38 ((hf_F4 (i + 6) (by omega)).trans ((hp_F3.2 (i + 6) (by omega)).trans ((hp_F2.2 (i + 6) (by omega)).trans ho.2.2.2.2.2.2.1))) (by omega) rfl rfl ⟨by decide, by decide⟩ hl ⟨Nat.zero_le _, Nat.zero_le _⟩ (Nat.le_of_ble_eq_true rfl) rfl dX6_add_59 (fun F5 H locs hp_F5 h => ?_)
  refine lv_aload_n kx kb dX6_add_62 rfl (lv_at hl 0 rfl) ?_
  refine lv_aload_n kx kb dX6_add_63 rfl (lv_at hl 0 rfl) ?_
  refine w_get X M h i ((hp_F5.2 i (by omega)).trans ((hf_F4 i (by omega)).trans ((hp_F3.2 i (by omega)).trans ((hp_F2.2 i (by omega)).trans ho.2.1)))) (by omega) fl_X6_15 rfl dX6_add_64 ?_
  refine lv_fload_n kx kb dX6_add_67 rfl (lv_at hl 3 rfl) ?_
  refine lv_fadd kx kb dX6_add_68 (hnn) ?_
  refine w_put X M h i ((hp_F5.2 i (by omega)).trans ((hf_F4 i (by omega)).trans ((hp_F3.2 i (by omega)).trans ((hp_F2.2 i (by omega)).trans ho.2.1)))) (by omega) fp_X6_15 (rfl) (by rfl) (Nat.le_of_ble_eq_true rfl) dX6_add_69 (fun F6 H locs h he_F6 hf_F6 => ?_)
  refine lv_aload_n kx kb dX6_add_72 rfl (lv_at hl 0 rfl) ?_
  refine lv_dup kx kb dX6_add_73 rfl ?_
  refine w_get X M h i he_F6 (by omega) fl_X6_9 rfl dX6_add_74 ?_
  refine lv_iconst (v := nI 1) kx kb dX6_add_77 (by decide) ?_
  refine w_addn kx kb dX6_add_78 ?_
  refine w_put X M h i he_F6 (by omega) fp_X6_9 (rfl) (by rfl) (Nat.le_of_ble_eq_true rfl) dX6_add_79 (fun F7 H locs h he_F7 hf_F7 => ?_)
  exact w_vret X h ⟨⟨by omega, he_F7, ⟨by omega, ((hf_F7 (i + 1) (by omega)).trans ((hf_F6 (i + 1) (by omega)).trans ((hp_F5.2 (i + 1) (by omega)).trans ((hf_F4 (i + 1) (by omega)).trans ((hp_F3.2 (i + 1) (by omega)).trans hp_F2.1.2.1))))), (((((hp_F2.1.2.2.fr (hp_F3.2 (i + 2) (by omega))).fr (hf_F4 (i + 2) (by omega))).fr (hp_F5.2 (i + 2) (by omega))).fr (hf_F6 (i + 2) (by omega))).fr (hf_F7 (i + 2) (by omega)))⟩, ⟨by omega, ((hf_F7 (i + 3) (by omega)).trans ((hf_F6 (i + 3) (by omega)).trans ((hp_F5.2 (i + 3) (by omega)).trans ((hf_F4 (i + 3) (by omega)).trans hp_F3.1.2.1)))), ((((hp_F3.1.2.2.fr (hf_F4 (i + 4) (by omega))).fr (hp_F5.2 (i + 4) (by omega))).fr (hf_F6 (i + 4) (by omega))).fr (hf_F7 (i + 4) (by omega)))⟩, (((he_F4.fr (hp_F5.2 (i + 5) (by omega))).fr (hf_F6 (i + 5) (by omega))).fr (hf_F7 (i + 5) (by omega))), ⟨by omega, ((hf_F7 (i + 6) (by omega)).trans ((hf_F6 (i + 6) (by omega)).trans hp_F5.1.2.1)), ((hp_F5.1.2.2.fr (hf_F6 (i + 7) (by omega))).fr (hf_F7 (i + 7) (by omega)))⟩⟩, (fun q hq => (hf_F7 q (by omega)).trans ((hf_F6 q (by omega)).trans ((hp_F5.2 q (by omega)).trans ((hf_F4 q (by omega)).trans ((hp_F3.2 q (by omega)).trans (hp_F2.2 q (by omega)))))))⟩ dX6_add_82
set_option maxRecDepth 20000 in
theorem c_X6_laughAt (l : Launch) (g : gT) {N : Nat} {ad : Nat → Nat} {F : Nat → va_E} (i n : Nat) (sm : UInt32) (t : Nat → Nat → Int32) (lf : Nat → UInt32) (ho : oTold g N ad F i n sm t lf) (hn : n ≤ 64) (k : Nat) (hk : k < 64) : CtF l yX6_laughAt cX6_laughAt 2 (some .float) 0 0 g N ad F [.ref (ad i), .int (nI k)] (fun r F' => r = (lf k) ∧ F' = F) := by
  refine CtF_of (by decide) (Nat.le_of_ble_eq_true rfl) ?_
  intro p e s m args below meth c A H ls X M h hl
  have kx := X.1.1
  have kb := X.1.2.1
  have hl : lv_has ls 2 [(0, .ref (ad i)), (1, .int (nI k))] := hl
  have hN := ho.1
  refine lv_iload_n kx kb dX6_laughAt_0 rfl (lv_at hl 1 rfl) ?_
  refine w_if_lt (tgt := 22) kx kb (by omega) dX6_laughAt_1 (by decide) ?_
  refine lv_iload_n kx kb dX6_laughAt_4 rfl (lv_at hl 1 rfl) ?_
  refine lv_aload_n kx kb dX6_laughAt_5 rfl (lv_at hl 0 rfl) ?_
  refine w_get X M h i ho.2.1 (by omega) fl_X6_31 rfl dX6_laughAt_6 ?_
  refine w_alenf X M h (i + 5) ho.2.2.2.2.1 (by omega) dX6_laughAt_9 ?_
  refine w_cmp_ge (tgt := 22) kx kb (by omega) (by omega) dX6_laughAt_10 (by decide) (fun c_1 => (show False by omega).elim) (fun c_1 => ?_)
  refine lv_aload_n kx kb dX6_laughAt_13 rfl (lv_at hl 0 rfl) ?_
  refine w_get X M h i ho.2.1 (by omega) fl_X6_31 rfl dX6_laughAt_14 ?_
  refine lv_iload_n kx kb dX6_laughAt_17 rfl (lv_at hl 1 rfl) ?_
  refine w_fald X M h (i + 5) ho.2.2.2.2.1 (by omega) (k) (rfl) (by omega) (by omega) dX6_laughAt_18 ?_
  refine lv_goto (tgt := 23) kx kb dX6_laughAt_19 (by decide) ?_
  exact w_fret X h ⟨rfl, rfl⟩ dX6_laughAt_23
set_option maxRecDepth 20000 in
theorem c_X6_sumAgain (l : Launch) (g : gT) {N : Nat} {ad : Nat → Nat} {F : Nat → va_E} (i n : Nat) (sm : UInt32) (t : Nat → Nat → Int32) (lf : Nat → UInt32) (ho : oTold g N ad F i n sm t lf) (hn : n ≤ 64) (hnn : ∀ k, k < n → vf_n32 (fsum lf (k + 1))) : CtF l yX6_sumAgain cX6_sumAgain 3 (some .float) 1 21 g N ad F [.ref (ad i)] (fun r F' => r = (fsum lf n) ∧ F' = F) := by
  refine CtF_of (by decide) (Nat.le_of_ble_eq_true rfl) ?_
  intro p e s m args below meth c A H ls X M h hl
  have kx := X.1.1
  have kb := X.1.2.1
  have hl : lv_has ls 3 [(0, .ref (ad i))] := hl
  have hN := ho.1
  refine lv_fconst0 kx kb dX6_sumAgain_0 ?_
  refine lv_fstore_n (lv' := [(1, .float FP.fconst0), (0, .ref (ad i))]) kx kb dX6_sumAgain_1 rfl hl (by decide) rfl (fun ls hl => ?_)
  refine lv_iconst (v := nI 0) kx kb dX6_sumAgain_2 (by decide) ?_
  refine lv_istore_n (lv' := [(2, .int (nI 0)), (1, .float FP.fconst0), (0, .ref (ad i))]) kx kb dX6_sumAgain_3 rfl hl (by decide) rfl (fun ls hl => ?_)
  refine w_loop2 (fun (k : Nat) (v : UInt32) => n - k) (fun (k : Nat) (v : UInt32) H locs ls => Hx g N ad F A s H locs ∧ lv_has ls 3 [(0, .ref (ad i)), (1, .float v), (2, .int (nI k))] ∧ (k ≤ n) ∧ (v = fsum lf k)) ?_ 0 FP.fconst0 ⟨h, lv_sub hl [2, 1, 0] rfl, Nat.zero_le _, rfl⟩
  intro k v H locs ls hinv ih
  obtain ⟨h, hl, hk, hv⟩ := hinv
  refine lv_iload_n kx kb dX6_sumAgain_4 rfl (lv_at hl 2 rfl) ?_
  refine lv_aload_n kx kb dX6_sumAgain_5 rfl (lv_at hl 0 rfl) ?_
  refine w_get X M h i ho.2.1 (by omega) fl_X6_9 rfl dX6_sumAgain_6 ?_
  refine w_cmp_ge (tgt := 26) kx kb (by omega) (by omega) dX6_sumAgain_9 (by decide) (fun c_1 => ?_) (fun c_1 => ?_)
  · refine lv_fload_n kx kb dX6_sumAgain_26 rfl (lv_at hl 1 rfl) ?_
    exact w_fret X h ⟨by rw [hv, show k = n by omega], rfl⟩ dX6_sumAgain_27
  · refine lv_fload_n kx kb dX6_sumAgain_12 rfl (lv_at hl 1 rfl) ?_
    refine lv_aload_n kx kb dX6_sumAgain_13 rfl (lv_at hl 0 rfl) ?_
    refine lv_iload_n kx kb dX6_sumAgain_14 rfl (lv_at hl 2 rfl) ?_
    refine w_readVf X M h [.int (nI k)] [.float v] ((c_X6_laughAt l g i n sm t lf ⟨by omega, ho.2.1, ⟨by omega, ho.2.2.1.2.1, ho.2.2.1.2.2⟩, ⟨by omega, ho.2.2.2.1.2.1, ho.2.2.2.1.2.2⟩, ho.2.2.2.2.1, ⟨by omega, ho.2.2.2.2.2.2.1, ho.2.2.2.2.2.2.2⟩⟩ (by omega) k (by omega))) lk_X6_42 ho.2.1 (by omega) rfl rfl ⟨by decide, by decide⟩ hl ⟨Nat.zero_le _, Nat.zero_le _⟩ (Nat.le_of_ble_eq_true rfl) rfl dX6_sumAgain_15 (fun H locs h => ?_)
    refine lv_fadd kx kb dX6_sumAgain_18 (by rw [hv]; exact hnn k (by omega)) ?_
    refine lv_fstore_n (lv' := [(1, .float (FP.fadd v (lf k))), (0, .ref (ad i)), (2, .int (nI k))]) kx kb dX6_sumAgain_19 rfl hl (by decide) rfl (fun ls hl => ?_)
    refine lv_iinc (v := nI (k + 1)) (lv' := [(2, .int (nI (k + 1))), (1, .float (FP.fadd v (lf k))), (0, .ref (ad i))]) kx kb dX6_sumAgain_20 hl (k := 2) rfl (nI_add _ _) (by decide) rfl (fun ls hl => ?_)
    refine lv_goto (tgt := 4) kx kb dX6_sumAgain_23 (by decide) ?_
    exact ih (k + 1) (FP.fadd v (lf k)) _ _ _ ⟨h, lv_sub hl [2, 1, 0] rfl, by omega, by rw [hv, fsum]⟩ (by omega)
set_option maxRecDepth 20000 in
theorem c_X6_countFrom (l : Launch) (g : gT) {N : Nat} {ad : Nat → Nat} {F : Nat → va_E} (i n : Nat) (sm : UInt32) (t : Nat → Nat → Int32) (lf : Nat → UInt32) (ho : oTold g N ad F i n sm t lf) (hn : n ≤ 64) (x : Int32) : CtI l yX6_countFrom cX6_countFrom 4 (some .int) 1 21 g N ad F [.ref (ad i), .int x] (fun r F' => r = (nI (cnt (fun k => decide (t 1 k = x)) n)) ∧ F' = F) := by
  refine CtI_of (by decide) (Nat.le_of_ble_eq_true rfl) ?_
  intro p e s m args below meth c A H ls X M h hl
  have kx := X.1.1
  have kb := X.1.2.1
  have hl : lv_has ls 4 [(0, .ref (ad i)), (1, .int x)] := hl
  have hN := ho.1
  refine lv_iconst (v := nI 0) kx kb dX6_countFrom_0 (by decide) ?_
  refine lv_istore_n (lv' := [(2, .int (nI 0)), (0, .ref (ad i)), (1, .int x)]) kx kb dX6_countFrom_1 rfl hl (by decide) rfl (fun ls hl => ?_)
  refine lv_iconst (v := nI 0) kx kb dX6_countFrom_2 (by decide) ?_
  refine lv_istore_n (lv' := [(3, .int (nI 0)), (2, .int (nI 0)), (0, .ref (ad i)), (1, .int x)]) kx kb dX6_countFrom_3 rfl hl (by decide) rfl (fun ls hl => ?_)
  refine w_loop2 (fun (k : Nat) (v : Int32) => n - k) (fun (k : Nat) (v : Int32) H locs ls => Hx g N ad F A s H locs ∧ lv_has ls 4 [(0, .ref (ad i)), (1, .int x), (2, .int v), (3, .int (nI k))] ∧ (k ≤ n) ∧ (v = nI (cnt (fun k => decide (t 1 k = x)) k))) ?_ 0 (nI 0) ⟨h, lv_sub hl [2, 3, 1, 0] rfl, Nat.zero_le _, rfl⟩
  intro k v H locs ls hinv ih
  obtain ⟨h, hl, hk, hv⟩ := hinv
  refine lv_iload_n kx kb dX6_countFrom_4 rfl (lv_at hl 3 rfl) ?_
  refine lv_aload_n kx kb dX6_countFrom_5 rfl (lv_at hl 0 rfl) ?_
  refine w_get X M h i ho.2.1 (by omega) fl_X6_9 rfl dX6_countFrom_6 ?_
  refine w_cmp_ge (tgt := 33) kx kb (by omega) (by omega) dX6_countFrom_9 (by decide) (fun c_1 => ?_) (fun c_1 => ?_)
  · refine lv_iload_n kx kb dX6_countFrom_33 rfl (lv_at hl 2 rfl) ?_
    exact w_iret X h ⟨by rw [hv, show k = n by omega], rfl⟩ dX6_countFrom_34
  · refine lv_aload_n kx kb dX6_countFrom_12 rfl (lv_at hl 0 rfl) ?_
    refine w_get X M h i ho.2.1 (by omega) fl_X6_28 rfl dX6_countFrom_13 ?_
    refine lv_iload_n kx kb dX6_countFrom_16 rfl (lv_at hl 3 rfl) ?_
    refine w_readVi X M h [.int (nI k)] [] ((c_X3_at_n l g (i + 3) 64 (t 1) k ⟨by omega, ho.2.2.2.1.2.1, ho.2.2.2.1.2.2⟩ (by omega) (by omega))) lk_X6_46 ho.2.2.2.1.2.1 (by omega) rfl rfl ⟨by decide, by decide⟩ hl ⟨Nat.zero_le _, Nat.zero_le _⟩ (Nat.le_of_ble_eq_true rfl) rfl dX6_countFrom_17 (fun H locs h => ?_)
    refine lv_iload_n kx kb dX6_countFrom_20 rfl (lv_at hl 1 rfl) ?_
    refine lv_icmp_ne (tgt := 27) kx kb dX6_countFrom_21 (by decide) (fun c_2 => ?_) (fun c_2 => ?_)
    · refine lv_iinc (v := nI (k + 1)) (lv' := [(3, .int (nI (k + 1))), (0, .ref (ad i)), (1, .int x), (2, .int v)]) kx kb dX6_countFrom_27 hl (k := 3) rfl (nI_add _ _) (by decide) rfl (fun ls hl => ?_)
      refine lv_goto (tgt := 4) kx kb dX6_countFrom_30 (by decide) ?_
      exact ih (k + 1) v _ _ _ ⟨h, lv_sub hl [1, 2, 3, 0] rfl, by omega, by rw [hv, cnt_f (by simp [c_2])]⟩ (by omega)
    · refine lv_iinc (v := v + 1) (lv' := [(2, .int (v + 1)), (0, .ref (ad i)), (1, .int x), (3, .int (nI k))]) kx kb dX6_countFrom_24 hl (k := 2) rfl (rfl) (by decide) rfl (fun ls hl => ?_)
      refine lv_iinc (v := nI (k + 1)) (lv' := [(3, .int (nI (k + 1))), (2, .int (v + 1)), (0, .ref (ad i)), (1, .int x)]) kx kb dX6_countFrom_27 hl (k := 3) rfl (nI_add _ _) (by decide) rfl (fun ls hl => ?_)
      refine lv_goto (tgt := 4) kx kb dX6_countFrom_30 (by decide) ?_
      exact ih (k + 1) (v + 1) _ _ _ ⟨h, lv_sub hl [2, 3, 1, 0] rfl, by omega, by rw [hv, nI_1, cnt_t (by simp [c_2])]⟩ (by omega)
set_option maxRecDepth 20000 in
theorem c_X6_copy (l : Launch) (g : gT) {N : Nat} {ad : Nat → Nat} {F : Nat → va_E} (i n : Nat) (sm : UInt32) (t : Nat → Nat → Int32) (lf : Nat → UInt32) (ho : oTold g N ad F i n sm t lf) (i2 n2 : Nat) (sm2 : UInt32) (t2 : Nat → Nat → Int32) (lf2 : Nat → UInt32) (ho2 : oTold g N ad F i2 n2 sm2 t2 lf2) (hap : i + 7 < i2 ∨ i2 + 7 < i) : CtV l yX6_copy cX6_copy 2 none 2 52 g N ad F [.ref (ad i), .ref (ad i2)] (fun F' => oTold g N ad F' i2 n sm t lf ∧ ∀ q, (q < i2 ∨ i2 + 7 < q) → F' q = F q) := by
  refine CtV_of (by decide) (Nat.le_of_ble_eq_true rfl) ?_
  intro p e s m args below meth c A H ls X M h hl
  have kx := X.1.1
  have kb := X.1.2.1
  have hl : lv_has ls 2 [(0, .ref (ad i)), (1, .ref (ad i2))] := hl
  have hN := ho.1
  have hN2 := ho2.1
  refine lv_aload_n kx kb dX6_copy_0 rfl (lv_at hl 1 rfl) ?_
  refine lv_aload_n kx kb dX6_copy_1 rfl (lv_at hl 0 rfl) ?_
  refine w_get X M h i ho.2.1 (by omega) fl_X6_9 rfl dX6_copy_2 ?_
  refine w_put X M h i2 ho2.2.1 (by omega) fp_X6_9 (rfl) (by rfl) (Nat.le_of_ble_eq_true rfl) dX6_copy_5 (fun F1 H locs h he_F1 hf_F1 => ?_)
  refine lv_aload_n kx kb dX6_copy_8 rfl (lv_at hl 1 rfl) ?_
  refine lv_aload_n kx kb dX6_copy_9 rfl (lv_at hl 0 rfl) ?_
  refine w_get X M h i ((hf_F1 i (by omega)).trans ho.2.1) (by omega) fl_X6_15 rfl dX6_copy_10 ?_
  refine w_put X M h i2 he_F1 (by omega) fp_X6_15 (rfl) (by rfl) (Nat.le_of_ble_eq_true rfl) dX6_copy_13 (fun F2 H locs h he_F2 hf_F2 => ?_)
  refine lv_aload_n kx kb dX6_copy_16 rfl (lv_at hl 0 rfl) ?_
  refine w_get X M h i ((hf_F2 i (by omega)).trans ((hf_F1 i (by omega)).trans ho.2.1)) (by omega) fl_X6_24 rfl dX6_copy_17 ?_
  refine lv_aload_n kx kb dX6_copy_20 rfl (lv_at hl 1 rfl) ?_
  refine w_get X M h i2 he_F2 (by omega) fl_X6_24 rfl dX6_copy_21 ?_
  refine w_callSv X M h [.ref (ad (i + 1)), .ref (ad (i2 + 1))] [] ((c_X3_copy l g (i + 1) (i2 + 1) 64 (t 0) (t2 0) ⟨by omega, ((hf_F2 (i + 1) (by omega)).trans ((hf_F1 (i + 1) (by omega)).trans ho.2.2.1.2.1)), ((ho.2.2.1.2.2.fr (hf_F1 (i + 2) (by omega))).fr (hf_F2 (i + 2) (by omega)))⟩ ⟨by omega, ((hf_F2 (i2 + 1) (by omega)).trans ((hf_F1 (i2 + 1) (by omega)).trans ho2.2.2.1.2.1)), ((ho2.2.2.1.2.2.fr (hf_F1 (i2 + 2) (by omega))).fr (hf_F2 (i2 + 2) (by omega)))⟩ (by omega))) lk_X6_50 rfl ⟨by decide, by decide⟩ hl ⟨Nat.zero_le _, Nat.zero_le _⟩ (Nat.le_of_ble_eq_true rfl) rfl dX6_copy_24 (fun F3 H locs hp_F3 h => ?_)
  refine lv_aload_n kx kb dX6_copy_27 rfl (lv_at hl 0 rfl) ?_
  refine w_get X M h i ((hp_F3.2 i (by omega)).trans ((hf_F2 i (by omega)).trans ((hf_F1 i (by omega)).trans ho.2.1))) (by omega) fl_X6_28 rfl dX6_copy_28 ?_
  refine lv_aload_n kx kb dX6_copy_31 rfl (lv_at hl 1 rfl) ?_
  refine w_get X M h i2 ((hp_F3.2 i2 (by omega)).trans he_F2) (by omega) fl_X6_28 rfl dX6_copy_32 ?_
  refine w_callSv X M h [.ref (ad (i + 3)), .ref (ad (i2 + 3))] [] ((c_X3_copy l g (i + 3) (i2 + 3) 64 (t 1) (t2 1) ⟨by omega, ((hp_F3.2 (i + 3) (by omega)).trans ((hf_F2 (i + 3) (by omega)).trans ((hf_F1 (i + 3) (by omega)).trans ho.2.2.2.1.2.1))), (((ho.2.2.2.1.2.2.fr (hf_F1 (i + 4) (by omega))).fr (hf_F2 (i + 4) (by omega))).fr (hp_F3.2 (i + 4) (by omega)))⟩ ⟨by omega, ((hp_F3.2 (i2 + 3) (by omega)).trans ((hf_F2 (i2 + 3) (by omega)).trans ((hf_F1 (i2 + 3) (by omega)).trans ho2.2.2.2.1.2.1))), (((ho2.2.2.2.1.2.2.fr (hf_F1 (i2 + 4) (by omega))).fr (hf_F2 (i2 + 4) (by omega))).fr (hp_F3.2 (i2 + 4) (by omega)))⟩ (by omega))) lk_X6_50 rfl ⟨by decide, by decide⟩ hl ⟨Nat.zero_le _, Nat.zero_le _⟩ (Nat.le_of_ble_eq_true rfl) rfl dX6_copy_35 (fun F4 H locs hp_F4 h => ?_)
  refine lv_aload_n kx kb dX6_copy_38 rfl (lv_at hl 0 rfl) ?_
  refine w_get X M h i ((hp_F4.2 i (by omega)).trans ((hp_F3.2 i (by omega)).trans ((hf_F2 i (by omega)).trans ((hf_F1 i (by omega)).trans ho.2.1)))) (by omega) fl_X6_35 rfl dX6_copy_39 ?_
  refine lv_aload_n kx kb dX6_copy_42 rfl (lv_at hl 1 rfl) ?_
  refine w_get X M h i2 ((hp_F4.2 i2 (by omega)).trans ((hp_F3.2 i2 (by omega)).trans he_F2)) (by omega) fl_X6_35 rfl dX6_copy_43 ?_
  refine w_callSv X M h [.ref (ad (i + 6)), .ref (ad (i2 + 6))] [] ((c_X3_copy l g (i + 6) (i2 + 6) 64 (t 2) (t2 2) ⟨by omega, ((hp_F4.2 (i + 6) (by omega)).trans ((hp_F3.2 (i + 6) (by omega)).trans ((hf_F2 (i + 6) (by omega)).trans ((hf_F1 (i + 6) (by omega)).trans ho.2.2.2.2.2.2.1)))), ((((ho.2.2.2.2.2.2.2.fr (hf_F1 (i + 7) (by omega))).fr (hf_F2 (i + 7) (by omega))).fr (hp_F3.2 (i + 7) (by omega))).fr (hp_F4.2 (i + 7) (by omega)))⟩ ⟨by omega, ((hp_F4.2 (i2 + 6) (by omega)).trans ((hp_F3.2 (i2 + 6) (by omega)).trans ((hf_F2 (i2 + 6) (by omega)).trans ((hf_F1 (i2 + 6) (by omega)).trans ho2.2.2.2.2.2.2.1)))), ((((ho2.2.2.2.2.2.2.2.fr (hf_F1 (i2 + 7) (by omega))).fr (hf_F2 (i2 + 7) (by omega))).fr (hp_F3.2 (i2 + 7) (by omega))).fr (hp_F4.2 (i2 + 7) (by omega)))⟩ (by omega))) lk_X6_50 rfl ⟨by decide, by decide⟩ hl ⟨Nat.zero_le _, Nat.zero_le _⟩ (Nat.le_of_ble_eq_true rfl) rfl dX6_copy_46 (fun F5 H locs hp_F5 h => ?_)
  refine lv_aload_n kx kb dX6_copy_49 rfl (lv_at hl 0 rfl) ?_
  refine w_get X M h i ((hp_F5.2 i (by omega)).trans ((hp_F4.2 i (by omega)).trans ((hp_F3.2 i (by omega)).trans ((hf_F2 i (by omega)).trans ((hf_F1 i (by omega)).trans ho.2.1))))) (by omega) fl_X6_31 rfl dX6_copy_50 ?_
  refine lv_iconst (v := nI 0) kx kb dX6_copy_53 (by decide) ?_
  refine lv_aload_n kx kb dX6_copy_54 rfl (lv_at hl 1 rfl) ?_
  refine w_get X M h i2 ((hp_F5.2 i2 (by omega)).trans ((hp_F4.2 i2 (by omega)).trans ((hp_F3.2 i2 (by omega)).trans he_F2))) (by omega) fl_X6_31 rfl dX6_copy_55 ?_
  refine lv_iconst (v := nI 0) kx kb dX6_copy_58 (by decide) ?_
  refine lv_aload_n kx kb dX6_copy_59 rfl (lv_at hl 0 rfl) ?_
  refine w_get X M h i ((hp_F5.2 i (by omega)).trans ((hp_F4.2 i (by omega)).trans ((hp_F3.2 i (by omega)).trans ((hf_F2 i (by omega)).trans ((hf_F1 i (by omega)).trans ho.2.1))))) (by omega) fl_X6_31 rfl dX6_copy_60 ?_
  refine w_alenf X M h (i + 5) (((((ho.2.2.2.2.1.fr (hf_F1 (i + 5) (by omega))).fr (hf_F2 (i + 5) (by omega))).fr (hp_F3.2 (i + 5) (by omega))).fr (hp_F4.2 (i + 5) (by omega))).fr (hp_F5.2 (i + 5) (by omega))) (by omega) dX6_copy_63 ?_
  refine lv_aload_n kx kb dX6_copy_64 rfl (lv_at hl 1 rfl) ?_
  refine w_get X M h i2 ((hp_F5.2 i2 (by omega)).trans ((hp_F4.2 i2 (by omega)).trans ((hp_F3.2 i2 (by omega)).trans he_F2))) (by omega) fl_X6_31 rfl dX6_copy_65 ?_
  refine w_alenf X M h (i2 + 5) (((((ho2.2.2.2.2.1.fr (hf_F1 (i2 + 5) (by omega))).fr (hf_F2 (i2 + 5) (by omega))).fr (hp_F3.2 (i2 + 5) (by omega))).fr (hp_F4.2 (i2 + 5) (by omega))).fr (hp_F5.2 (i2 + 5) (by omega))) (by omega) dX6_copy_68 ?_
  refine w_mminn X hl q2_52 (by omega) (by omega) ⟨by decide, by decide⟩ (Nat.le_of_ble_eq_true rfl) ⟨Nat.zero_le _, Nat.zero_le _⟩ dX6_copy_69 ?_
  refine w_top (y := nI 64) (by decide) ?_
  refine w_copyf X M h (i + 5) (i2 + 5) (((((ho.2.2.2.2.1.fr (hf_F1 (i + 5) (by omega))).fr (hf_F2 (i + 5) (by omega))).fr (hp_F3.2 (i + 5) (by omega))).fr (hp_F4.2 (i + 5) (by omega))).fr (hp_F5.2 (i + 5) (by omega))) (((((ho2.2.2.2.2.1.fr (hf_F1 (i2 + 5) (by omega))).fr (hf_F2 (i2 + 5) (by omega))).fr (hp_F3.2 (i2 + 5) (by omega))).fr (hp_F4.2 (i2 + 5) (by omega))).fr (hp_F5.2 (i2 + 5) (by omega))) (by omega) (by omega) hl (by omega) q2_53 ⟨by decide, by decide⟩ (Nat.le_of_ble_eq_true rfl) dX6_copy_72 (fun F6 H locs h he_F6 hf_F6 => ?_)
  exact w_vret X h ⟨⟨by omega, ((hf_F6 i2 (by omega)).trans ((hp_F5.2 i2 (by omega)).trans ((hp_F4.2 i2 (by omega)).trans ((hp_F3.2 i2 (by omega)).trans he_F2)))), ⟨by omega, ((hf_F6 (i2 + 1) (by omega)).trans ((hp_F5.2 (i2 + 1) (by omega)).trans ((hp_F4.2 (i2 + 1) (by omega)).trans hp_F3.1.2.1))), (((hp_F3.1.2.2.fr (hp_F4.2 (i2 + 2) (by omega))).fr (hp_F5.2 (i2 + 2) (by omega))).fr (hf_F6 (i2 + 2) (by omega)))⟩, ⟨by omega, ((hf_F6 (i2 + 3) (by omega)).trans ((hp_F5.2 (i2 + 3) (by omega)).trans hp_F4.1.2.1)), ((hp_F4.1.2.2.fr (hp_F5.2 (i2 + 4) (by omega))).fr (hf_F6 (i2 + 4) (by omega)))⟩, he_F6, ⟨by omega, ((hf_F6 (i2 + 6) (by omega)).trans hp_F5.1.2.1), (hp_F5.1.2.2.fr (hf_F6 (i2 + 7) (by omega)))⟩⟩, (fun q hq => (hf_F6 q (by omega)).trans ((hp_F5.2 q (by omega)).trans ((hp_F4.2 q (by omega)).trans ((hp_F3.2 q (by omega)).trans ((hf_F2 q (by omega)).trans (hf_F1 q (by omega)))))))⟩ dX6_copy_75
