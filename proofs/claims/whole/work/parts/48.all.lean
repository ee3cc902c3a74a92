theorem arOk_so {c : CM1} (h : arOk c) : c.1 = nI 106 ∨ c.1 = nI 112 ∨ c.1 = nI 114 ∨ c.1 = nI 100 ∨ c.1 = nI 111 ∨ c.1 = nI 115 ∨ c.1 = nI 98 ∨ c.1 = nI 103 := by
  rcases h with z | z | z | z | z | z | z | z
  · exact Or.inl z.1
  · exact Or.inr (Or.inl z.1)
  · exact Or.inr (Or.inr (Or.inl z.1))
  · exact Or.inr (Or.inr (Or.inr (Or.inl z.1)))
  · exact Or.inr (Or.inr (Or.inr (Or.inr (Or.inl z.1))))
  · exact Or.inr (Or.inr (Or.inr (Or.inr (Or.inr (Or.inl z.1)))))
  · exact Or.inr (Or.inr (Or.inr (Or.inr (Or.inr (Or.inr (Or.inl z.1))))))
  · exact Or.inr (Or.inr (Or.inr (Or.inr (Or.inr (Or.inr (Or.inr (z.1)))))))
theorem vDn_at (v : Nat → Nat) (p k : Nat) : vDn (vAt v p) k = vAt (vDn v k) p := by
  funext i
  match i with
  | 0 => rfl
  | 1 => rfl
  | 2 => rfl
  | 3 => rfl
  | 4 => rfl
  | 5 => rfl
  | _ + 6 => rfl
set_option maxRecDepth 20000 in
theorem c_X8_doesAll (l : Launch) (g : gT) {N : Nat} {ad : Nat → Nat} {F : Nat → va_E} (u : Nat → Int32) (v0 : Nat → Nat) (a nm : Nat → Int32) (hm : oM g N ad F u v0) (h30 : v0 3 ≤ 60) (hA : arC g F 261 60 a) (hM : arI g F 262 4 nm) (x : SX) (hI : Iva x) (hX0 : oX g F 255 x) (hok0 : (psF (v0 3) a 61 0).1 = true)  : CtI l yX8_doesAll cX8_doesAll 3 (some .int) 6 136 g N ad F [.ref (ad 254)] (fun r F' => r = (dlF (psF (v0 3) a 61 0).2.2 0 x).1.1 ∧ (∃ (so : Int32) (p : Nat) (nm' : Nat → Int32), oM g N ad F' (uNot (uSo u so) (dlF (psF (v0 3) a 61 0).2.2 0 x).1) (vAt (vDn v0 (dlF (psF (v0 3) a 61 0).2.2 0 x).2.1) p) ∧ arI g F' 262 4 nm') ∧ oX g F' 255 (dlF (psF (v0 3) a 61 0).2.2 0 x).2.2 ∧ ∀ i, i ≠ 254 → i ≠ 255 → i ≠ 262 → F' i = F i) := by
  refine CtI_of (by decide) (Nat.le_of_ble_eq_true rfl) ?_
  intro p e s m args below meth c A H ls X M h hl
  have kx := X.1.1
  have kb := X.1.2.1
  have hl : lv_has ls 3 [(0, .ref (ad 254))] := hl
  have hN0 := hm.1
  obtain ⟨W0, hW0, hR0⟩ := hX0
  refine lv_aload_n kx kb dX8_doesAll_0 rfl (lv_at hl 0 rfl) ?_
  refine lv_iconst (v := nI 0) kx kb dX8_doesAll_1 (by decide) ?_
  refine w_put X M h 254 hm.2 (by omega) fp_X8_270 (rfl) (by rfl) (Nat.le_of_ble_eq_true rfl) dX8_doesAll_2 (fun F1 H locs h he_F1 hf_F1 => ?_)
  refine lv_aload_n kx kb dX8_doesAll_5 rfl (lv_at hl 0 rfl) ?_
  refine lv_iconst (v := nI 0) kx kb dX8_doesAll_6 (by decide) ?_
  refine w_put X M h 254 he_F1 (by omega) fp_X8_233 (rfl) (by rfl) (Nat.le_of_ble_eq_true rfl) dX8_doesAll_7 (fun F2 H locs h he_F2 hf_F2 => ?_)
  refine lv_iconst (v := nI 1) kx kb dX8_doesAll_10 (by decide) ?_
  refine lv_istore_n (lv' := [(1, .int (nI 1)), (0, .ref (ad 254))]) kx kb dX8_doesAll_11 rfl hl (by decide) rfl (fun ls hl => ?_)
  refine w_loop5 (fun (p0 : Nat) (F1 : Nat → va_E) (y : SX) (k : Nat) (v : Nat → Nat) => v0 3 + 1 - p0) (fun (p0 : Nat) (F1 : Nat → va_E) (y : SX) (k : Nat) (v : Nat → Nat) H locs ls => Hx g N ad F1 A s H locs ∧ lv_has ls 3 [(0, .ref (ad 254)), (1, .int (nI 1))] ∧ (p0 ≤ v0 3) ∧ (∀ q, q ≠ 254 → q ≠ 255 → q ≠ 262 → F1 q = F q) ∧ (∃ (so : Int32) (nm1 : Nat → Int32), oM g N ad F1 (uSo u so) (vAt v p0) ∧ arI g F1 262 4 nm1) ∧ (v = vDn v0 k) ∧ (Iva y) ∧ (oX g F1 255 y) ∧ (∃ f, v0 3 + 1 ≤ f + p0 ∧ (psF (v0 3) a f p0).1 = true ∧ dlF (psF (v0 3) a f p0).2.2 k y = (dlF (psF (v0 3) a 61 0).2.2 0 x))) ?_ 0 F2 x 0 (vDn v0 0) ⟨h, lv_sub hl [1, 0] rfl, by omega, (fun i hi0 hi1 hi2 => (hf_F2 i (by omega)).trans (hf_F1 i (by omega))), ⟨u 8, nm, ⟨by omega, he_F2⟩, ((hM.fr (hf_F1 262 (by omega))).fr (hf_F2 262 (by omega)))⟩, rfl, hI, ⟨W0, ((hW0.fr (hf_F1 255 (by omega))).fr (hf_F2 255 (by omega))), hR0⟩, ⟨61, by omega, hok0, rfl⟩⟩
  intro p0 F1 y k v H locs ls hinv ih
  obtain ⟨h, hl, hp00, hg_1, hE, hvv, hy, hXy, hX⟩ := hinv
  obtain ⟨so, nm1, hm1, hM1⟩ := hE
  obtain ⟨f0, hf0, hX1, hX2⟩ := hX
  obtain ⟨f, rfl⟩ : ∃ f, f0 = f + 1 := ⟨f0 - 1, by omega⟩
  obtain ⟨W1, hW1, hR1⟩ := hXy
  have hv3 : v 3 = v0 3 := by rw [hvv]; rfl
  have hv5 : v 5 = k := by rw [hvv]; rfl
  have h3 : v 3 ≤ 60 := by omega
  have hp0 : p0 ≤ v 3 := by omega
  rw [← hv3] at hX1 hX2
  have hF_3 : F1 254 = .inr (8, [.int (u 0), .int (u 1), .int (u 2), .int (u 3), .int (u 4), .int (u 5), .ref (ad 255), .ref (ad 256), .ref (ad 257), .ref (ad 258), .ref (ad 259), .int (nI (v 0)), .int (nI (v 1)), .int (u 6), .ref (ad 260), .int (nI (v 2)), .ref (ad 261), .int (nI (v 3)), .int (nI p0), .int (u 7), .ref (ad 262), .int so, .int (nI (v 5))]) := hm1.2
  refine lv_iload_n kx kb dX8_doesAll_12 rfl (lv_at hl 1 rfl) ?_
  refine lv_if_eq (tgt := 57) kx kb dX8_doesAll_13 (by decide) (fun q => absurd q (by decide)) (fun _ => ?_)
  refine lv_aload_n kx kb dX8_doesAll_16 rfl (lv_at hl 0 rfl) ?_
  refine w_callVi X M h [] [] ((c_X8_readsCommand l g u v p0 so a nm1 (⟨by omega, hF_3⟩) h3 (by omega) (hA.fr (hg_1 261 (by omega) (by omega) (by omega))) hM1)) lk_X8_267 hF_3 (by omega) rfl rfl ⟨by decide, by decide⟩ hl ⟨Nat.zero_le _, Nat.zero_le _⟩ (Nat.le_of_ble_eq_true rfl) rfl dX8_doesAll_17 (fun r_F4 F4 H locs hp_F4 h => ?_)
  obtain ⟨hr_F4, hm_F4, hM_F4, hg_F4⟩ := hp_F4
  have hq_F4 : (cmR (v 3) a p0).1.2.1 ≤ v 3 := cmR_le (by omega)
  have hF_5 : F4 254 = .inr (8, [.int (u 0), .int (u 1), .int (u 2), .int (u 3), .int (u 4), .int (u 5), .ref (ad 255), .ref (ad 256), .ref (ad 257), .ref (ad 258), .ref (ad 259), .int (nI (v 0)), .int (nI (v 1)), .int (u 6), .ref (ad 260), .int (nI (v 2)), .ref (ad 261), .int (nI (v 3)), .int (nI ((cmR (v 3) a p0).1.2.1)), .int (u 7), .ref (ad 262), .int ((cmR (v 3) a p0).2), .int (nI (v 5))]) := hm_F4.2
  refine w_top (y := bI ((cmR (v 3) a p0).1.1 = true)) hr_F4 ?_
  refine lv_pop kx kb dX8_doesAll_20 rfl ?_
  have hcm : (cmR (v 3) a p0).1.1 = true := by
    by_cases z : (cmR (v 3) a p0).1.1 = true
    · exact z
    · rw [psF, if_neg z] at hX1
      exact absurd hX1 (show ¬ (false = true) by decide)
  have har := cmR_ar hcm
  have hgt : ∀ j, j < (cmR (v 3) a p0).1.2.2.length → nmP nm1 0 (cmR (v 3) a p0).1.2.2 j = c1F ((cmR (v 3) a p0).2, (cmR (v 3) a p0).1.2.2) j := fun j hj => by have z := nmP_get (nm := nm1) (k := 0) hj; rw [Nat.zero_add] at z; exact z
  have hso2 : uSo u (cmR (v 3) a p0).2 8 = nI 106 ∨ uSo u (cmR (v 3) a p0).2 8 = nI 112 ∨ uSo u (cmR (v 3) a p0).2 8 = nI 114 ∨ uSo u (cmR (v 3) a p0).2 8 = nI 100 ∨ uSo u (cmR (v 3) a p0).2 8 = nI 111 ∨ uSo u (cmR (v 3) a p0).2 8 = nI 115 ∨ uSo u (cmR (v 3) a p0).2 8 = nI 98 ∨ uSo u (cmR (v 3) a p0).2 8 = nI 103 := arOk_so har
  refine lv_aload_n kx kb dX8_doesAll_21 rfl (lv_at hl 0 rfl) ?_
  refine w_callVi X M h [] [] ((c_X8_notNow l g (uSo u ((cmR (v 3) a p0).2)) (vAt v ((cmR (v 3) a p0).1.2.1)) ⟨by omega, hF_5⟩ y hy.1 W1 (hW1.fr (hg_F4 255 (by omega) (by omega))) hR1 (nmP nm1 0 (cmR (v 3) a p0).1.2.2) hM_F4 hso2)) lk_X8_273 hF_5 (by omega) rfl rfl ⟨by decide, by decide⟩ hl ⟨Nat.zero_le _, Nat.zero_le _⟩ (Nat.le_of_ble_eq_true rfl) rfl dX8_doesAll_22 (fun r_F6 F6 H locs hp_F6 h => ?_)
  obtain ⟨hr_F6, hm_F6, hf_F6⟩ := hp_F6
  refine w_top (y := (notC y ((cmR (v 3) a p0).2) (nmP nm1 0 (cmR (v 3) a p0).1.2.2)).1) hr_F6 ?_
  refine lv_istore_n (lv' := [(2, .int ((notC y ((cmR (v 3) a p0).2) (nmP nm1 0 (cmR (v 3) a p0).1.2.2)).1)), (0, .ref (ad 254)), (1, .int (nI 1))]) kx kb dX8_doesAll_25 rfl hl (by decide) rfl (fun ls hl => ?_)
  refine lv_iload_n kx kb dX8_doesAll_26 rfl (lv_at hl 0 rfl) ?_
  refine lv_if_eq (tgt := 32) kx kb dX8_doesAll_27 (by decide) (fun c_7 => ?_) (fun c_7 => ?_)
  · have hk1 := c_7
    have hk0 : (notC y (cmR (v 3) a p0).2 (c1F ((cmR (v 3) a p0).2, (cmR (v 3) a p0).1.2.2))).1 = 0 := by rw [← (notC_cong har hgt).1]; exact hk1
    rw [uNot_n (by show (notC y ((cmR (v 3) a p0).2) (nmP nm1 0 (cmR (v 3) a p0).1.2.2)).1 ≠ -5; rw [hk1]; decide)] at hm_F6
    have hy2 := hy.doC hk0
    have hF_8 : F6 254 = .inr (8, [.int (u 0), .int (u 1), .int (u 2), .int (u 3), .int (u 4), .int (u 5), .ref (ad 255), .ref (ad 256), .ref (ad 257), .ref (ad 258), .ref (ad 259), .int (nI (v 0)), .int (nI (v 1)), .int (u 6), .ref (ad 260), .int (nI (v 2)), .ref (ad 261), .int (nI (v 3)), .int (nI ((cmR (v 3) a p0).1.2.1)), .int (u 7), .ref (ad 262), .int ((cmR (v 3) a p0).2), .int (nI (v 5))]) := hm_F6.2
    refine lv_aload_n kx kb dX8_doesAll_32 rfl (lv_at hl 1 rfl) ?_
    refine w_callVi X M h [] [] ((c_X8_doesNow l g (uSo u ((cmR (v 3) a p0).2)) (vAt v ((cmR (v 3) a p0).1.2.1)) ⟨by omega, hF_8⟩ y hy.1 W1 ((hW1.fr (hg_F4 255 (by omega) (by omega))).fr (hf_F6 255 (by omega))) hR1 (nmP nm1 0 (cmR (v 3) a p0).1.2.2) (hM_F4.fr (hf_F6 262 (by omega))) hso2 hk1)) lk_X8_276 hF_8 (by omega) rfl rfl ⟨by decide, by decide⟩ hl ⟨Nat.zero_le _, Nat.zero_le _⟩ (Nat.le_of_ble_eq_true rfl) rfl dX8_doesAll_33 (fun r_F9 F9 H locs hp_F9 h => ?_)
    obtain ⟨W_F9, hW_F9, hR_F9⟩ := hp_F9.1
    refine lv_pop kx kb dX8_doesAll_36 rfl ?_
    refine lv_aload_n kx kb dX8_doesAll_37 rfl (lv_at hl 1 rfl) ?_
    refine lv_dup kx kb dX8_doesAll_38 rfl ?_
    refine w_get X M h 254 ((hp_F9.2 254 (by omega)).trans hF_8) (by omega) fl_X8_270 rfl dX8_doesAll_39 ?_
    refine lv_iconst (v := nI 1) kx kb dX8_doesAll_42 (by decide) ?_
    refine w_addn kx kb dX8_doesAll_43 ?_
    refine w_put X M h 254 ((hp_F9.2 254 (by omega)).trans hF_8) (by omega) fp_X8_270 (rfl) (by rfl) (Nat.le_of_ble_eq_true rfl) dX8_doesAll_44 (fun F10 H locs h he_F10 hf_F10 => ?_)
    obtain ⟨v2, hv2⟩ : ∃ v2, v2 = vDn v (v 5 + 1) := ⟨_, rfl⟩
    have hv23 : v2 3 = v 3 := by rw [hv2]; rfl
    have h32 : v2 3 ≤ 60 := by omega
    have hm_v2 : oM g N ad F10 (uSo u ((cmR (v 3) a p0).2)) (vAt v2 ((cmR (v 3) a p0).1.2.1)) := by rw [hv2]; exact ⟨by omega, he_F10⟩
    have hF_11 : F10 254 = .inr (8, [.int (u 0), .int (u 1), .int (u 2), .int (u 3), .int (u 4), .int (u 5), .ref (ad 255), .ref (ad 256), .ref (ad 257), .ref (ad 258), .ref (ad 259), .int (nI (v2 0)), .int (nI (v2 1)), .int (u 6), .ref (ad 260), .int (nI (v2 2)), .ref (ad 261), .int (nI (v2 3)), .int (nI ((cmR (v 3) a p0).1.2.1)), .int (u 7), .ref (ad 262), .int ((cmR (v 3) a p0).2), .int (nI (v2 5))]) := hm_v2.2
    have h3 := h32
    refine lv_aload_n kx kb dX8_doesAll_47 rfl (lv_at hl 1 rfl) ?_
    refine lv_bipush (v := nI 59) kx kb dX8_doesAll_48 (by decide) ?_
    refine w_callVi X M h [.int (nI 59)] [] ((c_X8_reads l g u v2 ((cmR (v 3) a p0).1.2.1) ((cmR (v 3) a p0).2) a (nmP nm1 0 (cmR (v 3) a p0).1.2.2) (⟨by omega, hF_11⟩) h3 (by omega) (((((hA.fr (hg_1 261 (by omega) (by omega) (by omega))).fr (hg_F4 261 (by omega) (by omega))).fr (hf_F6 261 (by omega))).fr (hp_F9.2 261 (by omega))).fr (hf_F10 261 (by omega))) (((hM_F4.fr (hf_F6 262 (by omega))).fr (hp_F9.2 262 (by omega))).fr (hf_F10 262 (by omega))) 59 (by decide))) lk_X8_242 hF_11 (by omega) rfl rfl ⟨by decide, by decide⟩ hl ⟨Nat.zero_le _, Nat.zero_le _⟩ (Nat.le_of_ble_eq_true rfl) rfl dX8_doesAll_50 (fun r_F12 F12 H locs hp_F12 h => ?_)
    by_cases c_F12 : sgN (v2 3) a ((cmR (v 3) a p0).1.2.1) = nI 59
    · obtain ⟨hr_F12, hm_F12⟩ := hp_F12.1 c_F12
      have hf_F12 := hp_F12.2.2
      have hq_F12 : (cmR (v 3) a p0).1.2.1 + 1 ≤ v2 3 := sgN_lt (by decide) c_F12
      have hF_13 : F12 254 = .inr (8, [.int (u 0), .int (u 1), .int (u 2), .int (u 3), .int (u 4), .int (u 5), .ref (ad 255), .ref (ad 256), .ref (ad 257), .ref (ad 258), .ref (ad 259), .int (nI (v2 0)), .int (nI (v2 1)), .int (u 6), .ref (ad 260), .int (nI (v2 2)), .ref (ad 261), .int (nI (v2 3)), .int (nI ((cmR (v 3) a p0).1.2.1 + 1)), .int (u 7), .ref (ad 262), .int ((cmR (v 3) a p0).2), .int (nI (v2 5))]) := hm_F12.2
      refine w_top (y := nI 1) hr_F12 ?_
      refine lv_istore_n (lv' := [(1, .int (nI 1)), (2, .int ((notC y ((cmR (v 3) a p0).2) (nmP nm1 0 (cmR (v 3) a p0).1.2.2)).1)), (0, .ref (ad 254))]) kx kb dX8_doesAll_53 rfl hl (by decide) rfl (fun ls hl => ?_)
      refine lv_goto (tgt := 12) kx kb dX8_doesAll_54 (by decide) ?_
      rw [show v2 3 = v 3 from hv23] at c_F12
      rw [psF, if_pos hcm, if_pos c_F12] at hX2 hX1
      rw [dlF, if_pos hk0] at hX2
      exact ih ((cmR (v 3) a p0).1.2.1 + 1) F12 (doC y (cmR (v 3) a p0).2 (c1F ((cmR (v 3) a p0).2, (cmR (v 3) a p0).1.2.2))) (k + 1) v2 _ _ _ ⟨h, lv_sub hl [2, 0] rfl, by omega, (fun i hi0 hi1 hi2 => (hf_F12 i (by omega)).trans ((hf_F10 i (by omega)).trans ((hp_F9.2 i (by omega)).trans ((hf_F6 i (by omega)).trans ((hg_F4 i (by omega) (by omega)).trans (hg_1 i (by omega) (by omega) (by omega))))))), ⟨_, _, ⟨by omega, hF_13⟩, ((((hM_F4.fr (hf_F6 262 (by omega))).fr (hp_F9.2 262 (by omega))).fr (hf_F10 262 (by omega))).fr (hf_F12 262 (by omega)))⟩, by rw [hv2, hvv, vDn_2, ← hvv, hv5], hy2, ⟨_, ((hW_F9.fr (hf_F10 255 (by omega))).fr (hf_F12 255 (by omega))), by rw [← (notC_cong har hgt).2]; exact hR_F9⟩, ⟨f, by have := cmR_ge (v 3) a p0; omega, by rw [← hv3]; exact hX1, by rw [← hv3]; exact hX2⟩⟩ (by have := cmR_ge (v 3) a p0; omega)
    · obtain ⟨hr_F12, hm_F12⟩ := hp_F12.2.1 c_F12
      have hf_F12 := hp_F12.2.2
      have hF_14 : F12 254 = .inr (8, [.int (u 0), .int (u 1), .int (u 2), .int (u 3), .int (u 4), .int (u 5), .ref (ad 255), .ref (ad 256), .ref (ad 257), .ref (ad 258), .ref (ad 259), .int (nI (v2 0)), .int (nI (v2 1)), .int (u 6), .ref (ad 260), .int (nI (v2 2)), .ref (ad 261), .int (nI (v2 3)), .int (nI ((cmR (v 3) a p0).1.2.1)), .int (u 7), .ref (ad 262), .int ((cmR (v 3) a p0).2), .int (nI (v2 5))]) := hm_F12.2
      refine w_top (y := nI 0) hr_F12 ?_
      refine lv_istore_n (lv' := [(1, .int (nI 0)), (2, .int ((notC y ((cmR (v 3) a p0).2) (nmP nm1 0 (cmR (v 3) a p0).1.2.2)).1)), (0, .ref (ad 254))]) kx kb dX8_doesAll_53 rfl hl (by decide) rfl (fun ls hl => ?_)
      refine lv_goto (tgt := 12) kx kb dX8_doesAll_54 (by decide) ?_
      refine lv_iload_n kx kb dX8_doesAll_12 rfl (lv_at hl 0 rfl) ?_
      refine lv_if_eq (tgt := 57) kx kb dX8_doesAll_13 (by decide) (fun _ => ?_) (fun q => absurd (by decide) q)
      refine lv_iconst (v := nI 0) kx kb dX8_doesAll_57 (by decide) ?_
      exact w_iret X h (by have c9 := c_F12; rw [show v2 3 = v 3 from hv23] at c9; have eD : (dlF (psF (v0 3) a 61 0).2.2 0 x) = (okN, k + 1, doC y (cmR (v 3) a p0).2 (c1F ((cmR (v 3) a p0).2, (cmR (v 3) a p0).1.2.2))) := (by rw [← hv3, ← hX2, psF, if_pos hcm, if_neg c9]; show dlF [_] k y = _; rw [dlF, if_pos hk0, dlF]); rw [eD]; exact ⟨rfl, ⟨(cmR (v 3) a p0).2, (cmR (v 3) a p0).1.2.1, _, by show oM g N ad F12 (uNot (uSo u (cmR (v 3) a p0).2) okN) (vAt (vDn v0 (k + 1)) (cmR (v 3) a p0).1.2.1); rw [uNot_n (show okN.1 ≠ -5 by decide), show vDn v0 (k + 1) = v2 from by rw [hv2, hv5, hvv, vDn_2]]; exact ⟨by omega, hF_14⟩, ((((hM_F4.fr (hf_F6 262 (by omega))).fr (hp_F9.2 262 (by omega))).fr (hf_F10 262 (by omega))).fr (hf_F12 262 (by omega)))⟩, ⟨_, ((hW_F9.fr (hf_F10 255 (by omega))).fr (hf_F12 255 (by omega))), by rw [← (notC_cong har hgt).2]; exact hR_F9⟩, (fun i hi0 hi1 hi2 => (hf_F12 i (by omega)).trans ((hf_F10 i (by omega)).trans ((hp_F9.2 i (by omega)).trans ((hf_F6 i (by omega)).trans ((hg_F4 i (by omega) (by omega)).trans (hg_1 i (by omega) (by omega) (by omega)))))))⟩) dX8_doesAll_58
  · refine lv_iload_n kx kb dX8_doesAll_30 rfl (lv_at hl 0 rfl) ?_
    exact w_iret X h (by have hn0 : ¬ (notC y (cmR (v 3) a p0).2 (c1F ((cmR (v 3) a p0).2, (cmR (v 3) a p0).1.2.2))).1 = 0 := (by rw [← (notC_cong har hgt).1]; exact c_7); have eT := (notC_cong har hgt (x := y)).1; have eD : (dlF (psF (v0 3) a 61 0).2.2 0 x) = (notC y (cmR (v 3) a p0).2 (c1F ((cmR (v 3) a p0).2, (cmR (v 3) a p0).1.2.2)), k, y) := (by rw [← hv3, ← hX2, psF, if_pos hcm]; split; exact if_neg hn0; exact if_neg hn0); rw [eD, ← eT]; exact ⟨rfl, ⟨_, ((cmR (v 3) a p0).1.2.1), _, by rw [← hvv]; exact hm_F6, (hM_F4.fr (hf_F6 262 (by omega)))⟩, ⟨_, ((hW1.fr (hg_F4 255 (by omega) (by omega))).fr (hf_F6 255 (by omega))), hR1⟩, (fun i hi0 hi1 hi2 => (hf_F6 i (by omega)).trans ((hg_F4 i (by omega) (by omega)).trans (hg_1 i (by omega) (by omega) (by omega))))⟩) dX8_doesAll_31
