/-! the reference's rows, with what they tell -/
def oX (g : gT) (F : Nat → va_E) (i : Nat) (x : SX) : Prop := ∃ W, arI g F i 274 W ∧ RW x W
theorem oX.fr {g : gT} {F F' : Nat → va_E} {i : Nat} {x : SX} (h : oX g F i x) (e : F' i = F i) : oX g F' i x := by obtain ⟨W, h1, h2⟩ := h; exact ⟨W, h1.fr e, h2⟩
def oU (g : gT) (F : Nat → va_E) (hs : Nat → SX) (f c : Nat) : Prop := ∃ U, arI g F 256 2192 U ∧ ∀ i, i < c → RW (hs i) (fun j => U (274 * ((f + i) % 8) + j))
theorem oU.fr {g : gT} {F F' : Nat → va_E} {hs : Nat → SX} {f c : Nat} (h : oU g F hs f c) (e : F' 256 = F 256) : oU g F' hs f c := by obtain ⟨U, h1, h2⟩ := h; exact ⟨U, h1.fr e, h2⟩
theorem upd_swap {a : Nat → Int32} {k j : Nat} {v w : Int32} (h : k ≠ j) : upd (upd a k v) j w = upd (upd a j w) k v := by
  funext i
  simp only [upd]
  by_cases h1 : i = k
  · by_cases h2 : i = j
    · exact absurd (h1.symm.trans h2) h
    · simp [h1, h]
  · by_cases h2 : i = j <;> simp [h1, h2, h, Ne.symm h]
def hPush (hs : Nat → SX) (c : Nat) (x : SX) : Nat → SX := fun i => if i = min c 7 then x else if c = 8 then hs (i + 1) else hs i
def vKeep (v : Nat → Nat) : Nat → Nat := fun i => match i with
  | 0 => min 8 (v 0 + 1)
  | 1 => if v 0 = 8 then (v 1 + 1) % 8 else v 1
  | i => v i
set_option maxRecDepth 20000 in
theorem c_X8_comes (l : Launch) (g : gT) {N : Nat} {ad : Nat → Nat} {F : Nat → va_E} (u : Nat → Int32) (v : Nat → Nat) (hm : oM g N ad F u v) (x : SX) (hI : Inv x) (W : Nat → Int32) (hW : arI g F 255 274 W) (hR : RW x W) (wl dp sg wt : Int32) (hn : x.1 < 12) : CtI l yX8_comes cX8_comes 6 (some .int) 0 0 g N ad F [.ref (ad 254), .int wl, .int dp, .int sg, .int wt] (fun r F' => r = nI (x.1) ∧ oX g F' 255 (xCome x wl dp sg wt) ∧ ∀ i, i ≠ 255 → F' i = F i) := by
  refine CtI_of (by decide) (Nat.le_of_ble_eq_true rfl) ?_
  intro p e s m args below meth c A H ls X M h hl
  have kx := X.1.1
  have kb := X.1.2.1
  have hl : lv_has ls 6 [(0, .ref (ad 254)), (1, .int wl), (2, .int dp), (3, .int sg), (4, .int wt)] := hl
  have hN0 := hm.1
  have hn12 := hI.n
  have htn64 := hI.tn
  refine lv_bipush (v := nI 22) kx kb dX8_comes_0 (by decide) ?_
  refine lv_iconst (v := nI 5) kx kb dX8_comes_2 (by decide) ?_
  refine lv_aload_n kx kb dX8_comes_3 rfl (lv_at hl 0 rfl) ?_
  refine w_get X M h 254 hm.2 (by omega) fl_X8_32 rfl dX8_comes_4 ?_
  refine lv_iconst (v := nI 0) kx kb dX8_comes_7 (by decide) ?_
  refine w_iald X M h 255 hW (by omega) (0) (rfl) (by omega) (by omega) dX8_comes_8 ?_
  refine w_top (y := nI x.1) (hR.n) ?_
  refine w_muln kx kb dX8_comes_9 ?_
  refine w_addn kx kb dX8_comes_10 ?_
  refine lv_istore (lv' := [(5, .int (nI (22 + (5 * x.1)))), (0, .ref (ad 254)), (1, .int wl), (2, .int dp), (3, .int sg), (4, .int wt)]) kx kb dX8_comes_11 hl (by decide) rfl (fun ls hl => ?_)
  refine lv_aload_n kx kb dX8_comes_13 rfl (lv_at hl 1 rfl) ?_
  refine w_get X M h 254 hm.2 (by omega) fl_X8_32 rfl dX8_comes_14 ?_
  refine lv_iload kx kb dX8_comes_17 (lv_at hl 0 rfl) ?_
  refine lv_iconst (v := nI 0) kx kb dX8_comes_19 (by decide) ?_
  refine w_addn kx kb dX8_comes_20 ?_
  refine lv_iload_n kx kb dX8_comes_21 rfl (lv_at hl 2 rfl) ?_
  refine w_iast X M h 255 hW (by omega) (22 + (5 * x.1) + 0) (rfl) (by omega) (by omega) dX8_comes_22 (fun F1 H locs h he_F1 hf_F1 => ?_)
  refine lv_aload_n kx kb dX8_comes_23 rfl (lv_at hl 1 rfl) ?_
  refine w_get X M h 254 ((hf_F1 254 (by omega)).trans hm.2) (by omega) fl_X8_32 rfl dX8_comes_24 ?_
  refine lv_iload kx kb dX8_comes_27 (lv_at hl 0 rfl) ?_
  refine lv_iconst (v := nI 1) kx kb dX8_comes_29 (by decide) ?_
  refine w_addn kx kb dX8_comes_30 ?_
  refine lv_iload_n kx kb dX8_comes_31 rfl (lv_at hl 3 rfl) ?_
  refine w_iast X M h 255 he_F1 (by omega) (22 + (5 * x.1) + 1) (rfl) (by omega) (by omega) dX8_comes_32 (fun F2 H locs h he_F2 hf_F2 => ?_)
  refine lv_aload_n kx kb dX8_comes_33 rfl (lv_at hl 1 rfl) ?_
  refine w_get X M h 254 ((hf_F2 254 (by omega)).trans ((hf_F1 254 (by omega)).trans hm.2)) (by omega) fl_X8_32 rfl dX8_comes_34 ?_
  refine lv_iload kx kb dX8_comes_37 (lv_at hl 0 rfl) ?_
  refine lv_iconst (v := nI 2) kx kb dX8_comes_39 (by decide) ?_
  refine w_addn kx kb dX8_comes_40 ?_
  refine lv_iload_n kx kb dX8_comes_41 rfl (lv_at hl 4 rfl) ?_
  refine w_iast X M h 255 he_F2 (by omega) (22 + (5 * x.1) + 2) (rfl) (by omega) (by omega) dX8_comes_42 (fun F3 H locs h he_F3 hf_F3 => ?_)
  refine lv_aload_n kx kb dX8_comes_43 rfl (lv_at hl 1 rfl) ?_
  refine w_get X M h 254 ((hf_F3 254 (by omega)).trans ((hf_F2 254 (by omega)).trans ((hf_F1 254 (by omega)).trans hm.2))) (by omega) fl_X8_32 rfl dX8_comes_44 ?_
  refine lv_iload kx kb dX8_comes_47 (lv_at hl 0 rfl) ?_
  refine lv_iconst (v := nI 3) kx kb dX8_comes_49 (by decide) ?_
  refine w_addn kx kb dX8_comes_50 ?_
  refine lv_iload kx kb dX8_comes_51 (lv_at hl 5 rfl) ?_
  refine w_iast X M h 255 he_F3 (by omega) (22 + (5 * x.1) + 3) (rfl) (by omega) (by omega) dX8_comes_53 (fun F4 H locs h he_F4 hf_F4 => ?_)
  refine lv_aload_n kx kb dX8_comes_54 rfl (lv_at hl 1 rfl) ?_
  refine w_get X M h 254 ((hf_F4 254 (by omega)).trans ((hf_F3 254 (by omega)).trans ((hf_F2 254 (by omega)).trans ((hf_F1 254 (by omega)).trans hm.2)))) (by omega) fl_X8_32 rfl dX8_comes_55 ?_
  refine lv_iload kx kb dX8_comes_58 (lv_at hl 0 rfl) ?_
  refine lv_iconst (v := nI 4) kx kb dX8_comes_60 (by decide) ?_
  refine w_addn kx kb dX8_comes_61 ?_
  refine lv_iconst (v := nI 0) kx kb dX8_comes_62 (by decide) ?_
  refine w_iast X M h 255 he_F4 (by omega) (22 + (5 * x.1) + 4) (rfl) (by omega) (by omega) dX8_comes_63 (fun F5 H locs h he_F5 hf_F5 => ?_)
  refine lv_aload_n kx kb dX8_comes_64 rfl (lv_at hl 1 rfl) ?_
  refine w_get X M h 254 ((hf_F5 254 (by omega)).trans ((hf_F4 254 (by omega)).trans ((hf_F3 254 (by omega)).trans ((hf_F2 254 (by omega)).trans ((hf_F1 254 (by omega)).trans hm.2))))) (by omega) fl_X8_32 rfl dX8_comes_65 ?_
  refine lv_bipush (v := nI 7) kx kb dX8_comes_68 (by decide) ?_
  refine lv_dup2_11 kx kb dX8_comes_70 rfl rfl ?_
  refine w_iald X M h 255 he_F5 (by omega) (7) (rfl) (by omega) (by omega) dX8_comes_71 ?_
  refine w_top (y := nI (x.2.2.2.2.2.2.2 5)) (by rw [upd_ne (by omega), upd_ne (by omega), upd_ne (by omega), upd_ne (by omega), upd_ne (by omega)]; exact hR.c 0 (by omega)) ?_
  refine lv_iconst (v := nI 1) kx kb dX8_comes_72 (by decide) ?_
  refine w_addn kx kb dX8_comes_73 ?_
  refine w_iast X M h 255 he_F5 (by omega) (7) (rfl) (by omega) (by omega) dX8_comes_74 (fun F6 H locs h he_F6 hf_F6 => ?_)
  refine lv_aload_n kx kb dX8_comes_75 rfl (lv_at hl 1 rfl) ?_
  refine w_get X M h 254 ((hf_F6 254 (by omega)).trans ((hf_F5 254 (by omega)).trans ((hf_F4 254 (by omega)).trans ((hf_F3 254 (by omega)).trans ((hf_F2 254 (by omega)).trans ((hf_F1 254 (by omega)).trans hm.2)))))) (by omega) fl_X8_32 rfl dX8_comes_76 ?_
  refine lv_iconst (v := nI 0) kx kb dX8_comes_79 (by decide) ?_
  refine lv_dup2_11 kx kb dX8_comes_80 rfl rfl ?_
  refine w_iald X M h 255 he_F6 (by omega) (0) (rfl) (by omega) (by omega) dX8_comes_81 ?_
  refine w_top (y := nI x.1) (by rw [upd_ne (by omega), upd_ne (by omega), upd_ne (by omega), upd_ne (by omega), upd_ne (by omega), upd_ne (by omega)]; exact hR.n) ?_
  refine lv_iconst (v := nI 1) kx kb dX8_comes_82 (by decide) ?_
  refine w_addn kx kb dX8_comes_83 ?_
  refine w_iast X M h 255 he_F6 (by omega) (0) (rfl) (by omega) (by omega) dX8_comes_84 (fun F7 H locs h he_F7 hf_F7 => ?_)
  refine lv_aload_n kx kb dX8_comes_85 rfl (lv_at hl 1 rfl) ?_
  refine w_get X M h 254 ((hf_F7 254 (by omega)).trans ((hf_F6 254 (by omega)).trans ((hf_F5 254 (by omega)).trans ((hf_F4 254 (by omega)).trans ((hf_F3 254 (by omega)).trans ((hf_F2 254 (by omega)).trans ((hf_F1 254 (by omega)).trans hm.2))))))) (by omega) fl_X8_32 rfl dX8_comes_86 ?_
  refine lv_iconst (v := nI 0) kx kb dX8_comes_89 (by decide) ?_
  refine w_iald X M h 255 he_F7 (by omega) (0) (rfl) (by omega) (by omega) dX8_comes_90 ?_
  refine w_top (y := nI (x.1 + 1)) (upd_eq rfl) ?_
  refine lv_iconst (v := nI 1) kx kb dX8_comes_91 (by decide) ?_
  refine w_subn kx kb (by omega) dX8_comes_92 ?_
  exact w_iret X h ⟨by simp [pk_sub], ⟨_, he_F7, by rw [upd_swap (show 7 ≠ 0 by decide)]; exact RW.setc (RW.addj hR wl dp sg wt hn) 0 _ (by omega)⟩, (fun i hi => (hf_F7 i (by omega)).trans ((hf_F6 i (by omega)).trans ((hf_F5 i (by omega)).trans ((hf_F4 i (by omega)).trans ((hf_F3 i (by omega)).trans ((hf_F2 i (by omega)).trans (hf_F1 i (by omega))))))))⟩ dX8_comes_93
set_option maxRecDepth 20000 in
theorem c_X8_primes (l : Launch) (g : gT) {N : Nat} {ad : Nat → Nat} {F : Nat → va_E} (u : Nat → Int32) (v : Nat → Nat) (hm : oM g N ad F u v) (x : SX) (hI : Inv x) (W : Nat → Int32) (hW : arI g F 255 274 W) (hR : RW x W) (k : Nat) (hk : k < x.1) (h4 : 0 < x.2.2.2.2.2.2.2 4) : CtI l yX8_primes cX8_primes 2 (some .int) 0 0 g N ad F [.ref (ad 254), .int (nI k)] (fun r F' => r = nI (x.2.2.2.2.2.2.2 4 - 1) ∧ oX g F' 255 (xPrime x k) ∧ ∀ i, i ≠ 255 → F' i = F i) := by
  refine CtI_of (by decide) (Nat.le_of_ble_eq_true rfl) ?_
  intro p e s m args below meth c A H ls X M h hl
  have kx := X.1.1
  have kb := X.1.2.1
  have hl : lv_has ls 2 [(0, .ref (ad 254)), (1, .int (nI k))] := hl
  have hN0 := hm.1
  have hn12 := hI.n
  have htn64 := hI.tn
  obtain ⟨hz0, hz1a, hz1, hz2, hz3, hz4⟩ := hI.zz
  refine lv_aload_n kx kb dX8_primes_0 rfl (lv_at hl 0 rfl) ?_
  refine w_get X M h 254 hm.2 (by omega) fl_X8_32 rfl dX8_primes_1 ?_
  refine lv_bipush (v := nI 22) kx kb dX8_primes_4 (by decide) ?_
  refine lv_iconst (v := nI 5) kx kb dX8_primes_6 (by decide) ?_
  refine lv_iload_n kx kb dX8_primes_7 rfl (lv_at hl 1 rfl) ?_
  refine w_muln kx kb dX8_primes_8 ?_
  refine w_addn kx kb dX8_primes_9 ?_
  refine lv_iconst (v := nI 4) kx kb dX8_primes_10 (by decide) ?_
  refine w_addn kx kb dX8_primes_11 ?_
  refine lv_iconst (v := nI 1) kx kb dX8_primes_12 (by decide) ?_
  refine w_iast X M h 255 hW (by omega) (22 + (5 * k) + 4) (rfl) (by omega) (by omega) dX8_primes_13 (fun F1 H locs h he_F1 hf_F1 => ?_)
  have hR_p : RW (xPr1 x k) (upd W (22 + (5 * k) + 4) (nI 1)) := hR.setp k hk hn12
  refine lv_aload_n kx kb dX8_primes_14 rfl (lv_at hl 0 rfl) ?_
  refine w_get X M h 254 ((hf_F1 254 (by omega)).trans hm.2) (by omega) fl_X8_32 rfl dX8_primes_15 ?_
  refine lv_iconst (v := nI 5) kx kb dX8_primes_18 (by decide) ?_
  refine lv_dup2_11 kx kb dX8_primes_19 rfl rfl ?_
  refine w_iald X M h 255 he_F1 (by omega) (5) (rfl) (by omega) (by omega) dX8_primes_20 ?_
  refine w_top (y := nI (x.2.2.2.2.2.2.2 4)) (hR_p.z 4 (by omega)) ?_
  refine lv_iconst (v := nI 1) kx kb dX8_primes_21 (by decide) ?_
  refine w_subn kx kb (by omega) dX8_primes_22 ?_
  refine w_iast X M h 255 he_F1 (by omega) (5) (rfl) (by omega) (by omega) dX8_primes_23 (fun F2 H locs h he_F2 hf_F2 => ?_)
  have hR_3 : RW (xZ (xPr1 x k) (zUp x.2.2.2.2.2.2.2 4 ((x.2.2.2.2.2.2.2 4) - 1))) (upd (upd W (22 + (5 * k) + 4) (nI 1)) 5 (nI ((x.2.2.2.2.2.2.2 4) - 1))) := RW.setz hR_p 4 ((x.2.2.2.2.2.2.2 4) - 1) (by omega)
  refine lv_aload_n kx kb dX8_primes_24 rfl (lv_at hl 0 rfl) ?_
  refine w_get X M h 254 ((hf_F2 254 (by omega)).trans ((hf_F1 254 (by omega)).trans hm.2)) (by omega) fl_X8_32 rfl dX8_primes_25 ?_
  refine lv_iconst (v := nI 5) kx kb dX8_primes_28 (by decide) ?_
  refine w_iald X M h 255 he_F2 (by omega) (5) (rfl) (by omega) (by omega) dX8_primes_29 ?_
  refine w_top (y := nI ((x.2.2.2.2.2.2.2 4) - 1)) (hR_3.z 4 (by omega)) ?_
  exact w_iret X h ⟨rfl, ⟨_, he_F2, hR_3⟩, (fun i hi => (hf_F2 i (by omega)).trans (hf_F1 i (by omega)))⟩ dX8_primes_30
set_option maxRecDepth 20000 in
theorem c_X8_tells (l : Launch) (g : gT) {N : Nat} {ad : Nat → Nat} {F : Nat → va_E} (u : Nat → Int32) (v : Nat → Nat) (hm : oM g N ad F u v) (W : Nat → Int32) (hW : arI g F 255 274 W) (i : Nat) (hi : i < 274) (a : Int32) : CtI l yX8_tells cX8_tells 4 (some .int) 0 0 g N ad F [.ref (ad 254), .int (nI i), .int a] (fun r F' => r = W i ∧ arI g F' 255 274 (upd W i a) ∧ ∀ j, j ≠ 255 → F' j = F j) := by
  refine CtI_of (by decide) (Nat.le_of_ble_eq_true rfl) ?_
  intro p e s m args below meth c A H ls X M h hl
  have kx := X.1.1
  have kb := X.1.2.1
  have hl : lv_has ls 4 [(0, .ref (ad 254)), (1, .int (nI i)), (2, .int a)] := hl
  have hN0 := hm.1
  refine lv_aload_n kx kb dX8_tells_0 rfl (lv_at hl 0 rfl) ?_
  refine w_get X M h 254 hm.2 (by omega) fl_X8_32 rfl dX8_tells_1 ?_
  refine lv_iload_n kx kb dX8_tells_4 rfl (lv_at hl 1 rfl) ?_
  refine w_iald X M h 255 hW (by omega) (i) (rfl) (by omega) (by omega) dX8_tells_5 ?_
  refine lv_istore_n (lv' := [(3, .int (W i)), (0, .ref (ad 254)), (1, .int (nI i)), (2, .int a)]) kx kb dX8_tells_6 rfl hl (by decide) rfl (fun ls hl => ?_)
  refine lv_aload_n kx kb dX8_tells_7 rfl (lv_at hl 1 rfl) ?_
  refine w_get X M h 254 hm.2 (by omega) fl_X8_32 rfl dX8_tells_8 ?_
  refine lv_iload_n kx kb dX8_tells_11 rfl (lv_at hl 2 rfl) ?_
  refine lv_iload_n kx kb dX8_tells_12 rfl (lv_at hl 3 rfl) ?_
  refine w_iast X M h 255 hW (by omega) (i) (rfl) (by omega) (by omega) dX8_tells_13 (fun F1 H locs h he_F1 hf_F1 => ?_)
  refine lv_iload_n kx kb dX8_tells_14 rfl (lv_at hl 0 rfl) ?_
  exact w_iret X h ⟨rfl, he_F1, (fun j hj => hf_F1 j (by omega))⟩ dX8_tells_15
set_option maxRecDepth 20000 in
theorem c_X8_goes (l : Launch) (g : gT) {N : Nat} {ad : Nat → Nat} {F : Nat → va_E} (u : Nat → Int32) (v : Nat → Nat) (hm : oM g N ad F u v) (x : SX) (hn12 : x.1 ≤ 12) (W : Nat → Int32) (hW : arI g F 255 274 W) (hR : RW x W) (k : Nat) (hk : k < x.1) : CtV l yX8_goes cX8_goes 4 none 0 0 g N ad F [.ref (ad 254), .int (nI k)] (fun F' => oX g F' 255 (xOut1 x k) ∧ ∀ i, i ≠ 255 → F' i = F i) := by
  refine CtV_of (by decide) (Nat.le_of_ble_eq_true rfl) ?_
  intro p e s m args below meth c A H ls X M h hl
  have kx := X.1.1
  have kb := X.1.2.1
  have hl : lv_has ls 4 [(0, .ref (ad 254)), (1, .int (nI k))] := hl
  have hN0 := hm.1
  refine lv_aload_n kx kb dX8_goes_0 rfl (lv_at hl 0 rfl) ?_
  refine w_get X M h 254 hm.2 (by omega) fl_X8_32 rfl dX8_goes_1 ?_
  refine lv_iconst (v := nI 0) kx kb dX8_goes_4 (by decide) ?_
  refine lv_dup2_11 kx kb dX8_goes_5 rfl rfl ?_
  refine w_iald X M h 255 hW (by omega) (0) (rfl) (by omega) (by omega) dX8_goes_6 ?_
  refine w_top (y := nI x.1) (hR.n) ?_
  refine lv_iconst (v := nI 1) kx kb dX8_goes_7 (by decide) ?_
  refine w_subn kx kb (by omega) dX8_goes_8 ?_
  refine w_iast X M h 255 hW (by omega) (0) (rfl) (by omega) (by omega) dX8_goes_9 (fun F1 H locs h he_F1 hf_F1 => ?_)
  refine lv_bipush (v := nI 22) kx kb dX8_goes_10 (by decide) ?_
  refine lv_iconst (v := nI 5) kx kb dX8_goes_12 (by decide) ?_
  refine lv_aload_n kx kb dX8_goes_13 rfl (lv_at hl 0 rfl) ?_
  refine w_get X M h 254 ((hf_F1 254 (by omega)).trans hm.2) (by omega) fl_X8_32 rfl dX8_goes_14 ?_
  refine lv_iconst (v := nI 0) kx kb dX8_goes_17 (by decide) ?_
  refine w_iald X M h 255 he_F1 (by omega) (0) (rfl) (by omega) (by omega) dX8_goes_18 ?_
  refine w_top (y := nI (x.1 - 1)) (upd_eq rfl) ?_
  refine w_muln kx kb dX8_goes_19 ?_
  refine w_addn kx kb dX8_goes_20 ?_
  refine lv_istore_n (lv' := [(2, .int (nI (22 + (5 * (x.1 - 1))))), (0, .ref (ad 254)), (1, .int (nI k))]) kx kb dX8_goes_21 rfl hl (by decide) rfl (fun ls hl => ?_)
  refine lv_bipush (v := nI 22) kx kb dX8_goes_22 (by decide) ?_
  refine lv_iconst (v := nI 5) kx kb dX8_goes_24 (by decide) ?_
  refine lv_iload_n kx kb dX8_goes_25 rfl (lv_at hl 2 rfl) ?_
  refine w_muln kx kb dX8_goes_26 ?_
  refine w_addn kx kb dX8_goes_27 ?_
  refine lv_istore_n (lv' := [(3, .int (nI (22 + (5 * k)))), (2, .int (nI (22 + (5 * (x.1 - 1))))), (0, .ref (ad 254)), (1, .int (nI k))]) kx kb dX8_goes_28 rfl hl (by decide) rfl (fun ls hl => ?_)
  refine w_loop3 (fun (i : Nat) (F1 : Nat → va_E) (W1 : Nat → Int32) => 22 + 5 * (x.1 - 1) - i) (fun (i : Nat) (F1 : Nat → va_E) (W1 : Nat → Int32) H locs ls => Hx g N ad F1 A s H locs ∧ lv_has ls 4 [(0, .ref (ad 254)), (1, .int (nI k)), (2, .int (nI (22 + 5 * (x.1 - 1)))), (3, .int (nI i))] ∧ (22 + 5 * k ≤ i) ∧ (i ≤ 22 + 5 * (x.1 - 1)) ∧ (arI g F1 255 274 W1) ∧ (∀ q, q ≠ 255 → F1 q = F q) ∧ (W1 0 = nI (x.1 - 1)) ∧ (∀ q, (1 ≤ q ∧ q < 22 + 5 * k) ∨ 82 ≤ q → W1 q = W q) ∧ (∀ q, 22 + 5 * k ≤ q → q < i → W1 q = W (q + 5)) ∧ (∀ q, i ≤ q → W1 q = W q)) ?_ (22 + 5 * k) F1 (upd W 0 (nI (x.1 - 1))) ⟨h, lv_sub hl [2, 3, 1, 0] rfl, by omega, by omega, he_F1, (fun q hq => hf_F1 q (by omega)), upd_eq rfl, fun q hq => upd_ne (by omega), fun q h1 h2 => absurd h2 (by omega), fun q hq => upd_ne (by omega)⟩
  intro i F1 W1 H locs ls hinv ih
  obtain ⟨h, hl, hi1, hi2, hW1, hf1, h0, h1, h2, h3⟩ := hinv
  refine lv_iload_n kx kb dX8_goes_29 rfl (lv_at hl 3 rfl) ?_
  refine lv_iload_n kx kb dX8_goes_30 rfl (lv_at hl 2 rfl) ?_
  refine w_cmp_ge (tgt := 54) kx kb (by omega) (by omega) dX8_goes_31 (by decide) (fun c_2 => ?_) (fun c_2 => ?_)
  · refine lv_iconst (v := nI 0) kx kb dX8_goes_54 (by decide) ?_
    refine lv_istore_n (lv' := [(3, .int (nI 0)), (0, .ref (ad 254)), (1, .int (nI k)), (2, .int (nI (22 + 5 * (x.1 - 1))))]) kx kb dX8_goes_55 rfl hl (by decide) rfl (fun ls hl => ?_)
    refine w_loop3 (fun (j : Nat) (F2 : Nat → va_E) (W2 : Nat → Int32) => 5 - j) (fun (j : Nat) (F2 : Nat → va_E) (W2 : Nat → Int32) H locs ls => Hx g N ad F2 A s H locs ∧ lv_has ls 4 [(0, .ref (ad 254)), (1, .int (nI k)), (2, .int (nI (22 + 5 * (x.1 - 1)))), (3, .int (nI j))] ∧ (j ≤ 5) ∧ (arI g F2 255 274 W2) ∧ (∀ q, q ≠ 255 → F2 q = F q) ∧ (W2 0 = nI (x.1 - 1)) ∧ (∀ q, (1 ≤ q ∧ q < 22 + 5 * k) ∨ 82 ≤ q → W2 q = W q) ∧ (∀ q, 22 + 5 * k ≤ q → q < 22 + 5 * (x.1 - 1) → W2 q = W (q + 5))) ?_ 0 F1 W1 ⟨h, lv_sub hl [1, 2, 3, 0] rfl, by omega, hW1, hf1, h0, h1, fun q g1 g2 => h2 q g1 (by omega)⟩
    intro j F2 W2 H locs ls hinv ih
    obtain ⟨h, hl, hj, hW2, hf2, k0, k1, k2⟩ := hinv
    refine lv_iload_n kx kb dX8_goes_56 rfl (lv_at hl 3 rfl) ?_
    refine lv_iconst (v := nI 5) kx kb dX8_goes_57 (by decide) ?_
    refine w_cmp_ge (tgt := 76) kx kb (by omega) (by omega) dX8_goes_58 (by decide) (fun c_3 => ?_) (fun c_3 => ?_)
    · exact w_vret X h ⟨⟨W2, hW2, hR.out k hk hn12 k0 k1 k2⟩, fun i hi => hf2 i hi⟩ dX8_goes_76
    · refine lv_aload_n kx kb dX8_goes_61 rfl (lv_at hl 0 rfl) ?_
      refine w_get X M h 254 ((hm.fr (hf2 254 (by omega))).2) (by omega) fl_X8_32 rfl dX8_goes_62 ?_
      refine lv_iload_n kx kb dX8_goes_65 rfl (lv_at hl 2 rfl) ?_
      refine lv_iload_n kx kb dX8_goes_66 rfl (lv_at hl 3 rfl) ?_
      refine w_addn kx kb dX8_goes_67 ?_
      refine lv_iconst (v := nI 0) kx kb dX8_goes_68 (by decide) ?_
      refine w_iast X M h 255 hW2 (by omega) (22 + 5 * (x.1 - 1) + j) (rfl) (by omega) (by omega) dX8_goes_69 (fun F4 H locs h he_F4 hf_F4 => ?_)
      refine lv_iinc (v := nI (j + 1)) (lv' := [(3, .int (nI (j + 1))), (0, .ref (ad 254)), (1, .int (nI k)), (2, .int (nI (22 + 5 * (x.1 - 1))))]) kx kb dX8_goes_70 hl (k := 3) rfl (nI_add _ _) (by decide) rfl (fun ls hl => ?_)
      refine lv_goto (tgt := 56) kx kb dX8_goes_73 (by decide) ?_
      exact ih (j + 1) F4 (upd W2 (22 + 5 * (x.1 - 1) + j) (nI 0)) _ _ _ ⟨h, lv_sub hl [1, 2, 3, 0] rfl, by omega, he_F4, (fun q hq => (hf_F4 q (by omega)).trans (hf2 q (by omega))), by rw [upd_ne (by omega)]; exact k0, fun q hq => by rw [upd_ne (by omega)]; exact k1 q hq, fun q g1 g2 => by rw [upd_ne (by omega)]; exact k2 q g1 g2⟩ (by omega)
  · refine lv_aload_n kx kb dX8_goes_34 rfl (lv_at hl 0 rfl) ?_
    refine w_get X M h 254 ((hm.fr (hf1 254 (by omega))).2) (by omega) fl_X8_32 rfl dX8_goes_35 ?_
    refine lv_iload_n kx kb dX8_goes_38 rfl (lv_at hl 3 rfl) ?_
    refine lv_aload_n kx kb dX8_goes_39 rfl (lv_at hl 0 rfl) ?_
    refine w_get X M h 254 ((hm.fr (hf1 254 (by omega))).2) (by omega) fl_X8_32 rfl dX8_goes_40 ?_
    refine lv_iload_n kx kb dX8_goes_43 rfl (lv_at hl 3 rfl) ?_
    refine lv_iconst (v := nI 5) kx kb dX8_goes_44 (by decide) ?_
    refine w_addn kx kb dX8_goes_45 ?_
    refine w_iald X M h 255 hW1 (by omega) (i + 5) (rfl) (by omega) (by omega) dX8_goes_46 ?_
    refine w_iast X M h 255 hW1 (by omega) (i) (rfl) (by omega) (by omega) dX8_goes_47 (fun F5 H locs h he_F5 hf_F5 => ?_)
    refine lv_iinc (v := nI (i + 1)) (lv' := [(3, .int (nI (i + 1))), (0, .ref (ad 254)), (1, .int (nI k)), (2, .int (nI (22 + 5 * (x.1 - 1))))]) kx kb dX8_goes_48 hl (k := 3) rfl (nI_add _ _) (by decide) rfl (fun ls hl => ?_)
    refine lv_goto (tgt := 29) kx kb dX8_goes_51 (by decide) ?_
    exact ih (i + 1) F5 (upd W1 i (W1 (i + 5))) _ _ _ ⟨h, lv_sub hl [1, 2, 3, 0] rfl, by omega, by omega, he_F5, (fun q hq => (hf_F5 q (by omega)).trans (hf1 q (by omega))), by rw [upd_ne (by omega)]; exact h0, fun q hq => by rw [upd_ne (by omega)]; exact h1 q hq, fun q g1 g2 => by
        by_cases e : q = i
        · subst e; rw [upd_eq rfl]; exact h3 _ (by omega)
        · rw [upd_ne e]; exact h2 q g1 (by omega), fun q hq => by rw [upd_ne (by omega)]; exact h3 q (by omega)⟩ (by omega)
set_option maxRecDepth 20000 in
theorem c_X8_drops (l : Launch) (g : gT) {N : Nat} {ad : Nat → Nat} {F : Nat → va_E} (u : Nat → Int32) (v : Nat → Nat) (hm : oM g N ad F u v) (x : SX) (hI : Inv x) (W : Nat → Int32) (hW : arI g F 255 274 W) (hR : RW x W) (k : Nat) (hk : k < x.1) : CtI l yX8_drops cX8_drops 2 (some .int) 1 23 g N ad F [.ref (ad 254), .int (nI k)] (fun r F' => r = nI (x.1 - 1) ∧ oX g F' 255 (xGo x k) ∧ ∀ i, i ≠ 255 → F' i = F i) := by
  refine CtI_of (by decide) (Nat.le_of_ble_eq_true rfl) ?_
  intro p e s m args below meth c A H ls X M h hl
  have kx := X.1.1
  have kb := X.1.2.1
  have hl : lv_has ls 2 [(0, .ref (ad 254)), (1, .int (nI k))] := hl
  have hN0 := hm.1
  have hn12 := hI.n
  have htn64 := hI.tn
  refine lv_aload_n kx kb dX8_drops_0 rfl (lv_at hl 0 rfl) ?_
  refine lv_iload_n kx kb dX8_drops_1 rfl (lv_at hl 1 rfl) ?_
  refine w_callVv X M h [.int (nI k)] [] ((c_X8_goes l g u v ⟨by omega, hm.2⟩ x (by omega) W hW hR k (by omega))) lk_X8_122 hm.2 (by omega) rfl rfl ⟨by decide, by decide⟩ hl ⟨Nat.zero_le _, Nat.zero_le _⟩ (Nat.le_of_ble_eq_true rfl) rfl dX8_drops_2 (fun F1 H locs hp_F1 h => ?_)
  obtain ⟨W_F1, hW_F1, hR_F1⟩ := hp_F1.1
  refine lv_aload_n kx kb dX8_drops_5 rfl (lv_at hl 0 rfl) ?_
  refine w_get X M h 254 ((hp_F1.2 254 (by omega)).trans hm.2) (by omega) fl_X8_32 rfl dX8_drops_6 ?_
  refine lv_bipush (v := nI 8) kx kb dX8_drops_9 (by decide) ?_
  refine lv_dup2_11 kx kb dX8_drops_11 rfl rfl ?_
  refine w_iald X M h 255 hW_F1 (by omega) (8) (rfl) (by omega) (by omega) dX8_drops_12 ?_
  refine w_top (y := nI ((xOut1 x k).2.2.2.2.2.2.2 6)) (hR_F1.c 1 (by omega)) ?_
  refine lv_iconst (v := nI 1) kx kb dX8_drops_13 (by decide) ?_
  refine w_addn kx kb dX8_drops_14 ?_
  refine w_iast X M h 255 hW_F1 (by omega) (8) (rfl) (by omega) (by omega) dX8_drops_15 (fun F2 H locs h he_F2 hf_F2 => ?_)
  have hR_3 : RW (xZ (xOut1 x k) (zUp (xOut1 x k).2.2.2.2.2.2.2 6 ((xOut1 x k).2.2.2.2.2.2.2 6 + 1))) (upd W_F1 8 (nI ((xOut1 x k).2.2.2.2.2.2.2 6 + 1))) := RW.setc hR_F1 1 ((xOut1 x k).2.2.2.2.2.2.2 6 + 1) (by omega)
  refine lv_aload_n kx kb dX8_drops_16 rfl (lv_at hl 0 rfl) ?_
  refine w_get X M h 254 ((hf_F2 254 (by omega)).trans ((hp_F1.2 254 (by omega)).trans hm.2)) (by omega) fl_X8_32 rfl dX8_drops_17 ?_
  refine lv_iconst (v := nI 0) kx kb dX8_drops_20 (by decide) ?_
  refine w_iald X M h 255 he_F2 (by omega) (0) (rfl) (by omega) (by omega) dX8_drops_21 ?_
  refine w_top (y := nI ((xOut1 x k).1)) (hR_3.n) ?_
  exact w_iret X h ⟨rfl, ⟨_, he_F2, hR_3⟩, (fun i hi => (hf_F2 i (by omega)).trans (hp_F1.2 i (by omega)))⟩ dX8_drops_22
set_option maxRecDepth 20000 in
theorem c_X8_drains (l : Launch) (g : gT) {N : Nat} {ad : Nat → Nat} {F : Nat → va_E} (u : Nat → Int32) (v : Nat → Nat) (hm : oM g N ad F u v) (x : SX) (hI : Inv x) (W : Nat → Int32) (hW : arI g F 255 274 W) (hR : RW x W) (k : Nat) (hk : k ≤ x.2.2.2.2.2.2.2 3) : CtI l yX8_drains cX8_drains 2 (some .int) 0 0 g N ad F [.ref (ad 254), .int (nI k)] (fun r F' => r = nI (min 9 (x.2.2.2.2.2.2.2 4 + k / 10)) ∧ oX g F' 255 (xDrain x k) ∧ ∀ i, i ≠ 255 → F' i = F i) := by
  refine CtI_of (by decide) (Nat.le_of_ble_eq_true rfl) ?_
  intro p e s m args below meth c A H ls X M h hl
  have kx := X.1.1
  have kb := X.1.2.1
  have hl : lv_has ls 2 [(0, .ref (ad 254)), (1, .int (nI k))] := hl
  have hN0 := hm.1
  have hn12 := hI.n
  have htn64 := hI.tn
  obtain ⟨hz0, hz1a, hz1, hz2, hz3, hz4⟩ := hI.zz
  refine lv_aload_n kx kb dX8_drains_0 rfl (lv_at hl 0 rfl) ?_
  refine w_get X M h 254 hm.2 (by omega) fl_X8_32 rfl dX8_drains_1 ?_
  refine lv_iconst (v := nI 4) kx kb dX8_drains_4 (by decide) ?_
  refine lv_dup2_11 kx kb dX8_drains_5 rfl rfl ?_
  refine w_iald X M h 255 hW (by omega) (4) (rfl) (by omega) (by omega) dX8_drains_6 ?_
  refine w_top (y := nI (x.2.2.2.2.2.2.2 3)) (hR.z 3 (by omega)) ?_
  refine lv_iload_n kx kb dX8_drains_7 rfl (lv_at hl 1 rfl) ?_
  refine w_subn kx kb (by omega) dX8_drains_8 ?_
  refine w_iast X M h 255 hW (by omega) (4) (rfl) (by omega) (by omega) dX8_drains_9 (fun F1 H locs h he_F1 hf_F1 => ?_)
  have hR_2 : RW (xZ x (zUp x.2.2.2.2.2.2.2 3 ((x.2.2.2.2.2.2.2 3) - k))) (upd W 4 (nI ((x.2.2.2.2.2.2.2 3) - k))) := RW.setz hR 3 ((x.2.2.2.2.2.2.2 3) - k) (by omega)
  refine lv_aload_n kx kb dX8_drains_10 rfl (lv_at hl 0 rfl) ?_
  refine w_get X M h 254 ((hf_F1 254 (by omega)).trans hm.2) (by omega) fl_X8_32 rfl dX8_drains_11 ?_
  refine lv_bipush (v := nI 10) kx kb dX8_drains_14 (by decide) ?_
  refine lv_dup2_11 kx kb dX8_drains_16 rfl rfl ?_
  refine w_iald X M h 255 he_F1 (by omega) (10) (rfl) (by omega) (by omega) dX8_drains_17 ?_
  refine w_top (y := nI (x.2.2.2.2.2.2.2 8)) (hR_2.c 3 (by omega)) ?_
  refine lv_iload_n kx kb dX8_drains_18 rfl (lv_at hl 1 rfl) ?_
  refine w_addn kx kb dX8_drains_19 ?_
  refine w_iast X M h 255 he_F1 (by omega) (10) (rfl) (by omega) (by omega) dX8_drains_20 (fun F3 H locs h he_F3 hf_F3 => ?_)
  have hR_4 : RW (xZ x (zUp (zUp x.2.2.2.2.2.2.2 3 ((x.2.2.2.2.2.2.2 3) - k)) 8 (x.2.2.2.2.2.2.2 8 + k))) (upd (upd W 4 (nI ((x.2.2.2.2.2.2.2 3) - k))) 10 (nI (x.2.2.2.2.2.2.2 8 + k))) := RW.setc hR_2 3 (x.2.2.2.2.2.2.2 8 + k) (by omega)
  refine lv_aload_n kx kb dX8_drains_21 rfl (lv_at hl 0 rfl) ?_
  refine w_get X M h 254 ((hf_F3 254 (by omega)).trans ((hf_F1 254 (by omega)).trans hm.2)) (by omega) fl_X8_32 rfl dX8_drains_22 ?_
  refine lv_iconst (v := nI 5) kx kb dX8_drains_25 (by decide) ?_
  refine lv_dup2_11 kx kb dX8_drains_26 rfl rfl ?_
  refine w_iald X M h 255 he_F3 (by omega) (5) (rfl) (by omega) (by omega) dX8_drains_27 ?_
  refine w_top (y := nI (x.2.2.2.2.2.2.2 4)) (hR_4.z 4 (by omega)) ?_
  refine lv_iload_n kx kb dX8_drains_28 rfl (lv_at hl 1 rfl) ?_
  refine lv_bipush (v := nI 10) kx kb dX8_drains_29 (by decide) ?_
  refine w_divn kx kb (by omega) (by omega) (by omega) dX8_drains_31 ?_
  refine w_addn kx kb dX8_drains_32 ?_
  refine w_iast X M h 255 he_F3 (by omega) (5) (rfl) (by omega) (by omega) dX8_drains_33 (fun F5 H locs h he_F5 hf_F5 => ?_)
  have hR_6 : RW (xZ x (zUp (zUp (zUp x.2.2.2.2.2.2.2 3 ((x.2.2.2.2.2.2.2 3) - k)) 8 (x.2.2.2.2.2.2.2 8 + k)) 4 (x.2.2.2.2.2.2.2 4 + (k / 10)))) (upd (upd (upd W 4 (nI ((x.2.2.2.2.2.2.2 3) - k))) 10 (nI (x.2.2.2.2.2.2.2 8 + k))) 5 (nI (x.2.2.2.2.2.2.2 4 + (k / 10)))) := RW.setz hR_4 4 (x.2.2.2.2.2.2.2 4 + (k / 10)) (by omega)
  refine lv_aload_n kx kb dX8_drains_34 rfl (lv_at hl 0 rfl) ?_
  refine w_get X M h 254 ((hf_F5 254 (by omega)).trans ((hf_F3 254 (by omega)).trans ((hf_F1 254 (by omega)).trans hm.2))) (by omega) fl_X8_32 rfl dX8_drains_35 ?_
  refine lv_iconst (v := nI 5) kx kb dX8_drains_38 (by decide) ?_
  refine w_iald X M h 255 he_F5 (by omega) (5) (rfl) (by omega) (by omega) dX8_drains_39 ?_
  refine w_top (y := nI (x.2.2.2.2.2.2.2 4 + (k / 10))) (hR_6.z 4 (by omega)) ?_
  refine lv_bipush (v := nI 9) kx kb dX8_drains_40 (by decide) ?_
  refine w_cmp_le (tgt := 53) kx kb (by omega) (by omega) dX8_drains_42 (by decide) (fun c_7 => ?_) (fun c_7 => ?_)
  · refine lv_aload_n kx kb dX8_drains_53 rfl (lv_at hl 0 rfl) ?_
    refine w_get X M h 254 ((hf_F5 254 (by omega)).trans ((hf_F3 254 (by omega)).trans ((hf_F1 254 (by omega)).trans hm.2))) (by omega) fl_X8_32 rfl dX8_drains_54 ?_
    refine lv_iconst (v := nI 5) kx kb dX8_drains_57 (by decide) ?_
    refine w_iald X M h 255 he_F5 (by omega) (5) (rfl) (by omega) (by omega) dX8_drains_58 ?_
    refine w_top (y := nI (x.2.2.2.2.2.2.2 4 + (k / 10))) (hR_6.z 4 (by omega)) ?_
    exact w_iret X h ⟨congrArg nI (by omega), ⟨_, he_F5, hR_6.congz (fun j hj => by rcases (show j = 0 ∨ j = 1 ∨ j = 2 ∨ j = 3 ∨ j = 4 ∨ j = 5 ∨ j = 6 ∨ j = 7 ∨ j = 8 by omega) with rfl | rfl | rfl | rfl | rfl | rfl | rfl | rfl | rfl <;> simp [zUp]; omega)⟩, (fun i hi => (hf_F5 i (by omega)).trans ((hf_F3 i (by omega)).trans (hf_F1 i (by omega))))⟩ dX8_drains_59
  · refine lv_aload_n kx kb dX8_drains_45 rfl (lv_at hl 0 rfl) ?_
    refine w_get X M h 254 ((hf_F5 254 (by omega)).trans ((hf_F3 254 (by omega)).trans ((hf_F1 254 (by omega)).trans hm.2))) (by omega) fl_X8_32 rfl dX8_drains_46 ?_
    refine lv_iconst (v := nI 5) kx kb dX8_drains_49 (by decide) ?_
    refine lv_bipush (v := nI 9) kx kb dX8_drains_50 (by decide) ?_
    refine w_iast X M h 255 he_F5 (by omega) (5) (rfl) (by omega) (by omega) dX8_drains_52 (fun F8 H locs h he_F8 hf_F8 => ?_)
    have hR_9 : RW (xZ x (zUp (zUp (zUp (zUp x.2.2.2.2.2.2.2 3 ((x.2.2.2.2.2.2.2 3) - k)) 8 (x.2.2.2.2.2.2.2 8 + k)) 4 (x.2.2.2.2.2.2.2 4 + (k / 10))) 4 9)) (upd (upd (upd (upd W 4 (nI ((x.2.2.2.2.2.2.2 3) - k))) 10 (nI (x.2.2.2.2.2.2.2 8 + k))) 5 (nI (x.2.2.2.2.2.2.2 4 + (k / 10)))) 5 (nI 9)) := RW.setz hR_6 4 9 (by omega)
    refine lv_aload_n kx kb dX8_drains_53 rfl (lv_at hl 0 rfl) ?_
    refine w_get X M h 254 ((hf_F8 254 (by omega)).trans ((hf_F5 254 (by omega)).trans ((hf_F3 254 (by omega)).trans ((hf_F1 254 (by omega)).trans hm.2)))) (by omega) fl_X8_32 rfl dX8_drains_54 ?_
    refine lv_iconst (v := nI 5) kx kb dX8_drains_57 (by decide) ?_
    refine w_iald X M h 255 he_F8 (by omega) (5) (rfl) (by omega) (by omega) dX8_drains_58 ?_
    refine w_top (y := nI 9) (hR_9.z 4 (by omega)) ?_
    exact w_iret X h ⟨congrArg nI (by omega), ⟨_, he_F8, hR_9.congz (fun j hj => by rcases (show j = 0 ∨ j = 1 ∨ j = 2 ∨ j = 3 ∨ j = 4 ∨ j = 5 ∨ j = 6 ∨ j = 7 ∨ j = 8 by omega) with rfl | rfl | rfl | rfl | rfl | rfl | rfl | rfl | rfl <;> simp [zUp]; omega)⟩, (fun i hi => (hf_F8 i (by omega)).trans ((hf_F5 i (by omega)).trans ((hf_F3 i (by omega)).trans (hf_F1 i (by omega)))))⟩ dX8_drains_59
set_option maxRecDepth 20000 in
theorem c_X8_moves (l : Launch) (g : gT) {N : Nat} {ad : Nat → Nat} {F : Nat → va_E} (u : Nat → Int32) (v : Nat → Nat) (hm : oM g N ad F u v) (x : SX) (hI : Inv x) (W : Nat → Int32) (hW : arI g F 255 274 W) (hR : RW x W) (k : Nat) (hk : k < 4) : CtI l yX8_moves cX8_moves 2 (some .int) 1 23 g N ad F [.ref (ad 254), .int (nI k)] (fun r F' => r = nI (x.2.2.2.2.2.2.2 0) ∧ oX g F' 255 (xZ x (zUp (zUp x.2.2.2.2.2.2.2 0 k) 2 0)) ∧ ∀ i, i ≠ 255 → F' i = F i) := by
  refine CtI_of (by decide) (Nat.le_of_ble_eq_true rfl) ?_
  intro p e s m args below meth c A H ls X M h hl
  have kx := X.1.1
  have kb := X.1.2.1
  have hl : lv_has ls 2 [(0, .ref (ad 254)), (1, .int (nI k))] := hl
  have hN0 := hm.1
  have hn12 := hI.n
  have htn64 := hI.tn
  obtain ⟨hz0, hz1a, hz1, hz2, hz3, hz4⟩ := hI.zz
  refine lv_aload_n kx kb dX8_moves_0 rfl (lv_at hl 0 rfl) ?_
  refine w_get X M h 254 hm.2 (by omega) fl_X8_32 rfl dX8_moves_1 ?_
  refine lv_iconst (v := nI 3) kx kb dX8_moves_4 (by decide) ?_
  refine lv_iconst (v := nI 0) kx kb dX8_moves_5 (by decide) ?_
  refine w_iast X M h 255 hW (by omega) (3) (rfl) (by omega) (by omega) dX8_moves_6 (fun F1 H locs h he_F1 hf_F1 => ?_)
  have hR_2 : RW (xZ x (zUp x.2.2.2.2.2.2.2 2 0)) (upd W 3 (nI 0)) := RW.setz hR 2 0 (by omega)
  refine lv_aload_n kx kb dX8_moves_7 rfl (lv_at hl 0 rfl) ?_
  refine lv_iconst (v := nI 1) kx kb dX8_moves_8 (by decide) ?_
  refine lv_iload_n kx kb dX8_moves_9 rfl (lv_at hl 1 rfl) ?_
  refine w_callVi X M h [.int (nI 1), .int (nI k)] [] ((c_X8_tells l g u v ⟨by omega, ((hf_F1 254 (by omega)).trans hm.2)⟩ (upd W 3 (nI 0)) he_F1 1 (by omega) (nI k))) lk_X8_141 ((hf_F1 254 (by omega)).trans hm.2) (by omega) rfl rfl ⟨by decide, by decide⟩ hl ⟨Nat.zero_le _, Nat.zero_le _⟩ (Nat.le_of_ble_eq_true rfl) rfl dX8_moves_10 (fun r_F3 F3 H locs hp_F3 h => ?_)
  refine w_top (y := (upd W 3 (nI 0)) 1) hp_F3.1 ?_
  refine w_top (y := nI (x.2.2.2.2.2.2.2 0)) (hR_2.z 0 (by omega)) ?_
  have hR_4 : RW (xZ x (zUp (zUp x.2.2.2.2.2.2.2 2 0) 0 k)) (upd (upd W 3 (nI 0)) 1 (nI k)) := RW.setz hR_2 0 k (by omega)
  exact w_iret X h ⟨rfl, ⟨_, hp_F3.2.1, hR_4.congz (fun j hj => by rcases (show j = 0 ∨ j = 1 ∨ j = 2 ∨ j = 3 ∨ j = 4 ∨ j = 5 ∨ j = 6 ∨ j = 7 ∨ j = 8 by omega) with rfl | rfl | rfl | rfl | rfl | rfl | rfl | rfl | rfl <;> simp [zUp])⟩, (fun i hi => (hp_F3.2.2 i (by omega)).trans (hf_F1 i (by omega)))⟩ dX8_moves_13
