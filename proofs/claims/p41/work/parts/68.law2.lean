/-! what an act leaves -/
def AP (g : gT) (N : Nat) (ad : Nat → Nat) (x sv : SX) (hs : Nat → SX) (ct : Nat) (q : Nat → Int32) (r : Int32) (F1 : Nat → va_E) : Prop := ∃ (x' : SX) (hs' : Nat → SX) (ct' : Nat) (q' : Nat → Int32), PZ g N ad F1 x' sv hs' ct' q' 0 ∧ q' 0 = q 0 ∧ (r < 0 → x' = x) ∧ (¬ r < 0 → ct' = min 8 (ct + 1) ∧ hs' = hPush hs ct x)
theorem ap_of_tz {g : gT} {N : Nat} {ad : Nat → Nat} {x sv : SX} {hs : Nat → SX} {ct : Nat} {q : Nat → Int32} {t : NT} {a : Int32} {x' : SX} {r : Int32} {F1 : Nat → va_E} (h : TZ g N ad x sv hs ct q 0 t a x' r F1) : AP g N ad x sv hs ct q r F1 := by
  by_cases e : t.1 = 0
  · obtain ⟨h1, h2, h3⟩ := h.1 e
    refine ⟨x', hPush hs ct x, min 8 (ct + 1), q, h3, rfl, fun z => ?_, fun _ => ⟨rfl, rfl⟩⟩
    rw [h1] at z
    exact absurd z h2
  · obtain ⟨h1, h2, h3⟩ := h.2 e
    refine ⟨x, hs, ct, _, h3, ?_, fun _ => rfl, fun z => ?_⟩
    · split <;> rfl
    · rw [h1] at z
      exact absurd h2 z
theorem ap_of_rd {g : gT} {N : Nat} {ad : Nat → Nat} {x sv : SX} {hs : Nat → SX} {ct : Nat} {q : Nat → Int32} {r : Int32} {F1 : Nat → va_E} (h : ∃ q' : Nat → Int32, q' 0 = q 0 ∧ (r < 0 → PZ g N ad F1 x sv hs ct q' 0) ∧ (¬ r < 0 → ∃ x' : SX, PZ g N ad F1 x' sv (hPush hs ct x) (min 8 (ct + 1)) q' 0)) : AP g N ad x sv hs ct q r F1 := by
  obtain ⟨q', h0, h1, h2⟩ := h
  by_cases e : r < 0
  · exact ⟨x, hs, ct, q', h1 e, h0, fun _ => rfl, fun z => absurd e z⟩
  · obtain ⟨x', h3⟩ := h2 e
    exact ⟨x', hPush hs ct x, min 8 (ct + 1), q', h3, h0, fun z => absurd z e, fun _ => ⟨rfl, rfl⟩⟩
theorem iw_z {x : SX} {wz : Nat} (hw : wz < 4) {pl : Int32} : inWellF x (nI wz) pl = ixO (bdP x.2.1 x.1 (nI wz) pl) x.1 := by
  rw [inWellF, if_pos (inW_n (Nat.zero_le _) (by omega) (by omega))]
theorem jk_1 {x : SX} {a : Nat} (ha : a < x.1) (hn : x.1 ≤ 12) : jokeOfF x (nI a) (nI 1) = x.2.1 1 a := by
  rw [jokeOfF, if_pos (hasJ_n ha (by omega)), if_neg (by decide), if_pos rfl, cl_n (by omega)]
theorem wl_1 {x : SX} {wz : Nat} (hw : wz < 4) : wellOfF x (nI wz) (nI 1) = nI (cnt (cwP x.2.1 (nI wz) (nI 30)) x.1) := by
  rw [wellOfF, if_pos (inW_n (Nat.zero_le _) (by omega) (by omega)), if_neg (by decide), if_pos rfl]
theorem i32_m1 (a : Int32) : a + Int32.ofInt (-1) = a - nI 1 := by
  rw [Int32.sub_eq_add_neg]
  rfl
set_option maxRecDepth 20000 in
theorem c_L_acts (l : Launch) (g : gT) {N : Nat} {ad : Nat → Nat} {F : Nat → va_E} {x sv : SX} {hs : Nat → SX} {ct : Nat} {q : Nat → Int32} (hZ : PZ g N ad F x sv hs ct q 0) (v : Int32)  : CtI l yL_acts cL_acts 4 (some .int) 9 216 g N ad F [.ref (ad 0), .int v] (AP g N ad x sv hs ct q) := by
  refine CtI_of (by decide) (Nat.le_of_ble_eq_true rfl) ?_
  intro p e s m args below meth c A H ls X M h hl
  have kx := X.1.1
  have kb := X.1.2.1
  have hl : lv_has ls 4 [(0, .ref (ad 0)), (1, .int v)] := hl
  obtain ⟨hN, hO⟩ := hZ.o7
  have hI := hZ.1.1
  have hn12 := hI.n
  have htn64 := hI.tn
  obtain ⟨hz0, hz1a, hz1, hz2, hz3, hz4⟩ := hI.zz
  have hct := hZ.2.2.1
  refine lv_iload_n kx kb dL_acts_0 rfl (lv_at hl 1 rfl) ?_
  refine lv_bipush (v := nI 8) kx kb dL_acts_1 (by decide) ?_
  refine lv_ishr kx kb dL_acts_3 ?_
  refine w_ldcI X q2_201 dL_acts_4 ?_
  refine w_top (y := nI 100000) (by decide) ?_
  refine w_readSi X M h [.int (v >>> ((nI 8) &&& 31)), .int (nI 100000)] [] (c_L_chosen l g (v >>> ((nI 8) &&& 31)) 100000 (by omega) (by omega)) lk_L_58 rfl ⟨by decide, by decide⟩ hl ⟨Nat.zero_le _, Nat.zero_le _⟩ (Nat.le_of_ble_eq_true rfl) rfl dL_acts_6 (fun H locs h => ?_)
  obtain ⟨nz, hnz, enz⟩ : ∃ nz : Nat, nz < 100000 ∧ chN (v >>> ((nI 8) &&& 31)) 100000 = nz := ⟨_, chN_lt (by decide), rfl⟩
  rw [enz]
  refine lv_istore_n (lv' := [(2, .int (nI nz)), (0, .ref (ad 0)), (1, .int v)]) kx kb dL_acts_9 rfl hl (by decide) rfl (fun ls hl => ?_)
  refine lv_iconst (v := nI 1) kx kb dL_acts_10 (by decide) ?_
  refine lv_aload_n kx kb dL_acts_11 rfl (lv_at hl 1 rfl) ?_
  refine lv_iconst (v := nI 0) kx kb dL_acts_12 (by decide) ?_
  refine w_readVi X M h [.int (nI 0)] [.int (nI 1)] (z_account l hZ (nI 0)) lk_L_31 hO (by omega) rfl rfl ⟨by decide, by decide⟩ hl ⟨Nat.zero_le _, Nat.zero_le _⟩ (Nat.le_of_ble_eq_true rfl) rfl dL_acts_13 (fun H locs h => ?_)
  refine w_top (y := nI x.1) (acc_k.1) ?_
  refine w_mmaxn X hl q2_202 (by omega) (by omega) ⟨by decide, by decide⟩ (Nat.le_of_ble_eq_true rfl) ⟨Nat.zero_le _, Nat.zero_le _⟩ dL_acts_16 ?_
  refine lv_istore_n (lv' := [(3, .int (nI (max 1 x.1))), (2, .int (nI nz)), (0, .ref (ad 0)), (1, .int v)]) kx kb dL_acts_19 rfl hl (by decide) rfl (fun ls hl => ?_)
  refine lv_iload_n kx kb dL_acts_20 rfl (lv_at hl 3 rfl) ?_
  refine lv_bipush (v := nI 22) kx kb dL_acts_21 (by decide) ?_
  refine w_readSi X M h [.int v, .int (nI 22)] [] (c_L_chosen l g v 22 (by omega) (by omega)) lk_L_58 rfl ⟨by decide, by decide⟩ hl ⟨Nat.zero_le _, Nat.zero_le _⟩ (Nat.le_of_ble_eq_true rfl) rfl dL_acts_23 (fun H locs h => ?_)
  obtain ⟨tz, htz, etz⟩ : ∃ tz : Nat, tz < 22 ∧ chN v 22 = tz := ⟨_, chN_lt (by decide), rfl⟩
  rw [etz]
  rcases sw_of (nI tz) 17 (by decide) with ⟨k1, hk1, hvk1⟩ | ⟨hsw, hne⟩
  · rcases (show k1 = 0 ∨ k1 = 1 ∨ k1 = 2 ∨ k1 = 3 ∨ k1 = 4 ∨ k1 = 5 ∨ k1 = 6 ∨ k1 = 7 ∨ k1 = 8 ∨ k1 = 9 ∨ k1 = 10 ∨ k1 = 11 ∨ k1 = 12 ∨ k1 = 13 ∨ k1 = 14 ∨ k1 = 15 ∨ k1 = 16 by omega) with rfl | rfl | rfl | rfl | rfl | rfl | rfl | rfl | rfl | rfl | rfl | rfl | rfl | rfl | rfl | rfl | rfl
    · rw [hvk1]
      refine lv_tableIn (tgt := 108) (off := 82) kx kb dL_acts_26 (by decide) (by decide) (by decide) (by decide) ?_
      refine lv_aload_n kx kb dL_acts_108 rfl (lv_at hl 2 rfl) ?_
      refine lv_iload_n kx kb dL_acts_109 rfl (lv_at hl 1 rfl) ?_
      refine lv_iconst (v := nI 4) kx kb dL_acts_110 (by decide) ?_
      refine w_remn kx kb (by omega) (by omega) (by omega) dL_acts_111 ?_
      refine lv_iconst (v := nI 1) kx kb dL_acts_112 (by decide) ?_
      refine lv_iload_n kx kb dL_acts_113 rfl (lv_at hl 1 rfl) ?_
      refine lv_iconst (v := nI 4) kx kb dL_acts_114 (by decide) ?_
      refine w_divn kx kb (by omega) (by omega) (by omega) dL_acts_115 ?_
      refine lv_bipush (v := nI 30) kx kb dL_acts_116 (by decide) ?_
      refine w_remn kx kb (by omega) (by omega) (by omega) dL_acts_118 ?_
      refine w_addn kx kb dL_acts_119 ?_
      refine lv_iload_n kx kb dL_acts_120 rfl (lv_at hl 1 rfl) ?_
      refine lv_bipush (v := nI 120) kx kb dL_acts_121 (by decide) ?_
      refine w_divn kx kb (by omega) (by omega) (by omega) dL_acts_123 ?_
      refine lv_bipush (v := nI 64) kx kb dL_acts_124 (by decide) ?_
      refine w_remn kx kb (by omega) (by omega) (by omega) dL_acts_126 ?_
      refine lv_iconst (v := nI 1) kx kb dL_acts_127 (by decide) ?_
      refine lv_iload_n kx kb dL_acts_128 rfl (lv_at hl 1 rfl) ?_
      refine lv_sipush (v := nI 7680) kx kb dL_acts_129 (by decide) ?_
      refine w_divn kx kb (by omega) (by omega) (by omega) dL_acts_132 ?_
      refine lv_bipush (v := nI 9) kx kb dL_acts_133 (by decide) ?_
      refine w_remn kx kb (by omega) (by omega) (by omega) dL_acts_135 ?_
      refine w_addn kx kb dL_acts_136 ?_
      refine w_callVi X M h [.int (nI (nz % 4)), .int (nI (1 + ((nz / 4) % 30))), .int (nI ((nz / 120) % 64)), .int (nI (1 + ((nz / 7680) % 9)))] [] (z_joke l hZ (nI (nz % 4)) (nI (1 + ((nz / 4) % 30))) (nI ((nz / 120) % 64)) (nI (1 + ((nz / 7680) % 9)))) lk_L_68 hO (by omega) rfl rfl ⟨by decide, by decide⟩ hl ⟨Nat.zero_le _, Nat.zero_le _⟩ (Nat.le_of_ble_eq_true rfl) rfl dL_acts_137 (fun r_F2 F2 H locs hp_F2 h => ?_)
      exact w_iret X h (ap_of_tz hp_F2) dL_acts_140
    · rw [hvk1]
      refine lv_tableIn (tgt := 108) (off := 82) kx kb dL_acts_26 (by decide) (by decide) (by decide) (by decide) ?_
      refine lv_aload_n kx kb dL_acts_108 rfl (lv_at hl 2 rfl) ?_
      refine lv_iload_n kx kb dL_acts_109 rfl (lv_at hl 1 rfl) ?_
      refine lv_iconst (v := nI 4) kx kb dL_acts_110 (by decide) ?_
      refine w_remn kx kb (by omega) (by omega) (by omega) dL_acts_111 ?_
      refine lv_iconst (v := nI 1) kx kb dL_acts_112 (by decide) ?_
      refine lv_iload_n kx kb dL_acts_113 rfl (lv_at hl 1 rfl) ?_
      refine lv_iconst (v := nI 4) kx kb dL_acts_114 (by decide) ?_
      refine w_divn kx kb (by omega) (by omega) (by omega) dL_acts_115 ?_
      refine lv_bipush (v := nI 30) kx kb dL_acts_116 (by decide) ?_
      refine w_remn kx kb (by omega) (by omega) (by omega) dL_acts_118 ?_
      refine w_addn kx kb dL_acts_119 ?_
      refine lv_iload_n kx kb dL_acts_120 rfl (lv_at hl 1 rfl) ?_
      refine lv_bipush (v := nI 120) kx kb dL_acts_121 (by decide) ?_
      refine w_divn kx kb (by omega) (by omega) (by omega) dL_acts_123 ?_
      refine lv_bipush (v := nI 64) kx kb dL_acts_124 (by decide) ?_
      refine w_remn kx kb (by omega) (by omega) (by omega) dL_acts_126 ?_
      refine lv_iconst (v := nI 1) kx kb dL_acts_127 (by decide) ?_
      refine lv_iload_n kx kb dL_acts_128 rfl (lv_at hl 1 rfl) ?_
      refine lv_sipush (v := nI 7680) kx kb dL_acts_129 (by decide) ?_
      refine w_divn kx kb (by omega) (by omega) (by omega) dL_acts_132 ?_
      refine lv_bipush (v := nI 9) kx kb dL_acts_133 (by decide) ?_
      refine w_remn kx kb (by omega) (by omega) (by omega) dL_acts_135 ?_
      refine w_addn kx kb dL_acts_136 ?_
      refine w_callVi X M h [.int (nI (nz % 4)), .int (nI (1 + ((nz / 4) % 30))), .int (nI ((nz / 120) % 64)), .int (nI (1 + ((nz / 7680) % 9)))] [] (z_joke l hZ (nI (nz % 4)) (nI (1 + ((nz / 4) % 30))) (nI ((nz / 120) % 64)) (nI (1 + ((nz / 7680) % 9)))) lk_L_68 hO (by omega) rfl rfl ⟨by decide, by decide⟩ hl ⟨Nat.zero_le _, Nat.zero_le _⟩ (Nat.le_of_ble_eq_true rfl) rfl dL_acts_137 (fun r_F3 F3 H locs hp_F3 h => ?_)
      exact w_iret X h (ap_of_tz hp_F3) dL_acts_140
    · rw [hvk1]
      refine lv_tableIn (tgt := 108) (off := 82) kx kb dL_acts_26 (by decide) (by decide) (by decide) (by decide) ?_
      refine lv_aload_n kx kb dL_acts_108 rfl (lv_at hl 2 rfl) ?_
      refine lv_iload_n kx kb dL_acts_109 rfl (lv_at hl 1 rfl) ?_
      refine lv_iconst (v := nI 4) kx kb dL_acts_110 (by decide) ?_
      refine w_remn kx kb (by omega) (by omega) (by omega) dL_acts_111 ?_
      refine lv_iconst (v := nI 1) kx kb dL_acts_112 (by decide) ?_
      refine lv_iload_n kx kb dL_acts_113 rfl (lv_at hl 1 rfl) ?_
      refine lv_iconst (v := nI 4) kx kb dL_acts_114 (by decide) ?_
      refine w_divn kx kb (by omega) (by omega) (by omega) dL_acts_115 ?_
      refine lv_bipush (v := nI 30) kx kb dL_acts_116 (by decide) ?_
      refine w_remn kx kb (by omega) (by omega) (by omega) dL_acts_118 ?_
      refine w_addn kx kb dL_acts_119 ?_
      refine lv_iload_n kx kb dL_acts_120 rfl (lv_at hl 1 rfl) ?_
      refine lv_bipush (v := nI 120) kx kb dL_acts_121 (by decide) ?_
      refine w_divn kx kb (by omega) (by omega) (by omega) dL_acts_123 ?_
      refine lv_bipush (v := nI 64) kx kb dL_acts_124 (by decide) ?_
      refine w_remn kx kb (by omega) (by omega) (by omega) dL_acts_126 ?_
      refine lv_iconst (v := nI 1) kx kb dL_acts_127 (by decide) ?_
      refine lv_iload_n kx kb dL_acts_128 rfl (lv_at hl 1 rfl) ?_
      refine lv_sipush (v := nI 7680) kx kb dL_acts_129 (by decide) ?_
      refine w_divn kx kb (by omega) (by omega) (by omega) dL_acts_132 ?_
      refine lv_bipush (v := nI 9) kx kb dL_acts_133 (by decide) ?_
      refine w_remn kx kb (by omega) (by omega) (by omega) dL_acts_135 ?_
      refine w_addn kx kb dL_acts_136 ?_
      refine w_callVi X M h [.int (nI (nz % 4)), .int (nI (1 + ((nz / 4) % 30))), .int (nI ((nz / 120) % 64)), .int (nI (1 + ((nz / 7680) % 9)))] [] (z_joke l hZ (nI (nz % 4)) (nI (1 + ((nz / 4) % 30))) (nI ((nz / 120) % 64)) (nI (1 + ((nz / 7680) % 9)))) lk_L_68 hO (by omega) rfl rfl ⟨by decide, by decide⟩ hl ⟨Nat.zero_le _, Nat.zero_le _⟩ (Nat.le_of_ble_eq_true rfl) rfl dL_acts_137 (fun r_F4 F4 H locs hp_F4 h => ?_)
      exact w_iret X h (ap_of_tz hp_F4) dL_acts_140
    · rw [hvk1]
      refine lv_tableIn (tgt := 108) (off := 82) kx kb dL_acts_26 (by decide) (by decide) (by decide) (by decide) ?_
      refine lv_aload_n kx kb dL_acts_108 rfl (lv_at hl 2 rfl) ?_
      refine lv_iload_n kx kb dL_acts_109 rfl (lv_at hl 1 rfl) ?_
      refine lv_iconst (v := nI 4) kx kb dL_acts_110 (by decide) ?_
      refine w_remn kx kb (by omega) (by omega) (by omega) dL_acts_111 ?_
      refine lv_iconst (v := nI 1) kx kb dL_acts_112 (by decide) ?_
      refine lv_iload_n kx kb dL_acts_113 rfl (lv_at hl 1 rfl) ?_
      refine lv_iconst (v := nI 4) kx kb dL_acts_114 (by decide) ?_
      refine w_divn kx kb (by omega) (by omega) (by omega) dL_acts_115 ?_
      refine lv_bipush (v := nI 30) kx kb dL_acts_116 (by decide) ?_
      refine w_remn kx kb (by omega) (by omega) (by omega) dL_acts_118 ?_
      refine w_addn kx kb dL_acts_119 ?_
      refine lv_iload_n kx kb dL_acts_120 rfl (lv_at hl 1 rfl) ?_
      refine lv_bipush (v := nI 120) kx kb dL_acts_121 (by decide) ?_
      refine w_divn kx kb (by omega) (by omega) (by omega) dL_acts_123 ?_
      refine lv_bipush (v := nI 64) kx kb dL_acts_124 (by decide) ?_
      refine w_remn kx kb (by omega) (by omega) (by omega) dL_acts_126 ?_
      refine lv_iconst (v := nI 1) kx kb dL_acts_127 (by decide) ?_
      refine lv_iload_n kx kb dL_acts_128 rfl (lv_at hl 1 rfl) ?_
      refine lv_sipush (v := nI 7680) kx kb dL_acts_129 (by decide) ?_
      refine w_divn kx kb (by omega) (by omega) (by omega) dL_acts_132 ?_
      refine lv_bipush (v := nI 9) kx kb dL_acts_133 (by decide) ?_
      refine w_remn kx kb (by omega) (by omega) (by omega) dL_acts_135 ?_
      refine w_addn kx kb dL_acts_136 ?_
      refine w_callVi X M h [.int (nI (nz % 4)), .int (nI (1 + ((nz / 4) % 30))), .int (nI ((nz / 120) % 64)), .int (nI (1 + ((nz / 7680) % 9)))] [] (z_joke l hZ (nI (nz % 4)) (nI (1 + ((nz / 4) % 30))) (nI ((nz / 120) % 64)) (nI (1 + ((nz / 7680) % 9)))) lk_L_68 hO (by omega) rfl rfl ⟨by decide, by decide⟩ hl ⟨Nat.zero_le _, Nat.zero_le _⟩ (Nat.le_of_ble_eq_true rfl) rfl dL_acts_137 (fun r_F5 F5 H locs hp_F5 h => ?_)
      exact w_iret X h (ap_of_tz hp_F5) dL_acts_140
    · rw [hvk1]
      refine lv_tableIn (tgt := 108) (off := 82) kx kb dL_acts_26 (by decide) (by decide) (by decide) (by decide) ?_
      refine lv_aload_n kx kb dL_acts_108 rfl (lv_at hl 2 rfl) ?_
      refine lv_iload_n kx kb dL_acts_109 rfl (lv_at hl 1 rfl) ?_
      refine lv_iconst (v := nI 4) kx kb dL_acts_110 (by decide) ?_
      refine w_remn kx kb (by omega) (by omega) (by omega) dL_acts_111 ?_
      refine lv_iconst (v := nI 1) kx kb dL_acts_112 (by decide) ?_
      refine lv_iload_n kx kb dL_acts_113 rfl (lv_at hl 1 rfl) ?_
      refine lv_iconst (v := nI 4) kx kb dL_acts_114 (by decide) ?_
      refine w_divn kx kb (by omega) (by omega) (by omega) dL_acts_115 ?_
      refine lv_bipush (v := nI 30) kx kb dL_acts_116 (by decide) ?_
      refine w_remn kx kb (by omega) (by omega) (by omega) dL_acts_118 ?_
      refine w_addn kx kb dL_acts_119 ?_
      refine lv_iload_n kx kb dL_acts_120 rfl (lv_at hl 1 rfl) ?_
      refine lv_bipush (v := nI 120) kx kb dL_acts_121 (by decide) ?_
      refine w_divn kx kb (by omega) (by omega) (by omega) dL_acts_123 ?_
      refine lv_bipush (v := nI 64) kx kb dL_acts_124 (by decide) ?_
      refine w_remn kx kb (by omega) (by omega) (by omega) dL_acts_126 ?_
      refine lv_iconst (v := nI 1) kx kb dL_acts_127 (by decide) ?_
      refine lv_iload_n kx kb dL_acts_128 rfl (lv_at hl 1 rfl) ?_
      refine lv_sipush (v := nI 7680) kx kb dL_acts_129 (by decide) ?_
      refine w_divn kx kb (by omega) (by omega) (by omega) dL_acts_132 ?_
      refine lv_bipush (v := nI 9) kx kb dL_acts_133 (by decide) ?_
      refine w_remn kx kb (by omega) (by omega) (by omega) dL_acts_135 ?_
      refine w_addn kx kb dL_acts_136 ?_
      refine w_callVi X M h [.int (nI (nz % 4)), .int (nI (1 + ((nz / 4) % 30))), .int (nI ((nz / 120) % 64)), .int (nI (1 + ((nz / 7680) % 9)))] [] (z_joke l hZ (nI (nz % 4)) (nI (1 + ((nz / 4) % 30))) (nI ((nz / 120) % 64)) (nI (1 + ((nz / 7680) % 9)))) lk_L_68 hO (by omega) rfl rfl ⟨by decide, by decide⟩ hl ⟨Nat.zero_le _, Nat.zero_le _⟩ (Nat.le_of_ble_eq_true rfl) rfl dL_acts_137 (fun r_F6 F6 H locs hp_F6 h => ?_)
      exact w_iret X h (ap_of_tz hp_F6) dL_acts_140
    · rw [hvk1]
      refine lv_tableIn (tgt := 141) (off := 115) kx kb dL_acts_26 (by decide) (by decide) (by decide) (by decide) ?_
      refine lv_aload_n kx kb dL_acts_141 rfl (lv_at hl 2 rfl) ?_
      refine lv_iload_n kx kb dL_acts_142 rfl (lv_at hl 1 rfl) ?_
      refine lv_iload_n kx kb dL_acts_143 rfl (lv_at hl 0 rfl) ?_
      refine w_remn kx kb (by omega) (by omega) (by omega) dL_acts_144 ?_
      refine w_callVi X M h [.int (nI (nz % (max 1 x.1)))] [] (z_prime l hZ (nI (nz % (max 1 x.1)))) lk_L_72 hO (by omega) rfl rfl ⟨by decide, by decide⟩ hl ⟨Nat.zero_le _, Nat.zero_le _⟩ (Nat.le_of_ble_eq_true rfl) rfl dL_acts_145 (fun r_F7 F7 H locs hp_F7 h => ?_)
      exact w_iret X h (ap_of_tz hp_F7) dL_acts_148
    · rw [hvk1]
      refine lv_tableIn (tgt := 141) (off := 115) kx kb dL_acts_26 (by decide) (by decide) (by decide) (by decide) ?_
      refine lv_aload_n kx kb dL_acts_141 rfl (lv_at hl 2 rfl) ?_
      refine lv_iload_n kx kb dL_acts_142 rfl (lv_at hl 1 rfl) ?_
      refine lv_iload_n kx kb dL_acts_143 rfl (lv_at hl 0 rfl) ?_
      refine w_remn kx kb (by omega) (by omega) (by omega) dL_acts_144 ?_
      refine w_callVi X M h [.int (nI (nz % (max 1 x.1)))] [] (z_prime l hZ (nI (nz % (max 1 x.1)))) lk_L_72 hO (by omega) rfl rfl ⟨by decide, by decide⟩ hl ⟨Nat.zero_le _, Nat.zero_le _⟩ (Nat.le_of_ble_eq_true rfl) rfl dL_acts_145 (fun r_F8 F8 H locs hp_F8 h => ?_)
      exact w_iret X h (ap_of_tz hp_F8) dL_acts_148
    · rw [hvk1]
      refine lv_tableIn (tgt := 149) (off := 123) kx kb dL_acts_26 (by decide) (by decide) (by decide) (by decide) ?_
      refine lv_aload_n kx kb dL_acts_149 rfl (lv_at hl 2 rfl) ?_
      refine lv_iload_n kx kb dL_acts_150 rfl (lv_at hl 1 rfl) ?_
      refine lv_iload_n kx kb dL_acts_151 rfl (lv_at hl 0 rfl) ?_
      refine w_remn kx kb (by omega) (by omega) (by omega) dL_acts_152 ?_
      refine w_callVi X M h [.int (nI (nz % (max 1 x.1)))] [] (z_drop l hZ (nI (nz % (max 1 x.1)))) lk_L_75 hO (by omega) rfl rfl ⟨by decide, by decide⟩ hl ⟨Nat.zero_le _, Nat.zero_le _⟩ (Nat.le_of_ble_eq_true rfl) rfl dL_acts_153 (fun r_F9 F9 H locs hp_F9 h => ?_)
      exact w_iret X h (ap_of_tz hp_F9) dL_acts_156
    · rw [hvk1]
      refine lv_tableIn (tgt := 157) (off := 131) kx kb dL_acts_26 (by decide) (by decide) (by decide) (by decide) ?_
      refine lv_aload_n kx kb dL_acts_157 rfl (lv_at hl 2 rfl) ?_
      refine lv_iconst (v := nI 1) kx kb dL_acts_158 (by decide) ?_
      refine lv_iload_n kx kb dL_acts_159 rfl (lv_at hl 1 rfl) ?_
      refine lv_bipush (v := nI 20) kx kb dL_acts_160 (by decide) ?_
      refine w_remn kx kb (by omega) (by omega) (by omega) dL_acts_162 ?_
      refine w_addn kx kb dL_acts_163 ?_
      refine w_callVi X M h [.int (nI (1 + (nz % 20)))] [] (z_drain l hZ (nI (1 + (nz % 20)))) lk_L_78 hO (by omega) rfl rfl ⟨by decide, by decide⟩ hl ⟨Nat.zero_le _, Nat.zero_le _⟩ (Nat.le_of_ble_eq_true rfl) rfl dL_acts_164 (fun r_F10 F10 H locs hp_F10 h => ?_)
      exact w_iret X h (ap_of_tz hp_F10) dL_acts_167
    · rw [hvk1]
      refine lv_tableIn (tgt := 157) (off := 131) kx kb dL_acts_26 (by decide) (by decide) (by decide) (by decide) ?_
      refine lv_aload_n kx kb dL_acts_157 rfl (lv_at hl 2 rfl) ?_
      refine lv_iconst (v := nI 1) kx kb dL_acts_158 (by decide) ?_
      refine lv_iload_n kx kb dL_acts_159 rfl (lv_at hl 1 rfl) ?_
      refine lv_bipush (v := nI 20) kx kb dL_acts_160 (by decide) ?_
      refine w_remn kx kb (by omega) (by omega) (by omega) dL_acts_162 ?_
      refine w_addn kx kb dL_acts_163 ?_
      refine w_callVi X M h [.int (nI (1 + (nz % 20)))] [] (z_drain l hZ (nI (1 + (nz % 20)))) lk_L_78 hO (by omega) rfl rfl ⟨by decide, by decide⟩ hl ⟨Nat.zero_le _, Nat.zero_le _⟩ (Nat.le_of_ble_eq_true rfl) rfl dL_acts_164 (fun r_F11 F11 H locs hp_F11 h => ?_)
      exact w_iret X h (ap_of_tz hp_F11) dL_acts_167
    · rw [hvk1]
      refine lv_tableIn (tgt := 168) (off := 142) kx kb dL_acts_26 (by decide) (by decide) (by decide) (by decide) ?_
      refine lv_aload_n kx kb dL_acts_168 rfl (lv_at hl 2 rfl) ?_
      refine lv_iconst (v := nI 1) kx kb dL_acts_169 (by decide) ?_
      refine lv_iload_n kx kb dL_acts_170 rfl (lv_at hl 1 rfl) ?_
      refine lv_bipush (v := nI 10) kx kb dL_acts_171 (by decide) ?_
      refine w_remn kx kb (by omega) (by omega) (by omega) dL_acts_173 ?_
      refine w_addn kx kb dL_acts_174 ?_
      refine w_callVi X M h [.int (nI (1 + (nz % 10)))] [] (z_stroke l hZ (nI (1 + (nz % 10)))) lk_L_81 hO (by omega) rfl rfl ⟨by decide, by decide⟩ hl ⟨Nat.zero_le _, Nat.zero_le _⟩ (Nat.le_of_ble_eq_true rfl) rfl dL_acts_175 (fun r_F12 F12 H locs hp_F12 h => ?_)
      exact w_iret X h (ap_of_tz hp_F12) dL_acts_178
    · rw [hvk1]
      refine lv_tableIn (tgt := 179) (off := 153) kx kb dL_acts_26 (by decide) (by decide) (by decide) (by decide) ?_
      refine lv_aload_n kx kb dL_acts_179 rfl (lv_at hl 2 rfl) ?_
      refine lv_iload_n kx kb dL_acts_180 rfl (lv_at hl 1 rfl) ?_
      refine lv_iconst (v := nI 4) kx kb dL_acts_181 (by decide) ?_
      refine w_remn kx kb (by omega) (by omega) (by omega) dL_acts_182 ?_
      refine lv_iconst (v := nI 1) kx kb dL_acts_183 (by decide) ?_
      refine lv_iload_n kx kb dL_acts_184 rfl (lv_at hl 1 rfl) ?_
      refine lv_iconst (v := nI 4) kx kb dL_acts_185 (by decide) ?_
      refine w_divn kx kb (by omega) (by omega) (by omega) dL_acts_186 ?_
      refine lv_iconst (v := nI 5) kx kb dL_acts_187 (by decide) ?_
      refine w_remn kx kb (by omega) (by omega) (by omega) dL_acts_188 ?_
      refine w_addn kx kb dL_acts_189 ?_
      refine w_callVi X M h [.int (nI (nz % 4)), .int (nI (1 + ((nz / 4) % 5)))] [] (z_bucket l hZ (nI (nz % 4)) (nI (1 + ((nz / 4) % 5)))) lk_L_84 hO (by omega) rfl rfl ⟨by decide, by decide⟩ hl ⟨Nat.zero_le _, Nat.zero_le _⟩ (Nat.le_of_ble_eq_true rfl) rfl dL_acts_190 (fun r_F13 F13 H locs hp_F13 h => ?_)
      exact w_iret X h (ap_of_tz hp_F13) dL_acts_193
    · rw [hvk1]
      refine lv_tableIn (tgt := 194) (off := 168) kx kb dL_acts_26 (by decide) (by decide) (by decide) (by decide) ?_
      refine lv_aload_n kx kb dL_acts_194 rfl (lv_at hl 2 rfl) ?_
      refine lv_iload_n kx kb dL_acts_195 rfl (lv_at hl 1 rfl) ?_
      refine lv_iconst (v := nI 4) kx kb dL_acts_196 (by decide) ?_
      refine w_remn kx kb (by omega) (by omega) (by omega) dL_acts_197 ?_
      refine w_callVi X M h [.int (nI (nz % 4))] [] (z_go l hZ (nI (nz % 4))) lk_L_87 hO (by omega) rfl rfl ⟨by decide, by decide⟩ hl ⟨Nat.zero_le _, Nat.zero_le _⟩ (Nat.le_of_ble_eq_true rfl) rfl dL_acts_198 (fun r_F14 F14 H locs hp_F14 h => ?_)
      exact w_iret X h (ap_of_tz hp_F14) dL_acts_201
    · rw [hvk1]
      refine lv_tableIn (tgt := 194) (off := 168) kx kb dL_acts_26 (by decide) (by decide) (by decide) (by decide) ?_
      refine lv_aload_n kx kb dL_acts_194 rfl (lv_at hl 2 rfl) ?_
      refine lv_iload_n kx kb dL_acts_195 rfl (lv_at hl 1 rfl) ?_
      refine lv_iconst (v := nI 4) kx kb dL_acts_196 (by decide) ?_
      refine w_remn kx kb (by omega) (by omega) (by omega) dL_acts_197 ?_
      refine w_callVi X M h [.int (nI (nz % 4))] [] (z_go l hZ (nI (nz % 4))) lk_L_87 hO (by omega) rfl rfl ⟨by decide, by decide⟩ hl ⟨Nat.zero_le _, Nat.zero_le _⟩ (Nat.le_of_ble_eq_true rfl) rfl dL_acts_198 (fun r_F15 F15 H locs hp_F15 h => ?_)
      exact w_iret X h (ap_of_tz hp_F15) dL_acts_201
    · rw [hvk1]
      refine lv_tableIn (tgt := 202) (off := 176) kx kb dL_acts_26 (by decide) (by decide) (by decide) (by decide) ?_
      refine lv_aload_n kx kb dL_acts_202 rfl (lv_at hl 2 rfl) ?_
      refine w_texts X M h (k := 0) (pc2 := 0) (by decide) dL_acts_203 (fun tA hTT => ?_)
      refine lv_iload_n kx kb dL_acts_206 rfl (lv_at hl 1 rfl) ?_
      refine lv_bipush (v := nI 8) kx kb dL_acts_207 (by decide) ?_
      refine w_remn kx kb (by omega) (by omega) (by omega) dL_acts_209 ?_
      refine w_textAt X h hTT (k := nz % 8) (Nat.mod_lt _ (by decide)) dL_acts_210 ?_
      refine w_callSi X M h [.ref (ad 0), .ref (g.2.2.2.2.2.1 (8 + nz % 8))] [] (c_L_done l g hZ (8 + nz % 8) (by omega) (by omega)) lk_L_94 rfl ⟨by decide, by decide⟩ hl ⟨Nat.zero_le _, Nat.zero_le _⟩ (Nat.le_of_ble_eq_true rfl) rfl dL_acts_211 (fun r_F16 F16 H locs hp_F16 h => ?_)
      exact w_iret X h (ap_of_rd hp_F16) dL_acts_214
    · rw [hvk1]
      refine lv_tableIn (tgt := 202) (off := 176) kx kb dL_acts_26 (by decide) (by decide) (by decide) (by decide) ?_
      refine lv_aload_n kx kb dL_acts_202 rfl (lv_at hl 2 rfl) ?_
      refine w_texts X M h (k := 0) (pc2 := 0) (by decide) dL_acts_203 (fun tA hTT => ?_)
      refine lv_iload_n kx kb dL_acts_206 rfl (lv_at hl 1 rfl) ?_
      refine lv_bipush (v := nI 8) kx kb dL_acts_207 (by decide) ?_
      refine w_remn kx kb (by omega) (by omega) (by omega) dL_acts_209 ?_
      refine w_textAt X h hTT (k := nz % 8) (Nat.mod_lt _ (by decide)) dL_acts_210 ?_
      refine w_callSi X M h [.ref (ad 0), .ref (g.2.2.2.2.2.1 (8 + nz % 8))] [] (c_L_done l g hZ (8 + nz % 8) (by omega) (by omega)) lk_L_94 rfl ⟨by decide, by decide⟩ hl ⟨Nat.zero_le _, Nat.zero_le _⟩ (Nat.le_of_ble_eq_true rfl) rfl dL_acts_211 (fun r_F17 F17 H locs hp_F17 h => ?_)
      exact w_iret X h (ap_of_rd hp_F17) dL_acts_214
    · rw [hvk1]
      refine lv_tableIn (tgt := 202) (off := 176) kx kb dL_acts_26 (by decide) (by decide) (by decide) (by decide) ?_
      refine lv_aload_n kx kb dL_acts_202 rfl (lv_at hl 2 rfl) ?_
      refine w_texts X M h (k := 0) (pc2 := 0) (by decide) dL_acts_203 (fun tA hTT => ?_)
      refine lv_iload_n kx kb dL_acts_206 rfl (lv_at hl 1 rfl) ?_
      refine lv_bipush (v := nI 8) kx kb dL_acts_207 (by decide) ?_
      refine w_remn kx kb (by omega) (by omega) (by omega) dL_acts_209 ?_
      refine w_textAt X h hTT (k := nz % 8) (Nat.mod_lt _ (by decide)) dL_acts_210 ?_
      refine w_callSi X M h [.ref (ad 0), .ref (g.2.2.2.2.2.1 (8 + nz % 8))] [] (c_L_done l g hZ (8 + nz % 8) (by omega) (by omega)) lk_L_94 rfl ⟨by decide, by decide⟩ hl ⟨Nat.zero_le _, Nat.zero_le _⟩ (Nat.le_of_ble_eq_true rfl) rfl dL_acts_211 (fun r_F18 F18 H locs hp_F18 h => ?_)
      exact w_iret X h (ap_of_rd hp_F18) dL_acts_214
  · refine lv_tableOut (tgt := 215) kx kb dL_acts_26 hsw (by decide) ?_
    refine lv_aload_n kx kb dL_acts_215 rfl (lv_at hl 2 rfl) ?_
    refine lv_iconst (v := nI 1) kx kb dL_acts_216 (by decide) ?_
    refine lv_iload_n kx kb dL_acts_217 rfl (lv_at hl 1 rfl) ?_
    refine lv_iconst (v := nI 4) kx kb dL_acts_218 (by decide) ?_
    refine w_remn kx kb (by omega) (by omega) (by omega) dL_acts_219 ?_
    refine w_addn kx kb dL_acts_220 ?_
    refine w_callVi X M h [.int (nI (1 + (nz % 4)))] [] (z_pump l hZ (nI (1 + (nz % 4)))) lk_L_98 hO (by omega) rfl rfl ⟨by decide, by decide⟩ hl ⟨Nat.zero_le _, Nat.zero_le _⟩ (Nat.le_of_ble_eq_true rfl) rfl dL_acts_221 (fun r_F19 F19 H locs hp_F19 h => ?_)
    exact w_iret X h (ap_of_tz hp_F19) dL_acts_224
set_option maxRecDepth 20000 in
theorem c_L_strokes (l : Launch) (g : gT) {N : Nat} {ad : Nat → Nat} {F : Nat → va_E} {x sv : SX} {hs : Nat → SX} {ct : Nat} {q : Nat → Int32} {il : Nat} (hZ : PZ g N ad F x sv hs ct q il)  : CtI l yL_strokes cL_strokes 8 (some .boolean) 6 136 g N ad F [.ref (ad 0)] (fun r F' => r = nI 1 ∧ F' = F) := by
  refine CtI_of (by decide) (Nat.le_of_ble_eq_true rfl) ?_
  intro p e s m args below meth c A H ls X M h hl
  have kx := X.1.1
  have kb := X.1.2.1
  have hl : lv_has ls 8 [(0, .ref (ad 0))] := hl
  obtain ⟨hN, hO⟩ := hZ.o7
  have hI := hZ.1.1
  have hn12 := hI.n
  have htn64 := hI.tn
  obtain ⟨hz0, hz1a, hz1, hz2, hz3, hz4⟩ := hI.zz
  have hct := hZ.2.2.1
  refine lv_aload_n kx kb dL_strokes_0 rfl (lv_at hl 0 rfl) ?_
  refine w_readSl X M h [.ref (ad 0)] [] (c_L_mark l g hZ) lk_L_101 rfl ⟨by decide, by decide⟩ hl ⟨Nat.zero_le _, Nat.zero_le _⟩ (Nat.le_of_ble_eq_true rfl) rfl dL_strokes_1 (fun H locs h => ?_)
  refine lv_lstore_n (lv' := [(1, .long (mkF x)), (0, .ref (ad 0))]) kx kb dL_strokes_4 rfl hl (by decide) rfl (fun ls hl => ?_)
  refine lv_aload_n kx kb dL_strokes_5 rfl (lv_at hl 1 rfl) ?_
  refine w_readVi X M h [] [] (z_bestStroke l hZ) lk_L_125 hO (by omega) rfl rfl ⟨by decide, by decide⟩ hl ⟨Nat.zero_le _, Nat.zero_le _⟩ (Nat.le_of_ble_eq_true rfl) rfl dL_strokes_6 (fun H locs h => ?_)
  rcases best_at hI with ⟨eb1, eb2⟩ | ⟨az, dz, haz, hdz, eb1, eb3, eb2⟩
  · refine w_top (y := (-6)) (eb2) ?_
    refine lv_istore_n (lv' := [(3, .int (-6)), (1, .long (mkF x)), (0, .ref (ad 0))]) kx kb dL_strokes_9 rfl hl (by decide) rfl (fun ls hl => ?_)
    refine lv_aload_n kx kb dL_strokes_10 rfl (lv_at hl 2 rfl) ?_
    refine lv_aload_n kx kb dL_strokes_11 rfl (lv_at hl 2 rfl) ?_
    refine lv_iconst (v := nI 1) kx kb dL_strokes_12 (by decide) ?_
    refine w_readVi X M h [.int (nI 1)] [.ref (ad 0)] (z_account l hZ (nI 1)) lk_L_31 hO (by omega) rfl rfl ⟨by decide, by decide⟩ hl ⟨Nat.zero_le _, Nat.zero_le _⟩ (Nat.le_of_ble_eq_true rfl) rfl dL_strokes_13 (fun H locs h => ?_)
    refine w_top (y := nI (x.2.2.2.2.2.2.2 0)) (acc_k.2.1) ?_
    refine lv_iconst (v := nI 0) kx kb dL_strokes_16 (by decide) ?_
    refine w_readVi X M h [.int (nI (x.2.2.2.2.2.2.2 0)), .int (nI 0)] [] (z_inWell l hZ (nI (x.2.2.2.2.2.2.2 0)) (nI 0)) lk_L_128 hO (by omega) rfl rfl ⟨by decide, by decide⟩ hl ⟨Nat.zero_le _, Nat.zero_le _⟩ (Nat.le_of_ble_eq_true rfl) rfl dL_strokes_17 (fun H locs h => ?_)
    refine w_top (y := (-1)) ((iw_z (by omega)).trans eb1) ?_
    refine lv_istore (lv' := [(4, .int (-1)), (3, .int (-6)), (1, .long (mkF x)), (0, .ref (ad 0))]) kx kb dL_strokes_20 hl (by decide) rfl (fun ls hl => ?_)
    refine lv_iload kx kb dL_strokes_22 (lv_at hl 0 rfl) ?_
    refine lv_iconst (v := (-1)) kx kb dL_strokes_24 (by decide) ?_
    refine lv_icmp_ne (tgt := 40) kx kb dL_strokes_25 (by decide) (fun c_1 => (c_1 rfl).elim) (fun c_1 => ?_)
    refine lv_iload_n kx kb dL_strokes_28 rfl (lv_at hl 1 rfl) ?_
    refine lv_bipush (v := (-6)) kx kb dL_strokes_29 (by decide) ?_
    refine lv_icmp_ne (tgt := 38) kx kb dL_strokes_31 (by decide) (fun c_2 => (c_2 rfl).elim) (fun c_2 => ?_)
    refine lv_iconst (v := nI 1) kx kb dL_strokes_34 (by decide) ?_
    refine lv_goto (tgt := 39) kx kb dL_strokes_35 (by decide) ?_
    exact w_zret X h (Or.inr (by decide)) ⟨rfl, rfl⟩ dL_strokes_39
  · refine w_top (y := nI (bsN x (nI dz) 9)) (eb2) ?_
    have hbs := bs_in x (nI dz) 9
    have hg1 := grTo_lt x (nI dz) (bsN x (nI dz) 9)
    refine lv_istore_n (lv' := [(3, .int (nI (bsN x (nI dz) 9))), (1, .long (mkF x)), (0, .ref (ad 0))]) kx kb dL_strokes_9 rfl hl (by decide) rfl (fun ls hl => ?_)
    refine lv_aload_n kx kb dL_strokes_10 rfl (lv_at hl 2 rfl) ?_
    refine lv_aload_n kx kb dL_strokes_11 rfl (lv_at hl 2 rfl) ?_
    refine lv_iconst (v := nI 1) kx kb dL_strokes_12 (by decide) ?_
    refine w_readVi X M h [.int (nI 1)] [.ref (ad 0)] (z_account l hZ (nI 1)) lk_L_31 hO (by omega) rfl rfl ⟨by decide, by decide⟩ hl ⟨Nat.zero_le _, Nat.zero_le _⟩ (Nat.le_of_ble_eq_true rfl) rfl dL_strokes_13 (fun H locs h => ?_)
    refine w_top (y := nI (x.2.2.2.2.2.2.2 0)) (acc_k.2.1) ?_
    refine lv_iconst (v := nI 0) kx kb dL_strokes_16 (by decide) ?_
    refine w_readVi X M h [.int (nI (x.2.2.2.2.2.2.2 0)), .int (nI 0)] [] (z_inWell l hZ (nI (x.2.2.2.2.2.2.2 0)) (nI 0)) lk_L_128 hO (by omega) rfl rfl ⟨by decide, by decide⟩ hl ⟨Nat.zero_le _, Nat.zero_le _⟩ (Nat.le_of_ble_eq_true rfl) rfl dL_strokes_17 (fun H locs h => ?_)
    refine w_top (y := nI az) ((iw_z (by omega)).trans eb1) ?_
    refine lv_istore (lv' := [(4, .int (nI az)), (3, .int (nI (bsN x (nI dz) 9))), (1, .long (mkF x)), (0, .ref (ad 0))]) kx kb dL_strokes_20 hl (by decide) rfl (fun ls hl => ?_)
    refine lv_iload kx kb dL_strokes_22 (lv_at hl 0 rfl) ?_
    refine lv_iconst (v := (-1)) kx kb dL_strokes_24 (by decide) ?_
    refine lv_icmp_ne (tgt := 40) kx kb dL_strokes_25 (by decide) (fun c_3 => ?_) (fun c_3 => (nI_pos (by omega) (show nI az < 0 by rw [c_3]; decide)).elim)
    refine lv_aload_n kx kb dL_strokes_40 rfl (lv_at hl 3 rfl) ?_
    refine lv_iload_n kx kb dL_strokes_41 rfl (lv_at hl 1 rfl) ?_
    refine lv_aload_n kx kb dL_strokes_42 rfl (lv_at hl 3 rfl) ?_
    refine lv_iload kx kb dL_strokes_43 (lv_at hl 0 rfl) ?_
    refine lv_iconst (v := nI 1) kx kb dL_strokes_45 (by decide) ?_
    refine w_readVi X M h [.int (nI az), .int (nI 1)] [.int (nI (bsN x (nI dz) 9)), .ref (ad 0)] (z_jokeOf l hZ (nI az) (nI 1)) lk_L_35 hO (by omega) rfl rfl ⟨by decide, by decide⟩ hl ⟨Nat.zero_le _, Nat.zero_le _⟩ (Nat.le_of_ble_eq_true rfl) rfl dL_strokes_46 (fun H locs h => ?_)
    refine w_top (y := nI dz) ((jk_1 haz hn12).trans eb3) ?_
    refine w_readSi X M h [.ref (ad 0), .int (nI (bsN x (nI dz) 9)), .int (nI dz)] [] (c_L_groansBy l g hZ (bsN x (nI dz) 9) dz (by omega) (by omega) (by omega)) lk_L_131 rfl ⟨by decide, by decide⟩ hl ⟨Nat.zero_le _, Nat.zero_le _⟩ (Nat.le_of_ble_eq_true rfl) rfl dL_strokes_49 (fun H locs h => ?_)
    refine lv_istore (lv' := [(5, .int (nI (grTo x (nI dz) (bsN x (nI dz) 9)))), (4, .int (nI az)), (3, .int (nI (bsN x (nI dz) 9))), (1, .long (mkF x)), (0, .ref (ad 0))]) kx kb dL_strokes_52 hl (by decide) rfl (fun ls hl => ?_)
    refine lv_iconst (v := nI 1) kx kb dL_strokes_54 (by decide) ?_
    refine lv_istore (lv' := [(6, .int (nI 1)), (5, .int (nI (grTo x (nI dz) (bsN x (nI dz) 9)))), (4, .int (nI az)), (3, .int (nI (bsN x (nI dz) 9))), (1, .long (mkF x)), (0, .ref (ad 0))]) kx kb dL_strokes_55 hl (by decide) rfl (fun ls hl => ?_)
    refine w_loop1 (fun (lz : Nat) => 11 - lz) (fun (lz : Nat) H locs ls => Hx g N ad F A s H locs ∧ lv_has ls 8 [(0, .ref (ad 0)), (1, .long (mkF x)), (3, .int (nI (bsN x (nI dz) 9))), (4, .int (nI az)), (5, .int (nI (grTo x (nI dz) (bsN x (nI dz) 9)))), (6, .int (nI lz))] ∧ (1 ≤ lz) ∧ (lz ≤ 11)) ?_ 1 ⟨h, lv_sub hl [5, 4, 3, 2, 1, 0] rfl, by omega, by omega⟩
    intro lz H locs ls hinv ih_a
    obtain ⟨h, hl, hlz, hlz2⟩ := hinv
    refine lv_iload kx kb dL_strokes_57 (lv_at hl 5 rfl) ?_
    refine lv_bipush (v := nI 10) kx kb dL_strokes_59 (by decide) ?_
    refine w_cmp_gt (tgt := 107) kx kb (by omega) (by omega) dL_strokes_61 (by decide) (fun c_4 => ?_) (fun c_4 => ?_)
    · refine lv_aload_n kx kb dL_strokes_107 rfl (lv_at hl 0 rfl) ?_
      refine w_readSl X M h [.ref (ad 0)] [] (c_L_mark l g hZ) lk_L_101 rfl ⟨by decide, by decide⟩ hl ⟨Nat.zero_le _, Nat.zero_le _⟩ (Nat.le_of_ble_eq_true rfl) rfl dL_strokes_108 (fun H locs h => ?_)
      refine lv_lload_n kx kb dL_strokes_111 rfl (lv_at hl 1 rfl) ?_
      refine w_lcmpE X dL_strokes_112 ?_
      refine lv_if_ne (tgt := 120) kx kb dL_strokes_113 (by decide) (fun q => absurd (by decide) q) (fun _ => ?_)
      refine lv_iconst (v := nI 1) kx kb dL_strokes_116 (by decide) ?_
      refine lv_goto (tgt := 121) kx kb dL_strokes_117 (by decide) ?_
      exact w_zret X h (Or.inr (by decide)) ⟨rfl, rfl⟩ dL_strokes_121
    · have hg2 := grTo_lt x (nI dz) lz
      have hbb := bs_best x (nI dz) 9 lz (by omega) (by omega)
      refine lv_aload_n kx kb dL_strokes_64 rfl (lv_at hl 0 rfl) ?_
      refine lv_iload kx kb dL_strokes_65 (lv_at hl 5 rfl) ?_
      refine lv_aload_n kx kb dL_strokes_67 rfl (lv_at hl 0 rfl) ?_
      refine lv_iload kx kb dL_strokes_68 (lv_at hl 3 rfl) ?_
      refine lv_iconst (v := nI 1) kx kb dL_strokes_70 (by decide) ?_
      refine w_readVi X M h [.int (nI az), .int (nI 1)] [.int (nI lz), .ref (ad 0)] (z_jokeOf l hZ (nI az) (nI 1)) lk_L_35 hO (by omega) rfl rfl ⟨by decide, by decide⟩ hl ⟨Nat.zero_le _, Nat.zero_le _⟩ (Nat.le_of_ble_eq_true rfl) rfl dL_strokes_71 (fun H locs h => ?_)
      refine w_top (y := nI dz) ((jk_1 haz hn12).trans eb3) ?_
      refine w_readSi X M h [.ref (ad 0), .int (nI lz), .int (nI dz)] [] (c_L_groansBy l g hZ lz dz (by omega) (by omega) (by omega)) lk_L_131 rfl ⟨by decide, by decide⟩ hl ⟨Nat.zero_le _, Nat.zero_le _⟩ (Nat.le_of_ble_eq_true rfl) rfl dL_strokes_74 (fun H locs h => ?_)
      refine lv_istore (lv' := [(7, .int (nI (grTo x (nI dz) lz))), (0, .ref (ad 0)), (1, .long (mkF x)), (3, .int (nI (bsN x (nI dz) 9))), (4, .int (nI az)), (5, .int (nI (grTo x (nI dz) (bsN x (nI dz) 9)))), (6, .int (nI lz))]) kx kb dL_strokes_77 hl (by decide) rfl (fun ls hl => ?_)
      refine lv_iload kx kb dL_strokes_79 (lv_at hl 0 rfl) ?_
      refine lv_iload kx kb dL_strokes_81 (lv_at hl 5 rfl) ?_
      refine w_cmp_lt (tgt := 99) kx kb (by omega) (by omega) dL_strokes_83 (by decide) (fun c_5 => (show False by omega).elim) (fun c_5 => ?_)
      refine lv_iload kx kb dL_strokes_86 (lv_at hl 0 rfl) ?_
      refine lv_iload kx kb dL_strokes_88 (lv_at hl 5 rfl) ?_
      refine w_cmp_ne (tgt := 101) kx kb (by omega) (by omega) dL_strokes_90 (by decide) (fun c_6 => ?_) (fun c_6 => ?_)
      · refine lv_iinc (v := nI (lz + 1)) (lv' := [(6, .int (nI (lz + 1))), (7, .int (nI (grTo x (nI dz) lz))), (0, .ref (ad 0)), (1, .long (mkF x)), (3, .int (nI (bsN x (nI dz) 9))), (4, .int (nI az)), (5, .int (nI (grTo x (nI dz) (bsN x (nI dz) 9))))]) kx kb dL_strokes_101 hl (k := 6) rfl (nI_add _ _) (by decide) rfl (fun ls hl => ?_)
        refine lv_goto (tgt := 57) kx kb dL_strokes_104 (by decide) ?_
        exact ih_a (lz + 1) _ _ _ ⟨h, lv_sub hl [2, 3, 4, 5, 6, 0] rfl, by omega, by omega⟩ (by omega)
      · refine lv_iload kx kb dL_strokes_93 (lv_at hl 6 rfl) ?_
        refine lv_iload_n kx kb dL_strokes_95 rfl (lv_at hl 3 rfl) ?_
        refine w_cmp_ge (tgt := 101) kx kb (by omega) (by omega) dL_strokes_96 (by decide) (fun c_7 => ?_) (fun c_7 => (show False by omega).elim)
        refine lv_iinc (v := nI (lz + 1)) (lv' := [(6, .int (nI (lz + 1))), (7, .int (nI (grTo x (nI dz) lz))), (0, .ref (ad 0)), (1, .long (mkF x)), (3, .int (nI (bsN x (nI dz) 9))), (4, .int (nI az)), (5, .int (nI (grTo x (nI dz) (bsN x (nI dz) 9))))]) kx kb dL_strokes_101 hl (k := 6) rfl (nI_add _ _) (by decide) rfl (fun ls hl => ?_)
        refine lv_goto (tgt := 57) kx kb dL_strokes_104 (by decide) ?_
        exact ih_a (lz + 1) _ _ _ ⟨h, lv_sub hl [2, 3, 4, 5, 6, 0] rfl, by omega, by omega⟩ (by omega)
