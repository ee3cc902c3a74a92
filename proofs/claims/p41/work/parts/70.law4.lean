/-! what the checks of the orders rest on -/
theorem lb_at {x : SX} (h : Inv x) {a gz : Nat} (ha : a < x.1) (hg : gz ≤ 50) : (if hasJ x.1 (nI a) then (if inW (nI gz) (nI 0) (nI 50) then fb (lfO (x.2.1 3 (cl (nI a))) (x.2.1 4 (cl (nI a))) (nI (cl (nI gz)))) else -2) else -1) = fb (lfO (x.2.1 3 a) (x.2.1 4 a) (nI gz)) := by
  have hn := h.n
  rw [if_pos (hasJ_n ha (by omega)), if_pos (inW_n (Nat.zero_le _) hg (by omega)), cl_n (by omega), cl_n (by omega)]
set_option maxRecDepth 20000 in
theorem c_L_fits (l : Launch) (g : gT) {N : Nat} {ad : Nat → Nat} {F : Nat → va_E} {x sv : SX} {hs : Nat → SX} {ct : Nat} {q : Nat → Int32} (hZ : PZ g N ad F x sv hs ct q 0) (v : Int32)  : CtI l yL_fits cL_fits 4 (some .boolean) 7 171 g N ad F [.ref (ad 0), .int v] (fun r F' => r = nI 1 ∧ ∃ (hs' : Nat → SX) (ct' : Nat) (q' : Nat → Int32), PZ g N ad F' x sv hs' ct' q' 0) := by
  refine CtI_of (by decide) (Nat.le_of_ble_eq_true rfl) ?_
  intro p e s m args below meth c A H ls X M h hl
  have kx := X.1.1
  have kb := X.1.2.1
  have hl : lv_has ls 4 [(0, .ref (ad 0)), (1, .int v)] := hl
  obtain ⟨hN, hO⟩ := hZ.o7
  have hI := hZ.1.1
  have hn12 := hI.n
  have htn64 := hI.tn
  obtain ⟨hz0, hz1a, hz1, hz2, hz3, hz4⟩ := hI.zz
  have hct := hZ.2.2.1
  have hac : x.2.2.2.2.2.2.2 5 = x.1 + x.2.2.1 + x.2.2.2.2.2.2.2 6 := hZ.1.2
  refine lv_aload_n kx kb dL_fits_0 rfl (lv_at hl 0 rfl) ?_
  refine w_readVi X M h [] [] (z_isCounted l hZ) lk_L_138 hO (by omega) rfl rfl ⟨by decide, by decide⟩ hl ⟨Nat.zero_le _, Nat.zero_le _⟩ (Nat.le_of_ble_eq_true rfl) rfl dL_fits_1 (fun H locs h => ?_)
  refine w_if_eqb (tgt := 22) kx kb dL_fits_4 (by decide) (fun c_1 => (c_1 (congrArg nI hac)).elim) (fun c_1 => ?_)
  refine lv_aload_n kx kb dL_fits_7 rfl (lv_at hl 0 rfl) ?_
  refine lv_iload_n kx kb dL_fits_8 rfl (lv_at hl 1 rfl) ?_
  refine w_callSi X M h [.ref (ad 0), .int v] [] (c_L_pumps l g hZ v) lk_L_142 rfl ⟨by decide, by decide⟩ hl ⟨Nat.zero_le _, Nat.zero_le _⟩ (Nat.le_of_ble_eq_true rfl) rfl dL_fits_9 (fun r_F2 F2 H locs hp_F2 h => ?_)
  obtain ⟨er, hs1, ct1, q1, hZ1⟩ := hp_F2
  have hO1 := hZ1.o7.2
  refine w_top (y := nI 1) (er) ?_
  refine lv_if_eq (tgt := 22) kx kb dL_fits_12 (by decide) (fun q => absurd q (by decide)) (fun _ => ?_)
  refine lv_aload_n kx kb dL_fits_15 rfl (lv_at hl 0 rfl) ?_
  refine w_readSi X M h [.ref (ad 0)] [] (c_L_strokes l g hZ1) lk_L_146 rfl ⟨by decide, by decide⟩ hl ⟨Nat.zero_le _, Nat.zero_le _⟩ (Nat.le_of_ble_eq_true rfl) rfl dL_fits_16 (fun H locs h => ?_)
  refine lv_if_ne (tgt := 24) kx kb dL_fits_19 (by decide) (fun _ => ?_) (fun q => absurd q (by decide))
  refine lv_iconst (v := nI 1) kx kb dL_fits_24 (by decide) ?_
  refine lv_istore_n (lv' := [(2, .int (nI 1)), (0, .ref (ad 0)), (1, .int v)]) kx kb dL_fits_25 rfl hl (by decide) rfl (fun ls hl => ?_)
  refine w_loop1 (fun (dz : Nat) => 31 - dz) (fun (dz : Nat) H locs ls => Hx g N ad F2 A s H locs ∧ lv_has ls 4 [(0, .ref (ad 0)), (2, .int (nI dz))] ∧ (1 ≤ dz) ∧ (dz ≤ 31)) ?_ 1 ⟨h, lv_sub hl [1, 0] rfl, by omega, by omega⟩
  intro dz H locs ls hinv ih_a
  obtain ⟨h, hl, hdz1, hdz⟩ := hinv
  refine lv_iload_n kx kb dL_fits_26 rfl (lv_at hl 1 rfl) ?_
  refine lv_bipush (v := nI 31) kx kb dL_fits_27 (by decide) ?_
  refine w_cmp_ge (tgt := 53) kx kb (by omega) (by omega) dL_fits_29 (by decide) (fun c_3 => ?_) (fun c_3 => ?_)
  · refine lv_iconst (v := nI 1) kx kb dL_fits_53 (by decide) ?_
    refine lv_istore_n (lv' := [(2, .int (nI 1)), (0, .ref (ad 0))]) kx kb dL_fits_54 rfl hl (by decide) rfl (fun ls hl => ?_)
    refine w_loop1 (fun (kz : Nat) => 12 - kz) (fun (kz : Nat) H locs ls => Hx g N ad F2 A s H locs ∧ lv_has ls 4 [(0, .ref (ad 0)), (2, .int (nI kz))] ∧ (1 ≤ kz) ∧ (kz ≤ 12)) ?_ 1 ⟨h, lv_sub hl [1, 0] rfl, by omega, by omega⟩
    intro kz H locs ls hinv ih_b
    obtain ⟨h, hl, hkz1, hkz⟩ := hinv
    refine lv_iload_n kx kb dL_fits_55 rfl (lv_at hl 1 rfl) ?_
    refine lv_aload_n kx kb dL_fits_56 rfl (lv_at hl 0 rfl) ?_
    refine lv_iconst (v := nI 0) kx kb dL_fits_57 (by decide) ?_
    refine w_readVi X M h [.int (nI 0)] [.int (nI kz)] (z_account l hZ1 (nI 0)) lk_L_31 hO1 (by omega) rfl rfl ⟨by decide, by decide⟩ hl ⟨Nat.zero_le _, Nat.zero_le _⟩ (Nat.le_of_ble_eq_true rfl) rfl dL_fits_58 (fun H locs h => ?_)
    refine w_top (y := nI x.1) (acc_k.1) ?_
    refine w_cmp_ge (tgt := 114) kx kb (by omega) (by omega) dL_fits_61 (by decide) (fun c_4 => ?_) (fun c_4 => ?_)
    · refine lv_iconst (v := nI 0) kx kb dL_fits_114 (by decide) ?_
      refine lv_istore_n (lv' := [(2, .int (nI 0)), (0, .ref (ad 0))]) kx kb dL_fits_115 rfl hl (by decide) rfl (fun ls hl => ?_)
      refine w_loop1 (fun (wz : Nat) => 4 - wz) (fun (wz : Nat) H locs ls => Hx g N ad F2 A s H locs ∧ lv_has ls 4 [(0, .ref (ad 0)), (2, .int (nI wz))] ∧ (wz ≤ 4)) ?_ 0 ⟨h, lv_sub hl [1, 0] rfl, by omega⟩
      intro wz H locs ls hinv ih_c
      obtain ⟨h, hl, hwz⟩ := hinv
      refine lv_iload_n kx kb dL_fits_116 rfl (lv_at hl 1 rfl) ?_
      refine lv_iconst (v := nI 4) kx kb dL_fits_117 (by decide) ?_
      refine w_cmp_ge (tgt := 205) kx kb (by omega) (by omega) dL_fits_118 (by decide) (fun c_5 => ?_) (fun c_5 => ?_)
      · refine lv_aload_n kx kb dL_fits_205 rfl (lv_at hl 0 rfl) ?_
        refine lv_bipush (v := nI 7) kx kb dL_fits_206 (by decide) ?_
        refine w_readVi X M h [.int (nI 7)] [] (z_account l hZ1 (nI 7)) lk_L_31 hO1 (by omega) rfl rfl ⟨by decide, by decide⟩ hl ⟨Nat.zero_le _, Nat.zero_le _⟩ (Nat.le_of_ble_eq_true rfl) rfl dL_fits_208 (fun H locs h => ?_)
        refine w_top (y := nI (x.2.2.2.2.2.2.2 5)) (acc_k.2.2.2.2.2.1) ?_
        refine lv_aload_n kx kb dL_fits_211 rfl (lv_at hl 0 rfl) ?_
        refine lv_iconst (v := nI 0) kx kb dL_fits_212 (by decide) ?_
        refine w_readVi X M h [.int (nI 0)] [.int (nI (x.2.2.2.2.2.2.2 5))] (z_account l hZ1 (nI 0)) lk_L_31 hO1 (by omega) rfl rfl ⟨by decide, by decide⟩ hl ⟨Nat.zero_le _, Nat.zero_le _⟩ (Nat.le_of_ble_eq_true rfl) rfl dL_fits_213 (fun H locs h => ?_)
        refine w_top (y := nI x.1) (acc_k.1) ?_
        refine lv_aload_n kx kb dL_fits_216 rfl (lv_at hl 0 rfl) ?_
        refine lv_bipush (v := nI 6) kx kb dL_fits_217 (by decide) ?_
        refine w_readVi X M h [.int (nI 6)] [.int (nI x.1), .int (nI (x.2.2.2.2.2.2.2 5))] (z_account l hZ1 (nI 6)) lk_L_31 hO1 (by omega) rfl rfl ⟨by decide, by decide⟩ hl ⟨Nat.zero_le _, Nat.zero_le _⟩ (Nat.le_of_ble_eq_true rfl) rfl dL_fits_219 (fun H locs h => ?_)
        refine w_top (y := nI x.2.2.1) (acc_k.2.2.2.2.1) ?_
        refine w_addn kx kb dL_fits_222 ?_
        refine lv_aload_n kx kb dL_fits_223 rfl (lv_at hl 0 rfl) ?_
        refine lv_bipush (v := nI 8) kx kb dL_fits_224 (by decide) ?_
        refine w_readVi X M h [.int (nI 8)] [.int (nI (x.1 + x.2.2.1)), .int (nI (x.2.2.2.2.2.2.2 5))] (z_account l hZ1 (nI 8)) lk_L_31 hO1 (by omega) rfl rfl ⟨by decide, by decide⟩ hl ⟨Nat.zero_le _, Nat.zero_le _⟩ (Nat.le_of_ble_eq_true rfl) rfl dL_fits_226 (fun H locs h => ?_)
        refine w_top (y := nI (x.2.2.2.2.2.2.2 6)) (acc_k.2.2.2.2.2.2.1) ?_
        refine w_addn kx kb dL_fits_229 ?_
        refine lv_icmp_ne (tgt := 249) kx kb dL_fits_230 (by decide) (fun c_6 => (c_6 (congrArg nI hac)).elim) (fun c_6 => ?_)
        refine lv_aload_n kx kb dL_fits_233 rfl (lv_at hl 0 rfl) ?_
        refine w_readVi X M h [] [] (z_wholeLaughs l hZ1) lk_L_164 hO1 (by omega) rfl rfl ⟨by decide, by decide⟩ hl ⟨Nat.zero_le _, Nat.zero_le _⟩ (Nat.le_of_ble_eq_true rfl) rfl dL_fits_234 (fun H locs h => ?_)
        refine lv_aload_n kx kb dL_fits_237 rfl (lv_at hl 0 rfl) ?_
        refine w_readVf X M h [] [.int (FP.f2i x.2.2.2.1)] (z_laughs l hZ1) lk_L_47 hO1 (by omega) rfl rfl ⟨by decide, by decide⟩ hl ⟨Nat.zero_le _, Nat.zero_le _⟩ (Nat.le_of_ble_eq_true rfl) rfl dL_fits_238 (fun H locs h => ?_)
        refine lv_f2i kx kb dL_fits_241 ?_
        refine lv_icmp_ne (tgt := 249) kx kb dL_fits_242 (by decide) (fun c_7 => (c_7 rfl).elim) (fun c_7 => ?_)
        refine lv_iconst (v := nI 1) kx kb dL_fits_245 (by decide) ?_
        refine lv_goto (tgt := 250) kx kb dL_fits_246 (by decide) ?_
        exact w_zret X h (Or.inr (by decide)) ⟨rfl, _, _, _, hZ1⟩ dL_fits_250
      · have hcw := cnt_le (cwP x.2.1 (nI wz) (nI 30)) x.1
        refine lv_iconst (v := nI 1) kx kb dL_fits_121 (by decide) ?_
        refine lv_istore_n (lv' := [(3, .int (nI 1)), (0, .ref (ad 0)), (2, .int (nI wz))]) kx kb dL_fits_122 rfl hl (by decide) rfl (fun ls hl => ?_)
        refine w_loop1 (fun (kz : Nat) => 12 - kz) (fun (kz : Nat) H locs ls => Hx g N ad F2 A s H locs ∧ lv_has ls 4 [(0, .ref (ad 0)), (2, .int (nI wz)), (3, .int (nI kz))] ∧ (1 ≤ kz) ∧ (kz ≤ 12)) ?_ 1 ⟨h, lv_sub hl [1, 2, 0] rfl, by omega, by omega⟩
        intro kz H locs ls hinv ih_d
        obtain ⟨h, hl, hkz1, hkz⟩ := hinv
        refine lv_iload_n kx kb dL_fits_123 rfl (lv_at hl 2 rfl) ?_
        refine lv_aload_n kx kb dL_fits_124 rfl (lv_at hl 0 rfl) ?_
        refine lv_iload_n kx kb dL_fits_125 rfl (lv_at hl 1 rfl) ?_
        refine lv_iconst (v := nI 1) kx kb dL_fits_126 (by decide) ?_
        refine w_readVi X M h [.int (nI wz), .int (nI 1)] [.int (nI kz)] (z_wellOf l hZ1 (nI wz) (nI 1)) lk_L_44 hO1 (by omega) rfl rfl ⟨by decide, by decide⟩ hl ⟨Nat.zero_le _, Nat.zero_le _⟩ (Nat.le_of_ble_eq_true rfl) rfl dL_fits_127 (fun H locs h => ?_)
        refine w_top (y := nI (cnt (cwP x.2.1 (nI wz) (nI 30)) x.1)) (wl_1 (by omega)) ?_
        refine w_cmp_ge (tgt := 168) kx kb (by omega) (by omega) dL_fits_130 (by decide) (fun c_8 => ?_) (fun c_8 => ?_)
        · refine lv_iload_n kx kb dL_fits_168 rfl (lv_at hl 1 rfl) ?_
          refine w_if_le (tgt := 199) kx kb (by omega) dL_fits_169 (by decide) (fun c_9 => ?_) (fun c_9 => ?_)
          · refine lv_iinc (v := nI (wz + 1)) (lv' := [(2, .int (nI (wz + 1))), (0, .ref (ad 0)), (3, .int (nI kz))]) kx kb dL_fits_199 hl (k := 1) rfl (nI_add _ _) (by decide) rfl (fun ls hl => ?_)
            refine lv_goto (tgt := 116) kx kb dL_fits_202 (by decide) ?_
            exact ih_c (wz + 1) _ _ _ ⟨h, lv_sub hl [1, 0] rfl, by omega⟩ (by omega)
          · obtain ⟨az, bz, haz, hbz, eaz, ebz, hfl⟩ := ful_down hI (k := wz) (by omega) (by omega)
            have hca := cnt_le (cwP x.2.1 (nI az) (nI 30)) x.1
            have hcb := cnt_le (cwP x.2.1 (nI bz) (nI 30)) x.1
            refine lv_aload_n kx kb dL_fits_172 rfl (lv_at hl 0 rfl) ?_
            refine lv_aload_n kx kb dL_fits_173 rfl (lv_at hl 0 rfl) ?_
            refine lv_iload_n kx kb dL_fits_174 rfl (lv_at hl 1 rfl) ?_
            refine w_readVi X M h [.int (nI wz)] [.ref (ad 0)] (z_fullest l hZ1 (nI wz)) lk_L_161 hO1 (by omega) rfl rfl ⟨by decide, by decide⟩ hl ⟨Nat.zero_le _, Nat.zero_le _⟩ (Nat.le_of_ble_eq_true rfl) rfl dL_fits_175 (fun H locs h => ?_)
            refine w_top (y := nI bz) (ebz) ?_
            refine lv_iconst (v := nI 1) kx kb dL_fits_178 (by decide) ?_
            refine w_readVi X M h [.int (nI bz), .int (nI 1)] [] (z_wellOf l hZ1 (nI bz) (nI 1)) lk_L_44 hO1 (by omega) rfl rfl ⟨by decide, by decide⟩ hl ⟨Nat.zero_le _, Nat.zero_le _⟩ (Nat.le_of_ble_eq_true rfl) rfl dL_fits_179 (fun H locs h => ?_)
            refine w_top (y := nI (cnt (cwP x.2.1 (nI bz) (nI 30)) x.1)) (wl_1 (by omega)) ?_
            refine lv_aload_n kx kb dL_fits_182 rfl (lv_at hl 0 rfl) ?_
            refine lv_aload_n kx kb dL_fits_183 rfl (lv_at hl 0 rfl) ?_
            refine lv_iload_n kx kb dL_fits_184 rfl (lv_at hl 1 rfl) ?_
            refine lv_iconst (v := nI 1) kx kb dL_fits_185 (by decide) ?_
            refine w_subn kx kb (by omega) dL_fits_186 ?_
            refine w_readVi X M h [.int (nI (wz - 1))] [.ref (ad 0), .int (nI (cnt (cwP x.2.1 (nI bz) (nI 30)) x.1))] (z_fullest l hZ1 (nI (wz - 1))) lk_L_161 hO1 (by omega) rfl rfl ⟨by decide, by decide⟩ hl ⟨Nat.zero_le _, Nat.zero_le _⟩ (Nat.le_of_ble_eq_true rfl) rfl dL_fits_187 (fun H locs h => ?_)
            refine w_top (y := nI az) (eaz) ?_
            refine lv_iconst (v := nI 1) kx kb dL_fits_190 (by decide) ?_
            refine w_readVi X M h [.int (nI az), .int (nI 1)] [.int (nI (cnt (cwP x.2.1 (nI bz) (nI 30)) x.1))] (z_wellOf l hZ1 (nI az) (nI 1)) lk_L_44 hO1 (by omega) rfl rfl ⟨by decide, by decide⟩ hl ⟨Nat.zero_le _, Nat.zero_le _⟩ (Nat.le_of_ble_eq_true rfl) rfl dL_fits_191 (fun H locs h => ?_)
            refine w_top (y := nI (cnt (cwP x.2.1 (nI az) (nI 30)) x.1)) (wl_1 (by omega)) ?_
            refine w_cmp_le (tgt := 199) kx kb (by omega) (by omega) dL_fits_194 (by decide) (fun c_10 => ?_) (fun c_10 => (show False by omega).elim)
            refine lv_iinc (v := nI (wz + 1)) (lv' := [(2, .int (nI (wz + 1))), (0, .ref (ad 0)), (3, .int (nI kz))]) kx kb dL_fits_199 hl (k := 1) rfl (nI_add _ _) (by decide) rfl (fun ls hl => ?_)
            refine lv_goto (tgt := 116) kx kb dL_fits_202 (by decide) ?_
            exact ih_c (wz + 1) _ _ _ ⟨h, lv_sub hl [1, 0] rfl, by omega⟩ (by omega)
        · obtain ⟨az, bz, haz, hbz, eaz, ebz, hup⟩ := well_up hI (w := nI wz) hkz1 (by omega)
          refine lv_aload_n kx kb dL_fits_133 rfl (lv_at hl 0 rfl) ?_
          refine lv_aload_n kx kb dL_fits_134 rfl (lv_at hl 0 rfl) ?_
          refine lv_iload_n kx kb dL_fits_135 rfl (lv_at hl 1 rfl) ?_
          refine lv_iload_n kx kb dL_fits_136 rfl (lv_at hl 2 rfl) ?_
          refine w_readVi X M h [.int (nI wz), .int (nI kz)] [.ref (ad 0)] (z_inWell l hZ1 (nI wz) (nI kz)) lk_L_128 hO1 (by omega) rfl rfl ⟨by decide, by decide⟩ hl ⟨Nat.zero_le _, Nat.zero_le _⟩ (Nat.le_of_ble_eq_true rfl) rfl dL_fits_137 (fun H locs h => ?_)
          refine w_top (y := nI bz) ((iw_z (by omega)).trans ebz) ?_
          refine lv_iconst (v := nI 1) kx kb dL_fits_140 (by decide) ?_
          refine w_readVi X M h [.int (nI bz), .int (nI 1)] [] (z_jokeOf l hZ1 (nI bz) (nI 1)) lk_L_35 hO1 (by omega) rfl rfl ⟨by decide, by decide⟩ hl ⟨Nat.zero_le _, Nat.zero_le _⟩ (Nat.le_of_ble_eq_true rfl) rfl dL_fits_141 (fun H locs h => ?_)
          refine w_top (y := x.2.1 1 bz) (jk_1 hbz hn12) ?_
          refine lv_aload_n kx kb dL_fits_144 rfl (lv_at hl 0 rfl) ?_
          refine lv_aload_n kx kb dL_fits_145 rfl (lv_at hl 0 rfl) ?_
          refine lv_iload_n kx kb dL_fits_146 rfl (lv_at hl 1 rfl) ?_
          refine lv_iload_n kx kb dL_fits_147 rfl (lv_at hl 2 rfl) ?_
          refine lv_iconst (v := nI 1) kx kb dL_fits_148 (by decide) ?_
          refine w_subn kx kb (by omega) dL_fits_149 ?_
          refine w_readVi X M h [.int (nI wz), .int (nI (kz - 1))] [.ref (ad 0), .int (x.2.1 1 bz)] (z_inWell l hZ1 (nI wz) (nI (kz - 1))) lk_L_128 hO1 (by omega) rfl rfl ⟨by decide, by decide⟩ hl ⟨Nat.zero_le _, Nat.zero_le _⟩ (Nat.le_of_ble_eq_true rfl) rfl dL_fits_150 (fun H locs h => ?_)
          refine w_top (y := nI az) ((iw_z (by omega)).trans eaz) ?_
          refine lv_iconst (v := nI 1) kx kb dL_fits_153 (by decide) ?_
          refine w_readVi X M h [.int (nI az), .int (nI 1)] [.int (x.2.1 1 bz)] (z_jokeOf l hZ1 (nI az) (nI 1)) lk_L_35 hO1 (by omega) rfl rfl ⟨by decide, by decide⟩ hl ⟨Nat.zero_le _, Nat.zero_le _⟩ (Nat.le_of_ble_eq_true rfl) rfl dL_fits_154 (fun H locs h => ?_)
          refine w_top (y := x.2.1 1 az) (jk_1 haz hn12) ?_
          refine lv_icmp_gt (tgt := 162) kx kb dL_fits_157 (by decide) (fun c_11 => ?_) (fun c_11 => (hup (Int32.not_lt.mp c_11)).elim)
          refine lv_iinc (v := nI (kz + 1)) (lv' := [(3, .int (nI (kz + 1))), (0, .ref (ad 0)), (2, .int (nI wz))]) kx kb dL_fits_162 hl (k := 2) rfl (nI_add _ _) (by decide) rfl (fun ls hl => ?_)
          refine lv_goto (tgt := 123) kx kb dL_fits_165 (by decide) ?_
          exact ih_d (kz + 1) _ _ _ ⟨h, lv_sub hl [1, 2, 0] rfl, by omega, by omega⟩ (by omega)
    · obtain ⟨az, bz, haz, hbz, eaz, ebz, hcm⟩ := fun_down hI hkz1 (by omega)
      refine lv_aload_n kx kb dL_fits_64 rfl (lv_at hl 0 rfl) ?_
      refine lv_aload_n kx kb dL_fits_65 rfl (lv_at hl 0 rfl) ?_
      refine lv_iload_n kx kb dL_fits_66 rfl (lv_at hl 1 rfl) ?_
      refine lv_iconst (v := nI 1) kx kb dL_fits_67 (by decide) ?_
      refine w_subn kx kb (by omega) dL_fits_68 ?_
      refine w_readVi X M h [.int (nI (kz - 1))] [.ref (ad 0)] (z_funniest l hZ1 (nI (kz - 1))) lk_L_155 hO1 (by omega) rfl rfl ⟨by decide, by decide⟩ hl ⟨Nat.zero_le _, Nat.zero_le _⟩ (Nat.le_of_ble_eq_true rfl) rfl dL_fits_69 (fun H locs h => ?_)
      refine w_top (y := nI az) (eaz) ?_
      refine lv_aload_n kx kb dL_fits_72 rfl (lv_at hl 0 rfl) ?_
      refine lv_iconst (v := nI 4) kx kb dL_fits_73 (by decide) ?_
      refine w_readVi X M h [.int (nI 4)] [.int (nI az), .ref (ad 0)] (z_account l hZ1 (nI 4)) lk_L_31 hO1 (by omega) rfl rfl ⟨by decide, by decide⟩ hl ⟨Nat.zero_le _, Nat.zero_le _⟩ (Nat.le_of_ble_eq_true rfl) rfl dL_fits_74 (fun H locs h => ?_)
      refine w_top (y := nI (x.2.2.2.2.2.2.2 3)) (acc_k.2.2.2.1) ?_
      refine w_readVi X M h [.int (nI az), .int (nI (x.2.2.2.2.2.2.2 3))] [] (z_laughBits l hZ1 (nI az) (nI (x.2.2.2.2.2.2.2 3))) lk_L_158 hO1 (by omega) rfl rfl ⟨by decide, by decide⟩ hl ⟨Nat.zero_le _, Nat.zero_le _⟩ (Nat.le_of_ble_eq_true rfl) rfl dL_fits_77 (fun H locs h => ?_)
      refine w_top (y := fb (laX x az)) (lb_at hI haz (by omega)) ?_
      refine w_i2fb X hl q3_236 ⟨by decide, by decide⟩ (Nat.le_of_ble_eq_true rfl) (v := laX x az) ((hI.isl haz (by show x.2.2.2.2.2.2.2 3 ≤ 50; omega)).nn) dL_fits_80 ?_
      refine lv_fstore_n (lv' := [(3, .float (laX x az)), (0, .ref (ad 0)), (2, .int (nI kz))]) kx kb dL_fits_83 rfl hl (by decide) rfl (fun ls hl => ?_)
      refine lv_aload_n kx kb dL_fits_84 rfl (lv_at hl 1 rfl) ?_
      refine lv_aload_n kx kb dL_fits_85 rfl (lv_at hl 1 rfl) ?_
      refine lv_iload_n kx kb dL_fits_86 rfl (lv_at hl 2 rfl) ?_
      refine w_readVi X M h [.int (nI kz)] [.ref (ad 0)] (z_funniest l hZ1 (nI kz)) lk_L_155 hO1 (by omega) rfl rfl ⟨by decide, by decide⟩ hl ⟨Nat.zero_le _, Nat.zero_le _⟩ (Nat.le_of_ble_eq_true rfl) rfl dL_fits_87 (fun H locs h => ?_)
      refine w_top (y := nI bz) (ebz) ?_
      refine lv_aload_n kx kb dL_fits_90 rfl (lv_at hl 1 rfl) ?_
      refine lv_iconst (v := nI 4) kx kb dL_fits_91 (by decide) ?_
      refine w_readVi X M h [.int (nI 4)] [.int (nI bz), .ref (ad 0)] (z_account l hZ1 (nI 4)) lk_L_31 hO1 (by omega) rfl rfl ⟨by decide, by decide⟩ hl ⟨Nat.zero_le _, Nat.zero_le _⟩ (Nat.le_of_ble_eq_true rfl) rfl dL_fits_92 (fun H locs h => ?_)
      refine w_top (y := nI (x.2.2.2.2.2.2.2 3)) (acc_k.2.2.2.1) ?_
      refine w_readVi X M h [.int (nI bz), .int (nI (x.2.2.2.2.2.2.2 3))] [] (z_laughBits l hZ1 (nI bz) (nI (x.2.2.2.2.2.2.2 3))) lk_L_158 hO1 (by omega) rfl rfl ⟨by decide, by decide⟩ hl ⟨Nat.zero_le _, Nat.zero_le _⟩ (Nat.le_of_ble_eq_true rfl) rfl dL_fits_95 (fun H locs h => ?_)
      refine w_top (y := fb (laX x bz)) (lb_at hI hbz (by omega)) ?_
      refine w_i2fb X hl q3_236 ⟨by decide, by decide⟩ (Nat.le_of_ble_eq_true rfl) (v := laX x bz) ((hI.isl hbz (by show x.2.2.2.2.2.2.2 3 ≤ 50; omega)).nn) dL_fits_98 ?_
      refine lv_fload_n kx kb dL_fits_101 rfl (lv_at hl 0 rfl) ?_
      refine lv_fcmp kx kb dL_fits_102 ?_
      refine lv_if_le (tgt := 108) kx kb dL_fits_103 (by decide) (fun c_12 => ?_) (fun c_12 => (hcm (Int32.not_le.mp c_12)).elim)
      refine lv_iinc (v := nI (kz + 1)) (lv' := [(2, .int (nI (kz + 1))), (3, .float (laX x az)), (0, .ref (ad 0))]) kx kb dL_fits_108 hl (k := 2) rfl (nI_add _ _) (by decide) rfl (fun ls hl => ?_)
      refine lv_goto (tgt := 55) kx kb dL_fits_111 (by decide) ?_
      exact ih_b (kz + 1) _ _ _ ⟨h, lv_sub hl [2, 0] rfl, by omega, by omega⟩ (by omega)
  · refine lv_aload_n kx kb dL_fits_32 rfl (lv_at hl 0 rfl) ?_
    refine lv_iload_n kx kb dL_fits_33 rfl (lv_at hl 1 rfl) ?_
    refine w_readVi X M h [.int (nI dz)] [] (z_strokes l hZ1 (nI dz)) lk_L_150 hO1 (by omega) rfl rfl ⟨by decide, by decide⟩ hl ⟨Nat.zero_le _, Nat.zero_le _⟩ (Nat.le_of_ble_eq_true rfl) rfl dL_fits_34 (fun H locs h => ?_)
    refine lv_aload_n kx kb dL_fits_37 rfl (lv_at hl 0 rfl) ?_
    refine lv_iload_n kx kb dL_fits_38 rfl (lv_at hl 1 rfl) ?_
    refine w_readVi X M h [.int (nI dz)] [.int (strokesF x (nI dz))] (z_strokesAgain l hZ1 (nI dz)) lk_L_152 hO1 (by omega) rfl rfl ⟨by decide, by decide⟩ hl ⟨Nat.zero_le _, Nat.zero_le _⟩ (Nat.le_of_ble_eq_true rfl) rfl dL_fits_39 (fun H locs h => ?_)
    refine lv_icmp_eq (tgt := 47) kx kb dL_fits_42 (by decide) (fun c_13 => ?_) (fun c_13 => (c_13 (strokes_eq hI _)).elim)
    refine lv_iinc (v := nI (dz + 1)) (lv' := [(2, .int (nI (dz + 1))), (0, .ref (ad 0))]) kx kb dL_fits_47 hl (k := 1) rfl (nI_add _ _) (by decide) rfl (fun ls hl => ?_)
    refine lv_goto (tgt := 26) kx kb dL_fits_50 (by decide) ?_
    exact ih_a (dz + 1) _ _ _ ⟨h, lv_sub hl [1, 0] rfl, by omega, by omega⟩ (by omega)
