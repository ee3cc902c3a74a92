/-! what the checks of a pump's call rest on -/
theorem wd_n {x : SX} (h : Inv x) {n : Nat} (hn : n ≤ 20) : wouldF x (nI n) = nI (runN n x) := by
  rw [would_eq h, if_pos (inW_n (Nat.zero_le _) hn (by omega)), cl_n (by omega)]
theorem gi_n {x : SX} (h : Inv x) {n : Nat} (hn : n ≤ 20) : groansInF x (nI n) = nI ((runX n x).2.2.2.2.2.2.2 3) := by
  rw [groans_eq h, if_pos (inW_n (Nat.zero_le _) hn (by omega)), cl_n (by omega)]
theorem lf_n {x : SX} {lb : Nat → Int32} {k : Nat} (hk : k < x.2.2.1) (ht : x.2.2.1 ≤ 64) : liftedF x (nI k) (nI 2) lb = lb (x.2.2.1 - 1 - k) ∧ liftedF x (nI k) (nI 1) lb = x.2.2.2.2.1 1 (x.2.2.1 - 1 - k) ∧ liftedF x (nI k) (nI 0) lb = x.2.2.2.2.1 0 (x.2.2.1 - 1 - k) := by
  have hw : inW (nI k) (nI 0) (nI (xtn x) - nI 1) := inW_npl hk (by show x.2.2.1 < 1000; omega)
  refine ⟨?_, ?_, ?_⟩
  · rw [liftedF, if_pos hw, if_neg (by decide), if_neg (by decide), if_pos rfl, cl_n (by omega)]
  · rw [liftedF, if_pos hw, if_neg (by decide), if_pos rfl, cl_n (by omega)]
  · rw [liftedF, if_pos hw, if_pos rfl, cl_n (by omega)]
theorem kn_1 {x : SX} {sz : Nat} (hs : sz < 64) : isKnownF x (nI sz) = x.2.2.2.2.1 2 sz := by
  rw [isKnownF, if_pos (inW_n (Nat.zero_le _) (by omega) (by omega)), cl_n (by omega)]
theorem nj_3 {x : SX} {sz : Nat} (hs : sz < 64) (e : x.2.2.2.2.1 2 sz = nI 1) : notJokeF x (nI 0) (nI 29) (nI sz) (nI 1) = ntF (nI 3) (nI sz) := by
  rw [notJokeF, if_pos (inW_n (Nat.zero_le _) (by omega) (by omega)), if_pos (inW_n (by omega) (by omega) (by omega)), if_pos (inW_n (Nat.zero_le _) (by omega) (by omega)), if_pos (inW_n (by omega) (by omega) (by omega)), cl_n (by omega), e, if_neg (by decide)]
theorem rs_3 {q : Nat → Int32} {d : Int32} : reasonF (qRef q (nI 3) d) (nI 0) (nI 0) = nI 3 := by
  rw [reasonF, if_pos (inW_n (Nat.zero_le _) (by omega) (by omega)), if_neg (show ¬ qRef q (nI 3) d 2 = 0 from (show ¬ nI 3 = 0 by decide)), if_pos (show nI 0 = 0 by decide), if_pos (show nI 0 = 0 by decide)]
  rfl
theorem np_0 {x : SX} {n : Nat} (h1 : 1 ≤ n) (h9 : n ≤ 9) (c : x.2.2.2.2.2.2.2 3 ≤ 40) : (notPumpF x (nI n)).1 = 0 := by
  rw [notPumpF, if_pos (inW_n h1 h9 (by omega)), if_pos c]
  rfl
theorem np_8 {x : SX} {n : Nat} (h1 : 1 ≤ n) (h9 : n ≤ 9) (c : ¬ x.2.2.2.2.2.2.2 3 ≤ 40) : notPumpF x (nI n) = ntF (nI 8) (nI (x.2.2.2.2.2.2.2 3)) := by
  rw [notPumpF, if_pos (inW_n h1 h9 (by omega)), if_neg c]
set_option maxRecDepth 20000 in
theorem c_L_pumps (l : Launch) (g : gT) {N : Nat} {ad : Nat → Nat} {F : Nat → va_E} {x sv : SX} {hs : Nat → SX} {ct : Nat} {q : Nat → Int32} (hZ : PZ g N ad F x sv hs ct q 0) (v : Int32)  : CtI l yL_pumps cL_pumps 13 (some .boolean) 6 139 g N ad F [.ref (ad 0), .int v] (fun r F' => r = nI 1 ∧ ∃ (hs' : Nat → SX) (ct' : Nat) (q' : Nat → Int32), PZ g N ad F' x sv hs' ct' q' 0) := by
  refine CtI_of (by decide) (Nat.le_of_ble_eq_true rfl) ?_
  intro p e s m args below meth c A H ls X M h hl
  have kx := X.1.1
  have kb := X.1.2.1
  have hl : lv_has ls 13 [(0, .ref (ad 0)), (1, .int v)] := hl
  obtain ⟨hN, hO⟩ := hZ.o7
  have hI := hZ.1.1
  have hn12 := hI.n
  have htn64 := hI.tn
  obtain ⟨hz0, hz1a, hz1, hz2, hz3, hz4⟩ := hI.zz
  have hct := hZ.2.2.1
  refine lv_iconst (v := nI 1) kx kb dL_pumps_0 (by decide) ?_
  refine lv_iload_n kx kb dL_pumps_1 rfl (lv_at hl 1 rfl) ?_
  refine lv_bipush (v := nI 9) kx kb dL_pumps_2 (by decide) ?_
  refine w_readSi X M h [.int v, .int (nI 9)] [.int (nI 1)] (c_L_chosen l g v 9 (by omega) (by omega)) lk_L_58 rfl ⟨by decide, by decide⟩ hl ⟨Nat.zero_le _, Nat.zero_le _⟩ (Nat.le_of_ble_eq_true rfl) rfl dL_pumps_4 (fun H locs h => ?_)
  refine w_addn kx kb dL_pumps_7 ?_
  have hch := chN_lt (v := v) (n := 9) (by decide)
  obtain ⟨nz, hn1, hn9, enz⟩ : ∃ nz : Nat, 1 ≤ nz ∧ nz ≤ 9 ∧ 1 + (chN v 9) = nz := ⟨_, by omega, by omega, rfl⟩
  rw [enz]
  obtain ⟨yz, eyz⟩ : ∃ yz : SX, runX nz x = yz := ⟨_, rfl⟩
  obtain ⟨kz, ekz⟩ : ∃ kz : Nat, runN nz x = kz := ⟨_, rfl⟩
  have hE : ExtT x yz kz := by
    rw [← eyz, ← ekz]
    exact ext_run nz hI
  have hCn : cnt (cwP yz.2.1 (nI (x.2.2.2.2.2.2.2 0)) (nI 30)) yz.1 + kz = cnt (cwP x.2.1 (nI (x.2.2.2.2.2.2.2 0)) (nI 30)) x.1 := by
    rw [← eyz, ← ekz]
    exact run_cnt nz hI
  have hk45 : kz ≤ 45 := by
    have := runN_le nz hI
    omega
  have hcl := cnt_le (cwP x.2.1 (nI (x.2.2.2.2.2.2.2 0)) (nI 30)) x.1
  refine lv_istore_n (lv' := [(2, .int (nI nz)), (0, .ref (ad 0)), (1, .int v)]) kx kb dL_pumps_8 rfl hl (by decide) rfl (fun ls hl => ?_)
  refine lv_aload_n kx kb dL_pumps_9 rfl (lv_at hl 1 rfl) ?_
  refine w_readSl X M h [.ref (ad 0)] [] (c_L_mark l g hZ) lk_L_101 rfl ⟨by decide, by decide⟩ hl ⟨Nat.zero_le _, Nat.zero_le _⟩ (Nat.le_of_ble_eq_true rfl) rfl dL_pumps_10 (fun H locs h => ?_)
  refine lv_lstore_n (lv' := [(3, .long (mkF x)), (2, .int (nI nz)), (0, .ref (ad 0)), (1, .int v)]) kx kb dL_pumps_13 rfl hl (by decide) rfl (fun ls hl => ?_)
  refine lv_aload_n kx kb dL_pumps_14 rfl (lv_at hl 2 rfl) ?_
  refine lv_iload_n kx kb dL_pumps_15 rfl (lv_at hl 1 rfl) ?_
  refine w_readVi X M h [.int (nI nz)] [] (z_would l hZ (nI nz)) lk_L_105 hO (by omega) rfl rfl ⟨by decide, by decide⟩ hl ⟨Nat.zero_le _, Nat.zero_le _⟩ (Nat.le_of_ble_eq_true rfl) rfl dL_pumps_16 (fun H locs h => ?_)
  refine w_top (y := nI kz) ((wd_n hI (by omega)).trans (by rw [ekz])) ?_
  refine lv_istore (lv' := [(5, .int (nI kz)), (3, .long (mkF x)), (2, .int (nI nz)), (0, .ref (ad 0)), (1, .int v)]) kx kb dL_pumps_19 hl (by decide) rfl (fun ls hl => ?_)
  refine lv_aload_n kx kb dL_pumps_21 rfl (lv_at hl 3 rfl) ?_
  refine lv_iload_n kx kb dL_pumps_22 rfl (lv_at hl 2 rfl) ?_
  refine w_readVi X M h [.int (nI nz)] [] (z_groansIn l hZ (nI nz)) lk_L_108 hO (by omega) rfl rfl ⟨by decide, by decide⟩ hl ⟨Nat.zero_le _, Nat.zero_le _⟩ (Nat.le_of_ble_eq_true rfl) rfl dL_pumps_23 (fun H locs h => ?_)
  refine w_top (y := nI (yz.2.2.2.2.2.2.2 3)) ((gi_n hI (by omega)).trans (by rw [eyz])) ?_
  refine lv_istore (lv' := [(6, .int (nI (yz.2.2.2.2.2.2.2 3))), (5, .int (nI kz)), (3, .long (mkF x)), (2, .int (nI nz)), (0, .ref (ad 0)), (1, .int v)]) kx kb dL_pumps_26 hl (by decide) rfl (fun ls hl => ?_)
  refine lv_aload_n kx kb dL_pumps_28 rfl (lv_at hl 4 rfl) ?_
  refine lv_bipush (v := nI 6) kx kb dL_pumps_29 (by decide) ?_
  refine w_readVi X M h [.int (nI 6)] [] (z_account l hZ (nI 6)) lk_L_31 hO (by omega) rfl rfl ⟨by decide, by decide⟩ hl ⟨Nat.zero_le _, Nat.zero_le _⟩ (Nat.le_of_ble_eq_true rfl) rfl dL_pumps_31 (fun H locs h => ?_)
  refine w_top (y := nI x.2.2.1) (acc_k.2.2.2.2.1) ?_
  refine lv_istore (lv' := [(7, .int (nI x.2.2.1)), (6, .int (nI (yz.2.2.2.2.2.2.2 3))), (5, .int (nI kz)), (3, .long (mkF x)), (2, .int (nI nz)), (0, .ref (ad 0)), (1, .int v)]) kx kb dL_pumps_34 hl (by decide) rfl (fun ls hl => ?_)
  refine lv_aload_n kx kb dL_pumps_36 rfl (lv_at hl 5 rfl) ?_
  refine lv_iconst (v := nI 1) kx kb dL_pumps_37 (by decide) ?_
  refine w_readVi X M h [.int (nI 1)] [] (z_account l hZ (nI 1)) lk_L_31 hO (by omega) rfl rfl ⟨by decide, by decide⟩ hl ⟨Nat.zero_le _, Nat.zero_le _⟩ (Nat.le_of_ble_eq_true rfl) rfl dL_pumps_38 (fun H locs h => ?_)
  refine w_top (y := nI (x.2.2.2.2.2.2.2 0)) (acc_k.2.1) ?_
  refine lv_istore (lv' := [(8, .int (nI (x.2.2.2.2.2.2.2 0))), (7, .int (nI x.2.2.1)), (6, .int (nI (yz.2.2.2.2.2.2.2 3))), (5, .int (nI kz)), (3, .long (mkF x)), (2, .int (nI nz)), (0, .ref (ad 0)), (1, .int v)]) kx kb dL_pumps_41 hl (by decide) rfl (fun ls hl => ?_)
  refine lv_aload_n kx kb dL_pumps_43 rfl (lv_at hl 6 rfl) ?_
  refine lv_iload kx kb dL_pumps_44 (lv_at hl 0 rfl) ?_
  refine lv_iconst (v := nI 1) kx kb dL_pumps_46 (by decide) ?_
  refine w_readVi X M h [.int (nI (x.2.2.2.2.2.2.2 0)), .int (nI 1)] [] (z_wellOf l hZ (nI (x.2.2.2.2.2.2.2 0)) (nI 1)) lk_L_44 hO (by omega) rfl rfl ⟨by decide, by decide⟩ hl ⟨Nat.zero_le _, Nat.zero_le _⟩ (Nat.le_of_ble_eq_true rfl) rfl dL_pumps_47 (fun H locs h => ?_)
  refine w_top (y := nI (cnt (cwP x.2.1 (nI (x.2.2.2.2.2.2.2 0)) (nI 30)) x.1)) (wl_1 hz0) ?_
  refine lv_istore (lv' := [(9, .int (nI (cnt (cwP x.2.1 (nI (x.2.2.2.2.2.2.2 0)) (nI 30)) x.1))), (8, .int (nI (x.2.2.2.2.2.2.2 0))), (7, .int (nI x.2.2.1)), (6, .int (nI (yz.2.2.2.2.2.2.2 3))), (5, .int (nI kz)), (3, .long (mkF x)), (2, .int (nI nz)), (0, .ref (ad 0)), (1, .int v)]) kx kb dL_pumps_50 hl (by decide) rfl (fun ls hl => ?_)
  refine lv_aload_n kx kb dL_pumps_52 rfl (lv_at hl 7 rfl) ?_
  refine w_readVf X M h [] [] (z_laughs l hZ) lk_L_47 hO (by omega) rfl rfl ⟨by decide, by decide⟩ hl ⟨Nat.zero_le _, Nat.zero_le _⟩ (Nat.le_of_ble_eq_true rfl) rfl dL_pumps_53 (fun H locs h => ?_)
  refine lv_fstore (lv' := [(10, .float x.2.2.2.1), (9, .int (nI (cnt (cwP x.2.1 (nI (x.2.2.2.2.2.2.2 0)) (nI 30)) x.1))), (8, .int (nI (x.2.2.2.2.2.2.2 0))), (7, .int (nI x.2.2.1)), (6, .int (nI (yz.2.2.2.2.2.2.2 3))), (5, .int (nI kz)), (3, .long (mkF x)), (2, .int (nI nz)), (0, .ref (ad 0)), (1, .int v)]) kx kb dL_pumps_56 hl (by decide) rfl (fun ls hl => ?_)
  refine lv_aload_n kx kb dL_pumps_58 rfl (lv_at hl 8 rfl) ?_
  refine w_readSl X M h [.ref (ad 0)] [] (c_L_mark l g hZ) lk_L_101 rfl ⟨by decide, by decide⟩ hl ⟨Nat.zero_le _, Nat.zero_le _⟩ (Nat.le_of_ble_eq_true rfl) rfl dL_pumps_59 (fun H locs h => ?_)
  refine lv_lload_n kx kb dL_pumps_62 rfl (lv_at hl 6 rfl) ?_
  refine w_lcmpE X dL_pumps_63 ?_
  refine lv_if_eq (tgt := 69) kx kb dL_pumps_64 (by decide) (fun _ => ?_) (fun q => absurd (by decide) q)
  by_cases c40 : x.2.2.2.2.2.2.2 3 ≤ 40
  · refine lv_aload_n kx kb dL_pumps_69 rfl (lv_at hl 8 rfl) ?_
    refine lv_iload_n kx kb dL_pumps_70 rfl (lv_at hl 7 rfl) ?_
    refine w_callVi X M h [.int (nI nz)] [] (z_pump l hZ (nI nz)) lk_L_98 hO (by omega) rfl rfl ⟨by decide, by decide⟩ hl ⟨Nat.zero_le _, Nat.zero_le _⟩ (Nat.le_of_ble_eq_true rfl) rfl dL_pumps_71 (fun r_F1 F1 H locs hp_F1 h => ?_)
    obtain ⟨er, hps, hZ1⟩ := hp_F1.1 (np_0 hn1 hn9 c40)
    rw [cl_n (by omega), ekz] at er
    rw [cl_n (by omega), eyz] at hZ1
    have hO1 := hZ1.o7.2
    have hIy := hZ1.1.1
    have hny := hIy.n
    have hty := hIy.tn
    obtain ⟨hy0, hy1a, hy1, hy2, hy3, hy4⟩ := hIy.zz
    have hEt := hE.1
    refine w_top (y := nI kz) (er) ?_
    refine lv_istore (lv' := [(11, .int (nI kz)), (10, .float x.2.2.2.1), (9, .int (nI (cnt (cwP x.2.1 (nI (x.2.2.2.2.2.2.2 0)) (nI 30)) x.1))), (8, .int (nI (x.2.2.2.2.2.2.2 0))), (7, .int (nI x.2.2.1)), (6, .int (nI (yz.2.2.2.2.2.2.2 3))), (5, .int (nI kz)), (3, .long (mkF x)), (2, .int (nI nz)), (0, .ref (ad 0)), (1, .int v)]) kx kb dL_pumps_74 hl (by decide) rfl (fun ls hl => ?_)
    refine lv_iload kx kb dL_pumps_76 (lv_at hl 0 rfl) ?_
    refine lv_bipush (v := (-5)) kx kb dL_pumps_78 (by decide) ?_
    refine lv_icmp_ne (tgt := 113) kx kb dL_pumps_80 (by decide) (fun c_2 => ?_) (fun c_2 => (nI_pos (by omega) (show nI kz < 0 by rw [c_2]; decide)).elim)
    refine lv_iload kx kb dL_pumps_113 (lv_at hl 0 rfl) ?_
    refine lv_iload kx kb dL_pumps_115 (lv_at hl 6 rfl) ?_
    refine w_cmp_ne (tgt := 159) kx kb (by omega) (by omega) dL_pumps_117 (by decide) (fun c_3 => (show False by omega).elim) (fun c_3 => ?_)
    refine lv_aload_n kx kb dL_pumps_120 rfl (lv_at hl 9 rfl) ?_
    refine lv_iconst (v := nI 4) kx kb dL_pumps_121 (by decide) ?_
    refine w_readVi X M h [.int (nI 4)] [] (z_account l hZ1 (nI 4)) lk_L_31 hO1 (by omega) rfl rfl ⟨by decide, by decide⟩ hl ⟨Nat.zero_le _, Nat.zero_le _⟩ (Nat.le_of_ble_eq_true rfl) rfl dL_pumps_122 (fun H locs h => ?_)
    refine w_top (y := nI (yz.2.2.2.2.2.2.2 3)) (acc_k.2.2.2.1) ?_
    refine lv_iload kx kb dL_pumps_125 (lv_at hl 5 rfl) ?_
    refine w_cmp_ne (tgt := 159) kx kb (by omega) (by omega) dL_pumps_127 (by decide) (fun c_4 => (show False by omega).elim) (fun c_4 => ?_)
    refine lv_aload_n kx kb dL_pumps_130 rfl (lv_at hl 9 rfl) ?_
    refine lv_bipush (v := nI 6) kx kb dL_pumps_131 (by decide) ?_
    refine w_readVi X M h [.int (nI 6)] [] (z_account l hZ1 (nI 6)) lk_L_31 hO1 (by omega) rfl rfl ⟨by decide, by decide⟩ hl ⟨Nat.zero_le _, Nat.zero_le _⟩ (Nat.le_of_ble_eq_true rfl) rfl dL_pumps_133 (fun H locs h => ?_)
    refine w_top (y := nI yz.2.2.1) (acc_k.2.2.2.2.1) ?_
    refine lv_iload kx kb dL_pumps_136 (lv_at hl 4 rfl) ?_
    refine lv_iload kx kb dL_pumps_138 (lv_at hl 0 rfl) ?_
    refine w_addn kx kb dL_pumps_140 ?_
    refine w_cmp_ne (tgt := 159) kx kb (by omega) (by omega) dL_pumps_141 (by decide) (fun c_5 => (show False by omega).elim) (fun c_5 => ?_)
    refine lv_aload_n kx kb dL_pumps_144 rfl (lv_at hl 9 rfl) ?_
    refine lv_iload kx kb dL_pumps_145 (lv_at hl 3 rfl) ?_
    refine lv_iconst (v := nI 1) kx kb dL_pumps_147 (by decide) ?_
    refine w_readVi X M h [.int (nI (x.2.2.2.2.2.2.2 0)), .int (nI 1)] [] (z_wellOf l hZ1 (nI (x.2.2.2.2.2.2.2 0)) (nI 1)) lk_L_44 hO1 (by omega) rfl rfl ⟨by decide, by decide⟩ hl ⟨Nat.zero_le _, Nat.zero_le _⟩ (Nat.le_of_ble_eq_true rfl) rfl dL_pumps_148 (fun H locs h => ?_)
    refine w_top (y := nI (cnt (cwP yz.2.1 (nI (x.2.2.2.2.2.2.2 0)) (nI 30)) yz.1)) (wl_1 hz0) ?_
    refine lv_iload kx kb dL_pumps_151 (lv_at hl 2 rfl) ?_
    refine lv_iload kx kb dL_pumps_153 (lv_at hl 0 rfl) ?_
    refine w_subn kx kb (by omega) dL_pumps_155 ?_
    refine w_cmp_eq (tgt := 161) kx kb (by omega) (by omega) dL_pumps_156 (by decide) (fun c_6 => ?_) (fun c_6 => (show False by omega).elim)
    refine lv_iload kx kb dL_pumps_161 (lv_at hl 0 rfl) ?_
    refine lv_iconst (v := nI 1) kx kb dL_pumps_163 (by decide) ?_
    refine lv_isub kx kb dL_pumps_164 ?_
    refine lv_istore (lv' := [(12, .int ((nI kz) - (nI 1))), (11, .int (nI kz)), (10, .float x.2.2.2.1), (9, .int (nI (cnt (cwP x.2.1 (nI (x.2.2.2.2.2.2.2 0)) (nI 30)) x.1))), (8, .int (nI (x.2.2.2.2.2.2.2 0))), (7, .int (nI x.2.2.1)), (6, .int (nI (yz.2.2.2.2.2.2.2 3))), (5, .int (nI kz)), (3, .long (mkF x)), (2, .int (nI nz)), (0, .ref (ad 0)), (1, .int v)]) kx kb dL_pumps_165 hl (by decide) rfl (fun ls hl => ?_)
    have hsm : x.2.2.2.1 = fsum yz.2.2.2.2.2.1 (x.2.2.1 + (kz - kz)) := by
      rw [Nat.sub_self, Nat.add_zero, hI.2.2.2.2.2.2.1]
      exact fsum_cong (fun k hk => ((hE.2.2.1 k hk).1).symm)
    rw [hsm] at hl
    refine w_loop3 (fun (rz : Nat) (Fq1 : Nat → va_E) (qz : Nat → Int32) => rz) (fun (rz : Nat) (Fq1 : Nat → va_E) (qz : Nat → Int32) H locs ls => Hx g N ad Fq1 A s H locs ∧ lv_has ls 13 [(0, .ref (ad 0)), (3, .long (mkF x)), (8, .int (nI (x.2.2.2.2.2.2.2 0))), (10, .float (fsum yz.2.2.2.2.2.1 (x.2.2.1 + (kz - rz)))), (12, .int (nI rz - nI 1))] ∧ (rz ≤ kz) ∧ (PZ g N ad Fq1 yz sv (hPush hs ct x) (min 8 (ct + 1)) qz 0)) ?_ kz F1 q ⟨h, lv_sub hl [10, 8, 4, 2, 0] rfl, Nat.le_refl kz, hZ1⟩
    intro rz Fq1 qz H locs ls hinv ih_a
    obtain ⟨h, hl, hrz, hZ2⟩ := hinv
    have hO2 := hZ2.o7.2
    refine lv_iload kx kb dL_pumps_167 (lv_at hl 4 rfl) ?_
    rcases Nat.eq_zero_or_pos rz with hr0 | hr0
    · subst hr0
      refine w_top (y := (-1)) (by decide) ?_
      refine lv_if_lt (tgt := 252) kx kb dL_pumps_169 (by decide) (fun c_7 => ?_) (fun c_7 => (c_7 (by decide)).elim)
      have hfe : fb (fsum yz.2.2.2.2.2.1 (x.2.2.1 + (kz - 0))) = fb yz.2.2.2.1 := by
        rw [Nat.sub_zero, hIy.2.2.2.2.2.2.1, hEt]
      refine lv_fload kx kb dL_pumps_252 (lv_at hl 3 rfl) ?_
      refine w_readSi X M h [.float (fsum yz.2.2.2.2.2.1 (x.2.2.1 + (kz - 0)))] [] (c_JF_f2i l g (fsum yz.2.2.2.2.2.1 (x.2.2.1 + (kz - 0))) (fsum_nn (fun z hz => hIy.lfn (by omega)))) lk_L_51 rfl ⟨by decide, by decide⟩ hl ⟨Nat.zero_le _, Nat.zero_le _⟩ (Nat.le_of_ble_eq_true rfl) rfl dL_pumps_254 (fun H locs h => ?_)
      refine lv_aload_n kx kb dL_pumps_257 rfl (lv_at hl 0 rfl) ?_
      refine w_readVf X M h [] [.int (fb (fsum yz.2.2.2.2.2.1 (x.2.2.1 + (kz - 0))))] (z_laughs l hZ2) lk_L_47 hO2 (by omega) rfl rfl ⟨by decide, by decide⟩ hl ⟨Nat.zero_le _, Nat.zero_le _⟩ (Nat.le_of_ble_eq_true rfl) rfl dL_pumps_258 (fun H locs h => ?_)
      refine w_readSi X M h [.float yz.2.2.2.1] [.int (fb (fsum yz.2.2.2.2.2.1 (x.2.2.1 + (kz - 0))))] (c_JF_f2i l g yz.2.2.2.1 (hIy.smn)) lk_L_51 rfl ⟨by decide, by decide⟩ hl ⟨Nat.zero_le _, Nat.zero_le _⟩ (Nat.le_of_ble_eq_true rfl) rfl dL_pumps_261 (fun H locs h => ?_)
      refine lv_icmp_eq (tgt := 269) kx kb dL_pumps_264 (by decide) (fun c_8 => ?_) (fun c_8 => (c_8 hfe).elim)
      refine lv_aload_n kx kb dL_pumps_269 rfl (lv_at hl 0 rfl) ?_
      refine w_callVi X M h [] [] (z_undo l hZ2) lk_L_122 hO2 (by omega) rfl rfl ⟨by decide, by decide⟩ hl ⟨Nat.zero_le _, Nat.zero_le _⟩ (Nat.le_of_ble_eq_true rfl) rfl dL_pumps_270 (fun r_F9 F9 H locs hp_F9 h => ?_)
      have hZ4 := hp_F9.2
      rw [if_neg (show ¬ min 8 (ct + 1) = 0 by omega), hPush_top hct] at hZ4
      have hO4 := hZ4.o7.2
      refine lv_pop kx kb dL_pumps_273 rfl ?_
      refine lv_aload_n kx kb dL_pumps_274 rfl (lv_at hl 0 rfl) ?_
      refine w_readSl X M h [.ref (ad 0)] [] (c_L_mark l g hZ4) lk_L_101 rfl ⟨by decide, by decide⟩ hl ⟨Nat.zero_le _, Nat.zero_le _⟩ (Nat.le_of_ble_eq_true rfl) rfl dL_pumps_275 (fun H locs h => ?_)
      refine lv_lload_n kx kb dL_pumps_278 rfl (lv_at hl 1 rfl) ?_
      refine w_lcmpE X dL_pumps_279 ?_
      refine lv_if_ne (tgt := 287) kx kb dL_pumps_280 (by decide) (fun q => absurd (by decide) q) (fun _ => ?_)
      refine lv_iconst (v := nI 1) kx kb dL_pumps_283 (by decide) ?_
      refine lv_goto (tgt := 288) kx kb dL_pumps_284 (by decide) ?_
      exact w_zret X h (Or.inr (by decide)) ⟨rfl, _, _, _, hZ4⟩ dL_pumps_288
    · rw [show nI rz - nI 1 = nI (rz - 1) from pk_sub hr0] at hl
      obtain ⟨et1, sgz, hsg, et0, et2⟩ := hE.2.2.2.2 (x.2.2.1 + (kz - rz)) (by omega) (by omega)
      refine w_top (y := nI (rz - 1)) (pk_sub hr0) ?_
      refine w_if_lt (tgt := 252) kx kb (by omega) dL_pumps_169 (by decide) ?_
      refine lv_fload kx kb dL_pumps_172 (lv_at hl 3 rfl) ?_
      refine lv_aload_n kx kb dL_pumps_174 rfl (lv_at hl 0 rfl) ?_
      refine lv_iload kx kb dL_pumps_175 (lv_at hl 4 rfl) ?_
      refine lv_iconst (v := nI 2) kx kb dL_pumps_177 (by decide) ?_
      refine w_readVi X M h [.int (nI (rz - 1)), .int (nI 2)] [.float (fsum yz.2.2.2.2.2.1 (x.2.2.1 + (kz - rz)))] (z_liftedOf l hZ2 (nI (rz - 1)) (nI 2)) lk_L_39 hO2 (by omega) rfl rfl ⟨by decide, by decide⟩ hl ⟨Nat.zero_le _, Nat.zero_le _⟩ (Nat.le_of_ble_eq_true rfl) rfl dL_pumps_178 (fun H locs h => ?_)
      refine w_top (y := fb (yz.2.2.2.2.2.1 (x.2.2.1 + (kz - rz)))) (((lf_n (by omega) hty).1).trans (by rw [show yz.2.2.1 - 1 - (rz - 1) = x.2.2.1 + (kz - rz) by omega])) ?_
      refine w_i2fb X hl q3_236 ⟨by decide, by decide⟩ (Nat.le_of_ble_eq_true rfl) (v := yz.2.2.2.2.2.1 (x.2.2.1 + (kz - rz))) (hIy.lfn (by omega)) dL_pumps_181 ?_
      refine lv_fadd kx kb dL_pumps_184 (nnF_n (nnF_add (fsum_nn (fun z hz => hIy.lfn (by omega))) (hIy.lfn (by omega)))) ?_
      refine w_topF (y := fsum yz.2.2.2.2.2.1 (x.2.2.1 + (kz - (rz - 1)))) (by rw [show x.2.2.1 + (kz - (rz - 1)) = x.2.2.1 + (kz - rz) + 1 by omega]; rfl) ?_
      refine lv_fstore (lv' := [(10, .float (fsum yz.2.2.2.2.2.1 (x.2.2.1 + (kz - (rz - 1))))), (0, .ref (ad 0)), (3, .long (mkF x)), (8, .int (nI (x.2.2.2.2.2.2.2 0))), (12, .int (nI (rz - 1)))]) kx kb dL_pumps_185 hl (by decide) rfl (fun ls hl => ?_)
      refine lv_aload_n kx kb dL_pumps_187 rfl (lv_at hl 1 rfl) ?_
      refine lv_iload kx kb dL_pumps_188 (lv_at hl 4 rfl) ?_
      refine lv_iconst (v := nI 1) kx kb dL_pumps_190 (by decide) ?_
      refine w_readVi X M h [.int (nI (rz - 1)), .int (nI 1)] [] (z_liftedOf l hZ2 (nI (rz - 1)) (nI 1)) lk_L_39 hO2 (by omega) rfl rfl ⟨by decide, by decide⟩ hl ⟨Nat.zero_le _, Nat.zero_le _⟩ (Nat.le_of_ble_eq_true rfl) rfl dL_pumps_191 (fun H locs h => ?_)
      refine w_top (y := nI (x.2.2.2.2.2.2.2 0)) (((lf_n (by omega) hty).2.1).trans (by rw [show yz.2.2.1 - 1 - (rz - 1) = x.2.2.1 + (kz - rz) by omega]; exact et1)) ?_
      refine lv_iload kx kb dL_pumps_194 (lv_at hl 3 rfl) ?_
      refine w_cmp_ne (tgt := 244) kx kb (by omega) (by omega) dL_pumps_196 (by decide) (fun c_10 => (show False by omega).elim) (fun c_10 => ?_)
      refine lv_aload_n kx kb dL_pumps_199 rfl (lv_at hl 1 rfl) ?_
      refine lv_aload_n kx kb dL_pumps_200 rfl (lv_at hl 1 rfl) ?_
      refine lv_iload kx kb dL_pumps_201 (lv_at hl 4 rfl) ?_
      refine lv_iconst (v := nI 0) kx kb dL_pumps_203 (by decide) ?_
      refine w_readVi X M h [.int (nI (rz - 1)), .int (nI 0)] [.ref (ad 0)] (z_liftedOf l hZ2 (nI (rz - 1)) (nI 0)) lk_L_39 hO2 (by omega) rfl rfl ⟨by decide, by decide⟩ hl ⟨Nat.zero_le _, Nat.zero_le _⟩ (Nat.le_of_ble_eq_true rfl) rfl dL_pumps_204 (fun H locs h => ?_)
      refine w_top (y := nI sgz) (((lf_n (by omega) hty).2.2).trans (by rw [show yz.2.2.1 - 1 - (rz - 1) = x.2.2.1 + (kz - rz) by omega]; exact et0)) ?_
      refine w_readVi X M h [.int (nI sgz)] [] (z_isKnown l hZ2 (nI sgz)) lk_L_115 hO2 (by omega) rfl rfl ⟨by decide, by decide⟩ hl ⟨Nat.zero_le _, Nat.zero_le _⟩ (Nat.le_of_ble_eq_true rfl) rfl dL_pumps_207 (fun H locs h => ?_)
      refine w_top (y := nI 1) ((kn_1 hsg).trans et2) ?_
      refine lv_iconst (v := nI 1) kx kb dL_pumps_210 (by decide) ?_
      refine w_cmp_ne (tgt := 244) kx kb (by omega) (by omega) dL_pumps_211 (by decide) (fun c_11 => (show False by omega).elim) (fun c_11 => ?_)
      refine lv_aload_n kx kb dL_pumps_214 rfl (lv_at hl 1 rfl) ?_
      refine lv_iconst (v := nI 0) kx kb dL_pumps_215 (by decide) ?_
      refine lv_bipush (v := nI 29) kx kb dL_pumps_216 (by decide) ?_
      refine lv_aload_n kx kb dL_pumps_218 rfl (lv_at hl 1 rfl) ?_
      refine lv_iload kx kb dL_pumps_219 (lv_at hl 4 rfl) ?_
      refine lv_iconst (v := nI 0) kx kb dL_pumps_221 (by decide) ?_
      refine w_readVi X M h [.int (nI (rz - 1)), .int (nI 0)] [.int (nI 29), .int (nI 0), .ref (ad 0)] (z_liftedOf l hZ2 (nI (rz - 1)) (nI 0)) lk_L_39 hO2 (by omega) rfl rfl ⟨by decide, by decide⟩ hl ⟨Nat.zero_le _, Nat.zero_le _⟩ (Nat.le_of_ble_eq_true rfl) rfl dL_pumps_222 (fun H locs h => ?_)
      refine w_top (y := nI sgz) (((lf_n (by omega) hty).2.2).trans (by rw [show yz.2.2.1 - 1 - (rz - 1) = x.2.2.1 + (kz - rz) by omega]; exact et0)) ?_
      refine lv_iconst (v := nI 1) kx kb dL_pumps_225 (by decide) ?_
      refine w_callVi X M h [.int (nI 0), .int (nI 29), .int (nI sgz), .int (nI 1)] [] (z_joke l hZ2 (nI 0) (nI 29) (nI sgz) (nI 1)) lk_L_68 hO2 (by omega) rfl rfl ⟨by decide, by decide⟩ hl ⟨Nat.zero_le _, Nat.zero_le _⟩ (Nat.le_of_ble_eq_true rfl) rfl dL_pumps_226 (fun r_F12 F12 H locs hp_F12 h => ?_)
      have en := nj_3 (x := yz) hsg et2
      obtain ⟨er2, hps2, hZ3⟩ := hp_F12.2 (by rw [en]; show (-5 : Int32) ≠ 0; decide)
      rw [en] at er2 hZ3
      rw [if_pos (show (ntF (nI 3) (nI sgz)).1 = -5 from rfl)] at hZ3
      have hZ3 : PZ g N ad F12 yz sv (hPush hs ct x) (min 8 (ct + 1)) (qRef qz (nI 3) (nI sgz)) 0 := hZ3
      have hO3 := hZ3.o7.2
      refine w_top (y := (-5)) (er2) ?_
      refine lv_bipush (v := (-5)) kx kb dL_pumps_229 (by decide) ?_
      refine lv_icmp_ne (tgt := 244) kx kb dL_pumps_231 (by decide) (fun c_13 => (c_13 rfl).elim) (fun c_13 => ?_)
      refine lv_aload_n kx kb dL_pumps_234 rfl (lv_at hl 1 rfl) ?_
      refine lv_iconst (v := nI 0) kx kb dL_pumps_235 (by decide) ?_
      refine lv_iconst (v := nI 0) kx kb dL_pumps_236 (by decide) ?_
      refine w_readVi X M h [.int (nI 0), .int (nI 0)] [] (z_reason l hZ3 (nI 0) (nI 0)) lk_L_118 hO3 (by omega) rfl rfl ⟨by decide, by decide⟩ hl ⟨Nat.zero_le _, Nat.zero_le _⟩ (Nat.le_of_ble_eq_true rfl) rfl dL_pumps_237 (fun H locs h => ?_)
      refine w_top (y := nI 3) (rs_3) ?_
      refine lv_iconst (v := nI 3) kx kb dL_pumps_240 (by decide) ?_
      refine w_cmp_eq (tgt := 246) kx kb (by omega) (by omega) dL_pumps_241 (by decide) (fun c_14 => ?_) (fun c_14 => (show False by omega).elim)
      refine lv_iinc (v := nI (rz - 1) - nI 1) (lv' := [(12, .int (nI (rz - 1) - nI 1)), (10, .float (fsum yz.2.2.2.2.2.1 (x.2.2.1 + (kz - (rz - 1))))), (0, .ref (ad 0)), (3, .long (mkF x)), (8, .int (nI (x.2.2.2.2.2.2.2 0)))]) kx kb dL_pumps_246 hl (k := 4) rfl (i32_m1 _) (by decide) rfl (fun ls hl => ?_)
      refine lv_goto (tgt := 167) kx kb dL_pumps_249 (by decide) ?_
      exact ih_a (rz - 1) F12 (qRef qz (nI 3) (nI sgz)) _ _ _ ⟨h, lv_sub hl [2, 3, 4, 1, 0] rfl, by omega, hZ3⟩ (by omega)
  · refine lv_aload_n kx kb dL_pumps_69 rfl (lv_at hl 8 rfl) ?_
    refine lv_iload_n kx kb dL_pumps_70 rfl (lv_at hl 7 rfl) ?_
    refine w_callVi X M h [.int (nI nz)] [] (z_pump l hZ (nI nz)) lk_L_98 hO (by omega) rfl rfl ⟨by decide, by decide⟩ hl ⟨Nat.zero_le _, Nat.zero_le _⟩ (Nat.le_of_ble_eq_true rfl) rfl dL_pumps_71 (fun r_F15 F15 H locs hp_F15 h => ?_)
    have en := np_8 (x := x) hn1 hn9 c40
    obtain ⟨er, hps, hZ1⟩ := hp_F15.2 (by rw [en]; show (-5 : Int32) ≠ 0; decide)
    rw [en] at er
    have hO1 := hZ1.o7.2
    refine w_top (y := (-5)) (er) ?_
    refine lv_istore (lv' := [(11, .int (-5)), (10, .float x.2.2.2.1), (9, .int (nI (cnt (cwP x.2.1 (nI (x.2.2.2.2.2.2.2 0)) (nI 30)) x.1))), (8, .int (nI (x.2.2.2.2.2.2.2 0))), (7, .int (nI x.2.2.1)), (6, .int (nI (yz.2.2.2.2.2.2.2 3))), (5, .int (nI kz)), (3, .long (mkF x)), (2, .int (nI nz)), (0, .ref (ad 0)), (1, .int v)]) kx kb dL_pumps_74 hl (by decide) rfl (fun ls hl => ?_)
    refine lv_iload kx kb dL_pumps_76 (lv_at hl 0 rfl) ?_
    refine lv_bipush (v := (-5)) kx kb dL_pumps_78 (by decide) ?_
    refine lv_icmp_ne (tgt := 113) kx kb dL_pumps_80 (by decide) (fun c_16 => (c_16 rfl).elim) (fun c_16 => ?_)
    refine lv_aload_n kx kb dL_pumps_83 rfl (lv_at hl 9 rfl) ?_
    refine lv_iconst (v := nI 4) kx kb dL_pumps_84 (by decide) ?_
    refine w_readVi X M h [.int (nI 4)] [] (z_account l hZ1 (nI 4)) lk_L_31 hO1 (by omega) rfl rfl ⟨by decide, by decide⟩ hl ⟨Nat.zero_le _, Nat.zero_le _⟩ (Nat.le_of_ble_eq_true rfl) rfl dL_pumps_85 (fun H locs h => ?_)
    refine w_top (y := nI (x.2.2.2.2.2.2.2 3)) (acc_k.2.2.2.1) ?_
    refine lv_bipush (v := nI 40) kx kb dL_pumps_88 (by decide) ?_
    refine w_cmp_le (tgt := 111) kx kb (by omega) (by omega) dL_pumps_90 (by decide) (fun c_17 => (show False by omega).elim) (fun c_17 => ?_)
    refine lv_iload kx kb dL_pumps_93 (lv_at hl 6 rfl) ?_
    refine w_top (y := nI 0) (by rw [← ekz, runN_no c40]) ?_
    refine lv_if_ne (tgt := 111) kx kb dL_pumps_95 (by decide) (fun q => absurd (by decide) q) (fun _ => ?_)
    refine lv_aload_n kx kb dL_pumps_98 rfl (lv_at hl 9 rfl) ?_
    refine w_readSl X M h [.ref (ad 0)] [] (c_L_mark l g hZ1) lk_L_101 rfl ⟨by decide, by decide⟩ hl ⟨Nat.zero_le _, Nat.zero_le _⟩ (Nat.le_of_ble_eq_true rfl) rfl dL_pumps_99 (fun H locs h => ?_)
    refine lv_lload_n kx kb dL_pumps_102 rfl (lv_at hl 7 rfl) ?_
    refine w_lcmpE X dL_pumps_103 ?_
    refine lv_if_ne (tgt := 111) kx kb dL_pumps_104 (by decide) (fun q => absurd (by decide) q) (fun _ => ?_)
    refine lv_iconst (v := nI 1) kx kb dL_pumps_107 (by decide) ?_
    refine lv_goto (tgt := 112) kx kb dL_pumps_108 (by decide) ?_
    exact w_zret X h (Or.inr (by decide)) ⟨rfl, _, _, _, hZ1⟩ dL_pumps_112
