/-! the law's own methods -/
theorem acc_lt {x : SX} {il ct k : Nat} (hk : k < 12) : accountF x il ct (nI k) = accountF x 0 0 (nI k) := acc_ind (fun e => by
  have := nI_inj (by omega) (by omega) e
  omega) (fun e => by
  have := nI_inj (by omega) (by omega) e
  omega)
theorem mkJ_s {x : SX} {j : Nat} : mkJ x (j + 1) = mkN (fun k => jokeOfF x (nI j) (nI k)) 6 (mkJ x j) := by
  rw [mkJ, mkM]
  rfl
theorem mkT_s {x : SX} {j : Nat} : mkT x (j + 1) = mkN (fun k => liftedF x (nI j) (nI k) (fun i => fb (x.2.2.2.2.2.1 i))) 3 (mkT x j) := by
  rw [mkT, mkM]
  rfl
set_option maxRecDepth 20000 in
theorem c_L_chosen (l : Launch) (g : gT) {N : Nat} {ad : Nat → Nat} {F : Nat → va_E} (v : Int32) (n : Nat) (hn0 : 0 < n) (hn1 : n < 2147483648)  : CtI l yL_chosen cL_chosen 2 (some .int) 0 0 g N ad F [.int v, .int (nI n)] (fun r F' => r = nI (chN v n) ∧ F' = F) := by
  refine CtI_of (by decide) (Nat.le_of_ble_eq_true rfl) ?_
  intro p e s m args below meth c A H ls X M h hl
  have kx := X.1.1
  have kb := X.1.2.1
  have hl : lv_has ls 2 [(0, .int v), (1, .int (nI n))] := hl
  have hc := (chN_in v).2
  refine lv_iload_n kx kb dL_chosen_0 rfl (lv_at hl 0 rfl) ?_
  refine w_ldcI X q2_139 dL_chosen_1 ?_
  refine lv_iand kx kb dL_chosen_3 ?_
  refine w_top (y := nI (cl (v &&& 2147483647))) ((chN_in v).1) ?_
  refine lv_iload_n kx kb dL_chosen_4 rfl (lv_at hl 1 rfl) ?_
  refine w_remn kx kb (by omega) (by omega) (by omega) dL_chosen_5 ?_
  exact w_iret X h ⟨rfl, rfl⟩ dL_chosen_6
set_option maxRecDepth 20000 in
theorem c_L_cell (l : Launch) (g : gT) {N : Nat} {ad : Nat → Nat} {F : Nat → va_E} (k : Nat) (hk : k < 1000)  : CtI l yL_cell cL_cell 2 (some .int) 0 0 g N ad F [.ref (g.2.2.2.2.2.1 100), .int (nI k)] (fun r F' => F' = F) := by
  refine CtI_of (by decide) (Nat.le_of_ble_eq_true rfl) ?_
  intro p e s m args below meth c A H ls X M h hl
  have kx := X.1.1
  have kb := X.1.2.1
  have hl : lv_has ls 2 [(0, .ref (g.2.2.2.2.2.1 100)), (1, .int (nI k))] := hl
  refine lv_iload_n kx kb dL_cell_0 rfl (lv_at hl 1 rfl) ?_
  refine lv_aload_n kx kb dL_cell_1 rfl (lv_at hl 0 rfl) ?_
  refine w_scrL X M h dL_cell_2 ?_
  refine lv_icmp_ge (tgt := 12) kx kb dL_cell_3 (by decide) (fun c_1 => ?_) (fun c_1 => ?_)
  · refine lv_sipush (v := nI 7919) kx kb dL_cell_12 (by decide) ?_
    refine lv_iload_n kx kb dL_cell_15 rfl (lv_at hl 1 rfl) ?_
    refine w_muln kx kb dL_cell_16 ?_
    refine lv_bipush (v := nI 12) kx kb dL_cell_17 (by decide) ?_
    refine w_addn kx kb dL_cell_19 ?_
    exact w_iret X h rfl dL_cell_20
  · refine lv_aload_n kx kb dL_cell_6 rfl (lv_at hl 0 rfl) ?_
    refine lv_iload_n kx kb dL_cell_7 rfl (lv_at hl 1 rfl) ?_
    refine w_scr X M h (k := k) (by omega) (ltL (by omega) c_1) dL_cell_8 ?_
    refine lv_goto (tgt := 20) kx kb dL_cell_9 (by decide) ?_
    exact w_iret X h rfl dL_cell_20
set_option maxRecDepth 20000 in
theorem c_L_mark (l : Launch) (g : gT) {N : Nat} {ad : Nat → Nat} {F : Nat → va_E} {x sv : SX} {hs : Nat → SX} {ct : Nat} {q : Nat → Int32} {il : Nat} (hZ : PZ g N ad F x sv hs ct q il)  : CtL l yL_mark cL_mark 5 (some .long) 5 112 g N ad F [.ref (ad 0)] (fun r F' => r = mkF x ∧ F' = F) := by
  refine CtL_of (by decide) (Nat.le_of_ble_eq_true rfl) ?_
  intro p e s m args below meth c A H ls X M h hl
  have kx := X.1.1
  have kb := X.1.2.1
  have hl : lv_has ls 5 [(0, .ref (ad 0))] := hl
  obtain ⟨hN, hO⟩ := hZ.o7
  have hI := hZ.1.1
  have hn12 := hI.n
  have htn64 := hI.tn
  obtain ⟨hz0, hz1a, hz1, hz2, hz3, hz4⟩ := hI.zz
  have hct := hZ.2.2.1
  refine w_ldcL X q2_143 dL_mark_0 ?_
  refine w_topL (y := mkA x 0) (rfl) ?_
  refine lv_lstore_n (lv' := [(1, .long (mkA x 0)), (0, .ref (ad 0))]) kx kb dL_mark_3 rfl hl (by decide) rfl (fun ls hl => ?_)
  refine lv_iconst (v := nI 0) kx kb dL_mark_4 (by decide) ?_
  refine lv_istore_n (lv' := [(3, .int (nI 0)), (1, .long (mkA x 0)), (0, .ref (ad 0))]) kx kb dL_mark_5 rfl hl (by decide) rfl (fun ls hl => ?_)
  refine w_loop1 (fun (kz : Nat) => 12 - kz) (fun (kz : Nat) H locs ls => Hx g N ad F A s H locs ∧ lv_has ls 5 [(0, .ref (ad 0)), (1, .long (mkA x kz)), (3, .int (nI kz))] ∧ (kz ≤ 12)) ?_ 0 ⟨h, lv_sub hl [2, 1, 0] rfl, by omega⟩
  intro kz H locs ls hinv ih_a
  obtain ⟨h, hl, hkz⟩ := hinv
  refine lv_iload_n kx kb dL_mark_6 rfl (lv_at hl 2 rfl) ?_
  refine lv_bipush (v := nI 12) kx kb dL_mark_7 (by decide) ?_
  refine w_cmp_ge (tgt := 31) kx kb (by omega) (by omega) dL_mark_9 (by decide) (fun c_1 => ?_) (fun c_1 => ?_)
  · obtain rfl : kz = 12 := by omega
    refine lv_iconst (v := nI 0) kx kb dL_mark_31 (by decide) ?_
    refine lv_istore_n (lv' := [(3, .int (nI 0)), (0, .ref (ad 0)), (1, .long (mkA x 12))]) kx kb dL_mark_32 rfl hl (by decide) rfl (fun ls hl => ?_)
    refine w_loop1 (fun (jz : Nat) => x.1 - jz) (fun (jz : Nat) H locs ls => Hx g N ad F A s H locs ∧ lv_has ls 5 [(0, .ref (ad 0)), (1, .long (mkJ x jz)), (3, .int (nI jz))] ∧ (jz ≤ x.1)) ?_ 0 ⟨h, lv_sub hl [1, 2, 0] rfl, by omega⟩
    intro jz H locs ls hinv ih_b
    obtain ⟨h, hl, hjz⟩ := hinv
    refine lv_iload_n kx kb dL_mark_33 rfl (lv_at hl 2 rfl) ?_
    refine lv_aload_n kx kb dL_mark_34 rfl (lv_at hl 0 rfl) ?_
    refine lv_iconst (v := nI 0) kx kb dL_mark_35 (by decide) ?_
    refine w_readVi X M h [.int (nI 0)] [.int (nI jz)] (z_account l hZ (nI 0)) lk_L_31 hO (by omega) rfl rfl ⟨by decide, by decide⟩ hl ⟨Nat.zero_le _, Nat.zero_le _⟩ (Nat.le_of_ble_eq_true rfl) rfl dL_mark_36 (fun H locs h => ?_)
    refine w_top (y := nI x.1) (acc_k.1) ?_
    refine w_cmp_ge (tgt := 79) kx kb (by omega) (by omega) dL_mark_39 (by decide) (fun c_2 => ?_) (fun c_2 => ?_)
    · obtain rfl : jz = x.1 := by omega
      refine lv_iconst (v := nI 0) kx kb dL_mark_79 (by decide) ?_
      refine lv_istore_n (lv' := [(3, .int (nI 0)), (0, .ref (ad 0)), (1, .long (mkJ x x.1))]) kx kb dL_mark_80 rfl hl (by decide) rfl (fun ls hl => ?_)
      refine w_loop1 (fun (jz : Nat) => x.2.2.1 - jz) (fun (jz : Nat) H locs ls => Hx g N ad F A s H locs ∧ lv_has ls 5 [(0, .ref (ad 0)), (1, .long (mkT x jz)), (3, .int (nI jz))] ∧ (jz ≤ x.2.2.1)) ?_ 0 ⟨h, lv_sub hl [1, 2, 0] rfl, by omega⟩
      intro jz H locs ls hinv ih_b
      obtain ⟨h, hl, hjz⟩ := hinv
      refine lv_iload_n kx kb dL_mark_81 rfl (lv_at hl 2 rfl) ?_
      refine lv_aload_n kx kb dL_mark_82 rfl (lv_at hl 0 rfl) ?_
      refine lv_bipush (v := nI 6) kx kb dL_mark_83 (by decide) ?_
      refine w_readVi X M h [.int (nI 6)] [.int (nI jz)] (z_account l hZ (nI 6)) lk_L_31 hO (by omega) rfl rfl ⟨by decide, by decide⟩ hl ⟨Nat.zero_le _, Nat.zero_le _⟩ (Nat.le_of_ble_eq_true rfl) rfl dL_mark_85 (fun H locs h => ?_)
      refine w_top (y := nI x.2.2.1) (acc_k.2.2.2.2.1) ?_
      refine w_cmp_ge (tgt := 127) kx kb (by omega) (by omega) dL_mark_88 (by decide) (fun c_3 => ?_) (fun c_3 => ?_)
      · obtain rfl : jz = x.2.2.1 := by omega
        refine lv_iconst (v := nI 0) kx kb dL_mark_127 (by decide) ?_
        refine lv_istore_n (lv' := [(3, .int (nI 0)), (0, .ref (ad 0)), (1, .long (mkT x x.2.2.1))]) kx kb dL_mark_128 rfl hl (by decide) rfl (fun ls hl => ?_)
        refine w_loop1 (fun (kz : Nat) => 4 - kz) (fun (kz : Nat) H locs ls => Hx g N ad F A s H locs ∧ lv_has ls 5 [(0, .ref (ad 0)), (1, .long (mkV x kz)), (3, .int (nI kz))] ∧ (kz ≤ 4)) ?_ 0 ⟨h, lv_sub hl [1, 2, 0] rfl, by omega⟩
        intro kz H locs ls hinv ih_b
        obtain ⟨h, hl, hkz⟩ := hinv
        refine lv_iload_n kx kb dL_mark_129 rfl (lv_at hl 2 rfl) ?_
        refine lv_iconst (v := nI 4) kx kb dL_mark_130 (by decide) ?_
        refine w_cmp_ge (tgt := 166) kx kb (by omega) (by omega) dL_mark_131 (by decide) (fun c_4 => ?_) (fun c_4 => ?_)
        · obtain rfl : kz = 4 := by omega
          refine w_ldcL X q2_144 dL_mark_166 ?_
          refine lv_lload_n kx kb dL_mark_169 rfl (lv_at hl 1 rfl) ?_
          refine lv_lmul kx kb dL_mark_170 ?_
          refine lv_aload_n kx kb dL_mark_171 rfl (lv_at hl 0 rfl) ?_
          refine w_readVf X M h [] [.long (31 * (mkV x 4))] (z_laughs l hZ) lk_L_47 hO (by omega) rfl rfl ⟨by decide, by decide⟩ hl ⟨Nat.zero_le _, Nat.zero_le _⟩ (Nat.le_of_ble_eq_true rfl) rfl dL_mark_172 (fun H locs h => ?_)
          refine w_readSi X M h [.float x.2.2.2.1] [.long (31 * (mkV x 4))] (c_JF_f2i l g x.2.2.2.1 (hI.smn)) lk_L_51 rfl ⟨by decide, by decide⟩ hl ⟨Nat.zero_le _, Nat.zero_le _⟩ (Nat.le_of_ble_eq_true rfl) rfl dL_mark_175 (fun H locs h => ?_)
          refine lv_i2l kx kb dL_mark_178 rfl ?_
          refine lv_ladd kx kb dL_mark_179 ?_
          exact w_lret X h ⟨rfl, rfl⟩ dL_mark_180
        · refine w_ldcL X q2_144 dL_mark_134 ?_
          refine lv_lload_n kx kb dL_mark_137 rfl (lv_at hl 1 rfl) ?_
          refine lv_lmul kx kb dL_mark_138 ?_
          refine w_ldcL X q2_166 dL_mark_139 ?_
          refine lv_aload_n kx kb dL_mark_142 rfl (lv_at hl 0 rfl) ?_
          refine lv_iload_n kx kb dL_mark_143 rfl (lv_at hl 2 rfl) ?_
          refine lv_iconst (v := nI 0) kx kb dL_mark_144 (by decide) ?_
          refine w_readVi X M h [.int (nI kz), .int (nI 0)] [.long 10, .long (31 * (mkV x kz))] (z_wellOf l hZ (nI kz) (nI 0)) lk_L_44 hO (by omega) rfl rfl ⟨by decide, by decide⟩ hl ⟨Nat.zero_le _, Nat.zero_le _⟩ (Nat.le_of_ble_eq_true rfl) rfl dL_mark_145 (fun H locs h => ?_)
          refine lv_i2l kx kb dL_mark_148 rfl ?_
          refine lv_lmul kx kb dL_mark_149 ?_
          refine lv_ladd kx kb dL_mark_150 ?_
          refine lv_aload_n kx kb dL_mark_151 rfl (lv_at hl 0 rfl) ?_
          refine lv_iload_n kx kb dL_mark_152 rfl (lv_at hl 2 rfl) ?_
          refine lv_iconst (v := nI 3) kx kb dL_mark_153 (by decide) ?_
          refine w_readVi X M h [.int (nI kz), .int (nI 3)] [.long ((31 * (mkV x kz)) + (10 * ((wellOfF x (nI kz) (nI 0)).toInt64)))] (z_wellOf l hZ (nI kz) (nI 3)) lk_L_44 hO (by omega) rfl rfl ⟨by decide, by decide⟩ hl ⟨Nat.zero_le _, Nat.zero_le _⟩ (Nat.le_of_ble_eq_true rfl) rfl dL_mark_154 (fun H locs h => ?_)
          refine lv_i2l kx kb dL_mark_157 rfl ?_
          refine lv_ladd kx kb dL_mark_158 ?_
          refine w_topL (y := mkV x (kz + 1)) (rfl) ?_
          refine lv_lstore_n (lv' := [(1, .long (mkV x (kz + 1))), (0, .ref (ad 0)), (3, .int (nI kz))]) kx kb dL_mark_159 rfl hl (by decide) rfl (fun ls hl => ?_)
          refine lv_iinc (v := nI (kz + 1)) (lv' := [(3, .int (nI (kz + 1))), (1, .long (mkV x (kz + 1))), (0, .ref (ad 0))]) kx kb dL_mark_160 hl (k := 2) rfl (nI_add _ _) (by decide) rfl (fun ls hl => ?_)
          refine lv_goto (tgt := 129) kx kb dL_mark_163 (by decide) ?_
          exact ih_b (kz + 1) _ _ _ ⟨h, lv_sub hl [2, 1, 0] rfl, by omega⟩ (by omega)
      · refine lv_iconst (v := nI 0) kx kb dL_mark_91 (by decide) ?_
        refine lv_istore (lv' := [(4, .int (nI 0)), (0, .ref (ad 0)), (1, .long (mkT x jz)), (3, .int (nI jz))]) kx kb dL_mark_92 hl (by decide) rfl (fun ls hl => ?_)
        refine w_loop1 (fun (kz : Nat) => 3 - kz) (fun (kz : Nat) H locs ls => Hx g N ad F A s H locs ∧ lv_has ls 5 [(0, .ref (ad 0)), (1, .long (mkN (fun k => liftedF x (nI jz) (nI k) (fun i => fb (x.2.2.2.2.2.1 i))) kz (mkT x jz))), (3, .int (nI jz)), (4, .int (nI kz))] ∧ (kz ≤ 3)) ?_ 0 ⟨h, lv_sub hl [1, 2, 3, 0] rfl, by omega⟩
        intro kz H locs ls hinv ih_c
        obtain ⟨h, hl, hkz⟩ := hinv
        refine lv_iload kx kb dL_mark_94 (lv_at hl 3 rfl) ?_
        refine lv_iconst (v := nI 3) kx kb dL_mark_96 (by decide) ?_
        refine w_cmp_ge (tgt := 121) kx kb (by omega) (by omega) dL_mark_97 (by decide) (fun c_5 => ?_) (fun c_5 => ?_)
        · obtain rfl : kz = 3 := by omega
          rw [← mkT_s (x := x) (j := jz)] at hl
          have hl : lv_has ls 5 [(0, .ref (ad 0)), (1, .long (mkT x (jz + 1))), (3, .int (nI jz))] := lv_sub hl [0, 1, 2] rfl
          refine lv_iinc (v := nI (jz + 1)) (lv' := [(3, .int (nI (jz + 1))), (0, .ref (ad 0)), (1, .long (mkT x (jz + 1)))]) kx kb dL_mark_121 hl (k := 2) rfl (nI_add _ _) (by decide) rfl (fun ls hl => ?_)
          refine lv_goto (tgt := 81) kx kb dL_mark_124 (by decide) ?_
          exact ih_b (jz + 1) _ _ _ ⟨h, lv_sub hl [1, 2, 0] rfl, by omega⟩ (by omega)
        · refine w_ldcL X q2_144 dL_mark_100 ?_
          refine lv_lload_n kx kb dL_mark_103 rfl (lv_at hl 1 rfl) ?_
          refine lv_lmul kx kb dL_mark_104 ?_
          refine lv_aload_n kx kb dL_mark_105 rfl (lv_at hl 0 rfl) ?_
          refine lv_iload_n kx kb dL_mark_106 rfl (lv_at hl 2 rfl) ?_
          refine lv_iload kx kb dL_mark_107 (lv_at hl 3 rfl) ?_
          refine w_readVi X M h [.int (nI jz), .int (nI kz)] [.long (31 * (mkN (fun k => liftedF x (nI jz) (nI k) (fun i => fb (x.2.2.2.2.2.1 i))) kz (mkT x jz)))] (z_liftedOf l hZ (nI jz) (nI kz)) lk_L_39 hO (by omega) rfl rfl ⟨by decide, by decide⟩ hl ⟨Nat.zero_le _, Nat.zero_le _⟩ (Nat.le_of_ble_eq_true rfl) rfl dL_mark_109 (fun H locs h => ?_)
          refine lv_i2l kx kb dL_mark_112 rfl ?_
          refine lv_ladd kx kb dL_mark_113 ?_
          refine w_topL (y := mkN (fun k => liftedF x (nI jz) (nI k) (fun i => fb (x.2.2.2.2.2.1 i))) (kz + 1) (mkT x jz)) (rfl) ?_
          refine lv_lstore_n (lv' := [(1, .long (mkN (fun k => liftedF x (nI jz) (nI k) (fun i => fb (x.2.2.2.2.2.1 i))) (kz + 1) (mkT x jz))), (0, .ref (ad 0)), (3, .int (nI jz)), (4, .int (nI kz))]) kx kb dL_mark_114 rfl hl (by decide) rfl (fun ls hl => ?_)
          refine lv_iinc (v := nI (kz + 1)) (lv' := [(4, .int (nI (kz + 1))), (1, .long (mkN (fun k => liftedF x (nI jz) (nI k) (fun i => fb (x.2.2.2.2.2.1 i))) (kz + 1) (mkT x jz))), (0, .ref (ad 0)), (3, .int (nI jz))]) kx kb dL_mark_115 hl (k := 3) rfl (nI_add _ _) (by decide) rfl (fun ls hl => ?_)
          refine lv_goto (tgt := 94) kx kb dL_mark_118 (by decide) ?_
          exact ih_c (kz + 1) _ _ _ ⟨h, lv_sub hl [2, 1, 3, 0] rfl, by omega⟩ (by omega)
    · refine lv_iconst (v := nI 0) kx kb dL_mark_42 (by decide) ?_
      refine lv_istore (lv' := [(4, .int (nI 0)), (0, .ref (ad 0)), (1, .long (mkJ x jz)), (3, .int (nI jz))]) kx kb dL_mark_43 hl (by decide) rfl (fun ls hl => ?_)
      refine w_loop1 (fun (kz : Nat) => 6 - kz) (fun (kz : Nat) H locs ls => Hx g N ad F A s H locs ∧ lv_has ls 5 [(0, .ref (ad 0)), (1, .long (mkN (fun k => jokeOfF x (nI jz) (nI k)) kz (mkJ x jz))), (3, .int (nI jz)), (4, .int (nI kz))] ∧ (kz ≤ 6)) ?_ 0 ⟨h, lv_sub hl [1, 2, 3, 0] rfl, by omega⟩
      intro kz H locs ls hinv ih_c
      obtain ⟨h, hl, hkz⟩ := hinv
      refine lv_iload kx kb dL_mark_45 (lv_at hl 3 rfl) ?_
      refine lv_bipush (v := nI 6) kx kb dL_mark_47 (by decide) ?_
      refine w_cmp_ge (tgt := 73) kx kb (by omega) (by omega) dL_mark_49 (by decide) (fun c_6 => ?_) (fun c_6 => ?_)
      · obtain rfl : kz = 6 := by omega
        rw [← mkJ_s (x := x) (j := jz)] at hl
        have hl : lv_has ls 5 [(0, .ref (ad 0)), (1, .long (mkJ x (jz + 1))), (3, .int (nI jz))] := lv_sub hl [0, 1, 2] rfl
        refine lv_iinc (v := nI (jz + 1)) (lv' := [(3, .int (nI (jz + 1))), (0, .ref (ad 0)), (1, .long (mkJ x (jz + 1)))]) kx kb dL_mark_73 hl (k := 2) rfl (nI_add _ _) (by decide) rfl (fun ls hl => ?_)
        refine lv_goto (tgt := 33) kx kb dL_mark_76 (by decide) ?_
        exact ih_b (jz + 1) _ _ _ ⟨h, lv_sub hl [1, 2, 0] rfl, by omega⟩ (by omega)
      · refine w_ldcL X q2_144 dL_mark_52 ?_
        refine lv_lload_n kx kb dL_mark_55 rfl (lv_at hl 1 rfl) ?_
        refine lv_lmul kx kb dL_mark_56 ?_
        refine lv_aload_n kx kb dL_mark_57 rfl (lv_at hl 0 rfl) ?_
        refine lv_iload_n kx kb dL_mark_58 rfl (lv_at hl 2 rfl) ?_
        refine lv_iload kx kb dL_mark_59 (lv_at hl 3 rfl) ?_
        refine w_readVi X M h [.int (nI jz), .int (nI kz)] [.long (31 * (mkN (fun k => jokeOfF x (nI jz) (nI k)) kz (mkJ x jz)))] (z_jokeOf l hZ (nI jz) (nI kz)) lk_L_35 hO (by omega) rfl rfl ⟨by decide, by decide⟩ hl ⟨Nat.zero_le _, Nat.zero_le _⟩ (Nat.le_of_ble_eq_true rfl) rfl dL_mark_61 (fun H locs h => ?_)
        refine lv_i2l kx kb dL_mark_64 rfl ?_
        refine lv_ladd kx kb dL_mark_65 ?_
        refine w_topL (y := mkN (fun k => jokeOfF x (nI jz) (nI k)) (kz + 1) (mkJ x jz)) (rfl) ?_
        refine lv_lstore_n (lv' := [(1, .long (mkN (fun k => jokeOfF x (nI jz) (nI k)) (kz + 1) (mkJ x jz))), (0, .ref (ad 0)), (3, .int (nI jz)), (4, .int (nI kz))]) kx kb dL_mark_66 rfl hl (by decide) rfl (fun ls hl => ?_)
        refine lv_iinc (v := nI (kz + 1)) (lv' := [(4, .int (nI (kz + 1))), (1, .long (mkN (fun k => jokeOfF x (nI jz) (nI k)) (kz + 1) (mkJ x jz))), (0, .ref (ad 0)), (3, .int (nI jz))]) kx kb dL_mark_67 hl (k := 3) rfl (nI_add _ _) (by decide) rfl (fun ls hl => ?_)
        refine lv_goto (tgt := 45) kx kb dL_mark_70 (by decide) ?_
        exact ih_c (kz + 1) _ _ _ ⟨h, lv_sub hl [2, 1, 3, 0] rfl, by omega⟩ (by omega)
  · refine w_ldcL X q2_144 dL_mark_12 ?_
    refine lv_lload_n kx kb dL_mark_15 rfl (lv_at hl 1 rfl) ?_
    refine lv_lmul kx kb dL_mark_16 ?_
    refine lv_aload_n kx kb dL_mark_17 rfl (lv_at hl 0 rfl) ?_
    refine lv_iload_n kx kb dL_mark_18 rfl (lv_at hl 2 rfl) ?_
    refine w_readVi X M h [.int (nI kz)] [.long (31 * (mkA x kz))] (z_account l hZ (nI kz)) lk_L_31 hO (by omega) rfl rfl ⟨by decide, by decide⟩ hl ⟨Nat.zero_le _, Nat.zero_le _⟩ (Nat.le_of_ble_eq_true rfl) rfl dL_mark_19 (fun H locs h => ?_)
    refine w_top (y := accountF x 0 0 (nI kz)) (acc_lt (by omega)) ?_
    refine lv_i2l kx kb dL_mark_22 rfl ?_
    refine lv_ladd kx kb dL_mark_23 ?_
    refine w_topL (y := mkA x (kz + 1)) (rfl) ?_
    refine lv_lstore_n (lv' := [(1, .long (mkA x (kz + 1))), (0, .ref (ad 0)), (3, .int (nI kz))]) kx kb dL_mark_24 rfl hl (by decide) rfl (fun ls hl => ?_)
    refine lv_iinc (v := nI (kz + 1)) (lv' := [(3, .int (nI (kz + 1))), (1, .long (mkA x (kz + 1))), (0, .ref (ad 0))]) kx kb dL_mark_25 hl (k := 2) rfl (nI_add _ _) (by decide) rfl (fun ls hl => ?_)
    refine lv_goto (tgt := 6) kx kb dL_mark_28 (by decide) ?_
    exact ih_a (kz + 1) _ _ _ ⟨h, lv_sub hl [2, 1, 0] rfl, by omega⟩ (by omega)
set_option maxRecDepth 20000 in
theorem c_L_done (l : Launch) (g : gT) {N : Nat} {ad : Nat → Nat} {F : Nat → va_E} {x sv : SX} {hs : Nat → SX} {ct : Nat} {q : Nat → Int32} (hZ : PZ g N ad F x sv hs ct q 0) (i : Nat) (hi8 : 8 ≤ i) (hi16 : i < 16)  : CtI l yL_done cL_done 3 (some .int) 8 194 g N ad F [.ref (ad 0), .ref (g.2.2.2.2.2.1 i)] (fun r F' => ∃ q' : Nat → Int32, q' 0 = q 0 ∧ (r < 0 → PZ g N ad F' x sv hs ct q' 0) ∧ (¬ r < 0 → ∃ x' : SX, PZ g N ad F' x' sv (hPush hs ct x) (min 8 (ct + 1)) q' 0)) := by
  refine CtI_of (by decide) (Nat.le_of_ble_eq_true rfl) ?_
  intro p e s m args below meth c A H ls X M h hl
  have kx := X.1.1
  have kb := X.1.2.1
  have hl : lv_has ls 3 [(0, .ref (ad 0)), (1, .ref (g.2.2.2.2.2.1 i))] := hl
  obtain ⟨hN, hO⟩ := hZ.o7
  have hI := hZ.1.1
  have hn12 := hI.n
  have htn64 := hI.tn
  obtain ⟨hz0, hz1a, hz1, hz2, hz3, hz4⟩ := hI.zz
  have hct := hZ.2.2.1
  have h25 := sx_le6 i hi16
  refine lv_iconst (v := nI 0) kx kb dL_done_0 (by decide) ?_
  refine lv_istore_n (lv' := [(2, .int (nI 0)), (0, .ref (ad 0)), (1, .ref (g.2.2.2.2.2.1 i))]) kx kb dL_done_1 rfl hl (by decide) rfl (fun ls hl => ?_)
  refine w_loop2 (fun (kz : Nat) (Fq1 : Nat → va_E) => sxN i - kz) (fun (kz : Nat) (Fq1 : Nat → va_E) H locs ls => Hx g N ad Fq1 A s H locs ∧ lv_has ls 3 [(0, .ref (ad 0)), (1, .ref (g.2.2.2.2.2.1 i)), (2, .int (nI kz))] ∧ (kz ≤ sxN i) ∧ (PZ g N ad Fq1 x sv hs ct q kz)) ?_ 0 F ⟨h, lv_sub hl [1, 2, 0] rfl, by omega, hZ⟩
  intro kz Fq1 H locs ls hinv ih_a
  obtain ⟨h, hl, hkz, hZ1⟩ := hinv
  have hO := hZ1.o7.2
  refine lv_iload_n kx kb dL_done_2 rfl (lv_at hl 2 rfl) ?_
  refine lv_aload_n kx kb dL_done_3 rfl (lv_at hl 1 rfl) ?_
  refine w_readKi X M h (i := i) [] [.int (nI kz)] (c_J0_length l g i hi16) lk_L_8 hi16 rfl rfl ⟨by decide, by decide⟩ hl ⟨Nat.zero_le _, Nat.zero_le _⟩ (Nat.le_of_ble_eq_true rfl) rfl dL_done_4 (fun H locs h => ?_)
  refine w_cmp_ge (tgt := 26) kx kb (by omega) (by omega) dL_done_7 (by decide) (fun c_1 => ?_) (fun c_1 => ?_)
  · refine lv_aload_n kx kb dL_done_26 rfl (lv_at hl 0 rfl) ?_
    refine w_callVi X M h [] [] (z_read l hZ1) lk_L_24 hO (by omega) rfl rfl ⟨by decide, by decide⟩ hl ⟨Nat.zero_le _, Nat.zero_le _⟩ (Nat.le_of_ble_eq_true rfl) rfl dL_done_27 (fun r_F2 F2 H locs hp_F2 h => ?_)
    exact w_iret X h hp_F2 dL_done_30
  · refine lv_aload_n kx kb dL_done_10 rfl (lv_at hl 0 rfl) ?_
    refine lv_aload_n kx kb dL_done_11 rfl (lv_at hl 1 rfl) ?_
    refine lv_iload_n kx kb dL_done_12 rfl (lv_at hl 2 rfl) ?_
    refine w_readKi X M h (i := i) [.int (nI kz)] [.ref (ad 0)] (c_J0_charAt l g i hi16 kz (by omega)) lk_L_14 hi16 rfl rfl ⟨by decide, by decide⟩ hl ⟨Nat.zero_le _, Nat.zero_le _⟩ (Nat.le_of_ble_eq_true rfl) rfl dL_done_13 (fun H locs h => ?_)
    refine w_callVi X M h [.int (sxB i kz)] [] (z_append l hZ1 (by omega) (sxB i kz) ((sx_vis i hi16 kz (by omega)).1 hi8) (sx_vis i hi16 kz (by omega)).2) lk_L_18 hO (by omega) rfl rfl ⟨by decide, by decide⟩ hl ⟨Nat.zero_le _, Nat.zero_le _⟩ (Nat.le_of_ble_eq_true rfl) rfl dL_done_16 (fun r_F3 F3 H locs hp_F3 h => ?_)
    refine lv_pop kx kb dL_done_19 rfl ?_
    refine lv_iinc (v := nI (kz + 1)) (lv' := [(2, .int (nI (kz + 1))), (0, .ref (ad 0)), (1, .ref (g.2.2.2.2.2.1 i))]) kx kb dL_done_20 hl (k := 2) rfl (nI_add _ _) (by decide) rfl (fun ls hl => ?_)
    refine lv_goto (tgt := 2) kx kb dL_done_23 (by decide) ?_
    exact ih_a (kz + 1) F3 _ _ _ ⟨h, lv_sub hl [1, 2, 0] rfl, by omega, hp_F3⟩ (by omega)
set_option maxRecDepth 20000 in
theorem c_L_groansBy (l : Launch) (g : gT) {N : Nat} {ad : Nat → Nat} {F : Nat → va_E} {x sv : SX} {hs : Nat → SX} {ct : Nat} {q : Nat → Int32} {il : Nat} (hZ : PZ g N ad F x sv hs ct q il) (ln d : Nat) (hl1 : 1 ≤ ln) (hl2 : ln ≤ 10) (hd : d ≤ 30)  : CtI l yL_groansBy cL_groansBy 5 (some .int) 3 64 g N ad F [.ref (ad 0), .int (nI ln), .int (nI d)] (fun r F' => r = nI (grTo x (nI d) ln) ∧ F' = F) := by
  refine CtI_of (by decide) (Nat.le_of_ble_eq_true rfl) ?_
  intro p e s m args below meth c A H ls X M h hl
  have kx := X.1.1
  have kb := X.1.2.1
  have hl : lv_has ls 5 [(0, .ref (ad 0)), (1, .int (nI ln)), (2, .int (nI d))] := hl
  obtain ⟨hN, hO⟩ := hZ.o7
  have hI := hZ.1.1
  have hn12 := hI.n
  have htn64 := hI.tn
  obtain ⟨hz0, hz1a, hz1, hz2, hz3, hz4⟩ := hI.zz
  have hct := hZ.2.2.1
  refine lv_bipush (v := nI 30) kx kb dL_groansBy_0 (by decide) ?_
  refine lv_aload_n kx kb dL_groansBy_2 rfl (lv_at hl 0 rfl) ?_
  refine lv_iconst (v := nI 3) kx kb dL_groansBy_3 (by decide) ?_
  refine w_readVi X M h [.int (nI 3)] [.int (nI 30)] (z_account l hZ (nI 3)) lk_L_31 hO (by omega) rfl rfl ⟨by decide, by decide⟩ hl ⟨Nat.zero_le _, Nat.zero_le _⟩ (Nat.le_of_ble_eq_true rfl) rfl dL_groansBy_4 (fun H locs h => ?_)
  refine w_top (y := nI (x.2.2.2.2.2.2.2 2)) (acc_k.2.2.1) ?_
  refine lv_iload_n kx kb dL_groansBy_7 rfl (lv_at hl 1 rfl) ?_
  refine w_addn kx kb dL_groansBy_8 ?_
  refine w_mminn X hl q4_25 (by omega) (by omega) ⟨by decide, by decide⟩ (Nat.le_of_ble_eq_true rfl) ⟨Nat.zero_le _, Nat.zero_le _⟩ dL_groansBy_9 ?_
  refine lv_istore_n (lv' := [(3, .int (nI (min 30 (x.2.2.2.2.2.2.2 2 + ln)))), (0, .ref (ad 0)), (1, .int (nI ln)), (2, .int (nI d))]) kx kb dL_groansBy_12 rfl hl (by decide) rfl (fun ls hl => ?_)
  refine lv_iconst (v := nI 1) kx kb dL_groansBy_13 (by decide) ?_
  refine lv_iload_n kx kb dL_groansBy_14 rfl (lv_at hl 0 rfl) ?_
  refine lv_bipush (v := nI 10) kx kb dL_groansBy_15 (by decide) ?_
  refine w_divn kx kb (by omega) (by omega) (by omega) dL_groansBy_17 ?_
  refine w_addn kx kb dL_groansBy_18 ?_
  refine lv_istore (lv' := [(4, .int (nI (1 + ((min 30 (x.2.2.2.2.2.2.2 2 + ln)) / 10)))), (3, .int (nI (min 30 (x.2.2.2.2.2.2.2 2 + ln)))), (0, .ref (ad 0)), (1, .int (nI ln)), (2, .int (nI d))]) kx kb dL_groansBy_19 hl (by decide) rfl (fun ls hl => ?_)
  refine w_loop3 (fun (iz : Nat) (vrc : Nat) (vgr : Nat) => 30 - iz) (fun (iz : Nat) (vrc : Nat) (vgr : Nat) H locs ls => Hx g N ad F A s H locs ∧ lv_has ls 5 [(0, .ref (ad 0)), (1, .int (nI ln)), (2, .int (nI d)), (3, .int (nI vrc)), (4, .int (nI vgr))] ∧ (iz ≤ 29) ∧ (vrc ≤ 30) ∧ (iz + 1 ≤ vrc ∨ vrc = 30) ∧ (vgr ≤ 4 + 4 * iz) ∧ (gtN (nI d) ln (30 - iz) vrc vgr = grTo x (nI d) ln)) ?_ 0 (min 30 (x.2.2.2.2.2.2.2 2 + ln)) (1 + min 30 (x.2.2.2.2.2.2.2 2 + ln) / 10) ⟨h, lv_sub hl [2, 3, 4, 1, 0] rfl, by omega, by omega, by omega, by omega, rfl⟩
  intro iz vrc vgr H locs ls hinv ih_a
  obtain ⟨h, hl, hiz, hr1z, hr2z, hgz, hS⟩ := hinv
  refine lv_iload_n kx kb dL_groansBy_21 rfl (lv_at hl 3 rfl) ?_
  refine lv_iload_n kx kb dL_groansBy_22 rfl (lv_at hl 2 rfl) ?_
  refine w_cmp_ge (tgt := 49) kx kb (by omega) (by omega) dL_groansBy_23 (by decide) (fun c_1 => ?_) (fun c_1 => ?_)
  · refine lv_iload kx kb dL_groansBy_49 (lv_at hl 4 rfl) ?_
    exact w_iret X h ⟨congrArg nI (by rw [← hS, show 30 - iz = (30 - (iz + 1)) + 1 by omega, gtN, if_pos ((nI_leI (by omega) (by omega)).mpr (by omega))]), rfl⟩ dL_groansBy_51
  · refine lv_bipush (v := nI 30) kx kb dL_groansBy_26 (by decide) ?_
    refine lv_iload_n kx kb dL_groansBy_28 rfl (lv_at hl 3 rfl) ?_
    refine lv_iload_n kx kb dL_groansBy_29 rfl (lv_at hl 1 rfl) ?_
    refine w_addn kx kb dL_groansBy_30 ?_
    refine w_mminn X hl q4_25 (by omega) (by omega) ⟨by decide, by decide⟩ (Nat.le_of_ble_eq_true rfl) ⟨Nat.zero_le _, Nat.zero_le _⟩ dL_groansBy_31 ?_
    refine lv_istore_n (lv' := [(3, .int (nI (min 30 (vrc + ln)))), (0, .ref (ad 0)), (1, .int (nI ln)), (2, .int (nI d)), (4, .int (nI vgr))]) kx kb dL_groansBy_34 rfl hl (by decide) rfl (fun ls hl => ?_)
    refine lv_iload kx kb dL_groansBy_35 (lv_at hl 4 rfl) ?_
    refine lv_iconst (v := nI 1) kx kb dL_groansBy_37 (by decide) ?_
    refine lv_iload_n kx kb dL_groansBy_38 rfl (lv_at hl 0 rfl) ?_
    refine lv_bipush (v := nI 10) kx kb dL_groansBy_39 (by decide) ?_
    refine w_divn kx kb (by omega) (by omega) (by omega) dL_groansBy_41 ?_
    refine w_addn kx kb dL_groansBy_42 ?_
    refine w_addn kx kb dL_groansBy_43 ?_
    refine lv_istore (lv' := [(4, .int (nI (vgr + (1 + ((min 30 (vrc + ln)) / 10))))), (3, .int (nI (min 30 (vrc + ln)))), (0, .ref (ad 0)), (1, .int (nI ln)), (2, .int (nI d))]) kx kb dL_groansBy_44 hl (by decide) rfl (fun ls hl => ?_)
    refine lv_goto (tgt := 21) kx kb dL_groansBy_46 (by decide) ?_
    exact ih_a (iz + 1) (min 30 (vrc + ln)) (vgr + (1 + min 30 (vrc + ln) / 10)) _ _ _ ⟨h, lv_sub hl [2, 3, 4, 1, 0] rfl, by omega, by omega, by omega, by omega, by rw [show 30 - iz = (30 - (iz + 1)) + 1 by omega, gtN, if_neg (fun z => absurd ((nI_leI (by omega) (by omega)).mp z) (by omega))] at hS; exact hS⟩ (by omega)
