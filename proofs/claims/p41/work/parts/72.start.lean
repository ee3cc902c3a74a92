/-! the law's start and its loops -/
theorem q1_16 : Cond.classLink "JokePumpLaw" 19 "JokePump" ∈ lw_g := lw_gm (tin1 (List.mem_of_getElem? (i := 16) (by decide +kernel))) (by decide +kernel)
theorem q1_18 : Cond.methodLink "JokePumpLaw" 167 ⟨"JokePump", "<init>", "()V"⟩ ∈ lw_g := lw_gm (tin1 (List.mem_of_getElem? (i := 18) (by decide +kernel))) (by decide +kernel)
theorem nw_L_19 : NewP RL 19 7 12 [.null, .null, .int 0, .null, .null, .null, .null, .int 0, .int 0, .int 0, .int 0, .int 0] := ⟨RX7, TX7, tyX7, rfl, ly_X7, tyX7_ok, q1_16, q1_17, q1_1, fun j hj => by rcases (show j = 0 ∨ j = 1 ∨ j = 2 ∨ j = 3 ∨ j = 4 ∨ j = 5 ∨ j = 6 ∨ j = 7 ∨ j = 8 ∨ j = 9 ∨ j = 10 ∨ j = 11 by omega) with rfl | rfl | rfl | rfl | rfl | rfl | rfl | rfl | rfl | rfl | rfl | rfl <;> rfl⟩
theorem li_L_167 : LkI RL 167 yX7_init cX7_init 1 0 := ⟨(Or.inl q1_18), q1_19, q1_1, q1_20, rfl, by decide, by decide, by decide +kernel⟩
def EZ (g : gT) (N : Nat) (ad : Nat → Nat) (F : Nat → va_E) : Prop := ∃ (x sv : SX) (hs : Nat → SX) (ct : Nat) (q : Nat → Int32), PZ g N ad F x sv hs ct q 0
theorem ez_of_ap {g : gT} {N : Nat} {ad : Nat → Nat} {x sv : SX} {hs : Nat → SX} {ct : Nat} {q : Nat → Int32} {r : Int32} {F1 : Nat → va_E} (h : AP g N ad x sv hs ct q r F1) : EZ g N ad F1 := by
  obtain ⟨x', hs', ct', q', h1, h2⟩ := h
  exact ⟨x', sv, hs', ct', q', h1⟩
set_option maxRecDepth 20000 in
theorem law_tail {p : Program} (l : Launch) {e : Env} {s : State} {m : MethodId} {below : List Frame} {meth : Method} {c : Code} (g : gT) {N : Nat} {ad : Nat → Nat} {F : Nat → va_E} {A : Nat → Prop} {H : Heap} {locs : List Loc} {cells slots : Nat} {Q : State → Prop} {ls : Array Slot} (X : Kx p m meth c s #[.ref (g.2.2.2.2.2.1 100)] code 10 RL ret) (M : Mx g N ad A s) (h : Hx g N ad F A s H locs) (hcs : cells ≤ room_1.cells ∧ slots ≤ room_1.slots) {x sv : SX} {hs : Nat → SX} {ct : Nat} {q : Nat → Int32} (hZ : PZ g N ad F x sv hs ct q 0) {kz : Nat} {v : Int32} (hk1 : 1 ≤ kz) (hk2 : kz < 24) (hl : lv_has ls 10 [(0, .ref (g.2.2.2.2.2.1 100)), (1, .ref (ad 0)), (2, .int (nI kz)), (3, .int v)]) (hnext : ∀ (F' : Nat → va_E) (H' : Heap) (locs' : List Loc) (ls' : Array Slot), EZ g N ad F' → Hx g N ad F' A s H' locs' → lv_has ls' 10 [(0, .ref (g.2.2.2.2.2.1 100)), (1, .ref (ad 0)), (2, .int (nI (kz + 1)))] → W p l e room_1 s m #[.ref (g.2.2.2.2.2.1 100)] below meth c H' locs' cells slots Q (F0 m 79 ls' [])) : W p l e room_1 s m #[.ref (g.2.2.2.2.2.1 100)] below meth c H locs cells slots Q (F0 m 181 ls []) := by
  have kx := X.1.1
  have kb := X.1.2.1
  have hN := hZ.o7.1
  have hO := hZ.o7.2
  have hI := hZ.1.1
  have hn12 := hI.n
  have htn64 := hI.tn
  obtain ⟨hz0, hz1a, hz1, hz2, hz3, hz4⟩ := hI.zz
  have hct := hZ.2.2.1
  refine lv_iload_n kx kb dL_law_181 rfl (lv_at hl 2 rfl) ?_
  refine lv_iconst (v := nI 5) kx kb dL_law_182 (by decide) ?_
  refine w_remn kx kb (by omega) (by omega) (by omega) dL_law_183 ?_
  refine w_if_ne (tgt := 248) kx kb (by omega) dL_law_184 (by decide) (fun c_1 => ?_) (fun c_1 => ?_)
  · refine lv_iload_n kx kb dL_law_248 rfl (lv_at hl 2 rfl) ?_
    refine lv_iconst (v := nI 3) kx kb dL_law_249 (by decide) ?_
    refine w_remn kx kb (by omega) (by omega) (by omega) dL_law_250 ?_
    refine lv_iconst (v := nI 1) kx kb dL_law_251 (by decide) ?_
    refine w_cmp_ne (tgt := 267) kx kb (by omega) (by omega) dL_law_252 (by decide) (fun c_2 => ?_) (fun c_2 => ?_)
    · refine lv_iinc (v := nI (kz + 1)) (lv' := [(2, .int (nI (kz + 1))), (0, .ref (g.2.2.2.2.2.1 100)), (1, .ref (ad 0)), (3, .int v)]) kx kb dL_law_267 hl (k := 2) rfl (nI_add _ _) (by decide) rfl (fun ls hl => ?_)
      refine lv_goto (tgt := 79) kx kb dL_law_270 (by decide) ?_
      exact hnext _ _ _ _ ⟨_, _, _, _, _, hZ⟩ h (lv_sub hl [1, 2, 0] rfl)
    · refine lv_aload_n kx kb dL_law_255 rfl (lv_at hl 1 rfl) ?_
      refine lv_iload_n kx kb dL_law_256 rfl (lv_at hl 3 rfl) ?_
      refine lv_iconst (v := nI 3) kx kb dL_law_257 (by decide) ?_
      refine lv_ishr kx kb dL_law_258 ?_
      refine w_callSi X M h [.ref (ad 0), .int (v >>> ((nI 3) &&& 31))] [] (c_L_fits l g hZ (v >>> ((nI 3) &&& 31))) lk_L_182 rfl ⟨Nat.le_of_ble_eq_true rfl, Nat.le_of_ble_eq_true rfl⟩ hl hcs (Nat.le_of_ble_eq_true rfl) rfl dL_law_259 (fun r_F3 F3 H locs hp_F3 h => ?_)
      obtain ⟨er5, hs5, ct5, q5, hZ5⟩ := hp_F3
      have hO5 := hZ5.o7.2
      refine w_top (y := nI 1) (er5) ?_
      refine lv_if_ne (tgt := 267) kx kb dL_law_262 (by decide) (fun _ => ?_) (fun q => absurd q (by decide))
      refine lv_iinc (v := nI (kz + 1)) (lv' := [(2, .int (nI (kz + 1))), (0, .ref (g.2.2.2.2.2.1 100)), (1, .ref (ad 0)), (3, .int v)]) kx kb dL_law_267 hl (k := 2) rfl (nI_add _ _) (by decide) rfl (fun ls hl => ?_)
      refine lv_goto (tgt := 79) kx kb dL_law_270 (by decide) ?_
      exact hnext _ _ _ _ ⟨_, _, _, _, _, hZ5⟩ h (lv_sub hl [1, 2, 0] rfl)
  · refine lv_aload_n kx kb dL_law_187 rfl (lv_at hl 1 rfl) ?_
    refine w_readSl X M h [.ref (ad 0)] [] (c_L_mark l g hZ) lk_L_101 rfl ⟨Nat.le_of_ble_eq_true rfl, Nat.le_of_ble_eq_true rfl⟩ hl hcs (Nat.le_of_ble_eq_true rfl) rfl dL_law_188 (fun H locs h => ?_)
    refine lv_lstore (lv' := [(8, .long (mkF x)), (0, .ref (g.2.2.2.2.2.1 100)), (1, .ref (ad 0)), (2, .int (nI kz)), (3, .int v)]) kx kb dL_law_191 hl (by decide) rfl (fun ls hl => ?_)
    refine lv_aload_n kx kb dL_law_193 rfl (lv_at hl 2 rfl) ?_
    refine w_callVi X M h [] [] (z_save l hZ) lk_L_176 hO (by omega) rfl rfl ⟨Nat.le_of_ble_eq_true rfl, Nat.le_of_ble_eq_true rfl⟩ hl hcs (Nat.le_of_ble_eq_true rfl) rfl dL_law_194 (fun r_F4 F4 H locs hp_F4 h => ?_)
    obtain ⟨er, hZ1⟩ := hp_F4
    have hO1 := hZ1.o7.2
    refine w_top (y := nI x.1) (er) ?_
    refine lv_aload_n kx kb dL_law_197 rfl (lv_at hl 2 rfl) ?_
    refine lv_iconst (v := nI 0) kx kb dL_law_198 (by decide) ?_
    refine w_readVi X M h [.int (nI 0)] [.int (nI x.1)] (z_account l hZ1 (nI 0)) lk_L_31 hO1 (by omega) rfl rfl ⟨Nat.le_of_ble_eq_true rfl, Nat.le_of_ble_eq_true rfl⟩ hl hcs (Nat.le_of_ble_eq_true rfl) rfl dL_law_199 (fun H locs h => ?_)
    refine w_top (y := nI x.1) (acc_k.1) ?_
    refine w_cmp_eq (tgt := 207) kx kb (by omega) (by omega) dL_law_202 (by decide) (fun c_5 => ?_) (fun c_5 => (show False by omega).elim)
    refine lv_aload_n kx kb dL_law_207 rfl (lv_at hl 2 rfl) ?_
    refine lv_iload_n kx kb dL_law_208 rfl (lv_at hl 4 rfl) ?_
    refine lv_iconst (v := nI 1) kx kb dL_law_209 (by decide) ?_
    refine lv_iadd kx kb dL_law_210 ?_
    refine w_callSi X M h [.ref (ad 0), .int (v + (nI 1))] [] (c_L_acts l g hZ1 (v + (nI 1))) lk_L_172 rfl ⟨Nat.le_of_ble_eq_true rfl, Nat.le_of_ble_eq_true rfl⟩ hl hcs (Nat.le_of_ble_eq_true rfl) rfl dL_law_211 (fun r_F6 F6 H locs hp_F6 h => ?_)
    obtain ⟨x2, hs2, ct2, q2, hZ2, hq2, -, -⟩ := hp_F6
    have hO2 := hZ2.o7.2
    have hq20 : q2 0 ≠ 0 := by
      rw [hq2]
      show nI 1 ≠ 0
      decide
    refine lv_pop kx kb dL_law_214 rfl ?_
    refine lv_aload_n kx kb dL_law_215 rfl (lv_at hl 2 rfl) ?_
    refine w_callVi X M h [] [] (z_restore l hZ2 hq20 hZ.1) lk_L_179 hO2 (by omega) rfl rfl ⟨Nat.le_of_ble_eq_true rfl, Nat.le_of_ble_eq_true rfl⟩ hl hcs (Nat.le_of_ble_eq_true rfl) rfl dL_law_216 (fun r_F7 F7 H locs hp_F7 h => ?_)
    obtain ⟨er3, hZ3⟩ := hp_F7
    have hO3 := hZ3.o7.2
    refine w_top (y := nI x.1) (er3) ?_
    refine lv_aload_n kx kb dL_law_219 rfl (lv_at hl 2 rfl) ?_
    refine lv_iconst (v := nI 0) kx kb dL_law_220 (by decide) ?_
    refine w_readVi X M h [.int (nI 0)] [.int (nI x.1)] (z_account l hZ3 (nI 0)) lk_L_31 hO3 (by omega) rfl rfl ⟨Nat.le_of_ble_eq_true rfl, Nat.le_of_ble_eq_true rfl⟩ hl hcs (Nat.le_of_ble_eq_true rfl) rfl dL_law_221 (fun H locs h => ?_)
    refine w_top (y := nI x.1) (acc_k.1) ?_
    refine w_cmp_ne (tgt := 246) kx kb (by omega) (by omega) dL_law_224 (by decide) (fun c_8 => (show False by omega).elim) (fun c_8 => ?_)
    refine lv_aload_n kx kb dL_law_227 rfl (lv_at hl 2 rfl) ?_
    refine w_readSl X M h [.ref (ad 0)] [] (c_L_mark l g hZ3) lk_L_101 rfl ⟨Nat.le_of_ble_eq_true rfl, Nat.le_of_ble_eq_true rfl⟩ hl hcs (Nat.le_of_ble_eq_true rfl) rfl dL_law_228 (fun H locs h => ?_)
    refine lv_lload kx kb dL_law_231 (lv_at hl 0 rfl) ?_
    refine w_lcmpE X dL_law_233 ?_
    refine lv_if_ne (tgt := 246) kx kb dL_law_234 (by decide) (fun q => absurd (by decide) q) (fun _ => ?_)
    refine lv_aload_n kx kb dL_law_237 rfl (lv_at hl 2 rfl) ?_
    refine w_callVi X M h [] [] (z_undo l hZ3) lk_L_122 hO3 (by omega) rfl rfl ⟨Nat.le_of_ble_eq_true rfl, Nat.le_of_ble_eq_true rfl⟩ hl hcs (Nat.le_of_ble_eq_true rfl) rfl dL_law_238 (fun r_F9 F9 H locs hp_F9 h => ?_)
    obtain ⟨er4, hZ4⟩ := hp_F9
    rw [if_pos rfl] at er4 hZ4
    have hO4 := hZ4.o7.2
    refine w_top (y := (-3)) (er4) ?_
    refine lv_bipush (v := (-3)) kx kb dL_law_241 (by decide) ?_
    refine lv_icmp_eq (tgt := 248) kx kb dL_law_243 (by decide) (fun c_10 => ?_) (fun c_10 => (c_10 rfl).elim)
    refine lv_iload_n kx kb dL_law_248 rfl (lv_at hl 3 rfl) ?_
    refine lv_iconst (v := nI 3) kx kb dL_law_249 (by decide) ?_
    refine w_remn kx kb (by omega) (by omega) (by omega) dL_law_250 ?_
    refine lv_iconst (v := nI 1) kx kb dL_law_251 (by decide) ?_
    refine w_cmp_ne (tgt := 267) kx kb (by omega) (by omega) dL_law_252 (by decide) (fun c_11 => ?_) (fun c_11 => ?_)
    · refine lv_iinc (v := nI (kz + 1)) (lv' := [(2, .int (nI (kz + 1))), (8, .long (mkF x)), (0, .ref (g.2.2.2.2.2.1 100)), (1, .ref (ad 0)), (3, .int v)]) kx kb dL_law_267 hl (k := 3) rfl (nI_add _ _) (by decide) rfl (fun ls hl => ?_)
      refine lv_goto (tgt := 79) kx kb dL_law_270 (by decide) ?_
      exact hnext _ _ _ _ ⟨_, _, _, _, _, hZ4⟩ h (lv_sub hl [2, 3, 0] rfl)
    · refine lv_aload_n kx kb dL_law_255 rfl (lv_at hl 2 rfl) ?_
      refine lv_iload_n kx kb dL_law_256 rfl (lv_at hl 4 rfl) ?_
      refine lv_iconst (v := nI 3) kx kb dL_law_257 (by decide) ?_
      refine lv_ishr kx kb dL_law_258 ?_
      refine w_callSi X M h [.ref (ad 0), .int (v >>> ((nI 3) &&& 31))] [] (c_L_fits l g hZ4 (v >>> ((nI 3) &&& 31))) lk_L_182 rfl ⟨Nat.le_of_ble_eq_true rfl, Nat.le_of_ble_eq_true rfl⟩ hl hcs (Nat.le_of_ble_eq_true rfl) rfl dL_law_259 (fun r_F12 F12 H locs hp_F12 h => ?_)
      obtain ⟨er5, hs5, ct5, q5, hZ5⟩ := hp_F12
      have hO5 := hZ5.o7.2
      refine w_top (y := nI 1) (er5) ?_
      refine lv_if_ne (tgt := 267) kx kb dL_law_262 (by decide) (fun _ => ?_) (fun q => absurd q (by decide))
      refine lv_iinc (v := nI (kz + 1)) (lv' := [(2, .int (nI (kz + 1))), (8, .long (mkF x)), (0, .ref (g.2.2.2.2.2.1 100)), (1, .ref (ad 0)), (3, .int v)]) kx kb dL_law_267 hl (k := 3) rfl (nI_add _ _) (by decide) rfl (fun ls hl => ?_)
      refine lv_goto (tgt := 79) kx kb dL_law_270 (by decide) ?_
      exact hnext _ _ _ _ ⟨_, _, _, _, _, hZ5⟩ h (lv_sub hl [2, 3, 0] rfl)
set_option maxRecDepth 20000 in
theorem law_main {p : Program} (l : Launch) {e : Env} {s : State} {m : MethodId} {below : List Frame} {meth : Method} {c : Code} (g : gT) {N : Nat} {ad : Nat → Nat} {F : Nat → va_E} {A : Nat → Prop} {H : Heap} {locs : List Loc} {cells slots : Nat} {Q : State → Prop} {ls : Array Slot} (X : Kx p m meth c s #[.ref (g.2.2.2.2.2.1 100)] code 10 RL ret) (M : Mx g N ad A s) (h : Hx g N ad F A s H locs) (hcs : cells ≤ room_1.cells ∧ slots ≤ room_1.slots) (hE0 : EZ g N ad F) (hl : lv_has ls 10 [(1, .ref (ad 0)), (0, .ref (g.2.2.2.2.2.1 100))]) (hend : ∀ (F' : Nat → va_E) (H' : Heap) (locs' : List Loc) (ls' : Array Slot), Hx g N ad F' A s H' locs' → W p l e room_1 s m #[.ref (g.2.2.2.2.2.1 100)] below meth c H' locs' cells slots Q (F0 m 273 ls' [])) : W p l e room_1 s m #[.ref (g.2.2.2.2.2.1 100)] below meth c H locs cells slots Q (F0 m 8 ls []) := by
  have kx := X.1.1
  have kb := X.1.2.1
  have hN : 254 ≤ N := by
    obtain ⟨x, sv, hs, ct, q, hZ⟩ := hE0
    exact hZ.o7.1
  refine lv_iconst (v := nI 0) kx kb dL_law_8 (by decide) ?_
  refine lv_istore_n (lv' := [(2, .int (nI 0)), (1, .ref (ad 0)), (0, .ref (g.2.2.2.2.2.1 100))]) kx kb dL_law_9 rfl hl (by decide) rfl (fun ls hl => ?_)
  refine w_loop2 (fun (kz : Nat) (Fq1 : Nat → va_E) => 6 - kz) (fun (kz : Nat) (Fq1 : Nat → va_E) H locs ls => Hx g N ad Fq1 A s H locs ∧ lv_has ls 10 [(0, .ref (g.2.2.2.2.2.1 100)), (1, .ref (ad 0)), (2, .int (nI kz))] ∧ (kz ≤ 6) ∧ (EZ g N ad Fq1)) ?_ 0 F ⟨h, lv_sub hl [2, 1, 0] rfl, by omega, hE0⟩
  intro kz Fq1 H locs ls hinv ih_a
  obtain ⟨h, hl, hkz, hE⟩ := hinv
  refine lv_iload_n kx kb dL_law_10 rfl (lv_at hl 2 rfl) ?_
  refine lv_bipush (v := nI 6) kx kb dL_law_11 (by decide) ?_
  refine w_cmp_ge (tgt := 77) kx kb (by omega) (by omega) dL_law_13 (by decide) (fun c_1 => ?_) (fun c_1 => ?_)
  · refine lv_iconst (v := nI 1) kx kb dL_law_77 (by decide) ?_
    refine lv_istore_n (lv' := [(2, .int (nI 1)), (0, .ref (g.2.2.2.2.2.1 100)), (1, .ref (ad 0))]) kx kb dL_law_78 rfl hl (by decide) rfl (fun ls hl => ?_)
    refine w_loop2 (fun (kz : Nat) (Fq1 : Nat → va_E) => 24 - kz) (fun (kz : Nat) (Fq1 : Nat → va_E) H locs ls => Hx g N ad Fq1 A s H locs ∧ lv_has ls 10 [(0, .ref (g.2.2.2.2.2.1 100)), (1, .ref (ad 0)), (2, .int (nI kz))] ∧ (1 ≤ kz) ∧ (kz ≤ 24) ∧ (EZ g N ad Fq1)) ?_ 1 Fq1 ⟨h, lv_sub hl [1, 2, 0] rfl, by omega, by omega, hE⟩
    intro kz Fq1 H locs ls hinv ih_b
    obtain ⟨h, hl, hkz1, hkz, hE⟩ := hinv
    refine lv_iload_n kx kb dL_law_79 rfl (lv_at hl 2 rfl) ?_
    refine lv_bipush (v := nI 24) kx kb dL_law_80 (by decide) ?_
    refine w_cmp_ge (tgt := 273) kx kb (by omega) (by omega) dL_law_82 (by decide) (fun c_2 => ?_) (fun c_2 => ?_)
    · exact hend _ _ _ _ h
    · obtain ⟨x, sv, hs, ct, q, hZ⟩ := hE
      have hO := hZ.o7.2
      have hI := hZ.1.1
      have hn12 := hI.n
      have htn64 := hI.tn
      obtain ⟨hz0, hz1a, hz1, hz2, hz3, hz4⟩ := hI.zz
      have hct := hZ.2.2.1
      refine lv_aload_n kx kb dL_law_85 rfl (lv_at hl 0 rfl) ?_
      refine lv_iload_n kx kb dL_law_86 rfl (lv_at hl 2 rfl) ?_
      refine w_callSi X M h [.ref (g.2.2.2.2.2.1 100), .int (nI kz)] [] (c_L_cell l g kz (by omega)) lk_L_168 rfl ⟨Nat.le_of_ble_eq_true rfl, Nat.le_of_ble_eq_true rfl⟩ hl hcs (Nat.le_of_ble_eq_true rfl) rfl dL_law_87 (fun r_F3 F3 H locs hp_F3 h => ?_)
      rw [hp_F3] at h
      refine lv_istore_n (lv' := [(3, .int r_F3), (0, .ref (g.2.2.2.2.2.1 100)), (1, .ref (ad 0)), (2, .int (nI kz))]) kx kb dL_law_90 rfl hl (by decide) rfl (fun ls hl => ?_)
      refine lv_aload_n kx kb dL_law_91 rfl (lv_at hl 2 rfl) ?_
      refine w_readSl X M h [.ref (ad 0)] [] (c_L_mark l g hZ) lk_L_101 rfl ⟨Nat.le_of_ble_eq_true rfl, Nat.le_of_ble_eq_true rfl⟩ hl hcs (Nat.le_of_ble_eq_true rfl) rfl dL_law_92 (fun H locs h => ?_)
      refine lv_lstore (lv' := [(4, .long (mkF x)), (3, .int r_F3), (0, .ref (g.2.2.2.2.2.1 100)), (1, .ref (ad 0)), (2, .int (nI kz))]) kx kb dL_law_95 hl (by decide) rfl (fun ls hl => ?_)
      refine lv_aload_n kx kb dL_law_97 rfl (lv_at hl 3 rfl) ?_
      refine lv_bipush (v := nI 13) kx kb dL_law_98 (by decide) ?_
      refine w_readVi X M h [.int (nI 13)] [] (z_account l hZ (nI 13)) lk_L_31 hO (by omega) rfl rfl ⟨Nat.le_of_ble_eq_true rfl, Nat.le_of_ble_eq_true rfl⟩ hl hcs (Nat.le_of_ble_eq_true rfl) rfl dL_law_100 (fun H locs h => ?_)
      refine w_top (y := nI ct) (acc_k.2.2.2.2.2.2.2.2) ?_
      refine lv_istore (lv' := [(6, .int (nI ct)), (4, .long (mkF x)), (3, .int r_F3), (0, .ref (g.2.2.2.2.2.1 100)), (1, .ref (ad 0)), (2, .int (nI kz))]) kx kb dL_law_103 hl (by decide) rfl (fun ls hl => ?_)
      refine lv_aload_n kx kb dL_law_105 rfl (lv_at hl 4 rfl) ?_
      refine lv_iload_n kx kb dL_law_106 rfl (lv_at hl 2 rfl) ?_
      refine w_callSi X M h [.ref (ad 0), .int r_F3] [] (c_L_acts l g hZ r_F3) lk_L_172 rfl ⟨Nat.le_of_ble_eq_true rfl, Nat.le_of_ble_eq_true rfl⟩ hl hcs (Nat.le_of_ble_eq_true rfl) rfl dL_law_107 (fun r_F4 F4 H locs hp_F4 h => ?_)
      obtain ⟨x1, hs1, ct1, q1, hZ1, hq1, hn1, hp1⟩ := hp_F4
      have hO1 := hZ1.o7.2
      by_cases hr : r_F4 < 0
      · have ex := hn1 hr
        rw [ex] at hZ1
        refine lv_istore (lv' := [(7, .int r_F4), (6, .int (nI ct)), (4, .long (mkF x)), (3, .int r_F3), (0, .ref (g.2.2.2.2.2.1 100)), (1, .ref (ad 0)), (2, .int (nI kz))]) kx kb dL_law_110 hl (by decide) rfl (fun ls hl => ?_)
        refine lv_iload kx kb dL_law_112 (lv_at hl 0 rfl) ?_
        refine lv_if_ge (tgt := 127) kx kb dL_law_114 (by decide) (fun c_5 => (Int32.not_lt.mpr c_5 hr).elim) (fun c_5 => ?_)
        refine lv_aload_n kx kb dL_law_117 rfl (lv_at hl 5 rfl) ?_
        refine w_readSl X M h [.ref (ad 0)] [] (c_L_mark l g hZ1) lk_L_101 rfl ⟨Nat.le_of_ble_eq_true rfl, Nat.le_of_ble_eq_true rfl⟩ hl hcs (Nat.le_of_ble_eq_true rfl) rfl dL_law_118 (fun H locs h => ?_)
        refine lv_lload kx kb dL_law_121 (lv_at hl 2 rfl) ?_
        refine w_lcmpE X dL_law_123 ?_
        refine lv_if_ne (tgt := 136) kx kb dL_law_124 (by decide) (fun q => absurd (by decide) q) (fun _ => ?_)
        refine lv_aload_n kx kb dL_law_127 rfl (lv_at hl 5 rfl) ?_
        refine lv_bipush (v := nI 12) kx kb dL_law_128 (by decide) ?_
        refine w_readVi X M h [.int (nI 12)] [] (z_account l hZ1 (nI 12)) lk_L_31 hO1 (by omega) rfl rfl ⟨Nat.le_of_ble_eq_true rfl, Nat.le_of_ble_eq_true rfl⟩ hl hcs (Nat.le_of_ble_eq_true rfl) rfl dL_law_130 (fun H locs h => ?_)
        refine w_top (y := nI 0) (acc_k.2.2.2.2.2.2.2.1) ?_
        refine lv_if_eq (tgt := 138) kx kb dL_law_133 (by decide) (fun _ => ?_) (fun q => absurd (by decide) q)
        refine lv_iload kx kb dL_law_138 (lv_at hl 0 rfl) ?_
        refine lv_if_lt (tgt := 181) kx kb dL_law_140 (by decide) (fun c_6 => ?_) (fun c_6 => (c_6 hr).elim)
        exact law_tail l g X M h hcs hZ1 hkz1 (by omega) (lv_sub hl [4, 5, 6, 3] rfl) (fun F' H' locs' ls' hE' h' hl' => ih_b (kz + 1) F' H' locs' ls' ⟨h', hl', by omega, by omega, hE'⟩ (by omega))
      · obtain ⟨ect, ehs⟩ := hp1 hr
        rw [ect, ehs] at hZ1
        refine lv_istore (lv' := [(7, .int r_F4), (6, .int (nI ct)), (4, .long (mkF x)), (3, .int r_F3), (0, .ref (g.2.2.2.2.2.1 100)), (1, .ref (ad 0)), (2, .int (nI kz))]) kx kb dL_law_110 hl (by decide) rfl (fun ls hl => ?_)
        refine lv_iload kx kb dL_law_112 (lv_at hl 0 rfl) ?_
        refine lv_if_ge (tgt := 127) kx kb dL_law_114 (by decide) (fun c_7 => ?_) (fun c_7 => (hr (Int32.not_le.mp c_7)).elim)
        refine lv_aload_n kx kb dL_law_127 rfl (lv_at hl 5 rfl) ?_
        refine lv_bipush (v := nI 12) kx kb dL_law_128 (by decide) ?_
        refine w_readVi X M h [.int (nI 12)] [] (z_account l hZ1 (nI 12)) lk_L_31 hO1 (by omega) rfl rfl ⟨Nat.le_of_ble_eq_true rfl, Nat.le_of_ble_eq_true rfl⟩ hl hcs (Nat.le_of_ble_eq_true rfl) rfl dL_law_130 (fun H locs h => ?_)
        refine w_top (y := nI 0) (acc_k.2.2.2.2.2.2.2.1) ?_
        refine lv_if_eq (tgt := 138) kx kb dL_law_133 (by decide) (fun _ => ?_) (fun q => absurd (by decide) q)
        refine lv_iload kx kb dL_law_138 (lv_at hl 0 rfl) ?_
        refine lv_if_lt (tgt := 181) kx kb dL_law_140 (by decide) (fun c_8 => (hr c_8).elim) (fun c_8 => ?_)
        refine lv_iload_n kx kb dL_law_143 rfl (lv_at hl 6 rfl) ?_
        refine lv_iconst (v := nI 3) kx kb dL_law_144 (by decide) ?_
        refine w_remn kx kb (by omega) (by omega) (by omega) dL_law_145 ?_
        refine w_if_ne (tgt := 181) kx kb (by omega) dL_law_146 (by decide) (fun c_9 => ?_) (fun c_9 => ?_)
        · exact law_tail l g X M h hcs hZ1 hkz1 (by omega) (lv_sub hl [4, 5, 6, 3] rfl) (fun F' H' locs' ls' hE' h' hl' => ih_b (kz + 1) F' H' locs' ls' ⟨h', hl', by omega, by omega, hE'⟩ (by omega))
        · refine lv_aload_n kx kb dL_law_149 rfl (lv_at hl 5 rfl) ?_
          refine w_callVi X M h [] [] (z_undo l hZ1) lk_L_122 hO1 (by omega) rfl rfl ⟨Nat.le_of_ble_eq_true rfl, Nat.le_of_ble_eq_true rfl⟩ hl hcs (Nat.le_of_ble_eq_true rfl) rfl dL_law_150 (fun r_F10 F10 H locs hp_F10 h => ?_)
          obtain ⟨er2, hZ2⟩ := hp_F10
          rw [if_neg (show ¬ min 8 (ct + 1) = 0 by omega)] at er2 hZ2
          rw [hPush_top hct] at hZ2
          have hO2 := hZ2.o7.2
          refine w_top (y := nI (min 8 (ct + 1) - 1)) (er2) ?_
          refine lv_iload kx kb dL_law_153 (lv_at hl 1 rfl) ?_
          refine lv_bipush (v := nI 7) kx kb dL_law_155 (by decide) ?_
          refine w_mminn X hl q4_25 (by omega) (by omega) ⟨Nat.le_of_ble_eq_true rfl, Nat.le_of_ble_eq_true rfl⟩ (Nat.le_of_ble_eq_true rfl) hcs dL_law_157 ?_
          refine w_cmp_ne (tgt := 173) kx kb (by omega) (by omega) dL_law_160 (by decide) (fun c_11 => (show False by omega).elim) (fun c_11 => ?_)
          refine lv_aload_n kx kb dL_law_163 rfl (lv_at hl 5 rfl) ?_
          refine w_readSl X M h [.ref (ad 0)] [] (c_L_mark l g hZ2) lk_L_101 rfl ⟨Nat.le_of_ble_eq_true rfl, Nat.le_of_ble_eq_true rfl⟩ hl hcs (Nat.le_of_ble_eq_true rfl) rfl dL_law_164 (fun H locs h => ?_)
          refine lv_lload kx kb dL_law_167 (lv_at hl 2 rfl) ?_
          refine w_lcmpE X dL_law_169 ?_
          refine lv_if_eq (tgt := 175) kx kb dL_law_170 (by decide) (fun _ => ?_) (fun q => absurd (by decide) q)
          refine lv_aload_n kx kb dL_law_175 rfl (lv_at hl 5 rfl) ?_
          refine lv_iload_n kx kb dL_law_176 rfl (lv_at hl 3 rfl) ?_
          refine w_callSi X M h [.ref (ad 0), .int r_F3] [] (c_L_acts l g hZ2 r_F3) lk_L_172 rfl ⟨Nat.le_of_ble_eq_true rfl, Nat.le_of_ble_eq_true rfl⟩ hl hcs (Nat.le_of_ble_eq_true rfl) rfl dL_law_177 (fun r_F12 F12 H locs hp_F12 h => ?_)
          obtain ⟨x3, hs3, ct3, q3, hZ3, hq3, -, -⟩ := hp_F12
          have hO3 := hZ3.o7.2
          refine lv_pop kx kb dL_law_180 rfl ?_
          exact law_tail l g X M h hcs hZ3 hkz1 (by omega) (lv_sub hl [4, 5, 6, 3] rfl) (fun F' H' locs' ls' hE' h' hl' => ih_b (kz + 1) F' H' locs' ls' ⟨h', hl', by omega, by omega, hE'⟩ (by omega))
  · obtain ⟨x, sv, hs, ct, q, hZ⟩ := hE
    have hO := hZ.o7.2
    refine lv_aload_n kx kb dL_law_16 rfl (lv_at hl 1 rfl) ?_
    refine lv_aload_n kx kb dL_law_17 rfl (lv_at hl 0 rfl) ?_
    refine lv_iconst (v := nI 0) kx kb dL_law_18 (by decide) ?_
    refine w_callSi X M h [.ref (g.2.2.2.2.2.1 100), .int (nI 0)] [.ref (ad 0)] (c_L_cell l g 0 (by omega)) lk_L_168 rfl ⟨Nat.le_of_ble_eq_true rfl, Nat.le_of_ble_eq_true rfl⟩ hl hcs (Nat.le_of_ble_eq_true rfl) rfl dL_law_19 (fun r_F13 F13 H locs hp_F13 h => ?_)
    rw [hp_F13] at h
    refine lv_iload_n kx kb dL_law_22 rfl (lv_at hl 2 rfl) ?_
    refine lv_ishr kx kb dL_law_23 ?_
    refine lv_iconst (v := nI 2) kx kb dL_law_24 (by decide) ?_
    refine w_readSi X M h [.int (r_F13 >>> ((nI kz) &&& 31)), .int (nI 2)] [.ref (ad 0)] (c_L_chosen l g (r_F13 >>> ((nI kz) &&& 31)) 2 (by omega) (by omega)) lk_L_58 rfl ⟨Nat.le_of_ble_eq_true rfl, Nat.le_of_ble_eq_true rfl⟩ hl hcs (Nat.le_of_ble_eq_true rfl) rfl dL_law_25 (fun H locs h => ?_)
    refine lv_iconst (v := nI 2) kx kb dL_law_28 (by decide) ?_
    refine lv_iconst (v := nI 3) kx kb dL_law_29 (by decide) ?_
    refine lv_iload_n kx kb dL_law_30 rfl (lv_at hl 2 rfl) ?_
    refine w_muln kx kb dL_law_31 ?_
    refine w_addn kx kb dL_law_32 ?_
    refine lv_aload_n kx kb dL_law_33 rfl (lv_at hl 0 rfl) ?_
    refine lv_iconst (v := nI 0) kx kb dL_law_34 (by decide) ?_
    refine w_callSi X M h [.ref (g.2.2.2.2.2.1 100), .int (nI 0)] [.int (nI (2 + (3 * kz))), .int (nI (chN (r_F13 >>> ((nI kz) &&& 31)) 2)), .ref (ad 0)] (c_L_cell l g 0 (by omega)) lk_L_168 rfl ⟨Nat.le_of_ble_eq_true rfl, Nat.le_of_ble_eq_true rfl⟩ hl hcs (Nat.le_of_ble_eq_true rfl) rfl dL_law_35 (fun r_F14 F14 H locs hp_F14 h => ?_)
    rw [hp_F14] at h
    refine lv_iconst (v := nI 2) kx kb dL_law_38 (by decide) ?_
    refine lv_iload_n kx kb dL_law_39 rfl (lv_at hl 2 rfl) ?_
    refine w_muln kx kb dL_law_40 ?_
    refine lv_ishr kx kb dL_law_41 ?_
    refine lv_iconst (v := nI 3) kx kb dL_law_42 (by decide) ?_
    refine w_readSi X M h [.int (r_F14 >>> ((nI (2 * kz)) &&& 31)), .int (nI 3)] [.int (nI (2 + (3 * kz))), .int (nI (chN (r_F13 >>> ((nI kz) &&& 31)) 2)), .ref (ad 0)] (c_L_chosen l g (r_F14 >>> ((nI (2 * kz)) &&& 31)) 3 (by omega) (by omega)) lk_L_58 rfl ⟨Nat.le_of_ble_eq_true rfl, Nat.le_of_ble_eq_true rfl⟩ hl hcs (Nat.le_of_ble_eq_true rfl) rfl dL_law_43 (fun H locs h => ?_)
    refine w_addn kx kb dL_law_46 ?_
    refine lv_bipush (v := nI 8) kx kb dL_law_47 (by decide) ?_
    refine lv_iload_n kx kb dL_law_49 rfl (lv_at hl 2 rfl) ?_
    refine w_muln kx kb dL_law_50 ?_
    refine lv_iconst (v := nI 1) kx kb dL_law_51 (by decide) ?_
    refine lv_aload_n kx kb dL_law_52 rfl (lv_at hl 0 rfl) ?_
    refine lv_iconst (v := nI 0) kx kb dL_law_53 (by decide) ?_
    refine w_callSi X M h [.ref (g.2.2.2.2.2.1 100), .int (nI 0)] [.int (nI 1), .int (nI (8 * kz)), .int (nI (2 + (3 * kz) + (chN (r_F14 >>> ((nI (2 * kz)) &&& 31)) 3))), .int (nI (chN (r_F13 >>> ((nI kz) &&& 31)) 2)), .ref (ad 0)] (c_L_cell l g 0 (by omega)) lk_L_168 rfl ⟨Nat.le_of_ble_eq_true rfl, Nat.le_of_ble_eq_true rfl⟩ hl hcs (Nat.le_of_ble_eq_true rfl) rfl dL_law_54 (fun r_F15 F15 H locs hp_F15 h => ?_)
    rw [hp_F15] at h
    refine lv_iconst (v := nI 3) kx kb dL_law_57 (by decide) ?_
    refine lv_iload_n kx kb dL_law_58 rfl (lv_at hl 2 rfl) ?_
    refine w_muln kx kb dL_law_59 ?_
    refine lv_ishr kx kb dL_law_60 ?_
    refine lv_bipush (v := nI 9) kx kb dL_law_61 (by decide) ?_
    refine w_readSi X M h [.int (r_F15 >>> ((nI (3 * kz)) &&& 31)), .int (nI 9)] [.int (nI 1), .int (nI (8 * kz)), .int (nI (2 + (3 * kz) + (chN (r_F14 >>> ((nI (2 * kz)) &&& 31)) 3))), .int (nI (chN (r_F13 >>> ((nI kz) &&& 31)) 2)), .ref (ad 0)] (c_L_chosen l g (r_F15 >>> ((nI (3 * kz)) &&& 31)) 9 (by omega) (by omega)) lk_L_58 rfl ⟨Nat.le_of_ble_eq_true rfl, Nat.le_of_ble_eq_true rfl⟩ hl hcs (Nat.le_of_ble_eq_true rfl) rfl dL_law_63 (fun H locs h => ?_)
    refine w_addn kx kb dL_law_66 ?_
    refine w_callVi X M h [.int (nI (chN (r_F13 >>> ((nI kz) &&& 31)) 2)), .int (nI (2 + (3 * kz) + (chN (r_F14 >>> ((nI (2 * kz)) &&& 31)) 3))), .int (nI (8 * kz)), .int (nI (1 + (chN (r_F15 >>> ((nI (3 * kz)) &&& 31)) 9)))] [] (z_joke l hZ (nI (chN (r_F13 >>> ((nI kz) &&& 31)) 2)) (nI (2 + (3 * kz) + (chN (r_F14 >>> ((nI (2 * kz)) &&& 31)) 3))) (nI (8 * kz)) (nI (1 + (chN (r_F15 >>> ((nI (3 * kz)) &&& 31)) 9)))) lk_L_68 hO (by omega) rfl rfl ⟨Nat.le_of_ble_eq_true rfl, Nat.le_of_ble_eq_true rfl⟩ hl hcs (Nat.le_of_ble_eq_true rfl) rfl dL_law_67 (fun r_F16 F16 H locs hp_F16 h => ?_)
    have hE2 : EZ g N ad F16 := ez_of_ap (ap_of_tz hp_F16)
    refine lv_pop kx kb dL_law_70 rfl ?_
    refine lv_iinc (v := nI (kz + 1)) (lv' := [(2, .int (nI (kz + 1))), (0, .ref (g.2.2.2.2.2.1 100)), (1, .ref (ad 0))]) kx kb dL_law_71 hl (k := 2) rfl (nI_add _ _) (by decide) rfl (fun ls hl => ?_)
    refine lv_goto (tgt := 10) kx kb dL_law_74 (by decide) ?_
    exact ih_a (kz + 1) F16 _ _ _ ⟨h, lv_sub hl [1, 2, 0] rfl, by omega, hE2⟩ (by omega)
theorem ez_0 {g : gT} {ad : Nat → Nat} {F : Nat → va_E} (hp : oP0 g 254 ad F q0X ∧ oSt g 254 ad F 1 stX0 ∧ oSt g 254 ad F 23 stX0 ∧ oHi0 g 254 ad F ∧ oStrip g 254 ad F 245 0 (fun _ => nI 0) ∧ oStrip g 254 ad F 247 0 (fun _ => nI 0) ∧ oRd0 g 254 ad F 249) : EZ g 254 ad F := by
  obtain ⟨p1, p2, p3, p4, p5, p6, p7⟩ := hp
  obtain ⟨r1, r2, r3, r4⟩ := p7
  obtain ⟨t1, t2, t3, t4⟩ := p4
  exact ⟨stX0, stX0, fun _ => stX0, 0, q0X, inv_0, fun i hi => absurd hi (Nat.not_lt_zero i), by omega, by omega, 0, (0, fun _ => nI 0), fun _ => nI 0, by omega, p1, p2, p3, ⟨by omega, t2, t3⟩, fun k hk => ⟨_, t4 k hk⟩, fun i hi => absurd hi (Nat.not_lt_zero i), p5, p6, 0, 0, _, _, ⟨by omega, r2, r3, r4⟩⟩
set_option maxRecDepth 40000 in
set_option maxHeartbeats 2000000 in
theorem law_start {p : Program} {e : Env} {s : State} {m : MethodId} {below : List Frame} {meth : Method} {c : Code} (l : Launch) {b L : Nat} {xs : Nat → Int32} (hL : L ≤ 260) {Q : State → Prop} (X : Kx p m meth c s #[Value.ref b] code 10 RL ret) (hts : ∀ w ∈ lw_tbl, w.before #[Value.ref b] s = true) (hn : ∀ w ∈ nwL, w.before #[Value.ref b] s = true) (hX : va_X b L xs s s.heap) (hbl : b < s.heap.size) (hend : ∀ (H : Heap) (locs : List Loc) (ls : Array Slot), (∀ q ∈ locs, s.heap.size ≤ q.base) → W p l e room_1 s m #[Value.ref b] below meth c H locs 600000 7302250 Q (F0 m 273 ls [])) : W p l e room_1 s m #[Value.ref b] below meth c s.heap [] 0 0 Q (entryFrame m ([Value.ref b] : List Value).toArray 10) := by
  obtain ⟨g, hgb, hM⟩ := mx_at hts hn hX hL hbl
  subst hgb
  have M := hM (fun _ => 0)
  have kx := X.1.1
  have kb := X.1.2.1
  have h : Hx g 0 (fun _ => 0) (fun _ => .inr (0, [])) (fun q : Nat => s.heap.size ≤ q) s s.heap [] := ⟨fun k q hq => absurd (wl_lt hq).1 (Nat.not_lt_zero k), va_S.rf⟩
  have hAO : va_AO RX4 s := va_AO.of (hts (Cond.arrayOver (.object RX4)) (tin1 (List.mem_of_getElem? (i := 171) (by decide +kernel))))
  have hl := lv_entry ([.ref (g.2.2.2.2.2.1 100)]) (n := 10) (Nat.le_of_ble_eq_true rfl)
  rw [lg_entry_eq]
  generalize (lg_sl ([.ref (g.2.2.2.2.2.1 100)]) ++ List.replicate (10 - (lg_sl ([.ref (g.2.2.2.2.2.1 100)])).length) Slot.unset).toArray = ls at hl ⊢
  have hl : lv_has ls 10 [(0, .ref (g.2.2.2.2.2.1 100))] := hl
  refine w_new X (show 0 + 1 = 1 by omega) M h nw_L_19 ⟨Nat.le_of_ble_eq_true rfl, Nat.le_of_ble_eq_true rfl⟩ dL_law_0 (fun ad1 F1 H M h hag1 hO1 hfr1 => ?_)
  refine lv_dup kx kb dL_law_3 rfl ?_
  refine w_callI X (show 1 + 253 = 254 by omega) M h hAO (i := 0) [] [.ref (ad1 0)] (c_X7_init l g hO1) li_L_167 rfl ⟨Nat.le_of_ble_eq_true rfl, Nat.le_of_ble_eq_true rfl⟩ hl ⟨Nat.le_of_ble_eq_true rfl, Nat.le_of_ble_eq_true rfl⟩ (Nat.le_of_ble_eq_true rfl) rfl dL_law_4 (fun ad2 F2 H locs hp2 M h hag2 => ?_)
  rw [← hag2 0 (by omega)]
  refine lv_astore_n (lv' := [(1, .ref (ad2 0)), (0, .ref (g.2.2.2.2.2.1 100))]) kx kb dL_law_7 rfl hl (by decide) rfl (fun ls hl => ?_)
  refine W.widen (k := 600000) (n := 7302250) (Nat.le_of_ble_eq_true rfl) (Nat.le_of_ble_eq_true rfl) ?_
  exact law_main l g X M h ⟨Nat.le_of_ble_eq_true rfl, Nat.le_of_ble_eq_true rfl⟩ (ez_0 hp2.1) hl (fun F H locs ls h => hend H locs ls h.2.2.2)
