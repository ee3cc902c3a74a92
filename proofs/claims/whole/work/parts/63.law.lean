def rdD64 : FP.Core.Datum → Prop
  | .nan => False
  | .inf s => s = false
  | .fin s c q => s = false ∧ c < 9007199254740992 ∧ q ≤ 971
theorem bound_rd64 {c : Nat} {q : Int} (hc : c < 9007199254740992) : rdD64 (FP.Core.bound FP.Core.b64 false c q) := by
  unfold FP.Core.bound
  split
  · rename_i h
    exact ⟨rfl, hc, h⟩
  · rfl
theorem ratio_rd64 (num den : Nat) (e : Int) : rdD64 (FP.Core.roundRatio FP.Core.b64 false num den e) := by
  unfold FP.Core.roundRatio
  split
  · exact ⟨rfl, by decide, by decide⟩
  · unfold FP.Core.roundAt FP.Core.settle
    split
    · rename_i h
      exact bound_rd64 h
    · exact bound_rd64 (by decide)
theorem round_rd64 : ∀ {a : FP.Core.Datum}, nnD a → rdD64 (FP.Core.round FP.Core.b64 a)
  | .inf s, h => by cases h; rfl
  | .fin s c q, h => by cases h; exact ratio_rd64 _ _ _
theorem enc_nn64 : ∀ {a : FP.Core.Datum}, rdD64 a → FP.Core.encode FP.Core.b64 a ≤ 9218868437227405312
  | .inf s, h => by cases h; decide
  | .fin s c q, h => by
    obtain ⟨h1, h2, h3⟩ := h
    cases h1
    unfold FP.Core.encode
    have e1 : FP.Core.b64.tails = 4503599627370496 := rfl
    have e2 : FP.Core.b64.qmin = -1074 := by decide
    have e3 : FP.Core.b64.exps = 2048 := rfl
    simp only [FP.Core.assemble, e1, e2, e3, Bool.toNat_false]
    split <;> omega
theorem f2d_n {v : UInt32} (h : nnF v) : vf_n64 (FP.f2d v) := by
  have hd := dec_nn h
  have hn : FP.Core.fIsNaN v = false := by
    show decide (FP.Core.decode FP.Core.b32 v.toNat = .nan) = false
    refine decide_eq_false (fun e => ?_)
    rw [e] at hd
    exact hd
  have h2 := enc_nn64 (round_rd64 hd)
  have h3 : (FP.f2d v).toNat ≤ 9218868437227405312 := by
    show (if FP.Core.fIsNaN v then FP.nanF2D v else FP.Core.f2d v).toNat ≤ _
    rw [hn, if_neg (by decide)]
    show (UInt64.ofNat (FP.Core.encode FP.Core.b64 _)).toNat ≤ _
    rw [UInt64.toNat_ofNat']
    exact Nat.le_trans (Nat.mod_le _ _) h2
  show FP.f2d v &&& 0x7fffffffffffffff ≤ 0x7ff0000000000000
  rw [UInt64.le_iff_toNat_le, UInt64.toNat_and]
  exact Nat.le_trans Nat.and_le_left h3
theorem i2c_n (x : Int32) : ∃ k, k < 65536 ∧ (x.toUInt32 % 65536).toInt32 = nI k := by
  have h : (x.toUInt32 % 65536).toNat < 65536 := by
    rw [UInt32.toNat_mod]
    exact Nat.mod_lt _ (by decide)
  refine ⟨(x.toUInt32 % 65536).toNat, h, ?_⟩
  rw [show nI (x.toUInt32 % 65536).toNat = (UInt32.ofNat (x.toUInt32 % 65536).toNat).toInt32 from rfl, UInt32.ofNat_toNat]
set_option maxRecDepth 20000 in
theorem law_0 {p : Program} (l : Launch) {e : Env} {s : State} {m : MethodId} {below : List Frame} {meth : Method} {c : Code} {b Ls : Nat} {xs : Nat → Int32} (g : gT) {N : Nat} {ad : Nat → Nat} {F : Nat → va_E} {A : Nat → Prop} {H : Heap} {locs : List Loc} {cells slots : Nat} {Q : State → Prop} {ls : Array Slot} {i : Nat} (X : Kx p m meth c s #[.ref b] code 8 RL ret) (M : Mx g N ad A s) (h : Hx g N ad F A s H locs) (hW : PW g N ad F) (hX : va_X b Ls xs s s.heap) (hb : b < s.heap.size) (hbA : ¬ A b) (hl : lv_has ls 8 [(0, .ref b), (1, .ref (ad 0)), (2, .ref (ad 254)), (3, .int (nI i))]) (hi : i + 5 ≤ Ls) (hLs : Ls ≤ 2560) (hcs : cells ≤ room_1.cells ∧ slots ≤ room_1.slots) (hnext : ∀ (F' : Nat → va_E) (H' : Heap) (locs' : List Loc) (ls' : Array Slot), PW g N ad F' → Hx g N ad F' A s H' locs' → lv_has ls' 8 [(0, .ref b), (1, .ref (ad 0)), (2, .ref (ad 254)), (3, .int (nI i))] → W p l e room_1 s m #[.ref b] below meth c H' locs' cells slots Q (F0 m 1180 ls' [])) : W p l e room_1 s m #[.ref b] below meth c H locs cells slots Q (F0 m 200 ls []) := by
  have kx := X.1.1
  have kb := X.1.2.1
  have hW0 := hW
  obtain ⟨x, sv, hs, ct, nx, L, il, ia, q, u, v, hC, hR, hP⟩ := hW
  have hI := hP.1.1
  have hn12 := hI.n
  have htn64 := hI.tn
  have hN0 := hR.1.1
  obtain ⟨hz0, hz1a, hz1, hz2, hz3, hz4⟩ := hI.zz
  obtain ⟨W, hWa, hRW⟩ := hR.2.1
  obtain ⟨A9, hA9⟩ := hR.2.2.2.2.2.1
  have hct := hP.2.2.2.2.2.1
  have hnx := hP.2.2.2.2.2.2.1
  have hL60 := hP.2.2.2.2.2.2.2.1
  have hil60 := hP.2.2.2.2.2.2.2.2.1
  have hRq := hP.2.2.2.2.2.2.2.2.2
  have hv0e := hR.2.2.2.2.2.2.2.2.2.1
  have hv1 := hR.2.2.2.2.2.2.2.2.2.2.1
  have hv2 := hR.2.2.2.2.2.2.2.2.2.2.2.1
  have hv3 := hR.2.2.2.2.2.2.2.2.2.2.2.2
  have hns : ∀ i, i < v 0 → (hs i).1 ≤ 12 ∧ (hs i).2.2.1 ≤ 64 := fun i hi => by have z := hP.2.2.2.2.1 i (by omega); exact ⟨z.1.n, z.1.tn⟩
  obtain ⟨yk, hyk⟩ := hC.2.2.2.2.1 nx hnx
  obtain ⟨yu, hyu, hyu2⟩ := undo_slot hC hct hnx
  obtain ⟨rc0, re0, kd0, nm0, hrd0⟩ := hC.2.2.2.2.2.2.2.2
  have hO7 := hC.1.2
  have hO8 := hR.1.2
  refine lv_aload_n kx kb dL_law_200 rfl (lv_at hl 1 rfl) ?_
  refine lv_aload_n kx kb dL_law_201 rfl (lv_at hl 0 rfl) ?_
  refine lv_iload_n kx kb dL_law_202 rfl (lv_at hl 3 rfl) ?_
  refine lv_iconst (v := nI 1) kx kb dL_law_203 (by decide) ?_
  refine w_addn kx kb dL_law_204 ?_
  refine w_sld X h hX hb hbA (show i + 1 < Ls by omega) hLs dL_law_205 ?_
  refine lv_aload_n kx kb dL_law_206 rfl (lv_at hl 0 rfl) ?_
  refine lv_iload_n kx kb dL_law_207 rfl (lv_at hl 3 rfl) ?_
  refine lv_iconst (v := nI 2) kx kb dL_law_208 (by decide) ?_
  refine w_addn kx kb dL_law_209 ?_
  refine w_sld X h hX hb hbA (show i + 2 < Ls by omega) hLs dL_law_210 ?_
  refine lv_aload_n kx kb dL_law_211 rfl (lv_at hl 0 rfl) ?_
  refine lv_iload_n kx kb dL_law_212 rfl (lv_at hl 3 rfl) ?_
  refine lv_iconst (v := nI 3) kx kb dL_law_213 (by decide) ?_
  refine w_addn kx kb dL_law_214 ?_
  refine w_sld X h hX hb hbA (show i + 3 < Ls by omega) hLs dL_law_215 ?_
  refine lv_aload_n kx kb dL_law_216 rfl (lv_at hl 0 rfl) ?_
  refine lv_iload_n kx kb dL_law_217 rfl (lv_at hl 3 rfl) ?_
  refine lv_iconst (v := nI 4) kx kb dL_law_218 (by decide) ?_
  refine w_addn kx kb dL_law_219 ?_
  refine w_sld X h hX hb hbA (show i + 4 < Ls by omega) hLs dL_law_220 ?_
  refine w_callVi X M h [.int (xs (i + 1)), .int (xs (i + 2)), .int (xs (i + 3)), .int (xs (i + 4))] [] (c_X7_joke l g x q hC.1 hC.2.1 hn12 htn64 nx ct hC.2.2.2.1 hct hnx yk hyk (xs (i + 1)) (xs (i + 2)) (xs (i + 3)) (xs (i + 4)) ) lk_L_13 hO7 (by omega) rfl rfl ⟨Nat.le_of_ble_eq_true rfl, Nat.le_of_ble_eq_true rfl⟩ hl hcs (Nat.le_of_ble_eq_true rfl) rfl dL_law_221 (fun r_F1 F1 H locs hp_F1 h => ?_)
  obtain ⟨hr7, hT7⟩ := pc_turn hC hct hnx (letComeF_turn) (notJoke_c) (fun e => nI_pos (by omega)) hp_F1
  have hR1 := hR.fr hT7.2.2
  obtain ⟨W1, hW1, hRW1⟩ := hR1.2.1
  obtain ⟨D1, hD1⟩ := hR1.2.2.2.2.1
  have hO8 := hR1.1.2
  refine w_top (y := if (notJokeF x (xs (i + 1)) (xs (i + 2)) (xs (i + 3)) (xs (i + 4))).1 = 0 then nI x.1 else (notJokeF x (xs (i + 1)) (xs (i + 2)) (xs (i + 3)) (xs (i + 4))).1) (hr7) ?_
  refine lv_aload_n kx kb dL_law_224 rfl (lv_at hl 2 rfl) ?_
  refine lv_aload_n kx kb dL_law_225 rfl (lv_at hl 0 rfl) ?_
  refine lv_iload_n kx kb dL_law_226 rfl (lv_at hl 3 rfl) ?_
  refine lv_iconst (v := nI 1) kx kb dL_law_227 (by decide) ?_
  refine w_addn kx kb dL_law_228 ?_
  refine w_sld X h hX hb hbA (show i + 1 < Ls by omega) hLs dL_law_229 ?_
  refine lv_aload_n kx kb dL_law_230 rfl (lv_at hl 0 rfl) ?_
  refine lv_iload_n kx kb dL_law_231 rfl (lv_at hl 3 rfl) ?_
  refine lv_iconst (v := nI 2) kx kb dL_law_232 (by decide) ?_
  refine w_addn kx kb dL_law_233 ?_
  refine w_sld X h hX hb hbA (show i + 2 < Ls by omega) hLs dL_law_234 ?_
  refine lv_aload_n kx kb dL_law_235 rfl (lv_at hl 0 rfl) ?_
  refine lv_iload_n kx kb dL_law_236 rfl (lv_at hl 3 rfl) ?_
  refine lv_iconst (v := nI 3) kx kb dL_law_237 (by decide) ?_
  refine w_addn kx kb dL_law_238 ?_
  refine w_sld X h hX hb hbA (show i + 3 < Ls by omega) hLs dL_law_239 ?_
  refine lv_aload_n kx kb dL_law_240 rfl (lv_at hl 0 rfl) ?_
  refine lv_iload_n kx kb dL_law_241 rfl (lv_at hl 3 rfl) ?_
  refine lv_iconst (v := nI 4) kx kb dL_law_242 (by decide) ?_
  refine w_addn kx kb dL_law_243 ?_
  refine w_sld X h hX hb hbA (show i + 4 < Ls by omega) hLs dL_law_244 ?_
  refine w_callVi X M h [.int (xs (i + 1)), .int (xs (i + 2)), .int (xs (i + 3)), .int (xs (i + 4))] [.int (if (notJokeF x (xs (i + 1)) (xs (i + 2)) (xs (i + 3)) (xs (i + 4))).1 = 0 then nI x.1 else (notJokeF x (xs (i + 1)) (xs (i + 2)) (xs (i + 3)) (xs (i + 4))).1)] (c_X8_joke l g u v hR1.1 x hI W1 hW1 hRW1 (by omega) hv1 hs hns hR1.2.2.1 D1 hD1 (xs (i + 1)) (xs (i + 2)) (xs (i + 3)) (xs (i + 4))) lk_L_17 hO8 (by omega) rfl rfl ⟨Nat.le_of_ble_eq_true rfl, Nat.le_of_ble_eq_true rfl⟩ hl hcs (Nat.le_of_ble_eq_true rfl) rfl dL_law_245 (fun r_F2 F2 H locs hp_F2 h => ?_)
  obtain ⟨hr8, hT8⟩ := pr_turn hR1 hp_F2
  refine w_top (y := if (notJokeF x (xs (i + 1)) (xs (i + 2)) (xs (i + 3)) (xs (i + 4))).1 = 0 then nI x.1 else (notJokeF x (xs (i + 1)) (xs (i + 2)) (xs (i + 3)) (xs (i + 4))).1) (hr8) ?_
  refine lv_icmp_eq (tgt := 1180) kx kb dL_law_248 (by decide) (fun c_3 => ?_) (fun c_3 => (c_3 rfl).elim)
  exact hnext _ _ _ _ (pw_turn hP (fun e => iva_106 hP.1 e) hT7 hT8) h (lv_sub hl [0, 1, 2, 3] rfl)
set_option maxRecDepth 20000 in
theorem law_1 {p : Program} (l : Launch) {e : Env} {s : State} {m : MethodId} {below : List Frame} {meth : Method} {c : Code} {b Ls : Nat} {xs : Nat → Int32} (g : gT) {N : Nat} {ad : Nat → Nat} {F : Nat → va_E} {A : Nat → Prop} {H : Heap} {locs : List Loc} {cells slots : Nat} {Q : State → Prop} {ls : Array Slot} {i : Nat} (X : Kx p m meth c s #[.ref b] code 8 RL ret) (M : Mx g N ad A s) (h : Hx g N ad F A s H locs) (hW : PW g N ad F) (hX : va_X b Ls xs s s.heap) (hb : b < s.heap.size) (hbA : ¬ A b) (hl : lv_has ls 8 [(0, .ref b), (1, .ref (ad 0)), (2, .ref (ad 254)), (3, .int (nI i))]) (hi : i + 5 ≤ Ls) (hLs : Ls ≤ 2560) (hcs : cells ≤ room_1.cells ∧ slots ≤ room_1.slots) (hnext : ∀ (F' : Nat → va_E) (H' : Heap) (locs' : List Loc) (ls' : Array Slot), PW g N ad F' → Hx g N ad F' A s H' locs' → lv_has ls' 8 [(0, .ref b), (1, .ref (ad 0)), (2, .ref (ad 254)), (3, .int (nI i))] → W p l e room_1 s m #[.ref b] below meth c H' locs' cells slots Q (F0 m 1180 ls' [])) : W p l e room_1 s m #[.ref b] below meth c H locs cells slots Q (F0 m 253 ls []) := by
  have kx := X.1.1
  have kb := X.1.2.1
  have hW0 := hW
  obtain ⟨x, sv, hs, ct, nx, L, il, ia, q, u, v, hC, hR, hP⟩ := hW
  have hI := hP.1.1
  have hn12 := hI.n
  have htn64 := hI.tn
  have hN0 := hR.1.1
  obtain ⟨hz0, hz1a, hz1, hz2, hz3, hz4⟩ := hI.zz
  obtain ⟨W, hWa, hRW⟩ := hR.2.1
  obtain ⟨A9, hA9⟩ := hR.2.2.2.2.2.1
  have hct := hP.2.2.2.2.2.1
  have hnx := hP.2.2.2.2.2.2.1
  have hL60 := hP.2.2.2.2.2.2.2.1
  have hil60 := hP.2.2.2.2.2.2.2.2.1
  have hRq := hP.2.2.2.2.2.2.2.2.2
  have hv0e := hR.2.2.2.2.2.2.2.2.2.1
  have hv1 := hR.2.2.2.2.2.2.2.2.2.2.1
  have hv2 := hR.2.2.2.2.2.2.2.2.2.2.2.1
  have hv3 := hR.2.2.2.2.2.2.2.2.2.2.2.2
  have hns : ∀ i, i < v 0 → (hs i).1 ≤ 12 ∧ (hs i).2.2.1 ≤ 64 := fun i hi => by have z := hP.2.2.2.2.1 i (by omega); exact ⟨z.1.n, z.1.tn⟩
  obtain ⟨yk, hyk⟩ := hC.2.2.2.2.1 nx hnx
  obtain ⟨yu, hyu, hyu2⟩ := undo_slot hC hct hnx
  obtain ⟨rc0, re0, kd0, nm0, hrd0⟩ := hC.2.2.2.2.2.2.2.2
  have hO7 := hC.1.2
  have hO8 := hR.1.2
  refine lv_aload_n kx kb dL_law_253 rfl (lv_at hl 1 rfl) ?_
  refine lv_aload_n kx kb dL_law_254 rfl (lv_at hl 0 rfl) ?_
  refine lv_iload_n kx kb dL_law_255 rfl (lv_at hl 3 rfl) ?_
  refine lv_iconst (v := nI 1) kx kb dL_law_256 (by decide) ?_
  refine w_addn kx kb dL_law_257 ?_
  refine w_sld X h hX hb hbA (show i + 1 < Ls by omega) hLs dL_law_258 ?_
  refine w_callVi X M h [.int (xs (i + 1))] [] (c_X7_prime l g x q hC.1 hC.2.1 hn12 htn64 nx ct hC.2.2.2.1 hct hnx yk hyk (xs (i + 1)) (by show x.2.2.2.2.2.2.2 4 < 1000; omega)) lk_L_18 hO7 (by omega) rfl rfl ⟨Nat.le_of_ble_eq_true rfl, Nat.le_of_ble_eq_true rfl⟩ hl hcs (Nat.le_of_ble_eq_true rfl) rfl dL_law_259 (fun r_F1 F1 H locs hp_F1 h => ?_)
  obtain ⟨hr7, hT7⟩ := pc_turn hC hct hnx (primeF_turn) (notPrime_c) (fun e => nI_pos (by omega)) hp_F1
  have hR1 := hR.fr hT7.2.2
  obtain ⟨W1, hW1, hRW1⟩ := hR1.2.1
  obtain ⟨D1, hD1⟩ := hR1.2.2.2.2.1
  have hO8 := hR1.1.2
  refine w_top (y := if (notPrimeF x (xs (i + 1))).1 = 0 then nI (x.2.2.2.2.2.2.2 4 - 1) else (notPrimeF x (xs (i + 1))).1) (hr7) ?_
  refine lv_aload_n kx kb dL_law_262 rfl (lv_at hl 2 rfl) ?_
  refine lv_aload_n kx kb dL_law_263 rfl (lv_at hl 0 rfl) ?_
  refine lv_iload_n kx kb dL_law_264 rfl (lv_at hl 3 rfl) ?_
  refine lv_iconst (v := nI 1) kx kb dL_law_265 (by decide) ?_
  refine w_addn kx kb dL_law_266 ?_
  refine w_sld X h hX hb hbA (show i + 1 < Ls by omega) hLs dL_law_267 ?_
  refine w_callVi X M h [.int (xs (i + 1))] [.int (if (notPrimeF x (xs (i + 1))).1 = 0 then nI (x.2.2.2.2.2.2.2 4 - 1) else (notPrimeF x (xs (i + 1))).1)] (c_X8_prime l g u v hR1.1 x hI W1 hW1 hRW1 (by omega) hv1 hs hns hR1.2.2.1 D1 hD1 (xs (i + 1))) lk_L_22 hO8 (by omega) rfl rfl ⟨Nat.le_of_ble_eq_true rfl, Nat.le_of_ble_eq_true rfl⟩ hl hcs (Nat.le_of_ble_eq_true rfl) rfl dL_law_268 (fun r_F2 F2 H locs hp_F2 h => ?_)
  obtain ⟨hr8, hT8⟩ := pr_turn hR1 hp_F2
  refine w_top (y := if (notPrimeF x (xs (i + 1))).1 = 0 then nI (x.2.2.2.2.2.2.2 4 - 1) else (notPrimeF x (xs (i + 1))).1) (hr8) ?_
  refine lv_icmp_eq (tgt := 1180) kx kb dL_law_271 (by decide) (fun c_3 => ?_) (fun c_3 => (c_3 rfl).elim)
  exact hnext _ _ _ _ (pw_turn hP (fun e => iva_114 hP.1 e) hT7 hT8) h (lv_sub hl [0, 1, 2, 3] rfl)
set_option maxRecDepth 20000 in
theorem law_2 {p : Program} (l : Launch) {e : Env} {s : State} {m : MethodId} {below : List Frame} {meth : Method} {c : Code} {b Ls : Nat} {xs : Nat → Int32} (g : gT) {N : Nat} {ad : Nat → Nat} {F : Nat → va_E} {A : Nat → Prop} {H : Heap} {locs : List Loc} {cells slots : Nat} {Q : State → Prop} {ls : Array Slot} {i : Nat} (X : Kx p m meth c s #[.ref b] code 8 RL ret) (M : Mx g N ad A s) (h : Hx g N ad F A s H locs) (hW : PW g N ad F) (hX : va_X b Ls xs s s.heap) (hb : b < s.heap.size) (hbA : ¬ A b) (hl : lv_has ls 8 [(0, .ref b), (1, .ref (ad 0)), (2, .ref (ad 254)), (3, .int (nI i))]) (hi : i + 5 ≤ Ls) (hLs : Ls ≤ 2560) (hcs : cells ≤ room_1.cells ∧ slots ≤ room_1.slots) (hnext : ∀ (F' : Nat → va_E) (H' : Heap) (locs' : List Loc) (ls' : Array Slot), PW g N ad F' → Hx g N ad F' A s H' locs' → lv_has ls' 8 [(0, .ref b), (1, .ref (ad 0)), (2, .ref (ad 254)), (3, .int (nI i))] → W p l e room_1 s m #[.ref b] below meth c H' locs' cells slots Q (F0 m 1180 ls' [])) : W p l e room_1 s m #[.ref b] below meth c H locs cells slots Q (F0 m 276 ls []) := by
  have kx := X.1.1
  have kb := X.1.2.1
  have hW0 := hW
  obtain ⟨x, sv, hs, ct, nx, L, il, ia, q, u, v, hC, hR, hP⟩ := hW
  have hI := hP.1.1
  have hn12 := hI.n
  have htn64 := hI.tn
  have hN0 := hR.1.1
  obtain ⟨hz0, hz1a, hz1, hz2, hz3, hz4⟩ := hI.zz
  obtain ⟨W, hWa, hRW⟩ := hR.2.1
  obtain ⟨A9, hA9⟩ := hR.2.2.2.2.2.1
  have hct := hP.2.2.2.2.2.1
  have hnx := hP.2.2.2.2.2.2.1
  have hL60 := hP.2.2.2.2.2.2.2.1
  have hil60 := hP.2.2.2.2.2.2.2.2.1
  have hRq := hP.2.2.2.2.2.2.2.2.2
  have hv0e := hR.2.2.2.2.2.2.2.2.2.1
  have hv1 := hR.2.2.2.2.2.2.2.2.2.2.1
  have hv2 := hR.2.2.2.2.2.2.2.2.2.2.2.1
  have hv3 := hR.2.2.2.2.2.2.2.2.2.2.2.2
  have hns : ∀ i, i < v 0 → (hs i).1 ≤ 12 ∧ (hs i).2.2.1 ≤ 64 := fun i hi => by have z := hP.2.2.2.2.1 i (by omega); exact ⟨z.1.n, z.1.tn⟩
  obtain ⟨yk, hyk⟩ := hC.2.2.2.2.1 nx hnx
  obtain ⟨yu, hyu, hyu2⟩ := undo_slot hC hct hnx
  obtain ⟨rc0, re0, kd0, nm0, hrd0⟩ := hC.2.2.2.2.2.2.2.2
  have hO7 := hC.1.2
  have hO8 := hR.1.2
  refine lv_aload_n kx kb dL_law_276 rfl (lv_at hl 1 rfl) ?_
  refine lv_aload_n kx kb dL_law_277 rfl (lv_at hl 0 rfl) ?_
  refine lv_iload_n kx kb dL_law_278 rfl (lv_at hl 3 rfl) ?_
  refine lv_iconst (v := nI 1) kx kb dL_law_279 (by decide) ?_
  refine w_addn kx kb dL_law_280 ?_
  refine w_sld X h hX hb hbA (show i + 1 < Ls by omega) hLs dL_law_281 ?_
  refine w_callVi X M h [.int (xs (i + 1))] [] (c_X7_drop l g x q hC.1 hC.2.1 hn12 htn64 nx ct hC.2.2.2.1 hct hnx yk hyk (xs (i + 1)) ) lk_L_23 hO7 (by omega) rfl rfl ⟨Nat.le_of_ble_eq_true rfl, Nat.le_of_ble_eq_true rfl⟩ hl hcs (Nat.le_of_ble_eq_true rfl) rfl dL_law_282 (fun r_F1 F1 H locs hp_F1 h => ?_)
  obtain ⟨hr7, hT7⟩ := pc_turn hC hct hnx (letGoF_turn) (notDrop_c) (fun e => nI_pos (by omega)) hp_F1
  have hR1 := hR.fr hT7.2.2
  obtain ⟨W1, hW1, hRW1⟩ := hR1.2.1
  obtain ⟨D1, hD1⟩ := hR1.2.2.2.2.1
  have hO8 := hR1.1.2
  refine w_top (y := if (notDropF x (xs (i + 1))).1 = 0 then nI (x.1 - 1) else (notDropF x (xs (i + 1))).1) (hr7) ?_
  refine lv_aload_n kx kb dL_law_285 rfl (lv_at hl 2 rfl) ?_
  refine lv_aload_n kx kb dL_law_286 rfl (lv_at hl 0 rfl) ?_
  refine lv_iload_n kx kb dL_law_287 rfl (lv_at hl 3 rfl) ?_
  refine lv_iconst (v := nI 1) kx kb dL_law_288 (by decide) ?_
  refine w_addn kx kb dL_law_289 ?_
  refine w_sld X h hX hb hbA (show i + 1 < Ls by omega) hLs dL_law_290 ?_
  refine w_callVi X M h [.int (xs (i + 1))] [.int (if (notDropF x (xs (i + 1))).1 = 0 then nI (x.1 - 1) else (notDropF x (xs (i + 1))).1)] (c_X8_drop l g u v hR1.1 x hI W1 hW1 hRW1 (by omega) hv1 hs hns hR1.2.2.1 D1 hD1 (xs (i + 1))) lk_L_26 hO8 (by omega) rfl rfl ⟨Nat.le_of_ble_eq_true rfl, Nat.le_of_ble_eq_true rfl⟩ hl hcs (Nat.le_of_ble_eq_true rfl) rfl dL_law_291 (fun r_F2 F2 H locs hp_F2 h => ?_)
  obtain ⟨hr8, hT8⟩ := pr_turn hR1 hp_F2
  refine w_top (y := if (notDropF x (xs (i + 1))).1 = 0 then nI (x.1 - 1) else (notDropF x (xs (i + 1))).1) (hr8) ?_
  refine lv_icmp_eq (tgt := 1180) kx kb dL_law_294 (by decide) (fun c_3 => ?_) (fun c_3 => (c_3 rfl).elim)
  exact hnext _ _ _ _ (pw_turn hP (fun e => iva_111 hP.1 e) hT7 hT8) h (lv_sub hl [0, 1, 2, 3] rfl)
set_option maxRecDepth 20000 in
theorem law_3 {p : Program} (l : Launch) {e : Env} {s : State} {m : MethodId} {below : List Frame} {meth : Method} {c : Code} {b Ls : Nat} {xs : Nat → Int32} (g : gT) {N : Nat} {ad : Nat → Nat} {F : Nat → va_E} {A : Nat → Prop} {H : Heap} {locs : List Loc} {cells slots : Nat} {Q : State → Prop} {ls : Array Slot} {i : Nat} (X : Kx p m meth c s #[.ref b] code 8 RL ret) (M : Mx g N ad A s) (h : Hx g N ad F A s H locs) (hW : PW g N ad F) (hX : va_X b Ls xs s s.heap) (hb : b < s.heap.size) (hbA : ¬ A b) (hl : lv_has ls 8 [(0, .ref b), (1, .ref (ad 0)), (2, .ref (ad 254)), (3, .int (nI i))]) (hi : i + 5 ≤ Ls) (hLs : Ls ≤ 2560) (hcs : cells ≤ room_1.cells ∧ slots ≤ room_1.slots) (hnext : ∀ (F' : Nat → va_E) (H' : Heap) (locs' : List Loc) (ls' : Array Slot), PW g N ad F' → Hx g N ad F' A s H' locs' → lv_has ls' 8 [(0, .ref b), (1, .ref (ad 0)), (2, .ref (ad 254)), (3, .int (nI i))] → W p l e room_1 s m #[.ref b] below meth c H' locs' cells slots Q (F0 m 1180 ls' [])) : W p l e room_1 s m #[.ref b] below meth c H locs cells slots Q (F0 m 299 ls []) := by
  have kx := X.1.1
  have kb := X.1.2.1
  have hW0 := hW
  obtain ⟨x, sv, hs, ct, nx, L, il, ia, q, u, v, hC, hR, hP⟩ := hW
  have hI := hP.1.1
  have hn12 := hI.n
  have htn64 := hI.tn
  have hN0 := hR.1.1
  obtain ⟨hz0, hz1a, hz1, hz2, hz3, hz4⟩ := hI.zz
  obtain ⟨W, hWa, hRW⟩ := hR.2.1
  obtain ⟨A9, hA9⟩ := hR.2.2.2.2.2.1
  have hct := hP.2.2.2.2.2.1
  have hnx := hP.2.2.2.2.2.2.1
  have hL60 := hP.2.2.2.2.2.2.2.1
  have hil60 := hP.2.2.2.2.2.2.2.2.1
  have hRq := hP.2.2.2.2.2.2.2.2.2
  have hv0e := hR.2.2.2.2.2.2.2.2.2.1
  have hv1 := hR.2.2.2.2.2.2.2.2.2.2.1
  have hv2 := hR.2.2.2.2.2.2.2.2.2.2.2.1
  have hv3 := hR.2.2.2.2.2.2.2.2.2.2.2.2
  have hns : ∀ i, i < v 0 → (hs i).1 ≤ 12 ∧ (hs i).2.2.1 ≤ 64 := fun i hi => by have z := hP.2.2.2.2.1 i (by omega); exact ⟨z.1.n, z.1.tn⟩
  obtain ⟨yk, hyk⟩ := hC.2.2.2.2.1 nx hnx
  obtain ⟨yu, hyu, hyu2⟩ := undo_slot hC hct hnx
  obtain ⟨rc0, re0, kd0, nm0, hrd0⟩ := hC.2.2.2.2.2.2.2.2
  have hO7 := hC.1.2
  have hO8 := hR.1.2
  refine lv_aload_n kx kb dL_law_299 rfl (lv_at hl 1 rfl) ?_
  refine lv_aload_n kx kb dL_law_300 rfl (lv_at hl 0 rfl) ?_
  refine lv_iload_n kx kb dL_law_301 rfl (lv_at hl 3 rfl) ?_
  refine lv_iconst (v := nI 1) kx kb dL_law_302 (by decide) ?_
  refine w_addn kx kb dL_law_303 ?_
  refine w_sld X h hX hb hbA (show i + 1 < Ls by omega) hLs dL_law_304 ?_
  refine w_callVi X M h [.int (xs (i + 1))] [] (c_X7_drain l g x q hC.1 hC.2.1 hn12 htn64 nx ct hC.2.2.2.1 hct hnx yk hyk (xs (i + 1)) (by show x.2.2.2.2.2.2.2 3 < 1000; omega) (by show x.2.2.2.2.2.2.2 4 < 1000; omega)) lk_L_27 hO7 (by omega) rfl rfl ⟨Nat.le_of_ble_eq_true rfl, Nat.le_of_ble_eq_true rfl⟩ hl hcs (Nat.le_of_ble_eq_true rfl) rfl dL_law_305 (fun r_F1 F1 H locs hp_F1 h => ?_)
  obtain ⟨hr7, hT7⟩ := pc_turn hC hct hnx (drainF_turn) (notDrain_c) (fun e => nI_pos (by omega)) hp_F1
  have hR1 := hR.fr hT7.2.2
  obtain ⟨W1, hW1, hRW1⟩ := hR1.2.1
  obtain ⟨D1, hD1⟩ := hR1.2.2.2.2.1
  have hO8 := hR1.1.2
  refine w_top (y := if (notDrainF x (xs (i + 1))).1 = 0 then nI (min 9 (x.2.2.2.2.2.2.2 4 + cl (xs (i + 1)) / 10)) else (notDrainF x (xs (i + 1))).1) (hr7) ?_
  refine lv_aload_n kx kb dL_law_308 rfl (lv_at hl 2 rfl) ?_
  refine lv_aload_n kx kb dL_law_309 rfl (lv_at hl 0 rfl) ?_
  refine lv_iload_n kx kb dL_law_310 rfl (lv_at hl 3 rfl) ?_
  refine lv_iconst (v := nI 1) kx kb dL_law_311 (by decide) ?_
  refine w_addn kx kb dL_law_312 ?_
  refine w_sld X h hX hb hbA (show i + 1 < Ls by omega) hLs dL_law_313 ?_
  refine w_callVi X M h [.int (xs (i + 1))] [.int (if (notDrainF x (xs (i + 1))).1 = 0 then nI (min 9 (x.2.2.2.2.2.2.2 4 + cl (xs (i + 1)) / 10)) else (notDrainF x (xs (i + 1))).1)] (c_X8_drain l g u v hR1.1 x hI W1 hW1 hRW1 (by omega) hv1 hs hns hR1.2.2.1 D1 hD1 (xs (i + 1))) lk_L_30 hO8 (by omega) rfl rfl ⟨Nat.le_of_ble_eq_true rfl, Nat.le_of_ble_eq_true rfl⟩ hl hcs (Nat.le_of_ble_eq_true rfl) rfl dL_law_314 (fun r_F2 F2 H locs hp_F2 h => ?_)
  obtain ⟨hr8, hT8⟩ := pr_turn hR1 hp_F2
  refine w_top (y := if (notDrainF x (xs (i + 1))).1 = 0 then nI (min 9 (x.2.2.2.2.2.2.2 4 + cl (xs (i + 1)) / 10)) else (notDrainF x (xs (i + 1))).1) (hr8) ?_
  refine lv_icmp_eq (tgt := 1180) kx kb dL_law_317 (by decide) (fun c_3 => ?_) (fun c_3 => (c_3 rfl).elim)
  exact hnext _ _ _ _ (pw_turn hP (fun e => iva_100 hP.1 e) hT7 hT8) h (lv_sub hl [0, 1, 2, 3] rfl)
set_option maxRecDepth 20000 in
theorem law_4 {p : Program} (l : Launch) {e : Env} {s : State} {m : MethodId} {below : List Frame} {meth : Method} {c : Code} {b Ls : Nat} {xs : Nat → Int32} (g : gT) {N : Nat} {ad : Nat → Nat} {F : Nat → va_E} {A : Nat → Prop} {H : Heap} {locs : List Loc} {cells slots : Nat} {Q : State → Prop} {ls : Array Slot} {i : Nat} (X : Kx p m meth c s #[.ref b] code 8 RL ret) (M : Mx g N ad A s) (h : Hx g N ad F A s H locs) (hW : PW g N ad F) (hX : va_X b Ls xs s s.heap) (hb : b < s.heap.size) (hbA : ¬ A b) (hl : lv_has ls 8 [(0, .ref b), (1, .ref (ad 0)), (2, .ref (ad 254)), (3, .int (nI i))]) (hi : i + 5 ≤ Ls) (hLs : Ls ≤ 2560) (hcs : cells ≤ room_1.cells ∧ slots ≤ room_1.slots) (hnext : ∀ (F' : Nat → va_E) (H' : Heap) (locs' : List Loc) (ls' : Array Slot), PW g N ad F' → Hx g N ad F' A s H' locs' → lv_has ls' 8 [(0, .ref b), (1, .ref (ad 0)), (2, .ref (ad 254)), (3, .int (nI i))] → W p l e room_1 s m #[.ref b] below meth c H' locs' cells slots Q (F0 m 1180 ls' [])) : W p l e room_1 s m #[.ref b] below meth c H locs cells slots Q (F0 m 322 ls []) := by
  have kx := X.1.1
  have kb := X.1.2.1
  have hW0 := hW
  obtain ⟨x, sv, hs, ct, nx, L, il, ia, q, u, v, hC, hR, hP⟩ := hW
  have hI := hP.1.1
  have hn12 := hI.n
  have htn64 := hI.tn
  have hN0 := hR.1.1
  obtain ⟨hz0, hz1a, hz1, hz2, hz3, hz4⟩ := hI.zz
  obtain ⟨W, hWa, hRW⟩ := hR.2.1
  obtain ⟨A9, hA9⟩ := hR.2.2.2.2.2.1
  have hct := hP.2.2.2.2.2.1
  have hnx := hP.2.2.2.2.2.2.1
  have hL60 := hP.2.2.2.2.2.2.2.1
  have hil60 := hP.2.2.2.2.2.2.2.2.1
  have hRq := hP.2.2.2.2.2.2.2.2.2
  have hv0e := hR.2.2.2.2.2.2.2.2.2.1
  have hv1 := hR.2.2.2.2.2.2.2.2.2.2.1
  have hv2 := hR.2.2.2.2.2.2.2.2.2.2.2.1
  have hv3 := hR.2.2.2.2.2.2.2.2.2.2.2.2
  have hns : ∀ i, i < v 0 → (hs i).1 ≤ 12 ∧ (hs i).2.2.1 ≤ 64 := fun i hi => by have z := hP.2.2.2.2.1 i (by omega); exact ⟨z.1.n, z.1.tn⟩
  obtain ⟨yk, hyk⟩ := hC.2.2.2.2.1 nx hnx
  obtain ⟨yu, hyu, hyu2⟩ := undo_slot hC hct hnx
  obtain ⟨rc0, re0, kd0, nm0, hrd0⟩ := hC.2.2.2.2.2.2.2.2
  have hO7 := hC.1.2
  have hO8 := hR.1.2
  refine lv_aload_n kx kb dL_law_322 rfl (lv_at hl 1 rfl) ?_
  refine lv_aload_n kx kb dL_law_323 rfl (lv_at hl 0 rfl) ?_
  refine lv_iload_n kx kb dL_law_324 rfl (lv_at hl 3 rfl) ?_
  refine lv_iconst (v := nI 1) kx kb dL_law_325 (by decide) ?_
  refine w_addn kx kb dL_law_326 ?_
  refine w_sld X h hX hb hbA (show i + 1 < Ls by omega) hLs dL_law_327 ?_
  refine w_callVi X M h [.int (xs (i + 1))] [] (c_X7_stroke l g x q hC.1 hC.2.1 hn12 htn64 nx ct hC.2.2.2.1 hct hnx yk hyk (xs (i + 1)) (by show x.2.2.2.2.2.2.2 1 < 1000; omega)) lk_L_31 hO7 (by omega) rfl rfl ⟨Nat.le_of_ble_eq_true rfl, Nat.le_of_ble_eq_true rfl⟩ hl hcs (Nat.le_of_ble_eq_true rfl) rfl dL_law_328 (fun r_F1 F1 H locs hp_F1 h => ?_)
  obtain ⟨hr7, hT7⟩ := pc_turn hC hct hnx (strokeSF_turn) (notStroke_c) (fun e => nI_pos (by omega)) hp_F1
  have hR1 := hR.fr hT7.2.2
  obtain ⟨W1, hW1, hRW1⟩ := hR1.2.1
  obtain ⟨D1, hD1⟩ := hR1.2.2.2.2.1
  have hO8 := hR1.1.2
  refine w_top (y := if (notStrokeF x (xs (i + 1))).1 = 0 then nI (x.2.2.2.2.2.2.2 1) else (notStrokeF x (xs (i + 1))).1) (hr7) ?_
  refine lv_aload_n kx kb dL_law_331 rfl (lv_at hl 2 rfl) ?_
  refine lv_aload_n kx kb dL_law_332 rfl (lv_at hl 0 rfl) ?_
  refine lv_iload_n kx kb dL_law_333 rfl (lv_at hl 3 rfl) ?_
  refine lv_iconst (v := nI 1) kx kb dL_law_334 (by decide) ?_
  refine w_addn kx kb dL_law_335 ?_
  refine w_sld X h hX hb hbA (show i + 1 < Ls by omega) hLs dL_law_336 ?_
  refine w_callVi X M h [.int (xs (i + 1))] [.int (if (notStrokeF x (xs (i + 1))).1 = 0 then nI (x.2.2.2.2.2.2.2 1) else (notStrokeF x (xs (i + 1))).1)] (c_X8_stroke l g u v hR1.1 x hI W1 hW1 hRW1 (by omega) hv1 hs hns hR1.2.2.1 D1 hD1 (xs (i + 1))) lk_L_34 hO8 (by omega) rfl rfl ⟨Nat.le_of_ble_eq_true rfl, Nat.le_of_ble_eq_true rfl⟩ hl hcs (Nat.le_of_ble_eq_true rfl) rfl dL_law_337 (fun r_F2 F2 H locs hp_F2 h => ?_)
  obtain ⟨hr8, hT8⟩ := pr_turn hR1 hp_F2
  refine w_top (y := if (notStrokeF x (xs (i + 1))).1 = 0 then nI (x.2.2.2.2.2.2.2 1) else (notStrokeF x (xs (i + 1))).1) (hr8) ?_
  refine lv_icmp_eq (tgt := 1180) kx kb dL_law_340 (by decide) (fun c_3 => ?_) (fun c_3 => (c_3 rfl).elim)
  exact hnext _ _ _ _ (pw_turn hP (fun e => iva_115 hP.1 e) hT7 hT8) h (lv_sub hl [0, 1, 2, 3] rfl)
set_option maxRecDepth 20000 in
theorem law_5 {p : Program} (l : Launch) {e : Env} {s : State} {m : MethodId} {below : List Frame} {meth : Method} {c : Code} {b Ls : Nat} {xs : Nat → Int32} (g : gT) {N : Nat} {ad : Nat → Nat} {F : Nat → va_E} {A : Nat → Prop} {H : Heap} {locs : List Loc} {cells slots : Nat} {Q : State → Prop} {ls : Array Slot} {i : Nat} (X : Kx p m meth c s #[.ref b] code 8 RL ret) (M : Mx g N ad A s) (h : Hx g N ad F A s H locs) (hW : PW g N ad F) (hX : va_X b Ls xs s s.heap) (hb : b < s.heap.size) (hbA : ¬ A b) (hl : lv_has ls 8 [(0, .ref b), (1, .ref (ad 0)), (2, .ref (ad 254)), (3, .int (nI i))]) (hi : i + 5 ≤ Ls) (hLs : Ls ≤ 2560) (hcs : cells ≤ room_1.cells ∧ slots ≤ room_1.slots) (hnext : ∀ (F' : Nat → va_E) (H' : Heap) (locs' : List Loc) (ls' : Array Slot), PW g N ad F' → Hx g N ad F' A s H' locs' → lv_has ls' 8 [(0, .ref b), (1, .ref (ad 0)), (2, .ref (ad 254)), (3, .int (nI i))] → W p l e room_1 s m #[.ref b] below meth c H' locs' cells slots Q (F0 m 1180 ls' [])) : W p l e room_1 s m #[.ref b] below meth c H locs cells slots Q (F0 m 345 ls []) := by
  have kx := X.1.1
  have kb := X.1.2.1
  have hW0 := hW
  obtain ⟨x, sv, hs, ct, nx, L, il, ia, q, u, v, hC, hR, hP⟩ := hW
  have hI := hP.1.1
  have hn12 := hI.n
  have htn64 := hI.tn
  have hN0 := hR.1.1
  obtain ⟨hz0, hz1a, hz1, hz2, hz3, hz4⟩ := hI.zz
  obtain ⟨W, hWa, hRW⟩ := hR.2.1
  obtain ⟨A9, hA9⟩ := hR.2.2.2.2.2.1
  have hct := hP.2.2.2.2.2.1
  have hnx := hP.2.2.2.2.2.2.1
  have hL60 := hP.2.2.2.2.2.2.2.1
  have hil60 := hP.2.2.2.2.2.2.2.2.1
  have hRq := hP.2.2.2.2.2.2.2.2.2
  have hv0e := hR.2.2.2.2.2.2.2.2.2.1
  have hv1 := hR.2.2.2.2.2.2.2.2.2.2.1
  have hv2 := hR.2.2.2.2.2.2.2.2.2.2.2.1
  have hv3 := hR.2.2.2.2.2.2.2.2.2.2.2.2
  have hns : ∀ i, i < v 0 → (hs i).1 ≤ 12 ∧ (hs i).2.2.1 ≤ 64 := fun i hi => by have z := hP.2.2.2.2.1 i (by omega); exact ⟨z.1.n, z.1.tn⟩
  obtain ⟨yk, hyk⟩ := hC.2.2.2.2.1 nx hnx
  obtain ⟨yu, hyu, hyu2⟩ := undo_slot hC hct hnx
  obtain ⟨rc0, re0, kd0, nm0, hrd0⟩ := hC.2.2.2.2.2.2.2.2
  have hO7 := hC.1.2
  have hO8 := hR.1.2
  refine lv_aload_n kx kb dL_law_345 rfl (lv_at hl 1 rfl) ?_
  refine lv_aload_n kx kb dL_law_346 rfl (lv_at hl 0 rfl) ?_
  refine lv_iload_n kx kb dL_law_347 rfl (lv_at hl 3 rfl) ?_
  refine lv_iconst (v := nI 1) kx kb dL_law_348 (by decide) ?_
  refine w_addn kx kb dL_law_349 ?_
  refine w_sld X h hX hb hbA (show i + 1 < Ls by omega) hLs dL_law_350 ?_
  refine lv_aload_n kx kb dL_law_351 rfl (lv_at hl 0 rfl) ?_
  refine lv_iload_n kx kb dL_law_352 rfl (lv_at hl 3 rfl) ?_
  refine lv_iconst (v := nI 2) kx kb dL_law_353 (by decide) ?_
  refine w_addn kx kb dL_law_354 ?_
  refine w_sld X h hX hb hbA (show i + 2 < Ls by omega) hLs dL_law_355 ?_
  refine w_callVi X M h [.int (xs (i + 1)), .int (xs (i + 2))] [] (c_X7_bucket l g x q hC.1 hC.2.1 hn12 htn64 nx ct hC.2.2.2.1 hct hnx yk hyk (xs (i + 1)) (xs (i + 2))  (fun k => by have := hI.bk k; show x.2.2.2.2.2.2.1 k < 1000; omega)) lk_L_35 hO7 (by omega) rfl rfl ⟨Nat.le_of_ble_eq_true rfl, Nat.le_of_ble_eq_true rfl⟩ hl hcs (Nat.le_of_ble_eq_true rfl) rfl dL_law_356 (fun r_F1 F1 H locs hp_F1 h => ?_)
  obtain ⟨hr7, hT7⟩ := pc_turn hC hct hnx (bucketF_turn) (notBucket_c) (fun e => by have hbk := hI.bk (cl (xs (i + 1))); exact nI_pos (by omega)) hp_F1
  have hR1 := hR.fr hT7.2.2
  obtain ⟨W1, hW1, hRW1⟩ := hR1.2.1
  obtain ⟨D1, hD1⟩ := hR1.2.2.2.2.1
  have hO8 := hR1.1.2
  refine w_top (y := if (notBucketF x (xs (i + 1)) (xs (i + 2))).1 = 0 then nI (x.2.2.2.2.2.2.1 (cl (xs (i + 1)))) else (notBucketF x (xs (i + 1)) (xs (i + 2))).1) (hr7) ?_
  refine lv_aload_n kx kb dL_law_359 rfl (lv_at hl 2 rfl) ?_
  refine lv_aload_n kx kb dL_law_360 rfl (lv_at hl 0 rfl) ?_
  refine lv_iload_n kx kb dL_law_361 rfl (lv_at hl 3 rfl) ?_
  refine lv_iconst (v := nI 1) kx kb dL_law_362 (by decide) ?_
  refine w_addn kx kb dL_law_363 ?_
  refine w_sld X h hX hb hbA (show i + 1 < Ls by omega) hLs dL_law_364 ?_
  refine lv_aload_n kx kb dL_law_365 rfl (lv_at hl 0 rfl) ?_
  refine lv_iload_n kx kb dL_law_366 rfl (lv_at hl 3 rfl) ?_
  refine lv_iconst (v := nI 2) kx kb dL_law_367 (by decide) ?_
  refine w_addn kx kb dL_law_368 ?_
  refine w_sld X h hX hb hbA (show i + 2 < Ls by omega) hLs dL_law_369 ?_
  refine w_callVi X M h [.int (xs (i + 1)), .int (xs (i + 2))] [.int (if (notBucketF x (xs (i + 1)) (xs (i + 2))).1 = 0 then nI (x.2.2.2.2.2.2.1 (cl (xs (i + 1)))) else (notBucketF x (xs (i + 1)) (xs (i + 2))).1)] (c_X8_bucket l g u v hR1.1 x hI W1 hW1 hRW1 (by omega) hv1 hs hns hR1.2.2.1 D1 hD1 (xs (i + 1)) (xs (i + 2))) lk_L_39 hO8 (by omega) rfl rfl ⟨Nat.le_of_ble_eq_true rfl, Nat.le_of_ble_eq_true rfl⟩ hl hcs (Nat.le_of_ble_eq_true rfl) rfl dL_law_370 (fun r_F2 F2 H locs hp_F2 h => ?_)
  obtain ⟨hr8, hT8⟩ := pr_turn hR1 hp_F2
  refine w_top (y := if (notBucketF x (xs (i + 1)) (xs (i + 2))).1 = 0 then nI (x.2.2.2.2.2.2.1 (cl (xs (i + 1)))) else (notBucketF x (xs (i + 1)) (xs (i + 2))).1) (hr8) ?_
  refine lv_icmp_eq (tgt := 1180) kx kb dL_law_373 (by decide) (fun c_3 => ?_) (fun c_3 => (c_3 rfl).elim)
  exact hnext _ _ _ _ (pw_turn hP (fun e => iva_98 hP.1 e) hT7 hT8) h (lv_sub hl [0, 1, 2, 3] rfl)
set_option maxRecDepth 20000 in
theorem law_6 {p : Program} (l : Launch) {e : Env} {s : State} {m : MethodId} {below : List Frame} {meth : Method} {c : Code} {b Ls : Nat} {xs : Nat → Int32} (g : gT) {N : Nat} {ad : Nat → Nat} {F : Nat → va_E} {A : Nat → Prop} {H : Heap} {locs : List Loc} {cells slots : Nat} {Q : State → Prop} {ls : Array Slot} {i : Nat} (X : Kx p m meth c s #[.ref b] code 8 RL ret) (M : Mx g N ad A s) (h : Hx g N ad F A s H locs) (hW : PW g N ad F) (hX : va_X b Ls xs s s.heap) (hb : b < s.heap.size) (hbA : ¬ A b) (hl : lv_has ls 8 [(0, .ref b), (1, .ref (ad 0)), (2, .ref (ad 254)), (3, .int (nI i))]) (hi : i + 5 ≤ Ls) (hLs : Ls ≤ 2560) (hcs : cells ≤ room_1.cells ∧ slots ≤ room_1.slots) (hnext : ∀ (F' : Nat → va_E) (H' : Heap) (locs' : List Loc) (ls' : Array Slot), PW g N ad F' → Hx g N ad F' A s H' locs' → lv_has ls' 8 [(0, .ref b), (1, .ref (ad 0)), (2, .ref (ad 254)), (3, .int (nI i))] → W p l e room_1 s m #[.ref b] below meth c H' locs' cells slots Q (F0 m 1180 ls' [])) : W p l e room_1 s m #[.ref b] below meth c H locs cells slots Q (F0 m 378 ls []) := by
  have kx := X.1.1
  have kb := X.1.2.1
  have hW0 := hW
  obtain ⟨x, sv, hs, ct, nx, L, il, ia, q, u, v, hC, hR, hP⟩ := hW
  have hI := hP.1.1
  have hn12 := hI.n
  have htn64 := hI.tn
  have hN0 := hR.1.1
  obtain ⟨hz0, hz1a, hz1, hz2, hz3, hz4⟩ := hI.zz
  obtain ⟨W, hWa, hRW⟩ := hR.2.1
  obtain ⟨A9, hA9⟩ := hR.2.2.2.2.2.1
  have hct := hP.2.2.2.2.2.1
  have hnx := hP.2.2.2.2.2.2.1
  have hL60 := hP.2.2.2.2.2.2.2.1
  have hil60 := hP.2.2.2.2.2.2.2.2.1
  have hRq := hP.2.2.2.2.2.2.2.2.2
  have hv0e := hR.2.2.2.2.2.2.2.2.2.1
  have hv1 := hR.2.2.2.2.2.2.2.2.2.2.1
  have hv2 := hR.2.2.2.2.2.2.2.2.2.2.2.1
  have hv3 := hR.2.2.2.2.2.2.2.2.2.2.2.2
  have hns : ∀ i, i < v 0 → (hs i).1 ≤ 12 ∧ (hs i).2.2.1 ≤ 64 := fun i hi => by have z := hP.2.2.2.2.1 i (by omega); exact ⟨z.1.n, z.1.tn⟩
  obtain ⟨yk, hyk⟩ := hC.2.2.2.2.1 nx hnx
  obtain ⟨yu, hyu, hyu2⟩ := undo_slot hC hct hnx
  obtain ⟨rc0, re0, kd0, nm0, hrd0⟩ := hC.2.2.2.2.2.2.2.2
  have hO7 := hC.1.2
  have hO8 := hR.1.2
  refine lv_aload_n kx kb dL_law_378 rfl (lv_at hl 1 rfl) ?_
  refine lv_aload_n kx kb dL_law_379 rfl (lv_at hl 0 rfl) ?_
  refine lv_iload_n kx kb dL_law_380 rfl (lv_at hl 3 rfl) ?_
  refine lv_iconst (v := nI 1) kx kb dL_law_381 (by decide) ?_
  refine w_addn kx kb dL_law_382 ?_
  refine w_sld X h hX hb hbA (show i + 1 < Ls by omega) hLs dL_law_383 ?_
  refine w_callVi X M h [.int (xs (i + 1))] [] (c_X7_go l g x q hC.1 hC.2.1 hn12 htn64 nx ct hC.2.2.2.1 hct hnx yk hyk (xs (i + 1)) (by show x.2.2.2.2.2.2.2 0 < 1000; omega)) lk_L_40 hO7 (by omega) rfl rfl ⟨Nat.le_of_ble_eq_true rfl, Nat.le_of_ble_eq_true rfl⟩ hl hcs (Nat.le_of_ble_eq_true rfl) rfl dL_law_384 (fun r_F1 F1 H locs hp_F1 h => ?_)
  obtain ⟨hr7, hT7⟩ := pc_turn hC hct hnx (goF_turn) (notGo_c) (fun e => nI_pos (by omega)) hp_F1
  have hR1 := hR.fr hT7.2.2
  obtain ⟨W1, hW1, hRW1⟩ := hR1.2.1
  obtain ⟨D1, hD1⟩ := hR1.2.2.2.2.1
  have hO8 := hR1.1.2
  refine w_top (y := if (notGoF x (xs (i + 1))).1 = 0 then nI (x.2.2.2.2.2.2.2 0) else (notGoF x (xs (i + 1))).1) (hr7) ?_
  refine lv_aload_n kx kb dL_law_387 rfl (lv_at hl 2 rfl) ?_
  refine lv_aload_n kx kb dL_law_388 rfl (lv_at hl 0 rfl) ?_
  refine lv_iload_n kx kb dL_law_389 rfl (lv_at hl 3 rfl) ?_
  refine lv_iconst (v := nI 1) kx kb dL_law_390 (by decide) ?_
  refine w_addn kx kb dL_law_391 ?_
  refine w_sld X h hX hb hbA (show i + 1 < Ls by omega) hLs dL_law_392 ?_
  refine w_callVi X M h [.int (xs (i + 1))] [.int (if (notGoF x (xs (i + 1))).1 = 0 then nI (x.2.2.2.2.2.2.2 0) else (notGoF x (xs (i + 1))).1)] (c_X8_go l g u v hR1.1 x hI W1 hW1 hRW1 (by omega) hv1 hs hns hR1.2.2.1 D1 hD1 (xs (i + 1))) lk_L_43 hO8 (by omega) rfl rfl ⟨Nat.le_of_ble_eq_true rfl, Nat.le_of_ble_eq_true rfl⟩ hl hcs (Nat.le_of_ble_eq_true rfl) rfl dL_law_393 (fun r_F2 F2 H locs hp_F2 h => ?_)
  obtain ⟨hr8, hT8⟩ := pr_turn hR1 hp_F2
  refine w_top (y := if (notGoF x (xs (i + 1))).1 = 0 then nI (x.2.2.2.2.2.2.2 0) else (notGoF x (xs (i + 1))).1) (hr8) ?_
  refine lv_icmp_eq (tgt := 1180) kx kb dL_law_396 (by decide) (fun c_3 => ?_) (fun c_3 => (c_3 rfl).elim)
  exact hnext _ _ _ _ (pw_turn hP (fun e => iva_103 hP.1 e) hT7 hT8) h (lv_sub hl [0, 1, 2, 3] rfl)
set_option maxRecDepth 20000 in
theorem law_7 {p : Program} (l : Launch) {e : Env} {s : State} {m : MethodId} {below : List Frame} {meth : Method} {c : Code} {b Ls : Nat} {xs : Nat → Int32} (g : gT) {N : Nat} {ad : Nat → Nat} {F : Nat → va_E} {A : Nat → Prop} {H : Heap} {locs : List Loc} {cells slots : Nat} {Q : State → Prop} {ls : Array Slot} {i : Nat} (X : Kx p m meth c s #[.ref b] code 8 RL ret) (M : Mx g N ad A s) (h : Hx g N ad F A s H locs) (hW : PW g N ad F) (hX : va_X b Ls xs s s.heap) (hb : b < s.heap.size) (hbA : ¬ A b) (hl : lv_has ls 8 [(0, .ref b), (1, .ref (ad 0)), (2, .ref (ad 254)), (3, .int (nI i))]) (hi : i + 5 ≤ Ls) (hLs : Ls ≤ 2560) (hcs : cells ≤ room_1.cells ∧ slots ≤ room_1.slots) (hnext : ∀ (F' : Nat → va_E) (H' : Heap) (locs' : List Loc) (ls' : Array Slot), PW g N ad F' → Hx g N ad F' A s H' locs' → lv_has ls' 8 [(0, .ref b), (1, .ref (ad 0)), (2, .ref (ad 254)), (3, .int (nI i))] → W p l e room_1 s m #[.ref b] below meth c H' locs' cells slots Q (F0 m 1180 ls' [])) : W p l e room_1 s m #[.ref b] below meth c H locs cells slots Q (F0 m 401 ls []) := by
  have kx := X.1.1
  have kb := X.1.2.1
  have hW0 := hW
  obtain ⟨x, sv, hs, ct, nx, L, il, ia, q, u, v, hC, hR, hP⟩ := hW
  have hI := hP.1.1
  have hn12 := hI.n
  have htn64 := hI.tn
  have hN0 := hR.1.1
  obtain ⟨hz0, hz1a, hz1, hz2, hz3, hz4⟩ := hI.zz
  obtain ⟨W, hWa, hRW⟩ := hR.2.1
  obtain ⟨A9, hA9⟩ := hR.2.2.2.2.2.1
  have hct := hP.2.2.2.2.2.1
  have hnx := hP.2.2.2.2.2.2.1
  have hL60 := hP.2.2.2.2.2.2.2.1
  have hil60 := hP.2.2.2.2.2.2.2.2.1
  have hRq := hP.2.2.2.2.2.2.2.2.2
  have hv0e := hR.2.2.2.2.2.2.2.2.2.1
  have hv1 := hR.2.2.2.2.2.2.2.2.2.2.1
  have hv2 := hR.2.2.2.2.2.2.2.2.2.2.2.1
  have hv3 := hR.2.2.2.2.2.2.2.2.2.2.2.2
  have hns : ∀ i, i < v 0 → (hs i).1 ≤ 12 ∧ (hs i).2.2.1 ≤ 64 := fun i hi => by have z := hP.2.2.2.2.1 i (by omega); exact ⟨z.1.n, z.1.tn⟩
  obtain ⟨yk, hyk⟩ := hC.2.2.2.2.1 nx hnx
  obtain ⟨yu, hyu, hyu2⟩ := undo_slot hC hct hnx
  obtain ⟨rc0, re0, kd0, nm0, hrd0⟩ := hC.2.2.2.2.2.2.2.2
  have hO7 := hC.1.2
  have hO8 := hR.1.2
  refine lv_aload_n kx kb dL_law_401 rfl (lv_at hl 1 rfl) ?_
  refine lv_aload_n kx kb dL_law_402 rfl (lv_at hl 0 rfl) ?_
  refine lv_iload_n kx kb dL_law_403 rfl (lv_at hl 3 rfl) ?_
  refine lv_iconst (v := nI 1) kx kb dL_law_404 (by decide) ?_
  refine w_addn kx kb dL_law_405 ?_
  refine w_sld X h hX hb hbA (show i + 1 < Ls by omega) hLs dL_law_406 ?_
  refine w_callVi X M h [.int (xs (i + 1))] [] (c_X7_pump l g x q hC.1 hC.2.1 hn12 htn64 nx ct hC.2.2.2.1 hct hnx yk hyk (xs (i + 1))  Iva iva_ok hP.1) lk_L_44 hO7 (by omega) rfl rfl ⟨Nat.le_of_ble_eq_true rfl, Nat.le_of_ble_eq_true rfl⟩ hl hcs (Nat.le_of_ble_eq_true rfl) rfl dL_law_407 (fun r_F1 F1 H locs hp_F1 h => ?_)
  obtain ⟨hr7, hT7⟩ := pc_turn hC hct hnx (pumpF_turn) (notPump_c) (fun e => pump_pos hI e) hp_F1
  have hR1 := hR.fr hT7.2.2
  obtain ⟨W1, hW1, hRW1⟩ := hR1.2.1
  obtain ⟨D1, hD1⟩ := hR1.2.2.2.2.1
  have hO8 := hR1.1.2
  refine w_top (y := if (notPumpF x (xs (i + 1))).1 = 0 then nI (runN (cl (xs (i + 1))) x) else (notPumpF x (xs (i + 1))).1) (hr7) ?_
  refine lv_aload_n kx kb dL_law_410 rfl (lv_at hl 2 rfl) ?_
  refine lv_aload_n kx kb dL_law_411 rfl (lv_at hl 0 rfl) ?_
  refine lv_iload_n kx kb dL_law_412 rfl (lv_at hl 3 rfl) ?_
  refine lv_iconst (v := nI 1) kx kb dL_law_413 (by decide) ?_
  refine w_addn kx kb dL_law_414 ?_
  refine w_sld X h hX hb hbA (show i + 1 < Ls by omega) hLs dL_law_415 ?_
  refine w_callVi X M h [.int (xs (i + 1))] [.int (if (notPumpF x (xs (i + 1))).1 = 0 then nI (runN (cl (xs (i + 1))) x) else (notPumpF x (xs (i + 1))).1)] (c_X8_pump l g u v hR1.1 x hI W1 hW1 hRW1 (by omega) hv1 hs hns hR1.2.2.1 D1 hD1 (xs (i + 1))) lk_L_47 hO8 (by omega) rfl rfl ⟨Nat.le_of_ble_eq_true rfl, Nat.le_of_ble_eq_true rfl⟩ hl hcs (Nat.le_of_ble_eq_true rfl) rfl dL_law_416 (fun r_F2 F2 H locs hp_F2 h => ?_)
  obtain ⟨hr8, hT8⟩ := pr_turn hR1 hp_F2
  refine w_top (y := if (notPumpF x (xs (i + 1))).1 = 0 then nI (runN (cl (xs (i + 1))) x) else (notPumpF x (xs (i + 1))).1) (hr8) ?_
  refine lv_icmp_eq (tgt := 1180) kx kb dL_law_419 (by decide) (fun c_3 => ?_) (fun c_3 => (c_3 rfl).elim)
  exact hnext _ _ _ _ (pw_turn hP (fun e => iva_112 hP.1 e) hT7 hT8) h (lv_sub hl [0, 1, 2, 3] rfl)
set_option maxRecDepth 20000 in
theorem law_8 {p : Program} (l : Launch) {e : Env} {s : State} {m : MethodId} {below : List Frame} {meth : Method} {c : Code} {b Ls : Nat} {xs : Nat → Int32} (g : gT) {N : Nat} {ad : Nat → Nat} {F : Nat → va_E} {A : Nat → Prop} {H : Heap} {locs : List Loc} {cells slots : Nat} {Q : State → Prop} {ls : Array Slot} {i : Nat} (X : Kx p m meth c s #[.ref b] code 8 RL ret) (M : Mx g N ad A s) (h : Hx g N ad F A s H locs) (hW : PW g N ad F) (hX : va_X b Ls xs s s.heap) (hb : b < s.heap.size) (hbA : ¬ A b) (hl : lv_has ls 8 [(0, .ref b), (1, .ref (ad 0)), (2, .ref (ad 254)), (3, .int (nI i))]) (hi : i + 5 ≤ Ls) (hLs : Ls ≤ 2560) (hcs : cells ≤ room_1.cells ∧ slots ≤ room_1.slots) (hnext : ∀ (F' : Nat → va_E) (H' : Heap) (locs' : List Loc) (ls' : Array Slot), PW g N ad F' → Hx g N ad F' A s H' locs' → lv_has ls' 8 [(0, .ref b), (1, .ref (ad 0)), (2, .ref (ad 254)), (3, .int (nI i))] → W p l e room_1 s m #[.ref b] below meth c H' locs' cells slots Q (F0 m 1180 ls' [])) : W p l e room_1 s m #[.ref b] below meth c H locs cells slots Q (F0 m 424 ls []) := by
  have kx := X.1.1
  have kb := X.1.2.1
  have hW0 := hW
  obtain ⟨x, sv, hs, ct, nx, L, il, ia, q, u, v, hC, hR, hP⟩ := hW
  have hI := hP.1.1
  have hn12 := hI.n
  have htn64 := hI.tn
  have hN0 := hR.1.1
  obtain ⟨hz0, hz1a, hz1, hz2, hz3, hz4⟩ := hI.zz
  obtain ⟨W, hWa, hRW⟩ := hR.2.1
  obtain ⟨A9, hA9⟩ := hR.2.2.2.2.2.1
  have hct := hP.2.2.2.2.2.1
  have hnx := hP.2.2.2.2.2.2.1
  have hL60 := hP.2.2.2.2.2.2.2.1
  have hil60 := hP.2.2.2.2.2.2.2.2.1
  have hRq := hP.2.2.2.2.2.2.2.2.2
  have hv0e := hR.2.2.2.2.2.2.2.2.2.1
  have hv1 := hR.2.2.2.2.2.2.2.2.2.2.1
  have hv2 := hR.2.2.2.2.2.2.2.2.2.2.2.1
  have hv3 := hR.2.2.2.2.2.2.2.2.2.2.2.2
  have hns : ∀ i, i < v 0 → (hs i).1 ≤ 12 ∧ (hs i).2.2.1 ≤ 64 := fun i hi => by have z := hP.2.2.2.2.1 i (by omega); exact ⟨z.1.n, z.1.tn⟩
  obtain ⟨yk, hyk⟩ := hC.2.2.2.2.1 nx hnx
  obtain ⟨yu, hyu, hyu2⟩ := undo_slot hC hct hnx
  obtain ⟨rc0, re0, kd0, nm0, hrd0⟩ := hC.2.2.2.2.2.2.2.2
  have hO7 := hC.1.2
  have hO8 := hR.1.2
  refine lv_aload_n kx kb dL_law_424 rfl (lv_at hl 1 rfl) ?_
  refine lv_aload_n kx kb dL_law_425 rfl (lv_at hl 0 rfl) ?_
  refine lv_iload_n kx kb dL_law_426 rfl (lv_at hl 3 rfl) ?_
  refine lv_iconst (v := nI 1) kx kb dL_law_427 (by decide) ?_
  refine w_addn kx kb dL_law_428 ?_
  refine w_sld X h hX hb hbA (show i + 1 < Ls by omega) hLs dL_law_429 ?_
  refine lv_aload_n kx kb dL_law_430 rfl (lv_at hl 0 rfl) ?_
  refine lv_iload_n kx kb dL_law_431 rfl (lv_at hl 3 rfl) ?_
  refine lv_iconst (v := nI 2) kx kb dL_law_432 (by decide) ?_
  refine w_addn kx kb dL_law_433 ?_
  refine w_sld X h hX hb hbA (show i + 2 < Ls by omega) hLs dL_law_434 ?_
  refine w_readVi X M h [.int (xs (i + 1)), .int (xs (i + 2))] [] (c_X7_jokeOf l g x q hC.1 hC.2.1 hn12 htn64 (xs (i + 1)) (xs (i + 2))) lk_L_48 hO7 (by omega) rfl rfl ⟨Nat.le_of_ble_eq_true rfl, Nat.le_of_ble_eq_true rfl⟩ hl hcs (Nat.le_of_ble_eq_true rfl) rfl dL_law_435 (fun H locs h => ?_)
  refine lv_aload_n kx kb dL_law_438 rfl (lv_at hl 2 rfl) ?_
  refine lv_aload_n kx kb dL_law_439 rfl (lv_at hl 0 rfl) ?_
  refine lv_iload_n kx kb dL_law_440 rfl (lv_at hl 3 rfl) ?_
  refine lv_iconst (v := nI 1) kx kb dL_law_441 (by decide) ?_
  refine w_addn kx kb dL_law_442 ?_
  refine w_sld X h hX hb hbA (show i + 1 < Ls by omega) hLs dL_law_443 ?_
  refine lv_aload_n kx kb dL_law_444 rfl (lv_at hl 0 rfl) ?_
  refine lv_iload_n kx kb dL_law_445 rfl (lv_at hl 3 rfl) ?_
  refine lv_iconst (v := nI 2) kx kb dL_law_446 (by decide) ?_
  refine w_addn kx kb dL_law_447 ?_
  refine w_sld X h hX hb hbA (show i + 2 < Ls by omega) hLs dL_law_448 ?_
  refine w_readVi X M h [.int (xs (i + 1)), .int (xs (i + 2))] [.int (jokeOfF x (xs (i + 1)) (xs (i + 2)))] (c_X8_jokeOf l g u v hR.1 x hI W hWa hRW (xs (i + 1)) (xs (i + 2))) lk_L_51 hO8 (by omega) rfl rfl ⟨Nat.le_of_ble_eq_true rfl, Nat.le_of_ble_eq_true rfl⟩ hl hcs (Nat.le_of_ble_eq_true rfl) rfl dL_law_449 (fun H locs h => ?_)
  refine lv_icmp_eq (tgt := 1180) kx kb dL_law_452 (by decide) (fun c_1 => ?_) (fun c_1 => (c_1 rfl).elim)
  exact hnext _ _ _ _ (hW0) h (lv_sub hl [0, 1, 2, 3] rfl)
set_option maxRecDepth 20000 in
theorem law_9 {p : Program} (l : Launch) {e : Env} {s : State} {m : MethodId} {below : List Frame} {meth : Method} {c : Code} {b Ls : Nat} {xs : Nat → Int32} (g : gT) {N : Nat} {ad : Nat → Nat} {F : Nat → va_E} {A : Nat → Prop} {H : Heap} {locs : List Loc} {cells slots : Nat} {Q : State → Prop} {ls : Array Slot} {i : Nat} (X : Kx p m meth c s #[.ref b] code 8 RL ret) (M : Mx g N ad A s) (h : Hx g N ad F A s H locs) (hW : PW g N ad F) (hX : va_X b Ls xs s s.heap) (hb : b < s.heap.size) (hbA : ¬ A b) (hl : lv_has ls 8 [(0, .ref b), (1, .ref (ad 0)), (2, .ref (ad 254)), (3, .int (nI i))]) (hi : i + 5 ≤ Ls) (hLs : Ls ≤ 2560) (hcs : cells ≤ room_1.cells ∧ slots ≤ room_1.slots) (hnext : ∀ (F' : Nat → va_E) (H' : Heap) (locs' : List Loc) (ls' : Array Slot), PW g N ad F' → Hx g N ad F' A s H' locs' → lv_has ls' 8 [(0, .ref b), (1, .ref (ad 0)), (2, .ref (ad 254)), (3, .int (nI i))] → W p l e room_1 s m #[.ref b] below meth c H' locs' cells slots Q (F0 m 1180 ls' [])) : W p l e room_1 s m #[.ref b] below meth c H locs cells slots Q (F0 m 457 ls []) := by
  have kx := X.1.1
  have kb := X.1.2.1
  have hW0 := hW
  obtain ⟨x, sv, hs, ct, nx, L, il, ia, q, u, v, hC, hR, hP⟩ := hW
  have hI := hP.1.1
  have hn12 := hI.n
  have htn64 := hI.tn
  have hN0 := hR.1.1
  obtain ⟨hz0, hz1a, hz1, hz2, hz3, hz4⟩ := hI.zz
  obtain ⟨W, hWa, hRW⟩ := hR.2.1
  obtain ⟨A9, hA9⟩ := hR.2.2.2.2.2.1
  have hct := hP.2.2.2.2.2.1
  have hnx := hP.2.2.2.2.2.2.1
  have hL60 := hP.2.2.2.2.2.2.2.1
  have hil60 := hP.2.2.2.2.2.2.2.2.1
  have hRq := hP.2.2.2.2.2.2.2.2.2
  have hv0e := hR.2.2.2.2.2.2.2.2.2.1
  have hv1 := hR.2.2.2.2.2.2.2.2.2.2.1
  have hv2 := hR.2.2.2.2.2.2.2.2.2.2.2.1
  have hv3 := hR.2.2.2.2.2.2.2.2.2.2.2.2
  have hns : ∀ i, i < v 0 → (hs i).1 ≤ 12 ∧ (hs i).2.2.1 ≤ 64 := fun i hi => by have z := hP.2.2.2.2.1 i (by omega); exact ⟨z.1.n, z.1.tn⟩
  obtain ⟨yk, hyk⟩ := hC.2.2.2.2.1 nx hnx
  obtain ⟨yu, hyu, hyu2⟩ := undo_slot hC hct hnx
  obtain ⟨rc0, re0, kd0, nm0, hrd0⟩ := hC.2.2.2.2.2.2.2.2
  have hO7 := hC.1.2
  have hO8 := hR.1.2
  refine lv_aload_n kx kb dL_law_457 rfl (lv_at hl 1 rfl) ?_
  refine lv_aload_n kx kb dL_law_458 rfl (lv_at hl 0 rfl) ?_
  refine lv_iload_n kx kb dL_law_459 rfl (lv_at hl 3 rfl) ?_
  refine lv_iconst (v := nI 1) kx kb dL_law_460 (by decide) ?_
  refine w_addn kx kb dL_law_461 ?_
  refine w_sld X h hX hb hbA (show i + 1 < Ls by omega) hLs dL_law_462 ?_
  refine lv_aload_n kx kb dL_law_463 rfl (lv_at hl 0 rfl) ?_
  refine lv_iload_n kx kb dL_law_464 rfl (lv_at hl 3 rfl) ?_
  refine lv_iconst (v := nI 2) kx kb dL_law_465 (by decide) ?_
  refine w_addn kx kb dL_law_466 ?_
  refine w_sld X h hX hb hbA (show i + 2 < Ls by omega) hLs dL_law_467 ?_
  refine w_readVi X M h [.int (xs (i + 1)), .int (xs (i + 2))] [] (c_X7_wellOf l g x q hC.1 hC.2.1 hn12 htn64 (xs (i + 1)) (xs (i + 2))) lk_L_52 hO7 (by omega) rfl rfl ⟨Nat.le_of_ble_eq_true rfl, Nat.le_of_ble_eq_true rfl⟩ hl hcs (Nat.le_of_ble_eq_true rfl) rfl dL_law_468 (fun H locs h => ?_)
  refine lv_aload_n kx kb dL_law_471 rfl (lv_at hl 2 rfl) ?_
  refine lv_aload_n kx kb dL_law_472 rfl (lv_at hl 0 rfl) ?_
  refine lv_iload_n kx kb dL_law_473 rfl (lv_at hl 3 rfl) ?_
  refine lv_iconst (v := nI 1) kx kb dL_law_474 (by decide) ?_
  refine w_addn kx kb dL_law_475 ?_
  refine w_sld X h hX hb hbA (show i + 1 < Ls by omega) hLs dL_law_476 ?_
  refine lv_aload_n kx kb dL_law_477 rfl (lv_at hl 0 rfl) ?_
  refine lv_iload_n kx kb dL_law_478 rfl (lv_at hl 3 rfl) ?_
  refine lv_iconst (v := nI 2) kx kb dL_law_479 (by decide) ?_
  refine w_addn kx kb dL_law_480 ?_
  refine w_sld X h hX hb hbA (show i + 2 < Ls by omega) hLs dL_law_481 ?_
  refine w_readVi X M h [.int (xs (i + 1)), .int (xs (i + 2))] [.int (wellOfF x (xs (i + 1)) (xs (i + 2)))] (c_X8_wellOf l g u v hR.1 x hI W hWa hRW (xs (i + 1)) (xs (i + 2))) lk_L_55 hO8 (by omega) rfl rfl ⟨Nat.le_of_ble_eq_true rfl, Nat.le_of_ble_eq_true rfl⟩ hl hcs (Nat.le_of_ble_eq_true rfl) rfl dL_law_482 (fun H locs h => ?_)
  refine lv_icmp_eq (tgt := 1180) kx kb dL_law_485 (by decide) (fun c_1 => ?_) (fun c_1 => (c_1 rfl).elim)
  exact hnext _ _ _ _ (hW0) h (lv_sub hl [0, 1, 2, 3] rfl)
set_option maxRecDepth 20000 in
theorem law_10 {p : Program} (l : Launch) {e : Env} {s : State} {m : MethodId} {below : List Frame} {meth : Method} {c : Code} {b Ls : Nat} {xs : Nat → Int32} (g : gT) {N : Nat} {ad : Nat → Nat} {F : Nat → va_E} {A : Nat → Prop} {H : Heap} {locs : List Loc} {cells slots : Nat} {Q : State → Prop} {ls : Array Slot} {i : Nat} (X : Kx p m meth c s #[.ref b] code 8 RL ret) (M : Mx g N ad A s) (h : Hx g N ad F A s H locs) (hW : PW g N ad F) (hX : va_X b Ls xs s s.heap) (hb : b < s.heap.size) (hbA : ¬ A b) (hl : lv_has ls 8 [(0, .ref b), (1, .ref (ad 0)), (2, .ref (ad 254)), (3, .int (nI i))]) (hi : i + 5 ≤ Ls) (hLs : Ls ≤ 2560) (hcs : cells ≤ room_1.cells ∧ slots ≤ room_1.slots) (hnext : ∀ (F' : Nat → va_E) (H' : Heap) (locs' : List Loc) (ls' : Array Slot), PW g N ad F' → Hx g N ad F' A s H' locs' → lv_has ls' 8 [(0, .ref b), (1, .ref (ad 0)), (2, .ref (ad 254)), (3, .int (nI i))] → W p l e room_1 s m #[.ref b] below meth c H' locs' cells slots Q (F0 m 1180 ls' [])) : W p l e room_1 s m #[.ref b] below meth c H locs cells slots Q (F0 m 490 ls []) := by
  have kx := X.1.1
  have kb := X.1.2.1
  have hW0 := hW
  obtain ⟨x, sv, hs, ct, nx, L, il, ia, q, u, v, hC, hR, hP⟩ := hW
  have hI := hP.1.1
  have hn12 := hI.n
  have htn64 := hI.tn
  have hN0 := hR.1.1
  obtain ⟨hz0, hz1a, hz1, hz2, hz3, hz4⟩ := hI.zz
  obtain ⟨W, hWa, hRW⟩ := hR.2.1
  obtain ⟨A9, hA9⟩ := hR.2.2.2.2.2.1
  have hct := hP.2.2.2.2.2.1
  have hnx := hP.2.2.2.2.2.2.1
  have hL60 := hP.2.2.2.2.2.2.2.1
  have hil60 := hP.2.2.2.2.2.2.2.2.1
  have hRq := hP.2.2.2.2.2.2.2.2.2
  have hv0e := hR.2.2.2.2.2.2.2.2.2.1
  have hv1 := hR.2.2.2.2.2.2.2.2.2.2.1
  have hv2 := hR.2.2.2.2.2.2.2.2.2.2.2.1
  have hv3 := hR.2.2.2.2.2.2.2.2.2.2.2.2
  have hns : ∀ i, i < v 0 → (hs i).1 ≤ 12 ∧ (hs i).2.2.1 ≤ 64 := fun i hi => by have z := hP.2.2.2.2.1 i (by omega); exact ⟨z.1.n, z.1.tn⟩
  obtain ⟨yk, hyk⟩ := hC.2.2.2.2.1 nx hnx
  obtain ⟨yu, hyu, hyu2⟩ := undo_slot hC hct hnx
  obtain ⟨rc0, re0, kd0, nm0, hrd0⟩ := hC.2.2.2.2.2.2.2.2
  have hO7 := hC.1.2
  have hO8 := hR.1.2
  refine lv_aload_n kx kb dL_law_490 rfl (lv_at hl 1 rfl) ?_
  refine lv_aload_n kx kb dL_law_491 rfl (lv_at hl 0 rfl) ?_
  refine lv_iload_n kx kb dL_law_492 rfl (lv_at hl 3 rfl) ?_
  refine lv_iconst (v := nI 1) kx kb dL_law_493 (by decide) ?_
  refine w_addn kx kb dL_law_494 ?_
  refine w_sld X h hX hb hbA (show i + 1 < Ls by omega) hLs dL_law_495 ?_
  refine w_readVi X M h [.int (xs (i + 1))] [] (c_X7_isKnown l g x q hC.1 hC.2.1 hn12 htn64 (xs (i + 1))) lk_L_56 hO7 (by omega) rfl rfl ⟨Nat.le_of_ble_eq_true rfl, Nat.le_of_ble_eq_true rfl⟩ hl hcs (Nat.le_of_ble_eq_true rfl) rfl dL_law_496 (fun H locs h => ?_)
  refine lv_aload_n kx kb dL_law_499 rfl (lv_at hl 2 rfl) ?_
  refine lv_aload_n kx kb dL_law_500 rfl (lv_at hl 0 rfl) ?_
  refine lv_iload_n kx kb dL_law_501 rfl (lv_at hl 3 rfl) ?_
  refine lv_iconst (v := nI 1) kx kb dL_law_502 (by decide) ?_
  refine w_addn kx kb dL_law_503 ?_
  refine w_sld X h hX hb hbA (show i + 1 < Ls by omega) hLs dL_law_504 ?_
  refine w_readVi X M h [.int (xs (i + 1))] [.int (isKnownF x (xs (i + 1)))] (c_X8_isKnown l g u v hR.1 x hI W hWa hRW (xs (i + 1))) lk_L_59 hO8 (by omega) rfl rfl ⟨Nat.le_of_ble_eq_true rfl, Nat.le_of_ble_eq_true rfl⟩ hl hcs (Nat.le_of_ble_eq_true rfl) rfl dL_law_505 (fun H locs h => ?_)
  refine lv_icmp_eq (tgt := 1180) kx kb dL_law_508 (by decide) (fun c_1 => ?_) (fun c_1 => (c_1 rfl).elim)
  exact hnext _ _ _ _ (hW0) h (lv_sub hl [0, 1, 2, 3] rfl)
set_option maxRecDepth 20000 in
theorem law_11 {p : Program} (l : Launch) {e : Env} {s : State} {m : MethodId} {below : List Frame} {meth : Method} {c : Code} {b Ls : Nat} {xs : Nat → Int32} (g : gT) {N : Nat} {ad : Nat → Nat} {F : Nat → va_E} {A : Nat → Prop} {H : Heap} {locs : List Loc} {cells slots : Nat} {Q : State → Prop} {ls : Array Slot} {i : Nat} (X : Kx p m meth c s #[.ref b] code 8 RL ret) (M : Mx g N ad A s) (h : Hx g N ad F A s H locs) (hW : PW g N ad F) (hX : va_X b Ls xs s s.heap) (hb : b < s.heap.size) (hbA : ¬ A b) (hl : lv_has ls 8 [(0, .ref b), (1, .ref (ad 0)), (2, .ref (ad 254)), (3, .int (nI i))]) (hi : i + 5 ≤ Ls) (hLs : Ls ≤ 2560) (hcs : cells ≤ room_1.cells ∧ slots ≤ room_1.slots) (hnext : ∀ (F' : Nat → va_E) (H' : Heap) (locs' : List Loc) (ls' : Array Slot), PW g N ad F' → Hx g N ad F' A s H' locs' → lv_has ls' 8 [(0, .ref b), (1, .ref (ad 0)), (2, .ref (ad 254)), (3, .int (nI i))] → W p l e room_1 s m #[.ref b] below meth c H' locs' cells slots Q (F0 m 1180 ls' [])) : W p l e room_1 s m #[.ref b] below meth c H locs cells slots Q (F0 m 513 ls []) := by
  have kx := X.1.1
  have kb := X.1.2.1
  have hW0 := hW
  obtain ⟨x, sv, hs, ct, nx, L, il, ia, q, u, v, hC, hR, hP⟩ := hW
  have hI := hP.1.1
  have hn12 := hI.n
  have htn64 := hI.tn
  have hN0 := hR.1.1
  obtain ⟨hz0, hz1a, hz1, hz2, hz3, hz4⟩ := hI.zz
  obtain ⟨W, hWa, hRW⟩ := hR.2.1
  obtain ⟨A9, hA9⟩ := hR.2.2.2.2.2.1
  have hct := hP.2.2.2.2.2.1
  have hnx := hP.2.2.2.2.2.2.1
  have hL60 := hP.2.2.2.2.2.2.2.1
  have hil60 := hP.2.2.2.2.2.2.2.2.1
  have hRq := hP.2.2.2.2.2.2.2.2.2
  have hv0e := hR.2.2.2.2.2.2.2.2.2.1
  have hv1 := hR.2.2.2.2.2.2.2.2.2.2.1
  have hv2 := hR.2.2.2.2.2.2.2.2.2.2.2.1
  have hv3 := hR.2.2.2.2.2.2.2.2.2.2.2.2
  have hns : ∀ i, i < v 0 → (hs i).1 ≤ 12 ∧ (hs i).2.2.1 ≤ 64 := fun i hi => by have z := hP.2.2.2.2.1 i (by omega); exact ⟨z.1.n, z.1.tn⟩
  obtain ⟨yk, hyk⟩ := hC.2.2.2.2.1 nx hnx
  obtain ⟨yu, hyu, hyu2⟩ := undo_slot hC hct hnx
  obtain ⟨rc0, re0, kd0, nm0, hrd0⟩ := hC.2.2.2.2.2.2.2.2
  have hO7 := hC.1.2
  have hO8 := hR.1.2
  refine lv_aload_n kx kb dL_law_513 rfl (lv_at hl 1 rfl) ?_
  refine lv_aload_n kx kb dL_law_514 rfl (lv_at hl 0 rfl) ?_
  refine lv_iload_n kx kb dL_law_515 rfl (lv_at hl 3 rfl) ?_
  refine lv_iconst (v := nI 1) kx kb dL_law_516 (by decide) ?_
  refine w_addn kx kb dL_law_517 ?_
  refine w_sld X h hX hb hbA (show i + 1 < Ls by omega) hLs dL_law_518 ?_
  refine lv_aload_n kx kb dL_law_519 rfl (lv_at hl 0 rfl) ?_
  refine lv_iload_n kx kb dL_law_520 rfl (lv_at hl 3 rfl) ?_
  refine lv_iconst (v := nI 2) kx kb dL_law_521 (by decide) ?_
  refine w_addn kx kb dL_law_522 ?_
  refine w_sld X h hX hb hbA (show i + 2 < Ls by omega) hLs dL_law_523 ?_
  refine w_readVi X M h [.int (xs (i + 1)), .int (xs (i + 2))] [] (c_X7_laughBits l g x q hC.1 hC.2.1 hn12 htn64 (xs (i + 1)) (xs (i + 2)) (fb (lfO (x.2.1 3 (cl (xs (i + 1)))) (x.2.1 4 (cl (xs (i + 1)))) (nI (cl (xs (i + 2)))))) (fun k gr ea eb hk hg => ⟨hI.lnn hk hg, by rw [ea, eb, cl_n (by omega), cl_n (by omega)]; exact (hI.isl hk hg).bits⟩)) lk_L_60 hO7 (by omega) rfl rfl ⟨Nat.le_of_ble_eq_true rfl, Nat.le_of_ble_eq_true rfl⟩ hl hcs (Nat.le_of_ble_eq_true rfl) rfl dL_law_524 (fun H locs h => ?_)
  refine lv_aload_n kx kb dL_law_527 rfl (lv_at hl 2 rfl) ?_
  refine lv_aload_n kx kb dL_law_528 rfl (lv_at hl 0 rfl) ?_
  refine lv_iload_n kx kb dL_law_529 rfl (lv_at hl 3 rfl) ?_
  refine lv_iconst (v := nI 1) kx kb dL_law_530 (by decide) ?_
  refine w_addn kx kb dL_law_531 ?_
  refine w_sld X h hX hb hbA (show i + 1 < Ls by omega) hLs dL_law_532 ?_
  refine lv_aload_n kx kb dL_law_533 rfl (lv_at hl 0 rfl) ?_
  refine lv_iload_n kx kb dL_law_534 rfl (lv_at hl 3 rfl) ?_
  refine lv_iconst (v := nI 2) kx kb dL_law_535 (by decide) ?_
  refine w_addn kx kb dL_law_536 ?_
  refine w_sld X h hX hb hbA (show i + 2 < Ls by omega) hLs dL_law_537 ?_
  refine w_readVi X M h [.int (xs (i + 1)), .int (xs (i + 2))] [.int (if hasJ x.1 (xs (i + 1)) then (if inW (xs (i + 2)) (nI 0) (nI 50) then (fb (lfO (x.2.1 3 (cl (xs (i + 1)))) (x.2.1 4 (cl (xs (i + 1)))) (nI (cl (xs (i + 2)))))) else -2) else -1)] (c_X8_laughBits l g u v hR.1 x hI W hWa hRW (xs (i + 1)) (xs (i + 2))) lk_L_63 hO8 (by omega) rfl rfl ⟨Nat.le_of_ble_eq_true rfl, Nat.le_of_ble_eq_true rfl⟩ hl hcs (Nat.le_of_ble_eq_true rfl) rfl dL_law_538 (fun H locs h => ?_)
  refine lv_icmp_eq (tgt := 1180) kx kb dL_law_541 (by decide) (fun c_1 => ?_) (fun c_1 => (c_1 rfl).elim)
  exact hnext _ _ _ _ (hW0) h (lv_sub hl [0, 1, 2, 3] rfl)
set_option maxRecDepth 20000 in
theorem law_12 {p : Program} (l : Launch) {e : Env} {s : State} {m : MethodId} {below : List Frame} {meth : Method} {c : Code} {b Ls : Nat} {xs : Nat → Int32} (g : gT) {N : Nat} {ad : Nat → Nat} {F : Nat → va_E} {A : Nat → Prop} {H : Heap} {locs : List Loc} {cells slots : Nat} {Q : State → Prop} {ls : Array Slot} {i : Nat} (X : Kx p m meth c s #[.ref b] code 8 RL ret) (M : Mx g N ad A s) (h : Hx g N ad F A s H locs) (hW : PW g N ad F) (hX : va_X b Ls xs s s.heap) (hb : b < s.heap.size) (hbA : ¬ A b) (hl : lv_has ls 8 [(0, .ref b), (1, .ref (ad 0)), (2, .ref (ad 254)), (3, .int (nI i))]) (hi : i + 5 ≤ Ls) (hLs : Ls ≤ 2560) (hcs : cells ≤ room_1.cells ∧ slots ≤ room_1.slots) (hnext : ∀ (F' : Nat → va_E) (H' : Heap) (locs' : List Loc) (ls' : Array Slot), PW g N ad F' → Hx g N ad F' A s H' locs' → lv_has ls' 8 [(0, .ref b), (1, .ref (ad 0)), (2, .ref (ad 254)), (3, .int (nI i))] → W p l e room_1 s m #[.ref b] below meth c H' locs' cells slots Q (F0 m 1180 ls' [])) : W p l e room_1 s m #[.ref b] below meth c H locs cells slots Q (F0 m 546 ls []) := by
  have kx := X.1.1
  have kb := X.1.2.1
  have hW0 := hW
  obtain ⟨x, sv, hs, ct, nx, L, il, ia, q, u, v, hC, hR, hP⟩ := hW
  have hI := hP.1.1
  have hn12 := hI.n
  have htn64 := hI.tn
  have hN0 := hR.1.1
  obtain ⟨hz0, hz1a, hz1, hz2, hz3, hz4⟩ := hI.zz
  obtain ⟨W, hWa, hRW⟩ := hR.2.1
  obtain ⟨A9, hA9⟩ := hR.2.2.2.2.2.1
  have hct := hP.2.2.2.2.2.1
  have hnx := hP.2.2.2.2.2.2.1
  have hL60 := hP.2.2.2.2.2.2.2.1
  have hil60 := hP.2.2.2.2.2.2.2.2.1
  have hRq := hP.2.2.2.2.2.2.2.2.2
  have hv0e := hR.2.2.2.2.2.2.2.2.2.1
  have hv1 := hR.2.2.2.2.2.2.2.2.2.2.1
  have hv2 := hR.2.2.2.2.2.2.2.2.2.2.2.1
  have hv3 := hR.2.2.2.2.2.2.2.2.2.2.2.2
  have hns : ∀ i, i < v 0 → (hs i).1 ≤ 12 ∧ (hs i).2.2.1 ≤ 64 := fun i hi => by have z := hP.2.2.2.2.1 i (by omega); exact ⟨z.1.n, z.1.tn⟩
  obtain ⟨yk, hyk⟩ := hC.2.2.2.2.1 nx hnx
  obtain ⟨yu, hyu, hyu2⟩ := undo_slot hC hct hnx
  obtain ⟨rc0, re0, kd0, nm0, hrd0⟩ := hC.2.2.2.2.2.2.2.2
  have hO7 := hC.1.2
  have hO8 := hR.1.2
  refine lv_aload_n kx kb dL_law_546 rfl (lv_at hl 1 rfl) ?_
  refine w_readVf X M h [] [] (c_X7_laughs l g x q hC.1 hC.2.1 hn12 htn64) lk_L_64 hO7 (by omega) rfl rfl ⟨Nat.le_of_ble_eq_true rfl, Nat.le_of_ble_eq_true rfl⟩ hl hcs (Nat.le_of_ble_eq_true rfl) rfl dL_law_547 (fun H locs h => ?_)
  refine lv_f2d kx kb dL_law_550 (f2d_n hI.smn) ?_
  refine lv_dstore (lv' := [(4, .double (FP.f2d x.2.2.2.1)), (0, .ref b), (1, .ref (ad 0)), (2, .ref (ad 254)), (3, .int (nI i))]) kx kb dL_law_551 hl (by decide) rfl (fun ls hl => ?_)
  refine lv_aload_n kx kb dL_law_553 rfl (lv_at hl 3 rfl) ?_
  refine w_readVf X M h [] [] (c_X8_laughs l g u v hR.1 x hI W hWa hRW) lk_L_68 hO8 (by omega) rfl rfl ⟨Nat.le_of_ble_eq_true rfl, Nat.le_of_ble_eq_true rfl⟩ hl hcs (Nat.le_of_ble_eq_true rfl) rfl dL_law_554 (fun H locs h => ?_)
  refine lv_f2d kx kb dL_law_557 (f2d_n hI.smn) ?_
  refine lv_dstore (lv' := [(6, .double (FP.f2d x.2.2.2.1)), (4, .double (FP.f2d x.2.2.2.1)), (0, .ref b), (1, .ref (ad 0)), (2, .ref (ad 254)), (3, .int (nI i))]) kx kb dL_law_558 hl (by decide) rfl (fun ls hl => ?_)
  refine lv_dload kx kb dL_law_560 (lv_at hl 1 rfl) ?_
  refine lv_dload kx kb dL_law_562 (lv_at hl 0 rfl) ?_
  refine lv_dcmp kx kb dL_law_564 ?_
  refine lv_if_eq (tgt := 586) kx kb dL_law_565 (by decide) (fun c_1 => ?_) (fun c_1 => ?_)
  · refine lv_goto (tgt := 1180) kx kb dL_law_586 (by decide) ?_
    exact hnext _ _ _ _ (hW0) h (lv_sub hl [2, 3, 4, 5] rfl)
  · refine lv_dload kx kb dL_law_568 (lv_at hl 1 rfl) ?_
    refine lv_dload kx kb dL_law_570 (lv_at hl 1 rfl) ?_
    refine lv_dcmp kx kb dL_law_572 ?_
    refine lv_if_eq (tgt := 584) kx kb dL_law_573 (by decide) (fun c_2 => (c_1 c_2).elim) (fun c_2 => ?_)
    refine lv_dload kx kb dL_law_576 (lv_at hl 0 rfl) ?_
    refine lv_dload kx kb dL_law_578 (lv_at hl 0 rfl) ?_
    refine lv_dcmp kx kb dL_law_580 ?_
    refine lv_if_ne (tgt := 586) kx kb dL_law_581 (by decide) (fun c_3 => ?_) (fun c_3 => (c_1 c_3).elim)
    refine lv_goto (tgt := 1180) kx kb dL_law_586 (by decide) ?_
    exact hnext _ _ _ _ (hW0) h (lv_sub hl [2, 3, 4, 5] rfl)
set_option maxRecDepth 20000 in
theorem law_13 {p : Program} (l : Launch) {e : Env} {s : State} {m : MethodId} {below : List Frame} {meth : Method} {c : Code} {b Ls : Nat} {xs : Nat → Int32} (g : gT) {N : Nat} {ad : Nat → Nat} {F : Nat → va_E} {A : Nat → Prop} {H : Heap} {locs : List Loc} {cells slots : Nat} {Q : State → Prop} {ls : Array Slot} {i : Nat} (X : Kx p m meth c s #[.ref b] code 8 RL ret) (M : Mx g N ad A s) (h : Hx g N ad F A s H locs) (hW : PW g N ad F) (hX : va_X b Ls xs s s.heap) (hb : b < s.heap.size) (hbA : ¬ A b) (hl : lv_has ls 8 [(0, .ref b), (1, .ref (ad 0)), (2, .ref (ad 254)), (3, .int (nI i))]) (hi : i + 5 ≤ Ls) (hLs : Ls ≤ 2560) (hcs : cells ≤ room_1.cells ∧ slots ≤ room_1.slots) (hnext : ∀ (F' : Nat → va_E) (H' : Heap) (locs' : List Loc) (ls' : Array Slot), PW g N ad F' → Hx g N ad F' A s H' locs' → lv_has ls' 8 [(0, .ref b), (1, .ref (ad 0)), (2, .ref (ad 254)), (3, .int (nI i))] → W p l e room_1 s m #[.ref b] below meth c H' locs' cells slots Q (F0 m 1180 ls' [])) : W p l e room_1 s m #[.ref b] below meth c H locs cells slots Q (F0 m 589 ls []) := by
  have kx := X.1.1
  have kb := X.1.2.1
  have hW0 := hW
  obtain ⟨x, sv, hs, ct, nx, L, il, ia, q, u, v, hC, hR, hP⟩ := hW
  have hI := hP.1.1
  have hn12 := hI.n
  have htn64 := hI.tn
  have hN0 := hR.1.1
  obtain ⟨hz0, hz1a, hz1, hz2, hz3, hz4⟩ := hI.zz
  obtain ⟨W, hWa, hRW⟩ := hR.2.1
  obtain ⟨A9, hA9⟩ := hR.2.2.2.2.2.1
  have hct := hP.2.2.2.2.2.1
  have hnx := hP.2.2.2.2.2.2.1
  have hL60 := hP.2.2.2.2.2.2.2.1
  have hil60 := hP.2.2.2.2.2.2.2.2.1
  have hRq := hP.2.2.2.2.2.2.2.2.2
  have hv0e := hR.2.2.2.2.2.2.2.2.2.1
  have hv1 := hR.2.2.2.2.2.2.2.2.2.2.1
  have hv2 := hR.2.2.2.2.2.2.2.2.2.2.2.1
  have hv3 := hR.2.2.2.2.2.2.2.2.2.2.2.2
  have hns : ∀ i, i < v 0 → (hs i).1 ≤ 12 ∧ (hs i).2.2.1 ≤ 64 := fun i hi => by have z := hP.2.2.2.2.1 i (by omega); exact ⟨z.1.n, z.1.tn⟩
  obtain ⟨yk, hyk⟩ := hC.2.2.2.2.1 nx hnx
  obtain ⟨yu, hyu, hyu2⟩ := undo_slot hC hct hnx
  obtain ⟨rc0, re0, kd0, nm0, hrd0⟩ := hC.2.2.2.2.2.2.2.2
  have hO7 := hC.1.2
  have hO8 := hR.1.2
  refine lv_aload_n kx kb dL_law_589 rfl (lv_at hl 1 rfl) ?_
  refine w_readVf X M h [] [] (c_X7_laughsAgain l g x q hC.1 hC.2.1 hn12 htn64 hI.hnn) lk_L_69 hO7 (by omega) rfl rfl ⟨Nat.le_of_ble_eq_true rfl, Nat.le_of_ble_eq_true rfl⟩ hl hcs (Nat.le_of_ble_eq_true rfl) rfl dL_law_590 (fun H locs h => ?_)
  refine lv_f2d kx kb dL_law_593 (f2d_n (fsum_nn (fun z hz => hI.lfn hz))) ?_
  refine lv_dstore (lv' := [(4, .double (FP.f2d (fsum x.2.2.2.2.2.1 x.2.2.1))), (0, .ref b), (1, .ref (ad 0)), (2, .ref (ad 254)), (3, .int (nI i))]) kx kb dL_law_594 hl (by decide) rfl (fun ls hl => ?_)
  refine lv_aload_n kx kb dL_law_596 rfl (lv_at hl 3 rfl) ?_
  refine w_readVf X M h [] [] (c_X8_laughsAgain l g u v hR.1 x hI W hWa hRW) lk_L_72 hO8 (by omega) rfl rfl ⟨Nat.le_of_ble_eq_true rfl, Nat.le_of_ble_eq_true rfl⟩ hl hcs (Nat.le_of_ble_eq_true rfl) rfl dL_law_597 (fun H locs h => ?_)
  refine lv_f2d kx kb dL_law_600 (f2d_n (fsum_nn (fun z hz => hI.lfn hz))) ?_
  refine lv_dstore (lv' := [(6, .double (FP.f2d (fsum x.2.2.2.2.2.1 x.2.2.1))), (4, .double (FP.f2d (fsum x.2.2.2.2.2.1 x.2.2.1))), (0, .ref b), (1, .ref (ad 0)), (2, .ref (ad 254)), (3, .int (nI i))]) kx kb dL_law_601 hl (by decide) rfl (fun ls hl => ?_)
  refine lv_dload kx kb dL_law_603 (lv_at hl 1 rfl) ?_
  refine lv_dload kx kb dL_law_605 (lv_at hl 0 rfl) ?_
  refine lv_dcmp kx kb dL_law_607 ?_
  refine lv_if_eq (tgt := 629) kx kb dL_law_608 (by decide) (fun c_1 => ?_) (fun c_1 => ?_)
  · refine lv_goto (tgt := 1180) kx kb dL_law_629 (by decide) ?_
    exact hnext _ _ _ _ (hW0) h (lv_sub hl [2, 3, 4, 5] rfl)
  · refine lv_dload kx kb dL_law_611 (lv_at hl 1 rfl) ?_
    refine lv_dload kx kb dL_law_613 (lv_at hl 1 rfl) ?_
    refine lv_dcmp kx kb dL_law_615 ?_
    refine lv_if_eq (tgt := 627) kx kb dL_law_616 (by decide) (fun c_2 => (c_1 c_2).elim) (fun c_2 => ?_)
    refine lv_dload kx kb dL_law_619 (lv_at hl 0 rfl) ?_
    refine lv_dload kx kb dL_law_621 (lv_at hl 0 rfl) ?_
    refine lv_dcmp kx kb dL_law_623 ?_
    refine lv_if_ne (tgt := 629) kx kb dL_law_624 (by decide) (fun c_3 => ?_) (fun c_3 => (c_1 c_3).elim)
    refine lv_goto (tgt := 1180) kx kb dL_law_629 (by decide) ?_
    exact hnext _ _ _ _ (hW0) h (lv_sub hl [2, 3, 4, 5] rfl)
set_option maxRecDepth 20000 in
theorem law_14 {p : Program} (l : Launch) {e : Env} {s : State} {m : MethodId} {below : List Frame} {meth : Method} {c : Code} {b Ls : Nat} {xs : Nat → Int32} (g : gT) {N : Nat} {ad : Nat → Nat} {F : Nat → va_E} {A : Nat → Prop} {H : Heap} {locs : List Loc} {cells slots : Nat} {Q : State → Prop} {ls : Array Slot} {i : Nat} (X : Kx p m meth c s #[.ref b] code 8 RL ret) (M : Mx g N ad A s) (h : Hx g N ad F A s H locs) (hW : PW g N ad F) (hX : va_X b Ls xs s s.heap) (hb : b < s.heap.size) (hbA : ¬ A b) (hl : lv_has ls 8 [(0, .ref b), (1, .ref (ad 0)), (2, .ref (ad 254)), (3, .int (nI i))]) (hi : i + 5 ≤ Ls) (hLs : Ls ≤ 2560) (hcs : cells ≤ room_1.cells ∧ slots ≤ room_1.slots) (hnext : ∀ (F' : Nat → va_E) (H' : Heap) (locs' : List Loc) (ls' : Array Slot), PW g N ad F' → Hx g N ad F' A s H' locs' → lv_has ls' 8 [(0, .ref b), (1, .ref (ad 0)), (2, .ref (ad 254)), (3, .int (nI i))] → W p l e room_1 s m #[.ref b] below meth c H' locs' cells slots Q (F0 m 1180 ls' [])) : W p l e room_1 s m #[.ref b] below meth c H locs cells slots Q (F0 m 632 ls []) := by
  have kx := X.1.1
  have kb := X.1.2.1
  have hW0 := hW
  obtain ⟨x, sv, hs, ct, nx, L, il, ia, q, u, v, hC, hR, hP⟩ := hW
  have hI := hP.1.1
  have hn12 := hI.n
  have htn64 := hI.tn
  have hN0 := hR.1.1
  obtain ⟨hz0, hz1a, hz1, hz2, hz3, hz4⟩ := hI.zz
  obtain ⟨W, hWa, hRW⟩ := hR.2.1
  obtain ⟨A9, hA9⟩ := hR.2.2.2.2.2.1
  have hct := hP.2.2.2.2.2.1
  have hnx := hP.2.2.2.2.2.2.1
  have hL60 := hP.2.2.2.2.2.2.2.1
  have hil60 := hP.2.2.2.2.2.2.2.2.1
  have hRq := hP.2.2.2.2.2.2.2.2.2
  have hv0e := hR.2.2.2.2.2.2.2.2.2.1
  have hv1 := hR.2.2.2.2.2.2.2.2.2.2.1
  have hv2 := hR.2.2.2.2.2.2.2.2.2.2.2.1
  have hv3 := hR.2.2.2.2.2.2.2.2.2.2.2.2
  have hns : ∀ i, i < v 0 → (hs i).1 ≤ 12 ∧ (hs i).2.2.1 ≤ 64 := fun i hi => by have z := hP.2.2.2.2.1 i (by omega); exact ⟨z.1.n, z.1.tn⟩
  obtain ⟨yk, hyk⟩ := hC.2.2.2.2.1 nx hnx
  obtain ⟨yu, hyu, hyu2⟩ := undo_slot hC hct hnx
  obtain ⟨rc0, re0, kd0, nm0, hrd0⟩ := hC.2.2.2.2.2.2.2.2
  have hO7 := hC.1.2
  have hO8 := hR.1.2
  refine lv_aload_n kx kb dL_law_632 rfl (lv_at hl 1 rfl) ?_
  refine w_readVi X M h [] [] (c_X7_wholeLaughs l g x q hC.1 hC.2.1 hn12 htn64) lk_L_73 hO7 (by omega) rfl rfl ⟨Nat.le_of_ble_eq_true rfl, Nat.le_of_ble_eq_true rfl⟩ hl hcs (Nat.le_of_ble_eq_true rfl) rfl dL_law_633 (fun H locs h => ?_)
  refine lv_aload_n kx kb dL_law_636 rfl (lv_at hl 2 rfl) ?_
  refine w_readVi X M h [] [.int (FP.f2i x.2.2.2.1)] (c_X8_wholeLaughs l g u v hR.1 x hI W hWa hRW) lk_L_77 hO8 (by omega) rfl rfl ⟨Nat.le_of_ble_eq_true rfl, Nat.le_of_ble_eq_true rfl⟩ hl hcs (Nat.le_of_ble_eq_true rfl) rfl dL_law_637 (fun H locs h => ?_)
  refine lv_icmp_eq (tgt := 1180) kx kb dL_law_640 (by decide) (fun c_1 => ?_) (fun c_1 => (c_1 rfl).elim)
  exact hnext _ _ _ _ (hW0) h (lv_sub hl [0, 1, 2, 3] rfl)
set_option maxRecDepth 20000 in
theorem law_15 {p : Program} (l : Launch) {e : Env} {s : State} {m : MethodId} {below : List Frame} {meth : Method} {c : Code} {b Ls : Nat} {xs : Nat → Int32} (g : gT) {N : Nat} {ad : Nat → Nat} {F : Nat → va_E} {A : Nat → Prop} {H : Heap} {locs : List Loc} {cells slots : Nat} {Q : State → Prop} {ls : Array Slot} {i : Nat} (X : Kx p m meth c s #[.ref b] code 8 RL ret) (M : Mx g N ad A s) (h : Hx g N ad F A s H locs) (hW : PW g N ad F) (hX : va_X b Ls xs s s.heap) (hb : b < s.heap.size) (hbA : ¬ A b) (hl : lv_has ls 8 [(0, .ref b), (1, .ref (ad 0)), (2, .ref (ad 254)), (3, .int (nI i))]) (hi : i + 5 ≤ Ls) (hLs : Ls ≤ 2560) (hcs : cells ≤ room_1.cells ∧ slots ≤ room_1.slots) (hnext : ∀ (F' : Nat → va_E) (H' : Heap) (locs' : List Loc) (ls' : Array Slot), PW g N ad F' → Hx g N ad F' A s H' locs' → lv_has ls' 8 [(0, .ref b), (1, .ref (ad 0)), (2, .ref (ad 254)), (3, .int (nI i))] → W p l e room_1 s m #[.ref b] below meth c H' locs' cells slots Q (F0 m 1180 ls' [])) : W p l e room_1 s m #[.ref b] below meth c H locs cells slots Q (F0 m 645 ls []) := by
  have kx := X.1.1
  have kb := X.1.2.1
  have hW0 := hW
  obtain ⟨x, sv, hs, ct, nx, L, il, ia, q, u, v, hC, hR, hP⟩ := hW
  have hI := hP.1.1
  have hn12 := hI.n
  have htn64 := hI.tn
  have hN0 := hR.1.1
  obtain ⟨hz0, hz1a, hz1, hz2, hz3, hz4⟩ := hI.zz
  obtain ⟨W, hWa, hRW⟩ := hR.2.1
  obtain ⟨A9, hA9⟩ := hR.2.2.2.2.2.1
  have hct := hP.2.2.2.2.2.1
  have hnx := hP.2.2.2.2.2.2.1
  have hL60 := hP.2.2.2.2.2.2.2.1
  have hil60 := hP.2.2.2.2.2.2.2.2.1
  have hRq := hP.2.2.2.2.2.2.2.2.2
  have hv0e := hR.2.2.2.2.2.2.2.2.2.1
  have hv1 := hR.2.2.2.2.2.2.2.2.2.2.1
  have hv2 := hR.2.2.2.2.2.2.2.2.2.2.2.1
  have hv3 := hR.2.2.2.2.2.2.2.2.2.2.2.2
  have hns : ∀ i, i < v 0 → (hs i).1 ≤ 12 ∧ (hs i).2.2.1 ≤ 64 := fun i hi => by have z := hP.2.2.2.2.1 i (by omega); exact ⟨z.1.n, z.1.tn⟩
  obtain ⟨yk, hyk⟩ := hC.2.2.2.2.1 nx hnx
  obtain ⟨yu, hyu, hyu2⟩ := undo_slot hC hct hnx
  obtain ⟨rc0, re0, kd0, nm0, hrd0⟩ := hC.2.2.2.2.2.2.2.2
  have hO7 := hC.1.2
  have hO8 := hR.1.2
  refine lv_aload_n kx kb dL_law_645 rfl (lv_at hl 1 rfl) ?_
  refine lv_aload_n kx kb dL_law_646 rfl (lv_at hl 0 rfl) ?_
  refine lv_iload_n kx kb dL_law_647 rfl (lv_at hl 3 rfl) ?_
  refine lv_iconst (v := nI 1) kx kb dL_law_648 (by decide) ?_
  refine w_addn kx kb dL_law_649 ?_
  refine w_sld X h hX hb hbA (show i + 1 < Ls by omega) hLs dL_law_650 ?_
  refine lv_aload_n kx kb dL_law_651 rfl (lv_at hl 0 rfl) ?_
  refine lv_iload_n kx kb dL_law_652 rfl (lv_at hl 3 rfl) ?_
  refine lv_iconst (v := nI 2) kx kb dL_law_653 (by decide) ?_
  refine w_addn kx kb dL_law_654 ?_
  refine w_sld X h hX hb hbA (show i + 2 < Ls by omega) hLs dL_law_655 ?_
  refine w_readVi X M h [.int (xs (i + 1)), .int (xs (i + 2))] [] (c_X7_liftedOf l g x q hC.1 hC.2.1 hn12 htn64 (xs (i + 1)) (xs (i + 2)) (fun i => fb (x.2.2.2.2.2.1 i)) (fun k hk => (hI.tl hk).bits)) lk_L_78 hO7 (by omega) rfl rfl ⟨Nat.le_of_ble_eq_true rfl, Nat.le_of_ble_eq_true rfl⟩ hl hcs (Nat.le_of_ble_eq_true rfl) rfl dL_law_656 (fun H locs h => ?_)
  refine lv_aload_n kx kb dL_law_659 rfl (lv_at hl 2 rfl) ?_
  refine lv_aload_n kx kb dL_law_660 rfl (lv_at hl 0 rfl) ?_
  refine lv_iload_n kx kb dL_law_661 rfl (lv_at hl 3 rfl) ?_
  refine lv_iconst (v := nI 1) kx kb dL_law_662 (by decide) ?_
  refine w_addn kx kb dL_law_663 ?_
  refine w_sld X h hX hb hbA (show i + 1 < Ls by omega) hLs dL_law_664 ?_
  refine lv_aload_n kx kb dL_law_665 rfl (lv_at hl 0 rfl) ?_
  refine lv_iload_n kx kb dL_law_666 rfl (lv_at hl 3 rfl) ?_
  refine lv_iconst (v := nI 2) kx kb dL_law_667 (by decide) ?_
  refine w_addn kx kb dL_law_668 ?_
  refine w_sld X h hX hb hbA (show i + 2 < Ls by omega) hLs dL_law_669 ?_
  refine w_readVi X M h [.int (xs (i + 1)), .int (xs (i + 2))] [.int (liftedF x (xs (i + 1)) (xs (i + 2)) (fun i => fb (x.2.2.2.2.2.1 i)))] (c_X8_liftedOf l g u v hR.1 x hI W hWa hRW (xs (i + 1)) (xs (i + 2))) lk_L_81 hO8 (by omega) rfl rfl ⟨Nat.le_of_ble_eq_true rfl, Nat.le_of_ble_eq_true rfl⟩ hl hcs (Nat.le_of_ble_eq_true rfl) rfl dL_law_670 (fun H locs h => ?_)
  refine lv_icmp_eq (tgt := 1180) kx kb dL_law_673 (by decide) (fun c_1 => ?_) (fun c_1 => (c_1 rfl).elim)
  exact hnext _ _ _ _ (hW0) h (lv_sub hl [0, 1, 2, 3] rfl)
set_option maxRecDepth 20000 in
theorem law_16 {p : Program} (l : Launch) {e : Env} {s : State} {m : MethodId} {below : List Frame} {meth : Method} {c : Code} {b Ls : Nat} {xs : Nat → Int32} (g : gT) {N : Nat} {ad : Nat → Nat} {F : Nat → va_E} {A : Nat → Prop} {H : Heap} {locs : List Loc} {cells slots : Nat} {Q : State → Prop} {ls : Array Slot} {i : Nat} (X : Kx p m meth c s #[.ref b] code 8 RL ret) (M : Mx g N ad A s) (h : Hx g N ad F A s H locs) (hW : PW g N ad F) (hX : va_X b Ls xs s s.heap) (hb : b < s.heap.size) (hbA : ¬ A b) (hl : lv_has ls 8 [(0, .ref b), (1, .ref (ad 0)), (2, .ref (ad 254)), (3, .int (nI i))]) (hi : i + 5 ≤ Ls) (hLs : Ls ≤ 2560) (hcs : cells ≤ room_1.cells ∧ slots ≤ room_1.slots) (hnext : ∀ (F' : Nat → va_E) (H' : Heap) (locs' : List Loc) (ls' : Array Slot), PW g N ad F' → Hx g N ad F' A s H' locs' → lv_has ls' 8 [(0, .ref b), (1, .ref (ad 0)), (2, .ref (ad 254)), (3, .int (nI i))] → W p l e room_1 s m #[.ref b] below meth c H' locs' cells slots Q (F0 m 1180 ls' [])) : W p l e room_1 s m #[.ref b] below meth c H locs cells slots Q (F0 m 678 ls []) := by
  have kx := X.1.1
  have kb := X.1.2.1
  have hW0 := hW
  obtain ⟨x, sv, hs, ct, nx, L, il, ia, q, u, v, hC, hR, hP⟩ := hW
  have hI := hP.1.1
  have hn12 := hI.n
  have htn64 := hI.tn
  have hN0 := hR.1.1
  obtain ⟨hz0, hz1a, hz1, hz2, hz3, hz4⟩ := hI.zz
  obtain ⟨W, hWa, hRW⟩ := hR.2.1
  obtain ⟨A9, hA9⟩ := hR.2.2.2.2.2.1
  have hct := hP.2.2.2.2.2.1
  have hnx := hP.2.2.2.2.2.2.1
  have hL60 := hP.2.2.2.2.2.2.2.1
  have hil60 := hP.2.2.2.2.2.2.2.2.1
  have hRq := hP.2.2.2.2.2.2.2.2.2
  have hv0e := hR.2.2.2.2.2.2.2.2.2.1
  have hv1 := hR.2.2.2.2.2.2.2.2.2.2.1
  have hv2 := hR.2.2.2.2.2.2.2.2.2.2.2.1
  have hv3 := hR.2.2.2.2.2.2.2.2.2.2.2.2
  have hns : ∀ i, i < v 0 → (hs i).1 ≤ 12 ∧ (hs i).2.2.1 ≤ 64 := fun i hi => by have z := hP.2.2.2.2.1 i (by omega); exact ⟨z.1.n, z.1.tn⟩
  obtain ⟨yk, hyk⟩ := hC.2.2.2.2.1 nx hnx
  obtain ⟨yu, hyu, hyu2⟩ := undo_slot hC hct hnx
  obtain ⟨rc0, re0, kd0, nm0, hrd0⟩ := hC.2.2.2.2.2.2.2.2
  have hO7 := hC.1.2
  have hO8 := hR.1.2
  refine lv_aload_n kx kb dL_law_678 rfl (lv_at hl 1 rfl) ?_
  refine lv_aload_n kx kb dL_law_679 rfl (lv_at hl 0 rfl) ?_
  refine lv_iload_n kx kb dL_law_680 rfl (lv_at hl 3 rfl) ?_
  refine lv_iconst (v := nI 1) kx kb dL_law_681 (by decide) ?_
  refine w_addn kx kb dL_law_682 ?_
  refine w_sld X h hX hb hbA (show i + 1 < Ls by omega) hLs dL_law_683 ?_
  refine w_readVi X M h [.int (xs (i + 1))] [] (c_X7_strokes l g x q hC.1 hC.2.1 hn12 htn64 (xs (i + 1)) (by show x.2.2.2.2.2.2.2 1 ≤ 1000; omega) (by show x.2.2.2.2.2.2.2 2 ≤ 1000; omega) (by show x.2.2.2.2.2.2.2 3 ≤ 1000; omega)) lk_L_82 hO7 (by omega) rfl rfl ⟨Nat.le_of_ble_eq_true rfl, Nat.le_of_ble_eq_true rfl⟩ hl hcs (Nat.le_of_ble_eq_true rfl) rfl dL_law_684 (fun H locs h => ?_)
  refine lv_aload_n kx kb dL_law_687 rfl (lv_at hl 2 rfl) ?_
  refine lv_aload_n kx kb dL_law_688 rfl (lv_at hl 0 rfl) ?_
  refine lv_iload_n kx kb dL_law_689 rfl (lv_at hl 3 rfl) ?_
  refine lv_iconst (v := nI 1) kx kb dL_law_690 (by decide) ?_
  refine w_addn kx kb dL_law_691 ?_
  refine w_sld X h hX hb hbA (show i + 1 < Ls by omega) hLs dL_law_692 ?_
  refine w_readVi X M h [.int (xs (i + 1))] [.int (strokesF x (xs (i + 1)))] (c_X8_strokes l g u v hR.1 x hI W hWa hRW (xs (i + 1))) lk_L_85 hO8 (by omega) rfl rfl ⟨Nat.le_of_ble_eq_true rfl, Nat.le_of_ble_eq_true rfl⟩ hl hcs (Nat.le_of_ble_eq_true rfl) rfl dL_law_693 (fun H locs h => ?_)
  refine lv_icmp_eq (tgt := 1180) kx kb dL_law_696 (by decide) (fun c_1 => ?_) (fun c_1 => (c_1 rfl).elim)
  exact hnext _ _ _ _ (hW0) h (lv_sub hl [0, 1, 2, 3] rfl)
set_option maxRecDepth 20000 in
theorem law_17 {p : Program} (l : Launch) {e : Env} {s : State} {m : MethodId} {below : List Frame} {meth : Method} {c : Code} {b Ls : Nat} {xs : Nat → Int32} (g : gT) {N : Nat} {ad : Nat → Nat} {F : Nat → va_E} {A : Nat → Prop} {H : Heap} {locs : List Loc} {cells slots : Nat} {Q : State → Prop} {ls : Array Slot} {i : Nat} (X : Kx p m meth c s #[.ref b] code 8 RL ret) (M : Mx g N ad A s) (h : Hx g N ad F A s H locs) (hW : PW g N ad F) (hX : va_X b Ls xs s s.heap) (hb : b < s.heap.size) (hbA : ¬ A b) (hl : lv_has ls 8 [(0, .ref b), (1, .ref (ad 0)), (2, .ref (ad 254)), (3, .int (nI i))]) (hi : i + 5 ≤ Ls) (hLs : Ls ≤ 2560) (hcs : cells ≤ room_1.cells ∧ slots ≤ room_1.slots) (hnext : ∀ (F' : Nat → va_E) (H' : Heap) (locs' : List Loc) (ls' : Array Slot), PW g N ad F' → Hx g N ad F' A s H' locs' → lv_has ls' 8 [(0, .ref b), (1, .ref (ad 0)), (2, .ref (ad 254)), (3, .int (nI i))] → W p l e room_1 s m #[.ref b] below meth c H' locs' cells slots Q (F0 m 1180 ls' [])) : W p l e room_1 s m #[.ref b] below meth c H locs cells slots Q (F0 m 701 ls []) := by
  have kx := X.1.1
  have kb := X.1.2.1
  have hW0 := hW
  obtain ⟨x, sv, hs, ct, nx, L, il, ia, q, u, v, hC, hR, hP⟩ := hW
  have hI := hP.1.1
  have hn12 := hI.n
  have htn64 := hI.tn
  have hN0 := hR.1.1
  obtain ⟨hz0, hz1a, hz1, hz2, hz3, hz4⟩ := hI.zz
  obtain ⟨W, hWa, hRW⟩ := hR.2.1
  obtain ⟨A9, hA9⟩ := hR.2.2.2.2.2.1
  have hct := hP.2.2.2.2.2.1
  have hnx := hP.2.2.2.2.2.2.1
  have hL60 := hP.2.2.2.2.2.2.2.1
  have hil60 := hP.2.2.2.2.2.2.2.2.1
  have hRq := hP.2.2.2.2.2.2.2.2.2
  have hv0e := hR.2.2.2.2.2.2.2.2.2.1
  have hv1 := hR.2.2.2.2.2.2.2.2.2.2.1
  have hv2 := hR.2.2.2.2.2.2.2.2.2.2.2.1
  have hv3 := hR.2.2.2.2.2.2.2.2.2.2.2.2
  have hns : ∀ i, i < v 0 → (hs i).1 ≤ 12 ∧ (hs i).2.2.1 ≤ 64 := fun i hi => by have z := hP.2.2.2.2.1 i (by omega); exact ⟨z.1.n, z.1.tn⟩
  obtain ⟨yk, hyk⟩ := hC.2.2.2.2.1 nx hnx
  obtain ⟨yu, hyu, hyu2⟩ := undo_slot hC hct hnx
  obtain ⟨rc0, re0, kd0, nm0, hrd0⟩ := hC.2.2.2.2.2.2.2.2
  have hO7 := hC.1.2
  have hO8 := hR.1.2
  refine lv_aload_n kx kb dL_law_701 rfl (lv_at hl 1 rfl) ?_
  refine lv_aload_n kx kb dL_law_702 rfl (lv_at hl 0 rfl) ?_
  refine lv_iload_n kx kb dL_law_703 rfl (lv_at hl 3 rfl) ?_
  refine lv_iconst (v := nI 1) kx kb dL_law_704 (by decide) ?_
  refine w_addn kx kb dL_law_705 ?_
  refine w_sld X h hX hb hbA (show i + 1 < Ls by omega) hLs dL_law_706 ?_
  refine w_readVi X M h [.int (xs (i + 1))] [] (c_X7_strokesAgain l g x q hC.1 hC.2.1 hn12 htn64 (xs (i + 1)) (by show x.2.2.2.2.2.2.2 1 ≤ 1000; omega) (by show x.2.2.2.2.2.2.2 2 ≤ 1000; omega) (by show x.2.2.2.2.2.2.2 3 ≤ 1000; omega)) lk_L_86 hO7 (by omega) rfl rfl ⟨Nat.le_of_ble_eq_true rfl, Nat.le_of_ble_eq_true rfl⟩ hl hcs (Nat.le_of_ble_eq_true rfl) rfl dL_law_707 (fun H locs h => ?_)
  refine w_top (y := strokesF x (xs (i + 1))) ((strokes_eq hI (xs (i + 1))).symm) ?_
  refine lv_aload_n kx kb dL_law_710 rfl (lv_at hl 2 rfl) ?_
  refine lv_aload_n kx kb dL_law_711 rfl (lv_at hl 0 rfl) ?_
  refine lv_iload_n kx kb dL_law_712 rfl (lv_at hl 3 rfl) ?_
  refine lv_iconst (v := nI 1) kx kb dL_law_713 (by decide) ?_
  refine w_addn kx kb dL_law_714 ?_
  refine w_sld X h hX hb hbA (show i + 1 < Ls by omega) hLs dL_law_715 ?_
  refine w_readVi X M h [.int (xs (i + 1))] [.int (strokesF x (xs (i + 1)))] (c_X8_strokesAgain l g u v hR.1 x hI W hWa hRW (xs (i + 1))) lk_L_89 hO8 (by omega) rfl rfl ⟨Nat.le_of_ble_eq_true rfl, Nat.le_of_ble_eq_true rfl⟩ hl hcs (Nat.le_of_ble_eq_true rfl) rfl dL_law_716 (fun H locs h => ?_)
  refine lv_icmp_eq (tgt := 1180) kx kb dL_law_719 (by decide) (fun c_1 => ?_) (fun c_1 => (c_1 rfl).elim)
  exact hnext _ _ _ _ (hW0) h (lv_sub hl [0, 1, 2, 3] rfl)
set_option maxRecDepth 20000 in
theorem law_18 {p : Program} (l : Launch) {e : Env} {s : State} {m : MethodId} {below : List Frame} {meth : Method} {c : Code} {b Ls : Nat} {xs : Nat → Int32} (g : gT) {N : Nat} {ad : Nat → Nat} {F : Nat → va_E} {A : Nat → Prop} {H : Heap} {locs : List Loc} {cells slots : Nat} {Q : State → Prop} {ls : Array Slot} {i : Nat} (X : Kx p m meth c s #[.ref b] code 8 RL ret) (M : Mx g N ad A s) (h : Hx g N ad F A s H locs) (hW : PW g N ad F) (hX : va_X b Ls xs s s.heap) (hb : b < s.heap.size) (hbA : ¬ A b) (hl : lv_has ls 8 [(0, .ref b), (1, .ref (ad 0)), (2, .ref (ad 254)), (3, .int (nI i))]) (hi : i + 5 ≤ Ls) (hLs : Ls ≤ 2560) (hcs : cells ≤ room_1.cells ∧ slots ≤ room_1.slots) (hnext : ∀ (F' : Nat → va_E) (H' : Heap) (locs' : List Loc) (ls' : Array Slot), PW g N ad F' → Hx g N ad F' A s H' locs' → lv_has ls' 8 [(0, .ref b), (1, .ref (ad 0)), (2, .ref (ad 254)), (3, .int (nI i))] → W p l e room_1 s m #[.ref b] below meth c H' locs' cells slots Q (F0 m 1180 ls' [])) : W p l e room_1 s m #[.ref b] below meth c H locs cells slots Q (F0 m 724 ls []) := by
  have kx := X.1.1
  have kb := X.1.2.1
  have hW0 := hW
  obtain ⟨x, sv, hs, ct, nx, L, il, ia, q, u, v, hC, hR, hP⟩ := hW
  have hI := hP.1.1
  have hn12 := hI.n
  have htn64 := hI.tn
  have hN0 := hR.1.1
  obtain ⟨hz0, hz1a, hz1, hz2, hz3, hz4⟩ := hI.zz
  obtain ⟨W, hWa, hRW⟩ := hR.2.1
  obtain ⟨A9, hA9⟩ := hR.2.2.2.2.2.1
  have hct := hP.2.2.2.2.2.1
  have hnx := hP.2.2.2.2.2.2.1
  have hL60 := hP.2.2.2.2.2.2.2.1
  have hil60 := hP.2.2.2.2.2.2.2.2.1
  have hRq := hP.2.2.2.2.2.2.2.2.2
  have hv0e := hR.2.2.2.2.2.2.2.2.2.1
  have hv1 := hR.2.2.2.2.2.2.2.2.2.2.1
  have hv2 := hR.2.2.2.2.2.2.2.2.2.2.2.1
  have hv3 := hR.2.2.2.2.2.2.2.2.2.2.2.2
  have hns : ∀ i, i < v 0 → (hs i).1 ≤ 12 ∧ (hs i).2.2.1 ≤ 64 := fun i hi => by have z := hP.2.2.2.2.1 i (by omega); exact ⟨z.1.n, z.1.tn⟩
  obtain ⟨yk, hyk⟩ := hC.2.2.2.2.1 nx hnx
  obtain ⟨yu, hyu, hyu2⟩ := undo_slot hC hct hnx
  obtain ⟨rc0, re0, kd0, nm0, hrd0⟩ := hC.2.2.2.2.2.2.2.2
  have hO7 := hC.1.2
  have hO8 := hR.1.2
  refine lv_aload_n kx kb dL_law_724 rfl (lv_at hl 1 rfl) ?_
  refine lv_aload_n kx kb dL_law_725 rfl (lv_at hl 0 rfl) ?_
  refine lv_iload_n kx kb dL_law_726 rfl (lv_at hl 3 rfl) ?_
  refine lv_iconst (v := nI 1) kx kb dL_law_727 (by decide) ?_
  refine w_addn kx kb dL_law_728 ?_
  refine w_sld X h hX hb hbA (show i + 1 < Ls by omega) hLs dL_law_729 ?_
  refine w_readVi X M h [.int (xs (i + 1))] [] (c_X7_would l g x q hC.1 hC.2.1 hn12 htn64 (xs (i + 1)) (by show x.2.2.2.2.2.2.2 1 ≤ 1000; omega) (by show x.2.2.2.2.2.2.2 2 ≤ 30; omega) (by show x.2.2.2.2.2.2.2 3 ≤ 1000; omega) hz0 (by have := hI.bk (x.2.2.2.2.2.2.2 0); show x.2.2.2.2.2.2.1 (x.2.2.2.2.2.2.2 0) ≤ 1000; omega)) lk_L_90 hO7 (by omega) rfl rfl ⟨Nat.le_of_ble_eq_true rfl, Nat.le_of_ble_eq_true rfl⟩ hl hcs (Nat.le_of_ble_eq_true rfl) rfl dL_law_730 (fun H locs h => ?_)
  refine w_top (y := if inW (xs (i + 1)) (nI 0) (nI 20) then nI (runN (cl (xs (i + 1))) x) else -2) (would_eq hI (xs (i + 1))) ?_
  refine lv_aload_n kx kb dL_law_733 rfl (lv_at hl 2 rfl) ?_
  refine lv_aload_n kx kb dL_law_734 rfl (lv_at hl 0 rfl) ?_
  refine lv_iload_n kx kb dL_law_735 rfl (lv_at hl 3 rfl) ?_
  refine lv_iconst (v := nI 1) kx kb dL_law_736 (by decide) ?_
  refine w_addn kx kb dL_law_737 ?_
  refine w_sld X h hX hb hbA (show i + 1 < Ls by omega) hLs dL_law_738 ?_
  refine w_callVi X M h [.int (xs (i + 1))] [.int (if inW (xs (i + 1)) (nI 0) (nI 20) then nI (runN (cl (xs (i + 1))) x) else -2)] (c_X8_would l g u v hR.1 x hI W hWa hRW A9 hA9 (xs (i + 1))) lk_L_93 hO8 (by omega) rfl rfl ⟨Nat.le_of_ble_eq_true rfl, Nat.le_of_ble_eq_true rfl⟩ hl hcs (Nat.le_of_ble_eq_true rfl) rfl dL_law_739 (fun r_F1 F1 H locs hp_F1 h => ?_)
  refine w_top (y := if inW (xs (i + 1)) (nI 0) (nI 20) then nI (runN (cl (xs (i + 1))) x) else -2) (hp_F1.1) ?_
  refine lv_icmp_eq (tgt := 1180) kx kb dL_law_742 (by decide) (fun c_2 => ?_) (fun c_2 => (c_2 rfl).elim)
  exact hnext _ _ _ _ (pw_look hC hR hP hp_F1.2.1 hp_F1.2.2.1 hp_F1.2.2.2) h (lv_sub hl [0, 1, 2, 3] rfl)
set_option maxRecDepth 20000 in
theorem law_19 {p : Program} (l : Launch) {e : Env} {s : State} {m : MethodId} {below : List Frame} {meth : Method} {c : Code} {b Ls : Nat} {xs : Nat → Int32} (g : gT) {N : Nat} {ad : Nat → Nat} {F : Nat → va_E} {A : Nat → Prop} {H : Heap} {locs : List Loc} {cells slots : Nat} {Q : State → Prop} {ls : Array Slot} {i : Nat} (X : Kx p m meth c s #[.ref b] code 8 RL ret) (M : Mx g N ad A s) (h : Hx g N ad F A s H locs) (hW : PW g N ad F) (hX : va_X b Ls xs s s.heap) (hb : b < s.heap.size) (hbA : ¬ A b) (hl : lv_has ls 8 [(0, .ref b), (1, .ref (ad 0)), (2, .ref (ad 254)), (3, .int (nI i))]) (hi : i + 5 ≤ Ls) (hLs : Ls ≤ 2560) (hcs : cells ≤ room_1.cells ∧ slots ≤ room_1.slots) (hnext : ∀ (F' : Nat → va_E) (H' : Heap) (locs' : List Loc) (ls' : Array Slot), PW g N ad F' → Hx g N ad F' A s H' locs' → lv_has ls' 8 [(0, .ref b), (1, .ref (ad 0)), (2, .ref (ad 254)), (3, .int (nI i))] → W p l e room_1 s m #[.ref b] below meth c H' locs' cells slots Q (F0 m 1180 ls' [])) : W p l e room_1 s m #[.ref b] below meth c H locs cells slots Q (F0 m 747 ls []) := by
  have kx := X.1.1
  have kb := X.1.2.1
  have hW0 := hW
  obtain ⟨x, sv, hs, ct, nx, L, il, ia, q, u, v, hC, hR, hP⟩ := hW
  have hI := hP.1.1
  have hn12 := hI.n
  have htn64 := hI.tn
  have hN0 := hR.1.1
  obtain ⟨hz0, hz1a, hz1, hz2, hz3, hz4⟩ := hI.zz
  obtain ⟨W, hWa, hRW⟩ := hR.2.1
  obtain ⟨A9, hA9⟩ := hR.2.2.2.2.2.1
  have hct := hP.2.2.2.2.2.1
  have hnx := hP.2.2.2.2.2.2.1
  have hL60 := hP.2.2.2.2.2.2.2.1
  have hil60 := hP.2.2.2.2.2.2.2.2.1
  have hRq := hP.2.2.2.2.2.2.2.2.2
  have hv0e := hR.2.2.2.2.2.2.2.2.2.1
  have hv1 := hR.2.2.2.2.2.2.2.2.2.2.1
  have hv2 := hR.2.2.2.2.2.2.2.2.2.2.2.1
  have hv3 := hR.2.2.2.2.2.2.2.2.2.2.2.2
  have hns : ∀ i, i < v 0 → (hs i).1 ≤ 12 ∧ (hs i).2.2.1 ≤ 64 := fun i hi => by have z := hP.2.2.2.2.1 i (by omega); exact ⟨z.1.n, z.1.tn⟩
  obtain ⟨yk, hyk⟩ := hC.2.2.2.2.1 nx hnx
  obtain ⟨yu, hyu, hyu2⟩ := undo_slot hC hct hnx
  obtain ⟨rc0, re0, kd0, nm0, hrd0⟩ := hC.2.2.2.2.2.2.2.2
  have hO7 := hC.1.2
  have hO8 := hR.1.2
  refine lv_aload_n kx kb dL_law_747 rfl (lv_at hl 1 rfl) ?_
  refine lv_aload_n kx kb dL_law_748 rfl (lv_at hl 0 rfl) ?_
  refine lv_iload_n kx kb dL_law_749 rfl (lv_at hl 3 rfl) ?_
  refine lv_iconst (v := nI 1) kx kb dL_law_750 (by decide) ?_
  refine w_addn kx kb dL_law_751 ?_
  refine w_sld X h hX hb hbA (show i + 1 < Ls by omega) hLs dL_law_752 ?_
  refine w_readVi X M h [.int (xs (i + 1))] [] (c_X7_groansIn l g x q hC.1 hC.2.1 hn12 htn64 (xs (i + 1)) (by show x.2.2.2.2.2.2.2 1 ≤ 1000; omega) (by show x.2.2.2.2.2.2.2 2 ≤ 1000; omega) (by show x.2.2.2.2.2.2.2 3 ≤ 1000; omega)) lk_L_94 hO7 (by omega) rfl rfl ⟨Nat.le_of_ble_eq_true rfl, Nat.le_of_ble_eq_true rfl⟩ hl hcs (Nat.le_of_ble_eq_true rfl) rfl dL_law_753 (fun H locs h => ?_)
  refine w_top (y := if inW (xs (i + 1)) (nI 0) (nI 20) then nI ((runX (cl (xs (i + 1))) x).2.2.2.2.2.2.2 3) else -2) (groans_eq hI (xs (i + 1))) ?_
  refine lv_aload_n kx kb dL_law_756 rfl (lv_at hl 2 rfl) ?_
  refine lv_aload_n kx kb dL_law_757 rfl (lv_at hl 0 rfl) ?_
  refine lv_iload_n kx kb dL_law_758 rfl (lv_at hl 3 rfl) ?_
  refine lv_iconst (v := nI 1) kx kb dL_law_759 (by decide) ?_
  refine w_addn kx kb dL_law_760 ?_
  refine w_sld X h hX hb hbA (show i + 1 < Ls by omega) hLs dL_law_761 ?_
  refine w_callVi X M h [.int (xs (i + 1))] [.int (if inW (xs (i + 1)) (nI 0) (nI 20) then nI ((runX (cl (xs (i + 1))) x).2.2.2.2.2.2.2 3) else -2)] (c_X8_groansIn l g u v hR.1 x hI W hWa hRW A9 hA9 (xs (i + 1))) lk_L_97 hO8 (by omega) rfl rfl ⟨Nat.le_of_ble_eq_true rfl, Nat.le_of_ble_eq_true rfl⟩ hl hcs (Nat.le_of_ble_eq_true rfl) rfl dL_law_762 (fun r_F1 F1 H locs hp_F1 h => ?_)
  refine w_top (y := if inW (xs (i + 1)) (nI 0) (nI 20) then nI ((runX (cl (xs (i + 1))) x).2.2.2.2.2.2.2 3) else -2) (hp_F1.1) ?_
  refine lv_icmp_eq (tgt := 1180) kx kb dL_law_765 (by decide) (fun c_2 => ?_) (fun c_2 => (c_2 rfl).elim)
  exact hnext _ _ _ _ (pw_look hC hR hP hp_F1.2.1 hp_F1.2.2.1 hp_F1.2.2.2) h (lv_sub hl [0, 1, 2, 3] rfl)
set_option maxRecDepth 20000 in
theorem law_20 {p : Program} (l : Launch) {e : Env} {s : State} {m : MethodId} {below : List Frame} {meth : Method} {c : Code} {b Ls : Nat} {xs : Nat → Int32} (g : gT) {N : Nat} {ad : Nat → Nat} {F : Nat → va_E} {A : Nat → Prop} {H : Heap} {locs : List Loc} {cells slots : Nat} {Q : State → Prop} {ls : Array Slot} {i : Nat} (X : Kx p m meth c s #[.ref b] code 8 RL ret) (M : Mx g N ad A s) (h : Hx g N ad F A s H locs) (hW : PW g N ad F) (hX : va_X b Ls xs s s.heap) (hb : b < s.heap.size) (hbA : ¬ A b) (hl : lv_has ls 8 [(0, .ref b), (1, .ref (ad 0)), (2, .ref (ad 254)), (3, .int (nI i))]) (hi : i + 5 ≤ Ls) (hLs : Ls ≤ 2560) (hcs : cells ≤ room_1.cells ∧ slots ≤ room_1.slots) (hnext : ∀ (F' : Nat → va_E) (H' : Heap) (locs' : List Loc) (ls' : Array Slot), PW g N ad F' → Hx g N ad F' A s H' locs' → lv_has ls' 8 [(0, .ref b), (1, .ref (ad 0)), (2, .ref (ad 254)), (3, .int (nI i))] → W p l e room_1 s m #[.ref b] below meth c H' locs' cells slots Q (F0 m 1180 ls' [])) : W p l e room_1 s m #[.ref b] below meth c H locs cells slots Q (F0 m 770 ls []) := by
  have kx := X.1.1
  have kb := X.1.2.1
  have hW0 := hW
  obtain ⟨x, sv, hs, ct, nx, L, il, ia, q, u, v, hC, hR, hP⟩ := hW
  have hI := hP.1.1
  have hn12 := hI.n
  have htn64 := hI.tn
  have hN0 := hR.1.1
  obtain ⟨hz0, hz1a, hz1, hz2, hz3, hz4⟩ := hI.zz
  obtain ⟨W, hWa, hRW⟩ := hR.2.1
  obtain ⟨A9, hA9⟩ := hR.2.2.2.2.2.1
  have hct := hP.2.2.2.2.2.1
  have hnx := hP.2.2.2.2.2.2.1
  have hL60 := hP.2.2.2.2.2.2.2.1
  have hil60 := hP.2.2.2.2.2.2.2.2.1
  have hRq := hP.2.2.2.2.2.2.2.2.2
  have hv0e := hR.2.2.2.2.2.2.2.2.2.1
  have hv1 := hR.2.2.2.2.2.2.2.2.2.2.1
  have hv2 := hR.2.2.2.2.2.2.2.2.2.2.2.1
  have hv3 := hR.2.2.2.2.2.2.2.2.2.2.2.2
  have hns : ∀ i, i < v 0 → (hs i).1 ≤ 12 ∧ (hs i).2.2.1 ≤ 64 := fun i hi => by have z := hP.2.2.2.2.1 i (by omega); exact ⟨z.1.n, z.1.tn⟩
  obtain ⟨yk, hyk⟩ := hC.2.2.2.2.1 nx hnx
  obtain ⟨yu, hyu, hyu2⟩ := undo_slot hC hct hnx
  obtain ⟨rc0, re0, kd0, nm0, hrd0⟩ := hC.2.2.2.2.2.2.2.2
  have hO7 := hC.1.2
  have hO8 := hR.1.2
  refine lv_aload_n kx kb dL_law_770 rfl (lv_at hl 1 rfl) ?_
  refine w_readVi X M h [] [] (c_X7_bestStroke l g x q hC.1 hC.2.1 hn12 htn64 (by show x.2.2.2.2.2.2.2 1 ≤ 1000; omega) (by show x.2.2.2.2.2.2.2 2 ≤ 1000; omega) (by show x.2.2.2.2.2.2.2 3 ≤ 1000; omega)) lk_L_98 hO7 (by omega) rfl rfl ⟨Nat.le_of_ble_eq_true rfl, Nat.le_of_ble_eq_true rfl⟩ hl hcs (Nat.le_of_ble_eq_true rfl) rfl dL_law_771 (fun H locs h => ?_)
  refine lv_aload_n kx kb dL_law_774 rfl (lv_at hl 2 rfl) ?_
  refine w_readVi X M h [] [.int (bestF x)] (c_X8_bestStroke l g u v hR.1 x hI W hWa hRW) lk_L_101 hO8 (by omega) rfl rfl ⟨Nat.le_of_ble_eq_true rfl, Nat.le_of_ble_eq_true rfl⟩ hl hcs (Nat.le_of_ble_eq_true rfl) rfl dL_law_775 (fun H locs h => ?_)
  refine lv_icmp_eq (tgt := 1180) kx kb dL_law_778 (by decide) (fun c_1 => ?_) (fun c_1 => (c_1 rfl).elim)
  exact hnext _ _ _ _ (hW0) h (lv_sub hl [0, 1, 2, 3] rfl)
set_option maxRecDepth 20000 in
theorem law_21 {p : Program} (l : Launch) {e : Env} {s : State} {m : MethodId} {below : List Frame} {meth : Method} {c : Code} {b Ls : Nat} {xs : Nat → Int32} (g : gT) {N : Nat} {ad : Nat → Nat} {F : Nat → va_E} {A : Nat → Prop} {H : Heap} {locs : List Loc} {cells slots : Nat} {Q : State → Prop} {ls : Array Slot} {i : Nat} (X : Kx p m meth c s #[.ref b] code 8 RL ret) (M : Mx g N ad A s) (h : Hx g N ad F A s H locs) (hW : PW g N ad F) (hX : va_X b Ls xs s s.heap) (hb : b < s.heap.size) (hbA : ¬ A b) (hl : lv_has ls 8 [(0, .ref b), (1, .ref (ad 0)), (2, .ref (ad 254)), (3, .int (nI i))]) (hi : i + 5 ≤ Ls) (hLs : Ls ≤ 2560) (hcs : cells ≤ room_1.cells ∧ slots ≤ room_1.slots) (hnext : ∀ (F' : Nat → va_E) (H' : Heap) (locs' : List Loc) (ls' : Array Slot), PW g N ad F' → Hx g N ad F' A s H' locs' → lv_has ls' 8 [(0, .ref b), (1, .ref (ad 0)), (2, .ref (ad 254)), (3, .int (nI i))] → W p l e room_1 s m #[.ref b] below meth c H' locs' cells slots Q (F0 m 1180 ls' [])) : W p l e room_1 s m #[.ref b] below meth c H locs cells slots Q (F0 m 783 ls []) := by
  have kx := X.1.1
  have kb := X.1.2.1
  have hW0 := hW
  obtain ⟨x, sv, hs, ct, nx, L, il, ia, q, u, v, hC, hR, hP⟩ := hW
  have hI := hP.1.1
  have hn12 := hI.n
  have htn64 := hI.tn
  have hN0 := hR.1.1
  obtain ⟨hz0, hz1a, hz1, hz2, hz3, hz4⟩ := hI.zz
  obtain ⟨W, hWa, hRW⟩ := hR.2.1
  obtain ⟨A9, hA9⟩ := hR.2.2.2.2.2.1
  have hct := hP.2.2.2.2.2.1
  have hnx := hP.2.2.2.2.2.2.1
  have hL60 := hP.2.2.2.2.2.2.2.1
  have hil60 := hP.2.2.2.2.2.2.2.2.1
  have hRq := hP.2.2.2.2.2.2.2.2.2
  have hv0e := hR.2.2.2.2.2.2.2.2.2.1
  have hv1 := hR.2.2.2.2.2.2.2.2.2.2.1
  have hv2 := hR.2.2.2.2.2.2.2.2.2.2.2.1
  have hv3 := hR.2.2.2.2.2.2.2.2.2.2.2.2
  have hns : ∀ i, i < v 0 → (hs i).1 ≤ 12 ∧ (hs i).2.2.1 ≤ 64 := fun i hi => by have z := hP.2.2.2.2.1 i (by omega); exact ⟨z.1.n, z.1.tn⟩
  obtain ⟨yk, hyk⟩ := hC.2.2.2.2.1 nx hnx
  obtain ⟨yu, hyu, hyu2⟩ := undo_slot hC hct hnx
  obtain ⟨rc0, re0, kd0, nm0, hrd0⟩ := hC.2.2.2.2.2.2.2.2
  have hO7 := hC.1.2
  have hO8 := hR.1.2
  refine lv_aload_n kx kb dL_law_783 rfl (lv_at hl 1 rfl) ?_
  refine lv_aload_n kx kb dL_law_784 rfl (lv_at hl 0 rfl) ?_
  refine lv_iload_n kx kb dL_law_785 rfl (lv_at hl 3 rfl) ?_
  refine lv_iconst (v := nI 1) kx kb dL_law_786 (by decide) ?_
  refine w_addn kx kb dL_law_787 ?_
  refine w_sld X h hX hb hbA (show i + 1 < Ls by omega) hLs dL_law_788 ?_
  refine w_readVi X M h [.int (xs (i + 1))] [] (c_X7_funniest l g x q hC.1 hC.2.1 hn12 htn64 (xs (i + 1)) (fun k hk => hI.lnn hk (by show x.2.2.2.2.2.2.2 3 ≤ 50; omega))) lk_L_102 hO7 (by omega) rfl rfl ⟨Nat.le_of_ble_eq_true rfl, Nat.le_of_ble_eq_true rfl⟩ hl hcs (Nat.le_of_ble_eq_true rfl) rfl dL_law_789 (fun H locs h => ?_)
  refine lv_aload_n kx kb dL_law_792 rfl (lv_at hl 2 rfl) ?_
  refine lv_aload_n kx kb dL_law_793 rfl (lv_at hl 0 rfl) ?_
  refine lv_iload_n kx kb dL_law_794 rfl (lv_at hl 3 rfl) ?_
  refine lv_iconst (v := nI 1) kx kb dL_law_795 (by decide) ?_
  refine w_addn kx kb dL_law_796 ?_
  refine w_sld X h hX hb hbA (show i + 1 < Ls by omega) hLs dL_law_797 ?_
  refine w_readVi X M h [.int (xs (i + 1))] [.int (funniestF x (xs (i + 1)))] (c_X8_funniest l g u v hR.1 x hI W hWa hRW (xs (i + 1))) lk_L_105 hO8 (by omega) rfl rfl ⟨Nat.le_of_ble_eq_true rfl, Nat.le_of_ble_eq_true rfl⟩ hl hcs (Nat.le_of_ble_eq_true rfl) rfl dL_law_798 (fun H locs h => ?_)
  refine lv_icmp_eq (tgt := 1180) kx kb dL_law_801 (by decide) (fun c_1 => ?_) (fun c_1 => (c_1 rfl).elim)
  exact hnext _ _ _ _ (hW0) h (lv_sub hl [0, 1, 2, 3] rfl)
set_option maxRecDepth 20000 in
theorem law_22 {p : Program} (l : Launch) {e : Env} {s : State} {m : MethodId} {below : List Frame} {meth : Method} {c : Code} {b Ls : Nat} {xs : Nat → Int32} (g : gT) {N : Nat} {ad : Nat → Nat} {F : Nat → va_E} {A : Nat → Prop} {H : Heap} {locs : List Loc} {cells slots : Nat} {Q : State → Prop} {ls : Array Slot} {i : Nat} (X : Kx p m meth c s #[.ref b] code 8 RL ret) (M : Mx g N ad A s) (h : Hx g N ad F A s H locs) (hW : PW g N ad F) (hX : va_X b Ls xs s s.heap) (hb : b < s.heap.size) (hbA : ¬ A b) (hl : lv_has ls 8 [(0, .ref b), (1, .ref (ad 0)), (2, .ref (ad 254)), (3, .int (nI i))]) (hi : i + 5 ≤ Ls) (hLs : Ls ≤ 2560) (hcs : cells ≤ room_1.cells ∧ slots ≤ room_1.slots) (hnext : ∀ (F' : Nat → va_E) (H' : Heap) (locs' : List Loc) (ls' : Array Slot), PW g N ad F' → Hx g N ad F' A s H' locs' → lv_has ls' 8 [(0, .ref b), (1, .ref (ad 0)), (2, .ref (ad 254)), (3, .int (nI i))] → W p l e room_1 s m #[.ref b] below meth c H' locs' cells slots Q (F0 m 1180 ls' [])) : W p l e room_1 s m #[.ref b] below meth c H locs cells slots Q (F0 m 806 ls []) := by
  have kx := X.1.1
  have kb := X.1.2.1
  have hW0 := hW
  obtain ⟨x, sv, hs, ct, nx, L, il, ia, q, u, v, hC, hR, hP⟩ := hW
  have hI := hP.1.1
  have hn12 := hI.n
  have htn64 := hI.tn
  have hN0 := hR.1.1
  obtain ⟨hz0, hz1a, hz1, hz2, hz3, hz4⟩ := hI.zz
  obtain ⟨W, hWa, hRW⟩ := hR.2.1
  obtain ⟨A9, hA9⟩ := hR.2.2.2.2.2.1
  have hct := hP.2.2.2.2.2.1
  have hnx := hP.2.2.2.2.2.2.1
  have hL60 := hP.2.2.2.2.2.2.2.1
  have hil60 := hP.2.2.2.2.2.2.2.2.1
  have hRq := hP.2.2.2.2.2.2.2.2.2
  have hv0e := hR.2.2.2.2.2.2.2.2.2.1
  have hv1 := hR.2.2.2.2.2.2.2.2.2.2.1
  have hv2 := hR.2.2.2.2.2.2.2.2.2.2.2.1
  have hv3 := hR.2.2.2.2.2.2.2.2.2.2.2.2
  have hns : ∀ i, i < v 0 → (hs i).1 ≤ 12 ∧ (hs i).2.2.1 ≤ 64 := fun i hi => by have z := hP.2.2.2.2.1 i (by omega); exact ⟨z.1.n, z.1.tn⟩
  obtain ⟨yk, hyk⟩ := hC.2.2.2.2.1 nx hnx
  obtain ⟨yu, hyu, hyu2⟩ := undo_slot hC hct hnx
  obtain ⟨rc0, re0, kd0, nm0, hrd0⟩ := hC.2.2.2.2.2.2.2.2
  have hO7 := hC.1.2
  have hO8 := hR.1.2
  refine lv_aload_n kx kb dL_law_806 rfl (lv_at hl 1 rfl) ?_
  refine lv_aload_n kx kb dL_law_807 rfl (lv_at hl 0 rfl) ?_
  refine lv_iload_n kx kb dL_law_808 rfl (lv_at hl 3 rfl) ?_
  refine lv_iconst (v := nI 1) kx kb dL_law_809 (by decide) ?_
  refine w_addn kx kb dL_law_810 ?_
  refine w_sld X h hX hb hbA (show i + 1 < Ls by omega) hLs dL_law_811 ?_
  refine lv_aload_n kx kb dL_law_812 rfl (lv_at hl 0 rfl) ?_
  refine lv_iload_n kx kb dL_law_813 rfl (lv_at hl 3 rfl) ?_
  refine lv_iconst (v := nI 2) kx kb dL_law_814 (by decide) ?_
  refine w_addn kx kb dL_law_815 ?_
  refine w_sld X h hX hb hbA (show i + 2 < Ls by omega) hLs dL_law_816 ?_
  refine w_readVi X M h [.int (xs (i + 1)), .int (xs (i + 2))] [] (c_X7_inWell l g x q hC.1 hC.2.1 hn12 htn64 (xs (i + 1)) (xs (i + 2))) lk_L_106 hO7 (by omega) rfl rfl ⟨Nat.le_of_ble_eq_true rfl, Nat.le_of_ble_eq_true rfl⟩ hl hcs (Nat.le_of_ble_eq_true rfl) rfl dL_law_817 (fun H locs h => ?_)
  refine lv_aload_n kx kb dL_law_820 rfl (lv_at hl 2 rfl) ?_
  refine lv_aload_n kx kb dL_law_821 rfl (lv_at hl 0 rfl) ?_
  refine lv_iload_n kx kb dL_law_822 rfl (lv_at hl 3 rfl) ?_
  refine lv_iconst (v := nI 1) kx kb dL_law_823 (by decide) ?_
  refine w_addn kx kb dL_law_824 ?_
  refine w_sld X h hX hb hbA (show i + 1 < Ls by omega) hLs dL_law_825 ?_
  refine lv_aload_n kx kb dL_law_826 rfl (lv_at hl 0 rfl) ?_
  refine lv_iload_n kx kb dL_law_827 rfl (lv_at hl 3 rfl) ?_
  refine lv_iconst (v := nI 2) kx kb dL_law_828 (by decide) ?_
  refine w_addn kx kb dL_law_829 ?_
  refine w_sld X h hX hb hbA (show i + 2 < Ls by omega) hLs dL_law_830 ?_
  refine w_readVi X M h [.int (xs (i + 1)), .int (xs (i + 2))] [.int (inWellF x (xs (i + 1)) (xs (i + 2)))] (c_X8_inWell l g u v hR.1 x hI W hWa hRW (xs (i + 1)) (xs (i + 2))) lk_L_109 hO8 (by omega) rfl rfl ⟨Nat.le_of_ble_eq_true rfl, Nat.le_of_ble_eq_true rfl⟩ hl hcs (Nat.le_of_ble_eq_true rfl) rfl dL_law_831 (fun H locs h => ?_)
  refine lv_icmp_eq (tgt := 1180) kx kb dL_law_834 (by decide) (fun c_1 => ?_) (fun c_1 => (c_1 rfl).elim)
  exact hnext _ _ _ _ (hW0) h (lv_sub hl [0, 1, 2, 3] rfl)
set_option maxRecDepth 20000 in
theorem law_23 {p : Program} (l : Launch) {e : Env} {s : State} {m : MethodId} {below : List Frame} {meth : Method} {c : Code} {b Ls : Nat} {xs : Nat → Int32} (g : gT) {N : Nat} {ad : Nat → Nat} {F : Nat → va_E} {A : Nat → Prop} {H : Heap} {locs : List Loc} {cells slots : Nat} {Q : State → Prop} {ls : Array Slot} {i : Nat} (X : Kx p m meth c s #[.ref b] code 8 RL ret) (M : Mx g N ad A s) (h : Hx g N ad F A s H locs) (hW : PW g N ad F) (hX : va_X b Ls xs s s.heap) (hb : b < s.heap.size) (hbA : ¬ A b) (hl : lv_has ls 8 [(0, .ref b), (1, .ref (ad 0)), (2, .ref (ad 254)), (3, .int (nI i))]) (hi : i + 5 ≤ Ls) (hLs : Ls ≤ 2560) (hcs : cells ≤ room_1.cells ∧ slots ≤ room_1.slots) (hnext : ∀ (F' : Nat → va_E) (H' : Heap) (locs' : List Loc) (ls' : Array Slot), PW g N ad F' → Hx g N ad F' A s H' locs' → lv_has ls' 8 [(0, .ref b), (1, .ref (ad 0)), (2, .ref (ad 254)), (3, .int (nI i))] → W p l e room_1 s m #[.ref b] below meth c H' locs' cells slots Q (F0 m 1180 ls' [])) : W p l e room_1 s m #[.ref b] below meth c H locs cells slots Q (F0 m 839 ls []) := by
  have kx := X.1.1
  have kb := X.1.2.1
  have hW0 := hW
  obtain ⟨x, sv, hs, ct, nx, L, il, ia, q, u, v, hC, hR, hP⟩ := hW
  have hI := hP.1.1
  have hn12 := hI.n
  have htn64 := hI.tn
  have hN0 := hR.1.1
  obtain ⟨hz0, hz1a, hz1, hz2, hz3, hz4⟩ := hI.zz
  obtain ⟨W, hWa, hRW⟩ := hR.2.1
  obtain ⟨A9, hA9⟩ := hR.2.2.2.2.2.1
  have hct := hP.2.2.2.2.2.1
  have hnx := hP.2.2.2.2.2.2.1
  have hL60 := hP.2.2.2.2.2.2.2.1
  have hil60 := hP.2.2.2.2.2.2.2.2.1
  have hRq := hP.2.2.2.2.2.2.2.2.2
  have hv0e := hR.2.2.2.2.2.2.2.2.2.1
  have hv1 := hR.2.2.2.2.2.2.2.2.2.2.1
  have hv2 := hR.2.2.2.2.2.2.2.2.2.2.2.1
  have hv3 := hR.2.2.2.2.2.2.2.2.2.2.2.2
  have hns : ∀ i, i < v 0 → (hs i).1 ≤ 12 ∧ (hs i).2.2.1 ≤ 64 := fun i hi => by have z := hP.2.2.2.2.1 i (by omega); exact ⟨z.1.n, z.1.tn⟩
  obtain ⟨yk, hyk⟩ := hC.2.2.2.2.1 nx hnx
  obtain ⟨yu, hyu, hyu2⟩ := undo_slot hC hct hnx
  obtain ⟨rc0, re0, kd0, nm0, hrd0⟩ := hC.2.2.2.2.2.2.2.2
  have hO7 := hC.1.2
  have hO8 := hR.1.2
  refine lv_aload_n kx kb dL_law_839 rfl (lv_at hl 1 rfl) ?_
  refine lv_aload_n kx kb dL_law_840 rfl (lv_at hl 0 rfl) ?_
  refine lv_iload_n kx kb dL_law_841 rfl (lv_at hl 3 rfl) ?_
  refine lv_iconst (v := nI 1) kx kb dL_law_842 (by decide) ?_
  refine w_addn kx kb dL_law_843 ?_
  refine w_sld X h hX hb hbA (show i + 1 < Ls by omega) hLs dL_law_844 ?_
  refine w_readVi X M h [.int (xs (i + 1))] [] (c_X7_fullest l g x q hC.1 hC.2.1 hn12 htn64 (xs (i + 1)) (fun k => by have := hI.bk k; show x.2.2.2.2.2.2.1 k ≤ 1000; omega)) lk_L_110 hO7 (by omega) rfl rfl ⟨Nat.le_of_ble_eq_true rfl, Nat.le_of_ble_eq_true rfl⟩ hl hcs (Nat.le_of_ble_eq_true rfl) rfl dL_law_845 (fun H locs h => ?_)
  refine lv_aload_n kx kb dL_law_848 rfl (lv_at hl 2 rfl) ?_
  refine lv_aload_n kx kb dL_law_849 rfl (lv_at hl 0 rfl) ?_
  refine lv_iload_n kx kb dL_law_850 rfl (lv_at hl 3 rfl) ?_
  refine lv_iconst (v := nI 1) kx kb dL_law_851 (by decide) ?_
  refine w_addn kx kb dL_law_852 ?_
  refine w_sld X h hX hb hbA (show i + 1 < Ls by omega) hLs dL_law_853 ?_
  refine w_readVi X M h [.int (xs (i + 1))] [.int (fullestF x (xs (i + 1)))] (c_X8_fullest l g u v hR.1 x hI W hWa hRW (xs (i + 1))) lk_L_113 hO8 (by omega) rfl rfl ⟨Nat.le_of_ble_eq_true rfl, Nat.le_of_ble_eq_true rfl⟩ hl hcs (Nat.le_of_ble_eq_true rfl) rfl dL_law_854 (fun H locs h => ?_)
  refine lv_icmp_eq (tgt := 1180) kx kb dL_law_857 (by decide) (fun c_1 => ?_) (fun c_1 => (c_1 rfl).elim)
  exact hnext _ _ _ _ (hW0) h (lv_sub hl [0, 1, 2, 3] rfl)
set_option maxRecDepth 20000 in
theorem law_24 {p : Program} (l : Launch) {e : Env} {s : State} {m : MethodId} {below : List Frame} {meth : Method} {c : Code} {b Ls : Nat} {xs : Nat → Int32} (g : gT) {N : Nat} {ad : Nat → Nat} {F : Nat → va_E} {A : Nat → Prop} {H : Heap} {locs : List Loc} {cells slots : Nat} {Q : State → Prop} {ls : Array Slot} {i : Nat} (X : Kx p m meth c s #[.ref b] code 8 RL ret) (M : Mx g N ad A s) (h : Hx g N ad F A s H locs) (hW : PW g N ad F) (hX : va_X b Ls xs s s.heap) (hb : b < s.heap.size) (hbA : ¬ A b) (hl : lv_has ls 8 [(0, .ref b), (1, .ref (ad 0)), (2, .ref (ad 254)), (3, .int (nI i))]) (hi : i + 5 ≤ Ls) (hLs : Ls ≤ 2560) (hcs : cells ≤ room_1.cells ∧ slots ≤ room_1.slots) (hnext : ∀ (F' : Nat → va_E) (H' : Heap) (locs' : List Loc) (ls' : Array Slot), PW g N ad F' → Hx g N ad F' A s H' locs' → lv_has ls' 8 [(0, .ref b), (1, .ref (ad 0)), (2, .ref (ad 254)), (3, .int (nI i))] → W p l e room_1 s m #[.ref b] below meth c H' locs' cells slots Q (F0 m 1180 ls' [])) : W p l e room_1 s m #[.ref b] below meth c H locs cells slots Q (F0 m 862 ls []) := by
  have kx := X.1.1
  have kb := X.1.2.1
  have hW0 := hW
  obtain ⟨x, sv, hs, ct, nx, L, il, ia, q, u, v, hC, hR, hP⟩ := hW
  have hI := hP.1.1
  have hn12 := hI.n
  have htn64 := hI.tn
  have hN0 := hR.1.1
  obtain ⟨hz0, hz1a, hz1, hz2, hz3, hz4⟩ := hI.zz
  obtain ⟨W, hWa, hRW⟩ := hR.2.1
  obtain ⟨A9, hA9⟩ := hR.2.2.2.2.2.1
  have hct := hP.2.2.2.2.2.1
  have hnx := hP.2.2.2.2.2.2.1
  have hL60 := hP.2.2.2.2.2.2.2.1
  have hil60 := hP.2.2.2.2.2.2.2.2.1
  have hRq := hP.2.2.2.2.2.2.2.2.2
  have hv0e := hR.2.2.2.2.2.2.2.2.2.1
  have hv1 := hR.2.2.2.2.2.2.2.2.2.2.1
  have hv2 := hR.2.2.2.2.2.2.2.2.2.2.2.1
  have hv3 := hR.2.2.2.2.2.2.2.2.2.2.2.2
  have hns : ∀ i, i < v 0 → (hs i).1 ≤ 12 ∧ (hs i).2.2.1 ≤ 64 := fun i hi => by have z := hP.2.2.2.2.1 i (by omega); exact ⟨z.1.n, z.1.tn⟩
  obtain ⟨yk, hyk⟩ := hC.2.2.2.2.1 nx hnx
  obtain ⟨yu, hyu, hyu2⟩ := undo_slot hC hct hnx
  obtain ⟨rc0, re0, kd0, nm0, hrd0⟩ := hC.2.2.2.2.2.2.2.2
  have hO7 := hC.1.2
  have hO8 := hR.1.2
  refine lv_aload_n kx kb dL_law_862 rfl (lv_at hl 1 rfl) ?_
  refine w_readVi X M h [] [] (c_X7_isCounted l g x q hC.1 hC.2.1 hn12 htn64 (by show x.2.2.2.2.2.2.2 1 ≤ 1000; omega) (by show x.2.2.2.2.2.2.2 2 ≤ 1000; omega) (by show x.2.2.2.2.2.2.2 3 ≤ 1000; omega) hI.hnn hI.hal (fun k _ _ => strokes_eq hI (nI k)) hI.hsu) lk_L_114 hO7 (by omega) rfl rfl ⟨Nat.le_of_ble_eq_true rfl, Nat.le_of_ble_eq_true rfl⟩ hl hcs (Nat.le_of_ble_eq_true rfl) rfl dL_law_863 (fun H locs h => ?_)
  refine lv_aload_n kx kb dL_law_866 rfl (lv_at hl 2 rfl) ?_
  refine w_readVi X M h [] [.int (bI (nI (x.2.2.2.2.2.2.2 5) = nI (x.1 + x.2.2.1 + x.2.2.2.2.2.2.2 6)))] (c_X8_isCounted l g u v hR.1 x hI W hWa hRW) lk_L_118 hO8 (by omega) rfl rfl ⟨Nat.le_of_ble_eq_true rfl, Nat.le_of_ble_eq_true rfl⟩ hl hcs (Nat.le_of_ble_eq_true rfl) rfl dL_law_867 (fun H locs h => ?_)
  refine lv_icmp_eq (tgt := 1180) kx kb dL_law_870 (by decide) (fun c_1 => ?_) (fun c_1 => (c_1 rfl).elim)
  exact hnext _ _ _ _ (hW0) h (lv_sub hl [0, 1, 2, 3] rfl)
set_option maxRecDepth 20000 in
theorem law_25 {p : Program} (l : Launch) {e : Env} {s : State} {m : MethodId} {below : List Frame} {meth : Method} {c : Code} {b Ls : Nat} {xs : Nat → Int32} (g : gT) {N : Nat} {ad : Nat → Nat} {F : Nat → va_E} {A : Nat → Prop} {H : Heap} {locs : List Loc} {cells slots : Nat} {Q : State → Prop} {ls : Array Slot} {i : Nat} (X : Kx p m meth c s #[.ref b] code 8 RL ret) (M : Mx g N ad A s) (h : Hx g N ad F A s H locs) (hW : PW g N ad F) (hX : va_X b Ls xs s s.heap) (hb : b < s.heap.size) (hbA : ¬ A b) (hl : lv_has ls 8 [(0, .ref b), (1, .ref (ad 0)), (2, .ref (ad 254)), (3, .int (nI i))]) (hi : i + 5 ≤ Ls) (hLs : Ls ≤ 2560) (hcs : cells ≤ room_1.cells ∧ slots ≤ room_1.slots) (hnext : ∀ (F' : Nat → va_E) (H' : Heap) (locs' : List Loc) (ls' : Array Slot), PW g N ad F' → Hx g N ad F' A s H' locs' → lv_has ls' 8 [(0, .ref b), (1, .ref (ad 0)), (2, .ref (ad 254)), (3, .int (nI i))] → W p l e room_1 s m #[.ref b] below meth c H' locs' cells slots Q (F0 m 1180 ls' [])) : W p l e room_1 s m #[.ref b] below meth c H locs cells slots Q (F0 m 875 ls []) := by
  have kx := X.1.1
  have kb := X.1.2.1
  have hW0 := hW
  obtain ⟨x, sv, hs, ct, nx, L, il, ia, q, u, v, hC, hR, hP⟩ := hW
  have hI := hP.1.1
  have hn12 := hI.n
  have htn64 := hI.tn
  have hN0 := hR.1.1
  obtain ⟨hz0, hz1a, hz1, hz2, hz3, hz4⟩ := hI.zz
  obtain ⟨W, hWa, hRW⟩ := hR.2.1
  obtain ⟨A9, hA9⟩ := hR.2.2.2.2.2.1
  have hct := hP.2.2.2.2.2.1
  have hnx := hP.2.2.2.2.2.2.1
  have hL60 := hP.2.2.2.2.2.2.2.1
  have hil60 := hP.2.2.2.2.2.2.2.2.1
  have hRq := hP.2.2.2.2.2.2.2.2.2
  have hv0e := hR.2.2.2.2.2.2.2.2.2.1
  have hv1 := hR.2.2.2.2.2.2.2.2.2.2.1
  have hv2 := hR.2.2.2.2.2.2.2.2.2.2.2.1
  have hv3 := hR.2.2.2.2.2.2.2.2.2.2.2.2
  have hns : ∀ i, i < v 0 → (hs i).1 ≤ 12 ∧ (hs i).2.2.1 ≤ 64 := fun i hi => by have z := hP.2.2.2.2.1 i (by omega); exact ⟨z.1.n, z.1.tn⟩
  obtain ⟨yk, hyk⟩ := hC.2.2.2.2.1 nx hnx
  obtain ⟨yu, hyu, hyu2⟩ := undo_slot hC hct hnx
  obtain ⟨rc0, re0, kd0, nm0, hrd0⟩ := hC.2.2.2.2.2.2.2.2
  have hO7 := hC.1.2
  have hO8 := hR.1.2
  refine lv_aload_n kx kb dL_law_875 rfl (lv_at hl 1 rfl) ?_
  refine w_readVd X M h [] [] (c_X7_meanDepth l g x q hC.1 hC.2.1 hn12 htn64 (fun h0 => mean_nn hI h0)) lk_L_119 hO7 (by omega) rfl rfl ⟨Nat.le_of_ble_eq_true rfl, Nat.le_of_ble_eq_true rfl⟩ hl hcs (Nat.le_of_ble_eq_true rfl) rfl dL_law_876 (fun H locs h => ?_)
  refine lv_dstore (lv' := [(4, .double (meanF x)), (0, .ref b), (1, .ref (ad 0)), (2, .ref (ad 254)), (3, .int (nI i))]) kx kb dL_law_879 hl (by decide) rfl (fun ls hl => ?_)
  refine lv_aload_n kx kb dL_law_881 rfl (lv_at hl 3 rfl) ?_
  refine w_readVd X M h [] [] (c_X8_meanDepth l g u v hR.1 x hI W hWa hRW (fun h0 => mean_nn hI h0)) lk_L_123 hO8 (by omega) rfl rfl ⟨Nat.le_of_ble_eq_true rfl, Nat.le_of_ble_eq_true rfl⟩ hl hcs (Nat.le_of_ble_eq_true rfl) rfl dL_law_882 (fun H locs h => ?_)
  refine lv_dstore (lv' := [(6, .double (meanF x)), (4, .double (meanF x)), (0, .ref b), (1, .ref (ad 0)), (2, .ref (ad 254)), (3, .int (nI i))]) kx kb dL_law_885 hl (by decide) rfl (fun ls hl => ?_)
  refine lv_dload kx kb dL_law_887 (lv_at hl 1 rfl) ?_
  refine lv_dload kx kb dL_law_889 (lv_at hl 0 rfl) ?_
  refine lv_dcmp kx kb dL_law_891 ?_
  refine lv_if_eq (tgt := 913) kx kb dL_law_892 (by decide) (fun c_1 => ?_) (fun c_1 => ?_)
  · refine lv_goto (tgt := 1180) kx kb dL_law_913 (by decide) ?_
    exact hnext _ _ _ _ (hW0) h (lv_sub hl [2, 3, 4, 5] rfl)
  · refine lv_dload kx kb dL_law_895 (lv_at hl 1 rfl) ?_
    refine lv_dload kx kb dL_law_897 (lv_at hl 1 rfl) ?_
    refine lv_dcmp kx kb dL_law_899 ?_
    refine lv_if_eq (tgt := 911) kx kb dL_law_900 (by decide) (fun c_2 => (c_1 c_2).elim) (fun c_2 => ?_)
    refine lv_dload kx kb dL_law_903 (lv_at hl 0 rfl) ?_
    refine lv_dload kx kb dL_law_905 (lv_at hl 0 rfl) ?_
    refine lv_dcmp kx kb dL_law_907 ?_
    refine lv_if_ne (tgt := 913) kx kb dL_law_908 (by decide) (fun c_3 => ?_) (fun c_3 => (c_1 c_3).elim)
    refine lv_goto (tgt := 1180) kx kb dL_law_913 (by decide) ?_
    exact hnext _ _ _ _ (hW0) h (lv_sub hl [2, 3, 4, 5] rfl)
set_option maxRecDepth 20000 in
theorem law_26 {p : Program} (l : Launch) {e : Env} {s : State} {m : MethodId} {below : List Frame} {meth : Method} {c : Code} {b Ls : Nat} {xs : Nat → Int32} (g : gT) {N : Nat} {ad : Nat → Nat} {F : Nat → va_E} {A : Nat → Prop} {H : Heap} {locs : List Loc} {cells slots : Nat} {Q : State → Prop} {ls : Array Slot} {i : Nat} (X : Kx p m meth c s #[.ref b] code 8 RL ret) (M : Mx g N ad A s) (h : Hx g N ad F A s H locs) (hW : PW g N ad F) (hX : va_X b Ls xs s s.heap) (hb : b < s.heap.size) (hbA : ¬ A b) (hl : lv_has ls 8 [(0, .ref b), (1, .ref (ad 0)), (2, .ref (ad 254)), (3, .int (nI i))]) (hi : i + 5 ≤ Ls) (hLs : Ls ≤ 2560) (hcs : cells ≤ room_1.cells ∧ slots ≤ room_1.slots) (hnext : ∀ (F' : Nat → va_E) (H' : Heap) (locs' : List Loc) (ls' : Array Slot), PW g N ad F' → Hx g N ad F' A s H' locs' → lv_has ls' 8 [(0, .ref b), (1, .ref (ad 0)), (2, .ref (ad 254)), (3, .int (nI i))] → W p l e room_1 s m #[.ref b] below meth c H' locs' cells slots Q (F0 m 1180 ls' [])) : W p l e room_1 s m #[.ref b] below meth c H locs cells slots Q (F0 m 916 ls []) := by
  have kx := X.1.1
  have kb := X.1.2.1
  have hW0 := hW
  obtain ⟨x, sv, hs, ct, nx, L, il, ia, q, u, v, hC, hR, hP⟩ := hW
  have hI := hP.1.1
  have hn12 := hI.n
  have htn64 := hI.tn
  have hN0 := hR.1.1
  obtain ⟨hz0, hz1a, hz1, hz2, hz3, hz4⟩ := hI.zz
  obtain ⟨W, hWa, hRW⟩ := hR.2.1
  obtain ⟨A9, hA9⟩ := hR.2.2.2.2.2.1
  have hct := hP.2.2.2.2.2.1
  have hnx := hP.2.2.2.2.2.2.1
  have hL60 := hP.2.2.2.2.2.2.2.1
  have hil60 := hP.2.2.2.2.2.2.2.2.1
  have hRq := hP.2.2.2.2.2.2.2.2.2
  have hv0e := hR.2.2.2.2.2.2.2.2.2.1
  have hv1 := hR.2.2.2.2.2.2.2.2.2.2.1
  have hv2 := hR.2.2.2.2.2.2.2.2.2.2.2.1
  have hv3 := hR.2.2.2.2.2.2.2.2.2.2.2.2
  have hns : ∀ i, i < v 0 → (hs i).1 ≤ 12 ∧ (hs i).2.2.1 ≤ 64 := fun i hi => by have z := hP.2.2.2.2.1 i (by omega); exact ⟨z.1.n, z.1.tn⟩
  obtain ⟨yk, hyk⟩ := hC.2.2.2.2.1 nx hnx
  obtain ⟨yu, hyu, hyu2⟩ := undo_slot hC hct hnx
  obtain ⟨rc0, re0, kd0, nm0, hrd0⟩ := hC.2.2.2.2.2.2.2.2
  have hO7 := hC.1.2
  have hO8 := hR.1.2
  refine lv_aload_n kx kb dL_law_916 rfl (lv_at hl 1 rfl) ?_
  refine w_readVf X M h [] [] (c_X7_knownShare l g x q hC.1 hC.2.1 hn12 htn64 (nnF_n (share_nn hI))) lk_L_124 hO7 (by omega) rfl rfl ⟨Nat.le_of_ble_eq_true rfl, Nat.le_of_ble_eq_true rfl⟩ hl hcs (Nat.le_of_ble_eq_true rfl) rfl dL_law_917 (fun H locs h => ?_)
  refine lv_f2d kx kb dL_law_920 (f2d_n (share_nn hI)) ?_
  refine lv_dstore (lv' := [(4, .double (FP.f2d (shareF x))), (0, .ref b), (1, .ref (ad 0)), (2, .ref (ad 254)), (3, .int (nI i))]) kx kb dL_law_921 hl (by decide) rfl (fun ls hl => ?_)
  refine lv_aload_n kx kb dL_law_923 rfl (lv_at hl 3 rfl) ?_
  refine w_readVf X M h [] [] (c_X8_knownShare l g u v hR.1 x hI W hWa hRW (nnF_n (share_nn hI))) lk_L_127 hO8 (by omega) rfl rfl ⟨Nat.le_of_ble_eq_true rfl, Nat.le_of_ble_eq_true rfl⟩ hl hcs (Nat.le_of_ble_eq_true rfl) rfl dL_law_924 (fun H locs h => ?_)
  refine lv_f2d kx kb dL_law_927 (f2d_n (share_nn hI)) ?_
  refine lv_dstore (lv' := [(6, .double (FP.f2d (shareF x))), (4, .double (FP.f2d (shareF x))), (0, .ref b), (1, .ref (ad 0)), (2, .ref (ad 254)), (3, .int (nI i))]) kx kb dL_law_928 hl (by decide) rfl (fun ls hl => ?_)
  refine lv_dload kx kb dL_law_930 (lv_at hl 1 rfl) ?_
  refine lv_dload kx kb dL_law_932 (lv_at hl 0 rfl) ?_
  refine lv_dcmp kx kb dL_law_934 ?_
  refine lv_if_eq (tgt := 956) kx kb dL_law_935 (by decide) (fun c_1 => ?_) (fun c_1 => ?_)
  · refine lv_goto (tgt := 1180) kx kb dL_law_956 (by decide) ?_
    exact hnext _ _ _ _ (hW0) h (lv_sub hl [2, 3, 4, 5] rfl)
  · refine lv_dload kx kb dL_law_938 (lv_at hl 1 rfl) ?_
    refine lv_dload kx kb dL_law_940 (lv_at hl 1 rfl) ?_
    refine lv_dcmp kx kb dL_law_942 ?_
    refine lv_if_eq (tgt := 954) kx kb dL_law_943 (by decide) (fun c_2 => (c_1 c_2).elim) (fun c_2 => ?_)
    refine lv_dload kx kb dL_law_946 (lv_at hl 0 rfl) ?_
    refine lv_dload kx kb dL_law_948 (lv_at hl 0 rfl) ?_
    refine lv_dcmp kx kb dL_law_950 ?_
    refine lv_if_ne (tgt := 956) kx kb dL_law_951 (by decide) (fun c_3 => ?_) (fun c_3 => (c_1 c_3).elim)
    refine lv_goto (tgt := 1180) kx kb dL_law_956 (by decide) ?_
    exact hnext _ _ _ _ (hW0) h (lv_sub hl [2, 3, 4, 5] rfl)
set_option maxRecDepth 20000 in
theorem law_27 {p : Program} (l : Launch) {e : Env} {s : State} {m : MethodId} {below : List Frame} {meth : Method} {c : Code} {b Ls : Nat} {xs : Nat → Int32} (g : gT) {N : Nat} {ad : Nat → Nat} {F : Nat → va_E} {A : Nat → Prop} {H : Heap} {locs : List Loc} {cells slots : Nat} {Q : State → Prop} {ls : Array Slot} {i : Nat} (X : Kx p m meth c s #[.ref b] code 8 RL ret) (M : Mx g N ad A s) (h : Hx g N ad F A s H locs) (hW : PW g N ad F) (hX : va_X b Ls xs s s.heap) (hb : b < s.heap.size) (hbA : ¬ A b) (hl : lv_has ls 8 [(0, .ref b), (1, .ref (ad 0)), (2, .ref (ad 254)), (3, .int (nI i))]) (hi : i + 5 ≤ Ls) (hLs : Ls ≤ 2560) (hcs : cells ≤ room_1.cells ∧ slots ≤ room_1.slots) (hnext : ∀ (F' : Nat → va_E) (H' : Heap) (locs' : List Loc) (ls' : Array Slot), PW g N ad F' → Hx g N ad F' A s H' locs' → lv_has ls' 8 [(0, .ref b), (1, .ref (ad 0)), (2, .ref (ad 254)), (3, .int (nI i))] → W p l e room_1 s m #[.ref b] below meth c H' locs' cells slots Q (F0 m 1180 ls' [])) : W p l e room_1 s m #[.ref b] below meth c H locs cells slots Q (F0 m 959 ls []) := by
  have kx := X.1.1
  have kb := X.1.2.1
  have hW0 := hW
  obtain ⟨x, sv, hs, ct, nx, L, il, ia, q, u, v, hC, hR, hP⟩ := hW
  have hI := hP.1.1
  have hn12 := hI.n
  have htn64 := hI.tn
  have hN0 := hR.1.1
  obtain ⟨hz0, hz1a, hz1, hz2, hz3, hz4⟩ := hI.zz
  obtain ⟨W, hWa, hRW⟩ := hR.2.1
  obtain ⟨A9, hA9⟩ := hR.2.2.2.2.2.1
  have hct := hP.2.2.2.2.2.1
  have hnx := hP.2.2.2.2.2.2.1
  have hL60 := hP.2.2.2.2.2.2.2.1
  have hil60 := hP.2.2.2.2.2.2.2.2.1
  have hRq := hP.2.2.2.2.2.2.2.2.2
  have hv0e := hR.2.2.2.2.2.2.2.2.2.1
  have hv1 := hR.2.2.2.2.2.2.2.2.2.2.1
  have hv2 := hR.2.2.2.2.2.2.2.2.2.2.2.1
  have hv3 := hR.2.2.2.2.2.2.2.2.2.2.2.2
  have hns : ∀ i, i < v 0 → (hs i).1 ≤ 12 ∧ (hs i).2.2.1 ≤ 64 := fun i hi => by have z := hP.2.2.2.2.1 i (by omega); exact ⟨z.1.n, z.1.tn⟩
  obtain ⟨yk, hyk⟩ := hC.2.2.2.2.1 nx hnx
  obtain ⟨yu, hyu, hyu2⟩ := undo_slot hC hct hnx
  obtain ⟨rc0, re0, kd0, nm0, hrd0⟩ := hC.2.2.2.2.2.2.2.2
  have hO7 := hC.1.2
  have hO8 := hR.1.2
  refine lv_aload_n kx kb dL_law_959 rfl (lv_at hl 1 rfl) ?_
  refine lv_aload_n kx kb dL_law_960 rfl (lv_at hl 0 rfl) ?_
  refine lv_iload_n kx kb dL_law_961 rfl (lv_at hl 3 rfl) ?_
  refine lv_iconst (v := nI 1) kx kb dL_law_962 (by decide) ?_
  refine w_addn kx kb dL_law_963 ?_
  refine w_sld X h hX hb hbA (show i + 1 < Ls by omega) hLs dL_law_964 ?_
  refine w_readVi X M h [.int (xs (i + 1))] [] (c_X7_account l g x q hC.1 hC.2.1 hn12 htn64 nx ct hC.2.2.2.1 il ia hC.2.2.2.2.2.2.1 (xs (i + 1))) lk_L_128 hO7 (by omega) rfl rfl ⟨Nat.le_of_ble_eq_true rfl, Nat.le_of_ble_eq_true rfl⟩ hl hcs (Nat.le_of_ble_eq_true rfl) rfl dL_law_965 (fun H locs h => ?_)
  refine lv_aload_n kx kb dL_law_968 rfl (lv_at hl 2 rfl) ?_
  refine lv_aload_n kx kb dL_law_969 rfl (lv_at hl 0 rfl) ?_
  refine lv_iload_n kx kb dL_law_970 rfl (lv_at hl 3 rfl) ?_
  refine lv_iconst (v := nI 1) kx kb dL_law_971 (by decide) ?_
  refine w_addn kx kb dL_law_972 ?_
  refine w_sld X h hX hb hbA (show i + 1 < Ls by omega) hLs dL_law_973 ?_
  refine w_readVi X M h [.int (xs (i + 1))] [.int (accountF x il ct (xs (i + 1)))] (c_X8_account l g u v hR.1 x hI W hWa hRW (xs (i + 1))) lk_L_131 hO8 (by omega) rfl rfl ⟨Nat.le_of_ble_eq_true rfl, Nat.le_of_ble_eq_true rfl⟩ hl hcs (Nat.le_of_ble_eq_true rfl) rfl dL_law_974 (fun H locs h => ?_)
  refine w_top (y := accountF x il ct (xs (i + 1))) (by rw [hv3, hv0e]) ?_
  refine lv_icmp_eq (tgt := 1180) kx kb dL_law_977 (by decide) (fun c_1 => ?_) (fun c_1 => (c_1 rfl).elim)
  exact hnext _ _ _ _ (hW0) h (lv_sub hl [0, 1, 2, 3] rfl)
set_option maxRecDepth 20000 in
theorem law_28 {p : Program} (l : Launch) {e : Env} {s : State} {m : MethodId} {below : List Frame} {meth : Method} {c : Code} {b Ls : Nat} {xs : Nat → Int32} (g : gT) {N : Nat} {ad : Nat → Nat} {F : Nat → va_E} {A : Nat → Prop} {H : Heap} {locs : List Loc} {cells slots : Nat} {Q : State → Prop} {ls : Array Slot} {i : Nat} (X : Kx p m meth c s #[.ref b] code 8 RL ret) (M : Mx g N ad A s) (h : Hx g N ad F A s H locs) (hW : PW g N ad F) (hX : va_X b Ls xs s s.heap) (hb : b < s.heap.size) (hbA : ¬ A b) (hl : lv_has ls 8 [(0, .ref b), (1, .ref (ad 0)), (2, .ref (ad 254)), (3, .int (nI i))]) (hi : i + 5 ≤ Ls) (hLs : Ls ≤ 2560) (hcs : cells ≤ room_1.cells ∧ slots ≤ room_1.slots) (hnext : ∀ (F' : Nat → va_E) (H' : Heap) (locs' : List Loc) (ls' : Array Slot), PW g N ad F' → Hx g N ad F' A s H' locs' → lv_has ls' 8 [(0, .ref b), (1, .ref (ad 0)), (2, .ref (ad 254)), (3, .int (nI i))] → W p l e room_1 s m #[.ref b] below meth c H' locs' cells slots Q (F0 m 1180 ls' [])) : W p l e room_1 s m #[.ref b] below meth c H locs cells slots Q (F0 m 982 ls []) := by
  have kx := X.1.1
  have kb := X.1.2.1
  have hW0 := hW
  obtain ⟨x, sv, hs, ct, nx, L, il, ia, q, u, v, hC, hR, hP⟩ := hW
  have hI := hP.1.1
  have hn12 := hI.n
  have htn64 := hI.tn
  have hN0 := hR.1.1
  obtain ⟨hz0, hz1a, hz1, hz2, hz3, hz4⟩ := hI.zz
  obtain ⟨W, hWa, hRW⟩ := hR.2.1
  obtain ⟨A9, hA9⟩ := hR.2.2.2.2.2.1
  have hct := hP.2.2.2.2.2.1
  have hnx := hP.2.2.2.2.2.2.1
  have hL60 := hP.2.2.2.2.2.2.2.1
  have hil60 := hP.2.2.2.2.2.2.2.2.1
  have hRq := hP.2.2.2.2.2.2.2.2.2
  have hv0e := hR.2.2.2.2.2.2.2.2.2.1
  have hv1 := hR.2.2.2.2.2.2.2.2.2.2.1
  have hv2 := hR.2.2.2.2.2.2.2.2.2.2.2.1
  have hv3 := hR.2.2.2.2.2.2.2.2.2.2.2.2
  have hns : ∀ i, i < v 0 → (hs i).1 ≤ 12 ∧ (hs i).2.2.1 ≤ 64 := fun i hi => by have z := hP.2.2.2.2.1 i (by omega); exact ⟨z.1.n, z.1.tn⟩
  obtain ⟨yk, hyk⟩ := hC.2.2.2.2.1 nx hnx
  obtain ⟨yu, hyu, hyu2⟩ := undo_slot hC hct hnx
  obtain ⟨rc0, re0, kd0, nm0, hrd0⟩ := hC.2.2.2.2.2.2.2.2
  have hO7 := hC.1.2
  have hO8 := hR.1.2
  refine lv_aload_n kx kb dL_law_982 rfl (lv_at hl 1 rfl) ?_
  refine lv_aload_n kx kb dL_law_983 rfl (lv_at hl 0 rfl) ?_
  refine lv_iload_n kx kb dL_law_984 rfl (lv_at hl 3 rfl) ?_
  refine lv_iconst (v := nI 1) kx kb dL_law_985 (by decide) ?_
  refine w_addn kx kb dL_law_986 ?_
  refine w_sld X h hX hb hbA (show i + 1 < Ls by omega) hLs dL_law_987 ?_
  refine w_callVi X M h [.int (xs (i + 1))] [] (c_X7_write l g x q hC.1 hC.2.1 hn12 htn64 L hC.2.2.2.2.2.2.2.1 (xs (i + 1)) (fun k hk => hI.w6 k hk) (fun k => by have := hI.bk k; show x.2.2.2.2.2.2.1 k < 10; omega) hI.hjk) lk_L_132 hO7 (by omega) rfl rfl ⟨Nat.le_of_ble_eq_true rfl, Nat.le_of_ble_eq_true rfl⟩ hl hcs (Nat.le_of_ble_eq_true rfl) rfl dL_law_988 (fun r_F1 F1 H locs hp_F1 h => ?_)
  have hf7 := hp_F1.2.2
  have hR1 := hR.fr (fun j hj => hf7 j (by omega))
  obtain ⟨W1, hW1, hRW1⟩ := hR1.2.1
  have hO8 := hR1.1.2
  refine w_top (y := if inW (xs (i + 1)) (nI 0) (nI 3) then nI (wrF x (cl (xs (i + 1))) L).1 else -1) (hp_F1.1) ?_
  refine lv_aload_n kx kb dL_law_991 rfl (lv_at hl 2 rfl) ?_
  refine lv_aload_n kx kb dL_law_992 rfl (lv_at hl 0 rfl) ?_
  refine lv_iload_n kx kb dL_law_993 rfl (lv_at hl 3 rfl) ?_
  refine lv_iconst (v := nI 1) kx kb dL_law_994 (by decide) ?_
  refine w_addn kx kb dL_law_995 ?_
  refine w_sld X h hX hb hbA (show i + 1 < Ls by omega) hLs dL_law_996 ?_
  refine w_callVi X M h [.int (xs (i + 1))] [.int (if inW (xs (i + 1)) (nI 0) (nI 3) then nI (wrF x (cl (xs (i + 1))) L).1 else -1)] (c_X8_write l g u v hR1.1 x hI W1 hW1 hRW1 L.2 hR1.2.2.2.2.2.2.1 (xs (i + 1))) lk_L_135 hO8 (by omega) rfl rfl ⟨Nat.le_of_ble_eq_true rfl, Nat.le_of_ble_eq_true rfl⟩ hl hcs (Nat.le_of_ble_eq_true rfl) rfl dL_law_997 (fun r_F2 F2 H locs hp_F2 h => ?_)
  have hboth : r_F2 = (if inW (xs (i + 1)) (nI 0) (nI 3) then nI (wrF x (cl (xs (i + 1))) L).1 else -1) ∧ PW g N ad F2 := by
    by_cases cw : inW (xs (i + 1)) (nI 0) (nI 3)
    · obtain ⟨a1, a2, a3⟩ := hp_F1
      rw [if_pos cw, if_pos cw] at a2
      obtain ⟨b1, b2, b3⟩ := hp_F2.1 cw
      obtain ⟨k, hk0, hk3, ek⟩ := inW_of (by decide) (by decide) cw
      refine ⟨by rw [if_pos cw]; exact b1, pw_line hC hR hP (L' := wrF x (cl (xs (i + 1))) L) (by rw [ek, cl_n (by omega)]; exact wrF_le hI (by omega)) a2 a3 b2 b3 hp_F2.2.2 rfl rfl rfl rfl⟩
    · obtain ⟨a1, a2, a3⟩ := hp_F1
      rw [if_neg cw, if_neg cw] at a2
      obtain ⟨b1, b2, b3⟩ := hp_F2.2.1 cw
      exact ⟨by rw [if_neg cw]; exact b1, pw_line hC hR hP (L' := L) hL60 a2 a3 b2 b3 hp_F2.2.2 rfl rfl hv2 rfl⟩
  refine w_top (y := if inW (xs (i + 1)) (nI 0) (nI 3) then nI (wrF x (cl (xs (i + 1))) L).1 else -1) (hboth.1) ?_
  refine lv_icmp_eq (tgt := 1180) kx kb dL_law_1000 (by decide) (fun c_3 => ?_) (fun c_3 => (c_3 rfl).elim)
  exact hnext _ _ _ _ (hboth.2) h (lv_sub hl [0, 1, 2, 3] rfl)
set_option maxRecDepth 20000 in
theorem law_29 {p : Program} (l : Launch) {e : Env} {s : State} {m : MethodId} {below : List Frame} {meth : Method} {c : Code} {b Ls : Nat} {xs : Nat → Int32} (g : gT) {N : Nat} {ad : Nat → Nat} {F : Nat → va_E} {A : Nat → Prop} {H : Heap} {locs : List Loc} {cells slots : Nat} {Q : State → Prop} {ls : Array Slot} {i : Nat} (X : Kx p m meth c s #[.ref b] code 8 RL ret) (M : Mx g N ad A s) (h : Hx g N ad F A s H locs) (hW : PW g N ad F) (hX : va_X b Ls xs s s.heap) (hb : b < s.heap.size) (hbA : ¬ A b) (hl : lv_has ls 8 [(0, .ref b), (1, .ref (ad 0)), (2, .ref (ad 254)), (3, .int (nI i))]) (hi : i + 5 ≤ Ls) (hLs : Ls ≤ 2560) (hcs : cells ≤ room_1.cells ∧ slots ≤ room_1.slots) (hnext : ∀ (F' : Nat → va_E) (H' : Heap) (locs' : List Loc) (ls' : Array Slot), PW g N ad F' → Hx g N ad F' A s H' locs' → lv_has ls' 8 [(0, .ref b), (1, .ref (ad 0)), (2, .ref (ad 254)), (3, .int (nI i))] → W p l e room_1 s m #[.ref b] below meth c H' locs' cells slots Q (F0 m 1180 ls' [])) : W p l e room_1 s m #[.ref b] below meth c H locs cells slots Q (F0 m 1005 ls []) := by
  have kx := X.1.1
  have kb := X.1.2.1
  have hW0 := hW
  obtain ⟨x, sv, hs, ct, nx, L, il, ia, q, u, v, hC, hR, hP⟩ := hW
  have hI := hP.1.1
  have hn12 := hI.n
  have htn64 := hI.tn
  have hN0 := hR.1.1
  obtain ⟨hz0, hz1a, hz1, hz2, hz3, hz4⟩ := hI.zz
  obtain ⟨W, hWa, hRW⟩ := hR.2.1
  obtain ⟨A9, hA9⟩ := hR.2.2.2.2.2.1
  have hct := hP.2.2.2.2.2.1
  have hnx := hP.2.2.2.2.2.2.1
  have hL60 := hP.2.2.2.2.2.2.2.1
  have hil60 := hP.2.2.2.2.2.2.2.2.1
  have hRq := hP.2.2.2.2.2.2.2.2.2
  have hv0e := hR.2.2.2.2.2.2.2.2.2.1
  have hv1 := hR.2.2.2.2.2.2.2.2.2.2.1
  have hv2 := hR.2.2.2.2.2.2.2.2.2.2.2.1
  have hv3 := hR.2.2.2.2.2.2.2.2.2.2.2.2
  have hns : ∀ i, i < v 0 → (hs i).1 ≤ 12 ∧ (hs i).2.2.1 ≤ 64 := fun i hi => by have z := hP.2.2.2.2.1 i (by omega); exact ⟨z.1.n, z.1.tn⟩
  obtain ⟨yk, hyk⟩ := hC.2.2.2.2.1 nx hnx
  obtain ⟨yu, hyu, hyu2⟩ := undo_slot hC hct hnx
  obtain ⟨rc0, re0, kd0, nm0, hrd0⟩ := hC.2.2.2.2.2.2.2.2
  have hO7 := hC.1.2
  have hO8 := hR.1.2
  refine lv_aload_n kx kb dL_law_1005 rfl (lv_at hl 1 rfl) ?_
  refine w_callVi X M h [] [] (c_X7_writePump l g x q hC.1 hC.2.1 hn12 htn64 L hC.2.2.2.2.2.2.2.1 (fun k hk => by show x.2.2.2.2.2.2.2 k < 100; rcases (show k = 0 ∨ k = 1 ∨ k = 2 ∨ k = 3 ∨ k = 4 by omega) with rfl | rfl | rfl | rfl | rfl <;> omega)) lk_L_136 hO7 (by omega) rfl rfl ⟨Nat.le_of_ble_eq_true rfl, Nat.le_of_ble_eq_true rfl⟩ hl hcs (Nat.le_of_ble_eq_true rfl) rfl dL_law_1006 (fun r_F1 F1 H locs hp_F1 h => ?_)
  have hf7 := hp_F1.2.2
  have hR1 := hR.fr (fun j hj => hf7 j (by omega))
  obtain ⟨W1, hW1, hRW1⟩ := hR1.2.1
  have hO8 := hR1.1.2
  refine w_top (y := nI (wpF L x.2.2.2.2.2.2.2).1) (hp_F1.1) ?_
  refine lv_aload_n kx kb dL_law_1009 rfl (lv_at hl 2 rfl) ?_
  refine w_callVi X M h [] [.int (nI (wpF L x.2.2.2.2.2.2.2).1)] (c_X8_writePump l g u v hR1.1 x hI W1 hW1 hRW1 L.2 hR1.2.2.2.2.2.2.1) lk_L_139 hO8 (by omega) rfl rfl ⟨Nat.le_of_ble_eq_true rfl, Nat.le_of_ble_eq_true rfl⟩ hl hcs (Nat.le_of_ble_eq_true rfl) rfl dL_law_1010 (fun r_F2 F2 H locs hp_F2 h => ?_)
  refine w_top (y := nI (wpF L x.2.2.2.2.2.2.2).1) (hp_F2.1) ?_
  refine lv_icmp_eq (tgt := 1180) kx kb dL_law_1013 (by decide) (fun c_3 => ?_) (fun c_3 => (c_3 rfl).elim)
  exact hnext _ _ _ _ (pw_line hC hR hP (L' := wpF L x.2.2.2.2.2.2.2) (wpF_le _) hp_F1.2.1 hp_F1.2.2 hp_F2.2.1 hp_F2.2.2.1 hp_F2.2.2.2 rfl rfl rfl rfl) h (lv_sub hl [0, 1, 2, 3] rfl)
set_option maxRecDepth 20000 in
theorem law_30 {p : Program} (l : Launch) {e : Env} {s : State} {m : MethodId} {below : List Frame} {meth : Method} {c : Code} {b Ls : Nat} {xs : Nat → Int32} (g : gT) {N : Nat} {ad : Nat → Nat} {F : Nat → va_E} {A : Nat → Prop} {H : Heap} {locs : List Loc} {cells slots : Nat} {Q : State → Prop} {ls : Array Slot} {i : Nat} (X : Kx p m meth c s #[.ref b] code 8 RL ret) (M : Mx g N ad A s) (h : Hx g N ad F A s H locs) (hW : PW g N ad F) (hX : va_X b Ls xs s s.heap) (hb : b < s.heap.size) (hbA : ¬ A b) (hl : lv_has ls 8 [(0, .ref b), (1, .ref (ad 0)), (2, .ref (ad 254)), (3, .int (nI i))]) (hi : i + 5 ≤ Ls) (hLs : Ls ≤ 2560) (hcs : cells ≤ room_1.cells ∧ slots ≤ room_1.slots) (hnext : ∀ (F' : Nat → va_E) (H' : Heap) (locs' : List Loc) (ls' : Array Slot), PW g N ad F' → Hx g N ad F' A s H' locs' → lv_has ls' 8 [(0, .ref b), (1, .ref (ad 0)), (2, .ref (ad 254)), (3, .int (nI i))] → W p l e room_1 s m #[.ref b] below meth c H' locs' cells slots Q (F0 m 1180 ls' [])) : W p l e room_1 s m #[.ref b] below meth c H locs cells slots Q (F0 m 1018 ls []) := by
  have kx := X.1.1
  have kb := X.1.2.1
  have hW0 := hW
  obtain ⟨x, sv, hs, ct, nx, L, il, ia, q, u, v, hC, hR, hP⟩ := hW
  have hI := hP.1.1
  have hn12 := hI.n
  have htn64 := hI.tn
  have hN0 := hR.1.1
  obtain ⟨hz0, hz1a, hz1, hz2, hz3, hz4⟩ := hI.zz
  obtain ⟨W, hWa, hRW⟩ := hR.2.1
  obtain ⟨A9, hA9⟩ := hR.2.2.2.2.2.1
  have hct := hP.2.2.2.2.2.1
  have hnx := hP.2.2.2.2.2.2.1
  have hL60 := hP.2.2.2.2.2.2.2.1
  have hil60 := hP.2.2.2.2.2.2.2.2.1
  have hRq := hP.2.2.2.2.2.2.2.2.2
  have hv0e := hR.2.2.2.2.2.2.2.2.2.1
  have hv1 := hR.2.2.2.2.2.2.2.2.2.2.1
  have hv2 := hR.2.2.2.2.2.2.2.2.2.2.2.1
  have hv3 := hR.2.2.2.2.2.2.2.2.2.2.2.2
  have hns : ∀ i, i < v 0 → (hs i).1 ≤ 12 ∧ (hs i).2.2.1 ≤ 64 := fun i hi => by have z := hP.2.2.2.2.1 i (by omega); exact ⟨z.1.n, z.1.tn⟩
  obtain ⟨yk, hyk⟩ := hC.2.2.2.2.1 nx hnx
  obtain ⟨yu, hyu, hyu2⟩ := undo_slot hC hct hnx
  obtain ⟨rc0, re0, kd0, nm0, hrd0⟩ := hC.2.2.2.2.2.2.2.2
  have hO7 := hC.1.2
  have hO8 := hR.1.2
  refine lv_aload_n kx kb dL_law_1018 rfl (lv_at hl 1 rfl) ?_
  refine lv_aload_n kx kb dL_law_1019 rfl (lv_at hl 0 rfl) ?_
  refine lv_iload_n kx kb dL_law_1020 rfl (lv_at hl 3 rfl) ?_
  refine lv_iconst (v := nI 1) kx kb dL_law_1021 (by decide) ?_
  refine w_addn kx kb dL_law_1022 ?_
  refine w_sld X h hX hb hbA (show i + 1 < Ls by omega) hLs dL_law_1023 ?_
  refine w_readVi X M h [.int (xs (i + 1))] [] (c_X7_written l g q hC.1 L.1 L.2 hC.2.2.2.2.2.2.2.1 hL60 (xs (i + 1))) lk_L_140 hO7 (by omega) rfl rfl ⟨Nat.le_of_ble_eq_true rfl, Nat.le_of_ble_eq_true rfl⟩ hl hcs (Nat.le_of_ble_eq_true rfl) rfl dL_law_1024 (fun H locs h => ?_)
  refine lv_aload_n kx kb dL_law_1027 rfl (lv_at hl 2 rfl) ?_
  refine lv_aload_n kx kb dL_law_1028 rfl (lv_at hl 0 rfl) ?_
  refine lv_iload_n kx kb dL_law_1029 rfl (lv_at hl 3 rfl) ?_
  refine lv_iconst (v := nI 1) kx kb dL_law_1030 (by decide) ?_
  refine w_addn kx kb dL_law_1031 ?_
  refine w_sld X h hX hb hbA (show i + 1 < Ls by omega) hLs dL_law_1032 ?_
  refine w_readVi X M h [.int (xs (i + 1))] [.int (sgAt L.1 L.2 (xs (i + 1)))] (c_X8_written l g u v hR.1 L.2 hR.2.2.2.2.2.2.1 (by omega) (xs (i + 1))) lk_L_143 hO8 (by omega) rfl rfl ⟨Nat.le_of_ble_eq_true rfl, Nat.le_of_ble_eq_true rfl⟩ hl hcs (Nat.le_of_ble_eq_true rfl) rfl dL_law_1033 (fun H locs h => ?_)
  refine w_top (y := sgAt L.1 L.2 (xs (i + 1))) (by rw [hv2]) ?_
  refine lv_icmp_eq (tgt := 1180) kx kb dL_law_1036 (by decide) (fun c_1 => ?_) (fun c_1 => (c_1 rfl).elim)
  exact hnext _ _ _ _ (hW0) h (lv_sub hl [0, 1, 2, 3] rfl)
set_option maxRecDepth 20000 in
theorem law_31 {p : Program} (l : Launch) {e : Env} {s : State} {m : MethodId} {below : List Frame} {meth : Method} {c : Code} {b Ls : Nat} {xs : Nat → Int32} (g : gT) {N : Nat} {ad : Nat → Nat} {F : Nat → va_E} {A : Nat → Prop} {H : Heap} {locs : List Loc} {cells slots : Nat} {Q : State → Prop} {ls : Array Slot} {i : Nat} (X : Kx p m meth c s #[.ref b] code 8 RL ret) (M : Mx g N ad A s) (h : Hx g N ad F A s H locs) (hW : PW g N ad F) (hX : va_X b Ls xs s s.heap) (hb : b < s.heap.size) (hbA : ¬ A b) (hl : lv_has ls 8 [(0, .ref b), (1, .ref (ad 0)), (2, .ref (ad 254)), (3, .int (nI i))]) (hi : i + 5 ≤ Ls) (hLs : Ls ≤ 2560) (hcs : cells ≤ room_1.cells ∧ slots ≤ room_1.slots) (hnext : ∀ (F' : Nat → va_E) (H' : Heap) (locs' : List Loc) (ls' : Array Slot), PW g N ad F' → Hx g N ad F' A s H' locs' → lv_has ls' 8 [(0, .ref b), (1, .ref (ad 0)), (2, .ref (ad 254)), (3, .int (nI i))] → W p l e room_1 s m #[.ref b] below meth c H' locs' cells slots Q (F0 m 1180 ls' [])) : W p l e room_1 s m #[.ref b] below meth c H locs cells slots Q (F0 m 1041 ls []) := by
  have kx := X.1.1
  have kb := X.1.2.1
  have hW0 := hW
  obtain ⟨x, sv, hs, ct, nx, L, il, ia, q, u, v, hC, hR, hP⟩ := hW
  have hI := hP.1.1
  have hn12 := hI.n
  have htn64 := hI.tn
  have hN0 := hR.1.1
  obtain ⟨hz0, hz1a, hz1, hz2, hz3, hz4⟩ := hI.zz
  obtain ⟨W, hWa, hRW⟩ := hR.2.1
  obtain ⟨A9, hA9⟩ := hR.2.2.2.2.2.1
  have hct := hP.2.2.2.2.2.1
  have hnx := hP.2.2.2.2.2.2.1
  have hL60 := hP.2.2.2.2.2.2.2.1
  have hil60 := hP.2.2.2.2.2.2.2.2.1
  have hRq := hP.2.2.2.2.2.2.2.2.2
  have hv0e := hR.2.2.2.2.2.2.2.2.2.1
  have hv1 := hR.2.2.2.2.2.2.2.2.2.2.1
  have hv2 := hR.2.2.2.2.2.2.2.2.2.2.2.1
  have hv3 := hR.2.2.2.2.2.2.2.2.2.2.2.2
  have hns : ∀ i, i < v 0 → (hs i).1 ≤ 12 ∧ (hs i).2.2.1 ≤ 64 := fun i hi => by have z := hP.2.2.2.2.1 i (by omega); exact ⟨z.1.n, z.1.tn⟩
  obtain ⟨yk, hyk⟩ := hC.2.2.2.2.1 nx hnx
  obtain ⟨yu, hyu, hyu2⟩ := undo_slot hC hct hnx
  obtain ⟨rc0, re0, kd0, nm0, hrd0⟩ := hC.2.2.2.2.2.2.2.2
  obtain ⟨ck, hck, hce⟩ := i2c_n (xs (i + 1))
  have hO7 := hC.1.2
  have hO8 := hR.1.2
  refine lv_aload_n kx kb dL_law_1041 rfl (lv_at hl 1 rfl) ?_
  refine lv_aload_n kx kb dL_law_1042 rfl (lv_at hl 0 rfl) ?_
  refine lv_iload_n kx kb dL_law_1043 rfl (lv_at hl 3 rfl) ?_
  refine lv_iconst (v := nI 1) kx kb dL_law_1044 (by decide) ?_
  refine w_addn kx kb dL_law_1045 ?_
  refine w_sld X h hX hb hbA (show i + 1 < Ls by omega) hLs dL_law_1046 ?_
  refine lv_i2c (v := nI ck) kx kb dL_law_1047 (hce) ?_
  refine w_callVi X M h [.int (nI ck)] [] (c_X7_append l g q hC.1 il ia hC.2.2.2.2.2.2.1 hil60 (nI ck) (nar_n hck)) lk_L_144 hO7 (by omega) rfl rfl ⟨Nat.le_of_ble_eq_true rfl, Nat.le_of_ble_eq_true rfl⟩ hl hcs (Nat.le_of_ble_eq_true rfl) rfl dL_law_1048 (fun r_F1 F1 H locs hp_F1 h => ?_)
  have hf7 := hp_F1.2.2
  have hR1 := hR.fr (fun j hj => hf7 j (by omega))
  have hO8 := hR1.1.2
  refine w_top (y := (if inW (nI ck) (nI 32) (nI 126) then (if il < 60 then nI (il + 1) else -4) else -2)) (hp_F1.1) ?_
  refine lv_aload_n kx kb dL_law_1051 rfl (lv_at hl 2 rfl) ?_
  refine lv_aload_n kx kb dL_law_1052 rfl (lv_at hl 0 rfl) ?_
  refine lv_iload_n kx kb dL_law_1053 rfl (lv_at hl 3 rfl) ?_
  refine lv_iconst (v := nI 1) kx kb dL_law_1054 (by decide) ?_
  refine w_addn kx kb dL_law_1055 ?_
  refine w_sld X h hX hb hbA (show i + 1 < Ls by omega) hLs dL_law_1056 ?_
  refine lv_i2c (v := nI ck) kx kb dL_law_1057 (hce) ?_
  refine w_callVi X M h [.int (nI ck)] [.int (if inW (nI ck) (nI 32) (nI 126) then (if il < 60 then nI (il + 1) else -4) else -2)] (c_X8_append l g u v hR1.1 ia hR1.2.2.2.2.2.2.2.1 (by omega) (nI ck) (nar_n hck)) lk_L_148 hO8 (by omega) rfl rfl ⟨Nat.le_of_ble_eq_true rfl, Nat.le_of_ble_eq_true rfl⟩ hl hcs (Nat.le_of_ble_eq_true rfl) rfl dL_law_1058 (fun r_F2 F2 H locs hp_F2 h => ?_)
  have hp8 := hp_F2
  rw [hv3] at hp8
  refine w_top (y := (if inW (nI ck) (nI 32) (nI 126) then (if il < 60 then nI (il + 1) else -4) else -2)) (hp8.1) ?_
  refine lv_icmp_eq (tgt := 1180) kx kb dL_law_1061 (by decide) (fun c_3 => ?_) (fun c_3 => (c_3 rfl).elim)
  exact hnext _ _ _ _ (pw_input hC hR hP (by split; (split <;> omega); omega) hp_F1.2.1 hp_F1.2.2 hp8.2.1 hp8.2.2.1 hp8.2.2.2) h (lv_sub hl [0, 1, 2, 3] rfl)
set_option maxRecDepth 20000 in
theorem law_32 {p : Program} (l : Launch) {e : Env} {s : State} {m : MethodId} {below : List Frame} {meth : Method} {c : Code} {b Ls : Nat} {xs : Nat → Int32} (g : gT) {N : Nat} {ad : Nat → Nat} {F : Nat → va_E} {A : Nat → Prop} {H : Heap} {locs : List Loc} {cells slots : Nat} {Q : State → Prop} {ls : Array Slot} {i : Nat} (X : Kx p m meth c s #[.ref b] code 8 RL ret) (M : Mx g N ad A s) (h : Hx g N ad F A s H locs) (hW : PW g N ad F) (hX : va_X b Ls xs s s.heap) (hb : b < s.heap.size) (hbA : ¬ A b) (hl : lv_has ls 8 [(0, .ref b), (1, .ref (ad 0)), (2, .ref (ad 254)), (3, .int (nI i))]) (hi : i + 5 ≤ Ls) (hLs : Ls ≤ 2560) (hcs : cells ≤ room_1.cells ∧ slots ≤ room_1.slots) (hnext : ∀ (F' : Nat → va_E) (H' : Heap) (locs' : List Loc) (ls' : Array Slot), PW g N ad F' → Hx g N ad F' A s H' locs' → lv_has ls' 8 [(0, .ref b), (1, .ref (ad 0)), (2, .ref (ad 254)), (3, .int (nI i))] → W p l e room_1 s m #[.ref b] below meth c H' locs' cells slots Q (F0 m 1180 ls' [])) : W p l e room_1 s m #[.ref b] below meth c H locs cells slots Q (F0 m 1066 ls []) := by
  have kx := X.1.1
  have kb := X.1.2.1
  have hW0 := hW
  obtain ⟨x, sv, hs, ct, nx, L, il, ia, q, u, v, hC, hR, hP⟩ := hW
  have hI := hP.1.1
  have hn12 := hI.n
  have htn64 := hI.tn
  have hN0 := hR.1.1
  obtain ⟨hz0, hz1a, hz1, hz2, hz3, hz4⟩ := hI.zz
  obtain ⟨W, hWa, hRW⟩ := hR.2.1
  obtain ⟨A9, hA9⟩ := hR.2.2.2.2.2.1
  have hct := hP.2.2.2.2.2.1
  have hnx := hP.2.2.2.2.2.2.1
  have hL60 := hP.2.2.2.2.2.2.2.1
  have hil60 := hP.2.2.2.2.2.2.2.2.1
  have hRq := hP.2.2.2.2.2.2.2.2.2
  have hv0e := hR.2.2.2.2.2.2.2.2.2.1
  have hv1 := hR.2.2.2.2.2.2.2.2.2.2.1
  have hv2 := hR.2.2.2.2.2.2.2.2.2.2.2.1
  have hv3 := hR.2.2.2.2.2.2.2.2.2.2.2.2
  have hns : ∀ i, i < v 0 → (hs i).1 ≤ 12 ∧ (hs i).2.2.1 ≤ 64 := fun i hi => by have z := hP.2.2.2.2.1 i (by omega); exact ⟨z.1.n, z.1.tn⟩
  obtain ⟨yk, hyk⟩ := hC.2.2.2.2.1 nx hnx
  obtain ⟨yu, hyu, hyu2⟩ := undo_slot hC hct hnx
  obtain ⟨rc0, re0, kd0, nm0, hrd0⟩ := hC.2.2.2.2.2.2.2.2
  have hO7 := hC.1.2
  have hO8 := hR.1.2
  refine lv_aload_n kx kb dL_law_1066 rfl (lv_at hl 1 rfl) ?_
  refine w_callVi X M h [] [] (c_X7_read l g x q hC.1 hC.2.1 Iva iva_ok hP.1 nx ct hC.2.2.2.1 hct hnx yk hyk il ia hil60 hC.2.2.2.2.2.2.1 rc0 re0 kd0 nm0 hrd0 (fun y q1 i hy _ => dcF_iva hy)) lk_L_149 hO7 (by omega) rfl rfl ⟨Nat.le_of_ble_eq_true rfl, Nat.le_of_ble_eq_true rfl⟩ hl hcs (Nat.le_of_ble_eq_true rfl) rfl dL_law_1067 (fun r_F1 F1 H locs hp_F1 h => ?_)
  have hR1 := hR.fr (fun j hj => hp_F1.2.2.2.2.2.2.2 j (by omega))
  obtain ⟨W1, hW1, hRW1⟩ := hR1.2.1
  have hO8 := hR1.1.2
  obtain ⟨D1, hD1⟩ := hR1.2.2.2.2.1
  obtain ⟨nm1, hnm1⟩ := hR1.2.2.2.2.2.2.2.2.1
  refine w_top (y := r_F1) (rfl) ?_
  refine lv_aload_n kx kb dL_law_1070 rfl (lv_at hl 2 rfl) ?_
  refine w_callVi X M h [] [.int r_F1] (c_X8_read l g u v hR1.1 x hP.1 ⟨W1, hW1, hRW1⟩ (by omega) hv1 hs hns hR1.2.2.1 D1 hD1 ia nm1 (by omega) hR1.2.2.2.2.2.2.2.1 hnm1) lk_L_152 hO8 (by omega) rfl rfl ⟨Nat.le_of_ble_eq_true rfl, Nat.le_of_ble_eq_true rfl⟩ hl hcs (Nat.le_of_ble_eq_true rfl) rfl dL_law_1071 (fun r_F2 F2 H locs hp_F2 h => ?_)
  obtain ⟨hreq, hPWn⟩ := pw_read hC hR hP hp_F1 hp_F2
  refine w_top (y := r_F1) (hreq.symm) ?_
  refine lv_icmp_eq (tgt := 1180) kx kb dL_law_1074 (by decide) (fun c_3 => ?_) (fun c_3 => (c_3 rfl).elim)
  exact hnext _ _ _ _ (hPWn) h (lv_sub hl [0, 1, 2, 3] rfl)
set_option maxRecDepth 20000 in
theorem law_33 {p : Program} (l : Launch) {e : Env} {s : State} {m : MethodId} {below : List Frame} {meth : Method} {c : Code} {b Ls : Nat} {xs : Nat → Int32} (g : gT) {N : Nat} {ad : Nat → Nat} {F : Nat → va_E} {A : Nat → Prop} {H : Heap} {locs : List Loc} {cells slots : Nat} {Q : State → Prop} {ls : Array Slot} {i : Nat} (X : Kx p m meth c s #[.ref b] code 8 RL ret) (M : Mx g N ad A s) (h : Hx g N ad F A s H locs) (hW : PW g N ad F) (hX : va_X b Ls xs s s.heap) (hb : b < s.heap.size) (hbA : ¬ A b) (hl : lv_has ls 8 [(0, .ref b), (1, .ref (ad 0)), (2, .ref (ad 254)), (3, .int (nI i))]) (hi : i + 5 ≤ Ls) (hLs : Ls ≤ 2560) (hcs : cells ≤ room_1.cells ∧ slots ≤ room_1.slots) (hnext : ∀ (F' : Nat → va_E) (H' : Heap) (locs' : List Loc) (ls' : Array Slot), PW g N ad F' → Hx g N ad F' A s H' locs' → lv_has ls' 8 [(0, .ref b), (1, .ref (ad 0)), (2, .ref (ad 254)), (3, .int (nI i))] → W p l e room_1 s m #[.ref b] below meth c H' locs' cells slots Q (F0 m 1180 ls' [])) : W p l e room_1 s m #[.ref b] below meth c H locs cells slots Q (F0 m 1079 ls []) := by
  have kx := X.1.1
  have kb := X.1.2.1
  have hW0 := hW
  obtain ⟨x, sv, hs, ct, nx, L, il, ia, q, u, v, hC, hR, hP⟩ := hW
  have hI := hP.1.1
  have hn12 := hI.n
  have htn64 := hI.tn
  have hN0 := hR.1.1
  obtain ⟨hz0, hz1a, hz1, hz2, hz3, hz4⟩ := hI.zz
  obtain ⟨W, hWa, hRW⟩ := hR.2.1
  obtain ⟨A9, hA9⟩ := hR.2.2.2.2.2.1
  have hct := hP.2.2.2.2.2.1
  have hnx := hP.2.2.2.2.2.2.1
  have hL60 := hP.2.2.2.2.2.2.2.1
  have hil60 := hP.2.2.2.2.2.2.2.2.1
  have hRq := hP.2.2.2.2.2.2.2.2.2
  have hv0e := hR.2.2.2.2.2.2.2.2.2.1
  have hv1 := hR.2.2.2.2.2.2.2.2.2.2.1
  have hv2 := hR.2.2.2.2.2.2.2.2.2.2.2.1
  have hv3 := hR.2.2.2.2.2.2.2.2.2.2.2.2
  have hns : ∀ i, i < v 0 → (hs i).1 ≤ 12 ∧ (hs i).2.2.1 ≤ 64 := fun i hi => by have z := hP.2.2.2.2.1 i (by omega); exact ⟨z.1.n, z.1.tn⟩
  obtain ⟨yk, hyk⟩ := hC.2.2.2.2.1 nx hnx
  obtain ⟨yu, hyu, hyu2⟩ := undo_slot hC hct hnx
  obtain ⟨rc0, re0, kd0, nm0, hrd0⟩ := hC.2.2.2.2.2.2.2.2
  have hO7 := hC.1.2
  have hO8 := hR.1.2
  refine lv_aload_n kx kb dL_law_1079 rfl (lv_at hl 1 rfl) ?_
  refine w_readVi X M h [] [] (c_X7_fault l g q hC.1) lk_L_153 hO7 (by omega) rfl rfl ⟨Nat.le_of_ble_eq_true rfl, Nat.le_of_ble_eq_true rfl⟩ hl hcs (Nat.le_of_ble_eq_true rfl) rfl dL_law_1080 (fun H locs h => ?_)
  refine lv_aload_n kx kb dL_law_1083 rfl (lv_at hl 2 rfl) ?_
  refine w_readVi X M h [] [.int (faultF q)] (c_X8_fault l g u v hR.1) lk_L_156 hO8 (by omega) rfl rfl ⟨Nat.le_of_ble_eq_true rfl, Nat.le_of_ble_eq_true rfl⟩ hl hcs (Nat.le_of_ble_eq_true rfl) rfl dL_law_1084 (fun H locs h => ?_)
  refine w_top (y := faultF q) (hRq.2.2.2.2.2) ?_
  refine lv_icmp_eq (tgt := 1180) kx kb dL_law_1087 (by decide) (fun c_1 => ?_) (fun c_1 => (c_1 rfl).elim)
  exact hnext _ _ _ _ (hW0) h (lv_sub hl [0, 1, 2, 3] rfl)
set_option maxRecDepth 20000 in
theorem law_34 {p : Program} (l : Launch) {e : Env} {s : State} {m : MethodId} {below : List Frame} {meth : Method} {c : Code} {b Ls : Nat} {xs : Nat → Int32} (g : gT) {N : Nat} {ad : Nat → Nat} {F : Nat → va_E} {A : Nat → Prop} {H : Heap} {locs : List Loc} {cells slots : Nat} {Q : State → Prop} {ls : Array Slot} {i : Nat} (X : Kx p m meth c s #[.ref b] code 8 RL ret) (M : Mx g N ad A s) (h : Hx g N ad F A s H locs) (hW : PW g N ad F) (hX : va_X b Ls xs s s.heap) (hb : b < s.heap.size) (hbA : ¬ A b) (hl : lv_has ls 8 [(0, .ref b), (1, .ref (ad 0)), (2, .ref (ad 254)), (3, .int (nI i))]) (hi : i + 5 ≤ Ls) (hLs : Ls ≤ 2560) (hcs : cells ≤ room_1.cells ∧ slots ≤ room_1.slots) (hnext : ∀ (F' : Nat → va_E) (H' : Heap) (locs' : List Loc) (ls' : Array Slot), PW g N ad F' → Hx g N ad F' A s H' locs' → lv_has ls' 8 [(0, .ref b), (1, .ref (ad 0)), (2, .ref (ad 254)), (3, .int (nI i))] → W p l e room_1 s m #[.ref b] below meth c H' locs' cells slots Q (F0 m 1180 ls' [])) : W p l e room_1 s m #[.ref b] below meth c H locs cells slots Q (F0 m 1092 ls []) := by
  have kx := X.1.1
  have kb := X.1.2.1
  have hW0 := hW
  obtain ⟨x, sv, hs, ct, nx, L, il, ia, q, u, v, hC, hR, hP⟩ := hW
  have hI := hP.1.1
  have hn12 := hI.n
  have htn64 := hI.tn
  have hN0 := hR.1.1
  obtain ⟨hz0, hz1a, hz1, hz2, hz3, hz4⟩ := hI.zz
  obtain ⟨W, hWa, hRW⟩ := hR.2.1
  obtain ⟨A9, hA9⟩ := hR.2.2.2.2.2.1
  have hct := hP.2.2.2.2.2.1
  have hnx := hP.2.2.2.2.2.2.1
  have hL60 := hP.2.2.2.2.2.2.2.1
  have hil60 := hP.2.2.2.2.2.2.2.2.1
  have hRq := hP.2.2.2.2.2.2.2.2.2
  have hv0e := hR.2.2.2.2.2.2.2.2.2.1
  have hv1 := hR.2.2.2.2.2.2.2.2.2.2.1
  have hv2 := hR.2.2.2.2.2.2.2.2.2.2.2.1
  have hv3 := hR.2.2.2.2.2.2.2.2.2.2.2.2
  have hns : ∀ i, i < v 0 → (hs i).1 ≤ 12 ∧ (hs i).2.2.1 ≤ 64 := fun i hi => by have z := hP.2.2.2.2.1 i (by omega); exact ⟨z.1.n, z.1.tn⟩
  obtain ⟨yk, hyk⟩ := hC.2.2.2.2.1 nx hnx
  obtain ⟨yu, hyu, hyu2⟩ := undo_slot hC hct hnx
  obtain ⟨rc0, re0, kd0, nm0, hrd0⟩ := hC.2.2.2.2.2.2.2.2
  have hO7 := hC.1.2
  have hO8 := hR.1.2
  refine lv_aload_n kx kb dL_law_1092 rfl (lv_at hl 1 rfl) ?_
  refine lv_aload_n kx kb dL_law_1093 rfl (lv_at hl 0 rfl) ?_
  refine lv_iload_n kx kb dL_law_1094 rfl (lv_at hl 3 rfl) ?_
  refine lv_iconst (v := nI 1) kx kb dL_law_1095 (by decide) ?_
  refine w_addn kx kb dL_law_1096 ?_
  refine w_sld X h hX hb hbA (show i + 1 < Ls by omega) hLs dL_law_1097 ?_
  refine lv_aload_n kx kb dL_law_1098 rfl (lv_at hl 0 rfl) ?_
  refine lv_iload_n kx kb dL_law_1099 rfl (lv_at hl 3 rfl) ?_
  refine lv_iconst (v := nI 2) kx kb dL_law_1100 (by decide) ?_
  refine w_addn kx kb dL_law_1101 ?_
  refine w_sld X h hX hb hbA (show i + 2 < Ls by omega) hLs dL_law_1102 ?_
  refine lv_if_eq (tgt := 1110) kx kb dL_law_1103 (by decide) (fun c_1 => ?_) (fun c_1 => ?_)
  · refine lv_iconst (v := nI 0) kx kb dL_law_1110 (by decide) ?_
    refine w_readVi X M h [.int (xs (i + 1)), .int (nI 0)] [] (c_X7_reason l g q hC.1 (xs (i + 1)) (nI 0)) lk_L_157 hO7 (by omega) rfl rfl ⟨Nat.le_of_ble_eq_true rfl, Nat.le_of_ble_eq_true rfl⟩ hl hcs (Nat.le_of_ble_eq_true rfl) rfl dL_law_1111 (fun H locs h => ?_)
    refine lv_aload_n kx kb dL_law_1114 rfl (lv_at hl 2 rfl) ?_
    refine lv_aload_n kx kb dL_law_1115 rfl (lv_at hl 0 rfl) ?_
    refine lv_iload_n kx kb dL_law_1116 rfl (lv_at hl 3 rfl) ?_
    refine lv_iconst (v := nI 1) kx kb dL_law_1117 (by decide) ?_
    refine w_addn kx kb dL_law_1118 ?_
    refine w_sld X h hX hb hbA (show i + 1 < Ls by omega) hLs dL_law_1119 ?_
    refine lv_aload_n kx kb dL_law_1120 rfl (lv_at hl 0 rfl) ?_
    refine lv_iload_n kx kb dL_law_1121 rfl (lv_at hl 3 rfl) ?_
    refine lv_iconst (v := nI 2) kx kb dL_law_1122 (by decide) ?_
    refine w_addn kx kb dL_law_1123 ?_
    refine w_sld X h hX hb hbA (show i + 2 < Ls by omega) hLs dL_law_1124 ?_
    refine lv_if_eq (tgt := 1132) kx kb dL_law_1125 (by decide) (fun c_2 => ?_) (fun c_2 => (c_2 c_1).elim)
    refine lv_iconst (v := nI 0) kx kb dL_law_1132 (by decide) ?_
    refine w_readVi X M h [.int (xs (i + 1)), .int (nI 0)] [.int (reasonF q (xs (i + 1)) (nI 0))] (c_X8_reason l g u v hR.1 (xs (i + 1)) (nI 0)) lk_L_161 hO8 (by omega) rfl rfl ⟨Nat.le_of_ble_eq_true rfl, Nat.le_of_ble_eq_true rfl⟩ hl hcs (Nat.le_of_ble_eq_true rfl) rfl dL_law_1133 (fun H locs h => ?_)
    refine w_top (y := reasonF q (xs (i + 1)) (nI 0)) ((hRq.reason (xs (i + 1)) (nI 0)).symm) ?_
    refine lv_icmp_eq (tgt := 1180) kx kb dL_law_1136 (by decide) (fun c_3 => ?_) (fun c_3 => (c_3 rfl).elim)
    exact hnext _ _ _ _ (hW0) h (lv_sub hl [0, 1, 2, 3] rfl)
  · refine lv_iconst (v := nI 1) kx kb dL_law_1106 (by decide) ?_
    refine lv_goto (tgt := 1111) kx kb dL_law_1107 (by decide) ?_
    refine w_readVi X M h [.int (xs (i + 1)), .int (nI 1)] [] (c_X7_reason l g q hC.1 (xs (i + 1)) (nI 1)) lk_L_157 hO7 (by omega) rfl rfl ⟨Nat.le_of_ble_eq_true rfl, Nat.le_of_ble_eq_true rfl⟩ hl hcs (Nat.le_of_ble_eq_true rfl) rfl dL_law_1111 (fun H locs h => ?_)
    refine lv_aload_n kx kb dL_law_1114 rfl (lv_at hl 2 rfl) ?_
    refine lv_aload_n kx kb dL_law_1115 rfl (lv_at hl 0 rfl) ?_
    refine lv_iload_n kx kb dL_law_1116 rfl (lv_at hl 3 rfl) ?_
    refine lv_iconst (v := nI 1) kx kb dL_law_1117 (by decide) ?_
    refine w_addn kx kb dL_law_1118 ?_
    refine w_sld X h hX hb hbA (show i + 1 < Ls by omega) hLs dL_law_1119 ?_
    refine lv_aload_n kx kb dL_law_1120 rfl (lv_at hl 0 rfl) ?_
    refine lv_iload_n kx kb dL_law_1121 rfl (lv_at hl 3 rfl) ?_
    refine lv_iconst (v := nI 2) kx kb dL_law_1122 (by decide) ?_
    refine w_addn kx kb dL_law_1123 ?_
    refine w_sld X h hX hb hbA (show i + 2 < Ls by omega) hLs dL_law_1124 ?_
    refine lv_if_eq (tgt := 1132) kx kb dL_law_1125 (by decide) (fun c_4 => (c_1 c_4).elim) (fun c_4 => ?_)
    refine lv_iconst (v := nI 1) kx kb dL_law_1128 (by decide) ?_
    refine lv_goto (tgt := 1133) kx kb dL_law_1129 (by decide) ?_
    refine w_readVi X M h [.int (xs (i + 1)), .int (nI 1)] [.int (reasonF q (xs (i + 1)) (nI 1))] (c_X8_reason l g u v hR.1 (xs (i + 1)) (nI 1)) lk_L_161 hO8 (by omega) rfl rfl ⟨Nat.le_of_ble_eq_true rfl, Nat.le_of_ble_eq_true rfl⟩ hl hcs (Nat.le_of_ble_eq_true rfl) rfl dL_law_1133 (fun H locs h => ?_)
    refine w_top (y := reasonF q (xs (i + 1)) (nI 1)) ((hRq.reason (xs (i + 1)) (nI 1)).symm) ?_
    refine lv_icmp_eq (tgt := 1180) kx kb dL_law_1136 (by decide) (fun c_5 => ?_) (fun c_5 => (c_5 rfl).elim)
    exact hnext _ _ _ _ (hW0) h (lv_sub hl [0, 1, 2, 3] rfl)
set_option maxRecDepth 20000 in
theorem law_35 {p : Program} (l : Launch) {e : Env} {s : State} {m : MethodId} {below : List Frame} {meth : Method} {c : Code} {b Ls : Nat} {xs : Nat → Int32} (g : gT) {N : Nat} {ad : Nat → Nat} {F : Nat → va_E} {A : Nat → Prop} {H : Heap} {locs : List Loc} {cells slots : Nat} {Q : State → Prop} {ls : Array Slot} {i : Nat} (X : Kx p m meth c s #[.ref b] code 8 RL ret) (M : Mx g N ad A s) (h : Hx g N ad F A s H locs) (hW : PW g N ad F) (hX : va_X b Ls xs s s.heap) (hb : b < s.heap.size) (hbA : ¬ A b) (hl : lv_has ls 8 [(0, .ref b), (1, .ref (ad 0)), (2, .ref (ad 254)), (3, .int (nI i))]) (hi : i + 5 ≤ Ls) (hLs : Ls ≤ 2560) (hcs : cells ≤ room_1.cells ∧ slots ≤ room_1.slots) (hnext : ∀ (F' : Nat → va_E) (H' : Heap) (locs' : List Loc) (ls' : Array Slot), PW g N ad F' → Hx g N ad F' A s H' locs' → lv_has ls' 8 [(0, .ref b), (1, .ref (ad 0)), (2, .ref (ad 254)), (3, .int (nI i))] → W p l e room_1 s m #[.ref b] below meth c H' locs' cells slots Q (F0 m 1180 ls' [])) : W p l e room_1 s m #[.ref b] below meth c H locs cells slots Q (F0 m 1141 ls []) := by
  have kx := X.1.1
  have kb := X.1.2.1
  have hW0 := hW
  obtain ⟨x, sv, hs, ct, nx, L, il, ia, q, u, v, hC, hR, hP⟩ := hW
  have hI := hP.1.1
  have hn12 := hI.n
  have htn64 := hI.tn
  have hN0 := hR.1.1
  obtain ⟨hz0, hz1a, hz1, hz2, hz3, hz4⟩ := hI.zz
  obtain ⟨W, hWa, hRW⟩ := hR.2.1
  obtain ⟨A9, hA9⟩ := hR.2.2.2.2.2.1
  have hct := hP.2.2.2.2.2.1
  have hnx := hP.2.2.2.2.2.2.1
  have hL60 := hP.2.2.2.2.2.2.2.1
  have hil60 := hP.2.2.2.2.2.2.2.2.1
  have hRq := hP.2.2.2.2.2.2.2.2.2
  have hv0e := hR.2.2.2.2.2.2.2.2.2.1
  have hv1 := hR.2.2.2.2.2.2.2.2.2.2.1
  have hv2 := hR.2.2.2.2.2.2.2.2.2.2.2.1
  have hv3 := hR.2.2.2.2.2.2.2.2.2.2.2.2
  have hns : ∀ i, i < v 0 → (hs i).1 ≤ 12 ∧ (hs i).2.2.1 ≤ 64 := fun i hi => by have z := hP.2.2.2.2.1 i (by omega); exact ⟨z.1.n, z.1.tn⟩
  obtain ⟨yk, hyk⟩ := hC.2.2.2.2.1 nx hnx
  obtain ⟨yu, hyu, hyu2⟩ := undo_slot hC hct hnx
  obtain ⟨rc0, re0, kd0, nm0, hrd0⟩ := hC.2.2.2.2.2.2.2.2
  have hO7 := hC.1.2
  have hO8 := hR.1.2
  refine lv_aload_n kx kb dL_law_1141 rfl (lv_at hl 1 rfl) ?_
  refine w_callVi X M h [] [] (c_X7_undo l g x q hC.1 hC.2.1 hn12 htn64 nx ct hC.2.2.2.1 hct hnx yu hyu) lk_L_162 hO7 (by omega) rfl rfl ⟨Nat.le_of_ble_eq_true rfl, Nat.le_of_ble_eq_true rfl⟩ hl hcs (Nat.le_of_ble_eq_true rfl) rfl dL_law_1142 (fun r_F1 F1 H locs hp_F1 h => ?_)
  have hR1 := hR.fr (fun j hj => hp_F1.2.2.2.2 j (by omega))
  obtain ⟨W1, hW1, hRW1⟩ := hR1.2.1
  have hO8 := hR1.1.2
  refine w_top (y := r_F1) (rfl) ?_
  refine lv_aload_n kx kb dL_law_1145 rfl (lv_at hl 2 rfl) ?_
  refine w_callVi X M h [] [.int r_F1] (c_X8_undo l g u v hR1.1 W1 hW1 (by omega) hv1 hs hns hR1.2.2.1) lk_L_165 hO8 (by omega) rfl rfl ⟨Nat.le_of_ble_eq_true rfl, Nat.le_of_ble_eq_true rfl⟩ hl hcs (Nat.le_of_ble_eq_true rfl) rfl dL_law_1146 (fun r_F2 F2 H locs hp_F2 h => ?_)
  obtain ⟨hreq, hPWn⟩ := pw_undo hC hR hP hyu2 hp_F1 hp_F2
  refine w_top (y := r_F1) (hreq.symm) ?_
  refine lv_icmp_eq (tgt := 1180) kx kb dL_law_1149 (by decide) (fun c_3 => ?_) (fun c_3 => (c_3 rfl).elim)
  exact hnext _ _ _ _ (hPWn) h (lv_sub hl [0, 1, 2, 3] rfl)
set_option maxRecDepth 20000 in
theorem law_36 {p : Program} (l : Launch) {e : Env} {s : State} {m : MethodId} {below : List Frame} {meth : Method} {c : Code} {b Ls : Nat} {xs : Nat → Int32} (g : gT) {N : Nat} {ad : Nat → Nat} {F : Nat → va_E} {A : Nat → Prop} {H : Heap} {locs : List Loc} {cells slots : Nat} {Q : State → Prop} {ls : Array Slot} {i : Nat} (X : Kx p m meth c s #[.ref b] code 8 RL ret) (M : Mx g N ad A s) (h : Hx g N ad F A s H locs) (hW : PW g N ad F) (hX : va_X b Ls xs s s.heap) (hb : b < s.heap.size) (hbA : ¬ A b) (hl : lv_has ls 8 [(0, .ref b), (1, .ref (ad 0)), (2, .ref (ad 254)), (3, .int (nI i))]) (hi : i + 5 ≤ Ls) (hLs : Ls ≤ 2560) (hcs : cells ≤ room_1.cells ∧ slots ≤ room_1.slots) (hnext : ∀ (F' : Nat → va_E) (H' : Heap) (locs' : List Loc) (ls' : Array Slot), PW g N ad F' → Hx g N ad F' A s H' locs' → lv_has ls' 8 [(0, .ref b), (1, .ref (ad 0)), (2, .ref (ad 254)), (3, .int (nI i))] → W p l e room_1 s m #[.ref b] below meth c H' locs' cells slots Q (F0 m 1180 ls' [])) : W p l e room_1 s m #[.ref b] below meth c H locs cells slots Q (F0 m 1154 ls []) := by
  have kx := X.1.1
  have kb := X.1.2.1
  have hW0 := hW
  obtain ⟨x, sv, hs, ct, nx, L, il, ia, q, u, v, hC, hR, hP⟩ := hW
  have hI := hP.1.1
  have hn12 := hI.n
  have htn64 := hI.tn
  have hN0 := hR.1.1
  obtain ⟨hz0, hz1a, hz1, hz2, hz3, hz4⟩ := hI.zz
  obtain ⟨W, hWa, hRW⟩ := hR.2.1
  obtain ⟨A9, hA9⟩ := hR.2.2.2.2.2.1
  have hct := hP.2.2.2.2.2.1
  have hnx := hP.2.2.2.2.2.2.1
  have hL60 := hP.2.2.2.2.2.2.2.1
  have hil60 := hP.2.2.2.2.2.2.2.2.1
  have hRq := hP.2.2.2.2.2.2.2.2.2
  have hv0e := hR.2.2.2.2.2.2.2.2.2.1
  have hv1 := hR.2.2.2.2.2.2.2.2.2.2.1
  have hv2 := hR.2.2.2.2.2.2.2.2.2.2.2.1
  have hv3 := hR.2.2.2.2.2.2.2.2.2.2.2.2
  have hns : ∀ i, i < v 0 → (hs i).1 ≤ 12 ∧ (hs i).2.2.1 ≤ 64 := fun i hi => by have z := hP.2.2.2.2.1 i (by omega); exact ⟨z.1.n, z.1.tn⟩
  obtain ⟨yk, hyk⟩ := hC.2.2.2.2.1 nx hnx
  obtain ⟨yu, hyu, hyu2⟩ := undo_slot hC hct hnx
  obtain ⟨rc0, re0, kd0, nm0, hrd0⟩ := hC.2.2.2.2.2.2.2.2
  have hO7 := hC.1.2
  have hO8 := hR.1.2
  refine lv_aload_n kx kb dL_law_1154 rfl (lv_at hl 1 rfl) ?_
  refine w_callVi X M h [] [] (c_X7_save l g x q hC.1 hC.2.1 hn12 htn64 sv hC.2.2.1) lk_L_166 hO7 (by omega) rfl rfl ⟨Nat.le_of_ble_eq_true rfl, Nat.le_of_ble_eq_true rfl⟩ hl hcs (Nat.le_of_ble_eq_true rfl) rfl dL_law_1155 (fun r_F1 F1 H locs hp_F1 h => ?_)
  have hR1 := hR.fr (fun j hj => hp_F1.2.2.2.2 j (by omega))
  obtain ⟨W1, hW1, hRW1⟩ := hR1.2.1
  have hO8 := hR1.1.2
  obtain ⟨S1, hS1, hS1r⟩ := hR1.2.2.2.1
  refine w_top (y := r_F1) (rfl) ?_
  refine lv_aload_n kx kb dL_law_1158 rfl (lv_at hl 2 rfl) ?_
  refine w_callVi X M h [] [.int r_F1] (c_X8_save l g u v hR1.1 x hI W1 hW1 hRW1 S1 hS1) lk_L_169 hO8 (by omega) rfl rfl ⟨Nat.le_of_ble_eq_true rfl, Nat.le_of_ble_eq_true rfl⟩ hl hcs (Nat.le_of_ble_eq_true rfl) rfl dL_law_1159 (fun r_F2 F2 H locs hp_F2 h => ?_)
  obtain ⟨hreq, hPWn⟩ := pw_save hC hR hP hp_F1 hp_F2
  refine w_top (y := r_F1) (hreq.symm) ?_
  refine lv_icmp_eq (tgt := 1180) kx kb dL_law_1162 (by decide) (fun c_3 => ?_) (fun c_3 => (c_3 rfl).elim)
  exact hnext _ _ _ _ (hPWn) h (lv_sub hl [0, 1, 2, 3] rfl)
set_option maxRecDepth 20000 in
theorem law_37 {p : Program} (l : Launch) {e : Env} {s : State} {m : MethodId} {below : List Frame} {meth : Method} {c : Code} {b Ls : Nat} {xs : Nat → Int32} (g : gT) {N : Nat} {ad : Nat → Nat} {F : Nat → va_E} {A : Nat → Prop} {H : Heap} {locs : List Loc} {cells slots : Nat} {Q : State → Prop} {ls : Array Slot} {i : Nat} (X : Kx p m meth c s #[.ref b] code 8 RL ret) (M : Mx g N ad A s) (h : Hx g N ad F A s H locs) (hW : PW g N ad F) (hX : va_X b Ls xs s s.heap) (hb : b < s.heap.size) (hbA : ¬ A b) (hl : lv_has ls 8 [(0, .ref b), (1, .ref (ad 0)), (2, .ref (ad 254)), (3, .int (nI i))]) (hi : i + 5 ≤ Ls) (hLs : Ls ≤ 2560) (hcs : cells ≤ room_1.cells ∧ slots ≤ room_1.slots) (hnext : ∀ (F' : Nat → va_E) (H' : Heap) (locs' : List Loc) (ls' : Array Slot), PW g N ad F' → Hx g N ad F' A s H' locs' → lv_has ls' 8 [(0, .ref b), (1, .ref (ad 0)), (2, .ref (ad 254)), (3, .int (nI i))] → W p l e room_1 s m #[.ref b] below meth c H' locs' cells slots Q (F0 m 1180 ls' [])) : W p l e room_1 s m #[.ref b] below meth c H locs cells slots Q (F0 m 1167 ls []) := by
  have kx := X.1.1
  have kb := X.1.2.1
  have hW0 := hW
  obtain ⟨x, sv, hs, ct, nx, L, il, ia, q, u, v, hC, hR, hP⟩ := hW
  have hI := hP.1.1
  have hn12 := hI.n
  have htn64 := hI.tn
  have hN0 := hR.1.1
  obtain ⟨hz0, hz1a, hz1, hz2, hz3, hz4⟩ := hI.zz
  obtain ⟨W, hWa, hRW⟩ := hR.2.1
  obtain ⟨A9, hA9⟩ := hR.2.2.2.2.2.1
  have hct := hP.2.2.2.2.2.1
  have hnx := hP.2.2.2.2.2.2.1
  have hL60 := hP.2.2.2.2.2.2.2.1
  have hil60 := hP.2.2.2.2.2.2.2.2.1
  have hRq := hP.2.2.2.2.2.2.2.2.2
  have hv0e := hR.2.2.2.2.2.2.2.2.2.1
  have hv1 := hR.2.2.2.2.2.2.2.2.2.2.1
  have hv2 := hR.2.2.2.2.2.2.2.2.2.2.2.1
  have hv3 := hR.2.2.2.2.2.2.2.2.2.2.2.2
  have hns : ∀ i, i < v 0 → (hs i).1 ≤ 12 ∧ (hs i).2.2.1 ≤ 64 := fun i hi => by have z := hP.2.2.2.2.1 i (by omega); exact ⟨z.1.n, z.1.tn⟩
  obtain ⟨yk, hyk⟩ := hC.2.2.2.2.1 nx hnx
  obtain ⟨yu, hyu, hyu2⟩ := undo_slot hC hct hnx
  obtain ⟨rc0, re0, kd0, nm0, hrd0⟩ := hC.2.2.2.2.2.2.2.2
  have hO7 := hC.1.2
  have hO8 := hR.1.2
  refine lv_aload_n kx kb dL_law_1167 rfl (lv_at hl 1 rfl) ?_
  refine w_callVi X M h [] [] (c_X7_restore l g x q hC.1 hC.2.1 hn12 htn64 nx ct hC.2.2.2.1 hct hnx sv hC.2.2.1) lk_L_170 hO7 (by omega) rfl rfl ⟨Nat.le_of_ble_eq_true rfl, Nat.le_of_ble_eq_true rfl⟩ hl hcs (Nat.le_of_ble_eq_true rfl) rfl dL_law_1168 (fun r_F1 F1 H locs hp_F1 h => ?_)
  have hR1 := hR.fr (fun j hj => hp_F1.2.2.2.2 j (by omega))
  obtain ⟨W1, hW1, hRW1⟩ := hR1.2.1
  have hO8 := hR1.1.2
  obtain ⟨S1, hS1, hS1r⟩ := hR1.2.2.2.1
  refine w_top (y := r_F1) (rfl) ?_
  refine lv_aload_n kx kb dL_law_1171 rfl (lv_at hl 2 rfl) ?_
  refine w_callVi X M h [] [.int r_F1] (c_X8_restore l g u v hR1.1 W1 hW1 sv ⟨hP.2.2.1, hP.2.2.2.1⟩ S1 hS1 hS1r) lk_L_173 hO8 (by omega) rfl rfl ⟨Nat.le_of_ble_eq_true rfl, Nat.le_of_ble_eq_true rfl⟩ hl hcs (Nat.le_of_ble_eq_true rfl) rfl dL_law_1172 (fun r_F2 F2 H locs hp_F2 h => ?_)
  obtain ⟨hreq, hPWn⟩ := pw_restore hC hR hP hp_F1 hp_F2
  refine w_top (y := r_F1) (hreq.symm) ?_
  refine lv_icmp_eq (tgt := 1180) kx kb dL_law_1175 (by decide) (fun c_3 => ?_) (fun c_3 => (c_3 rfl).elim)
  exact hnext _ _ _ _ (hPWn) h (lv_sub hl [0, 1, 2, 3] rfl)
