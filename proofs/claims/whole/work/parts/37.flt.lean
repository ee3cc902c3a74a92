theorem met_bodyF {Qc : (Nat → Prop) → Array Value → State → Outcome → State → Prop} {l : Launch} {y : MethodName} {cc : ByteArray} {nL : Nat} {ret : Option FieldType} {fm lo : Nat} {g : gT} {N : Nat} {ad : Nat → Nat} {F : Nat → va_E} {As : List Value} (hy : plainFor y = true) (hlen : (lg_sl As).length ≤ nL)
    (body : ∀ (p : Program) (e : Env) (s : State) (m : MethodId) (args : Array Value) (below : List Frame) (meth : Method) (c : Code) (A : Nat → Prop) (H : Heap) (ls : Array Slot), Kx p m meth c s args cc nL y.cls ret → Mx g N ad A s → Hx g N ad F A s H [] → lv_has ls nL (lv_args 0 As) → W p l e (rmR fm lo) s m args below meth c H [] 0 0 (MQ below (Qc A) args s 0 0 A) (F0 m 0 ls [])) (sz : Nat) : Met l y (WS y cc nL ret) (rmR fm lo) (va_Pc As (Pw g N ad F sz)) (Qc (fr N ad sz)) 0 0 (fr N ad sz) := by
  refine va_MetF (cc := cc) (maxL := nL) (ret := ret) hy rfl ?_
  intro p e s m args below meth c s₁ B hml hv
  obtain ⟨rfl, hsz, hP, hK, hI, hNw, hSx⟩ := hv
  have hts := atoms_spec (ws := WS y cc nL ret) B.pre
  have hown : s.vm.findClass y.cls = some m.cls := findClass_of_methodNamed B.named
  subst hsz
  have hl := lv_entry As hlen
  rw [lg_entry_eq]
  exact body p e s m _ below meth c _ s.heap _ ⟨⟨B.exec, B.bytes, hml, hown, lwg_code hts⟩, B.returns, B.notSynchronized⟩ ⟨hK, hI, fun i hi => Or.inl ⟨i, hi, rfl⟩, fun q h => Or.inr h, hNw, hSx⟩ ⟨hP, va_S.rf⟩ hl
section CT
variable {l : Launch} {y : MethodName} {cc : ByteArray} {nL : Nat} {ret : Option FieldType} {fm lo : Nat} {g : gT} {N : Nat} {ad : Nat → Nat} {F : Nat → va_E} {As : List Value}
theorem CtI_ofF {post : Int32 → (Nat → va_E) → Prop} (hy : plainFor y = true) (hlen : (lg_sl As).length ≤ nL) (body : GwI l cc nL y.cls ret fm lo g N ad F As post) : CtI l y cc nL ret fm lo g N ad F As post := fun sz => met_bodyF (Qc := fun A => va_Qi post (Bw g N ad) A) hy hlen body sz
end CT
theorem dJxf58ca_isNaN_12338_0 : decode cJxf58ca_isNaN_12338 0 = .ok (.fload_n 0, 1) := by decide +kernel
theorem dJxf58ca_isNaN_12338_1 : decode cJxf58ca_isNaN_12338 1 = .ok (.fload_n 0, 1) := by decide +kernel
theorem dJxf58ca_isNaN_12338_2 : decode cJxf58ca_isNaN_12338 2 = .ok (.fcmp .l, 1) := by decide +kernel
theorem dJxf58ca_isNaN_12338_3 : decode cJxf58ca_isNaN_12338 3 = .ok (.ifCond .eq 7, 3) := by decide +kernel
theorem dJxf58ca_isNaN_12338_6 : decode cJxf58ca_isNaN_12338 6 = .ok (.iconst 1, 1) := by decide +kernel
theorem dJxf58ca_isNaN_12338_7 : decode cJxf58ca_isNaN_12338 7 = .ok (.goto 4, 3) := by decide +kernel
theorem dJxf58ca_isNaN_12338_10 : decode cJxf58ca_isNaN_12338 10 = .ok (.iconst 0, 1) := by decide +kernel
theorem dJxf58ca_isNaN_12338_11 : decode cJxf58ca_isNaN_12338 11 = .ok (.ireturn, 1) := by decide +kernel
theorem dJxf58ca_floatToIntBits_5c35a_0 : decode cJxf58ca_floatToIntBits_5c35a 0 = .ok (.fload_n 0, 1) := by decide +kernel
theorem dJxf58ca_floatToIntBits_5c35a_1 : decode cJxf58ca_floatToIntBits_5c35a 1 = .ok (.invokestatic 59, 3) := by decide +kernel
theorem dJxf58ca_floatToIntBits_5c35a_4 : decode cJxf58ca_floatToIntBits_5c35a 4 = .ok (.ifCond .ne 8, 3) := by decide +kernel
theorem dJxf58ca_floatToIntBits_5c35a_7 : decode cJxf58ca_floatToIntBits_5c35a 7 = .ok (.fload_n 0, 1) := by decide +kernel
theorem dJxf58ca_floatToIntBits_5c35a_8 : decode cJxf58ca_floatToIntBits_5c35a 8 = .ok (.invokestatic 74, 3) := by decide +kernel
theorem dJxf58ca_floatToIntBits_5c35a_11 : decode cJxf58ca_floatToIntBits_5c35a 11 = .ok (.ireturn, 1) := by decide +kernel
theorem dJxf58ca_floatToIntBits_5c35a_12 : decode cJxf58ca_floatToIntBits_5c35a 12 = .ok (.ldc 77, 2) := by decide +kernel
theorem dJxf58ca_floatToIntBits_5c35a_14 : decode cJxf58ca_floatToIntBits_5c35a 14 = .ok (.ireturn, 1) := by decide +kernel
theorem lk_Jxf58ca_59 : LkS RJxf58ca 59 yJxf58ca_isNaN_12338 cJxf58ca_isNaN_12338 1 (some .boolean) 1 := LkS_of q5_72 q5_73 q1_12 q5_74 ⟨by decide, by decide, by decide +kernel⟩
theorem lk_X8_159 : LkS RX8 159 yJxf58ca_floatToIntBits_5c35a cJxf58ca_floatToIntBits_5c35a 1 (some .int) 1 := LkS_of q5_69 q5_70 q1_12 q5_71 ⟨by decide, by decide, by decide +kernel⟩
section FLT
variable {p : Program} {l : Launch} {e : Env} {R : Room} {s : State} {m : MethodId} {args : Array Value} {below : List Frame} {meth : Method} {c : Code} {H : Heap} {locs : List Loc} {cells slots : Nat} {Q : State → Prop}
variable {cc : ByteArray} {nL : Nat} {own : String} {ret : Option FieldType} {pc : Nat} {ls : Array Slot} {rest : List Value} {index : Nat} {lvs : List (Nat × Value)}
theorem w_f2ib (X : Kx p m meth c s args cc nL own ret) (hl : lv_has ls nL lvs) (hlink : Cond.methodLink own index ⟨"java/lang/Float", "floatToRawIntBits", "(F)I"⟩ ∈ lw_g) (hR : 1 ≤ R.frames ∧ 20 ≤ R.locals) (hcat : (rest.map fun v => v.category).sum ≤ 5) {v : UInt32} (hdg : decode cc pc = .ok (.invokestatic index, 3)) (kk : W p l e R s m args below meth c H locs cells slots Q (F0 m (pc + 3) ls (.int v.toInt32 :: rest))) : W p l e R s m args below meth c H locs cells slots Q (F0 m pc ls (.float v :: rest)) :=
  vn_f2i X.1.1 X.1.2.1 (X.1.2.2.1.trans hl.1.symm) X.1.2.2.2.1 (X.1.2.2.2.2 _ hlink) (X.1.2.2.2.2 _ q5_77) (X.1.2.2.2.2 _ q5_76) (X.1.2.2.2.2 _ q1_12) hR.1 (by omega) hdg kk
theorem w_i2fb0 (X : Kx p m meth c s args cc nL own ret) (hl : lv_has ls nL lvs) (hlink : Cond.methodLink own index ⟨"java/lang/Float", "intBitsToFloat", "(I)F"⟩ ∈ lw_g) (hR : 1 ≤ R.frames ∧ 20 ≤ R.locals) (hcat : (rest.map fun v => v.category).sum ≤ 5) {b : Int32} (hv : vn_sni2f b = false) (hdg : decode cc pc = .ok (.invokestatic index, 3)) (kk : W p l e R s m args below meth c H locs cells slots Q (F0 m (pc + 3) ls (.float b.toUInt32 :: rest))) : W p l e R s m args below meth c H locs cells slots Q (F0 m pc ls (.int b :: rest)) :=
  vn_i2f X.1.1 X.1.2.1 (X.1.2.2.1.trans hl.1.symm) X.1.2.2.2.1 (X.1.2.2.2.2 _ hlink) (X.1.2.2.2.2 _ q5_81) (X.1.2.2.2.2 _ q5_80) (X.1.2.2.2.2 _ q1_12) (hv := hv) hR.1 (by omega) hdg kk
theorem w_i2fb (X : Kx p m meth c s args cc nL own ret) (hl : lv_has ls nL lvs) (hlink : Cond.methodLink own index ⟨"java/lang/Float", "intBitsToFloat", "(I)F"⟩ ∈ lw_g) (hR : 1 ≤ R.frames ∧ 20 ≤ R.locals) (hcat : (rest.map fun v => v.category).sum ≤ 5) {v : UInt32} (hv : nnF v) (hdg : decode cc pc = .ok (.invokestatic index, 3)) (kk : W p l e R s m args below meth c H locs cells slots Q (F0 m (pc + 3) ls (.float v :: rest))) : W p l e R s m args below meth c H locs cells slots Q (F0 m pc ls (.int (fb v) :: rest)) := by
  refine w_i2fb0 X hl hlink hR hcat (b := fb v) (nnF_s hv) hdg ?_
  rw [fb_back]
  exact kk
end FLT
set_option maxRecDepth 20000 in
theorem c_JF_isNaN (l : Launch) (g : gT) {N : Nat} {ad : Nat → Nat} {F : Nat → va_E} (v : UInt32) (hv : nnF v) : CtI l yJxf58ca_isNaN_12338 cJxf58ca_isNaN_12338 1 (some .boolean) 0 0 g N ad F [.float v] (fun r F' => r = nI 0 ∧ F' = F) := by
  refine CtI_ofF (by decide +kernel) (Nat.le_of_ble_eq_true rfl) ?_
  intro p e s m args below meth c A H ls X M h hl
  have kx := X.1.1
  have kb := X.1.2.1
  have hl : lv_has ls 1 [(0, .float v)] := hl
  refine lv_fload_n kx kb dJxf58ca_isNaN_12338_0 rfl (lv_at hl 0 rfl) ?_
  refine lv_fload_n kx kb dJxf58ca_isNaN_12338_1 rfl (lv_at hl 0 rfl) ?_
  refine lv_fcmp kx kb dJxf58ca_isNaN_12338_2 ?_
  refine lv_if_eq (tgt := 10) kx kb dJxf58ca_isNaN_12338_3 (by decide) (fun c_1 => ?_) (fun c_1 => (show False from absurd (nnF_cmp hv) c_1).elim)
  refine lv_iconst (v := nI 0) kx kb dJxf58ca_isNaN_12338_10 (by decide) ?_
  exact w_zret X h (Or.inl (by decide)) ⟨rfl, rfl⟩ dJxf58ca_isNaN_12338_11
set_option maxRecDepth 20000 in
theorem c_JF_f2i (l : Launch) (g : gT) {N : Nat} {ad : Nat → Nat} {F : Nat → va_E} (v : UInt32) (hv : nnF v) : CtI l yJxf58ca_floatToIntBits_5c35a cJxf58ca_floatToIntBits_5c35a 1 (some .int) 1 20 g N ad F [.float v] (fun r F' => r = fb v ∧ F' = F) := by
  refine CtI_ofF (by decide +kernel) (Nat.le_of_ble_eq_true rfl) ?_
  intro p e s m args below meth c A H ls X M h hl
  have kx := X.1.1
  have kb := X.1.2.1
  have hl : lv_has ls 1 [(0, .float v)] := hl
  refine lv_fload_n kx kb dJxf58ca_floatToIntBits_5c35a_0 rfl (lv_at hl 0 rfl) ?_
  refine w_readSi X M h [.float v] [] ((c_JF_isNaN l g v hv)) lk_Jxf58ca_59 rfl ⟨by decide, by decide⟩ hl ⟨Nat.zero_le _, Nat.zero_le _⟩ (Nat.le_of_ble_eq_true rfl) rfl dJxf58ca_floatToIntBits_5c35a_1 (fun H locs h => ?_)
  refine lv_if_ne (tgt := 12) kx kb dJxf58ca_floatToIntBits_5c35a_4 (by decide) (fun q => absurd (by decide) q) (fun _ => ?_)
  refine lv_fload_n kx kb dJxf58ca_floatToIntBits_5c35a_7 rfl (lv_at hl 0 rfl) ?_
  refine w_f2ib X hl q5_75 ⟨by decide, by decide⟩ (Nat.le_of_ble_eq_true rfl) dJxf58ca_floatToIntBits_5c35a_8 ?_
  exact w_iret X h ⟨rfl, rfl⟩ dJxf58ca_floatToIntBits_5c35a_11
set_option maxRecDepth 20000 in
theorem c_X8_laughOf (l : Launch) (g : gT) {N : Nat} {ad : Nat → Nat} {F : Nat → va_E} (u : Nat → Int32) (v : Nat → Nat) (hm : oM g N ad F u v) (x : SX) (hI : Inv x) (W : Nat → Int32) (hW : arI g F 255 274 W) (hR : RW x W) (k : Nat) (hk : k < x.1) (gr : Nat) (hn : lnn (x.2.1 3 k) (x.2.1 4 k) (nI gr))  : CtF l yX8_laughOf cX8_laughOf 4 (some .float) 1 22 g N ad F [.ref (ad 254), .int (nI k), .int (nI gr)] (fun r F' => r = lfO (x.2.1 3 k) (x.2.1 4 k) (nI gr) ∧ F' = F) := by
  refine CtF_of (by decide) (Nat.le_of_ble_eq_true rfl) ?_
  intro p e s m args below meth c A H ls X M h hl
  have kx := X.1.1
  have kb := X.1.2.1
  have hl : lv_has ls 4 [(0, .ref (ad 254)), (1, .int (nI k)), (2, .int (nI gr))] := hl
  have hN0 := hm.1
  have hn12 := hI.n
  have htn64 := hI.tn
  refine lv_aload_n kx kb dX8_laughOf_0 rfl (lv_at hl 0 rfl) ?_
  refine lv_iload_n kx kb dX8_laughOf_1 rfl (lv_at hl 1 rfl) ?_
  refine lv_iconst (v := nI 3) kx kb dX8_laughOf_2 (by decide) ?_
  refine w_readVi X M h [.int (nI k), .int (nI 3)] [] ((c_X8_is l g u v ⟨by omega, hm.2⟩ x hI W hW hR k 3 (by omega) (by omega))) lk_X8_73 hm.2 (by omega) rfl rfl ⟨by decide, by decide⟩ hl ⟨Nat.zero_le _, Nat.zero_le _⟩ (Nat.le_of_ble_eq_true rfl) rfl dX8_laughOf_3 (fun H locs h => ?_)
  refine lv_i2f kx kb dX8_laughOf_6 ?_
  refine lv_fstore_n (lv' := [(3, .float (FP.i2f (x.2.1 3 k))), (0, .ref (ad 254)), (1, .int (nI k)), (2, .int (nI gr))]) kx kb dX8_laughOf_7 rfl hl (by decide) rfl (fun ls hl => ?_)
  refine lv_aload_n kx kb dX8_laughOf_8 rfl (lv_at hl 1 rfl) ?_
  refine lv_iload_n kx kb dX8_laughOf_9 rfl (lv_at hl 2 rfl) ?_
  refine lv_iconst (v := nI 4) kx kb dX8_laughOf_10 (by decide) ?_
  refine w_readVi X M h [.int (nI k), .int (nI 4)] [] ((c_X8_is l g u v ⟨by omega, hm.2⟩ x hI W hW hR k 4 (by omega) (by omega))) lk_X8_73 hm.2 (by omega) rfl rfl ⟨by decide, by decide⟩ hl ⟨Nat.zero_le _, Nat.zero_le _⟩ (Nat.le_of_ble_eq_true rfl) rfl dX8_laughOf_11 (fun H locs h => ?_)
  refine lv_iconst (v := nI 1) kx kb dX8_laughOf_14 (by decide) ?_
  refine lv_icmp_ne (tgt := 23) kx kb dX8_laughOf_15 (by decide) (fun c_1 => ?_) (fun c_1 => ?_)
  · have c0 : x.2.1 4 k = 0 := (hI.pr hk).resolve_right c_1
    refine lv_fload_n kx kb dX8_laughOf_23 rfl (lv_at hl 0 rfl) ?_
    refine lv_fconst1 kx kb dX8_laughOf_24 ?_
    refine lv_iload_n kx kb dX8_laughOf_25 rfl (lv_at hl 3 rfl) ?_
    refine lv_i2f kx kb dX8_laughOf_26 ?_
    refine lv_ldcf (v := 1098907648) kx kb X.1.2.2.2.1 (X.1.2.2.2.2 _ q5_68) dX8_laughOf_27 ?_
    refine lv_fdiv kx kb dX8_laughOf_29 (hn.2.1) ?_
    refine lv_fadd kx kb dX8_laughOf_30 (hn.2.2.1) ?_
    refine lv_fdiv kx kb dX8_laughOf_31 (by have z := hn.2.2.2; rw [lfO, lfB, if_pos c0] at z; exact z) ?_
    exact w_fret X h ⟨by rw [lfO, lfB, if_pos c0], rfl⟩ dX8_laughOf_32
  · have c0 : ¬ x.2.1 4 k = 0 := by rw [c_1]; decide
    refine lv_fload_n kx kb dX8_laughOf_18 rfl (lv_at hl 0 rfl) ?_
    refine lv_ldcf (v := 1069547520) kx kb X.1.2.2.2.1 (X.1.2.2.2.2 _ q5_67) dX8_laughOf_19 ?_
    refine lv_fmul kx kb dX8_laughOf_21 (hn.1) ?_
    refine lv_fstore_n (lv' := [(3, .float (FP.fmul (FP.i2f (x.2.1 3 k)) (1069547520 : UInt32))), (0, .ref (ad 254)), (1, .int (nI k)), (2, .int (nI gr))]) kx kb dX8_laughOf_22 rfl hl (by decide) rfl (fun ls hl => ?_)
    refine lv_fload_n kx kb dX8_laughOf_23 rfl (lv_at hl 0 rfl) ?_
    refine lv_fconst1 kx kb dX8_laughOf_24 ?_
    refine lv_iload_n kx kb dX8_laughOf_25 rfl (lv_at hl 3 rfl) ?_
    refine lv_i2f kx kb dX8_laughOf_26 ?_
    refine lv_ldcf (v := 1098907648) kx kb X.1.2.2.2.1 (X.1.2.2.2.2 _ q5_68) dX8_laughOf_27 ?_
    refine lv_fdiv kx kb dX8_laughOf_29 (hn.2.1) ?_
    refine lv_fadd kx kb dX8_laughOf_30 (hn.2.2.1) ?_
    refine lv_fdiv kx kb dX8_laughOf_31 (by have z := hn.2.2.2; rw [lfO, lfB, if_neg c0] at z; exact z) ?_
    exact w_fret X h ⟨by rw [lfO, lfB, if_neg c0], rfl⟩ dX8_laughOf_32
