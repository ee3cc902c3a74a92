theorem met_bodyF {Qc : (Nat → Prop) → Array Value → State → Outcome → State → Prop} {l : Launch} {y : MethodName} {cc : ByteArray} {nL : Nat} {ret : Option FieldType} {fm lo : Nat} {g : gT} {N : Nat} {ad : Nat → Nat} {F : Nat → va_E} {As : List Value} (hy : plainFor y = true) (hlen : (lg_sl As).length ≤ nL)
    (body : ∀ (p : Program) (e : Env) (s : State) (m : MethodId) (args : Array Value) (below : List Frame) (meth : Method) (c : Code) (A : Nat → Prop) (H : Heap) (ls : Array Slot), Kx p m meth c s args cc nL y.cls ret → Mx g N ad A s → Hx g N ad F A s H [] → lv_has ls nL (lv_args 0 As) → W p l e (rmR fm lo) s m args below meth c H [] 0 0 (MQ below (Qc A) args s 0 0 A) (F0 m 0 ls [])) (sz : Nat) : Met l y (WS y cc nL ret) (rmR fm lo) (va_Pc As (Pw g N ad F sz)) (Qc (fr N ad sz)) 0 0 (fr N ad sz) := by
  refine va_MetF (cc := cc) (maxL := nL) (ret := ret) hy rfl ?_
  intro p e s m args below meth c s₁ B hml hv
  obtain ⟨rfl, hsz, hP, hK, hI, hNw, hSx⟩ := hv
  have hts := atoms_spec (ws := WS y cc nL ret) B.pre
  have hown : s.vm.findClass y.cls = some m.cls := findClass_of_methodNamed B.named
  subst hsz
  have hl := lv_entry As hlen
  rw [lg_entry_eq]
  exact body p e s m _ below meth c _ s.heap _ ⟨⟨B.exec, B.bytes, hml, hown, lwg_code hts⟩, B.returns, B.notSynchronized⟩ ⟨hK, hI, fun i hi => Or.inl ⟨i, hi, rfl⟩, fun q h => Or.inr h, hNw, hSx⟩ ⟨hP, va_S.rf⟩ hl
section CT
variable {l : Launch} {y : MethodName} {cc : ByteArray} {nL : Nat} {ret : Option FieldType} {fm lo : Nat} {g : gT} {N : Nat} {ad : Nat → Nat} {F : Nat → va_E} {As : List Value}
theorem CtI_ofF {post : Int32 → (Nat → va_E) → Prop} (hy : plainFor y = true) (hlen : (lg_sl As).length ≤ nL) (body : GwI l cc nL y.cls ret fm lo g N ad F As post) : CtI l y cc nL ret fm lo g N ad F As post := fun sz => met_bodyF (Qc := fun A => va_Qi post (Bw g N ad) A) hy hlen body sz
end CT
theorem dJxf58ca_isNaN_12338_0 : decode cJxf58ca_isNaN_12338 0 = .ok (.fload_n 0, 1) := by decide +kernel
theorem dJxf58ca_isNaN_12338_1 : decode cJxf58ca_isNaN_12338 1 = .ok (.fload_n 0, 1) := by decide +kernel
theorem dJxf58ca_isNaN_12338_2 : decode cJxf58ca_isNaN_12338 2 = .ok (.fcmp .l, 1) := by decide +kernel
theorem dJxf58ca_isNaN_12338_3 : decode cJxf58ca_isNaN_12338 3 = .ok (.ifCond .eq 7, 3) := by decide +kernel
theorem dJxf58ca_isNaN_12338_6 : decode cJxf58ca_isNaN_12338 6 = .ok (.iconst 1, 1) := by decide +kernel
theorem dJxf58ca_isNaN_12338_7 : decode cJxf58ca_isNaN_12338 7 = .ok (.goto 4, 3) := by decide +kernel
theorem dJxf58ca_isNaN_12338_10 : decode cJxf58ca_isNaN_12338 10 = .ok (.iconst 0, 1) := by decide +kernel
theorem dJxf58ca_isNaN_12338_11 : decode cJxf58ca_isNaN_12338 11 = .ok (.ireturn, 1) := by decide +kernel
theorem dJxf58ca_floatToIntBits_5c35a_0 : decode cJxf58ca_floatToIntBits_5c35a 0 = .ok (.fload_n 0, 1) := by decide +kernel
theorem dJxf58ca_floatToIntBits_5c35a_1 : decode cJxf58ca_floatToIntBits_5c35a 1 = .ok (.invokestatic 59, 3) := by decide +kernel
theorem dJxf58ca_floatToIntBits_5c35a_4 : decode cJxf58ca_floatToIntBits_5c35a 4 = .ok (.ifCond .ne 8, 3) := by decide +kernel
theorem dJxf58ca_floatToIntBits_5c35a_7 : decode cJxf58ca_floatToIntBits_5c35a 7 = .ok (.fload_n 0, 1) := by decide +kernel
theorem dJxf58ca_floatToIntBits_5c35a_8 : decode cJxf58ca_floatToIntBits_5c35a 8 = .ok (.invokestatic 74, 3) := by decide +kernel
theorem dJxf58ca_floatToIntBits_5c35a_11 : decode cJxf58ca_floatToIntBits_5c35a 11 = .ok (.ireturn, 1) := by decide +kernel
theorem dJxf58ca_floatToIntBits_5c35a_12 : decode cJxf58ca_floatToIntBits_5c35a 12 = .ok (.ldc 77, 2) := by decide +kernel
theorem dJxf58ca_floatToIntBits_5c35a_14 : decode cJxf58ca_floatToIntBits_5c35a 14 = .ok (.ireturn, 1) := by decide +kernel
theorem lk_Jxf58ca_59 : LkS RJxf58ca 59 yJxf58ca_isNaN_12338 cJxf58ca_isNaN_12338 1 (some .boolean) 1 := LkS_of q2_191 q2_192 q1_11 q2_193 ⟨by decide, by decide, by decide +kernel⟩
section FLT
variable {p : Program} {l : Launch} {e : Env} {R : Room} {s : State} {m : MethodId} {args : Array Value} {below : List Frame} {meth : Method} {c : Code} {H : Heap} {locs : List Loc} {cells slots : Nat} {Q : State → Prop}
variable {cc : ByteArray} {nL : Nat} {own : String} {ret : Option FieldType} {pc : Nat} {ls : Array Slot} {rest : List Value} {index : Nat} {lvs : List (Nat × Value)}
theorem w_f2ib (X : Kx p m meth c s args cc nL own ret) (hl : lv_has ls nL lvs) (hlink : Cond.methodLink own index ⟨"java/lang/Float", "floatToRawIntBits", "(F)I"⟩ ∈ lw_g) (hR : 1 ≤ R.frames ∧ 20 ≤ R.locals) (hcat : (rest.map fun v => v.category).sum ≤ 5) {v : UInt32} (hdg : decode cc pc = .ok (.invokestatic index, 3)) (kk : W p l e R s m args below meth c H locs cells slots Q (F0 m (pc + 3) ls (.int v.toInt32 :: rest))) : W p l e R s m args below meth c H locs cells slots Q (F0 m pc ls (.float v :: rest)) :=
  vn_f2i X.1.1 X.1.2.1 (X.1.2.2.1.trans hl.1.symm) X.1.2.2.2.1 (X.1.2.2.2.2 _ hlink) (X.1.2.2.2.2 _ q2_196) (X.1.2.2.2.2 _ q2_195) (X.1.2.2.2.2 _ q1_11) hR.1 (by omega) hdg kk
theorem w_i2fb0 (X : Kx p m meth c s args cc nL own ret) (hl : lv_has ls nL lvs) (hlink : Cond.methodLink own index ⟨"java/lang/Float", "intBitsToFloat", "(I)F"⟩ ∈ lw_g) (hR : 1 ≤ R.frames ∧ 20 ≤ R.locals) (hcat : (rest.map fun v => v.category).sum ≤ 5) {b : Int32} (hv : vn_sni2f b = false) (hdg : decode cc pc = .ok (.invokestatic index, 3)) (kk : W p l e R s m args below meth c H locs cells slots Q (F0 m (pc + 3) ls (.float b.toUInt32 :: rest))) : W p l e R s m args below meth c H locs cells slots Q (F0 m pc ls (.int b :: rest)) :=
  vn_i2f X.1.1 X.1.2.1 (X.1.2.2.1.trans hl.1.symm) X.1.2.2.2.1 (X.1.2.2.2.2 _ hlink) (X.1.2.2.2.2 _ q3_238) (X.1.2.2.2.2 _ q3_237) (X.1.2.2.2.2 _ q1_11) (hv := hv) hR.1 (by omega) hdg kk
theorem w_i2fb (X : Kx p m meth c s args cc nL own ret) (hl : lv_has ls nL lvs) (hlink : Cond.methodLink own index ⟨"java/lang/Float", "intBitsToFloat", "(I)F"⟩ ∈ lw_g) (hR : 1 ≤ R.frames ∧ 20 ≤ R.locals) (hcat : (rest.map fun v => v.category).sum ≤ 5) {v : UInt32} (hv : nnF v) (hdg : decode cc pc = .ok (.invokestatic index, 3)) (kk : W p l e R s m args below meth c H locs cells slots Q (F0 m (pc + 3) ls (.float v :: rest))) : W p l e R s m args below meth c H locs cells slots Q (F0 m pc ls (.int (fb v) :: rest)) := by
  refine w_i2fb0 X hl hlink hR hcat (b := fb v) (nnF_s hv) hdg ?_
  rw [fb_back]
  exact kk
end FLT
set_option maxRecDepth 20000 in
theorem c_JF_isNaN (l : Launch) (g : gT) {N : Nat} {ad : Nat → Nat} {F : Nat → va_E} (v : UInt32) (hv : nnF v) : CtI l yJxf58ca_isNaN_12338 cJxf58ca_isNaN_12338 1 (some .boolean) 0 0 g N ad F [.float v] (fun r F' => r = nI 0 ∧ F' = F) := by
  refine CtI_ofF (by decide +kernel) (Nat.le_of_ble_eq_true rfl) ?_
  intro p e s m args below meth c A H ls X M h hl
  have kx := X.1.1
  have kb := X.1.2.1
  have hl : lv_has ls 1 [(0, .float v)] := hl
  refine lv_fload_n kx kb dJxf58ca_isNaN_12338_0 rfl (lv_at hl 0 rfl) ?_
  refine lv_fload_n kx kb dJxf58ca_isNaN_12338_1 rfl (lv_at hl 0 rfl) ?_
  refine lv_fcmp kx kb dJxf58ca_isNaN_12338_2 ?_
  refine lv_if_eq (tgt := 10) kx kb dJxf58ca_isNaN_12338_3 (by decide) (fun c_1 => ?_) (fun c_1 => (show False from absurd (nnF_cmp hv) c_1).elim)
  refine lv_iconst (v := nI 0) kx kb dJxf58ca_isNaN_12338_10 (by decide) ?_
  exact w_zret X h (Or.inl (by decide)) ⟨rfl, rfl⟩ dJxf58ca_isNaN_12338_11
set_option maxRecDepth 20000 in
theorem c_JF_f2i (l : Launch) (g : gT) {N : Nat} {ad : Nat → Nat} {F : Nat → va_E} (v : UInt32) (hv : nnF v) : CtI l yJxf58ca_floatToIntBits_5c35a cJxf58ca_floatToIntBits_5c35a 1 (some .int) 1 20 g N ad F [.float v] (fun r F' => r = fb v ∧ F' = F) := by
  refine CtI_ofF (by decide +kernel) (Nat.le_of_ble_eq_true rfl) ?_
  intro p e s m args below meth c A H ls X M h hl
  have kx := X.1.1
  have kb := X.1.2.1
  have hl : lv_has ls 1 [(0, .float v)] := hl
  refine lv_fload_n kx kb dJxf58ca_floatToIntBits_5c35a_0 rfl (lv_at hl 0 rfl) ?_
  refine w_readSi X M h [.float v] [] ((c_JF_isNaN l g v hv)) lk_Jxf58ca_59 rfl ⟨by decide, by decide⟩ hl ⟨Nat.zero_le _, Nat.zero_le _⟩ (Nat.le_of_ble_eq_true rfl) rfl dJxf58ca_floatToIntBits_5c35a_1 (fun H locs h => ?_)
  refine lv_if_ne (tgt := 12) kx kb dJxf58ca_floatToIntBits_5c35a_4 (by decide) (fun q => absurd (by decide) q) (fun _ => ?_)
  refine lv_fload_n kx kb dJxf58ca_floatToIntBits_5c35a_7 rfl (lv_at hl 0 rfl) ?_
  refine w_f2ib X hl q2_194 ⟨by decide, by decide⟩ (Nat.le_of_ble_eq_true rfl) dJxf58ca_floatToIntBits_5c35a_8 ?_
  exact w_iret X h ⟨rfl, rfl⟩ dJxf58ca_floatToIntBits_5c35a_11
