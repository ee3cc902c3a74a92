/-! the law's rows beyond the class's: longs, constants, the script, the texts -/
theorem lk_L_51 : LkS RL 51 yJxf58ca_floatToIntBits_5c35a cJxf58ca_floatToIntBits_5c35a 1 (some .int) 1 := LkS_of q2_188 q2_189 q1_11 q2_190 ⟨by decide, by decide, by decide +kernel⟩
theorem lk_L_8 : LkV RL 8 yJ0_length_8abf5 cJ0_length_8abf5 1 (some .int) 0 := LkV_of q3_29 q3_30 q3_31 q1_12 q3_32 ⟨by decide, by decide, by decide +kernel⟩
theorem lk_L_14 : LkV RL 14 yJ0_charAt_5068e cJ0_charAt_5068e 2 (some .char) 1 := LkV_of q3_39 q3_40 q3_41 q1_12 q3_42 ⟨by decide, by decide, by decide +kernel⟩
theorem q2_143 : Cond.constantLong "JokePumpLaw" 27 (17 : Int64) ∈ lw_g := lw_gm (tin2 (List.mem_of_getElem? (i := 143) (by decide +kernel))) (by decide +kernel)
theorem q2_144 : Cond.constantLong "JokePumpLaw" 29 (31 : Int64) ∈ lw_g := lw_gm (tin2 (List.mem_of_getElem? (i := 144) (by decide +kernel))) (by decide +kernel)
theorem q2_166 : Cond.constantLong "JokePumpLaw" 42 (10 : Int64) ∈ lw_g := lw_gm (tin2 (List.mem_of_getElem? (i := 166) (by decide +kernel))) (by decide +kernel)
def CtL (l : Launch) (y : MethodName) (cc : ByteArray) (nL : Nat) (ret : Option FieldType) (fm lo : Nat) (g : gT) (N : Nat) (ad : Nat → Nat) (F : Nat → va_E) (As : List Value) (post : Int64 → (Nat → va_E) → Prop) : Prop := ∀ sz : Nat, Met l y (WS y cc nL ret) (rmR fm lo) (va_Pc As (Pw g N ad F sz)) (va_Ql post (Bw g N ad) (fr N ad sz)) 0 0 (fr N ad sz)
section CTL
variable {l : Launch} {y : MethodName} {cc : ByteArray} {nL : Nat} {ret : Option FieldType} {fm lo : Nat} {g : gT} {N : Nat} {ad : Nat → Nat} {F : Nat → va_E} {As : List Value}
abbrev GwL (l : Launch) (cc : ByteArray) (nL : Nat) (own : String) (ret : Option FieldType) (fm lo : Nat) (g : gT) (N : Nat) (ad : Nat → Nat) (F : Nat → va_E) (As : List Value) (post : Int64 → (Nat → va_E) → Prop) : Prop := ∀ (p : Program) (e : Env) (s : State) (m : MethodId) (args : Array Value) (below : List Frame) (meth : Method) (c : Code) (A : Nat → Prop) (H : Heap) (ls : Array Slot), Kx p m meth c s args cc nL own ret → Mx g N ad A s → Hx g N ad F A s H [] → lv_has ls nL (lv_args 0 As) → W p l e (rmR fm lo) s m args below meth c H [] 0 0 (MQ below (va_Ql post (Bw g N ad) A) args s 0 0 A) (F0 m 0 ls [])
theorem CtL_of {post : Int64 → (Nat → va_E) → Prop} (hy : plainName y.cls = true) (hlen : (lg_sl As).length ≤ nL) (body : GwL l cc nL y.cls ret fm lo g N ad F As post) : CtL l y cc nL ret fm lo g N ad F As post := fun sz => met_body (Qc := fun A => va_Ql post (Bw g N ad) A) hy hlen body sz
end CTL
section LBR
variable {p : Program} {l : Launch} {e : Env} {R : Room} {s : State} {m : MethodId} {args : Array Value} {below : List Frame} {meth : Method} {c : Code} {H : Heap} {locs : List Loc} {cells slots : Nat} {Q : State → Prop}
variable {cc : ByteArray} {nL : Nat} {own : String} {ret : Option FieldType} {g : gT} {N : Nat} {ad : Nat → Nat} {F : Nat → va_E} {A : Nat → Prop} {pc : Nat} {ls : Array Slot} {rest st : List Value}
variable {y : MethodName} {ccY : ByteArray} {nY : Nat} {retY : Option FieldType} {fm lo index n ci n0 : Nat} {T : u_T} {fs : List Value} {lvs : List (Nat × Value)}
theorem w_callSl {post : Int64 → (Nat → va_E) → Prop} (X : Kx p m meth c s args cc nL own ret) (M : Mx g N ad A s) (h : Hx g N ad F A s H locs) (As : List Value) (rest : List Value) (hM : CtL l y ccY nY retY fm lo g N ad F As post) (lk : LkS own index y ccY nY retY n) (hn : As.length = n) (hR : fm + 1 ≤ R.frames ∧ 8 + (nY + 11) + lo ≤ R.locals) (hl : lv_has ls nL lvs) (hcs : cells ≤ R.cells ∧ slots ≤ R.slots) (hcat : (rest.map fun v => v.category).sum ≤ 8) (hst : st = As.reverse ++ rest) (hdg : decode cc pc = .ok (.invokestatic index, 3))
    (kk : ∀ (r : Int64) (F' : Nat → va_E) (H' : Heap) (locs' : List Loc), post r F' → Hx g N ad F' A s H' locs' → W p l e R s m args below meth c H' locs' cells slots Q (F0 m (pc + 3) ls (.long r :: rest))) : W p l e R s m args below meth c H locs cells slots Q (F0 m pc ls st) := by
  subst hst
  refine va_calll (va_runS (As := As) (rest := rest) X.1 (hM H.size) (w_cwS X lk hR) (w_preS M h) rfl hn hl.1 rfl (lv_room hcat) hdg hcs) h.2 (fun q _ hq => w_free M h q hq) (fun q hq => w_free M h q hq) (fun r u t H1 locs1 ht hvm hp hB hz hk hS => ?_)
  exact kk r u H1 locs1 hp ⟨by rw [Bw, ht] at hB; exact hB, hS⟩
theorem w_readSl {ans : Int64} (X : Kx p m meth c s args cc nL own ret) (M : Mx g N ad A s) (h : Hx g N ad F A s H locs) (As : List Value) (rest : List Value) (hM : CtL l y ccY nY retY fm lo g N ad F As (fun r F' => r = ans ∧ F' = F)) (lk : LkS own index y ccY nY retY n) (hn : As.length = n) (hR : fm + 1 ≤ R.frames ∧ 8 + (nY + 11) + lo ≤ R.locals) (hl : lv_has ls nL lvs) (hcs : cells ≤ R.cells ∧ slots ≤ R.slots) (hcat : (rest.map fun v => v.category).sum ≤ 8) (hst : st = As.reverse ++ rest) (hdg : decode cc pc = .ok (.invokestatic index, 3))
    (kk : ∀ (H' : Heap) (locs' : List Loc), Hx g N ad F A s H' locs' → W p l e R s m args below meth c H' locs' cells slots Q (F0 m (pc + 3) ls (.long ans :: rest))) : W p l e R s m args below meth c H locs cells slots Q (F0 m pc ls st) := by
  refine w_callSl X M h As rest hM lk hn hR hl hcs hcat hst hdg (fun r F' H' locs' hp hh => ?_)
  obtain ⟨h1, h2⟩ := hp
  rw [h1]
  rw [h2] at hh
  exact kk H' locs' hh
theorem w_lret {post : Int64 → (Nat → va_E) → Prop} (X : Kx p m meth c s args cc nL own (some .long)) (h : Hx g N ad F A s H locs) {v : Int64} (hp : post v F) (hdg : decode cc pc = .ok (.lreturn, 1)) : W p l e R s m args below meth c H locs 0 0 (MQ below (va_Ql post (Bw g N ad) A) args s 0 0 A) (F0 m pc ls [.long v]) :=
  W.lret X.1.1 X.1.2.1 X.2.1 (fun t ht hW => ⟨⟨v, F, rfl, hp, by rw [Bw, ht]; exact h.1⟩, h.2.F ht⟩) h.2.2.2 hdg X.2.2
theorem w_topL {x y : Int64} (h : x = y) (k : W p l e R s m args below meth c H locs cells slots Q (F0 m pc ls (.long y :: rest))) : W p l e R s m args below meth c H locs cells slots Q (F0 m pc ls (.long x :: rest)) := by rw [h]; exact k
theorem w_topF {x y : UInt32} (h : x = y) (k : W p l e R s m args below meth c H locs cells slots Q (F0 m pc ls (.float y :: rest))) : W p l e R s m args below meth c H locs cells slots Q (F0 m pc ls (.float x :: rest)) := by rw [h]; exact k
theorem w_ldcI (X : Kx p m meth c s args cc nL own ret) {index : Nat} {v : Int32} (hc : Cond.constant own index v ∈ lw_g) (hdg : decode cc pc = .ok (.ldc index, 2)) (k : W p l e R s m args below meth c H locs cells slots Q (F0 m (pc + 2) ls (.int v :: rest))) : W p l e R s m args below meth c H locs cells slots Q (F0 m pc ls rest) := lv_ldc X.1.1 X.1.2.1 X.1.2.2.2.1 (X.1.2.2.2.2 _ hc) hdg k
theorem w_ldcL (X : Kx p m meth c s args cc nL own ret) {index : Nat} {v : Int64} (hc : Cond.constantLong own index v ∈ lw_g) (hdg : decode cc pc = .ok (.ldc2_w index, 3)) (k : W p l e R s m args below meth c H locs cells slots Q (F0 m (pc + 3) ls (.long v :: rest))) : W p l e R s m args below meth c H locs cells slots Q (F0 m pc ls rest) := lv_ldc2 X.1.1 X.1.2.1 X.1.2.2.2.1 (X.1.2.2.2.2 _ hc) hdg k
theorem w_lcmpE (X : Kx p m meth c s args cc nL own ret) {v : Int64} (hdg : decode cc pc = .ok (.lcmp, 1)) (k : W p l e R s m args below meth c H locs cells slots Q (F0 m (pc + 1) ls (.int (nI 0) :: rest))) : W p l e R s m args below meth c H locs cells slots Q (F0 m pc ls (.long v :: .long v :: rest)) := W.lcmp X.1.1 X.1.2.1 hdg (by rw [lcmp_self]; exact k)
theorem ltL {k L : Nat} (hk : k < 2147483648) (h : ¬ nI L ≤ nI k) : k < L := by
  have h1 : nI k < nI L := Int32.not_le.mp h
  rw [ltI, nI_toInt hk] at h1
  have h2 : (nI L).toInt ≤ (L : Int) := by
    rw [show (nI L).toInt = (L : Int).bmod 4294967296 from Int32.toInt_ofNat', Int.bmod_eq_emod]
    split <;> omega
  omega
theorem w_scr (X : Kx p m meth c s args cc nL own ret) (M : Mx g N ad A s) (h : Hx g N ad F A s H locs) {k : Nat} (hk : k < 1000) (hL : k < g.2.2.2.2.2.1 101) (hdg : decode cc pc = .ok (.iaload, 1)) (kk : W p l e R s m args below meth c H locs cells slots Q (F0 m (pc + 1) ls (.int (nI (g.2.2.2.2.2.2 (1000 + k))) :: rest))) : W p l e R s m args below meth c H locs cells slots Q (F0 m pc ls (.int (nI k) :: .ref (g.2.2.2.2.2.1 100) :: rest)) :=
  va_ti X.1.1 X.1.2.1 M.2.2.2.2.2.2.2.2.2.1 h.2 (i := nI k) (by
    intro z
    rcases z with z | z
    · exact nI_pos (by omega) z
    · rw [nI_clamp (by omega)] at z
      omega) (by rw [nI_clamp (by omega)]) hdg kk
theorem w_scrL (X : Kx p m meth c s args cc nL own ret) (M : Mx g N ad A s) (h : Hx g N ad F A s H locs) (hdg : decode cc pc = .ok (.arraylength, 1)) (kk : W p l e R s m args below meth c H locs cells slots Q (F0 m (pc + 1) ls (.int (nI (g.2.2.2.2.2.1 101)) :: rest))) : W p l e R s m args below meth c H locs cells slots Q (F0 m pc ls (.ref (g.2.2.2.2.2.1 100) :: rest)) :=
  va_tlen X.1.1 X.1.2.1 M.2.2.2.2.2.2.2.2.2.1 h.2 (v := nI (g.2.2.2.2.2.1 101)) rfl hdg kk
theorem w_texts (X : Kx p m meth c s args cc nL "JokePumpLaw" ret) (M : Mx g N ad A s) (h : Hx g N ad F A s H locs) {k pc2 : Nat} (hk : k < 8) (hdg : decode cc pc = .ok (.getstatic 90, 3)) (kk : ∀ tA : Nat, va_T (.object "java/lang/String") tA 8 (fun j => .ref (g.2.2.2.2.2.1 (8 + j))) A s s.heap → W p l e R s m args below meth c H locs cells slots Q (F0 m (pc + 3) ls (.ref tA :: rest))) : W p l e R s m args below meth c H locs cells slots Q (F0 m pc ls rest) := by
  obtain ⟨tA, hTA, hTT⟩ := M.2.2.2.2.2.2.2.2.2.2
  exact va_gets X.1.1 X.1.2.1 hTA h.2 X.1.2.2.2.1 (X.1.2.2.2.2 _ q3_24) (fun x hx => hx) hdg (kk tA hTT)
theorem w_textAt (X : Kx p m meth c s args cc nL own ret) (h : Hx g N ad F A s H locs) {tA k : Nat} (hT : va_T (.object "java/lang/String") tA 8 (fun j => .ref (g.2.2.2.2.2.1 (8 + j))) A s s.heap) (hk : k < 8) (hdg : decode cc pc = .ok (.aaload, 1)) (kk : W p l e R s m args below meth c H locs cells slots Q (F0 m (pc + 1) ls (.ref (g.2.2.2.2.2.1 (8 + k)) :: rest))) : W p l e R s m args below meth c H locs cells slots Q (F0 m pc ls (.int (nI k) :: .ref tA :: rest)) :=
  vb_tq X.1.1 X.1.2.1 hT h.2 (i := nI k) (vp_in_nI hk (by omega)) (v := .ref (g.2.2.2.2.2.1 (8 + k))) (by rw [nI_clamp (by omega)]) hdg kk
end LBR
theorem sx_vis : ∀ i, i < 16 → ∀ k, k < sxN i → (8 ≤ i → inW (sxB i k) (nI 32) (nI 126)) ∧ vp_nar .char (sxB i k) = sxB i k := by decide +kernel
def chN (v : Int32) (n : Nat) : Nat := cl (v &&& 2147483647) % n
theorem chN_lt {v : Int32} {n : Nat} (h : 0 < n) : chN v n < n := Nat.mod_lt _ h
theorem chN_in (v : Int32) : v &&& 2147483647 = nI (cl (v &&& 2147483647)) ∧ cl (v &&& 2147483647) < 2147483648 := by
  obtain ⟨k, hk, e⟩ := and_pos v
  rw [e, cl_n hk]
  exact ⟨rfl, hk⟩
theorem PZ.o7 {g : gT} {N : Nat} {ad : Nat → Nat} {F : Nat → va_E} {x sv : SX} {hs : Nat → SX} {ct : Nat} {q : Nat → Int32} {il : Nat} (h : PZ g N ad F x sv hs ct q il) : 254 ≤ N ∧ F 0 = .inr (7, [.ref (ad 1), .ref (ad 23), .int (q 0), .ref (ad 45), .ref (ad 245), .ref (ad 247), .ref (ad 249), .int (q 1), .int (q 2), .int (q 3), .int (q 4), .int (q 5)]) := by
  obtain ⟨h1, h2, h3, h4, nx, L, ia, h5, h6⟩ := h
  exact h6.1
