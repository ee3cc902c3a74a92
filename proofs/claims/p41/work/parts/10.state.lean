section COPY
variable {p : Program} {l : Launch} {e : Env} {R : Room} {s : State} {m : MethodId} {args : Array Value} {below : List Frame} {meth : Method} {c : Code} {H : Heap} {locs : List Loc} {cells slots : Nat} {Q : State → Prop}
variable {cc : ByteArray} {nL : Nat} {own : String} {ret : Option FieldType} {g : gT} {N : Nat} {ad : Nat → Nat} {F : Nat → va_E} {A : Nat → Prop} {pc : Nat} {ls : Array Slot} {rest st : List Value} {index : Nat} {lvs : List (Nat × Value)}
theorem w_copyi (X : Kx p m meth c s args cc nL own ret) (M : Mx g N ad A s) (h : Hx g N ad F A s H locs) (i j : Nat) {n : Nat} {a b : Nat → Int32} (ha : arI g F i n a) (hb : arI g F j n b) (hi : i < N) (hj : j < N) (hl : lv_has ls nL lvs) (hn : n < 2147483648) (hlink : Cond.methodLink own index arraycopyName ∈ lw_g) (hR : 1 ≤ R.frames ∧ 30 ≤ R.locals) (hcat : (rest.map fun v => v.category).sum ≤ 8) (hdg : decode cc pc = .ok (.invokestatic index, 3))
    (kk : ∀ (F' : Nat → va_E) (H' : Heap) (locs' : List Loc), Hx g N ad F' A s H' locs' → arI g F' j n a → (∀ q, q ≠ j → F' q = F q) → W p l e R s m args below meth c H' locs' cells slots Q (F0 m (pc + 3) ls rest)) : W p l e R s m args below meth c H locs cells slots Q (F0 m pc ls (.int (nI n) :: .int (nI 0) :: .ref (ad j) :: .int (nI 0) :: .ref (ad i) :: rest)) := by
  obtain ⟨f, h1, h2⟩ := ha
  obtain ⟨f2, h3, h4⟩ := hb
  have hw : nativeFrameWords "java/lang/System" "arraycopy" 5 = 7 := by decide
  have hz : (nI 0).toNatClampNeg = 0 := by decide
  have hc : (nI n).toNatClampNeg = n := nI_clamp (by omega)
  refine va_copyi (ty := .int) X.1.1 X.1.2.1 (X.1.2.2.1.trans hl.1.symm) X.1.2.2.2.1 (X.1.2.2.2.2 _ hlink) (X.1.2.2.2.2 _ q2_47) (X.1.2.2.2.2 _ q2_46) (X.1.2.2.2.2 _ q1_10) M.1 h.1 (M.D F) h.2 i j 0 0 (wl_at hi h1) (wl_at hj h3) rfl rfl rfl (by decide) (by decide) (nI_pos (by omega)) (by rw [hz, hc]; omega) (by rw [hz, hc]; omega) (fun _ _ => rfl) hR.1 (by rw [hw]; omega) hdg (fun H1 locs1 hP hD hS => ?_)
  rw [wl_set, hz, hc] at hP
  refine kk _ H1 locs1 ⟨hP, hS⟩ ⟨va_cpy f f2 0 0 n, by simp [va_up], fun k hk => ?_⟩ (fun q hq => by simp [va_up, hq])
  simp [va_cpy, hk, h2 k hk]
theorem w_copyf (X : Kx p m meth c s args cc nL own ret) (M : Mx g N ad A s) (h : Hx g N ad F A s H locs) (i j : Nat) {n : Nat} {a b : Nat → UInt32} (ha : arF g F i n a) (hb : arF g F j n b) (hi : i < N) (hj : j < N) (hl : lv_has ls nL lvs) (hn : n < 2147483648) (hlink : Cond.methodLink own index arraycopyName ∈ lw_g) (hR : 1 ≤ R.frames ∧ 30 ≤ R.locals) (hcat : (rest.map fun v => v.category).sum ≤ 8) (hdg : decode cc pc = .ok (.invokestatic index, 3))
    (kk : ∀ (F' : Nat → va_E) (H' : Heap) (locs' : List Loc), Hx g N ad F' A s H' locs' → arF g F' j n a → (∀ q, q ≠ j → F' q = F q) → W p l e R s m args below meth c H' locs' cells slots Q (F0 m (pc + 3) ls rest)) : W p l e R s m args below meth c H locs cells slots Q (F0 m pc ls (.int (nI n) :: .int (nI 0) :: .ref (ad j) :: .int (nI 0) :: .ref (ad i) :: rest)) := by
  obtain ⟨f, h1, h2⟩ := ha
  obtain ⟨f2, h3, h4⟩ := hb
  have hw : nativeFrameWords "java/lang/System" "arraycopy" 5 = 7 := by decide
  have hz : (nI 0).toNatClampNeg = 0 := by decide
  have hc : (nI n).toNatClampNeg = n := nI_clamp (by omega)
  refine va_copyf (ty := .float) X.1.1 X.1.2.1 (X.1.2.2.1.trans hl.1.symm) X.1.2.2.2.1 (X.1.2.2.2.2 _ hlink) (X.1.2.2.2.2 _ q2_47) (X.1.2.2.2.2 _ q2_46) (X.1.2.2.2.2 _ q1_10) M.1 h.1 (M.D F) h.2 i j 1 1 (wl_at hi h1) (wl_at hj h3) rfl rfl rfl (by decide) (by decide) (nI_pos (by omega)) (by rw [hz, hc]; omega) (by rw [hz, hc]; omega) (fun _ _ => rfl) hR.1 (by rw [hw]; omega) hdg (fun H1 locs1 hP hD hS => ?_)
  rw [wl_set, hz, hc] at hP
  refine kk _ H1 locs1 ⟨hP, hS⟩ ⟨va_cpy f f2 0 0 n, by simp [va_up], fun k hk => ?_⟩ (fun q hq => by simp [va_up, hq])
  simp [va_cpy, hk, h2 k hk]
end COPY
/-! the objects of the class, by their places: what a new one of them lays behind itself stands at the next places -/
def oRow (g : gT) (N : Nat) (ad : Nat → Nat) (F : Nat → va_E) (i n : Nat) (a : Nat → Int32) : Prop := i + 1 < N ∧ F i = .inr (3, [.ref (ad (i + 1))]) ∧ arI g F (i + 1) n a
def oStrip (g : gT) (N : Nat) (ad : Nat → Nat) (F : Nat → va_E) (i n : Nat) (a : Nat → Int32) : Prop := i + 1 < N ∧ F i = .inr (5, [.ref (ad (i + 1)), .int (nI n)]) ∧ arC g F (i + 1) 60 a
def oJokes (g : gT) (N : Nat) (ad : Nat → Nat) (F : Nat → va_E) (i n : Nat) (j : Nat → Nat → Int32) : Prop := i + 10 < N ∧ F i = .inr (1, [.int (nI n), .ref (ad (i + 1)), .ref (ad (i + 3)), .ref (ad (i + 5)), .ref (ad (i + 7)), .ref (ad (i + 9))]) ∧ oRow g N ad F (i + 1) 12 (j 0) ∧ oRow g N ad F (i + 3) 12 (j 1) ∧ oRow g N ad F (i + 5) 12 (j 2) ∧ oRow g N ad F (i + 7) 12 (j 3) ∧ oRow g N ad F (i + 9) 12 (j 4)
def oTold (g : gT) (N : Nat) (ad : Nat → Nat) (F : Nat → va_E) (i n : Nat) (sm : UInt32) (t : Nat → Nat → Int32) (lf : Nat → UInt32) : Prop := i + 7 < N ∧ F i = .inr (6, [.int (nI n), .float sm, .ref (ad (i + 1)), .ref (ad (i + 3)), .ref (ad (i + 5)), .ref (ad (i + 6))]) ∧ oRow g N ad F (i + 1) 64 (t 0) ∧ oRow g N ad F (i + 3) 64 (t 1) ∧ arF g F (i + 5) 64 lf ∧ oRow g N ad F (i + 6) 64 (t 2)
def oState (g : gT) (N : Nat) (ad : Nat → Nat) (F : Nat → va_E) (b n : Nat) (j : Nat → Nat → Int32) (tn : Nat) (sm : UInt32) (t : Nat → Nat → Int32) (lf : Nat → UInt32) (bk z : Nat → Nat) : Prop := b + 21 < N ∧ F b = .inr (4, [.ref (ad (b + 1)), .ref (ad (b + 12)), .ref (ad (b + 20)), .int (nI (z 0)), .int (nI (z 1)), .int (nI (z 2)), .int (nI (z 3)), .int (nI (z 4)), .int (nI (z 5)), .int (nI (z 6)), .int (nI (z 7)), .int (nI (z 8))]) ∧ oJokes g N ad F (b + 1) n j ∧ oTold g N ad F (b + 12) tn sm t lf ∧ oRow g N ad F (b + 20) 4 (fun k => nI (bk k))
abbrev SX : Type := Nat × (Nat → Nat → Int32) × Nat × UInt32 × (Nat → Nat → Int32) × (Nat → UInt32) × (Nat → Nat) × (Nat → Nat)
def oSt (g : gT) (N : Nat) (ad : Nat → Nat) (F : Nat → va_E) (b : Nat) (x : SX) : Prop := oState g N ad F b x.1 x.2.1 x.2.2.1 x.2.2.2.1 x.2.2.2.2.1 x.2.2.2.2.2.1 x.2.2.2.2.2.2.1 x.2.2.2.2.2.2.2
section FRAME
variable {g : gT} {N : Nat} {ad : Nat → Nat} {F F' : Nat → va_E}
theorem oRow.fr {i n : Nat} {a : Nat → Int32} (h : oRow g N ad F i n a) (e : ∀ j, i ≤ j → j ≤ i + 1 → F' j = F j) : oRow g N ad F' i n a := ⟨h.1, (e _ (by omega) (by omega)).trans h.2.1, h.2.2.fr (e _ (by omega) (by omega))⟩
theorem oRow.eq {i n : Nat} {a b : Nat → Int32} (h : oRow g N ad F i n a) (e : ∀ k, k < n → a k = b k) : oRow g N ad F i n b := ⟨h.1, h.2.1, h.2.2.eq e⟩
theorem oStrip.fr {i n : Nat} {a : Nat → Int32} (h : oStrip g N ad F i n a) (e : ∀ j, i ≤ j → j ≤ i + 1 → F' j = F j) : oStrip g N ad F' i n a := ⟨h.1, (e _ (by omega) (by omega)).trans h.2.1, h.2.2.fr (e _ (by omega) (by omega))⟩
theorem oJokes.fr {i n : Nat} {j : Nat → Nat → Int32} (h : oJokes g N ad F i n j) (e : ∀ j, i ≤ j → j ≤ i + 10 → F' j = F j) : oJokes g N ad F' i n j := ⟨h.1, (e _ (by omega) (by omega)).trans h.2.1, h.2.2.1.fr (fun q h1 h2 => e q (by omega) (by omega)), h.2.2.2.1.fr (fun q h1 h2 => e q (by omega) (by omega)), h.2.2.2.2.1.fr (fun q h1 h2 => e q (by omega) (by omega)), h.2.2.2.2.2.1.fr (fun q h1 h2 => e q (by omega) (by omega)), h.2.2.2.2.2.2.fr (fun q h1 h2 => e q (by omega) (by omega))⟩
theorem oTold.fr {i n : Nat} {sm : UInt32} {t : Nat → Nat → Int32} {lf : Nat → UInt32} (h : oTold g N ad F i n sm t lf) (e : ∀ j, i ≤ j → j ≤ i + 7 → F' j = F j) : oTold g N ad F' i n sm t lf := ⟨h.1, (e _ (by omega) (by omega)).trans h.2.1, h.2.2.1.fr (fun q h1 h2 => e q (by omega) (by omega)), h.2.2.2.1.fr (fun q h1 h2 => e q (by omega) (by omega)), h.2.2.2.2.1.fr (e _ (by omega) (by omega)), h.2.2.2.2.2.fr (fun q h1 h2 => e q (by omega) (by omega))⟩
theorem oState.fr {b n : Nat} {j : Nat → Nat → Int32} {tn : Nat} {sm : UInt32} {t : Nat → Nat → Int32} {lf : Nat → UInt32} {bk z : Nat → Nat} (h : oState g N ad F b n j tn sm t lf bk z) (e : ∀ j, b ≤ j → j ≤ b + 21 → F' j = F j) : oState g N ad F' b n j tn sm t lf bk z := ⟨h.1, (e _ (by omega) (by omega)).trans h.2.1, h.2.2.1.fr (fun q h1 h2 => e q (by omega) (by omega)), h.2.2.2.1.fr (fun q h1 h2 => e q (by omega) (by omega)), h.2.2.2.2.fr (fun q h1 h2 => e q (by omega) (by omega))⟩
theorem oSt.fr {b : Nat} {x : SX} (h : oSt g N ad F b x) (e : ∀ j, b ≤ j → j ≤ b + 21 → F' j = F j) : oSt g N ad F' b x := oState.fr h e
end FRAME
/-- a row's answer at any index, and a row with a number put -/
def rowAt (n : Nat) (a : Nat → Int32) (x : Int32) : Int32 := if x < 0 then 0 else if nI n ≤ x then 0 else a x.toNatClampNeg
theorem rowAt_n {n k : Nat} {a : Nat → Int32} (hk : k < n) (hn : n < 2147483648) : rowAt n a (nI k) = a k := by
  rw [rowAt, if_neg (nI_pos (by omega)), if_neg (fun q => absurd ((nI_leI hn (by omega)).mp q) (by omega)), nI_clamp (by omega)]
def rowPut (n : Nat) (a : Nat → Int32) (k : Nat) (v : Int32) : Nat → Int32 := if k < n then upd a k v else a
theorem rowPut_in {n k : Nat} {a : Nat → Int32} {v : Int32} (h : k < n) : rowPut n a k v = upd a k v := if_pos h
def rowOut (n : Nat) (a : Nat → Int32) (k : Nat) : Nat → Int32 := fun j => if k ≤ j ∧ j + 1 < n then a (j + 1) else a j
theorem c2_n {k : Nat} (h : k < 65536) : ((nI k).toUInt32 % 65536).toInt32 = nI k := by rw [pk_char, pk_tn (by omega), Nat.mod_eq_of_lt h]
theorem nar_n {k : Nat} (h : k < 65536) : vp_nar .char (nI k) = nI k := by unfold vp_nar; rw [(pk_charN h).1]
theorem bI_tn {P : Prop} [Decidable P] (h : P) : nI 1 = bI P := by rw [bI_t h]; rfl
theorem bI_fn {P : Prop} [Decidable P] (h : ¬ P) : nI 0 = bI P := by rw [bI_f h]; rfl
theorem rowPut_j {j : Nat → Nat → Int32} {q n : Nat} {v : Int32} (h : n < 12) : rowPut 12 (j q) n v = upd (j q) n v := rowPut_in h
/-- a joke more at the end: well, depth, sign, wit, not primed -/
def jAdd (j : Nat → Nat → Int32) (n : Nat) (w d s t : Int32) : Nat → Nat → Int32 := fun q => rowPut 12 (j q) n (match q with | 0 => w | 1 => d | 2 => s | 3 => t | _ => nI 0)
def jOut (j : Nat → Nat → Int32) (k : Nat) : Nat → Nat → Int32 := fun q => rowOut 12 (j q) k
def cwP (j : Nat → Nat → Int32) (w d : Int32) : Nat → Bool := fun k => decide (j 0 k = w ∧ j 1 k ≤ d)
def bdP (j : Nat → Nat → Int32) (n : Nat) (w pl : Int32) : Nat → Bool := fun k => decide (j 0 k = w ∧ nI (cnt (cwP j w (j 1 k - nI 1)) n) = pl)
/-- a strip's characters at any index; a number of up to two digits -/
def sgAt (n : Nat) (a : Nat → Int32) (x : Int32) : Int32 := if x < 0 then -1 else if nI n ≤ x then -1 else a x.toNatClampNeg
theorem sgAt_n {n k : Nat} {a : Nat → Int32} (hn : n < 2147483648) (hk : k < 2147483648) : sgAt n a (nI k) = if k < n then a k else -1 := by
  rw [sgAt, if_neg (nI_pos hk)]
  by_cases h : k < n
  · rw [if_pos h, if_neg (fun q => absurd ((nI_leI hn hk).mp q) (by omega)), nI_clamp (by omega)]
  · rw [if_neg h, if_pos ((nI_leI hn hk).mpr (by omega))]
def dgN (v : Nat) : Nat := if v < 10 then 1 else 2
def numP (a : Nat → Int32) (n v : Nat) : Nat → Int32 := if v < 10 then upd a n (nI (48 + v % 10)) else upd (upd a n (nI (48 + v / 10))) (n + 1) (nI (48 + v % 10))
/-- a joke told more; the sum of laughs, one after the other -/
def tAdd (t : Nat → Nat → Int32) (n sg : Nat) (wl : Int32) : Nat → Nat → Int32 := fun q => match q with
  | 0 => rowPut 64 (t 0) n (nI sg)
  | 1 => rowPut 64 (t 1) n wl
  | _ => rowPut 64 (t q) sg (nI 1)
def fsum (lf : Nat → UInt32) : Nat → UInt32
  | 0 => FP.fconst0
  | n + 1 => FP.fadd (fsum lf n) (lf n)
/-- a laugh, in floats, and that nothing of it is a NaN -/
def lfB (wt pr : Int32) : UInt32 := if pr = 0 then FP.i2f wt else FP.fmul (FP.i2f wt) (1069547520 : UInt32)
def lfO (wt pr : Int32) (gr : Int32) : UInt32 := FP.fdiv (lfB wt pr) (FP.fadd FP.fconst1 (FP.fdiv (FP.i2f gr) (1098907648 : UInt32)))
def lnn (wt pr : Int32) (gr : Int32) : Prop := vf_n32 (FP.fmul (FP.i2f wt) (1069547520 : UInt32)) ∧ vf_n32 (FP.fdiv (FP.i2f gr) (1098907648 : UInt32)) ∧ vf_n32 (FP.fadd FP.fconst1 (FP.fdiv (FP.i2f gr) (1098907648 : UInt32))) ∧ vf_n32 (lfO wt pr gr)
section AALD
variable {p : Program} {l : Launch} {e : Env} {R : Room} {s : State} {m : MethodId} {args : Array Value} {below : List Frame} {meth : Method} {c : Code} {H : Heap} {locs : List Loc} {cells slots : Nat} {Q : State → Prop}
variable {cc : ByteArray} {nL : Nat} {own : String} {ret : Option FieldType} {g : gT} {N : Nat} {ad : Nat → Nat} {F : Nat → va_E} {A : Nat → Prop} {pc : Nat} {ls : Array Slot} {rest : List Value}
def arQ (g : gT) (F : Nat → va_E) (i n : Nat) (a : Nat → Option Nat) : Prop := ∃ f : Nat → Option Nat, F i = .inl (g.2.2.2.2.1, n, .inr (.inr (.inr (.inr f)))) ∧ ∀ k, k < n → f k = a k
theorem arQ.fr {g : gT} {F F' : Nat → va_E} {i n : Nat} {a : Nat → Option Nat} (h : arQ g F i n a) (e : F' i = F i) : arQ g F' i n a := by obtain ⟨f, h1, h2⟩ := h; exact ⟨f, e.trans h1, h2⟩
theorem w_aald (X : Kx p m meth c s args cc nL own ret) (M : Mx g N ad A s) (h : Hx g N ad F A s H locs) (i : Nat) {n : Nat} {a : Nat → Option Nat} (ha : arQ g F i n a) (hi : i < N) {x : Int32} (k : Nat) (hx : x = nI k) (hk : k < n) (hn : n < 2147483648) {v : Option Nat} (hv : a k = v) (hdg : decode cc pc = .ok (.aaload, 1)) (kk : W p l e R s m args below meth c H locs cells slots Q (F0 m (pc + 1) ls (va_rf v :: rest))) : W p l e R s m args below meth c H locs cells slots Q (F0 m pc ls (.int x :: .ref (ad i) :: rest)) := by
  obtain ⟨f, h1, h2⟩ := ha
  subst hx
  refine va_aldq X.1.1 X.1.2.1 M.1 h.1 i 3 (wl_at hi h1) rfl (vp_in_nI hk hn) hdg ?_
  rw [nI_clamp (by omega), h2 k hk, hv]
  exact kk
theorem w_alenq (X : Kx p m meth c s args cc nL own ret) (M : Mx g N ad A s) (h : Hx g N ad F A s H locs) (i : Nat) {n : Nat} {a : Nat → Option Nat} (ha : arQ g F i n a) (hi : i < N) (hdg : decode cc pc = .ok (.arraylength, 1)) (kk : W p l e R s m args below meth c H locs cells slots Q (F0 m (pc + 1) ls (.int (nI n) :: rest))) : W p l e R s m args below meth c H locs cells slots Q (F0 m pc ls (.ref (ad i) :: rest)) := by
  obtain ⟨f, h1, h2⟩ := ha
  exact va_alen (t0 := 3) (v := nI n) X.1.1 X.1.2.1 M.1 h.1 i (wl_at hi h1) rfl rfl hdg kk
end AALD
/-- a joke lifted; a stroke's numbers; how a stroke's jokes are lifted one after the other -/
def lift1 (x : SX) (k sg : Nat) : SX := (x.1 - 1, jOut x.2.1 k, x.2.2.1 + 1, FP.fadd x.2.2.2.1 (lfO (x.2.1 3 k) (x.2.1 4 k) (nI (x.2.2.2.2.2.2.2 3))), tAdd x.2.2.2.2.1 x.2.2.1 sg (x.2.1 0 k), vf_upd x.2.2.2.2.2.1 x.2.2.1 (lfO (x.2.1 3 k) (x.2.1 4 k) (nI (x.2.2.2.2.2.2.2 3))), x.2.2.2.2.2.2.1, x.2.2.2.2.2.2.2)
def zStrk (z : Nat → Nat) : Nat → Nat := fun q => match q with
  | 2 => min 30 (z 2 + z 1)
  | 3 => z 3 + (1 + min 30 (z 2 + z 1) / 10)
  | 7 => z 7 + 1
  | q => z q
def strk (x : SX) : SX := (x.1, x.2.1, x.2.2.1, x.2.2.2.1, x.2.2.2.2.1, x.2.2.2.2.2.1, x.2.2.2.2.2.2.1, zStrk x.2.2.2.2.2.2.2)
def liftOk (x : SX) (k sg : Nat) : Prop := k < x.1 ∧ x.1 ≤ 12 ∧ x.2.2.1 < 64 ∧ x.2.1 2 k = nI sg ∧ sg < 64 ∧ lnn (x.2.1 3 k) (x.2.1 4 k) (nI (x.2.2.2.2.2.2.2 3)) ∧ vf_n32 (FP.fadd x.2.2.2.1 (lfO (x.2.1 3 k) (x.2.1 4 k) (nI (x.2.2.2.2.2.2.2 3))))
def LiftR : Nat → SX → SX → Prop
  | 0, x, y => x = y
  | c + 1, x, y => ∃ k sg : Nat, liftOk x k sg ∧ ixO (bdP x.2.1 x.1 (nI (x.2.2.2.2.2.2.2 0)) (nI 0)) x.1 = nI k ∧ LiftR c (lift1 x k sg) y
def stCnt (x : SX) : Nat := min (cnt (cwP x.2.1 (nI (x.2.2.2.2.2.2.2 0)) (nI (x.2.2.2.2.2.2.2 2))) x.1) (x.2.2.2.2.2.2.1 (x.2.2.2.2.2.2.2 0))
