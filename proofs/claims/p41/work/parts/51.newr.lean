/-- a new state -/
def stX0 : SX := (0, fun _ _ => nI 0, 0, FP.fconst0, fun _ _ => nI 0, fun _ => 0, fun _ => 2, fun k => match k with | 1 => 3 | 4 => 9 | _ => 0)
/-! what is made: objects, arrays, constructors; the world grows at its end -/
def rmC (fm lo nc ns : Nat) : Room := { frames := fm, cells := nc, slots := ns, locals := lo }
def PwC (g : gT) (N : Nat) (ad : Nat → Nat) (F : Nat → va_E) (sz : Nat) : State → Prop := fun U => Pw g N ad F sz U ∧ va_AO RX4 U
def Bn (g : gT) (N N' : Nat) (ad : Nat → Nat) (sz : Nat) : (Nat → Nat) × (Nat → va_E) → State → Prop := fun u t => va_P g.1 vwCl (wl N' u.1 u.2) t.heap ∧ (∀ i j, i < N' → j < N' → u.1 i = u.1 j → i = j) ∧ (∀ i, i < N' → fr N ad sz (u.1 i)) ∧ ∀ i, i < N → u.1 i = ad i
def CtN (l : Launch) (y : MethodName) (cc : ByteArray) (nL : Nat) (fm lo nc ns : Nat) (g : gT) (N k : Nat) (ad : Nat → Nat) (F : Nat → va_E) (As : List Value) (post : (Nat → Nat) → (Nat → va_E) → Prop) : Prop := ∀ sz : Nat, Met l y (WS y cc nL none) (rmC fm lo nc ns) (va_Pc As (PwC g N ad F sz)) (va_Qv (fun u : (Nat → Nat) × (Nat → va_E) => post u.1 u.2) (Bn g N (N + k) ad sz) (fr N ad sz)) nc ns (fr N ad sz)
theorem blind_wC {g : gT} {N : Nat} {ad : Nat → Nat} {F : Nat → va_E} {sz : Nat} {As : List Value} : FrameBlind (va_Pc As (PwC g N ad F sz)) := by
  intro a U gg mk q
  obtain ⟨q0, ⟨q1, qP, qK, qD, qN, qX⟩, qA⟩ := q
  exact ⟨q0, ⟨q1, qP, va_K.moved (u := U) (U := U.calling gg mk a) (Vm.Alike.refl U.vm) qK, qD, NwX.same (u := U) (U := U.calling gg mk a) rfl qN, Sx.same (u := U) (U := U.calling gg mk a) qX rfl⟩, va_AO.moved (u := U) (U := U.calling gg mk a) (Vm.Alike.refl U.vm) qA⟩
theorem met_bodyN {l : Launch} {y : MethodName} {cc : ByteArray} {nL : Nat} {fm lo nc ns : Nat} {g : gT} {N : Nat} {ad : Nat → Nat} {F : Nat → va_E} {As : List Value} {k : Nat} {post : (Nat → Nat) → (Nat → va_E) → Prop} (hy : plainName y.cls = true) (hi : y.name = "<init>") (hlen : (lg_sl As).length ≤ nL)
    (body : ∀ (p : Program) (e : Env) (s : State) (m : MethodId) (args : Array Value) (below : List Frame) (meth : Method) (c : Code) (A : Nat → Prop) (H : Heap) (ls : Array Slot), A = fr N ad s.heap.size → Kx p m meth c s args cc nL y.cls none → Mx g N ad A s → Hx g N ad F A s H [] → va_AO RX4 s → meth.name = "<init>" → lv_has ls nL (lv_args 0 As) → W p l e (rmC fm lo nc ns) s m args below meth c H [] 0 0 (MQ below (va_Qv (fun u : (Nat → Nat) × (Nat → va_E) => post u.1 u.2) (Bn g N (N + k) ad s.heap.size) A) args s nc ns A) (F0 m 0 ls [])) : CtN l y cc nL fm lo nc ns g N k ad F As post := by
  intro sz
  refine Met.ofW (cc := cc) (maxL := nL) (ret := none) hy rfl ?_
  intro p e s m args below meth c s₁ B hml hv
  obtain ⟨rfl, ⟨hsz, hP, hK, hI, hNw, hSx⟩, hAO⟩ := hv
  have hts := atoms_spec (ws := WS y cc nL none) B.pre
  have hown : s.vm.findClass y.cls = some m.cls := findClass_of_methodNamed B.named
  have hnm : meth.name = "<init>" := (name_of_methodNamed B.named B.method).1.trans hi
  subst hsz
  have hl := lv_entry As hlen
  rw [lg_entry_eq]
  exact body p e s m _ below meth c _ s.heap _ rfl ⟨⟨B.exec, B.bytes, hml, hown, lwg_code hts⟩, B.returns, B.notSynchronized⟩ ⟨hK, hI, fun i hi => Or.inl ⟨i, hi, rfl⟩, fun q h => Or.inr h, hNw, hSx⟩ ⟨hP, va_S.rf⟩ hAO hnm hl
section NEW
variable {p : Program} {l : Launch} {e : Env} {R : Room} {s : State} {m : MethodId} {args : Array Value} {below : List Frame} {meth : Method} {c : Code} {H : Heap} {locs : List Loc} {cells slots : Nat} {Q : State → Prop}
variable {cc : ByteArray} {nL : Nat} {own : String} {ret : Option FieldType} {g : gT} {N : Nat} {ad : Nat → Nat} {F : Nat → va_E} {A : Nat → Prop} {pc : Nat} {ls : Array Slot} {rest st : List Value}
variable {y : MethodName} {ccY : ByteArray} {nY : Nat} {fm lo nc ns index n k ci n0 : Nat} {T : u_T} {fs : List Value} {lvs : List (Nat × Value)}
/-- one more place -/
theorem Mx.push (M : Mx g N ad A s) {q : Nat} {x : va_E} (hD : va_D A (wl N ad F ++ [(q, x)])) : Mx g (N + 1) (va_up ad N q) A s := by
  rw [wl_push] at hD
  exact ⟨M.1, fun i j hi hj e => hD.1 i j _ _ (wl_at hi rfl) (wl_at hj rfl) e, fun i hi => hD.2 i _ (wl_at hi rfl), M.2.2.2.1, M.2.2.2.2.1, M.2.2.2.2.2⟩
def NewP (own : String) (index ci n : Nat) (fs : List Value) : Prop := ∃ (C : String) (T : u_T) (ty : Nat → FieldType), vwCl[ci]? = some (C, T, n) ∧ (∀ w ∈ u_ws C T n, w ∈ lw_g) ∧ (∀ k, k < n → parseFieldDescriptor (T k).2.2.1 = some (ty k)) ∧ Cond.classLink own index C ∈ lw_g ∧ Cond.instantiable C n ∈ lw_g ∧ Cond.initialized C ∈ lw_g ∧ ∀ j, j < n → defaultValue (ty j) = vp_V fs j
theorem w_new (X : Kx p m meth c s args cc nL own ret) {N1 : Nat} (hN1 : N + 1 = N1) (M : Mx g N ad A s) (h : Hx g N ad F A s H locs) (nw : NewP own index ci n fs) (hcs : cells + 1 ≤ R.cells ∧ slots + n ≤ R.slots) (hdg : decode cc pc = .ok (.new index, 3))
    (kk : ∀ (ad1 : Nat → Nat) (F1 : Nat → va_E) (H1 : Heap), Mx g N1 ad1 A s → Hx g N1 ad1 F1 A s H1 locs → (∀ j, j < N → ad1 j = ad j) → F1 N = .inr (ci, fs) → (∀ j, j < N → F1 j = F j) → W p l e R s m args below meth c H1 locs (cells + 1) (slots + n) Q (F0 m (pc + 3) ls (.ref (ad1 N) :: rest))) : W p l e R s m args below meth c H locs cells slots Q (F0 m pc ls rest) := by
  subst hN1
  obtain ⟨C, T, ty, h1, h2, h3, h4, h5, h6, h7⟩ := nw
  refine va_new (ci := ci) X.1.1 X.1.2.1 X.1.2.2.2.2 h2 ty h3 X.1.2.2.2.1 (X.1.2.2.2.2 _ h4) (X.1.2.2.2.2 _ h5) (X.1.2.2.2.2 _ h6) M.1 h.1 (M.D F) h.2 M.2.2.2.1 h1 h7 hcs.1 hcs.2 hdg (fun q H1 hP hD hS => ?_)
  have M1 := M.push hD
  rw [wl_push] at hP
  have z := kk _ _ H1 M1 ⟨hP, hS⟩ (fun j hj => by simp [va_up, Nat.ne_of_lt hj]) (by simp [va_up]) (fun j hj => by simp [va_up, Nat.ne_of_lt hj])
  rw [show va_up ad N q N = q by simp [va_up]] at z
  exact z
theorem w_newI (X : Kx p m meth c s args cc nL own ret) {N1 : Nat} (hN1 : N + 1 = N1) (M : Mx g N ad A s) (h : Hx g N ad F A s H locs) (hw : Cond.arrayClass .int ∈ lw_g) {z : Nat} (hz : z < 2147483648) (hb : z * 4 ≤ 536870912) (hcs : cells + 1 ≤ R.cells ∧ slots + z ≤ R.slots) (hdg : decode cc pc = .ok (.newarray .int, 2))
    (kk : ∀ (ad1 : Nat → Nat) (F1 : Nat → va_E) (H1 : Heap), Mx g N1 ad1 A s → Hx g N1 ad1 F1 A s H1 locs → (∀ j, j < N → ad1 j = ad j) → arI g F1 N z (fun _ => nI 0) → (∀ j, j < N → F1 j = F j) → W p l e R s m args below meth c H1 locs (cells + 1) (slots + z) Q (F0 m (pc + 2) ls (.ref (ad1 N) :: rest))) : W p l e R s m args below meth c H locs cells slots Q (F0 m pc ls (.int (nI z) :: rest)) := by
  subst hN1
  refine va_newa (atype := .int) (ty := .int) (a0 := (z, .inl (fun _ => 0))) X.1.1 X.1.2.1 (X.1.2.2.2.2 _ hw) rfl M.1 h.1 (M.D F) h.2 M.2.2.2.1 (fun cA => rfl) (nI_pos hz) (nI_clamp hz) hb hcs.1 hcs.2 hdg (fun q cA H1 hK hP hD hS => ?_)
  have e1 : s.vm.findClass ("[" ++ FieldType.int.toString) = some cA := (hK.2 4 (cA, .int) rfl).2
  have e2 : s.vm.findClass ("[" ++ FieldType.int.toString) = some g.2.1 := (M.1.2 0 _ rfl).2
  have ec : cA = g.2.1 := Option.some.inj (e1.symm.trans e2)
  subst ec
  have M1 := M.push hD
  rw [wl_push] at hP
  have zz := kk _ _ H1 M1 ⟨hP, hS⟩ (fun j hj => by simp [va_up, Nat.ne_of_lt hj]) ⟨fun _ => 0, by simp [va_up], fun k hk => rfl⟩ (fun j hj => by simp [va_up, Nat.ne_of_lt hj])
  rw [show va_up ad N q N = q by simp [va_up]] at zz
  exact zz
theorem w_newC (X : Kx p m meth c s args cc nL own ret) {N1 : Nat} (hN1 : N + 1 = N1) (M : Mx g N ad A s) (h : Hx g N ad F A s H locs) (hw : Cond.arrayClass .char ∈ lw_g) {z : Nat} (hz : z < 2147483648) (hb : z * 2 ≤ 536870912) (hcs : cells + 1 ≤ R.cells ∧ slots + z ≤ R.slots) (hdg : decode cc pc = .ok (.newarray .char, 2))
    (kk : ∀ (ad1 : Nat → Nat) (F1 : Nat → va_E) (H1 : Heap), Mx g N1 ad1 A s → Hx g N1 ad1 F1 A s H1 locs → (∀ j, j < N → ad1 j = ad j) → arC g F1 N z (fun _ => nI 0) → (∀ j, j < N → F1 j = F j) → W p l e R s m args below meth c H1 locs (cells + 1) (slots + z) Q (F0 m (pc + 2) ls (.ref (ad1 N) :: rest))) : W p l e R s m args below meth c H locs cells slots Q (F0 m pc ls (.int (nI z) :: rest)) := by
  subst hN1
  refine va_newa (atype := .char) (ty := .char) (a0 := (z, .inl (fun _ => 0))) X.1.1 X.1.2.1 (X.1.2.2.2.2 _ hw) rfl M.1 h.1 (M.D F) h.2 M.2.2.2.1 (fun cA => rfl) (nI_pos hz) (nI_clamp hz) hb hcs.1 hcs.2 hdg (fun q cA H1 hK hP hD hS => ?_)
  have e1 : s.vm.findClass ("[" ++ FieldType.char.toString) = some cA := (hK.2 4 (cA, .char) rfl).2
  have e2 : s.vm.findClass ("[" ++ FieldType.char.toString) = some g.2.2.2.1 := (M.1.2 2 _ rfl).2
  have ec : cA = g.2.2.2.1 := Option.some.inj (e1.symm.trans e2)
  subst ec
  have M1 := M.push hD
  rw [wl_push] at hP
  have zz := kk _ _ H1 M1 ⟨hP, hS⟩ (fun j hj => by simp [va_up, Nat.ne_of_lt hj]) ⟨fun _ => 0, by simp [va_up], fun k hk => rfl⟩ (fun j hj => by simp [va_up, Nat.ne_of_lt hj])
  rw [show va_up ad N q N = q by simp [va_up]] at zz
  exact zz
theorem w_newF (X : Kx p m meth c s args cc nL own ret) {N1 : Nat} (hN1 : N + 1 = N1) (M : Mx g N ad A s) (h : Hx g N ad F A s H locs) (hw : Cond.arrayClass .float ∈ lw_g) {z : Nat} (hz : z < 2147483648) (hb : z * 4 ≤ 536870912) (hcs : cells + 1 ≤ R.cells ∧ slots + z ≤ R.slots) (hdg : decode cc pc = .ok (.newarray .float, 2))
    (kk : ∀ (ad1 : Nat → Nat) (F1 : Nat → va_E) (H1 : Heap), Mx g N1 ad1 A s → Hx g N1 ad1 F1 A s H1 locs → (∀ j, j < N → ad1 j = ad j) → arF g F1 N z (fun _ => 0) → (∀ j, j < N → F1 j = F j) → W p l e R s m args below meth c H1 locs (cells + 1) (slots + z) Q (F0 m (pc + 2) ls (.ref (ad1 N) :: rest))) : W p l e R s m args below meth c H locs cells slots Q (F0 m pc ls (.int (nI z) :: rest)) := by
  subst hN1
  refine va_newa (atype := .float) (ty := .float) (a0 := (z, .inr (.inr (.inl (fun _ => 0))))) X.1.1 X.1.2.1 (X.1.2.2.2.2 _ hw) rfl M.1 h.1 (M.D F) h.2 M.2.2.2.1 (fun cA => rfl) (nI_pos hz) (nI_clamp hz) hb hcs.1 hcs.2 hdg (fun q cA H1 hK hP hD hS => ?_)
  have e1 : s.vm.findClass ("[" ++ FieldType.float.toString) = some cA := (hK.2 4 (cA, .float) rfl).2
  have e2 : s.vm.findClass ("[" ++ FieldType.float.toString) = some g.2.2.1 := (M.1.2 1 _ rfl).2
  have ec : cA = g.2.2.1 := Option.some.inj (e1.symm.trans e2)
  subst ec
  have M1 := M.push hD
  rw [wl_push] at hP
  have zz := kk _ _ H1 M1 ⟨hP, hS⟩ (fun j hj => by simp [va_up, Nat.ne_of_lt hj]) ⟨fun _ => 0, by simp [va_up], fun k hk => rfl⟩ (fun j hj => by simp [va_up, Nat.ne_of_lt hj])
  rw [show va_up ad N q N = q by simp [va_up]] at zz
  exact zz
theorem w_newQ (X : Kx p m meth c s args cc nL own ret) {N1 : Nat} (hN1 : N + 1 = N1) (M : Mx g N ad A s) (h : Hx g N ad F A s H locs) (hAO : va_AO RX4 s) (hw : Cond.classLink own index RX4 ∈ lw_g) {z : Nat} (hz : z < 2147483648) (hb : z * 4 ≤ 536870912) (hcs : cells + 1 ≤ R.cells ∧ slots + z ≤ R.slots) (hdg : decode cc pc = .ok (.anewarray index, 3))
    (kk : ∀ (ad1 : Nat → Nat) (F1 : Nat → va_E) (H1 : Heap), Mx g N1 ad1 A s → Hx g N1 ad1 F1 A s H1 locs → (∀ j, j < N → ad1 j = ad j) → arQ g F1 N z (fun _ => none) → (∀ j, j < N → F1 j = F j) → W p l e R s m args below meth c H1 locs (cells + 1) (slots + z) Q (F0 m (pc + 3) ls (.ref (ad1 N) :: rest))) : W p l e R s m args below meth c H locs cells slots Q (F0 m pc ls (.int (nI z) :: rest)) := by
  subst hN1
  refine va_newq X.1.1 X.1.2.1 X.1.2.2.2.1 (X.1.2.2.2.2 _ hw) hAO M.1 h.1 (M.D F) h.2 M.2.2.2.1 (nI_pos hz) (nI_clamp hz) hb hcs.1 hcs.2 hdg (fun q cA H1 hK hP hD hS => ?_)
  obtain ⟨kA, comp, f1, f2, f3, e1⟩ := (hK.2 4 (cA, .object RX4) rfl).2
  obtain ⟨kA', comp', f1', f2', f3', e2⟩ := (M.1.2 3 _ rfl).2
  have ec : cA = g.2.2.2.2.1 := Option.some.inj (e1.symm.trans e2)
  subst ec
  have M1 := M.push hD
  rw [wl_push] at hP
  have zz := kk _ _ H1 M1 ⟨hP, hS⟩ (fun j hj => by simp [va_up, Nat.ne_of_lt hj]) ⟨fun _ => none, by simp [va_up], fun k hk => rfl⟩ (fun j hj => by simp [va_up, Nat.ne_of_lt hj])
  rw [show va_up ad N q N = q by simp [va_up]] at zz
  exact zz
/-- a final field, in a constructor -/
def FldF (own : String) (index ci k : Nat) (ty : FieldType) : Prop := ∃ (C : String) (T : u_T) (n : Nat) (ref : String) (ty0 : Nat → FieldType), vwCl[ci]? = some (C, T, n) ∧ (∀ w ∈ u_ws C T n, w ∈ lw_g) ∧ (∀ k, k < n → parseFieldDescriptor (T k).2.2.1 = some (ty0 k)) ∧ (∀ a, a < n → ∀ b, b < n → a ≠ b → (T a).2.1 ≠ (T b).2.1) ∧ k < n ∧ Cond.fieldLink own index ref (T k).2.1 (T k).2.2.1 ∈ lw_g ∧ (T k).1 = ref ∧ (T k).2.2.2 = true ∧ (T k).1 = own ∧ parseFieldDescriptor (T k).2.2.1 = some ty
theorem w_putF (X : Kx p m meth c s args cc nL own ret) (M : Mx g N ad A s) (h : Hx g N ad F A s H locs) (hnm : meth.name = "<init>") (i : Nat) {ci : Nat} {fs : List Value} (hF : F i = .inr (ci, fs)) (hi : i < N) {index k : Nat} {ty : FieldType} (fl : FldF own index ci k ty) {v : Value} (hn : narrow ty v = v) (hfit : fits ty v = true) (hl : k < fs.length) (hdg : decode cc pc = .ok (.putfield index, 3))
    (kk : ∀ (F' : Nat → va_E) (H' : Heap) (locs' : List Loc), Hx g N ad F' A s H' locs' → F' i = .inr (ci, fs.set k v) → (∀ j, j ≠ i → F' j = F j) → W p l e R s m args below meth c H' locs' cells slots Q (F0 m (pc + 3) ls rest)) : W p l e R s m args below meth c H locs cells slots Q (F0 m pc ls (v :: .ref (ad i) :: rest)) := by
  obtain ⟨C, T, n, ref, ty0, h1, h2, h3, h4, h5, h6, h7, h8, h9, h10⟩ := fl
  subst h7
  refine va_putF (D := g.1) (ci := ci) X.1.1 X.1.2.1 X.1.2.2.2.2 h2 ty0 h3 h4 X.1.2.2.2.1 M.1 h.1 (M.D F) h.2 i (wl_at hi hF) h1 k h5 (X.1.2.2.2.2 _ h6) (fun x hx => hx) h8 hnm h9 h10 hn hfit hl hdg (fun H1 locs1 hP hD hS => ?_)
  rw [wl_set] at hP
  exact kk _ H1 locs1 ⟨hP, hS⟩ (by simp [va_up]) (fun j hj => by simp [va_up, hj])
theorem w_objI (X : Kx p m meth c s args cc nL own ret) (hl : lv_has ls nL lvs) (hlink : Cond.methodLink own index Lib.objectInit ∈ lw_g) (hw2 : Cond.instanceMethod Lib.objectInit ∈ lw_g) (hw3 : Cond.code Lib.objectInit ⟨#[0xb1]⟩ 1 none ∈ lw_g) (hR : 1 ≤ R.frames ∧ 20 ≤ R.locals) (hcat : (rest.map fun v => v.category).sum ≤ 8) {a : Nat} (hdg : decode cc pc = .ok (.invokespecial index, 3)) (kk : W p l e R s m args below meth c H locs cells slots Q (F0 m (pc + 3) ls rest)) : W p l e R s m args below meth c H locs cells slots Q (F0 m pc ls (.ref a :: rest)) :=
  W.objInit X.1.1 X.1.2.1 X.1.2.2.2.1 (X.1.2.2.2.2 _ hlink) (X.1.2.2.2.2 _ hw2) (X.1.2.2.2.2 _ hw3) rfl (hl.1.trans X.1.2.2.1.symm) rfl hdg hR.1 (by show 2 * 0 + _ + 12 ≤ _; omega) kk
/-- calls of constructors -/
theorem w_preC (M : Mx g N ad A s) (h : Hx g N ad F A s H locs) (hAO : va_AO RX4 s) {i : Nat} {As : List Value} : PreS s H (va_Pc (.ref (ad i) :: As) (PwC g N ad F H.size)) (.ref (ad i) :: As) := ⟨blind_wC, fun U hU hW => ⟨rfl, (w_pre M h (As := .ref (ad i) :: As) U hU hW).2, va_AO.moved hW.alike hAO⟩⟩
def LkI (own : String) (index : Nat) (y : MethodName) (cc : ByteArray) (nL n : Nat) : Prop := (Cond.methodLink own index y ∈ lw_g ∨ ∃ host : String, Cond.methodLinkNest own index y host ∈ lw_n) ∧ Cond.instanceMethod y ∈ lw_g ∧ Cond.initialized y.cls ∈ lw_g ∧ Cond.code y cc nL none ∈ lw_g ∧ y.name = "<init>" ∧ y.cls ≠ "java/lang/invoke/MethodHandle" ∧ y.cls ≠ "java/lang/invoke/VarHandle" ∧ (parseMethodDescriptor y.desc).map (fun d => d.parameters.length) = some n
theorem w_callI {post : (Nat → Nat) → (Nat → va_E) → Prop} (X : Kx p m meth c s args cc nL own ret) {N1 : Nat} (hN1 : N + k = N1) (M : Mx g N ad A s) (h : Hx g N ad F A s H locs) (hAO : va_AO RX4 s) {i : Nat} (As : List Value) (rest : List Value) (hM : CtN l y ccY nY fm lo nc ns g N k ad F (.ref (ad i) :: As) post) (lk : LkI own index y ccY nY n) (hn : As.length = n) (hR : fm + 1 ≤ R.frames ∧ 8 + (nY + 11) + lo ≤ R.locals) (hl : lv_has ls nL lvs) (hcs : cells + nc ≤ R.cells ∧ slots + ns ≤ R.slots) (hcat : (rest.map fun v => v.category).sum ≤ 8) (hst : st = As.reverse ++ .ref (ad i) :: rest) (hdg : decode cc pc = .ok (.invokespecial index, 3))
    (kk : ∀ (ad1 : Nat → Nat) (F1 : Nat → va_E) (H1 : Heap) (locs1 : List Loc), post ad1 F1 → Mx g N1 ad1 A s → Hx g N1 ad1 F1 A s H1 locs1 → (∀ j, j < N → ad1 j = ad j) → W p l e R s m args below meth c H1 locs1 (cells + nc) (slots + ns) Q (F0 m (pc + 3) ls rest)) : W p l e R s m args below meth c H locs cells slots Q (F0 m pc ls st) := by
  subst hN1
  subst hst
  obtain ⟨k1, k2, k3, k4, k5, k6⟩ := lk
  have hG : GoodIn lw_g (WS y ccY nY none) := law_goodIn (List.forall_mem_cons.mpr ⟨k4, fun _ h => h⟩)
  have fin : ∀ (u : (Nat → Nat) × (Nat → va_E)) (t : State) (H1 : Heap) (locs1 : List Loc), t.heap = H1 → post u.1 u.2 → Bn g N (N + k) ad H.size u t → va_S A s.heap H1 locs1 → W p l e R s m args below meth c H1 locs1 (cells + nc) (slots + ns) Q (F0 m (pc + 3) ls rest) := fun u t H1 locs1 ht hp hB hS => by
    obtain ⟨b1, b2, b3, b4⟩ := hB
    exact kk u.1 u.2 H1 locs1 hp ⟨M.1, b2, fun i hi => w_free M h _ (b3 i hi), M.2.2.2.1, M.2.2.2.2.1, M.2.2.2.2.2⟩ ⟨by rw [ht] at b1; exact b1, hS⟩ b4
  rcases k1 with k1 | ⟨host, k1⟩
  · refine va_callv (va_runI (As := As) (rest := rest) X.1 (hM H.size) (cwI n X.1.2.2.2.2 hG rfl rfl rfl (X.1.2.2.2.2 _ k3) (X.1.2.2.2.2 _ k1) (X.1.2.2.2.2 _ k2) k5 k6 hR) (w_preC M h hAO) rfl hn hl.1 rfl (lv_room hcat) hdg hcs) h.2 (fun q _ hq => w_free M h q hq) (fun q hq => w_free M h q hq) (fun u t H1 locs1 ht hvm hp hB hz hk hS => fin u t H1 locs1 ht hp hB hS)
  · refine va_callv (va_runIN (As := As) (rest := rest) X.1 (hM H.size) ⟨va_cnB n X.1.2.2.2.2 hG rfl rfl rfl (M.2.2.2.2.1 _ k1) (X.1.2.2.2.2 _ k3) k6 hR, k5, X.1.2.2.2.2 _ k2⟩ (w_preC M h hAO) rfl hn hl.1 rfl (lv_room hcat) hdg hcs) h.2 (fun q _ hq => w_free M h q hq) (fun q hq => w_free M h q hq) (fun u t H1 locs1 ht hvm hp hB hz hk hS => fin u t H1 locs1 ht hp hB hS)
theorem w_nret {post : (Nat → Nat) → (Nat → va_E) → Prop} {N0 : Nat} {ad0 : Nat → Nat} (X : Kx p m meth c s args cc nL own none) (M : Mx g N ad A s) (h : Hx g N ad F A s H locs) (hA : A = fr N0 ad0 s.heap.size) (hag : ∀ j, j < N0 → ad j = ad0 j) (hp : post ad F) (hdg : decode cc pc = .ok (.return_, 1)) : W p l e R s m args below meth c H locs cells slots (MQ below (va_Qv (fun u : (Nat → Nat) × (Nat → va_E) => post u.1 u.2) (Bn g N0 N ad0 s.heap.size) A) args s cells slots A) (F0 m pc ls []) :=
  W.vret X.1.1 X.1.2.1 X.2.1 (fun t ht hW => ⟨⟨(ad, F), rfl, hp, by rw [ht]; exact h.1, M.2.1, fun i hi => by rw [← hA]; exact M.2.2.1 i hi, hag⟩, h.2.F ht⟩) h.2.2.2 hdg (hlocks := X.2.2)
/-- a State put into the history's row -/
theorem w_aast (X : Kx p m meth c s args cc nL own ret) (M : Mx g N ad A s) (h : Hx g N ad F A s H locs) (i : Nat) {n : Nat} {a : Nat → Option Nat} (ha : arQ g F i n a) (hi : i < N) (k : Nat) (hk : k < n) (hn : n < 2147483648) {j : Nat} {fs : List Value} (hF : F j = .inr (4, fs)) (hj : j < N) (hdg : decode cc pc = .ok (.aastore, 1))
    (kk : ∀ (F' : Nat → va_E) (H' : Heap) (locs' : List Loc), Hx g N ad F' A s H' locs' → arQ g F' i n (va_up a k (some (ad j))) → (∀ q, q ≠ i → F' q = F q) → W p l e R s m args below meth c H' locs' cells slots Q (F0 m (pc + 1) ls rest)) : W p l e R s m args below meth c H locs cells slots Q (F0 m pc ls (.ref (ad j) :: .int (nI k) :: .ref (ad i) :: rest)) := by
  obtain ⟨f, h1, h2⟩ := ha
  refine va_astq X.1.1 X.1.2.1 M.1 h.1 (M.D F) h.2 i 3 j 4 (wl_at hi h1) rfl (wl_at hj hF) rfl (vp_in_nI hk hn) hdg (fun H1 locs1 hP hD hS => ?_)
  rw [nI_clamp (by omega), wl_set] at hP
  exact kk _ H1 locs1 ⟨hP, hS⟩ ⟨va_up f k (some (ad j)), by simp [va_up], fun q hq => by simp only [va_up]; split; rfl; exact h2 q hq⟩ (fun q hq => by simp [va_up, hq])
/-! what stays as the world grows -/
theorem oRow.gr {N' : Nat} {ad' : Nat → Nat} {F' : Nat → va_E} {i n : Nat} {a : Nat → Int32} (h : oRow g N ad F i n a) (hN : N ≤ N') (ha : ∀ j, j < N → ad' j = ad j) (e : ∀ j, i ≤ j → j ≤ i + 1 → F' j = F j) : oRow g N' ad' F' i n a := by
  obtain ⟨h1, h2, h3⟩ := h
  refine ⟨by omega, ?_, h3.fr (e _ (by omega) (by omega))⟩
  rw [e _ (by omega) (by omega), h2, ha _ (by omega)]
theorem oStrip.gr {N' : Nat} {ad' : Nat → Nat} {F' : Nat → va_E} {i n : Nat} {a : Nat → Int32} (h : oStrip g N ad F i n a) (hN : N ≤ N') (ha : ∀ j, j < N → ad' j = ad j) (e : ∀ j, i ≤ j → j ≤ i + 1 → F' j = F j) : oStrip g N' ad' F' i n a := by
  obtain ⟨h1, h2, h3⟩ := h
  refine ⟨by omega, ?_, h3.fr (e _ (by omega) (by omega))⟩
  rw [e _ (by omega) (by omega), h2, ha _ (by omega)]
theorem arQ.eq {i n : Nat} {a b : Nat → Option Nat} (h : arQ g F i n a) (e : ∀ k, k < n → a k = b k) : arQ g F i n b := by obtain ⟨f, h1, h2⟩ := h; exact ⟨f, h1, fun k hk => (h2 k hk).trans (e k hk)⟩
theorem oJokes.gr {N' : Nat} {ad' : Nat → Nat} {F' : Nat → va_E} {i n : Nat} {j : Nat → Nat → Int32} (h : oJokes g N ad F i n j) (hN : N ≤ N') (ha : ∀ j, j < N → ad' j = ad j) (e : ∀ j, i ≤ j → j ≤ i + 10 → F' j = F j) : oJokes g N' ad' F' i n j := by
  obtain ⟨h1, h2, h3, h4, h5, h6, h7⟩ := h
  refine ⟨by omega, ?_, h3.gr hN ha (fun q g1 g2 => e q (by omega) (by omega)), h4.gr hN ha (fun q g1 g2 => e q (by omega) (by omega)), h5.gr hN ha (fun q g1 g2 => e q (by omega) (by omega)), h6.gr hN ha (fun q g1 g2 => e q (by omega) (by omega)), h7.gr hN ha (fun q g1 g2 => e q (by omega) (by omega))⟩
  rw [e _ (by omega) (by omega), h2, ha (i + 1) (by omega), ha (i + 3) (by omega), ha (i + 5) (by omega), ha (i + 7) (by omega), ha (i + 9) (by omega)]
theorem oTold.gr {N' : Nat} {ad' : Nat → Nat} {F' : Nat → va_E} {i n : Nat} {sm : UInt32} {t : Nat → Nat → Int32} {lf : Nat → UInt32} (h : oTold g N ad F i n sm t lf) (hN : N ≤ N') (ha : ∀ j, j < N → ad' j = ad j) (e : ∀ j, i ≤ j → j ≤ i + 7 → F' j = F j) : oTold g N' ad' F' i n sm t lf := by
  obtain ⟨h1, h2, h3, h4, h5, h6⟩ := h
  refine ⟨by omega, ?_, h3.gr hN ha (fun q g1 g2 => e q (by omega) (by omega)), h4.gr hN ha (fun q g1 g2 => e q (by omega) (by omega)), h5.fr (e _ (by omega) (by omega)), h6.gr hN ha (fun q g1 g2 => e q (by omega) (by omega))⟩
  rw [e _ (by omega) (by omega), h2, ha (i + 1) (by omega), ha (i + 3) (by omega), ha (i + 5) (by omega), ha (i + 6) (by omega)]
theorem oSt.gr {N' : Nat} {ad' : Nat → Nat} {F' : Nat → va_E} {b : Nat} {x : SX} (h : oSt g N ad F b x) (hN : N ≤ N') (ha : ∀ j, j < N → ad' j = ad j) (e : ∀ j, b ≤ j → j ≤ b + 21 → F' j = F j) : oSt g N' ad' F' b x := by
  obtain ⟨h1, h2, h3, h4, h5⟩ := h
  refine ⟨by omega, ?_, h3.gr hN ha (fun q g1 g2 => e q (by omega) (by omega)), h4.gr hN ha (fun q g1 g2 => e q (by omega) (by omega)), h5.gr hN ha (fun q g1 g2 => e q (by omega) (by omega))⟩
  rw [e _ (by omega) (by omega), h2, ha (b + 1) (by omega), ha (b + 12) (by omega), ha (b + 20) (by omega)]
/-- the history while it is made, and the reader, at any place -/
def oHi0 (g : gT) (N : Nat) (ad : Nat → Nat) (F : Nat → va_E) : Prop := 245 ≤ N ∧ F 45 = .inr (0, [.ref (ad 46), .int (nI 0), .int (nI 0)]) ∧ arQ g F 46 9 (fun k => some (ad (47 + 22 * k))) ∧ ∀ k, k < 9 → oSt g N ad F (47 + 22 * k) stX0
theorem oHi0.gr {N' : Nat} {ad' : Nat → Nat} {F' : Nat → va_E} (h : oHi0 g N ad F) (hN : N ≤ N') (ha : ∀ j, j < N → ad' j = ad j) (e : ∀ j, 45 ≤ j → j < 245 → F' j = F j) : oHi0 g N' ad' F' := by
  obtain ⟨h1, h2, h3, h4⟩ := h
  refine ⟨by omega, ?_, (h3.fr (e _ (by omega) (by omega))).eq (fun k hk => by rw [ha _ (by omega)]), fun k hk => (h4 k hk).gr hN ha (fun q g1 g2 => e q (by omega) (by omega))⟩
  rw [e _ (by omega) (by omega), h2, ha 46 (by omega)]
def oRd0 (g : gT) (N : Nat) (ad : Nat → Nat) (F : Nat → va_E) (i : Nat) : Prop := i + 4 < N ∧ F i = .inr (2, [.ref (ad (i + 1)), .ref (ad (i + 3)), .int (nI 0), .int (nI 0)]) ∧ oRow g N ad F (i + 1) 12 (fun _ => nI 0) ∧ oRow g N ad F (i + 3) 48 (fun _ => nI 0)
theorem oRd0.gr {N' : Nat} {ad' : Nat → Nat} {F' : Nat → va_E} {i : Nat} (h : oRd0 g N ad F i) (hN : N ≤ N') (ha : ∀ j, j < N → ad' j = ad j) (e : ∀ j, i ≤ j → j ≤ i + 4 → F' j = F j) : oRd0 g N' ad' F' i := by
  obtain ⟨h1, h2, h3, h4⟩ := h
  refine ⟨by omega, ?_, h3.gr hN ha (fun q g1 g2 => e q (by omega) (by omega)), h4.gr hN ha (fun q g1 g2 => e q (by omega) (by omega))⟩
  rw [e _ (by omega) (by omega), h2, ha (i + 1) (by omega), ha (i + 3) (by omega)]
end NEW
