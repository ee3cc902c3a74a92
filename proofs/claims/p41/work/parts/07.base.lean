/-! the words that all contracts share: those of the tables that hold all along -/
def lw_g : List Cond := lw_tbl.filter goodWord
theorem lw_gm {w : Cond} (h : w ∈ lw_tbl) (hg : goodWord w = true) : w ∈ lw_g := List.mem_filter.mpr ⟨h, hg⟩
theorem lw_g_in : ∀ w ∈ lw_g, w ∈ lw_tbl := fun w h => (List.mem_filter.mp h).1
def isNestW : Cond → Bool
  | .fieldLinkNest .. => true
  | .methodLinkNest .. => true
  | _ => false
def lw_n : List Cond := lw_tbl.filter isNestW
theorem lw_nm {w : Cond} (h : w ∈ lw_tbl) (hg : isNestW w = true) : w ∈ lw_n := List.mem_filter.mpr ⟨h, hg⟩
def NwX (U : State) : Prop := ∀ w ∈ lw_n, va_Nw w U
theorem NwX.warm {s U : State} (hW : s.WarmedH U.vm) (h : NwX s) : NwX U := by
  intro w hw
  have h1 := h w hw
  have h2 := (List.mem_filter.mp hw).2
  cases w <;> first | exact va_Nw.warmF hW h1 | exact va_Nw.warmM hW h1 | cases h2
theorem NwX.same {u U : State} (hv : u.vm = U.vm) (h : NwX u) : NwX U := by
  intro w hw
  have h1 := h w hw
  have h2 := (List.mem_filter.mp hw).2
  cases w <;> first | exact va_Nw.same rfl hv h1 | cases h2
theorem NwX.use {A : Array Value} {U : State} {w : Cond} (h : NwX U) (hw : w ∈ lw_n) : w.before A U = true := by
  have h1 := h w hw
  have h2 := (List.mem_filter.mp hw).2
  cases w <;> first | exact va_Nw.use rfl h1 | cases h2
theorem tin1 {w : Cond} (h : w ∈ tables_1_1) : w ∈ lw_tbl := List.mem_append_right _ (List.mem_append_left _ h)
theorem tin2 {w : Cond} (h : w ∈ tables_1_2) : w ∈ lw_tbl := List.mem_append_right _ (List.mem_append_right _ (List.mem_append_left _ h))
theorem tin3 {w : Cond} (h : w ∈ tables_1_3) : w ∈ lw_tbl := List.mem_append_right _ (List.mem_append_right _ (List.mem_append_right _ (List.mem_append_left _ h)))
theorem tin4 {w : Cond} (h : w ∈ tables_1_4) : w ∈ lw_tbl := List.mem_append_right _ (List.mem_append_right _ (List.mem_append_right _ (List.mem_append_right _ h)))
theorem tinS {q : MethodName × Nat} (h : q ∈ lw_privs) : Cond.selects q.1.cls q.1 q.1 ∈ lw_tbl := List.mem_append_left _ (List.mem_map.mpr ⟨q, h, rfl⟩)
/-! numbers: the kit's laws of small naturals as int values -/
theorem rngI (x : Int32) : -2147483648 ≤ x.toInt ∧ x.toInt < 2147483648 := by
  have h1 := Int32.le_toInt x
  have h2 := Int32.toInt_lt x
  omega
theorem ltI (a b : Int32) : a < b ↔ a.toInt < b.toInt := Int32.lt_iff_toInt_lt
theorem leI (a b : Int32) : a ≤ b ↔ a.toInt ≤ b.toInt := Int32.le_iff_toInt_le
theorem eqI (a b : Int32) : a = b ↔ a.toInt = b.toInt := Int32.toInt_inj.symm
/-! worlds by places -/
abbrev gT : Type := va_G × ClassId × ClassId × ClassId × ClassId × (Nat → Nat) × (Nat → Nat)
abbrev gTy (g : gT) : List (ClassId × FieldType) := [(g.2.1, .int), (g.2.2.1, .float), (g.2.2.2.1, .char), (g.2.2.2.2.1, .object RX4)]
/-! the String constants of the reader's forms, and the statics that their methods read -/
def sxTx : Nat → String := fun i => match i with
  | 0 => "joke # % % #"
  | 1 => "prime %"
  | 2 => "drop %"
  | 3 => "drain %"
  | 4 => "stroke %"
  | 5 => "bucket # #"
  | 6 => "go #"
  | _ => "pump #"
def sxLen : List Nat := [12, 7, 6, 7, 8, 10, 4, 6, 6, 21, 11, 15, 8, 15, 25, 13]
def sxByt : List (List Int32) := [[106, 111, 107, 101, 32, 35, 32, 37, 32, 37, 32, 35], [112, 114, 105, 109, 101, 32, 37], [100, 114, 111, 112, 32, 37], [100, 114, 97, 105, 110, 32, 37], [115, 116, 114, 111, 107, 101, 32, 37], [98, 117, 99, 107, 101, 116, 32, 35, 32, 35], [103, 111, 32, 35], [112, 117, 109, 112, 32, 35], [112, 117, 109, 112, 32, 50], [106, 111, 107, 101, 32, 48, 32, 51, 32, 52, 48, 32, 55, 59, 112, 114, 105, 109, 101, 32, 48], [103, 111, 32, 49, 59, 112, 117, 109, 112, 32, 51], [115, 116, 114, 111, 107, 101, 32, 55, 59, 112, 117, 109, 112, 32, 49], [100, 114, 97, 105, 110, 32, 49, 48], [98, 117, 99, 107, 101, 116, 32, 48, 32, 53, 59, 103, 111, 32, 48], [106, 111, 107, 101, 32, 50, 32, 54, 32, 52, 49, 32, 50, 59, 103, 111, 32, 50, 59, 112, 117, 109, 112, 32, 57], [100, 114, 111, 112, 32, 48, 59, 112, 117, 109, 112, 32, 49]]
def Sx (g : gT) (A : Nat → Prop) (U : State) (H : Heap) : Prop := vk_S 16 sxLen sxByt g.2.2.2.2.2.1 g.2.2.2.2.2.2 A U H ∧ (∀ i, i < 8 → vk_R RX2 (81 + 2 * i) (sxTx i) (g.2.2.2.2.2.1 i) U) ∧ va_Z "java/lang/String" "COMPACT_STRINGS" "Z" (.int 1) A U H ∧ va_Zq "jdk/internal/util/Preconditions" "SIOOBE_FORMATTER" "Ljava/util/function/BiFunction;" A U H ∧ va_T .int (g.2.2.2.2.2.1 100) (g.2.2.2.2.2.1 101) (fun j => .int (nI (g.2.2.2.2.2.2 (1000 + j)))) A U H ∧ ∃ tA : Nat, va_Z "JokePumpLaw" "TEXTS" "[Ljava/lang/String;" (.ref tA) A U H ∧ va_T (.object "java/lang/String") tA 8 (fun j => .ref (g.2.2.2.2.2.1 (8 + j))) A U H
theorem Sx.go {g : gT} {A B : Nat → Prop} {s U : State} {H0 H : Heap} (h : Sx g A s H0) (hW : s.WarmedH U.vm) (hq : ∀ a : Nat, a < H0.size → ¬ A a → H[a]? = H0[a]?) (hAB : ∀ q, B q → A q) : Sx g B U H := by
  obtain ⟨h1, h2, h3, h4, h7, tA, h5, h6⟩ := h
  have hv := hW.alike
  exact ⟨((h1.moved hv).kept hq).narrow hAB, fun i hi => (h2 i hi).warm hW, ((h3.moved hv).kept hq).narrow hAB, ((h4.moved hv).kept hq).narrow hAB, ((h7.moved hv).kept hq).narrow hAB, tA, ((h5.moved hv).kept hq).narrow hAB, ((h6.moved hv).kept hq).narrow hAB⟩
theorem Sx.same {g : gT} {A : Nat → Prop} {u U : State} {H : Heap} (h : Sx g A u H) (hv : u.vm = U.vm) : Sx g A U H := by
  obtain ⟨h1, h2, h3, h4, h7, tA, h5, h6⟩ := h
  have hA : u.vm.Alike U.vm := by rw [hv]; exact Vm.Alike.refl U.vm
  exact ⟨h1.moved hA, fun i hi => vk_R.same hv.symm (h2 i hi), h3.moved hA, h4.moved hA, h7.moved hA, tA, h5.moved hA, h6.moved hA⟩
def wl (N : Nat) (ad : Nat → Nat) (F : Nat → va_E) : va_W := (List.range N).map (fun i => (ad i, F i))
theorem wl_at {N : Nat} {ad : Nat → Nat} {F : Nat → va_E} {i : Nat} {e : va_E} (h : i < N) (he : F i = e) : (wl N ad F)[i]? = some (ad i, e) := by
  subst he
  simp [wl, h]
theorem wl_lt {N : Nat} {ad : Nat → Nat} {F : Nat → va_E} {k : Nat} {q : Nat × va_E} (h : (wl N ad F)[k]? = some q) : k < N ∧ q = (ad k, F k) := by
  by_cases hk : k < N
  · rw [wl_at hk rfl] at h
    exact ⟨hk, (Option.some.inj h).symm⟩
  · simp [wl, hk] at h
theorem wl_set {N : Nat} {ad : Nat → Nat} {F : Nat → va_E} {i : Nat} (e : va_E) : (wl N ad F).set i (ad i, e) = wl N ad (va_up F i e) := by
  apply List.ext_getElem?
  intro j
  rw [List.getElem?_set]
  by_cases hl : j < N
  · by_cases hj : i = j
    · subst hj
      simp [wl, hl, va_up]
    · have hj2 : ¬ j = i := fun q => hj q.symm
      simp [wl, hl, hj, hj2, va_up]
  · by_cases hj : i = j
    · subst hj
      simp [wl, hl]
    · simp [wl, hl, hj]
theorem wl_push {N : Nat} {ad : Nat → Nat} {F : Nat → va_E} (q : Nat) (e : va_E) : wl N ad F ++ [(q, e)] = wl (N + 1) (va_up ad N q) (va_up F N e) := by
  simp only [wl, List.range_succ, List.map_append, List.map_cons, List.map_nil]
  congr 1
  · apply List.map_congr_left
    intro i hi
    have h : i < N := List.mem_range.mp hi
    have h2 : ¬ i = N := by omega
    simp [va_up, h2]
  · simp [va_up]
/-! what holds all through a method: the machine, the code, the words; the tables, the addresses; the heap -/
def Kx (p : Program) (m : MethodId) (meth : Method) (c : Code) (s : State) (args : Array Value) (cc : ByteArray) (nL : Nat) (own : String) (ret : Option FieldType) : Prop := (p.tables.exec = Jvm.exec ∧ c.code = cc ∧ c.maxLocals = nL ∧ s.vm.findClass own = some m.cls ∧ ∀ w ∈ lw_g, w.before args s = true) ∧ meth.sig.returnType = ret ∧ meth.locks = false
def Mx (g : gT) (N : Nat) (ad : Nat → Nat) (A : Nat → Prop) (s : State) : Prop := va_K g.1 vwCl (gTy g) s ∧ (∀ i j, i < N → j < N → ad i = ad j → i = j) ∧ (∀ i, i < N → A (ad i)) ∧ (∀ q, s.heap.size ≤ q → A q) ∧ NwX s ∧ Sx g A s s.heap
def Hx (g : gT) (N : Nat) (ad : Nat → Nat) (F : Nat → va_E) (A : Nat → Prop) (s : State) (H : Heap) (locs : List Loc) : Prop := va_P g.1 vwCl (wl N ad F) H ∧ va_S A s.heap H locs
theorem Mx.D {g : gT} {N : Nat} {ad : Nat → Nat} {A : Nat → Prop} {s : State} (M : Mx g N ad A s) (F : Nat → va_E) : va_D A (wl N ad F) := by
  refine ⟨fun i j x y hi hj hxy => ?_, fun k q hk => ?_⟩
  · obtain ⟨h1, rfl⟩ := wl_lt hi
    obtain ⟨h2, rfl⟩ := wl_lt hj
    exact M.2.1 i j h1 h2 hxy
  · obtain ⟨h1, rfl⟩ := wl_lt hk
    exact M.2.2.1 k h1
def fr (N : Nat) (ad : Nat → Nat) (sz : Nat) : Nat → Prop := fun q => (∃ i, i < N ∧ q = ad i) ∨ sz ≤ q
/-! contracts -/
def WS (y : MethodName) (cc : ByteArray) (nL : Nat) (ret : Option FieldType) : List Cond := .code y cc nL ret :: lw_g
def Pw (g : gT) (N : Nat) (ad : Nat → Nat) (F : Nat → va_E) (sz : Nat) : State → Prop := fun U => U.heap.size = sz ∧ va_P g.1 vwCl (wl N ad F) U.heap ∧ va_K g.1 vwCl (gTy g) U ∧ (∀ i j, i < N → j < N → ad i = ad j → i = j) ∧ NwX U ∧ Sx g (fr N ad sz) U U.heap
def Bw (g : gT) (N : Nat) (ad : Nat → Nat) : (Nat → va_E) → State → Prop := fun F t => va_P g.1 vwCl (wl N ad F) t.heap
abbrev rmR (fm lo : Nat) : Room := { frames := fm, cells := 0, slots := 0, locals := lo }
def CtI (l : Launch) (y : MethodName) (cc : ByteArray) (nL : Nat) (ret : Option FieldType) (fm lo : Nat) (g : gT) (N : Nat) (ad : Nat → Nat) (F : Nat → va_E) (As : List Value) (post : Int32 → (Nat → va_E) → Prop) : Prop := ∀ sz : Nat, Met l y (WS y cc nL ret) (rmR fm lo) (va_Pc As (Pw g N ad F sz)) (va_Qi post (Bw g N ad) (fr N ad sz)) 0 0 (fr N ad sz)
def CtV (l : Launch) (y : MethodName) (cc : ByteArray) (nL : Nat) (ret : Option FieldType) (fm lo : Nat) (g : gT) (N : Nat) (ad : Nat → Nat) (F : Nat → va_E) (As : List Value) (post : (Nat → va_E) → Prop) : Prop := ∀ sz : Nat, Met l y (WS y cc nL ret) (rmR fm lo) (va_Pc As (Pw g N ad F sz)) (va_Qv post (Bw g N ad) (fr N ad sz)) 0 0 (fr N ad sz)
def CtF (l : Launch) (y : MethodName) (cc : ByteArray) (nL : Nat) (ret : Option FieldType) (fm lo : Nat) (g : gT) (N : Nat) (ad : Nat → Nat) (F : Nat → va_E) (As : List Value) (post : UInt32 → (Nat → va_E) → Prop) : Prop := ∀ sz : Nat, Met l y (WS y cc nL ret) (rmR fm lo) (va_Pc As (Pw g N ad F sz)) (va_Qf post (Bw g N ad) (fr N ad sz)) 0 0 (fr N ad sz)
def CtD (l : Launch) (y : MethodName) (cc : ByteArray) (nL : Nat) (ret : Option FieldType) (fm lo : Nat) (g : gT) (N : Nat) (ad : Nat → Nat) (F : Nat → va_E) (As : List Value) (post : UInt64 → (Nat → va_E) → Prop) : Prop := ∀ sz : Nat, Met l y (WS y cc nL ret) (rmR fm lo) (va_Pc As (Pw g N ad F sz)) (va_Qd post (Bw g N ad) (fr N ad sz)) 0 0 (fr N ad sz)
def CtQ (l : Launch) (y : MethodName) (cc : ByteArray) (nL : Nat) (ret : Option FieldType) (fm lo : Nat) (g : gT) (N : Nat) (ad : Nat → Nat) (F : Nat → va_E) (As : List Value) (post : Option Nat → (Nat → va_E) → Prop) : Prop := ∀ sz : Nat, Met l y (WS y cc nL ret) (rmR fm lo) (va_Pc As (Pw g N ad F sz)) (va_Qq post (Bw g N ad) (fr N ad sz)) 0 0 (fr N ad sz)
theorem blind_w {g : gT} {N : Nat} {ad : Nat → Nat} {F : Nat → va_E} {sz : Nat} {As : List Value} : FrameBlind (va_Pc As (Pw g N ad F sz)) := by
  intro a U gg mk q
  obtain ⟨q0, q1, qP, qK, qD, qN, qX⟩ := q
  exact ⟨q0, q1, qP, va_K.moved (u := U) (U := U.calling gg mk a) (Vm.Alike.refl U.vm) qK, qD, NwX.same (u := U) (U := U.calling gg mk a) rfl qN, Sx.same (u := U) (U := U.calling gg mk a) qX rfl⟩
theorem lwg_code {args : Array Value} {s : State} {y : MethodName} {cc : ByteArray} {nL : Nat} {ret : Option FieldType} (h : ∀ w ∈ WS y cc nL ret, w.before args s = true) : ∀ w ∈ lw_g, w.before args s = true := fun w hw => h w (List.mem_cons_of_mem _ hw)
theorem met_body {Qc : (Nat → Prop) → Array Value → State → Outcome → State → Prop} {l : Launch} {y : MethodName} {cc : ByteArray} {nL : Nat} {ret : Option FieldType} {fm lo : Nat} {g : gT} {N : Nat} {ad : Nat → Nat} {F : Nat → va_E} {As : List Value} (hy : plainName y.cls = true) (hlen : (lg_sl As).length ≤ nL)
    (body : ∀ (p : Program) (e : Env) (s : State) (m : MethodId) (args : Array Value) (below : List Frame) (meth : Method) (c : Code) (A : Nat → Prop) (H : Heap) (ls : Array Slot), Kx p m meth c s args cc nL y.cls ret → Mx g N ad A s → Hx g N ad F A s H [] → lv_has ls nL (lv_args 0 As) → W p l e (rmR fm lo) s m args below meth c H [] 0 0 (MQ below (Qc A) args s 0 0 A) (F0 m 0 ls [])) (sz : Nat) : Met l y (WS y cc nL ret) (rmR fm lo) (va_Pc As (Pw g N ad F sz)) (Qc (fr N ad sz)) 0 0 (fr N ad sz) := by
  refine Met.ofW (cc := cc) (maxL := nL) (ret := ret) hy rfl ?_
  intro p e s m args below meth c s₁ B hml hv
  obtain ⟨rfl, hsz, hP, hK, hI, hNw, hSx⟩ := hv
  have hts := atoms_spec (ws := WS y cc nL ret) B.pre
  have hown : s.vm.findClass y.cls = some m.cls := findClass_of_methodNamed B.named
  subst hsz
  have hl := lv_entry As hlen
  rw [lg_entry_eq]
  exact body p e s m _ below meth c _ s.heap _ ⟨⟨B.exec, B.bytes, hml, hown, lwg_code hts⟩, B.returns, B.notSynchronized⟩ ⟨hK, hI, fun i hi => Or.inl ⟨i, hi, rfl⟩, fun q h => Or.inr h, hNw, hSx⟩ ⟨hP, va_S.rf⟩ hl
section CT
variable {l : Launch} {y : MethodName} {cc : ByteArray} {nL : Nat} {ret : Option FieldType} {fm lo : Nat} {g : gT} {N : Nat} {ad : Nat → Nat} {F : Nat → va_E} {As : List Value}
abbrev GwI (l : Launch) (cc : ByteArray) (nL : Nat) (own : String) (ret : Option FieldType) (fm lo : Nat) (g : gT) (N : Nat) (ad : Nat → Nat) (F : Nat → va_E) (As : List Value) (post : Int32 → (Nat → va_E) → Prop) : Prop := ∀ (p : Program) (e : Env) (s : State) (m : MethodId) (args : Array Value) (below : List Frame) (meth : Method) (c : Code) (A : Nat → Prop) (H : Heap) (ls : Array Slot), Kx p m meth c s args cc nL own ret → Mx g N ad A s → Hx g N ad F A s H [] → lv_has ls nL (lv_args 0 As) → W p l e (rmR fm lo) s m args below meth c H [] 0 0 (MQ below (va_Qi post (Bw g N ad) A) args s 0 0 A) (F0 m 0 ls [])
theorem CtI_of {post : Int32 → (Nat → va_E) → Prop} (hy : plainName y.cls = true) (hlen : (lg_sl As).length ≤ nL) (body : GwI l cc nL y.cls ret fm lo g N ad F As post) : CtI l y cc nL ret fm lo g N ad F As post := fun sz => met_body (Qc := fun A => va_Qi post (Bw g N ad) A) hy hlen body sz
abbrev GwV (l : Launch) (cc : ByteArray) (nL : Nat) (own : String) (ret : Option FieldType) (fm lo : Nat) (g : gT) (N : Nat) (ad : Nat → Nat) (F : Nat → va_E) (As : List Value) (post : (Nat → va_E) → Prop) : Prop := ∀ (p : Program) (e : Env) (s : State) (m : MethodId) (args : Array Value) (below : List Frame) (meth : Method) (c : Code) (A : Nat → Prop) (H : Heap) (ls : Array Slot), Kx p m meth c s args cc nL own ret → Mx g N ad A s → Hx g N ad F A s H [] → lv_has ls nL (lv_args 0 As) → W p l e (rmR fm lo) s m args below meth c H [] 0 0 (MQ below (va_Qv post (Bw g N ad) A) args s 0 0 A) (F0 m 0 ls [])
theorem CtV_of {post : (Nat → va_E) → Prop} (hy : plainName y.cls = true) (hlen : (lg_sl As).length ≤ nL) (body : GwV l cc nL y.cls ret fm lo g N ad F As post) : CtV l y cc nL ret fm lo g N ad F As post := fun sz => met_body (Qc := fun A => va_Qv post (Bw g N ad) A) hy hlen body sz
abbrev GwF (l : Launch) (cc : ByteArray) (nL : Nat) (own : String) (ret : Option FieldType) (fm lo : Nat) (g : gT) (N : Nat) (ad : Nat → Nat) (F : Nat → va_E) (As : List Value) (post : UInt32 → (Nat → va_E) → Prop) : Prop := ∀ (p : Program) (e : Env) (s : State) (m : MethodId) (args : Array Value) (below : List Frame) (meth : Method) (c : Code) (A : Nat → Prop) (H : Heap) (ls : Array Slot), Kx p m meth c s args cc nL own ret → Mx g N ad A s → Hx g N ad F A s H [] → lv_has ls nL (lv_args 0 As) → W p l e (rmR fm lo) s m args below meth c H [] 0 0 (MQ below (va_Qf post (Bw g N ad) A) args s 0 0 A) (F0 m 0 ls [])
theorem CtF_of {post : UInt32 → (Nat → va_E) → Prop} (hy : plainName y.cls = true) (hlen : (lg_sl As).length ≤ nL) (body : GwF l cc nL y.cls ret fm lo g N ad F As post) : CtF l y cc nL ret fm lo g N ad F As post := fun sz => met_body (Qc := fun A => va_Qf post (Bw g N ad) A) hy hlen body sz
abbrev GwD (l : Launch) (cc : ByteArray) (nL : Nat) (own : String) (ret : Option FieldType) (fm lo : Nat) (g : gT) (N : Nat) (ad : Nat → Nat) (F : Nat → va_E) (As : List Value) (post : UInt64 → (Nat → va_E) → Prop) : Prop := ∀ (p : Program) (e : Env) (s : State) (m : MethodId) (args : Array Value) (below : List Frame) (meth : Method) (c : Code) (A : Nat → Prop) (H : Heap) (ls : Array Slot), Kx p m meth c s args cc nL own ret → Mx g N ad A s → Hx g N ad F A s H [] → lv_has ls nL (lv_args 0 As) → W p l e (rmR fm lo) s m args below meth c H [] 0 0 (MQ below (va_Qd post (Bw g N ad) A) args s 0 0 A) (F0 m 0 ls [])
theorem CtD_of {post : UInt64 → (Nat → va_E) → Prop} (hy : plainName y.cls = true) (hlen : (lg_sl As).length ≤ nL) (body : GwD l cc nL y.cls ret fm lo g N ad F As post) : CtD l y cc nL ret fm lo g N ad F As post := fun sz => met_body (Qc := fun A => va_Qd post (Bw g N ad) A) hy hlen body sz
abbrev GwQ (l : Launch) (cc : ByteArray) (nL : Nat) (own : String) (ret : Option FieldType) (fm lo : Nat) (g : gT) (N : Nat) (ad : Nat → Nat) (F : Nat → va_E) (As : List Value) (post : Option Nat → (Nat → va_E) → Prop) : Prop := ∀ (p : Program) (e : Env) (s : State) (m : MethodId) (args : Array Value) (below : List Frame) (meth : Method) (c : Code) (A : Nat → Prop) (H : Heap) (ls : Array Slot), Kx p m meth c s args cc nL own ret → Mx g N ad A s → Hx g N ad F A s H [] → lv_has ls nL (lv_args 0 As) → W p l e (rmR fm lo) s m args below meth c H [] 0 0 (MQ below (va_Qq post (Bw g N ad) A) args s 0 0 A) (F0 m 0 ls [])
theorem CtQ_of {post : Option Nat → (Nat → va_E) → Prop} (hy : plainName y.cls = true) (hlen : (lg_sl As).length ≤ nL) (body : GwQ l cc nL y.cls ret fm lo g N ad F As post) : CtQ l y cc nL ret fm lo g N ad F As post := fun sz => met_body (Qc := fun A => va_Qq post (Bw g N ad) A) hy hlen body sz
end CT
/-! what the tables say of fields and of calls, packed -/
def FLink (own : String) (index : Nat) (ref name desc : String) : Prop := Cond.fieldLink own index ref name desc ∈ lw_g ∨ ∃ host : String, Cond.fieldLinkNest own index ref name desc host ∈ lw_n
def Fld (own : String) (index ci k : Nat) : Prop := ∃ (C : String) (T : u_T) (n : Nat) (ref : String), vwCl[ci]? = some (C, T, n) ∧ (∀ w ∈ u_ws C T n, w ∈ lw_g) ∧ k < n ∧ FLink own index ref (T k).2.1 (T k).2.2.1 ∧ (T k).1 = ref
def FldP (own : String) (index ci k : Nat) (ty : FieldType) : Prop := ∃ (C : String) (T : u_T) (n : Nat) (ref : String) (ty0 : Nat → FieldType), vwCl[ci]? = some (C, T, n) ∧ (∀ w ∈ u_ws C T n, w ∈ lw_g) ∧ (∀ k, k < n → parseFieldDescriptor (T k).2.2.1 = some (ty0 k)) ∧ (∀ a, a < n → ∀ b, b < n → a ≠ b → (T a).2.1 ≠ (T b).2.1) ∧ k < n ∧ FLink own index ref (T k).2.1 (T k).2.2.1 ∧ (T k).1 = ref ∧ (T k).2.2.2 = false ∧ parseFieldDescriptor (T k).2.2.1 = some ty
theorem law_goodIn {ws : List Cond} (h : ∀ w ∈ ws, w ∈ lw_g) : GoodIn lw_g ws := fun w hw => ⟨h w hw, good_of_word (List.mem_filter.mp (h w hw)).2⟩
def LkV (own : String) (index : Nat) (y : MethodName) (cc : ByteArray) (nL : Nat) (ret : Option FieldType) (n : Nat) : Prop := GoodIn lw_g (wsV own index y.cls y (WS y cc nL ret)) ∧ y.cls ≠ "java/lang/invoke/MethodHandle" ∧ y.cls ≠ "java/lang/invoke/VarHandle" ∧ (parseMethodDescriptor y.desc).map (fun d => d.parameters.length) = some n
def LkS (own : String) (index : Nat) (y : MethodName) (cc : ByteArray) (nL : Nat) (ret : Option FieldType) (n : Nat) : Prop := GoodIn lw_g (va_wsS own index y (WS y cc nL ret)) ∧ y.cls ≠ "java/lang/invoke/MethodHandle" ∧ y.cls ≠ "java/lang/invoke/VarHandle" ∧ (parseMethodDescriptor y.desc).map (fun d => d.parameters.length) = some n
theorem LkV_of {own : String} {index : Nat} {y : MethodName} {cc : ByteArray} {nL : Nat} {ret : Option FieldType} {n : Nat} (h1 : Cond.methodLink own index y ∈ lw_g) (h2 : Cond.instanceMethod y ∈ lw_g) (h3 : Cond.selects y.cls y y ∈ lw_g) (h4 : Cond.initialized y.cls ∈ lw_g) (h5 : Cond.code y cc nL ret ∈ lw_g) (h6 : y.cls ≠ "java/lang/invoke/MethodHandle" ∧ y.cls ≠ "java/lang/invoke/VarHandle" ∧ (parseMethodDescriptor y.desc).map (fun d => d.parameters.length) = some n) : LkV own index y cc nL ret n :=
  ⟨law_goodIn (List.forall_mem_cons.mpr ⟨h1, List.forall_mem_cons.mpr ⟨h2, List.forall_mem_cons.mpr ⟨h3, List.forall_mem_cons.mpr ⟨h4, List.forall_mem_cons.mpr ⟨h5, fun _ h => h⟩⟩⟩⟩⟩), h6⟩
theorem LkS_of {own : String} {index : Nat} {y : MethodName} {cc : ByteArray} {nL : Nat} {ret : Option FieldType} {n : Nat} (h1 : Cond.methodLink own index y ∈ lw_g) (h2 : Cond.static y ∈ lw_g) (h4 : Cond.initialized y.cls ∈ lw_g) (h5 : Cond.code y cc nL ret ∈ lw_g) (h6 : y.cls ≠ "java/lang/invoke/MethodHandle" ∧ y.cls ≠ "java/lang/invoke/VarHandle" ∧ (parseMethodDescriptor y.desc).map (fun d => d.parameters.length) = some n) : LkS own index y cc nL ret n :=
  ⟨law_goodIn (List.forall_mem_cons.mpr ⟨h1, List.forall_mem_cons.mpr ⟨h2, List.forall_mem_cons.mpr ⟨h4, List.forall_mem_cons.mpr ⟨h5, fun _ h => h⟩⟩⟩⟩), h6⟩
/-! int, float, char arrays by what they hold within their length -/
def arI (g : gT) (F : Nat → va_E) (i n : Nat) (a : Nat → Int32) : Prop := ∃ f : Nat → Int32, F i = .inl (g.2.1, n, .inl f) ∧ ∀ k, k < n → f k = a k
def arC (g : gT) (F : Nat → va_E) (i n : Nat) (a : Nat → Int32) : Prop := ∃ f : Nat → Int32, F i = .inl (g.2.2.2.1, n, .inl f) ∧ ∀ k, k < n → f k = a k
def arF (g : gT) (F : Nat → va_E) (i n : Nat) (a : Nat → UInt32) : Prop := ∃ f : Nat → UInt32, F i = .inl (g.2.2.1, n, .inr (.inr (.inl f))) ∧ ∀ k, k < n → f k = a k
theorem arI.fr {g : gT} {F F' : Nat → va_E} {i n : Nat} {a : Nat → Int32} (h : arI g F i n a) (e : F' i = F i) : arI g F' i n a := by obtain ⟨f, h1, h2⟩ := h; exact ⟨f, e.trans h1, h2⟩
theorem arC.fr {g : gT} {F F' : Nat → va_E} {i n : Nat} {a : Nat → Int32} (h : arC g F i n a) (e : F' i = F i) : arC g F' i n a := by obtain ⟨f, h1, h2⟩ := h; exact ⟨f, e.trans h1, h2⟩
theorem arF.fr {g : gT} {F F' : Nat → va_E} {i n : Nat} {a : Nat → UInt32} (h : arF g F i n a) (e : F' i = F i) : arF g F' i n a := by obtain ⟨f, h1, h2⟩ := h; exact ⟨f, e.trans h1, h2⟩
theorem arI.eq {g : gT} {F : Nat → va_E} {i n : Nat} {a b : Nat → Int32} (h : arI g F i n a) (e : ∀ k, k < n → a k = b k) : arI g F i n b := by obtain ⟨f, h1, h2⟩ := h; exact ⟨f, h1, fun k hk => (h2 k hk).trans (e k hk)⟩
theorem arC.eq {g : gT} {F : Nat → va_E} {i n : Nat} {a b : Nat → Int32} (h : arC g F i n a) (e : ∀ k, k < n → a k = b k) : arC g F i n b := by obtain ⟨f, h1, h2⟩ := h; exact ⟨f, h1, fun k hk => (h2 k hk).trans (e k hk)⟩
theorem arF.eq {g : gT} {F : Nat → va_E} {i n : Nat} {a b : Nat → UInt32} (h : arF g F i n a) (e : ∀ k, k < n → a k = b k) : arF g F i n b := by obtain ⟨f, h1, h2⟩ := h; exact ⟨f, h1, fun k hk => (h2 k hk).trans (e k hk)⟩
section ROWS
variable {p : Program} {l : Launch} {e : Env} {R : Room} {s : State} {m : MethodId} {args : Array Value} {below : List Frame} {meth : Method} {c : Code} {H : Heap} {locs : List Loc} {cells slots : Nat} {Q : State → Prop}
variable {cc : ByteArray} {nL : Nat} {own : String} {ret : Option FieldType} {g : gT} {N : Nat} {ad : Nat → Nat} {F : Nat → va_E} {A : Nat → Prop} {pc : Nat} {ls : Array Slot} {rest : List Value}
theorem w_get (X : Kx p m meth c s args cc nL own ret) (M : Mx g N ad A s) (h : Hx g N ad F A s H locs) (i : Nat) {ci : Nat} {fs : List Value} (hF : F i = .inr (ci, fs)) (hi : i < N) {index k : Nat} (fl : Fld own index ci k) {v : Value} (hv : fs[k]? = some v) (hdg : decode cc pc = .ok (.getfield index, 3)) (kk : W p l e R s m args below meth c H locs cells slots Q (F0 m (pc + 3) ls (v :: rest))) : W p l e R s m args below meth c H locs cells slots Q (F0 m pc ls (.ref (ad i) :: rest)) := by
  obtain ⟨C, T, n, ref, h1, h2, h3, h4, h5⟩ := fl
  subst h5
  rcases h4 with h4 | ⟨host, h4⟩
  · exact va_get (D := g.1) (ci := ci) X.1.1 X.1.2.1 X.1.2.2.2.2 h2 X.1.2.2.2.1 M.1 h.1 i (wl_at hi hF) h1 k h3 (X.1.2.2.2.2 _ h4) (fun x hx => hx) hv hdg kk
  · exact va_getN (D := g.1) (ci := ci) X.1.1 X.1.2.1 X.1.2.2.2.2 h2 X.1.2.2.2.1 M.1 h.1 i (wl_at hi hF) h1 k h3 (M.2.2.2.2.1.use h4) (fun x hx => hx) hv hdg kk
theorem w_put (X : Kx p m meth c s args cc nL own ret) (M : Mx g N ad A s) (h : Hx g N ad F A s H locs) (i : Nat) {ci : Nat} {fs : List Value} (hF : F i = .inr (ci, fs)) (hi : i < N) {index k : Nat} {ty : FieldType} (fl : FldP own index ci k ty) {v : Value} (hn : narrow ty v = v) (hfit : fits ty v = true) (hl : k < fs.length) (hdg : decode cc pc = .ok (.putfield index, 3))
    (kk : ∀ (F' : Nat → va_E) (H' : Heap) (locs' : List Loc), Hx g N ad F' A s H' locs' → F' i = .inr (ci, fs.set k v) → (∀ j, j ≠ i → F' j = F j) → W p l e R s m args below meth c H' locs' cells slots Q (F0 m (pc + 3) ls rest)) : W p l e R s m args below meth c H locs cells slots Q (F0 m pc ls (v :: .ref (ad i) :: rest)) := by
  obtain ⟨C, T, n, ref, ty0, h1, h2, h3, h4, h5, h6, h7, h8, h9⟩ := fl
  subst h7
  rcases h6 with h6 | ⟨host, h6⟩
  · refine va_put (D := g.1) (ci := ci) X.1.1 X.1.2.1 X.1.2.2.2.2 h2 ty0 h3 h4 X.1.2.2.2.1 M.1 h.1 (M.D F) h.2 i (wl_at hi hF) h1 k h5 (X.1.2.2.2.2 _ h6) (fun x hx => hx) h8 h9 hn hfit hl hdg (fun H1 locs1 hP hD hS => ?_)
    rw [wl_set] at hP
    exact kk _ H1 locs1 ⟨hP, hS⟩ (by simp [va_up]) (fun j hj => by simp [va_up, hj])
  · refine va_putN (D := g.1) (ci := ci) X.1.1 X.1.2.1 X.1.2.2.2.2 h2 ty0 h3 h4 X.1.2.2.2.1 M.1 h.1 (M.D F) h.2 i (wl_at hi hF) h1 k h5 (M.2.2.2.2.1.use h6) (fun x hx => hx) h8 h9 hn hfit hl hdg (fun H1 locs1 hP hD hS => ?_)
    rw [wl_set] at hP
    exact kk _ H1 locs1 ⟨hP, hS⟩ (by simp [va_up]) (fun j hj => by simp [va_up, hj])
theorem w_iald (X : Kx p m meth c s args cc nL own ret) (M : Mx g N ad A s) (h : Hx g N ad F A s H locs) (i : Nat) {n : Nat} {a : Nat → Int32} (ha : arI g F i n a) (hi : i < N) {x : Int32} (k : Nat) (hx : x = nI k) (hk : k < n) (hn : n < 2147483648) (hdg : decode cc pc = .ok (.iaload, 1)) (kk : W p l e R s m args below meth c H locs cells slots Q (F0 m (pc + 1) ls (.int (a k) :: rest))) : W p l e R s m args below meth c H locs cells slots Q (F0 m pc ls (.int x :: .ref (ad i) :: rest)) := by
  obtain ⟨f, h1, h2⟩ := ha
  subst hx
  refine va_iald X.1.1 X.1.2.1 M.1 h.1 i 0 (wl_at hi h1) rfl (vp_in_nI hk hn) hdg ?_
  rw [nI_clamp (by omega), h2 k hk]
  exact kk
theorem w_cald (X : Kx p m meth c s args cc nL own ret) (M : Mx g N ad A s) (h : Hx g N ad F A s H locs) (i : Nat) {n : Nat} {a : Nat → Int32} (ha : arC g F i n a) (hi : i < N) {x : Int32} (k : Nat) (hx : x = nI k) (hk : k < n) (hn : n < 2147483648) (hdg : decode cc pc = .ok (.caload, 1)) (kk : W p l e R s m args below meth c H locs cells slots Q (F0 m (pc + 1) ls (.int (a k) :: rest))) : W p l e R s m args below meth c H locs cells slots Q (F0 m pc ls (.int x :: .ref (ad i) :: rest)) := by
  obtain ⟨f, h1, h2⟩ := ha
  subst hx
  refine va_cald X.1.1 X.1.2.1 M.1 h.1 i 2 (wl_at hi h1) rfl (vp_in_nI hk hn) hdg ?_
  rw [nI_clamp (by omega), h2 k hk]
  exact kk
theorem w_fald (X : Kx p m meth c s args cc nL own ret) (M : Mx g N ad A s) (h : Hx g N ad F A s H locs) (i : Nat) {n : Nat} {a : Nat → UInt32} (ha : arF g F i n a) (hi : i < N) {x : Int32} (k : Nat) (hx : x = nI k) (hk : k < n) (hn : n < 2147483648) (hdg : decode cc pc = .ok (.faload, 1)) (kk : W p l e R s m args below meth c H locs cells slots Q (F0 m (pc + 1) ls (.float (a k) :: rest))) : W p l e R s m args below meth c H locs cells slots Q (F0 m pc ls (.int x :: .ref (ad i) :: rest)) := by
  obtain ⟨f, h1, h2⟩ := ha
  subst hx
  refine va_fald X.1.1 X.1.2.1 M.1 h.1 i 1 (wl_at hi h1) rfl (vp_in_nI hk hn) hdg ?_
  rw [nI_clamp (by omega), h2 k hk]
  exact kk
theorem w_iast (X : Kx p m meth c s args cc nL own ret) (M : Mx g N ad A s) (h : Hx g N ad F A s H locs) (i : Nat) {n : Nat} {a : Nat → Int32} (ha : arI g F i n a) (hi : i < N) {x v : Int32} (k : Nat) (hx : x = nI k) (hk : k < n) (hn : n < 2147483648) (hdg : decode cc pc = .ok (.iastore, 1))
    (kk : ∀ (F' : Nat → va_E) (H' : Heap) (locs' : List Loc), Hx g N ad F' A s H' locs' → arI g F' i n (upd a k v) → (∀ j, j ≠ i → F' j = F j) → W p l e R s m args below meth c H' locs' cells slots Q (F0 m (pc + 1) ls rest)) : W p l e R s m args below meth c H locs cells slots Q (F0 m pc ls (.int v :: .int x :: .ref (ad i) :: rest)) := by
  obtain ⟨f, h1, h2⟩ := ha
  subst hx
  refine va_iast X.1.1 X.1.2.1 M.1 h.1 (M.D F) h.2 i 0 (wl_at hi h1) rfl (vp_in_nI hk hn) hdg (fun H1 locs1 hP hD hS => ?_)
  rw [wl_set] at hP
  rw [nI_clamp (by omega)] at hP
  exact kk _ H1 locs1 ⟨hP, hS⟩ ⟨upd f k v, by simp [va_up], fun j hj => by simp only [upd]; split <;> first | rfl | exact h2 j hj⟩ (fun j hj => by simp [va_up, hj])
theorem w_cast (X : Kx p m meth c s args cc nL own ret) (M : Mx g N ad A s) (h : Hx g N ad F A s H locs) (i : Nat) {n : Nat} {a : Nat → Int32} (ha : arC g F i n a) (hi : i < N) {x v : Int32} (k : Nat) (hx : x = nI k) (hk : k < n) (hn : n < 2147483648) (hv : vp_nar .char v = v) (hdg : decode cc pc = .ok (.castore, 1))
    (kk : ∀ (F' : Nat → va_E) (H' : Heap) (locs' : List Loc), Hx g N ad F' A s H' locs' → arC g F' i n (upd a k v) → (∀ j, j ≠ i → F' j = F j) → W p l e R s m args below meth c H' locs' cells slots Q (F0 m (pc + 1) ls rest)) : W p l e R s m args below meth c H locs cells slots Q (F0 m pc ls (.int v :: .int x :: .ref (ad i) :: rest)) := by
  obtain ⟨f, h1, h2⟩ := ha
  subst hx
  refine va_cast X.1.1 X.1.2.1 M.1 h.1 (M.D F) h.2 i 2 (wl_at hi h1) rfl (vp_in_nI hk hn) hdg (fun H1 locs1 hP hD hS => ?_)
  rw [wl_set] at hP
  rw [nI_clamp (by omega), hv] at hP
  exact kk _ H1 locs1 ⟨hP, hS⟩ ⟨upd f k v, by simp [va_up], fun j hj => by simp only [upd]; split <;> first | rfl | exact h2 j hj⟩ (fun j hj => by simp [va_up, hj])
theorem w_fast (X : Kx p m meth c s args cc nL own ret) (M : Mx g N ad A s) (h : Hx g N ad F A s H locs) (i : Nat) {n : Nat} {a : Nat → UInt32} (ha : arF g F i n a) (hi : i < N) {x : Int32} {v : UInt32} (k : Nat) (hx : x = nI k) (hk : k < n) (hn : n < 2147483648) (hdg : decode cc pc = .ok (.fastore, 1))
    (kk : ∀ (F' : Nat → va_E) (H' : Heap) (locs' : List Loc), Hx g N ad F' A s H' locs' → arF g F' i n (vf_upd a k v) → (∀ j, j ≠ i → F' j = F j) → W p l e R s m args below meth c H' locs' cells slots Q (F0 m (pc + 1) ls rest)) : W p l e R s m args below meth c H locs cells slots Q (F0 m pc ls (.float v :: .int x :: .ref (ad i) :: rest)) := by
  obtain ⟨f, h1, h2⟩ := ha
  subst hx
  refine va_fast X.1.1 X.1.2.1 M.1 h.1 (M.D F) h.2 i 1 (wl_at hi h1) rfl (vp_in_nI hk hn) hdg (fun H1 locs1 hP hD hS => ?_)
  rw [wl_set] at hP
  rw [nI_clamp (by omega)] at hP
  exact kk _ H1 locs1 ⟨hP, hS⟩ ⟨vf_upd f k v, by simp [va_up], fun j hj => by simp only [vf_upd]; split <;> first | rfl | exact h2 j hj⟩ (fun j hj => by simp [va_up, hj])
theorem w_aleni (X : Kx p m meth c s args cc nL own ret) (M : Mx g N ad A s) (h : Hx g N ad F A s H locs) (i : Nat) {n : Nat} {a : Nat → Int32} (ha : arI g F i n a) (hi : i < N) (hdg : decode cc pc = .ok (.arraylength, 1)) (kk : W p l e R s m args below meth c H locs cells slots Q (F0 m (pc + 1) ls (.int (nI n) :: rest))) : W p l e R s m args below meth c H locs cells slots Q (F0 m pc ls (.ref (ad i) :: rest)) := by
  obtain ⟨f, h1, h2⟩ := ha
  exact va_alen (t0 := 0) (v := nI n) X.1.1 X.1.2.1 M.1 h.1 i (wl_at hi h1) rfl rfl hdg kk
theorem w_alenc (X : Kx p m meth c s args cc nL own ret) (M : Mx g N ad A s) (h : Hx g N ad F A s H locs) (i : Nat) {n : Nat} {a : Nat → Int32} (ha : arC g F i n a) (hi : i < N) (hdg : decode cc pc = .ok (.arraylength, 1)) (kk : W p l e R s m args below meth c H locs cells slots Q (F0 m (pc + 1) ls (.int (nI n) :: rest))) : W p l e R s m args below meth c H locs cells slots Q (F0 m pc ls (.ref (ad i) :: rest)) := by
  obtain ⟨f, h1, h2⟩ := ha
  exact va_alen (t0 := 2) (v := nI n) X.1.1 X.1.2.1 M.1 h.1 i (wl_at hi h1) rfl rfl hdg kk
theorem w_alenf (X : Kx p m meth c s args cc nL own ret) (M : Mx g N ad A s) (h : Hx g N ad F A s H locs) (i : Nat) {n : Nat} {a : Nat → UInt32} (ha : arF g F i n a) (hi : i < N) (hdg : decode cc pc = .ok (.arraylength, 1)) (kk : W p l e R s m args below meth c H locs cells slots Q (F0 m (pc + 1) ls (.int (nI n) :: rest))) : W p l e R s m args below meth c H locs cells slots Q (F0 m pc ls (.ref (ad i) :: rest)) := by
  obtain ⟨f, h1, h2⟩ := ha
  exact va_alen (t0 := 1) (v := nI n) X.1.1 X.1.2.1 M.1 h.1 i (wl_at hi h1) rfl rfl hdg kk
/-- ends -/
theorem w_iret {post : Int32 → (Nat → va_E) → Prop} (X : Kx p m meth c s args cc nL own (some .int)) (h : Hx g N ad F A s H locs) {v : Int32} (hp : post v F) (hdg : decode cc pc = .ok (.ireturn, 1)) : W p l e R s m args below meth c H locs 0 0 (MQ below (va_Qi post (Bw g N ad) A) args s 0 0 A) (F0 m pc ls [.int v]) :=
  W.iret X.1.1 X.1.2.1 X.2.1 (fun t ht hW => ⟨⟨v, F, rfl, hp, by rw [Bw, ht]; exact h.1⟩, h.2.F ht⟩) h.2.2.2 hdg (hlocks := X.2.2)
theorem w_zret {post : Int32 → (Nat → va_E) → Prop} (X : Kx p m meth c s args cc nL own (some .boolean)) (h : Hx g N ad F A s H locs) {v : Int32} (hv : v = 0 ∨ v = 1) (hp : post v F) (hdg : decode cc pc = .ok (.ireturn, 1)) : W p l e R s m args below meth c H locs 0 0 (MQ below (va_Qi post (Bw g N ad) A) args s 0 0 A) (F0 m pc ls [.int v]) :=
  W.zret X.1.1 X.1.2.1 X.2.1 (by rcases hv with rfl | rfl <;> rfl) (fun t ht hW => ⟨⟨v, F, rfl, hp, by rw [Bw, ht]; exact h.1⟩, h.2.F ht⟩) h.2.2.2 hdg (hlocks := X.2.2)
theorem w_vret {post : (Nat → va_E) → Prop} (X : Kx p m meth c s args cc nL own none) (h : Hx g N ad F A s H locs) (hp : post F) (hdg : decode cc pc = .ok (.return_, 1)) : W p l e R s m args below meth c H locs 0 0 (MQ below (va_Qv post (Bw g N ad) A) args s 0 0 A) (F0 m pc ls []) :=
  W.vret X.1.1 X.1.2.1 X.2.1 (fun t ht hW => ⟨⟨F, rfl, hp, by rw [Bw, ht]; exact h.1⟩, h.2.F ht⟩) h.2.2.2 hdg (hlocks := X.2.2)
theorem w_fret {post : UInt32 → (Nat → va_E) → Prop} (X : Kx p m meth c s args cc nL own (some .float)) (h : Hx g N ad F A s H locs) {v : UInt32} (hp : post v F) (hdg : decode cc pc = .ok (.freturn, 1)) : W p l e R s m args below meth c H locs 0 0 (MQ below (va_Qf post (Bw g N ad) A) args s 0 0 A) (F0 m pc ls [.float v]) :=
  W.fret X.1.1 X.1.2.1 X.2.1 (fun t ht hW => ⟨⟨v, F, rfl, hp, by rw [Bw, ht]; exact h.1⟩, h.2.F ht⟩) h.2.2.2 hdg X.2.2
theorem w_dret {post : UInt64 → (Nat → va_E) → Prop} (X : Kx p m meth c s args cc nL own (some .double)) (h : Hx g N ad F A s H locs) {v : UInt64} (hp : post v F) (hdg : decode cc pc = .ok (.dreturn, 1)) : W p l e R s m args below meth c H locs 0 0 (MQ below (va_Qd post (Bw g N ad) A) args s 0 0 A) (F0 m pc ls [.double v]) :=
  W.dret X.1.1 X.1.2.1 X.2.1 (fun t ht hW => ⟨⟨v, F, rfl, hp, by rw [Bw, ht]; exact h.1⟩, h.2.F ht⟩) h.2.2.2 hdg X.2.2
/-- calls: the contract's world is the caller's whole world -/
theorem w_free (M : Mx g N ad A s) (h : Hx g N ad F A s H locs) : ∀ q, fr N ad H.size q → A q := by
  intro q hq
  rcases hq with ⟨i, hi, rfl⟩ | hq
  · exact M.2.2.1 i hi
  · exact M.2.2.2.1 q (Nat.le_trans h.2.1 hq)
theorem w_pre (M : Mx g N ad A s) (h : Hx g N ad F A s H locs) {As : List Value} : ∀ U : State, U.heap = H → s.WarmedH U.vm → va_Pc As (Pw g N ad F H.size) As.toArray U := fun U hU hW => ⟨rfl, by rw [hU], by rw [hU]; exact h.1, va_K.moved hW.alike M.1, M.2.1, M.2.2.2.2.1.warm hW, M.2.2.2.2.2.go hW (fun a h1 h2 => by rw [hU]; exact h.2.2.1 a h1 h2) (w_free M h)⟩
theorem w_cwV (X : Kx p m meth c s args cc nL own ret) {y : MethodName} {ccY : ByteArray} {nY : Nat} {retY : Option FieldType} {fm lo index n : Nat} (lk : LkV own index y ccY nY retY n) (hR : fm + 1 ≤ R.frames ∧ 8 + (nY + 11) + lo ≤ R.locals) : CallW R s args own y.cls index y ccY nY retY (WS y ccY nY retY) (rmR fm lo) 0 0 n := cwV n X.1.2.2.2.2 lk.1 rfl rfl rfl ⟨rfl, lk.2⟩ hR
theorem w_cwS (X : Kx p m meth c s args cc nL own ret) {y : MethodName} {ccY : ByteArray} {nY : Nat} {retY : Option FieldType} {fm lo index n : Nat} (lk : LkS own index y ccY nY retY n) (hR : fm + 1 ≤ R.frames ∧ 8 + (nY + 11) + lo ≤ R.locals) : CallB R s args own index y ccY nY retY (WS y ccY nY retY) (rmR fm lo) 0 0 n ∧ (Cond.static y).before args s = true := va_cwS n X.1.2.2.2.2 lk.1 rfl rfl rfl lk.2 hR
theorem w_preV (M : Mx g N ad A s) (h : Hx g N ad F A s H locs) {i ci : Nat} {fs As : List Value} {C : String} {T : u_T} {n : Nat} (hF : F i = .inr (ci, fs)) (hi : i < N) (hc : vwCl[ci]? = some (C, T, n)) : PreV s H C (ad i) (va_Pc (.ref (ad i) :: As) (Pw g N ad F H.size)) As := ⟨blind_w, va_recv M.1 h.1 hc (wl_at hi hF), w_pre M h⟩
theorem w_preS (M : Mx g N ad A s) (h : Hx g N ad F A s H locs) {As : List Value} : PreS s H (va_Pc As (Pw g N ad F H.size)) As := ⟨blind_w, w_pre M h⟩
end ROWS
