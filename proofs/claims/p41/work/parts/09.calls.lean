section CALLS
variable {p : Program} {l : Launch} {e : Env} {R : Room} {s : State} {m : MethodId} {args : Array Value} {below : List Frame} {meth : Method} {c : Code} {H : Heap} {locs : List Loc} {cells slots : Nat} {Q : State → Prop}
variable {cc : ByteArray} {nL : Nat} {own : String} {ret : Option FieldType} {g : gT} {N : Nat} {ad : Nat → Nat} {F : Nat → va_E} {A : Nat → Prop} {pc : Nat} {ls : Array Slot} {rest st : List Value}
variable {y : MethodName} {ccY : ByteArray} {nY : Nat} {retY : Option FieldType} {fm lo index n ci n0 : Nat} {T : u_T} {fs : List Value} {lvs : List (Nat × Value)}
theorem w_callVi {post : Int32 → (Nat → va_E) → Prop} (X : Kx p m meth c s args cc nL own ret) (M : Mx g N ad A s) (h : Hx g N ad F A s H locs) {i : Nat} (As : List Value) (rest : List Value) (hM : CtI l y ccY nY retY fm lo g N ad F (.ref (ad i) :: As) post) (lk : LkV own index y ccY nY retY n) (hF : F i = .inr (ci, fs)) (hi : i < N) (hc : vwCl[ci]? = some (y.cls, T, n0)) (hn : As.length = n) (hR : fm + 1 ≤ R.frames ∧ 8 + (nY + 11) + lo ≤ R.locals) (hl : lv_has ls nL lvs) (hcs : cells ≤ R.cells ∧ slots ≤ R.slots) (hcat : (rest.map fun v => v.category).sum ≤ 8) (hst : st = As.reverse ++ .ref (ad i) :: rest) (hdg : decode cc pc = .ok (.invokevirtual index, 3))
    (kk : ∀ (r : Int32) (F' : Nat → va_E) (H' : Heap) (locs' : List Loc), post r F' → Hx g N ad F' A s H' locs' → W p l e R s m args below meth c H' locs' cells slots Q (F0 m (pc + 3) ls (.int r :: rest))) : W p l e R s m args below meth c H locs cells slots Q (F0 m pc ls st) := by
  subst hst
  refine va_calli (va_runV (As := As) (rest := rest) X.1 (hM H.size) (w_cwV X lk hR) (w_preV M h hF hi hc) rfl hn hl.1 rfl (lv_room hcat) hdg hcs) h.2 (fun q _ hq => w_free M h q hq) (fun q hq => w_free M h q hq) (fun r u t H1 locs1 ht hvm hp hB hz hk hS => ?_)
  exact kk r u H1 locs1 hp ⟨by rw [Bw, ht] at hB; exact hB, hS⟩
theorem w_readVi {ans : Int32} (X : Kx p m meth c s args cc nL own ret) (M : Mx g N ad A s) (h : Hx g N ad F A s H locs) {i : Nat} (As : List Value) (rest : List Value) (hM : CtI l y ccY nY retY fm lo g N ad F (.ref (ad i) :: As) (fun r F' => r = ans ∧ F' = F)) (lk : LkV own index y ccY nY retY n) (hF : F i = .inr (ci, fs)) (hi : i < N) (hc : vwCl[ci]? = some (y.cls, T, n0)) (hn : As.length = n) (hR : fm + 1 ≤ R.frames ∧ 8 + (nY + 11) + lo ≤ R.locals) (hl : lv_has ls nL lvs) (hcs : cells ≤ R.cells ∧ slots ≤ R.slots) (hcat : (rest.map fun v => v.category).sum ≤ 8) (hst : st = As.reverse ++ .ref (ad i) :: rest) (hdg : decode cc pc = .ok (.invokevirtual index, 3))
    (kk : ∀ (H' : Heap) (locs' : List Loc), Hx g N ad F A s H' locs' → W p l e R s m args below meth c H' locs' cells slots Q (F0 m (pc + 3) ls (.int ans :: rest))) : W p l e R s m args below meth c H locs cells slots Q (F0 m pc ls st) := by
  refine w_callVi X M h As rest hM lk hF hi hc hn hR hl hcs hcat hst hdg (fun r F' H' locs' hp hh => ?_)
  obtain ⟨h1, h2⟩ := hp
  rw [h1]
  rw [h2] at hh
  exact kk H' locs' hh
theorem w_callSi {post : Int32 → (Nat → va_E) → Prop} (X : Kx p m meth c s args cc nL own ret) (M : Mx g N ad A s) (h : Hx g N ad F A s H locs) (As : List Value) (rest : List Value) (hM : CtI l y ccY nY retY fm lo g N ad F As post) (lk : LkS own index y ccY nY retY n) (hn : As.length = n) (hR : fm + 1 ≤ R.frames ∧ 8 + (nY + 11) + lo ≤ R.locals) (hl : lv_has ls nL lvs) (hcs : cells ≤ R.cells ∧ slots ≤ R.slots) (hcat : (rest.map fun v => v.category).sum ≤ 8) (hst : st = As.reverse ++ rest) (hdg : decode cc pc = .ok (.invokestatic index, 3))
    (kk : ∀ (r : Int32) (F' : Nat → va_E) (H' : Heap) (locs' : List Loc), post r F' → Hx g N ad F' A s H' locs' → W p l e R s m args below meth c H' locs' cells slots Q (F0 m (pc + 3) ls (.int r :: rest))) : W p l e R s m args below meth c H locs cells slots Q (F0 m pc ls st) := by
  subst hst
  refine va_calli (va_runS (As := As) (rest := rest) X.1 (hM H.size) (w_cwS X lk hR) (w_preS M h) rfl hn hl.1 rfl (lv_room hcat) hdg hcs) h.2 (fun q _ hq => w_free M h q hq) (fun q hq => w_free M h q hq) (fun r u t H1 locs1 ht hvm hp hB hz hk hS => ?_)
  exact kk r u H1 locs1 hp ⟨by rw [Bw, ht] at hB; exact hB, hS⟩
theorem w_readSi {ans : Int32} (X : Kx p m meth c s args cc nL own ret) (M : Mx g N ad A s) (h : Hx g N ad F A s H locs) (As : List Value) (rest : List Value) (hM : CtI l y ccY nY retY fm lo g N ad F As (fun r F' => r = ans ∧ F' = F)) (lk : LkS own index y ccY nY retY n) (hn : As.length = n) (hR : fm + 1 ≤ R.frames ∧ 8 + (nY + 11) + lo ≤ R.locals) (hl : lv_has ls nL lvs) (hcs : cells ≤ R.cells ∧ slots ≤ R.slots) (hcat : (rest.map fun v => v.category).sum ≤ 8) (hst : st = As.reverse ++ rest) (hdg : decode cc pc = .ok (.invokestatic index, 3))
    (kk : ∀ (H' : Heap) (locs' : List Loc), Hx g N ad F A s H' locs' → W p l e R s m args below meth c H' locs' cells slots Q (F0 m (pc + 3) ls (.int ans :: rest))) : W p l e R s m args below meth c H locs cells slots Q (F0 m pc ls st) := by
  refine w_callSi X M h As rest hM lk hn hR hl hcs hcat hst hdg (fun r F' H' locs' hp hh => ?_)
  obtain ⟨h1, h2⟩ := hp
  rw [h1]
  rw [h2] at hh
  exact kk H' locs' hh
theorem w_callVv {post : (Nat → va_E) → Prop} (X : Kx p m meth c s args cc nL own ret) (M : Mx g N ad A s) (h : Hx g N ad F A s H locs) {i : Nat} (As : List Value) (rest : List Value) (hM : CtV l y ccY nY retY fm lo g N ad F (.ref (ad i) :: As) post) (lk : LkV own index y ccY nY retY n) (hF : F i = .inr (ci, fs)) (hi : i < N) (hc : vwCl[ci]? = some (y.cls, T, n0)) (hn : As.length = n) (hR : fm + 1 ≤ R.frames ∧ 8 + (nY + 11) + lo ≤ R.locals) (hl : lv_has ls nL lvs) (hcs : cells ≤ R.cells ∧ slots ≤ R.slots) (hcat : (rest.map fun v => v.category).sum ≤ 8) (hst : st = As.reverse ++ .ref (ad i) :: rest) (hdg : decode cc pc = .ok (.invokevirtual index, 3))
    (kk : ∀ (F' : Nat → va_E) (H' : Heap) (locs' : List Loc), post F' → Hx g N ad F' A s H' locs' → W p l e R s m args below meth c H' locs' cells slots Q (F0 m (pc + 3) ls (rest))) : W p l e R s m args below meth c H locs cells slots Q (F0 m pc ls st) := by
  subst hst
  refine va_callv (va_runV (As := As) (rest := rest) X.1 (hM H.size) (w_cwV X lk hR) (w_preV M h hF hi hc) rfl hn hl.1 rfl (lv_room hcat) hdg hcs) h.2 (fun q _ hq => w_free M h q hq) (fun q hq => w_free M h q hq) (fun u t H1 locs1 ht hvm hp hB hz hk hS => ?_)
  exact kk u H1 locs1 hp ⟨by rw [Bw, ht] at hB; exact hB, hS⟩
theorem w_callSv {post : (Nat → va_E) → Prop} (X : Kx p m meth c s args cc nL own ret) (M : Mx g N ad A s) (h : Hx g N ad F A s H locs) (As : List Value) (rest : List Value) (hM : CtV l y ccY nY retY fm lo g N ad F As post) (lk : LkS own index y ccY nY retY n) (hn : As.length = n) (hR : fm + 1 ≤ R.frames ∧ 8 + (nY + 11) + lo ≤ R.locals) (hl : lv_has ls nL lvs) (hcs : cells ≤ R.cells ∧ slots ≤ R.slots) (hcat : (rest.map fun v => v.category).sum ≤ 8) (hst : st = As.reverse ++ rest) (hdg : decode cc pc = .ok (.invokestatic index, 3))
    (kk : ∀ (F' : Nat → va_E) (H' : Heap) (locs' : List Loc), post F' → Hx g N ad F' A s H' locs' → W p l e R s m args below meth c H' locs' cells slots Q (F0 m (pc + 3) ls (rest))) : W p l e R s m args below meth c H locs cells slots Q (F0 m pc ls st) := by
  subst hst
  refine va_callv (va_runS (As := As) (rest := rest) X.1 (hM H.size) (w_cwS X lk hR) (w_preS M h) rfl hn hl.1 rfl (lv_room hcat) hdg hcs) h.2 (fun q _ hq => w_free M h q hq) (fun q hq => w_free M h q hq) (fun u t H1 locs1 ht hvm hp hB hz hk hS => ?_)
  exact kk u H1 locs1 hp ⟨by rw [Bw, ht] at hB; exact hB, hS⟩
theorem w_callVf {post : UInt32 → (Nat → va_E) → Prop} (X : Kx p m meth c s args cc nL own ret) (M : Mx g N ad A s) (h : Hx g N ad F A s H locs) {i : Nat} (As : List Value) (rest : List Value) (hM : CtF l y ccY nY retY fm lo g N ad F (.ref (ad i) :: As) post) (lk : LkV own index y ccY nY retY n) (hF : F i = .inr (ci, fs)) (hi : i < N) (hc : vwCl[ci]? = some (y.cls, T, n0)) (hn : As.length = n) (hR : fm + 1 ≤ R.frames ∧ 8 + (nY + 11) + lo ≤ R.locals) (hl : lv_has ls nL lvs) (hcs : cells ≤ R.cells ∧ slots ≤ R.slots) (hcat : (rest.map fun v => v.category).sum ≤ 8) (hst : st = As.reverse ++ .ref (ad i) :: rest) (hdg : decode cc pc = .ok (.invokevirtual index, 3))
    (kk : ∀ (r : UInt32) (F' : Nat → va_E) (H' : Heap) (locs' : List Loc), post r F' → Hx g N ad F' A s H' locs' → W p l e R s m args below meth c H' locs' cells slots Q (F0 m (pc + 3) ls (.float r :: rest))) : W p l e R s m args below meth c H locs cells slots Q (F0 m pc ls st) := by
  subst hst
  refine va_callf (va_runV (As := As) (rest := rest) X.1 (hM H.size) (w_cwV X lk hR) (w_preV M h hF hi hc) rfl hn hl.1 rfl (lv_room hcat) hdg hcs) h.2 (fun q _ hq => w_free M h q hq) (fun q hq => w_free M h q hq) (fun r u t H1 locs1 ht hvm hp hB hz hk hS => ?_)
  exact kk r u H1 locs1 hp ⟨by rw [Bw, ht] at hB; exact hB, hS⟩
theorem w_readVf {ans : UInt32} (X : Kx p m meth c s args cc nL own ret) (M : Mx g N ad A s) (h : Hx g N ad F A s H locs) {i : Nat} (As : List Value) (rest : List Value) (hM : CtF l y ccY nY retY fm lo g N ad F (.ref (ad i) :: As) (fun r F' => r = ans ∧ F' = F)) (lk : LkV own index y ccY nY retY n) (hF : F i = .inr (ci, fs)) (hi : i < N) (hc : vwCl[ci]? = some (y.cls, T, n0)) (hn : As.length = n) (hR : fm + 1 ≤ R.frames ∧ 8 + (nY + 11) + lo ≤ R.locals) (hl : lv_has ls nL lvs) (hcs : cells ≤ R.cells ∧ slots ≤ R.slots) (hcat : (rest.map fun v => v.category).sum ≤ 8) (hst : st = As.reverse ++ .ref (ad i) :: rest) (hdg : decode cc pc = .ok (.invokevirtual index, 3))
    (kk : ∀ (H' : Heap) (locs' : List Loc), Hx g N ad F A s H' locs' → W p l e R s m args below meth c H' locs' cells slots Q (F0 m (pc + 3) ls (.float ans :: rest))) : W p l e R s m args below meth c H locs cells slots Q (F0 m pc ls st) := by
  refine w_callVf X M h As rest hM lk hF hi hc hn hR hl hcs hcat hst hdg (fun r F' H' locs' hp hh => ?_)
  obtain ⟨h1, h2⟩ := hp
  rw [h1]
  rw [h2] at hh
  exact kk H' locs' hh
theorem w_callSf {post : UInt32 → (Nat → va_E) → Prop} (X : Kx p m meth c s args cc nL own ret) (M : Mx g N ad A s) (h : Hx g N ad F A s H locs) (As : List Value) (rest : List Value) (hM : CtF l y ccY nY retY fm lo g N ad F As post) (lk : LkS own index y ccY nY retY n) (hn : As.length = n) (hR : fm + 1 ≤ R.frames ∧ 8 + (nY + 11) + lo ≤ R.locals) (hl : lv_has ls nL lvs) (hcs : cells ≤ R.cells ∧ slots ≤ R.slots) (hcat : (rest.map fun v => v.category).sum ≤ 8) (hst : st = As.reverse ++ rest) (hdg : decode cc pc = .ok (.invokestatic index, 3))
    (kk : ∀ (r : UInt32) (F' : Nat → va_E) (H' : Heap) (locs' : List Loc), post r F' → Hx g N ad F' A s H' locs' → W p l e R s m args below meth c H' locs' cells slots Q (F0 m (pc + 3) ls (.float r :: rest))) : W p l e R s m args below meth c H locs cells slots Q (F0 m pc ls st) := by
  subst hst
  refine va_callf (va_runS (As := As) (rest := rest) X.1 (hM H.size) (w_cwS X lk hR) (w_preS M h) rfl hn hl.1 rfl (lv_room hcat) hdg hcs) h.2 (fun q _ hq => w_free M h q hq) (fun q hq => w_free M h q hq) (fun r u t H1 locs1 ht hvm hp hB hz hk hS => ?_)
  exact kk r u H1 locs1 hp ⟨by rw [Bw, ht] at hB; exact hB, hS⟩
theorem w_readSf {ans : UInt32} (X : Kx p m meth c s args cc nL own ret) (M : Mx g N ad A s) (h : Hx g N ad F A s H locs) (As : List Value) (rest : List Value) (hM : CtF l y ccY nY retY fm lo g N ad F As (fun r F' => r = ans ∧ F' = F)) (lk : LkS own index y ccY nY retY n) (hn : As.length = n) (hR : fm + 1 ≤ R.frames ∧ 8 + (nY + 11) + lo ≤ R.locals) (hl : lv_has ls nL lvs) (hcs : cells ≤ R.cells ∧ slots ≤ R.slots) (hcat : (rest.map fun v => v.category).sum ≤ 8) (hst : st = As.reverse ++ rest) (hdg : decode cc pc = .ok (.invokestatic index, 3))
    (kk : ∀ (H' : Heap) (locs' : List Loc), Hx g N ad F A s H' locs' → W p l e R s m args below meth c H' locs' cells slots Q (F0 m (pc + 3) ls (.float ans :: rest))) : W p l e R s m args below meth c H locs cells slots Q (F0 m pc ls st) := by
  refine w_callSf X M h As rest hM lk hn hR hl hcs hcat hst hdg (fun r F' H' locs' hp hh => ?_)
  obtain ⟨h1, h2⟩ := hp
  rw [h1]
  rw [h2] at hh
  exact kk H' locs' hh
theorem w_callVd {post : UInt64 → (Nat → va_E) → Prop} (X : Kx p m meth c s args cc nL own ret) (M : Mx g N ad A s) (h : Hx g N ad F A s H locs) {i : Nat} (As : List Value) (rest : List Value) (hM : CtD l y ccY nY retY fm lo g N ad F (.ref (ad i) :: As) post) (lk : LkV own index y ccY nY retY n) (hF : F i = .inr (ci, fs)) (hi : i < N) (hc : vwCl[ci]? = some (y.cls, T, n0)) (hn : As.length = n) (hR : fm + 1 ≤ R.frames ∧ 8 + (nY + 11) + lo ≤ R.locals) (hl : lv_has ls nL lvs) (hcs : cells ≤ R.cells ∧ slots ≤ R.slots) (hcat : (rest.map fun v => v.category).sum ≤ 8) (hst : st = As.reverse ++ .ref (ad i) :: rest) (hdg : decode cc pc = .ok (.invokevirtual index, 3))
    (kk : ∀ (r : UInt64) (F' : Nat → va_E) (H' : Heap) (locs' : List Loc), post r F' → Hx g N ad F' A s H' locs' → W p l e R s m args below meth c H' locs' cells slots Q (F0 m (pc + 3) ls (.double r :: rest))) : W p l e R s m args below meth c H locs cells slots Q (F0 m pc ls st) := by
  subst hst
  refine va_calld (va_runV (As := As) (rest := rest) X.1 (hM H.size) (w_cwV X lk hR) (w_preV M h hF hi hc) rfl hn hl.1 rfl (lv_room hcat) hdg hcs) h.2 (fun q _ hq => w_free M h q hq) (fun q hq => w_free M h q hq) (fun r u t H1 locs1 ht hvm hp hB hz hk hS => ?_)
  exact kk r u H1 locs1 hp ⟨by rw [Bw, ht] at hB; exact hB, hS⟩
theorem w_readVd {ans : UInt64} (X : Kx p m meth c s args cc nL own ret) (M : Mx g N ad A s) (h : Hx g N ad F A s H locs) {i : Nat} (As : List Value) (rest : List Value) (hM : CtD l y ccY nY retY fm lo g N ad F (.ref (ad i) :: As) (fun r F' => r = ans ∧ F' = F)) (lk : LkV own index y ccY nY retY n) (hF : F i = .inr (ci, fs)) (hi : i < N) (hc : vwCl[ci]? = some (y.cls, T, n0)) (hn : As.length = n) (hR : fm + 1 ≤ R.frames ∧ 8 + (nY + 11) + lo ≤ R.locals) (hl : lv_has ls nL lvs) (hcs : cells ≤ R.cells ∧ slots ≤ R.slots) (hcat : (rest.map fun v => v.category).sum ≤ 8) (hst : st = As.reverse ++ .ref (ad i) :: rest) (hdg : decode cc pc = .ok (.invokevirtual index, 3))
    (kk : ∀ (H' : Heap) (locs' : List Loc), Hx g N ad F A s H' locs' → W p l e R s m args below meth c H' locs' cells slots Q (F0 m (pc + 3) ls (.double ans :: rest))) : W p l e R s m args below meth c H locs cells slots Q (F0 m pc ls st) := by
  refine w_callVd X M h As rest hM lk hF hi hc hn hR hl hcs hcat hst hdg (fun r F' H' locs' hp hh => ?_)
  obtain ⟨h1, h2⟩ := hp
  rw [h1]
  rw [h2] at hh
  exact kk H' locs' hh
theorem w_callSd {post : UInt64 → (Nat → va_E) → Prop} (X : Kx p m meth c s args cc nL own ret) (M : Mx g N ad A s) (h : Hx g N ad F A s H locs) (As : List Value) (rest : List Value) (hM : CtD l y ccY nY retY fm lo g N ad F As post) (lk : LkS own index y ccY nY retY n) (hn : As.length = n) (hR : fm + 1 ≤ R.frames ∧ 8 + (nY + 11) + lo ≤ R.locals) (hl : lv_has ls nL lvs) (hcs : cells ≤ R.cells ∧ slots ≤ R.slots) (hcat : (rest.map fun v => v.category).sum ≤ 8) (hst : st = As.reverse ++ rest) (hdg : decode cc pc = .ok (.invokestatic index, 3))
    (kk : ∀ (r : UInt64) (F' : Nat → va_E) (H' : Heap) (locs' : List Loc), post r F' → Hx g N ad F' A s H' locs' → W p l e R s m args below meth c H' locs' cells slots Q (F0 m (pc + 3) ls (.double r :: rest))) : W p l e R s m args below meth c H locs cells slots Q (F0 m pc ls st) := by
  subst hst
  refine va_calld (va_runS (As := As) (rest := rest) X.1 (hM H.size) (w_cwS X lk hR) (w_preS M h) rfl hn hl.1 rfl (lv_room hcat) hdg hcs) h.2 (fun q _ hq => w_free M h q hq) (fun q hq => w_free M h q hq) (fun r u t H1 locs1 ht hvm hp hB hz hk hS => ?_)
  exact kk r u H1 locs1 hp ⟨by rw [Bw, ht] at hB; exact hB, hS⟩
theorem w_readSd {ans : UInt64} (X : Kx p m meth c s args cc nL own ret) (M : Mx g N ad A s) (h : Hx g N ad F A s H locs) (As : List Value) (rest : List Value) (hM : CtD l y ccY nY retY fm lo g N ad F As (fun r F' => r = ans ∧ F' = F)) (lk : LkS own index y ccY nY retY n) (hn : As.length = n) (hR : fm + 1 ≤ R.frames ∧ 8 + (nY + 11) + lo ≤ R.locals) (hl : lv_has ls nL lvs) (hcs : cells ≤ R.cells ∧ slots ≤ R.slots) (hcat : (rest.map fun v => v.category).sum ≤ 8) (hst : st = As.reverse ++ rest) (hdg : decode cc pc = .ok (.invokestatic index, 3))
    (kk : ∀ (H' : Heap) (locs' : List Loc), Hx g N ad F A s H' locs' → W p l e R s m args below meth c H' locs' cells slots Q (F0 m (pc + 3) ls (.double ans :: rest))) : W p l e R s m args below meth c H locs cells slots Q (F0 m pc ls st) := by
  refine w_callSd X M h As rest hM lk hn hR hl hcs hcat hst hdg (fun r F' H' locs' hp hh => ?_)
  obtain ⟨h1, h2⟩ := hp
  rw [h1]
  rw [h2] at hh
  exact kk H' locs' hh
theorem w_callVq {post : Option Nat → (Nat → va_E) → Prop} (X : Kx p m meth c s args cc nL own ret) (M : Mx g N ad A s) (h : Hx g N ad F A s H locs) {i : Nat} (As : List Value) (rest : List Value) (hM : CtQ l y ccY nY retY fm lo g N ad F (.ref (ad i) :: As) post) (lk : LkV own index y ccY nY retY n) (hF : F i = .inr (ci, fs)) (hi : i < N) (hc : vwCl[ci]? = some (y.cls, T, n0)) (hn : As.length = n) (hR : fm + 1 ≤ R.frames ∧ 8 + (nY + 11) + lo ≤ R.locals) (hl : lv_has ls nL lvs) (hcs : cells ≤ R.cells ∧ slots ≤ R.slots) (hcat : (rest.map fun v => v.category).sum ≤ 8) (hst : st = As.reverse ++ .ref (ad i) :: rest) (hdg : decode cc pc = .ok (.invokevirtual index, 3))
    (kk : ∀ (r : Option Nat) (F' : Nat → va_E) (H' : Heap) (locs' : List Loc), post r F' → Hx g N ad F' A s H' locs' → W p l e R s m args below meth c H' locs' cells slots Q (F0 m (pc + 3) ls (va_rf r :: rest))) : W p l e R s m args below meth c H locs cells slots Q (F0 m pc ls st) := by
  subst hst
  refine va_callq (va_runV (As := As) (rest := rest) X.1 (hM H.size) (w_cwV X lk hR) (w_preV M h hF hi hc) rfl hn hl.1 rfl (lv_room hcat) hdg hcs) h.2 (fun q _ hq => w_free M h q hq) (fun q hq => w_free M h q hq) (fun r u t H1 locs1 ht hvm hp hB hz hk hS => ?_)
  exact kk r u H1 locs1 hp ⟨by rw [Bw, ht] at hB; exact hB, hS⟩
theorem w_readVq {ans : Option Nat} (X : Kx p m meth c s args cc nL own ret) (M : Mx g N ad A s) (h : Hx g N ad F A s H locs) {i : Nat} (As : List Value) (rest : List Value) (hM : CtQ l y ccY nY retY fm lo g N ad F (.ref (ad i) :: As) (fun r F' => r = ans ∧ F' = F)) (lk : LkV own index y ccY nY retY n) (hF : F i = .inr (ci, fs)) (hi : i < N) (hc : vwCl[ci]? = some (y.cls, T, n0)) (hn : As.length = n) (hR : fm + 1 ≤ R.frames ∧ 8 + (nY + 11) + lo ≤ R.locals) (hl : lv_has ls nL lvs) (hcs : cells ≤ R.cells ∧ slots ≤ R.slots) (hcat : (rest.map fun v => v.category).sum ≤ 8) (hst : st = As.reverse ++ .ref (ad i) :: rest) (hdg : decode cc pc = .ok (.invokevirtual index, 3))
    (kk : ∀ (H' : Heap) (locs' : List Loc), Hx g N ad F A s H' locs' → W p l e R s m args below meth c H' locs' cells slots Q (F0 m (pc + 3) ls (va_rf ans :: rest))) : W p l e R s m args below meth c H locs cells slots Q (F0 m pc ls st) := by
  refine w_callVq X M h As rest hM lk hF hi hc hn hR hl hcs hcat hst hdg (fun r F' H' locs' hp hh => ?_)
  obtain ⟨h1, h2⟩ := hp
  rw [h1]
  rw [h2] at hh
  exact kk H' locs' hh
theorem w_callSq {post : Option Nat → (Nat → va_E) → Prop} (X : Kx p m meth c s args cc nL own ret) (M : Mx g N ad A s) (h : Hx g N ad F A s H locs) (As : List Value) (rest : List Value) (hM : CtQ l y ccY nY retY fm lo g N ad F As post) (lk : LkS own index y ccY nY retY n) (hn : As.length = n) (hR : fm + 1 ≤ R.frames ∧ 8 + (nY + 11) + lo ≤ R.locals) (hl : lv_has ls nL lvs) (hcs : cells ≤ R.cells ∧ slots ≤ R.slots) (hcat : (rest.map fun v => v.category).sum ≤ 8) (hst : st = As.reverse ++ rest) (hdg : decode cc pc = .ok (.invokestatic index, 3))
    (kk : ∀ (r : Option Nat) (F' : Nat → va_E) (H' : Heap) (locs' : List Loc), post r F' → Hx g N ad F' A s H' locs' → W p l e R s m args below meth c H' locs' cells slots Q (F0 m (pc + 3) ls (va_rf r :: rest))) : W p l e R s m args below meth c H locs cells slots Q (F0 m pc ls st) := by
  subst hst
  refine va_callq (va_runS (As := As) (rest := rest) X.1 (hM H.size) (w_cwS X lk hR) (w_preS M h) rfl hn hl.1 rfl (lv_room hcat) hdg hcs) h.2 (fun q _ hq => w_free M h q hq) (fun q hq => w_free M h q hq) (fun r u t H1 locs1 ht hvm hp hB hz hk hS => ?_)
  exact kk r u H1 locs1 hp ⟨by rw [Bw, ht] at hB; exact hB, hS⟩
theorem w_readSq {ans : Option Nat} (X : Kx p m meth c s args cc nL own ret) (M : Mx g N ad A s) (h : Hx g N ad F A s H locs) (As : List Value) (rest : List Value) (hM : CtQ l y ccY nY retY fm lo g N ad F As (fun r F' => r = ans ∧ F' = F)) (lk : LkS own index y ccY nY retY n) (hn : As.length = n) (hR : fm + 1 ≤ R.frames ∧ 8 + (nY + 11) + lo ≤ R.locals) (hl : lv_has ls nL lvs) (hcs : cells ≤ R.cells ∧ slots ≤ R.slots) (hcat : (rest.map fun v => v.category).sum ≤ 8) (hst : st = As.reverse ++ rest) (hdg : decode cc pc = .ok (.invokestatic index, 3))
    (kk : ∀ (H' : Heap) (locs' : List Loc), Hx g N ad F A s H' locs' → W p l e R s m args below meth c H' locs' cells slots Q (F0 m (pc + 3) ls (va_rf ans :: rest))) : W p l e R s m args below meth c H locs cells slots Q (F0 m pc ls st) := by
  refine w_callSq X M h As rest hM lk hn hR hl hcs hcat hst hdg (fun r F' H' locs' hp hh => ?_)
  obtain ⟨h1, h2⟩ := hp
  rw [h1]
  rw [h2] at hh
  exact kk H' locs' hh
theorem w_top {x y : Int32} (h : x = y) (k : W p l e R s m args below meth c H locs cells slots Q (F0 m pc ls (.int y :: rest))) : W p l e R s m args below meth c H locs cells slots Q (F0 m pc ls (.int x :: rest)) := by rw [h]; exact k
theorem w_addn (hx : p.tables.exec = Jvm.exec) (hb : c.code = cc) {a b : Nat} (hdg : decode cc pc = .ok (.iadd, 1)) (k : W p l e R s m args below meth c H locs cells slots Q (F0 m (pc + 1) ls (.int (nI (a + b)) :: rest))) : W p l e R s m args below meth c H locs cells slots Q (F0 m pc ls (.int (nI b) :: .int (nI a) :: rest)) := lv_iadd hx hb hdg (by rw [nI_add]; exact k)
theorem w_subn (hx : p.tables.exec = Jvm.exec) (hb : c.code = cc) {a b : Nat} (hab : b ≤ a) (hdg : decode cc pc = .ok (.isub, 1)) (k : W p l e R s m args below meth c H locs cells slots Q (F0 m (pc + 1) ls (.int (nI (a - b)) :: rest))) : W p l e R s m args below meth c H locs cells slots Q (F0 m pc ls (.int (nI b) :: .int (nI a) :: rest)) := lv_isub hx hb hdg (by rw [pk_sub hab]; exact k)
theorem w_muln (hx : p.tables.exec = Jvm.exec) (hb : c.code = cc) {a b : Nat} (hdg : decode cc pc = .ok (.imul, 1)) (k : W p l e R s m args below meth c H locs cells slots Q (F0 m (pc + 1) ls (.int (nI (a * b)) :: rest))) : W p l e R s m args below meth c H locs cells slots Q (F0 m pc ls (.int (nI b) :: .int (nI a) :: rest)) := lv_imul hx hb hdg (by rw [pk_mul]; exact k)
theorem w_divn (hx : p.tables.exec = Jvm.exec) (hb : c.code = cc) {a b : Nat} (ha : a < 2147483648) (h0 : 0 < b) (hb2 : b < 2147483648) (hdg : decode cc pc = .ok (.idiv, 1)) (k : W p l e R s m args below meth c H locs cells slots Q (F0 m (pc + 1) ls (.int (nI (a / b)) :: rest))) : W p l e R s m args below meth c H locs cells slots Q (F0 m pc ls (.int (nI b) :: .int (nI a) :: rest)) := lv_idiv hx hb hdg (nI_ne0 h0 hb2) (by rw [pk_div ha h0 hb2]; exact k)
theorem w_remn (hx : p.tables.exec = Jvm.exec) (hb : c.code = cc) {a b : Nat} (ha : a < 2147483648) (h0 : 0 < b) (hb2 : b < 2147483648) (hdg : decode cc pc = .ok (.irem, 1)) (k : W p l e R s m args below meth c H locs cells slots Q (F0 m (pc + 1) ls (.int (nI (a % b)) :: rest))) : W p l e R s m args below meth c H locs cells slots Q (F0 m pc ls (.int (nI b) :: .int (nI a) :: rest)) := lv_irem hx hb hdg (nI_ne0 h0 hb2) (by rw [pk_rem ha h0 hb2]; exact k)
theorem w_cmp_ge (hx : p.tables.exec = Jvm.exec) (hb : c.code = cc) {a b : Nat} (ha : a < 2147483648) (hb2 : b < 2147483648) {off : Int} {tgt : Nat} (hdg : decode cc pc = .ok (.if_icmp .ge off, 3)) (ht : (pc : Int) + off = (tgt : Int)) (kt : b ≤ a → W p l e R s m args below meth c H locs cells slots Q (F0 m tgt ls rest)) (kf : a < b → W p l e R s m args below meth c H locs cells slots Q (F0 m (pc + 3) ls rest)) : W p l e R s m args below meth c H locs cells slots Q (F0 m pc ls (.int (nI b) :: .int (nI a) :: rest)) := lv_icmp_ge hx hb hdg ht (fun q => kt ((nI_leI hb2 ha).mp q)) (fun q => kf (by have := mt (nI_leI hb2 ha).mpr q; omega))
theorem w_cmp_lt (hx : p.tables.exec = Jvm.exec) (hb : c.code = cc) {a b : Nat} (ha : a < 2147483648) (hb2 : b < 2147483648) {off : Int} {tgt : Nat} (hdg : decode cc pc = .ok (.if_icmp .lt off, 3)) (ht : (pc : Int) + off = (tgt : Int)) (kt : a < b → W p l e R s m args below meth c H locs cells slots Q (F0 m tgt ls rest)) (kf : b ≤ a → W p l e R s m args below meth c H locs cells slots Q (F0 m (pc + 3) ls rest)) : W p l e R s m args below meth c H locs cells slots Q (F0 m pc ls (.int (nI b) :: .int (nI a) :: rest)) := lv_icmp_lt hx hb hdg ht (fun q => kt ((nI_ltI ha hb2).mp q)) (fun q => kf (by have := mt (nI_ltI ha hb2).mpr q; omega))
theorem w_cmp_gt (hx : p.tables.exec = Jvm.exec) (hb : c.code = cc) {a b : Nat} (ha : a < 2147483648) (hb2 : b < 2147483648) {off : Int} {tgt : Nat} (hdg : decode cc pc = .ok (.if_icmp .gt off, 3)) (ht : (pc : Int) + off = (tgt : Int)) (kt : b < a → W p l e R s m args below meth c H locs cells slots Q (F0 m tgt ls rest)) (kf : a ≤ b → W p l e R s m args below meth c H locs cells slots Q (F0 m (pc + 3) ls rest)) : W p l e R s m args below meth c H locs cells slots Q (F0 m pc ls (.int (nI b) :: .int (nI a) :: rest)) := lv_icmp_gt hx hb hdg ht (fun q => kt ((nI_ltI hb2 ha).mp q)) (fun q => kf (by have := mt (nI_ltI hb2 ha).mpr q; omega))
theorem w_cmp_le (hx : p.tables.exec = Jvm.exec) (hb : c.code = cc) {a b : Nat} (ha : a < 2147483648) (hb2 : b < 2147483648) {off : Int} {tgt : Nat} (hdg : decode cc pc = .ok (.if_icmp .le off, 3)) (ht : (pc : Int) + off = (tgt : Int)) (kt : a ≤ b → W p l e R s m args below meth c H locs cells slots Q (F0 m tgt ls rest)) (kf : b < a → W p l e R s m args below meth c H locs cells slots Q (F0 m (pc + 3) ls rest)) : W p l e R s m args below meth c H locs cells slots Q (F0 m pc ls (.int (nI b) :: .int (nI a) :: rest)) := lv_icmp_le hx hb hdg ht (fun q => kt ((nI_leI ha hb2).mp q)) (fun q => kf (by have := mt (nI_leI ha hb2).mpr q; omega))
theorem w_cmp_eq (hx : p.tables.exec = Jvm.exec) (hb : c.code = cc) {a b : Nat} (ha : a < 2147483648) (hb2 : b < 2147483648) {off : Int} {tgt : Nat} (hdg : decode cc pc = .ok (.if_icmp .eq off, 3)) (ht : (pc : Int) + off = (tgt : Int)) (kt : a = b → W p l e R s m args below meth c H locs cells slots Q (F0 m tgt ls rest)) (kf : a ≠ b → W p l e R s m args below meth c H locs cells slots Q (F0 m (pc + 3) ls rest)) : W p l e R s m args below meth c H locs cells slots Q (F0 m pc ls (.int (nI b) :: .int (nI a) :: rest)) := lv_icmp_eq hx hb hdg ht (fun q => kt ((nI_eq ha hb2).mp q)) (fun q => kf (fun z => q (by rw [z])))
theorem w_cmp_ne (hx : p.tables.exec = Jvm.exec) (hb : c.code = cc) {a b : Nat} (ha : a < 2147483648) (hb2 : b < 2147483648) {off : Int} {tgt : Nat} (hdg : decode cc pc = .ok (.if_icmp .ne off, 3)) (ht : (pc : Int) + off = (tgt : Int)) (kt : a ≠ b → W p l e R s m args below meth c H locs cells slots Q (F0 m tgt ls rest)) (kf : a = b → W p l e R s m args below meth c H locs cells slots Q (F0 m (pc + 3) ls rest)) : W p l e R s m args below meth c H locs cells slots Q (F0 m pc ls (.int (nI b) :: .int (nI a) :: rest)) := lv_icmp_ne hx hb hdg ht (fun q => kt (fun z => q (by rw [z]))) (fun q => kf ((nI_eq ha hb2).mp q))
theorem w_if_eq (hx : p.tables.exec = Jvm.exec) (hb : c.code = cc) {a : Nat} (ha : a < 2147483648) {off : Int} {tgt : Nat} (hdg : decode cc pc = .ok (.ifCond .eq off, 3)) (ht : (pc : Int) + off = (tgt : Int)) (kt : a = 0 → W p l e R s m args below meth c H locs cells slots Q (F0 m tgt ls rest)) (kf : 0 < a → W p l e R s m args below meth c H locs cells slots Q (F0 m (pc + 3) ls rest)) : W p l e R s m args below meth c H locs cells slots Q (F0 m pc ls (.int (nI a) :: rest)) := lv_if_eq hx hb hdg ht (fun q => kt ((nI_eq ha (by omega)).mp (q.trans nI_0.symm))) (fun q => kf (Nat.pos_of_ne_zero (fun z => q (by rw [z]; rfl))))
theorem w_if_ne (hx : p.tables.exec = Jvm.exec) (hb : c.code = cc) {a : Nat} (ha : a < 2147483648) {off : Int} {tgt : Nat} (hdg : decode cc pc = .ok (.ifCond .ne off, 3)) (ht : (pc : Int) + off = (tgt : Int)) (kt : 0 < a → W p l e R s m args below meth c H locs cells slots Q (F0 m tgt ls rest)) (kf : a = 0 → W p l e R s m args below meth c H locs cells slots Q (F0 m (pc + 3) ls rest)) : W p l e R s m args below meth c H locs cells slots Q (F0 m pc ls (.int (nI a) :: rest)) := lv_if_ne hx hb hdg ht (fun q => kt (Nat.pos_of_ne_zero (fun z => q (by rw [z]; rfl)))) (fun q => kf ((nI_eq ha (by omega)).mp (q.trans nI_0.symm)))
theorem w_if_gt (hx : p.tables.exec = Jvm.exec) (hb : c.code = cc) {a : Nat} (ha : a < 2147483648) {off : Int} {tgt : Nat} (hdg : decode cc pc = .ok (.ifCond .gt off, 3)) (ht : (pc : Int) + off = (tgt : Int)) (kt : 0 < a → W p l e R s m args below meth c H locs cells slots Q (F0 m tgt ls rest)) (kf : a = 0 → W p l e R s m args below meth c H locs cells slots Q (F0 m (pc + 3) ls rest)) : W p l e R s m args below meth c H locs cells slots Q (F0 m pc ls (.int (nI a) :: rest)) := lv_if_gt hx hb hdg ht (fun q => kt (Nat.pos_of_ne_zero (fun z => nI_pos (n := 0) (by omega) (by rw [z] at q; exact absurd q (by decide))))) (fun q => kf (by rcases Nat.eq_zero_or_pos a with z | z; exact z; exact absurd (show (0 : Int32) < nI a from (nI_lt z ha)) q))
theorem w_if_le (hx : p.tables.exec = Jvm.exec) (hb : c.code = cc) {a : Nat} (ha : a < 2147483648) {off : Int} {tgt : Nat} (hdg : decode cc pc = .ok (.ifCond .le off, 3)) (ht : (pc : Int) + off = (tgt : Int)) (kt : a = 0 → W p l e R s m args below meth c H locs cells slots Q (F0 m tgt ls rest)) (kf : 0 < a → W p l e R s m args below meth c H locs cells slots Q (F0 m (pc + 3) ls rest)) : W p l e R s m args below meth c H locs cells slots Q (F0 m pc ls (.int (nI a) :: rest)) := lv_if_le hx hb hdg ht (fun q => kt (by rcases Nat.eq_zero_or_pos a with z | z; exact z; exact absurd q (nI_nle z ha))) (fun q => kf (Nat.pos_of_ne_zero (fun z => q (by rw [z]; decide))))
theorem w_if_ge (hx : p.tables.exec = Jvm.exec) (hb : c.code = cc) {a : Nat} (ha : a < 2147483648) {off : Int} {tgt : Nat} (hdg : decode cc pc = .ok (.ifCond .ge off, 3)) (ht : (pc : Int) + off = (tgt : Int)) (kt : W p l e R s m args below meth c H locs cells slots Q (F0 m tgt ls rest)) : W p l e R s m args below meth c H locs cells slots Q (F0 m pc ls (.int (nI a) :: rest)) := lv_if_ge hx hb hdg ht (fun _ => kt) (fun q => absurd (nI_pos' ha) q)
theorem w_if_lt (hx : p.tables.exec = Jvm.exec) (hb : c.code = cc) {a : Nat} (ha : a < 2147483648) {off : Int} {tgt : Nat} (hdg : decode cc pc = .ok (.ifCond .lt off, 3)) (ht : (pc : Int) + off = (tgt : Int)) (kf : W p l e R s m args below meth c H locs cells slots Q (F0 m (pc + 3) ls rest)) : W p l e R s m args below meth c H locs cells slots Q (F0 m pc ls (.int (nI a) :: rest)) := lv_if_lt hx hb hdg ht (fun q => absurd q (nI_pos ha)) (fun _ => kf)
def bI (P : Prop) [Decidable P] : Int32 := if P then 1 else 0
theorem bI_t {P : Prop} [Decidable P] (h : P) : bI P = 1 := if_pos h
theorem bI_f {P : Prop} [Decidable P] (h : ¬ P) : bI P = 0 := if_neg h
theorem bI_01 (P : Prop) [Decidable P] : bI P = 0 ∨ bI P = 1 := by unfold bI; split <;> simp
theorem w_if_eqb (hx : p.tables.exec = Jvm.exec) (hb : c.code = cc) {P : Prop} [Decidable P] {off : Int} {tgt : Nat} (hdg : decode cc pc = .ok (.ifCond .eq off, 3)) (ht : (pc : Int) + off = (tgt : Int)) (kt : ¬ P → W p l e R s m args below meth c H locs cells slots Q (F0 m tgt ls rest)) (kf : P → W p l e R s m args below meth c H locs cells slots Q (F0 m (pc + 3) ls rest)) : W p l e R s m args below meth c H locs cells slots Q (F0 m pc ls (.int (bI P) :: rest)) := by
  by_cases hP : P
  · exact lv_if_eq hx hb hdg ht (fun q => absurd q (by rw [bI_t hP]; decide)) (fun _ => kf hP)
  · exact lv_if_eq hx hb hdg ht (fun _ => kt hP) (fun q => absurd (bI_f hP) q)
theorem w_if_neb (hx : p.tables.exec = Jvm.exec) (hb : c.code = cc) {P : Prop} [Decidable P] {off : Int} {tgt : Nat} (hdg : decode cc pc = .ok (.ifCond .ne off, 3)) (ht : (pc : Int) + off = (tgt : Int)) (kt : P → W p l e R s m args below meth c H locs cells slots Q (F0 m tgt ls rest)) (kf : ¬ P → W p l e R s m args below meth c H locs cells slots Q (F0 m (pc + 3) ls rest)) : W p l e R s m args below meth c H locs cells slots Q (F0 m pc ls (.int (bI P) :: rest)) := by
  by_cases hP : P
  · exact lv_if_ne hx hb hdg ht (fun _ => kt hP) (fun q => absurd q (by rw [bI_t hP]; decide))
  · exact lv_if_ne hx hb hdg ht (fun q => absurd (bI_f hP) q) (fun _ => kf hP)
theorem w_loop1 {σ1 : Type} (μ : σ1 → Nat) (I : σ1 → Heap → List Loc → Array Slot → Prop) (hs : ∀ (x1 : σ1) (H : Heap) (locs : List Loc) (ls : Array Slot), I x1 H locs ls → (∀ (y1 : σ1) (H' : Heap) (locs' : List Loc) (ls' : Array Slot), I y1 H' locs' ls' → μ y1 < μ x1 → W p l e R s m args below meth c H' locs' cells slots Q (F0 m pc ls' st)) → W p l e R s m args below meth c H locs cells slots Q (F0 m pc ls st)) (x1 : σ1) (h : I x1 H locs ls) : W p l e R s m args below meth c H locs cells slots Q (F0 m pc ls st) := by
  have K : ∀ (d : Nat) (x1 : σ1) (H : Heap) (locs : List Loc) (ls : Array Slot), μ x1 < d → I x1 H locs ls → W p l e R s m args below meth c H locs cells slots Q (F0 m pc ls st) := by
    intro d
    induction d with
    | zero => intro x1 H locs ls hd; exact absurd hd (Nat.not_lt_zero _)
    | succ d ih =>
      intro x1 H locs ls hd hI
      exact hs x1 H locs ls hI (fun y1 H' locs' ls' hI' hlt => ih y1 H' locs' ls' (by omega) hI')
  exact K _ x1 H locs ls (Nat.lt_succ_self _) h
theorem w_loop2 {σ1 : Type} {σ2 : Type} (μ : σ1 → σ2 → Nat) (I : σ1 → σ2 → Heap → List Loc → Array Slot → Prop) (hs : ∀ (x1 : σ1) (x2 : σ2) (H : Heap) (locs : List Loc) (ls : Array Slot), I x1 x2 H locs ls → (∀ (y1 : σ1) (y2 : σ2) (H' : Heap) (locs' : List Loc) (ls' : Array Slot), I y1 y2 H' locs' ls' → μ y1 y2 < μ x1 x2 → W p l e R s m args below meth c H' locs' cells slots Q (F0 m pc ls' st)) → W p l e R s m args below meth c H locs cells slots Q (F0 m pc ls st)) (x1 : σ1) (x2 : σ2) (h : I x1 x2 H locs ls) : W p l e R s m args below meth c H locs cells slots Q (F0 m pc ls st) := by
  have K : ∀ (d : Nat) (x1 : σ1) (x2 : σ2) (H : Heap) (locs : List Loc) (ls : Array Slot), μ x1 x2 < d → I x1 x2 H locs ls → W p l e R s m args below meth c H locs cells slots Q (F0 m pc ls st) := by
    intro d
    induction d with
    | zero => intro x1 x2 H locs ls hd; exact absurd hd (Nat.not_lt_zero _)
    | succ d ih =>
      intro x1 x2 H locs ls hd hI
      exact hs x1 x2 H locs ls hI (fun y1 y2 H' locs' ls' hI' hlt => ih y1 y2 H' locs' ls' (by omega) hI')
  exact K _ x1 x2 H locs ls (Nat.lt_succ_self _) h
theorem w_loop3 {σ1 : Type} {σ2 : Type} {σ3 : Type} (μ : σ1 → σ2 → σ3 → Nat) (I : σ1 → σ2 → σ3 → Heap → List Loc → Array Slot → Prop) (hs : ∀ (x1 : σ1) (x2 : σ2) (x3 : σ3) (H : Heap) (locs : List Loc) (ls : Array Slot), I x1 x2 x3 H locs ls → (∀ (y1 : σ1) (y2 : σ2) (y3 : σ3) (H' : Heap) (locs' : List Loc) (ls' : Array Slot), I y1 y2 y3 H' locs' ls' → μ y1 y2 y3 < μ x1 x2 x3 → W p l e R s m args below meth c H' locs' cells slots Q (F0 m pc ls' st)) → W p l e R s m args below meth c H locs cells slots Q (F0 m pc ls st)) (x1 : σ1) (x2 : σ2) (x3 : σ3) (h : I x1 x2 x3 H locs ls) : W p l e R s m args below meth c H locs cells slots Q (F0 m pc ls st) := by
  have K : ∀ (d : Nat) (x1 : σ1) (x2 : σ2) (x3 : σ3) (H : Heap) (locs : List Loc) (ls : Array Slot), μ x1 x2 x3 < d → I x1 x2 x3 H locs ls → W p l e R s m args below meth c H locs cells slots Q (F0 m pc ls st) := by
    intro d
    induction d with
    | zero => intro x1 x2 x3 H locs ls hd; exact absurd hd (Nat.not_lt_zero _)
    | succ d ih =>
      intro x1 x2 x3 H locs ls hd hI
      exact hs x1 x2 x3 H locs ls hI (fun y1 y2 y3 H' locs' ls' hI' hlt => ih y1 y2 y3 H' locs' ls' (by omega) hI')
  exact K _ x1 x2 x3 H locs ls (Nat.lt_succ_self _) h
theorem w_loop4 {σ1 : Type} {σ2 : Type} {σ3 : Type} {σ4 : Type} (μ : σ1 → σ2 → σ3 → σ4 → Nat) (I : σ1 → σ2 → σ3 → σ4 → Heap → List Loc → Array Slot → Prop) (hs : ∀ (x1 : σ1) (x2 : σ2) (x3 : σ3) (x4 : σ4) (H : Heap) (locs : List Loc) (ls : Array Slot), I x1 x2 x3 x4 H locs ls → (∀ (y1 : σ1) (y2 : σ2) (y3 : σ3) (y4 : σ4) (H' : Heap) (locs' : List Loc) (ls' : Array Slot), I y1 y2 y3 y4 H' locs' ls' → μ y1 y2 y3 y4 < μ x1 x2 x3 x4 → W p l e R s m args below meth c H' locs' cells slots Q (F0 m pc ls' st)) → W p l e R s m args below meth c H locs cells slots Q (F0 m pc ls st)) (x1 : σ1) (x2 : σ2) (x3 : σ3) (x4 : σ4) (h : I x1 x2 x3 x4 H locs ls) : W p l e R s m args below meth c H locs cells slots Q (F0 m pc ls st) := by
  have K : ∀ (d : Nat) (x1 : σ1) (x2 : σ2) (x3 : σ3) (x4 : σ4) (H : Heap) (locs : List Loc) (ls : Array Slot), μ x1 x2 x3 x4 < d → I x1 x2 x3 x4 H locs ls → W p l e R s m args below meth c H locs cells slots Q (F0 m pc ls st) := by
    intro d
    induction d with
    | zero => intro x1 x2 x3 x4 H locs ls hd; exact absurd hd (Nat.not_lt_zero _)
    | succ d ih =>
      intro x1 x2 x3 x4 H locs ls hd hI
      exact hs x1 x2 x3 x4 H locs ls hI (fun y1 y2 y3 y4 H' locs' ls' hI' hlt => ih y1 y2 y3 y4 H' locs' ls' (by omega) hI')
  exact K _ x1 x2 x3 x4 H locs ls (Nat.lt_succ_self _) h
theorem w_loop5 {σ1 : Type} {σ2 : Type} {σ3 : Type} {σ4 : Type} {σ5 : Type} (μ : σ1 → σ2 → σ3 → σ4 → σ5 → Nat) (I : σ1 → σ2 → σ3 → σ4 → σ5 → Heap → List Loc → Array Slot → Prop) (hs : ∀ (x1 : σ1) (x2 : σ2) (x3 : σ3) (x4 : σ4) (x5 : σ5) (H : Heap) (locs : List Loc) (ls : Array Slot), I x1 x2 x3 x4 x5 H locs ls → (∀ (y1 : σ1) (y2 : σ2) (y3 : σ3) (y4 : σ4) (y5 : σ5) (H' : Heap) (locs' : List Loc) (ls' : Array Slot), I y1 y2 y3 y4 y5 H' locs' ls' → μ y1 y2 y3 y4 y5 < μ x1 x2 x3 x4 x5 → W p l e R s m args below meth c H' locs' cells slots Q (F0 m pc ls' st)) → W p l e R s m args below meth c H locs cells slots Q (F0 m pc ls st)) (x1 : σ1) (x2 : σ2) (x3 : σ3) (x4 : σ4) (x5 : σ5) (h : I x1 x2 x3 x4 x5 H locs ls) : W p l e R s m args below meth c H locs cells slots Q (F0 m pc ls st) := by
  have K : ∀ (d : Nat) (x1 : σ1) (x2 : σ2) (x3 : σ3) (x4 : σ4) (x5 : σ5) (H : Heap) (locs : List Loc) (ls : Array Slot), μ x1 x2 x3 x4 x5 < d → I x1 x2 x3 x4 x5 H locs ls → W p l e R s m args below meth c H locs cells slots Q (F0 m pc ls st) := by
    intro d
    induction d with
    | zero => intro x1 x2 x3 x4 x5 H locs ls hd; exact absurd hd (Nat.not_lt_zero _)
    | succ d ih =>
      intro x1 x2 x3 x4 x5 H locs ls hd hI
      exact hs x1 x2 x3 x4 x5 H locs ls hI (fun y1 y2 y3 y4 y5 H' locs' ls' hI' hlt => ih y1 y2 y3 y4 y5 H' locs' ls' (by omega) hI')
  exact K _ x1 x2 x3 x4 x5 H locs ls (Nat.lt_succ_self _) h
theorem w_loop6 {σ1 : Type} {σ2 : Type} {σ3 : Type} {σ4 : Type} {σ5 : Type} {σ6 : Type} (μ : σ1 → σ2 → σ3 → σ4 → σ5 → σ6 → Nat) (I : σ1 → σ2 → σ3 → σ4 → σ5 → σ6 → Heap → List Loc → Array Slot → Prop) (hs : ∀ (x1 : σ1) (x2 : σ2) (x3 : σ3) (x4 : σ4) (x5 : σ5) (x6 : σ6) (H : Heap) (locs : List Loc) (ls : Array Slot), I x1 x2 x3 x4 x5 x6 H locs ls → (∀ (y1 : σ1) (y2 : σ2) (y3 : σ3) (y4 : σ4) (y5 : σ5) (y6 : σ6) (H' : Heap) (locs' : List Loc) (ls' : Array Slot), I y1 y2 y3 y4 y5 y6 H' locs' ls' → μ y1 y2 y3 y4 y5 y6 < μ x1 x2 x3 x4 x5 x6 → W p l e R s m args below meth c H' locs' cells slots Q (F0 m pc ls' st)) → W p l e R s m args below meth c H locs cells slots Q (F0 m pc ls st)) (x1 : σ1) (x2 : σ2) (x3 : σ3) (x4 : σ4) (x5 : σ5) (x6 : σ6) (h : I x1 x2 x3 x4 x5 x6 H locs ls) : W p l e R s m args below meth c H locs cells slots Q (F0 m pc ls st) := by
  have K : ∀ (d : Nat) (x1 : σ1) (x2 : σ2) (x3 : σ3) (x4 : σ4) (x5 : σ5) (x6 : σ6) (H : Heap) (locs : List Loc) (ls : Array Slot), μ x1 x2 x3 x4 x5 x6 < d → I x1 x2 x3 x4 x5 x6 H locs ls → W p l e R s m args below meth c H locs cells slots Q (F0 m pc ls st) := by
    intro d
    induction d with
    | zero => intro x1 x2 x3 x4 x5 x6 H locs ls hd; exact absurd hd (Nat.not_lt_zero _)
    | succ d ih =>
      intro x1 x2 x3 x4 x5 x6 H locs ls hd hI
      exact hs x1 x2 x3 x4 x5 x6 H locs ls hI (fun y1 y2 y3 y4 y5 y6 H' locs' ls' hI' hlt => ih y1 y2 y3 y4 y5 y6 H' locs' ls' (by omega) hI')
  exact K _ x1 x2 x3 x4 x5 x6 H locs ls (Nat.lt_succ_self _) h
theorem qc_min : Cond.code Lib.Math.min.name Lib.Math.min.code 2 (some .int) ∈ lw_g := lw_gm (tin2 (List.mem_of_getElem? (i := 44) (by decide +kernel))) (by decide +kernel)
theorem w_mmin (X : Kx p m meth c s args cc nL own ret) (hl : lv_has ls nL lvs) (hlink : Cond.methodLink own index Lib.Math.min.name ∈ lw_g) (hR : 1 ≤ R.frames ∧ 21 ≤ R.locals) (hcat : (rest.map fun v => v.category).sum ≤ 8) (hcs : cells ≤ R.cells ∧ slots ≤ R.slots) {x y : Int32} (hdg : decode cc pc = .ok (.invokestatic index, 3)) (kk : W p l e R s m args below meth c H locs cells slots Q (F0 m (pc + 3) ls (.int (if y < x then y else x) :: rest))) : W p l e R s m args below meth c H locs cells slots Q (F0 m pc ls (.int y :: .int x :: rest)) :=
  va_mmin X.1.1 X.1.2.1 (X.1.2.2.1.trans hl.1.symm) X.1.2.2.2.1 (X.1.2.2.2.2 _ hlink) (X.1.2.2.2.2 _ q2_43) (X.1.2.2.2.2 _ q1_9) (X.1.2.2.2.2 _ qc_min) hR.1 (by omega) hcs.1 hcs.2 hdg kk
theorem w_mminn (X : Kx p m meth c s args cc nL own ret) (hl : lv_has ls nL lvs) (hlink : Cond.methodLink own index Lib.Math.min.name ∈ lw_g) {a b : Nat} (ha : a < 2147483648) (hb : b < 2147483648) (hR : 1 ≤ R.frames ∧ 21 ≤ R.locals) (hcat : (rest.map fun v => v.category).sum ≤ 8) (hcs : cells ≤ R.cells ∧ slots ≤ R.slots) (hdg : decode cc pc = .ok (.invokestatic index, 3)) (kk : W p l e R s m args below meth c H locs cells slots Q (F0 m (pc + 3) ls (.int (nI (min a b)) :: rest))) : W p l e R s m args below meth c H locs cells slots Q (F0 m pc ls (.int (nI b) :: .int (nI a) :: rest)) := by
  refine w_mmin X hl hlink hR hcat hcs hdg ?_
  refine w_top ?_ kk
  split
  · rename_i q
    first
      | exact congrArg nI (by have := (nI_ltI hb ha).mp q; omega)
      | exact congrArg nI (by have := (nI_ltI ha hb).mp q; omega)
  · rename_i q
    first
      | exact congrArg nI (by have := mt (nI_ltI hb ha).mpr q; omega)
      | exact congrArg nI (by have := mt (nI_ltI ha hb).mpr q; omega)
theorem qc_max : Cond.code Lib.Math.max.name Lib.Math.max.code 2 (some .int) ∈ lw_g := lw_gm (tin2 (List.mem_of_getElem? (i := 204) (by decide +kernel))) (by decide +kernel)
theorem w_mmax (X : Kx p m meth c s args cc nL own ret) (hl : lv_has ls nL lvs) (hlink : Cond.methodLink own index Lib.Math.max.name ∈ lw_g) (hR : 1 ≤ R.frames ∧ 21 ≤ R.locals) (hcat : (rest.map fun v => v.category).sum ≤ 8) (hcs : cells ≤ R.cells ∧ slots ≤ R.slots) {x y : Int32} (hdg : decode cc pc = .ok (.invokestatic index, 3)) (kk : W p l e R s m args below meth c H locs cells slots Q (F0 m (pc + 3) ls (.int (if x < y then y else x) :: rest))) : W p l e R s m args below meth c H locs cells slots Q (F0 m pc ls (.int y :: .int x :: rest)) :=
  va_mmax X.1.1 X.1.2.1 (X.1.2.2.1.trans hl.1.symm) X.1.2.2.2.1 (X.1.2.2.2.2 _ hlink) (X.1.2.2.2.2 _ q2_203) (X.1.2.2.2.2 _ q1_9) (X.1.2.2.2.2 _ qc_max) hR.1 (by omega) hcs.1 hcs.2 hdg kk
theorem w_mmaxn (X : Kx p m meth c s args cc nL own ret) (hl : lv_has ls nL lvs) (hlink : Cond.methodLink own index Lib.Math.max.name ∈ lw_g) {a b : Nat} (ha : a < 2147483648) (hb : b < 2147483648) (hR : 1 ≤ R.frames ∧ 21 ≤ R.locals) (hcat : (rest.map fun v => v.category).sum ≤ 8) (hcs : cells ≤ R.cells ∧ slots ≤ R.slots) (hdg : decode cc pc = .ok (.invokestatic index, 3)) (kk : W p l e R s m args below meth c H locs cells slots Q (F0 m (pc + 3) ls (.int (nI (max a b)) :: rest))) : W p l e R s m args below meth c H locs cells slots Q (F0 m pc ls (.int (nI b) :: .int (nI a) :: rest)) := by
  refine w_mmax X hl hlink hR hcat hcs hdg ?_
  refine w_top ?_ kk
  split
  · rename_i q
    first
      | exact congrArg nI (by have := (nI_ltI hb ha).mp q; omega)
      | exact congrArg nI (by have := (nI_ltI ha hb).mp q; omega)
  · rename_i q
    first
      | exact congrArg nI (by have := mt (nI_ltI hb ha).mpr q; omega)
      | exact congrArg nI (by have := mt (nI_ltI ha hb).mpr q; omega)
theorem w_qret {post : Option Nat → (Nat → va_E) → Prop} {rt : FieldType} (X : Kx p m meth c s args cc nL own (some rt)) (h : Hx g N ad F A s H locs) (hrt : (∃ n, rt = .object n) ∨ ∃ t, rt = .array t) {v : Option Nat} (hp : post v F) (hdg : decode cc pc = .ok (.areturn, 1)) : W p l e R s m args below meth c H locs 0 0 (MQ below (va_Qq post (Bw g N ad) A) args s 0 0 A) (F0 m pc ls [va_rf v]) :=
  W.aret X.1.1 X.1.2.1 X.2.1 hrt (by cases v <;> simp [va_rf]) (fun t ht hW => ⟨⟨v, F, rfl, hp, by rw [Bw, ht]; exact h.1⟩, h.2.F ht⟩) h.2.2.2 hdg (hlocks := X.2.2)
end CALLS
/-! counts and first places -/
def cnt (p : Nat → Bool) : Nat → Nat
  | 0 => 0
  | n + 1 => cnt p n + (if p n then 1 else 0)
theorem cnt_t {p : Nat → Bool} {n : Nat} (h : p n = true) : cnt p (n + 1) = cnt p n + 1 := by simp [cnt, h]
theorem cnt_f {p : Nat → Bool} {n : Nat} (h : p n = false) : cnt p (n + 1) = cnt p n := by simp [cnt, h]
theorem cnt_le (p : Nat → Bool) : ∀ n, cnt p n ≤ n
  | 0 => Nat.le_refl 0
  | n + 1 => by have := cnt_le p n; simp only [cnt]; split <;> omega
theorem cnt_cong {p q : Nat → Bool} : ∀ {n : Nat}, (∀ k, k < n → p k = q k) → cnt p n = cnt q n
  | 0, _ => rfl
  | n + 1, h => by rw [cnt, cnt, cnt_cong (fun k hk => h k (Nat.lt_succ_of_lt hk)), h n (Nat.lt_succ_self n)]
/-- the first place below n where p holds, or n -/
def fnd (p : Nat → Bool) : Nat → Nat
  | 0 => 0
  | n + 1 => if fnd p n < n then fnd p n else if p n then n else n + 1
theorem fnd_le (p : Nat → Bool) : ∀ n, fnd p n ≤ n
  | 0 => Nat.le_refl 0
  | n + 1 => by have := fnd_le p n; simp only [fnd]; split <;> (try split) <;> omega
theorem fnd_no {p : Nat → Bool} : ∀ {n : Nat}, (∀ k, k < n → p k = false) → fnd p n = n
  | 0, _ => rfl
  | n + 1, h => by
    have h1 := fnd_no (n := n) (fun k hk => h k (Nat.lt_succ_of_lt hk))
    simp [fnd, h1, h n (Nat.lt_succ_self n)]
theorem fnd_at {p : Nat → Bool} : ∀ {n i : Nat}, i < n → (∀ k, k < i → p k = false) → p i = true → fnd p n = i
  | 0, i, h, _, _ => absurd h (Nat.not_lt_zero i)
  | n + 1, i, h, h1, h2 => by
    rcases Nat.lt_or_ge i n with q | q
    · have := fnd_at q h1 h2
      simp [fnd, this, q]
    · have e : i = n := by omega
      subst e
      simp [fnd, fnd_no h1, h2]
theorem fnd_lt_of {p : Nat → Bool} {n k : Nat} (hk : k < n) (h : p k = true) : fnd p n < n := by
  induction n with
  | zero => omega
  | succ n ih =>
    simp only [fnd]
    by_cases q : fnd p n < n
    · simp [q]; omega
    · rcases Nat.lt_or_ge k n with z | z
      · exact absurd (ih z) q
      · have e : k = n := by omega
        subst e
        simp [q, h]
theorem fnd_yes {p : Nat → Bool} : ∀ {n : Nat}, fnd p n < n → p (fnd p n) = true ∧ ∀ k, k < fnd p n → p k = false
  | 0, h => absurd h (Nat.not_lt_zero _)
  | n + 1, h => by
    simp only [fnd] at h ⊢
    by_cases q : fnd p n < n
    · simp only [if_pos q] at h ⊢
      exact fnd_yes q
    · have e : fnd p n = n := by have := fnd_le p n; omega
      have hno : ∀ k, k < n → p k = false := by
        intro k hk
        cases hk2 : p k with
        | false => rfl
        | true =>
          exfalso
          exact q (fnd_lt_of hk hk2)
      by_cases hp : p n = true
      · simp only [if_neg q, hp, if_true] at h ⊢
        exact ⟨trivial, hno⟩
      · simp only [if_neg q, Bool.eq_false_iff.mpr hp, Bool.false_eq_true, if_false] at h
        omega
theorem fnd_cong {p q : Nat → Bool} : ∀ {n : Nat}, (∀ k, k < n → p k = q k) → fnd p n = fnd q n
  | 0, _ => rfl
  | n + 1, h => by rw [fnd, fnd, fnd_cong (fun k hk => h k (Nat.lt_succ_of_lt hk)), h n (Nat.lt_succ_self n)]
def ixO (p : Nat → Bool) (n : Nat) : Int32 := if fnd p n < n then nI (fnd p n) else -1
theorem ixO_no {p : Nat → Bool} {n : Nat} (h : ∀ k, k < n → p k = false) : ixO p n = -1 := by simp [ixO, fnd_no h]
theorem ixO_at {p : Nat → Bool} {n i : Nat} (hi : i < n) (h1 : ∀ k, k < i → p k = false) (h2 : p i = true) : ixO p n = nI i := by simp [ixO, fnd_at hi h1 h2, hi]
theorem ixO_cong {p q : Nat → Bool} {n : Nat} (h : ∀ k, k < n → p k = q k) : ixO p n = ixO q n := by simp [ixO, fnd_cong h]
/-- a sum of int values, added in their order -/
def sumI (f : Nat → Int32) : Nat → Int32
  | 0 => 0
  | n + 1 => sumI f n + f n
theorem sumI_cong {f h : Nat → Int32} : ∀ {n : Nat}, (∀ k, k < n → f k = h k) → sumI f n = sumI h n
  | 0, _ => rfl
  | n + 1, e => by rw [sumI, sumI, sumI_cong (fun k hk => e k (Nat.lt_succ_of_lt hk)), e n (Nat.lt_succ_self n)]
theorem ix_of {x : Int32} {n : Nat} (h0 : ¬ x < 0) (h1 : ¬ nI n ≤ x) (hn : n < 2147483648) : ∃ k : Nat, k < n ∧ x = nI k := by
  obtain ⟨j, hj, rfl⟩ := nI_of h0
  exact ⟨j, by rcases Nat.lt_or_ge j n with q | q; exact q; exact absurd (nI_le q hj) h1, rfl⟩
