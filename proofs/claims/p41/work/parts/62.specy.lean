/-! what the calls of the law ask -/
theorem Inv.tl {x : SX} (h : Inv x) {i : Nat} (hi : i < x.2.2.1) : isL (x.2.2.2.2.2.1 i) := by
  obtain ⟨s, w, h1, h2, h3, h4, h5⟩ := h.t hi
  exact h5
theorem Inv.hnn {x : SX} (h : Inv x) : ∀ k, k < xtn x → vf_n32 (fsum (xlf x) (k + 1)) := fun k hk => nnF_n (fsum_nn (fun z hz => h.lfn (by have hk' : k < x.2.2.1 := hk; omega)))
theorem Inv.hal {x : SX} (h : Inv x) : Op.cmpValue (FP.fcmp (xsm x) (fsum (xlf x) (xtn x))) .l = 0 := by
  have e : fsum (xlf x) (xtn x) = xsm x := h.sm.symm
  rw [e]
  exact nnF_cmp h.smn
theorem Inv.hsu {x : SX} (h : Inv x) : ∀ k, k < x.1 → rowAt 64 (xt x 2) (xj x 2 k) = 0 := fun k hk => by
  obtain ⟨sg, h1, h2, h3⟩ := h.sgn hk
  show rowAt 64 (x.2.2.2.2.1 2) (x.2.1 2 k) = 0
  rw [h2, rowAt_n h1 (by decide)]
  exact h3
theorem Inv.hjk {x : SX} (h : Inv x) : ∀ k i, k < 4 → i < cnt (cwP x.2.1 (nI k) (nI 30)) x.1 → rowAt 12 (x.2.1 1) (ixO (bdP x.2.1 x.1 (nI k) (nI i)) x.1) = nI (rdN x 1 (ixO (bdP x.2.1 x.1 (nI k) (nI i)) x.1)) ∧ rowAt 12 (x.2.1 2) (ixO (bdP x.2.1 x.1 (nI k) (nI i)) x.1) = nI (rdN x 2 (ixO (bdP x.2.1 x.1 (nI k) (nI i)) x.1)) ∧ rdN x 1 (ixO (bdP x.2.1 x.1 (nI k) (nI i)) x.1) < 100 ∧ rdN x 2 (ixO (bdP x.2.1 x.1 (nI k) (nI i)) x.1) < 100 := by
  intro k i hk hi
  have hn := h.n
  obtain ⟨k2, hk2, hik⟩ := place_at h hi
  obtain ⟨w, d, s, t, p, h1, h2, h3, h4, h5, h6, h7, h8, h9, h10, h11, h12, h13⟩ := h.j hk2
  unfold rdN
  rw [hik, rowAt_n (by omega) (by decide), rowAt_n (by omega) (by decide), h9, h10, cl_n (by omega), cl_n (by omega)]
  exact ⟨rfl, rfl, by omega, by omega⟩
theorem iva_106 {x : SX} (h : Iva x) {wl dp sg wt : Int32} (e : (notJokeF x wl dp sg wt).1 = 0) : Iva (xCome x wl dp sg wt) := by
  have z := h.doC (so := nI 106) (f := fun j => [wl, dp, sg, wt].getD j 0) (by rw [notC_106 rfl]; exact e)
  rw [doC_106 rfl] at z
  exact z
theorem iva_112 {x : SX} (h : Iva x) {a : Int32} (e : (notPumpF x a).1 = 0) : Iva (runX (cl a) x) := by
  have z := h.doC (so := nI 112) (f := fun _ => a) (by rw [notC_112 rfl]; exact e)
  rw [doC_112 rfl] at z
  exact z
theorem iva_114 {x : SX} (h : Iva x) {a : Int32} (e : (notPrimeF x a).1 = 0) : Iva (xPrime x (cl a)) := by
  have z := h.doC (so := nI 114) (f := fun _ => a) (by rw [notC_114 rfl]; exact e)
  rw [doC_114 rfl] at z
  exact z
theorem iva_100 {x : SX} (h : Iva x) {a : Int32} (e : (notDrainF x a).1 = 0) : Iva (xDrain x (cl a)) := by
  have z := h.doC (so := nI 100) (f := fun _ => a) (by rw [notC_100 rfl]; exact e)
  rw [doC_100 rfl] at z
  exact z
theorem iva_111 {x : SX} (h : Iva x) {a : Int32} (e : (notDropF x a).1 = 0) : Iva (xGo x (cl a)) := by
  have z := h.doC (so := nI 111) (f := fun _ => a) (by rw [notC_111 rfl]; exact e)
  rw [doC_111 rfl] at z
  exact z
theorem iva_115 {x : SX} (h : Iva x) {a : Int32} (e : (notStrokeF x a).1 = 0) : Iva (xZ x (zUp x.2.2.2.2.2.2.2 1 (cl a))) := by
  have z := h.doC (so := nI 115) (f := fun _ => a) (by rw [notC_115 rfl]; exact e)
  rw [doC_115 rfl] at z
  exact z
theorem iva_98 {x : SX} (h : Iva x) {a b : Int32} (e : (notBucketF x a b).1 = 0) : Iva (xBuck x (cl a) (cl b)) := by
  have z := h.doC (so := nI 98) (f := fun j => [a, b].getD j 0) (by rw [notC_98 rfl]; exact e)
  rw [doC_98 rfl] at z
  exact z
theorem iva_103 {x : SX} (h : Iva x) {a : Int32} (e : (notGoF x a).1 = 0) : Iva (xZ x (zUp (zUp x.2.2.2.2.2.2.2 0 (cl a)) 2 0)) := by
  have z := h.doC (so := nI 103) (f := fun _ => a) (by rw [notC_103 rfl]; exact e)
  rw [doC_103 rfl] at z
  exact z
theorem pump_pos {x : SX} (h : Inv x) {a : Int32} (e : (notPumpF x a).1 = 0) : ¬ nI (runN (cl a) x) < 0 := by
  obtain ⟨k, hk6, ⟨h1, h2, h3⟩, ea⟩ := notPump_ok e
  rw [ea, cl_n (by omega)]
  have := runN_le k h
  exact nI_pos (by omega)
section LAW0
variable {p : Program} {l : Launch} {e : Env} {R : Room} {s : State} {m : MethodId} {args : Array Value} {below : List Frame} {meth : Method} {c : Code} {H : Heap} {locs : List Loc} {cells slots : Nat} {Q : State → Prop}
variable {cc : ByteArray} {nL : Nat} {own : String} {ret : Option FieldType} {g : gT} {N : Nat} {ad : Nat → Nat} {F : Nat → va_E} {A : Nat → Prop} {pc : Nat} {ls : Array Slot} {rest : List Value}
theorem w_sld (X : Kx p m meth c s args cc nL own ret) (h : Hx g N ad F A s H locs) {b Ls : Nat} {xs : Nat → Int32} (hX : va_X b Ls xs s s.heap) (hb : b < s.heap.size) (hbA : ¬ A b) {j : Nat} (hj : j < Ls) (hL : Ls ≤ 2560) (hdg : decode cc pc = .ok (.iaload, 1)) (kk : W p l e R s m args below meth c H locs cells slots Q (F0 m (pc + 1) ls (.int (xs j) :: rest))) : W p l e R s m args below meth c H locs cells slots Q (F0 m pc ls (.int (nI j) :: .ref b :: rest)) :=
  va_sld X.1.1 X.1.2.1 hX hb hbA h.2 (vp_in_nI hj (by omega)) hdg (by rw [nI_clamp (by omega)]; exact kk)
theorem w_slenL (X : Kx p m meth c s args cc nL own ret) (h : Hx g N ad F A s H locs) {b Ls : Nat} {xs : Nat → Int32} (hX : va_X b Ls xs s s.heap) (hb : b < s.heap.size) (hbA : ¬ A b) (hdg : decode cc pc = .ok (.arraylength, 1)) (kk : W p l e R s m args below meth c H locs cells slots Q (F0 m (pc + 1) ls (.int (nI Ls) :: rest))) : W p l e R s m args below meth c H locs cells slots Q (F0 m pc ls (.ref b :: rest)) :=
  va_slen X.1.1 X.1.2.1 hX hb hbA h.2 hdg kk
end LAW0
