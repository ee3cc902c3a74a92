/-! String constants: their rows -/
def sxB (i k : Nat) : Int32 := (sxByt.getD i []).getD k 0
def sxN (i : Nat) : Nat := sxLen.getD i 0
theorem sx_le : ∀ i, i < 8 → sxN i ≤ 12 := by decide +kernel
theorem sx_le6 : ∀ i, i < 16 → sxN i ≤ 25 := by decide +kernel
theorem sx_ch : ∀ i, i < 16 → ∀ k, k < sxN i → (((sxB i k &&& nI 255).toUInt32 % 65536).toInt32 = sxB i k ∧ narrow .char (.int (sxB i k)) = .int (sxB i k)) := by decide +kernel
theorem sh0 (x : Int32) : x >>> (nI 0 &&& 31) = x := by
  rw [show (nI 0 &&& 31 : Int32) = 0 by decide]
  simp
abbrev NM : Type := Nat → Int32
section RD
variable {p : Program} {l : Launch} {e : Env} {R : Room} {s : State} {m : MethodId} {args : Array Value} {below : List Frame} {meth : Method} {c : Code} {H : Heap} {locs : List Loc} {cells slots : Nat} {Q : State → Prop}
variable {cc : ByteArray} {nL : Nat} {own : String} {ret : Option FieldType} {g : gT} {N : Nat} {ad : Nat → Nat} {F : Nat → va_E} {A : Nat → Prop} {pc : Nat} {ls : Array Slot} {rest : List Value}
variable {y : MethodName} {ccY : ByteArray} {nY : Nat} {retY : Option FieldType} {fm lo index n : Nat} {lvs : List (Nat × Value)} {st : List Value}
theorem w_cret {post : Int32 → (Nat → va_E) → Prop} (X : Kx p m meth c s args cc nL own (some .char)) (h : Hx g N ad F A s H locs) {v : Int32} (hv : narrow .char (.int v) = .int v) (hp : post v F) (hdg : decode cc pc = .ok (.ireturn, 1)) : W p l e R s m args below meth c H locs 0 0 (MQ below (va_Qi post (Bw g N ad) A) args s 0 0 A) (F0 m pc ls [.int v]) :=
  W.zret X.1.1 X.1.2.1 X.2.1 hv (fun t ht hW => ⟨⟨v, F, rfl, hp, by rw [Bw, ht]; exact h.1⟩, h.2.F ht⟩) h.2.2.2 hdg (hlocks := X.2.2)
theorem w_bret {post : Int32 → (Nat → va_E) → Prop} (X : Kx p m meth c s args cc nL own (some .byte)) (h : Hx g N ad F A s H locs) {v : Int32} (hv : narrow .byte (.int v) = .int v) (hp : post v F) (hdg : decode cc pc = .ok (.ireturn, 1)) : W p l e R s m args below meth c H locs 0 0 (MQ below (va_Qi post (Bw g N ad) A) args s 0 0 A) (F0 m pc ls [.int v]) :=
  W.zret X.1.1 X.1.2.1 X.2.1 hv (fun t ht hW => ⟨⟨v, F, rfl, hp, by rw [Bw, ht]; exact h.1⟩, h.2.F ht⟩) h.2.2.2 hdg (hlocks := X.2.2)
theorem w_preK (M : Mx g N ad A s) (h : Hx g N ad F A s H locs) {i : Nat} (hi : i < 16) {As : List Value} : PreV s H "java/lang/String" (g.2.2.2.2.2.1 i) (va_Pc (.ref (g.2.2.2.2.2.1 i) :: As) (Pw g N ad F H.size)) As := ⟨blind_w, vk_recv M.2.2.2.2.2.1 hi h.2, w_pre M h⟩
theorem w_readKi {ans : Int32} (X : Kx p m meth c s args cc nL own ret) (M : Mx g N ad A s) (h : Hx g N ad F A s H locs) {i : Nat} (As : List Value) (rest : List Value) (hM : CtI l y ccY nY retY fm lo g N ad F (.ref (g.2.2.2.2.2.1 i) :: As) (fun r F' => r = ans ∧ F' = F)) (lk : LkV own index y ccY nY retY n) (hi : i < 16) (hy : y.cls = "java/lang/String") (hn : As.length = n) (hR : fm + 1 ≤ R.frames ∧ 8 + (nY + 11) + lo ≤ R.locals) (hl : lv_has ls nL lvs) (hcs : cells ≤ R.cells ∧ slots ≤ R.slots) (hcat : (rest.map fun v => v.category).sum ≤ 8) (hst : st = As.reverse ++ .ref (g.2.2.2.2.2.1 i) :: rest) (hdg : decode cc pc = .ok (.invokevirtual index, 3))
    (kk : ∀ (H' : Heap) (locs' : List Loc), Hx g N ad F A s H' locs' → W p l e R s m args below meth c H' locs' cells slots Q (F0 m (pc + 3) ls (.int ans :: rest))) : W p l e R s m args below meth c H locs cells slots Q (F0 m pc ls st) := by
  subst hst
  refine va_calli (va_runV (As := As) (rest := rest) X.1 (hM H.size) (w_cwV X lk hR) (by rw [hy]; exact w_preK M h hi) rfl hn hl.1 rfl (lv_room hcat) hdg hcs) h.2 (fun q _ hq => w_free M h q hq) (fun q hq => w_free M h q hq) (fun r u t H1 locs1 ht hvm hp hB hz hk hS => ?_)
  obtain ⟨h1, h2⟩ := hp
  subst h1
  subst h2
  exact kk H1 locs1 ⟨by rw [Bw, ht] at hB; exact hB, hS⟩
theorem w_sval (X : Kx p m meth c s args cc nL own ret) (M : Mx g N ad A s) (h : Hx g N ad F A s H locs) (i : Nat) (hi : i < 16) (hlk : Cond.fieldLink own index "java/lang/String" "value" "[B" ∈ lw_g) (hdg : decode cc pc = .ok (.getfield index, 3))
    (kk : W p l e R s m args below meth c H locs cells slots Q (F0 m (pc + 3) ls (.ref (g.2.2.2.2.2.2 i) :: rest))) : W p l e R s m args below meth c H locs cells slots Q (F0 m pc ls (.ref (g.2.2.2.2.2.1 i) :: rest)) :=
  vk_getf X.1.1 X.1.2.1 (M.2.2.2.2.2.1.1 i hi).2.2.1 h.2 X.1.2.2.2.1 (X.1.2.2.2.2 _ hlk) (fun x hx => hx) hdg kk
theorem w_scod (X : Kx p m meth c s args cc nL own ret) (M : Mx g N ad A s) (h : Hx g N ad F A s H locs) (i : Nat) (hi : i < 16) (hlk : Cond.fieldLink own index "java/lang/String" "coder" "B" ∈ lw_g) (hdg : decode cc pc = .ok (.getfield index, 3))
    (kk : W p l e R s m args below meth c H locs cells slots Q (F0 m (pc + 3) ls (.int (nI 0) :: rest))) : W p l e R s m args below meth c H locs cells slots Q (F0 m pc ls (.ref (g.2.2.2.2.2.1 i) :: rest)) :=
  vk_getf X.1.1 X.1.2.1 (M.2.2.2.2.2.1.1 i hi).2.1 h.2 X.1.2.2.2.1 (X.1.2.2.2.2 _ hlk) (fun x hx => hx) hdg kk
theorem w_slen (X : Kx p m meth c s args cc nL own ret) (M : Mx g N ad A s) (h : Hx g N ad F A s H locs) (i : Nat) (hi : i < 16) (hdg : decode cc pc = .ok (.arraylength, 1))
    (kk : W p l e R s m args below meth c H locs cells slots Q (F0 m (pc + 1) ls (.int (nI (sxN i)) :: rest))) : W p l e R s m args below meth c H locs cells slots Q (F0 m pc ls (.ref (g.2.2.2.2.2.2 i) :: rest)) :=
  va_tlen X.1.1 X.1.2.1 (M.2.2.2.2.2.1.1 i hi).2.2.2 h.2 rfl hdg kk
theorem w_sbal (X : Kx p m meth c s args cc nL own ret) (M : Mx g N ad A s) (h : Hx g N ad F A s H locs) (i : Nat) (hi : i < 16) {k : Nat} (hk : k < sxN i) (hdg : decode cc pc = .ok (.baload, 1))
    (kk : W p l e R s m args below meth c H locs cells slots Q (F0 m (pc + 1) ls (.int (sxB i k) :: rest))) : W p l e R s m args below meth c H locs cells slots Q (F0 m pc ls (.int (nI k) :: .ref (g.2.2.2.2.2.2 i) :: rest)) := by
  have h12 := sx_le6 i hi
  exact va_tb X.1.1 X.1.2.1 (M.2.2.2.2.2.1.1 i hi).2.2.2 h.2 (vp_in_nI hk (show sxN i < 2147483648 by omega)) (v := .int (sxB i k)) (by rw [nI_clamp (by omega)]; rfl) hdg kk
theorem w_cpct (X : Kx p m meth c s args cc nL own ret) (M : Mx g N ad A s) (h : Hx g N ad F A s H locs) (hlk : Cond.fieldLink own index "java/lang/String" "COMPACT_STRINGS" "Z" ∈ lw_g) (hdg : decode cc pc = .ok (.getstatic index, 3))
    (kk : W p l e R s m args below meth c H locs cells slots Q (F0 m (pc + 3) ls (.int (nI 1) :: rest))) : W p l e R s m args below meth c H locs cells slots Q (F0 m pc ls rest) :=
  va_gets X.1.1 X.1.2.1 M.2.2.2.2.2.2.2.1 h.2 X.1.2.2.2.1 (X.1.2.2.2.2 _ hlk) (fun x hx => hx) hdg kk
theorem w_sioobe (X : Kx p m meth c s args cc nL own ret) (M : Mx g N ad A s) (h : Hx g N ad F A s H locs) (hlk : Cond.fieldLink own index "jdk/internal/util/Preconditions" "SIOOBE_FORMATTER" "Ljava/util/function/BiFunction;" ∈ lw_g) (hdg : decode cc pc = .ok (.getstatic index, 3))
    (k1 : W p l e R s m args below meth c H locs cells slots Q (F0 m (pc + 3) ls (.null :: rest))) (k2 : ∀ t : Nat, W p l e R s m args below meth c H locs cells slots Q (F0 m (pc + 3) ls (.ref t :: rest))) : W p l e R s m args below meth c H locs cells slots Q (F0 m pc ls rest) := by
  rcases M.2.2.2.2.2.2.2.2.1 with hZ | ⟨t, hZ⟩
  · exact va_gets X.1.1 X.1.2.1 hZ h.2 X.1.2.2.2.1 (X.1.2.2.2.2 _ hlk) (fun x hx => hx) hdg k1
  · exact va_gets X.1.1 X.1.2.1 hZ h.2 X.1.2.2.2.1 (X.1.2.2.2.2 _ hlk) (fun x hx => hx) hdg (k2 t)
end RD
/-! the reader of texts -/
def dgF (n : Nat) (a : NM) (p : Nat) : Int32 := if sgAt n a (nI p) < nI 48 then -1 else if nI 57 < sgAt n a (nI p) then -1 else sgAt n a (nI p) - nI 48
def tkF (n : Nat) (a : NM) (p : Nat) (lg : Int32) (pl rc : Nat) (nm : NM) : Nat × NM := if dgF n a p = -1 then (0, nm) else if lg = 0 then (1, rowPut 48 nm (rc * 4 + pl) (dgF n a p)) else if dgF n a (p + 1) = -1 then (1, rowPut 48 nm (rc * 4 + pl) (dgF n a p)) else (2, rowPut 48 nm (rc * 4 + pl) (dgF n a p * nI 10 + dgF n a (p + 1)))
theorem tkF_le (n : Nat) (a : NM) (p : Nat) (lg : Int32) (pl rc : Nat) (nm : NM) : (tkF n a p lg pl rc nm).1 ≤ 2 := by unfold tkF; split <;> (try split) <;> (try split) <;> simp
def flF (i n : Nat) (a : NM) (rc : Nat) : Nat → Nat → Nat → Nat → NM → Bool × Nat × NM
  | 0, _, p, _, nm => (true, p, nm)
  | f + 1, k, p, pl, nm =>
    if sxB i k = nI 35 then (if (tkF n a p (nI 0) pl rc nm).1 = 0 then (false, p, (tkF n a p (nI 0) pl rc nm).2) else flF i n a rc f (k + 1) (p + (tkF n a p (nI 0) pl rc nm).1) (pl + 1) (tkF n a p (nI 0) pl rc nm).2)
    else if sxB i k = nI 37 then (if (tkF n a p (nI 1) pl rc nm).1 = 0 then (false, p, (tkF n a p (nI 1) pl rc nm).2) else flF i n a rc f (k + 1) (p + (tkF n a p (nI 1) pl rc nm).1) (pl + 1) (tkF n a p (nI 1) pl rc nm).2)
    else if sgAt n a (nI p) = sxB i k then flF i n a rc f (k + 1) (p + 1) pl nm else (false, p, nm)
theorem flF_le (i n : Nat) (a : NM) (rc : Nat) : ∀ (f k p pl : Nat) (nm : NM), (flF i n a rc f k p pl nm).2.1 ≤ p + 2 * f
  | 0, _, p, _, _ => by simp [flF]
  | f + 1, k, p, pl, nm => by
    have h1 := tkF_le n a p (nI 0) pl rc nm
    have h2 := tkF_le n a p (nI 1) pl rc nm
    have i1 := flF_le i n a rc f (k + 1) (p + (tkF n a p (nI 0) pl rc nm).1) (pl + 1) (tkF n a p (nI 0) pl rc nm).2
    have i2 := flF_le i n a rc f (k + 1) (p + (tkF n a p (nI 1) pl rc nm).1) (pl + 1) (tkF n a p (nI 1) pl rc nm).2
    have i3 := flF_le i n a rc f (k + 1) (p + 1) pl nm
    rw [flF]
    split
    · split
      · show p ≤ _; omega
      · omega
    · split
      · split
        · show p ≤ _; omega
        · omega
      · split
        · omega
        · show p ≤ _; omega
abbrev RDX : Type := Nat × Nat × NM × NM
def flR (i n : Nat) (a : NM) (st rc : Nat) (nm : NM) : Bool × Nat × NM := flF i n a rc (sxN i) 0 st 0 nm
theorem flR_le {i n : Nat} {a : NM} {st rc : Nat} {nm : NM} (hi : i < 8) : (flR i n a st rc nm).2.1 ≤ st + 24 := by
  have h1 := flF_le i n a rc (sxN i) 0 st 0 nm
  have h2 := sx_le i hi
  unfold flR
  omega
def tcF (n : Nat) (a : NM) (st rc : Nat) (kd : NM) : Nat → Nat → Nat → NM → Bool × RDX
  | 0, _, re, nm => (false, rc, re, kd, nm)
  | f + 1, t, re, nm => if (flR t n a st rc nm).1 = true then (true, rc + 1, (flR t n a st rc nm).2.1, rowPut 12 kd rc (nI t), (flR t n a st rc nm).2.2) else tcF n a st rc kd f (t + 1) (max re (flR t n a st rc nm).2.1) (flR t n a st rc nm).2.2
def tcR (n : Nat) (a : NM) (st : Nat) (x : RDX) : Bool × RDX := tcF n a st x.1 x.2.2.1 8 0 x.2.1 x.2.2.2
theorem tcF_le (n : Nat) (a : NM) (st rc : Nat) (kd : NM) : ∀ (f t re : Nat) (nm : NM), f + t = 8 → re ≤ st + 24 → (tcF n a st rc kd f t re nm).2.2.1 ≤ st + 24 ∧ (tcF n a st rc kd f t re nm).2.1 ≤ rc + 1
  | 0, _, re, _, _, h => by rw [tcF]; exact ⟨h, Nat.le_succ _⟩
  | f + 1, t, re, nm, ht, h => by
    have h1 := flR_le (i := t) (n := n) (a := a) (st := st) (rc := rc) (nm := nm) (by omega)
    rw [tcF]
    split
    · exact ⟨h1, Nat.le_refl _⟩
    · exact tcF_le n a st rc kd f (t + 1) _ _ (by omega) (by omega)
def itF (n : Nat) (a : NM) : Nat → RDX → Bool × RDX
  | 0, x => (false, x)
  | f + 1, x => if (tcR n a x.2.1 x).1 = true then (if (tcR n a x.2.1 x).2.2.1 = n then (true, (tcR n a x.2.1 x).2) else if sgAt n a (nI (tcR n a x.2.1 x).2.2.1) = nI 59 then itF n a f ((tcR n a x.2.1 x).2.1, (tcR n a x.2.1 x).2.2.1 + 1, (tcR n a x.2.1 x).2.2.2.1, (tcR n a x.2.1 x).2.2.2.2) else (false, (tcR n a x.2.1 x).2)) else (false, (tcR n a x.2.1 x).2)
def itR (n : Nat) (a kd nm : NM) : Bool × RDX := itF n a 12 (0, 0, kd, nm)
