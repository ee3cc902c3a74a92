/-! the pump's object and its history, by their places -/
def oP0 (g : gT) (N : Nat) (ad : Nat → Nat) (F : Nat → va_E) (q : Nat → Int32) : Prop := 254 ≤ N ∧ F 0 = .inr (7, [.ref (ad 1), .ref (ad 23), .int (q 0), .ref (ad 45), .ref (ad 245), .ref (ad 247), .ref (ad 249), .int (q 1), .int (q 2), .int (q 3), .int (q 4), .int (q 5)])
def oHist (g : gT) (N : Nat) (ad : Nat → Nat) (F : Nat → va_E) (nx ct : Nat) : Prop := 254 ≤ N ∧ F 45 = .inr (0, [.ref (ad 46), .int (nI nx), .int (nI ct)]) ∧ arQ g F 46 9 (fun k => some (ad (47 + 22 * k)))
def oRead (g : gT) (N : Nat) (ad : Nat → Nat) (F : Nat → va_E) (rc re : Nat) (kd nm : Nat → Int32) : Prop := 254 ≤ N ∧ F 249 = .inr (2, [.ref (ad 250), .ref (ad 252), .int (nI rc), .int (nI re)]) ∧ oRow g N ad F 250 12 kd ∧ oRow g N ad F 252 48 nm
section FR7
variable {g : gT} {N : Nat} {ad : Nat → Nat} {F F' : Nat → va_E}
theorem oP0.fr {q : Nat → Int32} (h : oP0 g N ad F q) (e : F' 0 = F 0) : oP0 g N ad F' q := ⟨h.1, e.trans h.2⟩
theorem oHist.fr {nx ct : Nat} (h : oHist g N ad F nx ct) (e : ∀ j, 45 ≤ j → j ≤ 46 → F' j = F j) : oHist g N ad F' nx ct := ⟨h.1, (e _ (by omega) (by omega)).trans h.2.1, h.2.2.fr (e _ (by omega) (by omega))⟩
theorem oRead.fr {rc re : Nat} {kd nm : Nat → Int32} (h : oRead g N ad F rc re kd nm) (e : ∀ j, 249 ≤ j → j ≤ 253 → F' j = F j) : oRead g N ad F' rc re kd nm := ⟨h.1, (e _ (by omega) (by omega)).trans h.2.1, h.2.2.1.fr (fun q h1 h2 => e q (by omega) (by omega)), h.2.2.2.fr (fun q h1 h2 => e q (by omega) (by omega))⟩
end FR7
def nxUp (nx : Nat) : Nat := if nx < 8 then nx + 1 else 0
def nxDn (nx : Nat) : Nat := if 0 < nx then nx - 1 else 8
/-! what the pump's questions answer, of its state -/
abbrev xj (x : SX) := x.2.1
abbrev xtn (x : SX) := x.2.2.1
abbrev xsm (x : SX) := x.2.2.2.1
abbrev xt (x : SX) := x.2.2.2.2.1
abbrev xlf (x : SX) := x.2.2.2.2.2.1
abbrev xbk (x : SX) := x.2.2.2.2.2.2.1
abbrev xz (x : SX) := x.2.2.2.2.2.2.2
abbrev inW (a lo hi : Int32) : Prop := ¬ a < lo ∧ ¬ hi < a
theorem inW_of {a : Int32} {lo hi : Nat} (hl : lo < 2147483648) (hh : hi < 2147483648) (h : inW a (nI lo) (nI hi)) : ∃ k : Nat, lo ≤ k ∧ k ≤ hi ∧ a = nI k := by
  obtain ⟨h1, h2⟩ := h
  have ha : ¬ a < 0 := fun q => h1 (by
    rw [ltI] at q ⊢
    rw [nI_toInt hl]
    have : (0 : Int32).toInt = 0 := by decide
    omega)
  obtain ⟨k, hk, rfl⟩ := nI_of ha
  refine ⟨k, ?_, ?_, rfl⟩
  · rcases Nat.lt_or_ge k lo with q | q
    · exact absurd ((nI_ltI hk hl).mpr q) h1
    · exact q
  · rcases Nat.lt_or_ge hi k with q | q
    · exact absurd ((nI_ltI hh hk).mpr q) h2
    · exact q
theorem inW_n {lo hi k : Nat} (h1 : lo ≤ k) (h2 : k ≤ hi) (hh : hi < 2147483648) : inW (nI k) (nI lo) (nI hi) := ⟨nI_nlt h1 (by omega), nI_nlt h2 hh⟩
abbrev hasJ (n : Nat) (a : Int32) : Prop := ¬ a < 0 ∧ ¬ nI n ≤ a
theorem hasJ_of {n : Nat} {a : Int32} (hn : n < 2147483648) (h : hasJ n a) : ∃ k : Nat, k < n ∧ a = nI k := ix_of h.1 h.2 hn
theorem hasJ_n {n k : Nat} (h : k < n) (hn : n < 2147483648) : hasJ n (nI k) := ⟨nI_pos (by omega), nI_ge h hn⟩
abbrev cl (a : Int32) : Nat := a.toNatClampNeg
theorem cl_n {k : Nat} (h : k < 2147483648) : cl (nI k) = k := nI_clamp h
theorem sw_of (x : Int32) (n : Nat) (hn : n < 2147483648) : (∃ k : Nat, k < n ∧ x = nI k) ∨ ((x.toInt < 0 ∨ (n : Int) - 1 < x.toInt) ∧ ∀ k : Nat, k < n → x ≠ nI k) := by
  have h0 : (0 : Int32).toInt = 0 := by decide
  by_cases h : x.toInt < 0 ∨ (n : Int) - 1 < x.toInt
  · refine Or.inr ⟨h, fun k hk e => ?_⟩
    rw [e, nI_toInt (by omega)] at h
    omega
  · refine Or.inl ?_
    obtain ⟨k, hk, rfl⟩ := nI_of (x := x) (fun q => by rw [ltI] at q; omega)
    rw [nI_toInt hk] at h
    exact ⟨k, by omega, rfl⟩
def jokeOfF (x : SX) (a wh : Int32) : Int32 := if hasJ x.1 a then (if wh = nI 0 then xj x 0 (cl a) else if wh = nI 1 then xj x 1 (cl a) else if wh = nI 2 then xj x 2 (cl a) else if wh = nI 3 then xj x 3 (cl a) else if wh = nI 4 then xj x 4 (cl a) else if wh = nI 5 then nI (cnt (cwP (xj x) (xj x 0 (cl a)) (xj x 1 (cl a) - nI 1)) x.1) else -2) else -1
def leastD (x : SX) (wl : Int32) : Int32 := if ixO (bdP (xj x) x.1 wl (nI 0)) x.1 = -1 then nI 0 else rowAt 12 (xj x 1) (ixO (bdP (xj x) x.1 wl (nI 0)) x.1)
def wellOfF (x : SX) (a wh : Int32) : Int32 := if inW a (nI 0) (nI 3) then (if wh = nI 0 then nI (xbk x (cl a)) else if wh = nI 1 then nI (cnt (cwP (xj x) a (nI 30)) x.1) else if wh = nI 2 then leastD x a else if wh = nI 3 then nI (cnt (fun k => decide (xt x 1 k = a)) (xtn x)) else -2) else -1
def isKnownF (x : SX) (a : Int32) : Int32 := if inW a (nI 0) (nI 63) then xt x 2 (cl a) else -1
def inWellF (x : SX) (a pl : Int32) : Int32 := if inW a (nI 0) (nI 3) then ixO (bdP (xj x) x.1 a pl) x.1 else -1
def stkN : Nat → Nat → Nat → Nat → Nat
  | 0, _, _, _ => 0
  | f + 1, rc, ln, dp => if rc < dp then 1 + stkN f (min 30 (rc + ln)) ln dp else 0
def strokesF (x : SX) (a : Int32) : Int32 := if inW a (nI 1) (nI 30) then nI (stkN 30 (xz x 2) (xz x 1) (cl a)) else -2
def strokesAF (x : SX) (a : Int32) : Int32 := if inW a (nI 1) (nI 30) then (if cl a ≤ xz x 2 ∨ xz x 1 < 1 then nI 0 else nI ((cl a - xz x 2 + xz x 1 - 1) / xz x 1)) else -2
def giN : Nat → Nat → Nat → Nat → Nat
  | 0, _, gr, _ => gr
  | f + 1, rc, gr, ln => if 40 < gr then gr else giN f (min 30 (rc + ln)) (gr + (1 + min 30 (rc + ln) / 10)) ln
def groansInF (x : SX) (a : Int32) : Int32 := if inW a (nI 0) (nI 20) then nI (giN (cl a) (xz x 2) (xz x 3) (xz x 1)) else -2
def wdN (x : SX) : Nat → Nat → Nat → Nat → Nat
  | 0, _, _, lf => lf
  | f + 1, rc, gr, lf => if 40 < gr then lf else wdN x f (min 30 (rc + xz x 1)) (gr + (1 + min 30 (rc + xz x 1) / 10)) (lf + min (cnt (cwP (xj x) (nI (xz x 0)) (nI (min 30 (rc + xz x 1)))) x.1 - lf) (xbk x (xz x 0)))
def wouldF (x : SX) (a : Int32) : Int32 := if inW a (nI 0) (nI 20) then nI (wdN x (cl a) (xz x 2) (xz x 3) 0) else -2
def gtN (dp : Int32) (ln : Nat) : Nat → Nat → Nat → Nat
  | 0, _, gr => gr
  | f + 1, rc, gr => if dp ≤ nI rc then gr else gtN dp ln f (min 30 (rc + ln)) (gr + (1 + min 30 (rc + ln) / 10))
def grTo (x : SX) (dp : Int32) (ln : Nat) : Nat := gtN dp ln 30 (min 30 (xz x 2 + ln)) (1 + min 30 (xz x 2 + ln) / 10)
def bsN (x : SX) (dp : Int32) : Nat → Nat
  | 0 => 1
  | i + 1 => if grTo x dp (i + 2) < grTo x dp (bsN x dp i) then i + 2 else bsN x dp i
def bestF (x : SX) : Int32 := if cnt (cwP (xj x) (nI (xz x 0)) (nI 30)) x.1 = 0 then -6 else nI (bsN x (leastD x (nI (xz x 0))) 9)
def laX (x : SX) (k : Nat) : UInt32 := lfO (xj x 3 k) (xj x 4 k) (nI (xz x 3))
def fnX (x : SX) (a b : Nat) : Prop := if Op.cmpValue (FP.fcmp (laX x a) (laX x b)) .l = 0 then (if xj x 1 a = xj x 1 b then a < b else xj x 1 a < xj x 1 b) else 0 < Op.cmpValue (FP.fcmp (laX x a) (laX x b)) .l
def fnXb (x : SX) (a b : Nat) : Bool := if Op.cmpValue (FP.fcmp (laX x a) (laX x b)) .l = 0 then (if xj x 1 a = xj x 1 b then decide (a < b) else decide (xj x 1 a < xj x 1 b)) else decide (0 < Op.cmpValue (FP.fcmp (laX x a) (laX x b)) .l)
def funniestF (x : SX) (pl : Int32) : Int32 := ixO (fun a => decide (nI (cnt (fun b => fnXb x b a) x.1) = pl)) x.1
def flXb (x : SX) (a b : Nat) : Bool := if cnt (cwP (xj x) (nI a) (nI 30)) x.1 = cnt (cwP (xj x) (nI b) (nI 30)) x.1 then (if xbk x a = xbk x b then decide (a < b) else decide (xbk x b < xbk x a)) else decide (cnt (cwP (xj x) (nI b) (nI 30)) x.1 < cnt (cwP (xj x) (nI a) (nI 30)) x.1)
def fullestF (x : SX) (pl : Int32) : Int32 := ixO (fun a => decide (nI (cnt (fun b => flXb x b a) 4) = pl)) 4
def meanF (x : SX) : UInt64 := if 0 < x.1 then FP.ddiv (FP.i2d (sumI (xj x 1) x.1)) (FP.i2d (nI x.1)) else FP.dconst0
def shareF (x : SX) : UInt32 := FP.fdiv (FP.i2f (sumI (xt x 2) 64)) (1115684864 : UInt32)
def nnb (r : UInt32) : Bool := decide (r &&& 0x7fffffff ≤ 0x7f800000)
theorem nnb_n {r : UInt32} (h : nnb r = true) : vf_n32 r := by unfold vf_n32; exact of_decide_eq_true h
/-- the bits of a float, as bitsOf finds them; none where a NaN would come -/
def bA : Nat → UInt32 → Int32 → Option (UInt32 × Int32)
  | 0, s, e => some (s, e)
  | f + 1, s, e => if Op.cmpValue (FP.fcmp s FP.fconst2) .l < 0 then some (s, e) else if nnb (FP.fdiv s FP.fconst2) = true then bA f (FP.fdiv s FP.fconst2) (e + 1) else none
def bB : Nat → UInt32 → Int32 → Option (UInt32 × Int32)
  | 0, s, e => some (s, e)
  | f + 1, s, e => if 0 ≤ Op.cmpValue (FP.fcmp s FP.fconst1) .g then some (s, e) else if nnb (FP.fmul s FP.fconst2) = true then bB f (FP.fmul s FP.fconst2) (e + (-1)) else none
def bE (s : UInt32) (e : Int32) : Option Int32 := if nnb (FP.fsub s FP.fconst1) = true ∧ nnb (FP.fmul (FP.fsub s FP.fconst1) (1258291200 : UInt32)) = true then some ((e <<< (nI 23 &&& 31)) + FP.f2i (FP.fmul (FP.fsub s FP.fconst1) (1258291200 : UInt32))) else none
def bits (v : UInt32) : Option Int32 := if 0 < Op.cmpValue (FP.fcmp v FP.fconst0) .g then (match bA 128 v (nI 127) with
  | none => none
  | some (s, e) => match bB 126 s e with
    | none => none
    | some (s, e) => bE s e) else some (nI 0)
theorem bits_in {v : UInt32} {r : Int32} (h : bits v = some r) (h0 : 0 < Op.cmpValue (FP.fcmp v FP.fconst0) .g) : ∃ (s : UInt32) (e : Int32) (s2 : UInt32) (e2 : Int32), bA 128 v (nI 127) = some (s, e) ∧ bB 126 s e = some (s2, e2) ∧ bE s2 e2 = some r := by
  rw [bits, if_pos h0] at h
  cases h1 : bA 128 v (nI 127) with
  | none => rw [h1] at h; cases h
  | some q =>
    obtain ⟨s, e⟩ := q
    rw [h1] at h
    cases h2 : bB 126 s e with
    | none => simp only [h2] at h; cases h
    | some q2 =>
      obtain ⟨s2, e2⟩ := q2
      simp only [h2] at h
      exact ⟨s, e, s2, e2, rfl, h2, h⟩
theorem cnt_mono {p q : Nat → Bool} : ∀ {n : Nat}, (∀ k, k < n → p k = true → q k = true) → cnt p n ≤ cnt q n
  | 0, _ => Nat.le_refl 0
  | n + 1, h => by
    have h1 := cnt_mono (n := n) (fun k hk => h k (Nat.lt_succ_of_lt hk))
    have h2 := h n (Nat.lt_succ_self n)
    simp only [cnt]
    by_cases hp : p n = true
    · rw [if_pos hp, if_pos (h2 hp)]; omega
    · rw [if_neg hp]; split <;> omega
theorem cwP_mono {j : Nat → Nat → Int32} {w : Int32} {a b n : Nat} (hab : a ≤ b) (hb : b < 2147483648) : cnt (cwP j w (nI a)) n ≤ cnt (cwP j w (nI b)) n := cnt_mono (fun k _ h => by
  simp only [cwP, decide_eq_true_eq] at h ⊢
  exact ⟨h.1, Int32.le_trans h.2 (nI_le hab hb)⟩)
theorem gtN_le (dp : Int32) (ln : Nat) : ∀ f rc gr, gtN dp ln f rc gr ≤ gr + 4 * f
  | 0, _, gr => by rw [gtN]; omega
  | f + 1, rc, gr => by
    rw [gtN]
    have := gtN_le dp ln f (min 30 (rc + ln)) (gr + (1 + min 30 (rc + ln) / 10))
    split
    · omega
    · omega
theorem grTo_lt (x : SX) (dp : Int32) (ln : Nat) : grTo x dp ln < 1000 := by
  have := gtN_le dp ln 30 (min 30 (xz x 2 + ln)) (1 + min 30 (xz x 2 + ln) / 10)
  rw [grTo]
  omega
theorem sub_le0 {a b : Nat} (h : a ≤ b) (hb : b < 1000000) : nI a - nI b ≤ 0 := by
  have h0 : (0 : Int32).toInt = 0 := by decide
  rw [leI, pk_sub_toInt (by omega) (by omega)]
  omega
def reasonF (q : Nat → Int32) (d b : Int32) : Int32 := if inW d (nI 0) (nI 1) then (if q 2 = 0 then -3 else if d = 0 then (if b = 0 then q 2 else q 3) else if q 4 = 0 then -6 else if b = 0 then q 4 else q 5) else -2
def faultF (q : Nat → Int32) : Int32 := if q 1 = -1 then -3 else q 1
def accountF (x : SX) (il ct : Nat) (a : Int32) : Int32 := if a = nI 0 then nI x.1 else if a = nI 1 then nI (xz x 0) else if a = nI 2 then nI (xz x 1) else if a = nI 3 then nI (xz x 2) else if a = nI 4 then nI (xz x 3) else if a = nI 5 then nI (xz x 4) else if a = nI 6 then nI (xtn x) else if a = nI 7 then nI (xz x 5) else if a = nI 8 then nI (xz x 6) else if a = nI 9 then nI (xz x 7) else if a = nI 10 then nI (xz x 8) else if a = nI 11 then sumI (xj x 4) x.1 else if a = nI 12 then nI il else if a = nI 13 then nI ct else -2
def liftedF (x : SX) (a wh : Int32) (lb : Nat → Int32) : Int32 := if inW a (nI 0) (nI (xtn x) - nI 1) then (if wh = nI 0 then xt x 0 (xtn x - 1 - cl a) else if wh = nI 1 then xt x 1 (xtn x - 1 - cl a) else if wh = nI 2 then lb (xtn x - 1 - cl a) else -2) else -1
theorem inW_pl {a : Int32} {n : Nat} (hn : n < 1000) (h : inW a (nI 0) (nI n - nI 1)) : ∃ k : Nat, k < n ∧ a = nI k := by
  obtain ⟨h1, h2⟩ := h
  obtain ⟨k, hk, rfl⟩ := nI_of (x := a) h1
  refine ⟨k, ?_, rfl⟩
  rw [ltI, pk_sub_toInt (by omega) (by omega), nI_toInt hk] at h2
  omega
theorem inW_npl {k n : Nat} (hk : k < n) (hn : n < 1000) : inW (nI k) (nI 0) (nI n - nI 1) := by
  refine ⟨nI_nlt (Nat.zero_le _) (by omega), ?_⟩
  rw [ltI, pk_sub_toInt (by omega) (by omega), nI_toInt (by omega)]
  omega
theorem w_ldcwF {p : Program} {l : Launch} {e : Env} {R : Room} {s : State} {m : MethodId} {args : Array Value} {below : List Frame} {meth : Method} {c : Code} {locs : List Loc} {cells slots : Nat} {T : State} (X : Stand p l e R s m args below meth c T locs cells slots) (hexec : p.tables.exec = Jvm.exec) {own : String} {index : Nat} {b : UInt32} (hown : s.vm.findClass own = some m.cls) (hconst : (Cond.constantFloat own index b).before args s = true) {g : JFrame} (hg : g.method = m) (hdg : decode c.code g.pc = .ok (.ldc_w index, 3)) :
    ∀ target, Steps p.tables e below (T.setTop { g with pc := g.pc + 3, stack := .float b :: g.stack }) target → Steps p.tables e below (T.setTop g) target := by
  obtain ⟨k, cf, hk, hcf, hcp⟩ := Cond.constantFloat_spec hown hconst
  obtain ⟨k', hk', he⟩ := X.warmed.alike.2.2 _ _ hk
  intro target hrest
  subst hg
  jvm_step X.here [hexec, hdg, ldc_w.wp_float (s := T) (f := g) X.here.top hk' (by rw [he]; exact hcf) hcp]
  exact hrest
theorem lv_ldcwf {p : Program} {l : Launch} {e : Env} {R : Room} {s : State} {m : MethodId} {args : Array Value} {below : List Frame} {meth : Method} {c : Code} {H : Heap} {locs : List Loc} {cells slots : Nat} {Q : State → Prop} {cc : ByteArray} {nL : Nat} {own : String} {ret : Option FieldType} {pc : Nat} {ls : Array Slot} {rest : List Value} {index : Nat} {v : UInt32} (X : Kx p m meth c s args cc nL own ret) (hc : Cond.constantFloat own index v ∈ lw_g) (hdg : decode cc pc = .ok (.ldc_w index, 3)) (k : W p l e R s m args below meth c H locs cells slots Q (F0 m (pc + 3) ls (.float v :: rest))) : W p l e R s m args below meth c H locs cells slots Q (F0 m pc ls rest) := by
  intro T hT Y
  obtain ⟨t, a, b⟩ := k T hT Y
  exact ⟨t, w_ldcwF Y X.1.1 X.1.2.2.2.1 (X.1.2.2.2.2 _ hc) (g := F0 m pc ls rest) rfl (by rw [X.1.2.1]; exact hdg) t a, b⟩
