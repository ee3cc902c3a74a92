/-! what changes do: the answer, the pump's own numbers, the state -/
abbrev RES : Type := Int32 × (Nat → Int32) × SX
def qRef (q : Nat → Int32) (kind det : Int32) : Nat → Int32 := fun i => match i with
  | 2 => kind
  | 3 => det
  | 4 => nI 0
  | 5 => nI 0
  | i => q i
def zUp (z : Nat → Nat) (k v : Nat) : Nat → Nat := fun i => if i = k then v else z i
def xZ (x : SX) (z : Nat → Nat) : SX := (x.1, x.2.1, x.2.2.1, x.2.2.2.1, x.2.2.2.2.1, x.2.2.2.2.2.1, x.2.2.2.2.2.2.1, z)
def xCome (x : SX) (wl dp sg wt : Int32) : SX := (x.1 + 1, jAdd (x.2.1) x.1 wl dp sg wt, x.2.2.1, x.2.2.2.1, x.2.2.2.2.1, x.2.2.2.2.2.1, x.2.2.2.2.2.2.1, zUp (x.2.2.2.2.2.2.2) 5 (x.2.2.2.2.2.2.2 5 + 1))
def letComeF (x : SX) (q : Nat → Int32) (wl dp sg wt : Int32) : RES := if inW wl (nI 0) (nI 3) then (if inW dp (nI 1) (nI 30) then (if inW sg (nI 0) (nI 63) then (if inW wt (nI 1) (nI 9) then (if x.2.2.2.2.1 2 (cl sg) = 0 then (if ixO (fun k => decide (x.2.1 2 k = sg)) x.1 = -1 then (if ixO (fun k => decide (x.2.1 0 k = wl ∧ x.2.1 1 k = dp)) x.1 = -1 then (if x.1 < 12 then (if cnt (cwP (x.2.1) wl (nI 30)) x.1 < 6 then (nI x.1, q, xCome x wl dp sg wt) else (-5, qRef q (nI 1) (nI (cnt (cwP (x.2.1) wl (nI 30)) x.1)), x)) else (-5, qRef q (nI 1) (nI x.1), x)) else (-5, qRef q (nI 2) (ixO (fun k => decide (x.2.1 0 k = wl ∧ x.2.1 1 k = dp)) x.1), x)) else (-5, qRef q (nI 4) (ixO (fun k => decide (x.2.1 2 k = sg)) x.1), x)) else (-5, qRef q (nI 3) sg, x)) else (-2, q, x)) else (-2, q, x)) else (-2, q, x)) else (-1, q, x)
def jPrime (j : Nat → Nat → Int32) (k : Nat) : Nat → Nat → Int32 := fun q => match q with
  | 4 => rowPut 12 (j 4) k (nI 1)
  | q => j q
def xPrime (x : SX) (k : Nat) : SX := (x.1, jPrime (x.2.1) k, x.2.2.1, x.2.2.2.1, x.2.2.2.2.1, x.2.2.2.2.2.1, x.2.2.2.2.2.2.1, zUp (x.2.2.2.2.2.2.2) 4 (x.2.2.2.2.2.2.2 4 - 1))
def primeF (x : SX) (q : Nat → Int32) (a : Int32) : RES := if hasJ x.1 a then (if x.2.1 4 (cl a) = 0 then (if 0 < x.2.2.2.2.2.2.2 4 then (nI (x.2.2.2.2.2.2.2 4 - 1), q, xPrime x (cl a)) else (-5, qRef q (nI 6) (nI (x.2.2.2.2.2.2.2 3)), x)) else (-5, qRef q (nI 5) a, x)) else (-1, q, x)
def xGo (x : SX) (k : Nat) : SX := (x.1 - 1, jOut (x.2.1) k, x.2.2.1, x.2.2.2.1, x.2.2.2.2.1, x.2.2.2.2.2.1, x.2.2.2.2.2.2.1, zUp (x.2.2.2.2.2.2.2) 6 (x.2.2.2.2.2.2.2 6 + 1))
def letGoF (x : SX) (q : Nat → Int32) (a : Int32) : RES := if hasJ x.1 a then (nI (x.1 - 1), q, xGo x (cl a)) else (-1, q, x)
def xDrain (x : SX) (k : Nat) : SX := xZ x (zUp (zUp (zUp (x.2.2.2.2.2.2.2) 3 (x.2.2.2.2.2.2.2 3 - k)) 8 (x.2.2.2.2.2.2.2 8 + k)) 4 (min 9 (x.2.2.2.2.2.2.2 4 + k / 10)))
def drainF (x : SX) (q : Nat → Int32) (a : Int32) : RES := if inW a (nI 1) (nI 50) then (if cl a ≤ x.2.2.2.2.2.2.2 3 then (nI (min 9 (x.2.2.2.2.2.2.2 4 + cl a / 10)), q, xDrain x (cl a)) else (-5, qRef q (nI 7) (nI (x.2.2.2.2.2.2.2 3)), x)) else (-2, q, x)
def strokeSF (x : SX) (q : Nat → Int32) (a : Int32) : RES := if inW a (nI 1) (nI 10) then (if x.2.2.2.2.2.2.2 1 = cl a then (-5, qRef q (nI 5) a, x) else (nI (x.2.2.2.2.2.2.2 1), q, xZ x (zUp (x.2.2.2.2.2.2.2) 1 (cl a)))) else (-2, q, x)
def bUp (b : Nat → Nat) (k v : Nat) : Nat → Nat := fun i => if i = k then v else b i
def xBuck (x : SX) (k v : Nat) : SX := (x.1, x.2.1, x.2.2.1, x.2.2.2.1, x.2.2.2.2.1, x.2.2.2.2.2.1, bUp (x.2.2.2.2.2.2.1) k v, x.2.2.2.2.2.2.2)
def bucketF (x : SX) (q : Nat → Int32) (a b : Int32) : RES := if inW a (nI 0) (nI 3) then (if inW b (nI 1) (nI 5) then (if x.2.2.2.2.2.2.1 (cl a) = cl b then (-5, qRef q (nI 5) a, x) else (nI (x.2.2.2.2.2.2.1 (cl a)), q, xBuck x (cl a) (cl b))) else (-2, q, x)) else (-1, q, x)
def goF (x : SX) (q : Nat → Int32) (a : Int32) : RES := if inW a (nI 0) (nI 3) then (if x.2.2.2.2.2.2.2 0 = cl a then (-5, qRef q (nI 5) a, x) else (nI (x.2.2.2.2.2.2.2 0), q, xZ x (zUp (zUp (x.2.2.2.2.2.2.2) 0 (cl a)) 2 0))) else (-1, q, x)
def liftF (x : SX) : SX := lift1 x (cl (ixO (bdP (x.2.1) x.1 (nI (x.2.2.2.2.2.2.2 0)) (nI 0)) x.1)) (cl (x.2.1 2 (cl (ixO (bdP (x.2.1) x.1 (nI (x.2.2.2.2.2.2.2 0)) (nI 0)) x.1))))
def liftsF : Nat → SX → SX
  | 0, x => x
  | c + 1, x => liftsF c (liftF x)
def strokeF (x : SX) : SX := liftsF (stCnt (strk x)) (strk x)
def runN : Nat → SX → Nat
  | 0, _ => 0
  | f + 1, x => if x.2.2.2.2.2.2.2 3 ≤ 40 then stCnt (strk x) + runN f (strokeF x) else 0
def runX : Nat → SX → SX
  | 0, x => x
  | f + 1, x => if x.2.2.2.2.2.2.2 3 ≤ 40 then runX f (strokeF x) else x
def pumpF (x : SX) (q : Nat → Int32) (a : Int32) : RES := if inW a (nI 1) (nI 9) then (if x.2.2.2.2.2.2.2 3 ≤ 40 then (nI (runN (cl a) x), q, runX (cl a) x) else (-5, qRef q (nI 8) (nI (x.2.2.2.2.2.2.2 3)), x)) else (-2, q, x)
/-- what holds of a state all along, as far as the strokes' walk asks it -/
def IvOk (Iv : SX → Prop) : Prop := ∀ y : SX, Iv y → (y.1 ≤ 12 ∧ y.2.2.1 ≤ 64 ∧ y.2.2.2.2.2.2.2 0 < 4 ∧ y.2.2.2.2.2.2.2 1 + y.2.2.2.2.2.2.2 2 < 1000 ∧ y.2.2.2.2.2.2.2 3 < 1000 ∧ (∀ k, y.2.2.2.2.2.2.1 k < 1000) ∧ y.2.2.2.2.2.2.2 4 < 1000) ∧ (y.2.2.2.2.2.2.2 3 ≤ 40 → LiftR (stCnt (strk y)) (strk y) (strokeF y) ∧ Iv (strokeF y))
