/-! the pump's calls: what is noted, the line, the input -/
def qSav (q : Nat → Int32) : Nat → Int32 := fun i => match i with
  | 0 => nI 1
  | k => q k
def nx2 (v : Int32) (nx : Nat) : Nat := if v < 0 then nx else nxUp nx
def ct2 (v : Int32) (ct : Nat) : Nat := if v < 0 then ct else min 8 (ct + 1)
/-- a line that grows: (signs' count, signs) -/
abbrev LN : Type := Nat × (Nat → Int32)
def lput (l : LN) (c : Int32) : LN := (l.1 + 1, upd l.2 l.1 c)
def lnum (l : LN) (v : Nat) : LN := (l.1 + dgN v, numP l.2 l.1 v)
theorem dgN_le (v : Nat) : dgN v ≤ 2 := by rw [dgN]; split <;> omega
theorem dgN_1 {v : Nat} (h : v < 10) : dgN v = 1 := if_pos h
def wpF (l : LN) (z : Nat → Nat) : LN := lnum (lput (lnum (lput (lnum (lput (lnum (lput (lnum (lput (0, l.2) (nI 64)) (z 0)) (nI 94)) (z 1)) (nI 126)) (z 2)) (nI 111)) (z 3)) (nI 42)) (z 4)
def pjF (l : LN) (dp sg : Nat) (pr : Int32) : LN := if pr = 0 then lnum (lput (lnum (lput l (nI 32)) dp) (nI 58)) sg else lput (lnum (lput (lnum (lput l (nI 32)) dp) (nI 58)) sg) (nI 33)
/-- a number of which it is known that it is a natural -/
def rdN (x : SX) (q : Nat) (k : Int32) : Nat := cl (rowAt 12 (x.2.1 q) k)
def pjX (x : SX) (k : Int32) (l : LN) : LN := pjF l (rdN x 1 k) (rdN x 2 k) (rowAt 12 (x.2.1 4) k)
def wrN (x : SX) (wl : Int32) : Nat → LN → LN
  | 0, l => l
  | c + 1, l => pjX x (ixO (bdP x.2.1 x.1 wl (nI c)) x.1) (wrN x wl c l)
def wrF (x : SX) (k : Nat) (l : LN) : LN := wrN x (nI k) (cnt (cwP x.2.1 (nI k) (nI 30)) x.1) (lnum (lput (lnum (0, l.2) k) (nI 117)) (x.2.2.2.2.2.2.1 k))
theorem pjF_le (l : LN) (dp sg : Nat) (pr : Int32) : (pjF l dp sg pr).1 ≤ l.1 + 7 := by
  have h1 := dgN_le dp
  have h2 := dgN_le sg
  unfold pjF lnum lput
  split <;> simp <;> omega
theorem wrN_le (x : SX) (wl : Int32) : ∀ (c : Nat) (l : LN), (wrN x wl c l).1 ≤ l.1 + 7 * c
  | 0, l => by simp [wrN]
  | c + 1, l => by
    have h := wrN_le x wl c l
    have h2 := pjF_le (wrN x wl c l) (rdN x 1 (ixO (bdP x.2.1 x.1 wl (nI c)) x.1)) (rdN x 2 (ixO (bdP x.2.1 x.1 wl (nI c)) x.1)) (rowAt 12 (x.2.1 4) (ixO (bdP x.2.1 x.1 wl (nI c)) x.1))
    simp only [wrN, pjX]
    omega
