/-! how the reference reads a text: forms, sign by sign -/
def sgN (n : Nat) (a : Nat → Int32) (p : Nat) : Int32 := if p < n then a p else -1
abbrev isD (n : Nat) (a : Nat → Int32) (p : Nat) : Prop := inW (sgN n a p) (nI 48) (nI 57)
def tkL (n : Nat) (a : Nat → Int32) (p : Nat) : Nat := if isD n a p then (if isD n a (p + 1) then 2 else 1) else 0
def tkV (n : Nat) (a : Nat → Int32) (p : Nat) : Int32 := if isD n a (p + 1) then nI 10 * (sgN n a p - nI 48) + sgN n a (p + 1) - nI 48 else sgN n a p - nI 48
abbrev MT : Type := Bool × Nat × List Int32
/-- a form's signs: 35 for a digit, 37 for a number of one or two -/
def mt (n : Nat) (a : Nat → Int32) : List Nat → Nat → MT
  | [], p => (true, p, [])
  | k :: r, p => if k = 35 then (if isD n a p then ((mt n a r (p + 1)).1, (mt n a r (p + 1)).2.1, (sgN n a p - nI 48) :: (mt n a r (p + 1)).2.2) else (false, p, []))
    else if k = 37 then (if tkL n a p ≠ 0 then ((mt n a r (p + tkL n a p)).1, (mt n a r (p + tkL n a p)).2.1, tkV n a p :: (mt n a r (p + tkL n a p)).2.2) else (false, p, []))
    else if sgN n a p = nI k then mt n a r (p + 1) else (false, p, [])
theorem mt_0 {n : Nat} {a : Nat → Int32} {p : Nat} : mt n a [] p = (true, p, []) := rfl
theorem mt_dy {n : Nat} {a : Nat → Int32} {p : Nat} {r : List Nat} (h : isD n a p) : mt n a (35 :: r) p = ((mt n a r (p + 1)).1, (mt n a r (p + 1)).2.1, (sgN n a p - nI 48) :: (mt n a r (p + 1)).2.2) := by rw [mt, if_pos rfl, if_pos h]
theorem mt_dn {n : Nat} {a : Nat → Int32} {p : Nat} {r : List Nat} (h : ¬ isD n a p) : mt n a (35 :: r) p = (false, p, []) := by rw [mt, if_pos rfl, if_neg h]
theorem mt_ny {n : Nat} {a : Nat → Int32} {p : Nat} {r : List Nat} (h : tkL n a p ≠ 0) : mt n a (37 :: r) p = ((mt n a r (p + tkL n a p)).1, (mt n a r (p + tkL n a p)).2.1, tkV n a p :: (mt n a r (p + tkL n a p)).2.2) := by rw [mt, if_neg (by decide), if_pos rfl, if_pos h]
theorem mt_nn {n : Nat} {a : Nat → Int32} {p : Nat} {r : List Nat} (h : ¬ tkL n a p ≠ 0) : mt n a (37 :: r) p = (false, p, []) := by rw [mt, if_neg (by decide), if_pos rfl, if_neg h]
theorem mt_cy {n : Nat} {a : Nat → Int32} {p : Nat} {r : List Nat} (k : Nat) (h1 : k ≠ 35) (h2 : k ≠ 37) (h : sgN n a p = nI k) : mt n a (k :: r) p = mt n a r (p + 1) := by rw [mt, if_neg h1, if_neg h2, if_pos h]
theorem mt_cn {n : Nat} {a : Nat → Int32} {p : Nat} {r : List Nat} (k : Nat) (h1 : k ≠ 35) (h2 : k ≠ 37) (h : ¬ sgN n a p = nI k) : mt n a (k :: r) p = (false, p, []) := by rw [mt, if_neg h1, if_neg h2, if_neg h]
/-- the numbers, put one after the other -/
def nmP (nm : Nat → Int32) : Nat → List Int32 → Nat → Int32
  | _, [] => nm
  | k, v :: r => nmP (upd nm k v) (k + 1) r
theorem sgN_lt {n : Nat} {a : Nat → Int32} {p k : Nat} (hk : k < 2147483648) (h : sgN n a p = nI k) : p < n := by
  rcases Nat.lt_or_ge p n with q | q
  · exact q
  · rw [sgN, if_neg (by omega)] at h
    exact absurd (show nI k < 0 by rw [← h]; decide) (nI_pos hk)
theorem isD_lt {n : Nat} {a : Nat → Int32} {p : Nat} (h : isD n a p) : p < n := by
  rcases Nat.lt_or_ge p n with q | q
  · exact q
  · exfalso
    have h1 := h.1
    rw [sgN, if_neg (by omega)] at h1
    exact h1 (by decide)
theorem tkL_le {n : Nat} {a : Nat → Int32} {p : Nat} (hp : p ≤ n) : p + tkL n a p ≤ n := by
  unfold tkL
  split
  · rename_i h
    have h1 := isD_lt h
    split
    · rename_i h2
      have := isD_lt h2
      omega
    · omega
  · omega
def okL : List Nat → Bool
  | [] => true
  | k :: r => decide (k < 1000) && okL r
theorem mt_le {n : Nat} {a : Nat → Int32} : ∀ (L : List Nat) {p : Nat}, okL L = true → p ≤ n → (mt n a L p).2.1 ≤ n
  | [], p, _, h => h
  | k :: r, p, o, h => by
    rw [okL, Bool.and_eq_true] at o
    rw [mt]
    split
    · split
      · rename_i c
        exact mt_le r o.2 (isD_lt c)
      · exact h
    · split
      · split
        · exact mt_le r o.2 (tkL_le h)
        · exact h
      · split
        · rename_i c
          exact mt_le r o.2 (sgN_lt (by have := of_decide_eq_true o.1; omega) c)
        · exact h
theorem mt_ge {n : Nat} {a : Nat → Int32} : ∀ (L : List Nat) (p : Nat), p ≤ (mt n a L p).2.1
  | [], p => Nat.le_refl p
  | k :: r, p => by
    rw [mt]
    split
    · split
      · exact Nat.le_trans (Nat.le_succ p) (mt_ge r (p + 1))
      · exact Nat.le_refl p
    · split
      · split
        · exact Nat.le_trans (Nat.le_add_right p _) (mt_ge r (p + tkL n a p))
        · exact Nat.le_refl p
      · split
        · exact Nat.le_trans (Nat.le_succ p) (mt_ge r (p + 1))
        · exact Nat.le_refl p
/-- what a command is, as the reference reads it: whether, its end, its sort, its numbers -/
abbrev CMD : Type := MT × Int32
def fmP (n : Nat) (a : Nat → Int32) (p : Nat) : CMD := if sgN n a p = nI 117 then (mt n a [109, 112, 32, 35] (p + 1), nI 112) else (mt n a [114, 105, 109, 101, 32, 37] p, nI 114)
def fmD (n : Nat) (a : Nat → Int32) (p : Nat) : CMD := if sgN n a p = nI 114 then (if sgN n a (p + 1) = nI 97 then (mt n a [105, 110, 32, 37] (p + 2), nI 100) else (mt n a [111, 112, 32, 37] (p + 1), nI 111)) else ((false, p, []), nI 100)
def cmR (n : Nat) (a : Nat → Int32) (p : Nat) : CMD := if sgN n a p = nI 106 then (mt n a [111, 107, 101, 32, 35, 32, 37, 32, 37, 32, 35] (p + 1), nI 106)
  else if sgN n a p = nI 112 then fmP n a (p + 1)
  else if sgN n a p = nI 100 then fmD n a (p + 1)
  else if sgN n a p = nI 115 then (mt n a [116, 114, 111, 107, 101, 32, 37] (p + 1), nI 115)
  else if sgN n a p = nI 98 then (mt n a [117, 99, 107, 101, 116, 32, 35, 32, 35] (p + 1), nI 98)
  else (mt n a [103, 111, 32, 35] p, sgN n a p)
theorem cmR_le {n : Nat} {a : Nat → Int32} {p : Nat} (h : p ≤ n) : (cmR n a p).1.2.1 ≤ n := by
  unfold cmR
  split
  · rename_i c; exact mt_le _ rfl (sgN_lt (by decide) c)
  · split
    · rename_i c
      have h1 := sgN_lt (by decide) c
      unfold fmP
      split
      · rename_i c2; exact mt_le _ rfl (sgN_lt (by decide) c2)
      · exact mt_le _ rfl h1
    · split
      · rename_i c
        have h1 := sgN_lt (by decide) c
        unfold fmD
        split
        · rename_i c2
          have h2 := sgN_lt (by decide) c2
          split
          · rename_i c3; exact mt_le _ rfl (sgN_lt (by decide) c3)
          · exact mt_le _ rfl h2
        · exact h1
      · split
        · rename_i c; exact mt_le _ rfl (sgN_lt (by decide) c)
        · split
          · rename_i c; exact mt_le _ rfl (sgN_lt (by decide) c)
          · exact mt_le _ rfl h
def vAt (v : Nat → Nat) (p : Nat) : Nat → Nat := fun i => match i with
  | 4 => p
  | i => v i
def uSo (u : Nat → Int32) (s : Int32) : Nat → Int32 := fun i => match i with
  | 8 => s
  | i => u i
