/-! what a change of the row does to the state that it tells of -/
theorem upd_ne {a : Nat → Int32} {k j : Nat} {v : Int32} (h : j ≠ k) : upd a k v j = a j := by simp [upd, h]
theorem upd_eq {a : Nat → Int32} {k j : Nat} {v : Int32} (h : j = k) : upd a k v j = v := by simp [upd, h]
theorem zUp_ne {a : Nat → Nat} {k j v : Nat} (h : j ≠ k) : zUp a k v j = a j := by simp [zUp, h]
theorem zUp_eq {a : Nat → Nat} {k j v : Nat} (h : j = k) : zUp a k v j = v := by simp [zUp, h]
theorem Inv.pr {x : SX} (h : Inv x) {k : Nat} (hk : k < x.1) : x.2.1 4 k = 0 ∨ x.2.1 4 k = nI 1 := by
  obtain ⟨w, d, s, t, p, h1, h2, h3, h4, h5, h6, h7, h8, h9, h10, h11, h12, h13⟩ := h.j hk
  rcases (show p = 0 ∨ p = 1 by omega) with rfl | rfl
  · exact Or.inl h12
  · exact Or.inr h12
theorem Inv.kn0 {x : SX} (h : Inv x) {s : Nat} (hs : s < 64) : x.2.2.2.2.1 2 s = 0 ∨ x.2.2.2.2.1 2 s = nI 1 := h.kn s hs
section RWU
variable {x : SX} {W : Nat → Int32}
theorem RW.congz {z z' : Nat → Nat} (h : RW (xZ x z) W) (e : ∀ k, k < 9 → z k = z' k) : RW (xZ x z') W := by
  obtain ⟨h1, h2, h3, h4, h5, h6, h7, h8, h9, h10⟩ := h
  refine ⟨h1, fun k hk => ?_, h3, fun k hk => ?_, h5, h6, h7, h8, h9, h10⟩
  · rw [h2 k hk]; exact congrArg nI (e k (by omega))
  · rw [h4 k hk]; exact congrArg nI (e (5 + k) (by omega))
theorem RW.congw {W' : Nat → Int32} (h : RW x W) (e : ∀ k, k < 22 + 5 * x.1 ∨ (82 ≤ k ∧ k < 82 + 3 * x.2.2.1) → W' k = W k) : RW x W' := by
  obtain ⟨h1, h2, h3, h4, h5, h6, h7, h8, h9, h10⟩ := h
  refine ⟨?_, fun k hk => ?_, ?_, fun k hk => ?_, ?_, fun s hs => ?_, fun k hk => ?_, fun k hk => ?_, fun k q hk hq => ?_, fun i hi => ?_⟩
  · rw [e _ (by omega)]; exact h1
  · rw [e _ (by omega)]; exact h2 k hk
  · rw [e _ (by omega)]; exact h3
  · rw [e _ (by omega)]; exact h4 k hk
  · rw [e _ (by omega)]; exact h5
  · rw [e _ (by omega)]; exact h6 s hs
  · rw [e _ (by omega)]; exact h7 k hk
  · rw [e _ (by omega)]; exact h8 k hk
  · rw [e _ (by omega)]; exact h9 k q hk hq
  · rw [e _ (by omega), e _ (by omega), e _ (by omega)]; exact h10 i hi
theorem RW.setz (h : RW x W) (k v : Nat) (hk : k < 5) : RW (xZ x (zUp x.2.2.2.2.2.2.2 k v)) (upd W (1 + k) (nI v)) := by
  obtain ⟨h1, h2, h3, h4, h5, h6, h7, h8, h9, h10⟩ := h
  refine ⟨?_, fun i hi => ?_, ?_, fun i hi => ?_, ?_, fun s hs => ?_, fun i hi => ?_, fun i hi => ?_, fun i q hi hq => ?_, fun i hi => ?_⟩
  · rw [upd_ne (by omega)]; exact h1
  · by_cases e : i = k
    · subst e; rw [upd_eq rfl]; exact congrArg nI (zUp_eq rfl).symm
    · rw [upd_ne (by omega), h2 i hi]; exact congrArg nI (zUp_ne e).symm
  · rw [upd_ne (by omega)]; exact h3
  · rw [upd_ne (by omega), h4 i hi]; exact congrArg nI (zUp_ne (by omega)).symm
  · rw [upd_ne (by omega)]; exact h5
  · rw [upd_ne (by omega)]; exact h6 s hs
  · rw [upd_ne (by omega)]; exact h7 i hi
  · rw [upd_ne (by omega)]; exact h8 i hi
  · rw [upd_ne (by omega)]; exact h9 i q hi hq
  · rw [upd_ne (by omega), upd_ne (by omega), upd_ne (by omega)]; exact h10 i hi
theorem RW.setc (h : RW x W) (k v : Nat) (hk : k < 4) : RW (xZ x (zUp x.2.2.2.2.2.2.2 (5 + k) v)) (upd W (7 + k) (nI v)) := by
  obtain ⟨h1, h2, h3, h4, h5, h6, h7, h8, h9, h10⟩ := h
  refine ⟨?_, fun i hi => ?_, ?_, fun i hi => ?_, ?_, fun s hs => ?_, fun i hi => ?_, fun i hi => ?_, fun i q hi hq => ?_, fun i hi => ?_⟩
  · rw [upd_ne (by omega)]; exact h1
  · rw [upd_ne (by omega), h2 i hi]; exact congrArg nI (zUp_ne (by omega)).symm
  · rw [upd_ne (by omega)]; exact h3
  · by_cases e : i = k
    · subst e; rw [upd_eq rfl]; exact congrArg nI (zUp_eq rfl).symm
    · rw [upd_ne (by omega), h4 i hi]; exact congrArg nI (zUp_ne (by omega)).symm
  · rw [upd_ne (by omega)]; exact h5
  · rw [upd_ne (by omega)]; exact h6 s hs
  · rw [upd_ne (by omega)]; exact h7 i hi
  · rw [upd_ne (by omega)]; exact h8 i hi
  · rw [upd_ne (by omega)]; exact h9 i q hi hq
  · rw [upd_ne (by omega), upd_ne (by omega), upd_ne (by omega)]; exact h10 i hi
theorem RW.setb (h : RW x W) (k v : Nat) (hk : k < 4) : RW (xBuck x k v) (upd W (14 + k) (nI v)) := by
  obtain ⟨h1, h2, h3, h4, h5, h6, h7, h8, h9, h10⟩ := h
  refine ⟨?_, fun i hi => ?_, ?_, fun i hi => ?_, ?_, fun s hs => ?_, fun i hi => ?_, fun i hi => ?_, fun i q hi hq => ?_, fun i hi => ?_⟩
  · rw [upd_ne (by omega)]; exact h1
  · rw [upd_ne (by omega)]; exact h2 i hi
  · rw [upd_ne (by omega)]; exact h3
  · rw [upd_ne (by omega)]; exact h4 i hi
  · rw [upd_ne (by omega)]; exact h5
  · rw [upd_ne (by omega)]; exact h6 s hs
  · by_cases e : i = k
    · subst e; rw [upd_eq rfl]; exact congrArg nI (show v = bUp x.2.2.2.2.2.2.1 i v i by simp [bUp])
    · rw [upd_ne (by omega), h7 i hi]; exact congrArg nI (show x.2.2.2.2.2.2.1 i = bUp x.2.2.2.2.2.2.1 k v i by simp [bUp, e])
  · rw [upd_ne (by omega)]; exact h8 i hi
  · rw [upd_ne (by omega)]; exact h9 i q hi hq
  · rw [upd_ne (by omega), upd_ne (by omega), upd_ne (by omega)]; exact h10 i hi
def xPr1 (x : SX) (k : Nat) : SX := (x.1, jPrime (x.2.1) k, x.2.2.1, x.2.2.2.1, x.2.2.2.2.1, x.2.2.2.2.2.1, x.2.2.2.2.2.2.1, x.2.2.2.2.2.2.2)
theorem RW.setp (h : RW x W) (k : Nat) (hk : k < x.1) (hn : x.1 ≤ 12) : RW (xPr1 x k) (upd W (22 + 5 * k + 4) (nI 1)) := by
  obtain ⟨h1, h2, h3, h4, h5, h6, h7, h8, h9, h10⟩ := h
  refine ⟨?_, fun i hi => ?_, ?_, fun i hi => ?_, ?_, fun s hs => ?_, fun i hi => ?_, fun i hi => ?_, fun i q hi hq => ?_, fun i hi => ?_⟩
  · rw [upd_ne (by omega)]; exact h1
  · rw [upd_ne (by omega)]; exact h2 i hi
  · rw [upd_ne (by omega)]; exact h3
  · rw [upd_ne (by omega)]; exact h4 i hi
  · rw [upd_ne (by omega)]; exact h5
  · rw [upd_ne (by omega)]; exact h6 s hs
  · rw [upd_ne (by omega)]; exact h7 i hi
  · rw [upd_ne (by omega)]; exact h8 i hi
  · have hi2 : i < x.1 := hi
    rcases (show q = 0 ∨ q = 1 ∨ q = 2 ∨ q = 3 ∨ q = 4 by omega) with rfl | rfl | rfl | rfl | rfl
    · rw [upd_ne (by omega)]; exact h9 i 0 hi hq
    · rw [upd_ne (by omega)]; exact h9 i 1 hi hq
    · rw [upd_ne (by omega)]; exact h9 i 2 hi hq
    · rw [upd_ne (by omega)]; exact h9 i 3 hi hq
    · show _ = rowPut 12 (x.2.1 4) k (nI 1) i
      rw [rowPut_in (by omega)]
      by_cases e : i = k
      · subst e; rw [upd_eq rfl, upd_eq rfl]
      · rw [upd_ne (by omega), upd_ne e]; exact h9 i 4 hi hq
  · rw [upd_ne (by omega), upd_ne (by omega), upd_ne (by omega)]; exact h10 i hi
def xAdd1 (x : SX) (wl dp sg wt : Int32) : SX := (x.1 + 1, jAdd (x.2.1) x.1 wl dp sg wt, x.2.2.1, x.2.2.2.1, x.2.2.2.2.1, x.2.2.2.2.2.1, x.2.2.2.2.2.2.1, x.2.2.2.2.2.2.2)
theorem RW.addj (h : RW x W) (wl dp sg wt : Int32) (hn : x.1 < 12) : RW (xAdd1 x wl dp sg wt) (upd (upd (upd (upd (upd (upd W (22 + 5 * x.1 + 0) wl) (22 + 5 * x.1 + 1) dp) (22 + 5 * x.1 + 2) sg) (22 + 5 * x.1 + 3) wt) (22 + 5 * x.1 + 4) (nI 0)) 0 (nI (x.1 + 1))) := by
  obtain ⟨h1, h2, h3, h4, h5, h6, h7, h8, h9, h10⟩ := h
  refine ⟨?_, fun i hi => ?_, ?_, fun i hi => ?_, ?_, fun s hs => ?_, fun i hi => ?_, fun i hi => ?_, fun i q hi hq => ?_, fun i hi => ?_⟩
  · rw [upd_eq rfl]; rfl
  · rw [upd_ne (by omega), upd_ne (by omega), upd_ne (by omega), upd_ne (by omega), upd_ne (by omega), upd_ne (by omega)]; exact h2 i hi
  · rw [upd_ne (by omega), upd_ne (by omega), upd_ne (by omega), upd_ne (by omega), upd_ne (by omega), upd_ne (by omega)]; exact h3
  · rw [upd_ne (by omega), upd_ne (by omega), upd_ne (by omega), upd_ne (by omega), upd_ne (by omega), upd_ne (by omega)]; exact h4 i hi
  · rw [upd_ne (by omega), upd_ne (by omega), upd_ne (by omega), upd_ne (by omega), upd_ne (by omega), upd_ne (by omega)]; exact h5
  · rw [upd_ne (by omega), upd_ne (by omega), upd_ne (by omega), upd_ne (by omega), upd_ne (by omega), upd_ne (by omega)]; exact h6 s hs
  · rw [upd_ne (by omega), upd_ne (by omega), upd_ne (by omega), upd_ne (by omega), upd_ne (by omega), upd_ne (by omega)]; exact h7 i hi
  · rw [upd_ne (by omega), upd_ne (by omega), upd_ne (by omega), upd_ne (by omega), upd_ne (by omega), upd_ne (by omega)]; exact h8 i hi
  · have hi2 : i < x.1 + 1 := hi
    by_cases e : i = x.1
    · subst e
      rcases (show q = 0 ∨ q = 1 ∨ q = 2 ∨ q = 3 ∨ q = 4 by omega) with rfl | rfl | rfl | rfl | rfl
      · rw [upd_ne (by omega), upd_ne (by omega), upd_ne (by omega), upd_ne (by omega), upd_ne (by omega), upd_eq rfl]
        show _ = rowPut 12 (x.2.1 0) x.1 wl x.1
        rw [rowPut_in hn, upd_eq rfl]
      · rw [upd_ne (by omega), upd_ne (by omega), upd_ne (by omega), upd_ne (by omega), upd_eq rfl]
        show _ = rowPut 12 (x.2.1 1) x.1 dp x.1
        rw [rowPut_in hn, upd_eq rfl]
      · rw [upd_ne (by omega), upd_ne (by omega), upd_ne (by omega), upd_eq rfl]
        show _ = rowPut 12 (x.2.1 2) x.1 sg x.1
        rw [rowPut_in hn, upd_eq rfl]
      · rw [upd_ne (by omega), upd_ne (by omega), upd_eq rfl]
        show _ = rowPut 12 (x.2.1 3) x.1 wt x.1
        rw [rowPut_in hn, upd_eq rfl]
      · rw [upd_ne (by omega), upd_eq rfl]
        show _ = rowPut 12 (x.2.1 4) x.1 (nI 0) x.1
        rw [rowPut_in hn, upd_eq rfl]
    · rw [upd_ne (by omega), upd_ne (by omega), upd_ne (by omega), upd_ne (by omega), upd_ne (by omega), upd_ne (by omega), h9 i q (by omega) hq]
      rcases (show q = 0 ∨ q = 1 ∨ q = 2 ∨ q = 3 ∨ q = 4 by omega) with rfl | rfl | rfl | rfl | rfl
      · show _ = rowPut 12 (x.2.1 0) x.1 wl i
        rw [rowPut_in hn, upd_ne e]
      · show _ = rowPut 12 (x.2.1 1) x.1 dp i
        rw [rowPut_in hn, upd_ne e]
      · show _ = rowPut 12 (x.2.1 2) x.1 sg i
        rw [rowPut_in hn, upd_ne e]
      · show _ = rowPut 12 (x.2.1 3) x.1 wt i
        rw [rowPut_in hn, upd_ne e]
      · show _ = rowPut 12 (x.2.1 4) x.1 (nI 0) i
        rw [rowPut_in hn, upd_ne e]
  · have hi2 : i < x.2.2.1 := hi
    rw [upd_ne (by omega), upd_ne (by omega), upd_ne (by omega), upd_ne (by omega), upd_ne (by omega), upd_ne (by omega), upd_ne (by omega), upd_ne (by omega), upd_ne (by omega), upd_ne (by omega), upd_ne (by omega), upd_ne (by omega), upd_ne (by omega), upd_ne (by omega), upd_ne (by omega), upd_ne (by omega), upd_ne (by omega), upd_ne (by omega)]; exact h10 i hi
/-- a joke that is gone: the row's cells move up -/
def xOut1 (x : SX) (k : Nat) : SX := (x.1 - 1, jOut (x.2.1) k, x.2.2.1, x.2.2.2.1, x.2.2.2.2.1, x.2.2.2.2.2.1, x.2.2.2.2.2.2.1, x.2.2.2.2.2.2.2)
theorem RW.out (h : RW x W) (k : Nat) (hk : k < x.1) (hn : x.1 ≤ 12) {W' : Nat → Int32} (e0 : W' 0 = nI (x.1 - 1)) (e1 : ∀ i, (1 ≤ i ∧ i < 22 + 5 * k) ∨ 82 ≤ i → W' i = W i) (e2 : ∀ i, 22 + 5 * k ≤ i → i < 22 + 5 * (x.1 - 1) → W' i = W (i + 5)) : RW (xOut1 x k) W' := by
  obtain ⟨h1, h2, h3, h4, h5, h6, h7, h8, h9, h10⟩ := h
  refine ⟨e0, fun i hi => ?_, ?_, fun i hi => ?_, ?_, fun s hs => ?_, fun i hi => ?_, fun i hi => ?_, fun i q hi hq => ?_, fun i hi => ?_⟩
  · rw [e1 _ (by omega)]; exact h2 i hi
  · rw [e1 _ (by omega)]; exact h3
  · rw [e1 _ (by omega)]; exact h4 i hi
  · rw [e1 _ (by omega)]; exact h5
  · rw [e1 _ (by omega)]; exact h6 s hs
  · rw [e1 _ (by omega)]; exact h7 i hi
  · rw [e1 _ (by omega)]; exact h8 i hi
  · have hi2 : i < x.1 - 1 := hi
    have hj : (xOut1 x k).2.1 q i = rowOut 12 (x.2.1 q) k i := by
      rcases (show q = 0 ∨ q = 1 ∨ q = 2 ∨ q = 3 ∨ q = 4 by omega) with rfl | rfl | rfl | rfl | rfl <;> rfl
    rw [hj]
    by_cases c : i < k
    · rw [e1 _ (by omega), h9 i q (by omega) hq]
      simp [rowOut]
      omega
    · rw [e2 _ (by omega) (by omega), show 22 + 5 * i + q + 5 = 22 + 5 * (i + 1) + q by omega, h9 (i + 1) q (by omega) hq]
      simp [rowOut]
      omega
  · rw [e1 _ (by omega), e1 _ (by omega), e1 _ (by omega)]; exact h10 i hi
end RWU
/-! what the reference finds against a change -/
def okN : NT := (nI 0, nI 0, nI 0)
def noN (c : Int32) : NT := (c, nI 0, nI 0)
def notPrimeF (x : SX) (a : Int32) : NT := if hasJ x.1 a then (if x.2.1 4 (cl a) = 0 then (if 0 < x.2.2.2.2.2.2.2 4 then okN else ntF (nI 6) (nI (x.2.2.2.2.2.2.2 3))) else ntF (nI 5) a) else noN (-1)
def notDropF (x : SX) (a : Int32) : NT := if hasJ x.1 a then okN else noN (-1)
def notDrainF (x : SX) (a : Int32) : NT := if inW a (nI 1) (nI 50) then (if cl a ≤ x.2.2.2.2.2.2.2 3 then okN else ntF (nI 7) (nI (x.2.2.2.2.2.2.2 3))) else noN (-2)
def notStrokeF (x : SX) (a : Int32) : NT := if inW a (nI 1) (nI 10) then (if x.2.2.2.2.2.2.2 1 = cl a then ntF (nI 5) a else okN) else noN (-2)
def notBucketF (x : SX) (a b : Int32) : NT := if inW a (nI 0) (nI 3) then (if inW b (nI 1) (nI 5) then (if x.2.2.2.2.2.2.1 (cl a) = cl b then ntF (nI 5) a else okN) else noN (-2)) else noN (-1)
def notGoF (x : SX) (a : Int32) : NT := if inW a (nI 0) (nI 3) then (if x.2.2.2.2.2.2.2 0 = cl a then ntF (nI 5) a else okN) else noN (-1)
def notPumpF (x : SX) (a : Int32) : NT := if inW a (nI 1) (nI 9) then (if x.2.2.2.2.2.2.2 3 ≤ 40 then okN else ntF (nI 8) (nI (x.2.2.2.2.2.2.2 3))) else noN (-2)
