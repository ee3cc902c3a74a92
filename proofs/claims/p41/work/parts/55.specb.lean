/-! the class's changes and commands, by the reference's refusals -/
def turnR (q : Nat → Int32) (x : SX) (t : NT) (a : Int32) (x' : SX) : RES := if t.1 = 0 then (a, q, x') else (t.1, if t.1 = -5 then qRef q t.2.1 t.2.2 else q, x)
theorem letComeF_turn {x : SX} {q : Nat → Int32} {wl dp sg wt : Int32} : letComeF x q wl dp sg wt = turnR q x (notJokeF x wl dp sg wt) (nI x.1) (xCome x wl dp sg wt) := by
  unfold turnR letComeF notJokeF
  by_cases c0 : inW wl (nI 0) (nI 3)
  · rw [if_pos c0, if_pos c0]
    by_cases c1 : inW dp (nI 1) (nI 30)
    · rw [if_pos c1, if_pos c1]
      by_cases c2 : inW sg (nI 0) (nI 63)
      · rw [if_pos c2, if_pos c2]
        by_cases c3 : inW wt (nI 1) (nI 9)
        · rw [if_pos c3, if_pos c3]
          by_cases c4 : x.2.2.2.2.1 2 (cl sg) = 0
          · rw [if_pos c4, if_pos c4]
            by_cases c5 : ixO (fun k => decide (x.2.1 2 k = sg)) x.1 = -1
            · rw [if_pos c5, if_pos c5]
              by_cases c6 : ixO (fun k => decide (x.2.1 0 k = wl ∧ x.2.1 1 k = dp)) x.1 = -1
              · rw [if_pos c6, if_pos c6]
                by_cases c7 : x.1 < 12
                · rw [if_pos c7, if_pos c7]
                  by_cases c8 : cnt (cwP (x.2.1) wl (nI 30)) x.1 < 6
                  · rw [if_pos c8, if_pos c8]
                    rfl
                  · rw [if_neg c8, if_neg c8]
                    rfl
                · rw [if_neg c7, if_neg c7]
                  rfl
              · rw [if_neg c6, if_neg c6]
                rfl
            · rw [if_neg c5, if_neg c5]
              rfl
          · rw [if_neg c4, if_neg c4]
            rfl
        · rw [if_neg c3, if_neg c3]
          rfl
      · rw [if_neg c2, if_neg c2]
        rfl
    · rw [if_neg c1, if_neg c1]
      rfl
  · rw [if_neg c0, if_neg c0]
    rfl
theorem primeF_turn {x : SX} {q : Nat → Int32} {a : Int32} : primeF x q a = turnR q x (notPrimeF x a) (nI (x.2.2.2.2.2.2.2 4 - 1)) (xPrime x (cl a)) := by
  unfold turnR primeF notPrimeF
  by_cases c0 : hasJ x.1 a
  · rw [if_pos c0, if_pos c0]
    by_cases c1 : x.2.1 4 (cl a) = 0
    · rw [if_pos c1, if_pos c1]
      by_cases c2 : 0 < x.2.2.2.2.2.2.2 4
      · rw [if_pos c2, if_pos c2]
        rfl
      · rw [if_neg c2, if_neg c2]
        rfl
    · rw [if_neg c1, if_neg c1]
      rfl
  · rw [if_neg c0, if_neg c0]
    rfl
theorem letGoF_turn {x : SX} {q : Nat → Int32} {a : Int32} : letGoF x q a = turnR q x (notDropF x a) (nI (x.1 - 1)) (xGo x (cl a)) := by
  unfold turnR letGoF notDropF
  by_cases c0 : hasJ x.1 a
  · rw [if_pos c0, if_pos c0]
    rfl
  · rw [if_neg c0, if_neg c0]
    rfl
theorem drainF_turn {x : SX} {q : Nat → Int32} {a : Int32} : drainF x q a = turnR q x (notDrainF x a) (nI (min 9 (x.2.2.2.2.2.2.2 4 + cl a / 10))) (xDrain x (cl a)) := by
  unfold turnR drainF notDrainF
  by_cases c0 : inW a (nI 1) (nI 50)
  · rw [if_pos c0, if_pos c0]
    by_cases c1 : cl a ≤ x.2.2.2.2.2.2.2 3
    · rw [if_pos c1, if_pos c1]
      rfl
    · rw [if_neg c1, if_neg c1]
      rfl
  · rw [if_neg c0, if_neg c0]
    rfl
theorem strokeSF_turn {x : SX} {q : Nat → Int32} {a : Int32} : strokeSF x q a = turnR q x (notStrokeF x a) (nI (x.2.2.2.2.2.2.2 1)) (xZ x (zUp x.2.2.2.2.2.2.2 1 (cl a))) := by
  unfold turnR strokeSF notStrokeF
  by_cases c0 : inW a (nI 1) (nI 10)
  · rw [if_pos c0, if_pos c0]
    by_cases c1 : x.2.2.2.2.2.2.2 1 = cl a
    · rw [if_pos c1, if_pos c1]
      rfl
    · rw [if_neg c1, if_neg c1]
      rfl
  · rw [if_neg c0, if_neg c0]
    rfl
theorem bucketF_turn {x : SX} {q : Nat → Int32} {a b : Int32} : bucketF x q a b = turnR q x (notBucketF x a b) (nI (x.2.2.2.2.2.2.1 (cl a))) (xBuck x (cl a) (cl b)) := by
  unfold turnR bucketF notBucketF
  by_cases c0 : inW a (nI 0) (nI 3)
  · rw [if_pos c0, if_pos c0]
    by_cases c1 : inW b (nI 1) (nI 5)
    · rw [if_pos c1, if_pos c1]
      by_cases c2 : x.2.2.2.2.2.2.1 (cl a) = cl b
      · rw [if_pos c2, if_pos c2]
        rfl
      · rw [if_neg c2, if_neg c2]
        rfl
    · rw [if_neg c1, if_neg c1]
      rfl
  · rw [if_neg c0, if_neg c0]
    rfl
theorem goF_turn {x : SX} {q : Nat → Int32} {a : Int32} : goF x q a = turnR q x (notGoF x a) (nI (x.2.2.2.2.2.2.2 0)) (xZ x (zUp (zUp x.2.2.2.2.2.2.2 0 (cl a)) 2 0)) := by
  unfold turnR goF notGoF
  by_cases c0 : inW a (nI 0) (nI 3)
  · rw [if_pos c0, if_pos c0]
    by_cases c1 : x.2.2.2.2.2.2.2 0 = cl a
    · rw [if_pos c1, if_pos c1]
      rfl
    · rw [if_neg c1, if_neg c1]
      rfl
  · rw [if_neg c0, if_neg c0]
    rfl
theorem pumpF_turn {x : SX} {q : Nat → Int32} {a : Int32} : pumpF x q a = turnR q x (notPumpF x a) (nI (runN (cl a) x)) (runX (cl a) x) := by
  unfold turnR pumpF notPumpF
  by_cases c0 : inW a (nI 1) (nI 9)
  · rw [if_pos c0, if_pos c0]
    by_cases c1 : x.2.2.2.2.2.2.2 3 ≤ 40
    · rw [if_pos c1, if_pos c1]
      rfl
    · rw [if_neg c1, if_neg c1]
      rfl
  · rw [if_neg c0, if_neg c0]
    rfl
theorem notJoke_c {x : SX} {wl dp sg wt : Int32} : (notJokeF x wl dp sg wt).1 = 0 ∨ (notJokeF x wl dp sg wt).1 = -1 ∨ (notJokeF x wl dp sg wt).1 = -2 ∨ (notJokeF x wl dp sg wt).1 = -5 := by
  unfold notJokeF
  by_cases c0 : inW wl (nI 0) (nI 3)
  · rw [if_pos c0]
    by_cases c1 : inW dp (nI 1) (nI 30)
    · rw [if_pos c1]
      by_cases c2 : inW sg (nI 0) (nI 63)
      · rw [if_pos c2]
        by_cases c3 : inW wt (nI 1) (nI 9)
        · rw [if_pos c3]
          by_cases c4 : x.2.2.2.2.1 2 (cl sg) = 0
          · rw [if_pos c4]
            by_cases c5 : ixO (fun k => decide (x.2.1 2 k = sg)) x.1 = -1
            · rw [if_pos c5]
              by_cases c6 : ixO (fun k => decide (x.2.1 0 k = wl ∧ x.2.1 1 k = dp)) x.1 = -1
              · rw [if_pos c6]
                by_cases c7 : x.1 < 12
                · rw [if_pos c7]
                  by_cases c8 : cnt (cwP (x.2.1) wl (nI 30)) x.1 < 6
                  · rw [if_pos c8]
                    first | exact Or.inl rfl | exact Or.inr (Or.inr (Or.inr rfl))
                  · rw [if_neg c8]
                    first | exact Or.inl rfl | exact Or.inr (Or.inl rfl) | exact Or.inr (Or.inr (Or.inl rfl)) | exact Or.inr (Or.inr (Or.inr rfl))
                · rw [if_neg c7]
                  first | exact Or.inl rfl | exact Or.inr (Or.inl rfl) | exact Or.inr (Or.inr (Or.inl rfl)) | exact Or.inr (Or.inr (Or.inr rfl))
              · rw [if_neg c6]
                first | exact Or.inl rfl | exact Or.inr (Or.inl rfl) | exact Or.inr (Or.inr (Or.inl rfl)) | exact Or.inr (Or.inr (Or.inr rfl))
            · rw [if_neg c5]
              first | exact Or.inl rfl | exact Or.inr (Or.inl rfl) | exact Or.inr (Or.inr (Or.inl rfl)) | exact Or.inr (Or.inr (Or.inr rfl))
          · rw [if_neg c4]
            first | exact Or.inl rfl | exact Or.inr (Or.inl rfl) | exact Or.inr (Or.inr (Or.inl rfl)) | exact Or.inr (Or.inr (Or.inr rfl))
        · rw [if_neg c3]
          first | exact Or.inl rfl | exact Or.inr (Or.inl rfl) | exact Or.inr (Or.inr (Or.inl rfl)) | exact Or.inr (Or.inr (Or.inr rfl))
      · rw [if_neg c2]
        first | exact Or.inl rfl | exact Or.inr (Or.inl rfl) | exact Or.inr (Or.inr (Or.inl rfl)) | exact Or.inr (Or.inr (Or.inr rfl))
    · rw [if_neg c1]
      first | exact Or.inl rfl | exact Or.inr (Or.inl rfl) | exact Or.inr (Or.inr (Or.inl rfl)) | exact Or.inr (Or.inr (Or.inr rfl))
  · rw [if_neg c0]
    first | exact Or.inl rfl | exact Or.inr (Or.inl rfl) | exact Or.inr (Or.inr (Or.inl rfl)) | exact Or.inr (Or.inr (Or.inr rfl))
theorem notPrime_c {x : SX} {a : Int32} : (notPrimeF x a).1 = 0 ∨ (notPrimeF x a).1 = -1 ∨ (notPrimeF x a).1 = -2 ∨ (notPrimeF x a).1 = -5 := by
  unfold notPrimeF
  by_cases c0 : hasJ x.1 a
  · rw [if_pos c0]
    by_cases c1 : x.2.1 4 (cl a) = 0
    · rw [if_pos c1]
      by_cases c2 : 0 < x.2.2.2.2.2.2.2 4
      · rw [if_pos c2]
        first | exact Or.inl rfl | exact Or.inr (Or.inr (Or.inr rfl))
      · rw [if_neg c2]
        first | exact Or.inl rfl | exact Or.inr (Or.inl rfl) | exact Or.inr (Or.inr (Or.inl rfl)) | exact Or.inr (Or.inr (Or.inr rfl))
    · rw [if_neg c1]
      first | exact Or.inl rfl | exact Or.inr (Or.inl rfl) | exact Or.inr (Or.inr (Or.inl rfl)) | exact Or.inr (Or.inr (Or.inr rfl))
  · rw [if_neg c0]
    first | exact Or.inl rfl | exact Or.inr (Or.inl rfl) | exact Or.inr (Or.inr (Or.inl rfl)) | exact Or.inr (Or.inr (Or.inr rfl))
theorem notDrop_c {x : SX} {a : Int32} : (notDropF x a).1 = 0 ∨ (notDropF x a).1 = -1 ∨ (notDropF x a).1 = -2 ∨ (notDropF x a).1 = -5 := by
  unfold notDropF
  by_cases c0 : hasJ x.1 a
  · rw [if_pos c0]
    first | exact Or.inl rfl | exact Or.inr (Or.inr (Or.inr rfl))
  · rw [if_neg c0]
    first | exact Or.inl rfl | exact Or.inr (Or.inl rfl) | exact Or.inr (Or.inr (Or.inl rfl)) | exact Or.inr (Or.inr (Or.inr rfl))
theorem notDrain_c {x : SX} {a : Int32} : (notDrainF x a).1 = 0 ∨ (notDrainF x a).1 = -1 ∨ (notDrainF x a).1 = -2 ∨ (notDrainF x a).1 = -5 := by
  unfold notDrainF
  by_cases c0 : inW a (nI 1) (nI 50)
  · rw [if_pos c0]
    by_cases c1 : cl a ≤ x.2.2.2.2.2.2.2 3
    · rw [if_pos c1]
      first | exact Or.inl rfl | exact Or.inr (Or.inr (Or.inr rfl))
    · rw [if_neg c1]
      first | exact Or.inl rfl | exact Or.inr (Or.inl rfl) | exact Or.inr (Or.inr (Or.inl rfl)) | exact Or.inr (Or.inr (Or.inr rfl))
  · rw [if_neg c0]
    first | exact Or.inl rfl | exact Or.inr (Or.inl rfl) | exact Or.inr (Or.inr (Or.inl rfl)) | exact Or.inr (Or.inr (Or.inr rfl))
theorem notStroke_c {x : SX} {a : Int32} : (notStrokeF x a).1 = 0 ∨ (notStrokeF x a).1 = -1 ∨ (notStrokeF x a).1 = -2 ∨ (notStrokeF x a).1 = -5 := by
  unfold notStrokeF
  by_cases c0 : inW a (nI 1) (nI 10)
  · rw [if_pos c0]
    by_cases c1 : x.2.2.2.2.2.2.2 1 = cl a
    · rw [if_pos c1]
      first | exact Or.inl rfl | exact Or.inr (Or.inl rfl) | exact Or.inr (Or.inr (Or.inl rfl)) | exact Or.inr (Or.inr (Or.inr rfl))
    · rw [if_neg c1]
      first | exact Or.inl rfl | exact Or.inr (Or.inr (Or.inr rfl))
  · rw [if_neg c0]
    first | exact Or.inl rfl | exact Or.inr (Or.inl rfl) | exact Or.inr (Or.inr (Or.inl rfl)) | exact Or.inr (Or.inr (Or.inr rfl))
theorem notBucket_c {x : SX} {a b : Int32} : (notBucketF x a b).1 = 0 ∨ (notBucketF x a b).1 = -1 ∨ (notBucketF x a b).1 = -2 ∨ (notBucketF x a b).1 = -5 := by
  unfold notBucketF
  by_cases c0 : inW a (nI 0) (nI 3)
  · rw [if_pos c0]
    by_cases c1 : inW b (nI 1) (nI 5)
    · rw [if_pos c1]
      by_cases c2 : x.2.2.2.2.2.2.1 (cl a) = cl b
      · rw [if_pos c2]
        first | exact Or.inl rfl | exact Or.inr (Or.inl rfl) | exact Or.inr (Or.inr (Or.inl rfl)) | exact Or.inr (Or.inr (Or.inr rfl))
      · rw [if_neg c2]
        first | exact Or.inl rfl | exact Or.inr (Or.inr (Or.inr rfl))
    · rw [if_neg c1]
      first | exact Or.inl rfl | exact Or.inr (Or.inl rfl) | exact Or.inr (Or.inr (Or.inl rfl)) | exact Or.inr (Or.inr (Or.inr rfl))
  · rw [if_neg c0]
    first | exact Or.inl rfl | exact Or.inr (Or.inl rfl) | exact Or.inr (Or.inr (Or.inl rfl)) | exact Or.inr (Or.inr (Or.inr rfl))
theorem notGo_c {x : SX} {a : Int32} : (notGoF x a).1 = 0 ∨ (notGoF x a).1 = -1 ∨ (notGoF x a).1 = -2 ∨ (notGoF x a).1 = -5 := by
  unfold notGoF
  by_cases c0 : inW a (nI 0) (nI 3)
  · rw [if_pos c0]
    by_cases c1 : x.2.2.2.2.2.2.2 0 = cl a
    · rw [if_pos c1]
      first | exact Or.inl rfl | exact Or.inr (Or.inl rfl) | exact Or.inr (Or.inr (Or.inl rfl)) | exact Or.inr (Or.inr (Or.inr rfl))
    · rw [if_neg c1]
      first | exact Or.inl rfl | exact Or.inr (Or.inr (Or.inr rfl))
  · rw [if_neg c0]
    first | exact Or.inl rfl | exact Or.inr (Or.inl rfl) | exact Or.inr (Or.inr (Or.inl rfl)) | exact Or.inr (Or.inr (Or.inr rfl))
theorem notPump_c {x : SX} {a : Int32} : (notPumpF x a).1 = 0 ∨ (notPumpF x a).1 = -1 ∨ (notPumpF x a).1 = -2 ∨ (notPumpF x a).1 = -5 := by
  unfold notPumpF
  by_cases c0 : inW a (nI 1) (nI 9)
  · rw [if_pos c0]
    by_cases c1 : x.2.2.2.2.2.2.2 3 ≤ 40
    · rw [if_pos c1]
      first | exact Or.inl rfl | exact Or.inr (Or.inr (Or.inr rfl))
    · rw [if_neg c1]
      first | exact Or.inl rfl | exact Or.inr (Or.inl rfl) | exact Or.inr (Or.inr (Or.inl rfl)) | exact Or.inr (Or.inr (Or.inr rfl))
  · rw [if_neg c0]
    first | exact Or.inl rfl | exact Or.inr (Or.inl rfl) | exact Or.inr (Or.inr (Or.inl rfl)) | exact Or.inr (Or.inr (Or.inr rfl))
def soT (t : Nat) : Nat := [106, 114, 111, 100, 115, 98, 103, 112].getD t 0
/-- what a command answers when it is done -/
def ansC (x : SX) (so : Int32) (f : Nat → Int32) : Int32 := if so = nI 106 then nI x.1 else if so = nI 112 then nI (runN (cl (f 0)) x) else if so = nI 114 then nI (x.2.2.2.2.2.2.2 4 - 1) else if so = nI 100 then nI (min 9 (x.2.2.2.2.2.2.2 4 + cl (f 0) / 10)) else if so = nI 111 then nI (x.1 - 1) else if so = nI 115 then nI (x.2.2.2.2.2.2.2 1) else if so = nI 98 then nI (x.2.2.2.2.2.2.1 (cl (f 0))) else nI (x.2.2.2.2.2.2.2 0)
theorem notC_c {x : SX} {so : Int32} {f : Nat → Int32} : (notC x so f).1 = 0 ∨ (notC x so f).1 = -1 ∨ (notC x so f).1 = -2 ∨ (notC x so f).1 = -5 := by
  unfold notC
  split
  · exact notJoke_c
  · split
    · exact notPump_c
    · split
      · exact notPrime_c
      · split
        · exact notDrain_c
        · split
          · exact notDrop_c
          · split
            · exact notStroke_c
            · split
              · exact notBucket_c
              · exact notGo_c
theorem dcF_0 {x : SX} {q : Nat → Int32} {kd nm : Nat → Int32} {cm : Nat} (e : kd cm = nI 0) : dcF x q kd nm cm = turnR q x (notC x (nI 106) (fun j => nm (cm * 4 + j))) (ansC x (nI 106) (fun j => nm (cm * 4 + j))) (doC x (nI 106) (fun j => nm (cm * 4 + j))) := by
  rw [notC_106 rfl, doC_106 rfl]
  simp only [dcF, ansC, e, ↓reduceIte]
  exact letComeF_turn
theorem dcF_1 {x : SX} {q : Nat → Int32} {kd nm : Nat → Int32} {cm : Nat} (e : kd cm = nI 1) : dcF x q kd nm cm = turnR q x (notC x (nI 114) (fun j => nm (cm * 4 + j))) (ansC x (nI 114) (fun j => nm (cm * 4 + j))) (doC x (nI 114) (fun j => nm (cm * 4 + j))) := by
  rw [notC_114 rfl, doC_114 rfl]
  simp only [dcF, ansC, e, if_neg (show ¬ nI 1 = nI 0 by decide), if_neg (show ¬ nI 114 = nI 106 by decide), if_neg (show ¬ nI 114 = nI 112 by decide), ↓reduceIte]
  exact primeF_turn
theorem dcF_2 {x : SX} {q : Nat → Int32} {kd nm : Nat → Int32} {cm : Nat} (e : kd cm = nI 2) : dcF x q kd nm cm = turnR q x (notC x (nI 111) (fun j => nm (cm * 4 + j))) (ansC x (nI 111) (fun j => nm (cm * 4 + j))) (doC x (nI 111) (fun j => nm (cm * 4 + j))) := by
  rw [notC_111 rfl, doC_111 rfl]
  simp only [dcF, ansC, e, if_neg (show ¬ nI 2 = nI 0 by decide), if_neg (show ¬ nI 2 = nI 1 by decide), if_neg (show ¬ nI 111 = nI 106 by decide), if_neg (show ¬ nI 111 = nI 112 by decide), if_neg (show ¬ nI 111 = nI 114 by decide), if_neg (show ¬ nI 111 = nI 100 by decide), ↓reduceIte]
  exact letGoF_turn
theorem dcF_3 {x : SX} {q : Nat → Int32} {kd nm : Nat → Int32} {cm : Nat} (e : kd cm = nI 3) : dcF x q kd nm cm = turnR q x (notC x (nI 100) (fun j => nm (cm * 4 + j))) (ansC x (nI 100) (fun j => nm (cm * 4 + j))) (doC x (nI 100) (fun j => nm (cm * 4 + j))) := by
  rw [notC_100 rfl, doC_100 rfl]
  simp only [dcF, ansC, e, if_neg (show ¬ nI 3 = nI 0 by decide), if_neg (show ¬ nI 3 = nI 1 by decide), if_neg (show ¬ nI 3 = nI 2 by decide), if_neg (show ¬ nI 100 = nI 106 by decide), if_neg (show ¬ nI 100 = nI 112 by decide), if_neg (show ¬ nI 100 = nI 114 by decide), ↓reduceIte]
  exact drainF_turn
theorem dcF_4 {x : SX} {q : Nat → Int32} {kd nm : Nat → Int32} {cm : Nat} (e : kd cm = nI 4) : dcF x q kd nm cm = turnR q x (notC x (nI 115) (fun j => nm (cm * 4 + j))) (ansC x (nI 115) (fun j => nm (cm * 4 + j))) (doC x (nI 115) (fun j => nm (cm * 4 + j))) := by
  rw [notC_115 rfl, doC_115 rfl]
  simp only [dcF, ansC, e, if_neg (show ¬ nI 4 = nI 0 by decide), if_neg (show ¬ nI 4 = nI 1 by decide), if_neg (show ¬ nI 4 = nI 2 by decide), if_neg (show ¬ nI 4 = nI 3 by decide), if_neg (show ¬ nI 115 = nI 106 by decide), if_neg (show ¬ nI 115 = nI 112 by decide), if_neg (show ¬ nI 115 = nI 114 by decide), if_neg (show ¬ nI 115 = nI 100 by decide), if_neg (show ¬ nI 115 = nI 111 by decide), ↓reduceIte]
  exact strokeSF_turn
theorem dcF_5 {x : SX} {q : Nat → Int32} {kd nm : Nat → Int32} {cm : Nat} (e : kd cm = nI 5) : dcF x q kd nm cm = turnR q x (notC x (nI 98) (fun j => nm (cm * 4 + j))) (ansC x (nI 98) (fun j => nm (cm * 4 + j))) (doC x (nI 98) (fun j => nm (cm * 4 + j))) := by
  rw [notC_98 rfl, doC_98 rfl]
  simp only [dcF, ansC, e, if_neg (show ¬ nI 5 = nI 0 by decide), if_neg (show ¬ nI 5 = nI 1 by decide), if_neg (show ¬ nI 5 = nI 2 by decide), if_neg (show ¬ nI 5 = nI 3 by decide), if_neg (show ¬ nI 5 = nI 4 by decide), if_neg (show ¬ nI 98 = nI 106 by decide), if_neg (show ¬ nI 98 = nI 112 by decide), if_neg (show ¬ nI 98 = nI 114 by decide), if_neg (show ¬ nI 98 = nI 100 by decide), if_neg (show ¬ nI 98 = nI 111 by decide), if_neg (show ¬ nI 98 = nI 115 by decide), ↓reduceIte]
  exact bucketF_turn
theorem dcF_6 {x : SX} {q : Nat → Int32} {kd nm : Nat → Int32} {cm : Nat} (e : kd cm = nI 6) : dcF x q kd nm cm = turnR q x (notC x (nI 103) (fun j => nm (cm * 4 + j))) (ansC x (nI 103) (fun j => nm (cm * 4 + j))) (doC x (nI 103) (fun j => nm (cm * 4 + j))) := by
  rw [notC_103 rfl, doC_103 rfl]
  simp only [dcF, ansC, e, if_neg (show ¬ nI 6 = nI 0 by decide), if_neg (show ¬ nI 6 = nI 1 by decide), if_neg (show ¬ nI 6 = nI 2 by decide), if_neg (show ¬ nI 6 = nI 3 by decide), if_neg (show ¬ nI 6 = nI 4 by decide), if_neg (show ¬ nI 6 = nI 5 by decide), if_neg (show ¬ nI 103 = nI 106 by decide), if_neg (show ¬ nI 103 = nI 112 by decide), if_neg (show ¬ nI 103 = nI 114 by decide), if_neg (show ¬ nI 103 = nI 100 by decide), if_neg (show ¬ nI 103 = nI 111 by decide), if_neg (show ¬ nI 103 = nI 115 by decide), if_neg (show ¬ nI 103 = nI 98 by decide), ↓reduceIte]
  exact goF_turn
theorem dcF_7 {x : SX} {q : Nat → Int32} {kd nm : Nat → Int32} {cm : Nat} (e : kd cm = nI 7) : dcF x q kd nm cm = turnR q x (notC x (nI 112) (fun j => nm (cm * 4 + j))) (ansC x (nI 112) (fun j => nm (cm * 4 + j))) (doC x (nI 112) (fun j => nm (cm * 4 + j))) := by
  rw [notC_112 rfl, doC_112 rfl]
  simp only [dcF, ansC, e, if_neg (show ¬ nI 7 = nI 0 by decide), if_neg (show ¬ nI 7 = nI 1 by decide), if_neg (show ¬ nI 7 = nI 2 by decide), if_neg (show ¬ nI 7 = nI 3 by decide), if_neg (show ¬ nI 7 = nI 4 by decide), if_neg (show ¬ nI 7 = nI 5 by decide), if_neg (show ¬ nI 7 = nI 6 by decide), if_neg (show ¬ nI 112 = nI 106 by decide), ↓reduceIte]
  exact pumpF_turn
