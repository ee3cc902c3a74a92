theorem notJoke_ok {x : SX} {wl dp sg wt : Int32} (h : (notJokeF x wl dp sg wt).1 = 0) : inW wl (nI 0) (nI 3) ∧ inW dp (nI 1) (nI 30) ∧ inW sg (nI 0) (nI 63) ∧ inW wt (nI 1) (nI 9) ∧ x.2.2.2.2.1 2 (cl sg) = 0 ∧ ixO (fun k => decide (x.2.1 2 k = sg)) x.1 = -1 ∧ ixO (fun k => decide (x.2.1 0 k = wl ∧ x.2.1 1 k = dp)) x.1 = -1 ∧ x.1 < 12 ∧ cnt (cwP (x.2.1) wl (nI 30)) x.1 < 6 := by
  unfold notJokeF at h
  split at h
  · rename_i c0
    split at h
    · rename_i c1
      split at h
      · rename_i c2
        split at h
        · rename_i c3
          split at h
          · rename_i c4
            split at h
            · rename_i c5
              split at h
              · rename_i c6
                split at h
                · rename_i c7
                  split at h
                  · rename_i c8
                    exact ⟨c0, c1, c2, c3, c4, c5, c6, c7, c8⟩
                  · exact absurd h (by first | (show ¬ (-5 : Int32) = 0; decide) | (show ¬ (-2 : Int32) = 0; decide) | (show ¬ (-1 : Int32) = 0; decide))
                · exact absurd h (by first | (show ¬ (-5 : Int32) = 0; decide) | (show ¬ (-2 : Int32) = 0; decide) | (show ¬ (-1 : Int32) = 0; decide))
              · exact absurd h (by first | (show ¬ (-5 : Int32) = 0; decide) | (show ¬ (-2 : Int32) = 0; decide) | (show ¬ (-1 : Int32) = 0; decide))
            · exact absurd h (by first | (show ¬ (-5 : Int32) = 0; decide) | (show ¬ (-2 : Int32) = 0; decide) | (show ¬ (-1 : Int32) = 0; decide))
          · exact absurd h (by first | (show ¬ (-5 : Int32) = 0; decide) | (show ¬ (-2 : Int32) = 0; decide) | (show ¬ (-1 : Int32) = 0; decide))
        · exact absurd h (by first | (show ¬ (-5 : Int32) = 0; decide) | (show ¬ (-2 : Int32) = 0; decide) | (show ¬ (-1 : Int32) = 0; decide))
      · exact absurd h (by first | (show ¬ (-5 : Int32) = 0; decide) | (show ¬ (-2 : Int32) = 0; decide) | (show ¬ (-1 : Int32) = 0; decide))
    · exact absurd h (by first | (show ¬ (-5 : Int32) = 0; decide) | (show ¬ (-2 : Int32) = 0; decide) | (show ¬ (-1 : Int32) = 0; decide))
  · exact absurd h (by first | (show ¬ (-5 : Int32) = 0; decide) | (show ¬ (-2 : Int32) = 0; decide) | (show ¬ (-1 : Int32) = 0; decide))
theorem notPrime_ok {x : SX} {a : Int32} (hn : x.1 < 1000) (h : (notPrimeF x a).1 = 0) : ∃ k : Nat, k < 1000000 ∧ (k < x.1 ∧ 0 < x.2.2.2.2.2.2.2 4 ∧ x.2.1 4 k = 0) ∧ a = nI k := by
  unfold notPrimeF at h
  split at h
  · rename_i c0
    split at h
    · rename_i c1
      split at h
      · rename_i c2
        obtain ⟨k, hk, rfl⟩ := hasJ_of (by omega) c0; exact ⟨k, by omega, ⟨hk, c2, by rw [cl_n (by omega)] at c1; exact c1⟩, rfl⟩
      · exact absurd h (by first | (show ¬ (-5 : Int32) = 0; decide) | (show ¬ (-2 : Int32) = 0; decide) | (show ¬ (-1 : Int32) = 0; decide))
    · exact absurd h (by first | (show ¬ (-5 : Int32) = 0; decide) | (show ¬ (-2 : Int32) = 0; decide) | (show ¬ (-1 : Int32) = 0; decide))
  · exact absurd h (by first | (show ¬ (-5 : Int32) = 0; decide) | (show ¬ (-2 : Int32) = 0; decide) | (show ¬ (-1 : Int32) = 0; decide))
theorem notDrop_ok {x : SX} {a : Int32} (hn : x.1 < 1000) (h : (notDropF x a).1 = 0) : ∃ k : Nat, k < 1000000 ∧ k < x.1 ∧ a = nI k := by
  unfold notDropF at h
  split at h
  · rename_i c0
    obtain ⟨k, hk, rfl⟩ := hasJ_of (by omega) c0; exact ⟨k, by omega, hk, rfl⟩
  · exact absurd h (by first | (show ¬ (-5 : Int32) = 0; decide) | (show ¬ (-2 : Int32) = 0; decide) | (show ¬ (-1 : Int32) = 0; decide))
theorem notDrain_ok {x : SX} {a : Int32} (h : (notDrainF x a).1 = 0) : ∃ k : Nat, k < 1000000 ∧ (1 ≤ k ∧ k ≤ 50 ∧ k ≤ x.2.2.2.2.2.2.2 3) ∧ a = nI k := by
  unfold notDrainF at h
  split at h
  · rename_i c0
    split at h
    · rename_i c1
      obtain ⟨k, h1, h2, rfl⟩ := inW_of (by decide) (by decide) c0; exact ⟨k, by omega, ⟨h1, h2, by rw [cl_n (by omega)] at c1; exact c1⟩, rfl⟩
    · exact absurd h (by first | (show ¬ (-5 : Int32) = 0; decide) | (show ¬ (-2 : Int32) = 0; decide) | (show ¬ (-1 : Int32) = 0; decide))
  · exact absurd h (by first | (show ¬ (-5 : Int32) = 0; decide) | (show ¬ (-2 : Int32) = 0; decide) | (show ¬ (-1 : Int32) = 0; decide))
theorem notStroke_ok {x : SX} {a : Int32} (h : (notStrokeF x a).1 = 0) : ∃ k : Nat, k < 1000000 ∧ (1 ≤ k ∧ k ≤ 10 ∧ x.2.2.2.2.2.2.2 1 ≠ k) ∧ a = nI k := by
  unfold notStrokeF at h
  split at h
  · rename_i c0
    split at h
    · exact absurd h (by first | (show ¬ (-5 : Int32) = 0; decide) | (show ¬ (-2 : Int32) = 0; decide) | (show ¬ (-1 : Int32) = 0; decide))
    · rename_i c1
      obtain ⟨k, h1, h2, rfl⟩ := inW_of (by decide) (by decide) c0; exact ⟨k, by omega, ⟨h1, h2, by rw [cl_n (by omega)] at c1; exact c1⟩, rfl⟩
  · exact absurd h (by first | (show ¬ (-5 : Int32) = 0; decide) | (show ¬ (-2 : Int32) = 0; decide) | (show ¬ (-1 : Int32) = 0; decide))
theorem notBucket_ok {x : SX} {a b : Int32} (h : (notBucketF x a b).1 = 0) : ∃ k b2 : Nat, k < 1000000 ∧ (k < 4 ∧ 1 ≤ b2 ∧ b2 ≤ 5 ∧ x.2.2.2.2.2.2.1 k ≠ b2) ∧ a = nI k ∧ b = nI b2 := by
  unfold notBucketF at h
  split at h
  · rename_i c0
    split at h
    · rename_i c1
      split at h
      · exact absurd h (by first | (show ¬ (-5 : Int32) = 0; decide) | (show ¬ (-2 : Int32) = 0; decide) | (show ¬ (-1 : Int32) = 0; decide))
      · rename_i c2
        obtain ⟨k, h1, h2, rfl⟩ := inW_of (by decide) (by decide) c0; obtain ⟨b2, g1, g2, rfl⟩ := inW_of (by decide) (by decide) c1; exact ⟨k, b2, by omega, ⟨by omega, g1, g2, by rw [cl_n (by omega), cl_n (by omega)] at c2; exact c2⟩, rfl, rfl⟩
    · exact absurd h (by first | (show ¬ (-5 : Int32) = 0; decide) | (show ¬ (-2 : Int32) = 0; decide) | (show ¬ (-1 : Int32) = 0; decide))
  · exact absurd h (by first | (show ¬ (-5 : Int32) = 0; decide) | (show ¬ (-2 : Int32) = 0; decide) | (show ¬ (-1 : Int32) = 0; decide))
theorem notGo_ok {x : SX} {a : Int32} (h : (notGoF x a).1 = 0) : ∃ k : Nat, k < 1000000 ∧ (k < 4 ∧ x.2.2.2.2.2.2.2 0 ≠ k) ∧ a = nI k := by
  unfold notGoF at h
  split at h
  · rename_i c0
    split at h
    · exact absurd h (by first | (show ¬ (-5 : Int32) = 0; decide) | (show ¬ (-2 : Int32) = 0; decide) | (show ¬ (-1 : Int32) = 0; decide))
    · rename_i c1
      obtain ⟨k, h1, h2, rfl⟩ := inW_of (by decide) (by decide) c0; exact ⟨k, by omega, ⟨by omega, by rw [cl_n (by omega)] at c1; exact c1⟩, rfl⟩
  · exact absurd h (by first | (show ¬ (-5 : Int32) = 0; decide) | (show ¬ (-2 : Int32) = 0; decide) | (show ¬ (-1 : Int32) = 0; decide))
theorem notPump_ok {x : SX} {a : Int32} (h : (notPumpF x a).1 = 0) : ∃ k : Nat, k < 1000000 ∧ (1 ≤ k ∧ k ≤ 9 ∧ x.2.2.2.2.2.2.2 3 ≤ 40) ∧ a = nI k := by
  unfold notPumpF at h
  split at h
  · rename_i c0
    split at h
    · rename_i c1
      obtain ⟨k, h1, h2, rfl⟩ := inW_of (by decide) (by decide) c0; exact ⟨k, by omega, ⟨h1, h2, c1⟩, rfl⟩
    · exact absurd h (by first | (show ¬ (-5 : Int32) = 0; decide) | (show ¬ (-2 : Int32) = 0; decide) | (show ¬ (-1 : Int32) = 0; decide))
  · exact absurd h (by first | (show ¬ (-5 : Int32) = 0; decide) | (show ¬ (-2 : Int32) = 0; decide) | (show ¬ (-1 : Int32) = 0; decide))
