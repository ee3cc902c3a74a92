/-! every place of a well has its joke; lines, written sign by sign -/
theorem cnt_or {p q r : Nat → Bool} : ∀ {n : Nat}, (∀ k, k < n → p k = true → q k = true ∨ r k = true) → cnt p n ≤ cnt q n + cnt r n
  | 0, _ => Nat.le_refl 0
  | n + 1, h => by
    have ih := cnt_or (n := n) (fun k hk => h k (by omega))
    have h1 := h n (by omega)
    simp only [cnt]
    by_cases hp : p n = true
    · rcases h1 hp with h2 | h2
      · rw [if_pos hp, if_pos h2]; split <;> omega
      · rw [if_pos hp, if_pos h2]; split <;> omega
    · rw [if_neg hp]; split <;> split <;> omega
theorem cnt_one {r : Nat → Bool} : ∀ {n : Nat}, (∀ k i, k < n → i < n → r k = true → r i = true → k = i) → cnt r n ≤ 1
  | 0, _ => by simp [cnt]
  | n + 1, h => by
    have ih := cnt_one (n := n) (fun k i hk hi => h k i (by omega) (by omega))
    by_cases hr : r n = true
    · have : cnt r n = 0 := by
        rcases Nat.eq_zero_or_pos (cnt r n) with e | e
        · exact e
        · obtain ⟨k, hk, hrk⟩ := cnt_ex e
          have := h k n (by omega) (by omega) hrk hr
          omega
      rw [cnt_t hr]
      omega
    · rw [cnt, if_neg hr]; omega
theorem place_i {x : SX} (h : Inv x) {wl : Int32} {i : Nat} : ∀ d : Nat, d ≤ 30 → i < cnt (cwP x.2.1 wl (nI d)) x.1 → ∃ k, k < x.1 ∧ bdP x.2.1 x.1 wl (nI i) k = true
  | 0, _, hc => by
    obtain ⟨k, hk, hp⟩ := cnt_ex (Nat.lt_of_le_of_lt (Nat.zero_le _) hc)
    obtain ⟨w, d, s, t, p, h1, h2, h3, h4, h5, h6, h7, h8, h9, h10, h11, h12, h13⟩ := h.j hk
    simp only [cwP, decide_eq_true_eq] at hp
    rw [h9, nI_leI (by omega) (by omega)] at hp
    omega
  | d + 1, hd, hc => by
    by_cases q : i < cnt (cwP x.2.1 wl (nI d)) x.1
    · exact place_i h d (by omega) q
    · have h1 : cnt (cwP x.2.1 wl (nI (d + 1))) x.1 ≤ cnt (cwP x.2.1 wl (nI d)) x.1 + cnt (fun k => decide (x.2.1 0 k = wl ∧ x.2.1 1 k = nI (d + 1))) x.1 := cnt_or (fun k hk hp => by
        obtain ⟨w, d', s, t, p, g1, g2, g3, g4, g5, g6, g7, g8, g9, g10, g11, g12, g13⟩ := h.j hk
        simp only [cwP, decide_eq_true_eq] at hp ⊢
        rw [g9] at hp ⊢
        rw [nI_leI (by omega) (by omega)] at hp
        by_cases e : d' = d + 1
        · exact Or.inr ⟨hp.1, by rw [e]⟩
        · refine Or.inl ⟨hp.1, ?_⟩
          rw [nI_leI (by omega) (by omega)]
          omega)
      have h2 : cnt (fun k => decide (x.2.1 0 k = wl ∧ x.2.1 1 k = nI (d + 1))) x.1 ≤ 1 := cnt_one (fun k i hk hi hp hq => by
        simp only [decide_eq_true_eq] at hp hq
        exact h.dp k i hk hi (hp.1.trans hq.1.symm) (hp.2.trans hq.2.symm))
      have h3 : 0 < cnt (fun k => decide (x.2.1 0 k = wl ∧ x.2.1 1 k = nI (d + 1))) x.1 := by omega
      obtain ⟨k, hk, hp⟩ := cnt_ex h3
      simp only [decide_eq_true_eq] at hp
      refine ⟨k, hk, ?_⟩
      simp only [bdP, decide_eq_true_eq]
      refine ⟨hp.1, ?_⟩
      rw [hp.2, pk_sub (by omega), show d + 1 - 1 = d by omega]
      exact congrArg nI (by omega)
theorem place_at {x : SX} (h : Inv x) {wl : Int32} {i : Nat} (hc : i < cnt (cwP x.2.1 wl (nI 30)) x.1) : ∃ k, k < x.1 ∧ ixO (bdP x.2.1 x.1 wl (nI i)) x.1 = nI k := by
  obtain ⟨k, hk, hb⟩ := place_i h 30 (Nat.le_refl _) hc
  have h1 : fnd (bdP x.2.1 x.1 wl (nI i)) x.1 < x.1 := fnd_lt_of hk hb
  exact ⟨_, h1, by rw [ixO, if_pos h1]⟩
def vLn (v : Nat → Nat) (n : Nat) : Nat → Nat := fun i => match i with
  | 2 => n
  | i => v i
theorem lnum_1 {L : LN} {v : Nat} (h : v < 10) : lnum L v = lput L (nI (48 + v)) := by
  simp only [lnum, lput, dgN, numP, if_pos h, Nat.mod_eq_of_lt h]
theorem lnum_2 {L : LN} {v : Nat} (h : ¬ v < 10) : lnum L v = lput (lput L (nI (48 + v / 10))) (nI (48 + v % 10)) := by
  simp only [lnum, lput, dgN, numP, if_neg h]
theorem pjX_k {x : SX} {k d s : Nat} {L : LN} (hk : k < 12) (h1 : x.2.1 1 k = nI d) (h2 : x.2.1 2 k = nI s) (hd : d < 1000) (hs : s < 1000) : pjX x (nI k) L = pjF L d s (x.2.1 4 k) := by
  unfold pjX rdN
  rw [rowAt_n hk (by decide), rowAt_n hk (by decide), rowAt_n hk (by decide), h1, h2, cl_n (by omega), cl_n (by omega)]
