/-! the other calls, side by side -/
section PWS
variable {g : gT} {N : Nat} {ad : Nat → Nat} {F F1 F2 : Nat → va_E} {x sv : SX} {hs : Nat → SX} {ct nx il : Nat} {L : LN} {ia q u : Nat → Int32} {v : Nat → Nat}
theorem lput_1 (l : LN) (c : Int32) : (lput l c).1 = l.1 + 1 := rfl
theorem lnum_l (l : LN) (v : Nat) : (lnum l v).1 ≤ l.1 + 2 := by
  have := dgN_le v
  show l.1 + dgN v ≤ _
  omega
theorem wrF_le (h : Inv x) {k : Nat} (hk : k < 4) : (wrF x k L).1 ≤ 60 := by
  have h1 := wrN_le x (nI k) (cnt (cwP x.2.1 (nI k) (nI 30)) x.1) (lnum (lput (lnum (0, L.2) k) (nI 117)) (x.2.2.2.2.2.2.1 k))
  have h2 := h.w6 k hk
  have h3 := lnum_l (lput (lnum (0, L.2) k) (nI 117)) (x.2.2.2.2.2.2.1 k)
  have h4 := lput_1 (lnum (0, L.2) k) (nI 117)
  have h5 := lnum_l (0, L.2) k
  have h6 : ((0, L.2) : LN).1 = 0 := rfl
  unfold wrF
  omega
theorem wpF_le (z : Nat → Nat) : (wpF L z).1 ≤ 60 := by
  have a1 := lput_1 (0, L.2) (nI 64)
  have a2 := lnum_l (lput (0, L.2) (nI 64)) (z 0)
  have a3 := lput_1 (lnum (lput (0, L.2) (nI 64)) (z 0)) (nI 94)
  have a4 := lnum_l (lput (lnum (lput (0, L.2) (nI 64)) (z 0)) (nI 94)) (z 1)
  have a5 := lput_1 (lnum (lput (lnum (lput (0, L.2) (nI 64)) (z 0)) (nI 94)) (z 1)) (nI 126)
  have a6 := lnum_l (lput (lnum (lput (lnum (lput (0, L.2) (nI 64)) (z 0)) (nI 94)) (z 1)) (nI 126)) (z 2)
  have a7 := lput_1 (lnum (lput (lnum (lput (lnum (lput (0, L.2) (nI 64)) (z 0)) (nI 94)) (z 1)) (nI 126)) (z 2)) (nI 111)
  have a8 := lnum_l (lput (lnum (lput (lnum (lput (lnum (lput (0, L.2) (nI 64)) (z 0)) (nI 94)) (z 1)) (nI 126)) (z 2)) (nI 111)) (z 3)
  have a9 := lput_1 (lnum (lput (lnum (lput (lnum (lput (lnum (lput (0, L.2) (nI 64)) (z 0)) (nI 94)) (z 1)) (nI 126)) (z 2)) (nI 111)) (z 3)) (nI 42)
  have a10 := lnum_l (lput (lnum (lput (lnum (lput (lnum (lput (lnum (lput (0, L.2) (nI 64)) (z 0)) (nI 94)) (z 1)) (nI 126)) (z 2)) (nI 111)) (z 3)) (nI 42)) (z 4)
  have a0 : ((0, L.2) : LN).1 = 0 := rfl
  unfold wpF
  omega
/-- undo -/
theorem nxDn_eq (hnx : nx < 9) : nxDn nx = (nx + 8) % 9 := by unfold nxDn; split <;> omega
theorem undo_slot (hC : PC g N ad F x sv hs ct nx L il ia q) (hct : ct ≤ 8) (hnx : nx < 9) : ∃ y, oSt g N ad F (47 + 22 * nxDn nx) y ∧ (ct ≠ 0 → y = hs (ct - 1)) := by
  rw [nxDn_eq hnx]
  by_cases e : ct = 0
  · obtain ⟨y, hy⟩ := hC.2.2.2.2.1 ((nx + 8) % 9) (by omega)
    exact ⟨y, hy, fun z => absurd e z⟩
  · have h := hC.2.2.2.2.2.1 (ct - 1) (by omega)
    rw [show (nx + 9 - ct + (ct - 1)) % 9 = (nx + 8) % 9 by omega] at h
    exact ⟨_, h, fun _ => rfl⟩
end PWS
