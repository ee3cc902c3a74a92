/-! read, side by side -/
theorem psF_le {n : Nat} {a : Nat → Int32} : ∀ (f p : Nat), p ≤ n → (psF n a f p).2.1 ≤ n
  | 0, p, h => h
  | f + 1, p, h => by
    have hc := cmR_le (n := n) (a := a) h
    rw [psF]
    split
    · split
      · rename_i c
        exact psF_le f _ (sgN_lt (by decide) c)
      · exact hc
    · exact hc
theorem qBad_0 (q : Nat → Int32) (t : NT) (k : Nat) : qBad q t k 0 = q 0 := by
  unfold qBad
  show (if t.1 = -5 then qRef q t.2.1 t.2.2 else q) 0 = q 0
  split <;> rfl
theorem qBad_1 (q : Nat → Int32) (t : NT) (k : Nat) : qBad q t k 1 = q 1 := by
  unfold qBad
  show (if t.1 = -5 then qRef q t.2.1 t.2.2 else q) 1 = q 1
  split <;> rfl
theorem qBad_4 (q : Nat → Int32) (t : NT) (k : Nat) : qBad q t k 4 = if t.1 = -5 then t.2.1 else nI 0 := by
  unfold qBad
  by_cases c : t.1 = -5
  · rw [if_pos c, if_pos c, if_pos c]
    show (if nI 1 = 0 then nI 0 else qRef q t.2.1 t.2.2 2) = t.2.1
    rw [if_neg (show ¬ nI 1 = 0 by decide)]
    rfl
  · rw [if_neg c, if_neg c, if_neg c]
    show (if nI 0 = 0 then nI 0 else q 2) = nI 0
    rw [if_pos (show nI 0 = 0 by decide)]
theorem qBad_5 (q : Nat → Int32) (t : NT) (k : Nat) (c : t.1 = -5) : qBad q t k 5 = t.2.2 := by
  unfold qBad
  rw [if_pos c, if_pos c]
  show (if nI 1 = 0 then nI 0 else qRef q t.2.1 t.2.2 3) = t.2.2
  rw [if_neg (show ¬ nI 1 = 0 by decide)]
  rfl
section PWS
variable {g : gT} {N : Nat} {ad : Nat → Nat} {F F1 F2 : Nat → va_E} {x sv : SX} {hs : Nat → SX} {ct nx il : Nat} {L : LN} {ia q u : Nat → Int32} {v : Nat → Nat}
theorem pc_read (h : PC g N ad F x sv hs ct nx L il ia q) (hct : ct ≤ 8) (hnx : nx < 9) {r : Int32} {q' : Nat → Int32} {x' y : SX} {rc re : Nat} {kd nm : Nat → Int32} (hp : oP0 g N ad F1 q') (hst : oSt g N ad F1 1 x') (hk : oSt g N ad F1 (47 + 22 * nx) y) (hh : oHist g N ad F1 (nx2 r nx) (ct2 r ct)) (hin : oStrip g N ad F1 245 0 ia) (hrd : oRead g N ad F1 rc re kd nm) (fr : ∀ i, ((22 < i ∧ i < 47 + 22 * nx ∧ i ≠ 45) ∨ (47 + 22 * nx + 21 < i ∧ i < 245) ∨ (246 < i ∧ i < 249) ∨ 253 < i) → F1 i = F i) : (¬ r < 0 → y = x → PC g N ad F1 x' sv (hPush hs ct x) (min 8 (ct + 1)) (nxUp nx) L 0 ia q') ∧ (r < 0 → PC g N ad F1 x' sv hs ct nx L 0 ia q') := by
  obtain ⟨h1, h2, h3, h4, h5, h6, h7, h8, h9⟩ := h
  have frS : ∀ k, k < 9 → k ≠ nx → ∀ j, 47 + 22 * k ≤ j → j ≤ 47 + 22 * k + 21 → F1 j = F j := fun k hk hne j g1 g2 => fr j (by omega)
  have hsl : ∀ k, k < 9 → ∃ y, oSt g N ad F1 (47 + 22 * k) y := fun k hk' => by
    by_cases e : k = nx
    · subst e; exact ⟨y, hk⟩
    · obtain ⟨y, hy⟩ := h5 k hk'
      exact ⟨y, hy.fr (frS k hk' e)⟩
  constructor
  · intro hr ey
    subst ey
    rw [nx2, ct2, if_neg hr, if_neg hr] at hh
    exact ⟨hp, hst, h3.fr (fun j g1 g2 => fr j (by omega)), hh, hsl, ring_push hct hnx hk h6 frS, hin, h8.fr (fun j g1 g2 => fr j (by omega)), rc, re, kd, nm, hrd⟩
  · intro hr
    rw [nx2, ct2, if_pos hr, if_pos hr] at hh
    exact ⟨hp, hst, h3.fr (fun j g1 g2 => fr j (by omega)), hh, hsl, ring_keep hct hnx h6 frS, hin, h8.fr (fun j g1 g2 => fr j (by omega)), rc, re, kd, nm, hrd⟩
end PWS
