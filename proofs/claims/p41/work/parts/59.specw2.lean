/-! the two side by side: the pump's objects, the reference's, and what ties them -/
def PC (g : gT) (N : Nat) (ad : Nat → Nat) (F : Nat → va_E) (x sv : SX) (hs : Nat → SX) (ct nx : Nat) (L : LN) (il : Nat) (ia q : Nat → Int32) : Prop := oP0 g N ad F q ∧ oSt g N ad F 1 x ∧ oSt g N ad F 23 sv ∧ oHist g N ad F nx ct ∧ (∀ k, k < 9 → ∃ y, oSt g N ad F (47 + 22 * k) y) ∧ (∀ i, i < ct → oSt g N ad F (47 + 22 * ((nx + 9 - ct + i) % 9)) (hs i)) ∧ oStrip g N ad F 245 il ia ∧ oStrip g N ad F 247 L.1 L.2 ∧ ∃ (rc re : Nat) (kd nm : Nat → Int32), oRead g N ad F rc re kd nm
section PWS
variable {g : gT} {N : Nat} {ad : Nat → Nat} {F F1 F2 : Nat → va_E} {x sv : SX} {hs : Nat → SX} {ct nx il : Nat} {L : LN} {ia q u : Nat → Int32} {v : Nat → Nat}
theorem PC.fr (h : PC g N ad F x sv hs ct nx L il ia q) (e : ∀ j, j < 254 → F1 j = F j) : PC g N ad F1 x sv hs ct nx L il ia q := by
  obtain ⟨h1, h2, h3, h4, h5, h6, h7, h8, rc, re, kd, nm, h9⟩ := h
  refine ⟨h1.fr (e _ (by omega)), h2.fr (fun j g1 g2 => e j (by omega)), h3.fr (fun j g1 g2 => e j (by omega)), h4.fr (fun j g1 g2 => e j (by omega)), fun k hk => ?_, fun i hi => (h6 i hi).fr (fun j g1 g2 => e j (by omega)), h7.fr (fun j g1 g2 => e j (by omega)), h8.fr (fun j g1 g2 => e j (by omega)), rc, re, kd, nm, h9.fr (fun j g1 g2 => e j (by omega))⟩
  obtain ⟨y, hy⟩ := h5 k hk
  exact ⟨y, hy.fr (fun j g1 g2 => e j (by omega))⟩
/-- the ring of the history, when the state before is kept -/
theorem ring_push (hct : ct ≤ 8) (hnx : nx < 9) {y : SX} (hk : oSt g N ad F1 (47 + 22 * nx) y) (ho : ∀ i, i < ct → oSt g N ad F (47 + 22 * ((nx + 9 - ct + i) % 9)) (hs i)) (fr : ∀ k, k < 9 → k ≠ nx → ∀ j, 47 + 22 * k ≤ j → j ≤ 47 + 22 * k + 21 → F1 j = F j) : ∀ i, i < min 8 (ct + 1) → oSt g N ad F1 (47 + 22 * ((nxUp nx + 9 - min 8 (ct + 1) + i) % 9)) (hPush hs ct y i) := by
  intro i hi
  have hup : nxUp nx = (nx + 1) % 9 := by unfold nxUp; split <;> omega
  by_cases e : i = min ct 7
  · have h1 : hPush hs ct y i = y := by rw [hPush, if_pos e]
    have h2 : (nxUp nx + 9 - min 8 (ct + 1) + i) % 9 = nx := by omega
    rw [h1, h2]
    exact hk
  · by_cases c8 : ct = 8
    · have h1 : hPush hs ct y i = hs (i + 1) := by rw [hPush, if_neg e, if_pos c8]
      have h2 : (nxUp nx + 9 - min 8 (ct + 1) + i) % 9 = (nx + 9 - ct + (i + 1)) % 9 := by omega
      have h3 : (nx + 9 - ct + (i + 1)) % 9 ≠ nx := by omega
      rw [h1, h2]
      exact (ho (i + 1) (by omega)).fr (fr _ (by omega) h3)
    · have h1 : hPush hs ct y i = hs i := by rw [hPush, if_neg e, if_neg c8]
      have h2 : (nxUp nx + 9 - min 8 (ct + 1) + i) % 9 = (nx + 9 - ct + i) % 9 := by omega
      have h3 : (nx + 9 - ct + i) % 9 ≠ nx := by omega
      rw [h1, h2]
      exact (ho i (by omega)).fr (fr _ (by omega) h3)
theorem ring_keep (hct : ct ≤ 8) (hnx : nx < 9) (ho : ∀ i, i < ct → oSt g N ad F (47 + 22 * ((nx + 9 - ct + i) % 9)) (hs i)) (fr : ∀ k, k < 9 → k ≠ nx → ∀ j, 47 + 22 * k ≤ j → j ≤ 47 + 22 * k + 21 → F1 j = F j) : ∀ i, i < ct → oSt g N ad F1 (47 + 22 * ((nx + 9 - ct + i) % 9)) (hs i) := by
  intro i hi
  have h3 : (nx + 9 - ct + i) % 9 ≠ nx := by omega
  exact (ho i (by omega)).fr (fr _ (by omega) h3)
/-- what a change of the class leaves -/
theorem pc_keep (h : PC g N ad F x sv hs ct nx L il ia q) (hct : ct ≤ 8) (hnx : nx < 9) {r : Int32} {q' : Nat → Int32} {x' : SX} (hp : oP0 g N ad F1 q') (hst : oSt g N ad F1 1 x') (hk : oSt g N ad F1 (47 + 22 * nx) x) (hh : oHist g N ad F1 (nx2 r nx) (ct2 r ct)) (fr : ∀ i, ((22 < i ∧ i < 47 + 22 * nx ∧ i ≠ 45) ∨ 47 + 22 * nx + 21 < i) → F1 i = F i) : (¬ r < 0 → PC g N ad F1 x' sv (hPush hs ct x) (min 8 (ct + 1)) (nxUp nx) L il ia q') ∧ (r < 0 → PC g N ad F1 x' sv hs ct nx L il ia q') := by
  obtain ⟨h1, h2, h3, h4, h5, h6, h7, h8, rc, re, kd, nm, h9⟩ := h
  have frS : ∀ k, k < 9 → k ≠ nx → ∀ j, 47 + 22 * k ≤ j → j ≤ 47 + 22 * k + 21 → F1 j = F j := fun k hk hne j g1 g2 => fr j (by omega)
  have hsl : ∀ k, k < 9 → ∃ y, oSt g N ad F1 (47 + 22 * k) y := fun k hk' => by
    by_cases e : k = nx
    · subst e; exact ⟨x, hk⟩
    · obtain ⟨y, hy⟩ := h5 k hk'
      exact ⟨y, hy.fr (frS k hk' e)⟩
  constructor
  · intro hr
    rw [nx2, ct2, if_neg hr, if_neg hr] at hh
    exact ⟨hp, hst, h3.fr (fun j g1 g2 => fr j (by omega)), hh, hsl, ring_push hct hnx hk h6 frS, h7.fr (fun j g1 g2 => fr j (by omega)), h8.fr (fun j g1 g2 => fr j (by omega)), rc, re, kd, nm, h9.fr (fun j g1 g2 => fr j (by omega))⟩
  · intro hr
    rw [nx2, ct2, if_pos hr, if_pos hr] at hh
    exact ⟨hp, hst, h3.fr (fun j g1 g2 => fr j (by omega)), hh, hsl, ring_keep hct hnx h6 frS, h7.fr (fun j g1 g2 => fr j (by omega)), h8.fr (fun j g1 g2 => fr j (by omega)), rc, re, kd, nm, h9.fr (fun j g1 g2 => fr j (by omega))⟩
/-- refusals that the reference finds are below zero -/
def NegT (t : NT) : Prop := t.1 = 0 ∨ t.1 = -1 ∨ t.1 = -2 ∨ t.1 = -5
theorem NegT.neg {t : NT} (h : NegT t) (h0 : t.1 ≠ 0) : t.1 < 0 := by
  rcases h with z | z | z | z
  · exact absurd z h0
  · rw [z]; decide
  · rw [z]; decide
  · rw [z]; decide
def T7 (g : gT) (N : Nat) (ad : Nat → Nat) (F : Nat → va_E) (x sv : SX) (hs : Nat → SX) (ct nx : Nat) (L : LN) (il : Nat) (ia q : Nat → Int32) (t : NT) (x' : SX) (F1 : Nat → va_E) : Prop := (t.1 = 0 → PC g N ad F1 x' sv (hPush hs ct x) (min 8 (ct + 1)) (nxUp nx) L il ia q) ∧ (t.1 ≠ 0 → PC g N ad F1 x sv hs ct nx L il ia (if t.1 = -5 then qRef q t.2.1 t.2.2 else q)) ∧ ∀ i, 254 ≤ i → F1 i = F i
theorem pc_turn (h : PC g N ad F x sv hs ct nx L il ia q) (hct : ct ≤ 8) (hnx : nx < 9) {R : RES} {t : NT} {a : Int32} {x' : SX} (hR : R = turnR q x t a x') (hN : NegT t) (ha : t.1 = 0 → ¬ a < 0) {r : Int32} (post : r = R.1 ∧ oP0 g N ad F1 R.2.1 ∧ oSt g N ad F1 1 R.2.2 ∧ oSt g N ad F1 (47 + 22 * nx) x ∧ oHist g N ad F1 (nx2 R.1 nx) (ct2 R.1 ct) ∧ ∀ i, ((22 < i ∧ i < 47 + 22 * nx ∧ i ≠ 45) ∨ 47 + 22 * nx + 21 < i) → F1 i = F i) : r = (if t.1 = 0 then a else t.1) ∧ T7 g N ad F x sv hs ct nx L il ia q t x' F1 := by
  obtain ⟨p1, p2, p3, p4, p5, p6⟩ := post
  obtain ⟨k1, k2⟩ := pc_keep h hct hnx p2 p3 p4 p5 p6
  have fr : ∀ i, 254 ≤ i → F1 i = F i := fun i hi => p6 i (by omega)
  by_cases e : t.1 = 0
  · have e2 : R = (a, q, x') := by rw [hR, turnR, if_pos e]
    rw [e2] at p1 k1 k2
    exact ⟨by rw [if_pos e]; exact p1, fun _ => k1 (ha e), fun z => absurd e z, fr⟩
  · have e2 : R = (t.1, if t.1 = -5 then qRef q t.2.1 t.2.2 else q, x) := by rw [hR, turnR, if_neg e]
    rw [e2] at p1 k1 k2
    exact ⟨by rw [if_neg e]; exact p1, fun z => absurd z e, fun _ => k2 (hN.neg e), fr⟩
theorem hs_push (hx : Iva x) (hh : ∀ i, i < ct → Iva (hs i)) (hct : ct ≤ 8) : ∀ i, i < min 8 (ct + 1) → Iva (hPush hs ct x i) := by
  intro i hi
  unfold hPush
  split
  · exact hx
  · split
    · exact hh _ (by omega)
    · exact hh _ (by omega)
end PWS
