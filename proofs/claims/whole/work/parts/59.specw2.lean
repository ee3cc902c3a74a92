/-! the two side by side: the pump's objects, the reference's, and what ties them -/
def PC (g : gT) (N : Nat) (ad : Nat → Nat) (F : Nat → va_E) (x sv : SX) (hs : Nat → SX) (ct nx : Nat) (L : LN) (il : Nat) (ia q : Nat → Int32) : Prop := oP0 g N ad F q ∧ oSt g N ad F 1 x ∧ oSt g N ad F 23 sv ∧ oHist g N ad F nx ct ∧ (∀ k, k < 9 → ∃ y, oSt g N ad F (47 + 22 * k) y) ∧ (∀ i, i < ct → oSt g N ad F (47 + 22 * ((nx + 9 - ct + i) % 9)) (hs i)) ∧ oStrip g N ad F 245 il ia ∧ oStrip g N ad F 247 L.1 L.2 ∧ ∃ (rc re : Nat) (kd nm : Nat → Int32), oRead g N ad F rc re kd nm
def PR (g : gT) (N : Nat) (ad : Nat → Nat) (F : Nat → va_E) (x sv : SX) (hs : Nat → SX) (ct : Nat) (L : LN) (il : Nat) (ia u : Nat → Int32) (v : Nat → Nat) : Prop := oM g N ad F u v ∧ oX g F 255 x ∧ oU g F hs (v 1) (v 0) ∧ (∃ S, arI g F 257 274 S ∧ (u 6 ≠ 0 → RW sv S)) ∧ (∃ D, arI g F 258 274 D) ∧ (∃ A, arI g F 259 274 A) ∧ arC g F 260 60 L.2 ∧ arC g F 261 60 ia ∧ (∃ nm, arI g F 262 4 nm) ∧ v 0 = ct ∧ v 1 < 8 ∧ v 2 = L.1 ∧ v 3 = il
def Rq (q u : Nat → Int32) : Prop := u 0 = q 2 ∧ (u 0 ≠ 0 → u 1 = q 3) ∧ u 2 = q 4 ∧ (u 2 ≠ 0 → u 3 = q 5) ∧ u 6 = q 0 ∧ faultM u = faultF q
def PI (x sv : SX) (hs : Nat → SX) (ct nx : Nat) (L : LN) (il : Nat) (q u : Nat → Int32) : Prop := Iva x ∧ (u 6 ≠ 0 → Iva sv) ∧ sv.1 ≤ 12 ∧ sv.2.2.1 ≤ 64 ∧ (∀ i, i < ct → Iva (hs i)) ∧ ct ≤ 8 ∧ nx < 9 ∧ L.1 ≤ 60 ∧ il ≤ 60 ∧ Rq q u
def PW (g : gT) (N : Nat) (ad : Nat → Nat) (F : Nat → va_E) : Prop := ∃ (x sv : SX) (hs : Nat → SX) (ct nx : Nat) (L : LN) (il : Nat) (ia q u : Nat → Int32) (v : Nat → Nat), PC g N ad F x sv hs ct nx L il ia q ∧ PR g N ad F x sv hs ct L il ia u v ∧ PI x sv hs ct nx L il q u
section PWS
variable {g : gT} {N : Nat} {ad : Nat → Nat} {F F1 F2 : Nat → va_E} {x sv : SX} {hs : Nat → SX} {ct nx il : Nat} {L : LN} {ia q u : Nat → Int32} {v : Nat → Nat}
theorem PC.fr (h : PC g N ad F x sv hs ct nx L il ia q) (e : ∀ j, j < 254 → F1 j = F j) : PC g N ad F1 x sv hs ct nx L il ia q := by
  obtain ⟨h1, h2, h3, h4, h5, h6, h7, h8, rc, re, kd, nm, h9⟩ := h
  refine ⟨h1.fr (e _ (by omega)), h2.fr (fun j g1 g2 => e j (by omega)), h3.fr (fun j g1 g2 => e j (by omega)), h4.fr (fun j g1 g2 => e j (by omega)), fun k hk => ?_, fun i hi => (h6 i hi).fr (fun j g1 g2 => e j (by omega)), h7.fr (fun j g1 g2 => e j (by omega)), h8.fr (fun j g1 g2 => e j (by omega)), rc, re, kd, nm, h9.fr (fun j g1 g2 => e j (by omega))⟩
  obtain ⟨y, hy⟩ := h5 k hk
  exact ⟨y, hy.fr (fun j g1 g2 => e j (by omega))⟩
theorem PR.fr (h : PR g N ad F x sv hs ct L il ia u v) (e : ∀ j, 254 ≤ j → F1 j = F j) : PR g N ad F1 x sv hs ct L il ia u v := by
  obtain ⟨h1, h2, h3, ⟨S, h4, h4'⟩, ⟨D, h5⟩, ⟨A, h6⟩, h7, h8, ⟨nm, h9⟩, h10⟩ := h
  exact ⟨h1.fr (e _ (by omega)), h2.fr (e _ (by omega)), h3.fr (e _ (by omega)), ⟨S, h4.fr (e _ (by omega)), h4'⟩, ⟨D, h5.fr (e _ (by omega))⟩, ⟨A, h6.fr (e _ (by omega))⟩, h7.fr (e _ (by omega)), h8.fr (e _ (by omega)), ⟨nm, h9.fr (e _ (by omega))⟩, h10⟩
/-- the ring of the history, when the state before is kept -/
theorem ring_push (hct : ct ≤ 8) (hnx : nx < 9) {y : SX} (hk : oSt g N ad F1 (47 + 22 * nx) y) (ho : ∀ i, i < ct → oSt g N ad F (47 + 22 * ((nx + 9 - ct + i) % 9)) (hs i)) (fr : ∀ k, k < 9 → k ≠ nx → ∀ j, 47 + 22 * k ≤ j → j ≤ 47 + 22 * k + 21 → F1 j = F j) : ∀ i, i < min 8 (ct + 1) → oSt g N ad F1 (47 + 22 * ((nxUp nx + 9 - min 8 (ct + 1) + i) % 9)) (hPush hs ct y i) := by
  intro i hi
  have hup : nxUp nx = (nx + 1) % 9 := by unfold nxUp; split <;> omega
  by_cases e : i = min ct 7
  · have h1 : hPush hs ct y i = y := by rw [hPush, if_pos e]
    have h2 : (nxUp nx + 9 - min 8 (ct + 1) + i) % 9 = nx := by omega
    rw [h1, h2]
    exact hk
  · by_cases c8 : ct = 8
    · have h1 : hPush hs ct y i = hs (i + 1) := by rw [hPush, if_neg e, if_pos c8]
      have h2 : (nxUp nx + 9 - min 8 (ct + 1) + i) % 9 = (nx + 9 - ct + (i + 1)) % 9 := by omega
      have h3 : (nx + 9 - ct + (i + 1)) % 9 ≠ nx := by omega
      rw [h1, h2]
      exact (ho (i + 1) (by omega)).fr (fr _ (by omega) h3)
    · have h1 : hPush hs ct y i = hs i := by rw [hPush, if_neg e, if_neg c8]
      have h2 : (nxUp nx + 9 - min 8 (ct + 1) + i) % 9 = (nx + 9 - ct + i) % 9 := by omega
      have h3 : (nx + 9 - ct + i) % 9 ≠ nx := by omega
      rw [h1, h2]
      exact (ho i (by omega)).fr (fr _ (by omega) h3)
theorem ring_keep (hct : ct ≤ 8) (hnx : nx < 9) (ho : ∀ i, i < ct → oSt g N ad F (47 + 22 * ((nx + 9 - ct + i) % 9)) (hs i)) (fr : ∀ k, k < 9 → k ≠ nx → ∀ j, 47 + 22 * k ≤ j → j ≤ 47 + 22 * k + 21 → F1 j = F j) : ∀ i, i < ct → oSt g N ad F1 (47 + 22 * ((nx + 9 - ct + i) % 9)) (hs i) := by
  intro i hi
  have h3 : (nx + 9 - ct + i) % 9 ≠ nx := by omega
  exact (ho i (by omega)).fr (fr _ (by omega) h3)
/-- what a change of the class leaves -/
theorem pc_keep (h : PC g N ad F x sv hs ct nx L il ia q) (hct : ct ≤ 8) (hnx : nx < 9) {r : Int32} {q' : Nat → Int32} {x' : SX} (hp : oP0 g N ad F1 q') (hst : oSt g N ad F1 1 x') (hk : oSt g N ad F1 (47 + 22 * nx) x) (hh : oHist g N ad F1 (nx2 r nx) (ct2 r ct)) (fr : ∀ i, ((22 < i ∧ i < 47 + 22 * nx ∧ i ≠ 45) ∨ 47 + 22 * nx + 21 < i) → F1 i = F i) : (¬ r < 0 → PC g N ad F1 x' sv (hPush hs ct x) (min 8 (ct + 1)) (nxUp nx) L il ia q') ∧ (r < 0 → PC g N ad F1 x' sv hs ct nx L il ia q') := by
  obtain ⟨h1, h2, h3, h4, h5, h6, h7, h8, rc, re, kd, nm, h9⟩ := h
  have frS : ∀ k, k < 9 → k ≠ nx → ∀ j, 47 + 22 * k ≤ j → j ≤ 47 + 22 * k + 21 → F1 j = F j := fun k hk hne j g1 g2 => fr j (by omega)
  have hsl : ∀ k, k < 9 → ∃ y, oSt g N ad F1 (47 + 22 * k) y := fun k hk' => by
    by_cases e : k = nx
    · subst e; exact ⟨x, hk⟩
    · obtain ⟨y, hy⟩ := h5 k hk'
      exact ⟨y, hy.fr (frS k hk' e)⟩
  constructor
  · intro hr
    rw [nx2, ct2, if_neg hr, if_neg hr] at hh
    exact ⟨hp, hst, h3.fr (fun j g1 g2 => fr j (by omega)), hh, hsl, ring_push hct hnx hk h6 frS, h7.fr (fun j g1 g2 => fr j (by omega)), h8.fr (fun j g1 g2 => fr j (by omega)), rc, re, kd, nm, h9.fr (fun j g1 g2 => fr j (by omega))⟩
  · intro hr
    rw [nx2, ct2, if_pos hr, if_pos hr] at hh
    exact ⟨hp, hst, h3.fr (fun j g1 g2 => fr j (by omega)), hh, hsl, ring_keep hct hnx h6 frS, h7.fr (fun j g1 g2 => fr j (by omega)), h8.fr (fun j g1 g2 => fr j (by omega)), rc, re, kd, nm, h9.fr (fun j g1 g2 => fr j (by omega))⟩
/-- refusals that the reference finds are below zero -/
def NegT (t : NT) : Prop := t.1 = 0 ∨ t.1 = -1 ∨ t.1 = -2 ∨ t.1 = -5
theorem NegT.neg {t : NT} (h : NegT t) (h0 : t.1 ≠ 0) : t.1 < 0 := by
  rcases h with z | z | z | z
  · exact absurd z h0
  · rw [z]; decide
  · rw [z]; decide
  · rw [z]; decide
def T7 (g : gT) (N : Nat) (ad : Nat → Nat) (F : Nat → va_E) (x sv : SX) (hs : Nat → SX) (ct nx : Nat) (L : LN) (il : Nat) (ia q : Nat → Int32) (t : NT) (x' : SX) (F1 : Nat → va_E) : Prop := (t.1 = 0 → PC g N ad F1 x' sv (hPush hs ct x) (min 8 (ct + 1)) (nxUp nx) L il ia q) ∧ (t.1 ≠ 0 → PC g N ad F1 x sv hs ct nx L il ia (if t.1 = -5 then qRef q t.2.1 t.2.2 else q)) ∧ ∀ i, 254 ≤ i → F1 i = F i
theorem pc_turn (h : PC g N ad F x sv hs ct nx L il ia q) (hct : ct ≤ 8) (hnx : nx < 9) {R : RES} {t : NT} {a : Int32} {x' : SX} (hR : R = turnR q x t a x') (hN : NegT t) (ha : t.1 = 0 → ¬ a < 0) {r : Int32} (post : r = R.1 ∧ oP0 g N ad F1 R.2.1 ∧ oSt g N ad F1 1 R.2.2 ∧ oSt g N ad F1 (47 + 22 * nx) x ∧ oHist g N ad F1 (nx2 R.1 nx) (ct2 R.1 ct) ∧ ∀ i, ((22 < i ∧ i < 47 + 22 * nx ∧ i ≠ 45) ∨ 47 + 22 * nx + 21 < i) → F1 i = F i) : r = (if t.1 = 0 then a else t.1) ∧ T7 g N ad F x sv hs ct nx L il ia q t x' F1 := by
  obtain ⟨p1, p2, p3, p4, p5, p6⟩ := post
  obtain ⟨k1, k2⟩ := pc_keep h hct hnx p2 p3 p4 p5 p6
  have fr : ∀ i, 254 ≤ i → F1 i = F i := fun i hi => p6 i (by omega)
  by_cases e : t.1 = 0
  · have e2 : R = (a, q, x') := by rw [hR, turnR, if_pos e]
    rw [e2] at p1 k1 k2
    exact ⟨by rw [if_pos e]; exact p1, fun _ => k1 (ha e), fun z => absurd e z, fr⟩
  · have e2 : R = (t.1, if t.1 = -5 then qRef q t.2.1 t.2.2 else q, x) := by rw [hR, turnR, if_neg e]
    rw [e2] at p1 k1 k2
    exact ⟨by rw [if_neg e]; exact p1, fun z => absurd z e, fun _ => k2 (hN.neg e), fr⟩
def T8 (g : gT) (N : Nat) (ad : Nat → Nat) (F : Nat → va_E) (x sv : SX) (hs : Nat → SX) (ct : Nat) (L : LN) (il : Nat) (ia u : Nat → Int32) (v : Nat → Nat) (t : NT) (x' : SX) (F1 : Nat → va_E) : Prop := (t.1 = 0 → PR g N ad F1 x' sv (hPush hs ct x) (min 8 (ct + 1)) L il ia u (vKeep v)) ∧ (t.1 ≠ 0 → PR g N ad F1 x sv hs ct L il ia (uAns (uNot u t) t.1) v) ∧ ∀ i, i < 254 → F1 i = F i
theorem uAns_6 {u : Nat → Int32} {t : NT} : uAns (uNot u t) t.1 6 = u 6 := by
  unfold uAns
  split
  · exact uNot_le (by decide) (by decide)
  · exact uNot_le (by decide) (by decide)
theorem pr_turn (h : PR g N ad F x sv hs ct L il ia u v) {t : NT} {a : Int32} {x' : SX} {r : Int32} (post : TurnP g N ad F u v x hs t a x' r F1) : r = (if t.1 = 0 then a else t.1) ∧ T8 g N ad F x sv hs ct L il ia u v t x' F1 := by
  obtain ⟨h1, h2, h3, ⟨S, h4, h4'⟩, h5, ⟨A, h6⟩, h7, h8, ⟨nm, h9⟩, h10, h11, h12, h13⟩ := h
  obtain ⟨p1, p2, p3, p4⟩ := post
  have fr : ∀ i, i < 254 → F1 i = F i := fun i hi => p4 i (by omega) (by omega) (by omega) (by omega)
  by_cases e : t.1 = 0
  · obtain ⟨k1, k2, k3, k4⟩ := p1 e
    refine ⟨by rw [if_pos e]; exact k1, fun _ => ⟨k2, k3, by rw [← h10]; exact k4, ⟨S, h4.fr (p4 _ (by omega) (by omega) (by omega) (by omega)), h4'⟩, p3, ⟨A, h6.fr (p4 _ (by omega) (by omega) (by omega) (by omega))⟩, h7.fr (p4 _ (by omega) (by omega) (by omega) (by omega)), h8.fr (p4 _ (by omega) (by omega) (by omega) (by omega)), ⟨nm, h9.fr (p4 _ (by omega) (by omega) (by omega) (by omega))⟩, by rw [← h10]; rfl, ?_, h12, h13⟩, fun z => absurd e z, fr⟩
    show (if v 0 = 8 then (v 1 + 1) % 8 else v 1) < 8
    split <;> omega
  · obtain ⟨k1, k2, k3, k4⟩ := p2 e
    exact ⟨by rw [if_neg e]; exact k1, fun z => absurd z e, fun _ => ⟨k2, k3, k4, ⟨S, h4.fr (p4 _ (by omega) (by omega) (by omega) (by omega)), fun z => h4' (by rw [uAns_6] at z; exact z)⟩, p3, ⟨A, h6.fr (p4 _ (by omega) (by omega) (by omega) (by omega))⟩, h7.fr (p4 _ (by omega) (by omega) (by omega) (by omega)), h8.fr (p4 _ (by omega) (by omega) (by omega) (by omega)), ⟨nm, h9.fr (p4 _ (by omega) (by omega) (by omega) (by omega))⟩, h10, h11, h12, h13⟩, fr⟩
theorem hs_push (hx : Iva x) (hh : ∀ i, i < ct → Iva (hs i)) (hct : ct ≤ 8) : ∀ i, i < min 8 (ct + 1) → Iva (hPush hs ct x i) := by
  intro i hi
  unfold hPush
  split
  · exact hx
  · split
    · exact hh _ (by omega)
    · exact hh _ (by omega)
theorem Rq.ref (h : Rq q u) (t : NT) : Rq (if t.1 = -5 then qRef q t.2.1 t.2.2 else q) (uAns (uNot u t) t.1) := by
  obtain ⟨h1, h2, h3, h4, h5, h6⟩ := h
  by_cases e : t.1 = -5
  · rw [if_pos e, uAns, if_pos e]
    have e4 : uNot u t 4 = t.2.1 := by rw [uNot, if_pos e]; rfl
    have e5 : uNot u t 5 = t.2.2 := by rw [uNot, if_pos e]; rfl
    have e6 : uNot u t 6 = u 6 := uNot_le (by decide) (by decide)
    have e7 : uNot u t 7 = u 7 := uNot_le (by decide) (by decide)
    exact ⟨e4, fun _ => e5, rfl, fun z => absurd rfl z, e6.trans h5, by
      show (if uNot u t 7 < 0 then (-3 : Int32) else uNot u t 7) = _
      rw [e7]
      exact h6⟩
  · rw [if_neg e, uAns, if_neg e, uNot, if_neg e]
    exact ⟨h1, h2, h3, h4, h5, h6⟩
theorem pw_turn (hP : PI x sv hs ct nx L il q u) {t : NT} {x' : SX} (hx' : t.1 = 0 → Iva x') (h7 : T7 g N ad F x sv hs ct nx L il ia q t x' F1) (h8 : T8 g N ad F1 x sv hs ct L il ia u v t x' F2) : PW g N ad F2 := by
  obtain ⟨i1, i2, i3, i4, i5, i6, i7, i8, i9, i10⟩ := hP
  obtain ⟨a1, a2, a3⟩ := h7
  obtain ⟨b1, b2, b3⟩ := h8
  by_cases e : t.1 = 0
  · exact ⟨x', sv, hPush hs ct x, min 8 (ct + 1), nxUp nx, L, il, ia, q, u, vKeep v, (a1 e).fr b3, b1 e, hx' e, i2, i3, i4, hs_push i1 i5 i6, by omega, by unfold nxUp; split <;> omega, i8, i9, i10⟩
  · exact ⟨x, sv, hs, ct, nx, L, il, ia, _, _, v, (a2 e).fr b3, b2 e, i1, fun z => i2 (by rw [uAns_6] at z; exact z), i3, i4, i5, i6, i7, i8, i9, i10.ref t⟩
end PWS
