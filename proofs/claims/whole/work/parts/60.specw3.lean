/-! the other calls, side by side -/
section PWS
variable {g : gT} {N : Nat} {ad : Nat → Nat} {F F1 F2 : Nat → va_E} {x sv : SX} {hs : Nat → SX} {ct nx il : Nat} {L : LN} {ia q u : Nat → Int32} {v : Nat → Nat}
theorem pw_look (hC : PC g N ad F x sv hs ct nx L il ia q) (hR : PR g N ad F x sv hs ct L il ia u v) (hP : PI x sv hs ct nx L il q u) (p1 : oX g F1 255 x) (p2 : ∃ A, arI g F1 259 274 A) (p3 : ∀ i, i ≠ 255 → i ≠ 259 → F1 i = F i) : PW g N ad F1 := by
  obtain ⟨h1, h2, h3, ⟨S, h4, h4'⟩, ⟨D, h5⟩, h6, h7, h8, ⟨nm, h9⟩, h10⟩ := hR
  exact ⟨x, sv, hs, ct, nx, L, il, ia, q, u, v, hC.fr (fun j hj => p3 j (by omega) (by omega)), ⟨h1.fr (p3 _ (by omega) (by omega)), p1, h3.fr (p3 _ (by omega) (by omega)), ⟨S, h4.fr (p3 _ (by omega) (by omega)), h4'⟩, ⟨D, h5.fr (p3 _ (by omega) (by omega))⟩, p2, h7.fr (p3 _ (by omega) (by omega)), h8.fr (p3 _ (by omega) (by omega)), ⟨nm, h9.fr (p3 _ (by omega) (by omega))⟩, h10⟩, hP⟩
/-- the line is written anew -/
theorem pw_line (hC : PC g N ad F x sv hs ct nx L il ia q) (hR : PR g N ad F x sv hs ct L il ia u v) (hP : PI x sv hs ct nx L il q u) {L' : LN} (hL : L'.1 ≤ 60) (c1 : oStrip g N ad F1 247 L'.1 L'.2) (c2 : ∀ i, (i < 247 ∨ 248 < i) → F1 i = F i) {v' : Nat → Nat} (r1 : oM g N ad F2 u v') (r2 : arC g F2 260 60 L'.2) (r3 : ∀ i, i ≠ 254 → i ≠ 260 → F2 i = F1 i) (e0 : v' 0 = v 0) (e1 : v' 1 = v 1) (e2 : v' 2 = L'.1) (e3 : v' 3 = v 3) : PW g N ad F2 := by
  obtain ⟨k1, k2, k3, k4, k5, k6, k7, k8, rc, re, kd, nm0, k9⟩ := hC
  obtain ⟨h1, h2, h3, ⟨S, h4, h4'⟩, ⟨D, h5⟩, ⟨A, h6⟩, h7, h8, ⟨nm, h9⟩, h10, h11, h12, h13⟩ := hR
  obtain ⟨i1, i2, i3, i4, i5, i6, i7, i8, i9, i10⟩ := hP
  have e : ∀ i, i ≠ 247 → i ≠ 248 → i ≠ 254 → i ≠ 260 → F2 i = F i := fun i g1 g2 g3 g4 => (r3 i g3 g4).trans (c2 i (by omega))
  refine ⟨x, sv, hs, ct, nx, L', il, ia, q, u, v', ⟨k1.fr (e _ (by omega) (by omega) (by omega) (by omega)), k2.fr (fun j g1 g2 => e j (by omega) (by omega) (by omega) (by omega)), k3.fr (fun j g1 g2 => e j (by omega) (by omega) (by omega) (by omega)), k4.fr (fun j g1 g2 => e j (by omega) (by omega) (by omega) (by omega)), fun k hk => ?_, fun i hi => (k6 i hi).fr (fun j g1 g2 => e j (by omega) (by omega) (by omega) (by omega)), k7.fr (fun j g1 g2 => e j (by omega) (by omega) (by omega) (by omega)), c1.fr (fun j g1 g2 => r3 j (by omega) (by omega)), rc, re, kd, nm0, k9.fr (fun j g1 g2 => e j (by omega) (by omega) (by omega) (by omega))⟩, ⟨r1, h2.fr (e _ (by omega) (by omega) (by omega) (by omega)), by rw [e0, e1]; exact h3.fr (e _ (by omega) (by omega) (by omega) (by omega)), ⟨S, h4.fr (e _ (by omega) (by omega) (by omega) (by omega)), h4'⟩, ⟨D, h5.fr (e _ (by omega) (by omega) (by omega) (by omega))⟩, ⟨A, h6.fr (e _ (by omega) (by omega) (by omega) (by omega))⟩, r2, h8.fr (e _ (by omega) (by omega) (by omega) (by omega)), ⟨nm, h9.fr (e _ (by omega) (by omega) (by omega) (by omega))⟩, by rw [e0]; exact h10, by rw [e1]; exact h11, e2, by rw [e3]; exact h13⟩, i1, i2, i3, i4, i5, i6, i7, hL, i9, i10⟩
  obtain ⟨y, hy⟩ := k5 k hk
  exact ⟨y, hy.fr (fun j g1 g2 => e j (by omega) (by omega) (by omega) (by omega))⟩
theorem lput_1 (l : LN) (c : Int32) : (lput l c).1 = l.1 + 1 := rfl
theorem lnum_l (l : LN) (v : Nat) : (lnum l v).1 ≤ l.1 + 2 := by
  have := dgN_le v
  show l.1 + dgN v ≤ _
  omega
theorem wrF_le (h : Inv x) {k : Nat} (hk : k < 4) : (wrF x k L).1 ≤ 60 := by
  have h1 := wrN_le x (nI k) (cnt (cwP x.2.1 (nI k) (nI 30)) x.1) (lnum (lput (lnum (0, L.2) k) (nI 117)) (x.2.2.2.2.2.2.1 k))
  have h2 := h.w6 k hk
  have h3 := lnum_l (lput (lnum (0, L.2) k) (nI 117)) (x.2.2.2.2.2.2.1 k)
  have h4 := lput_1 (lnum (0, L.2) k) (nI 117)
  have h5 := lnum_l (0, L.2) k
  have h6 : ((0, L.2) : LN).1 = 0 := rfl
  unfold wrF
  omega
theorem wpF_le (z : Nat → Nat) : (wpF L z).1 ≤ 60 := by
  have a1 := lput_1 (0, L.2) (nI 64)
  have a2 := lnum_l (lput (0, L.2) (nI 64)) (z 0)
  have a3 := lput_1 (lnum (lput (0, L.2) (nI 64)) (z 0)) (nI 94)
  have a4 := lnum_l (lput (lnum (lput (0, L.2) (nI 64)) (z 0)) (nI 94)) (z 1)
  have a5 := lput_1 (lnum (lput (lnum (lput (0, L.2) (nI 64)) (z 0)) (nI 94)) (z 1)) (nI 126)
  have a6 := lnum_l (lput (lnum (lput (lnum (lput (0, L.2) (nI 64)) (z 0)) (nI 94)) (z 1)) (nI 126)) (z 2)
  have a7 := lput_1 (lnum (lput (lnum (lput (lnum (lput (0, L.2) (nI 64)) (z 0)) (nI 94)) (z 1)) (nI 126)) (z 2)) (nI 111)
  have a8 := lnum_l (lput (lnum (lput (lnum (lput (lnum (lput (0, L.2) (nI 64)) (z 0)) (nI 94)) (z 1)) (nI 126)) (z 2)) (nI 111)) (z 3)
  have a9 := lput_1 (lnum (lput (lnum (lput (lnum (lput (lnum (lput (0, L.2) (nI 64)) (z 0)) (nI 94)) (z 1)) (nI 126)) (z 2)) (nI 111)) (z 3)) (nI 42)
  have a10 := lnum_l (lput (lnum (lput (lnum (lput (lnum (lput (lnum (lput (0, L.2) (nI 64)) (z 0)) (nI 94)) (z 1)) (nI 126)) (z 2)) (nI 111)) (z 3)) (nI 42)) (z 4)
  have a0 : ((0, L.2) : LN).1 = 0 := rfl
  unfold wpF
  omega
/-- a sign more in the input -/
theorem pw_input (hC : PC g N ad F x sv hs ct nx L il ia q) (hR : PR g N ad F x sv hs ct L il ia u v) (hP : PI x sv hs ct nx L il q u) {il' : Nat} {ia' : Nat → Int32} (hL : il' ≤ 60) (c1 : oStrip g N ad F1 245 il' ia') (c2 : ∀ i, (i < 245 ∨ 246 < i) → F1 i = F i) (r1 : oM g N ad F2 u (vIn v il')) (r2 : arC g F2 261 60 ia') (r3 : ∀ i, i ≠ 254 → i ≠ 261 → F2 i = F1 i) : PW g N ad F2 := by
  obtain ⟨k1, k2, k3, k4, k5, k6, k7, k8, rc, re, kd, nm0, k9⟩ := hC
  obtain ⟨h1, h2, h3, ⟨S, h4, h4'⟩, ⟨D, h5⟩, ⟨A, h6⟩, h7, h8, ⟨nm, h9⟩, h10, h11, h12, h13⟩ := hR
  obtain ⟨i1, i2, i3, i4, i5, i6, i7, i8, i9, i10⟩ := hP
  have e : ∀ i, i ≠ 245 → i ≠ 246 → i ≠ 254 → i ≠ 261 → F2 i = F i := fun i g1 g2 g3 g4 => (r3 i g3 g4).trans (c2 i (by omega))
  refine ⟨x, sv, hs, ct, nx, L, il', ia', q, u, vIn v il', ⟨k1.fr (e _ (by omega) (by omega) (by omega) (by omega)), k2.fr (fun j g1 g2 => e j (by omega) (by omega) (by omega) (by omega)), k3.fr (fun j g1 g2 => e j (by omega) (by omega) (by omega) (by omega)), k4.fr (fun j g1 g2 => e j (by omega) (by omega) (by omega) (by omega)), fun k hk => ?_, fun i hi => (k6 i hi).fr (fun j g1 g2 => e j (by omega) (by omega) (by omega) (by omega)), c1.fr (fun j g1 g2 => r3 j (by omega) (by omega)), k8.fr (fun j g1 g2 => e j (by omega) (by omega) (by omega) (by omega)), rc, re, kd, nm0, k9.fr (fun j g1 g2 => e j (by omega) (by omega) (by omega) (by omega))⟩, ⟨r1, h2.fr (e _ (by omega) (by omega) (by omega) (by omega)), h3.fr (e _ (by omega) (by omega) (by omega) (by omega)), ⟨S, h4.fr (e _ (by omega) (by omega) (by omega) (by omega)), h4'⟩, ⟨D, h5.fr (e _ (by omega) (by omega) (by omega) (by omega))⟩, ⟨A, h6.fr (e _ (by omega) (by omega) (by omega) (by omega))⟩, h7.fr (e _ (by omega) (by omega) (by omega) (by omega)), r2, ⟨nm, h9.fr (e _ (by omega) (by omega) (by omega) (by omega))⟩, h10, h11, h12, rfl⟩, i1, i2, i3, i4, i5, i6, i7, i8, hL, i10⟩
  obtain ⟨y, hy⟩ := k5 k hk
  exact ⟨y, hy.fr (fun j g1 g2 => e j (by omega) (by omega) (by omega) (by omega))⟩
/-- undo -/
theorem nxDn_eq (hnx : nx < 9) : nxDn nx = (nx + 8) % 9 := by unfold nxDn; split <;> omega
theorem undo_slot (hC : PC g N ad F x sv hs ct nx L il ia q) (hct : ct ≤ 8) (hnx : nx < 9) : ∃ y, oSt g N ad F (47 + 22 * nxDn nx) y ∧ (ct ≠ 0 → y = hs (ct - 1)) := by
  rw [nxDn_eq hnx]
  by_cases e : ct = 0
  · obtain ⟨y, hy⟩ := hC.2.2.2.2.1 ((nx + 8) % 9) (by omega)
    exact ⟨y, hy, fun z => absurd e z⟩
  · have h := hC.2.2.2.2.2.1 (ct - 1) (by omega)
    rw [show (nx + 9 - ct + (ct - 1)) % 9 = (nx + 8) % 9 by omega] at h
    exact ⟨_, h, fun _ => rfl⟩
theorem pw_undo (hC : PC g N ad F x sv hs ct nx L il ia q) (hR : PR g N ad F x sv hs ct L il ia u v) (hP : PI x sv hs ct nx L il q u) {y : SX} (hy : ct ≠ 0 → y = hs (ct - 1)) {r s : Int32} (p : r = (if ct = 0 then -3 else nI (ct - 1)) ∧ oP0 g N ad F1 q ∧ oSt g N ad F1 1 (if ct = 0 then x else y) ∧ oHist g N ad F1 (if ct = 0 then nx else nxDn nx) (ct - 1) ∧ ∀ i, ((22 < i ∧ i ≠ 45) ∨ i = 0) → F1 i = F i) (p2 : (v 0 = 0 → s = -3 ∧ F2 = F1) ∧ (v 0 ≠ 0 → s = nI (v 0 - 1) ∧ oM g N ad F2 u (vUn v) ∧ oX g F2 255 (hs (v 0 - 1)) ∧ ∀ i, i ≠ 254 → i ≠ 255 → F2 i = F1 i)) : r = s ∧ PW g N ad F2 := by
  obtain ⟨k1, k2, k3, k4, k5, k6, k7, k8, rc, re, kd, nm0, k9⟩ := hC
  have hR0 := hR
  obtain ⟨h1, h2, h3, ⟨S, h4, h4'⟩, ⟨D, h5⟩, ⟨A, h6⟩, h7, h8, ⟨nm, h9⟩, h10, h11, h12, h13⟩ := hR
  obtain ⟨i1, i2, i3, i4, i5, i6, i7, i8, i9, i10⟩ := hP
  obtain ⟨a1, a2, a3, a4, a5⟩ := p
  have a5' : ∀ i, 22 < i → i ≠ 45 → F1 i = F i := fun i g1 g2 => a5 i (Or.inl ⟨g1, g2⟩)
  by_cases e : ct = 0
  · rw [if_pos e] at a1 a3 a4
    obtain ⟨b1, b2⟩ := p2.1 (by omega)
    subst b2
    have hz : ct - 1 = ct := by omega
    rw [hz] at a4
    refine ⟨a1.trans b1.symm, x, sv, hs, ct, nx, L, il, ia, q, u, v, ⟨a2, a3, k3.fr (fun j g1 g2 => a5' j (by omega) (by omega)), a4, fun k hk => ?_, fun i hi => absurd hi (by omega), k7.fr (fun j g1 g2 => a5' j (by omega) (by omega)), k8.fr (fun j g1 g2 => a5' j (by omega) (by omega)), rc, re, kd, nm0, k9.fr (fun j g1 g2 => a5' j (by omega) (by omega))⟩, hR0.fr (fun j hj => a5' j (by omega) (by omega)), i1, i2, i3, i4, i5, i6, i7, i8, i9, i10⟩
    obtain ⟨y, hy⟩ := k5 k hk
    exact ⟨y, hy.fr (fun j g1 g2 => a5' j (by omega) (by omega))⟩
  · rw [if_neg e] at a1 a3 a4
    obtain ⟨b1, b2, b3, b4⟩ := p2.2 (by omega)
    have ey := hy e
    subst ey
    have hup := nxDn_eq i7
    have eF : ∀ i, 22 < i → i ≠ 45 → i ≠ 254 → i ≠ 255 → F2 i = F i := fun i g1 g2 g3 g4 => (b4 i g3 g4).trans (a5' i g1 g2)
    have e12 : ∀ i, i < 254 → F2 i = F1 i := fun i hi => b4 i (by omega) (by omega)
    refine ⟨by rw [a1, b1, h10], hs (ct - 1), sv, hs, ct - 1, nxDn nx, L, il, ia, q, u, vUn v, ⟨a2.fr (e12 _ (by omega)), a3.fr (fun j g1 g2 => e12 j (by omega)), k3.fr (fun j g1 g2 => eF j (by omega) (by omega) (by omega) (by omega)), a4.fr (fun j g1 g2 => e12 j (by omega)), fun k hk => ?_, fun i hi => ?_, k7.fr (fun j g1 g2 => eF j (by omega) (by omega) (by omega) (by omega)), k8.fr (fun j g1 g2 => eF j (by omega) (by omega) (by omega) (by omega)), rc, re, kd, nm0, k9.fr (fun j g1 g2 => eF j (by omega) (by omega) (by omega) (by omega))⟩, ⟨b2, by rw [← h10]; exact b3, ?_, ⟨S, h4.fr (eF _ (by omega) (by omega) (by omega) (by omega)), h4'⟩, ⟨D, h5.fr (eF _ (by omega) (by omega) (by omega) (by omega))⟩, ⟨A, h6.fr (eF _ (by omega) (by omega) (by omega) (by omega))⟩, h7.fr (eF _ (by omega) (by omega) (by omega) (by omega)), h8.fr (eF _ (by omega) (by omega) (by omega) (by omega)), ⟨nm, h9.fr (eF _ (by omega) (by omega) (by omega) (by omega))⟩, by rw [← h10]; rfl, h11, h12, h13⟩, i5 _ (by omega), i2, i3, i4, fun i hi => i5 i (by omega), by omega, by omega, i8, i9, i10⟩
    · obtain ⟨y, hy⟩ := k5 k hk
      exact ⟨y, hy.fr (fun j g1 g2 => eF j (by omega) (by omega) (by omega) (by omega))⟩
    · have h := k6 i (by omega)
      rw [show (nxDn nx + 9 - (ct - 1) + i) % 9 = (nx + 9 - ct + i) % 9 by omega]
      exact h.fr (fun j g1 g2 => eF j (by omega) (by omega) (by omega) (by omega))
    · obtain ⟨U, u1, u2⟩ := h3
      exact ⟨U, u1.fr (eF _ (by omega) (by omega) (by omega) (by omega)), fun i hi => u2 i (by have : vUn v 0 = v 0 - 1 := rfl; omega)⟩
/-- save -/
theorem pw_save (hC : PC g N ad F x sv hs ct nx L il ia q) (hR : PR g N ad F x sv hs ct L il ia u v) (hP : PI x sv hs ct nx L il q u) {r s : Int32} (p : r = nI x.1 ∧ oP0 g N ad F1 (qSav q) ∧ oSt g N ad F1 1 x ∧ oSt g N ad F1 23 x ∧ ∀ i, 44 < i → F1 i = F i) (p2 : s = nI x.1 ∧ oM g N ad F2 (uSv u) v ∧ oX g F2 257 x ∧ ∀ i, i ≠ 254 → i ≠ 257 → F2 i = F1 i) : r = s ∧ PW g N ad F2 := by
  obtain ⟨k1, k2, k3, k4, k5, k6, k7, k8, rc, re, kd, nm0, k9⟩ := hC
  obtain ⟨h1, h2, h3, -, ⟨D, h5⟩, ⟨A, h6⟩, h7, h8, ⟨nm, h9⟩, h10⟩ := hR
  obtain ⟨i1, i2, i3, i4, i5, i6, i7, i8, i9, j1, j2, j3, j4, j5, j6⟩ := hP
  obtain ⟨a1, a2, a3, a4, a5⟩ := p
  obtain ⟨b1, b2, ⟨S, b3, b3'⟩, b4⟩ := p2
  have e12 : ∀ i, i < 254 → F2 i = F1 i := fun i hi => b4 i (by omega) (by omega)
  have eF : ∀ i, 44 < i → i ≠ 254 → i ≠ 257 → F2 i = F i := fun i g1 g3 g4 => (b4 i g3 g4).trans (a5 i g1)
  refine ⟨a1.trans b1.symm, x, x, hs, ct, nx, L, il, ia, qSav q, uSv u, v, ⟨a2.fr (e12 _ (by omega)), a3.fr (fun j g1 g2 => e12 j (by omega)), a4.fr (fun j g1 g2 => e12 j (by omega)), k4.fr (fun j g1 g2 => eF j (by omega) (by omega) (by omega)), fun k hk => ?_, fun i hi => (k6 i hi).fr (fun j g1 g2 => eF j (by omega) (by omega) (by omega)), k7.fr (fun j g1 g2 => eF j (by omega) (by omega) (by omega)), k8.fr (fun j g1 g2 => eF j (by omega) (by omega) (by omega)), rc, re, kd, nm0, k9.fr (fun j g1 g2 => eF j (by omega) (by omega) (by omega))⟩, ⟨b2, h2.fr (eF _ (by omega) (by omega) (by omega)), h3.fr (eF _ (by omega) (by omega) (by omega)), ⟨S, b3, fun _ => b3'⟩, ⟨D, h5.fr (eF _ (by omega) (by omega) (by omega))⟩, ⟨A, h6.fr (eF _ (by omega) (by omega) (by omega))⟩, h7.fr (eF _ (by omega) (by omega) (by omega)), h8.fr (eF _ (by omega) (by omega) (by omega)), ⟨nm, h9.fr (eF _ (by omega) (by omega) (by omega))⟩, h10⟩, i1, fun _ => i1, i1.1.n, i1.1.tn, i5, i6, i7, i8, i9, j1, j2, j3, j4, rfl, j6⟩
  obtain ⟨y, hy⟩ := k5 k hk
  exact ⟨y, hy.fr (fun j g1 g2 => eF j (by omega) (by omega) (by omega))⟩
/-- restore -/
theorem pw_restore (hC : PC g N ad F x sv hs ct nx L il ia q) (hR : PR g N ad F x sv hs ct L il ia u v) (hP : PI x sv hs ct nx L il q u) {r s : Int32} (p : r = (if q 0 = 0 then -3 else nI sv.1) ∧ oP0 g N ad F1 q ∧ oSt g N ad F1 1 (if q 0 = 0 then x else sv) ∧ oHist g N ad F1 nx (if q 0 = 0 then ct else 0) ∧ ∀ i, ((22 < i ∧ i ≠ 45) ∨ i = 0) → F1 i = F i) (p2 : (u 6 = 0 → s = -3 ∧ F2 = F1) ∧ (u 6 ≠ 0 → s = nI sv.1 ∧ oM g N ad F2 u (vRs v) ∧ oX g F2 255 sv ∧ ∀ i, i ≠ 254 → i ≠ 255 → F2 i = F1 i)) : r = s ∧ PW g N ad F2 := by
  obtain ⟨k1, k2, k3, k4, k5, k6, k7, k8, rc, re, kd, nm0, k9⟩ := hC
  have hR0 := hR
  obtain ⟨h1, h2, h3, ⟨S, h4, h4'⟩, ⟨D, h5⟩, ⟨A, h6⟩, h7, h8, ⟨nm, h9⟩, h10, h11, h12, h13⟩ := hR
  obtain ⟨i1, i2, i3, i4, i5, i6, i7, i8, i9, j1, j2, j3, j4, j5, j6⟩ := hP
  obtain ⟨a1, a2, a3, a4, a5⟩ := p
  have a5' : ∀ i, 22 < i → i ≠ 45 → F1 i = F i := fun i g1 g2 => a5 i (Or.inl ⟨g1, g2⟩)
  by_cases e : q 0 = 0
  · rw [if_pos e] at a1 a3 a4
    obtain ⟨b1, b2⟩ := p2.1 (j5.trans e)
    subst b2
    refine ⟨a1.trans b1.symm, x, sv, hs, ct, nx, L, il, ia, q, u, v, ⟨a2, a3, k3.fr (fun j g1 g2 => a5' j (by omega) (by omega)), a4, fun k hk => ?_, fun i hi => (k6 i hi).fr (fun j g1 g2 => a5' j (by omega) (by omega)), k7.fr (fun j g1 g2 => a5' j (by omega) (by omega)), k8.fr (fun j g1 g2 => a5' j (by omega) (by omega)), rc, re, kd, nm0, k9.fr (fun j g1 g2 => a5' j (by omega) (by omega))⟩, hR0.fr (fun j hj => a5' j (by omega) (by omega)), i1, i2, i3, i4, i5, i6, i7, i8, i9, j1, j2, j3, j4, j5, j6⟩
    obtain ⟨y, hy⟩ := k5 k hk
    exact ⟨y, hy.fr (fun j g1 g2 => a5' j (by omega) (by omega))⟩
  · rw [if_neg e] at a1 a3 a4
    have e6 : u 6 ≠ 0 := fun z => e (j5.symm.trans z)
    obtain ⟨b1, b2, b3, b4⟩ := p2.2 e6
    have eF : ∀ i, 22 < i → i ≠ 45 → i ≠ 254 → i ≠ 255 → F2 i = F i := fun i g1 g2 g3 g4 => (b4 i g3 g4).trans (a5' i g1 g2)
    have e12 : ∀ i, i < 254 → F2 i = F1 i := fun i hi => b4 i (by omega) (by omega)
    refine ⟨a1.trans b1.symm, sv, sv, hs, 0, nx, L, il, ia, q, u, vRs v, ⟨a2.fr (e12 _ (by omega)), a3.fr (fun j g1 g2 => e12 j (by omega)), k3.fr (fun j g1 g2 => eF j (by omega) (by omega) (by omega) (by omega)), a4.fr (fun j g1 g2 => e12 j (by omega)), fun k hk => ?_, fun i hi => absurd hi (Nat.not_lt_zero i), k7.fr (fun j g1 g2 => eF j (by omega) (by omega) (by omega) (by omega)), k8.fr (fun j g1 g2 => eF j (by omega) (by omega) (by omega) (by omega)), rc, re, kd, nm0, k9.fr (fun j g1 g2 => eF j (by omega) (by omega) (by omega) (by omega))⟩, ⟨b2, b3, ?_, ⟨S, h4.fr (eF _ (by omega) (by omega) (by omega) (by omega)), h4'⟩, ⟨D, h5.fr (eF _ (by omega) (by omega) (by omega) (by omega))⟩, ⟨A, h6.fr (eF _ (by omega) (by omega) (by omega) (by omega))⟩, h7.fr (eF _ (by omega) (by omega) (by omega) (by omega)), h8.fr (eF _ (by omega) (by omega) (by omega) (by omega)), ⟨nm, h9.fr (eF _ (by omega) (by omega) (by omega) (by omega))⟩, rfl, (by decide : (0 : Nat) < 8), h12, h13⟩, i2 e6, i2, i3, i4, fun i hi => absurd hi (Nat.not_lt_zero i), by omega, i7, i8, i9, j1, j2, j3, j4, j5, j6⟩
    · obtain ⟨y, hy⟩ := k5 k hk
      exact ⟨y, hy.fr (fun j g1 g2 => eF j (by omega) (by omega) (by omega) (by omega))⟩
    · obtain ⟨U, u1, u2⟩ := h3
      exact ⟨U, u1.fr (eF _ (by omega) (by omega) (by omega) (by omega)), fun i hi => absurd hi (Nat.not_lt_zero i)⟩
end PWS
