/-! read, side by side -/
theorem psF_le {n : Nat} {a : Nat → Int32} : ∀ (f p : Nat), p ≤ n → (psF n a f p).2.1 ≤ n
  | 0, p, h => h
  | f + 1, p, h => by
    have hc := cmR_le (n := n) (a := a) h
    rw [psF]
    split
    · split
      · rename_i c
        exact psF_le f _ (sgN_lt (by decide) c)
      · exact hc
    · exact hc
theorem qBad_0 (q : Nat → Int32) (t : NT) (k : Nat) : qBad q t k 0 = q 0 := by
  unfold qBad
  show (if t.1 = -5 then qRef q t.2.1 t.2.2 else q) 0 = q 0
  split <;> rfl
theorem qBad_1 (q : Nat → Int32) (t : NT) (k : Nat) : qBad q t k 1 = q 1 := by
  unfold qBad
  show (if t.1 = -5 then qRef q t.2.1 t.2.2 else q) 1 = q 1
  split <;> rfl
theorem qBad_4 (q : Nat → Int32) (t : NT) (k : Nat) : qBad q t k 4 = if t.1 = -5 then t.2.1 else nI 0 := by
  unfold qBad
  by_cases c : t.1 = -5
  · rw [if_pos c, if_pos c, if_pos c]
    show (if nI 1 = 0 then nI 0 else qRef q t.2.1 t.2.2 2) = t.2.1
    rw [if_neg (show ¬ nI 1 = 0 by decide)]
    rfl
  · rw [if_neg c, if_neg c, if_neg c]
    show (if nI 0 = 0 then nI 0 else q 2) = nI 0
    rw [if_pos (show nI 0 = 0 by decide)]
theorem qBad_5 (q : Nat → Int32) (t : NT) (k : Nat) (c : t.1 = -5) : qBad q t k 5 = t.2.2 := by
  unfold qBad
  rw [if_pos c, if_pos c]
  show (if nI 1 = 0 then nI 0 else qRef q t.2.1 t.2.2 3) = t.2.2
  rw [if_neg (show ¬ nI 1 = 0 by decide)]
  rfl
section PWS
variable {g : gT} {N : Nat} {ad : Nat → Nat} {F F1 F2 : Nat → va_E} {x sv : SX} {hs : Nat → SX} {ct nx il : Nat} {L : LN} {ia q u : Nat → Int32} {v : Nat → Nat}
theorem pc_read (h : PC g N ad F x sv hs ct nx L il ia q) (hct : ct ≤ 8) (hnx : nx < 9) {r : Int32} {q' : Nat → Int32} {x' y : SX} {rc re : Nat} {kd nm : Nat → Int32} (hp : oP0 g N ad F1 q') (hst : oSt g N ad F1 1 x') (hk : oSt g N ad F1 (47 + 22 * nx) y) (hh : oHist g N ad F1 (nx2 r nx) (ct2 r ct)) (hin : oStrip g N ad F1 245 0 ia) (hrd : oRead g N ad F1 rc re kd nm) (fr : ∀ i, ((22 < i ∧ i < 47 + 22 * nx ∧ i ≠ 45) ∨ (47 + 22 * nx + 21 < i ∧ i < 245) ∨ (246 < i ∧ i < 249) ∨ 253 < i) → F1 i = F i) : (¬ r < 0 → y = x → PC g N ad F1 x' sv (hPush hs ct x) (min 8 (ct + 1)) (nxUp nx) L 0 ia q') ∧ (r < 0 → PC g N ad F1 x' sv hs ct nx L 0 ia q') := by
  obtain ⟨h1, h2, h3, h4, h5, h6, h7, h8, h9⟩ := h
  have frS : ∀ k, k < 9 → k ≠ nx → ∀ j, 47 + 22 * k ≤ j → j ≤ 47 + 22 * k + 21 → F1 j = F j := fun k hk hne j g1 g2 => fr j (by omega)
  have hsl : ∀ k, k < 9 → ∃ y, oSt g N ad F1 (47 + 22 * k) y := fun k hk' => by
    by_cases e : k = nx
    · subst e; exact ⟨y, hk⟩
    · obtain ⟨y, hy⟩ := h5 k hk'
      exact ⟨y, hy.fr (frS k hk' e)⟩
  constructor
  · intro hr ey
    subst ey
    rw [nx2, ct2, if_neg hr, if_neg hr] at hh
    exact ⟨hp, hst, h3.fr (fun j g1 g2 => fr j (by omega)), hh, hsl, ring_push hct hnx hk h6 frS, hin, h8.fr (fun j g1 g2 => fr j (by omega)), rc, re, kd, nm, hrd⟩
  · intro hr
    rw [nx2, ct2, if_pos hr, if_pos hr] at hh
    exact ⟨hp, hst, h3.fr (fun j g1 g2 => fr j (by omega)), hh, hsl, ring_keep hct hnx h6 frS, hin, h8.fr (fun j g1 g2 => fr j (by omega)), rc, re, kd, nm, hrd⟩
theorem pr_read (h : PR g N ad F x sv hs ct L il ia u v) {u' : Nat → Int32} {v' : Nat → Nat} {x' : SX} {hs' : Nat → SX} {c f : Nat} (r1 : oM g N ad F1 u' v') (e2 : v' 2 = v 2) (e3 : v' 3 = 0) (e6 : u' 6 = u 6) (rx : oX g F1 255 x') (ru : oU g F1 hs' f c) (e0 : v' 0 = c) (e1 : v' 1 = f) (hf : f < 8) (rn : ∃ nm', arI g F1 262 4 nm') (rd : ∃ D', arI g F1 258 274 D') (fr : ∀ i, i ≠ 254 → i ≠ 255 → i ≠ 256 → i ≠ 258 → i ≠ 262 → F1 i = F i) : PR g N ad F1 x' sv hs' c L 0 ia u' v' := by
  obtain ⟨h1, h2, h3, ⟨S, h4, h4'⟩, h5, ⟨A, h6⟩, h7, h8, h9, h10, h11, h12, h13⟩ := h
  exact ⟨r1, rx, by rw [e0, e1]; exact ru, ⟨S, h4.fr (fr _ (by omega) (by omega) (by omega) (by omega) (by omega)), fun z => h4' (by rw [e6] at z; exact z)⟩, rd, ⟨A, h6.fr (fr _ (by omega) (by omega) (by omega) (by omega) (by omega))⟩, h7.fr (fr _ (by omega) (by omega) (by omega) (by omega) (by omega)), h8.fr (fr _ (by omega) (by omega) (by omega) (by omega) (by omega)), rn, e0, by rw [e1]; exact hf, by rw [e2]; exact h12, e3⟩
theorem Rq.same {q' u' : Nat → Int32} (h : Rq q u) (e : ∀ i, i < 4 → u' i = u i) (e6 : u' 6 = u 6) (f0 : q' 0 = q 0) (f2 : q' 2 = q 2) (f3 : q' 3 = q 3) (f4 : q' 4 = q 4) (f5 : q' 5 = q 5) (hf : faultM u' = faultF q') : Rq q' u' := by
  obtain ⟨h1, h2, h3, h4, h5, h6⟩ := h
  refine ⟨by rw [e 0 (by omega), f2]; exact h1, fun z => ?_, by rw [e 2 (by omega), f4]; exact h3, fun z => ?_, by rw [e6, f0]; exact h5, hf⟩
  · rw [e 0 (by omega)] at z; rw [e 1 (by omega), f3]; exact h2 z
  · rw [e 2 (by omega)] at z; rw [e 3 (by omega), f5]; exact h4 z
theorem pw_read (hC : PC g N ad F x sv hs ct nx L il ia q) (hR : PR g N ad F x sv hs ct L il ia u v) (hP : PI x sv hs ct nx L il q u) {y : SX} {kd nm : Nat → Int32} {r s : Int32}
    (p : r = (rdF x q (itR il ia kd nm)).1 ∧ oP0 g N ad F1 (rdF x q (itR il ia kd nm)).2.1 ∧ oSt g N ad F1 1 (rdF x q (itR il ia kd nm)).2.2 ∧ oSt g N ad F1 (47 + 22 * nx) (if (itR il ia kd nm).1 = true then x else y) ∧ oHist g N ad F1 (nx2 (rdF x q (itR il ia kd nm)).1 nx) (ct2 (rdF x q (itR il ia kd nm)).1 ct) ∧ oStrip g N ad F1 245 0 ia ∧ oRead g N ad F1 (itR il ia kd nm).2.1 (itR il ia kd nm).2.2.1 (itR il ia kd nm).2.2.2.1 (itR il ia kd nm).2.2.2.2 ∧ ∀ i, ((22 < i ∧ i < 47 + 22 * nx ∧ i ≠ 45) ∨ (47 + 22 * nx + 21 < i ∧ i < 245) ∨ (246 < i ∧ i < 249) ∨ 253 < i) → F1 i = F i)
    (p2 : RdP g N ad F1 u v x hs (psF (v 3) ia 61 0) (dlF (psF (v 3) ia 61 0).2.2 0 x) s F2) : r = s ∧ PW g N ad F2 := by
  obtain ⟨i1, i2, i3, i4, i5, i6, i7, i8, i9, i10⟩ := hP
  have hv0 := hR.2.2.2.2.2.2.2.2.2.1
  have hv1 := hR.2.2.2.2.2.2.2.2.2.2.1
  have hv3 := hR.2.2.2.2.2.2.2.2.2.2.2.2
  rw [hv3] at p2
  obtain ⟨a1, a2, a3, a4, a5, a6, a7, a8⟩ := p
  obtain ⟨k1, k2⟩ := pc_read hC i6 i7 a2 a3 a4 a5 a6 a7 a8
  obtain ⟨⟨u', v', m1, m2, m3, m4, m5, m6⟩, m7, m8, m9⟩ := p2
  have frR : PR g N ad F1 x sv hs ct L il ia u v := hR.fr (fun j hj => a8 j (by omega))
  have frC : ∀ j, j < 254 → F2 j = F1 j := fun j hj => m9 j (by omega) (by omega) (by omega) (by omega) (by omega)
  obtain ⟨z1, z2⟩ := rd_eq (a := ia) (kd := kd) (nm := nm) i9 i1 q
  by_cases hq : (psF il ia 61 0).1 = true
  · obtain ⟨w0, w1, w2⟩ := z2 hq
    obtain ⟨n0, n1, n2⟩ := m6 hq
    by_cases hd : (dlF (psF il ia 61 0).2.2 0 x).1.1 = 0
    · obtain ⟨e1, e2, e3⟩ := w1 hd
      obtain ⟨b1, b2, b3, b4, b5, b6⟩ := n1 hd
      rw [e1] at a1 k1
      have hpos : ¬ nI (dlF (psF il ia 61 0).2.2 0 x).2.1 < 0 := nI_pos (by omega)
      have kp := k1 hpos (by rw [if_pos w0])
      rw [hv0] at b6
      have hf8 : vKeep v 1 < 8 := by
        show (if v 0 = 8 then (v 1 + 1) % 8 else v 1) < 8
        split <;> omega
      have hv00 : vKeep v 0 = min 8 (ct + 1) := by rw [← hv0]; rfl
      rw [hv00] at b6 b3
      refine ⟨a1.trans b1.symm, _, sv, hPush hs ct x, min 8 (ct + 1), nxUp nx, L, 0, ia, q, u', v', kp.fr frC, pr_read frR m1 m2 m3 m4 b5 b6 b3 b4 hf8 m7 m8 m9, e2, fun z => i2 (by rw [m4] at z; exact z), i3, i4, hs_push i1 i5 i6, by omega, by unfold nxUp; split <;> omega, i8, by omega, i10.same b2 m4 rfl rfl rfl rfl rfl ?_⟩
      show (if u' 7 < 0 then (-3 : Int32) else u' 7) = _
      rw [n0]
      exact i10.2.2.2.2.2
    · have e1 := w2 hd
      obtain ⟨b1, b2, b3, b4, b5, b6, b7, b8, b9⟩ := n2 hd
      rw [e1] at a1 k2
      have kp := k2 (show (-5 : Int32) < 0 by decide)
      rw [hv0] at b9 b6
      refine ⟨a1.trans b1.symm, x, sv, hs, ct, nx, L, 0, ia, _, u', v', kp.fr frC, pr_read frR m1 m2 m3 m4 b8 b9 b6 b7 hv1 m7 m8 m9, i1, fun z => i2 (by rw [m4] at z; exact z), i3, i4, i5, i6, i7, i8, by omega, ?_⟩
      refine ⟨b2, fun _ => b3, ?_, fun z => ?_, m4.trans (i10.2.2.2.2.1.trans (qBad_0 q (dlF (psF il ia 61 0).2.2 0 x).1 (dlF (psF il ia 61 0).2.2 0 x).2.1).symm), ?_⟩
      · rw [b4]
        exact (qBad_4 q (dlF (psF il ia 61 0).2.2 0 x).1 (dlF (psF il ia 61 0).2.2 0 x).2.1).symm
      · by_cases c : (dlF (psF il ia 61 0).2.2 0 x).1.1 = -5
        · rw [b5 c]
          exact (qBad_5 q (dlF (psF il ia 61 0).2.2 0 x).1 (dlF (psF il ia 61 0).2.2 0 x).2.1 c).symm
        · rw [b4, if_neg c] at z
          exact absurd rfl z
      · show (if u' 7 < 0 then (-3 : Int32) else u' 7) = _
        rw [n0]
        refine i10.2.2.2.2.2.trans ?_
        show _ = if qBad q (dlF (psF il ia 61 0).2.2 0 x).1 (dlF (psF il ia 61 0).2.2 0 x).2.1 1 = -1 then -3 else qBad q (dlF (psF il ia 61 0).2.2 0 x).1 (dlF (psF il ia 61 0).2.2 0 x).2.1 1
        rw [qBad_1]
        rfl
  · have hqf : (psF il ia 61 0).1 = false := by simpa using hq
    obtain ⟨w0, w1⟩ := z1 hqf
    obtain ⟨b1, b2, b3, b4, b5, b6, b7⟩ := m5 hqf
    rw [w1] at a1 k2
    have kp := k2 (show (-2 : Int32) < 0 by decide)
    rw [hv0] at b7 b4
    have hle := psF_le (n := il) (a := ia) 61 0 (Nat.zero_le _)
    have hge : ¬ nI (psF il ia 61 0).2.1 < 0 := nI_pos (by omega)
    refine ⟨a1.trans b1.symm, x, sv, hs, ct, nx, L, 0, ia, _, u', v', kp.fr frC, pr_read frR m1 m2 m3 m4 b6 b7 b4 b5 hv1 m7 m8 m9, i1, fun z => i2 (by rw [m4] at z; exact z), i3, i4, i5, i6, i7, i8, by omega, i10.same b3 m4 rfl rfl rfl rfl rfl ?_⟩
    show (if u' 7 < 0 then (-3 : Int32) else u' 7) = if nI (psF il ia 61 0).2.1 = -1 then -3 else nI (psF il ia 61 0).2.1
    rw [b2, if_neg hge, if_neg (fun e => hge (by rw [e]; decide))]
end PWS
