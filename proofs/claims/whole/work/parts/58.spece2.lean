/-! what a text's commands do: the class's against the reference's -/
theorem runN_le : ∀ (k : Nat) {x : SX}, Inv x → runN k x ≤ 5 * k
  | 0, _, _ => Nat.le_refl 0
  | k + 1, x, h => by
    rw [runN]
    split
    · rename_i c
      have h1 := runN_le k (stroke_ok h c).2
      have h2 : stCnt (strk x) ≤ x.2.2.2.2.2.2.1 (x.2.2.2.2.2.2.2 0) := Nat.min_le_right _ _
      have h3 := h.bk (x.2.2.2.2.2.2.2 0)
      omega
    · omega
theorem ansC_pos {x : SX} (h : Inv x) {so : Int32} {f : Nat → Int32} (hc : (notC x so f).1 = 0) : ¬ ansC x so f < 0 := by
  have hn := h.n
  obtain ⟨hz0, hz1a, hz1, hz2, hz3, hz4⟩ := h.zz
  have hbk := h.bk (cl (f 0))
  unfold notC at hc
  unfold ansC
  split
  · exact nI_pos (by omega)
  · rename_i e0
    rw [if_neg e0] at hc
    split
    · rename_i e1
      rw [if_pos e1] at hc
      obtain ⟨k, hk6, ⟨h1, h2, h3⟩, e⟩ := notPump_ok hc
      rw [e, cl_n (by omega)]
      have := runN_le k h
      exact nI_pos (by omega)
    · split
      · exact nI_pos (by omega)
      · split
        · exact nI_pos (by omega)
        · split
          · exact nI_pos (by omega)
          · split
            · exact nI_pos (by omega)
            · split
              · exact nI_pos (by omega)
              · exact nI_pos (by omega)
theorem dcF_ok {x : SX} {q : Nat → Int32} {kd nm : Nat → Int32} {cm : Nat} {c : CM1} (h : CmdOk kd nm cm c) : dcF x q kd nm cm = turnR q x (notC x c.1 (c1F c)) (ansC x c.1 (fun j => nm (cm * 4 + j))) (doC x c.1 (c1F c)) := by
  obtain ⟨h1, ⟨t, h2, h3, h4⟩, h5⟩ := h
  obtain ⟨e1, e2⟩ := notC_cong (x := x) h1 (f := fun j => nm (cm * 4 + j)) h5
  rw [← e1, ← e2, h4]
  rcases (show t = 0 ∨ t = 1 ∨ t = 2 ∨ t = 3 ∨ t = 4 ∨ t = 5 ∨ t = 6 ∨ t = 7 by omega) with rfl | rfl | rfl | rfl | rfl | rfl | rfl | rfl
  · exact dcF_0 h3
  · exact dcF_1 h3
  · exact dcF_2 h3
  · exact dcF_3 h3
  · exact dcF_4 h3
  · exact dcF_5 h3
  · exact dcF_6 h3
  · exact dcF_7 h3
theorem turnR_iva {q : Nat → Int32} {x : SX} {t : NT} {a : Int32} {x' : SX} (h : Iva x) (h2 : t.1 = 0 → Iva x') : Iva (turnR q x t a x').2.2 := by
  unfold turnR
  split
  · rename_i c; exact h2 c
  · exact h
theorem dcF_iva {x : SX} {q : Nat → Int32} {kd nm : Nat → Int32} {cm : Nat} (h : Iva x) : Iva (dcF x q kd nm cm).2.2 := by
  by_cases e0 : kd cm = nI 0
  · rw [dcF_0 e0]; exact turnR_iva h (fun c => h.doC c)
  by_cases e1 : kd cm = nI 1
  · rw [dcF_1 e1]; exact turnR_iva h (fun c => h.doC c)
  by_cases e2 : kd cm = nI 2
  · rw [dcF_2 e2]; exact turnR_iva h (fun c => h.doC c)
  by_cases e3 : kd cm = nI 3
  · rw [dcF_3 e3]; exact turnR_iva h (fun c => h.doC c)
  by_cases e4 : kd cm = nI 4
  · rw [dcF_4 e4]; exact turnR_iva h (fun c => h.doC c)
  by_cases e5 : kd cm = nI 5
  · rw [dcF_5 e5]; exact turnR_iva h (fun c => h.doC c)
  by_cases e6 : kd cm = nI 6
  · rw [dcF_6 e6]; exact turnR_iva h (fun c => h.doC c)
  by_cases e7 : kd cm = nI 7
  · rw [dcF_7 e7]; exact turnR_iva h (fun c => h.doC c)
  rw [dcF, if_neg e0, if_neg e1, if_neg e2, if_neg e3, if_neg e4, if_neg e5, if_neg e6, if_neg e7]
  exact h
def qBad (q : Nat → Int32) (t : NT) (k : Nat) : Nat → Int32 := qRfC (if t.1 = -5 then qRef q t.2.1 t.2.2 else q) (nI k) (if t.1 = -5 then nI 1 else nI 0)
theorem ds_dl {kd nm : Nat → Int32} {rc : Nat} : ∀ (L : List CM1) (cm : Nat) (x : SX) (q : Nat → Int32), Iva x → (∀ (j : Nat) (hj : j < L.length), CmdOk kd nm (cm + j) L[j]) → cm + L.length = rc → ((dlF L cm x).1.1 = 0 → dsF rc kd nm L.length cm x q = (nI rc, q, (dlF L cm x).2.2) ∧ (dlF L cm x).2.1 = rc ∧ Iva (dlF L cm x).2.2) ∧ ((dlF L cm x).1.1 ≠ 0 → ∃ y, dsF rc kd nm L.length cm x q = (-5, qBad q (dlF L cm x).1 (dlF L cm x).2.1, y))
  | [], cm, x, q, h, _, hrc => ⟨fun _ => ⟨rfl, hrc, h⟩, fun z => absurd rfl z⟩
  | c :: r, cm, x, q, h, hL, hrc => by
    have hc : CmdOk kd nm cm c := hL 0 (by simp)
    have hd := dcF_ok (x := x) (q := q) hc
    by_cases e : (notC x c.1 (c1F c)).1 = 0
    · have hpos : ¬ ansC x c.1 (fun j => nm (cm * 4 + j)) < 0 := by
        have e1 := (notC_cong (x := x) hc.1 (f := fun j => nm (cm * 4 + j)) hc.2.2).1
        exact ansC_pos h.1 (by rw [e1]; exact e)
      have hd2 : dcF x q kd nm cm = (ansC x c.1 (fun j => nm (cm * 4 + j)), q, doC x c.1 (c1F c)) := by rw [hd, turnR, if_pos e]
      have hD : dlF (c :: r) cm x = dlF r (cm + 1) (doC x c.1 (c1F c)) := by rw [dlF, if_pos e]
      have hds : dsF rc kd nm (c :: r).length cm x q = dsF rc kd nm r.length (cm + 1) (doC x c.1 (c1F c)) q := by
        show dsF rc kd nm (r.length + 1) cm x q = _
        rw [dsF, hd2, if_neg hpos]
      rw [hD, hds]
      refine ds_dl r (cm + 1) _ q (h.doC e) (fun j hj => ?_) (by simp only [List.length_cons] at hrc; omega)
      have := hL (j + 1) (by simpa using hj)
      rw [show cm + 1 + j = cm + (j + 1) by omega]
      exact this
    · have hneg : (notC x c.1 (c1F c)).1 < 0 := by
        rcases notC_c (x := x) (so := c.1) (f := c1F c) with z | z | z | z
        · exact absurd z e
        · rw [z]; decide
        · rw [z]; decide
        · rw [z]; decide
      have hd2 : dcF x q kd nm cm = ((notC x c.1 (c1F c)).1, if (notC x c.1 (c1F c)).1 = -5 then qRef q (notC x c.1 (c1F c)).2.1 (notC x c.1 (c1F c)).2.2 else q, x) := by rw [hd, turnR, if_neg e]
      have hD : dlF (c :: r) cm x = (notC x c.1 (c1F c), cm, x) := by rw [dlF, if_neg e]
      rw [hD]
      refine ⟨fun z => absurd z e, fun _ => ⟨x, ?_⟩⟩
      show dsF rc kd nm (r.length + 1) cm x q = _
      rw [dsF, hd2, if_pos hneg]
      rfl
theorem rd_eq {n : Nat} {a kd nm : Nat → Int32} (hn : n ≤ 60) {x : SX} (h : Iva x) (q : Nat → Int32) : ((psF n a 61 0).1 = false → (itR n a kd nm).1 = false ∧ rdF x q (itR n a kd nm) = (-2, qFlt q (nI (psF n a 61 0).2.1), x)) ∧ ((psF n a 61 0).1 = true → (itR n a kd nm).1 = true ∧ ((dlF (psF n a 61 0).2.2 0 x).1.1 = 0 → rdF x q (itR n a kd nm) = (nI (dlF (psF n a 61 0).2.2 0 x).2.1, q, (dlF (psF n a 61 0).2.2 0 x).2.2) ∧ Iva (dlF (psF n a 61 0).2.2 0 x).2.2 ∧ (dlF (psF n a 61 0).2.2 0 x).2.1 ≤ 12) ∧ ((dlF (psF n a 61 0).2.2 0 x).1.1 ≠ 0 → rdF x q (itR n a kd nm) = (-5, qBad q (dlF (psF n a 61 0).2.2 0 x).1 (dlF (psF n a 61 0).2.2 0 x).2.1, x))) := by
  obtain ⟨kd', nm', rc', i1, -, -, i4⟩ := it_ps (a := a) hn 12 61 0 0 kd nm (Nat.zero_le _) (by omega) (by omega) rfl
  have hit : itR n a kd nm = ((psF n a 61 0).1, rc', (psF n a 61 0).2.1, kd', nm') := i1
  have hle := (itF_le n a 12 (0, 0, kd, nm)).1
  rw [i1] at hle
  have hle2 : rc' ≤ 12 := by simpa using hle
  constructor
  · intro z
    rw [hit]
    refine ⟨z, ?_⟩
    rw [rdF, if_neg (by rw [z]; decide)]
  · intro z
    obtain ⟨j1, j2⟩ := i4 z
    rw [Nat.zero_add] at j1
    rw [hit]
    refine ⟨z, fun e => ?_, fun e => ?_⟩
    · obtain ⟨k1, k2, k3⟩ := (ds_dl (kd := kd') (nm := nm') (rc := rc') (psF n a 61 0).2.2 0 x q h (fun j hj => j2 j hj) (by omega)).1 e
      rw [← j1] at k1
      refine ⟨?_, k3, by omega⟩
      rw [rdF, if_pos z]
      show ((dsR x q (rc', (psF n a 61 0).2.1, kd', nm')).1, (dsR x q (rc', (psF n a 61 0).2.1, kd', nm')).2.1, if (dsR x q (rc', (psF n a 61 0).2.1, kd', nm')).1 < 0 then x else (dsR x q (rc', (psF n a 61 0).2.1, kd', nm')).2.2) = _
      have hds : dsR x q (rc', (psF n a 61 0).2.1, kd', nm') = (nI rc', q, (dlF (psF n a 61 0).2.2 0 x).2.2) := k1
      rw [hds, if_neg (nI_pos (by omega)), k2]
    · obtain ⟨y, k1⟩ := (ds_dl (kd := kd') (nm := nm') (rc := rc') (psF n a 61 0).2.2 0 x q h (fun j hj => j2 j hj) (by omega)).2 e
      rw [← j1] at k1
      rw [rdF, if_pos z]
      show ((dsR x q (rc', (psF n a 61 0).2.1, kd', nm')).1, (dsR x q (rc', (psF n a 61 0).2.1, kd', nm')).2.1, if (dsR x q (rc', (psF n a 61 0).2.1, kd', nm')).1 < 0 then x else (dsR x q (rc', (psF n a 61 0).2.1, kd', nm')).2.2) = _
      have hds : dsR x q (rc', (psF n a 61 0).2.1, kd', nm') = (-5, qBad q (dlF (psF n a 61 0).2.2 0 x).1 (dlF (psF n a 61 0).2.2 0 x).2.1, y) := k1
      rw [hds, if_pos (show (-5 : Int32) < 0 by decide)]
