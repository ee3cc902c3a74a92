/-! texts: the class's reader against the reference's -/
theorem sg_eq {n p : Nat} {a : Nat → Int32} (hn : n ≤ 60) (hp : p < 1000) : sgAt n a (nI p) = sgN n a p := by rw [sgAt_n (by omega) (by omega), sgN]
theorem dg_y {n p : Nat} {a : Nat → Int32} (hn : n ≤ 60) (hp : p < 1000) (h : isD n a p) : dgF n a p = sgN n a p - nI 48 ∧ ∃ c, c ≤ 9 ∧ sgN n a p - nI 48 = nI c := by
  obtain ⟨h1, h2⟩ := h
  refine ⟨by rw [dgF, sg_eq hn hp, if_neg h1, if_neg h2], ?_⟩
  obtain ⟨c, g1, g2, g3⟩ := inW_of (by decide) (by decide) (show inW (sgN n a p) (nI 48) (nI 57) from ⟨h1, h2⟩)
  rw [g3, pk_sub g1]
  exact ⟨c - 48, by omega, rfl⟩
theorem dg_n {n p : Nat} {a : Nat → Int32} (hn : n ≤ 60) (hp : p < 1000) (h : ¬ isD n a p) : dgF n a p = -1 := by
  rw [dgF, sg_eq hn hp]
  by_cases h1 : sgN n a p < nI 48
  · rw [if_pos h1]
  · rw [if_neg h1]
    by_cases h2 : nI 57 < sgN n a p
    · rw [if_pos h2]
    · exact absurd ⟨h1, h2⟩ h
theorem dg_1 {n p : Nat} {a : Nat → Int32} (hn : n ≤ 60) (hp : p < 1000) : dgF n a p = -1 ↔ ¬ isD n a p := by
  constructor
  · intro e h
    obtain ⟨h1, c, h2, h3⟩ := dg_y hn hp h
    rw [h1, h3] at e
    exact absurd (show nI c < 0 by rw [e]; decide) (nI_pos (by omega))
  · exact dg_n hn hp
theorem tk_0 {n p pl rc : Nat} {a nm : Nat → Int32} (hn : n ≤ 60) (hp : p < 900) : tkF n a p (nI 0) pl rc nm = if isD n a p then (1, rowPut 48 nm (rc * 4 + pl) (sgN n a p - nI 48)) else (0, nm) := by
  rw [tkF]
  by_cases h : isD n a p
  · rw [if_neg (fun e => (dg_1 hn (by omega)).mp e h), if_pos (show nI 0 = 0 by decide), if_pos h, (dg_y hn (by omega) h).1]
  · rw [if_pos (dg_n hn (by omega) h), if_neg h]
theorem i32_ring (x y : Int32) : x * nI 10 + (y - nI 48) = nI 10 * x + y - nI 48 := by
  rw [Int32.mul_comm x (nI 10), Int32.sub_eq_add_neg, Int32.sub_eq_add_neg, Int32.add_assoc]
theorem tk_1 {n p pl rc : Nat} {a nm : Nat → Int32} (hn : n ≤ 60) (hp : p < 900) : tkF n a p (nI 1) pl rc nm = if tkL n a p ≠ 0 then (tkL n a p, rowPut 48 nm (rc * 4 + pl) (tkV n a p)) else (0, nm) := by
  rw [tkF]
  by_cases h : isD n a p
  · have hd := dg_y hn (by omega) h
    rw [if_neg (fun e => (dg_1 hn (by omega)).mp e h), if_neg (show ¬ nI 1 = 0 by decide)]
    by_cases h2 : isD n a (p + 1)
    · have hd2 := dg_y hn (by omega) h2
      have e1 : tkL n a p = 2 := by rw [tkL, if_pos h, if_pos h2]
      rw [if_neg (fun e => (dg_1 hn (by omega)).mp e h2), e1, if_pos (by decide), tkV, if_pos h2, hd.1, hd2.1, i32_ring]
    · have e1 : tkL n a p = 1 := by rw [tkL, if_pos h, if_neg h2]
      rw [if_pos (dg_n hn (by omega) h2), e1, if_pos (by decide), tkV, if_neg h2, hd.1]
  · have e1 : tkL n a p = 0 := by rw [tkL, if_neg h]
    rw [if_pos (dg_n hn (by omega) h), e1, if_neg (fun z => z rfl)]
def nmC (nm : Nat → Int32) : Nat → List Int32 → Nat → Int32
  | _, [] => nm
  | k, v :: r => nmC (rowPut 48 nm k v) (k + 1) r
theorem nmC_lt {vs : List Int32} : ∀ {nm : Nat → Int32} {k i : Nat}, i < k → nmC nm k vs i = nm i := by
  induction vs with
  | nil => intro nm k i _; rfl
  | cons v r ih =>
    intro nm k i h
    rw [nmC, ih (by omega), rowPut]
    split
    · exact upd_ne (by omega)
    · rfl
theorem nmC_get {vs : List Int32} : ∀ {nm : Nat → Int32} {k j : Nat}, j < vs.length → k + vs.length ≤ 48 → nmC nm k vs (k + j) = vs.getD j 0 := by
  induction vs with
  | nil => intro nm k j h; exact absurd h (Nat.not_lt_zero _)
  | cons v r ih =>
    intro nm k j h hk
    have hk' : k + (r.length + 1) ≤ 48 := hk
    rcases j with _ | j
    · show nmC (rowPut 48 nm k v) (k + 1) r (k + 0) = v
      rw [nmC_lt (by omega), rowPut_in (by omega)]
      exact upd_eq (by omega)
    · have h' : j < r.length := by simpa using h
      rw [nmC, show k + (j + 1) = (k + 1) + j by omega, ih h' (by omega)]; rfl
/-- the forms' signs -/
def fmL (t : Nat) : List Nat := [[106, 111, 107, 101, 32, 35, 32, 37, 32, 37, 32, 35], [112, 114, 105, 109, 101, 32, 37], [100, 114, 111, 112, 32, 37], [100, 114, 97, 105, 110, 32, 37], [115, 116, 114, 111, 107, 101, 32, 37], [98, 117, 99, 107, 101, 116, 32, 35, 32, 35], [103, 111, 32, 35], [112, 117, 109, 112, 32, 35]].getD t []
theorem fm_len : ∀ t, t < 8 → (fmL t).length = sxN t ∧ sxN t ≤ 12 ∧ 4 ≤ sxN t := by decide
theorem fm_chr : ∀ t, t < 8 → ∀ k, k < sxN t → sxB t k = nI ((fmL t).getD k 0) ∧ (fmL t).getD k 0 < 1000 := by decide +kernel
theorem fl_eq {n : Nat} {a : Nat → Int32} (hn : n ≤ 60) {t rc : Nat} (ht : t < 8) : ∀ (f k p pl : Nat) (nm : Nat → Int32), k + f = sxN t → p + 2 * f < 900 → flF t n a rc f k p pl nm = ((mt n a ((fmL t).drop k) p).1, (mt n a ((fmL t).drop k) p).2.1, nmC nm (rc * 4 + pl) (mt n a ((fmL t).drop k) p).2.2)
  | 0, k, p, pl, nm, hk, _ => by
    have := (fm_len t ht).1
    rw [flF, List.drop_of_length_le (by omega)]
    rfl
  | f + 1, k, p, pl, nm, hk, hp => by
    have hl := (fm_len t ht).1
    have hlt : k < (fmL t).length := by omega
    obtain ⟨hc, hc2⟩ := fm_chr t ht k (by omega)
    have hg : (fmL t).getD k 0 = (fmL t)[k] := by rw [List.getD_eq_getElem?_getD, List.getElem?_eq_getElem hlt]; rfl
    rw [hg] at hc hc2
    rw [List.drop_eq_getElem_cons hlt, flF, hc, mt]
    by_cases c1 : (fmL t)[k] = 35
    · rw [if_pos (by rw [c1]), if_pos c1, tk_0 hn (by omega)]
      by_cases d : isD n a p
      · rw [if_pos d, if_pos d]
        rw [if_neg (show ¬ (1, rowPut 48 nm (rc * 4 + pl) (sgN n a p - nI 48)).1 = 0 by show ¬ 1 = 0; decide)]
        rw [fl_eq hn ht f (k + 1) (p + 1) (pl + 1) _ (by omega) (by omega)]
        rfl
      · rw [if_neg d, if_neg d]
        rfl
    · have e1 : ¬ nI (fmL t)[k] = nI 35 := fun z => c1 (nI_inj (by omega) (by decide) z)
      rw [if_neg e1, if_neg c1]
      by_cases c2 : (fmL t)[k] = 37
      · rw [if_pos (by rw [c2]), if_pos c2, tk_1 hn (by omega)]
        by_cases d : tkL n a p ≠ 0
        · rw [if_pos d, if_pos d]
          have h2 : tkL n a p ≤ 2 := by unfold tkL; split <;> (try split) <;> omega
          rw [if_neg (show ¬ (tkL n a p, rowPut 48 nm (rc * 4 + pl) (tkV n a p)).1 = 0 from d)]
          rw [fl_eq hn ht f (k + 1) (p + tkL n a p) (pl + 1) _ (by omega) (by omega)]
          rfl
        · rw [if_neg d, if_neg d]
          rfl
      · have e2 : ¬ nI (fmL t)[k] = nI 37 := fun z => c2 (nI_inj (by omega) (by decide) z)
        rw [if_neg e2, if_neg c2, sg_eq hn (by omega)]
        by_cases d : sgN n a p = nI (fmL t)[k]
        · rw [if_pos d, if_pos d]
          exact fl_eq hn ht f (k + 1) (p + 1) pl nm (by omega) (by omega)
        · rw [if_neg d, if_neg d]
          rfl
abbrev mT (n : Nat) (a : Nat → Int32) (st t : Nat) : MT := mt n a (fmL t) st
theorem flR_eq {n : Nat} {a : Nat → Int32} (hn : n ≤ 60) {t rc st : Nat} (ht : t < 8) (hs : st ≤ 476) (nm : Nat → Int32) : flR t n a st rc nm = ((mT n a st t).1, (mT n a st t).2.1, nmC nm (rc * 4) (mT n a st t).2.2) := by
  have h2 := (fm_len t ht).2.1
  unfold flR
  rw [fl_eq hn ht (sxN t) 0 st 0 nm (by omega) (by omega)]
  rfl
/-- no form fits -/
def mxF (n : Nat) (a : Nat → Int32) (st : Nat) : Nat → Nat → Nat → Nat
  | 0, _, re => re
  | f + 1, t, re => mxF n a st f (t + 1) (max re (mT n a st t).2.1)
theorem mxF_eq {n : Nat} {a : Nat → Int32} {st e : Nat} : ∀ (f t re : Nat), (∀ i, t ≤ i → i < t + f → (mT n a st i).2.1 ≤ e) → re ≤ e → (re = e ∨ ∃ i, t ≤ i ∧ i < t + f ∧ (mT n a st i).2.1 = e) → mxF n a st f t re = e
  | 0, t, re, _, _, h => by
    rcases h with h | ⟨i, h1, h2, _⟩
    · exact h
    · omega
  | f + 1, t, re, h1, h2, h3 => by
    rw [mxF]
    have ht := h1 t (Nat.le_refl _) (by omega)
    refine mxF_eq f (t + 1) _ (fun i g1 g2 => h1 i (by omega) (by omega)) (by omega) ?_
    rcases h3 with h3 | ⟨i, g1, g2, g3⟩
    · exact Or.inl (by omega)
    · by_cases e0 : i = t
      · subst e0; exact Or.inl (by omega)
      · exact Or.inr ⟨i, by omega, by omega, g3⟩
theorem tc_no {n : Nat} {a : Nat → Int32} (hn : n ≤ 60) {st rc : Nat} (hs : st ≤ 476) {kd : Nat → Int32} : ∀ (f t re : Nat) (nm : Nat → Int32), f + t = 8 → (∀ i, t ≤ i → i < 8 → (mT n a st i).1 = false) → ∃ nm', tcF n a st rc kd f t re nm = (false, rc, mxF n a st f t re, kd, nm') ∧ ∀ i, i < rc * 4 → nm' i = nm i
  | 0, t, re, nm, _, _ => ⟨nm, rfl, fun _ _ => rfl⟩
  | f + 1, t, re, nm, ht, h => by
    have h0 := h t (Nat.le_refl _) (by omega)
    rw [tcF, flR_eq hn (by omega) hs, if_neg (by rw [h0]; decide)]
    obtain ⟨nm', g1, g2⟩ := tc_no hn hs (kd := kd) f (t + 1) (max re (mT n a st t).2.1) (nmC nm (rc * 4) (mT n a st t).2.2) (by omega) (fun i g1 g2 => h i (by omega) g2)
    exact ⟨nm', g1, fun i hi => (g2 i hi).trans (nmC_lt hi)⟩
theorem tc_yes {n : Nat} {a : Nat → Int32} (hn : n ≤ 60) {st rc t0 : Nat} (hs : st ≤ 476) (h8 : t0 < 8) {kd : Nat → Int32} (hy : (mT n a st t0).1 = true) : ∀ (f t re : Nat) (nm : Nat → Int32), f + t = 8 → t ≤ t0 → (∀ i, t ≤ i → i < t0 → (mT n a st i).1 = false) → ∃ nm1, tcF n a st rc kd f t re nm = (true, rc + 1, (mT n a st t0).2.1, rowPut 12 kd rc (nI t0), nmC nm1 (rc * 4) (mT n a st t0).2.2) ∧ ∀ i, i < rc * 4 → nm1 i = nm i
  | 0, t, re, nm, ht, hle, _ => by omega
  | f + 1, t, re, nm, ht, hle, h => by
    rw [tcF, flR_eq hn (by omega) hs]
    by_cases e : t = t0
    · subst e
      rw [if_pos hy]
      exact ⟨nm, rfl, fun _ _ => rfl⟩
    · have h0 := h t (Nat.le_refl _) (by omega)
      rw [if_neg (by rw [h0]; decide)]
      obtain ⟨nm1, g1, g2⟩ := tc_yes hn hs h8 (kd := kd) hy f (t + 1) (max re (mT n a st t).2.1) (nmC nm (rc * 4) (mT n a st t).2.2) (by omega) (by omega) (fun i g1 g2 => h i (by omega) g2)
      exact ⟨nm1, g1, fun i hi => (g2 i hi).trans (nmC_lt hi)⟩
theorem mt_long {n : Nat} {a : Nat → Int32} : ∀ (L : List Nat) {p : Nat}, (mt n a L p).1 = true → p + L.length ≤ (mt n a L p).2.1
  | [], p, _ => Nat.le_refl _
  | k :: r, p, h => by
    rw [mt] at h ⊢
    by_cases e : k = 35
    · rw [if_pos e] at h ⊢
      split at h
      · rename_i c
        rw [if_pos c]
        have := mt_long r h
        show p + (r.length + 1) ≤ (mt n a r (p + 1)).2.1
        omega
      · exact absurd h (show ¬ (false = true) by decide)
    · rw [if_neg e] at h ⊢
      by_cases e2 : k = 37
      · rw [if_pos e2] at h ⊢
        split at h
        · rename_i c
          rw [if_pos c]
          have := mt_long r h
          show p + (r.length + 1) ≤ (mt n a r (p + tkL n a p)).2.1
          omega
        · exact absurd h (show ¬ (false = true) by decide)
      · rw [if_neg e2] at h ⊢
        split at h
        · rename_i c
          rw [if_pos c]
          have := mt_long r h
          show p + (r.length + 1) ≤ (mt n a r (p + 1)).2.1
          omega
        · exact absurd h (show ¬ (false = true) by decide)
