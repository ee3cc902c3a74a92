/-! what strokes add to what is told -/
def ExtT (x y : SX) (k : Nat) : Prop := y.2.2.1 = x.2.2.1 + k ∧ y.2.2.2.2.2.2.2 0 = x.2.2.2.2.2.2.2 0 ∧ (∀ i, i < x.2.2.1 → y.2.2.2.2.2.1 i = x.2.2.2.2.2.1 i ∧ y.2.2.2.2.1 0 i = x.2.2.2.2.1 0 i ∧ y.2.2.2.2.1 1 i = x.2.2.2.2.1 1 i) ∧ (∀ s, x.2.2.2.2.1 2 s = nI 1 → y.2.2.2.2.1 2 s = nI 1) ∧ ∀ i, x.2.2.1 ≤ i → i < y.2.2.1 → y.2.2.2.2.1 1 i = nI (x.2.2.2.2.2.2.2 0) ∧ ∃ sg, sg < 64 ∧ y.2.2.2.2.1 0 i = nI sg ∧ y.2.2.2.2.1 2 sg = nI 1
theorem ExtT.rf (x : SX) : ExtT x x 0 := ⟨rfl, rfl, fun i _ => ⟨rfl, rfl, rfl⟩, fun s h => h, fun i h1 h2 => absurd h2 (by omega)⟩
theorem ExtT.tr {x y z : SX} {a b : Nat} (h : ExtT x y a) (g : ExtT y z b) : ExtT x z (a + b) := by
  obtain ⟨h1, h2, h3, h4, h5⟩ := h
  obtain ⟨g1, g2, g3, g4, g5⟩ := g
  refine ⟨by omega, g2.trans h2, fun i hi => ?_, fun s hs => g4 s (h4 s hs), fun i i1 i2 => ?_⟩
  · obtain ⟨a1, a2, a3⟩ := h3 i hi
    obtain ⟨b1, b2, b3⟩ := g3 i (by omega)
    exact ⟨b1.trans a1, b2.trans a2, b3.trans a3⟩
  · rcases Nat.lt_or_ge i y.2.2.1 with c | c
    · obtain ⟨b1, b2, b3⟩ := g3 i c
      obtain ⟨e1, sg, e2, e3, e4⟩ := h5 i i1 c
      exact ⟨b3.trans e1, sg, e2, b2.trans e3, g4 sg e4⟩
    · obtain ⟨e1, e2⟩ := g5 i c i2
      rw [h2] at e1
      exact ⟨e1, e2⟩
theorem ext_lift1 {x : SX} {k sg : Nat} (ho : liftOk x k sg) (hw : x.2.1 0 k = nI (x.2.2.2.2.2.2.2 0)) : ExtT x (lift1 x k sg) 1 := by
  obtain ⟨h1, h2, h3, h4, h5, h6⟩ := ho
  have et : ∀ q i, (lift1 x k sg).2.2.2.2.1 q i = tAdd x.2.2.2.2.1 x.2.2.1 sg (x.2.1 0 k) q i := fun q i => rfl
  have el : ∀ i, (lift1 x k sg).2.2.2.2.2.1 i = vf_upd x.2.2.2.2.2.1 x.2.2.1 (lfO (x.2.1 3 k) (x.2.1 4 k) (nI (x.2.2.2.2.2.2.2 3))) i := fun i => rfl
  have t0 : ∀ i, tAdd x.2.2.2.2.1 x.2.2.1 sg (x.2.1 0 k) 0 i = upd (x.2.2.2.2.1 0) x.2.2.1 (nI sg) i := fun i => by
    show rowPut 64 (x.2.2.2.2.1 0) x.2.2.1 (nI sg) i = _
    rw [rowPut_in h3]
  have t1 : ∀ i, tAdd x.2.2.2.2.1 x.2.2.1 sg (x.2.1 0 k) 1 i = upd (x.2.2.2.2.1 1) x.2.2.1 (x.2.1 0 k) i := fun i => by
    show rowPut 64 (x.2.2.2.2.1 1) x.2.2.1 (x.2.1 0 k) i = _
    rw [rowPut_in h3]
  have t2 : ∀ i, tAdd x.2.2.2.2.1 x.2.2.1 sg (x.2.1 0 k) 2 i = upd (x.2.2.2.2.1 2) sg (nI 1) i := fun i => by
    show rowPut 64 (x.2.2.2.2.1 2) sg (nI 1) i = _
    rw [rowPut_in h5]
  refine ⟨rfl, rfl, fun i hi => ⟨?_, ?_, ?_⟩, fun s hs => ?_, fun i i1 i2 => ?_⟩
  · rw [el, vf_upd, if_neg (by omega)]
  · rw [et, t0, upd, if_neg (by omega)]
  · rw [et, t1, upd, if_neg (by omega)]
  · rw [et, t2, upd]
    split
    · rfl
    · exact hs
  · have e : i = x.2.2.1 := by
      have i2' : i < x.2.2.1 + 1 := i2
      omega
    subst e
    refine ⟨?_, sg, h5, ?_, ?_⟩
    · rw [et, t1, upd, if_pos rfl, hw]
    · rw [et, t0, upd, if_pos rfl]
    · rw [et, t2, upd, if_pos rfl]
theorem ext_lifts : ∀ (c : Nat) {x : SX}, Inv x → c ≤ stW x → ExtT x (liftsF c x) c
  | 0, x, _, _ => ExtT.rf x
  | c + 1, x, h, hc => by
    obtain ⟨k, sg, g1, g2, g3, g4, g5, g6⟩ := lift_step h (by omega)
    have hn := h.n
    have hw : x.2.1 0 k = nI (x.2.2.2.2.2.2.2 0) := by
      have hk := g1.1
      rw [ixO] at g2
      split at g2
      · rename_i q
        have e := nI_inj (by omega) (by omega) g2
        have hy := (fnd_yes q).1
        rw [e] at hy
        simp only [bdP, decide_eq_true_eq] at hy
        exact hy.1
      · exact absurd (show nI k < 0 by rw [← g2]; decide) (nI_pos (by omega))
    have ih := ext_lifts c (x := lift1 x k sg) g4 (by omega)
    rw [liftsF, g3]
    have e := (ext_lift1 g1 hw).tr ih
    rw [Nat.add_comm 1 c] at e
    exact e
theorem ext_stroke {x : SX} (h : Inv x) (h4 : x.2.2.2.2.2.2.2 3 ≤ 40) : ExtT x (strokeF x) (stCnt (strk x)) := by
  have e0 : ExtT x (strk x) 0 := ⟨rfl, rfl, fun i _ => ⟨rfl, rfl, rfl⟩, fun s h => h, fun i h1 h2 => absurd h2 (by show ¬ i < x.2.2.1; omega)⟩
  have e := e0.tr (ext_lifts (stCnt (strk x)) (h.strk h4) (Nat.min_le_left _ _))
  rw [Nat.zero_add] at e
  exact e
theorem ext_run : ∀ (k : Nat) {x : SX}, Inv x → ExtT x (runX k x) (runN k x)
  | 0, x, _ => ExtT.rf x
  | k + 1, x, h => by
    rw [runX, runN]
    by_cases c : x.2.2.2.2.2.2.2 3 ≤ 40
    · rw [if_pos c, if_pos c]
      exact (ext_stroke h c).tr (ext_run k (stroke_ok h c).2)
    · rw [if_neg c, if_neg c]
      exact ExtT.rf x
theorem run_cnt : ∀ (k : Nat) {x : SX}, Inv x → cnt (cwP (runX k x).2.1 (nI (x.2.2.2.2.2.2.2 0)) (nI 30)) (runX k x).1 + runN k x = cnt (cwP x.2.1 (nI (x.2.2.2.2.2.2.2 0)) (nI 30)) x.1
  | 0, x, _ => rfl
  | k + 1, x, h => by
    rw [runX, runN]
    by_cases c : x.2.2.2.2.2.2.2 3 ≤ 40
    · rw [if_pos c, if_pos c]
      have hs := h.strk c
      have hz := hs.zz
      have h1 := lifts_cnt (stCnt (strk x)) hs (Nat.min_le_left _ _) 30 hz.2.2.2.1 (Nat.le_refl 30)
      have h1' : cnt (cwP (strokeF x).2.1 (nI (x.2.2.2.2.2.2.2 0)) (nI 30)) (strokeF x).1 + stCnt (strk x) = cnt (cwP x.2.1 (nI (x.2.2.2.2.2.2.2 0)) (nI 30)) x.1 := h1
      have h2 := run_cnt k (stroke_ok h c).2
      rw [(ext_stroke h c).2.1] at h2
      omega
    · rw [if_neg c, if_neg c]
      rfl
theorem runN_no {k : Nat} {x : SX} (c : ¬ x.2.2.2.2.2.2.2 3 ≤ 40) : runN k x = 0 := by
  cases k with
  | zero => rfl
  | succ k => rw [runN, if_neg c]
/-! the best stroke -/
theorem bs_in (x : SX) (dp : Int32) : ∀ i, 1 ≤ bsN x dp i ∧ bsN x dp i ≤ i + 1
  | 0 => ⟨Nat.le_refl 1, Nat.le_refl 1⟩
  | i + 1 => by
    have h := bs_in x dp i
    rw [bsN]
    split <;> omega
theorem bs_best (x : SX) (dp : Int32) : ∀ i len, 1 ≤ len → len ≤ i + 1 → grTo x dp (bsN x dp i) ≤ grTo x dp len ∧ (grTo x dp len = grTo x dp (bsN x dp i) → bsN x dp i ≤ len)
  | 0, len, h1, h2 => by
    have e : len = 1 := by omega
    subst e
    exact ⟨Nat.le_refl _, fun _ => Nat.le_refl _⟩
  | i + 1, len, h1, h2 => by
    have h := bs_best x dp i
    have hi := bs_in x dp i
    rw [bsN]
    split
    · rename_i c
      rcases Nat.lt_or_ge len (i + 2) with q | q
      · have h3 := (h len h1 (by omega)).1
        exact ⟨by omega, fun e => by omega⟩
      · have e : len = i + 2 := by omega
        subst e
        exact ⟨Nat.le_refl _, fun _ => Nat.le_refl _⟩
    · rename_i c
      rcases Nat.lt_or_ge len (i + 2) with q | q
      · exact h len h1 (by omega)
      · have e : len = i + 2 := by omega
        subst e
        exact ⟨by omega, fun e => by omega⟩
/-- the first joke of the pump's well and the best stroke -/
theorem best_at {x : SX} (h : Inv x) : (ixO (bdP x.2.1 x.1 (nI (x.2.2.2.2.2.2.2 0)) (nI 0)) x.1 = -1 ∧ bestF x = -6) ∨ ∃ a d, a < x.1 ∧ d ≤ 30 ∧ ixO (bdP x.2.1 x.1 (nI (x.2.2.2.2.2.2.2 0)) (nI 0)) x.1 = nI a ∧ x.2.1 1 a = nI d ∧ bestF x = nI (bsN x (nI d) 9) := by
  have hn := h.n
  by_cases c : cnt (cwP x.2.1 (nI (x.2.2.2.2.2.2.2 0)) (nI 30)) x.1 = 0
  · refine Or.inl ⟨ixO_no (fun k hk => ?_), by rw [bestF, if_pos c]⟩
    cases e : bdP x.2.1 x.1 (nI (x.2.2.2.2.2.2.2 0)) (nI 0) k with
    | false => rfl
    | true =>
      exfalso
      simp only [bdP, decide_eq_true_eq] at e
      obtain ⟨w, d, s, t, p, h1, h2, h3, h4, h5, h6, h7, e0, e1, e2, e3, e4, e5⟩ := h.2.1 k hk
      have hp := cnt_pos_of (p := cwP x.2.1 (nI (x.2.2.2.2.2.2.2 0)) (nI 30)) hk (by simp only [cwP, decide_eq_true_eq]; exact ⟨e.1, by rw [e1]; exact (nI_leI (by omega) (by omega)).mpr h3⟩)
      omega
  · obtain ⟨a, ha, e1, e2, e3⟩ := well_at h (w := nI (x.2.2.2.2.2.2.2 0)) (i := 0) (by omega)
    obtain ⟨w, d, s, t, p, h1, h2, h3, h4, h5, h6, h7, f0, f1, f2, f3, f4, f5⟩ := h.2.1 a ha
    refine Or.inr ⟨a, d, ha, h3, e1, f1, ?_⟩
    have hd : leastD x (nI (x.2.2.2.2.2.2.2 0)) = nI d := by
      unfold leastD
      show (if ixO (bdP x.2.1 x.1 (nI (x.2.2.2.2.2.2.2 0)) (nI 0)) x.1 = -1 then nI 0 else rowAt 12 (x.2.1 1) (ixO (bdP x.2.1 x.1 (nI (x.2.2.2.2.2.2.2 0)) (nI 0)) x.1)) = nI d
      rw [e1, if_neg (fun q => absurd (show nI a < 0 by rw [q]; decide) (nI_pos (by omega))), rowAt_n (by omega) (by omega), f1]
    unfold bestF
    show (if cnt (cwP x.2.1 (nI (x.2.2.2.2.2.2.2 0)) (nI 30)) x.1 = 0 then (-6 : Int32) else nI (bsN x (leastD x (nI (x.2.2.2.2.2.2.2 0))) 9)) = _
    rw [if_neg c, hd]
/-! marks -/
theorem acc_ind {x : SX} {il ct : Nat} {a : Int32} (h12 : a ≠ nI 12) (h13 : a ≠ nI 13) : accountF x il ct a = accountF x 0 0 a := by
  unfold accountF
  iterate 12 (refine ite_congr rfl (fun _ => rfl) (fun _ => ?_))
  rw [if_neg h12, if_neg h12, if_neg h13, if_neg h13]
theorem acc_k {x : SX} {il ct : Nat} : accountF x il ct (nI 0) = nI x.1 ∧ accountF x il ct (nI 1) = nI (x.2.2.2.2.2.2.2 0) ∧ accountF x il ct (nI 3) = nI (x.2.2.2.2.2.2.2 2) ∧ accountF x il ct (nI 4) = nI (x.2.2.2.2.2.2.2 3) ∧ accountF x il ct (nI 6) = nI x.2.2.1 ∧ accountF x il ct (nI 7) = nI (x.2.2.2.2.2.2.2 5) ∧ accountF x il ct (nI 8) = nI (x.2.2.2.2.2.2.2 6) ∧ accountF x il ct (nI 12) = nI il ∧ accountF x il ct (nI 13) = nI ct := ⟨rfl, rfl, rfl, rfl, rfl, rfl, rfl, rfl, rfl⟩
def mkN (f : Nat → Int32) : Nat → Int64 → Int64
  | 0, v => v
  | n + 1, v => 31 * mkN f n v + (f n).toInt64
def mkM (f : Nat → Nat → Int32) (k : Nat) : Nat → Int64 → Int64
  | 0, v => v
  | n + 1, v => mkN (f n) k (mkM f k n v)
def mkW (f h : Nat → Int32) : Nat → Int64 → Int64
  | 0, v => v
  | n + 1, v => 31 * mkW f h n v + 10 * (f n).toInt64 + (h n).toInt64
def mkA (x : SX) (n : Nat) : Int64 := mkN (fun k => accountF x 0 0 (nI k)) n 17
def mkJ (x : SX) (n : Nat) : Int64 := mkM (fun j k => jokeOfF x (nI j) (nI k)) 6 n (mkA x 12)
def mkT (x : SX) (n : Nat) : Int64 := mkM (fun p k => liftedF x (nI p) (nI k) (fun i => fb (x.2.2.2.2.2.1 i))) 3 n (mkJ x x.1)
def mkV (x : SX) (n : Nat) : Int64 := mkW (fun w => wellOfF x (nI w) (nI 0)) (fun w => wellOfF x (nI w) (nI 3)) n (mkT x x.2.2.1)
def mkF (x : SX) : Int64 := 31 * mkV x 4 + (fb x.2.2.2.1).toInt64
theorem lcmp_self (v : Int64) : lg_cmp v v = nI 0 := by
  have h : ¬ v < v := fun q => absurd q (by rw [Int64.lt_iff_toInt_lt]; omega)
  simp [lg_cmp, h]
  try decide
/-- a number that is not below zero, from any int -/
theorem and_pos (v : Int32) : ∃ k, k < 2147483648 ∧ v &&& 2147483647 = nI k := by
  refine ⟨(v &&& 2147483647).toUInt32.toNat, ?_, ?_⟩
  · rw [Int32.toUInt32_and, UInt32.toNat_and]
    exact Nat.lt_of_le_of_lt Nat.and_le_right (by decide)
  · rw [show nI (v &&& 2147483647).toUInt32.toNat = (UInt32.ofNat (v &&& 2147483647).toUInt32.toNat).toInt32 from rfl, UInt32.ofNat_toNat]
    rfl
theorem hPush_top {hs : Nat → SX} {ct : Nat} {x : SX} (h : ct ≤ 8) : hPush hs ct x (min 8 (ct + 1) - 1) = x := by
  rw [hPush, if_pos (by omega)]
