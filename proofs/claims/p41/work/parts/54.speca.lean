/-! the class's answers and the reference's -/
theorem lifts_cnt : ∀ (c : Nat) {x : SX}, Inv x → c ≤ stW x → ∀ r, x.2.2.2.2.2.2.2 2 ≤ r → r ≤ 30 → cnt (cwP (liftsF c x).2.1 (nI (x.2.2.2.2.2.2.2 0)) (nI r)) (liftsF c x).1 + c = cnt (cwP x.2.1 (nI (x.2.2.2.2.2.2.2 0)) (nI r)) x.1
  | 0, x, _, _, r, _, _ => rfl
  | c + 1, x, h, hc, r, h1, h2 => by
    obtain ⟨k, sg, g1, g2, g3, g4, g5, g6⟩ := lift_step h (by omega)
    have hk := g1.1
    have hn := h.n
    have ih := lifts_cnt c (x := lift1 x k sg) g4 (by omega) r h1 h2
    rw [liftsF, g3]
    have hw : x.2.1 0 k = nI (x.2.2.2.2.2.2.2 0) := by
      rw [ixO] at g2
      split at g2
      · rename_i q
        have e := nI_inj (by omega) (by omega) g2
        have hy := (fnd_yes q).1
        rw [e] at hy
        simp only [bdP, decide_eq_true_eq] at hy
        exact hy.1
      · exact absurd (show nI k < 0 by rw [← g2]; decide) (nI_pos (by omega))
    have ho := cnt_out (p := cwP x.2.1 (nI (x.2.2.2.2.2.2.2 0)) (nI r)) hk
    rw [if_pos (by simp only [cwP, decide_eq_true_eq]; exact ⟨hw, Int32.le_trans g6 ((nI_leI (by omega) (by omega)).mpr h1)⟩)] at ho
    have e2 : cnt (cwP (lift1 x k sg).2.1 (nI (x.2.2.2.2.2.2.2 0)) (nI r)) (lift1 x k sg).1 = cnt (fun i => cwP x.2.1 (nI (x.2.2.2.2.2.2.2 0)) (nI r) (sk k i)) (x.1 - 1) := cwP_out hn
    have ih' : cnt (cwP (liftsF c (lift1 x k sg)).2.1 (nI (x.2.2.2.2.2.2.2 0)) (nI r)) (liftsF c (lift1 x k sg)).1 + c = cnt (cwP (lift1 x k sg).2.1 (nI (x.2.2.2.2.2.2.2 0)) (nI r)) (lift1 x k sg).1 := ih
    omega
/-- a stroke's numbers -/
theorem strokeF_z {x : SX} (h : Inv x) (h4 : x.2.2.2.2.2.2.2 3 ≤ 40) : (strokeF x).2.2.2.2.2.2.2 = zStrk x.2.2.2.2.2.2.2 ∧ (strokeF x).2.2.2.2.2.2.1 = x.2.2.2.2.2.2.1 := by
  obtain ⟨g1, g2, g3, g4⟩ := lifts_all (stCnt (strk x)) (h.strk h4) (Nat.min_le_left _ _)
  have e : (strokeF x).2.2.2.2.2.2 = (strk x).2.2.2.2.2.2 := g4
  exact ⟨by rw [e]; rfl, by rw [e]; rfl⟩
theorem gi_run : ∀ (k : Nat) {x : SX}, Inv x → giN k (x.2.2.2.2.2.2.2 2) (x.2.2.2.2.2.2.2 3) (x.2.2.2.2.2.2.2 1) = (runX k x).2.2.2.2.2.2.2 3
  | 0, _, _ => rfl
  | k + 1, x, h => by
    rw [giN, runX]
    by_cases c : x.2.2.2.2.2.2.2 3 ≤ 40
    · rw [if_pos c, if_neg (by omega), ← gi_run k (stroke_ok h c).2, (strokeF_z h c).1]
      rfl
    · rw [if_neg c, if_pos (by omega)]
theorem wd_run {x : SX} (hx : Inv x) : ∀ (k : Nat) {y : SX} {lf : Nat}, Inv y → y.2.2.2.2.2.2.2 0 = x.2.2.2.2.2.2.2 0 → y.2.2.2.2.2.2.2 1 = x.2.2.2.2.2.2.2 1 → y.2.2.2.2.2.2.1 = x.2.2.2.2.2.2.1 → (∀ r, y.2.2.2.2.2.2.2 2 ≤ r → r ≤ 30 → cnt (cwP y.2.1 (nI (x.2.2.2.2.2.2.2 0)) (nI r)) y.1 + lf = cnt (cwP x.2.1 (nI (x.2.2.2.2.2.2.2 0)) (nI r)) x.1) → runN k y + lf = wdN x k (y.2.2.2.2.2.2.2 2) (y.2.2.2.2.2.2.2 3) lf
  | 0, y, lf, _, _, _, _, _ => by rw [runN, wdN, Nat.zero_add]
  | k + 1, y, lf, h, e0, e1, eb, hc => by
    rw [runN, wdN]
    by_cases c : y.2.2.2.2.2.2.2 3 ≤ 40
    · rw [if_pos c, if_neg (by omega)]
      have hs := h.strk c
      have hcs : stCnt (strk y) ≤ stW (strk y) := Nat.min_le_left _ _
      obtain ⟨z1, z2⟩ := strokeF_z h c
      have hL := lifts_cnt (stCnt (strk y)) hs hcs
      obtain ⟨hz0, hz1a, hz1, hz2, hz3, hz4⟩ := h.zz
      have hr : min 30 (y.2.2.2.2.2.2.2 2 + y.2.2.2.2.2.2.2 1) ≤ 30 := Nat.min_le_left _ _
      have hst : stCnt (strk y) = min (cnt (cwP x.2.1 (nI (x.2.2.2.2.2.2.2 0)) (nI (min 30 (y.2.2.2.2.2.2.2 2 + x.2.2.2.2.2.2.2 1)))) x.1 - lf) (x.2.2.2.2.2.2.1 (x.2.2.2.2.2.2.2 0)) := by
        have h1 := hc (min 30 (y.2.2.2.2.2.2.2 2 + y.2.2.2.2.2.2.2 1)) (by omega) hr
        show min (cnt (cwP y.2.1 (nI (y.2.2.2.2.2.2.2 0)) (nI (min 30 (y.2.2.2.2.2.2.2 2 + y.2.2.2.2.2.2.2 1)))) y.1) (y.2.2.2.2.2.2.1 (y.2.2.2.2.2.2.2 0)) = _
        rw [e0, eb]
        rw [e1] at h1 ⊢
        rw [← h1, Nat.add_sub_cancel]
      have ih := wd_run hx k (y := strokeF y) (lf := lf + stCnt (strk y)) (stroke_ok h c).2 (by rw [z1]; exact e0) (by rw [z1]; exact e1) (by rw [z2]; exact eb) (fun r g1 g2 => by
        have g1' : min 30 (y.2.2.2.2.2.2.2 2 + y.2.2.2.2.2.2.2 1) ≤ r := by rw [z1] at g1; exact g1
        have h1 := hL r g1' g2
        have h2 := hc r (by omega) g2
        have h1' : cnt (cwP (strokeF y).2.1 (nI (y.2.2.2.2.2.2.2 0)) (nI r)) (strokeF y).1 + stCnt (strk y) = cnt (cwP y.2.1 (nI (y.2.2.2.2.2.2.2 0)) (nI r)) y.1 := h1
        rw [e0] at h1'
        omega)
      have z1b : (strokeF y).2.2.2.2.2.2.2 2 = min 30 (y.2.2.2.2.2.2.2 2 + y.2.2.2.2.2.2.2 1) := by rw [z1]; rfl
      have z1c : (strokeF y).2.2.2.2.2.2.2 3 = y.2.2.2.2.2.2.2 3 + (1 + min 30 (y.2.2.2.2.2.2.2 2 + y.2.2.2.2.2.2.2 1) / 10) := by rw [z1]; rfl
      rw [z1b, z1c, e1] at ih
      rw [show stCnt (strk y) + runN k (strokeF y) + lf = runN k (strokeF y) + (lf + stCnt (strk y)) by omega, ih, hst]
    · rw [if_neg c, if_pos (by omega), Nat.zero_add]
theorem would_eq {x : SX} (h : Inv x) (a : Int32) : wouldF x a = if inW a (nI 0) (nI 20) then nI (runN (cl a) x) else -2 := by
  rw [wouldF]
  by_cases c : inW a (nI 0) (nI 20)
  · rw [if_pos c, if_pos c]
    have := wd_run h (cl a) (y := x) (lf := 0) h rfl rfl rfl (fun r _ _ => rfl)
    rw [Nat.add_zero] at this
    exact congrArg nI this.symm
  · rw [if_neg c, if_neg c]
theorem groans_eq {x : SX} (h : Inv x) (a : Int32) : groansInF x a = if inW a (nI 0) (nI 20) then nI ((runX (cl a) x).2.2.2.2.2.2.2 3) else -2 := by
  rw [groansInF]
  by_cases c : inW a (nI 0) (nI 20)
  · rw [if_pos c, if_pos c]
    exact congrArg nI (gi_run (cl a) h)
  · rw [if_neg c, if_neg c]
theorem stk_eq {ln dp : Nat} (hl : 1 ≤ ln) (hd : dp ≤ 30) : ∀ (f rc : Nat), dp ≤ rc + f → stkN f rc ln dp = if dp ≤ rc then 0 else (dp - rc + ln - 1) / ln
  | 0, rc, h => by rw [stkN, if_pos (by omega)]
  | f + 1, rc, h => by
    rw [stkN]
    by_cases c : rc < dp
    · rw [if_pos c, if_neg (by omega), stk_eq hl hd f _ (by omega)]
      by_cases c2 : dp ≤ min 30 (rc + ln)
      · rw [if_pos c2]
        have e : dp - rc + ln - 1 = (dp - rc - 1) + ln := by omega
        rw [e, Nat.add_div_right _ (by omega), Nat.div_eq_of_lt (by omega)]
      · rw [if_neg c2, show min 30 (rc + ln) = rc + ln by omega]
        have e : dp - rc + ln - 1 = (dp - (rc + ln) + ln - 1) + ln := by omega
        rw [e, Nat.add_div_right _ (by omega)]
        omega
    · rw [if_neg c, if_pos (by omega)]
theorem strokes_eq {x : SX} (h : Inv x) (a : Int32) : strokesF x a = strokesAF x a := by
  obtain ⟨hz0, hz1a, hz1, hz2, hz3, hz4⟩ := h.zz
  rw [strokesF, strokesAF]
  by_cases c : inW a (nI 1) (nI 30)
  · rw [if_pos c, if_pos c]
    obtain ⟨k, h1, h2, rfl⟩ := inW_of (by decide) (by decide) c
    rw [cl_n (by omega)]
    show nI (stkN 30 (x.2.2.2.2.2.2.2 2) (x.2.2.2.2.2.2.2 1) k) = if k ≤ x.2.2.2.2.2.2.2 2 ∨ x.2.2.2.2.2.2.2 1 < 1 then nI 0 else nI ((k - x.2.2.2.2.2.2.2 2 + x.2.2.2.2.2.2.2 1 - 1) / x.2.2.2.2.2.2.2 1)
    rw [stk_eq hz1a h2 30 _ (by omega)]
    by_cases c2 : k ≤ x.2.2.2.2.2.2.2 2
    · rw [if_pos c2, if_pos (Or.inl c2)]
    · rw [if_neg c2, if_neg (by omega)]
  · rw [if_neg c, if_neg c]
/-- the bits that the class finds are the float's own -/
def bitsB (v : UInt32) : Bool := match bits v with
  | some r => r == fb v
  | none => false
theorem bits_chk : ((List.range 10).all fun wt => wt == 0 || ((List.range 2).all fun pr => (List.range 51).all fun gr => bitsB (lfO (nI wt) (nI pr) (nI gr)))) = true := by decide +kernel
theorem isL.bits {v : UInt32} (h : isL v) : CJokePumpLaw_law_r2828_e7dfb6.bits v = some (fb v) := by
  obtain ⟨wt, pr, gr, h1, h2, h3, h4, rfl⟩ := h
  have h5 := List.all_eq_true.mp bits_chk wt (List.mem_range.mpr (by omega))
  rw [Bool.or_eq_true] at h5
  rcases h5 with h5 | h5
  · have : wt = 0 := by simpa using h5
    omega
  have h6 := List.all_eq_true.mp (List.all_eq_true.mp h5 pr (List.mem_range.mpr (by omega))) gr (List.mem_range.mpr (by omega))
  unfold bitsB at h6
  split at h6
  · rename_i r e
    rw [e]
    exact congrArg some (by simpa using h6)
  · exact absurd h6 (by decide)
/-- sums of depths, of signs known -/
theorem sumI_le {f : Nat → Int32} {b : Nat} (hb : b ≤ 100) : ∀ {n : Nat}, n ≤ 100 → (∀ k, k < n → ∃ d, d ≤ b ∧ f k = nI d) → ∃ sm, sm ≤ b * n ∧ sumI f n = nI sm
  | 0, _, _ => ⟨0, by omega, rfl⟩
  | n + 1, hn, h => by
    obtain ⟨sm, h1, h2⟩ := sumI_le hb (n := n) (by omega) (fun k hk => h k (by omega))
    obtain ⟨d, h3, h4⟩ := h n (by omega)
    refine ⟨sm + d, ?_, ?_⟩
    · rw [Nat.mul_succ]; omega
    · rw [sumI, h2, h4, nI_add]
def nn64 (r : UInt64) : Bool := decide (r &&& 0x7fffffffffffffff ≤ 0x7ff0000000000000)
theorem mean_chk : ((List.range 13).all fun n => n == 0 || (List.range 361).all fun sm => nn64 (FP.ddiv (FP.i2d (nI sm)) (FP.i2d (nI n)))) = true := by decide +kernel
theorem mean_nn {x : SX} (h : Inv x) (h0 : 0 < x.1) : vf_n64 (meanF x) := by
  have hn := h.n
  obtain ⟨sm, h1, h2⟩ := sumI_le (f := x.2.1 1) (b := 30) (by decide) (n := x.1) (by omega) (fun k hk => by
    obtain ⟨w, d, s, t, p, g1, g2, g3, g4, g5, g6, g7, g8, g9, g10, g11, g12, g13⟩ := h.j hk
    exact ⟨d, g3, g9⟩)
  rw [meanF, if_pos h0]
  show vf_n64 (FP.ddiv (FP.i2d (sumI (x.2.1 1) x.1)) (FP.i2d (nI x.1)))
  rw [h2]
  have h3 := List.all_eq_true.mp mean_chk x.1 (List.mem_range.mpr (by omega))
  rw [Bool.or_eq_true] at h3
  rcases h3 with h3 | h3
  · have : x.1 = 0 := by simpa using h3
    omega
  · have z := List.all_eq_true.mp h3 sm (List.mem_range.mpr (by omega))
    unfold nn64 at z
    unfold vf_n64
    exact of_decide_eq_true z
theorem share_chk : ((List.range 65).all fun n => nnb (FP.fdiv (FP.i2f (nI n)) (1115684864 : UInt32)) && decide ((FP.fdiv (FP.i2f (nI n)) (1115684864 : UInt32)).toNat ≤ 2139095040)) = true := by decide +kernel
theorem share_nn {x : SX} (h : Inv x) : nnF (shareF x) := by
  obtain ⟨sm, h1, h2⟩ := sumI_le (f := x.2.2.2.2.1 2) (b := 1) (by decide) (n := 64) (by decide) (fun k hk => by
    rcases h.kn k hk with e | e
    · exact ⟨0, by decide, e⟩
    · exact ⟨1, by decide, e⟩)
  show nnF (FP.fdiv (FP.i2f (sumI (x.2.2.2.2.1 2) 64)) (1115684864 : UInt32))
  rw [h2]
  have h3 := List.all_eq_true.mp share_chk sm (List.mem_range.mpr (by omega))
  rw [Bool.and_eq_true] at h3
  unfold nnF
  exact of_decide_eq_true h3.2
