/-! floats that are not negative and no NaN -/
def nnF (v : UInt32) : Prop := v.toNat ≤ 2139095040
def nnD : FP.Core.Datum → Prop
  | .nan => False
  | .inf s => s = false
  | .fin s _ _ => s = false
theorem dec_nn {n : Nat} (h : n ≤ 2139095040) : nnD (FP.Core.decode FP.Core.b32 n) := by
  have e1 : FP.Core.fieldT FP.Core.b32 n = n % 8388608 := rfl
  have e2 : FP.Core.fieldE FP.Core.b32 n = n / 8388608 % 256 := rfl
  have e3 : FP.Core.fieldS FP.Core.b32 n = false := by
    show (n / 8388608 / 256 % 2 == 1) = false
    have : n / 8388608 / 256 % 2 = 0 := by omega
    rw [this]
    rfl
  unfold FP.Core.decode
  rw [e1, e2, e3]
  by_cases h1 : n / 8388608 % 256 = FP.Core.b32.exps - 1
  · have h1' : n / 8388608 % 256 = 255 := h1
    rw [if_pos h1, if_pos (by omega)]
    rfl
  · rw [if_neg h1]
    split <;> rfl
theorem sum_nn : ∀ {a b : FP.Core.Datum}, nnD a → nnD b → nnD (FP.Core.exactSum a b)
  | .inf s, .inf t, h1, h2 => by
    cases h1; cases h2; rfl
  | .inf s, .fin _ _ _, h1, _ => by cases h1; rfl
  | .fin _ _ _, .inf t, _, h2 => by cases h2; rfl
  | .fin s c q, .fin t d r, h1, h2 => by
    cases h1; cases h2
    show FP.Core.sumSign false false _ = false
    have h : ¬ FP.Core.sumUnits false c q false d r (min q r) < 0 := by
      simp only [FP.Core.sumUnits, FP.Core.signed]
      have h3 : (0 : Int) ≤ ((FP.Core.inUnits c q (min q r) : Nat) : Int) := Int.natCast_nonneg _
      have h4 : (0 : Int) ≤ ((FP.Core.inUnits d r (min q r) : Nat) : Int) := Int.natCast_nonneg _
      simp
      omega
    unfold FP.Core.sumSign
    split
    · rfl
    · exact decide_eq_false h
/-- what a rounding gives -/
def rdD : FP.Core.Datum → Prop
  | .nan => False
  | .inf s => s = false
  | .fin s c q => s = false ∧ c < 16777216 ∧ q ≤ 104
theorem bound_rd {c : Nat} {q : Int} (hc : c < 16777216) : rdD (FP.Core.bound FP.Core.b32 false c q) := by
  unfold FP.Core.bound
  split
  · rename_i h
    exact ⟨rfl, hc, h⟩
  · rfl
theorem ratio_rd (num den : Nat) (e : Int) : rdD (FP.Core.roundRatio FP.Core.b32 false num den e) := by
  unfold FP.Core.roundRatio
  split
  · exact ⟨rfl, by decide, by decide⟩
  · unfold FP.Core.roundAt FP.Core.settle
    split
    · rename_i h
      exact bound_rd h
    · exact bound_rd (by decide)
theorem round_rd : ∀ {a : FP.Core.Datum}, nnD a → rdD (FP.Core.round FP.Core.b32 a)
  | .inf s, h => by cases h; rfl
  | .fin s c q, h => by cases h; exact ratio_rd _ _ _
theorem enc_nn : ∀ {a : FP.Core.Datum}, rdD a → FP.Core.encode FP.Core.b32 a ≤ 2139095040
  | .inf s, h => by cases h; decide
  | .fin s c q, h => by
    obtain ⟨h1, h2, h3⟩ := h
    cases h1
    unfold FP.Core.encode
    have e1 : FP.Core.b32.tails = 8388608 := rfl
    have e2 : FP.Core.b32.qmin = -149 := by decide
    have e3 : FP.Core.b32.exps = 256 := rfl
    simp only [FP.Core.assemble, e1, e2, e3, Bool.toNat_false]
    split <;> omega
theorem nnF_add {a b : UInt32} (ha : nnF a) (hb : nnF b) : nnF (FP.fadd a b) := by
  have h := enc_nn (round_rd (sum_nn (dec_nn ha) (dec_nn hb)))
  show (UInt32.ofNat (FP.Core.encode FP.Core.b32 _)).toNat ≤ _
  rw [UInt32.toNat_ofNat']
  exact Nat.le_trans (Nat.mod_le _ _) h
theorem order_self : ∀ {a : FP.Core.Datum}, nnD a → FP.Core.order a a = some .eq
  | .inf s, h => by simp [FP.Core.order, compare, compareOfLessAndEq]
  | .fin s c q, h => by simp [FP.Core.order, compare, compareOfLessAndEq]
theorem nnF_cmp {v : UInt32} (h : nnF v) : Op.cmpValue (FP.fcmp v v) .l = 0 := by
  show Op.cmpValue (FP.Core.order _ _) .l = 0
  rw [order_self (dec_nn h)]
  rfl
theorem nnF_n {v : UInt32} (h : nnF v) : vf_n32 v := by
  show v &&& 0x7fffffff ≤ 0x7f800000
  rw [UInt32.le_iff_toNat_le, UInt32.toNat_and]
  exact Nat.le_trans Nat.and_le_left h
theorem nnF_s {v : UInt32} (h : nnF v) : vn_sni2f v.toInt32 = false := by
  have h1 := nnF_n h
  have h2 : ¬ v &&& 0x7fffffff > 0x7f800000 := UInt32.not_lt.mpr h1
  simp [vn_sni2f, h2]
/-- the laughs that can be -/
def lfChk (wt pr gr : Nat) : Bool := decide ((lfO (nI wt) (nI pr) (nI gr)).toNat ≤ 2139095040) && (nnb (FP.fmul (FP.i2f (nI wt)) (1069547520 : UInt32)) && (nnb (FP.fdiv (FP.i2f (nI gr)) (1098907648 : UInt32)) && nnb (FP.fadd FP.fconst1 (FP.fdiv (FP.i2f (nI gr)) (1098907648 : UInt32)))))
theorem lf_chk : ((List.range 10).all fun wt => (List.range 2).all fun pr => (List.range 51).all fun gr => lfChk wt pr gr) = true := by decide +kernel
theorem lf_all (wt : Nat) (h1 : wt < 10) (pr : Nat) (h2 : pr < 2) (gr : Nat) (h3 : gr < 51) : (lfO (nI wt) (nI pr) (nI gr)).toNat ≤ 2139095040 ∧ nnb (FP.fmul (FP.i2f (nI wt)) (1069547520 : UInt32)) = true ∧ nnb (FP.fdiv (FP.i2f (nI gr)) (1098907648 : UInt32)) = true ∧ nnb (FP.fadd FP.fconst1 (FP.fdiv (FP.i2f (nI gr)) (1098907648 : UInt32))) = true := by
  have h := List.all_eq_true.mp (List.all_eq_true.mp (List.all_eq_true.mp lf_chk wt (List.mem_range.mpr h1)) pr (List.mem_range.mpr h2)) gr (List.mem_range.mpr h3)
  rw [lfChk, Bool.and_eq_true, Bool.and_eq_true, Bool.and_eq_true] at h
  exact ⟨of_decide_eq_true h.1, h.2.1, h.2.2.1, h.2.2.2⟩
theorem isL.nn {v : UInt32} (h : isL v) : nnF v := by
  obtain ⟨wt, pr, gr, h1, h2, h3, h4, rfl⟩ := h
  exact (lf_all wt (by omega) pr (by omega) gr (by omega)).1
theorem lnn_of {wt pr gr : Nat} (h2 : wt ≤ 9) (h3 : pr ≤ 1) (h4 : gr ≤ 50) : lnn (nI wt) (nI pr) (nI gr) := by
  obtain ⟨k1, k2, k3, k4⟩ := lf_all wt (by omega) pr (by omega) gr (by omega)
  exact ⟨nnb_n k2, nnb_n k3, nnb_n k4, nnF_n k1⟩
theorem fsum_nn {lf : Nat → UInt32} : ∀ {n : Nat}, (∀ k, k < n → nnF (lf k)) → nnF (fsum lf n)
  | 0, _ => by show (0 : UInt32).toNat ≤ _; decide
  | n + 1, h => nnF_add (fsum_nn (fun k hk => h k (by omega))) (h n (by omega))
theorem Inv.lnn {x : SX} (h : Inv x) {k : Nat} (hk : k < x.1) {gr : Nat} (hg : gr ≤ 50) : lnn (x.2.1 3 k) (x.2.1 4 k) (nI gr) := by
  obtain ⟨w, d, s, t, p, h1, h2, h3, h4, h5, h6, h7, h8, h9, h10, h11, h12, h13⟩ := h.j hk
  rw [h11, h12]
  exact lnn_of h6 h7 hg
theorem Inv.isl {x : SX} (h : Inv x) {k : Nat} (hk : k < x.1) {gr : Nat} (hg : gr ≤ 50) : isL (lfO (x.2.1 3 k) (x.2.1 4 k) (nI gr)) := by
  obtain ⟨w, d, s, t, p, h1, h2, h3, h4, h5, h6, h7, h8, h9, h10, h11, h12, h13⟩ := h.j hk
  rw [h11, h12]
  exact ⟨t, p, gr, h5, h6, h7, hg, rfl⟩
theorem Inv.lfn {x : SX} (h : Inv x) {i : Nat} (hi : i < x.2.2.1) : nnF (x.2.2.2.2.2.1 i) := by
  obtain ⟨s, w, h1, h2, h3, h4, h5⟩ := h.t hi
  exact h5.nn
theorem Inv.smn {x : SX} (h : Inv x) : nnF x.2.2.2.1 := by
  rw [h.sm]
  exact fsum_nn (fun k hk => h.lfn hk)
theorem nnF_f2d {v : UInt32} (h : nnF v) : vf_n32 v := nnF_n h
