/-! a joke told more, in the reference's row; the signs' bits -/
theorem sh_amt : ((List.range 32).all fun a => decide ((nI a &&& 31).toBitVec.smod 32 = BitVec.ofNat 32 a)) = true := by decide +kernel
theorem sh_amt' {a : Nat} (h : a < 32) : (nI a &&& 31).toBitVec.smod 32 = BitVec.ofNat 32 a := of_decide_eq_true (List.all_eq_true.mp sh_amt a (List.mem_range.mpr h))
theorem bit1 (w : Int32) {a : Nat} (ha : a < 32) : (w >>> (nI a &&& 31)) &&& nI 1 = if w.toBitVec.getLsbD a then nI 1 else nI 0 := by
  apply Int32.toBitVec_inj.mp
  rw [Int32.toBitVec_and, Int32.toBitVec_shiftRight, sh_amt' ha]
  have e1 : (nI 1).toBitVec = 1#32 := by decide
  have e0 : (nI 0).toBitVec = 0#32 := by decide
  have e2 : (BitVec.ofNat 32 a).toNat = a := by simp; omega
  rw [e1]
  apply BitVec.eq_of_getLsbD_eq
  intro i hi
  rw [BitVec.getLsbD_and, BitVec.sshiftRight_eq', e2, BitVec.getLsbD_sshiftRight]
  by_cases h0 : i = 0
  · subst h0
    rw [if_pos (show a + 0 < 32 by omega), Nat.add_zero]
    cases w.toBitVec.getLsbD a
    · rw [if_neg (by decide), e0]; rfl
    · rw [if_pos rfl, e1]; rfl
  · have : (1#32).getLsbD i = false := by simp [BitVec.getLsbD_one, h0]
    rw [this, Bool.and_false]
    split
    · rw [e1, this]
    · rw [e0]; simp
theorem bitor (w : Int32) {a b : Nat} (ha : a < 32) (hb : b < 32) : ((w ||| (nI 1 <<< (nI b &&& 31))) >>> (nI a &&& 31)) &&& nI 1 = if a = b then nI 1 else (w >>> (nI a &&& 31)) &&& nI 1 := by
  rw [bit1 _ ha, bit1 _ ha, Int32.toBitVec_or, Int32.toBitVec_shiftLeft, sh_amt' hb, BitVec.getLsbD_or]
  have e1 : (nI 1).toBitVec = 1#32 := by decide
  have e2 : (BitVec.ofNat 32 b).toNat = b := by simp; omega
  rw [e1, BitVec.shiftLeft_eq', e2, BitVec.getLsbD_shiftLeft, BitVec.getLsbD_one]
  by_cases h : a = b
  · subst h
    simp [ha]
  · rw [if_neg h]
    rcases Nat.lt_or_ge a b with q | q
    · simp [ha, q]
    · have : ¬ (a - b = 0) := by omega
      simp [ha, Nat.not_lt.mpr q, this]
def xLog1 (x : SX) (l : UInt32) (sg : Nat) (wl : Int32) : SX := (x.1, x.2.1, x.2.2.1 + 1, FP.fadd x.2.2.2.1 l, tAdd x.2.2.2.2.1 x.2.2.1 sg wl, vf_upd x.2.2.2.2.2.1 x.2.2.1 l, x.2.2.2.2.2.2.1, x.2.2.2.2.2.2.2)
theorem nI_inj {a b : Nat} (ha : a < 2147483648) (hb : b < 2147483648) (h : nI a = nI b) : a = b := by
  have h2 := congrArg Int32.toInt h
  rw [nI_toInt ha, nI_toInt hb] at h2
  omega
theorem cnt_put {a : Nat → Int32} {n v : Nat} {w : Int32} (hn : n < 64) : cnt (fun i => decide (rowPut 64 a n w i = nI v)) (n + 1) = cnt (fun i => decide (a i = nI v)) n + if w = nI v then 1 else 0 := by
  rw [rowPut_in hn]
  have h : cnt (fun i => decide (upd a n w i = nI v)) n = cnt (fun i => decide (a i = nI v)) n := cnt_cong (fun i hi => by rw [upd_ne (by omega)])
  rw [cnt, h, upd_eq rfl]
  by_cases e : w = nI v <;> simp [e]
theorem RW.log {x : SX} {W W' : Nat → Int32} (h : RW x W) {l : UInt32} {sg wl : Nat} (hs : sg < 64) (hw : wl < 4) (ht : x.2.2.1 < 64) (hn : x.1 ≤ 12)
    (a0 : W' (82 + 3 * x.2.2.1) = nI sg) (a1 : W' (82 + 3 * x.2.2.1 + 1) = nI wl) (a2 : W' (82 + 3 * x.2.2.1 + 2) = fb l) (a3 : W' 6 = nI (x.2.2.1 + 1)) (a4 : W' (18 + wl) = nI (cnt (fun i => decide (x.2.2.2.2.1 1 i = nI wl)) x.2.2.1 + 1)) (a5 : W' (12 + sg / 32) = W (12 + sg / 32) ||| (nI 1 <<< (nI (sg % 32) &&& 31))) (a6 : W' 11 = fb (FP.fadd x.2.2.2.1 l))
    (o : ∀ i, i ≠ 6 → i ≠ 11 → i ≠ 18 + wl → i ≠ 12 + sg / 32 → i ≠ 82 + 3 * x.2.2.1 → i ≠ 82 + 3 * x.2.2.1 + 1 → i ≠ 82 + 3 * x.2.2.1 + 2 → W' i = W i) : RW (xLog1 x l sg (nI wl)) W' := by
  obtain ⟨h1, h2, h3, h4, h5, h6, h7, h8, h9, h10⟩ := h
  refine ⟨?_, fun i hi => ?_, a3, fun i hi => ?_, a6, fun s hs2 => ?_, fun i hi => ?_, fun i hi => ?_, fun i q hi hq => ?_, fun i hi => ?_⟩
  · rw [o _ (by omega) (by omega) (by omega) (by omega) (by omega) (by omega) (by omega)]; exact h1
  · rw [o _ (by omega) (by omega) (by omega) (by omega) (by omega) (by omega) (by omega)]; exact h2 i hi
  · rw [o _ (by omega) (by omega) (by omega) (by omega) (by omega) (by omega) (by omega)]; exact h4 i hi
  · show _ = rowPut 64 (x.2.2.2.2.1 2) sg (nI 1) s
    rw [rowPut_in hs]
    by_cases c : s / 32 = sg / 32
    · rw [c, a5, bitor _ (Nat.mod_lt _ (by decide)) (Nat.mod_lt _ (by decide)), ← c, h6 s hs2]
      by_cases e : s = sg
      · subst e; rw [if_pos rfl, upd_eq rfl]
      · rw [if_neg (by omega), upd_ne e]
    · rw [o _ (by omega) (by omega) (by omega) (by omega) (by omega) (by omega) (by omega), h6 s hs2, upd_ne (fun e => c (by rw [e]))]
  · rw [o _ (by omega) (by omega) (by omega) (by omega) (by omega) (by omega) (by omega)]; exact h7 i hi
  · show _ = nI (cnt (fun q => decide (rowPut 64 (x.2.2.2.2.1 1) x.2.2.1 (nI wl) q = nI i)) (x.2.2.1 + 1))
    rw [cnt_put ht]
    by_cases e : i = wl
    · subst e; rw [a4, if_pos rfl]
    · rw [if_neg (fun q => e (nI_inj (by omega) (by omega) q).symm), o _ (by omega) (by omega) (by omega) (by omega) (by omega) (by omega) (by omega), h8 i hi]; rfl
  · have hi2 : i < x.1 := hi
    rw [o _ (by omega) (by omega) (by omega) (by omega) (by omega) (by omega) (by omega)]; exact h9 i q hi hq
  · have hi2 : i < x.2.2.1 + 1 := hi
    show _ = rowPut 64 (x.2.2.2.2.1 0) x.2.2.1 (nI sg) i ∧ _ = rowPut 64 (x.2.2.2.2.1 1) x.2.2.1 (nI wl) i ∧ _ = fb (vf_upd x.2.2.2.2.2.1 x.2.2.1 l i)
    rw [rowPut_in ht, rowPut_in ht]
    by_cases e : i = x.2.2.1
    · subst e
      rw [upd_eq rfl, upd_eq rfl, a0, a1, a2]
      exact ⟨rfl, rfl, by simp [vf_upd]⟩
    · have h11 := h10 i (by omega)
      rw [upd_ne e, upd_ne e, o _ (by omega) (by omega) (by omega) (by omega) (by omega) (by omega) (by omega), o _ (by omega) (by omega) (by omega) (by omega) (by omega) (by omega) (by omega), o _ (by omega) (by omega) (by omega) (by omega) (by omega) (by omega) (by omega)]
      refine ⟨h11.1, h11.2.1, h11.2.2.trans (congrArg fb ?_)⟩
      simp [vf_upd, e]
