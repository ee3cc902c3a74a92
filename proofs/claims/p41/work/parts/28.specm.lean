/-! the reference: its object, its rows -/
def oM (g : gT) (N : Nat) (ad : Nat → Nat) (F : Nat → va_E) (u : Nat → Int32) (v : Nat → Nat) : Prop := 263 ≤ N ∧ F 254 = .inr (8, [.int (u 0), .int (u 1), .int (u 2), .int (u 3), .int (u 4), .int (u 5), .ref (ad 255), .ref (ad 256), .ref (ad 257), .ref (ad 258), .ref (ad 259), .int (nI (v 0)), .int (nI (v 1)), .int (u 6), .ref (ad 260), .int (nI (v 2)), .ref (ad 261), .int (nI (v 3)), .int (nI (v 4)), .int (u 7), .ref (ad 262), .int (u 8), .int (nI (v 5))])
theorem oM.fr {g : gT} {N : Nat} {ad : Nat → Nat} {F F' : Nat → va_E} {u : Nat → Int32} {v : Nat → Nat} (h : oM g N ad F u v) (e : F' 254 = F 254) : oM g N ad F' u v := ⟨h.1, e.trans h.2⟩
/-- the bits of a float, as the reference keeps them -/
def fb (v : UInt32) : Int32 := v.toInt32
theorem fb_back (v : UInt32) : (fb v).toUInt32 = v := by simp [fb]
/-- what the reference's row says of a state -/
def RW (x : SX) (W : Nat → Int32) : Prop := W 0 = nI x.1 ∧ (∀ k, k < 5 → W (1 + k) = nI (x.2.2.2.2.2.2.2 k)) ∧ W 6 = nI x.2.2.1 ∧ (∀ k, k < 4 → W (7 + k) = nI (x.2.2.2.2.2.2.2 (5 + k))) ∧ W 11 = fb x.2.2.2.1 ∧ (∀ s, s < 64 → (W (12 + s / 32) >>> (nI (s % 32) &&& 31)) &&& nI 1 = x.2.2.2.2.1 2 s) ∧ (∀ k, k < 4 → W (14 + k) = nI (x.2.2.2.2.2.2.1 k)) ∧ (∀ k, k < 4 → W (18 + k) = nI (cnt (fun i => decide (x.2.2.2.2.1 1 i = nI k)) x.2.2.1)) ∧ (∀ k q, k < x.1 → q < 5 → W (22 + 5 * k + q) = x.2.1 q k) ∧ ∀ i, i < x.2.2.1 → W (82 + 3 * i) = x.2.2.2.2.1 0 i ∧ W (82 + 3 * i + 1) = x.2.2.2.2.1 1 i ∧ W (82 + 3 * i + 2) = fb (x.2.2.2.2.2.1 i)
section RWS
variable {x : SX} {W : Nat → Int32}
theorem RW.n (h : RW x W) : W 0 = nI x.1 := h.1
theorem RW.z (h : RW x W) (k : Nat) (hk : k < 5) : W (1 + k) = nI (x.2.2.2.2.2.2.2 k) := h.2.1 k hk
theorem RW.t (h : RW x W) : W 6 = nI x.2.2.1 := h.2.2.1
theorem RW.c (h : RW x W) (k : Nat) (hk : k < 4) : W (7 + k) = nI (x.2.2.2.2.2.2.2 (5 + k)) := h.2.2.2.1 k hk
theorem RW.s (h : RW x W) : W 11 = fb x.2.2.2.1 := h.2.2.2.2.1
theorem RW.k (h : RW x W) (s : Nat) (hs : s < 64) : (W (12 + s / 32) >>> (nI (s % 32) &&& 31)) &&& nI 1 = x.2.2.2.2.1 2 s := h.2.2.2.2.2.1 s hs
theorem RW.b (h : RW x W) (k : Nat) (hk : k < 4) : W (14 + k) = nI (x.2.2.2.2.2.2.1 k) := h.2.2.2.2.2.2.1 k hk
theorem RW.f (h : RW x W) (k : Nat) (hk : k < 4) : W (18 + k) = nI (cnt (fun i => decide (x.2.2.2.2.1 1 i = nI k)) x.2.2.1) := h.2.2.2.2.2.2.2.1 k hk
theorem RW.j (h : RW x W) (k q : Nat) (hk : k < x.1) (hq : q < 5) : W (22 + 5 * k + q) = x.2.1 q k := h.2.2.2.2.2.2.2.2.1 k q hk hq
theorem RW.l (h : RW x W) (i : Nat) (hi : i < x.2.2.1) : W (82 + 3 * i) = x.2.2.2.2.1 0 i ∧ W (82 + 3 * i + 1) = x.2.2.2.2.1 1 i ∧ W (82 + 3 * i + 2) = fb (x.2.2.2.2.2.1 i) := h.2.2.2.2.2.2.2.2.2 i hi
end RWS
/-- a laugh that a joke can bring -/
def isL (v : UInt32) : Prop := ∃ wt pr gr : Nat, 1 ≤ wt ∧ wt ≤ 9 ∧ pr ≤ 1 ∧ gr ≤ 50 ∧ v = lfO (nI wt) (nI pr) (nI gr)
/-- what holds of every state of a pump -/
def InvJ (x : SX) (k : Nat) : Prop := ∃ w d s t p : Nat, w < 4 ∧ 1 ≤ d ∧ d ≤ 30 ∧ s < 64 ∧ 1 ≤ t ∧ t ≤ 9 ∧ p ≤ 1 ∧ x.2.1 0 k = nI w ∧ x.2.1 1 k = nI d ∧ x.2.1 2 k = nI s ∧ x.2.1 3 k = nI t ∧ x.2.1 4 k = nI p ∧ x.2.2.2.2.1 2 s = nI 0
def InvT (x : SX) (i : Nat) : Prop := ∃ s w : Nat, s < 64 ∧ w < 4 ∧ x.2.2.2.2.1 0 i = nI s ∧ x.2.2.2.2.1 1 i = nI w ∧ isL (x.2.2.2.2.2.1 i)
def Inv (x : SX) : Prop := x.1 ≤ 12 ∧ (∀ k, k < x.1 → InvJ x k) ∧ (∀ k i, k < x.1 → i < x.1 → x.2.1 2 k = x.2.1 2 i → k = i) ∧ (∀ k i, k < x.1 → i < x.1 → x.2.1 0 k = x.2.1 0 i → x.2.1 1 k = x.2.1 1 i → k = i) ∧ (∀ w, w < 4 → cnt (cwP x.2.1 (nI w) (nI 30)) x.1 ≤ 6) ∧ (∀ i, i < x.2.2.1 → InvT x i) ∧ x.2.2.2.1 = fsum x.2.2.2.2.2.1 x.2.2.1 ∧ (∀ s, s < 64 → x.2.2.2.2.1 2 s = nI 0 ∨ x.2.2.2.2.1 2 s = nI 1) ∧ cnt (fun s => decide (x.2.2.2.2.1 2 s = nI 1)) 64 = x.2.2.1 ∧ (∀ k, 1 ≤ x.2.2.2.2.2.2.1 k ∧ x.2.2.2.2.2.2.1 k ≤ 5) ∧ x.2.2.2.2.2.2.2 0 < 4 ∧ 1 ≤ x.2.2.2.2.2.2.2 1 ∧ x.2.2.2.2.2.2.2 1 ≤ 10 ∧ x.2.2.2.2.2.2.2 2 ≤ 30 ∧ x.2.2.2.2.2.2.2 3 ≤ 44 ∧ x.2.2.2.2.2.2.2 4 ≤ 9
section INV
variable {x : SX}
theorem Inv.n (h : Inv x) : x.1 ≤ 12 := h.1
theorem Inv.j (h : Inv x) {k : Nat} (hk : k < x.1) : InvJ x k := h.2.1 k hk
theorem Inv.sg (h : Inv x) : ∀ k i, k < x.1 → i < x.1 → x.2.1 2 k = x.2.1 2 i → k = i := h.2.2.1
theorem Inv.dp (h : Inv x) : ∀ k i, k < x.1 → i < x.1 → x.2.1 0 k = x.2.1 0 i → x.2.1 1 k = x.2.1 1 i → k = i := h.2.2.2.1
theorem Inv.w6 (h : Inv x) : ∀ w, w < 4 → cnt (cwP x.2.1 (nI w) (nI 30)) x.1 ≤ 6 := h.2.2.2.2.1
theorem Inv.t (h : Inv x) {i : Nat} (hi : i < x.2.2.1) : InvT x i := h.2.2.2.2.2.1 i hi
theorem Inv.sm (h : Inv x) : x.2.2.2.1 = fsum x.2.2.2.2.2.1 x.2.2.1 := h.2.2.2.2.2.2.1
theorem Inv.kn (h : Inv x) : ∀ s, s < 64 → x.2.2.2.2.1 2 s = nI 0 ∨ x.2.2.2.2.1 2 s = nI 1 := h.2.2.2.2.2.2.2.1
theorem Inv.ct (h : Inv x) : cnt (fun s => decide (x.2.2.2.2.1 2 s = nI 1)) 64 = x.2.2.1 := h.2.2.2.2.2.2.2.2.1
theorem Inv.tn (h : Inv x) : x.2.2.1 ≤ 64 := by rw [← h.ct]; exact cnt_le _ 64
theorem Inv.bk (h : Inv x) : ∀ k, 1 ≤ x.2.2.2.2.2.2.1 k ∧ x.2.2.2.2.2.2.1 k ≤ 5 := h.2.2.2.2.2.2.2.2.2.1
theorem Inv.zz (h : Inv x) : x.2.2.2.2.2.2.2 0 < 4 ∧ 1 ≤ x.2.2.2.2.2.2.2 1 ∧ x.2.2.2.2.2.2.2 1 ≤ 10 ∧ x.2.2.2.2.2.2.2 2 ≤ 30 ∧ x.2.2.2.2.2.2.2 3 ≤ 44 ∧ x.2.2.2.2.2.2.2 4 ≤ 9 := h.2.2.2.2.2.2.2.2.2.2
end INV
theorem nI_le30 {d : Nat} (h : d ≤ 30) : nI d ≤ nI 30 := (nI_leI (by omega) (by omega)).mpr h
theorem cnt_in {x : SX} (h : Inv x) (wl : Int32) : cnt (cwP x.2.1 wl (nI 30)) x.1 = cnt (fun k => decide (x.2.1 0 k = wl)) x.1 := cnt_cong (fun k hk => by
  obtain ⟨w, d, s, t, p, h1, h2, h3, h4, h5, h6, h7, h8, h9, h10, h11, h12, h13⟩ := h.j hk
  have h14 := nI_le30 h3
  rw [← h9] at h14
  simp [cwP, h14])
theorem lt_pred {a : Int32} {d : Nat} (hd : 1 ≤ d) (hd2 : d ≤ 30) {c : Nat} (hc : c ≤ 30) (ha : a = nI c) : (a < nI d) ↔ a ≤ nI d - nI 1 := by
  subst ha
  rw [pk_sub hd, nI_leI (by omega) (by omega), nI_ltI (by omega) (by omega)]
  omega
theorem cnt_ab {x : SX} (h : Inv x) {k : Nat} (hk : k < x.1) (wl : Int32) : cnt (cwP x.2.1 wl (x.2.1 1 k - nI 1)) x.1 = cnt (fun i => decide (x.2.1 0 i = wl ∧ x.2.1 1 i < x.2.1 1 k)) x.1 := cnt_cong (fun i hi => by
  obtain ⟨w, d, s, t, p, h1, h2, h3, h4, h5, h6, h7, h8, h9, h10, h11, h12, h13⟩ := h.j hk
  obtain ⟨w', d', s', t', p', g1, g2, g3, g4, g5, g6, g7, g8, g9, g10, g11, g12, g13⟩ := h.j hi
  have e := lt_pred h2 h3 g3 g9
  rw [cwP, h9]
  simp only [e])
/-- a refusal as the reference notes it: its code, its reason, what of -/
abbrev NT : Type := Int32 × Int32 × Int32
def uNot (u : Nat → Int32) (t : NT) : Nat → Int32 := if t.1 = -5 then (fun i => match i with | 4 => t.2.1 | 5 => t.2.2 | i => u i) else u
def ntF (a b : Int32) : NT := (-5, a, b)
def notJokeF (x : SX) (wl dp sg wt : Int32) : NT := if inW wl (nI 0) (nI 3) then (if inW dp (nI 1) (nI 30) then (if inW sg (nI 0) (nI 63) then (if inW wt (nI 1) (nI 9) then (if x.2.2.2.2.1 2 (cl sg) = 0 then (if ixO (fun k => decide (x.2.1 2 k = sg)) x.1 = -1 then (if ixO (fun k => decide (x.2.1 0 k = wl ∧ x.2.1 1 k = dp)) x.1 = -1 then (if x.1 < 12 then (if cnt (cwP (x.2.1) wl (nI 30)) x.1 < 6 then (nI 0, nI 0, nI 0) else ntF (nI 1) (nI (cnt (cwP (x.2.1) wl (nI 30)) x.1))) else ntF (nI 1) (nI x.1)) else ntF (nI 2) (ixO (fun k => decide (x.2.1 0 k = wl ∧ x.2.1 1 k = dp)) x.1)) else ntF (nI 4) (ixO (fun k => decide (x.2.1 2 k = sg)) x.1)) else ntF (nI 3) sg) else (-2, nI 0, nI 0)) else (-2, nI 0, nI 0)) else (-2, nI 0, nI 0)) else (-1, nI 0, nI 0)
theorem ixO_neg {p : Nat → Bool} {n : Nat} (hn : n < 2147483648) : ixO p n = -1 ↔ ¬ (0 : Int32) ≤ ixO p n := by
  rw [ixO]
  split
  · rename_i h
    constructor
    · intro e
      exfalso
      have h2 := nI_pos (n := fnd p n) (by omega)
      rw [e] at h2
      exact h2 (by decide)
    · intro e
      exact absurd (Int32.not_lt.mp (nI_pos (by omega))) e
  · exact ⟨fun _ => by decide, fun _ => rfl⟩
theorem bI_cong {P Q : Prop} [Decidable P] [Decidable Q] (h : P ↔ Q) : bI P = bI Q := by
  by_cases hp : P
  · rw [bI_t hp, bI_t (h.mp hp)]
  · rw [bI_f hp, bI_f (fun q => hp (h.mpr q))]
theorem inW_has {n : Nat} (hn : n < 2147483648) (a : Int32) : inW a (nI 0) (nI n - nI 1) ↔ hasJ n a := by
  constructor
  · intro h
    obtain ⟨h1, h2⟩ := h
    refine ⟨h1, fun q => h2 ?_⟩
    rcases Nat.eq_zero_or_pos n with rfl | hp
    · exact Int32.lt_of_lt_of_le (show nI 0 - nI 1 < nI 0 by decide) q
    · rw [pk_sub hp]
      exact Int32.lt_of_lt_of_le ((nI_ltI (by omega) (by omega)).mpr (by omega)) q
  · intro h
    obtain ⟨k, hk, rfl⟩ := hasJ_of hn h
    refine ⟨nI_pos (by omega), ?_⟩
    rw [pk_sub (by omega), nI_ltI (by omega) (by omega)]
    omega
