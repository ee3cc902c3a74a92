/-! places in an order, by a number of each; what strokes leave; the numbers of a mark -/
theorem cnt_all {p : Nat → Bool} : ∀ {n : Nat}, (∀ k, k < n → p k = true) → cnt p n = n
  | 0, _ => rfl
  | n + 1, h => by rw [cnt_t (h n (Nat.lt_succ_self n)), cnt_all (fun k hk => h k (Nat.lt_succ_of_lt hk))]
theorem rank_at {f : Nat → Nat} {n r : Nat} (hinj : ∀ a b, a < n → b < n → f a = f b → a = b) : ∀ T : Nat, r < cnt (fun b => decide (f b < T)) n → ∃ a, a < n ∧ cnt (fun b => decide (f b < f a)) n = r
  | 0, h => by
    obtain ⟨k, _, hk⟩ := cnt_ex (p := fun b => decide (f b < 0)) (n := n) (Nat.lt_of_le_of_lt (Nat.zero_le r) h)
    exact absurd (of_decide_eq_true hk) (Nat.not_lt_zero _)
  | T + 1, h => by
    by_cases c : r < cnt (fun b => decide (f b < T)) n
    · exact rank_at hinj T c
    · have h1 : cnt (fun b => decide (f b < T + 1)) n ≤ cnt (fun b => decide (f b < T)) n + cnt (fun b => decide (f b = T)) n := cnt_or (fun k _ hk => by
        have hk := of_decide_eq_true hk
        by_cases e : f k = T
        · exact Or.inr (decide_eq_true e)
        · exact Or.inl (decide_eq_true (by omega)))
      have h2 : cnt (fun b => decide (f b = T)) n ≤ 1 := cnt_one (fun k i hk hi e1 e2 => hinj k i hk hi ((of_decide_eq_true e1).trans (of_decide_eq_true e2).symm))
      obtain ⟨a, ha, hfa⟩ := cnt_ex (p := fun b => decide (f b = T)) (n := n) (by omega)
      have hfa := of_decide_eq_true hfa
      refine ⟨a, ha, ?_⟩
      rw [hfa]
      omega
theorem rank_ex {f : Nat → Nat} {n r : Nat} (T : Nat) (hT : ∀ b, b < n → f b < T) (hinj : ∀ a b, a < n → b < n → f a = f b → a = b) (hr : r < n) : ∃ a, a < n ∧ cnt (fun b => decide (f b < f a)) n = r :=
  rank_at hinj T (by rw [cnt_all (fun k hk => decide_eq_true (hT k hk))]; exact hr)
theorem rank_lt {f : Nat → Nat} {n a b : Nat} (h : cnt (fun c => decide (f c < f a)) n < cnt (fun c => decide (f c < f b)) n) : f a < f b := by
  rcases Nat.lt_or_ge (f a) (f b) with q | q
  · exact q
  · have h1 : cnt (fun c => decide (f c < f b)) n ≤ cnt (fun c => decide (f c < f a)) n := cnt_mono (fun k _ hk => by
      have hk := of_decide_eq_true hk
      exact decide_eq_true (by omega))
    omega
theorem ixO_ex {p : Nat → Bool} {n : Nat} (hn : n < 2147483648) (h : ∃ k, k < n ∧ p k = true) : ∃ k, k < n ∧ ixO p n = nI k ∧ p k = true := by
  by_cases q : fnd p n < n
  · exact ⟨fnd p n, q, by rw [ixO, if_pos q], (fnd_yes q).1⟩
  · obtain ⟨k, hk, hp⟩ := h
    have e : ixO p n = -1 := by rw [ixO, if_neg q]
    have z := ixO_none hn e k hk
    rw [hp] at z
    cases z
/-! funniest -/
def fcChk (gr t1 p1 t2 p2 : Nat) : Bool := decide (Op.cmpValue (FP.fcmp (lfO (nI t1) (nI p1) (nI gr)) (lfO (nI t2) (nI p2) (nI gr))) .l = if t1 * (2 + p1) < t2 * (2 + p2) then -1 else if t1 * (2 + p1) = t2 * (2 + p2) then 0 else 1)
theorem fc_chk : ((List.range 45).all fun gr => (List.range 10).all fun t1 => (t1 == 0) || (List.range 2).all fun p1 => (List.range 10).all fun t2 => (t2 == 0) || (List.range 2).all fun p2 => fcChk gr t1 p1 t2 p2) = true := by decide +kernel
theorem fc_all {gr t1 p1 t2 p2 : Nat} (hg : gr ≤ 44) (h1 : 1 ≤ t1) (h2 : t1 ≤ 9) (h3 : p1 ≤ 1) (h4 : 1 ≤ t2) (h5 : t2 ≤ 9) (h6 : p2 ≤ 1) : Op.cmpValue (FP.fcmp (lfO (nI t1) (nI p1) (nI gr)) (lfO (nI t2) (nI p2) (nI gr))) .l = if t1 * (2 + p1) < t2 * (2 + p2) then -1 else if t1 * (2 + p1) = t2 * (2 + p2) then 0 else 1 := by
  have a1 := List.all_eq_true.mp fc_chk gr (List.mem_range.mpr (by omega))
  have a2 := List.all_eq_true.mp a1 t1 (List.mem_range.mpr (by omega))
  rw [show (t1 == 0) = false from beq_false_of_ne (by omega), Bool.false_or] at a2
  have a3 := List.all_eq_true.mp a2 p1 (List.mem_range.mpr (by omega))
  have a4 := List.all_eq_true.mp a3 t2 (List.mem_range.mpr (by omega))
  rw [show (t2 == 0) = false from beq_false_of_ne (by omega), Bool.false_or] at a4
  have a5 := List.all_eq_true.mp a4 p2 (List.mem_range.mpr (by omega))
  exact of_decide_eq_true a5
def scF (x : SX) (a : Nat) : Nat := (100 - cl (x.2.1 3 a) * (2 + cl (x.2.1 4 a))) * 100000 + cl (x.2.1 1 a) * 1000 + a
theorem sc_fun {x : SX} (h : Inv x) {a b : Nat} (ha : a < x.1) (hb : b < x.1) : fnXb x a b = decide (scF x a < scF x b) ∧ (0 < Op.cmpValue (FP.fcmp (laX x a) (laX x b)) .l → scF x a < scF x b) := by
  obtain ⟨w, d, s, t, p, h1, h2, h3, h4, h5, h6, h7, e0, e1, e2, e3, e4, e5⟩ := h.2.1 a ha
  obtain ⟨w', d', s', t', p', g1, g2, g3, g4, g5, g6, g7, f0, f1, f2, f3, f4, f5⟩ := h.2.1 b hb
  have hz3 := h.zz.2.2.2.2.1
  have hn := h.n
  have hc := fc_all (gr := x.2.2.2.2.2.2.2 3) (t1 := t) (p1 := p) (t2 := t') (p2 := p') (by omega) h5 h6 h7 g5 g6 g7
  have hl : Op.cmpValue (FP.fcmp (laX x a) (laX x b)) .l = if t * (2 + p) < t' * (2 + p') then -1 else if t * (2 + p) = t' * (2 + p') then 0 else 1 := by
    rw [← hc]
    show Op.cmpValue (FP.fcmp (lfO (x.2.1 3 a) (x.2.1 4 a) (nI (x.2.2.2.2.2.2.2 3))) (lfO (x.2.1 3 b) (x.2.1 4 b) (nI (x.2.2.2.2.2.2.2 3)))) .l = _
    rw [e3, e4, f3, f4]
  have hk : t * (2 + p) ≤ 27 := Nat.le_trans (Nat.mul_le_mul h6 (show 2 + p ≤ 3 by omega)) (by decide)
  have hk' : t' * (2 + p') ≤ 27 := Nat.le_trans (Nat.mul_le_mul g6 (show 2 + p' ≤ 3 by omega)) (by decide)
  have sa : scF x a = (100 - t * (2 + p)) * 100000 + d * 1000 + a := by rw [scF, e3, e4, e1, cl_n (by omega), cl_n (by omega), cl_n (by omega)]
  have sb : scF x b = (100 - t' * (2 + p')) * 100000 + d' * 1000 + b := by rw [scF, f3, f4, f1, cl_n (by omega), cl_n (by omega), cl_n (by omega)]
  generalize t * (2 + p) = K at *
  generalize t' * (2 + p') = K' at *
  constructor
  · unfold fnXb
    rw [hl, sa, sb]
    show (if (if K < K' then (-1 : Int32) else if K = K' then 0 else 1) = 0 then (if x.2.1 1 a = x.2.1 1 b then decide (a < b) else decide (x.2.1 1 a < x.2.1 1 b)) else decide (0 < (if K < K' then (-1 : Int32) else if K = K' then 0 else 1))) = _
    rw [e1, f1]
    by_cases c1 : K < K'
    · rw [if_pos c1, if_neg (by decide)]
      exact (decide_eq_false (by decide)).trans (decide_eq_false (by omega)).symm
    · by_cases c2 : K = K'
      · rw [if_neg c1, if_pos c2, if_pos rfl]
        by_cases c3 : d = d'
        · rw [if_pos (by rw [c3])]
          by_cases c4 : a < b
          · exact (decide_eq_true c4).trans (decide_eq_true (by omega)).symm
          · exact (decide_eq_false c4).trans (decide_eq_false (by omega)).symm
        · rw [if_neg (fun q => c3 (nI_inj (by omega) (by omega) q))]
          by_cases c4 : d < d'
          · exact (decide_eq_true ((nI_ltI (by omega) (by omega)).mpr c4)).trans (decide_eq_true (by omega)).symm
          · exact (decide_eq_false (fun q => c4 ((nI_ltI (by omega) (by omega)).mp q))).trans (decide_eq_false (by omega)).symm
      · rw [if_neg c1, if_neg c2, if_neg (by decide)]
        exact (decide_eq_true (by decide)).trans (decide_eq_true (by omega)).symm
  · rw [hl, sa, sb]
    intro q
    by_cases c1 : K < K'
    · rw [if_pos c1] at q
      exact absurd q (by decide)
    · by_cases c2 : K = K'
      · rw [if_neg c1, if_pos c2] at q
        exact absurd q (by decide)
      · omega
theorem sc_inj {x : SX} (h : Inv x) {a b : Nat} (ha : a < x.1) (hb : b < x.1) (e : scF x a = scF x b) : a = b := by
  obtain ⟨w, d, s, t, p, h1, h2, h3, h4, h5, h6, h7, e0, e1, e2, e3, e4, e5⟩ := h.2.1 a ha
  obtain ⟨w', d', s', t', p', g1, g2, g3, g4, g5, g6, g7, f0, f1, f2, f3, f4, f5⟩ := h.2.1 b hb
  have hn := h.n
  have hk : t * (2 + p) ≤ 27 := Nat.le_trans (Nat.mul_le_mul h6 (show 2 + p ≤ 3 by omega)) (by decide)
  have hk' : t' * (2 + p') ≤ 27 := Nat.le_trans (Nat.mul_le_mul g6 (show 2 + p' ≤ 3 by omega)) (by decide)
  have sa : scF x a = (100 - t * (2 + p)) * 100000 + d * 1000 + a := by rw [scF, e3, e4, e1, cl_n (by omega), cl_n (by omega), cl_n (by omega)]
  have sb : scF x b = (100 - t' * (2 + p')) * 100000 + d' * 1000 + b := by rw [scF, f3, f4, f1, cl_n (by omega), cl_n (by omega), cl_n (by omega)]
  rw [sa, sb] at e
  generalize t * (2 + p) = K at *
  generalize t' * (2 + p') = K' at *
  omega
theorem sc_lt {x : SX} (h : Inv x) {b : Nat} (hb : b < x.1) : scF x b < 20000000 := by
  obtain ⟨w', d', s', t', p', g1, g2, g3, g4, g5, g6, g7, f0, f1, f2, f3, f4, f5⟩ := h.2.1 b hb
  have hn := h.n
  have sb : scF x b = (100 - t' * (2 + p')) * 100000 + d' * 1000 + b := by rw [scF, f3, f4, f1, cl_n (by omega), cl_n (by omega), cl_n (by omega)]
  rw [sb]
  generalize t' * (2 + p') = K'
  omega
theorem fun_at {x : SX} (h : Inv x) {r : Nat} (hr : r < x.1) : ∃ a, a < x.1 ∧ funniestF x (nI r) = nI a ∧ cnt (fun b => decide (scF x b < scF x a)) x.1 = r := by
  have hn := h.n
  obtain ⟨a0, h0, e0⟩ := rank_ex (f := scF x) 20000000 (fun b hb => sc_lt h hb) (fun a b ha hb e => sc_inj h ha hb e) hr
  have hcn : ∀ a, a < x.1 → cnt (fun b => fnXb x b a) x.1 = cnt (fun b => decide (scF x b < scF x a)) x.1 := fun a ha => cnt_cong (fun b hb => (sc_fun h hb ha).1)
  obtain ⟨a, ha, e1, e2⟩ := ixO_ex (p := fun a => decide (nI (cnt (fun b => fnXb x b a) x.1) = nI r)) (n := x.1) (by omega) ⟨a0, h0, decide_eq_true (by rw [hcn a0 h0, e0])⟩
  refine ⟨a, ha, e1, ?_⟩
  have e3 := of_decide_eq_true e2
  rw [hcn a ha] at e3
  have hle := cnt_le (fun b => decide (scF x b < scF x a)) x.1
  exact nI_inj (by omega) (by omega) e3
theorem fun_down {x : SX} (h : Inv x) {k : Nat} (h1 : 1 ≤ k) (hk : k < x.1) : ∃ a b, a < x.1 ∧ b < x.1 ∧ funniestF x (nI (k - 1)) = nI a ∧ funniestF x (nI k) = nI b ∧ ¬ 0 < Op.cmpValue (FP.fcmp (laX x b) (laX x a)) .l := by
  obtain ⟨a, ha, ea, ra⟩ := fun_at h (r := k - 1) (by omega)
  obtain ⟨b, hb, eb, rb⟩ := fun_at h (r := k) hk
  refine ⟨a, b, ha, hb, ea, eb, fun q => ?_⟩
  have h2 := (sc_fun h hb ha).2 q
  have h3 : scF x a < scF x b := rank_lt (n := x.1) (by omega)
  omega
/-! fullest -/
def sfF (x : SX) (a : Nat) : Nat := (100 - cnt (cwP (x.2.1) (nI a) (nI 30)) x.1) * 10000 + (100 - x.2.2.2.2.2.2.1 a) * 100 + a
theorem sf_ful {x : SX} (h : Inv x) {a b : Nat} (ha : a < 4) (hb : b < 4) : flXb x a b = decide (sfF x a < sfF x b) := by
  have w1 := h.w6 a (by omega)
  have w2 := h.w6 b (by omega)
  have b1 := h.bk a
  have b2 := h.bk b
  unfold flXb sfF
  show (if cnt (cwP (x.2.1) (nI a) (nI 30)) x.1 = cnt (cwP (x.2.1) (nI b) (nI 30)) x.1 then (if x.2.2.2.2.2.2.1 a = x.2.2.2.2.2.2.1 b then decide (a < b) else decide (x.2.2.2.2.2.2.1 b < x.2.2.2.2.2.2.1 a)) else decide (cnt (cwP (x.2.1) (nI b) (nI 30)) x.1 < cnt (cwP (x.2.1) (nI a) (nI 30)) x.1)) = _
  generalize cnt (cwP (x.2.1) (nI a) (nI 30)) x.1 = ca at *
  generalize cnt (cwP (x.2.1) (nI b) (nI 30)) x.1 = cb at *
  generalize x.2.2.2.2.2.2.1 a = ba at *
  generalize x.2.2.2.2.2.2.1 b = bb at *
  by_cases c1 : ca = cb
  · rw [if_pos c1]
    by_cases c2 : ba = bb
    · rw [if_pos c2]
      by_cases c3 : a < b
      · exact (decide_eq_true c3).trans (decide_eq_true (by omega)).symm
      · exact (decide_eq_false c3).trans (decide_eq_false (by omega)).symm
    · rw [if_neg c2]
      by_cases c3 : bb < ba
      · exact (decide_eq_true c3).trans (decide_eq_true (by omega)).symm
      · exact (decide_eq_false c3).trans (decide_eq_false (by omega)).symm
  · rw [if_neg c1]
    by_cases c3 : cb < ca
    · exact (decide_eq_true c3).trans (decide_eq_true (by omega)).symm
    · exact (decide_eq_false c3).trans (decide_eq_false (by omega)).symm
theorem ful_at {x : SX} (h : Inv x) {r : Nat} (hr : r < 4) : ∃ a, a < 4 ∧ fullestF x (nI r) = nI a ∧ cnt (fun b => decide (sfF x b < sfF x a)) 4 = r := by
  obtain ⟨a0, h0, e0⟩ := rank_ex (f := sfF x) (n := 4) 20000000 (fun b hb => by unfold sfF; omega) (fun a b ha hb e => by
    have w1 := h.w6 a ha
    have w2 := h.w6 b hb
    have b1 := h.bk a
    have b2 := h.bk b
    unfold sfF at e
    omega) hr
  have hcn : ∀ a, a < 4 → cnt (fun b => flXb x b a) 4 = cnt (fun b => decide (sfF x b < sfF x a)) 4 := fun a ha => cnt_cong (fun b hb => sf_ful h hb ha)
  obtain ⟨a, ha, e1, e2⟩ := ixO_ex (p := fun a => decide (nI (cnt (fun b => flXb x b a) 4) = nI r)) (n := 4) (by omega) ⟨a0, h0, decide_eq_true (by rw [hcn a0 h0, e0])⟩
  refine ⟨a, ha, e1, ?_⟩
  have e3 := of_decide_eq_true e2
  rw [hcn a ha] at e3
  have hle := cnt_le (fun b => decide (sfF x b < sfF x a)) 4
  exact nI_inj (by omega) (by omega) e3
theorem ful_down {x : SX} (h : Inv x) {k : Nat} (h1 : 1 ≤ k) (hk : k < 4) : ∃ a b, a < 4 ∧ b < 4 ∧ fullestF x (nI (k - 1)) = nI a ∧ fullestF x (nI k) = nI b ∧ cnt (cwP (x.2.1) (nI b) (nI 30)) x.1 ≤ cnt (cwP (x.2.1) (nI a) (nI 30)) x.1 := by
  obtain ⟨a, ha, ea, ra⟩ := ful_at h (r := k - 1) (by omega)
  obtain ⟨b, hb, eb, rb⟩ := ful_at h (r := k) hk
  refine ⟨a, b, ha, hb, ea, eb, ?_⟩
  have h3 : sfF x a < sfF x b := rank_lt (n := 4) (by omega)
  have w1 := h.w6 a ha
  have w2 := h.w6 b hb
  have b1 := h.bk a
  have b2 := h.bk b
  unfold sfF at h3
  omega
/-! places in a well -/
theorem well_at {x : SX} (h : Inv x) {w : Int32} {i : Nat} (hc : i < cnt (cwP x.2.1 w (nI 30)) x.1) : ∃ a, a < x.1 ∧ ixO (bdP x.2.1 x.1 w (nI i)) x.1 = nI a ∧ x.2.1 0 a = w ∧ cnt (cwP x.2.1 w (x.2.1 1 a - nI 1)) x.1 = i := by
  have hn := h.n
  obtain ⟨k, hk, hp⟩ := place_i h 30 (Nat.le_refl 30) hc
  obtain ⟨a, ha, e1, e2⟩ := ixO_ex (p := bdP x.2.1 x.1 w (nI i)) (n := x.1) (by omega) ⟨k, hk, hp⟩
  simp only [bdP, decide_eq_true_eq] at e2
  have hle := cnt_le (cwP x.2.1 w (x.2.1 1 a - nI 1)) x.1
  have hle2 := cnt_le (cwP x.2.1 w (nI 30)) x.1
  exact ⟨a, ha, e1, e2.1, nI_inj (by omega) (by omega) e2.2⟩
theorem well_up {x : SX} (h : Inv x) {w : Int32} {k : Nat} (h1 : 1 ≤ k) (hc : k < cnt (cwP x.2.1 w (nI 30)) x.1) : ∃ a b, a < x.1 ∧ b < x.1 ∧ ixO (bdP x.2.1 x.1 w (nI (k - 1))) x.1 = nI a ∧ ixO (bdP x.2.1 x.1 w (nI k)) x.1 = nI b ∧ ¬ x.2.1 1 b ≤ x.2.1 1 a := by
  obtain ⟨a, ha, ea, wa, ra⟩ := well_at h (i := k - 1) (w := w) (by omega)
  obtain ⟨b, hb, eb, wb, rb⟩ := well_at h (i := k) (w := w) hc
  refine ⟨a, b, ha, hb, ea, eb, fun q => ?_⟩
  obtain ⟨w1, d, s1, t1, p1, h11, h2, h3, h4, h5, h6, h7, e0, e1, e2⟩ := h.2.1 a ha
  obtain ⟨w1', d', s1', t1', p1', g11, g2, g3, g4, g5, g6, g7, f0, f1, f2⟩ := h.2.1 b hb
  rw [e1, f1, nI_leI (by omega) (by omega)] at q
  rw [e1, show nI d - nI 1 = nI (d - 1) from pk_sub h2] at ra
  rw [f1, show nI d' - nI 1 = nI (d' - 1) from pk_sub g2] at rb
  have hm : cnt (cwP x.2.1 w (nI (d' - 1))) x.1 ≤ cnt (cwP x.2.1 w (nI (d - 1))) x.1 := cwP_mono (by omega) (by omega)
  omega
