/-! what is kept: jokes that go, jokes that are lifted, strokes -/
def sk (k i : Nat) : Nat := if k ≤ i then i + 1 else i
theorem sk_ne (k i : Nat) : sk k i ≠ k := by unfold sk; split <;> omega
theorem sk_inj {k a b : Nat} (h : sk k a = sk k b) : a = b := by
  unfold sk at h
  split at h <;> split at h <;> omega
theorem sk_lt {k i n : Nat} (hi : i < n - 1) : sk k i < n := by unfold sk; split <;> omega
theorem jOut_at {j : Nat → Nat → Int32} {k i n q : Nat} (hn : n ≤ 12) (hi : i < n - 1) : jOut j k q i = j q (sk k i) := by
  show (if k ≤ i ∧ i + 1 < 12 then j q (i + 1) else j q i) = _
  unfold sk
  by_cases h : k ≤ i
  · rw [if_pos ⟨h, by omega⟩, if_pos h]
  · rw [if_neg (fun z => h z.1), if_neg h]
theorem cnt_out {p : Nat → Bool} {k : Nat} : ∀ {n : Nat}, k < n → cnt (fun i => p (sk k i)) (n - 1) + (if p k = true then 1 else 0) = cnt p n
  | 0, h => absurd h (Nat.not_lt_zero _)
  | n + 1, h => by
    by_cases e : k = n
    · subst e
      have : cnt (fun i => p (sk k i)) (k + 1 - 1) = cnt p k := cnt_cong (fun i hi => by rw [sk, if_neg (by omega)])
      rw [this, cnt]
    · have ih := cnt_out (p := p) (k := k) (n := n) (by omega)
      obtain ⟨m, rfl⟩ : ∃ m, n = m + 1 := ⟨n - 1, by omega⟩
      rw [show m + 1 + 1 - 1 = m + 1 by omega, cnt, show cnt p (m + 1 + 1) = cnt p (m + 1) + (if p (m + 1) = true then 1 else 0) from rfl, ← ih, show m + 1 - 1 = m by omega]
      have : sk k m = m + 1 := by rw [sk, if_pos (by omega)]
      simp only [this]
      omega
theorem cnt_lt_of {p : Nat → Bool} {k : Nat} : ∀ {n : Nat}, k < n → p k = false → cnt p n < n
  | 0, h, _ => absurd h (Nat.not_lt_zero _)
  | n + 1, h, hp => by
    have h1 := cnt_le p n
    by_cases e : k = n
    · subst e; rw [cnt_f hp]; omega
    · have h2 := cnt_lt_of (n := n) (by omega) hp
      rw [cnt]
      split <;> omega
theorem cnt_pos_of {p : Nat → Bool} {k : Nat} : ∀ {n : Nat}, k < n → p k = true → 0 < cnt p n
  | 0, h, _ => absurd h (Nat.not_lt_zero _)
  | n + 1, h, hp => by
    by_cases e : k = n
    · subst e; rw [cnt_t hp]; omega
    · have h2 := cnt_pos_of (n := n) (by omega) hp
      rw [cnt]
      split <;> omega
theorem cnt_ex {p : Nat → Bool} : ∀ {n : Nat}, 0 < cnt p n → ∃ k, k < n ∧ p k = true
  | 0, h => absurd h (Nat.not_lt_zero _)
  | n + 1, h => by
    by_cases hp : p n = true
    · exact ⟨n, by omega, hp⟩
    · have hf : p n = false := by simpa using hp
      rw [cnt_f hf] at h
      obtain ⟨k, h1, h2⟩ := cnt_ex h
      exact ⟨k, by omega, h2⟩
/-- one place turns to yes -/
theorem cnt_on {p q : Nat → Bool} {k : Nat} : ∀ {n : Nat}, k < n → p k = false → q k = true → (∀ i, i < n → i ≠ k → q i = p i) → cnt q n = cnt p n + 1
  | 0, h, _, _, _ => absurd h (Nat.not_lt_zero _)
  | n + 1, h, hp, hq, ho => by
    by_cases e : k = n
    · subst e
      rw [cnt_f hp, cnt_t hq, cnt_cong (fun i hi => ho i (by omega) (by omega))]
    · have ih := cnt_on (n := n) (by omega) hp hq (fun i hi hne => ho i (by omega) hne)
      rw [cnt, cnt, ih, ho n (by omega) (Ne.symm e)]
      omega
theorem fsum_cong {a b : Nat → UInt32} : ∀ {n : Nat}, (∀ k, k < n → a k = b k) → fsum a n = fsum b n
  | 0, _ => rfl
  | n + 1, h => by rw [fsum, fsum, fsum_cong (fun k hk => h k (by omega)), h n (by omega)]
/-- the sign of a joke -/
theorem Inv.sgn {x : SX} (h : Inv x) {k : Nat} (hk : k < x.1) : ∃ sg, sg < 64 ∧ x.2.1 2 k = nI sg ∧ x.2.2.2.2.1 2 sg = nI 0 := by
  obtain ⟨w, d, s, t, p, h1, h2, h3, h4, h5, h6, h7, h8, h9, h10, h11, h12, h13⟩ := h.j hk
  exact ⟨s, h4, h10, h13⟩
theorem Inv.tlt {x : SX} (h : Inv x) {k : Nat} (hk : k < x.1) : x.2.2.1 < 64 := by
  obtain ⟨sg, h1, h2, h3⟩ := h.sgn hk
  rw [← h.ct]
  exact cnt_lt_of h1 (by rw [h3]; decide)
theorem cwP_out {j : Nat → Nat → Int32} {w d : Int32} {k n : Nat} (hn : n ≤ 12) : cnt (cwP (jOut j k) w d) (n - 1) = cnt (fun i => cwP j w d (sk k i)) (n - 1) := cnt_cong (fun i hi => by simp only [cwP]; rw [jOut_at hn hi, jOut_at hn hi])
theorem InvJ.out {x : SX} {k i : Nat} (hn : x.1 ≤ 12) (hi : i < x.1 - 1) {t' : Nat → Nat → Int32} (h : InvJ x (sk k i)) (ht : ∀ s, s < 64 → x.2.1 2 (sk k i) = nI s → x.2.2.2.2.1 2 s = nI 0 → t' 2 s = nI 0) : ∃ w d s t p : Nat, w < 4 ∧ 1 ≤ d ∧ d ≤ 30 ∧ s < 64 ∧ 1 ≤ t ∧ t ≤ 9 ∧ p ≤ 1 ∧ jOut x.2.1 k 0 i = nI w ∧ jOut x.2.1 k 1 i = nI d ∧ jOut x.2.1 k 2 i = nI s ∧ jOut x.2.1 k 3 i = nI t ∧ jOut x.2.1 k 4 i = nI p ∧ t' 2 s = nI 0 := by
  obtain ⟨w, d, s, t, p, h1, h2, h3, h4, h5, h6, h7, h8, h9, h10, h11, h12, h13⟩ := h
  refine ⟨w, d, s, t, p, h1, h2, h3, h4, h5, h6, h7, ?_, ?_, ?_, ?_, ?_, ht s h4 h10 h13⟩
  · rw [jOut_at hn hi]; exact h8
  · rw [jOut_at hn hi]; exact h9
  · rw [jOut_at hn hi]; exact h10
  · rw [jOut_at hn hi]; exact h11
  · rw [jOut_at hn hi]; exact h12
theorem Inv.out {x : SX} (h : Inv x) {k : Nat} (hk : k < x.1) : Inv (xOut1 x k) := by
  have hn := h.n
  refine ⟨by show x.1 - 1 ≤ 12; omega, fun i hi => InvJ.out hn hi (h.j (sk_lt hi)) (fun s _ _ e => e), fun a b ha hb e => ?_, fun a b ha hb e1 e2 => ?_, fun w hw => ?_, h.2.2.2.2.2⟩
  · have e' : jOut x.2.1 k 2 a = jOut x.2.1 k 2 b := e
    rw [jOut_at hn ha, jOut_at hn hb] at e'
    exact sk_inj (h.sg _ _ (sk_lt ha) (sk_lt hb) e')
  · have e1' : jOut x.2.1 k 0 a = jOut x.2.1 k 0 b := e1
    have e2' : jOut x.2.1 k 1 a = jOut x.2.1 k 1 b := e2
    rw [jOut_at hn ha, jOut_at hn hb] at e1' e2'
    exact sk_inj (h.dp _ _ (sk_lt ha) (sk_lt hb) e1' e2')
  · show cnt (cwP (jOut x.2.1 k) (nI w) (nI 30)) (x.1 - 1) ≤ 6
    have h1 := cnt_out (p := cwP x.2.1 (nI w) (nI 30)) hk
    have h2 := h.w6 w hw
    rw [cwP_out hn]
    omega
theorem Inv.lift {x : SX} (h : Inv x) {k sg : Nat} (hk : k < x.1) (hs : x.2.1 2 k = nI sg) (hsg : sg < 64) : Inv (lift1 x k sg) ∧ liftOk x k sg := by
  have hn := h.n
  have ht := h.tlt hk
  have ho := h.out hk
  obtain ⟨hz0, hz1a, hz1, hz2, hz3, hz4⟩ := h.zz
  have hl : isL (lfO (x.2.1 3 k) (x.2.1 4 k) (nI (x.2.2.2.2.2.2.2 3))) := h.isl hk (by omega)
  obtain ⟨w, d, s, t, p, h1, h2, h3, h4, h5, h6, h7, h8, h9, h10, h11, h12, h13⟩ := h.j hk
  have es : s = sg := nI_inj (by omega) (by omega) (h10.symm.trans hs)
  subst es
  refine ⟨⟨by show x.1 - 1 ≤ 12; omega, fun i hi => InvJ.out hn hi (h.j (sk_lt hi)) (fun s' hs' e1 e2 => ?_), ho.sg, ho.dp, ho.w6, fun i hi => ?_, ?_, fun s' hs' => ?_, ?_, h.bk, h.zz⟩, hk, hn, ht, hs, hsg, h.lnn hk (by omega), nnF_n (nnF_add h.smn hl.nn)⟩
  · show rowPut 64 (x.2.2.2.2.1 2) s (nI 1) s' = nI 0
    have : s' ≠ s := fun e => sk_ne k i (h.sg _ _ (sk_lt hi) hk (by rw [e1, e, h10]))
    rw [rowPut_in h4, upd_ne this]
    exact e2
  · have hi2 : i < x.2.2.1 + 1 := hi
    by_cases e : i = x.2.2.1
    · subst e
      refine ⟨s, w, h4, h1, ?_, ?_, ?_⟩
      · show rowPut 64 (x.2.2.2.2.1 0) x.2.2.1 (nI s) x.2.2.1 = _
        rw [rowPut_in ht, upd_eq rfl]
      · show rowPut 64 (x.2.2.2.2.1 1) x.2.2.1 (x.2.1 0 k) x.2.2.1 = _
        rw [rowPut_in ht, upd_eq rfl, h8]
      · show isL (vf_upd x.2.2.2.2.2.1 x.2.2.1 _ x.2.2.1)
        simp only [vf_upd, if_true]
        exact hl
    · obtain ⟨s', w', g1, g2, g3, g4, g5⟩ := h.t (i := i) (by omega)
      refine ⟨s', w', g1, g2, ?_, ?_, ?_⟩
      · show rowPut 64 (x.2.2.2.2.1 0) x.2.2.1 (nI s) i = _
        rw [rowPut_in ht, upd_ne e, g3]
      · show rowPut 64 (x.2.2.2.2.1 1) x.2.2.1 (x.2.1 0 k) i = _
        rw [rowPut_in ht, upd_ne e, g4]
      · show isL (vf_upd x.2.2.2.2.2.1 x.2.2.1 _ i)
        simp only [vf_upd, if_neg e]
        exact g5
  · show FP.fadd x.2.2.2.1 _ = FP.fadd (fsum (vf_upd x.2.2.2.2.2.1 x.2.2.1 _) x.2.2.1) (vf_upd x.2.2.2.2.2.1 x.2.2.1 _ x.2.2.1)
    rw [show vf_upd x.2.2.2.2.2.1 x.2.2.1 (lfO (x.2.1 3 k) (x.2.1 4 k) (nI (x.2.2.2.2.2.2.2 3))) x.2.2.1 = lfO (x.2.1 3 k) (x.2.1 4 k) (nI (x.2.2.2.2.2.2.2 3)) from by simp [vf_upd], h.sm]
    refine congrArg (FP.fadd · _) (fsum_cong (fun i hi => ?_))
    have : i ≠ x.2.2.1 := by omega
    simp [vf_upd, this]
  · show rowPut 64 (x.2.2.2.2.1 2) s (nI 1) s' = nI 0 ∨ rowPut 64 (x.2.2.2.2.1 2) s (nI 1) s' = nI 1
    rw [rowPut_in h4]
    by_cases e : s' = s
    · rw [upd_eq e]; exact Or.inr rfl
    · rw [upd_ne e]; exact h.kn s' hs'
  · show cnt (fun s' => decide (rowPut 64 (x.2.2.2.2.1 2) s (nI 1) s' = nI 1)) 64 = x.2.2.1 + 1
    rw [← h.ct]
    refine cnt_on h4 (by rw [h13]; decide) (by rw [rowPut_in h4, upd_eq rfl]; decide) (fun i hi hne => ?_)
    rw [rowPut_in h4, upd_ne hne]
/-- how many jokes of the well at which the pump is lie within reach -/
def stW (x : SX) : Nat := cnt (cwP x.2.1 (nI (x.2.2.2.2.2.2.2 0)) (nI (x.2.2.2.2.2.2.2 2))) x.1
/-- the joke that lies least deep -/
theorem place0 {x : SX} (h : Inv x) {wl : Int32} : ∀ d : Nat, d ≤ 30 → 0 < cnt (cwP x.2.1 wl (nI d)) x.1 → ∃ k, k < x.1 ∧ bdP x.2.1 x.1 wl (nI 0) k = true ∧ x.2.1 1 k ≤ nI d
  | 0, _, hc => by
    obtain ⟨k, hk, hp⟩ := cnt_ex hc
    obtain ⟨w, d, s, t, p, h1, h2, h3, h4, h5, h6, h7, h8, h9, h10, h11, h12, h13⟩ := h.j hk
    simp only [cwP, decide_eq_true_eq] at hp
    rw [h9, nI_leI (by omega) (by omega)] at hp
    omega
  | d + 1, hd, hc => by
    by_cases q : 0 < cnt (cwP x.2.1 wl (nI d)) x.1
    · obtain ⟨k, hk, hb, hl⟩ := place0 h d (by omega) q
      exact ⟨k, hk, hb, Int32.le_trans hl ((nI_leI (by omega) (by omega)).mpr (by omega))⟩
    · obtain ⟨k, hk, hp⟩ := cnt_ex hc
      obtain ⟨w, d', s, t, p, h1, h2, h3, h4, h5, h6, h7, h8, h9, h10, h11, h12, h13⟩ := h.j hk
      simp only [cwP, decide_eq_true_eq] at hp
      have e : d' = d + 1 := by
        have h14 := hp.2
        rw [h9, nI_leI (by omega) (by omega)] at h14
        by_cases e : d' = d + 1
        · exact e
        · exfalso
          refine q (cnt_pos_of hk ?_)
          simp only [cwP, decide_eq_true_eq]
          refine ⟨hp.1, ?_⟩
          rw [h9, nI_leI (by omega) (by omega)]
          omega
      refine ⟨k, hk, ?_, hp.2⟩
      simp only [bdP, decide_eq_true_eq]
      refine ⟨hp.1, ?_⟩
      rw [h9, e, pk_sub (by omega), show d + 1 - 1 = d by omega, show cnt (cwP x.2.1 wl (nI d)) x.1 = 0 by omega]
theorem fnd_b {x : SX} (h : Inv x) {wl : Int32} {d : Nat} (hd : d ≤ 30) (hc : 0 < cnt (cwP x.2.1 wl (nI d)) x.1) : ∃ k, k < x.1 ∧ ixO (bdP x.2.1 x.1 wl (nI 0)) x.1 = nI k ∧ x.2.1 0 k = wl ∧ x.2.1 1 k ≤ nI d := by
  obtain ⟨k, hk, hb, hl⟩ := place0 h d hd hc
  have h1 : fnd (bdP x.2.1 x.1 wl (nI 0)) x.1 < x.1 := fnd_lt_of hk hb
  obtain ⟨h2, h3⟩ := fnd_yes h1
  have h2' := h2
  simp only [bdP, decide_eq_true_eq] at h2' hb
  refine ⟨_, h1, by rw [ixO, if_pos h1], h2'.1, ?_⟩
  obtain ⟨w, d', s, t, p, g1, g2, g3, g4, g5, g6, g7, g8, g9, g10, g11, g12, g13⟩ := h.j hk
  obtain ⟨w2, d2, s2, t2, p2, k1, k2, k3, k4, k5, k6, k7, k8, k9, k10, k11, k12, k13⟩ := h.j h1
  have hn := h.n
  have c0 := cnt_le (cwP x.2.1 wl (x.2.1 1 (fnd (bdP x.2.1 x.1 wl (nI 0)) x.1) - nI 1)) x.1
  have c1 := nI_inj (by omega) (by omega) h2'.2
  rw [k9, pk_sub (by omega)] at c1
  rw [g9, nI_leI (by omega) (by omega)] at hl
  rw [k9, nI_leI (by omega) (by omega)]
  rcases Nat.lt_or_ge d d2 with q | q
  · exfalso
    have := cnt_pos_of (p := cwP x.2.1 wl (nI (d2 - 1))) hk (by
      simp only [cwP, decide_eq_true_eq]
      refine ⟨hb.1, ?_⟩
      rw [g9, nI_leI (by omega) (by omega)]
      omega)
    omega
  · exact q
/-- a step of a stroke -/
theorem lift_step {x : SX} (h : Inv x) (hc : 0 < stW x) : ∃ k sg, liftOk x k sg ∧ ixO (bdP x.2.1 x.1 (nI (x.2.2.2.2.2.2.2 0)) (nI 0)) x.1 = nI k ∧ liftF x = lift1 x k sg ∧ Inv (lift1 x k sg) ∧ stW (lift1 x k sg) + 1 = stW x ∧ x.2.1 1 k ≤ nI (x.2.2.2.2.2.2.2 2) := by
  obtain ⟨hz0, hz1a, hz1, hz2, hz3, hz4⟩ := h.zz
  have hn := h.n
  obtain ⟨k, hk, hi, hw, hd⟩ := fnd_b h hz2 hc
  obtain ⟨sg, g1, g2, g3⟩ := h.sgn hk
  obtain ⟨l1, l2⟩ := h.lift hk g2 g1
  refine ⟨k, sg, l2, hi, ?_, l1, ?_, hd⟩
  · unfold liftF
    rw [hi, cl_n (by omega), g2, cl_n (by omega)]
  · show cnt (cwP (jOut x.2.1 k) (nI (x.2.2.2.2.2.2.2 0)) (nI (x.2.2.2.2.2.2.2 2))) (x.1 - 1) + 1 = cnt (cwP x.2.1 (nI (x.2.2.2.2.2.2.2 0)) (nI (x.2.2.2.2.2.2.2 2))) x.1
    have h1 := cnt_out (p := cwP x.2.1 (nI (x.2.2.2.2.2.2.2 0)) (nI (x.2.2.2.2.2.2.2 2))) hk
    rw [if_pos (by simp only [cwP, decide_eq_true_eq]; exact ⟨hw, hd⟩)] at h1
    rw [cwP_out hn]
    exact h1
/-- whether another joke is lifted, as the reference asks -/
theorem lift_more {x : SX} (h : Inv x) : 0 < stW x ↔ ∃ k, k < x.1 ∧ ixO (bdP x.2.1 x.1 (nI (x.2.2.2.2.2.2.2 0)) (nI 0)) x.1 = nI k ∧ x.2.1 1 k ≤ nI (x.2.2.2.2.2.2.2 2) := by
  have hn := h.n
  constructor
  · intro hc
    obtain ⟨k, sg, h1, h2, h3, h4, h5, h6⟩ := lift_step h hc
    exact ⟨k, h1.1, h2, h6⟩
  · rintro ⟨k, h1, h2, h3⟩
    rw [ixO] at h2
    split at h2
    · rename_i q
      have e := nI_inj (by omega) (by omega) h2
      have hy := (fnd_yes q).1
      rw [e] at hy
      simp only [bdP, decide_eq_true_eq] at hy
      exact cnt_pos_of h1 (by simp only [cwP, decide_eq_true_eq]; exact ⟨hy.1, h3⟩)
    · exfalso
      have := nI_pos (n := k) (by omega)
      rw [← h2] at this
      exact this (by decide)
theorem lifts_all : ∀ (c : Nat) {x : SX}, Inv x → c ≤ stW x → LiftR c x (liftsF c x) ∧ Inv (liftsF c x) ∧ stW (liftsF c x) + c = stW x ∧ (liftsF c x).2.2.2.2.2.2 = x.2.2.2.2.2.2
  | 0, x, h, _ => ⟨rfl, h, rfl, rfl⟩
  | c + 1, x, h, hc => by
    obtain ⟨k, sg, h1, h2, h3, h4, h5, h6⟩ := lift_step h (by omega)
    obtain ⟨g1, g2, g3, g4⟩ := lifts_all c h4 (by omega)
    have e : liftsF (c + 1) x = liftsF c (lift1 x k sg) := by rw [liftsF, h3]
    rw [e]
    exact ⟨⟨k, sg, h1, h2, g1⟩, g2, by omega, g4⟩
theorem Inv.strk {x : SX} (h : Inv x) (h4 : x.2.2.2.2.2.2.2 3 ≤ 40) : Inv (strk x) := by
  obtain ⟨h1, h2, h3, h5, h6, h7, h8, h9, h10, h11, hz0, hz1a, hz1, hz2, hz3, hz4⟩ := h
  refine ⟨h1, h2, h3, h5, h6, h7, h8, h9, h10, h11, hz0, hz1a, hz1, ?_, ?_, hz4⟩
  · show min 30 (_ + _) ≤ 30; omega
  · show _ + (1 + min 30 (_ + _) / 10) ≤ 44; omega
theorem stroke_ok {x : SX} (h : Inv x) (h4 : x.2.2.2.2.2.2.2 3 ≤ 40) : LiftR (stCnt (strk x)) (strk x) (strokeF x) ∧ Inv (strokeF x) := by
  have hc : stCnt (strk x) ≤ stW (strk x) := Nat.min_le_left _ _
  obtain ⟨g1, g2, g3, g4⟩ := lifts_all _ (h.strk h4) hc
  exact ⟨g1, g2⟩
theorem iv_ok : IvOk Inv := fun y h => by
  obtain ⟨hz0, hz1a, hz1, hz2, hz3, hz4⟩ := h.zz
  exact ⟨⟨h.n, h.tn, hz0, by omega, by omega, fun k => by have := h.bk k; omega, by omega⟩, fun h4 => stroke_ok h h4⟩
