/-! what each change keeps -/
theorem ixO_none {p : Nat → Bool} {n : Nat} (hn : n < 2147483648) (h : ixO p n = -1) : ∀ k, k < n → p k = false := by
  intro k hk
  rcases hp : p k with _ | _
  · rfl
  · exfalso
    have h1 := fnd_lt_of hk hp
    rw [ixO, if_pos h1] at h
    exact absurd (show nI (fnd p n) < 0 by rw [h]; decide) (nI_pos (by omega))
def jNew (w d s t : Int32) (q : Nat) : Int32 := match q with | 0 => w | 1 => d | 2 => s | 3 => t | _ => nI 0
theorem jAdd_at {j : Nat → Nat → Int32} {n k q : Nat} {w d s t : Int32} (hn : n < 12) : jAdd j n w d s t q k = if k = n then jNew w d s t q else j q k := by
  show rowPut 12 (j q) n (jNew w d s t q) k = _
  rw [rowPut_in hn]
  rfl
theorem Inv.come {x : SX} (h : Inv x) {wl dp sg wt : Int32} (c0 : inW wl (nI 0) (nI 3)) (c1 : inW dp (nI 1) (nI 30)) (c2 : inW sg (nI 0) (nI 63)) (c3 : inW wt (nI 1) (nI 9)) (c4 : x.2.2.2.2.1 2 (cl sg) = 0) (c5 : ixO (fun k => decide (x.2.1 2 k = sg)) x.1 = -1) (c6 : ixO (fun k => decide (x.2.1 0 k = wl ∧ x.2.1 1 k = dp)) x.1 = -1) (c7 : x.1 < 12) (c8 : cnt (cwP (x.2.1) wl (nI 30)) x.1 < 6) : Inv (xCome x wl dp sg wt) := by
  have d5 := ixO_none (by omega) c5
  have d6 := ixO_none (by omega) c6
  obtain ⟨kw, w1, w2, rfl⟩ := inW_of (by decide) (by decide) c0
  obtain ⟨kd, e1, e2, rfl⟩ := inW_of (by decide) (by decide) c1
  obtain ⟨ks, s1, s2, rfl⟩ := inW_of (by decide) (by decide) c2
  obtain ⟨kt, t1, t2, rfl⟩ := inW_of (by decide) (by decide) c3
  rw [cl_n (by omega)] at c4
  have key : ∀ q k, (xCome x (nI kw) (nI kd) (nI ks) (nI kt)).2.1 q k = if k = x.1 then jNew (nI kw) (nI kd) (nI ks) (nI kt) q else x.2.1 q k := fun q k => jAdd_at c7
  refine ⟨by show x.1 + 1 ≤ 12; omega, fun k hk => ?_, fun a b ha hb e => ?_, fun a b ha hb e1 e2 => ?_, fun w hw => ?_, h.2.2.2.2.2.1, h.sm, h.kn, h.ct, h.bk, h.zz⟩
  · have hk2 : k < x.1 + 1 := hk
    by_cases ek : k = x.1
    · refine ⟨kw, kd, ks, kt, 0, by omega, by omega, by omega, by omega, by omega, by omega, by omega, ?_, ?_, ?_, ?_, ?_, c4⟩ <;> rw [key, if_pos ek] <;> rfl
    · obtain ⟨w, d, s, t, p, h1, h2, h3, h4, h5, h6, h7, h8, h9, h10, h11, h12, h13⟩ := h.j (k := k) (by omega)
      refine ⟨w, d, s, t, p, h1, h2, h3, h4, h5, h6, h7, ?_, ?_, ?_, ?_, ?_, h13⟩ <;> rw [key, if_neg ek] <;> assumption
  · have ha2 : a < x.1 + 1 := ha
    have hb2 : b < x.1 + 1 := hb
    rw [key, key] at e
    by_cases ea : a = x.1 <;> by_cases eb : b = x.1
    · omega
    · rw [if_pos ea, if_neg eb] at e
      have := d5 b (by omega)
      simp only [decide_eq_false_iff_not] at this
      exact absurd e.symm this
    · rw [if_neg ea, if_pos eb] at e
      have := d5 a (by omega)
      simp only [decide_eq_false_iff_not] at this
      exact absurd e this
    · rw [if_neg ea, if_neg eb] at e
      exact h.sg a b (by omega) (by omega) e
  · have ha2 : a < x.1 + 1 := ha
    have hb2 : b < x.1 + 1 := hb
    rw [key, key] at e1 e2
    by_cases ea : a = x.1 <;> by_cases eb : b = x.1
    · omega
    · rw [if_pos ea, if_neg eb] at e1 e2
      have := d6 b (by omega)
      simp only [decide_eq_false_iff_not] at this
      exact absurd ⟨e1.symm, e2.symm⟩ this
    · rw [if_neg ea, if_pos eb] at e1 e2
      have := d6 a (by omega)
      simp only [decide_eq_false_iff_not] at this
      exact absurd ⟨e1, e2⟩ this
    · rw [if_neg ea, if_neg eb] at e1 e2
      exact h.dp a b (by omega) (by omega) e1 e2
  · show cnt (cwP (xCome x (nI kw) (nI kd) (nI ks) (nI kt)).2.1 (nI w) (nI 30)) (x.1 + 1) ≤ 6
    have hc : cnt (cwP (xCome x (nI kw) (nI kd) (nI ks) (nI kt)).2.1 (nI w) (nI 30)) x.1 = cnt (cwP x.2.1 (nI w) (nI 30)) x.1 := cnt_cong (fun k hk => by simp only [cwP]; rw [key, key, if_neg (by omega), if_neg (by omega)])
    have h6 := h.w6 w hw
    rw [cnt, hc]
    by_cases e : w = kw
    · subst e
      split <;> omega
    · rw [if_neg]
      · exact h6
      · simp only [cwP, decide_eq_true_eq]
        rw [key, if_pos rfl]
        exact fun q => e (nI_inj (by omega) (by omega) q.1).symm
theorem Inv.setz {x : SX} (h : Inv x) {z : Nat → Nat} (hz : z 0 < 4 ∧ 1 ≤ z 1 ∧ z 1 ≤ 10 ∧ z 2 ≤ 30 ∧ z 3 ≤ 44 ∧ z 4 ≤ 9) : Inv (xZ x z) :=
  ⟨h.1, h.2.1, h.2.2.1, h.2.2.2.1, h.2.2.2.2.1, h.2.2.2.2.2.1, h.sm, h.kn, h.ct, h.bk, hz⟩
theorem jPrime_at {j : Nat → Nat → Int32} {k i q : Nat} (hk : k < 12) : jPrime j k q i = if q = 4 ∧ i = k then nI 1 else j q i := by
  rcases q with _ | _ | _ | _ | _ | q
  · rw [if_neg (by omega)]; rfl
  · rw [if_neg (by omega)]; rfl
  · rw [if_neg (by omega)]; rfl
  · rw [if_neg (by omega)]; rfl
  · show rowPut 12 (j 4) k (nI 1) i = _
    rw [rowPut_in hk]
    by_cases e : i = k
    · rw [upd_eq e, if_pos ⟨rfl, e⟩]
    · rw [upd_ne e, if_neg (fun z => e z.2)]
  · rw [if_neg (by omega)]; rfl
theorem Inv.prime {x : SX} (h : Inv x) {k : Nat} (hk : k < x.1) : Inv (xPrime x k) := by
  have hn := h.n
  obtain ⟨hz0, hz1a, hz1, hz2, hz3, hz4⟩ := h.zz
  have key : ∀ q i, (xPrime x k).2.1 q i = if q = 4 ∧ i = k then nI 1 else x.2.1 q i := fun q i => jPrime_at (by omega)
  have key0 : ∀ q, q < 4 → ∀ i, (xPrime x k).2.1 q i = x.2.1 q i := fun q hq i => by rw [key, if_neg (by omega)]
  refine ⟨hn, fun i hi => ?_, fun a b ha hb e => ?_, fun a b ha hb e1 e2 => ?_, fun w hw => ?_, h.2.2.2.2.2.1, h.sm, h.kn, h.ct, h.bk, hz0, hz1a, hz1, hz2, hz3, ?_⟩
  · obtain ⟨w, d, s, t, p, h1, h2, h3, h4, h5, h6, h7, h8, h9, h10, h11, h12, h13⟩ := h.j (k := i) hi
    by_cases e : i = k
    · exact ⟨w, d, s, t, 1, h1, h2, h3, h4, h5, h6, by omega, by rw [key0 0 (by omega)]; exact h8, by rw [key0 1 (by omega)]; exact h9, by rw [key0 2 (by omega)]; exact h10, by rw [key0 3 (by omega)]; exact h11, by rw [key, if_pos ⟨rfl, e⟩], h13⟩
    · exact ⟨w, d, s, t, p, h1, h2, h3, h4, h5, h6, h7, by rw [key0 0 (by omega)]; exact h8, by rw [key0 1 (by omega)]; exact h9, by rw [key0 2 (by omega)]; exact h10, by rw [key0 3 (by omega)]; exact h11, by rw [key, if_neg (fun z => e z.2)]; exact h12, h13⟩
  · rw [key0 2 (by omega), key0 2 (by omega)] at e
    exact h.sg a b ha hb e
  · rw [key0 0 (by omega), key0 0 (by omega)] at e1
    rw [key0 1 (by omega), key0 1 (by omega)] at e2
    exact h.dp a b ha hb e1 e2
  · have : cnt (cwP (xPrime x k).2.1 (nI w) (nI 30)) x.1 = cnt (cwP x.2.1 (nI w) (nI 30)) x.1 := cnt_cong (fun i hi => by simp only [cwP]; rw [key0 0 (by omega), key0 1 (by omega)])
    show cnt (cwP (xPrime x k).2.1 (nI w) (nI 30)) x.1 ≤ 6
    rw [this]
    exact h.w6 w hw
  · show zUp x.2.2.2.2.2.2.2 4 (x.2.2.2.2.2.2.2 4 - 1) 4 ≤ 9
    rw [zUp_eq rfl]
    omega
theorem Inv.go {x : SX} (h : Inv x) {k : Nat} (hk : k < x.1) : Inv (xGo x k) := (h.out hk).setz (z := zUp x.2.2.2.2.2.2.2 6 (x.2.2.2.2.2.2.2 6 + 1)) h.zz
theorem Inv.drain {x : SX} (h : Inv x) {k : Nat} : Inv (xDrain x k) := by
  obtain ⟨hz0, hz1a, hz1, hz2, hz3, hz4⟩ := h.zz
  refine h.setz ⟨hz0, hz1a, hz1, hz2, ?_, ?_⟩
  · show x.2.2.2.2.2.2.2 3 - k ≤ 44; omega
  · show min 9 _ ≤ 9; omega
theorem Inv.stroke {x : SX} (h : Inv x) {k : Nat} (h1 : 1 ≤ k) (h2 : k ≤ 10) : Inv (xZ x (zUp x.2.2.2.2.2.2.2 1 k)) := by
  obtain ⟨hz0, hz1a, hz1, hz2, hz3, hz4⟩ := h.zz
  exact h.setz ⟨hz0, h1, h2, hz2, hz3, hz4⟩
theorem Inv.goTo {x : SX} (h : Inv x) {k : Nat} (h1 : k < 4) : Inv (xZ x (zUp (zUp x.2.2.2.2.2.2.2 0 k) 2 0)) := by
  obtain ⟨hz0, hz1a, hz1, hz2, hz3, hz4⟩ := h.zz
  exact h.setz ⟨h1, hz1a, hz1, Nat.zero_le _, hz3, hz4⟩
theorem Inv.buck {x : SX} (h : Inv x) {k b : Nat} (h1 : 1 ≤ b) (h2 : b ≤ 5) : Inv (xBuck x k b) := by
  refine ⟨h.1, h.2.1, h.2.2.1, h.2.2.2.1, h.2.2.2.2.1, h.2.2.2.2.2.1, h.sm, h.kn, h.ct, fun i => ?_, h.zz⟩
  show 1 ≤ bUp x.2.2.2.2.2.2.1 k b i ∧ bUp x.2.2.2.2.2.2.1 k b i ≤ 5
  unfold bUp
  split
  · exact ⟨h1, h2⟩
  · exact h.bk i
theorem Inv.run : ∀ (n : Nat) {x : SX}, Inv x → Inv (runX n x)
  | 0, _, h => h
  | n + 1, x, h => by
    rw [runX]
    split
    · rename_i c
      exact Inv.run n (stroke_ok h c).2
    · exact h
/-- the account of jokes -/
def Acc (x : SX) : Prop := x.2.2.2.2.2.2.2 5 = x.1 + x.2.2.1 + x.2.2.2.2.2.2.2 6
theorem Acc.lifts : ∀ (c : Nat) {x : SX}, Inv x → c ≤ stW x → Acc x → Acc (liftsF c x)
  | 0, _, _, _, a => a
  | c + 1, x, h, hc, a => by
    obtain ⟨k, sg, h1, h2, h3, h4, h5, h6⟩ := lift_step h (by omega)
    rw [liftsF, h3]
    refine Acc.lifts c h4 (by omega) ?_
    have hk := h1.1
    have a' : x.2.2.2.2.2.2.2 5 = x.1 + x.2.2.1 + x.2.2.2.2.2.2.2 6 := a
    show x.2.2.2.2.2.2.2 5 = x.1 - 1 + (x.2.2.1 + 1) + x.2.2.2.2.2.2.2 6
    omega
theorem Acc.strokeF {x : SX} (h : Inv x) (h4 : x.2.2.2.2.2.2.2 3 ≤ 40) (a : Acc x) : Acc (strokeF x) := Acc.lifts _ (h.strk h4) (Nat.min_le_left _ _) a
theorem Acc.run : ∀ (n : Nat) {x : SX}, Inv x → Acc x → Acc (runX n x)
  | 0, _, _, a => a
  | n + 1, x, h, a => by
    rw [runX]
    split
    · rename_i c
      exact Acc.run n (stroke_ok h c).2 (a.strokeF h c)
    · exact a
def Iva (x : SX) : Prop := Inv x ∧ Acc x
theorem iva_ok : IvOk Iva := fun y h => ⟨(iv_ok y h.1).1, fun h4 => ⟨((iv_ok y h.1).2 h4).1, ((iv_ok y h.1).2 h4).2, h.2.strokeF h.1 h4⟩⟩
/-! one command, by its sort -/
def notC (x : SX) (so : Int32) (f : Nat → Int32) : NT := if so = nI 106 then notJokeF x (f 0) (f 1) (f 2) (f 3) else if so = nI 112 then notPumpF x (f 0) else if so = nI 114 then notPrimeF x (f 0) else if so = nI 100 then notDrainF x (f 0) else if so = nI 111 then notDropF x (f 0) else if so = nI 115 then notStrokeF x (f 0) else if so = nI 98 then notBucketF x (f 0) (f 1) else notGoF x (f 0)
def doC (x : SX) (so : Int32) (f : Nat → Int32) : SX := if so = nI 106 then xCome x (f 0) (f 1) (f 2) (f 3) else if so = nI 112 then runX (cl (f 0)) x else if so = nI 114 then xPrime x (cl (f 0)) else if so = nI 100 then xDrain x (cl (f 0)) else if so = nI 111 then xGo x (cl (f 0)) else if so = nI 115 then xZ x (zUp x.2.2.2.2.2.2.2 1 (cl (f 0))) else if so = nI 98 then xBuck x (cl (f 0)) (cl (f 1)) else xZ x (zUp (zUp x.2.2.2.2.2.2.2 0 (cl (f 0))) 2 0)
theorem Iva.doC {x : SX} (h : Iva x) {so : Int32} {f : Nat → Int32} (hc : (notC x so f).1 = 0) : Iva (doC x so f) := by
  have hn := h.1.n
  have ha : x.2.2.2.2.2.2.2 5 = x.1 + x.2.2.1 + x.2.2.2.2.2.2.2 6 := h.2
  unfold notC at hc
  unfold CJokePumpLaw_law_r2828_e7dfb6.doC
  by_cases e0 : so = nI 106
  · rw [if_pos e0] at hc ⊢
    obtain ⟨h1, h2, h3, h4, h5, h6, h7, h8, h9⟩ := notJoke_ok hc
    exact ⟨h.1.come h1 h2 h3 h4 h5 h6 h7 h8 h9, by show zUp x.2.2.2.2.2.2.2 5 (x.2.2.2.2.2.2.2 5 + 1) 5 = x.1 + 1 + x.2.2.1 + x.2.2.2.2.2.2.2 6; rw [zUp_eq rfl]; omega⟩
  rw [if_neg e0] at hc ⊢
  by_cases e1 : so = nI 112
  · rw [if_pos e1] at hc ⊢
    exact ⟨h.1.run _, h.2.run _ h.1⟩
  rw [if_neg e1] at hc ⊢
  by_cases e2 : so = nI 114
  · rw [if_pos e2] at hc ⊢
    obtain ⟨k, hk6, ⟨hk, hk4, hkp⟩, e⟩ := notPrime_ok (by omega) hc
    rw [e, cl_n (by omega)]
    exact ⟨h.1.prime hk, ha⟩
  rw [if_neg e2] at hc ⊢
  by_cases e3 : so = nI 100
  · rw [if_pos e3] at hc ⊢
    exact ⟨h.1.drain, ha⟩
  rw [if_neg e3] at hc ⊢
  by_cases e4 : so = nI 111
  · rw [if_pos e4] at hc ⊢
    obtain ⟨k, hk6, hk, e⟩ := notDrop_ok (by omega) hc
    rw [e, cl_n (by omega)]
    exact ⟨h.1.go hk, by show x.2.2.2.2.2.2.2 5 = x.1 - 1 + x.2.2.1 + (x.2.2.2.2.2.2.2 6 + 1); omega⟩
  rw [if_neg e4] at hc ⊢
  by_cases e5 : so = nI 115
  · rw [if_pos e5] at hc ⊢
    obtain ⟨k, hk6, ⟨h1, h2, h3⟩, e⟩ := notStroke_ok hc
    rw [e, cl_n (by omega)]
    exact ⟨h.1.stroke h1 h2, ha⟩
  rw [if_neg e5] at hc ⊢
  by_cases e6 : so = nI 98
  · rw [if_pos e6] at hc ⊢
    obtain ⟨k, b2, hk6, ⟨h1, h2, h3, h4⟩, e, e'⟩ := notBucket_ok hc
    rw [e, e', cl_n (by omega), cl_n (by omega)]
    exact ⟨h.1.buck h2 h3, ha⟩
  rw [if_neg e6] at hc ⊢
  obtain ⟨k, hk6, ⟨h1, h2⟩, e⟩ := notGo_ok hc
  rw [e, cl_n (by omega)]
  exact ⟨h.1.goTo h1, ha⟩
/-! the commands of a text -/
abbrev CM1 : Type := Int32 × List Int32
def psF (n : Nat) (a : Nat → Int32) : Nat → Nat → Bool × Nat × List CM1
  | 0, p => (false, p, [])
  | f + 1, p => if (cmR n a p).1.1 = true then (if sgN n a (cmR n a p).1.2.1 = nI 59 then ((psF n a f ((cmR n a p).1.2.1 + 1)).1, (psF n a f ((cmR n a p).1.2.1 + 1)).2.1, ((cmR n a p).2, (cmR n a p).1.2.2) :: (psF n a f ((cmR n a p).1.2.1 + 1)).2.2) else (decide ((cmR n a p).1.2.1 = n), (cmR n a p).1.2.1, [((cmR n a p).2, (cmR n a p).1.2.2)])) else (false, (cmR n a p).1.2.1, [])
def c1F (c : CM1) : Nat → Int32 := fun j => c.2.getD j 0
def dlF : List CM1 → Nat → SX → NT × Nat × SX
  | [], k, x => (okN, k, x)
  | c :: r, k, x => if (notC x c.1 (c1F c)).1 = 0 then dlF r (k + 1) (doC x c.1 (c1F c)) else (notC x c.1 (c1F c), k, x)
theorem nmP_lt {vs : List Int32} : ∀ {nm : Nat → Int32} {k i : Nat}, i < k → nmP nm k vs i = nm i := by
  induction vs with
  | nil => intro nm k i _; rfl
  | cons v r ih => intro nm k i h; rw [nmP, ih (by omega), upd_ne (by omega)]
theorem nmP_get {vs : List Int32} : ∀ {nm : Nat → Int32} {k j : Nat}, j < vs.length → nmP nm k vs (k + j) = vs.getD j 0 := by
  induction vs with
  | nil => intro nm k j h; exact absurd h (Nat.not_lt_zero _)
  | cons v r ih =>
    intro nm k j h
    rcases j with _ | j
    · show nmP (upd nm k v) (k + 1) r (k + 0) = v
      rw [nmP_lt (by omega)]
      exact upd_eq (by omega)
    · have h' : j < r.length := by simpa using h
      rw [nmP, show k + (j + 1) = (k + 1) + j by omega, ih h']; rfl
/-- the sorts, with how many numbers each has -/
def arOk (c : CM1) : Prop := (c.1 = nI 106 ∧ c.2.length = 4) ∨ (c.1 = nI 112 ∧ c.2.length = 1) ∨ (c.1 = nI 114 ∧ c.2.length = 1) ∨ (c.1 = nI 100 ∧ c.2.length = 1) ∨ (c.1 = nI 111 ∧ c.2.length = 1) ∨ (c.1 = nI 115 ∧ c.2.length = 1) ∨ (c.1 = nI 98 ∧ c.2.length = 2) ∨ (c.1 = nI 103 ∧ c.2.length = 1)
def nDig : List Nat → Nat
  | [] => 0
  | k :: r => (if k = 35 ∨ k = 37 then 1 else 0) + nDig r
theorem mt_len {n : Nat} {a : Nat → Int32} : ∀ (L : List Nat) {p : Nat}, (mt n a L p).1 = true → (mt n a L p).2.2.length = nDig L
  | [], _, _ => rfl
  | k :: r, p, h => by
    rw [mt] at h ⊢
    rw [nDig]
    by_cases e : k = 35
    · rw [if_pos e] at h ⊢
      split at h
      · rename_i c
        rw [if_pos c, if_pos (Or.inl e)]
        have := mt_len r h
        simp only [List.length_cons, this]
        omega
      · exact absurd h (show ¬ (false = true) by decide)
    · rw [if_neg e] at h ⊢
      by_cases e2 : k = 37
      · rw [if_pos e2] at h ⊢
        split at h
        · rename_i c
          rw [if_pos c, if_pos (Or.inr e2)]
          have := mt_len r h
          simp only [List.length_cons, this]
          omega
        · exact absurd h (show ¬ (false = true) by decide)
      · rw [if_neg e2] at h ⊢
        split at h
        · rename_i c
          rw [if_pos c, if_neg (by omega), Nat.zero_add]
          exact mt_len r h
        · exact absurd h (show ¬ (false = true) by decide)
theorem cmR_ar {n : Nat} {a : Nat → Int32} {p : Nat} (h : (cmR n a p).1.1 = true) : arOk ((cmR n a p).2, (cmR n a p).1.2.2) := by
  unfold cmR at h ⊢
  by_cases c0 : sgN n a p = nI 106
  · rw [if_pos c0] at h ⊢; exact Or.inl ⟨rfl, mt_len _ h⟩
  rw [if_neg c0] at h ⊢
  by_cases c1 : sgN n a p = nI 112
  · rw [if_pos c1] at h ⊢
    unfold fmP at h ⊢
    by_cases d : sgN n a (p + 1) = nI 117
    · rw [if_pos d] at h ⊢; exact Or.inr (Or.inl ⟨rfl, mt_len _ h⟩)
    · rw [if_neg d] at h ⊢; exact Or.inr (Or.inr (Or.inl ⟨rfl, mt_len _ h⟩))
  rw [if_neg c1] at h ⊢
  by_cases c2 : sgN n a p = nI 100
  · rw [if_pos c2] at h ⊢
    unfold fmD at h ⊢
    by_cases d : sgN n a (p + 1) = nI 114
    · rw [if_pos d] at h ⊢
      by_cases d2 : sgN n a (p + 1 + 1) = nI 97
      · rw [if_pos d2] at h ⊢; exact Or.inr (Or.inr (Or.inr (Or.inl ⟨rfl, mt_len _ h⟩)))
      · rw [if_neg d2] at h ⊢; exact Or.inr (Or.inr (Or.inr (Or.inr (Or.inl ⟨rfl, mt_len _ h⟩))))
    · rw [if_neg d] at h; exact absurd h (show ¬ (false = true) by decide)
  rw [if_neg c2] at h ⊢
  by_cases c3 : sgN n a p = nI 115
  · rw [if_pos c3] at h ⊢; exact Or.inr (Or.inr (Or.inr (Or.inr (Or.inr (Or.inl ⟨rfl, mt_len _ h⟩)))))
  rw [if_neg c3] at h ⊢
  by_cases c4 : sgN n a p = nI 98
  · rw [if_pos c4] at h ⊢; exact Or.inr (Or.inr (Or.inr (Or.inr (Or.inr (Or.inr (Or.inl ⟨rfl, mt_len _ h⟩))))))
  rw [if_neg c4] at h ⊢
  by_cases c5 : sgN n a p = nI 103
  · exact Or.inr (Or.inr (Or.inr (Or.inr (Or.inr (Or.inr (Or.inr ⟨c5, mt_len _ h⟩))))))
  · rw [mt_cn 103 (by decide) (by decide) c5] at h
    exact absurd h (show ¬ (false = true) by decide)
/-- notC and doC ask only the numbers that a command has -/
theorem notC_cong {x : SX} {c : CM1} (h : arOk c) {f : Nat → Int32} (e : ∀ j, j < c.2.length → f j = c1F c j) : notC x c.1 f = notC x c.1 (c1F c) ∧ doC x c.1 f = doC x c.1 (c1F c) := by
  unfold notC doC
  rcases h with ⟨h1, h2⟩ | ⟨h1, h2⟩ | ⟨h1, h2⟩ | ⟨h1, h2⟩ | ⟨h1, h2⟩ | ⟨h1, h2⟩ | ⟨h1, h2⟩ | ⟨h1, h2⟩
  · have e0 := e 0 (by omega)
    have e1 := e 1 (by omega)
    have e2 := e 2 (by omega)
    have e3 := e 3 (by omega)
    simp only [h1, ↓reduceIte, e0, e1, e2, e3, and_self]
  · have e0 := e 0 (by omega)
    simp only [h1, if_neg (show ¬ nI 112 = nI 106 by decide), ↓reduceIte, e0, and_self]
  · have e0 := e 0 (by omega)
    simp only [h1, if_neg (show ¬ nI 114 = nI 106 by decide), if_neg (show ¬ nI 114 = nI 112 by decide), ↓reduceIte, e0, and_self]
  · have e0 := e 0 (by omega)
    simp only [h1, if_neg (show ¬ nI 100 = nI 106 by decide), if_neg (show ¬ nI 100 = nI 112 by decide), if_neg (show ¬ nI 100 = nI 114 by decide), ↓reduceIte, e0, and_self]
  · have e0 := e 0 (by omega)
    simp only [h1, if_neg (show ¬ nI 111 = nI 106 by decide), if_neg (show ¬ nI 111 = nI 112 by decide), if_neg (show ¬ nI 111 = nI 114 by decide), if_neg (show ¬ nI 111 = nI 100 by decide), ↓reduceIte, e0, and_self]
  · have e0 := e 0 (by omega)
    simp only [h1, if_neg (show ¬ nI 115 = nI 106 by decide), if_neg (show ¬ nI 115 = nI 112 by decide), if_neg (show ¬ nI 115 = nI 114 by decide), if_neg (show ¬ nI 115 = nI 100 by decide), if_neg (show ¬ nI 115 = nI 111 by decide), ↓reduceIte, e0, and_self]
  · have e0 := e 0 (by omega)
    have e1 := e 1 (by omega)
    simp only [h1, if_neg (show ¬ nI 98 = nI 106 by decide), if_neg (show ¬ nI 98 = nI 112 by decide), if_neg (show ¬ nI 98 = nI 114 by decide), if_neg (show ¬ nI 98 = nI 100 by decide), if_neg (show ¬ nI 98 = nI 111 by decide), if_neg (show ¬ nI 98 = nI 115 by decide), ↓reduceIte, e0, e1, and_self]
  · have e0 := e 0 (by omega)
    simp only [h1, if_neg (show ¬ nI 103 = nI 106 by decide), if_neg (show ¬ nI 103 = nI 112 by decide), if_neg (show ¬ nI 103 = nI 114 by decide), if_neg (show ¬ nI 103 = nI 100 by decide), if_neg (show ¬ nI 103 = nI 111 by decide), if_neg (show ¬ nI 103 = nI 115 by decide), if_neg (show ¬ nI 103 = nI 98 by decide), ↓reduceIte, e0, and_self]
