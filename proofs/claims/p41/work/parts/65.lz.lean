/-! the invariant of the law, and the pump's calls told in it -/
def PZ (g : gT) (N : Nat) (ad : Nat → Nat) (F : Nat → va_E) (x sv : SX) (hs : Nat → SX) (ct : Nat) (q : Nat → Int32) (il : Nat) : Prop := Iva x ∧ (∀ i, i < ct → Iva (hs i)) ∧ ct ≤ 8 ∧ il ≤ 60 ∧ ∃ (nx : Nat) (L : LN) (ia : Nat → Int32), nx < 9 ∧ PC g N ad F x sv hs ct nx L il ia q
theorem CtI_imp {l : Launch} {y : MethodName} {cc : ByteArray} {nL : Nat} {ret : Option FieldType} {fm lo : Nat} {g : gT} {N : Nat} {ad : Nat → Nat} {F : Nat → va_E} {As : List Value} {post post' : Int32 → (Nat → va_E) → Prop} (h : CtI l y cc nL ret fm lo g N ad F As post) (hi : ∀ r F', post r F' → post' r F') : CtI l y cc nL ret fm lo g N ad F As post' := by
  intro sz p e ha hc hk s m args below hf happ hP hK
  obtain ⟨t, o, h1, h2, h3, ⟨⟨r, u, e1, e2, e3⟩, hF⟩, hL⟩ := h sz p e ha hc hk s m args below hf happ hP hK
  exact ⟨t, o, h1, h2, h3, ⟨⟨r, u, e1, hi r u e2, e3⟩, hF⟩, hL⟩
theorem turnR_q0 {q : Nat → Int32} {x : SX} {t : NT} {a : Int32} {x' : SX} : (turnR q x t a x').2.1 0 = q 0 := by
  unfold turnR
  split
  · rfl
  · show (if t.1 = -5 then qRef q t.2.1 t.2.2 else q) 0 = q 0
    split <;> rfl
theorem dcF_q0 {x : SX} {q : Nat → Int32} {kd nm : Nat → Int32} {cm : Nat} : (dcF x q kd nm cm).2.1 0 = q 0 := by
  unfold dcF
  split
  · rw [letComeF_turn]; exact turnR_q0
  split
  · rw [primeF_turn]; exact turnR_q0
  split
  · rw [letGoF_turn]; exact turnR_q0
  split
  · rw [drainF_turn]; exact turnR_q0
  split
  · rw [strokeSF_turn]; exact turnR_q0
  split
  · rw [bucketF_turn]; exact turnR_q0
  split
  · rw [goF_turn]; exact turnR_q0
  split
  · rw [pumpF_turn]; exact turnR_q0
  · rfl
theorem dsF_ok {rc : Nat} {kd nm : Nat → Int32} : ∀ (f cm : Nat) (x : SX) (q : Nat → Int32), Iva x → Iva (dsF rc kd nm f cm x q).2.2 ∧ (dsF rc kd nm f cm x q).2.1 0 = q 0
  | 0, cm, x, q, h => by rw [dsF]; exact ⟨h, rfl⟩
  | f + 1, cm, x, q, h => by
    have hi : Iva (dcF x q kd nm cm).2.2 := dcF_iva h
    have hq : (dcF x q kd nm cm).2.1 0 = q 0 := dcF_q0
    rw [dsF]
    split
    · exact ⟨hi, hq⟩
    · have z := dsF_ok (rc := rc) (kd := kd) (nm := nm) f (cm + 1) (dcF x q kd nm cm).2.2 (dcF x q kd nm cm).2.1 hi
      exact ⟨z.1, z.2.trans hq⟩
theorem rdF_ok {x : SX} {q : Nat → Int32} {T : Bool × RDX} (h : Iva x) : (rdF x q T).2.1 0 = q 0 ∧ Iva (rdF x q T).2.2 ∧ ((rdF x q T).1 < 0 → (rdF x q T).2.2 = x) ∧ (¬ (rdF x q T).1 < 0 → T.1 = true) := by
  unfold rdF
  split
  · rename_i c
    have z := dsF_ok (rc := T.2.1) (kd := T.2.2.2.1) (nm := T.2.2.2.2) T.2.1 0 x q h
    refine ⟨z.2, ?_, ?_, fun _ => c⟩
    · show Iva (if (dsR x q T.2).1 < 0 then x else (dsR x q T.2).2.2)
      split
      · exact h
      · exact z.1
    · intro hr
      show (if (dsR x q T.2).1 < 0 then x else (dsR x q T.2).2.2) = x
      rw [if_pos hr]
  · exact ⟨rfl, h, fun _ => rfl, fun z => absurd (show (-2 : Int32) < 0 by decide) z⟩
def TZ (g : gT) (N : Nat) (ad : Nat → Nat) (x sv : SX) (hs : Nat → SX) (ct : Nat) (q : Nat → Int32) (il : Nat) (t : NT) (a : Int32) (x' : SX) (r : Int32) (F1 : Nat → va_E) : Prop := (t.1 = 0 → r = a ∧ ¬ a < 0 ∧ PZ g N ad F1 x' sv (hPush hs ct x) (min 8 (ct + 1)) q il) ∧ (t.1 ≠ 0 → r = t.1 ∧ t.1 < 0 ∧ PZ g N ad F1 x sv hs ct (if t.1 = -5 then qRef q t.2.1 t.2.2 else q) il)
section LZ
variable {g : gT} {N : Nat} {ad : Nat → Nat} {F F1 : Nat → va_E} {x sv : SX} {hs : Nat → SX} {ct nx il : Nat} {L : LN} {ia q : Nat → Int32}
theorem tz_of (h1 : Iva x) (h2 : ∀ i, i < ct → Iva (hs i)) (hct : ct ≤ 8) (hil : il ≤ 60) (hnx : nx < 9) (h : PC g N ad F x sv hs ct nx L il ia q) {R : RES} {t : NT} {a : Int32} {x' : SX} (hR : R = turnR q x t a x') (hN : NegT t) (ha : t.1 = 0 → ¬ a < 0) (hx' : t.1 = 0 → Iva x') {r : Int32} (post : r = R.1 ∧ oP0 g N ad F1 R.2.1 ∧ oSt g N ad F1 1 R.2.2 ∧ oSt g N ad F1 (47 + 22 * nx) x ∧ oHist g N ad F1 (nx2 R.1 nx) (ct2 R.1 ct) ∧ ∀ i, ((22 < i ∧ i < 47 + 22 * nx ∧ i ≠ 45) ∨ 47 + 22 * nx + 21 < i) → F1 i = F i) : TZ g N ad x sv hs ct q il t a x' r F1 := by
  obtain ⟨hr, hT1, hT2, -⟩ := pc_turn h hct hnx hR hN ha post
  refine ⟨fun e => ?_, fun e => ?_⟩
  · rw [if_pos e] at hr
    exact ⟨hr, ha e, hx' e, hs_push h1 h2 hct, by omega, hil, nxUp nx, L, ia, by unfold nxUp; split <;> omega, hT1 e⟩
  · rw [if_neg e] at hr
    exact ⟨hr, hN.neg e, h1, h2, hct, hil, nx, L, ia, hnx, hT2 e⟩
theorem z_jokeOf (l : Launch) (hZ : PZ g N ad F x sv hs ct q il) (a wh : Int32) : CtI l yX7_jokeOf cX7_jokeOf 4 (some .int) 2 45 g N ad F [.ref (ad 0), .int a, .int wh] (fun r F' => r = jokeOfF x a wh ∧ F' = F) := by
  obtain ⟨h1, h2, hct, hil, nx, L, ia, hnx, hC⟩ := hZ
  have hI := h1.1
  have hn12 := hI.n
  have htn64 := hI.tn
  obtain ⟨hz0, hz1a, hz1, hz2, hz3, hz4⟩ := hI.zz
  exact c_X7_jokeOf l g x q hC.1 hC.2.1 hn12 htn64 a wh
theorem z_wellOf (l : Launch) (hZ : PZ g N ad F x sv hs ct q il) (a wh : Int32) : CtI l yX7_wellOf cX7_wellOf 3 (some .int) 4 90 g N ad F [.ref (ad 0), .int a, .int wh] (fun r F' => r = wellOfF x a wh ∧ F' = F) := by
  obtain ⟨h1, h2, hct, hil, nx, L, ia, hnx, hC⟩ := hZ
  have hI := h1.1
  have hn12 := hI.n
  have htn64 := hI.tn
  obtain ⟨hz0, hz1a, hz1, hz2, hz3, hz4⟩ := hI.zz
  exact c_X7_wellOf l g x q hC.1 hC.2.1 hn12 htn64 a wh
theorem z_isKnown (l : Launch) (hZ : PZ g N ad F x sv hs ct q il) (a : Int32) : CtI l yX7_isKnown cX7_isKnown 2 (some .int) 1 22 g N ad F [.ref (ad 0), .int a] (fun r F' => r = isKnownF x a ∧ F' = F) := by
  obtain ⟨h1, h2, hct, hil, nx, L, ia, hnx, hC⟩ := hZ
  have hI := h1.1
  have hn12 := hI.n
  have htn64 := hI.tn
  obtain ⟨hz0, hz1a, hz1, hz2, hz3, hz4⟩ := hI.zz
  exact c_X7_isKnown l g x q hC.1 hC.2.1 hn12 htn64 a
theorem z_inWell (l : Launch) (hZ : PZ g N ad F x sv hs ct q il) (a pl : Int32) : CtI l yX7_inWell cX7_inWell 3 (some .int) 3 68 g N ad F [.ref (ad 0), .int a, .int pl] (fun r F' => r = inWellF x a pl ∧ F' = F) := by
  obtain ⟨h1, h2, hct, hil, nx, L, ia, hnx, hC⟩ := hZ
  have hI := h1.1
  have hn12 := hI.n
  have htn64 := hI.tn
  obtain ⟨hz0, hz1a, hz1, hz2, hz3, hz4⟩ := hI.zz
  exact c_X7_inWell l g x q hC.1 hC.2.1 hn12 htn64 a pl
theorem z_laughs (l : Launch) (hZ : PZ g N ad F x sv hs ct q il) : CtF l yX7_laughs cX7_laughs 1 (some .float) 0 0 g N ad F [.ref (ad 0)] (fun r F' => r = x.2.2.2.1 ∧ F' = F) := by
  obtain ⟨h1, h2, hct, hil, nx, L, ia, hnx, hC⟩ := hZ
  have hI := h1.1
  have hn12 := hI.n
  have htn64 := hI.tn
  obtain ⟨hz0, hz1a, hz1, hz2, hz3, hz4⟩ := hI.zz
  exact c_X7_laughs l g x q hC.1 hC.2.1 hn12 htn64
theorem z_wholeLaughs (l : Launch) (hZ : PZ g N ad F x sv hs ct q il) : CtI l yX7_wholeLaughs cX7_wholeLaughs 1 (some .int) 0 0 g N ad F [.ref (ad 0)] (fun r F' => r = FP.f2i x.2.2.2.1 ∧ F' = F) := by
  obtain ⟨h1, h2, hct, hil, nx, L, ia, hnx, hC⟩ := hZ
  have hI := h1.1
  have hn12 := hI.n
  have htn64 := hI.tn
  obtain ⟨hz0, hz1a, hz1, hz2, hz3, hz4⟩ := hI.zz
  exact c_X7_wholeLaughs l g x q hC.1 hC.2.1 hn12 htn64
theorem z_liftedOf (l : Launch) (hZ : PZ g N ad F x sv hs ct q il) (a wh : Int32) : CtI l yX7_liftedOf cX7_liftedOf 5 (some .int) 1 23 g N ad F [.ref (ad 0), .int a, .int wh] (fun r F' => r = liftedF x a wh (fun i => fb (x.2.2.2.2.2.1 i)) ∧ F' = F) := by
  obtain ⟨h1, h2, hct, hil, nx, L, ia, hnx, hC⟩ := hZ
  have hI := h1.1
  have hn12 := hI.n
  have htn64 := hI.tn
  obtain ⟨hz0, hz1a, hz1, hz2, hz3, hz4⟩ := hI.zz
  exact c_X7_liftedOf l g x q hC.1 hC.2.1 hn12 htn64 a wh (fun i => fb (x.2.2.2.2.2.1 i)) (fun k hk => (hI.tl hk).bits)
theorem z_strokes (l : Launch) (hZ : PZ g N ad F x sv hs ct q il) (a : Int32) : CtI l yX7_strokes cX7_strokes 5 (some .int) 2 42 g N ad F [.ref (ad 0), .int a] (fun r F' => r = strokesF x a ∧ F' = F) := by
  obtain ⟨h1, h2, hct, hil, nx, L, ia, hnx, hC⟩ := hZ
  have hI := h1.1
  have hn12 := hI.n
  have htn64 := hI.tn
  obtain ⟨hz0, hz1a, hz1, hz2, hz3, hz4⟩ := hI.zz
  exact c_X7_strokes l g x q hC.1 hC.2.1 hn12 htn64 a (by show x.2.2.2.2.2.2.2 1 ≤ 1000; omega) (by show x.2.2.2.2.2.2.2 2 ≤ 1000; omega) (by show x.2.2.2.2.2.2.2 3 ≤ 1000; omega)
theorem z_strokesAgain (l : Launch) (hZ : PZ g N ad F x sv hs ct q il) (a : Int32) : CtI l yX7_strokesAgain cX7_strokesAgain 3 (some .int) 1 22 g N ad F [.ref (ad 0), .int a] (fun r F' => r = strokesAF x a ∧ F' = F) := by
  obtain ⟨h1, h2, hct, hil, nx, L, ia, hnx, hC⟩ := hZ
  have hI := h1.1
  have hn12 := hI.n
  have htn64 := hI.tn
  obtain ⟨hz0, hz1a, hz1, hz2, hz3, hz4⟩ := hI.zz
  exact c_X7_strokesAgain l g x q hC.1 hC.2.1 hn12 htn64 a (by show x.2.2.2.2.2.2.2 1 ≤ 1000; omega) (by show x.2.2.2.2.2.2.2 2 ≤ 1000; omega) (by show x.2.2.2.2.2.2.2 3 ≤ 1000; omega)
theorem z_bestStroke (l : Launch) (hZ : PZ g N ad F x sv hs ct q il) : CtI l yX7_bestStroke cX7_bestStroke 4 (some .int) 4 90 g N ad F [.ref (ad 0)] (fun r F' => r = bestF x ∧ F' = F) := by
  obtain ⟨h1, h2, hct, hil, nx, L, ia, hnx, hC⟩ := hZ
  have hI := h1.1
  have hn12 := hI.n
  have htn64 := hI.tn
  obtain ⟨hz0, hz1a, hz1, hz2, hz3, hz4⟩ := hI.zz
  exact c_X7_bestStroke l g x q hC.1 hC.2.1 hn12 htn64 (by show x.2.2.2.2.2.2.2 1 ≤ 1000; omega) (by show x.2.2.2.2.2.2.2 2 ≤ 1000; omega) (by show x.2.2.2.2.2.2.2 3 ≤ 1000; omega)
theorem z_funniest (l : Launch) (hZ : PZ g N ad F x sv hs ct q il) (pl : Int32) : CtI l yX7_funniest cX7_funniest 3 (some .int) 4 93 g N ad F [.ref (ad 0), .int pl] (fun r F' => r = funniestF x pl ∧ F' = F) := by
  obtain ⟨h1, h2, hct, hil, nx, L, ia, hnx, hC⟩ := hZ
  have hI := h1.1
  have hn12 := hI.n
  have htn64 := hI.tn
  obtain ⟨hz0, hz1a, hz1, hz2, hz3, hz4⟩ := hI.zz
  exact c_X7_funniest l g x q hC.1 hC.2.1 hn12 htn64 pl (fun k hk => hI.lnn hk (by show x.2.2.2.2.2.2.2 3 ≤ 50; omega))
theorem z_fullest (l : Launch) (hZ : PZ g N ad F x sv hs ct q il) (pl : Int32) : CtI l yX7_fullest cX7_fullest 3 (some .int) 5 115 g N ad F [.ref (ad 0), .int pl] (fun r F' => r = fullestF x pl ∧ F' = F) := by
  obtain ⟨h1, h2, hct, hil, nx, L, ia, hnx, hC⟩ := hZ
  have hI := h1.1
  have hn12 := hI.n
  have htn64 := hI.tn
  obtain ⟨hz0, hz1a, hz1, hz2, hz3, hz4⟩ := hI.zz
  exact c_X7_fullest l g x q hC.1 hC.2.1 hn12 htn64 pl (fun k => by have := hI.bk k; show x.2.2.2.2.2.2.1 k ≤ 1000; omega)
theorem z_isCounted (l : Launch) (hZ : PZ g N ad F x sv hs ct q il) : CtI l yX7_isCounted cX7_isCounted 2 (some .boolean) 4 87 g N ad F [.ref (ad 0)] (fun r F' => r = bI (nI (x.2.2.2.2.2.2.2 5) = nI (x.1 + x.2.2.1 + x.2.2.2.2.2.2.2 6)) ∧ F' = F) := by
  obtain ⟨h1, h2, hct, hil, nx, L, ia, hnx, hC⟩ := hZ
  have hI := h1.1
  have hn12 := hI.n
  have htn64 := hI.tn
  obtain ⟨hz0, hz1a, hz1, hz2, hz3, hz4⟩ := hI.zz
  exact c_X7_isCounted l g x q hC.1 hC.2.1 hn12 htn64 (by show x.2.2.2.2.2.2.2 1 ≤ 1000; omega) (by show x.2.2.2.2.2.2.2 2 ≤ 1000; omega) (by show x.2.2.2.2.2.2.2 3 ≤ 1000; omega) hI.hnn hI.hal (fun k _ _ => strokes_eq hI (nI k)) hI.hsu
theorem z_would (l : Launch) (hZ : PZ g N ad F x sv hs ct q il) (a : Int32) : CtI l yX7_would cX7_would 7 (some .int) 2 45 g N ad F [.ref (ad 0), .int a] (fun r F' => r = wouldF x a ∧ F' = F) := by
  obtain ⟨h1, h2, hct, hil, nx, L, ia, hnx, hC⟩ := hZ
  have hI := h1.1
  have hn12 := hI.n
  have htn64 := hI.tn
  obtain ⟨hz0, hz1a, hz1, hz2, hz3, hz4⟩ := hI.zz
  exact c_X7_would l g x q hC.1 hC.2.1 hn12 htn64 a (by show x.2.2.2.2.2.2.2 1 ≤ 1000; omega) (by show x.2.2.2.2.2.2.2 2 ≤ 30; omega) (by show x.2.2.2.2.2.2.2 3 ≤ 1000; omega) hz0 (by have := hI.bk (x.2.2.2.2.2.2.2 0); show x.2.2.2.2.2.2.1 (x.2.2.2.2.2.2.2 0) ≤ 1000; omega)
theorem z_groansIn (l : Launch) (hZ : PZ g N ad F x sv hs ct q il) (a : Int32) : CtI l yX7_groansIn cX7_groansIn 5 (some .int) 2 42 g N ad F [.ref (ad 0), .int a] (fun r F' => r = groansInF x a ∧ F' = F) := by
  obtain ⟨h1, h2, hct, hil, nx, L, ia, hnx, hC⟩ := hZ
  have hI := h1.1
  have hn12 := hI.n
  have htn64 := hI.tn
  obtain ⟨hz0, hz1a, hz1, hz2, hz3, hz4⟩ := hI.zz
  exact c_X7_groansIn l g x q hC.1 hC.2.1 hn12 htn64 a (by show x.2.2.2.2.2.2.2 1 ≤ 1000; omega) (by show x.2.2.2.2.2.2.2 2 ≤ 1000; omega) (by show x.2.2.2.2.2.2.2 3 ≤ 1000; omega)
theorem z_account (l : Launch) (hZ : PZ g N ad F x sv hs ct q il) (a : Int32) : CtI l yX7_account cX7_account 2 (some .int) 2 43 g N ad F [.ref (ad 0), .int a] (fun r F' => r = accountF x il ct a ∧ F' = F) := by
  obtain ⟨h1, h2, hct, hil, nx, L, ia, hnx, hC⟩ := hZ
  have hI := h1.1
  have hn12 := hI.n
  have htn64 := hI.tn
  obtain ⟨hz0, hz1a, hz1, hz2, hz3, hz4⟩ := hI.zz
  exact c_X7_account l g x q hC.1 hC.2.1 hn12 htn64 nx ct hC.2.2.2.1 il ia hC.2.2.2.2.2.2.1 a
theorem z_reason (l : Launch) (hZ : PZ g N ad F x sv hs ct q il) (d b : Int32) : CtI l yX7_reason cX7_reason 3 (some .int) 1 22 g N ad F [.ref (ad 0), .int d, .int b] (fun r F' => r = reasonF q d b ∧ F' = F) := by
  obtain ⟨h1, h2, hct, hil, nx, L, ia, hnx, hC⟩ := hZ
  have hI := h1.1
  have hn12 := hI.n
  have htn64 := hI.tn
  obtain ⟨hz0, hz1a, hz1, hz2, hz3, hz4⟩ := hI.zz
  exact c_X7_reason l g q hC.1 d b
theorem z_laughBits (l : Launch) (hZ : PZ g N ad F x sv hs ct q il) (a b : Int32) : CtI l yX7_laughBits cX7_laughBits 3 (some .int) 2 44 g N ad F [.ref (ad 0), .int a, .int b] (fun r F' => r = (if hasJ x.1 a then (if inW b (nI 0) (nI 50) then (fb (lfO (x.2.1 3 (cl a)) (x.2.1 4 (cl a)) (nI (cl b)))) else -2) else -1) ∧ F' = F) := by
  obtain ⟨h1, h2, hct, hil, nx, L, ia, hnx, hC⟩ := hZ
  have hI := h1.1
  have hn12 := hI.n
  have htn64 := hI.tn
  obtain ⟨hz0, hz1a, hz1, hz2, hz3, hz4⟩ := hI.zz
  exact c_X7_laughBits l g x q hC.1 hC.2.1 hn12 htn64 a b (fb (lfO (x.2.1 3 (cl a)) (x.2.1 4 (cl a)) (nI (cl b)))) (fun k gr ea eb hk hg => ⟨hI.lnn hk hg, by rw [ea, eb, cl_n (by omega), cl_n (by omega)]; exact (hI.isl hk hg).bits⟩)
theorem z_joke (l : Launch) (hZ : PZ g N ad F x sv hs ct q il) (wl dp sg wt : Int32) : CtI l yX7_joke cX7_joke 5 (some .int) 5 115 g N ad F [.ref (ad 0), .int wl, .int dp, .int sg, .int wt] (fun r F' => TZ g N ad x sv hs ct q il (notJokeF x wl dp sg wt) (nI x.1) (xCome x wl dp sg wt) r F') := by
  obtain ⟨h1, h2, hct, hil, nx, L, ia, hnx, hC⟩ := hZ
  have hI := h1.1
  have hn12 := hI.n
  have htn64 := hI.tn
  obtain ⟨hz0, hz1a, hz1, hz2, hz3, hz4⟩ := hI.zz
  obtain ⟨yk, hyk⟩ := hC.2.2.2.2.1 nx hnx
  exact CtI_imp (c_X7_joke l g x q hC.1 hC.2.1 hn12 htn64 nx ct hC.2.2.2.1 hct hnx yk hyk wl dp sg wt ) (fun r F' post => tz_of h1 h2 hct hil hnx hC letComeF_turn notJoke_c (fun e => nI_pos (by omega)) (fun e => iva_106 h1 e) post)
theorem z_prime (l : Launch) (hZ : PZ g N ad F x sv hs ct q il) (a : Int32) : CtI l yX7_prime cX7_prime 2 (some .int) 5 115 g N ad F [.ref (ad 0), .int a] (fun r F' => TZ g N ad x sv hs ct q il (notPrimeF x a) (nI (x.2.2.2.2.2.2.2 4 - 1)) (xPrime x (cl a)) r F') := by
  obtain ⟨h1, h2, hct, hil, nx, L, ia, hnx, hC⟩ := hZ
  have hI := h1.1
  have hn12 := hI.n
  have htn64 := hI.tn
  obtain ⟨hz0, hz1a, hz1, hz2, hz3, hz4⟩ := hI.zz
  obtain ⟨yk, hyk⟩ := hC.2.2.2.2.1 nx hnx
  exact CtI_imp (c_X7_prime l g x q hC.1 hC.2.1 hn12 htn64 nx ct hC.2.2.2.1 hct hnx yk hyk a (by show x.2.2.2.2.2.2.2 4 < 1000; omega)) (fun r F' post => tz_of h1 h2 hct hil hnx hC primeF_turn notPrime_c (fun e => nI_pos (by omega)) (fun e => iva_114 h1 e) post)
theorem z_drop (l : Launch) (hZ : PZ g N ad F x sv hs ct q il) (a : Int32) : CtI l yX7_drop cX7_drop 2 (some .int) 5 115 g N ad F [.ref (ad 0), .int a] (fun r F' => TZ g N ad x sv hs ct q il (notDropF x a) (nI (x.1 - 1)) (xGo x (cl a)) r F') := by
  obtain ⟨h1, h2, hct, hil, nx, L, ia, hnx, hC⟩ := hZ
  have hI := h1.1
  have hn12 := hI.n
  have htn64 := hI.tn
  obtain ⟨hz0, hz1a, hz1, hz2, hz3, hz4⟩ := hI.zz
  obtain ⟨yk, hyk⟩ := hC.2.2.2.2.1 nx hnx
  exact CtI_imp (c_X7_drop l g x q hC.1 hC.2.1 hn12 htn64 nx ct hC.2.2.2.1 hct hnx yk hyk a ) (fun r F' post => tz_of h1 h2 hct hil hnx hC letGoF_turn notDrop_c (fun e => nI_pos (by omega)) (fun e => iva_111 h1 e) post)
theorem z_drain (l : Launch) (hZ : PZ g N ad F x sv hs ct q il) (a : Int32) : CtI l yX7_drain cX7_drain 2 (some .int) 5 115 g N ad F [.ref (ad 0), .int a] (fun r F' => TZ g N ad x sv hs ct q il (notDrainF x a) (nI (min 9 (x.2.2.2.2.2.2.2 4 + cl a / 10))) (xDrain x (cl a)) r F') := by
  obtain ⟨h1, h2, hct, hil, nx, L, ia, hnx, hC⟩ := hZ
  have hI := h1.1
  have hn12 := hI.n
  have htn64 := hI.tn
  obtain ⟨hz0, hz1a, hz1, hz2, hz3, hz4⟩ := hI.zz
  obtain ⟨yk, hyk⟩ := hC.2.2.2.2.1 nx hnx
  exact CtI_imp (c_X7_drain l g x q hC.1 hC.2.1 hn12 htn64 nx ct hC.2.2.2.1 hct hnx yk hyk a (by show x.2.2.2.2.2.2.2 3 < 1000; omega) (by show x.2.2.2.2.2.2.2 4 < 1000; omega)) (fun r F' post => tz_of h1 h2 hct hil hnx hC drainF_turn notDrain_c (fun e => nI_pos (by omega)) (fun e => iva_100 h1 e) post)
theorem z_stroke (l : Launch) (hZ : PZ g N ad F x sv hs ct q il) (a : Int32) : CtI l yX7_stroke cX7_stroke 2 (some .int) 5 115 g N ad F [.ref (ad 0), .int a] (fun r F' => TZ g N ad x sv hs ct q il (notStrokeF x a) (nI (x.2.2.2.2.2.2.2 1)) (xZ x (zUp x.2.2.2.2.2.2.2 1 (cl a))) r F') := by
  obtain ⟨h1, h2, hct, hil, nx, L, ia, hnx, hC⟩ := hZ
  have hI := h1.1
  have hn12 := hI.n
  have htn64 := hI.tn
  obtain ⟨hz0, hz1a, hz1, hz2, hz3, hz4⟩ := hI.zz
  obtain ⟨yk, hyk⟩ := hC.2.2.2.2.1 nx hnx
  exact CtI_imp (c_X7_stroke l g x q hC.1 hC.2.1 hn12 htn64 nx ct hC.2.2.2.1 hct hnx yk hyk a (by show x.2.2.2.2.2.2.2 1 < 1000; omega)) (fun r F' post => tz_of h1 h2 hct hil hnx hC strokeSF_turn notStroke_c (fun e => nI_pos (by omega)) (fun e => iva_115 h1 e) post)
theorem z_go (l : Launch) (hZ : PZ g N ad F x sv hs ct q il) (a : Int32) : CtI l yX7_go cX7_go 2 (some .int) 5 115 g N ad F [.ref (ad 0), .int a] (fun r F' => TZ g N ad x sv hs ct q il (notGoF x a) (nI (x.2.2.2.2.2.2.2 0)) (xZ x (zUp (zUp x.2.2.2.2.2.2.2 0 (cl a)) 2 0)) r F') := by
  obtain ⟨h1, h2, hct, hil, nx, L, ia, hnx, hC⟩ := hZ
  have hI := h1.1
  have hn12 := hI.n
  have htn64 := hI.tn
  obtain ⟨hz0, hz1a, hz1, hz2, hz3, hz4⟩ := hI.zz
  obtain ⟨yk, hyk⟩ := hC.2.2.2.2.1 nx hnx
  exact CtI_imp (c_X7_go l g x q hC.1 hC.2.1 hn12 htn64 nx ct hC.2.2.2.1 hct hnx yk hyk a (by show x.2.2.2.2.2.2.2 0 < 1000; omega)) (fun r F' post => tz_of h1 h2 hct hil hnx hC goF_turn notGo_c (fun e => nI_pos (by omega)) (fun e => iva_103 h1 e) post)
theorem z_pump (l : Launch) (hZ : PZ g N ad F x sv hs ct q il) (a : Int32) : CtI l yX7_pump cX7_pump 2 (some .int) 5 115 g N ad F [.ref (ad 0), .int a] (fun r F' => TZ g N ad x sv hs ct q il (notPumpF x a) (nI (runN (cl a) x)) (runX (cl a) x) r F') := by
  obtain ⟨h1, h2, hct, hil, nx, L, ia, hnx, hC⟩ := hZ
  have hI := h1.1
  have hn12 := hI.n
  have htn64 := hI.tn
  obtain ⟨hz0, hz1a, hz1, hz2, hz3, hz4⟩ := hI.zz
  obtain ⟨yk, hyk⟩ := hC.2.2.2.2.1 nx hnx
  exact CtI_imp (c_X7_pump l g x q hC.1 hC.2.1 hn12 htn64 nx ct hC.2.2.2.1 hct hnx yk hyk a  Iva iva_ok h1) (fun r F' post => tz_of h1 h2 hct hil hnx hC pumpF_turn notPump_c (fun e => pump_pos hI e) (fun e => iva_112 h1 e) post)
theorem z_bucket (l : Launch) (hZ : PZ g N ad F x sv hs ct q il) (a b : Int32) : CtI l yX7_bucket cX7_bucket 3 (some .int) 5 115 g N ad F [.ref (ad 0), .int a, .int b] (fun r F' => TZ g N ad x sv hs ct q il (notBucketF x a b) (nI (x.2.2.2.2.2.2.1 (cl a))) (xBuck x (cl a) (cl b)) r F') := by
  obtain ⟨h1, h2, hct, hil, nx, L, ia, hnx, hC⟩ := hZ
  have hI := h1.1
  have hn12 := hI.n
  have htn64 := hI.tn
  obtain ⟨hz0, hz1a, hz1, hz2, hz3, hz4⟩ := hI.zz
  obtain ⟨yk, hyk⟩ := hC.2.2.2.2.1 nx hnx
  exact CtI_imp (c_X7_bucket l g x q hC.1 hC.2.1 hn12 htn64 nx ct hC.2.2.2.1 hct hnx yk hyk a b  (fun k => by have := hI.bk k; show x.2.2.2.2.2.2.1 k < 1000; omega)) (fun r F' post => tz_of h1 h2 hct hil hnx hC bucketF_turn notBucket_c (fun e => by have hbk := hI.bk (cl a); exact nI_pos (by omega)) (fun e => iva_98 h1 e) post)
theorem z_undo (l : Launch) (hZ : PZ g N ad F x sv hs ct q il) : CtI l yX7_undo cX7_undo 1 (some .int) 5 115 g N ad F [.ref (ad 0)] (fun r F' => r = (if ct = 0 then -3 else nI (ct - 1)) ∧ PZ g N ad F' (if ct = 0 then x else hs (ct - 1)) sv hs (ct - 1) q il) := by
  obtain ⟨h1, h2, hct, hil, nx, L, ia, hnx, hC⟩ := hZ
  have hI := h1.1
  have hn12 := hI.n
  have htn64 := hI.tn
  obtain ⟨hz0, hz1a, hz1, hz2, hz3, hz4⟩ := hI.zz
  obtain ⟨yu, hyu, hyu2⟩ := undo_slot hC hct hnx
  refine CtI_imp (c_X7_undo l g x q hC.1 hC.2.1 hn12 htn64 nx ct hC.2.2.2.1 hct hnx yu hyu) (fun r F1 post => ?_)
  obtain ⟨k1, k2, k3, k4, k5, k6, k7, k8, rc, re, kd, nm0, k9⟩ := hC
  obtain ⟨a1, a2, a3, a4, a5⟩ := post
  have a5' : ∀ i, 22 < i → i ≠ 45 → F1 i = F i := fun i g1 g2 => a5 i (Or.inl ⟨g1, g2⟩)
  have k5' : ∀ k, k < 9 → ∃ y, oSt g N ad F1 (47 + 22 * k) y := fun k hk => by
    obtain ⟨y, hy⟩ := k5 k hk
    exact ⟨y, hy.fr (fun j g1 g2 => a5' j (by omega) (by omega))⟩
  refine ⟨a1, ?_⟩
  by_cases e : ct = 0
  · rw [if_pos e] at a3 a4 ⊢
    have hz : ct - 1 = ct := by omega
    rw [hz] at a4 ⊢
    exact ⟨h1, h2, hct, hil, nx, L, ia, hnx, a2, a3, k3.fr (fun j g1 g2 => a5' j (by omega) (by omega)), a4, k5', fun i hi => absurd hi (by omega), k7.fr (fun j g1 g2 => a5' j (by omega) (by omega)), k8.fr (fun j g1 g2 => a5' j (by omega) (by omega)), rc, re, kd, nm0, k9.fr (fun j g1 g2 => a5' j (by omega) (by omega))⟩
  · rw [if_neg e] at a3 a4 ⊢
    have ey := hyu2 e
    subst ey
    have hup := nxDn_eq hnx
    refine ⟨h2 (ct - 1) (by omega), fun i hi => h2 i (by omega), by omega, hil, nxDn nx, L, ia, by omega, a2, a3, k3.fr (fun j g1 g2 => a5' j (by omega) (by omega)), a4, k5', fun i hi => ?_, k7.fr (fun j g1 g2 => a5' j (by omega) (by omega)), k8.fr (fun j g1 g2 => a5' j (by omega) (by omega)), rc, re, kd, nm0, k9.fr (fun j g1 g2 => a5' j (by omega) (by omega))⟩
    have h := k6 i (by omega)
    rw [show (nxDn nx + 9 - (ct - 1) + i) % 9 = (nx + 9 - ct + i) % 9 by omega]
    exact h.fr (fun j g1 g2 => a5' j (by omega) (by omega))
theorem z_save (l : Launch) (hZ : PZ g N ad F x sv hs ct q il) : CtI l yX7_save cX7_save 1 (some .int) 4 94 g N ad F [.ref (ad 0)] (fun r F' => r = nI x.1 ∧ PZ g N ad F' x x hs ct (qSav q) il) := by
  obtain ⟨h1, h2, hct, hil, nx, L, ia, hnx, hC⟩ := hZ
  have hI := h1.1
  have hn12 := hI.n
  have htn64 := hI.tn
  obtain ⟨hz0, hz1a, hz1, hz2, hz3, hz4⟩ := hI.zz
  have hC0 := hC
  refine CtI_imp (c_X7_save l g x q hC.1 hC.2.1 hn12 htn64 sv hC.2.2.1) (fun r F1 post => ?_)
  obtain ⟨k1, k2, k3, k4, k5, k6, k7, k8, rc, re, kd, nm0, k9⟩ := hC
  obtain ⟨a1, a2, a3, a4, a5⟩ := post
  refine ⟨a1, h1, h2, hct, hil, nx, L, ia, hnx, a2, a3, a4, k4.fr (fun j g1 g2 => a5 j (by omega)), fun k hk => ?_, fun i hi => (k6 i hi).fr (fun j g1 g2 => a5 j (by omega)), k7.fr (fun j g1 g2 => a5 j (by omega)), k8.fr (fun j g1 g2 => a5 j (by omega)), rc, re, kd, nm0, k9.fr (fun j g1 g2 => a5 j (by omega))⟩
  obtain ⟨y, hy⟩ := k5 k hk
  exact ⟨y, hy.fr (fun j g1 g2 => a5 j (by omega))⟩
theorem z_restore (l : Launch) (hZ : PZ g N ad F x sv hs ct q il) (e : q 0 ≠ 0) (hsv : Iva sv) : CtI l yX7_restore cX7_restore 1 (some .int) 4 94 g N ad F [.ref (ad 0)] (fun r F' => r = nI sv.1 ∧ PZ g N ad F' sv sv hs 0 q il) := by
  obtain ⟨h1, h2, hct, hil, nx, L, ia, hnx, hC⟩ := hZ
  have hI := h1.1
  have hn12 := hI.n
  have htn64 := hI.tn
  obtain ⟨hz0, hz1a, hz1, hz2, hz3, hz4⟩ := hI.zz
  have hC0 := hC
  refine CtI_imp (c_X7_restore l g x q hC.1 hC.2.1 hn12 htn64 nx ct hC.2.2.2.1 hct hnx sv hC.2.2.1) (fun r F1 post => ?_)
  obtain ⟨k1, k2, k3, k4, k5, k6, k7, k8, rc, re, kd, nm0, k9⟩ := hC
  obtain ⟨a1, a2, a3, a4, a5⟩ := post
  have a5' : ∀ i, 22 < i → i ≠ 45 → F1 i = F i := fun i g1 g2 => a5 i (Or.inl ⟨g1, g2⟩)
  rw [if_neg e] at a1 a3 a4
  refine ⟨a1, hsv, fun i hi => absurd hi (Nat.not_lt_zero i), Nat.zero_le 8, hil, nx, L, ia, hnx, a2, a3, k3.fr (fun j g1 g2 => a5' j (by omega) (by omega)), a4, fun k hk => ?_, fun i hi => absurd hi (Nat.not_lt_zero i), k7.fr (fun j g1 g2 => a5' j (by omega) (by omega)), k8.fr (fun j g1 g2 => a5' j (by omega) (by omega)), rc, re, kd, nm0, k9.fr (fun j g1 g2 => a5' j (by omega) (by omega))⟩
  obtain ⟨y, hy⟩ := k5 k hk
  exact ⟨y, hy.fr (fun j g1 g2 => a5' j (by omega) (by omega))⟩
theorem z_append (l : Launch) (hZ : PZ g N ad F x sv hs ct q il) (hl60 : il < 60) (ch : Int32) (hch : inW ch (nI 32) (nI 126)) (hc : vp_nar .char ch = ch) : CtI l yX7_append cX7_append 2 (some .int) 1 22 g N ad F [.ref (ad 0), .int ch] (fun r F' => PZ g N ad F' x sv hs ct q (il + 1)) := by
  obtain ⟨h1, h2, hct, hil, nx, L, ia, hnx, hC⟩ := hZ
  have hI := h1.1
  have hn12 := hI.n
  have htn64 := hI.tn
  obtain ⟨hz0, hz1a, hz1, hz2, hz3, hz4⟩ := hI.zz
  have hC0 := hC
  refine CtI_imp (c_X7_append l g q hC.1 il ia hC.2.2.2.2.2.2.1 hil ch hc) (fun r F1 post => ?_)
  obtain ⟨k1, k2, k3, k4, k5, k6, k7, k8, rc, re, kd, nm0, k9⟩ := hC
  obtain ⟨a1, a2, a3⟩ := post
  rw [if_pos hch, if_pos hch, if_pos hl60, if_pos hl60] at a2
  refine ⟨h1, h2, hct, by omega, nx, L, upd ia il ch, hnx, k1.fr (a3 _ (by omega)), k2.fr (fun j g1 g2 => a3 j (by omega)), k3.fr (fun j g1 g2 => a3 j (by omega)), k4.fr (fun j g1 g2 => a3 j (by omega)), fun k hk => ?_, fun i hi => (k6 i hi).fr (fun j g1 g2 => a3 j (by omega)), a2, k8.fr (fun j g1 g2 => a3 j (by omega)), rc, re, kd, nm0, k9.fr (fun j g1 g2 => a3 j (by omega))⟩
  obtain ⟨y, hy⟩ := k5 k hk
  exact ⟨y, hy.fr (fun j g1 g2 => a3 j (by omega))⟩
theorem z_read (l : Launch) (hZ : PZ g N ad F x sv hs ct q il) : CtI l yX7_read cX7_read 2 (some .int) 7 158 g N ad F [.ref (ad 0)] (fun r F' => ∃ q' : Nat → Int32, q' 0 = q 0 ∧ (r < 0 → PZ g N ad F' x sv hs ct q' 0) ∧ (¬ r < 0 → ∃ x' : SX, PZ g N ad F' x' sv (hPush hs ct x) (min 8 (ct + 1)) q' 0)) := by
  obtain ⟨h1, h2, hct, hil, nx, L, ia, hnx, hC⟩ := hZ
  have hI := h1.1
  have hn12 := hI.n
  have htn64 := hI.tn
  obtain ⟨hz0, hz1a, hz1, hz2, hz3, hz4⟩ := hI.zz
  obtain ⟨yk, hyk⟩ := hC.2.2.2.2.1 nx hnx
  obtain ⟨rc0, re0, kd0, nm0, hrd0⟩ := hC.2.2.2.2.2.2.2.2
  refine CtI_imp (c_X7_read l g x q hC.1 hC.2.1 Iva iva_ok h1 nx ct hC.2.2.2.1 hct hnx yk hyk il ia hil hC.2.2.2.2.2.2.1 rc0 re0 kd0 nm0 hrd0 (fun y q1 i hy _ => dcF_iva hy)) (fun r F1 post => ?_)
  obtain ⟨a1, a2, a3, a4, a5, a6, a7, a8⟩ := post
  generalize itR il ia kd0 nm0 = T at a1 a2 a3 a4 a5 a7
  obtain ⟨o1, o2, o3, o4⟩ := rdF_ok (q := q) (T := T) h1
  rw [← a1] at a5 o3 o4
  have hk := pc_read hC hct hnx a2 a3 a4 a5 a6 a7 a8
  refine ⟨(rdF x q T).2.1, o1, fun hr => ?_, fun hr => ⟨(rdF x q T).2.2, ?_⟩⟩
  · have z := hk.2 hr
    rw [o3 hr] at z
    exact ⟨h1, h2, hct, Nat.zero_le 60, nx, L, ia, hnx, z⟩
  · exact ⟨o2, hs_push h1 h2 hct, by omega, Nat.zero_le 60, nxUp nx, L, ia, by unfold nxUp; split <;> omega, hk.1 hr (by rw [if_pos (o4 hr)])⟩
end LZ
