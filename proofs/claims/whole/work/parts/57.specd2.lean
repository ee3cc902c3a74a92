/-! one command: the forms against the reference's reading -/
def CmpP (n : Nat) (a : Nat → Int32) (st : Nat) (C : CMD) : Prop := (C.1.1 = true → ∃ t, t < 8 ∧ mT n a st t = C.1 ∧ C.2 = nI (soT t) ∧ ∀ i, i < t → (mT n a st i).1 = false) ∧ (C.1.1 = false → (∀ i, i < 8 → (mT n a st i).1 = false) ∧ (∀ i, i < 8 → (mT n a st i).2.1 ≤ C.1.2.1) ∧ ∃ i, i < 8 ∧ (mT n a st i).2.1 = C.1.2.1)
theorem cm_of {n : Nat} {a : Nat → Int32} {st : Nat} {C : CMD} (t0 : Nat) (h8 : t0 < 8) (he : mT n a st t0 = C.1) (hs : C.1.1 = true → C.2 = nI (soT t0)) (ho : ∀ i, i < 8 → i ≠ t0 → (mT n a st i).1 = false ∧ (mT n a st i).2.1 ≤ C.1.2.1) : CmpP n a st C := by
  refine ⟨fun h => ⟨t0, h8, he, hs h, fun i hi => (ho i (by omega) (by omega)).1⟩, fun h => ⟨fun i hi => ?_, fun i hi => ?_, t0, h8, by rw [he]⟩⟩
  · by_cases e : i = t0
    · rw [e, he]; exact h
    · exact (ho i hi e).1
  · by_cases e : i = t0
    · rw [e, he]; exact Nat.le_refl _
    · exact (ho i hi e).2
theorem cm_miss {n : Nat} {a : Nat → Int32} {st e : Nat} {r : List Nat} (k : Nat) (h1 : k ≠ 35) (h2 : k ≠ 37) (h : ¬ sgN n a st = nI k) (hle : st ≤ e) : (mt n a (k :: r) st).1 = false ∧ (mt n a (k :: r) st).2.1 ≤ e := by
  rw [mt_cn k h1 h2 h]
  exact ⟨rfl, hle⟩
theorem cm_miss2 {n : Nat} {a : Nat → Int32} {st e : Nat} {r : List Nat} (k k2 : Nat) (h1 : k ≠ 35) (h2 : k ≠ 37) (h3 : k2 ≠ 35) (h4 : k2 ≠ 37) (h : sgN n a st = nI k) (h5 : ¬ sgN n a (st + 1) = nI k2) (hle : st + 1 ≤ e) : (mt n a (k :: k2 :: r) st).1 = false ∧ (mt n a (k :: k2 :: r) st).2.1 ≤ e := by
  rw [mt_cy k h1 h2 h, mt_cn k2 h3 h4 h5]
  exact ⟨rfl, hle⟩
theorem cm_miss3 {n : Nat} {a : Nat → Int32} {st e : Nat} {r : List Nat} (k k2 k3 : Nat) (h1 : k ≠ 35) (h2 : k ≠ 37) (h3 : k2 ≠ 35) (h4 : k2 ≠ 37) (h6 : k3 ≠ 35) (h7 : k3 ≠ 37) (h : sgN n a st = nI k) (h5 : sgN n a (st + 1) = nI k2) (h8 : ¬ sgN n a (st + 1 + 1) = nI k3) (hle : st + 1 + 1 ≤ e) : (mt n a (k :: k2 :: k3 :: r) st).1 = false ∧ (mt n a (k :: k2 :: k3 :: r) st).2.1 ≤ e := by
  rw [mt_cy k h1 h2 h, mt_cy k2 h3 h4 h5, mt_cn k3 h6 h7 h8]
  exact ⟨rfl, hle⟩
theorem cm_cmp (n : Nat) (a : Nat → Int32) (st : Nat) : CmpP n a st (cmR n a st) := by
  have hge := cmR_ge n a st
  unfold cmR at hge ⊢
  by_cases c0 : sgN n a st = nI 106
  · rw [if_pos c0] at hge ⊢
    refine cm_of 0 (by decide) (mt_cy 106 (by decide) (by decide) c0) (fun _ => rfl) (fun i hi hne => ?_)
    rcases (show i = 0 ∨ i = 1 ∨ i = 2 ∨ i = 3 ∨ i = 4 ∨ i = 5 ∨ i = 6 ∨ i = 7 by omega) with rfl | rfl | rfl | rfl | rfl | rfl | rfl | rfl
    · exact absurd rfl hne
    · exact cm_miss 112 (by decide) (by decide) (by rw [c0]; decide) hge
    · exact cm_miss 100 (by decide) (by decide) (by rw [c0]; decide) hge
    · exact cm_miss 100 (by decide) (by decide) (by rw [c0]; decide) hge
    · exact cm_miss 115 (by decide) (by decide) (by rw [c0]; decide) hge
    · exact cm_miss 98 (by decide) (by decide) (by rw [c0]; decide) hge
    · exact cm_miss 103 (by decide) (by decide) (by rw [c0]; decide) hge
    · exact cm_miss 112 (by decide) (by decide) (by rw [c0]; decide) hge
  rw [if_neg c0] at hge ⊢
  by_cases c1 : sgN n a st = nI 112
  · rw [if_pos c1] at hge ⊢
    unfold fmP at hge ⊢
    by_cases d : sgN n a (st + 1) = nI 117
    · rw [if_pos d] at hge ⊢
      have hg2 := mt_ge (n := n) (a := a) [109, 112, 32, 35] (st + 1 + 1)
      refine cm_of 7 (by decide) ((mt_cy 112 (by decide) (by decide) c1).trans (mt_cy 117 (by decide) (by decide) d)) (fun _ => rfl) (fun i hi hne => ?_)
      rcases (show i = 0 ∨ i = 1 ∨ i = 2 ∨ i = 3 ∨ i = 4 ∨ i = 5 ∨ i = 6 ∨ i = 7 by omega) with rfl | rfl | rfl | rfl | rfl | rfl | rfl | rfl
      · exact cm_miss 106 (by decide) (by decide) (by rw [c1]; decide) hge
      · exact cm_miss2 112 114 (by decide) (by decide) (by decide) (by decide) c1 (by rw [d]; decide) (Nat.le_trans (Nat.le_succ _) hg2)
      · exact cm_miss 100 (by decide) (by decide) (by rw [c1]; decide) hge
      · exact cm_miss 100 (by decide) (by decide) (by rw [c1]; decide) hge
      · exact cm_miss 115 (by decide) (by decide) (by rw [c1]; decide) hge
      · exact cm_miss 98 (by decide) (by decide) (by rw [c1]; decide) hge
      · exact cm_miss 103 (by decide) (by decide) (by rw [c1]; decide) hge
      · exact absurd rfl hne
    · rw [if_neg d] at hge ⊢
      have hg2 := mt_ge (n := n) (a := a) [114, 105, 109, 101, 32, 37] (st + 1)
      refine cm_of 1 (by decide) (mt_cy 112 (by decide) (by decide) c1) (fun _ => rfl) (fun i hi hne => ?_)
      rcases (show i = 0 ∨ i = 1 ∨ i = 2 ∨ i = 3 ∨ i = 4 ∨ i = 5 ∨ i = 6 ∨ i = 7 by omega) with rfl | rfl | rfl | rfl | rfl | rfl | rfl | rfl
      · exact cm_miss 106 (by decide) (by decide) (by rw [c1]; decide) hge
      · exact absurd rfl hne
      · exact cm_miss 100 (by decide) (by decide) (by rw [c1]; decide) hge
      · exact cm_miss 100 (by decide) (by decide) (by rw [c1]; decide) hge
      · exact cm_miss 115 (by decide) (by decide) (by rw [c1]; decide) hge
      · exact cm_miss 98 (by decide) (by decide) (by rw [c1]; decide) hge
      · exact cm_miss 103 (by decide) (by decide) (by rw [c1]; decide) hge
      · exact cm_miss2 112 117 (by decide) (by decide) (by decide) (by decide) c1 d hg2
  rw [if_neg c1] at hge ⊢
  by_cases c2 : sgN n a st = nI 100
  · rw [if_pos c2] at hge ⊢
    unfold fmD at hge ⊢
    by_cases d : sgN n a (st + 1) = nI 114
    · rw [if_pos d] at hge ⊢
      by_cases d2 : sgN n a (st + 1 + 1) = nI 97
      · rw [if_pos d2] at hge ⊢
        have hg2 := mt_ge (n := n) (a := a) [105, 110, 32, 37] (st + 1 + 2)
        refine cm_of 3 (by decide) ((mt_cy 100 (by decide) (by decide) c2).trans ((mt_cy 114 (by decide) (by decide) d).trans (mt_cy 97 (by decide) (by decide) d2))) (fun _ => rfl) (fun i hi hne => ?_)
        rcases (show i = 0 ∨ i = 1 ∨ i = 2 ∨ i = 3 ∨ i = 4 ∨ i = 5 ∨ i = 6 ∨ i = 7 by omega) with rfl | rfl | rfl | rfl | rfl | rfl | rfl | rfl
        · exact cm_miss 106 (by decide) (by decide) (by rw [c2]; decide) hge
        · exact cm_miss 112 (by decide) (by decide) (by rw [c2]; decide) hge
        · exact cm_miss3 100 114 111 (by decide) (by decide) (by decide) (by decide) (by decide) (by decide) c2 d (by rw [d2]; decide) (Nat.le_trans (Nat.le_succ _) hg2)
        · exact absurd rfl hne
        · exact cm_miss 115 (by decide) (by decide) (by rw [c2]; decide) hge
        · exact cm_miss 98 (by decide) (by decide) (by rw [c2]; decide) hge
        · exact cm_miss 103 (by decide) (by decide) (by rw [c2]; decide) hge
        · exact cm_miss 112 (by decide) (by decide) (by rw [c2]; decide) hge
      · rw [if_neg d2] at hge ⊢
        have hg2 := mt_ge (n := n) (a := a) [111, 112, 32, 37] (st + 1 + 1)
        refine cm_of 2 (by decide) ((mt_cy 100 (by decide) (by decide) c2).trans (mt_cy 114 (by decide) (by decide) d)) (fun _ => rfl) (fun i hi hne => ?_)
        rcases (show i = 0 ∨ i = 1 ∨ i = 2 ∨ i = 3 ∨ i = 4 ∨ i = 5 ∨ i = 6 ∨ i = 7 by omega) with rfl | rfl | rfl | rfl | rfl | rfl | rfl | rfl
        · exact cm_miss 106 (by decide) (by decide) (by rw [c2]; decide) hge
        · exact cm_miss 112 (by decide) (by decide) (by rw [c2]; decide) hge
        · exact absurd rfl hne
        · exact cm_miss3 100 114 97 (by decide) (by decide) (by decide) (by decide) (by decide) (by decide) c2 d d2 hg2
        · exact cm_miss 115 (by decide) (by decide) (by rw [c2]; decide) hge
        · exact cm_miss 98 (by decide) (by decide) (by rw [c2]; decide) hge
        · exact cm_miss 103 (by decide) (by decide) (by rw [c2]; decide) hge
        · exact cm_miss 112 (by decide) (by decide) (by rw [c2]; decide) hge
    · rw [if_neg d] at hge ⊢
      refine cm_of 2 (by decide) ((mt_cy 100 (by decide) (by decide) c2).trans (mt_cn 114 (by decide) (by decide) d)) (fun z => absurd z (show ¬ (false = true) by decide)) (fun i hi hne => ?_)
      rcases (show i = 0 ∨ i = 1 ∨ i = 2 ∨ i = 3 ∨ i = 4 ∨ i = 5 ∨ i = 6 ∨ i = 7 by omega) with rfl | rfl | rfl | rfl | rfl | rfl | rfl | rfl
      · exact cm_miss 106 (by decide) (by decide) (by rw [c2]; decide) hge
      · exact cm_miss 112 (by decide) (by decide) (by rw [c2]; decide) hge
      · exact absurd rfl hne
      · exact cm_miss2 100 114 (by decide) (by decide) (by decide) (by decide) c2 d (Nat.le_refl _)
      · exact cm_miss 115 (by decide) (by decide) (by rw [c2]; decide) hge
      · exact cm_miss 98 (by decide) (by decide) (by rw [c2]; decide) hge
      · exact cm_miss 103 (by decide) (by decide) (by rw [c2]; decide) hge
      · exact cm_miss 112 (by decide) (by decide) (by rw [c2]; decide) hge
  rw [if_neg c2] at hge ⊢
  by_cases c3 : sgN n a st = nI 115
  · rw [if_pos c3] at hge ⊢
    refine cm_of 4 (by decide) (mt_cy 115 (by decide) (by decide) c3) (fun _ => rfl) (fun i hi hne => ?_)
    rcases (show i = 0 ∨ i = 1 ∨ i = 2 ∨ i = 3 ∨ i = 4 ∨ i = 5 ∨ i = 6 ∨ i = 7 by omega) with rfl | rfl | rfl | rfl | rfl | rfl | rfl | rfl
    · exact cm_miss 106 (by decide) (by decide) (by rw [c3]; decide) hge
    · exact cm_miss 112 (by decide) (by decide) (by rw [c3]; decide) hge
    · exact cm_miss 100 (by decide) (by decide) (by rw [c3]; decide) hge
    · exact cm_miss 100 (by decide) (by decide) (by rw [c3]; decide) hge
    · exact absurd rfl hne
    · exact cm_miss 98 (by decide) (by decide) (by rw [c3]; decide) hge
    · exact cm_miss 103 (by decide) (by decide) (by rw [c3]; decide) hge
    · exact cm_miss 112 (by decide) (by decide) (by rw [c3]; decide) hge
  rw [if_neg c3] at hge ⊢
  by_cases c4 : sgN n a st = nI 98
  · rw [if_pos c4] at hge ⊢
    refine cm_of 5 (by decide) (mt_cy 98 (by decide) (by decide) c4) (fun _ => rfl) (fun i hi hne => ?_)
    rcases (show i = 0 ∨ i = 1 ∨ i = 2 ∨ i = 3 ∨ i = 4 ∨ i = 5 ∨ i = 6 ∨ i = 7 by omega) with rfl | rfl | rfl | rfl | rfl | rfl | rfl | rfl
    · exact cm_miss 106 (by decide) (by decide) (by rw [c4]; decide) hge
    · exact cm_miss 112 (by decide) (by decide) (by rw [c4]; decide) hge
    · exact cm_miss 100 (by decide) (by decide) (by rw [c4]; decide) hge
    · exact cm_miss 100 (by decide) (by decide) (by rw [c4]; decide) hge
    · exact cm_miss 115 (by decide) (by decide) (by rw [c4]; decide) hge
    · exact absurd rfl hne
    · exact cm_miss 103 (by decide) (by decide) (by rw [c4]; decide) hge
    · exact cm_miss 112 (by decide) (by decide) (by rw [c4]; decide) hge
  rw [if_neg c4] at hge ⊢
  refine cm_of 6 (by decide) rfl (fun z => ?_) (fun i hi hne => ?_)
  · by_cases c5 : sgN n a st = nI 103
    · exact c5
    · rw [mt_cn 103 (by decide) (by decide) c5] at z
      exact absurd z (show ¬ (false = true) by decide)
  · rcases (show i = 0 ∨ i = 1 ∨ i = 2 ∨ i = 3 ∨ i = 4 ∨ i = 5 ∨ i = 6 ∨ i = 7 by omega) with rfl | rfl | rfl | rfl | rfl | rfl | rfl | rfl
    · exact cm_miss 106 (by decide) (by decide) c0 hge
    · exact cm_miss 112 (by decide) (by decide) c1 hge
    · exact cm_miss 100 (by decide) (by decide) c2 hge
    · exact cm_miss 100 (by decide) (by decide) c2 hge
    · exact cm_miss 115 (by decide) (by decide) c3 hge
    · exact cm_miss 98 (by decide) (by decide) c4 hge
    · exact absurd rfl hne
    · exact cm_miss 112 (by decide) (by decide) c1 hge
/-- what the class has noted of a command is what the reference reads -/
def CmdOk (kd nm : Nat → Int32) (i : Nat) (c : CM1) : Prop := arOk c ∧ (∃ t, t < 8 ∧ kd i = nI t ∧ c.1 = nI (soT t)) ∧ ∀ j, j < c.2.length → nm (i * 4 + j) = c.2.getD j 0
theorem CmdOk.cong {kd nm kd' nm' : Nat → Int32} {i : Nat} {c : CM1} (h : CmdOk kd nm i c) (e1 : kd' i = kd i) (e2 : ∀ j, j < 4 → nm' (i * 4 + j) = nm (i * 4 + j)) : CmdOk kd' nm' i c := by
  obtain ⟨h1, ⟨t, h2, h3, h4⟩, h5⟩ := h
  have hl : c.2.length ≤ 4 := by
    rcases h1 with z | z | z | z | z | z | z | z <;> omega
  exact ⟨h1, ⟨t, h2, e1.trans h3, h4⟩, fun j hj => (e2 j (by omega)).trans (h5 j hj)⟩
/-- the class's reading of a text against the reference's -/
theorem it_ps {n : Nat} {a : Nat → Int32} (hn : n ≤ 60) : ∀ (f f' rc p : Nat) (kd nm : Nat → Int32), p ≤ n → n ≤ p + 5 * f → n + 1 ≤ f' + p → rc + f = 12 → ∃ (kd' nm' : Nat → Int32) (rc' : Nat), itF n a f (rc, p, kd, nm) = ((psF n a f' p).1, rc', (psF n a f' p).2.1, kd', nm') ∧ (∀ i, i < rc → kd' i = kd i) ∧ (∀ i, i < rc * 4 → nm' i = nm i) ∧ ((psF n a f' p).1 = true → rc' = rc + (psF n a f' p).2.2.length ∧ ∀ (j : Nat) (hj : j < (psF n a f' p).2.2.length), CmdOk kd' nm' (rc + j) (psF n a f' p).2.2[j])
  | 0, f', rc, p, kd, nm, hp, h5, hf, hrc => by
    have hpn : p = n := by omega
    obtain ⟨f2, rfl⟩ : ∃ f2, f' = f2 + 1 := ⟨f' - 1, by omega⟩
    have hs : sgN n a p = -1 := by rw [sgN, if_neg (by omega)]
    have hne : ∀ k, k < 1000 → ¬ sgN n a p = nI k := fun k hk e => absurd (show nI k < 0 by rw [← e, hs]; decide) (nI_pos (by omega))
    have hc : cmR n a p = ((false, p, []), sgN n a p) := by
      unfold cmR
      rw [if_neg (hne _ (by decide)), if_neg (hne _ (by decide)), if_neg (hne _ (by decide)), if_neg (hne _ (by decide)), if_neg (hne _ (by decide)), mt_cn 103 (by decide) (by decide) (hne _ (by decide))]
    have hps : psF n a (f2 + 1) p = (false, p, []) := by rw [psF, hc]; exact if_neg (show ¬ (false = true) by decide)
    rw [hps]
    exact ⟨kd, nm, rc, rfl, fun _ _ => rfl, fun _ _ => rfl, fun z => absurd z (show ¬ (false = true) by decide)⟩
  | f + 1, f', rc, p, kd, nm, hp, h5, hf, hrc => by
    obtain ⟨f2, rfl⟩ : ∃ f2, f' = f2 + 1 := ⟨f' - 1, by omega⟩
    obtain ⟨hy, hno⟩ := cm_cmp n a p
    have hle := cmR_le (n := n) (a := a) hp
    have etc : tcR n a p (rc, p, kd, nm) = tcF n a p rc kd 8 0 p nm := rfl
    by_cases hok : (cmR n a p).1.1 = true
    · obtain ⟨t, ht, hm, hso, hlt⟩ := hy hok
      have har := cmR_ar hok
      obtain ⟨nm1, g1, g2⟩ := tc_yes hn (by omega) ht (rc := rc) (kd := kd) (by rw [hm]; exact hok) 8 0 p nm rfl (Nat.zero_le _) (fun i _ hi => hlt i hi)
      rw [hm] at g1
      have hlong : p + 4 ≤ (cmR n a p).1.2.1 := by
        have h1 := mt_long (fmL t) (n := n) (a := a) (p := p) (by show (mT n a p t).1 = true; rw [hm]; exact hok)
        have h2 := fm_len t ht
        have h3 : (mt n a (fmL t) p).2.1 = (cmR n a p).1.2.1 := by show (mT n a p t).2.1 = _; rw [hm]
        omega
      have hl4 : (cmR n a p).1.2.2.length ≤ 4 := by
        rcases har with z | z | z | z | z | z | z | z <;> simp only at z <;> omega
      have hcmd : CmdOk (rowPut 12 kd rc (nI t)) (nmC nm1 (rc * 4) (cmR n a p).1.2.2) rc ((cmR n a p).2, (cmR n a p).1.2.2) :=
        ⟨har, ⟨t, ht, by rw [rowPut_in (by omega)]; exact upd_eq rfl, hso⟩, fun j hj => nmC_get hj (by show rc * 4 + (cmR n a p).1.2.2.length ≤ 48; omega)⟩
      have hkd : ∀ i, i < rc → rowPut 12 kd rc (nI t) i = kd i := fun i hi => by rw [rowPut_in (by omega)]; exact upd_ne (by omega)
      have hnm : ∀ i, i < rc * 4 → nmC nm1 (rc * 4) (cmR n a p).1.2.2 i = nm i := fun i hi => (nmC_lt hi).trans (g2 i hi)
      rw [itF]
      show ∃ kd' nm' rc', (if (tcR n a p (rc, p, kd, nm)).1 = true then _ else _) = _ ∧ _
      rw [etc, g1, if_pos rfl, psF, if_pos hok]
      by_cases c59 : sgN n a (cmR n a p).1.2.1 = nI 59
      · have hlt2 := sgN_lt (by decide) c59
        rw [if_neg (show ¬ (cmR n a p).1.2.1 = n by omega), if_pos c59]
        rw [if_pos (show sgAt n a (nI (cmR n a p).1.2.1) = nI 59 by rw [sg_eq hn (by omega)]; exact c59)]
        obtain ⟨kd', nm', rc', i1, i2, i3, i4⟩ := it_ps hn f f2 (rc + 1) ((cmR n a p).1.2.1 + 1) (rowPut 12 kd rc (nI t)) (nmC nm1 (rc * 4) (cmR n a p).1.2.2) (by omega) (by omega) (by omega) (by omega)
        refine ⟨kd', nm', rc', i1, fun i hi => (i2 i (by omega)).trans (hkd i hi), fun i hi => (i3 i (by omega)).trans (hnm i hi), fun z => ?_⟩
        obtain ⟨j1, j2⟩ := i4 z
        refine ⟨by rw [j1]; simp only [List.length_cons]; omega, fun j hj => ?_⟩
        rcases j with _ | j
        · exact hcmd.cong (i2 rc (by omega)) (fun j hj => i3 _ (by omega))
        · have hj' : j < (psF n a f2 ((cmR n a p).1.2.1 + 1)).2.2.length := by simpa using hj
          have := j2 j hj'
          rw [show rc + 1 + j = rc + (j + 1) by omega] at this
          exact this
      · rw [if_neg c59]
        by_cases e : (cmR n a p).1.2.1 = n
        · rw [if_pos e]
          refine ⟨_, _, rc + 1, ?_, hkd, hnm, fun _ => ⟨rfl, fun j hj => ?_⟩⟩
          · rw [decide_eq_true e]
          · have h0 : j = 0 := by simpa using hj
            subst h0
            exact hcmd
        · rw [if_neg e, if_neg (show ¬ sgAt n a (nI (cmR n a p).1.2.1) = nI 59 by rw [sg_eq hn (by omega)]; exact c59)]
          refine ⟨_, _, rc + 1, ?_, hkd, hnm, fun z => ?_⟩
          · rw [decide_eq_false e]
          · rw [decide_eq_false e] at z
            exact absurd z (show ¬ (false = true) by decide)
    · have hokf : (cmR n a p).1.1 = false := by simpa using hok
      obtain ⟨k1, k2, i0, k3, k4⟩ := hno hokf
      obtain ⟨nm', g1, g2⟩ := tc_no hn (by omega) (st := p) (rc := rc) (kd := kd) 8 0 p nm rfl (fun i _ hi => k1 i hi)
      have hmx := mxF_eq (n := n) (a := a) (st := p) (e := (cmR n a p).1.2.1) 8 0 p (fun i _ hi => k2 i (by omega)) (cmR_ge n a p) (Or.inr ⟨i0, Nat.zero_le _, by omega, k4⟩)
      rw [hmx] at g1
      rw [itF]
      show ∃ kd' nm' rc', (if (tcR n a p (rc, p, kd, nm)).1 = true then _ else _) = _ ∧ _
      rw [etc, g1, if_neg (show ¬ (false = true) by decide), psF, if_neg hok]
      exact ⟨kd, nm', rc, rfl, fun _ _ => rfl, g2, fun z => absurd z (show ¬ (false = true) by decide)⟩
