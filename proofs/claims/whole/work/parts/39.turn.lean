theorem notJoke_ok {x : SX} {wl dp sg wt : Int32} (h : (notJokeF x wl dp sg wt).1 = 0) : inW wl (nI 0) (nI 3) ∧ inW dp (nI 1) (nI 30) ∧ inW sg (nI 0) (nI 63) ∧ inW wt (nI 1) (nI 9) ∧ x.2.2.2.2.1 2 (cl sg) = 0 ∧ ixO (fun k => decide (x.2.1 2 k = sg)) x.1 = -1 ∧ ixO (fun k => decide (x.2.1 0 k = wl ∧ x.2.1 1 k = dp)) x.1 = -1 ∧ x.1 < 12 ∧ cnt (cwP (x.2.1) wl (nI 30)) x.1 < 6 := by
  unfold notJokeF at h
  split at h
  · rename_i c0
    split at h
    · rename_i c1
      split at h
      · rename_i c2
        split at h
        · rename_i c3
          split at h
          · rename_i c4
            split at h
            · rename_i c5
              split at h
              · rename_i c6
                split at h
                · rename_i c7
                  split at h
                  · rename_i c8
                    exact ⟨c0, c1, c2, c3, c4, c5, c6, c7, c8⟩
                  · exact absurd h (by first | (show ¬ (-5 : Int32) = 0; decide) | (show ¬ (-2 : Int32) = 0; decide) | (show ¬ (-1 : Int32) = 0; decide))
                · exact absurd h (by first | (show ¬ (-5 : Int32) = 0; decide) | (show ¬ (-2 : Int32) = 0; decide) | (show ¬ (-1 : Int32) = 0; decide))
              · exact absurd h (by first | (show ¬ (-5 : Int32) = 0; decide) | (show ¬ (-2 : Int32) = 0; decide) | (show ¬ (-1 : Int32) = 0; decide))
            · exact absurd h (by first | (show ¬ (-5 : Int32) = 0; decide) | (show ¬ (-2 : Int32) = 0; decide) | (show ¬ (-1 : Int32) = 0; decide))
          · exact absurd h (by first | (show ¬ (-5 : Int32) = 0; decide) | (show ¬ (-2 : Int32) = 0; decide) | (show ¬ (-1 : Int32) = 0; decide))
        · exact absurd h (by first | (show ¬ (-5 : Int32) = 0; decide) | (show ¬ (-2 : Int32) = 0; decide) | (show ¬ (-1 : Int32) = 0; decide))
      · exact absurd h (by first | (show ¬ (-5 : Int32) = 0; decide) | (show ¬ (-2 : Int32) = 0; decide) | (show ¬ (-1 : Int32) = 0; decide))
    · exact absurd h (by first | (show ¬ (-5 : Int32) = 0; decide) | (show ¬ (-2 : Int32) = 0; decide) | (show ¬ (-1 : Int32) = 0; decide))
  · exact absurd h (by first | (show ¬ (-5 : Int32) = 0; decide) | (show ¬ (-2 : Int32) = 0; decide) | (show ¬ (-1 : Int32) = 0; decide))
theorem notPrime_ok {x : SX} {a : Int32} (hn : x.1 < 1000) (h : (notPrimeF x a).1 = 0) : ∃ k : Nat, k < 1000000 ∧ (k < x.1 ∧ 0 < x.2.2.2.2.2.2.2 4 ∧ x.2.1 4 k = 0) ∧ a = nI k := by
  unfold notPrimeF at h
  split at h
  · rename_i c0
    split at h
    · rename_i c1
      split at h
      · rename_i c2
        obtain ⟨k, hk, rfl⟩ := hasJ_of (by omega) c0; exact ⟨k, by omega, ⟨hk, c2, by rw [cl_n (by omega)] at c1; exact c1⟩, rfl⟩
      · exact absurd h (by first | (show ¬ (-5 : Int32) = 0; decide) | (show ¬ (-2 : Int32) = 0; decide) | (show ¬ (-1 : Int32) = 0; decide))
    · exact absurd h (by first | (show ¬ (-5 : Int32) = 0; decide) | (show ¬ (-2 : Int32) = 0; decide) | (show ¬ (-1 : Int32) = 0; decide))
  · exact absurd h (by first | (show ¬ (-5 : Int32) = 0; decide) | (show ¬ (-2 : Int32) = 0; decide) | (show ¬ (-1 : Int32) = 0; decide))
theorem notDrop_ok {x : SX} {a : Int32} (hn : x.1 < 1000) (h : (notDropF x a).1 = 0) : ∃ k : Nat, k < 1000000 ∧ k < x.1 ∧ a = nI k := by
  unfold notDropF at h
  split at h
  · rename_i c0
    obtain ⟨k, hk, rfl⟩ := hasJ_of (by omega) c0; exact ⟨k, by omega, hk, rfl⟩
  · exact absurd h (by first | (show ¬ (-5 : Int32) = 0; decide) | (show ¬ (-2 : Int32) = 0; decide) | (show ¬ (-1 : Int32) = 0; decide))
theorem notDrain_ok {x : SX} {a : Int32} (h : (notDrainF x a).1 = 0) : ∃ k : Nat, k < 1000000 ∧ (1 ≤ k ∧ k ≤ 50 ∧ k ≤ x.2.2.2.2.2.2.2 3) ∧ a = nI k := by
  unfold notDrainF at h
  split at h
  · rename_i c0
    split at h
    · rename_i c1
      obtain ⟨k, h1, h2, rfl⟩ := inW_of (by decide) (by decide) c0; exact ⟨k, by omega, ⟨h1, h2, by rw [cl_n (by omega)] at c1; exact c1⟩, rfl⟩
    · exact absurd h (by first | (show ¬ (-5 : Int32) = 0; decide) | (show ¬ (-2 : Int32) = 0; decide) | (show ¬ (-1 : Int32) = 0; decide))
  · exact absurd h (by first | (show ¬ (-5 : Int32) = 0; decide) | (show ¬ (-2 : Int32) = 0; decide) | (show ¬ (-1 : Int32) = 0; decide))
theorem notStroke_ok {x : SX} {a : Int32} (h : (notStrokeF x a).1 = 0) : ∃ k : Nat, k < 1000000 ∧ (1 ≤ k ∧ k ≤ 10 ∧ x.2.2.2.2.2.2.2 1 ≠ k) ∧ a = nI k := by
  unfold notStrokeF at h
  split at h
  · rename_i c0
    split at h
    · exact absurd h (by first | (show ¬ (-5 : Int32) = 0; decide) | (show ¬ (-2 : Int32) = 0; decide) | (show ¬ (-1 : Int32) = 0; decide))
    · rename_i c1
      obtain ⟨k, h1, h2, rfl⟩ := inW_of (by decide) (by decide) c0; exact ⟨k, by omega, ⟨h1, h2, by rw [cl_n (by omega)] at c1; exact c1⟩, rfl⟩
  · exact absurd h (by first | (show ¬ (-5 : Int32) = 0; decide) | (show ¬ (-2 : Int32) = 0; decide) | (show ¬ (-1 : Int32) = 0; decide))
theorem notBucket_ok {x : SX} {a b : Int32} (h : (notBucketF x a b).1 = 0) : ∃ k b2 : Nat, k < 1000000 ∧ (k < 4 ∧ 1 ≤ b2 ∧ b2 ≤ 5 ∧ x.2.2.2.2.2.2.1 k ≠ b2) ∧ a = nI k ∧ b = nI b2 := by
  unfold notBucketF at h
  split at h
  · rename_i c0
    split at h
    · rename_i c1
      split at h
      · exact absurd h (by first | (show ¬ (-5 : Int32) = 0; decide) | (show ¬ (-2 : Int32) = 0; decide) | (show ¬ (-1 : Int32) = 0; decide))
      · rename_i c2
        obtain ⟨k, h1, h2, rfl⟩ := inW_of (by decide) (by decide) c0; obtain ⟨b2, g1, g2, rfl⟩ := inW_of (by decide) (by decide) c1; exact ⟨k, b2, by omega, ⟨by omega, g1, g2, by rw [cl_n (by omega), cl_n (by omega)] at c2; exact c2⟩, rfl, rfl⟩
    · exact absurd h (by first | (show ¬ (-5 : Int32) = 0; decide) | (show ¬ (-2 : Int32) = 0; decide) | (show ¬ (-1 : Int32) = 0; decide))
  · exact absurd h (by first | (show ¬ (-5 : Int32) = 0; decide) | (show ¬ (-2 : Int32) = 0; decide) | (show ¬ (-1 : Int32) = 0; decide))
theorem notGo_ok {x : SX} {a : Int32} (h : (notGoF x a).1 = 0) : ∃ k : Nat, k < 1000000 ∧ (k < 4 ∧ x.2.2.2.2.2.2.2 0 ≠ k) ∧ a = nI k := by
  unfold notGoF at h
  split at h
  · rename_i c0
    split at h
    · exact absurd h (by first | (show ¬ (-5 : Int32) = 0; decide) | (show ¬ (-2 : Int32) = 0; decide) | (show ¬ (-1 : Int32) = 0; decide))
    · rename_i c1
      obtain ⟨k, h1, h2, rfl⟩ := inW_of (by decide) (by decide) c0; exact ⟨k, by omega, ⟨by omega, by rw [cl_n (by omega)] at c1; exact c1⟩, rfl⟩
  · exact absurd h (by first | (show ¬ (-5 : Int32) = 0; decide) | (show ¬ (-2 : Int32) = 0; decide) | (show ¬ (-1 : Int32) = 0; decide))
theorem notPump_ok {x : SX} {a : Int32} (h : (notPumpF x a).1 = 0) : ∃ k : Nat, k < 1000000 ∧ (1 ≤ k ∧ k ≤ 9 ∧ x.2.2.2.2.2.2.2 3 ≤ 40) ∧ a = nI k := by
  unfold notPumpF at h
  split at h
  · rename_i c0
    split at h
    · rename_i c1
      obtain ⟨k, h1, h2, rfl⟩ := inW_of (by decide) (by decide) c0; exact ⟨k, by omega, ⟨h1, h2, c1⟩, rfl⟩
    · exact absurd h (by first | (show ¬ (-5 : Int32) = 0; decide) | (show ¬ (-2 : Int32) = 0; decide) | (show ¬ (-1 : Int32) = 0; decide))
  · exact absurd h (by first | (show ¬ (-5 : Int32) = 0; decide) | (show ¬ (-2 : Int32) = 0; decide) | (show ¬ (-1 : Int32) = 0; decide))
def TurnP (g : gT) (N : Nat) (ad : Nat → Nat) (F : Nat → va_E) (u : Nat → Int32) (v : Nat → Nat) (x : SX) (hs : Nat → SX) (t : NT) (a : Int32) (x' : SX) (r : Int32) (F' : Nat → va_E) : Prop := (t.1 = 0 → r = a ∧ oM g N ad F' u (vKeep v) ∧ oX g F' 255 x' ∧ oU g F' (hPush hs (v 0) x) (vKeep v 1) (vKeep v 0)) ∧ (t.1 ≠ 0 → r = t.1 ∧ oM g N ad F' (uAns (uNot u t) t.1) v ∧ oX g F' 255 x ∧ oU g F' hs (v 1) (v 0)) ∧ (∃ D, arI g F' 258 274 D) ∧ ∀ i, i ≠ 254 → i ≠ 255 → i ≠ 256 → i ≠ 258 → F' i = F i
theorem notDrop_u {x : SX} {a : Int32} {u : Nat → Int32} (h : (notDropF x a).1 ≠ 0) : uAns (uNot u (notDropF x a)) (notDropF x a).1 = u := by
  unfold notDropF at h ⊢
  split
  · rename_i c
    rw [if_pos c] at h
    exact absurd rfl h
  · rw [uNot_n (show (noN (-1)).1 ≠ -5 by decide), uAns, if_neg (show ¬ (noN (-1)).1 = -5 by decide)]
set_option maxRecDepth 20000 in
theorem c_X8_remembers (l : Launch) (g : gT) {N : Nat} {ad : Nat → Nat} {F : Nat → va_E} (u : Nat → Int32) (v : Nat → Nat) (hm : oM g N ad F u v) (x : SX) (hI : Inv x) (W : Nat → Int32) (hW : arI g F 255 274 W) (hR : RW x W) (hv0 : v 0 ≤ 8) (hv1 : v 1 < 8) (hs : Nat → SX) (hns : ∀ i, i < v 0 → (hs i).1 ≤ 12 ∧ (hs i).2.2.1 ≤ 64) (hU : oU g F hs (v 1) (v 0)) (D : Nat → Int32) (hD : arI g F 258 274 D)  : CtV l yX8_remembers cX8_remembers 1 none 1 22 g N ad F [.ref (ad 254)] (fun F' => oM g N ad F' u (vKeep v) ∧ oU g F' (hPush hs (v 0) x) (vKeep v 1) (vKeep v 0) ∧ (∃ D, arI g F' 258 274 D) ∧ ∀ i, i ≠ 254 → i ≠ 256 → i ≠ 258 → F' i = F i) := by
  refine CtV_of (by decide) (Nat.le_of_ble_eq_true rfl) ?_
  intro p e s m args below meth c A H ls X M h hl
  have kx := X.1.1
  have kb := X.1.2.1
  have hl : lv_has ls 1 [(0, .ref (ad 254))] := hl
  have hN0 := hm.1
  have hn12 := hI.n
  have htn64 := hI.tn
  refine lv_aload_n kx kb dX8_remembers_0 rfl (lv_at hl 0 rfl) ?_
  refine w_callVv X M h [] [] ((c_X8_thinks l g u v ⟨by omega, hm.2⟩ W hW D hD)) lk_X8_67 hm.2 (by omega) rfl rfl ⟨by decide, by decide⟩ hl ⟨Nat.zero_le _, Nat.zero_le _⟩ (Nat.le_of_ble_eq_true rfl) rfl dX8_remembers_1 (fun F1 H locs hp_F1 h => ?_)
  refine lv_aload_n kx kb dX8_remembers_4 rfl (lv_at hl 0 rfl) ?_
  refine w_callVv X M h [] [] ((c_X8_keepsMind l g u v ⟨by omega, ((hp_F1.2 254 (by omega)).trans hm.2)⟩ hv0 hv1 hs hns (hU.fr (hp_F1.2 256 (by omega))) x hn12 htn64 ⟨W, hp_F1.1, hR⟩)) lk_X8_70 ((hp_F1.2 254 (by omega)).trans hm.2) (by omega) rfl rfl ⟨by decide, by decide⟩ hl ⟨Nat.zero_le _, Nat.zero_le _⟩ (Nat.le_of_ble_eq_true rfl) rfl dX8_remembers_5 (fun F2 H locs hp_F2 h => ?_)
  exact w_vret X h ⟨⟨by omega, hp_F2.1.2⟩, hp_F2.2.1, ⟨_, (hp_F1.1.fr (hp_F2.2.2 258 (by omega) (by omega)))⟩, fun i hi hi2 hi3 => (hp_F2.2.2 i (by omega) (by omega)).trans (hp_F1.2 i (by omega))⟩ dX8_remembers_8
set_option maxRecDepth 20000 in
theorem c_X8_pumps (l : Launch) (g : gT) {N : Nat} {ad : Nat → Nat} {F : Nat → va_E} (u : Nat → Int32) (v : Nat → Nat) (hm : oM g N ad F u v) (x : SX) (hI : Inv x) (W : Nat → Int32) (hW : arI g F 255 274 W) (hR : RW x W) (n : Nat) (hn20 : n ≤ 20)  : CtI l yX8_pumps cX8_pumps 4 (some .int) 4 92 g N ad F [.ref (ad 254), .int (nI n)] (fun r F' => r = nI (runN n x) ∧ oX g F' 255 (runX n x) ∧ ∀ i, i ≠ 255 → F' i = F i) := by
  refine CtI_of (by decide) (Nat.le_of_ble_eq_true rfl) ?_
  intro p e s m args below meth c A H ls X M h hl
  have kx := X.1.1
  have kb := X.1.2.1
  have hl : lv_has ls 4 [(0, .ref (ad 254)), (1, .int (nI n))] := hl
  have hN0 := hm.1
  have hn12 := hI.n
  have htn64 := hI.tn
  obtain ⟨hz0, hz1a, hz1, hz2, hz3, hz4⟩ := hI.zz
  refine lv_iconst (v := nI 0) kx kb dX8_pumps_0 (by decide) ?_
  refine lv_istore_n (lv' := [(2, .int (nI 0)), (0, .ref (ad 254)), (1, .int (nI n))]) kx kb dX8_pumps_1 rfl hl (by decide) rfl (fun ls hl => ?_)
  refine lv_iconst (v := nI 0) kx kb dX8_pumps_2 (by decide) ?_
  refine lv_istore_n (lv' := [(3, .int (nI 0)), (2, .int (nI 0)), (0, .ref (ad 254)), (1, .int (nI n))]) kx kb dX8_pumps_3 rfl hl (by decide) rfl (fun ls hl => ?_)
  refine w_loop5 (fun (i : Nat) (y : SX) (F1 : Nat → va_E) (W1 : Nat → Int32) (tv : Nat) => n - i) (fun (i : Nat) (y : SX) (F1 : Nat → va_E) (W1 : Nat → Int32) (tv : Nat) H locs ls => Hx g N ad F1 A s H locs ∧ lv_has ls 4 [(0, .ref (ad 254)), (1, .int (nI n)), (2, .int (nI tv)), (3, .int (nI i))] ∧ (i ≤ n) ∧ (Inv y) ∧ (arI g F1 255 274 W1) ∧ (RW y W1) ∧ (∀ q, q ≠ 255 → F1 q = F q) ∧ (runX (n - i) y = runX n x) ∧ (tv + runN (n - i) y = runN n x)) ?_ 0 x F W 0 ⟨h, lv_sub hl [2, 3, 1, 0] rfl, by omega, hI, hW, hR, fun q hq => rfl, rfl, by rw [Nat.zero_add]; rfl⟩
  intro i y F1 W1 tv H locs ls hinv ih
  obtain ⟨h, hl, hi, hy, hW1, hR1, hf1, hX, hNn⟩ := hinv
  obtain ⟨gz0, gz1a, gz1, gz2, gz3, gz4⟩ := hy.zz
  refine lv_iload_n kx kb dX8_pumps_4 rfl (lv_at hl 3 rfl) ?_
  refine lv_iload_n kx kb dX8_pumps_5 rfl (lv_at hl 1 rfl) ?_
  refine w_cmp_ge (tgt := 33) kx kb (by omega) (by omega) dX8_pumps_6 (by decide) (fun c_1 => ?_) (fun c_1 => ?_)
  · refine lv_iload_n kx kb dX8_pumps_33 rfl (lv_at hl 2 rfl) ?_
    exact w_iret X h (by rw [show n - i = 0 by omega, runX] at hX; rw [show n - i = 0 by omega, runN] at hNn; rw [← hX]; exact ⟨congrArg nI (by omega), ⟨W1, hW1, hR1⟩, fun i hi => hf1 i hi⟩) dX8_pumps_34
  · refine lv_aload_n kx kb dX8_pumps_9 rfl (lv_at hl 0 rfl) ?_
    refine w_get X M h 254 ((hm.fr (hf1 254 (by omega))).2) (by omega) fl_X8_32 rfl dX8_pumps_10 ?_
    refine lv_iconst (v := nI 4) kx kb dX8_pumps_13 (by decide) ?_
    refine w_iald X M h 255 hW1 (by omega) (4) (rfl) (by omega) (by omega) dX8_pumps_14 ?_
    refine w_top (y := nI (y.2.2.2.2.2.2.2 3)) (hR1.z 3 (by omega)) ?_
    refine lv_bipush (v := nI 40) kx kb dX8_pumps_15 (by decide) ?_
    refine w_cmp_gt (tgt := 33) kx kb (by omega) (by omega) dX8_pumps_17 (by decide) (fun c_2 => ?_) (fun c_2 => ?_)
    · refine lv_iload_n kx kb dX8_pumps_33 rfl (lv_at hl 2 rfl) ?_
      exact w_iret X h (by rw [show n - i = (n - i - 1) + 1 by omega, runX, if_neg (show ¬ y.2.2.2.2.2.2.2 3 ≤ 40 by omega)] at hX; rw [show n - i = (n - i - 1) + 1 by omega, runN, if_neg (show ¬ y.2.2.2.2.2.2.2 3 ≤ 40 by omega)] at hNn; rw [← hX]; exact ⟨congrArg nI (by omega), ⟨W1, hW1, hR1⟩, fun i hi => hf1 i hi⟩) dX8_pumps_34
    · have hg40 : y.2.2.2.2.2.2.2 3 ≤ 40 := by omega
      refine lv_iload_n kx kb dX8_pumps_20 rfl (lv_at hl 2 rfl) ?_
      refine lv_aload_n kx kb dX8_pumps_21 rfl (lv_at hl 0 rfl) ?_
      refine w_callVi X M h [] [.int (nI tv)] ((c_X8_strokesOnce l g u v ⟨by omega, (hm.fr (hf1 254 (by omega))).2⟩ y hy W1 hW1 hR1 hg40)) lk_X8_178 ((hm.fr (hf1 254 (by omega))).2) (by omega) rfl rfl ⟨by decide, by decide⟩ hl ⟨Nat.zero_le _, Nat.zero_le _⟩ (Nat.le_of_ble_eq_true rfl) rfl dX8_pumps_22 (fun r_F3 F3 H locs hp_F3 h => ?_)
      obtain ⟨W_F3, hW_F3, hR_F3⟩ := hp_F3.2.1
      refine w_top (y := nI (stCnt (strk y))) hp_F3.1 ?_
      refine w_addn kx kb dX8_pumps_25 ?_
      refine lv_istore_n (lv' := [(2, .int (nI (tv + (stCnt (strk y))))), (0, .ref (ad 254)), (1, .int (nI n)), (3, .int (nI i))]) kx kb dX8_pumps_26 rfl hl (by decide) rfl (fun ls hl => ?_)
      refine lv_iinc (v := nI (i + 1)) (lv' := [(3, .int (nI (i + 1))), (2, .int (nI (tv + (stCnt (strk y))))), (0, .ref (ad 254)), (1, .int (nI n))]) kx kb dX8_pumps_27 hl (k := 3) rfl (nI_add _ _) (by decide) rfl (fun ls hl => ?_)
      refine lv_goto (tgt := 4) kx kb dX8_pumps_30 (by decide) ?_
      exact ih (i + 1) (strokeF y) F3 W_F3 (tv + stCnt (strk y)) _ _ _ ⟨h, lv_sub hl [2, 3, 1, 0] rfl, by omega, (stroke_ok hy hg40).2, hW_F3, hR_F3, (fun q hq => (hp_F3.2.2 q (by omega)).trans (hf1 q (by omega))), by rw [show n - i = (n - (i + 1)) + 1 by omega, runX, if_pos hg40] at hX; exact hX, by rw [show n - i = (n - (i + 1)) + 1 by omega, runN, if_pos hg40] at hNn; omega⟩ (by omega)
theorem uNot_drop (x : SX) (a : Int32) (u : Nat → Int32) : uNot u (notDropF x a) = u := uNot_n (by unfold notDropF; split <;> decide)
set_option maxRecDepth 20000 in
theorem c_X8_joke (l : Launch) (g : gT) {N : Nat} {ad : Nat → Nat} {F : Nat → va_E} (u : Nat → Int32) (v : Nat → Nat) (hm : oM g N ad F u v) (x : SX) (hI : Inv x) (W : Nat → Int32) (hW : arI g F 255 274 W) (hR : RW x W) (hv0 : v 0 ≤ 8) (hv1 : v 1 < 8) (hs : Nat → SX) (hns : ∀ i, i < v 0 → (hs i).1 ≤ 12 ∧ (hs i).2.2.1 ≤ 64) (hU : oU g F hs (v 1) (v 0)) (D : Nat → Int32) (hD : arI g F 258 274 D) (wl dp sg wt : Int32) : CtI l yX8_joke cX8_joke 6 (some .int) 3 69 g N ad F [.ref (ad 254), .int wl, .int dp, .int sg, .int wt] (fun r F' => TurnP g N ad F u v x hs (notJokeF x wl dp sg wt) (nI x.1) (xCome x wl dp sg wt) r F') := by
  refine CtI_of (by decide) (Nat.le_of_ble_eq_true rfl) ?_
  intro p e s m args below meth c A H ls X M h hl
  have kx := X.1.1
  have kb := X.1.2.1
  have hl : lv_has ls 6 [(0, .ref (ad 254)), (1, .int wl), (2, .int dp), (3, .int sg), (4, .int wt)] := hl
  have hN0 := hm.1
  have hn12 := hI.n
  have htn64 := hI.tn
  obtain ⟨hz0, hz1a, hz1, hz2, hz3, hz4⟩ := hI.zz
  refine lv_aload_n kx kb dX8_joke_0 rfl (lv_at hl 0 rfl) ?_
  refine lv_iload_n kx kb dX8_joke_1 rfl (lv_at hl 1 rfl) ?_
  refine lv_iload_n kx kb dX8_joke_2 rfl (lv_at hl 2 rfl) ?_
  refine lv_iload_n kx kb dX8_joke_3 rfl (lv_at hl 3 rfl) ?_
  refine lv_iload kx kb dX8_joke_4 (lv_at hl 4 rfl) ?_
  refine w_callVi X M h [.int wl, .int dp, .int sg, .int wt] [] ((c_X8_notJoke l g u v ⟨by omega, hm.2⟩ x hI W hW hR wl dp sg wt)) lk_X8_100 hm.2 (by omega) rfl rfl ⟨by decide, by decide⟩ hl ⟨Nat.zero_le _, Nat.zero_le _⟩ (Nat.le_of_ble_eq_true rfl) rfl dX8_joke_6 (fun r_F1 F1 H locs hp_F1 h => ?_)
  refine w_top (y := (notJokeF x wl dp sg wt).1) hp_F1.1 ?_
  refine lv_istore (lv' := [(5, .int ((notJokeF x wl dp sg wt).1)), (0, .ref (ad 254)), (1, .int wl), (2, .int dp), (3, .int sg), (4, .int wt)]) kx kb dX8_joke_9 hl (by decide) rfl (fun ls hl => ?_)
  refine lv_iload kx kb dX8_joke_11 (lv_at hl 0 rfl) ?_
  refine lv_if_eq (tgt := 23) kx kb dX8_joke_13 (by decide) (fun c_2 => ?_) (fun c_2 => ?_)
  · have hu0 : uNot u (notJokeF x wl dp sg wt) = u := uNot_n (by rw [c_2]; decide)
    obtain ⟨h1, h2, h3, h4, h5, h6, h7, h8, h9⟩ := notJoke_ok c_2
    refine lv_aload_n kx kb dX8_joke_23 rfl (lv_at hl 1 rfl) ?_
    refine w_callVv X M h [] [] ((c_X8_remembers l g (uNot u (notJokeF x wl dp sg wt)) v ⟨by omega, hp_F1.2.1.2⟩ x hI W (hW.fr (hp_F1.2.2 255 (by omega))) hR hv0 hv1 hs hns (hU.fr (hp_F1.2.2 256 (by omega))) D (hD.fr (hp_F1.2.2 258 (by omega))))) lk_X8_107 hp_F1.2.1.2 (by omega) rfl rfl ⟨by decide, by decide⟩ hl ⟨Nat.zero_le _, Nat.zero_le _⟩ (Nat.le_of_ble_eq_true rfl) rfl dX8_joke_24 (fun F3 H locs hp_F3 h => ?_)
    obtain ⟨hm_F3, hU_F3, ⟨D_F3, hD_F3⟩, hf_F3⟩ := hp_F3
    refine lv_aload_n kx kb dX8_joke_27 rfl (lv_at hl 1 rfl) ?_
    refine lv_iload_n kx kb dX8_joke_28 rfl (lv_at hl 2 rfl) ?_
    refine lv_iload_n kx kb dX8_joke_29 rfl (lv_at hl 3 rfl) ?_
    refine lv_iload_n kx kb dX8_joke_30 rfl (lv_at hl 4 rfl) ?_
    refine lv_iload kx kb dX8_joke_31 (lv_at hl 5 rfl) ?_
    refine w_callVi X M h [.int wl, .int dp, .int sg, .int wt] [] ((c_X8_comes l g (uNot u (notJokeF x wl dp sg wt)) (vKeep v) ⟨by omega, hm_F3.2⟩ x hI W ((hW.fr (hp_F1.2.2 255 (by omega))).fr (hf_F3 255 (by omega) (by omega) (by omega))) hR wl dp sg wt (by omega))) lk_X8_110 hm_F3.2 (by omega) rfl rfl ⟨by decide, by decide⟩ hl ⟨Nat.zero_le _, Nat.zero_le _⟩ (Nat.le_of_ble_eq_true rfl) rfl dX8_joke_33 (fun r_F4 F4 H locs hp_F4 h => ?_)
    obtain ⟨W_F4, hW_F4, hR_F4⟩ := hp_F4.2.1
    refine w_top (y := nI (x.1)) hp_F4.1 ?_
    exact w_iret X h ⟨fun _ => (by skip; exact ⟨rfl, by rw [← hu0]; exact ⟨by omega, ((hp_F4.2.2 254 (by omega)).trans hm_F3.2)⟩, ⟨_, hW_F4, hR_F4⟩, (hU_F3.fr (hp_F4.2.2 256 (by omega)))⟩), fun q => absurd c_2 q, ⟨_, (hD_F3.fr (hp_F4.2.2 258 (by omega)))⟩, (fun i hi hi2 hi3 hi4 => (hp_F4.2.2 i (by omega)).trans ((hf_F3 i (by omega) (by omega) (by omega)).trans (hp_F1.2.2 i (by omega))))⟩ dX8_joke_36
  · refine lv_aload_n kx kb dX8_joke_16 rfl (lv_at hl 1 rfl) ?_
    refine lv_iload kx kb dX8_joke_17 (lv_at hl 0 rfl) ?_
    refine w_callVi X M h [.int ((notJokeF x wl dp sg wt).1)] [] ((c_X8_answers l g (uNot u (notJokeF x wl dp sg wt)) v ⟨by omega, hp_F1.2.1.2⟩ ((notJokeF x wl dp sg wt).1))) lk_X8_104 hp_F1.2.1.2 (by omega) rfl rfl ⟨by decide, by decide⟩ hl ⟨Nat.zero_le _, Nat.zero_le _⟩ (Nat.le_of_ble_eq_true rfl) rfl dX8_joke_19 (fun r_F5 F5 H locs hp_F5 h => ?_)
    refine w_top (y := (notJokeF x wl dp sg wt).1) hp_F5.1 ?_
    exact w_iret X h ⟨fun q => absurd q c_2, fun _ => ⟨rfl, ⟨by omega, hp_F5.2.1.2⟩, ⟨_, ((hW.fr (hp_F1.2.2 255 (by omega))).fr (hp_F5.2.2 255 (by omega))), hR⟩, ((hU.fr (hp_F1.2.2 256 (by omega))).fr (hp_F5.2.2 256 (by omega)))⟩, ⟨_, ((hD.fr (hp_F1.2.2 258 (by omega))).fr (hp_F5.2.2 258 (by omega)))⟩, (fun i hi hi2 hi3 hi4 => (hp_F5.2.2 i (by omega)).trans (hp_F1.2.2 i (by omega)))⟩ dX8_joke_22
set_option maxRecDepth 20000 in
theorem c_X8_prime (l : Launch) (g : gT) {N : Nat} {ad : Nat → Nat} {F : Nat → va_E} (u : Nat → Int32) (v : Nat → Nat) (hm : oM g N ad F u v) (x : SX) (hI : Inv x) (W : Nat → Int32) (hW : arI g F 255 274 W) (hR : RW x W) (hv0 : v 0 ≤ 8) (hv1 : v 1 < 8) (hs : Nat → SX) (hns : ∀ i, i < v 0 → (hs i).1 ≤ 12 ∧ (hs i).2.2.1 ≤ 64) (hU : oU g F hs (v 1) (v 0)) (D : Nat → Int32) (hD : arI g F 258 274 D) (a : Int32) : CtI l yX8_prime cX8_prime 3 (some .int) 3 64 g N ad F [.ref (ad 254), .int a] (fun r F' => TurnP g N ad F u v x hs (notPrimeF x a) (nI (x.2.2.2.2.2.2.2 4 - 1)) (xPrime x (cl a)) r F') := by
  refine CtI_of (by decide) (Nat.le_of_ble_eq_true rfl) ?_
  intro p e s m args below meth c A H ls X M h hl
  have kx := X.1.1
  have kb := X.1.2.1
  have hl : lv_has ls 3 [(0, .ref (ad 254)), (1, .int a)] := hl
  have hN0 := hm.1
  have hn12 := hI.n
  have htn64 := hI.tn
  obtain ⟨hz0, hz1a, hz1, hz2, hz3, hz4⟩ := hI.zz
  refine lv_aload_n kx kb dX8_prime_0 rfl (lv_at hl 0 rfl) ?_
  refine lv_iload_n kx kb dX8_prime_1 rfl (lv_at hl 1 rfl) ?_
  refine w_callVi X M h [.int a] [] ((c_X8_notPrime l g u v ⟨by omega, hm.2⟩ x hI W hW hR a)) lk_X8_116 hm.2 (by omega) rfl rfl ⟨by decide, by decide⟩ hl ⟨Nat.zero_le _, Nat.zero_le _⟩ (Nat.le_of_ble_eq_true rfl) rfl dX8_prime_2 (fun r_F1 F1 H locs hp_F1 h => ?_)
  refine w_top (y := (notPrimeF x a).1) hp_F1.1 ?_
  refine lv_istore_n (lv' := [(2, .int ((notPrimeF x a).1)), (0, .ref (ad 254)), (1, .int a)]) kx kb dX8_prime_5 rfl hl (by decide) rfl (fun ls hl => ?_)
  refine lv_iload_n kx kb dX8_prime_6 rfl (lv_at hl 0 rfl) ?_
  refine lv_if_eq (tgt := 16) kx kb dX8_prime_7 (by decide) (fun c_2 => ?_) (fun c_2 => ?_)
  · have hu0 : uNot u (notPrimeF x a) = u := uNot_n (by rw [c_2]; decide)
    obtain ⟨k, hk6, ⟨hk, hk4, hkp⟩, rfl⟩ := notPrime_ok (by omega) c_2
    refine lv_aload_n kx kb dX8_prime_16 rfl (lv_at hl 1 rfl) ?_
    refine w_callVv X M h [] [] ((c_X8_remembers l g (uNot u (notPrimeF x (nI k))) v ⟨by omega, hp_F1.2.1.2⟩ x hI W (hW.fr (hp_F1.2.2 255 (by omega))) hR hv0 hv1 hs hns (hU.fr (hp_F1.2.2 256 (by omega))) D (hD.fr (hp_F1.2.2 258 (by omega))))) lk_X8_107 hp_F1.2.1.2 (by omega) rfl rfl ⟨by decide, by decide⟩ hl ⟨Nat.zero_le _, Nat.zero_le _⟩ (Nat.le_of_ble_eq_true rfl) rfl dX8_prime_17 (fun F3 H locs hp_F3 h => ?_)
    obtain ⟨hm_F3, hU_F3, ⟨D_F3, hD_F3⟩, hf_F3⟩ := hp_F3
    refine lv_aload_n kx kb dX8_prime_20 rfl (lv_at hl 1 rfl) ?_
    refine lv_iload_n kx kb dX8_prime_21 rfl (lv_at hl 2 rfl) ?_
    refine w_callVi X M h [.int (nI k)] [] ((c_X8_primes l g (uNot u (notPrimeF x (nI k))) (vKeep v) ⟨by omega, hm_F3.2⟩ x hI W ((hW.fr (hp_F1.2.2 255 (by omega))).fr (hf_F3 255 (by omega) (by omega) (by omega))) hR k (by omega) (by omega))) lk_X8_119 hm_F3.2 (by omega) rfl rfl ⟨by decide, by decide⟩ hl ⟨Nat.zero_le _, Nat.zero_le _⟩ (Nat.le_of_ble_eq_true rfl) rfl dX8_prime_22 (fun r_F4 F4 H locs hp_F4 h => ?_)
    obtain ⟨W_F4, hW_F4, hR_F4⟩ := hp_F4.2.1
    refine w_top (y := nI (x.2.2.2.2.2.2.2 4 - 1)) hp_F4.1 ?_
    exact w_iret X h ⟨fun _ => (by rw [cl_n (show k < 2147483648 by omega)]; exact ⟨rfl, by rw [← hu0]; exact ⟨by omega, ((hp_F4.2.2 254 (by omega)).trans hm_F3.2)⟩, ⟨_, hW_F4, hR_F4⟩, (hU_F3.fr (hp_F4.2.2 256 (by omega)))⟩), fun q => absurd c_2 q, ⟨_, (hD_F3.fr (hp_F4.2.2 258 (by omega)))⟩, (fun i hi hi2 hi3 hi4 => (hp_F4.2.2 i (by omega)).trans ((hf_F3 i (by omega) (by omega) (by omega)).trans (hp_F1.2.2 i (by omega))))⟩ dX8_prime_25
  · refine lv_aload_n kx kb dX8_prime_10 rfl (lv_at hl 1 rfl) ?_
    refine lv_iload_n kx kb dX8_prime_11 rfl (lv_at hl 0 rfl) ?_
    refine w_callVi X M h [.int ((notPrimeF x a).1)] [] ((c_X8_answers l g (uNot u (notPrimeF x a)) v ⟨by omega, hp_F1.2.1.2⟩ ((notPrimeF x a).1))) lk_X8_104 hp_F1.2.1.2 (by omega) rfl rfl ⟨by decide, by decide⟩ hl ⟨Nat.zero_le _, Nat.zero_le _⟩ (Nat.le_of_ble_eq_true rfl) rfl dX8_prime_12 (fun r_F5 F5 H locs hp_F5 h => ?_)
    refine w_top (y := (notPrimeF x a).1) hp_F5.1 ?_
    exact w_iret X h ⟨fun q => absurd q c_2, fun _ => ⟨rfl, ⟨by omega, hp_F5.2.1.2⟩, ⟨_, ((hW.fr (hp_F1.2.2 255 (by omega))).fr (hp_F5.2.2 255 (by omega))), hR⟩, ((hU.fr (hp_F1.2.2 256 (by omega))).fr (hp_F5.2.2 256 (by omega)))⟩, ⟨_, ((hD.fr (hp_F1.2.2 258 (by omega))).fr (hp_F5.2.2 258 (by omega)))⟩, (fun i hi hi2 hi3 hi4 => (hp_F5.2.2 i (by omega)).trans (hp_F1.2.2 i (by omega)))⟩ dX8_prime_15
set_option maxRecDepth 20000 in
theorem c_X8_drop (l : Launch) (g : gT) {N : Nat} {ad : Nat → Nat} {F : Nat → va_E} (u : Nat → Int32) (v : Nat → Nat) (hm : oM g N ad F u v) (x : SX) (hI : Inv x) (W : Nat → Int32) (hW : arI g F 255 274 W) (hR : RW x W) (hv0 : v 0 ≤ 8) (hv1 : v 1 < 8) (hs : Nat → SX) (hns : ∀ i, i < v 0 → (hs i).1 ≤ 12 ∧ (hs i).2.2.1 ≤ 64) (hU : oU g F hs (v 1) (v 0)) (D : Nat → Int32) (hD : arI g F 258 274 D) (a : Int32) : CtI l yX8_drop cX8_drop 3 (some .int) 3 64 g N ad F [.ref (ad 254), .int a] (fun r F' => TurnP g N ad F u v x hs (notDropF x a) (nI (x.1 - 1)) (xGo x (cl a)) r F') := by
  refine CtI_of (by decide) (Nat.le_of_ble_eq_true rfl) ?_
  intro p e s m args below meth c A H ls X M h hl
  have kx := X.1.1
  have kb := X.1.2.1
  have hl : lv_has ls 3 [(0, .ref (ad 254)), (1, .int a)] := hl
  have hN0 := hm.1
  have hn12 := hI.n
  have htn64 := hI.tn
  obtain ⟨hz0, hz1a, hz1, hz2, hz3, hz4⟩ := hI.zz
  refine lv_aload_n kx kb dX8_drop_0 rfl (lv_at hl 0 rfl) ?_
  refine lv_iload_n kx kb dX8_drop_1 rfl (lv_at hl 1 rfl) ?_
  refine w_callVi X M h [.int a] [] ((c_X8_notDrop l g u v ⟨by omega, hm.2⟩ x hI W hW hR a)) lk_X8_126 hm.2 (by omega) rfl rfl ⟨by decide, by decide⟩ hl ⟨Nat.zero_le _, Nat.zero_le _⟩ (Nat.le_of_ble_eq_true rfl) rfl dX8_drop_2 (fun r_F1 F1 H locs hp_F1 h => ?_)
  refine w_top (y := (notDropF x a).1) hp_F1.1 ?_
  refine lv_istore_n (lv' := [(2, .int ((notDropF x a).1)), (0, .ref (ad 254)), (1, .int a)]) kx kb dX8_drop_5 rfl hl (by decide) rfl (fun ls hl => ?_)
  refine lv_iload_n kx kb dX8_drop_6 rfl (lv_at hl 0 rfl) ?_
  refine lv_if_eq (tgt := 12) kx kb dX8_drop_7 (by decide) (fun c_2 => ?_) (fun c_2 => ?_)
  · have hu0 : uNot u (notDropF x a) = u := uNot_n (by rw [c_2]; decide)
    obtain ⟨k, hk6, hk, rfl⟩ := notDrop_ok (by omega) c_2
    refine lv_aload_n kx kb dX8_drop_12 rfl (lv_at hl 1 rfl) ?_
    refine w_callVv X M h [] [] ((c_X8_remembers l g (uNot u (notDropF x (nI k))) v ⟨by omega, hp_F1.2.1.2⟩ x hI W (hW.fr (hp_F1.2.2 255 (by omega))) hR hv0 hv1 hs hns (hU.fr (hp_F1.2.2 256 (by omega))) D (hD.fr (hp_F1.2.2 258 (by omega))))) lk_X8_107 hp_F1.2.1.2 (by omega) rfl rfl ⟨by decide, by decide⟩ hl ⟨Nat.zero_le _, Nat.zero_le _⟩ (Nat.le_of_ble_eq_true rfl) rfl dX8_drop_13 (fun F3 H locs hp_F3 h => ?_)
    obtain ⟨hm_F3, hU_F3, ⟨D_F3, hD_F3⟩, hf_F3⟩ := hp_F3
    refine lv_aload_n kx kb dX8_drop_16 rfl (lv_at hl 1 rfl) ?_
    refine lv_iload_n kx kb dX8_drop_17 rfl (lv_at hl 2 rfl) ?_
    refine w_callVi X M h [.int (nI k)] [] ((c_X8_drops l g (uNot u (notDropF x (nI k))) (vKeep v) ⟨by omega, hm_F3.2⟩ x hI W ((hW.fr (hp_F1.2.2 255 (by omega))).fr (hf_F3 255 (by omega) (by omega) (by omega))) hR k (by omega))) lk_X8_129 hm_F3.2 (by omega) rfl rfl ⟨by decide, by decide⟩ hl ⟨Nat.zero_le _, Nat.zero_le _⟩ (Nat.le_of_ble_eq_true rfl) rfl dX8_drop_18 (fun r_F4 F4 H locs hp_F4 h => ?_)
    obtain ⟨W_F4, hW_F4, hR_F4⟩ := hp_F4.2.1
    refine w_top (y := nI (x.1 - 1)) hp_F4.1 ?_
    exact w_iret X h ⟨fun _ => (by rw [cl_n (show k < 2147483648 by omega)]; exact ⟨rfl, by rw [← hu0]; exact ⟨by omega, ((hp_F4.2.2 254 (by omega)).trans hm_F3.2)⟩, ⟨_, hW_F4, hR_F4⟩, (hU_F3.fr (hp_F4.2.2 256 (by omega)))⟩), fun q => absurd c_2 q, ⟨_, (hD_F3.fr (hp_F4.2.2 258 (by omega)))⟩, (fun i hi hi2 hi3 hi4 => (hp_F4.2.2 i (by omega)).trans ((hf_F3 i (by omega) (by omega) (by omega)).trans (hp_F1.2.2 i (by omega))))⟩ dX8_drop_21
  · refine lv_iload_n kx kb dX8_drop_10 rfl (lv_at hl 0 rfl) ?_
    exact w_iret X h ⟨fun q => absurd q c_2, fun q => (by rw [notDrop_u q]; exact ⟨rfl, (uNot_drop x a u) ▸ ⟨by omega, hp_F1.2.1.2⟩, ⟨_, (hW.fr (hp_F1.2.2 255 (by omega))), hR⟩, (hU.fr (hp_F1.2.2 256 (by omega)))⟩), ⟨_, (hD.fr (hp_F1.2.2 258 (by omega)))⟩, (fun i hi hi2 hi3 hi4 => hp_F1.2.2 i (by omega))⟩ dX8_drop_11
set_option maxRecDepth 20000 in
theorem c_X8_drain (l : Launch) (g : gT) {N : Nat} {ad : Nat → Nat} {F : Nat → va_E} (u : Nat → Int32) (v : Nat → Nat) (hm : oM g N ad F u v) (x : SX) (hI : Inv x) (W : Nat → Int32) (hW : arI g F 255 274 W) (hR : RW x W) (hv0 : v 0 ≤ 8) (hv1 : v 1 < 8) (hs : Nat → SX) (hns : ∀ i, i < v 0 → (hs i).1 ≤ 12 ∧ (hs i).2.2.1 ≤ 64) (hU : oU g F hs (v 1) (v 0)) (D : Nat → Int32) (hD : arI g F 258 274 D) (a : Int32) : CtI l yX8_drain cX8_drain 3 (some .int) 2 43 g N ad F [.ref (ad 254), .int a] (fun r F' => TurnP g N ad F u v x hs (notDrainF x a) (nI (min 9 (x.2.2.2.2.2.2.2 4 + cl a / 10))) (xDrain x (cl a)) r F') := by
  refine CtI_of (by decide) (Nat.le_of_ble_eq_true rfl) ?_
  intro p e s m args below meth c A H ls X M h hl
  have kx := X.1.1
  have kb := X.1.2.1
  have hl : lv_has ls 3 [(0, .ref (ad 254)), (1, .int a)] := hl
  have hN0 := hm.1
  have hn12 := hI.n
  have htn64 := hI.tn
  obtain ⟨hz0, hz1a, hz1, hz2, hz3, hz4⟩ := hI.zz
  refine lv_aload_n kx kb dX8_drain_0 rfl (lv_at hl 0 rfl) ?_
  refine lv_iload_n kx kb dX8_drain_1 rfl (lv_at hl 1 rfl) ?_
  refine w_callVi X M h [.int a] [] ((c_X8_notDrain l g u v ⟨by omega, hm.2⟩ x hI W hW hR a)) lk_X8_132 hm.2 (by omega) rfl rfl ⟨by decide, by decide⟩ hl ⟨Nat.zero_le _, Nat.zero_le _⟩ (Nat.le_of_ble_eq_true rfl) rfl dX8_drain_2 (fun r_F1 F1 H locs hp_F1 h => ?_)
  refine w_top (y := (notDrainF x a).1) hp_F1.1 ?_
  refine lv_istore_n (lv' := [(2, .int ((notDrainF x a).1)), (0, .ref (ad 254)), (1, .int a)]) kx kb dX8_drain_5 rfl hl (by decide) rfl (fun ls hl => ?_)
  refine lv_iload_n kx kb dX8_drain_6 rfl (lv_at hl 0 rfl) ?_
  refine lv_if_eq (tgt := 16) kx kb dX8_drain_7 (by decide) (fun c_2 => ?_) (fun c_2 => ?_)
  · have hu0 : uNot u (notDrainF x a) = u := uNot_n (by rw [c_2]; decide)
    obtain ⟨k, hk6, ⟨hk1, hk2, hk3⟩, rfl⟩ := notDrain_ok c_2
    refine lv_aload_n kx kb dX8_drain_16 rfl (lv_at hl 1 rfl) ?_
    refine w_callVv X M h [] [] ((c_X8_remembers l g (uNot u (notDrainF x (nI k))) v ⟨by omega, hp_F1.2.1.2⟩ x hI W (hW.fr (hp_F1.2.2 255 (by omega))) hR hv0 hv1 hs hns (hU.fr (hp_F1.2.2 256 (by omega))) D (hD.fr (hp_F1.2.2 258 (by omega))))) lk_X8_107 hp_F1.2.1.2 (by omega) rfl rfl ⟨by decide, by decide⟩ hl ⟨Nat.zero_le _, Nat.zero_le _⟩ (Nat.le_of_ble_eq_true rfl) rfl dX8_drain_17 (fun F3 H locs hp_F3 h => ?_)
    obtain ⟨hm_F3, hU_F3, ⟨D_F3, hD_F3⟩, hf_F3⟩ := hp_F3
    refine lv_aload_n kx kb dX8_drain_20 rfl (lv_at hl 1 rfl) ?_
    refine lv_iload_n kx kb dX8_drain_21 rfl (lv_at hl 2 rfl) ?_
    refine w_callVi X M h [.int (nI k)] [] ((c_X8_drains l g (uNot u (notDrainF x (nI k))) (vKeep v) ⟨by omega, hm_F3.2⟩ x hI W ((hW.fr (hp_F1.2.2 255 (by omega))).fr (hf_F3 255 (by omega) (by omega) (by omega))) hR k (by omega))) lk_X8_135 hm_F3.2 (by omega) rfl rfl ⟨by decide, by decide⟩ hl ⟨Nat.zero_le _, Nat.zero_le _⟩ (Nat.le_of_ble_eq_true rfl) rfl dX8_drain_22 (fun r_F4 F4 H locs hp_F4 h => ?_)
    obtain ⟨W_F4, hW_F4, hR_F4⟩ := hp_F4.2.1
    refine w_top (y := nI (min 9 (x.2.2.2.2.2.2.2 4 + k / 10))) hp_F4.1 ?_
    exact w_iret X h ⟨fun _ => (by rw [cl_n (show k < 2147483648 by omega)]; exact ⟨rfl, by rw [← hu0]; exact ⟨by omega, ((hp_F4.2.2 254 (by omega)).trans hm_F3.2)⟩, ⟨_, hW_F4, hR_F4⟩, (hU_F3.fr (hp_F4.2.2 256 (by omega)))⟩), fun q => absurd c_2 q, ⟨_, (hD_F3.fr (hp_F4.2.2 258 (by omega)))⟩, (fun i hi hi2 hi3 hi4 => (hp_F4.2.2 i (by omega)).trans ((hf_F3 i (by omega) (by omega) (by omega)).trans (hp_F1.2.2 i (by omega))))⟩ dX8_drain_25
  · refine lv_aload_n kx kb dX8_drain_10 rfl (lv_at hl 1 rfl) ?_
    refine lv_iload_n kx kb dX8_drain_11 rfl (lv_at hl 0 rfl) ?_
    refine w_callVi X M h [.int ((notDrainF x a).1)] [] ((c_X8_answers l g (uNot u (notDrainF x a)) v ⟨by omega, hp_F1.2.1.2⟩ ((notDrainF x a).1))) lk_X8_104 hp_F1.2.1.2 (by omega) rfl rfl ⟨by decide, by decide⟩ hl ⟨Nat.zero_le _, Nat.zero_le _⟩ (Nat.le_of_ble_eq_true rfl) rfl dX8_drain_12 (fun r_F5 F5 H locs hp_F5 h => ?_)
    refine w_top (y := (notDrainF x a).1) hp_F5.1 ?_
    exact w_iret X h ⟨fun q => absurd q c_2, fun _ => ⟨rfl, ⟨by omega, hp_F5.2.1.2⟩, ⟨_, ((hW.fr (hp_F1.2.2 255 (by omega))).fr (hp_F5.2.2 255 (by omega))), hR⟩, ((hU.fr (hp_F1.2.2 256 (by omega))).fr (hp_F5.2.2 256 (by omega)))⟩, ⟨_, ((hD.fr (hp_F1.2.2 258 (by omega))).fr (hp_F5.2.2 258 (by omega)))⟩, (fun i hi hi2 hi3 hi4 => (hp_F5.2.2 i (by omega)).trans (hp_F1.2.2 i (by omega)))⟩ dX8_drain_15
set_option maxRecDepth 20000 in
theorem c_X8_stroke (l : Launch) (g : gT) {N : Nat} {ad : Nat → Nat} {F : Nat → va_E} (u : Nat → Int32) (v : Nat → Nat) (hm : oM g N ad F u v) (x : SX) (hI : Inv x) (W : Nat → Int32) (hW : arI g F 255 274 W) (hR : RW x W) (hv0 : v 0 ≤ 8) (hv1 : v 1 < 8) (hs : Nat → SX) (hns : ∀ i, i < v 0 → (hs i).1 ≤ 12 ∧ (hs i).2.2.1 ≤ 64) (hU : oU g F hs (v 1) (v 0)) (D : Nat → Int32) (hD : arI g F 258 274 D) (a : Int32) : CtI l yX8_stroke cX8_stroke 3 (some .int) 2 43 g N ad F [.ref (ad 254), .int a] (fun r F' => TurnP g N ad F u v x hs (notStrokeF x a) (nI (x.2.2.2.2.2.2.2 1)) (xZ x (zUp x.2.2.2.2.2.2.2 1 (cl a))) r F') := by
  refine CtI_of (by decide) (Nat.le_of_ble_eq_true rfl) ?_
  intro p e s m args below meth c A H ls X M h hl
  have kx := X.1.1
  have kb := X.1.2.1
  have hl : lv_has ls 3 [(0, .ref (ad 254)), (1, .int a)] := hl
  have hN0 := hm.1
  have hn12 := hI.n
  have htn64 := hI.tn
  obtain ⟨hz0, hz1a, hz1, hz2, hz3, hz4⟩ := hI.zz
  refine lv_aload_n kx kb dX8_stroke_0 rfl (lv_at hl 0 rfl) ?_
  refine lv_iload_n kx kb dX8_stroke_1 rfl (lv_at hl 1 rfl) ?_
  refine w_callVi X M h [.int a] [] ((c_X8_notStroke l g u v ⟨by omega, hm.2⟩ x hI W hW hR a)) lk_X8_138 hm.2 (by omega) rfl rfl ⟨by decide, by decide⟩ hl ⟨Nat.zero_le _, Nat.zero_le _⟩ (Nat.le_of_ble_eq_true rfl) rfl dX8_stroke_2 (fun r_F1 F1 H locs hp_F1 h => ?_)
  refine w_top (y := (notStrokeF x a).1) hp_F1.1 ?_
  refine lv_istore_n (lv' := [(2, .int ((notStrokeF x a).1)), (0, .ref (ad 254)), (1, .int a)]) kx kb dX8_stroke_5 rfl hl (by decide) rfl (fun ls hl => ?_)
  refine lv_iload_n kx kb dX8_stroke_6 rfl (lv_at hl 0 rfl) ?_
  refine lv_if_eq (tgt := 16) kx kb dX8_stroke_7 (by decide) (fun c_2 => ?_) (fun c_2 => ?_)
  · have hu0 : uNot u (notStrokeF x a) = u := uNot_n (by rw [c_2]; decide)
    obtain ⟨k, hk6, ⟨hk1, hk2, hk3⟩, rfl⟩ := notStroke_ok c_2
    refine lv_aload_n kx kb dX8_stroke_16 rfl (lv_at hl 1 rfl) ?_
    refine w_callVv X M h [] [] ((c_X8_remembers l g (uNot u (notStrokeF x (nI k))) v ⟨by omega, hp_F1.2.1.2⟩ x hI W (hW.fr (hp_F1.2.2 255 (by omega))) hR hv0 hv1 hs hns (hU.fr (hp_F1.2.2 256 (by omega))) D (hD.fr (hp_F1.2.2 258 (by omega))))) lk_X8_107 hp_F1.2.1.2 (by omega) rfl rfl ⟨by decide, by decide⟩ hl ⟨Nat.zero_le _, Nat.zero_le _⟩ (Nat.le_of_ble_eq_true rfl) rfl dX8_stroke_17 (fun F3 H locs hp_F3 h => ?_)
    obtain ⟨hm_F3, hU_F3, ⟨D_F3, hD_F3⟩, hf_F3⟩ := hp_F3
    refine lv_aload_n kx kb dX8_stroke_20 rfl (lv_at hl 1 rfl) ?_
    refine lv_iconst (v := nI 2) kx kb dX8_stroke_21 (by decide) ?_
    refine lv_iload_n kx kb dX8_stroke_22 rfl (lv_at hl 2 rfl) ?_
    refine w_callVi X M h [.int (nI 2), .int (nI k)] [] ((c_X8_tells l g (uNot u (notStrokeF x (nI k))) (vKeep v) ⟨by omega, hm_F3.2⟩ W ((hW.fr (hp_F1.2.2 255 (by omega))).fr (hf_F3 255 (by omega) (by omega) (by omega))) 2 (by omega) (nI k))) lk_X8_141 hm_F3.2 (by omega) rfl rfl ⟨by decide, by decide⟩ hl ⟨Nat.zero_le _, Nat.zero_le _⟩ (Nat.le_of_ble_eq_true rfl) rfl dX8_stroke_23 (fun r_F4 F4 H locs hp_F4 h => ?_)
    refine w_top (y := W 2) hp_F4.1 ?_
    refine w_top (y := nI (x.2.2.2.2.2.2.2 1)) (hR.z 1 (by omega)) ?_
    have hR_5 : RW (xZ x (zUp x.2.2.2.2.2.2.2 1 k)) (upd W 2 (nI k)) := RW.setz hR 1 k (by omega)
    exact w_iret X h ⟨fun _ => (by rw [cl_n (show k < 2147483648 by omega)]; exact ⟨rfl, by rw [← hu0]; exact ⟨by omega, ((hp_F4.2.2 254 (by omega)).trans hm_F3.2)⟩, ⟨_, hp_F4.2.1, hR_5⟩, (hU_F3.fr (hp_F4.2.2 256 (by omega)))⟩), fun q => absurd c_2 q, ⟨_, (hD_F3.fr (hp_F4.2.2 258 (by omega)))⟩, (fun i hi hi2 hi3 hi4 => (hp_F4.2.2 i (by omega)).trans ((hf_F3 i (by omega) (by omega) (by omega)).trans (hp_F1.2.2 i (by omega))))⟩ dX8_stroke_26
  · refine lv_aload_n kx kb dX8_stroke_10 rfl (lv_at hl 1 rfl) ?_
    refine lv_iload_n kx kb dX8_stroke_11 rfl (lv_at hl 0 rfl) ?_
    refine w_callVi X M h [.int ((notStrokeF x a).1)] [] ((c_X8_answers l g (uNot u (notStrokeF x a)) v ⟨by omega, hp_F1.2.1.2⟩ ((notStrokeF x a).1))) lk_X8_104 hp_F1.2.1.2 (by omega) rfl rfl ⟨by decide, by decide⟩ hl ⟨Nat.zero_le _, Nat.zero_le _⟩ (Nat.le_of_ble_eq_true rfl) rfl dX8_stroke_12 (fun r_F6 F6 H locs hp_F6 h => ?_)
    refine w_top (y := (notStrokeF x a).1) hp_F6.1 ?_
    exact w_iret X h ⟨fun q => absurd q c_2, fun _ => ⟨rfl, ⟨by omega, hp_F6.2.1.2⟩, ⟨_, ((hW.fr (hp_F1.2.2 255 (by omega))).fr (hp_F6.2.2 255 (by omega))), hR⟩, ((hU.fr (hp_F1.2.2 256 (by omega))).fr (hp_F6.2.2 256 (by omega)))⟩, ⟨_, ((hD.fr (hp_F1.2.2 258 (by omega))).fr (hp_F6.2.2 258 (by omega)))⟩, (fun i hi hi2 hi3 hi4 => (hp_F6.2.2 i (by omega)).trans (hp_F1.2.2 i (by omega)))⟩ dX8_stroke_15
set_option maxRecDepth 20000 in
theorem c_X8_bucket (l : Launch) (g : gT) {N : Nat} {ad : Nat → Nat} {F : Nat → va_E} (u : Nat → Int32) (v : Nat → Nat) (hm : oM g N ad F u v) (x : SX) (hI : Inv x) (W : Nat → Int32) (hW : arI g F 255 274 W) (hR : RW x W) (hv0 : v 0 ≤ 8) (hv1 : v 1 < 8) (hs : Nat → SX) (hns : ∀ i, i < v 0 → (hs i).1 ≤ 12 ∧ (hs i).2.2.1 ≤ 64) (hU : oU g F hs (v 1) (v 0)) (D : Nat → Int32) (hD : arI g F 258 274 D) (a b : Int32) : CtI l yX8_bucket cX8_bucket 4 (some .int) 3 64 g N ad F [.ref (ad 254), .int a, .int b] (fun r F' => TurnP g N ad F u v x hs (notBucketF x a b) (nI (x.2.2.2.2.2.2.1 (cl a))) (xBuck x (cl a) (cl b)) r F') := by
  refine CtI_of (by decide) (Nat.le_of_ble_eq_true rfl) ?_
  intro p e s m args below meth c A H ls X M h hl
  have kx := X.1.1
  have kb := X.1.2.1
  have hl : lv_has ls 4 [(0, .ref (ad 254)), (1, .int a), (2, .int b)] := hl
  have hN0 := hm.1
  have hn12 := hI.n
  have htn64 := hI.tn
  obtain ⟨hz0, hz1a, hz1, hz2, hz3, hz4⟩ := hI.zz
  refine lv_aload_n kx kb dX8_bucket_0 rfl (lv_at hl 0 rfl) ?_
  refine lv_iload_n kx kb dX8_bucket_1 rfl (lv_at hl 1 rfl) ?_
  refine lv_iload_n kx kb dX8_bucket_2 rfl (lv_at hl 2 rfl) ?_
  refine w_callVi X M h [.int a, .int b] [] ((c_X8_notBucket l g u v ⟨by omega, hm.2⟩ x hI W hW hR a b)) lk_X8_144 hm.2 (by omega) rfl rfl ⟨by decide, by decide⟩ hl ⟨Nat.zero_le _, Nat.zero_le _⟩ (Nat.le_of_ble_eq_true rfl) rfl dX8_bucket_3 (fun r_F1 F1 H locs hp_F1 h => ?_)
  refine w_top (y := (notBucketF x a b).1) hp_F1.1 ?_
  refine lv_istore_n (lv' := [(3, .int ((notBucketF x a b).1)), (0, .ref (ad 254)), (1, .int a), (2, .int b)]) kx kb dX8_bucket_6 rfl hl (by decide) rfl (fun ls hl => ?_)
  refine lv_iload_n kx kb dX8_bucket_7 rfl (lv_at hl 0 rfl) ?_
  refine lv_if_eq (tgt := 17) kx kb dX8_bucket_8 (by decide) (fun c_2 => ?_) (fun c_2 => ?_)
  · have hu0 : uNot u (notBucketF x a b) = u := uNot_n (by rw [c_2]; decide)
    obtain ⟨k, b2, hk6, ⟨hk1, hk2, hk3, hk4⟩, rfl, rfl⟩ := notBucket_ok c_2
    refine lv_aload_n kx kb dX8_bucket_17 rfl (lv_at hl 1 rfl) ?_
    refine w_callVv X M h [] [] ((c_X8_remembers l g (uNot u (notBucketF x (nI k) (nI b2))) v ⟨by omega, hp_F1.2.1.2⟩ x hI W (hW.fr (hp_F1.2.2 255 (by omega))) hR hv0 hv1 hs hns (hU.fr (hp_F1.2.2 256 (by omega))) D (hD.fr (hp_F1.2.2 258 (by omega))))) lk_X8_107 hp_F1.2.1.2 (by omega) rfl rfl ⟨by decide, by decide⟩ hl ⟨Nat.zero_le _, Nat.zero_le _⟩ (Nat.le_of_ble_eq_true rfl) rfl dX8_bucket_18 (fun F3 H locs hp_F3 h => ?_)
    obtain ⟨hm_F3, hU_F3, ⟨D_F3, hD_F3⟩, hf_F3⟩ := hp_F3
    refine lv_aload_n kx kb dX8_bucket_21 rfl (lv_at hl 1 rfl) ?_
    refine lv_bipush (v := nI 14) kx kb dX8_bucket_22 (by decide) ?_
    refine lv_iload_n kx kb dX8_bucket_24 rfl (lv_at hl 2 rfl) ?_
    refine w_addn kx kb dX8_bucket_25 ?_
    refine lv_iload_n kx kb dX8_bucket_26 rfl (lv_at hl 3 rfl) ?_
    refine w_callVi X M h [.int (nI (14 + k)), .int (nI b2)] [] ((c_X8_tells l g (uNot u (notBucketF x (nI k) (nI b2))) (vKeep v) ⟨by omega, hm_F3.2⟩ W ((hW.fr (hp_F1.2.2 255 (by omega))).fr (hf_F3 255 (by omega) (by omega) (by omega))) (14 + k) (by omega) (nI b2))) lk_X8_141 hm_F3.2 (by omega) rfl rfl ⟨by decide, by decide⟩ hl ⟨Nat.zero_le _, Nat.zero_le _⟩ (Nat.le_of_ble_eq_true rfl) rfl dX8_bucket_27 (fun r_F4 F4 H locs hp_F4 h => ?_)
    refine w_top (y := W (14 + k)) hp_F4.1 ?_
    refine w_top (y := nI (x.2.2.2.2.2.2.1 k)) (hR.b k (by omega)) ?_
    have hR_5 : RW (xBuck x k b2) (upd W (14 + k) (nI b2)) := RW.setb hR k b2 (by omega)
    exact w_iret X h ⟨fun _ => (by rw [cl_n (show k < 2147483648 by omega)]; rw [cl_n (show b2 < 2147483648 by omega)]; exact ⟨rfl, by rw [← hu0]; exact ⟨by omega, ((hp_F4.2.2 254 (by omega)).trans hm_F3.2)⟩, ⟨_, hp_F4.2.1, hR_5⟩, (hU_F3.fr (hp_F4.2.2 256 (by omega)))⟩), fun q => absurd c_2 q, ⟨_, (hD_F3.fr (hp_F4.2.2 258 (by omega)))⟩, (fun i hi hi2 hi3 hi4 => (hp_F4.2.2 i (by omega)).trans ((hf_F3 i (by omega) (by omega) (by omega)).trans (hp_F1.2.2 i (by omega))))⟩ dX8_bucket_30
  · refine lv_aload_n kx kb dX8_bucket_11 rfl (lv_at hl 1 rfl) ?_
    refine lv_iload_n kx kb dX8_bucket_12 rfl (lv_at hl 0 rfl) ?_
    refine w_callVi X M h [.int ((notBucketF x a b).1)] [] ((c_X8_answers l g (uNot u (notBucketF x a b)) v ⟨by omega, hp_F1.2.1.2⟩ ((notBucketF x a b).1))) lk_X8_104 hp_F1.2.1.2 (by omega) rfl rfl ⟨by decide, by decide⟩ hl ⟨Nat.zero_le _, Nat.zero_le _⟩ (Nat.le_of_ble_eq_true rfl) rfl dX8_bucket_13 (fun r_F6 F6 H locs hp_F6 h => ?_)
    refine w_top (y := (notBucketF x a b).1) hp_F6.1 ?_
    exact w_iret X h ⟨fun q => absurd q c_2, fun _ => ⟨rfl, ⟨by omega, hp_F6.2.1.2⟩, ⟨_, ((hW.fr (hp_F1.2.2 255 (by omega))).fr (hp_F6.2.2 255 (by omega))), hR⟩, ((hU.fr (hp_F1.2.2 256 (by omega))).fr (hp_F6.2.2 256 (by omega)))⟩, ⟨_, ((hD.fr (hp_F1.2.2 258 (by omega))).fr (hp_F6.2.2 258 (by omega)))⟩, (fun i hi hi2 hi3 hi4 => (hp_F6.2.2 i (by omega)).trans (hp_F1.2.2 i (by omega)))⟩ dX8_bucket_16
set_option maxRecDepth 20000 in
theorem c_X8_go (l : Launch) (g : gT) {N : Nat} {ad : Nat → Nat} {F : Nat → va_E} (u : Nat → Int32) (v : Nat → Nat) (hm : oM g N ad F u v) (x : SX) (hI : Inv x) (W : Nat → Int32) (hW : arI g F 255 274 W) (hR : RW x W) (hv0 : v 0 ≤ 8) (hv1 : v 1 < 8) (hs : Nat → SX) (hns : ∀ i, i < v 0 → (hs i).1 ≤ 12 ∧ (hs i).2.2.1 ≤ 64) (hU : oU g F hs (v 1) (v 0)) (D : Nat → Int32) (hD : arI g F 258 274 D) (a : Int32) : CtI l yX8_go cX8_go 3 (some .int) 3 63 g N ad F [.ref (ad 254), .int a] (fun r F' => TurnP g N ad F u v x hs (notGoF x a) (nI (x.2.2.2.2.2.2.2 0)) (xZ x (zUp (zUp x.2.2.2.2.2.2.2 0 (cl a)) 2 0)) r F') := by
  refine CtI_of (by decide) (Nat.le_of_ble_eq_true rfl) ?_
  intro p e s m args below meth c A H ls X M h hl
  have kx := X.1.1
  have kb := X.1.2.1
  have hl : lv_has ls 3 [(0, .ref (ad 254)), (1, .int a)] := hl
  have hN0 := hm.1
  have hn12 := hI.n
  have htn64 := hI.tn
  obtain ⟨hz0, hz1a, hz1, hz2, hz3, hz4⟩ := hI.zz
  refine lv_aload_n kx kb dX8_go_0 rfl (lv_at hl 0 rfl) ?_
  refine lv_iload_n kx kb dX8_go_1 rfl (lv_at hl 1 rfl) ?_
  refine w_callVi X M h [.int a] [] ((c_X8_notGo l g u v ⟨by omega, hm.2⟩ x hI W hW hR a)) lk_X8_147 hm.2 (by omega) rfl rfl ⟨by decide, by decide⟩ hl ⟨Nat.zero_le _, Nat.zero_le _⟩ (Nat.le_of_ble_eq_true rfl) rfl dX8_go_2 (fun r_F1 F1 H locs hp_F1 h => ?_)
  refine w_top (y := (notGoF x a).1) hp_F1.1 ?_
  refine lv_istore_n (lv' := [(2, .int ((notGoF x a).1)), (0, .ref (ad 254)), (1, .int a)]) kx kb dX8_go_5 rfl hl (by decide) rfl (fun ls hl => ?_)
  refine lv_iload_n kx kb dX8_go_6 rfl (lv_at hl 0 rfl) ?_
  refine lv_if_eq (tgt := 16) kx kb dX8_go_7 (by decide) (fun c_2 => ?_) (fun c_2 => ?_)
  · have hu0 : uNot u (notGoF x a) = u := uNot_n (by rw [c_2]; decide)
    obtain ⟨k, hk6, ⟨hk1, hk2⟩, rfl⟩ := notGo_ok c_2
    refine lv_aload_n kx kb dX8_go_16 rfl (lv_at hl 1 rfl) ?_
    refine w_callVv X M h [] [] ((c_X8_remembers l g (uNot u (notGoF x (nI k))) v ⟨by omega, hp_F1.2.1.2⟩ x hI W (hW.fr (hp_F1.2.2 255 (by omega))) hR hv0 hv1 hs hns (hU.fr (hp_F1.2.2 256 (by omega))) D (hD.fr (hp_F1.2.2 258 (by omega))))) lk_X8_107 hp_F1.2.1.2 (by omega) rfl rfl ⟨by decide, by decide⟩ hl ⟨Nat.zero_le _, Nat.zero_le _⟩ (Nat.le_of_ble_eq_true rfl) rfl dX8_go_17 (fun F3 H locs hp_F3 h => ?_)
    obtain ⟨hm_F3, hU_F3, ⟨D_F3, hD_F3⟩, hf_F3⟩ := hp_F3
    refine lv_aload_n kx kb dX8_go_20 rfl (lv_at hl 1 rfl) ?_
    refine lv_iload_n kx kb dX8_go_21 rfl (lv_at hl 2 rfl) ?_
    refine w_callVi X M h [.int (nI k)] [] ((c_X8_moves l g (uNot u (notGoF x (nI k))) (vKeep v) ⟨by omega, hm_F3.2⟩ x hI W ((hW.fr (hp_F1.2.2 255 (by omega))).fr (hf_F3 255 (by omega) (by omega) (by omega))) hR k (by omega))) lk_X8_150 hm_F3.2 (by omega) rfl rfl ⟨by decide, by decide⟩ hl ⟨Nat.zero_le _, Nat.zero_le _⟩ (Nat.le_of_ble_eq_true rfl) rfl dX8_go_22 (fun r_F4 F4 H locs hp_F4 h => ?_)
    obtain ⟨W_F4, hW_F4, hR_F4⟩ := hp_F4.2.1
    refine w_top (y := nI (x.2.2.2.2.2.2.2 0)) hp_F4.1 ?_
    exact w_iret X h ⟨fun _ => (by rw [cl_n (show k < 2147483648 by omega)]; exact ⟨rfl, by rw [← hu0]; exact ⟨by omega, ((hp_F4.2.2 254 (by omega)).trans hm_F3.2)⟩, ⟨_, hW_F4, hR_F4⟩, (hU_F3.fr (hp_F4.2.2 256 (by omega)))⟩), fun q => absurd c_2 q, ⟨_, (hD_F3.fr (hp_F4.2.2 258 (by omega)))⟩, (fun i hi hi2 hi3 hi4 => (hp_F4.2.2 i (by omega)).trans ((hf_F3 i (by omega) (by omega) (by omega)).trans (hp_F1.2.2 i (by omega))))⟩ dX8_go_25
  · refine lv_aload_n kx kb dX8_go_10 rfl (lv_at hl 1 rfl) ?_
    refine lv_iload_n kx kb dX8_go_11 rfl (lv_at hl 0 rfl) ?_
    refine w_callVi X M h [.int ((notGoF x a).1)] [] ((c_X8_answers l g (uNot u (notGoF x a)) v ⟨by omega, hp_F1.2.1.2⟩ ((notGoF x a).1))) lk_X8_104 hp_F1.2.1.2 (by omega) rfl rfl ⟨by decide, by decide⟩ hl ⟨Nat.zero_le _, Nat.zero_le _⟩ (Nat.le_of_ble_eq_true rfl) rfl dX8_go_12 (fun r_F5 F5 H locs hp_F5 h => ?_)
    refine w_top (y := (notGoF x a).1) hp_F5.1 ?_
    exact w_iret X h ⟨fun q => absurd q c_2, fun _ => ⟨rfl, ⟨by omega, hp_F5.2.1.2⟩, ⟨_, ((hW.fr (hp_F1.2.2 255 (by omega))).fr (hp_F5.2.2 255 (by omega))), hR⟩, ((hU.fr (hp_F1.2.2 256 (by omega))).fr (hp_F5.2.2 256 (by omega)))⟩, ⟨_, ((hD.fr (hp_F1.2.2 258 (by omega))).fr (hp_F5.2.2 258 (by omega)))⟩, (fun i hi hi2 hi3 hi4 => (hp_F5.2.2 i (by omega)).trans (hp_F1.2.2 i (by omega)))⟩ dX8_go_15
set_option maxRecDepth 20000 in
theorem c_X8_pump (l : Launch) (g : gT) {N : Nat} {ad : Nat → Nat} {F : Nat → va_E} (u : Nat → Int32) (v : Nat → Nat) (hm : oM g N ad F u v) (x : SX) (hI : Inv x) (W : Nat → Int32) (hW : arI g F 255 274 W) (hR : RW x W) (hv0 : v 0 ≤ 8) (hv1 : v 1 < 8) (hs : Nat → SX) (hns : ∀ i, i < v 0 → (hs i).1 ≤ 12 ∧ (hs i).2.2.1 ≤ 64) (hU : oU g F hs (v 1) (v 0)) (D : Nat → Int32) (hD : arI g F 258 274 D) (a : Int32) : CtI l yX8_pump cX8_pump 3 (some .int) 5 115 g N ad F [.ref (ad 254), .int a] (fun r F' => TurnP g N ad F u v x hs (notPumpF x a) (nI (runN (cl a) x)) (runX (cl a) x) r F') := by
  refine CtI_of (by decide) (Nat.le_of_ble_eq_true rfl) ?_
  intro p e s m args below meth c A H ls X M h hl
  have kx := X.1.1
  have kb := X.1.2.1
  have hl : lv_has ls 3 [(0, .ref (ad 254)), (1, .int a)] := hl
  have hN0 := hm.1
  have hn12 := hI.n
  have htn64 := hI.tn
  obtain ⟨hz0, hz1a, hz1, hz2, hz3, hz4⟩ := hI.zz
  refine lv_aload_n kx kb dX8_pump_0 rfl (lv_at hl 0 rfl) ?_
  refine lv_iload_n kx kb dX8_pump_1 rfl (lv_at hl 1 rfl) ?_
  refine w_callVi X M h [.int a] [] ((c_X8_notPump l g u v ⟨by omega, hm.2⟩ x hI W hW hR a)) lk_X8_182 hm.2 (by omega) rfl rfl ⟨by decide, by decide⟩ hl ⟨Nat.zero_le _, Nat.zero_le _⟩ (Nat.le_of_ble_eq_true rfl) rfl dX8_pump_2 (fun r_F1 F1 H locs hp_F1 h => ?_)
  refine w_top (y := (notPumpF x a).1) hp_F1.1 ?_
  refine lv_istore_n (lv' := [(2, .int ((notPumpF x a).1)), (0, .ref (ad 254)), (1, .int a)]) kx kb dX8_pump_5 rfl hl (by decide) rfl (fun ls hl => ?_)
  refine lv_iload_n kx kb dX8_pump_6 rfl (lv_at hl 0 rfl) ?_
  refine lv_if_eq (tgt := 16) kx kb dX8_pump_7 (by decide) (fun c_2 => ?_) (fun c_2 => ?_)
  · have hu0 : uNot u (notPumpF x a) = u := uNot_n (by rw [c_2]; decide)
    obtain ⟨k, hk6, ⟨hk1, hk2, hk3⟩, rfl⟩ := notPump_ok c_2
    refine lv_aload_n kx kb dX8_pump_16 rfl (lv_at hl 1 rfl) ?_
    refine w_callVv X M h [] [] ((c_X8_remembers l g (uNot u (notPumpF x (nI k))) v ⟨by omega, hp_F1.2.1.2⟩ x hI W (hW.fr (hp_F1.2.2 255 (by omega))) hR hv0 hv1 hs hns (hU.fr (hp_F1.2.2 256 (by omega))) D (hD.fr (hp_F1.2.2 258 (by omega))))) lk_X8_107 hp_F1.2.1.2 (by omega) rfl rfl ⟨by decide, by decide⟩ hl ⟨Nat.zero_le _, Nat.zero_le _⟩ (Nat.le_of_ble_eq_true rfl) rfl dX8_pump_17 (fun F3 H locs hp_F3 h => ?_)
    obtain ⟨hm_F3, hU_F3, ⟨D_F3, hD_F3⟩, hf_F3⟩ := hp_F3
    refine lv_aload_n kx kb dX8_pump_20 rfl (lv_at hl 1 rfl) ?_
    refine lv_iload_n kx kb dX8_pump_21 rfl (lv_at hl 2 rfl) ?_
    refine w_callVi X M h [.int (nI k)] [] ((c_X8_pumps l g (uNot u (notPumpF x (nI k))) (vKeep v) ⟨by omega, hm_F3.2⟩ x hI W ((hW.fr (hp_F1.2.2 255 (by omega))).fr (hf_F3 255 (by omega) (by omega) (by omega))) hR k (by omega))) lk_X8_185 hm_F3.2 (by omega) rfl rfl ⟨by decide, by decide⟩ hl ⟨Nat.zero_le _, Nat.zero_le _⟩ (Nat.le_of_ble_eq_true rfl) rfl dX8_pump_22 (fun r_F4 F4 H locs hp_F4 h => ?_)
    obtain ⟨W_F4, hW_F4, hR_F4⟩ := hp_F4.2.1
    refine w_top (y := nI (runN k x)) hp_F4.1 ?_
    exact w_iret X h ⟨fun _ => (by rw [cl_n (show k < 2147483648 by omega)]; exact ⟨rfl, by rw [← hu0]; exact ⟨by omega, ((hp_F4.2.2 254 (by omega)).trans hm_F3.2)⟩, ⟨_, hW_F4, hR_F4⟩, (hU_F3.fr (hp_F4.2.2 256 (by omega)))⟩), fun q => absurd c_2 q, ⟨_, (hD_F3.fr (hp_F4.2.2 258 (by omega)))⟩, (fun i hi hi2 hi3 hi4 => (hp_F4.2.2 i (by omega)).trans ((hf_F3 i (by omega) (by omega) (by omega)).trans (hp_F1.2.2 i (by omega))))⟩ dX8_pump_25
  · refine lv_aload_n kx kb dX8_pump_10 rfl (lv_at hl 1 rfl) ?_
    refine lv_iload_n kx kb dX8_pump_11 rfl (lv_at hl 0 rfl) ?_
    refine w_callVi X M h [.int ((notPumpF x a).1)] [] ((c_X8_answers l g (uNot u (notPumpF x a)) v ⟨by omega, hp_F1.2.1.2⟩ ((notPumpF x a).1))) lk_X8_104 hp_F1.2.1.2 (by omega) rfl rfl ⟨by decide, by decide⟩ hl ⟨Nat.zero_le _, Nat.zero_le _⟩ (Nat.le_of_ble_eq_true rfl) rfl dX8_pump_12 (fun r_F5 F5 H locs hp_F5 h => ?_)
    refine w_top (y := (notPumpF x a).1) hp_F5.1 ?_
    exact w_iret X h ⟨fun q => absurd q c_2, fun _ => ⟨rfl, ⟨by omega, hp_F5.2.1.2⟩, ⟨_, ((hW.fr (hp_F1.2.2 255 (by omega))).fr (hp_F5.2.2 255 (by omega))), hR⟩, ((hU.fr (hp_F1.2.2 256 (by omega))).fr (hp_F5.2.2 256 (by omega)))⟩, ⟨_, ((hD.fr (hp_F1.2.2 258 (by omega))).fr (hp_F5.2.2 258 (by omega)))⟩, (fun i hi hi2 hi3 hi4 => (hp_F5.2.2 i (by omega)).trans (hp_F1.2.2 i (by omega)))⟩ dX8_pump_15
