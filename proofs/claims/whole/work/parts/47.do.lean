theorem notC_106 {x : SX} {so : Int32} {nm : Nat → Int32} (e : so = nI 106) : notC x so nm = notJokeF x (nm 0) (nm 1) (nm 2) (nm 3) := by
  simp only [notC, e, ↓reduceIte]
theorem notC_112 {x : SX} {so : Int32} {nm : Nat → Int32} (e : so = nI 112) : notC x so nm = notPumpF x (nm 0) := by
  simp only [notC, e, if_neg (show ¬ nI 112 = nI 106 by decide), ↓reduceIte]
theorem notC_114 {x : SX} {so : Int32} {nm : Nat → Int32} (e : so = nI 114) : notC x so nm = notPrimeF x (nm 0) := by
  simp only [notC, e, if_neg (show ¬ nI 114 = nI 106 by decide), if_neg (show ¬ nI 114 = nI 112 by decide), ↓reduceIte]
theorem notC_100 {x : SX} {so : Int32} {nm : Nat → Int32} (e : so = nI 100) : notC x so nm = notDrainF x (nm 0) := by
  simp only [notC, e, if_neg (show ¬ nI 100 = nI 106 by decide), if_neg (show ¬ nI 100 = nI 112 by decide), if_neg (show ¬ nI 100 = nI 114 by decide), ↓reduceIte]
theorem notC_111 {x : SX} {so : Int32} {nm : Nat → Int32} (e : so = nI 111) : notC x so nm = notDropF x (nm 0) := by
  simp only [notC, e, if_neg (show ¬ nI 111 = nI 106 by decide), if_neg (show ¬ nI 111 = nI 112 by decide), if_neg (show ¬ nI 111 = nI 114 by decide), if_neg (show ¬ nI 111 = nI 100 by decide), ↓reduceIte]
theorem notC_115 {x : SX} {so : Int32} {nm : Nat → Int32} (e : so = nI 115) : notC x so nm = notStrokeF x (nm 0) := by
  simp only [notC, e, if_neg (show ¬ nI 115 = nI 106 by decide), if_neg (show ¬ nI 115 = nI 112 by decide), if_neg (show ¬ nI 115 = nI 114 by decide), if_neg (show ¬ nI 115 = nI 100 by decide), if_neg (show ¬ nI 115 = nI 111 by decide), ↓reduceIte]
theorem notC_98 {x : SX} {so : Int32} {nm : Nat → Int32} (e : so = nI 98) : notC x so nm = notBucketF x (nm 0) (nm 1) := by
  simp only [notC, e, if_neg (show ¬ nI 98 = nI 106 by decide), if_neg (show ¬ nI 98 = nI 112 by decide), if_neg (show ¬ nI 98 = nI 114 by decide), if_neg (show ¬ nI 98 = nI 100 by decide), if_neg (show ¬ nI 98 = nI 111 by decide), if_neg (show ¬ nI 98 = nI 115 by decide), ↓reduceIte]
theorem notC_103 {x : SX} {so : Int32} {nm : Nat → Int32} (e : so = nI 103) : notC x so nm = notGoF x (nm 0) := by
  simp only [notC, e, if_neg (show ¬ nI 103 = nI 106 by decide), if_neg (show ¬ nI 103 = nI 112 by decide), if_neg (show ¬ nI 103 = nI 114 by decide), if_neg (show ¬ nI 103 = nI 100 by decide), if_neg (show ¬ nI 103 = nI 111 by decide), if_neg (show ¬ nI 103 = nI 115 by decide), if_neg (show ¬ nI 103 = nI 98 by decide), ↓reduceIte]
theorem doC_106 {x : SX} {so : Int32} {nm : Nat → Int32} (e : so = nI 106) : doC x so nm = xCome x (nm 0) (nm 1) (nm 2) (nm 3) := by
  simp only [doC, e, ↓reduceIte]
theorem doC_112 {x : SX} {so : Int32} {nm : Nat → Int32} (e : so = nI 112) : doC x so nm = runX (cl (nm 0)) x := by
  simp only [doC, e, if_neg (show ¬ nI 112 = nI 106 by decide), ↓reduceIte]
theorem doC_114 {x : SX} {so : Int32} {nm : Nat → Int32} (e : so = nI 114) : doC x so nm = xPrime x (cl (nm 0)) := by
  simp only [doC, e, if_neg (show ¬ nI 114 = nI 106 by decide), if_neg (show ¬ nI 114 = nI 112 by decide), ↓reduceIte]
theorem doC_100 {x : SX} {so : Int32} {nm : Nat → Int32} (e : so = nI 100) : doC x so nm = xDrain x (cl (nm 0)) := by
  simp only [doC, e, if_neg (show ¬ nI 100 = nI 106 by decide), if_neg (show ¬ nI 100 = nI 112 by decide), if_neg (show ¬ nI 100 = nI 114 by decide), ↓reduceIte]
theorem doC_111 {x : SX} {so : Int32} {nm : Nat → Int32} (e : so = nI 111) : doC x so nm = xGo x (cl (nm 0)) := by
  simp only [doC, e, if_neg (show ¬ nI 111 = nI 106 by decide), if_neg (show ¬ nI 111 = nI 112 by decide), if_neg (show ¬ nI 111 = nI 114 by decide), if_neg (show ¬ nI 111 = nI 100 by decide), ↓reduceIte]
theorem doC_115 {x : SX} {so : Int32} {nm : Nat → Int32} (e : so = nI 115) : doC x so nm = xZ x (zUp x.2.2.2.2.2.2.2 1 (cl (nm 0))) := by
  simp only [doC, e, if_neg (show ¬ nI 115 = nI 106 by decide), if_neg (show ¬ nI 115 = nI 112 by decide), if_neg (show ¬ nI 115 = nI 114 by decide), if_neg (show ¬ nI 115 = nI 100 by decide), if_neg (show ¬ nI 115 = nI 111 by decide), ↓reduceIte]
theorem doC_98 {x : SX} {so : Int32} {nm : Nat → Int32} (e : so = nI 98) : doC x so nm = xBuck x (cl (nm 0)) (cl (nm 1)) := by
  simp only [doC, e, if_neg (show ¬ nI 98 = nI 106 by decide), if_neg (show ¬ nI 98 = nI 112 by decide), if_neg (show ¬ nI 98 = nI 114 by decide), if_neg (show ¬ nI 98 = nI 100 by decide), if_neg (show ¬ nI 98 = nI 111 by decide), if_neg (show ¬ nI 98 = nI 115 by decide), ↓reduceIte]
theorem doC_103 {x : SX} {so : Int32} {nm : Nat → Int32} (e : so = nI 103) : doC x so nm = xZ x (zUp (zUp x.2.2.2.2.2.2.2 0 (cl (nm 0))) 2 0) := by
  simp only [doC, e, if_neg (show ¬ nI 103 = nI 106 by decide), if_neg (show ¬ nI 103 = nI 112 by decide), if_neg (show ¬ nI 103 = nI 114 by decide), if_neg (show ¬ nI 103 = nI 100 by decide), if_neg (show ¬ nI 103 = nI 111 by decide), if_neg (show ¬ nI 103 = nI 115 by decide), if_neg (show ¬ nI 103 = nI 98 by decide), ↓reduceIte]
theorem cmR_ge (n : Nat) (a : Nat → Int32) (p : Nat) : p ≤ (cmR n a p).1.2.1 := by
  unfold cmR
  split
  · exact Nat.le_trans (Nat.le_succ p) (mt_ge _ _)
  · split
    · unfold fmP
      split
      · exact Nat.le_trans (by omega) (mt_ge _ (p + 1 + 1))
      · exact Nat.le_trans (Nat.le_succ p) (mt_ge _ _)
    · split
      · unfold fmD
        split
        · split
          · exact Nat.le_trans (by omega) (mt_ge _ (p + 1 + 2))
          · exact Nat.le_trans (by omega) (mt_ge _ (p + 1 + 1))
        · exact Nat.le_succ p
      · split
        · exact Nat.le_trans (Nat.le_succ p) (mt_ge _ _)
        · split
          · exact Nat.le_trans (Nat.le_succ p) (mt_ge _ _)
          · exact mt_ge _ _
def vDn (v : Nat → Nat) (k : Nat) : Nat → Nat := fun i => match i with
  | 5 => k
  | i => v i
theorem vDn_2 (v : Nat → Nat) (a b : Nat) : vDn (vDn v a) b = vDn v b := by
  funext i
  match i with
  | 0 => rfl
  | 1 => rfl
  | 2 => rfl
  | 3 => rfl
  | 4 => rfl
  | 5 => rfl
  | _ + 6 => rfl
set_option maxRecDepth 20000 in
theorem c_X8_notNow (l : Launch) (g : gT) {N : Nat} {ad : Nat → Nat} {F : Nat → va_E} (u : Nat → Int32) (v : Nat → Nat) (hm : oM g N ad F u v) (x : SX) (hI : Inv x) (W : Nat → Int32) (hW : arI g F 255 274 W) (hR : RW x W) (nm : Nat → Int32) (hM : arI g F 262 4 nm) (hso : u 8 = nI 106 ∨ u 8 = nI 112 ∨ u 8 = nI 114 ∨ u 8 = nI 100 ∨ u 8 = nI 111 ∨ u 8 = nI 115 ∨ u 8 = nI 98 ∨ u 8 = nI 103)  : CtI l yX8_notNow cX8_notNow 2 (some .int) 3 69 g N ad F [.ref (ad 254)] (fun r F' => r = (notC x (u 8) nm).1 ∧ oM g N ad F' (uNot u (notC x (u 8) nm)) v ∧ ∀ i, i ≠ 254 → F' i = F i) := by
  refine CtI_of (by decide) (Nat.le_of_ble_eq_true rfl) ?_
  intro p e s m args below meth c A H ls X M h hl
  have kx := X.1.1
  have kb := X.1.2.1
  have hl : lv_has ls 2 [(0, .ref (ad 254))] := hl
  have hN0 := hm.1
  have hn12 := hI.n
  have htn64 := hI.tn
  refine lv_aload_n kx kb dX8_notNow_0 rfl (lv_at hl 0 rfl) ?_
  refine w_get X M h 254 hm.2 (by omega) fl_X8_58 rfl dX8_notNow_1 ?_
  refine lv_iconst (v := nI 0) kx kb dX8_notNow_4 (by decide) ?_
  refine w_iald X M h 262 hM (by omega) (0) (rfl) (by omega) (by omega) dX8_notNow_5 ?_
  refine lv_istore_n (lv' := [(1, .int (nm 0)), (0, .ref (ad 254))]) kx kb dX8_notNow_6 rfl hl (by decide) rfl (fun ls hl => ?_)
  refine lv_aload_n kx kb dX8_notNow_7 rfl (lv_at hl 1 rfl) ?_
  refine w_get X M h 254 hm.2 (by omega) fl_X8_248 rfl dX8_notNow_8 ?_
  rcases hso with e | e | e | e | e | e | e | e
  · refine w_top (y := nI 106) e ?_
    refine lv_tableIn (tgt := 96) (off := 85) kx kb dX8_notNow_11 (by decide) (by decide) (by decide) (by decide) ?_
    refine lv_aload_n kx kb dX8_notNow_96 rfl (lv_at hl 1 rfl) ?_
    refine lv_iload_n kx kb dX8_notNow_97 rfl (lv_at hl 0 rfl) ?_
    refine lv_aload_n kx kb dX8_notNow_98 rfl (lv_at hl 1 rfl) ?_
    refine w_get X M h 254 hm.2 (by omega) fl_X8_58 rfl dX8_notNow_99 ?_
    refine lv_iconst (v := nI 1) kx kb dX8_notNow_102 (by decide) ?_
    refine w_iald X M h 262 hM (by omega) (1) (rfl) (by omega) (by omega) dX8_notNow_103 ?_
    refine lv_aload_n kx kb dX8_notNow_104 rfl (lv_at hl 1 rfl) ?_
    refine w_get X M h 254 hm.2 (by omega) fl_X8_58 rfl dX8_notNow_105 ?_
    refine lv_iconst (v := nI 2) kx kb dX8_notNow_108 (by decide) ?_
    refine w_iald X M h 262 hM (by omega) (2) (rfl) (by omega) (by omega) dX8_notNow_109 ?_
    refine lv_aload_n kx kb dX8_notNow_110 rfl (lv_at hl 1 rfl) ?_
    refine w_get X M h 254 hm.2 (by omega) fl_X8_58 rfl dX8_notNow_111 ?_
    refine lv_iconst (v := nI 3) kx kb dX8_notNow_114 (by decide) ?_
    refine w_iald X M h 262 hM (by omega) (3) (rfl) (by omega) (by omega) dX8_notNow_115 ?_
    refine w_callVi X M h [.int (nm 0), .int (nm 1), .int (nm 2), .int (nm 3)] [] ((c_X8_notJoke l g u v ⟨by omega, hm.2⟩ x hI W hW hR (nm 0) (nm 1) (nm 2) (nm 3))) lk_X8_100 hm.2 (by omega) rfl rfl ⟨by decide, by decide⟩ hl ⟨Nat.zero_le _, Nat.zero_le _⟩ (Nat.le_of_ble_eq_true rfl) rfl dX8_notNow_116 (fun r_F1 F1 H locs hp_F1 h => ?_)
    refine w_top (y := (notJokeF x (nm 0) (nm 1) (nm 2) (nm 3)).1) hp_F1.1 ?_
    exact w_iret X h (by rw [notC_106 e]; exact ⟨rfl, ⟨by omega, hp_F1.2.1.2⟩, (fun i hi => hp_F1.2.2 i (by omega))⟩) dX8_notNow_119
  · refine w_top (y := nI 112) e ?_
    refine lv_tableIn (tgt := 120) (off := 109) kx kb dX8_notNow_11 (by decide) (by decide) (by decide) (by decide) ?_
    refine lv_aload_n kx kb dX8_notNow_120 rfl (lv_at hl 1 rfl) ?_
    refine lv_iload_n kx kb dX8_notNow_121 rfl (lv_at hl 0 rfl) ?_
    refine w_callVi X M h [.int (nm 0)] [] ((c_X8_notPump l g u v ⟨by omega, hm.2⟩ x hI W hW hR (nm 0))) lk_X8_182 hm.2 (by omega) rfl rfl ⟨by decide, by decide⟩ hl ⟨Nat.zero_le _, Nat.zero_le _⟩ (Nat.le_of_ble_eq_true rfl) rfl dX8_notNow_122 (fun r_F2 F2 H locs hp_F2 h => ?_)
    refine w_top (y := (notPumpF x (nm 0)).1) hp_F2.1 ?_
    exact w_iret X h (by rw [notC_112 e]; exact ⟨rfl, ⟨by omega, hp_F2.2.1.2⟩, (fun i hi => hp_F2.2.2 i (by omega))⟩) dX8_notNow_125
  · refine w_top (y := nI 114) e ?_
    refine lv_tableIn (tgt := 126) (off := 115) kx kb dX8_notNow_11 (by decide) (by decide) (by decide) (by decide) ?_
    refine lv_aload_n kx kb dX8_notNow_126 rfl (lv_at hl 1 rfl) ?_
    refine lv_iload_n kx kb dX8_notNow_127 rfl (lv_at hl 0 rfl) ?_
    refine w_callVi X M h [.int (nm 0)] [] ((c_X8_notPrime l g u v ⟨by omega, hm.2⟩ x hI W hW hR (nm 0))) lk_X8_116 hm.2 (by omega) rfl rfl ⟨by decide, by decide⟩ hl ⟨Nat.zero_le _, Nat.zero_le _⟩ (Nat.le_of_ble_eq_true rfl) rfl dX8_notNow_128 (fun r_F3 F3 H locs hp_F3 h => ?_)
    refine w_top (y := (notPrimeF x (nm 0)).1) hp_F3.1 ?_
    exact w_iret X h (by rw [notC_114 e]; exact ⟨rfl, ⟨by omega, hp_F3.2.1.2⟩, (fun i hi => hp_F3.2.2 i (by omega))⟩) dX8_notNow_131
  · refine w_top (y := nI 100) e ?_
    refine lv_tableIn (tgt := 132) (off := 121) kx kb dX8_notNow_11 (by decide) (by decide) (by decide) (by decide) ?_
    refine lv_aload_n kx kb dX8_notNow_132 rfl (lv_at hl 1 rfl) ?_
    refine lv_iload_n kx kb dX8_notNow_133 rfl (lv_at hl 0 rfl) ?_
    refine w_callVi X M h [.int (nm 0)] [] ((c_X8_notDrain l g u v ⟨by omega, hm.2⟩ x hI W hW hR (nm 0))) lk_X8_132 hm.2 (by omega) rfl rfl ⟨by decide, by decide⟩ hl ⟨Nat.zero_le _, Nat.zero_le _⟩ (Nat.le_of_ble_eq_true rfl) rfl dX8_notNow_134 (fun r_F4 F4 H locs hp_F4 h => ?_)
    refine w_top (y := (notDrainF x (nm 0)).1) hp_F4.1 ?_
    exact w_iret X h (by rw [notC_100 e]; exact ⟨rfl, ⟨by omega, hp_F4.2.1.2⟩, (fun i hi => hp_F4.2.2 i (by omega))⟩) dX8_notNow_137
  · refine w_top (y := nI 111) e ?_
    refine lv_tableIn (tgt := 138) (off := 127) kx kb dX8_notNow_11 (by decide) (by decide) (by decide) (by decide) ?_
    refine lv_aload_n kx kb dX8_notNow_138 rfl (lv_at hl 1 rfl) ?_
    refine lv_iload_n kx kb dX8_notNow_139 rfl (lv_at hl 0 rfl) ?_
    refine w_callVi X M h [.int (nm 0)] [] ((c_X8_notDrop l g u v ⟨by omega, hm.2⟩ x hI W hW hR (nm 0))) lk_X8_126 hm.2 (by omega) rfl rfl ⟨by decide, by decide⟩ hl ⟨Nat.zero_le _, Nat.zero_le _⟩ (Nat.le_of_ble_eq_true rfl) rfl dX8_notNow_140 (fun r_F5 F5 H locs hp_F5 h => ?_)
    refine w_top (y := (notDropF x (nm 0)).1) hp_F5.1 ?_
    exact w_iret X h (by rw [notC_111 e]; exact ⟨rfl, ⟨by omega, hp_F5.2.1.2⟩, (fun i hi => hp_F5.2.2 i (by omega))⟩) dX8_notNow_143
  · refine w_top (y := nI 115) e ?_
    refine lv_tableIn (tgt := 144) (off := 133) kx kb dX8_notNow_11 (by decide) (by decide) (by decide) (by decide) ?_
    refine lv_aload_n kx kb dX8_notNow_144 rfl (lv_at hl 1 rfl) ?_
    refine lv_iload_n kx kb dX8_notNow_145 rfl (lv_at hl 0 rfl) ?_
    refine w_callVi X M h [.int (nm 0)] [] ((c_X8_notStroke l g u v ⟨by omega, hm.2⟩ x hI W hW hR (nm 0))) lk_X8_138 hm.2 (by omega) rfl rfl ⟨by decide, by decide⟩ hl ⟨Nat.zero_le _, Nat.zero_le _⟩ (Nat.le_of_ble_eq_true rfl) rfl dX8_notNow_146 (fun r_F6 F6 H locs hp_F6 h => ?_)
    refine w_top (y := (notStrokeF x (nm 0)).1) hp_F6.1 ?_
    exact w_iret X h (by rw [notC_115 e]; exact ⟨rfl, ⟨by omega, hp_F6.2.1.2⟩, (fun i hi => hp_F6.2.2 i (by omega))⟩) dX8_notNow_149
  · refine w_top (y := nI 98) e ?_
    refine lv_tableIn (tgt := 150) (off := 139) kx kb dX8_notNow_11 (by decide) (by decide) (by decide) (by decide) ?_
    refine lv_aload_n kx kb dX8_notNow_150 rfl (lv_at hl 1 rfl) ?_
    refine lv_iload_n kx kb dX8_notNow_151 rfl (lv_at hl 0 rfl) ?_
    refine lv_aload_n kx kb dX8_notNow_152 rfl (lv_at hl 1 rfl) ?_
    refine w_get X M h 254 hm.2 (by omega) fl_X8_58 rfl dX8_notNow_153 ?_
    refine lv_iconst (v := nI 1) kx kb dX8_notNow_156 (by decide) ?_
    refine w_iald X M h 262 hM (by omega) (1) (rfl) (by omega) (by omega) dX8_notNow_157 ?_
    refine w_callVi X M h [.int (nm 0), .int (nm 1)] [] ((c_X8_notBucket l g u v ⟨by omega, hm.2⟩ x hI W hW hR (nm 0) (nm 1))) lk_X8_144 hm.2 (by omega) rfl rfl ⟨by decide, by decide⟩ hl ⟨Nat.zero_le _, Nat.zero_le _⟩ (Nat.le_of_ble_eq_true rfl) rfl dX8_notNow_158 (fun r_F7 F7 H locs hp_F7 h => ?_)
    refine w_top (y := (notBucketF x (nm 0) (nm 1)).1) hp_F7.1 ?_
    exact w_iret X h (by rw [notC_98 e]; exact ⟨rfl, ⟨by omega, hp_F7.2.1.2⟩, (fun i hi => hp_F7.2.2 i (by omega))⟩) dX8_notNow_161
  · refine w_top (y := nI 103) e ?_
    refine lv_tableIn (tgt := 162) (off := 151) kx kb dX8_notNow_11 (by decide) (by decide) (by decide) (by decide) ?_
    refine lv_aload_n kx kb dX8_notNow_162 rfl (lv_at hl 1 rfl) ?_
    refine lv_iload_n kx kb dX8_notNow_163 rfl (lv_at hl 0 rfl) ?_
    refine w_callVi X M h [.int (nm 0)] [] ((c_X8_notGo l g u v ⟨by omega, hm.2⟩ x hI W hW hR (nm 0))) lk_X8_147 hm.2 (by omega) rfl rfl ⟨by decide, by decide⟩ hl ⟨Nat.zero_le _, Nat.zero_le _⟩ (Nat.le_of_ble_eq_true rfl) rfl dX8_notNow_164 (fun r_F8 F8 H locs hp_F8 h => ?_)
    refine w_top (y := (notGoF x (nm 0)).1) hp_F8.1 ?_
    exact w_iret X h (by rw [notC_103 e]; exact ⟨rfl, ⟨by omega, hp_F8.2.1.2⟩, (fun i hi => hp_F8.2.2 i (by omega))⟩) dX8_notNow_167
set_option maxRecDepth 20000 in
theorem c_X8_doesNow (l : Launch) (g : gT) {N : Nat} {ad : Nat → Nat} {F : Nat → va_E} (u : Nat → Int32) (v : Nat → Nat) (hm : oM g N ad F u v) (x : SX) (hI : Inv x) (W : Nat → Int32) (hW : arI g F 255 274 W) (hR : RW x W) (nm : Nat → Int32) (hM : arI g F 262 4 nm) (hso : u 8 = nI 106 ∨ u 8 = nI 112 ∨ u 8 = nI 114 ∨ u 8 = nI 100 ∨ u 8 = nI 111 ∨ u 8 = nI 115 ∨ u 8 = nI 98 ∨ u 8 = nI 103) (hok : (notC x (u 8) nm).1 = 0)  : CtI l yX8_doesNow cX8_doesNow 2 (some .int) 5 115 g N ad F [.ref (ad 254)] (fun _ F' => oX g F' 255 (doC x (u 8) nm) ∧ ∀ i, i ≠ 255 → F' i = F i) := by
  refine CtI_of (by decide) (Nat.le_of_ble_eq_true rfl) ?_
  intro p e s m args below meth c A H ls X M h hl
  have kx := X.1.1
  have kb := X.1.2.1
  have hl : lv_has ls 2 [(0, .ref (ad 254))] := hl
  have hN0 := hm.1
  have hn12 := hI.n
  have htn64 := hI.tn
  obtain ⟨hz0, hz1a, hz1, hz2, hz3, hz4⟩ := hI.zz
  refine lv_aload_n kx kb dX8_doesNow_0 rfl (lv_at hl 0 rfl) ?_
  refine w_get X M h 254 hm.2 (by omega) fl_X8_58 rfl dX8_doesNow_1 ?_
  refine lv_iconst (v := nI 0) kx kb dX8_doesNow_4 (by decide) ?_
  refine w_iald X M h 262 hM (by omega) (0) (rfl) (by omega) (by omega) dX8_doesNow_5 ?_
  refine lv_istore_n (lv' := [(1, .int (nm 0)), (0, .ref (ad 254))]) kx kb dX8_doesNow_6 rfl hl (by decide) rfl (fun ls hl => ?_)
  refine lv_aload_n kx kb dX8_doesNow_7 rfl (lv_at hl 1 rfl) ?_
  refine w_get X M h 254 hm.2 (by omega) fl_X8_248 rfl dX8_doesNow_8 ?_
  rcases hso with e | e | e | e | e | e | e | e
  · refine w_top (y := nI 106) e ?_
    refine lv_tableIn (tgt := 96) (off := 85) kx kb dX8_doesNow_11 (by decide) (by decide) (by decide) (by decide) ?_
    rw [notC_106 e] at hok
    obtain ⟨h1, h2, h3, h4, h5, h6, h7, h8, h9⟩ := notJoke_ok hok
    refine lv_aload_n kx kb dX8_doesNow_96 rfl (lv_at hl 1 rfl) ?_
    refine lv_iload_n kx kb dX8_doesNow_97 rfl (lv_at hl 0 rfl) ?_
    refine lv_aload_n kx kb dX8_doesNow_98 rfl (lv_at hl 1 rfl) ?_
    refine w_get X M h 254 hm.2 (by omega) fl_X8_58 rfl dX8_doesNow_99 ?_
    refine lv_iconst (v := nI 1) kx kb dX8_doesNow_102 (by decide) ?_
    refine w_iald X M h 262 hM (by omega) (1) (rfl) (by omega) (by omega) dX8_doesNow_103 ?_
    refine lv_aload_n kx kb dX8_doesNow_104 rfl (lv_at hl 1 rfl) ?_
    refine w_get X M h 254 hm.2 (by omega) fl_X8_58 rfl dX8_doesNow_105 ?_
    refine lv_iconst (v := nI 2) kx kb dX8_doesNow_108 (by decide) ?_
    refine w_iald X M h 262 hM (by omega) (2) (rfl) (by omega) (by omega) dX8_doesNow_109 ?_
    refine lv_aload_n kx kb dX8_doesNow_110 rfl (lv_at hl 1 rfl) ?_
    refine w_get X M h 254 hm.2 (by omega) fl_X8_58 rfl dX8_doesNow_111 ?_
    refine lv_iconst (v := nI 3) kx kb dX8_doesNow_114 (by decide) ?_
    refine w_iald X M h 262 hM (by omega) (3) (rfl) (by omega) (by omega) dX8_doesNow_115 ?_
    refine w_callVi X M h [.int (nm 0), .int (nm 1), .int (nm 2), .int (nm 3)] [] ((c_X8_comes l g u v ⟨by omega, hm.2⟩ x hI W hW hR (nm 0) (nm 1) (nm 2) (nm 3) (by omega))) lk_X8_110 hm.2 (by omega) rfl rfl ⟨by decide, by decide⟩ hl ⟨Nat.zero_le _, Nat.zero_le _⟩ (Nat.le_of_ble_eq_true rfl) rfl dX8_doesNow_116 (fun r_F1 F1 H locs hp_F1 h => ?_)
    obtain ⟨W_F1, hW_F1, hR_F1⟩ := hp_F1.2.1
    refine w_top (y := nI (x.1)) hp_F1.1 ?_
    exact w_iret X h (by rw [doC_106 e]; exact ⟨⟨_, hW_F1, hR_F1⟩, (fun i hi => hp_F1.2.2 i (by omega))⟩) dX8_doesNow_119
  · refine w_top (y := nI 112) e ?_
    refine lv_tableIn (tgt := 120) (off := 109) kx kb dX8_doesNow_11 (by decide) (by decide) (by decide) (by decide) ?_
    rw [notC_112 e] at hok
    obtain ⟨k, hk6, ⟨hk1, hk2, hk3⟩, ha⟩ := notPump_ok hok
    refine lv_aload_n kx kb dX8_doesNow_120 rfl (lv_at hl 1 rfl) ?_
    refine lv_iload_n kx kb dX8_doesNow_121 rfl (lv_at hl 0 rfl) ?_
    refine w_top (y := nI k) ha ?_
    refine w_callVi X M h [.int (nI k)] [] ((c_X8_pumps l g u v ⟨by omega, hm.2⟩ x hI W hW hR k (by omega))) lk_X8_185 hm.2 (by omega) rfl rfl ⟨by decide, by decide⟩ hl ⟨Nat.zero_le _, Nat.zero_le _⟩ (Nat.le_of_ble_eq_true rfl) rfl dX8_doesNow_122 (fun r_F2 F2 H locs hp_F2 h => ?_)
    obtain ⟨W_F2, hW_F2, hR_F2⟩ := hp_F2.2.1
    refine w_top (y := nI (runN k x)) hp_F2.1 ?_
    exact w_iret X h (by rw [doC_112 e, ha, cl_n (show k < 2147483648 by omega)]; exact ⟨⟨_, hW_F2, hR_F2⟩, (fun i hi => hp_F2.2.2 i (by omega))⟩) dX8_doesNow_125
  · refine w_top (y := nI 114) e ?_
    refine lv_tableIn (tgt := 126) (off := 115) kx kb dX8_doesNow_11 (by decide) (by decide) (by decide) (by decide) ?_
    rw [notC_114 e] at hok
    obtain ⟨k, hk6, ⟨hk, hk4, hkp⟩, ha⟩ := notPrime_ok (by omega) hok
    refine lv_aload_n kx kb dX8_doesNow_126 rfl (lv_at hl 1 rfl) ?_
    refine lv_iload_n kx kb dX8_doesNow_127 rfl (lv_at hl 0 rfl) ?_
    refine w_top (y := nI k) ha ?_
    refine w_callVi X M h [.int (nI k)] [] ((c_X8_primes l g u v ⟨by omega, hm.2⟩ x hI W hW hR k (by omega) (by omega))) lk_X8_119 hm.2 (by omega) rfl rfl ⟨by decide, by decide⟩ hl ⟨Nat.zero_le _, Nat.zero_le _⟩ (Nat.le_of_ble_eq_true rfl) rfl dX8_doesNow_128 (fun r_F3 F3 H locs hp_F3 h => ?_)
    obtain ⟨W_F3, hW_F3, hR_F3⟩ := hp_F3.2.1
    refine w_top (y := nI (x.2.2.2.2.2.2.2 4 - 1)) hp_F3.1 ?_
    exact w_iret X h (by rw [doC_114 e, ha, cl_n (show k < 2147483648 by omega)]; exact ⟨⟨_, hW_F3, hR_F3⟩, (fun i hi => hp_F3.2.2 i (by omega))⟩) dX8_doesNow_131
  · refine w_top (y := nI 100) e ?_
    refine lv_tableIn (tgt := 132) (off := 121) kx kb dX8_doesNow_11 (by decide) (by decide) (by decide) (by decide) ?_
    rw [notC_100 e] at hok
    obtain ⟨k, hk6, ⟨hk1, hk2, hk3⟩, ha⟩ := notDrain_ok hok
    refine lv_aload_n kx kb dX8_doesNow_132 rfl (lv_at hl 1 rfl) ?_
    refine lv_iload_n kx kb dX8_doesNow_133 rfl (lv_at hl 0 rfl) ?_
    refine w_top (y := nI k) ha ?_
    refine w_callVi X M h [.int (nI k)] [] ((c_X8_drains l g u v ⟨by omega, hm.2⟩ x hI W hW hR k (by omega))) lk_X8_135 hm.2 (by omega) rfl rfl ⟨by decide, by decide⟩ hl ⟨Nat.zero_le _, Nat.zero_le _⟩ (Nat.le_of_ble_eq_true rfl) rfl dX8_doesNow_134 (fun r_F4 F4 H locs hp_F4 h => ?_)
    obtain ⟨W_F4, hW_F4, hR_F4⟩ := hp_F4.2.1
    refine w_top (y := nI (min 9 (x.2.2.2.2.2.2.2 4 + k / 10))) hp_F4.1 ?_
    exact w_iret X h (by rw [doC_100 e, ha, cl_n (show k < 2147483648 by omega)]; exact ⟨⟨_, hW_F4, hR_F4⟩, (fun i hi => hp_F4.2.2 i (by omega))⟩) dX8_doesNow_137
  · refine w_top (y := nI 111) e ?_
    refine lv_tableIn (tgt := 138) (off := 127) kx kb dX8_doesNow_11 (by decide) (by decide) (by decide) (by decide) ?_
    rw [notC_111 e] at hok
    obtain ⟨k, hk6, hk, ha⟩ := notDrop_ok (by omega) hok
    refine lv_aload_n kx kb dX8_doesNow_138 rfl (lv_at hl 1 rfl) ?_
    refine lv_iload_n kx kb dX8_doesNow_139 rfl (lv_at hl 0 rfl) ?_
    refine w_top (y := nI k) ha ?_
    refine w_callVi X M h [.int (nI k)] [] ((c_X8_drops l g u v ⟨by omega, hm.2⟩ x hI W hW hR k (by omega))) lk_X8_129 hm.2 (by omega) rfl rfl ⟨by decide, by decide⟩ hl ⟨Nat.zero_le _, Nat.zero_le _⟩ (Nat.le_of_ble_eq_true rfl) rfl dX8_doesNow_140 (fun r_F5 F5 H locs hp_F5 h => ?_)
    obtain ⟨W_F5, hW_F5, hR_F5⟩ := hp_F5.2.1
    refine w_top (y := nI (x.1 - 1)) hp_F5.1 ?_
    exact w_iret X h (by rw [doC_111 e, ha, cl_n (show k < 2147483648 by omega)]; exact ⟨⟨_, hW_F5, hR_F5⟩, (fun i hi => hp_F5.2.2 i (by omega))⟩) dX8_doesNow_143
  · refine w_top (y := nI 115) e ?_
    refine lv_tableIn (tgt := 144) (off := 133) kx kb dX8_doesNow_11 (by decide) (by decide) (by decide) (by decide) ?_
    rw [notC_115 e] at hok
    obtain ⟨k, hk6, ⟨hk1, hk2, hk3⟩, ha⟩ := notStroke_ok hok
    refine lv_aload_n kx kb dX8_doesNow_144 rfl (lv_at hl 1 rfl) ?_
    refine lv_iconst (v := nI 2) kx kb dX8_doesNow_145 (by decide) ?_
    refine lv_iload_n kx kb dX8_doesNow_146 rfl (lv_at hl 0 rfl) ?_
    refine w_top (y := nI k) ha ?_
    refine w_callVi X M h [.int (nI 2), .int (nI k)] [] ((c_X8_tells l g u v ⟨by omega, hm.2⟩ W hW 2 (by omega) (nI k))) lk_X8_141 hm.2 (by omega) rfl rfl ⟨by decide, by decide⟩ hl ⟨Nat.zero_le _, Nat.zero_le _⟩ (Nat.le_of_ble_eq_true rfl) rfl dX8_doesNow_147 (fun r_F6 F6 H locs hp_F6 h => ?_)
    refine w_top (y := W 2) hp_F6.1 ?_
    refine w_top (y := nI (x.2.2.2.2.2.2.2 1)) (hR.z 1 (by omega)) ?_
    have hR_7 : RW (xZ x (zUp x.2.2.2.2.2.2.2 1 k)) (upd W 2 (nI k)) := RW.setz hR 1 k (by omega)
    exact w_iret X h (by rw [doC_115 e, ha, cl_n (show k < 2147483648 by omega)]; exact ⟨⟨_, hp_F6.2.1, hR_7⟩, (fun i hi => hp_F6.2.2 i (by omega))⟩) dX8_doesNow_150
  · refine w_top (y := nI 98) e ?_
    refine lv_tableIn (tgt := 151) (off := 140) kx kb dX8_doesNow_11 (by decide) (by decide) (by decide) (by decide) ?_
    rw [notC_98 e] at hok
    obtain ⟨k, b2, hk6, ⟨hk1, hk2, hk3, hk4⟩, ha, hb⟩ := notBucket_ok hok
    refine lv_aload_n kx kb dX8_doesNow_151 rfl (lv_at hl 1 rfl) ?_
    refine lv_bipush (v := nI 14) kx kb dX8_doesNow_152 (by decide) ?_
    refine lv_iload_n kx kb dX8_doesNow_154 rfl (lv_at hl 0 rfl) ?_
    refine w_top (y := nI k) ha ?_
    refine w_addn kx kb dX8_doesNow_155 ?_
    refine lv_aload_n kx kb dX8_doesNow_156 rfl (lv_at hl 1 rfl) ?_
    refine w_get X M h 254 hm.2 (by omega) fl_X8_58 rfl dX8_doesNow_157 ?_
    refine lv_iconst (v := nI 1) kx kb dX8_doesNow_160 (by decide) ?_
    refine w_iald X M h 262 hM (by omega) (1) (rfl) (by omega) (by omega) dX8_doesNow_161 ?_
    refine w_top (y := nI b2) hb ?_
    refine w_callVi X M h [.int (nI (14 + k)), .int (nI b2)] [] ((c_X8_tells l g u v ⟨by omega, hm.2⟩ W hW (14 + k) (by omega) (nI b2))) lk_X8_141 hm.2 (by omega) rfl rfl ⟨by decide, by decide⟩ hl ⟨Nat.zero_le _, Nat.zero_le _⟩ (Nat.le_of_ble_eq_true rfl) rfl dX8_doesNow_162 (fun r_F8 F8 H locs hp_F8 h => ?_)
    refine w_top (y := W (14 + k)) hp_F8.1 ?_
    refine w_top (y := nI (x.2.2.2.2.2.2.1 k)) (hR.b k (by omega)) ?_
    have hR_9 : RW (xBuck x k b2) (upd W (14 + k) (nI b2)) := RW.setb hR k b2 (by omega)
    exact w_iret X h (by rw [doC_98 e, ha, cl_n (show k < 2147483648 by omega), hb, cl_n (show b2 < 2147483648 by omega)]; exact ⟨⟨_, hp_F8.2.1, hR_9⟩, (fun i hi => hp_F8.2.2 i (by omega))⟩) dX8_doesNow_165
  · refine w_top (y := nI 103) e ?_
    refine lv_tableIn (tgt := 166) (off := 155) kx kb dX8_doesNow_11 (by decide) (by decide) (by decide) (by decide) ?_
    rw [notC_103 e] at hok
    obtain ⟨k, hk6, ⟨hk1, hk2⟩, ha⟩ := notGo_ok hok
    refine lv_aload_n kx kb dX8_doesNow_166 rfl (lv_at hl 1 rfl) ?_
    refine lv_iload_n kx kb dX8_doesNow_167 rfl (lv_at hl 0 rfl) ?_
    refine w_top (y := nI k) ha ?_
    refine w_callVi X M h [.int (nI k)] [] ((c_X8_moves l g u v ⟨by omega, hm.2⟩ x hI W hW hR k (by omega))) lk_X8_150 hm.2 (by omega) rfl rfl ⟨by decide, by decide⟩ hl ⟨Nat.zero_le _, Nat.zero_le _⟩ (Nat.le_of_ble_eq_true rfl) rfl dX8_doesNow_168 (fun r_F10 F10 H locs hp_F10 h => ?_)
    obtain ⟨W_F10, hW_F10, hR_F10⟩ := hp_F10.2.1
    refine w_top (y := nI (x.2.2.2.2.2.2.2 0)) hp_F10.1 ?_
    exact w_iret X h (by rw [doC_103 e, ha, cl_n (show k < 2147483648 by omega)]; exact ⟨⟨_, hW_F10, hR_F10⟩, (fun i hi => hp_F10.2.2 i (by omega))⟩) dX8_doesNow_171
set_option maxRecDepth 20000 in
theorem c_X8_readsAll (l : Launch) (g : gT) {N : Nat} {ad : Nat → Nat} {F : Nat → va_E} (u : Nat → Int32) (v : Nat → Nat) (a nm : Nat → Int32) (hm : oM g N ad F u v) (h3 : v 3 ≤ 60) (hA : arC g F 261 60 a) (hM : arI g F 262 4 nm)  : CtI l yX8_readsAll cX8_readsAll 2 (some .boolean) 5 104 g N ad F [.ref (ad 254)] (fun r F' => r = bI ((psF (v 3) a 61 0).1 = true) ∧ (∃ (so : Int32) (nm' : Nat → Int32), oM g N ad F' (uSo u so) (vAt v (psF (v 3) a 61 0).2.1) ∧ arI g F' 262 4 nm') ∧ ∀ i, i ≠ 254 → i ≠ 262 → F' i = F i) := by
  refine CtI_of (by decide) (Nat.le_of_ble_eq_true rfl) ?_
  intro p e s m args below meth c A H ls X M h hl
  have kx := X.1.1
  have kb := X.1.2.1
  have hl : lv_has ls 2 [(0, .ref (ad 254))] := hl
  have hN0 := hm.1
  refine lv_aload_n kx kb dX8_readsAll_0 rfl (lv_at hl 0 rfl) ?_
  refine lv_iconst (v := nI 0) kx kb dX8_readsAll_1 (by decide) ?_
  refine w_put X M h 254 hm.2 (by omega) fp_X8_233 (rfl) (by rfl) (Nat.le_of_ble_eq_true rfl) dX8_readsAll_2 (fun F1 H locs h he_F1 hf_F1 => ?_)
  refine lv_iconst (v := nI 1) kx kb dX8_readsAll_5 (by decide) ?_
  refine lv_istore_n (lv' := [(1, .int (nI 1)), (0, .ref (ad 254))]) kx kb dX8_readsAll_6 rfl hl (by decide) rfl (fun ls hl => ?_)
  refine w_loop2 (fun (p0 : Nat) (F1 : Nat → va_E) => v 3 + 1 - p0) (fun (p0 : Nat) (F1 : Nat → va_E) H locs ls => Hx g N ad F1 A s H locs ∧ lv_has ls 2 [(0, .ref (ad 254)), (1, .int (nI 1))] ∧ (p0 ≤ v 3) ∧ (∀ q, q ≠ 254 → q ≠ 262 → F1 q = F q) ∧ (∃ (so : Int32) (nm1 : Nat → Int32), oM g N ad F1 (uSo u so) (vAt v p0) ∧ arI g F1 262 4 nm1) ∧ (∃ f, v 3 + 1 ≤ f + p0 ∧ (psF (v 3) a f p0).1 = (psF (v 3) a 61 0).1 ∧ (psF (v 3) a f p0).2.1 = (psF (v 3) a 61 0).2.1)) ?_ 0 F1 ⟨h, lv_sub hl [1, 0] rfl, by omega, (fun i hi0 hi1 => hf_F1 i (by omega)), ⟨u 8, nm, ⟨by omega, he_F1⟩, (hM.fr (hf_F1 262 (by omega)))⟩, ⟨61, by omega, rfl, rfl⟩⟩
  intro p0 F1 H locs ls hinv ih
  obtain ⟨h, hl, hp0, hg_1, hE, hX⟩ := hinv
  obtain ⟨so, nm1, hm1, hM1⟩ := hE
  obtain ⟨f0, hf0, hX1, hX2⟩ := hX
  obtain ⟨f, rfl⟩ : ∃ f, f0 = f + 1 := ⟨f0 - 1, by omega⟩
  have hF_2 : F1 254 = .inr (8, [.int (u 0), .int (u 1), .int (u 2), .int (u 3), .int (u 4), .int (u 5), .ref (ad 255), .ref (ad 256), .ref (ad 257), .ref (ad 258), .ref (ad 259), .int (nI (v 0)), .int (nI (v 1)), .int (u 6), .ref (ad 260), .int (nI (v 2)), .ref (ad 261), .int (nI (v 3)), .int (nI p0), .int (u 7), .ref (ad 262), .int so, .int (nI (v 5))]) := hm1.2
  refine lv_iload_n kx kb dX8_readsAll_7 rfl (lv_at hl 1 rfl) ?_
  refine lv_if_eq (tgt := 30) kx kb dX8_readsAll_8 (by decide) (fun q => absurd q (by decide)) (fun _ => ?_)
  refine lv_aload_n kx kb dX8_readsAll_11 rfl (lv_at hl 0 rfl) ?_
  refine w_callVi X M h [] [] ((c_X8_readsCommand l g u v p0 so a nm1 (⟨by omega, hF_2⟩) h3 (by omega) (hA.fr (hg_1 261 (by omega) (by omega))) hM1)) lk_X8_267 hF_2 (by omega) rfl rfl ⟨by decide, by decide⟩ hl ⟨Nat.zero_le _, Nat.zero_le _⟩ (Nat.le_of_ble_eq_true rfl) rfl dX8_readsAll_12 (fun r_F3 F3 H locs hp_F3 h => ?_)
  obtain ⟨hr_F3, hm_F3, hM_F3, hg_F3⟩ := hp_F3
  have hq_F3 : (cmR (v 3) a p0).1.2.1 ≤ v 3 := cmR_le (by omega)
  have hF_4 : F3 254 = .inr (8, [.int (u 0), .int (u 1), .int (u 2), .int (u 3), .int (u 4), .int (u 5), .ref (ad 255), .ref (ad 256), .ref (ad 257), .ref (ad 258), .ref (ad 259), .int (nI (v 0)), .int (nI (v 1)), .int (u 6), .ref (ad 260), .int (nI (v 2)), .ref (ad 261), .int (nI (v 3)), .int (nI ((cmR (v 3) a p0).1.2.1)), .int (u 7), .ref (ad 262), .int ((cmR (v 3) a p0).2), .int (nI (v 5))]) := hm_F3.2
  refine w_top (y := bI ((cmR (v 3) a p0).1.1 = true)) hr_F3 ?_
  refine w_if_neb (tgt := 20) kx kb dX8_readsAll_15 (by decide) (fun c_5 => ?_) (fun c_5 => ?_)
  · refine lv_aload_n kx kb dX8_readsAll_20 rfl (lv_at hl 0 rfl) ?_
    refine lv_bipush (v := nI 59) kx kb dX8_readsAll_21 (by decide) ?_
    refine w_callVi X M h [.int (nI 59)] [] ((c_X8_reads l g u v ((cmR (v 3) a p0).1.2.1) ((cmR (v 3) a p0).2) a (nmP nm1 0 (cmR (v 3) a p0).1.2.2) (⟨by omega, hF_4⟩) h3 (by omega) ((hA.fr (hg_1 261 (by omega) (by omega))).fr (hg_F3 261 (by omega) (by omega))) hM_F3 59 (by decide))) lk_X8_242 hF_4 (by omega) rfl rfl ⟨by decide, by decide⟩ hl ⟨Nat.zero_le _, Nat.zero_le _⟩ (Nat.le_of_ble_eq_true rfl) rfl dX8_readsAll_23 (fun r_F6 F6 H locs hp_F6 h => ?_)
    by_cases c_F6 : sgN (v 3) a ((cmR (v 3) a p0).1.2.1) = nI 59
    · obtain ⟨hr_F6, hm_F6⟩ := hp_F6.1 c_F6
      have hf_F6 := hp_F6.2.2
      have hq_F6 : (cmR (v 3) a p0).1.2.1 + 1 ≤ v 3 := sgN_lt (by decide) c_F6
      have hF_7 : F6 254 = .inr (8, [.int (u 0), .int (u 1), .int (u 2), .int (u 3), .int (u 4), .int (u 5), .ref (ad 255), .ref (ad 256), .ref (ad 257), .ref (ad 258), .ref (ad 259), .int (nI (v 0)), .int (nI (v 1)), .int (u 6), .ref (ad 260), .int (nI (v 2)), .ref (ad 261), .int (nI (v 3)), .int (nI ((cmR (v 3) a p0).1.2.1 + 1)), .int (u 7), .ref (ad 262), .int ((cmR (v 3) a p0).2), .int (nI (v 5))]) := hm_F6.2
      refine w_top (y := nI 1) hr_F6 ?_
      refine lv_istore_n (lv' := [(1, .int (nI 1)), (0, .ref (ad 254))]) kx kb dX8_readsAll_26 rfl hl (by decide) rfl (fun ls hl => ?_)
      refine lv_goto (tgt := 7) kx kb dX8_readsAll_27 (by decide) ?_
      rw [psF, if_pos c_5, if_pos c_F6] at hX1 hX2
      have hge := mt_le (n := v 3) (a := a) [] rfl (Nat.le_refl (v 3))
      exact ih ((cmR (v 3) a p0).1.2.1 + 1) F6 _ _ _ ⟨h, lv_sub hl [1, 0] rfl, by omega, (fun i hi0 hi1 => (hf_F6 i (by omega)).trans ((hg_F3 i (by omega) (by omega)).trans (hg_1 i (by omega) (by omega)))), ⟨_, _, ⟨by omega, hF_7⟩, (hM_F3.fr (hf_F6 262 (by omega)))⟩, ⟨f, by have := cmR_ge (v 3) a p0; omega, hX1, hX2⟩⟩ (by have := cmR_ge (v 3) a p0; omega)
    · obtain ⟨hr_F6, hm_F6⟩ := hp_F6.2.1 c_F6
      have hf_F6 := hp_F6.2.2
      have hF_8 : F6 254 = .inr (8, [.int (u 0), .int (u 1), .int (u 2), .int (u 3), .int (u 4), .int (u 5), .ref (ad 255), .ref (ad 256), .ref (ad 257), .ref (ad 258), .ref (ad 259), .int (nI (v 0)), .int (nI (v 1)), .int (u 6), .ref (ad 260), .int (nI (v 2)), .ref (ad 261), .int (nI (v 3)), .int (nI ((cmR (v 3) a p0).1.2.1)), .int (u 7), .ref (ad 262), .int ((cmR (v 3) a p0).2), .int (nI (v 5))]) := hm_F6.2
      refine w_top (y := nI 0) hr_F6 ?_
      refine lv_istore_n (lv' := [(1, .int (nI 0)), (0, .ref (ad 254))]) kx kb dX8_readsAll_26 rfl hl (by decide) rfl (fun ls hl => ?_)
      refine lv_goto (tgt := 7) kx kb dX8_readsAll_27 (by decide) ?_
      refine lv_iload_n kx kb dX8_readsAll_7 rfl (lv_at hl 0 rfl) ?_
      refine lv_if_eq (tgt := 30) kx kb dX8_readsAll_8 (by decide) (fun _ => ?_) (fun q => absurd (by decide) q)
      refine lv_aload_n kx kb dX8_readsAll_30 rfl (lv_at hl 1 rfl) ?_
      refine w_get X M h 254 hF_8 (by omega) fl_X8_233 rfl dX8_readsAll_31 ?_
      refine lv_aload_n kx kb dX8_readsAll_34 rfl (lv_at hl 1 rfl) ?_
      refine w_get X M h 254 hF_8 (by omega) fl_X8_218 rfl dX8_readsAll_35 ?_
      refine w_cmp_ne (tgt := 45) kx kb (by omega) (by omega) dX8_readsAll_38 (by decide) (fun c_9 => ?_) (fun c_9 => ?_)
      · refine lv_iconst (v := nI 0) kx kb dX8_readsAll_45 (by decide) ?_
        exact w_zret X h (Or.inl (by decide)) (by rw [psF, if_pos c_5, if_neg c_F6] at hX1 hX2; rw [← hX1, ← hX2]; exact ⟨bI_fn (by rw [decide_eq_false c_9]; exact Bool.false_ne_true), ⟨_, _, ⟨by omega, hF_8⟩, (hM_F3.fr (hf_F6 262 (by omega)))⟩, (fun i hi0 hi1 => (hf_F6 i (by omega)).trans ((hg_F3 i (by omega) (by omega)).trans (hg_1 i (by omega) (by omega))))⟩) dX8_readsAll_46
      · refine lv_iconst (v := nI 1) kx kb dX8_readsAll_41 (by decide) ?_
        refine lv_goto (tgt := 46) kx kb dX8_readsAll_42 (by decide) ?_
        exact w_zret X h (Or.inr (by decide)) (by rw [psF, if_pos c_5, if_neg c_F6] at hX1 hX2; rw [← hX1, ← hX2]; exact ⟨bI_tn (decide_eq_true c_9), ⟨_, _, ⟨by omega, hF_8⟩, (hM_F3.fr (hf_F6 262 (by omega)))⟩, (fun i hi0 hi1 => (hf_F6 i (by omega)).trans ((hg_F3 i (by omega) (by omega)).trans (hg_1 i (by omega) (by omega))))⟩) dX8_readsAll_46
  · refine lv_iconst (v := nI 0) kx kb dX8_readsAll_18 (by decide) ?_
    exact w_zret X h (Or.inl (by decide)) (by rw [psF, if_neg c_5] at hX1 hX2; rw [← hX1, ← hX2]; exact ⟨bI_fn (show ¬ (false = true) by decide), ⟨_, _, ⟨by omega, hF_4⟩, hM_F3⟩, (fun i hi0 hi1 => (hg_F3 i (by omega) (by omega)).trans (hg_1 i (by omega) (by omega)))⟩) dX8_readsAll_19
