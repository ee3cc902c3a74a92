/-- what read does to the reference, as far as later calls show it -/
def RdP (g : gT) (N : Nat) (ad : Nat → Nat) (F : Nat → va_E) (u : Nat → Int32) (v : Nat → Nat) (x : SX) (hs : Nat → SX) (Q : Bool × Nat × List CM1) (D : NT × Nat × SX) (r : Int32) (F' : Nat → va_E) : Prop := (∃ u' v', oM g N ad F' u' v' ∧ v' 2 = v 2 ∧ v' 3 = 0 ∧ u' 6 = u 6 ∧
 (Q.1 = false → r = -2 ∧ u' 7 = nI Q.2.1 ∧ (∀ i, i < 4 → u' i = u i) ∧ v' 0 = v 0 ∧ v' 1 = v 1 ∧ oX g F' 255 x ∧ oU g F' hs (v 1) (v 0)) ∧
 (Q.1 = true → u' 7 = u 7 ∧ (D.1.1 = 0 → r = nI D.2.1 ∧ (∀ i, i < 4 → u' i = u i) ∧ v' 0 = vKeep v 0 ∧ v' 1 = vKeep v 1 ∧ oX g F' 255 D.2.2 ∧ oU g F' (hPush hs (v 0) x) (vKeep v 1) (vKeep v 0)) ∧
  (D.1.1 ≠ 0 → r = -5 ∧ u' 0 = nI 9 ∧ u' 1 = nI D.2.1 ∧ u' 2 = (if D.1.1 = -5 then D.1.2.1 else nI 0) ∧ (D.1.1 = -5 → u' 3 = D.1.2.2) ∧ v' 0 = v 0 ∧ v' 1 = v 1 ∧ oX g F' 255 x ∧ oU g F' hs (v 1) (v 0)))) ∧
 (∃ nm', arI g F' 262 4 nm') ∧ (∃ D', arI g F' 258 274 D') ∧ ∀ i, i ≠ 254 → i ≠ 255 → i ≠ 256 → i ≠ 258 → i ≠ 262 → F' i = F i
theorem uNot_le {u : Nat → Int32} {t : NT} {i : Nat} (h : i ≠ 4) (h5 : i ≠ 5) : uNot u t i = u i := by
  unfold uNot
  split
  · match i, h, h5 with
    | 0, _, _ => rfl
    | 1, _, _ => rfl
    | 2, _, _ => rfl
    | 3, _, _ => rfl
    | _ + 6, _, _ => rfl
  · rfl
theorem uNot_5 {u : Nat → Int32} {t : NT} (h : t.1 = -5) : uNot u t 5 = t.2.2 := by rw [uNot, if_pos h]; rfl
theorem uRf_2 {u : Nat → Int32} {t : NT} {k : Nat} : uRf (uNot u t) k t.1 2 = if t.1 = -5 then t.2.1 else nI 0 := by
  show (if t.1 = -5 then uNot u t 4 else nI 0) = _
  split
  · rename_i h; rw [uNot, if_pos h]; rfl
  · rfl
theorem i4 {p : Nat → Prop} (h0 : p 0) (h1 : p 1) (h2 : p 2) (h3 : p 3) : ∀ i, i < 4 → p i := fun i hi => by
  rcases (show i = 0 ∨ i = 1 ∨ i = 2 ∨ i = 3 by omega) with rfl | rfl | rfl | rfl <;> assumption
set_option maxRecDepth 20000 in
theorem c_X8_read (l : Launch) (g : gT) {N : Nat} {ad : Nat → Nat} {F : Nat → va_E} (u : Nat → Int32) (v : Nat → Nat) (hm : oM g N ad F u v) (x : SX) (hI : Iva x) (hX : oX g F 255 x) (hv0 : v 0 ≤ 8) (hv1 : v 1 < 8) (hs : Nat → SX) (hns : ∀ i, i < v 0 → (hs i).1 ≤ 12 ∧ (hs i).2.2.1 ≤ 64) (hU : oU g F hs (v 1) (v 0)) (D : Nat → Int32) (hD : arI g F 258 274 D) (a nm : Nat → Int32) (h3 : v 3 ≤ 60) (hA : arC g F 261 60 a) (hM : arI g F 262 4 nm)  : CtI l yX8_read cX8_read 2 (some .int) 7 158 g N ad F [.ref (ad 254)] (fun r F' => RdP g N ad F u v x hs (psF (v 3) a 61 0) (dlF (psF (v 3) a 61 0).2.2 0 x) r F') := by
  refine CtI_of (by decide) (Nat.le_of_ble_eq_true rfl) ?_
  intro p e s m args below meth c A H ls X M h hl
  have kx := X.1.1
  have kb := X.1.2.1
  have hl : lv_has ls 2 [(0, .ref (ad 254))] := hl
  have hN0 := hm.1
  obtain ⟨W, hW, hR⟩ := hX
  have hn12 := hI.1.n
  have htn64 := hI.1.tn
  refine lv_aload_n kx kb dX8_read_0 rfl (lv_at hl 0 rfl) ?_
  refine w_callVi X M h [] [] ((c_X8_readsAll l g u v a nm ⟨by omega, hm.2⟩ h3 hA hM)) lk_X8_279 hm.2 (by omega) rfl rfl ⟨by decide, by decide⟩ hl ⟨Nat.zero_le _, Nat.zero_le _⟩ (Nat.le_of_ble_eq_true rfl) rfl dX8_read_1 (fun r_F1 F1 H locs hp_F1 h => ?_)
  obtain ⟨hr_F1, ⟨so, nm1, hm_F1, hM_F1⟩, hg_F1⟩ := hp_F1
  refine w_top (y := bI ((psF (v 3) a 61 0).1 = true)) hr_F1 ?_
  refine w_if_neb (tgt := 23) kx kb dX8_read_4 (by decide) (fun c_2 => ?_) (fun c_2 => ?_)
  · have hq1 : (psF (v 3) a 61 0).1 = true := c_2
    refine lv_aload_n kx kb dX8_read_23 rfl (lv_at hl 0 rfl) ?_
    refine w_callVv X M h [] [] ((c_X8_thinks l g (uSo u so) (vAt v (psF (v 3) a 61 0).2.1) ⟨by omega, hm_F1.2⟩ W (hW.fr (hg_F1 255 (by omega) (by omega))) D (hD.fr (hg_F1 258 (by omega) (by omega))))) lk_X8_67 hm_F1.2 (by omega) rfl rfl ⟨by decide, by decide⟩ hl ⟨Nat.zero_le _, Nat.zero_le _⟩ (Nat.le_of_ble_eq_true rfl) rfl dX8_read_24 (fun F3 H locs hp_F3 h => ?_)
    refine lv_aload_n kx kb dX8_read_27 rfl (lv_at hl 0 rfl) ?_
    refine w_callVi X M h [] [] ((c_X8_doesAll l g (uSo u so) (vAt v (psF (v 3) a 61 0).2.1) a nm1 ⟨by omega, ((hp_F3.2 254 (by omega)).trans hm_F1.2)⟩ h3 ((hA.fr (hg_F1 261 (by omega) (by omega))).fr (hp_F3.2 261 (by omega))) (hM_F1.fr (hp_F3.2 262 (by omega))) x hI ⟨W, ((hW.fr (hg_F1 255 (by omega) (by omega))).fr (hp_F3.2 255 (by omega))), hR⟩ hq1)) lk_X8_282 ((hp_F3.2 254 (by omega)).trans hm_F1.2) (by omega) rfl rfl ⟨by decide, by decide⟩ hl ⟨Nat.zero_le _, Nat.zero_le _⟩ (Nat.le_of_ble_eq_true rfl) rfl dX8_read_28 (fun r_F4 F4 H locs hp_F4 h => ?_)
    obtain ⟨hr_F4, ⟨so2, p2, nm2, hm_F4, hM_F4⟩, hX_F4, hg_F4⟩ := hp_F4
    obtain ⟨W2, hW2, hR2⟩ := hX_F4
    refine w_top (y := (dlF (psF (v 3) a 61 0).2.2 0 x).1.1) hr_F4 ?_
    refine lv_istore_n (lv' := [(1, .int ((dlF (psF (v 3) a 61 0).2.2 0 x).1.1)), (0, .ref (ad 254))]) kx kb dX8_read_31 rfl hl (by decide) rfl (fun ls hl => ?_)
    refine lv_aload_n kx kb dX8_read_32 rfl (lv_at hl 1 rfl) ?_
    refine lv_iconst (v := nI 0) kx kb dX8_read_33 (by decide) ?_
    refine w_put X M h 254 hm_F4.2 (by omega) fp_X8_218 (rfl) (by rfl) (Nat.le_of_ble_eq_true rfl) dX8_read_34 (fun F5 H locs h he_F5 hf_F5 => ?_)
    have hm_in : oM g N ad F5 (uNot (uSo (uSo u so) so2) (dlF (psF (v 3) a 61 0).2.2 0 x).1) (vIn (vAt (vDn (vAt v (psF (v 3) a 61 0).2.1) (dlF (psF (v 3) a 61 0).2.2 0 x).2.1) p2) 0) := ⟨by omega, he_F5⟩
    refine lv_iload_n kx kb dX8_read_37 rfl (lv_at hl 0 rfl) ?_
    refine lv_if_ne (tgt := 50) kx kb dX8_read_38 (by decide) (fun c_6 => ?_) (fun c_6 => ?_)
    · refine lv_aload_n kx kb dX8_read_50 rfl (lv_at hl 1 rfl) ?_
      refine w_callVv X M h [] [] ((c_X8_forgets l g (uNot (uSo (uSo u so) so2) (dlF (psF (v 3) a 61 0).2.2 0 x).1) (vIn (vAt (vDn (vAt v (psF (v 3) a 61 0).2.1) (dlF (psF (v 3) a 61 0).2.2 0 x).2.1) p2) 0) ⟨by omega, hm_in.2⟩ W ((hp_F3.1.fr (hg_F4 258 (by omega) (by omega) (by omega))).fr (hf_F5 258 (by omega))) W2 (hW2.fr (hf_F5 255 (by omega))))) lk_X8_285 hm_in.2 (by omega) rfl rfl ⟨by decide, by decide⟩ hl ⟨Nat.zero_le _, Nat.zero_le _⟩ (Nat.le_of_ble_eq_true rfl) rfl dX8_read_51 (fun F7 H locs hp_F7 h => ?_)
      refine lv_aload_n kx kb dX8_read_54 rfl (lv_at hl 1 rfl) ?_
      refine lv_iload_n kx kb dX8_read_55 rfl (lv_at hl 0 rfl) ?_
      refine w_callVi X M h [.int ((dlF (psF (v 3) a 61 0).2.2 0 x).1.1)] [] ((c_X8_refuses l g (uNot (uSo (uSo u so) so2) (dlF (psF (v 3) a 61 0).2.2 0 x).1) (vIn (vAt (vDn (vAt v (psF (v 3) a 61 0).2.1) (dlF (psF (v 3) a 61 0).2.2 0 x).2.1) p2) 0) ⟨by omega, ((hp_F7.2 254 (by omega)).trans hm_in.2)⟩ ((dlF (psF (v 3) a 61 0).2.2 0 x).1.1))) lk_X8_288 ((hp_F7.2 254 (by omega)).trans hm_in.2) (by omega) rfl rfl ⟨by decide, by decide⟩ hl ⟨Nat.zero_le _, Nat.zero_le _⟩ (Nat.le_of_ble_eq_true rfl) rfl dX8_read_56 (fun r_F8 F8 H locs hp_F8 h => ?_)
      refine w_top (y := (-5)) hp_F8.1 ?_
      exact w_iret X h ⟨⟨(uRf (uNot (uSo (uSo u so) so2) (dlF (psF (v 3) a 61 0).2.2 0 x).1) ((vIn (vAt (vDn (vAt v (psF (v 3) a 61 0).2.1) (dlF (psF (v 3) a 61 0).2.2 0 x).2.1) p2) 0) 5) ((dlF (psF (v 3) a 61 0).2.2 0 x).1.1)), (vIn (vAt (vDn (vAt v (psF (v 3) a 61 0).2.1) (dlF (psF (v 3) a 61 0).2.2 0 x).2.1) p2) 0), ⟨by omega, hp_F8.2.1.2⟩, rfl, rfl, (uNot_le (by decide) (by decide)), fun q => absurd hq1 (by rw [q]; exact Bool.false_ne_true), fun _ => ⟨(uNot_le (by decide) (by decide)), fun q => absurd q c_6, fun _ => ⟨rfl, rfl, rfl, uRf_2, fun z => uNot_5 z, rfl, rfl, ⟨_, (hp_F7.1.fr (hp_F8.2.2 255 (by omega))), hR⟩, ((((((hU.fr (hg_F1 256 (by omega) (by omega))).fr (hp_F3.2 256 (by omega))).fr (hg_F4 256 (by omega) (by omega) (by omega))).fr (hf_F5 256 (by omega))).fr (hp_F7.2 256 (by omega))).fr (hp_F8.2.2 256 (by omega)))⟩⟩⟩, ⟨_, (((hM_F4.fr (hf_F5 262 (by omega))).fr (hp_F7.2 262 (by omega))).fr (hp_F8.2.2 262 (by omega)))⟩, ⟨_, ((((hp_F3.1.fr (hg_F4 258 (by omega) (by omega) (by omega))).fr (hf_F5 258 (by omega))).fr (hp_F7.2 258 (by omega))).fr (hp_F8.2.2 258 (by omega)))⟩, (fun i hi hi2 hi3 hi4 hi5 => (hp_F8.2.2 i (by omega)).trans ((hp_F7.2 i (by omega)).trans ((hf_F5 i (by omega)).trans ((hg_F4 i (by omega) (by omega) (by omega)).trans ((hp_F3.2 i (by omega)).trans (hg_F1 i (by omega) (by omega)))))))⟩ dX8_read_59
    · refine lv_aload_n kx kb dX8_read_41 rfl (lv_at hl 1 rfl) ?_
      refine w_callVv X M h [] [] ((c_X8_keepsMind l g (uNot (uSo (uSo u so) so2) (dlF (psF (v 3) a 61 0).2.2 0 x).1) (vIn (vAt (vDn (vAt v (psF (v 3) a 61 0).2.1) (dlF (psF (v 3) a 61 0).2.2 0 x).2.1) p2) 0) ⟨by omega, hm_in.2⟩ hv0 hv1 hs hns ((((hU.fr (hg_F1 256 (by omega) (by omega))).fr (hp_F3.2 256 (by omega))).fr (hg_F4 256 (by omega) (by omega) (by omega))).fr (hf_F5 256 (by omega))) x hn12 htn64 ⟨_, ((hp_F3.1.fr (hg_F4 258 (by omega) (by omega) (by omega))).fr (hf_F5 258 (by omega))), hR⟩)) lk_X8_70 hm_in.2 (by omega) rfl rfl ⟨by decide, by decide⟩ hl ⟨Nat.zero_le _, Nat.zero_le _⟩ (Nat.le_of_ble_eq_true rfl) rfl dX8_read_42 (fun F9 H locs hp_F9 h => ?_)
      obtain ⟨hm_F9, hU_F9, hg_F9⟩ := hp_F9
      refine lv_aload_n kx kb dX8_read_45 rfl (lv_at hl 1 rfl) ?_
      refine w_get X M h 254 hm_F9.2 (by omega) fl_X8_270 rfl dX8_read_46 ?_
      exact w_iret X h ⟨⟨(uNot (uSo (uSo u so) so2) (dlF (psF (v 3) a 61 0).2.2 0 x).1), (vKeep (vIn (vAt (vDn (vAt v (psF (v 3) a 61 0).2.1) (dlF (psF (v 3) a 61 0).2.2 0 x).2.1) p2) 0)), ⟨by omega, hm_F9.2⟩, rfl, rfl, (uNot_le (by decide) (by decide)), fun q => absurd hq1 (by rw [q]; exact Bool.false_ne_true), fun _ => ⟨(uNot_le (by decide) (by decide)), fun _ => ⟨rfl, i4 (uNot_le (by decide) (by decide)) (uNot_le (by decide) (by decide)) (uNot_le (by decide) (by decide)) (uNot_le (by decide) (by decide)), rfl, rfl, ⟨_, ((hW2.fr (hf_F5 255 (by omega))).fr (hg_F9 255 (by omega) (by omega))), hR2⟩, hU_F9⟩, fun q => absurd c_6 q⟩⟩, ⟨_, ((hM_F4.fr (hf_F5 262 (by omega))).fr (hg_F9 262 (by omega) (by omega)))⟩, ⟨_, (((hp_F3.1.fr (hg_F4 258 (by omega) (by omega) (by omega))).fr (hf_F5 258 (by omega))).fr (hg_F9 258 (by omega) (by omega)))⟩, (fun i hi hi2 hi3 hi4 hi5 => (hg_F9 i (by omega) (by omega)).trans ((hf_F5 i (by omega)).trans ((hg_F4 i (by omega) (by omega) (by omega)).trans ((hp_F3.2 i (by omega)).trans (hg_F1 i (by omega) (by omega))))))⟩ dX8_read_49
  · refine lv_aload_n kx kb dX8_read_7 rfl (lv_at hl 0 rfl) ?_
    refine lv_aload_n kx kb dX8_read_8 rfl (lv_at hl 0 rfl) ?_
    refine w_get X M h 254 hm_F1.2 (by omega) fl_X8_233 rfl dX8_read_9 ?_
    refine w_put X M h 254 hm_F1.2 (by omega) fp_X8_55 (rfl) (by rfl) (Nat.le_of_ble_eq_true rfl) dX8_read_12 (fun F10 H locs h he_F10 hf_F10 => ?_)
    refine lv_aload_n kx kb dX8_read_15 rfl (lv_at hl 0 rfl) ?_
    refine lv_iconst (v := nI 0) kx kb dX8_read_16 (by decide) ?_
    refine w_put X M h 254 he_F10 (by omega) fp_X8_218 (rfl) (by rfl) (Nat.le_of_ble_eq_true rfl) dX8_read_17 (fun F11 H locs h he_F11 hf_F11 => ?_)
    refine lv_bipush (v := (-2)) kx kb dX8_read_20 (by decide) ?_
    exact w_iret X h ⟨⟨uFt (uSo u so) (psF (v 3) a 61 0).2.1, vIn (vAt v (psF (v 3) a 61 0).2.1) 0, ⟨by omega, he_F11⟩, rfl, rfl, rfl, fun _ => ⟨rfl, rfl, i4 rfl rfl rfl rfl, rfl, rfl, ⟨_, (((hW.fr (hg_F1 255 (by omega) (by omega))).fr (hf_F10 255 (by omega))).fr (hf_F11 255 (by omega))), hR⟩, (((hU.fr (hg_F1 256 (by omega) (by omega))).fr (hf_F10 256 (by omega))).fr (hf_F11 256 (by omega)))⟩, fun q => absurd q c_2⟩, ⟨_, ((hM_F1.fr (hf_F10 262 (by omega))).fr (hf_F11 262 (by omega)))⟩, ⟨_, (((hD.fr (hg_F1 258 (by omega) (by omega))).fr (hf_F10 258 (by omega))).fr (hf_F11 258 (by omega)))⟩, (fun i hi hi2 hi3 hi4 hi5 => (hf_F11 i (by omega)).trans ((hf_F10 i (by omega)).trans (hg_F1 i (by omega) (by omega))))⟩ dX8_read_22
