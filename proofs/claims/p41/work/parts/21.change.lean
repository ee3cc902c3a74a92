set_option maxRecDepth 20000 in
theorem c_X7_refuse (l : Launch) (g : gT) {N : Nat} {ad : Nat → Nat} {F : Nat → va_E} (q : Nat → Int32) (hp : oP0 g N ad F q) (kd dt : Int32) : CtI l yX7_refuse cX7_refuse 3 (some .int) 0 0 g N ad F [.ref (ad 0), .int kd, .int dt] (fun r F' => r = -5 ∧ oP0 g N ad F' (qRef q kd dt) ∧ ∀ i, i ≠ 0 → F' i = F i) := by
  refine CtI_of (by decide) (Nat.le_of_ble_eq_true rfl) ?_
  intro p e s m args below meth c A H ls X M h hl
  have kx := X.1.1
  have kb := X.1.2.1
  have hl : lv_has ls 3 [(0, .ref (ad 0)), (1, .int kd), (2, .int dt)] := hl
  have hN0 := hp.1
  refine lv_aload_n kx kb dX7_refuse_0 rfl (lv_at hl 0 rfl) ?_
  refine lv_iload_n kx kb dX7_refuse_1 rfl (lv_at hl 1 rfl) ?_
  refine w_put X M h 0 hp.2 (by omega) fp_X7_51 (rfl) (by rfl) (Nat.le_of_ble_eq_true rfl) dX7_refuse_2 (fun F1 H locs h he_F1 hf_F1 => ?_)
  refine lv_aload_n kx kb dX7_refuse_5 rfl (lv_at hl 0 rfl) ?_
  refine lv_iload_n kx kb dX7_refuse_6 rfl (lv_at hl 2 rfl) ?_
  refine w_put X M h 0 he_F1 (by omega) fp_X7_54 (rfl) (by rfl) (Nat.le_of_ble_eq_true rfl) dX7_refuse_7 (fun F2 H locs h he_F2 hf_F2 => ?_)
  refine lv_aload_n kx kb dX7_refuse_10 rfl (lv_at hl 0 rfl) ?_
  refine lv_iconst (v := nI 0) kx kb dX7_refuse_11 (by decide) ?_
  refine w_put X M h 0 he_F2 (by omega) fp_X7_57 (rfl) (by rfl) (Nat.le_of_ble_eq_true rfl) dX7_refuse_12 (fun F3 H locs h he_F3 hf_F3 => ?_)
  refine lv_aload_n kx kb dX7_refuse_15 rfl (lv_at hl 0 rfl) ?_
  refine lv_iconst (v := nI 0) kx kb dX7_refuse_16 (by decide) ?_
  refine w_put X M h 0 he_F3 (by omega) fp_X7_60 (rfl) (by rfl) (Nat.le_of_ble_eq_true rfl) dX7_refuse_17 (fun F4 H locs h he_F4 hf_F4 => ?_)
  refine lv_bipush (v := (-5)) kx kb dX7_refuse_20 (by decide) ?_
  exact w_iret X h ⟨rfl, ⟨by omega, he_F4⟩, (fun q hq => (hf_F4 q (by omega)).trans ((hf_F3 q (by omega)).trans ((hf_F2 q (by omega)).trans (hf_F1 q (by omega)))))⟩ dX7_refuse_22
set_option maxRecDepth 20000 in
theorem c_X7_letCome (l : Launch) (g : gT) {N : Nat} {ad : Nat → Nat} {F : Nat → va_E} (x : SX) (q : Nat → Int32) (hp : oP0 g N ad F q) (hs : oSt g N ad F 1 x) (hn : x.1 ≤ 12) (htn : xtn x ≤ 64) (wl dp sg wt : Int32)  : CtI l yX7_letCome cX7_letCome 7 (some .int) 3 66 g N ad F [.ref (ad 0), .int wl, .int dp, .int sg, .int wt] (fun r F' => r = (letComeF x q wl dp sg wt).1 ∧ oP0 g N ad F' (letComeF x q wl dp sg wt).2.1 ∧ oSt g N ad F' 1 (letComeF x q wl dp sg wt).2.2 ∧ ∀ i, 22 < i → F' i = F i) := by
  refine CtI_of (by decide) (Nat.le_of_ble_eq_true rfl) ?_
  intro p e s m args below meth c A H ls X M h hl
  have kx := X.1.1
  have kb := X.1.2.1
  have hl : lv_has ls 7 [(0, .ref (ad 0)), (1, .int wl), (2, .int dp), (3, .int sg), (4, .int wt)] := hl
  have hN0 := hp.1
  have htn2 : x.2.2.1 ≤ 64 := htn
  have hcn := cnt_le (cwP x.2.1 wl (nI 30)) x.1
  refine lv_iload_n kx kb dX7_letCome_0 rfl (lv_at hl 1 rfl) ?_
  refine w_readSi X M h [.int wl] [] ((c_X7_isWell l g wl)) lk_X7_159 rfl ⟨by decide, by decide⟩ hl ⟨Nat.zero_le _, Nat.zero_le _⟩ (Nat.le_of_ble_eq_true rfl) rfl dX7_letCome_1 (fun H locs h => ?_)
  refine w_if_neb (tgt := 9) kx kb dX7_letCome_4 (by decide) (fun c_1 => ?_) (fun c_1 => ?_)
  · refine lv_iload_n kx kb dX7_letCome_9 rfl (lv_at hl 2 rfl) ?_
    refine lv_iconst (v := nI 1) kx kb dX7_letCome_10 (by decide) ?_
    refine lv_bipush (v := nI 30) kx kb dX7_letCome_11 (by decide) ?_
    refine w_readSi X M h [.int dp, .int (nI 1), .int (nI 30)] [] ((c_X7_isWithin l g dp (nI 1) (nI 30))) lk_X7_180 rfl ⟨by decide, by decide⟩ hl ⟨Nat.zero_le _, Nat.zero_le _⟩ (Nat.le_of_ble_eq_true rfl) rfl dX7_letCome_13 (fun H locs h => ?_)
    refine w_if_eqb (tgt := 40) kx kb dX7_letCome_16 (by decide) (fun c_2 => ?_) (fun c_2 => ?_)
    · refine lv_bipush (v := (-2)) kx kb dX7_letCome_40 (by decide) ?_
      exact w_iret X h (by rw [show letComeF x q wl dp sg wt = _ from by rw [letComeF, if_pos c_1, if_neg c_2]]; exact ⟨rfl, ⟨by omega, hp.2⟩, ⟨by omega, hs.2.1, ⟨by omega, hs.2.2.1.2.1, ⟨by omega, hs.2.2.1.2.2.1.2.1, hs.2.2.1.2.2.1.2.2⟩, ⟨by omega, hs.2.2.1.2.2.2.1.2.1, hs.2.2.1.2.2.2.1.2.2⟩, ⟨by omega, hs.2.2.1.2.2.2.2.1.2.1, hs.2.2.1.2.2.2.2.1.2.2⟩, ⟨by omega, hs.2.2.1.2.2.2.2.2.1.2.1, hs.2.2.1.2.2.2.2.2.1.2.2⟩, ⟨by omega, hs.2.2.1.2.2.2.2.2.2.2.1, hs.2.2.1.2.2.2.2.2.2.2.2⟩⟩, ⟨by omega, hs.2.2.2.1.2.1, ⟨by omega, hs.2.2.2.1.2.2.1.2.1, hs.2.2.2.1.2.2.1.2.2⟩, ⟨by omega, hs.2.2.2.1.2.2.2.1.2.1, hs.2.2.2.1.2.2.2.1.2.2⟩, hs.2.2.2.1.2.2.2.2.1, ⟨by omega, hs.2.2.2.1.2.2.2.2.2.2.1, hs.2.2.2.1.2.2.2.2.2.2.2⟩⟩, ⟨by omega, hs.2.2.2.2.2.1, hs.2.2.2.2.2.2⟩⟩, (fun i hi => rfl)⟩) dX7_letCome_42
    · refine lv_iload_n kx kb dX7_letCome_19 rfl (lv_at hl 3 rfl) ?_
      refine lv_iconst (v := nI 0) kx kb dX7_letCome_20 (by decide) ?_
      refine lv_bipush (v := nI 63) kx kb dX7_letCome_21 (by decide) ?_
      refine w_readSi X M h [.int sg, .int (nI 0), .int (nI 63)] [] ((c_X7_isWithin l g sg (nI 0) (nI 63))) lk_X7_180 rfl ⟨by decide, by decide⟩ hl ⟨Nat.zero_le _, Nat.zero_le _⟩ (Nat.le_of_ble_eq_true rfl) rfl dX7_letCome_23 (fun H locs h => ?_)
      refine w_if_eqb (tgt := 40) kx kb dX7_letCome_26 (by decide) (fun c_3 => ?_) (fun c_3 => ?_)
      · refine lv_bipush (v := (-2)) kx kb dX7_letCome_40 (by decide) ?_
        exact w_iret X h (by rw [show letComeF x q wl dp sg wt = _ from by rw [letComeF, if_pos c_1, if_pos c_2, if_neg c_3]]; exact ⟨rfl, ⟨by omega, hp.2⟩, ⟨by omega, hs.2.1, ⟨by omega, hs.2.2.1.2.1, ⟨by omega, hs.2.2.1.2.2.1.2.1, hs.2.2.1.2.2.1.2.2⟩, ⟨by omega, hs.2.2.1.2.2.2.1.2.1, hs.2.2.1.2.2.2.1.2.2⟩, ⟨by omega, hs.2.2.1.2.2.2.2.1.2.1, hs.2.2.1.2.2.2.2.1.2.2⟩, ⟨by omega, hs.2.2.1.2.2.2.2.2.1.2.1, hs.2.2.1.2.2.2.2.2.1.2.2⟩, ⟨by omega, hs.2.2.1.2.2.2.2.2.2.2.1, hs.2.2.1.2.2.2.2.2.2.2.2⟩⟩, ⟨by omega, hs.2.2.2.1.2.1, ⟨by omega, hs.2.2.2.1.2.2.1.2.1, hs.2.2.2.1.2.2.1.2.2⟩, ⟨by omega, hs.2.2.2.1.2.2.2.1.2.1, hs.2.2.2.1.2.2.2.1.2.2⟩, hs.2.2.2.1.2.2.2.2.1, ⟨by omega, hs.2.2.2.1.2.2.2.2.2.2.1, hs.2.2.2.1.2.2.2.2.2.2.2⟩⟩, ⟨by omega, hs.2.2.2.2.2.1, hs.2.2.2.2.2.2⟩⟩, (fun i hi => rfl)⟩) dX7_letCome_42
      · obtain ⟨ks, hs0, hs1, rfl⟩ := inW_of (by decide) (by decide) c_3
        refine lv_iload kx kb dX7_letCome_29 (lv_at hl 4 rfl) ?_
        refine lv_iconst (v := nI 1) kx kb dX7_letCome_31 (by decide) ?_
        refine lv_bipush (v := nI 9) kx kb dX7_letCome_32 (by decide) ?_
        refine w_readSi X M h [.int wt, .int (nI 1), .int (nI 9)] [] ((c_X7_isWithin l g wt (nI 1) (nI 9))) lk_X7_180 rfl ⟨by decide, by decide⟩ hl ⟨Nat.zero_le _, Nat.zero_le _⟩ (Nat.le_of_ble_eq_true rfl) rfl dX7_letCome_34 (fun H locs h => ?_)
        refine w_if_neb (tgt := 43) kx kb dX7_letCome_37 (by decide) (fun c_4 => ?_) (fun c_4 => ?_)
        · refine lv_aload_n kx kb dX7_letCome_43 rfl (lv_at hl 0 rfl) ?_
          refine w_get X M h 0 hp.2 (by omega) fl_X7_12 rfl dX7_letCome_44 ?_
          refine w_get X M h 1 hs.2.1 (by omega) fl_X7_121 rfl dX7_letCome_47 ?_
          refine lv_astore (lv' := [(5, .ref (ad 2)), (0, .ref (ad 0)), (1, .int wl), (2, .int dp), (3, .int (nI ks)), (4, .int wt)]) kx kb dX7_letCome_50 hl (by decide) rfl (fun ls hl => ?_)
          refine lv_aload_n kx kb dX7_letCome_52 rfl (lv_at hl 1 rfl) ?_
          refine w_get X M h 0 hp.2 (by omega) fl_X7_12 rfl dX7_letCome_53 ?_
          refine w_get X M h 1 hs.2.1 (by omega) fl_X7_171 rfl dX7_letCome_56 ?_
          refine w_get X M h 13 hs.2.2.2.1.2.1 (by omega) fl_X7_184 rfl dX7_letCome_59 ?_
          refine lv_iload_n kx kb dX7_letCome_62 rfl (lv_at hl 4 rfl) ?_
          refine w_readVi X M h [.int (nI ks)] [] ((c_X3_at_n l g 19 64 (x.2.2.2.2.1 2) ks ⟨by omega, hs.2.2.2.1.2.2.2.2.2.2.1, hs.2.2.2.1.2.2.2.2.2.2.2⟩ (by omega) (by omega))) lk_X7_139 hs.2.2.2.1.2.2.2.2.2.2.1 (by omega) rfl rfl ⟨by decide, by decide⟩ hl ⟨Nat.zero_le _, Nat.zero_le _⟩ (Nat.le_of_ble_eq_true rfl) rfl dX7_letCome_63 (fun H locs h => ?_)
          refine lv_if_eq (tgt := 76) kx kb dX7_letCome_66 (by decide) (fun c_5 => ?_) (fun c_5 => ?_)
          · refine lv_aload kx kb dX7_letCome_76 (lv_at hl 0 rfl) ?_
            refine lv_iload_n kx kb dX7_letCome_78 rfl (lv_at hl 4 rfl) ?_
            refine w_readVi X M h [.int (nI ks)] [] ((c_X1_withSign l g 2 x.1 x.2.1 ⟨by omega, hs.2.2.1.2.1, ⟨by omega, hs.2.2.1.2.2.1.2.1, hs.2.2.1.2.2.1.2.2⟩, ⟨by omega, hs.2.2.1.2.2.2.1.2.1, hs.2.2.1.2.2.2.1.2.2⟩, ⟨by omega, hs.2.2.1.2.2.2.2.1.2.1, hs.2.2.1.2.2.2.2.1.2.2⟩, ⟨by omega, hs.2.2.1.2.2.2.2.2.1.2.1, hs.2.2.1.2.2.2.2.2.1.2.2⟩, ⟨by omega, hs.2.2.1.2.2.2.2.2.2.2.1, hs.2.2.1.2.2.2.2.2.2.2.2⟩⟩ (by omega) (nI ks))) lk_X7_298 hs.2.2.1.2.1 (by omega) rfl rfl ⟨by decide, by decide⟩ hl ⟨Nat.zero_le _, Nat.zero_le _⟩ (Nat.le_of_ble_eq_true rfl) rfl dX7_letCome_79 (fun H locs h => ?_)
            refine lv_istore (lv' := [(6, .int (ixO (fun k => decide (x.2.1 2 k = nI ks)) x.1)), (5, .ref (ad 2)), (0, .ref (ad 0)), (1, .int wl), (2, .int dp), (3, .int (nI ks)), (4, .int wt)]) kx kb dX7_letCome_82 hl (by decide) rfl (fun ls hl => ?_)
            refine lv_iload kx kb dX7_letCome_84 (lv_at hl 0 rfl) ?_
            refine lv_iconst (v := (-1)) kx kb dX7_letCome_86 (by decide) ?_
            refine lv_icmp_eq (tgt := 98) kx kb dX7_letCome_87 (by decide) (fun c_6 => ?_) (fun c_6 => ?_)
            · refine lv_aload kx kb dX7_letCome_98 (lv_at hl 1 rfl) ?_
              refine lv_iload_n kx kb dX7_letCome_100 rfl (lv_at hl 3 rfl) ?_
              refine lv_iload_n kx kb dX7_letCome_101 rfl (lv_at hl 4 rfl) ?_
              refine w_readVi X M h [.int wl, .int dp] [] ((c_X1_atDepth l g 2 x.1 x.2.1 ⟨by omega, hs.2.2.1.2.1, ⟨by omega, hs.2.2.1.2.2.1.2.1, hs.2.2.1.2.2.1.2.2⟩, ⟨by omega, hs.2.2.1.2.2.2.1.2.1, hs.2.2.1.2.2.2.1.2.2⟩, ⟨by omega, hs.2.2.1.2.2.2.2.1.2.1, hs.2.2.1.2.2.2.2.1.2.2⟩, ⟨by omega, hs.2.2.1.2.2.2.2.2.1.2.1, hs.2.2.1.2.2.2.2.2.1.2.2⟩, ⟨by omega, hs.2.2.1.2.2.2.2.2.2.2.1, hs.2.2.1.2.2.2.2.2.2.2.2⟩⟩ (by omega) wl dp)) lk_X7_301 hs.2.2.1.2.1 (by omega) rfl rfl ⟨by decide, by decide⟩ hl ⟨Nat.zero_le _, Nat.zero_le _⟩ (Nat.le_of_ble_eq_true rfl) rfl dX7_letCome_102 (fun H locs h => ?_)
              refine lv_istore (lv' := [(6, .int (ixO (fun k => decide (x.2.1 0 k = wl ∧ x.2.1 1 k = dp)) x.1)), (5, .ref (ad 2)), (0, .ref (ad 0)), (1, .int wl), (2, .int dp), (3, .int (nI ks)), (4, .int wt)]) kx kb dX7_letCome_105 hl (by decide) rfl (fun ls hl => ?_)
              refine lv_iload kx kb dX7_letCome_107 (lv_at hl 0 rfl) ?_
              refine lv_iconst (v := (-1)) kx kb dX7_letCome_109 (by decide) ?_
              refine lv_icmp_eq (tgt := 121) kx kb dX7_letCome_110 (by decide) (fun c_7 => ?_) (fun c_7 => ?_)
              · refine lv_aload kx kb dX7_letCome_121 (lv_at hl 1 rfl) ?_
                refine w_get X M h 2 hs.2.2.1.2.1 (by omega) fl_X7_125 rfl dX7_letCome_123 ?_
                refine lv_bipush (v := nI 12) kx kb dX7_letCome_126 (by decide) ?_
                refine w_cmp_lt (tgt := 142) kx kb (by omega) (by omega) dX7_letCome_128 (by decide) (fun c_8 => ?_) (fun c_8 => ?_)
                · refine lv_aload kx kb dX7_letCome_142 (lv_at hl 1 rfl) ?_
                  refine lv_iload_n kx kb dX7_letCome_144 rfl (lv_at hl 3 rfl) ?_
                  refine w_readVi X M h [.int wl] [] ((c_X1_countIn l g 2 x.1 x.2.1 ⟨by omega, hs.2.2.1.2.1, ⟨by omega, hs.2.2.1.2.2.1.2.1, hs.2.2.1.2.2.1.2.2⟩, ⟨by omega, hs.2.2.1.2.2.2.1.2.1, hs.2.2.1.2.2.2.1.2.2⟩, ⟨by omega, hs.2.2.1.2.2.2.2.1.2.1, hs.2.2.1.2.2.2.2.1.2.2⟩, ⟨by omega, hs.2.2.1.2.2.2.2.2.1.2.1, hs.2.2.1.2.2.2.2.2.1.2.2⟩, ⟨by omega, hs.2.2.1.2.2.2.2.2.2.2.1, hs.2.2.1.2.2.2.2.2.2.2.2⟩⟩ (by omega) wl)) lk_X7_165 hs.2.2.1.2.1 (by omega) rfl rfl ⟨by decide, by decide⟩ hl ⟨Nat.zero_le _, Nat.zero_le _⟩ (Nat.le_of_ble_eq_true rfl) rfl dX7_letCome_145 (fun H locs h => ?_)
                  refine lv_bipush (v := nI 6) kx kb dX7_letCome_148 (by decide) ?_
                  refine w_cmp_lt (tgt := 165) kx kb (by omega) (by omega) dX7_letCome_150 (by decide) (fun c_9 => ?_) (fun c_9 => ?_)
                  · refine lv_aload kx kb dX7_letCome_165 (lv_at hl 1 rfl) ?_
                    refine lv_iload_n kx kb dX7_letCome_167 rfl (lv_at hl 3 rfl) ?_
                    refine lv_iload_n kx kb dX7_letCome_168 rfl (lv_at hl 4 rfl) ?_
                    refine lv_iload_n kx kb dX7_letCome_169 rfl (lv_at hl 5 rfl) ?_
                    refine lv_iload kx kb dX7_letCome_170 (lv_at hl 6 rfl) ?_
                    refine w_callVv X M h [.int wl, .int dp, .int (nI ks), .int wt] [] ((c_X1_add l g 2 x.1 x.2.1 ⟨by omega, hs.2.2.1.2.1, ⟨by omega, hs.2.2.1.2.2.1.2.1, hs.2.2.1.2.2.1.2.2⟩, ⟨by omega, hs.2.2.1.2.2.2.1.2.1, hs.2.2.1.2.2.2.1.2.2⟩, ⟨by omega, hs.2.2.1.2.2.2.2.1.2.1, hs.2.2.1.2.2.2.2.1.2.2⟩, ⟨by omega, hs.2.2.1.2.2.2.2.2.1.2.1, hs.2.2.1.2.2.2.2.2.1.2.2⟩, ⟨by omega, hs.2.2.1.2.2.2.2.2.2.2.1, hs.2.2.1.2.2.2.2.2.2.2.2⟩⟩ (by omega) wl dp (nI ks) wt)) lk_X7_304 hs.2.2.1.2.1 (by omega) rfl rfl ⟨by decide, by decide⟩ hl ⟨Nat.zero_le _, Nat.zero_le _⟩ (Nat.le_of_ble_eq_true rfl) rfl dX7_letCome_172 (fun F10 H locs hp_F10 h => ?_)
                    refine lv_aload_n kx kb dX7_letCome_175 rfl (lv_at hl 2 rfl) ?_
                    refine w_get X M h 0 ((hp_F10.2 0 (by omega)).trans hp.2) (by omega) fl_X7_12 rfl dX7_letCome_176 ?_
                    refine lv_dup kx kb dX7_letCome_179 rfl ?_
                    refine w_get X M h 1 ((hp_F10.2 1 (by omega)).trans hs.2.1) (by omega) fl_X7_252 rfl dX7_letCome_180 ?_
                    refine lv_iconst (v := nI 1) kx kb dX7_letCome_183 (by decide) ?_
                    refine w_addn kx kb dX7_letCome_184 ?_
                    refine w_put X M h 1 ((hp_F10.2 1 (by omega)).trans hs.2.1) (by omega) fp_X7_252 (rfl) (by rfl) (Nat.le_of_ble_eq_true rfl) dX7_letCome_185 (fun F11 H locs h he_F11 hf_F11 => ?_)
                    refine lv_aload kx kb dX7_letCome_188 (lv_at hl 1 rfl) ?_
                    refine w_get X M h 2 ((hf_F11 2 (by omega)).trans hp_F10.1.2.1) (by omega) fl_X7_125 rfl dX7_letCome_190 ?_
                    refine lv_iconst (v := nI 1) kx kb dX7_letCome_193 (by decide) ?_
                    refine w_subn kx kb (by omega) dX7_letCome_194 ?_
                    exact w_iret X h (by rw [show letComeF x q wl dp (nI ks) wt = _ from by rw [letComeF, if_pos c_1, if_pos c_2, if_pos c_3, cl_n (show ks < 2147483648 by omega), if_pos c_4, if_pos c_5, if_pos c_6, if_pos c_7, if_pos (by omega), if_pos (by omega)]]; exact ⟨rfl, ⟨by omega, ((hf_F11 0 (by omega)).trans ((hp_F10.2 0 (by omega)).trans hp.2))⟩, ⟨by omega, he_F11, ⟨by omega, ((hf_F11 2 (by omega)).trans hp_F10.1.2.1), ⟨by omega, ((hf_F11 3 (by omega)).trans hp_F10.1.2.2.1.2.1), (hp_F10.1.2.2.1.2.2.fr (hf_F11 4 (by omega)))⟩, ⟨by omega, ((hf_F11 5 (by omega)).trans hp_F10.1.2.2.2.1.2.1), (hp_F10.1.2.2.2.1.2.2.fr (hf_F11 6 (by omega)))⟩, ⟨by omega, ((hf_F11 7 (by omega)).trans hp_F10.1.2.2.2.2.1.2.1), (hp_F10.1.2.2.2.2.1.2.2.fr (hf_F11 8 (by omega)))⟩, ⟨by omega, ((hf_F11 9 (by omega)).trans hp_F10.1.2.2.2.2.2.1.2.1), (hp_F10.1.2.2.2.2.2.1.2.2.fr (hf_F11 10 (by omega)))⟩, ⟨by omega, ((hf_F11 11 (by omega)).trans hp_F10.1.2.2.2.2.2.2.2.1), (hp_F10.1.2.2.2.2.2.2.2.2.fr (hf_F11 12 (by omega)))⟩⟩, ⟨by omega, ((hf_F11 13 (by omega)).trans ((hp_F10.2 13 (by omega)).trans hs.2.2.2.1.2.1)), ⟨by omega, ((hf_F11 14 (by omega)).trans ((hp_F10.2 14 (by omega)).trans hs.2.2.2.1.2.2.1.2.1)), ((hs.2.2.2.1.2.2.1.2.2.fr (hp_F10.2 15 (by omega))).fr (hf_F11 15 (by omega)))⟩, ⟨by omega, ((hf_F11 16 (by omega)).trans ((hp_F10.2 16 (by omega)).trans hs.2.2.2.1.2.2.2.1.2.1)), ((hs.2.2.2.1.2.2.2.1.2.2.fr (hp_F10.2 17 (by omega))).fr (hf_F11 17 (by omega)))⟩, ((hs.2.2.2.1.2.2.2.2.1.fr (hp_F10.2 18 (by omega))).fr (hf_F11 18 (by omega))), ⟨by omega, ((hf_F11 19 (by omega)).trans ((hp_F10.2 19 (by omega)).trans hs.2.2.2.1.2.2.2.2.2.2.1)), ((hs.2.2.2.1.2.2.2.2.2.2.2.fr (hp_F10.2 20 (by omega))).fr (hf_F11 20 (by omega)))⟩⟩, ⟨by omega, ((hf_F11 21 (by omega)).trans ((hp_F10.2 21 (by omega)).trans hs.2.2.2.2.2.1)), ((hs.2.2.2.2.2.2.fr (hp_F10.2 22 (by omega))).fr (hf_F11 22 (by omega)))⟩⟩, (fun i hi => (hf_F11 i (by omega)).trans (hp_F10.2 i (by omega)))⟩) dX7_letCome_195
                  · refine lv_aload_n kx kb dX7_letCome_153 rfl (lv_at hl 2 rfl) ?_
                    refine lv_iconst (v := nI 1) kx kb dX7_letCome_154 (by decide) ?_
                    refine lv_aload kx kb dX7_letCome_155 (lv_at hl 1 rfl) ?_
                    refine lv_iload_n kx kb dX7_letCome_157 rfl (lv_at hl 3 rfl) ?_
                    refine w_readVi X M h [.int wl] [.int (nI 1), .ref (ad 0)] ((c_X1_countIn l g 2 x.1 x.2.1 ⟨by omega, hs.2.2.1.2.1, ⟨by omega, hs.2.2.1.2.2.1.2.1, hs.2.2.1.2.2.1.2.2⟩, ⟨by omega, hs.2.2.1.2.2.2.1.2.1, hs.2.2.1.2.2.2.1.2.2⟩, ⟨by omega, hs.2.2.1.2.2.2.2.1.2.1, hs.2.2.1.2.2.2.2.1.2.2⟩, ⟨by omega, hs.2.2.1.2.2.2.2.2.1.2.1, hs.2.2.1.2.2.2.2.2.1.2.2⟩, ⟨by omega, hs.2.2.1.2.2.2.2.2.2.2.1, hs.2.2.1.2.2.2.2.2.2.2.2⟩⟩ (by omega) wl)) lk_X7_165 hs.2.2.1.2.1 (by omega) rfl rfl ⟨by decide, by decide⟩ hl ⟨Nat.zero_le _, Nat.zero_le _⟩ (Nat.le_of_ble_eq_true rfl) rfl dX7_letCome_158 (fun H locs h => ?_)
                    refine w_callVi X M h [.int (nI 1), .int (nI (cnt (cwP x.2.1 wl (nI 30)) x.1))] [] ((c_X7_refuse l g q ⟨by omega, hp.2⟩ (nI 1) (nI (cnt (cwP x.2.1 wl (nI 30)) x.1)))) lk_X7_295 hp.2 (by omega) rfl rfl ⟨by decide, by decide⟩ hl ⟨Nat.zero_le _, Nat.zero_le _⟩ (Nat.le_of_ble_eq_true rfl) rfl dX7_letCome_161 (fun r_F12 F12 H locs hp_F12 h => ?_)
                    refine w_top (y := (-5)) hp_F12.1 ?_
                    exact w_iret X h (by rw [show letComeF x q wl dp (nI ks) wt = _ from by rw [letComeF, if_pos c_1, if_pos c_2, if_pos c_3, cl_n (show ks < 2147483648 by omega), if_pos c_4, if_pos c_5, if_pos c_6, if_pos c_7, if_pos (by omega), if_neg (by omega)]]; exact ⟨rfl, ⟨by omega, hp_F12.2.1.2⟩, ⟨by omega, ((hp_F12.2.2 1 (by omega)).trans hs.2.1), ⟨by omega, ((hp_F12.2.2 2 (by omega)).trans hs.2.2.1.2.1), ⟨by omega, ((hp_F12.2.2 3 (by omega)).trans hs.2.2.1.2.2.1.2.1), (hs.2.2.1.2.2.1.2.2.fr (hp_F12.2.2 4 (by omega)))⟩, ⟨by omega, ((hp_F12.2.2 5 (by omega)).trans hs.2.2.1.2.2.2.1.2.1), (hs.2.2.1.2.2.2.1.2.2.fr (hp_F12.2.2 6 (by omega)))⟩, ⟨by omega, ((hp_F12.2.2 7 (by omega)).trans hs.2.2.1.2.2.2.2.1.2.1), (hs.2.2.1.2.2.2.2.1.2.2.fr (hp_F12.2.2 8 (by omega)))⟩, ⟨by omega, ((hp_F12.2.2 9 (by omega)).trans hs.2.2.1.2.2.2.2.2.1.2.1), (hs.2.2.1.2.2.2.2.2.1.2.2.fr (hp_F12.2.2 10 (by omega)))⟩, ⟨by omega, ((hp_F12.2.2 11 (by omega)).trans hs.2.2.1.2.2.2.2.2.2.2.1), (hs.2.2.1.2.2.2.2.2.2.2.2.fr (hp_F12.2.2 12 (by omega)))⟩⟩, ⟨by omega, ((hp_F12.2.2 13 (by omega)).trans hs.2.2.2.1.2.1), ⟨by omega, ((hp_F12.2.2 14 (by omega)).trans hs.2.2.2.1.2.2.1.2.1), (hs.2.2.2.1.2.2.1.2.2.fr (hp_F12.2.2 15 (by omega)))⟩, ⟨by omega, ((hp_F12.2.2 16 (by omega)).trans hs.2.2.2.1.2.2.2.1.2.1), (hs.2.2.2.1.2.2.2.1.2.2.fr (hp_F12.2.2 17 (by omega)))⟩, (hs.2.2.2.1.2.2.2.2.1.fr (hp_F12.2.2 18 (by omega))), ⟨by omega, ((hp_F12.2.2 19 (by omega)).trans hs.2.2.2.1.2.2.2.2.2.2.1), (hs.2.2.2.1.2.2.2.2.2.2.2.fr (hp_F12.2.2 20 (by omega)))⟩⟩, ⟨by omega, ((hp_F12.2.2 21 (by omega)).trans hs.2.2.2.2.2.1), (hs.2.2.2.2.2.2.fr (hp_F12.2.2 22 (by omega)))⟩⟩, (fun i hi => hp_F12.2.2 i (by omega))⟩) dX7_letCome_164
                · refine lv_aload_n kx kb dX7_letCome_131 rfl (lv_at hl 2 rfl) ?_
                  refine lv_iconst (v := nI 1) kx kb dX7_letCome_132 (by decide) ?_
                  refine lv_aload kx kb dX7_letCome_133 (lv_at hl 1 rfl) ?_
                  refine w_get X M h 2 hs.2.2.1.2.1 (by omega) fl_X7_125 rfl dX7_letCome_135 ?_
                  refine w_callVi X M h [.int (nI 1), .int (nI x.1)] [] ((c_X7_refuse l g q ⟨by omega, hp.2⟩ (nI 1) (nI x.1))) lk_X7_295 hp.2 (by omega) rfl rfl ⟨by decide, by decide⟩ hl ⟨Nat.zero_le _, Nat.zero_le _⟩ (Nat.le_of_ble_eq_true rfl) rfl dX7_letCome_138 (fun r_F13 F13 H locs hp_F13 h => ?_)
                  refine w_top (y := (-5)) hp_F13.1 ?_
                  exact w_iret X h (by rw [show letComeF x q wl dp (nI ks) wt = _ from by rw [letComeF, if_pos c_1, if_pos c_2, if_pos c_3, cl_n (show ks < 2147483648 by omega), if_pos c_4, if_pos c_5, if_pos c_6, if_pos c_7, if_neg (by omega)]]; exact ⟨rfl, ⟨by omega, hp_F13.2.1.2⟩, ⟨by omega, ((hp_F13.2.2 1 (by omega)).trans hs.2.1), ⟨by omega, ((hp_F13.2.2 2 (by omega)).trans hs.2.2.1.2.1), ⟨by omega, ((hp_F13.2.2 3 (by omega)).trans hs.2.2.1.2.2.1.2.1), (hs.2.2.1.2.2.1.2.2.fr (hp_F13.2.2 4 (by omega)))⟩, ⟨by omega, ((hp_F13.2.2 5 (by omega)).trans hs.2.2.1.2.2.2.1.2.1), (hs.2.2.1.2.2.2.1.2.2.fr (hp_F13.2.2 6 (by omega)))⟩, ⟨by omega, ((hp_F13.2.2 7 (by omega)).trans hs.2.2.1.2.2.2.2.1.2.1), (hs.2.2.1.2.2.2.2.1.2.2.fr (hp_F13.2.2 8 (by omega)))⟩, ⟨by omega, ((hp_F13.2.2 9 (by omega)).trans hs.2.2.1.2.2.2.2.2.1.2.1), (hs.2.2.1.2.2.2.2.2.1.2.2.fr (hp_F13.2.2 10 (by omega)))⟩, ⟨by omega, ((hp_F13.2.2 11 (by omega)).trans hs.2.2.1.2.2.2.2.2.2.2.1), (hs.2.2.1.2.2.2.2.2.2.2.2.fr (hp_F13.2.2 12 (by omega)))⟩⟩, ⟨by omega, ((hp_F13.2.2 13 (by omega)).trans hs.2.2.2.1.2.1), ⟨by omega, ((hp_F13.2.2 14 (by omega)).trans hs.2.2.2.1.2.2.1.2.1), (hs.2.2.2.1.2.2.1.2.2.fr (hp_F13.2.2 15 (by omega)))⟩, ⟨by omega, ((hp_F13.2.2 16 (by omega)).trans hs.2.2.2.1.2.2.2.1.2.1), (hs.2.2.2.1.2.2.2.1.2.2.fr (hp_F13.2.2 17 (by omega)))⟩, (hs.2.2.2.1.2.2.2.2.1.fr (hp_F13.2.2 18 (by omega))), ⟨by omega, ((hp_F13.2.2 19 (by omega)).trans hs.2.2.2.1.2.2.2.2.2.2.1), (hs.2.2.2.1.2.2.2.2.2.2.2.fr (hp_F13.2.2 20 (by omega)))⟩⟩, ⟨by omega, ((hp_F13.2.2 21 (by omega)).trans hs.2.2.2.2.2.1), (hs.2.2.2.2.2.2.fr (hp_F13.2.2 22 (by omega)))⟩⟩, (fun i hi => hp_F13.2.2 i (by omega))⟩) dX7_letCome_141
              · refine lv_aload_n kx kb dX7_letCome_113 rfl (lv_at hl 2 rfl) ?_
                refine lv_iconst (v := nI 2) kx kb dX7_letCome_114 (by decide) ?_
                refine lv_iload kx kb dX7_letCome_115 (lv_at hl 0 rfl) ?_
                refine w_callVi X M h [.int (nI 2), .int (ixO (fun k => decide (x.2.1 0 k = wl ∧ x.2.1 1 k = dp)) x.1)] [] ((c_X7_refuse l g q ⟨by omega, hp.2⟩ (nI 2) (ixO (fun k => decide (x.2.1 0 k = wl ∧ x.2.1 1 k = dp)) x.1))) lk_X7_295 hp.2 (by omega) rfl rfl ⟨by decide, by decide⟩ hl ⟨Nat.zero_le _, Nat.zero_le _⟩ (Nat.le_of_ble_eq_true rfl) rfl dX7_letCome_117 (fun r_F14 F14 H locs hp_F14 h => ?_)
                refine w_top (y := (-5)) hp_F14.1 ?_
                exact w_iret X h (by rw [show letComeF x q wl dp (nI ks) wt = _ from by rw [letComeF, if_pos c_1, if_pos c_2, if_pos c_3, cl_n (show ks < 2147483648 by omega), if_pos c_4, if_pos c_5, if_pos c_6, if_neg c_7]]; exact ⟨rfl, ⟨by omega, hp_F14.2.1.2⟩, ⟨by omega, ((hp_F14.2.2 1 (by omega)).trans hs.2.1), ⟨by omega, ((hp_F14.2.2 2 (by omega)).trans hs.2.2.1.2.1), ⟨by omega, ((hp_F14.2.2 3 (by omega)).trans hs.2.2.1.2.2.1.2.1), (hs.2.2.1.2.2.1.2.2.fr (hp_F14.2.2 4 (by omega)))⟩, ⟨by omega, ((hp_F14.2.2 5 (by omega)).trans hs.2.2.1.2.2.2.1.2.1), (hs.2.2.1.2.2.2.1.2.2.fr (hp_F14.2.2 6 (by omega)))⟩, ⟨by omega, ((hp_F14.2.2 7 (by omega)).trans hs.2.2.1.2.2.2.2.1.2.1), (hs.2.2.1.2.2.2.2.1.2.2.fr (hp_F14.2.2 8 (by omega)))⟩, ⟨by omega, ((hp_F14.2.2 9 (by omega)).trans hs.2.2.1.2.2.2.2.2.1.2.1), (hs.2.2.1.2.2.2.2.2.1.2.2.fr (hp_F14.2.2 10 (by omega)))⟩, ⟨by omega, ((hp_F14.2.2 11 (by omega)).trans hs.2.2.1.2.2.2.2.2.2.2.1), (hs.2.2.1.2.2.2.2.2.2.2.2.fr (hp_F14.2.2 12 (by omega)))⟩⟩, ⟨by omega, ((hp_F14.2.2 13 (by omega)).trans hs.2.2.2.1.2.1), ⟨by omega, ((hp_F14.2.2 14 (by omega)).trans hs.2.2.2.1.2.2.1.2.1), (hs.2.2.2.1.2.2.1.2.2.fr (hp_F14.2.2 15 (by omega)))⟩, ⟨by omega, ((hp_F14.2.2 16 (by omega)).trans hs.2.2.2.1.2.2.2.1.2.1), (hs.2.2.2.1.2.2.2.1.2.2.fr (hp_F14.2.2 17 (by omega)))⟩, (hs.2.2.2.1.2.2.2.2.1.fr (hp_F14.2.2 18 (by omega))), ⟨by omega, ((hp_F14.2.2 19 (by omega)).trans hs.2.2.2.1.2.2.2.2.2.2.1), (hs.2.2.2.1.2.2.2.2.2.2.2.fr (hp_F14.2.2 20 (by omega)))⟩⟩, ⟨by omega, ((hp_F14.2.2 21 (by omega)).trans hs.2.2.2.2.2.1), (hs.2.2.2.2.2.2.fr (hp_F14.2.2 22 (by omega)))⟩⟩, (fun i hi => hp_F14.2.2 i (by omega))⟩) dX7_letCome_120
            · refine lv_aload_n kx kb dX7_letCome_90 rfl (lv_at hl 2 rfl) ?_
              refine lv_iconst (v := nI 4) kx kb dX7_letCome_91 (by decide) ?_
              refine lv_iload kx kb dX7_letCome_92 (lv_at hl 0 rfl) ?_
              refine w_callVi X M h [.int (nI 4), .int (ixO (fun k => decide (x.2.1 2 k = nI ks)) x.1)] [] ((c_X7_refuse l g q ⟨by omega, hp.2⟩ (nI 4) (ixO (fun k => decide (x.2.1 2 k = nI ks)) x.1))) lk_X7_295 hp.2 (by omega) rfl rfl ⟨by decide, by decide⟩ hl ⟨Nat.zero_le _, Nat.zero_le _⟩ (Nat.le_of_ble_eq_true rfl) rfl dX7_letCome_94 (fun r_F15 F15 H locs hp_F15 h => ?_)
              refine w_top (y := (-5)) hp_F15.1 ?_
              exact w_iret X h (by rw [show letComeF x q wl dp (nI ks) wt = _ from by rw [letComeF, if_pos c_1, if_pos c_2, if_pos c_3, cl_n (show ks < 2147483648 by omega), if_pos c_4, if_pos c_5, if_neg c_6]]; exact ⟨rfl, ⟨by omega, hp_F15.2.1.2⟩, ⟨by omega, ((hp_F15.2.2 1 (by omega)).trans hs.2.1), ⟨by omega, ((hp_F15.2.2 2 (by omega)).trans hs.2.2.1.2.1), ⟨by omega, ((hp_F15.2.2 3 (by omega)).trans hs.2.2.1.2.2.1.2.1), (hs.2.2.1.2.2.1.2.2.fr (hp_F15.2.2 4 (by omega)))⟩, ⟨by omega, ((hp_F15.2.2 5 (by omega)).trans hs.2.2.1.2.2.2.1.2.1), (hs.2.2.1.2.2.2.1.2.2.fr (hp_F15.2.2 6 (by omega)))⟩, ⟨by omega, ((hp_F15.2.2 7 (by omega)).trans hs.2.2.1.2.2.2.2.1.2.1), (hs.2.2.1.2.2.2.2.1.2.2.fr (hp_F15.2.2 8 (by omega)))⟩, ⟨by omega, ((hp_F15.2.2 9 (by omega)).trans hs.2.2.1.2.2.2.2.2.1.2.1), (hs.2.2.1.2.2.2.2.2.1.2.2.fr (hp_F15.2.2 10 (by omega)))⟩, ⟨by omega, ((hp_F15.2.2 11 (by omega)).trans hs.2.2.1.2.2.2.2.2.2.2.1), (hs.2.2.1.2.2.2.2.2.2.2.2.fr (hp_F15.2.2 12 (by omega)))⟩⟩, ⟨by omega, ((hp_F15.2.2 13 (by omega)).trans hs.2.2.2.1.2.1), ⟨by omega, ((hp_F15.2.2 14 (by omega)).trans hs.2.2.2.1.2.2.1.2.1), (hs.2.2.2.1.2.2.1.2.2.fr (hp_F15.2.2 15 (by omega)))⟩, ⟨by omega, ((hp_F15.2.2 16 (by omega)).trans hs.2.2.2.1.2.2.2.1.2.1), (hs.2.2.2.1.2.2.2.1.2.2.fr (hp_F15.2.2 17 (by omega)))⟩, (hs.2.2.2.1.2.2.2.2.1.fr (hp_F15.2.2 18 (by omega))), ⟨by omega, ((hp_F15.2.2 19 (by omega)).trans hs.2.2.2.1.2.2.2.2.2.2.1), (hs.2.2.2.1.2.2.2.2.2.2.2.fr (hp_F15.2.2 20 (by omega)))⟩⟩, ⟨by omega, ((hp_F15.2.2 21 (by omega)).trans hs.2.2.2.2.2.1), (hs.2.2.2.2.2.2.fr (hp_F15.2.2 22 (by omega)))⟩⟩, (fun i hi => hp_F15.2.2 i (by omega))⟩) dX7_letCome_97
          · refine lv_aload_n kx kb dX7_letCome_69 rfl (lv_at hl 1 rfl) ?_
            refine lv_iconst (v := nI 3) kx kb dX7_letCome_70 (by decide) ?_
            refine lv_iload_n kx kb dX7_letCome_71 rfl (lv_at hl 4 rfl) ?_
            refine w_callVi X M h [.int (nI 3), .int (nI ks)] [] ((c_X7_refuse l g q ⟨by omega, hp.2⟩ (nI 3) (nI ks))) lk_X7_295 hp.2 (by omega) rfl rfl ⟨by decide, by decide⟩ hl ⟨Nat.zero_le _, Nat.zero_le _⟩ (Nat.le_of_ble_eq_true rfl) rfl dX7_letCome_72 (fun r_F16 F16 H locs hp_F16 h => ?_)
            refine w_top (y := (-5)) hp_F16.1 ?_
            exact w_iret X h (by rw [show letComeF x q wl dp (nI ks) wt = _ from by rw [letComeF, if_pos c_1, if_pos c_2, if_pos c_3, cl_n (show ks < 2147483648 by omega), if_pos c_4, if_neg c_5]]; exact ⟨rfl, ⟨by omega, hp_F16.2.1.2⟩, ⟨by omega, ((hp_F16.2.2 1 (by omega)).trans hs.2.1), ⟨by omega, ((hp_F16.2.2 2 (by omega)).trans hs.2.2.1.2.1), ⟨by omega, ((hp_F16.2.2 3 (by omega)).trans hs.2.2.1.2.2.1.2.1), (hs.2.2.1.2.2.1.2.2.fr (hp_F16.2.2 4 (by omega)))⟩, ⟨by omega, ((hp_F16.2.2 5 (by omega)).trans hs.2.2.1.2.2.2.1.2.1), (hs.2.2.1.2.2.2.1.2.2.fr (hp_F16.2.2 6 (by omega)))⟩, ⟨by omega, ((hp_F16.2.2 7 (by omega)).trans hs.2.2.1.2.2.2.2.1.2.1), (hs.2.2.1.2.2.2.2.1.2.2.fr (hp_F16.2.2 8 (by omega)))⟩, ⟨by omega, ((hp_F16.2.2 9 (by omega)).trans hs.2.2.1.2.2.2.2.2.1.2.1), (hs.2.2.1.2.2.2.2.2.1.2.2.fr (hp_F16.2.2 10 (by omega)))⟩, ⟨by omega, ((hp_F16.2.2 11 (by omega)).trans hs.2.2.1.2.2.2.2.2.2.2.1), (hs.2.2.1.2.2.2.2.2.2.2.2.fr (hp_F16.2.2 12 (by omega)))⟩⟩, ⟨by omega, ((hp_F16.2.2 13 (by omega)).trans hs.2.2.2.1.2.1), ⟨by omega, ((hp_F16.2.2 14 (by omega)).trans hs.2.2.2.1.2.2.1.2.1), (hs.2.2.2.1.2.2.1.2.2.fr (hp_F16.2.2 15 (by omega)))⟩, ⟨by omega, ((hp_F16.2.2 16 (by omega)).trans hs.2.2.2.1.2.2.2.1.2.1), (hs.2.2.2.1.2.2.2.1.2.2.fr (hp_F16.2.2 17 (by omega)))⟩, (hs.2.2.2.1.2.2.2.2.1.fr (hp_F16.2.2 18 (by omega))), ⟨by omega, ((hp_F16.2.2 19 (by omega)).trans hs.2.2.2.1.2.2.2.2.2.2.1), (hs.2.2.2.1.2.2.2.2.2.2.2.fr (hp_F16.2.2 20 (by omega)))⟩⟩, ⟨by omega, ((hp_F16.2.2 21 (by omega)).trans hs.2.2.2.2.2.1), (hs.2.2.2.2.2.2.fr (hp_F16.2.2 22 (by omega)))⟩⟩, (fun i hi => hp_F16.2.2 i (by omega))⟩) dX7_letCome_75
        · refine lv_bipush (v := (-2)) kx kb dX7_letCome_40 (by decide) ?_
          exact w_iret X h (by rw [show letComeF x q wl dp (nI ks) wt = _ from by rw [letComeF, if_pos c_1, if_pos c_2, if_pos c_3, cl_n (show ks < 2147483648 by omega), if_neg c_4]]; exact ⟨rfl, ⟨by omega, hp.2⟩, ⟨by omega, hs.2.1, ⟨by omega, hs.2.2.1.2.1, ⟨by omega, hs.2.2.1.2.2.1.2.1, hs.2.2.1.2.2.1.2.2⟩, ⟨by omega, hs.2.2.1.2.2.2.1.2.1, hs.2.2.1.2.2.2.1.2.2⟩, ⟨by omega, hs.2.2.1.2.2.2.2.1.2.1, hs.2.2.1.2.2.2.2.1.2.2⟩, ⟨by omega, hs.2.2.1.2.2.2.2.2.1.2.1, hs.2.2.1.2.2.2.2.2.1.2.2⟩, ⟨by omega, hs.2.2.1.2.2.2.2.2.2.2.1, hs.2.2.1.2.2.2.2.2.2.2.2⟩⟩, ⟨by omega, hs.2.2.2.1.2.1, ⟨by omega, hs.2.2.2.1.2.2.1.2.1, hs.2.2.2.1.2.2.1.2.2⟩, ⟨by omega, hs.2.2.2.1.2.2.2.1.2.1, hs.2.2.2.1.2.2.2.1.2.2⟩, hs.2.2.2.1.2.2.2.2.1, ⟨by omega, hs.2.2.2.1.2.2.2.2.2.2.1, hs.2.2.2.1.2.2.2.2.2.2.2⟩⟩, ⟨by omega, hs.2.2.2.2.2.1, hs.2.2.2.2.2.2⟩⟩, (fun i hi => rfl)⟩) dX7_letCome_42
  · refine lv_iconst (v := (-1)) kx kb dX7_letCome_7 (by decide) ?_
    exact w_iret X h (by rw [show letComeF x q wl dp sg wt = _ from by rw [letComeF, if_neg c_1]]; exact ⟨rfl, ⟨by omega, hp.2⟩, ⟨by omega, hs.2.1, ⟨by omega, hs.2.2.1.2.1, ⟨by omega, hs.2.2.1.2.2.1.2.1, hs.2.2.1.2.2.1.2.2⟩, ⟨by omega, hs.2.2.1.2.2.2.1.2.1, hs.2.2.1.2.2.2.1.2.2⟩, ⟨by omega, hs.2.2.1.2.2.2.2.1.2.1, hs.2.2.1.2.2.2.2.1.2.2⟩, ⟨by omega, hs.2.2.1.2.2.2.2.2.1.2.1, hs.2.2.1.2.2.2.2.2.1.2.2⟩, ⟨by omega, hs.2.2.1.2.2.2.2.2.2.2.1, hs.2.2.1.2.2.2.2.2.2.2.2⟩⟩, ⟨by omega, hs.2.2.2.1.2.1, ⟨by omega, hs.2.2.2.1.2.2.1.2.1, hs.2.2.2.1.2.2.1.2.2⟩, ⟨by omega, hs.2.2.2.1.2.2.2.1.2.1, hs.2.2.2.1.2.2.2.1.2.2⟩, hs.2.2.2.1.2.2.2.2.1, ⟨by omega, hs.2.2.2.1.2.2.2.2.2.2.1, hs.2.2.2.1.2.2.2.2.2.2.2⟩⟩, ⟨by omega, hs.2.2.2.2.2.1, hs.2.2.2.2.2.2⟩⟩, (fun i hi => rfl)⟩) dX7_letCome_8
set_option maxRecDepth 20000 in
theorem c_X7_makePrimed (l : Launch) (g : gT) {N : Nat} {ad : Nat → Nat} {F : Nat → va_E} (x : SX) (q : Nat → Int32) (hp : oP0 g N ad F q) (hs : oSt g N ad F 1 x) (hn : x.1 ≤ 12) (htn : xtn x ≤ 64) (a : Int32) (hz4 : xz x 4 < 1000)  : CtI l yX7_makePrimed cX7_makePrimed 2 (some .int) 1 22 g N ad F [.ref (ad 0), .int a] (fun r F' => r = (primeF x q a).1 ∧ oP0 g N ad F' (primeF x q a).2.1 ∧ oSt g N ad F' 1 (primeF x q a).2.2 ∧ ∀ i, 22 < i → F' i = F i) := by
  refine CtI_of (by decide) (Nat.le_of_ble_eq_true rfl) ?_
  intro p e s m args below meth c A H ls X M h hl
  have kx := X.1.1
  have kb := X.1.2.1
  have hl : lv_has ls 2 [(0, .ref (ad 0)), (1, .int a)] := hl
  have hN0 := hp.1
  have htn2 : x.2.2.1 ≤ 64 := htn
  have z4 : x.2.2.2.2.2.2.2 4 < 1000 := hz4
  refine lv_aload_n kx kb dX7_makePrimed_0 rfl (lv_at hl 0 rfl) ?_
  refine w_get X M h 0 hp.2 (by omega) fl_X7_12 rfl dX7_makePrimed_1 ?_
  refine w_get X M h 1 hs.2.1 (by omega) fl_X7_121 rfl dX7_makePrimed_4 ?_
  refine lv_iload_n kx kb dX7_makePrimed_7 rfl (lv_at hl 1 rfl) ?_
  refine w_readVi X M h [.int a] [] ((c_X1_has l g 2 x.1 x.2.1 ⟨by omega, hs.2.2.1.2.1, ⟨by omega, hs.2.2.1.2.2.1.2.1, hs.2.2.1.2.2.1.2.2⟩, ⟨by omega, hs.2.2.1.2.2.2.1.2.1, hs.2.2.1.2.2.2.1.2.2⟩, ⟨by omega, hs.2.2.1.2.2.2.2.1.2.1, hs.2.2.1.2.2.2.2.1.2.2⟩, ⟨by omega, hs.2.2.1.2.2.2.2.2.1.2.1, hs.2.2.1.2.2.2.2.2.1.2.2⟩, ⟨by omega, hs.2.2.1.2.2.2.2.2.2.2.1, hs.2.2.1.2.2.2.2.2.2.2.2⟩⟩ (by omega) a)) lk_X7_131 hs.2.2.1.2.1 (by omega) rfl rfl ⟨by decide, by decide⟩ hl ⟨Nat.zero_le _, Nat.zero_le _⟩ (Nat.le_of_ble_eq_true rfl) rfl dX7_makePrimed_8 (fun H locs h => ?_)
  refine w_if_neb (tgt := 16) kx kb dX7_makePrimed_11 (by decide) (fun c_1 => ?_) (fun c_1 => ?_)
  · obtain ⟨k, hk, rfl⟩ := hasJ_of (by omega) c_1
    refine lv_aload_n kx kb dX7_makePrimed_16 rfl (lv_at hl 0 rfl) ?_
    refine w_get X M h 0 hp.2 (by omega) fl_X7_12 rfl dX7_makePrimed_17 ?_
    refine w_get X M h 1 hs.2.1 (by omega) fl_X7_121 rfl dX7_makePrimed_20 ?_
    refine w_get X M h 2 hs.2.2.1.2.1 (by omega) fl_X7_153 rfl dX7_makePrimed_23 ?_
    refine lv_iload_n kx kb dX7_makePrimed_26 rfl (lv_at hl 1 rfl) ?_
    refine w_readVi X M h [.int (nI k)] [] ((c_X3_at_n l g 11 12 (x.2.1 4) k ⟨by omega, hs.2.2.1.2.2.2.2.2.2.2.1, hs.2.2.1.2.2.2.2.2.2.2.2⟩ (by omega) (by omega))) lk_X7_139 hs.2.2.1.2.2.2.2.2.2.2.1 (by omega) rfl rfl ⟨by decide, by decide⟩ hl ⟨Nat.zero_le _, Nat.zero_le _⟩ (Nat.le_of_ble_eq_true rfl) rfl dX7_makePrimed_27 (fun H locs h => ?_)
    refine lv_if_eq (tgt := 40) kx kb dX7_makePrimed_30 (by decide) (fun c_2 => ?_) (fun c_2 => ?_)
    · refine lv_aload_n kx kb dX7_makePrimed_40 rfl (lv_at hl 0 rfl) ?_
      refine w_get X M h 0 hp.2 (by omega) fl_X7_12 rfl dX7_makePrimed_41 ?_
      refine w_get X M h 1 hs.2.1 (by omega) fl_X7_268 rfl dX7_makePrimed_44 ?_
      refine w_if_ne (tgt := 64) kx kb (by omega) dX7_makePrimed_47 (by decide) (fun c_3 => ?_) (fun c_3 => ?_)
      · refine lv_aload_n kx kb dX7_makePrimed_64 rfl (lv_at hl 0 rfl) ?_
        refine w_get X M h 0 hp.2 (by omega) fl_X7_12 rfl dX7_makePrimed_65 ?_
        refine w_get X M h 1 hs.2.1 (by omega) fl_X7_121 rfl dX7_makePrimed_68 ?_
        refine w_get X M h 2 hs.2.2.1.2.1 (by omega) fl_X7_153 rfl dX7_makePrimed_71 ?_
        refine lv_iload_n kx kb dX7_makePrimed_74 rfl (lv_at hl 1 rfl) ?_
        refine lv_iconst (v := nI 1) kx kb dX7_makePrimed_75 (by decide) ?_
        refine w_callVv X M h [.int (nI k), .int (nI 1)] [] ((c_X3_put l g 11 12 (x.2.1 4) k (nI 1) ⟨by omega, hs.2.2.1.2.2.2.2.2.2.2.1, hs.2.2.1.2.2.2.2.2.2.2.2⟩ (by omega) (by omega))) lk_X7_308 hs.2.2.1.2.2.2.2.2.2.2.1 (by omega) rfl rfl ⟨by decide, by decide⟩ hl ⟨Nat.zero_le _, Nat.zero_le _⟩ (Nat.le_of_ble_eq_true rfl) rfl dX7_makePrimed_76 (fun F4 H locs hp_F4 h => ?_)
        refine lv_aload_n kx kb dX7_makePrimed_79 rfl (lv_at hl 0 rfl) ?_
        refine w_get X M h 0 ((hp_F4.2 0 (by omega)).trans hp.2) (by omega) fl_X7_12 rfl dX7_makePrimed_80 ?_
        refine lv_dup kx kb dX7_makePrimed_83 rfl ?_
        refine w_get X M h 1 ((hp_F4.2 1 (by omega)).trans hs.2.1) (by omega) fl_X7_268 rfl dX7_makePrimed_84 ?_
        refine lv_iconst (v := nI 1) kx kb dX7_makePrimed_87 (by decide) ?_
        refine w_subn kx kb (by omega) dX7_makePrimed_88 ?_
        refine w_put X M h 1 ((hp_F4.2 1 (by omega)).trans hs.2.1) (by omega) fp_X7_268 (rfl) (by rfl) (Nat.le_of_ble_eq_true rfl) dX7_makePrimed_89 (fun F5 H locs h he_F5 hf_F5 => ?_)
        refine lv_aload_n kx kb dX7_makePrimed_92 rfl (lv_at hl 0 rfl) ?_
        refine w_get X M h 0 ((hf_F5 0 (by omega)).trans ((hp_F4.2 0 (by omega)).trans hp.2)) (by omega) fl_X7_12 rfl dX7_makePrimed_93 ?_
        refine w_get X M h 1 he_F5 (by omega) fl_X7_268 rfl dX7_makePrimed_96 ?_
        exact w_iret X h (by rw [show primeF x q (nI k) = _ from by rw [primeF, if_pos c_1, cl_n (show k < 2147483648 by omega), if_pos c_2, if_pos (by omega)]]; exact ⟨rfl, ⟨by omega, ((hf_F5 0 (by omega)).trans ((hp_F4.2 0 (by omega)).trans hp.2))⟩, ⟨by omega, he_F5, ⟨by omega, ((hf_F5 2 (by omega)).trans ((hp_F4.2 2 (by omega)).trans hs.2.2.1.2.1)), ⟨by omega, ((hf_F5 3 (by omega)).trans ((hp_F4.2 3 (by omega)).trans hs.2.2.1.2.2.1.2.1)), ((hs.2.2.1.2.2.1.2.2.fr (hp_F4.2 4 (by omega))).fr (hf_F5 4 (by omega)))⟩, ⟨by omega, ((hf_F5 5 (by omega)).trans ((hp_F4.2 5 (by omega)).trans hs.2.2.1.2.2.2.1.2.1)), ((hs.2.2.1.2.2.2.1.2.2.fr (hp_F4.2 6 (by omega))).fr (hf_F5 6 (by omega)))⟩, ⟨by omega, ((hf_F5 7 (by omega)).trans ((hp_F4.2 7 (by omega)).trans hs.2.2.1.2.2.2.2.1.2.1)), ((hs.2.2.1.2.2.2.2.1.2.2.fr (hp_F4.2 8 (by omega))).fr (hf_F5 8 (by omega)))⟩, ⟨by omega, ((hf_F5 9 (by omega)).trans ((hp_F4.2 9 (by omega)).trans hs.2.2.1.2.2.2.2.2.1.2.1)), ((hs.2.2.1.2.2.2.2.2.1.2.2.fr (hp_F4.2 10 (by omega))).fr (hf_F5 10 (by omega)))⟩, ⟨by omega, ((hf_F5 11 (by omega)).trans hp_F4.1.2.1), (hp_F4.1.2.2.fr (hf_F5 12 (by omega)))⟩⟩, ⟨by omega, ((hf_F5 13 (by omega)).trans ((hp_F4.2 13 (by omega)).trans hs.2.2.2.1.2.1)), ⟨by omega, ((hf_F5 14 (by omega)).trans ((hp_F4.2 14 (by omega)).trans hs.2.2.2.1.2.2.1.2.1)), ((hs.2.2.2.1.2.2.1.2.2.fr (hp_F4.2 15 (by omega))).fr (hf_F5 15 (by omega)))⟩, ⟨by omega, ((hf_F5 16 (by omega)).trans ((hp_F4.2 16 (by omega)).trans hs.2.2.2.1.2.2.2.1.2.1)), ((hs.2.2.2.1.2.2.2.1.2.2.fr (hp_F4.2 17 (by omega))).fr (hf_F5 17 (by omega)))⟩, ((hs.2.2.2.1.2.2.2.2.1.fr (hp_F4.2 18 (by omega))).fr (hf_F5 18 (by omega))), ⟨by omega, ((hf_F5 19 (by omega)).trans ((hp_F4.2 19 (by omega)).trans hs.2.2.2.1.2.2.2.2.2.2.1)), ((hs.2.2.2.1.2.2.2.2.2.2.2.fr (hp_F4.2 20 (by omega))).fr (hf_F5 20 (by omega)))⟩⟩, ⟨by omega, ((hf_F5 21 (by omega)).trans ((hp_F4.2 21 (by omega)).trans hs.2.2.2.2.2.1)), ((hs.2.2.2.2.2.2.fr (hp_F4.2 22 (by omega))).fr (hf_F5 22 (by omega)))⟩⟩, (fun i hi => (hf_F5 i (by omega)).trans (hp_F4.2 i (by omega)))⟩) dX7_makePrimed_99
      · refine lv_aload_n kx kb dX7_makePrimed_50 rfl (lv_at hl 0 rfl) ?_
        refine lv_bipush (v := nI 6) kx kb dX7_makePrimed_51 (by decide) ?_
        refine lv_aload_n kx kb dX7_makePrimed_53 rfl (lv_at hl 0 rfl) ?_
        refine w_get X M h 0 hp.2 (by omega) fl_X7_12 rfl dX7_makePrimed_54 ?_
        refine w_get X M h 1 hs.2.1 (by omega) fl_X7_235 rfl dX7_makePrimed_57 ?_
        refine w_callVi X M h [.int (nI 6), .int (nI (x.2.2.2.2.2.2.2 3))] [] ((c_X7_refuse l g q ⟨by omega, hp.2⟩ (nI 6) (nI (x.2.2.2.2.2.2.2 3)))) lk_X7_295 hp.2 (by omega) rfl rfl ⟨by decide, by decide⟩ hl ⟨Nat.zero_le _, Nat.zero_le _⟩ (Nat.le_of_ble_eq_true rfl) rfl dX7_makePrimed_60 (fun r_F6 F6 H locs hp_F6 h => ?_)
        refine w_top (y := (-5)) hp_F6.1 ?_
        exact w_iret X h (by rw [show primeF x q (nI k) = _ from by rw [primeF, if_pos c_1, cl_n (show k < 2147483648 by omega), if_pos c_2, if_neg (by omega)]]; exact ⟨rfl, ⟨by omega, hp_F6.2.1.2⟩, ⟨by omega, ((hp_F6.2.2 1 (by omega)).trans hs.2.1), ⟨by omega, ((hp_F6.2.2 2 (by omega)).trans hs.2.2.1.2.1), ⟨by omega, ((hp_F6.2.2 3 (by omega)).trans hs.2.2.1.2.2.1.2.1), (hs.2.2.1.2.2.1.2.2.fr (hp_F6.2.2 4 (by omega)))⟩, ⟨by omega, ((hp_F6.2.2 5 (by omega)).trans hs.2.2.1.2.2.2.1.2.1), (hs.2.2.1.2.2.2.1.2.2.fr (hp_F6.2.2 6 (by omega)))⟩, ⟨by omega, ((hp_F6.2.2 7 (by omega)).trans hs.2.2.1.2.2.2.2.1.2.1), (hs.2.2.1.2.2.2.2.1.2.2.fr (hp_F6.2.2 8 (by omega)))⟩, ⟨by omega, ((hp_F6.2.2 9 (by omega)).trans hs.2.2.1.2.2.2.2.2.1.2.1), (hs.2.2.1.2.2.2.2.2.1.2.2.fr (hp_F6.2.2 10 (by omega)))⟩, ⟨by omega, ((hp_F6.2.2 11 (by omega)).trans hs.2.2.1.2.2.2.2.2.2.2.1), (hs.2.2.1.2.2.2.2.2.2.2.2.fr (hp_F6.2.2 12 (by omega)))⟩⟩, ⟨by omega, ((hp_F6.2.2 13 (by omega)).trans hs.2.2.2.1.2.1), ⟨by omega, ((hp_F6.2.2 14 (by omega)).trans hs.2.2.2.1.2.2.1.2.1), (hs.2.2.2.1.2.2.1.2.2.fr (hp_F6.2.2 15 (by omega)))⟩, ⟨by omega, ((hp_F6.2.2 16 (by omega)).trans hs.2.2.2.1.2.2.2.1.2.1), (hs.2.2.2.1.2.2.2.1.2.2.fr (hp_F6.2.2 17 (by omega)))⟩, (hs.2.2.2.1.2.2.2.2.1.fr (hp_F6.2.2 18 (by omega))), ⟨by omega, ((hp_F6.2.2 19 (by omega)).trans hs.2.2.2.1.2.2.2.2.2.2.1), (hs.2.2.2.1.2.2.2.2.2.2.2.fr (hp_F6.2.2 20 (by omega)))⟩⟩, ⟨by omega, ((hp_F6.2.2 21 (by omega)).trans hs.2.2.2.2.2.1), (hs.2.2.2.2.2.2.fr (hp_F6.2.2 22 (by omega)))⟩⟩, (fun i hi => hp_F6.2.2 i (by omega))⟩) dX7_makePrimed_63
    · refine lv_aload_n kx kb dX7_makePrimed_33 rfl (lv_at hl 0 rfl) ?_
      refine lv_iconst (v := nI 5) kx kb dX7_makePrimed_34 (by decide) ?_
      refine lv_iload_n kx kb dX7_makePrimed_35 rfl (lv_at hl 1 rfl) ?_
      refine w_callVi X M h [.int (nI 5), .int (nI k)] [] ((c_X7_refuse l g q ⟨by omega, hp.2⟩ (nI 5) (nI k))) lk_X7_295 hp.2 (by omega) rfl rfl ⟨by decide, by decide⟩ hl ⟨Nat.zero_le _, Nat.zero_le _⟩ (Nat.le_of_ble_eq_true rfl) rfl dX7_makePrimed_36 (fun r_F7 F7 H locs hp_F7 h => ?_)
      refine w_top (y := (-5)) hp_F7.1 ?_
      exact w_iret X h (by rw [show primeF x q (nI k) = _ from by rw [primeF, if_pos c_1, cl_n (show k < 2147483648 by omega), if_neg c_2]]; exact ⟨rfl, ⟨by omega, hp_F7.2.1.2⟩, ⟨by omega, ((hp_F7.2.2 1 (by omega)).trans hs.2.1), ⟨by omega, ((hp_F7.2.2 2 (by omega)).trans hs.2.2.1.2.1), ⟨by omega, ((hp_F7.2.2 3 (by omega)).trans hs.2.2.1.2.2.1.2.1), (hs.2.2.1.2.2.1.2.2.fr (hp_F7.2.2 4 (by omega)))⟩, ⟨by omega, ((hp_F7.2.2 5 (by omega)).trans hs.2.2.1.2.2.2.1.2.1), (hs.2.2.1.2.2.2.1.2.2.fr (hp_F7.2.2 6 (by omega)))⟩, ⟨by omega, ((hp_F7.2.2 7 (by omega)).trans hs.2.2.1.2.2.2.2.1.2.1), (hs.2.2.1.2.2.2.2.1.2.2.fr (hp_F7.2.2 8 (by omega)))⟩, ⟨by omega, ((hp_F7.2.2 9 (by omega)).trans hs.2.2.1.2.2.2.2.2.1.2.1), (hs.2.2.1.2.2.2.2.2.1.2.2.fr (hp_F7.2.2 10 (by omega)))⟩, ⟨by omega, ((hp_F7.2.2 11 (by omega)).trans hs.2.2.1.2.2.2.2.2.2.2.1), (hs.2.2.1.2.2.2.2.2.2.2.2.fr (hp_F7.2.2 12 (by omega)))⟩⟩, ⟨by omega, ((hp_F7.2.2 13 (by omega)).trans hs.2.2.2.1.2.1), ⟨by omega, ((hp_F7.2.2 14 (by omega)).trans hs.2.2.2.1.2.2.1.2.1), (hs.2.2.2.1.2.2.1.2.2.fr (hp_F7.2.2 15 (by omega)))⟩, ⟨by omega, ((hp_F7.2.2 16 (by omega)).trans hs.2.2.2.1.2.2.2.1.2.1), (hs.2.2.2.1.2.2.2.1.2.2.fr (hp_F7.2.2 17 (by omega)))⟩, (hs.2.2.2.1.2.2.2.2.1.fr (hp_F7.2.2 18 (by omega))), ⟨by omega, ((hp_F7.2.2 19 (by omega)).trans hs.2.2.2.1.2.2.2.2.2.2.1), (hs.2.2.2.1.2.2.2.2.2.2.2.fr (hp_F7.2.2 20 (by omega)))⟩⟩, ⟨by omega, ((hp_F7.2.2 21 (by omega)).trans hs.2.2.2.2.2.1), (hs.2.2.2.2.2.2.fr (hp_F7.2.2 22 (by omega)))⟩⟩, (fun i hi => hp_F7.2.2 i (by omega))⟩) dX7_makePrimed_39
  · refine lv_iconst (v := (-1)) kx kb dX7_makePrimed_14 (by decide) ?_
    exact w_iret X h (by rw [show primeF x q a = _ from by rw [primeF, if_neg c_1]]; exact ⟨rfl, ⟨by omega, hp.2⟩, ⟨by omega, hs.2.1, ⟨by omega, hs.2.2.1.2.1, ⟨by omega, hs.2.2.1.2.2.1.2.1, hs.2.2.1.2.2.1.2.2⟩, ⟨by omega, hs.2.2.1.2.2.2.1.2.1, hs.2.2.1.2.2.2.1.2.2⟩, ⟨by omega, hs.2.2.1.2.2.2.2.1.2.1, hs.2.2.1.2.2.2.2.1.2.2⟩, ⟨by omega, hs.2.2.1.2.2.2.2.2.1.2.1, hs.2.2.1.2.2.2.2.2.1.2.2⟩, ⟨by omega, hs.2.2.1.2.2.2.2.2.2.2.1, hs.2.2.1.2.2.2.2.2.2.2.2⟩⟩, ⟨by omega, hs.2.2.2.1.2.1, ⟨by omega, hs.2.2.2.1.2.2.1.2.1, hs.2.2.2.1.2.2.1.2.2⟩, ⟨by omega, hs.2.2.2.1.2.2.2.1.2.1, hs.2.2.2.1.2.2.2.1.2.2⟩, hs.2.2.2.1.2.2.2.2.1, ⟨by omega, hs.2.2.2.1.2.2.2.2.2.2.1, hs.2.2.2.1.2.2.2.2.2.2.2⟩⟩, ⟨by omega, hs.2.2.2.2.2.1, hs.2.2.2.2.2.2⟩⟩, (fun i hi => rfl)⟩) dX7_makePrimed_15
set_option maxRecDepth 20000 in
theorem c_X7_letGo (l : Launch) (g : gT) {N : Nat} {ad : Nat → Nat} {F : Nat → va_E} (x : SX) (q : Nat → Int32) (hp : oP0 g N ad F q) (hs : oSt g N ad F 1 x) (hn : x.1 ≤ 12) (htn : xtn x ≤ 64) (a : Int32)  : CtI l yX7_letGo cX7_letGo 2 (some .int) 2 43 g N ad F [.ref (ad 0), .int a] (fun r F' => r = (letGoF x q a).1 ∧ oP0 g N ad F' (letGoF x q a).2.1 ∧ oSt g N ad F' 1 (letGoF x q a).2.2 ∧ ∀ i, 22 < i → F' i = F i) := by
  refine CtI_of (by decide) (Nat.le_of_ble_eq_true rfl) ?_
  intro p e s m args below meth c A H ls X M h hl
  have kx := X.1.1
  have kb := X.1.2.1
  have hl : lv_has ls 2 [(0, .ref (ad 0)), (1, .int a)] := hl
  have hN0 := hp.1
  have htn2 : x.2.2.1 ≤ 64 := htn
  refine lv_aload_n kx kb dX7_letGo_0 rfl (lv_at hl 0 rfl) ?_
  refine w_get X M h 0 hp.2 (by omega) fl_X7_12 rfl dX7_letGo_1 ?_
  refine w_get X M h 1 hs.2.1 (by omega) fl_X7_121 rfl dX7_letGo_4 ?_
  refine lv_iload_n kx kb dX7_letGo_7 rfl (lv_at hl 1 rfl) ?_
  refine w_readVi X M h [.int a] [] ((c_X1_has l g 2 x.1 x.2.1 ⟨by omega, hs.2.2.1.2.1, ⟨by omega, hs.2.2.1.2.2.1.2.1, hs.2.2.1.2.2.1.2.2⟩, ⟨by omega, hs.2.2.1.2.2.2.1.2.1, hs.2.2.1.2.2.2.1.2.2⟩, ⟨by omega, hs.2.2.1.2.2.2.2.1.2.1, hs.2.2.1.2.2.2.2.1.2.2⟩, ⟨by omega, hs.2.2.1.2.2.2.2.2.1.2.1, hs.2.2.1.2.2.2.2.2.1.2.2⟩, ⟨by omega, hs.2.2.1.2.2.2.2.2.2.2.1, hs.2.2.1.2.2.2.2.2.2.2.2⟩⟩ (by omega) a)) lk_X7_131 hs.2.2.1.2.1 (by omega) rfl rfl ⟨by decide, by decide⟩ hl ⟨Nat.zero_le _, Nat.zero_le _⟩ (Nat.le_of_ble_eq_true rfl) rfl dX7_letGo_8 (fun H locs h => ?_)
  refine w_if_neb (tgt := 16) kx kb dX7_letGo_11 (by decide) (fun c_1 => ?_) (fun c_1 => ?_)
  · obtain ⟨k, hk, rfl⟩ := hasJ_of (by omega) c_1
    refine lv_aload_n kx kb dX7_letGo_16 rfl (lv_at hl 0 rfl) ?_
    refine w_get X M h 0 hp.2 (by omega) fl_X7_12 rfl dX7_letGo_17 ?_
    refine w_get X M h 1 hs.2.1 (by omega) fl_X7_121 rfl dX7_letGo_20 ?_
    refine lv_iload_n kx kb dX7_letGo_23 rfl (lv_at hl 1 rfl) ?_
    refine w_callVv X M h [.int (nI k)] [] ((c_X1_remove l g 2 x.1 x.2.1 ⟨by omega, hs.2.2.1.2.1, ⟨by omega, hs.2.2.1.2.2.1.2.1, hs.2.2.1.2.2.1.2.2⟩, ⟨by omega, hs.2.2.1.2.2.2.1.2.1, hs.2.2.1.2.2.2.1.2.2⟩, ⟨by omega, hs.2.2.1.2.2.2.2.1.2.1, hs.2.2.1.2.2.2.2.1.2.2⟩, ⟨by omega, hs.2.2.1.2.2.2.2.2.1.2.1, hs.2.2.1.2.2.2.2.2.1.2.2⟩, ⟨by omega, hs.2.2.1.2.2.2.2.2.2.2.1, hs.2.2.1.2.2.2.2.2.2.2.2⟩⟩ (by omega) k (by omega))) lk_X7_312 hs.2.2.1.2.1 (by omega) rfl rfl ⟨by decide, by decide⟩ hl ⟨Nat.zero_le _, Nat.zero_le _⟩ (Nat.le_of_ble_eq_true rfl) rfl dX7_letGo_24 (fun F2 H locs hp_F2 h => ?_)
    refine lv_aload_n kx kb dX7_letGo_27 rfl (lv_at hl 0 rfl) ?_
    refine w_get X M h 0 ((hp_F2.2 0 (by omega)).trans hp.2) (by omega) fl_X7_12 rfl dX7_letGo_28 ?_
    refine lv_dup kx kb dX7_letGo_31 rfl ?_
    refine w_get X M h 1 ((hp_F2.2 1 (by omega)).trans hs.2.1) (by omega) fl_X7_255 rfl dX7_letGo_32 ?_
    refine lv_iconst (v := nI 1) kx kb dX7_letGo_35 (by decide) ?_
    refine w_addn kx kb dX7_letGo_36 ?_
    refine w_put X M h 1 ((hp_F2.2 1 (by omega)).trans hs.2.1) (by omega) fp_X7_255 (rfl) (by rfl) (Nat.le_of_ble_eq_true rfl) dX7_letGo_37 (fun F3 H locs h he_F3 hf_F3 => ?_)
    refine lv_aload_n kx kb dX7_letGo_40 rfl (lv_at hl 0 rfl) ?_
    refine w_get X M h 0 ((hf_F3 0 (by omega)).trans ((hp_F2.2 0 (by omega)).trans hp.2)) (by omega) fl_X7_12 rfl dX7_letGo_41 ?_
    refine w_get X M h 1 he_F3 (by omega) fl_X7_121 rfl dX7_letGo_44 ?_
    refine w_get X M h 2 ((hf_F3 2 (by omega)).trans hp_F2.1.2.1) (by omega) fl_X7_125 rfl dX7_letGo_47 ?_
    exact w_iret X h (by rw [show letGoF x q (nI k) = _ from by rw [letGoF, if_pos c_1, cl_n (show k < 2147483648 by omega)]]; exact ⟨rfl, ⟨by omega, ((hf_F3 0 (by omega)).trans ((hp_F2.2 0 (by omega)).trans hp.2))⟩, ⟨by omega, he_F3, ⟨by omega, ((hf_F3 2 (by omega)).trans hp_F2.1.2.1), ⟨by omega, ((hf_F3 3 (by omega)).trans hp_F2.1.2.2.1.2.1), (hp_F2.1.2.2.1.2.2.fr (hf_F3 4 (by omega)))⟩, ⟨by omega, ((hf_F3 5 (by omega)).trans hp_F2.1.2.2.2.1.2.1), (hp_F2.1.2.2.2.1.2.2.fr (hf_F3 6 (by omega)))⟩, ⟨by omega, ((hf_F3 7 (by omega)).trans hp_F2.1.2.2.2.2.1.2.1), (hp_F2.1.2.2.2.2.1.2.2.fr (hf_F3 8 (by omega)))⟩, ⟨by omega, ((hf_F3 9 (by omega)).trans hp_F2.1.2.2.2.2.2.1.2.1), (hp_F2.1.2.2.2.2.2.1.2.2.fr (hf_F3 10 (by omega)))⟩, ⟨by omega, ((hf_F3 11 (by omega)).trans hp_F2.1.2.2.2.2.2.2.2.1), (hp_F2.1.2.2.2.2.2.2.2.2.fr (hf_F3 12 (by omega)))⟩⟩, ⟨by omega, ((hf_F3 13 (by omega)).trans ((hp_F2.2 13 (by omega)).trans hs.2.2.2.1.2.1)), ⟨by omega, ((hf_F3 14 (by omega)).trans ((hp_F2.2 14 (by omega)).trans hs.2.2.2.1.2.2.1.2.1)), ((hs.2.2.2.1.2.2.1.2.2.fr (hp_F2.2 15 (by omega))).fr (hf_F3 15 (by omega)))⟩, ⟨by omega, ((hf_F3 16 (by omega)).trans ((hp_F2.2 16 (by omega)).trans hs.2.2.2.1.2.2.2.1.2.1)), ((hs.2.2.2.1.2.2.2.1.2.2.fr (hp_F2.2 17 (by omega))).fr (hf_F3 17 (by omega)))⟩, ((hs.2.2.2.1.2.2.2.2.1.fr (hp_F2.2 18 (by omega))).fr (hf_F3 18 (by omega))), ⟨by omega, ((hf_F3 19 (by omega)).trans ((hp_F2.2 19 (by omega)).trans hs.2.2.2.1.2.2.2.2.2.2.1)), ((hs.2.2.2.1.2.2.2.2.2.2.2.fr (hp_F2.2 20 (by omega))).fr (hf_F3 20 (by omega)))⟩⟩, ⟨by omega, ((hf_F3 21 (by omega)).trans ((hp_F2.2 21 (by omega)).trans hs.2.2.2.2.2.1)), ((hs.2.2.2.2.2.2.fr (hp_F2.2 22 (by omega))).fr (hf_F3 22 (by omega)))⟩⟩, (fun i hi => (hf_F3 i (by omega)).trans (hp_F2.2 i (by omega)))⟩) dX7_letGo_50
  · refine lv_iconst (v := (-1)) kx kb dX7_letGo_14 (by decide) ?_
    exact w_iret X h (by rw [show letGoF x q a = _ from by rw [letGoF, if_neg c_1]]; exact ⟨rfl, ⟨by omega, hp.2⟩, ⟨by omega, hs.2.1, ⟨by omega, hs.2.2.1.2.1, ⟨by omega, hs.2.2.1.2.2.1.2.1, hs.2.2.1.2.2.1.2.2⟩, ⟨by omega, hs.2.2.1.2.2.2.1.2.1, hs.2.2.1.2.2.2.1.2.2⟩, ⟨by omega, hs.2.2.1.2.2.2.2.1.2.1, hs.2.2.1.2.2.2.2.1.2.2⟩, ⟨by omega, hs.2.2.1.2.2.2.2.2.1.2.1, hs.2.2.1.2.2.2.2.2.1.2.2⟩, ⟨by omega, hs.2.2.1.2.2.2.2.2.2.2.1, hs.2.2.1.2.2.2.2.2.2.2.2⟩⟩, ⟨by omega, hs.2.2.2.1.2.1, ⟨by omega, hs.2.2.2.1.2.2.1.2.1, hs.2.2.2.1.2.2.1.2.2⟩, ⟨by omega, hs.2.2.2.1.2.2.2.1.2.1, hs.2.2.2.1.2.2.2.1.2.2⟩, hs.2.2.2.1.2.2.2.2.1, ⟨by omega, hs.2.2.2.1.2.2.2.2.2.2.1, hs.2.2.2.1.2.2.2.2.2.2.2⟩⟩, ⟨by omega, hs.2.2.2.2.2.1, hs.2.2.2.2.2.2⟩⟩, (fun i hi => rfl)⟩) dX7_letGo_15
set_option maxRecDepth 20000 in
theorem c_X7_drainGroans (l : Launch) (g : gT) {N : Nat} {ad : Nat → Nat} {F : Nat → va_E} (x : SX) (q : Nat → Int32) (hp : oP0 g N ad F q) (hs : oSt g N ad F 1 x) (hn : x.1 ≤ 12) (htn : xtn x ≤ 64) (a : Int32) (hz3 : xz x 3 < 1000) (hz4 : xz x 4 < 1000)  : CtI l yX7_drainGroans cX7_drainGroans 2 (some .int) 1 22 g N ad F [.ref (ad 0), .int a] (fun r F' => r = (drainF x q a).1 ∧ oP0 g N ad F' (drainF x q a).2.1 ∧ oSt g N ad F' 1 (drainF x q a).2.2 ∧ ∀ i, 22 < i → F' i = F i) := by
  refine CtI_of (by decide) (Nat.le_of_ble_eq_true rfl) ?_
  intro p e s m args below meth c A H ls X M h hl
  have kx := X.1.1
  have kb := X.1.2.1
  have hl : lv_has ls 2 [(0, .ref (ad 0)), (1, .int a)] := hl
  have hN0 := hp.1
  have htn2 : x.2.2.1 ≤ 64 := htn
  have z4 : x.2.2.2.2.2.2.2 4 < 1000 := hz4
  have z3 : x.2.2.2.2.2.2.2 3 < 1000 := hz3
  refine lv_iload_n kx kb dX7_drainGroans_0 rfl (lv_at hl 1 rfl) ?_
  refine lv_iconst (v := nI 1) kx kb dX7_drainGroans_1 (by decide) ?_
  refine lv_bipush (v := nI 50) kx kb dX7_drainGroans_2 (by decide) ?_
  refine w_readSi X M h [.int a, .int (nI 1), .int (nI 50)] [] ((c_X7_isWithin l g a (nI 1) (nI 50))) lk_X7_180 rfl ⟨by decide, by decide⟩ hl ⟨Nat.zero_le _, Nat.zero_le _⟩ (Nat.le_of_ble_eq_true rfl) rfl dX7_drainGroans_4 (fun H locs h => ?_)
  refine w_if_neb (tgt := 13) kx kb dX7_drainGroans_7 (by decide) (fun c_1 => ?_) (fun c_1 => ?_)
  · obtain ⟨k, hk0, hk, rfl⟩ := inW_of (by decide) (by decide) c_1
    refine lv_aload_n kx kb dX7_drainGroans_13 rfl (lv_at hl 0 rfl) ?_
    refine w_get X M h 0 hp.2 (by omega) fl_X7_12 rfl dX7_drainGroans_14 ?_
    refine w_get X M h 1 hs.2.1 (by omega) fl_X7_235 rfl dX7_drainGroans_17 ?_
    refine lv_iload_n kx kb dX7_drainGroans_20 rfl (lv_at hl 1 rfl) ?_
    refine w_cmp_ge (tgt := 38) kx kb (by omega) (by omega) dX7_drainGroans_21 (by decide) (fun c_2 => ?_) (fun c_2 => ?_)
    · refine lv_aload_n kx kb dX7_drainGroans_38 rfl (lv_at hl 0 rfl) ?_
      refine w_get X M h 0 hp.2 (by omega) fl_X7_12 rfl dX7_drainGroans_39 ?_
      refine lv_dup kx kb dX7_drainGroans_42 rfl ?_
      refine w_get X M h 1 hs.2.1 (by omega) fl_X7_235 rfl dX7_drainGroans_43 ?_
      refine lv_iload_n kx kb dX7_drainGroans_46 rfl (lv_at hl 1 rfl) ?_
      refine w_subn kx kb (by omega) dX7_drainGroans_47 ?_
      refine w_put X M h 1 hs.2.1 (by omega) fp_X7_235 (rfl) (by rfl) (Nat.le_of_ble_eq_true rfl) dX7_drainGroans_48 (fun F3 H locs h he_F3 hf_F3 => ?_)
      refine lv_aload_n kx kb dX7_drainGroans_51 rfl (lv_at hl 0 rfl) ?_
      refine w_get X M h 0 ((hf_F3 0 (by omega)).trans hp.2) (by omega) fl_X7_12 rfl dX7_drainGroans_52 ?_
      refine lv_dup kx kb dX7_drainGroans_55 rfl ?_
      refine w_get X M h 1 he_F3 (by omega) fl_X7_274 rfl dX7_drainGroans_56 ?_
      refine lv_iload_n kx kb dX7_drainGroans_59 rfl (lv_at hl 1 rfl) ?_
      refine w_addn kx kb dX7_drainGroans_60 ?_
      refine w_put X M h 1 he_F3 (by omega) fp_X7_274 (rfl) (by rfl) (Nat.le_of_ble_eq_true rfl) dX7_drainGroans_61 (fun F4 H locs h he_F4 hf_F4 => ?_)
      refine lv_aload_n kx kb dX7_drainGroans_64 rfl (lv_at hl 0 rfl) ?_
      refine w_get X M h 0 ((hf_F4 0 (by omega)).trans ((hf_F3 0 (by omega)).trans hp.2)) (by omega) fl_X7_12 rfl dX7_drainGroans_65 ?_
      refine lv_bipush (v := nI 9) kx kb dX7_drainGroans_68 (by decide) ?_
      refine lv_aload_n kx kb dX7_drainGroans_70 rfl (lv_at hl 0 rfl) ?_
      refine w_get X M h 0 ((hf_F4 0 (by omega)).trans ((hf_F3 0 (by omega)).trans hp.2)) (by omega) fl_X7_12 rfl dX7_drainGroans_71 ?_
      refine w_get X M h 1 he_F4 (by omega) fl_X7_268 rfl dX7_drainGroans_74 ?_
      refine lv_iload_n kx kb dX7_drainGroans_77 rfl (lv_at hl 1 rfl) ?_
      refine lv_bipush (v := nI 10) kx kb dX7_drainGroans_78 (by decide) ?_
      refine w_divn kx kb (by omega) (by omega) (by omega) dX7_drainGroans_80 ?_
      refine w_addn kx kb dX7_drainGroans_81 ?_
      refine w_mminn X hl q2_239 (by omega) (by omega) ⟨by decide, by decide⟩ (Nat.le_of_ble_eq_true rfl) ⟨Nat.zero_le _, Nat.zero_le _⟩ dX7_drainGroans_82 ?_
      refine w_put X M h 1 he_F4 (by omega) fp_X7_268 (rfl) (by rfl) (Nat.le_of_ble_eq_true rfl) dX7_drainGroans_85 (fun F5 H locs h he_F5 hf_F5 => ?_)
      refine lv_aload_n kx kb dX7_drainGroans_88 rfl (lv_at hl 0 rfl) ?_
      refine w_get X M h 0 ((hf_F5 0 (by omega)).trans ((hf_F4 0 (by omega)).trans ((hf_F3 0 (by omega)).trans hp.2))) (by omega) fl_X7_12 rfl dX7_drainGroans_89 ?_
      refine w_get X M h 1 he_F5 (by omega) fl_X7_268 rfl dX7_drainGroans_92 ?_
      exact w_iret X h (by rw [show drainF x q (nI k) = _ from by rw [drainF, if_pos c_1, cl_n (show k < 2147483648 by omega), if_pos (by omega)]]; exact ⟨rfl, ⟨by omega, ((hf_F5 0 (by omega)).trans ((hf_F4 0 (by omega)).trans ((hf_F3 0 (by omega)).trans hp.2)))⟩, ⟨by omega, he_F5, ⟨by omega, ((hf_F5 2 (by omega)).trans ((hf_F4 2 (by omega)).trans ((hf_F3 2 (by omega)).trans hs.2.2.1.2.1))), ⟨by omega, ((hf_F5 3 (by omega)).trans ((hf_F4 3 (by omega)).trans ((hf_F3 3 (by omega)).trans hs.2.2.1.2.2.1.2.1))), (((hs.2.2.1.2.2.1.2.2.fr (hf_F3 4 (by omega))).fr (hf_F4 4 (by omega))).fr (hf_F5 4 (by omega)))⟩, ⟨by omega, ((hf_F5 5 (by omega)).trans ((hf_F4 5 (by omega)).trans ((hf_F3 5 (by omega)).trans hs.2.2.1.2.2.2.1.2.1))), (((hs.2.2.1.2.2.2.1.2.2.fr (hf_F3 6 (by omega))).fr (hf_F4 6 (by omega))).fr (hf_F5 6 (by omega)))⟩, ⟨by omega, ((hf_F5 7 (by omega)).trans ((hf_F4 7 (by omega)).trans ((hf_F3 7 (by omega)).trans hs.2.2.1.2.2.2.2.1.2.1))), (((hs.2.2.1.2.2.2.2.1.2.2.fr (hf_F3 8 (by omega))).fr (hf_F4 8 (by omega))).fr (hf_F5 8 (by omega)))⟩, ⟨by omega, ((hf_F5 9 (by omega)).trans ((hf_F4 9 (by omega)).trans ((hf_F3 9 (by omega)).trans hs.2.2.1.2.2.2.2.2.1.2.1))), (((hs.2.2.1.2.2.2.2.2.1.2.2.fr (hf_F3 10 (by omega))).fr (hf_F4 10 (by omega))).fr (hf_F5 10 (by omega)))⟩, ⟨by omega, ((hf_F5 11 (by omega)).trans ((hf_F4 11 (by omega)).trans ((hf_F3 11 (by omega)).trans hs.2.2.1.2.2.2.2.2.2.2.1))), (((hs.2.2.1.2.2.2.2.2.2.2.2.fr (hf_F3 12 (by omega))).fr (hf_F4 12 (by omega))).fr (hf_F5 12 (by omega)))⟩⟩, ⟨by omega, ((hf_F5 13 (by omega)).trans ((hf_F4 13 (by omega)).trans ((hf_F3 13 (by omega)).trans hs.2.2.2.1.2.1))), ⟨by omega, ((hf_F5 14 (by omega)).trans ((hf_F4 14 (by omega)).trans ((hf_F3 14 (by omega)).trans hs.2.2.2.1.2.2.1.2.1))), (((hs.2.2.2.1.2.2.1.2.2.fr (hf_F3 15 (by omega))).fr (hf_F4 15 (by omega))).fr (hf_F5 15 (by omega)))⟩, ⟨by omega, ((hf_F5 16 (by omega)).trans ((hf_F4 16 (by omega)).trans ((hf_F3 16 (by omega)).trans hs.2.2.2.1.2.2.2.1.2.1))), (((hs.2.2.2.1.2.2.2.1.2.2.fr (hf_F3 17 (by omega))).fr (hf_F4 17 (by omega))).fr (hf_F5 17 (by omega)))⟩, (((hs.2.2.2.1.2.2.2.2.1.fr (hf_F3 18 (by omega))).fr (hf_F4 18 (by omega))).fr (hf_F5 18 (by omega))), ⟨by omega, ((hf_F5 19 (by omega)).trans ((hf_F4 19 (by omega)).trans ((hf_F3 19 (by omega)).trans hs.2.2.2.1.2.2.2.2.2.2.1))), (((hs.2.2.2.1.2.2.2.2.2.2.2.fr (hf_F3 20 (by omega))).fr (hf_F4 20 (by omega))).fr (hf_F5 20 (by omega)))⟩⟩, ⟨by omega, ((hf_F5 21 (by omega)).trans ((hf_F4 21 (by omega)).trans ((hf_F3 21 (by omega)).trans hs.2.2.2.2.2.1))), (((hs.2.2.2.2.2.2.fr (hf_F3 22 (by omega))).fr (hf_F4 22 (by omega))).fr (hf_F5 22 (by omega)))⟩⟩, (fun i hi => (hf_F5 i (by omega)).trans ((hf_F4 i (by omega)).trans (hf_F3 i (by omega))))⟩) dX7_drainGroans_95
    · refine lv_aload_n kx kb dX7_drainGroans_24 rfl (lv_at hl 0 rfl) ?_
      refine lv_bipush (v := nI 7) kx kb dX7_drainGroans_25 (by decide) ?_
      refine lv_aload_n kx kb dX7_drainGroans_27 rfl (lv_at hl 0 rfl) ?_
      refine w_get X M h 0 hp.2 (by omega) fl_X7_12 rfl dX7_drainGroans_28 ?_
      refine w_get X M h 1 hs.2.1 (by omega) fl_X7_235 rfl dX7_drainGroans_31 ?_
      refine w_callVi X M h [.int (nI 7), .int (nI (x.2.2.2.2.2.2.2 3))] [] ((c_X7_refuse l g q ⟨by omega, hp.2⟩ (nI 7) (nI (x.2.2.2.2.2.2.2 3)))) lk_X7_295 hp.2 (by omega) rfl rfl ⟨by decide, by decide⟩ hl ⟨Nat.zero_le _, Nat.zero_le _⟩ (Nat.le_of_ble_eq_true rfl) rfl dX7_drainGroans_34 (fun r_F6 F6 H locs hp_F6 h => ?_)
      refine w_top (y := (-5)) hp_F6.1 ?_
      exact w_iret X h (by rw [show drainF x q (nI k) = _ from by rw [drainF, if_pos c_1, cl_n (show k < 2147483648 by omega), if_neg (by omega)]]; exact ⟨rfl, ⟨by omega, hp_F6.2.1.2⟩, ⟨by omega, ((hp_F6.2.2 1 (by omega)).trans hs.2.1), ⟨by omega, ((hp_F6.2.2 2 (by omega)).trans hs.2.2.1.2.1), ⟨by omega, ((hp_F6.2.2 3 (by omega)).trans hs.2.2.1.2.2.1.2.1), (hs.2.2.1.2.2.1.2.2.fr (hp_F6.2.2 4 (by omega)))⟩, ⟨by omega, ((hp_F6.2.2 5 (by omega)).trans hs.2.2.1.2.2.2.1.2.1), (hs.2.2.1.2.2.2.1.2.2.fr (hp_F6.2.2 6 (by omega)))⟩, ⟨by omega, ((hp_F6.2.2 7 (by omega)).trans hs.2.2.1.2.2.2.2.1.2.1), (hs.2.2.1.2.2.2.2.1.2.2.fr (hp_F6.2.2 8 (by omega)))⟩, ⟨by omega, ((hp_F6.2.2 9 (by omega)).trans hs.2.2.1.2.2.2.2.2.1.2.1), (hs.2.2.1.2.2.2.2.2.1.2.2.fr (hp_F6.2.2 10 (by omega)))⟩, ⟨by omega, ((hp_F6.2.2 11 (by omega)).trans hs.2.2.1.2.2.2.2.2.2.2.1), (hs.2.2.1.2.2.2.2.2.2.2.2.fr (hp_F6.2.2 12 (by omega)))⟩⟩, ⟨by omega, ((hp_F6.2.2 13 (by omega)).trans hs.2.2.2.1.2.1), ⟨by omega, ((hp_F6.2.2 14 (by omega)).trans hs.2.2.2.1.2.2.1.2.1), (hs.2.2.2.1.2.2.1.2.2.fr (hp_F6.2.2 15 (by omega)))⟩, ⟨by omega, ((hp_F6.2.2 16 (by omega)).trans hs.2.2.2.1.2.2.2.1.2.1), (hs.2.2.2.1.2.2.2.1.2.2.fr (hp_F6.2.2 17 (by omega)))⟩, (hs.2.2.2.1.2.2.2.2.1.fr (hp_F6.2.2 18 (by omega))), ⟨by omega, ((hp_F6.2.2 19 (by omega)).trans hs.2.2.2.1.2.2.2.2.2.2.1), (hs.2.2.2.1.2.2.2.2.2.2.2.fr (hp_F6.2.2 20 (by omega)))⟩⟩, ⟨by omega, ((hp_F6.2.2 21 (by omega)).trans hs.2.2.2.2.2.1), (hs.2.2.2.2.2.2.fr (hp_F6.2.2 22 (by omega)))⟩⟩, (fun i hi => hp_F6.2.2 i (by omega))⟩) dX7_drainGroans_37
  · refine lv_bipush (v := (-2)) kx kb dX7_drainGroans_10 (by decide) ?_
    exact w_iret X h (by rw [show drainF x q a = _ from by rw [drainF, if_neg c_1]]; exact ⟨rfl, ⟨by omega, hp.2⟩, ⟨by omega, hs.2.1, ⟨by omega, hs.2.2.1.2.1, ⟨by omega, hs.2.2.1.2.2.1.2.1, hs.2.2.1.2.2.1.2.2⟩, ⟨by omega, hs.2.2.1.2.2.2.1.2.1, hs.2.2.1.2.2.2.1.2.2⟩, ⟨by omega, hs.2.2.1.2.2.2.2.1.2.1, hs.2.2.1.2.2.2.2.1.2.2⟩, ⟨by omega, hs.2.2.1.2.2.2.2.2.1.2.1, hs.2.2.1.2.2.2.2.2.1.2.2⟩, ⟨by omega, hs.2.2.1.2.2.2.2.2.2.2.1, hs.2.2.1.2.2.2.2.2.2.2.2⟩⟩, ⟨by omega, hs.2.2.2.1.2.1, ⟨by omega, hs.2.2.2.1.2.2.1.2.1, hs.2.2.2.1.2.2.1.2.2⟩, ⟨by omega, hs.2.2.2.1.2.2.2.1.2.1, hs.2.2.2.1.2.2.2.1.2.2⟩, hs.2.2.2.1.2.2.2.2.1, ⟨by omega, hs.2.2.2.1.2.2.2.2.2.2.1, hs.2.2.2.1.2.2.2.2.2.2.2⟩⟩, ⟨by omega, hs.2.2.2.2.2.1, hs.2.2.2.2.2.2⟩⟩, (fun i hi => rfl)⟩) dX7_drainGroans_12
set_option maxRecDepth 20000 in
theorem c_X7_setStroke (l : Launch) (g : gT) {N : Nat} {ad : Nat → Nat} {F : Nat → va_E} (x : SX) (q : Nat → Int32) (hp : oP0 g N ad F q) (hs : oSt g N ad F 1 x) (hn : x.1 ≤ 12) (htn : xtn x ≤ 64) (a : Int32) (hz1 : xz x 1 < 1000)  : CtI l yX7_setStroke cX7_setStroke 3 (some .int) 1 22 g N ad F [.ref (ad 0), .int a] (fun r F' => r = (strokeSF x q a).1 ∧ oP0 g N ad F' (strokeSF x q a).2.1 ∧ oSt g N ad F' 1 (strokeSF x q a).2.2 ∧ ∀ i, 22 < i → F' i = F i) := by
  refine CtI_of (by decide) (Nat.le_of_ble_eq_true rfl) ?_
  intro p e s m args below meth c A H ls X M h hl
  have kx := X.1.1
  have kb := X.1.2.1
  have hl : lv_has ls 3 [(0, .ref (ad 0)), (1, .int a)] := hl
  have hN0 := hp.1
  have htn2 : x.2.2.1 ≤ 64 := htn
  have z1 : x.2.2.2.2.2.2.2 1 < 1000 := hz1
  refine lv_iload_n kx kb dX7_setStroke_0 rfl (lv_at hl 1 rfl) ?_
  refine lv_iconst (v := nI 1) kx kb dX7_setStroke_1 (by decide) ?_
  refine lv_bipush (v := nI 10) kx kb dX7_setStroke_2 (by decide) ?_
  refine w_readSi X M h [.int a, .int (nI 1), .int (nI 10)] [] ((c_X7_isWithin l g a (nI 1) (nI 10))) lk_X7_180 rfl ⟨by decide, by decide⟩ hl ⟨Nat.zero_le _, Nat.zero_le _⟩ (Nat.le_of_ble_eq_true rfl) rfl dX7_setStroke_4 (fun H locs h => ?_)
  refine w_if_neb (tgt := 13) kx kb dX7_setStroke_7 (by decide) (fun c_1 => ?_) (fun c_1 => ?_)
  · obtain ⟨k, hk0, hk, rfl⟩ := inW_of (by decide) (by decide) c_1
    refine lv_aload_n kx kb dX7_setStroke_13 rfl (lv_at hl 0 rfl) ?_
    refine w_get X M h 0 hp.2 (by omega) fl_X7_12 rfl dX7_setStroke_14 ?_
    refine w_get X M h 1 hs.2.1 (by omega) fl_X7_229 rfl dX7_setStroke_17 ?_
    refine lv_iload_n kx kb dX7_setStroke_20 rfl (lv_at hl 1 rfl) ?_
    refine w_cmp_ne (tgt := 31) kx kb (by omega) (by omega) dX7_setStroke_21 (by decide) (fun c_2 => ?_) (fun c_2 => ?_)
    · refine lv_aload_n kx kb dX7_setStroke_31 rfl (lv_at hl 0 rfl) ?_
      refine w_get X M h 0 hp.2 (by omega) fl_X7_12 rfl dX7_setStroke_32 ?_
      refine w_get X M h 1 hs.2.1 (by omega) fl_X7_229 rfl dX7_setStroke_35 ?_
      refine lv_istore_n (lv' := [(2, .int (nI (x.2.2.2.2.2.2.2 1))), (0, .ref (ad 0)), (1, .int (nI k))]) kx kb dX7_setStroke_38 rfl hl (by decide) rfl (fun ls hl => ?_)
      refine lv_aload_n kx kb dX7_setStroke_39 rfl (lv_at hl 1 rfl) ?_
      refine w_get X M h 0 hp.2 (by omega) fl_X7_12 rfl dX7_setStroke_40 ?_
      refine lv_iload_n kx kb dX7_setStroke_43 rfl (lv_at hl 2 rfl) ?_
      refine w_put X M h 1 hs.2.1 (by omega) fp_X7_229 (rfl) (by rfl) (Nat.le_of_ble_eq_true rfl) dX7_setStroke_44 (fun F3 H locs h he_F3 hf_F3 => ?_)
      refine lv_iload_n kx kb dX7_setStroke_47 rfl (lv_at hl 0 rfl) ?_
      exact w_iret X h (by rw [show strokeSF x q (nI k) = _ from by rw [strokeSF, if_pos c_1, cl_n (show k < 2147483648 by omega), if_neg (by omega)]]; exact ⟨rfl, ⟨by omega, ((hf_F3 0 (by omega)).trans hp.2)⟩, ⟨by omega, he_F3, ⟨by omega, ((hf_F3 2 (by omega)).trans hs.2.2.1.2.1), ⟨by omega, ((hf_F3 3 (by omega)).trans hs.2.2.1.2.2.1.2.1), (hs.2.2.1.2.2.1.2.2.fr (hf_F3 4 (by omega)))⟩, ⟨by omega, ((hf_F3 5 (by omega)).trans hs.2.2.1.2.2.2.1.2.1), (hs.2.2.1.2.2.2.1.2.2.fr (hf_F3 6 (by omega)))⟩, ⟨by omega, ((hf_F3 7 (by omega)).trans hs.2.2.1.2.2.2.2.1.2.1), (hs.2.2.1.2.2.2.2.1.2.2.fr (hf_F3 8 (by omega)))⟩, ⟨by omega, ((hf_F3 9 (by omega)).trans hs.2.2.1.2.2.2.2.2.1.2.1), (hs.2.2.1.2.2.2.2.2.1.2.2.fr (hf_F3 10 (by omega)))⟩, ⟨by omega, ((hf_F3 11 (by omega)).trans hs.2.2.1.2.2.2.2.2.2.2.1), (hs.2.2.1.2.2.2.2.2.2.2.2.fr (hf_F3 12 (by omega)))⟩⟩, ⟨by omega, ((hf_F3 13 (by omega)).trans hs.2.2.2.1.2.1), ⟨by omega, ((hf_F3 14 (by omega)).trans hs.2.2.2.1.2.2.1.2.1), (hs.2.2.2.1.2.2.1.2.2.fr (hf_F3 15 (by omega)))⟩, ⟨by omega, ((hf_F3 16 (by omega)).trans hs.2.2.2.1.2.2.2.1.2.1), (hs.2.2.2.1.2.2.2.1.2.2.fr (hf_F3 17 (by omega)))⟩, (hs.2.2.2.1.2.2.2.2.1.fr (hf_F3 18 (by omega))), ⟨by omega, ((hf_F3 19 (by omega)).trans hs.2.2.2.1.2.2.2.2.2.2.1), (hs.2.2.2.1.2.2.2.2.2.2.2.fr (hf_F3 20 (by omega)))⟩⟩, ⟨by omega, ((hf_F3 21 (by omega)).trans hs.2.2.2.2.2.1), (hs.2.2.2.2.2.2.fr (hf_F3 22 (by omega)))⟩⟩, (fun i hi => hf_F3 i (by omega))⟩) dX7_setStroke_48
    · refine lv_aload_n kx kb dX7_setStroke_24 rfl (lv_at hl 0 rfl) ?_
      refine lv_iconst (v := nI 5) kx kb dX7_setStroke_25 (by decide) ?_
      refine lv_iload_n kx kb dX7_setStroke_26 rfl (lv_at hl 1 rfl) ?_
      refine w_callVi X M h [.int (nI 5), .int (nI k)] [] ((c_X7_refuse l g q ⟨by omega, hp.2⟩ (nI 5) (nI k))) lk_X7_295 hp.2 (by omega) rfl rfl ⟨by decide, by decide⟩ hl ⟨Nat.zero_le _, Nat.zero_le _⟩ (Nat.le_of_ble_eq_true rfl) rfl dX7_setStroke_27 (fun r_F4 F4 H locs hp_F4 h => ?_)
      refine w_top (y := (-5)) hp_F4.1 ?_
      exact w_iret X h (by rw [show strokeSF x q (nI k) = _ from by rw [strokeSF, if_pos c_1, cl_n (show k < 2147483648 by omega), if_pos (by omega)]]; exact ⟨rfl, ⟨by omega, hp_F4.2.1.2⟩, ⟨by omega, ((hp_F4.2.2 1 (by omega)).trans hs.2.1), ⟨by omega, ((hp_F4.2.2 2 (by omega)).trans hs.2.2.1.2.1), ⟨by omega, ((hp_F4.2.2 3 (by omega)).trans hs.2.2.1.2.2.1.2.1), (hs.2.2.1.2.2.1.2.2.fr (hp_F4.2.2 4 (by omega)))⟩, ⟨by omega, ((hp_F4.2.2 5 (by omega)).trans hs.2.2.1.2.2.2.1.2.1), (hs.2.2.1.2.2.2.1.2.2.fr (hp_F4.2.2 6 (by omega)))⟩, ⟨by omega, ((hp_F4.2.2 7 (by omega)).trans hs.2.2.1.2.2.2.2.1.2.1), (hs.2.2.1.2.2.2.2.1.2.2.fr (hp_F4.2.2 8 (by omega)))⟩, ⟨by omega, ((hp_F4.2.2 9 (by omega)).trans hs.2.2.1.2.2.2.2.2.1.2.1), (hs.2.2.1.2.2.2.2.2.1.2.2.fr (hp_F4.2.2 10 (by omega)))⟩, ⟨by omega, ((hp_F4.2.2 11 (by omega)).trans hs.2.2.1.2.2.2.2.2.2.2.1), (hs.2.2.1.2.2.2.2.2.2.2.2.fr (hp_F4.2.2 12 (by omega)))⟩⟩, ⟨by omega, ((hp_F4.2.2 13 (by omega)).trans hs.2.2.2.1.2.1), ⟨by omega, ((hp_F4.2.2 14 (by omega)).trans hs.2.2.2.1.2.2.1.2.1), (hs.2.2.2.1.2.2.1.2.2.fr (hp_F4.2.2 15 (by omega)))⟩, ⟨by omega, ((hp_F4.2.2 16 (by omega)).trans hs.2.2.2.1.2.2.2.1.2.1), (hs.2.2.2.1.2.2.2.1.2.2.fr (hp_F4.2.2 17 (by omega)))⟩, (hs.2.2.2.1.2.2.2.2.1.fr (hp_F4.2.2 18 (by omega))), ⟨by omega, ((hp_F4.2.2 19 (by omega)).trans hs.2.2.2.1.2.2.2.2.2.2.1), (hs.2.2.2.1.2.2.2.2.2.2.2.fr (hp_F4.2.2 20 (by omega)))⟩⟩, ⟨by omega, ((hp_F4.2.2 21 (by omega)).trans hs.2.2.2.2.2.1), (hs.2.2.2.2.2.2.fr (hp_F4.2.2 22 (by omega)))⟩⟩, (fun i hi => hp_F4.2.2 i (by omega))⟩) dX7_setStroke_30
  · refine lv_bipush (v := (-2)) kx kb dX7_setStroke_10 (by decide) ?_
    exact w_iret X h (by rw [show strokeSF x q a = _ from by rw [strokeSF, if_neg c_1]]; exact ⟨rfl, ⟨by omega, hp.2⟩, ⟨by omega, hs.2.1, ⟨by omega, hs.2.2.1.2.1, ⟨by omega, hs.2.2.1.2.2.1.2.1, hs.2.2.1.2.2.1.2.2⟩, ⟨by omega, hs.2.2.1.2.2.2.1.2.1, hs.2.2.1.2.2.2.1.2.2⟩, ⟨by omega, hs.2.2.1.2.2.2.2.1.2.1, hs.2.2.1.2.2.2.2.1.2.2⟩, ⟨by omega, hs.2.2.1.2.2.2.2.2.1.2.1, hs.2.2.1.2.2.2.2.2.1.2.2⟩, ⟨by omega, hs.2.2.1.2.2.2.2.2.2.2.1, hs.2.2.1.2.2.2.2.2.2.2.2⟩⟩, ⟨by omega, hs.2.2.2.1.2.1, ⟨by omega, hs.2.2.2.1.2.2.1.2.1, hs.2.2.2.1.2.2.1.2.2⟩, ⟨by omega, hs.2.2.2.1.2.2.2.1.2.1, hs.2.2.2.1.2.2.2.1.2.2⟩, hs.2.2.2.1.2.2.2.2.1, ⟨by omega, hs.2.2.2.1.2.2.2.2.2.2.1, hs.2.2.2.1.2.2.2.2.2.2.2⟩⟩, ⟨by omega, hs.2.2.2.2.2.1, hs.2.2.2.2.2.2⟩⟩, (fun i hi => rfl)⟩) dX7_setStroke_12
set_option maxRecDepth 20000 in
theorem c_X7_setBucket (l : Launch) (g : gT) {N : Nat} {ad : Nat → Nat} {F : Nat → va_E} (x : SX) (q : Nat → Int32) (hp : oP0 g N ad F q) (hs : oSt g N ad F 1 x) (hn : x.1 ≤ 12) (htn : xtn x ≤ 64) (a b : Int32) (hbk : ∀ k, xbk x k < 1000)  : CtI l yX7_setBucket cX7_setBucket 4 (some .int) 2 42 g N ad F [.ref (ad 0), .int a, .int b] (fun r F' => r = (bucketF x q a b).1 ∧ oP0 g N ad F' (bucketF x q a b).2.1 ∧ oSt g N ad F' 1 (bucketF x q a b).2.2 ∧ ∀ i, 22 < i → F' i = F i) := by
  refine CtI_of (by decide) (Nat.le_of_ble_eq_true rfl) ?_
  intro p e s m args below meth c A H ls X M h hl
  have kx := X.1.1
  have kb := X.1.2.1
  have hl : lv_has ls 4 [(0, .ref (ad 0)), (1, .int a), (2, .int b)] := hl
  have hN0 := hp.1
  have htn2 : x.2.2.1 ≤ 64 := htn
  have zb : ∀ k, x.2.2.2.2.2.2.1 k < 1000 := hbk
  refine lv_iload_n kx kb dX7_setBucket_0 rfl (lv_at hl 1 rfl) ?_
  refine w_readSi X M h [.int a] [] ((c_X7_isWell l g a)) lk_X7_159 rfl ⟨by decide, by decide⟩ hl ⟨Nat.zero_le _, Nat.zero_le _⟩ (Nat.le_of_ble_eq_true rfl) rfl dX7_setBucket_1 (fun H locs h => ?_)
  refine w_if_neb (tgt := 9) kx kb dX7_setBucket_4 (by decide) (fun c_1 => ?_) (fun c_1 => ?_)
  · obtain ⟨k, hk0, hk, rfl⟩ := inW_of (by decide) (by decide) c_1
    have zbk := zb k
    refine lv_iload_n kx kb dX7_setBucket_9 rfl (lv_at hl 2 rfl) ?_
    refine lv_iconst (v := nI 1) kx kb dX7_setBucket_10 (by decide) ?_
    refine lv_iconst (v := nI 5) kx kb dX7_setBucket_11 (by decide) ?_
    refine w_readSi X M h [.int b, .int (nI 1), .int (nI 5)] [] ((c_X7_isWithin l g b (nI 1) (nI 5))) lk_X7_180 rfl ⟨by decide, by decide⟩ hl ⟨Nat.zero_le _, Nat.zero_le _⟩ (Nat.le_of_ble_eq_true rfl) rfl dX7_setBucket_12 (fun H locs h => ?_)
    refine w_if_neb (tgt := 21) kx kb dX7_setBucket_15 (by decide) (fun c_2 => ?_) (fun c_2 => ?_)
    · obtain ⟨b2, hb0, hb2, rfl⟩ := inW_of (by decide) (by decide) c_2
      refine lv_aload_n kx kb dX7_setBucket_21 rfl (lv_at hl 0 rfl) ?_
      refine w_get X M h 0 hp.2 (by omega) fl_X7_12 rfl dX7_setBucket_22 ?_
      refine w_get X M h 1 hs.2.1 (by omega) fl_X7_162 rfl dX7_setBucket_25 ?_
      refine lv_iload_n kx kb dX7_setBucket_28 rfl (lv_at hl 1 rfl) ?_
      refine w_readVi X M h [.int (nI k)] [] ((c_X3_at_n l g 21 4 (fun k => nI (x.2.2.2.2.2.2.1 k)) k ⟨by omega, hs.2.2.2.2.2.1, hs.2.2.2.2.2.2⟩ (by omega) (by omega))) lk_X7_139 hs.2.2.2.2.2.1 (by omega) rfl rfl ⟨by decide, by decide⟩ hl ⟨Nat.zero_le _, Nat.zero_le _⟩ (Nat.le_of_ble_eq_true rfl) rfl dX7_setBucket_29 (fun H locs h => ?_)
      refine lv_istore_n (lv' := [(3, .int (nI (x.2.2.2.2.2.2.1 k))), (0, .ref (ad 0)), (1, .int (nI k)), (2, .int (nI b2))]) kx kb dX7_setBucket_32 rfl hl (by decide) rfl (fun ls hl => ?_)
      refine lv_iload_n kx kb dX7_setBucket_33 rfl (lv_at hl 0 rfl) ?_
      refine lv_iload_n kx kb dX7_setBucket_34 rfl (lv_at hl 3 rfl) ?_
      refine w_cmp_ne (tgt := 45) kx kb (by omega) (by omega) dX7_setBucket_35 (by decide) (fun c_3 => ?_) (fun c_3 => ?_)
      · refine lv_aload_n kx kb dX7_setBucket_45 rfl (lv_at hl 1 rfl) ?_
        refine w_get X M h 0 hp.2 (by omega) fl_X7_12 rfl dX7_setBucket_46 ?_
        refine w_get X M h 1 hs.2.1 (by omega) fl_X7_162 rfl dX7_setBucket_49 ?_
        refine lv_iload_n kx kb dX7_setBucket_52 rfl (lv_at hl 2 rfl) ?_
        refine lv_iload_n kx kb dX7_setBucket_53 rfl (lv_at hl 3 rfl) ?_
        refine w_callVv X M h [.int (nI k), .int (nI b2)] [] ((c_X3_put l g 21 4 (fun k => nI (x.2.2.2.2.2.2.1 k)) k (nI b2) ⟨by omega, hs.2.2.2.2.2.1, hs.2.2.2.2.2.2⟩ (by omega) (by omega))) lk_X7_308 hs.2.2.2.2.2.1 (by omega) rfl rfl ⟨by decide, by decide⟩ hl ⟨Nat.zero_le _, Nat.zero_le _⟩ (Nat.le_of_ble_eq_true rfl) rfl dX7_setBucket_54 (fun F4 H locs hp_F4 h => ?_)
        refine lv_iload_n kx kb dX7_setBucket_57 rfl (lv_at hl 0 rfl) ?_
        exact w_iret X h (by rw [show bucketF x q (nI k) (nI b2) = _ from by rw [bucketF, if_pos c_1, cl_n (show k < 2147483648 by omega), if_pos c_2, cl_n (show b2 < 2147483648 by omega), if_neg (by omega)]]; exact ⟨rfl, ⟨by omega, ((hp_F4.2 0 (by omega)).trans hp.2)⟩, ⟨by omega, ((hp_F4.2 1 (by omega)).trans hs.2.1), ⟨by omega, ((hp_F4.2 2 (by omega)).trans hs.2.2.1.2.1), ⟨by omega, ((hp_F4.2 3 (by omega)).trans hs.2.2.1.2.2.1.2.1), (hs.2.2.1.2.2.1.2.2.fr (hp_F4.2 4 (by omega)))⟩, ⟨by omega, ((hp_F4.2 5 (by omega)).trans hs.2.2.1.2.2.2.1.2.1), (hs.2.2.1.2.2.2.1.2.2.fr (hp_F4.2 6 (by omega)))⟩, ⟨by omega, ((hp_F4.2 7 (by omega)).trans hs.2.2.1.2.2.2.2.1.2.1), (hs.2.2.1.2.2.2.2.1.2.2.fr (hp_F4.2 8 (by omega)))⟩, ⟨by omega, ((hp_F4.2 9 (by omega)).trans hs.2.2.1.2.2.2.2.2.1.2.1), (hs.2.2.1.2.2.2.2.2.1.2.2.fr (hp_F4.2 10 (by omega)))⟩, ⟨by omega, ((hp_F4.2 11 (by omega)).trans hs.2.2.1.2.2.2.2.2.2.2.1), (hs.2.2.1.2.2.2.2.2.2.2.2.fr (hp_F4.2 12 (by omega)))⟩⟩, ⟨by omega, ((hp_F4.2 13 (by omega)).trans hs.2.2.2.1.2.1), ⟨by omega, ((hp_F4.2 14 (by omega)).trans hs.2.2.2.1.2.2.1.2.1), (hs.2.2.2.1.2.2.1.2.2.fr (hp_F4.2 15 (by omega)))⟩, ⟨by omega, ((hp_F4.2 16 (by omega)).trans hs.2.2.2.1.2.2.2.1.2.1), (hs.2.2.2.1.2.2.2.1.2.2.fr (hp_F4.2 17 (by omega)))⟩, (hs.2.2.2.1.2.2.2.2.1.fr (hp_F4.2 18 (by omega))), ⟨by omega, ((hp_F4.2 19 (by omega)).trans hs.2.2.2.1.2.2.2.2.2.2.1), (hs.2.2.2.1.2.2.2.2.2.2.2.fr (hp_F4.2 20 (by omega)))⟩⟩, ⟨by omega, hp_F4.1.2.1, (hp_F4.1.2.2.eq (fun z hz => by rw [rowPut_in (by omega)]; show upd _ k (nI b2) z = nI (bUp x.2.2.2.2.2.2.1 k b2 z); simp only [upd, bUp]; split <;> rfl))⟩⟩, (fun i hi => hp_F4.2 i (by omega))⟩) dX7_setBucket_58
      · refine lv_aload_n kx kb dX7_setBucket_38 rfl (lv_at hl 1 rfl) ?_
        refine lv_iconst (v := nI 5) kx kb dX7_setBucket_39 (by decide) ?_
        refine lv_iload_n kx kb dX7_setBucket_40 rfl (lv_at hl 2 rfl) ?_
        refine w_callVi X M h [.int (nI 5), .int (nI k)] [] ((c_X7_refuse l g q ⟨by omega, hp.2⟩ (nI 5) (nI k))) lk_X7_295 hp.2 (by omega) rfl rfl ⟨by decide, by decide⟩ hl ⟨Nat.zero_le _, Nat.zero_le _⟩ (Nat.le_of_ble_eq_true rfl) rfl dX7_setBucket_41 (fun r_F5 F5 H locs hp_F5 h => ?_)
        refine w_top (y := (-5)) hp_F5.1 ?_
        exact w_iret X h (by rw [show bucketF x q (nI k) (nI b2) = _ from by rw [bucketF, if_pos c_1, cl_n (show k < 2147483648 by omega), if_pos c_2, cl_n (show b2 < 2147483648 by omega), if_pos (by omega)]]; exact ⟨rfl, ⟨by omega, hp_F5.2.1.2⟩, ⟨by omega, ((hp_F5.2.2 1 (by omega)).trans hs.2.1), ⟨by omega, ((hp_F5.2.2 2 (by omega)).trans hs.2.2.1.2.1), ⟨by omega, ((hp_F5.2.2 3 (by omega)).trans hs.2.2.1.2.2.1.2.1), (hs.2.2.1.2.2.1.2.2.fr (hp_F5.2.2 4 (by omega)))⟩, ⟨by omega, ((hp_F5.2.2 5 (by omega)).trans hs.2.2.1.2.2.2.1.2.1), (hs.2.2.1.2.2.2.1.2.2.fr (hp_F5.2.2 6 (by omega)))⟩, ⟨by omega, ((hp_F5.2.2 7 (by omega)).trans hs.2.2.1.2.2.2.2.1.2.1), (hs.2.2.1.2.2.2.2.1.2.2.fr (hp_F5.2.2 8 (by omega)))⟩, ⟨by omega, ((hp_F5.2.2 9 (by omega)).trans hs.2.2.1.2.2.2.2.2.1.2.1), (hs.2.2.1.2.2.2.2.2.1.2.2.fr (hp_F5.2.2 10 (by omega)))⟩, ⟨by omega, ((hp_F5.2.2 11 (by omega)).trans hs.2.2.1.2.2.2.2.2.2.2.1), (hs.2.2.1.2.2.2.2.2.2.2.2.fr (hp_F5.2.2 12 (by omega)))⟩⟩, ⟨by omega, ((hp_F5.2.2 13 (by omega)).trans hs.2.2.2.1.2.1), ⟨by omega, ((hp_F5.2.2 14 (by omega)).trans hs.2.2.2.1.2.2.1.2.1), (hs.2.2.2.1.2.2.1.2.2.fr (hp_F5.2.2 15 (by omega)))⟩, ⟨by omega, ((hp_F5.2.2 16 (by omega)).trans hs.2.2.2.1.2.2.2.1.2.1), (hs.2.2.2.1.2.2.2.1.2.2.fr (hp_F5.2.2 17 (by omega)))⟩, (hs.2.2.2.1.2.2.2.2.1.fr (hp_F5.2.2 18 (by omega))), ⟨by omega, ((hp_F5.2.2 19 (by omega)).trans hs.2.2.2.1.2.2.2.2.2.2.1), (hs.2.2.2.1.2.2.2.2.2.2.2.fr (hp_F5.2.2 20 (by omega)))⟩⟩, ⟨by omega, ((hp_F5.2.2 21 (by omega)).trans hs.2.2.2.2.2.1), (hs.2.2.2.2.2.2.fr (hp_F5.2.2 22 (by omega)))⟩⟩, (fun i hi => hp_F5.2.2 i (by omega))⟩) dX7_setBucket_44
    · refine lv_bipush (v := (-2)) kx kb dX7_setBucket_18 (by decide) ?_
      exact w_iret X h (by rw [show bucketF x q (nI k) b = _ from by rw [bucketF, if_pos c_1, cl_n (show k < 2147483648 by omega), if_neg c_2]]; exact ⟨rfl, ⟨by omega, hp.2⟩, ⟨by omega, hs.2.1, ⟨by omega, hs.2.2.1.2.1, ⟨by omega, hs.2.2.1.2.2.1.2.1, hs.2.2.1.2.2.1.2.2⟩, ⟨by omega, hs.2.2.1.2.2.2.1.2.1, hs.2.2.1.2.2.2.1.2.2⟩, ⟨by omega, hs.2.2.1.2.2.2.2.1.2.1, hs.2.2.1.2.2.2.2.1.2.2⟩, ⟨by omega, hs.2.2.1.2.2.2.2.2.1.2.1, hs.2.2.1.2.2.2.2.2.1.2.2⟩, ⟨by omega, hs.2.2.1.2.2.2.2.2.2.2.1, hs.2.2.1.2.2.2.2.2.2.2.2⟩⟩, ⟨by omega, hs.2.2.2.1.2.1, ⟨by omega, hs.2.2.2.1.2.2.1.2.1, hs.2.2.2.1.2.2.1.2.2⟩, ⟨by omega, hs.2.2.2.1.2.2.2.1.2.1, hs.2.2.2.1.2.2.2.1.2.2⟩, hs.2.2.2.1.2.2.2.2.1, ⟨by omega, hs.2.2.2.1.2.2.2.2.2.2.1, hs.2.2.2.1.2.2.2.2.2.2.2⟩⟩, ⟨by omega, hs.2.2.2.2.2.1, hs.2.2.2.2.2.2⟩⟩, (fun i hi => rfl)⟩) dX7_setBucket_20
  · refine lv_iconst (v := (-1)) kx kb dX7_setBucket_7 (by decide) ?_
    exact w_iret X h (by rw [show bucketF x q a b = _ from by rw [bucketF, if_neg c_1]]; exact ⟨rfl, ⟨by omega, hp.2⟩, ⟨by omega, hs.2.1, ⟨by omega, hs.2.2.1.2.1, ⟨by omega, hs.2.2.1.2.2.1.2.1, hs.2.2.1.2.2.1.2.2⟩, ⟨by omega, hs.2.2.1.2.2.2.1.2.1, hs.2.2.1.2.2.2.1.2.2⟩, ⟨by omega, hs.2.2.1.2.2.2.2.1.2.1, hs.2.2.1.2.2.2.2.1.2.2⟩, ⟨by omega, hs.2.2.1.2.2.2.2.2.1.2.1, hs.2.2.1.2.2.2.2.2.1.2.2⟩, ⟨by omega, hs.2.2.1.2.2.2.2.2.2.2.1, hs.2.2.1.2.2.2.2.2.2.2.2⟩⟩, ⟨by omega, hs.2.2.2.1.2.1, ⟨by omega, hs.2.2.2.1.2.2.1.2.1, hs.2.2.2.1.2.2.1.2.2⟩, ⟨by omega, hs.2.2.2.1.2.2.2.1.2.1, hs.2.2.2.1.2.2.2.1.2.2⟩, hs.2.2.2.1.2.2.2.2.1, ⟨by omega, hs.2.2.2.1.2.2.2.2.2.2.1, hs.2.2.2.1.2.2.2.2.2.2.2⟩⟩, ⟨by omega, hs.2.2.2.2.2.1, hs.2.2.2.2.2.2⟩⟩, (fun i hi => rfl)⟩) dX7_setBucket_8
set_option maxRecDepth 20000 in
theorem c_X7_moveTo (l : Launch) (g : gT) {N : Nat} {ad : Nat → Nat} {F : Nat → va_E} (x : SX) (q : Nat → Int32) (hp : oP0 g N ad F q) (hs : oSt g N ad F 1 x) (hn : x.1 ≤ 12) (htn : xtn x ≤ 64) (a : Int32) (hz0 : xz x 0 < 1000)  : CtI l yX7_moveTo cX7_moveTo 3 (some .int) 2 42 g N ad F [.ref (ad 0), .int a] (fun r F' => r = (goF x q a).1 ∧ oP0 g N ad F' (goF x q a).2.1 ∧ oSt g N ad F' 1 (goF x q a).2.2 ∧ ∀ i, 22 < i → F' i = F i) := by
  refine CtI_of (by decide) (Nat.le_of_ble_eq_true rfl) ?_
  intro p e s m args below meth c A H ls X M h hl
  have kx := X.1.1
  have kb := X.1.2.1
  have hl : lv_has ls 3 [(0, .ref (ad 0)), (1, .int a)] := hl
  have hN0 := hp.1
  have htn2 : x.2.2.1 ≤ 64 := htn
  have z0 : x.2.2.2.2.2.2.2 0 < 1000 := hz0
  refine lv_iload_n kx kb dX7_moveTo_0 rfl (lv_at hl 1 rfl) ?_
  refine w_readSi X M h [.int a] [] ((c_X7_isWell l g a)) lk_X7_159 rfl ⟨by decide, by decide⟩ hl ⟨Nat.zero_le _, Nat.zero_le _⟩ (Nat.le_of_ble_eq_true rfl) rfl dX7_moveTo_1 (fun H locs h => ?_)
  refine w_if_neb (tgt := 9) kx kb dX7_moveTo_4 (by decide) (fun c_1 => ?_) (fun c_1 => ?_)
  · obtain ⟨k, hk0, hk, rfl⟩ := inW_of (by decide) (by decide) c_1
    refine lv_aload_n kx kb dX7_moveTo_9 rfl (lv_at hl 0 rfl) ?_
    refine w_get X M h 0 hp.2 (by omega) fl_X7_12 rfl dX7_moveTo_10 ?_
    refine w_get X M h 1 hs.2.1 (by omega) fl_X7_241 rfl dX7_moveTo_13 ?_
    refine lv_iload_n kx kb dX7_moveTo_16 rfl (lv_at hl 1 rfl) ?_
    refine w_cmp_ne (tgt := 27) kx kb (by omega) (by omega) dX7_moveTo_17 (by decide) (fun c_2 => ?_) (fun c_2 => ?_)
    · refine lv_aload_n kx kb dX7_moveTo_27 rfl (lv_at hl 0 rfl) ?_
      refine w_get X M h 0 hp.2 (by omega) fl_X7_12 rfl dX7_moveTo_28 ?_
      refine w_get X M h 1 hs.2.1 (by omega) fl_X7_241 rfl dX7_moveTo_31 ?_
      refine lv_istore_n (lv' := [(2, .int (nI (x.2.2.2.2.2.2.2 0))), (0, .ref (ad 0)), (1, .int (nI k))]) kx kb dX7_moveTo_34 rfl hl (by decide) rfl (fun ls hl => ?_)
      refine lv_aload_n kx kb dX7_moveTo_35 rfl (lv_at hl 1 rfl) ?_
      refine w_get X M h 0 hp.2 (by omega) fl_X7_12 rfl dX7_moveTo_36 ?_
      refine lv_iload_n kx kb dX7_moveTo_39 rfl (lv_at hl 2 rfl) ?_
      refine w_put X M h 1 hs.2.1 (by omega) fp_X7_241 (rfl) (by rfl) (Nat.le_of_ble_eq_true rfl) dX7_moveTo_40 (fun F3 H locs h he_F3 hf_F3 => ?_)
      refine lv_aload_n kx kb dX7_moveTo_43 rfl (lv_at hl 1 rfl) ?_
      refine w_get X M h 0 ((hf_F3 0 (by omega)).trans hp.2) (by omega) fl_X7_12 rfl dX7_moveTo_44 ?_
      refine lv_iconst (v := nI 0) kx kb dX7_moveTo_47 (by decide) ?_
      refine w_put X M h 1 he_F3 (by omega) fp_X7_226 (rfl) (by rfl) (Nat.le_of_ble_eq_true rfl) dX7_moveTo_48 (fun F4 H locs h he_F4 hf_F4 => ?_)
      refine lv_iload_n kx kb dX7_moveTo_51 rfl (lv_at hl 0 rfl) ?_
      exact w_iret X h (by rw [show goF x q (nI k) = _ from by rw [goF, if_pos c_1, cl_n (show k < 2147483648 by omega), if_neg (by omega)]]; exact ⟨rfl, ⟨by omega, ((hf_F4 0 (by omega)).trans ((hf_F3 0 (by omega)).trans hp.2))⟩, ⟨by omega, he_F4, ⟨by omega, ((hf_F4 2 (by omega)).trans ((hf_F3 2 (by omega)).trans hs.2.2.1.2.1)), ⟨by omega, ((hf_F4 3 (by omega)).trans ((hf_F3 3 (by omega)).trans hs.2.2.1.2.2.1.2.1)), ((hs.2.2.1.2.2.1.2.2.fr (hf_F3 4 (by omega))).fr (hf_F4 4 (by omega)))⟩, ⟨by omega, ((hf_F4 5 (by omega)).trans ((hf_F3 5 (by omega)).trans hs.2.2.1.2.2.2.1.2.1)), ((hs.2.2.1.2.2.2.1.2.2.fr (hf_F3 6 (by omega))).fr (hf_F4 6 (by omega)))⟩, ⟨by omega, ((hf_F4 7 (by omega)).trans ((hf_F3 7 (by omega)).trans hs.2.2.1.2.2.2.2.1.2.1)), ((hs.2.2.1.2.2.2.2.1.2.2.fr (hf_F3 8 (by omega))).fr (hf_F4 8 (by omega)))⟩, ⟨by omega, ((hf_F4 9 (by omega)).trans ((hf_F3 9 (by omega)).trans hs.2.2.1.2.2.2.2.2.1.2.1)), ((hs.2.2.1.2.2.2.2.2.1.2.2.fr (hf_F3 10 (by omega))).fr (hf_F4 10 (by omega)))⟩, ⟨by omega, ((hf_F4 11 (by omega)).trans ((hf_F3 11 (by omega)).trans hs.2.2.1.2.2.2.2.2.2.2.1)), ((hs.2.2.1.2.2.2.2.2.2.2.2.fr (hf_F3 12 (by omega))).fr (hf_F4 12 (by omega)))⟩⟩, ⟨by omega, ((hf_F4 13 (by omega)).trans ((hf_F3 13 (by omega)).trans hs.2.2.2.1.2.1)), ⟨by omega, ((hf_F4 14 (by omega)).trans ((hf_F3 14 (by omega)).trans hs.2.2.2.1.2.2.1.2.1)), ((hs.2.2.2.1.2.2.1.2.2.fr (hf_F3 15 (by omega))).fr (hf_F4 15 (by omega)))⟩, ⟨by omega, ((hf_F4 16 (by omega)).trans ((hf_F3 16 (by omega)).trans hs.2.2.2.1.2.2.2.1.2.1)), ((hs.2.2.2.1.2.2.2.1.2.2.fr (hf_F3 17 (by omega))).fr (hf_F4 17 (by omega)))⟩, ((hs.2.2.2.1.2.2.2.2.1.fr (hf_F3 18 (by omega))).fr (hf_F4 18 (by omega))), ⟨by omega, ((hf_F4 19 (by omega)).trans ((hf_F3 19 (by omega)).trans hs.2.2.2.1.2.2.2.2.2.2.1)), ((hs.2.2.2.1.2.2.2.2.2.2.2.fr (hf_F3 20 (by omega))).fr (hf_F4 20 (by omega)))⟩⟩, ⟨by omega, ((hf_F4 21 (by omega)).trans ((hf_F3 21 (by omega)).trans hs.2.2.2.2.2.1)), ((hs.2.2.2.2.2.2.fr (hf_F3 22 (by omega))).fr (hf_F4 22 (by omega)))⟩⟩, (fun i hi => (hf_F4 i (by omega)).trans (hf_F3 i (by omega)))⟩) dX7_moveTo_52
    · refine lv_aload_n kx kb dX7_moveTo_20 rfl (lv_at hl 0 rfl) ?_
      refine lv_iconst (v := nI 5) kx kb dX7_moveTo_21 (by decide) ?_
      refine lv_iload_n kx kb dX7_moveTo_22 rfl (lv_at hl 1 rfl) ?_
      refine w_callVi X M h [.int (nI 5), .int (nI k)] [] ((c_X7_refuse l g q ⟨by omega, hp.2⟩ (nI 5) (nI k))) lk_X7_295 hp.2 (by omega) rfl rfl ⟨by decide, by decide⟩ hl ⟨Nat.zero_le _, Nat.zero_le _⟩ (Nat.le_of_ble_eq_true rfl) rfl dX7_moveTo_23 (fun r_F5 F5 H locs hp_F5 h => ?_)
      refine w_top (y := (-5)) hp_F5.1 ?_
      exact w_iret X h (by rw [show goF x q (nI k) = _ from by rw [goF, if_pos c_1, cl_n (show k < 2147483648 by omega), if_pos (by omega)]]; exact ⟨rfl, ⟨by omega, hp_F5.2.1.2⟩, ⟨by omega, ((hp_F5.2.2 1 (by omega)).trans hs.2.1), ⟨by omega, ((hp_F5.2.2 2 (by omega)).trans hs.2.2.1.2.1), ⟨by omega, ((hp_F5.2.2 3 (by omega)).trans hs.2.2.1.2.2.1.2.1), (hs.2.2.1.2.2.1.2.2.fr (hp_F5.2.2 4 (by omega)))⟩, ⟨by omega, ((hp_F5.2.2 5 (by omega)).trans hs.2.2.1.2.2.2.1.2.1), (hs.2.2.1.2.2.2.1.2.2.fr (hp_F5.2.2 6 (by omega)))⟩, ⟨by omega, ((hp_F5.2.2 7 (by omega)).trans hs.2.2.1.2.2.2.2.1.2.1), (hs.2.2.1.2.2.2.2.1.2.2.fr (hp_F5.2.2 8 (by omega)))⟩, ⟨by omega, ((hp_F5.2.2 9 (by omega)).trans hs.2.2.1.2.2.2.2.2.1.2.1), (hs.2.2.1.2.2.2.2.2.1.2.2.fr (hp_F5.2.2 10 (by omega)))⟩, ⟨by omega, ((hp_F5.2.2 11 (by omega)).trans hs.2.2.1.2.2.2.2.2.2.2.1), (hs.2.2.1.2.2.2.2.2.2.2.2.fr (hp_F5.2.2 12 (by omega)))⟩⟩, ⟨by omega, ((hp_F5.2.2 13 (by omega)).trans hs.2.2.2.1.2.1), ⟨by omega, ((hp_F5.2.2 14 (by omega)).trans hs.2.2.2.1.2.2.1.2.1), (hs.2.2.2.1.2.2.1.2.2.fr (hp_F5.2.2 15 (by omega)))⟩, ⟨by omega, ((hp_F5.2.2 16 (by omega)).trans hs.2.2.2.1.2.2.2.1.2.1), (hs.2.2.2.1.2.2.2.1.2.2.fr (hp_F5.2.2 17 (by omega)))⟩, (hs.2.2.2.1.2.2.2.2.1.fr (hp_F5.2.2 18 (by omega))), ⟨by omega, ((hp_F5.2.2 19 (by omega)).trans hs.2.2.2.1.2.2.2.2.2.2.1), (hs.2.2.2.1.2.2.2.2.2.2.2.fr (hp_F5.2.2 20 (by omega)))⟩⟩, ⟨by omega, ((hp_F5.2.2 21 (by omega)).trans hs.2.2.2.2.2.1), (hs.2.2.2.2.2.2.fr (hp_F5.2.2 22 (by omega)))⟩⟩, (fun i hi => hp_F5.2.2 i (by omega))⟩) dX7_moveTo_26
  · refine lv_iconst (v := (-1)) kx kb dX7_moveTo_7 (by decide) ?_
    exact w_iret X h (by rw [show goF x q a = _ from by rw [goF, if_neg c_1]]; exact ⟨rfl, ⟨by omega, hp.2⟩, ⟨by omega, hs.2.1, ⟨by omega, hs.2.2.1.2.1, ⟨by omega, hs.2.2.1.2.2.1.2.1, hs.2.2.1.2.2.1.2.2⟩, ⟨by omega, hs.2.2.1.2.2.2.1.2.1, hs.2.2.1.2.2.2.1.2.2⟩, ⟨by omega, hs.2.2.1.2.2.2.2.1.2.1, hs.2.2.1.2.2.2.2.1.2.2⟩, ⟨by omega, hs.2.2.1.2.2.2.2.2.1.2.1, hs.2.2.1.2.2.2.2.2.1.2.2⟩, ⟨by omega, hs.2.2.1.2.2.2.2.2.2.2.1, hs.2.2.1.2.2.2.2.2.2.2.2⟩⟩, ⟨by omega, hs.2.2.2.1.2.1, ⟨by omega, hs.2.2.2.1.2.2.1.2.1, hs.2.2.2.1.2.2.1.2.2⟩, ⟨by omega, hs.2.2.2.1.2.2.2.1.2.1, hs.2.2.2.1.2.2.2.1.2.2⟩, hs.2.2.2.1.2.2.2.2.1, ⟨by omega, hs.2.2.2.1.2.2.2.2.2.2.1, hs.2.2.2.1.2.2.2.2.2.2.2⟩⟩, ⟨by omega, hs.2.2.2.2.2.1, hs.2.2.2.2.2.2⟩⟩, (fun i hi => rfl)⟩) dX7_moveTo_8
set_option maxRecDepth 20000 in
theorem c_X7_makeStrokes (l : Launch) (g : gT) {N : Nat} {ad : Nat → Nat} {F : Nat → va_E} (x : SX) (q : Nat → Int32) (hp : oP0 g N ad F q) (hs : oSt g N ad F 1 x) (hn : x.1 ≤ 12) (htn : xtn x ≤ 64) (a : Int32) (Iv : SX → Prop) (hIv : IvOk Iv) (hx : Iv x) : CtI l yX7_makeStrokes cX7_makeStrokes 4 (some .int) 4 90 g N ad F [.ref (ad 0), .int a] (fun r F' => r = (pumpF x q a).1 ∧ oP0 g N ad F' (pumpF x q a).2.1 ∧ oSt g N ad F' 1 (pumpF x q a).2.2 ∧ ∀ i, 22 < i → F' i = F i) := by
  refine CtI_of (by decide) (Nat.le_of_ble_eq_true rfl) ?_
  intro p e s m args below meth c A H ls X M h hl
  have kx := X.1.1
  have kb := X.1.2.1
  have hl : lv_has ls 4 [(0, .ref (ad 0)), (1, .int a)] := hl
  have hN0 := hp.1
  have htn2 : x.2.2.1 ≤ 64 := htn
  have z3 : x.2.2.2.2.2.2.2 3 < 1000 := (hIv x hx).1.2.2.2.2.1
  refine lv_iload_n kx kb dX7_makeStrokes_0 rfl (lv_at hl 1 rfl) ?_
  refine lv_iconst (v := nI 1) kx kb dX7_makeStrokes_1 (by decide) ?_
  refine lv_bipush (v := nI 9) kx kb dX7_makeStrokes_2 (by decide) ?_
  refine w_readSi X M h [.int a, .int (nI 1), .int (nI 9)] [] ((c_X7_isWithin l g a (nI 1) (nI 9))) lk_X7_180 rfl ⟨by decide, by decide⟩ hl ⟨Nat.zero_le _, Nat.zero_le _⟩ (Nat.le_of_ble_eq_true rfl) rfl dX7_makeStrokes_4 (fun H locs h => ?_)
  refine w_if_neb (tgt := 13) kx kb dX7_makeStrokes_7 (by decide) (fun c_1 => ?_) (fun c_1 => ?_)
  · obtain ⟨k, hk0, hk, rfl⟩ := inW_of (by decide) (by decide) c_1
    refine lv_aload_n kx kb dX7_makeStrokes_13 rfl (lv_at hl 0 rfl) ?_
    refine w_get X M h 0 hp.2 (by omega) fl_X7_12 rfl dX7_makeStrokes_14 ?_
    refine w_get X M h 1 hs.2.1 (by omega) fl_X7_235 rfl dX7_makeStrokes_17 ?_
    refine lv_bipush (v := nI 40) kx kb dX7_makeStrokes_20 (by decide) ?_
    refine w_cmp_le (tgt := 39) kx kb (by omega) (by omega) dX7_makeStrokes_22 (by decide) (fun c_2 => ?_) (fun c_2 => ?_)
    · refine lv_iconst (v := nI 0) kx kb dX7_makeStrokes_39 (by decide) ?_
      refine lv_istore_n (lv' := [(2, .int (nI 0)), (0, .ref (ad 0)), (1, .int (nI k))]) kx kb dX7_makeStrokes_40 rfl hl (by decide) rfl (fun ls hl => ?_)
      refine lv_iconst (v := nI 0) kx kb dX7_makeStrokes_41 (by decide) ?_
      refine lv_istore_n (lv' := [(3, .int (nI 0)), (2, .int (nI 0)), (0, .ref (ad 0)), (1, .int (nI k))]) kx kb dX7_makeStrokes_42 rfl hl (by decide) rfl (fun ls hl => ?_)
      have hIx := hIv x hx
      have hr9 : k ≤ 9 := hk
      refine w_loop4 (fun (i : Nat) (F1 : Nat → va_E) (y : SX) (v : Nat) => k - i) (fun (i : Nat) (F1 : Nat → va_E) (y : SX) (v : Nat) H locs ls => Hx g N ad F1 A s H locs ∧ lv_has ls 4 [(0, .ref (ad 0)), (1, .int (nI k)), (2, .int (nI v)), (3, .int (nI i))] ∧ (i ≤ k) ∧ (Iv y) ∧ (oSt g N ad F1 1 y) ∧ (∀ i, (i < 1 ∨ 22 < i) → F1 i = F i) ∧ (runX (k - i) y = runX k x) ∧ (v + runN (k - i) y = runN k x)) ?_ 0 F x 0 ⟨h, lv_sub hl [2, 3, 1, 0] rfl, by omega, hx, hs, fun i hi => rfl, rfl, by rw [Nat.zero_add]; rfl⟩
      intro i F1 y v H locs ls hinv ih
      obtain ⟨h, hl, hi, hy, hs1, hf0, hX, hNn⟩ := hinv
      obtain ⟨⟨hy1, hy2, hy3, hy4, hy5, hy6, hy7⟩, hyS⟩ := hIv y hy
      have z3y : y.2.2.2.2.2.2.2 3 < 1000 := hy5
      refine lv_iload_n kx kb dX7_makeStrokes_43 rfl (lv_at hl 3 rfl) ?_
      refine lv_iload_n kx kb dX7_makeStrokes_44 rfl (lv_at hl 1 rfl) ?_
      refine w_cmp_ge (tgt := 76) kx kb (by omega) (by omega) dX7_makeStrokes_45 (by decide) (fun c_3 => ?_) (fun c_3 => ?_)
      · refine lv_iload_n kx kb dX7_makeStrokes_76 rfl (lv_at hl 2 rfl) ?_
        exact w_iret X h (by rw [show k - i = 0 by omega, runX] at hX; rw [show k - i = 0 by omega, runN] at hNn; rw [show pumpF x q (nI k) = _ from by rw [pumpF, if_pos c_1, cl_n (show k < 2147483648 by omega), if_pos (by omega)]]; exact ⟨congrArg nI (by omega), ⟨by omega, (oP0.fr hp (hf0 0 (by omega))).2⟩, by rw [← hX]; exact ⟨by omega, hs1.2.1, ⟨by omega, hs1.2.2.1.2.1, ⟨by omega, hs1.2.2.1.2.2.1.2.1, hs1.2.2.1.2.2.1.2.2⟩, ⟨by omega, hs1.2.2.1.2.2.2.1.2.1, hs1.2.2.1.2.2.2.1.2.2⟩, ⟨by omega, hs1.2.2.1.2.2.2.2.1.2.1, hs1.2.2.1.2.2.2.2.1.2.2⟩, ⟨by omega, hs1.2.2.1.2.2.2.2.2.1.2.1, hs1.2.2.1.2.2.2.2.2.1.2.2⟩, ⟨by omega, hs1.2.2.1.2.2.2.2.2.2.2.1, hs1.2.2.1.2.2.2.2.2.2.2.2⟩⟩, ⟨by omega, hs1.2.2.2.1.2.1, ⟨by omega, hs1.2.2.2.1.2.2.1.2.1, hs1.2.2.2.1.2.2.1.2.2⟩, ⟨by omega, hs1.2.2.2.1.2.2.2.1.2.1, hs1.2.2.2.1.2.2.2.1.2.2⟩, hs1.2.2.2.1.2.2.2.2.1, ⟨by omega, hs1.2.2.2.1.2.2.2.2.2.2.1, hs1.2.2.2.1.2.2.2.2.2.2.2⟩⟩, ⟨by omega, hs1.2.2.2.2.2.1, hs1.2.2.2.2.2.2⟩⟩, (fun i hi => hf0 i (by omega))⟩) dX7_makeStrokes_77
      · refine lv_aload_n kx kb dX7_makeStrokes_48 rfl (lv_at hl 0 rfl) ?_
        refine w_get X M h 0 ((oP0.fr hp (hf0 0 (by omega))).2) (by omega) fl_X7_12 rfl dX7_makeStrokes_49 ?_
        refine w_get X M h 1 hs1.2.1 (by omega) fl_X7_235 rfl dX7_makeStrokes_52 ?_
        refine lv_bipush (v := nI 40) kx kb dX7_makeStrokes_55 (by decide) ?_
        refine w_cmp_gt (tgt := 76) kx kb (by omega) (by omega) dX7_makeStrokes_57 (by decide) (fun c_4 => ?_) (fun c_4 => ?_)
        · refine lv_iload_n kx kb dX7_makeStrokes_76 rfl (lv_at hl 2 rfl) ?_
          exact w_iret X h (by rw [show k - i = (k - i - 1) + 1 by omega, runX, if_neg (show ¬ y.2.2.2.2.2.2.2 3 ≤ 40 by omega)] at hX; rw [show k - i = (k - i - 1) + 1 by omega, runN, if_neg (show ¬ y.2.2.2.2.2.2.2 3 ≤ 40 by omega)] at hNn; rw [show pumpF x q (nI k) = _ from by rw [pumpF, if_pos c_1, cl_n (show k < 2147483648 by omega), if_pos (by omega)]]; exact ⟨congrArg nI (by omega), ⟨by omega, (oP0.fr hp (hf0 0 (by omega))).2⟩, by rw [← hX]; exact ⟨by omega, hs1.2.1, ⟨by omega, hs1.2.2.1.2.1, ⟨by omega, hs1.2.2.1.2.2.1.2.1, hs1.2.2.1.2.2.1.2.2⟩, ⟨by omega, hs1.2.2.1.2.2.2.1.2.1, hs1.2.2.1.2.2.2.1.2.2⟩, ⟨by omega, hs1.2.2.1.2.2.2.2.1.2.1, hs1.2.2.1.2.2.2.2.1.2.2⟩, ⟨by omega, hs1.2.2.1.2.2.2.2.2.1.2.1, hs1.2.2.1.2.2.2.2.2.1.2.2⟩, ⟨by omega, hs1.2.2.1.2.2.2.2.2.2.2.1, hs1.2.2.1.2.2.2.2.2.2.2.2⟩⟩, ⟨by omega, hs1.2.2.2.1.2.1, ⟨by omega, hs1.2.2.2.1.2.2.1.2.1, hs1.2.2.2.1.2.2.1.2.2⟩, ⟨by omega, hs1.2.2.2.1.2.2.2.1.2.1, hs1.2.2.2.1.2.2.2.1.2.2⟩, hs1.2.2.2.1.2.2.2.2.1, ⟨by omega, hs1.2.2.2.1.2.2.2.2.2.2.1, hs1.2.2.2.1.2.2.2.2.2.2.2⟩⟩, ⟨by omega, hs1.2.2.2.2.2.1, hs1.2.2.2.2.2.2⟩⟩, (fun i hi => hf0 i (by omega))⟩) dX7_makeStrokes_77
        · have hg40 : xz y 3 ≤ 40 := by show y.2.2.2.2.2.2.2 3 ≤ 40; omega
          refine lv_iload_n kx kb dX7_makeStrokes_60 rfl (lv_at hl 2 rfl) ?_
          refine lv_aload_n kx kb dX7_makeStrokes_61 rfl (lv_at hl 0 rfl) ?_
          refine w_get X M h 0 ((oP0.fr hp (hf0 0 (by omega))).2) (by omega) fl_X7_12 rfl dX7_makeStrokes_62 ?_
          refine w_callVi X M h [] [.int (nI v)] ((c_X4_makeStroke l g 1 y ⟨by omega, hs1.2.1, ⟨by omega, hs1.2.2.1.2.1, ⟨by omega, hs1.2.2.1.2.2.1.2.1, hs1.2.2.1.2.2.1.2.2⟩, ⟨by omega, hs1.2.2.1.2.2.2.1.2.1, hs1.2.2.1.2.2.2.1.2.2⟩, ⟨by omega, hs1.2.2.1.2.2.2.2.1.2.1, hs1.2.2.1.2.2.2.2.1.2.2⟩, ⟨by omega, hs1.2.2.1.2.2.2.2.2.1.2.1, hs1.2.2.1.2.2.2.2.2.1.2.2⟩, ⟨by omega, hs1.2.2.1.2.2.2.2.2.2.2.1, hs1.2.2.1.2.2.2.2.2.2.2.2⟩⟩, ⟨by omega, hs1.2.2.2.1.2.1, ⟨by omega, hs1.2.2.2.1.2.2.1.2.1, hs1.2.2.2.1.2.2.1.2.2⟩, ⟨by omega, hs1.2.2.2.1.2.2.2.1.2.1, hs1.2.2.2.1.2.2.2.1.2.2⟩, hs1.2.2.2.1.2.2.2.2.1, ⟨by omega, hs1.2.2.2.1.2.2.2.2.2.2.1, hs1.2.2.2.1.2.2.2.2.2.2.2⟩⟩, ⟨by omega, hs1.2.2.2.2.2.1, hs1.2.2.2.2.2.2⟩⟩ (strokeF y) (hy1) hy3 hy4 hy6 (hyS hg40).1)) lk_X7_315 hs1.2.1 (by omega) rfl rfl ⟨by decide, by decide⟩ hl ⟨Nat.zero_le _, Nat.zero_le _⟩ (Nat.le_of_ble_eq_true rfl) rfl dX7_makeStrokes_65 (fun r_F5 F5 H locs hp_F5 h => ?_)
          refine w_top (y := nI (stCnt (strk y))) hp_F5.1 ?_
          refine w_addn kx kb dX7_makeStrokes_68 ?_
          refine lv_istore_n (lv' := [(2, .int (nI (v + (stCnt (strk y))))), (0, .ref (ad 0)), (1, .int (nI k)), (3, .int (nI i))]) kx kb dX7_makeStrokes_69 rfl hl (by decide) rfl (fun ls hl => ?_)
          refine lv_iinc (v := nI (i + 1)) (lv' := [(3, .int (nI (i + 1))), (2, .int (nI (v + (stCnt (strk y))))), (0, .ref (ad 0)), (1, .int (nI k))]) kx kb dX7_makeStrokes_70 hl (k := 3) rfl (nI_add _ _) (by decide) rfl (fun ls hl => ?_)
          refine lv_goto (tgt := 43) kx kb dX7_makeStrokes_73 (by decide) ?_
          exact ih (i + 1) F5 (strokeF y) (v + stCnt (strk y)) _ _ _ ⟨h, lv_sub hl [2, 3, 1, 0] rfl, by omega, (hyS hg40).2, ⟨by omega, hp_F5.2.1.2.1, ⟨by omega, hp_F5.2.1.2.2.1.2.1, ⟨by omega, hp_F5.2.1.2.2.1.2.2.1.2.1, hp_F5.2.1.2.2.1.2.2.1.2.2⟩, ⟨by omega, hp_F5.2.1.2.2.1.2.2.2.1.2.1, hp_F5.2.1.2.2.1.2.2.2.1.2.2⟩, ⟨by omega, hp_F5.2.1.2.2.1.2.2.2.2.1.2.1, hp_F5.2.1.2.2.1.2.2.2.2.1.2.2⟩, ⟨by omega, hp_F5.2.1.2.2.1.2.2.2.2.2.1.2.1, hp_F5.2.1.2.2.1.2.2.2.2.2.1.2.2⟩, ⟨by omega, hp_F5.2.1.2.2.1.2.2.2.2.2.2.2.1, hp_F5.2.1.2.2.1.2.2.2.2.2.2.2.2⟩⟩, ⟨by omega, hp_F5.2.1.2.2.2.1.2.1, ⟨by omega, hp_F5.2.1.2.2.2.1.2.2.1.2.1, hp_F5.2.1.2.2.2.1.2.2.1.2.2⟩, ⟨by omega, hp_F5.2.1.2.2.2.1.2.2.2.1.2.1, hp_F5.2.1.2.2.2.1.2.2.2.1.2.2⟩, hp_F5.2.1.2.2.2.1.2.2.2.2.1, ⟨by omega, hp_F5.2.1.2.2.2.1.2.2.2.2.2.2.1, hp_F5.2.1.2.2.2.1.2.2.2.2.2.2.2⟩⟩, ⟨by omega, hp_F5.2.1.2.2.2.2.2.1, hp_F5.2.1.2.2.2.2.2.2⟩⟩, (fun i hi => (hp_F5.2.2 i (by omega)).trans (hf0 i (by omega))), by rw [show k - i = (k - (i + 1)) + 1 by omega, runX, if_pos hg40] at hX; exact hX, by rw [show k - i = (k - (i + 1)) + 1 by omega, runN, if_pos hg40] at hNn; omega⟩ (by omega)
    · refine lv_aload_n kx kb dX7_makeStrokes_25 rfl (lv_at hl 0 rfl) ?_
      refine lv_bipush (v := nI 8) kx kb dX7_makeStrokes_26 (by decide) ?_
      refine lv_aload_n kx kb dX7_makeStrokes_28 rfl (lv_at hl 0 rfl) ?_
      refine w_get X M h 0 hp.2 (by omega) fl_X7_12 rfl dX7_makeStrokes_29 ?_
      refine w_get X M h 1 hs.2.1 (by omega) fl_X7_235 rfl dX7_makeStrokes_32 ?_
      refine w_callVi X M h [.int (nI 8), .int (nI (x.2.2.2.2.2.2.2 3))] [] ((c_X7_refuse l g q ⟨by omega, hp.2⟩ (nI 8) (nI (x.2.2.2.2.2.2.2 3)))) lk_X7_295 hp.2 (by omega) rfl rfl ⟨by decide, by decide⟩ hl ⟨Nat.zero_le _, Nat.zero_le _⟩ (Nat.le_of_ble_eq_true rfl) rfl dX7_makeStrokes_35 (fun r_F6 F6 H locs hp_F6 h => ?_)
      refine w_top (y := (-5)) hp_F6.1 ?_
      exact w_iret X h (by rw [show pumpF x q (nI k) = _ from by rw [pumpF, if_pos c_1, cl_n (show k < 2147483648 by omega), if_neg (by omega)]]; exact ⟨rfl, ⟨by omega, hp_F6.2.1.2⟩, ⟨by omega, ((hp_F6.2.2 1 (by omega)).trans hs.2.1), ⟨by omega, ((hp_F6.2.2 2 (by omega)).trans hs.2.2.1.2.1), ⟨by omega, ((hp_F6.2.2 3 (by omega)).trans hs.2.2.1.2.2.1.2.1), (hs.2.2.1.2.2.1.2.2.fr (hp_F6.2.2 4 (by omega)))⟩, ⟨by omega, ((hp_F6.2.2 5 (by omega)).trans hs.2.2.1.2.2.2.1.2.1), (hs.2.2.1.2.2.2.1.2.2.fr (hp_F6.2.2 6 (by omega)))⟩, ⟨by omega, ((hp_F6.2.2 7 (by omega)).trans hs.2.2.1.2.2.2.2.1.2.1), (hs.2.2.1.2.2.2.2.1.2.2.fr (hp_F6.2.2 8 (by omega)))⟩, ⟨by omega, ((hp_F6.2.2 9 (by omega)).trans hs.2.2.1.2.2.2.2.2.1.2.1), (hs.2.2.1.2.2.2.2.2.1.2.2.fr (hp_F6.2.2 10 (by omega)))⟩, ⟨by omega, ((hp_F6.2.2 11 (by omega)).trans hs.2.2.1.2.2.2.2.2.2.2.1), (hs.2.2.1.2.2.2.2.2.2.2.2.fr (hp_F6.2.2 12 (by omega)))⟩⟩, ⟨by omega, ((hp_F6.2.2 13 (by omega)).trans hs.2.2.2.1.2.1), ⟨by omega, ((hp_F6.2.2 14 (by omega)).trans hs.2.2.2.1.2.2.1.2.1), (hs.2.2.2.1.2.2.1.2.2.fr (hp_F6.2.2 15 (by omega)))⟩, ⟨by omega, ((hp_F6.2.2 16 (by omega)).trans hs.2.2.2.1.2.2.2.1.2.1), (hs.2.2.2.1.2.2.2.1.2.2.fr (hp_F6.2.2 17 (by omega)))⟩, (hs.2.2.2.1.2.2.2.2.1.fr (hp_F6.2.2 18 (by omega))), ⟨by omega, ((hp_F6.2.2 19 (by omega)).trans hs.2.2.2.1.2.2.2.2.2.2.1), (hs.2.2.2.1.2.2.2.2.2.2.2.fr (hp_F6.2.2 20 (by omega)))⟩⟩, ⟨by omega, ((hp_F6.2.2 21 (by omega)).trans hs.2.2.2.2.2.1), (hs.2.2.2.2.2.2.fr (hp_F6.2.2 22 (by omega)))⟩⟩, (fun i hi => hp_F6.2.2 i (by omega))⟩) dX7_makeStrokes_38
  · refine lv_bipush (v := (-2)) kx kb dX7_makeStrokes_10 (by decide) ?_
    exact w_iret X h (by rw [show pumpF x q a = _ from by rw [pumpF, if_neg c_1]]; exact ⟨rfl, ⟨by omega, hp.2⟩, ⟨by omega, hs.2.1, ⟨by omega, hs.2.2.1.2.1, ⟨by omega, hs.2.2.1.2.2.1.2.1, hs.2.2.1.2.2.1.2.2⟩, ⟨by omega, hs.2.2.1.2.2.2.1.2.1, hs.2.2.1.2.2.2.1.2.2⟩, ⟨by omega, hs.2.2.1.2.2.2.2.1.2.1, hs.2.2.1.2.2.2.2.1.2.2⟩, ⟨by omega, hs.2.2.1.2.2.2.2.2.1.2.1, hs.2.2.1.2.2.2.2.2.1.2.2⟩, ⟨by omega, hs.2.2.1.2.2.2.2.2.2.2.1, hs.2.2.1.2.2.2.2.2.2.2.2⟩⟩, ⟨by omega, hs.2.2.2.1.2.1, ⟨by omega, hs.2.2.2.1.2.2.1.2.1, hs.2.2.2.1.2.2.1.2.2⟩, ⟨by omega, hs.2.2.2.1.2.2.2.1.2.1, hs.2.2.2.1.2.2.2.1.2.2⟩, hs.2.2.2.1.2.2.2.2.1, ⟨by omega, hs.2.2.2.1.2.2.2.2.2.2.1, hs.2.2.2.1.2.2.2.2.2.2.2⟩⟩, ⟨by omega, hs.2.2.2.2.2.1, hs.2.2.2.2.2.2⟩⟩, (fun i hi => rfl)⟩) dX7_makeStrokes_12
