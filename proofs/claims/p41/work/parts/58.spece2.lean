/-! what a text's commands do: the class's against the reference's -/
theorem runN_le : ∀ (k : Nat) {x : SX}, Inv x → runN k x ≤ 5 * k
  | 0, _, _ => Nat.le_refl 0
  | k + 1, x, h => by
    rw [runN]
    split
    · rename_i c
      have h1 := runN_le k (stroke_ok h c).2
      have h2 : stCnt (strk x) ≤ x.2.2.2.2.2.2.1 (x.2.2.2.2.2.2.2 0) := Nat.min_le_right _ _
      have h3 := h.bk (x.2.2.2.2.2.2.2 0)
      omega
    · omega
theorem ansC_pos {x : SX} (h : Inv x) {so : Int32} {f : Nat → Int32} (hc : (notC x so f).1 = 0) : ¬ ansC x so f < 0 := by
  have hn := h.n
  obtain ⟨hz0, hz1a, hz1, hz2, hz3, hz4⟩ := h.zz
  have hbk := h.bk (cl (f 0))
  unfold notC at hc
  unfold ansC
  split
  · exact nI_pos (by omega)
  · rename_i e0
    rw [if_neg e0] at hc
    split
    · rename_i e1
      rw [if_pos e1] at hc
      obtain ⟨k, hk6, ⟨h1, h2, h3⟩, e⟩ := notPump_ok hc
      rw [e, cl_n (by omega)]
      have := runN_le k h
      exact nI_pos (by omega)
    · split
      · exact nI_pos (by omega)
      · split
        · exact nI_pos (by omega)
        · split
          · exact nI_pos (by omega)
          · split
            · exact nI_pos (by omega)
            · split
              · exact nI_pos (by omega)
              · exact nI_pos (by omega)
theorem turnR_iva {q : Nat → Int32} {x : SX} {t : NT} {a : Int32} {x' : SX} (h : Iva x) (h2 : t.1 = 0 → Iva x') : Iva (turnR q x t a x').2.2 := by
  unfold turnR
  split
  · rename_i c; exact h2 c
  · exact h
theorem dcF_iva {x : SX} {q : Nat → Int32} {kd nm : Nat → Int32} {cm : Nat} (h : Iva x) : Iva (dcF x q kd nm cm).2.2 := by
  by_cases e0 : kd cm = nI 0
  · rw [dcF_0 e0]; exact turnR_iva h (fun c => h.doC c)
  by_cases e1 : kd cm = nI 1
  · rw [dcF_1 e1]; exact turnR_iva h (fun c => h.doC c)
  by_cases e2 : kd cm = nI 2
  · rw [dcF_2 e2]; exact turnR_iva h (fun c => h.doC c)
  by_cases e3 : kd cm = nI 3
  · rw [dcF_3 e3]; exact turnR_iva h (fun c => h.doC c)
  by_cases e4 : kd cm = nI 4
  · rw [dcF_4 e4]; exact turnR_iva h (fun c => h.doC c)
  by_cases e5 : kd cm = nI 5
  · rw [dcF_5 e5]; exact turnR_iva h (fun c => h.doC c)
  by_cases e6 : kd cm = nI 6
  · rw [dcF_6 e6]; exact turnR_iva h (fun c => h.doC c)
  by_cases e7 : kd cm = nI 7
  · rw [dcF_7 e7]; exact turnR_iva h (fun c => h.doC c)
  rw [dcF, if_neg e0, if_neg e1, if_neg e2, if_neg e3, if_neg e4, if_neg e5, if_neg e6, if_neg e7]
  exact h
def qBad (q : Nat → Int32) (t : NT) (k : Nat) : Nat → Int32 := qRfC (if t.1 = -5 then qRef q t.2.1 t.2.2 else q) (nI k) (if t.1 = -5 then nI 1 else nI 0)
