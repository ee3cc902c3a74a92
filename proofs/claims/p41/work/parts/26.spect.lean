/-! texts: what a text's commands do -/
def dcF (x : SX) (q : Nat → Int32) (kd nm : NM) (cm : Nat) : RES := if kd cm = nI 0 then letComeF x q (nm (cm * 4 + 0)) (nm (cm * 4 + 1)) (nm (cm * 4 + 2)) (nm (cm * 4 + 3)) else if kd cm = nI 1 then primeF x q (nm (cm * 4 + 0)) else if kd cm = nI 2 then letGoF x q (nm (cm * 4 + 0)) else if kd cm = nI 3 then drainF x q (nm (cm * 4 + 0)) else if kd cm = nI 4 then strokeSF x q (nm (cm * 4 + 0)) else if kd cm = nI 5 then bucketF x q (nm (cm * 4 + 0)) (nm (cm * 4 + 1)) else if kd cm = nI 6 then goF x q (nm (cm * 4 + 0)) else if kd cm = nI 7 then pumpF x q (nm (cm * 4 + 0)) else (-2, q, x)
def qRfC (q : Nat → Int32) (cm b : Int32) : Nat → Int32 := fun i => match i with
  | 2 => nI 9
  | 3 => cm
  | 4 => if b = 0 then nI 0 else q 2
  | 5 => if b = 0 then nI 0 else q 3
  | i => q i
def dsF (rc : Nat) (kd nm : NM) : Nat → Nat → SX → (Nat → Int32) → RES
  | 0, _, x, q => (nI rc, q, x)
  | f + 1, cm, x, q => if (dcF x q kd nm cm).1 < 0 then (-5, qRfC (dcF x q kd nm cm).2.1 (nI cm) (if (dcF x q kd nm cm).1 = -5 then nI 1 else nI 0), (dcF x q kd nm cm).2.2) else dsF rc kd nm f (cm + 1) (dcF x q kd nm cm).2.2 (dcF x q kd nm cm).2.1
def qFlt (q : Nat → Int32) (v : Int32) : Nat → Int32 := fun i => match i with
  | 1 => v
  | i => q i
def dsR (x : SX) (q : Nat → Int32) (T : RDX) : RES := dsF T.1 T.2.2.1 T.2.2.2 T.1 0 x q
def rdF (x : SX) (q : Nat → Int32) (T : Bool × RDX) : RES := if T.1 = true then ((dsR x q T.2).1, (dsR x q T.2).2.1, if (dsR x q T.2).1 < 0 then x else (dsR x q T.2).2.2) else (-2, qFlt q (nI T.2.2.1), x)
theorem itF_le (n : Nat) (a : NM) : ∀ (f : Nat) (x : RDX), (itF n a f x).2.1 ≤ x.1 + f ∧ (itF n a f x).2.2.1 ≤ x.2.1 + 25 * f
  | 0, x => by rw [itF]; exact ⟨Nat.le_refl _, Nat.le_refl _⟩
  | f + 1, x => by
    have h := tcF_le n a x.2.1 x.1 x.2.2.1 8 0 x.2.1 x.2.2.2 rfl (by omega)
    have h1 : (tcR n a x.2.1 x).2.1 ≤ x.1 + 1 := h.2
    have h2 : (tcR n a x.2.1 x).2.2.1 ≤ x.2.1 + 24 := h.1
    have hi := itF_le n a f ((tcR n a x.2.1 x).2.1, (tcR n a x.2.1 x).2.2.1 + 1, (tcR n a x.2.1 x).2.2.2.1, (tcR n a x.2.1 x).2.2.2.2)
    rw [itF]
    split
    · split
      · exact ⟨by show (tcR n a x.2.1 x).2.1 ≤ _; omega, by show (tcR n a x.2.1 x).2.2.1 ≤ _; omega⟩
      · split
        · exact ⟨Nat.le_trans hi.1 (by show (tcR n a x.2.1 x).2.1 + f ≤ _; omega), Nat.le_trans hi.2 (by show (tcR n a x.2.1 x).2.2.1 + 1 + 25 * f ≤ _; omega)⟩
        · exact ⟨by show (tcR n a x.2.1 x).2.1 ≤ _; omega, by show (tcR n a x.2.1 x).2.2.1 ≤ _; omega⟩
    · exact ⟨by show (tcR n a x.2.1 x).2.1 ≤ _; omega, by show (tcR n a x.2.1 x).2.2.1 ≤ _; omega⟩
