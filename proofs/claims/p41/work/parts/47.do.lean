theorem notC_106 {x : SX} {so : Int32} {nm : Nat → Int32} (e : so = nI 106) : notC x so nm = notJokeF x (nm 0) (nm 1) (nm 2) (nm 3) := by
  simp only [notC, e, ↓reduceIte]
theorem notC_112 {x : SX} {so : Int32} {nm : Nat → Int32} (e : so = nI 112) : notC x so nm = notPumpF x (nm 0) := by
  simp only [notC, e, if_neg (show ¬ nI 112 = nI 106 by decide), ↓reduceIte]
theorem notC_114 {x : SX} {so : Int32} {nm : Nat → Int32} (e : so = nI 114) : notC x so nm = notPrimeF x (nm 0) := by
  simp only [notC, e, if_neg (show ¬ nI 114 = nI 106 by decide), if_neg (show ¬ nI 114 = nI 112 by decide), ↓reduceIte]
theorem notC_100 {x : SX} {so : Int32} {nm : Nat → Int32} (e : so = nI 100) : notC x so nm = notDrainF x (nm 0) := by
  simp only [notC, e, if_neg (show ¬ nI 100 = nI 106 by decide), if_neg (show ¬ nI 100 = nI 112 by decide), if_neg (show ¬ nI 100 = nI 114 by decide), ↓reduceIte]
theorem notC_111 {x : SX} {so : Int32} {nm : Nat → Int32} (e : so = nI 111) : notC x so nm = notDropF x (nm 0) := by
  simp only [notC, e, if_neg (show ¬ nI 111 = nI 106 by decide), if_neg (show ¬ nI 111 = nI 112 by decide), if_neg (show ¬ nI 111 = nI 114 by decide), if_neg (show ¬ nI 111 = nI 100 by decide), ↓reduceIte]
theorem notC_115 {x : SX} {so : Int32} {nm : Nat → Int32} (e : so = nI 115) : notC x so nm = notStrokeF x (nm 0) := by
  simp only [notC, e, if_neg (show ¬ nI 115 = nI 106 by decide), if_neg (show ¬ nI 115 = nI 112 by decide), if_neg (show ¬ nI 115 = nI 114 by decide), if_neg (show ¬ nI 115 = nI 100 by decide), if_neg (show ¬ nI 115 = nI 111 by decide), ↓reduceIte]
theorem notC_98 {x : SX} {so : Int32} {nm : Nat → Int32} (e : so = nI 98) : notC x so nm = notBucketF x (nm 0) (nm 1) := by
  simp only [notC, e, if_neg (show ¬ nI 98 = nI 106 by decide), if_neg (show ¬ nI 98 = nI 112 by decide), if_neg (show ¬ nI 98 = nI 114 by decide), if_neg (show ¬ nI 98 = nI 100 by decide), if_neg (show ¬ nI 98 = nI 111 by decide), if_neg (show ¬ nI 98 = nI 115 by decide), ↓reduceIte]
theorem notC_103 {x : SX} {so : Int32} {nm : Nat → Int32} (e : so = nI 103) : notC x so nm = notGoF x (nm 0) := by
  simp only [notC, e, if_neg (show ¬ nI 103 = nI 106 by decide), if_neg (show ¬ nI 103 = nI 112 by decide), if_neg (show ¬ nI 103 = nI 114 by decide), if_neg (show ¬ nI 103 = nI 100 by decide), if_neg (show ¬ nI 103 = nI 111 by decide), if_neg (show ¬ nI 103 = nI 115 by decide), if_neg (show ¬ nI 103 = nI 98 by decide), ↓reduceIte]
theorem doC_106 {x : SX} {so : Int32} {nm : Nat → Int32} (e : so = nI 106) : doC x so nm = xCome x (nm 0) (nm 1) (nm 2) (nm 3) := by
  simp only [doC, e, ↓reduceIte]
theorem doC_112 {x : SX} {so : Int32} {nm : Nat → Int32} (e : so = nI 112) : doC x so nm = runX (cl (nm 0)) x := by
  simp only [doC, e, if_neg (show ¬ nI 112 = nI 106 by decide), ↓reduceIte]
theorem doC_114 {x : SX} {so : Int32} {nm : Nat → Int32} (e : so = nI 114) : doC x so nm = xPrime x (cl (nm 0)) := by
  simp only [doC, e, if_neg (show ¬ nI 114 = nI 106 by decide), if_neg (show ¬ nI 114 = nI 112 by decide), ↓reduceIte]
theorem doC_100 {x : SX} {so : Int32} {nm : Nat → Int32} (e : so = nI 100) : doC x so nm = xDrain x (cl (nm 0)) := by
  simp only [doC, e, if_neg (show ¬ nI 100 = nI 106 by decide), if_neg (show ¬ nI 100 = nI 112 by decide), if_neg (show ¬ nI 100 = nI 114 by decide), ↓reduceIte]
theorem doC_111 {x : SX} {so : Int32} {nm : Nat → Int32} (e : so = nI 111) : doC x so nm = xGo x (cl (nm 0)) := by
  simp only [doC, e, if_neg (show ¬ nI 111 = nI 106 by decide), if_neg (show ¬ nI 111 = nI 112 by decide), if_neg (show ¬ nI 111 = nI 114 by decide), if_neg (show ¬ nI 111 = nI 100 by decide), ↓reduceIte]
theorem doC_115 {x : SX} {so : Int32} {nm : Nat → Int32} (e : so = nI 115) : doC x so nm = xZ x (zUp x.2.2.2.2.2.2.2 1 (cl (nm 0))) := by
  simp only [doC, e, if_neg (show ¬ nI 115 = nI 106 by decide), if_neg (show ¬ nI 115 = nI 112 by decide), if_neg (show ¬ nI 115 = nI 114 by decide), if_neg (show ¬ nI 115 = nI 100 by decide), if_neg (show ¬ nI 115 = nI 111 by decide), ↓reduceIte]
theorem doC_98 {x : SX} {so : Int32} {nm : Nat → Int32} (e : so = nI 98) : doC x so nm = xBuck x (cl (nm 0)) (cl (nm 1)) := by
  simp only [doC, e, if_neg (show ¬ nI 98 = nI 106 by decide), if_neg (show ¬ nI 98 = nI 112 by decide), if_neg (show ¬ nI 98 = nI 114 by decide), if_neg (show ¬ nI 98 = nI 100 by decide), if_neg (show ¬ nI 98 = nI 111 by decide), if_neg (show ¬ nI 98 = nI 115 by decide), ↓reduceIte]
theorem doC_103 {x : SX} {so : Int32} {nm : Nat → Int32} (e : so = nI 103) : doC x so nm = xZ x (zUp (zUp x.2.2.2.2.2.2.2 0 (cl (nm 0))) 2 0) := by
  simp only [doC, e, if_neg (show ¬ nI 103 = nI 106 by decide), if_neg (show ¬ nI 103 = nI 112 by decide), if_neg (show ¬ nI 103 = nI 114 by decide), if_neg (show ¬ nI 103 = nI 100 by decide), if_neg (show ¬ nI 103 = nI 111 by decide), if_neg (show ¬ nI 103 = nI 115 by decide), if_neg (show ¬ nI 103 = nI 98 by decide), ↓reduceIte]
