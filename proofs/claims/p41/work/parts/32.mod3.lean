def hPush (hs : Nat → SX) (c : Nat) (x : SX) : Nat → SX := fun i => if i = min c 7 then x else if c = 8 then hs (i + 1) else hs i
