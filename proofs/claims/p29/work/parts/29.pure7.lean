/-! the reference's answers -/
def yL1 (S : Nat → Bool) (bo : Nat → Nat) (da : Nat → Bool) (fi : Nat → Int32) : Nat → Int32
  | 0 => (-5000 : Int32)
  | k + 1 => if (S (bo k) && da k) = true then imax (yL1 S bo da fi k) (fi k) else yL1 S bo da fi k
def yU1 (S : Nat → Bool) (bo : Nat → Nat) (da : Nat → Bool) (la : Nat → Int32) : Nat → Int32
  | 0 => nI 2000
  | k + 1 => if (S (bo k) && da k) = true then imin (yU1 S bo da la k) (la k) else yU1 S bo da la k
def yL2 (S : Nat → Bool) (bo fu : Nat → Nat) (fp : Nat → Int32) (b0 : Int32) : Nat → Int32
  | 0 => b0
  | k + 1 => if S (bo (fu k)) = true then imax (yL2 S bo fu fp b0 k) (fp (7 * k + 2)) else yL2 S bo fu fp b0 k
def yLo (bo : Nat → Nat) (eE : Nat → Nat → Bool) (da : Nat → Bool) (fi : Nat → Int32) (un : Nat) (fu : Nat → Nat) (fp : Nat → Int32) (fn u : Nat) : Int32 := yL2 (fun i => eE (bo u) i || decide (i = bo u)) bo fu fp (yL1 (fun i => eE (bo u) i || decide (i = bo u)) bo da fi un) fn
def yUp (bo : Nat → Nat) (lE : Nat → Nat → Bool) (da : Nat → Bool) (la : Nat → Int32) (un u : Nat) : Int32 := yU1 (fun i => lE (bo u) i || decide (i = bo u)) bo da la un
/-- the body at a place on the longest way -/
def rwN (li : Nat → Nat → Bool) (F : Nat → Int32) (x : Nat) : Nat → Bool := fun v => li x v && decide (F v = F x - nI 1)
def rwS (li : Nat → Nat → Bool) (F : Nat → Int32) (top : Nat) : Nat → Nat
  | 0 => top
  | k + 1 => (fst1 (rwN li F (rwS li F top k)) 40).getD 0
