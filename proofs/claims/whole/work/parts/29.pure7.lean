/-! the reference's answers -/
def yL1 (S : Nat → Bool) (bo : Nat → Nat) (da : Nat → Bool) (fi : Nat → Int32) : Nat → Int32
  | 0 => (-5000 : Int32)
  | k + 1 => if (S (bo k) && da k) = true then imax (yL1 S bo da fi k) (fi k) else yL1 S bo da fi k
theorem yL1_y {S : Nat → Bool} {bo : Nat → Nat} {da : Nat → Bool} {fi : Nat → Int32} {k : Nat} (h : (S (bo k) && da k) = true) : imax (yL1 S bo da fi k) (fi k) = yL1 S bo da fi (k + 1) := by rw [yL1, if_pos h]
theorem yL1_n {S : Nat → Bool} {bo : Nat → Nat} {da : Nat → Bool} {fi : Nat → Int32} {k : Nat} (h : (S (bo k) && da k) = false) : yL1 S bo da fi k = yL1 S bo da fi (k + 1) := by rw [yL1, if_neg (by rw [h]; exact Bool.false_ne_true)]
def yU1 (S : Nat → Bool) (bo : Nat → Nat) (da : Nat → Bool) (la : Nat → Int32) : Nat → Int32
  | 0 => nI 2000
  | k + 1 => if (S (bo k) && da k) = true then imin (yU1 S bo da la k) (la k) else yU1 S bo da la k
theorem yU1_y {S : Nat → Bool} {bo : Nat → Nat} {da : Nat → Bool} {la : Nat → Int32} {k : Nat} (h : (S (bo k) && da k) = true) : imin (yU1 S bo da la k) (la k) = yU1 S bo da la (k + 1) := by rw [yU1, if_pos h]
theorem yU1_n {S : Nat → Bool} {bo : Nat → Nat} {da : Nat → Bool} {la : Nat → Int32} {k : Nat} (h : (S (bo k) && da k) = false) : yU1 S bo da la k = yU1 S bo da la (k + 1) := by rw [yU1, if_neg (by rw [h]; exact Bool.false_ne_true)]
def yL2 (S : Nat → Bool) (bo fu : Nat → Nat) (fp : Nat → Int32) (b0 : Int32) : Nat → Int32
  | 0 => b0
  | k + 1 => if S (bo (fu k)) = true then imax (yL2 S bo fu fp b0 k) (fp (7 * k + 2)) else yL2 S bo fu fp b0 k
theorem yL2_y {S : Nat → Bool} {bo fu : Nat → Nat} {fp : Nat → Int32} {b0 : Int32} {k : Nat} (h : S (bo (fu k)) = true) : imax (yL2 S bo fu fp b0 k) (fp (7 * k + 2)) = yL2 S bo fu fp b0 (k + 1) := by rw [yL2, if_pos h]
theorem yL2_n {S : Nat → Bool} {bo fu : Nat → Nat} {fp : Nat → Int32} {b0 : Int32} {k : Nat} (h : S (bo (fu k)) = false) : yL2 S bo fu fp b0 k = yL2 S bo fu fp b0 (k + 1) := by rw [yL2, if_neg (by rw [h]; exact Bool.false_ne_true)]
def yLo (bo : Nat → Nat) (eE : Nat → Nat → Bool) (da : Nat → Bool) (fi : Nat → Int32) (un : Nat) (fu : Nat → Nat) (fp : Nat → Int32) (fn u : Nat) : Int32 := yL2 (fun i => eE (bo u) i || decide (i = bo u)) bo fu fp (yL1 (fun i => eE (bo u) i || decide (i = bo u)) bo da fi un) fn
def yUp (bo : Nat → Nat) (lE : Nat → Nat → Bool) (da : Nat → Bool) (la : Nat → Int32) (un u : Nat) : Int32 := yU1 (fun i => lE (bo u) i || decide (i = bo u)) bo da la un
def yDb (bo : Nat → Nat) (eE lE : Nat → Nat → Bool) (da : Nat → Bool) (fi la : Nat → Int32) (un : Nat) (fu : Nat → Nat) (fp : Nat → Int32) (fn u : Nat) : Bool := decide (yUp bo lE da la un u < yLo bo eE da fi un fu fp fn u)
def isB (bo : Nat → Nat) (v : Nat) : Bool := decide (bo v = v)
def cgB (un : Nat) (bo : Nat → Nat) (lE : Nat → Nat → Bool) (dg : Nat → Bool) (u : Nat) : Bool := !(dg u) && !(anyB (fun v => lE (bo u) (bo v) && !(dg v)) un)
/-- what counted() tells -/
def cR (un rn fn : Nat) (dg : Nat → Bool) (li : Nat → Nat → Bool) (be : Nat → Int32) (bo : Nat → Nat) (eE lE : Nat → Nat → Bool) (da : Nat → Bool) (fi la : Nat → Int32) (fu : Nat → Nat) (fp ps : Nat → Int32) (q : Nat) : Int32 := match q with
  | 0 => nI un
  | 1 => nI rn
  | 2 => nI (cnt (isB bo) un)
  | 3 => bcS li un
  | 4 => nI fn
  | 5 => nI (cnt dg un)
  | 6 => nI (cnt (fun v => isB bo v && yDb bo eE lE da fi la un fu fp fn v) un)
  | 7 => lvS (isB bo) be un
  | _ => nI (ppS (poB bo eE ps) un un)
/-- what unitTold() tells -/
def uR (ss be ab : Nat → Int32) (bo : Nat → Nat) (eE lE : Nat → Nat → Bool) (dg : Nat → Bool) (ps : Nat → Int32) (un : Nat) (fu : Nat → Nat) (fn j q : Nat) : Int32 := match q with
  | 0 => ss j
  | 1 => nI (bo j)
  | 2 => nI (cnt (fun v => decide (bo v = bo j)) un)
  | 3 => be (bo j)
  | 4 => ab (bo j)
  | 5 => bcI (bs (eE (bo j)))
  | 6 => bcI (bs (lE (bo j)))
  | 7 => b2i (dg j)
  | 8 => ps j
  | _ => nI (cnt (fun v => decide (fu v = j)) fn)
/-- whether a find's years fit -/
def mR (bo : Nat → Nat) (eE lE : Nat → Nat → Bool) (da : Nat → Bool) (fi la : Nat → Int32) (un : Nat) (fu : Nat → Nat) (fp : Nat → Int32) (fn j : Nat) : Nat := if yUp bo lE da la un (fu j) < fp (7 * j + 2) then 2 else if fp (7 * j + 3) < yLo bo eE da fi un fu fp fn (fu j) then 1 else 0
def fR (bo : Nat → Nat) (eE lE : Nat → Nat → Bool) (da : Nat → Bool) (fi la : Nat → Int32) (un : Nat) (fu : Nat → Nat) (fp : Nat → Int32) (fn j q : Nat) : Int32 := if q < 7 then fp (7 * j + q) else nI (mR bo eE lE da fi la un fu fp fn j)
/-- how far it is to a body, by links -/
def fr1 (li : Nat → Nat → Bool) (u : Nat) (F : Nat → Int32) : Nat → Nat → Int32
  | 0 => F
  | k + 1 => if li u k = true ∧ ¬ fr1 li u F k k = (-1 : Int32) then va_up (fr1 li u F k) u (imax (fr1 li u F k u) (fr1 li u F k k + nI 1)) else fr1 li u F k
theorem fr1_y {li : Nat → Nat → Bool} {u k : Nat} {F : Nat → Int32} (h : li u k = true) (h2 : ¬ fr1 li u F k k = (-1 : Int32)) : va_up (fr1 li u F k) u (imax (fr1 li u F k u) (fr1 li u F k k + nI 1)) = fr1 li u F (k + 1) := by rw [fr1, if_pos ⟨h, h2⟩]
theorem fr1_n1 {li : Nat → Nat → Bool} {u k : Nat} {F : Nat → Int32} (h : li u k = false) : fr1 li u F k = fr1 li u F (k + 1) := by rw [fr1, if_neg (fun c => by rw [h] at c; exact Bool.false_ne_true c.1)]
theorem fr1_n2 {li : Nat → Nat → Bool} {u k : Nat} {F : Nat → Int32} (h : fr1 li u F k k = (-1 : Int32)) : fr1 li u F k = fr1 li u F (k + 1) := by rw [fr1, if_neg (fun c => c.2 h)]
def fr2 (li : Nat → Nat → Bool) (n : Nat) (F : Nat → Int32) : Nat → Nat → Int32
  | 0 => F
  | u + 1 => fr1 li u (fr2 li n F u) n
def fr3 (li : Nat → Nat → Bool) (n : Nat) (F : Nat → Int32) : Nat → Nat → Int32
  | 0 => F
  | t + 1 => fr2 li n (fr3 li n F t) n
def fr0 (to : Nat) : Nat → Int32 := fun u => if u = to then nI 0 else (-1 : Int32)
def frT (li : Nat → Nat → Bool) (n to : Nat) : Nat → Int32 := fr3 li n (pre (fr0 to) (fun _ => nI 0) 40) n
/-- the body at a place on the longest way -/
def rwN (li : Nat → Nat → Bool) (F : Nat → Int32) (x : Nat) : Nat → Bool := fun v => li x v && decide (F v = F x - nI 1)
def rwS (li : Nat → Nat → Bool) (F : Nat → Int32) (top : Nat) : Nat → Nat
  | 0 => top
  | k + 1 => (fst1 (rwN li F (rwS li F top k)) 40).getD 0
def rwR (li : Nat → Nat → Bool) (F : Nat → Int32) (top z : Nat) : Int32 := if F top = (-1 : Int32) ∨ F top < nI z then (-1 : Int32) else nI (rwS li F top z)
def rrC (ss ks : Nat → Int32) (os ts : Nat → Nat) (rn : Nat) (kd : Int32) (x y : Nat) : Nat := if x = y then 1 else if sfB kd (ss x) (ss y) = false then 2 else if anyB (toldP ks os ts kd x y) rn = true then 3 else 0
theorem rrC_1 {ss ks : Nat → Int32} {os ts : Nat → Nat} {rn : Nat} {kd : Int32} {x y : Nat} (h : x = y) : rrC ss ks os ts rn kd x y = 1 := if_pos h
theorem rrC_2 {ss ks : Nat → Int32} {os ts : Nat → Nat} {rn : Nat} {kd : Int32} {x y : Nat} (h : ¬ x = y) (h2 : sfB kd (ss x) (ss y) = false) : rrC ss ks os ts rn kd x y = 2 := by rw [rrC, if_neg h, if_pos h2]
theorem rrC_3 {ss ks : Nat → Int32} {os ts : Nat → Nat} {rn : Nat} {kd : Int32} {x y : Nat} (h : ¬ x = y) (h2 : sfB kd (ss x) (ss y) = true) (h3 : anyB (toldP ks os ts kd x y) rn = true) : rrC ss ks os ts rn kd x y = 3 := by rw [rrC, if_neg h, if_neg (by rw [h2]; exact Bool.noConfusion), if_pos h3]
theorem rrC_0 {ss ks : Nat → Int32} {os ts : Nat → Nat} {rn : Nat} {kd : Int32} {x y : Nat} (h : ¬ x = y) (h2 : sfB kd (ss x) (ss y) = true) (h3 : anyB (toldP ks os ts kd x y) rn = false) : rrC ss ks os ts rn kd x y = 0 := by rw [rrC, if_neg h, if_neg (by rw [h2]; exact Bool.noConfusion), if_neg (by rw [h3]; exact Bool.noConfusion)]
