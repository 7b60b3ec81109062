/-! THE TWO WORLDS: the class's cells, the reference's cells, each ahead of any others -/
def wC (κ : aK) (a : Nat → Nat) (n : Nat) (dug : Nat → Bool) (dtd : Nat → Bool) (so : Nat → Int32) (ph : Nat → Int32) (uf : Nat → Int32) (ul : Nat → Int32) (r : Nat) (ki : Nat → Int32) (lt : Nat → Nat) (er : Nat → Nat) (mz : Nat) (bd : Nat → Bool) (bo : Nat → Nat) (me : Nat → Nat → Bool) (dE : Nat → Nat → Bool) (eE : Nat → Nat → Bool) (lE : Nat → Nat → Bool) (li : Nat → Nat → Bool) (fB : Nat → Int32) (fA : Nat → Int32) (sL : Nat → Int32) (f : Nat) (fu : Nat → Nat) (fs : Nat → Int32) (ff : Nat → Int32) (fl : Nat → Int32) (xs : Nat → Int32) (ys : Nat → Int32) (zs : Nat → Int32) (oL : Nat → Int32) (oU : Nat → Int32) (lo : Nat → Int32) (up : Nat → Int32) (X : va_W) : va_W :=
  (a 0, .inr (5, [.ref (a 1), .ref (a 2), .ref (a 3), .ref (a 4), .ref (a 5)])) ::
  (a 1, .inr (4, [.int (nI n), .long (bs dug), .long (bs dtd), .ref (a 6), .ref (a 7), .ref (a 8), .ref (a 9)])) ::
  (a 2, .inr (3, [.int (nI r), .ref (a 10), .ref (a 11), .ref (a 12)])) ::
  (a 3, .inr (2, [.int (nI mz), .long (bs bd), .ref (a 13), .ref (a 14), .ref (a 15), .ref (a 16), .ref (a 17), .ref (a 18), .ref (a 19), .ref (a 20), .ref (a 21)])) ::
  (a 4, .inr (1, [.int (nI f), .ref (a 22), .ref (a 23), .ref (a 24), .ref (a 25), .ref (a 26), .ref (a 27), .ref (a 28)])) ::
  (a 5, .inr (0, [.ref (a 29), .ref (a 30), .ref (a 31), .ref (a 32)])) ::
  (a 6, .inl (kI κ, 40, .inl so)) ::
  (a 7, .inl (kI κ, 40, .inl ph)) ::
  (a 8, .inl (kI κ, 40, .inl uf)) ::
  (a 9, .inl (kI κ, 40, .inl ul)) ::
  (a 10, .inl (kI κ, 80, .inl ki)) ::
  (a 11, .inl (kI κ, 80, .inl (fN lt))) ::
  (a 12, .inl (kI κ, 80, .inl (fN er))) ::
  (a 13, .inl (kI κ, 40, .inl (fN bo))) ::
  (a 14, .inl (kJ κ, 40, .inr (.inl (fS me)))) ::
  (a 15, .inl (kJ κ, 40, .inr (.inl (fS dE)))) ::
  (a 16, .inl (kJ κ, 40, .inr (.inl (fS eE)))) ::
  (a 17, .inl (kJ κ, 40, .inr (.inl (fS lE)))) ::
  (a 18, .inl (kJ κ, 40, .inr (.inl (fS li)))) ::
  (a 19, .inl (kI κ, 40, .inl fB)) ::
  (a 20, .inl (kI κ, 40, .inl fA)) ::
  (a 21, .inl (kI κ, 40, .inl sL)) ::
  (a 22, .inl (kI κ, 60, .inl (fN fu))) ::
  (a 23, .inl (kI κ, 60, .inl fs)) ::
  (a 24, .inl (kI κ, 60, .inl ff)) ::
  (a 25, .inl (kI κ, 60, .inl fl)) ::
  (a 26, .inl (kI κ, 60, .inl xs)) ::
  (a 27, .inl (kI κ, 60, .inl ys)) ::
  (a 28, .inl (kI κ, 60, .inl zs)) ::
  (a 29, .inl (kI κ, 40, .inl oL)) ::
  (a 30, .inl (kI κ, 40, .inl oU)) ::
  (a 31, .inl (kI κ, 40, .inl lo)) ::
  (a 32, .inl (kI κ, 40, .inl up)) :: X
def wM (κ : aK) (b : Nat → Nat) (th : Int32) (un : Nat) (ss : Nat → Int32) (fi : Nat → Int32) (la : Nat → Int32) (da : Nat → Bool) (dg : Nat → Bool) (ps : Nat → Int32) (rn : Nat) (ks : Nat → Int32) (os : Nat → Nat) (ts : Nat → Nat) (fn : Nat) (fp : Nat → Int32) (bo : Nat → Nat) (eE : Nat → Nat → Bool) (lE : Nat → Nat → Bool) (li : Nat → Nat → Bool) (be : Nat → Int32) (ab : Nat → Int32) (X : va_W) : va_W :=
  (b 0, .inr (6, [.int th, .int (nI un), .ref (b 1), .ref (b 2), .ref (b 3), .ref (b 4), .ref (b 5), .ref (b 6), .int (nI rn), .ref (b 7), .ref (b 8), .ref (b 9), .int (nI fn), .ref (b 10), .ref (b 11), .ref (b 12), .ref (b 13), .ref (b 14), .ref (b 15), .ref (b 16)])) ::
  (b 1, .inl (kI κ, 40, .inl ss)) ::
  (b 2, .inl (kI κ, 40, .inl fi)) ::
  (b 3, .inl (kI κ, 40, .inl la)) ::
  (b 4, .inl (kZ κ, 40, .inl (fZ da))) ::
  (b 5, .inl (kZ κ, 40, .inl (fZ dg))) ::
  (b 6, .inl (kI κ, 40, .inl ps)) ::
  (b 7, .inl (kI κ, 80, .inl ks)) ::
  (b 8, .inl (kI κ, 80, .inl (fN os))) ::
  (b 9, .inl (kI κ, 80, .inl (fN ts))) ::
  (b 10, .inl (kI κ, 420, .inl fp)) ::
  (b 11, .inl (kI κ, 40, .inl (fN bo))) ::
  (b 12, .inl (kJ κ, 40, .inr (.inl (fS eE)))) ::
  (b 13, .inl (kJ κ, 40, .inr (.inl (fS lE)))) ::
  (b 14, .inl (kJ κ, 40, .inr (.inl (fS li)))) ::
  (b 15, .inl (kI κ, 40, .inl be)) ::
  (b 16, .inl (kI κ, 40, .inl ab)) :: X
