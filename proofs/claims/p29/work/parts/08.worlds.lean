/-! THE TWO WORLDS: the class's cells, the reference's cells, each ahead of any others -/
def wC (κ : aK) (a : Nat → Nat) (n : Nat) (dug : Nat → Bool) (dtd : Nat → Bool) (so : Nat → Int32) (ph : Nat → Int32) (uf : Nat → Int32) (ul : Nat → Int32) (r : Nat) (ki : Nat → Int32) (lt : Nat → Nat) (er : Nat → Nat) (mz : Nat) (bd : Nat → Bool) (bo : Nat → Nat) (me : Nat → Nat → Bool) (dE : Nat → Nat → Bool) (eE : Nat → Nat → Bool) (lE : Nat → Nat → Bool) (li : Nat → Nat → Bool) (fB : Nat → Int32) (fA : Nat → Int32) (sL : Nat → Int32) (f : Nat) (fu : Nat → Nat) (fs : Nat → Int32) (ff : Nat → Int32) (fl : Nat → Int32) (xs : Nat → Int32) (ys : Nat → Int32) (zs : Nat → Int32) (oL : Nat → Int32) (oU : Nat → Int32) (lo : Nat → Int32) (up : Nat → Int32) (X : va_W) : va_W :=
  (a 0, .inr (5, [.ref (a 1), .ref (a 2), .ref (a 3), .ref (a 4), .ref (a 5)])) ::
  (a 1, .inr (4, [.int (nI n), .long (bs dug), .long (bs dtd), .ref (a 6), .ref (a 7), .ref (a 8), .ref (a 9)])) ::
  (a 2, .inr (3, [.int (nI r), .ref (a 10), .ref (a 11), .ref (a 12)])) ::
  (a 3, .inr (2, [.int (nI mz), .long (bs bd), .ref (a 13), .ref (a 14), .ref (a 15), .ref (a 16), .ref (a 17), .ref (a 18), .ref (a 19), .ref (a 20), .ref (a 21)])) ::
  (a 4, .inr (1, [.int (nI f), .ref (a 22), .ref (a 23), .ref (a 24), .ref (a 25), .ref (a 26), .ref (a 27), .ref (a 28)])) ::
  (a 5, .inr (0, [.ref (a 29), .ref (a 30), .ref (a 31), .ref (a 32)])) ::
  (a 6, .inl (kI κ, 40, .inl so)) ::
  (a 7, .inl (kI κ, 40, .inl ph)) ::
  (a 8, .inl (kI κ, 40, .inl uf)) ::
  (a 9, .inl (kI κ, 40, .inl ul)) ::
  (a 10, .inl (kI κ, 80, .inl ki)) ::
  (a 11, .inl (kI κ, 80, .inl (fN lt))) ::
  (a 12, .inl (kI κ, 80, .inl (fN er))) ::
  (a 13, .inl (kI κ, 40, .inl (fN bo))) ::
  (a 14, .inl (kJ κ, 40, .inr (.inl (fS me)))) ::
  (a 15, .inl (kJ κ, 40, .inr (.inl (fS dE)))) ::
  (a 16, .inl (kJ κ, 40, .inr (.inl (fS eE)))) ::
  (a 17, .inl (kJ κ, 40, .inr (.inl (fS lE)))) ::
  (a 18, .inl (kJ κ, 40, .inr (.inl (fS li)))) ::
  (a 19, .inl (kI κ, 40, .inl fB)) ::
  (a 20, .inl (kI κ, 40, .inl fA)) ::
  (a 21, .inl (kI κ, 40, .inl sL)) ::
  (a 22, .inl (kI κ, 60, .inl (fN fu))) ::
  (a 23, .inl (kI κ, 60, .inl fs)) ::
  (a 24, .inl (kI κ, 60, .inl ff)) ::
  (a 25, .inl (kI κ, 60, .inl fl)) ::
  (a 26, .inl (kI κ, 60, .inl xs)) ::
  (a 27, .inl (kI κ, 60, .inl ys)) ::
  (a 28, .inl (kI κ, 60, .inl zs)) ::
  (a 29, .inl (kI κ, 40, .inl oL)) ::
  (a 30, .inl (kI κ, 40, .inl oU)) ::
  (a 31, .inl (kI κ, 40, .inl lo)) ::
  (a 32, .inl (kI κ, 40, .inl up)) :: X
