theorem okU_nf {n : Nat} {x : Int32} (hn : n < 2 ^ 31) (h : ¬ okU n x) : inB (nI 0) (nI n - nI 1) x = false := (Bool.not_eq_true _).mp (fun c => h ((okU_n hn).mp c))
theorem okU_cf {m : Nat} {x : Int32} (hm : m < 2 ^ 31) (h : ¬ okU (m + 1) x) : inB (nI 0) (nI m) x = false := (Bool.not_eq_true _).mp (fun c => h ((okU_c hm).mp c))
theorem okU_j {n j : Nat} (h : j < n) : okU n (nI j) := ⟨j, h, rfl⟩
abbrev yrB (x : Int32) : Bool := inB (-5000 : Int32) (nI 2000) x
abbrev zB (x : Int32) : Bool := inB (-1000 : Int32) (nI 1000) x
abbrev xyB (x : Int32) : Bool := inB (nI 0) (nI 5000) x
/-- what unit() tells -/
def utR (so ph fB fA : Nat → Int32) (bo fu : Nat → Nat) (me eE lE : Nat → Nat → Bool) (dug : Nat → Bool) (f j q : Nat) : Int32 := match q with
  | 0 => so j
  | 1 => nI (bo j)
  | 2 => bcI (bs (me (bo j)))
  | 3 => fB (bo j)
  | 4 => fA (bo j)
  | 5 => bcI (bs (eE (bo j)))
  | 6 => bcI (bs (lE (bo j)))
  | 7 => b2i (dug j)
  | 8 => ph j
  | _ => nI (cnt (fun v => decide (fu v = j)) f)
/-- what count() tells -/
def ctR (n r mz f : Nat) (bd dug : Nat → Bool) (li : Nat → Nat → Bool) (fB lo up : Nat → Int32) (bo : Nat → Nat) (eE : Nat → Nat → Bool) (ph : Nat → Int32) (q : Nat) : Int32 := match q with
  | 0 => nI n
  | 1 => nI r
  | 2 => bcI (bs bd)
  | 3 => bcS li mz
  | 4 => nI f
  | 5 => bcI (bs dug)
  | 6 => bcI (bs (dbS bd lo up n))
  | 7 => lvS bd fB mz
  | _ => nI (ppS (poB bo eE ph) n n)
def rtR (ki : Nat → Int32) (lt er : Nat → Nat) (j q : Nat) : Int32 := match q with
  | 0 => ki j
  | 1 => nI (lt j)
  | _ => nI (er j)
def ftR (fu : Nat → Nat) (fs ff fl xs ys zs : Nat → Int32) (bo : Nat → Nat) (lo up : Nat → Int32) (j q : Nat) : Int32 := match q with
  | 0 => nI (fu j)
  | 1 => fs j
  | 2 => ff j
  | 3 => fl j
  | 4 => xs j
  | 5 => ys j
  | 6 => zs j
  | _ => nI (mfR bo fu ff fl lo up j)
def odR (bo : Nat → Nat) (eE : Nat → Nat → Bool) (x y : Nat) : Int32 := if bo x = bo y then nI 0 else if eE (bo x) (bo y) = true then nI 1 else if eE (bo y) (bo x) = true then (-1 : Int32) else nI 2
theorem odR_0 {bo : Nat → Nat} {eE : Nat → Nat → Bool} {x y : Nat} (h : bo x = bo y) : odR bo eE x y = nI 0 := if_pos h
theorem odR_1 {bo : Nat → Nat} {eE : Nat → Nat → Bool} {x y : Nat} (h : ¬ bo x = bo y) (h2 : eE (bo x) (bo y) = true) : odR bo eE x y = nI 1 := by rw [odR, if_neg h, if_pos h2]
theorem odR_m {bo : Nat → Nat} {eE : Nat → Nat → Bool} {x y : Nat} (h : ¬ bo x = bo y) (h2 : eE (bo x) (bo y) = false) (h3 : eE (bo y) (bo x) = true) : odR bo eE x y = (-1 : Int32) := by rw [odR, if_neg h, if_neg (by rw [h2]; exact Bool.noConfusion), if_pos h3]
theorem odR_2 {bo : Nat → Nat} {eE : Nat → Nat → Bool} {x y : Nat} (h : ¬ bo x = bo y) (h2 : eE (bo x) (bo y) = false) (h3 : eE (bo y) (bo x) = false) : odR bo eE x y = nI 2 := by rw [odR, if_neg h, if_neg (by rw [h2]; exact Bool.noConfusion), if_neg (by rw [h3]; exact Bool.noConfusion)]
theorem whR_lt (so ki : Nat → Int32) (lt er bo : Nat → Nat) (eE : Nat → Nat → Bool) (r : Nat) (kd : Int32) (x y : Nat) : whR so ki lt er bo eE r kd x y < 5 := by
  unfold whR
  split
  · decide
  · split
    · decide
    · split
      · decide
      · split <;> decide
theorem upn_lt {f : Nat → Nat} {k v b : Nat} (hf : ∀ u, f u < b) (hv : v < b) (u : Nat) : va_up f k v u < b := by
  unfold va_up
  split
  · exact hv
  · exact hf u
def dgS (g : Nat → Int32) (d : Int64) : Nat → Int64
  | 0 => d
  | k + 1 => dgS g d k * 31 + (g k).toInt64
def dgU (F : Nat → Nat → Int32) (lo up : Nat → Int32) (d : Int64) : Nat → Int64
  | 0 => d
  | k + 1 => (dgS (F k) (dgU F lo up d k) 10 * 31 + (lo k).toInt64) * 31 + (up k).toInt64
def dgN (F : Nat → Nat → Int32) (m : Nat) (d : Int64) : Nat → Int64
  | 0 => d
  | k + 1 => dgS (F k) (dgN F m d k) m
