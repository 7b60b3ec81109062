/-! the reference's last answers -/
theorem fr0_y {to k : Nat} {f : Nat → Int32} (h : k = to) : va_up (pre (fr0 to) f k) k (nI 0) = pre (fr0 to) f (k + 1) := by
  rw [← pre_s, show fr0 to k = nI 0 from if_pos h]
theorem fr0_n {to k : Nat} {f : Nat → Int32} (h : ¬ k = to) : va_up (pre (fr0 to) f k) k (-1 : Int32) = pre (fr0 to) f (k + 1) := by
  rw [← pre_s, show fr0 to k = (-1 : Int32) from if_neg h]
theorem fst1_lt {p : Nat → Bool} {m : Nat} (hm : 0 < m) : (fst1 p m).getD 0 < m := by
  cases h : fst1 p m with
  | none => exact hm
  | some x => exact (fst1_some h).1
theorem rwS_lt {li : Nat → Nat → Bool} {F : Nat → Int32} {top : Nat} (ht : top < 40) : ∀ k, rwS li F top k < 40
  | 0 => ht
  | k + 1 => fst1_lt (by decide)
theorem rw_ne {li : Nat → Nat → Bool} {F : Nat → Int32} {x v : Nat} (h : rwN li F x v = false) (h1 : li x v = true) : ¬ F v = F x - nI 1 := fun c => by
  rw [rwN, h1, decide_eq_true c] at h
  cases h
theorem rw_y1 {li : Nat → Nat → Bool} {F : Nat → Int32} {x v : Nat} (h : rwN li F x v = true) : li x v = true := by
  rw [rwN, Bool.and_eq_true] at h
  exact h.1
theorem rw_y2 {li : Nat → Nat → Bool} {F : Nat → Int32} {x v : Nat} (h : rwN li F x v = true) : F v = F x - nI 1 := by
  rw [rwN, Bool.and_eq_true] at h
  exact of_decide_eq_true h.2
def afT (u : Nat) (s a b : Int32) : Nat → Int32 := va_up (va_up (va_up (va_up (va_up (va_up (va_up (fun _ => nI 0) 0 (nI u)) 1 s) 2 a) 3 b) 4 (nI 0)) 5 (nI 0)) 6 (nI 0)
def afF (fp : Nat → Int32) (n u : Nat) (s a b : Int32) : Nat → Int32 := va_cpy (afT u s a b) fp 0 (7 * n) 7
def rowP (bo : Nat → Nat) (lv : Nat → Int32) (x : Nat) (v : Nat) : Bool := isB bo v && decide (lv v = nI x)
theorem mR_2 {bo : Nat → Nat} {eE lE : Nat → Nat → Bool} {da : Nat → Bool} {fi la : Nat → Int32} {un : Nat} {fu : Nat → Nat} {fp : Nat → Int32} {fn j : Nat} (h : yUp bo lE da la un (fu j) < fp (7 * j + 2)) : mR bo eE lE da fi la un fu fp fn j = 2 := if_pos h
theorem mR_1 {bo : Nat → Nat} {eE lE : Nat → Nat → Bool} {da : Nat → Bool} {fi la : Nat → Int32} {un : Nat} {fu : Nat → Nat} {fp : Nat → Int32} {fn j : Nat} (h : ¬ yUp bo lE da la un (fu j) < fp (7 * j + 2)) (h2 : fp (7 * j + 3) < yLo bo eE da fi un fu fp fn (fu j)) : mR bo eE lE da fi la un fu fp fn j = 1 := by rw [mR, if_neg h, if_pos h2]
theorem mR_0 {bo : Nat → Nat} {eE lE : Nat → Nat → Bool} {da : Nat → Bool} {fi la : Nat → Int32} {un : Nat} {fu : Nat → Nat} {fp : Nat → Int32} {fn j : Nat} (h : ¬ yUp bo lE da la un (fu j) < fp (7 * j + 2)) (h2 : ¬ fp (7 * j + 3) < yLo bo eE da fi un fu fp fn (fu j)) : mR bo eE lE da fi la un fu fp fn j = 0 := by rw [mR, if_neg h, if_neg h2]
theorem rwS_s {li : Nat → Nat → Bool} {F : Nat → Int32} {top k v : Nat} (h : fst1 (rwN li F (rwS li F top k)) 40 = some v) : v = rwS li F top (k + 1) := by rw [rwS, h]; rfl
theorem b2i_f : b2i false = nI 0 := by decide +kernel
theorem b2i_t : b2i true = nI 1 := by decide +kernel
