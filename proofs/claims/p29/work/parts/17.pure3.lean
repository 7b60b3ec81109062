/-! relations, units, finds, bounds -/
def sft {α : Type} (f : Nat → α) (j k : Nat) : Nat → α := fun u => if j ≤ u ∧ u + 1 < k then f (u + 1) else f u
theorem sft_0 {α : Type} (f : Nat → α) (j : Nat) : sft f j (j + 1) = f := by
  funext u
  unfold sft
  rw [if_neg (by omega)]
theorem sft_k {α : Type} (f : Nat → α) (j k : Nat) : sft f j k k = f k := by
  unfold sft
  rw [if_neg (by omega)]
theorem sft_s {α : Type} (f : Nat → α) {j k : Nat} (h : j + 1 ≤ k) : va_up (sft f j k) (k - 1) (sft f j k k) = sft f j (k + 1) := by
  rw [sft_k]
  funext u
  simp only [va_up, sft]
  by_cases e : u = k - 1
  · subst e
    have e1 : k - 1 + 1 = k := by omega
    rw [if_pos rfl, if_pos (by omega), e1]
  · rw [if_neg e]
    by_cases c : j ≤ u ∧ u + 1 < k
    · rw [if_pos c, if_pos (by omega)]
    · rw [if_neg c, if_neg (by omega)]
theorem sft_lt {f : Nat → Nat} {j k b : Nat} (hf : ∀ u, f u < b) (u : Nat) : sft f j k u < b := by
  unfold sft
  split
  · exact hf _
  · exact hf _
def anyB (p : Nat → Bool) : Nat → Bool
  | 0 => false
  | k + 1 => anyB p k || p k
theorem anyB_iff {p : Nat → Bool} : ∀ {k : Nat}, anyB p k = true ↔ ∃ i, i < k ∧ p i = true
  | 0 => by simp [anyB]
  | k + 1 => by
    rw [anyB, Bool.or_eq_true, anyB_iff]
    constructor
    · rintro (⟨i, h1, h2⟩ | h)
      · exact ⟨i, by omega, h2⟩
      · exact ⟨k, by omega, h⟩
    · rintro ⟨i, h1, h2⟩
      by_cases e : i = k
      · subst e; exact Or.inr h2
      · exact Or.inl ⟨i, by omega, h2⟩
theorem anyB_hit {p : Nat → Bool} {k m : Nat} (hk : k < m) (h : p k = true) : anyB p m = true := anyB_iff.mpr ⟨k, hk, h⟩
theorem anyB_mis {p : Nat → Bool} {k : Nat} (h0 : anyB p k = false) (h : p k = false) : anyB p (k + 1) = false := by rw [anyB, h0, h]; rfl
def toldP (ki : Nat → Int32) (lt er : Nat → Nat) (kd : Int32) (x y : Nat) : Nat → Bool := fun v => decide (ki v = kd) && ((decide (lt v = x) && decide (er v = y)) || (decide (kd = nI 4) && (decide (lt v = y) && decide (er v = x))))
theorem dt_y {dtd : Nat → Bool} {u : Nat} {a b : Int32} (h : ¬ b < a) : (fun i => dtd i || decide (i = u)) = va_up dtd u (decide (a ≤ b)) := by
  funext i
  have h2 : a ≤ b := Int32.not_lt.mp h
  by_cases e : i = u <;> simp [va_up, e, h2]
theorem dt_n {dtd : Nat → Bool} {u : Nat} {a b : Int32} (h : b < a) : (fun i => dtd i && !(decide (i = u))) = va_up dtd u (decide (a ≤ b)) := by
  funext i
  have h2 : ¬ a ≤ b := Int32.not_le.mpr h
  by_cases e : i = u <;> simp [va_up, e, h2]
def sqD (xs ys zs : Nat → Int32) (j : Nat) (x y z : Int32) : Int32 := ((xs j - x) * (xs j - x)) + ((ys j - y) * (ys j - y)) + ((zs j - z) * (zs j - z))
def clS (fs : Nat → Int32) (sq : Nat → Int32) (q : Int32) : Nat → Int32 × Int32
  | 0 => ((-1 : Int32), nI 0)
  | k + 1 => if (q = (-1 : Int32) ∨ fs k = q) ∧ ((clS fs sq q k).1 = (-1 : Int32) ∨ sq k < (clS fs sq q k).2) then (nI k, sq k) else clS fs sq q k
theorem clS_y {fs sq : Nat → Int32} {q : Int32} {k : Nat} (h1 : q = (-1 : Int32) ∨ fs k = q) (h2 : (clS fs sq q k).1 = (-1 : Int32) ∨ sq k < (clS fs sq q k).2) : clS fs sq q (k + 1) = (nI k, sq k) := by rw [clS, if_pos ⟨h1, h2⟩]
theorem clS_n1 {fs sq : Nat → Int32} {q : Int32} {k : Nat} (h1 : ¬ q = (-1 : Int32)) (h2 : ¬ fs k = q) : clS fs sq q (k + 1) = clS fs sq q k := by rw [clS, if_neg (fun c => c.1.elim h1 h2)]
theorem clS_n2 {fs sq : Nat → Int32} {q : Int32} {k : Nat} (h1 : ¬ (clS fs sq q k).1 = (-1 : Int32)) (h2 : (clS fs sq q k).2 ≤ sq k) : clS fs sq q (k + 1) = clS fs sq q k := by rw [clS, if_neg (fun c => c.2.elim h1 (Int32.not_lt.mpr h2))]
def odL (dtd : Nat → Bool) (bo : Nat → Nat) (uf : Nat → Int32) (o0 : Nat → Int32) : Nat → Nat → Int32
  | 0 => o0
  | k + 1 => if dtd k = true then va_up (odL dtd bo uf o0 k) (bo k) (imax (odL dtd bo uf o0 k (bo k)) (uf k)) else odL dtd bo uf o0 k
theorem odL_y {dtd : Nat → Bool} {bo : Nat → Nat} {uf o0 : Nat → Int32} {k : Nat} (h : dtd k = true) : va_up (odL dtd bo uf o0 k) (bo k) (imax (odL dtd bo uf o0 k (bo k)) (uf k)) = odL dtd bo uf o0 (k + 1) := by rw [odL, if_pos h]
theorem odL_n {dtd : Nat → Bool} {bo : Nat → Nat} {uf o0 : Nat → Int32} {k : Nat} (h : dtd k = false) : odL dtd bo uf o0 k = odL dtd bo uf o0 (k + 1) := by rw [odL, if_neg (by rw [h]; exact Bool.false_ne_true)]
def odU (dtd : Nat → Bool) (bo : Nat → Nat) (ul : Nat → Int32) (o0 : Nat → Int32) : Nat → Nat → Int32
  | 0 => o0
  | k + 1 => if dtd k = true then va_up (odU dtd bo ul o0 k) (bo k) (imin (odU dtd bo ul o0 k (bo k)) (ul k)) else odU dtd bo ul o0 k
theorem odU_y {dtd : Nat → Bool} {bo : Nat → Nat} {ul o0 : Nat → Int32} {k : Nat} (h : dtd k = true) : va_up (odU dtd bo ul o0 k) (bo k) (imin (odU dtd bo ul o0 k (bo k)) (ul k)) = odU dtd bo ul o0 (k + 1) := by rw [odU, if_pos h]
theorem odU_n {dtd : Nat → Bool} {bo : Nat → Nat} {ul o0 : Nat → Int32} {k : Nat} (h : dtd k = false) : odU dtd bo ul o0 k = odU dtd bo ul o0 (k + 1) := by rw [odU, if_neg (by rw [h]; exact Bool.false_ne_true)]
def ofL (bo fu : Nat → Nat) (ff : Nat → Int32) (o0 : Nat → Int32) : Nat → Nat → Int32
  | 0 => o0
  | k + 1 => va_up (ofL bo fu ff o0 k) (bo (fu k)) (imax (ofL bo fu ff o0 k (bo (fu k))) (ff k))
def spL (oL : Nat → Int32) (E : Nat → Nat → Bool) (v : Nat) : Nat → Int32
  | 0 => oL v
  | j + 1 => if E v j = true then imax (spL oL E v j) (oL j) else spL oL E v j
theorem spL_y {oL : Nat → Int32} {E : Nat → Nat → Bool} {v j : Nat} (h : E v j = true) : imax (spL oL E v j) (oL j) = spL oL E v (j + 1) := by rw [spL, if_pos h]
theorem spL_n {oL : Nat → Int32} {E : Nat → Nat → Bool} {v j : Nat} (h : E v j = false) : spL oL E v j = spL oL E v (j + 1) := by rw [spL, if_neg (by rw [h]; exact Bool.false_ne_true)]
def spU (oU : Nat → Int32) (E : Nat → Nat → Bool) (v : Nat) : Nat → Int32
  | 0 => oU v
  | j + 1 => if E v j = true then imin (spU oU E v j) (oU j) else spU oU E v j
theorem spU_y {oU : Nat → Int32} {E : Nat → Nat → Bool} {v j : Nat} (h : E v j = true) : imin (spU oU E v j) (oU j) = spU oU E v (j + 1) := by rw [spU, if_pos h]
theorem spU_n {oU : Nat → Int32} {E : Nat → Nat → Bool} {v j : Nat} (h : E v j = false) : spU oU E v j = spU oU E v (j + 1) := by rw [spU, if_neg (by rw [h]; exact Bool.false_ne_true)]
theorem up_max {P : Nat → Int32} {k : Nat} {S T : Int32} (h : S = T) : va_up P k S = va_up P k T := by rw [h]
