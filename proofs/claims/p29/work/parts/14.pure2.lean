/-! the matrix's ranks, counts and ways -/
def dj (p q : Nat → Bool) : Bool := (List.range 64).all (fun i => !(p i && q i))
theorem dj_iff {p q : Nat → Bool} : dj p q = true ↔ ∀ i, i < 64 → (p i && q i) = false := by
  unfold dj
  rw [List.all_eq_true]
  constructor
  · intro h i hi
    have h1 := h i (List.mem_range.mpr hi)
    cases e : (p i && q i) with
    | false => rfl
    | true => rw [e] at h1; cases h1
  · intro h i hi
    rw [h i (List.mem_range.mp hi)]
    rfl
def hitF (sT : Nat → Bool) (B : Nat → Nat → Bool) (rd : Nat → Bool) : Nat → Bool := fun k => (sT k && !(rd k)) && dj (B k) (fun i => sT i && !(rd i))
theorem hit_y {sT rd : Nat → Bool} {B : Nat → Nat → Bool} {k : Nat} (h1 : (sT k && !(rd k)) = true) (h2 : lg_cmp (bs (fun i => B k i && (sT i && !(rd i)))) 0 = 0) : hitF sT B rd k = true := by
  unfold hitF
  rw [h1, Bool.true_and]
  exact dj_iff.mpr (bs_z.mp (lg_cmp_0.mp h2))
theorem hit_n1 {sT rd : Nat → Bool} {B : Nat → Nat → Bool} {k : Nat} (h1 : (sT k && !(rd k)) = false) : hitF sT B rd k = false := by
  unfold hitF
  rw [h1, Bool.false_and]
theorem hit_n2 {sT rd : Nat → Bool} {B : Nat → Nat → Bool} {k : Nat} (h2 : ¬ lg_cmp (bs (fun i => B k i && (sT i && !(rd i)))) 0 = 0) : hitF sT B rd k = false := by
  unfold hitF
  rw [(Bool.not_eq_true _).mp (fun c => h2 (lg_cmp_0.mpr (bs_z.mpr (dj_iff.mp c)))), Bool.and_false]
def rdK (h rd : Nat → Bool) (k : Nat) : Nat → Bool := fun i => rd i || (decide (i < k) && h i)
def rsK (h : Nat → Bool) (t : Nat) (rs : Nat → Int32) (k : Nat) : Nat → Int32 := fun i => if (decide (i < k) && h i) = true then nI t else rs i
theorem rdK_0 (h rd : Nat → Bool) : rdK h rd 0 = rd := by funext i; simp [rdK]
theorem rsK_0 (h : Nat → Bool) (t : Nat) (rs : Nat → Int32) : rsK h t rs 0 = rs := by funext i; simp [rsK]
theorem rdK_y {h rd : Nat → Bool} {k : Nat} (hk : h k = true) : (fun i => rdK h rd k i || decide (i = k)) = rdK h rd (k + 1) := by
  funext i
  simp only [rdK]
  by_cases e : i = k
  · subst e; simp [hk]
  · have : (i < k + 1) ↔ i < k := by omega
    simp [e, this]
theorem rdK_n {h rd : Nat → Bool} {k : Nat} (hk : h k = false) : rdK h rd k = rdK h rd (k + 1) := by
  funext i
  simp only [rdK]
  by_cases e : i = k
  · subst e; simp [hk]
  · have : (i < k + 1) ↔ i < k := by omega
    simp [this]
theorem rsK_y {h : Nat → Bool} {t k : Nat} {rs : Nat → Int32} (hk : h k = true) : va_up (rsK h t rs k) k (nI t) = rsK h t rs (k + 1) := by
  funext i
  simp only [rsK, va_up]
  by_cases e : i = k
  · subst e; simp [hk]
  · have : (i < k + 1) ↔ i < k := by omega
    simp [e, this]
theorem rsK_n {h : Nat → Bool} {t k : Nat} {rs : Nat → Int32} (hk : h k = false) : rsK h t rs k = rsK h t rs (k + 1) := by
  funext i
  simp only [rsK]
  by_cases e : i = k
  · subst e; simp [hk]
  · have : (i < k + 1) ↔ i < k := by omega
    simp [this]
def rkD (m : Nat) (sT : Nat → Bool) (B : Nat → Nat → Bool) : Nat → Nat → Bool
  | 0 => fun _ => false
  | t + 1 => rdK (hitF sT B (rkD m sT B t)) (rkD m sT B t) m
def rkV (m : Nat) (sT : Nat → Bool) (B : Nat → Nat → Bool) (rs : Nat → Int32) : Nat → Nat → Int32
  | 0 => rs
  | t + 1 => rsK (hitF sT B (rkD m sT B t)) t (rkV m sT B rs t) m
theorem rk_stab {m : Nat} {sT : Nat → Bool} {B : Nat → Nat → Bool} {rs : Nat → Int32} {t T : Nat} (hm : m ≤ 40) (h : lg_cmp (bs (rkD m sT B t)) (bs sT) = 0) (ht : t ≤ T) : rkV m sT B rs t = rkV m sT B rs T := by
  have h0 : ∀ i, i < 64 → rkD m sT B t i = sT i := bs_inj (lg_cmp_0.mp h)
  have hh : ∀ rd : Nat → Bool, (∀ i, i < 64 → rd i = sT i) → ∀ i, i < m → hitF sT B rd i = false := by
    intro rd hr i hi
    apply hit_n1
    rw [hr i (by omega)]
    cases sT i <;> rfl
  have key : ∀ j, rkD m sT B (t + j) = rkD m sT B t ∧ rkV m sT B rs (t + j) = rkV m sT B rs t := by
    intro j
    induction j with
    | zero => exact ⟨rfl, rfl⟩
    | succ j ih =>
      have e1 : rkD m sT B (t + j + 1) = rkD m sT B t := by
        rw [rkD, ih.1]
        funext i
        simp only [rdK]
        by_cases hi : i < m
        · rw [hh _ h0 i hi]; simp
        · simp [hi]
      have e2 : rkV m sT B rs (t + j + 1) = rkV m sT B rs t := by
        rw [rkV, ih.1, ih.2]
        funext i
        simp only [rsK]
        by_cases hi : i < m
        · rw [hh _ h0 i hi]; simp
        · simp [hi]
      exact ⟨e1, e2⟩
  obtain ⟨j, rfl⟩ : ∃ j, T = t + j := ⟨T - t, by omega⟩
  exact (key j).2.symm
/-- the JDK's count of a long's bits -/
def sh64 (x : Int64) (k : Int32) : Int64 := (x.toUInt64 >>> (k.toInt64.toUInt64 &&& Int64.toUInt64 63)).toInt64
def bc1 (x : Int64) : Int64 := x - (sh64 x (nI 1) &&& 6148914691236517205)
def bc2 (x : Int64) : Int64 := (x &&& 3689348814741910323) + (sh64 x (nI 2) &&& 3689348814741910323)
def bc3 (x : Int64) : Int64 := (x + sh64 x (nI 4)) &&& 1085102592571150095
def bc4 (x : Int64) : Int64 := x + sh64 x (nI 8)
def bc5 (x : Int64) : Int64 := x + sh64 x (nI 16)
def bc6 (x : Int64) : Int64 := x + sh64 x (nI 32)
def bcI (x : Int64) : Int32 := (bc6 (bc5 (bc4 (bc3 (bc2 (bc1 x)))))).toInt32 &&& nI 127
def bcS (li : Nat → Nat → Bool) : Nat → Int32
  | 0 => nI 0
  | k + 1 => bcS li k + bcI (bs (li k))
def lvS (bd : Nat → Bool) (fB : Nat → Int32) : Nat → Int32
  | 0 => nI 0
  | k + 1 => if bd k = true then imax (lvS bd fB k) (fB k + nI 1) else lvS bd fB k
theorem lvS_y {bd : Nat → Bool} {fB : Nat → Int32} {k : Nat} (h : bd k = true) : imax (lvS bd fB k) (fB k + nI 1) = lvS bd fB (k + 1) := by rw [lvS, if_pos h]
theorem lvS_n {bd : Nat → Bool} {fB : Nat → Int32} {k : Nat} (h : bd k = false) : lvS bd fB k = lvS bd fB (k + 1) := by rw [lvS, if_neg (by rw [h]; exact Bool.false_ne_true)]
/-- those below k that are so -/
def selS (p : Nat → Bool) (k : Nat) : Nat → Bool := fun i => decide (i < k) && p i
theorem selS_0 (p : Nat → Bool) : (fun _ => false) = selS p 0 := by funext i; simp [selS]
theorem selS_y {p : Nat → Bool} {k : Nat} (h : p k = true) : (fun i => selS p k i || decide (i = k)) = selS p (k + 1) := by
  funext i
  simp only [selS]
  by_cases e : i = k
  · subst e; simp [h]
  · have : (i < k + 1) ↔ i < k := by omega
    simp [e, this]
theorem selS_n {p : Nat → Bool} {k : Nat} (h : p k = false) : selS p k = selS p (k + 1) := by
  funext i
  simp only [selS]
  by_cases e : i = k
  · subst e; simp [h]
  · have : (i < k + 1) ↔ i < k := by omega
    simp [this]
theorem and_ff {a b : Bool} (h : a = false) : (a && b) = false := by rw [h]; rfl
theorem and_tf {a b : Bool} (h : a = true) (h2 : b = false) : (a && b) = false := by rw [h, h2]; rfl
theorem and_tt {a b : Bool} (h : a = true) (h2 : b = true) : (a && b) = true := by rw [h, h2]; rfl
/-- the next body on a way down -/
def nxW (m : Nat) (ca : Nat → Bool) (sL : Nat → Int32) (x : Nat) : Option Nat := fst1 (fun k => ca k && decide (sL k = sL x - nI 1)) m
def wyS (m : Nat) (li : Nat → Nat → Bool) (ob : Nat → Bool) (sL : Nat → Int32) (top : Nat) : Nat → Option Nat
  | 0 => some top
  | k + 1 => match wyS m li ob sL top k with
    | some x => nxW m (fun i => li x i && ob i) sL x
    | none => none
theorem wyS_none {m : Nat} {li : Nat → Nat → Bool} {ob : Nat → Bool} {sL : Nat → Int32} {top k : Nat} (h : wyS m li ob sL top k = none) {j : Nat} (hj : k ≤ j) : wyS m li ob sL top j = none := by
  obtain ⟨d, rfl⟩ : ∃ d, j = k + d := ⟨j - k, by omega⟩
  induction d with
  | zero => exact h
  | succ d ih =>
    show wyS m li ob sL top ((k + d) + 1) = none
    rw [wyS, ih (by omega)]
theorem wyS_lt {m : Nat} {li : Nat → Nat → Bool} {ob : Nat → Bool} {sL : Nat → Int32} {top k x : Nat} (ht : top < 40) (hm : m ≤ 40) (h : wyS m li ob sL top k = some x) : x < 40 := by
  cases k with
  | zero => cases h; exact ht
  | succ k =>
    rw [wyS] at h
    cases e : wyS m li ob sL top k with
    | none => rw [e] at h; cases h
    | some y =>
      rw [e] at h
      have := (fst1_some h).1
      omega
/-- the element at a place of a set's ascending order -/
def elA (p : Nat → Bool) (j m : Nat) : Option Nat := fst1 (fun k => p k && decide (cnt p k = j)) m
def obS (lE : Nat → Nat → Bool) (bot : Nat) : Nat → Bool := fun i => lE bot i || decide (i = bot)
/-- a place on the longest way down, by the class: the answer, and the rows of steps behind it -/
def wyR (m : Nat) (li eE lE : Nat → Nat → Bool) (sL : Nat → Int32) (top bot idx : Nat) : Option Nat := if obS lE bot top = true then wyS m li (obS lE bot) (rkV m (obS lE bot) eE sL 40) top idx else none
def wyL (m : Nat) (eE lE : Nat → Nat → Bool) (sL : Nat → Int32) (top bot : Nat) : Nat → Int32 := if obS lE bot top = true then rkV m (obS lE bot) eE sL 40 else sL
theorem wyR_n {m : Nat} {li eE lE : Nat → Nat → Bool} {sL : Nat → Int32} {top bot idx : Nat} (h : obS lE bot top = false) : wyR m li eE lE sL top bot idx = none := if_neg (by rw [h]; exact Bool.false_ne_true)
theorem wyL_n {m : Nat} {eE lE : Nat → Nat → Bool} {sL : Nat → Int32} {top bot : Nat} (h : obS lE bot top = false) : wyL m eE lE sL top bot = sL := if_neg (by rw [h]; exact Bool.false_ne_true)
theorem wyR_y {m : Nat} {li eE lE : Nat → Nat → Bool} {sL : Nat → Int32} {top bot idx : Nat} (h : obS lE bot top = true) : wyR m li eE lE sL top bot idx = wyS m li (obS lE bot) (rkV m (obS lE bot) eE sL 40) top idx := if_pos h
theorem wyL_y {m : Nat} {eE lE : Nat → Nat → Bool} {sL : Nat → Int32} {top bot : Nat} (h : obS lE bot top = true) : wyL m eE lE sL top bot = rkV m (obS lE bot) eE sL 40 := if_pos h
