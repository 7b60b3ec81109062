/-! what the class's matrix does, as functions of its rows (each loop's state after k steps) -/
theorem up_s {α : Type} (f : Nat → α) (k : Nat) (v : α) : va_up f k v k = v := if_pos rfl
theorem up_n {α : Type} (f : Nat → α) {k j : Nat} (v : α) (h : ¬ j = k) : va_up f k v j = f j := if_neg h
theorem up_up {α : Type} (f : Nat → α) (k : Nat) (v w : α) : va_up (va_up f k v) k w = va_up f k w := by
  funext j
  by_cases h : j = k <;> simp [va_up, h]
theorem up_id {α : Type} (f : Nat → α) (k : Nat) : va_up f k (f k) = f := by
  funext j
  by_cases h : j = k <;> simp [va_up, h]
theorem up_cm {α : Type} (f : Nat → α) {k j : Nat} (v w : α) (h : ¬ j = k) : va_up (va_up f k v) j w = va_up (va_up f j w) k v := by
  funext i
  simp only [va_up]
  by_cases h1 : i = j <;> by_cases h2 : i = k <;> simp_all
/-- the first k entries are given, the others as before -/
def pre {α : Type} (g f : Nat → α) (k : Nat) : Nat → α := fun u => if u < k then g u else f u
theorem pre_0 {α : Type} (g f : Nat → α) : pre g f 0 = f := by funext u; simp [pre]
theorem pre_s {α : Type} (g f : Nat → α) (k : Nat) : va_up (pre g f k) k (g k) = pre g f (k + 1) := by
  funext u
  simp only [va_up, pre]
  by_cases h : u = k
  · subst h; simp
  · by_cases h2 : u < k
    · simp [h, h2, Nat.lt_succ_of_lt h2]
    · have : ¬ u < k + 1 := by omega
      simp [h, h2, this]
theorem pre_in {α : Type} {g f : Nat → α} {k u : Nat} (h : u < k) : pre g f k u = g u := if_pos h
theorem pre_out {α : Type} {g f : Nat → α} {k u : Nat} (h : k ≤ u) : pre g f k u = f u := if_neg (Nat.not_lt.mpr h)
theorem pre_self {α : Type} (g f : Nat → α) (k : Nat) : pre g f k k = f k := pre_out (Nat.le_refl k)
theorem pre_lt {g f : Nat → Nat} {k b : Nat} (hg : ∀ u, u < k → g u < b) (hf : ∀ u, f u < b) (u : Nat) : pre g f k u < b := by
  unfold pre
  by_cases h : u < k
  · rw [if_pos h]; exact hg u h
  · rw [if_neg h]; exact hf u
def jB (m one oth : Nat) (bo : Nat → Nat) : Nat → Nat := fun u => if u < m ∧ (bo u = one ∨ bo u = oth) then min one oth else bo u
theorem jB_0 (o p : Nat) (bo : Nat → Nat) : jB 0 o p bo = bo := by funext u; simp [jB]
theorem jB_k (k o p : Nat) (bo : Nat → Nat) : jB k o p bo k = bo k := by simp [jB]
theorem jB_y {k o p : Nat} {bo : Nat → Nat} (h : jB k o p bo k = o ∨ jB k o p bo k = p) : va_up (jB k o p bo) k (min o p) = jB (k + 1) o p bo := by
  rw [jB_k] at h
  funext u
  simp only [va_up, jB]
  by_cases e : u = k
  · subst e; simp [h]
  · have : (u < k + 1) ↔ u < k := by omega
    simp [e, this]
theorem jB_n {k o p : Nat} {bo : Nat → Nat} (h1 : ¬ jB k o p bo k = o) (h2 : ¬ jB k o p bo k = p) : jB k o p bo = jB (k + 1) o p bo := by
  rw [jB_k] at h1 h2
  funext u
  simp only [jB]
  by_cases e : u = k
  · subst e; simp [h1, h2]
  · have : (u < k + 1) ↔ u < k := by omega
    simp [this]
theorem jB_lt {m o p b : Nat} {bo : Nat → Nat} (ho : o < b) (hb : ∀ u, bo u < b) (u : Nat) : jB m o p bo u < b := by
  unfold jB
  split
  · exact Nat.lt_of_le_of_lt (Nat.min_le_left _ _) ho
  · exact hb u
def jU (ki : Nat → Int32) (lt er : Nat → Nat) (m : Nat) (b0 : Nat → Nat) : Nat → Nat → Nat
  | 0 => b0
  | k + 1 => if ki k = nI 4 then jB m (jU ki lt er m b0 k (lt k)) (jU ki lt er m b0 k (er k)) (jU ki lt er m b0 k) else jU ki lt er m b0 k
theorem jU_y {ki : Nat → Int32} {lt er : Nat → Nat} {m k : Nat} {b0 : Nat → Nat} (h : ki k = nI 4) : jB m (jU ki lt er m b0 k (lt k)) (jU ki lt er m b0 k (er k)) (jU ki lt er m b0 k) = jU ki lt er m b0 (k + 1) := by rw [jU, if_pos h]
theorem jU_n {ki : Nat → Int32} {lt er : Nat → Nat} {m k : Nat} {b0 : Nat → Nat} (h : ¬ ki k = nI 4) : jU ki lt er m b0 k = jU ki lt er m b0 (k + 1) := by rw [jU, if_neg h]
theorem jU_lt {ki : Nat → Int32} {lt er : Nat → Nat} {m b : Nat} {b0 : Nat → Nat} (hb : ∀ u, b0 u < b) : ∀ k u, jU ki lt er m b0 k u < b
  | 0, u => hb u
  | k + 1, u => by
    rw [jU]
    split
    · exact jB_lt (jU_lt hb k _) (jU_lt hb k) u
    · exact jU_lt hb k u
def bdS (bo : Nat → Nat) : Nat → Nat → Bool
  | 0 => fun _ => false
  | k + 1 => fun i => bdS bo k i || decide (i = bo k)
def meA (bo : Nat → Nat) (m0 : Nat → Nat → Bool) : Nat → Nat → Nat → Bool
  | 0 => m0
  | k + 1 => va_up (meA bo m0 k) (bo k) (fun i => meA bo m0 k (bo k) i || decide (i = k))
def dA (ki : Nat → Int32) (lt er bo : Nat → Nat) (d0 : Nat → Nat → Bool) : Nat → Nat → Nat → Bool
  | 0 => d0
  | k + 1 => if ki k = nI 4 then dA ki lt er bo d0 k else va_up (dA ki lt er bo d0 k) (bo (lt k)) (fun i => dA ki lt er bo d0 k (bo (lt k)) i || decide (i = bo (er k)))
theorem dA_y {ki : Nat → Int32} {lt er bo : Nat → Nat} {d0 : Nat → Nat → Bool} {k : Nat} (h : ki k = nI 4) : dA ki lt er bo d0 k = dA ki lt er bo d0 (k + 1) := by rw [dA, if_pos h]
theorem dA_n {ki : Nat → Int32} {lt er bo : Nat → Nat} {d0 : Nat → Nat → Bool} {k : Nat} (h : ¬ ki k = nI 4) : va_up (dA ki lt er bo d0 k) (bo (lt k)) (fun i => dA ki lt er bo d0 k (bo (lt k)) i || decide (i = bo (er k))) = dA ki lt er bo d0 (k + 1) := by rw [dA, if_neg h]
/-- one middle's round of what follows by way of others -/
def wI (q : Nat) (E : Nat → Nat → Bool) : Nat → Nat → Nat → Bool
  | 0 => E
  | k + 1 => if wI q E k k q = true then va_up (wI q E k) k (fun i => wI q E k k i || wI q E k q i) else wI q E k
theorem wI_y {q k : Nat} {E : Nat → Nat → Bool} (h : wI q E k k q = true) : va_up (wI q E k) k (fun i => wI q E k k i || wI q E k q i) = wI q E (k + 1) := by rw [wI, if_pos h]
theorem wI_n {q k : Nat} {E : Nat → Nat → Bool} (h : wI q E k k q = false) : wI q E k = wI q E (k + 1) := by rw [wI, if_neg (by rw [h]; exact Bool.false_ne_true)]
def wO (m : Nat) (E : Nat → Nat → Bool) : Nat → Nat → Nat → Bool
  | 0 => E
  | q + 1 => wI q (wO m E q) m
def laS (E : Nat → Nat → Bool) (q : Nat) : Nat → Nat → Bool
  | 0 => fun _ => false
  | k + 1 => if E k q = true then fun i => laS E q k i || decide (i = k) else laS E q k
theorem laS_y {E : Nat → Nat → Bool} {q k : Nat} (h : E k q = true) : (fun i => laS E q k i || decide (i = k)) = laS E q (k + 1) := by rw [laS, if_pos h]
theorem laS_n {E : Nat → Nat → Bool} {q k : Nat} (h : E k q = false) : laS E q k = laS E q (k + 1) := by rw [laS, if_neg (by rw [h]; exact Bool.false_ne_true)]
def rcS (E : Nat → Nat → Bool) (q : Nat) : Nat → Nat → Bool
  | 0 => fun _ => false
  | k + 1 => if E q k = true then fun i => rcS E q k i || E k i else rcS E q k
theorem rcS_y {E : Nat → Nat → Bool} {q k : Nat} (h : E q k = true) : (fun i => rcS E q k i || E k i) = rcS E q (k + 1) := by rw [rcS, if_pos h]
theorem rcS_n {E : Nat → Nat → Bool} {q k : Nat} (h : E q k = false) : rcS E q k = rcS E q (k + 1) := by rw [rcS, if_neg (by rw [h]; exact Bool.false_ne_true)]
/-- the number of those below k that are in a set -/
def cnt (p : Nat → Bool) : Nat → Nat
  | 0 => 0
  | k + 1 => cnt p k + (if p k = true then 1 else 0)
theorem cnt_y {p : Nat → Bool} {k : Nat} (h : p k = true) : cnt p (k + 1) = cnt p k + 1 := by rw [cnt, if_pos h]
theorem cnt_n {p : Nat → Bool} {k : Nat} (h : p k = false) : cnt p (k + 1) = cnt p k := by rw [cnt, if_neg (by rw [h]; exact Bool.false_ne_true)]; rfl
theorem cnt_le (p : Nat → Bool) : ∀ k, cnt p k ≤ k
  | 0 => Nat.le_refl 0
  | k + 1 => by
    have := cnt_le p k
    rw [cnt]
    split <;> omega
theorem cnt_cong {p q : Nat → Bool} : ∀ {k : Nat}, (∀ i, i < k → p i = q i) → cnt p k = cnt q k
  | 0, _ => rfl
  | k + 1, h => by rw [cnt, cnt, cnt_cong (fun i hi => h i (by omega)), h k (by omega)]
/-- the first one below m that is in a set -/
def fst1 (p : Nat → Bool) : Nat → Option Nat
  | 0 => none
  | k + 1 => match fst1 p k with
    | some x => some x
    | none => if p k = true then some k else none
theorem fst1_hit {p : Nat → Bool} {k : Nat} (h0 : fst1 p k = none) (h : p k = true) : fst1 p (k + 1) = some k := by rw [fst1, h0]; simp [h]
theorem fst1_mis {p : Nat → Bool} {k : Nat} (h0 : fst1 p k = none) (h : p k = false) : fst1 p (k + 1) = none := by rw [fst1, h0]; simp [h]
theorem fst1_up {p : Nat → Bool} {k x : Nat} (h : fst1 p k = some x) : ∀ j, fst1 p (k + j) = some x
  | 0 => h
  | j + 1 => by
    have := fst1_up h j
    show fst1 p ((k + j) + 1) = some x
    rw [fst1, this]
theorem fst1_at {p : Nat → Bool} {k m : Nat} (hk : k < m) (h0 : fst1 p k = none) (h : p k = true) : fst1 p m = some k := by
  obtain ⟨j, rfl⟩ : ∃ j, m = (k + 1) + j := ⟨m - (k + 1), by omega⟩
  exact fst1_up (fst1_hit h0 h) j
theorem fst1_none {p : Nat → Bool} : ∀ {k : Nat}, fst1 p k = none ↔ ∀ i, i < k → p i = false
  | 0 => by simp [fst1]
  | k + 1 => by
    have ih := fst1_none (p := p) (k := k)
    constructor
    · intro h i hi
      rw [fst1] at h
      cases e : fst1 p k with
      | some x => rw [e] at h; cases h
      | none =>
        rw [e] at h
        rcases Nat.lt_succ_iff_lt_or_eq.mp hi with c | c
        · exact ih.mp e i c
        · subst c
          by_cases hp : p i = true
          · simp [hp] at h
          · simpa using hp
    · intro h
      rw [fst1, ih.mpr (fun i hi => h i (by omega)), h k (by omega)]
      rfl
theorem fst1_some {p : Nat → Bool} {m x : Nat} (h : fst1 p m = some x) : x < m ∧ p x = true ∧ ∀ i, i < x → p i = false := by
  induction m with
  | zero => cases h
  | succ m ih =>
    rw [fst1] at h
    cases e : fst1 p m with
    | some y =>
      rw [e] at h
      cases h
      obtain ⟨a, b, c⟩ := ih e
      exact ⟨by omega, b, c⟩
    | none =>
      rw [e] at h
      by_cases hp : p m = true
      · simp only [hp, if_true] at h
        cases h
        exact ⟨by omega, hp, fst1_none.mp e⟩
      · simp [hp] at h
theorem fst1_cong {p q : Nat → Bool} : ∀ {k : Nat}, (∀ i, i < k → p i = q i) → fst1 p k = fst1 q k
  | 0, _ => rfl
  | k + 1, h => by rw [fst1, fst1, fst1_cong (fun i hi => h i (by omega)), h k (by omega)]
def oI (o : Option Nat) : Int32 := match o with
  | some x => nI x
  | none => -1
