/-! the reference, as functions of its rows -/
/-- one pass over the relations that join; whether it changed anything -/
def jq (ks : Nat → Int32) (os ts : Nat → Nat) (b : Nat → Nat) : Nat → Nat → Nat
  | 0 => b
  | k + 1 => if ks k = nI 4 ∧ ¬ jq ks os ts b k (os k) = jq ks os ts b k (ts k) then va_up (va_up (jq ks os ts b k) (os k) (min (jq ks os ts b k (os k)) (jq ks os ts b k (ts k)))) (ts k) (min (jq ks os ts b k (os k)) (jq ks os ts b k (ts k))) else jq ks os ts b k
def jc (ks : Nat → Int32) (os ts : Nat → Nat) (b : Nat → Nat) : Nat → Bool
  | 0 => false
  | k + 1 => jc ks os ts b k || decide (ks k = nI 4 ∧ ¬ jq ks os ts b k (os k) = jq ks os ts b k (ts k))
theorem jq_lt {ks : Nat → Int32} {os ts b : Nat → Nat} {B : Nat} (hb : ∀ u, b u < B) : ∀ k u, jq ks os ts b k u < B
  | 0, u => hb u
  | k + 1, u => by
    have ih := jq_lt (ks := ks) (os := os) (ts := ts) hb k
    rw [jq]
    split
    · exact upn_lt (upn_lt ih (Nat.lt_of_le_of_lt (Nat.min_le_left _ _) (ih _))) (Nat.lt_of_le_of_lt (Nat.min_le_left _ _) (ih _)) u
    · exact ih u
def sumN (v : Nat → Nat) : Nat → Nat
  | 0 => 0
  | k + 1 => sumN v k + v k
theorem sumN_cong {v w : Nat → Nat} : ∀ {m : Nat}, (∀ i, i < m → v i = w i) → sumN v m = sumN w m
  | 0, _ => rfl
  | m + 1, h => by rw [sumN, sumN, sumN_cong (fun i hi => h i (by omega)), h m (by omega)]
theorem sumN_up {v : Nat → Nat} {u x : Nat} : ∀ {m : Nat}, u < m → sumN (va_up v u x) m + v u = sumN v m + x
  | 0, h => by omega
  | m + 1, h => by
    rw [sumN, sumN]
    by_cases c : u = m
    · subst c
      rw [sumN_cong (v := va_up v u x) (w := v) (fun i hi => up_n v x (by omega)), up_s]
      omega
    · have ih := sumN_up (v := v) (u := u) (x := x) (m := m) (by omega)
      rw [up_n v x (show ¬ m = u by omega)]
      omega
theorem jq_sum {ks : Nat → Int32} {os ts b : Nat → Nat} {m : Nat} (ho : ∀ k, os k < m) (ht : ∀ k, ts k < m) : ∀ k, (jc ks os ts b k = true → sumN (jq ks os ts b k) m < sumN b m) ∧ (jc ks os ts b k = false → jq ks os ts b k = b)
  | 0 => ⟨fun h => (by cases h), fun _ => rfl⟩
  | k + 1 => by
    have ih := jq_sum (ks := ks) (b := b) ho ht k
    by_cases h : ks k = nI 4 ∧ ¬ jq ks os ts b k (os k) = jq ks os ts b k (ts k)
    · have hle : sumN (jq ks os ts b k) m ≤ sumN b m := by
        cases c : jc ks os ts b k with
        | true => exact Nat.le_of_lt (ih.1 c)
        | false => rw [ih.2 c]; exact Nat.le_refl _
      refine ⟨fun _ => ?_, fun c => ?_⟩
      · rw [jq, if_pos h]
        have e1 := sumN_up (v := jq ks os ts b k) (u := os k) (x := min (jq ks os ts b k (os k)) (jq ks os ts b k (ts k))) (ho k)
        have e2 := sumN_up (v := va_up (jq ks os ts b k) (os k) (min (jq ks os ts b k (os k)) (jq ks os ts b k (ts k)))) (u := ts k) (x := min (jq ks os ts b k (os k)) (jq ks os ts b k (ts k))) (ht k)
        have hne : ¬ ts k = os k := fun e => h.2 (by rw [e])
        rw [up_n _ _ hne] at e2
        have h2 := h.2
        omega
      · rw [jc, decide_eq_true h, Bool.or_true] at c; cases c
    · have e : jq ks os ts b (k + 1) = jq ks os ts b k := by rw [jq, if_neg h]
      have e2 : jc ks os ts b (k + 1) = jc ks os ts b k := by rw [jc, decide_eq_false h, Bool.or_false]
      rw [e, e2]
      exact ih
def jW (ks : Nat → Int32) (os ts : Nat → Nat) (rn : Nat) : Nat → (Nat → Nat) → Nat → Nat
  | 0, b => b
  | q + 1, b => jW ks os ts rn q (jq ks os ts b rn)
theorem jW_st {ks : Nat → Int32} {os ts : Nat → Nat} {rn : Nat} {b : Nat → Nat} (h : jq ks os ts b rn = b) : ∀ q, jW ks os ts rn q b = b
  | 0 => rfl
  | q + 1 => by rw [jW, h]; exact jW_st h q
theorem jW_lt {ks : Nat → Int32} {os ts : Nat → Nat} {rn B : Nat} : ∀ q {b : Nat → Nat}, (∀ u, b u < B) → ∀ u, jW ks os ts rn q b u < B
  | 0, _, hb, u => hb u
  | q + 1, _, hb, u => by rw [jW]; exact jW_lt q (jq_lt hb rn) u
theorem sumN_lt {v : Nat → Nat} {B : Nat} (hb : ∀ u, v u < B + 1) : ∀ m, sumN v m ≤ m * B
  | 0 => by simp [sumN]
  | m + 1 => by
    have := sumN_lt hb m
    have := hb m
    rw [sumN, Nat.succ_mul]
    omega
/-- who is later, from who is earlier -/
def lr1 (E : Nat → Nat → Bool) (u : Nat) (L : Nat → Nat → Bool) : Nat → Nat → Nat → Bool
  | 0 => L
  | k + 1 => if E u k = true then va_up (lr1 E u L k) k (fun i => lr1 E u L k k i || decide (i = u)) else lr1 E u L k
def lr2 (E : Nat → Nat → Bool) (n : Nat) (L : Nat → Nat → Bool) : Nat → Nat → Nat → Bool
  | 0 => L
  | u + 1 => lr1 E u (lr2 E n L u) n
/-- what is linked: the earlier ones but those that are earlier than one of them -/
def kS (E : Nat → Nat → Bool) (u : Nat) : Nat → Nat → Bool
  | 0 => E u
  | k + 1 => if E u k = true then fun i => kS E u k i && !(E k i) else kS E u k
/-- levels, round by round -/
def rl1 (E : Nat → Nat → Bool) (u : Nat) (L : Nat → Int32) : Nat → Nat → Int32
  | 0 => L
  | k + 1 => if E u k = true then va_up (rl1 E u L k) u (imax (rl1 E u L k u) (rl1 E u L k k + nI 1)) else rl1 E u L k
def rl2 (E : Nat → Nat → Bool) (n : Nat) (L : Nat → Int32) : Nat → Nat → Int32
  | 0 => L
  | u + 1 => rl1 E u (rl2 E n L u) n
def rl3 (E : Nat → Nat → Bool) (n : Nat) (L : Nat → Int32) : Nat → Nat → Int32
  | 0 => L
  | t + 1 => rl2 E n (rl3 E n L t) n
/-- the settled rows -/
def sJ (ks : Nat → Int32) (os ts bo : Nat → Nat) (un rn : Nat) : Nat → Nat := jW ks os ts rn 1600 (pre (fun u => u) bo un)
def sE (ks : Nat → Int32) (os ts bo : Nat → Nat) (un rn : Nat) (eE : Nat → Nat → Bool) : Nat → Nat → Bool := wO un (dA ks os ts (sJ ks os ts bo un rn) (pre (fun _ _ => false) eE un) rn) un
def sLt (E : Nat → Nat → Bool) (un : Nat) (lE : Nat → Nat → Bool) : Nat → Nat → Bool := lr2 E un (pre (fun _ _ => false) lE un) un
def sLi (E : Nat → Nat → Bool) (un : Nat) (li : Nat → Nat → Bool) : Nat → Nat → Bool := pre (fun v => kS E v un) li un
def sRk (E : Nat → Nat → Bool) (un : Nat) (be : Nat → Int32) : Nat → Int32 := rl3 E un (pre (fun _ => nI 0) be un) un
