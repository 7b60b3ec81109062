/-! sets of numbers below 64 as longs -/
theorem wb_tb (n : Nat) : (lN n).toBitVec = BitVec.ofNat 64 n := rfl
theorem wb_inj {a b : Int64} (h : a.toBitVec = b.toBitVec) : a = b := Int64.toBitVec_inj.mp h
theorem wb_tn {n : Nat} (h : n < 2 ^ 64) : (lN n).toBitVec.toNat = n := by rw [wb_tb, BitVec.toNat_ofNat, Nat.mod_eq_of_lt h]
theorem wb_c : ∀ k, k < 64 → ((nI k).toInt64 &&& 63) = lN k := by decide +kernel
theorem wb_cu : ∀ k, k < 64 → ((nI k).toInt64.toUInt64 &&& Int64.toUInt64 63) = UInt64.ofNat k := by decide +kernel
theorem wb_sm : ∀ k, k < 64 → (BitVec.ofNat 64 k).smod 64 = BitVec.ofNat 64 k := by decide +kernel
theorem wb_shl (n : Nat) {k : Nat} (hk : k < 64) : lN n <<< ((nI k).toInt64 &&& 63) = lN (n * 2 ^ k) := by
  rw [wb_c k hk]
  apply wb_inj
  rw [Int64.toBitVec_shiftLeft, wb_tb, wb_tb, wb_tb, wb_sm k hk]
  apply BitVec.eq_of_toNat_eq
  rw [BitVec.shiftLeft_eq', BitVec.toNat_shiftLeft, BitVec.toNat_ofNat, BitVec.toNat_ofNat, BitVec.toNat_ofNat, Nat.mod_eq_of_lt (show k < 2 ^ 64 by omega), Nat.shiftLeft_eq, Nat.mul_mod, Nat.mod_mod, ← Nat.mul_mod]
def bsN (p : Nat → Bool) : Nat → Nat
  | 0 => 0
  | n + 1 => bsN p n + (if p n then 2 ^ n else 0)
def bs (p : Nat → Bool) : Int64 := lN (bsN p 64)
theorem bsN_lt (p : Nat → Bool) : ∀ n, bsN p n < 2 ^ n
  | 0 => Nat.one_pos
  | n + 1 => by
    have h := bsN_lt p n
    rw [bsN, Nat.pow_succ]
    split <;> omega
theorem bsN_test (p : Nat → Bool) : ∀ n i, (bsN p n).testBit i = (decide (i < n) && p i)
  | 0, i => by simp [bsN]
  | n + 1, i => by
    have h := bsN_test p n i
    have hl := bsN_lt p n
    rw [bsN]
    rcases Nat.lt_trichotomy i n with c | c | c
    · by_cases hp : p n
      · rw [if_pos hp, Nat.add_comm, Nat.testBit_two_pow_add_gt c, h]
        simp [c, Nat.lt_succ_of_lt c]
      · rw [if_neg hp, Nat.add_zero, h]
        simp [c, Nat.lt_succ_of_lt c]
    · subst c
      by_cases hp : p i
      · rw [if_pos hp, Nat.add_comm, Nat.testBit_two_pow_add_eq, Nat.testBit_lt_two_pow hl]
        simp [hp]
      · rw [if_neg hp, Nat.add_zero, h]
        simp [hp]
    · have h2 : bsN p n + (if p n then 2 ^ n else 0) < 2 ^ i := by
        have h3 : 2 ^ (n + 1) ≤ 2 ^ i := Nat.pow_le_pow_right (by decide) c
        have h4 := bsN_lt p (n + 1)
        rw [bsN] at h4
        omega
      rw [Nat.testBit_lt_two_pow h2]
      have : ¬ i < n + 1 := by omega
      simp [this]
theorem bs_get (p : Nat → Bool) (i : Nat) : (bs p).toBitVec.getLsbD i = (decide (i < 64) && p i) := by
  rw [bs, wb_tb, BitVec.getLsbD_ofNat, bsN_test]
  cases decide (i < 64) <;> simp
theorem bs_ext {x : Int64} {p : Nat → Bool} (h : ∀ i, i < 64 → x.toBitVec.getLsbD i = p i) : x = bs p := by
  apply wb_inj
  apply BitVec.eq_of_getLsbD_eq
  intro i hi
  rw [h i hi, bs_get]
  simp [hi]
theorem bs_cong {p q : Nat → Bool} (h : ∀ i, i < 64 → p i = q i) : bs p = bs q := bs_ext (fun i hi => by rw [bs_get, h i hi]; simp [hi])
theorem bs_inj {p q : Nat → Bool} (h : bs p = bs q) (i : Nat) (hi : i < 64) : p i = q i := by
  have h1 := bs_get p i
  rw [h, bs_get] at h1
  simpa [hi] using h1.symm
theorem bs_of (x : Int64) : x = bs (fun i => x.toBitVec.getLsbD i) := bs_ext (fun _ _ => rfl)
theorem bs_or (p q : Nat → Bool) : bs p ||| bs q = bs (fun i => p i || q i) := bs_ext (fun i hi => by rw [Int64.toBitVec_or, BitVec.getLsbD_or, bs_get, bs_get]; simp [hi])
theorem bs_and (p q : Nat → Bool) : bs p &&& bs q = bs (fun i => p i && q i) := bs_ext (fun i hi => by rw [Int64.toBitVec_and, BitVec.getLsbD_and, bs_get, bs_get]; simp [hi])
theorem bs_m1 : (-1 : Int64) = bs (fun _ => true) := by decide +kernel
theorem bs_0 : (0 : Int64) = bs (fun _ => false) := by decide +kernel
theorem bs_not (p : Nat → Bool) : bs p ^^^ (-1) = bs (fun i => !p i) := by
  rw [bs_m1]
  exact bs_ext (fun i hi => by rw [Int64.toBitVec_xor, BitVec.getLsbD_xor, bs_get, bs_get]; simp [hi])
theorem bs_bit {k : Nat} (hk : k < 64) : (1 : Int64) <<< ((nI k).toInt64 &&& 63) = bs (fun i => decide (i = k)) := by
  have h := wb_shl 1 hk
  rw [Nat.one_mul] at h
  have e : (1 : Int64) = lN 1 := by decide +kernel
  rw [e, h]
  apply bs_ext
  intro i hi
  rw [wb_tb, BitVec.getLsbD_ofNat, Nat.testBit_two_pow]
  simp only [hi, decide_true, Bool.true_and]
  by_cases c : i = k
  · subst c; simp
  · have c2 : ¬ k = i := fun e => c e.symm
    simp [c, c2]
theorem bs_z {p : Nat → Bool} : bs p = 0 ↔ ∀ i, i < 64 → p i = false := ⟨fun h i hi => by rw [bs_0] at h; exact bs_inj h i hi, fun h => by rw [bs_0]; exact bs_cong h⟩
theorem lg_cmp_0 {x y : Int64} : lg_cmp x y = 0 ↔ x = y := by
  unfold lg_cmp
  by_cases h : x > y
  · rw [if_pos h]
    constructor
    · intro c; exact absurd c (by decide +kernel)
    · intro c; subst c; exact absurd h (Int64.lt_irrefl)
  · rw [if_neg h]
    by_cases e : x = y
    · rw [if_pos e]; exact ⟨fun _ => e, fun _ => rfl⟩
    · rw [if_neg e]
      exact ⟨fun c => absurd c (by decide +kernel), fun c => absurd c e⟩
theorem bs_has {p : Nat → Bool} {k : Nat} (hk : k < 64) : lg_cmp (bs (fun i => p i && decide (i = k))) 0 = 0 ↔ p k = false := by
  rw [lg_cmp_0, bs_z]
  constructor
  · intro h
    have := h k hk
    simpa using this
  · intro h i hi
    by_cases c : i = k
    · subst c; simp [h]
    · simp [c]
/-- the bit at k, shifted down -/
theorem bs_down (p : Nat → Bool) {k : Nat} (hk : k < 64) : (bs p >>> ((nI k).toInt64 &&& 63)) &&& 1 = bs (fun i => decide (i = 0) && p k) := by
  rw [wb_c k hk]
  apply bs_ext
  intro i hi
  have e1 : (1 : Int64).toBitVec = 1#64 := rfl
  rw [Int64.toBitVec_and, BitVec.getLsbD_and, e1]
  by_cases c : i = 0
  · subst c
    rw [Int64.toBitVec_shiftRight, wb_tb, wb_sm k hk, BitVec.sshiftRight_eq', BitVec.getLsbD_sshiftRight, BitVec.toNat_ofNat, Nat.mod_eq_of_lt (show k < 2 ^ 64 by omega), bs_get]
    simp [hk]
  · simp [c, BitVec.getLsbD_one]
def fS (f : Nat → Nat → Bool) : Nat → Int64 := fun k => bs (f k)
theorem fS_up (f : Nat → Nat → Bool) (k : Nat) (p : Nat → Bool) : va_up (fS f) k (bs p) = fS (va_up f k p) := by
  funext j
  by_cases h : j = k <;> simp [va_up, fS, h]
