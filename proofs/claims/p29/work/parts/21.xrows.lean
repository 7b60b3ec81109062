/-! ROWS, FOURTH: what throws, and what catches. -/
section ROWS4
variable {g : aG} {κ : aK} {own : String} {cc : ByteArray} {nL pc k n i k' n' : Nat} {rm : Room} {L L' : List (Nat × Value)} {st : List Value} {ws ws' w1 : va_W}
end ROWS4
/-- a number below n -/
def okU (n : Nat) (x : Int32) : Prop := ∃ j, j < n ∧ x = nI j
theorem inB_iff {l h x : Int32} : inB l h x = true ↔ l ≤ x ∧ x ≤ h := by
  unfold inB
  rw [Bool.and_eq_true, decide_eq_true_eq, decide_eq_true_eq]
theorem okU_c {m : Nat} {x : Int32} (hm : m < 2 ^ 31) : inB (nI 0) (nI m) x = true ↔ okU (m + 1) x := by
  rw [inB_iff]
  constructor
  · rintro ⟨h1, h2⟩
    rw [nI_0] at h1
    obtain ⟨j, hj, rfl⟩ := nI_of (Int32.not_lt.mpr h1)
    exact ⟨j, by have := (nI_leI hj hm).mp h2; omega, rfl⟩
  · rintro ⟨j, hj, rfl⟩
    exact ⟨(nI_leI (by decide) (by omega)).mpr (by omega), (nI_leI (by omega) hm).mpr (by omega)⟩
theorem okU_n {n : Nat} {x : Int32} (hn : n < 2 ^ 31) : inB (nI 0) (nI n - nI 1) x = true ↔ okU n x := by
  cases n with
  | zero =>
    rw [inB_iff]
    constructor
    · rintro ⟨h1, h2⟩
      have h3 := Int32.le_iff_toInt_le.mp h1
      have h4 := Int32.le_iff_toInt_le.mp h2
      have e1 : (nI 0 - nI 1).toInt = -1 := by decide +kernel
      have e2 : (nI 0).toInt = 0 := by decide +kernel
      omega
    · rintro ⟨j, hj, _⟩
      exact absurd hj (by omega)
  | succ m =>
    rw [pk_sub (by omega), Nat.add_sub_cancel]
    exact okU_c (by omega)
