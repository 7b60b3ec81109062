/-! THE LAW: its loop's numbers -/
theorem and31 (x : Int32) : ∃ q, q < 32 ∧ x &&& nI 31 = nI q := by
  refine ⟨x.toBitVec.toNat % 32, Nat.mod_lt _ (by decide), ?_⟩
  apply Int32.toBitVec_inj.mp
  apply BitVec.eq_of_toNat_eq
  have e : (nI (x.toBitVec.toNat % 32)).toBitVec = BitVec.ofNat 32 (x.toBitVec.toNat % 32) := rfl
  have e31 : (nI 31).toBitVec.toNat = 2 ^ 5 - 1 := by decide +kernel
  rw [Int32.toBitVec_and, BitVec.toNat_and, e31, Nat.and_two_pow_sub_one_eq_mod, e, BitVec.toNat_ofNat, Nat.mod_eq_of_lt (a := x.toBitVec.toNat % 32) (by omega)]
theorem lp_go {L i : Nat} (hL : L ≤ 2560) (hi : i ≤ 3000) (h : ¬ nI L - nI 5 < nI i) : i + 5 ≤ L := by
  by_cases c : 5 ≤ L
  · rw [pk_sub c, nI_ltI (by omega) (by omega)] at h
    omega
  · exfalso
    apply h
    have h1 : (nI i).toInt = i := nI_toInt (by omega)
    rw [Int32.lt_iff_toInt_lt, h1]
    rcases (show L = 0 ∨ L = 1 ∨ L = 2 ∨ L = 3 ∨ L = 4 by omega) with rfl | rfl | rfl | rfl | rfl
    · have : (nI 0 - nI 5).toInt = -5 := by decide +kernel
      omega
    · have : (nI 1 - nI 5).toInt = -4 := by decide +kernel
      omega
    · have : (nI 2 - nI 5).toInt = -3 := by decide +kernel
      omega
    · have : (nI 3 - nI 5).toInt = -2 := by decide +kernel
      omega
    · have : (nI 4 - nI 5).toInt = -1 := by decide +kernel
      omega
theorem lp_go5 {j : Nat} : nI (5 * j) + Int32.ofInt 5 = nI (5 * (j + 1)) := by
  rw [nI_inc5, Nat.mul_succ]
