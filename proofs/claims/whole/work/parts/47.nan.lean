/-! two doubles that are the same quotient -/
theorem u64_and (x : UInt64) : (x &&& 0x7fffffffffffffff).toNat = x.toNat % 2 ^ 63 := by
  rw [UInt64.toNat_and]
  exact Nat.and_two_pow_sub_one_eq_mod x.toNat 63
theorem nan_big {x : UInt64} (h : isNaN64 x = true) : 9218868437227405312 < x.toNat % 2 ^ 63 := by
  have h1 : x &&& 0x7fffffffffffffff > 0x7ff0000000000000 := of_decide_eq_true h
  have h2 := UInt64.lt_iff_toNat_lt.mp h1
  rw [u64_and] at h2
  exact h2
theorem nan_dec {x : UInt64} (h : isNaN64 x = true) : FP.Core.decode FP.Core.b64 x.toNat = .nan := by
  have h2 := nan_big h
  have h3 : x.toNat < 2 ^ 64 := x.toNat_lt
  have e1 : FP.Core.Fmt.tails FP.Core.b64 = 4503599627370496 := by decide +kernel
  have e2 : FP.Core.Fmt.exps FP.Core.b64 = 2048 := by decide +kernel
  have h4 : FP.Core.fieldE FP.Core.b64 x.toNat = FP.Core.Fmt.exps FP.Core.b64 - 1 := by
    unfold FP.Core.fieldE
    rw [e1, e2]
    omega
  have h5 : ¬ FP.Core.fieldT FP.Core.b64 x.toNat = 0 := by
    unfold FP.Core.fieldT
    rw [e1]
    omega
  unfold FP.Core.decode
  rw [if_pos h4, if_neg h5]
theorem dcmp_nan {x y : UInt64} (h : FP.Core.decode FP.Core.b64 x.toNat = .nan) : FP.dcmp x y = none := by
  show FP.Core.cmp FP.Core.b64 x.toNat y.toNat = none
  unfold FP.Core.cmp
  rw [h, FP.Core.order]
theorem dcmp_self {x : UInt64} (h : ¬ FP.Core.decode FP.Core.b64 x.toNat = .nan) : FP.dcmp x x = some .eq := by
  show FP.Core.order (FP.Core.decode FP.Core.b64 x.toNat) (FP.Core.decode FP.Core.b64 x.toNat) = some .eq
  generalize FP.Core.decode FP.Core.b64 x.toNat = D at h
  cases D with
  | nan => exact absurd rfl h
  | inf s => exact congrArg some Std.ReflCmp.compare_self
  | fin s c q => exact congrArg some Std.ReflCmp.compare_self
theorem al_cases {r D : UInt64} (h : alike64 r D = true) : r = D ∨ (FP.Core.decode FP.Core.b64 r.toNat = .nan ∧ FP.Core.decode FP.Core.b64 D.toNat = .nan) := by
  unfold alike64 at h
  rw [Bool.or_eq_true, Bool.and_eq_true, decide_eq_true_eq] at h
  rcases h with h | ⟨h1, h2⟩
  · exact Or.inl h
  · exact Or.inr ⟨nan_dec h1, nan_dec h2⟩
theorem same_cases {p : UInt64} : FP.dcmp p p = some .eq ∨ (FP.dcmp p p = none ∧ FP.dcmp p p = none) := by
  by_cases h : FP.Core.decode FP.Core.b64 p.toNat = .nan
  · exact Or.inr ⟨dcmp_nan h, dcmp_nan h⟩
  · exact Or.inl (dcmp_self h)
theorem mh_pq {f : Nat} {sum : Int32} {p q : UInt64} (hp : mhP f sum p) (hq : mhP f sum q) : FP.dcmp p q = some .eq ∨ (FP.dcmp p p = none ∧ FP.dcmp q q = none) := by
  unfold mhP at hp hq
  by_cases h : f = 0
  · rw [if_pos h] at hp hq
    rw [hp, hq]
    exact same_cases
  · rw [if_neg h] at hp hq
    generalize FP.ddiv (FP.i2d sum) (FP.i2d (nI f)) = D at hp hq
    rcases al_cases hp with e1 | ⟨e1, e2⟩
    · rcases al_cases hq with e3 | ⟨e3, e4⟩
      · rw [e1, e3]
        exact same_cases
      · rw [e1]
        exact Or.inr ⟨dcmp_nan e4, dcmp_nan e3⟩
    · rcases al_cases hq with e3 | ⟨e3, e4⟩
      · rw [e3]
        exact Or.inr ⟨dcmp_nan e1, dcmp_nan e2⟩
      · exact Or.inr ⟨dcmp_nan e1, dcmp_nan e3⟩
