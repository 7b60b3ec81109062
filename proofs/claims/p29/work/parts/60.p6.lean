/-! PURE, 6: the number of a long's bits -/
theorem wb_shr {n k : Nat} (hn : n < 2 ^ 64) (hk : k < 64) : ((lN n).toUInt64 >>> ((nI k).toInt64.toUInt64 &&& Int64.toUInt64 63)).toInt64 = lN (n / 2 ^ k) := by
  rw [wb_cu k hk]
  apply wb_inj
  apply BitVec.eq_of_toNat_eq
  show ((lN n).toUInt64 >>> UInt64.ofNat k).toNat = (BitVec.ofNat 64 _).toNat
  have h1 : (UInt64.ofNat k).toNat = k := by
    show (BitVec.ofNat 64 k).toNat = k
    rw [BitVec.toNat_ofNat, Nat.mod_eq_of_lt (by omega)]
  have h2 : (lN n).toUInt64.toNat = n := wb_tn hn
  rw [UInt64.toNat_shiftRight, h1, h2, Nat.mod_eq_of_lt hk, Nat.shiftRight_eq_div_pow, BitVec.toNat_ofNat, Nat.mod_eq_of_lt (Nat.lt_of_le_of_lt (Nat.div_le_self _ _) hn)]
theorem fb_andL (a b : Nat) : lN a &&& lN b = lN (a &&& b) := by
  apply Int64.toBitVec_inj.1
  show BitVec.ofNat 64 a &&& BitVec.ofNat 64 b = BitVec.ofNat 64 (a &&& b)
  apply BitVec.eq_of_getLsbD_eq
  intro i hi
  simp [hi]
theorem fb_andI (a b : Nat) : nI a &&& nI b = nI (a &&& b) := by
  apply Int32.toBitVec_inj.1
  show BitVec.ofNat 32 a &&& BitVec.ofNat 32 b = BitVec.ofNat 32 (a &&& b)
  apply BitVec.eq_of_getLsbD_eq
  intro i hi
  simp [hi]
def by8 (f : Nat → Nat) : Nat → Nat
  | 0 => 0
  | m + 1 => 256 * by8 (fun j => f (j + 1)) m + f 0
theorem land_cat {i x y a c : Nat} (ha : a < 2 ^ i) (hc : c < 2 ^ i) : (2 ^ i * x + a) &&& (2 ^ i * y + c) = 2 ^ i * (x &&& y) + (a &&& c) := by
  apply Nat.eq_of_testBit_eq
  intro j
  rw [Nat.testBit_and, Nat.testBit_two_pow_mul_add x ha, Nat.testBit_two_pow_mul_add y hc, Nat.testBit_two_pow_mul_add (x &&& y) (Nat.and_lt_two_pow a hc)]
  split
  · rw [Nat.testBit_and]
  · rw [Nat.testBit_and]
theorem land_256 {x y a c : Nat} (ha : a < 256) (hc : c < 256) : (256 * x + a) &&& (256 * y + c) = 256 * (x &&& y) + (a &&& c) := land_cat (i := 8) ha hc
theorem by8_land {μ : Nat} (hμ : μ < 256) : ∀ m (f : Nat → Nat), (∀ j, f j < 256) → by8 f m &&& by8 (fun _ => μ) m = by8 (fun j => f j &&& μ) m
  | 0, _, _ => by
    show 0 &&& 0 = 0
    exact Nat.zero_and 0
  | m + 1, f, hf => by
    rw [by8, by8, by8, land_256 (hf 0) hμ, by8_land hμ m _ (fun j => hf (j + 1))]
theorem by8_shl {s t μ : Nat} (hμ : μ < 2 ^ t) (hμ2 : μ < 256) (hd : ∀ X a : Nat, a < 256 → (256 * X + a) / 2 ^ s = 256 * (X / 2 ^ s) + (2 ^ t * (X % 2 ^ s) + a / 2 ^ s) ∧ 2 ^ t * (X % 2 ^ s) + a / 2 ^ s < 256 ∧ a / 2 ^ s < 2 ^ t) : ∀ m (f : Nat → Nat), (∀ j, f j < 256) → by8 f m / 2 ^ s &&& by8 (fun _ => μ) m = by8 (fun j => f j / 2 ^ s &&& μ) m
  | 0, _, _ => by
    show 0 / 2 ^ s &&& 0 = 0
    rw [Nat.and_zero]
  | m + 1, f, hf => by
    obtain ⟨h1, h2, h3⟩ := hd (by8 (fun j => f (j + 1)) m) (f 0) (hf 0)
    have h4 : (2 ^ t * (by8 (fun j => f (j + 1)) m % 2 ^ s) + f 0 / 2 ^ s) &&& μ = f 0 / 2 ^ s &&& μ := by
      have h := land_cat (x := by8 (fun j => f (j + 1)) m % 2 ^ s) (y := 0) h3 hμ
      rw [Nat.mul_zero, Nat.zero_add, Nat.and_zero, Nat.mul_zero, Nat.zero_add] at h
      exact h
    rw [by8, by8, by8, h1, land_256 h2 hμ2, by8_shl hμ hμ2 hd m _ (fun j => hf (j + 1)), h4]
theorem by8_add : ∀ m (f g : Nat → Nat), by8 f m + by8 g m = by8 (fun j => f j + g j) m
  | 0, _, _ => rfl
  | m + 1, f, g => by
    have ih := by8_add m (fun j => f (j + 1)) (fun j => g (j + 1))
    rw [by8, by8, by8]
    omega
theorem by8_nib {z : Nat → Nat} (h : ∀ j, z j % 16 ≤ 4) : ∀ m, by8 z m % 16 ≤ 4
  | 0 => by
    show 0 % 16 ≤ 4
    decide
  | m + 1 => by
    have := h 0
    rw [by8]
    omega
theorem by8_three : ∀ m (z : Nat → Nat), (∀ j, z j ≤ 68 ∧ z j % 16 ≤ 4) → (by8 z m + by8 z m / 16) &&& by8 (fun _ => 15) m = by8 (fun j => (z j + z j / 16) &&& 15) m
  | 0, _, _ => by
    show (0 + 0 / 16) &&& 0 = 0
    exact Nat.and_zero _
  | m + 1, z, hz => by
    have ih := by8_three m (fun j => z (j + 1)) (fun j => hz (j + 1))
    have h0 := hz 0
    have h1 := by8_nib (z := fun j => z (j + 1)) (fun j => (hz (j + 1)).2) m
    rw [by8, by8, by8, ← ih]
    have e1 : 256 * by8 (fun j => z (j + 1)) m + z 0 + (256 * by8 (fun j => z (j + 1)) m + z 0) / 16 = 256 * (by8 (fun j => z (j + 1)) m + by8 (fun j => z (j + 1)) m / 16) + (z 0 + z 0 / 16 + 16 * (by8 (fun j => z (j + 1)) m % 16)) := by omega
    rw [e1, land_256 (by omega) (by omega)]
    have e2 : ∀ a : Nat, a &&& 15 = a % 16 := fun a => Nat.and_two_pow_sub_one_eq_mod a 4
    rw [e2 (z 0 + z 0 / 16 + 16 * _), e2 (z 0 + z 0 / 16)]
    omega
def pb (y : Nat) : Nat := ((((y - (y / 2 &&& 85)) &&& 51) + ((y - (y / 2 &&& 85)) / 4 &&& 51)) + (((y - (y / 2 &&& 85)) &&& 51) + ((y - (y / 2 &&& 85)) / 4 &&& 51)) / 16) &&& 15
theorem pb_ok : ∀ y, y < 256 → (y / 2 &&& 85) ≤ y ∧ y - (y / 2 &&& 85) < 256 ∧ (((y - (y / 2 &&& 85)) &&& 51) + ((y - (y / 2 &&& 85)) / 4 &&& 51)) ≤ 68 ∧ (((y - (y / 2 &&& 85)) &&& 51) + ((y - (y / 2 &&& 85)) / 4 &&& 51)) % 16 ≤ 4 ∧ pb y ≤ 8 := by decide +kernel
theorem pb_bits : ∀ a0 a1 a2 a3 a4 a5 a6 a7 : Bool, pb (((((((( 0 + (if a0 = true then 2 ^ 0 else 0)) + (if a1 = true then 2 ^ 1 else 0)) + (if a2 = true then 2 ^ 2 else 0)) + (if a3 = true then 2 ^ 3 else 0)) + (if a4 = true then 2 ^ 4 else 0)) + (if a5 = true then 2 ^ 5 else 0)) + (if a6 = true then 2 ^ 6 else 0)) + (if a7 = true then 2 ^ 7 else 0)) = ((((((( 0 + (if a0 = true then 1 else 0)) + (if a1 = true then 1 else 0)) + (if a2 = true then 1 else 0)) + (if a3 = true then 1 else 0)) + (if a4 = true then 1 else 0)) + (if a5 = true then 1 else 0)) + (if a6 = true then 1 else 0)) + (if a7 = true then 1 else 0) := by decide +kernel
theorem pb_cnt (q : Nat → Bool) : pb (bsN q 8) = cnt q 8 := pb_bits (q 0) (q 1) (q 2) (q 3) (q 4) (q 5) (q 6) (q 7)
theorem bsN_cat (p : Nat → Bool) : ∀ k, bsN p (8 + k) = 256 * bsN (fun i => p (8 + i)) k + bsN p 8
  | 0 => by
    show bsN p 8 = 256 * 0 + bsN p 8
    omega
  | k + 1 => by
    have ih := bsN_cat p k
    show bsN p ((8 + k) + 1) = _
    rw [bsN, bsN, ih]
    have e : 2 ^ (8 + k) = 256 * 2 ^ k := by rw [Nat.pow_add]
    by_cases c : p (8 + k) = true
    · rw [if_pos c, if_pos c, e]
      omega
    · rw [if_neg c, if_neg c]
      rfl
theorem bsN_by8 : ∀ m (p : Nat → Bool), bsN p (8 * m) = by8 (fun j => bsN (fun i => p (8 * j + i)) 8) m
  | 0, _ => rfl
  | m + 1, p => by
    have e : 8 * (m + 1) = 8 + 8 * m := by omega
    rw [e, bsN_cat, bsN_by8 m, by8]
    have e1 : (fun j => bsN (fun i => p (8 + (8 * j + i))) 8) = fun j => bsN (fun i => p (8 * (j + 1) + i)) 8 := funext fun j => congrArg (fun q => bsN q 8) (funext fun i => congrArg p (by omega))
    rw [e1]
    have e2 : (fun i => p (8 * 0 + i)) = p := funext fun i => congrArg p (by omega)
    rw [e2]
theorem cnt_cat (p : Nat → Bool) : ∀ k, cnt p (8 + k) = cnt (fun i => p (8 + i)) k + cnt p 8
  | 0 => by
    show cnt p 8 = 0 + cnt p 8
    omega
  | k + 1 => by
    have ih := cnt_cat p k
    show cnt p ((8 + k) + 1) = _
    rw [cnt, cnt, ih]
    omega
theorem cnt_by8 : ∀ m (p : Nat → Bool), cnt p (8 * m) = sumN (fun j => cnt (fun i => p (8 * j + i)) 8) m
  | 0, _ => rfl
  | m + 1, p => by
    rw [sumN, ← cnt_by8 m p]
    show cnt p (8 * m + 8) = _
    have : ∀ k, cnt p (8 * m + k) = cnt p (8 * m) + cnt (fun i => p (8 * m + i)) k := by
      intro k
      induction k with
      | zero => rfl
      | succ k ih =>
        show cnt p ((8 * m + k) + 1) = _
        rw [cnt, cnt, ih]
        omega
    exact this 8
theorem dv_q {y d q r : Nat} (h : y = d * q + r) (hr : r < d) : y / d = q := by
  rw [h, Nat.mul_add_div (by omega), Nat.div_eq_of_lt hr, Nat.add_zero]
theorem lin2 {x x1 y y1 a b : Nat} (h : x = 256 * x1 + a) (h2 : y = 256 * y1 + b) : x + y = 256 * (x1 + y1) + (a + b) := by omega
theorem dv_2 {y y1 y2 a0 a1 : Nat} (h0 : y = 256 * y1 + a0) (h1 : y1 = 256 * y2 + a1) (b0 : a0 < 256) (b1 : a1 < 256) : y / 65536 = y2 := dv_q (r := 256 * a1 + a0) (by omega) (by omega)
theorem dv_4 {z z1 z2 z3 z4 b0 b1 b2 b3 : Nat} (h0 : z = 256 * z1 + b0) (h1 : z1 = 256 * z2 + b1) (h2 : z2 = 256 * z3 + b2) (h3 : z3 = 256 * z4 + b3) (c0 : b0 < 256) (c1 : b1 < 256) (c2 : b2 < 256) (c3 : b3 < 256) : z / 4294967296 = z4 := dv_q (r := 16777216 * b3 + 65536 * b2 + 256 * b1 + b0) (by omega) (by omega)
theorem md_q {z z1 y y1 a b : Nat} (h0 : z = 256 * z1 + a) (h1 : y = 256 * y1 + b) (h : a + b < 128) : (z + y) % 128 = a + b := by omega
set_option maxHeartbeats 60000 in
theorem by8_last {v0 v1 v2 v3 v4 v5 v6 v7 x0 x1 x2 x3 x4 x5 x6 x7 : Nat} (h0 : v0 ≤ 8) (h1 : v1 ≤ 8) (h2 : v2 ≤ 8) (h3 : v3 ≤ 8) (h4 : v4 ≤ 8) (h5 : v5 ≤ 8) (h6 : v6 ≤ 8) (h7 : v7 ≤ 8) (e0 : x0 = 256 * x1 + v0) (e1 : x1 = 256 * x2 + v1) (e2 : x2 = 256 * x3 + v2) (e3 : x3 = 256 * x4 + v3) (e4 : x4 = 256 * x5 + v4) (e5 : x5 = 256 * x6 + v5) (e6 : x6 = 256 * x7 + v6) (e7 : x7 = 256 * 0 + v7) : ((x0 + x0 / 256 + (x0 + x0 / 256) / 65536) + (x0 + x0 / 256 + (x0 + x0 / 256) / 65536) / 4294967296) % 128 = (v0 + v1) + (v2 + v3) + ((v4 + v5) + (v6 + v7)) := by
  rw [dv_q e0 (by clear e0 e1 e2 e3 e4 e5 e6 e7; omega)]
  have y0 := lin2 e0 e1
  have y1 := lin2 e1 e2
  have y2 := lin2 e2 e3
  have y3 := lin2 e3 e4
  have y4 := lin2 e4 e5
  have y5 := lin2 e5 e6
  have y6 := lin2 e6 e7
  clear e0 e1 e2 e3 e4 e5 e6
  rw [dv_2 y0 y1 (by clear y0 y1 y2 y3 y4 y5 y6 e7; omega) (by clear y0 y1 y2 y3 y4 y5 y6 e7; omega)]
  have z0 := lin2 y0 y2
  have z1 := lin2 y1 y3
  have z2 := lin2 y2 y4
  have z3 := lin2 y3 y5
  have z4 := lin2 y4 y6
  clear y0 y1 y2 y3 y4 y5 y6 e7
  rw [dv_4 z0 z1 z2 z3 (by clear z0 z1 z2 z3 z4; omega) (by clear z0 z1 z2 z3 z4; omega) (by clear z0 z1 z2 z3 z4; omega) (by clear z0 z1 z2 z3 z4; omega)]
  exact md_q z0 z4 (by clear z0 z1 z2 z3 z4; omega)
