/-! PURE, 7: the number of a long's bits, continued -/
theorem by8_le {c : Nat} : ∀ m (f : Nat → Nat), (∀ j, f j ≤ c) → by8 f m ≤ c * by8 (fun _ => 1) m
  | 0, _, _ => Nat.zero_le _
  | m + 1, f, hf => by
    have ih := by8_le m (fun j => f (j + 1)) (fun j => hf (j + 1))
    have h0 := hf 0
    rw [by8, by8, Nat.mul_add, Nat.mul_one, ← Nat.mul_assoc, Nat.mul_comm c 256, Nat.mul_assoc]
    omega
theorem by8_lt {f : Nat → Nat} (hf : ∀ j, f j < 256) : by8 f 8 < 2 ^ 64 := by
  have h := by8_le (c := 255) 8 f (fun j => Nat.le_of_lt_succ (hf j))
  exact Nat.lt_of_le_of_lt h (by decide +kernel)
theorem by8_lt60 {f : Nat → Nat} (hf : ∀ j, f j ≤ 8) : by8 f 8 < 2 ^ 60 := by
  have h := by8_le (c := 8) 8 f hf
  exact Nat.lt_of_le_of_lt h (by decide +kernel)
theorem by8_sub {f g : Nat → Nat} (h : ∀ j, g j ≤ f j) (m : Nat) : by8 g m ≤ by8 f m ∧ by8 f m - by8 g m = by8 (fun j => f j - g j) m := by
  have e := by8_add m (fun j => f j - g j) g
  have e2 : (fun j => f j - g j + g j) = f := funext fun j => Nat.sub_add_cancel (h j)
  rw [e2] at e
  omega
set_option maxHeartbeats 60000 in
theorem bc1_by {y : Nat → Nat} (hy : ∀ j, y j < 256) : bc1 (lN (by8 y 8)) = lN (by8 (fun j => y j - (y j / 2 &&& 85)) 8) := by
  have h1 : by8 y 8 / 2 ^ 1 &&& by8 (fun _ => 85) 8 = by8 (fun j => y j / 2 &&& 85) 8 := by8_shl (s := 1) (t := 7) (by decide) (by decide) (fun X a ha => by omega) 8 y hy
  have h2 := by8_sub (f := y) (g := fun j => y j / 2 &&& 85) (fun j => (pb_ok (y j) (hy j)).1) 8
  unfold bc1 sh64
  rw [wb_shr (by8_lt hy) (by decide), show (6148914691236517205 : Int64) = lN (by8 (fun _ => 85) 8) from by decide +kernel, fb_andL, h1, lN_sub h2.1, h2.2]
set_option maxHeartbeats 60000 in
theorem bc2_by {y : Nat → Nat} (hy : ∀ j, y j < 256) : bc2 (lN (by8 y 8)) = lN (by8 (fun j => (y j &&& 51) + (y j / 4 &&& 51)) 8) := by
  have h1 : by8 y 8 / 2 ^ 2 &&& by8 (fun _ => 51) 8 = by8 (fun j => y j / 4 &&& 51) 8 := by8_shl (s := 2) (t := 6) (by decide) (by decide) (fun X a ha => by omega) 8 y hy
  unfold bc2 sh64
  rw [wb_shr (by8_lt hy) (by decide), show (3689348814741910323 : Int64) = lN (by8 (fun _ => 51) 8) from by decide +kernel, fb_andL, fb_andL, h1, by8_land (by decide) 8 y hy, lN_add, by8_add]
set_option maxHeartbeats 60000 in
theorem bc3_by {y : Nat → Nat} (hy : ∀ j, y j < 256) (hz : ∀ j, y j ≤ 68 ∧ y j % 16 ≤ 4) : bc3 (lN (by8 y 8)) = lN (by8 (fun j => (y j + y j / 16) &&& 15) 8) := by
  have h1 : (by8 y 8 + by8 y 8 / 2 ^ 4) &&& by8 (fun _ => 15) 8 = by8 (fun j => (y j + y j / 16) &&& 15) 8 := by8_three 8 y hz
  unfold bc3 sh64
  rw [wb_shr (by8_lt hy) (by decide), show (1085102592571150095 : Int64) = lN (by8 (fun _ => 15) 8) from by decide +kernel, lN_add, fb_andL, h1]
set_option maxHeartbeats 60000 in
theorem bc456 {X : Nat} (h : X < 2 ^ 60) : (bc6 (bc5 (bc4 (lN X)))).toInt32 &&& nI 127 = nI (((X + X / 256 + (X + X / 256) / 65536) + (X + X / 256 + (X + X / 256) / 65536) / 4294967296) % 128) := by
  have h1 : X + X / 256 < 2 ^ 61 := by omega
  have h2 : X + X / 256 + (X + X / 256) / 65536 < 2 ^ 62 := by omega
  unfold bc6 bc5 bc4 sh64
  rw [wb_shr (by omega) (by decide), lN_add, wb_shr (k := 16) (show X + X / 2 ^ 8 < 2 ^ 64 from Nat.lt_trans h1 (by decide)) (by decide), lN_add, wb_shr (k := 32) (show X + X / 2 ^ 8 + (X + X / 2 ^ 8) / 2 ^ 16 < 2 ^ 64 from Nat.lt_trans h2 (by decide)) (by decide), lN_add, lN_i, fb_andI]
  exact congrArg nI (Nat.and_two_pow_sub_one_eq_mod _ 7)
set_option maxHeartbeats 200000 in
theorem bcI_bs (p : Nat → Bool) : bcI (bs p) = nI (cnt p 64) := by
  obtain ⟨y, hyd⟩ : ∃ y : Nat → Nat, y = fun j => bsN (fun i => p (8 * j + i)) 8 := ⟨_, rfl⟩
  have hy : ∀ j, y j < 256 := fun j => by rw [hyd]; exact bsN_lt _ 8
  have hk := fun j => pb_ok (y j) (hy j)
  have e0 : bs p = lN (by8 y 8) := by
    rw [hyd]
    exact congrArg lN (bsN_by8 8 p)
  have hv : ∀ j, pb (y j) ≤ 8 := fun j => (hk j).2.2.2.2
  have e3 : bc3 (bc2 (bc1 (bs p))) = lN (by8 (fun j => pb (y j)) 8) := by
    rw [e0, bc1_by hy, bc2_by (fun j => (hk j).2.1), bc3_by (fun j => Nat.lt_of_le_of_lt (hk j).2.2.1 (by decide)) (fun j => ⟨(hk j).2.2.1, (hk j).2.2.2.1⟩)]
    rfl
  have hc : cnt p 64 = sumN (fun j => pb (y j)) 8 := by
    rw [show (64 : Nat) = 8 * 8 from rfl, cnt_by8 8 p]
    exact sumN_cong (fun j _ => by rw [hyd]; exact (pb_cnt _).symm)
  unfold bcI
  rw [e3, bc456 (by8_lt60 hv), hc]
  refine congrArg nI ?_
  have h := by8_last (hv 0) (hv 1) (hv 2) (hv 3) (hv 4) (hv 5) (hv 6) (hv 7) (x0 := by8 (fun j => pb (y j)) 8) (x1 := by8 (fun j => pb (y (j + 1))) 7) (x2 := by8 (fun j => pb (y (j + 2))) 6) (x3 := by8 (fun j => pb (y (j + 3))) 5) (x4 := by8 (fun j => pb (y (j + 4))) 4) (x5 := by8 (fun j => pb (y (j + 5))) 3) (x6 := by8 (fun j => pb (y (j + 6))) 2) (x7 := by8 (fun j => pb (y (j + 7))) 1) rfl rfl rfl rfl rfl rfl rfl rfl
  rw [h]
  show _ = (((((((0 + pb (y 0)) + pb (y 1)) + pb (y 2)) + pb (y 3)) + pb (y 4)) + pb (y 5)) + pb (y 6)) + pb (y 7)
  clear h e3 e0 hc hv hk hy hyd
  omega
theorem cnt_out {p : Nat → Bool} {n m : Nat} (hn : n ≤ m) (h : ∀ i, n ≤ i → p i = false) : cnt p m = cnt p n := by
  obtain ⟨d, rfl⟩ : ∃ d, m = n + d := ⟨m - n, by omega⟩
  clear hn
  induction d with
  | zero => rfl
  | succ d ih =>
    show cnt p ((n + d) + 1) = _
    rw [cnt, ih, h (n + d) (by omega), if_neg Bool.false_ne_true]
    rfl
theorem bcI_n {p : Nat → Bool} {n : Nat} (hn : n ≤ 40) (h : ∀ i, n ≤ i → p i = false) : bcI (bs p) = nI (cnt p n) := by rw [bcI_bs, cnt_out (by omega) h]
