/-! COUNTS -/
section COUNTX
variable {n : Nat} {p q : Nat → Bool} {P Q : Nat → Nat → Bool}
theorem sumN_0 : ∀ m, sumN (fun _ => 0) m = 0
  | 0 => rfl
  | m + 1 => by rw [sumN, sumN_0 m]
theorem sumN_1 : ∀ m, sumN (fun _ => 1) m = m
  | 0 => rfl
  | m + 1 => by rw [sumN, sumN_1 m]
theorem sumN_add (f g : Nat → Nat) : ∀ m, sumN (fun i => f i + g i) m = sumN f m + sumN g m
  | 0 => rfl
  | m + 1 => by
    have h := sumN_add f g m
    rw [sumN, sumN, sumN, h]
    omega
theorem cnt_sum (p : Nat → Bool) : ∀ m, cnt p m = sumN (fun i => if p i = true then 1 else 0) m
  | 0 => rfl
  | m + 1 => by rw [cnt, sumN, cnt_sum p m]
theorem sumN_swap (P : Nat → Nat → Bool) (n : Nat) : ∀ m, sumN (fun i => cnt (P i) n) m = sumN (fun v => cnt (fun i => P i v) m) n
  | 0 => (sumN_0 n).symm
  | m + 1 => by
    have h := sumN_swap P n m
    rw [sumN, h, cnt_sum (P m) n, ← sumN_add]
    exact sumN_cong (fun v _ => rfl)
theorem cnt_zero : ∀ m, (∀ i, i < m → p i = false) → cnt p m = 0
  | 0, _ => rfl
  | m + 1, h => by rw [cnt_n (h m (by omega)), cnt_zero m (fun i hi => h i (by omega))]
theorem cnt_one {x : Nat} : ∀ m, x < m → p x = true → (∀ i, i < m → p i = true → i = x) → cnt p m = 1
  | 0, hx, _, _ => absurd hx (Nat.not_lt_zero x)
  | m + 1, hx, h1, h2 => by
    by_cases c : x = m
    · subst c
      rw [cnt_y h1, cnt_zero x (fun i hi => by
        cases e : p i with
        | false => rfl
        | true => exact absurd (h2 i (by omega) e) (by omega))]
    · rw [cnt_n (by
        cases e : p m with
        | false => rfl
        | true => exact absurd (h2 m (by omega) e).symm c)]
      exact cnt_one m (by omega) h1 (fun i hi => h2 i (by omega))
/-- the sizes of the bodies add up -/
def szF (b : Nat → Nat) (n u : Nat) : Nat := if b u = u then cnt (fun v => decide (b v = u)) n else 0
theorem sz_all {b : Nat → Nat} (hb : ∀ u, u < n → b u < n ∧ b (b u) = b u) : sumN (szF b n) n = n := by
  have e1 : sumN (szF b n) n = sumN (fun u => cnt (fun v => decide (b u = u) && decide (b v = u)) n) n := sumN_cong (fun u hu => by
    unfold szF
    by_cases c : b u = u
    · rw [if_pos c]
      exact cnt_cong (fun v _ => by rw [decide_eq_true c, Bool.true_and])
    · rw [if_neg c]
      exact (cnt_zero n (fun v _ => by rw [decide_eq_false c, Bool.false_and])).symm)
  rw [e1, sumN_swap]
  have e2 : sumN (fun v => cnt (fun u => decide (b u = u) && decide (b v = u)) n) n = sumN (fun _ => 1) n := sumN_cong (fun v hv => by
    refine cnt_one (x := b v) n (hb v hv).1 (by rw [decide_eq_true (hb v hv).2, decide_eq_true rfl]; rfl) (fun i hi h => ?_)
    rw [Bool.and_eq_true, decide_eq_true_eq, decide_eq_true_eq] at h
    exact h.2.symm)
  rw [e2, sumN_1]
theorem sz_le {b : Nat → Nat} : ∀ m, sumN (szF b n) m ≤ m * n
  | 0 => by simp [sumN]
  | m + 1 => by
    have h := sz_le (b := b) m
    rw [sumN, Nat.succ_mul]
    have h2 : szF b n m ≤ n := by
      unfold szF
      split
      · exact cnt_le _ n
      · omega
    omega
theorem ppS_zero {m : Nat} : ∀ k, k ≤ m → (∀ i j, i < m → j < m → P i j = false) → ppS P m k = 0
  | 0, _, _ => rfl
  | k + 1, hk, h => by rw [ppS, ppS_zero k (by omega) h, cnt_zero m (fun j hj => h k j (by omega) hj)]
theorem bcS_pp {li : Nat → Nat → Bool} (hn : n ≤ 40) (h : ∀ u i, u < n → n ≤ i → li u i = false) : ∀ k, k ≤ n → bcS li k = nI (ppS li n k)
  | 0, _ => rfl
  | k + 1, hk => by rw [bcS, ppS, bcS_pp hn h k (by omega), bcI_n hn (fun i hi => h k i (by omega) hi), nI_add]
theorem lvS_sup {bd : Nat → Bool} {fB : Nat → Int32} {g : Nat → Nat} (hn : n ≤ 40) (h : ∀ u, u < n → bd u = true → fB u = nI (g u) ∧ g u < n) : ∀ k, k ≤ n → lvS bd fB k = nI (supN bd (fun u => g u + 1) k)
  | 0, _ => rfl
  | k + 1, hk => by
    have i := lvS_sup hn h k (by omega)
    cases c : bd k with
    | false =>
      rw [← lvS_n c, supN, if_neg (by rw [c]; exact Bool.false_ne_true)]
      exact i
    | true =>
      obtain ⟨e, e2⟩ := h k (by omega) c
      have l1 : supN bd (fun u => g u + 1) k ≤ 40 := (supN_le k).mpr (fun j hj q => by have := (h j (by omega) q).2; omega)
      rw [← lvS_y c, supN, if_pos c, i, e, nI_add]
      exact nI_max (by omega) (by omega)
/-- of units that are not all dug there is one that can be dug -/
theorem dig_ex {bo : Nat → Nat} {eE lE : Nat → Nat → Bool} {dug : Nat → Bool} (hn : n ≤ 40) (hB : ∀ u, u < n → bo u < n) (hT : TI n lE) (hlE : ∀ u i, u < n → (lE u i = true ↔ i < n ∧ eE i u = true)) : ∀ k u, u < n → dug u = false → lev n lE (bo u) ≤ k → ∃ v, v < n ∧ cdB n bo eE dug v = true := by
  intro k
  induction k with
  | zero =>
    intro u hu hd hk
    refine ⟨u, hu, ?_⟩
    unfold cdB
    rw [hd]
    cases e : anyB (fun v => eE (bo v) (bo u) && !(dug v)) n with
    | false => rfl
    | true =>
      obtain ⟨v, h1, h2⟩ := anyB_iff.mp e
      rw [Bool.and_eq_true] at h2
      have := lev_up hT hn (hB u hu) (hB v h1) ((hlE _ _ (hB u hu)).mpr ⟨hB v h1, h2.1⟩)
      omega
  | succ k ih =>
    intro u hu hd hk
    cases e : anyB (fun v => eE (bo v) (bo u) && !(dug v)) n with
    | false =>
      refine ⟨u, hu, ?_⟩
      unfold cdB
      rw [hd, e]
      rfl
    | true =>
      obtain ⟨v, h1, h2⟩ := anyB_iff.mp e
      rw [Bool.and_eq_true] at h2
      have := lev_up hT hn (hB u hu) (hB v h1) ((hlE _ _ (hB u hu)).mpr ⟨hB v h1, h2.1⟩)
      refine ih v h1 ?_ (by omega)
      cases c : dug v with
      | false => rfl
      | true => exact absurd h2.2 (by rw [c]; exact Bool.false_ne_true)
theorem cnt_dig {dug : Nat → Bool} {u : Nat} (hd : dug u = false) : ∀ m, u < m → cnt (fun i => dug i || decide (i = u)) m = cnt dug m + 1
  | 0, h => absurd h (Nat.not_lt_zero u)
  | m + 1, h => by
    by_cases c : u = m
    · subst c
      rw [cnt_y (by show (dug u || decide (u = u)) = true; rw [decide_eq_true rfl, Bool.or_true]), cnt_n hd]
      refine congrArg (· + 1) (cnt_cong (fun i hi => ?_))
      rw [decide_eq_false (by omega), Bool.or_false]
    · have i := cnt_dig hd m (by omega)
      have e : (dug m || decide (m = u)) = dug m := by rw [decide_eq_false (fun q => c q.symm), Bool.or_false]
      rw [cnt, cnt, i, e]
      omega
theorem cnt_full : ∀ m, cnt p m = m → ∀ i, i < m → p i = true
  | 0, _, i, hi => absurd hi (Nat.not_lt_zero i)
  | m + 1, h, i, hi => by
    have l := cnt_le p m
    cases c : p m with
    | false => rw [cnt_n c] at h; omega
    | true =>
      rw [cnt_y c] at h
      by_cases e : i = m
      · rw [e]; exact c
      · exact cnt_full m (by omega) i (by omega)
theorem cnt_allT : ∀ m, (∀ i, i < m → p i = true) → cnt p m = m
  | 0, _ => rfl
  | m + 1, h => by rw [cnt_y (h m (by omega)), cnt_allT m (fun i hi => h i (by omega))]
end COUNTX
