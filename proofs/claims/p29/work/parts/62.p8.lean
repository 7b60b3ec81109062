/-! PURE, 8: the bounds -/
section PUREEIGHT
variable {n f : Nat} {dtd : Nat → Bool} {uf ul ff o0 oL oU : Nat → Int32} {fu bo bo' : Nat → Nat} {E E' : Nat → Nat → Bool} {B : Int32}
theorem imax_le {a b B : Int32} : imax a b ≤ B ↔ a ≤ B ∧ b ≤ B := by
  unfold imax
  by_cases c : a < b
  · rw [if_pos c]
    exact ⟨fun h => ⟨Int32.le_trans (Int32.le_of_lt c) h, h⟩, fun h => h.2⟩
  · rw [if_neg c]
    exact ⟨fun h => ⟨h, Int32.le_trans (Int32.not_lt.mp c) h⟩, fun h => h.1⟩
theorem imin_ge {a b B : Int32} : B ≤ imin a b ↔ B ≤ a ∧ B ≤ b := by
  unfold imin
  by_cases c : b < a
  · rw [if_pos c]
    exact ⟨fun h => ⟨Int32.le_trans h (Int32.le_of_lt c), h⟩, fun h => h.2⟩
  · rw [if_neg c]
    exact ⟨fun h => ⟨h, Int32.le_trans h (Int32.not_lt.mp c)⟩, fun h => h.1⟩
theorem le_eq {x y : Int32} (h : ∀ B : Int32, x ≤ B ↔ y ≤ B) : x = y := Int32.le_antisymm ((h y).mpr (Int32.le_refl y)) ((h x).mp (Int32.le_refl x))
theorem ge_eq {x y : Int32} (h : ∀ B : Int32, B ≤ x ↔ B ≤ y) : x = y := Int32.le_antisymm ((h x).mp (Int32.le_refl x)) ((h y).mpr (Int32.le_refl y))
theorem all_s {P : Nat → Prop} {k : Nat} : (∀ i, i < k + 1 → P i) ↔ (∀ i, i < k → P i) ∧ P k := by
  constructor
  · intro h
    exact ⟨fun i hi => h i (by omega), h k (by omega)⟩
  · intro h i hi
    rcases Nat.lt_succ_iff_lt_or_eq.mp hi with c | c
    · exact h.1 i c
    · subst c; exact h.2
theorem odL_le : ∀ k v, odL dtd bo uf o0 k v ≤ B ↔ o0 v ≤ B ∧ ∀ u, u < k → dtd u = true → bo u = v → uf u ≤ B
  | 0, v => ⟨fun h => ⟨h, fun u hu => absurd hu (Nat.not_lt_zero u)⟩, fun h => h.1⟩
  | k + 1, v => by
    have ih := odL_le k
    rw [odL, all_s]
    by_cases c : dtd k = true
    · rw [if_pos c]
      by_cases e : v = bo k
      · rw [e, up_s, imax_le, ih (bo k)]
        exact ⟨fun h => ⟨h.1.1, h.1.2, fun _ _ => h.2⟩, fun h => ⟨⟨h.1, h.2.1⟩, h.2.2 c rfl⟩⟩
      · rw [up_n _ _ e, ih v]
        exact ⟨fun h => ⟨h.1, h.2, fun _ q => absurd q.symm e⟩, fun h => ⟨h.1, h.2.1⟩⟩
    · rw [if_neg c, ih v]
      exact ⟨fun h => ⟨h.1, h.2, fun q => absurd q c⟩, fun h => ⟨h.1, h.2.1⟩⟩
theorem odU_ge : ∀ k v, B ≤ odU dtd bo ul o0 k v ↔ B ≤ o0 v ∧ ∀ u, u < k → dtd u = true → bo u = v → B ≤ ul u
  | 0, v => ⟨fun h => ⟨h, fun u hu => absurd hu (Nat.not_lt_zero u)⟩, fun h => h.1⟩
  | k + 1, v => by
    have ih := odU_ge k
    rw [odU, all_s]
    by_cases c : dtd k = true
    · rw [if_pos c]
      by_cases e : v = bo k
      · rw [e, up_s, imin_ge, ih (bo k)]
        exact ⟨fun h => ⟨h.1.1, h.1.2, fun _ _ => h.2⟩, fun h => ⟨⟨h.1, h.2.1⟩, h.2.2 c rfl⟩⟩
      · rw [up_n _ _ e, ih v]
        exact ⟨fun h => ⟨h.1, h.2, fun _ q => absurd q.symm e⟩, fun h => ⟨h.1, h.2.1⟩⟩
    · rw [if_neg c, ih v]
      exact ⟨fun h => ⟨h.1, h.2, fun q => absurd q c⟩, fun h => ⟨h.1, h.2.1⟩⟩
theorem ofL_le : ∀ k v, ofL bo fu ff o0 k v ≤ B ↔ o0 v ≤ B ∧ ∀ j, j < k → bo (fu j) = v → ff j ≤ B
  | 0, v => ⟨fun h => ⟨h, fun u hu => absurd hu (Nat.not_lt_zero u)⟩, fun h => h.1⟩
  | k + 1, v => by
    have ih := ofL_le k
    rw [ofL, all_s]
    by_cases e : v = bo (fu k)
    · rw [e, up_s, imax_le, ih (bo (fu k))]
      exact ⟨fun h => ⟨h.1.1, h.1.2, fun _ => h.2⟩, fun h => ⟨⟨h.1, h.2.1⟩, h.2.2 rfl⟩⟩
    · rw [up_n _ _ e, ih v]
      exact ⟨fun h => ⟨h.1, h.2, fun q => absurd q.symm e⟩, fun h => ⟨h.1, h.2.1⟩⟩
theorem spL_le {v : Nat} : ∀ k, spL oL E v k ≤ B ↔ oL v ≤ B ∧ ∀ j, j < k → E v j = true → oL j ≤ B
  | 0 => ⟨fun h => ⟨h, fun u hu => absurd hu (Nat.not_lt_zero u)⟩, fun h => h.1⟩
  | k + 1 => by
    have ih := spL_le (v := v) k
    rw [spL, all_s]
    by_cases c : E v k = true
    · rw [if_pos c, imax_le, ih]
      exact ⟨fun h => ⟨h.1.1, h.1.2, fun _ => h.2⟩, fun h => ⟨⟨h.1, h.2.1⟩, h.2.2 c⟩⟩
    · rw [if_neg c, ih]
      exact ⟨fun h => ⟨h.1, h.2, fun q => absurd q c⟩, fun h => ⟨h.1, h.2.1⟩⟩
theorem spU_ge {v : Nat} : ∀ k, B ≤ spU oU E v k ↔ B ≤ oU v ∧ ∀ j, j < k → E v j = true → B ≤ oU j
  | 0 => ⟨fun h => ⟨h, fun u hu => absurd hu (Nat.not_lt_zero u)⟩, fun h => h.1⟩
  | k + 1 => by
    have ih := spU_ge (v := v) k
    rw [spU, all_s]
    by_cases c : E v k = true
    · rw [if_pos c, imin_ge, ih]
      exact ⟨fun h => ⟨h.1.1, h.1.2, fun _ => h.2⟩, fun h => ⟨⟨h.1, h.2.1⟩, h.2.2 c⟩⟩
    · rw [if_neg c, ih]
      exact ⟨fun h => ⟨h.1, h.2, fun q => absurd q c⟩, fun h => ⟨h.1, h.2.1⟩⟩
/-- what the lower bound of a body is the least above; what the upper one is the greatest below -/
def LOP (n f : Nat) (dtd : Nat → Bool) (uf : Nat → Int32) (fu : Nat → Nat) (ff : Nat → Int32) (bo : Nat → Nat) (E : Nat → Nat → Bool) (v : Nat) (B : Int32) : Prop := (-5000 : Int32) ≤ B ∧ (∀ u, u < n → dtd u = true → (bo u = v ∨ E v (bo u) = true) → uf u ≤ B) ∧ ∀ j, j < f → (bo (fu j) = v ∨ E v (bo (fu j)) = true) → ff j ≤ B
def UPP (n : Nat) (dtd : Nat → Bool) (ul : Nat → Int32) (bo : Nat → Nat) (E : Nat → Nat → Bool) (v : Nat) (B : Int32) : Prop := B ≤ nI 2000 ∧ ∀ u, u < n → dtd u = true → (bo u = v ∨ E v (bo u) = true) → B ≤ ul u
theorem LOP_cong {v : Nat} (hb : ∀ u, u < n → bo u = bo' u) (hf : ∀ j, j < f → fu j < n) (hE : E v = E' v) : LOP n f dtd uf fu ff bo E v B ↔ LOP n f dtd uf fu ff bo' E' v B := by
  unfold LOP
  rw [hE]
  constructor
  · rintro ⟨h1, h2, h3⟩
    exact ⟨h1, fun u hu => by rw [← hb u hu]; exact h2 u hu, fun j hj => by rw [← hb _ (hf j hj)]; exact h3 j hj⟩
  · rintro ⟨h1, h2, h3⟩
    exact ⟨h1, fun u hu => by rw [hb u hu]; exact h2 u hu, fun j hj => by rw [hb _ (hf j hj)]; exact h3 j hj⟩
theorem UPP_cong {v : Nat} (hb : ∀ u, u < n → bo u = bo' u) (hE : E v = E' v) : UPP n dtd ul bo E v B ↔ UPP n dtd ul bo' E' v B := by
  unfold UPP
  rw [hE]
  constructor
  · rintro ⟨h1, h2⟩
    exact ⟨h1, fun u hu => by rw [← hb u hu]; exact h2 u hu⟩
  · rintro ⟨h1, h2⟩
    exact ⟨h1, fun u hu => by rw [hb u hu]; exact h2 u hu⟩
theorem nOL_le {v : Nat} (hv : v < n) : nOL dtd uf bo fu ff oL n f v ≤ B ↔ (-5000 : Int32) ≤ B ∧ (∀ u, u < n → dtd u = true → bo u = v → uf u ≤ B) ∧ ∀ j, j < f → bo (fu j) = v → ff j ≤ B := by
  unfold nOL
  rw [ofL_le, odL_le, pre_in hv, and_assoc]
theorem nOU_ge {v : Nat} (hv : v < n) : B ≤ nOU dtd ul bo oU n v ↔ B ≤ nI 2000 ∧ ∀ u, u < n → dtd u = true → bo u = v → B ≤ ul u := by
  unfold nOU
  rw [odU_ge, pre_in hv]
theorem nLo_le {v : Nat} {lo : Nat → Int32} (hv : v < n) (hb : ∀ u, u < n → bo u < n) (hf : ∀ j, j < f → fu j < n) : nLo (nOL dtd uf bo fu ff oL n f) E lo n v ≤ B ↔ LOP n f dtd uf fu ff bo E v B := by
  unfold nLo
  rw [pre_in hv, spL_le, nOL_le hv]
  constructor
  · rintro ⟨⟨h1, h2, h3⟩, h4⟩
    refine ⟨h1, fun u hu hd q => ?_, fun j hj q => ?_⟩
    · rcases q with q | q
      · exact h2 u hu hd q
      · exact ((nOL_le (hb u hu)).mp (h4 _ (hb u hu) q)).2.1 u hu hd rfl
    · rcases q with q | q
      · exact h3 j hj q
      · exact ((nOL_le (hb _ (hf j hj))).mp (h4 _ (hb _ (hf j hj)) q)).2.2 j hj rfl
  · rintro ⟨h1, h2, h3⟩
    refine ⟨⟨h1, fun u hu hd q => h2 u hu hd (Or.inl q), fun j hj q => h3 j hj (Or.inl q)⟩, fun j hj q => (nOL_le hj).mpr ⟨h1, fun u hu hd e => h2 u hu hd (Or.inr (by rw [e]; exact q)), fun i hi e => h3 i hi (Or.inr (by rw [e]; exact q))⟩⟩
theorem nUp_ge {v : Nat} {up : Nat → Int32} (hv : v < n) (hb : ∀ u, u < n → bo u < n) : B ≤ nUp (nOU dtd ul bo oU n) E up n v ↔ UPP n dtd ul bo E v B := by
  unfold nUp
  rw [pre_in hv, spU_ge, nOU_ge hv]
  constructor
  · rintro ⟨⟨h1, h2⟩, h4⟩
    refine ⟨h1, fun u hu hd q => ?_⟩
    rcases q with q | q
    · exact h2 u hu hd q
    · exact ((nOU_ge (hb u hu)).mp (h4 _ (hb u hu) q)).2 u hu hd rfl
  · rintro ⟨h1, h2⟩
    exact ⟨⟨h1, fun u hu hd q => h2 u hu hd (Or.inl q)⟩, fun j hj q => (nOU_ge hj).mpr ⟨h1, fun u hu hd e => h2 u hu hd (Or.inr (by rw [e]; exact q))⟩⟩
theorem yL1_le {S : Nat → Bool} : ∀ k, yL1 S bo dtd uf k ≤ B ↔ (-5000 : Int32) ≤ B ∧ ∀ u, u < k → (S (bo u) && dtd u) = true → uf u ≤ B
  | 0 => ⟨fun h => ⟨h, fun u hu => absurd hu (Nat.not_lt_zero u)⟩, fun h => h.1⟩
  | k + 1 => by
    have ih := yL1_le (S := S) k
    rw [yL1, all_s]
    by_cases c : (S (bo k) && dtd k) = true
    · rw [if_pos c, imax_le, ih]
      exact ⟨fun h => ⟨h.1.1, h.1.2, fun _ => h.2⟩, fun h => ⟨⟨h.1, h.2.1⟩, h.2.2 c⟩⟩
    · rw [if_neg c, ih]
      exact ⟨fun h => ⟨h.1, h.2, fun q => absurd q c⟩, fun h => ⟨h.1, h.2.1⟩⟩
theorem yU1_ge {S : Nat → Bool} : ∀ k, B ≤ yU1 S bo dtd ul k ↔ B ≤ nI 2000 ∧ ∀ u, u < k → (S (bo u) && dtd u) = true → B ≤ ul u
  | 0 => ⟨fun h => ⟨h, fun u hu => absurd hu (Nat.not_lt_zero u)⟩, fun h => h.1⟩
  | k + 1 => by
    have ih := yU1_ge (S := S) k
    rw [yU1, all_s]
    by_cases c : (S (bo k) && dtd k) = true
    · rw [if_pos c, imin_ge, ih]
      exact ⟨fun h => ⟨h.1.1, h.1.2, fun _ => h.2⟩, fun h => ⟨⟨h.1, h.2.1⟩, h.2.2 c⟩⟩
    · rw [if_neg c, ih]
      exact ⟨fun h => ⟨h.1, h.2, fun q => absurd q c⟩, fun h => ⟨h.1, h.2.1⟩⟩
theorem yL2_le {S : Nat → Bool} {fp : Nat → Int32} {b0 : Int32} : ∀ k, yL2 S bo fu fp b0 k ≤ B ↔ b0 ≤ B ∧ ∀ j, j < k → S (bo (fu j)) = true → fp (7 * j + 2) ≤ B
  | 0 => ⟨fun h => ⟨h, fun u hu => absurd hu (Nat.not_lt_zero u)⟩, fun h => h.1⟩
  | k + 1 => by
    have ih := yL2_le (S := S) (fp := fp) (b0 := b0) k
    rw [yL2, all_s]
    by_cases c : S (bo (fu k)) = true
    · rw [if_pos c, imax_le, ih]
      exact ⟨fun h => ⟨h.1.1, h.1.2, fun _ => h.2⟩, fun h => ⟨⟨h.1, h.2.1⟩, h.2.2 c⟩⟩
    · rw [if_neg c, ih]
      exact ⟨fun h => ⟨h.1, h.2, fun q => absurd q c⟩, fun h => ⟨h.1, h.2.1⟩⟩
theorem yS_iff {v i : Nat} : (E v i || decide (i = v)) = true ↔ (i = v ∨ E v i = true) := by
  rw [Bool.or_eq_true, decide_eq_true_eq]
  exact or_comm
theorem yLo_le {fp : Nat → Int32} {u : Nat} : yLo bo E dtd uf n fu fp f u ≤ B ↔ LOP n f dtd uf fu (fun j => fp (7 * j + 2)) bo E (bo u) B := by
  unfold yLo LOP
  rw [yL2_le, yL1_le, and_assoc]
  refine and_congr Iff.rfl (and_congr (forall_congr' fun w => forall_congr' fun _ => ?_) (forall_congr' fun j => forall_congr' fun _ => ?_))
  · rw [Bool.and_eq_true, yS_iff]
    exact ⟨fun h a b => h ⟨b, a⟩, fun h a => h a.2 a.1⟩
  · rw [yS_iff]
theorem yUp_ge {u : Nat} : B ≤ yUp bo E dtd ul n u ↔ UPP n dtd ul bo E (bo u) B := by
  unfold yUp UPP
  rw [yU1_ge]
  refine and_congr Iff.rfl (forall_congr' fun w => forall_congr' fun _ => ?_)
  rw [Bool.and_eq_true, yS_iff]
  exact ⟨fun h a b => h ⟨b, a⟩, fun h a => h a.2 a.1⟩
end PUREEIGHT
