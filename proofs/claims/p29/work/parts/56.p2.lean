/-! PURE, 2: what is earlier -/
section PURETWO
variable {n m r : Nat} {ki ks : Nat → Int32} {lt er os ts b c : Nat → Nat} {E F : Nat → Nat → Bool} {D : Nat → Nat → Prop}
def DP (r : Nat) (ki : Nat → Int32) (lt er bo : Nat → Nat) (u i : Nat) : Prop := ∃ k, k < r ∧ ¬ ki k = nI 4 ∧ u = bo (lt k) ∧ i = bo (er k)
def CL (n : Nat) (D : Nat → Nat → Prop) (E : Nat → Nat → Bool) : Prop := (∀ u i, D u i → E u i = true) ∧ (∀ u v i, u < n → v < n → E u v = true → E v i = true → E u i = true) ∧ (∀ R : Nat → Nat → Prop, (∀ u i, D u i → R u i) → (∀ u v w, R u v → R v w → R u w) → ∀ u i, u < n → E u i = true → R u i)
def IRR (n : Nat) (E : Nat → Nat → Bool) : Prop := ∀ u, u < n → E u u = false
theorem bt_f {x : Bool} (h : x = true) (h2 : x = false) : False := by rw [h] at h2; cases h2
theorem DP_lt (hb : BO n r ki lt er b) (hv : RV n r lt er) {u i : Nat} (h : DP r ki lt er b u i) : (u < n ∧ b u = u) ∧ i < n ∧ b i = i := by
  obtain ⟨k, hk, -, rfl, rfl⟩ := h
  obtain ⟨h1, h2⟩ := hv k hk
  exact ⟨⟨BO_lt hb h1, BO_id hb h1⟩, BO_lt hb h2, BO_id hb h2⟩
theorem DP_cong (hk : RE r ki lt er ks os ts) {u i : Nat} (h : DP r ki lt er b u i) : DP r ks os ts b u i := by
  obtain ⟨k, h1, h2, h3, h4⟩ := h
  obtain ⟨e1, e2, e3⟩ := hk k h1
  exact ⟨k, h1, by rw [← e1]; exact h2, by rw [← e2]; exact h3, by rw [← e3]; exact h4⟩
theorem DP_bo (hv : RV n r lt er) (hbc : ∀ u, u < n → b u = c u) {u i : Nat} (h : DP r ki lt er b u i) : DP r ki lt er c u i := by
  obtain ⟨k, h1, h2, h3, h4⟩ := h
  exact ⟨k, h1, h2, by rw [← hbc _ (hv k h1).1]; exact h3, by rw [← hbc _ (hv k h1).2]; exact h4⟩
theorem DP_up {kd : Int32} {x y u i : Nat} : DP (r + 1) (va_up ki r kd) (va_up lt r x) (va_up er r y) b u i ↔ DP r ki lt er b u i ∨ (¬ kd = nI 4 ∧ u = b x ∧ i = b y) := by
  constructor
  · rintro ⟨k, hk, h1, h2, h3⟩
    by_cases e : k = r
    · subst e
      rw [up_s] at h1 h2 h3
      exact Or.inr ⟨h1, h2, h3⟩
    · rw [up_n _ _ e] at h1 h2 h3
      exact Or.inl ⟨k, by omega, h1, h2, h3⟩
  · rintro (⟨k, hk, h1, h2, h3⟩ | ⟨h1, h2, h3⟩)
    · have e : ¬ k = r := by omega
      exact ⟨k, by omega, by rw [up_n _ _ e]; exact h1, by rw [up_n _ _ e]; exact h2, by rw [up_n _ _ e]; exact h3⟩
    · exact ⟨r, by omega, by rw [up_s]; exact h1, by rw [up_s]; exact h2, by rw [up_s]; exact h3⟩
theorem CL_D {D2 : Nat → Nat → Prop} (h : ∀ u i, D u i ↔ D2 u i) (hC : CL n D E) : CL n D2 E := ⟨fun u i q => hC.1 u i ((h u i).mpr q), hC.2.1, fun R hR => hC.2.2 R (fun u i q => hR u i ((h u i).mp q))⟩
theorem CL_low (hC : CL n D E) (hD : ∀ u i, D u i → u < n ∧ i < n) (hF : CL n D F) {u i : Nat} (hu : u < n) (h : E u i = true) : F u i = true :=
  (hC.2.2 (fun u i => u < n ∧ i < n ∧ F u i = true) (fun u i q => ⟨(hD u i q).1, (hD u i q).2, hF.1 u i q⟩) (fun u v w h1 h2 => ⟨h1.1, h2.2.1, hF.2.1 u v w h1.1 h2.1 h1.2.2 h2.2.2⟩) u i hu h).2.2
theorem CL_one (hC : CL n D E) (hF : CL n D F) (hD : ∀ u i, D u i → u < n ∧ i < n) {u : Nat} (hu : u < n) : E u = F u := by
  funext i
  cases e : E u i with
  | true => exact (CL_low hC hD hF hu e).symm
  | false =>
    cases e2 : F u i with
    | false => rfl
    | true => exact absurd (CL_low hF hD hC hu e2) (by rw [e]; exact Bool.noConfusion)
theorem CL_bo (hb : BO n r ki lt er b) (hv : RV n r lt er) (hC : CL n (DP r ki lt er b) E) {u i : Nat} (hu : u < n) (h : E u i = true) : b u = u ∧ i < n ∧ b i = i :=
  hC.2.2 (fun u i => b u = u ∧ i < n ∧ b i = i) (fun _ _ q => ⟨(DP_lt hb hv q).1.2, (DP_lt hb hv q).2⟩) (fun _ _ _ h1 h2 => ⟨h1.1, h2.2⟩) u i hu h
theorem dA_iff {d0 : Nat → Nat → Bool} (h0 : ∀ u, u < n → ∀ i, d0 u i = false) : ∀ k u i, u < n → (dA ki lt er b d0 k u i = true ↔ DP k ki lt er b u i)
  | 0, u, i, hu => by
    show d0 u i = true ↔ _
    rw [h0 u hu i]
    exact ⟨fun h => (by cases h), fun ⟨k, hk, _⟩ => absurd hk (Nat.not_lt_zero k)⟩
  | k + 1, u, i, hu => by
    have ih := dA_iff h0 k u i hu
    rw [dA]
    by_cases q : ki k = nI 4
    · rw [if_pos q, ih]
      constructor
      · rintro ⟨j, hj, h⟩
        exact ⟨j, by omega, h⟩
      · rintro ⟨j, hj, h⟩
        by_cases e : j = k
        · subst e; exact absurd q h.1
        · exact ⟨j, by omega, h⟩
    · rw [if_neg q]
      by_cases e : u = b (lt k)
      · rw [e, up_s, Bool.or_eq_true, ← e, ih, decide_eq_true_eq]
        constructor
        · rintro (⟨j, hj, h⟩ | h)
          · exact ⟨j, by omega, h⟩
          · exact ⟨k, by omega, q, e, h⟩
        · rintro ⟨j, hj, h⟩
          by_cases e2 : j = k
          · subst e2; exact Or.inr h.2.2
          · exact Or.inl ⟨j, by omega, h⟩
      · rw [up_n _ _ e, ih]
        constructor
        · rintro ⟨j, hj, h⟩
          exact ⟨j, by omega, h⟩
        · rintro ⟨j, hj, h⟩
          by_cases e2 : j = k
          · subst e2; exact absurd h.2.1 e
          · exact ⟨j, by omega, h⟩
theorem wI_eq (q : Nat) (E : Nat → Nat → Bool) : ∀ k u i, wI q E k u i = (E u i || (decide (u < k) && (E u q && E q i)))
  | 0, u, i => by simp [wI]
  | k + 1, u, i => by
    have hq : ∀ i, wI q E k q i = E q i := fun i => by
      rw [wI_eq q E k q i]
      cases E q i <;> simp
    have hk : ∀ i, wI q E k k i = E k i := fun i => by
      rw [wI_eq q E k k i]
      simp
    rw [wI]
    by_cases c : wI q E k k q = true
    · rw [if_pos c]
      rw [hk] at c
      by_cases e : u = k
      · rw [e, up_s, hk, hq, c]
        simp
      · rw [up_n _ _ e, wI_eq q E k u i]
        have : (u < k + 1) ↔ u < k := by omega
        simp [this]
    · rw [if_neg c, wI_eq q E k u i]
      rw [hk] at c
      by_cases e : u = k
      · rw [e, (Bool.not_eq_true _).mp c]
        simp
      · have : (u < k + 1) ↔ u < k := by omega
        simp [this]
theorem wO_s {m q u i : Nat} {E : Nat → Nat → Bool} (hu : u < m) : wO m E (q + 1) u i = true ↔ wO m E q u i = true ∨ (wO m E q u q = true ∧ wO m E q q i = true) := by
  rw [wO, wI_eq, decide_eq_true hu, Bool.true_and, Bool.or_eq_true, Bool.and_eq_true]
theorem wO_sup {u i : Nat} (hu : u < m) (h : E u i = true) : ∀ q, wO m E q u i = true
  | 0 => h
  | q + 1 => (wO_s hu).mpr (Or.inl (wO_sup hu h q))
theorem wO_low {R : Nat → Nat → Prop} (hE : ∀ u i, u < m → E u i = true → R u i) (hR : ∀ u v w, R u v → R v w → R u w) : ∀ q, q ≤ m → ∀ u i, u < m → wO m E q u i = true → R u i
  | 0, _, u, i, hu, h => hE u i hu h
  | q + 1, hq, u, i, hu, h => by
    rcases (wO_s hu).mp h with h | ⟨h1, h2⟩
    · exact wO_low hE hR q (by omega) u i hu h
    · exact hR u q i (wO_low hE hR q (by omega) u q hu h1) (wO_low hE hR q (by omega) q i (by omega) h2)
theorem wO_tr : ∀ q, q ≤ m → ∀ u p i, u < m → p < q → wO m E q u p = true → wO m E q p i = true → wO m E q u i = true
  | 0, _, _, p, _, _, hp, _, _ => absurd hp (Nat.not_lt_zero p)
  | q + 1, hq, u, p, i, hu, hp, h1, h2 => by
    have ih := wO_tr q (by omega)
    rw [wO_s hu] at h1
    rw [wO_s (by omega)] at h2
    rw [wO_s hu]
    rcases Nat.lt_succ_iff_lt_or_eq.mp hp with q1 | q1
    · rcases h1 with a | ⟨a1, a2⟩
      · rcases h2 with c | ⟨c1, c2⟩
        · exact Or.inl (ih u p i hu q1 a c)
        · exact Or.inr ⟨ih u p q hu q1 a c1, c2⟩
      · rcases h2 with c | ⟨c1, c2⟩
        · exact Or.inr ⟨a1, ih q p i (by omega) q1 a2 c⟩
        · exact Or.inr ⟨a1, c2⟩
    · subst q1
      refine Or.inr ⟨?_, ?_⟩
      · rcases h1 with a | ⟨a1, a2⟩
        · exact a
        · exact a1
      · rcases h2 with c | ⟨c1, c2⟩
        · exact c
        · exact c2
theorem CL_wO (hD : ∀ u i, D u i → u < n) (hE : ∀ u i, u < n → (E u i = true ↔ D u i)) : CL n D (wO n E n) :=
  ⟨fun u i h => wO_sup (hD u i h) ((hE u i (hD u i h)).mpr h) n, fun u v i hu hv h1 h2 => wO_tr n (Nat.le_refl n) u v i hu hv h1 h2, fun R hR hT u i hu h => wO_low (fun u i hu q => hR u i ((hE u i hu).mp q)) hT n (Nat.le_refl n) u i hu h⟩
theorem CL_nE {bo : Nat → Nat} {dE eE : Nat → Nat → Bool} (hv : RV n r lt er) : CL n (DP r ki lt er (nJ ki lt er bo n r)) (nE ki lt er bo n r dE eE) := by
  refine CL_wO (fun u i h => (DP_lt (BO_nJ hv) hv h).1.1) (fun u i hu => ?_)
  rw [pre_in hu]
  exact dA_iff (fun u hu i => by rw [pre_in hu]) r u i hu
theorem CL_sE {bo : Nat → Nat} {eE : Nat → Nat → Bool} (hv : RV n r lt er) (hn : n ≤ 40) (ho : ∀ k, lt k < 40) (ht : ∀ k, er k < 40) (hb : ∀ u, bo u < 40) : CL n (DP r ki lt er (sJ ki lt er bo n r)) (sE ki lt er bo n r eE) :=
  CL_wO (fun _ _ h => (DP_lt (BO_sJ hv hn ho ht hb) hv h).1.1) (fun u i hu => dA_iff (fun u hu i => by rw [pre_in hu]) r u i hu)
/-! none is earlier than itself -/
theorem irr_mono {n' r' : Nat} {b' : Nat → Nat} {E' : Nat → Nat → Bool} (hB : BO n r ki lt er b) (hB' : BO n' r' ks os ts b') (hC : CL n (DP r ki lt er b) E) (hC' : CL n' (DP r' ks os ts b') E') (hv : RV n r lt er) (hn : n ≤ n') (hsub : ∀ k, k < r' → ∃ j, j < r ∧ ks k = ki j ∧ os k = lt j ∧ ts k = er j) (hI : IRR n E) : IRR n' E' := by
  have hs : sam r' ks os ts b := fun k hk h4 => by
    obtain ⟨j, hj, e1, e2, e3⟩ := hsub k hk
    rw [e2, e3]
    exact hB.1 j hj (by rw [← e1]; exact h4)
  intro u hu
  cases e : E' u u with
  | false => rfl
  | true =>
    exfalso
    have h := hC'.2.2 (fun p q => p < n ∧ q < n ∧ E (b p) (b q) = true) (fun p q h => ?_) (fun p q s h1 h2 => ⟨h1.1, h2.2.1, hC.2.1 _ _ _ (BO_lt hB h1.1) (BO_lt hB h1.2.1) h1.2.2 h2.2.2⟩) u u hu e
    · have h2 := hI (b u) (BO_lt hB h.1)
      exact bt_f h.2.2 h2
    · obtain ⟨k, hk, h4, rfl, rfl⟩ := h
      obtain ⟨j, hj, e1, e2, e3⟩ := hsub k hk
      obtain ⟨v1, v2⟩ := hv j hj
      have w1 : os k < n := by rw [e2]; exact v1
      have w2 : ts k < n := by rw [e3]; exact v2
      have x1 := hB'.2.2 (os k) (by omega)
      have x2 := hB'.2.2 (ts k) (by omega)
      refine ⟨by omega, by omega, ?_⟩
      rw [hB'.2.1 b hs (os k) (by omega), hB'.2.1 b hs (ts k) (by omega)]
      exact hC.1 _ _ ⟨j, hj, by rw [← e1]; exact h4, by rw [e2], by rw [e3]⟩
end PURETWO
