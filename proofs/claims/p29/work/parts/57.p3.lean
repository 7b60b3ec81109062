/-! PURE, 3: when a new relation makes a body earlier than itself -/
section PURETHREE
variable {n r : Nat} {ki : Nat → Int32} {lt er b b' : Nat → Nat} {E E' : Nat → Nat → Bool} {kd : Int32} {x y : Nat}
theorem CL_R (hB : BO n r ki lt er b) (hv : RV n r lt er) (hC : CL n (DP r ki lt er b) E) (hI : IRR n E) : (∀ u v w, (u < n ∧ v < n ∧ E u v = true) → (v < n ∧ w < n ∧ E v w = true) → (u < n ∧ w < n ∧ E u w = true)) ∧ (∀ u, ¬ (u < n ∧ u < n ∧ E u u = true)) ∧ (∀ u i, DP r ki lt er b u i → (u < n ∧ i < n ∧ E u i = true)) :=
  ⟨fun u v w h1 h2 => ⟨h1.1, h2.2.1, hC.2.1 u v w h1.1 h2.1 h1.2.2 h2.2.2⟩, fun u h => bt_f h.2.2 (hI u h.1), fun u i h => ⟨(DP_lt hB hv h).1.1, (DP_lt hB hv h).2.1, hC.1 u i h⟩⟩
theorem edge_tr {T : Nat → Nat → Prop} (tr : ∀ u v w, T u v → T v w → T u w) {p q : Nat} : ∀ u v w, (T u v ∨ ((u = p ∨ T u p) ∧ (v = q ∨ T q v))) → (T v w ∨ ((v = p ∨ T v p) ∧ (w = q ∨ T q w))) → (T u w ∨ ((u = p ∨ T u p) ∧ (w = q ∨ T q w))) := by
  intro u v w h1 h2
  rcases h1 with h1 | ⟨h1, h3⟩
  · rcases h2 with h2 | ⟨h2, h4⟩
    · exact Or.inl (tr _ _ _ h1 h2)
    · refine Or.inr ⟨Or.inr ?_, h4⟩
      rcases h2 with rfl | h2
      · exact h1
      · exact tr _ _ _ h1 h2
  · rcases h2 with h2 | ⟨h2, h4⟩
    · refine Or.inr ⟨h1, Or.inr ?_⟩
      rcases h3 with rfl | h3
      · exact h2
      · exact tr _ _ _ h3 h2
    · exact Or.inr ⟨h1, h4⟩
theorem edge_irr {T : Nat → Nat → Prop} (tr : ∀ u v w, T u v → T v w → T u w) (irr : ∀ u, ¬ T u u) {p q : Nat} (h1 : ¬ p = q) (h2 : ¬ T q p) (u : Nat) : ¬ (T u u ∨ ((u = p ∨ T u p) ∧ (u = q ∨ T q u))) := by
  rintro (h | ⟨h3, h4⟩)
  · exact irr u h
  · rcases h3 with rfl | h3
    · rcases h4 with h4 | h4
      · exact h1 h4
      · exact h2 h4
    · rcases h4 with rfl | h4
      · exact h2 h3
      · exact h2 (tr _ _ _ h4 h3)
theorem irr_dir (hB : BO n r ki lt er b) (hv : RV n r lt er) (hC : CL n (DP r ki lt er b) E) (hI : IRR n E) (hx : x < n) (hy : y < n) (hk : ¬ kd = nI 4) (hB' : BO n (r + 1) (va_up ki r kd) (va_up lt r x) (va_up er r y) b') (hC' : CL n (DP (r + 1) (va_up ki r kd) (va_up lt r x) (va_up er r y) b') E') : IRR n E' ↔ (decide (b x = b y) || E (b y) (b x)) = false := by
  obtain ⟨tr, irr, dT⟩ := CL_R hB hv hC hI
  have hB2 : BO n r ki lt er b' := by
    obtain ⟨h1, h2, h3⟩ := hB'
    exact ⟨(sam_up.mp h1).1, fun K hK => h2 K (sam_up.mpr ⟨hK, fun c => absurd c hk⟩), h3⟩
  have e0 : ∀ u, u < n → b' u = b u := BO_one hB2 hB
  have hD : ∀ u i, DP (r + 1) (va_up ki r kd) (va_up lt r x) (va_up er r y) b' u i ↔ DP r ki lt er b u i ∨ (u = b x ∧ i = b y) := by
    intro u i
    rw [DP_up, e0 x hx, e0 y hy]
    constructor
    · rintro (h | ⟨-, h⟩)
      · exact Or.inl (DP_bo hv e0 h)
      · exact Or.inr h
    · rintro (h | h)
      · exact Or.inl (DP_bo hv (fun u hu => (e0 u hu).symm) h)
      · exact Or.inr ⟨hk, h⟩
  have hbx := BO_lt hB hx
  have hby := BO_lt hB hy
  constructor
  · intro hI'
    rw [Bool.or_eq_false_iff, decide_eq_false_iff_not]
    have hup : ∀ u i, u < n → E u i = true → E' u i = true := fun u i hu h => (hC.2.2 (fun u i => u < n ∧ i < n ∧ E' u i = true) (fun u i q => ⟨(DP_lt hB hv q).1.1, (DP_lt hB hv q).2.1, hC'.1 u i ((hD u i).mpr (Or.inl q))⟩) (fun u v w h1 h2 => ⟨h1.1, h2.2.1, hC'.2.1 u v w h1.1 h2.1 h1.2.2 h2.2.2⟩) u i hu h).2.2
    have hxy : E' (b x) (b y) = true := hC'.1 _ _ ((hD _ _).mpr (Or.inr ⟨rfl, rfl⟩))
    refine ⟨fun e => ?_, ?_⟩
    · rw [← e] at hxy
      exact bt_f hxy (hI' _ hbx)
    · cases e : E (b y) (b x) with
      | false => rfl
      | true => exact absurd (hC'.2.1 _ _ _ hbx hby hxy (hup _ _ hby e)) (by rw [hI' _ hbx]; exact Bool.noConfusion)
  · intro h
    rw [Bool.or_eq_false_iff, decide_eq_false_iff_not] at h
    intro u hu
    cases e : E' u u with
    | false => rfl
    | true =>
      exfalso
      refine edge_irr tr irr (p := b x) (q := b y) h.1 (fun c => bt_f c.2.2 h.2) u (hC'.2.2 (fun s t => (s < n ∧ t < n ∧ E s t = true) ∨ ((s = b x ∨ (s < n ∧ b x < n ∧ E s (b x) = true)) ∧ (t = b y ∨ (b y < n ∧ t < n ∧ E (b y) t = true)))) (fun p q hpq => ?_) (edge_tr tr) u u hu e)
      rcases (hD p q).mp hpq with c | ⟨c1, c2⟩
      · exact Or.inl (dT _ _ c)
      · exact Or.inr ⟨Or.inl c1, Or.inl c2⟩
/-- two bodies become one -/
theorem join_tr {T : Nat → Nat → Prop} (tr : ∀ u v w, T u v → T v w → T u w) {p q u v v' w : Nat} (hvv : v = v' ∨ ((v = p ∨ v = q) ∧ (v' = p ∨ v' = q))) (h1 : T u v ∨ ((T u p ∨ T u q) ∧ (T p v ∨ T q v))) (h2 : T v' w ∨ ((T v' p ∨ T v' q) ∧ (T p w ∨ T q w))) : T u w ∨ ((T u p ∨ T u q) ∧ (T p w ∨ T q w)) := by
  have k1 : ∀ {z}, (T p z ∨ T q z) → T z w → (T p w ∨ T q w) := fun h g => h.imp (fun h => tr _ _ _ h g) (fun h => tr _ _ _ h g)
  have k2 : ∀ {z}, T u z → (T z p ∨ T z q) → (T u p ∨ T u q) := fun g h => h.imp (fun h => tr _ _ _ g h) (fun h => tr _ _ _ g h)
  rcases hvv with rfl | ⟨hv, hv'⟩
  · rcases h1 with h1 | ⟨h1, h3⟩
    · rcases h2 with h2 | ⟨h2, h4⟩
      · exact Or.inl (tr _ _ _ h1 h2)
      · exact Or.inr ⟨k2 h1 h2, h4⟩
    · rcases h2 with h2 | ⟨h2, h4⟩
      · exact Or.inr ⟨h1, k1 h3 h2⟩
      · exact Or.inr ⟨h1, h4⟩
  · right
    constructor
    · rcases h1 with h1 | ⟨h1, h3⟩
      · rcases hv with rfl | rfl
        · exact Or.inl h1
        · exact Or.inr h1
      · exact h1
    · rcases h2 with h2 | ⟨h2, h4⟩
      · rcases hv' with rfl | rfl
        · exact Or.inl h2
        · exact Or.inr h2
      · exact h4
theorem join_irr {T : Nat → Nat → Prop} (tr : ∀ u v w, T u v → T v w → T u w) (irr : ∀ u, ¬ T u u) {p q u v : Nat} (n1 : ¬ T p q) (n2 : ¬ T q p) (huv : u = v ∨ ((u = p ∨ u = q) ∧ (v = p ∨ v = q))) : ¬ (T u v ∨ ((T u p ∨ T u q) ∧ (T p v ∨ T q v))) := by
  have cc : ∀ {c d : Nat}, (c = p ∨ c = q) → (d = p ∨ d = q) → ¬ T c d := by
    intro c d h1 h2
    rcases h1 with rfl | rfl
    · rcases h2 with rfl | rfl
      · exact irr _
      · exact n1
    · rcases h2 with rfl | rfl
      · exact n2
      · exact irr _
  rcases huv with rfl | ⟨hu, hv⟩
  · rintro (h | ⟨h1, h2⟩)
    · exact irr u h
    · rcases h1 with h1 | h1
      · rcases h2 with h2 | h2
        · exact cc (Or.inl rfl) (Or.inl rfl) (tr _ _ _ h2 h1)
        · exact cc (Or.inr rfl) (Or.inl rfl) (tr _ _ _ h2 h1)
      · rcases h2 with h2 | h2
        · exact cc (Or.inl rfl) (Or.inr rfl) (tr _ _ _ h2 h1)
        · exact cc (Or.inr rfl) (Or.inr rfl) (tr _ _ _ h2 h1)
  · rintro (h | ⟨h1, h2⟩)
    · exact cc hu hv h
    · rcases h1 with h1 | h1
      · exact cc hu (Or.inl rfl) h1
      · exact cc hu (Or.inr rfl) h1
theorem irr_same (hB : BO n r ki lt er b) (hv : RV n r lt er) (hC : CL n (DP r ki lt er b) E) (hI : IRR n E) (hx : x < n) (hy : y < n) (hk : kd = nI 4) (hB' : BO n (r + 1) (va_up ki r kd) (va_up lt r x) (va_up er r y) b') (hC' : CL n (DP (r + 1) (va_up ki r kd) (va_up lt r x) (va_up er r y) b') E') : IRR n E' ↔ (E (b x) (b y) || E (b y) (b x)) = false := by
  obtain ⟨tr, irr, dT⟩ := CL_R hB hv hC hI
  obtain ⟨s1, s2⟩ := sam_up.mp hB'.1
  have hxy : b' x = b' y := s2 hk
  have e1 : ∀ u, u < n → b' (b u) = b' u := fun u hu => hB.2.1 b' s1 u hu
  have hbx := BO_lt hB hx
  have hby := BO_lt hB hy
  have hlt' : ∀ u, u < n → b' u < n := fun u hu => BO_lt hB' hu
  have hm : sam (r + 1) (va_up ki r kd) (va_up lt r x) (va_up er r y) (fun u => if b u = b x ∨ b u = b y then b x else b u) := by
    refine sam_up.mpr ⟨fun k hk h4 => ?_, fun _ => ?_⟩
    · show (if b (lt k) = b x ∨ b (lt k) = b y then b x else b (lt k)) = if b (er k) = b x ∨ b (er k) = b y then b x else b (er k)
      rw [hB.1 k hk h4]
    · show (if b x = b x ∨ b x = b y then b x else b x) = if b y = b x ∨ b y = b y then b x else b y
      rw [if_pos (Or.inl rfl), if_pos (Or.inr rfl)]
  have e2 : ∀ u v, u < n → v < n → b u = u → b v = v → b' u = b' v → u = v ∨ ((u = b x ∨ u = b y) ∧ (v = b x ∨ v = b y)) := by
    intro u v hu hv' bu bv h
    have h1 := hB'.2.1 _ hm u hu
    have h2 := hB'.2.1 _ hm v hv'
    rw [h] at h1
    have h3 : (if b u = b x ∨ b u = b y then b x else b u) = if b v = b x ∨ b v = b y then b x else b v := h1.symm.trans h2
    rw [bu, bv] at h3
    by_cases c1 : u = b x ∨ u = b y
    · by_cases c2 : v = b x ∨ v = b y
      · exact Or.inr ⟨c1, c2⟩
      · rw [if_pos c1, if_neg c2] at h3
        exact absurd (Or.inl h3.symm) c2
    · rw [if_neg c1] at h3
      by_cases c2 : v = b x ∨ v = b y
      · rw [if_pos c2] at h3
        exact absurd (Or.inl h3) c1
      · rw [if_neg c2] at h3
        exact Or.inl h3
  have hD : ∀ u i, DP (r + 1) (va_up ki r kd) (va_up lt r x) (va_up er r y) b' u i ↔ DP r ki lt er b' u i := by
    intro u i
    rw [DP_up]
    exact ⟨fun h => h.elim id (fun h => absurd hk h.1), Or.inl⟩
  constructor
  · intro hI'
    have hup : ∀ u i, u < n → E u i = true → E' (b' u) (b' i) = true := fun u i hu h => (hC.2.2 (fun u i => u < n ∧ i < n ∧ E' (b' u) (b' i) = true) (fun u i q => by
      obtain ⟨q1, q2⟩ := DP_lt hB hv q
      obtain ⟨k, k1, k2, k3, k4⟩ := q
      obtain ⟨v1, v2⟩ := hv k k1
      refine ⟨q1.1, q2.1, hC'.1 _ _ ((hD _ _).mpr ⟨k, k1, k2, ?_, ?_⟩)⟩
      · rw [k3, e1 _ v1]
      · rw [k4, e1 _ v2]) (fun u v w h1 h2 => ⟨h1.1, h2.2.1, hC'.2.1 _ _ _ (hlt' u h1.1) (hlt' v h2.1) h1.2.2 h2.2.2⟩) u i hu h).2.2
    have none1 : ∀ p q, p < n → q < n → b' p = b' q → E p q = false := by
      intro p q hp hq h
      cases e : E p q with
      | false => rfl
      | true =>
        have h1 := hup p q hp e
        rw [h] at h1
        exact absurd h1 (by rw [hI' _ (hlt' q hq)]; exact Bool.noConfusion)
    have h2 : b' (b x) = b' (b y) := by rw [e1 x hx, e1 y hy, hxy]
    rw [none1 _ _ hbx hby h2, none1 _ _ hby hbx h2.symm]
    rfl
  · intro h
    rw [Bool.or_eq_false_iff] at h
    have n1 : ¬ (b x < n ∧ b y < n ∧ E (b x) (b y) = true) := fun c => bt_f c.2.2 h.1
    have n2 : ¬ (b y < n ∧ b x < n ∧ E (b y) (b x) = true) := fun c => bt_f c.2.2 h.2
    intro u hu
    cases e : E' u u with
    | false => rfl
    | true =>
      exfalso
      obtain ⟨p, q, hp, hq, bp, bq, ep, eq, hpq⟩ := hC'.2.2 (fun c d => ∃ p q, p < n ∧ q < n ∧ b p = p ∧ b q = q ∧ b' p = c ∧ b' q = d ∧ ((p < n ∧ q < n ∧ E p q = true) ∨ (((p < n ∧ b x < n ∧ E p (b x) = true) ∨ (p < n ∧ b y < n ∧ E p (b y) = true)) ∧ ((b x < n ∧ q < n ∧ E (b x) q = true) ∨ (b y < n ∧ q < n ∧ E (b y) q = true))))) (fun c d hcd => by
        obtain ⟨k, k1, k2, k3, k4⟩ := (hD c d).mp hcd
        obtain ⟨v1, v2⟩ := hv k k1
        refine ⟨b (lt k), b (er k), BO_lt hB v1, BO_lt hB v2, BO_id hB v1, BO_id hB v2, ?_, ?_, Or.inl (dT _ _ ⟨k, k1, k2, rfl, rfl⟩)⟩
        · rw [k3, e1 _ v1]
        · rw [k4, e1 _ v2]) (fun c d f h1 h2 => by
        obtain ⟨p, q, hp, hq, bp, bq, ep, eq, h1⟩ := h1
        obtain ⟨p2, q2, hp2, hq2, bp2, bq2, ep2, eq2, h2⟩ := h2
        exact ⟨p, q2, hp, hq2, bp, bq2, ep, eq2, join_tr tr (e2 q p2 hq hp2 bq bp2 (eq.trans ep2.symm)) h1 h2⟩) u u hu e
      exact join_irr tr irr n1 n2 (e2 p q hp hq bp bq (ep.trans eq.symm)) hpq
theorem irr_new (hB : BO n r ki lt er b) (hv : RV n r lt er) (hC : CL n (DP r ki lt er b) E) (hI : IRR n E) (hx : x < n) (hy : y < n) (hB' : BO n (r + 1) (va_up ki r kd) (va_up lt r x) (va_up er r y) b') (hC' : CL n (DP (r + 1) (va_up ki r kd) (va_up lt r x) (va_up er r y) b') E') : IRR n E' ↔ lpB b E kd x y = false := by
  unfold lpB
  by_cases hk : kd = nI 4
  · rw [if_pos hk]
    exact irr_same hB hv hC hI hx hy hk hB' hC'
  · rw [if_neg hk]
    exact irr_dir hB hv hC hI hx hy hk hB' hC'
end PURETHREE
