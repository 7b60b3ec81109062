/-! PURE, 9: what follows from the relations, of the class and of the reference -/
section PURENINE
variable {n m r : Nat} {ki ks : Nat → Int32} {lt er os ts bo bo' b0 : Nat → Nat} {E F eE lE li dE me eE' lE' li' e0 l0 k0 : Nat → Nat → Bool} {fB fA be ab : Nat → Int32}
def DER (n r : Nat) (ki : Nat → Int32) (lt er bo : Nat → Nat) (eE lE li : Nat → Nat → Bool) (fB fA : Nat → Int32) : Prop := BO n r ki lt er bo ∧ CL n (DP r ki lt er bo) eE ∧ IRR n eE ∧ (∀ u i, u < n → (lE u i = true ↔ i < n ∧ eE i u = true)) ∧ (∀ u i, u < n → (li u i = true ↔ eE u i = true ∧ ∀ k, k < n → eE u k = true → eE k i = false)) ∧ (∀ u, u < n → bo u = u → fB u = nI (lev n eE u)) ∧ ∀ u, u < n → bo u = u → fA u = nI (lev n lE u)
theorem TI_cong (h : ∀ u v, u < n → v < n → E u v = F u v) (hT : TI n E) : TI n F := ⟨fun u v w hu hv hw h1 h2 => by rw [← h u w hu hw]; exact hT.1 u v w hu hv hw (by rw [h u v hu hv]; exact h1) (by rw [h v w hv hw]; exact h2), fun u hu => by rw [← h u u hu hu]; exact hT.2 u hu⟩
theorem TI_CL {D : Nat → Nat → Prop} (hC : CL n D eE) (hI : IRR n eE) : TI n eE := ⟨fun u v w hu hv _ h1 h2 => hC.2.1 u v w hu hv h1 h2, hI⟩
theorem TI_la (hT : TI n eE) (hl : ∀ u i, u < n → (lE u i = true ↔ i < n ∧ eE i u = true)) : TI n lE := by
  refine ⟨fun u v w hu hv hw h1 h2 => (hl u w hu).mpr ⟨hw, hT.1 w v u hw hv hu ((hl v w hv).mp h2).2 ((hl u v hu).mp h1).2⟩, fun u hu => ?_⟩
  cases e : lE u u with
  | false => rfl
  | true => exact absurd ((hl u u hu).mp e).2 (by rw [hT.2 u hu]; exact Bool.false_ne_true)
theorem DER_cong (hk : RE r ki lt er ks os ts) (h : DER n r ki lt er bo eE lE li fB fA) : DER n r ks os ts bo eE lE li fB fA := ⟨BO_cong hk h.1, CL_D (fun _ _ => ⟨DP_cong hk, DP_cong (RE_symm hk)⟩) h.2.1, h.2.2⟩
theorem DER_one (hv : RV n r lt er) (h : DER n r ki lt er bo eE lE li fB fA) (g : DER n r ki lt er bo' eE' lE' li' be ab) : (∀ u, u < n → bo u = bo' u) ∧ (∀ u, u < n → eE u = eE' u) ∧ (∀ u, u < n → lE u = lE' u) ∧ (∀ u, u < n → li u = li' u) ∧ (∀ u, u < n → bo u = u → fB u = be u) ∧ ∀ u, u < n → bo u = u → fA u = ab u := by
  obtain ⟨h1, h2, h3, h4, h5, h6, h7⟩ := h
  obtain ⟨g1, g2, g3, g4, g5, g6, g7⟩ := g
  have e1 := BO_one h1 g1
  have e2 : ∀ u, u < n → eE u = eE' u := fun u hu => CL_one h2 (CL_D (fun _ _ => ⟨DP_bo hv (fun u hu => (e1 u hu).symm), DP_bo hv e1⟩) g2) (fun _ _ q => ⟨(DP_lt h1 hv q).1.1, (DP_lt h1 hv q).2.1⟩) hu
  have e3 : ∀ u, u < n → lE u = lE' u := by
    intro u hu
    funext i
    rw [Bool.eq_iff_iff, h4 u i hu, g4 u i hu]
    exact ⟨fun q => ⟨q.1, by rw [← e2 i q.1]; exact q.2⟩, fun q => ⟨q.1, by rw [e2 i q.1]; exact q.2⟩⟩
  refine ⟨e1, e2, e3, fun u hu => ?_, fun u hu hb => ?_, fun u hu hb => ?_⟩
  · funext i
    rw [Bool.eq_iff_iff, h5 u i hu, g5 u i hu, e2 u hu]
    exact ⟨fun q => ⟨q.1, fun k hk hh => by rw [← e2 k hk]; exact q.2 k hk hh⟩, fun q => ⟨q.1, fun k hk hh => by rw [e2 k hk]; exact q.2 k hk hh⟩⟩
  · rw [h6 u hu hb, g6 u hu (by rw [← e1 u hu]; exact hb), lev_cong (fun v w hv hw => by rw [e2 v hv]) hu]
  · rw [h7 u hu hb, g7 u hu (by rw [← e1 u hu]; exact hb), lev_cong (fun v w hv hw => by rw [e3 v hv]) hu]
/-- the class's -/
theorem laS_iff {q i : Nat} : ∀ k, laS E q k i = true ↔ i < k ∧ E i q = true
  | 0 => ⟨fun h => (by cases h), fun h => absurd h.1 (Nat.not_lt_zero i)⟩
  | k + 1 => by
    have ih := laS_iff (q := q) (i := i) k
    rw [laS]
    by_cases c : E k q = true
    · rw [if_pos c, Bool.or_eq_true, ih, decide_eq_true_eq]
      constructor
      · rintro (h | h)
        · exact ⟨by omega, h.2⟩
        · subst h; exact ⟨by omega, c⟩
      · rintro ⟨h1, h2⟩
        rcases Nat.lt_succ_iff_lt_or_eq.mp h1 with q | q
        · exact Or.inl ⟨q, h2⟩
        · exact Or.inr q
    · rw [if_neg c, ih]
      constructor
      · rintro ⟨h1, h2⟩
        exact ⟨by omega, h2⟩
      · rintro ⟨h1, h2⟩
        rcases Nat.lt_succ_iff_lt_or_eq.mp h1 with q | q
        · exact ⟨q, h2⟩
        · subst q; exact absurd h2 c
theorem rcS_iff {q i : Nat} : ∀ k, rcS E q k i = true ↔ ∃ j, j < k ∧ E q j = true ∧ E j i = true
  | 0 => ⟨fun h => (by cases h), fun ⟨j, hj, _⟩ => absurd hj (Nat.not_lt_zero j)⟩
  | k + 1 => by
    have ih := rcS_iff (q := q) (i := i) k
    rw [rcS]
    by_cases c : E q k = true
    · rw [if_pos c, Bool.or_eq_true, ih]
      constructor
      · rintro (⟨j, hj, h⟩ | h)
        · exact ⟨j, by omega, h⟩
        · exact ⟨k, by omega, c, h⟩
      · rintro ⟨j, hj, h1, h2⟩
        rcases Nat.lt_succ_iff_lt_or_eq.mp hj with q | q
        · exact Or.inl ⟨j, q, h1, h2⟩
        · subst q; exact Or.inr h2
    · rw [if_neg c, ih]
      constructor
      · rintro ⟨j, hj, h⟩
        exact ⟨j, by omega, h⟩
      · rintro ⟨j, hj, h1, h2⟩
        rcases Nat.lt_succ_iff_lt_or_eq.mp hj with q | q
        · exact ⟨j, q, h1, h2⟩
        · subst q; exact absurd h1 c
theorem bdS_iff {i : Nat} : ∀ k, bdS bo k i = true ↔ ∃ u, u < k ∧ i = bo u
  | 0 => ⟨fun h => (by cases h), fun ⟨j, hj, _⟩ => absurd hj (Nat.not_lt_zero j)⟩
  | k + 1 => by
    have ih := bdS_iff (i := i) k
    rw [bdS, Bool.or_eq_true, ih, decide_eq_true_eq]
    constructor
    · rintro (⟨j, hj, h⟩ | h)
      · exact ⟨j, by omega, h⟩
      · exact ⟨k, by omega, h⟩
    · rintro ⟨j, hj, h⟩
      rcases Nat.lt_succ_iff_lt_or_eq.mp hj with q | q
      · exact Or.inl ⟨j, q, h⟩
      · subst q; exact Or.inr h
theorem bdS_eq (hB : BO n r ki lt er bo) (i : Nat) : bdS bo n i = (decide (i < n) && decide (bo i = i)) := by
  rw [Bool.eq_iff_iff, bdS_iff, Bool.and_eq_true, decide_eq_true_eq, decide_eq_true_eq]
  constructor
  · rintro ⟨u, hu, rfl⟩
    exact ⟨BO_lt hB hu, BO_id hB hu⟩
  · rintro ⟨h1, h2⟩
    exact ⟨i, h1, h2.symm⟩
theorem meA_iff {v i : Nat} {m0 : Nat → Nat → Bool} : ∀ k, meA bo m0 k v i = true ↔ m0 v i = true ∨ (i < k ∧ bo i = v)
  | 0 => ⟨Or.inl, fun h => h.elim id (fun h => absurd h.1 (Nat.not_lt_zero i))⟩
  | k + 1 => by
    have ih := meA_iff (v := v) (i := i) (m0 := m0) k
    rw [meA]
    by_cases e : v = bo k
    · rw [e, up_s, ← e, Bool.or_eq_true, ih, decide_eq_true_eq]
      constructor
      · rintro ((h | h) | h)
        · exact Or.inl h
        · exact Or.inr ⟨by omega, h.2⟩
        · subst h; exact Or.inr ⟨by omega, e.symm⟩
      · rintro (h | ⟨h1, h2⟩)
        · exact Or.inl (Or.inl h)
        · rcases Nat.lt_succ_iff_lt_or_eq.mp h1 with q | q
          · exact Or.inl (Or.inr ⟨q, h2⟩)
          · exact Or.inr q
    · rw [up_n _ _ e, ih]
      constructor
      · rintro (h | h)
        · exact Or.inl h
        · exact Or.inr ⟨by omega, h.2⟩
      · rintro (h | ⟨h1, h2⟩)
        · exact Or.inl h
        · rcases Nat.lt_succ_iff_lt_or_eq.mp h1 with q | q
          · exact Or.inr ⟨q, h2⟩
          · subst q; exact absurd h2.symm e
theorem nM_eq {v : Nat} (hv : v < n) (i : Nat) : nM ki lt er bo n r me v i = (decide (i < n) && decide (nJ ki lt er bo n r i = v)) := by
  unfold nM
  rw [Bool.eq_iff_iff, meA_iff, pre_in hv, Bool.and_eq_true, decide_eq_true_eq, decide_eq_true_eq]
  exact ⟨fun h => h.elim (fun h => (by cases h)) id, Or.inr⟩
theorem links_iff (hB : BO n r ki lt er bo) (hv : RV n r lt er) (hC : CL n (DP r ki lt er bo) eE) {u i : Nat} (hu : u < n) : (DP r ki lt er bo u i ∧ ¬ ∃ j, j < n ∧ eE u j = true ∧ eE j i = true) ↔ eE u i = true ∧ ∀ k, k < n → eE u k = true → eE k i = false := by
  constructor
  · rintro ⟨h1, h2⟩
    refine ⟨hC.1 u i h1, fun k hk h3 => ?_⟩
    cases e : eE k i with
    | false => rfl
    | true => exact absurd ⟨k, hk, h3, e⟩ h2
  · rintro ⟨h1, h2⟩
    have hno : ¬ ∃ j, j < n ∧ eE u j = true ∧ eE j i = true := fun ⟨j, hj, h3, h4⟩ => bt_f h4 (h2 j hj h3)
    refine ⟨?_, hno⟩
    have h := hC.2.2 (fun u i => u < n ∧ i < n ∧ eE u i = true ∧ (DP r ki lt er bo u i ∨ ∃ j, j < n ∧ eE u j = true ∧ eE j i = true)) (fun u i q => ⟨(DP_lt hB hv q).1.1, (DP_lt hB hv q).2.1, hC.1 u i q, Or.inl q⟩) (fun u v w q1 q2 => ⟨q1.1, q2.2.1, hC.2.1 u v w q1.1 q2.1 q1.2.2.1 q2.2.2.1, Or.inr ⟨v, q2.1, q1.2.2.1, q2.2.2.1⟩⟩) u i hu h1
    exact h.2.2.2.elim id (fun q => absurd q hno)
theorem rk_body {sT : Nat → Bool} {rs : Nat → Int32} (hn : n ≤ 40) (hT : TI n E) (hs : ∀ i, sT i = (decide (i < n) && decide (bo i = i))) (hE : ∀ u i, u < n → i < n → E u i = true → bo i = i) {u : Nat} (hu : u < n) (hb : bo u = u) : rkV n sT E rs 40 u = nI (lev n E u) := by
  have hc : ∀ u v, u < n → v < n → E u v = (E u v && sT v) := fun u v hu hv => by
    cases e : E u v with
    | false => rfl
    | true => rw [hs v, decide_eq_true hv, decide_eq_true (hE u v hu hv e)]; rfl
  rw [rk_fin hn (fun v hv => by rw [hs v, Bool.and_eq_true, decide_eq_true_eq] at hv; exact hv.1) (TI_cong hc hT) (by rw [hs u, decide_eq_true hu, decide_eq_true hb]; rfl), ← lev_cong hc hu]
theorem DER_class (hv : RV n r lt er) (hn : n ≤ 40) (hI : IRR n (nE ki lt er bo n r dE eE)) : DER n r ki lt er (nJ ki lt er bo n r) (nE ki lt er bo n r dE eE) (nL ki lt er bo n r dE eE lE) (nK ki lt er bo n r dE eE li) (nfB ki lt er bo n r dE eE fB) (nfA ki lt er bo n r dE eE lE fA) := by
  have hB : BO n r ki lt er (nJ ki lt er bo n r) := BO_nJ hv
  have hC : CL n (DP r ki lt er (nJ ki lt er bo n r)) (nE ki lt er bo n r dE eE) := CL_nE hv
  have hT := TI_CL hC hI
  have hL : ∀ u i, u < n → (nL ki lt er bo n r dE eE lE u i = true ↔ i < n ∧ nE ki lt er bo n r dE eE i u = true) := fun u i hu => by
    unfold nL
    rw [pre_in hu, laS_iff]
  refine ⟨hB, hC, hI, hL, fun u i hu => ?_, fun u hu hb => ?_, fun u hu hb => ?_⟩
  · rw [← links_iff hB hv hC hu]
    unfold nK
    rw [pre_in hu, Bool.and_eq_true, Bool.not_eq_true', ← Bool.not_eq_true, rcS_iff]
    have h := dA_iff (ki := ki) (lt := lt) (er := er) (b := nJ ki lt er bo n r) (d0 := pre (fun _ _ => false) dE n) (fun u hu i => by rw [pre_in hu]) r u i hu
    exact and_congr h Iff.rfl
  · exact rk_body hn hT (bdS_eq hB) (fun u i hu hi h => (CL_bo hB hv hC hu h).2.2) hu hb
  · exact rk_body hn (TI_la hT hL) (bdS_eq hB) (fun u i hu hi h => (CL_bo hB hv hC hi ((hL u i hu).mp h).2).1) hu hb
/-- the reference's -/
theorem lr1_iff {u v i : Nat} {L : Nat → Nat → Bool} : ∀ k, lr1 E u L k v i = true ↔ L v i = true ∨ (v < k ∧ E u v = true ∧ i = u)
  | 0 => ⟨Or.inl, fun h => h.elim id (fun h => absurd h.1 (Nat.not_lt_zero v))⟩
  | k + 1 => by
    have ih := lr1_iff (u := u) (v := v) (i := i) (L := L) k
    rw [lr1]
    by_cases c : E u k = true
    · rw [if_pos c]
      by_cases e : v = k
      · subst e
        rw [up_s, Bool.or_eq_true, ih, decide_eq_true_eq]
        constructor
        · rintro ((h | h) | h)
          · exact Or.inl h
          · exact Or.inr ⟨by omega, h.2⟩
          · exact Or.inr ⟨by omega, c, h⟩
        · rintro (h | h)
          · exact Or.inl (Or.inl h)
          · exact Or.inr h.2.2
      · rw [up_n _ _ e, ih]
        constructor
        · rintro (h | h)
          · exact Or.inl h
          · exact Or.inr ⟨by omega, h.2⟩
        · rintro (h | h)
          · exact Or.inl h
          · exact Or.inr ⟨by omega, h.2⟩
    · rw [if_neg c, ih]
      constructor
      · rintro (h | h)
        · exact Or.inl h
        · exact Or.inr ⟨by omega, h.2⟩
      · rintro (h | h)
        · exact Or.inl h
        · by_cases e : v = k
          · rw [e] at h; exact absurd h.2.1 c
          · exact Or.inr ⟨by omega, h.2⟩
theorem lr2_iff {v i : Nat} {L : Nat → Nat → Bool} : ∀ k, lr2 E n L k v i = true ↔ L v i = true ∨ (i < k ∧ v < n ∧ E i v = true)
  | 0 => ⟨Or.inl, fun h => h.elim id (fun h => absurd h.1 (Nat.not_lt_zero i))⟩
  | k + 1 => by
    have ih := lr2_iff (v := v) (i := i) (L := L) k
    rw [lr2, lr1_iff, ih]
    constructor
    · rintro ((h | h) | h)
      · exact Or.inl h
      · exact Or.inr ⟨by omega, h.2⟩
      · exact Or.inr ⟨by omega, h.1, by rw [h.2.2]; exact h.2.1⟩
    · rintro (h | h)
      · exact Or.inl (Or.inl h)
      · by_cases e : i = k
        · exact Or.inr ⟨h.2.1, by rw [← e]; exact h.2.2, e⟩
        · exact Or.inl (Or.inr ⟨by omega, h.2⟩)
theorem kS_iff {u i : Nat} : ∀ k, kS E u k i = true ↔ E u i = true ∧ ∀ j, j < k → E u j = true → E j i = false
  | 0 => ⟨fun h => ⟨h, fun j hj => absurd hj (Nat.not_lt_zero j)⟩, fun h => h.1⟩
  | k + 1 => by
    have ih := kS_iff (u := u) (i := i) k
    rw [kS, all_s]
    by_cases c : E u k = true
    · rw [if_pos c, Bool.and_eq_true, ih, Bool.not_eq_true']
      exact ⟨fun h => ⟨h.1.1, h.1.2, fun _ => h.2⟩, fun h => ⟨⟨h.1, h.2.1⟩, h.2.2 c⟩⟩
    · rw [if_neg c, ih]
      exact ⟨fun h => ⟨h.1, h.2, fun q => absurd q c⟩, fun h => ⟨h.1, h.2.1⟩⟩
theorem DER_ref (hv : RV n r lt er) (hn : n ≤ 40) (ho : ∀ k, lt k < 40) (ht : ∀ k, er k < 40) (hb : ∀ u, b0 u < 40) (hI : IRR n (sE ki lt er b0 n r e0)) : DER n r ki lt er (sJ ki lt er b0 n r) (sE ki lt er b0 n r e0) (sLt (sE ki lt er b0 n r e0) n l0) (sLi (sE ki lt er b0 n r e0) n k0) (sRk (sE ki lt er b0 n r e0) n be) (sRk (sLt (sE ki lt er b0 n r e0) n l0) n ab) := by
  have hB : BO n r ki lt er (sJ ki lt er b0 n r) := BO_sJ hv hn ho ht hb
  have hC : CL n (DP r ki lt er (sJ ki lt er b0 n r)) (sE ki lt er b0 n r e0) := CL_sE hv hn ho ht hb
  have hT := TI_CL hC hI
  have hL : ∀ u i, u < n → (sLt (sE ki lt er b0 n r e0) n l0 u i = true ↔ i < n ∧ sE ki lt er b0 n r e0 i u = true) := fun u i hu => by
    unfold sLt
    rw [lr2_iff, pre_in hu]
    exact ⟨fun h => h.elim (fun h => (by cases h)) (fun h => ⟨h.1, h.2.2⟩), fun h => Or.inr ⟨h.1, hu, h.2⟩⟩
  refine ⟨hB, hC, hI, hL, fun u i hu => ?_, fun u hu _ => sRk_eq hT hn hu, fun u hu _ => sRk_eq (TI_la hT hL) hn hu⟩
  unfold sLi
  rw [pre_in hu, kS_iff]
theorem nJ_lt (hb : ∀ u, bo u < 40) (hn : n ≤ 40) (u : Nat) : nJ ki lt er bo n r u < 40 := jU_lt (fun u => pre_lt (fun v hv => by omega) hb u) r u
theorem sJ_lt (hb : ∀ u, b0 u < 40) (hn : n ≤ 40) (u : Nat) : sJ ki lt er b0 n r u < 40 := jW_lt 1600 (fun u => pre_lt (fun v hv => by omega) hb u) u
theorem irr_any : (!(anyB (fun u => E u u) n)) = true ↔ IRR n E := by
  rw [Bool.not_eq_true']
  constructor
  · intro h u hu
    cases e : E u u with
    | false => rfl
    | true => exact absurd ((anyB_iff (p := fun u => E u u)).mpr ⟨u, hu, e⟩) (by rw [h]; exact Bool.false_ne_true)
  · intro h
    cases e : anyB (fun u => E u u) n with
    | false => rfl
    | true =>
      obtain ⟨u, hu, h2⟩ := anyB_iff.mp e
      exact absurd h2 (by rw [h u hu]; exact Bool.false_ne_true)
end PURENINE
