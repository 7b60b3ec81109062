/-! PURE, 1: the bodies are the same ones, however they are found -/
section PUREONE
variable {n r : Nat} {ki ks : Nat → Int32} {lt er os ts b c : Nat → Nat}
def sam (r : Nat) (ki : Nat → Int32) (lt er : Nat → Nat) (K : Nat → Nat) : Prop := ∀ k, k < r → ki k = nI 4 → K (lt k) = K (er k)
def BQ (n r : Nat) (ki : Nat → Int32) (lt er bo : Nat → Nat) : Prop := (∀ K : Nat → Nat, sam r ki lt er K → ∀ u, u < n → K (bo u) = K u) ∧ ∀ u, u < n → bo u ≤ u
def BO (n r : Nat) (ki : Nat → Int32) (lt er bo : Nat → Nat) : Prop := sam r ki lt er bo ∧ BQ n r ki lt er bo
def RV (n r : Nat) (lt er : Nat → Nat) : Prop := ∀ k, k < r → lt k < n ∧ er k < n
def RE (r : Nat) (ki : Nat → Int32) (lt er : Nat → Nat) (ks : Nat → Int32) (os ts : Nat → Nat) : Prop := ∀ k, k < r → ki k = ks k ∧ lt k = os k ∧ er k = ts k
theorem RE_symm (h : RE r ki lt er ks os ts) : RE r ks os ts ki lt er := fun k hk => ⟨(h k hk).1.symm, (h k hk).2.1.symm, (h k hk).2.2.symm⟩
theorem RE_refl : RE r ki lt er ki lt er := fun _ _ => ⟨rfl, rfl, rfl⟩
theorem sam_cong {K : Nat → Nat} (hk : RE r ki lt er ks os ts) (h : sam r ki lt er K) : sam r ks os ts K := by
  intro k hk1 h4
  obtain ⟨e1, e2, e3⟩ := hk k hk1
  rw [← e2, ← e3]
  exact h k hk1 (by rw [e1]; exact h4)
theorem BO_cong (hk : RE r ki lt er ks os ts) (h : BO n r ki lt er b) : BO n r ks os ts b := ⟨sam_cong hk h.1, fun K hK u hu => h.2.1 K (sam_cong (RE_symm hk) hK) u hu, h.2.2⟩
theorem RV_cong (hk : RE r ki lt er ks os ts) (h : RV n r lt er) : RV n r os ts := fun k hk1 => by
  obtain ⟨-, e2, e3⟩ := hk k hk1
  rw [← e2, ← e3]
  exact h k hk1
theorem BO_one (h : BO n r ki lt er b) (h2 : BO n r ki lt er c) : ∀ u, u < n → b u = c u := by
  intro u hu
  have e1 : c (b u) = c u := h.2.1 c h2.1 u hu
  have e2 : b (c u) = b u := h2.2.1 b h.1 u hu
  have h3 := h.2.2 u hu
  have h4 := h2.2.2 u hu
  have h5 := h2.2.2 (b u) (by omega)
  have h6 := h.2.2 (c u) (by omega)
  omega
theorem BO_id (h : BO n r ki lt er b) {u : Nat} (hu : u < n) : b (b u) = b u := h.2.1 b h.1 u hu
theorem BO_lt (h : BO n r ki lt er b) {u : Nat} (hu : u < n) : b u < n := Nat.lt_of_le_of_lt (h.2.2 u hu) hu
/-- the relation told last -/
theorem sam_up {kd : Int32} {x y : Nat} {K : Nat → Nat} : sam (r + 1) (va_up ki r kd) (va_up lt r x) (va_up er r y) K ↔ sam r ki lt er K ∧ (kd = nI 4 → K x = K y) := by
  constructor
  · intro h
    refine ⟨fun k hk h4 => ?_, fun h4 => ?_⟩
    · have e : ¬ k = r := by omega
      have h1 := h k (by omega)
      rw [up_n _ _ e, up_n _ _ e, up_n _ _ e] at h1
      exact h1 h4
    · have h1 := h r (by omega)
      rw [up_s, up_s, up_s] at h1
      exact h1 h4
  · intro h k hk h4
    by_cases e : k = r
    · subst e
      rw [up_s] at h4
      rw [up_s, up_s]
      exact h.2 h4
    · rw [up_n _ _ e] at h4
      rw [up_n _ _ e, up_n _ _ e]
      exact h.1 k (by omega) h4
theorem jB_in {m o p u : Nat} {bo : Nat → Nat} (h : u < m) : jB m o p bo u = if bo u = o ∨ bo u = p then min o p else bo u := by
  unfold jB
  by_cases q : bo u = o ∨ bo u = p
  · rw [if_pos ⟨h, q⟩, if_pos q]
  · rw [if_neg (fun c => q c.2), if_neg q]
theorem BO_jU (hv : RV n r lt er) (h0 : ∀ u, u < n → c u = u) : ∀ k, k ≤ r → BO n k ki lt er (jU ki lt er n c k)
  | 0, _ => ⟨fun k hk => absurd hk (Nat.not_lt_zero k), fun K _ u hu => by show K (c u) = K u; rw [h0 u hu], fun u hu => by show c u ≤ u; rw [h0 u hu]; exact Nat.le_refl u⟩
  | k + 1, hk => by
    have ih := BO_jU hv h0 k (by omega)
    rw [jU]
    by_cases q4 : ki k = nI 4
    · rw [if_pos q4]
      generalize jU ki lt er n c k = J at ih ⊢
      obtain ⟨i1, i2, i3⟩ := ih
      have hl := (hv k (by omega)).1
      have hr := (hv k (by omega)).2
      refine ⟨fun j hj h4 => ?_, fun K hK u hu => ?_, fun u hu => ?_⟩
      · rw [jB_in (hv j (by omega)).1, jB_in (hv j (by omega)).2]
        rcases Nat.lt_succ_iff_lt_or_eq.mp hj with q | q
        · rw [i1 j q h4]
        · subst q
          rw [if_pos (Or.inl rfl), if_pos (Or.inr rfl)]
      · rw [jB_in hu]
        have e1 := i2 K (fun j hj h4 => hK j (by omega) h4)
        by_cases c2 : J u = J (lt k) ∨ J u = J (er k)
        · rw [if_pos c2]
          have e2 := e1 (lt k) hl
          have e3 := e1 (er k) hr
          have e4 := hK k (by omega) q4
          have e5 := e1 u hu
          have e6 : K (min (J (lt k)) (J (er k))) = K (lt k) := by
            rcases Nat.le_total (J (lt k)) (J (er k)) with q | q
            · rw [Nat.min_eq_left q, e2]
            · rw [Nat.min_eq_right q, e3, e4]
          rw [e6]
          rcases c2 with q | q
          · rw [← e5, q, e2]
          · rw [← e5, q, e3, e4]
        · rw [if_neg c2]
          exact e1 u hu
      · rw [jB_in hu]
        have h3 := i3 u hu
        by_cases c2 : J u = J (lt k) ∨ J u = J (er k)
        · rw [if_pos c2]
          omega
        · rw [if_neg c2]
          exact h3
    · rw [if_neg q4]
      refine ⟨fun j hj h4 => ?_, fun K hK => ih.2.1 K (fun j hj h4 => hK j (by omega) h4), ih.2.2⟩
      rcases Nat.lt_succ_iff_lt_or_eq.mp hj with q | q
      · exact ih.1 j q h4
      · subst q
        exact absurd h4 q4
theorem BQ_jq (hv : RV n r lt er) (h : BQ n r ki lt er b) : ∀ k, k ≤ r → BQ n r ki lt er (jq ki lt er b k)
  | 0, _ => h
  | k + 1, hk => by
    have ih := BQ_jq hv h k (by omega)
    rw [jq]
    by_cases q4 : ki k = nI 4 ∧ ¬ jq ki lt er b k (lt k) = jq ki lt er b k (er k)
    · rw [if_pos q4]
      have q5 := q4.1
      clear q4
      generalize jq ki lt er b k = J at ih ⊢
      have hl := (hv k (by omega)).1
      have hr := (hv k (by omega)).2
      have key : ∀ K : Nat → Nat, sam r ki lt er K → K (min (J (lt k)) (J (er k))) = K (lt k) := by
        intro K hK
        have e2 := ih.1 K hK (lt k) hl
        have e3 := ih.1 K hK (er k) hr
        have e4 := hK k (by omega) q5
        rcases Nat.le_total (J (lt k)) (J (er k)) with q | q
        · rw [Nat.min_eq_left q, e2]
        · rw [Nat.min_eq_right q, e3, e4]
      refine ⟨fun K hK u hu => ?_, fun u hu => ?_⟩
      · by_cases c1 : u = er k
        · rw [c1, up_s, key K hK]
          exact hK k (by omega) q5
        · rw [up_n _ _ c1]
          by_cases c2 : u = lt k
          · rw [c2, up_s, key K hK]
          · rw [up_n _ _ c2]
            exact ih.1 K hK u hu
      · by_cases c1 : u = er k
        · have := ih.2 (er k) hr
          rw [c1, up_s]
          omega
        · rw [up_n _ _ c1]
          by_cases c2 : u = lt k
          · have := ih.2 (lt k) hl
            rw [c2, up_s]
            omega
          · rw [up_n _ _ c2]
            exact ih.2 u hu
    · rw [if_neg q4]
      exact ih
theorem BQ_jW (hv : RV n r lt er) : ∀ q {b : Nat → Nat}, BQ n r ki lt er b → BQ n r ki lt er (jW ki lt er r q b)
  | 0, _, h => h
  | q + 1, _, h => by
    rw [jW]
    exact BQ_jW hv q (BQ_jq hv h r (Nat.le_refl r))
theorem jW_fix {m rn : Nat} (ho : ∀ k, os k < m) (ht : ∀ k, ts k < m) : ∀ q {b : Nat → Nat}, sumN b m ≤ q → jc ks os ts (jW ks os ts rn q b) rn = false
  | 0, b, h => by
    rw [jW]
    cases e : jc ks os ts b rn with
    | false => rfl
    | true => exact absurd ((jq_sum (b := b) ho ht rn).1 e) (by omega)
  | q + 1, b, h => by
    rw [jW]
    cases e : jc ks os ts b rn with
    | true =>
      have h2 := (jq_sum (b := b) ho ht rn).1 e
      exact jW_fix ho ht q (by omega)
    | false =>
      have e2 := (jq_sum (b := b) ho ht rn).2 e
      rw [e2, jW_st e2]
      exact e
theorem jc_all {m : Nat} (ho : ∀ k, os k < m) (ht : ∀ k, ts k < m) : ∀ rn, jc ks os ts b rn = false → sam rn ks os ts b
  | 0, _ => fun k hk => absurd hk (Nat.not_lt_zero k)
  | rn + 1, h => by
    rw [jc, Bool.or_eq_false_iff] at h
    obtain ⟨h1, h2⟩ := h
    rw [(jq_sum (b := b) ho ht rn).2 h1] at h2
    intro k hk h4
    rcases Nat.lt_succ_iff_lt_or_eq.mp hk with q | q
    · exact jc_all ho ht rn h1 k q h4
    · subst q
      have h3 := of_decide_eq_false h2
      by_cases e : b (os k) = b (ts k)
      · exact e
      · exact absurd ⟨h4, e⟩ h3
theorem BO_nJ {bo : Nat → Nat} (hv : RV n r lt er) : BO n r ki lt er (nJ ki lt er bo n r) := BO_jU hv (fun u hu => pre_in hu) r (Nat.le_refl r)
theorem BO_sJ {bo : Nat → Nat} (hv : RV n r os ts) (hn : n ≤ 40) (ho : ∀ k, os k < 40) (ht : ∀ k, ts k < 40) (hb : ∀ u, bo u < 40) : BO n r ks os ts (sJ ks os ts bo n r) := by
  have h0 : BQ n r ks os ts (pre (fun u => u) bo n) := ⟨fun K _ u hu => by rw [pre_in hu], fun u hu => by rw [pre_in hu]; exact Nat.le_refl u⟩
  have h1 : sumN (pre (fun u => u) bo n) 40 ≤ 1600 := Nat.le_trans (sumN_lt (B := 39) (fun u => pre_lt (fun v hv => by omega) hb u) 40) (by decide)
  exact ⟨jc_all ho ht r (jW_fix ho ht 1600 h1), BQ_jW hv 1600 h0⟩
end PUREONE
