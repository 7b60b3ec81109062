/-! PURE, 5: the longest way -/
section PUREFIVE
variable {n to : Nat} {E lE li lj : Nat → Nat → Bool} {O : Nat → Bool} {h : Nat → Nat} {F G : Nat → Int32} {sL : Nat → Int32}
def m1 (a : Nat) : Int32 := nI a - nI 1
theorem m1_0 : m1 0 = (-1 : Int32) := by decide +kernel
theorem m1_s (a : Nat) : m1 (a + 1) = nI a := nI_subc a 1
theorem m1_i {a : Nat} (ha : a < 2000) : (m1 a).toInt = (a : Int) - 1 := pk_sub_toInt (by omega) (by decide)
theorem m1_inj {a b : Nat} (ha : a < 2000) (hb : b < 2000) : m1 a = m1 b ↔ a = b := by
  rw [← Int32.toInt_inj, m1_i ha, m1_i hb]
  omega
/-- what the links, the set of bodies on ways to one, and their steps are to each other -/
def WY (n : Nat) (li : Nat → Nat → Bool) (O : Nat → Bool) (h : Nat → Nat) (to : Nat) : Prop := (∀ u, u < n → li u u = false) ∧ (∀ u v, u < n → v < n → li u v = true → O v = true → O u = true ∧ h v + 1 ≤ h u) ∧ (∀ u, u < n → O u = true → 0 < h u → ∃ v, v < n ∧ li u v = true ∧ O v = true ∧ h v + 1 = h u) ∧ (∀ u, u < n → h u < n) ∧ (to < n ∧ O to = true ∧ h to = 0 ∧ ∀ u, u < n → O u = true → h u = 0 → u = to) ∧ (∀ u v, u < n → li u v = true → v < n)
theorem fst1_ext {p : Nat → Bool} {k m : Nat} (hk : k ≤ m) (h : ∀ i, k ≤ i → i < m → p i = false) : fst1 p m = fst1 p k := by
  obtain ⟨d, rfl⟩ : ∃ d, m = k + d := ⟨m - k, by omega⟩
  induction d with
  | zero => rfl
  | succ d ih =>
    have e := ih (by omega) (fun i h1 h2 => h i h1 (by omega))
    show fst1 p ((k + d) + 1) = _
    rw [fst1, e, h (k + d) (by omega) (by omega)]
    cases fst1 p k <;> rfl
theorem wy_step (hW : WY n lj O h to) (hn : n ≤ 40) (hl : ∀ u, u < n → li u = lj u) (hs : ∀ u, u < n → O u = true → sL u = nI (h u)) (hF : ∀ u, u < 40 → F u = if u < n ∧ O u = true then nI (h u) else (-1 : Int32)) {x : Nat} (hx : x < n) (ox : O x = true) (hp : 0 < h x) : ∃ v, v < n ∧ O v = true ∧ h v + 1 = h x ∧ nxW n (fun i => li x i && O i) sL x = some v ∧ fst1 (rwN lj F x) 40 = some v := by
  obtain ⟨wa, wb, wc, wd, we, wf⟩ := hW
  have hxn := wd x hx
  have e1 : nI (h x) - nI 1 = nI (h x - 1) := pk_sub hp
  have e2 : F x = nI (h x) := by rw [hF x (by omega), if_pos ⟨hx, ox⟩]
  have e3 := hs x hx ox
  have hP : ∀ k, k < n → ((li x k && O k) && decide (sL k = sL x - nI 1)) = rwN lj F x k := by
    intro k hk
    unfold rwN
    rw [hl x hx]
    cases lj x k with
    | false => rfl
    | true =>
      rw [Bool.true_and, Bool.true_and, e2, e3, hF k (by omega)]
      cases e : O k with
      | true =>
        rw [if_pos ⟨hk, rfl⟩, hs k hk e, Bool.true_and]
      | false =>
        rw [if_neg (fun q => Bool.false_ne_true q.2), Bool.false_and, e1]
        refine (decide_eq_false (fun q => ?_)).symm
        rw [← m1_0, ← m1_s] at q
        exact absurd ((m1_inj (by omega) (by omega)).mp q) (by omega)
  have hP2 : fst1 (rwN lj F x) 40 = nxW n (fun i => li x i && O i) sL x := by
    rw [fst1_ext hn (fun i h1 h2 => ?_)]
    · exact (fst1_cong (fun k hk => hP k hk)).symm
    · unfold rwN
      cases e : lj x i with
      | false => rfl
      | true => exact absurd (wf x i hx e) (by omega)
  obtain ⟨v0, b1, b2, b3, b4⟩ := wc x hx ox hp
  have hv0 : ((li x v0 && O v0) && decide (sL v0 = sL x - nI 1)) = true := by
    rw [hl x hx, b2, b3, hs v0 b1 b3, e3, e1, decide_eq_true (by rw [show h x - 1 = h v0 by omega])]
    rfl
  cases e : nxW n (fun i => li x i && O i) sL x with
  | none => exact absurd (fst1_none.mp e v0 b1) (by show ¬ ((li x v0 && O v0) && decide (sL v0 = sL x - nI 1)) = false; rw [hv0]; exact Bool.noConfusion)
  | some v =>
    obtain ⟨c1, c2, -⟩ := fst1_some e
    have c2 : ((li x v && O v) && decide (sL v = sL x - nI 1)) = true := c2
    rw [Bool.and_eq_true, Bool.and_eq_true, decide_eq_true_eq] at c2
    have c3 := c2.2
    have c4 := wd v c1
    rw [hs v c1 c2.1.2, e3, e1, nI_eq (by omega) (by omega)] at c3
    exact ⟨v, c1, c2.1.2, by omega, rfl, by rw [hP2, e]⟩
theorem wy_both (hW : WY n lj O h to) (hn : n ≤ 40) (hl : ∀ u, u < n → li u = lj u) (hs : ∀ u, u < n → O u = true → sL u = nI (h u)) (hF : ∀ u, u < 40 → F u = if u < n ∧ O u = true then nI (h u) else (-1 : Int32)) {top : Nat} (ht : top < n) (ot : O top = true) : ∀ k, k ≤ h top → ∃ x, x < n ∧ O x = true ∧ h x + k = h top ∧ wyS n li O sL top k = some x ∧ rwS lj F top k = x
  | 0, _ => ⟨top, ht, ot, rfl, rfl, rfl⟩
  | k + 1, hk => by
    obtain ⟨x, h1, h2, h3, h4, h5⟩ := wy_both hW hn hl hs hF ht ot k (by omega)
    obtain ⟨v, c1, c2, c3, c4, c5⟩ := wy_step hW hn hl hs hF h1 h2 (by omega)
    refine ⟨v, c1, c2, by omega, ?_, ?_⟩
    · rw [wyS, h4]
      exact c4
    · rw [rwS, h5, c5]
      rfl
theorem wy_end (hW : WY n lj O h to) (hn : n ≤ 40) (hl : ∀ u, u < n → li u = lj u) (hs : ∀ u, u < n → O u = true → sL u = nI (h u)) (hF : ∀ u, u < 40 → F u = if u < n ∧ O u = true then nI (h u) else (-1 : Int32)) {top : Nat} (ht : top < n) (ot : O top = true) {k : Nat} (hk : h top < k) : wyS n li O sL top k = none := by
  obtain ⟨x, h1, h2, h3, h4, h5⟩ := wy_both hW hn hl hs hF ht ot (h top) (Nat.le_refl _)
  obtain ⟨wa, wb, wc, wd, we, wf⟩ := hW
  refine wyS_none (k := h top + 1) ?_ hk
  rw [wyS, h4]
  refine fst1_none.mpr (fun i hi => ?_)
  show ((li x i && O i) && decide (sL i = sL x - nI 1)) = false
  rw [hl x h1]
  cases e1 : lj x i with
  | false => rfl
  | true =>
    cases e2 : O i with
    | false => rfl
    | true => exact absurd (wb x i h1 hi e1 e2).2 (by omega)
theorem WY_of (hn : n ≤ 40) (hT : TI n E) (hEn : ∀ u i, u < n → E u i = true → i < n) (hl : ∀ u i, u < n → (li u i = true ↔ E u i = true ∧ ∀ k, k < n → E u k = true → E k i = false)) (hto : to < n) (hO : ∀ i, O i = true ↔ i < n ∧ (E i to = true ∨ i = to)) : WY n li O (lev n (fun u v => E u v && O v)) to ∧ TI n (fun u v => E u v && O v) := by
  have hTG : TI n (fun u v => E u v && O v) := by
    refine ⟨fun u v w hu hv hw h1 h2 => ?_, fun u hu => ?_⟩
    · have h1 : (E u v && O v) = true := h1
      have h2 : (E v w && O w) = true := h2
      show (E u w && O w) = true
      rw [Bool.and_eq_true] at h1 h2 ⊢
      exact ⟨hT.1 u v w hu hv hw h1.1 h2.1, h2.2⟩
    · show (E u u && O u) = false
      rw [hT.2 u hu]
      rfl
  have mk : ∀ {u v}, E u v = true → O v = true → (fun u v => E u v && O v) u v = true := fun h1 h2 => by
    show (E _ _ && O _) = true
    rw [h1, h2]
    rfl
  have un : ∀ {u v}, (fun u v => E u v && O v) u v = true → E u v = true ∧ O v = true := fun h => by
    have h : (E _ _ && O _) = true := h
    rwa [Bool.and_eq_true] at h
  have Oup : ∀ u v, u < n → v < n → E u v = true → O v = true → O u = true := fun u v hu hv h1 h2 => by
    refine (hO u).mpr ⟨hu, Or.inl ?_⟩
    rcases ((hO v).mp h2).2 with q | q
    · exact hT.1 u v to hu hv hto h1 q
    · rw [← q]; exact h1
  have Oto : O to = true := (hO to).mpr ⟨hto, Or.inr rfl⟩
  refine ⟨⟨fun u hu => ?_, fun u v hu hv h1 h2 => ?_, fun u hu ou hp => ?_, fun u hu => lev_lt hTG hu, ⟨hto, Oto, ?_, fun u hu ou h0 => ?_⟩, fun u v hu h1 => hEn u v hu ((hl u v hu).mp h1).1⟩, hTG⟩
  · cases e : li u u with
    | false => rfl
    | true => exact absurd ((hl u u hu).mp e).1 (by rw [hT.2 u hu]; exact Bool.false_ne_true)
  · have q := ((hl u v hu).mp h1).1
    exact ⟨Oup u v hu hv q h2, lev_up hTG hn hu hv (mk q h2)⟩
  · obtain ⟨v, b1, b2, b3⟩ := lev_dn hTG hn hu hp
    obtain ⟨b4, b5⟩ := un b2
    refine ⟨v, b1, (hl u v hu).mpr ⟨b4, fun k hk h1 => ?_⟩, b5, b3⟩
    cases e : E k v with
    | false => rfl
    | true =>
      have o := Oup k v hk b1 e b5
      have a1 := lev_up hTG hn hu hk (mk h1 o)
      have a2 := lev_up hTG hn hk b1 (mk e b5)
      omega
  · by_cases c : lev n (fun u v => E u v && O v) to = 0
    · exact c
    · obtain ⟨v, b1, b2, b3⟩ := lev_dn hTG hn hto (by omega)
      obtain ⟨b4, b5⟩ := un b2
      exfalso
      rcases ((hO v).mp b5).2 with q | q
      · exact bt_f (hT.1 to v to hto b1 hto b4 q) (hT.2 to hto)
      · rw [q] at b4
        exact bt_f b4 (hT.2 to hto)
  · rcases ((hO u).mp ou).2 with q | q
    · have a1 := lev_up hTG hn hu hto (mk q Oto)
      omega
    · exact q
end PUREFIVE
