/-! PURE, 5: the longest way -/
section PUREFIVE
variable {n to : Nat} {E lE li lj : Nat → Nat → Bool} {O : Nat → Bool} {h : Nat → Nat} {F G : Nat → Int32} {sL : Nat → Int32}
def m1 (a : Nat) : Int32 := nI a - nI 1
theorem m1_0 : m1 0 = (-1 : Int32) := by decide +kernel
theorem m1_s (a : Nat) : m1 (a + 1) = nI a := nI_subc a 1
theorem m1_i {a : Nat} (ha : a < 2000) : (m1 a).toInt = (a : Int) - 1 := pk_sub_toInt (by omega) (by decide)
theorem m1_inj {a b : Nat} (ha : a < 2000) (hb : b < 2000) : m1 a = m1 b ↔ a = b := by
  rw [← Int32.toInt_inj, m1_i ha, m1_i hb]
  omega
theorem m1_lt {a b : Nat} (ha : a < 2000) (hb : b < 2000) : m1 a < m1 b ↔ a < b := by
  rw [Int32.lt_iff_toInt_lt, m1_i ha, m1_i hb]
  omega
theorem m1_max {a b : Nat} (ha : a < 2000) (hb : b < 2000) : imax (m1 a) (m1 b) = m1 (max a b) := by
  unfold imax
  by_cases c : a < b
  · rw [if_pos ((m1_lt ha hb).mpr c), Nat.max_eq_right (Nat.le_of_lt c)]
  · rw [if_neg (fun q => c ((m1_lt ha hb).mp q)), Nat.max_eq_left (Nat.le_of_not_lt c)]
theorem m1_n {a : Nat} (ha : a < 2000) : m1 a = (-1 : Int32) ↔ a = 0 := by
  rw [← m1_0]
  exact m1_inj ha (by decide)
theorem m1_inc (a : Nat) : m1 a + nI 1 = m1 (a + 1) := by
  rw [m1_s]
  exact Int32.sub_add_cancel _ _
theorem fr1_eq {u : Nat} {g : Nat → Nat} (hu : u < n) (hE : li u u = false) (hF : ∀ v, v < n → F v = m1 (g v)) (hg : ∀ v, v < n → g v < 900) : ∀ k, k ≤ n → fr1 li u F k = va_up F u (m1 (max (g u) (supN (fun v => li u v && decide (0 < g v)) (fun v => g v + 1) k))) ∧ supN (fun v => li u v && decide (0 < g v)) (fun v => g v + 1) k ≤ 1000
  | 0, _ => by
    refine ⟨?_, Nat.zero_le _⟩
    show F = va_up F u (m1 (max (g u) 0))
    rw [Nat.max_eq_left (Nat.zero_le _), ← hF u hu, up_id]
  | k + 1, hk => by
    obtain ⟨ih, ih2⟩ := fr1_eq hu hE hF hg k (by omega)
    have h1 := hg u hu
    have h2 := hg k (by omega)
    rw [fr1, ih, supN]
    by_cases c : li u k = true
    · have hne : ¬ k = u := fun e => by rw [e] at c; exact bt_f c hE
      rw [up_n _ _ hne, hF k (by omega), up_s]
      by_cases c0 : 0 < g k
      · have e1 : (li u k && decide (0 < g k)) = true := by rw [c, decide_eq_true c0]; rfl
        rw [if_pos ⟨c, fun q => absurd ((m1_n (by omega)).mp q) (by omega)⟩, if_pos e1]
        refine ⟨?_, by omega⟩
        rw [m1_inc, m1_max (by omega) (by omega), up_up, Nat.max_assoc]
      · have e1 : ¬ (li u k && decide (0 < g k)) = true := by rw [c, decide_eq_false c0]; exact Bool.false_ne_true
        rw [if_neg (fun q => q.2 ((m1_n (by omega)).mpr (by omega))), if_neg e1]
        exact ⟨rfl, ih2⟩
    · have e1 : ¬ (li u k && decide (0 < g k)) = true := by rw [(Bool.not_eq_true _).mp c]; exact Bool.false_ne_true
      rw [if_neg (fun q => c q.1), if_neg e1]
      exact ⟨rfl, ih2⟩
/-- what the links, the set of bodies on ways to one, and their steps are to each other -/
def WY (n : Nat) (li : Nat → Nat → Bool) (O : Nat → Bool) (h : Nat → Nat) (to : Nat) : Prop := (∀ u, u < n → li u u = false) ∧ (∀ u v, u < n → v < n → li u v = true → O v = true → O u = true ∧ h v + 1 ≤ h u) ∧ (∀ u, u < n → O u = true → 0 < h u → ∃ v, v < n ∧ li u v = true ∧ O v = true ∧ h v + 1 = h u) ∧ (∀ u, u < n → h u < n) ∧ (to < n ∧ O to = true ∧ h to = 0 ∧ ∀ u, u < n → O u = true → h u = 0 → u = to) ∧ (∀ u v, u < n → li u v = true → v < n)
def FQ (n : Nat) (O : Nat → Bool) (h : Nat → Nat) (G : Nat → Int32) (t k : Nat) (F : Nat → Int32) : Prop := ∃ g : Nat → Nat, (∀ u, u < n → F u = m1 (g u)) ∧ (∀ u, u < n → O u = false → g u = 0) ∧ (∀ u, u < n → g u ≤ h u + 1) ∧ (∀ u, u < n → O u = true → h u ≤ t → g u = h u + 1) ∧ (∀ u, u < k → O u = true → h u ≤ t + 1 → g u = h u + 1) ∧ ∀ u, n ≤ u → F u = G u
theorem fr2_eq (hW : WY n li O h to) (hn : n ≤ 40) {t : Nat} (hF : FQ n O h G t 0 F) : ∀ k, k ≤ n → FQ n O h G t k (fr2 li n F k)
  | 0, _ => hF
  | k + 1, hk => by
    obtain ⟨g, h1, h2, h3, h4, h5, h6⟩ := fr2_eq hW hn hF k (by omega)
    obtain ⟨wa, wb, wc, wd, we, wf⟩ := hW
    have hkn : k < n := by omega
    have hb : ∀ v, v < n → g v < 900 := fun v hv => by
      have := h3 v hv
      have := wd v hv
      omega
    obtain ⟨e1, e2⟩ := fr1_eq hkn (wa k hkn) h1 hb n (Nat.le_refl n)
    have ho : ∀ v, v < n → (li k v && decide (0 < g v)) = true → O v = true ∧ O k = true ∧ h v + 1 ≤ h k ∧ 0 < g v := by
      intro v hv q
      rw [Bool.and_eq_true, decide_eq_true_eq] at q
      have q3 : O v = true := by
        cases e : O v with
        | true => rfl
        | false => exact absurd (h2 v hv e) (by omega)
      obtain ⟨q4, q5⟩ := wb k v hkn hv q.1 q3
      exact ⟨q3, q4, q5, q.2⟩
    have hS : supN (fun v => li k v && decide (0 < g v)) (fun v => g v + 1) n ≤ h k + 1 := (supN_le n).mpr (fun v hv q => by
      obtain ⟨q1, q2, q3, q4⟩ := ho v hv q
      have q5 := h3 v hv
      show g v + 1 ≤ _
      omega)
    have h3k := h3 k hkn
    have hK : O k = true → h k ≤ t + 1 → max (g k) (supN (fun v => li k v && decide (0 < g v)) (fun v => g v + 1) n) = h k + 1 := by
      intro c ht
      by_cases c0 : h k = 0
      · have q1 := h4 k hkn c (by omega)
        omega
      · obtain ⟨v, b1, b2, b3, b4⟩ := wc k hkn c (by omega)
        have b5 := h4 v b1 b3 (by omega)
        have b6 : g v + 1 ≤ supN (fun v => li k v && decide (0 < g v)) (fun v => g v + 1) n := supN_ge (p := fun v => li k v && decide (0 < g v)) (g := fun v => g v + 1) b1 (by show (li k v && decide (0 < g v)) = true; rw [b2, decide_eq_true (by omega)]; rfl)
        omega
    rw [fr2, e1]
    refine ⟨va_up g k (max (g k) (supN (fun v => li k v && decide (0 < g v)) (fun v => g v + 1) n)), fun u hu => ?_, fun u hu c => ?_, fun u hu => ?_, fun u hu c ht => ?_, fun u hu c ht => ?_, fun u hu => ?_⟩
    · by_cases q : u = k
      · rw [q, up_s, up_s]
      · rw [up_n _ _ q, up_n _ _ q]
        exact h1 u hu
    · by_cases q : u = k
      · rw [q] at c
        have c1 := h2 k hkn c
        have c2 : supN (fun v => li k v && decide (0 < g v)) (fun v => g v + 1) n ≤ 0 := (supN_le n).mpr (fun v hv q => absurd (ho v hv q).2.1 (by rw [c]; exact Bool.false_ne_true))
        rw [q, up_s]
        omega
      · rw [up_n _ _ q]
        exact h2 u hu c
    · by_cases q : u = k
      · rw [q, up_s]
        omega
      · rw [up_n _ _ q]
        exact h3 u hu
    · by_cases q : u = k
      · rw [q] at c ht
        rw [q, up_s]
        exact hK c (by omega)
      · rw [up_n _ _ q]
        exact h4 u hu c ht
    · by_cases q : u = k
      · rw [q] at c ht
        rw [q, up_s]
        exact hK c ht
      · rw [up_n _ _ q]
        exact h5 u (by omega) c ht
    · rw [up_n _ _ (show ¬ u = k by omega)]
      exact h6 u hu
theorem fr3_eq (hW : WY n li O h to) (hn : n ≤ 40) (hF : FQ n O h G 0 0 F) : ∀ t, FQ n O h G t 0 (fr3 li n F t)
  | 0 => hF
  | t + 1 => by
    obtain ⟨g, h1, h2, h3, h4, h5, h6⟩ := fr2_eq hW hn (fr3_eq hW hn hF t) n (Nat.le_refl n)
    rw [fr3]
    exact ⟨g, h1, h2, h3, h5, fun u hu => absurd hu (Nat.not_lt_zero u), h6⟩
theorem frT_eq (hW : WY n li O h to) (hn : n ≤ 40) {u : Nat} (hu : u < 40) : frT li n to u = if u < n ∧ O u = true then nI (h u) else (-1 : Int32) := by
  have hW' := hW
  obtain ⟨wa, wb, wc, wd, ⟨we1, we2, we3, we4⟩, wf⟩ := hW'
  have h0 : FQ n O h (pre (fr0 to) (fun _ => nI 0) 40) 0 0 (pre (fr0 to) (fun _ => nI 0) 40) := by
    refine ⟨fun u => if u = to then 1 else 0, fun u hu => ?_, fun u hu c => ?_, fun u hu => ?_, fun u hu c ht => ?_, fun u hu => absurd hu (Nat.not_lt_zero u), fun _ _ => rfl⟩
    · rw [pre_in (by omega), fr0]
      show (if u = to then nI 0 else (-1 : Int32)) = m1 (if u = to then 1 else 0)
      by_cases q : u = to
      · rw [if_pos q, if_pos q]
        exact (m1_s 0).symm
      · rw [if_neg q, if_neg q]
        exact m1_0.symm
    · show (if u = to then 1 else 0) = 0
      exact if_neg (fun q => by rw [q] at c; exact bt_f we2 c)
    · show (if u = to then 1 else 0) ≤ h u + 1
      split <;> omega
    · show (if u = to then 1 else 0) = h u + 1
      rw [if_pos (we4 u hu c (by omega))]
      omega
  obtain ⟨g, h1, h2, h3, h4, h5, h6⟩ := fr3_eq hW hn h0 n
  unfold frT
  by_cases c : u < n
  · cases e : O u with
    | true =>
      have := wd u c
      rw [if_pos ⟨c, rfl⟩, h1 u c, h4 u c e (by omega), m1_s]
    | false => rw [if_neg (fun q => Bool.false_ne_true q.2), h1 u c, h2 u c e, m1_0]
  · rw [if_neg (fun q => c q.1), h6 u (by omega), pre_in hu, fr0, if_neg (by omega)]
theorem fst1_ext {p : Nat → Bool} {k m : Nat} (hk : k ≤ m) (h : ∀ i, k ≤ i → i < m → p i = false) : fst1 p m = fst1 p k := by
  obtain ⟨d, rfl⟩ : ∃ d, m = k + d := ⟨m - k, by omega⟩
  induction d with
  | zero => rfl
  | succ d ih =>
    have e := ih (by omega) (fun i h1 h2 => h i h1 (by omega))
    show fst1 p ((k + d) + 1) = _
    rw [fst1, e, h (k + d) (by omega) (by omega)]
    cases fst1 p k <;> rfl
theorem wy_step (hW : WY n lj O h to) (hn : n ≤ 40) (hl : ∀ u, u < n → li u = lj u) (hs : ∀ u, u < n → O u = true → sL u = nI (h u)) (hF : ∀ u, u < 40 → F u = if u < n ∧ O u = true then nI (h u) else (-1 : Int32)) {x : Nat} (hx : x < n) (ox : O x = true) (hp : 0 < h x) : ∃ v, v < n ∧ O v = true ∧ h v + 1 = h x ∧ nxW n (fun i => li x i && O i) sL x = some v ∧ fst1 (rwN lj F x) 40 = some v := by
  obtain ⟨wa, wb, wc, wd, we, wf⟩ := hW
  have hxn := wd x hx
  have e1 : nI (h x) - nI 1 = nI (h x - 1) := pk_sub hp
  have e2 : F x = nI (h x) := by rw [hF x (by omega), if_pos ⟨hx, ox⟩]
  have e3 := hs x hx ox
  have hP : ∀ k, k < n → ((li x k && O k) && decide (sL k = sL x - nI 1)) = rwN lj F x k := by
    intro k hk
    unfold rwN
    rw [hl x hx]
    cases lj x k with
    | false => rfl
    | true =>
      rw [Bool.true_and, Bool.true_and, e2, e3, hF k (by omega)]
      cases e : O k with
      | true =>
        rw [if_pos ⟨hk, rfl⟩, hs k hk e, Bool.true_and]
      | false =>
        rw [if_neg (fun q => Bool.false_ne_true q.2), Bool.false_and, e1]
        refine (decide_eq_false (fun q => ?_)).symm
        rw [← m1_0, ← m1_s] at q
        exact absurd ((m1_inj (by omega) (by omega)).mp q) (by omega)
  have hP2 : fst1 (rwN lj F x) 40 = nxW n (fun i => li x i && O i) sL x := by
    rw [fst1_ext hn (fun i h1 h2 => ?_)]
    · exact (fst1_cong (fun k hk => hP k hk)).symm
    · unfold rwN
      cases e : lj x i with
      | false => rfl
      | true => exact absurd (wf x i hx e) (by omega)
  obtain ⟨v0, b1, b2, b3, b4⟩ := wc x hx ox hp
  have hv0 : ((li x v0 && O v0) && decide (sL v0 = sL x - nI 1)) = true := by
    rw [hl x hx, b2, b3, hs v0 b1 b3, e3, e1, decide_eq_true (by rw [show h x - 1 = h v0 by omega])]
    rfl
  cases e : nxW n (fun i => li x i && O i) sL x with
  | none => exact absurd (fst1_none.mp e v0 b1) (by show ¬ ((li x v0 && O v0) && decide (sL v0 = sL x - nI 1)) = false; rw [hv0]; exact Bool.noConfusion)
  | some v =>
    obtain ⟨c1, c2, -⟩ := fst1_some e
    have c2 : ((li x v && O v) && decide (sL v = sL x - nI 1)) = true := c2
    rw [Bool.and_eq_true, Bool.and_eq_true, decide_eq_true_eq] at c2
    have c3 := c2.2
    have c4 := wd v c1
    rw [hs v c1 c2.1.2, e3, e1, nI_eq (by omega) (by omega)] at c3
    exact ⟨v, c1, c2.1.2, by omega, rfl, by rw [hP2, e]⟩
theorem wy_both (hW : WY n lj O h to) (hn : n ≤ 40) (hl : ∀ u, u < n → li u = lj u) (hs : ∀ u, u < n → O u = true → sL u = nI (h u)) (hF : ∀ u, u < 40 → F u = if u < n ∧ O u = true then nI (h u) else (-1 : Int32)) {top : Nat} (ht : top < n) (ot : O top = true) : ∀ k, k ≤ h top → ∃ x, x < n ∧ O x = true ∧ h x + k = h top ∧ wyS n li O sL top k = some x ∧ rwS lj F top k = x
  | 0, _ => ⟨top, ht, ot, rfl, rfl, rfl⟩
  | k + 1, hk => by
    obtain ⟨x, h1, h2, h3, h4, h5⟩ := wy_both hW hn hl hs hF ht ot k (by omega)
    obtain ⟨v, c1, c2, c3, c4, c5⟩ := wy_step hW hn hl hs hF h1 h2 (by omega)
    refine ⟨v, c1, c2, by omega, ?_, ?_⟩
    · rw [wyS, h4]
      exact c4
    · rw [rwS, h5, c5]
      rfl
theorem wy_end (hW : WY n lj O h to) (hn : n ≤ 40) (hl : ∀ u, u < n → li u = lj u) (hs : ∀ u, u < n → O u = true → sL u = nI (h u)) (hF : ∀ u, u < 40 → F u = if u < n ∧ O u = true then nI (h u) else (-1 : Int32)) {top : Nat} (ht : top < n) (ot : O top = true) {k : Nat} (hk : h top < k) : wyS n li O sL top k = none := by
  obtain ⟨x, h1, h2, h3, h4, h5⟩ := wy_both hW hn hl hs hF ht ot (h top) (Nat.le_refl _)
  obtain ⟨wa, wb, wc, wd, we, wf⟩ := hW
  refine wyS_none (k := h top + 1) ?_ hk
  rw [wyS, h4]
  refine fst1_none.mpr (fun i hi => ?_)
  show ((li x i && O i) && decide (sL i = sL x - nI 1)) = false
  rw [hl x h1]
  cases e1 : lj x i with
  | false => rfl
  | true =>
    cases e2 : O i with
    | false => rfl
    | true => exact absurd (wb x i h1 hi e1 e2).2 (by omega)
theorem WY_of (hn : n ≤ 40) (hT : TI n E) (hEn : ∀ u i, u < n → E u i = true → i < n) (hl : ∀ u i, u < n → (li u i = true ↔ E u i = true ∧ ∀ k, k < n → E u k = true → E k i = false)) (hto : to < n) (hO : ∀ i, O i = true ↔ i < n ∧ (E i to = true ∨ i = to)) : WY n li O (lev n (fun u v => E u v && O v)) to ∧ TI n (fun u v => E u v && O v) := by
  have hTG : TI n (fun u v => E u v && O v) := by
    refine ⟨fun u v w hu hv hw h1 h2 => ?_, fun u hu => ?_⟩
    · have h1 : (E u v && O v) = true := h1
      have h2 : (E v w && O w) = true := h2
      show (E u w && O w) = true
      rw [Bool.and_eq_true] at h1 h2 ⊢
      exact ⟨hT.1 u v w hu hv hw h1.1 h2.1, h2.2⟩
    · show (E u u && O u) = false
      rw [hT.2 u hu]
      rfl
  have mk : ∀ {u v}, E u v = true → O v = true → (fun u v => E u v && O v) u v = true := fun h1 h2 => by
    show (E _ _ && O _) = true
    rw [h1, h2]
    rfl
  have un : ∀ {u v}, (fun u v => E u v && O v) u v = true → E u v = true ∧ O v = true := fun h => by
    have h : (E _ _ && O _) = true := h
    rwa [Bool.and_eq_true] at h
  have Oup : ∀ u v, u < n → v < n → E u v = true → O v = true → O u = true := fun u v hu hv h1 h2 => by
    refine (hO u).mpr ⟨hu, Or.inl ?_⟩
    rcases ((hO v).mp h2).2 with q | q
    · exact hT.1 u v to hu hv hto h1 q
    · rw [← q]; exact h1
  have Oto : O to = true := (hO to).mpr ⟨hto, Or.inr rfl⟩
  refine ⟨⟨fun u hu => ?_, fun u v hu hv h1 h2 => ?_, fun u hu ou hp => ?_, fun u hu => lev_lt hTG hu, ⟨hto, Oto, ?_, fun u hu ou h0 => ?_⟩, fun u v hu h1 => hEn u v hu ((hl u v hu).mp h1).1⟩, hTG⟩
  · cases e : li u u with
    | false => rfl
    | true => exact absurd ((hl u u hu).mp e).1 (by rw [hT.2 u hu]; exact Bool.false_ne_true)
  · have q := ((hl u v hu).mp h1).1
    exact ⟨Oup u v hu hv q h2, lev_up hTG hn hu hv (mk q h2)⟩
  · obtain ⟨v, b1, b2, b3⟩ := lev_dn hTG hn hu hp
    obtain ⟨b4, b5⟩ := un b2
    refine ⟨v, b1, (hl u v hu).mpr ⟨b4, fun k hk h1 => ?_⟩, b5, b3⟩
    cases e : E k v with
    | false => rfl
    | true =>
      have o := Oup k v hk b1 e b5
      have a1 := lev_up hTG hn hu hk (mk h1 o)
      have a2 := lev_up hTG hn hk b1 (mk e b5)
      omega
  · by_cases c : lev n (fun u v => E u v && O v) to = 0
    · exact c
    · obtain ⟨v, b1, b2, b3⟩ := lev_dn hTG hn hto (by omega)
      obtain ⟨b4, b5⟩ := un b2
      exfalso
      rcases ((hO v).mp b5).2 with q | q
      · exact bt_f (hT.1 to v to hto b1 hto b4 q) (hT.2 to hto)
      · rw [q] at b4
        exact bt_f b4 (hT.2 to hto)
  · rcases ((hO u).mp ou).2 with q | q
    · have a1 := lev_up hTG hn hu hto (mk q Oto)
      omega
    · exact q
/-- both answer alike -/
theorem way_eq (hn : n ≤ 40) (hT : TI n E) (hEn : ∀ u i, u < n → E u i = true → i < n) (hlE : ∀ u i, u < n → (lE u i = true ↔ i < n ∧ E i u = true)) (hl : ∀ u, u < n → li u = lj u) (hlj : ∀ u i, u < n → (lj u i = true ↔ E u i = true ∧ ∀ k, k < n → E u k = true → E k i = false)) {top bot z : Nat} (ht : top < n) (hb : bot < n) (hz : z < 40) : oI (wyR n li E lE sL top bot z) = rwR lj (frT lj n bot) top z ∧ (¬ (frT lj n bot top = (-1 : Int32) ∨ frT lj n bot top < nI z) → ∀ k, k < z → ∃ v, fst1 (rwN lj (frT lj n bot) (rwS lj (frT lj n bot) top k)) 40 = some v) := by
  have hO : ∀ i, obS lE bot i = true ↔ i < n ∧ (E i bot = true ∨ i = bot) := by
    intro i
    unfold obS
    rw [Bool.or_eq_true, hlE bot i hb, decide_eq_true_eq]
    constructor
    · rintro (q | q)
      · exact ⟨q.1, Or.inl q.2⟩
      · exact ⟨by omega, Or.inr q⟩
    · rintro ⟨q1, q | q⟩
      · exact Or.inl ⟨q1, q⟩
      · exact Or.inr q
  obtain ⟨hW, hTG⟩ := WY_of hn hT hEn hlj hb hO
  have hF : ∀ u, u < 40 → frT lj n bot u = if u < n ∧ obS lE bot u = true then nI (lev n (fun u v => E u v && obS lE bot v) u) else (-1 : Int32) := fun u hu => frT_eq hW hn hu
  have hs : ∀ u, u < n → obS lE bot u = true → rkV n (obS lE bot) E sL 40 u = nI (lev n (fun u v => E u v && obS lE bot v) u) := fun u hu ou => rk_fin hn (fun v hv => ((hO v).mp hv).1) hTG ou
  generalize frT lj n bot = F at hF ⊢
  have hFt := hF top (by omega)
  cases e : obS lE bot top with
  | false =>
    rw [e, if_neg (fun q => Bool.false_ne_true q.2)] at hFt
    rw [wyR_n e]
    unfold rwR
    rw [if_pos (Or.inl hFt)]
    exact ⟨rfl, fun q => absurd (Or.inl hFt) q⟩
  | true =>
    rw [e, if_pos ⟨ht, rfl⟩] at hFt
    have hd := lev_lt hTG ht
    rw [wyR_y e]
    have hne : ¬ F top = (-1 : Int32) := fun q => by
      rw [hFt, ← m1_0, ← m1_s] at q
      exact absurd ((m1_inj (by omega) (by omega)).mp q) (by omega)
    by_cases c : z ≤ lev n (fun u v => E u v && obS lE bot v) top
    · have hnl : ¬ F top < nI z := by
        rw [hFt, nI_ltI (by omega) (by omega)]
        omega
      obtain ⟨x, h1, h2, h3, h4, h5⟩ := wy_both hW hn hl hs hF ht e z c
      refine ⟨?_, fun _ k hk => ?_⟩
      · rw [h4]
        unfold rwR
        rw [if_neg (fun q => q.elim hne hnl), h5]
        rfl
      · obtain ⟨x, h1, h2, h3, h4, h5⟩ := wy_both hW hn hl hs hF ht e k (by omega)
        obtain ⟨v, -, -, -, -, c5⟩ := wy_step hW hn hl hs hF h1 h2 (by omega)
        exact ⟨v, by rw [h5]; exact c5⟩
    · have hnl : F top < nI z := by
        rw [hFt, nI_ltI (by omega) (by omega)]
        omega
      rw [wy_end hW hn hl hs hF ht e (by omega)]
      unfold rwR
      rw [if_pos (Or.inr hnl)]
      exact ⟨rfl, fun q => absurd (Or.inr hnl) q⟩
end PUREFIVE
