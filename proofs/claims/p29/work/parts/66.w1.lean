/-! THE WAY: from a later body down to an earlier one, whatever the row of steps held before -/
section WAYX
variable {n : Nat} {E lE li : Nat → Nat → Bool}
theorem obS_iff (hlE : ∀ u i, u < n → (lE u i = true ↔ i < n ∧ E i u = true)) {bot : Nat} (hb : bot < n) (i : Nat) : obS lE bot i = true ↔ i < n ∧ (E i bot = true ∨ i = bot) := by
  unfold obS
  rw [Bool.or_eq_true, decide_eq_true_eq, hlE bot i hb]
  constructor
  · intro h
    rcases h with h | h
    · exact ⟨h.1, Or.inl h.2⟩
    · exact ⟨by rw [h]; exact hb, Or.inr h⟩
  · intro h
    rcases h.2 with h2 | h2
    · exact Or.inl ⟨h.1, h2⟩
    · exact Or.inr h2
theorem way_w {O : Nat → Bool} {h : Nat → Nat} {bot : Nat} (hn : n ≤ 40) (hT : TI n E) (hW : WY n li O h bot) (hlE : ∀ u i, u < n → li u i = true → E u i = true) (hOE : ∀ i, O i = true → i = bot ∨ E i bot = true) (hlk : ∀ u, u < n → li u bot = true → ∀ k, k < n → E u k = true → E k bot = false) {top : Nat} (ht : top < n) (ot : O top = true) (hne : ¬ top = bot) : ∃ (H : Nat) (x : Nat → Nat), 1 ≤ H ∧ H + lev n E bot ≤ lev n E top ∧ (∀ k, k ≤ H → x k < n) ∧ x 0 = top ∧ x H = bot ∧ (∀ k, k < H → li (x k) (x (k + 1)) = true) ∧ (li top bot = true → H = 1) ∧ ∀ sL : Nat → Int32, (∀ u, u < n → O u = true → sL u = nI (h u)) → ∀ idx, wyS n li O sL top idx = if idx ≤ H then some (x idx) else none := by
  obtain ⟨F, hF0⟩ : ∃ F : Nat → Int32, ∀ u, F u = if u < n ∧ O u = true then nI (h u) else (-1 : Int32) := ⟨_, fun _ => rfl⟩
  have hF : ∀ u, u < 40 → F u = if u < n ∧ O u = true then nI (h u) else (-1 : Int32) := fun u _ => hF0 u
  have hsF : ∀ u, u < n → O u = true → F u = nI (h u) := fun u hu ou => by rw [hF0, if_pos ⟨hu, ou⟩]
  have st : ∀ sL : Nat → Int32, (∀ u, u < n → O u = true → sL u = nI (h u)) → ∀ k, k ≤ h top → rwS li F top k < n ∧ O (rwS li F top k) = true ∧ h (rwS li F top k) + k = h top ∧ wyS n li O sL top k = some (rwS li F top k) := fun sL hs k hk => by
    obtain ⟨x, h1, h2, h3, h4, h5⟩ := wy_both (li := li) hW hn (fun _ _ => rfl) hs hF ht ot k hk
    rw [h5]
    exact ⟨h1, h2, h3, h4⟩
  have sF := st F hsF
  have hp : ∀ k, k < h top → li (rwS li F top k) (rwS li F top (k + 1)) = true := fun k hk => by
    obtain ⟨h1, h2, h3, -⟩ := sF k (by omega)
    obtain ⟨v, c1, c2, c3, c4, c5⟩ := wy_step (li := li) hW hn (fun _ _ => rfl) hsF hF h1 h2 (by omega)
    have e : rwS li F top (k + 1) = v := by rw [rwS, c5]; rfl
    rw [e]
    have c6 : ((li (rwS li F top k) v && O v) && decide (F v = F (rwS li F top k) - nI 1)) = true := (fst1_some c4).2.1
    rw [Bool.and_eq_true, Bool.and_eq_true] at c6
    exact c6.1.1
  have hend : rwS li F top (h top) = bot := by
    obtain ⟨h1, h2, h3, -⟩ := sF (h top) (Nat.le_refl _)
    exact hW.2.2.2.2.1.2.2.2 _ h1 h2 (by omega)
  have hlev : ∀ k, k ≤ h top → lev n E (rwS li F top k) + k ≤ lev n E top := by
    intro k
    induction k with
    | zero => intro _; exact Nat.le_refl _
    | succ k ih =>
      intro hk
      have i1 := ih (by omega)
      have i2 := lev_up hT hn (sF k (by omega)).1 (sF (k + 1) hk).1 (hlE _ _ (sF k (by omega)).1 (hp k (by omega)))
      omega
  have h1 : 1 ≤ h top := by
    by_cases c : h top = 0
    · exact absurd (hW.2.2.2.2.1.2.2.2 top ht ot c) hne
    · omega
  refine ⟨h top, rwS li F top, h1, ?_, fun k hk => (sF k hk).1, rfl, hend, hp, fun hl => ?_, fun sL hs idx => ?_⟩
  · have q := hlev (h top) (Nat.le_refl _)
    rw [hend] at q
    omega
  · by_cases c : h top = 1
    · exact c
    · exfalso
      have p0 : li top (rwS li F top 1) = true := hp 0 (by omega)
      obtain ⟨a1, a2, a3, -⟩ := sF 1 (by omega)
      rcases hOE _ a2 with q | q
      · rw [q] at a3
        have := hW.2.2.2.2.1.2.2.1
        omega
      · exact bt_f q (hlk top ht hl _ a1 (hlE _ _ ht p0))
  · by_cases c : idx ≤ h top
    · rw [if_pos c]; exact (st sL hs idx c).2.2.2
    · rw [if_neg c]; exact wy_end (li := li) hW hn (fun _ _ => rfl) hs hF ht ot (by omega)
theorem way_x (hn : n ≤ 40) (hT : TI n E) (hEn : ∀ u i, u < n → E u i = true → i < n) (hlE : ∀ u i, u < n → (lE u i = true ↔ i < n ∧ E i u = true)) (hl : ∀ u i, u < n → (li u i = true ↔ E u i = true ∧ ∀ k, k < n → E u k = true → E k i = false)) {top bot : Nat} (ht : top < n) (hb : bot < n) (h : E top bot = true) : ∃ (H : Nat) (x : Nat → Nat), 1 ≤ H ∧ H + lev n E bot ≤ lev n E top ∧ (∀ k, k ≤ H → x k < n) ∧ x 0 = top ∧ x H = bot ∧ (∀ k, k < H → li (x k) (x (k + 1)) = true) ∧ (li top bot = true → H = 1) ∧ ∀ z idx, wyR n li E lE z top bot idx = if idx ≤ H then some (x idx) else none := by
  have hO := obS_iff hlE hb
  obtain ⟨hW, hTO⟩ := WY_of (O := obS lE bot) hn hT hEn hl hb hO
  have ot : obS lE bot top = true := (hO top).mpr ⟨ht, Or.inl h⟩
  obtain ⟨H, x, a1, a2, a3, a4, a5, a6, a7, a8⟩ := way_w hn hT hW (fun u i hu q => ((hl u i hu).mp q).1) (fun i q => ((hO i).mp q).2.symm) (fun u hu q => ((hl u bot hu).mp q).2) ht ot (fun e => by rw [e, hT.2 bot hb] at h; cases h)
  exact ⟨H, x, a1, a2, a3, a4, a5, a6, a7, fun z idx => by rw [wyR_y ot]; exact a8 _ (fun u _ hu => rk_fin hn (fun u hu => ((hO u).mp hu).1) hTO hu) idx⟩
theorem way_no (hlE : ∀ u i, u < n → (lE u i = true ↔ i < n ∧ E i u = true)) {top bot : Nat} (hb : bot < n) (hne : ¬ top = bot) (h : E top bot = false) (z : Nat → Int32) (idx : Nat) : wyR n li E lE z top bot idx = none := by
  refine wyR_n ?_
  cases e : obS lE bot top with
  | false => rfl
  | true =>
    rcases ((obS_iff hlE hb top).mp e).2 with q | q
    · exact absurd q (by rw [h]; exact Bool.false_ne_true)
    · exact absurd q hne
end WAYX
