/-! PURE, 4: levels -/
section PUREFOUR
variable {n m : Nat} {E F B : Nat → Nat → Bool} {p q : Nat → Bool} {g h : Nat → Nat}
def supN (p : Nat → Bool) (g : Nat → Nat) : Nat → Nat
  | 0 => 0
  | k + 1 => if p k = true then max (supN p g k) (g k) else supN p g k
theorem supN_le {B : Nat} : ∀ k, supN p g k ≤ B ↔ ∀ i, i < k → p i = true → g i ≤ B
  | 0 => ⟨fun _ i hi => absurd hi (Nat.not_lt_zero i), fun _ => Nat.zero_le B⟩
  | k + 1 => by
    have ih := supN_le (B := B) k
    rw [supN]
    constructor
    · intro h i hi hp
      rcases Nat.lt_succ_iff_lt_or_eq.mp hi with c | c
      · refine ih.mp ?_ i c hp
        split at h
        · omega
        · exact h
      · subst c
        rw [if_pos hp] at h
        omega
    · intro h
      have h1 := ih.mpr (fun i hi => h i (by omega))
      by_cases c : p k = true
      · rw [if_pos c]
        have h2 := h k (by omega) c
        omega
      · rw [if_neg c]
        exact h1
theorem supN_ge {k i : Nat} (hi : i < k) (hp : p i = true) : g i ≤ supN p g k := (supN_le k).mp (Nat.le_refl _) i hi hp
theorem supN_cong : ∀ k, (∀ i, i < k → p i = q i) → (∀ i, i < k → p i = true → g i = h i) → supN p g k = supN q h k
  | 0, _, _ => rfl
  | k + 1, h1, h2 => by
    have ih := supN_cong k (fun i hi => h1 i (by omega)) (fun i hi => h2 i (by omega))
    rw [supN, supN, ih, ← h1 k (by omega)]
    by_cases c : p k = true
    · rw [if_pos c, if_pos c, h2 k (by omega) c]
    · rw [if_neg c, if_neg c]
theorem supN_ex : ∀ k, 0 < supN p g k → ∃ i, i < k ∧ p i = true ∧ g i = supN p g k
  | 0, h0 => absurd h0 (Nat.lt_irrefl 0)
  | k + 1, h0 => by
    have ih := supN_ex k
    rw [supN] at h0 ⊢
    by_cases c : p k = true
    · rw [if_pos c] at h0 ⊢
      by_cases c2 : supN p g k ≤ g k
      · exact ⟨k, Nat.lt_succ_self k, c, (Nat.max_eq_right c2).symm⟩
      · obtain ⟨i, hi, h1, h2⟩ := ih (Nat.lt_of_le_of_lt (Nat.zero_le _) (Nat.lt_of_not_le c2))
        exact ⟨i, Nat.lt_succ_of_lt hi, h1, h2.trans (Nat.max_eq_left (Nat.le_of_not_le c2)).symm⟩
    · rw [if_neg c] at h0 ⊢
      obtain ⟨i, hi, h1, h2⟩ := ih h0
      exact ⟨i, by omega, h1, h2⟩
theorem cnt_sub : ∀ k, (∀ i, i < k → p i = true → q i = true) → cnt p k ≤ cnt q k
  | 0, _ => Nat.le_refl 0
  | k + 1, h => by
    have ih := cnt_sub k (fun i hi => h i (by omega))
    rw [cnt, cnt]
    by_cases c : p k = true
    · rw [if_pos c, if_pos (h k (by omega) c)]
      omega
    · rw [if_neg c]
      omega
theorem cnt_ltc : ∀ k, (∀ i, i < k → p i = true → q i = true) → (∃ i, i < k ∧ q i = true ∧ p i = false) → cnt p k < cnt q k
  | 0, _, ⟨i, hi, _⟩ => absurd hi (Nat.not_lt_zero i)
  | k + 1, h, ⟨i, hi, h1, h2⟩ => by
    rw [cnt, cnt]
    rcases Nat.lt_succ_iff_lt_or_eq.mp hi with c | c
    · have ih := cnt_ltc k (fun i hi => h i (by omega)) ⟨i, c, h1, h2⟩
      by_cases c : p k = true
      · rw [if_pos c, if_pos (h k (by omega) c)]
        omega
      · rw [if_neg c]
        omega
    · subst c
      have ih := cnt_sub i (fun j hj => h j (by omega))
      rw [if_pos h1, h2, if_neg Bool.false_ne_true]
      omega
theorem cnt_all : ∀ k, cnt (fun _ => true) k = k
  | 0 => rfl
  | k + 1 => by rw [cnt, cnt_all k, if_pos rfl]
theorem cnt_none : ∀ k, cnt p k = 0 → ∀ i, i < k → p i = false
  | 0, _, i, hi => absurd hi (Nat.not_lt_zero i)
  | k + 1, h, i, hi => by
    rw [cnt] at h
    by_cases c : p k = true
    · rw [if_pos c] at h
      omega
    · rcases Nat.lt_succ_iff_lt_or_eq.mp hi with c2 | c2
      · exact cnt_none k (by omega) i c2
      · subst c2
        exact (Bool.not_eq_true _).mp c
/-- transitive, and none before itself -/
def TI (n : Nat) (E : Nat → Nat → Bool) : Prop := (∀ u v w, u < n → v < n → w < n → E u v = true → E v w = true → E u w = true) ∧ ∀ u, u < n → E u u = false
def hh (n : Nat) (E : Nat → Nat → Bool) : Nat → Nat → Nat
  | 0, _ => 0
  | t + 1, u => supN (E u) (fun v => hh n E t v + 1) n
def lev (n : Nat) (E : Nat → Nat → Bool) (u : Nat) : Nat := hh n E 40 u
theorem TI_cnt (hT : TI n E) {u v : Nat} (hu : u < n) (hv : v < n) (h : E u v = true) : cnt (E v) n < cnt (E u) n := cnt_ltc n (fun w hw hvw => hT.1 u v w hu hv hw h hvw) ⟨v, hv, h, hT.2 v hv⟩
theorem TI_self (hT : TI n E) {u : Nat} (hu : u < n) : cnt (E u) n < n := by
  have h := cnt_ltc (p := E u) (q := fun _ => true) n (fun _ _ _ => rfl) ⟨u, hu, rfl, hT.2 u hu⟩
  rw [cnt_all] at h
  exact h
theorem hh_none {u : Nat} (h : ∀ v, v < n → E u v = false) : ∀ t, hh n E t u = 0
  | 0 => rfl
  | t + 1 => Nat.le_zero.mp ((supN_le n).mpr (fun v hv c => absurd c (by rw [h v hv]; exact Bool.false_ne_true)))
theorem hh_st (hT : TI n E) : ∀ c u, u < n → cnt (E u) n ≤ c → ∀ t t', c ≤ t → c ≤ t' → hh n E t u = hh n E t' u
  | 0, u, hu, hc, t, t', _, _ => by
    have h := cnt_none n (Nat.le_zero.mp hc)
    rw [hh_none h, hh_none h]
  | c + 1, u, hu, hc, t, t', ht, ht' => by
    obtain ⟨s, rfl⟩ : ∃ s, t = s + 1 := ⟨t - 1, by omega⟩
    obtain ⟨s', rfl⟩ : ∃ s', t' = s' + 1 := ⟨t' - 1, by omega⟩
    refine supN_cong n (fun _ _ => rfl) (fun v hv h => ?_)
    have h1 := TI_cnt hT hu hv h
    show hh n E s v + 1 = hh n E s' v + 1
    rw [hh_st hT c v hv (by omega) s s' (by omega) (by omega)]
theorem hh_le (hT : TI n E) : ∀ t u, u < n → hh n E t u ≤ cnt (E u) n
  | 0, _, _ => Nat.zero_le _
  | t + 1, u, hu => (supN_le n).mpr (fun v hv h => by
    have h1 := TI_cnt hT hu hv h
    have h2 := hh_le hT t v hv
    show hh n E t v + 1 ≤ _
    omega)
theorem lev_eq (hT : TI n E) (hn : n ≤ 40) {u : Nat} (hu : u < n) : lev n E u = supN (E u) (fun v => lev n E v + 1) n := by
  have h := cnt_le (E u) n
  exact hh_st hT 40 u hu (by omega) 40 41 (by omega) (by omega)
theorem lev_lt (hT : TI n E) {u : Nat} (hu : u < n) : lev n E u < n := Nat.lt_of_le_of_lt (hh_le hT 40 u hu) (TI_self hT hu)
theorem lev_up (hT : TI n E) (hn : n ≤ 40) {u v : Nat} (hu : u < n) (hv : v < n) (h : E u v = true) : lev n E v + 1 ≤ lev n E u := by
  rw [lev_eq hT hn hu]
  exact supN_ge (g := fun v => lev n E v + 1) hv h
theorem lev_dn (hT : TI n E) (hn : n ≤ 40) {u : Nat} (hu : u < n) (h : 0 < lev n E u) : ∃ v, v < n ∧ E u v = true ∧ lev n E v + 1 = lev n E u := by
  rw [lev_eq hT hn hu] at h ⊢
  exact supN_ex n h
theorem hh_cong (h : ∀ u v, u < n → v < n → E u v = F u v) : ∀ t u, u < n → hh n E t u = hh n F t u
  | 0, _, _ => rfl
  | t + 1, u, hu => supN_cong n (fun v hv => h u v hu hv) (fun v hv _ => by show hh n E t v + 1 = hh n F t v + 1; rw [hh_cong h t v hv])
theorem lev_cong (h : ∀ u v, u < n → v < n → E u v = F u v) {u : Nat} (hu : u < n) : lev n E u = lev n F u := hh_cong h 40 u hu
/-- the class's rounds -/
theorem rk_inv {sT : Nat → Bool} {rs : Nat → Int32} (hm : m ≤ 40) (hs : ∀ u, sT u = true → u < m) (hT : TI m (fun u v => B u v && sT v)) : ∀ t, (∀ u, rkD m sT B t u = (sT u && decide (lev m (fun u v => B u v && sT v) u < t))) ∧ ∀ u, sT u = true → lev m (fun u v => B u v && sT v) u < t → rkV m sT B rs t u = nI (lev m (fun u v => B u v && sT v) u)
  | 0 => ⟨fun u => by show false = _; rw [decide_eq_false (Nat.not_lt_zero _), Bool.and_false], fun u _ h => absurd h (Nat.not_lt_zero _)⟩
  | t + 1 => by
    obtain ⟨h1, h2⟩ := rk_inv (rs := rs) hm hs hT t
    have hit : ∀ u, hitF sT B (rkD m sT B t) u = (sT u && decide (lev m (fun u v => B u v && sT v) u = t)) := by
      intro u
      unfold hitF
      cases e : sT u with
      | false => rw [Bool.false_and, Bool.false_and, Bool.false_and]
      | true =>
        have hu := hs u e
        rw [Bool.true_and, Bool.true_and, h1 u, e, Bool.true_and]
        by_cases c : lev m (fun u v => B u v && sT v) u < t
        · rw [decide_eq_true c, decide_eq_false (by omega)]
          rfl
        · rw [decide_eq_false c, Bool.not_false, Bool.true_and]
          by_cases c2 : lev m (fun u v => B u v && sT v) u = t
          · rw [decide_eq_true c2, dj_iff]
            intro i hi
            cases e2 : B u i with
            | false => rfl
            | true =>
              rw [Bool.true_and, h1 i]
              cases e3 : sT i with
              | false => rfl
              | true =>
                have h3 := lev_up hT hm hu (hs i e3) (show (B u i && sT i) = true by rw [e2, e3]; rfl)
                rw [Bool.true_and, Bool.true_and, decide_eq_true (by omega)]
                rfl
          · rw [decide_eq_false c2, Bool.eq_false_iff]
            intro c3
            have c3 := dj_iff.mp c3
            apply c2
            have h3 : lev m (fun u v => B u v && sT v) u ≤ t := by
              rw [lev_eq hT hm hu]
              refine (supN_le m).mpr (fun v hv h => ?_)
              rw [Bool.and_eq_true] at h
              have h4 := c3 v (by omega)
              rw [h.1, h1 v, h.2, Bool.true_and, Bool.true_and, Bool.true_and] at h4
              by_cases c4 : lev m (fun u v => B u v && sT v) v < t
              · exact c4
              · rw [decide_eq_false c4] at h4
                cases h4
            omega
    refine ⟨fun u => ?_, fun u hu hl => ?_⟩
    · rw [rkD]
      unfold rdK
      rw [h1 u, hit u]
      cases e : sT u with
      | false => simp
      | true =>
        have hu := hs u e
        rw [Bool.true_and, Bool.true_and, Bool.true_and, decide_eq_true hu, Bool.true_and]
        have hd : ∀ L : Nat, (decide (L < t) || decide (L = t)) = decide (L < t + 1) := fun L => by
          rw [Bool.eq_iff_iff, Bool.or_eq_true, decide_eq_true_eq, decide_eq_true_eq, decide_eq_true_eq]
          omega
        exact hd _
    · rw [rkV]
      unfold rsK
      rw [hit u, hu, decide_eq_true (hs u hu), Bool.true_and, Bool.true_and]
      by_cases c2 : lev m (fun u v => B u v && sT v) u = t
      · rw [decide_eq_true c2, if_pos rfl, c2]
      · rw [decide_eq_false c2, if_neg Bool.false_ne_true]
        exact h2 u hu (by omega)
theorem rk_fin {sT : Nat → Bool} {rs : Nat → Int32} (hm : m ≤ 40) (hs : ∀ u, sT u = true → u < m) (hT : TI m (fun u v => B u v && sT v)) {u : Nat} (hu : sT u = true) : rkV m sT B rs 40 u = nI (lev m (fun u v => B u v && sT v) u) := by
  have h := lev_lt hT (hs u hu)
  exact (rk_inv hm hs hT 40).2 u hu (by omega)
/-- the reference's rounds -/
theorem rl1_eq {u : Nat} {L : Nat → Int32} {l : Nat → Nat} (hu : u < n) (hE : E u u = false) (hL : ∀ v, v < n → L v = nI (l v)) (hl : ∀ v, v < n → l v < 1000) : ∀ k, k ≤ n → rl1 E u L k = va_up L u (nI (max (l u) (supN (E u) (fun v => l v + 1) k))) ∧ supN (E u) (fun v => l v + 1) k ≤ 1000
  | 0, _ => by
    refine ⟨?_, Nat.zero_le _⟩
    show L = va_up L u (nI (max (l u) 0))
    rw [Nat.max_eq_left (Nat.zero_le _), ← hL u hu, up_id]
  | k + 1, hk => by
    obtain ⟨ih, ih2⟩ := rl1_eq hu hE hL hl k (by omega)
    have h1 := hl u hu
    have h2 := hl k (by omega)
    rw [rl1, ih, supN]
    by_cases c : E u k = true
    · have hne : ¬ k = u := fun e => by rw [e] at c; exact bt_f c hE
      rw [if_pos c, if_pos c]
      refine ⟨?_, by omega⟩
      rw [up_s, up_n _ _ hne, hL k (by omega), nI_add]
      unfold imax
      rw [nI_max (by omega) (by omega), up_up, Nat.max_assoc]
    · rw [if_neg c, if_neg c]
      exact ⟨rfl, ih2⟩
def LQ (n : Nat) (E : Nat → Nat → Bool) (t k : Nat) (L : Nat → Int32) : Prop := ∃ l : Nat → Nat, (∀ u, u < n → L u = nI (l u)) ∧ (∀ u, u < n → l u ≤ lev n E u) ∧ (∀ u, u < n → lev n E u ≤ t → l u = lev n E u) ∧ ∀ u, u < k → lev n E u ≤ t + 1 → l u = lev n E u
theorem rl2_eq (hT : TI n E) (hn : n ≤ 40) {t : Nat} {L : Nat → Int32} (hL : LQ n E t 0 L) : ∀ k, k ≤ n → LQ n E t k (rl2 E n L k)
  | 0, _ => hL
  | k + 1, hk => by
    obtain ⟨l, h1, h2, h3, h4⟩ := rl2_eq hT hn hL k (by omega)
    have hb : ∀ v, v < n → l v < 1000 := fun v hv => by
      have := h2 v hv
      have := lev_lt hT hv
      omega
    obtain ⟨e1, e2⟩ := rl1_eq (u := k) (by omega) (hT.2 k (by omega)) h1 hb n (Nat.le_refl n)
    have hS : supN (E k) (fun v => l v + 1) n ≤ lev n E k := (supN_le n).mpr (fun v hv h => by
      have a1 := lev_up hT hn (by omega) hv h
      have a2 := h2 v hv
      show l v + 1 ≤ _
      omega)
    rw [rl2, e1]
    refine ⟨va_up l k (max (l k) (supN (E k) (fun v => l v + 1) n)), fun u hu => ?_, fun u hu => ?_, fun u hu ht => ?_, fun u hu ht => ?_⟩
    · by_cases c : u = k
      · rw [c, up_s, up_s]
      · rw [up_n _ _ c, up_n _ _ c]
        exact h1 u hu
    · by_cases c : u = k
      · have := h2 k (by omega)
        rw [c, up_s]
        omega
      · rw [up_n _ _ c]
        exact h2 u hu
    · by_cases c : u = k
      · have a1 := h3 k (by omega) (by rw [← c]; exact ht)
        rw [c, up_s]
        omega
      · rw [up_n _ _ c]
        exact h3 u hu ht
    · by_cases c : u = k
      · have a1 := h2 k (by omega)
        rw [c] at ht
        rw [c, up_s]
        by_cases c0 : lev n E k = 0
        · omega
        · obtain ⟨v, b1, b2, b3⟩ := lev_dn hT hn (show k < n by omega) (by omega)
          have b4 := h3 v b1 (by omega)
          have b5 := supN_ge (g := fun v => l v + 1) b1 b2
          have b6 : l v + 1 ≤ supN (E k) (fun v => l v + 1) n := b5
          omega
      · rw [up_n _ _ c]
        exact h4 u (by omega) ht
theorem rl3_eq (hT : TI n E) (hn : n ≤ 40) {L : Nat → Int32} (hL : ∀ u, u < n → L u = nI 0) : ∀ t, LQ n E t 0 (rl3 E n L t)
  | 0 => ⟨fun _ => 0, hL, fun _ _ => Nat.zero_le _, fun u _ h => (Nat.le_zero.mp h).symm, fun u h => absurd h (Nat.not_lt_zero u)⟩
  | t + 1 => by
    obtain ⟨l, h1, h2, h3, h4⟩ := rl2_eq hT hn (rl3_eq hT hn hL t) n (Nat.le_refl n)
    rw [rl3]
    exact ⟨l, h1, h2, h4, fun u h => absurd h (Nat.not_lt_zero u)⟩
theorem sRk_eq (hT : TI n E) (hn : n ≤ 40) {be : Nat → Int32} {u : Nat} (hu : u < n) : sRk E n be u = nI (lev n E u) := by
  obtain ⟨l, h1, h2, h3, h4⟩ := rl3_eq hT hn (L := pre (fun _ => nI 0) be n) (fun u hu => pre_in hu) n
  have h5 := lev_lt hT hu
  unfold sRk
  rw [h1 u hu, h3 u hu (by omega)]
end PUREFOUR
