/-! ROWS, FIFTH: worlds in another order, worlds with fewer cells, new arrays and objects, arraycopy. -/
theorem wp_P {D : va_G} {cl : List vw_C} {ws ws' : va_W} {H : Heap} (h : ∀ e, e ∈ ws' → e ∈ ws) (hP : va_P D cl ws H) : va_P D cl ws' H := by
  intro k q hq
  obtain ⟨j, hj⟩ := List.getElem?_of_mem (h q (List.mem_of_getElem? hq))
  exact hP j q hj
theorem wp_D {A : Nat → Prop} {ws : va_W} : va_D A ws ↔ ws.Pairwise (fun p q => p.1 ≠ q.1) ∧ ∀ e ∈ ws, A e.1 := by
  constructor
  · intro h
    refine ⟨List.pairwise_iff_getElem.mpr (fun i j hi hj hij e => ?_), fun e he => ?_⟩
    · have := h.1 i j _ _ (List.getElem?_eq_getElem hi) (List.getElem?_eq_getElem hj) e
      omega
    · obtain ⟨j, hj⟩ := List.getElem?_of_mem he
      exact h.2 j e hj
  · intro h
    refine ⟨fun i j p q hi hj e => ?_, fun k q hq => h.2 q (List.mem_of_getElem? hq)⟩
    obtain ⟨hi', hi2⟩ := List.getElem?_eq_some_iff.mp hi
    obtain ⟨hj', hj2⟩ := List.getElem?_eq_some_iff.mp hj
    have hn := List.pairwise_iff_getElem.mp h.1
    rcases Nat.lt_trichotomy i j with c | c | c
    · exact absurd (by rw [hi2, hj2]; exact e) (hn i j hi' hj' c)
    · exact c
    · exact absurd (by rw [hi2, hj2]; exact e.symm) (hn j i hj' hi' c)
theorem wp_perm {A : Nat → Prop} {ws ws' : va_W} (h : ws'.Perm ws) (hD : va_D A ws) : va_D A ws' := by
  rw [wp_D] at hD ⊢
  exact ⟨(h.pairwise_iff (fun e => Ne.symm e)).mpr hD.1, fun e he => hD.2 e (h.mem_iff.mp he)⟩
theorem wp_sub {A : Nat → Prop} {ws ws' : va_W} (h : ws'.Sublist ws) (hD : va_D A ws) : va_D A ws' := by
  rw [wp_D] at hD ⊢
  exact ⟨hD.1.sublist h, fun e he => hD.2 e (h.subset he)⟩
section ROWS5
variable {g : aG} {κ : aK} {own : String} {cc : ByteArray} {nL pc k n i k' n' : Nat} {rm : Room} {L L' : List (Nat × Value)} {st : List Value} {ws ws' w1 : va_W}
theorem aw_perm (h : ws'.Perm ws) (kk : aw g κ nL pc L st ws' k n) : aw g κ nL pc L st ws k n := aw_world (fun _ hP => wp_P (fun _ he => h.mem_iff.mp he) hP) (wp_perm h) kk
theorem aw_sub (h : ws'.Sublist ws) (kk : aw g κ nL pc L st ws' k n) : aw g κ nL pc L st ws k n := aw_world (fun _ hP => wp_P (fun _ he => h.subset he) hP) (wp_sub h) kk
theorem kT_I (C : Cx g κ own cc nL rm) {cA : ClassId} (h : va_RA (g_s g) cA .int) : cA = kI κ := by
  have h1 := (C.2.2.2.2.2.1.2 0 (kI κ, .int) rfl).2
  exact Option.some.inj (h.symm.trans h1)
theorem kT_J (C : Cx g κ own cc nL rm) {cA : ClassId} (h : va_RA (g_s g) cA .long) : cA = kJ κ := by
  have h1 := (C.2.2.2.2.2.1.2 1 (kJ κ, .long) rfl).2
  exact Option.some.inj (h.symm.trans h1)
theorem K_last {D : va_G} {cl : List vw_C} {tys : List (ClassId × FieldType)} {U : State} {cA : ClassId} {ty : FieldType} (h : va_K D cl (tys ++ [(cA, ty)]) U) : va_RA U cA ty := (h.2 tys.length (cA, ty) (by simp)).2
theorem a_newI (C : Cx g κ own cc nL rm) {N : Nat} (hN : N < 1000) {ws' : Nat → va_W} (hw : ∀ q, (ws' q).Perm (ws ++ [(q, .inl (kI κ, N, .inl (fun _ => nI 0)))])) (hc : k + 1 ≤ rm.cells) (hs : n + N ≤ rm.slots) (hd : decode cc pc = .ok (.newarray .int, 2)) (kk : ∀ q, aw g κ nL (pc + 2) L (.ref q :: st) (ws' q) (k + 1) (n + N)) : aw g κ nL pc L (.int (nI N) :: st) ws k n := by
  obtain ⟨hx, hb, hml, hown, hts, hK, hlk, hR, hz, hN2, hfl⟩ := id C
  intro H locs ls hP hD hS hl
  refine va_newa hx hb (hts _ (show Cond.arrayClass (newarray.typeOf .int) ∈ WW from wa_int)) rfl hK hP hD hS (fun q hq => Nat.le_trans hz hq) (N' := N) (a0 := (N, .inl (fun _ => nI 0))) (fun cA => rfl) (fun c => ?_) (nI_clamp (by omega)) (by show N * 4 ≤ _; omega) (by rw [hR]; exact hc) (by rw [hR]; exact hs) hd (fun q cA H1 hK1 hP1 hD1 hS1 => ?_)
  · have := Int32.lt_iff_toInt_lt.mp c
    rw [nI_toInt (by omega)] at this
    have h0 : (0 : Int32).toInt = 0 := rfl
    omega
  · have e := kT_I C (K_last hK1)
    subst e
    exact kk q H1 locs ls (wp_P (fun e he => (hw q).mem_iff.mp he) hP1) (wp_perm (hw q) hD1) hS1 hl
theorem a_newJ (C : Cx g κ own cc nL rm) {N : Nat} (hN : N < 1000) {ws' : Nat → va_W} (hw : ∀ q, (ws' q).Perm (ws ++ [(q, .inl (kJ κ, N, .inr (.inl (fun _ => 0))))])) (hc : k + 1 ≤ rm.cells) (hs : n + N ≤ rm.slots) (hd : decode cc pc = .ok (.newarray .long, 2)) (kk : ∀ q, aw g κ nL (pc + 2) L (.ref q :: st) (ws' q) (k + 1) (n + N)) : aw g κ nL pc L (.int (nI N) :: st) ws k n := by
  obtain ⟨hx, hb, hml, hown, hts, hK, hlk, hR, hz, hN2, hfl⟩ := id C
  intro H locs ls hP hD hS hl
  refine va_newa hx hb (hts _ (show Cond.arrayClass (newarray.typeOf .long) ∈ WW from wa_long)) rfl hK hP hD hS (fun q hq => Nat.le_trans hz hq) (N' := N) (a0 := (N, .inr (.inl (fun _ => 0)))) (fun cA => rfl) (fun c => ?_) (nI_clamp (by omega)) (by show N * 8 ≤ _; omega) (by rw [hR]; exact hc) (by rw [hR]; exact hs) hd (fun q cA H1 hK1 hP1 hD1 hS1 => ?_)
  · have := Int32.lt_iff_toInt_lt.mp c
    rw [nI_toInt (by omega)] at this
    have h0 : (0 : Int32).toInt = 0 := rfl
    omega
  · have e := kT_J C (K_last hK1)
    subst e
    exact kk q H1 locs ls (wp_P (fun e he => (hw q).mem_iff.mp he) hP1) (wp_perm (hw q) hD1) hS1 hl
theorem nI_nn {a : Nat} (h : a < 2 ^ 31) : ¬ nI a < 0 := fun c => by
  have := Int32.lt_iff_toInt_lt.mp c
  rw [nI_toInt h] at this
  have h0 : (0 : Int32).toInt = 0 := rfl
  omega
end ROWS5
