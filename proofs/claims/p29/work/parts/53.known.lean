/-! THE LAW: the classes and arrays at its entry -/
theorem kn_in : ∀ q ∈ vwCl, Cond.instantiable q.1 q.2.2 ∈ lw_tbl ∧ ∀ w ∈ u_ws q.1 q.2.1 q.2.2, w ∈ lw_tbl := by decide +kernel
theorem k_start {s : State} {args : Array Value} (hts : ∀ w ∈ lw_tbl, w.before args s = true) : ∃ (D : va_G) (cI cJ : ClassId), va_K D vwCl [(cI, .int), (cJ, .long)] s := by
  have H2 : ∀ c : Nat, ∃ (cC : ClassId) (iS : Nat → Nat), ∀ q : vw_C, vwCl[c]? = some q → u_Kn s q.1 q.2.1 q.2.2 cC iS := by
    intro c
    cases h : vwCl[c]? with
    | none => exact ⟨0, fun _ => 0, fun q hq => by cases hq⟩
    | some q =>
      obtain ⟨h1, h2⟩ := kn_in q (List.mem_of_getElem? h)
      obtain ⟨cC, iS, h3⟩ := u_known hts h2 (hts _ h1)
      exact ⟨cC, iS, fun q' hq => by cases hq; exact h3⟩
  obtain ⟨cI, a1, a2⟩ := arr_ex (Or.inl rfl) (hts _ (ww_good wa_int).1)
  obtain ⟨cJ, a3, a4⟩ := arr_ex (Or.inr (Or.inl rfl)) (hts _ (ww_good wa_long).1)
  refine ⟨(fun c => (H2 c).choose, fun c => (H2 c).choose_spec.choose), cI, cJ, fun c q hq => (H2 c).choose_spec.choose_spec q hq, fun k q hq => ?_⟩
  match k, hq with
  | 0, hq => cases hq; exact ⟨a1, a2⟩
  | 1, hq => cases hq; exact ⟨a3, a4⟩
