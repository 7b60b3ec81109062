/-! STEPS: what a call leaves, in both -/
section STEPS
variable {n r f : Nat} {ki ks so ph uf ul fB fA fs ff fl xs ys zs fp be ab oL oU lo up : Nat → Int32} {lt er os ts bo b0 b2 fu : Nat → Nat} {dug dtd : Nat → Bool} {E me dE eE lE li e0 l0 k0 : Nat → Nat → Bool}
theorem sft_in {α : Type} {g : Nat → α} {j k : Nat} (h : j ≤ k) (hk : k + 1 < r) : sft g j r k = g (k + 1) := if_pos ⟨h, hk⟩
theorem sft_out {α : Type} {g : Nat → α} {j k : Nat} (h : k < j) : sft g j r k = g k := if_neg (fun q => by omega)
theorem sft_at (j : Nat) {k : Nat} (hk : k < r - 1) : ∃ i, i < r ∧ ∀ {α : Type} (g : Nat → α), sft g j r k = g i := by
  by_cases c : j ≤ k
  · exact ⟨k + 1, by omega, fun g => sft_in c (by omega)⟩
  · exact ⟨k, by omega, fun g => sft_out (by omega)⟩
theorem RV_sft {j : Nat} (hv : RV n r lt er) : RV n (r - 1) (sft lt j r) (sft er j r) := fun k hk => by
  obtain ⟨i, hi, h⟩ := sft_at (r := r) j hk
  rw [h, h]
  exact hv i hi
theorem RV_up {x y : Nat} (hv : RV n r lt er) (hx : x < n) (hy : y < n) : RV n (r + 1) (va_up lt r x) (va_up er r y) := fun k hk => by
  by_cases e : k = r
  · rw [e, up_s, up_s]
    exact ⟨hx, hy⟩
  · rw [up_n _ _ e, up_n _ _ e]
    exact hv k (by omega)
theorem irr_sft {j : Nat} (hv : RV n r lt er) (hD : DER n r ki lt er bo eE lE li fB fA) {c0 : Nat → Nat} {d1 e1 : Nat → Nat → Bool} : IRR n (nE (sft ki j r) (sft lt j r) (sft er j r) c0 n (r - 1) d1 e1) :=
  irr_mono hD.1 (BO_nJ (RV_sft hv)) hD.2.1 (CL_nE (RV_sft hv)) hv (Nat.le_refl n) (fun k hk => by
    obtain ⟨i, hi, g⟩ := sft_at (r := r) j hk
    exact ⟨i, hi, g ki, g lt, g er⟩) hD.2.2.1
theorem RV_s (hv : RV n r lt er) : RV (n + 1) r lt er := fun k hk => ⟨Nat.lt_succ_of_lt (hv k hk).1, Nat.lt_succ_of_lt (hv k hk).2⟩
theorem irr_add (hv : RV n r lt er) (hD : DER n r ki lt er bo eE lE li fB fA) {c0 : Nat → Nat} {d1 e1 : Nat → Nat → Bool} : IRR (n + 1) (nE ki lt er c0 (n + 1) r d1 e1) :=
  irr_mono hD.1 (BO_nJ (RV_s hv)) hD.2.1 (CL_nE (RV_s hv)) hv (Nat.le_succ n) (fun k hk => ⟨k, hk, rfl, rfl, rfl⟩) hD.2.2.1
theorem irr_rel {kd : Int32} {x y : Nat} (hv : RV n r lt er) (hD : DER n r ki lt er bo eE lE li fB fA) (hx : x < n) (hy : y < n) {c0 : Nat → Nat} {d1 e1 : Nat → Nat → Bool} : IRR n (nE (va_up ki r kd) (va_up lt r x) (va_up er r y) c0 n (r + 1) d1 e1) ↔ lpB bo eE kd x y = false :=
  irr_new hD.1 hv hD.2.1 hD.2.2.1 hx hy (BO_nJ (RV_up hv hx hy)) (CL_nE (RV_up hv hx hy))
theorem VJ_new (hB : BB n bo) (hfn : ∀ j, j < f → fu j < n) : VJ n f dtd uf ul fu ff bo eE lE (nLo (nOL dtd uf bo fu ff oL n f) eE lo n) (nUp (nOU dtd ul bo oU n) lE up n) := ⟨fun _ hv _ => nLo_le hv (fun u hu => (hB u hu).1) hfn, fun _ hv _ => nUp_ge hv (fun u hu => (hB u hu).1)⟩
theorem fn_up {j u : Nat} (hu : u < n) (hfn : ∀ j, j < f → fu j < n) : ∀ k, k < f → va_up fu j u k < n := fun k hk => by
  by_cases e : k = j
  · rw [e, up_s]; exact hu
  · rw [up_n _ _ e]; exact hfn k hk
theorem fn_add {u : Nat} (hu : u < n) (hfn : ∀ j, j < f → fu j < n) : ∀ k, k < f + 1 → va_up fu f u k < n := fun k hk => by
  by_cases e : k = f
  · rw [e, up_s]; exact hu
  · rw [up_n _ _ e]; exact hfn k (by omega)
end STEPS
