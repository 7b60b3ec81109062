/-! STEPS: what a call leaves, in both -/
section STEPS
variable {n r f : Nat} {ki ks so ph uf ul fB fA fs ff fl xs ys zs fp be ab oL oU lo up : Nat → Int32} {lt er os ts bo b0 b2 fu : Nat → Nat} {dug dtd : Nat → Bool} {E me dE eE lE li e0 l0 k0 : Nat → Nat → Bool}
theorem IRR_ref {b : Nat → Nat} (hn : n ≤ 40) (hv : RV n r lt er) (hre : RE r ki lt er ks os ts) (hos : ∀ k, os k < 40) (hts : ∀ k, ts k < 40) (hb0 : ∀ u, b0 u < 40) (hB : BO n r ki lt er b) (hC : CL n (DP r ki lt er b) E) {u : Nat} (hu : u < n) : E u = sE ks os ts b0 n r e0 u := by
  have hv' := RV_cong hre hv
  have hB' : BO n r ki lt er (sJ ks os ts b0 n r) := BO_cong (RE_symm hre) (BO_sJ hv' hn hos hts hb0)
  have e1 := BO_one hB hB'
  have hC' : CL n (DP r ki lt er b) (sE ks os ts b0 n r e0) := CL_D (fun u i => ⟨fun q => DP_bo hv (fun u hu => (e1 u hu).symm) (DP_cong (RE_symm hre) q), fun q => DP_cong hre (DP_bo hv e1 q)⟩) (CL_sE (eE := e0) hv' hn hos hts hb0)
  exact CL_one hC hC' (fun _ _ q => ⟨(DP_lt hB hv q).1.1, (DP_lt hB hv q).2.1⟩) hu
theorem IRR_c {F : Nat → Nat → Bool} (h : ∀ u, u < n → E u = F u) (hI : IRR n E) : IRR n F := fun u hu => by rw [← h u hu]; exact hI u hu
theorem NEWR (hn : n ≤ 40) (hv : RV n r lt er) (hre : RE r ki lt er ks os ts) (hos : ∀ k, os k < 40) (hts : ∀ k, ts k < 40) (hb0 : ∀ u, b0 u < 40) {b : Nat → Nat} (hB : BO n r ki lt er b) (hC : CL n (DP r ki lt er b) E) (hI : IRR n E) : DER n r ki lt er (sJ ks os ts b0 n r) (sE ks os ts b0 n r e0) (sLt (sE ks os ts b0 n r e0) n l0) (sLi (sE ks os ts b0 n r e0) n k0) (sRk (sE ks os ts b0 n r e0) n be) (sRk (sLt (sE ks os ts b0 n r e0) n l0) n ab) :=
  DER_cong (RE_symm hre) (DER_ref (RV_cong hre hv) hn hos hts hb0 (IRR_c (fun _ hu => IRR_ref hn hv hre hos hts hb0 hB hC hu) hI))
theorem NEWS (hn : n ≤ 40) (hv : RV n r lt er) (hre : RE r ki lt er ks os ts) (hos : ∀ k, os k < 40) (hts : ∀ k, ts k < 40) (hb0 : ∀ u, b0 u < 40) (hdug : ∀ i, n ≤ i → dug i = false) (hfn : ∀ j, j < f → fu j < n) (hI : IRR n (nE ki lt er bo n r dE eE)) : VG n dug (nB ki lt er bo n r) (nJ ki lt er bo n r) (nM ki lt er bo n r me) ∧ DER n r ki lt er (nJ ki lt er bo n r) (nE ki lt er bo n r dE eE) (nL ki lt er bo n r dE eE lE) (nK ki lt er bo n r dE eE li) (nfB ki lt er bo n r dE eE fB) (nfA ki lt er bo n r dE eE lE fA) ∧ DER n r ki lt er (sJ ks os ts b0 n r) (sE ks os ts b0 n r e0) (sLt (sE ks os ts b0 n r e0) n l0) (sLi (sE ks os ts b0 n r e0) n k0) (sRk (sE ks os ts b0 n r e0) n be) (sRk (sLt (sE ks os ts b0 n r e0) n l0) n ab) ∧ VJ n f dtd uf ul fu ff (nJ ki lt er bo n r) (nE ki lt er bo n r dE eE) (nL ki lt er bo n r dE eE lE) (nLo (nOL dtd uf (nJ ki lt er bo n r) fu ff oL n f) (nE ki lt er bo n r dE eE) lo n) (nUp (nOU dtd ul (nJ ki lt er bo n r) oU n) (nL ki lt er bo n r dE eE lE) up n) := by
  have hB : BO n r ki lt er (nJ ki lt er bo n r) := BO_nJ hv
  have hb : ∀ u, u < n → nJ ki lt er bo n r u < n := fun u hu => BO_lt hB hu
  exact ⟨⟨bdS_eq hB, fun u hu _ i => nM_eq hu i, hdug⟩, DER_class hv hn hI, NEWR hn hv hre hos hts hb0 hB (CL_nE hv) hI, fun v hv B => nLo_le hv hb hfn, fun v hv B => nUp_ge hv hb⟩
theorem sft_in {α : Type} {g : Nat → α} {j k : Nat} (h : j ≤ k) (hk : k + 1 < r) : sft g j r k = g (k + 1) := if_pos ⟨h, hk⟩
theorem sft_out {α : Type} {g : Nat → α} {j k : Nat} (h : k < j) : sft g j r k = g k := if_neg (fun q => by omega)
theorem sft_at (j : Nat) {k : Nat} (hk : k < r - 1) : ∃ i, i < r ∧ ∀ {α : Type} (g : Nat → α), sft g j r k = g i := by
  by_cases c : j ≤ k
  · exact ⟨k + 1, by omega, fun g => sft_in c (by omega)⟩
  · exact ⟨k, by omega, fun g => sft_out (by omega)⟩
theorem RV_sft {j : Nat} (hv : RV n r lt er) : RV n (r - 1) (sft lt j r) (sft er j r) := fun k hk => by
  obtain ⟨i, hi, h⟩ := sft_at (r := r) j hk
  rw [h, h]
  exact hv i hi
theorem RE_sft {j : Nat} (h : RE r ki lt er ks os ts) : RE (r - 1) (sft ki j r) (sft lt j r) (sft er j r) (sft ks j r) (sft os j r) (sft ts j r) := fun k hk => by
  obtain ⟨i, hi, g⟩ := sft_at (r := r) j hk
  rw [g, g, g, g, g, g]
  exact h i hi
theorem RV_up {x y : Nat} (hv : RV n r lt er) (hx : x < n) (hy : y < n) : RV n (r + 1) (va_up lt r x) (va_up er r y) := fun k hk => by
  by_cases e : k = r
  · rw [e, up_s, up_s]
    exact ⟨hx, hy⟩
  · rw [up_n _ _ e, up_n _ _ e]
    exact hv k (by omega)
theorem RE_up {kd : Int32} {x y : Nat} (h : RE r ki lt er ks os ts) : RE (r + 1) (va_up ki r kd) (va_up lt r x) (va_up er r y) (va_up ks r kd) (va_up os r x) (va_up ts r y) := fun k hk => by
  by_cases e : k = r
  · rw [e, up_s, up_s, up_s, up_s, up_s, up_s]
    exact ⟨rfl, rfl, rfl⟩
  · rw [up_n _ _ e, up_n _ _ e, up_n _ _ e, up_n _ _ e, up_n _ _ e, up_n _ _ e]
    exact h k (by omega)
theorem RE_up0 {kd : Int32} {x y : Nat} (h : RE r ki lt er ks os ts) : RE r ki lt er (va_up ks r kd) (va_up os r x) (va_up ts r y) := fun k hk => by
  have e : ¬ k = r := by omega
  rw [up_n _ _ e, up_n _ _ e, up_n _ _ e]
  exact h k hk
theorem irr_sft {j : Nat} (hv : RV n r lt er) (hD : DER n r ki lt er bo eE lE li fB fA) {c0 : Nat → Nat} {d1 e1 : Nat → Nat → Bool} : IRR n (nE (sft ki j r) (sft lt j r) (sft er j r) c0 n (r - 1) d1 e1) :=
  irr_mono hD.1 (BO_nJ (RV_sft hv)) hD.2.1 (CL_nE (RV_sft hv)) hv (Nat.le_refl n) (fun k hk => by
    obtain ⟨i, hi, g⟩ := sft_at (r := r) j hk
    exact ⟨i, hi, g ki, g lt, g er⟩) hD.2.2.1
theorem RV_s (hv : RV n r lt er) : RV (n + 1) r lt er := fun k hk => ⟨Nat.lt_succ_of_lt (hv k hk).1, Nat.lt_succ_of_lt (hv k hk).2⟩
theorem irr_add (hv : RV n r lt er) (hD : DER n r ki lt er bo eE lE li fB fA) {c0 : Nat → Nat} {d1 e1 : Nat → Nat → Bool} : IRR (n + 1) (nE ki lt er c0 (n + 1) r d1 e1) :=
  irr_mono hD.1 (BO_nJ (RV_s hv)) hD.2.1 (CL_nE (RV_s hv)) hv (Nat.le_succ n) (fun k hk => ⟨k, hk, rfl, rfl, rfl⟩) hD.2.2.1
theorem irr_rel {kd : Int32} {x y : Nat} (hv : RV n r lt er) (hD : DER n r ki lt er bo eE lE li fB fA) (hx : x < n) (hy : y < n) {c0 : Nat → Nat} {d1 e1 : Nat → Nat → Bool} : IRR n (nE (va_up ki r kd) (va_up lt r x) (va_up er r y) c0 n (r + 1) d1 e1) ↔ lpB bo eE kd x y = false :=
  irr_new hD.1 hv hD.2.1 hD.2.2.1 hx hy (BO_nJ (RV_up hv hx hy)) (CL_nE (RV_up hv hx hy))
theorem irr_rel2 {kd : Int32} {x y : Nat} (hn : n ≤ 40) (hv : RV n r lt er) (hre : RE r ki lt er ks os ts) (hos : ∀ k, os k < 40) (hts : ∀ k, ts k < 40) (hb0 : ∀ u, b0 u < 40) (hD : DER n r ki lt er bo eE lE li fB fA) (hx : x < n) (hy : y < n) : (!(anyB (fun u => sE (va_up ks r kd) (va_up os r x) (va_up ts r y) b0 n (r + 1) e0 u u) n)) = true ↔ lpB bo eE kd x y = false := by
  rw [irr_any, ← irr_rel (c0 := bo) (d1 := eE) (e1 := eE) hv hD hx hy]
  have h := fun u (hu : u < n) => IRR_ref (e0 := e0) hn (RV_up hv hx hy) (RE_up (kd := kd) hre) (fun k => upn_lt hos (show x < 40 by omega) k) (fun k => upn_lt hts (show y < 40 by omega) k) hb0 (BO_nJ (bo := bo) (RV_up hv hx hy)) (CL_nE (dE := eE) (eE := eE) (RV_up hv hx hy)) hu
  exact ⟨IRR_c (fun u hu => (h u hu).symm), IRR_c h⟩
theorem told_eq {kd : Int32} {x y : Nat} (h : RE r ki lt er ks os ts) : anyB (toldP ki lt er kd x y) r = anyB (toldP ks os ts kd x y) r := anyB_cong (fun i hi => by
  obtain ⟨e1, e2, e3⟩ := h i hi
  unfold toldP
  rw [e1, e2, e3])
theorem rt_eq {j q : Nat} (h : RE r ki lt er ks os ts) (hj : j < r) (hq : q < 3) : rtR ki lt er j q = rtR ks os ts j q := by
  obtain ⟨e1, e2, e3⟩ := h j hj
  match q, hq with
  | 0, _ => exact e1
  | 1, _ => exact congrArg nI e2
  | 2, _ => exact congrArg nI e3
theorem af_in {c u : Nat} {s a b : Int32} (hc : c < 7) : afF fp n u s a b (7 * n + c) = afT u s a b c := by
  unfold afF
  rw [pk_cpy_in (by omega) (by omega)]
  exact congrArg (afT u s a b) (by omega)
theorem af_out {c j u : Nat} {s a b : Int32} (hj : ¬ j = n) (hc : c < 7) : afF fp n u s a b (7 * j + c) = fp (7 * j + c) := pk_cpy_out (by omega)
theorem VF_add {u : Nat} {s a b : Int32} (hF : VF f fu fs ff fl xs ys zs fp) : VF (f + 1) (va_up fu f u) (va_up fs f s) (va_up ff f a) (va_up fl f b) xs ys zs (afF fp f u s a b) := by
  obtain ⟨f0, f1, f2, f3, f4, f5, f6, f7⟩ := hF
  obtain ⟨z4, z5, z6⟩ := f7 f (Nat.le_refl f)
  refine ⟨fun j => ?_, fun j => ?_, fun j => ?_, fun j => ?_, fun j => ?_, fun j => ?_, fun j => ?_, fun j hj => f7 j (by omega)⟩
  · by_cases e : j = f
    · rw [e, up_s]
      exact af_in (c := 0) (by decide)
    · rw [up_n _ _ e]
      exact (af_out (c := 0) e (by decide)).trans (f0 j)
  · by_cases e : j = f
    · rw [e, up_s, af_in (by decide)]
      rfl
    · rw [up_n _ _ e, af_out e (by decide), f1 j]
  · by_cases e : j = f
    · rw [e, up_s, af_in (by decide)]
      rfl
    · rw [up_n _ _ e, af_out e (by decide), f2 j]
  · by_cases e : j = f
    · rw [e, up_s, af_in (by decide)]
      rfl
    · rw [up_n _ _ e, af_out e (by decide), f3 j]
  · by_cases e : j = f
    · rw [e, af_in (by decide), z4]
      rfl
    · rw [af_out e (by decide), f4 j]
  · by_cases e : j = f
    · rw [e, af_in (by decide), z5]
      rfl
    · rw [af_out e (by decide), f5 j]
  · by_cases e : j = f
    · rw [e, af_in (by decide), z6]
      rfl
    · rw [af_out e (by decide), f6 j]
theorem VF_move {j u : Nat} (hF : VF f fu fs ff fl xs ys zs fp) : VF f (va_up fu j u) fs ff fl xs ys zs (va_up fp (7 * j) (nI u)) := by
  obtain ⟨f0, f1, f2, f3, f4, f5, f6, f7⟩ := hF
  refine ⟨fun i => ?_, fun i => ?_, fun i => ?_, fun i => ?_, fun i => ?_, fun i => ?_, fun i => ?_, f7⟩
  · by_cases e : i = j
    · rw [e, up_s, up_s]
    · rw [up_n _ _ e, up_n _ _ (by omega), f0 i]
  · rw [up_n _ _ (by omega), f1 i]
  · rw [up_n _ _ (by omega), f2 i]
  · rw [up_n _ _ (by omega), f3 i]
  · rw [up_n _ _ (by omega), f4 i]
  · rw [up_n _ _ (by omega), f5 i]
  · rw [up_n _ _ (by omega), f6 i]
theorem VF_place {j : Nat} {x y z : Int32} (hj : j < f) (hF : VF f fu fs ff fl xs ys zs fp) : VF f fu fs ff fl (va_up xs j x) (va_up ys j y) (va_up zs j z) (va_up (va_up (va_up fp (7 * j + 4) x) (7 * j + 5) y) (7 * j + 6) z) := by
  obtain ⟨f0, f1, f2, f3, f4, f5, f6, f7⟩ := hF
  refine ⟨fun i => ?_, fun i => ?_, fun i => ?_, fun i => ?_, fun i => ?_, fun i => ?_, fun i => ?_, fun i hi => ?_⟩
  · rw [up_n _ _ (by omega), up_n _ _ (by omega), up_n _ _ (by omega), f0 i]
  · rw [up_n _ _ (by omega), up_n _ _ (by omega), up_n _ _ (by omega), f1 i]
  · rw [up_n _ _ (by omega), up_n _ _ (by omega), up_n _ _ (by omega), f2 i]
  · rw [up_n _ _ (by omega), up_n _ _ (by omega), up_n _ _ (by omega), f3 i]
  · by_cases e : i = j
    · rw [e, up_n _ _ (by omega), up_n _ _ (by omega), up_s, up_s]
    · rw [up_n _ _ (by omega), up_n _ _ (by omega), up_n _ _ (by omega), up_n _ _ e, f4 i]
  · by_cases e : i = j
    · rw [e, up_n _ _ (by omega), up_s, up_s]
    · rw [up_n _ _ (by omega), up_n _ _ (by omega), up_n _ _ (by omega), up_n _ _ e, f5 i]
  · by_cases e : i = j
    · rw [e, up_s, up_s]
    · rw [up_n _ _ (by omega), up_n _ _ (by omega), up_n _ _ (by omega), up_n _ _ e, f6 i]
  · have e : ¬ i = j := by omega
    rw [up_n _ _ e, up_n _ _ e, up_n _ _ e]
    exact f7 i hi
theorem VJ_new (hB : BB n bo) (hfn : ∀ j, j < f → fu j < n) : VJ n f dtd uf ul fu ff bo eE lE (nLo (nOL dtd uf bo fu ff oL n f) eE lo n) (nUp (nOU dtd ul bo oU n) lE up n) := ⟨fun _ hv _ => nLo_le hv (fun u hu => (hB u hu).1) hfn, fun _ hv _ => nUp_ge hv (fun u hu => (hB u hu).1)⟩
theorem fn_up {j u : Nat} (hu : u < n) (hfn : ∀ j, j < f → fu j < n) : ∀ k, k < f → va_up fu j u k < n := fun k hk => by
  by_cases e : k = j
  · rw [e, up_s]; exact hu
  · rw [up_n _ _ e]; exact hfn k hk
theorem fn_add {u : Nat} (hu : u < n) (hfn : ∀ j, j < f → fu j < n) : ∀ k, k < f + 1 → va_up fu f u k < n := fun k hk => by
  by_cases e : k = f
  · rw [e, up_s]; exact hu
  · rw [up_n _ _ e]; exact hfn k (by omega)
end STEPS
