/-! THE CLASS'S STATE: its invariant, and what each call does to it -/
def JV (n : Nat) (dug : Nat → Bool) (dtd : Nat → Bool) (so : Nat → Int32) (ph : Nat → Int32) (uf : Nat → Int32) (ul : Nat → Int32) (r : Nat) (ki : Nat → Int32) (lt : Nat → Nat) (er : Nat → Nat) (mz : Nat) (bd : Nat → Bool) (bo : Nat → Nat) (me : Nat → Nat → Bool) (eE : Nat → Nat → Bool) (lE : Nat → Nat → Bool) (li : Nat → Nat → Bool) (fB : Nat → Int32) (fA : Nat → Int32) (f : Nat) (fu : Nat → Nat) (ff : Nat → Int32) (lo : Nat → Int32) (up : Nat → Int32) : Prop := ((n ≤ 40 ∧ r ≤ 80 ∧ f ≤ 60 ∧ n = mz) ∧ (∀ u, bo u < 40) ∧ (∀ u, lt u < 40) ∧ (∀ u, er u < 40) ∧ (∀ u, fu u < 40) ∧ RV n r lt er ∧ ∀ j, j < f → fu j < n) ∧ VG n dug bd bo me ∧ DER n r ki lt er bo eE lE li fB fA ∧ VJ n f dtd uf ul fu ff bo eE lE lo up
def JS (S : SC) : Prop := JV S.1 S.2.1 S.2.2.1 S.2.2.2.1 S.2.2.2.2.1 S.2.2.2.2.2.1 S.2.2.2.2.2.2.1 S.2.2.2.2.2.2.2.1 S.2.2.2.2.2.2.2.2.1 S.2.2.2.2.2.2.2.2.2.1 S.2.2.2.2.2.2.2.2.2.2.1 S.2.2.2.2.2.2.2.2.2.2.2.1 S.2.2.2.2.2.2.2.2.2.2.2.2.1 S.2.2.2.2.2.2.2.2.2.2.2.2.2.1 S.2.2.2.2.2.2.2.2.2.2.2.2.2.2.1 S.2.2.2.2.2.2.2.2.2.2.2.2.2.2.2.2.1 S.2.2.2.2.2.2.2.2.2.2.2.2.2.2.2.2.2.1 S.2.2.2.2.2.2.2.2.2.2.2.2.2.2.2.2.2.2.1 S.2.2.2.2.2.2.2.2.2.2.2.2.2.2.2.2.2.2.2.1 S.2.2.2.2.2.2.2.2.2.2.2.2.2.2.2.2.2.2.2.2.1 S.2.2.2.2.2.2.2.2.2.2.2.2.2.2.2.2.2.2.2.2.2.2.1 S.2.2.2.2.2.2.2.2.2.2.2.2.2.2.2.2.2.2.2.2.2.2.2.1 S.2.2.2.2.2.2.2.2.2.2.2.2.2.2.2.2.2.2.2.2.2.2.2.2.2.1 S.2.2.2.2.2.2.2.2.2.2.2.2.2.2.2.2.2.2.2.2.2.2.2.2.2.2.2.2.2.2.2.2.1 S.2.2.2.2.2.2.2.2.2.2.2.2.2.2.2.2.2.2.2.2.2.2.2.2.2.2.2.2.2.2.2.2.2
abbrev sN (S : SC) : Nat := S.1
abbrev sDg (S : SC) : Nat → Bool := S.2.1
abbrev sPh (S : SC) : Nat → Int32 := S.2.2.2.2.1
abbrev sR (S : SC) : Nat := S.2.2.2.2.2.2.2.1
abbrev sBo (S : SC) : Nat → Nat := S.2.2.2.2.2.2.2.2.2.2.2.2.2.1
abbrev sEe (S : SC) : Nat → Nat → Bool := S.2.2.2.2.2.2.2.2.2.2.2.2.2.2.2.2.1
abbrev sLe (S : SC) : Nat → Nat → Bool := S.2.2.2.2.2.2.2.2.2.2.2.2.2.2.2.2.2.1
abbrev sLk (S : SC) : Nat → Nat → Bool := S.2.2.2.2.2.2.2.2.2.2.2.2.2.2.2.2.2.2.1
abbrev sB (S : SC) : Nat → Int32 := S.2.2.2.2.2.2.2.2.2.2.2.2.2.2.2.2.2.2.2.1
abbrev sA (S : SC) : Nat → Int32 := S.2.2.2.2.2.2.2.2.2.2.2.2.2.2.2.2.2.2.2.2.1
abbrev sF (S : SC) : Nat := S.2.2.2.2.2.2.2.2.2.2.2.2.2.2.2.2.2.2.2.2.2.2.1
abbrev sLo (S : SC) : Nat → Int32 := S.2.2.2.2.2.2.2.2.2.2.2.2.2.2.2.2.2.2.2.2.2.2.2.2.2.2.2.2.2.2.2.2.1
abbrev sUp (S : SC) : Nat → Int32 := S.2.2.2.2.2.2.2.2.2.2.2.2.2.2.2.2.2.2.2.2.2.2.2.2.2.2.2.2.2.2.2.2.2
/-- the same with another row of steps -/
def stL (S : SC) (z : Nat → Int32) : SC := (S.1, S.2.1, S.2.2.1, S.2.2.2.1, S.2.2.2.2.1, S.2.2.2.2.2.1, S.2.2.2.2.2.2.1, S.2.2.2.2.2.2.2.1, S.2.2.2.2.2.2.2.2.1, S.2.2.2.2.2.2.2.2.2.1, S.2.2.2.2.2.2.2.2.2.2.1, S.2.2.2.2.2.2.2.2.2.2.2.1, S.2.2.2.2.2.2.2.2.2.2.2.2.1, S.2.2.2.2.2.2.2.2.2.2.2.2.2.1, S.2.2.2.2.2.2.2.2.2.2.2.2.2.2.1, S.2.2.2.2.2.2.2.2.2.2.2.2.2.2.2.1, S.2.2.2.2.2.2.2.2.2.2.2.2.2.2.2.2.1, S.2.2.2.2.2.2.2.2.2.2.2.2.2.2.2.2.2.1, S.2.2.2.2.2.2.2.2.2.2.2.2.2.2.2.2.2.2.1, S.2.2.2.2.2.2.2.2.2.2.2.2.2.2.2.2.2.2.2.1, S.2.2.2.2.2.2.2.2.2.2.2.2.2.2.2.2.2.2.2.2.1, z, S.2.2.2.2.2.2.2.2.2.2.2.2.2.2.2.2.2.2.2.2.2.2.1, S.2.2.2.2.2.2.2.2.2.2.2.2.2.2.2.2.2.2.2.2.2.2.2.1, S.2.2.2.2.2.2.2.2.2.2.2.2.2.2.2.2.2.2.2.2.2.2.2.2.1, S.2.2.2.2.2.2.2.2.2.2.2.2.2.2.2.2.2.2.2.2.2.2.2.2.2.1, S.2.2.2.2.2.2.2.2.2.2.2.2.2.2.2.2.2.2.2.2.2.2.2.2.2.2.1, S.2.2.2.2.2.2.2.2.2.2.2.2.2.2.2.2.2.2.2.2.2.2.2.2.2.2.2.1, S.2.2.2.2.2.2.2.2.2.2.2.2.2.2.2.2.2.2.2.2.2.2.2.2.2.2.2.2.1, S.2.2.2.2.2.2.2.2.2.2.2.2.2.2.2.2.2.2.2.2.2.2.2.2.2.2.2.2.2.1, S.2.2.2.2.2.2.2.2.2.2.2.2.2.2.2.2.2.2.2.2.2.2.2.2.2.2.2.2.2.2.1, S.2.2.2.2.2.2.2.2.2.2.2.2.2.2.2.2.2.2.2.2.2.2.2.2.2.2.2.2.2.2.2.1, S.2.2.2.2.2.2.2.2.2.2.2.2.2.2.2.2.2.2.2.2.2.2.2.2.2.2.2.2.2.2.2.2.1, S.2.2.2.2.2.2.2.2.2.2.2.2.2.2.2.2.2.2.2.2.2.2.2.2.2.2.2.2.2.2.2.2.2)
theorem JNEW {n r f : Nat} {ki uf ul fB fA ff oL oU lo up : Nat → Int32} {lt er bo fu : Nat → Nat} {dug dtd : Nat → Bool} {me dE eE lE li : Nat → Nat → Bool} (hn : n ≤ 40) (hv : RV n r lt er) (hdug : ∀ i, n ≤ i → dug i = false) (hfn : ∀ j, j < f → fu j < n) (hI : IRR n (nE ki lt er bo n r dE eE)) : VG n dug (nB ki lt er bo n r) (nJ ki lt er bo n r) (nM ki lt er bo n r me) ∧ DER n r ki lt er (nJ ki lt er bo n r) (nE ki lt er bo n r dE eE) (nL ki lt er bo n r dE eE lE) (nK ki lt er bo n r dE eE li) (nfB ki lt er bo n r dE eE fB) (nfA ki lt er bo n r dE eE lE fA) ∧ VJ n f dtd uf ul fu ff (nJ ki lt er bo n r) (nE ki lt er bo n r dE eE) (nL ki lt er bo n r dE eE lE) (nLo (nOL dtd uf (nJ ki lt er bo n r) fu ff oL n f) (nE ki lt er bo n r dE eE) lo n) (nUp (nOU dtd ul (nJ ki lt er bo n r) oU n) (nL ki lt er bo n r dE eE lE) up n) := by
  have hB : BO n r ki lt er (nJ ki lt er bo n r) := BO_nJ hv
  have hb : ∀ u, u < n → nJ ki lt er bo n r u < n := fun u hu => BO_lt hB hu
  exact ⟨⟨bdS_eq hB, fun u hu _ i => nM_eq hu i, hdug⟩, DER_class hv hn hI, fun v hv B => nLo_le hv hb hfn, fun v hv B => nUp_ge hv hb⟩
set_option maxHeartbeats 2000000 in
set_option maxRecDepth 100000 in
theorem q_addUnit (κ : aK) (a : Nat → Nat) {S : SC} (hS : JS S) (hk : sN S < 40) {z : Int32} (hz : okU 4 z) : ∃ S' : SC, (JS S' ∧ sN S' = sN S + 1 ∧ sR S' = sR S ∧ sF S' = sF S ∧ sDg S' = sDg S) ∧ ∀ X : va_W, CM yX5_addUnit cX5_addUnit 3 (some .int) ({ frames := 6, cells := 0, slots := 0, locals := 130 } : Room) κ [.ref (a 0), .int z] (cS κ a S X) (aD (some (.int (nI (S.1)))) (cS κ a S' X)) := by
  obtain ⟨n, dug, dtd, so, ph, uf, ul, r, ki, lt, er, mz, bd, bo, me, dE, eE, lE, li, fB, fA, sL, f, fu, fs, ff, fl, xs, ys, zs, oL, oU, lo, up⟩ := S
  obtain ⟨⟨⟨hn, hr, hf, hm⟩, hbo, hlt, her, hfu, hv, hfn⟩, hG, hD, hJ⟩ : JV n dug dtd so ph uf ul r ki lt er mz bd bo me eE lE li fB fA f fu ff lo up := hS
  subst hm
  have hk : n < 40 := hk
  obtain ⟨g1, g2, g3⟩ := (JNEW (oL := oL) (oU := oU) (lo := lo) (up := up) (uf := uf) (ul := ul) (ff := ff) (dtd := dtd) (fB := fB) (fA := fA) (me := me) (lE := lE) (li := li) (show n + 1 ≤ 40 by omega) (RV_s hv) (fun i hi => hG.2.2 i (by omega)) (fun j hj => Nat.lt_succ_of_lt (hfn j hj)) (irr_add (c0 := bo) (d1 := dE) (e1 := eE) hv hD))
  exact ⟨((n + 1), dug, dtd, (va_up so n z), ph, uf, ul, r, ki, lt, er, (n + 1), (nB ki lt er bo (n + 1) r), (nJ ki lt er bo (n + 1) r), (nM ki lt er bo (n + 1) r me), (nD ki lt er bo (n + 1) r dE), (nE ki lt er bo (n + 1) r dE eE), (nL ki lt er bo (n + 1) r dE eE lE), (nK ki lt er bo (n + 1) r dE eE li), (nfB ki lt er bo (n + 1) r dE eE fB), (nfA ki lt er bo (n + 1) r dE eE lE fA), sL, f, fu, fs, ff, fl, xs, ys, zs, (nOL dtd uf (nJ ki lt er bo (n + 1) r) fu ff oL (n + 1) f), (nOU dtd ul (nJ ki lt er bo (n + 1) r) oU (n + 1)), (nLo (nOL dtd uf (nJ ki lt er bo (n + 1) r) fu ff oL (n + 1) f) (nE ki lt er bo (n + 1) r dE eE) lo (n + 1)), (nUp (nOU dtd ul (nJ ki lt er bo (n + 1) r) oU (n + 1)) (nL ki lt er bo (n + 1) r dE eE lE) up (n + 1))), ⟨⟨⟨⟨hk, hr, hf, rfl⟩, nJ_lt hbo hk, hlt, her, hfu, RV_s hv, fun j hj => Nat.lt_succ_of_lt (hfn j hj)⟩, g1, g2, g3⟩, rfl, rfl, rfl, rfl⟩, fun X => c_X5_addUnit κ a hz hk hr hf hbo hlt her hfu⟩
theorem whR_0l {so ki : Nat → Int32} {lt er bo : Nat → Nat} {eE : Nat → Nat → Bool} {r : Nat} {kd : Int32} {x y : Nat} (h : whR so ki lt er bo eE r kd x y = 0) : lpB bo eE kd x y = false := by
  cases e : lpB bo eE kd x y with
  | false => rfl
  | true =>
    exfalso
    unfold whR at h
    split at h
    · cases h
    · split at h
      · cases h
      · split at h
        · cases h
        · cases h
/-- why a relation is refused -/
def whS (S : SC) (kd : Int32) (x y : Nat) : Nat := whR S.2.2.2.1 S.2.2.2.2.2.2.2.2.1 S.2.2.2.2.2.2.2.2.2.1 S.2.2.2.2.2.2.2.2.2.2.1 S.2.2.2.2.2.2.2.2.2.2.2.2.2.1 S.2.2.2.2.2.2.2.2.2.2.2.2.2.2.2.2.1 S.2.2.2.2.2.2.2.1 kd x y
set_option maxHeartbeats 2000000 in
set_option maxRecDepth 100000 in
theorem q_relate (κ : aK) (a : Nat → Nat) {S : SC} (hS : JS S) {kd : Int32} {x y : Nat} (hk : okU 5 kd) (hx : x < sN S) (hy : y < sN S) (hr2 : sR S < 80) (h0 : whS S kd x y = 0) : ∃ S' : SC, (JS S' ∧ sN S' = sN S ∧ sR S' = sR S + 1 ∧ sF S' = sF S ∧ sDg S' = sDg S) ∧ ∀ X : va_W, CM yX5_relate cX5_relate 5 (some .int) ({ frames := 7, cells := 0, slots := 0, locals := 131 } : Room) κ [.ref (a 0), .int kd, .int (nI x), .int (nI y)] (cS κ a S X) (aD (some (.int (nI (whS S kd x y)))) (cS κ a S' X)) := by
  obtain ⟨n, dug, dtd, so, ph, uf, ul, r, ki, lt, er, mz, bd, bo, me, dE, eE, lE, li, fB, fA, sL, f, fu, fs, ff, fl, xs, ys, zs, oL, oU, lo, up⟩ := S
  obtain ⟨⟨⟨hn, hr, hf, hm⟩, hbo, hlt, her, hfu, hv, hfn⟩, hG, hD, hJ⟩ : JV n dug dtd so ph uf ul r ki lt er mz bd bo me eE lE li fB fA f fu ff lo up := hS
  subst hm
  have hx : x < n := hx
  have hy : y < n := hy
  have hr2 : r < 80 := hr2
  have h0 : whR so ki lt er bo eE r kd x y = 0 := h0
  have hI := (irr_rel (kd := kd) (c0 := bo) (d1 := dE) (e1 := eE) hv hD hx hy).mpr (whR_0l h0)
  obtain ⟨g1, g2, g3⟩ := (JNEW (oL := oL) (oU := oU) (lo := lo) (up := up) (uf := uf) (ul := ul) (ff := ff) (dtd := dtd) (fB := fB) (fA := fA) (me := me) (lE := lE) (li := li) hn (RV_up hv hx hy) hG.2.2 hfn hI)
  exact ⟨(n, dug, dtd, so, ph, uf, ul, (r + 1), (va_up ki r kd), (va_up lt r x), (va_up er r y), n, (nB (va_up ki r kd) (va_up lt r x) (va_up er r y) bo n (r + 1)), (nJ (va_up ki r kd) (va_up lt r x) (va_up er r y) bo n (r + 1)), (nM (va_up ki r kd) (va_up lt r x) (va_up er r y) bo n (r + 1) me), (nD (va_up ki r kd) (va_up lt r x) (va_up er r y) bo n (r + 1) dE), (nE (va_up ki r kd) (va_up lt r x) (va_up er r y) bo n (r + 1) dE eE), (nL (va_up ki r kd) (va_up lt r x) (va_up er r y) bo n (r + 1) dE eE lE), (nK (va_up ki r kd) (va_up lt r x) (va_up er r y) bo n (r + 1) dE eE li), (nfB (va_up ki r kd) (va_up lt r x) (va_up er r y) bo n (r + 1) dE eE fB), (nfA (va_up ki r kd) (va_up lt r x) (va_up er r y) bo n (r + 1) dE eE lE fA), sL, f, fu, fs, ff, fl, xs, ys, zs, (nOL dtd uf (nJ (va_up ki r kd) (va_up lt r x) (va_up er r y) bo n (r + 1)) fu ff oL n f), (nOU dtd ul (nJ (va_up ki r kd) (va_up lt r x) (va_up er r y) bo n (r + 1)) oU n), (nLo (nOL dtd uf (nJ (va_up ki r kd) (va_up lt r x) (va_up er r y) bo n (r + 1)) fu ff oL n f) (nE (va_up ki r kd) (va_up lt r x) (va_up er r y) bo n (r + 1) dE eE) lo n), (nUp (nOU dtd ul (nJ (va_up ki r kd) (va_up lt r x) (va_up er r y) bo n (r + 1)) oU n) (nL (va_up ki r kd) (va_up lt r x) (va_up er r y) bo n (r + 1) dE eE lE) up n)), ⟨⟨⟨⟨hn, hr2, hf, rfl⟩, nJ_lt hbo hn, fun k => upn_lt hlt (show x < 40 by omega) k, fun k => upn_lt her (show y < 40 by omega) k, hfu, RV_up hv hx hy, hfn⟩, g1, g2, g3⟩, rfl, rfl, rfl, rfl⟩, fun X => c_X5_relate κ a hk hx hy hn hr2 hf hbo hlt her hfu h0⟩
set_option maxHeartbeats 2000000 in
set_option maxRecDepth 100000 in
theorem q_relate_r (κ : aK) (a : Nat → Nat) {S : SC} (hS : JS S) {kd : Int32} {x y : Nat} (hk : okU 5 kd) (hx : x < sN S) (hy : y < sN S) (hr2 : sR S < 80) (h0 : ¬ whS S kd x y = 0) : ∃ S' : SC, (JS S' ∧ S' = S) ∧ ∀ X : va_W, CM yX5_relate cX5_relate 5 (some .int) ({ frames := 7, cells := 0, slots := 0, locals := 131 } : Room) κ [.ref (a 0), .int kd, .int (nI x), .int (nI y)] (cS κ a S X) (aD (some (.int (nI (whS S kd x y)))) (cS κ a S' X)) := by
  obtain ⟨n, dug, dtd, so, ph, uf, ul, r, ki, lt, er, mz, bd, bo, me, dE, eE, lE, li, fB, fA, sL, f, fu, fs, ff, fl, xs, ys, zs, oL, oU, lo, up⟩ := S
  obtain ⟨⟨⟨hn, hr, hf, hm⟩, hbo, hlt, her, hfu, hv, hfn⟩, hG, hD, hJ⟩ : JV n dug dtd so ph uf ul r ki lt er mz bd bo me eE lE li fB fA f fu ff lo up := hS
  subst hm
  have hS0 : JS (n, dug, dtd, so, ph, uf, ul, r, ki, lt, er, n, bd, bo, me, dE, eE, lE, li, fB, fA, sL, f, fu, fs, ff, fl, xs, ys, zs, oL, oU, lo, up) := ⟨⟨⟨hn, hr, hf, rfl⟩, hbo, hlt, her, hfu, hv, hfn⟩, hG, hD, hJ⟩
  exact ⟨(n, dug, dtd, so, ph, uf, ul, r, ki, lt, er, n, bd, bo, me, dE, eE, lE, li, fB, fA, sL, f, fu, fs, ff, fl, xs, ys, zs, oL, oU, lo, up), ⟨hS0, rfl⟩, fun X => c_X5_relate_r κ a hk hx hy hn hr2 hf hbo hlt her hfu h0⟩
set_option maxHeartbeats 2000000 in
set_option maxRecDepth 100000 in
theorem q_takeBack (κ : aK) (a : Nat → Nat) {S : SC} (hS : JS S) {j : Nat} (hj : j < sR S) : ∃ S' : SC, (JS S' ∧ sN S' = sN S ∧ sR S' = sR S - 1 ∧ sF S' = sF S ∧ sDg S' = sDg S) ∧ ∀ X : va_W, CM yX5_takeBack cX5_takeBack 2 (some .int) ({ frames := 7, cells := 0, slots := 0, locals := 131 } : Room) κ [.ref (a 0), .int (nI j)] (cS κ a S X) (aD (some (.int (nI ((S.2.2.2.2.2.2.2.1) - 1)))) (cS κ a S' X)) := by
  obtain ⟨n, dug, dtd, so, ph, uf, ul, r, ki, lt, er, mz, bd, bo, me, dE, eE, lE, li, fB, fA, sL, f, fu, fs, ff, fl, xs, ys, zs, oL, oU, lo, up⟩ := S
  obtain ⟨⟨⟨hn, hr, hf, hm⟩, hbo, hlt, her, hfu, hv, hfn⟩, hG, hD, hJ⟩ : JV n dug dtd so ph uf ul r ki lt er mz bd bo me eE lE li fB fA f fu ff lo up := hS
  subst hm
  obtain ⟨g1, g2, g3⟩ := (JNEW (oL := oL) (oU := oU) (lo := lo) (up := up) (uf := uf) (ul := ul) (ff := ff) (dtd := dtd) (fB := fB) (fA := fA) (me := me) (lE := lE) (li := li) hn (RV_sft (j := j) hv) hG.2.2 hfn (irr_sft (c0 := bo) (d1 := dE) (e1 := eE) hv hD))
  exact ⟨(n, dug, dtd, so, ph, uf, ul, (r - 1), (sft ki j r), (sft lt j r), (sft er j r), n, (nB (sft ki j r) (sft lt j r) (sft er j r) bo n (r - 1)), (nJ (sft ki j r) (sft lt j r) (sft er j r) bo n (r - 1)), (nM (sft ki j r) (sft lt j r) (sft er j r) bo n (r - 1) me), (nD (sft ki j r) (sft lt j r) (sft er j r) bo n (r - 1) dE), (nE (sft ki j r) (sft lt j r) (sft er j r) bo n (r - 1) dE eE), (nL (sft ki j r) (sft lt j r) (sft er j r) bo n (r - 1) dE eE lE), (nK (sft ki j r) (sft lt j r) (sft er j r) bo n (r - 1) dE eE li), (nfB (sft ki j r) (sft lt j r) (sft er j r) bo n (r - 1) dE eE fB), (nfA (sft ki j r) (sft lt j r) (sft er j r) bo n (r - 1) dE eE lE fA), sL, f, fu, fs, ff, fl, xs, ys, zs, (nOL dtd uf (nJ (sft ki j r) (sft lt j r) (sft er j r) bo n (r - 1)) fu ff oL n f), (nOU dtd ul (nJ (sft ki j r) (sft lt j r) (sft er j r) bo n (r - 1)) oU n), (nLo (nOL dtd uf (nJ (sft ki j r) (sft lt j r) (sft er j r) bo n (r - 1)) fu ff oL n f) (nE (sft ki j r) (sft lt j r) (sft er j r) bo n (r - 1) dE eE) lo n), (nUp (nOU dtd ul (nJ (sft ki j r) (sft lt j r) (sft er j r) bo n (r - 1)) oU n) (nL (sft ki j r) (sft lt j r) (sft er j r) bo n (r - 1) dE eE lE) up n)), ⟨⟨⟨⟨hn, Nat.le_trans (Nat.sub_le r 1) hr, hf, rfl⟩, nJ_lt hbo hn, sft_lt hlt, sft_lt her, hfu, RV_sft hv, hfn⟩, g1, g2, g3⟩, rfl, rfl, rfl, rfl⟩, fun X => c_X5_takeBack κ a hn hr hj hf hbo hlt her hfu⟩
set_option maxHeartbeats 2000000 in
set_option maxRecDepth 100000 in
theorem q_addFind (κ : aK) (a : Nat → Nat) {S : SC} (hS : JS S) {u : Nat} {s0 a1 b1 : Int32} (hu : u < sN S) (hs : okU 10 s0) (h1 : yrB a1 = true) (h2 : yrB b1 = true) (h3 : a1 ≤ b1) (hf2 : sF S < 60) : ∃ S' : SC, (JS S' ∧ sN S' = sN S ∧ sR S' = sR S ∧ sF S' = sF S + 1 ∧ sDg S' = sDg S) ∧ ∀ X : va_W, CM yX5_addFind cX5_addFind 6 (some .int) ({ frames := 7, cells := 0, slots := 0, locals := 131 } : Room) κ [.ref (a 0), .int (nI u), .int s0, .int a1, .int b1] (cS κ a S X) (aD (some (.int (nI (S.2.2.2.2.2.2.2.2.2.2.2.2.2.2.2.2.2.2.2.2.2.2.1)))) (cS κ a S' X)) := by
  obtain ⟨n, dug, dtd, so, ph, uf, ul, r, ki, lt, er, mz, bd, bo, me, dE, eE, lE, li, fB, fA, sL, f, fu, fs, ff, fl, xs, ys, zs, oL, oU, lo, up⟩ := S
  obtain ⟨⟨⟨hn, hr, hf, hm⟩, hbo, hlt, her, hfu, hv, hfn⟩, hG, hD, hJ⟩ : JV n dug dtd so ph uf ul r ki lt er mz bd bo me eE lE li fB fA f fu ff lo up := hS
  subst hm
  have hu : u < n := hu
  exact ⟨(n, dug, dtd, so, ph, uf, ul, r, ki, lt, er, n, bd, bo, me, dE, eE, lE, li, fB, fA, sL, (f + 1), (va_up fu f u), (va_up fs f s0), (va_up ff f a1), (va_up fl f b1), xs, ys, zs, (nOL dtd uf bo (va_up fu f u) (va_up ff f a1) oL n (f + 1)), (nOU dtd ul bo oU n), (nLo (nOL dtd uf bo (va_up fu f u) (va_up ff f a1) oL n (f + 1)) eE lo n), (nUp (nOU dtd ul bo oU n) lE up n)), ⟨⟨⟨⟨hn, hr, hf2, rfl⟩, hbo, hlt, her, fun k => upn_lt hfu (show u < 40 by omega) k, hv, fn_add hu hfn⟩, hG, hD, VJ_new (fun u hu => ⟨BO_lt hD.1 hu, BO_id hD.1 hu⟩) (fn_add hu hfn)⟩, rfl, rfl, rfl, rfl⟩, fun X => c_X5_addFind κ a hn hbo hfu hu hs h1 h2 h3 hf2⟩
set_option maxHeartbeats 2000000 in
set_option maxRecDepth 100000 in
theorem q_date (κ : aK) (a : Nat → Nat) {S : SC} (hS : JS S) {u : Nat} {a1 b1 : Int32} (hu : u < sN S) (h1 : yrB a1 = true) (h2 : yrB b1 = true) : ∃ S' : SC, (JS S' ∧ sN S' = sN S ∧ sR S' = sR S ∧ sF S' = sF S ∧ sDg S' = sDg S) ∧ ∀ X : va_W, CM yX5_date cX5_date 5 (some .int) ({ frames := 7, cells := 0, slots := 0, locals := 131 } : Room) κ [.ref (a 0), .int (nI u), .int a1, .int b1] (cS κ a S X) (aD (some (.int (b2i ((S.2.2.1) u)))) (cS κ a S' X)) := by
  obtain ⟨n, dug, dtd, so, ph, uf, ul, r, ki, lt, er, mz, bd, bo, me, dE, eE, lE, li, fB, fA, sL, f, fu, fs, ff, fl, xs, ys, zs, oL, oU, lo, up⟩ := S
  obtain ⟨⟨⟨hn, hr, hf, hm⟩, hbo, hlt, her, hfu, hv, hfn⟩, hG, hD, hJ⟩ : JV n dug dtd so ph uf ul r ki lt er mz bd bo me eE lE li fB fA f fu ff lo up := hS
  subst hm
  have hu : u < n := hu
  exact ⟨(n, dug, (va_up dtd u (decide (a1 ≤ b1))), so, ph, (va_up uf u a1), (va_up ul u b1), r, ki, lt, er, n, bd, bo, me, dE, eE, lE, li, fB, fA, sL, f, fu, fs, ff, fl, xs, ys, zs, (nOL (va_up dtd u (decide (a1 ≤ b1))) (va_up uf u a1) bo fu ff oL n f), (nOU (va_up dtd u (decide (a1 ≤ b1))) (va_up ul u b1) bo oU n), (nLo (nOL (va_up dtd u (decide (a1 ≤ b1))) (va_up uf u a1) bo fu ff oL n f) eE lo n), (nUp (nOU (va_up dtd u (decide (a1 ≤ b1))) (va_up ul u b1) bo oU n) lE up n)), ⟨⟨⟨⟨hn, hr, hf, rfl⟩, hbo, hlt, her, hfu, hv, hfn⟩, hG, hD, VJ_new (fun u hu => ⟨BO_lt hD.1 hu, BO_id hD.1 hu⟩) hfn⟩, rfl, rfl, rfl, rfl⟩, fun X => c_X5_date κ a hn hf hbo hfu hu h1 h2⟩
def phT (S : SC) : SC := (S.1, S.2.1, S.2.2.1, S.2.2.2.1, (pre (phG S.2.2.2.2.2.2.2.2.2.2.2.2.2.1 S.2.2.2.2.2.2.2.2.2.2.2.2.2.2.2.2.2.2.2.1) S.2.2.2.2.1 S.1), S.2.2.2.2.2.1, S.2.2.2.2.2.2.1, S.2.2.2.2.2.2.2.1, S.2.2.2.2.2.2.2.2.1, S.2.2.2.2.2.2.2.2.2.1, S.2.2.2.2.2.2.2.2.2.2.1, S.2.2.2.2.2.2.2.2.2.2.2.1, S.2.2.2.2.2.2.2.2.2.2.2.2.1, S.2.2.2.2.2.2.2.2.2.2.2.2.2.1, S.2.2.2.2.2.2.2.2.2.2.2.2.2.2.1, S.2.2.2.2.2.2.2.2.2.2.2.2.2.2.2.1, S.2.2.2.2.2.2.2.2.2.2.2.2.2.2.2.2.1, S.2.2.2.2.2.2.2.2.2.2.2.2.2.2.2.2.2.1, S.2.2.2.2.2.2.2.2.2.2.2.2.2.2.2.2.2.2.1, S.2.2.2.2.2.2.2.2.2.2.2.2.2.2.2.2.2.2.2.1, S.2.2.2.2.2.2.2.2.2.2.2.2.2.2.2.2.2.2.2.2.1, S.2.2.2.2.2.2.2.2.2.2.2.2.2.2.2.2.2.2.2.2.2.1, S.2.2.2.2.2.2.2.2.2.2.2.2.2.2.2.2.2.2.2.2.2.2.1, S.2.2.2.2.2.2.2.2.2.2.2.2.2.2.2.2.2.2.2.2.2.2.2.1, S.2.2.2.2.2.2.2.2.2.2.2.2.2.2.2.2.2.2.2.2.2.2.2.2.1, S.2.2.2.2.2.2.2.2.2.2.2.2.2.2.2.2.2.2.2.2.2.2.2.2.2.1, S.2.2.2.2.2.2.2.2.2.2.2.2.2.2.2.2.2.2.2.2.2.2.2.2.2.2.1, S.2.2.2.2.2.2.2.2.2.2.2.2.2.2.2.2.2.2.2.2.2.2.2.2.2.2.2.1, S.2.2.2.2.2.2.2.2.2.2.2.2.2.2.2.2.2.2.2.2.2.2.2.2.2.2.2.2.1, S.2.2.2.2.2.2.2.2.2.2.2.2.2.2.2.2.2.2.2.2.2.2.2.2.2.2.2.2.2.1, S.2.2.2.2.2.2.2.2.2.2.2.2.2.2.2.2.2.2.2.2.2.2.2.2.2.2.2.2.2.2.1, S.2.2.2.2.2.2.2.2.2.2.2.2.2.2.2.2.2.2.2.2.2.2.2.2.2.2.2.2.2.2.2.1, S.2.2.2.2.2.2.2.2.2.2.2.2.2.2.2.2.2.2.2.2.2.2.2.2.2.2.2.2.2.2.2.2.1, S.2.2.2.2.2.2.2.2.2.2.2.2.2.2.2.2.2.2.2.2.2.2.2.2.2.2.2.2.2.2.2.2.2)
def paS (S : SC) : Nat := cnt (fun v => !(decide ((S.2.2.2.2.1) v = phG (S.2.2.2.2.2.2.2.2.2.2.2.2.2.1) (S.2.2.2.2.2.2.2.2.2.2.2.2.2.2.2.2.2.2.2.1) v))) (S.1)
set_option maxHeartbeats 2000000 in
set_option maxRecDepth 100000 in
theorem q_phaseAll (κ : aK) (a : Nat → Nat) {S : SC} (hS : JS S)  : ∃ S' : SC, (JS S' ∧ S' = phT S) ∧ ∀ X : va_W, CM yX5_phaseAll cX5_phaseAll 4 (some .int) ({ frames := 1, cells := 0, slots := 0, locals := 21 } : Room) κ [.ref (a 0)] (cS κ a S X) (aD (some (.int (nI (paS S)))) (cS κ a S' X)) := by
  obtain ⟨n, dug, dtd, so, ph, uf, ul, r, ki, lt, er, mz, bd, bo, me, dE, eE, lE, li, fB, fA, sL, f, fu, fs, ff, fl, xs, ys, zs, oL, oU, lo, up⟩ := S
  obtain ⟨⟨⟨hn, hr, hf, hm⟩, hbo, hlt, her, hfu, hv, hfn⟩, hG, hD, hJ⟩ : JV n dug dtd so ph uf ul r ki lt er mz bd bo me eE lE li fB fA f fu ff lo up := hS
  subst hm
  exact ⟨(n, dug, dtd, so, (pre (phG bo fB) ph n), uf, ul, r, ki, lt, er, n, bd, bo, me, dE, eE, lE, li, fB, fA, sL, f, fu, fs, ff, fl, xs, ys, zs, oL, oU, lo, up), ⟨⟨⟨⟨hn, hr, hf, rfl⟩, hbo, hlt, her, hfu, hv, hfn⟩, hG, hD, hJ⟩, rfl⟩, fun X => c_X5_phaseAll κ a hn hbo⟩
def cdS (S : SC) (u : Nat) : Bool := cdB S.1 S.2.2.2.2.2.2.2.2.2.2.2.2.2.1 S.2.2.2.2.2.2.2.2.2.2.2.2.2.2.2.2.1 S.2.1 u
def dgT (S : SC) (u : Nat) : SC := (S.1, (fun i => sDg S i || decide (i = u)), S.2.2.1, S.2.2.2.1, S.2.2.2.2.1, S.2.2.2.2.2.1, S.2.2.2.2.2.2.1, S.2.2.2.2.2.2.2.1, S.2.2.2.2.2.2.2.2.1, S.2.2.2.2.2.2.2.2.2.1, S.2.2.2.2.2.2.2.2.2.2.1, S.2.2.2.2.2.2.2.2.2.2.2.1, S.2.2.2.2.2.2.2.2.2.2.2.2.1, S.2.2.2.2.2.2.2.2.2.2.2.2.2.1, S.2.2.2.2.2.2.2.2.2.2.2.2.2.2.1, S.2.2.2.2.2.2.2.2.2.2.2.2.2.2.2.1, S.2.2.2.2.2.2.2.2.2.2.2.2.2.2.2.2.1, S.2.2.2.2.2.2.2.2.2.2.2.2.2.2.2.2.2.1, S.2.2.2.2.2.2.2.2.2.2.2.2.2.2.2.2.2.2.1, S.2.2.2.2.2.2.2.2.2.2.2.2.2.2.2.2.2.2.2.1, S.2.2.2.2.2.2.2.2.2.2.2.2.2.2.2.2.2.2.2.2.1, S.2.2.2.2.2.2.2.2.2.2.2.2.2.2.2.2.2.2.2.2.2.1, S.2.2.2.2.2.2.2.2.2.2.2.2.2.2.2.2.2.2.2.2.2.2.1, S.2.2.2.2.2.2.2.2.2.2.2.2.2.2.2.2.2.2.2.2.2.2.2.1, S.2.2.2.2.2.2.2.2.2.2.2.2.2.2.2.2.2.2.2.2.2.2.2.2.1, S.2.2.2.2.2.2.2.2.2.2.2.2.2.2.2.2.2.2.2.2.2.2.2.2.2.1, S.2.2.2.2.2.2.2.2.2.2.2.2.2.2.2.2.2.2.2.2.2.2.2.2.2.2.1, S.2.2.2.2.2.2.2.2.2.2.2.2.2.2.2.2.2.2.2.2.2.2.2.2.2.2.2.1, S.2.2.2.2.2.2.2.2.2.2.2.2.2.2.2.2.2.2.2.2.2.2.2.2.2.2.2.2.1, S.2.2.2.2.2.2.2.2.2.2.2.2.2.2.2.2.2.2.2.2.2.2.2.2.2.2.2.2.2.1, S.2.2.2.2.2.2.2.2.2.2.2.2.2.2.2.2.2.2.2.2.2.2.2.2.2.2.2.2.2.2.1, S.2.2.2.2.2.2.2.2.2.2.2.2.2.2.2.2.2.2.2.2.2.2.2.2.2.2.2.2.2.2.2.1, S.2.2.2.2.2.2.2.2.2.2.2.2.2.2.2.2.2.2.2.2.2.2.2.2.2.2.2.2.2.2.2.2.1, S.2.2.2.2.2.2.2.2.2.2.2.2.2.2.2.2.2.2.2.2.2.2.2.2.2.2.2.2.2.2.2.2.2)
set_option maxHeartbeats 2000000 in
set_option maxRecDepth 100000 in
theorem q_dig (κ : aK) (a : Nat → Nat) {S : SC} (hS : JS S) {u : Nat} (hu : u < sN S) (hc : cdS S u = true) : ∃ S' : SC, (JS S' ∧ S' = dgT S u) ∧ ∀ X : va_W, CM yX5_dig cX5_dig 2 (some .int) ({ frames := 7, cells := 0, slots := 0, locals := 131 } : Room) κ [.ref (a 0), .int (nI u)] (cS κ a S X) (aD (some (.int (bcI (bs (selS (fun v => cdB (S.1) (S.2.2.2.2.2.2.2.2.2.2.2.2.2.1) (S.2.2.2.2.2.2.2.2.2.2.2.2.2.2.2.2.1) (fun i => (S.2.1) i || decide (i = u)) v) (S.1)))))) (cS κ a S' X)) := by
  obtain ⟨n, dug, dtd, so, ph, uf, ul, r, ki, lt, er, mz, bd, bo, me, dE, eE, lE, li, fB, fA, sL, f, fu, fs, ff, fl, xs, ys, zs, oL, oU, lo, up⟩ := S
  obtain ⟨⟨⟨hn, hr, hf, hm⟩, hbo, hlt, her, hfu, hv, hfn⟩, hG, hD, hJ⟩ : JV n dug dtd so ph uf ul r ki lt er mz bd bo me eE lE li fB fA f fu ff lo up := hS
  subst hm
  have hu : u < n := hu
  have hdg : ∀ i, n ≤ i → (dug i || decide (i = u)) = false := fun i hi => by rw [hG.2.2 i hi, decide_eq_false (by omega)]; rfl
  exact ⟨(n, (fun i => dug i || decide (i = u)), dtd, so, ph, uf, ul, r, ki, lt, er, n, bd, bo, me, dE, eE, lE, li, fB, fA, sL, f, fu, fs, ff, fl, xs, ys, zs, oL, oU, lo, up), ⟨⟨⟨⟨hn, hr, hf, rfl⟩, hbo, hlt, her, hfu, hv, hfn⟩, ⟨hG.1, hG.2.1, hdg⟩, hD, hJ⟩, rfl⟩, fun X => c_X5_dig κ a hn hbo hu hc⟩
def utS (S : SC) (j q : Nat) : Int32 := utR S.2.2.2.1 S.2.2.2.2.1 S.2.2.2.2.2.2.2.2.2.2.2.2.2.2.2.2.2.2.2.1 S.2.2.2.2.2.2.2.2.2.2.2.2.2.2.2.2.2.2.2.2.1 S.2.2.2.2.2.2.2.2.2.2.2.2.2.1 S.2.2.2.2.2.2.2.2.2.2.2.2.2.2.2.2.2.2.2.2.2.2.2.1 S.2.2.2.2.2.2.2.2.2.2.2.2.2.2.1 S.2.2.2.2.2.2.2.2.2.2.2.2.2.2.2.2.1 S.2.2.2.2.2.2.2.2.2.2.2.2.2.2.2.2.2.1 S.2.1 S.2.2.2.2.2.2.2.2.2.2.2.2.2.2.2.2.2.2.2.2.2.2.1 j q
def odS (S : SC) (x y : Nat) : Int32 := odR S.2.2.2.2.2.2.2.2.2.2.2.2.2.1 S.2.2.2.2.2.2.2.2.2.2.2.2.2.2.2.2.1 x y
def lkS (S : SC) (x y : Nat) : Bool := S.2.2.2.2.2.2.2.2.2.2.2.2.2.2.2.2.2.2.1 (S.2.2.2.2.2.2.2.2.2.2.2.2.2.1 x) (S.2.2.2.2.2.2.2.2.2.2.2.2.2.1 y)
def btS (S : SC) (x y : Nat) : Int32 := bcI (bs (fun i => S.2.2.2.2.2.2.2.2.2.2.2.2.2.2.2.2.1 (S.2.2.2.2.2.2.2.2.2.2.2.2.2.1 x) i && S.2.2.2.2.2.2.2.2.2.2.2.2.2.2.2.2.2.1 (S.2.2.2.2.2.2.2.2.2.2.2.2.2.1 y) i))
def bnS (S : SC) (u : Nat) (isU : Bool) : Int32 := (if isU = true then S.2.2.2.2.2.2.2.2.2.2.2.2.2.2.2.2.2.2.2.2.2.2.2.2.2.2.2.2.2.2.2.2.2 else S.2.2.2.2.2.2.2.2.2.2.2.2.2.2.2.2.2.2.2.2.2.2.2.2.2.2.2.2.2.2.2.2.1) (S.2.2.2.2.2.2.2.2.2.2.2.2.2.1 u)
def ctS (S : SC) (q : Nat) : Int32 := ctR S.1 S.2.2.2.2.2.2.2.1 S.1 S.2.2.2.2.2.2.2.2.2.2.2.2.2.2.2.2.2.2.2.2.2.2.1 S.2.2.2.2.2.2.2.2.2.2.2.2.1 S.2.1 S.2.2.2.2.2.2.2.2.2.2.2.2.2.2.2.2.2.2.1 S.2.2.2.2.2.2.2.2.2.2.2.2.2.2.2.2.2.2.2.1 S.2.2.2.2.2.2.2.2.2.2.2.2.2.2.2.2.2.2.2.2.2.2.2.2.2.2.2.2.2.2.2.2.1 S.2.2.2.2.2.2.2.2.2.2.2.2.2.2.2.2.2.2.2.2.2.2.2.2.2.2.2.2.2.2.2.2.2 S.2.2.2.2.2.2.2.2.2.2.2.2.2.1 S.2.2.2.2.2.2.2.2.2.2.2.2.2.2.2.2.1 S.2.2.2.2.1 q
def nxS2 (S : SC) (y : Nat) : Option Nat := elA (selS (fun u => cdB S.1 S.2.2.2.2.2.2.2.2.2.2.2.2.2.1 S.2.2.2.2.2.2.2.2.2.2.2.2.2.2.2.2.1 S.2.1 u) S.1) y 40
def dgS2 (S : SC) : Int64 := dgN (ftR S.2.2.2.2.2.2.2.2.2.2.2.2.2.2.2.2.2.2.2.2.2.2.2.1 S.2.2.2.2.2.2.2.2.2.2.2.2.2.2.2.2.2.2.2.2.2.2.2.2.1 S.2.2.2.2.2.2.2.2.2.2.2.2.2.2.2.2.2.2.2.2.2.2.2.2.2.1 S.2.2.2.2.2.2.2.2.2.2.2.2.2.2.2.2.2.2.2.2.2.2.2.2.2.2.1 S.2.2.2.2.2.2.2.2.2.2.2.2.2.2.2.2.2.2.2.2.2.2.2.2.2.2.2.1 S.2.2.2.2.2.2.2.2.2.2.2.2.2.2.2.2.2.2.2.2.2.2.2.2.2.2.2.2.1 S.2.2.2.2.2.2.2.2.2.2.2.2.2.2.2.2.2.2.2.2.2.2.2.2.2.2.2.2.2.1 S.2.2.2.2.2.2.2.2.2.2.2.2.2.1 S.2.2.2.2.2.2.2.2.2.2.2.2.2.2.2.2.2.2.2.2.2.2.2.2.2.2.2.2.2.2.2.2.1 S.2.2.2.2.2.2.2.2.2.2.2.2.2.2.2.2.2.2.2.2.2.2.2.2.2.2.2.2.2.2.2.2.2) 8 (dgN (rtR S.2.2.2.2.2.2.2.2.1 S.2.2.2.2.2.2.2.2.2.1 S.2.2.2.2.2.2.2.2.2.2.1) 3 (dgU (utR S.2.2.2.1 S.2.2.2.2.1 S.2.2.2.2.2.2.2.2.2.2.2.2.2.2.2.2.2.2.2.1 S.2.2.2.2.2.2.2.2.2.2.2.2.2.2.2.2.2.2.2.2.1 S.2.2.2.2.2.2.2.2.2.2.2.2.2.1 S.2.2.2.2.2.2.2.2.2.2.2.2.2.2.2.2.2.2.2.2.2.2.2.1 S.2.2.2.2.2.2.2.2.2.2.2.2.2.2.1 S.2.2.2.2.2.2.2.2.2.2.2.2.2.2.2.2.1 S.2.2.2.2.2.2.2.2.2.2.2.2.2.2.2.2.2.1 S.2.1 S.2.2.2.2.2.2.2.2.2.2.2.2.2.2.2.2.2.2.2.2.2.2.1) (fun v => S.2.2.2.2.2.2.2.2.2.2.2.2.2.2.2.2.2.2.2.2.2.2.2.2.2.2.2.2.2.2.2.2.1 (S.2.2.2.2.2.2.2.2.2.2.2.2.2.1 v)) (fun v => S.2.2.2.2.2.2.2.2.2.2.2.2.2.2.2.2.2.2.2.2.2.2.2.2.2.2.2.2.2.2.2.2.2 (S.2.2.2.2.2.2.2.2.2.2.2.2.2.1 v)) (dgS (ctR S.1 S.2.2.2.2.2.2.2.1 S.1 S.2.2.2.2.2.2.2.2.2.2.2.2.2.2.2.2.2.2.2.2.2.2.1 S.2.2.2.2.2.2.2.2.2.2.2.2.1 S.2.1 S.2.2.2.2.2.2.2.2.2.2.2.2.2.2.2.2.2.2.1 S.2.2.2.2.2.2.2.2.2.2.2.2.2.2.2.2.2.2.2.1 S.2.2.2.2.2.2.2.2.2.2.2.2.2.2.2.2.2.2.2.2.2.2.2.2.2.2.2.2.2.2.2.2.1 S.2.2.2.2.2.2.2.2.2.2.2.2.2.2.2.2.2.2.2.2.2.2.2.2.2.2.2.2.2.2.2.2.2 S.2.2.2.2.2.2.2.2.2.2.2.2.2.1 S.2.2.2.2.2.2.2.2.2.2.2.2.2.2.2.2.1 S.2.2.2.2.1) 431 9) S.1) S.2.2.2.2.2.2.2.1) S.2.2.2.2.2.2.2.2.2.2.2.2.2.2.2.2.2.2.2.2.2.2.1
def wyV (S : SC) (x y i : Nat) (z : Nat → Int32) : Option Nat := wyR S.1 S.2.2.2.2.2.2.2.2.2.2.2.2.2.2.2.2.2.2.1 S.2.2.2.2.2.2.2.2.2.2.2.2.2.2.2.2.1 S.2.2.2.2.2.2.2.2.2.2.2.2.2.2.2.2.2.1 z (S.2.2.2.2.2.2.2.2.2.2.2.2.2.1 x) (S.2.2.2.2.2.2.2.2.2.2.2.2.2.1 y) i
set_option maxHeartbeats 2000000 in
set_option maxRecDepth 100000 in
theorem q_unit (κ : aK) (a : Nat → Nat) {S : SC} (hS : JS S) {j q : Nat} (hj : j < sN S) (hq : q < 10) (z : Nat → Int32) (X : va_W) : CM yX5_unit cX5_unit 4 (some .int) ({ frames := 7, cells := 0, slots := 0, locals := 131 } : Room) κ [.ref (a 0), .int (nI j), .int (nI q)] (cS κ a (stL S z) X) (aD (some (.int (utS S j q))) (cS κ a (stL S z) X)) := by
  obtain ⟨n, dug, dtd, so, ph, uf, ul, r, ki, lt, er, mz, bd, bo, me, dE, eE, lE, li, fB, fA, sL, f, fu, fs, ff, fl, xs, ys, zs, oL, oU, lo, up⟩ := S
  obtain ⟨⟨⟨hn, hr, hf, hm⟩, hbo, hlt, her, hfu, hv, hfn⟩, hG, hD, hJ⟩ : JV n dug dtd so ph uf ul r ki lt er mz bd bo me eE lE li fB fA f fu ff lo up := hS
  subst hm
  exact c_X5_unit κ a hn hf hbo hfu hj hq
set_option maxHeartbeats 2000000 in
set_option maxRecDepth 100000 in
theorem q_order (κ : aK) (a : Nat → Nat) {S : SC} (hS : JS S) {x y : Nat} (hx : x < sN S) (hy : y < sN S) (z : Nat → Int32) (X : va_W) : CM yX5_order cX5_order 3 (some .int) ({ frames := 7, cells := 0, slots := 0, locals := 131 } : Room) κ [.ref (a 0), .int (nI x), .int (nI y)] (cS κ a (stL S z) X) (aD (some (.int (odS S x y))) (cS κ a (stL S z) X)) := by
  obtain ⟨n, dug, dtd, so, ph, uf, ul, r, ki, lt, er, mz, bd, bo, me, dE, eE, lE, li, fB, fA, sL, f, fu, fs, ff, fl, xs, ys, zs, oL, oU, lo, up⟩ := S
  obtain ⟨⟨⟨hn, hr, hf, hm⟩, hbo, hlt, her, hfu, hv, hfn⟩, hG, hD, hJ⟩ : JV n dug dtd so ph uf ul r ki lt er mz bd bo me eE lE li fB fA f fu ff lo up := hS
  subst hm
  exact c_X5_order κ a hn hbo hx hy
set_option maxHeartbeats 2000000 in
set_option maxRecDepth 100000 in
theorem q_isLinked (κ : aK) (a : Nat → Nat) {S : SC} (hS : JS S) {x y : Nat} (hx : x < sN S) (hy : y < sN S) (z : Nat → Int32) (X : va_W) : CM yX5_isLinked cX5_isLinked 3 (some .boolean) ({ frames := 7, cells := 0, slots := 0, locals := 131 } : Room) κ [.ref (a 0), .int (nI x), .int (nI y)] (cS κ a (stL S z) X) (aD (some (.int (b2i (lkS S x y)))) (cS κ a (stL S z) X)) := by
  obtain ⟨n, dug, dtd, so, ph, uf, ul, r, ki, lt, er, mz, bd, bo, me, dE, eE, lE, li, fB, fA, sL, f, fu, fs, ff, fl, xs, ys, zs, oL, oU, lo, up⟩ := S
  obtain ⟨⟨⟨hn, hr, hf, hm⟩, hbo, hlt, her, hfu, hv, hfn⟩, hG, hD, hJ⟩ : JV n dug dtd so ph uf ul r ki lt er mz bd bo me eE lE li fB fA f fu ff lo up := hS
  subst hm
  exact c_X5_isLinked κ a hn hbo hx hy
set_option maxHeartbeats 2000000 in
set_option maxRecDepth 100000 in
theorem q_between (κ : aK) (a : Nat → Nat) {S : SC} (hS : JS S) {x y : Nat} (hx : x < sN S) (hy : y < sN S) (z : Nat → Int32) (X : va_W) : CM yX5_between cX5_between 3 (some .int) ({ frames := 7, cells := 0, slots := 0, locals := 131 } : Room) κ [.ref (a 0), .int (nI x), .int (nI y)] (cS κ a (stL S z) X) (aD (some (.int (btS S x y))) (cS κ a (stL S z) X)) := by
  obtain ⟨n, dug, dtd, so, ph, uf, ul, r, ki, lt, er, mz, bd, bo, me, dE, eE, lE, li, fB, fA, sL, f, fu, fs, ff, fl, xs, ys, zs, oL, oU, lo, up⟩ := S
  obtain ⟨⟨⟨hn, hr, hf, hm⟩, hbo, hlt, her, hfu, hv, hfn⟩, hG, hD, hJ⟩ : JV n dug dtd so ph uf ul r ki lt er mz bd bo me eE lE li fB fA f fu ff lo up := hS
  subst hm
  exact c_X5_between κ a hn hbo hx hy
set_option maxHeartbeats 2000000 in
set_option maxRecDepth 100000 in
theorem q_bound (κ : aK) (a : Nat → Nat) {S : SC} (hS : JS S) {u : Nat} (hu : u < sN S) (isU : Bool) (z : Nat → Int32) (X : va_W) : CM yX5_bound cX5_bound 4 (some .int) ({ frames := 7, cells := 0, slots := 0, locals := 131 } : Room) κ [.ref (a 0), .int (nI u), .int (b2i isU)] (cS κ a (stL S z) X) (aD (some (.int (bnS S u isU))) (cS κ a (stL S z) X)) := by
  obtain ⟨n, dug, dtd, so, ph, uf, ul, r, ki, lt, er, mz, bd, bo, me, dE, eE, lE, li, fB, fA, sL, f, fu, fs, ff, fl, xs, ys, zs, oL, oU, lo, up⟩ := S
  obtain ⟨⟨⟨hn, hr, hf, hm⟩, hbo, hlt, her, hfu, hv, hfn⟩, hG, hD, hJ⟩ : JV n dug dtd so ph uf ul r ki lt er mz bd bo me eE lE li fB fA f fu ff lo up := hS
  subst hm
  exact c_X5_bound κ a hn hbo hu
set_option maxHeartbeats 2000000 in
set_option maxRecDepth 100000 in
theorem q_count (κ : aK) (a : Nat → Nat) {S : SC} (hS : JS S) {q : Nat} (hq : q < 9) (z : Nat → Int32) (X : va_W) : CM yX5_count cX5_count 2 (some .int) ({ frames := 7, cells := 0, slots := 0, locals := 131 } : Room) κ [.ref (a 0), .int (nI q)] (cS κ a (stL S z) X) (aD (some (.int (ctS S q))) (cS κ a (stL S z) X)) := by
  obtain ⟨n, dug, dtd, so, ph, uf, ul, r, ki, lt, er, mz, bd, bo, me, dE, eE, lE, li, fB, fA, sL, f, fu, fs, ff, fl, xs, ys, zs, oL, oU, lo, up⟩ := S
  obtain ⟨⟨⟨hn, hr, hf, hm⟩, hbo, hlt, her, hfu, hv, hfn⟩, hG, hD, hJ⟩ : JV n dug dtd so ph uf ul r ki lt er mz bd bo me eE lE li fB fA f fu ff lo up := hS
  subst hm
  exact c_X5_count κ a hn hn hbo hq
set_option maxHeartbeats 2000000 in
set_option maxRecDepth 100000 in
theorem q_next (κ : aK) (a : Nat → Nat) {S : SC} (hS : JS S) {y : Nat} (hy : y < 40) (z : Nat → Int32) (X : va_W) : CM yX5_next cX5_next 2 (some .int) ({ frames := 7, cells := 0, slots := 0, locals := 130 } : Room) κ [.ref (a 0), .int (nI y)] (cS κ a (stL S z) X) (aD (some (.int (oI (nxS2 S y)))) (cS κ a (stL S z) X)) := by
  obtain ⟨n, dug, dtd, so, ph, uf, ul, r, ki, lt, er, mz, bd, bo, me, dE, eE, lE, li, fB, fA, sL, f, fu, fs, ff, fl, xs, ys, zs, oL, oU, lo, up⟩ := S
  obtain ⟨⟨⟨hn, hr, hf, hm⟩, hbo, hlt, her, hfu, hv, hfn⟩, hG, hD, hJ⟩ : JV n dug dtd so ph uf ul r ki lt er mz bd bo me eE lE li fB fA f fu ff lo up := hS
  subst hm
  exact c_X5_next κ a hn hbo hy
set_option maxHeartbeats 2000000 in
set_option maxRecDepth 100000 in
theorem q_digest (κ : aK) (a : Nat → Nat) {S : SC} (hS : JS S)  (z : Nat → Int32) (X : va_W) : CM yX5_digest cX5_digest 5 (some .long) ({ frames := 8, cells := 0, slots := 0, locals := 154 } : Room) κ [.ref (a 0)] (cS κ a (stL S z) X) (aD (some (.long (dgS2 S))) (cS κ a (stL S z) X)) := by
  obtain ⟨n, dug, dtd, so, ph, uf, ul, r, ki, lt, er, mz, bd, bo, me, dE, eE, lE, li, fB, fA, sL, f, fu, fs, ff, fl, xs, ys, zs, oL, oU, lo, up⟩ := S
  obtain ⟨⟨⟨hn, hr, hf, hm⟩, hbo, hlt, her, hfu, hv, hfn⟩, hG, hD, hJ⟩ : JV n dug dtd so ph uf ul r ki lt er mz bd bo me eE lE li fB fA f fu ff lo up := hS
  subst hm
  exact c_X5_digest κ a hn hn hr hf hbo hfu
set_option maxHeartbeats 2000000 in
set_option maxRecDepth 100000 in
theorem q_way (κ : aK) (a : Nat → Nat) {S : SC} (hS : JS S) {x y i : Nat} (hx : x < sN S) (hy : y < sN S) (hi : i < 40) (z : Nat → Int32) : ∃ z2 : Nat → Int32, ∀ X : va_W, CM yX5_way cX5_way 4 (some .int) ({ frames := 7, cells := 0, slots := 0, locals := 131 } : Room) κ [.ref (a 0), .int (nI x), .int (nI y), .int (nI i)] (cS κ a (stL S z) X) (aD (some (.int (oI (wyV S x y i z)))) (cS κ a (stL S z2) X)) := by
  obtain ⟨n, dug, dtd, so, ph, uf, ul, r, ki, lt, er, mz, bd, bo, me, dE, eE, lE, li, fB, fA, sL, f, fu, fs, ff, fl, xs, ys, zs, oL, oU, lo, up⟩ := S
  obtain ⟨⟨⟨hn, hr, hf, hm⟩, hbo, hlt, her, hfu, hv, hfn⟩, hG, hD, hJ⟩ : JV n dug dtd so ph uf ul r ki lt er mz bd bo me eE lE li fB fA f fu ff lo up := hS
  subst hm
  exact ⟨wyL n eE lE z (bo x) (bo y), fun X => c_X5_way κ a hn hn hbo hx hy hi⟩
theorem stL_self (S : SC) : stL S (S.2.2.2.2.2.2.2.2.2.2.2.2.2.2.2.2.2.2.2.2.2.1) = S := rfl
