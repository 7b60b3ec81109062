/-! THE INVARIANT: the class's state and the reference's -/
def VA (n r f mz : Nat) (ki : Nat → Int32) (lt er bo fu b2 : Nat → Nat) (ks : Nat → Int32) (os ts : Nat → Nat) : Prop := (n ≤ 40 ∧ r ≤ 80 ∧ f ≤ 60 ∧ n = mz) ∧ (∀ u, bo u < 40) ∧ (∀ u, lt u < 40) ∧ (∀ u, er u < 40) ∧ (∀ u, fu u < 40) ∧ (∀ u, b2 u < 40) ∧ (∀ u, os u < 40) ∧ (∀ u, ts u < 40) ∧ RV n r lt er ∧ (∀ j, j < f → fu j < n) ∧ RE r ki lt er ks os ts
def VF (f : Nat) (fu : Nat → Nat) (fs ff fl xs ys zs fp : Nat → Int32) : Prop := (∀ j, fp (7 * j) = nI (fu j)) ∧ (∀ j, fp (7 * j + 1) = fs j) ∧ (∀ j, fp (7 * j + 2) = ff j) ∧ (∀ j, fp (7 * j + 3) = fl j) ∧ (∀ j, fp (7 * j + 4) = xs j) ∧ (∀ j, fp (7 * j + 5) = ys j) ∧ (∀ j, fp (7 * j + 6) = zs j) ∧ ∀ j, f ≤ j → xs j = nI 0 ∧ ys j = nI 0 ∧ zs j = nI 0
def VG (n : Nat) (dug bd : Nat → Bool) (bo : Nat → Nat) (me : Nat → Nat → Bool) : Prop := (∀ i, bd i = (decide (i < n) && decide (bo i = i))) ∧ (∀ u, u < n → bo u = u → ∀ i, me u i = (decide (i < n) && decide (bo i = u))) ∧ ∀ i, n ≤ i → dug i = false
def VJ (n f : Nat) (dtd : Nat → Bool) (uf ul : Nat → Int32) (fu : Nat → Nat) (ff : Nat → Int32) (bo : Nat → Nat) (eE lE : Nat → Nat → Bool) (lo up : Nat → Int32) : Prop := (∀ v, v < n → ∀ B : Int32, lo v ≤ B ↔ LOP n f dtd uf fu ff bo eE v B) ∧ ∀ v, v < n → ∀ B : Int32, B ≤ up v ↔ UPP n dtd ul bo lE v B
def IV (n : Nat) (dug : Nat → Bool) (dtd : Nat → Bool) (so : Nat → Int32) (ph : Nat → Int32) (uf : Nat → Int32) (ul : Nat → Int32) (r : Nat) (ki : Nat → Int32) (lt : Nat → Nat) (er : Nat → Nat) (mz : Nat) (bd : Nat → Bool) (bo : Nat → Nat) (me : Nat → Nat → Bool) (eE : Nat → Nat → Bool) (lE : Nat → Nat → Bool) (li : Nat → Nat → Bool) (fB : Nat → Int32) (fA : Nat → Int32) (f : Nat) (fu : Nat → Nat) (fs : Nat → Int32) (ff : Nat → Int32) (fl : Nat → Int32) (xs : Nat → Int32) (ys : Nat → Int32) (zs : Nat → Int32) (lo : Nat → Int32) (up : Nat → Int32) (un : Nat) (ss : Nat → Int32) (fi : Nat → Int32) (la : Nat → Int32) (da : Nat → Bool) (dg : Nat → Bool) (ps : Nat → Int32) (rn : Nat) (ks : Nat → Int32) (os : Nat → Nat) (ts : Nat → Nat) (fn : Nat) (fp : Nat → Int32) (b2 : Nat → Nat) (e2 : Nat → Nat → Bool) (l2 : Nat → Nat → Bool) (k2 : Nat → Nat → Bool) (be : Nat → Int32) (ab : Nat → Int32) : Prop := VA n r f mz ki lt er bo fu b2 ks os ts ∧ (n = un ∧ so = ss ∧ uf = fi ∧ ul = la ∧ dtd = da ∧ dug = dg ∧ ph = ps ∧ r = rn ∧ f = fn) ∧ VF f fu fs ff fl xs ys zs fp ∧ VG n dug bd bo me ∧ DER n r ki lt er bo eE lE li fB fA ∧ DER n r ki lt er b2 e2 l2 k2 be ab ∧ VJ n f dtd uf ul fu ff bo eE lE lo up
def II (S : SC) (T : SM) : Prop := IV S.1 S.2.1 S.2.2.1 S.2.2.2.1 S.2.2.2.2.1 S.2.2.2.2.2.1 S.2.2.2.2.2.2.1 S.2.2.2.2.2.2.2.1 S.2.2.2.2.2.2.2.2.1 S.2.2.2.2.2.2.2.2.2.1 S.2.2.2.2.2.2.2.2.2.2.1 S.2.2.2.2.2.2.2.2.2.2.2.1 S.2.2.2.2.2.2.2.2.2.2.2.2.1 S.2.2.2.2.2.2.2.2.2.2.2.2.2.1 S.2.2.2.2.2.2.2.2.2.2.2.2.2.2.1 S.2.2.2.2.2.2.2.2.2.2.2.2.2.2.2.2.1 S.2.2.2.2.2.2.2.2.2.2.2.2.2.2.2.2.2.1 S.2.2.2.2.2.2.2.2.2.2.2.2.2.2.2.2.2.2.1 S.2.2.2.2.2.2.2.2.2.2.2.2.2.2.2.2.2.2.2.1 S.2.2.2.2.2.2.2.2.2.2.2.2.2.2.2.2.2.2.2.2.1 S.2.2.2.2.2.2.2.2.2.2.2.2.2.2.2.2.2.2.2.2.2.2.1 S.2.2.2.2.2.2.2.2.2.2.2.2.2.2.2.2.2.2.2.2.2.2.2.1 S.2.2.2.2.2.2.2.2.2.2.2.2.2.2.2.2.2.2.2.2.2.2.2.2.1 S.2.2.2.2.2.2.2.2.2.2.2.2.2.2.2.2.2.2.2.2.2.2.2.2.2.1 S.2.2.2.2.2.2.2.2.2.2.2.2.2.2.2.2.2.2.2.2.2.2.2.2.2.2.1 S.2.2.2.2.2.2.2.2.2.2.2.2.2.2.2.2.2.2.2.2.2.2.2.2.2.2.2.1 S.2.2.2.2.2.2.2.2.2.2.2.2.2.2.2.2.2.2.2.2.2.2.2.2.2.2.2.2.1 S.2.2.2.2.2.2.2.2.2.2.2.2.2.2.2.2.2.2.2.2.2.2.2.2.2.2.2.2.2.1 S.2.2.2.2.2.2.2.2.2.2.2.2.2.2.2.2.2.2.2.2.2.2.2.2.2.2.2.2.2.2.2.2.1 S.2.2.2.2.2.2.2.2.2.2.2.2.2.2.2.2.2.2.2.2.2.2.2.2.2.2.2.2.2.2.2.2.2 T.2.1 T.2.2.1 T.2.2.2.1 T.2.2.2.2.1 T.2.2.2.2.2.1 T.2.2.2.2.2.2.1 T.2.2.2.2.2.2.2.1 T.2.2.2.2.2.2.2.2.1 T.2.2.2.2.2.2.2.2.2.1 T.2.2.2.2.2.2.2.2.2.2.1 T.2.2.2.2.2.2.2.2.2.2.2.1 T.2.2.2.2.2.2.2.2.2.2.2.2.1 T.2.2.2.2.2.2.2.2.2.2.2.2.2.1 T.2.2.2.2.2.2.2.2.2.2.2.2.2.2.1 T.2.2.2.2.2.2.2.2.2.2.2.2.2.2.2.1 T.2.2.2.2.2.2.2.2.2.2.2.2.2.2.2.2.1 T.2.2.2.2.2.2.2.2.2.2.2.2.2.2.2.2.2.1 T.2.2.2.2.2.2.2.2.2.2.2.2.2.2.2.2.2.2.1 T.2.2.2.2.2.2.2.2.2.2.2.2.2.2.2.2.2.2.2
/-! both tell the same -/
section TELL
variable {n r f j q x y z u : Nat} {dug dtd bd : Nat → Bool} {so ph uf ul ki fB fA fs ff fl xs ys zs lo up fp be ab : Nat → Int32} {lt er bo fu b2 : Nat → Nat} {me eE lE li e2 l2 k2 : Nat → Nat → Bool}
/-- what both have in common -/
def AG (n : Nat) (bo : Nat → Nat) (eE lE li : Nat → Nat → Bool) (fB fA : Nat → Int32) (b2 : Nat → Nat) (e2 l2 k2 : Nat → Nat → Bool) (be ab : Nat → Int32) : Prop := (∀ u, u < n → bo u = b2 u) ∧ (∀ u, u < n → eE u = e2 u) ∧ (∀ u, u < n → lE u = l2 u) ∧ (∀ u, u < n → li u = k2 u) ∧ (∀ u, u < n → bo u = u → fB u = be u) ∧ ∀ u, u < n → bo u = u → fA u = ab u
/-- a body -/
def BB (n : Nat) (bo : Nat → Nat) : Prop := ∀ u, u < n → bo u < n ∧ bo (bo u) = bo u
theorem anyB_cong {p q : Nat → Bool} {k : Nat} (h : ∀ i, i < k → p i = q i) : anyB p k = anyB q k := by
  rw [Bool.eq_iff_iff, anyB_iff, anyB_iff]
  exact ⟨fun ⟨i, h1, h2⟩ => ⟨i, h1, by rw [← h i h1]; exact h2⟩, fun ⟨i, h1, h2⟩ => ⟨i, h1, by rw [h i h1]; exact h2⟩⟩
theorem lo_eq (hB : BB n bo) (hA : AG n bo eE lE li fB fA b2 e2 l2 k2 be ab) (hF : VF f fu fs ff fl xs ys zs fp) (hfn : ∀ j, j < f → fu j < n) (hJ : VJ n f dtd uf ul fu ff bo eE lE lo up) (hu : u < n) : lo (bo u) = yLo b2 e2 dtd uf n fu fp f u := by
  refine le_eq (fun B => ?_)
  rw [yLo_le, hJ.1 _ (hB u hu).1 B, ← hA.1 u hu, show (fun j => fp (7 * j + 2)) = ff from funext hF.2.2.1]
  exact LOP_cong hA.1 hfn (hA.2.1 _ (hB u hu).1)
theorem up_eq (hB : BB n bo) (hA : AG n bo eE lE li fB fA b2 e2 l2 k2 be ab) (hJ : VJ n f dtd uf ul fu ff bo eE lE lo up) (hu : u < n) : up (bo u) = yUp b2 l2 dtd ul n u := by
  refine ge_eq (fun B => ?_)
  rw [yUp_ge, hJ.2 _ (hB u hu).1 B, ← hA.1 u hu]
  exact UPP_cong hA.1 (hA.2.2.1 _ (hB u hu).1)
theorem mf_eq (hB : BB n bo) (hA : AG n bo eE lE li fB fA b2 e2 l2 k2 be ab) (hF : VF f fu fs ff fl xs ys zs fp) (hfn : ∀ j, j < f → fu j < n) (hJ : VJ n f dtd uf ul fu ff bo eE lE lo up) (hj : j < f) : mfR bo fu ff fl lo up j = mR b2 e2 l2 dtd uf ul n fu fp f j := by
  unfold mfR mR
  rw [lo_eq hB hA hF hfn hJ (hfn j hj), up_eq hB hA hJ (hfn j hj), hF.2.2.1 j, hF.2.2.2.1 j]
theorem ft_eq (hB : BB n bo) (hA : AG n bo eE lE li fB fA b2 e2 l2 k2 be ab) (hF : VF f fu fs ff fl xs ys zs fp) (hfn : ∀ j, j < f → fu j < n) (hJ : VJ n f dtd uf ul fu ff bo eE lE lo up) (hj : j < f) (hq : q < 8) : ftR fu fs ff fl xs ys zs bo lo up j q = fR b2 e2 l2 dtd uf ul n fu fp f j q := by
  obtain ⟨f0, f1, f2, f3, f4, f5, f6, f7⟩ := hF
  unfold fR
  match q, hq with
  | 0, _ => exact (f0 j).symm
  | 1, _ => exact (f1 j).symm
  | 2, _ => exact (f2 j).symm
  | 3, _ => exact (f3 j).symm
  | 4, _ => exact (f4 j).symm
  | 5, _ => exact (f5 j).symm
  | 6, _ => exact (f6 j).symm
  | 7, _ =>
    show nI (mfR bo fu ff fl lo up j) = nI (mR b2 e2 l2 dtd uf ul n fu fp f j)
    rw [mf_eq hB hA ⟨f0, f1, f2, f3, f4, f5, f6, f7⟩ hfn hJ hj]
theorem po_eq (hB : BB n bo) (hA : AG n bo eE lE li fB fA b2 e2 l2 k2 be ab) (hx : x < n) (hy : y < n) : poB bo eE ph x y = poB b2 e2 ph x y := by
  unfold poB
  rw [← hA.1 x hx, ← hA.1 y hy, hA.2.1 _ (hB x hx).1]
theorem ppS_cong {p p' : Nat → Nat → Bool} {m : Nat} (h : ∀ i k, i < m → k < m → p i k = p' i k) : ∀ k, k ≤ m → ppS p m k = ppS p' m k
  | 0, _ => rfl
  | k + 1, hk => by rw [ppS, ppS, ppS_cong h k (by omega), cnt_cong (fun i hi => h k i (by omega) hi)]
theorem bcS_cong : ∀ m, (∀ u, u < m → li u = k2 u) → bcS li m = bcS k2 m
  | 0, _ => rfl
  | m + 1, h => by rw [bcS, bcS, bcS_cong m (fun u hu => h u (by omega)), h m (by omega)]
theorem lvS_cong {p p' : Nat → Bool} : ∀ m, (∀ u, u < m → p u = p' u) → (∀ u, u < m → p u = true → fB u = be u) → lvS p fB m = lvS p' be m
  | 0, _, _ => rfl
  | m + 1, h, h2 => by
    rw [lvS, lvS, lvS_cong m (fun u hu => h u (by omega)) (fun u hu => h2 u (by omega)), ← h m (by omega)]
    by_cases c : p m = true
    · rw [if_pos c, if_pos c, h2 m (by omega) c]
    · rw [if_neg c, if_neg c]
theorem bd_eq (hA : AG n bo eE lE li fB fA b2 e2 l2 k2 be ab) (hG : VG n dug bd bo me) (hu : u < n) : bd u = isB b2 u := by
  unfold isB
  rw [hG.1 u, decide_eq_true hu, Bool.true_and, hA.1 u hu]
theorem bd_b (hG : VG n dug bd bo me) (h : bd u = true) : u < n ∧ bo u = u := by
  rw [hG.1 u, Bool.and_eq_true, decide_eq_true_eq, decide_eq_true_eq] at h
  exact h
theorem db_eq (hB : BB n bo) (hA : AG n bo eE lE li fB fA b2 e2 l2 k2 be ab) (hF : VF f fu fs ff fl xs ys zs fp) (hG : VG n dug bd bo me) (hfn : ∀ j, j < f → fu j < n) (hJ : VJ n f dtd uf ul fu ff bo eE lE lo up) (hu : u < n) : (bd u && decide (up u < lo u)) = (isB b2 u && yDb b2 e2 l2 dtd uf ul n fu fp f u) := by
  rw [← bd_eq hA hG hu]
  cases e : bd u with
  | false => rw [Bool.false_and, Bool.false_and]
  | true =>
    have h1 := lo_eq hB hA hF hfn hJ hu
    have h2 := up_eq hB hA hJ hu
    rw [(bd_b hG e).2] at h1 h2
    unfold yDb
    rw [h1, h2]
theorem sel_c {p p' : Nat → Bool} (hn : n ≤ 40) (h : ∀ i, i < n → p i = p' i) : bcI (bs (selS p n)) = nI (cnt p' n) := by
  rw [bcI_n hn (fun i hi => by unfold selS; rw [decide_eq_false (by omega)]; rfl)]
  exact congrArg nI (cnt_cong (fun i hi => by unfold selS; rw [decide_eq_true hi, Bool.true_and, h i hi]))
theorem cnt_sel {p p' : Nat → Bool} (h : ∀ i, i < n → p i = p' i) {k : Nat} (hk : k ≤ n) : cnt (selS p n) k = cnt p' k := cnt_cong (fun i hi => by unfold selS; rw [decide_eq_true (by omega), Bool.true_and, h i (by omega)])
theorem el_eq {p p' : Nat → Bool} (hn : n ≤ 40) (h : ∀ i, i < n → p i = p' i) : elA (selS p n) j 40 = elA p' j n := by
  unfold elA
  rw [fst1_ext hn (fun i h1 h2 => ?_)]
  · refine fst1_cong (fun i hi => ?_)
    rw [cnt_sel h (by omega)]
    unfold selS
    rw [decide_eq_true hi, Bool.true_and, h i hi]
  · unfold selS
    rw [decide_eq_false (by omega)]
    rfl
theorem ct_eq {r mz : Nat} (hm : n = mz) (hn : n ≤ 40) (hB : BB n bo) (hA : AG n bo eE lE li fB fA b2 e2 l2 k2 be ab) (hF : VF f fu fs ff fl xs ys zs fp) (hG : VG n dug bd bo me) (hfn : ∀ j, j < f → fu j < n) (hJ : VJ n f dtd uf ul fu ff bo eE lE lo up) (hq : q < 9) : ctR n r mz f bd dug li fB lo up bo eE ph q = cR n r f dug k2 be b2 e2 l2 dtd uf ul fu fp ph q := by
  subst hm
  match q, hq with
  | 0, _ =>
    show nI n = nI n
    rfl
  | 1, _ =>
    show nI r = nI r
    rfl
  | 2, _ =>
    show bcI (bs bd) = nI (cnt (isB b2) n)
    rw [bcI_n hn (fun i hi => by rw [hG.1 i, decide_eq_false (by omega), Bool.false_and])]
    exact congrArg nI (cnt_cong (fun i hi => bd_eq hA hG hi))
  | 3, _ =>
    show bcS li n = bcS k2 n
    exact bcS_cong n hA.2.2.2.1
  | 4, _ =>
    show nI f = nI f
    rfl
  | 5, _ =>
    show bcI (bs dug) = nI (cnt dug n)
    exact bcI_n hn hG.2.2
  | 6, _ =>
    show bcI (bs (dbS bd lo up n)) = nI (cnt (fun v => isB b2 v && yDb b2 e2 l2 dtd uf ul n fu fp f v) n)
    exact sel_c hn (fun i hi => db_eq hB hA hF hG hfn hJ hi)
  | 7, _ =>
    show lvS bd fB n = lvS (isB b2) be n
    exact lvS_cong n (fun u hu => bd_eq hA hG hu) (fun u hu h => hA.2.2.2.2.1 u hu (bd_b hG h).2)
  | 8, _ =>
    show nI (ppS (poB bo eE ph) n n) = nI (ppS (poB b2 e2 ph) n n)
    exact congrArg nI (ppS_cong (fun i k hi hk => po_eq hB hA hi hk) n (Nat.le_refl n))
theorem ut_eq (hn : n ≤ 40) (hB : BB n bo) (hA : AG n bo eE lE li fB fA b2 e2 l2 k2 be ab) (hG : VG n dug bd bo me) (hj : j < n) (hq : q < 10) : utR so ph fB fA bo fu me eE lE dug f j q = uR so be ab b2 e2 l2 dug ph n fu f j q := by
  have hb := hA.1 j hj
  obtain ⟨h1, h2⟩ := hB j hj
  match q, hq with
  | 0, _ =>
    show so j = so j
    rfl
  | 1, _ =>
    show nI (bo j) = nI (b2 j)
    exact congrArg nI hb
  | 2, _ =>
    show bcI (bs (me (bo j))) = nI (cnt (fun v => decide (b2 v = b2 j)) n)
    have hm := hG.2.1 _ h1 h2
    rw [bcI_n hn (fun i hi => by rw [hm i, decide_eq_false (by omega), Bool.false_and])]
    exact congrArg nI (cnt_cong (fun i hi => by rw [hm i, decide_eq_true hi, Bool.true_and, hb, hA.1 i hi]))
  | 3, _ =>
    show fB (bo j) = be (b2 j)
    rw [← hb]
    exact hA.2.2.2.2.1 _ h1 h2
  | 4, _ =>
    show fA (bo j) = ab (b2 j)
    rw [← hb]
    exact hA.2.2.2.2.2 _ h1 h2
  | 5, _ =>
    show bcI (bs (eE (bo j))) = bcI (bs (e2 (b2 j)))
    rw [← hb, hA.2.1 _ h1]
  | 6, _ =>
    show bcI (bs (lE (bo j))) = bcI (bs (l2 (b2 j)))
    rw [← hb, hA.2.2.1 _ h1]
  | 7, _ =>
    show b2i (dug j) = b2i (dug j)
    rfl
  | 8, _ =>
    show ph j = ph j
    rfl
  | 9, _ =>
    show nI (cnt (fun v => decide (fu v = j)) f) = nI (cnt (fun v => decide (fu v = j)) f)
    rfl
theorem od_eq (hB : BB n bo) (hA : AG n bo eE lE li fB fA b2 e2 l2 k2 be ab) (hx : x < n) (hy : y < n) : odR bo eE x y = odR b2 e2 x y := by
  unfold odR
  rw [← hA.1 x hx, ← hA.1 y hy, hA.2.1 _ (hB x hx).1, hA.2.1 _ (hB y hy).1]
theorem cd_eq (hB : BB n bo) (hA : AG n bo eE lE li fB fA b2 e2 l2 k2 be ab) (hL : ∀ u i, u < n → (lE u i = true ↔ i < n ∧ eE i u = true)) (hu : u < n) : cdB n bo eE dug u = cgB n b2 l2 dug u := by
  unfold cdB cgB
  rw [anyB_cong (fun v hv => ?_)]
  have e : eE (bo v) (bo u) = lE (bo u) (bo v) := by
    rw [Bool.eq_iff_iff, hL _ _ (hB u hu).1]
    exact ⟨fun h => ⟨(hB v hv).1, h⟩, fun h => h.2⟩
  rw [e, hA.2.2.1 _ (hB u hu).1, ← hA.1 u hu, ← hA.1 v hv]
theorem opR_cong {p p' : Nat → Nat → Bool} {isS : Bool} (h : ∀ i k, i < n → k < n → p i k = p' i k) : opR p n isS = opR p' n isS := by
  unfold opR
  have e1 : fst1 (fun x => (fst1 (p x) n).isSome) n = fst1 (fun x => (fst1 (p' x) n).isSome) n := fst1_cong (fun i hi => by rw [fst1_cong (fun k hk => h i k hi hk)])
  rw [← e1]
  cases e : fst1 (fun x => (fst1 (p x) n).isSome) n with
  | none => rfl
  | some x =>
    show (if isS = true then fst1 (p x) n else some x) = if isS = true then fst1 (p' x) n else some x
    rw [fst1_cong (fun k hk => h x k (fst1_some e).1 hk)]
theorem dgS_cong {g g' : Nat → Int32} {d : Int64} : ∀ m, (∀ k, k < m → g k = g' k) → dgS g d m = dgS g' d m
  | 0, _ => rfl
  | m + 1, h => by rw [dgS, dgS, dgS_cong m (fun k hk => h k (by omega)), h m (by omega)]
theorem dgU_cong {F F' : Nat → Nat → Int32} {lo' up' : Nat → Int32} {d : Int64} : ∀ m, (∀ k q, k < m → q < 10 → F k q = F' k q) → (∀ k, k < m → lo k = lo' k) → (∀ k, k < m → up k = up' k) → dgU F lo up d m = dgU F' lo' up' d m
  | 0, _, _, _ => rfl
  | m + 1, h, h2, h3 => by rw [dgU, dgU, dgU_cong m (fun k q hk => h k q (by omega)) (fun k hk => h2 k (by omega)) (fun k hk => h3 k (by omega)), dgS_cong 10 (fun q hq => h m q (by omega) hq), h2 m (by omega), h3 m (by omega)]
theorem dgN_cong {F F' : Nat → Nat → Int32} {w : Nat} {d : Int64} : ∀ m, (∀ k q, k < m → q < w → F k q = F' k q) → dgN F w d m = dgN F' w d m
  | 0, _ => rfl
  | m + 1, h => by rw [dgN, dgN, dgN_cong m (fun k q hk => h k q (by omega)), dgS_cong w (fun q hq => h m q (by omega) hq)]
theorem AG_of (hv : RV n r lt er) (h : DER n r ki lt er bo eE lE li fB fA) (g : DER n r ki lt er b2 e2 l2 k2 be ab) : AG n bo eE lE li fB fA b2 e2 l2 k2 be ab ∧ BB n bo ∧ BB n b2 := ⟨DER_one hv h g, fun _ hu => ⟨BO_lt h.1 hu, BO_id h.1 hu⟩, fun _ hu => ⟨BO_lt g.1 hu, BO_id g.1 hu⟩⟩
end TELL
