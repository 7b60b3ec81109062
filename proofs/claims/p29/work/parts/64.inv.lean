/-! THE INVARIANT: the class's state and the reference's -/
def VA (n r f mz : Nat) (ki : Nat → Int32) (lt er bo fu b2 : Nat → Nat) (ks : Nat → Int32) (os ts : Nat → Nat) : Prop := (n ≤ 40 ∧ r ≤ 80 ∧ f ≤ 60 ∧ n = mz) ∧ (∀ u, bo u < 40) ∧ (∀ u, lt u < 40) ∧ (∀ u, er u < 40) ∧ (∀ u, fu u < 40) ∧ (∀ u, b2 u < 40) ∧ (∀ u, os u < 40) ∧ (∀ u, ts u < 40) ∧ RV n r lt er ∧ (∀ j, j < f → fu j < n) ∧ RE r ki lt er ks os ts
def VG (n : Nat) (dug bd : Nat → Bool) (bo : Nat → Nat) (me : Nat → Nat → Bool) : Prop := (∀ i, bd i = (decide (i < n) && decide (bo i = i))) ∧ (∀ u, u < n → bo u = u → ∀ i, me u i = (decide (i < n) && decide (bo i = u))) ∧ ∀ i, n ≤ i → dug i = false
def VJ (n f : Nat) (dtd : Nat → Bool) (uf ul : Nat → Int32) (fu : Nat → Nat) (ff : Nat → Int32) (bo : Nat → Nat) (eE lE : Nat → Nat → Bool) (lo up : Nat → Int32) : Prop := (∀ v, v < n → ∀ B : Int32, lo v ≤ B ↔ LOP n f dtd uf fu ff bo eE v B) ∧ ∀ v, v < n → ∀ B : Int32, B ≤ up v ↔ UPP n dtd ul bo lE v B
/-! both tell the same -/
section TELL
variable {n r f j q x y z u : Nat} {dug dtd bd : Nat → Bool} {so ph uf ul ki fB fA fs ff fl xs ys zs lo up fp be ab : Nat → Int32} {lt er bo fu b2 : Nat → Nat} {me eE lE li e2 l2 k2 : Nat → Nat → Bool}
/-- a body -/
def BB (n : Nat) (bo : Nat → Nat) : Prop := ∀ u, u < n → bo u < n ∧ bo (bo u) = bo u
theorem bd_b (hG : VG n dug bd bo me) (h : bd u = true) : u < n ∧ bo u = u := by
  rw [hG.1 u, Bool.and_eq_true, decide_eq_true_eq, decide_eq_true_eq] at h
  exact h
theorem sel_c {p p' : Nat → Bool} (hn : n ≤ 40) (h : ∀ i, i < n → p i = p' i) : bcI (bs (selS p n)) = nI (cnt p' n) := by
  rw [bcI_n hn (fun i hi => by unfold selS; rw [decide_eq_false (by omega)]; rfl)]
  exact congrArg nI (cnt_cong (fun i hi => by unfold selS; rw [decide_eq_true hi, Bool.true_and, h i hi]))
theorem cnt_sel {p p' : Nat → Bool} (h : ∀ i, i < n → p i = p' i) {k : Nat} (hk : k ≤ n) : cnt (selS p n) k = cnt p' k := cnt_cong (fun i hi => by unfold selS; rw [decide_eq_true (by omega), Bool.true_and, h i (by omega)])
theorem el_eq {p p' : Nat → Bool} (hn : n ≤ 40) (h : ∀ i, i < n → p i = p' i) : elA (selS p n) j 40 = elA p' j n := by
  unfold elA
  rw [fst1_ext hn (fun i h1 h2 => ?_)]
  · refine fst1_cong (fun i hi => ?_)
    rw [cnt_sel h (by omega)]
    unfold selS
    rw [decide_eq_true hi, Bool.true_and, h i hi]
  · unfold selS
    rw [decide_eq_false (by omega)]
    rfl
end TELL
