set_option maxHeartbeats 4000000 in
set_option maxRecDepth 100000 in
theorem c_X5_renewBounds (κ : aK) (a : Nat → Nat) {n : Nat} {dug : Nat → Bool} {dtd : Nat → Bool} {so : Nat → Int32} {ph : Nat → Int32} {uf : Nat → Int32} {ul : Nat → Int32} {r : Nat} {ki : Nat → Int32} {lt : Nat → Nat} {er : Nat → Nat} {mz : Nat} {bd : Nat → Bool} {bo : Nat → Nat} {me : Nat → Nat → Bool} {dE : Nat → Nat → Bool} {eE : Nat → Nat → Bool} {lE : Nat → Nat → Bool} {li : Nat → Nat → Bool} {fB : Nat → Int32} {fA : Nat → Int32} {sL : Nat → Int32} {f : Nat} {fu : Nat → Nat} {fs : Nat → Int32} {ff : Nat → Int32} {fl : Nat → Int32} {xs : Nat → Int32} {ys : Nat → Int32} {zs : Nat → Int32} {oL : Nat → Int32} {oU : Nat → Int32} {lo : Nat → Int32} {up : Nat → Int32} {X : va_W} (hn : n ≤ 40) (hf : f ≤ 60) (hbo : ∀ u, bo u < 40) (hfu : ∀ u, fu u < 40) : CM yX5_renewBounds cX5_renewBounds 1 none ({ frames := 4, cells := 0, slots := 0, locals := 90 } : Room) κ [.ref (a 0)] (wC κ a n dug dtd so ph uf ul r ki lt er mz bd bo me dE eE lE li fB fA sL f fu fs ff fl xs ys zs oL oU lo up X) (aD none (wC κ a n dug dtd so ph uf ul r ki lt er mz bd bo me dE eE lE li fB fA sL f fu fs ff fl xs ys zs (nOL dtd uf bo fu ff oL n f) (nOU dtd ul bo oU n) (nLo (nOL dtd uf bo fu ff oL n f) eE lo n) (nUp (nOU dtd ul bo oU n) lE up n) X)) := by
  refine cm_entry (own := RX5) (L := [(0, .ref (a 0))]) (by decide +kernel) rfl (lv_entry [.ref (a 0)] (n := 1) (Nat.le_of_ble_eq_true rfl)) (fun g C E => ?_)
  refine a_aloadn (pc := 0) C 0 rfl rfl dX5_renewBounds_0 ?_
  refine a_get (pc := 1) C fl_X5_40 0 rfl rfl dX5_renewBounds_1 ?_
  refine a_aloadn (pc := 4) C 0 rfl rfl dX5_renewBounds_4 ?_
  refine a_get (pc := 5) C fl_X5_10 0 rfl rfl dX5_renewBounds_5 ?_
  refine a_aloadn (pc := 8) C 0 rfl rfl dX5_renewBounds_8 ?_
  refine a_get (pc := 9) C fl_X5_33 0 rfl rfl dX5_renewBounds_9 ?_
  refine a_aloadn (pc := 12) C 0 rfl rfl dX5_renewBounds_12 ?_
  refine a_get (pc := 13) C fl_X5_26 0 rfl rfl dX5_renewBounds_13 ?_
  refine a_callV0 (pc := 16) (k' := 0) (n' := 0) C (c_X0_renew κ a hn hf hbo hfu) yv_X0_renew ml_X5_319 wi_X0_renew wl_X0_renew 5 rfl rfl rfl rfl (Nat.le_of_ble_eq_true rfl) (Nat.le_of_ble_eq_true rfl) (Nat.le_of_ble_eq_true rfl) ⟨(Nat.le_of_ble_eq_true rfl), (Nat.le_of_ble_eq_true rfl)⟩ rfl rfl dX5_renewBounds_16 ?_
  exact a_vret (pc := 19) C E (Nat.le_of_ble_eq_true rfl) (Nat.le_of_ble_eq_true rfl) ⟨rfl, rfl⟩ dX5_renewBounds_19
set_option maxHeartbeats 4000000 in
set_option maxRecDepth 100000 in
theorem c_X5_renewMatrix (κ : aK) (a : Nat → Nat) {n : Nat} {dug : Nat → Bool} {dtd : Nat → Bool} {so : Nat → Int32} {ph : Nat → Int32} {uf : Nat → Int32} {ul : Nat → Int32} {r : Nat} {ki : Nat → Int32} {lt : Nat → Nat} {er : Nat → Nat} {mz : Nat} {bd : Nat → Bool} {bo : Nat → Nat} {me : Nat → Nat → Bool} {dE : Nat → Nat → Bool} {eE : Nat → Nat → Bool} {lE : Nat → Nat → Bool} {li : Nat → Nat → Bool} {fB : Nat → Int32} {fA : Nat → Int32} {sL : Nat → Int32} {f : Nat} {fu : Nat → Nat} {fs : Nat → Int32} {ff : Nat → Int32} {fl : Nat → Int32} {xs : Nat → Int32} {ys : Nat → Int32} {zs : Nat → Int32} {oL : Nat → Int32} {oU : Nat → Int32} {lo : Nat → Int32} {up : Nat → Int32} {X : va_W} (hn : n ≤ 40) (hr : r ≤ 80) (hf : f ≤ 60) (hbo : ∀ u, bo u < 40) (hlt : ∀ u, lt u < 40) (her : ∀ u, er u < 40) (hfu : ∀ u, fu u < 40) : CM yX5_renewMatrix cX5_renewMatrix 1 none ({ frames := 5, cells := 0, slots := 0, locals := 110 } : Room) κ [.ref (a 0)] (wC κ a n dug dtd so ph uf ul r ki lt er mz bd bo me dE eE lE li fB fA sL f fu fs ff fl xs ys zs oL oU lo up X) (aD none (wC κ a n dug dtd so ph uf ul r ki lt er n (nB ki lt er bo n r) (nJ ki lt er bo n r) (nM ki lt er bo n r me) (nD ki lt er bo n r dE) (nE ki lt er bo n r dE eE) (nL ki lt er bo n r dE eE lE) (nK ki lt er bo n r dE eE li) (nfB ki lt er bo n r dE eE fB) (nfA ki lt er bo n r dE eE lE fA) sL f fu fs ff fl xs ys zs (nOL dtd uf (nJ ki lt er bo n r) fu ff oL n f) (nOU dtd ul (nJ ki lt er bo n r) oU n) (nLo (nOL dtd uf (nJ ki lt er bo n r) fu ff oL n f) (nE ki lt er bo n r dE eE) lo n) (nUp (nOU dtd ul (nJ ki lt er bo n r) oU n) (nL ki lt er bo n r dE eE lE) up n) X)) := by
  refine cm_entry (own := RX5) (L := [(0, .ref (a 0))]) (by decide +kernel) rfl (lv_entry [.ref (a 0)] (n := 1) (Nat.le_of_ble_eq_true rfl)) (fun g C E => ?_)
  have hnJ : ∀ u, nJ ki lt er bo n r u < 40 := jU_lt (pre_lt (fun u hu => by omega) hbo) r
  refine a_aloadn (pc := 0) C 0 rfl rfl dX5_renewMatrix_0 ?_
  refine a_get (pc := 1) C fl_X5_26 0 rfl rfl dX5_renewMatrix_1 ?_
  refine a_aloadn (pc := 4) C 0 rfl rfl dX5_renewMatrix_4 ?_
  refine a_get (pc := 5) C fl_X5_10 0 rfl rfl dX5_renewMatrix_5 ?_
  refine a_get (pc := 8) C fl_X5_55 1 rfl rfl dX5_renewMatrix_8 ?_
  refine a_aloadn (pc := 11) C 0 rfl rfl dX5_renewMatrix_11 ?_
  refine a_get (pc := 12) C fl_X5_19 0 rfl rfl dX5_renewMatrix_12 ?_
  refine a_callV0 (pc := 15) (k' := 0) (n' := 0) C (c_X2_renew κ a hn hr hbo hlt her) yv_X2_renew ml_X5_315 wi_X2_renew wl_X2_renew 3 rfl rfl rfl rfl (Nat.le_of_ble_eq_true rfl) (Nat.le_of_ble_eq_true rfl) (Nat.le_of_ble_eq_true rfl) ⟨(Nat.le_of_ble_eq_true rfl), (Nat.le_of_ble_eq_true rfl)⟩ rfl rfl dX5_renewMatrix_15 ?_
  refine aw_eq (ws' := wC κ a n dug dtd so ph uf ul r ki lt er n (nB ki lt er bo n r) (nJ ki lt er bo n r) (nM ki lt er bo n r me) (nD ki lt er bo n r dE) (nE ki lt er bo n r dE eE) (nL ki lt er bo n r dE eE lE) (nK ki lt er bo n r dE eE li) (nfB ki lt er bo n r dE eE fB) (nfA ki lt er bo n r dE eE lE fA) sL f fu fs ff fl xs ys zs oL oU lo up X) rfl ?_
  refine a_aloadn (pc := 18) C 0 rfl rfl dX5_renewMatrix_18 ?_
  refine a_callV0 (pc := 19) (k' := 0) (n' := 0) C (c_X5_renewBounds κ a hn hf hnJ hfu) yv_X5_renewBounds ml_X5_205 wi_X5_renewBounds wl_X5_renewBounds 0 rfl rfl rfl rfl (Nat.le_of_ble_eq_true rfl) (Nat.le_of_ble_eq_true rfl) (Nat.le_of_ble_eq_true rfl) ⟨(Nat.le_of_ble_eq_true rfl), (Nat.le_of_ble_eq_true rfl)⟩ rfl rfl dX5_renewMatrix_19 ?_
  exact a_vret (pc := 22) C E (Nat.le_of_ble_eq_true rfl) (Nat.le_of_ble_eq_true rfl) ⟨rfl, rfl⟩ dX5_renewMatrix_22
set_option maxHeartbeats 4000000 in
set_option maxRecDepth 100000 in
theorem c_X5_doSortsFit (κ : aK) {X : va_W} {kd : Int32} {s1 : Int32} {s2 : Int32} : CM yX5_doSortsFit cX5_doSortsFit 3 (some .boolean) ({ frames := 0, cells := 0, slots := 0, locals := 0 } : Room) κ [.int kd, .int s1, .int s2] (X) (aD (some (.int (b2i (sfB kd s1 s2)))) (X)) := by
  refine cm_entry (own := RX5) (L := [(0, .int kd), (1, .int s1), (2, .int s2)]) (by decide +kernel) rfl (lv_entry [.int kd, .int s1, .int s2] (n := 3) (Nat.le_of_ble_eq_true rfl)) (fun g C E => ?_)
  refine a_iloadn (pc := 0) C 0 rfl rfl dX5_doSortsFit_0 ?_
  by_cases h1 : kd = nI 1
  · subst h1
    refine a_table (pc := 1) (tgt := 32) C (by decide +kernel) (by decide +kernel) (off := 31) (by decide +kernel) (by decide) dX5_doSortsFit_1 ?_
    refine a_iloadn (pc := 32) C 1 rfl rfl dX5_doSortsFit_32 ?_
    refine a_iconst (pc := 33) (v := nI 1) C ci_1 dX5_doSortsFit_33 ?_
    refine a_ic_ne (pc := 34) (tgt := 41) C (by decide) dX5_doSortsFit_34 (fun c1 => ?_) (fun c1 => ?_)
    · refine a_iconst (pc := 41) (v := nI 0) C ci_0 dX5_doSortsFit_41 ?_
      have hv : sfB (nI 1) s1 s2 = false := by unfold sfB; rw [if_pos rfl]; simp only [decide_eq_false c1, Bool.and_false, Bool.false_and, Bool.and_true, Bool.true_and, Bool.and_self]
      rw [hv] at E
      exact a_zret (pc := 42) (b := false) C E (Nat.le_of_ble_eq_true rfl) (Nat.le_of_ble_eq_true rfl) (by decide +kernel) ⟨rfl, rfl⟩ dX5_doSortsFit_42
    · refine a_iconst (pc := 37) (v := nI 1) C ci_1 dX5_doSortsFit_37 ?_
      refine a_goto (pc := 38) (tgt := 42) C (by decide) dX5_doSortsFit_38 ?_
      have hv : sfB (nI 1) s1 s2 = true := by unfold sfB; rw [if_pos rfl]; simp only [decide_eq_true c1, Bool.and_false, Bool.false_and, Bool.and_true, Bool.true_and, Bool.and_self]
      rw [hv] at E
      exact a_zret (pc := 42) (b := true) C E (Nat.le_of_ble_eq_true rfl) (Nat.le_of_ble_eq_true rfl) (by decide +kernel) ⟨rfl, rfl⟩ dX5_doSortsFit_42
  by_cases h2 : kd = nI 2
  · subst h2
    refine a_table (pc := 1) (tgt := 43) C (by decide +kernel) (by decide +kernel) (off := 42) (by decide +kernel) (by decide) dX5_doSortsFit_1 ?_
    refine a_iloadn (pc := 43) C 1 rfl rfl dX5_doSortsFit_43 ?_
    refine a_iconst (pc := 44) (v := nI 2) C ci_2 dX5_doSortsFit_44 ?_
    refine a_ic_ne (pc := 45) (tgt := 57) C (by decide) dX5_doSortsFit_45 (fun c2 => ?_) (fun c2 => ?_)
    · refine a_iconst (pc := 57) (v := nI 0) C ci_0 dX5_doSortsFit_57 ?_
      have hv : sfB (nI 2) s1 s2 = false := by unfold sfB; rw [if_neg (by decide +kernel)]; rw [if_pos rfl]; simp only [decide_eq_false c2, Bool.and_false, Bool.false_and, Bool.and_true, Bool.true_and, Bool.and_self]
      rw [hv] at E
      exact a_zret (pc := 58) (b := false) C E (Nat.le_of_ble_eq_true rfl) (Nat.le_of_ble_eq_true rfl) (by decide +kernel) ⟨rfl, rfl⟩ dX5_doSortsFit_58
    · refine a_iloadn (pc := 48) C 2 rfl rfl dX5_doSortsFit_48 ?_
      refine a_iconst (pc := 49) (v := nI 1) C ci_1 dX5_doSortsFit_49 ?_
      refine a_ic_ne (pc := 50) (tgt := 57) C (by decide) dX5_doSortsFit_50 (fun c3 => ?_) (fun c3 => ?_)
      · refine a_iconst (pc := 57) (v := nI 0) C ci_0 dX5_doSortsFit_57 ?_
        have hv : sfB (nI 2) s1 s2 = false := by unfold sfB; rw [if_neg (by decide +kernel)]; rw [if_pos rfl]; simp only [decide_eq_true c2, decide_eq_false c3, Bool.and_false, Bool.false_and, Bool.and_true, Bool.true_and, Bool.and_self]
        rw [hv] at E
        exact a_zret (pc := 58) (b := false) C E (Nat.le_of_ble_eq_true rfl) (Nat.le_of_ble_eq_true rfl) (by decide +kernel) ⟨rfl, rfl⟩ dX5_doSortsFit_58
      · refine a_iconst (pc := 53) (v := nI 1) C ci_1 dX5_doSortsFit_53 ?_
        refine a_goto (pc := 54) (tgt := 58) C (by decide) dX5_doSortsFit_54 ?_
        have hv : sfB (nI 2) s1 s2 = true := by unfold sfB; rw [if_neg (by decide +kernel)]; rw [if_pos rfl]; simp only [decide_eq_true c2, decide_eq_true c3, Bool.and_false, Bool.false_and, Bool.and_true, Bool.true_and, Bool.and_self]
        rw [hv] at E
        exact a_zret (pc := 58) (b := true) C E (Nat.le_of_ble_eq_true rfl) (Nat.le_of_ble_eq_true rfl) (by decide +kernel) ⟨rfl, rfl⟩ dX5_doSortsFit_58
  by_cases h3 : kd = nI 3
  · subst h3
    refine a_table (pc := 1) (tgt := 59) C (by decide +kernel) (by decide +kernel) (off := 58) (by decide +kernel) (by decide) dX5_doSortsFit_1 ?_
    refine a_iloadn (pc := 59) C 1 rfl rfl dX5_doSortsFit_59 ?_
    refine a_iconst (pc := 60) (v := nI 3) C ci_3 dX5_doSortsFit_60 ?_
    refine a_ic_ne (pc := 61) (tgt := 68) C (by decide) dX5_doSortsFit_61 (fun c4 => ?_) (fun c4 => ?_)
    · refine a_iconst (pc := 68) (v := nI 0) C ci_0 dX5_doSortsFit_68 ?_
      have hv : sfB (nI 3) s1 s2 = false := by unfold sfB; rw [if_neg (by decide +kernel), if_neg (by decide +kernel)]; rw [if_pos rfl]; simp only [decide_eq_false c4, Bool.and_false, Bool.false_and, Bool.and_true, Bool.true_and, Bool.and_self]
      rw [hv] at E
      exact a_zret (pc := 69) (b := false) C E (Nat.le_of_ble_eq_true rfl) (Nat.le_of_ble_eq_true rfl) (by decide +kernel) ⟨rfl, rfl⟩ dX5_doSortsFit_69
    · refine a_iconst (pc := 64) (v := nI 1) C ci_1 dX5_doSortsFit_64 ?_
      refine a_goto (pc := 65) (tgt := 69) C (by decide) dX5_doSortsFit_65 ?_
      have hv : sfB (nI 3) s1 s2 = true := by unfold sfB; rw [if_neg (by decide +kernel), if_neg (by decide +kernel)]; rw [if_pos rfl]; simp only [decide_eq_true c4, Bool.and_false, Bool.false_and, Bool.and_true, Bool.true_and, Bool.and_self]
      rw [hv] at E
      exact a_zret (pc := 69) (b := true) C E (Nat.le_of_ble_eq_true rfl) (Nat.le_of_ble_eq_true rfl) (by decide +kernel) ⟨rfl, rfl⟩ dX5_doSortsFit_69
  by_cases h4 : kd = nI 4
  · subst h4
    refine a_table (pc := 1) (tgt := 70) C (by decide +kernel) (by decide +kernel) (off := 69) (by decide +kernel) (by decide) dX5_doSortsFit_1 ?_
    refine a_iloadn (pc := 70) C 1 rfl rfl dX5_doSortsFit_70 ?_
    refine a_iloadn (pc := 71) C 2 rfl rfl dX5_doSortsFit_71 ?_
    refine a_ic_ne (pc := 72) (tgt := 79) C (by decide) dX5_doSortsFit_72 (fun c5 => ?_) (fun c5 => ?_)
    · refine a_iconst (pc := 79) (v := nI 0) C ci_0 dX5_doSortsFit_79 ?_
      have hv : sfB (nI 4) s1 s2 = false := by unfold sfB; rw [if_neg (by decide +kernel), if_neg (by decide +kernel), if_neg (by decide +kernel)]; rw [if_pos rfl]; simp only [decide_eq_false c5, Bool.and_false, Bool.false_and, Bool.and_true, Bool.true_and, Bool.and_self]
      rw [hv] at E
      exact a_zret (pc := 80) (b := false) C E (Nat.le_of_ble_eq_true rfl) (Nat.le_of_ble_eq_true rfl) (by decide +kernel) ⟨rfl, rfl⟩ dX5_doSortsFit_80
    · refine a_iconst (pc := 75) (v := nI 1) C ci_1 dX5_doSortsFit_75 ?_
      refine a_goto (pc := 76) (tgt := 80) C (by decide) dX5_doSortsFit_76 ?_
      have hv : sfB (nI 4) s1 s2 = true := by unfold sfB; rw [if_neg (by decide +kernel), if_neg (by decide +kernel), if_neg (by decide +kernel)]; rw [if_pos rfl]; simp only [decide_eq_true c5, Bool.and_false, Bool.false_and, Bool.and_true, Bool.true_and, Bool.and_self]
      rw [hv] at E
      exact a_zret (pc := 80) (b := true) C E (Nat.le_of_ble_eq_true rfl) (Nat.le_of_ble_eq_true rfl) (by decide +kernel) ⟨rfl, rfl⟩ dX5_doSortsFit_80
  have g1 := nI_ne_toInt (by decide) h1; have g2 := nI_ne_toInt (by decide) h2; have g3 := nI_ne_toInt (by decide) h3; have g4 := nI_ne_toInt (by decide) h4
  refine a_tableD (pc := 1) (tgt := 81) C (by omega) (by decide) dX5_doSortsFit_1 ?_
  have hv : sfB kd s1 s2 = true := by rw [sfB, if_neg h1, if_neg h2, if_neg h3, if_neg h4]
  rw [hv] at E
  refine a_iconst (pc := 81) (v := nI 1) C ci_1 dX5_doSortsFit_81 ?_
  exact a_zret (pc := 82) (b := true) C E (Nat.le_of_ble_eq_true rfl) (Nat.le_of_ble_eq_true rfl) (by decide +kernel) ⟨rfl, rfl⟩ dX5_doSortsFit_82
set_option maxHeartbeats 4000000 in
set_option maxRecDepth 100000 in
theorem c_X5_wouldMakeLoop (κ : aK) (a : Nat → Nat) {n : Nat} {dug : Nat → Bool} {dtd : Nat → Bool} {so : Nat → Int32} {ph : Nat → Int32} {uf : Nat → Int32} {ul : Nat → Int32} {r : Nat} {ki : Nat → Int32} {lt : Nat → Nat} {er : Nat → Nat} {mz : Nat} {bd : Nat → Bool} {bo : Nat → Nat} {me : Nat → Nat → Bool} {dE : Nat → Nat → Bool} {eE : Nat → Nat → Bool} {lE : Nat → Nat → Bool} {li : Nat → Nat → Bool} {fB : Nat → Int32} {fA : Nat → Int32} {sL : Nat → Int32} {f : Nat} {fu : Nat → Nat} {fs : Nat → Int32} {ff : Nat → Int32} {fl : Nat → Int32} {xs : Nat → Int32} {ys : Nat → Int32} {zs : Nat → Int32} {oL : Nat → Int32} {oU : Nat → Int32} {lo : Nat → Int32} {up : Nat → Int32} {X : va_W} {kd : Int32} {x : Nat} {y : Nat} (hbo : ∀ u, bo u < 40) (hx : x < 40) (hy : y < 40) : CM yX5_wouldMakeLoop cX5_wouldMakeLoop 4 (some .boolean) ({ frames := 3, cells := 0, slots := 0, locals := 64 } : Room) κ [.ref (a 0), .int kd, .int (nI x), .int (nI y)] (wC κ a n dug dtd so ph uf ul r ki lt er mz bd bo me dE eE lE li fB fA sL f fu fs ff fl xs ys zs oL oU lo up X) (aD (some (.int (b2i (lpB bo eE kd x y)))) (wC κ a n dug dtd so ph uf ul r ki lt er mz bd bo me dE eE lE li fB fA sL f fu fs ff fl xs ys zs oL oU lo up X)) := by
  refine cm_entry (own := RX5) (L := [(0, .ref (a 0)), (1, .int kd), (2, .int (nI x)), (3, .int (nI y))]) (by decide +kernel) rfl (lv_entry [.ref (a 0), .int kd, .int (nI x), .int (nI y)] (n := 4) (Nat.le_of_ble_eq_true rfl)) (fun g C E => ?_)
  refine a_iloadn (pc := 0) C 1 rfl rfl dX5_wouldMakeLoop_0 ?_
  refine a_iconst (pc := 1) (v := nI 4) C ci_4 dX5_wouldMakeLoop_1 ?_
  refine a_ic_ne (pc := 2) (tgt := 35) C (by decide) dX5_wouldMakeLoop_2 (fun c1 => ?_) (fun c1 => ?_)
  · refine a_aloadn (pc := 35) C 0 rfl rfl dX5_wouldMakeLoop_35 ?_
    refine a_get (pc := 36) C fl_X5_26 0 rfl rfl dX5_wouldMakeLoop_36 ?_
    refine a_iloadn (pc := 39) C 2 rfl rfl dX5_wouldMakeLoop_39 ?_
    refine a_iloadn (pc := 40) C 3 rfl rfl dX5_wouldMakeLoop_40 ?_
    refine a_callV1 (pc := 41) (k' := 0) (n' := 0) C (c_X2_isSameBody κ a (by omega) (by omega) hbo) yv_X2_isSameBody ml_X5_167 wi_X2_isSameBody wl_X2_isSameBody 3 rfl rfl rfl rfl (Nat.le_of_ble_eq_true rfl) (Nat.le_of_ble_eq_true rfl) (Nat.le_of_ble_eq_true rfl) ⟨(Nat.le_of_ble_eq_true rfl), (Nat.le_of_ble_eq_true rfl)⟩ rfl rfl dX5_wouldMakeLoop_41 ?_
    refine a_ifb_ne (pc := 44) (tgt := 59) C (by decide) dX5_wouldMakeLoop_44 (fun c2 => ?_) (fun c2 => ?_)
    · refine a_iconst (pc := 59) (v := nI 1) C ci_1 dX5_wouldMakeLoop_59 ?_
      refine a_goto (pc := 60) (tgt := 64) C (by decide) dX5_wouldMakeLoop_60 ?_
      have hv : lpB bo eE kd x y = true := by rw [lpB, if_neg c1]; simp only [c2, Bool.or_true, Bool.true_or, Bool.or_self]
      rw [hv] at E
      exact a_zret (pc := 64) (b := true) C E (Nat.le_of_ble_eq_true rfl) (Nat.le_of_ble_eq_true rfl) (by decide +kernel) ⟨rfl, rfl⟩ dX5_wouldMakeLoop_64
    · refine a_aloadn (pc := 47) C 0 rfl rfl dX5_wouldMakeLoop_47 ?_
      refine a_get (pc := 48) C fl_X5_26 0 rfl rfl dX5_wouldMakeLoop_48 ?_
      refine a_iloadn (pc := 51) C 3 rfl rfl dX5_wouldMakeLoop_51 ?_
      refine a_iloadn (pc := 52) C 2 rfl rfl dX5_wouldMakeLoop_52 ?_
      refine a_callV1 (pc := 53) (k' := 0) (n' := 0) C (c_X2_isLater κ a (by omega) (by omega) hbo) yv_X2_isLater ml_X5_171 wi_X2_isLater wl_X2_isLater 3 rfl rfl rfl rfl (Nat.le_of_ble_eq_true rfl) (Nat.le_of_ble_eq_true rfl) (Nat.le_of_ble_eq_true rfl) ⟨(Nat.le_of_ble_eq_true rfl), (Nat.le_of_ble_eq_true rfl)⟩ rfl rfl dX5_wouldMakeLoop_53 ?_
      refine a_ifb_eq (pc := 56) (tgt := 63) C (by decide) dX5_wouldMakeLoop_56 (fun c3 => ?_) (fun c3 => ?_)
      · refine a_iconst (pc := 63) (v := nI 0) C ci_0 dX5_wouldMakeLoop_63 ?_
        have hv : lpB bo eE kd x y = false := by rw [lpB, if_neg c1]; simp only [c2, c3, Bool.or_true, Bool.true_or, Bool.or_self]
        rw [hv] at E
        exact a_zret (pc := 64) (b := false) C E (Nat.le_of_ble_eq_true rfl) (Nat.le_of_ble_eq_true rfl) (by decide +kernel) ⟨rfl, rfl⟩ dX5_wouldMakeLoop_64
      · refine a_iconst (pc := 59) (v := nI 1) C ci_1 dX5_wouldMakeLoop_59 ?_
        refine a_goto (pc := 60) (tgt := 64) C (by decide) dX5_wouldMakeLoop_60 ?_
        have hv : lpB bo eE kd x y = true := by rw [lpB, if_neg c1]; simp only [c2, c3, Bool.or_true, Bool.true_or, Bool.or_self]
        rw [hv] at E
        exact a_zret (pc := 64) (b := true) C E (Nat.le_of_ble_eq_true rfl) (Nat.le_of_ble_eq_true rfl) (by decide +kernel) ⟨rfl, rfl⟩ dX5_wouldMakeLoop_64
  · refine a_aloadn (pc := 5) C 0 rfl rfl dX5_wouldMakeLoop_5 ?_
    refine a_get (pc := 6) C fl_X5_26 0 rfl rfl dX5_wouldMakeLoop_6 ?_
    refine a_iloadn (pc := 9) C 2 rfl rfl dX5_wouldMakeLoop_9 ?_
    refine a_iloadn (pc := 10) C 3 rfl rfl dX5_wouldMakeLoop_10 ?_
    refine a_callV1 (pc := 11) (k' := 0) (n' := 0) C (c_X2_isLater κ a (by omega) (by omega) hbo) yv_X2_isLater ml_X5_171 wi_X2_isLater wl_X2_isLater 3 rfl rfl rfl rfl (Nat.le_of_ble_eq_true rfl) (Nat.le_of_ble_eq_true rfl) (Nat.le_of_ble_eq_true rfl) ⟨(Nat.le_of_ble_eq_true rfl), (Nat.le_of_ble_eq_true rfl)⟩ rfl rfl dX5_wouldMakeLoop_11 ?_
    refine a_ifb_ne (pc := 14) (tgt := 29) C (by decide) dX5_wouldMakeLoop_14 (fun c4 => ?_) (fun c4 => ?_)
    · refine a_iconst (pc := 29) (v := nI 1) C ci_1 dX5_wouldMakeLoop_29 ?_
      refine a_goto (pc := 30) (tgt := 34) C (by decide) dX5_wouldMakeLoop_30 ?_
      have hv : lpB bo eE kd x y = true := by rw [lpB, if_pos c1]; simp only [c4, Bool.or_true, Bool.true_or, Bool.or_self]
      rw [hv] at E
      exact a_zret (pc := 34) (b := true) C E (Nat.le_of_ble_eq_true rfl) (Nat.le_of_ble_eq_true rfl) (by decide +kernel) ⟨rfl, rfl⟩ dX5_wouldMakeLoop_34
    · refine a_aloadn (pc := 17) C 0 rfl rfl dX5_wouldMakeLoop_17 ?_
      refine a_get (pc := 18) C fl_X5_26 0 rfl rfl dX5_wouldMakeLoop_18 ?_
      refine a_iloadn (pc := 21) C 3 rfl rfl dX5_wouldMakeLoop_21 ?_
      refine a_iloadn (pc := 22) C 2 rfl rfl dX5_wouldMakeLoop_22 ?_
      refine a_callV1 (pc := 23) (k' := 0) (n' := 0) C (c_X2_isLater κ a (by omega) (by omega) hbo) yv_X2_isLater ml_X5_171 wi_X2_isLater wl_X2_isLater 3 rfl rfl rfl rfl (Nat.le_of_ble_eq_true rfl) (Nat.le_of_ble_eq_true rfl) (Nat.le_of_ble_eq_true rfl) ⟨(Nat.le_of_ble_eq_true rfl), (Nat.le_of_ble_eq_true rfl)⟩ rfl rfl dX5_wouldMakeLoop_23 ?_
      refine a_ifb_eq (pc := 26) (tgt := 33) C (by decide) dX5_wouldMakeLoop_26 (fun c5 => ?_) (fun c5 => ?_)
      · refine a_iconst (pc := 33) (v := nI 0) C ci_0 dX5_wouldMakeLoop_33 ?_
        have hv : lpB bo eE kd x y = false := by rw [lpB, if_pos c1]; simp only [c4, c5, Bool.or_true, Bool.true_or, Bool.or_self]
        rw [hv] at E
        exact a_zret (pc := 34) (b := false) C E (Nat.le_of_ble_eq_true rfl) (Nat.le_of_ble_eq_true rfl) (by decide +kernel) ⟨rfl, rfl⟩ dX5_wouldMakeLoop_34
      · refine a_iconst (pc := 29) (v := nI 1) C ci_1 dX5_wouldMakeLoop_29 ?_
        refine a_goto (pc := 30) (tgt := 34) C (by decide) dX5_wouldMakeLoop_30 ?_
        have hv : lpB bo eE kd x y = true := by rw [lpB, if_pos c1]; simp only [c4, c5, Bool.or_true, Bool.true_or, Bool.or_self]
        rw [hv] at E
        exact a_zret (pc := 34) (b := true) C E (Nat.le_of_ble_eq_true rfl) (Nat.le_of_ble_eq_true rfl) (by decide +kernel) ⟨rfl, rfl⟩ dX5_wouldMakeLoop_34
set_option maxHeartbeats 4000000 in
set_option maxRecDepth 100000 in
theorem c_X5_whyRefused (κ : aK) (a : Nat → Nat) {n : Nat} {dug : Nat → Bool} {dtd : Nat → Bool} {so : Nat → Int32} {ph : Nat → Int32} {uf : Nat → Int32} {ul : Nat → Int32} {r : Nat} {ki : Nat → Int32} {lt : Nat → Nat} {er : Nat → Nat} {mz : Nat} {bd : Nat → Bool} {bo : Nat → Nat} {me : Nat → Nat → Bool} {dE : Nat → Nat → Bool} {eE : Nat → Nat → Bool} {lE : Nat → Nat → Bool} {li : Nat → Nat → Bool} {fB : Nat → Int32} {fA : Nat → Int32} {sL : Nat → Int32} {f : Nat} {fu : Nat → Nat} {fs : Nat → Int32} {ff : Nat → Int32} {fl : Nat → Int32} {xs : Nat → Int32} {ys : Nat → Int32} {zs : Nat → Int32} {oL : Nat → Int32} {oU : Nat → Int32} {lo : Nat → Int32} {up : Nat → Int32} {X : va_W} {kd : Int32} {x : Nat} {y : Nat} (hr : r ≤ 80) (hbo : ∀ u, bo u < 40) (hlt : ∀ u, lt u < 40) (her : ∀ u, er u < 40) (hx : x < 40) (hy : y < 40) : CM yX5_whyRefused cX5_whyRefused 4 (some .int) ({ frames := 4, cells := 0, slots := 0, locals := 87 } : Room) κ [.ref (a 0), .int kd, .int (nI x), .int (nI y)] (wC κ a n dug dtd so ph uf ul r ki lt er mz bd bo me dE eE lE li fB fA sL f fu fs ff fl xs ys zs oL oU lo up X) (aD (some (.int (nI (whR so ki lt er bo eE r kd x y)))) (wC κ a n dug dtd so ph uf ul r ki lt er mz bd bo me dE eE lE li fB fA sL f fu fs ff fl xs ys zs oL oU lo up X)) := by
  refine cm_entry (own := RX5) (L := [(0, .ref (a 0)), (1, .int kd), (2, .int (nI x)), (3, .int (nI y))]) (by decide +kernel) rfl (lv_entry [.ref (a 0), .int kd, .int (nI x), .int (nI y)] (n := 4) (Nat.le_of_ble_eq_true rfl)) (fun g C E => ?_)
  refine a_iloadn (pc := 0) C 2 rfl rfl dX5_whyRefused_0 ?_
  refine a_iloadn (pc := 1) C 3 rfl rfl dX5_whyRefused_1 ?_
  refine a_icn_ne (pc := 2) (tgt := 7) C (by omega) (by omega) (by decide) dX5_whyRefused_2 (fun c1 => ?_) (fun c1 => ?_)
  · refine a_iloadn (pc := 7) C 1 rfl rfl dX5_whyRefused_7 ?_
    refine a_aloadn (pc := 8) C 0 rfl rfl dX5_whyRefused_8 ?_
    refine a_get (pc := 9) C fl_X5_10 0 rfl rfl dX5_whyRefused_9 ?_
    refine a_get (pc := 12) C fl_X5_138 1 rfl rfl dX5_whyRefused_12 ?_
    refine a_iloadn (pc := 15) C 2 rfl rfl dX5_whyRefused_15 ?_
    refine a_iald (pc := 16) C 6 rfl (by omega) (by decide) dX5_whyRefused_16 ?_
    refine a_aloadn (pc := 17) C 0 rfl rfl dX5_whyRefused_17 ?_
    refine a_get (pc := 18) C fl_X5_10 0 rfl rfl dX5_whyRefused_18 ?_
    refine a_get (pc := 21) C fl_X5_138 1 rfl rfl dX5_whyRefused_21 ?_
    refine a_iloadn (pc := 24) C 3 rfl rfl dX5_whyRefused_24 ?_
    refine a_iald (pc := 25) C 6 rfl (by omega) (by decide) dX5_whyRefused_25 ?_
    refine a_callS1 (pc := 26) (k' := 0) (n' := 0) C (c_X5_doSortsFit κ) yv_X5_doSortsFit ml_X5_322 ws_X5_doSortsFit rfl rfl (Nat.le_of_ble_eq_true rfl) (Nat.le_of_ble_eq_true rfl) (Nat.le_of_ble_eq_true rfl) ⟨(Nat.le_of_ble_eq_true rfl), (Nat.le_of_ble_eq_true rfl)⟩ rfl rfl dX5_whyRefused_26 ?_
    refine a_ifb_ne (pc := 29) (tgt := 34) C (by decide) dX5_whyRefused_29 (fun c2 => ?_) (fun c2 => ?_)
    · refine a_aloadn (pc := 34) C 0 rfl rfl dX5_whyRefused_34 ?_
      refine a_get (pc := 35) C fl_X5_19 0 rfl rfl dX5_whyRefused_35 ?_
      refine a_iloadn (pc := 38) C 1 rfl rfl dX5_whyRefused_38 ?_
      refine a_iloadn (pc := 39) C 2 rfl rfl dX5_whyRefused_39 ?_
      refine a_iloadn (pc := 40) C 3 rfl rfl dX5_whyRefused_40 ?_
      refine a_callV1 (pc := 41) (k' := 0) (n' := 0) C (c_X3_isTold κ a hr hlt her hx hy) yv_X3_isTold ml_X5_325 wi_X3_isTold wl_X3_isTold 2 rfl rfl rfl rfl (Nat.le_of_ble_eq_true rfl) (Nat.le_of_ble_eq_true rfl) (Nat.le_of_ble_eq_true rfl) ⟨(Nat.le_of_ble_eq_true rfl), (Nat.le_of_ble_eq_true rfl)⟩ rfl rfl dX5_whyRefused_41 ?_
      refine a_ifb_eq (pc := 44) (tgt := 49) C (by decide) dX5_whyRefused_44 (fun c3 => ?_) (fun c3 => ?_)
      · refine a_aloadn (pc := 49) C 0 rfl rfl dX5_whyRefused_49 ?_
        refine a_iloadn (pc := 50) C 1 rfl rfl dX5_whyRefused_50 ?_
        refine a_iloadn (pc := 51) C 2 rfl rfl dX5_whyRefused_51 ?_
        refine a_iloadn (pc := 52) C 3 rfl rfl dX5_whyRefused_52 ?_
        refine a_callV1 (pc := 53) (k' := 0) (n' := 0) C (c_X5_wouldMakeLoop κ a hbo hx hy) yv_X5_wouldMakeLoop ml_X5_328 wi_X5_wouldMakeLoop wl_X5_wouldMakeLoop 0 rfl rfl rfl rfl (Nat.le_of_ble_eq_true rfl) (Nat.le_of_ble_eq_true rfl) (Nat.le_of_ble_eq_true rfl) ⟨(Nat.le_of_ble_eq_true rfl), (Nat.le_of_ble_eq_true rfl)⟩ rfl rfl dX5_whyRefused_53 ?_
        refine a_ifb_eq (pc := 56) (tgt := 63) C (by decide) dX5_whyRefused_56 (fun c4 => ?_) (fun c4 => ?_)
        · refine a_iconst (pc := 63) (v := nI 0) C ci_0 dX5_whyRefused_63 ?_
          exact a_iret (pc := 64) C E (Nat.le_of_ble_eq_true rfl) (Nat.le_of_ble_eq_true rfl) ⟨by rw [whR_0 c1 c2 c3 c4], rfl⟩ dX5_whyRefused_64
        · refine a_iconst (pc := 59) (v := nI 4) C ci_4 dX5_whyRefused_59 ?_
          refine a_goto (pc := 60) (tgt := 64) C (by decide) dX5_whyRefused_60 ?_
          exact a_iret (pc := 64) C E (Nat.le_of_ble_eq_true rfl) (Nat.le_of_ble_eq_true rfl) ⟨by rw [whR_4 c1 c2 c3 c4], rfl⟩ dX5_whyRefused_64
      · refine a_iconst (pc := 47) (v := nI 3) C ci_3 dX5_whyRefused_47 ?_
        exact a_iret (pc := 48) C E (Nat.le_of_ble_eq_true rfl) (Nat.le_of_ble_eq_true rfl) ⟨by rw [whR_3 c1 c2 c3], rfl⟩ dX5_whyRefused_48
    · refine a_iconst (pc := 32) (v := nI 2) C ci_2 dX5_whyRefused_32 ?_
      exact a_iret (pc := 33) C E (Nat.le_of_ble_eq_true rfl) (Nat.le_of_ble_eq_true rfl) ⟨by rw [whR_2 c1 c2], rfl⟩ dX5_whyRefused_33
  · refine a_iconst (pc := 5) (v := nI 1) C ci_1 dX5_whyRefused_5 ?_
    exact a_iret (pc := 6) C E (Nat.le_of_ble_eq_true rfl) (Nat.le_of_ble_eq_true rfl) ⟨by rw [whR_1 c1], rfl⟩ dX5_whyRefused_6
set_option maxHeartbeats 4000000 in
set_option maxRecDepth 100000 in
theorem c_X5_bodiesInDoubt (κ : aK) (a : Nat → Nat) {n : Nat} {dug : Nat → Bool} {dtd : Nat → Bool} {so : Nat → Int32} {ph : Nat → Int32} {uf : Nat → Int32} {ul : Nat → Int32} {r : Nat} {ki : Nat → Int32} {lt : Nat → Nat} {er : Nat → Nat} {mz : Nat} {bd : Nat → Bool} {bo : Nat → Nat} {me : Nat → Nat → Bool} {dE : Nat → Nat → Bool} {eE : Nat → Nat → Bool} {lE : Nat → Nat → Bool} {li : Nat → Nat → Bool} {fB : Nat → Int32} {fA : Nat → Int32} {sL : Nat → Int32} {f : Nat} {fu : Nat → Nat} {fs : Nat → Int32} {ff : Nat → Int32} {fl : Nat → Int32} {xs : Nat → Int32} {ys : Nat → Int32} {zs : Nat → Int32} {oL : Nat → Int32} {oU : Nat → Int32} {lo : Nat → Int32} {up : Nat → Int32} {X : va_W} (hn : n ≤ 40) : CM yX5_bodiesInDoubt cX5_bodiesInDoubt 4 (some .long) ({ frames := 2, cells := 0, slots := 0, locals := 42 } : Room) κ [.ref (a 0)] (wC κ a n dug dtd so ph uf ul r ki lt er mz bd bo me dE eE lE li fB fA sL f fu fs ff fl xs ys zs oL oU lo up X) (aD (some (.long (bs (dbS bd lo up n)))) (wC κ a n dug dtd so ph uf ul r ki lt er mz bd bo me dE eE lE li fB fA sL f fu fs ff fl xs ys zs oL oU lo up X)) := by
  refine cm_entry (own := RX5) (L := [(0, .ref (a 0))]) (by decide +kernel) rfl (lv_entry [.ref (a 0)] (n := 4) (Nat.le_of_ble_eq_true rfl)) (fun g C E => ?_)
  refine a_lconst (pc := 0) (v := bs (fun _ => false)) C bs_0 dX5_bodiesInDoubt_0 ?_
  refine a_lstoren (pc := 1) (L' := [(0, .ref (a 0)), (1, .long (bs (fun _ => false)))]) C (by decide) rfl rfl dX5_bodiesInDoubt_1 ?_
  refine a_iconst (pc := 2) (v := nI 0) C ci_0 dX5_bodiesInDoubt_2 ?_
  refine a_istoren (pc := 3) (L' := [(0, .ref (a 0)), (1, .long (bs (fun _ => false))), (3, .int (nI 0))]) C (by decide) rfl rfl dX5_bodiesInDoubt_3 ?_
  have LP4 : ∀ (jz k : Nat), k + jz = n → aw g κ 4 4 [(0, .ref (a 0)), (1, .long (bs (selS (fun v => bd v && decide (up v < lo v)) k))), (3, .int (nI k))] [] (wC κ a n dug dtd so ph uf ul r ki lt er mz bd bo me dE eE lE li fB fA sL f fu fs ff fl xs ys zs oL oU lo up X) 0 0 := by
    intro jz
    induction jz with
    | zero =>
      intro k hk_k
      obtain rfl : n = k := by omega
      refine a_iloadn (pc := 4) C 2 rfl rfl dX5_bodiesInDoubt_4 ?_
      refine a_aloadn (pc := 5) C 0 rfl rfl dX5_bodiesInDoubt_5 ?_
      refine a_get (pc := 6) C fl_X5_10 0 rfl rfl dX5_bodiesInDoubt_6 ?_
      refine a_get (pc := 9) C fl_X5_55 1 rfl rfl dX5_bodiesInDoubt_9 ?_
      refine a_icn_ge_y (pc := 12) (tgt := 63) C (by omega) (by omega) (by omega) (by decide) dX5_bodiesInDoubt_12 ?_
      refine a_lloadn (pc := 63) C 1 rfl rfl dX5_bodiesInDoubt_63 ?_
      exact a_lret (pc := 64) C E (Nat.le_of_ble_eq_true rfl) (Nat.le_of_ble_eq_true rfl) ⟨rfl, rfl⟩ dX5_bodiesInDoubt_64
    | succ jz ih =>
      intro k hk_k
      have hlt_k : k < n := by omega
      refine a_iloadn (pc := 4) C 2 rfl rfl dX5_bodiesInDoubt_4 ?_
      refine a_aloadn (pc := 5) C 0 rfl rfl dX5_bodiesInDoubt_5 ?_
      refine a_get (pc := 6) C fl_X5_10 0 rfl rfl dX5_bodiesInDoubt_6 ?_
      refine a_get (pc := 9) C fl_X5_55 1 rfl rfl dX5_bodiesInDoubt_9 ?_
      refine a_icn_ge_n (pc := 12) C (by omega) (by omega) (by omega) dX5_bodiesInDoubt_12 ⟨63, by decide⟩ ?_
      refine a_aloadn (pc := 15) C 0 rfl rfl dX5_bodiesInDoubt_15 ?_
      refine a_get (pc := 16) C fl_X5_26 0 rfl rfl dX5_bodiesInDoubt_16 ?_
      refine a_get (pc := 19) C fl_X5_107 3 rfl rfl dX5_bodiesInDoubt_19 ?_
      refine a_iloadn (pc := 22) C 2 rfl rfl dX5_bodiesInDoubt_22 ?_
      refine a_callS1 (pc := 23) (k' := 0) (n' := 0) C (c_X5_has κ (by omega)) yv_X5_has ml_X5_157 ws_X5_has rfl rfl (Nat.le_of_ble_eq_true rfl) (Nat.le_of_ble_eq_true rfl) (Nat.le_of_ble_eq_true rfl) ⟨(Nat.le_of_ble_eq_true rfl), (Nat.le_of_ble_eq_true rfl)⟩ rfl rfl dX5_bodiesInDoubt_23 ?_
      refine a_ifb_eq (pc := 26) (tgt := 57) C (by decide) dX5_bodiesInDoubt_26 (fun c1 => ?_) (fun c1 => ?_)
      · refine a_iinc (pc := 57) (v := nI (k + 1)) (L' := [(0, .ref (a 0)), (1, .long (bs (selS (fun v => bd v && decide (up v < lo v)) k))), (3, .int (nI (k + 1)))]) C 2 rfl (nI_inc _) (by decide) rfl dX5_bodiesInDoubt_57 ?_
        refine a_goto (pc := 60) (tgt := 4) C (by decide) dX5_bodiesInDoubt_60 ?_
        refine aw_L (L' := [(0, .ref (a 0)), (1, .long (bs (selS (fun v => bd v && decide (up v < lo v)) (k + 1)))), (3, .int (nI (k + 1)))]) (congrArg (fun zz9 => ([(0, .ref (a 0)), (1, .long zz9), (3, .int (nI (k + 1)))] : List (Nat × Value))) (congrArg bs (selS_n (and_ff c1)) : (bs (selS (fun v => bd v && decide (up v < lo v)) k)) = (bs (selS (fun v => bd v && decide (up v < lo v)) (k + 1))))) ?_
        exact ih (k + 1) (by omega)
      · refine a_aloadn (pc := 29) C 0 rfl rfl dX5_bodiesInDoubt_29 ?_
        refine a_get (pc := 30) C fl_X5_40 0 rfl rfl dX5_bodiesInDoubt_30 ?_
        refine a_get (pc := 33) C fl_X5_244 5 rfl rfl dX5_bodiesInDoubt_33 ?_
        refine a_iloadn (pc := 36) C 2 rfl rfl dX5_bodiesInDoubt_36 ?_
        refine a_iald (pc := 37) C 31 rfl (by omega) (by decide) dX5_bodiesInDoubt_37 ?_
        refine a_aloadn (pc := 38) C 0 rfl rfl dX5_bodiesInDoubt_38 ?_
        refine a_get (pc := 39) C fl_X5_40 0 rfl rfl dX5_bodiesInDoubt_39 ?_
        refine a_get (pc := 42) C fl_X5_241 5 rfl rfl dX5_bodiesInDoubt_42 ?_
        refine a_iloadn (pc := 45) C 2 rfl rfl dX5_bodiesInDoubt_45 ?_
        refine a_iald (pc := 46) C 32 rfl (by omega) (by decide) dX5_bodiesInDoubt_46 ?_
        refine a_ic_le (pc := 47) (tgt := 57) C (by decide) dX5_bodiesInDoubt_47 (fun c2 => ?_) (fun c2 => ?_)
        · refine a_iinc (pc := 57) (v := nI (k + 1)) (L' := [(0, .ref (a 0)), (1, .long (bs (selS (fun v => bd v && decide (up v < lo v)) k))), (3, .int (nI (k + 1)))]) C 2 rfl (nI_inc _) (by decide) rfl dX5_bodiesInDoubt_57 ?_
          refine a_goto (pc := 60) (tgt := 4) C (by decide) dX5_bodiesInDoubt_60 ?_
          refine aw_L (L' := [(0, .ref (a 0)), (1, .long (bs (selS (fun v => bd v && decide (up v < lo v)) (k + 1)))), (3, .int (nI (k + 1)))]) (congrArg (fun zz9 => ([(0, .ref (a 0)), (1, .long zz9), (3, .int (nI (k + 1)))] : List (Nat × Value))) (congrArg bs (selS_n (and_tf c1 (decide_eq_false (Int32.not_lt.mpr c2)))) : (bs (selS (fun v => bd v && decide (up v < lo v)) k)) = (bs (selS (fun v => bd v && decide (up v < lo v)) (k + 1))))) ?_
          exact ih (k + 1) (by omega)
        · refine a_lloadn (pc := 50) C 1 rfl rfl dX5_bodiesInDoubt_50 ?_
          refine a_iloadn (pc := 51) C 2 rfl rfl dX5_bodiesInDoubt_51 ?_
          refine a_callS1 (pc := 52) (k' := 0) (n' := 0) C (c_X5_bit κ (by omega)) yv_X5_bit ml_X5_258 ws_X5_bit rfl rfl (Nat.le_of_ble_eq_true rfl) (Nat.le_of_ble_eq_true rfl) (Nat.le_of_ble_eq_true rfl) ⟨(Nat.le_of_ble_eq_true rfl), (Nat.le_of_ble_eq_true rfl)⟩ rfl rfl dX5_bodiesInDoubt_52 ?_
          refine a_lor (pc := 55) (v := bs (fun i => (selS (fun v => bd v && decide (up v < lo v)) k) i || (decide (i = k)))) C (bs_or _ _) dX5_bodiesInDoubt_55 ?_
          refine a_lstoren (pc := 56) (L' := [(0, .ref (a 0)), (1, .long (bs (fun i => (selS (fun v => bd v && decide (up v < lo v)) k) i || (decide (i = k))))), (3, .int (nI k))]) C (by decide) rfl rfl dX5_bodiesInDoubt_56 ?_
          refine a_iinc (pc := 57) (v := nI (k + 1)) (L' := [(0, .ref (a 0)), (1, .long (bs (fun i => (selS (fun v => bd v && decide (up v < lo v)) k) i || (decide (i = k))))), (3, .int (nI (k + 1)))]) C 2 rfl (nI_inc _) (by decide) rfl dX5_bodiesInDoubt_57 ?_
          refine a_goto (pc := 60) (tgt := 4) C (by decide) dX5_bodiesInDoubt_60 ?_
          refine aw_L (L' := [(0, .ref (a 0)), (1, .long (bs (selS (fun v => bd v && decide (up v < lo v)) (k + 1)))), (3, .int (nI (k + 1)))]) (congrArg (fun zz9 => ([(0, .ref (a 0)), (1, .long zz9), (3, .int (nI (k + 1)))] : List (Nat × Value))) (congrArg bs (selS_y (and_tt c1 (decide_eq_true (Int32.not_le.mp c2)))) : (bs (fun i => (selS (fun v => bd v && decide (up v < lo v)) k) i || (decide (i = k)))) = (bs (selS (fun v => bd v && decide (up v < lo v)) (k + 1))))) ?_
          exact ih (k + 1) (by omega)
  refine aw_L (L' := [(0, .ref (a 0)), (1, .long (bs (selS (fun v => bd v && decide (up v < lo v)) 0))), (3, .int (nI 0))]) (congrArg (fun zz9 => ([(0, .ref (a 0)), (1, .long zz9), (3, .int (nI 0))] : List (Nat × Value))) (congrArg bs (selS_0 _) : (bs (fun _ => false)) = (bs (selS (fun v => bd v && decide (up v < lo v)) 0)))) ?_
  exact LP4 (n) (0) (by omega)
set_option maxHeartbeats 4000000 in
set_option maxRecDepth 100000 in
theorem c_X5_misfit (κ : aK) (a : Nat → Nat) {n : Nat} {dug : Nat → Bool} {dtd : Nat → Bool} {so : Nat → Int32} {ph : Nat → Int32} {uf : Nat → Int32} {ul : Nat → Int32} {r : Nat} {ki : Nat → Int32} {lt : Nat → Nat} {er : Nat → Nat} {mz : Nat} {bd : Nat → Bool} {bo : Nat → Nat} {me : Nat → Nat → Bool} {dE : Nat → Nat → Bool} {eE : Nat → Nat → Bool} {lE : Nat → Nat → Bool} {li : Nat → Nat → Bool} {fB : Nat → Int32} {fA : Nat → Int32} {sL : Nat → Int32} {f : Nat} {fu : Nat → Nat} {fs : Nat → Int32} {ff : Nat → Int32} {fl : Nat → Int32} {xs : Nat → Int32} {ys : Nat → Int32} {zs : Nat → Int32} {oL : Nat → Int32} {oU : Nat → Int32} {lo : Nat → Int32} {up : Nat → Int32} {X : va_W} {j : Nat} (hbo : ∀ u, bo u < 40) (hfu : ∀ u, fu u < 40) (hj : j < 60) : CM yX5_misfit cX5_misfit 3 (some .int) ({ frames := 0, cells := 0, slots := 0, locals := 0 } : Room) κ [.ref (a 0), .int (nI j)] (wC κ a n dug dtd so ph uf ul r ki lt er mz bd bo me dE eE lE li fB fA sL f fu fs ff fl xs ys zs oL oU lo up X) (aD (some (.int (nI (mfR bo fu ff fl lo up j)))) (wC κ a n dug dtd so ph uf ul r ki lt er mz bd bo me dE eE lE li fB fA sL f fu fs ff fl xs ys zs oL oU lo up X)) := by
  refine cm_entry (own := RX5) (L := [(0, .ref (a 0)), (1, .int (nI j))]) (by decide +kernel) rfl (lv_entry [.ref (a 0), .int (nI j)] (n := 3) (Nat.le_of_ble_eq_true rfl)) (fun g C E => ?_)
  refine a_aloadn (pc := 0) C 0 rfl rfl dX5_misfit_0 ?_
  refine a_get (pc := 1) C fl_X5_26 0 rfl rfl dX5_misfit_1 ?_
  refine a_get (pc := 4) C fl_X5_135 3 rfl rfl dX5_misfit_4 ?_
  refine a_aloadn (pc := 7) C 0 rfl rfl dX5_misfit_7 ?_
  refine a_get (pc := 8) C fl_X5_33 0 rfl rfl dX5_misfit_8 ?_
  refine a_get (pc := 11) C fl_X5_223 4 rfl rfl dX5_misfit_11 ?_
  refine a_iloadn (pc := 14) C 1 rfl rfl dX5_misfit_14 ?_
  refine a_ialdN (pc := 15) C 22 rfl (by omega) (by decide) dX5_misfit_15 ?_
  refine a_ialdN (pc := 16) C 13 rfl (hfu _) (by decide) dX5_misfit_16 ?_
  refine a_istoren (pc := 17) (L' := [(0, .ref (a 0)), (1, .int (nI j)), (2, .int (nI (bo (fu j))))]) C (by decide) rfl rfl dX5_misfit_17 ?_
  refine a_aloadn (pc := 18) C 0 rfl rfl dX5_misfit_18 ?_
  refine a_get (pc := 19) C fl_X5_33 0 rfl rfl dX5_misfit_19 ?_
  refine a_get (pc := 22) C fl_X5_226 4 rfl rfl dX5_misfit_22 ?_
  refine a_iloadn (pc := 25) C 1 rfl rfl dX5_misfit_25 ?_
  refine a_iald (pc := 26) C 24 rfl (by omega) (by decide) dX5_misfit_26 ?_
  refine a_aloadn (pc := 27) C 0 rfl rfl dX5_misfit_27 ?_
  refine a_get (pc := 28) C fl_X5_40 0 rfl rfl dX5_misfit_28 ?_
  refine a_get (pc := 31) C fl_X5_241 5 rfl rfl dX5_misfit_31 ?_
  refine a_iloadn (pc := 34) C 2 rfl rfl dX5_misfit_34 ?_
  refine a_iald (pc := 35) C 32 rfl (hbo _) (by decide) dX5_misfit_35 ?_
  refine a_ic_le (pc := 36) (tgt := 41) C (by decide) dX5_misfit_36 (fun c1 => ?_) (fun c1 => ?_)
  · refine a_aloadn (pc := 41) C 0 rfl rfl dX5_misfit_41 ?_
    refine a_get (pc := 42) C fl_X5_33 0 rfl rfl dX5_misfit_42 ?_
    refine a_get (pc := 45) C fl_X5_229 4 rfl rfl dX5_misfit_45 ?_
    refine a_iloadn (pc := 48) C 1 rfl rfl dX5_misfit_48 ?_
    refine a_iald (pc := 49) C 25 rfl (by omega) (by decide) dX5_misfit_49 ?_
    refine a_aloadn (pc := 50) C 0 rfl rfl dX5_misfit_50 ?_
    refine a_get (pc := 51) C fl_X5_40 0 rfl rfl dX5_misfit_51 ?_
    refine a_get (pc := 54) C fl_X5_244 5 rfl rfl dX5_misfit_54 ?_
    refine a_iloadn (pc := 57) C 2 rfl rfl dX5_misfit_57 ?_
    refine a_iald (pc := 58) C 31 rfl (hbo _) (by decide) dX5_misfit_58 ?_
    refine a_ic_ge (pc := 59) (tgt := 66) C (by decide) dX5_misfit_59 (fun c2 => ?_) (fun c2 => ?_)
    · refine a_iconst (pc := 66) (v := nI 0) C ci_0 dX5_misfit_66 ?_
      exact a_iret (pc := 67) C E (Nat.le_of_ble_eq_true rfl) (Nat.le_of_ble_eq_true rfl) ⟨by rw [mfR, if_neg (Int32.not_lt.mpr c1), if_neg (Int32.not_lt.mpr c2)], rfl⟩ dX5_misfit_67
    · refine a_iconst (pc := 62) (v := nI 1) C ci_1 dX5_misfit_62 ?_
      refine a_goto (pc := 63) (tgt := 67) C (by decide) dX5_misfit_63 ?_
      exact a_iret (pc := 67) C E (Nat.le_of_ble_eq_true rfl) (Nat.le_of_ble_eq_true rfl) ⟨by rw [mfR, if_neg (Int32.not_lt.mpr c1), if_pos (Int32.not_le.mp c2)], rfl⟩ dX5_misfit_67
  · refine a_iconst (pc := 39) (v := nI 2) C ci_2 dX5_misfit_39 ?_
    exact a_iret (pc := 40) C E (Nat.le_of_ble_eq_true rfl) (Nat.le_of_ble_eq_true rfl) ⟨by rw [mfR, if_pos (Int32.not_le.mp c1)], rfl⟩ dX5_misfit_40
set_option maxHeartbeats 4000000 in
set_option maxRecDepth 100000 in
theorem c_X5_canBeDug (κ : aK) (a : Nat → Nat) {n : Nat} {dug : Nat → Bool} {dtd : Nat → Bool} {so : Nat → Int32} {ph : Nat → Int32} {uf : Nat → Int32} {ul : Nat → Int32} {r : Nat} {ki : Nat → Int32} {lt : Nat → Nat} {er : Nat → Nat} {mz : Nat} {bd : Nat → Bool} {bo : Nat → Nat} {me : Nat → Nat → Bool} {dE : Nat → Nat → Bool} {eE : Nat → Nat → Bool} {lE : Nat → Nat → Bool} {li : Nat → Nat → Bool} {fB : Nat → Int32} {fA : Nat → Int32} {sL : Nat → Int32} {f : Nat} {fu : Nat → Nat} {fs : Nat → Int32} {ff : Nat → Int32} {fl : Nat → Int32} {xs : Nat → Int32} {ys : Nat → Int32} {zs : Nat → Int32} {oL : Nat → Int32} {oU : Nat → Int32} {lo : Nat → Int32} {up : Nat → Int32} {X : va_W} {u : Nat} (hn : n ≤ 40) (hbo : ∀ u, bo u < 40) (hu : u < 40) : CM yX5_canBeDug cX5_canBeDug 3 (some .boolean) ({ frames := 3, cells := 0, slots := 0, locals := 64 } : Room) κ [.ref (a 0), .int (nI u)] (wC κ a n dug dtd so ph uf ul r ki lt er mz bd bo me dE eE lE li fB fA sL f fu fs ff fl xs ys zs oL oU lo up X) (aD (some (.int (b2i (cdB n bo eE dug u)))) (wC κ a n dug dtd so ph uf ul r ki lt er mz bd bo me dE eE lE li fB fA sL f fu fs ff fl xs ys zs oL oU lo up X)) := by
  refine cm_entry (own := RX5) (L := [(0, .ref (a 0)), (1, .int (nI u))]) (by decide +kernel) rfl (lv_entry [.ref (a 0), .int (nI u)] (n := 3) (Nat.le_of_ble_eq_true rfl)) (fun g C E => ?_)
  refine a_aloadn (pc := 0) C 0 rfl rfl dX5_canBeDug_0 ?_
  refine a_get (pc := 1) C fl_X5_10 0 rfl rfl dX5_canBeDug_1 ?_
  refine a_get (pc := 4) C fl_X5_122 1 rfl rfl dX5_canBeDug_4 ?_
  refine a_iloadn (pc := 7) C 1 rfl rfl dX5_canBeDug_7 ?_
  refine a_callS1 (pc := 8) (k' := 0) (n' := 0) C (c_X5_has κ (by omega)) yv_X5_has ml_X5_157 ws_X5_has rfl rfl (Nat.le_of_ble_eq_true rfl) (Nat.le_of_ble_eq_true rfl) (Nat.le_of_ble_eq_true rfl) ⟨(Nat.le_of_ble_eq_true rfl), (Nat.le_of_ble_eq_true rfl)⟩ rfl rfl dX5_canBeDug_8 ?_
  refine a_ifb_eq (pc := 11) (tgt := 16) C (by decide) dX5_canBeDug_11 (fun c1 => ?_) (fun c1 => ?_)
  · refine a_iconst (pc := 16) (v := nI 0) C ci_0 dX5_canBeDug_16 ?_
    refine a_istoren (pc := 17) (L' := [(0, .ref (a 0)), (1, .int (nI u)), (2, .int (nI 0))]) C (by decide) rfl rfl dX5_canBeDug_17 ?_
    have LP18 : ∀ (jz k : Nat), k + jz = n → (anyB (fun v => eE (bo v) (bo u) && !(dug v)) k = false) → aw g κ 3 18 [(0, .ref (a 0)), (1, .int (nI u)), (2, .int (nI k))] [] (wC κ a n dug dtd so ph uf ul r ki lt er mz bd bo me dE eE lE li fB fA sL f fu fs ff fl xs ys zs oL oU lo up X) 0 0 := by
      intro jz
      induction jz with
      | zero =>
        intro k hk_k hno
        obtain rfl : n = k := by omega
        refine a_iloadn (pc := 18) C 2 rfl rfl dX5_canBeDug_18 ?_
        refine a_aloadn (pc := 19) C 0 rfl rfl dX5_canBeDug_19 ?_
        refine a_get (pc := 20) C fl_X5_10 0 rfl rfl dX5_canBeDug_20 ?_
        refine a_get (pc := 23) C fl_X5_55 1 rfl rfl dX5_canBeDug_23 ?_
        refine a_icn_ge_y (pc := 26) (tgt := 63) C (by omega) (by omega) (by omega) (by decide) dX5_canBeDug_26 ?_
        refine a_iconst (pc := 63) (v := nI 1) C ci_1 dX5_canBeDug_63 ?_
        exact a_zret (pc := 64) (b := true) C E (Nat.le_of_ble_eq_true rfl) (Nat.le_of_ble_eq_true rfl) (by decide +kernel) ⟨by rw [cdB, c1, hno]; rfl, rfl⟩ dX5_canBeDug_64
      | succ jz ih =>
        intro k hk_k hno
        have hlt_k : k < n := by omega
        refine a_iloadn (pc := 18) C 2 rfl rfl dX5_canBeDug_18 ?_
        refine a_aloadn (pc := 19) C 0 rfl rfl dX5_canBeDug_19 ?_
        refine a_get (pc := 20) C fl_X5_10 0 rfl rfl dX5_canBeDug_20 ?_
        refine a_get (pc := 23) C fl_X5_55 1 rfl rfl dX5_canBeDug_23 ?_
        refine a_icn_ge_n (pc := 26) C (by omega) (by omega) (by omega) dX5_canBeDug_26 ⟨63, by decide⟩ ?_
        refine a_aloadn (pc := 29) C 0 rfl rfl dX5_canBeDug_29 ?_
        refine a_get (pc := 30) C fl_X5_26 0 rfl rfl dX5_canBeDug_30 ?_
        refine a_iloadn (pc := 33) C 2 rfl rfl dX5_canBeDug_33 ?_
        refine a_iloadn (pc := 34) C 1 rfl rfl dX5_canBeDug_34 ?_
        refine a_callV1 (pc := 35) (k' := 0) (n' := 0) C (c_X2_isLater κ a (by omega) hu hbo) yv_X2_isLater ml_X5_171 wi_X2_isLater wl_X2_isLater 3 rfl rfl rfl rfl (Nat.le_of_ble_eq_true rfl) (Nat.le_of_ble_eq_true rfl) (Nat.le_of_ble_eq_true rfl) ⟨(Nat.le_of_ble_eq_true rfl), (Nat.le_of_ble_eq_true rfl)⟩ rfl rfl dX5_canBeDug_35 ?_
        refine a_ifb_eq (pc := 38) (tgt := 57) C (by decide) dX5_canBeDug_38 (fun c2 => ?_) (fun c2 => ?_)
        · refine a_iinc (pc := 57) (v := nI (k + 1)) (L' := [(0, .ref (a 0)), (1, .int (nI u)), (2, .int (nI (k + 1)))]) C 2 rfl (nI_inc _) (by decide) rfl dX5_canBeDug_57 ?_
          refine a_goto (pc := 60) (tgt := 18) C (by decide) dX5_canBeDug_60 ?_
          exact ih (k + 1) (by omega) (anyB_mis hno (and_ff c2))
        · refine a_aloadn (pc := 41) C 0 rfl rfl dX5_canBeDug_41 ?_
          refine a_get (pc := 42) C fl_X5_10 0 rfl rfl dX5_canBeDug_42 ?_
          refine a_get (pc := 45) C fl_X5_122 1 rfl rfl dX5_canBeDug_45 ?_
          refine a_iloadn (pc := 48) C 2 rfl rfl dX5_canBeDug_48 ?_
          refine a_callS1 (pc := 49) (k' := 0) (n' := 0) C (c_X5_has κ (by omega)) yv_X5_has ml_X5_157 ws_X5_has rfl rfl (Nat.le_of_ble_eq_true rfl) (Nat.le_of_ble_eq_true rfl) (Nat.le_of_ble_eq_true rfl) ⟨(Nat.le_of_ble_eq_true rfl), (Nat.le_of_ble_eq_true rfl)⟩ rfl rfl dX5_canBeDug_49 ?_
          refine a_ifb_ne (pc := 52) (tgt := 57) C (by decide) dX5_canBeDug_52 (fun c3 => ?_) (fun c3 => ?_)
          · refine a_iinc (pc := 57) (v := nI (k + 1)) (L' := [(0, .ref (a 0)), (1, .int (nI u)), (2, .int (nI (k + 1)))]) C 2 rfl (nI_inc _) (by decide) rfl dX5_canBeDug_57 ?_
            refine a_goto (pc := 60) (tgt := 18) C (by decide) dX5_canBeDug_60 ?_
            exact ih (k + 1) (by omega) (anyB_mis hno (and_tf c2 (by rw [c3]; rfl)))
          · refine a_iconst (pc := 55) (v := nI 0) C ci_0 dX5_canBeDug_55 ?_
            exact a_zret (pc := 56) (b := false) C E (Nat.le_of_ble_eq_true rfl) (Nat.le_of_ble_eq_true rfl) (by decide +kernel) ⟨by rw [cdB, anyB_hit (p := (fun v => eE (bo v) (bo u) && !(dug v))) hlt_k (and_tt c2 (by rw [c3]; rfl)), Bool.not_true, Bool.and_false], rfl⟩ dX5_canBeDug_56
    exact LP18 (n) (0) (by omega) rfl
  · refine a_iconst (pc := 14) (v := nI 0) C ci_0 dX5_canBeDug_14 ?_
    exact a_zret (pc := 15) (b := false) C E (Nat.le_of_ble_eq_true rfl) (Nat.le_of_ble_eq_true rfl) (by decide +kernel) ⟨by rw [cdB, c1]; rfl, rfl⟩ dX5_canBeDug_15
set_option maxHeartbeats 4000000 in
set_option maxRecDepth 100000 in
theorem c_X5_unitsToDig (κ : aK) (a : Nat → Nat) {n : Nat} {dug : Nat → Bool} {dtd : Nat → Bool} {so : Nat → Int32} {ph : Nat → Int32} {uf : Nat → Int32} {ul : Nat → Int32} {r : Nat} {ki : Nat → Int32} {lt : Nat → Nat} {er : Nat → Nat} {mz : Nat} {bd : Nat → Bool} {bo : Nat → Nat} {me : Nat → Nat → Bool} {dE : Nat → Nat → Bool} {eE : Nat → Nat → Bool} {lE : Nat → Nat → Bool} {li : Nat → Nat → Bool} {fB : Nat → Int32} {fA : Nat → Int32} {sL : Nat → Int32} {f : Nat} {fu : Nat → Nat} {fs : Nat → Int32} {ff : Nat → Int32} {fl : Nat → Int32} {xs : Nat → Int32} {ys : Nat → Int32} {zs : Nat → Int32} {oL : Nat → Int32} {oU : Nat → Int32} {lo : Nat → Int32} {up : Nat → Int32} {X : va_W} (hn : n ≤ 40) (hbo : ∀ u, bo u < 40) : CM yX5_unitsToDig cX5_unitsToDig 4 (some .long) ({ frames := 4, cells := 0, slots := 0, locals := 86 } : Room) κ [.ref (a 0)] (wC κ a n dug dtd so ph uf ul r ki lt er mz bd bo me dE eE lE li fB fA sL f fu fs ff fl xs ys zs oL oU lo up X) (aD (some (.long (bs (selS (fun u => cdB n bo eE dug u) n)))) (wC κ a n dug dtd so ph uf ul r ki lt er mz bd bo me dE eE lE li fB fA sL f fu fs ff fl xs ys zs oL oU lo up X)) := by
  refine cm_entry (own := RX5) (L := [(0, .ref (a 0))]) (by decide +kernel) rfl (lv_entry [.ref (a 0)] (n := 4) (Nat.le_of_ble_eq_true rfl)) (fun g C E => ?_)
  refine a_lconst (pc := 0) (v := bs (fun _ => false)) C bs_0 dX5_unitsToDig_0 ?_
  refine a_lstoren (pc := 1) (L' := [(0, .ref (a 0)), (1, .long (bs (fun _ => false)))]) C (by decide) rfl rfl dX5_unitsToDig_1 ?_
  refine a_iconst (pc := 2) (v := nI 0) C ci_0 dX5_unitsToDig_2 ?_
  refine a_istoren (pc := 3) (L' := [(0, .ref (a 0)), (1, .long (bs (fun _ => false))), (3, .int (nI 0))]) C (by decide) rfl rfl dX5_unitsToDig_3 ?_
  have LP4 : ∀ (jz k : Nat), k + jz = n → aw g κ 4 4 [(0, .ref (a 0)), (1, .long (bs (selS (fun u => cdB n bo eE dug u) k))), (3, .int (nI k))] [] (wC κ a n dug dtd so ph uf ul r ki lt er mz bd bo me dE eE lE li fB fA sL f fu fs ff fl xs ys zs oL oU lo up X) 0 0 := by
    intro jz
    induction jz with
    | zero =>
      intro k hk_k
      obtain rfl : n = k := by omega
      refine a_iloadn (pc := 4) C 2 rfl rfl dX5_unitsToDig_4 ?_
      refine a_aloadn (pc := 5) C 0 rfl rfl dX5_unitsToDig_5 ?_
      refine a_get (pc := 6) C fl_X5_10 0 rfl rfl dX5_unitsToDig_6 ?_
      refine a_get (pc := 9) C fl_X5_55 1 rfl rfl dX5_unitsToDig_9 ?_
      refine a_icn_ge_y (pc := 12) (tgt := 36) C (by omega) (by omega) (by omega) (by decide) dX5_unitsToDig_12 ?_
      refine a_lloadn (pc := 36) C 1 rfl rfl dX5_unitsToDig_36 ?_
      exact a_lret (pc := 37) C E (Nat.le_of_ble_eq_true rfl) (Nat.le_of_ble_eq_true rfl) ⟨rfl, rfl⟩ dX5_unitsToDig_37
    | succ jz ih =>
      intro k hk_k
      have hlt_k : k < n := by omega
      refine a_iloadn (pc := 4) C 2 rfl rfl dX5_unitsToDig_4 ?_
      refine a_aloadn (pc := 5) C 0 rfl rfl dX5_unitsToDig_5 ?_
      refine a_get (pc := 6) C fl_X5_10 0 rfl rfl dX5_unitsToDig_6 ?_
      refine a_get (pc := 9) C fl_X5_55 1 rfl rfl dX5_unitsToDig_9 ?_
      refine a_icn_ge_n (pc := 12) C (by omega) (by omega) (by omega) dX5_unitsToDig_12 ⟨36, by decide⟩ ?_
      refine a_aloadn (pc := 15) C 0 rfl rfl dX5_unitsToDig_15 ?_
      refine a_iloadn (pc := 16) C 2 rfl rfl dX5_unitsToDig_16 ?_
      refine a_callV1 (pc := 17) (k' := 0) (n' := 0) C (c_X5_canBeDug κ a hn hbo (by omega)) yv_X5_canBeDug ml_X5_252 wi_X5_canBeDug wl_X5_canBeDug 0 rfl rfl rfl rfl (Nat.le_of_ble_eq_true rfl) (Nat.le_of_ble_eq_true rfl) (Nat.le_of_ble_eq_true rfl) ⟨(Nat.le_of_ble_eq_true rfl), (Nat.le_of_ble_eq_true rfl)⟩ rfl rfl dX5_unitsToDig_17 ?_
      refine a_ifb_eq (pc := 20) (tgt := 30) C (by decide) dX5_unitsToDig_20 (fun c1 => ?_) (fun c1 => ?_)
      · refine a_iinc (pc := 30) (v := nI (k + 1)) (L' := [(0, .ref (a 0)), (1, .long (bs (selS (fun u => cdB n bo eE dug u) k))), (3, .int (nI (k + 1)))]) C 2 rfl (nI_inc _) (by decide) rfl dX5_unitsToDig_30 ?_
        refine a_goto (pc := 33) (tgt := 4) C (by decide) dX5_unitsToDig_33 ?_
        refine aw_L (L' := [(0, .ref (a 0)), (1, .long (bs (selS (fun u => cdB n bo eE dug u) (k + 1)))), (3, .int (nI (k + 1)))]) (congrArg (fun zz9 => ([(0, .ref (a 0)), (1, .long zz9), (3, .int (nI (k + 1)))] : List (Nat × Value))) (congrArg bs (selS_n c1) : (bs (selS (fun u => cdB n bo eE dug u) k)) = (bs (selS (fun u => cdB n bo eE dug u) (k + 1))))) ?_
        exact ih (k + 1) (by omega)
      · refine a_lloadn (pc := 23) C 1 rfl rfl dX5_unitsToDig_23 ?_
        refine a_iloadn (pc := 24) C 2 rfl rfl dX5_unitsToDig_24 ?_
        refine a_callS1 (pc := 25) (k' := 0) (n' := 0) C (c_X5_bit κ (by omega)) yv_X5_bit ml_X5_258 ws_X5_bit rfl rfl (Nat.le_of_ble_eq_true rfl) (Nat.le_of_ble_eq_true rfl) (Nat.le_of_ble_eq_true rfl) ⟨(Nat.le_of_ble_eq_true rfl), (Nat.le_of_ble_eq_true rfl)⟩ rfl rfl dX5_unitsToDig_25 ?_
        refine a_lor (pc := 28) (v := bs (fun i => (selS (fun u => cdB n bo eE dug u) k) i || (decide (i = k)))) C (bs_or _ _) dX5_unitsToDig_28 ?_
        refine a_lstoren (pc := 29) (L' := [(0, .ref (a 0)), (1, .long (bs (fun i => (selS (fun u => cdB n bo eE dug u) k) i || (decide (i = k))))), (3, .int (nI k))]) C (by decide) rfl rfl dX5_unitsToDig_29 ?_
        refine a_iinc (pc := 30) (v := nI (k + 1)) (L' := [(0, .ref (a 0)), (1, .long (bs (fun i => (selS (fun u => cdB n bo eE dug u) k) i || (decide (i = k))))), (3, .int (nI (k + 1)))]) C 2 rfl (nI_inc _) (by decide) rfl dX5_unitsToDig_30 ?_
        refine a_goto (pc := 33) (tgt := 4) C (by decide) dX5_unitsToDig_33 ?_
        refine aw_L (L' := [(0, .ref (a 0)), (1, .long (bs (selS (fun u => cdB n bo eE dug u) (k + 1)))), (3, .int (nI (k + 1)))]) (congrArg (fun zz9 => ([(0, .ref (a 0)), (1, .long zz9), (3, .int (nI (k + 1)))] : List (Nat × Value))) (congrArg bs (selS_y c1) : (bs (fun i => (selS (fun u => cdB n bo eE dug u) k) i || (decide (i = k)))) = (bs (selS (fun u => cdB n bo eE dug u) (k + 1))))) ?_
        exact ih (k + 1) (by omega)
  refine aw_L (L' := [(0, .ref (a 0)), (1, .long (bs (selS (fun u => cdB n bo eE dug u) 0))), (3, .int (nI 0))]) (congrArg (fun zz9 => ([(0, .ref (a 0)), (1, .long zz9), (3, .int (nI 0))] : List (Nat × Value))) (congrArg bs (selS_0 _) : (bs (fun _ => false)) = (bs (selS (fun u => cdB n bo eE dug u) 0)))) ?_
  exact LP4 (n) (0) (by omega)
set_option maxHeartbeats 4000000 in
set_option maxRecDepth 100000 in
theorem c_X5_isPairOutOfPhase (κ : aK) (a : Nat → Nat) {n : Nat} {dug : Nat → Bool} {dtd : Nat → Bool} {so : Nat → Int32} {ph : Nat → Int32} {uf : Nat → Int32} {ul : Nat → Int32} {r : Nat} {ki : Nat → Int32} {lt : Nat → Nat} {er : Nat → Nat} {mz : Nat} {bd : Nat → Bool} {bo : Nat → Nat} {me : Nat → Nat → Bool} {dE : Nat → Nat → Bool} {eE : Nat → Nat → Bool} {lE : Nat → Nat → Bool} {li : Nat → Nat → Bool} {fB : Nat → Int32} {fA : Nat → Int32} {sL : Nat → Int32} {f : Nat} {fu : Nat → Nat} {fs : Nat → Int32} {ff : Nat → Int32} {fl : Nat → Int32} {xs : Nat → Int32} {ys : Nat → Int32} {zs : Nat → Int32} {oL : Nat → Int32} {oU : Nat → Int32} {lo : Nat → Int32} {up : Nat → Int32} {X : va_W} {x : Nat} {y : Nat} (hbo : ∀ u, bo u < 40) (hx : x < 40) (hy : y < 40) : CM yX5_isPairOutOfPhase cX5_isPairOutOfPhase 3 (some .boolean) ({ frames := 3, cells := 0, slots := 0, locals := 64 } : Room) κ [.ref (a 0), .int (nI x), .int (nI y)] (wC κ a n dug dtd so ph uf ul r ki lt er mz bd bo me dE eE lE li fB fA sL f fu fs ff fl xs ys zs oL oU lo up X) (aD (some (.int (b2i (poB bo eE ph x y)))) (wC κ a n dug dtd so ph uf ul r ki lt er mz bd bo me dE eE lE li fB fA sL f fu fs ff fl xs ys zs oL oU lo up X)) := by
  refine cm_entry (own := RX5) (L := [(0, .ref (a 0)), (1, .int (nI x)), (2, .int (nI y))]) (by decide +kernel) rfl (lv_entry [.ref (a 0), .int (nI x), .int (nI y)] (n := 3) (Nat.le_of_ble_eq_true rfl)) (fun g C E => ?_)
  refine a_aloadn (pc := 0) C 0 rfl rfl dX5_isPairOutOfPhase_0 ?_
  refine a_get (pc := 1) C fl_X5_26 0 rfl rfl dX5_isPairOutOfPhase_1 ?_
  refine a_iloadn (pc := 4) C 1 rfl rfl dX5_isPairOutOfPhase_4 ?_
  refine a_iloadn (pc := 5) C 2 rfl rfl dX5_isPairOutOfPhase_5 ?_
  refine a_callV1 (pc := 6) (k' := 0) (n' := 0) C (c_X2_isSameBody κ a hx hy hbo) yv_X2_isSameBody ml_X5_167 wi_X2_isSameBody wl_X2_isSameBody 3 rfl rfl rfl rfl (Nat.le_of_ble_eq_true rfl) (Nat.le_of_ble_eq_true rfl) (Nat.le_of_ble_eq_true rfl) ⟨(Nat.le_of_ble_eq_true rfl), (Nat.le_of_ble_eq_true rfl)⟩ rfl rfl dX5_isPairOutOfPhase_6 ?_
  refine a_ifb_eq (pc := 9) (tgt := 44) C (by decide) dX5_isPairOutOfPhase_9 (fun c1 => ?_) (fun c1 => ?_)
  · refine a_aloadn (pc := 44) C 0 rfl rfl dX5_isPairOutOfPhase_44 ?_
    refine a_get (pc := 45) C fl_X5_26 0 rfl rfl dX5_isPairOutOfPhase_45 ?_
    refine a_iloadn (pc := 48) C 1 rfl rfl dX5_isPairOutOfPhase_48 ?_
    refine a_iloadn (pc := 49) C 2 rfl rfl dX5_isPairOutOfPhase_49 ?_
    refine a_callV1 (pc := 50) (k' := 0) (n' := 0) C (c_X2_isLater κ a hx hy hbo) yv_X2_isLater ml_X5_171 wi_X2_isLater wl_X2_isLater 3 rfl rfl rfl rfl (Nat.le_of_ble_eq_true rfl) (Nat.le_of_ble_eq_true rfl) (Nat.le_of_ble_eq_true rfl) ⟨(Nat.le_of_ble_eq_true rfl), (Nat.le_of_ble_eq_true rfl)⟩ rfl rfl dX5_isPairOutOfPhase_50 ?_
    refine a_ifb_eq (pc := 53) (tgt := 81) C (by decide) dX5_isPairOutOfPhase_53 (fun c2 => ?_) (fun c2 => ?_)
    · refine a_iconst (pc := 81) (v := nI 0) C ci_0 dX5_isPairOutOfPhase_81 ?_
      have hv : poB bo eE ph x y = false := by rw [poB, if_neg (of_decide_eq_false c1)]; simp only [c2, Bool.and_false, Bool.false_and, Bool.and_true, Bool.true_and, Bool.not_true, Bool.not_false, Bool.and_self]
      rw [hv] at E
      exact a_zret (pc := 82) (b := false) C E (Nat.le_of_ble_eq_true rfl) (Nat.le_of_ble_eq_true rfl) (by decide +kernel) ⟨rfl, rfl⟩ dX5_isPairOutOfPhase_82
    · refine a_aloadn (pc := 56) C 0 rfl rfl dX5_isPairOutOfPhase_56 ?_
      refine a_get (pc := 57) C fl_X5_10 0 rfl rfl dX5_isPairOutOfPhase_57 ?_
      refine a_get (pc := 60) C fl_X5_161 1 rfl rfl dX5_isPairOutOfPhase_60 ?_
      refine a_iloadn (pc := 63) C 1 rfl rfl dX5_isPairOutOfPhase_63 ?_
      refine a_iald (pc := 64) C 7 rfl (by omega) (by decide) dX5_isPairOutOfPhase_64 ?_
      refine a_aloadn (pc := 65) C 0 rfl rfl dX5_isPairOutOfPhase_65 ?_
      refine a_get (pc := 66) C fl_X5_10 0 rfl rfl dX5_isPairOutOfPhase_66 ?_
      refine a_get (pc := 69) C fl_X5_161 1 rfl rfl dX5_isPairOutOfPhase_69 ?_
      refine a_iloadn (pc := 72) C 2 rfl rfl dX5_isPairOutOfPhase_72 ?_
      refine a_iald (pc := 73) C 7 rfl (by omega) (by decide) dX5_isPairOutOfPhase_73 ?_
      refine a_ic_ge (pc := 74) (tgt := 81) C (by decide) dX5_isPairOutOfPhase_74 (fun c3 => ?_) (fun c3 => ?_)
      · refine a_iconst (pc := 81) (v := nI 0) C ci_0 dX5_isPairOutOfPhase_81 ?_
        have hv : poB bo eE ph x y = false := by rw [poB, if_neg (of_decide_eq_false c1)]; simp only [c2, decide_eq_false (Int32.not_lt.mpr c3), Bool.and_false, Bool.false_and, Bool.and_true, Bool.true_and, Bool.not_true, Bool.not_false, Bool.and_self]
        rw [hv] at E
        exact a_zret (pc := 82) (b := false) C E (Nat.le_of_ble_eq_true rfl) (Nat.le_of_ble_eq_true rfl) (by decide +kernel) ⟨rfl, rfl⟩ dX5_isPairOutOfPhase_82
      · refine a_iconst (pc := 77) (v := nI 1) C ci_1 dX5_isPairOutOfPhase_77 ?_
        refine a_goto (pc := 78) (tgt := 82) C (by decide) dX5_isPairOutOfPhase_78 ?_
        have hv : poB bo eE ph x y = true := by rw [poB, if_neg (of_decide_eq_false c1)]; simp only [c2, decide_eq_true (Int32.not_le.mp c3), Bool.and_false, Bool.false_and, Bool.and_true, Bool.true_and, Bool.not_true, Bool.not_false, Bool.and_self]
        rw [hv] at E
        exact a_zret (pc := 82) (b := true) C E (Nat.le_of_ble_eq_true rfl) (Nat.le_of_ble_eq_true rfl) (by decide +kernel) ⟨rfl, rfl⟩ dX5_isPairOutOfPhase_82
  · refine a_iloadn (pc := 12) C 1 rfl rfl dX5_isPairOutOfPhase_12 ?_
    refine a_iloadn (pc := 13) C 2 rfl rfl dX5_isPairOutOfPhase_13 ?_
    refine a_icn_ge (pc := 14) (tgt := 42) C (by omega) (by omega) (by decide) dX5_isPairOutOfPhase_14 (fun c4 => ?_) (fun c4 => ?_)
    · refine a_iconst (pc := 42) (v := nI 0) C ci_0 dX5_isPairOutOfPhase_42 ?_
      have hv : poB bo eE ph x y = false := by rw [poB, if_pos (of_decide_eq_true c1)]; simp only [decide_eq_false (Nat.not_lt.mpr c4), Bool.and_false, Bool.false_and, Bool.and_true, Bool.true_and, Bool.not_true, Bool.not_false, Bool.and_self]
      rw [hv] at E
      exact a_zret (pc := 43) (b := false) C E (Nat.le_of_ble_eq_true rfl) (Nat.le_of_ble_eq_true rfl) (by decide +kernel) ⟨rfl, rfl⟩ dX5_isPairOutOfPhase_43
    · refine a_aloadn (pc := 17) C 0 rfl rfl dX5_isPairOutOfPhase_17 ?_
      refine a_get (pc := 18) C fl_X5_10 0 rfl rfl dX5_isPairOutOfPhase_18 ?_
      refine a_get (pc := 21) C fl_X5_161 1 rfl rfl dX5_isPairOutOfPhase_21 ?_
      refine a_iloadn (pc := 24) C 1 rfl rfl dX5_isPairOutOfPhase_24 ?_
      refine a_iald (pc := 25) C 7 rfl (by omega) (by decide) dX5_isPairOutOfPhase_25 ?_
      refine a_aloadn (pc := 26) C 0 rfl rfl dX5_isPairOutOfPhase_26 ?_
      refine a_get (pc := 27) C fl_X5_10 0 rfl rfl dX5_isPairOutOfPhase_27 ?_
      refine a_get (pc := 30) C fl_X5_161 1 rfl rfl dX5_isPairOutOfPhase_30 ?_
      refine a_iloadn (pc := 33) C 2 rfl rfl dX5_isPairOutOfPhase_33 ?_
      refine a_iald (pc := 34) C 7 rfl (by omega) (by decide) dX5_isPairOutOfPhase_34 ?_
      refine a_ic_eq (pc := 35) (tgt := 42) C (by decide) dX5_isPairOutOfPhase_35 (fun c5 => ?_) (fun c5 => ?_)
      · refine a_iconst (pc := 42) (v := nI 0) C ci_0 dX5_isPairOutOfPhase_42 ?_
        have hv : poB bo eE ph x y = false := by rw [poB, if_pos (of_decide_eq_true c1)]; simp only [decide_eq_true c4, decide_eq_true c5, Bool.and_false, Bool.false_and, Bool.and_true, Bool.true_and, Bool.not_true, Bool.not_false, Bool.and_self]
        rw [hv] at E
        exact a_zret (pc := 43) (b := false) C E (Nat.le_of_ble_eq_true rfl) (Nat.le_of_ble_eq_true rfl) (by decide +kernel) ⟨rfl, rfl⟩ dX5_isPairOutOfPhase_43
      · refine a_iconst (pc := 38) (v := nI 1) C ci_1 dX5_isPairOutOfPhase_38 ?_
        refine a_goto (pc := 39) (tgt := 43) C (by decide) dX5_isPairOutOfPhase_39 ?_
        have hv : poB bo eE ph x y = true := by rw [poB, if_pos (of_decide_eq_true c1)]; simp only [decide_eq_true c4, decide_eq_false c5, Bool.and_false, Bool.false_and, Bool.and_true, Bool.true_and, Bool.not_true, Bool.not_false, Bool.and_self]
        rw [hv] at E
        exact a_zret (pc := 43) (b := true) C E (Nat.le_of_ble_eq_true rfl) (Nat.le_of_ble_eq_true rfl) (by decide +kernel) ⟨rfl, rfl⟩ dX5_isPairOutOfPhase_43
set_option maxHeartbeats 4000000 in
set_option maxRecDepth 100000 in
theorem c_X5_pairsOutOfPhase (κ : aK) (a : Nat → Nat) {n : Nat} {dug : Nat → Bool} {dtd : Nat → Bool} {so : Nat → Int32} {ph : Nat → Int32} {uf : Nat → Int32} {ul : Nat → Int32} {r : Nat} {ki : Nat → Int32} {lt : Nat → Nat} {er : Nat → Nat} {mz : Nat} {bd : Nat → Bool} {bo : Nat → Nat} {me : Nat → Nat → Bool} {dE : Nat → Nat → Bool} {eE : Nat → Nat → Bool} {lE : Nat → Nat → Bool} {li : Nat → Nat → Bool} {fB : Nat → Int32} {fA : Nat → Int32} {sL : Nat → Int32} {f : Nat} {fu : Nat → Nat} {fs : Nat → Int32} {ff : Nat → Int32} {fl : Nat → Int32} {xs : Nat → Int32} {ys : Nat → Int32} {zs : Nat → Int32} {oL : Nat → Int32} {oU : Nat → Int32} {lo : Nat → Int32} {up : Nat → Int32} {X : va_W} (hn : n ≤ 40) (hbo : ∀ u, bo u < 40) : CM yX5_pairsOutOfPhase cX5_pairsOutOfPhase 4 (some .int) ({ frames := 4, cells := 0, slots := 0, locals := 86 } : Room) κ [.ref (a 0)] (wC κ a n dug dtd so ph uf ul r ki lt er mz bd bo me dE eE lE li fB fA sL f fu fs ff fl xs ys zs oL oU lo up X) (aD (some (.int (nI (ppS (poB bo eE ph) n n)))) (wC κ a n dug dtd so ph uf ul r ki lt er mz bd bo me dE eE lE li fB fA sL f fu fs ff fl xs ys zs oL oU lo up X)) := by
  refine cm_entry (own := RX5) (L := [(0, .ref (a 0))]) (by decide +kernel) rfl (lv_entry [.ref (a 0)] (n := 4) (Nat.le_of_ble_eq_true rfl)) (fun g C E => ?_)
  refine a_iconst (pc := 0) (v := nI 0) C ci_0 dX5_pairsOutOfPhase_0 ?_
  refine a_istoren (pc := 1) (L' := [(0, .ref (a 0)), (1, .int (nI 0))]) C (by decide) rfl rfl dX5_pairsOutOfPhase_1 ?_
  refine a_iconst (pc := 2) (v := nI 0) C ci_0 dX5_pairsOutOfPhase_2 ?_
  refine a_istoren (pc := 3) (L' := [(0, .ref (a 0)), (1, .int (nI 0)), (2, .int (nI 0))]) C (by decide) rfl rfl dX5_pairsOutOfPhase_3 ?_
  have LP4 : ∀ (jz k : Nat), k + jz = n → aw g κ 4 4 [(0, .ref (a 0)), (1, .int (nI (ppS (poB bo eE ph) n k))), (2, .int (nI k))] [] (wC κ a n dug dtd so ph uf ul r ki lt er mz bd bo me dE eE lE li fB fA sL f fu fs ff fl xs ys zs oL oU lo up X) 0 0 := by
    intro jz
    induction jz with
    | zero =>
      intro k hk_k
      obtain rfl : n = k := by omega
      refine a_iloadn (pc := 4) C 2 rfl rfl dX5_pairsOutOfPhase_4 ?_
      refine a_aloadn (pc := 5) C 0 rfl rfl dX5_pairsOutOfPhase_5 ?_
      refine a_get (pc := 6) C fl_X5_10 0 rfl rfl dX5_pairsOutOfPhase_6 ?_
      refine a_get (pc := 9) C fl_X5_55 1 rfl rfl dX5_pairsOutOfPhase_9 ?_
      refine a_icn_ge_y (pc := 12) (tgt := 52) C (by omega) (by omega) (by omega) (by decide) dX5_pairsOutOfPhase_12 ?_
      refine a_iloadn (pc := 52) C 1 rfl rfl dX5_pairsOutOfPhase_52 ?_
      exact a_iret (pc := 53) C E (Nat.le_of_ble_eq_true rfl) (Nat.le_of_ble_eq_true rfl) ⟨rfl, rfl⟩ dX5_pairsOutOfPhase_53
    | succ jz ih =>
      intro k hk_k
      have hlt_k : k < n := by omega
      refine a_iloadn (pc := 4) C 2 rfl rfl dX5_pairsOutOfPhase_4 ?_
      refine a_aloadn (pc := 5) C 0 rfl rfl dX5_pairsOutOfPhase_5 ?_
      refine a_get (pc := 6) C fl_X5_10 0 rfl rfl dX5_pairsOutOfPhase_6 ?_
      refine a_get (pc := 9) C fl_X5_55 1 rfl rfl dX5_pairsOutOfPhase_9 ?_
      refine a_icn_ge_n (pc := 12) C (by omega) (by omega) (by omega) dX5_pairsOutOfPhase_12 ⟨52, by decide⟩ ?_
      refine a_iconst (pc := 15) (v := nI 0) C ci_0 dX5_pairsOutOfPhase_15 ?_
      refine a_istoren (pc := 16) (L' := [(0, .ref (a 0)), (1, .int (nI (ppS (poB bo eE ph) n k))), (2, .int (nI k)), (3, .int (nI 0))]) C (by decide) rfl rfl dX5_pairsOutOfPhase_16 ?_
      have LP17 : ∀ (jz j : Nat), j + jz = n → aw g κ 4 17 [(0, .ref (a 0)), (1, .int (nI (ppS (poB bo eE ph) n k + cnt (poB bo eE ph k) j))), (2, .int (nI k)), (3, .int (nI j))] [] (wC κ a n dug dtd so ph uf ul r ki lt er mz bd bo me dE eE lE li fB fA sL f fu fs ff fl xs ys zs oL oU lo up X) 0 0 := by
        intro jz
        induction jz with
        | zero =>
          intro j hk_j
          obtain rfl : n = j := by omega
          refine a_iloadn (pc := 17) C 3 rfl rfl dX5_pairsOutOfPhase_17 ?_
          refine a_aloadn (pc := 18) C 0 rfl rfl dX5_pairsOutOfPhase_18 ?_
          refine a_get (pc := 19) C fl_X5_10 0 rfl rfl dX5_pairsOutOfPhase_19 ?_
          refine a_get (pc := 22) C fl_X5_55 1 rfl rfl dX5_pairsOutOfPhase_22 ?_
          refine a_icn_ge_y (pc := 25) (tgt := 46) C (by omega) (by omega) (by omega) (by decide) dX5_pairsOutOfPhase_25 ?_
          refine a_iinc (pc := 46) (v := nI (k + 1)) (L' := [(0, .ref (a 0)), (1, .int (nI (ppS (poB bo eE ph) n k + cnt (poB bo eE ph k) n))), (2, .int (nI (k + 1))), (3, .int (nI n))]) C 2 rfl (nI_inc _) (by decide) rfl dX5_pairsOutOfPhase_46 ?_
          refine a_goto (pc := 49) (tgt := 4) C (by decide) dX5_pairsOutOfPhase_49 ?_
          refine aw_locals (L' := [(0, .ref (a 0)), (1, .int (nI (ppS (poB bo eE ph) n k + cnt (poB bo eE ph k) n))), (2, .int (nI (k + 1)))]) [0, 1, 2] rfl ?_
          refine aw_L (L' := [(0, .ref (a 0)), (1, .int (nI (ppS (poB bo eE ph) n (k + 1)))), (2, .int (nI (k + 1)))]) (congrArg (fun zz9 => ([(0, .ref (a 0)), (1, .int zz9), (2, .int (nI (k + 1)))] : List (Nat × Value))) (rfl : (nI (ppS (poB bo eE ph) n k + cnt (poB bo eE ph k) n)) = (nI (ppS (poB bo eE ph) n (k + 1))))) ?_
          exact ih (k + 1) (by omega)
        | succ jz ih =>
          intro j hk_j
          have hlt_j : j < n := by omega
          refine a_iloadn (pc := 17) C 3 rfl rfl dX5_pairsOutOfPhase_17 ?_
          refine a_aloadn (pc := 18) C 0 rfl rfl dX5_pairsOutOfPhase_18 ?_
          refine a_get (pc := 19) C fl_X5_10 0 rfl rfl dX5_pairsOutOfPhase_19 ?_
          refine a_get (pc := 22) C fl_X5_55 1 rfl rfl dX5_pairsOutOfPhase_22 ?_
          refine a_icn_ge_n (pc := 25) C (by omega) (by omega) (by omega) dX5_pairsOutOfPhase_25 ⟨46, by decide⟩ ?_
          refine a_aloadn (pc := 28) C 0 rfl rfl dX5_pairsOutOfPhase_28 ?_
          refine a_iloadn (pc := 29) C 2 rfl rfl dX5_pairsOutOfPhase_29 ?_
          refine a_iloadn (pc := 30) C 3 rfl rfl dX5_pairsOutOfPhase_30 ?_
          refine a_callV1 (pc := 31) (k' := 0) (n' := 0) C (c_X5_isPairOutOfPhase κ a hbo (by omega) (by omega)) yv_X5_isPairOutOfPhase ml_X5_273 wi_X5_isPairOutOfPhase wl_X5_isPairOutOfPhase 0 rfl rfl rfl rfl (Nat.le_of_ble_eq_true rfl) (Nat.le_of_ble_eq_true rfl) (Nat.le_of_ble_eq_true rfl) ⟨(Nat.le_of_ble_eq_true rfl), (Nat.le_of_ble_eq_true rfl)⟩ rfl rfl dX5_pairsOutOfPhase_31 ?_
          refine a_ifb_eq (pc := 34) (tgt := 40) C (by decide) dX5_pairsOutOfPhase_34 (fun c1 => ?_) (fun c1 => ?_)
          · refine a_iinc (pc := 40) (v := nI (j + 1)) (L' := [(0, .ref (a 0)), (1, .int (nI (ppS (poB bo eE ph) n k + cnt (poB bo eE ph k) j))), (2, .int (nI k)), (3, .int (nI (j + 1)))]) C 3 rfl (nI_inc _) (by decide) rfl dX5_pairsOutOfPhase_40 ?_
            refine a_goto (pc := 43) (tgt := 17) C (by decide) dX5_pairsOutOfPhase_43 ?_
            refine aw_L (L' := [(0, .ref (a 0)), (1, .int (nI (ppS (poB bo eE ph) n k + cnt (poB bo eE ph k) (j + 1)))), (2, .int (nI k)), (3, .int (nI (j + 1)))]) (congrArg (fun zz9 => ([(0, .ref (a 0)), (1, .int zz9), (2, .int (nI k)), (3, .int (nI (j + 1)))] : List (Nat × Value))) (congrArg nI (by rw [cnt_n c1]) : (nI (ppS (poB bo eE ph) n k + cnt (poB bo eE ph k) j)) = (nI (ppS (poB bo eE ph) n k + cnt (poB bo eE ph k) (j + 1))))) ?_
            exact ih (j + 1) (by omega)
          · refine a_iinc (pc := 37) (v := nI (ppS (poB bo eE ph) n k + cnt (poB bo eE ph k) j + 1)) (L' := [(0, .ref (a 0)), (1, .int (nI (ppS (poB bo eE ph) n k + cnt (poB bo eE ph k) j + 1))), (2, .int (nI k)), (3, .int (nI j))]) C 1 rfl (nI_inc _) (by decide) rfl dX5_pairsOutOfPhase_37 ?_
            refine a_iinc (pc := 40) (v := nI (j + 1)) (L' := [(0, .ref (a 0)), (1, .int (nI (ppS (poB bo eE ph) n k + cnt (poB bo eE ph k) j + 1))), (2, .int (nI k)), (3, .int (nI (j + 1)))]) C 3 rfl (nI_inc _) (by decide) rfl dX5_pairsOutOfPhase_40 ?_
            refine a_goto (pc := 43) (tgt := 17) C (by decide) dX5_pairsOutOfPhase_43 ?_
            refine aw_L (L' := [(0, .ref (a 0)), (1, .int (nI (ppS (poB bo eE ph) n k + cnt (poB bo eE ph k) (j + 1)))), (2, .int (nI k)), (3, .int (nI (j + 1)))]) (congrArg (fun zz9 => ([(0, .ref (a 0)), (1, .int zz9), (2, .int (nI k)), (3, .int (nI (j + 1)))] : List (Nat × Value))) (congrArg nI (by rw [cnt_y c1]; rfl) : (nI (ppS (poB bo eE ph) n k + cnt (poB bo eE ph k) j + 1)) = (nI (ppS (poB bo eE ph) n k + cnt (poB bo eE ph k) (j + 1))))) ?_
            exact ih (j + 1) (by omega)
      refine aw_L (L' := [(0, .ref (a 0)), (1, .int (nI (ppS (poB bo eE ph) n k + cnt (poB bo eE ph k) 0))), (2, .int (nI k)), (3, .int (nI 0))]) (congrArg (fun zz9 => ([(0, .ref (a 0)), (1, .int zz9), (2, .int (nI k)), (3, .int (nI 0))] : List (Nat × Value))) (rfl : (nI (ppS (poB bo eE ph) n k)) = (nI (ppS (poB bo eE ph) n k + cnt (poB bo eE ph k) 0)))) ?_
      exact LP17 (n) (0) (by omega)
  refine aw_L (L' := [(0, .ref (a 0)), (1, .int (nI (ppS (poB bo eE ph) n 0))), (2, .int (nI 0))]) (congrArg (fun zz9 => ([(0, .ref (a 0)), (1, .int zz9), (2, .int (nI 0))] : List (Nat × Value))) (rfl : (nI 0) = (nI (ppS (poB bo eE ph) n 0)))) ?_
  exact LP4 (n) (0) (by omega)
set_option maxHeartbeats 4000000 in
set_option maxRecDepth 100000 in
theorem c_X5_elementAt (κ : aK) {X : va_W} {p : Nat → Bool} {j0 : Nat} (hj : j0 < 40) : CM yX5_elementAt cX5_elementAt 5 (some .int) ({ frames := 2, cells := 0, slots := 0, locals := 42 } : Room) κ [.long (bs p), .int (nI j0)] (X) (aD (some (.int (oI (elA p j0 40)))) (X)) := by
  refine cm_entry (own := RX5) (L := [(0, .long (bs p)), (2, .int (nI j0))]) (by decide +kernel) rfl (lv_entry [.long (bs p), .int (nI j0)] (n := 5) (Nat.le_of_ble_eq_true rfl)) (fun g C E => ?_)
  refine a_iloadn (pc := 0) C 1 rfl rfl dX5_elementAt_0 ?_
  refine a_istoren (pc := 1) (L' := [(0, .long (bs p)), (2, .int (nI j0)), (3, .int (nI j0))]) C (by decide) rfl rfl dX5_elementAt_1 ?_
  refine a_iconst (pc := 2) (v := nI 0) C ci_0 dX5_elementAt_2 ?_
  refine a_istore (pc := 3) (L' := [(0, .long (bs p)), (2, .int (nI j0)), (3, .int (nI j0)), (4, .int (nI 0))]) C (by decide) rfl dX5_elementAt_3 ?_
  have LP5 : ∀ (jz k : Nat), k + jz = 40 → (fst1 (fun k => p k && decide (cnt p k = j0)) k = none) → (cnt p k ≤ j0) → aw g κ 5 5 [(0, .long (bs p)), (2, .int (nI j0)), (3, .int (nI (j0 - cnt p k))), (4, .int (nI k))] [] (X) 0 0 := by
    intro jz
    induction jz with
    | zero =>
      intro k hk_k hno hle
      obtain rfl : 40 = k := by omega
      refine a_iload (pc := 5) C 3 rfl dX5_elementAt_5 ?_
      refine a_bipush (pc := 7) (v := nI 40) C cb_40 dX5_elementAt_7 ?_
      refine a_icn_ge_y (pc := 9) (tgt := 37) C (by omega) (by omega) (by omega) (by decide) dX5_elementAt_9 ?_
      refine a_iconst (pc := 37) (v := (-1 : Int32)) C ci_m1 dX5_elementAt_37 ?_
      exact a_iret (pc := 38) C E (Nat.le_of_ble_eq_true rfl) (Nat.le_of_ble_eq_true rfl) ⟨by rw [show elA p j0 40 = none from hno]; rfl, rfl⟩ dX5_elementAt_38
    | succ jz ih =>
      intro k hk_k hno hle
      have hlt_k : k < 40 := by omega
      refine a_iload (pc := 5) C 3 rfl dX5_elementAt_5 ?_
      refine a_bipush (pc := 7) (v := nI 40) C cb_40 dX5_elementAt_7 ?_
      refine a_icn_ge_n (pc := 9) C (by omega) (by omega) (by omega) dX5_elementAt_9 ⟨37, by decide⟩ ?_
      refine a_lloadn (pc := 12) C 0 rfl rfl dX5_elementAt_12 ?_
      refine a_iload (pc := 13) C 3 rfl dX5_elementAt_13 ?_
      refine a_callS1 (pc := 15) (k' := 0) (n' := 0) C (c_X5_has κ (by omega)) yv_X5_has ml_X5_157 ws_X5_has rfl rfl (Nat.le_of_ble_eq_true rfl) (Nat.le_of_ble_eq_true rfl) (Nat.le_of_ble_eq_true rfl) ⟨(Nat.le_of_ble_eq_true rfl), (Nat.le_of_ble_eq_true rfl)⟩ rfl rfl dX5_elementAt_15 ?_
      refine a_ifb_eq (pc := 18) (tgt := 31) C (by decide) dX5_elementAt_18 (fun c1 => ?_) (fun c1 => ?_)
      · refine a_iinc (pc := 31) (v := nI (k + 1)) (L' := [(0, .long (bs p)), (2, .int (nI j0)), (3, .int (nI (j0 - cnt p k))), (4, .int (nI (k + 1)))]) C 3 rfl (nI_inc _) (by decide) rfl dX5_elementAt_31 ?_
        refine a_goto (pc := 34) (tgt := 5) C (by decide) dX5_elementAt_34 ?_
        refine aw_L (L' := [(0, .long (bs p)), (2, .int (nI j0)), (3, .int (nI (j0 - cnt p (k + 1)))), (4, .int (nI (k + 1)))]) (congrArg (fun zz9 => ([(0, .long (bs p)), (2, .int (nI j0)), (3, .int zz9), (4, .int (nI (k + 1)))] : List (Nat × Value))) (by rw [cnt_n c1] : (nI (j0 - cnt p k)) = (nI (j0 - cnt p (k + 1))))) ?_
        exact ih (k + 1) (by omega) (fst1_mis hno (and_ff c1)) (by rw [cnt_n c1]; exact hle)
      · refine a_iloadn (pc := 21) C 2 rfl rfl dX5_elementAt_21 ?_
        refine a_ifn_ne (pc := 22) (tgt := 28) C (by omega) (by decide) dX5_elementAt_22 (fun c2 => ?_) (fun c2 => ?_)
        · refine a_iinc (pc := 28) (v := nI ((j0 - cnt p k) - 1)) (L' := [(0, .long (bs p)), (2, .int (nI j0)), (3, .int (nI ((j0 - cnt p k) - 1))), (4, .int (nI k))]) C 2 rfl (nI_dec1 (by omega)) (by decide) rfl dX5_elementAt_28 ?_
          refine a_iinc (pc := 31) (v := nI (k + 1)) (L' := [(0, .long (bs p)), (2, .int (nI j0)), (3, .int (nI ((j0 - cnt p k) - 1))), (4, .int (nI (k + 1)))]) C 3 rfl (nI_inc _) (by decide) rfl dX5_elementAt_31 ?_
          refine a_goto (pc := 34) (tgt := 5) C (by decide) dX5_elementAt_34 ?_
          refine aw_L (L' := [(0, .long (bs p)), (2, .int (nI j0)), (3, .int (nI (j0 - cnt p (k + 1)))), (4, .int (nI (k + 1)))]) (congrArg (fun zz9 => ([(0, .long (bs p)), (2, .int (nI j0)), (3, .int zz9), (4, .int (nI (k + 1)))] : List (Nat × Value))) (congrArg nI (by rw [cnt_y c1]; omega) : (nI ((j0 - cnt p k) - 1)) = (nI (j0 - cnt p (k + 1))))) ?_
          exact ih (k + 1) (by omega) (fst1_mis hno (and_tf c1 (decide_eq_false (by omega)))) (by rw [cnt_y c1]; omega)
        · refine a_iload (pc := 25) C 3 rfl dX5_elementAt_25 ?_
          exact a_iret (pc := 27) C E (Nat.le_of_ble_eq_true rfl) (Nat.le_of_ble_eq_true rfl) ⟨by rw [show elA p j0 40 = some k from fst1_at hlt_k hno (and_tt c1 (decide_eq_true (by omega)))]; rfl, rfl⟩ dX5_elementAt_27
  refine aw_L (L' := [(0, .long (bs p)), (2, .int (nI j0)), (3, .int (nI (j0 - cnt p 0))), (4, .int (nI 0))]) (congrArg (fun zz9 => ([(0, .long (bs p)), (2, .int (nI j0)), (3, .int zz9), (4, .int (nI 0))] : List (Nat × Value))) (rfl : (nI j0) = (nI (j0 - cnt p 0)))) ?_
  exact LP5 (40) (0) (by omega) rfl (Nat.zero_le _)
set_option maxHeartbeats 4000000 in
set_option maxRecDepth 100000 in
theorem c_X5_phaseAll (κ : aK) (a : Nat → Nat) {n : Nat} {dug : Nat → Bool} {dtd : Nat → Bool} {so : Nat → Int32} {ph : Nat → Int32} {uf : Nat → Int32} {ul : Nat → Int32} {r : Nat} {ki : Nat → Int32} {lt : Nat → Nat} {er : Nat → Nat} {mz : Nat} {bd : Nat → Bool} {bo : Nat → Nat} {me : Nat → Nat → Bool} {dE : Nat → Nat → Bool} {eE : Nat → Nat → Bool} {lE : Nat → Nat → Bool} {li : Nat → Nat → Bool} {fB : Nat → Int32} {fA : Nat → Int32} {sL : Nat → Int32} {f : Nat} {fu : Nat → Nat} {fs : Nat → Int32} {ff : Nat → Int32} {fl : Nat → Int32} {xs : Nat → Int32} {ys : Nat → Int32} {zs : Nat → Int32} {oL : Nat → Int32} {oU : Nat → Int32} {lo : Nat → Int32} {up : Nat → Int32} {X : va_W} (hn : n ≤ 40) (hbo : ∀ u, bo u < 40) : CM yX5_phaseAll cX5_phaseAll 4 (some .int) ({ frames := 1, cells := 0, slots := 0, locals := 21 } : Room) κ [.ref (a 0)] (wC κ a n dug dtd so ph uf ul r ki lt er mz bd bo me dE eE lE li fB fA sL f fu fs ff fl xs ys zs oL oU lo up X) (aD (some (.int (nI (cnt (fun v => !(decide (ph v = phG bo fB v))) n)))) (wC κ a n dug dtd so (pre (phG bo fB) ph n) uf ul r ki lt er mz bd bo me dE eE lE li fB fA sL f fu fs ff fl xs ys zs oL oU lo up X)) := by
  refine cm_entry (own := RX5) (L := [(0, .ref (a 0))]) (by decide +kernel) rfl (lv_entry [.ref (a 0)] (n := 4) (Nat.le_of_ble_eq_true rfl)) (fun g C E => ?_)
  refine a_iconst (pc := 0) (v := nI 0) C ci_0 dX5_phaseAll_0 ?_
  refine a_istoren (pc := 1) (L' := [(0, .ref (a 0)), (1, .int (nI 0))]) C (by decide) rfl rfl dX5_phaseAll_1 ?_
  refine a_iconst (pc := 2) (v := nI 0) C ci_0 dX5_phaseAll_2 ?_
  refine a_istoren (pc := 3) (L' := [(0, .ref (a 0)), (1, .int (nI 0)), (2, .int (nI 0))]) C (by decide) rfl rfl dX5_phaseAll_3 ?_
  have LP4 : ∀ (jz k : Nat), k + jz = n → aw g κ 4 4 [(0, .ref (a 0)), (1, .int (nI (cnt (fun v => !(decide (ph v = phG bo fB v))) k))), (2, .int (nI k))] [] (wC κ a n dug dtd so (pre (phG bo fB) ph k) uf ul r ki lt er mz bd bo me dE eE lE li fB fA sL f fu fs ff fl xs ys zs oL oU lo up X) 0 0 := by
    intro jz
    induction jz with
    | zero =>
      intro k hk_k
      obtain rfl : n = k := by omega
      refine a_iloadn (pc := 4) C 2 rfl rfl dX5_phaseAll_4 ?_
      refine a_aloadn (pc := 5) C 0 rfl rfl dX5_phaseAll_5 ?_
      refine a_get (pc := 6) C fl_X5_10 0 rfl rfl dX5_phaseAll_6 ?_
      refine a_get (pc := 9) C fl_X5_55 1 rfl rfl dX5_phaseAll_9 ?_
      refine a_icn_ge_y (pc := 12) (tgt := 70) C (by omega) (by omega) (by omega) (by decide) dX5_phaseAll_12 ?_
      refine a_iloadn (pc := 70) C 1 rfl rfl dX5_phaseAll_70 ?_
      exact a_iret (pc := 71) C E (Nat.le_of_ble_eq_true rfl) (Nat.le_of_ble_eq_true rfl) ⟨rfl, rfl⟩ dX5_phaseAll_71
    | succ jz ih =>
      intro k hk_k
      have hlt_k : k < n := by omega
      refine a_iloadn (pc := 4) C 2 rfl rfl dX5_phaseAll_4 ?_
      refine a_aloadn (pc := 5) C 0 rfl rfl dX5_phaseAll_5 ?_
      refine a_get (pc := 6) C fl_X5_10 0 rfl rfl dX5_phaseAll_6 ?_
      refine a_get (pc := 9) C fl_X5_55 1 rfl rfl dX5_phaseAll_9 ?_
      refine a_icn_ge_n (pc := 12) C (by omega) (by omega) (by omega) dX5_phaseAll_12 ⟨70, by decide⟩ ?_
      refine a_bipush (pc := 15) (v := nI 20) C cb_20 dX5_phaseAll_15 ?_
      refine a_aloadn (pc := 17) C 0 rfl rfl dX5_phaseAll_17 ?_
      refine a_get (pc := 18) C fl_X5_26 0 rfl rfl dX5_phaseAll_18 ?_
      refine a_get (pc := 21) C fl_X5_145 3 rfl rfl dX5_phaseAll_21 ?_
      refine a_aloadn (pc := 24) C 0 rfl rfl dX5_phaseAll_24 ?_
      refine a_get (pc := 25) C fl_X5_26 0 rfl rfl dX5_phaseAll_25 ?_
      refine a_get (pc := 28) C fl_X5_135 3 rfl rfl dX5_phaseAll_28 ?_
      refine a_iloadn (pc := 31) C 2 rfl rfl dX5_phaseAll_31 ?_
      refine a_ialdN (pc := 32) C 13 rfl (by omega) (by decide) dX5_phaseAll_32 ?_
      refine a_iald (pc := 33) C 19 rfl (hbo _) (by decide) dX5_phaseAll_33 ?_
      refine a_mmin (pc := 34) (v := phG bo fB k) C ml_X5_267 rfl (Nat.le_of_ble_eq_true rfl) (Nat.le_of_ble_eq_true rfl) (Nat.le_of_ble_eq_true rfl) (Nat.le_of_ble_eq_true rfl) dX5_phaseAll_34 ?_
      refine a_istoren (pc := 37) (L' := [(0, .ref (a 0)), (1, .int (nI (cnt (fun v => !(decide (ph v = phG bo fB v))) k))), (2, .int (nI k)), (3, .int (phG bo fB k))]) C (by decide) rfl rfl dX5_phaseAll_37 ?_
      refine a_aloadn (pc := 38) C 0 rfl rfl dX5_phaseAll_38 ?_
      refine a_get (pc := 39) C fl_X5_10 0 rfl rfl dX5_phaseAll_39 ?_
      refine a_get (pc := 42) C fl_X5_161 1 rfl rfl dX5_phaseAll_42 ?_
      refine a_iloadn (pc := 45) C 2 rfl rfl dX5_phaseAll_45 ?_
      refine a_iald (pc := 46) C 7 rfl (by omega) (by decide) dX5_phaseAll_46 ?_
      refine a_iloadn (pc := 47) C 3 rfl rfl dX5_phaseAll_47 ?_
      refine a_ic_eq (pc := 48) (tgt := 64) C (by decide) dX5_phaseAll_48 (fun c1 => ?_) (fun c1 => ?_)
      · refine a_iinc (pc := 64) (v := nI (k + 1)) (L' := [(0, .ref (a 0)), (1, .int (nI (cnt (fun v => !(decide (ph v = phG bo fB v))) k))), (2, .int (nI (k + 1))), (3, .int (phG bo fB k))]) C 2 rfl (nI_inc _) (by decide) rfl dX5_phaseAll_64 ?_
        refine a_goto (pc := 67) (tgt := 4) C (by decide) dX5_phaseAll_67 ?_
        refine aw_locals (L' := [(0, .ref (a 0)), (1, .int (nI (cnt (fun v => !(decide (ph v = phG bo fB v))) k))), (2, .int (nI (k + 1)))]) [0, 1, 2] rfl ?_
        refine aw_L (L' := [(0, .ref (a 0)), (1, .int (nI (cnt (fun v => !(decide (ph v = phG bo fB v))) (k + 1)))), (2, .int (nI (k + 1)))]) (congrArg (fun zz9 => ([(0, .ref (a 0)), (1, .int zz9), (2, .int (nI (k + 1)))] : List (Nat × Value))) (congrArg nI (cnt_n (by rw [show ph k = phG bo fB k from (pre_self (phG bo fB) ph k).symm.trans c1, decide_eq_true rfl]; rfl)).symm : (nI (cnt (fun v => !(decide (ph v = phG bo fB v))) k)) = (nI (cnt (fun v => !(decide (ph v = phG bo fB v))) (k + 1))))) ?_
        refine aw_eq (congrArg (fun zz9 => wC κ a n dug dtd so zz9 uf ul r ki lt er mz bd bo me dE eE lE li fB fA sL f fu fs ff fl xs ys zs oL oU lo up X) (ph_y c1 : (pre (phG bo fB) ph k) = (pre (phG bo fB) ph (k + 1)))) ?_
        exact ih (k + 1) (by omega)
      · refine a_aloadn (pc := 51) C 0 rfl rfl dX5_phaseAll_51 ?_
        refine a_get (pc := 52) C fl_X5_10 0 rfl rfl dX5_phaseAll_52 ?_
        refine a_get (pc := 55) C fl_X5_161 1 rfl rfl dX5_phaseAll_55 ?_
        refine a_iloadn (pc := 58) C 2 rfl rfl dX5_phaseAll_58 ?_
        refine a_iloadn (pc := 59) C 3 rfl rfl dX5_phaseAll_59 ?_
        refine a_iast (pc := 60) (ws' := wC κ a n dug dtd so (va_up (pre (phG bo fB) ph k) k (phG bo fB k)) uf ul r ki lt er mz bd bo me dE eE lE li fB fA sL f fu fs ff fl xs ys zs oL oU lo up X) C 7 rfl (by omega) (by decide) rfl rfl dX5_phaseAll_60 ?_
        refine a_iinc (pc := 61) (v := nI (cnt (fun v => !(decide (ph v = phG bo fB v))) k + 1)) (L' := [(0, .ref (a 0)), (1, .int (nI (cnt (fun v => !(decide (ph v = phG bo fB v))) k + 1))), (2, .int (nI k)), (3, .int (phG bo fB k))]) C 1 rfl (nI_inc _) (by decide) rfl dX5_phaseAll_61 ?_
        refine a_iinc (pc := 64) (v := nI (k + 1)) (L' := [(0, .ref (a 0)), (1, .int (nI (cnt (fun v => !(decide (ph v = phG bo fB v))) k + 1))), (2, .int (nI (k + 1))), (3, .int (phG bo fB k))]) C 2 rfl (nI_inc _) (by decide) rfl dX5_phaseAll_64 ?_
        refine a_goto (pc := 67) (tgt := 4) C (by decide) dX5_phaseAll_67 ?_
        refine aw_locals (L' := [(0, .ref (a 0)), (1, .int (nI (cnt (fun v => !(decide (ph v = phG bo fB v))) k + 1))), (2, .int (nI (k + 1)))]) [0, 1, 2] rfl ?_
        refine aw_L (L' := [(0, .ref (a 0)), (1, .int (nI (cnt (fun v => !(decide (ph v = phG bo fB v))) (k + 1)))), (2, .int (nI (k + 1)))]) (congrArg (fun zz9 => ([(0, .ref (a 0)), (1, .int zz9), (2, .int (nI (k + 1)))] : List (Nat × Value))) (congrArg nI (cnt_y (by rw [decide_eq_false (fun e => c1 ((pre_self (phG bo fB) ph k).trans e))]; rfl)).symm : (nI (cnt (fun v => !(decide (ph v = phG bo fB v))) k + 1)) = (nI (cnt (fun v => !(decide (ph v = phG bo fB v))) (k + 1))))) ?_
        refine aw_eq (congrArg (fun zz9 => wC κ a n dug dtd so zz9 uf ul r ki lt er mz bd bo me dE eE lE li fB fA sL f fu fs ff fl xs ys zs oL oU lo up X) (pre_s (phG bo fB) ph k : (va_up (pre (phG bo fB) ph k) k (phG bo fB k)) = (pre (phG bo fB) ph (k + 1)))) ?_
        exact ih (k + 1) (by omega)
  refine aw_L (L' := [(0, .ref (a 0)), (1, .int (nI (cnt (fun v => !(decide (ph v = phG bo fB v))) 0))), (2, .int (nI 0))]) (congrArg (fun zz9 => ([(0, .ref (a 0)), (1, .int zz9), (2, .int (nI 0))] : List (Nat × Value))) (rfl : (nI 0) = (nI (cnt (fun v => !(decide (ph v = phG bo fB v))) 0)))) ?_
  refine aw_eq (congrArg (fun zz9 => wC κ a n dug dtd so zz9 uf ul r ki lt er mz bd bo me dE eE lE li fB fA sL f fu fs ff fl xs ys zs oL oU lo up X) ((pre_0 _ _).symm : ph = (pre (phG bo fB) ph 0))) ?_
  exact LP4 (n) (0) (by omega)
