set_option maxHeartbeats 4000000 in
set_option maxRecDepth 100000 in
theorem c_X5_addUnit (κ : aK) (a : Nat → Nat) {n : Nat} {dug : Nat → Bool} {dtd : Nat → Bool} {so : Nat → Int32} {ph : Nat → Int32} {uf : Nat → Int32} {ul : Nat → Int32} {r : Nat} {ki : Nat → Int32} {lt : Nat → Nat} {er : Nat → Nat} {mz : Nat} {bd : Nat → Bool} {bo : Nat → Nat} {me : Nat → Nat → Bool} {dE : Nat → Nat → Bool} {eE : Nat → Nat → Bool} {lE : Nat → Nat → Bool} {li : Nat → Nat → Bool} {fB : Nat → Int32} {fA : Nat → Int32} {sL : Nat → Int32} {f : Nat} {fu : Nat → Nat} {fs : Nat → Int32} {ff : Nat → Int32} {fl : Nat → Int32} {xs : Nat → Int32} {ys : Nat → Int32} {zs : Nat → Int32} {oL : Nat → Int32} {oU : Nat → Int32} {lo : Nat → Int32} {up : Nat → Int32} {X : va_W} {s0 : Int32} (hs : okU 4 s0) (hn : n < 40) (hr : r ≤ 80) (hf : f ≤ 60) (hbo : ∀ u, bo u < 40) (hlt : ∀ u, lt u < 40) (her : ∀ u, er u < 40) (hfu : ∀ u, fu u < 40) : CM yX5_addUnit cX5_addUnit 3 (some .int) ({ frames := 6, cells := 0, slots := 0, locals := 130 } : Room) κ [.ref (a 0), .int s0] (wC κ a n dug dtd so ph uf ul r ki lt er mz bd bo me dE eE lE li fB fA sL f fu fs ff fl xs ys zs oL oU lo up X) (aD (some (.int (nI n))) (wC κ a (n + 1) dug dtd (va_up so n s0) ph uf ul r ki lt er (n + 1) (nB ki lt er bo (n + 1) r) (nJ ki lt er bo (n + 1) r) (nM ki lt er bo (n + 1) r me) (nD ki lt er bo (n + 1) r dE) (nE ki lt er bo (n + 1) r dE eE) (nL ki lt er bo (n + 1) r dE eE lE) (nK ki lt er bo (n + 1) r dE eE li) (nfB ki lt er bo (n + 1) r dE eE fB) (nfA ki lt er bo (n + 1) r dE eE lE fA) sL f fu fs ff fl xs ys zs (nOL dtd uf (nJ ki lt er bo (n + 1) r) fu ff oL (n + 1) f) (nOU dtd ul (nJ ki lt er bo (n + 1) r) oU (n + 1)) (nLo (nOL dtd uf (nJ ki lt er bo (n + 1) r) fu ff oL (n + 1) f) (nE ki lt er bo (n + 1) r dE eE) lo (n + 1)) (nUp (nOU dtd ul (nJ ki lt er bo (n + 1) r) oU (n + 1)) (nL ki lt er bo (n + 1) r dE eE lE) up (n + 1)) X)) := by
  refine cm_entry (own := RX5) (L := [(0, .ref (a 0)), (1, .int s0)]) (by decide +kernel) rfl (lv_entry [.ref (a 0), .int s0] (n := 3) (Nat.le_of_ble_eq_true rfl)) (fun g C E => ?_)
  refine a_iloadn (pc := 0) C 1 rfl rfl dX5_addUnit_0 ?_
  refine a_iconst (pc := 1) (v := nI 0) C ci_0 dX5_addUnit_1 ?_
  refine a_iconst (pc := 2) (v := nI 3) C ci_3 dX5_addUnit_2 ?_
  refine a_callS1 (pc := 3) (k' := 0) (n' := 0) C (c_X5_isWithin κ) yv_X5_isWithin ml_X5_44 ws_X5_isWithin rfl rfl (Nat.le_of_ble_eq_true rfl) (Nat.le_of_ble_eq_true rfl) (Nat.le_of_ble_eq_true rfl) ⟨(Nat.le_of_ble_eq_true rfl), (Nat.le_of_ble_eq_true rfl)⟩ rfl rfl dX5_addUnit_3 ?_
  refine a_ifb_ne_y (pc := 6) (tgt := 19) C ((okU_c (by omega)).mpr hs) (by decide) dX5_addUnit_6 ?_
  refine a_aloadn (pc := 19) C 0 rfl rfl dX5_addUnit_19 ?_
  refine a_get (pc := 20) C fl_X5_10 0 rfl rfl dX5_addUnit_20 ?_
  refine a_get (pc := 23) C fl_X5_55 1 rfl rfl dX5_addUnit_23 ?_
  refine a_bipush (pc := 26) (v := nI 40) C cb_40 dX5_addUnit_26 ?_
  refine a_icn_lt_y (pc := 28) (tgt := 41) C (by omega) (by omega) (by omega) (by decide) dX5_addUnit_28 ?_
  refine a_aloadn (pc := 41) C 0 rfl rfl dX5_addUnit_41 ?_
  refine a_get (pc := 42) C fl_X5_10 0 rfl rfl dX5_addUnit_42 ?_
  refine a_iloadn (pc := 45) C 1 rfl rfl dX5_addUnit_45 ?_
  refine a_callV1 (pc := 46) (k' := 0) (n' := 0) C (c_X4_append κ a hn) yv_X4_append ml_X5_64 wi_X4_append wl_X4_append 1 rfl rfl rfl rfl (Nat.le_of_ble_eq_true rfl) (Nat.le_of_ble_eq_true rfl) (Nat.le_of_ble_eq_true rfl) ⟨(Nat.le_of_ble_eq_true rfl), (Nat.le_of_ble_eq_true rfl)⟩ rfl rfl dX5_addUnit_46 ?_
  refine a_istoren (pc := 49) (L' := [(0, .ref (a 0)), (1, .int s0), (2, .int (nI n))]) C (by decide) rfl rfl dX5_addUnit_49 ?_
  refine a_aloadn (pc := 50) C 0 rfl rfl dX5_addUnit_50 ?_
  refine a_callV0 (pc := 51) (k' := 0) (n' := 0) C (c_X5_renewMatrix κ a (by omega) hr hf hbo hlt her hfu) yv_X5_renewMatrix ml_X5_68 wi_X5_renewMatrix wl_X5_renewMatrix 0 rfl rfl rfl rfl (Nat.le_of_ble_eq_true rfl) (Nat.le_of_ble_eq_true rfl) (Nat.le_of_ble_eq_true rfl) ⟨(Nat.le_of_ble_eq_true rfl), (Nat.le_of_ble_eq_true rfl)⟩ rfl rfl dX5_addUnit_51 ?_
  refine a_iloadn (pc := 54) C 2 rfl rfl dX5_addUnit_54 ?_
  exact a_iret (pc := 55) C E (Nat.le_of_ble_eq_true rfl) (Nat.le_of_ble_eq_true rfl) ⟨rfl, rfl⟩ dX5_addUnit_55
set_option maxHeartbeats 4000000 in
set_option maxRecDepth 100000 in
theorem c_X5_relate (κ : aK) (a : Nat → Nat) {n : Nat} {dug : Nat → Bool} {dtd : Nat → Bool} {so : Nat → Int32} {ph : Nat → Int32} {uf : Nat → Int32} {ul : Nat → Int32} {r : Nat} {ki : Nat → Int32} {lt : Nat → Nat} {er : Nat → Nat} {mz : Nat} {bd : Nat → Bool} {bo : Nat → Nat} {me : Nat → Nat → Bool} {dE : Nat → Nat → Bool} {eE : Nat → Nat → Bool} {lE : Nat → Nat → Bool} {li : Nat → Nat → Bool} {fB : Nat → Int32} {fA : Nat → Int32} {sL : Nat → Int32} {f : Nat} {fu : Nat → Nat} {fs : Nat → Int32} {ff : Nat → Int32} {fl : Nat → Int32} {xs : Nat → Int32} {ys : Nat → Int32} {zs : Nat → Int32} {oL : Nat → Int32} {oU : Nat → Int32} {lo : Nat → Int32} {up : Nat → Int32} {X : va_W} {kd : Int32} {x : Nat} {y : Nat} (hk : okU 5 kd) (hx : x < n) (hy : y < n) (hn : n ≤ 40) (hr : r < 80) (hf : f ≤ 60) (hbo : ∀ u, bo u < 40) (hlt : ∀ u, lt u < 40) (her : ∀ u, er u < 40) (hfu : ∀ u, fu u < 40) (h0 : whR so ki lt er bo eE r kd x y = 0) : CM yX5_relate cX5_relate 5 (some .int) ({ frames := 7, cells := 0, slots := 0, locals := 131 } : Room) κ [.ref (a 0), .int kd, .int (nI x), .int (nI y)] (wC κ a n dug dtd so ph uf ul r ki lt er mz bd bo me dE eE lE li fB fA sL f fu fs ff fl xs ys zs oL oU lo up X) (aD (some (.int (nI (whR so ki lt er bo eE r kd x y)))) (wC κ a n dug dtd so ph uf ul (r + 1) (va_up ki r kd) (va_up lt r x) (va_up er r y) n (nB (va_up ki r kd) (va_up lt r x) (va_up er r y) bo n (r + 1)) (nJ (va_up ki r kd) (va_up lt r x) (va_up er r y) bo n (r + 1)) (nM (va_up ki r kd) (va_up lt r x) (va_up er r y) bo n (r + 1) me) (nD (va_up ki r kd) (va_up lt r x) (va_up er r y) bo n (r + 1) dE) (nE (va_up ki r kd) (va_up lt r x) (va_up er r y) bo n (r + 1) dE eE) (nL (va_up ki r kd) (va_up lt r x) (va_up er r y) bo n (r + 1) dE eE lE) (nK (va_up ki r kd) (va_up lt r x) (va_up er r y) bo n (r + 1) dE eE li) (nfB (va_up ki r kd) (va_up lt r x) (va_up er r y) bo n (r + 1) dE eE fB) (nfA (va_up ki r kd) (va_up lt r x) (va_up er r y) bo n (r + 1) dE eE lE fA) sL f fu fs ff fl xs ys zs (nOL dtd uf (nJ (va_up ki r kd) (va_up lt r x) (va_up er r y) bo n (r + 1)) fu ff oL n f) (nOU dtd ul (nJ (va_up ki r kd) (va_up lt r x) (va_up er r y) bo n (r + 1)) oU n) (nLo (nOL dtd uf (nJ (va_up ki r kd) (va_up lt r x) (va_up er r y) bo n (r + 1)) fu ff oL n f) (nE (va_up ki r kd) (va_up lt r x) (va_up er r y) bo n (r + 1) dE eE) lo n) (nUp (nOU dtd ul (nJ (va_up ki r kd) (va_up lt r x) (va_up er r y) bo n (r + 1)) oU n) (nL (va_up ki r kd) (va_up lt r x) (va_up er r y) bo n (r + 1) dE eE lE) up n) X)) := by
  refine cm_entry (own := RX5) (L := [(0, .ref (a 0)), (1, .int kd), (2, .int (nI x)), (3, .int (nI y))]) (by decide +kernel) rfl (lv_entry [.ref (a 0), .int kd, .int (nI x), .int (nI y)] (n := 5) (Nat.le_of_ble_eq_true rfl)) (fun g C E => ?_)
  have hwb := whR_lt so ki lt er bo eE r kd x y
  refine a_iloadn (pc := 0) C 1 rfl rfl dX5_relate_0 ?_
  refine a_iconst (pc := 1) (v := nI 0) C ci_0 dX5_relate_1 ?_
  refine a_iconst (pc := 2) (v := nI 4) C ci_4 dX5_relate_2 ?_
  refine a_callS1 (pc := 3) (k' := 0) (n' := 0) C (c_X5_isWithin κ) yv_X5_isWithin ml_X5_44 ws_X5_isWithin rfl rfl (Nat.le_of_ble_eq_true rfl) (Nat.le_of_ble_eq_true rfl) (Nat.le_of_ble_eq_true rfl) ⟨(Nat.le_of_ble_eq_true rfl), (Nat.le_of_ble_eq_true rfl)⟩ rfl rfl dX5_relate_3 ?_
  refine a_ifb_ne_y (pc := 6) (tgt := 19) C ((okU_c (by omega)).mpr hk) (by decide) dX5_relate_6 ?_
  refine a_aloadn (pc := 19) C 0 rfl rfl dX5_relate_19 ?_
  refine a_iloadn (pc := 20) C 2 rfl rfl dX5_relate_20 ?_
  refine a_callV0 (pc := 21) (k' := 0) (n' := 0) C (c_X5_requireUnit κ a hn (by omega)) yv_X5_requireUnit ml_X5_73 wi_X5_requireUnit wl_X5_requireUnit 0 rfl rfl rfl rfl (Nat.le_of_ble_eq_true rfl) (Nat.le_of_ble_eq_true rfl) (Nat.le_of_ble_eq_true rfl) ⟨(Nat.le_of_ble_eq_true rfl), (Nat.le_of_ble_eq_true rfl)⟩ rfl rfl dX5_relate_21 ?_
  refine a_aloadn (pc := 24) C 0 rfl rfl dX5_relate_24 ?_
  refine a_iloadn (pc := 25) C 3 rfl rfl dX5_relate_25 ?_
  refine a_callV0 (pc := 26) (k' := 0) (n' := 0) C (c_X5_requireUnit κ a hn (by omega)) yv_X5_requireUnit ml_X5_73 wi_X5_requireUnit wl_X5_requireUnit 0 rfl rfl rfl rfl (Nat.le_of_ble_eq_true rfl) (Nat.le_of_ble_eq_true rfl) (Nat.le_of_ble_eq_true rfl) ⟨(Nat.le_of_ble_eq_true rfl), (Nat.le_of_ble_eq_true rfl)⟩ rfl rfl dX5_relate_26 ?_
  refine a_aloadn (pc := 29) C 0 rfl rfl dX5_relate_29 ?_
  refine a_get (pc := 30) C fl_X5_19 0 rfl rfl dX5_relate_30 ?_
  refine a_get (pc := 33) C fl_X5_77 2 rfl rfl dX5_relate_33 ?_
  refine a_bipush (pc := 36) (v := nI 80) C cb_80 dX5_relate_36 ?_
  refine a_icn_lt_y (pc := 38) (tgt := 51) C (by omega) (by omega) (by omega) (by decide) dX5_relate_38 ?_
  refine a_aloadn (pc := 51) C 0 rfl rfl dX5_relate_51 ?_
  refine a_iloadn (pc := 52) C 1 rfl rfl dX5_relate_52 ?_
  refine a_iloadn (pc := 53) C 2 rfl rfl dX5_relate_53 ?_
  refine a_iloadn (pc := 54) C 3 rfl rfl dX5_relate_54 ?_
  refine a_callV1 (pc := 55) (k' := 0) (n' := 0) C (c_X5_whyRefused κ a (by omega) hbo hlt her (by omega) (by omega)) yv_X5_whyRefused ml_X5_80 wi_X5_whyRefused wl_X5_whyRefused 0 rfl rfl rfl rfl (Nat.le_of_ble_eq_true rfl) (Nat.le_of_ble_eq_true rfl) (Nat.le_of_ble_eq_true rfl) ⟨(Nat.le_of_ble_eq_true rfl), (Nat.le_of_ble_eq_true rfl)⟩ rfl rfl dX5_relate_55 ?_
  refine a_istore (pc := 58) (L' := [(0, .ref (a 0)), (1, .int kd), (2, .int (nI x)), (3, .int (nI y)), (4, .int (nI (whR so ki lt er bo eE r kd x y)))]) C (by decide) rfl dX5_relate_58 ?_
  refine a_iload (pc := 60) C 4 rfl dX5_relate_60 ?_
  refine a_ifn_ne_n (pc := 62) C (by omega) h0 dX5_relate_62 ⟨79, by decide⟩ ?_
  refine a_aloadn (pc := 65) C 0 rfl rfl dX5_relate_65 ?_
  refine a_get (pc := 66) C fl_X5_19 0 rfl rfl dX5_relate_66 ?_
  refine a_iloadn (pc := 69) C 1 rfl rfl dX5_relate_69 ?_
  refine a_iloadn (pc := 70) C 2 rfl rfl dX5_relate_70 ?_
  refine a_iloadn (pc := 71) C 3 rfl rfl dX5_relate_71 ?_
  refine a_callV0 (pc := 72) (k' := 0) (n' := 0) C (c_X3_append κ a hr) yv_X3_append ml_X5_84 wi_X3_append wl_X3_append 2 rfl rfl rfl rfl (Nat.le_of_ble_eq_true rfl) (Nat.le_of_ble_eq_true rfl) (Nat.le_of_ble_eq_true rfl) ⟨(Nat.le_of_ble_eq_true rfl), (Nat.le_of_ble_eq_true rfl)⟩ rfl rfl dX5_relate_72 ?_
  refine a_aloadn (pc := 75) C 0 rfl rfl dX5_relate_75 ?_
  refine a_callV0 (pc := 76) (k' := 0) (n' := 0) C (c_X5_renewMatrix κ a hn (by omega) hf hbo (upn_lt hlt (by omega)) (upn_lt her (by omega)) hfu) yv_X5_renewMatrix ml_X5_68 wi_X5_renewMatrix wl_X5_renewMatrix 0 rfl rfl rfl rfl (Nat.le_of_ble_eq_true rfl) (Nat.le_of_ble_eq_true rfl) (Nat.le_of_ble_eq_true rfl) ⟨(Nat.le_of_ble_eq_true rfl), (Nat.le_of_ble_eq_true rfl)⟩ rfl rfl dX5_relate_76 ?_
  refine a_iload (pc := 79) C 4 rfl dX5_relate_79 ?_
  exact a_iret (pc := 81) C E (Nat.le_of_ble_eq_true rfl) (Nat.le_of_ble_eq_true rfl) ⟨rfl, rfl⟩ dX5_relate_81
set_option maxHeartbeats 4000000 in
set_option maxRecDepth 100000 in
theorem c_X5_relate_r (κ : aK) (a : Nat → Nat) {n : Nat} {dug : Nat → Bool} {dtd : Nat → Bool} {so : Nat → Int32} {ph : Nat → Int32} {uf : Nat → Int32} {ul : Nat → Int32} {r : Nat} {ki : Nat → Int32} {lt : Nat → Nat} {er : Nat → Nat} {mz : Nat} {bd : Nat → Bool} {bo : Nat → Nat} {me : Nat → Nat → Bool} {dE : Nat → Nat → Bool} {eE : Nat → Nat → Bool} {lE : Nat → Nat → Bool} {li : Nat → Nat → Bool} {fB : Nat → Int32} {fA : Nat → Int32} {sL : Nat → Int32} {f : Nat} {fu : Nat → Nat} {fs : Nat → Int32} {ff : Nat → Int32} {fl : Nat → Int32} {xs : Nat → Int32} {ys : Nat → Int32} {zs : Nat → Int32} {oL : Nat → Int32} {oU : Nat → Int32} {lo : Nat → Int32} {up : Nat → Int32} {X : va_W} {kd : Int32} {x : Nat} {y : Nat} (hk : okU 5 kd) (hx : x < n) (hy : y < n) (hn : n ≤ 40) (hr : r < 80) (hf : f ≤ 60) (hbo : ∀ u, bo u < 40) (hlt : ∀ u, lt u < 40) (her : ∀ u, er u < 40) (hfu : ∀ u, fu u < 40) (h0 : ¬ whR so ki lt er bo eE r kd x y = 0) : CM yX5_relate cX5_relate 5 (some .int) ({ frames := 7, cells := 0, slots := 0, locals := 131 } : Room) κ [.ref (a 0), .int kd, .int (nI x), .int (nI y)] (wC κ a n dug dtd so ph uf ul r ki lt er mz bd bo me dE eE lE li fB fA sL f fu fs ff fl xs ys zs oL oU lo up X) (aD (some (.int (nI (whR so ki lt er bo eE r kd x y)))) (wC κ a n dug dtd so ph uf ul r ki lt er mz bd bo me dE eE lE li fB fA sL f fu fs ff fl xs ys zs oL oU lo up X)) := by
  refine cm_entry (own := RX5) (L := [(0, .ref (a 0)), (1, .int kd), (2, .int (nI x)), (3, .int (nI y))]) (by decide +kernel) rfl (lv_entry [.ref (a 0), .int kd, .int (nI x), .int (nI y)] (n := 5) (Nat.le_of_ble_eq_true rfl)) (fun g C E => ?_)
  have hwb := whR_lt so ki lt er bo eE r kd x y
  refine a_iloadn (pc := 0) C 1 rfl rfl dX5_relate_0 ?_
  refine a_iconst (pc := 1) (v := nI 0) C ci_0 dX5_relate_1 ?_
  refine a_iconst (pc := 2) (v := nI 4) C ci_4 dX5_relate_2 ?_
  refine a_callS1 (pc := 3) (k' := 0) (n' := 0) C (c_X5_isWithin κ) yv_X5_isWithin ml_X5_44 ws_X5_isWithin rfl rfl (Nat.le_of_ble_eq_true rfl) (Nat.le_of_ble_eq_true rfl) (Nat.le_of_ble_eq_true rfl) ⟨(Nat.le_of_ble_eq_true rfl), (Nat.le_of_ble_eq_true rfl)⟩ rfl rfl dX5_relate_3 ?_
  refine a_ifb_ne_y (pc := 6) (tgt := 19) C ((okU_c (by omega)).mpr hk) (by decide) dX5_relate_6 ?_
  refine a_aloadn (pc := 19) C 0 rfl rfl dX5_relate_19 ?_
  refine a_iloadn (pc := 20) C 2 rfl rfl dX5_relate_20 ?_
  refine a_callV0 (pc := 21) (k' := 0) (n' := 0) C (c_X5_requireUnit κ a hn (by omega)) yv_X5_requireUnit ml_X5_73 wi_X5_requireUnit wl_X5_requireUnit 0 rfl rfl rfl rfl (Nat.le_of_ble_eq_true rfl) (Nat.le_of_ble_eq_true rfl) (Nat.le_of_ble_eq_true rfl) ⟨(Nat.le_of_ble_eq_true rfl), (Nat.le_of_ble_eq_true rfl)⟩ rfl rfl dX5_relate_21 ?_
  refine a_aloadn (pc := 24) C 0 rfl rfl dX5_relate_24 ?_
  refine a_iloadn (pc := 25) C 3 rfl rfl dX5_relate_25 ?_
  refine a_callV0 (pc := 26) (k' := 0) (n' := 0) C (c_X5_requireUnit κ a hn (by omega)) yv_X5_requireUnit ml_X5_73 wi_X5_requireUnit wl_X5_requireUnit 0 rfl rfl rfl rfl (Nat.le_of_ble_eq_true rfl) (Nat.le_of_ble_eq_true rfl) (Nat.le_of_ble_eq_true rfl) ⟨(Nat.le_of_ble_eq_true rfl), (Nat.le_of_ble_eq_true rfl)⟩ rfl rfl dX5_relate_26 ?_
  refine a_aloadn (pc := 29) C 0 rfl rfl dX5_relate_29 ?_
  refine a_get (pc := 30) C fl_X5_19 0 rfl rfl dX5_relate_30 ?_
  refine a_get (pc := 33) C fl_X5_77 2 rfl rfl dX5_relate_33 ?_
  refine a_bipush (pc := 36) (v := nI 80) C cb_80 dX5_relate_36 ?_
  refine a_icn_lt_y (pc := 38) (tgt := 51) C (by omega) (by omega) (by omega) (by decide) dX5_relate_38 ?_
  refine a_aloadn (pc := 51) C 0 rfl rfl dX5_relate_51 ?_
  refine a_iloadn (pc := 52) C 1 rfl rfl dX5_relate_52 ?_
  refine a_iloadn (pc := 53) C 2 rfl rfl dX5_relate_53 ?_
  refine a_iloadn (pc := 54) C 3 rfl rfl dX5_relate_54 ?_
  refine a_callV1 (pc := 55) (k' := 0) (n' := 0) C (c_X5_whyRefused κ a (by omega) hbo hlt her (by omega) (by omega)) yv_X5_whyRefused ml_X5_80 wi_X5_whyRefused wl_X5_whyRefused 0 rfl rfl rfl rfl (Nat.le_of_ble_eq_true rfl) (Nat.le_of_ble_eq_true rfl) (Nat.le_of_ble_eq_true rfl) ⟨(Nat.le_of_ble_eq_true rfl), (Nat.le_of_ble_eq_true rfl)⟩ rfl rfl dX5_relate_55 ?_
  refine a_istore (pc := 58) (L' := [(0, .ref (a 0)), (1, .int kd), (2, .int (nI x)), (3, .int (nI y)), (4, .int (nI (whR so ki lt er bo eE r kd x y)))]) C (by decide) rfl dX5_relate_58 ?_
  refine a_iload (pc := 60) C 4 rfl dX5_relate_60 ?_
  refine a_ifn_ne_y (pc := 62) (tgt := 79) C (by omega) h0 (by decide) dX5_relate_62 ?_
  refine a_iload (pc := 79) C 4 rfl dX5_relate_79 ?_
  exact a_iret (pc := 81) C E (Nat.le_of_ble_eq_true rfl) (Nat.le_of_ble_eq_true rfl) ⟨rfl, rfl⟩ dX5_relate_81
set_option maxHeartbeats 4000000 in
set_option maxRecDepth 100000 in
theorem c_X5_takeBack (κ : aK) (a : Nat → Nat) {n : Nat} {dug : Nat → Bool} {dtd : Nat → Bool} {so : Nat → Int32} {ph : Nat → Int32} {uf : Nat → Int32} {ul : Nat → Int32} {r : Nat} {ki : Nat → Int32} {lt : Nat → Nat} {er : Nat → Nat} {mz : Nat} {bd : Nat → Bool} {bo : Nat → Nat} {me : Nat → Nat → Bool} {dE : Nat → Nat → Bool} {eE : Nat → Nat → Bool} {lE : Nat → Nat → Bool} {li : Nat → Nat → Bool} {fB : Nat → Int32} {fA : Nat → Int32} {sL : Nat → Int32} {f : Nat} {fu : Nat → Nat} {fs : Nat → Int32} {ff : Nat → Int32} {fl : Nat → Int32} {xs : Nat → Int32} {ys : Nat → Int32} {zs : Nat → Int32} {oL : Nat → Int32} {oU : Nat → Int32} {lo : Nat → Int32} {up : Nat → Int32} {X : va_W} {j : Nat} (hn : n ≤ 40) (hr : r ≤ 80) (hj : j < r) (hf : f ≤ 60) (hbo : ∀ u, bo u < 40) (hlt : ∀ u, lt u < 40) (her : ∀ u, er u < 40) (hfu : ∀ u, fu u < 40) : CM yX5_takeBack cX5_takeBack 2 (some .int) ({ frames := 7, cells := 0, slots := 0, locals := 131 } : Room) κ [.ref (a 0), .int (nI j)] (wC κ a n dug dtd so ph uf ul r ki lt er mz bd bo me dE eE lE li fB fA sL f fu fs ff fl xs ys zs oL oU lo up X) (aD (some (.int (nI (r - 1)))) (wC κ a n dug dtd so ph uf ul (r - 1) (sft ki j r) (sft lt j r) (sft er j r) n (nB (sft ki j r) (sft lt j r) (sft er j r) bo n (r - 1)) (nJ (sft ki j r) (sft lt j r) (sft er j r) bo n (r - 1)) (nM (sft ki j r) (sft lt j r) (sft er j r) bo n (r - 1) me) (nD (sft ki j r) (sft lt j r) (sft er j r) bo n (r - 1) dE) (nE (sft ki j r) (sft lt j r) (sft er j r) bo n (r - 1) dE eE) (nL (sft ki j r) (sft lt j r) (sft er j r) bo n (r - 1) dE eE lE) (nK (sft ki j r) (sft lt j r) (sft er j r) bo n (r - 1) dE eE li) (nfB (sft ki j r) (sft lt j r) (sft er j r) bo n (r - 1) dE eE fB) (nfA (sft ki j r) (sft lt j r) (sft er j r) bo n (r - 1) dE eE lE fA) sL f fu fs ff fl xs ys zs (nOL dtd uf (nJ (sft ki j r) (sft lt j r) (sft er j r) bo n (r - 1)) fu ff oL n f) (nOU dtd ul (nJ (sft ki j r) (sft lt j r) (sft er j r) bo n (r - 1)) oU n) (nLo (nOL dtd uf (nJ (sft ki j r) (sft lt j r) (sft er j r) bo n (r - 1)) fu ff oL n f) (nE (sft ki j r) (sft lt j r) (sft er j r) bo n (r - 1) dE eE) lo n) (nUp (nOU dtd ul (nJ (sft ki j r) (sft lt j r) (sft er j r) bo n (r - 1)) oU n) (nL (sft ki j r) (sft lt j r) (sft er j r) bo n (r - 1) dE eE lE) up n) X)) := by
  refine cm_entry (own := RX5) (L := [(0, .ref (a 0)), (1, .int (nI j))]) (by decide +kernel) rfl (lv_entry [.ref (a 0), .int (nI j)] (n := 2) (Nat.le_of_ble_eq_true rfl)) (fun g C E => ?_)
  refine a_aloadn (pc := 0) C 0 rfl rfl dX5_takeBack_0 ?_
  refine a_iloadn (pc := 1) C 1 rfl rfl dX5_takeBack_1 ?_
  refine a_callV0 (pc := 2) (k' := 0) (n' := 0) C (c_X5_requireRelation κ a hr hj) yv_X5_requireRelation ml_X5_87 wi_X5_requireRelation wl_X5_requireRelation 0 rfl rfl rfl rfl (Nat.le_of_ble_eq_true rfl) (Nat.le_of_ble_eq_true rfl) (Nat.le_of_ble_eq_true rfl) ⟨(Nat.le_of_ble_eq_true rfl), (Nat.le_of_ble_eq_true rfl)⟩ rfl rfl dX5_takeBack_2 ?_
  refine a_aloadn (pc := 5) C 0 rfl rfl dX5_takeBack_5 ?_
  refine a_get (pc := 6) C fl_X5_19 0 rfl rfl dX5_takeBack_6 ?_
  refine a_iloadn (pc := 9) C 1 rfl rfl dX5_takeBack_9 ?_
  refine a_callV0 (pc := 10) (k' := 0) (n' := 0) C (c_X3_remove κ a hr hj) yv_X3_remove ml_X5_90 wi_X3_remove wl_X3_remove 2 rfl rfl rfl rfl (Nat.le_of_ble_eq_true rfl) (Nat.le_of_ble_eq_true rfl) (Nat.le_of_ble_eq_true rfl) ⟨(Nat.le_of_ble_eq_true rfl), (Nat.le_of_ble_eq_true rfl)⟩ rfl rfl dX5_takeBack_10 ?_
  refine a_aloadn (pc := 13) C 0 rfl rfl dX5_takeBack_13 ?_
  refine a_callV0 (pc := 14) (k' := 0) (n' := 0) C (c_X5_renewMatrix κ a hn (by omega) hf hbo (sft_lt hlt) (sft_lt her) hfu) yv_X5_renewMatrix ml_X5_68 wi_X5_renewMatrix wl_X5_renewMatrix 0 rfl rfl rfl rfl (Nat.le_of_ble_eq_true rfl) (Nat.le_of_ble_eq_true rfl) (Nat.le_of_ble_eq_true rfl) ⟨(Nat.le_of_ble_eq_true rfl), (Nat.le_of_ble_eq_true rfl)⟩ rfl rfl dX5_takeBack_14 ?_
  refine a_aloadn (pc := 17) C 0 rfl rfl dX5_takeBack_17 ?_
  refine a_get (pc := 18) C fl_X5_19 0 rfl rfl dX5_takeBack_18 ?_
  refine a_get (pc := 21) C fl_X5_77 2 rfl rfl dX5_takeBack_21 ?_
  exact a_iret (pc := 24) C E (Nat.le_of_ble_eq_true rfl) (Nat.le_of_ble_eq_true rfl) ⟨rfl, rfl⟩ dX5_takeBack_24
set_option maxHeartbeats 4000000 in
set_option maxRecDepth 100000 in
theorem c_X5_relation (κ : aK) (a : Nat → Nat) {n : Nat} {dug : Nat → Bool} {dtd : Nat → Bool} {so : Nat → Int32} {ph : Nat → Int32} {uf : Nat → Int32} {ul : Nat → Int32} {r : Nat} {ki : Nat → Int32} {lt : Nat → Nat} {er : Nat → Nat} {mz : Nat} {bd : Nat → Bool} {bo : Nat → Nat} {me : Nat → Nat → Bool} {dE : Nat → Nat → Bool} {eE : Nat → Nat → Bool} {lE : Nat → Nat → Bool} {li : Nat → Nat → Bool} {fB : Nat → Int32} {fA : Nat → Int32} {sL : Nat → Int32} {f : Nat} {fu : Nat → Nat} {fs : Nat → Int32} {ff : Nat → Int32} {fl : Nat → Int32} {xs : Nat → Int32} {ys : Nat → Int32} {zs : Nat → Int32} {oL : Nat → Int32} {oU : Nat → Int32} {lo : Nat → Int32} {up : Nat → Int32} {X : va_W} {j : Nat} {q : Nat} (hr : r ≤ 80) (hj : j < r) (hq : q < 3) : CM yX5_relation cX5_relation 3 (some .int) ({ frames := 7, cells := 0, slots := 0, locals := 131 } : Room) κ [.ref (a 0), .int (nI j), .int (nI q)] (wC κ a n dug dtd so ph uf ul r ki lt er mz bd bo me dE eE lE li fB fA sL f fu fs ff fl xs ys zs oL oU lo up X) (aD (some (.int (rtR ki lt er j q))) (wC κ a n dug dtd so ph uf ul r ki lt er mz bd bo me dE eE lE li fB fA sL f fu fs ff fl xs ys zs oL oU lo up X)) := by
  refine cm_entry (own := RX5) (L := [(0, .ref (a 0)), (1, .int (nI j)), (2, .int (nI q))]) (by decide +kernel) rfl (lv_entry [.ref (a 0), .int (nI j), .int (nI q)] (n := 3) (Nat.le_of_ble_eq_true rfl)) (fun g C E => ?_)
  refine a_aloadn (pc := 0) C 0 rfl rfl dX5_relation_0 ?_
  refine a_iloadn (pc := 1) C 1 rfl rfl dX5_relation_1 ?_
  refine a_callV0 (pc := 2) (k' := 0) (n' := 0) C (c_X5_requireRelation κ a hr hj) yv_X5_requireRelation ml_X5_87 wi_X5_requireRelation wl_X5_requireRelation 0 rfl rfl rfl rfl (Nat.le_of_ble_eq_true rfl) (Nat.le_of_ble_eq_true rfl) (Nat.le_of_ble_eq_true rfl) ⟨(Nat.le_of_ble_eq_true rfl), (Nat.le_of_ble_eq_true rfl)⟩ rfl rfl dX5_relation_2 ?_
  refine a_iloadn (pc := 5) C 2 rfl rfl dX5_relation_5 ?_
  refine a_iconst (pc := 6) (v := nI 3) C ci_3 dX5_relation_6 ?_
  refine a_callS0 (pc := 7) (k' := 0) (n' := 0) C (c_X5_requireFact κ (by omega) hq) yv_X5_requireFact ml_X5_93 ws_X5_requireFact rfl rfl (Nat.le_of_ble_eq_true rfl) (Nat.le_of_ble_eq_true rfl) (Nat.le_of_ble_eq_true rfl) ⟨(Nat.le_of_ble_eq_true rfl), (Nat.le_of_ble_eq_true rfl)⟩ rfl rfl dX5_relation_7 ?_
  refine a_iloadn (pc := 10) C 2 rfl rfl dX5_relation_10 ?_
  rcases (show q = 0 ∨ q = 1 ∨ q = 2 by omega) with rfl | rfl | rfl
  · refine a_lookup (pc := 11) (tgt := 36) (off := 25) C (by decide +kernel) (by decide +kernel) (by decide) dX5_relation_11 ?_
    refine a_aloadn (pc := 36) C 0 rfl rfl dX5_relation_36 ?_
    refine a_get (pc := 37) C fl_X5_19 0 rfl rfl dX5_relation_37 ?_
    refine a_get (pc := 40) C fl_X5_97 2 rfl rfl dX5_relation_40 ?_
    refine a_iloadn (pc := 43) C 1 rfl rfl dX5_relation_43 ?_
    refine a_iald (pc := 44) C 10 rfl (by omega) (by decide) dX5_relation_44 ?_
    exact a_iret (pc := 45) C E (Nat.le_of_ble_eq_true rfl) (Nat.le_of_ble_eq_true rfl) ⟨rfl, rfl⟩ dX5_relation_45
  · refine a_lookup (pc := 11) (tgt := 46) (off := 35) C (by decide +kernel) (by decide +kernel) (by decide) dX5_relation_11 ?_
    refine a_aloadn (pc := 46) C 0 rfl rfl dX5_relation_46 ?_
    refine a_get (pc := 47) C fl_X5_19 0 rfl rfl dX5_relation_47 ?_
    refine a_get (pc := 50) C fl_X5_101 2 rfl rfl dX5_relation_50 ?_
    refine a_iloadn (pc := 53) C 1 rfl rfl dX5_relation_53 ?_
    refine a_ialdN (pc := 54) C 11 rfl (by omega) (by decide) dX5_relation_54 ?_
    exact a_iret (pc := 55) C E (Nat.le_of_ble_eq_true rfl) (Nat.le_of_ble_eq_true rfl) ⟨rfl, rfl⟩ dX5_relation_55
  · refine a_lookup (pc := 11) (tgt := 56) (off := 45) C (by decide +kernel) (by decide +kernel) (by decide) dX5_relation_11 ?_
    refine a_aloadn (pc := 56) C 0 rfl rfl dX5_relation_56 ?_
    refine a_get (pc := 57) C fl_X5_19 0 rfl rfl dX5_relation_57 ?_
    refine a_get (pc := 60) C fl_X5_104 2 rfl rfl dX5_relation_60 ?_
    refine a_iloadn (pc := 63) C 1 rfl rfl dX5_relation_63 ?_
    refine a_ialdN (pc := 64) C 12 rfl (by omega) (by decide) dX5_relation_64 ?_
    exact a_iret (pc := 65) C E (Nat.le_of_ble_eq_true rfl) (Nat.le_of_ble_eq_true rfl) ⟨rfl, rfl⟩ dX5_relation_65
set_option maxHeartbeats 4000000 in
set_option maxRecDepth 100000 in
theorem c_X5_count (κ : aK) (a : Nat → Nat) {n : Nat} {dug : Nat → Bool} {dtd : Nat → Bool} {so : Nat → Int32} {ph : Nat → Int32} {uf : Nat → Int32} {ul : Nat → Int32} {r : Nat} {ki : Nat → Int32} {lt : Nat → Nat} {er : Nat → Nat} {mz : Nat} {bd : Nat → Bool} {bo : Nat → Nat} {me : Nat → Nat → Bool} {dE : Nat → Nat → Bool} {eE : Nat → Nat → Bool} {lE : Nat → Nat → Bool} {li : Nat → Nat → Bool} {fB : Nat → Int32} {fA : Nat → Int32} {sL : Nat → Int32} {f : Nat} {fu : Nat → Nat} {fs : Nat → Int32} {ff : Nat → Int32} {fl : Nat → Int32} {xs : Nat → Int32} {ys : Nat → Int32} {zs : Nat → Int32} {oL : Nat → Int32} {oU : Nat → Int32} {lo : Nat → Int32} {up : Nat → Int32} {X : va_W} {q : Nat} (hn : n ≤ 40) (hm : mz ≤ 40) (hbo : ∀ u, bo u < 40) (hq : q < 9) : CM yX5_count cX5_count 2 (some .int) ({ frames := 7, cells := 0, slots := 0, locals := 131 } : Room) κ [.ref (a 0), .int (nI q)] (wC κ a n dug dtd so ph uf ul r ki lt er mz bd bo me dE eE lE li fB fA sL f fu fs ff fl xs ys zs oL oU lo up X) (aD (some (.int (ctR n r mz f bd dug li fB lo up bo eE ph q))) (wC κ a n dug dtd so ph uf ul r ki lt er mz bd bo me dE eE lE li fB fA sL f fu fs ff fl xs ys zs oL oU lo up X)) := by
  refine cm_entry (own := RX5) (L := [(0, .ref (a 0)), (1, .int (nI q))]) (by decide +kernel) rfl (lv_entry [.ref (a 0), .int (nI q)] (n := 2) (Nat.le_of_ble_eq_true rfl)) (fun g C E => ?_)
  refine a_iloadn (pc := 0) C 1 rfl rfl dX5_count_0 ?_
  refine a_bipush (pc := 1) (v := nI 9) C cb_9 dX5_count_1 ?_
  refine a_callS0 (pc := 3) (k' := 0) (n' := 0) C (c_X5_requireFact κ (by omega) hq) yv_X5_requireFact ml_X5_93 ws_X5_requireFact rfl rfl (Nat.le_of_ble_eq_true rfl) (Nat.le_of_ble_eq_true rfl) (Nat.le_of_ble_eq_true rfl) ⟨(Nat.le_of_ble_eq_true rfl), (Nat.le_of_ble_eq_true rfl)⟩ rfl rfl dX5_count_3 ?_
  refine a_iloadn (pc := 6) C 1 rfl rfl dX5_count_6 ?_
  rcases (show q = 0 ∨ q = 1 ∨ q = 2 ∨ q = 3 ∨ q = 4 ∨ q = 5 ∨ q = 6 ∨ q = 7 ∨ q = 8 by omega) with rfl | rfl | rfl | rfl | rfl | rfl | rfl | rfl | rfl
  · refine a_table (pc := 7) (tgt := 52) (off := 45) C (by decide +kernel) (by decide +kernel) (by decide +kernel) (by decide) dX5_count_7 ?_
    refine a_aloadn (pc := 52) C 0 rfl rfl dX5_count_52 ?_
    refine a_get (pc := 53) C fl_X5_10 0 rfl rfl dX5_count_53 ?_
    refine a_get (pc := 56) C fl_X5_55 1 rfl rfl dX5_count_56 ?_
    exact a_iret (pc := 59) C E (Nat.le_of_ble_eq_true rfl) (Nat.le_of_ble_eq_true rfl) ⟨rfl, rfl⟩ dX5_count_59
  · refine a_table (pc := 7) (tgt := 60) (off := 53) C (by decide +kernel) (by decide +kernel) (by decide +kernel) (by decide) dX5_count_7 ?_
    refine a_aloadn (pc := 60) C 0 rfl rfl dX5_count_60 ?_
    refine a_get (pc := 61) C fl_X5_19 0 rfl rfl dX5_count_61 ?_
    refine a_get (pc := 64) C fl_X5_77 2 rfl rfl dX5_count_64 ?_
    exact a_iret (pc := 67) C E (Nat.le_of_ble_eq_true rfl) (Nat.le_of_ble_eq_true rfl) ⟨rfl, rfl⟩ dX5_count_67
  · refine a_table (pc := 7) (tgt := 68) (off := 61) C (by decide +kernel) (by decide +kernel) (by decide +kernel) (by decide) dX5_count_7 ?_
    refine a_aloadn (pc := 68) C 0 rfl rfl dX5_count_68 ?_
    refine a_get (pc := 69) C fl_X5_26 0 rfl rfl dX5_count_69 ?_
    refine a_get (pc := 72) C fl_X5_107 3 rfl rfl dX5_count_72 ?_
    refine a_callS1 (pc := 75) (k' := 0) (n' := 0) C (c_J13_bitCount_95d88 κ) yv_J13_bitCount_95d88 ml_X5_111 ws_J13_bitCount_95d88 rfl rfl (Nat.le_of_ble_eq_true rfl) (Nat.le_of_ble_eq_true rfl) (Nat.le_of_ble_eq_true rfl) ⟨(Nat.le_of_ble_eq_true rfl), (Nat.le_of_ble_eq_true rfl)⟩ rfl rfl dX5_count_75 ?_
    exact a_iret (pc := 78) C E (Nat.le_of_ble_eq_true rfl) (Nat.le_of_ble_eq_true rfl) ⟨rfl, rfl⟩ dX5_count_78
  · refine a_table (pc := 7) (tgt := 79) (off := 72) C (by decide +kernel) (by decide +kernel) (by decide +kernel) (by decide) dX5_count_7 ?_
    refine a_aloadn (pc := 79) C 0 rfl rfl dX5_count_79 ?_
    refine a_get (pc := 80) C fl_X5_26 0 rfl rfl dX5_count_80 ?_
    refine a_callV1 (pc := 83) (k' := 0) (n' := 0) C (c_X2_linkCount κ a hm) yv_X2_linkCount ml_X5_117 wi_X2_linkCount wl_X2_linkCount 3 rfl rfl rfl rfl (Nat.le_of_ble_eq_true rfl) (Nat.le_of_ble_eq_true rfl) (Nat.le_of_ble_eq_true rfl) ⟨(Nat.le_of_ble_eq_true rfl), (Nat.le_of_ble_eq_true rfl)⟩ rfl rfl dX5_count_83 ?_
    exact a_iret (pc := 86) C E (Nat.le_of_ble_eq_true rfl) (Nat.le_of_ble_eq_true rfl) ⟨rfl, rfl⟩ dX5_count_86
  · refine a_table (pc := 7) (tgt := 87) (off := 80) C (by decide +kernel) (by decide +kernel) (by decide +kernel) (by decide) dX5_count_7 ?_
    refine a_aloadn (pc := 87) C 0 rfl rfl dX5_count_87 ?_
    refine a_get (pc := 88) C fl_X5_33 0 rfl rfl dX5_count_88 ?_
    refine a_get (pc := 91) C fl_X5_121 4 rfl rfl dX5_count_91 ?_
    exact a_iret (pc := 94) C E (Nat.le_of_ble_eq_true rfl) (Nat.le_of_ble_eq_true rfl) ⟨rfl, rfl⟩ dX5_count_94
  · refine a_table (pc := 7) (tgt := 95) (off := 88) C (by decide +kernel) (by decide +kernel) (by decide +kernel) (by decide) dX5_count_7 ?_
    refine a_aloadn (pc := 95) C 0 rfl rfl dX5_count_95 ?_
    refine a_get (pc := 96) C fl_X5_10 0 rfl rfl dX5_count_96 ?_
    refine a_get (pc := 99) C fl_X5_122 1 rfl rfl dX5_count_99 ?_
    refine a_callS1 (pc := 102) (k' := 0) (n' := 0) C (c_J13_bitCount_95d88 κ) yv_J13_bitCount_95d88 ml_X5_111 ws_J13_bitCount_95d88 rfl rfl (Nat.le_of_ble_eq_true rfl) (Nat.le_of_ble_eq_true rfl) (Nat.le_of_ble_eq_true rfl) ⟨(Nat.le_of_ble_eq_true rfl), (Nat.le_of_ble_eq_true rfl)⟩ rfl rfl dX5_count_102 ?_
    exact a_iret (pc := 105) C E (Nat.le_of_ble_eq_true rfl) (Nat.le_of_ble_eq_true rfl) ⟨rfl, rfl⟩ dX5_count_105
  · refine a_table (pc := 7) (tgt := 106) (off := 99) C (by decide +kernel) (by decide +kernel) (by decide +kernel) (by decide) dX5_count_7 ?_
    refine a_aloadn (pc := 106) C 0 rfl rfl dX5_count_106 ?_
    refine a_callV1 (pc := 107) (k' := 0) (n' := 0) C (c_X5_bodiesInDoubt κ a hn) yv_X5_bodiesInDoubt ml_X5_125 wi_X5_bodiesInDoubt wl_X5_bodiesInDoubt 0 rfl rfl rfl rfl (Nat.le_of_ble_eq_true rfl) (Nat.le_of_ble_eq_true rfl) (Nat.le_of_ble_eq_true rfl) ⟨(Nat.le_of_ble_eq_true rfl), (Nat.le_of_ble_eq_true rfl)⟩ rfl rfl dX5_count_107 ?_
    refine a_callS1 (pc := 110) (k' := 0) (n' := 0) C (c_J13_bitCount_95d88 κ) yv_J13_bitCount_95d88 ml_X5_111 ws_J13_bitCount_95d88 rfl rfl (Nat.le_of_ble_eq_true rfl) (Nat.le_of_ble_eq_true rfl) (Nat.le_of_ble_eq_true rfl) ⟨(Nat.le_of_ble_eq_true rfl), (Nat.le_of_ble_eq_true rfl)⟩ rfl rfl dX5_count_110 ?_
    exact a_iret (pc := 113) C E (Nat.le_of_ble_eq_true rfl) (Nat.le_of_ble_eq_true rfl) ⟨rfl, rfl⟩ dX5_count_113
  · refine a_table (pc := 7) (tgt := 114) (off := 107) C (by decide +kernel) (by decide +kernel) (by decide +kernel) (by decide) dX5_count_7 ?_
    refine a_aloadn (pc := 114) C 0 rfl rfl dX5_count_114 ?_
    refine a_get (pc := 115) C fl_X5_26 0 rfl rfl dX5_count_115 ?_
    refine a_callV1 (pc := 118) (k' := 0) (n' := 0) C (c_X2_levelCount κ a hm) yv_X2_levelCount ml_X5_129 wi_X2_levelCount wl_X2_levelCount 3 rfl rfl rfl rfl (Nat.le_of_ble_eq_true rfl) (Nat.le_of_ble_eq_true rfl) (Nat.le_of_ble_eq_true rfl) ⟨(Nat.le_of_ble_eq_true rfl), (Nat.le_of_ble_eq_true rfl)⟩ rfl rfl dX5_count_118 ?_
    exact a_iret (pc := 121) C E (Nat.le_of_ble_eq_true rfl) (Nat.le_of_ble_eq_true rfl) ⟨rfl, rfl⟩ dX5_count_121
  · refine a_tableD (pc := 7) (tgt := 122) C (by decide +kernel) (by decide) dX5_count_7 ?_
    refine a_aloadn (pc := 122) C 0 rfl rfl dX5_count_122 ?_
    refine a_callV1 (pc := 123) (k' := 0) (n' := 0) C (c_X5_pairsOutOfPhase κ a hn hbo) yv_X5_pairsOutOfPhase ml_X5_132 wi_X5_pairsOutOfPhase wl_X5_pairsOutOfPhase 0 rfl rfl rfl rfl (Nat.le_of_ble_eq_true rfl) (Nat.le_of_ble_eq_true rfl) (Nat.le_of_ble_eq_true rfl) ⟨(Nat.le_of_ble_eq_true rfl), (Nat.le_of_ble_eq_true rfl)⟩ rfl rfl dX5_count_123 ?_
    exact a_iret (pc := 126) C E (Nat.le_of_ble_eq_true rfl) (Nat.le_of_ble_eq_true rfl) ⟨rfl, rfl⟩ dX5_count_126
set_option maxHeartbeats 4000000 in
set_option maxRecDepth 100000 in
theorem c_X5_unit (κ : aK) (a : Nat → Nat) {n : Nat} {dug : Nat → Bool} {dtd : Nat → Bool} {so : Nat → Int32} {ph : Nat → Int32} {uf : Nat → Int32} {ul : Nat → Int32} {r : Nat} {ki : Nat → Int32} {lt : Nat → Nat} {er : Nat → Nat} {mz : Nat} {bd : Nat → Bool} {bo : Nat → Nat} {me : Nat → Nat → Bool} {dE : Nat → Nat → Bool} {eE : Nat → Nat → Bool} {lE : Nat → Nat → Bool} {li : Nat → Nat → Bool} {fB : Nat → Int32} {fA : Nat → Int32} {sL : Nat → Int32} {f : Nat} {fu : Nat → Nat} {fs : Nat → Int32} {ff : Nat → Int32} {fl : Nat → Int32} {xs : Nat → Int32} {ys : Nat → Int32} {zs : Nat → Int32} {oL : Nat → Int32} {oU : Nat → Int32} {lo : Nat → Int32} {up : Nat → Int32} {X : va_W} {j : Nat} {q : Nat} (hn : n ≤ 40) (hf : f ≤ 60) (hbo : ∀ u, bo u < 40) (hfu : ∀ u, fu u < 40) (hj : j < n) (hq : q < 10) : CM yX5_unit cX5_unit 4 (some .int) ({ frames := 7, cells := 0, slots := 0, locals := 131 } : Room) κ [.ref (a 0), .int (nI j), .int (nI q)] (wC κ a n dug dtd so ph uf ul r ki lt er mz bd bo me dE eE lE li fB fA sL f fu fs ff fl xs ys zs oL oU lo up X) (aD (some (.int (utR so ph fB fA bo fu me eE lE dug f j q))) (wC κ a n dug dtd so ph uf ul r ki lt er mz bd bo me dE eE lE li fB fA sL f fu fs ff fl xs ys zs oL oU lo up X)) := by
  refine cm_entry (own := RX5) (L := [(0, .ref (a 0)), (1, .int (nI j)), (2, .int (nI q))]) (by decide +kernel) rfl (lv_entry [.ref (a 0), .int (nI j), .int (nI q)] (n := 4) (Nat.le_of_ble_eq_true rfl)) (fun g C E => ?_)
  refine a_aloadn (pc := 0) C 0 rfl rfl dX5_unit_0 ?_
  refine a_iloadn (pc := 1) C 1 rfl rfl dX5_unit_1 ?_
  refine a_callV0 (pc := 2) (k' := 0) (n' := 0) C (c_X5_requireUnit κ a hn hj) yv_X5_requireUnit ml_X5_73 wi_X5_requireUnit wl_X5_requireUnit 0 rfl rfl rfl rfl (Nat.le_of_ble_eq_true rfl) (Nat.le_of_ble_eq_true rfl) (Nat.le_of_ble_eq_true rfl) ⟨(Nat.le_of_ble_eq_true rfl), (Nat.le_of_ble_eq_true rfl)⟩ rfl rfl dX5_unit_2 ?_
  refine a_iloadn (pc := 5) C 2 rfl rfl dX5_unit_5 ?_
  refine a_bipush (pc := 6) (v := nI 10) C cb_10 dX5_unit_6 ?_
  refine a_callS0 (pc := 8) (k' := 0) (n' := 0) C (c_X5_requireFact κ (by omega) hq) yv_X5_requireFact ml_X5_93 ws_X5_requireFact rfl rfl (Nat.le_of_ble_eq_true rfl) (Nat.le_of_ble_eq_true rfl) (Nat.le_of_ble_eq_true rfl) ⟨(Nat.le_of_ble_eq_true rfl), (Nat.le_of_ble_eq_true rfl)⟩ rfl rfl dX5_unit_8 ?_
  refine a_aloadn (pc := 11) C 0 rfl rfl dX5_unit_11 ?_
  refine a_get (pc := 12) C fl_X5_26 0 rfl rfl dX5_unit_12 ?_
  refine a_get (pc := 15) C fl_X5_135 3 rfl rfl dX5_unit_15 ?_
  refine a_iloadn (pc := 18) C 1 rfl rfl dX5_unit_18 ?_
  refine a_ialdN (pc := 19) C 13 rfl (by omega) (by decide) dX5_unit_19 ?_
  refine a_istoren (pc := 20) (L' := [(0, .ref (a 0)), (1, .int (nI j)), (2, .int (nI q)), (3, .int (nI (bo j)))]) C (by decide) rfl rfl dX5_unit_20 ?_
  refine a_iloadn (pc := 21) C 2 rfl rfl dX5_unit_21 ?_
  rcases (show q = 0 ∨ q = 1 ∨ q = 2 ∨ q = 3 ∨ q = 4 ∨ q = 5 ∨ q = 6 ∨ q = 7 ∨ q = 8 ∨ q = 9 by omega) with rfl | rfl | rfl | rfl | rfl | rfl | rfl | rfl | rfl | rfl
  · refine a_table (pc := 22) (tgt := 72) (off := 50) C (by decide +kernel) (by decide +kernel) (by decide +kernel) (by decide) dX5_unit_22 ?_
    refine a_aloadn (pc := 72) C 0 rfl rfl dX5_unit_72 ?_
    refine a_get (pc := 73) C fl_X5_10 0 rfl rfl dX5_unit_73 ?_
    refine a_get (pc := 76) C fl_X5_138 1 rfl rfl dX5_unit_76 ?_
    refine a_iloadn (pc := 79) C 1 rfl rfl dX5_unit_79 ?_
    refine a_iald (pc := 80) C 6 rfl (by omega) (by decide) dX5_unit_80 ?_
    exact a_iret (pc := 81) C E (Nat.le_of_ble_eq_true rfl) (Nat.le_of_ble_eq_true rfl) ⟨rfl, rfl⟩ dX5_unit_81
  · refine a_table (pc := 22) (tgt := 82) (off := 60) C (by decide +kernel) (by decide +kernel) (by decide +kernel) (by decide) dX5_unit_22 ?_
    refine a_iloadn (pc := 82) C 3 rfl rfl dX5_unit_82 ?_
    exact a_iret (pc := 83) C E (Nat.le_of_ble_eq_true rfl) (Nat.le_of_ble_eq_true rfl) ⟨rfl, rfl⟩ dX5_unit_83
  · refine a_table (pc := 22) (tgt := 84) (off := 62) C (by decide +kernel) (by decide +kernel) (by decide +kernel) (by decide) dX5_unit_22 ?_
    refine a_aloadn (pc := 84) C 0 rfl rfl dX5_unit_84 ?_
    refine a_get (pc := 85) C fl_X5_26 0 rfl rfl dX5_unit_85 ?_
    refine a_get (pc := 88) C fl_X5_141 3 rfl rfl dX5_unit_88 ?_
    refine a_iloadn (pc := 91) C 3 rfl rfl dX5_unit_91 ?_
    refine a_laldS (pc := 92) C 14 rfl (hbo _) (by decide) dX5_unit_92 ?_
    refine a_callS1 (pc := 93) (k' := 0) (n' := 0) C (c_J13_bitCount_95d88 κ) yv_J13_bitCount_95d88 ml_X5_111 ws_J13_bitCount_95d88 rfl rfl (Nat.le_of_ble_eq_true rfl) (Nat.le_of_ble_eq_true rfl) (Nat.le_of_ble_eq_true rfl) ⟨(Nat.le_of_ble_eq_true rfl), (Nat.le_of_ble_eq_true rfl)⟩ rfl rfl dX5_unit_93 ?_
    exact a_iret (pc := 96) C E (Nat.le_of_ble_eq_true rfl) (Nat.le_of_ble_eq_true rfl) ⟨rfl, rfl⟩ dX5_unit_96
  · refine a_table (pc := 22) (tgt := 97) (off := 75) C (by decide +kernel) (by decide +kernel) (by decide +kernel) (by decide) dX5_unit_22 ?_
    refine a_aloadn (pc := 97) C 0 rfl rfl dX5_unit_97 ?_
    refine a_get (pc := 98) C fl_X5_26 0 rfl rfl dX5_unit_98 ?_
    refine a_get (pc := 101) C fl_X5_145 3 rfl rfl dX5_unit_101 ?_
    refine a_iloadn (pc := 104) C 3 rfl rfl dX5_unit_104 ?_
    refine a_iald (pc := 105) C 19 rfl (hbo _) (by decide) dX5_unit_105 ?_
    exact a_iret (pc := 106) C E (Nat.le_of_ble_eq_true rfl) (Nat.le_of_ble_eq_true rfl) ⟨rfl, rfl⟩ dX5_unit_106
  · refine a_table (pc := 22) (tgt := 107) (off := 85) C (by decide +kernel) (by decide +kernel) (by decide +kernel) (by decide) dX5_unit_22 ?_
    refine a_aloadn (pc := 107) C 0 rfl rfl dX5_unit_107 ?_
    refine a_get (pc := 108) C fl_X5_26 0 rfl rfl dX5_unit_108 ?_
    refine a_get (pc := 111) C fl_X5_148 3 rfl rfl dX5_unit_111 ?_
    refine a_iloadn (pc := 114) C 3 rfl rfl dX5_unit_114 ?_
    refine a_iald (pc := 115) C 20 rfl (hbo _) (by decide) dX5_unit_115 ?_
    exact a_iret (pc := 116) C E (Nat.le_of_ble_eq_true rfl) (Nat.le_of_ble_eq_true rfl) ⟨rfl, rfl⟩ dX5_unit_116
  · refine a_table (pc := 22) (tgt := 117) (off := 95) C (by decide +kernel) (by decide +kernel) (by decide +kernel) (by decide) dX5_unit_22 ?_
    refine a_aloadn (pc := 117) C 0 rfl rfl dX5_unit_117 ?_
    refine a_get (pc := 118) C fl_X5_26 0 rfl rfl dX5_unit_118 ?_
    refine a_get (pc := 121) C fl_X5_151 3 rfl rfl dX5_unit_121 ?_
    refine a_iloadn (pc := 124) C 3 rfl rfl dX5_unit_124 ?_
    refine a_laldS (pc := 125) C 16 rfl (hbo _) (by decide) dX5_unit_125 ?_
    refine a_callS1 (pc := 126) (k' := 0) (n' := 0) C (c_J13_bitCount_95d88 κ) yv_J13_bitCount_95d88 ml_X5_111 ws_J13_bitCount_95d88 rfl rfl (Nat.le_of_ble_eq_true rfl) (Nat.le_of_ble_eq_true rfl) (Nat.le_of_ble_eq_true rfl) ⟨(Nat.le_of_ble_eq_true rfl), (Nat.le_of_ble_eq_true rfl)⟩ rfl rfl dX5_unit_126 ?_
    exact a_iret (pc := 129) C E (Nat.le_of_ble_eq_true rfl) (Nat.le_of_ble_eq_true rfl) ⟨rfl, rfl⟩ dX5_unit_129
  · refine a_table (pc := 22) (tgt := 130) (off := 108) C (by decide +kernel) (by decide +kernel) (by decide +kernel) (by decide) dX5_unit_22 ?_
    refine a_aloadn (pc := 130) C 0 rfl rfl dX5_unit_130 ?_
    refine a_get (pc := 131) C fl_X5_26 0 rfl rfl dX5_unit_131 ?_
    refine a_get (pc := 134) C fl_X5_154 3 rfl rfl dX5_unit_134 ?_
    refine a_iloadn (pc := 137) C 3 rfl rfl dX5_unit_137 ?_
    refine a_laldS (pc := 138) C 17 rfl (hbo _) (by decide) dX5_unit_138 ?_
    refine a_callS1 (pc := 139) (k' := 0) (n' := 0) C (c_J13_bitCount_95d88 κ) yv_J13_bitCount_95d88 ml_X5_111 ws_J13_bitCount_95d88 rfl rfl (Nat.le_of_ble_eq_true rfl) (Nat.le_of_ble_eq_true rfl) (Nat.le_of_ble_eq_true rfl) ⟨(Nat.le_of_ble_eq_true rfl), (Nat.le_of_ble_eq_true rfl)⟩ rfl rfl dX5_unit_139 ?_
    exact a_iret (pc := 142) C E (Nat.le_of_ble_eq_true rfl) (Nat.le_of_ble_eq_true rfl) ⟨rfl, rfl⟩ dX5_unit_142
  · refine a_table (pc := 22) (tgt := 143) (off := 121) C (by decide +kernel) (by decide +kernel) (by decide +kernel) (by decide) dX5_unit_22 ?_
    refine a_aloadn (pc := 143) C 0 rfl rfl dX5_unit_143 ?_
    refine a_get (pc := 144) C fl_X5_10 0 rfl rfl dX5_unit_144 ?_
    refine a_get (pc := 147) C fl_X5_122 1 rfl rfl dX5_unit_147 ?_
    refine a_iloadn (pc := 150) C 1 rfl rfl dX5_unit_150 ?_
    refine a_callS1 (pc := 151) (k' := 0) (n' := 0) C (c_X5_has κ (by omega)) yv_X5_has ml_X5_157 ws_X5_has rfl rfl (Nat.le_of_ble_eq_true rfl) (Nat.le_of_ble_eq_true rfl) (Nat.le_of_ble_eq_true rfl) ⟨(Nat.le_of_ble_eq_true rfl), (Nat.le_of_ble_eq_true rfl)⟩ rfl rfl dX5_unit_151 ?_
    refine a_ifb_eq (pc := 154) (tgt := 161) C (by decide) dX5_unit_154 (fun c1 => ?_) (fun c1 => ?_)
    · refine a_iconst (pc := 161) (v := nI 0) C ci_0 dX5_unit_161 ?_
      exact a_iret (pc := 162) C E (Nat.le_of_ble_eq_true rfl) (Nat.le_of_ble_eq_true rfl) ⟨by show some (Value.int (nI 0)) = some (Value.int (b2i (dug j))); rw [c1]; rfl, rfl⟩ dX5_unit_162
    · refine a_iconst (pc := 157) (v := nI 1) C ci_1 dX5_unit_157 ?_
      refine a_goto (pc := 158) (tgt := 162) C (by decide) dX5_unit_158 ?_
      exact a_iret (pc := 162) C E (Nat.le_of_ble_eq_true rfl) (Nat.le_of_ble_eq_true rfl) ⟨by show some (Value.int (nI 1)) = some (Value.int (b2i (dug j))); rw [c1]; rfl, rfl⟩ dX5_unit_162
  · refine a_table (pc := 22) (tgt := 163) (off := 141) C (by decide +kernel) (by decide +kernel) (by decide +kernel) (by decide) dX5_unit_22 ?_
    refine a_aloadn (pc := 163) C 0 rfl rfl dX5_unit_163 ?_
    refine a_get (pc := 164) C fl_X5_10 0 rfl rfl dX5_unit_164 ?_
    refine a_get (pc := 167) C fl_X5_161 1 rfl rfl dX5_unit_167 ?_
    refine a_iloadn (pc := 170) C 1 rfl rfl dX5_unit_170 ?_
    refine a_iald (pc := 171) C 7 rfl (by omega) (by decide) dX5_unit_171 ?_
    exact a_iret (pc := 172) C E (Nat.le_of_ble_eq_true rfl) (Nat.le_of_ble_eq_true rfl) ⟨rfl, rfl⟩ dX5_unit_172
  · refine a_tableD (pc := 22) (tgt := 173) C (by decide +kernel) (by decide) dX5_unit_22 ?_
    refine a_aloadn (pc := 173) C 0 rfl rfl dX5_unit_173 ?_
    refine a_get (pc := 174) C fl_X5_33 0 rfl rfl dX5_unit_174 ?_
    refine a_iloadn (pc := 177) C 1 rfl rfl dX5_unit_177 ?_
    refine a_callV1 (pc := 178) (k' := 0) (n' := 0) C (c_X1_countIn κ a hf hfu (by omega)) yv_X1_countIn ml_X5_164 wi_X1_countIn wl_X1_countIn 4 rfl rfl rfl rfl (Nat.le_of_ble_eq_true rfl) (Nat.le_of_ble_eq_true rfl) (Nat.le_of_ble_eq_true rfl) ⟨(Nat.le_of_ble_eq_true rfl), (Nat.le_of_ble_eq_true rfl)⟩ rfl rfl dX5_unit_178 ?_
    exact a_iret (pc := 181) C E (Nat.le_of_ble_eq_true rfl) (Nat.le_of_ble_eq_true rfl) ⟨rfl, rfl⟩ dX5_unit_181
set_option maxHeartbeats 4000000 in
set_option maxRecDepth 100000 in
theorem c_X5_order (κ : aK) (a : Nat → Nat) {n : Nat} {dug : Nat → Bool} {dtd : Nat → Bool} {so : Nat → Int32} {ph : Nat → Int32} {uf : Nat → Int32} {ul : Nat → Int32} {r : Nat} {ki : Nat → Int32} {lt : Nat → Nat} {er : Nat → Nat} {mz : Nat} {bd : Nat → Bool} {bo : Nat → Nat} {me : Nat → Nat → Bool} {dE : Nat → Nat → Bool} {eE : Nat → Nat → Bool} {lE : Nat → Nat → Bool} {li : Nat → Nat → Bool} {fB : Nat → Int32} {fA : Nat → Int32} {sL : Nat → Int32} {f : Nat} {fu : Nat → Nat} {fs : Nat → Int32} {ff : Nat → Int32} {fl : Nat → Int32} {xs : Nat → Int32} {ys : Nat → Int32} {zs : Nat → Int32} {oL : Nat → Int32} {oU : Nat → Int32} {lo : Nat → Int32} {up : Nat → Int32} {X : va_W} {x : Nat} {y : Nat} (hn : n ≤ 40) (hbo : ∀ u, bo u < 40) (hx : x < n) (hy : y < n) : CM yX5_order cX5_order 3 (some .int) ({ frames := 7, cells := 0, slots := 0, locals := 131 } : Room) κ [.ref (a 0), .int (nI x), .int (nI y)] (wC κ a n dug dtd so ph uf ul r ki lt er mz bd bo me dE eE lE li fB fA sL f fu fs ff fl xs ys zs oL oU lo up X) (aD (some (.int (odR bo eE x y))) (wC κ a n dug dtd so ph uf ul r ki lt er mz bd bo me dE eE lE li fB fA sL f fu fs ff fl xs ys zs oL oU lo up X)) := by
  refine cm_entry (own := RX5) (L := [(0, .ref (a 0)), (1, .int (nI x)), (2, .int (nI y))]) (by decide +kernel) rfl (lv_entry [.ref (a 0), .int (nI x), .int (nI y)] (n := 3) (Nat.le_of_ble_eq_true rfl)) (fun g C E => ?_)
  refine a_aloadn (pc := 0) C 0 rfl rfl dX5_order_0 ?_
  refine a_iloadn (pc := 1) C 1 rfl rfl dX5_order_1 ?_
  refine a_callV0 (pc := 2) (k' := 0) (n' := 0) C (c_X5_requireUnit κ a hn (by omega)) yv_X5_requireUnit ml_X5_73 wi_X5_requireUnit wl_X5_requireUnit 0 rfl rfl rfl rfl (Nat.le_of_ble_eq_true rfl) (Nat.le_of_ble_eq_true rfl) (Nat.le_of_ble_eq_true rfl) ⟨(Nat.le_of_ble_eq_true rfl), (Nat.le_of_ble_eq_true rfl)⟩ rfl rfl dX5_order_2 ?_
  refine a_aloadn (pc := 5) C 0 rfl rfl dX5_order_5 ?_
  refine a_iloadn (pc := 6) C 2 rfl rfl dX5_order_6 ?_
  refine a_callV0 (pc := 7) (k' := 0) (n' := 0) C (c_X5_requireUnit κ a hn (by omega)) yv_X5_requireUnit ml_X5_73 wi_X5_requireUnit wl_X5_requireUnit 0 rfl rfl rfl rfl (Nat.le_of_ble_eq_true rfl) (Nat.le_of_ble_eq_true rfl) (Nat.le_of_ble_eq_true rfl) ⟨(Nat.le_of_ble_eq_true rfl), (Nat.le_of_ble_eq_true rfl)⟩ rfl rfl dX5_order_7 ?_
  refine a_aloadn (pc := 10) C 0 rfl rfl dX5_order_10 ?_
  refine a_get (pc := 11) C fl_X5_26 0 rfl rfl dX5_order_11 ?_
  refine a_iloadn (pc := 14) C 1 rfl rfl dX5_order_14 ?_
  refine a_iloadn (pc := 15) C 2 rfl rfl dX5_order_15 ?_
  refine a_callV1 (pc := 16) (k' := 0) (n' := 0) C (c_X2_isSameBody κ a (by omega) (by omega) hbo) yv_X2_isSameBody ml_X5_167 wi_X2_isSameBody wl_X2_isSameBody 3 rfl rfl rfl rfl (Nat.le_of_ble_eq_true rfl) (Nat.le_of_ble_eq_true rfl) (Nat.le_of_ble_eq_true rfl) ⟨(Nat.le_of_ble_eq_true rfl), (Nat.le_of_ble_eq_true rfl)⟩ rfl rfl dX5_order_16 ?_
  refine a_ifb_eq (pc := 19) (tgt := 24) C (by decide) dX5_order_19 (fun c1 => ?_) (fun c1 => ?_)
  · refine a_aloadn (pc := 24) C 0 rfl rfl dX5_order_24 ?_
    refine a_get (pc := 25) C fl_X5_26 0 rfl rfl dX5_order_25 ?_
    refine a_iloadn (pc := 28) C 1 rfl rfl dX5_order_28 ?_
    refine a_iloadn (pc := 29) C 2 rfl rfl dX5_order_29 ?_
    refine a_callV1 (pc := 30) (k' := 0) (n' := 0) C (c_X2_isLater κ a (by omega) (by omega) hbo) yv_X2_isLater ml_X5_171 wi_X2_isLater wl_X2_isLater 3 rfl rfl rfl rfl (Nat.le_of_ble_eq_true rfl) (Nat.le_of_ble_eq_true rfl) (Nat.le_of_ble_eq_true rfl) ⟨(Nat.le_of_ble_eq_true rfl), (Nat.le_of_ble_eq_true rfl)⟩ rfl rfl dX5_order_30 ?_
    refine a_ifb_eq (pc := 33) (tgt := 38) C (by decide) dX5_order_33 (fun c2 => ?_) (fun c2 => ?_)
    · refine a_aloadn (pc := 38) C 0 rfl rfl dX5_order_38 ?_
      refine a_get (pc := 39) C fl_X5_26 0 rfl rfl dX5_order_39 ?_
      refine a_iloadn (pc := 42) C 2 rfl rfl dX5_order_42 ?_
      refine a_iloadn (pc := 43) C 1 rfl rfl dX5_order_43 ?_
      refine a_callV1 (pc := 44) (k' := 0) (n' := 0) C (c_X2_isLater κ a (by omega) (by omega) hbo) yv_X2_isLater ml_X5_171 wi_X2_isLater wl_X2_isLater 3 rfl rfl rfl rfl (Nat.le_of_ble_eq_true rfl) (Nat.le_of_ble_eq_true rfl) (Nat.le_of_ble_eq_true rfl) ⟨(Nat.le_of_ble_eq_true rfl), (Nat.le_of_ble_eq_true rfl)⟩ rfl rfl dX5_order_44 ?_
      refine a_ifb_eq (pc := 47) (tgt := 54) C (by decide) dX5_order_47 (fun c3 => ?_) (fun c3 => ?_)
      · refine a_iconst (pc := 54) (v := nI 2) C ci_2 dX5_order_54 ?_
        exact a_iret (pc := 55) C E (Nat.le_of_ble_eq_true rfl) (Nat.le_of_ble_eq_true rfl) ⟨by rw [odR_2 (of_decide_eq_false c1) c2 c3], rfl⟩ dX5_order_55
      · refine a_iconst (pc := 50) (v := (-1 : Int32)) C ci_m1 dX5_order_50 ?_
        refine a_goto (pc := 51) (tgt := 55) C (by decide) dX5_order_51 ?_
        exact a_iret (pc := 55) C E (Nat.le_of_ble_eq_true rfl) (Nat.le_of_ble_eq_true rfl) ⟨by rw [odR_m (of_decide_eq_false c1) c2 c3], rfl⟩ dX5_order_55
    · refine a_iconst (pc := 36) (v := nI 1) C ci_1 dX5_order_36 ?_
      exact a_iret (pc := 37) C E (Nat.le_of_ble_eq_true rfl) (Nat.le_of_ble_eq_true rfl) ⟨by rw [odR_1 (of_decide_eq_false c1) c2], rfl⟩ dX5_order_37
  · refine a_iconst (pc := 22) (v := nI 0) C ci_0 dX5_order_22 ?_
    exact a_iret (pc := 23) C E (Nat.le_of_ble_eq_true rfl) (Nat.le_of_ble_eq_true rfl) ⟨by rw [odR_0 (of_decide_eq_true c1)], rfl⟩ dX5_order_23
set_option maxHeartbeats 4000000 in
set_option maxRecDepth 100000 in
theorem c_X5_isLinked (κ : aK) (a : Nat → Nat) {n : Nat} {dug : Nat → Bool} {dtd : Nat → Bool} {so : Nat → Int32} {ph : Nat → Int32} {uf : Nat → Int32} {ul : Nat → Int32} {r : Nat} {ki : Nat → Int32} {lt : Nat → Nat} {er : Nat → Nat} {mz : Nat} {bd : Nat → Bool} {bo : Nat → Nat} {me : Nat → Nat → Bool} {dE : Nat → Nat → Bool} {eE : Nat → Nat → Bool} {lE : Nat → Nat → Bool} {li : Nat → Nat → Bool} {fB : Nat → Int32} {fA : Nat → Int32} {sL : Nat → Int32} {f : Nat} {fu : Nat → Nat} {fs : Nat → Int32} {ff : Nat → Int32} {fl : Nat → Int32} {xs : Nat → Int32} {ys : Nat → Int32} {zs : Nat → Int32} {oL : Nat → Int32} {oU : Nat → Int32} {lo : Nat → Int32} {up : Nat → Int32} {X : va_W} {x : Nat} {y : Nat} (hn : n ≤ 40) (hbo : ∀ u, bo u < 40) (hx : x < n) (hy : y < n) : CM yX5_isLinked cX5_isLinked 3 (some .boolean) ({ frames := 7, cells := 0, slots := 0, locals := 131 } : Room) κ [.ref (a 0), .int (nI x), .int (nI y)] (wC κ a n dug dtd so ph uf ul r ki lt er mz bd bo me dE eE lE li fB fA sL f fu fs ff fl xs ys zs oL oU lo up X) (aD (some (.int (b2i (li (bo x) (bo y))))) (wC κ a n dug dtd so ph uf ul r ki lt er mz bd bo me dE eE lE li fB fA sL f fu fs ff fl xs ys zs oL oU lo up X)) := by
  refine cm_entry (own := RX5) (L := [(0, .ref (a 0)), (1, .int (nI x)), (2, .int (nI y))]) (by decide +kernel) rfl (lv_entry [.ref (a 0), .int (nI x), .int (nI y)] (n := 3) (Nat.le_of_ble_eq_true rfl)) (fun g C E => ?_)
  refine a_aloadn (pc := 0) C 0 rfl rfl dX5_isLinked_0 ?_
  refine a_iloadn (pc := 1) C 1 rfl rfl dX5_isLinked_1 ?_
  refine a_callV0 (pc := 2) (k' := 0) (n' := 0) C (c_X5_requireUnit κ a hn (by omega)) yv_X5_requireUnit ml_X5_73 wi_X5_requireUnit wl_X5_requireUnit 0 rfl rfl rfl rfl (Nat.le_of_ble_eq_true rfl) (Nat.le_of_ble_eq_true rfl) (Nat.le_of_ble_eq_true rfl) ⟨(Nat.le_of_ble_eq_true rfl), (Nat.le_of_ble_eq_true rfl)⟩ rfl rfl dX5_isLinked_2 ?_
  refine a_aloadn (pc := 5) C 0 rfl rfl dX5_isLinked_5 ?_
  refine a_iloadn (pc := 6) C 2 rfl rfl dX5_isLinked_6 ?_
  refine a_callV0 (pc := 7) (k' := 0) (n' := 0) C (c_X5_requireUnit κ a hn (by omega)) yv_X5_requireUnit ml_X5_73 wi_X5_requireUnit wl_X5_requireUnit 0 rfl rfl rfl rfl (Nat.le_of_ble_eq_true rfl) (Nat.le_of_ble_eq_true rfl) (Nat.le_of_ble_eq_true rfl) ⟨(Nat.le_of_ble_eq_true rfl), (Nat.le_of_ble_eq_true rfl)⟩ rfl rfl dX5_isLinked_7 ?_
  refine a_aloadn (pc := 10) C 0 rfl rfl dX5_isLinked_10 ?_
  refine a_get (pc := 11) C fl_X5_26 0 rfl rfl dX5_isLinked_11 ?_
  refine a_get (pc := 14) C fl_X5_174 3 rfl rfl dX5_isLinked_14 ?_
  refine a_aloadn (pc := 17) C 0 rfl rfl dX5_isLinked_17 ?_
  refine a_get (pc := 18) C fl_X5_26 0 rfl rfl dX5_isLinked_18 ?_
  refine a_get (pc := 21) C fl_X5_135 3 rfl rfl dX5_isLinked_21 ?_
  refine a_iloadn (pc := 24) C 1 rfl rfl dX5_isLinked_24 ?_
  refine a_ialdN (pc := 25) C 13 rfl (by omega) (by decide) dX5_isLinked_25 ?_
  refine a_laldS (pc := 26) C 18 rfl (hbo _) (by decide) dX5_isLinked_26 ?_
  refine a_aloadn (pc := 27) C 0 rfl rfl dX5_isLinked_27 ?_
  refine a_get (pc := 28) C fl_X5_26 0 rfl rfl dX5_isLinked_28 ?_
  refine a_get (pc := 31) C fl_X5_135 3 rfl rfl dX5_isLinked_31 ?_
  refine a_iloadn (pc := 34) C 2 rfl rfl dX5_isLinked_34 ?_
  refine a_ialdN (pc := 35) C 13 rfl (by omega) (by decide) dX5_isLinked_35 ?_
  refine a_callS1 (pc := 36) (k' := 0) (n' := 0) C (c_X5_has κ (Nat.lt_trans (hbo _) (by decide))) yv_X5_has ml_X5_157 ws_X5_has rfl rfl (Nat.le_of_ble_eq_true rfl) (Nat.le_of_ble_eq_true rfl) (Nat.le_of_ble_eq_true rfl) ⟨(Nat.le_of_ble_eq_true rfl), (Nat.le_of_ble_eq_true rfl)⟩ rfl rfl dX5_isLinked_36 ?_
  exact a_zret (pc := 39) (b := (li (bo x)) (bo y)) C E (Nat.le_of_ble_eq_true rfl) (Nat.le_of_ble_eq_true rfl) rfl ⟨rfl, rfl⟩ dX5_isLinked_39
set_option maxHeartbeats 4000000 in
set_option maxRecDepth 100000 in
theorem c_X5_between (κ : aK) (a : Nat → Nat) {n : Nat} {dug : Nat → Bool} {dtd : Nat → Bool} {so : Nat → Int32} {ph : Nat → Int32} {uf : Nat → Int32} {ul : Nat → Int32} {r : Nat} {ki : Nat → Int32} {lt : Nat → Nat} {er : Nat → Nat} {mz : Nat} {bd : Nat → Bool} {bo : Nat → Nat} {me : Nat → Nat → Bool} {dE : Nat → Nat → Bool} {eE : Nat → Nat → Bool} {lE : Nat → Nat → Bool} {li : Nat → Nat → Bool} {fB : Nat → Int32} {fA : Nat → Int32} {sL : Nat → Int32} {f : Nat} {fu : Nat → Nat} {fs : Nat → Int32} {ff : Nat → Int32} {fl : Nat → Int32} {xs : Nat → Int32} {ys : Nat → Int32} {zs : Nat → Int32} {oL : Nat → Int32} {oU : Nat → Int32} {lo : Nat → Int32} {up : Nat → Int32} {X : va_W} {x : Nat} {y : Nat} (hn : n ≤ 40) (hbo : ∀ u, bo u < 40) (hx : x < n) (hy : y < n) : CM yX5_between cX5_between 3 (some .int) ({ frames := 7, cells := 0, slots := 0, locals := 131 } : Room) κ [.ref (a 0), .int (nI x), .int (nI y)] (wC κ a n dug dtd so ph uf ul r ki lt er mz bd bo me dE eE lE li fB fA sL f fu fs ff fl xs ys zs oL oU lo up X) (aD (some (.int (bcI (bs (fun i => eE (bo x) i && lE (bo y) i))))) (wC κ a n dug dtd so ph uf ul r ki lt er mz bd bo me dE eE lE li fB fA sL f fu fs ff fl xs ys zs oL oU lo up X)) := by
  refine cm_entry (own := RX5) (L := [(0, .ref (a 0)), (1, .int (nI x)), (2, .int (nI y))]) (by decide +kernel) rfl (lv_entry [.ref (a 0), .int (nI x), .int (nI y)] (n := 3) (Nat.le_of_ble_eq_true rfl)) (fun g C E => ?_)
  refine a_aloadn (pc := 0) C 0 rfl rfl dX5_between_0 ?_
  refine a_iloadn (pc := 1) C 1 rfl rfl dX5_between_1 ?_
  refine a_callV0 (pc := 2) (k' := 0) (n' := 0) C (c_X5_requireUnit κ a hn (by omega)) yv_X5_requireUnit ml_X5_73 wi_X5_requireUnit wl_X5_requireUnit 0 rfl rfl rfl rfl (Nat.le_of_ble_eq_true rfl) (Nat.le_of_ble_eq_true rfl) (Nat.le_of_ble_eq_true rfl) ⟨(Nat.le_of_ble_eq_true rfl), (Nat.le_of_ble_eq_true rfl)⟩ rfl rfl dX5_between_2 ?_
  refine a_aloadn (pc := 5) C 0 rfl rfl dX5_between_5 ?_
  refine a_iloadn (pc := 6) C 2 rfl rfl dX5_between_6 ?_
  refine a_callV0 (pc := 7) (k' := 0) (n' := 0) C (c_X5_requireUnit κ a hn (by omega)) yv_X5_requireUnit ml_X5_73 wi_X5_requireUnit wl_X5_requireUnit 0 rfl rfl rfl rfl (Nat.le_of_ble_eq_true rfl) (Nat.le_of_ble_eq_true rfl) (Nat.le_of_ble_eq_true rfl) ⟨(Nat.le_of_ble_eq_true rfl), (Nat.le_of_ble_eq_true rfl)⟩ rfl rfl dX5_between_7 ?_
  refine a_aloadn (pc := 10) C 0 rfl rfl dX5_between_10 ?_
  refine a_get (pc := 11) C fl_X5_26 0 rfl rfl dX5_between_11 ?_
  refine a_get (pc := 14) C fl_X5_151 3 rfl rfl dX5_between_14 ?_
  refine a_aloadn (pc := 17) C 0 rfl rfl dX5_between_17 ?_
  refine a_get (pc := 18) C fl_X5_26 0 rfl rfl dX5_between_18 ?_
  refine a_get (pc := 21) C fl_X5_135 3 rfl rfl dX5_between_21 ?_
  refine a_iloadn (pc := 24) C 1 rfl rfl dX5_between_24 ?_
  refine a_ialdN (pc := 25) C 13 rfl (by omega) (by decide) dX5_between_25 ?_
  refine a_laldS (pc := 26) C 16 rfl (hbo _) (by decide) dX5_between_26 ?_
  refine a_aloadn (pc := 27) C 0 rfl rfl dX5_between_27 ?_
  refine a_get (pc := 28) C fl_X5_26 0 rfl rfl dX5_between_28 ?_
  refine a_get (pc := 31) C fl_X5_154 3 rfl rfl dX5_between_31 ?_
  refine a_aloadn (pc := 34) C 0 rfl rfl dX5_between_34 ?_
  refine a_get (pc := 35) C fl_X5_26 0 rfl rfl dX5_between_35 ?_
  refine a_get (pc := 38) C fl_X5_135 3 rfl rfl dX5_between_38 ?_
  refine a_iloadn (pc := 41) C 2 rfl rfl dX5_between_41 ?_
  refine a_ialdN (pc := 42) C 13 rfl (by omega) (by decide) dX5_between_42 ?_
  refine a_laldS (pc := 43) C 17 rfl (hbo _) (by decide) dX5_between_43 ?_
  refine a_land (pc := 44) (v := bs (fun i => (eE (bo x)) i && (lE (bo y)) i)) C (bs_and _ _) dX5_between_44 ?_
  refine a_callS1 (pc := 45) (k' := 0) (n' := 0) C (c_J13_bitCount_95d88 κ) yv_J13_bitCount_95d88 ml_X5_111 ws_J13_bitCount_95d88 rfl rfl (Nat.le_of_ble_eq_true rfl) (Nat.le_of_ble_eq_true rfl) (Nat.le_of_ble_eq_true rfl) ⟨(Nat.le_of_ble_eq_true rfl), (Nat.le_of_ble_eq_true rfl)⟩ rfl rfl dX5_between_45 ?_
  exact a_iret (pc := 48) C E (Nat.le_of_ble_eq_true rfl) (Nat.le_of_ble_eq_true rfl) ⟨rfl, rfl⟩ dX5_between_48
set_option maxHeartbeats 4000000 in
set_option maxRecDepth 100000 in
theorem c_X5_way (κ : aK) (a : Nat → Nat) {n : Nat} {dug : Nat → Bool} {dtd : Nat → Bool} {so : Nat → Int32} {ph : Nat → Int32} {uf : Nat → Int32} {ul : Nat → Int32} {r : Nat} {ki : Nat → Int32} {lt : Nat → Nat} {er : Nat → Nat} {mz : Nat} {bd : Nat → Bool} {bo : Nat → Nat} {me : Nat → Nat → Bool} {dE : Nat → Nat → Bool} {eE : Nat → Nat → Bool} {lE : Nat → Nat → Bool} {li : Nat → Nat → Bool} {fB : Nat → Int32} {fA : Nat → Int32} {sL : Nat → Int32} {f : Nat} {fu : Nat → Nat} {fs : Nat → Int32} {ff : Nat → Int32} {fl : Nat → Int32} {xs : Nat → Int32} {ys : Nat → Int32} {zs : Nat → Int32} {oL : Nat → Int32} {oU : Nat → Int32} {lo : Nat → Int32} {up : Nat → Int32} {X : va_W} {x : Nat} {y : Nat} {z : Nat} (hn : n ≤ 40) (hm : mz ≤ 40) (hbo : ∀ u, bo u < 40) (hx : x < n) (hy : y < n) (hz : z < 40) : CM yX5_way cX5_way 4 (some .int) ({ frames := 7, cells := 0, slots := 0, locals := 131 } : Room) κ [.ref (a 0), .int (nI x), .int (nI y), .int (nI z)] (wC κ a n dug dtd so ph uf ul r ki lt er mz bd bo me dE eE lE li fB fA sL f fu fs ff fl xs ys zs oL oU lo up X) (aD (some (.int (oI (wyR mz li eE lE sL (bo x) (bo y) z)))) (wC κ a n dug dtd so ph uf ul r ki lt er mz bd bo me dE eE lE li fB fA (wyL mz eE lE sL (bo x) (bo y)) f fu fs ff fl xs ys zs oL oU lo up X)) := by
  refine cm_entry (own := RX5) (L := [(0, .ref (a 0)), (1, .int (nI x)), (2, .int (nI y)), (3, .int (nI z))]) (by decide +kernel) rfl (lv_entry [.ref (a 0), .int (nI x), .int (nI y), .int (nI z)] (n := 4) (Nat.le_of_ble_eq_true rfl)) (fun g C E => ?_)
  refine a_aloadn (pc := 0) C 0 rfl rfl dX5_way_0 ?_
  refine a_iloadn (pc := 1) C 1 rfl rfl dX5_way_1 ?_
  refine a_callV0 (pc := 2) (k' := 0) (n' := 0) C (c_X5_requireUnit κ a hn (by omega)) yv_X5_requireUnit ml_X5_73 wi_X5_requireUnit wl_X5_requireUnit 0 rfl rfl rfl rfl (Nat.le_of_ble_eq_true rfl) (Nat.le_of_ble_eq_true rfl) (Nat.le_of_ble_eq_true rfl) ⟨(Nat.le_of_ble_eq_true rfl), (Nat.le_of_ble_eq_true rfl)⟩ rfl rfl dX5_way_2 ?_
  refine a_aloadn (pc := 5) C 0 rfl rfl dX5_way_5 ?_
  refine a_iloadn (pc := 6) C 2 rfl rfl dX5_way_6 ?_
  refine a_callV0 (pc := 7) (k' := 0) (n' := 0) C (c_X5_requireUnit κ a hn (by omega)) yv_X5_requireUnit ml_X5_73 wi_X5_requireUnit wl_X5_requireUnit 0 rfl rfl rfl rfl (Nat.le_of_ble_eq_true rfl) (Nat.le_of_ble_eq_true rfl) (Nat.le_of_ble_eq_true rfl) ⟨(Nat.le_of_ble_eq_true rfl), (Nat.le_of_ble_eq_true rfl)⟩ rfl rfl dX5_way_7 ?_
  refine a_iloadn (pc := 10) C 3 rfl rfl dX5_way_10 ?_
  refine a_iconst (pc := 11) (v := nI 0) C ci_0 dX5_way_11 ?_
  refine a_bipush (pc := 12) (v := nI 39) C cb_39 dX5_way_12 ?_
  refine a_callS1 (pc := 14) (k' := 0) (n' := 0) C (c_X5_isWithin κ) yv_X5_isWithin ml_X5_44 ws_X5_isWithin rfl rfl (Nat.le_of_ble_eq_true rfl) (Nat.le_of_ble_eq_true rfl) (Nat.le_of_ble_eq_true rfl) ⟨(Nat.le_of_ble_eq_true rfl), (Nat.le_of_ble_eq_true rfl)⟩ rfl rfl dX5_way_14 ?_
  refine a_ifb_ne_y (pc := 17) (tgt := 30) C ((okU_c (by omega)).mpr (okU_j hz)) (by decide) dX5_way_17 ?_
  refine a_aloadn (pc := 30) C 0 rfl rfl dX5_way_30 ?_
  refine a_get (pc := 31) C fl_X5_26 0 rfl rfl dX5_way_31 ?_
  refine a_aloadn (pc := 34) C 0 rfl rfl dX5_way_34 ?_
  refine a_get (pc := 35) C fl_X5_26 0 rfl rfl dX5_way_35 ?_
  refine a_get (pc := 38) C fl_X5_135 3 rfl rfl dX5_way_38 ?_
  refine a_iloadn (pc := 41) C 1 rfl rfl dX5_way_41 ?_
  refine a_ialdN (pc := 42) C 13 rfl (by omega) (by decide) dX5_way_42 ?_
  refine a_aloadn (pc := 43) C 0 rfl rfl dX5_way_43 ?_
  refine a_get (pc := 44) C fl_X5_26 0 rfl rfl dX5_way_44 ?_
  refine a_get (pc := 47) C fl_X5_135 3 rfl rfl dX5_way_47 ?_
  refine a_iloadn (pc := 50) C 2 rfl rfl dX5_way_50 ?_
  refine a_ialdN (pc := 51) C 13 rfl (by omega) (by decide) dX5_way_51 ?_
  refine a_iloadn (pc := 52) C 3 rfl rfl dX5_way_52 ?_
  refine a_callV1 (pc := 53) (k' := 0) (n' := 0) C (c_X2_bodyOnWay κ a hm (hbo _) (hbo _) hz) yv_X2_bodyOnWay ml_X5_190 wi_X2_bodyOnWay wl_X2_bodyOnWay 3 rfl rfl rfl rfl (Nat.le_of_ble_eq_true rfl) (Nat.le_of_ble_eq_true rfl) (Nat.le_of_ble_eq_true rfl) ⟨(Nat.le_of_ble_eq_true rfl), (Nat.le_of_ble_eq_true rfl)⟩ rfl rfl dX5_way_53 ?_
  exact a_iret (pc := 56) C E (Nat.le_of_ble_eq_true rfl) (Nat.le_of_ble_eq_true rfl) ⟨rfl, rfl⟩ dX5_way_56
