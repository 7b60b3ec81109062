set_option maxHeartbeats 4000000 in
set_option maxRecDepth 100000 in
theorem c_X5_addFind (κ : aK) (a : Nat → Nat) {n : Nat} {dug : Nat → Bool} {dtd : Nat → Bool} {so : Nat → Int32} {ph : Nat → Int32} {uf : Nat → Int32} {ul : Nat → Int32} {r : Nat} {ki : Nat → Int32} {lt : Nat → Nat} {er : Nat → Nat} {mz : Nat} {bd : Nat → Bool} {bo : Nat → Nat} {me : Nat → Nat → Bool} {dE : Nat → Nat → Bool} {eE : Nat → Nat → Bool} {lE : Nat → Nat → Bool} {li : Nat → Nat → Bool} {fB : Nat → Int32} {fA : Nat → Int32} {sL : Nat → Int32} {f : Nat} {fu : Nat → Nat} {fs : Nat → Int32} {ff : Nat → Int32} {fl : Nat → Int32} {xs : Nat → Int32} {ys : Nat → Int32} {zs : Nat → Int32} {oL : Nat → Int32} {oU : Nat → Int32} {lo : Nat → Int32} {up : Nat → Int32} {X : va_W} {u : Nat} {s0 : Int32} {a1 : Int32} {b1 : Int32} (hn : n ≤ 40) (hbo : ∀ u, bo u < 40) (hfu : ∀ u, fu u < 40) (hu : u < n) (hs : okU 10 s0) (h1 : yrB a1 = true) (h2 : yrB b1 = true) (h3 : a1 ≤ b1) (hf : f < 60) : CM yX5_addFind cX5_addFind 6 (some .int) ({ frames := 7, cells := 0, slots := 0, locals := 131 } : Room) κ [.ref (a 0), .int (nI u), .int s0, .int a1, .int b1] (wC κ a n dug dtd so ph uf ul r ki lt er mz bd bo me dE eE lE li fB fA sL f fu fs ff fl xs ys zs oL oU lo up X) (aD (some (.int (nI f))) (wC κ a n dug dtd so ph uf ul r ki lt er mz bd bo me dE eE lE li fB fA sL (f + 1) (va_up fu f u) (va_up fs f s0) (va_up ff f a1) (va_up fl f b1) xs ys zs (nOL dtd uf bo (va_up fu f u) (va_up ff f a1) oL n (f + 1)) (nOU dtd ul bo oU n) (nLo (nOL dtd uf bo (va_up fu f u) (va_up ff f a1) oL n (f + 1)) eE lo n) (nUp (nOU dtd ul bo oU n) lE up n) X)) := by
  refine cm_entry (own := RX5) (L := [(0, .ref (a 0)), (1, .int (nI u)), (2, .int s0), (3, .int a1), (4, .int b1)]) (by decide +kernel) rfl (lv_entry [.ref (a 0), .int (nI u), .int s0, .int a1, .int b1] (n := 6) (Nat.le_of_ble_eq_true rfl)) (fun g C E => ?_)
  refine a_aloadn (pc := 0) C 0 rfl rfl dX5_addFind_0 ?_
  refine a_iloadn (pc := 1) C 1 rfl rfl dX5_addFind_1 ?_
  refine a_callV0 (pc := 2) (k' := 0) (n' := 0) C (c_X5_requireUnit κ a hn hu) yv_X5_requireUnit ml_X5_73 wi_X5_requireUnit wl_X5_requireUnit 0 rfl rfl rfl rfl (Nat.le_of_ble_eq_true rfl) (Nat.le_of_ble_eq_true rfl) (Nat.le_of_ble_eq_true rfl) ⟨(Nat.le_of_ble_eq_true rfl), (Nat.le_of_ble_eq_true rfl)⟩ rfl rfl dX5_addFind_2 ?_
  refine a_iloadn (pc := 5) C 2 rfl rfl dX5_addFind_5 ?_
  refine a_iconst (pc := 6) (v := nI 0) C ci_0 dX5_addFind_6 ?_
  refine a_bipush (pc := 7) (v := nI 9) C cb_9 dX5_addFind_7 ?_
  refine a_callS1 (pc := 9) (k' := 0) (n' := 0) C (c_X5_isWithin κ) yv_X5_isWithin ml_X5_44 ws_X5_isWithin rfl rfl (Nat.le_of_ble_eq_true rfl) (Nat.le_of_ble_eq_true rfl) (Nat.le_of_ble_eq_true rfl) ⟨(Nat.le_of_ble_eq_true rfl), (Nat.le_of_ble_eq_true rfl)⟩ rfl rfl dX5_addFind_9 ?_
  refine a_ifb_ne_y (pc := 12) (tgt := 25) C ((okU_c (by omega)).mpr hs) (by decide) dX5_addFind_12 ?_
  refine a_iloadn (pc := 25) C 3 rfl rfl dX5_addFind_25 ?_
  refine a_iload (pc := 26) C 4 rfl dX5_addFind_26 ?_
  refine a_callS0 (pc := 28) (k' := 0) (n' := 0) C (c_X5_requireYears κ h1 h2) yv_X5_requireYears ml_X5_195 ws_X5_requireYears rfl rfl (Nat.le_of_ble_eq_true rfl) (Nat.le_of_ble_eq_true rfl) (Nat.le_of_ble_eq_true rfl) ⟨(Nat.le_of_ble_eq_true rfl), (Nat.le_of_ble_eq_true rfl)⟩ rfl rfl dX5_addFind_28 ?_
  refine a_iloadn (pc := 31) C 3 rfl rfl dX5_addFind_31 ?_
  refine a_iload (pc := 32) C 4 rfl dX5_addFind_32 ?_
  refine a_ic_le_y (pc := 34) (tgt := 47) C h3 (by decide) dX5_addFind_34 ?_
  refine a_aloadn (pc := 47) C 0 rfl rfl dX5_addFind_47 ?_
  refine a_get (pc := 48) C fl_X5_33 0 rfl rfl dX5_addFind_48 ?_
  refine a_get (pc := 51) C fl_X5_121 4 rfl rfl dX5_addFind_51 ?_
  refine a_bipush (pc := 54) (v := nI 60) C cb_60 dX5_addFind_54 ?_
  refine a_icn_lt_y (pc := 56) (tgt := 69) C (by omega) (by omega) (by omega) (by decide) dX5_addFind_56 ?_
  refine a_aloadn (pc := 69) C 0 rfl rfl dX5_addFind_69 ?_
  refine a_get (pc := 70) C fl_X5_33 0 rfl rfl dX5_addFind_70 ?_
  refine a_iloadn (pc := 73) C 1 rfl rfl dX5_addFind_73 ?_
  refine a_iloadn (pc := 74) C 2 rfl rfl dX5_addFind_74 ?_
  refine a_iloadn (pc := 75) C 3 rfl rfl dX5_addFind_75 ?_
  refine a_iload (pc := 76) C 4 rfl dX5_addFind_76 ?_
  refine a_callV1 (pc := 78) (k' := 0) (n' := 0) C (c_X1_append κ a hf) yv_X1_append ml_X5_202 wi_X1_append wl_X1_append 4 rfl rfl rfl rfl (Nat.le_of_ble_eq_true rfl) (Nat.le_of_ble_eq_true rfl) (Nat.le_of_ble_eq_true rfl) ⟨(Nat.le_of_ble_eq_true rfl), (Nat.le_of_ble_eq_true rfl)⟩ rfl rfl dX5_addFind_78 ?_
  refine a_istore (pc := 81) (L' := [(0, .ref (a 0)), (1, .int (nI u)), (2, .int s0), (3, .int a1), (4, .int b1), (5, .int (nI f))]) C (by decide) rfl dX5_addFind_81 ?_
  refine a_aloadn (pc := 83) C 0 rfl rfl dX5_addFind_83 ?_
  refine a_callV0 (pc := 84) (k' := 0) (n' := 0) C (c_X5_renewBounds κ a hn (by omega) hbo (upn_lt hfu (by omega))) yv_X5_renewBounds ml_X5_205 wi_X5_renewBounds wl_X5_renewBounds 0 rfl rfl rfl rfl (Nat.le_of_ble_eq_true rfl) (Nat.le_of_ble_eq_true rfl) (Nat.le_of_ble_eq_true rfl) ⟨(Nat.le_of_ble_eq_true rfl), (Nat.le_of_ble_eq_true rfl)⟩ rfl rfl dX5_addFind_84 ?_
  refine a_iload (pc := 87) C 5 rfl dX5_addFind_87 ?_
  exact a_iret (pc := 89) C E (Nat.le_of_ble_eq_true rfl) (Nat.le_of_ble_eq_true rfl) ⟨rfl, rfl⟩ dX5_addFind_89
set_option maxHeartbeats 4000000 in
set_option maxRecDepth 100000 in
theorem c_X5_find (κ : aK) (a : Nat → Nat) {n : Nat} {dug : Nat → Bool} {dtd : Nat → Bool} {so : Nat → Int32} {ph : Nat → Int32} {uf : Nat → Int32} {ul : Nat → Int32} {r : Nat} {ki : Nat → Int32} {lt : Nat → Nat} {er : Nat → Nat} {mz : Nat} {bd : Nat → Bool} {bo : Nat → Nat} {me : Nat → Nat → Bool} {dE : Nat → Nat → Bool} {eE : Nat → Nat → Bool} {lE : Nat → Nat → Bool} {li : Nat → Nat → Bool} {fB : Nat → Int32} {fA : Nat → Int32} {sL : Nat → Int32} {f : Nat} {fu : Nat → Nat} {fs : Nat → Int32} {ff : Nat → Int32} {fl : Nat → Int32} {xs : Nat → Int32} {ys : Nat → Int32} {zs : Nat → Int32} {oL : Nat → Int32} {oU : Nat → Int32} {lo : Nat → Int32} {up : Nat → Int32} {X : va_W} {j : Nat} {q : Nat} (hf : f ≤ 60) (hbo : ∀ u, bo u < 40) (hfu : ∀ u, fu u < 40) (hj : j < f) (hq : q < 8) : CM yX5_find cX5_find 3 (some .int) ({ frames := 7, cells := 0, slots := 0, locals := 131 } : Room) κ [.ref (a 0), .int (nI j), .int (nI q)] (wC κ a n dug dtd so ph uf ul r ki lt er mz bd bo me dE eE lE li fB fA sL f fu fs ff fl xs ys zs oL oU lo up X) (aD (some (.int (ftR fu fs ff fl xs ys zs bo lo up j q))) (wC κ a n dug dtd so ph uf ul r ki lt er mz bd bo me dE eE lE li fB fA sL f fu fs ff fl xs ys zs oL oU lo up X)) := by
  refine cm_entry (own := RX5) (L := [(0, .ref (a 0)), (1, .int (nI j)), (2, .int (nI q))]) (by decide +kernel) rfl (lv_entry [.ref (a 0), .int (nI j), .int (nI q)] (n := 3) (Nat.le_of_ble_eq_true rfl)) (fun g C E => ?_)
  refine a_aloadn (pc := 0) C 0 rfl rfl dX5_find_0 ?_
  refine a_iloadn (pc := 1) C 1 rfl rfl dX5_find_1 ?_
  refine a_callV0 (pc := 2) (k' := 0) (n' := 0) C (c_X5_requireFind κ a hf hj) yv_X5_requireFind ml_X5_208 wi_X5_requireFind wl_X5_requireFind 0 rfl rfl rfl rfl (Nat.le_of_ble_eq_true rfl) (Nat.le_of_ble_eq_true rfl) (Nat.le_of_ble_eq_true rfl) ⟨(Nat.le_of_ble_eq_true rfl), (Nat.le_of_ble_eq_true rfl)⟩ rfl rfl dX5_find_2 ?_
  refine a_iloadn (pc := 5) C 2 rfl rfl dX5_find_5 ?_
  refine a_bipush (pc := 6) (v := nI 8) C cb_8 dX5_find_6 ?_
  refine a_callS0 (pc := 8) (k' := 0) (n' := 0) C (c_X5_requireFact κ (by omega) hq) yv_X5_requireFact ml_X5_93 ws_X5_requireFact rfl rfl (Nat.le_of_ble_eq_true rfl) (Nat.le_of_ble_eq_true rfl) (Nat.le_of_ble_eq_true rfl) ⟨(Nat.le_of_ble_eq_true rfl), (Nat.le_of_ble_eq_true rfl)⟩ rfl rfl dX5_find_8 ?_
  refine a_iloadn (pc := 11) C 2 rfl rfl dX5_find_11 ?_
  rcases (show q = 0 ∨ q = 1 ∨ q = 2 ∨ q = 3 ∨ q = 4 ∨ q = 5 ∨ q = 6 ∨ q = 7 by omega) with rfl | rfl | rfl | rfl | rfl | rfl | rfl | rfl
  · refine a_table (pc := 12) (tgt := 56) (off := 44) C (by decide +kernel) (by decide +kernel) (by decide +kernel) (by decide) dX5_find_12 ?_
    refine a_aloadn (pc := 56) C 0 rfl rfl dX5_find_56 ?_
    refine a_get (pc := 57) C fl_X5_33 0 rfl rfl dX5_find_57 ?_
    refine a_get (pc := 60) C fl_X5_223 4 rfl rfl dX5_find_60 ?_
    refine a_iloadn (pc := 63) C 1 rfl rfl dX5_find_63 ?_
    refine a_ialdN (pc := 64) C 22 rfl (by omega) (by decide) dX5_find_64 ?_
    exact a_iret (pc := 65) C E (Nat.le_of_ble_eq_true rfl) (Nat.le_of_ble_eq_true rfl) ⟨rfl, rfl⟩ dX5_find_65
  · refine a_table (pc := 12) (tgt := 66) (off := 54) C (by decide +kernel) (by decide +kernel) (by decide +kernel) (by decide) dX5_find_12 ?_
    refine a_aloadn (pc := 66) C 0 rfl rfl dX5_find_66 ?_
    refine a_get (pc := 67) C fl_X5_33 0 rfl rfl dX5_find_67 ?_
    refine a_get (pc := 70) C fl_X5_225 4 rfl rfl dX5_find_70 ?_
    refine a_iloadn (pc := 73) C 1 rfl rfl dX5_find_73 ?_
    refine a_iald (pc := 74) C 23 rfl (by omega) (by decide) dX5_find_74 ?_
    exact a_iret (pc := 75) C E (Nat.le_of_ble_eq_true rfl) (Nat.le_of_ble_eq_true rfl) ⟨rfl, rfl⟩ dX5_find_75
  · refine a_table (pc := 12) (tgt := 76) (off := 64) C (by decide +kernel) (by decide +kernel) (by decide +kernel) (by decide) dX5_find_12 ?_
    refine a_aloadn (pc := 76) C 0 rfl rfl dX5_find_76 ?_
    refine a_get (pc := 77) C fl_X5_33 0 rfl rfl dX5_find_77 ?_
    refine a_get (pc := 80) C fl_X5_226 4 rfl rfl dX5_find_80 ?_
    refine a_iloadn (pc := 83) C 1 rfl rfl dX5_find_83 ?_
    refine a_iald (pc := 84) C 24 rfl (by omega) (by decide) dX5_find_84 ?_
    exact a_iret (pc := 85) C E (Nat.le_of_ble_eq_true rfl) (Nat.le_of_ble_eq_true rfl) ⟨rfl, rfl⟩ dX5_find_85
  · refine a_table (pc := 12) (tgt := 86) (off := 74) C (by decide +kernel) (by decide +kernel) (by decide +kernel) (by decide) dX5_find_12 ?_
    refine a_aloadn (pc := 86) C 0 rfl rfl dX5_find_86 ?_
    refine a_get (pc := 87) C fl_X5_33 0 rfl rfl dX5_find_87 ?_
    refine a_get (pc := 90) C fl_X5_229 4 rfl rfl dX5_find_90 ?_
    refine a_iloadn (pc := 93) C 1 rfl rfl dX5_find_93 ?_
    refine a_iald (pc := 94) C 25 rfl (by omega) (by decide) dX5_find_94 ?_
    exact a_iret (pc := 95) C E (Nat.le_of_ble_eq_true rfl) (Nat.le_of_ble_eq_true rfl) ⟨rfl, rfl⟩ dX5_find_95
  · refine a_table (pc := 12) (tgt := 96) (off := 84) C (by decide +kernel) (by decide +kernel) (by decide +kernel) (by decide) dX5_find_12 ?_
    refine a_aloadn (pc := 96) C 0 rfl rfl dX5_find_96 ?_
    refine a_get (pc := 97) C fl_X5_33 0 rfl rfl dX5_find_97 ?_
    refine a_get (pc := 100) C fl_X5_217 4 rfl rfl dX5_find_100 ?_
    refine a_iloadn (pc := 103) C 1 rfl rfl dX5_find_103 ?_
    refine a_iald (pc := 104) C 26 rfl (by omega) (by decide) dX5_find_104 ?_
    exact a_iret (pc := 105) C E (Nat.le_of_ble_eq_true rfl) (Nat.le_of_ble_eq_true rfl) ⟨rfl, rfl⟩ dX5_find_105
  · refine a_table (pc := 12) (tgt := 106) (off := 94) C (by decide +kernel) (by decide +kernel) (by decide +kernel) (by decide) dX5_find_12 ?_
    refine a_aloadn (pc := 106) C 0 rfl rfl dX5_find_106 ?_
    refine a_get (pc := 107) C fl_X5_33 0 rfl rfl dX5_find_107 ?_
    refine a_get (pc := 110) C fl_X5_220 4 rfl rfl dX5_find_110 ?_
    refine a_iloadn (pc := 113) C 1 rfl rfl dX5_find_113 ?_
    refine a_iald (pc := 114) C 27 rfl (by omega) (by decide) dX5_find_114 ?_
    exact a_iret (pc := 115) C E (Nat.le_of_ble_eq_true rfl) (Nat.le_of_ble_eq_true rfl) ⟨rfl, rfl⟩ dX5_find_115
  · refine a_table (pc := 12) (tgt := 116) (off := 104) C (by decide +kernel) (by decide +kernel) (by decide +kernel) (by decide) dX5_find_12 ?_
    refine a_aloadn (pc := 116) C 0 rfl rfl dX5_find_116 ?_
    refine a_get (pc := 117) C fl_X5_33 0 rfl rfl dX5_find_117 ?_
    refine a_get (pc := 120) C fl_X5_214 4 rfl rfl dX5_find_120 ?_
    refine a_iloadn (pc := 123) C 1 rfl rfl dX5_find_123 ?_
    refine a_iald (pc := 124) C 28 rfl (by omega) (by decide) dX5_find_124 ?_
    exact a_iret (pc := 125) C E (Nat.le_of_ble_eq_true rfl) (Nat.le_of_ble_eq_true rfl) ⟨rfl, rfl⟩ dX5_find_125
  · refine a_tableD (pc := 12) (tgt := 126) C (by decide +kernel) (by decide) dX5_find_12 ?_
    refine a_aloadn (pc := 126) C 0 rfl rfl dX5_find_126 ?_
    refine a_iloadn (pc := 127) C 1 rfl rfl dX5_find_127 ?_
    refine a_callV1 (pc := 128) (k' := 0) (n' := 0) C (c_X5_misfit κ a hbo hfu (by omega)) yv_X5_misfit ml_X5_232 wi_X5_misfit wl_X5_misfit 0 rfl rfl rfl rfl (Nat.le_of_ble_eq_true rfl) (Nat.le_of_ble_eq_true rfl) (Nat.le_of_ble_eq_true rfl) ⟨(Nat.le_of_ble_eq_true rfl), (Nat.le_of_ble_eq_true rfl)⟩ rfl rfl dX5_find_128 ?_
    exact a_iret (pc := 131) C E (Nat.le_of_ble_eq_true rfl) (Nat.le_of_ble_eq_true rfl) ⟨rfl, rfl⟩ dX5_find_131
set_option maxHeartbeats 4000000 in
set_option maxRecDepth 100000 in
theorem c_X5_date (κ : aK) (a : Nat → Nat) {n : Nat} {dug : Nat → Bool} {dtd : Nat → Bool} {so : Nat → Int32} {ph : Nat → Int32} {uf : Nat → Int32} {ul : Nat → Int32} {r : Nat} {ki : Nat → Int32} {lt : Nat → Nat} {er : Nat → Nat} {mz : Nat} {bd : Nat → Bool} {bo : Nat → Nat} {me : Nat → Nat → Bool} {dE : Nat → Nat → Bool} {eE : Nat → Nat → Bool} {lE : Nat → Nat → Bool} {li : Nat → Nat → Bool} {fB : Nat → Int32} {fA : Nat → Int32} {sL : Nat → Int32} {f : Nat} {fu : Nat → Nat} {fs : Nat → Int32} {ff : Nat → Int32} {fl : Nat → Int32} {xs : Nat → Int32} {ys : Nat → Int32} {zs : Nat → Int32} {oL : Nat → Int32} {oU : Nat → Int32} {lo : Nat → Int32} {up : Nat → Int32} {X : va_W} {u : Nat} {a1 : Int32} {b1 : Int32} (hn : n ≤ 40) (hf : f ≤ 60) (hbo : ∀ u, bo u < 40) (hfu : ∀ u, fu u < 40) (hu : u < n) (h1 : yrB a1 = true) (h2 : yrB b1 = true) : CM yX5_date cX5_date 5 (some .int) ({ frames := 7, cells := 0, slots := 0, locals := 131 } : Room) κ [.ref (a 0), .int (nI u), .int a1, .int b1] (wC κ a n dug dtd so ph uf ul r ki lt er mz bd bo me dE eE lE li fB fA sL f fu fs ff fl xs ys zs oL oU lo up X) (aD (some (.int (b2i (dtd u)))) (wC κ a n dug (va_up dtd u (decide (a1 ≤ b1))) so ph (va_up uf u a1) (va_up ul u b1) r ki lt er mz bd bo me dE eE lE li fB fA sL f fu fs ff fl xs ys zs (nOL (va_up dtd u (decide (a1 ≤ b1))) (va_up uf u a1) bo fu ff oL n f) (nOU (va_up dtd u (decide (a1 ≤ b1))) (va_up ul u b1) bo oU n) (nLo (nOL (va_up dtd u (decide (a1 ≤ b1))) (va_up uf u a1) bo fu ff oL n f) eE lo n) (nUp (nOU (va_up dtd u (decide (a1 ≤ b1))) (va_up ul u b1) bo oU n) lE up n) X)) := by
  refine cm_entry (own := RX5) (L := [(0, .ref (a 0)), (1, .int (nI u)), (2, .int a1), (3, .int b1)]) (by decide +kernel) rfl (lv_entry [.ref (a 0), .int (nI u), .int a1, .int b1] (n := 5) (Nat.le_of_ble_eq_true rfl)) (fun g C E => ?_)
  refine a_aloadn (pc := 0) C 0 rfl rfl dX5_date_0 ?_
  refine a_iloadn (pc := 1) C 1 rfl rfl dX5_date_1 ?_
  refine a_callV0 (pc := 2) (k' := 0) (n' := 0) C (c_X5_requireUnit κ a hn hu) yv_X5_requireUnit ml_X5_73 wi_X5_requireUnit wl_X5_requireUnit 0 rfl rfl rfl rfl (Nat.le_of_ble_eq_true rfl) (Nat.le_of_ble_eq_true rfl) (Nat.le_of_ble_eq_true rfl) ⟨(Nat.le_of_ble_eq_true rfl), (Nat.le_of_ble_eq_true rfl)⟩ rfl rfl dX5_date_2 ?_
  refine a_iloadn (pc := 5) C 2 rfl rfl dX5_date_5 ?_
  refine a_iloadn (pc := 6) C 3 rfl rfl dX5_date_6 ?_
  refine a_callS0 (pc := 7) (k' := 0) (n' := 0) C (c_X5_requireYears κ h1 h2) yv_X5_requireYears ml_X5_195 ws_X5_requireYears rfl rfl (Nat.le_of_ble_eq_true rfl) (Nat.le_of_ble_eq_true rfl) (Nat.le_of_ble_eq_true rfl) ⟨(Nat.le_of_ble_eq_true rfl), (Nat.le_of_ble_eq_true rfl)⟩ rfl rfl dX5_date_7 ?_
  refine a_aloadn (pc := 10) C 0 rfl rfl dX5_date_10 ?_
  refine a_get (pc := 11) C fl_X5_10 0 rfl rfl dX5_date_11 ?_
  refine a_get (pc := 14) C fl_X5_235 1 rfl rfl dX5_date_14 ?_
  refine a_iloadn (pc := 17) C 1 rfl rfl dX5_date_17 ?_
  refine a_callS1 (pc := 18) (k' := 0) (n' := 0) C (c_X5_has κ (by omega)) yv_X5_has ml_X5_157 ws_X5_has rfl rfl (Nat.le_of_ble_eq_true rfl) (Nat.le_of_ble_eq_true rfl) (Nat.le_of_ble_eq_true rfl) ⟨(Nat.le_of_ble_eq_true rfl), (Nat.le_of_ble_eq_true rfl)⟩ rfl rfl dX5_date_18 ?_
  refine a_ifb_eq (pc := 21) (tgt := 28) C (by decide) dX5_date_21 (fun c1 => ?_) (fun c1 => ?_)
  · refine a_iconst (pc := 28) (v := nI 0) C ci_0 dX5_date_28 ?_
    refine a_istore (pc := 29) (L' := [(0, .ref (a 0)), (1, .int (nI u)), (2, .int a1), (3, .int b1), (4, .int (nI 0))]) C (by decide) rfl dX5_date_29 ?_
    refine a_aloadn (pc := 31) C 0 rfl rfl dX5_date_31 ?_
    refine a_get (pc := 32) C fl_X5_10 0 rfl rfl dX5_date_32 ?_
    refine a_iloadn (pc := 35) C 1 rfl rfl dX5_date_35 ?_
    refine a_iloadn (pc := 36) C 2 rfl rfl dX5_date_36 ?_
    refine a_iloadn (pc := 37) C 3 rfl rfl dX5_date_37 ?_
    refine a_callV0 (pc := 38) (k' := 0) (n' := 0) C (c_X4_setDate κ a (by omega)) yv_X4_setDate ml_X5_238 wi_X4_setDate wl_X4_setDate 1 rfl rfl rfl rfl (Nat.le_of_ble_eq_true rfl) (Nat.le_of_ble_eq_true rfl) (Nat.le_of_ble_eq_true rfl) ⟨(Nat.le_of_ble_eq_true rfl), (Nat.le_of_ble_eq_true rfl)⟩ rfl rfl dX5_date_38 ?_
    refine a_aloadn (pc := 41) C 0 rfl rfl dX5_date_41 ?_
    refine a_callV0 (pc := 42) (k' := 0) (n' := 0) C (c_X5_renewBounds κ a hn hf hbo hfu) yv_X5_renewBounds ml_X5_205 wi_X5_renewBounds wl_X5_renewBounds 0 rfl rfl rfl rfl (Nat.le_of_ble_eq_true rfl) (Nat.le_of_ble_eq_true rfl) (Nat.le_of_ble_eq_true rfl) ⟨(Nat.le_of_ble_eq_true rfl), (Nat.le_of_ble_eq_true rfl)⟩ rfl rfl dX5_date_42 ?_
    refine a_iload (pc := 45) C 4 rfl dX5_date_45 ?_
    exact a_iret (pc := 47) C E (Nat.le_of_ble_eq_true rfl) (Nat.le_of_ble_eq_true rfl) ⟨by rw [c1]; rfl, rfl⟩ dX5_date_47
  · refine a_iconst (pc := 24) (v := nI 1) C ci_1 dX5_date_24 ?_
    refine a_goto (pc := 25) (tgt := 29) C (by decide) dX5_date_25 ?_
    refine a_istore (pc := 29) (L' := [(0, .ref (a 0)), (1, .int (nI u)), (2, .int a1), (3, .int b1), (4, .int (nI 1))]) C (by decide) rfl dX5_date_29 ?_
    refine a_aloadn (pc := 31) C 0 rfl rfl dX5_date_31 ?_
    refine a_get (pc := 32) C fl_X5_10 0 rfl rfl dX5_date_32 ?_
    refine a_iloadn (pc := 35) C 1 rfl rfl dX5_date_35 ?_
    refine a_iloadn (pc := 36) C 2 rfl rfl dX5_date_36 ?_
    refine a_iloadn (pc := 37) C 3 rfl rfl dX5_date_37 ?_
    refine a_callV0 (pc := 38) (k' := 0) (n' := 0) C (c_X4_setDate κ a (by omega)) yv_X4_setDate ml_X5_238 wi_X4_setDate wl_X4_setDate 1 rfl rfl rfl rfl (Nat.le_of_ble_eq_true rfl) (Nat.le_of_ble_eq_true rfl) (Nat.le_of_ble_eq_true rfl) ⟨(Nat.le_of_ble_eq_true rfl), (Nat.le_of_ble_eq_true rfl)⟩ rfl rfl dX5_date_38 ?_
    refine a_aloadn (pc := 41) C 0 rfl rfl dX5_date_41 ?_
    refine a_callV0 (pc := 42) (k' := 0) (n' := 0) C (c_X5_renewBounds κ a hn hf hbo hfu) yv_X5_renewBounds ml_X5_205 wi_X5_renewBounds wl_X5_renewBounds 0 rfl rfl rfl rfl (Nat.le_of_ble_eq_true rfl) (Nat.le_of_ble_eq_true rfl) (Nat.le_of_ble_eq_true rfl) ⟨(Nat.le_of_ble_eq_true rfl), (Nat.le_of_ble_eq_true rfl)⟩ rfl rfl dX5_date_42 ?_
    refine a_iload (pc := 45) C 4 rfl dX5_date_45 ?_
    exact a_iret (pc := 47) C E (Nat.le_of_ble_eq_true rfl) (Nat.le_of_ble_eq_true rfl) ⟨by rw [c1]; rfl, rfl⟩ dX5_date_47
set_option maxHeartbeats 4000000 in
set_option maxRecDepth 100000 in
theorem c_X5_bound (κ : aK) (a : Nat → Nat) {n : Nat} {dug : Nat → Bool} {dtd : Nat → Bool} {so : Nat → Int32} {ph : Nat → Int32} {uf : Nat → Int32} {ul : Nat → Int32} {r : Nat} {ki : Nat → Int32} {lt : Nat → Nat} {er : Nat → Nat} {mz : Nat} {bd : Nat → Bool} {bo : Nat → Nat} {me : Nat → Nat → Bool} {dE : Nat → Nat → Bool} {eE : Nat → Nat → Bool} {lE : Nat → Nat → Bool} {li : Nat → Nat → Bool} {fB : Nat → Int32} {fA : Nat → Int32} {sL : Nat → Int32} {f : Nat} {fu : Nat → Nat} {fs : Nat → Int32} {ff : Nat → Int32} {fl : Nat → Int32} {xs : Nat → Int32} {ys : Nat → Int32} {zs : Nat → Int32} {oL : Nat → Int32} {oU : Nat → Int32} {lo : Nat → Int32} {up : Nat → Int32} {X : va_W} {u : Nat} {isU : Bool} (hn : n ≤ 40) (hbo : ∀ u, bo u < 40) (hu : u < n) : CM yX5_bound cX5_bound 4 (some .int) ({ frames := 7, cells := 0, slots := 0, locals := 131 } : Room) κ [.ref (a 0), .int (nI u), .int (b2i isU)] (wC κ a n dug dtd so ph uf ul r ki lt er mz bd bo me dE eE lE li fB fA sL f fu fs ff fl xs ys zs oL oU lo up X) (aD (some (.int ((if isU = true then up else lo) (bo u)))) (wC κ a n dug dtd so ph uf ul r ki lt er mz bd bo me dE eE lE li fB fA sL f fu fs ff fl xs ys zs oL oU lo up X)) := by
  refine cm_entry (own := RX5) (L := [(0, .ref (a 0)), (1, .int (nI u)), (2, .int (b2i isU))]) (by decide +kernel) rfl (lv_entry [.ref (a 0), .int (nI u), .int (b2i isU)] (n := 4) (Nat.le_of_ble_eq_true rfl)) (fun g C E => ?_)
  refine a_aloadn (pc := 0) C 0 rfl rfl dX5_bound_0 ?_
  refine a_iloadn (pc := 1) C 1 rfl rfl dX5_bound_1 ?_
  refine a_callV0 (pc := 2) (k' := 0) (n' := 0) C (c_X5_requireUnit κ a hn hu) yv_X5_requireUnit ml_X5_73 wi_X5_requireUnit wl_X5_requireUnit 0 rfl rfl rfl rfl (Nat.le_of_ble_eq_true rfl) (Nat.le_of_ble_eq_true rfl) (Nat.le_of_ble_eq_true rfl) ⟨(Nat.le_of_ble_eq_true rfl), (Nat.le_of_ble_eq_true rfl)⟩ rfl rfl dX5_bound_2 ?_
  refine a_aloadn (pc := 5) C 0 rfl rfl dX5_bound_5 ?_
  refine a_get (pc := 6) C fl_X5_26 0 rfl rfl dX5_bound_6 ?_
  refine a_get (pc := 9) C fl_X5_135 3 rfl rfl dX5_bound_9 ?_
  refine a_iloadn (pc := 12) C 1 rfl rfl dX5_bound_12 ?_
  refine a_ialdN (pc := 13) C 13 rfl (by omega) (by decide) dX5_bound_13 ?_
  refine a_istoren (pc := 14) (L' := [(0, .ref (a 0)), (1, .int (nI u)), (2, .int (b2i isU)), (3, .int (nI (bo u)))]) C (by decide) rfl rfl dX5_bound_14 ?_
  refine a_iloadn (pc := 15) C 2 rfl rfl dX5_bound_15 ?_
  refine a_ifb_eq (pc := 16) (tgt := 31) C (by decide) dX5_bound_16 (fun c1 => ?_) (fun c1 => ?_)
  · refine a_aloadn (pc := 31) C 0 rfl rfl dX5_bound_31 ?_
    refine a_get (pc := 32) C fl_X5_40 0 rfl rfl dX5_bound_32 ?_
    refine a_get (pc := 35) C fl_X5_244 5 rfl rfl dX5_bound_35 ?_
    refine a_iloadn (pc := 38) C 3 rfl rfl dX5_bound_38 ?_
    refine a_iald (pc := 39) C 31 rfl (hbo _) (by decide) dX5_bound_39 ?_
    exact a_iret (pc := 40) C E (Nat.le_of_ble_eq_true rfl) (Nat.le_of_ble_eq_true rfl) ⟨by rw [c1]; rfl, rfl⟩ dX5_bound_40
  · refine a_aloadn (pc := 19) C 0 rfl rfl dX5_bound_19 ?_
    refine a_get (pc := 20) C fl_X5_40 0 rfl rfl dX5_bound_20 ?_
    refine a_get (pc := 23) C fl_X5_241 5 rfl rfl dX5_bound_23 ?_
    refine a_iloadn (pc := 26) C 3 rfl rfl dX5_bound_26 ?_
    refine a_iald (pc := 27) C 32 rfl (hbo _) (by decide) dX5_bound_27 ?_
    refine a_goto (pc := 28) (tgt := 40) C (by decide) dX5_bound_28 ?_
    exact a_iret (pc := 40) C E (Nat.le_of_ble_eq_true rfl) (Nat.le_of_ble_eq_true rfl) ⟨by rw [c1]; rfl, rfl⟩ dX5_bound_40
set_option maxHeartbeats 4000000 in
set_option maxRecDepth 100000 in
theorem c_X5_next (κ : aK) (a : Nat → Nat) {n : Nat} {dug : Nat → Bool} {dtd : Nat → Bool} {so : Nat → Int32} {ph : Nat → Int32} {uf : Nat → Int32} {ul : Nat → Int32} {r : Nat} {ki : Nat → Int32} {lt : Nat → Nat} {er : Nat → Nat} {mz : Nat} {bd : Nat → Bool} {bo : Nat → Nat} {me : Nat → Nat → Bool} {dE : Nat → Nat → Bool} {eE : Nat → Nat → Bool} {lE : Nat → Nat → Bool} {li : Nat → Nat → Bool} {fB : Nat → Int32} {fA : Nat → Int32} {sL : Nat → Int32} {f : Nat} {fu : Nat → Nat} {fs : Nat → Int32} {ff : Nat → Int32} {fl : Nat → Int32} {xs : Nat → Int32} {ys : Nat → Int32} {zs : Nat → Int32} {oL : Nat → Int32} {oU : Nat → Int32} {lo : Nat → Int32} {up : Nat → Int32} {X : va_W} {y : Nat} (hn : n ≤ 40) (hbo : ∀ u, bo u < 40) (hy : y < 40) : CM yX5_next cX5_next 2 (some .int) ({ frames := 7, cells := 0, slots := 0, locals := 130 } : Room) κ [.ref (a 0), .int (nI y)] (wC κ a n dug dtd so ph uf ul r ki lt er mz bd bo me dE eE lE li fB fA sL f fu fs ff fl xs ys zs oL oU lo up X) (aD (some (.int (oI (elA (selS (fun u => cdB n bo eE dug u) n) y 40)))) (wC κ a n dug dtd so ph uf ul r ki lt er mz bd bo me dE eE lE li fB fA sL f fu fs ff fl xs ys zs oL oU lo up X)) := by
  refine cm_entry (own := RX5) (L := [(0, .ref (a 0)), (1, .int (nI y))]) (by decide +kernel) rfl (lv_entry [.ref (a 0), .int (nI y)] (n := 2) (Nat.le_of_ble_eq_true rfl)) (fun g C E => ?_)
  refine a_iloadn (pc := 0) C 1 rfl rfl dX5_next_0 ?_
  refine a_callS0 (pc := 1) (k' := 0) (n' := 0) C (c_X5_requirePlace κ hy) yv_X5_requirePlace ml_X5_177 ws_X5_requirePlace rfl rfl (Nat.le_of_ble_eq_true rfl) (Nat.le_of_ble_eq_true rfl) (Nat.le_of_ble_eq_true rfl) ⟨(Nat.le_of_ble_eq_true rfl), (Nat.le_of_ble_eq_true rfl)⟩ rfl rfl dX5_next_1 ?_
  refine a_aloadn (pc := 4) C 0 rfl rfl dX5_next_4 ?_
  refine a_callV1 (pc := 5) (k' := 0) (n' := 0) C (c_X5_unitsToDig κ a hn hbo) yv_X5_unitsToDig ml_X5_262 wi_X5_unitsToDig wl_X5_unitsToDig 0 rfl rfl rfl rfl (Nat.le_of_ble_eq_true rfl) (Nat.le_of_ble_eq_true rfl) (Nat.le_of_ble_eq_true rfl) ⟨(Nat.le_of_ble_eq_true rfl), (Nat.le_of_ble_eq_true rfl)⟩ rfl rfl dX5_next_5 ?_
  refine a_iloadn (pc := 8) C 1 rfl rfl dX5_next_8 ?_
  refine a_callS1 (pc := 9) (k' := 0) (n' := 0) C (c_X5_elementAt κ hy) yv_X5_elementAt ml_X5_184 ws_X5_elementAt rfl rfl (Nat.le_of_ble_eq_true rfl) (Nat.le_of_ble_eq_true rfl) (Nat.le_of_ble_eq_true rfl) ⟨(Nat.le_of_ble_eq_true rfl), (Nat.le_of_ble_eq_true rfl)⟩ rfl rfl dX5_next_9 ?_
  exact a_iret (pc := 12) C E (Nat.le_of_ble_eq_true rfl) (Nat.le_of_ble_eq_true rfl) ⟨rfl, rfl⟩ dX5_next_12
set_option maxHeartbeats 4000000 in
set_option maxRecDepth 100000 in
theorem c_X5_dig (κ : aK) (a : Nat → Nat) {n : Nat} {dug : Nat → Bool} {dtd : Nat → Bool} {so : Nat → Int32} {ph : Nat → Int32} {uf : Nat → Int32} {ul : Nat → Int32} {r : Nat} {ki : Nat → Int32} {lt : Nat → Nat} {er : Nat → Nat} {mz : Nat} {bd : Nat → Bool} {bo : Nat → Nat} {me : Nat → Nat → Bool} {dE : Nat → Nat → Bool} {eE : Nat → Nat → Bool} {lE : Nat → Nat → Bool} {li : Nat → Nat → Bool} {fB : Nat → Int32} {fA : Nat → Int32} {sL : Nat → Int32} {f : Nat} {fu : Nat → Nat} {fs : Nat → Int32} {ff : Nat → Int32} {fl : Nat → Int32} {xs : Nat → Int32} {ys : Nat → Int32} {zs : Nat → Int32} {oL : Nat → Int32} {oU : Nat → Int32} {lo : Nat → Int32} {up : Nat → Int32} {X : va_W} {u : Nat} (hn : n ≤ 40) (hbo : ∀ u, bo u < 40) (hu : u < n) (hc : cdB n bo eE dug u = true) : CM yX5_dig cX5_dig 2 (some .int) ({ frames := 7, cells := 0, slots := 0, locals := 131 } : Room) κ [.ref (a 0), .int (nI u)] (wC κ a n dug dtd so ph uf ul r ki lt er mz bd bo me dE eE lE li fB fA sL f fu fs ff fl xs ys zs oL oU lo up X) (aD (some (.int (bcI (bs (selS (fun v => cdB n bo eE (fun i => dug i || decide (i = u)) v) n))))) (wC κ a n (fun i => dug i || decide (i = u)) dtd so ph uf ul r ki lt er mz bd bo me dE eE lE li fB fA sL f fu fs ff fl xs ys zs oL oU lo up X)) := by
  refine cm_entry (own := RX5) (L := [(0, .ref (a 0)), (1, .int (nI u))]) (by decide +kernel) rfl (lv_entry [.ref (a 0), .int (nI u)] (n := 2) (Nat.le_of_ble_eq_true rfl)) (fun g C E => ?_)
  refine a_aloadn (pc := 0) C 0 rfl rfl dX5_dig_0 ?_
  refine a_iloadn (pc := 1) C 1 rfl rfl dX5_dig_1 ?_
  refine a_callV0 (pc := 2) (k' := 0) (n' := 0) C (c_X5_requireUnit κ a hn hu) yv_X5_requireUnit ml_X5_73 wi_X5_requireUnit wl_X5_requireUnit 0 rfl rfl rfl rfl (Nat.le_of_ble_eq_true rfl) (Nat.le_of_ble_eq_true rfl) (Nat.le_of_ble_eq_true rfl) ⟨(Nat.le_of_ble_eq_true rfl), (Nat.le_of_ble_eq_true rfl)⟩ rfl rfl dX5_dig_2 ?_
  refine a_aloadn (pc := 5) C 0 rfl rfl dX5_dig_5 ?_
  refine a_iloadn (pc := 6) C 1 rfl rfl dX5_dig_6 ?_
  refine a_callV1 (pc := 7) (k' := 0) (n' := 0) C (c_X5_canBeDug κ a hn hbo (by omega)) yv_X5_canBeDug ml_X5_252 wi_X5_canBeDug wl_X5_canBeDug 0 rfl rfl rfl rfl (Nat.le_of_ble_eq_true rfl) (Nat.le_of_ble_eq_true rfl) (Nat.le_of_ble_eq_true rfl) ⟨(Nat.le_of_ble_eq_true rfl), (Nat.le_of_ble_eq_true rfl)⟩ rfl rfl dX5_dig_7 ?_
  refine a_ifb_ne_y (pc := 10) (tgt := 24) C hc (by decide) dX5_dig_10 ?_
  refine a_aloadn (pc := 24) C 0 rfl rfl dX5_dig_24 ?_
  refine a_get (pc := 25) C fl_X5_10 0 rfl rfl dX5_dig_25 ?_
  refine a_dup (pc := 28) C rfl dX5_dig_28 ?_
  refine a_get (pc := 29) C fl_X5_122 1 rfl rfl dX5_dig_29 ?_
  refine a_iloadn (pc := 32) C 1 rfl rfl dX5_dig_32 ?_
  refine a_callS1 (pc := 33) (k' := 0) (n' := 0) C (c_X5_bit κ (by omega)) yv_X5_bit ml_X5_258 ws_X5_bit rfl rfl (Nat.le_of_ble_eq_true rfl) (Nat.le_of_ble_eq_true rfl) (Nat.le_of_ble_eq_true rfl) ⟨(Nat.le_of_ble_eq_true rfl), (Nat.le_of_ble_eq_true rfl)⟩ rfl rfl dX5_dig_33 ?_
  refine a_lor (pc := 36) (v := bs (fun i => dug i || (decide (i = u)))) C (bs_or _ _) dX5_dig_36 ?_
  refine a_put (pc := 37) (ws' := wC κ a n (fun i => dug i || (decide (i = u))) dtd so ph uf ul r ki lt er mz bd bo me dE eE lE li fB fA sL f fu fs ff fl xs ys zs oL oU lo up X) C fl_X5_122 fp_X4_1 1 rfl rfl rfl (Nat.le_of_ble_eq_true rfl) rfl dX5_dig_37 ?_
  refine a_aloadn (pc := 40) C 0 rfl rfl dX5_dig_40 ?_
  refine a_callV1 (pc := 41) (k' := 0) (n' := 0) C (c_X5_unitsToDig κ a hn hbo) yv_X5_unitsToDig ml_X5_262 wi_X5_unitsToDig wl_X5_unitsToDig 0 rfl rfl rfl rfl (Nat.le_of_ble_eq_true rfl) (Nat.le_of_ble_eq_true rfl) (Nat.le_of_ble_eq_true rfl) ⟨(Nat.le_of_ble_eq_true rfl), (Nat.le_of_ble_eq_true rfl)⟩ rfl rfl dX5_dig_41 ?_
  refine a_callS1 (pc := 44) (k' := 0) (n' := 0) C (c_J13_bitCount_95d88 κ) yv_J13_bitCount_95d88 ml_X5_111 ws_J13_bitCount_95d88 rfl rfl (Nat.le_of_ble_eq_true rfl) (Nat.le_of_ble_eq_true rfl) (Nat.le_of_ble_eq_true rfl) ⟨(Nat.le_of_ble_eq_true rfl), (Nat.le_of_ble_eq_true rfl)⟩ rfl rfl dX5_dig_44 ?_
  exact a_iret (pc := 47) C E (Nat.le_of_ble_eq_true rfl) (Nat.le_of_ble_eq_true rfl) ⟨rfl, rfl⟩ dX5_dig_47
set_option maxHeartbeats 4000000 in
set_option maxRecDepth 100000 in
theorem c_X5_digest (κ : aK) (a : Nat → Nat) {n : Nat} {dug : Nat → Bool} {dtd : Nat → Bool} {so : Nat → Int32} {ph : Nat → Int32} {uf : Nat → Int32} {ul : Nat → Int32} {r : Nat} {ki : Nat → Int32} {lt : Nat → Nat} {er : Nat → Nat} {mz : Nat} {bd : Nat → Bool} {bo : Nat → Nat} {me : Nat → Nat → Bool} {dE : Nat → Nat → Bool} {eE : Nat → Nat → Bool} {lE : Nat → Nat → Bool} {li : Nat → Nat → Bool} {fB : Nat → Int32} {fA : Nat → Int32} {sL : Nat → Int32} {f : Nat} {fu : Nat → Nat} {fs : Nat → Int32} {ff : Nat → Int32} {fl : Nat → Int32} {xs : Nat → Int32} {ys : Nat → Int32} {zs : Nat → Int32} {oL : Nat → Int32} {oU : Nat → Int32} {lo : Nat → Int32} {up : Nat → Int32} {X : va_W} (hn : n ≤ 40) (hm : mz ≤ 40) (hr : r ≤ 80) (hf : f ≤ 60) (hbo : ∀ u, bo u < 40) (hfu : ∀ u, fu u < 40) : CM yX5_digest cX5_digest 5 (some .long) ({ frames := 8, cells := 0, slots := 0, locals := 154 } : Room) κ [.ref (a 0)] (wC κ a n dug dtd so ph uf ul r ki lt er mz bd bo me dE eE lE li fB fA sL f fu fs ff fl xs ys zs oL oU lo up X) (aD (some (.long (dgN (ftR fu fs ff fl xs ys zs bo lo up) 8 (dgN (rtR ki lt er) 3 (dgU (utR so ph fB fA bo fu me eE lE dug f) (fun v => lo (bo v)) (fun v => up (bo v)) (dgS (ctR n r mz f bd dug li fB lo up bo eE ph) 431 9) n) r) f))) (wC κ a n dug dtd so ph uf ul r ki lt er mz bd bo me dE eE lE li fB fA sL f fu fs ff fl xs ys zs oL oU lo up X)) := by
  refine cm_entry (own := RX5) (L := [(0, .ref (a 0))]) (by decide +kernel) rfl (lv_entry [.ref (a 0)] (n := 5) (Nat.le_of_ble_eq_true rfl)) (fun g C E => ?_)
  refine a_ldc2 (pc := 0) C kl_X5_276 dX5_digest_0 ?_
  refine a_lstoren (pc := 3) (L' := [(0, .ref (a 0)), (1, .long (431))]) C (by decide) rfl rfl dX5_digest_3 ?_
  refine a_iconst (pc := 4) (v := nI 0) C ci_0 dX5_digest_4 ?_
  refine a_istoren (pc := 5) (L' := [(0, .ref (a 0)), (1, .long (431)), (3, .int (nI 0))]) C (by decide) rfl rfl dX5_digest_5 ?_
  have LP6 : ∀ (jz k : Nat), k + jz = 9 → aw g κ 5 6 [(0, .ref (a 0)), (1, .long (dgS (ctR n r mz f bd dug li fB lo up bo eE ph) 431 k)), (3, .int (nI k))] [] (wC κ a n dug dtd so ph uf ul r ki lt er mz bd bo me dE eE lE li fB fA sL f fu fs ff fl xs ys zs oL oU lo up X) 0 0 := by
    intro jz
    induction jz with
    | zero =>
      intro k hk_k
      obtain rfl : 9 = k := by omega
      refine a_iloadn (pc := 6) C 2 rfl rfl dX5_digest_6 ?_
      refine a_bipush (pc := 7) (v := nI 9) C cb_9 dX5_digest_7 ?_
      refine a_icn_ge_y (pc := 9) (tgt := 31) C (by omega) (by omega) (by omega) (by decide) dX5_digest_9 ?_
      refine a_iconst (pc := 31) (v := nI 0) C ci_0 dX5_digest_31 ?_
      refine a_istoren (pc := 32) (L' := [(0, .ref (a 0)), (1, .long (dgS (ctR n r mz f bd dug li fB lo up bo eE ph) 431 9)), (3, .int (nI 0))]) C (by decide) rfl rfl dX5_digest_32 ?_
      have LP33 : ∀ (jz k : Nat), k + jz = n → aw g κ 5 33 [(0, .ref (a 0)), (1, .long (dgU (utR so ph fB fA bo fu me eE lE dug f) (fun v => lo (bo v)) (fun v => up (bo v)) (dgS (ctR n r mz f bd dug li fB lo up bo eE ph) 431 9) k)), (3, .int (nI k))] [] (wC κ a n dug dtd so ph uf ul r ki lt er mz bd bo me dE eE lE li fB fA sL f fu fs ff fl xs ys zs oL oU lo up X) 0 0 := by
        intro jz
        induction jz with
        | zero =>
          intro k hk_k
          obtain rfl : n = k := by omega
          refine a_iloadn (pc := 33) C 2 rfl rfl dX5_digest_33 ?_
          refine a_aloadn (pc := 34) C 0 rfl rfl dX5_digest_34 ?_
          refine a_get (pc := 35) C fl_X5_10 0 rfl rfl dX5_digest_35 ?_
          refine a_get (pc := 38) C fl_X5_55 1 rfl rfl dX5_digest_38 ?_
          refine a_icn_ge_y (pc := 41) (tgt := 109) C (by omega) (by omega) (by omega) (by decide) dX5_digest_41 ?_
          refine a_iconst (pc := 109) (v := nI 0) C ci_0 dX5_digest_109 ?_
          refine a_istoren (pc := 110) (L' := [(0, .ref (a 0)), (1, .long (dgU (utR so ph fB fA bo fu me eE lE dug f) (fun v => lo (bo v)) (fun v => up (bo v)) (dgS (ctR n r mz f bd dug li fB lo up bo eE ph) 431 9) n)), (3, .int (nI 0))]) C (by decide) rfl rfl dX5_digest_110 ?_
          have LP111 : ∀ (jz k : Nat), k + jz = r → aw g κ 5 111 [(0, .ref (a 0)), (1, .long (dgN (rtR ki lt er) 3 (dgU (utR so ph fB fA bo fu me eE lE dug f) (fun v => lo (bo v)) (fun v => up (bo v)) (dgS (ctR n r mz f bd dug li fB lo up bo eE ph) 431 9) n) k)), (3, .int (nI k))] [] (wC κ a n dug dtd so ph uf ul r ki lt er mz bd bo me dE eE lE li fB fA sL f fu fs ff fl xs ys zs oL oU lo up X) 0 0 := by
            intro jz
            induction jz with
            | zero =>
              intro k hk_k
              obtain rfl : r = k := by omega
              refine a_iloadn (pc := 111) C 2 rfl rfl dX5_digest_111 ?_
              refine a_aloadn (pc := 112) C 0 rfl rfl dX5_digest_112 ?_
              refine a_get (pc := 113) C fl_X5_19 0 rfl rfl dX5_digest_113 ?_
              refine a_get (pc := 116) C fl_X5_77 2 rfl rfl dX5_digest_116 ?_
              refine a_icn_ge_y (pc := 119) (tgt := 158) C (by omega) (by omega) (by omega) (by decide) dX5_digest_119 ?_
              refine a_iconst (pc := 158) (v := nI 0) C ci_0 dX5_digest_158 ?_
              refine a_istoren (pc := 159) (L' := [(0, .ref (a 0)), (1, .long (dgN (rtR ki lt er) 3 (dgU (utR so ph fB fA bo fu me eE lE dug f) (fun v => lo (bo v)) (fun v => up (bo v)) (dgS (ctR n r mz f bd dug li fB lo up bo eE ph) 431 9) n) r)), (3, .int (nI 0))]) C (by decide) rfl rfl dX5_digest_159 ?_
              have LP160 : ∀ (jz k : Nat), k + jz = f → aw g κ 5 160 [(0, .ref (a 0)), (1, .long (dgN (ftR fu fs ff fl xs ys zs bo lo up) 8 (dgN (rtR ki lt er) 3 (dgU (utR so ph fB fA bo fu me eE lE dug f) (fun v => lo (bo v)) (fun v => up (bo v)) (dgS (ctR n r mz f bd dug li fB lo up bo eE ph) 431 9) n) r) k)), (3, .int (nI k))] [] (wC κ a n dug dtd so ph uf ul r ki lt er mz bd bo me dE eE lE li fB fA sL f fu fs ff fl xs ys zs oL oU lo up X) 0 0 := by
                intro jz
                induction jz with
                | zero =>
                  intro k hk_k
                  obtain rfl : f = k := by omega
                  refine a_iloadn (pc := 160) C 2 rfl rfl dX5_digest_160 ?_
                  refine a_aloadn (pc := 161) C 0 rfl rfl dX5_digest_161 ?_
                  refine a_get (pc := 162) C fl_X5_33 0 rfl rfl dX5_digest_162 ?_
                  refine a_get (pc := 165) C fl_X5_121 4 rfl rfl dX5_digest_165 ?_
                  refine a_icn_ge_y (pc := 168) (tgt := 208) C (by omega) (by omega) (by omega) (by decide) dX5_digest_168 ?_
                  refine a_lloadn (pc := 208) C 1 rfl rfl dX5_digest_208 ?_
                  exact a_lret (pc := 209) C E (Nat.le_of_ble_eq_true rfl) (Nat.le_of_ble_eq_true rfl) ⟨rfl, rfl⟩ dX5_digest_209
                | succ jz ih =>
                  intro k hk_k
                  have hlt_k : k < f := by omega
                  refine a_iloadn (pc := 160) C 2 rfl rfl dX5_digest_160 ?_
                  refine a_aloadn (pc := 161) C 0 rfl rfl dX5_digest_161 ?_
                  refine a_get (pc := 162) C fl_X5_33 0 rfl rfl dX5_digest_162 ?_
                  refine a_get (pc := 165) C fl_X5_121 4 rfl rfl dX5_digest_165 ?_
                  refine a_icn_ge_n (pc := 168) C (by omega) (by omega) (by omega) dX5_digest_168 ⟨208, by decide⟩ ?_
                  refine a_iconst (pc := 171) (v := nI 0) C ci_0 dX5_digest_171 ?_
                  refine a_istore (pc := 172) (L' := [(0, .ref (a 0)), (1, .long (dgN (ftR fu fs ff fl xs ys zs bo lo up) 8 (dgN (rtR ki lt er) 3 (dgU (utR so ph fB fA bo fu me eE lE dug f) (fun v => lo (bo v)) (fun v => up (bo v)) (dgS (ctR n r mz f bd dug li fB lo up bo eE ph) 431 9) n) r) k)), (3, .int (nI k)), (4, .int (nI 0))]) C (by decide) rfl dX5_digest_172 ?_
                  have LP174 : ∀ (jz i : Nat), i + jz = 8 → aw g κ 5 174 [(0, .ref (a 0)), (1, .long (dgS (ftR fu fs ff fl xs ys zs bo lo up k) (dgN (ftR fu fs ff fl xs ys zs bo lo up) 8 (dgN (rtR ki lt er) 3 (dgU (utR so ph fB fA bo fu me eE lE dug f) (fun v => lo (bo v)) (fun v => up (bo v)) (dgS (ctR n r mz f bd dug li fB lo up bo eE ph) 431 9) n) r) k) i)), (3, .int (nI k)), (4, .int (nI i))] [] (wC κ a n dug dtd so ph uf ul r ki lt er mz bd bo me dE eE lE li fB fA sL f fu fs ff fl xs ys zs oL oU lo up X) 0 0 := by
                    intro jz
                    induction jz with
                    | zero =>
                      intro i hk_i
                      obtain rfl : 8 = i := by omega
                      refine a_iload (pc := 174) C 3 rfl dX5_digest_174 ?_
                      refine a_bipush (pc := 176) (v := nI 8) C cb_8 dX5_digest_176 ?_
                      refine a_icn_ge_y (pc := 178) (tgt := 202) C (by omega) (by omega) (by omega) (by decide) dX5_digest_178 ?_
                      refine a_iinc (pc := 202) (v := nI (k + 1)) (L' := [(0, .ref (a 0)), (1, .long (dgS (ftR fu fs ff fl xs ys zs bo lo up k) (dgN (ftR fu fs ff fl xs ys zs bo lo up) 8 (dgN (rtR ki lt er) 3 (dgU (utR so ph fB fA bo fu me eE lE dug f) (fun v => lo (bo v)) (fun v => up (bo v)) (dgS (ctR n r mz f bd dug li fB lo up bo eE ph) 431 9) n) r) k) 8)), (3, .int (nI (k + 1))), (4, .int (nI 8))]) C 2 rfl (nI_inc _) (by decide) rfl dX5_digest_202 ?_
                      refine a_goto (pc := 205) (tgt := 160) C (by decide) dX5_digest_205 ?_
                      refine aw_locals (L' := [(0, .ref (a 0)), (1, .long (dgS (ftR fu fs ff fl xs ys zs bo lo up k) (dgN (ftR fu fs ff fl xs ys zs bo lo up) 8 (dgN (rtR ki lt er) 3 (dgU (utR so ph fB fA bo fu me eE lE dug f) (fun v => lo (bo v)) (fun v => up (bo v)) (dgS (ctR n r mz f bd dug li fB lo up bo eE ph) 431 9) n) r) k) 8)), (3, .int (nI (k + 1)))]) [0, 1, 2] rfl ?_
                      refine aw_L (L' := [(0, .ref (a 0)), (1, .long (dgN (ftR fu fs ff fl xs ys zs bo lo up) 8 (dgN (rtR ki lt er) 3 (dgU (utR so ph fB fA bo fu me eE lE dug f) (fun v => lo (bo v)) (fun v => up (bo v)) (dgS (ctR n r mz f bd dug li fB lo up bo eE ph) 431 9) n) r) (k + 1))), (3, .int (nI (k + 1)))]) (congrArg (fun zz9 => ([(0, .ref (a 0)), (1, .long zz9), (3, .int (nI (k + 1)))] : List (Nat × Value))) (rfl : (dgS (ftR fu fs ff fl xs ys zs bo lo up k) (dgN (ftR fu fs ff fl xs ys zs bo lo up) 8 (dgN (rtR ki lt er) 3 (dgU (utR so ph fB fA bo fu me eE lE dug f) (fun v => lo (bo v)) (fun v => up (bo v)) (dgS (ctR n r mz f bd dug li fB lo up bo eE ph) 431 9) n) r) k) 8) = (dgN (ftR fu fs ff fl xs ys zs bo lo up) 8 (dgN (rtR ki lt er) 3 (dgU (utR so ph fB fA bo fu me eE lE dug f) (fun v => lo (bo v)) (fun v => up (bo v)) (dgS (ctR n r mz f bd dug li fB lo up bo eE ph) 431 9) n) r) (k + 1)))) ?_
                      exact ih (k + 1) (by omega)
                    | succ jz ih =>
                      intro i hk_i
                      have hlt_i : i < 8 := by omega
                      refine a_iload (pc := 174) C 3 rfl dX5_digest_174 ?_
                      refine a_bipush (pc := 176) (v := nI 8) C cb_8 dX5_digest_176 ?_
                      refine a_icn_ge_n (pc := 178) C (by omega) (by omega) (by omega) dX5_digest_178 ⟨202, by decide⟩ ?_
                      refine a_lloadn (pc := 181) C 1 rfl rfl dX5_digest_181 ?_
                      refine a_ldc2 (pc := 182) C kl_X5_278 dX5_digest_182 ?_
                      refine a_lmul (pc := 185) (v := (dgS (ftR fu fs ff fl xs ys zs bo lo up k) (dgN (ftR fu fs ff fl xs ys zs bo lo up) 8 (dgN (rtR ki lt er) 3 (dgU (utR so ph fB fA bo fu me eE lE dug f) (fun v => lo (bo v)) (fun v => up (bo v)) (dgS (ctR n r mz f bd dug li fB lo up bo eE ph) 431 9) n) r) k) i) * (31)) C rfl dX5_digest_185 ?_
                      refine a_aloadn (pc := 186) C 0 rfl rfl dX5_digest_186 ?_
                      refine a_iloadn (pc := 187) C 2 rfl rfl dX5_digest_187 ?_
                      refine a_iload (pc := 188) C 3 rfl dX5_digest_188 ?_
                      refine a_callV1 (pc := 190) (k' := 0) (n' := 0) C (c_X5_find κ a hf hbo hfu (by omega) (by omega)) yv_X5_find ml_X5_293 wi_X5_find wl_X5_find 0 rfl rfl rfl rfl (Nat.le_of_ble_eq_true rfl) (Nat.le_of_ble_eq_true rfl) (Nat.le_of_ble_eq_true rfl) ⟨(Nat.le_of_ble_eq_true rfl), (Nat.le_of_ble_eq_true rfl)⟩ rfl rfl dX5_digest_190 ?_
                      refine a_i2l (pc := 193) (v := (ftR fu fs ff fl xs ys zs bo lo up k i).toInt64) C rfl dX5_digest_193 ?_
                      refine a_ladd (pc := 194) (v := ((dgS (ftR fu fs ff fl xs ys zs bo lo up k) (dgN (ftR fu fs ff fl xs ys zs bo lo up) 8 (dgN (rtR ki lt er) 3 (dgU (utR so ph fB fA bo fu me eE lE dug f) (fun v => lo (bo v)) (fun v => up (bo v)) (dgS (ctR n r mz f bd dug li fB lo up bo eE ph) 431 9) n) r) k) i) * (31)) + ((ftR fu fs ff fl xs ys zs bo lo up k i).toInt64)) C rfl dX5_digest_194 ?_
                      refine a_lstoren (pc := 195) (L' := [(0, .ref (a 0)), (1, .long (((dgS (ftR fu fs ff fl xs ys zs bo lo up k) (dgN (ftR fu fs ff fl xs ys zs bo lo up) 8 (dgN (rtR ki lt er) 3 (dgU (utR so ph fB fA bo fu me eE lE dug f) (fun v => lo (bo v)) (fun v => up (bo v)) (dgS (ctR n r mz f bd dug li fB lo up bo eE ph) 431 9) n) r) k) i) * (31)) + ((ftR fu fs ff fl xs ys zs bo lo up k i).toInt64))), (3, .int (nI k)), (4, .int (nI i))]) C (by decide) rfl rfl dX5_digest_195 ?_
                      refine a_iinc (pc := 196) (v := nI (i + 1)) (L' := [(0, .ref (a 0)), (1, .long (((dgS (ftR fu fs ff fl xs ys zs bo lo up k) (dgN (ftR fu fs ff fl xs ys zs bo lo up) 8 (dgN (rtR ki lt er) 3 (dgU (utR so ph fB fA bo fu me eE lE dug f) (fun v => lo (bo v)) (fun v => up (bo v)) (dgS (ctR n r mz f bd dug li fB lo up bo eE ph) 431 9) n) r) k) i) * (31)) + ((ftR fu fs ff fl xs ys zs bo lo up k i).toInt64))), (3, .int (nI k)), (4, .int (nI (i + 1)))]) C 3 rfl (nI_inc _) (by decide) rfl dX5_digest_196 ?_
                      refine a_goto (pc := 199) (tgt := 174) C (by decide) dX5_digest_199 ?_
                      refine aw_L (L' := [(0, .ref (a 0)), (1, .long (dgS (ftR fu fs ff fl xs ys zs bo lo up k) (dgN (ftR fu fs ff fl xs ys zs bo lo up) 8 (dgN (rtR ki lt er) 3 (dgU (utR so ph fB fA bo fu me eE lE dug f) (fun v => lo (bo v)) (fun v => up (bo v)) (dgS (ctR n r mz f bd dug li fB lo up bo eE ph) 431 9) n) r) k) (i + 1))), (3, .int (nI k)), (4, .int (nI (i + 1)))]) (congrArg (fun zz9 => ([(0, .ref (a 0)), (1, .long zz9), (3, .int (nI k)), (4, .int (nI (i + 1)))] : List (Nat × Value))) (rfl : (((dgS (ftR fu fs ff fl xs ys zs bo lo up k) (dgN (ftR fu fs ff fl xs ys zs bo lo up) 8 (dgN (rtR ki lt er) 3 (dgU (utR so ph fB fA bo fu me eE lE dug f) (fun v => lo (bo v)) (fun v => up (bo v)) (dgS (ctR n r mz f bd dug li fB lo up bo eE ph) 431 9) n) r) k) i) * (31)) + ((ftR fu fs ff fl xs ys zs bo lo up k i).toInt64)) = (dgS (ftR fu fs ff fl xs ys zs bo lo up k) (dgN (ftR fu fs ff fl xs ys zs bo lo up) 8 (dgN (rtR ki lt er) 3 (dgU (utR so ph fB fA bo fu me eE lE dug f) (fun v => lo (bo v)) (fun v => up (bo v)) (dgS (ctR n r mz f bd dug li fB lo up bo eE ph) 431 9) n) r) k) (i + 1)))) ?_
                      exact ih (i + 1) (by omega)
                  refine aw_L (L' := [(0, .ref (a 0)), (1, .long (dgS (ftR fu fs ff fl xs ys zs bo lo up k) (dgN (ftR fu fs ff fl xs ys zs bo lo up) 8 (dgN (rtR ki lt er) 3 (dgU (utR so ph fB fA bo fu me eE lE dug f) (fun v => lo (bo v)) (fun v => up (bo v)) (dgS (ctR n r mz f bd dug li fB lo up bo eE ph) 431 9) n) r) k) 0)), (3, .int (nI k)), (4, .int (nI 0))]) (congrArg (fun zz9 => ([(0, .ref (a 0)), (1, .long zz9), (3, .int (nI k)), (4, .int (nI 0))] : List (Nat × Value))) (rfl : (dgN (ftR fu fs ff fl xs ys zs bo lo up) 8 (dgN (rtR ki lt er) 3 (dgU (utR so ph fB fA bo fu me eE lE dug f) (fun v => lo (bo v)) (fun v => up (bo v)) (dgS (ctR n r mz f bd dug li fB lo up bo eE ph) 431 9) n) r) k) = (dgS (ftR fu fs ff fl xs ys zs bo lo up k) (dgN (ftR fu fs ff fl xs ys zs bo lo up) 8 (dgN (rtR ki lt er) 3 (dgU (utR so ph fB fA bo fu me eE lE dug f) (fun v => lo (bo v)) (fun v => up (bo v)) (dgS (ctR n r mz f bd dug li fB lo up bo eE ph) 431 9) n) r) k) 0))) ?_
                  exact LP174 (8) (0) (by omega)
              refine aw_L (L' := [(0, .ref (a 0)), (1, .long (dgN (ftR fu fs ff fl xs ys zs bo lo up) 8 (dgN (rtR ki lt er) 3 (dgU (utR so ph fB fA bo fu me eE lE dug f) (fun v => lo (bo v)) (fun v => up (bo v)) (dgS (ctR n r mz f bd dug li fB lo up bo eE ph) 431 9) n) r) 0)), (3, .int (nI 0))]) (congrArg (fun zz9 => ([(0, .ref (a 0)), (1, .long zz9), (3, .int (nI 0))] : List (Nat × Value))) (rfl : (dgN (rtR ki lt er) 3 (dgU (utR so ph fB fA bo fu me eE lE dug f) (fun v => lo (bo v)) (fun v => up (bo v)) (dgS (ctR n r mz f bd dug li fB lo up bo eE ph) 431 9) n) r) = (dgN (ftR fu fs ff fl xs ys zs bo lo up) 8 (dgN (rtR ki lt er) 3 (dgU (utR so ph fB fA bo fu me eE lE dug f) (fun v => lo (bo v)) (fun v => up (bo v)) (dgS (ctR n r mz f bd dug li fB lo up bo eE ph) 431 9) n) r) 0))) ?_
              exact LP160 (f) (0) (by omega)
            | succ jz ih =>
              intro k hk_k
              have hlt_k : k < r := by omega
              refine a_iloadn (pc := 111) C 2 rfl rfl dX5_digest_111 ?_
              refine a_aloadn (pc := 112) C 0 rfl rfl dX5_digest_112 ?_
              refine a_get (pc := 113) C fl_X5_19 0 rfl rfl dX5_digest_113 ?_
              refine a_get (pc := 116) C fl_X5_77 2 rfl rfl dX5_digest_116 ?_
              refine a_icn_ge_n (pc := 119) C (by omega) (by omega) (by omega) dX5_digest_119 ⟨158, by decide⟩ ?_
              refine a_iconst (pc := 122) (v := nI 0) C ci_0 dX5_digest_122 ?_
              refine a_istore (pc := 123) (L' := [(0, .ref (a 0)), (1, .long (dgN (rtR ki lt er) 3 (dgU (utR so ph fB fA bo fu me eE lE dug f) (fun v => lo (bo v)) (fun v => up (bo v)) (dgS (ctR n r mz f bd dug li fB lo up bo eE ph) 431 9) n) k)), (3, .int (nI k)), (4, .int (nI 0))]) C (by decide) rfl dX5_digest_123 ?_
              have LP125 : ∀ (jz i : Nat), i + jz = 3 → aw g κ 5 125 [(0, .ref (a 0)), (1, .long (dgS (rtR ki lt er k) (dgN (rtR ki lt er) 3 (dgU (utR so ph fB fA bo fu me eE lE dug f) (fun v => lo (bo v)) (fun v => up (bo v)) (dgS (ctR n r mz f bd dug li fB lo up bo eE ph) 431 9) n) k) i)), (3, .int (nI k)), (4, .int (nI i))] [] (wC κ a n dug dtd so ph uf ul r ki lt er mz bd bo me dE eE lE li fB fA sL f fu fs ff fl xs ys zs oL oU lo up X) 0 0 := by
                intro jz
                induction jz with
                | zero =>
                  intro i hk_i
                  obtain rfl : 3 = i := by omega
                  refine a_iload (pc := 125) C 3 rfl dX5_digest_125 ?_
                  refine a_iconst (pc := 127) (v := nI 3) C ci_3 dX5_digest_127 ?_
                  refine a_icn_ge_y (pc := 128) (tgt := 152) C (by omega) (by omega) (by omega) (by decide) dX5_digest_128 ?_
                  refine a_iinc (pc := 152) (v := nI (k + 1)) (L' := [(0, .ref (a 0)), (1, .long (dgS (rtR ki lt er k) (dgN (rtR ki lt er) 3 (dgU (utR so ph fB fA bo fu me eE lE dug f) (fun v => lo (bo v)) (fun v => up (bo v)) (dgS (ctR n r mz f bd dug li fB lo up bo eE ph) 431 9) n) k) 3)), (3, .int (nI (k + 1))), (4, .int (nI 3))]) C 2 rfl (nI_inc _) (by decide) rfl dX5_digest_152 ?_
                  refine a_goto (pc := 155) (tgt := 111) C (by decide) dX5_digest_155 ?_
                  refine aw_locals (L' := [(0, .ref (a 0)), (1, .long (dgS (rtR ki lt er k) (dgN (rtR ki lt er) 3 (dgU (utR so ph fB fA bo fu me eE lE dug f) (fun v => lo (bo v)) (fun v => up (bo v)) (dgS (ctR n r mz f bd dug li fB lo up bo eE ph) 431 9) n) k) 3)), (3, .int (nI (k + 1)))]) [0, 1, 2] rfl ?_
                  refine aw_L (L' := [(0, .ref (a 0)), (1, .long (dgN (rtR ki lt er) 3 (dgU (utR so ph fB fA bo fu me eE lE dug f) (fun v => lo (bo v)) (fun v => up (bo v)) (dgS (ctR n r mz f bd dug li fB lo up bo eE ph) 431 9) n) (k + 1))), (3, .int (nI (k + 1)))]) (congrArg (fun zz9 => ([(0, .ref (a 0)), (1, .long zz9), (3, .int (nI (k + 1)))] : List (Nat × Value))) (rfl : (dgS (rtR ki lt er k) (dgN (rtR ki lt er) 3 (dgU (utR so ph fB fA bo fu me eE lE dug f) (fun v => lo (bo v)) (fun v => up (bo v)) (dgS (ctR n r mz f bd dug li fB lo up bo eE ph) 431 9) n) k) 3) = (dgN (rtR ki lt er) 3 (dgU (utR so ph fB fA bo fu me eE lE dug f) (fun v => lo (bo v)) (fun v => up (bo v)) (dgS (ctR n r mz f bd dug li fB lo up bo eE ph) 431 9) n) (k + 1)))) ?_
                  exact ih (k + 1) (by omega)
                | succ jz ih =>
                  intro i hk_i
                  have hlt_i : i < 3 := by omega
                  refine a_iload (pc := 125) C 3 rfl dX5_digest_125 ?_
                  refine a_iconst (pc := 127) (v := nI 3) C ci_3 dX5_digest_127 ?_
                  refine a_icn_ge_n (pc := 128) C (by omega) (by omega) (by omega) dX5_digest_128 ⟨152, by decide⟩ ?_
                  refine a_lloadn (pc := 131) C 1 rfl rfl dX5_digest_131 ?_
                  refine a_ldc2 (pc := 132) C kl_X5_278 dX5_digest_132 ?_
                  refine a_lmul (pc := 135) (v := (dgS (rtR ki lt er k) (dgN (rtR ki lt er) 3 (dgU (utR so ph fB fA bo fu me eE lE dug f) (fun v => lo (bo v)) (fun v => up (bo v)) (dgS (ctR n r mz f bd dug li fB lo up bo eE ph) 431 9) n) k) i) * (31)) C rfl dX5_digest_135 ?_
                  refine a_aloadn (pc := 136) C 0 rfl rfl dX5_digest_136 ?_
                  refine a_iloadn (pc := 137) C 2 rfl rfl dX5_digest_137 ?_
                  refine a_iload (pc := 138) C 3 rfl dX5_digest_138 ?_
                  refine a_callV1 (pc := 140) (k' := 0) (n' := 0) C (c_X5_relation κ a hr (by omega) (by omega)) yv_X5_relation ml_X5_290 wi_X5_relation wl_X5_relation 0 rfl rfl rfl rfl (Nat.le_of_ble_eq_true rfl) (Nat.le_of_ble_eq_true rfl) (Nat.le_of_ble_eq_true rfl) ⟨(Nat.le_of_ble_eq_true rfl), (Nat.le_of_ble_eq_true rfl)⟩ rfl rfl dX5_digest_140 ?_
                  refine a_i2l (pc := 143) (v := (rtR ki lt er k i).toInt64) C rfl dX5_digest_143 ?_
                  refine a_ladd (pc := 144) (v := ((dgS (rtR ki lt er k) (dgN (rtR ki lt er) 3 (dgU (utR so ph fB fA bo fu me eE lE dug f) (fun v => lo (bo v)) (fun v => up (bo v)) (dgS (ctR n r mz f bd dug li fB lo up bo eE ph) 431 9) n) k) i) * (31)) + ((rtR ki lt er k i).toInt64)) C rfl dX5_digest_144 ?_
                  refine a_lstoren (pc := 145) (L' := [(0, .ref (a 0)), (1, .long (((dgS (rtR ki lt er k) (dgN (rtR ki lt er) 3 (dgU (utR so ph fB fA bo fu me eE lE dug f) (fun v => lo (bo v)) (fun v => up (bo v)) (dgS (ctR n r mz f bd dug li fB lo up bo eE ph) 431 9) n) k) i) * (31)) + ((rtR ki lt er k i).toInt64))), (3, .int (nI k)), (4, .int (nI i))]) C (by decide) rfl rfl dX5_digest_145 ?_
                  refine a_iinc (pc := 146) (v := nI (i + 1)) (L' := [(0, .ref (a 0)), (1, .long (((dgS (rtR ki lt er k) (dgN (rtR ki lt er) 3 (dgU (utR so ph fB fA bo fu me eE lE dug f) (fun v => lo (bo v)) (fun v => up (bo v)) (dgS (ctR n r mz f bd dug li fB lo up bo eE ph) 431 9) n) k) i) * (31)) + ((rtR ki lt er k i).toInt64))), (3, .int (nI k)), (4, .int (nI (i + 1)))]) C 3 rfl (nI_inc _) (by decide) rfl dX5_digest_146 ?_
                  refine a_goto (pc := 149) (tgt := 125) C (by decide) dX5_digest_149 ?_
                  refine aw_L (L' := [(0, .ref (a 0)), (1, .long (dgS (rtR ki lt er k) (dgN (rtR ki lt er) 3 (dgU (utR so ph fB fA bo fu me eE lE dug f) (fun v => lo (bo v)) (fun v => up (bo v)) (dgS (ctR n r mz f bd dug li fB lo up bo eE ph) 431 9) n) k) (i + 1))), (3, .int (nI k)), (4, .int (nI (i + 1)))]) (congrArg (fun zz9 => ([(0, .ref (a 0)), (1, .long zz9), (3, .int (nI k)), (4, .int (nI (i + 1)))] : List (Nat × Value))) (rfl : (((dgS (rtR ki lt er k) (dgN (rtR ki lt er) 3 (dgU (utR so ph fB fA bo fu me eE lE dug f) (fun v => lo (bo v)) (fun v => up (bo v)) (dgS (ctR n r mz f bd dug li fB lo up bo eE ph) 431 9) n) k) i) * (31)) + ((rtR ki lt er k i).toInt64)) = (dgS (rtR ki lt er k) (dgN (rtR ki lt er) 3 (dgU (utR so ph fB fA bo fu me eE lE dug f) (fun v => lo (bo v)) (fun v => up (bo v)) (dgS (ctR n r mz f bd dug li fB lo up bo eE ph) 431 9) n) k) (i + 1)))) ?_
                  exact ih (i + 1) (by omega)
              refine aw_L (L' := [(0, .ref (a 0)), (1, .long (dgS (rtR ki lt er k) (dgN (rtR ki lt er) 3 (dgU (utR so ph fB fA bo fu me eE lE dug f) (fun v => lo (bo v)) (fun v => up (bo v)) (dgS (ctR n r mz f bd dug li fB lo up bo eE ph) 431 9) n) k) 0)), (3, .int (nI k)), (4, .int (nI 0))]) (congrArg (fun zz9 => ([(0, .ref (a 0)), (1, .long zz9), (3, .int (nI k)), (4, .int (nI 0))] : List (Nat × Value))) (rfl : (dgN (rtR ki lt er) 3 (dgU (utR so ph fB fA bo fu me eE lE dug f) (fun v => lo (bo v)) (fun v => up (bo v)) (dgS (ctR n r mz f bd dug li fB lo up bo eE ph) 431 9) n) k) = (dgS (rtR ki lt er k) (dgN (rtR ki lt er) 3 (dgU (utR so ph fB fA bo fu me eE lE dug f) (fun v => lo (bo v)) (fun v => up (bo v)) (dgS (ctR n r mz f bd dug li fB lo up bo eE ph) 431 9) n) k) 0))) ?_
              exact LP125 (3) (0) (by omega)
          refine aw_L (L' := [(0, .ref (a 0)), (1, .long (dgN (rtR ki lt er) 3 (dgU (utR so ph fB fA bo fu me eE lE dug f) (fun v => lo (bo v)) (fun v => up (bo v)) (dgS (ctR n r mz f bd dug li fB lo up bo eE ph) 431 9) n) 0)), (3, .int (nI 0))]) (congrArg (fun zz9 => ([(0, .ref (a 0)), (1, .long zz9), (3, .int (nI 0))] : List (Nat × Value))) (rfl : (dgU (utR so ph fB fA bo fu me eE lE dug f) (fun v => lo (bo v)) (fun v => up (bo v)) (dgS (ctR n r mz f bd dug li fB lo up bo eE ph) 431 9) n) = (dgN (rtR ki lt er) 3 (dgU (utR so ph fB fA bo fu me eE lE dug f) (fun v => lo (bo v)) (fun v => up (bo v)) (dgS (ctR n r mz f bd dug li fB lo up bo eE ph) 431 9) n) 0))) ?_
          exact LP111 (r) (0) (by omega)
        | succ jz ih =>
          intro k hk_k
          have hlt_k : k < n := by omega
          refine a_iloadn (pc := 33) C 2 rfl rfl dX5_digest_33 ?_
          refine a_aloadn (pc := 34) C 0 rfl rfl dX5_digest_34 ?_
          refine a_get (pc := 35) C fl_X5_10 0 rfl rfl dX5_digest_35 ?_
          refine a_get (pc := 38) C fl_X5_55 1 rfl rfl dX5_digest_38 ?_
          refine a_icn_ge_n (pc := 41) C (by omega) (by omega) (by omega) dX5_digest_41 ⟨109, by decide⟩ ?_
          refine a_iconst (pc := 44) (v := nI 0) C ci_0 dX5_digest_44 ?_
          refine a_istore (pc := 45) (L' := [(0, .ref (a 0)), (1, .long (dgU (utR so ph fB fA bo fu me eE lE dug f) (fun v => lo (bo v)) (fun v => up (bo v)) (dgS (ctR n r mz f bd dug li fB lo up bo eE ph) 431 9) k)), (3, .int (nI k)), (4, .int (nI 0))]) C (by decide) rfl dX5_digest_45 ?_
          have LP47 : ∀ (jz i : Nat), i + jz = 10 → aw g κ 5 47 [(0, .ref (a 0)), (1, .long (dgS (utR so ph fB fA bo fu me eE lE dug f k) (dgU (utR so ph fB fA bo fu me eE lE dug f) (fun v => lo (bo v)) (fun v => up (bo v)) (dgS (ctR n r mz f bd dug li fB lo up bo eE ph) 431 9) k) i)), (3, .int (nI k)), (4, .int (nI i))] [] (wC κ a n dug dtd so ph uf ul r ki lt er mz bd bo me dE eE lE li fB fA sL f fu fs ff fl xs ys zs oL oU lo up X) 0 0 := by
            intro jz
            induction jz with
            | zero =>
              intro i hk_i
              obtain rfl : 10 = i := by omega
              refine a_iload (pc := 47) C 3 rfl dX5_digest_47 ?_
              refine a_bipush (pc := 49) (v := nI 10) C cb_10 dX5_digest_49 ?_
              refine a_icn_ge_y (pc := 51) (tgt := 75) C (by omega) (by omega) (by omega) (by decide) dX5_digest_51 ?_
              refine a_lloadn (pc := 75) C 1 rfl rfl dX5_digest_75 ?_
              refine a_ldc2 (pc := 76) C kl_X5_278 dX5_digest_76 ?_
              refine a_lmul (pc := 79) (v := (dgS (utR so ph fB fA bo fu me eE lE dug f k) (dgU (utR so ph fB fA bo fu me eE lE dug f) (fun v => lo (bo v)) (fun v => up (bo v)) (dgS (ctR n r mz f bd dug li fB lo up bo eE ph) 431 9) k) 10) * (31)) C rfl dX5_digest_79 ?_
              refine a_aloadn (pc := 80) C 0 rfl rfl dX5_digest_80 ?_
              refine a_iloadn (pc := 81) C 2 rfl rfl dX5_digest_81 ?_
              refine a_iconst (pc := 82) (v := nI 0) C ci_0 dX5_digest_82 ?_
              refine aw_st (st' := [.int (b2i false), .int (nI k), .ref (a 0), .long ((dgS (utR so ph fB fA bo fu me eE lE dug f k) (dgU (utR so ph fB fA bo fu me eE lE dug f) (fun v => lo (bo v)) (fun v => up (bo v)) (dgS (ctR n r mz f bd dug li fB lo up bo eE ph) 431 9) k) 10) * (31))]) rfl ?_
              refine a_callV1 (pc := 83) (k' := 0) (n' := 0) C (c_X5_bound κ a hn hbo (by omega)) yv_X5_bound ml_X5_286 wi_X5_bound wl_X5_bound 0 rfl rfl rfl rfl (Nat.le_of_ble_eq_true rfl) (Nat.le_of_ble_eq_true rfl) (Nat.le_of_ble_eq_true rfl) ⟨(Nat.le_of_ble_eq_true rfl), (Nat.le_of_ble_eq_true rfl)⟩ rfl rfl dX5_digest_83 ?_
              refine a_i2l (pc := 86) (v := ((if false = true then up else lo) (bo k)).toInt64) C rfl dX5_digest_86 ?_
              refine a_ladd (pc := 87) (v := ((dgS (utR so ph fB fA bo fu me eE lE dug f k) (dgU (utR so ph fB fA bo fu me eE lE dug f) (fun v => lo (bo v)) (fun v => up (bo v)) (dgS (ctR n r mz f bd dug li fB lo up bo eE ph) 431 9) k) 10) * (31)) + (((if false = true then up else lo) (bo k)).toInt64)) C rfl dX5_digest_87 ?_
              refine a_lstoren (pc := 88) (L' := [(0, .ref (a 0)), (1, .long (((dgS (utR so ph fB fA bo fu me eE lE dug f k) (dgU (utR so ph fB fA bo fu me eE lE dug f) (fun v => lo (bo v)) (fun v => up (bo v)) (dgS (ctR n r mz f bd dug li fB lo up bo eE ph) 431 9) k) 10) * (31)) + (((if false = true then up else lo) (bo k)).toInt64))), (3, .int (nI k)), (4, .int (nI 10))]) C (by decide) rfl rfl dX5_digest_88 ?_
              refine a_lloadn (pc := 89) C 1 rfl rfl dX5_digest_89 ?_
              refine a_ldc2 (pc := 90) C kl_X5_278 dX5_digest_90 ?_
              refine a_lmul (pc := 93) (v := (((dgS (utR so ph fB fA bo fu me eE lE dug f k) (dgU (utR so ph fB fA bo fu me eE lE dug f) (fun v => lo (bo v)) (fun v => up (bo v)) (dgS (ctR n r mz f bd dug li fB lo up bo eE ph) 431 9) k) 10) * (31)) + (((if false = true then up else lo) (bo k)).toInt64)) * (31)) C rfl dX5_digest_93 ?_
              refine a_aloadn (pc := 94) C 0 rfl rfl dX5_digest_94 ?_
              refine a_iloadn (pc := 95) C 2 rfl rfl dX5_digest_95 ?_
              refine a_iconst (pc := 96) (v := nI 1) C ci_1 dX5_digest_96 ?_
              refine aw_st (st' := [.int (b2i true), .int (nI k), .ref (a 0), .long ((((dgS (utR so ph fB fA bo fu me eE lE dug f k) (dgU (utR so ph fB fA bo fu me eE lE dug f) (fun v => lo (bo v)) (fun v => up (bo v)) (dgS (ctR n r mz f bd dug li fB lo up bo eE ph) 431 9) k) 10) * (31)) + (((if false = true then up else lo) (bo k)).toInt64)) * (31))]) rfl ?_
              refine a_callV1 (pc := 97) (k' := 0) (n' := 0) C (c_X5_bound κ a hn hbo (by omega)) yv_X5_bound ml_X5_286 wi_X5_bound wl_X5_bound 0 rfl rfl rfl rfl (Nat.le_of_ble_eq_true rfl) (Nat.le_of_ble_eq_true rfl) (Nat.le_of_ble_eq_true rfl) ⟨(Nat.le_of_ble_eq_true rfl), (Nat.le_of_ble_eq_true rfl)⟩ rfl rfl dX5_digest_97 ?_
              refine a_i2l (pc := 100) (v := ((if true = true then up else lo) (bo k)).toInt64) C rfl dX5_digest_100 ?_
              refine a_ladd (pc := 101) (v := ((((dgS (utR so ph fB fA bo fu me eE lE dug f k) (dgU (utR so ph fB fA bo fu me eE lE dug f) (fun v => lo (bo v)) (fun v => up (bo v)) (dgS (ctR n r mz f bd dug li fB lo up bo eE ph) 431 9) k) 10) * (31)) + (((if false = true then up else lo) (bo k)).toInt64)) * (31)) + (((if true = true then up else lo) (bo k)).toInt64)) C rfl dX5_digest_101 ?_
              refine a_lstoren (pc := 102) (L' := [(0, .ref (a 0)), (1, .long (((((dgS (utR so ph fB fA bo fu me eE lE dug f k) (dgU (utR so ph fB fA bo fu me eE lE dug f) (fun v => lo (bo v)) (fun v => up (bo v)) (dgS (ctR n r mz f bd dug li fB lo up bo eE ph) 431 9) k) 10) * (31)) + (((if false = true then up else lo) (bo k)).toInt64)) * (31)) + (((if true = true then up else lo) (bo k)).toInt64))), (3, .int (nI k)), (4, .int (nI 10))]) C (by decide) rfl rfl dX5_digest_102 ?_
              refine a_iinc (pc := 103) (v := nI (k + 1)) (L' := [(0, .ref (a 0)), (1, .long (((((dgS (utR so ph fB fA bo fu me eE lE dug f k) (dgU (utR so ph fB fA bo fu me eE lE dug f) (fun v => lo (bo v)) (fun v => up (bo v)) (dgS (ctR n r mz f bd dug li fB lo up bo eE ph) 431 9) k) 10) * (31)) + (((if false = true then up else lo) (bo k)).toInt64)) * (31)) + (((if true = true then up else lo) (bo k)).toInt64))), (3, .int (nI (k + 1))), (4, .int (nI 10))]) C 2 rfl (nI_inc _) (by decide) rfl dX5_digest_103 ?_
              refine a_goto (pc := 106) (tgt := 33) C (by decide) dX5_digest_106 ?_
              refine aw_locals (L' := [(0, .ref (a 0)), (1, .long (((((dgS (utR so ph fB fA bo fu me eE lE dug f k) (dgU (utR so ph fB fA bo fu me eE lE dug f) (fun v => lo (bo v)) (fun v => up (bo v)) (dgS (ctR n r mz f bd dug li fB lo up bo eE ph) 431 9) k) 10) * (31)) + (((if false = true then up else lo) (bo k)).toInt64)) * (31)) + (((if true = true then up else lo) (bo k)).toInt64))), (3, .int (nI (k + 1)))]) [0, 1, 2] rfl ?_
              refine aw_L (L' := [(0, .ref (a 0)), (1, .long (dgU (utR so ph fB fA bo fu me eE lE dug f) (fun v => lo (bo v)) (fun v => up (bo v)) (dgS (ctR n r mz f bd dug li fB lo up bo eE ph) 431 9) (k + 1))), (3, .int (nI (k + 1)))]) (congrArg (fun zz9 => ([(0, .ref (a 0)), (1, .long zz9), (3, .int (nI (k + 1)))] : List (Nat × Value))) (rfl : (((((dgS (utR so ph fB fA bo fu me eE lE dug f k) (dgU (utR so ph fB fA bo fu me eE lE dug f) (fun v => lo (bo v)) (fun v => up (bo v)) (dgS (ctR n r mz f bd dug li fB lo up bo eE ph) 431 9) k) 10) * (31)) + (((if false = true then up else lo) (bo k)).toInt64)) * (31)) + (((if true = true then up else lo) (bo k)).toInt64)) = (dgU (utR so ph fB fA bo fu me eE lE dug f) (fun v => lo (bo v)) (fun v => up (bo v)) (dgS (ctR n r mz f bd dug li fB lo up bo eE ph) 431 9) (k + 1)))) ?_
              exact ih (k + 1) (by omega)
            | succ jz ih =>
              intro i hk_i
              have hlt_i : i < 10 := by omega
              refine a_iload (pc := 47) C 3 rfl dX5_digest_47 ?_
              refine a_bipush (pc := 49) (v := nI 10) C cb_10 dX5_digest_49 ?_
              refine a_icn_ge_n (pc := 51) C (by omega) (by omega) (by omega) dX5_digest_51 ⟨75, by decide⟩ ?_
              refine a_lloadn (pc := 54) C 1 rfl rfl dX5_digest_54 ?_
              refine a_ldc2 (pc := 55) C kl_X5_278 dX5_digest_55 ?_
              refine a_lmul (pc := 58) (v := (dgS (utR so ph fB fA bo fu me eE lE dug f k) (dgU (utR so ph fB fA bo fu me eE lE dug f) (fun v => lo (bo v)) (fun v => up (bo v)) (dgS (ctR n r mz f bd dug li fB lo up bo eE ph) 431 9) k) i) * (31)) C rfl dX5_digest_58 ?_
              refine a_aloadn (pc := 59) C 0 rfl rfl dX5_digest_59 ?_
              refine a_iloadn (pc := 60) C 2 rfl rfl dX5_digest_60 ?_
              refine a_iload (pc := 61) C 3 rfl dX5_digest_61 ?_
              refine a_callV1 (pc := 63) (k' := 0) (n' := 0) C (c_X5_unit κ a hn hf hbo hfu (by omega) (by omega)) yv_X5_unit ml_X5_283 wi_X5_unit wl_X5_unit 0 rfl rfl rfl rfl (Nat.le_of_ble_eq_true rfl) (Nat.le_of_ble_eq_true rfl) (Nat.le_of_ble_eq_true rfl) ⟨(Nat.le_of_ble_eq_true rfl), (Nat.le_of_ble_eq_true rfl)⟩ rfl rfl dX5_digest_63 ?_
              refine a_i2l (pc := 66) (v := (utR so ph fB fA bo fu me eE lE dug f k i).toInt64) C rfl dX5_digest_66 ?_
              refine a_ladd (pc := 67) (v := ((dgS (utR so ph fB fA bo fu me eE lE dug f k) (dgU (utR so ph fB fA bo fu me eE lE dug f) (fun v => lo (bo v)) (fun v => up (bo v)) (dgS (ctR n r mz f bd dug li fB lo up bo eE ph) 431 9) k) i) * (31)) + ((utR so ph fB fA bo fu me eE lE dug f k i).toInt64)) C rfl dX5_digest_67 ?_
              refine a_lstoren (pc := 68) (L' := [(0, .ref (a 0)), (1, .long (((dgS (utR so ph fB fA bo fu me eE lE dug f k) (dgU (utR so ph fB fA bo fu me eE lE dug f) (fun v => lo (bo v)) (fun v => up (bo v)) (dgS (ctR n r mz f bd dug li fB lo up bo eE ph) 431 9) k) i) * (31)) + ((utR so ph fB fA bo fu me eE lE dug f k i).toInt64))), (3, .int (nI k)), (4, .int (nI i))]) C (by decide) rfl rfl dX5_digest_68 ?_
              refine a_iinc (pc := 69) (v := nI (i + 1)) (L' := [(0, .ref (a 0)), (1, .long (((dgS (utR so ph fB fA bo fu me eE lE dug f k) (dgU (utR so ph fB fA bo fu me eE lE dug f) (fun v => lo (bo v)) (fun v => up (bo v)) (dgS (ctR n r mz f bd dug li fB lo up bo eE ph) 431 9) k) i) * (31)) + ((utR so ph fB fA bo fu me eE lE dug f k i).toInt64))), (3, .int (nI k)), (4, .int (nI (i + 1)))]) C 3 rfl (nI_inc _) (by decide) rfl dX5_digest_69 ?_
              refine a_goto (pc := 72) (tgt := 47) C (by decide) dX5_digest_72 ?_
              refine aw_L (L' := [(0, .ref (a 0)), (1, .long (dgS (utR so ph fB fA bo fu me eE lE dug f k) (dgU (utR so ph fB fA bo fu me eE lE dug f) (fun v => lo (bo v)) (fun v => up (bo v)) (dgS (ctR n r mz f bd dug li fB lo up bo eE ph) 431 9) k) (i + 1))), (3, .int (nI k)), (4, .int (nI (i + 1)))]) (congrArg (fun zz9 => ([(0, .ref (a 0)), (1, .long zz9), (3, .int (nI k)), (4, .int (nI (i + 1)))] : List (Nat × Value))) (rfl : (((dgS (utR so ph fB fA bo fu me eE lE dug f k) (dgU (utR so ph fB fA bo fu me eE lE dug f) (fun v => lo (bo v)) (fun v => up (bo v)) (dgS (ctR n r mz f bd dug li fB lo up bo eE ph) 431 9) k) i) * (31)) + ((utR so ph fB fA bo fu me eE lE dug f k i).toInt64)) = (dgS (utR so ph fB fA bo fu me eE lE dug f k) (dgU (utR so ph fB fA bo fu me eE lE dug f) (fun v => lo (bo v)) (fun v => up (bo v)) (dgS (ctR n r mz f bd dug li fB lo up bo eE ph) 431 9) k) (i + 1)))) ?_
              exact ih (i + 1) (by omega)
          refine aw_L (L' := [(0, .ref (a 0)), (1, .long (dgS (utR so ph fB fA bo fu me eE lE dug f k) (dgU (utR so ph fB fA bo fu me eE lE dug f) (fun v => lo (bo v)) (fun v => up (bo v)) (dgS (ctR n r mz f bd dug li fB lo up bo eE ph) 431 9) k) 0)), (3, .int (nI k)), (4, .int (nI 0))]) (congrArg (fun zz9 => ([(0, .ref (a 0)), (1, .long zz9), (3, .int (nI k)), (4, .int (nI 0))] : List (Nat × Value))) (rfl : (dgU (utR so ph fB fA bo fu me eE lE dug f) (fun v => lo (bo v)) (fun v => up (bo v)) (dgS (ctR n r mz f bd dug li fB lo up bo eE ph) 431 9) k) = (dgS (utR so ph fB fA bo fu me eE lE dug f k) (dgU (utR so ph fB fA bo fu me eE lE dug f) (fun v => lo (bo v)) (fun v => up (bo v)) (dgS (ctR n r mz f bd dug li fB lo up bo eE ph) 431 9) k) 0))) ?_
          exact LP47 (10) (0) (by omega)
      refine aw_L (L' := [(0, .ref (a 0)), (1, .long (dgU (utR so ph fB fA bo fu me eE lE dug f) (fun v => lo (bo v)) (fun v => up (bo v)) (dgS (ctR n r mz f bd dug li fB lo up bo eE ph) 431 9) 0)), (3, .int (nI 0))]) (congrArg (fun zz9 => ([(0, .ref (a 0)), (1, .long zz9), (3, .int (nI 0))] : List (Nat × Value))) (rfl : (dgS (ctR n r mz f bd dug li fB lo up bo eE ph) 431 9) = (dgU (utR so ph fB fA bo fu me eE lE dug f) (fun v => lo (bo v)) (fun v => up (bo v)) (dgS (ctR n r mz f bd dug li fB lo up bo eE ph) 431 9) 0))) ?_
      exact LP33 (n) (0) (by omega)
    | succ jz ih =>
      intro k hk_k
      have hlt_k : k < 9 := by omega
      refine a_iloadn (pc := 6) C 2 rfl rfl dX5_digest_6 ?_
      refine a_bipush (pc := 7) (v := nI 9) C cb_9 dX5_digest_7 ?_
      refine a_icn_ge_n (pc := 9) C (by omega) (by omega) (by omega) dX5_digest_9 ⟨31, by decide⟩ ?_
      refine a_lloadn (pc := 12) C 1 rfl rfl dX5_digest_12 ?_
      refine a_ldc2 (pc := 13) C kl_X5_278 dX5_digest_13 ?_
      refine a_lmul (pc := 16) (v := (dgS (ctR n r mz f bd dug li fB lo up bo eE ph) 431 k) * (31)) C rfl dX5_digest_16 ?_
      refine a_aloadn (pc := 17) C 0 rfl rfl dX5_digest_17 ?_
      refine a_iloadn (pc := 18) C 2 rfl rfl dX5_digest_18 ?_
      refine a_callV1 (pc := 19) (k' := 0) (n' := 0) C (c_X5_count κ a hn hm hbo (by omega)) yv_X5_count ml_X5_280 wi_X5_count wl_X5_count 0 rfl rfl rfl rfl (Nat.le_of_ble_eq_true rfl) (Nat.le_of_ble_eq_true rfl) (Nat.le_of_ble_eq_true rfl) ⟨(Nat.le_of_ble_eq_true rfl), (Nat.le_of_ble_eq_true rfl)⟩ rfl rfl dX5_digest_19 ?_
      refine a_i2l (pc := 22) (v := (ctR n r mz f bd dug li fB lo up bo eE ph k).toInt64) C rfl dX5_digest_22 ?_
      refine a_ladd (pc := 23) (v := ((dgS (ctR n r mz f bd dug li fB lo up bo eE ph) 431 k) * (31)) + ((ctR n r mz f bd dug li fB lo up bo eE ph k).toInt64)) C rfl dX5_digest_23 ?_
      refine a_lstoren (pc := 24) (L' := [(0, .ref (a 0)), (1, .long (((dgS (ctR n r mz f bd dug li fB lo up bo eE ph) 431 k) * (31)) + ((ctR n r mz f bd dug li fB lo up bo eE ph k).toInt64))), (3, .int (nI k))]) C (by decide) rfl rfl dX5_digest_24 ?_
      refine a_iinc (pc := 25) (v := nI (k + 1)) (L' := [(0, .ref (a 0)), (1, .long (((dgS (ctR n r mz f bd dug li fB lo up bo eE ph) 431 k) * (31)) + ((ctR n r mz f bd dug li fB lo up bo eE ph k).toInt64))), (3, .int (nI (k + 1)))]) C 2 rfl (nI_inc _) (by decide) rfl dX5_digest_25 ?_
      refine a_goto (pc := 28) (tgt := 6) C (by decide) dX5_digest_28 ?_
      refine aw_L (L' := [(0, .ref (a 0)), (1, .long (dgS (ctR n r mz f bd dug li fB lo up bo eE ph) 431 (k + 1))), (3, .int (nI (k + 1)))]) (congrArg (fun zz9 => ([(0, .ref (a 0)), (1, .long zz9), (3, .int (nI (k + 1)))] : List (Nat × Value))) (rfl : (((dgS (ctR n r mz f bd dug li fB lo up bo eE ph) 431 k) * (31)) + ((ctR n r mz f bd dug li fB lo up bo eE ph k).toInt64)) = (dgS (ctR n r mz f bd dug li fB lo up bo eE ph) 431 (k + 1)))) ?_
      exact ih (k + 1) (by omega)
  refine aw_L (L' := [(0, .ref (a 0)), (1, .long (dgS (ctR n r mz f bd dug li fB lo up bo eE ph) 431 0)), (3, .int (nI 0))]) (congrArg (fun zz9 => ([(0, .ref (a 0)), (1, .long zz9), (3, .int (nI 0))] : List (Nat × Value))) (rfl : (431) = (dgS (ctR n r mz f bd dug li fB lo up bo eE ph) 431 0))) ?_
  exact LP6 (9) (0) (by omega)
