set_option maxHeartbeats 4000000 in
set_option maxRecDepth 100000 in
theorem c_X5_requireUnit (κ : aK) (a : Nat → Nat) {n : Nat} {dug : Nat → Bool} {dtd : Nat → Bool} {so : Nat → Int32} {ph : Nat → Int32} {uf : Nat → Int32} {ul : Nat → Int32} {r : Nat} {ki : Nat → Int32} {lt : Nat → Nat} {er : Nat → Nat} {mz : Nat} {bd : Nat → Bool} {bo : Nat → Nat} {me : Nat → Nat → Bool} {dE : Nat → Nat → Bool} {eE : Nat → Nat → Bool} {lE : Nat → Nat → Bool} {li : Nat → Nat → Bool} {fB : Nat → Int32} {fA : Nat → Int32} {sL : Nat → Int32} {f : Nat} {fu : Nat → Nat} {fs : Nat → Int32} {ff : Nat → Int32} {fl : Nat → Int32} {xs : Nat → Int32} {ys : Nat → Int32} {zs : Nat → Int32} {oL : Nat → Int32} {oU : Nat → Int32} {lo : Nat → Int32} {up : Nat → Int32} {X : va_W} {j : Nat} (hn : n ≤ 40) (hj : j < n) : CM yX5_requireUnit cX5_requireUnit 2 none ({ frames := 6, cells := 0, slots := 0, locals := 110 } : Room) κ [.ref (a 0), .int (nI j)] (wC κ a n dug dtd so ph uf ul r ki lt er mz bd bo me dE eE lE li fB fA sL f fu fs ff fl xs ys zs oL oU lo up X) (aD none (wC κ a n dug dtd so ph uf ul r ki lt er mz bd bo me dE eE lE li fB fA sL f fu fs ff fl xs ys zs oL oU lo up X)) := by
  refine cm_entry (own := RX5) (L := [(0, .ref (a 0)), (1, .int (nI j))]) (by decide +kernel) rfl (lv_entry [.ref (a 0), .int (nI j)] (n := 2) (Nat.le_of_ble_eq_true rfl)) (fun g C E => ?_)
  refine a_iloadn (pc := 0) C 1 rfl rfl dX5_requireUnit_0 ?_
  refine a_iconst (pc := 1) (v := nI 0) C ci_0 dX5_requireUnit_1 ?_
  refine a_aloadn (pc := 2) C 0 rfl rfl dX5_requireUnit_2 ?_
  refine a_get (pc := 3) C fl_X5_10 0 rfl rfl dX5_requireUnit_3 ?_
  refine a_get (pc := 6) C fl_X5_55 1 rfl rfl dX5_requireUnit_6 ?_
  refine a_iconst (pc := 9) (v := nI 1) C ci_1 dX5_requireUnit_9 ?_
  refine a_isub (pc := 10) (v := nI n - nI 1) C rfl dX5_requireUnit_10 ?_
  refine a_callS1 (pc := 11) (k' := 0) (n' := 0) C (c_X5_isWithin κ) yv_X5_isWithin ml_X5_44 ws_X5_isWithin rfl rfl (Nat.le_of_ble_eq_true rfl) (Nat.le_of_ble_eq_true rfl) (Nat.le_of_ble_eq_true rfl) ⟨(Nat.le_of_ble_eq_true rfl), (Nat.le_of_ble_eq_true rfl)⟩ rfl rfl dX5_requireUnit_11 ?_
  refine a_ifb_ne_y (pc := 14) (tgt := 28) C ((okU_n (by omega)).mpr (okU_j hj)) (by decide) dX5_requireUnit_14 ?_
  exact a_vret (pc := 28) C E (Nat.le_of_ble_eq_true rfl) (Nat.le_of_ble_eq_true rfl) ⟨rfl, rfl⟩ dX5_requireUnit_28
set_option maxHeartbeats 4000000 in
set_option maxRecDepth 100000 in
theorem c_X5_requireRelation (κ : aK) (a : Nat → Nat) {n : Nat} {dug : Nat → Bool} {dtd : Nat → Bool} {so : Nat → Int32} {ph : Nat → Int32} {uf : Nat → Int32} {ul : Nat → Int32} {r : Nat} {ki : Nat → Int32} {lt : Nat → Nat} {er : Nat → Nat} {mz : Nat} {bd : Nat → Bool} {bo : Nat → Nat} {me : Nat → Nat → Bool} {dE : Nat → Nat → Bool} {eE : Nat → Nat → Bool} {lE : Nat → Nat → Bool} {li : Nat → Nat → Bool} {fB : Nat → Int32} {fA : Nat → Int32} {sL : Nat → Int32} {f : Nat} {fu : Nat → Nat} {fs : Nat → Int32} {ff : Nat → Int32} {fl : Nat → Int32} {xs : Nat → Int32} {ys : Nat → Int32} {zs : Nat → Int32} {oL : Nat → Int32} {oU : Nat → Int32} {lo : Nat → Int32} {up : Nat → Int32} {X : va_W} {j : Nat} (hr : r ≤ 80) (hj : j < r) : CM yX5_requireRelation cX5_requireRelation 2 none ({ frames := 6, cells := 0, slots := 0, locals := 110 } : Room) κ [.ref (a 0), .int (nI j)] (wC κ a n dug dtd so ph uf ul r ki lt er mz bd bo me dE eE lE li fB fA sL f fu fs ff fl xs ys zs oL oU lo up X) (aD none (wC κ a n dug dtd so ph uf ul r ki lt er mz bd bo me dE eE lE li fB fA sL f fu fs ff fl xs ys zs oL oU lo up X)) := by
  refine cm_entry (own := RX5) (L := [(0, .ref (a 0)), (1, .int (nI j))]) (by decide +kernel) rfl (lv_entry [.ref (a 0), .int (nI j)] (n := 2) (Nat.le_of_ble_eq_true rfl)) (fun g C E => ?_)
  refine a_iloadn (pc := 0) C 1 rfl rfl dX5_requireRelation_0 ?_
  refine a_iconst (pc := 1) (v := nI 0) C ci_0 dX5_requireRelation_1 ?_
  refine a_aloadn (pc := 2) C 0 rfl rfl dX5_requireRelation_2 ?_
  refine a_get (pc := 3) C fl_X5_19 0 rfl rfl dX5_requireRelation_3 ?_
  refine a_get (pc := 6) C fl_X5_77 2 rfl rfl dX5_requireRelation_6 ?_
  refine a_iconst (pc := 9) (v := nI 1) C ci_1 dX5_requireRelation_9 ?_
  refine a_isub (pc := 10) (v := nI r - nI 1) C rfl dX5_requireRelation_10 ?_
  refine a_callS1 (pc := 11) (k' := 0) (n' := 0) C (c_X5_isWithin κ) yv_X5_isWithin ml_X5_44 ws_X5_isWithin rfl rfl (Nat.le_of_ble_eq_true rfl) (Nat.le_of_ble_eq_true rfl) (Nat.le_of_ble_eq_true rfl) ⟨(Nat.le_of_ble_eq_true rfl), (Nat.le_of_ble_eq_true rfl)⟩ rfl rfl dX5_requireRelation_11 ?_
  refine a_ifb_ne_y (pc := 14) (tgt := 28) C ((okU_n (by omega)).mpr (okU_j hj)) (by decide) dX5_requireRelation_14 ?_
  exact a_vret (pc := 28) C E (Nat.le_of_ble_eq_true rfl) (Nat.le_of_ble_eq_true rfl) ⟨rfl, rfl⟩ dX5_requireRelation_28
set_option maxHeartbeats 4000000 in
set_option maxRecDepth 100000 in
theorem c_X5_requireFind (κ : aK) (a : Nat → Nat) {n : Nat} {dug : Nat → Bool} {dtd : Nat → Bool} {so : Nat → Int32} {ph : Nat → Int32} {uf : Nat → Int32} {ul : Nat → Int32} {r : Nat} {ki : Nat → Int32} {lt : Nat → Nat} {er : Nat → Nat} {mz : Nat} {bd : Nat → Bool} {bo : Nat → Nat} {me : Nat → Nat → Bool} {dE : Nat → Nat → Bool} {eE : Nat → Nat → Bool} {lE : Nat → Nat → Bool} {li : Nat → Nat → Bool} {fB : Nat → Int32} {fA : Nat → Int32} {sL : Nat → Int32} {f : Nat} {fu : Nat → Nat} {fs : Nat → Int32} {ff : Nat → Int32} {fl : Nat → Int32} {xs : Nat → Int32} {ys : Nat → Int32} {zs : Nat → Int32} {oL : Nat → Int32} {oU : Nat → Int32} {lo : Nat → Int32} {up : Nat → Int32} {X : va_W} {j : Nat} (hf : f ≤ 60) (hj : j < f) : CM yX5_requireFind cX5_requireFind 2 none ({ frames := 6, cells := 0, slots := 0, locals := 110 } : Room) κ [.ref (a 0), .int (nI j)] (wC κ a n dug dtd so ph uf ul r ki lt er mz bd bo me dE eE lE li fB fA sL f fu fs ff fl xs ys zs oL oU lo up X) (aD none (wC κ a n dug dtd so ph uf ul r ki lt er mz bd bo me dE eE lE li fB fA sL f fu fs ff fl xs ys zs oL oU lo up X)) := by
  refine cm_entry (own := RX5) (L := [(0, .ref (a 0)), (1, .int (nI j))]) (by decide +kernel) rfl (lv_entry [.ref (a 0), .int (nI j)] (n := 2) (Nat.le_of_ble_eq_true rfl)) (fun g C E => ?_)
  refine a_iloadn (pc := 0) C 1 rfl rfl dX5_requireFind_0 ?_
  refine a_iconst (pc := 1) (v := nI 0) C ci_0 dX5_requireFind_1 ?_
  refine a_aloadn (pc := 2) C 0 rfl rfl dX5_requireFind_2 ?_
  refine a_get (pc := 3) C fl_X5_33 0 rfl rfl dX5_requireFind_3 ?_
  refine a_get (pc := 6) C fl_X5_121 4 rfl rfl dX5_requireFind_6 ?_
  refine a_iconst (pc := 9) (v := nI 1) C ci_1 dX5_requireFind_9 ?_
  refine a_isub (pc := 10) (v := nI f - nI 1) C rfl dX5_requireFind_10 ?_
  refine a_callS1 (pc := 11) (k' := 0) (n' := 0) C (c_X5_isWithin κ) yv_X5_isWithin ml_X5_44 ws_X5_isWithin rfl rfl (Nat.le_of_ble_eq_true rfl) (Nat.le_of_ble_eq_true rfl) (Nat.le_of_ble_eq_true rfl) ⟨(Nat.le_of_ble_eq_true rfl), (Nat.le_of_ble_eq_true rfl)⟩ rfl rfl dX5_requireFind_11 ?_
  refine a_ifb_ne_y (pc := 14) (tgt := 28) C ((okU_n (by omega)).mpr (okU_j hj)) (by decide) dX5_requireFind_14 ?_
  exact a_vret (pc := 28) C E (Nat.le_of_ble_eq_true rfl) (Nat.le_of_ble_eq_true rfl) ⟨rfl, rfl⟩ dX5_requireFind_28
set_option maxHeartbeats 4000000 in
set_option maxRecDepth 100000 in
theorem c_X5_requireFact (κ : aK) {X : va_W} {j : Nat} {m : Nat} (hm : m ≤ 100) (hj : j < m) : CM yX5_requireFact cX5_requireFact 2 none ({ frames := 6, cells := 0, slots := 0, locals := 110 } : Room) κ [.int (nI j), .int (nI m)] (X) (aD none (X)) := by
  refine cm_entry (own := RX5) (L := [(0, .int (nI j)), (1, .int (nI m))]) (by decide +kernel) rfl (lv_entry [.int (nI j), .int (nI m)] (n := 2) (Nat.le_of_ble_eq_true rfl)) (fun g C E => ?_)
  refine a_iloadn (pc := 0) C 0 rfl rfl dX5_requireFact_0 ?_
  refine a_iconst (pc := 1) (v := nI 0) C ci_0 dX5_requireFact_1 ?_
  refine a_iloadn (pc := 2) C 1 rfl rfl dX5_requireFact_2 ?_
  refine a_iconst (pc := 3) (v := nI 1) C ci_1 dX5_requireFact_3 ?_
  refine a_isub (pc := 4) (v := nI m - nI 1) C rfl dX5_requireFact_4 ?_
  refine a_callS1 (pc := 5) (k' := 0) (n' := 0) C (c_X5_isWithin κ) yv_X5_isWithin ml_X5_44 ws_X5_isWithin rfl rfl (Nat.le_of_ble_eq_true rfl) (Nat.le_of_ble_eq_true rfl) (Nat.le_of_ble_eq_true rfl) ⟨(Nat.le_of_ble_eq_true rfl), (Nat.le_of_ble_eq_true rfl)⟩ rfl rfl dX5_requireFact_5 ?_
  refine a_ifb_ne_y (pc := 8) (tgt := 22) C ((okU_n (by omega)).mpr (okU_j hj)) (by decide) dX5_requireFact_8 ?_
  exact a_vret (pc := 22) C E (Nat.le_of_ble_eq_true rfl) (Nat.le_of_ble_eq_true rfl) ⟨rfl, rfl⟩ dX5_requireFact_22
set_option maxHeartbeats 4000000 in
set_option maxRecDepth 100000 in
theorem c_X5_requirePlace (κ : aK) {X : va_W} {j : Nat} (hj : j < 40) : CM yX5_requirePlace cX5_requirePlace 1 none ({ frames := 6, cells := 0, slots := 0, locals := 110 } : Room) κ [.int (nI j)] (X) (aD none (X)) := by
  refine cm_entry (own := RX5) (L := [(0, .int (nI j))]) (by decide +kernel) rfl (lv_entry [.int (nI j)] (n := 1) (Nat.le_of_ble_eq_true rfl)) (fun g C E => ?_)
  refine a_iloadn (pc := 0) C 0 rfl rfl dX5_requirePlace_0 ?_
  refine a_iconst (pc := 1) (v := nI 0) C ci_0 dX5_requirePlace_1 ?_
  refine a_bipush (pc := 2) (v := nI 39) C cb_39 dX5_requirePlace_2 ?_
  refine a_callS1 (pc := 4) (k' := 0) (n' := 0) C (c_X5_isWithin κ) yv_X5_isWithin ml_X5_44 ws_X5_isWithin rfl rfl (Nat.le_of_ble_eq_true rfl) (Nat.le_of_ble_eq_true rfl) (Nat.le_of_ble_eq_true rfl) ⟨(Nat.le_of_ble_eq_true rfl), (Nat.le_of_ble_eq_true rfl)⟩ rfl rfl dX5_requirePlace_4 ?_
  refine a_ifb_ne_y (pc := 7) (tgt := 21) C ((okU_c (by omega)).mpr (okU_j hj)) (by decide) dX5_requirePlace_7 ?_
  exact a_vret (pc := 21) C E (Nat.le_of_ble_eq_true rfl) (Nat.le_of_ble_eq_true rfl) ⟨rfl, rfl⟩ dX5_requirePlace_21
set_option maxHeartbeats 4000000 in
set_option maxRecDepth 100000 in
theorem c_X5_requireYears (κ : aK) {X : va_W} {x : Int32} {y : Int32} (h1 : yrB x = true) (h2 : yrB y = true) : CM yX5_requireYears cX5_requireYears 2 none ({ frames := 6, cells := 0, slots := 0, locals := 110 } : Room) κ [.int x, .int y] (X) (aD none (X)) := by
  refine cm_entry (own := RX5) (L := [(0, .int x), (1, .int y)]) (by decide +kernel) rfl (lv_entry [.int x, .int y] (n := 2) (Nat.le_of_ble_eq_true rfl)) (fun g C E => ?_)
  refine a_iloadn (pc := 0) C 0 rfl rfl dX5_requireYears_0 ?_
  refine a_sipush (pc := 1) (v := (-5000 : Int32)) C cs_m5000 dX5_requireYears_1 ?_
  refine a_sipush (pc := 4) (v := nI 2000) C cs_2000 dX5_requireYears_4 ?_
  refine a_callS1 (pc := 7) (k' := 0) (n' := 0) C (c_X5_isWithin κ) yv_X5_isWithin ml_X5_44 ws_X5_isWithin rfl rfl (Nat.le_of_ble_eq_true rfl) (Nat.le_of_ble_eq_true rfl) (Nat.le_of_ble_eq_true rfl) ⟨(Nat.le_of_ble_eq_true rfl), (Nat.le_of_ble_eq_true rfl)⟩ rfl rfl dX5_requireYears_7 ?_
  refine a_ifb_eq_n (pc := 10) C h1 dX5_requireYears_10 ⟨26, by decide⟩ ?_
  refine a_iloadn (pc := 13) C 1 rfl rfl dX5_requireYears_13 ?_
  refine a_sipush (pc := 14) (v := (-5000 : Int32)) C cs_m5000 dX5_requireYears_14 ?_
  refine a_sipush (pc := 17) (v := nI 2000) C cs_2000 dX5_requireYears_17 ?_
  refine a_callS1 (pc := 20) (k' := 0) (n' := 0) C (c_X5_isWithin κ) yv_X5_isWithin ml_X5_44 ws_X5_isWithin rfl rfl (Nat.le_of_ble_eq_true rfl) (Nat.le_of_ble_eq_true rfl) (Nat.le_of_ble_eq_true rfl) ⟨(Nat.le_of_ble_eq_true rfl), (Nat.le_of_ble_eq_true rfl)⟩ rfl rfl dX5_requireYears_20 ?_
  refine a_ifb_ne_y (pc := 23) (tgt := 37) C h2 (by decide) dX5_requireYears_23 ?_
  exact a_vret (pc := 37) C E (Nat.le_of_ble_eq_true rfl) (Nat.le_of_ble_eq_true rfl) ⟨rfl, rfl⟩ dX5_requireYears_37
