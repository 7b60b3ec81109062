set_option maxHeartbeats 4000000 in
set_option maxRecDepth 100000 in
theorem c_X5_requireUnit (κ : aK) (a : Nat → Nat) {n : Nat} {dug : Nat → Bool} {dtd : Nat → Bool} {so : Nat → Int32} {ph : Nat → Int32} {uf : Nat → Int32} {ul : Nat → Int32} {r : Nat} {ki : Nat → Int32} {lt : Nat → Nat} {er : Nat → Nat} {mz : Nat} {bd : Nat → Bool} {bo : Nat → Nat} {me : Nat → Nat → Bool} {dE : Nat → Nat → Bool} {eE : Nat → Nat → Bool} {lE : Nat → Nat → Bool} {li : Nat → Nat → Bool} {fB : Nat → Int32} {fA : Nat → Int32} {sL : Nat → Int32} {f : Nat} {fu : Nat → Nat} {fs : Nat → Int32} {ff : Nat → Int32} {fl : Nat → Int32} {xs : Nat → Int32} {ys : Nat → Int32} {zs : Nat → Int32} {oL : Nat → Int32} {oU : Nat → Int32} {lo : Nat → Int32} {up : Nat → Int32} {X : va_W} {j : Nat} (hn : n ≤ 40) (hj : j < n) : CM yX5_requireUnit cX5_requireUnit 2 none ({ frames := 6, cells := 0, slots := 0, locals := 110 } : Room) κ [.ref (a 0), .int (nI j)] (wC κ a n dug dtd so ph uf ul r ki lt er mz bd bo me dE eE lE li fB fA sL f fu fs ff fl xs ys zs oL oU lo up X) (aD none (wC κ a n dug dtd so ph uf ul r ki lt er mz bd bo me dE eE lE li fB fA sL f fu fs ff fl xs ys zs oL oU lo up X)) := by
  refine cm_entry (own := RX5) (L := [(0, .ref (a 0)), (1, .int (nI j))]) (by decide +kernel) rfl (lv_entry [.ref (a 0), .int (nI j)] (n := 2) (Nat.le_of_ble_eq_true rfl)) (fun g C E => ?_)
  refine a_iloadn (pc := 0) C 1 rfl rfl dX5_requireUnit_0 ?_
  refine a_iconst (pc := 1) (v := nI 0) C ci_0 dX5_requireUnit_1 ?_
  refine a_aloadn (pc := 2) C 0 rfl rfl dX5_requireUnit_2 ?_
  refine a_get (pc := 3) C fl_X5_10 0 rfl rfl dX5_requireUnit_3 ?_
  refine a_get (pc := 6) C fl_X5_55 1 rfl rfl dX5_requireUnit_6 ?_
  refine a_iconst (pc := 9) (v := nI 1) C ci_1 dX5_requireUnit_9 ?_
  refine a_isub (pc := 10) (v := nI n - nI 1) C rfl dX5_requireUnit_10 ?_
  refine a_callS1 (pc := 11) (k' := 0) (n' := 0) C (c_X5_isWithin κ) yv_X5_isWithin ml_X5_44 ws_X5_isWithin rfl rfl (Nat.le_of_ble_eq_true rfl) (Nat.le_of_ble_eq_true rfl) (Nat.le_of_ble_eq_true rfl) ⟨(Nat.le_of_ble_eq_true rfl), (Nat.le_of_ble_eq_true rfl)⟩ rfl rfl dX5_requireUnit_11 ?_
  refine a_ifb_ne_y (pc := 14) (tgt := 28) C ((okU_n (by omega)).mpr (okU_j hj)) (by decide) dX5_requireUnit_14 ?_
  exact a_vret (pc := 28) C E (Nat.le_of_ble_eq_true rfl) (Nat.le_of_ble_eq_true rfl) ⟨rfl, rfl⟩ dX5_requireUnit_28

set_option maxHeartbeats 4000000 in
set_option maxRecDepth 100000 in
theorem c_X5_requireUnit_b (κ : aK) (a : Nat → Nat) {n : Nat} {dug : Nat → Bool} {dtd : Nat → Bool} {so : Nat → Int32} {ph : Nat → Int32} {uf : Nat → Int32} {ul : Nat → Int32} {r : Nat} {ki : Nat → Int32} {lt : Nat → Nat} {er : Nat → Nat} {mz : Nat} {bd : Nat → Bool} {bo : Nat → Nat} {me : Nat → Nat → Bool} {dE : Nat → Nat → Bool} {eE : Nat → Nat → Bool} {lE : Nat → Nat → Bool} {li : Nat → Nat → Bool} {fB : Nat → Int32} {fA : Nat → Int32} {sL : Nat → Int32} {f : Nat} {fu : Nat → Nat} {fs : Nat → Int32} {ff : Nat → Int32} {fl : Nat → Int32} {xs : Nat → Int32} {ys : Nat → Int32} {zs : Nat → Int32} {oL : Nat → Int32} {oU : Nat → Int32} {lo : Nat → Int32} {up : Nat → Int32} {X : va_W} {x : Int32} (hn : n ≤ 40) (hb : ¬ okU n x) : CX yX5_requireUnit cX5_requireUnit 2 none ({ frames := 6, cells := 1, slots := 6, locals := 110 } : Room) κ [.ref (a 0), .int x] (wC κ a n dug dtd so ph uf ul r ki lt er mz bd bo me dE eE lE li fB fA sL f fu fs ff fl xs ys zs oL oU lo up X) (fun _ _ => False) (fun E w => E = xIO ∧ w = wC κ a n dug dtd so ph uf ul r ki lt er mz bd bo me dE eE lE li fB fA sL f fu fs ff fl xs ys zs oL oU lo up X) := by
  refine cx_entry (own := RX5) (L := [(0, .ref (a 0)), (1, .int x)]) (by decide +kernel) rfl (lv_entry [.ref (a 0), .int x] (n := 2) (Nat.le_of_ble_eq_true rfl)) (fun g C E X => ?_)
  refine a_iloadn (pc := 0) C 1 rfl rfl dX5_requireUnit_0 ?_
  refine a_iconst (pc := 1) (v := nI 0) C ci_0 dX5_requireUnit_1 ?_
  refine a_aloadn (pc := 2) C 0 rfl rfl dX5_requireUnit_2 ?_
  refine a_get (pc := 3) C fl_X5_10 0 rfl rfl dX5_requireUnit_3 ?_
  refine a_get (pc := 6) C fl_X5_55 1 rfl rfl dX5_requireUnit_6 ?_
  refine a_iconst (pc := 9) (v := nI 1) C ci_1 dX5_requireUnit_9 ?_
  refine a_isub (pc := 10) (v := nI n - nI 1) C rfl dX5_requireUnit_10 ?_
  refine a_callS1 (pc := 11) (k' := 0) (n' := 0) C (c_X5_isWithin κ) yv_X5_isWithin ml_X5_44 ws_X5_isWithin rfl rfl (Nat.le_of_ble_eq_true rfl) (Nat.le_of_ble_eq_true rfl) (Nat.le_of_ble_eq_true rfl) ⟨(Nat.le_of_ble_eq_true rfl), (Nat.le_of_ble_eq_true rfl)⟩ rfl rfl dX5_requireUnit_11 ?_
  refine a_ifb_ne_n (pc := 14) C (okU_nf (by omega) hb) dX5_requireUnit_14 ⟨28, by decide⟩ ?_
  exact a_throwW (pc := 17) C X (text := "there is no such unit") (names := xN) (by decide +kernel) (by decide +kernel) cl_X5_296 wz_IndexOutOfBoundsException (by decide +kernel) xat_IO (Nat.le_of_ble_eq_true rfl) (Nat.le_of_ble_eq_true rfl) (Nat.le_of_ble_eq_true rfl) (Nat.le_of_ble_eq_true rfl) (Nat.le_of_ble_eq_true rfl) (Nat.le_of_ble_eq_true rfl) ⟨rfl, rfl⟩ dX5_requireUnit_17 dX5_requireUnit_20 dX5_requireUnit_21 dX5_requireUnit_24 dX5_requireUnit_27

set_option maxHeartbeats 4000000 in
set_option maxRecDepth 100000 in
theorem c_X5_requireRelation (κ : aK) (a : Nat → Nat) {n : Nat} {dug : Nat → Bool} {dtd : Nat → Bool} {so : Nat → Int32} {ph : Nat → Int32} {uf : Nat → Int32} {ul : Nat → Int32} {r : Nat} {ki : Nat → Int32} {lt : Nat → Nat} {er : Nat → Nat} {mz : Nat} {bd : Nat → Bool} {bo : Nat → Nat} {me : Nat → Nat → Bool} {dE : Nat → Nat → Bool} {eE : Nat → Nat → Bool} {lE : Nat → Nat → Bool} {li : Nat → Nat → Bool} {fB : Nat → Int32} {fA : Nat → Int32} {sL : Nat → Int32} {f : Nat} {fu : Nat → Nat} {fs : Nat → Int32} {ff : Nat → Int32} {fl : Nat → Int32} {xs : Nat → Int32} {ys : Nat → Int32} {zs : Nat → Int32} {oL : Nat → Int32} {oU : Nat → Int32} {lo : Nat → Int32} {up : Nat → Int32} {X : va_W} {j : Nat} (hr : r ≤ 80) (hj : j < r) : CM yX5_requireRelation cX5_requireRelation 2 none ({ frames := 6, cells := 0, slots := 0, locals := 110 } : Room) κ [.ref (a 0), .int (nI j)] (wC κ a n dug dtd so ph uf ul r ki lt er mz bd bo me dE eE lE li fB fA sL f fu fs ff fl xs ys zs oL oU lo up X) (aD none (wC κ a n dug dtd so ph uf ul r ki lt er mz bd bo me dE eE lE li fB fA sL f fu fs ff fl xs ys zs oL oU lo up X)) := by
  refine cm_entry (own := RX5) (L := [(0, .ref (a 0)), (1, .int (nI j))]) (by decide +kernel) rfl (lv_entry [.ref (a 0), .int (nI j)] (n := 2) (Nat.le_of_ble_eq_true rfl)) (fun g C E => ?_)
  refine a_iloadn (pc := 0) C 1 rfl rfl dX5_requireRelation_0 ?_
  refine a_iconst (pc := 1) (v := nI 0) C ci_0 dX5_requireRelation_1 ?_
  refine a_aloadn (pc := 2) C 0 rfl rfl dX5_requireRelation_2 ?_
  refine a_get (pc := 3) C fl_X5_19 0 rfl rfl dX5_requireRelation_3 ?_
  refine a_get (pc := 6) C fl_X5_77 2 rfl rfl dX5_requireRelation_6 ?_
  refine a_iconst (pc := 9) (v := nI 1) C ci_1 dX5_requireRelation_9 ?_
  refine a_isub (pc := 10) (v := nI r - nI 1) C rfl dX5_requireRelation_10 ?_
  refine a_callS1 (pc := 11) (k' := 0) (n' := 0) C (c_X5_isWithin κ) yv_X5_isWithin ml_X5_44 ws_X5_isWithin rfl rfl (Nat.le_of_ble_eq_true rfl) (Nat.le_of_ble_eq_true rfl) (Nat.le_of_ble_eq_true rfl) ⟨(Nat.le_of_ble_eq_true rfl), (Nat.le_of_ble_eq_true rfl)⟩ rfl rfl dX5_requireRelation_11 ?_
  refine a_ifb_ne_y (pc := 14) (tgt := 28) C ((okU_n (by omega)).mpr (okU_j hj)) (by decide) dX5_requireRelation_14 ?_
  exact a_vret (pc := 28) C E (Nat.le_of_ble_eq_true rfl) (Nat.le_of_ble_eq_true rfl) ⟨rfl, rfl⟩ dX5_requireRelation_28

set_option maxHeartbeats 4000000 in
set_option maxRecDepth 100000 in
theorem c_X5_requireRelation_b (κ : aK) (a : Nat → Nat) {n : Nat} {dug : Nat → Bool} {dtd : Nat → Bool} {so : Nat → Int32} {ph : Nat → Int32} {uf : Nat → Int32} {ul : Nat → Int32} {r : Nat} {ki : Nat → Int32} {lt : Nat → Nat} {er : Nat → Nat} {mz : Nat} {bd : Nat → Bool} {bo : Nat → Nat} {me : Nat → Nat → Bool} {dE : Nat → Nat → Bool} {eE : Nat → Nat → Bool} {lE : Nat → Nat → Bool} {li : Nat → Nat → Bool} {fB : Nat → Int32} {fA : Nat → Int32} {sL : Nat → Int32} {f : Nat} {fu : Nat → Nat} {fs : Nat → Int32} {ff : Nat → Int32} {fl : Nat → Int32} {xs : Nat → Int32} {ys : Nat → Int32} {zs : Nat → Int32} {oL : Nat → Int32} {oU : Nat → Int32} {lo : Nat → Int32} {up : Nat → Int32} {X : va_W} {x : Int32} (hr : r ≤ 80) (hb : ¬ okU r x) : CX yX5_requireRelation cX5_requireRelation 2 none ({ frames := 6, cells := 1, slots := 6, locals := 110 } : Room) κ [.ref (a 0), .int x] (wC κ a n dug dtd so ph uf ul r ki lt er mz bd bo me dE eE lE li fB fA sL f fu fs ff fl xs ys zs oL oU lo up X) (fun _ _ => False) (fun E w => E = xIO ∧ w = wC κ a n dug dtd so ph uf ul r ki lt er mz bd bo me dE eE lE li fB fA sL f fu fs ff fl xs ys zs oL oU lo up X) := by
  refine cx_entry (own := RX5) (L := [(0, .ref (a 0)), (1, .int x)]) (by decide +kernel) rfl (lv_entry [.ref (a 0), .int x] (n := 2) (Nat.le_of_ble_eq_true rfl)) (fun g C E X => ?_)
  refine a_iloadn (pc := 0) C 1 rfl rfl dX5_requireRelation_0 ?_
  refine a_iconst (pc := 1) (v := nI 0) C ci_0 dX5_requireRelation_1 ?_
  refine a_aloadn (pc := 2) C 0 rfl rfl dX5_requireRelation_2 ?_
  refine a_get (pc := 3) C fl_X5_19 0 rfl rfl dX5_requireRelation_3 ?_
  refine a_get (pc := 6) C fl_X5_77 2 rfl rfl dX5_requireRelation_6 ?_
  refine a_iconst (pc := 9) (v := nI 1) C ci_1 dX5_requireRelation_9 ?_
  refine a_isub (pc := 10) (v := nI r - nI 1) C rfl dX5_requireRelation_10 ?_
  refine a_callS1 (pc := 11) (k' := 0) (n' := 0) C (c_X5_isWithin κ) yv_X5_isWithin ml_X5_44 ws_X5_isWithin rfl rfl (Nat.le_of_ble_eq_true rfl) (Nat.le_of_ble_eq_true rfl) (Nat.le_of_ble_eq_true rfl) ⟨(Nat.le_of_ble_eq_true rfl), (Nat.le_of_ble_eq_true rfl)⟩ rfl rfl dX5_requireRelation_11 ?_
  refine a_ifb_ne_n (pc := 14) C (okU_nf (by omega) hb) dX5_requireRelation_14 ⟨28, by decide⟩ ?_
  exact a_throwW (pc := 17) C X (text := "there is no such relation") (names := xN) (by decide +kernel) (by decide +kernel) cl_X5_296 wz_IndexOutOfBoundsException (by decide +kernel) xat_IO (Nat.le_of_ble_eq_true rfl) (Nat.le_of_ble_eq_true rfl) (Nat.le_of_ble_eq_true rfl) (Nat.le_of_ble_eq_true rfl) (Nat.le_of_ble_eq_true rfl) (Nat.le_of_ble_eq_true rfl) ⟨rfl, rfl⟩ dX5_requireRelation_17 dX5_requireRelation_20 dX5_requireRelation_21 dX5_requireRelation_24 dX5_requireRelation_27

set_option maxHeartbeats 4000000 in
set_option maxRecDepth 100000 in
theorem c_X5_requireFind (κ : aK) (a : Nat → Nat) {n : Nat} {dug : Nat → Bool} {dtd : Nat → Bool} {so : Nat → Int32} {ph : Nat → Int32} {uf : Nat → Int32} {ul : Nat → Int32} {r : Nat} {ki : Nat → Int32} {lt : Nat → Nat} {er : Nat → Nat} {mz : Nat} {bd : Nat → Bool} {bo : Nat → Nat} {me : Nat → Nat → Bool} {dE : Nat → Nat → Bool} {eE : Nat → Nat → Bool} {lE : Nat → Nat → Bool} {li : Nat → Nat → Bool} {fB : Nat → Int32} {fA : Nat → Int32} {sL : Nat → Int32} {f : Nat} {fu : Nat → Nat} {fs : Nat → Int32} {ff : Nat → Int32} {fl : Nat → Int32} {xs : Nat → Int32} {ys : Nat → Int32} {zs : Nat → Int32} {oL : Nat → Int32} {oU : Nat → Int32} {lo : Nat → Int32} {up : Nat → Int32} {X : va_W} {j : Nat} (hf : f ≤ 60) (hj : j < f) : CM yX5_requireFind cX5_requireFind 2 none ({ frames := 6, cells := 0, slots := 0, locals := 110 } : Room) κ [.ref (a 0), .int (nI j)] (wC κ a n dug dtd so ph uf ul r ki lt er mz bd bo me dE eE lE li fB fA sL f fu fs ff fl xs ys zs oL oU lo up X) (aD none (wC κ a n dug dtd so ph uf ul r ki lt er mz bd bo me dE eE lE li fB fA sL f fu fs ff fl xs ys zs oL oU lo up X)) := by
  refine cm_entry (own := RX5) (L := [(0, .ref (a 0)), (1, .int (nI j))]) (by decide +kernel) rfl (lv_entry [.ref (a 0), .int (nI j)] (n := 2) (Nat.le_of_ble_eq_true rfl)) (fun g C E => ?_)
  refine a_iloadn (pc := 0) C 1 rfl rfl dX5_requireFind_0 ?_
  refine a_iconst (pc := 1) (v := nI 0) C ci_0 dX5_requireFind_1 ?_
  refine a_aloadn (pc := 2) C 0 rfl rfl dX5_requireFind_2 ?_
  refine a_get (pc := 3) C fl_X5_33 0 rfl rfl dX5_requireFind_3 ?_
  refine a_get (pc := 6) C fl_X5_121 4 rfl rfl dX5_requireFind_6 ?_
  refine a_iconst (pc := 9) (v := nI 1) C ci_1 dX5_requireFind_9 ?_
  refine a_isub (pc := 10) (v := nI f - nI 1) C rfl dX5_requireFind_10 ?_
  refine a_callS1 (pc := 11) (k' := 0) (n' := 0) C (c_X5_isWithin κ) yv_X5_isWithin ml_X5_44 ws_X5_isWithin rfl rfl (Nat.le_of_ble_eq_true rfl) (Nat.le_of_ble_eq_true rfl) (Nat.le_of_ble_eq_true rfl) ⟨(Nat.le_of_ble_eq_true rfl), (Nat.le_of_ble_eq_true rfl)⟩ rfl rfl dX5_requireFind_11 ?_
  refine a_ifb_ne_y (pc := 14) (tgt := 28) C ((okU_n (by omega)).mpr (okU_j hj)) (by decide) dX5_requireFind_14 ?_
  exact a_vret (pc := 28) C E (Nat.le_of_ble_eq_true rfl) (Nat.le_of_ble_eq_true rfl) ⟨rfl, rfl⟩ dX5_requireFind_28

set_option maxHeartbeats 4000000 in
set_option maxRecDepth 100000 in
theorem c_X5_requireFind_b (κ : aK) (a : Nat → Nat) {n : Nat} {dug : Nat → Bool} {dtd : Nat → Bool} {so : Nat → Int32} {ph : Nat → Int32} {uf : Nat → Int32} {ul : Nat → Int32} {r : Nat} {ki : Nat → Int32} {lt : Nat → Nat} {er : Nat → Nat} {mz : Nat} {bd : Nat → Bool} {bo : Nat → Nat} {me : Nat → Nat → Bool} {dE : Nat → Nat → Bool} {eE : Nat → Nat → Bool} {lE : Nat → Nat → Bool} {li : Nat → Nat → Bool} {fB : Nat → Int32} {fA : Nat → Int32} {sL : Nat → Int32} {f : Nat} {fu : Nat → Nat} {fs : Nat → Int32} {ff : Nat → Int32} {fl : Nat → Int32} {xs : Nat → Int32} {ys : Nat → Int32} {zs : Nat → Int32} {oL : Nat → Int32} {oU : Nat → Int32} {lo : Nat → Int32} {up : Nat → Int32} {X : va_W} {x : Int32} (hf : f ≤ 60) (hb : ¬ okU f x) : CX yX5_requireFind cX5_requireFind 2 none ({ frames := 6, cells := 1, slots := 6, locals := 110 } : Room) κ [.ref (a 0), .int x] (wC κ a n dug dtd so ph uf ul r ki lt er mz bd bo me dE eE lE li fB fA sL f fu fs ff fl xs ys zs oL oU lo up X) (fun _ _ => False) (fun E w => E = xIO ∧ w = wC κ a n dug dtd so ph uf ul r ki lt er mz bd bo me dE eE lE li fB fA sL f fu fs ff fl xs ys zs oL oU lo up X) := by
  refine cx_entry (own := RX5) (L := [(0, .ref (a 0)), (1, .int x)]) (by decide +kernel) rfl (lv_entry [.ref (a 0), .int x] (n := 2) (Nat.le_of_ble_eq_true rfl)) (fun g C E X => ?_)
  refine a_iloadn (pc := 0) C 1 rfl rfl dX5_requireFind_0 ?_
  refine a_iconst (pc := 1) (v := nI 0) C ci_0 dX5_requireFind_1 ?_
  refine a_aloadn (pc := 2) C 0 rfl rfl dX5_requireFind_2 ?_
  refine a_get (pc := 3) C fl_X5_33 0 rfl rfl dX5_requireFind_3 ?_
  refine a_get (pc := 6) C fl_X5_121 4 rfl rfl dX5_requireFind_6 ?_
  refine a_iconst (pc := 9) (v := nI 1) C ci_1 dX5_requireFind_9 ?_
  refine a_isub (pc := 10) (v := nI f - nI 1) C rfl dX5_requireFind_10 ?_
  refine a_callS1 (pc := 11) (k' := 0) (n' := 0) C (c_X5_isWithin κ) yv_X5_isWithin ml_X5_44 ws_X5_isWithin rfl rfl (Nat.le_of_ble_eq_true rfl) (Nat.le_of_ble_eq_true rfl) (Nat.le_of_ble_eq_true rfl) ⟨(Nat.le_of_ble_eq_true rfl), (Nat.le_of_ble_eq_true rfl)⟩ rfl rfl dX5_requireFind_11 ?_
  refine a_ifb_ne_n (pc := 14) C (okU_nf (by omega) hb) dX5_requireFind_14 ⟨28, by decide⟩ ?_
  exact a_throwW (pc := 17) C X (text := "there is no such find") (names := xN) (by decide +kernel) (by decide +kernel) cl_X5_296 wz_IndexOutOfBoundsException (by decide +kernel) xat_IO (Nat.le_of_ble_eq_true rfl) (Nat.le_of_ble_eq_true rfl) (Nat.le_of_ble_eq_true rfl) (Nat.le_of_ble_eq_true rfl) (Nat.le_of_ble_eq_true rfl) (Nat.le_of_ble_eq_true rfl) ⟨rfl, rfl⟩ dX5_requireFind_17 dX5_requireFind_20 dX5_requireFind_21 dX5_requireFind_24 dX5_requireFind_27

set_option maxHeartbeats 4000000 in
set_option maxRecDepth 100000 in
theorem c_X5_requireFact (κ : aK) {X : va_W} {j : Nat} {m : Nat} (hm : m ≤ 100) (hj : j < m) : CM yX5_requireFact cX5_requireFact 2 none ({ frames := 6, cells := 0, slots := 0, locals := 110 } : Room) κ [.int (nI j), .int (nI m)] (X) (aD none (X)) := by
  refine cm_entry (own := RX5) (L := [(0, .int (nI j)), (1, .int (nI m))]) (by decide +kernel) rfl (lv_entry [.int (nI j), .int (nI m)] (n := 2) (Nat.le_of_ble_eq_true rfl)) (fun g C E => ?_)
  refine a_iloadn (pc := 0) C 0 rfl rfl dX5_requireFact_0 ?_
  refine a_iconst (pc := 1) (v := nI 0) C ci_0 dX5_requireFact_1 ?_
  refine a_iloadn (pc := 2) C 1 rfl rfl dX5_requireFact_2 ?_
  refine a_iconst (pc := 3) (v := nI 1) C ci_1 dX5_requireFact_3 ?_
  refine a_isub (pc := 4) (v := nI m - nI 1) C rfl dX5_requireFact_4 ?_
  refine a_callS1 (pc := 5) (k' := 0) (n' := 0) C (c_X5_isWithin κ) yv_X5_isWithin ml_X5_44 ws_X5_isWithin rfl rfl (Nat.le_of_ble_eq_true rfl) (Nat.le_of_ble_eq_true rfl) (Nat.le_of_ble_eq_true rfl) ⟨(Nat.le_of_ble_eq_true rfl), (Nat.le_of_ble_eq_true rfl)⟩ rfl rfl dX5_requireFact_5 ?_
  refine a_ifb_ne_y (pc := 8) (tgt := 22) C ((okU_n (by omega)).mpr (okU_j hj)) (by decide) dX5_requireFact_8 ?_
  exact a_vret (pc := 22) C E (Nat.le_of_ble_eq_true rfl) (Nat.le_of_ble_eq_true rfl) ⟨rfl, rfl⟩ dX5_requireFact_22

set_option maxHeartbeats 4000000 in
set_option maxRecDepth 100000 in
theorem c_X5_requireFact_b (κ : aK) {X : va_W} {x : Int32} {m : Nat} (hm : m ≤ 100) (hb : ¬ okU m x) : CX yX5_requireFact cX5_requireFact 2 none ({ frames := 6, cells := 1, slots := 6, locals := 110 } : Room) κ [.int x, .int (nI m)] (X) (fun _ _ => False) (fun E w => E = xIO ∧ w = X) := by
  refine cx_entry (own := RX5) (L := [(0, .int x), (1, .int (nI m))]) (by decide +kernel) rfl (lv_entry [.int x, .int (nI m)] (n := 2) (Nat.le_of_ble_eq_true rfl)) (fun g C E X => ?_)
  refine a_iloadn (pc := 0) C 0 rfl rfl dX5_requireFact_0 ?_
  refine a_iconst (pc := 1) (v := nI 0) C ci_0 dX5_requireFact_1 ?_
  refine a_iloadn (pc := 2) C 1 rfl rfl dX5_requireFact_2 ?_
  refine a_iconst (pc := 3) (v := nI 1) C ci_1 dX5_requireFact_3 ?_
  refine a_isub (pc := 4) (v := nI m - nI 1) C rfl dX5_requireFact_4 ?_
  refine a_callS1 (pc := 5) (k' := 0) (n' := 0) C (c_X5_isWithin κ) yv_X5_isWithin ml_X5_44 ws_X5_isWithin rfl rfl (Nat.le_of_ble_eq_true rfl) (Nat.le_of_ble_eq_true rfl) (Nat.le_of_ble_eq_true rfl) ⟨(Nat.le_of_ble_eq_true rfl), (Nat.le_of_ble_eq_true rfl)⟩ rfl rfl dX5_requireFact_5 ?_
  refine a_ifb_ne_n (pc := 8) C (okU_nf (by omega) hb) dX5_requireFact_8 ⟨22, by decide⟩ ?_
  exact a_throwW (pc := 11) C X (text := "nothing is told under this number") (names := xN) (by decide +kernel) (by decide +kernel) cl_X5_296 wz_IndexOutOfBoundsException (by decide +kernel) xat_IO (Nat.le_of_ble_eq_true rfl) (Nat.le_of_ble_eq_true rfl) (Nat.le_of_ble_eq_true rfl) (Nat.le_of_ble_eq_true rfl) (Nat.le_of_ble_eq_true rfl) (Nat.le_of_ble_eq_true rfl) ⟨rfl, rfl⟩ dX5_requireFact_11 dX5_requireFact_14 dX5_requireFact_15 dX5_requireFact_18 dX5_requireFact_21

set_option maxHeartbeats 4000000 in
set_option maxRecDepth 100000 in
theorem c_X5_requirePlace (κ : aK) {X : va_W} {j : Nat} (hj : j < 40) : CM yX5_requirePlace cX5_requirePlace 1 none ({ frames := 6, cells := 0, slots := 0, locals := 110 } : Room) κ [.int (nI j)] (X) (aD none (X)) := by
  refine cm_entry (own := RX5) (L := [(0, .int (nI j))]) (by decide +kernel) rfl (lv_entry [.int (nI j)] (n := 1) (Nat.le_of_ble_eq_true rfl)) (fun g C E => ?_)
  refine a_iloadn (pc := 0) C 0 rfl rfl dX5_requirePlace_0 ?_
  refine a_iconst (pc := 1) (v := nI 0) C ci_0 dX5_requirePlace_1 ?_
  refine a_bipush (pc := 2) (v := nI 39) C cb_39 dX5_requirePlace_2 ?_
  refine a_callS1 (pc := 4) (k' := 0) (n' := 0) C (c_X5_isWithin κ) yv_X5_isWithin ml_X5_44 ws_X5_isWithin rfl rfl (Nat.le_of_ble_eq_true rfl) (Nat.le_of_ble_eq_true rfl) (Nat.le_of_ble_eq_true rfl) ⟨(Nat.le_of_ble_eq_true rfl), (Nat.le_of_ble_eq_true rfl)⟩ rfl rfl dX5_requirePlace_4 ?_
  refine a_ifb_ne_y (pc := 7) (tgt := 21) C ((okU_c (by omega)).mpr (okU_j hj)) (by decide) dX5_requirePlace_7 ?_
  exact a_vret (pc := 21) C E (Nat.le_of_ble_eq_true rfl) (Nat.le_of_ble_eq_true rfl) ⟨rfl, rfl⟩ dX5_requirePlace_21

set_option maxHeartbeats 4000000 in
set_option maxRecDepth 100000 in
theorem c_X5_requirePlace_b (κ : aK) {X : va_W} {x : Int32} (hb : ¬ okU 40 x) : CX yX5_requirePlace cX5_requirePlace 1 none ({ frames := 6, cells := 1, slots := 6, locals := 110 } : Room) κ [.int x] (X) (fun _ _ => False) (fun E w => E = xIO ∧ w = X) := by
  refine cx_entry (own := RX5) (L := [(0, .int x)]) (by decide +kernel) rfl (lv_entry [.int x] (n := 1) (Nat.le_of_ble_eq_true rfl)) (fun g C E X => ?_)
  refine a_iloadn (pc := 0) C 0 rfl rfl dX5_requirePlace_0 ?_
  refine a_iconst (pc := 1) (v := nI 0) C ci_0 dX5_requirePlace_1 ?_
  refine a_bipush (pc := 2) (v := nI 39) C cb_39 dX5_requirePlace_2 ?_
  refine a_callS1 (pc := 4) (k' := 0) (n' := 0) C (c_X5_isWithin κ) yv_X5_isWithin ml_X5_44 ws_X5_isWithin rfl rfl (Nat.le_of_ble_eq_true rfl) (Nat.le_of_ble_eq_true rfl) (Nat.le_of_ble_eq_true rfl) ⟨(Nat.le_of_ble_eq_true rfl), (Nat.le_of_ble_eq_true rfl)⟩ rfl rfl dX5_requirePlace_4 ?_
  refine a_ifb_ne_n (pc := 7) C (okU_cf (by omega) hb) dX5_requirePlace_7 ⟨21, by decide⟩ ?_
  exact a_throwW (pc := 10) C X (text := "a level or an index is 0 to 39") (names := xN) (by decide +kernel) (by decide +kernel) cl_X5_296 wz_IndexOutOfBoundsException (by decide +kernel) xat_IO (Nat.le_of_ble_eq_true rfl) (Nat.le_of_ble_eq_true rfl) (Nat.le_of_ble_eq_true rfl) (Nat.le_of_ble_eq_true rfl) (Nat.le_of_ble_eq_true rfl) (Nat.le_of_ble_eq_true rfl) ⟨rfl, rfl⟩ dX5_requirePlace_10 dX5_requirePlace_13 dX5_requirePlace_14 dX5_requirePlace_17 dX5_requirePlace_20

set_option maxHeartbeats 4000000 in
set_option maxRecDepth 100000 in
theorem c_X5_requireYears (κ : aK) {X : va_W} {x : Int32} {y : Int32} (h1 : yrB x = true) (h2 : yrB y = true) : CM yX5_requireYears cX5_requireYears 2 none ({ frames := 6, cells := 0, slots := 0, locals := 110 } : Room) κ [.int x, .int y] (X) (aD none (X)) := by
  refine cm_entry (own := RX5) (L := [(0, .int x), (1, .int y)]) (by decide +kernel) rfl (lv_entry [.int x, .int y] (n := 2) (Nat.le_of_ble_eq_true rfl)) (fun g C E => ?_)
  refine a_iloadn (pc := 0) C 0 rfl rfl dX5_requireYears_0 ?_
  refine a_sipush (pc := 1) (v := (-5000 : Int32)) C cs_m5000 dX5_requireYears_1 ?_
  refine a_sipush (pc := 4) (v := nI 2000) C cs_2000 dX5_requireYears_4 ?_
  refine a_callS1 (pc := 7) (k' := 0) (n' := 0) C (c_X5_isWithin κ) yv_X5_isWithin ml_X5_44 ws_X5_isWithin rfl rfl (Nat.le_of_ble_eq_true rfl) (Nat.le_of_ble_eq_true rfl) (Nat.le_of_ble_eq_true rfl) ⟨(Nat.le_of_ble_eq_true rfl), (Nat.le_of_ble_eq_true rfl)⟩ rfl rfl dX5_requireYears_7 ?_
  refine a_ifb_eq_n (pc := 10) C h1 dX5_requireYears_10 ⟨26, by decide⟩ ?_
  refine a_iloadn (pc := 13) C 1 rfl rfl dX5_requireYears_13 ?_
  refine a_sipush (pc := 14) (v := (-5000 : Int32)) C cs_m5000 dX5_requireYears_14 ?_
  refine a_sipush (pc := 17) (v := nI 2000) C cs_2000 dX5_requireYears_17 ?_
  refine a_callS1 (pc := 20) (k' := 0) (n' := 0) C (c_X5_isWithin κ) yv_X5_isWithin ml_X5_44 ws_X5_isWithin rfl rfl (Nat.le_of_ble_eq_true rfl) (Nat.le_of_ble_eq_true rfl) (Nat.le_of_ble_eq_true rfl) ⟨(Nat.le_of_ble_eq_true rfl), (Nat.le_of_ble_eq_true rfl)⟩ rfl rfl dX5_requireYears_20 ?_
  refine a_ifb_ne_y (pc := 23) (tgt := 37) C h2 (by decide) dX5_requireYears_23 ?_
  exact a_vret (pc := 37) C E (Nat.le_of_ble_eq_true rfl) (Nat.le_of_ble_eq_true rfl) ⟨rfl, rfl⟩ dX5_requireYears_37

set_option maxHeartbeats 4000000 in
set_option maxRecDepth 100000 in
theorem c_X5_requireYears_b (κ : aK) {X : va_W} {x : Int32} {y : Int32} (hb : (yrB x && yrB y) = false) : CX yX5_requireYears cX5_requireYears 2 none ({ frames := 6, cells := 1, slots := 6, locals := 110 } : Room) κ [.int x, .int y] (X) (fun _ _ => False) (fun E w => E = xIA ∧ w = X) := by
  refine cx_entry (own := RX5) (L := [(0, .int x), (1, .int y)]) (by decide +kernel) rfl (lv_entry [.int x, .int y] (n := 2) (Nat.le_of_ble_eq_true rfl)) (fun g C E X => ?_)
  refine a_iloadn (pc := 0) C 0 rfl rfl dX5_requireYears_0 ?_
  refine a_sipush (pc := 1) (v := (-5000 : Int32)) C cs_m5000 dX5_requireYears_1 ?_
  refine a_sipush (pc := 4) (v := nI 2000) C cs_2000 dX5_requireYears_4 ?_
  refine a_callS1 (pc := 7) (k' := 0) (n' := 0) C (c_X5_isWithin κ) yv_X5_isWithin ml_X5_44 ws_X5_isWithin rfl rfl (Nat.le_of_ble_eq_true rfl) (Nat.le_of_ble_eq_true rfl) (Nat.le_of_ble_eq_true rfl) ⟨(Nat.le_of_ble_eq_true rfl), (Nat.le_of_ble_eq_true rfl)⟩ rfl rfl dX5_requireYears_7 ?_
  refine a_ifb_eq (pc := 10) (tgt := 26) C (by decide) dX5_requireYears_10 (fun c1 => ?_) (fun c1 => ?_)
  · exact a_throwW (pc := 26) C X (text := "a year is -5000 to 2000") (names := xN) (by decide +kernel) (by decide +kernel) cl_X5_48 wz_IllegalArgumentException (by decide +kernel) xat_IA (Nat.le_of_ble_eq_true rfl) (Nat.le_of_ble_eq_true rfl) (Nat.le_of_ble_eq_true rfl) (Nat.le_of_ble_eq_true rfl) (Nat.le_of_ble_eq_true rfl) (Nat.le_of_ble_eq_true rfl) ⟨rfl, rfl⟩ dX5_requireYears_26 dX5_requireYears_29 dX5_requireYears_30 dX5_requireYears_33 dX5_requireYears_36
  · refine a_iloadn (pc := 13) C 1 rfl rfl dX5_requireYears_13 ?_
    refine a_sipush (pc := 14) (v := (-5000 : Int32)) C cs_m5000 dX5_requireYears_14 ?_
    refine a_sipush (pc := 17) (v := nI 2000) C cs_2000 dX5_requireYears_17 ?_
    refine a_callS1 (pc := 20) (k' := 0) (n' := 0) C (c_X5_isWithin κ) yv_X5_isWithin ml_X5_44 ws_X5_isWithin rfl rfl (Nat.le_of_ble_eq_true rfl) (Nat.le_of_ble_eq_true rfl) (Nat.le_of_ble_eq_true rfl) ⟨(Nat.le_of_ble_eq_true rfl), (Nat.le_of_ble_eq_true rfl)⟩ rfl rfl dX5_requireYears_20 ?_
    refine a_ifb_ne_n (pc := 23) C (by rw [show yrB x = true from c1] at hb; exact hb) dX5_requireYears_23 ⟨37, by decide⟩ ?_
    exact a_throwW (pc := 26) C X (text := "a year is -5000 to 2000") (names := xN) (by decide +kernel) (by decide +kernel) cl_X5_48 wz_IllegalArgumentException (by decide +kernel) xat_IA (Nat.le_of_ble_eq_true rfl) (Nat.le_of_ble_eq_true rfl) (Nat.le_of_ble_eq_true rfl) (Nat.le_of_ble_eq_true rfl) (Nat.le_of_ble_eq_true rfl) (Nat.le_of_ble_eq_true rfl) ⟨rfl, rfl⟩ dX5_requireYears_26 dX5_requireYears_29 dX5_requireYears_30 dX5_requireYears_33 dX5_requireYears_36

set_option maxHeartbeats 4000000 in
set_option maxRecDepth 100000 in
theorem c_X5_requirePoint (κ : aK) {X : va_W} {x : Int32} {y : Int32} {z : Int32} (h1 : xyB x = true) (h2 : xyB y = true) (h3 : zB z = true) : CM yX5_requirePoint cX5_requirePoint 3 none ({ frames := 6, cells := 0, slots := 0, locals := 110 } : Room) κ [.int x, .int y, .int z] (X) (aD none (X)) := by
  refine cm_entry (own := RX5) (L := [(0, .int x), (1, .int y), (2, .int z)]) (by decide +kernel) rfl (lv_entry [.int x, .int y, .int z] (n := 3) (Nat.le_of_ble_eq_true rfl)) (fun g C E => ?_)
  refine a_iloadn (pc := 0) C 0 rfl rfl dX5_requirePoint_0 ?_
  refine a_iconst (pc := 1) (v := nI 0) C ci_0 dX5_requirePoint_1 ?_
  refine a_sipush (pc := 2) (v := nI 5000) C cs_5000 dX5_requirePoint_2 ?_
  refine a_callS1 (pc := 5) (k' := 0) (n' := 0) C (c_X5_isWithin κ) yv_X5_isWithin ml_X5_44 ws_X5_isWithin rfl rfl (Nat.le_of_ble_eq_true rfl) (Nat.le_of_ble_eq_true rfl) (Nat.le_of_ble_eq_true rfl) ⟨(Nat.le_of_ble_eq_true rfl), (Nat.le_of_ble_eq_true rfl)⟩ rfl rfl dX5_requirePoint_5 ?_
  refine a_ifb_eq_n (pc := 8) C h1 dX5_requirePoint_8 ⟨22, by decide⟩ ?_
  refine a_iloadn (pc := 11) C 1 rfl rfl dX5_requirePoint_11 ?_
  refine a_iconst (pc := 12) (v := nI 0) C ci_0 dX5_requirePoint_12 ?_
  refine a_sipush (pc := 13) (v := nI 5000) C cs_5000 dX5_requirePoint_13 ?_
  refine a_callS1 (pc := 16) (k' := 0) (n' := 0) C (c_X5_isWithin κ) yv_X5_isWithin ml_X5_44 ws_X5_isWithin rfl rfl (Nat.le_of_ble_eq_true rfl) (Nat.le_of_ble_eq_true rfl) (Nat.le_of_ble_eq_true rfl) ⟨(Nat.le_of_ble_eq_true rfl), (Nat.le_of_ble_eq_true rfl)⟩ rfl rfl dX5_requirePoint_16 ?_
  refine a_ifb_ne_y (pc := 19) (tgt := 33) C h2 (by decide) dX5_requirePoint_19 ?_
  refine a_iloadn (pc := 33) C 2 rfl rfl dX5_requirePoint_33 ?_
  refine a_sipush (pc := 34) (v := (-1000 : Int32)) C cs_m1000 dX5_requirePoint_34 ?_
  refine a_sipush (pc := 37) (v := nI 1000) C cs_1000 dX5_requirePoint_37 ?_
  refine a_callS1 (pc := 40) (k' := 0) (n' := 0) C (c_X5_isWithin κ) yv_X5_isWithin ml_X5_44 ws_X5_isWithin rfl rfl (Nat.le_of_ble_eq_true rfl) (Nat.le_of_ble_eq_true rfl) (Nat.le_of_ble_eq_true rfl) ⟨(Nat.le_of_ble_eq_true rfl), (Nat.le_of_ble_eq_true rfl)⟩ rfl rfl dX5_requirePoint_40 ?_
  refine a_ifb_ne_y (pc := 43) (tgt := 57) C h3 (by decide) dX5_requirePoint_43 ?_
  exact a_vret (pc := 57) C E (Nat.le_of_ble_eq_true rfl) (Nat.le_of_ble_eq_true rfl) ⟨rfl, rfl⟩ dX5_requirePoint_57

set_option maxHeartbeats 4000000 in
set_option maxRecDepth 100000 in
theorem c_X5_requirePoint_b (κ : aK) {X : va_W} {x : Int32} {y : Int32} {z : Int32} (hb : ((xyB x && xyB y) && zB z) = false) : CX yX5_requirePoint cX5_requirePoint 3 none ({ frames := 6, cells := 1, slots := 6, locals := 110 } : Room) κ [.int x, .int y, .int z] (X) (fun _ _ => False) (fun E w => E = xIA ∧ w = X) := by
  refine cx_entry (own := RX5) (L := [(0, .int x), (1, .int y), (2, .int z)]) (by decide +kernel) rfl (lv_entry [.int x, .int y, .int z] (n := 3) (Nat.le_of_ble_eq_true rfl)) (fun g C E X => ?_)
  refine a_iloadn (pc := 0) C 0 rfl rfl dX5_requirePoint_0 ?_
  refine a_iconst (pc := 1) (v := nI 0) C ci_0 dX5_requirePoint_1 ?_
  refine a_sipush (pc := 2) (v := nI 5000) C cs_5000 dX5_requirePoint_2 ?_
  refine a_callS1 (pc := 5) (k' := 0) (n' := 0) C (c_X5_isWithin κ) yv_X5_isWithin ml_X5_44 ws_X5_isWithin rfl rfl (Nat.le_of_ble_eq_true rfl) (Nat.le_of_ble_eq_true rfl) (Nat.le_of_ble_eq_true rfl) ⟨(Nat.le_of_ble_eq_true rfl), (Nat.le_of_ble_eq_true rfl)⟩ rfl rfl dX5_requirePoint_5 ?_
  refine a_ifb_eq (pc := 8) (tgt := 22) C (by decide) dX5_requirePoint_8 (fun c1 => ?_) (fun c1 => ?_)
  · exact a_throwW (pc := 22) C X (text := "x and y are 0 to 5000") (names := xN) (by decide +kernel) (by decide +kernel) cl_X5_48 wz_IllegalArgumentException (by decide +kernel) xat_IA (Nat.le_of_ble_eq_true rfl) (Nat.le_of_ble_eq_true rfl) (Nat.le_of_ble_eq_true rfl) (Nat.le_of_ble_eq_true rfl) (Nat.le_of_ble_eq_true rfl) (Nat.le_of_ble_eq_true rfl) ⟨rfl, rfl⟩ dX5_requirePoint_22 dX5_requirePoint_25 dX5_requirePoint_26 dX5_requirePoint_29 dX5_requirePoint_32
  · refine a_iloadn (pc := 11) C 1 rfl rfl dX5_requirePoint_11 ?_
    refine a_iconst (pc := 12) (v := nI 0) C ci_0 dX5_requirePoint_12 ?_
    refine a_sipush (pc := 13) (v := nI 5000) C cs_5000 dX5_requirePoint_13 ?_
    refine a_callS1 (pc := 16) (k' := 0) (n' := 0) C (c_X5_isWithin κ) yv_X5_isWithin ml_X5_44 ws_X5_isWithin rfl rfl (Nat.le_of_ble_eq_true rfl) (Nat.le_of_ble_eq_true rfl) (Nat.le_of_ble_eq_true rfl) ⟨(Nat.le_of_ble_eq_true rfl), (Nat.le_of_ble_eq_true rfl)⟩ rfl rfl dX5_requirePoint_16 ?_
    refine a_ifb_ne (pc := 19) (tgt := 33) C (by decide) dX5_requirePoint_19 (fun c2 => ?_) (fun c2 => ?_)
    · refine a_iloadn (pc := 33) C 2 rfl rfl dX5_requirePoint_33 ?_
      refine a_sipush (pc := 34) (v := (-1000 : Int32)) C cs_m1000 dX5_requirePoint_34 ?_
      refine a_sipush (pc := 37) (v := nI 1000) C cs_1000 dX5_requirePoint_37 ?_
      refine a_callS1 (pc := 40) (k' := 0) (n' := 0) C (c_X5_isWithin κ) yv_X5_isWithin ml_X5_44 ws_X5_isWithin rfl rfl (Nat.le_of_ble_eq_true rfl) (Nat.le_of_ble_eq_true rfl) (Nat.le_of_ble_eq_true rfl) ⟨(Nat.le_of_ble_eq_true rfl), (Nat.le_of_ble_eq_true rfl)⟩ rfl rfl dX5_requirePoint_40 ?_
      refine a_ifb_ne_n (pc := 43) C (by rw [show xyB x = true from c1, show xyB y = true from c2] at hb; exact hb) dX5_requirePoint_43 ⟨57, by decide⟩ ?_
      exact a_throwW (pc := 46) C X (text := "z is -1000 to 1000") (names := xN) (by decide +kernel) (by decide +kernel) cl_X5_48 wz_IllegalArgumentException (by decide +kernel) xat_IA (Nat.le_of_ble_eq_true rfl) (Nat.le_of_ble_eq_true rfl) (Nat.le_of_ble_eq_true rfl) (Nat.le_of_ble_eq_true rfl) (Nat.le_of_ble_eq_true rfl) (Nat.le_of_ble_eq_true rfl) ⟨rfl, rfl⟩ dX5_requirePoint_46 dX5_requirePoint_49 dX5_requirePoint_50 dX5_requirePoint_53 dX5_requirePoint_56
    · exact a_throwW (pc := 22) C X (text := "x and y are 0 to 5000") (names := xN) (by decide +kernel) (by decide +kernel) cl_X5_48 wz_IllegalArgumentException (by decide +kernel) xat_IA (Nat.le_of_ble_eq_true rfl) (Nat.le_of_ble_eq_true rfl) (Nat.le_of_ble_eq_true rfl) (Nat.le_of_ble_eq_true rfl) (Nat.le_of_ble_eq_true rfl) (Nat.le_of_ble_eq_true rfl) ⟨rfl, rfl⟩ dX5_requirePoint_22 dX5_requirePoint_25 dX5_requirePoint_26 dX5_requirePoint_29 dX5_requirePoint_32
