set_option maxHeartbeats 4000000 in
set_option maxRecDepth 100000 in
theorem c_X5_bit (κ : aK) {X : va_W} {e : Nat} (he : e < 64) : CM yX5_bit cX5_bit 1 (some .long) ({ frames := 0, cells := 0, slots := 0, locals := 0 } : Room) κ [.int (nI e)] (X) (aD (some (.long (bs (fun i => decide (i = e))))) (X)) := by
  refine cm_entry (own := RX5) (L := [(0, .int (nI e))]) (by decide +kernel) rfl (lv_entry [.int (nI e)] (n := 1) (Nat.le_of_ble_eq_true rfl)) (fun g C E => ?_)
  refine a_lconst (pc := 0) (v := 1) C rfl dX5_bit_0 ?_
  refine a_iloadn (pc := 1) C 0 rfl rfl dX5_bit_1 ?_
  refine a_lshl (pc := 2) (v := bs (fun i => decide (i = e))) C (bs_bit (by omega)) dX5_bit_2 ?_
  exact a_lret (pc := 3) C E (Nat.le_of_ble_eq_true rfl) (Nat.le_of_ble_eq_true rfl) ⟨rfl, rfl⟩ dX5_bit_3
set_option maxHeartbeats 4000000 in
set_option maxRecDepth 100000 in
theorem c_X5_has (κ : aK) {X : va_W} {p : Nat → Bool} {e : Nat} (he : e < 64) : CM yX5_has cX5_has 3 (some .boolean) ({ frames := 1, cells := 0, slots := 0, locals := 20 } : Room) κ [.long (bs p), .int (nI e)] (X) (aD (some (.int (b2i (p e)))) (X)) := by
  refine cm_entry (own := RX5) (L := [(0, .long (bs p)), (2, .int (nI e))]) (by decide +kernel) rfl (lv_entry [.long (bs p), .int (nI e)] (n := 3) (Nat.le_of_ble_eq_true rfl)) (fun g C E => ?_)
  refine a_lloadn (pc := 0) C 0 rfl rfl dX5_has_0 ?_
  refine a_iloadn (pc := 1) C 1 rfl rfl dX5_has_1 ?_
  refine a_callS1 (pc := 2) (k' := 0) (n' := 0) C (c_X5_bit κ (by omega)) yv_X5_bit ml_X5_258 ws_X5_bit rfl rfl (Nat.le_of_ble_eq_true rfl) (Nat.le_of_ble_eq_true rfl) (Nat.le_of_ble_eq_true rfl) ⟨(Nat.le_of_ble_eq_true rfl), (Nat.le_of_ble_eq_true rfl)⟩ rfl rfl dX5_has_2 ?_
  refine a_land (pc := 5) (v := bs (fun i => p i && (decide (i = e)))) C (bs_and _ _) dX5_has_5 ?_
  refine a_lconst (pc := 6) (v := 0) C rfl dX5_has_6 ?_
  refine a_lcmp (pc := 7) (v := lg_cmp (bs (fun i => p i && (decide (i = e)))) (0 : Int64)) C rfl dX5_has_7 ?_
  refine a_if_eq (pc := 8) (tgt := 15) C (by decide) dX5_has_8 (fun c1 => ?_) (fun c1 => ?_)
  · have c := (bs_has (by omega)).mp c1
    rw [c] at E
    refine a_iconst (pc := 15) (v := nI 0) C ci_0 dX5_has_15 ?_
    exact a_zret (pc := 16) (b := false) C E (Nat.le_of_ble_eq_true rfl) (Nat.le_of_ble_eq_true rfl) (by decide +kernel) ⟨rfl, rfl⟩ dX5_has_16
  · have c : p e = true := by cases h : p e with | true => rfl | false => exact absurd ((bs_has (by omega)).mpr h) c1
    rw [c] at E
    refine a_iconst (pc := 11) (v := nI 1) C ci_1 dX5_has_11 ?_
    refine a_goto (pc := 12) (tgt := 16) C (by decide) dX5_has_12 ?_
    exact a_zret (pc := 16) (b := true) C E (Nat.le_of_ble_eq_true rfl) (Nat.le_of_ble_eq_true rfl) (by decide +kernel) ⟨rfl, rfl⟩ dX5_has_16
set_option maxHeartbeats 4000000 in
set_option maxRecDepth 100000 in
theorem c_X5_isWithin (κ : aK) {X : va_W} {x : Int32} {l : Int32} {h : Int32} : CM yX5_isWithin cX5_isWithin 3 (some .boolean) ({ frames := 0, cells := 0, slots := 0, locals := 0 } : Room) κ [.int x, .int l, .int h] (X) (aD (some (.int (b2i (inB l h x)))) (X)) := by
  refine cm_entry (own := RX5) (L := [(0, .int x), (1, .int l), (2, .int h)]) (by decide +kernel) rfl (lv_entry [.int x, .int l, .int h] (n := 3) (Nat.le_of_ble_eq_true rfl)) (fun g C E => ?_)
  unfold inB at E
  refine a_iloadn (pc := 0) C 0 rfl rfl dX5_isWithin_0 ?_
  refine a_iloadn (pc := 1) C 1 rfl rfl dX5_isWithin_1 ?_
  refine a_ic_lt (pc := 2) (tgt := 14) C (by decide) dX5_isWithin_2 (fun c1 => ?_) (fun c1 => ?_)
  · rw [show decide (l ≤ x) = false from decide_eq_false (fun q => Int32.not_le.mpr c1 q)] at E
    refine a_iconst (pc := 14) (v := nI 0) C ci_0 dX5_isWithin_14 ?_
    exact a_zret (pc := 15) (b := false) C E (Nat.le_of_ble_eq_true rfl) (Nat.le_of_ble_eq_true rfl) (by decide +kernel) ⟨rfl, rfl⟩ dX5_isWithin_15
  · rw [show decide (l ≤ x) = true from decide_eq_true (Int32.not_lt.mp c1)] at E
    refine a_iloadn (pc := 5) C 0 rfl rfl dX5_isWithin_5 ?_
    refine a_iloadn (pc := 6) C 2 rfl rfl dX5_isWithin_6 ?_
    refine a_ic_gt (pc := 7) (tgt := 14) C (by decide) dX5_isWithin_7 (fun c2 => ?_) (fun c2 => ?_)
    · rw [show decide (x ≤ h) = false from decide_eq_false (fun q => Int32.not_le.mpr c2 q)] at E
      refine a_iconst (pc := 14) (v := nI 0) C ci_0 dX5_isWithin_14 ?_
      exact a_zret (pc := 15) (b := false) C E (Nat.le_of_ble_eq_true rfl) (Nat.le_of_ble_eq_true rfl) (by decide +kernel) ⟨rfl, rfl⟩ dX5_isWithin_15
    · rw [show decide (x ≤ h) = true from decide_eq_true (Int32.not_lt.mp c2)] at E
      refine a_iconst (pc := 10) (v := nI 1) C ci_1 dX5_isWithin_10 ?_
      refine a_goto (pc := 11) (tgt := 15) C (by decide) dX5_isWithin_11 ?_
      exact a_zret (pc := 15) (b := true) C E (Nat.le_of_ble_eq_true rfl) (Nat.le_of_ble_eq_true rfl) (by decide +kernel) ⟨rfl, rfl⟩ dX5_isWithin_15
set_option maxHeartbeats 4000000 in
set_option maxRecDepth 100000 in
theorem c_X2_isSameBody (κ : aK) (a : Nat → Nat) {n : Nat} {dug : Nat → Bool} {dtd : Nat → Bool} {so : Nat → Int32} {ph : Nat → Int32} {uf : Nat → Int32} {ul : Nat → Int32} {r : Nat} {ki : Nat → Int32} {lt : Nat → Nat} {er : Nat → Nat} {mz : Nat} {bd : Nat → Bool} {bo : Nat → Nat} {me : Nat → Nat → Bool} {dE : Nat → Nat → Bool} {eE : Nat → Nat → Bool} {lE : Nat → Nat → Bool} {li : Nat → Nat → Bool} {fB : Nat → Int32} {fA : Nat → Int32} {sL : Nat → Int32} {f : Nat} {fu : Nat → Nat} {fs : Nat → Int32} {ff : Nat → Int32} {fl : Nat → Int32} {xs : Nat → Int32} {ys : Nat → Int32} {zs : Nat → Int32} {oL : Nat → Int32} {oU : Nat → Int32} {lo : Nat → Int32} {up : Nat → Int32} {X : va_W} {x : Nat} {y : Nat} (hx : x < 40) (hy : y < 40) (hbo : ∀ u, bo u < 40) : CM yX2_isSameBody cX2_isSameBody 3 (some .boolean) ({ frames := 0, cells := 0, slots := 0, locals := 0 } : Room) κ [.ref (a 3), .int (nI x), .int (nI y)] (wC κ a n dug dtd so ph uf ul r ki lt er mz bd bo me dE eE lE li fB fA sL f fu fs ff fl xs ys zs oL oU lo up X) (aD (some (.int (b2i (decide (bo x = bo y))))) (wC κ a n dug dtd so ph uf ul r ki lt er mz bd bo me dE eE lE li fB fA sL f fu fs ff fl xs ys zs oL oU lo up X)) := by
  refine cm_entry (own := RX2) (L := [(0, .ref (a 3)), (1, .int (nI x)), (2, .int (nI y))]) (by decide +kernel) rfl (lv_entry [.ref (a 3), .int (nI x), .int (nI y)] (n := 3) (Nat.le_of_ble_eq_true rfl)) (fun g C E => ?_)
  have hb1 := hbo x
  have hb2 := hbo y
  refine a_aloadn (pc := 0) C 0 rfl rfl dX2_isSameBody_0 ?_
  refine a_get (pc := 1) C fl_X2_9 3 rfl rfl dX2_isSameBody_1 ?_
  refine a_iloadn (pc := 4) C 1 rfl rfl dX2_isSameBody_4 ?_
  refine a_ialdN (pc := 5) C 13 rfl (by omega) (by decide) dX2_isSameBody_5 ?_
  refine a_aloadn (pc := 6) C 0 rfl rfl dX2_isSameBody_6 ?_
  refine a_get (pc := 7) C fl_X2_9 3 rfl rfl dX2_isSameBody_7 ?_
  refine a_iloadn (pc := 10) C 2 rfl rfl dX2_isSameBody_10 ?_
  refine a_ialdN (pc := 11) C 13 rfl (by omega) (by decide) dX2_isSameBody_11 ?_
  refine a_icn_ne (pc := 12) (tgt := 19) C (by omega) (by omega) (by decide) dX2_isSameBody_12 (fun c1 => ?_) (fun c1 => ?_)
  · rw [show decide (bo x = bo y) = false from decide_eq_false c1] at E
    refine a_iconst (pc := 19) (v := nI 0) C ci_0 dX2_isSameBody_19 ?_
    exact a_zret (pc := 20) (b := false) C E (Nat.le_of_ble_eq_true rfl) (Nat.le_of_ble_eq_true rfl) (by decide +kernel) ⟨rfl, rfl⟩ dX2_isSameBody_20
  · rw [show decide (bo x = bo y) = true from decide_eq_true c1] at E
    refine a_iconst (pc := 15) (v := nI 1) C ci_1 dX2_isSameBody_15 ?_
    refine a_goto (pc := 16) (tgt := 20) C (by decide) dX2_isSameBody_16 ?_
    exact a_zret (pc := 20) (b := true) C E (Nat.le_of_ble_eq_true rfl) (Nat.le_of_ble_eq_true rfl) (by decide +kernel) ⟨rfl, rfl⟩ dX2_isSameBody_20
set_option maxHeartbeats 4000000 in
set_option maxRecDepth 100000 in
theorem c_X2_isLater (κ : aK) (a : Nat → Nat) {n : Nat} {dug : Nat → Bool} {dtd : Nat → Bool} {so : Nat → Int32} {ph : Nat → Int32} {uf : Nat → Int32} {ul : Nat → Int32} {r : Nat} {ki : Nat → Int32} {lt : Nat → Nat} {er : Nat → Nat} {mz : Nat} {bd : Nat → Bool} {bo : Nat → Nat} {me : Nat → Nat → Bool} {dE : Nat → Nat → Bool} {eE : Nat → Nat → Bool} {lE : Nat → Nat → Bool} {li : Nat → Nat → Bool} {fB : Nat → Int32} {fA : Nat → Int32} {sL : Nat → Int32} {f : Nat} {fu : Nat → Nat} {fs : Nat → Int32} {ff : Nat → Int32} {fl : Nat → Int32} {xs : Nat → Int32} {ys : Nat → Int32} {zs : Nat → Int32} {oL : Nat → Int32} {oU : Nat → Int32} {lo : Nat → Int32} {up : Nat → Int32} {X : va_W} {x : Nat} {y : Nat} (hx : x < 40) (hy : y < 40) (hbo : ∀ u, bo u < 40) : CM yX2_isLater cX2_isLater 3 (some .boolean) ({ frames := 2, cells := 0, slots := 0, locals := 42 } : Room) κ [.ref (a 3), .int (nI x), .int (nI y)] (wC κ a n dug dtd so ph uf ul r ki lt er mz bd bo me dE eE lE li fB fA sL f fu fs ff fl xs ys zs oL oU lo up X) (aD (some (.int (b2i (eE (bo x) (bo y))))) (wC κ a n dug dtd so ph uf ul r ki lt er mz bd bo me dE eE lE li fB fA sL f fu fs ff fl xs ys zs oL oU lo up X)) := by
  refine cm_entry (own := RX2) (L := [(0, .ref (a 3)), (1, .int (nI x)), (2, .int (nI y))]) (by decide +kernel) rfl (lv_entry [.ref (a 3), .int (nI x), .int (nI y)] (n := 3) (Nat.le_of_ble_eq_true rfl)) (fun g C E => ?_)
  have hb1 := hbo x
  have hb2 := hbo y
  refine a_aloadn (pc := 0) C 0 rfl rfl dX2_isLater_0 ?_
  refine a_get (pc := 1) C fl_X2_22 3 rfl rfl dX2_isLater_1 ?_
  refine a_aloadn (pc := 4) C 0 rfl rfl dX2_isLater_4 ?_
  refine a_get (pc := 5) C fl_X2_9 3 rfl rfl dX2_isLater_5 ?_
  refine a_iloadn (pc := 8) C 1 rfl rfl dX2_isLater_8 ?_
  refine a_ialdN (pc := 9) C 13 rfl (by omega) (by decide) dX2_isLater_9 ?_
  refine a_laldS (pc := 10) C 16 rfl (hbo _) (by decide) dX2_isLater_10 ?_
  refine a_aloadn (pc := 11) C 0 rfl rfl dX2_isLater_11 ?_
  refine a_get (pc := 12) C fl_X2_9 3 rfl rfl dX2_isLater_12 ?_
  refine a_iloadn (pc := 15) C 2 rfl rfl dX2_isLater_15 ?_
  refine a_ialdN (pc := 16) C 13 rfl (by omega) (by decide) dX2_isLater_16 ?_
  refine a_callSN1 (pc := 17) (k' := 0) (n' := 0) C (c_X5_has κ (by omega)) yv_X5_has ne_X2_40 ws_X5_has rfl rfl (Nat.le_of_ble_eq_true rfl) (Nat.le_of_ble_eq_true rfl) (Nat.le_of_ble_eq_true rfl) ⟨(Nat.le_of_ble_eq_true rfl), (Nat.le_of_ble_eq_true rfl)⟩ rfl rfl dX2_isLater_17 ?_
  exact a_zret (pc := 20) (b := (eE (bo x)) (bo y)) C E (Nat.le_of_ble_eq_true rfl) (Nat.le_of_ble_eq_true rfl) rfl ⟨rfl, rfl⟩ dX2_isLater_20
