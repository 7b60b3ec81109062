set_option maxHeartbeats 4000000 in
set_option maxRecDepth 100000 in
theorem c_X2_linkCount (κ : aK) (a : Nat → Nat) {n : Nat} {dug : Nat → Bool} {dtd : Nat → Bool} {so : Nat → Int32} {ph : Nat → Int32} {uf : Nat → Int32} {ul : Nat → Int32} {r : Nat} {ki : Nat → Int32} {lt : Nat → Nat} {er : Nat → Nat} {mz : Nat} {bd : Nat → Bool} {bo : Nat → Nat} {me : Nat → Nat → Bool} {dE : Nat → Nat → Bool} {eE : Nat → Nat → Bool} {lE : Nat → Nat → Bool} {li : Nat → Nat → Bool} {fB : Nat → Int32} {fA : Nat → Int32} {sL : Nat → Int32} {f : Nat} {fu : Nat → Nat} {fs : Nat → Int32} {ff : Nat → Int32} {fl : Nat → Int32} {xs : Nat → Int32} {ys : Nat → Int32} {zs : Nat → Int32} {oL : Nat → Int32} {oU : Nat → Int32} {lo : Nat → Int32} {up : Nat → Int32} {X : va_W} (hm : mz ≤ 40) : CM yX2_linkCount cX2_linkCount 3 (some .int) ({ frames := 1, cells := 0, slots := 0, locals := 21 } : Room) κ [.ref (a 3)] (wC κ a n dug dtd so ph uf ul r ki lt er mz bd bo me dE eE lE li fB fA sL f fu fs ff fl xs ys zs oL oU lo up X) (aD (some (.int (bcS li mz))) (wC κ a n dug dtd so ph uf ul r ki lt er mz bd bo me dE eE lE li fB fA sL f fu fs ff fl xs ys zs oL oU lo up X)) := by
  refine cm_entry (own := RX2) (L := [(0, .ref (a 3))]) (by decide +kernel) rfl (lv_entry [.ref (a 3)] (n := 3) (Nat.le_of_ble_eq_true rfl)) (fun g C E => ?_)
  refine a_iconst (pc := 0) (v := nI 0) C ci_0 dX2_linkCount_0 ?_
  refine a_istoren (pc := 1) (L' := [(0, .ref (a 3)), (1, .int (nI 0))]) C (by decide) rfl rfl dX2_linkCount_1 ?_
  refine a_iconst (pc := 2) (v := nI 0) C ci_0 dX2_linkCount_2 ?_
  refine a_istoren (pc := 3) (L' := [(0, .ref (a 3)), (1, .int (nI 0)), (2, .int (nI 0))]) C (by decide) rfl rfl dX2_linkCount_3 ?_
  have LP4 : ∀ (jz k : Nat), k + jz = mz → aw g κ 3 4 [(0, .ref (a 3)), (1, .int (bcS li k)), (2, .int (nI k))] [] (wC κ a n dug dtd so ph uf ul r ki lt er mz bd bo me dE eE lE li fB fA sL f fu fs ff fl xs ys zs oL oU lo up X) 0 0 := by
    intro jz
    induction jz with
    | zero =>
      intro k hk_k
      obtain rfl : mz = k := by omega
      refine a_iloadn (pc := 4) C 2 rfl rfl dX2_linkCount_4 ?_
      refine a_aloadn (pc := 5) C 0 rfl rfl dX2_linkCount_5 ?_
      refine a_get (pc := 6) C fl_X2_44 3 rfl rfl dX2_linkCount_6 ?_
      refine a_icn_ge_y (pc := 9) (tgt := 30) C (by omega) (by omega) (by omega) (by decide) dX2_linkCount_9 ?_
      refine a_iloadn (pc := 30) C 1 rfl rfl dX2_linkCount_30 ?_
      exact a_iret (pc := 31) C E (Nat.le_of_ble_eq_true rfl) (Nat.le_of_ble_eq_true rfl) ⟨rfl, rfl⟩ dX2_linkCount_31
    | succ jz ih =>
      intro k hk_k
      have hlt_k : k < mz := by omega
      refine a_iloadn (pc := 4) C 2 rfl rfl dX2_linkCount_4 ?_
      refine a_aloadn (pc := 5) C 0 rfl rfl dX2_linkCount_5 ?_
      refine a_get (pc := 6) C fl_X2_44 3 rfl rfl dX2_linkCount_6 ?_
      refine a_icn_ge_n (pc := 9) C (by omega) (by omega) (by omega) dX2_linkCount_9 ⟨30, by decide⟩ ?_
      refine a_iloadn (pc := 12) C 1 rfl rfl dX2_linkCount_12 ?_
      refine a_aloadn (pc := 13) C 0 rfl rfl dX2_linkCount_13 ?_
      refine a_get (pc := 14) C fl_X2_28 3 rfl rfl dX2_linkCount_14 ?_
      refine a_iloadn (pc := 17) C 2 rfl rfl dX2_linkCount_17 ?_
      refine a_laldS (pc := 18) C 18 rfl (by omega) (by decide) dX2_linkCount_18 ?_
      refine a_callS1 (pc := 19) (k' := 0) (n' := 0) C (c_J13_bitCount_95d88 κ) yv_J13_bitCount_95d88 ml_X2_103 ws_J13_bitCount_95d88 rfl rfl (Nat.le_of_ble_eq_true rfl) (Nat.le_of_ble_eq_true rfl) (Nat.le_of_ble_eq_true rfl) ⟨(Nat.le_of_ble_eq_true rfl), (Nat.le_of_ble_eq_true rfl)⟩ rfl rfl dX2_linkCount_19 ?_
      refine a_iadd (pc := 22) (v := (bcS li k) + (bcI (bs (li k)))) C rfl dX2_linkCount_22 ?_
      refine a_istoren (pc := 23) (L' := [(0, .ref (a 3)), (1, .int ((bcS li k) + (bcI (bs (li k))))), (2, .int (nI k))]) C (by decide) rfl rfl dX2_linkCount_23 ?_
      refine a_iinc (pc := 24) (v := nI (k + 1)) (L' := [(0, .ref (a 3)), (1, .int ((bcS li k) + (bcI (bs (li k))))), (2, .int (nI (k + 1)))]) C 2 rfl (nI_inc _) (by decide) rfl dX2_linkCount_24 ?_
      refine a_goto (pc := 27) (tgt := 4) C (by decide) dX2_linkCount_27 ?_
      refine aw_L (L' := [(0, .ref (a 3)), (1, .int (bcS li (k + 1))), (2, .int (nI (k + 1)))]) (congrArg (fun zz9 => ([(0, .ref (a 3)), (1, .int zz9), (2, .int (nI (k + 1)))] : List (Nat × Value))) (rfl : ((bcS li k) + (bcI (bs (li k)))) = (bcS li (k + 1)))) ?_
      exact ih (k + 1) (by omega)
  refine aw_L (L' := [(0, .ref (a 3)), (1, .int (bcS li 0)), (2, .int (nI 0))]) (congrArg (fun zz9 => ([(0, .ref (a 3)), (1, .int zz9), (2, .int (nI 0))] : List (Nat × Value))) (rfl : (nI 0) = (bcS li 0))) ?_
  exact LP4 (mz) (0) (by omega)
set_option maxHeartbeats 4000000 in
set_option maxRecDepth 100000 in
theorem c_X2_levelCount (κ : aK) (a : Nat → Nat) {n : Nat} {dug : Nat → Bool} {dtd : Nat → Bool} {so : Nat → Int32} {ph : Nat → Int32} {uf : Nat → Int32} {ul : Nat → Int32} {r : Nat} {ki : Nat → Int32} {lt : Nat → Nat} {er : Nat → Nat} {mz : Nat} {bd : Nat → Bool} {bo : Nat → Nat} {me : Nat → Nat → Bool} {dE : Nat → Nat → Bool} {eE : Nat → Nat → Bool} {lE : Nat → Nat → Bool} {li : Nat → Nat → Bool} {fB : Nat → Int32} {fA : Nat → Int32} {sL : Nat → Int32} {f : Nat} {fu : Nat → Nat} {fs : Nat → Int32} {ff : Nat → Int32} {fl : Nat → Int32} {xs : Nat → Int32} {ys : Nat → Int32} {zs : Nat → Int32} {oL : Nat → Int32} {oU : Nat → Int32} {lo : Nat → Int32} {up : Nat → Int32} {X : va_W} (hm : mz ≤ 40) : CM yX2_levelCount cX2_levelCount 3 (some .int) ({ frames := 2, cells := 0, slots := 0, locals := 42 } : Room) κ [.ref (a 3)] (wC κ a n dug dtd so ph uf ul r ki lt er mz bd bo me dE eE lE li fB fA sL f fu fs ff fl xs ys zs oL oU lo up X) (aD (some (.int (lvS bd fB mz))) (wC κ a n dug dtd so ph uf ul r ki lt er mz bd bo me dE eE lE li fB fA sL f fu fs ff fl xs ys zs oL oU lo up X)) := by
  refine cm_entry (own := RX2) (L := [(0, .ref (a 3))]) (by decide +kernel) rfl (lv_entry [.ref (a 3)] (n := 3) (Nat.le_of_ble_eq_true rfl)) (fun g C E => ?_)
  refine a_iconst (pc := 0) (v := nI 0) C ci_0 dX2_levelCount_0 ?_
  refine a_istoren (pc := 1) (L' := [(0, .ref (a 3)), (1, .int (nI 0))]) C (by decide) rfl rfl dX2_levelCount_1 ?_
  refine a_iconst (pc := 2) (v := nI 0) C ci_0 dX2_levelCount_2 ?_
  refine a_istoren (pc := 3) (L' := [(0, .ref (a 3)), (1, .int (nI 0)), (2, .int (nI 0))]) C (by decide) rfl rfl dX2_levelCount_3 ?_
  have LP4 : ∀ (jz k : Nat), k + jz = mz → aw g κ 3 4 [(0, .ref (a 3)), (1, .int (lvS bd fB k)), (2, .int (nI k))] [] (wC κ a n dug dtd so ph uf ul r ki lt er mz bd bo me dE eE lE li fB fA sL f fu fs ff fl xs ys zs oL oU lo up X) 0 0 := by
    intro jz
    induction jz with
    | zero =>
      intro k hk_k
      obtain rfl : mz = k := by omega
      refine a_iloadn (pc := 4) C 2 rfl rfl dX2_levelCount_4 ?_
      refine a_aloadn (pc := 5) C 0 rfl rfl dX2_levelCount_5 ?_
      refine a_get (pc := 6) C fl_X2_44 3 rfl rfl dX2_levelCount_6 ?_
      refine a_icn_ge_y (pc := 9) (tgt := 42) C (by omega) (by omega) (by omega) (by decide) dX2_levelCount_9 ?_
      refine a_iloadn (pc := 42) C 1 rfl rfl dX2_levelCount_42 ?_
      exact a_iret (pc := 43) C E (Nat.le_of_ble_eq_true rfl) (Nat.le_of_ble_eq_true rfl) ⟨rfl, rfl⟩ dX2_levelCount_43
    | succ jz ih =>
      intro k hk_k
      have hlt_k : k < mz := by omega
      refine a_iloadn (pc := 4) C 2 rfl rfl dX2_levelCount_4 ?_
      refine a_aloadn (pc := 5) C 0 rfl rfl dX2_levelCount_5 ?_
      refine a_get (pc := 6) C fl_X2_44 3 rfl rfl dX2_levelCount_6 ?_
      refine a_icn_ge_n (pc := 9) C (by omega) (by omega) (by omega) dX2_levelCount_9 ⟨42, by decide⟩ ?_
      refine a_aloadn (pc := 12) C 0 rfl rfl dX2_levelCount_12 ?_
      refine a_get (pc := 13) C fl_X2_67 3 rfl rfl dX2_levelCount_13 ?_
      refine a_iloadn (pc := 16) C 2 rfl rfl dX2_levelCount_16 ?_
      refine a_callSN1 (pc := 17) (k' := 0) (n' := 0) C (c_X5_has κ (by omega)) yv_X5_has ne_X2_40 ws_X5_has rfl rfl (Nat.le_of_ble_eq_true rfl) (Nat.le_of_ble_eq_true rfl) (Nat.le_of_ble_eq_true rfl) ⟨(Nat.le_of_ble_eq_true rfl), (Nat.le_of_ble_eq_true rfl)⟩ rfl rfl dX2_levelCount_17 ?_
      refine a_ifb_eq (pc := 20) (tgt := 36) C (by decide) dX2_levelCount_20 (fun c1 => ?_) (fun c1 => ?_)
      · refine a_iinc (pc := 36) (v := nI (k + 1)) (L' := [(0, .ref (a 3)), (1, .int (lvS bd fB k)), (2, .int (nI (k + 1)))]) C 2 rfl (nI_inc _) (by decide) rfl dX2_levelCount_36 ?_
        refine a_goto (pc := 39) (tgt := 4) C (by decide) dX2_levelCount_39 ?_
        refine aw_L (L' := [(0, .ref (a 3)), (1, .int (lvS bd fB (k + 1))), (2, .int (nI (k + 1)))]) (congrArg (fun zz9 => ([(0, .ref (a 3)), (1, .int zz9), (2, .int (nI (k + 1)))] : List (Nat × Value))) (lvS_n c1 : (lvS bd fB k) = (lvS bd fB (k + 1)))) ?_
        exact ih (k + 1) (by omega)
      · refine a_iloadn (pc := 23) C 1 rfl rfl dX2_levelCount_23 ?_
        refine a_aloadn (pc := 24) C 0 rfl rfl dX2_levelCount_24 ?_
        refine a_get (pc := 25) C fl_X2_31 3 rfl rfl dX2_levelCount_25 ?_
        refine a_iloadn (pc := 28) C 2 rfl rfl dX2_levelCount_28 ?_
        refine a_iald (pc := 29) C 19 rfl (by omega) (by decide) dX2_levelCount_29 ?_
        refine a_iconst (pc := 30) (v := nI 1) C ci_1 dX2_levelCount_30 ?_
        refine a_iadd (pc := 31) (v := (fB k) + (nI 1)) C rfl dX2_levelCount_31 ?_
        refine a_mmax (pc := 32) (v := imax (lvS bd fB k) ((fB k) + (nI 1))) C ml_X2_109 rfl (Nat.le_of_ble_eq_true rfl) (Nat.le_of_ble_eq_true rfl) (Nat.le_of_ble_eq_true rfl) (Nat.le_of_ble_eq_true rfl) dX2_levelCount_32 ?_
        refine a_istoren (pc := 35) (L' := [(0, .ref (a 3)), (1, .int (imax (lvS bd fB k) ((fB k) + (nI 1)))), (2, .int (nI k))]) C (by decide) rfl rfl dX2_levelCount_35 ?_
        refine a_iinc (pc := 36) (v := nI (k + 1)) (L' := [(0, .ref (a 3)), (1, .int (imax (lvS bd fB k) ((fB k) + (nI 1)))), (2, .int (nI (k + 1)))]) C 2 rfl (nI_inc _) (by decide) rfl dX2_levelCount_36 ?_
        refine a_goto (pc := 39) (tgt := 4) C (by decide) dX2_levelCount_39 ?_
        refine aw_L (L' := [(0, .ref (a 3)), (1, .int (lvS bd fB (k + 1))), (2, .int (nI (k + 1)))]) (congrArg (fun zz9 => ([(0, .ref (a 3)), (1, .int zz9), (2, .int (nI (k + 1)))] : List (Nat × Value))) (lvS_y c1 : (imax (lvS bd fB k) ((fB k) + (nI 1))) = (lvS bd fB (k + 1)))) ?_
        exact ih (k + 1) (by omega)
  refine aw_L (L' := [(0, .ref (a 3)), (1, .int (lvS bd fB 0)), (2, .int (nI 0))]) (congrArg (fun zz9 => ([(0, .ref (a 3)), (1, .int zz9), (2, .int (nI 0))] : List (Nat × Value))) (rfl : (nI 0) = (lvS bd fB 0))) ?_
  exact LP4 (mz) (0) (by omega)
set_option maxHeartbeats 4000000 in
set_option maxRecDepth 100000 in
theorem c_X2_nextOnWay (κ : aK) (a : Nat → Nat) {n : Nat} {dug : Nat → Bool} {dtd : Nat → Bool} {so : Nat → Int32} {ph : Nat → Int32} {uf : Nat → Int32} {ul : Nat → Int32} {r : Nat} {ki : Nat → Int32} {lt : Nat → Nat} {er : Nat → Nat} {mz : Nat} {bd : Nat → Bool} {bo : Nat → Nat} {me : Nat → Nat → Bool} {dE : Nat → Nat → Bool} {eE : Nat → Nat → Bool} {lE : Nat → Nat → Bool} {li : Nat → Nat → Bool} {fB : Nat → Int32} {fA : Nat → Int32} {sL : Nat → Int32} {f : Nat} {fu : Nat → Nat} {fs : Nat → Int32} {ff : Nat → Int32} {fl : Nat → Int32} {xs : Nat → Int32} {ys : Nat → Int32} {zs : Nat → Int32} {oL : Nat → Int32} {oU : Nat → Int32} {lo : Nat → Int32} {up : Nat → Int32} {X : va_W} {x : Nat} {ca : Nat → Bool} (hm : mz ≤ 40) (hx : x < 40) : CM yX2_nextOnWay cX2_nextOnWay 5 (some .int) ({ frames := 2, cells := 0, slots := 0, locals := 42 } : Room) κ [.ref (a 3), .int (nI x), .long (bs ca)] (wC κ a n dug dtd so ph uf ul r ki lt er mz bd bo me dE eE lE li fB fA sL f fu fs ff fl xs ys zs oL oU lo up X) (aD (some (.int (oI (nxW mz ca sL x)))) (wC κ a n dug dtd so ph uf ul r ki lt er mz bd bo me dE eE lE li fB fA sL f fu fs ff fl xs ys zs oL oU lo up X)) := by
  refine cm_entry (own := RX2) (L := [(0, .ref (a 3)), (1, .int (nI x)), (2, .long (bs ca))]) (by decide +kernel) rfl (lv_entry [.ref (a 3), .int (nI x), .long (bs ca)] (n := 5) (Nat.le_of_ble_eq_true rfl)) (fun g C E => ?_)
  refine a_iconst (pc := 0) (v := nI 0) C ci_0 dX2_nextOnWay_0 ?_
  refine a_istore (pc := 1) (L' := [(0, .ref (a 3)), (1, .int (nI x)), (2, .long (bs ca)), (4, .int (nI 0))]) C (by decide) rfl dX2_nextOnWay_1 ?_
  have LP3 : ∀ (jz k : Nat), k + jz = mz → (fst1 (fun v => ca v && decide (sL v = sL x - nI 1)) k = none) → aw g κ 5 3 [(0, .ref (a 3)), (1, .int (nI x)), (2, .long (bs ca)), (4, .int (nI k))] [] (wC κ a n dug dtd so ph uf ul r ki lt er mz bd bo me dE eE lE li fB fA sL f fu fs ff fl xs ys zs oL oU lo up X) 0 0 := by
    intro jz
    induction jz with
    | zero =>
      intro k hk_k hno
      obtain rfl : mz = k := by omega
      refine a_iload (pc := 3) C 3 rfl dX2_nextOnWay_3 ?_
      refine a_aloadn (pc := 5) C 0 rfl rfl dX2_nextOnWay_5 ?_
      refine a_get (pc := 6) C fl_X2_44 3 rfl rfl dX2_nextOnWay_6 ?_
      refine a_icn_ge_y (pc := 9) (tgt := 48) C (by omega) (by omega) (by omega) (by decide) dX2_nextOnWay_9 ?_
      refine a_iconst (pc := 48) (v := (-1 : Int32)) C ci_m1 dX2_nextOnWay_48 ?_
      exact a_iret (pc := 49) C E (Nat.le_of_ble_eq_true rfl) (Nat.le_of_ble_eq_true rfl) ⟨by rw [show nxW mz ca sL x = none from hno]; rfl, rfl⟩ dX2_nextOnWay_49
    | succ jz ih =>
      intro k hk_k hno
      have hlt_k : k < mz := by omega
      refine a_iload (pc := 3) C 3 rfl dX2_nextOnWay_3 ?_
      refine a_aloadn (pc := 5) C 0 rfl rfl dX2_nextOnWay_5 ?_
      refine a_get (pc := 6) C fl_X2_44 3 rfl rfl dX2_nextOnWay_6 ?_
      refine a_icn_ge_n (pc := 9) C (by omega) (by omega) (by omega) dX2_nextOnWay_9 ⟨48, by decide⟩ ?_
      refine a_lloadn (pc := 12) C 2 rfl rfl dX2_nextOnWay_12 ?_
      refine a_iload (pc := 13) C 3 rfl dX2_nextOnWay_13 ?_
      refine a_callSN1 (pc := 15) (k' := 0) (n' := 0) C (c_X5_has κ (by omega)) yv_X5_has ne_X2_40 ws_X5_has rfl rfl (Nat.le_of_ble_eq_true rfl) (Nat.le_of_ble_eq_true rfl) (Nat.le_of_ble_eq_true rfl) ⟨(Nat.le_of_ble_eq_true rfl), (Nat.le_of_ble_eq_true rfl)⟩ rfl rfl dX2_nextOnWay_15 ?_
      refine a_ifb_eq (pc := 18) (tgt := 42) C (by decide) dX2_nextOnWay_18 (fun c1 => ?_) (fun c1 => ?_)
      · refine a_iinc (pc := 42) (v := nI (k + 1)) (L' := [(0, .ref (a 3)), (1, .int (nI x)), (2, .long (bs ca)), (4, .int (nI (k + 1)))]) C 3 rfl (nI_inc _) (by decide) rfl dX2_nextOnWay_42 ?_
        refine a_goto (pc := 45) (tgt := 3) C (by decide) dX2_nextOnWay_45 ?_
        exact ih (k + 1) (by omega) (fst1_mis hno (and_ff c1))
      · refine a_aloadn (pc := 21) C 0 rfl rfl dX2_nextOnWay_21 ?_
        refine a_get (pc := 22) C fl_X2_37 3 rfl rfl dX2_nextOnWay_22 ?_
        refine a_iload (pc := 25) C 3 rfl dX2_nextOnWay_25 ?_
        refine a_iald (pc := 27) C 21 rfl (by omega) (by decide) dX2_nextOnWay_27 ?_
        refine a_aloadn (pc := 28) C 0 rfl rfl dX2_nextOnWay_28 ?_
        refine a_get (pc := 29) C fl_X2_37 3 rfl rfl dX2_nextOnWay_29 ?_
        refine a_iloadn (pc := 32) C 1 rfl rfl dX2_nextOnWay_32 ?_
        refine a_iald (pc := 33) C 21 rfl (by omega) (by decide) dX2_nextOnWay_33 ?_
        refine a_iconst (pc := 34) (v := nI 1) C ci_1 dX2_nextOnWay_34 ?_
        refine a_isub (pc := 35) (v := (sL x) - (nI 1)) C rfl dX2_nextOnWay_35 ?_
        refine a_ic_ne (pc := 36) (tgt := 42) C (by decide) dX2_nextOnWay_36 (fun c2 => ?_) (fun c2 => ?_)
        · refine a_iinc (pc := 42) (v := nI (k + 1)) (L' := [(0, .ref (a 3)), (1, .int (nI x)), (2, .long (bs ca)), (4, .int (nI (k + 1)))]) C 3 rfl (nI_inc _) (by decide) rfl dX2_nextOnWay_42 ?_
          refine a_goto (pc := 45) (tgt := 3) C (by decide) dX2_nextOnWay_45 ?_
          exact ih (k + 1) (by omega) (fst1_mis hno (and_tf c1 (decide_eq_false c2)))
        · refine a_iload (pc := 39) C 3 rfl dX2_nextOnWay_39 ?_
          exact a_iret (pc := 41) C E (Nat.le_of_ble_eq_true rfl) (Nat.le_of_ble_eq_true rfl) ⟨by rw [show nxW mz ca sL x = some k from fst1_at hlt_k hno (and_tt c1 (decide_eq_true c2))]; rfl, rfl⟩ dX2_nextOnWay_41
  exact LP3 (mz) (0) (by omega) rfl
set_option maxHeartbeats 4000000 in
set_option maxRecDepth 100000 in
theorem c_X2_bodyOnWay (κ : aK) (a : Nat → Nat) {n : Nat} {dug : Nat → Bool} {dtd : Nat → Bool} {so : Nat → Int32} {ph : Nat → Int32} {uf : Nat → Int32} {ul : Nat → Int32} {r : Nat} {ki : Nat → Int32} {lt : Nat → Nat} {er : Nat → Nat} {mz : Nat} {bd : Nat → Bool} {bo : Nat → Nat} {me : Nat → Nat → Bool} {dE : Nat → Nat → Bool} {eE : Nat → Nat → Bool} {lE : Nat → Nat → Bool} {li : Nat → Nat → Bool} {fB : Nat → Int32} {fA : Nat → Int32} {sL : Nat → Int32} {f : Nat} {fu : Nat → Nat} {fs : Nat → Int32} {ff : Nat → Int32} {fl : Nat → Int32} {xs : Nat → Int32} {ys : Nat → Int32} {zs : Nat → Int32} {oL : Nat → Int32} {oU : Nat → Int32} {lo : Nat → Int32} {up : Nat → Int32} {X : va_W} {top : Nat} {bot : Nat} {idx : Nat} (hm : mz ≤ 40) (ht : top < 40) (hb : bot < 40) (hi : idx < 40) : CM yX2_bodyOnWay cX2_bodyOnWay 8 (some .int) ({ frames := 3, cells := 0, slots := 0, locals := 72 } : Room) κ [.ref (a 3), .int (nI top), .int (nI bot), .int (nI idx)] (wC κ a n dug dtd so ph uf ul r ki lt er mz bd bo me dE eE lE li fB fA sL f fu fs ff fl xs ys zs oL oU lo up X) (aD (some (.int (oI (wyR mz li eE lE sL top bot idx)))) (wC κ a n dug dtd so ph uf ul r ki lt er mz bd bo me dE eE lE li fB fA (wyL mz eE lE sL top bot) f fu fs ff fl xs ys zs oL oU lo up X)) := by
  refine cm_entry (own := RX2) (L := [(0, .ref (a 3)), (1, .int (nI top)), (2, .int (nI bot)), (3, .int (nI idx))]) (by decide +kernel) rfl (lv_entry [.ref (a 3), .int (nI top), .int (nI bot), .int (nI idx)] (n := 8) (Nat.le_of_ble_eq_true rfl)) (fun g C E => ?_)
  refine a_aloadn (pc := 0) C 0 rfl rfl dX2_bodyOnWay_0 ?_
  refine a_get (pc := 1) C fl_X2_25 3 rfl rfl dX2_bodyOnWay_1 ?_
  refine a_iloadn (pc := 4) C 2 rfl rfl dX2_bodyOnWay_4 ?_
  refine a_laldS (pc := 5) C 17 rfl (by omega) (by decide) dX2_bodyOnWay_5 ?_
  refine a_iloadn (pc := 6) C 2 rfl rfl dX2_bodyOnWay_6 ?_
  refine a_callSN1 (pc := 7) (k' := 0) (n' := 0) C (c_X5_bit κ (by omega)) yv_X5_bit ne_X2_97 ws_X5_bit rfl rfl (Nat.le_of_ble_eq_true rfl) (Nat.le_of_ble_eq_true rfl) (Nat.le_of_ble_eq_true rfl) ⟨(Nat.le_of_ble_eq_true rfl), (Nat.le_of_ble_eq_true rfl)⟩ rfl rfl dX2_bodyOnWay_7 ?_
  refine a_lor (pc := 10) (v := bs (obS lE bot)) C (bs_or _ _) dX2_bodyOnWay_10 ?_
  refine a_lstore (pc := 11) (L' := [(0, .ref (a 3)), (1, .int (nI top)), (2, .int (nI bot)), (3, .int (nI idx)), (4, .long (bs (obS lE bot)))]) C (by decide) rfl dX2_bodyOnWay_11 ?_
  refine a_lload (pc := 13) C 4 rfl dX2_bodyOnWay_13 ?_
  refine a_iloadn (pc := 15) C 1 rfl rfl dX2_bodyOnWay_15 ?_
  refine a_callSN1 (pc := 16) (k' := 0) (n' := 0) C (c_X5_has κ (by omega)) yv_X5_has ne_X2_40 ws_X5_has rfl rfl (Nat.le_of_ble_eq_true rfl) (Nat.le_of_ble_eq_true rfl) (Nat.le_of_ble_eq_true rfl) ⟨(Nat.le_of_ble_eq_true rfl), (Nat.le_of_ble_eq_true rfl)⟩ rfl rfl dX2_bodyOnWay_16 ?_
  refine a_ifb_ne (pc := 19) (tgt := 24) C (by decide) dX2_bodyOnWay_19 (fun c1 => ?_) (fun c1 => ?_)
  · refine a_aloadn (pc := 24) C 0 rfl rfl dX2_bodyOnWay_24 ?_
    refine a_lload (pc := 25) C 4 rfl dX2_bodyOnWay_25 ?_
    refine a_aloadn (pc := 27) C 0 rfl rfl dX2_bodyOnWay_27 ?_
    refine a_get (pc := 28) C fl_X2_22 3 rfl rfl dX2_bodyOnWay_28 ?_
    refine a_aloadn (pc := 31) C 0 rfl rfl dX2_bodyOnWay_31 ?_
    refine a_get (pc := 32) C fl_X2_37 3 rfl rfl dX2_bodyOnWay_32 ?_
    refine a_callV0 (pc := 35) (k' := 0) (n' := 0) C (c_X2_rank_eE_sL κ a (by omega)) yv_X2_rank ml_X2_71 wi_X2_rank wl_X2_rank 3 rfl rfl rfl rfl (Nat.le_of_ble_eq_true rfl) (Nat.le_of_ble_eq_true rfl) (Nat.le_of_ble_eq_true rfl) ⟨(Nat.le_of_ble_eq_true rfl), (Nat.le_of_ble_eq_true rfl)⟩ rfl rfl dX2_bodyOnWay_35 ?_
    refine a_iloadn (pc := 38) C 1 rfl rfl dX2_bodyOnWay_38 ?_
    refine a_istore (pc := 39) (L' := [(0, .ref (a 3)), (1, .int (nI top)), (2, .int (nI bot)), (3, .int (nI idx)), (4, .long (bs (obS lE bot))), (6, .int (nI top))]) C (by decide) rfl dX2_bodyOnWay_39 ?_
    refine a_iconst (pc := 41) (v := nI 0) C ci_0 dX2_bodyOnWay_41 ?_
    refine a_istore (pc := 42) (L' := [(0, .ref (a 3)), (1, .int (nI top)), (2, .int (nI bot)), (3, .int (nI idx)), (4, .long (bs (obS lE bot))), (6, .int (nI top)), (7, .int (nI 0))]) C (by decide) rfl dX2_bodyOnWay_42 ?_
    have LP44 : ∀ (jz k : Nat), k + jz = idx → aw g κ 8 44 [(0, .ref (a 3)), (1, .int (nI top)), (2, .int (nI bot)), (3, .int (nI idx)), (4, .long (bs (obS lE bot))), (6, .int (oI (wyS mz li (obS lE bot) (rkV mz (obS lE bot) eE sL 40) top k))), (7, .int (nI k))] [] (wC κ a n dug dtd so ph uf ul r ki lt er mz bd bo me dE eE lE li fB fA (rkV mz (obS lE bot) eE sL 40) f fu fs ff fl xs ys zs oL oU lo up X) 0 0 := by
      intro jz
      induction jz with
      | zero =>
        intro k hk_k
        obtain rfl : idx = k := by omega
        refine a_iload (pc := 44) C 6 rfl dX2_bodyOnWay_44 ?_
        refine a_iloadn (pc := 46) C 3 rfl rfl dX2_bodyOnWay_46 ?_
        refine a_icn_ge_y (pc := 47) (tgt := 79) C (by omega) (by omega) (by omega) (by decide) dX2_bodyOnWay_47 ?_
        refine a_iload (pc := 79) C 5 rfl dX2_bodyOnWay_79 ?_
        exact a_iret (pc := 81) C E (Nat.le_of_ble_eq_true rfl) (Nat.le_of_ble_eq_true rfl) ⟨by rw [wyR_y c1], by rw [wyL_y c1]⟩ dX2_bodyOnWay_81
      | succ jz ih =>
        intro k hk_k
        have hlt_k : k < idx := by omega
        refine a_iload (pc := 44) C 6 rfl dX2_bodyOnWay_44 ?_
        refine a_iloadn (pc := 46) C 3 rfl rfl dX2_bodyOnWay_46 ?_
        refine a_icn_ge_n (pc := 47) C (by omega) (by omega) (by omega) dX2_bodyOnWay_47 ⟨79, by decide⟩ ?_
        cases hw : wyS mz li (obS lE bot) (rkV mz (obS lE bot) eE sL 40) top k with
        | none =>
          refine aw_L (L' := [(0, .ref (a 3)), (1, .int (nI top)), (2, .int (nI bot)), (3, .int (nI idx)), (4, .long (bs (obS lE bot))), (6, .int (-1 : Int32)), (7, .int (nI k))]) (congrArg (fun zz9 => ([(0, .ref (a 3)), (1, .int (nI top)), (2, .int (nI bot)), (3, .int (nI idx)), (4, .long (bs (obS lE bot))), (6, .int zz9), (7, .int (nI k))] : List (Nat × Value))) (rfl : (oI none) = (-1 : Int32))) ?_
          refine a_iload (pc := 50) C 5 rfl dX2_bodyOnWay_50 ?_
          refine a_if_lt_y (pc := 52) (tgt := 79) C (by decide +kernel) (by decide) dX2_bodyOnWay_52 ?_
          refine a_iload (pc := 79) C 5 rfl dX2_bodyOnWay_79 ?_
          exact a_iret (pc := 81) C E (Nat.le_of_ble_eq_true rfl) (Nat.le_of_ble_eq_true rfl) ⟨by rw [wyR_y c1, wyS_none hw (Nat.le_of_lt hlt_k)]; rfl, by rw [wyL_y c1]⟩ dX2_bodyOnWay_81
        | some x =>
          have hx : x < 40 := wyS_lt ht hm hw
          refine aw_L (L' := [(0, .ref (a 3)), (1, .int (nI top)), (2, .int (nI bot)), (3, .int (nI idx)), (4, .long (bs (obS lE bot))), (6, .int (nI x)), (7, .int (nI k))]) (congrArg (fun zz9 => ([(0, .ref (a 3)), (1, .int (nI top)), (2, .int (nI bot)), (3, .int (nI idx)), (4, .long (bs (obS lE bot))), (6, .int zz9), (7, .int (nI k))] : List (Nat × Value))) (rfl : (oI (some x)) = (nI x))) ?_
          refine a_iload (pc := 50) C 5 rfl dX2_bodyOnWay_50 ?_
          refine a_if_lt_n (pc := 52) C (nI_pos (by omega)) dX2_bodyOnWay_52 ⟨79, by decide⟩ ?_
          refine a_aloadn (pc := 55) C 0 rfl rfl dX2_bodyOnWay_55 ?_
          refine a_iload (pc := 56) C 5 rfl dX2_bodyOnWay_56 ?_
          refine a_aloadn (pc := 58) C 0 rfl rfl dX2_bodyOnWay_58 ?_
          refine a_get (pc := 59) C fl_X2_28 3 rfl rfl dX2_bodyOnWay_59 ?_
          refine a_iload (pc := 62) C 5 rfl dX2_bodyOnWay_62 ?_
          refine a_laldS (pc := 64) C 18 rfl (by omega) (by decide) dX2_bodyOnWay_64 ?_
          refine a_lload (pc := 65) C 4 rfl dX2_bodyOnWay_65 ?_
          refine a_land (pc := 67) (v := bs (fun i => (li x) i && (obS lE bot) i)) C (bs_and _ _) dX2_bodyOnWay_67 ?_
          refine a_callV1 (pc := 68) (k' := 0) (n' := 0) C (c_X2_nextOnWay κ a (by omega) (by omega)) yv_X2_nextOnWay ml_X2_112 wi_X2_nextOnWay wl_X2_nextOnWay 3 rfl rfl rfl rfl (Nat.le_of_ble_eq_true rfl) (Nat.le_of_ble_eq_true rfl) (Nat.le_of_ble_eq_true rfl) ⟨(Nat.le_of_ble_eq_true rfl), (Nat.le_of_ble_eq_true rfl)⟩ rfl rfl dX2_bodyOnWay_68 ?_
          refine a_istore (pc := 71) (L' := [(0, .ref (a 3)), (1, .int (nI top)), (2, .int (nI bot)), (3, .int (nI idx)), (4, .long (bs (obS lE bot))), (6, .int (oI (nxW mz (fun i => (li x) i && (obS lE bot) i) (rkV mz (obS lE bot) eE sL 40) x))), (7, .int (nI k))]) C (by decide) rfl dX2_bodyOnWay_71 ?_
          refine a_iinc (pc := 73) (v := nI (k + 1)) (L' := [(0, .ref (a 3)), (1, .int (nI top)), (2, .int (nI bot)), (3, .int (nI idx)), (4, .long (bs (obS lE bot))), (6, .int (oI (nxW mz (fun i => (li x) i && (obS lE bot) i) (rkV mz (obS lE bot) eE sL 40) x))), (7, .int (nI (k + 1)))]) C 6 rfl (nI_inc _) (by decide) rfl dX2_bodyOnWay_73 ?_
          refine a_goto (pc := 76) (tgt := 44) C (by decide) dX2_bodyOnWay_76 ?_
          refine aw_L (L' := [(0, .ref (a 3)), (1, .int (nI top)), (2, .int (nI bot)), (3, .int (nI idx)), (4, .long (bs (obS lE bot))), (6, .int (oI (wyS mz li (obS lE bot) (rkV mz (obS lE bot) eE sL 40) top (k + 1)))), (7, .int (nI (k + 1)))]) (congrArg (fun zz9 => ([(0, .ref (a 3)), (1, .int (nI top)), (2, .int (nI bot)), (3, .int (nI idx)), (4, .long (bs (obS lE bot))), (6, .int zz9), (7, .int (nI (k + 1)))] : List (Nat × Value))) (by rw [wyS, hw] : (oI (nxW mz (fun i => (li x) i && (obS lE bot) i) (rkV mz (obS lE bot) eE sL 40) x)) = (oI (wyS mz li (obS lE bot) (rkV mz (obS lE bot) eE sL 40) top (k + 1))))) ?_
          exact ih (k + 1) (by omega)
    refine aw_L (L' := [(0, .ref (a 3)), (1, .int (nI top)), (2, .int (nI bot)), (3, .int (nI idx)), (4, .long (bs (obS lE bot))), (6, .int (oI (wyS mz li (obS lE bot) (rkV mz (obS lE bot) eE sL 40) top 0))), (7, .int (nI 0))]) (congrArg (fun zz9 => ([(0, .ref (a 3)), (1, .int (nI top)), (2, .int (nI bot)), (3, .int (nI idx)), (4, .long (bs (obS lE bot))), (6, .int zz9), (7, .int (nI 0))] : List (Nat × Value))) (rfl : (nI top) = (oI (wyS mz li (obS lE bot) (rkV mz (obS lE bot) eE sL 40) top 0)))) ?_
    exact LP44 (idx) (0) (by omega)
  · refine a_iconst (pc := 22) (v := (-1 : Int32)) C ci_m1 dX2_bodyOnWay_22 ?_
    exact a_iret (pc := 23) C E (Nat.le_of_ble_eq_true rfl) (Nat.le_of_ble_eq_true rfl) ⟨by rw [wyR_n c1]; rfl, by rw [wyL_n c1]⟩ dX2_bodyOnWay_23
set_option maxHeartbeats 4000000 in
set_option maxRecDepth 100000 in
theorem c_X2_renew (κ : aK) (a : Nat → Nat) {n : Nat} {dug : Nat → Bool} {dtd : Nat → Bool} {so : Nat → Int32} {ph : Nat → Int32} {uf : Nat → Int32} {ul : Nat → Int32} {r : Nat} {ki : Nat → Int32} {lt : Nat → Nat} {er : Nat → Nat} {mz : Nat} {bd : Nat → Bool} {bo : Nat → Nat} {me : Nat → Nat → Bool} {dE : Nat → Nat → Bool} {eE : Nat → Nat → Bool} {lE : Nat → Nat → Bool} {li : Nat → Nat → Bool} {fB : Nat → Int32} {fA : Nat → Int32} {sL : Nat → Int32} {f : Nat} {fu : Nat → Nat} {fs : Nat → Int32} {ff : Nat → Int32} {fl : Nat → Int32} {xs : Nat → Int32} {ys : Nat → Int32} {zs : Nat → Int32} {oL : Nat → Int32} {oU : Nat → Int32} {lo : Nat → Int32} {up : Nat → Int32} {X : va_W} {cnt0 : Nat} (hm : cnt0 ≤ 40) (hr : r ≤ 80) (hbo : ∀ u, bo u < 40) (hlt : ∀ u, lt u < 40) (her : ∀ u, er u < 40) : CM yX2_renew cX2_renew 3 none ({ frames := 3, cells := 0, slots := 0, locals := 72 } : Room) κ [.ref (a 3), .int (nI cnt0), .ref (a 2)] (wC κ a n dug dtd so ph uf ul r ki lt er mz bd bo me dE eE lE li fB fA sL f fu fs ff fl xs ys zs oL oU lo up X) (aD none (wC κ a n dug dtd so ph uf ul r ki lt er cnt0 (bdS (jU ki lt er cnt0 (pre (fun u => u) bo cnt0) r) cnt0) (jU ki lt er cnt0 (pre (fun u => u) bo cnt0) r) (meA (jU ki lt er cnt0 (pre (fun u => u) bo cnt0) r) (pre (fun _ _ => false) me cnt0) cnt0) (dA ki lt er (jU ki lt er cnt0 (pre (fun u => u) bo cnt0) r) (pre (fun _ _ => false) dE cnt0) r) (wO cnt0 (pre (dA ki lt er (jU ki lt er cnt0 (pre (fun u => u) bo cnt0) r) (pre (fun _ _ => false) dE cnt0) r) eE cnt0) cnt0) (pre (fun v => laS (wO cnt0 (pre (dA ki lt er (jU ki lt er cnt0 (pre (fun u => u) bo cnt0) r) (pre (fun _ _ => false) dE cnt0) r) eE cnt0) cnt0) v cnt0) lE cnt0) (pre (fun v i => (dA ki lt er (jU ki lt er cnt0 (pre (fun u => u) bo cnt0) r) (pre (fun _ _ => false) dE cnt0) r) v i && !(rcS (wO cnt0 (pre (dA ki lt er (jU ki lt er cnt0 (pre (fun u => u) bo cnt0) r) (pre (fun _ _ => false) dE cnt0) r) eE cnt0) cnt0) v cnt0 i)) li cnt0) (rkV cnt0 (bdS (jU ki lt er cnt0 (pre (fun u => u) bo cnt0) r) cnt0) (wO cnt0 (pre (dA ki lt er (jU ki lt er cnt0 (pre (fun u => u) bo cnt0) r) (pre (fun _ _ => false) dE cnt0) r) eE cnt0) cnt0) fB 40) (rkV cnt0 (bdS (jU ki lt er cnt0 (pre (fun u => u) bo cnt0) r) cnt0) (pre (fun v => laS (wO cnt0 (pre (dA ki lt er (jU ki lt er cnt0 (pre (fun u => u) bo cnt0) r) (pre (fun _ _ => false) dE cnt0) r) eE cnt0) cnt0) v cnt0) lE cnt0) fA 40) sL f fu fs ff fl xs ys zs oL oU lo up X)) := by
  refine cm_entry (own := RX2) (L := [(0, .ref (a 3)), (1, .int (nI cnt0)), (2, .ref (a 2))]) (by decide +kernel) rfl (lv_entry [.ref (a 3), .int (nI cnt0), .ref (a 2)] (n := 3) (Nat.le_of_ble_eq_true rfl)) (fun g C E => ?_)
  have hbo2 : ∀ u, (jU ki lt er cnt0 (pre (fun u => u) bo cnt0) r) u < 40 := jU_lt (pre_lt (fun u hu => by omega) hbo) r
  refine a_aloadn (pc := 0) C 0 rfl rfl dX2_renew_0 ?_
  refine a_iloadn (pc := 1) C 1 rfl rfl dX2_renew_1 ?_
  refine a_put (pc := 2) (ws' := wC κ a n dug dtd so ph uf ul r ki lt er cnt0 bd bo me dE eE lE li fB fA sL f fu fs ff fl xs ys zs oL oU lo up X) C fl_X2_44 fp_X2_0 3 rfl rfl rfl (Nat.le_of_ble_eq_true rfl) rfl dX2_renew_2 ?_
  refine a_aloadn (pc := 5) C 0 rfl rfl dX2_renew_5 ?_
  refine a_aloadn (pc := 6) C 2 rfl rfl dX2_renew_6 ?_
  refine a_callV0 (pc := 7) (k' := 0) (n' := 0) C (c_X2_joinUnits κ a hm hr hbo hlt her) yv_X2_joinUnits ml_X2_48 wi_X2_joinUnits wl_X2_joinUnits 3 rfl rfl rfl rfl (Nat.le_of_ble_eq_true rfl) (Nat.le_of_ble_eq_true rfl) (Nat.le_of_ble_eq_true rfl) ⟨(Nat.le_of_ble_eq_true rfl), (Nat.le_of_ble_eq_true rfl)⟩ rfl rfl dX2_renew_7 ?_
  refine a_aloadn (pc := 10) C 0 rfl rfl dX2_renew_10 ?_
  refine a_callV0 (pc := 11) (k' := 0) (n' := 0) C (c_X2_gatherMembers κ a hm hbo2) yv_X2_gatherMembers ml_X2_52 wi_X2_gatherMembers wl_X2_gatherMembers 3 rfl rfl rfl rfl (Nat.le_of_ble_eq_true rfl) (Nat.le_of_ble_eq_true rfl) (Nat.le_of_ble_eq_true rfl) ⟨(Nat.le_of_ble_eq_true rfl), (Nat.le_of_ble_eq_true rfl)⟩ rfl rfl dX2_renew_11 ?_
  refine a_aloadn (pc := 14) C 0 rfl rfl dX2_renew_14 ?_
  refine a_aloadn (pc := 15) C 2 rfl rfl dX2_renew_15 ?_
  refine a_callV0 (pc := 16) (k' := 0) (n' := 0) C (c_X2_gatherDirectlyEarlier κ a hm hr hbo2 hlt her) yv_X2_gatherDirectlyEarlier ml_X2_55 wi_X2_gatherDirectlyEarlier wl_X2_gatherDirectlyEarlier 3 rfl rfl rfl rfl (Nat.le_of_ble_eq_true rfl) (Nat.le_of_ble_eq_true rfl) (Nat.le_of_ble_eq_true rfl) ⟨(Nat.le_of_ble_eq_true rfl), (Nat.le_of_ble_eq_true rfl)⟩ rfl rfl dX2_renew_16 ?_
  refine a_aloadn (pc := 19) C 0 rfl rfl dX2_renew_19 ?_
  refine a_callV0 (pc := 20) (k' := 0) (n' := 0) C (c_X2_gatherEarlier κ a hm) yv_X2_gatherEarlier ml_X2_58 wi_X2_gatherEarlier wl_X2_gatherEarlier 3 rfl rfl rfl rfl (Nat.le_of_ble_eq_true rfl) (Nat.le_of_ble_eq_true rfl) (Nat.le_of_ble_eq_true rfl) ⟨(Nat.le_of_ble_eq_true rfl), (Nat.le_of_ble_eq_true rfl)⟩ rfl rfl dX2_renew_20 ?_
  refine a_aloadn (pc := 23) C 0 rfl rfl dX2_renew_23 ?_
  refine a_callV0 (pc := 24) (k' := 0) (n' := 0) C (c_X2_gatherLater κ a hm) yv_X2_gatherLater ml_X2_61 wi_X2_gatherLater wl_X2_gatherLater 3 rfl rfl rfl rfl (Nat.le_of_ble_eq_true rfl) (Nat.le_of_ble_eq_true rfl) (Nat.le_of_ble_eq_true rfl) ⟨(Nat.le_of_ble_eq_true rfl), (Nat.le_of_ble_eq_true rfl)⟩ rfl rfl dX2_renew_24 ?_
  refine a_aloadn (pc := 27) C 0 rfl rfl dX2_renew_27 ?_
  refine a_callV0 (pc := 28) (k' := 0) (n' := 0) C (c_X2_gatherLinks κ a hm) yv_X2_gatherLinks ml_X2_64 wi_X2_gatherLinks wl_X2_gatherLinks 3 rfl rfl rfl rfl (Nat.le_of_ble_eq_true rfl) (Nat.le_of_ble_eq_true rfl) (Nat.le_of_ble_eq_true rfl) ⟨(Nat.le_of_ble_eq_true rfl), (Nat.le_of_ble_eq_true rfl)⟩ rfl rfl dX2_renew_28 ?_
  refine a_aloadn (pc := 31) C 0 rfl rfl dX2_renew_31 ?_
  refine a_aloadn (pc := 32) C 0 rfl rfl dX2_renew_32 ?_
  refine a_get (pc := 33) C fl_X2_67 3 rfl rfl dX2_renew_33 ?_
  refine a_aloadn (pc := 36) C 0 rfl rfl dX2_renew_36 ?_
  refine a_get (pc := 37) C fl_X2_22 3 rfl rfl dX2_renew_37 ?_
  refine a_aloadn (pc := 40) C 0 rfl rfl dX2_renew_40 ?_
  refine a_get (pc := 41) C fl_X2_31 3 rfl rfl dX2_renew_41 ?_
  refine a_callV0 (pc := 44) (k' := 0) (n' := 0) C (c_X2_rank_eE_fB κ a hm) yv_X2_rank ml_X2_71 wi_X2_rank wl_X2_rank 3 rfl rfl rfl rfl (Nat.le_of_ble_eq_true rfl) (Nat.le_of_ble_eq_true rfl) (Nat.le_of_ble_eq_true rfl) ⟨(Nat.le_of_ble_eq_true rfl), (Nat.le_of_ble_eq_true rfl)⟩ rfl rfl dX2_renew_44 ?_
  refine a_aloadn (pc := 47) C 0 rfl rfl dX2_renew_47 ?_
  refine a_aloadn (pc := 48) C 0 rfl rfl dX2_renew_48 ?_
  refine a_get (pc := 49) C fl_X2_67 3 rfl rfl dX2_renew_49 ?_
  refine a_aloadn (pc := 52) C 0 rfl rfl dX2_renew_52 ?_
  refine a_get (pc := 53) C fl_X2_25 3 rfl rfl dX2_renew_53 ?_
  refine a_aloadn (pc := 56) C 0 rfl rfl dX2_renew_56 ?_
  refine a_get (pc := 57) C fl_X2_34 3 rfl rfl dX2_renew_57 ?_
  refine a_callV0 (pc := 60) (k' := 0) (n' := 0) C (c_X2_rank_lE_fA κ a hm) yv_X2_rank ml_X2_71 wi_X2_rank wl_X2_rank 3 rfl rfl rfl rfl (Nat.le_of_ble_eq_true rfl) (Nat.le_of_ble_eq_true rfl) (Nat.le_of_ble_eq_true rfl) ⟨(Nat.le_of_ble_eq_true rfl), (Nat.le_of_ble_eq_true rfl)⟩ rfl rfl dX2_renew_60 ?_
  exact a_vret (pc := 63) C E (Nat.le_of_ble_eq_true rfl) (Nat.le_of_ble_eq_true rfl) ⟨rfl, rfl⟩ dX2_renew_63
