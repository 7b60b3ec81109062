/-! THE LAW'S WALK: one pair of units -/
set_option maxHeartbeats 4000000 in
set_option maxRecDepth 100000 in
theorem lw_links {g : aG} {κ : aK} {a : Nat → Nat} {bs L0 : Nat} {xs : Nat → Int32} (C : Cx g κ RL cL_law 10 room_1) (hX : va_X bs L0 xs (g_s g) (g_s g).heap) (hbA : ¬ kA κ bs) (hL : L0 < 2 ^ 31) {N : Nat} {S : SC} (hS : JS S) (hN : sN S = N) (hN17 : N ≤ 17) {u v lk lk1 sz : Nat} (hu : u < N) (hv : v < N) (hlk : lk < 10000) (hlk1 : lk1 = lk + (if sLk S u v = true then 1 else 0)) {z : Nat → Int32} {o : Int32} (next : aw g κ 10 591 [(0, .ref bs), (1, .ref (a 0)), (2, .int (nI N)), (3, .int (nI lk1)), (4, .int (nI sz)), (5, .int (nI u)), (6, .int (nI v)), (7, .int o)] [] (cS κ a (stL S z) []) 33 1379) : aw g κ 10 553 [(0, .ref bs), (1, .ref (a 0)), (2, .int (nI N)), (3, .int (nI lk)), (4, .int (nI sz)), (5, .int (nI u)), (6, .int (nI v)), (7, .int o)] [] (cS κ a (stL S z) []) 33 1379 := by
  have hbu := (jBo hS (u := u) (by omega)).1
  have hbv := (jBo hS (u := v) (by omega)).1
  have no : ∀ x, sLk S u v = x → (¬ sBo S u = u ∨ ¬ sBo S v = v) → x = false := fun x e q => by
    cases x with
    | false => rfl
    | true =>
      have t := jE hS (by omega) ((jLi hS u v (by omega)).mp e).1
      rcases q with q | q
      · exact absurd t.1 q
      · exact absurd t.2.2 q
  have mis : sLk S u v = false → lk = lk1 := fun e => by rw [hlk1, if_neg (by rw [e]; exact Bool.false_ne_true), Nat.add_zero]
  refine a_aloadn (pc := 553) C 1 rfl rfl dL_law_553 ?_
  refine a_iload (pc := 554) C 5 rfl dL_law_554 ?_
  refine a_iconst (pc := 556) (v := nI 1) C ci_1 dL_law_556 ?_
  refine a_callV1 (pc := 557) (k' := 33) (n' := 1379) (w1 := cS κ a (stL S z) []) C (CM_val v_unit1 (q_unit κ a hS (by omega) (by decide) z [])) yv_X5_unit ml_L_47 wi_X5_unit wl_X5_unit 0 rfl rfl rfl rfl (Nat.le_of_ble_eq_true rfl) (Nat.le_of_ble_eq_true rfl) (Nat.le_of_ble_eq_true rfl) ⟨(Nat.le_of_ble_eq_true rfl), (Nat.le_of_ble_eq_true rfl)⟩ rfl rfl dL_law_557 ?_
  refine a_iload (pc := 560) C 5 rfl dL_law_560 ?_
  by_cases c : sBo S u = u
  · refine a_icn_ne_n (pc := 562) C (by omega) (by omega) c dL_law_562 ⟨591, by decide⟩ ?_
    refine a_aloadn (pc := 565) C 1 rfl rfl dL_law_565 ?_
    refine a_iload (pc := 566) C 6 rfl dL_law_566 ?_
    refine a_iconst (pc := 568) (v := nI 1) C ci_1 dL_law_568 ?_
    refine a_callV1 (pc := 569) (k' := 33) (n' := 1379) (w1 := cS κ a (stL S z) []) C (CM_val v_unit1 (q_unit κ a hS (by omega) (by decide) z [])) yv_X5_unit ml_L_47 wi_X5_unit wl_X5_unit 0 rfl rfl rfl rfl (Nat.le_of_ble_eq_true rfl) (Nat.le_of_ble_eq_true rfl) (Nat.le_of_ble_eq_true rfl) ⟨(Nat.le_of_ble_eq_true rfl), (Nat.le_of_ble_eq_true rfl)⟩ rfl rfl dL_law_569 ?_
    refine a_iload (pc := 572) C 6 rfl dL_law_572 ?_
    by_cases c2 : sBo S v = v
    · refine a_icn_ne_n (pc := 574) C (by omega) (by omega) c2 dL_law_574 ⟨591, by decide⟩ ?_
      refine a_aloadn (pc := 577) C 1 rfl rfl dL_law_577 ?_
      refine a_iload (pc := 578) C 5 rfl dL_law_578 ?_
      refine a_iload (pc := 580) C 6 rfl dL_law_580 ?_
      refine a_callV1 (pc := 582) (k' := 33) (n' := 1379) (w1 := cS κ a (stL S z) []) C (q_isLinked κ a hS (by omega) (by omega) z []) yv_X5_isLinked ml_L_53 wi_X5_isLinked wl_X5_isLinked 0 rfl rfl rfl rfl (Nat.le_of_ble_eq_true rfl) (Nat.le_of_ble_eq_true rfl) (Nat.le_of_ble_eq_true rfl) ⟨(Nat.le_of_ble_eq_true rfl), (Nat.le_of_ble_eq_true rfl)⟩ rfl rfl dL_law_582 ?_
      have el : lkS S u v = sLk S u v := by
        show sLk S (sBo S u) (sBo S v) = _
        rw [c, c2]
      cases e3 : sLk S u v with
      | true =>
        have em : lk + 1 = lk1 := by rw [hlk1, if_pos e3]
        refine a_ifb_eq_n (pc := 585) C (el.trans e3) dL_law_585 ⟨591, by decide⟩ ?_
        refine a_iinc (pc := 588) (v := nI (lk + 1)) (L' := [(0, .ref bs), (1, .ref (a 0)), (2, .int (nI N)), (3, .int (nI (lk + 1))), (4, .int (nI sz)), (5, .int (nI u)), (6, .int (nI v)), (7, .int o)]) C 3 rfl (nI_inc _) (by decide) rfl dL_law_588 ?_
        rw [em]
        exact next
      | false =>
        have em := mis e3
        refine a_ifb_eq_y (pc := 585) (tgt := 591) C (el.trans e3) (by decide) dL_law_585 ?_
        rw [em]
        exact next
    · have em := mis (no _ rfl (Or.inr c2))
      refine a_icn_ne_y (pc := 574) (tgt := 591) C (by omega) (by omega) c2 (by decide) dL_law_574 ?_
      rw [em]
      exact next
  · have em := mis (no _ rfl (Or.inl c))
    refine a_icn_ne_y (pc := 562) (tgt := 591) C (by omega) (by omega) c (by decide) dL_law_562 ?_
    rw [em]
    exact next
set_option maxHeartbeats 4000000 in
set_option maxRecDepth 100000 in
theorem lw_pair {g : aG} {κ : aK} {a : Nat → Nat} {bs L0 : Nat} {xs : Nat → Int32} (C : Cx g κ RL cL_law 10 room_1) (hX : va_X bs L0 xs (g_s g) (g_s g).heap) (hbA : ¬ kA κ bs) (hL : L0 < 2 ^ 31) {N : Nat} {S : SC} (hS : JS S) (hN : sN S = N) (hN17 : N ≤ 17) {u v lk lk1 sz : Nat} (hu : u < N) (hv : v < N) (hlk : lk < 10000) (hlk1 : lk1 = lk + (if sLk S u v = true then 1 else 0)) (next : ∀ z : Nat → Int32, aw g κ 10 809 [(0, .ref bs), (1, .ref (a 0)), (2, .int (nI N)), (3, .int (nI lk1)), (4, .int (nI sz)), (5, .int (nI u)), (6, .int (nI v))] [] (cS κ a (stL S z) []) 33 1379) (z : Nat → Int32) : aw g κ 10 430 [(0, .ref bs), (1, .ref (a 0)), (2, .int (nI N)), (3, .int (nI lk)), (4, .int (nI sz)), (5, .int (nI u)), (6, .int (nI v))] [] (cS κ a (stL S z) []) 33 1379 := by
  have hu' : u < sN S := by omega
  have hv' : v < sN S := by omega
  have hbu := (jBo hS hu').1
  have hbv := (jBo hS hv').1
  by_cases cA : sBo S u = sBo S v
  · have nl : lkS S u v = false := by
      cases e : lkS S u v with
      | false => rfl
      | true => exact absurd cA (od_ne hS hu' (lk_B hS hu' e))
    refine a_aloadn (pc := 430) C 1 rfl rfl dL_law_430 ?_
    refine a_iload (pc := 431) C 5 rfl dL_law_431 ?_
    refine a_iload (pc := 433) C 6 rfl dL_law_433 ?_
    refine a_callV1 (pc := 435) (k' := 33) (n' := 1379) (w1 := cS κ a (stL S z) []) C (CM_val (od_A cA) (q_order κ a hS hu' hv' z [])) yv_X5_order ml_L_50 wi_X5_order wl_X5_order 0 rfl rfl rfl rfl (Nat.le_of_ble_eq_true rfl) (Nat.le_of_ble_eq_true rfl) (Nat.le_of_ble_eq_true rfl) ⟨(Nat.le_of_ble_eq_true rfl), (Nat.le_of_ble_eq_true rfl)⟩ rfl rfl dL_law_435 ?_
    refine a_istore (pc := 438) (L' := [(0, .ref bs), (1, .ref (a 0)), (2, .int (nI N)), (3, .int (nI lk)), (4, .int (nI sz)), (5, .int (nI u)), (6, .int (nI v)), (7, .int (nI 0))]) C (by decide) rfl dL_law_438 ?_
    refine a_aloadn (pc := 440) C 1 rfl rfl dL_law_440 ?_
    refine a_iload (pc := 441) C 6 rfl dL_law_441 ?_
    refine a_iload (pc := 443) C 5 rfl dL_law_443 ?_
    refine a_callV1 (pc := 445) (k' := 33) (n' := 1379) (w1 := cS κ a (stL S z) []) C (CM_val (od_A cA.symm) (q_order κ a hS hv' hu' z [])) yv_X5_order ml_L_50 wi_X5_order wl_X5_order 0 rfl rfl rfl rfl (Nat.le_of_ble_eq_true rfl) (Nat.le_of_ble_eq_true rfl) (Nat.le_of_ble_eq_true rfl) ⟨(Nat.le_of_ble_eq_true rfl), (Nat.le_of_ble_eq_true rfl)⟩ rfl rfl dL_law_445 ?_
    refine a_istore (pc := 448) (L' := [(0, .ref bs), (1, .ref (a 0)), (2, .int (nI N)), (3, .int (nI lk)), (4, .int (nI sz)), (5, .int (nI u)), (6, .int (nI v)), (7, .int (nI 0)), (8, .int (nI 0))]) C (by decide) rfl dL_law_448 ?_
    refine a_iload (pc := 450) C 7 rfl dL_law_450 ?_
    refine a_iconst (pc := 452) (v := nI 2) C ci_2 dL_law_452 ?_
    refine a_icn_ne_y (pc := 453) (tgt := 465) C (by omega) (by omega) (by decide) (by decide) dL_law_453 ?_
    refine a_iload (pc := 465) C 8 rfl dL_law_465 ?_
    refine a_iload (pc := 467) C 7 rfl dL_law_467 ?_
    refine a_ineg (pc := 469) (v := nI 0) C (by decide +kernel) dL_law_469 ?_
    refine a_icn_ne_n (pc := 470) C (by omega) (by omega) rfl dL_law_470 ⟨508, by decide⟩ ?_
    refine a_iload (pc := 473) C 7 rfl dL_law_473 ?_
    refine a_ifn_ne_n (pc := 475) C (by omega) rfl dL_law_475 ⟨482, by decide⟩ ?_
    refine a_iconst (pc := 478) (v := nI 1) C ci_1 dL_law_478 ?_
    refine a_goto (pc := 479) (tgt := 483) C (by decide) dL_law_479 ?_
    refine a_aloadn (pc := 483) C 1 rfl rfl dL_law_483 ?_
    refine a_iload (pc := 484) C 5 rfl dL_law_484 ?_
    refine a_iconst (pc := 486) (v := nI 1) C ci_1 dL_law_486 ?_
    refine a_callV1 (pc := 487) (k' := 33) (n' := 1379) (w1 := cS κ a (stL S z) []) C (CM_val v_unit1 (q_unit κ a hS (by omega) (by decide) z [])) yv_X5_unit ml_L_47 wi_X5_unit wl_X5_unit 0 rfl rfl rfl rfl (Nat.le_of_ble_eq_true rfl) (Nat.le_of_ble_eq_true rfl) (Nat.le_of_ble_eq_true rfl) ⟨(Nat.le_of_ble_eq_true rfl), (Nat.le_of_ble_eq_true rfl)⟩ rfl rfl dL_law_487 ?_
    refine a_aloadn (pc := 490) C 1 rfl rfl dL_law_490 ?_
    refine a_iload (pc := 491) C 6 rfl dL_law_491 ?_
    refine a_iconst (pc := 493) (v := nI 1) C ci_1 dL_law_493 ?_
    refine a_callV1 (pc := 494) (k' := 33) (n' := 1379) (w1 := cS κ a (stL S z) []) C (CM_val v_unit1 (q_unit κ a hS (by omega) (by decide) z [])) yv_X5_unit ml_L_47 wi_X5_unit wl_X5_unit 0 rfl rfl rfl rfl (Nat.le_of_ble_eq_true rfl) (Nat.le_of_ble_eq_true rfl) (Nat.le_of_ble_eq_true rfl) ⟨(Nat.le_of_ble_eq_true rfl), (Nat.le_of_ble_eq_true rfl)⟩ rfl rfl dL_law_494 ?_
    refine a_icn_ne_n (pc := 497) C (by omega) (by omega) cA dL_law_497 ⟨504, by decide⟩ ?_
    refine a_iconst (pc := 500) (v := nI 1) C ci_1 dL_law_500 ?_
    refine a_goto (pc := 501) (tgt := 505) C (by decide) dL_law_501 ?_
    refine a_icn_eq_y (pc := 505) (tgt := 510) C (by omega) (by omega) rfl (by decide) dL_law_505 ?_
    refine a_aloadn (pc := 510) C 1 rfl rfl dL_law_510 ?_
    refine a_iload (pc := 511) C 5 rfl dL_law_511 ?_
    refine a_iload (pc := 513) C 6 rfl dL_law_513 ?_
    refine a_callV1 (pc := 515) (k' := 33) (n' := 1379) (w1 := cS κ a (stL S z) []) C (q_isLinked κ a hS (by omega) (by omega) z []) yv_X5_isLinked ml_L_53 wi_X5_isLinked wl_X5_isLinked 0 rfl rfl rfl rfl (Nat.le_of_ble_eq_true rfl) (Nat.le_of_ble_eq_true rfl) (Nat.le_of_ble_eq_true rfl) ⟨(Nat.le_of_ble_eq_true rfl), (Nat.le_of_ble_eq_true rfl)⟩ rfl rfl dL_law_515 ?_
    refine a_ifb_eq_y (pc := 518) (tgt := 553) C nl (by decide) dL_law_518 ?_
    refine aw_locals (L' := [(0, .ref bs), (1, .ref (a 0)), (2, .int (nI N)), (3, .int (nI lk)), (4, .int (nI sz)), (5, .int (nI u)), (6, .int (nI v)), (7, .int (nI 0))]) [0, 1, 2, 3, 4, 5, 6, 7] rfl ?_
    refine lw_links C hX hbA hL hS hN hN17 hu hv hlk hlk1 ?_
    refine a_iload (pc := 591) C 7 rfl dL_law_591 ?_
    refine a_iconst (pc := 593) (v := nI 1) C ci_1 dL_law_593 ?_
    refine a_icn_eq_n (pc := 594) C (by omega) (by omega) (by decide) dL_law_594 ⟨617, by decide⟩ ?_
    refine a_iload (pc := 597) C 7 rfl dL_law_597 ?_
    refine a_ifn_eq_y (pc := 599) (tgt := 809) C (by omega) rfl (by decide) dL_law_599 ?_
    refine aw_locals (L' := [(0, .ref bs), (1, .ref (a 0)), (2, .int (nI N)), (3, .int (nI lk1)), (4, .int (nI sz)), (5, .int (nI u)), (6, .int (nI v))]) [0, 1, 2, 3, 4, 5, 6] rfl ?_
    exact next z
  · cases eB : sEe S (sBo S u) (sBo S v) with
    | true =>
      obtain ⟨H, w, h1, hlev, hH, hw, hw0, hwH, hwl, hl1, hwy⟩ := wy_f hS hu' hv' eB
      obtain ⟨lv1, lv2, lv3, lv4⟩ := lvl_lt hS hu' hv' eB
      have blo := bn_lo hS hu' hv' eB
      have bup := bn_up hS hu' hv' eB
      refine a_aloadn (pc := 430) C 1 rfl rfl dL_law_430 ?_
      refine a_iload (pc := 431) C 5 rfl dL_law_431 ?_
      refine a_iload (pc := 433) C 6 rfl dL_law_433 ?_
      refine a_callV1 (pc := 435) (k' := 33) (n' := 1379) (w1 := cS κ a (stL S z) []) C (CM_val (od_B hS hu' eB) (q_order κ a hS hu' hv' z [])) yv_X5_order ml_L_50 wi_X5_order wl_X5_order 0 rfl rfl rfl rfl (Nat.le_of_ble_eq_true rfl) (Nat.le_of_ble_eq_true rfl) (Nat.le_of_ble_eq_true rfl) ⟨(Nat.le_of_ble_eq_true rfl), (Nat.le_of_ble_eq_true rfl)⟩ rfl rfl dL_law_435 ?_
      refine a_istore (pc := 438) (L' := [(0, .ref bs), (1, .ref (a 0)), (2, .int (nI N)), (3, .int (nI lk)), (4, .int (nI sz)), (5, .int (nI u)), (6, .int (nI v)), (7, .int (nI 1))]) C (by decide) rfl dL_law_438 ?_
      refine a_aloadn (pc := 440) C 1 rfl rfl dL_law_440 ?_
      refine a_iload (pc := 441) C 6 rfl dL_law_441 ?_
      refine a_iload (pc := 443) C 5 rfl dL_law_443 ?_
      refine a_callV1 (pc := 445) (k' := 33) (n' := 1379) (w1 := cS κ a (stL S z) []) C (CM_val (od_C hS hu' hv' eB) (q_order κ a hS hv' hu' z [])) yv_X5_order ml_L_50 wi_X5_order wl_X5_order 0 rfl rfl rfl rfl (Nat.le_of_ble_eq_true rfl) (Nat.le_of_ble_eq_true rfl) (Nat.le_of_ble_eq_true rfl) ⟨(Nat.le_of_ble_eq_true rfl), (Nat.le_of_ble_eq_true rfl)⟩ rfl rfl dL_law_445 ?_
      refine a_istore (pc := 448) (L' := [(0, .ref bs), (1, .ref (a 0)), (2, .int (nI N)), (3, .int (nI lk)), (4, .int (nI sz)), (5, .int (nI u)), (6, .int (nI v)), (7, .int (nI 1)), (8, .int (-1 : Int32))]) C (by decide) rfl dL_law_448 ?_
      refine a_iload (pc := 450) C 7 rfl dL_law_450 ?_
      refine a_iconst (pc := 452) (v := nI 2) C ci_2 dL_law_452 ?_
      refine a_icn_ne_y (pc := 453) (tgt := 465) C (by omega) (by omega) (by decide) (by decide) dL_law_453 ?_
      refine a_iload (pc := 465) C 8 rfl dL_law_465 ?_
      refine a_iload (pc := 467) C 7 rfl dL_law_467 ?_
      refine a_ineg (pc := 469) (v := (-1 : Int32)) C (by decide +kernel) dL_law_469 ?_
      refine a_ic_ne_n (pc := 470) C rfl dL_law_470 ⟨508, by decide⟩ ?_
      refine a_iload (pc := 473) C 7 rfl dL_law_473 ?_
      refine a_ifn_ne_y (pc := 475) (tgt := 482) C (by omega) (by decide) (by decide) dL_law_475 ?_
      refine a_iconst (pc := 482) (v := nI 0) C ci_0 dL_law_482 ?_
      refine a_aloadn (pc := 483) C 1 rfl rfl dL_law_483 ?_
      refine a_iload (pc := 484) C 5 rfl dL_law_484 ?_
      refine a_iconst (pc := 486) (v := nI 1) C ci_1 dL_law_486 ?_
      refine a_callV1 (pc := 487) (k' := 33) (n' := 1379) (w1 := cS κ a (stL S z) []) C (CM_val v_unit1 (q_unit κ a hS (by omega) (by decide) z [])) yv_X5_unit ml_L_47 wi_X5_unit wl_X5_unit 0 rfl rfl rfl rfl (Nat.le_of_ble_eq_true rfl) (Nat.le_of_ble_eq_true rfl) (Nat.le_of_ble_eq_true rfl) ⟨(Nat.le_of_ble_eq_true rfl), (Nat.le_of_ble_eq_true rfl)⟩ rfl rfl dL_law_487 ?_
      refine a_aloadn (pc := 490) C 1 rfl rfl dL_law_490 ?_
      refine a_iload (pc := 491) C 6 rfl dL_law_491 ?_
      refine a_iconst (pc := 493) (v := nI 1) C ci_1 dL_law_493 ?_
      refine a_callV1 (pc := 494) (k' := 33) (n' := 1379) (w1 := cS κ a (stL S z) []) C (CM_val v_unit1 (q_unit κ a hS (by omega) (by decide) z [])) yv_X5_unit ml_L_47 wi_X5_unit wl_X5_unit 0 rfl rfl rfl rfl (Nat.le_of_ble_eq_true rfl) (Nat.le_of_ble_eq_true rfl) (Nat.le_of_ble_eq_true rfl) ⟨(Nat.le_of_ble_eq_true rfl), (Nat.le_of_ble_eq_true rfl)⟩ rfl rfl dL_law_494 ?_
      refine a_icn_ne_y (pc := 497) (tgt := 504) C (by omega) (by omega) cA (by decide) dL_law_497 ?_
      refine a_iconst (pc := 504) (v := nI 0) C ci_0 dL_law_504 ?_
      refine a_icn_eq_y (pc := 505) (tgt := 510) C (by omega) (by omega) rfl (by decide) dL_law_505 ?_
      have K : ∀ z : Nat → Int32, aw g κ 10 553 [(0, .ref bs), (1, .ref (a 0)), (2, .int (nI N)), (3, .int (nI lk)), (4, .int (nI sz)), (5, .int (nI u)), (6, .int (nI v)), (7, .int (nI 1)), (8, .int (-1 : Int32))] [] (cS κ a (stL S z) []) 33 1379 := by
        intro z
        refine aw_locals (L' := [(0, .ref bs), (1, .ref (a 0)), (2, .int (nI N)), (3, .int (nI lk)), (4, .int (nI sz)), (5, .int (nI u)), (6, .int (nI v)), (7, .int (nI 1))]) [0, 1, 2, 3, 4, 5, 6, 7] rfl ?_
        refine lw_links C hX hbA hL hS hN hN17 hu hv hlk hlk1 ?_
        refine a_iload (pc := 591) C 7 rfl dL_law_591 ?_
        refine a_iconst (pc := 593) (v := nI 1) C ci_1 dL_law_593 ?_
        refine a_icn_eq_y (pc := 594) (tgt := 617) C (by omega) (by omega) rfl (by decide) dL_law_594 ?_
        refine a_aloadn (pc := 617) C 1 rfl rfl dL_law_617 ?_
        refine a_iload (pc := 618) C 5 rfl dL_law_618 ?_
        refine a_iconst (pc := 620) (v := nI 3) C ci_3 dL_law_620 ?_
        refine a_callV1 (pc := 621) (k' := 33) (n' := 1379) (w1 := cS κ a (stL S z) []) C (CM_val (v_unit3 hS (by omega)) (q_unit κ a hS (by omega) (by decide) z [])) yv_X5_unit ml_L_47 wi_X5_unit wl_X5_unit 0 rfl rfl rfl rfl (Nat.le_of_ble_eq_true rfl) (Nat.le_of_ble_eq_true rfl) (Nat.le_of_ble_eq_true rfl) ⟨(Nat.le_of_ble_eq_true rfl), (Nat.le_of_ble_eq_true rfl)⟩ rfl rfl dL_law_621 ?_
        refine a_aloadn (pc := 624) C 1 rfl rfl dL_law_624 ?_
        refine a_iload (pc := 625) C 6 rfl dL_law_625 ?_
        refine a_iconst (pc := 627) (v := nI 3) C ci_3 dL_law_627 ?_
        refine a_callV1 (pc := 628) (k' := 33) (n' := 1379) (w1 := cS κ a (stL S z) []) C (CM_val (v_unit3 hS (by omega)) (q_unit κ a hS (by omega) (by decide) z [])) yv_X5_unit ml_L_47 wi_X5_unit wl_X5_unit 0 rfl rfl rfl rfl (Nat.le_of_ble_eq_true rfl) (Nat.le_of_ble_eq_true rfl) (Nat.le_of_ble_eq_true rfl) ⟨(Nat.le_of_ble_eq_true rfl), (Nat.le_of_ble_eq_true rfl)⟩ rfl rfl dL_law_628 ?_
        refine a_icn_le_n (pc := 631) C (by omega) (by omega) lv1 dL_law_631 ⟨685, by decide⟩ ?_
        refine a_aloadn (pc := 634) C 1 rfl rfl dL_law_634 ?_
        refine a_iload (pc := 635) C 5 rfl dL_law_635 ?_
        refine a_iconst (pc := 637) (v := nI 4) C ci_4 dL_law_637 ?_
        refine a_callV1 (pc := 638) (k' := 33) (n' := 1379) (w1 := cS κ a (stL S z) []) C (CM_val (v_unit4 hS (by omega)) (q_unit κ a hS (by omega) (by decide) z [])) yv_X5_unit ml_L_47 wi_X5_unit wl_X5_unit 0 rfl rfl rfl rfl (Nat.le_of_ble_eq_true rfl) (Nat.le_of_ble_eq_true rfl) (Nat.le_of_ble_eq_true rfl) ⟨(Nat.le_of_ble_eq_true rfl), (Nat.le_of_ble_eq_true rfl)⟩ rfl rfl dL_law_638 ?_
        refine a_aloadn (pc := 641) C 1 rfl rfl dL_law_641 ?_
        refine a_iload (pc := 642) C 6 rfl dL_law_642 ?_
        refine a_iconst (pc := 644) (v := nI 4) C ci_4 dL_law_644 ?_
        refine a_callV1 (pc := 645) (k' := 33) (n' := 1379) (w1 := cS κ a (stL S z) []) C (CM_val (v_unit4 hS (by omega)) (q_unit κ a hS (by omega) (by decide) z [])) yv_X5_unit ml_L_47 wi_X5_unit wl_X5_unit 0 rfl rfl rfl rfl (Nat.le_of_ble_eq_true rfl) (Nat.le_of_ble_eq_true rfl) (Nat.le_of_ble_eq_true rfl) ⟨(Nat.le_of_ble_eq_true rfl), (Nat.le_of_ble_eq_true rfl)⟩ rfl rfl dL_law_645 ?_
        refine a_icn_ge_n (pc := 648) C (by omega) (by omega) lv2 dL_law_648 ⟨685, by decide⟩ ?_
        refine a_aloadn (pc := 651) C 1 rfl rfl dL_law_651 ?_
        refine a_iload (pc := 652) C 5 rfl dL_law_652 ?_
        refine a_iconst (pc := 654) (v := nI 0) C ci_0 dL_law_654 ?_
        refine a_callV1 (pc := 655) (k' := 33) (n' := 1379) (w1 := cS κ a (stL S z) []) C (q_bnd0 hS (by omega) z []) yv_X5_bound ml_L_63 wi_X5_bound wl_X5_bound 0 rfl rfl rfl rfl (Nat.le_of_ble_eq_true rfl) (Nat.le_of_ble_eq_true rfl) (Nat.le_of_ble_eq_true rfl) ⟨(Nat.le_of_ble_eq_true rfl), (Nat.le_of_ble_eq_true rfl)⟩ rfl rfl dL_law_655 ?_
        refine a_aloadn (pc := 658) C 1 rfl rfl dL_law_658 ?_
        refine a_iload (pc := 659) C 6 rfl dL_law_659 ?_
        refine a_iconst (pc := 661) (v := nI 0) C ci_0 dL_law_661 ?_
        refine a_callV1 (pc := 662) (k' := 33) (n' := 1379) (w1 := cS κ a (stL S z) []) C (q_bnd0 hS (by omega) z []) yv_X5_bound ml_L_63 wi_X5_bound wl_X5_bound 0 rfl rfl rfl rfl (Nat.le_of_ble_eq_true rfl) (Nat.le_of_ble_eq_true rfl) (Nat.le_of_ble_eq_true rfl) ⟨(Nat.le_of_ble_eq_true rfl), (Nat.le_of_ble_eq_true rfl)⟩ rfl rfl dL_law_662 ?_
        refine a_ic_lt_n (pc := 665) C (Int32.not_lt.mpr blo) dL_law_665 ⟨685, by decide⟩ ?_
        refine a_aloadn (pc := 668) C 1 rfl rfl dL_law_668 ?_
        refine a_iload (pc := 669) C 5 rfl dL_law_669 ?_
        refine a_iconst (pc := 671) (v := nI 1) C ci_1 dL_law_671 ?_
        refine a_callV1 (pc := 672) (k' := 33) (n' := 1379) (w1 := cS κ a (stL S z) []) C (q_bnd1 hS (by omega) z []) yv_X5_bound ml_L_63 wi_X5_bound wl_X5_bound 0 rfl rfl rfl rfl (Nat.le_of_ble_eq_true rfl) (Nat.le_of_ble_eq_true rfl) (Nat.le_of_ble_eq_true rfl) ⟨(Nat.le_of_ble_eq_true rfl), (Nat.le_of_ble_eq_true rfl)⟩ rfl rfl dL_law_672 ?_
        refine a_aloadn (pc := 675) C 1 rfl rfl dL_law_675 ?_
        refine a_iload (pc := 676) C 6 rfl dL_law_676 ?_
        refine a_iconst (pc := 678) (v := nI 1) C ci_1 dL_law_678 ?_
        refine a_callV1 (pc := 679) (k' := 33) (n' := 1379) (w1 := cS κ a (stL S z) []) C (q_bnd1 hS (by omega) z []) yv_X5_bound ml_L_63 wi_X5_bound wl_X5_bound 0 rfl rfl rfl rfl (Nat.le_of_ble_eq_true rfl) (Nat.le_of_ble_eq_true rfl) (Nat.le_of_ble_eq_true rfl) ⟨(Nat.le_of_ble_eq_true rfl), (Nat.le_of_ble_eq_true rfl)⟩ rfl rfl dL_law_679 ?_
        refine a_ic_ge_y (pc := 682) (tgt := 687) C bup (by decide) dL_law_682 ?_
        refine a_iconst (pc := 687) (v := nI 0) C ci_0 dL_law_687 ?_
        refine a_istore (pc := 688) (L' := [(0, .ref bs), (1, .ref (a 0)), (2, .int (nI N)), (3, .int (nI lk1)), (4, .int (nI sz)), (5, .int (nI u)), (6, .int (nI v)), (7, .int (nI 1)), (9, .int (nI 0))]) C (by decide) rfl dL_law_688 ?_
        refine aw_locals (L' := [(0, .ref bs), (1, .ref (a 0)), (2, .int (nI N)), (3, .int (nI lk1)), (4, .int (nI sz)), (5, .int (nI u)), (6, .int (nI v)), (9, .int (nI 0))]) [0, 1, 2, 3, 4, 5, 6, 8] rfl ?_
        exact lw_way C hX hbA hL hS hN hN17 hu hv (by omega) h1 hlev lv3 (fun k hk => by have := hw k hk; omega) hw0 hwH hwl hwy next H 0 z (by omega)
      refine a_aloadn (pc := 510) C 1 rfl rfl dL_law_510 ?_
      refine a_iload (pc := 511) C 5 rfl dL_law_511 ?_
      refine a_iload (pc := 513) C 6 rfl dL_law_513 ?_
      refine a_callV1 (pc := 515) (k' := 33) (n' := 1379) (w1 := cS κ a (stL S z) []) C (q_isLinked κ a hS (by omega) (by omega) z []) yv_X5_isLinked ml_L_53 wi_X5_isLinked wl_X5_isLinked 0 rfl rfl rfl rfl (Nat.le_of_ble_eq_true rfl) (Nat.le_of_ble_eq_true rfl) (Nat.le_of_ble_eq_true rfl) ⟨(Nat.le_of_ble_eq_true rfl), (Nat.le_of_ble_eq_true rfl)⟩ rfl rfl dL_law_515 ?_
      have hbl : lkS S u v = false ∨ lkS S u v = true := by cases lkS S u v <;> simp
      rcases hbl with el | el
      · refine a_ifb_eq_y (pc := 518) (tgt := 553) C el (by decide) dL_law_518 ?_
        exact K z
      · have hl2 := hl1 el
        refine a_ifb_eq_n (pc := 518) C el dL_law_518 ⟨553, by decide⟩ ?_
        refine a_iload (pc := 521) C 7 rfl dL_law_521 ?_
        refine a_iconst (pc := 523) (v := nI 1) C ci_1 dL_law_523 ?_
        refine a_icn_ne_n (pc := 524) C (by omega) (by omega) rfl dL_law_524 ⟨551, by decide⟩ ?_
        refine a_aloadn (pc := 527) C 1 rfl rfl dL_law_527 ?_
        refine a_iload (pc := 528) C 5 rfl dL_law_528 ?_
        refine a_iload (pc := 530) C 6 rfl dL_law_530 ?_
        refine a_callV1 (pc := 532) (k' := 33) (n' := 1379) (w1 := cS κ a (stL S z) []) C (CM_val (bt_0 hS hu' hv' el) (q_between κ a hS hu' hv' z [])) yv_X5_between ml_L_57 wi_X5_between wl_X5_between 0 rfl rfl rfl rfl (Nat.le_of_ble_eq_true rfl) (Nat.le_of_ble_eq_true rfl) (Nat.le_of_ble_eq_true rfl) ⟨(Nat.le_of_ble_eq_true rfl), (Nat.le_of_ble_eq_true rfl)⟩ rfl rfl dL_law_532 ?_
        refine a_ifn_ne_n (pc := 535) C (by omega) rfl dL_law_535 ⟨551, by decide⟩ ?_
        refine a_aloadn (pc := 538) C 1 rfl rfl dL_law_538 ?_
        refine a_iload (pc := 539) C 5 rfl dL_law_539 ?_
        refine a_iload (pc := 541) C 6 rfl dL_law_541 ?_
        refine a_iconst (pc := 543) (v := nI 2) C ci_2 dL_law_543 ?_
        obtain ⟨z1, hM2⟩ := q_way κ a hS (x := u) (y := v) (i := 2) (by omega) (by omega) (by omega) z
        refine a_callV1 (pc := 544) (k' := 33) (n' := 1379) (w1 := cS κ a (stL S z1) []) C (CM_val (v' := (-1 : Int32)) (by rw [hwy z, if_neg (by omega)]; rfl) (hM2 [])) yv_X5_way ml_L_60 wi_X5_way wl_X5_way 0 rfl rfl rfl rfl (Nat.le_of_ble_eq_true rfl) (Nat.le_of_ble_eq_true rfl) (Nat.le_of_ble_eq_true rfl) ⟨(Nat.le_of_ble_eq_true rfl), (Nat.le_of_ble_eq_true rfl)⟩ rfl rfl dL_law_544 ?_
        refine a_iconst (pc := 547) (v := (-1 : Int32)) C ci_m1 dL_law_547 ?_
        refine a_ic_eq_y (pc := 548) (tgt := 553) C rfl (by decide) dL_law_548 ?_
        exact K z1
    | false =>
      have nl : lkS S u v = false := by
        cases e : lkS S u v with
        | false => rfl
        | true => exact absurd (lk_B hS hu' e) (by rw [eB]; exact Bool.false_ne_true)
      cases eC : sEe S (sBo S v) (sBo S u) with
      | true =>
        refine a_aloadn (pc := 430) C 1 rfl rfl dL_law_430 ?_
        refine a_iload (pc := 431) C 5 rfl dL_law_431 ?_
        refine a_iload (pc := 433) C 6 rfl dL_law_433 ?_
        refine a_callV1 (pc := 435) (k' := 33) (n' := 1379) (w1 := cS κ a (stL S z) []) C (CM_val (od_C hS hv' hu' eC) (q_order κ a hS hu' hv' z [])) yv_X5_order ml_L_50 wi_X5_order wl_X5_order 0 rfl rfl rfl rfl (Nat.le_of_ble_eq_true rfl) (Nat.le_of_ble_eq_true rfl) (Nat.le_of_ble_eq_true rfl) ⟨(Nat.le_of_ble_eq_true rfl), (Nat.le_of_ble_eq_true rfl)⟩ rfl rfl dL_law_435 ?_
        refine a_istore (pc := 438) (L' := [(0, .ref bs), (1, .ref (a 0)), (2, .int (nI N)), (3, .int (nI lk)), (4, .int (nI sz)), (5, .int (nI u)), (6, .int (nI v)), (7, .int (-1 : Int32))]) C (by decide) rfl dL_law_438 ?_
        refine a_aloadn (pc := 440) C 1 rfl rfl dL_law_440 ?_
        refine a_iload (pc := 441) C 6 rfl dL_law_441 ?_
        refine a_iload (pc := 443) C 5 rfl dL_law_443 ?_
        refine a_callV1 (pc := 445) (k' := 33) (n' := 1379) (w1 := cS κ a (stL S z) []) C (CM_val (od_B hS hv' eC) (q_order κ a hS hv' hu' z [])) yv_X5_order ml_L_50 wi_X5_order wl_X5_order 0 rfl rfl rfl rfl (Nat.le_of_ble_eq_true rfl) (Nat.le_of_ble_eq_true rfl) (Nat.le_of_ble_eq_true rfl) ⟨(Nat.le_of_ble_eq_true rfl), (Nat.le_of_ble_eq_true rfl)⟩ rfl rfl dL_law_445 ?_
        refine a_istore (pc := 448) (L' := [(0, .ref bs), (1, .ref (a 0)), (2, .int (nI N)), (3, .int (nI lk)), (4, .int (nI sz)), (5, .int (nI u)), (6, .int (nI v)), (7, .int (-1 : Int32)), (8, .int (nI 1))]) C (by decide) rfl dL_law_448 ?_
        refine a_iload (pc := 450) C 7 rfl dL_law_450 ?_
        refine a_iconst (pc := 452) (v := nI 2) C ci_2 dL_law_452 ?_
        refine a_ic_ne_y (pc := 453) (tgt := 465) C (by decide +kernel) (by decide) dL_law_453 ?_
        refine a_iload (pc := 465) C 8 rfl dL_law_465 ?_
        refine a_iload (pc := 467) C 7 rfl dL_law_467 ?_
        refine a_ineg (pc := 469) (v := nI 1) C (by decide +kernel) dL_law_469 ?_
        refine a_icn_ne_n (pc := 470) C (by omega) (by omega) rfl dL_law_470 ⟨508, by decide⟩ ?_
        refine a_iload (pc := 473) C 7 rfl dL_law_473 ?_
        refine a_if_ne_y (pc := 475) (tgt := 482) C (by decide +kernel) (by decide) dL_law_475 ?_
        refine a_iconst (pc := 482) (v := nI 0) C ci_0 dL_law_482 ?_
        refine a_aloadn (pc := 483) C 1 rfl rfl dL_law_483 ?_
        refine a_iload (pc := 484) C 5 rfl dL_law_484 ?_
        refine a_iconst (pc := 486) (v := nI 1) C ci_1 dL_law_486 ?_
        refine a_callV1 (pc := 487) (k' := 33) (n' := 1379) (w1 := cS κ a (stL S z) []) C (CM_val v_unit1 (q_unit κ a hS (by omega) (by decide) z [])) yv_X5_unit ml_L_47 wi_X5_unit wl_X5_unit 0 rfl rfl rfl rfl (Nat.le_of_ble_eq_true rfl) (Nat.le_of_ble_eq_true rfl) (Nat.le_of_ble_eq_true rfl) ⟨(Nat.le_of_ble_eq_true rfl), (Nat.le_of_ble_eq_true rfl)⟩ rfl rfl dL_law_487 ?_
        refine a_aloadn (pc := 490) C 1 rfl rfl dL_law_490 ?_
        refine a_iload (pc := 491) C 6 rfl dL_law_491 ?_
        refine a_iconst (pc := 493) (v := nI 1) C ci_1 dL_law_493 ?_
        refine a_callV1 (pc := 494) (k' := 33) (n' := 1379) (w1 := cS κ a (stL S z) []) C (CM_val v_unit1 (q_unit κ a hS (by omega) (by decide) z [])) yv_X5_unit ml_L_47 wi_X5_unit wl_X5_unit 0 rfl rfl rfl rfl (Nat.le_of_ble_eq_true rfl) (Nat.le_of_ble_eq_true rfl) (Nat.le_of_ble_eq_true rfl) ⟨(Nat.le_of_ble_eq_true rfl), (Nat.le_of_ble_eq_true rfl)⟩ rfl rfl dL_law_494 ?_
        refine a_icn_ne_y (pc := 497) (tgt := 504) C (by omega) (by omega) cA (by decide) dL_law_497 ?_
        refine a_iconst (pc := 504) (v := nI 0) C ci_0 dL_law_504 ?_
        refine a_icn_eq_y (pc := 505) (tgt := 510) C (by omega) (by omega) rfl (by decide) dL_law_505 ?_
        refine a_aloadn (pc := 510) C 1 rfl rfl dL_law_510 ?_
        refine a_iload (pc := 511) C 5 rfl dL_law_511 ?_
        refine a_iload (pc := 513) C 6 rfl dL_law_513 ?_
        refine a_callV1 (pc := 515) (k' := 33) (n' := 1379) (w1 := cS κ a (stL S z) []) C (q_isLinked κ a hS (by omega) (by omega) z []) yv_X5_isLinked ml_L_53 wi_X5_isLinked wl_X5_isLinked 0 rfl rfl rfl rfl (Nat.le_of_ble_eq_true rfl) (Nat.le_of_ble_eq_true rfl) (Nat.le_of_ble_eq_true rfl) ⟨(Nat.le_of_ble_eq_true rfl), (Nat.le_of_ble_eq_true rfl)⟩ rfl rfl dL_law_515 ?_
        refine a_ifb_eq_y (pc := 518) (tgt := 553) C nl (by decide) dL_law_518 ?_
        refine aw_locals (L' := [(0, .ref bs), (1, .ref (a 0)), (2, .int (nI N)), (3, .int (nI lk)), (4, .int (nI sz)), (5, .int (nI u)), (6, .int (nI v)), (7, .int (-1 : Int32))]) [0, 1, 2, 3, 4, 5, 6, 7] rfl ?_
        refine lw_links C hX hbA hL hS hN hN17 hu hv hlk hlk1 ?_
        refine a_iload (pc := 591) C 7 rfl dL_law_591 ?_
        refine a_iconst (pc := 593) (v := nI 1) C ci_1 dL_law_593 ?_
        refine a_ic_eq_n (pc := 594) C (by decide +kernel) dL_law_594 ⟨617, by decide⟩ ?_
        refine a_iload (pc := 597) C 7 rfl dL_law_597 ?_
        refine a_if_eq_n (pc := 599) C (by decide +kernel) dL_law_599 ⟨809, by decide⟩ ?_
        refine a_aloadn (pc := 602) C 1 rfl rfl dL_law_602 ?_
        refine a_iload (pc := 603) C 5 rfl dL_law_603 ?_
        refine a_iload (pc := 605) C 6 rfl dL_law_605 ?_
        refine a_iconst (pc := 607) (v := nI 0) C ci_0 dL_law_607 ?_
        obtain ⟨z1, hM2⟩ := q_way κ a hS (x := u) (y := v) (i := 0) (by omega) (by omega) (by omega) z
        refine a_callV1 (pc := 608) (k' := 33) (n' := 1379) (w1 := cS κ a (stL S z1) []) C (CM_val (v' := (-1 : Int32)) (by rw [wy_n hS hv' cA eB 0 z]; rfl) (hM2 [])) yv_X5_way ml_L_60 wi_X5_way wl_X5_way 0 rfl rfl rfl rfl (Nat.le_of_ble_eq_true rfl) (Nat.le_of_ble_eq_true rfl) (Nat.le_of_ble_eq_true rfl) ⟨(Nat.le_of_ble_eq_true rfl), (Nat.le_of_ble_eq_true rfl)⟩ rfl rfl dL_law_608 ?_
        refine a_iconst (pc := 611) (v := (-1 : Int32)) C ci_m1 dL_law_611 ?_
        refine a_ic_eq_y (pc := 612) (tgt := 809) C rfl (by decide) dL_law_612 ?_
        refine aw_locals (L' := [(0, .ref bs), (1, .ref (a 0)), (2, .int (nI N)), (3, .int (nI lk1)), (4, .int (nI sz)), (5, .int (nI u)), (6, .int (nI v))]) [0, 1, 2, 3, 4, 5, 6] rfl ?_
        exact next z1
      | false =>
        refine a_aloadn (pc := 430) C 1 rfl rfl dL_law_430 ?_
        refine a_iload (pc := 431) C 5 rfl dL_law_431 ?_
        refine a_iload (pc := 433) C 6 rfl dL_law_433 ?_
        refine a_callV1 (pc := 435) (k' := 33) (n' := 1379) (w1 := cS κ a (stL S z) []) C (CM_val (od_D cA eB eC) (q_order κ a hS hu' hv' z [])) yv_X5_order ml_L_50 wi_X5_order wl_X5_order 0 rfl rfl rfl rfl (Nat.le_of_ble_eq_true rfl) (Nat.le_of_ble_eq_true rfl) (Nat.le_of_ble_eq_true rfl) ⟨(Nat.le_of_ble_eq_true rfl), (Nat.le_of_ble_eq_true rfl)⟩ rfl rfl dL_law_435 ?_
        refine a_istore (pc := 438) (L' := [(0, .ref bs), (1, .ref (a 0)), (2, .int (nI N)), (3, .int (nI lk)), (4, .int (nI sz)), (5, .int (nI u)), (6, .int (nI v)), (7, .int (nI 2))]) C (by decide) rfl dL_law_438 ?_
        refine a_aloadn (pc := 440) C 1 rfl rfl dL_law_440 ?_
        refine a_iload (pc := 441) C 6 rfl dL_law_441 ?_
        refine a_iload (pc := 443) C 5 rfl dL_law_443 ?_
        refine a_callV1 (pc := 445) (k' := 33) (n' := 1379) (w1 := cS κ a (stL S z) []) C (CM_val (od_D (fun e => cA e.symm) eC eB) (q_order κ a hS hv' hu' z [])) yv_X5_order ml_L_50 wi_X5_order wl_X5_order 0 rfl rfl rfl rfl (Nat.le_of_ble_eq_true rfl) (Nat.le_of_ble_eq_true rfl) (Nat.le_of_ble_eq_true rfl) ⟨(Nat.le_of_ble_eq_true rfl), (Nat.le_of_ble_eq_true rfl)⟩ rfl rfl dL_law_445 ?_
        refine a_istore (pc := 448) (L' := [(0, .ref bs), (1, .ref (a 0)), (2, .int (nI N)), (3, .int (nI lk)), (4, .int (nI sz)), (5, .int (nI u)), (6, .int (nI v)), (7, .int (nI 2)), (8, .int (nI 2))]) C (by decide) rfl dL_law_448 ?_
        refine a_iload (pc := 450) C 7 rfl dL_law_450 ?_
        refine a_iconst (pc := 452) (v := nI 2) C ci_2 dL_law_452 ?_
        refine a_icn_ne_n (pc := 453) C (by omega) (by omega) rfl dL_law_453 ⟨465, by decide⟩ ?_
        refine a_iload (pc := 456) C 8 rfl dL_law_456 ?_
        refine a_iconst (pc := 458) (v := nI 2) C ci_2 dL_law_458 ?_
        refine a_icn_eq_y (pc := 459) (tgt := 510) C (by omega) (by omega) rfl (by decide) dL_law_459 ?_
        refine a_aloadn (pc := 510) C 1 rfl rfl dL_law_510 ?_
        refine a_iload (pc := 511) C 5 rfl dL_law_511 ?_
        refine a_iload (pc := 513) C 6 rfl dL_law_513 ?_
        refine a_callV1 (pc := 515) (k' := 33) (n' := 1379) (w1 := cS κ a (stL S z) []) C (q_isLinked κ a hS (by omega) (by omega) z []) yv_X5_isLinked ml_L_53 wi_X5_isLinked wl_X5_isLinked 0 rfl rfl rfl rfl (Nat.le_of_ble_eq_true rfl) (Nat.le_of_ble_eq_true rfl) (Nat.le_of_ble_eq_true rfl) ⟨(Nat.le_of_ble_eq_true rfl), (Nat.le_of_ble_eq_true rfl)⟩ rfl rfl dL_law_515 ?_
        refine a_ifb_eq_y (pc := 518) (tgt := 553) C nl (by decide) dL_law_518 ?_
        refine aw_locals (L' := [(0, .ref bs), (1, .ref (a 0)), (2, .int (nI N)), (3, .int (nI lk)), (4, .int (nI sz)), (5, .int (nI u)), (6, .int (nI v)), (7, .int (nI 2))]) [0, 1, 2, 3, 4, 5, 6, 7] rfl ?_
        refine lw_links C hX hbA hL hS hN hN17 hu hv hlk hlk1 ?_
        refine a_iload (pc := 591) C 7 rfl dL_law_591 ?_
        refine a_iconst (pc := 593) (v := nI 1) C ci_1 dL_law_593 ?_
        refine a_icn_eq_n (pc := 594) C (by omega) (by omega) (by decide) dL_law_594 ⟨617, by decide⟩ ?_
        refine a_iload (pc := 597) C 7 rfl dL_law_597 ?_
        refine a_ifn_eq_n (pc := 599) C (by omega) (by decide) dL_law_599 ⟨809, by decide⟩ ?_
        refine a_aloadn (pc := 602) C 1 rfl rfl dL_law_602 ?_
        refine a_iload (pc := 603) C 5 rfl dL_law_603 ?_
        refine a_iload (pc := 605) C 6 rfl dL_law_605 ?_
        refine a_iconst (pc := 607) (v := nI 0) C ci_0 dL_law_607 ?_
        obtain ⟨z1, hM2⟩ := q_way κ a hS (x := u) (y := v) (i := 0) (by omega) (by omega) (by omega) z
        refine a_callV1 (pc := 608) (k' := 33) (n' := 1379) (w1 := cS κ a (stL S z1) []) C (CM_val (v' := (-1 : Int32)) (by rw [wy_n hS hv' cA eB 0 z]; rfl) (hM2 [])) yv_X5_way ml_L_60 wi_X5_way wl_X5_way 0 rfl rfl rfl rfl (Nat.le_of_ble_eq_true rfl) (Nat.le_of_ble_eq_true rfl) (Nat.le_of_ble_eq_true rfl) ⟨(Nat.le_of_ble_eq_true rfl), (Nat.le_of_ble_eq_true rfl)⟩ rfl rfl dL_law_608 ?_
        refine a_iconst (pc := 611) (v := (-1 : Int32)) C ci_m1 dL_law_611 ?_
        refine a_ic_eq_y (pc := 612) (tgt := 809) C rfl (by decide) dL_law_612 ?_
        refine aw_locals (L' := [(0, .ref bs), (1, .ref (a 0)), (2, .int (nI N)), (3, .int (nI lk1)), (4, .int (nI sz)), (5, .int (nI u)), (6, .int (nI v))]) [0, 1, 2, 3, 4, 5, 6] rfl ?_
        exact next z1
