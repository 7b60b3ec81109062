/-! THE LAW'S WALK: all pairs -/
set_option maxHeartbeats 4000000 in
set_option maxRecDepth 100000 in
theorem lw_inner {g : aG} {κ : aK} {a : Nat → Nat} {bs L0 : Nat} {xs : Nat → Int32} (C : Cx g κ RL cL_law 10 room_1) (hX : va_X bs L0 xs (g_s g) (g_s g).heap) (hbA : ¬ kA κ bs) (hL : L0 < 2 ^ 31) {N : Nat} {S : SC} (hS : JS S) (hN : sN S = N) (hN17 : N ≤ 17) {u sz : Nat} (hu : u < N) (next : ∀ z : Nat → Int32, aw g κ 10 333 [(0, .ref bs), (1, .ref (a 0)), (2, .int (nI N)), (3, .int (nI (ppS (sLk S) N (u + 1)))), (4, .int (nI sz)), (5, .int (nI (u + 1)))] [] (cS κ a (stL S z) []) 33 1379) : ∀ (jz v : Nat) (z : Nat → Int32), v + jz = N → aw g κ 10 424 [(0, .ref bs), (1, .ref (a 0)), (2, .int (nI N)), (3, .int (nI (ppS (sLk S) N u + cnt (sLk S u) v))), (4, .int (nI sz)), (5, .int (nI u)), (6, .int (nI v))] [] (cS κ a (stL S z) []) 33 1379 := by
  have hp := ppS_le (sLk S) N u
  have hp2 : u * N ≤ 17 * 17 := Nat.mul_le_mul (by omega) hN17
  intro jz
  induction jz with
  | zero =>
    intro v z hv
    have hv : v = N := by omega
    subst hv
    refine a_iload (pc := 424) C 6 rfl dL_law_424 ?_
    refine a_iloadn (pc := 426) C 2 rfl rfl dL_law_426 ?_
    refine a_icn_ge_y (pc := 427) (tgt := 815) C (by omega) (by omega) (Nat.le_refl _) (by decide) dL_law_427 ?_
    refine a_iinc (pc := 815) (v := nI (u + 1)) (L' := [(0, .ref bs), (1, .ref (a 0)), (2, .int (nI v)), (3, .int (nI (ppS (sLk S) v u + cnt (sLk S u) v))), (4, .int (nI sz)), (5, .int (nI (u + 1))), (6, .int (nI v))]) C 5 rfl (nI_inc _) (by decide) rfl dL_law_815 ?_
    refine a_goto (pc := 818) (tgt := 333) C (by decide) dL_law_818 ?_
    refine aw_locals (L' := [(0, .ref bs), (1, .ref (a 0)), (2, .int (nI v)), (3, .int (nI (ppS (sLk S) v u + cnt (sLk S u) v))), (4, .int (nI sz)), (5, .int (nI (u + 1)))]) [0, 1, 2, 3, 4, 5] rfl ?_
    exact next z
  | succ jz ih =>
    intro v z hv
    have hv2 : v < N := by omega
    have hc := cnt_le (sLk S u) v
    refine a_iload (pc := 424) C 6 rfl dL_law_424 ?_
    refine a_iloadn (pc := 426) C 2 rfl rfl dL_law_426 ?_
    refine a_icn_ge_n (pc := 427) C (by omega) (by omega) hv2 dL_law_427 ⟨815, by decide⟩ ?_
    refine lw_pair C hX hbA hL hS hN hN17 hu hv2 (lk1 := ppS (sLk S) N u + cnt (sLk S u) (v + 1)) (by omega) (by rw [cnt, Nat.add_assoc]) (fun z => ?_) z
    refine a_iinc (pc := 809) (v := nI (v + 1)) (L' := [(0, .ref bs), (1, .ref (a 0)), (2, .int (nI N)), (3, .int (nI (ppS (sLk S) N u + cnt (sLk S u) (v + 1)))), (4, .int (nI sz)), (5, .int (nI u)), (6, .int (nI (v + 1)))]) C 6 rfl (nI_inc _) (by decide) rfl dL_law_809 ?_
    refine a_goto (pc := 812) (tgt := 424) C (by decide) dL_law_812 ?_
    exact ih (v + 1) z (by omega)
set_option maxHeartbeats 4000000 in
set_option maxRecDepth 100000 in
theorem lw_outer {g : aG} {κ : aK} {a : Nat → Nat} {bs L0 : Nat} {xs : Nat → Int32} (C : Cx g κ RL cL_law 10 room_1) (hX : va_X bs L0 xs (g_s g) (g_s g).heap) (hbA : ¬ kA κ bs) (hL : L0 < 2 ^ 31) {N : Nat} {S : SC} (hS : JS S) (hN : sN S = N) (hN17 : N ≤ 17) (h0 : 0 < N) (hdg : ∀ i, sDg S i = false) (fin : ∀ S : SC, aw g κ 10 1025 [] [.int (nI 1)] (cS κ a S []) 33 1379) : ∀ (jz u : Nat) (z : Nat → Int32), u + jz = N → aw g κ 10 333 [(0, .ref bs), (1, .ref (a 0)), (2, .int (nI N)), (3, .int (nI (ppS (sLk S) N u))), (4, .int (nI (sumN (szF (sBo S) N) u))), (5, .int (nI u))] [] (cS κ a (stL S z) []) 33 1379 := by
  intro jz
  induction jz with
  | zero =>
    intro u z hu
    have hu : u = N := by omega
    subst hu
    have e : sumN (szF (sBo S) u) u = u := sz_all (fun x hx => by rw [← hN] at hx ⊢; exact ⟨(jBo hS hx).1, (jBo hS hx).2.1⟩)
    rw [e]
    refine a_iload (pc := 333) C 5 rfl dL_law_333 ?_
    refine a_iloadn (pc := 335) C 2 rfl rfl dL_law_335 ?_
    refine a_icn_ge_y (pc := 336) (tgt := 821) C (by omega) (by omega) (Nat.le_refl _) (by decide) dL_law_336 ?_
    refine aw_locals (L' := [(0, .ref bs), (1, .ref (a 0)), (2, .int (nI u)), (3, .int (nI (ppS (sLk S) u u))), (4, .int (nI u))]) [0, 1, 2, 3, 4] rfl ?_
    exact lw_sums C hX hbA hL hS hN hdg h0 fin
  | succ jz ih =>
    intro u z hu
    have hu2 : u < N := by omega
    have hu' : u < sN S := by omega
    obtain ⟨hb1, hb2, hb3⟩ := jBo hS hu'
    have K : aw g κ 10 363 [(0, .ref bs), (1, .ref (a 0)), (2, .int (nI N)), (3, .int (nI (ppS (sLk S) N u))), (4, .int (nI (sumN (szF (sBo S) N) (u + 1)))), (5, .int (nI u))] [] (cS κ a (stL S z) []) 33 1379 := by
      refine a_aloadn (pc := 363) C 1 rfl rfl dL_law_363 ?_
      refine a_iload (pc := 364) C 5 rfl dL_law_364 ?_
      refine a_iload (pc := 366) C 5 rfl dL_law_366 ?_
      refine a_callV1 (pc := 368) (k' := 33) (n' := 1379) (w1 := cS κ a (stL S z) []) C (CM_val (od_A rfl) (q_order κ a hS hu' hu' z [])) yv_X5_order ml_L_50 wi_X5_order wl_X5_order 0 rfl rfl rfl rfl (Nat.le_of_ble_eq_true rfl) (Nat.le_of_ble_eq_true rfl) (Nat.le_of_ble_eq_true rfl) ⟨(Nat.le_of_ble_eq_true rfl), (Nat.le_of_ble_eq_true rfl)⟩ rfl rfl dL_law_368 ?_
      refine a_ifn_ne_n (pc := 371) C (by omega) rfl dL_law_371 ⟨419, by decide⟩ ?_
      refine a_aloadn (pc := 374) C 1 rfl rfl dL_law_374 ?_
      refine a_iload (pc := 375) C 5 rfl dL_law_375 ?_
      refine a_iload (pc := 377) C 5 rfl dL_law_377 ?_
      refine a_callV1 (pc := 379) (k' := 33) (n' := 1379) (w1 := cS κ a (stL S z) []) C (q_isLinked κ a hS (by omega) (by omega) z []) yv_X5_isLinked ml_L_53 wi_X5_isLinked wl_X5_isLinked 0 rfl rfl rfl rfl (Nat.le_of_ble_eq_true rfl) (Nat.le_of_ble_eq_true rfl) (Nat.le_of_ble_eq_true rfl) ⟨(Nat.le_of_ble_eq_true rfl), (Nat.le_of_ble_eq_true rfl)⟩ rfl rfl dL_law_379 ?_
      refine a_ifb_ne_n (pc := 382) C (lk_self hS hu') dL_law_382 ⟨419, by decide⟩ ?_
      refine a_aloadn (pc := 385) C 1 rfl rfl dL_law_385 ?_
      refine a_aloadn (pc := 386) C 1 rfl rfl dL_law_386 ?_
      refine a_iload (pc := 387) C 5 rfl dL_law_387 ?_
      refine a_iconst (pc := 389) (v := nI 1) C ci_1 dL_law_389 ?_
      refine a_callV1 (pc := 390) (k' := 33) (n' := 1379) (w1 := cS κ a (stL S z) []) C (CM_val v_unit1 (q_unit κ a hS (by omega) (by decide) z [])) yv_X5_unit ml_L_47 wi_X5_unit wl_X5_unit 0 rfl rfl rfl rfl (Nat.le_of_ble_eq_true rfl) (Nat.le_of_ble_eq_true rfl) (Nat.le_of_ble_eq_true rfl) ⟨(Nat.le_of_ble_eq_true rfl), (Nat.le_of_ble_eq_true rfl)⟩ rfl rfl dL_law_390 ?_
      refine a_iconst (pc := 393) (v := nI 1) C ci_1 dL_law_393 ?_
      refine a_callV1 (pc := 394) (k' := 33) (n' := 1379) (w1 := cS κ a (stL S z) []) C (CM_val v_unit1 (q_unit κ a hS (by omega) (by decide) z [])) yv_X5_unit ml_L_47 wi_X5_unit wl_X5_unit 0 rfl rfl rfl rfl (Nat.le_of_ble_eq_true rfl) (Nat.le_of_ble_eq_true rfl) (Nat.le_of_ble_eq_true rfl) ⟨(Nat.le_of_ble_eq_true rfl), (Nat.le_of_ble_eq_true rfl)⟩ rfl rfl dL_law_394 ?_
      refine a_aloadn (pc := 397) C 1 rfl rfl dL_law_397 ?_
      refine a_iload (pc := 398) C 5 rfl dL_law_398 ?_
      refine a_iconst (pc := 400) (v := nI 1) C ci_1 dL_law_400 ?_
      refine a_callV1 (pc := 401) (k' := 33) (n' := 1379) (w1 := cS κ a (stL S z) []) C (CM_val v_unit1 (q_unit κ a hS (by omega) (by decide) z [])) yv_X5_unit ml_L_47 wi_X5_unit wl_X5_unit 0 rfl rfl rfl rfl (Nat.le_of_ble_eq_true rfl) (Nat.le_of_ble_eq_true rfl) (Nat.le_of_ble_eq_true rfl) ⟨(Nat.le_of_ble_eq_true rfl), (Nat.le_of_ble_eq_true rfl)⟩ rfl rfl dL_law_401 ?_
      refine a_icn_ne_n (pc := 404) C (by omega) (by omega) hb2 dL_law_404 ⟨419, by decide⟩ ?_
      refine a_aloadn (pc := 407) C 1 rfl rfl dL_law_407 ?_
      refine a_iload (pc := 408) C 5 rfl dL_law_408 ?_
      refine a_iconst (pc := 410) (v := nI 1) C ci_1 dL_law_410 ?_
      refine a_callV1 (pc := 411) (k' := 33) (n' := 1379) (w1 := cS κ a (stL S z) []) C (CM_val v_unit1 (q_unit κ a hS (by omega) (by decide) z [])) yv_X5_unit ml_L_47 wi_X5_unit wl_X5_unit 0 rfl rfl rfl rfl (Nat.le_of_ble_eq_true rfl) (Nat.le_of_ble_eq_true rfl) (Nat.le_of_ble_eq_true rfl) ⟨(Nat.le_of_ble_eq_true rfl), (Nat.le_of_ble_eq_true rfl)⟩ rfl rfl dL_law_411 ?_
      refine a_iload (pc := 414) C 5 rfl dL_law_414 ?_
      refine a_icn_le_y (pc := 416) (tgt := 421) C (by omega) (by omega) hb3 (by decide) dL_law_416 ?_
      refine a_iconst (pc := 421) (v := nI 0) C ci_0 dL_law_421 ?_
      refine a_istore (pc := 422) (L' := [(0, .ref bs), (1, .ref (a 0)), (2, .int (nI N)), (3, .int (nI (ppS (sLk S) N u))), (4, .int (nI (sumN (szF (sBo S) N) (u + 1)))), (5, .int (nI u)), (6, .int (nI 0))]) C (by decide) rfl dL_law_422 ?_
      exact lw_inner C hX hbA hL hS hN hN17 hu2 (fun z => ih (u + 1) z (by omega)) N 0 z (by omega)
    refine a_iload (pc := 333) C 5 rfl dL_law_333 ?_
    refine a_iloadn (pc := 335) C 2 rfl rfl dL_law_335 ?_
    refine a_icn_ge_n (pc := 336) C (by omega) (by omega) hu2 dL_law_336 ⟨821, by decide⟩ ?_
    refine a_aloadn (pc := 339) C 1 rfl rfl dL_law_339 ?_
    refine a_iload (pc := 340) C 5 rfl dL_law_340 ?_
    refine a_iconst (pc := 342) (v := nI 1) C ci_1 dL_law_342 ?_
    refine a_callV1 (pc := 343) (k' := 33) (n' := 1379) (w1 := cS κ a (stL S z) []) C (CM_val v_unit1 (q_unit κ a hS (by omega) (by decide) z [])) yv_X5_unit ml_L_47 wi_X5_unit wl_X5_unit 0 rfl rfl rfl rfl (Nat.le_of_ble_eq_true rfl) (Nat.le_of_ble_eq_true rfl) (Nat.le_of_ble_eq_true rfl) ⟨(Nat.le_of_ble_eq_true rfl), (Nat.le_of_ble_eq_true rfl)⟩ rfl rfl dL_law_343 ?_
    refine a_iload (pc := 346) C 5 rfl dL_law_346 ?_
    by_cases c : sBo S u = u
    · have hs : szF (sBo S) N u ≤ N := by
        unfold szF
        split
        · exact cnt_le _ N
        · omega
      refine a_icn_ne_n (pc := 348) C (by omega) (by omega) c dL_law_348 ⟨363, by decide⟩ ?_
      refine a_iload (pc := 351) C 4 rfl dL_law_351 ?_
      refine a_aloadn (pc := 353) C 1 rfl rfl dL_law_353 ?_
      refine a_iload (pc := 354) C 5 rfl dL_law_354 ?_
      refine a_iconst (pc := 356) (v := nI 2) C ci_2 dL_law_356 ?_
      refine a_callV1 (pc := 357) (k' := 33) (n' := 1379) (w1 := cS κ a (stL S z) []) C (CM_val (show utS S u 2 = nI (szF (sBo S) N u) by rw [v_unit2 hS hu' c, hN]) (q_unit κ a hS hu' (by decide) z [])) yv_X5_unit ml_L_47 wi_X5_unit wl_X5_unit 0 rfl rfl rfl rfl (Nat.le_of_ble_eq_true rfl) (Nat.le_of_ble_eq_true rfl) (Nat.le_of_ble_eq_true rfl) ⟨(Nat.le_of_ble_eq_true rfl), (Nat.le_of_ble_eq_true rfl)⟩ rfl rfl dL_law_357 ?_
      refine a_iadd (pc := 360) (v := nI ((sumN (szF (sBo S) N) u) + (szF (sBo S) N u))) C (nI_add _ _) dL_law_360 ?_
      refine a_istore (pc := 361) (L' := [(0, .ref bs), (1, .ref (a 0)), (2, .int (nI N)), (3, .int (nI (ppS (sLk S) N u))), (4, .int (nI ((sumN (szF (sBo S) N) u) + (szF (sBo S) N u)))), (5, .int (nI u))]) C (by decide) rfl dL_law_361 ?_
      exact K
    · have e0 : sumN (szF (sBo S) N) (u + 1) = sumN (szF (sBo S) N) u := by rw [sumN, szF, if_neg c, Nat.add_zero]
      rw [e0] at K
      refine a_icn_ne_y (pc := 348) (tgt := 363) C (by omega) (by omega) c (by decide) dL_law_348 ?_
      exact K
set_option maxHeartbeats 4000000 in
set_option maxRecDepth 100000 in
theorem lw_checks {g : aG} {κ : aK} {a : Nat → Nat} {bs L0 : Nat} {xs : Nat → Int32} (C : Cx g κ RL cL_law 10 room_1) (hX : va_X bs L0 xs (g_s g) (g_s g).heap) (hbA : ¬ kA κ bs) (hL : L0 < 2 ^ 31) {N : Nat} {S : SC} (hS : JS S) (hN : sN S = N) (hN17 : N ≤ 17) (h0 : 0 < N) (hdg : ∀ i, sDg S i = false) (fin : ∀ S : SC, aw g κ 10 1025 [] [.int (nI 1)] (cS κ a S []) 33 1379) : aw g κ 10 325 [(0, .ref bs), (1, .ref (a 0)), (2, .int (nI N))] [] (cS κ a S []) 33 1379 := by
  refine aw_eq (ws' := cS κ a (stL S (S.2.2.2.2.2.2.2.2.2.2.2.2.2.2.2.2.2.2.2.2.2.1)) []) rfl ?_
  refine a_iconst (pc := 325) (v := nI 0) C ci_0 dL_law_325 ?_
  refine a_istoren (pc := 326) (L' := [(0, .ref bs), (1, .ref (a 0)), (2, .int (nI N)), (3, .int (nI 0))]) C (by decide) rfl rfl dL_law_326 ?_
  refine a_iconst (pc := 327) (v := nI 0) C ci_0 dL_law_327 ?_
  refine a_istore (pc := 328) (L' := [(0, .ref bs), (1, .ref (a 0)), (2, .int (nI N)), (3, .int (nI 0)), (4, .int (nI 0))]) C (by decide) rfl dL_law_328 ?_
  refine a_iconst (pc := 330) (v := nI 0) C ci_0 dL_law_330 ?_
  refine a_istore (pc := 331) (L' := [(0, .ref bs), (1, .ref (a 0)), (2, .int (nI N)), (3, .int (nI 0)), (4, .int (nI 0)), (5, .int (nI 0))]) C (by decide) rfl dL_law_331 ?_
  exact lw_outer C hX hbA hL hS hN hN17 h0 hdg fin N 0 (S.2.2.2.2.2.2.2.2.2.2.2.2.2.2.2.2.2.2.2.2.2.1) (by omega)
