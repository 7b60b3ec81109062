/-! THE LAW'S WALK: doubts, sums, the way -/
set_option maxHeartbeats 4000000 in
set_option maxRecDepth 100000 in
theorem lw_doubt1 {g : aG} {κ : aK} {a : Nat → Nat} {bs L0 : Nat} {xs : Nat → Int32} (C : Cx g κ RL cL_law 10 room_1) (hX : va_X bs L0 xs (g_s g) (g_s g).heap) (hbA : ¬ kA κ bs) (hL : L0 < 2 ^ 31) {N : Nat} {S : SC} {z : Nat → Int32} (hS : JS S) (hN : sN S = N) {u : Nat} (hu : u < N) (next : aw g κ 10 863 [(0, .ref bs), (1, .ref (a 0)), (2, .int (nI N)), (5, .int (nI (cnt (dbP S) (u + 1)))), (6, .int (nI (u + 1)))] [] (cS κ a (stL S z) []) 33 1379) : aw g κ 10 863 [(0, .ref bs), (1, .ref (a 0)), (2, .int (nI N)), (5, .int (nI (cnt (dbP S) u))), (6, .int (nI u))] [] (cS κ a (stL S z) []) 33 1379 := by
  have hn := (jN hS).1
  rw [hN] at hn
  have hb := (jBo hS (u := u) (by omega)).1
  rw [hN] at hb
  have hc := cnt_le (dbP S) u
  refine a_iload (pc := 863) C 4 rfl dL_law_863 ?_
  refine a_iloadn (pc := 865) C 2 rfl rfl dL_law_865 ?_
  refine a_icn_ge_n (pc := 866) C (by omega) (by omega) hu dL_law_866 ⟨914, by decide⟩ ?_
  refine a_iload (pc := 869) C 3 rfl dL_law_869 ?_
  refine a_aloadn (pc := 871) C 1 rfl rfl dL_law_871 ?_
  refine a_iload (pc := 872) C 4 rfl dL_law_872 ?_
  refine a_iconst (pc := 874) (v := nI 1) C ci_1 dL_law_874 ?_
  refine a_callV1 (pc := 875) (k' := 33) (n' := 1379) (w1 := cS κ a (stL S z) []) C (CM_val v_unit1 (q_unit κ a hS (by omega) (by decide) z [])) yv_X5_unit ml_L_47 wi_X5_unit wl_X5_unit 0 rfl rfl rfl rfl (Nat.le_of_ble_eq_true rfl) (Nat.le_of_ble_eq_true rfl) (Nat.le_of_ble_eq_true rfl) ⟨(Nat.le_of_ble_eq_true rfl), (Nat.le_of_ble_eq_true rfl)⟩ rfl rfl dL_law_875 ?_
  refine a_iload (pc := 878) C 4 rfl dL_law_878 ?_
  by_cases c : sBo S u = u
  · by_cases c2 : bnS S u false ≤ bnS S u true
    · have e : dbP S u = false := by unfold dbP; rw [decide_eq_false (Int32.not_lt.mpr c2), Bool.and_false]
      refine a_icn_ne_n (pc := 880) C (by omega) (by omega) c dL_law_880 ⟨904, by decide⟩ ?_
      refine a_aloadn (pc := 883) C 1 rfl rfl dL_law_883 ?_
      refine a_iload (pc := 884) C 4 rfl dL_law_884 ?_
      refine a_iconst (pc := 886) (v := nI 0) C ci_0 dL_law_886 ?_
      refine a_callV1 (pc := 887) (k' := 33) (n' := 1379) (w1 := cS κ a (stL S z) []) C (q_bnd0 hS (by omega) z []) yv_X5_bound ml_L_63 wi_X5_bound wl_X5_bound 0 rfl rfl rfl rfl (Nat.le_of_ble_eq_true rfl) (Nat.le_of_ble_eq_true rfl) (Nat.le_of_ble_eq_true rfl) ⟨(Nat.le_of_ble_eq_true rfl), (Nat.le_of_ble_eq_true rfl)⟩ rfl rfl dL_law_887 ?_
      refine a_aloadn (pc := 890) C 1 rfl rfl dL_law_890 ?_
      refine a_iload (pc := 891) C 4 rfl dL_law_891 ?_
      refine a_iconst (pc := 893) (v := nI 1) C ci_1 dL_law_893 ?_
      refine a_callV1 (pc := 894) (k' := 33) (n' := 1379) (w1 := cS κ a (stL S z) []) C (q_bnd1 hS (by omega) z []) yv_X5_bound ml_L_63 wi_X5_bound wl_X5_bound 0 rfl rfl rfl rfl (Nat.le_of_ble_eq_true rfl) (Nat.le_of_ble_eq_true rfl) (Nat.le_of_ble_eq_true rfl) ⟨(Nat.le_of_ble_eq_true rfl), (Nat.le_of_ble_eq_true rfl)⟩ rfl rfl dL_law_894 ?_
      refine a_ic_le_y (pc := 897) (tgt := 904) C c2 (by decide) dL_law_897 ?_
      refine a_iconst (pc := 904) (v := nI 0) C ci_0 dL_law_904 ?_
      refine a_iadd (pc := 905) (v := nI ((cnt (dbP S) u) + 0)) C (nI_add _ _) dL_law_905 ?_
      have ec : cnt (dbP S) u + 0 = cnt (dbP S) (u + 1) := by rw [cnt_n e, Nat.add_zero]
      rw [ec]
      refine a_istore (pc := 906) (L' := [(0, .ref bs), (1, .ref (a 0)), (2, .int (nI N)), (5, .int (nI (cnt (dbP S) (u + 1)))), (6, .int (nI u))]) C (by decide) rfl dL_law_906 ?_
      refine a_iinc (pc := 908) (v := nI (u + 1)) (L' := [(0, .ref bs), (1, .ref (a 0)), (2, .int (nI N)), (5, .int (nI (cnt (dbP S) (u + 1)))), (6, .int (nI (u + 1)))]) C 4 rfl (nI_inc _) (by decide) rfl dL_law_908 ?_
      refine a_goto (pc := 911) (tgt := 863) C (by decide) dL_law_911 ?_
      exact next
    · have e : dbP S u = true := by unfold dbP; rw [decide_eq_true c, decide_eq_true (Int32.not_le.mp c2)]; rfl
      refine a_icn_ne_n (pc := 880) C (by omega) (by omega) c dL_law_880 ⟨904, by decide⟩ ?_
      refine a_aloadn (pc := 883) C 1 rfl rfl dL_law_883 ?_
      refine a_iload (pc := 884) C 4 rfl dL_law_884 ?_
      refine a_iconst (pc := 886) (v := nI 0) C ci_0 dL_law_886 ?_
      refine a_callV1 (pc := 887) (k' := 33) (n' := 1379) (w1 := cS κ a (stL S z) []) C (q_bnd0 hS (by omega) z []) yv_X5_bound ml_L_63 wi_X5_bound wl_X5_bound 0 rfl rfl rfl rfl (Nat.le_of_ble_eq_true rfl) (Nat.le_of_ble_eq_true rfl) (Nat.le_of_ble_eq_true rfl) ⟨(Nat.le_of_ble_eq_true rfl), (Nat.le_of_ble_eq_true rfl)⟩ rfl rfl dL_law_887 ?_
      refine a_aloadn (pc := 890) C 1 rfl rfl dL_law_890 ?_
      refine a_iload (pc := 891) C 4 rfl dL_law_891 ?_
      refine a_iconst (pc := 893) (v := nI 1) C ci_1 dL_law_893 ?_
      refine a_callV1 (pc := 894) (k' := 33) (n' := 1379) (w1 := cS κ a (stL S z) []) C (q_bnd1 hS (by omega) z []) yv_X5_bound ml_L_63 wi_X5_bound wl_X5_bound 0 rfl rfl rfl rfl (Nat.le_of_ble_eq_true rfl) (Nat.le_of_ble_eq_true rfl) (Nat.le_of_ble_eq_true rfl) ⟨(Nat.le_of_ble_eq_true rfl), (Nat.le_of_ble_eq_true rfl)⟩ rfl rfl dL_law_894 ?_
      refine a_ic_le_n (pc := 897) C c2 dL_law_897 ⟨904, by decide⟩ ?_
      refine a_iconst (pc := 900) (v := nI 1) C ci_1 dL_law_900 ?_
      refine a_goto (pc := 901) (tgt := 905) C (by decide) dL_law_901 ?_
      refine a_iadd (pc := 905) (v := nI ((cnt (dbP S) u) + 1)) C (nI_add _ _) dL_law_905 ?_
      have ec : cnt (dbP S) u + 1 = cnt (dbP S) (u + 1) := by rw [cnt_y e]
      rw [ec]
      refine a_istore (pc := 906) (L' := [(0, .ref bs), (1, .ref (a 0)), (2, .int (nI N)), (5, .int (nI (cnt (dbP S) (u + 1)))), (6, .int (nI u))]) C (by decide) rfl dL_law_906 ?_
      refine a_iinc (pc := 908) (v := nI (u + 1)) (L' := [(0, .ref bs), (1, .ref (a 0)), (2, .int (nI N)), (5, .int (nI (cnt (dbP S) (u + 1)))), (6, .int (nI (u + 1)))]) C 4 rfl (nI_inc _) (by decide) rfl dL_law_908 ?_
      refine a_goto (pc := 911) (tgt := 863) C (by decide) dL_law_911 ?_
      exact next
  · have e : dbP S u = false := by unfold dbP; rw [decide_eq_false c, Bool.false_and]
    refine a_icn_ne_y (pc := 880) (tgt := 904) C (by omega) (by omega) c (by decide) dL_law_880 ?_
    refine a_iconst (pc := 904) (v := nI 0) C ci_0 dL_law_904 ?_
    refine a_iadd (pc := 905) (v := nI ((cnt (dbP S) u) + 0)) C (nI_add _ _) dL_law_905 ?_
    have ec : cnt (dbP S) u + 0 = cnt (dbP S) (u + 1) := by rw [cnt_n e, Nat.add_zero]
    rw [ec]
    refine a_istore (pc := 906) (L' := [(0, .ref bs), (1, .ref (a 0)), (2, .int (nI N)), (5, .int (nI (cnt (dbP S) (u + 1)))), (6, .int (nI u))]) C (by decide) rfl dL_law_906 ?_
    refine a_iinc (pc := 908) (v := nI (u + 1)) (L' := [(0, .ref bs), (1, .ref (a 0)), (2, .int (nI N)), (5, .int (nI (cnt (dbP S) (u + 1)))), (6, .int (nI (u + 1)))]) C 4 rfl (nI_inc _) (by decide) rfl dL_law_908 ?_
    refine a_goto (pc := 911) (tgt := 863) C (by decide) dL_law_911 ?_
    exact next
set_option maxHeartbeats 4000000 in
set_option maxRecDepth 100000 in
theorem lw_doubt {g : aG} {κ : aK} {a : Nat → Nat} {bs L0 : Nat} {xs : Nat → Int32} (C : Cx g κ RL cL_law 10 room_1) (hX : va_X bs L0 xs (g_s g) (g_s g).heap) (hbA : ¬ kA κ bs) (hL : L0 < 2 ^ 31) {N : Nat} {S : SC} {z : Nat → Int32} (hS : JS S) (hN : sN S = N) (hdg : ∀ i, sDg S i = false) (fin : ∀ S : SC, aw g κ 10 1025 [] [.int (nI 1)] (cS κ a S []) 33 1379) : ∀ jz u, u + jz = N → aw g κ 10 863 [(0, .ref bs), (1, .ref (a 0)), (2, .int (nI N)), (5, .int (nI (cnt (dbP S) u))), (6, .int (nI u))] [] (cS κ a (stL S z) []) 33 1379 := by
  have hn := (jN hS).1
  rw [hN] at hn
  intro jz
  induction jz with
  | zero =>
    intro u hu
    have hu : u = N := by omega
    subst hu
    have hc := cnt_le (dbP S) u
    refine a_iload (pc := 863) C 4 rfl dL_law_863 ?_
    refine a_iloadn (pc := 865) C 2 rfl rfl dL_law_865 ?_
    refine a_icn_ge_y (pc := 866) (tgt := 914) C (by omega) (by omega) (Nat.le_refl _) (by decide) dL_law_866 ?_
    refine a_aloadn (pc := 914) C 1 rfl rfl dL_law_914 ?_
    refine a_bipush (pc := 915) (v := nI 6) C cb_6 dL_law_915 ?_
    refine a_callV1 (pc := 917) (k' := 33) (n' := 1379) (w1 := cS κ a (stL S z) []) C (CM_val (show ctS S 6 = nI (cnt (dbP S) u) by rw [ct_6 hS, hN]) (q_count κ a hS (by decide) z [])) yv_X5_count ml_L_26 wi_X5_count wl_X5_count 0 rfl rfl rfl rfl (Nat.le_of_ble_eq_true rfl) (Nat.le_of_ble_eq_true rfl) (Nat.le_of_ble_eq_true rfl) ⟨(Nat.le_of_ble_eq_true rfl), (Nat.le_of_ble_eq_true rfl)⟩ rfl rfl dL_law_917 ?_
    refine a_iload (pc := 920) C 3 rfl dL_law_920 ?_
    refine a_icn_eq_y (pc := 922) (tgt := 927) C (by omega) (by omega) rfl (by decide) dL_law_922 ?_
    refine aw_locals (L' := [(0, .ref bs), (1, .ref (a 0)), (2, .int (nI u))]) [0, 1, 2] rfl ?_
    exact lw_phase C hX hbA hL (S := stL S z) hS hN hdg fin
  | succ jz ih =>
    intro u hu
    exact lw_doubt1 C hX hbA hL hS hN (by omega) (ih (u + 1) (by omega))
set_option maxHeartbeats 4000000 in
set_option maxRecDepth 100000 in
theorem lw_sums {g : aG} {κ : aK} {a : Nat → Nat} {bs L0 : Nat} {xs : Nat → Int32} (C : Cx g κ RL cL_law 10 room_1) (hX : va_X bs L0 xs (g_s g) (g_s g).heap) (hbA : ¬ kA κ bs) (hL : L0 < 2 ^ 31) {N : Nat} {S : SC} {z : Nat → Int32} (hS : JS S) (hN : sN S = N) (hdg : ∀ i, sDg S i = false) (h0 : 0 < N) (fin : ∀ S : SC, aw g κ 10 1025 [] [.int (nI 1)] (cS κ a S []) 33 1379) : aw g κ 10 821 [(0, .ref bs), (1, .ref (a 0)), (2, .int (nI N)), (3, .int (nI (ppS (sLk S) N N))), (4, .int (nI N))] [] (cS κ a (stL S z) []) 33 1379 := by
  have hn := (jN hS).1
  rw [hN] at hn
  obtain ⟨c2, hc2, e2⟩ := ct_2 hS
  rw [hN] at hc2
  obtain ⟨c7, hc7, hc7b, e7⟩ := ct_7 hS (by omega)
  have hp := ppS_le (sLk S) N N
  have hp2 : N * N ≤ 40 * 40 := Nat.mul_le_mul hn hn
  refine a_iload (pc := 821) C 4 rfl dL_law_821 ?_
  refine a_iloadn (pc := 823) C 2 rfl rfl dL_law_823 ?_
  refine a_icn_ne_n (pc := 824) C (by omega) (by omega) rfl dL_law_824 ⟨855, by decide⟩ ?_
  refine a_iloadn (pc := 827) C 3 rfl rfl dL_law_827 ?_
  refine a_aloadn (pc := 828) C 1 rfl rfl dL_law_828 ?_
  refine a_iconst (pc := 829) (v := nI 3) C ci_3 dL_law_829 ?_
  refine a_callV1 (pc := 830) (k' := 33) (n' := 1379) (w1 := cS κ a (stL S z) []) C (CM_val (show ctS S 3 = nI (ppS (sLk S) N N) by rw [ct_3 hS, hN]) (q_count κ a hS (by decide) z [])) yv_X5_count ml_L_26 wi_X5_count wl_X5_count 0 rfl rfl rfl rfl (Nat.le_of_ble_eq_true rfl) (Nat.le_of_ble_eq_true rfl) (Nat.le_of_ble_eq_true rfl) ⟨(Nat.le_of_ble_eq_true rfl), (Nat.le_of_ble_eq_true rfl)⟩ rfl rfl dL_law_830 ?_
  refine a_icn_ne_n (pc := 833) C (by omega) (by omega) rfl dL_law_833 ⟨855, by decide⟩ ?_
  refine a_aloadn (pc := 836) C 1 rfl rfl dL_law_836 ?_
  refine a_iconst (pc := 837) (v := nI 2) C ci_2 dL_law_837 ?_
  refine a_callV1 (pc := 838) (k' := 33) (n' := 1379) (w1 := cS κ a (stL S z) []) C (CM_val e2 (q_count κ a hS (by decide) z [])) yv_X5_count ml_L_26 wi_X5_count wl_X5_count 0 rfl rfl rfl rfl (Nat.le_of_ble_eq_true rfl) (Nat.le_of_ble_eq_true rfl) (Nat.le_of_ble_eq_true rfl) ⟨(Nat.le_of_ble_eq_true rfl), (Nat.le_of_ble_eq_true rfl)⟩ rfl rfl dL_law_838 ?_
  refine a_iloadn (pc := 841) C 2 rfl rfl dL_law_841 ?_
  refine a_icn_gt_n (pc := 842) C (by omega) (by omega) hc2 dL_law_842 ⟨855, by decide⟩ ?_
  refine a_aloadn (pc := 845) C 1 rfl rfl dL_law_845 ?_
  refine a_bipush (pc := 846) (v := nI 7) C cb_7 dL_law_846 ?_
  refine a_callV1 (pc := 848) (k' := 33) (n' := 1379) (w1 := cS κ a (stL S z) []) C (CM_val e7 (q_count κ a hS (by decide) z [])) yv_X5_count ml_L_26 wi_X5_count wl_X5_count 0 rfl rfl rfl rfl (Nat.le_of_ble_eq_true rfl) (Nat.le_of_ble_eq_true rfl) (Nat.le_of_ble_eq_true rfl) ⟨(Nat.le_of_ble_eq_true rfl), (Nat.le_of_ble_eq_true rfl)⟩ rfl rfl dL_law_848 ?_
  refine a_iconst (pc := 851) (v := nI 1) C ci_1 dL_law_851 ?_
  refine a_icn_ge_y (pc := 852) (tgt := 857) C (by omega) (by omega) hc7 (by decide) dL_law_852 ?_
  refine a_iconst (pc := 857) (v := nI 0) C ci_0 dL_law_857 ?_
  refine a_istore (pc := 858) (L' := [(0, .ref bs), (1, .ref (a 0)), (2, .int (nI N)), (3, .int (nI (ppS (sLk S) N N))), (4, .int (nI N)), (5, .int (nI 0))]) C (by decide) rfl dL_law_858 ?_
  refine a_iconst (pc := 860) (v := nI 0) C ci_0 dL_law_860 ?_
  refine a_istore (pc := 861) (L' := [(0, .ref bs), (1, .ref (a 0)), (2, .int (nI N)), (3, .int (nI (ppS (sLk S) N N))), (4, .int (nI N)), (5, .int (nI 0)), (6, .int (nI 0))]) C (by decide) rfl dL_law_861 ?_
  refine aw_locals (L' := [(0, .ref bs), (1, .ref (a 0)), (2, .int (nI N)), (5, .int (nI 0)), (6, .int (nI 0))]) [0, 1, 2, 5, 6] rfl ?_
  exact lw_doubt C hX hbA hL hS hN hdg fin N 0 (by omega)
set_option maxHeartbeats 4000000 in
set_option maxRecDepth 100000 in
theorem lw_way {g : aG} {κ : aK} {a : Nat → Nat} {bs L0 : Nat} {xs : Nat → Int32} (C : Cx g κ RL cL_law 10 room_1) (hX : va_X bs L0 xs (g_s g) (g_s g).heap) (hbA : ¬ kA κ bs) (hL : L0 < 2 ^ 31) {N : Nat} {S : SC} (hS : JS S) (hN : sN S = N) (hN17 : N ≤ 17) {u v lk sz : Nat} (hu : u < N) (hv : v < N) {H : Nat} {w : Nat → Nat} (hH : H < N) (h1 : 1 ≤ H) (hlev : H + lev (sN S) (sEe S) (sBo S v) ≤ lev (sN S) (sEe S) (sBo S u)) (hl40 : lev (sN S) (sEe S) (sBo S u) < 40) (hw : ∀ k, k ≤ H → w k < N) (hw0 : w 0 = sBo S u) (hwH : w H = sBo S v) (hwl : ∀ k, k < H → lkS S (w k) (w (k + 1)) = true) (hwy : ∀ z idx, wyV S u v idx z = if idx ≤ H then some (w idx) else none) (next : ∀ z : Nat → Int32, aw g κ 10 809 [(0, .ref bs), (1, .ref (a 0)), (2, .int (nI N)), (3, .int (nI lk)), (4, .int (nI sz)), (5, .int (nI u)), (6, .int (nI v))] [] (cS κ a (stL S z) []) 33 1379) : ∀ (jz k : Nat) (z : Nat → Int32), k + jz = H → aw g κ 10 690 [(0, .ref bs), (1, .ref (a 0)), (2, .int (nI N)), (3, .int (nI lk)), (4, .int (nI sz)), (5, .int (nI u)), (6, .int (nI v)), (9, .int (nI k))] [] (cS κ a (stL S z) []) 33 1379 := by
  have hbu := (jBo hS (u := u) (by omega)).1
  have hbv := (jBo hS (u := v) (by omega)).1
  intro jz
  induction jz with
  | zero =>
    intro k z hk
    have hk : k = H := by omega
    subst hk
    have w0 := hw 0 (by omega)
    have wk := hw k (by omega)
    refine a_aloadn (pc := 690) C 1 rfl rfl dL_law_690 ?_
    refine a_iload (pc := 691) C 5 rfl dL_law_691 ?_
    refine a_iload (pc := 693) C 6 rfl dL_law_693 ?_
    refine a_iload (pc := 695) C 7 rfl dL_law_695 ?_
    refine a_iconst (pc := 697) (v := nI 1) C ci_1 dL_law_697 ?_
    refine a_iadd (pc := 698) (v := nI (k + 1)) C (nI_add _ _) dL_law_698 ?_
    obtain ⟨z1, hM2⟩ := q_way κ a hS (x := u) (y := v) (i := k + 1) (by omega) (by omega) (by omega) z
    refine a_callV1 (pc := 699) (k' := 33) (n' := 1379) (w1 := cS κ a (stL S z1) []) C (CM_val (v' := (-1 : Int32)) (by rw [hwy z, if_neg (by omega)]; rfl) (hM2 [])) yv_X5_way ml_L_60 wi_X5_way wl_X5_way 0 rfl rfl rfl rfl (Nat.le_of_ble_eq_true rfl) (Nat.le_of_ble_eq_true rfl) (Nat.le_of_ble_eq_true rfl) ⟨(Nat.le_of_ble_eq_true rfl), (Nat.le_of_ble_eq_true rfl)⟩ rfl rfl dL_law_699 ?_
    refine a_if_lt_y (pc := 702) (tgt := 742) C (by decide +kernel) (by decide) dL_law_702 ?_
    refine a_aloadn (pc := 742) C 1 rfl rfl dL_law_742 ?_
    refine a_iload (pc := 743) C 5 rfl dL_law_743 ?_
    refine a_iload (pc := 745) C 6 rfl dL_law_745 ?_
    refine a_iconst (pc := 747) (v := nI 0) C ci_0 dL_law_747 ?_
    obtain ⟨z3, hM4⟩ := q_way κ a hS (x := u) (y := v) (i := 0) (by omega) (by omega) (by omega) z1
    refine a_callV1 (pc := 748) (k' := 33) (n' := 1379) (w1 := cS κ a (stL S z3) []) C (CM_val (v' := nI (w 0)) (by rw [hwy z1, if_pos (by omega)]; rfl) (hM4 [])) yv_X5_way ml_L_60 wi_X5_way wl_X5_way 0 rfl rfl rfl rfl (Nat.le_of_ble_eq_true rfl) (Nat.le_of_ble_eq_true rfl) (Nat.le_of_ble_eq_true rfl) ⟨(Nat.le_of_ble_eq_true rfl), (Nat.le_of_ble_eq_true rfl)⟩ rfl rfl dL_law_748 ?_
    refine a_aloadn (pc := 751) C 1 rfl rfl dL_law_751 ?_
    refine a_iload (pc := 752) C 5 rfl dL_law_752 ?_
    refine a_iconst (pc := 754) (v := nI 1) C ci_1 dL_law_754 ?_
    refine a_callV1 (pc := 755) (k' := 33) (n' := 1379) (w1 := cS κ a (stL S z3) []) C (CM_val v_unit1 (q_unit κ a hS (by omega) (by decide) z3 [])) yv_X5_unit ml_L_47 wi_X5_unit wl_X5_unit 0 rfl rfl rfl rfl (Nat.le_of_ble_eq_true rfl) (Nat.le_of_ble_eq_true rfl) (Nat.le_of_ble_eq_true rfl) ⟨(Nat.le_of_ble_eq_true rfl), (Nat.le_of_ble_eq_true rfl)⟩ rfl rfl dL_law_755 ?_
    refine a_icn_ne_n (pc := 758) C (by omega) (by omega) hw0 dL_law_758 ⟨807, by decide⟩ ?_
    refine a_aloadn (pc := 761) C 1 rfl rfl dL_law_761 ?_
    refine a_iload (pc := 762) C 5 rfl dL_law_762 ?_
    refine a_iload (pc := 764) C 6 rfl dL_law_764 ?_
    refine a_iload (pc := 766) C 7 rfl dL_law_766 ?_
    obtain ⟨z5, hM6⟩ := q_way κ a hS (x := u) (y := v) (i := k) (by omega) (by omega) (by omega) z3
    refine a_callV1 (pc := 768) (k' := 33) (n' := 1379) (w1 := cS κ a (stL S z5) []) C (CM_val (v' := nI (w k)) (by rw [hwy z3, if_pos (by omega)]; rfl) (hM6 [])) yv_X5_way ml_L_60 wi_X5_way wl_X5_way 0 rfl rfl rfl rfl (Nat.le_of_ble_eq_true rfl) (Nat.le_of_ble_eq_true rfl) (Nat.le_of_ble_eq_true rfl) ⟨(Nat.le_of_ble_eq_true rfl), (Nat.le_of_ble_eq_true rfl)⟩ rfl rfl dL_law_768 ?_
    refine a_aloadn (pc := 771) C 1 rfl rfl dL_law_771 ?_
    refine a_iload (pc := 772) C 6 rfl dL_law_772 ?_
    refine a_iconst (pc := 774) (v := nI 1) C ci_1 dL_law_774 ?_
    refine a_callV1 (pc := 775) (k' := 33) (n' := 1379) (w1 := cS κ a (stL S z5) []) C (CM_val v_unit1 (q_unit κ a hS (by omega) (by decide) z5 [])) yv_X5_unit ml_L_47 wi_X5_unit wl_X5_unit 0 rfl rfl rfl rfl (Nat.le_of_ble_eq_true rfl) (Nat.le_of_ble_eq_true rfl) (Nat.le_of_ble_eq_true rfl) ⟨(Nat.le_of_ble_eq_true rfl), (Nat.le_of_ble_eq_true rfl)⟩ rfl rfl dL_law_775 ?_
    refine a_icn_ne_n (pc := 778) C (by omega) (by omega) hwH dL_law_778 ⟨807, by decide⟩ ?_
    refine a_iload (pc := 781) C 7 rfl dL_law_781 ?_
    refine a_aloadn (pc := 783) C 1 rfl rfl dL_law_783 ?_
    refine a_iload (pc := 784) C 5 rfl dL_law_784 ?_
    refine a_iconst (pc := 786) (v := nI 3) C ci_3 dL_law_786 ?_
    refine a_callV1 (pc := 787) (k' := 33) (n' := 1379) (w1 := cS κ a (stL S z5) []) C (CM_val (v_unit3 hS (by omega)) (q_unit κ a hS (by omega) (by decide) z5 [])) yv_X5_unit ml_L_47 wi_X5_unit wl_X5_unit 0 rfl rfl rfl rfl (Nat.le_of_ble_eq_true rfl) (Nat.le_of_ble_eq_true rfl) (Nat.le_of_ble_eq_true rfl) ⟨(Nat.le_of_ble_eq_true rfl), (Nat.le_of_ble_eq_true rfl)⟩ rfl rfl dL_law_787 ?_
    refine a_aloadn (pc := 790) C 1 rfl rfl dL_law_790 ?_
    refine a_iload (pc := 791) C 6 rfl dL_law_791 ?_
    refine a_iconst (pc := 793) (v := nI 3) C ci_3 dL_law_793 ?_
    refine a_callV1 (pc := 794) (k' := 33) (n' := 1379) (w1 := cS κ a (stL S z5) []) C (CM_val (v_unit3 hS (by omega)) (q_unit κ a hS (by omega) (by decide) z5 [])) yv_X5_unit ml_L_47 wi_X5_unit wl_X5_unit 0 rfl rfl rfl rfl (Nat.le_of_ble_eq_true rfl) (Nat.le_of_ble_eq_true rfl) (Nat.le_of_ble_eq_true rfl) ⟨(Nat.le_of_ble_eq_true rfl), (Nat.le_of_ble_eq_true rfl)⟩ rfl rfl dL_law_794 ?_
    refine a_isub (pc := 797) (v := nI (lev (sN S) (sEe S) (sBo S u) - lev (sN S) (sEe S) (sBo S v))) C (pk_sub (by omega)) dL_law_797 ?_
    refine a_icn_gt_n (pc := 798) C (by omega) (by omega) (by omega) dL_law_798 ⟨807, by decide⟩ ?_
    refine a_iload (pc := 801) C 7 rfl dL_law_801 ?_
    refine a_iconst (pc := 803) (v := nI 1) C ci_1 dL_law_803 ?_
    refine a_icn_ge_y (pc := 804) (tgt := 809) C (by omega) (by omega) h1 (by decide) dL_law_804 ?_
    refine aw_locals (L' := [(0, .ref bs), (1, .ref (a 0)), (2, .int (nI N)), (3, .int (nI lk)), (4, .int (nI sz)), (5, .int (nI u)), (6, .int (nI v))]) [0, 1, 2, 3, 4, 5, 6] rfl ?_
    exact next z5
  | succ jz ih =>
    intro k z hk
    have wk := hw k (by omega)
    have wk1 := hw (k + 1) (by omega)
    refine a_aloadn (pc := 690) C 1 rfl rfl dL_law_690 ?_
    refine a_iload (pc := 691) C 5 rfl dL_law_691 ?_
    refine a_iload (pc := 693) C 6 rfl dL_law_693 ?_
    refine a_iload (pc := 695) C 7 rfl dL_law_695 ?_
    refine a_iconst (pc := 697) (v := nI 1) C ci_1 dL_law_697 ?_
    refine a_iadd (pc := 698) (v := nI (k + 1)) C (nI_add _ _) dL_law_698 ?_
    obtain ⟨z1, hM2⟩ := q_way κ a hS (x := u) (y := v) (i := k + 1) (by omega) (by omega) (by omega) z
    refine a_callV1 (pc := 699) (k' := 33) (n' := 1379) (w1 := cS κ a (stL S z1) []) C (CM_val (v' := nI (w (k + 1))) (by rw [hwy z, if_pos (by omega)]; rfl) (hM2 [])) yv_X5_way ml_L_60 wi_X5_way wl_X5_way 0 rfl rfl rfl rfl (Nat.le_of_ble_eq_true rfl) (Nat.le_of_ble_eq_true rfl) (Nat.le_of_ble_eq_true rfl) ⟨(Nat.le_of_ble_eq_true rfl), (Nat.le_of_ble_eq_true rfl)⟩ rfl rfl dL_law_699 ?_
    refine a_if_lt_n (pc := 702) C (nI_pos (by omega)) dL_law_702 ⟨742, by decide⟩ ?_
    refine a_aloadn (pc := 705) C 1 rfl rfl dL_law_705 ?_
    refine a_aloadn (pc := 706) C 1 rfl rfl dL_law_706 ?_
    refine a_iload (pc := 707) C 5 rfl dL_law_707 ?_
    refine a_iload (pc := 709) C 6 rfl dL_law_709 ?_
    refine a_iload (pc := 711) C 7 rfl dL_law_711 ?_
    obtain ⟨z3, hM4⟩ := q_way κ a hS (x := u) (y := v) (i := k) (by omega) (by omega) (by omega) z1
    refine a_callV1 (pc := 713) (k' := 33) (n' := 1379) (w1 := cS κ a (stL S z3) []) C (CM_val (v' := nI (w k)) (by rw [hwy z1, if_pos (by omega)]; rfl) (hM4 [])) yv_X5_way ml_L_60 wi_X5_way wl_X5_way 0 rfl rfl rfl rfl (Nat.le_of_ble_eq_true rfl) (Nat.le_of_ble_eq_true rfl) (Nat.le_of_ble_eq_true rfl) ⟨(Nat.le_of_ble_eq_true rfl), (Nat.le_of_ble_eq_true rfl)⟩ rfl rfl dL_law_713 ?_
    refine a_aloadn (pc := 716) C 1 rfl rfl dL_law_716 ?_
    refine a_iload (pc := 717) C 5 rfl dL_law_717 ?_
    refine a_iload (pc := 719) C 6 rfl dL_law_719 ?_
    refine a_iload (pc := 721) C 7 rfl dL_law_721 ?_
    refine a_iconst (pc := 723) (v := nI 1) C ci_1 dL_law_723 ?_
    refine a_iadd (pc := 724) (v := nI (k + 1)) C (nI_add _ _) dL_law_724 ?_
    obtain ⟨z5, hM6⟩ := q_way κ a hS (x := u) (y := v) (i := k + 1) (by omega) (by omega) (by omega) z3
    refine a_callV1 (pc := 725) (k' := 33) (n' := 1379) (w1 := cS κ a (stL S z5) []) C (CM_val (v' := nI (w (k + 1))) (by rw [hwy z3, if_pos (by omega)]; rfl) (hM6 [])) yv_X5_way ml_L_60 wi_X5_way wl_X5_way 0 rfl rfl rfl rfl (Nat.le_of_ble_eq_true rfl) (Nat.le_of_ble_eq_true rfl) (Nat.le_of_ble_eq_true rfl) ⟨(Nat.le_of_ble_eq_true rfl), (Nat.le_of_ble_eq_true rfl)⟩ rfl rfl dL_law_725 ?_
    refine a_callV1 (pc := 728) (k' := 33) (n' := 1379) (w1 := cS κ a (stL S z5) []) C (q_isLinked κ a hS (by omega) (by omega) z5 []) yv_X5_isLinked ml_L_53 wi_X5_isLinked wl_X5_isLinked 0 rfl rfl rfl rfl (Nat.le_of_ble_eq_true rfl) (Nat.le_of_ble_eq_true rfl) (Nat.le_of_ble_eq_true rfl) ⟨(Nat.le_of_ble_eq_true rfl), (Nat.le_of_ble_eq_true rfl)⟩ rfl rfl dL_law_728 ?_
    refine a_ifb_ne_y (pc := 731) (tgt := 736) C (hwl k (by omega)) (by decide) dL_law_731 ?_
    refine a_iinc (pc := 736) (v := nI (k + 1)) (L' := [(0, .ref bs), (1, .ref (a 0)), (2, .int (nI N)), (3, .int (nI lk)), (4, .int (nI sz)), (5, .int (nI u)), (6, .int (nI v)), (9, .int (nI (k + 1)))]) C 7 rfl (nI_inc _) (by decide) rfl dL_law_736 ?_
    refine a_goto (pc := 739) (tgt := 690) C (by decide) dL_law_739 ?_
    exact ih (k + 1) z5 (by omega)
