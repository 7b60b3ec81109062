/-! THE LAW'S WALK, from its end: digging, phases -/
theorem cb_15 : (Int8.ofInt 15).toInt32 = nI 15 := by decide +kernel
theorem cb_37 : (Int8.ofInt 37).toInt32 = nI 37 := by decide +kernel
theorem cb_99 : (Int8.ofInt 99).toInt32 = nI 99 := by decide +kernel
theorem cs_400 : (Int16.ofInt 400).toInt32 = nI 400 := by decide +kernel
theorem cs_500 : (Int16.ofInt 500).toInt32 = nI 500 := by decide +kernel
theorem cs_900 : (Int16.ofInt 900).toInt32 = nI 900 := by decide +kernel
theorem cs_1500 : (Int16.ofInt 1500).toInt32 = nI 1500 := by decide +kernel
theorem p_count (κ : aK) (a : Nat → Nat) {S : SC} (hS : JS S) {q : Nat} (hq : q < 9) (X : va_W) : CM yX5_count cX5_count 2 (some .int) ({ frames := 7, cells := 0, slots := 0, locals := 131 } : Room) κ [.ref (a 0), .int (nI q)] (cS κ a S X) (aD (some (.int (ctS S q))) (cS κ a S X)) := q_count κ a hS hq (S.2.2.2.2.2.2.2.2.2.2.2.2.2.2.2.2.2.2.2.2.2.1) X
theorem p_next (κ : aK) (a : Nat → Nat) {S : SC} (hS : JS S) {y : Nat} (hy : y < 40) (X : va_W) : CM yX5_next cX5_next 2 (some .int) ({ frames := 7, cells := 0, slots := 0, locals := 130 } : Room) κ [.ref (a 0), .int (nI y)] (cS κ a S X) (aD (some (.int (oI (nxS2 S y)))) (cS κ a S X)) := q_next κ a hS hy (S.2.2.2.2.2.2.2.2.2.2.2.2.2.2.2.2.2.2.2.2.2.1) X
theorem p_digest (κ : aK) (a : Nat → Nat) {S : SC} (hS : JS S) (X : va_W) : CM yX5_digest cX5_digest 5 (some .long) ({ frames := 8, cells := 0, slots := 0, locals := 154 } : Room) κ [.ref (a 0)] (cS κ a S X) (aD (some (.long (dgS2 S))) (cS κ a S X)) := q_digest κ a hS (S.2.2.2.2.2.2.2.2.2.2.2.2.2.2.2.2.2.2.2.2.2.1) X
set_option maxHeartbeats 4000000 in
set_option maxRecDepth 100000 in
theorem lw_dig1 {g : aG} {κ : aK} {a : Nat → Nat} {bs L0 : Nat} {xs : Nat → Int32} (C : Cx g κ RL cL_law 10 room_1) (hX : va_X bs L0 xs (g_s g) (g_s g).heap) (hbA : ¬ kA κ bs) (hL : L0 < 2 ^ 31) {N : Nat} {d : Nat} {S : SC} (hS : JS S) (hN : sN S = N) (hc : cnt (sDg S) N = d) (fin : ∀ S : SC, aw g κ 10 1025 [] [.int (nI 1)] (cS κ a S []) 33 1379) (next : d < N → ∀ S' : SC, JS S' → sN S' = N → cnt (sDg S') N = d + 1 → aw g κ 10 953 [(0, .ref bs), (1, .ref (a 0)), (2, .int (nI N)), (6, .int (nI (d + 1)))] [] (cS κ a S' []) 33 1379) : aw g κ 10 953 [(0, .ref bs), (1, .ref (a 0)), (2, .int (nI N)), (6, .int (nI d))] [] (cS κ a S []) 33 1379 := by
  have hn := (jN hS).1
  rw [hN] at hn
  have hd : d ≤ N := by rw [← hc]; exact cnt_le _ N
  cases e : nxS2 S 0 with
  | none =>
    have hd2 : d = N := by
      have h := nx_all hS e
      rw [hN, hc] at h
      exact h
    refine a_aloadn (pc := 953) C 1 rfl rfl dL_law_953 ?_
    refine a_iconst (pc := 954) (v := nI 0) C ci_0 dL_law_954 ?_
    refine a_callV1 (pc := 955) (k' := 33) (n' := 1379) (w1 := cS κ a S []) C (CM_val (v' := (-1 : Int32)) (by rw [e]; rfl) (p_next κ a hS (by decide) [])) yv_X5_next ml_L_71 wi_X5_next wl_X5_next 0 rfl rfl rfl rfl (Nat.le_of_ble_eq_true rfl) (Nat.le_of_ble_eq_true rfl) (Nat.le_of_ble_eq_true rfl) ⟨(Nat.le_of_ble_eq_true rfl), (Nat.le_of_ble_eq_true rfl)⟩ rfl rfl dL_law_955 ?_
    refine a_if_lt_y (pc := 958) (tgt := 1005) C (by decide +kernel) (by decide) dL_law_958 ?_
    refine a_iload (pc := 1005) C 3 rfl dL_law_1005 ?_
    refine a_iloadn (pc := 1007) C 2 rfl rfl dL_law_1007 ?_
    refine a_icn_ne_n (pc := 1008) C (by omega) (by omega) hd2 dL_law_1008 ⟨1024, by decide⟩ ?_
    refine a_aloadn (pc := 1011) C 1 rfl rfl dL_law_1011 ?_
    refine a_iconst (pc := 1012) (v := nI 5) C ci_5 dL_law_1012 ?_
    refine a_callV1 (pc := 1013) (k' := 33) (n' := 1379) (w1 := cS κ a S []) C (CM_val (show ctS S 5 = nI N by rw [ct_5 hS, hN, hc, hd2]) (p_count κ a hS (by decide) [])) yv_X5_count ml_L_26 wi_X5_count wl_X5_count 0 rfl rfl rfl rfl (Nat.le_of_ble_eq_true rfl) (Nat.le_of_ble_eq_true rfl) (Nat.le_of_ble_eq_true rfl) ⟨(Nat.le_of_ble_eq_true rfl), (Nat.le_of_ble_eq_true rfl)⟩ rfl rfl dL_law_1013 ?_
    refine a_iloadn (pc := 1016) C 2 rfl rfl dL_law_1016 ?_
    refine a_icn_ne_n (pc := 1017) C (by omega) (by omega) rfl dL_law_1017 ⟨1024, by decide⟩ ?_
    refine a_iconst (pc := 1020) (v := nI 1) C ci_1 dL_law_1020 ?_
    refine a_goto (pc := 1021) (tgt := 1025) C (by decide) dL_law_1021 ?_
    refine aw_locals (L' := []) [] rfl ?_
    exact fin S
  | some v =>
    obtain ⟨h1, h2⟩ := nx_some e
    have hv : v < N := by rw [← hN]; exact h1
    have und := cd_und h2
    have hlt : d < N := by
      rcases Nat.lt_or_ge d N with q | q
      · exact q
      · exact absurd (cnt_full (p := sDg S) N (by omega) v hv) (by rw [und]; exact Bool.false_ne_true)
    have K : ∀ i t, i < 40 → nxS2 S i = some t → aw g κ 10 992 [(0, .ref bs), (1, .ref (a 0)), (2, .int (nI N)), (6, .int (nI d))] [.int (nI i), .ref (a 0), .ref (a 0)] (cS κ a S []) 33 1379 := by
      intro i t hi et
      obtain ⟨t1, t2⟩ := nx_some et
      have ht : t < N := by rw [← hN]; exact t1
      obtain ⟨S', ⟨hS', e'⟩, hM⟩ := q_dig κ a hS t1 t2
      refine a_callV1 (pc := 992) (k' := 33) (n' := 1379) (w1 := cS κ a S []) C (CM_val (v' := nI t) (by rw [et]; rfl) (p_next κ a hS hi [])) yv_X5_next ml_L_71 wi_X5_next wl_X5_next 0 rfl rfl rfl rfl (Nat.le_of_ble_eq_true rfl) (Nat.le_of_ble_eq_true rfl) (Nat.le_of_ble_eq_true rfl) ⟨(Nat.le_of_ble_eq_true rfl), (Nat.le_of_ble_eq_true rfl)⟩ rfl rfl dL_law_992 ?_
      refine a_callV1 (pc := 995) (k' := 33) (n' := 1379) (w1 := cS κ a S' []) C (hM []) yv_X5_dig ml_L_74 wi_X5_dig wl_X5_dig 0 rfl rfl rfl rfl (Nat.le_of_ble_eq_true rfl) (Nat.le_of_ble_eq_true rfl) (Nat.le_of_ble_eq_true rfl) ⟨(Nat.le_of_ble_eq_true rfl), (Nat.le_of_ble_eq_true rfl)⟩ rfl rfl dL_law_995 ?_
      refine a_pop (pc := 998) C rfl dL_law_998 ?_
      refine a_iinc (pc := 999) (v := nI (d + 1)) (L' := [(0, .ref bs), (1, .ref (a 0)), (2, .int (nI N)), (6, .int (nI (d + 1)))]) C 3 rfl (nI_inc _) (by decide) rfl dL_law_999 ?_
      refine a_goto (pc := 1002) (tgt := 953) C (by decide) dL_law_1002 ?_
      exact next hlt S' hS' (by rw [e']; exact hN) (by rw [e', dg_cnt (cd_und t2) ht, hc])
    refine a_aloadn (pc := 953) C 1 rfl rfl dL_law_953 ?_
    refine a_iconst (pc := 954) (v := nI 0) C ci_0 dL_law_954 ?_
    refine a_callV1 (pc := 955) (k' := 33) (n' := 1379) (w1 := cS κ a S []) C (CM_val (v' := nI v) (by rw [e]; rfl) (p_next κ a hS (by decide) [])) yv_X5_next ml_L_71 wi_X5_next wl_X5_next 0 rfl rfl rfl rfl (Nat.le_of_ble_eq_true rfl) (Nat.le_of_ble_eq_true rfl) (Nat.le_of_ble_eq_true rfl) ⟨(Nat.le_of_ble_eq_true rfl), (Nat.le_of_ble_eq_true rfl)⟩ rfl rfl dL_law_955 ?_
    refine a_if_lt_n (pc := 958) C (nI_pos (by omega)) dL_law_958 ⟨1005, by decide⟩ ?_
    refine a_aloadn (pc := 961) C 1 rfl rfl dL_law_961 ?_
    refine a_aloadn (pc := 962) C 1 rfl rfl dL_law_962 ?_
    refine a_aloadn (pc := 963) C 0 rfl rfl dL_law_963 ?_
    refine a_iload (pc := 964) C 3 rfl dL_law_964 ?_
    refine a_iconst (pc := 966) (v := nI 5) C ci_5 dL_law_966 ?_
    refine a_irem (pc := 967) C (by omega) (by decide) (by decide) dL_law_967 ?_
    refine a_cell (pc := 968) C hX hbA hL (by omega) (Nat.le_of_ble_eq_true rfl) (Nat.le_of_ble_eq_true rfl) (Nat.le_of_ble_eq_true rfl) ⟨(Nat.le_of_ble_eq_true rfl), (Nat.le_of_ble_eq_true rfl)⟩ dL_law_968 (fun x1 => ?_)
    refine a_iconst (pc := 971) (v := nI 2) C ci_2 dL_law_971 ?_
    refine a_below (pc := 972) C (by omega) (by omega) (Nat.le_of_ble_eq_true rfl) (Nat.le_of_ble_eq_true rfl) (Nat.le_of_ble_eq_true rfl) ⟨(Nat.le_of_ble_eq_true rfl), (Nat.le_of_ble_eq_true rfl)⟩ dL_law_972 (fun j2 hj3 => ?_)
    refine a_iconst (pc := 975) (v := nI 1) C ci_1 dL_law_975 ?_
    by_cases c : j2 = 1
    · cases et : nxS2 S 1 with
      | none =>
        refine a_icn_ne_n (pc := 976) C (by omega) (by omega) c dL_law_976 ⟨991, by decide⟩ ?_
        refine a_aloadn (pc := 979) C 1 rfl rfl dL_law_979 ?_
        refine a_iconst (pc := 980) (v := nI 1) C ci_1 dL_law_980 ?_
        refine a_callV1 (pc := 981) (k' := 33) (n' := 1379) (w1 := cS κ a S []) C (CM_val (v' := (-1 : Int32)) (by rw [et]; rfl) (p_next κ a hS (by decide) [])) yv_X5_next ml_L_71 wi_X5_next wl_X5_next 0 rfl rfl rfl rfl (Nat.le_of_ble_eq_true rfl) (Nat.le_of_ble_eq_true rfl) (Nat.le_of_ble_eq_true rfl) ⟨(Nat.le_of_ble_eq_true rfl), (Nat.le_of_ble_eq_true rfl)⟩ rfl rfl dL_law_981 ?_
        refine a_if_lt_y (pc := 984) (tgt := 991) C (by decide +kernel) (by decide) dL_law_984 ?_
        refine a_iconst (pc := 991) (v := nI 0) C ci_0 dL_law_991 ?_
        exact K 0 v (by decide) e
      | some t =>
        have ht : t < N := by rw [← hN]; exact (nx_some et).1
        refine a_icn_ne_n (pc := 976) C (by omega) (by omega) c dL_law_976 ⟨991, by decide⟩ ?_
        refine a_aloadn (pc := 979) C 1 rfl rfl dL_law_979 ?_
        refine a_iconst (pc := 980) (v := nI 1) C ci_1 dL_law_980 ?_
        refine a_callV1 (pc := 981) (k' := 33) (n' := 1379) (w1 := cS κ a S []) C (CM_val (v' := nI t) (by rw [et]; rfl) (p_next κ a hS (by decide) [])) yv_X5_next ml_L_71 wi_X5_next wl_X5_next 0 rfl rfl rfl rfl (Nat.le_of_ble_eq_true rfl) (Nat.le_of_ble_eq_true rfl) (Nat.le_of_ble_eq_true rfl) ⟨(Nat.le_of_ble_eq_true rfl), (Nat.le_of_ble_eq_true rfl)⟩ rfl rfl dL_law_981 ?_
        refine a_if_lt_n (pc := 984) C (nI_pos (by omega)) dL_law_984 ⟨991, by decide⟩ ?_
        refine a_iconst (pc := 987) (v := nI 1) C ci_1 dL_law_987 ?_
        refine a_goto (pc := 988) (tgt := 992) C (by decide) dL_law_988 ?_
        exact K 1 t (by decide) et
    · refine a_icn_ne_y (pc := 976) (tgt := 991) C (by omega) (by omega) c (by decide) dL_law_976 ?_
      refine a_iconst (pc := 991) (v := nI 0) C ci_0 dL_law_991 ?_
      exact K 0 v (by decide) e
set_option maxHeartbeats 4000000 in
set_option maxRecDepth 100000 in
theorem lw_dig {g : aG} {κ : aK} {a : Nat → Nat} {bs L0 : Nat} {xs : Nat → Int32} (C : Cx g κ RL cL_law 10 room_1) (hX : va_X bs L0 xs (g_s g) (g_s g).heap) (hbA : ¬ kA κ bs) (hL : L0 < 2 ^ 31) {N : Nat} (fin : ∀ S : SC, aw g κ 10 1025 [] [.int (nI 1)] (cS κ a S []) 33 1379) : ∀ (jz d : Nat) (S : SC), JS S → sN S = N → cnt (sDg S) N = d → d + jz = N → aw g κ 10 953 [(0, .ref bs), (1, .ref (a 0)), (2, .int (nI N)), (6, .int (nI d))] [] (cS κ a S []) 33 1379 := by
  intro jz
  induction jz with
  | zero =>
    intro d S hS hN hc hd
    exact lw_dig1 C hX hbA hL hS hN hc fin (fun h => absurd h (by omega))
  | succ jz ih =>
    intro d S hS hN hc hd
    exact lw_dig1 C hX hbA hL hS hN hc fin (fun _ S' h1 h2 h3 => ih (d + 1) S' h1 h2 h3 (by omega))
set_option maxHeartbeats 4000000 in
set_option maxRecDepth 100000 in
theorem lw_phase {g : aG} {κ : aK} {a : Nat → Nat} {bs L0 : Nat} {xs : Nat → Int32} (C : Cx g κ RL cL_law 10 room_1) (hX : va_X bs L0 xs (g_s g) (g_s g).heap) (hbA : ¬ kA κ bs) (hL : L0 < 2 ^ 31) {N : Nat} {S : SC} (hS : JS S) (hN : sN S = N) (hdg : ∀ i, sDg S i = false) (fin : ∀ S : SC, aw g κ 10 1025 [] [.int (nI 1)] (cS κ a S []) 33 1379) : aw g κ 10 927 [(0, .ref bs), (1, .ref (a 0)), (2, .int (nI N))] [] (cS κ a S []) 33 1379 := by
  obtain ⟨S1, ⟨hS1, e1⟩, hM1⟩ := q_phaseAll κ a hS
  subst e1
  obtain ⟨S2, ⟨hS2, e2⟩, hM2⟩ := q_phaseAll κ a hS1
  subst e2
  refine a_aloadn (pc := 927) C 1 rfl rfl dL_law_927 ?_
  refine a_callV1 (pc := 928) (k' := 33) (n' := 1379) (w1 := cS κ a (phT S) []) C (hM1 []) yv_X5_phaseAll ml_L_67 wi_X5_phaseAll wl_X5_phaseAll 0 rfl rfl rfl rfl (Nat.le_of_ble_eq_true rfl) (Nat.le_of_ble_eq_true rfl) (Nat.le_of_ble_eq_true rfl) ⟨(Nat.le_of_ble_eq_true rfl), (Nat.le_of_ble_eq_true rfl)⟩ rfl rfl dL_law_928 ?_
  refine a_pop (pc := 931) C rfl dL_law_931 ?_
  refine a_aloadn (pc := 932) C 1 rfl rfl dL_law_932 ?_
  refine a_bipush (pc := 933) (v := nI 8) C cb_8 dL_law_933 ?_
  refine a_callV1 (pc := 935) (k' := 33) (n' := 1379) (w1 := cS κ a (phT S) []) C (CM_val (ct_8 hS) (p_count κ a hS1 (by decide) [])) yv_X5_count ml_L_26 wi_X5_count wl_X5_count 0 rfl rfl rfl rfl (Nat.le_of_ble_eq_true rfl) (Nat.le_of_ble_eq_true rfl) (Nat.le_of_ble_eq_true rfl) ⟨(Nat.le_of_ble_eq_true rfl), (Nat.le_of_ble_eq_true rfl)⟩ rfl rfl dL_law_935 ?_
  refine a_ifn_ne_n (pc := 938) C (by omega) rfl dL_law_938 ⟨948, by decide⟩ ?_
  refine a_aloadn (pc := 941) C 1 rfl rfl dL_law_941 ?_
  refine a_callV1 (pc := 942) (k' := 33) (n' := 1379) (w1 := cS κ a (phT (phT S)) []) C (CM_val (congrArg nI pa_0) (hM2 [])) yv_X5_phaseAll ml_L_67 wi_X5_phaseAll wl_X5_phaseAll 0 rfl rfl rfl rfl (Nat.le_of_ble_eq_true rfl) (Nat.le_of_ble_eq_true rfl) (Nat.le_of_ble_eq_true rfl) ⟨(Nat.le_of_ble_eq_true rfl), (Nat.le_of_ble_eq_true rfl)⟩ rfl rfl dL_law_942 ?_
  refine a_ifn_eq_y (pc := 945) (tgt := 950) C (by omega) rfl (by decide) dL_law_945 ?_
  refine a_iconst (pc := 950) (v := nI 0) C ci_0 dL_law_950 ?_
  refine a_istore (pc := 951) (L' := [(0, .ref bs), (1, .ref (a 0)), (2, .int (nI N)), (6, .int (nI 0))]) C (by decide) rfl dL_law_951 ?_
  exact lw_dig C hX hbA hL fin N 0 (phT (phT S)) hS2 hN (cnt_zero N (fun i _ => hdg i)) (by omega)
