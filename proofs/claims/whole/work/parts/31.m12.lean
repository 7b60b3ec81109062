set_option maxHeartbeats 4000000 in
set_option maxRecDepth 100000 in
theorem c_X6_addUnit_b1 (κ : aK) (b : Nat → Nat) {th : Int32} {un : Nat} {ss : Nat → Int32} {fi : Nat → Int32} {la : Nat → Int32} {da : Nat → Bool} {dg : Nat → Bool} {ps : Nat → Int32} {rn : Nat} {ks : Nat → Int32} {os : Nat → Nat} {ts : Nat → Nat} {fn : Nat} {fp : Nat → Int32} {bo : Nat → Nat} {eE : Nat → Nat → Bool} {lE : Nat → Nat → Bool} {li : Nat → Nat → Bool} {be : Nat → Int32} {ab : Nat → Int32} {X : va_W} {s0 : Int32} (hb : ¬ okU 4 s0) : CM yX6_addUnit cX6_addUnit 2 (some .int) ({ frames := 4, cells := 0, slots := 0, locals := 88 } : Room) κ [.ref (b 0), .int s0] (wM κ b th un ss fi la da dg ps rn ks os ts fn fp bo eE lE li be ab X) (aD (some (.int (nI 0))) (wM κ b (nI 1) un ss fi la da dg ps rn ks os ts fn fp bo eE lE li be ab X)) := by
  refine cm_entry (own := RX6) (L := [(0, .ref (b 0)), (1, .int s0)]) (by decide +kernel) rfl (lv_entry [.ref (b 0), .int s0] (n := 2) (Nat.le_of_ble_eq_true rfl)) (fun g C E => ?_)
  refine a_aloadn (pc := 0) C 0 rfl rfl dX6_addUnit_0 ?_
  refine a_iconst (pc := 1) (v := nI 0) C ci_0 dX6_addUnit_1 ?_
  refine a_put (pc := 2) (ws' := wM κ b (nI 0) un ss fi la da dg ps rn ks os ts fn fp bo eE lE li be ab X) C fl_X6_60 fp_X6_0 0 rfl rfl rfl (Nat.le_of_ble_eq_true rfl) rfl dX6_addUnit_2 ?_
  refine a_iloadn (pc := 5) C 1 rfl rfl dX6_addUnit_5 ?_
  refine a_iconst (pc := 6) (v := nI 0) C ci_0 dX6_addUnit_6 ?_
  refine a_iconst (pc := 7) (v := nI 3) C ci_3 dX6_addUnit_7 ?_
  refine a_callS1 (pc := 8) (k' := 0) (n' := 0) C (c_X6_isIn κ) yv_X6_isIn ml_X6_67 ws_X6_isIn rfl rfl (Nat.le_of_ble_eq_true rfl) (Nat.le_of_ble_eq_true rfl) (Nat.le_of_ble_eq_true rfl) ⟨(Nat.le_of_ble_eq_true rfl), (Nat.le_of_ble_eq_true rfl)⟩ rfl rfl dX6_addUnit_8 ?_
  refine a_ifb_ne_n (pc := 11) C (okU_cf (by omega) hb) dX6_addUnit_11 ⟨20, by decide⟩ ?_
  refine a_aloadn (pc := 14) C 0 rfl rfl dX6_addUnit_14 ?_
  refine a_iconst (pc := 15) (v := nI 1) C ci_1 dX6_addUnit_15 ?_
  refine a_callV1 (pc := 16) (k' := 0) (n' := 0) C (c_X6_no κ b) yv_X6_no ml_X6_100 wi_X6_no wl_X6_no 0 rfl rfl rfl rfl (Nat.le_of_ble_eq_true rfl) (Nat.le_of_ble_eq_true rfl) (Nat.le_of_ble_eq_true rfl) ⟨(Nat.le_of_ble_eq_true rfl), (Nat.le_of_ble_eq_true rfl)⟩ rfl rfl dX6_addUnit_16 ?_
  exact a_iret (pc := 19) C E (Nat.le_of_ble_eq_true rfl) (Nat.le_of_ble_eq_true rfl) ⟨rfl, rfl⟩ dX6_addUnit_19

set_option maxHeartbeats 4000000 in
set_option maxRecDepth 100000 in
theorem c_X6_addUnit_b2 (κ : aK) (b : Nat → Nat) {th : Int32} {un : Nat} {ss : Nat → Int32} {fi : Nat → Int32} {la : Nat → Int32} {da : Nat → Bool} {dg : Nat → Bool} {ps : Nat → Int32} {rn : Nat} {ks : Nat → Int32} {os : Nat → Nat} {ts : Nat → Nat} {fn : Nat} {fp : Nat → Int32} {bo : Nat → Nat} {eE : Nat → Nat → Bool} {lE : Nat → Nat → Bool} {li : Nat → Nat → Bool} {be : Nat → Int32} {ab : Nat → Int32} {X : va_W} {s0 : Int32} (hs : okU 4 s0) (hb : un = 40) : CM yX6_addUnit cX6_addUnit 2 (some .int) ({ frames := 4, cells := 0, slots := 0, locals := 88 } : Room) κ [.ref (b 0), .int s0] (wM κ b th un ss fi la da dg ps rn ks os ts fn fp bo eE lE li be ab X) (aD (some (.int (nI 0))) (wM κ b (nI 2) un ss fi la da dg ps rn ks os ts fn fp bo eE lE li be ab X)) := by
  refine cm_entry (own := RX6) (L := [(0, .ref (b 0)), (1, .int s0)]) (by decide +kernel) rfl (lv_entry [.ref (b 0), .int s0] (n := 2) (Nat.le_of_ble_eq_true rfl)) (fun g C E => ?_)
  refine a_aloadn (pc := 0) C 0 rfl rfl dX6_addUnit_0 ?_
  refine a_iconst (pc := 1) (v := nI 0) C ci_0 dX6_addUnit_1 ?_
  refine a_put (pc := 2) (ws' := wM κ b (nI 0) un ss fi la da dg ps rn ks os ts fn fp bo eE lE li be ab X) C fl_X6_60 fp_X6_0 0 rfl rfl rfl (Nat.le_of_ble_eq_true rfl) rfl dX6_addUnit_2 ?_
  refine a_iloadn (pc := 5) C 1 rfl rfl dX6_addUnit_5 ?_
  refine a_iconst (pc := 6) (v := nI 0) C ci_0 dX6_addUnit_6 ?_
  refine a_iconst (pc := 7) (v := nI 3) C ci_3 dX6_addUnit_7 ?_
  refine a_callS1 (pc := 8) (k' := 0) (n' := 0) C (c_X6_isIn κ) yv_X6_isIn ml_X6_67 ws_X6_isIn rfl rfl (Nat.le_of_ble_eq_true rfl) (Nat.le_of_ble_eq_true rfl) (Nat.le_of_ble_eq_true rfl) ⟨(Nat.le_of_ble_eq_true rfl), (Nat.le_of_ble_eq_true rfl)⟩ rfl rfl dX6_addUnit_8 ?_
  refine a_ifb_ne_y (pc := 11) (tgt := 20) C ((okU_c (by omega)).mpr hs) (by decide) dX6_addUnit_11 ?_
  refine a_aloadn (pc := 20) C 0 rfl rfl dX6_addUnit_20 ?_
  refine a_get (pc := 21) C fl_X6_64 0 rfl rfl dX6_addUnit_21 ?_
  refine a_bipush (pc := 24) (v := nI 40) C cb_40 dX6_addUnit_24 ?_
  refine a_icn_ne_n (pc := 26) C (by omega) (by omega) (by omega) dX6_addUnit_26 ⟨35, by decide⟩ ?_
  refine a_aloadn (pc := 29) C 0 rfl rfl dX6_addUnit_29 ?_
  refine a_iconst (pc := 30) (v := nI 2) C ci_2 dX6_addUnit_30 ?_
  refine a_callV1 (pc := 31) (k' := 0) (n' := 0) C (c_X6_no κ b) yv_X6_no ml_X6_100 wi_X6_no wl_X6_no 0 rfl rfl rfl rfl (Nat.le_of_ble_eq_true rfl) (Nat.le_of_ble_eq_true rfl) (Nat.le_of_ble_eq_true rfl) ⟨(Nat.le_of_ble_eq_true rfl), (Nat.le_of_ble_eq_true rfl)⟩ rfl rfl dX6_addUnit_31 ?_
  exact a_iret (pc := 34) C E (Nat.le_of_ble_eq_true rfl) (Nat.le_of_ble_eq_true rfl) ⟨rfl, rfl⟩ dX6_addUnit_34

set_option maxHeartbeats 4000000 in
set_option maxRecDepth 100000 in
theorem c_X6_addUnit (κ : aK) (b : Nat → Nat) {th : Int32} {un : Nat} {ss : Nat → Int32} {fi : Nat → Int32} {la : Nat → Int32} {da : Nat → Bool} {dg : Nat → Bool} {ps : Nat → Int32} {rn : Nat} {ks : Nat → Int32} {os : Nat → Nat} {ts : Nat → Nat} {fn : Nat} {fp : Nat → Int32} {bo : Nat → Nat} {eE : Nat → Nat → Bool} {lE : Nat → Nat → Bool} {li : Nat → Nat → Bool} {be : Nat → Int32} {ab : Nat → Int32} {X : va_W} {s0 : Int32} (hs : okU 4 s0) (hn : un < 40) (hrn : rn ≤ 80) (hbo : ∀ u, bo u < 40) (hos : ∀ u, os u < 40) (hts : ∀ u, ts u < 40) : CM yX6_addUnit cX6_addUnit 2 (some .int) ({ frames := 4, cells := 0, slots := 0, locals := 88 } : Room) κ [.ref (b 0), .int s0] (wM κ b th un ss fi la da dg ps rn ks os ts fn fp bo eE lE li be ab X) (aD (some (.int (nI un))) (wM κ b (nI 0) (un + 1) (va_up ss un s0) fi la da dg ps rn ks os ts fn fp (sJ ks os ts bo (un + 1) rn) (sE ks os ts bo (un + 1) rn eE) (sLt (sE ks os ts bo (un + 1) rn eE) (un + 1) lE) (sLi (sE ks os ts bo (un + 1) rn eE) (un + 1) li) (sRk (sE ks os ts bo (un + 1) rn eE) (un + 1) be) (sRk (sLt (sE ks os ts bo (un + 1) rn eE) (un + 1) lE) (un + 1) ab) X)) := by
  refine cm_entry (own := RX6) (L := [(0, .ref (b 0)), (1, .int s0)]) (by decide +kernel) rfl (lv_entry [.ref (b 0), .int s0] (n := 2) (Nat.le_of_ble_eq_true rfl)) (fun g C E => ?_)
  refine a_aloadn (pc := 0) C 0 rfl rfl dX6_addUnit_0 ?_
  refine a_iconst (pc := 1) (v := nI 0) C ci_0 dX6_addUnit_1 ?_
  refine a_put (pc := 2) (ws' := wM κ b (nI 0) un ss fi la da dg ps rn ks os ts fn fp bo eE lE li be ab X) C fl_X6_60 fp_X6_0 0 rfl rfl rfl (Nat.le_of_ble_eq_true rfl) rfl dX6_addUnit_2 ?_
  refine a_iloadn (pc := 5) C 1 rfl rfl dX6_addUnit_5 ?_
  refine a_iconst (pc := 6) (v := nI 0) C ci_0 dX6_addUnit_6 ?_
  refine a_iconst (pc := 7) (v := nI 3) C ci_3 dX6_addUnit_7 ?_
  refine a_callS1 (pc := 8) (k' := 0) (n' := 0) C (c_X6_isIn κ) yv_X6_isIn ml_X6_67 ws_X6_isIn rfl rfl (Nat.le_of_ble_eq_true rfl) (Nat.le_of_ble_eq_true rfl) (Nat.le_of_ble_eq_true rfl) ⟨(Nat.le_of_ble_eq_true rfl), (Nat.le_of_ble_eq_true rfl)⟩ rfl rfl dX6_addUnit_8 ?_
  refine a_ifb_ne_y (pc := 11) (tgt := 20) C ((okU_c (by omega)).mpr hs) (by decide) dX6_addUnit_11 ?_
  refine a_aloadn (pc := 20) C 0 rfl rfl dX6_addUnit_20 ?_
  refine a_get (pc := 21) C fl_X6_64 0 rfl rfl dX6_addUnit_21 ?_
  refine a_bipush (pc := 24) (v := nI 40) C cb_40 dX6_addUnit_24 ?_
  refine a_icn_ne_y (pc := 26) (tgt := 35) C (by omega) (by omega) (by omega) (by decide) dX6_addUnit_26 ?_
  refine a_aloadn (pc := 35) C 0 rfl rfl dX6_addUnit_35 ?_
  refine a_get (pc := 36) C fl_X6_9 0 rfl rfl dX6_addUnit_36 ?_
  refine a_aloadn (pc := 39) C 0 rfl rfl dX6_addUnit_39 ?_
  refine a_get (pc := 40) C fl_X6_64 0 rfl rfl dX6_addUnit_40 ?_
  refine a_iloadn (pc := 43) C 1 rfl rfl dX6_addUnit_43 ?_
  refine a_iast (pc := 44) (ws' := wM κ b (nI 0) un (va_up ss un s0) fi la da dg ps rn ks os ts fn fp bo eE lE li be ab X) C 1 rfl (by omega) (by decide) rfl rfl dX6_addUnit_44 ?_
  refine a_aloadn (pc := 45) C 0 rfl rfl dX6_addUnit_45 ?_
  refine a_dup (pc := 46) C rfl dX6_addUnit_46 ?_
  refine a_get (pc := 47) C fl_X6_64 0 rfl rfl dX6_addUnit_47 ?_
  refine a_iconst (pc := 50) (v := nI 1) C ci_1 dX6_addUnit_50 ?_
  refine a_iadd (pc := 51) (v := nI (un + 1)) C (nI_add _ _) dX6_addUnit_51 ?_
  refine a_put (pc := 52) (ws' := wM κ b (nI 0) (un + 1) (va_up ss un s0) fi la da dg ps rn ks os ts fn fp bo eE lE li be ab X) C fl_X6_64 fp_X6_1 0 rfl rfl rfl (Nat.le_of_ble_eq_true rfl) rfl dX6_addUnit_52 ?_
  refine a_aloadn (pc := 55) C 0 rfl rfl dX6_addUnit_55 ?_
  refine a_callV0 (pc := 56) (k' := 0) (n' := 0) C (c_X6_settle κ b (by omega) hrn hbo hos hts) yv_X6_settle ml_X6_104 wi_X6_settle wl_X6_settle 0 rfl rfl rfl rfl (Nat.le_of_ble_eq_true rfl) (Nat.le_of_ble_eq_true rfl) (Nat.le_of_ble_eq_true rfl) ⟨(Nat.le_of_ble_eq_true rfl), (Nat.le_of_ble_eq_true rfl)⟩ rfl rfl dX6_addUnit_56 ?_
  refine a_aloadn (pc := 59) C 0 rfl rfl dX6_addUnit_59 ?_
  refine a_get (pc := 60) C fl_X6_64 0 rfl rfl dX6_addUnit_60 ?_
  refine a_iconst (pc := 63) (v := nI 1) C ci_1 dX6_addUnit_63 ?_
  refine a_isub (pc := 64) (v := nI un) C (nI_subc _ _) dX6_addUnit_64 ?_
  exact a_iret (pc := 65) C E (Nat.le_of_ble_eq_true rfl) (Nat.le_of_ble_eq_true rfl) ⟨rfl, rfl⟩ dX6_addUnit_65

set_option maxHeartbeats 4000000 in
set_option maxRecDepth 100000 in
theorem c_X6_areSorts (κ : aK) (b : Nat → Nat) {th : Int32} {un : Nat} {ss : Nat → Int32} {fi : Nat → Int32} {la : Nat → Int32} {da : Nat → Bool} {dg : Nat → Bool} {ps : Nat → Int32} {rn : Nat} {ks : Nat → Int32} {os : Nat → Nat} {ts : Nat → Nat} {fn : Nat} {fp : Nat → Int32} {bo : Nat → Nat} {eE : Nat → Nat → Bool} {lE : Nat → Nat → Bool} {li : Nat → Nat → Bool} {be : Nat → Int32} {ab : Nat → Int32} {X : va_W} {kd : Int32} {x : Nat} {y : Nat} (hk : okU 5 kd) (hx : x < 40) (hy : y < 40) : CM yX6_areSorts cX6_areSorts 4 (some .boolean) ({ frames := 0, cells := 0, slots := 0, locals := 0 } : Room) κ [.ref (b 0), .int kd, .int (nI x), .int (nI y)] (wM κ b th un ss fi la da dg ps rn ks os ts fn fp bo eE lE li be ab X) (aD (some (.int (b2i (sfB kd (ss x) (ss y))))) (wM κ b th un ss fi la da dg ps rn ks os ts fn fp bo eE lE li be ab X)) := by
  refine cm_entry (own := RX6) (L := [(0, .ref (b 0)), (1, .int kd), (2, .int (nI x)), (3, .int (nI y))]) (by decide +kernel) rfl (lv_entry [.ref (b 0), .int kd, .int (nI x), .int (nI y)] (n := 4) (Nat.le_of_ble_eq_true rfl)) (fun g C E => ?_)
  obtain ⟨kq, hkq, rfl⟩ := hk
  rcases (show kq = 0 ∨ kq = 1 ∨ kq = 2 ∨ kq = 3 ∨ kq = 4 by omega) with rfl | rfl | rfl | rfl | rfl
  · refine a_iloadn (pc := 0) C 1 rfl rfl dX6_areSorts_0 ?_
    refine a_ifn_ne_n (pc := 1) C (by omega) rfl dX6_areSorts_1 ⟨6, by decide⟩ ?_
    refine a_iconst (pc := 4) (v := nI 1) C ci_1 dX6_areSorts_4 ?_
    have hv : sfB (nI 0) (ss x) (ss y) = true := by unfold sfB; rw [if_neg (by decide +kernel)]; rw [if_neg (by decide +kernel)]; rw [if_neg (by decide +kernel)]; rw [if_neg (by decide +kernel)]
    rw [hv] at E
    exact a_zret (pc := 5) (b := true) C E (Nat.le_of_ble_eq_true rfl) (Nat.le_of_ble_eq_true rfl) (by decide +kernel) ⟨rfl, rfl⟩ dX6_areSorts_5
  · refine a_iloadn (pc := 0) C 1 rfl rfl dX6_areSorts_0 ?_
    refine a_ifn_ne_y (pc := 1) (tgt := 6) C (by omega) (by decide) (by decide) dX6_areSorts_1 ?_
    refine a_iloadn (pc := 6) C 1 rfl rfl dX6_areSorts_6 ?_
    refine a_iconst (pc := 7) (v := nI 1) C ci_1 dX6_areSorts_7 ?_
    refine a_icn_ne_n (pc := 8) C (by omega) (by omega) rfl dX6_areSorts_8 ⟨27, by decide⟩ ?_
    refine a_aloadn (pc := 11) C 0 rfl rfl dX6_areSorts_11 ?_
    refine a_get (pc := 12) C fl_X6_9 0 rfl rfl dX6_areSorts_12 ?_
    refine a_iloadn (pc := 15) C 2 rfl rfl dX6_areSorts_15 ?_
    refine a_iald (pc := 16) C 1 rfl (by omega) (by decide) dX6_areSorts_16 ?_
    refine a_iconst (pc := 17) (v := nI 1) C ci_1 dX6_areSorts_17 ?_
    refine a_ic_ne (pc := 18) (tgt := 25) C (by decide) dX6_areSorts_18 (fun c1 => ?_) (fun c1 => ?_)
    · refine a_iconst (pc := 25) (v := nI 0) C ci_0 dX6_areSorts_25 ?_
      have hv : sfB (nI 1) (ss x) (ss y) = false := by unfold sfB; rw [if_pos rfl]; simp only [decide_eq_false c1, Bool.and_false, Bool.false_and, Bool.and_true, Bool.true_and, Bool.and_self]
      rw [hv] at E
      exact a_zret (pc := 26) (b := false) C E (Nat.le_of_ble_eq_true rfl) (Nat.le_of_ble_eq_true rfl) (by decide +kernel) ⟨rfl, rfl⟩ dX6_areSorts_26
    · refine a_iconst (pc := 21) (v := nI 1) C ci_1 dX6_areSorts_21 ?_
      refine a_goto (pc := 22) (tgt := 26) C (by decide) dX6_areSorts_22 ?_
      have hv : sfB (nI 1) (ss x) (ss y) = true := by unfold sfB; rw [if_pos rfl]; simp only [decide_eq_true c1, Bool.and_false, Bool.false_and, Bool.and_true, Bool.true_and, Bool.and_self]
      rw [hv] at E
      exact a_zret (pc := 26) (b := true) C E (Nat.le_of_ble_eq_true rfl) (Nat.le_of_ble_eq_true rfl) (by decide +kernel) ⟨rfl, rfl⟩ dX6_areSorts_26
  · refine a_iloadn (pc := 0) C 1 rfl rfl dX6_areSorts_0 ?_
    refine a_ifn_ne_y (pc := 1) (tgt := 6) C (by omega) (by decide) (by decide) dX6_areSorts_1 ?_
    refine a_iloadn (pc := 6) C 1 rfl rfl dX6_areSorts_6 ?_
    refine a_iconst (pc := 7) (v := nI 1) C ci_1 dX6_areSorts_7 ?_
    refine a_icn_ne_y (pc := 8) (tgt := 27) C (by omega) (by omega) (by decide) (by decide) dX6_areSorts_8 ?_
    refine a_iloadn (pc := 27) C 1 rfl rfl dX6_areSorts_27 ?_
    refine a_iconst (pc := 28) (v := nI 2) C ci_2 dX6_areSorts_28 ?_
    refine a_icn_ne_n (pc := 29) C (by omega) (by omega) rfl dX6_areSorts_29 ⟨58, by decide⟩ ?_
    refine a_aloadn (pc := 32) C 0 rfl rfl dX6_areSorts_32 ?_
    refine a_get (pc := 33) C fl_X6_9 0 rfl rfl dX6_areSorts_33 ?_
    refine a_iloadn (pc := 36) C 2 rfl rfl dX6_areSorts_36 ?_
    refine a_iald (pc := 37) C 1 rfl (by omega) (by decide) dX6_areSorts_37 ?_
    refine a_iconst (pc := 38) (v := nI 2) C ci_2 dX6_areSorts_38 ?_
    refine a_ic_ne (pc := 39) (tgt := 56) C (by decide) dX6_areSorts_39 (fun c2 => ?_) (fun c2 => ?_)
    · refine a_iconst (pc := 56) (v := nI 0) C ci_0 dX6_areSorts_56 ?_
      have hv : sfB (nI 2) (ss x) (ss y) = false := by unfold sfB; rw [if_neg (by decide +kernel)]; rw [if_pos rfl]; simp only [decide_eq_false c2, Bool.and_false, Bool.false_and, Bool.and_true, Bool.true_and, Bool.and_self]
      rw [hv] at E
      exact a_zret (pc := 57) (b := false) C E (Nat.le_of_ble_eq_true rfl) (Nat.le_of_ble_eq_true rfl) (by decide +kernel) ⟨rfl, rfl⟩ dX6_areSorts_57
    · refine a_aloadn (pc := 42) C 0 rfl rfl dX6_areSorts_42 ?_
      refine a_get (pc := 43) C fl_X6_9 0 rfl rfl dX6_areSorts_43 ?_
      refine a_iloadn (pc := 46) C 3 rfl rfl dX6_areSorts_46 ?_
      refine a_iald (pc := 47) C 1 rfl (by omega) (by decide) dX6_areSorts_47 ?_
      refine a_iconst (pc := 48) (v := nI 1) C ci_1 dX6_areSorts_48 ?_
      refine a_ic_ne (pc := 49) (tgt := 56) C (by decide) dX6_areSorts_49 (fun c3 => ?_) (fun c3 => ?_)
      · refine a_iconst (pc := 56) (v := nI 0) C ci_0 dX6_areSorts_56 ?_
        have hv : sfB (nI 2) (ss x) (ss y) = false := by unfold sfB; rw [if_neg (by decide +kernel)]; rw [if_pos rfl]; simp only [decide_eq_true c2, decide_eq_false c3, Bool.and_false, Bool.false_and, Bool.and_true, Bool.true_and, Bool.and_self]
        rw [hv] at E
        exact a_zret (pc := 57) (b := false) C E (Nat.le_of_ble_eq_true rfl) (Nat.le_of_ble_eq_true rfl) (by decide +kernel) ⟨rfl, rfl⟩ dX6_areSorts_57
      · refine a_iconst (pc := 52) (v := nI 1) C ci_1 dX6_areSorts_52 ?_
        refine a_goto (pc := 53) (tgt := 57) C (by decide) dX6_areSorts_53 ?_
        have hv : sfB (nI 2) (ss x) (ss y) = true := by unfold sfB; rw [if_neg (by decide +kernel)]; rw [if_pos rfl]; simp only [decide_eq_true c2, decide_eq_true c3, Bool.and_false, Bool.false_and, Bool.and_true, Bool.true_and, Bool.and_self]
        rw [hv] at E
        exact a_zret (pc := 57) (b := true) C E (Nat.le_of_ble_eq_true rfl) (Nat.le_of_ble_eq_true rfl) (by decide +kernel) ⟨rfl, rfl⟩ dX6_areSorts_57
  · refine a_iloadn (pc := 0) C 1 rfl rfl dX6_areSorts_0 ?_
    refine a_ifn_ne_y (pc := 1) (tgt := 6) C (by omega) (by decide) (by decide) dX6_areSorts_1 ?_
    refine a_iloadn (pc := 6) C 1 rfl rfl dX6_areSorts_6 ?_
    refine a_iconst (pc := 7) (v := nI 1) C ci_1 dX6_areSorts_7 ?_
    refine a_icn_ne_y (pc := 8) (tgt := 27) C (by omega) (by omega) (by decide) (by decide) dX6_areSorts_8 ?_
    refine a_iloadn (pc := 27) C 1 rfl rfl dX6_areSorts_27 ?_
    refine a_iconst (pc := 28) (v := nI 2) C ci_2 dX6_areSorts_28 ?_
    refine a_icn_ne_y (pc := 29) (tgt := 58) C (by omega) (by omega) (by decide) (by decide) dX6_areSorts_29 ?_
    refine a_iloadn (pc := 58) C 1 rfl rfl dX6_areSorts_58 ?_
    refine a_iconst (pc := 59) (v := nI 4) C ci_4 dX6_areSorts_59 ?_
    refine a_icn_ne_y (pc := 60) (tgt := 86) C (by omega) (by omega) (by decide) (by decide) dX6_areSorts_60 ?_
    refine a_aloadn (pc := 86) C 0 rfl rfl dX6_areSorts_86 ?_
    refine a_get (pc := 87) C fl_X6_9 0 rfl rfl dX6_areSorts_87 ?_
    refine a_iloadn (pc := 90) C 2 rfl rfl dX6_areSorts_90 ?_
    refine a_iald (pc := 91) C 1 rfl (by omega) (by decide) dX6_areSorts_91 ?_
    refine a_iconst (pc := 92) (v := nI 3) C ci_3 dX6_areSorts_92 ?_
    refine a_ic_ne (pc := 93) (tgt := 100) C (by decide) dX6_areSorts_93 (fun c4 => ?_) (fun c4 => ?_)
    · refine a_iconst (pc := 100) (v := nI 0) C ci_0 dX6_areSorts_100 ?_
      have hv : sfB (nI 3) (ss x) (ss y) = false := by unfold sfB; rw [if_neg (by decide +kernel)]; rw [if_neg (by decide +kernel)]; rw [if_pos rfl]; simp only [decide_eq_false c4, Bool.and_false, Bool.false_and, Bool.and_true, Bool.true_and, Bool.and_self]
      rw [hv] at E
      exact a_zret (pc := 101) (b := false) C E (Nat.le_of_ble_eq_true rfl) (Nat.le_of_ble_eq_true rfl) (by decide +kernel) ⟨rfl, rfl⟩ dX6_areSorts_101
    · refine a_iconst (pc := 96) (v := nI 1) C ci_1 dX6_areSorts_96 ?_
      refine a_goto (pc := 97) (tgt := 101) C (by decide) dX6_areSorts_97 ?_
      have hv : sfB (nI 3) (ss x) (ss y) = true := by unfold sfB; rw [if_neg (by decide +kernel)]; rw [if_neg (by decide +kernel)]; rw [if_pos rfl]; simp only [decide_eq_true c4, Bool.and_false, Bool.false_and, Bool.and_true, Bool.true_and, Bool.and_self]
      rw [hv] at E
      exact a_zret (pc := 101) (b := true) C E (Nat.le_of_ble_eq_true rfl) (Nat.le_of_ble_eq_true rfl) (by decide +kernel) ⟨rfl, rfl⟩ dX6_areSorts_101
  · refine a_iloadn (pc := 0) C 1 rfl rfl dX6_areSorts_0 ?_
    refine a_ifn_ne_y (pc := 1) (tgt := 6) C (by omega) (by decide) (by decide) dX6_areSorts_1 ?_
    refine a_iloadn (pc := 6) C 1 rfl rfl dX6_areSorts_6 ?_
    refine a_iconst (pc := 7) (v := nI 1) C ci_1 dX6_areSorts_7 ?_
    refine a_icn_ne_y (pc := 8) (tgt := 27) C (by omega) (by omega) (by decide) (by decide) dX6_areSorts_8 ?_
    refine a_iloadn (pc := 27) C 1 rfl rfl dX6_areSorts_27 ?_
    refine a_iconst (pc := 28) (v := nI 2) C ci_2 dX6_areSorts_28 ?_
    refine a_icn_ne_y (pc := 29) (tgt := 58) C (by omega) (by omega) (by decide) (by decide) dX6_areSorts_29 ?_
    refine a_iloadn (pc := 58) C 1 rfl rfl dX6_areSorts_58 ?_
    refine a_iconst (pc := 59) (v := nI 4) C ci_4 dX6_areSorts_59 ?_
    refine a_icn_ne_n (pc := 60) C (by omega) (by omega) rfl dX6_areSorts_60 ⟨86, by decide⟩ ?_
    refine a_aloadn (pc := 63) C 0 rfl rfl dX6_areSorts_63 ?_
    refine a_get (pc := 64) C fl_X6_9 0 rfl rfl dX6_areSorts_64 ?_
    refine a_iloadn (pc := 67) C 2 rfl rfl dX6_areSorts_67 ?_
    refine a_iald (pc := 68) C 1 rfl (by omega) (by decide) dX6_areSorts_68 ?_
    refine a_aloadn (pc := 69) C 0 rfl rfl dX6_areSorts_69 ?_
    refine a_get (pc := 70) C fl_X6_9 0 rfl rfl dX6_areSorts_70 ?_
    refine a_iloadn (pc := 73) C 3 rfl rfl dX6_areSorts_73 ?_
    refine a_iald (pc := 74) C 1 rfl (by omega) (by decide) dX6_areSorts_74 ?_
    refine a_ic_ne (pc := 75) (tgt := 82) C (by decide) dX6_areSorts_75 (fun c5 => ?_) (fun c5 => ?_)
    · refine a_iconst (pc := 82) (v := nI 0) C ci_0 dX6_areSorts_82 ?_
      refine a_goto (pc := 83) (tgt := 101) C (by decide) dX6_areSorts_83 ?_
      have hv : sfB (nI 4) (ss x) (ss y) = false := by unfold sfB; rw [if_neg (by decide +kernel)]; rw [if_neg (by decide +kernel)]; rw [if_neg (by decide +kernel)]; rw [if_pos rfl]; simp only [decide_eq_false c5, Bool.and_false, Bool.false_and, Bool.and_true, Bool.true_and, Bool.and_self]
      rw [hv] at E
      exact a_zret (pc := 101) (b := false) C E (Nat.le_of_ble_eq_true rfl) (Nat.le_of_ble_eq_true rfl) (by decide +kernel) ⟨rfl, rfl⟩ dX6_areSorts_101
    · refine a_iconst (pc := 78) (v := nI 1) C ci_1 dX6_areSorts_78 ?_
      refine a_goto (pc := 79) (tgt := 101) C (by decide) dX6_areSorts_79 ?_
      have hv : sfB (nI 4) (ss x) (ss y) = true := by unfold sfB; rw [if_neg (by decide +kernel)]; rw [if_neg (by decide +kernel)]; rw [if_neg (by decide +kernel)]; rw [if_pos rfl]; simp only [decide_eq_true c5, Bool.and_false, Bool.false_and, Bool.and_true, Bool.true_and, Bool.and_self]
      rw [hv] at E
      exact a_zret (pc := 101) (b := true) C E (Nat.le_of_ble_eq_true rfl) (Nat.le_of_ble_eq_true rfl) (by decide +kernel) ⟨rfl, rfl⟩ dX6_areSorts_101

set_option maxHeartbeats 4000000 in
set_option maxRecDepth 100000 in
theorem c_X6_isTold (κ : aK) (b : Nat → Nat) {th : Int32} {un : Nat} {ss : Nat → Int32} {fi : Nat → Int32} {la : Nat → Int32} {da : Nat → Bool} {dg : Nat → Bool} {ps : Nat → Int32} {rn : Nat} {ks : Nat → Int32} {os : Nat → Nat} {ts : Nat → Nat} {fn : Nat} {fp : Nat → Int32} {bo : Nat → Nat} {eE : Nat → Nat → Bool} {lE : Nat → Nat → Bool} {li : Nat → Nat → Bool} {be : Nat → Int32} {ab : Nat → Int32} {X : va_W} {kd : Int32} {x : Nat} {y : Nat} (hrn : rn ≤ 80) (hos : ∀ u, os u < 40) (hts : ∀ u, ts u < 40) (hx : x < 40) (hy : y < 40) : CM yX6_isTold cX6_isTold 5 (some .boolean) ({ frames := 0, cells := 0, slots := 0, locals := 0 } : Room) κ [.ref (b 0), .int kd, .int (nI x), .int (nI y)] (wM κ b th un ss fi la da dg ps rn ks os ts fn fp bo eE lE li be ab X) (aD (some (.int (b2i (anyB (toldP ks os ts kd x y) rn)))) (wM κ b th un ss fi la da dg ps rn ks os ts fn fp bo eE lE li be ab X)) := by
  refine cm_entry (own := RX6) (L := [(0, .ref (b 0)), (1, .int kd), (2, .int (nI x)), (3, .int (nI y))]) (by decide +kernel) rfl (lv_entry [.ref (b 0), .int kd, .int (nI x), .int (nI y)] (n := 5) (Nat.le_of_ble_eq_true rfl)) (fun g C E => ?_)
  refine a_iconst (pc := 0) (v := nI 0) C ci_0 dX6_isTold_0 ?_
  refine a_istore (pc := 1) (L' := [(0, .ref (b 0)), (1, .int kd), (2, .int (nI x)), (3, .int (nI y)), (4, .int (nI 0))]) C (by decide) rfl dX6_isTold_1 ?_
  have LP3 : ∀ (jz k : Nat), k + jz = rn → (anyB (toldP ks os ts kd x y) k = false) → aw g κ 5 3 [(0, .ref (b 0)), (1, .int kd), (2, .int (nI x)), (3, .int (nI y)), (4, .int (nI k))] [] (wM κ b th un ss fi la da dg ps rn ks os ts fn fp bo eE lE li be ab X) 0 0 := by
    intro jz
    induction jz with
    | zero =>
      intro k hk_k hno
      obtain rfl : rn = k := by omega
      refine a_iload (pc := 3) C 4 rfl dX6_isTold_3 ?_
      refine a_aloadn (pc := 5) C 0 rfl rfl dX6_isTold_5 ?_
      refine a_get (pc := 6) C fl_X6_71 0 rfl rfl dX6_isTold_6 ?_
      refine a_icn_ge_y (pc := 9) (tgt := 83) C (by omega) (by omega) (by omega) (by decide) dX6_isTold_9 ?_
      refine a_iconst (pc := 83) (v := nI 0) C ci_0 dX6_isTold_83 ?_
      exact a_zret (pc := 84) (b := false) C E (Nat.le_of_ble_eq_true rfl) (Nat.le_of_ble_eq_true rfl) (by decide +kernel) ⟨by rw [hno], rfl⟩ dX6_isTold_84
    | succ jz ih =>
      intro k hk_k hno
      have hlt_k : k < rn := by omega
      have hlk := hos k
      have hek := hts k
      refine a_iload (pc := 3) C 4 rfl dX6_isTold_3 ?_
      refine a_aloadn (pc := 5) C 0 rfl rfl dX6_isTold_5 ?_
      refine a_get (pc := 6) C fl_X6_71 0 rfl rfl dX6_isTold_6 ?_
      refine a_icn_ge_n (pc := 9) C (by omega) (by omega) (by omega) dX6_isTold_9 ⟨83, by decide⟩ ?_
      refine a_aloadn (pc := 12) C 0 rfl rfl dX6_isTold_12 ?_
      refine a_get (pc := 13) C fl_X6_29 0 rfl rfl dX6_isTold_13 ?_
      refine a_iload (pc := 16) C 4 rfl dX6_isTold_16 ?_
      refine a_iald (pc := 18) C 7 rfl (by omega) (by decide) dX6_isTold_18 ?_
      refine a_iloadn (pc := 19) C 1 rfl rfl dX6_isTold_19 ?_
      refine a_ic_eq (pc := 20) (tgt := 26) C (by decide) dX6_isTold_20 (fun c1 => ?_) (fun c1 => ?_)
      · refine a_aloadn (pc := 26) C 0 rfl rfl dX6_isTold_26 ?_
        refine a_get (pc := 27) C fl_X6_32 0 rfl rfl dX6_isTold_27 ?_
        refine a_iload (pc := 30) C 4 rfl dX6_isTold_30 ?_
        refine a_ialdN (pc := 32) C 8 rfl (by omega) (by decide) dX6_isTold_32 ?_
        refine a_iloadn (pc := 33) C 2 rfl rfl dX6_isTold_33 ?_
        refine a_icn_ne (pc := 34) (tgt := 48) C (by omega) (by omega) (by decide) dX6_isTold_34 (fun c2 => ?_) (fun c2 => ?_)
        · refine a_iloadn (pc := 48) C 1 rfl rfl dX6_isTold_48 ?_
          refine a_iconst (pc := 49) (v := nI 4) C ci_4 dX6_isTold_49 ?_
          refine a_ic_ne (pc := 50) (tgt := 77) C (by decide) dX6_isTold_50 (fun c3 => ?_) (fun c3 => ?_)
          · refine a_iinc (pc := 77) (v := nI (k + 1)) (L' := [(0, .ref (b 0)), (1, .int kd), (2, .int (nI x)), (3, .int (nI y)), (4, .int (nI (k + 1)))]) C 4 rfl (nI_inc _) (by decide) rfl dX6_isTold_77 ?_
            refine a_goto (pc := 80) (tgt := 3) C (by decide) dX6_isTold_80 ?_
            exact ih (k + 1) (by omega) (anyB_mis hno (by simp only [toldP, decide_eq_true c1, decide_eq_false c2, decide_eq_false c3, Bool.and_false, Bool.false_and, Bool.or_false, Bool.false_or, Bool.true_and, Bool.and_true, Bool.or_true, Bool.true_or, Bool.or_self, Bool.and_self]))
          · refine a_aloadn (pc := 53) C 0 rfl rfl dX6_isTold_53 ?_
            refine a_get (pc := 54) C fl_X6_32 0 rfl rfl dX6_isTold_54 ?_
            refine a_iload (pc := 57) C 4 rfl dX6_isTold_57 ?_
            refine a_ialdN (pc := 59) C 8 rfl (by omega) (by decide) dX6_isTold_59 ?_
            refine a_iloadn (pc := 60) C 3 rfl rfl dX6_isTold_60 ?_
            refine a_icn_ne (pc := 61) (tgt := 77) C (by omega) (by omega) (by decide) dX6_isTold_61 (fun c4 => ?_) (fun c4 => ?_)
            · refine a_iinc (pc := 77) (v := nI (k + 1)) (L' := [(0, .ref (b 0)), (1, .int kd), (2, .int (nI x)), (3, .int (nI y)), (4, .int (nI (k + 1)))]) C 4 rfl (nI_inc _) (by decide) rfl dX6_isTold_77 ?_
              refine a_goto (pc := 80) (tgt := 3) C (by decide) dX6_isTold_80 ?_
              exact ih (k + 1) (by omega) (anyB_mis hno (by simp only [toldP, decide_eq_true c1, decide_eq_false c2, decide_eq_true c3, decide_eq_false c4, Bool.and_false, Bool.false_and, Bool.or_false, Bool.false_or, Bool.true_and, Bool.and_true, Bool.or_true, Bool.true_or, Bool.or_self, Bool.and_self]))
            · refine a_aloadn (pc := 64) C 0 rfl rfl dX6_isTold_64 ?_
              refine a_get (pc := 65) C fl_X6_35 0 rfl rfl dX6_isTold_65 ?_
              refine a_iload (pc := 68) C 4 rfl dX6_isTold_68 ?_
              refine a_ialdN (pc := 70) C 9 rfl (by omega) (by decide) dX6_isTold_70 ?_
              refine a_iloadn (pc := 71) C 2 rfl rfl dX6_isTold_71 ?_
              refine a_icn_ne (pc := 72) (tgt := 77) C (by omega) (by omega) (by decide) dX6_isTold_72 (fun c5 => ?_) (fun c5 => ?_)
              · refine a_iinc (pc := 77) (v := nI (k + 1)) (L' := [(0, .ref (b 0)), (1, .int kd), (2, .int (nI x)), (3, .int (nI y)), (4, .int (nI (k + 1)))]) C 4 rfl (nI_inc _) (by decide) rfl dX6_isTold_77 ?_
                refine a_goto (pc := 80) (tgt := 3) C (by decide) dX6_isTold_80 ?_
                exact ih (k + 1) (by omega) (anyB_mis hno (by simp only [toldP, decide_eq_true c1, decide_eq_false c2, decide_eq_true c3, decide_eq_true c4, decide_eq_false c5, Bool.and_false, Bool.false_and, Bool.or_false, Bool.false_or, Bool.true_and, Bool.and_true, Bool.or_true, Bool.true_or, Bool.or_self, Bool.and_self]))
              · refine a_iconst (pc := 75) (v := nI 1) C ci_1 dX6_isTold_75 ?_
                exact a_zret (pc := 76) (b := true) C E (Nat.le_of_ble_eq_true rfl) (Nat.le_of_ble_eq_true rfl) (by decide +kernel) ⟨by rw [anyB_hit (p := toldP ks os ts kd x y) hlt_k (by simp only [toldP, decide_eq_true c1, decide_eq_false c2, decide_eq_true c3, decide_eq_true c4, decide_eq_true c5, Bool.and_false, Bool.false_and, Bool.or_false, Bool.false_or, Bool.true_and, Bool.and_true, Bool.or_true, Bool.true_or, Bool.or_self, Bool.and_self])], rfl⟩ dX6_isTold_76
        · refine a_aloadn (pc := 37) C 0 rfl rfl dX6_isTold_37 ?_
          refine a_get (pc := 38) C fl_X6_35 0 rfl rfl dX6_isTold_38 ?_
          refine a_iload (pc := 41) C 4 rfl dX6_isTold_41 ?_
          refine a_ialdN (pc := 43) C 9 rfl (by omega) (by decide) dX6_isTold_43 ?_
          refine a_iloadn (pc := 44) C 3 rfl rfl dX6_isTold_44 ?_
          refine a_icn_eq (pc := 45) (tgt := 75) C (by omega) (by omega) (by decide) dX6_isTold_45 (fun c6 => ?_) (fun c6 => ?_)
          · refine a_iconst (pc := 75) (v := nI 1) C ci_1 dX6_isTold_75 ?_
            exact a_zret (pc := 76) (b := true) C E (Nat.le_of_ble_eq_true rfl) (Nat.le_of_ble_eq_true rfl) (by decide +kernel) ⟨by rw [anyB_hit (p := toldP ks os ts kd x y) hlt_k (by simp only [toldP, decide_eq_true c1, decide_eq_true c2, decide_eq_true c6, Bool.and_false, Bool.false_and, Bool.or_false, Bool.false_or, Bool.true_and, Bool.and_true, Bool.or_true, Bool.true_or, Bool.or_self, Bool.and_self])], rfl⟩ dX6_isTold_76
          · refine a_iloadn (pc := 48) C 1 rfl rfl dX6_isTold_48 ?_
            refine a_iconst (pc := 49) (v := nI 4) C ci_4 dX6_isTold_49 ?_
            refine a_ic_ne (pc := 50) (tgt := 77) C (by decide) dX6_isTold_50 (fun c7 => ?_) (fun c7 => ?_)
            · refine a_iinc (pc := 77) (v := nI (k + 1)) (L' := [(0, .ref (b 0)), (1, .int kd), (2, .int (nI x)), (3, .int (nI y)), (4, .int (nI (k + 1)))]) C 4 rfl (nI_inc _) (by decide) rfl dX6_isTold_77 ?_
              refine a_goto (pc := 80) (tgt := 3) C (by decide) dX6_isTold_80 ?_
              exact ih (k + 1) (by omega) (anyB_mis hno (by simp only [toldP, decide_eq_true c1, decide_eq_true c2, decide_eq_false c6, decide_eq_false c7, Bool.and_false, Bool.false_and, Bool.or_false, Bool.false_or, Bool.true_and, Bool.and_true, Bool.or_true, Bool.true_or, Bool.or_self, Bool.and_self]))
            · refine a_aloadn (pc := 53) C 0 rfl rfl dX6_isTold_53 ?_
              refine a_get (pc := 54) C fl_X6_32 0 rfl rfl dX6_isTold_54 ?_
              refine a_iload (pc := 57) C 4 rfl dX6_isTold_57 ?_
              refine a_ialdN (pc := 59) C 8 rfl (by omega) (by decide) dX6_isTold_59 ?_
              refine a_iloadn (pc := 60) C 3 rfl rfl dX6_isTold_60 ?_
              refine a_icn_ne (pc := 61) (tgt := 77) C (by omega) (by omega) (by decide) dX6_isTold_61 (fun c8 => ?_) (fun c8 => ?_)
              · refine a_iinc (pc := 77) (v := nI (k + 1)) (L' := [(0, .ref (b 0)), (1, .int kd), (2, .int (nI x)), (3, .int (nI y)), (4, .int (nI (k + 1)))]) C 4 rfl (nI_inc _) (by decide) rfl dX6_isTold_77 ?_
                refine a_goto (pc := 80) (tgt := 3) C (by decide) dX6_isTold_80 ?_
                exact ih (k + 1) (by omega) (anyB_mis hno (by simp only [toldP, decide_eq_true c1, decide_eq_true c2, decide_eq_false c6, decide_eq_true c7, decide_eq_false c8, Bool.and_false, Bool.false_and, Bool.or_false, Bool.false_or, Bool.true_and, Bool.and_true, Bool.or_true, Bool.true_or, Bool.or_self, Bool.and_self]))
              · refine a_aloadn (pc := 64) C 0 rfl rfl dX6_isTold_64 ?_
                refine a_get (pc := 65) C fl_X6_35 0 rfl rfl dX6_isTold_65 ?_
                refine a_iload (pc := 68) C 4 rfl dX6_isTold_68 ?_
                refine a_ialdN (pc := 70) C 9 rfl (by omega) (by decide) dX6_isTold_70 ?_
                refine a_iloadn (pc := 71) C 2 rfl rfl dX6_isTold_71 ?_
                refine a_icn_ne (pc := 72) (tgt := 77) C (by omega) (by omega) (by decide) dX6_isTold_72 (fun c9 => ?_) (fun c9 => ?_)
                · refine a_iinc (pc := 77) (v := nI (k + 1)) (L' := [(0, .ref (b 0)), (1, .int kd), (2, .int (nI x)), (3, .int (nI y)), (4, .int (nI (k + 1)))]) C 4 rfl (nI_inc _) (by decide) rfl dX6_isTold_77 ?_
                  refine a_goto (pc := 80) (tgt := 3) C (by decide) dX6_isTold_80 ?_
                  exact ih (k + 1) (by omega) (anyB_mis hno (by simp only [toldP, decide_eq_true c1, decide_eq_true c2, decide_eq_false c6, decide_eq_true c7, decide_eq_true c8, decide_eq_false c9, Bool.and_false, Bool.false_and, Bool.or_false, Bool.false_or, Bool.true_and, Bool.and_true, Bool.or_true, Bool.true_or, Bool.or_self, Bool.and_self]))
                · refine a_iconst (pc := 75) (v := nI 1) C ci_1 dX6_isTold_75 ?_
                  exact a_zret (pc := 76) (b := true) C E (Nat.le_of_ble_eq_true rfl) (Nat.le_of_ble_eq_true rfl) (by decide +kernel) ⟨by rw [anyB_hit (p := toldP ks os ts kd x y) hlt_k (by simp only [toldP, decide_eq_true c1, decide_eq_true c2, decide_eq_false c6, decide_eq_true c7, decide_eq_true c8, decide_eq_true c9, Bool.and_false, Bool.false_and, Bool.or_false, Bool.false_or, Bool.true_and, Bool.and_true, Bool.or_true, Bool.true_or, Bool.or_self, Bool.and_self])], rfl⟩ dX6_isTold_76
      · refine a_goto (pc := 23) (tgt := 77) C (by decide) dX6_isTold_23 ?_
        refine a_iinc (pc := 77) (v := nI (k + 1)) (L' := [(0, .ref (b 0)), (1, .int kd), (2, .int (nI x)), (3, .int (nI y)), (4, .int (nI (k + 1)))]) C 4 rfl (nI_inc _) (by decide) rfl dX6_isTold_77 ?_
        refine a_goto (pc := 80) (tgt := 3) C (by decide) dX6_isTold_80 ?_
        exact ih (k + 1) (by omega) (anyB_mis hno (by simp only [toldP, decide_eq_false c1, Bool.and_false, Bool.false_and, Bool.or_false, Bool.false_or, Bool.true_and, Bool.and_true, Bool.or_true, Bool.true_or, Bool.or_self, Bool.and_self]))
  exact LP3 (rn) (0) (by omega) rfl

set_option maxHeartbeats 4000000 in
set_option maxRecDepth 100000 in
theorem c_X6_relate_b1 (κ : aK) (b : Nat → Nat) {th : Int32} {un : Nat} {ss : Nat → Int32} {fi : Nat → Int32} {la : Nat → Int32} {da : Nat → Bool} {dg : Nat → Bool} {ps : Nat → Int32} {rn : Nat} {ks : Nat → Int32} {os : Nat → Nat} {ts : Nat → Nat} {fn : Nat} {fp : Nat → Int32} {bo : Nat → Nat} {eE : Nat → Nat → Bool} {lE : Nat → Nat → Bool} {li : Nat → Nat → Bool} {be : Nat → Int32} {ab : Nat → Int32} {X : va_W} {kd : Int32} {x : Int32} {y : Int32} (hb : ¬ okU 5 kd) : CM yX6_relate cX6_relate 5 (some .int) ({ frames := 4, cells := 0, slots := 0, locals := 88 } : Room) κ [.ref (b 0), .int kd, .int x, .int y] (wM κ b th un ss fi la da dg ps rn ks os ts fn fp bo eE lE li be ab X) (aD (some (.int (nI 0))) (wM κ b (nI 1) un ss fi la da dg ps rn ks os ts fn fp bo eE lE li be ab X)) := by
  refine cm_entry (own := RX6) (L := [(0, .ref (b 0)), (1, .int kd), (2, .int x), (3, .int y)]) (by decide +kernel) rfl (lv_entry [.ref (b 0), .int kd, .int x, .int y] (n := 5) (Nat.le_of_ble_eq_true rfl)) (fun g C E => ?_)
  refine a_aloadn (pc := 0) C 0 rfl rfl dX6_relate_0 ?_
  refine a_iconst (pc := 1) (v := nI 0) C ci_0 dX6_relate_1 ?_
  refine a_put (pc := 2) (ws' := wM κ b (nI 0) un ss fi la da dg ps rn ks os ts fn fp bo eE lE li be ab X) C fl_X6_60 fp_X6_0 0 rfl rfl rfl (Nat.le_of_ble_eq_true rfl) rfl dX6_relate_2 ?_
  refine a_iloadn (pc := 5) C 1 rfl rfl dX6_relate_5 ?_
  refine a_iconst (pc := 6) (v := nI 0) C ci_0 dX6_relate_6 ?_
  refine a_iconst (pc := 7) (v := nI 4) C ci_4 dX6_relate_7 ?_
  refine a_callS1 (pc := 8) (k' := 0) (n' := 0) C (c_X6_isIn κ) yv_X6_isIn ml_X6_67 ws_X6_isIn rfl rfl (Nat.le_of_ble_eq_true rfl) (Nat.le_of_ble_eq_true rfl) (Nat.le_of_ble_eq_true rfl) ⟨(Nat.le_of_ble_eq_true rfl), (Nat.le_of_ble_eq_true rfl)⟩ rfl rfl dX6_relate_8 ?_
  refine a_ifb_ne_n (pc := 11) C (okU_cf (by omega) hb) dX6_relate_11 ⟨20, by decide⟩ ?_
  refine a_aloadn (pc := 14) C 0 rfl rfl dX6_relate_14 ?_
  refine a_iconst (pc := 15) (v := nI 1) C ci_1 dX6_relate_15 ?_
  refine a_callV1 (pc := 16) (k' := 0) (n' := 0) C (c_X6_no κ b) yv_X6_no ml_X6_100 wi_X6_no wl_X6_no 0 rfl rfl rfl rfl (Nat.le_of_ble_eq_true rfl) (Nat.le_of_ble_eq_true rfl) (Nat.le_of_ble_eq_true rfl) ⟨(Nat.le_of_ble_eq_true rfl), (Nat.le_of_ble_eq_true rfl)⟩ rfl rfl dX6_relate_16 ?_
  exact a_iret (pc := 19) C E (Nat.le_of_ble_eq_true rfl) (Nat.le_of_ble_eq_true rfl) ⟨rfl, rfl⟩ dX6_relate_19

set_option maxHeartbeats 4000000 in
set_option maxRecDepth 100000 in
theorem c_X6_relate_b2 (κ : aK) (b : Nat → Nat) {th : Int32} {un : Nat} {ss : Nat → Int32} {fi : Nat → Int32} {la : Nat → Int32} {da : Nat → Bool} {dg : Nat → Bool} {ps : Nat → Int32} {rn : Nat} {ks : Nat → Int32} {os : Nat → Nat} {ts : Nat → Nat} {fn : Nat} {fp : Nat → Int32} {bo : Nat → Nat} {eE : Nat → Nat → Bool} {lE : Nat → Nat → Bool} {li : Nat → Nat → Bool} {be : Nat → Int32} {ab : Nat → Int32} {X : va_W} {kd : Int32} {x : Int32} {y : Int32} (hun : un ≤ 40) (hk : okU 5 kd) (hb : ¬ (okU un x ∧ okU un y)) : CM yX6_relate cX6_relate 5 (some .int) ({ frames := 4, cells := 0, slots := 0, locals := 88 } : Room) κ [.ref (b 0), .int kd, .int x, .int y] (wM κ b th un ss fi la da dg ps rn ks os ts fn fp bo eE lE li be ab X) (aD (some (.int (nI 0))) (wM κ b (nI 2) un ss fi la da dg ps rn ks os ts fn fp bo eE lE li be ab X)) := by
  refine cm_entry (own := RX6) (L := [(0, .ref (b 0)), (1, .int kd), (2, .int x), (3, .int y)]) (by decide +kernel) rfl (lv_entry [.ref (b 0), .int kd, .int x, .int y] (n := 5) (Nat.le_of_ble_eq_true rfl)) (fun g C E => ?_)
  refine a_aloadn (pc := 0) C 0 rfl rfl dX6_relate_0 ?_
  refine a_iconst (pc := 1) (v := nI 0) C ci_0 dX6_relate_1 ?_
  refine a_put (pc := 2) (ws' := wM κ b (nI 0) un ss fi la da dg ps rn ks os ts fn fp bo eE lE li be ab X) C fl_X6_60 fp_X6_0 0 rfl rfl rfl (Nat.le_of_ble_eq_true rfl) rfl dX6_relate_2 ?_
  refine a_iloadn (pc := 5) C 1 rfl rfl dX6_relate_5 ?_
  refine a_iconst (pc := 6) (v := nI 0) C ci_0 dX6_relate_6 ?_
  refine a_iconst (pc := 7) (v := nI 4) C ci_4 dX6_relate_7 ?_
  refine a_callS1 (pc := 8) (k' := 0) (n' := 0) C (c_X6_isIn κ) yv_X6_isIn ml_X6_67 ws_X6_isIn rfl rfl (Nat.le_of_ble_eq_true rfl) (Nat.le_of_ble_eq_true rfl) (Nat.le_of_ble_eq_true rfl) ⟨(Nat.le_of_ble_eq_true rfl), (Nat.le_of_ble_eq_true rfl)⟩ rfl rfl dX6_relate_8 ?_
  refine a_ifb_ne_y (pc := 11) (tgt := 20) C ((okU_c (by omega)).mpr hk) (by decide) dX6_relate_11 ?_
  refine a_aloadn (pc := 20) C 0 rfl rfl dX6_relate_20 ?_
  refine a_iloadn (pc := 21) C 2 rfl rfl dX6_relate_21 ?_
  refine a_callV1 (pc := 22) (k' := 0) (n' := 0) C (c_X6_isUnit κ b) yv_X6_isUnit ml_X6_107 wi_X6_isUnit wl_X6_isUnit 0 rfl rfl rfl rfl (Nat.le_of_ble_eq_true rfl) (Nat.le_of_ble_eq_true rfl) (Nat.le_of_ble_eq_true rfl) ⟨(Nat.le_of_ble_eq_true rfl), (Nat.le_of_ble_eq_true rfl)⟩ rfl rfl dX6_relate_22 ?_
  refine a_ifb_eq (pc := 25) (tgt := 36) C (by decide) dX6_relate_25 (fun c1 => ?_) (fun c1 => ?_)
  · refine a_aloadn (pc := 36) C 0 rfl rfl dX6_relate_36 ?_
    refine a_iconst (pc := 37) (v := nI 2) C ci_2 dX6_relate_37 ?_
    refine a_callV1 (pc := 38) (k' := 0) (n' := 0) C (c_X6_no κ b) yv_X6_no ml_X6_100 wi_X6_no wl_X6_no 0 rfl rfl rfl rfl (Nat.le_of_ble_eq_true rfl) (Nat.le_of_ble_eq_true rfl) (Nat.le_of_ble_eq_true rfl) ⟨(Nat.le_of_ble_eq_true rfl), (Nat.le_of_ble_eq_true rfl)⟩ rfl rfl dX6_relate_38 ?_
    exact a_iret (pc := 41) C E (Nat.le_of_ble_eq_true rfl) (Nat.le_of_ble_eq_true rfl) ⟨rfl, rfl⟩ dX6_relate_41
  · refine a_aloadn (pc := 28) C 0 rfl rfl dX6_relate_28 ?_
    refine a_iloadn (pc := 29) C 3 rfl rfl dX6_relate_29 ?_
    refine a_callV1 (pc := 30) (k' := 0) (n' := 0) C (c_X6_isUnit κ b) yv_X6_isUnit ml_X6_107 wi_X6_isUnit wl_X6_isUnit 0 rfl rfl rfl rfl (Nat.le_of_ble_eq_true rfl) (Nat.le_of_ble_eq_true rfl) (Nat.le_of_ble_eq_true rfl) ⟨(Nat.le_of_ble_eq_true rfl), (Nat.le_of_ble_eq_true rfl)⟩ rfl rfl dX6_relate_30 ?_
    refine a_ifb_ne_n (pc := 33) C (okU_nf (by omega) (fun h => hb ⟨(okU_n (by omega)).mp c1, h⟩)) dX6_relate_33 ⟨42, by decide⟩ ?_
    refine a_aloadn (pc := 36) C 0 rfl rfl dX6_relate_36 ?_
    refine a_iconst (pc := 37) (v := nI 2) C ci_2 dX6_relate_37 ?_
    refine a_callV1 (pc := 38) (k' := 0) (n' := 0) C (c_X6_no κ b) yv_X6_no ml_X6_100 wi_X6_no wl_X6_no 0 rfl rfl rfl rfl (Nat.le_of_ble_eq_true rfl) (Nat.le_of_ble_eq_true rfl) (Nat.le_of_ble_eq_true rfl) ⟨(Nat.le_of_ble_eq_true rfl), (Nat.le_of_ble_eq_true rfl)⟩ rfl rfl dX6_relate_38 ?_
    exact a_iret (pc := 41) C E (Nat.le_of_ble_eq_true rfl) (Nat.le_of_ble_eq_true rfl) ⟨rfl, rfl⟩ dX6_relate_41

set_option maxHeartbeats 4000000 in
set_option maxRecDepth 100000 in
theorem c_X6_relate_b3 (κ : aK) (b : Nat → Nat) {th : Int32} {un : Nat} {ss : Nat → Int32} {fi : Nat → Int32} {la : Nat → Int32} {da : Nat → Bool} {dg : Nat → Bool} {ps : Nat → Int32} {rn : Nat} {ks : Nat → Int32} {os : Nat → Nat} {ts : Nat → Nat} {fn : Nat} {fp : Nat → Int32} {bo : Nat → Nat} {eE : Nat → Nat → Bool} {lE : Nat → Nat → Bool} {li : Nat → Nat → Bool} {be : Nat → Int32} {ab : Nat → Int32} {X : va_W} {kd : Int32} {x : Nat} {y : Nat} (hun : un ≤ 40) (hk : okU 5 kd) (hx : x < un) (hy : y < un) (hb : rn = 80) : CM yX6_relate cX6_relate 5 (some .int) ({ frames := 4, cells := 0, slots := 0, locals := 88 } : Room) κ [.ref (b 0), .int kd, .int (nI x), .int (nI y)] (wM κ b th un ss fi la da dg ps rn ks os ts fn fp bo eE lE li be ab X) (aD (some (.int (nI 0))) (wM κ b (nI 3) un ss fi la da dg ps rn ks os ts fn fp bo eE lE li be ab X)) := by
  refine cm_entry (own := RX6) (L := [(0, .ref (b 0)), (1, .int kd), (2, .int (nI x)), (3, .int (nI y))]) (by decide +kernel) rfl (lv_entry [.ref (b 0), .int kd, .int (nI x), .int (nI y)] (n := 5) (Nat.le_of_ble_eq_true rfl)) (fun g C E => ?_)
  refine a_aloadn (pc := 0) C 0 rfl rfl dX6_relate_0 ?_
  refine a_iconst (pc := 1) (v := nI 0) C ci_0 dX6_relate_1 ?_
  refine a_put (pc := 2) (ws' := wM κ b (nI 0) un ss fi la da dg ps rn ks os ts fn fp bo eE lE li be ab X) C fl_X6_60 fp_X6_0 0 rfl rfl rfl (Nat.le_of_ble_eq_true rfl) rfl dX6_relate_2 ?_
  refine a_iloadn (pc := 5) C 1 rfl rfl dX6_relate_5 ?_
  refine a_iconst (pc := 6) (v := nI 0) C ci_0 dX6_relate_6 ?_
  refine a_iconst (pc := 7) (v := nI 4) C ci_4 dX6_relate_7 ?_
  refine a_callS1 (pc := 8) (k' := 0) (n' := 0) C (c_X6_isIn κ) yv_X6_isIn ml_X6_67 ws_X6_isIn rfl rfl (Nat.le_of_ble_eq_true rfl) (Nat.le_of_ble_eq_true rfl) (Nat.le_of_ble_eq_true rfl) ⟨(Nat.le_of_ble_eq_true rfl), (Nat.le_of_ble_eq_true rfl)⟩ rfl rfl dX6_relate_8 ?_
  refine a_ifb_ne_y (pc := 11) (tgt := 20) C ((okU_c (by omega)).mpr hk) (by decide) dX6_relate_11 ?_
  refine a_aloadn (pc := 20) C 0 rfl rfl dX6_relate_20 ?_
  refine a_iloadn (pc := 21) C 2 rfl rfl dX6_relate_21 ?_
  refine a_callV1 (pc := 22) (k' := 0) (n' := 0) C (c_X6_isUnit κ b) yv_X6_isUnit ml_X6_107 wi_X6_isUnit wl_X6_isUnit 0 rfl rfl rfl rfl (Nat.le_of_ble_eq_true rfl) (Nat.le_of_ble_eq_true rfl) (Nat.le_of_ble_eq_true rfl) ⟨(Nat.le_of_ble_eq_true rfl), (Nat.le_of_ble_eq_true rfl)⟩ rfl rfl dX6_relate_22 ?_
  refine a_ifb_eq_n (pc := 25) C ((okU_n (by omega)).mpr (okU_j hx)) dX6_relate_25 ⟨36, by decide⟩ ?_
  refine a_aloadn (pc := 28) C 0 rfl rfl dX6_relate_28 ?_
  refine a_iloadn (pc := 29) C 3 rfl rfl dX6_relate_29 ?_
  refine a_callV1 (pc := 30) (k' := 0) (n' := 0) C (c_X6_isUnit κ b) yv_X6_isUnit ml_X6_107 wi_X6_isUnit wl_X6_isUnit 0 rfl rfl rfl rfl (Nat.le_of_ble_eq_true rfl) (Nat.le_of_ble_eq_true rfl) (Nat.le_of_ble_eq_true rfl) ⟨(Nat.le_of_ble_eq_true rfl), (Nat.le_of_ble_eq_true rfl)⟩ rfl rfl dX6_relate_30 ?_
  refine a_ifb_ne_y (pc := 33) (tgt := 42) C ((okU_n (by omega)).mpr (okU_j hy)) (by decide) dX6_relate_33 ?_
  refine a_aloadn (pc := 42) C 0 rfl rfl dX6_relate_42 ?_
  refine a_get (pc := 43) C fl_X6_71 0 rfl rfl dX6_relate_43 ?_
  refine a_bipush (pc := 46) (v := nI 80) C cb_80 dX6_relate_46 ?_
  refine a_icn_ne_n (pc := 48) C (by omega) (by omega) (by omega) dX6_relate_48 ⟨57, by decide⟩ ?_
  refine a_aloadn (pc := 51) C 0 rfl rfl dX6_relate_51 ?_
  refine a_iconst (pc := 52) (v := nI 3) C ci_3 dX6_relate_52 ?_
  refine a_callV1 (pc := 53) (k' := 0) (n' := 0) C (c_X6_no κ b) yv_X6_no ml_X6_100 wi_X6_no wl_X6_no 0 rfl rfl rfl rfl (Nat.le_of_ble_eq_true rfl) (Nat.le_of_ble_eq_true rfl) (Nat.le_of_ble_eq_true rfl) ⟨(Nat.le_of_ble_eq_true rfl), (Nat.le_of_ble_eq_true rfl)⟩ rfl rfl dX6_relate_53 ?_
  exact a_iret (pc := 56) C E (Nat.le_of_ble_eq_true rfl) (Nat.le_of_ble_eq_true rfl) ⟨rfl, rfl⟩ dX6_relate_56

set_option maxHeartbeats 4000000 in
set_option maxRecDepth 100000 in
theorem c_X6_relate_n (κ : aK) (b : Nat → Nat) {th : Int32} {un : Nat} {ss : Nat → Int32} {fi : Nat → Int32} {la : Nat → Int32} {da : Nat → Bool} {dg : Nat → Bool} {ps : Nat → Int32} {rn : Nat} {ks : Nat → Int32} {os : Nat → Nat} {ts : Nat → Nat} {fn : Nat} {fp : Nat → Int32} {bo : Nat → Nat} {eE : Nat → Nat → Bool} {lE : Nat → Nat → Bool} {li : Nat → Nat → Bool} {be : Nat → Int32} {ab : Nat → Int32} {X : va_W} {kd : Int32} {x : Nat} {y : Nat} (hun : un ≤ 40) (hrn : rn ≤ 80) (hr : rn < 80) (hbo : ∀ u, bo u < 40) (hos : ∀ u, os u < 40) (hts : ∀ u, ts u < 40) (hk : okU 5 kd) (hx : x < un) (hy : y < un) (hc : ¬ rrC ss ks os ts rn kd x y = 0) : CM yX6_relate cX6_relate 5 (some .int) ({ frames := 4, cells := 0, slots := 0, locals := 88 } : Room) κ [.ref (b 0), .int kd, .int (nI x), .int (nI y)] (wM κ b th un ss fi la da dg ps rn ks os ts fn fp bo eE lE li be ab X) (aD (some (.int (nI (rrC ss ks os ts rn kd x y)))) (wM κ b (nI 0) un ss fi la da dg ps rn ks os ts fn fp bo eE lE li be ab X)) := by
  refine cm_entry (own := RX6) (L := [(0, .ref (b 0)), (1, .int kd), (2, .int (nI x)), (3, .int (nI y))]) (by decide +kernel) rfl (lv_entry [.ref (b 0), .int kd, .int (nI x), .int (nI y)] (n := 5) (Nat.le_of_ble_eq_true rfl)) (fun g C E => ?_)
  refine a_aloadn (pc := 0) C 0 rfl rfl dX6_relate_0 ?_
  refine a_iconst (pc := 1) (v := nI 0) C ci_0 dX6_relate_1 ?_
  refine a_put (pc := 2) (ws' := wM κ b (nI 0) un ss fi la da dg ps rn ks os ts fn fp bo eE lE li be ab X) C fl_X6_60 fp_X6_0 0 rfl rfl rfl (Nat.le_of_ble_eq_true rfl) rfl dX6_relate_2 ?_
  refine a_iloadn (pc := 5) C 1 rfl rfl dX6_relate_5 ?_
  refine a_iconst (pc := 6) (v := nI 0) C ci_0 dX6_relate_6 ?_
  refine a_iconst (pc := 7) (v := nI 4) C ci_4 dX6_relate_7 ?_
  refine a_callS1 (pc := 8) (k' := 0) (n' := 0) C (c_X6_isIn κ) yv_X6_isIn ml_X6_67 ws_X6_isIn rfl rfl (Nat.le_of_ble_eq_true rfl) (Nat.le_of_ble_eq_true rfl) (Nat.le_of_ble_eq_true rfl) ⟨(Nat.le_of_ble_eq_true rfl), (Nat.le_of_ble_eq_true rfl)⟩ rfl rfl dX6_relate_8 ?_
  refine a_ifb_ne_y (pc := 11) (tgt := 20) C ((okU_c (by omega)).mpr hk) (by decide) dX6_relate_11 ?_
  refine a_aloadn (pc := 20) C 0 rfl rfl dX6_relate_20 ?_
  refine a_iloadn (pc := 21) C 2 rfl rfl dX6_relate_21 ?_
  refine a_callV1 (pc := 22) (k' := 0) (n' := 0) C (c_X6_isUnit κ b) yv_X6_isUnit ml_X6_107 wi_X6_isUnit wl_X6_isUnit 0 rfl rfl rfl rfl (Nat.le_of_ble_eq_true rfl) (Nat.le_of_ble_eq_true rfl) (Nat.le_of_ble_eq_true rfl) ⟨(Nat.le_of_ble_eq_true rfl), (Nat.le_of_ble_eq_true rfl)⟩ rfl rfl dX6_relate_22 ?_
  refine a_ifb_eq_n (pc := 25) C ((okU_n (by omega)).mpr (okU_j hx)) dX6_relate_25 ⟨36, by decide⟩ ?_
  refine a_aloadn (pc := 28) C 0 rfl rfl dX6_relate_28 ?_
  refine a_iloadn (pc := 29) C 3 rfl rfl dX6_relate_29 ?_
  refine a_callV1 (pc := 30) (k' := 0) (n' := 0) C (c_X6_isUnit κ b) yv_X6_isUnit ml_X6_107 wi_X6_isUnit wl_X6_isUnit 0 rfl rfl rfl rfl (Nat.le_of_ble_eq_true rfl) (Nat.le_of_ble_eq_true rfl) (Nat.le_of_ble_eq_true rfl) ⟨(Nat.le_of_ble_eq_true rfl), (Nat.le_of_ble_eq_true rfl)⟩ rfl rfl dX6_relate_30 ?_
  refine a_ifb_ne_y (pc := 33) (tgt := 42) C ((okU_n (by omega)).mpr (okU_j hy)) (by decide) dX6_relate_33 ?_
  refine a_aloadn (pc := 42) C 0 rfl rfl dX6_relate_42 ?_
  refine a_get (pc := 43) C fl_X6_71 0 rfl rfl dX6_relate_43 ?_
  refine a_bipush (pc := 46) (v := nI 80) C cb_80 dX6_relate_46 ?_
  refine a_icn_ne_y (pc := 48) (tgt := 57) C (by omega) (by omega) (by omega) (by decide) dX6_relate_48 ?_
  refine a_iloadn (pc := 57) C 2 rfl rfl dX6_relate_57 ?_
  refine a_iloadn (pc := 58) C 3 rfl rfl dX6_relate_58 ?_
  refine a_icn_ne (pc := 59) (tgt := 64) C (by omega) (by omega) (by decide) dX6_relate_59 (fun c1 => ?_) (fun c1 => ?_)
  · refine a_aloadn (pc := 64) C 0 rfl rfl dX6_relate_64 ?_
    refine a_iloadn (pc := 65) C 1 rfl rfl dX6_relate_65 ?_
    refine a_iloadn (pc := 66) C 2 rfl rfl dX6_relate_66 ?_
    refine a_iloadn (pc := 67) C 3 rfl rfl dX6_relate_67 ?_
    refine a_callV1 (pc := 68) (k' := 0) (n' := 0) C (c_X6_areSorts κ b hk (by omega) (by omega)) yv_X6_areSorts ml_X6_111 wi_X6_areSorts wl_X6_areSorts 0 rfl rfl rfl rfl (Nat.le_of_ble_eq_true rfl) (Nat.le_of_ble_eq_true rfl) (Nat.le_of_ble_eq_true rfl) ⟨(Nat.le_of_ble_eq_true rfl), (Nat.le_of_ble_eq_true rfl)⟩ rfl rfl dX6_relate_68 ?_
    refine a_ifb_ne (pc := 71) (tgt := 76) C (by decide) dX6_relate_71 (fun c2 => ?_) (fun c2 => ?_)
    · refine a_aloadn (pc := 76) C 0 rfl rfl dX6_relate_76 ?_
      refine a_iloadn (pc := 77) C 1 rfl rfl dX6_relate_77 ?_
      refine a_iloadn (pc := 78) C 2 rfl rfl dX6_relate_78 ?_
      refine a_iloadn (pc := 79) C 3 rfl rfl dX6_relate_79 ?_
      refine a_callV1 (pc := 80) (k' := 0) (n' := 0) C (c_X6_isTold κ b hrn hos hts (by omega) (by omega)) yv_X6_isTold ml_X6_114 wi_X6_isTold wl_X6_isTold 0 rfl rfl rfl rfl (Nat.le_of_ble_eq_true rfl) (Nat.le_of_ble_eq_true rfl) (Nat.le_of_ble_eq_true rfl) ⟨(Nat.le_of_ble_eq_true rfl), (Nat.le_of_ble_eq_true rfl)⟩ rfl rfl dX6_relate_80 ?_
      refine a_ifb_eq (pc := 83) (tgt := 88) C (by decide) dX6_relate_83 (fun c3 => ?_) (fun c3 => ?_)
      · exact absurd (rrC_0 c1 c2 c3) hc
      · refine a_iconst (pc := 86) (v := nI 3) C ci_3 dX6_relate_86 ?_
        exact a_iret (pc := 87) C E (Nat.le_of_ble_eq_true rfl) (Nat.le_of_ble_eq_true rfl) ⟨by rw [rrC_3 c1 c2 c3], rfl⟩ dX6_relate_87
    · refine a_iconst (pc := 74) (v := nI 2) C ci_2 dX6_relate_74 ?_
      exact a_iret (pc := 75) C E (Nat.le_of_ble_eq_true rfl) (Nat.le_of_ble_eq_true rfl) ⟨by rw [rrC_2 c1 c2], rfl⟩ dX6_relate_75
  · refine a_iconst (pc := 62) (v := nI 1) C ci_1 dX6_relate_62 ?_
    exact a_iret (pc := 63) C E (Nat.le_of_ble_eq_true rfl) (Nat.le_of_ble_eq_true rfl) ⟨by rw [rrC_1 c1], rfl⟩ dX6_relate_63

set_option maxHeartbeats 4000000 in
set_option maxRecDepth 100000 in
theorem c_X6_relate_y (κ : aK) (b : Nat → Nat) {th : Int32} {un : Nat} {ss : Nat → Int32} {fi : Nat → Int32} {la : Nat → Int32} {da : Nat → Bool} {dg : Nat → Bool} {ps : Nat → Int32} {rn : Nat} {ks : Nat → Int32} {os : Nat → Nat} {ts : Nat → Nat} {fn : Nat} {fp : Nat → Int32} {bo : Nat → Nat} {eE : Nat → Nat → Bool} {lE : Nat → Nat → Bool} {li : Nat → Nat → Bool} {be : Nat → Int32} {ab : Nat → Int32} {X : va_W} {kd : Int32} {x : Nat} {y : Nat} (hun : un ≤ 40) (hr : rn < 80) (hbo : ∀ u, bo u < 40) (hos : ∀ u, os u < 40) (hts : ∀ u, ts u < 40) (hk : okU 5 kd) (hx : x < un) (hy : y < un) (c1 : ¬ x = y) (c2 : sfB kd (ss x) (ss y) = true) (c3 : anyB (toldP ks os ts kd x y) rn = false) (hcan : (!(anyB (fun u => sE (va_up ks rn kd) (va_up os rn x) (va_up ts rn y) bo un (rn + 1) eE u u) un)) = true) : CM yX6_relate cX6_relate 5 (some .int) ({ frames := 4, cells := 0, slots := 0, locals := 88 } : Room) κ [.ref (b 0), .int kd, .int (nI x), .int (nI y)] (wM κ b th un ss fi la da dg ps rn ks os ts fn fp bo eE lE li be ab X) (aD (some (.int (nI 0))) (wM κ b (nI 0) un ss fi la da dg ps (rn + 1) (va_up ks rn kd) (va_up os rn x) (va_up ts rn y) fn fp (sJ (va_up ks rn kd) (va_up os rn x) (va_up ts rn y) (sJ (va_up ks rn kd) (va_up os rn x) (va_up ts rn y) bo un (rn + 1)) un (rn + 1)) (sE (va_up ks rn kd) (va_up os rn x) (va_up ts rn y) (sJ (va_up ks rn kd) (va_up os rn x) (va_up ts rn y) bo un (rn + 1)) un (rn + 1) (sE (va_up ks rn kd) (va_up os rn x) (va_up ts rn y) bo un (rn + 1) eE)) (sLt (sE (va_up ks rn kd) (va_up os rn x) (va_up ts rn y) (sJ (va_up ks rn kd) (va_up os rn x) (va_up ts rn y) bo un (rn + 1)) un (rn + 1) (sE (va_up ks rn kd) (va_up os rn x) (va_up ts rn y) bo un (rn + 1) eE)) un lE) (sLi (sE (va_up ks rn kd) (va_up os rn x) (va_up ts rn y) (sJ (va_up ks rn kd) (va_up os rn x) (va_up ts rn y) bo un (rn + 1)) un (rn + 1) (sE (va_up ks rn kd) (va_up os rn x) (va_up ts rn y) bo un (rn + 1) eE)) un li) (sRk (sE (va_up ks rn kd) (va_up os rn x) (va_up ts rn y) (sJ (va_up ks rn kd) (va_up os rn x) (va_up ts rn y) bo un (rn + 1)) un (rn + 1) (sE (va_up ks rn kd) (va_up os rn x) (va_up ts rn y) bo un (rn + 1) eE)) un be) (sRk (sLt (sE (va_up ks rn kd) (va_up os rn x) (va_up ts rn y) (sJ (va_up ks rn kd) (va_up os rn x) (va_up ts rn y) bo un (rn + 1)) un (rn + 1) (sE (va_up ks rn kd) (va_up os rn x) (va_up ts rn y) bo un (rn + 1) eE)) un lE) un ab) X)) := by
  refine cm_entry (own := RX6) (L := [(0, .ref (b 0)), (1, .int kd), (2, .int (nI x)), (3, .int (nI y))]) (by decide +kernel) rfl (lv_entry [.ref (b 0), .int kd, .int (nI x), .int (nI y)] (n := 5) (Nat.le_of_ble_eq_true rfl)) (fun g C E => ?_)
  have hos2 : ∀ u, va_up os rn x u < 40 := upn_lt hos (by omega)
  have hts2 : ∀ u, va_up ts rn y u < 40 := upn_lt hts (by omega)
  have hJ2 : ∀ u, sJ (va_up ks rn kd) (va_up os rn x) (va_up ts rn y) bo un (rn + 1) u < 40 := jW_lt 1600 (pre_lt (fun u hu => by omega) hbo)
  refine a_aloadn (pc := 0) C 0 rfl rfl dX6_relate_0 ?_
  refine a_iconst (pc := 1) (v := nI 0) C ci_0 dX6_relate_1 ?_
  refine a_put (pc := 2) (ws' := wM κ b (nI 0) un ss fi la da dg ps rn ks os ts fn fp bo eE lE li be ab X) C fl_X6_60 fp_X6_0 0 rfl rfl rfl (Nat.le_of_ble_eq_true rfl) rfl dX6_relate_2 ?_
  refine a_iloadn (pc := 5) C 1 rfl rfl dX6_relate_5 ?_
  refine a_iconst (pc := 6) (v := nI 0) C ci_0 dX6_relate_6 ?_
  refine a_iconst (pc := 7) (v := nI 4) C ci_4 dX6_relate_7 ?_
  refine a_callS1 (pc := 8) (k' := 0) (n' := 0) C (c_X6_isIn κ) yv_X6_isIn ml_X6_67 ws_X6_isIn rfl rfl (Nat.le_of_ble_eq_true rfl) (Nat.le_of_ble_eq_true rfl) (Nat.le_of_ble_eq_true rfl) ⟨(Nat.le_of_ble_eq_true rfl), (Nat.le_of_ble_eq_true rfl)⟩ rfl rfl dX6_relate_8 ?_
  refine a_ifb_ne_y (pc := 11) (tgt := 20) C ((okU_c (by omega)).mpr hk) (by decide) dX6_relate_11 ?_
  refine a_aloadn (pc := 20) C 0 rfl rfl dX6_relate_20 ?_
  refine a_iloadn (pc := 21) C 2 rfl rfl dX6_relate_21 ?_
  refine a_callV1 (pc := 22) (k' := 0) (n' := 0) C (c_X6_isUnit κ b) yv_X6_isUnit ml_X6_107 wi_X6_isUnit wl_X6_isUnit 0 rfl rfl rfl rfl (Nat.le_of_ble_eq_true rfl) (Nat.le_of_ble_eq_true rfl) (Nat.le_of_ble_eq_true rfl) ⟨(Nat.le_of_ble_eq_true rfl), (Nat.le_of_ble_eq_true rfl)⟩ rfl rfl dX6_relate_22 ?_
  refine a_ifb_eq_n (pc := 25) C ((okU_n (by omega)).mpr (okU_j hx)) dX6_relate_25 ⟨36, by decide⟩ ?_
  refine a_aloadn (pc := 28) C 0 rfl rfl dX6_relate_28 ?_
  refine a_iloadn (pc := 29) C 3 rfl rfl dX6_relate_29 ?_
  refine a_callV1 (pc := 30) (k' := 0) (n' := 0) C (c_X6_isUnit κ b) yv_X6_isUnit ml_X6_107 wi_X6_isUnit wl_X6_isUnit 0 rfl rfl rfl rfl (Nat.le_of_ble_eq_true rfl) (Nat.le_of_ble_eq_true rfl) (Nat.le_of_ble_eq_true rfl) ⟨(Nat.le_of_ble_eq_true rfl), (Nat.le_of_ble_eq_true rfl)⟩ rfl rfl dX6_relate_30 ?_
  refine a_ifb_ne_y (pc := 33) (tgt := 42) C ((okU_n (by omega)).mpr (okU_j hy)) (by decide) dX6_relate_33 ?_
  refine a_aloadn (pc := 42) C 0 rfl rfl dX6_relate_42 ?_
  refine a_get (pc := 43) C fl_X6_71 0 rfl rfl dX6_relate_43 ?_
  refine a_bipush (pc := 46) (v := nI 80) C cb_80 dX6_relate_46 ?_
  refine a_icn_ne_y (pc := 48) (tgt := 57) C (by omega) (by omega) (by omega) (by decide) dX6_relate_48 ?_
  refine a_iloadn (pc := 57) C 2 rfl rfl dX6_relate_57 ?_
  refine a_iloadn (pc := 58) C 3 rfl rfl dX6_relate_58 ?_
  refine a_icn_ne_y (pc := 59) (tgt := 64) C (by omega) (by omega) c1 (by decide) dX6_relate_59 ?_
  refine a_aloadn (pc := 64) C 0 rfl rfl dX6_relate_64 ?_
  refine a_iloadn (pc := 65) C 1 rfl rfl dX6_relate_65 ?_
  refine a_iloadn (pc := 66) C 2 rfl rfl dX6_relate_66 ?_
  refine a_iloadn (pc := 67) C 3 rfl rfl dX6_relate_67 ?_
  refine a_callV1 (pc := 68) (k' := 0) (n' := 0) C (c_X6_areSorts κ b hk (by omega) (by omega)) yv_X6_areSorts ml_X6_111 wi_X6_areSorts wl_X6_areSorts 0 rfl rfl rfl rfl (Nat.le_of_ble_eq_true rfl) (Nat.le_of_ble_eq_true rfl) (Nat.le_of_ble_eq_true rfl) ⟨(Nat.le_of_ble_eq_true rfl), (Nat.le_of_ble_eq_true rfl)⟩ rfl rfl dX6_relate_68 ?_
  refine a_ifb_ne_y (pc := 71) (tgt := 76) C c2 (by decide) dX6_relate_71 ?_
  refine a_aloadn (pc := 76) C 0 rfl rfl dX6_relate_76 ?_
  refine a_iloadn (pc := 77) C 1 rfl rfl dX6_relate_77 ?_
  refine a_iloadn (pc := 78) C 2 rfl rfl dX6_relate_78 ?_
  refine a_iloadn (pc := 79) C 3 rfl rfl dX6_relate_79 ?_
  refine a_callV1 (pc := 80) (k' := 0) (n' := 0) C (c_X6_isTold κ b (by omega) hos hts (by omega) (by omega)) yv_X6_isTold ml_X6_114 wi_X6_isTold wl_X6_isTold 0 rfl rfl rfl rfl (Nat.le_of_ble_eq_true rfl) (Nat.le_of_ble_eq_true rfl) (Nat.le_of_ble_eq_true rfl) ⟨(Nat.le_of_ble_eq_true rfl), (Nat.le_of_ble_eq_true rfl)⟩ rfl rfl dX6_relate_80 ?_
  refine a_ifb_eq_y (pc := 83) (tgt := 88) C c3 (by decide) dX6_relate_83 ?_
  refine a_aloadn (pc := 88) C 0 rfl rfl dX6_relate_88 ?_
  refine a_get (pc := 89) C fl_X6_29 0 rfl rfl dX6_relate_89 ?_
  refine a_aloadn (pc := 92) C 0 rfl rfl dX6_relate_92 ?_
  refine a_get (pc := 93) C fl_X6_71 0 rfl rfl dX6_relate_93 ?_
  refine a_iloadn (pc := 96) C 1 rfl rfl dX6_relate_96 ?_
  refine a_iast (pc := 97) (ws' := wM κ b (nI 0) un ss fi la da dg ps rn (va_up ks rn kd) os ts fn fp bo eE lE li be ab X) C 7 rfl (by omega) (by decide) rfl rfl dX6_relate_97 ?_
  refine a_aloadn (pc := 98) C 0 rfl rfl dX6_relate_98 ?_
  refine a_get (pc := 99) C fl_X6_32 0 rfl rfl dX6_relate_99 ?_
  refine a_aloadn (pc := 102) C 0 rfl rfl dX6_relate_102 ?_
  refine a_get (pc := 103) C fl_X6_71 0 rfl rfl dX6_relate_103 ?_
  refine a_iloadn (pc := 106) C 2 rfl rfl dX6_relate_106 ?_
  refine a_iast (pc := 107) (ws' := wM κ b (nI 0) un ss fi la da dg ps rn (va_up ks rn kd) (va_up os rn x) ts fn fp bo eE lE li be ab X) C 8 rfl (by omega) (by decide) (fN_up _ _ _) rfl dX6_relate_107 ?_
  refine a_aloadn (pc := 108) C 0 rfl rfl dX6_relate_108 ?_
  refine a_get (pc := 109) C fl_X6_35 0 rfl rfl dX6_relate_109 ?_
  refine a_aloadn (pc := 112) C 0 rfl rfl dX6_relate_112 ?_
  refine a_get (pc := 113) C fl_X6_71 0 rfl rfl dX6_relate_113 ?_
  refine a_iloadn (pc := 116) C 3 rfl rfl dX6_relate_116 ?_
  refine a_iast (pc := 117) (ws' := wM κ b (nI 0) un ss fi la da dg ps rn (va_up ks rn kd) (va_up os rn x) (va_up ts rn y) fn fp bo eE lE li be ab X) C 9 rfl (by omega) (by decide) (fN_up _ _ _) rfl dX6_relate_117 ?_
  refine a_aloadn (pc := 118) C 0 rfl rfl dX6_relate_118 ?_
  refine a_dup (pc := 119) C rfl dX6_relate_119 ?_
  refine a_get (pc := 120) C fl_X6_71 0 rfl rfl dX6_relate_120 ?_
  refine a_iconst (pc := 123) (v := nI 1) C ci_1 dX6_relate_123 ?_
  refine a_iadd (pc := 124) (v := nI (rn + 1)) C (nI_add _ _) dX6_relate_124 ?_
  refine a_put (pc := 125) (ws' := wM κ b (nI 0) un ss fi la da dg ps (rn + 1) (va_up ks rn kd) (va_up os rn x) (va_up ts rn y) fn fp bo eE lE li be ab X) C fl_X6_71 fp_X6_8 0 rfl rfl rfl (Nat.le_of_ble_eq_true rfl) rfl dX6_relate_125 ?_
  refine a_aloadn (pc := 128) C 0 rfl rfl dX6_relate_128 ?_
  refine a_callV1 (pc := 129) (k' := 0) (n' := 0) C (c_X6_follow κ b hun (by omega) hbo hos2 hts2) yv_X6_follow ml_X6_87 wi_X6_follow wl_X6_follow 0 rfl rfl rfl rfl (Nat.le_of_ble_eq_true rfl) (Nat.le_of_ble_eq_true rfl) (Nat.le_of_ble_eq_true rfl) ⟨(Nat.le_of_ble_eq_true rfl), (Nat.le_of_ble_eq_true rfl)⟩ rfl rfl dX6_relate_129 ?_
  refine a_istore (pc := 132) (L' := [(0, .ref (b 0)), (1, .int kd), (2, .int (nI x)), (3, .int (nI y)), (4, .int (b2i (!(anyB (fun u => sE (va_up ks rn kd) (va_up os rn x) (va_up ts rn y) bo un (rn + 1) eE u u) un))))]) C (by decide) rfl dX6_relate_132 ?_
  refine a_iload (pc := 134) C 4 rfl dX6_relate_134 ?_
  refine a_ifb_ne_y (pc := 136) (tgt := 149) C hcan (by decide) dX6_relate_136 ?_
  refine a_aloadn (pc := 149) C 0 rfl rfl dX6_relate_149 ?_
  refine a_callV0 (pc := 150) (k' := 0) (n' := 0) C (c_X6_settle κ b hun (by omega) hJ2 hos2 hts2) yv_X6_settle ml_X6_104 wi_X6_settle wl_X6_settle 0 rfl rfl rfl rfl (Nat.le_of_ble_eq_true rfl) (Nat.le_of_ble_eq_true rfl) (Nat.le_of_ble_eq_true rfl) ⟨(Nat.le_of_ble_eq_true rfl), (Nat.le_of_ble_eq_true rfl)⟩ rfl rfl dX6_relate_150 ?_
  refine a_iload (pc := 153) C 4 rfl dX6_relate_153 ?_
  refine a_ifb_eq_n (pc := 155) C hcan dX6_relate_155 ⟨162, by decide⟩ ?_
  refine a_iconst (pc := 158) (v := nI 0) C ci_0 dX6_relate_158 ?_
  refine a_goto (pc := 159) (tgt := 163) C (by decide) dX6_relate_159 ?_
  exact a_iret (pc := 163) C E (Nat.le_of_ble_eq_true rfl) (Nat.le_of_ble_eq_true rfl) ⟨rfl, rfl⟩ dX6_relate_163

set_option maxHeartbeats 4000000 in
set_option maxRecDepth 100000 in
theorem c_X6_relate_z (κ : aK) (b : Nat → Nat) {th : Int32} {un : Nat} {ss : Nat → Int32} {fi : Nat → Int32} {la : Nat → Int32} {da : Nat → Bool} {dg : Nat → Bool} {ps : Nat → Int32} {rn : Nat} {ks : Nat → Int32} {os : Nat → Nat} {ts : Nat → Nat} {fn : Nat} {fp : Nat → Int32} {bo : Nat → Nat} {eE : Nat → Nat → Bool} {lE : Nat → Nat → Bool} {li : Nat → Nat → Bool} {be : Nat → Int32} {ab : Nat → Int32} {X : va_W} {kd : Int32} {x : Nat} {y : Nat} (hun : un ≤ 40) (hr : rn < 80) (hbo : ∀ u, bo u < 40) (hos : ∀ u, os u < 40) (hts : ∀ u, ts u < 40) (hk : okU 5 kd) (hx : x < un) (hy : y < un) (c1 : ¬ x = y) (c2 : sfB kd (ss x) (ss y) = true) (c3 : anyB (toldP ks os ts kd x y) rn = false) (hcan : (!(anyB (fun u => sE (va_up ks rn kd) (va_up os rn x) (va_up ts rn y) bo un (rn + 1) eE u u) un)) = false) : CM yX6_relate cX6_relate 5 (some .int) ({ frames := 4, cells := 0, slots := 0, locals := 88 } : Room) κ [.ref (b 0), .int kd, .int (nI x), .int (nI y)] (wM κ b th un ss fi la da dg ps rn ks os ts fn fp bo eE lE li be ab X) (aD (some (.int (nI 4))) (wM κ b (nI 0) un ss fi la da dg ps rn (va_up ks rn kd) (va_up os rn x) (va_up ts rn y) fn fp (sJ (va_up ks rn kd) (va_up os rn x) (va_up ts rn y) (sJ (va_up ks rn kd) (va_up os rn x) (va_up ts rn y) bo un (rn + 1)) un rn) (sE (va_up ks rn kd) (va_up os rn x) (va_up ts rn y) (sJ (va_up ks rn kd) (va_up os rn x) (va_up ts rn y) bo un (rn + 1)) un rn (sE (va_up ks rn kd) (va_up os rn x) (va_up ts rn y) bo un (rn + 1) eE)) (sLt (sE (va_up ks rn kd) (va_up os rn x) (va_up ts rn y) (sJ (va_up ks rn kd) (va_up os rn x) (va_up ts rn y) bo un (rn + 1)) un rn (sE (va_up ks rn kd) (va_up os rn x) (va_up ts rn y) bo un (rn + 1) eE)) un lE) (sLi (sE (va_up ks rn kd) (va_up os rn x) (va_up ts rn y) (sJ (va_up ks rn kd) (va_up os rn x) (va_up ts rn y) bo un (rn + 1)) un rn (sE (va_up ks rn kd) (va_up os rn x) (va_up ts rn y) bo un (rn + 1) eE)) un li) (sRk (sE (va_up ks rn kd) (va_up os rn x) (va_up ts rn y) (sJ (va_up ks rn kd) (va_up os rn x) (va_up ts rn y) bo un (rn + 1)) un rn (sE (va_up ks rn kd) (va_up os rn x) (va_up ts rn y) bo un (rn + 1) eE)) un be) (sRk (sLt (sE (va_up ks rn kd) (va_up os rn x) (va_up ts rn y) (sJ (va_up ks rn kd) (va_up os rn x) (va_up ts rn y) bo un (rn + 1)) un rn (sE (va_up ks rn kd) (va_up os rn x) (va_up ts rn y) bo un (rn + 1) eE)) un lE) un ab) X)) := by
  refine cm_entry (own := RX6) (L := [(0, .ref (b 0)), (1, .int kd), (2, .int (nI x)), (3, .int (nI y))]) (by decide +kernel) rfl (lv_entry [.ref (b 0), .int kd, .int (nI x), .int (nI y)] (n := 5) (Nat.le_of_ble_eq_true rfl)) (fun g C E => ?_)
  have hos2 : ∀ u, va_up os rn x u < 40 := upn_lt hos (by omega)
  have hts2 : ∀ u, va_up ts rn y u < 40 := upn_lt hts (by omega)
  have hJ2 : ∀ u, sJ (va_up ks rn kd) (va_up os rn x) (va_up ts rn y) bo un (rn + 1) u < 40 := jW_lt 1600 (pre_lt (fun u hu => by omega) hbo)
  refine a_aloadn (pc := 0) C 0 rfl rfl dX6_relate_0 ?_
  refine a_iconst (pc := 1) (v := nI 0) C ci_0 dX6_relate_1 ?_
  refine a_put (pc := 2) (ws' := wM κ b (nI 0) un ss fi la da dg ps rn ks os ts fn fp bo eE lE li be ab X) C fl_X6_60 fp_X6_0 0 rfl rfl rfl (Nat.le_of_ble_eq_true rfl) rfl dX6_relate_2 ?_
  refine a_iloadn (pc := 5) C 1 rfl rfl dX6_relate_5 ?_
  refine a_iconst (pc := 6) (v := nI 0) C ci_0 dX6_relate_6 ?_
  refine a_iconst (pc := 7) (v := nI 4) C ci_4 dX6_relate_7 ?_
  refine a_callS1 (pc := 8) (k' := 0) (n' := 0) C (c_X6_isIn κ) yv_X6_isIn ml_X6_67 ws_X6_isIn rfl rfl (Nat.le_of_ble_eq_true rfl) (Nat.le_of_ble_eq_true rfl) (Nat.le_of_ble_eq_true rfl) ⟨(Nat.le_of_ble_eq_true rfl), (Nat.le_of_ble_eq_true rfl)⟩ rfl rfl dX6_relate_8 ?_
  refine a_ifb_ne_y (pc := 11) (tgt := 20) C ((okU_c (by omega)).mpr hk) (by decide) dX6_relate_11 ?_
  refine a_aloadn (pc := 20) C 0 rfl rfl dX6_relate_20 ?_
  refine a_iloadn (pc := 21) C 2 rfl rfl dX6_relate_21 ?_
  refine a_callV1 (pc := 22) (k' := 0) (n' := 0) C (c_X6_isUnit κ b) yv_X6_isUnit ml_X6_107 wi_X6_isUnit wl_X6_isUnit 0 rfl rfl rfl rfl (Nat.le_of_ble_eq_true rfl) (Nat.le_of_ble_eq_true rfl) (Nat.le_of_ble_eq_true rfl) ⟨(Nat.le_of_ble_eq_true rfl), (Nat.le_of_ble_eq_true rfl)⟩ rfl rfl dX6_relate_22 ?_
  refine a_ifb_eq_n (pc := 25) C ((okU_n (by omega)).mpr (okU_j hx)) dX6_relate_25 ⟨36, by decide⟩ ?_
  refine a_aloadn (pc := 28) C 0 rfl rfl dX6_relate_28 ?_
  refine a_iloadn (pc := 29) C 3 rfl rfl dX6_relate_29 ?_
  refine a_callV1 (pc := 30) (k' := 0) (n' := 0) C (c_X6_isUnit κ b) yv_X6_isUnit ml_X6_107 wi_X6_isUnit wl_X6_isUnit 0 rfl rfl rfl rfl (Nat.le_of_ble_eq_true rfl) (Nat.le_of_ble_eq_true rfl) (Nat.le_of_ble_eq_true rfl) ⟨(Nat.le_of_ble_eq_true rfl), (Nat.le_of_ble_eq_true rfl)⟩ rfl rfl dX6_relate_30 ?_
  refine a_ifb_ne_y (pc := 33) (tgt := 42) C ((okU_n (by omega)).mpr (okU_j hy)) (by decide) dX6_relate_33 ?_
  refine a_aloadn (pc := 42) C 0 rfl rfl dX6_relate_42 ?_
  refine a_get (pc := 43) C fl_X6_71 0 rfl rfl dX6_relate_43 ?_
  refine a_bipush (pc := 46) (v := nI 80) C cb_80 dX6_relate_46 ?_
  refine a_icn_ne_y (pc := 48) (tgt := 57) C (by omega) (by omega) (by omega) (by decide) dX6_relate_48 ?_
  refine a_iloadn (pc := 57) C 2 rfl rfl dX6_relate_57 ?_
  refine a_iloadn (pc := 58) C 3 rfl rfl dX6_relate_58 ?_
  refine a_icn_ne_y (pc := 59) (tgt := 64) C (by omega) (by omega) c1 (by decide) dX6_relate_59 ?_
  refine a_aloadn (pc := 64) C 0 rfl rfl dX6_relate_64 ?_
  refine a_iloadn (pc := 65) C 1 rfl rfl dX6_relate_65 ?_
  refine a_iloadn (pc := 66) C 2 rfl rfl dX6_relate_66 ?_
  refine a_iloadn (pc := 67) C 3 rfl rfl dX6_relate_67 ?_
  refine a_callV1 (pc := 68) (k' := 0) (n' := 0) C (c_X6_areSorts κ b hk (by omega) (by omega)) yv_X6_areSorts ml_X6_111 wi_X6_areSorts wl_X6_areSorts 0 rfl rfl rfl rfl (Nat.le_of_ble_eq_true rfl) (Nat.le_of_ble_eq_true rfl) (Nat.le_of_ble_eq_true rfl) ⟨(Nat.le_of_ble_eq_true rfl), (Nat.le_of_ble_eq_true rfl)⟩ rfl rfl dX6_relate_68 ?_
  refine a_ifb_ne_y (pc := 71) (tgt := 76) C c2 (by decide) dX6_relate_71 ?_
  refine a_aloadn (pc := 76) C 0 rfl rfl dX6_relate_76 ?_
  refine a_iloadn (pc := 77) C 1 rfl rfl dX6_relate_77 ?_
  refine a_iloadn (pc := 78) C 2 rfl rfl dX6_relate_78 ?_
  refine a_iloadn (pc := 79) C 3 rfl rfl dX6_relate_79 ?_
  refine a_callV1 (pc := 80) (k' := 0) (n' := 0) C (c_X6_isTold κ b (by omega) hos hts (by omega) (by omega)) yv_X6_isTold ml_X6_114 wi_X6_isTold wl_X6_isTold 0 rfl rfl rfl rfl (Nat.le_of_ble_eq_true rfl) (Nat.le_of_ble_eq_true rfl) (Nat.le_of_ble_eq_true rfl) ⟨(Nat.le_of_ble_eq_true rfl), (Nat.le_of_ble_eq_true rfl)⟩ rfl rfl dX6_relate_80 ?_
  refine a_ifb_eq_y (pc := 83) (tgt := 88) C c3 (by decide) dX6_relate_83 ?_
  refine a_aloadn (pc := 88) C 0 rfl rfl dX6_relate_88 ?_
  refine a_get (pc := 89) C fl_X6_29 0 rfl rfl dX6_relate_89 ?_
  refine a_aloadn (pc := 92) C 0 rfl rfl dX6_relate_92 ?_
  refine a_get (pc := 93) C fl_X6_71 0 rfl rfl dX6_relate_93 ?_
  refine a_iloadn (pc := 96) C 1 rfl rfl dX6_relate_96 ?_
  refine a_iast (pc := 97) (ws' := wM κ b (nI 0) un ss fi la da dg ps rn (va_up ks rn kd) os ts fn fp bo eE lE li be ab X) C 7 rfl (by omega) (by decide) rfl rfl dX6_relate_97 ?_
  refine a_aloadn (pc := 98) C 0 rfl rfl dX6_relate_98 ?_
  refine a_get (pc := 99) C fl_X6_32 0 rfl rfl dX6_relate_99 ?_
  refine a_aloadn (pc := 102) C 0 rfl rfl dX6_relate_102 ?_
  refine a_get (pc := 103) C fl_X6_71 0 rfl rfl dX6_relate_103 ?_
  refine a_iloadn (pc := 106) C 2 rfl rfl dX6_relate_106 ?_
  refine a_iast (pc := 107) (ws' := wM κ b (nI 0) un ss fi la da dg ps rn (va_up ks rn kd) (va_up os rn x) ts fn fp bo eE lE li be ab X) C 8 rfl (by omega) (by decide) (fN_up _ _ _) rfl dX6_relate_107 ?_
  refine a_aloadn (pc := 108) C 0 rfl rfl dX6_relate_108 ?_
  refine a_get (pc := 109) C fl_X6_35 0 rfl rfl dX6_relate_109 ?_
  refine a_aloadn (pc := 112) C 0 rfl rfl dX6_relate_112 ?_
  refine a_get (pc := 113) C fl_X6_71 0 rfl rfl dX6_relate_113 ?_
  refine a_iloadn (pc := 116) C 3 rfl rfl dX6_relate_116 ?_
  refine a_iast (pc := 117) (ws' := wM κ b (nI 0) un ss fi la da dg ps rn (va_up ks rn kd) (va_up os rn x) (va_up ts rn y) fn fp bo eE lE li be ab X) C 9 rfl (by omega) (by decide) (fN_up _ _ _) rfl dX6_relate_117 ?_
  refine a_aloadn (pc := 118) C 0 rfl rfl dX6_relate_118 ?_
  refine a_dup (pc := 119) C rfl dX6_relate_119 ?_
  refine a_get (pc := 120) C fl_X6_71 0 rfl rfl dX6_relate_120 ?_
  refine a_iconst (pc := 123) (v := nI 1) C ci_1 dX6_relate_123 ?_
  refine a_iadd (pc := 124) (v := nI (rn + 1)) C (nI_add _ _) dX6_relate_124 ?_
  refine a_put (pc := 125) (ws' := wM κ b (nI 0) un ss fi la da dg ps (rn + 1) (va_up ks rn kd) (va_up os rn x) (va_up ts rn y) fn fp bo eE lE li be ab X) C fl_X6_71 fp_X6_8 0 rfl rfl rfl (Nat.le_of_ble_eq_true rfl) rfl dX6_relate_125 ?_
  refine a_aloadn (pc := 128) C 0 rfl rfl dX6_relate_128 ?_
  refine a_callV1 (pc := 129) (k' := 0) (n' := 0) C (c_X6_follow κ b hun (by omega) hbo hos2 hts2) yv_X6_follow ml_X6_87 wi_X6_follow wl_X6_follow 0 rfl rfl rfl rfl (Nat.le_of_ble_eq_true rfl) (Nat.le_of_ble_eq_true rfl) (Nat.le_of_ble_eq_true rfl) ⟨(Nat.le_of_ble_eq_true rfl), (Nat.le_of_ble_eq_true rfl)⟩ rfl rfl dX6_relate_129 ?_
  refine a_istore (pc := 132) (L' := [(0, .ref (b 0)), (1, .int kd), (2, .int (nI x)), (3, .int (nI y)), (4, .int (b2i (!(anyB (fun u => sE (va_up ks rn kd) (va_up os rn x) (va_up ts rn y) bo un (rn + 1) eE u u) un))))]) C (by decide) rfl dX6_relate_132 ?_
  refine a_iload (pc := 134) C 4 rfl dX6_relate_134 ?_
  refine a_ifb_ne_n (pc := 136) C hcan dX6_relate_136 ⟨149, by decide⟩ ?_
  refine a_aloadn (pc := 139) C 0 rfl rfl dX6_relate_139 ?_
  refine a_dup (pc := 140) C rfl dX6_relate_140 ?_
  refine a_get (pc := 141) C fl_X6_71 0 rfl rfl dX6_relate_141 ?_
  refine a_iconst (pc := 144) (v := nI 1) C ci_1 dX6_relate_144 ?_
  refine a_isub (pc := 145) (v := nI rn) C (nI_subc _ _) dX6_relate_145 ?_
  refine a_put (pc := 146) (ws' := wM κ b (nI 0) un ss fi la da dg ps rn (va_up ks rn kd) (va_up os rn x) (va_up ts rn y) fn fp (sJ (va_up ks rn kd) (va_up os rn x) (va_up ts rn y) bo un (rn + 1)) (sE (va_up ks rn kd) (va_up os rn x) (va_up ts rn y) bo un (rn + 1) eE) lE li be ab X) C fl_X6_71 fp_X6_8 0 rfl rfl rfl (Nat.le_of_ble_eq_true rfl) rfl dX6_relate_146 ?_
  refine a_aloadn (pc := 149) C 0 rfl rfl dX6_relate_149 ?_
  refine a_callV0 (pc := 150) (k' := 0) (n' := 0) C (c_X6_settle κ b hun (by omega) hJ2 hos2 hts2) yv_X6_settle ml_X6_104 wi_X6_settle wl_X6_settle 0 rfl rfl rfl rfl (Nat.le_of_ble_eq_true rfl) (Nat.le_of_ble_eq_true rfl) (Nat.le_of_ble_eq_true rfl) ⟨(Nat.le_of_ble_eq_true rfl), (Nat.le_of_ble_eq_true rfl)⟩ rfl rfl dX6_relate_150 ?_
  refine a_iload (pc := 153) C 4 rfl dX6_relate_153 ?_
  refine a_ifb_eq_y (pc := 155) (tgt := 162) C hcan (by decide) dX6_relate_155 ?_
  refine a_iconst (pc := 162) (v := nI 4) C ci_4 dX6_relate_162 ?_
  exact a_iret (pc := 163) C E (Nat.le_of_ble_eq_true rfl) (Nat.le_of_ble_eq_true rfl) ⟨rfl, rfl⟩ dX6_relate_163

set_option maxHeartbeats 4000000 in
set_option maxRecDepth 100000 in
theorem c_X6_takeBack_b1 (κ : aK) (b : Nat → Nat) {th : Int32} {un : Nat} {ss : Nat → Int32} {fi : Nat → Int32} {la : Nat → Int32} {da : Nat → Bool} {dg : Nat → Bool} {ps : Nat → Int32} {rn : Nat} {ks : Nat → Int32} {os : Nat → Nat} {ts : Nat → Nat} {fn : Nat} {fp : Nat → Int32} {bo : Nat → Nat} {eE : Nat → Nat → Bool} {lE : Nat → Nat → Bool} {li : Nat → Nat → Bool} {be : Nat → Int32} {ab : Nat → Int32} {X : va_W} {x : Int32} (hrn : rn ≤ 80) (hb : ¬ okU rn x) : CM yX6_takeBack cX6_takeBack 3 (some .int) ({ frames := 4, cells := 0, slots := 0, locals := 88 } : Room) κ [.ref (b 0), .int x] (wM κ b th un ss fi la da dg ps rn ks os ts fn fp bo eE lE li be ab X) (aD (some (.int (nI 0))) (wM κ b (nI 1) un ss fi la da dg ps rn ks os ts fn fp bo eE lE li be ab X)) := by
  refine cm_entry (own := RX6) (L := [(0, .ref (b 0)), (1, .int x)]) (by decide +kernel) rfl (lv_entry [.ref (b 0), .int x] (n := 3) (Nat.le_of_ble_eq_true rfl)) (fun g C E => ?_)
  refine a_aloadn (pc := 0) C 0 rfl rfl dX6_takeBack_0 ?_
  refine a_iconst (pc := 1) (v := nI 0) C ci_0 dX6_takeBack_1 ?_
  refine a_put (pc := 2) (ws' := wM κ b (nI 0) un ss fi la da dg ps rn ks os ts fn fp bo eE lE li be ab X) C fl_X6_60 fp_X6_0 0 rfl rfl rfl (Nat.le_of_ble_eq_true rfl) rfl dX6_takeBack_2 ?_
  refine a_iloadn (pc := 5) C 1 rfl rfl dX6_takeBack_5 ?_
  refine a_iconst (pc := 6) (v := nI 0) C ci_0 dX6_takeBack_6 ?_
  refine a_aloadn (pc := 7) C 0 rfl rfl dX6_takeBack_7 ?_
  refine a_get (pc := 8) C fl_X6_71 0 rfl rfl dX6_takeBack_8 ?_
  refine a_iconst (pc := 11) (v := nI 1) C ci_1 dX6_takeBack_11 ?_
  refine a_isub (pc := 12) (v := nI rn - nI 1) C rfl dX6_takeBack_12 ?_
  refine a_callS1 (pc := 13) (k' := 0) (n' := 0) C (c_X6_isIn κ) yv_X6_isIn ml_X6_67 ws_X6_isIn rfl rfl (Nat.le_of_ble_eq_true rfl) (Nat.le_of_ble_eq_true rfl) (Nat.le_of_ble_eq_true rfl) ⟨(Nat.le_of_ble_eq_true rfl), (Nat.le_of_ble_eq_true rfl)⟩ rfl rfl dX6_takeBack_13 ?_
  refine a_ifb_ne_n (pc := 16) C (okU_nf (by omega) hb) dX6_takeBack_16 ⟨25, by decide⟩ ?_
  refine a_aloadn (pc := 19) C 0 rfl rfl dX6_takeBack_19 ?_
  refine a_iconst (pc := 20) (v := nI 1) C ci_1 dX6_takeBack_20 ?_
  refine a_callV1 (pc := 21) (k' := 0) (n' := 0) C (c_X6_no κ b) yv_X6_no ml_X6_100 wi_X6_no wl_X6_no 0 rfl rfl rfl rfl (Nat.le_of_ble_eq_true rfl) (Nat.le_of_ble_eq_true rfl) (Nat.le_of_ble_eq_true rfl) ⟨(Nat.le_of_ble_eq_true rfl), (Nat.le_of_ble_eq_true rfl)⟩ rfl rfl dX6_takeBack_21 ?_
  exact a_iret (pc := 24) C E (Nat.le_of_ble_eq_true rfl) (Nat.le_of_ble_eq_true rfl) ⟨rfl, rfl⟩ dX6_takeBack_24

set_option maxHeartbeats 4000000 in
set_option maxRecDepth 100000 in
theorem c_X6_takeBack (κ : aK) (b : Nat → Nat) {th : Int32} {un : Nat} {ss : Nat → Int32} {fi : Nat → Int32} {la : Nat → Int32} {da : Nat → Bool} {dg : Nat → Bool} {ps : Nat → Int32} {rn : Nat} {ks : Nat → Int32} {os : Nat → Nat} {ts : Nat → Nat} {fn : Nat} {fp : Nat → Int32} {bo : Nat → Nat} {eE : Nat → Nat → Bool} {lE : Nat → Nat → Bool} {li : Nat → Nat → Bool} {be : Nat → Int32} {ab : Nat → Int32} {X : va_W} {j0 : Nat} (hun : un ≤ 40) (hrn : rn ≤ 80) (hbo : ∀ u, bo u < 40) (hos : ∀ u, os u < 40) (hts : ∀ u, ts u < 40) (hj : j0 < rn) : CM yX6_takeBack cX6_takeBack 3 (some .int) ({ frames := 4, cells := 0, slots := 0, locals := 88 } : Room) κ [.ref (b 0), .int (nI j0)] (wM κ b th un ss fi la da dg ps rn ks os ts fn fp bo eE lE li be ab X) (aD (some (.int (nI (rn - 1)))) (wM κ b (nI 0) un ss fi la da dg ps (rn - 1) (sft ks j0 rn) (sft os j0 rn) (sft ts j0 rn) fn fp (sJ (sft ks j0 rn) (sft os j0 rn) (sft ts j0 rn) bo un (rn - 1)) (sE (sft ks j0 rn) (sft os j0 rn) (sft ts j0 rn) bo un (rn - 1) eE) (sLt (sE (sft ks j0 rn) (sft os j0 rn) (sft ts j0 rn) bo un (rn - 1) eE) un lE) (sLi (sE (sft ks j0 rn) (sft os j0 rn) (sft ts j0 rn) bo un (rn - 1) eE) un li) (sRk (sE (sft ks j0 rn) (sft os j0 rn) (sft ts j0 rn) bo un (rn - 1) eE) un be) (sRk (sLt (sE (sft ks j0 rn) (sft os j0 rn) (sft ts j0 rn) bo un (rn - 1) eE) un lE) un ab) X)) := by
  refine cm_entry (own := RX6) (L := [(0, .ref (b 0)), (1, .int (nI j0))]) (by decide +kernel) rfl (lv_entry [.ref (b 0), .int (nI j0)] (n := 3) (Nat.le_of_ble_eq_true rfl)) (fun g C E => ?_)
  refine a_aloadn (pc := 0) C 0 rfl rfl dX6_takeBack_0 ?_
  refine a_iconst (pc := 1) (v := nI 0) C ci_0 dX6_takeBack_1 ?_
  refine a_put (pc := 2) (ws' := wM κ b (nI 0) un ss fi la da dg ps rn ks os ts fn fp bo eE lE li be ab X) C fl_X6_60 fp_X6_0 0 rfl rfl rfl (Nat.le_of_ble_eq_true rfl) rfl dX6_takeBack_2 ?_
  refine a_iloadn (pc := 5) C 1 rfl rfl dX6_takeBack_5 ?_
  refine a_iconst (pc := 6) (v := nI 0) C ci_0 dX6_takeBack_6 ?_
  refine a_aloadn (pc := 7) C 0 rfl rfl dX6_takeBack_7 ?_
  refine a_get (pc := 8) C fl_X6_71 0 rfl rfl dX6_takeBack_8 ?_
  refine a_iconst (pc := 11) (v := nI 1) C ci_1 dX6_takeBack_11 ?_
  refine a_isub (pc := 12) (v := nI rn - nI 1) C rfl dX6_takeBack_12 ?_
  refine a_callS1 (pc := 13) (k' := 0) (n' := 0) C (c_X6_isIn κ) yv_X6_isIn ml_X6_67 ws_X6_isIn rfl rfl (Nat.le_of_ble_eq_true rfl) (Nat.le_of_ble_eq_true rfl) (Nat.le_of_ble_eq_true rfl) ⟨(Nat.le_of_ble_eq_true rfl), (Nat.le_of_ble_eq_true rfl)⟩ rfl rfl dX6_takeBack_13 ?_
  refine a_ifb_ne_y (pc := 16) (tgt := 25) C ((okU_n (by omega)).mpr (okU_j hj)) (by decide) dX6_takeBack_16 ?_
  refine a_iloadn (pc := 25) C 1 rfl rfl dX6_takeBack_25 ?_
  refine a_istoren (pc := 26) (L' := [(0, .ref (b 0)), (1, .int (nI j0)), (2, .int (nI j0))]) C (by decide) rfl rfl dX6_takeBack_26 ?_
  have LP27 : ∀ (jz k : Nat), k + jz = rn - 1 → (j0 ≤ k) → aw g κ 3 27 [(0, .ref (b 0)), (1, .int (nI j0)), (2, .int (nI k))] [] (wM κ b (nI 0) un ss fi la da dg ps rn (sft ks j0 (k + 1)) (sft os j0 (k + 1)) (sft ts j0 (k + 1)) fn fp bo eE lE li be ab X) 0 0 := by
    intro jz
    induction jz with
    | zero =>
      intro k hk_k hjk
      obtain rfl : rn - 1 = k := by omega
      refine aw_eq (congrArg (fun zz9 => wM κ b (nI 0) un ss fi la da dg ps rn zz9 (sft os j0 ((rn - 1) + 1)) (sft ts j0 ((rn - 1) + 1)) fn fp bo eE lE li be ab X) ((by rw [show rn - 1 + 1 = rn by omega]) : (sft ks j0 ((rn - 1) + 1)) = (sft ks j0 rn))) ?_
      refine aw_eq (congrArg (fun zz9 => wM κ b (nI 0) un ss fi la da dg ps rn (sft ks j0 rn) zz9 (sft ts j0 ((rn - 1) + 1)) fn fp bo eE lE li be ab X) ((by rw [show rn - 1 + 1 = rn by omega]) : (sft os j0 ((rn - 1) + 1)) = (sft os j0 rn))) ?_
      refine aw_eq (congrArg (fun zz9 => wM κ b (nI 0) un ss fi la da dg ps rn (sft ks j0 rn) (sft os j0 rn) zz9 fn fp bo eE lE li be ab X) ((by rw [show rn - 1 + 1 = rn by omega]) : (sft ts j0 ((rn - 1) + 1)) = (sft ts j0 rn))) ?_
      refine a_iloadn (pc := 27) C 2 rfl rfl dX6_takeBack_27 ?_
      refine a_iconst (pc := 28) (v := nI 1) C ci_1 dX6_takeBack_28 ?_
      refine a_iadd (pc := 29) (v := nI ((rn - 1) + 1)) C (nI_add _ _) dX6_takeBack_29 ?_
      refine a_aloadn (pc := 30) C 0 rfl rfl dX6_takeBack_30 ?_
      refine a_get (pc := 31) C fl_X6_71 0 rfl rfl dX6_takeBack_31 ?_
      refine a_icn_ge_y (pc := 34) (tgt := 85) C (by omega) (by omega) (by omega) (by decide) dX6_takeBack_34 ?_
      refine a_aloadn (pc := 85) C 0 rfl rfl dX6_takeBack_85 ?_
      refine a_dup (pc := 86) C rfl dX6_takeBack_86 ?_
      refine a_get (pc := 87) C fl_X6_71 0 rfl rfl dX6_takeBack_87 ?_
      refine a_iconst (pc := 90) (v := nI 1) C ci_1 dX6_takeBack_90 ?_
      refine a_isub (pc := 91) (v := nI (rn - 1)) C (pk_sub (by omega)) dX6_takeBack_91 ?_
      refine a_put (pc := 92) (ws' := wM κ b (nI 0) un ss fi la da dg ps (rn - 1) (sft ks j0 rn) (sft os j0 rn) (sft ts j0 rn) fn fp bo eE lE li be ab X) C fl_X6_71 fp_X6_8 0 rfl rfl rfl (Nat.le_of_ble_eq_true rfl) rfl dX6_takeBack_92 ?_
      refine a_aloadn (pc := 95) C 0 rfl rfl dX6_takeBack_95 ?_
      refine a_callV0 (pc := 96) (k' := 0) (n' := 0) C (c_X6_settle κ b hun (by omega) hbo (sft_lt hos) (sft_lt hts)) yv_X6_settle ml_X6_104 wi_X6_settle wl_X6_settle 0 rfl rfl rfl rfl (Nat.le_of_ble_eq_true rfl) (Nat.le_of_ble_eq_true rfl) (Nat.le_of_ble_eq_true rfl) ⟨(Nat.le_of_ble_eq_true rfl), (Nat.le_of_ble_eq_true rfl)⟩ rfl rfl dX6_takeBack_96 ?_
      refine a_aloadn (pc := 99) C 0 rfl rfl dX6_takeBack_99 ?_
      refine a_get (pc := 100) C fl_X6_71 0 rfl rfl dX6_takeBack_100 ?_
      exact a_iret (pc := 103) C E (Nat.le_of_ble_eq_true rfl) (Nat.le_of_ble_eq_true rfl) ⟨rfl, rfl⟩ dX6_takeBack_103
    | succ jz ih =>
      intro k hk_k hjk
      have hlt_k : k < rn - 1 := by omega
      refine a_iloadn (pc := 27) C 2 rfl rfl dX6_takeBack_27 ?_
      refine a_iconst (pc := 28) (v := nI 1) C ci_1 dX6_takeBack_28 ?_
      refine a_iadd (pc := 29) (v := nI (k + 1)) C (nI_add _ _) dX6_takeBack_29 ?_
      refine a_aloadn (pc := 30) C 0 rfl rfl dX6_takeBack_30 ?_
      refine a_get (pc := 31) C fl_X6_71 0 rfl rfl dX6_takeBack_31 ?_
      refine a_icn_ge_n (pc := 34) C (by omega) (by omega) (by omega) dX6_takeBack_34 ⟨85, by decide⟩ ?_
      refine a_aloadn (pc := 37) C 0 rfl rfl dX6_takeBack_37 ?_
      refine a_get (pc := 38) C fl_X6_29 0 rfl rfl dX6_takeBack_38 ?_
      refine a_iloadn (pc := 41) C 2 rfl rfl dX6_takeBack_41 ?_
      refine a_aloadn (pc := 42) C 0 rfl rfl dX6_takeBack_42 ?_
      refine a_get (pc := 43) C fl_X6_29 0 rfl rfl dX6_takeBack_43 ?_
      refine a_iloadn (pc := 46) C 2 rfl rfl dX6_takeBack_46 ?_
      refine a_iconst (pc := 47) (v := nI 1) C ci_1 dX6_takeBack_47 ?_
      refine a_iadd (pc := 48) (v := nI (k + 1)) C (nI_add _ _) dX6_takeBack_48 ?_
      refine a_iald (pc := 49) C 7 rfl (by omega) (by decide) dX6_takeBack_49 ?_
      refine a_iast (pc := 50) (ws' := wM κ b (nI 0) un ss fi la da dg ps rn (va_up (sft ks j0 (k + 1)) k ((sft ks j0 (k + 1)) (k + 1))) (sft os j0 (k + 1)) (sft ts j0 (k + 1)) fn fp bo eE lE li be ab X) C 7 rfl (by omega) (by decide) rfl rfl dX6_takeBack_50 ?_
      refine a_aloadn (pc := 51) C 0 rfl rfl dX6_takeBack_51 ?_
      refine a_get (pc := 52) C fl_X6_32 0 rfl rfl dX6_takeBack_52 ?_
      refine a_iloadn (pc := 55) C 2 rfl rfl dX6_takeBack_55 ?_
      refine a_aloadn (pc := 56) C 0 rfl rfl dX6_takeBack_56 ?_
      refine a_get (pc := 57) C fl_X6_32 0 rfl rfl dX6_takeBack_57 ?_
      refine a_iloadn (pc := 60) C 2 rfl rfl dX6_takeBack_60 ?_
      refine a_iconst (pc := 61) (v := nI 1) C ci_1 dX6_takeBack_61 ?_
      refine a_iadd (pc := 62) (v := nI (k + 1)) C (nI_add _ _) dX6_takeBack_62 ?_
      refine a_ialdN (pc := 63) C 8 rfl (by omega) (by decide) dX6_takeBack_63 ?_
      refine a_iast (pc := 64) (ws' := wM κ b (nI 0) un ss fi la da dg ps rn (va_up (sft ks j0 (k + 1)) k ((sft ks j0 (k + 1)) (k + 1))) (va_up (sft os j0 (k + 1)) k ((sft os j0 (k + 1)) (k + 1))) (sft ts j0 (k + 1)) fn fp bo eE lE li be ab X) C 8 rfl (by omega) (by decide) (fN_up _ _ _) rfl dX6_takeBack_64 ?_
      refine a_aloadn (pc := 65) C 0 rfl rfl dX6_takeBack_65 ?_
      refine a_get (pc := 66) C fl_X6_35 0 rfl rfl dX6_takeBack_66 ?_
      refine a_iloadn (pc := 69) C 2 rfl rfl dX6_takeBack_69 ?_
      refine a_aloadn (pc := 70) C 0 rfl rfl dX6_takeBack_70 ?_
      refine a_get (pc := 71) C fl_X6_35 0 rfl rfl dX6_takeBack_71 ?_
      refine a_iloadn (pc := 74) C 2 rfl rfl dX6_takeBack_74 ?_
      refine a_iconst (pc := 75) (v := nI 1) C ci_1 dX6_takeBack_75 ?_
      refine a_iadd (pc := 76) (v := nI (k + 1)) C (nI_add _ _) dX6_takeBack_76 ?_
      refine a_ialdN (pc := 77) C 9 rfl (by omega) (by decide) dX6_takeBack_77 ?_
      refine a_iast (pc := 78) (ws' := wM κ b (nI 0) un ss fi la da dg ps rn (va_up (sft ks j0 (k + 1)) k ((sft ks j0 (k + 1)) (k + 1))) (va_up (sft os j0 (k + 1)) k ((sft os j0 (k + 1)) (k + 1))) (va_up (sft ts j0 (k + 1)) k ((sft ts j0 (k + 1)) (k + 1))) fn fp bo eE lE li be ab X) C 9 rfl (by omega) (by decide) (fN_up _ _ _) rfl dX6_takeBack_78 ?_
      refine a_iinc (pc := 79) (v := nI (k + 1)) (L' := [(0, .ref (b 0)), (1, .int (nI j0)), (2, .int (nI (k + 1)))]) C 2 rfl (nI_inc _) (by decide) rfl dX6_takeBack_79 ?_
      refine a_goto (pc := 82) (tgt := 27) C (by decide) dX6_takeBack_82 ?_
      refine aw_eq (congrArg (fun zz9 => wM κ b (nI 0) un ss fi la da dg ps rn zz9 (va_up (sft os j0 (k + 1)) k ((sft os j0 (k + 1)) (k + 1))) (va_up (sft ts j0 (k + 1)) k ((sft ts j0 (k + 1)) (k + 1))) fn fp bo eE lE li be ab X) (sft_s ks (Nat.succ_le_succ hjk) : (va_up (sft ks j0 (k + 1)) k ((sft ks j0 (k + 1)) (k + 1))) = (sft ks j0 ((k + 1) + 1)))) ?_
      refine aw_eq (congrArg (fun zz9 => wM κ b (nI 0) un ss fi la da dg ps rn (sft ks j0 ((k + 1) + 1)) zz9 (va_up (sft ts j0 (k + 1)) k ((sft ts j0 (k + 1)) (k + 1))) fn fp bo eE lE li be ab X) (sft_s os (Nat.succ_le_succ hjk) : (va_up (sft os j0 (k + 1)) k ((sft os j0 (k + 1)) (k + 1))) = (sft os j0 ((k + 1) + 1)))) ?_
      refine aw_eq (congrArg (fun zz9 => wM κ b (nI 0) un ss fi la da dg ps rn (sft ks j0 ((k + 1) + 1)) (sft os j0 ((k + 1) + 1)) zz9 fn fp bo eE lE li be ab X) (sft_s ts (Nat.succ_le_succ hjk) : (va_up (sft ts j0 (k + 1)) k ((sft ts j0 (k + 1)) (k + 1))) = (sft ts j0 ((k + 1) + 1)))) ?_
      exact ih (k + 1) (by omega) (Nat.le_succ_of_le hjk)
  refine aw_eq (congrArg (fun zz9 => wM κ b (nI 0) un ss fi la da dg ps rn zz9 os ts fn fp bo eE lE li be ab X) ((sft_0 _ _).symm : ks = (sft ks j0 (j0 + 1)))) ?_
  refine aw_eq (congrArg (fun zz9 => wM κ b (nI 0) un ss fi la da dg ps rn (sft ks j0 (j0 + 1)) zz9 ts fn fp bo eE lE li be ab X) ((sft_0 _ _).symm : os = (sft os j0 (j0 + 1)))) ?_
  refine aw_eq (congrArg (fun zz9 => wM κ b (nI 0) un ss fi la da dg ps rn (sft ks j0 (j0 + 1)) (sft os j0 (j0 + 1)) zz9 fn fp bo eE lE li be ab X) ((sft_0 _ _).symm : ts = (sft ts j0 (j0 + 1)))) ?_
  exact LP27 ((rn - 1) - j0) (j0) (by omega) (Nat.le_refl _)

set_option maxHeartbeats 4000000 in
set_option maxRecDepth 100000 in
theorem c_X6_relation_b1 (κ : aK) (b : Nat → Nat) {th : Int32} {un : Nat} {ss : Nat → Int32} {fi : Nat → Int32} {la : Nat → Int32} {da : Nat → Bool} {dg : Nat → Bool} {ps : Nat → Int32} {rn : Nat} {ks : Nat → Int32} {os : Nat → Nat} {ts : Nat → Nat} {fn : Nat} {fp : Nat → Int32} {bo : Nat → Nat} {eE : Nat → Nat → Bool} {lE : Nat → Nat → Bool} {li : Nat → Nat → Bool} {be : Nat → Int32} {ab : Nat → Int32} {X : va_W} {x : Int32} {y : Int32} (hrn : rn ≤ 80) (hb : ¬ (okU rn x ∧ okU 3 y)) : CM yX6_relation cX6_relation 3 (some .int) ({ frames := 1, cells := 0, slots := 0, locals := 22 } : Room) κ [.ref (b 0), .int x, .int y] (wM κ b th un ss fi la da dg ps rn ks os ts fn fp bo eE lE li be ab X) (aD (some (.int (nI 0))) (wM κ b (nI 1) un ss fi la da dg ps rn ks os ts fn fp bo eE lE li be ab X)) := by
  refine cm_entry (own := RX6) (L := [(0, .ref (b 0)), (1, .int x), (2, .int y)]) (by decide +kernel) rfl (lv_entry [.ref (b 0), .int x, .int y] (n := 3) (Nat.le_of_ble_eq_true rfl)) (fun g C E => ?_)
  refine a_aloadn (pc := 0) C 0 rfl rfl dX6_relation_0 ?_
  refine a_iconst (pc := 1) (v := nI 0) C ci_0 dX6_relation_1 ?_
  refine a_put (pc := 2) (ws' := wM κ b (nI 0) un ss fi la da dg ps rn ks os ts fn fp bo eE lE li be ab X) C fl_X6_60 fp_X6_0 0 rfl rfl rfl (Nat.le_of_ble_eq_true rfl) rfl dX6_relation_2 ?_
  refine a_iloadn (pc := 5) C 1 rfl rfl dX6_relation_5 ?_
  refine a_iconst (pc := 6) (v := nI 0) C ci_0 dX6_relation_6 ?_
  refine a_aloadn (pc := 7) C 0 rfl rfl dX6_relation_7 ?_
  refine a_get (pc := 8) C fl_X6_71 0 rfl rfl dX6_relation_8 ?_
  refine a_iconst (pc := 11) (v := nI 1) C ci_1 dX6_relation_11 ?_
  refine a_isub (pc := 12) (v := nI rn - nI 1) C rfl dX6_relation_12 ?_
  refine a_callS1 (pc := 13) (k' := 0) (n' := 0) C (c_X6_isIn κ) yv_X6_isIn ml_X6_67 ws_X6_isIn rfl rfl (Nat.le_of_ble_eq_true rfl) (Nat.le_of_ble_eq_true rfl) (Nat.le_of_ble_eq_true rfl) ⟨(Nat.le_of_ble_eq_true rfl), (Nat.le_of_ble_eq_true rfl)⟩ rfl rfl dX6_relation_13 ?_
  refine a_ifb_eq (pc := 16) (tgt := 37) C (by decide) dX6_relation_16 (fun c1 => ?_) (fun c1 => ?_)
  · refine a_aloadn (pc := 37) C 0 rfl rfl dX6_relation_37 ?_
    refine a_iconst (pc := 38) (v := nI 1) C ci_1 dX6_relation_38 ?_
    refine a_callV1 (pc := 39) (k' := 0) (n' := 0) C (c_X6_no κ b) yv_X6_no ml_X6_100 wi_X6_no wl_X6_no 0 rfl rfl rfl rfl (Nat.le_of_ble_eq_true rfl) (Nat.le_of_ble_eq_true rfl) (Nat.le_of_ble_eq_true rfl) ⟨(Nat.le_of_ble_eq_true rfl), (Nat.le_of_ble_eq_true rfl)⟩ rfl rfl dX6_relation_39 ?_
    exact a_iret (pc := 42) C E (Nat.le_of_ble_eq_true rfl) (Nat.le_of_ble_eq_true rfl) ⟨rfl, rfl⟩ dX6_relation_42
  · refine a_iloadn (pc := 19) C 2 rfl rfl dX6_relation_19 ?_
    refine a_iconst (pc := 20) (v := nI 0) C ci_0 dX6_relation_20 ?_
    refine a_iconst (pc := 21) (v := nI 2) C ci_2 dX6_relation_21 ?_
    refine a_callS1 (pc := 22) (k' := 0) (n' := 0) C (c_X6_isIn κ) yv_X6_isIn ml_X6_67 ws_X6_isIn rfl rfl (Nat.le_of_ble_eq_true rfl) (Nat.le_of_ble_eq_true rfl) (Nat.le_of_ble_eq_true rfl) ⟨(Nat.le_of_ble_eq_true rfl), (Nat.le_of_ble_eq_true rfl)⟩ rfl rfl dX6_relation_22 ?_
    refine a_ifb_eq_y (pc := 25) (tgt := 37) C (okU_cf (by omega) (fun h => hb ⟨(okU_n (by omega)).mp c1, h⟩)) (by decide) dX6_relation_25 ?_
    refine a_aloadn (pc := 37) C 0 rfl rfl dX6_relation_37 ?_
    refine a_iconst (pc := 38) (v := nI 1) C ci_1 dX6_relation_38 ?_
    refine a_callV1 (pc := 39) (k' := 0) (n' := 0) C (c_X6_no κ b) yv_X6_no ml_X6_100 wi_X6_no wl_X6_no 0 rfl rfl rfl rfl (Nat.le_of_ble_eq_true rfl) (Nat.le_of_ble_eq_true rfl) (Nat.le_of_ble_eq_true rfl) ⟨(Nat.le_of_ble_eq_true rfl), (Nat.le_of_ble_eq_true rfl)⟩ rfl rfl dX6_relation_39 ?_
    exact a_iret (pc := 42) C E (Nat.le_of_ble_eq_true rfl) (Nat.le_of_ble_eq_true rfl) ⟨rfl, rfl⟩ dX6_relation_42

set_option maxHeartbeats 4000000 in
set_option maxRecDepth 100000 in
theorem c_X6_relation (κ : aK) (b : Nat → Nat) {th : Int32} {un : Nat} {ss : Nat → Int32} {fi : Nat → Int32} {la : Nat → Int32} {da : Nat → Bool} {dg : Nat → Bool} {ps : Nat → Int32} {rn : Nat} {ks : Nat → Int32} {os : Nat → Nat} {ts : Nat → Nat} {fn : Nat} {fp : Nat → Int32} {bo : Nat → Nat} {eE : Nat → Nat → Bool} {lE : Nat → Nat → Bool} {li : Nat → Nat → Bool} {be : Nat → Int32} {ab : Nat → Int32} {X : va_W} {j : Nat} {q : Nat} (hrn : rn ≤ 80) (hj : j < rn) (hqq : q < 3) : CM yX6_relation cX6_relation 3 (some .int) ({ frames := 1, cells := 0, slots := 0, locals := 22 } : Room) κ [.ref (b 0), .int (nI j), .int (nI q)] (wM κ b th un ss fi la da dg ps rn ks os ts fn fp bo eE lE li be ab X) (aD (some (.int (rtR ks os ts j q))) (wM κ b (nI 0) un ss fi la da dg ps rn ks os ts fn fp bo eE lE li be ab X)) := by
  refine cm_entry (own := RX6) (L := [(0, .ref (b 0)), (1, .int (nI j)), (2, .int (nI q))]) (by decide +kernel) rfl (lv_entry [.ref (b 0), .int (nI j), .int (nI q)] (n := 3) (Nat.le_of_ble_eq_true rfl)) (fun g C E => ?_)
  refine a_aloadn (pc := 0) C 0 rfl rfl dX6_relation_0 ?_
  refine a_iconst (pc := 1) (v := nI 0) C ci_0 dX6_relation_1 ?_
  refine a_put (pc := 2) (ws' := wM κ b (nI 0) un ss fi la da dg ps rn ks os ts fn fp bo eE lE li be ab X) C fl_X6_60 fp_X6_0 0 rfl rfl rfl (Nat.le_of_ble_eq_true rfl) rfl dX6_relation_2 ?_
  refine a_iloadn (pc := 5) C 1 rfl rfl dX6_relation_5 ?_
  refine a_iconst (pc := 6) (v := nI 0) C ci_0 dX6_relation_6 ?_
  refine a_aloadn (pc := 7) C 0 rfl rfl dX6_relation_7 ?_
  refine a_get (pc := 8) C fl_X6_71 0 rfl rfl dX6_relation_8 ?_
  refine a_iconst (pc := 11) (v := nI 1) C ci_1 dX6_relation_11 ?_
  refine a_isub (pc := 12) (v := nI rn - nI 1) C rfl dX6_relation_12 ?_
  refine a_callS1 (pc := 13) (k' := 0) (n' := 0) C (c_X6_isIn κ) yv_X6_isIn ml_X6_67 ws_X6_isIn rfl rfl (Nat.le_of_ble_eq_true rfl) (Nat.le_of_ble_eq_true rfl) (Nat.le_of_ble_eq_true rfl) ⟨(Nat.le_of_ble_eq_true rfl), (Nat.le_of_ble_eq_true rfl)⟩ rfl rfl dX6_relation_13 ?_
  refine a_ifb_eq_n (pc := 16) C ((okU_n (by omega)).mpr (okU_j hj)) dX6_relation_16 ⟨37, by decide⟩ ?_
  refine a_iloadn (pc := 19) C 2 rfl rfl dX6_relation_19 ?_
  refine a_iconst (pc := 20) (v := nI 0) C ci_0 dX6_relation_20 ?_
  refine a_iconst (pc := 21) (v := nI 2) C ci_2 dX6_relation_21 ?_
  refine a_callS1 (pc := 22) (k' := 0) (n' := 0) C (c_X6_isIn κ) yv_X6_isIn ml_X6_67 ws_X6_isIn rfl rfl (Nat.le_of_ble_eq_true rfl) (Nat.le_of_ble_eq_true rfl) (Nat.le_of_ble_eq_true rfl) ⟨(Nat.le_of_ble_eq_true rfl), (Nat.le_of_ble_eq_true rfl)⟩ rfl rfl dX6_relation_22 ?_
  refine a_ifb_eq_n (pc := 25) C ((okU_c (by omega)).mpr (okU_j hqq)) dX6_relation_25 ⟨37, by decide⟩ ?_
  refine a_aloadn (pc := 28) C 0 rfl rfl dX6_relation_28 ?_
  refine a_iloadn (pc := 29) C 1 rfl rfl dX6_relation_29 ?_
  refine a_iloadn (pc := 30) C 2 rfl rfl dX6_relation_30 ?_
  refine a_callV1 (pc := 31) (k' := 0) (n' := 0) C (c_X6_relationTold κ b (by omega) (by omega) (by omega)) yv_X6_relationTold ml_X6_117 wi_X6_relationTold wl_X6_relationTold 0 rfl rfl rfl rfl (Nat.le_of_ble_eq_true rfl) (Nat.le_of_ble_eq_true rfl) (Nat.le_of_ble_eq_true rfl) ⟨(Nat.le_of_ble_eq_true rfl), (Nat.le_of_ble_eq_true rfl)⟩ rfl rfl dX6_relation_31 ?_
  refine a_goto (pc := 34) (tgt := 42) C (by decide) dX6_relation_34 ?_
  exact a_iret (pc := 42) C E (Nat.le_of_ble_eq_true rfl) (Nat.le_of_ble_eq_true rfl) ⟨rfl, rfl⟩ dX6_relation_42

set_option maxHeartbeats 4000000 in
set_option maxRecDepth 100000 in
theorem c_X6_count_b1 (κ : aK) (b : Nat → Nat) {th : Int32} {un : Nat} {ss : Nat → Int32} {fi : Nat → Int32} {la : Nat → Int32} {da : Nat → Bool} {dg : Nat → Bool} {ps : Nat → Int32} {rn : Nat} {ks : Nat → Int32} {os : Nat → Nat} {ts : Nat → Nat} {fn : Nat} {fp : Nat → Int32} {bo : Nat → Nat} {eE : Nat → Nat → Bool} {lE : Nat → Nat → Bool} {li : Nat → Nat → Bool} {be : Nat → Int32} {ab : Nat → Int32} {X : va_W} {x : Int32} (hb : ¬ okU 9 x) : CM yX6_count cX6_count 2 (some .int) ({ frames := 5, cells := 0, slots := 0, locals := 113 } : Room) κ [.ref (b 0), .int x] (wM κ b th un ss fi la da dg ps rn ks os ts fn fp bo eE lE li be ab X) (aD (some (.int (nI 0))) (wM κ b (nI 1) un ss fi la da dg ps rn ks os ts fn fp bo eE lE li be ab X)) := by
  refine cm_entry (own := RX6) (L := [(0, .ref (b 0)), (1, .int x)]) (by decide +kernel) rfl (lv_entry [.ref (b 0), .int x] (n := 2) (Nat.le_of_ble_eq_true rfl)) (fun g C E => ?_)
  refine a_aloadn (pc := 0) C 0 rfl rfl dX6_count_0 ?_
  refine a_iconst (pc := 1) (v := nI 0) C ci_0 dX6_count_1 ?_
  refine a_put (pc := 2) (ws' := wM κ b (nI 0) un ss fi la da dg ps rn ks os ts fn fp bo eE lE li be ab X) C fl_X6_60 fp_X6_0 0 rfl rfl rfl (Nat.le_of_ble_eq_true rfl) rfl dX6_count_2 ?_
  refine a_iloadn (pc := 5) C 1 rfl rfl dX6_count_5 ?_
  refine a_iconst (pc := 6) (v := nI 0) C ci_0 dX6_count_6 ?_
  refine a_bipush (pc := 7) (v := nI 8) C cb_8 dX6_count_7 ?_
  refine a_callS1 (pc := 9) (k' := 0) (n' := 0) C (c_X6_isIn κ) yv_X6_isIn ml_X6_67 ws_X6_isIn rfl rfl (Nat.le_of_ble_eq_true rfl) (Nat.le_of_ble_eq_true rfl) (Nat.le_of_ble_eq_true rfl) ⟨(Nat.le_of_ble_eq_true rfl), (Nat.le_of_ble_eq_true rfl)⟩ rfl rfl dX6_count_9 ?_
  refine a_ifb_eq_y (pc := 12) (tgt := 23) C (okU_cf (by omega) hb) (by decide) dX6_count_12 ?_
  refine a_aloadn (pc := 23) C 0 rfl rfl dX6_count_23 ?_
  refine a_iconst (pc := 24) (v := nI 1) C ci_1 dX6_count_24 ?_
  refine a_callV1 (pc := 25) (k' := 0) (n' := 0) C (c_X6_no κ b) yv_X6_no ml_X6_100 wi_X6_no wl_X6_no 0 rfl rfl rfl rfl (Nat.le_of_ble_eq_true rfl) (Nat.le_of_ble_eq_true rfl) (Nat.le_of_ble_eq_true rfl) ⟨(Nat.le_of_ble_eq_true rfl), (Nat.le_of_ble_eq_true rfl)⟩ rfl rfl dX6_count_25 ?_
  exact a_iret (pc := 28) C E (Nat.le_of_ble_eq_true rfl) (Nat.le_of_ble_eq_true rfl) ⟨rfl, rfl⟩ dX6_count_28

set_option maxHeartbeats 4000000 in
set_option maxRecDepth 100000 in
theorem c_X6_count (κ : aK) (b : Nat → Nat) {th : Int32} {un : Nat} {ss : Nat → Int32} {fi : Nat → Int32} {la : Nat → Int32} {da : Nat → Bool} {dg : Nat → Bool} {ps : Nat → Int32} {rn : Nat} {ks : Nat → Int32} {os : Nat → Nat} {ts : Nat → Nat} {fn : Nat} {fp : Nat → Int32} {bo : Nat → Nat} {eE : Nat → Nat → Bool} {lE : Nat → Nat → Bool} {li : Nat → Nat → Bool} {be : Nat → Int32} {ab : Nat → Int32} {X : va_W} {q : Nat} {fu : Nat → Nat} (hun : un ≤ 40) (hfn : fn ≤ 60) (hbo : ∀ u, bo u < 40) (hq : ∀ j, fp (7 * j) = nI (fu j)) (hfu : ∀ u, fu u < 40) (hqq : q < 9) : CM yX6_count cX6_count 2 (some .int) ({ frames := 5, cells := 0, slots := 0, locals := 113 } : Room) κ [.ref (b 0), .int (nI q)] (wM κ b th un ss fi la da dg ps rn ks os ts fn fp bo eE lE li be ab X) (aD (some (.int (cR un rn fn dg li be bo eE lE da fi la fu fp ps q))) (wM κ b (nI 0) un ss fi la da dg ps rn ks os ts fn fp bo eE lE li be ab X)) := by
  refine cm_entry (own := RX6) (L := [(0, .ref (b 0)), (1, .int (nI q))]) (by decide +kernel) rfl (lv_entry [.ref (b 0), .int (nI q)] (n := 2) (Nat.le_of_ble_eq_true rfl)) (fun g C E => ?_)
  refine a_aloadn (pc := 0) C 0 rfl rfl dX6_count_0 ?_
  refine a_iconst (pc := 1) (v := nI 0) C ci_0 dX6_count_1 ?_
  refine a_put (pc := 2) (ws' := wM κ b (nI 0) un ss fi la da dg ps rn ks os ts fn fp bo eE lE li be ab X) C fl_X6_60 fp_X6_0 0 rfl rfl rfl (Nat.le_of_ble_eq_true rfl) rfl dX6_count_2 ?_
  refine a_iloadn (pc := 5) C 1 rfl rfl dX6_count_5 ?_
  refine a_iconst (pc := 6) (v := nI 0) C ci_0 dX6_count_6 ?_
  refine a_bipush (pc := 7) (v := nI 8) C cb_8 dX6_count_7 ?_
  refine a_callS1 (pc := 9) (k' := 0) (n' := 0) C (c_X6_isIn κ) yv_X6_isIn ml_X6_67 ws_X6_isIn rfl rfl (Nat.le_of_ble_eq_true rfl) (Nat.le_of_ble_eq_true rfl) (Nat.le_of_ble_eq_true rfl) ⟨(Nat.le_of_ble_eq_true rfl), (Nat.le_of_ble_eq_true rfl)⟩ rfl rfl dX6_count_9 ?_
  refine a_ifb_eq_n (pc := 12) C ((okU_c (by omega)).mpr (okU_j hqq)) dX6_count_12 ⟨23, by decide⟩ ?_
  refine a_aloadn (pc := 15) C 0 rfl rfl dX6_count_15 ?_
  refine a_iloadn (pc := 16) C 1 rfl rfl dX6_count_16 ?_
  refine a_callV1 (pc := 17) (k' := 0) (n' := 0) C (c_X6_counted κ b (by omega) (by omega) hbo (by assumption) hfu (by omega)) yv_X6_counted ml_X6_162 wi_X6_counted wl_X6_counted 0 rfl rfl rfl rfl (Nat.le_of_ble_eq_true rfl) (Nat.le_of_ble_eq_true rfl) (Nat.le_of_ble_eq_true rfl) ⟨(Nat.le_of_ble_eq_true rfl), (Nat.le_of_ble_eq_true rfl)⟩ rfl rfl dX6_count_17 ?_
  refine a_goto (pc := 20) (tgt := 28) C (by decide) dX6_count_20 ?_
  exact a_iret (pc := 28) C E (Nat.le_of_ble_eq_true rfl) (Nat.le_of_ble_eq_true rfl) ⟨rfl, rfl⟩ dX6_count_28

set_option maxHeartbeats 4000000 in
set_option maxRecDepth 100000 in
theorem c_X6_order_b1 (κ : aK) (b : Nat → Nat) {th : Int32} {un : Nat} {ss : Nat → Int32} {fi : Nat → Int32} {la : Nat → Int32} {da : Nat → Bool} {dg : Nat → Bool} {ps : Nat → Int32} {rn : Nat} {ks : Nat → Int32} {os : Nat → Nat} {ts : Nat → Nat} {fn : Nat} {fp : Nat → Int32} {bo : Nat → Nat} {eE : Nat → Nat → Bool} {lE : Nat → Nat → Bool} {li : Nat → Nat → Bool} {be : Nat → Int32} {ab : Nat → Int32} {X : va_W} {x : Int32} {y : Int32} (hun : un ≤ 40) (hb : ¬ (okU un x ∧ okU un y)) : CM yX6_order cX6_order 3 (some .int) ({ frames := 2, cells := 0, slots := 0, locals := 43 } : Room) κ [.ref (b 0), .int x, .int y] (wM κ b th un ss fi la da dg ps rn ks os ts fn fp bo eE lE li be ab X) (aD (some (.int (nI 0))) (wM κ b (nI 1) un ss fi la da dg ps rn ks os ts fn fp bo eE lE li be ab X)) := by
  refine cm_entry (own := RX6) (L := [(0, .ref (b 0)), (1, .int x), (2, .int y)]) (by decide +kernel) rfl (lv_entry [.ref (b 0), .int x, .int y] (n := 3) (Nat.le_of_ble_eq_true rfl)) (fun g C E => ?_)
  refine a_aloadn (pc := 0) C 0 rfl rfl dX6_order_0 ?_
  refine a_iconst (pc := 1) (v := nI 0) C ci_0 dX6_order_1 ?_
  refine a_put (pc := 2) (ws' := wM κ b (nI 0) un ss fi la da dg ps rn ks os ts fn fp bo eE lE li be ab X) C fl_X6_60 fp_X6_0 0 rfl rfl rfl (Nat.le_of_ble_eq_true rfl) rfl dX6_order_2 ?_
  refine a_aloadn (pc := 5) C 0 rfl rfl dX6_order_5 ?_
  refine a_iloadn (pc := 6) C 1 rfl rfl dX6_order_6 ?_
  refine a_callV1 (pc := 7) (k' := 0) (n' := 0) C (c_X6_isUnit κ b) yv_X6_isUnit ml_X6_107 wi_X6_isUnit wl_X6_isUnit 0 rfl rfl rfl rfl (Nat.le_of_ble_eq_true rfl) (Nat.le_of_ble_eq_true rfl) (Nat.le_of_ble_eq_true rfl) ⟨(Nat.le_of_ble_eq_true rfl), (Nat.le_of_ble_eq_true rfl)⟩ rfl rfl dX6_order_7 ?_
  refine a_ifb_eq (pc := 10) (tgt := 21) C (by decide) dX6_order_10 (fun c1 => ?_) (fun c1 => ?_)
  · refine a_aloadn (pc := 21) C 0 rfl rfl dX6_order_21 ?_
    refine a_iconst (pc := 22) (v := nI 1) C ci_1 dX6_order_22 ?_
    refine a_callV1 (pc := 23) (k' := 0) (n' := 0) C (c_X6_no κ b) yv_X6_no ml_X6_100 wi_X6_no wl_X6_no 0 rfl rfl rfl rfl (Nat.le_of_ble_eq_true rfl) (Nat.le_of_ble_eq_true rfl) (Nat.le_of_ble_eq_true rfl) ⟨(Nat.le_of_ble_eq_true rfl), (Nat.le_of_ble_eq_true rfl)⟩ rfl rfl dX6_order_23 ?_
    exact a_iret (pc := 26) C E (Nat.le_of_ble_eq_true rfl) (Nat.le_of_ble_eq_true rfl) ⟨rfl, rfl⟩ dX6_order_26
  · refine a_aloadn (pc := 13) C 0 rfl rfl dX6_order_13 ?_
    refine a_iloadn (pc := 14) C 2 rfl rfl dX6_order_14 ?_
    refine a_callV1 (pc := 15) (k' := 0) (n' := 0) C (c_X6_isUnit κ b) yv_X6_isUnit ml_X6_107 wi_X6_isUnit wl_X6_isUnit 0 rfl rfl rfl rfl (Nat.le_of_ble_eq_true rfl) (Nat.le_of_ble_eq_true rfl) (Nat.le_of_ble_eq_true rfl) ⟨(Nat.le_of_ble_eq_true rfl), (Nat.le_of_ble_eq_true rfl)⟩ rfl rfl dX6_order_15 ?_
    refine a_ifb_ne_n (pc := 18) C (okU_nf (by omega) (fun h => hb ⟨(okU_n (by omega)).mp c1, h⟩)) dX6_order_18 ⟨27, by decide⟩ ?_
    refine a_aloadn (pc := 21) C 0 rfl rfl dX6_order_21 ?_
    refine a_iconst (pc := 22) (v := nI 1) C ci_1 dX6_order_22 ?_
    refine a_callV1 (pc := 23) (k' := 0) (n' := 0) C (c_X6_no κ b) yv_X6_no ml_X6_100 wi_X6_no wl_X6_no 0 rfl rfl rfl rfl (Nat.le_of_ble_eq_true rfl) (Nat.le_of_ble_eq_true rfl) (Nat.le_of_ble_eq_true rfl) ⟨(Nat.le_of_ble_eq_true rfl), (Nat.le_of_ble_eq_true rfl)⟩ rfl rfl dX6_order_23 ?_
    exact a_iret (pc := 26) C E (Nat.le_of_ble_eq_true rfl) (Nat.le_of_ble_eq_true rfl) ⟨rfl, rfl⟩ dX6_order_26

set_option maxHeartbeats 4000000 in
set_option maxRecDepth 100000 in
theorem c_X6_between_b1 (κ : aK) (b : Nat → Nat) {th : Int32} {un : Nat} {ss : Nat → Int32} {fi : Nat → Int32} {la : Nat → Int32} {da : Nat → Bool} {dg : Nat → Bool} {ps : Nat → Int32} {rn : Nat} {ks : Nat → Int32} {os : Nat → Nat} {ts : Nat → Nat} {fn : Nat} {fp : Nat → Int32} {bo : Nat → Nat} {eE : Nat → Nat → Bool} {lE : Nat → Nat → Bool} {li : Nat → Nat → Bool} {be : Nat → Int32} {ab : Nat → Int32} {X : va_W} {x : Int32} {y : Int32} (hun : un ≤ 40) (hb : ¬ (okU un x ∧ okU un y)) : CM yX6_between cX6_between 3 (some .int) ({ frames := 2, cells := 0, slots := 0, locals := 43 } : Room) κ [.ref (b 0), .int x, .int y] (wM κ b th un ss fi la da dg ps rn ks os ts fn fp bo eE lE li be ab X) (aD (some (.int (nI 0))) (wM κ b (nI 1) un ss fi la da dg ps rn ks os ts fn fp bo eE lE li be ab X)) := by
  refine cm_entry (own := RX6) (L := [(0, .ref (b 0)), (1, .int x), (2, .int y)]) (by decide +kernel) rfl (lv_entry [.ref (b 0), .int x, .int y] (n := 3) (Nat.le_of_ble_eq_true rfl)) (fun g C E => ?_)
  refine a_aloadn (pc := 0) C 0 rfl rfl dX6_between_0 ?_
  refine a_iconst (pc := 1) (v := nI 0) C ci_0 dX6_between_1 ?_
  refine a_put (pc := 2) (ws' := wM κ b (nI 0) un ss fi la da dg ps rn ks os ts fn fp bo eE lE li be ab X) C fl_X6_60 fp_X6_0 0 rfl rfl rfl (Nat.le_of_ble_eq_true rfl) rfl dX6_between_2 ?_
  refine a_aloadn (pc := 5) C 0 rfl rfl dX6_between_5 ?_
  refine a_iloadn (pc := 6) C 1 rfl rfl dX6_between_6 ?_
  refine a_callV1 (pc := 7) (k' := 0) (n' := 0) C (c_X6_isUnit κ b) yv_X6_isUnit ml_X6_107 wi_X6_isUnit wl_X6_isUnit 0 rfl rfl rfl rfl (Nat.le_of_ble_eq_true rfl) (Nat.le_of_ble_eq_true rfl) (Nat.le_of_ble_eq_true rfl) ⟨(Nat.le_of_ble_eq_true rfl), (Nat.le_of_ble_eq_true rfl)⟩ rfl rfl dX6_between_7 ?_
  refine a_ifb_eq (pc := 10) (tgt := 50) C (by decide) dX6_between_10 (fun c1 => ?_) (fun c1 => ?_)
  · refine a_aloadn (pc := 50) C 0 rfl rfl dX6_between_50 ?_
    refine a_iconst (pc := 51) (v := nI 1) C ci_1 dX6_between_51 ?_
    refine a_callV1 (pc := 52) (k' := 0) (n' := 0) C (c_X6_no κ b) yv_X6_no ml_X6_100 wi_X6_no wl_X6_no 0 rfl rfl rfl rfl (Nat.le_of_ble_eq_true rfl) (Nat.le_of_ble_eq_true rfl) (Nat.le_of_ble_eq_true rfl) ⟨(Nat.le_of_ble_eq_true rfl), (Nat.le_of_ble_eq_true rfl)⟩ rfl rfl dX6_between_52 ?_
    exact a_iret (pc := 55) C E (Nat.le_of_ble_eq_true rfl) (Nat.le_of_ble_eq_true rfl) ⟨rfl, rfl⟩ dX6_between_55
  · refine a_aloadn (pc := 13) C 0 rfl rfl dX6_between_13 ?_
    refine a_iloadn (pc := 14) C 2 rfl rfl dX6_between_14 ?_
    refine a_callV1 (pc := 15) (k' := 0) (n' := 0) C (c_X6_isUnit κ b) yv_X6_isUnit ml_X6_107 wi_X6_isUnit wl_X6_isUnit 0 rfl rfl rfl rfl (Nat.le_of_ble_eq_true rfl) (Nat.le_of_ble_eq_true rfl) (Nat.le_of_ble_eq_true rfl) ⟨(Nat.le_of_ble_eq_true rfl), (Nat.le_of_ble_eq_true rfl)⟩ rfl rfl dX6_between_15 ?_
    refine a_ifb_eq_y (pc := 18) (tgt := 50) C (okU_nf (by omega) (fun h => hb ⟨(okU_n (by omega)).mp c1, h⟩)) (by decide) dX6_between_18 ?_
    refine a_aloadn (pc := 50) C 0 rfl rfl dX6_between_50 ?_
    refine a_iconst (pc := 51) (v := nI 1) C ci_1 dX6_between_51 ?_
    refine a_callV1 (pc := 52) (k' := 0) (n' := 0) C (c_X6_no κ b) yv_X6_no ml_X6_100 wi_X6_no wl_X6_no 0 rfl rfl rfl rfl (Nat.le_of_ble_eq_true rfl) (Nat.le_of_ble_eq_true rfl) (Nat.le_of_ble_eq_true rfl) ⟨(Nat.le_of_ble_eq_true rfl), (Nat.le_of_ble_eq_true rfl)⟩ rfl rfl dX6_between_52 ?_
    exact a_iret (pc := 55) C E (Nat.le_of_ble_eq_true rfl) (Nat.le_of_ble_eq_true rfl) ⟨rfl, rfl⟩ dX6_between_55

set_option maxHeartbeats 4000000 in
set_option maxRecDepth 100000 in
theorem c_X6_isLinked_b1 (κ : aK) (b : Nat → Nat) {th : Int32} {un : Nat} {ss : Nat → Int32} {fi : Nat → Int32} {la : Nat → Int32} {da : Nat → Bool} {dg : Nat → Bool} {ps : Nat → Int32} {rn : Nat} {ks : Nat → Int32} {os : Nat → Nat} {ts : Nat → Nat} {fn : Nat} {fp : Nat → Int32} {bo : Nat → Nat} {eE : Nat → Nat → Bool} {lE : Nat → Nat → Bool} {li : Nat → Nat → Bool} {be : Nat → Int32} {ab : Nat → Int32} {X : va_W} {x : Int32} {y : Int32} (hun : un ≤ 40) (hb : ¬ (okU un x ∧ okU un y)) : CM yX6_isLinked cX6_isLinked 3 (some .boolean) ({ frames := 2, cells := 0, slots := 0, locals := 43 } : Room) κ [.ref (b 0), .int x, .int y] (wM κ b th un ss fi la da dg ps rn ks os ts fn fp bo eE lE li be ab X) (aD (some (.int (b2i false))) (wM κ b (nI 1) un ss fi la da dg ps rn ks os ts fn fp bo eE lE li be ab X)) := by
  refine cm_entry (own := RX6) (L := [(0, .ref (b 0)), (1, .int x), (2, .int y)]) (by decide +kernel) rfl (lv_entry [.ref (b 0), .int x, .int y] (n := 3) (Nat.le_of_ble_eq_true rfl)) (fun g C E => ?_)
  refine a_aloadn (pc := 0) C 0 rfl rfl dX6_isLinked_0 ?_
  refine a_aloadn (pc := 1) C 0 rfl rfl dX6_isLinked_1 ?_
  refine a_iloadn (pc := 2) C 1 rfl rfl dX6_isLinked_2 ?_
  refine a_callV1 (pc := 3) (k' := 0) (n' := 0) C (c_X6_isUnit κ b) yv_X6_isUnit ml_X6_107 wi_X6_isUnit wl_X6_isUnit 0 rfl rfl rfl rfl (Nat.le_of_ble_eq_true rfl) (Nat.le_of_ble_eq_true rfl) (Nat.le_of_ble_eq_true rfl) ⟨(Nat.le_of_ble_eq_true rfl), (Nat.le_of_ble_eq_true rfl)⟩ rfl rfl dX6_isLinked_3 ?_
  refine a_ifb_eq (pc := 6) (tgt := 21) C (by decide) dX6_isLinked_6 (fun c1 => ?_) (fun c1 => ?_)
  · refine a_iconst (pc := 21) (v := nI 1) C ci_1 dX6_isLinked_21 ?_
    refine a_put (pc := 22) (ws' := wM κ b (nI 1) un ss fi la da dg ps rn ks os ts fn fp bo eE lE li be ab X) C fl_X6_60 fp_X6_0 0 rfl rfl rfl (Nat.le_of_ble_eq_true rfl) rfl dX6_isLinked_22 ?_
    refine a_aloadn (pc := 25) C 0 rfl rfl dX6_isLinked_25 ?_
    refine a_get (pc := 26) C fl_X6_60 0 rfl rfl dX6_isLinked_26 ?_
    refine a_if_ne_y (pc := 29) (tgt := 59) C (by decide +kernel) (by decide) dX6_isLinked_29 ?_
    refine a_iconst (pc := 59) (v := nI 0) C ci_0 dX6_isLinked_59 ?_
    exact a_zret (pc := 60) (b := false) C E (Nat.le_of_ble_eq_true rfl) (Nat.le_of_ble_eq_true rfl) (by decide +kernel) ⟨rfl, rfl⟩ dX6_isLinked_60
  · refine a_aloadn (pc := 9) C 0 rfl rfl dX6_isLinked_9 ?_
    refine a_iloadn (pc := 10) C 2 rfl rfl dX6_isLinked_10 ?_
    refine a_callV1 (pc := 11) (k' := 0) (n' := 0) C (c_X6_isUnit κ b) yv_X6_isUnit ml_X6_107 wi_X6_isUnit wl_X6_isUnit 0 rfl rfl rfl rfl (Nat.le_of_ble_eq_true rfl) (Nat.le_of_ble_eq_true rfl) (Nat.le_of_ble_eq_true rfl) ⟨(Nat.le_of_ble_eq_true rfl), (Nat.le_of_ble_eq_true rfl)⟩ rfl rfl dX6_isLinked_11 ?_
    refine a_ifb_eq_y (pc := 14) (tgt := 21) C (okU_nf (by omega) (fun h => hb ⟨(okU_n (by omega)).mp c1, h⟩)) (by decide) dX6_isLinked_14 ?_
    refine a_iconst (pc := 21) (v := nI 1) C ci_1 dX6_isLinked_21 ?_
    refine a_put (pc := 22) (ws' := wM κ b (nI 1) un ss fi la da dg ps rn ks os ts fn fp bo eE lE li be ab X) C fl_X6_60 fp_X6_0 0 rfl rfl rfl (Nat.le_of_ble_eq_true rfl) rfl dX6_isLinked_22 ?_
    refine a_aloadn (pc := 25) C 0 rfl rfl dX6_isLinked_25 ?_
    refine a_get (pc := 26) C fl_X6_60 0 rfl rfl dX6_isLinked_26 ?_
    refine a_if_ne_y (pc := 29) (tgt := 59) C (by decide +kernel) (by decide) dX6_isLinked_29 ?_
    refine a_iconst (pc := 59) (v := nI 0) C ci_0 dX6_isLinked_59 ?_
    exact a_zret (pc := 60) (b := false) C E (Nat.le_of_ble_eq_true rfl) (Nat.le_of_ble_eq_true rfl) (by decide +kernel) ⟨rfl, rfl⟩ dX6_isLinked_60

set_option maxHeartbeats 4000000 in
set_option maxRecDepth 100000 in
theorem c_X6_order (κ : aK) (b : Nat → Nat) {th : Int32} {un : Nat} {ss : Nat → Int32} {fi : Nat → Int32} {la : Nat → Int32} {da : Nat → Bool} {dg : Nat → Bool} {ps : Nat → Int32} {rn : Nat} {ks : Nat → Int32} {os : Nat → Nat} {ts : Nat → Nat} {fn : Nat} {fp : Nat → Int32} {bo : Nat → Nat} {eE : Nat → Nat → Bool} {lE : Nat → Nat → Bool} {li : Nat → Nat → Bool} {be : Nat → Int32} {ab : Nat → Int32} {X : va_W} {x : Nat} {y : Nat} (hun : un ≤ 40) (hbo : ∀ u, bo u < 40) (hx : x < un) (hy : y < un) : CM yX6_order cX6_order 3 (some .int) ({ frames := 2, cells := 0, slots := 0, locals := 43 } : Room) κ [.ref (b 0), .int (nI x), .int (nI y)] (wM κ b th un ss fi la da dg ps rn ks os ts fn fp bo eE lE li be ab X) (aD (some (.int (odR bo eE x y))) (wM κ b (nI 0) un ss fi la da dg ps rn ks os ts fn fp bo eE lE li be ab X)) := by
  refine cm_entry (own := RX6) (L := [(0, .ref (b 0)), (1, .int (nI x)), (2, .int (nI y))]) (by decide +kernel) rfl (lv_entry [.ref (b 0), .int (nI x), .int (nI y)] (n := 3) (Nat.le_of_ble_eq_true rfl)) (fun g C E => ?_)
  have hb1 := hbo x
  have hb2 := hbo y
  refine a_aloadn (pc := 0) C 0 rfl rfl dX6_order_0 ?_
  refine a_iconst (pc := 1) (v := nI 0) C ci_0 dX6_order_1 ?_
  refine a_put (pc := 2) (ws' := wM κ b (nI 0) un ss fi la da dg ps rn ks os ts fn fp bo eE lE li be ab X) C fl_X6_60 fp_X6_0 0 rfl rfl rfl (Nat.le_of_ble_eq_true rfl) rfl dX6_order_2 ?_
  refine a_aloadn (pc := 5) C 0 rfl rfl dX6_order_5 ?_
  refine a_iloadn (pc := 6) C 1 rfl rfl dX6_order_6 ?_
  refine a_callV1 (pc := 7) (k' := 0) (n' := 0) C (c_X6_isUnit κ b) yv_X6_isUnit ml_X6_107 wi_X6_isUnit wl_X6_isUnit 0 rfl rfl rfl rfl (Nat.le_of_ble_eq_true rfl) (Nat.le_of_ble_eq_true rfl) (Nat.le_of_ble_eq_true rfl) ⟨(Nat.le_of_ble_eq_true rfl), (Nat.le_of_ble_eq_true rfl)⟩ rfl rfl dX6_order_7 ?_
  refine a_ifb_eq_n (pc := 10) C ((okU_n (by omega)).mpr (okU_j hx)) dX6_order_10 ⟨21, by decide⟩ ?_
  refine a_aloadn (pc := 13) C 0 rfl rfl dX6_order_13 ?_
  refine a_iloadn (pc := 14) C 2 rfl rfl dX6_order_14 ?_
  refine a_callV1 (pc := 15) (k' := 0) (n' := 0) C (c_X6_isUnit κ b) yv_X6_isUnit ml_X6_107 wi_X6_isUnit wl_X6_isUnit 0 rfl rfl rfl rfl (Nat.le_of_ble_eq_true rfl) (Nat.le_of_ble_eq_true rfl) (Nat.le_of_ble_eq_true rfl) ⟨(Nat.le_of_ble_eq_true rfl), (Nat.le_of_ble_eq_true rfl)⟩ rfl rfl dX6_order_15 ?_
  refine a_ifb_ne_y (pc := 18) (tgt := 27) C ((okU_n (by omega)).mpr (okU_j hy)) (by decide) dX6_order_18 ?_
  refine a_aloadn (pc := 27) C 0 rfl rfl dX6_order_27 ?_
  refine a_get (pc := 28) C fl_X6_41 0 rfl rfl dX6_order_28 ?_
  refine a_iloadn (pc := 31) C 1 rfl rfl dX6_order_31 ?_
  refine a_ialdN (pc := 32) C 11 rfl (by omega) (by decide) dX6_order_32 ?_
  refine a_aloadn (pc := 33) C 0 rfl rfl dX6_order_33 ?_
  refine a_get (pc := 34) C fl_X6_41 0 rfl rfl dX6_order_34 ?_
  refine a_iloadn (pc := 37) C 2 rfl rfl dX6_order_37 ?_
  refine a_ialdN (pc := 38) C 11 rfl (by omega) (by decide) dX6_order_38 ?_
  refine a_icn_ne (pc := 39) (tgt := 46) C (by omega) (by omega) (by decide) dX6_order_39 (fun c1 => ?_) (fun c1 => ?_)
  · refine a_aloadn (pc := 46) C 0 rfl rfl dX6_order_46 ?_
    refine a_get (pc := 47) C fl_X6_44 0 rfl rfl dX6_order_47 ?_
    refine a_aloadn (pc := 50) C 0 rfl rfl dX6_order_50 ?_
    refine a_get (pc := 51) C fl_X6_41 0 rfl rfl dX6_order_51 ?_
    refine a_iloadn (pc := 54) C 1 rfl rfl dX6_order_54 ?_
    refine a_ialdN (pc := 55) C 11 rfl (by omega) (by decide) dX6_order_55 ?_
    refine a_laldS (pc := 56) C 12 rfl (hbo _) (by decide) dX6_order_56 ?_
    refine a_aloadn (pc := 57) C 0 rfl rfl dX6_order_57 ?_
    refine a_get (pc := 58) C fl_X6_41 0 rfl rfl dX6_order_58 ?_
    refine a_iloadn (pc := 61) C 2 rfl rfl dX6_order_61 ?_
    refine a_ialdN (pc := 62) C 11 rfl (by omega) (by decide) dX6_order_62 ?_
    refine a_callS1 (pc := 63) (k' := 0) (n' := 0) C (c_X6_has κ (Nat.lt_trans (hbo _) (by decide))) yv_X6_has ml_X6_83 ws_X6_has rfl rfl (Nat.le_of_ble_eq_true rfl) (Nat.le_of_ble_eq_true rfl) (Nat.le_of_ble_eq_true rfl) ⟨(Nat.le_of_ble_eq_true rfl), (Nat.le_of_ble_eq_true rfl)⟩ rfl rfl dX6_order_63 ?_
    refine a_ifb_eq (pc := 66) (tgt := 73) C (by decide) dX6_order_66 (fun c2 => ?_) (fun c2 => ?_)
    · refine a_aloadn (pc := 73) C 0 rfl rfl dX6_order_73 ?_
      refine a_get (pc := 74) C fl_X6_44 0 rfl rfl dX6_order_74 ?_
      refine a_aloadn (pc := 77) C 0 rfl rfl dX6_order_77 ?_
      refine a_get (pc := 78) C fl_X6_41 0 rfl rfl dX6_order_78 ?_
      refine a_iloadn (pc := 81) C 2 rfl rfl dX6_order_81 ?_
      refine a_ialdN (pc := 82) C 11 rfl (by omega) (by decide) dX6_order_82 ?_
      refine a_laldS (pc := 83) C 12 rfl (hbo _) (by decide) dX6_order_83 ?_
      refine a_aloadn (pc := 84) C 0 rfl rfl dX6_order_84 ?_
      refine a_get (pc := 85) C fl_X6_41 0 rfl rfl dX6_order_85 ?_
      refine a_iloadn (pc := 88) C 1 rfl rfl dX6_order_88 ?_
      refine a_ialdN (pc := 89) C 11 rfl (by omega) (by decide) dX6_order_89 ?_
      refine a_callS1 (pc := 90) (k' := 0) (n' := 0) C (c_X6_has κ (Nat.lt_trans (hbo _) (by decide))) yv_X6_has ml_X6_83 ws_X6_has rfl rfl (Nat.le_of_ble_eq_true rfl) (Nat.le_of_ble_eq_true rfl) (Nat.le_of_ble_eq_true rfl) ⟨(Nat.le_of_ble_eq_true rfl), (Nat.le_of_ble_eq_true rfl)⟩ rfl rfl dX6_order_90 ?_
      refine a_ifb_eq (pc := 93) (tgt := 100) C (by decide) dX6_order_93 (fun c3 => ?_) (fun c3 => ?_)
      · refine a_iconst (pc := 100) (v := nI 2) C ci_2 dX6_order_100 ?_
        exact a_iret (pc := 101) C E (Nat.le_of_ble_eq_true rfl) (Nat.le_of_ble_eq_true rfl) ⟨by rw [odR_2 c1 c2 c3], rfl⟩ dX6_order_101
      · refine a_iconst (pc := 96) (v := (-1 : Int32)) C ci_m1 dX6_order_96 ?_
        refine a_goto (pc := 97) (tgt := 101) C (by decide) dX6_order_97 ?_
        exact a_iret (pc := 101) C E (Nat.le_of_ble_eq_true rfl) (Nat.le_of_ble_eq_true rfl) ⟨by rw [odR_m c1 c2 c3], rfl⟩ dX6_order_101
    · refine a_iconst (pc := 69) (v := nI 1) C ci_1 dX6_order_69 ?_
      refine a_goto (pc := 70) (tgt := 101) C (by decide) dX6_order_70 ?_
      exact a_iret (pc := 101) C E (Nat.le_of_ble_eq_true rfl) (Nat.le_of_ble_eq_true rfl) ⟨by rw [odR_1 c1 c2], rfl⟩ dX6_order_101
  · refine a_iconst (pc := 42) (v := nI 0) C ci_0 dX6_order_42 ?_
    refine a_goto (pc := 43) (tgt := 101) C (by decide) dX6_order_43 ?_
    exact a_iret (pc := 101) C E (Nat.le_of_ble_eq_true rfl) (Nat.le_of_ble_eq_true rfl) ⟨by rw [odR_0 c1], rfl⟩ dX6_order_101

set_option maxHeartbeats 4000000 in
set_option maxRecDepth 100000 in
theorem c_X6_between (κ : aK) (b : Nat → Nat) {th : Int32} {un : Nat} {ss : Nat → Int32} {fi : Nat → Int32} {la : Nat → Int32} {da : Nat → Bool} {dg : Nat → Bool} {ps : Nat → Int32} {rn : Nat} {ks : Nat → Int32} {os : Nat → Nat} {ts : Nat → Nat} {fn : Nat} {fp : Nat → Int32} {bo : Nat → Nat} {eE : Nat → Nat → Bool} {lE : Nat → Nat → Bool} {li : Nat → Nat → Bool} {be : Nat → Int32} {ab : Nat → Int32} {X : va_W} {x : Nat} {y : Nat} (hun : un ≤ 40) (hbo : ∀ u, bo u < 40) (hx : x < un) (hy : y < un) : CM yX6_between cX6_between 3 (some .int) ({ frames := 2, cells := 0, slots := 0, locals := 43 } : Room) κ [.ref (b 0), .int (nI x), .int (nI y)] (wM κ b th un ss fi la da dg ps rn ks os ts fn fp bo eE lE li be ab X) (aD (some (.int (bcI (bs (fun i => eE (bo x) i && lE (bo y) i))))) (wM κ b (nI 0) un ss fi la da dg ps rn ks os ts fn fp bo eE lE li be ab X)) := by
  refine cm_entry (own := RX6) (L := [(0, .ref (b 0)), (1, .int (nI x)), (2, .int (nI y))]) (by decide +kernel) rfl (lv_entry [.ref (b 0), .int (nI x), .int (nI y)] (n := 3) (Nat.le_of_ble_eq_true rfl)) (fun g C E => ?_)
  refine a_aloadn (pc := 0) C 0 rfl rfl dX6_between_0 ?_
  refine a_iconst (pc := 1) (v := nI 0) C ci_0 dX6_between_1 ?_
  refine a_put (pc := 2) (ws' := wM κ b (nI 0) un ss fi la da dg ps rn ks os ts fn fp bo eE lE li be ab X) C fl_X6_60 fp_X6_0 0 rfl rfl rfl (Nat.le_of_ble_eq_true rfl) rfl dX6_between_2 ?_
  refine a_aloadn (pc := 5) C 0 rfl rfl dX6_between_5 ?_
  refine a_iloadn (pc := 6) C 1 rfl rfl dX6_between_6 ?_
  refine a_callV1 (pc := 7) (k' := 0) (n' := 0) C (c_X6_isUnit κ b) yv_X6_isUnit ml_X6_107 wi_X6_isUnit wl_X6_isUnit 0 rfl rfl rfl rfl (Nat.le_of_ble_eq_true rfl) (Nat.le_of_ble_eq_true rfl) (Nat.le_of_ble_eq_true rfl) ⟨(Nat.le_of_ble_eq_true rfl), (Nat.le_of_ble_eq_true rfl)⟩ rfl rfl dX6_between_7 ?_
  refine a_ifb_eq_n (pc := 10) C ((okU_n (by omega)).mpr (okU_j hx)) dX6_between_10 ⟨50, by decide⟩ ?_
  refine a_aloadn (pc := 13) C 0 rfl rfl dX6_between_13 ?_
  refine a_iloadn (pc := 14) C 2 rfl rfl dX6_between_14 ?_
  refine a_callV1 (pc := 15) (k' := 0) (n' := 0) C (c_X6_isUnit κ b) yv_X6_isUnit ml_X6_107 wi_X6_isUnit wl_X6_isUnit 0 rfl rfl rfl rfl (Nat.le_of_ble_eq_true rfl) (Nat.le_of_ble_eq_true rfl) (Nat.le_of_ble_eq_true rfl) ⟨(Nat.le_of_ble_eq_true rfl), (Nat.le_of_ble_eq_true rfl)⟩ rfl rfl dX6_between_15 ?_
  refine a_ifb_eq_n (pc := 18) C ((okU_n (by omega)).mpr (okU_j hy)) dX6_between_18 ⟨50, by decide⟩ ?_
  refine a_aloadn (pc := 21) C 0 rfl rfl dX6_between_21 ?_
  refine a_get (pc := 22) C fl_X6_44 0 rfl rfl dX6_between_22 ?_
  refine a_aloadn (pc := 25) C 0 rfl rfl dX6_between_25 ?_
  refine a_get (pc := 26) C fl_X6_41 0 rfl rfl dX6_between_26 ?_
  refine a_iloadn (pc := 29) C 1 rfl rfl dX6_between_29 ?_
  refine a_ialdN (pc := 30) C 11 rfl (by omega) (by decide) dX6_between_30 ?_
  refine a_laldS (pc := 31) C 12 rfl (hbo _) (by decide) dX6_between_31 ?_
  refine a_aloadn (pc := 32) C 0 rfl rfl dX6_between_32 ?_
  refine a_get (pc := 33) C fl_X6_48 0 rfl rfl dX6_between_33 ?_
  refine a_aloadn (pc := 36) C 0 rfl rfl dX6_between_36 ?_
  refine a_get (pc := 37) C fl_X6_41 0 rfl rfl dX6_between_37 ?_
  refine a_iloadn (pc := 40) C 2 rfl rfl dX6_between_40 ?_
  refine a_ialdN (pc := 41) C 11 rfl (by omega) (by decide) dX6_between_41 ?_
  refine a_laldS (pc := 42) C 13 rfl (hbo _) (by decide) dX6_between_42 ?_
  refine a_land (pc := 43) (v := bs (fun i => (eE (bo x)) i && (lE (bo y)) i)) C (bs_and _ _) dX6_between_43 ?_
  refine a_callS1 (pc := 44) (k' := 0) (n' := 0) C (c_J13_bitCount_95d88 κ) yv_J13_bitCount_95d88 ml_X6_130 ws_J13_bitCount_95d88 rfl rfl (Nat.le_of_ble_eq_true rfl) (Nat.le_of_ble_eq_true rfl) (Nat.le_of_ble_eq_true rfl) ⟨(Nat.le_of_ble_eq_true rfl), (Nat.le_of_ble_eq_true rfl)⟩ rfl rfl dX6_between_44 ?_
  refine a_goto (pc := 47) (tgt := 55) C (by decide) dX6_between_47 ?_
  exact a_iret (pc := 55) C E (Nat.le_of_ble_eq_true rfl) (Nat.le_of_ble_eq_true rfl) ⟨rfl, rfl⟩ dX6_between_55

set_option maxHeartbeats 4000000 in
set_option maxRecDepth 100000 in
theorem c_X6_isLinked (κ : aK) (b : Nat → Nat) {th : Int32} {un : Nat} {ss : Nat → Int32} {fi : Nat → Int32} {la : Nat → Int32} {da : Nat → Bool} {dg : Nat → Bool} {ps : Nat → Int32} {rn : Nat} {ks : Nat → Int32} {os : Nat → Nat} {ts : Nat → Nat} {fn : Nat} {fp : Nat → Int32} {bo : Nat → Nat} {eE : Nat → Nat → Bool} {lE : Nat → Nat → Bool} {li : Nat → Nat → Bool} {be : Nat → Int32} {ab : Nat → Int32} {X : va_W} {x : Nat} {y : Nat} (hun : un ≤ 40) (hbo : ∀ u, bo u < 40) (hx : x < un) (hy : y < un) : CM yX6_isLinked cX6_isLinked 3 (some .boolean) ({ frames := 2, cells := 0, slots := 0, locals := 43 } : Room) κ [.ref (b 0), .int (nI x), .int (nI y)] (wM κ b th un ss fi la da dg ps rn ks os ts fn fp bo eE lE li be ab X) (aD (some (.int (b2i (li (bo x) (bo y))))) (wM κ b (nI 0) un ss fi la da dg ps rn ks os ts fn fp bo eE lE li be ab X)) := by
  refine cm_entry (own := RX6) (L := [(0, .ref (b 0)), (1, .int (nI x)), (2, .int (nI y))]) (by decide +kernel) rfl (lv_entry [.ref (b 0), .int (nI x), .int (nI y)] (n := 3) (Nat.le_of_ble_eq_true rfl)) (fun g C E => ?_)
  refine a_aloadn (pc := 0) C 0 rfl rfl dX6_isLinked_0 ?_
  refine a_aloadn (pc := 1) C 0 rfl rfl dX6_isLinked_1 ?_
  refine a_iloadn (pc := 2) C 1 rfl rfl dX6_isLinked_2 ?_
  refine a_callV1 (pc := 3) (k' := 0) (n' := 0) C (c_X6_isUnit κ b) yv_X6_isUnit ml_X6_107 wi_X6_isUnit wl_X6_isUnit 0 rfl rfl rfl rfl (Nat.le_of_ble_eq_true rfl) (Nat.le_of_ble_eq_true rfl) (Nat.le_of_ble_eq_true rfl) ⟨(Nat.le_of_ble_eq_true rfl), (Nat.le_of_ble_eq_true rfl)⟩ rfl rfl dX6_isLinked_3 ?_
  refine a_ifb_eq_n (pc := 6) C ((okU_n (by omega)).mpr (okU_j hx)) dX6_isLinked_6 ⟨21, by decide⟩ ?_
  refine a_aloadn (pc := 9) C 0 rfl rfl dX6_isLinked_9 ?_
  refine a_iloadn (pc := 10) C 2 rfl rfl dX6_isLinked_10 ?_
  refine a_callV1 (pc := 11) (k' := 0) (n' := 0) C (c_X6_isUnit κ b) yv_X6_isUnit ml_X6_107 wi_X6_isUnit wl_X6_isUnit 0 rfl rfl rfl rfl (Nat.le_of_ble_eq_true rfl) (Nat.le_of_ble_eq_true rfl) (Nat.le_of_ble_eq_true rfl) ⟨(Nat.le_of_ble_eq_true rfl), (Nat.le_of_ble_eq_true rfl)⟩ rfl rfl dX6_isLinked_11 ?_
  refine a_ifb_eq_n (pc := 14) C ((okU_n (by omega)).mpr (okU_j hy)) dX6_isLinked_14 ⟨21, by decide⟩ ?_
  refine a_iconst (pc := 17) (v := nI 0) C ci_0 dX6_isLinked_17 ?_
  refine a_goto (pc := 18) (tgt := 22) C (by decide) dX6_isLinked_18 ?_
  refine a_put (pc := 22) (ws' := wM κ b (nI 0) un ss fi la da dg ps rn ks os ts fn fp bo eE lE li be ab X) C fl_X6_60 fp_X6_0 0 rfl rfl rfl (Nat.le_of_ble_eq_true rfl) rfl dX6_isLinked_22 ?_
  refine a_aloadn (pc := 25) C 0 rfl rfl dX6_isLinked_25 ?_
  refine a_get (pc := 26) C fl_X6_60 0 rfl rfl dX6_isLinked_26 ?_
  refine a_if_ne_n (pc := 29) C (by decide +kernel) dX6_isLinked_29 ⟨59, by decide⟩ ?_
  refine a_aloadn (pc := 32) C 0 rfl rfl dX6_isLinked_32 ?_
  refine a_get (pc := 33) C fl_X6_51 0 rfl rfl dX6_isLinked_33 ?_
  refine a_aloadn (pc := 36) C 0 rfl rfl dX6_isLinked_36 ?_
  refine a_get (pc := 37) C fl_X6_41 0 rfl rfl dX6_isLinked_37 ?_
  refine a_iloadn (pc := 40) C 1 rfl rfl dX6_isLinked_40 ?_
  refine a_ialdN (pc := 41) C 11 rfl (by omega) (by decide) dX6_isLinked_41 ?_
  refine a_laldS (pc := 42) C 14 rfl (hbo _) (by decide) dX6_isLinked_42 ?_
  refine a_aloadn (pc := 43) C 0 rfl rfl dX6_isLinked_43 ?_
  refine a_get (pc := 44) C fl_X6_41 0 rfl rfl dX6_isLinked_44 ?_
  refine a_iloadn (pc := 47) C 2 rfl rfl dX6_isLinked_47 ?_
  refine a_ialdN (pc := 48) C 11 rfl (by omega) (by decide) dX6_isLinked_48 ?_
  refine a_callS1 (pc := 49) (k' := 0) (n' := 0) C (c_X6_has κ (Nat.lt_trans (hbo _) (by decide))) yv_X6_has ml_X6_83 ws_X6_has rfl rfl (Nat.le_of_ble_eq_true rfl) (Nat.le_of_ble_eq_true rfl) (Nat.le_of_ble_eq_true rfl) ⟨(Nat.le_of_ble_eq_true rfl), (Nat.le_of_ble_eq_true rfl)⟩ rfl rfl dX6_isLinked_49 ?_
  refine a_ifb_eq (pc := 52) (tgt := 59) C (by decide) dX6_isLinked_52 (fun c1 => ?_) (fun c1 => ?_)
  · refine a_iconst (pc := 59) (v := nI 0) C ci_0 dX6_isLinked_59 ?_
    exact a_zret (pc := 60) (b := false) C E (Nat.le_of_ble_eq_true rfl) (Nat.le_of_ble_eq_true rfl) (by decide +kernel) ⟨by rw [c1], rfl⟩ dX6_isLinked_60
  · refine a_iconst (pc := 55) (v := nI 1) C ci_1 dX6_isLinked_55 ?_
    refine a_goto (pc := 56) (tgt := 60) C (by decide) dX6_isLinked_56 ?_
    exact a_zret (pc := 60) (b := true) C E (Nat.le_of_ble_eq_true rfl) (Nat.le_of_ble_eq_true rfl) (by decide +kernel) ⟨by rw [c1], rfl⟩ dX6_isLinked_60
