set_option maxHeartbeats 4000000 in
set_option maxRecDepth 100000 in
theorem c_X6_no (κ : aK) (b : Nat → Nat) {th : Int32} {un : Nat} {ss : Nat → Int32} {fi : Nat → Int32} {la : Nat → Int32} {da : Nat → Bool} {dg : Nat → Bool} {ps : Nat → Int32} {rn : Nat} {ks : Nat → Int32} {os : Nat → Nat} {ts : Nat → Nat} {fn : Nat} {fp : Nat → Int32} {bo : Nat → Nat} {eE : Nat → Nat → Bool} {lE : Nat → Nat → Bool} {li : Nat → Nat → Bool} {be : Nat → Int32} {ab : Nat → Int32} {X : va_W} {x : Int32} : CM yX6_no cX6_no 2 (some .int) ({ frames := 0, cells := 0, slots := 0, locals := 0 } : Room) κ [.ref (b 0), .int x] (wM κ b th un ss fi la da dg ps rn ks os ts fn fp bo eE lE li be ab X) (aD (some (.int (nI 0))) (wM κ b x un ss fi la da dg ps rn ks os ts fn fp bo eE lE li be ab X)) := by
  refine cm_entry (own := RX6) (L := [(0, .ref (b 0)), (1, .int x)]) (by decide +kernel) rfl (lv_entry [.ref (b 0), .int x] (n := 2) (Nat.le_of_ble_eq_true rfl)) (fun g C E => ?_)
  refine a_aloadn (pc := 0) C 0 rfl rfl dX6_no_0 ?_
  refine a_iloadn (pc := 1) C 1 rfl rfl dX6_no_1 ?_
  refine a_put (pc := 2) (ws' := wM κ b x un ss fi la da dg ps rn ks os ts fn fp bo eE lE li be ab X) C fl_X6_60 fp_X6_0 0 rfl rfl rfl (Nat.le_of_ble_eq_true rfl) rfl dX6_no_2 ?_
  refine a_iconst (pc := 5) (v := nI 0) C ci_0 dX6_no_5 ?_
  exact a_iret (pc := 6) C E (Nat.le_of_ble_eq_true rfl) (Nat.le_of_ble_eq_true rfl) ⟨rfl, rfl⟩ dX6_no_6

set_option maxHeartbeats 4000000 in
set_option maxRecDepth 100000 in
theorem c_X6_thrown (κ : aK) (b : Nat → Nat) {th : Int32} {un : Nat} {ss : Nat → Int32} {fi : Nat → Int32} {la : Nat → Int32} {da : Nat → Bool} {dg : Nat → Bool} {ps : Nat → Int32} {rn : Nat} {ks : Nat → Int32} {os : Nat → Nat} {ts : Nat → Nat} {fn : Nat} {fp : Nat → Int32} {bo : Nat → Nat} {eE : Nat → Nat → Bool} {lE : Nat → Nat → Bool} {li : Nat → Nat → Bool} {be : Nat → Int32} {ab : Nat → Int32} {X : va_W} : CM yX6_thrown cX6_thrown 1 (some .int) ({ frames := 0, cells := 0, slots := 0, locals := 0 } : Room) κ [.ref (b 0)] (wM κ b th un ss fi la da dg ps rn ks os ts fn fp bo eE lE li be ab X) (aD (some (.int th)) (wM κ b th un ss fi la da dg ps rn ks os ts fn fp bo eE lE li be ab X)) := by
  refine cm_entry (own := RX6) (L := [(0, .ref (b 0))]) (by decide +kernel) rfl (lv_entry [.ref (b 0)] (n := 1) (Nat.le_of_ble_eq_true rfl)) (fun g C E => ?_)
  refine a_aloadn (pc := 0) C 0 rfl rfl dX6_thrown_0 ?_
  refine a_get (pc := 1) C fl_X6_60 0 rfl rfl dX6_thrown_1 ?_
  exact a_iret (pc := 4) C E (Nat.le_of_ble_eq_true rfl) (Nat.le_of_ble_eq_true rfl) ⟨rfl, rfl⟩ dX6_thrown_4

set_option maxHeartbeats 4000000 in
set_option maxRecDepth 100000 in
theorem c_X6_isIn (κ : aK) {X : va_W} {x : Int32} {l : Int32} {h : Int32} : CM yX6_isIn cX6_isIn 3 (some .boolean) ({ frames := 0, cells := 0, slots := 0, locals := 0 } : Room) κ [.int x, .int l, .int h] (X) (aD (some (.int (b2i (inB l h x)))) (X)) := by
  refine cm_entry (own := RX6) (L := [(0, .int x), (1, .int l), (2, .int h)]) (by decide +kernel) rfl (lv_entry [.int x, .int l, .int h] (n := 3) (Nat.le_of_ble_eq_true rfl)) (fun g C E => ?_)
  unfold inB at E
  refine a_iloadn (pc := 0) C 0 rfl rfl dX6_isIn_0 ?_
  refine a_iloadn (pc := 1) C 1 rfl rfl dX6_isIn_1 ?_
  refine a_ic_lt (pc := 2) (tgt := 14) C (by decide) dX6_isIn_2 (fun c1 => ?_) (fun c1 => ?_)
  · rw [show decide (l ≤ x) = false from decide_eq_false (fun q => Int32.not_le.mpr c1 q)] at E
    refine a_iconst (pc := 14) (v := nI 0) C ci_0 dX6_isIn_14 ?_
    exact a_zret (pc := 15) (b := false) C E (Nat.le_of_ble_eq_true rfl) (Nat.le_of_ble_eq_true rfl) (by decide +kernel) ⟨rfl, rfl⟩ dX6_isIn_15
  · rw [show decide (l ≤ x) = true from decide_eq_true (Int32.not_lt.mp c1)] at E
    refine a_iloadn (pc := 5) C 0 rfl rfl dX6_isIn_5 ?_
    refine a_iloadn (pc := 6) C 2 rfl rfl dX6_isIn_6 ?_
    refine a_ic_gt (pc := 7) (tgt := 14) C (by decide) dX6_isIn_7 (fun c2 => ?_) (fun c2 => ?_)
    · rw [show decide (x ≤ h) = false from decide_eq_false (fun q => Int32.not_le.mpr c2 q)] at E
      refine a_iconst (pc := 14) (v := nI 0) C ci_0 dX6_isIn_14 ?_
      exact a_zret (pc := 15) (b := false) C E (Nat.le_of_ble_eq_true rfl) (Nat.le_of_ble_eq_true rfl) (by decide +kernel) ⟨rfl, rfl⟩ dX6_isIn_15
    · rw [show decide (x ≤ h) = true from decide_eq_true (Int32.not_lt.mp c2)] at E
      refine a_iconst (pc := 10) (v := nI 1) C ci_1 dX6_isIn_10 ?_
      refine a_goto (pc := 11) (tgt := 15) C (by decide) dX6_isIn_11 ?_
      exact a_zret (pc := 15) (b := true) C E (Nat.le_of_ble_eq_true rfl) (Nat.le_of_ble_eq_true rfl) (by decide +kernel) ⟨rfl, rfl⟩ dX6_isIn_15

set_option maxHeartbeats 4000000 in
set_option maxRecDepth 100000 in
theorem c_X6_isUnit (κ : aK) (b : Nat → Nat) {th : Int32} {un : Nat} {ss : Nat → Int32} {fi : Nat → Int32} {la : Nat → Int32} {da : Nat → Bool} {dg : Nat → Bool} {ps : Nat → Int32} {rn : Nat} {ks : Nat → Int32} {os : Nat → Nat} {ts : Nat → Nat} {fn : Nat} {fp : Nat → Int32} {bo : Nat → Nat} {eE : Nat → Nat → Bool} {lE : Nat → Nat → Bool} {li : Nat → Nat → Bool} {be : Nat → Int32} {ab : Nat → Int32} {X : va_W} {x : Int32} : CM yX6_isUnit cX6_isUnit 2 (some .boolean) ({ frames := 1, cells := 0, slots := 0, locals := 22 } : Room) κ [.ref (b 0), .int x] (wM κ b th un ss fi la da dg ps rn ks os ts fn fp bo eE lE li be ab X) (aD (some (.int (b2i (inB (nI 0) (nI un - nI 1) x)))) (wM κ b th un ss fi la da dg ps rn ks os ts fn fp bo eE lE li be ab X)) := by
  refine cm_entry (own := RX6) (L := [(0, .ref (b 0)), (1, .int x)]) (by decide +kernel) rfl (lv_entry [.ref (b 0), .int x] (n := 2) (Nat.le_of_ble_eq_true rfl)) (fun g C E => ?_)
  refine a_iloadn (pc := 0) C 1 rfl rfl dX6_isUnit_0 ?_
  refine a_iconst (pc := 1) (v := nI 0) C ci_0 dX6_isUnit_1 ?_
  refine a_aloadn (pc := 2) C 0 rfl rfl dX6_isUnit_2 ?_
  refine a_get (pc := 3) C fl_X6_64 0 rfl rfl dX6_isUnit_3 ?_
  refine a_iconst (pc := 6) (v := nI 1) C ci_1 dX6_isUnit_6 ?_
  refine a_isub (pc := 7) (v := nI un - nI 1) C rfl dX6_isUnit_7 ?_
  refine a_callS1 (pc := 8) (k' := 0) (n' := 0) C (c_X6_isIn κ) yv_X6_isIn ml_X6_67 ws_X6_isIn rfl rfl (Nat.le_of_ble_eq_true rfl) (Nat.le_of_ble_eq_true rfl) (Nat.le_of_ble_eq_true rfl) ⟨(Nat.le_of_ble_eq_true rfl), (Nat.le_of_ble_eq_true rfl)⟩ rfl rfl dX6_isUnit_8 ?_
  exact a_zret (pc := 11) (b := inB (nI 0) (nI un - nI 1) x) C E (Nat.le_of_ble_eq_true rfl) (Nat.le_of_ble_eq_true rfl) rfl ⟨rfl, rfl⟩ dX6_isUnit_11

set_option maxHeartbeats 4000000 in
set_option maxRecDepth 100000 in
theorem c_X6_isFind (κ : aK) (b : Nat → Nat) {th : Int32} {un : Nat} {ss : Nat → Int32} {fi : Nat → Int32} {la : Nat → Int32} {da : Nat → Bool} {dg : Nat → Bool} {ps : Nat → Int32} {rn : Nat} {ks : Nat → Int32} {os : Nat → Nat} {ts : Nat → Nat} {fn : Nat} {fp : Nat → Int32} {bo : Nat → Nat} {eE : Nat → Nat → Bool} {lE : Nat → Nat → Bool} {li : Nat → Nat → Bool} {be : Nat → Int32} {ab : Nat → Int32} {X : va_W} {x : Int32} : CM yX6_isFind cX6_isFind 2 (some .boolean) ({ frames := 1, cells := 0, slots := 0, locals := 22 } : Room) κ [.ref (b 0), .int x] (wM κ b th un ss fi la da dg ps rn ks os ts fn fp bo eE lE li be ab X) (aD (some (.int (b2i (inB (nI 0) (nI fn - nI 1) x)))) (wM κ b th un ss fi la da dg ps rn ks os ts fn fp bo eE lE li be ab X)) := by
  refine cm_entry (own := RX6) (L := [(0, .ref (b 0)), (1, .int x)]) (by decide +kernel) rfl (lv_entry [.ref (b 0), .int x] (n := 2) (Nat.le_of_ble_eq_true rfl)) (fun g C E => ?_)
  refine a_iloadn (pc := 0) C 1 rfl rfl dX6_isFind_0 ?_
  refine a_iconst (pc := 1) (v := nI 0) C ci_0 dX6_isFind_1 ?_
  refine a_aloadn (pc := 2) C 0 rfl rfl dX6_isFind_2 ?_
  refine a_get (pc := 3) C fl_X6_120 0 rfl rfl dX6_isFind_3 ?_
  refine a_iconst (pc := 6) (v := nI 1) C ci_1 dX6_isFind_6 ?_
  refine a_isub (pc := 7) (v := nI fn - nI 1) C rfl dX6_isFind_7 ?_
  refine a_callS1 (pc := 8) (k' := 0) (n' := 0) C (c_X6_isIn κ) yv_X6_isIn ml_X6_67 ws_X6_isIn rfl rfl (Nat.le_of_ble_eq_true rfl) (Nat.le_of_ble_eq_true rfl) (Nat.le_of_ble_eq_true rfl) ⟨(Nat.le_of_ble_eq_true rfl), (Nat.le_of_ble_eq_true rfl)⟩ rfl rfl dX6_isFind_8 ?_
  exact a_zret (pc := 11) (b := inB (nI 0) (nI fn - nI 1) x) C E (Nat.le_of_ble_eq_true rfl) (Nat.le_of_ble_eq_true rfl) rfl ⟨rfl, rfl⟩ dX6_isFind_11

set_option maxHeartbeats 4000000 in
set_option maxRecDepth 100000 in
theorem c_X6_isBody (κ : aK) (b : Nat → Nat) {th : Int32} {un : Nat} {ss : Nat → Int32} {fi : Nat → Int32} {la : Nat → Int32} {da : Nat → Bool} {dg : Nat → Bool} {ps : Nat → Int32} {rn : Nat} {ks : Nat → Int32} {os : Nat → Nat} {ts : Nat → Nat} {fn : Nat} {fp : Nat → Int32} {bo : Nat → Nat} {eE : Nat → Nat → Bool} {lE : Nat → Nat → Bool} {li : Nat → Nat → Bool} {be : Nat → Int32} {ab : Nat → Int32} {X : va_W} {u : Nat} (hu : u < 40) (hbo : ∀ u, bo u < 40) : CM yX6_isBody cX6_isBody 2 (some .boolean) ({ frames := 0, cells := 0, slots := 0, locals := 0 } : Room) κ [.ref (b 0), .int (nI u)] (wM κ b th un ss fi la da dg ps rn ks os ts fn fp bo eE lE li be ab X) (aD (some (.int (b2i (decide (bo u = u))))) (wM κ b th un ss fi la da dg ps rn ks os ts fn fp bo eE lE li be ab X)) := by
  refine cm_entry (own := RX6) (L := [(0, .ref (b 0)), (1, .int (nI u))]) (by decide +kernel) rfl (lv_entry [.ref (b 0), .int (nI u)] (n := 2) (Nat.le_of_ble_eq_true rfl)) (fun g C E => ?_)
  have hb1 := hbo u
  refine a_aloadn (pc := 0) C 0 rfl rfl dX6_isBody_0 ?_
  refine a_get (pc := 1) C fl_X6_41 0 rfl rfl dX6_isBody_1 ?_
  refine a_iloadn (pc := 4) C 1 rfl rfl dX6_isBody_4 ?_
  refine a_ialdN (pc := 5) C 11 rfl (by omega) (by decide) dX6_isBody_5 ?_
  refine a_iloadn (pc := 6) C 1 rfl rfl dX6_isBody_6 ?_
  refine a_icn_ne (pc := 7) (tgt := 14) C (by omega) (by omega) (by decide) dX6_isBody_7 (fun c1 => ?_) (fun c1 => ?_)
  · rw [show decide (bo u = u) = false from decide_eq_false c1] at E
    refine a_iconst (pc := 14) (v := nI 0) C ci_0 dX6_isBody_14 ?_
    exact a_zret (pc := 15) (b := false) C E (Nat.le_of_ble_eq_true rfl) (Nat.le_of_ble_eq_true rfl) (by decide +kernel) ⟨rfl, rfl⟩ dX6_isBody_15
  · rw [show decide (bo u = u) = true from decide_eq_true c1] at E
    refine a_iconst (pc := 10) (v := nI 1) C ci_1 dX6_isBody_10 ?_
    refine a_goto (pc := 11) (tgt := 15) C (by decide) dX6_isBody_11 ?_
    exact a_zret (pc := 15) (b := true) C E (Nat.le_of_ble_eq_true rfl) (Nat.le_of_ble_eq_true rfl) (by decide +kernel) ⟨rfl, rfl⟩ dX6_isBody_15

set_option maxHeartbeats 4000000 in
set_option maxRecDepth 100000 in
theorem c_X6_has (κ : aK) {X : va_W} {p : Nat → Bool} {e : Nat} (he : e < 64) : CM yX6_has cX6_has 3 (some .boolean) ({ frames := 0, cells := 0, slots := 0, locals := 0 } : Room) κ [.long (bs p), .int (nI e)] (X) (aD (some (.int (b2i (p e)))) (X)) := by
  refine cm_entry (own := RX6) (L := [(0, .long (bs p)), (2, .int (nI e))]) (by decide +kernel) rfl (lv_entry [.long (bs p), .int (nI e)] (n := 3) (Nat.le_of_ble_eq_true rfl)) (fun g C E => ?_)
  refine a_lloadn (pc := 0) C 0 rfl rfl dX6_has_0 ?_
  refine a_iloadn (pc := 1) C 1 rfl rfl dX6_has_1 ?_
  refine a_lshr (pc := 2) (v := (bs p) >>> ((nI e).toInt64 &&& 63)) C rfl dX6_has_2 ?_
  refine a_lconst (pc := 3) (v := 1) C rfl dX6_has_3 ?_
  refine a_land (pc := 4) (v := ((bs p) >>> ((nI e).toInt64 &&& 63)) &&& (1 : Int64)) C rfl dX6_has_4 ?_
  refine a_lconst (pc := 5) (v := 1) C rfl dX6_has_5 ?_
  refine a_lcmp (pc := 6) (v := lg_cmp (((bs p) >>> ((nI e).toInt64 &&& 63)) &&& (1 : Int64)) (1 : Int64)) C rfl dX6_has_6 ?_
  refine a_if_ne (pc := 7) (tgt := 14) C (by decide) dX6_has_7 (fun c1 => ?_) (fun c1 => ?_)
  · have c : p e = false := (Bool.not_eq_true _).mp (fun h => c1 ((bs_dn (by omega)).mpr h))
    rw [c] at E
    refine a_iconst (pc := 14) (v := nI 0) C ci_0 dX6_has_14 ?_
    exact a_zret (pc := 15) (b := false) C E (Nat.le_of_ble_eq_true rfl) (Nat.le_of_ble_eq_true rfl) (by decide +kernel) ⟨rfl, rfl⟩ dX6_has_15
  · have c := (bs_dn (by omega)).mp c1
    rw [c] at E
    refine a_iconst (pc := 10) (v := nI 1) C ci_1 dX6_has_10 ?_
    refine a_goto (pc := 11) (tgt := 15) C (by decide) dX6_has_11 ?_
    exact a_zret (pc := 15) (b := true) C E (Nat.le_of_ble_eq_true rfl) (Nat.le_of_ble_eq_true rfl) (by decide +kernel) ⟨rfl, rfl⟩ dX6_has_15

set_option maxHeartbeats 4000000 in
set_option maxRecDepth 100000 in
theorem c_X6_joinBodies (κ : aK) (b : Nat → Nat) {th : Int32} {un : Nat} {ss : Nat → Int32} {fi : Nat → Int32} {la : Nat → Int32} {da : Nat → Bool} {dg : Nat → Bool} {ps : Nat → Int32} {rn : Nat} {ks : Nat → Int32} {os : Nat → Nat} {ts : Nat → Nat} {fn : Nat} {fp : Nat → Int32} {bo : Nat → Nat} {eE : Nat → Nat → Bool} {lE : Nat → Nat → Bool} {li : Nat → Nat → Bool} {be : Nat → Int32} {ab : Nat → Int32} {X : va_W} (hun : un ≤ 40) (hrn : rn ≤ 80) (hbo : ∀ u, bo u < 40) (hos : ∀ u, os u < 40) (hts : ∀ u, ts u < 40) : CM yX6_joinBodies cX6_joinBodies 4 none ({ frames := 1, cells := 0, slots := 0, locals := 21 } : Room) κ [.ref (b 0)] (wM κ b th un ss fi la da dg ps rn ks os ts fn fp bo eE lE li be ab X) (aD none (wM κ b th un ss fi la da dg ps rn ks os ts fn fp (jW ks os ts rn 1600 (pre (fun u => u) bo un)) eE lE li be ab X)) := by
  refine cm_entry (own := RX6) (L := [(0, .ref (b 0))]) (by decide +kernel) rfl (lv_entry [.ref (b 0)] (n := 4) (Nat.le_of_ble_eq_true rfl)) (fun g C E => ?_)
  have hpre : ∀ u, (pre (fun u => u) bo un) u < 40 := pre_lt (fun u hu => by omega) hbo
  refine a_iconst (pc := 0) (v := nI 0) C ci_0 dX6_joinBodies_0 ?_
  refine a_istoren (pc := 1) (L' := [(0, .ref (b 0)), (1, .int (nI 0))]) C (by decide) rfl rfl dX6_joinBodies_1 ?_
  have LP2 : ∀ (jz k : Nat), k + jz = un → aw g κ 4 2 [(0, .ref (b 0)), (1, .int (nI k))] [] (wM κ b th un ss fi la da dg ps rn ks os ts fn fp (pre (fun u => u) bo k) eE lE li be ab X) 0 0 := by
    intro jz
    induction jz with
    | zero =>
      intro k hk_k
      obtain rfl : un = k := by omega
      refine a_iloadn (pc := 2) C 1 rfl rfl dX6_joinBodies_2 ?_
      refine a_aloadn (pc := 3) C 0 rfl rfl dX6_joinBodies_3 ?_
      refine a_get (pc := 4) C fl_X6_64 0 rfl rfl dX6_joinBodies_4 ?_
      refine a_icn_ge_y (pc := 7) (tgt := 23) C (by omega) (by omega) (by omega) (by decide) dX6_joinBodies_7 ?_
      refine a_iconst (pc := 23) (v := nI 1) C ci_1 dX6_joinBodies_23 ?_
      refine a_istoren (pc := 24) (L' := [(0, .ref (b 0)), (1, .int (nI 1))]) C (by decide) rfl rfl dX6_joinBodies_24 ?_
      have LP25 : ∀ (jz : Nat) (v : Nat → Nat) (vf : Bool), (∀ u, v u < 40) → (vf = true → sumN v 40 < jz) → (vf = false → jq ks os ts v rn = v) → jW ks os ts rn jz v = jW ks os ts rn 1600 (pre (fun u => u) bo un) → aw g κ 4 25 [(0, .ref (b 0)), (1, .int (b2i vf))] [] (wM κ b th un ss fi la da dg ps rn ks os ts fn fp v eE lE li be ab X) 0 0 := by
        intro jz
        induction jz with
        | zero =>
          intro v vf hv h1 h2 h3
          cases vf with
          | true => exact absurd (h1 rfl) (by omega)
          | false =>
            refine a_iloadn (pc := 25) C 1 rfl rfl dX6_joinBodies_25 ?_
            refine a_ifb_eq_y (pc := 26) (tgt := 140) C rfl (by decide) dX6_joinBodies_26 ?_
            refine aw_eq (congrArg (fun zz9 => wM κ b th un ss fi la da dg ps rn ks os ts fn fp zz9 eE lE li be ab X) (h3 : v = (jW ks os ts rn 1600 (pre (fun u => u) bo un)))) ?_
            exact a_vret (pc := 140) C E (Nat.le_of_ble_eq_true rfl) (Nat.le_of_ble_eq_true rfl) ⟨rfl, rfl⟩ dX6_joinBodies_140
        | succ jz ih =>
          intro v vf hv h1 h2 h3
          cases vf with
          | false =>
            refine a_iloadn (pc := 25) C 1 rfl rfl dX6_joinBodies_25 ?_
            refine a_ifb_eq_y (pc := 26) (tgt := 140) C rfl (by decide) dX6_joinBodies_26 ?_
            refine aw_eq (congrArg (fun zz9 => wM κ b th un ss fi la da dg ps rn ks os ts fn fp zz9 eE lE li be ab X) ((jW_st (h2 rfl) _).symm.trans h3 : v = (jW ks os ts rn 1600 (pre (fun u => u) bo un)))) ?_
            exact a_vret (pc := 140) C E (Nat.le_of_ble_eq_true rfl) (Nat.le_of_ble_eq_true rfl) ⟨rfl, rfl⟩ dX6_joinBodies_140
          | true =>
            have hjq : ∀ k u, jq ks os ts v k u < 40 := fun k u => jq_lt hv k u
            refine a_iloadn (pc := 25) C 1 rfl rfl dX6_joinBodies_25 ?_
            refine a_ifb_eq_n (pc := 26) C rfl dX6_joinBodies_26 ⟨140, by decide⟩ ?_
            refine a_iconst (pc := 29) (v := nI 0) C ci_0 dX6_joinBodies_29 ?_
            refine a_istoren (pc := 30) (L' := [(0, .ref (b 0)), (1, .int (nI 0))]) C (by decide) rfl rfl dX6_joinBodies_30 ?_
            refine a_iconst (pc := 31) (v := nI 0) C ci_0 dX6_joinBodies_31 ?_
            refine a_istoren (pc := 32) (L' := [(0, .ref (b 0)), (1, .int (nI 0)), (2, .int (nI 0))]) C (by decide) rfl rfl dX6_joinBodies_32 ?_
            have LP33 : ∀ (jz k : Nat), k + jz = rn → aw g κ 4 33 [(0, .ref (b 0)), (1, .int (b2i (jc ks os ts v k))), (2, .int (nI k))] [] (wM κ b th un ss fi la da dg ps rn ks os ts fn fp (jq ks os ts v k) eE lE li be ab X) 0 0 := by
              intro jz
              induction jz with
              | zero =>
                intro k hk_k
                obtain rfl : rn = k := by omega
                refine a_iloadn (pc := 33) C 2 rfl rfl dX6_joinBodies_33 ?_
                refine a_aloadn (pc := 34) C 0 rfl rfl dX6_joinBodies_34 ?_
                refine a_get (pc := 35) C fl_X6_71 0 rfl rfl dX6_joinBodies_35 ?_
                refine a_icn_ge_y (pc := 38) (tgt := 137) C (by omega) (by omega) (by omega) (by decide) dX6_joinBodies_38 ?_
                refine a_goto (pc := 137) (tgt := 25) C (by decide) dX6_joinBodies_137 ?_
                refine aw_locals (L' := [(0, .ref (b 0)), (1, .int (b2i (jc ks os ts v rn)))]) [0, 1] rfl ?_
                exact ih (jq ks os ts v rn) (jc ks os ts v rn) (hjq rn) (fun c => by have := (jq_sum (ks := ks) (b := v) hos hts rn).1 c; have := h1 rfl; omega) (fun c => by rw [(jq_sum (ks := ks) (b := v) hos hts rn).2 c]; rw [(jq_sum (ks := ks) (b := v) hos hts rn).2 c]) h3
              | succ jz ih =>
                intro k hk_k
                have hlt_k : k < rn := by omega
                have hj1 := hjq k (os k)
                have hj2 := hjq k (ts k)
                refine a_iloadn (pc := 33) C 2 rfl rfl dX6_joinBodies_33 ?_
                refine a_aloadn (pc := 34) C 0 rfl rfl dX6_joinBodies_34 ?_
                refine a_get (pc := 35) C fl_X6_71 0 rfl rfl dX6_joinBodies_35 ?_
                refine a_icn_ge_n (pc := 38) C (by omega) (by omega) (by omega) dX6_joinBodies_38 ⟨137, by decide⟩ ?_
                refine a_aloadn (pc := 41) C 0 rfl rfl dX6_joinBodies_41 ?_
                refine a_get (pc := 42) C fl_X6_29 0 rfl rfl dX6_joinBodies_42 ?_
                refine a_iloadn (pc := 45) C 2 rfl rfl dX6_joinBodies_45 ?_
                refine a_iald (pc := 46) C 7 rfl (by omega) (by decide) dX6_joinBodies_46 ?_
                refine a_iconst (pc := 47) (v := nI 4) C ci_4 dX6_joinBodies_47 ?_
                refine a_ic_ne (pc := 48) (tgt := 131) C (by decide) dX6_joinBodies_48 (fun c1 => ?_) (fun c1 => ?_)
                · refine a_iinc (pc := 131) (v := nI (k + 1)) (L' := [(0, .ref (b 0)), (1, .int (b2i (jc ks os ts v k))), (2, .int (nI (k + 1)))]) C 2 rfl (nI_inc _) (by decide) rfl dX6_joinBodies_131 ?_
                  refine a_goto (pc := 134) (tgt := 33) C (by decide) dX6_joinBodies_134 ?_
                  refine aw_L (L' := [(0, .ref (b 0)), (1, .int (b2i (jc ks os ts v (k + 1)))), (2, .int (nI (k + 1)))]) (congrArg (fun zz9 => ([(0, .ref (b 0)), (1, .int zz9), (2, .int (nI (k + 1)))] : List (Nat × Value))) (jc_n1 c1 : (b2i (jc ks os ts v k)) = (b2i (jc ks os ts v (k + 1))))) ?_
                  refine aw_eq (congrArg (fun zz9 => wM κ b th un ss fi la da dg ps rn ks os ts fn fp zz9 eE lE li be ab X) (jq_n1 c1 : (jq ks os ts v k) = (jq ks os ts v (k + 1)))) ?_
                  exact ih (k + 1) (by omega)
                · refine a_aloadn (pc := 51) C 0 rfl rfl dX6_joinBodies_51 ?_
                  refine a_get (pc := 52) C fl_X6_41 0 rfl rfl dX6_joinBodies_52 ?_
                  refine a_aloadn (pc := 55) C 0 rfl rfl dX6_joinBodies_55 ?_
                  refine a_get (pc := 56) C fl_X6_32 0 rfl rfl dX6_joinBodies_56 ?_
                  refine a_iloadn (pc := 59) C 2 rfl rfl dX6_joinBodies_59 ?_
                  refine a_ialdN (pc := 60) C 8 rfl (by omega) (by decide) dX6_joinBodies_60 ?_
                  refine a_ialdN (pc := 61) C 11 rfl (hos _) (by decide) dX6_joinBodies_61 ?_
                  refine a_aloadn (pc := 62) C 0 rfl rfl dX6_joinBodies_62 ?_
                  refine a_get (pc := 63) C fl_X6_41 0 rfl rfl dX6_joinBodies_63 ?_
                  refine a_aloadn (pc := 66) C 0 rfl rfl dX6_joinBodies_66 ?_
                  refine a_get (pc := 67) C fl_X6_35 0 rfl rfl dX6_joinBodies_67 ?_
                  refine a_iloadn (pc := 70) C 2 rfl rfl dX6_joinBodies_70 ?_
                  refine a_ialdN (pc := 71) C 9 rfl (by omega) (by decide) dX6_joinBodies_71 ?_
                  refine a_ialdN (pc := 72) C 11 rfl (hts _) (by decide) dX6_joinBodies_72 ?_
                  refine a_icn_ne (pc := 73) (tgt := 79) C (by omega) (by omega) (by decide) dX6_joinBodies_73 (fun c2 => ?_) (fun c2 => ?_)
                  · refine a_aloadn (pc := 79) C 0 rfl rfl dX6_joinBodies_79 ?_
                    refine a_get (pc := 80) C fl_X6_41 0 rfl rfl dX6_joinBodies_80 ?_
                    refine a_aloadn (pc := 83) C 0 rfl rfl dX6_joinBodies_83 ?_
                    refine a_get (pc := 84) C fl_X6_32 0 rfl rfl dX6_joinBodies_84 ?_
                    refine a_iloadn (pc := 87) C 2 rfl rfl dX6_joinBodies_87 ?_
                    refine a_ialdN (pc := 88) C 8 rfl (by omega) (by decide) dX6_joinBodies_88 ?_
                    refine a_ialdN (pc := 89) C 11 rfl (hos _) (by decide) dX6_joinBodies_89 ?_
                    refine a_aloadn (pc := 90) C 0 rfl rfl dX6_joinBodies_90 ?_
                    refine a_get (pc := 91) C fl_X6_41 0 rfl rfl dX6_joinBodies_91 ?_
                    refine a_aloadn (pc := 94) C 0 rfl rfl dX6_joinBodies_94 ?_
                    refine a_get (pc := 95) C fl_X6_35 0 rfl rfl dX6_joinBodies_95 ?_
                    refine a_iloadn (pc := 98) C 2 rfl rfl dX6_joinBodies_98 ?_
                    refine a_ialdN (pc := 99) C 9 rfl (by omega) (by decide) dX6_joinBodies_99 ?_
                    refine a_ialdN (pc := 100) C 11 rfl (hts _) (by decide) dX6_joinBodies_100 ?_
                    refine a_mmin (pc := 101) (v := nI (min ((jq ks os ts v k) (os k)) ((jq ks os ts v k) (ts k)))) C ml_X6_74 (nI_min (by omega) (by omega)) (Nat.le_of_ble_eq_true rfl) (Nat.le_of_ble_eq_true rfl) (Nat.le_of_ble_eq_true rfl) (Nat.le_of_ble_eq_true rfl) dX6_joinBodies_101 ?_
                    refine a_istoren (pc := 104) (L' := [(0, .ref (b 0)), (1, .int (b2i (jc ks os ts v k))), (2, .int (nI k)), (3, .int (nI (min ((jq ks os ts v k) (os k)) ((jq ks os ts v k) (ts k)))))]) C (by decide) rfl rfl dX6_joinBodies_104 ?_
                    refine a_aloadn (pc := 105) C 0 rfl rfl dX6_joinBodies_105 ?_
                    refine a_get (pc := 106) C fl_X6_41 0 rfl rfl dX6_joinBodies_106 ?_
                    refine a_aloadn (pc := 109) C 0 rfl rfl dX6_joinBodies_109 ?_
                    refine a_get (pc := 110) C fl_X6_32 0 rfl rfl dX6_joinBodies_110 ?_
                    refine a_iloadn (pc := 113) C 2 rfl rfl dX6_joinBodies_113 ?_
                    refine a_ialdN (pc := 114) C 8 rfl (by omega) (by decide) dX6_joinBodies_114 ?_
                    refine a_iloadn (pc := 115) C 3 rfl rfl dX6_joinBodies_115 ?_
                    refine a_iast (pc := 116) (ws' := wM κ b th un ss fi la da dg ps rn ks os ts fn fp (va_up (jq ks os ts v k) (os k) (min ((jq ks os ts v k) (os k)) ((jq ks os ts v k) (ts k)))) eE lE li be ab X) C 11 rfl (hos _) (by decide) (fN_up _ _ _) rfl dX6_joinBodies_116 ?_
                    refine a_aloadn (pc := 117) C 0 rfl rfl dX6_joinBodies_117 ?_
                    refine a_get (pc := 118) C fl_X6_41 0 rfl rfl dX6_joinBodies_118 ?_
                    refine a_aloadn (pc := 121) C 0 rfl rfl dX6_joinBodies_121 ?_
                    refine a_get (pc := 122) C fl_X6_35 0 rfl rfl dX6_joinBodies_122 ?_
                    refine a_iloadn (pc := 125) C 2 rfl rfl dX6_joinBodies_125 ?_
                    refine a_ialdN (pc := 126) C 9 rfl (by omega) (by decide) dX6_joinBodies_126 ?_
                    refine a_iloadn (pc := 127) C 3 rfl rfl dX6_joinBodies_127 ?_
                    refine a_iast (pc := 128) (ws' := wM κ b th un ss fi la da dg ps rn ks os ts fn fp (va_up (va_up (jq ks os ts v k) (os k) (min ((jq ks os ts v k) (os k)) ((jq ks os ts v k) (ts k)))) (ts k) (min ((jq ks os ts v k) (os k)) ((jq ks os ts v k) (ts k)))) eE lE li be ab X) C 11 rfl (hts _) (by decide) (fN_up _ _ _) rfl dX6_joinBodies_128 ?_
                    refine a_iconst (pc := 129) (v := nI 1) C ci_1 dX6_joinBodies_129 ?_
                    refine a_istoren (pc := 130) (L' := [(0, .ref (b 0)), (1, .int (nI 1)), (2, .int (nI k)), (3, .int (nI (min ((jq ks os ts v k) (os k)) ((jq ks os ts v k) (ts k)))))]) C (by decide) rfl rfl dX6_joinBodies_130 ?_
                    refine a_iinc (pc := 131) (v := nI (k + 1)) (L' := [(0, .ref (b 0)), (1, .int (nI 1)), (2, .int (nI (k + 1))), (3, .int (nI (min ((jq ks os ts v k) (os k)) ((jq ks os ts v k) (ts k)))))]) C 2 rfl (nI_inc _) (by decide) rfl dX6_joinBodies_131 ?_
                    refine a_goto (pc := 134) (tgt := 33) C (by decide) dX6_joinBodies_134 ?_
                    refine aw_locals (L' := [(0, .ref (b 0)), (1, .int (nI 1)), (2, .int (nI (k + 1)))]) [0, 1, 2] rfl ?_
                    refine aw_L (L' := [(0, .ref (b 0)), (1, .int (b2i (jc ks os ts v (k + 1)))), (2, .int (nI (k + 1)))]) (congrArg (fun zz9 => ([(0, .ref (b 0)), (1, .int zz9), (2, .int (nI (k + 1)))] : List (Nat × Value))) (jc_y c1 c2 : (nI 1) = (b2i (jc ks os ts v (k + 1))))) ?_
                    refine aw_eq (congrArg (fun zz9 => wM κ b th un ss fi la da dg ps rn ks os ts fn fp zz9 eE lE li be ab X) (jq_y c1 c2 : (va_up (va_up (jq ks os ts v k) (os k) (min ((jq ks os ts v k) (os k)) ((jq ks os ts v k) (ts k)))) (ts k) (min ((jq ks os ts v k) (os k)) ((jq ks os ts v k) (ts k)))) = (jq ks os ts v (k + 1)))) ?_
                    exact ih (k + 1) (by omega)
                  · refine a_goto (pc := 76) (tgt := 131) C (by decide) dX6_joinBodies_76 ?_
                    refine a_iinc (pc := 131) (v := nI (k + 1)) (L' := [(0, .ref (b 0)), (1, .int (b2i (jc ks os ts v k))), (2, .int (nI (k + 1)))]) C 2 rfl (nI_inc _) (by decide) rfl dX6_joinBodies_131 ?_
                    refine a_goto (pc := 134) (tgt := 33) C (by decide) dX6_joinBodies_134 ?_
                    refine aw_L (L' := [(0, .ref (b 0)), (1, .int (b2i (jc ks os ts v (k + 1)))), (2, .int (nI (k + 1)))]) (congrArg (fun zz9 => ([(0, .ref (b 0)), (1, .int zz9), (2, .int (nI (k + 1)))] : List (Nat × Value))) (jc_n2 c2 : (b2i (jc ks os ts v k)) = (b2i (jc ks os ts v (k + 1))))) ?_
                    refine aw_eq (congrArg (fun zz9 => wM κ b th un ss fi la da dg ps rn ks os ts fn fp zz9 eE lE li be ab X) (jq_n2 c2 : (jq ks os ts v k) = (jq ks os ts v (k + 1)))) ?_
                    exact ih (k + 1) (by omega)
            refine aw_L (L' := [(0, .ref (b 0)), (1, .int (b2i (jc ks os ts v 0))), (2, .int (nI 0))]) (congrArg (fun zz9 => ([(0, .ref (b 0)), (1, .int zz9), (2, .int (nI 0))] : List (Nat × Value))) (jc_0 : (nI 0) = (b2i (jc ks os ts v 0)))) ?_
            refine aw_eq (congrArg (fun zz9 => wM κ b th un ss fi la da dg ps rn ks os ts fn fp zz9 eE lE li be ab X) (rfl : v = (jq ks os ts v 0))) ?_
            exact LP33 (rn) (0) (by omega)
      refine aw_L (L' := [(0, .ref (b 0)), (1, .int (b2i true))]) (congrArg (fun zz9 => ([(0, .ref (b 0)), (1, .int zz9)] : List (Nat × Value))) ((by decide +kernel) : (nI 1) = (b2i true))) ?_
      exact LP25 1600 _ true hpre (fun _ => by have := sumN_lt (v := (pre (fun u => u) bo un)) (B := 39) hpre 40; omega) (fun c => by cases c) rfl
    | succ jz ih =>
      intro k hk_k
      have hlt_k : k < un := by omega
      refine a_iloadn (pc := 2) C 1 rfl rfl dX6_joinBodies_2 ?_
      refine a_aloadn (pc := 3) C 0 rfl rfl dX6_joinBodies_3 ?_
      refine a_get (pc := 4) C fl_X6_64 0 rfl rfl dX6_joinBodies_4 ?_
      refine a_icn_ge_n (pc := 7) C (by omega) (by omega) (by omega) dX6_joinBodies_7 ⟨23, by decide⟩ ?_
      refine a_aloadn (pc := 10) C 0 rfl rfl dX6_joinBodies_10 ?_
      refine a_get (pc := 11) C fl_X6_41 0 rfl rfl dX6_joinBodies_11 ?_
      refine a_iloadn (pc := 14) C 1 rfl rfl dX6_joinBodies_14 ?_
      refine a_iloadn (pc := 15) C 1 rfl rfl dX6_joinBodies_15 ?_
      refine a_iast (pc := 16) (ws' := wM κ b th un ss fi la da dg ps rn ks os ts fn fp (va_up (pre (fun u => u) bo k) k k) eE lE li be ab X) C 11 rfl (by omega) (by decide) (fN_up _ _ _) rfl dX6_joinBodies_16 ?_
      refine a_iinc (pc := 17) (v := nI (k + 1)) (L' := [(0, .ref (b 0)), (1, .int (nI (k + 1)))]) C 1 rfl (nI_inc _) (by decide) rfl dX6_joinBodies_17 ?_
      refine a_goto (pc := 20) (tgt := 2) C (by decide) dX6_joinBodies_20 ?_
      refine aw_eq (congrArg (fun zz9 => wM κ b th un ss fi la da dg ps rn ks os ts fn fp zz9 eE lE li be ab X) (pre_s (fun u => u) bo k : (va_up (pre (fun u => u) bo k) k k) = (pre (fun u => u) bo (k + 1)))) ?_
      exact ih (k + 1) (by omega)
  refine aw_eq (congrArg (fun zz9 => wM κ b th un ss fi la da dg ps rn ks os ts fn fp zz9 eE lE li be ab X) ((pre_0 _ _).symm : bo = (pre (fun u => u) bo 0))) ?_
  exact LP2 (un) (0) (by omega)

set_option maxHeartbeats 4000000 in
set_option maxRecDepth 100000 in
theorem c_X6_follow (κ : aK) (b : Nat → Nat) {th : Int32} {un : Nat} {ss : Nat → Int32} {fi : Nat → Int32} {la : Nat → Int32} {da : Nat → Bool} {dg : Nat → Bool} {ps : Nat → Int32} {rn : Nat} {ks : Nat → Int32} {os : Nat → Nat} {ts : Nat → Nat} {fn : Nat} {fp : Nat → Int32} {bo : Nat → Nat} {eE : Nat → Nat → Bool} {lE : Nat → Nat → Bool} {li : Nat → Nat → Bool} {be : Nat → Int32} {ab : Nat → Int32} {X : va_W} (hun : un ≤ 40) (hrn : rn ≤ 80) (hbo : ∀ u, bo u < 40) (hos : ∀ u, os u < 40) (hts : ∀ u, ts u < 40) : CM yX6_follow cX6_follow 3 (some .boolean) ({ frames := 2, cells := 0, slots := 0, locals := 44 } : Room) κ [.ref (b 0)] (wM κ b th un ss fi la da dg ps rn ks os ts fn fp bo eE lE li be ab X) (aD (some (.int (b2i (!(anyB (fun u => sE ks os ts bo un rn eE u u) un))))) (wM κ b th un ss fi la da dg ps rn ks os ts fn fp (sJ ks os ts bo un rn) (sE ks os ts bo un rn eE) lE li be ab X)) := by
  refine cm_entry (own := RX6) (L := [(0, .ref (b 0))]) (by decide +kernel) rfl (lv_entry [.ref (b 0)] (n := 3) (Nat.le_of_ble_eq_true rfl)) (fun g C E => ?_)
  have hpre : ∀ u, (pre (fun u => u) bo un) u < 40 := pre_lt (fun u hu => by omega) hbo
  have hJ : ∀ u, sJ ks os ts bo un rn u < 40 := jW_lt 1600 hpre
  refine a_aloadn (pc := 0) C 0 rfl rfl dX6_follow_0 ?_
  refine a_callV0 (pc := 1) (k' := 0) (n' := 0) C (c_X6_joinBodies κ b hun hrn hbo hos hts) yv_X6_joinBodies ml_X6_80 wi_X6_joinBodies wl_X6_joinBodies 0 rfl rfl rfl rfl (Nat.le_of_ble_eq_true rfl) (Nat.le_of_ble_eq_true rfl) (Nat.le_of_ble_eq_true rfl) ⟨(Nat.le_of_ble_eq_true rfl), (Nat.le_of_ble_eq_true rfl)⟩ rfl rfl dX6_follow_1 ?_
  refine aw_eq (ws' := wM κ b th un ss fi la da dg ps rn ks os ts fn fp (sJ ks os ts bo un rn) eE lE li be ab X) rfl ?_
  refine a_iconst (pc := 4) (v := nI 0) C ci_0 dX6_follow_4 ?_
  refine a_istoren (pc := 5) (L' := [(0, .ref (b 0)), (1, .int (nI 0))]) C (by decide) rfl rfl dX6_follow_5 ?_
  have LP6 : ∀ (jz k : Nat), k + jz = un → aw g κ 3 6 [(0, .ref (b 0)), (1, .int (nI k))] [] (wM κ b th un ss fi la da dg ps rn ks os ts fn fp (sJ ks os ts bo un rn) (pre (fun _ _ => false) eE k) lE li be ab X) 0 0 := by
    intro jz
    induction jz with
    | zero =>
      intro k hk_k
      obtain rfl : un = k := by omega
      refine a_iloadn (pc := 6) C 1 rfl rfl dX6_follow_6 ?_
      refine a_aloadn (pc := 7) C 0 rfl rfl dX6_follow_7 ?_
      refine a_get (pc := 8) C fl_X6_64 0 rfl rfl dX6_follow_8 ?_
      refine a_icn_ge_y (pc := 11) (tgt := 27) C (by omega) (by omega) (by omega) (by decide) dX6_follow_11 ?_
      refine a_iconst (pc := 27) (v := nI 0) C ci_0 dX6_follow_27 ?_
      refine a_istoren (pc := 28) (L' := [(0, .ref (b 0)), (1, .int (nI 0))]) C (by decide) rfl rfl dX6_follow_28 ?_
      have LP29 : ∀ (jz k : Nat), k + jz = rn → aw g κ 3 29 [(0, .ref (b 0)), (1, .int (nI k))] [] (wM κ b th un ss fi la da dg ps rn ks os ts fn fp (sJ ks os ts bo un rn) (dA ks os ts (sJ ks os ts bo un rn) (pre (fun _ _ => false) eE un) k) lE li be ab X) 0 0 := by
        intro jz
        induction jz with
        | zero =>
          intro k hk_k
          obtain rfl : rn = k := by omega
          refine a_iloadn (pc := 29) C 1 rfl rfl dX6_follow_29 ?_
          refine a_aloadn (pc := 30) C 0 rfl rfl dX6_follow_30 ?_
          refine a_get (pc := 31) C fl_X6_71 0 rfl rfl dX6_follow_31 ?_
          refine a_icn_ge_y (pc := 34) (tgt := 85) C (by omega) (by omega) (by omega) (by decide) dX6_follow_34 ?_
          refine a_iconst (pc := 85) (v := nI 0) C ci_0 dX6_follow_85 ?_
          refine a_istoren (pc := 86) (L' := [(0, .ref (b 0)), (1, .int (nI 0))]) C (by decide) rfl rfl dX6_follow_86 ?_
          have LP87 : ∀ (jz q : Nat), q + jz = un → aw g κ 3 87 [(0, .ref (b 0)), (1, .int (nI q))] [] (wM κ b th un ss fi la da dg ps rn ks os ts fn fp (sJ ks os ts bo un rn) (wO un (dA ks os ts (sJ ks os ts bo un rn) (pre (fun _ _ => false) eE un) rn) q) lE li be ab X) 0 0 := by
            intro jz
            induction jz with
            | zero =>
              intro q hk_q
              obtain rfl : un = q := by omega
              refine a_iloadn (pc := 87) C 1 rfl rfl dX6_follow_87 ?_
              refine a_aloadn (pc := 88) C 0 rfl rfl dX6_follow_88 ?_
              refine a_get (pc := 89) C fl_X6_64 0 rfl rfl dX6_follow_89 ?_
              refine a_icn_ge_y (pc := 92) (tgt := 145) C (by omega) (by omega) (by omega) (by decide) dX6_follow_92 ?_
              refine a_iconst (pc := 145) (v := nI 0) C ci_0 dX6_follow_145 ?_
              refine a_istoren (pc := 146) (L' := [(0, .ref (b 0)), (1, .int (nI 0))]) C (by decide) rfl rfl dX6_follow_146 ?_
              refine aw_eq (ws' := wM κ b th un ss fi la da dg ps rn ks os ts fn fp (sJ ks os ts bo un rn) (sE ks os ts bo un rn eE) lE li be ab X) rfl ?_
              have LP147 : ∀ (jz k : Nat), k + jz = un → (anyB (fun u => sE ks os ts bo un rn eE u u) k = false) → aw g κ 3 147 [(0, .ref (b 0)), (1, .int (nI k))] [] (wM κ b th un ss fi la da dg ps rn ks os ts fn fp (sJ ks os ts bo un rn) (sE ks os ts bo un rn eE) lE li be ab X) 0 0 := by
                intro jz
                induction jz with
                | zero =>
                  intro k hk_k hno
                  obtain rfl : un = k := by omega
                  refine a_iloadn (pc := 147) C 1 rfl rfl dX6_follow_147 ?_
                  refine a_aloadn (pc := 148) C 0 rfl rfl dX6_follow_148 ?_
                  refine a_get (pc := 149) C fl_X6_64 0 rfl rfl dX6_follow_149 ?_
                  refine a_icn_ge_y (pc := 152) (tgt := 176) C (by omega) (by omega) (by omega) (by decide) dX6_follow_152 ?_
                  refine a_iconst (pc := 176) (v := nI 1) C ci_1 dX6_follow_176 ?_
                  exact a_zret (pc := 177) (b := true) C E (Nat.le_of_ble_eq_true rfl) (Nat.le_of_ble_eq_true rfl) (by decide +kernel) ⟨by rw [hno]; rfl, rfl⟩ dX6_follow_177
                | succ jz ih =>
                  intro k hk_k hno
                  have hlt_k : k < un := by omega
                  refine a_iloadn (pc := 147) C 1 rfl rfl dX6_follow_147 ?_
                  refine a_aloadn (pc := 148) C 0 rfl rfl dX6_follow_148 ?_
                  refine a_get (pc := 149) C fl_X6_64 0 rfl rfl dX6_follow_149 ?_
                  refine a_icn_ge_n (pc := 152) C (by omega) (by omega) (by omega) dX6_follow_152 ⟨176, by decide⟩ ?_
                  refine a_aloadn (pc := 155) C 0 rfl rfl dX6_follow_155 ?_
                  refine a_get (pc := 156) C fl_X6_44 0 rfl rfl dX6_follow_156 ?_
                  refine a_iloadn (pc := 159) C 1 rfl rfl dX6_follow_159 ?_
                  refine a_laldS (pc := 160) C 12 rfl (by omega) (by decide) dX6_follow_160 ?_
                  refine a_iloadn (pc := 161) C 1 rfl rfl dX6_follow_161 ?_
                  refine a_callS1 (pc := 162) (k' := 0) (n' := 0) C (c_X6_has κ (by omega)) yv_X6_has ml_X6_83 ws_X6_has rfl rfl (Nat.le_of_ble_eq_true rfl) (Nat.le_of_ble_eq_true rfl) (Nat.le_of_ble_eq_true rfl) ⟨(Nat.le_of_ble_eq_true rfl), (Nat.le_of_ble_eq_true rfl)⟩ rfl rfl dX6_follow_162 ?_
                  refine a_ifb_eq (pc := 165) (tgt := 170) C (by decide) dX6_follow_165 (fun c1 => ?_) (fun c1 => ?_)
                  · refine a_iinc (pc := 170) (v := nI (k + 1)) (L' := [(0, .ref (b 0)), (1, .int (nI (k + 1)))]) C 1 rfl (nI_inc _) (by decide) rfl dX6_follow_170 ?_
                    refine a_goto (pc := 173) (tgt := 147) C (by decide) dX6_follow_173 ?_
                    exact ih (k + 1) (by omega) (anyB_mis hno c1)
                  · refine a_iconst (pc := 168) (v := nI 0) C ci_0 dX6_follow_168 ?_
                    exact a_zret (pc := 169) (b := false) C E (Nat.le_of_ble_eq_true rfl) (Nat.le_of_ble_eq_true rfl) (by decide +kernel) ⟨by rw [anyB_hit (p := fun u => sE ks os ts bo un rn eE u u) hlt_k c1]; rfl, rfl⟩ dX6_follow_169
              exact LP147 (un) (0) (by omega) rfl
            | succ jz ih =>
              intro q hk_q
              have hlt_q : q < un := by omega
              refine a_iloadn (pc := 87) C 1 rfl rfl dX6_follow_87 ?_
              refine a_aloadn (pc := 88) C 0 rfl rfl dX6_follow_88 ?_
              refine a_get (pc := 89) C fl_X6_64 0 rfl rfl dX6_follow_89 ?_
              refine a_icn_ge_n (pc := 92) C (by omega) (by omega) (by omega) dX6_follow_92 ⟨145, by decide⟩ ?_
              refine a_iconst (pc := 95) (v := nI 0) C ci_0 dX6_follow_95 ?_
              refine a_istoren (pc := 96) (L' := [(0, .ref (b 0)), (1, .int (nI q)), (2, .int (nI 0))]) C (by decide) rfl rfl dX6_follow_96 ?_
              have LP97 : ∀ (jz k : Nat), k + jz = un → aw g κ 3 97 [(0, .ref (b 0)), (1, .int (nI q)), (2, .int (nI k))] [] (wM κ b th un ss fi la da dg ps rn ks os ts fn fp (sJ ks os ts bo un rn) (wI q (wO un (dA ks os ts (sJ ks os ts bo un rn) (pre (fun _ _ => false) eE un) rn) q) k) lE li be ab X) 0 0 := by
                intro jz
                induction jz with
                | zero =>
                  intro k hk_k
                  obtain rfl : un = k := by omega
                  refine a_iloadn (pc := 97) C 2 rfl rfl dX6_follow_97 ?_
                  refine a_aloadn (pc := 98) C 0 rfl rfl dX6_follow_98 ?_
                  refine a_get (pc := 99) C fl_X6_64 0 rfl rfl dX6_follow_99 ?_
                  refine a_icn_ge_y (pc := 102) (tgt := 139) C (by omega) (by omega) (by omega) (by decide) dX6_follow_102 ?_
                  refine a_iinc (pc := 139) (v := nI (q + 1)) (L' := [(0, .ref (b 0)), (1, .int (nI (q + 1))), (2, .int (nI un))]) C 1 rfl (nI_inc _) (by decide) rfl dX6_follow_139 ?_
                  refine a_goto (pc := 142) (tgt := 87) C (by decide) dX6_follow_142 ?_
                  refine aw_locals (L' := [(0, .ref (b 0)), (1, .int (nI (q + 1)))]) [0, 1] rfl ?_
                  refine aw_eq (congrArg (fun zz9 => wM κ b th un ss fi la da dg ps rn ks os ts fn fp (sJ ks os ts bo un rn) zz9 lE li be ab X) (rfl : (wI q (wO un (dA ks os ts (sJ ks os ts bo un rn) (pre (fun _ _ => false) eE un) rn) q) un) = (wO un (dA ks os ts (sJ ks os ts bo un rn) (pre (fun _ _ => false) eE un) rn) (q + 1)))) ?_
                  exact ih (q + 1) (by omega)
                | succ jz ih =>
                  intro k hk_k
                  have hlt_k : k < un := by omega
                  refine a_iloadn (pc := 97) C 2 rfl rfl dX6_follow_97 ?_
                  refine a_aloadn (pc := 98) C 0 rfl rfl dX6_follow_98 ?_
                  refine a_get (pc := 99) C fl_X6_64 0 rfl rfl dX6_follow_99 ?_
                  refine a_icn_ge_n (pc := 102) C (by omega) (by omega) (by omega) dX6_follow_102 ⟨139, by decide⟩ ?_
                  refine a_aloadn (pc := 105) C 0 rfl rfl dX6_follow_105 ?_
                  refine a_get (pc := 106) C fl_X6_44 0 rfl rfl dX6_follow_106 ?_
                  refine a_iloadn (pc := 109) C 2 rfl rfl dX6_follow_109 ?_
                  refine a_laldS (pc := 110) C 12 rfl (by omega) (by decide) dX6_follow_110 ?_
                  refine a_iloadn (pc := 111) C 1 rfl rfl dX6_follow_111 ?_
                  refine a_callS1 (pc := 112) (k' := 0) (n' := 0) C (c_X6_has κ (by omega)) yv_X6_has ml_X6_83 ws_X6_has rfl rfl (Nat.le_of_ble_eq_true rfl) (Nat.le_of_ble_eq_true rfl) (Nat.le_of_ble_eq_true rfl) ⟨(Nat.le_of_ble_eq_true rfl), (Nat.le_of_ble_eq_true rfl)⟩ rfl rfl dX6_follow_112 ?_
                  refine a_ifb_eq (pc := 115) (tgt := 133) C (by decide) dX6_follow_115 (fun c2 => ?_) (fun c2 => ?_)
                  · refine a_iinc (pc := 133) (v := nI (k + 1)) (L' := [(0, .ref (b 0)), (1, .int (nI q)), (2, .int (nI (k + 1)))]) C 2 rfl (nI_inc _) (by decide) rfl dX6_follow_133 ?_
                    refine a_goto (pc := 136) (tgt := 97) C (by decide) dX6_follow_136 ?_
                    refine aw_eq (congrArg (fun zz9 => wM κ b th un ss fi la da dg ps rn ks os ts fn fp (sJ ks os ts bo un rn) zz9 lE li be ab X) (wI_n c2 : (wI q (wO un (dA ks os ts (sJ ks os ts bo un rn) (pre (fun _ _ => false) eE un) rn) q) k) = (wI q (wO un (dA ks os ts (sJ ks os ts bo un rn) (pre (fun _ _ => false) eE un) rn) q) (k + 1)))) ?_
                    exact ih (k + 1) (by omega)
                  · refine a_aloadn (pc := 118) C 0 rfl rfl dX6_follow_118 ?_
                    refine a_get (pc := 119) C fl_X6_44 0 rfl rfl dX6_follow_119 ?_
                    refine a_iloadn (pc := 122) C 2 rfl rfl dX6_follow_122 ?_
                    refine a_dup2 (pc := 123) C rfl rfl dX6_follow_123 ?_
                    refine a_laldS (pc := 124) C 12 rfl (by omega) (by decide) dX6_follow_124 ?_
                    refine a_aloadn (pc := 125) C 0 rfl rfl dX6_follow_125 ?_
                    refine a_get (pc := 126) C fl_X6_44 0 rfl rfl dX6_follow_126 ?_
                    refine a_iloadn (pc := 129) C 1 rfl rfl dX6_follow_129 ?_
                    refine a_laldS (pc := 130) C 12 rfl (by omega) (by decide) dX6_follow_130 ?_
                    refine a_lor (pc := 131) (v := bs (fun i => ((wI q (wO un (dA ks os ts (sJ ks os ts bo un rn) (pre (fun _ _ => false) eE un) rn) q) k) k) i || ((wI q (wO un (dA ks os ts (sJ ks os ts bo un rn) (pre (fun _ _ => false) eE un) rn) q) k) q) i)) C (bs_or _ _) dX6_follow_131 ?_
                    refine a_last (pc := 132) (ws' := wM κ b th un ss fi la da dg ps rn ks os ts fn fp (sJ ks os ts bo un rn) (va_up (wI q (wO un (dA ks os ts (sJ ks os ts bo un rn) (pre (fun _ _ => false) eE un) rn) q) k) k (fun i => ((wI q (wO un (dA ks os ts (sJ ks os ts bo un rn) (pre (fun _ _ => false) eE un) rn) q) k) k) i || ((wI q (wO un (dA ks os ts (sJ ks os ts bo un rn) (pre (fun _ _ => false) eE un) rn) q) k) q) i)) lE li be ab X) C 12 rfl (by omega) (by decide) (fS_up _ _ _) rfl dX6_follow_132 ?_
                    refine a_iinc (pc := 133) (v := nI (k + 1)) (L' := [(0, .ref (b 0)), (1, .int (nI q)), (2, .int (nI (k + 1)))]) C 2 rfl (nI_inc _) (by decide) rfl dX6_follow_133 ?_
                    refine a_goto (pc := 136) (tgt := 97) C (by decide) dX6_follow_136 ?_
                    refine aw_eq (congrArg (fun zz9 => wM κ b th un ss fi la da dg ps rn ks os ts fn fp (sJ ks os ts bo un rn) zz9 lE li be ab X) (wI_y c2 : (va_up (wI q (wO un (dA ks os ts (sJ ks os ts bo un rn) (pre (fun _ _ => false) eE un) rn) q) k) k (fun i => ((wI q (wO un (dA ks os ts (sJ ks os ts bo un rn) (pre (fun _ _ => false) eE un) rn) q) k) k) i || ((wI q (wO un (dA ks os ts (sJ ks os ts bo un rn) (pre (fun _ _ => false) eE un) rn) q) k) q) i)) = (wI q (wO un (dA ks os ts (sJ ks os ts bo un rn) (pre (fun _ _ => false) eE un) rn) q) (k + 1)))) ?_
                    exact ih (k + 1) (by omega)
              refine aw_eq (congrArg (fun zz9 => wM κ b th un ss fi la da dg ps rn ks os ts fn fp (sJ ks os ts bo un rn) zz9 lE li be ab X) (rfl : (wO un (dA ks os ts (sJ ks os ts bo un rn) (pre (fun _ _ => false) eE un) rn) q) = (wI q (wO un (dA ks os ts (sJ ks os ts bo un rn) (pre (fun _ _ => false) eE un) rn) q) 0))) ?_
              exact LP97 (un) (0) (by omega)
          refine aw_eq (congrArg (fun zz9 => wM κ b th un ss fi la da dg ps rn ks os ts fn fp (sJ ks os ts bo un rn) zz9 lE li be ab X) (rfl : (dA ks os ts (sJ ks os ts bo un rn) (pre (fun _ _ => false) eE un) rn) = (wO un (dA ks os ts (sJ ks os ts bo un rn) (pre (fun _ _ => false) eE un) rn) 0))) ?_
          exact LP87 (un) (0) (by omega)
        | succ jz ih =>
          intro k hk_k
          have hlt_k : k < rn := by omega
          refine a_iloadn (pc := 29) C 1 rfl rfl dX6_follow_29 ?_
          refine a_aloadn (pc := 30) C 0 rfl rfl dX6_follow_30 ?_
          refine a_get (pc := 31) C fl_X6_71 0 rfl rfl dX6_follow_31 ?_
          refine a_icn_ge_n (pc := 34) C (by omega) (by omega) (by omega) dX6_follow_34 ⟨85, by decide⟩ ?_
          refine a_aloadn (pc := 37) C 0 rfl rfl dX6_follow_37 ?_
          refine a_get (pc := 38) C fl_X6_29 0 rfl rfl dX6_follow_38 ?_
          refine a_iloadn (pc := 41) C 1 rfl rfl dX6_follow_41 ?_
          refine a_iald (pc := 42) C 7 rfl (by omega) (by decide) dX6_follow_42 ?_
          refine a_iconst (pc := 43) (v := nI 4) C ci_4 dX6_follow_43 ?_
          refine a_ic_eq (pc := 44) (tgt := 79) C (by decide) dX6_follow_44 (fun c3 => ?_) (fun c3 => ?_)
          · refine a_iinc (pc := 79) (v := nI (k + 1)) (L' := [(0, .ref (b 0)), (1, .int (nI (k + 1)))]) C 1 rfl (nI_inc _) (by decide) rfl dX6_follow_79 ?_
            refine a_goto (pc := 82) (tgt := 29) C (by decide) dX6_follow_82 ?_
            refine aw_eq (congrArg (fun zz9 => wM κ b th un ss fi la da dg ps rn ks os ts fn fp (sJ ks os ts bo un rn) zz9 lE li be ab X) (dA_y c3 : (dA ks os ts (sJ ks os ts bo un rn) (pre (fun _ _ => false) eE un) k) = (dA ks os ts (sJ ks os ts bo un rn) (pre (fun _ _ => false) eE un) (k + 1)))) ?_
            exact ih (k + 1) (by omega)
          · refine a_aloadn (pc := 47) C 0 rfl rfl dX6_follow_47 ?_
            refine a_get (pc := 48) C fl_X6_44 0 rfl rfl dX6_follow_48 ?_
            refine a_aloadn (pc := 51) C 0 rfl rfl dX6_follow_51 ?_
            refine a_get (pc := 52) C fl_X6_41 0 rfl rfl dX6_follow_52 ?_
            refine a_aloadn (pc := 55) C 0 rfl rfl dX6_follow_55 ?_
            refine a_get (pc := 56) C fl_X6_32 0 rfl rfl dX6_follow_56 ?_
            refine a_iloadn (pc := 59) C 1 rfl rfl dX6_follow_59 ?_
            refine a_ialdN (pc := 60) C 8 rfl (by omega) (by decide) dX6_follow_60 ?_
            refine a_ialdN (pc := 61) C 11 rfl (hos _) (by decide) dX6_follow_61 ?_
            refine a_dup2 (pc := 62) C rfl rfl dX6_follow_62 ?_
            refine a_laldS (pc := 63) C 12 rfl (hJ _) (by decide) dX6_follow_63 ?_
            refine a_lconst (pc := 64) (v := 1) C rfl dX6_follow_64 ?_
            refine a_aloadn (pc := 65) C 0 rfl rfl dX6_follow_65 ?_
            refine a_get (pc := 66) C fl_X6_41 0 rfl rfl dX6_follow_66 ?_
            refine a_aloadn (pc := 69) C 0 rfl rfl dX6_follow_69 ?_
            refine a_get (pc := 70) C fl_X6_35 0 rfl rfl dX6_follow_70 ?_
            refine a_iloadn (pc := 73) C 1 rfl rfl dX6_follow_73 ?_
            refine a_ialdN (pc := 74) C 9 rfl (by omega) (by decide) dX6_follow_74 ?_
            refine a_ialdN (pc := 75) C 11 rfl (hts _) (by decide) dX6_follow_75 ?_
            refine a_lshl (pc := 76) (v := bs (fun i => decide (i = ((sJ ks os ts bo un rn) (ts k))))) C (bs_bit (Nat.lt_trans (hJ _) (by decide))) dX6_follow_76 ?_
            refine a_lor (pc := 77) (v := bs (fun i => ((dA ks os ts (sJ ks os ts bo un rn) (pre (fun _ _ => false) eE un) k) ((sJ ks os ts bo un rn) (os k))) i || (decide (i = ((sJ ks os ts bo un rn) (ts k)))))) C (bs_or _ _) dX6_follow_77 ?_
            refine a_last (pc := 78) (ws' := wM κ b th un ss fi la da dg ps rn ks os ts fn fp (sJ ks os ts bo un rn) (va_up (dA ks os ts (sJ ks os ts bo un rn) (pre (fun _ _ => false) eE un) k) ((sJ ks os ts bo un rn) (os k)) (fun i => ((dA ks os ts (sJ ks os ts bo un rn) (pre (fun _ _ => false) eE un) k) ((sJ ks os ts bo un rn) (os k))) i || (decide (i = ((sJ ks os ts bo un rn) (ts k)))))) lE li be ab X) C 12 rfl (hJ _) (by decide) (fS_up _ _ _) rfl dX6_follow_78 ?_
            refine a_iinc (pc := 79) (v := nI (k + 1)) (L' := [(0, .ref (b 0)), (1, .int (nI (k + 1)))]) C 1 rfl (nI_inc _) (by decide) rfl dX6_follow_79 ?_
            refine a_goto (pc := 82) (tgt := 29) C (by decide) dX6_follow_82 ?_
            refine aw_eq (congrArg (fun zz9 => wM κ b th un ss fi la da dg ps rn ks os ts fn fp (sJ ks os ts bo un rn) zz9 lE li be ab X) (dA_n c3 : (va_up (dA ks os ts (sJ ks os ts bo un rn) (pre (fun _ _ => false) eE un) k) ((sJ ks os ts bo un rn) (os k)) (fun i => ((dA ks os ts (sJ ks os ts bo un rn) (pre (fun _ _ => false) eE un) k) ((sJ ks os ts bo un rn) (os k))) i || (decide (i = ((sJ ks os ts bo un rn) (ts k)))))) = (dA ks os ts (sJ ks os ts bo un rn) (pre (fun _ _ => false) eE un) (k + 1)))) ?_
            exact ih (k + 1) (by omega)
      refine aw_eq (congrArg (fun zz9 => wM κ b th un ss fi la da dg ps rn ks os ts fn fp (sJ ks os ts bo un rn) zz9 lE li be ab X) (rfl : (pre (fun _ _ => false) eE un) = (dA ks os ts (sJ ks os ts bo un rn) (pre (fun _ _ => false) eE un) 0))) ?_
      exact LP29 (rn) (0) (by omega)
    | succ jz ih =>
      intro k hk_k
      have hlt_k : k < un := by omega
      refine a_iloadn (pc := 6) C 1 rfl rfl dX6_follow_6 ?_
      refine a_aloadn (pc := 7) C 0 rfl rfl dX6_follow_7 ?_
      refine a_get (pc := 8) C fl_X6_64 0 rfl rfl dX6_follow_8 ?_
      refine a_icn_ge_n (pc := 11) C (by omega) (by omega) (by omega) dX6_follow_11 ⟨27, by decide⟩ ?_
      refine a_aloadn (pc := 14) C 0 rfl rfl dX6_follow_14 ?_
      refine a_get (pc := 15) C fl_X6_44 0 rfl rfl dX6_follow_15 ?_
      refine a_iloadn (pc := 18) C 1 rfl rfl dX6_follow_18 ?_
      refine a_lconst (pc := 19) (v := bs (fun _ => false)) C bs_0 dX6_follow_19 ?_
      refine a_last (pc := 20) (ws' := wM κ b th un ss fi la da dg ps rn ks os ts fn fp (sJ ks os ts bo un rn) (va_up (pre (fun _ _ => false) eE k) k (fun _ => false)) lE li be ab X) C 12 rfl (by omega) (by decide) (fS_up _ _ _) rfl dX6_follow_20 ?_
      refine a_iinc (pc := 21) (v := nI (k + 1)) (L' := [(0, .ref (b 0)), (1, .int (nI (k + 1)))]) C 1 rfl (nI_inc _) (by decide) rfl dX6_follow_21 ?_
      refine a_goto (pc := 24) (tgt := 6) C (by decide) dX6_follow_24 ?_
      refine aw_eq (congrArg (fun zz9 => wM κ b th un ss fi la da dg ps rn ks os ts fn fp (sJ ks os ts bo un rn) zz9 lE li be ab X) (pre_s (fun _ _ => false) eE k : (va_up (pre (fun _ _ => false) eE k) k (fun _ => false)) = (pre (fun _ _ => false) eE (k + 1)))) ?_
      exact ih (k + 1) (by omega)
  refine aw_eq (congrArg (fun zz9 => wM κ b th un ss fi la da dg ps rn ks os ts fn fp (sJ ks os ts bo un rn) zz9 lE li be ab X) ((pre_0 _ _).symm : eE = (pre (fun _ _ => false) eE 0))) ?_
  exact LP6 (un) (0) (by omega)

set_option maxHeartbeats 4000000 in
set_option maxRecDepth 100000 in
theorem c_X6_rank_be_eE (κ : aK) (b : Nat → Nat) {th : Int32} {un : Nat} {ss : Nat → Int32} {fi : Nat → Int32} {la : Nat → Int32} {da : Nat → Bool} {dg : Nat → Bool} {ps : Nat → Int32} {rn : Nat} {ks : Nat → Int32} {os : Nat → Nat} {ts : Nat → Nat} {fn : Nat} {fp : Nat → Int32} {bo : Nat → Nat} {eE : Nat → Nat → Bool} {lE : Nat → Nat → Bool} {li : Nat → Nat → Bool} {be : Nat → Int32} {ab : Nat → Int32} {X : va_W} (hun : un ≤ 40) : CM yX6_rank cX6_rank 6 none ({ frames := 1, cells := 0, slots := 0, locals := 22 } : Room) κ [.ref (b 0), .ref (b 15), .ref (b 12)] (wM κ b th un ss fi la da dg ps rn ks os ts fn fp bo eE lE li be ab X) (aD none (wM κ b th un ss fi la da dg ps rn ks os ts fn fp bo eE lE li (sRk eE un be) ab X)) := by
  refine cm_entry (own := RX6) (L := [(0, .ref (b 0)), (1, .ref (b 15)), (2, .ref (b 12))]) (by decide +kernel) rfl (lv_entry [.ref (b 0), .ref (b 15), .ref (b 12)] (n := 6) (Nat.le_of_ble_eq_true rfl)) (fun g C E => ?_)
  refine a_iconst (pc := 0) (v := nI 0) C ci_0 dX6_rank_0 ?_
  refine a_istoren (pc := 1) (L' := [(0, .ref (b 0)), (1, .ref (b 15)), (2, .ref (b 12)), (3, .int (nI 0))]) C (by decide) rfl rfl dX6_rank_1 ?_
  have LP2 : ∀ (jz k : Nat), k + jz = un → aw g κ 6 2 [(0, .ref (b 0)), (1, .ref (b 15)), (2, .ref (b 12)), (3, .int (nI k))] [] (wM κ b th un ss fi la da dg ps rn ks os ts fn fp bo eE lE li (pre (fun _ => nI 0) be k) ab X) 0 0 := by
    intro jz
    induction jz with
    | zero =>
      intro k hk_k
      obtain rfl : un = k := by omega
      refine a_iloadn (pc := 2) C 3 rfl rfl dX6_rank_2 ?_
      refine a_aloadn (pc := 3) C 0 rfl rfl dX6_rank_3 ?_
      refine a_get (pc := 4) C fl_X6_64 0 rfl rfl dX6_rank_4 ?_
      refine a_icn_ge_y (pc := 7) (tgt := 20) C (by omega) (by omega) (by omega) (by decide) dX6_rank_7 ?_
      refine a_iconst (pc := 20) (v := nI 0) C ci_0 dX6_rank_20 ?_
      refine a_istoren (pc := 21) (L' := [(0, .ref (b 0)), (1, .ref (b 15)), (2, .ref (b 12)), (3, .int (nI 0))]) C (by decide) rfl rfl dX6_rank_21 ?_
      have LP22 : ∀ (jz t : Nat), t + jz = un → aw g κ 6 22 [(0, .ref (b 0)), (1, .ref (b 15)), (2, .ref (b 12)), (3, .int (nI t))] [] (wM κ b th un ss fi la da dg ps rn ks os ts fn fp bo eE lE li (rl3 eE un (pre (fun _ => nI 0) be un) t) ab X) 0 0 := by
        intro jz
        induction jz with
        | zero =>
          intro t hk_t
          obtain rfl : un = t := by omega
          refine a_iloadn (pc := 22) C 3 rfl rfl dX6_rank_22 ?_
          refine a_aloadn (pc := 23) C 0 rfl rfl dX6_rank_23 ?_
          refine a_get (pc := 24) C fl_X6_64 0 rfl rfl dX6_rank_24 ?_
          refine a_icn_ge_y (pc := 27) (tgt := 101) C (by omega) (by omega) (by omega) (by decide) dX6_rank_27 ?_
          exact a_vret (pc := 101) C E (Nat.le_of_ble_eq_true rfl) (Nat.le_of_ble_eq_true rfl) ⟨rfl, rfl⟩ dX6_rank_101
        | succ jz ih =>
          intro t hk_t
          have hlt_t : t < un := by omega
          refine a_iloadn (pc := 22) C 3 rfl rfl dX6_rank_22 ?_
          refine a_aloadn (pc := 23) C 0 rfl rfl dX6_rank_23 ?_
          refine a_get (pc := 24) C fl_X6_64 0 rfl rfl dX6_rank_24 ?_
          refine a_icn_ge_n (pc := 27) C (by omega) (by omega) (by omega) dX6_rank_27 ⟨101, by decide⟩ ?_
          refine a_iconst (pc := 30) (v := nI 0) C ci_0 dX6_rank_30 ?_
          refine a_istore (pc := 31) (L' := [(0, .ref (b 0)), (1, .ref (b 15)), (2, .ref (b 12)), (3, .int (nI t)), (4, .int (nI 0))]) C (by decide) rfl dX6_rank_31 ?_
          have LP33 : ∀ (jz q : Nat), q + jz = un → aw g κ 6 33 [(0, .ref (b 0)), (1, .ref (b 15)), (2, .ref (b 12)), (3, .int (nI t)), (4, .int (nI q))] [] (wM κ b th un ss fi la da dg ps rn ks os ts fn fp bo eE lE li (rl2 eE un (rl3 eE un (pre (fun _ => nI 0) be un) t) q) ab X) 0 0 := by
            intro jz
            induction jz with
            | zero =>
              intro q hk_q
              obtain rfl : un = q := by omega
              refine a_iload (pc := 33) C 4 rfl dX6_rank_33 ?_
              refine a_aloadn (pc := 35) C 0 rfl rfl dX6_rank_35 ?_
              refine a_get (pc := 36) C fl_X6_64 0 rfl rfl dX6_rank_36 ?_
              refine a_icn_ge_y (pc := 39) (tgt := 95) C (by omega) (by omega) (by omega) (by decide) dX6_rank_39 ?_
              refine a_iinc (pc := 95) (v := nI (t + 1)) (L' := [(0, .ref (b 0)), (1, .ref (b 15)), (2, .ref (b 12)), (3, .int (nI (t + 1))), (4, .int (nI un))]) C 3 rfl (nI_inc _) (by decide) rfl dX6_rank_95 ?_
              refine a_goto (pc := 98) (tgt := 22) C (by decide) dX6_rank_98 ?_
              refine aw_locals (L' := [(0, .ref (b 0)), (1, .ref (b 15)), (2, .ref (b 12)), (3, .int (nI (t + 1)))]) [0, 1, 2, 3] rfl ?_
              refine aw_eq (congrArg (fun zz9 => wM κ b th un ss fi la da dg ps rn ks os ts fn fp bo eE lE li zz9 ab X) (rfl : (rl2 eE un (rl3 eE un (pre (fun _ => nI 0) be un) t) un) = (rl3 eE un (pre (fun _ => nI 0) be un) (t + 1)))) ?_
              exact ih (t + 1) (by omega)
            | succ jz ih =>
              intro q hk_q
              have hlt_q : q < un := by omega
              refine a_iload (pc := 33) C 4 rfl dX6_rank_33 ?_
              refine a_aloadn (pc := 35) C 0 rfl rfl dX6_rank_35 ?_
              refine a_get (pc := 36) C fl_X6_64 0 rfl rfl dX6_rank_36 ?_
              refine a_icn_ge_n (pc := 39) C (by omega) (by omega) (by omega) dX6_rank_39 ⟨95, by decide⟩ ?_
              refine a_iconst (pc := 42) (v := nI 0) C ci_0 dX6_rank_42 ?_
              refine a_istore (pc := 43) (L' := [(0, .ref (b 0)), (1, .ref (b 15)), (2, .ref (b 12)), (3, .int (nI t)), (4, .int (nI q)), (5, .int (nI 0))]) C (by decide) rfl dX6_rank_43 ?_
              have LP45 : ∀ (jz k : Nat), k + jz = un → aw g κ 6 45 [(0, .ref (b 0)), (1, .ref (b 15)), (2, .ref (b 12)), (3, .int (nI t)), (4, .int (nI q)), (5, .int (nI k))] [] (wM κ b th un ss fi la da dg ps rn ks os ts fn fp bo eE lE li (rl1 eE q (rl2 eE un (rl3 eE un (pre (fun _ => nI 0) be un) t) q) k) ab X) 0 0 := by
                intro jz
                induction jz with
                | zero =>
                  intro k hk_k
                  obtain rfl : un = k := by omega
                  refine a_iload (pc := 45) C 5 rfl dX6_rank_45 ?_
                  refine a_aloadn (pc := 47) C 0 rfl rfl dX6_rank_47 ?_
                  refine a_get (pc := 48) C fl_X6_64 0 rfl rfl dX6_rank_48 ?_
                  refine a_icn_ge_y (pc := 51) (tgt := 89) C (by omega) (by omega) (by omega) (by decide) dX6_rank_51 ?_
                  refine a_iinc (pc := 89) (v := nI (q + 1)) (L' := [(0, .ref (b 0)), (1, .ref (b 15)), (2, .ref (b 12)), (3, .int (nI t)), (4, .int (nI (q + 1))), (5, .int (nI un))]) C 4 rfl (nI_inc _) (by decide) rfl dX6_rank_89 ?_
                  refine a_goto (pc := 92) (tgt := 33) C (by decide) dX6_rank_92 ?_
                  refine aw_locals (L' := [(0, .ref (b 0)), (1, .ref (b 15)), (2, .ref (b 12)), (3, .int (nI t)), (4, .int (nI (q + 1)))]) [0, 1, 2, 3, 4] rfl ?_
                  refine aw_eq (congrArg (fun zz9 => wM κ b th un ss fi la da dg ps rn ks os ts fn fp bo eE lE li zz9 ab X) (rfl : (rl1 eE q (rl2 eE un (rl3 eE un (pre (fun _ => nI 0) be un) t) q) un) = (rl2 eE un (rl3 eE un (pre (fun _ => nI 0) be un) t) (q + 1)))) ?_
                  exact ih (q + 1) (by omega)
                | succ jz ih =>
                  intro k hk_k
                  have hlt_k : k < un := by omega
                  refine a_iload (pc := 45) C 5 rfl dX6_rank_45 ?_
                  refine a_aloadn (pc := 47) C 0 rfl rfl dX6_rank_47 ?_
                  refine a_get (pc := 48) C fl_X6_64 0 rfl rfl dX6_rank_48 ?_
                  refine a_icn_ge_n (pc := 51) C (by omega) (by omega) (by omega) dX6_rank_51 ⟨89, by decide⟩ ?_
                  refine a_aloadn (pc := 54) C 2 rfl rfl dX6_rank_54 ?_
                  refine a_iload (pc := 55) C 4 rfl dX6_rank_55 ?_
                  refine a_laldS (pc := 57) C 12 rfl (by omega) (by decide) dX6_rank_57 ?_
                  refine a_iload (pc := 58) C 5 rfl dX6_rank_58 ?_
                  refine a_callS1 (pc := 60) (k' := 0) (n' := 0) C (c_X6_has κ (by omega)) yv_X6_has ml_X6_83 ws_X6_has rfl rfl (Nat.le_of_ble_eq_true rfl) (Nat.le_of_ble_eq_true rfl) (Nat.le_of_ble_eq_true rfl) ⟨(Nat.le_of_ble_eq_true rfl), (Nat.le_of_ble_eq_true rfl)⟩ rfl rfl dX6_rank_60 ?_
                  refine a_ifb_eq (pc := 63) (tgt := 83) C (by decide) dX6_rank_63 (fun c1 => ?_) (fun c1 => ?_)
                  · refine a_iinc (pc := 83) (v := nI (k + 1)) (L' := [(0, .ref (b 0)), (1, .ref (b 15)), (2, .ref (b 12)), (3, .int (nI t)), (4, .int (nI q)), (5, .int (nI (k + 1)))]) C 5 rfl (nI_inc _) (by decide) rfl dX6_rank_83 ?_
                    refine a_goto (pc := 86) (tgt := 45) C (by decide) dX6_rank_86 ?_
                    refine aw_eq (congrArg (fun zz9 => wM κ b th un ss fi la da dg ps rn ks os ts fn fp bo eE lE li zz9 ab X) (rl1_n c1 : (rl1 eE q (rl2 eE un (rl3 eE un (pre (fun _ => nI 0) be un) t) q) k) = (rl1 eE q (rl2 eE un (rl3 eE un (pre (fun _ => nI 0) be un) t) q) (k + 1)))) ?_
                    exact ih (k + 1) (by omega)
                  · refine a_aloadn (pc := 66) C 1 rfl rfl dX6_rank_66 ?_
                    refine a_iload (pc := 67) C 4 rfl dX6_rank_67 ?_
                    refine a_aloadn (pc := 69) C 1 rfl rfl dX6_rank_69 ?_
                    refine a_iload (pc := 70) C 4 rfl dX6_rank_70 ?_
                    refine a_iald (pc := 72) C 15 rfl (by omega) (by decide) dX6_rank_72 ?_
                    refine a_aloadn (pc := 73) C 1 rfl rfl dX6_rank_73 ?_
                    refine a_iload (pc := 74) C 5 rfl dX6_rank_74 ?_
                    refine a_iald (pc := 76) C 15 rfl (by omega) (by decide) dX6_rank_76 ?_
                    refine a_iconst (pc := 77) (v := nI 1) C ci_1 dX6_rank_77 ?_
                    refine a_iadd (pc := 78) (v := ((rl1 eE q (rl2 eE un (rl3 eE un (pre (fun _ => nI 0) be un) t) q) k) k) + (nI 1)) C rfl dX6_rank_78 ?_
                    refine a_mmax (pc := 79) (v := imax ((rl1 eE q (rl2 eE un (rl3 eE un (pre (fun _ => nI 0) be un) t) q) k) q) (((rl1 eE q (rl2 eE un (rl3 eE un (pre (fun _ => nI 0) be un) t) q) k) k) + (nI 1))) C ml_X6_97 rfl (Nat.le_of_ble_eq_true rfl) (Nat.le_of_ble_eq_true rfl) (Nat.le_of_ble_eq_true rfl) (Nat.le_of_ble_eq_true rfl) dX6_rank_79 ?_
                    refine a_iast (pc := 82) (ws' := wM κ b th un ss fi la da dg ps rn ks os ts fn fp bo eE lE li (va_up (rl1 eE q (rl2 eE un (rl3 eE un (pre (fun _ => nI 0) be un) t) q) k) q (imax ((rl1 eE q (rl2 eE un (rl3 eE un (pre (fun _ => nI 0) be un) t) q) k) q) (((rl1 eE q (rl2 eE un (rl3 eE un (pre (fun _ => nI 0) be un) t) q) k) k) + (nI 1)))) ab X) C 15 rfl (by omega) (by decide) rfl rfl dX6_rank_82 ?_
                    refine a_iinc (pc := 83) (v := nI (k + 1)) (L' := [(0, .ref (b 0)), (1, .ref (b 15)), (2, .ref (b 12)), (3, .int (nI t)), (4, .int (nI q)), (5, .int (nI (k + 1)))]) C 5 rfl (nI_inc _) (by decide) rfl dX6_rank_83 ?_
                    refine a_goto (pc := 86) (tgt := 45) C (by decide) dX6_rank_86 ?_
                    refine aw_eq (congrArg (fun zz9 => wM κ b th un ss fi la da dg ps rn ks os ts fn fp bo eE lE li zz9 ab X) (rl1_y c1 : (va_up (rl1 eE q (rl2 eE un (rl3 eE un (pre (fun _ => nI 0) be un) t) q) k) q (imax ((rl1 eE q (rl2 eE un (rl3 eE un (pre (fun _ => nI 0) be un) t) q) k) q) (((rl1 eE q (rl2 eE un (rl3 eE un (pre (fun _ => nI 0) be un) t) q) k) k) + (nI 1)))) = (rl1 eE q (rl2 eE un (rl3 eE un (pre (fun _ => nI 0) be un) t) q) (k + 1)))) ?_
                    exact ih (k + 1) (by omega)
              refine aw_eq (congrArg (fun zz9 => wM κ b th un ss fi la da dg ps rn ks os ts fn fp bo eE lE li zz9 ab X) (rfl : (rl2 eE un (rl3 eE un (pre (fun _ => nI 0) be un) t) q) = (rl1 eE q (rl2 eE un (rl3 eE un (pre (fun _ => nI 0) be un) t) q) 0))) ?_
              exact LP45 (un) (0) (by omega)
          refine aw_eq (congrArg (fun zz9 => wM κ b th un ss fi la da dg ps rn ks os ts fn fp bo eE lE li zz9 ab X) (rfl : (rl3 eE un (pre (fun _ => nI 0) be un) t) = (rl2 eE un (rl3 eE un (pre (fun _ => nI 0) be un) t) 0))) ?_
          exact LP33 (un) (0) (by omega)
      refine aw_eq (congrArg (fun zz9 => wM κ b th un ss fi la da dg ps rn ks os ts fn fp bo eE lE li zz9 ab X) (rfl : (pre (fun _ => nI 0) be un) = (rl3 eE un (pre (fun _ => nI 0) be un) 0))) ?_
      exact LP22 (un) (0) (by omega)
    | succ jz ih =>
      intro k hk_k
      have hlt_k : k < un := by omega
      refine a_iloadn (pc := 2) C 3 rfl rfl dX6_rank_2 ?_
      refine a_aloadn (pc := 3) C 0 rfl rfl dX6_rank_3 ?_
      refine a_get (pc := 4) C fl_X6_64 0 rfl rfl dX6_rank_4 ?_
      refine a_icn_ge_n (pc := 7) C (by omega) (by omega) (by omega) dX6_rank_7 ⟨20, by decide⟩ ?_
      refine a_aloadn (pc := 10) C 1 rfl rfl dX6_rank_10 ?_
      refine a_iloadn (pc := 11) C 3 rfl rfl dX6_rank_11 ?_
      refine a_iconst (pc := 12) (v := nI 0) C ci_0 dX6_rank_12 ?_
      refine a_iast (pc := 13) (ws' := wM κ b th un ss fi la da dg ps rn ks os ts fn fp bo eE lE li (va_up (pre (fun _ => nI 0) be k) k (nI 0)) ab X) C 15 rfl (by omega) (by decide) rfl rfl dX6_rank_13 ?_
      refine a_iinc (pc := 14) (v := nI (k + 1)) (L' := [(0, .ref (b 0)), (1, .ref (b 15)), (2, .ref (b 12)), (3, .int (nI (k + 1)))]) C 3 rfl (nI_inc _) (by decide) rfl dX6_rank_14 ?_
      refine a_goto (pc := 17) (tgt := 2) C (by decide) dX6_rank_17 ?_
      refine aw_eq (congrArg (fun zz9 => wM κ b th un ss fi la da dg ps rn ks os ts fn fp bo eE lE li zz9 ab X) (pre_s (fun _ => nI 0) be k : (va_up (pre (fun _ => nI 0) be k) k (nI 0)) = (pre (fun _ => nI 0) be (k + 1)))) ?_
      exact ih (k + 1) (by omega)
  refine aw_eq (congrArg (fun zz9 => wM κ b th un ss fi la da dg ps rn ks os ts fn fp bo eE lE li zz9 ab X) ((pre_0 _ _).symm : be = (pre (fun _ => nI 0) be 0))) ?_
  exact LP2 (un) (0) (by omega)

set_option maxHeartbeats 4000000 in
set_option maxRecDepth 100000 in
theorem c_X6_rank_ab_lE (κ : aK) (b : Nat → Nat) {th : Int32} {un : Nat} {ss : Nat → Int32} {fi : Nat → Int32} {la : Nat → Int32} {da : Nat → Bool} {dg : Nat → Bool} {ps : Nat → Int32} {rn : Nat} {ks : Nat → Int32} {os : Nat → Nat} {ts : Nat → Nat} {fn : Nat} {fp : Nat → Int32} {bo : Nat → Nat} {eE : Nat → Nat → Bool} {lE : Nat → Nat → Bool} {li : Nat → Nat → Bool} {be : Nat → Int32} {ab : Nat → Int32} {X : va_W} (hun : un ≤ 40) : CM yX6_rank cX6_rank 6 none ({ frames := 1, cells := 0, slots := 0, locals := 22 } : Room) κ [.ref (b 0), .ref (b 16), .ref (b 13)] (wM κ b th un ss fi la da dg ps rn ks os ts fn fp bo eE lE li be ab X) (aD none (wM κ b th un ss fi la da dg ps rn ks os ts fn fp bo eE lE li be (sRk lE un ab) X)) := by
  refine cm_entry (own := RX6) (L := [(0, .ref (b 0)), (1, .ref (b 16)), (2, .ref (b 13))]) (by decide +kernel) rfl (lv_entry [.ref (b 0), .ref (b 16), .ref (b 13)] (n := 6) (Nat.le_of_ble_eq_true rfl)) (fun g C E => ?_)
  refine a_iconst (pc := 0) (v := nI 0) C ci_0 dX6_rank_0 ?_
  refine a_istoren (pc := 1) (L' := [(0, .ref (b 0)), (1, .ref (b 16)), (2, .ref (b 13)), (3, .int (nI 0))]) C (by decide) rfl rfl dX6_rank_1 ?_
  have LP2 : ∀ (jz k : Nat), k + jz = un → aw g κ 6 2 [(0, .ref (b 0)), (1, .ref (b 16)), (2, .ref (b 13)), (3, .int (nI k))] [] (wM κ b th un ss fi la da dg ps rn ks os ts fn fp bo eE lE li be (pre (fun _ => nI 0) ab k) X) 0 0 := by
    intro jz
    induction jz with
    | zero =>
      intro k hk_k
      obtain rfl : un = k := by omega
      refine a_iloadn (pc := 2) C 3 rfl rfl dX6_rank_2 ?_
      refine a_aloadn (pc := 3) C 0 rfl rfl dX6_rank_3 ?_
      refine a_get (pc := 4) C fl_X6_64 0 rfl rfl dX6_rank_4 ?_
      refine a_icn_ge_y (pc := 7) (tgt := 20) C (by omega) (by omega) (by omega) (by decide) dX6_rank_7 ?_
      refine a_iconst (pc := 20) (v := nI 0) C ci_0 dX6_rank_20 ?_
      refine a_istoren (pc := 21) (L' := [(0, .ref (b 0)), (1, .ref (b 16)), (2, .ref (b 13)), (3, .int (nI 0))]) C (by decide) rfl rfl dX6_rank_21 ?_
      have LP22 : ∀ (jz t : Nat), t + jz = un → aw g κ 6 22 [(0, .ref (b 0)), (1, .ref (b 16)), (2, .ref (b 13)), (3, .int (nI t))] [] (wM κ b th un ss fi la da dg ps rn ks os ts fn fp bo eE lE li be (rl3 lE un (pre (fun _ => nI 0) ab un) t) X) 0 0 := by
        intro jz
        induction jz with
        | zero =>
          intro t hk_t
          obtain rfl : un = t := by omega
          refine a_iloadn (pc := 22) C 3 rfl rfl dX6_rank_22 ?_
          refine a_aloadn (pc := 23) C 0 rfl rfl dX6_rank_23 ?_
          refine a_get (pc := 24) C fl_X6_64 0 rfl rfl dX6_rank_24 ?_
          refine a_icn_ge_y (pc := 27) (tgt := 101) C (by omega) (by omega) (by omega) (by decide) dX6_rank_27 ?_
          exact a_vret (pc := 101) C E (Nat.le_of_ble_eq_true rfl) (Nat.le_of_ble_eq_true rfl) ⟨rfl, rfl⟩ dX6_rank_101
        | succ jz ih =>
          intro t hk_t
          have hlt_t : t < un := by omega
          refine a_iloadn (pc := 22) C 3 rfl rfl dX6_rank_22 ?_
          refine a_aloadn (pc := 23) C 0 rfl rfl dX6_rank_23 ?_
          refine a_get (pc := 24) C fl_X6_64 0 rfl rfl dX6_rank_24 ?_
          refine a_icn_ge_n (pc := 27) C (by omega) (by omega) (by omega) dX6_rank_27 ⟨101, by decide⟩ ?_
          refine a_iconst (pc := 30) (v := nI 0) C ci_0 dX6_rank_30 ?_
          refine a_istore (pc := 31) (L' := [(0, .ref (b 0)), (1, .ref (b 16)), (2, .ref (b 13)), (3, .int (nI t)), (4, .int (nI 0))]) C (by decide) rfl dX6_rank_31 ?_
          have LP33 : ∀ (jz q : Nat), q + jz = un → aw g κ 6 33 [(0, .ref (b 0)), (1, .ref (b 16)), (2, .ref (b 13)), (3, .int (nI t)), (4, .int (nI q))] [] (wM κ b th un ss fi la da dg ps rn ks os ts fn fp bo eE lE li be (rl2 lE un (rl3 lE un (pre (fun _ => nI 0) ab un) t) q) X) 0 0 := by
            intro jz
            induction jz with
            | zero =>
              intro q hk_q
              obtain rfl : un = q := by omega
              refine a_iload (pc := 33) C 4 rfl dX6_rank_33 ?_
              refine a_aloadn (pc := 35) C 0 rfl rfl dX6_rank_35 ?_
              refine a_get (pc := 36) C fl_X6_64 0 rfl rfl dX6_rank_36 ?_
              refine a_icn_ge_y (pc := 39) (tgt := 95) C (by omega) (by omega) (by omega) (by decide) dX6_rank_39 ?_
              refine a_iinc (pc := 95) (v := nI (t + 1)) (L' := [(0, .ref (b 0)), (1, .ref (b 16)), (2, .ref (b 13)), (3, .int (nI (t + 1))), (4, .int (nI un))]) C 3 rfl (nI_inc _) (by decide) rfl dX6_rank_95 ?_
              refine a_goto (pc := 98) (tgt := 22) C (by decide) dX6_rank_98 ?_
              refine aw_locals (L' := [(0, .ref (b 0)), (1, .ref (b 16)), (2, .ref (b 13)), (3, .int (nI (t + 1)))]) [0, 1, 2, 3] rfl ?_
              refine aw_eq (congrArg (fun zz9 => wM κ b th un ss fi la da dg ps rn ks os ts fn fp bo eE lE li be zz9 X) (rfl : (rl2 lE un (rl3 lE un (pre (fun _ => nI 0) ab un) t) un) = (rl3 lE un (pre (fun _ => nI 0) ab un) (t + 1)))) ?_
              exact ih (t + 1) (by omega)
            | succ jz ih =>
              intro q hk_q
              have hlt_q : q < un := by omega
              refine a_iload (pc := 33) C 4 rfl dX6_rank_33 ?_
              refine a_aloadn (pc := 35) C 0 rfl rfl dX6_rank_35 ?_
              refine a_get (pc := 36) C fl_X6_64 0 rfl rfl dX6_rank_36 ?_
              refine a_icn_ge_n (pc := 39) C (by omega) (by omega) (by omega) dX6_rank_39 ⟨95, by decide⟩ ?_
              refine a_iconst (pc := 42) (v := nI 0) C ci_0 dX6_rank_42 ?_
              refine a_istore (pc := 43) (L' := [(0, .ref (b 0)), (1, .ref (b 16)), (2, .ref (b 13)), (3, .int (nI t)), (4, .int (nI q)), (5, .int (nI 0))]) C (by decide) rfl dX6_rank_43 ?_
              have LP45 : ∀ (jz k : Nat), k + jz = un → aw g κ 6 45 [(0, .ref (b 0)), (1, .ref (b 16)), (2, .ref (b 13)), (3, .int (nI t)), (4, .int (nI q)), (5, .int (nI k))] [] (wM κ b th un ss fi la da dg ps rn ks os ts fn fp bo eE lE li be (rl1 lE q (rl2 lE un (rl3 lE un (pre (fun _ => nI 0) ab un) t) q) k) X) 0 0 := by
                intro jz
                induction jz with
                | zero =>
                  intro k hk_k
                  obtain rfl : un = k := by omega
                  refine a_iload (pc := 45) C 5 rfl dX6_rank_45 ?_
                  refine a_aloadn (pc := 47) C 0 rfl rfl dX6_rank_47 ?_
                  refine a_get (pc := 48) C fl_X6_64 0 rfl rfl dX6_rank_48 ?_
                  refine a_icn_ge_y (pc := 51) (tgt := 89) C (by omega) (by omega) (by omega) (by decide) dX6_rank_51 ?_
                  refine a_iinc (pc := 89) (v := nI (q + 1)) (L' := [(0, .ref (b 0)), (1, .ref (b 16)), (2, .ref (b 13)), (3, .int (nI t)), (4, .int (nI (q + 1))), (5, .int (nI un))]) C 4 rfl (nI_inc _) (by decide) rfl dX6_rank_89 ?_
                  refine a_goto (pc := 92) (tgt := 33) C (by decide) dX6_rank_92 ?_
                  refine aw_locals (L' := [(0, .ref (b 0)), (1, .ref (b 16)), (2, .ref (b 13)), (3, .int (nI t)), (4, .int (nI (q + 1)))]) [0, 1, 2, 3, 4] rfl ?_
                  refine aw_eq (congrArg (fun zz9 => wM κ b th un ss fi la da dg ps rn ks os ts fn fp bo eE lE li be zz9 X) (rfl : (rl1 lE q (rl2 lE un (rl3 lE un (pre (fun _ => nI 0) ab un) t) q) un) = (rl2 lE un (rl3 lE un (pre (fun _ => nI 0) ab un) t) (q + 1)))) ?_
                  exact ih (q + 1) (by omega)
                | succ jz ih =>
                  intro k hk_k
                  have hlt_k : k < un := by omega
                  refine a_iload (pc := 45) C 5 rfl dX6_rank_45 ?_
                  refine a_aloadn (pc := 47) C 0 rfl rfl dX6_rank_47 ?_
                  refine a_get (pc := 48) C fl_X6_64 0 rfl rfl dX6_rank_48 ?_
                  refine a_icn_ge_n (pc := 51) C (by omega) (by omega) (by omega) dX6_rank_51 ⟨89, by decide⟩ ?_
                  refine a_aloadn (pc := 54) C 2 rfl rfl dX6_rank_54 ?_
                  refine a_iload (pc := 55) C 4 rfl dX6_rank_55 ?_
                  refine a_laldS (pc := 57) C 13 rfl (by omega) (by decide) dX6_rank_57 ?_
                  refine a_iload (pc := 58) C 5 rfl dX6_rank_58 ?_
                  refine a_callS1 (pc := 60) (k' := 0) (n' := 0) C (c_X6_has κ (by omega)) yv_X6_has ml_X6_83 ws_X6_has rfl rfl (Nat.le_of_ble_eq_true rfl) (Nat.le_of_ble_eq_true rfl) (Nat.le_of_ble_eq_true rfl) ⟨(Nat.le_of_ble_eq_true rfl), (Nat.le_of_ble_eq_true rfl)⟩ rfl rfl dX6_rank_60 ?_
                  refine a_ifb_eq (pc := 63) (tgt := 83) C (by decide) dX6_rank_63 (fun c1 => ?_) (fun c1 => ?_)
                  · refine a_iinc (pc := 83) (v := nI (k + 1)) (L' := [(0, .ref (b 0)), (1, .ref (b 16)), (2, .ref (b 13)), (3, .int (nI t)), (4, .int (nI q)), (5, .int (nI (k + 1)))]) C 5 rfl (nI_inc _) (by decide) rfl dX6_rank_83 ?_
                    refine a_goto (pc := 86) (tgt := 45) C (by decide) dX6_rank_86 ?_
                    refine aw_eq (congrArg (fun zz9 => wM κ b th un ss fi la da dg ps rn ks os ts fn fp bo eE lE li be zz9 X) (rl1_n c1 : (rl1 lE q (rl2 lE un (rl3 lE un (pre (fun _ => nI 0) ab un) t) q) k) = (rl1 lE q (rl2 lE un (rl3 lE un (pre (fun _ => nI 0) ab un) t) q) (k + 1)))) ?_
                    exact ih (k + 1) (by omega)
                  · refine a_aloadn (pc := 66) C 1 rfl rfl dX6_rank_66 ?_
                    refine a_iload (pc := 67) C 4 rfl dX6_rank_67 ?_
                    refine a_aloadn (pc := 69) C 1 rfl rfl dX6_rank_69 ?_
                    refine a_iload (pc := 70) C 4 rfl dX6_rank_70 ?_
                    refine a_iald (pc := 72) C 16 rfl (by omega) (by decide) dX6_rank_72 ?_
                    refine a_aloadn (pc := 73) C 1 rfl rfl dX6_rank_73 ?_
                    refine a_iload (pc := 74) C 5 rfl dX6_rank_74 ?_
                    refine a_iald (pc := 76) C 16 rfl (by omega) (by decide) dX6_rank_76 ?_
                    refine a_iconst (pc := 77) (v := nI 1) C ci_1 dX6_rank_77 ?_
                    refine a_iadd (pc := 78) (v := ((rl1 lE q (rl2 lE un (rl3 lE un (pre (fun _ => nI 0) ab un) t) q) k) k) + (nI 1)) C rfl dX6_rank_78 ?_
                    refine a_mmax (pc := 79) (v := imax ((rl1 lE q (rl2 lE un (rl3 lE un (pre (fun _ => nI 0) ab un) t) q) k) q) (((rl1 lE q (rl2 lE un (rl3 lE un (pre (fun _ => nI 0) ab un) t) q) k) k) + (nI 1))) C ml_X6_97 rfl (Nat.le_of_ble_eq_true rfl) (Nat.le_of_ble_eq_true rfl) (Nat.le_of_ble_eq_true rfl) (Nat.le_of_ble_eq_true rfl) dX6_rank_79 ?_
                    refine a_iast (pc := 82) (ws' := wM κ b th un ss fi la da dg ps rn ks os ts fn fp bo eE lE li be (va_up (rl1 lE q (rl2 lE un (rl3 lE un (pre (fun _ => nI 0) ab un) t) q) k) q (imax ((rl1 lE q (rl2 lE un (rl3 lE un (pre (fun _ => nI 0) ab un) t) q) k) q) (((rl1 lE q (rl2 lE un (rl3 lE un (pre (fun _ => nI 0) ab un) t) q) k) k) + (nI 1)))) X) C 16 rfl (by omega) (by decide) rfl rfl dX6_rank_82 ?_
                    refine a_iinc (pc := 83) (v := nI (k + 1)) (L' := [(0, .ref (b 0)), (1, .ref (b 16)), (2, .ref (b 13)), (3, .int (nI t)), (4, .int (nI q)), (5, .int (nI (k + 1)))]) C 5 rfl (nI_inc _) (by decide) rfl dX6_rank_83 ?_
                    refine a_goto (pc := 86) (tgt := 45) C (by decide) dX6_rank_86 ?_
                    refine aw_eq (congrArg (fun zz9 => wM κ b th un ss fi la da dg ps rn ks os ts fn fp bo eE lE li be zz9 X) (rl1_y c1 : (va_up (rl1 lE q (rl2 lE un (rl3 lE un (pre (fun _ => nI 0) ab un) t) q) k) q (imax ((rl1 lE q (rl2 lE un (rl3 lE un (pre (fun _ => nI 0) ab un) t) q) k) q) (((rl1 lE q (rl2 lE un (rl3 lE un (pre (fun _ => nI 0) ab un) t) q) k) k) + (nI 1)))) = (rl1 lE q (rl2 lE un (rl3 lE un (pre (fun _ => nI 0) ab un) t) q) (k + 1)))) ?_
                    exact ih (k + 1) (by omega)
              refine aw_eq (congrArg (fun zz9 => wM κ b th un ss fi la da dg ps rn ks os ts fn fp bo eE lE li be zz9 X) (rfl : (rl2 lE un (rl3 lE un (pre (fun _ => nI 0) ab un) t) q) = (rl1 lE q (rl2 lE un (rl3 lE un (pre (fun _ => nI 0) ab un) t) q) 0))) ?_
              exact LP45 (un) (0) (by omega)
          refine aw_eq (congrArg (fun zz9 => wM κ b th un ss fi la da dg ps rn ks os ts fn fp bo eE lE li be zz9 X) (rfl : (rl3 lE un (pre (fun _ => nI 0) ab un) t) = (rl2 lE un (rl3 lE un (pre (fun _ => nI 0) ab un) t) 0))) ?_
          exact LP33 (un) (0) (by omega)
      refine aw_eq (congrArg (fun zz9 => wM κ b th un ss fi la da dg ps rn ks os ts fn fp bo eE lE li be zz9 X) (rfl : (pre (fun _ => nI 0) ab un) = (rl3 lE un (pre (fun _ => nI 0) ab un) 0))) ?_
      exact LP22 (un) (0) (by omega)
    | succ jz ih =>
      intro k hk_k
      have hlt_k : k < un := by omega
      refine a_iloadn (pc := 2) C 3 rfl rfl dX6_rank_2 ?_
      refine a_aloadn (pc := 3) C 0 rfl rfl dX6_rank_3 ?_
      refine a_get (pc := 4) C fl_X6_64 0 rfl rfl dX6_rank_4 ?_
      refine a_icn_ge_n (pc := 7) C (by omega) (by omega) (by omega) dX6_rank_7 ⟨20, by decide⟩ ?_
      refine a_aloadn (pc := 10) C 1 rfl rfl dX6_rank_10 ?_
      refine a_iloadn (pc := 11) C 3 rfl rfl dX6_rank_11 ?_
      refine a_iconst (pc := 12) (v := nI 0) C ci_0 dX6_rank_12 ?_
      refine a_iast (pc := 13) (ws' := wM κ b th un ss fi la da dg ps rn ks os ts fn fp bo eE lE li be (va_up (pre (fun _ => nI 0) ab k) k (nI 0)) X) C 16 rfl (by omega) (by decide) rfl rfl dX6_rank_13 ?_
      refine a_iinc (pc := 14) (v := nI (k + 1)) (L' := [(0, .ref (b 0)), (1, .ref (b 16)), (2, .ref (b 13)), (3, .int (nI (k + 1)))]) C 3 rfl (nI_inc _) (by decide) rfl dX6_rank_14 ?_
      refine a_goto (pc := 17) (tgt := 2) C (by decide) dX6_rank_17 ?_
      refine aw_eq (congrArg (fun zz9 => wM κ b th un ss fi la da dg ps rn ks os ts fn fp bo eE lE li be zz9 X) (pre_s (fun _ => nI 0) ab k : (va_up (pre (fun _ => nI 0) ab k) k (nI 0)) = (pre (fun _ => nI 0) ab (k + 1)))) ?_
      exact ih (k + 1) (by omega)
  refine aw_eq (congrArg (fun zz9 => wM κ b th un ss fi la da dg ps rn ks os ts fn fp bo eE lE li be zz9 X) ((pre_0 _ _).symm : ab = (pre (fun _ => nI 0) ab 0))) ?_
  exact LP2 (un) (0) (by omega)

set_option maxHeartbeats 4000000 in
set_option maxRecDepth 100000 in
theorem c_X6_settle (κ : aK) (b : Nat → Nat) {th : Int32} {un : Nat} {ss : Nat → Int32} {fi : Nat → Int32} {la : Nat → Int32} {da : Nat → Bool} {dg : Nat → Bool} {ps : Nat → Int32} {rn : Nat} {ks : Nat → Int32} {os : Nat → Nat} {ts : Nat → Nat} {fn : Nat} {fp : Nat → Int32} {bo : Nat → Nat} {eE : Nat → Nat → Bool} {lE : Nat → Nat → Bool} {li : Nat → Nat → Bool} {be : Nat → Int32} {ab : Nat → Int32} {X : va_W} (hun : un ≤ 40) (hrn : rn ≤ 80) (hbo : ∀ u, bo u < 40) (hos : ∀ u, os u < 40) (hts : ∀ u, ts u < 40) : CM yX6_settle cX6_settle 3 none ({ frames := 3, cells := 0, slots := 0, locals := 66 } : Room) κ [.ref (b 0)] (wM κ b th un ss fi la da dg ps rn ks os ts fn fp bo eE lE li be ab X) (aD none (wM κ b th un ss fi la da dg ps rn ks os ts fn fp (sJ ks os ts bo un rn) (sE ks os ts bo un rn eE) (sLt (sE ks os ts bo un rn eE) un lE) (sLi (sE ks os ts bo un rn eE) un li) (sRk (sE ks os ts bo un rn eE) un be) (sRk (sLt (sE ks os ts bo un rn eE) un lE) un ab) X)) := by
  refine cm_entry (own := RX6) (L := [(0, .ref (b 0))]) (by decide +kernel) rfl (lv_entry [.ref (b 0)] (n := 3) (Nat.le_of_ble_eq_true rfl)) (fun g C E => ?_)
  refine a_aloadn (pc := 0) C 0 rfl rfl dX6_settle_0 ?_
  refine a_callV1 (pc := 1) (k' := 0) (n' := 0) C (c_X6_follow κ b hun hrn hbo hos hts) yv_X6_follow ml_X6_87 wi_X6_follow wl_X6_follow 0 rfl rfl rfl rfl (Nat.le_of_ble_eq_true rfl) (Nat.le_of_ble_eq_true rfl) (Nat.le_of_ble_eq_true rfl) ⟨(Nat.le_of_ble_eq_true rfl), (Nat.le_of_ble_eq_true rfl)⟩ rfl rfl dX6_settle_1 ?_
  refine a_pop (pc := 4) C rfl dX6_settle_4 ?_
  refine a_iconst (pc := 5) (v := nI 0) C ci_0 dX6_settle_5 ?_
  refine a_istoren (pc := 6) (L' := [(0, .ref (b 0)), (1, .int (nI 0))]) C (by decide) rfl rfl dX6_settle_6 ?_
  have LP7 : ∀ (jz k : Nat), k + jz = un → aw g κ 3 7 [(0, .ref (b 0)), (1, .int (nI k))] [] (wM κ b th un ss fi la da dg ps rn ks os ts fn fp (sJ ks os ts bo un rn) (sE ks os ts bo un rn eE) (pre (fun _ _ => false) lE k) li be ab X) 0 0 := by
    intro jz
    induction jz with
    | zero =>
      intro k hk_k
      obtain rfl : un = k := by omega
      refine a_iloadn (pc := 7) C 1 rfl rfl dX6_settle_7 ?_
      refine a_aloadn (pc := 8) C 0 rfl rfl dX6_settle_8 ?_
      refine a_get (pc := 9) C fl_X6_64 0 rfl rfl dX6_settle_9 ?_
      refine a_icn_ge_y (pc := 12) (tgt := 28) C (by omega) (by omega) (by omega) (by decide) dX6_settle_12 ?_
      refine a_iconst (pc := 28) (v := nI 0) C ci_0 dX6_settle_28 ?_
      refine a_istoren (pc := 29) (L' := [(0, .ref (b 0)), (1, .int (nI 0))]) C (by decide) rfl rfl dX6_settle_29 ?_
      have LP30 : ∀ (jz q : Nat), q + jz = un → aw g κ 3 30 [(0, .ref (b 0)), (1, .int (nI q))] [] (wM κ b th un ss fi la da dg ps rn ks os ts fn fp (sJ ks os ts bo un rn) (sE ks os ts bo un rn eE) (lr2 (sE ks os ts bo un rn eE) un (pre (fun _ _ => false) lE un) q) li be ab X) 0 0 := by
        intro jz
        induction jz with
        | zero =>
          intro q hk_q
          obtain rfl : un = q := by omega
          refine a_iloadn (pc := 30) C 1 rfl rfl dX6_settle_30 ?_
          refine a_aloadn (pc := 31) C 0 rfl rfl dX6_settle_31 ?_
          refine a_get (pc := 32) C fl_X6_64 0 rfl rfl dX6_settle_32 ?_
          refine a_icn_ge_y (pc := 35) (tgt := 85) C (by omega) (by omega) (by omega) (by decide) dX6_settle_35 ?_
          refine a_iconst (pc := 85) (v := nI 0) C ci_0 dX6_settle_85 ?_
          refine a_istoren (pc := 86) (L' := [(0, .ref (b 0)), (1, .int (nI 0))]) C (by decide) rfl rfl dX6_settle_86 ?_
          have LP87 : ∀ (jz q : Nat), q + jz = un → aw g κ 3 87 [(0, .ref (b 0)), (1, .int (nI q))] [] (wM κ b th un ss fi la da dg ps rn ks os ts fn fp (sJ ks os ts bo un rn) (sE ks os ts bo un rn eE) (lr2 (sE ks os ts bo un rn eE) un (pre (fun _ _ => false) lE un) un) (pre (fun v => kS (sE ks os ts bo un rn eE) v un) li q) be ab X) 0 0 := by
            intro jz
            induction jz with
            | zero =>
              intro q hk_q
              obtain rfl : un = q := by omega
              refine a_iloadn (pc := 87) C 1 rfl rfl dX6_settle_87 ?_
              refine a_aloadn (pc := 88) C 0 rfl rfl dX6_settle_88 ?_
              refine a_get (pc := 89) C fl_X6_64 0 rfl rfl dX6_settle_89 ?_
              refine a_icn_ge_y (pc := 92) (tgt := 161) C (by omega) (by omega) (by omega) (by decide) dX6_settle_92 ?_
              refine a_aloadn (pc := 161) C 0 rfl rfl dX6_settle_161 ?_
              refine a_aloadn (pc := 162) C 0 rfl rfl dX6_settle_162 ?_
              refine a_get (pc := 163) C fl_X6_54 0 rfl rfl dX6_settle_163 ?_
              refine a_aloadn (pc := 166) C 0 rfl rfl dX6_settle_166 ?_
              refine a_get (pc := 167) C fl_X6_44 0 rfl rfl dX6_settle_167 ?_
              refine a_callV0 (pc := 170) (k' := 0) (n' := 0) C (c_X6_rank_be_eE κ b hun) yv_X6_rank ml_X6_93 wi_X6_rank wl_X6_rank 0 rfl rfl rfl rfl (Nat.le_of_ble_eq_true rfl) (Nat.le_of_ble_eq_true rfl) (Nat.le_of_ble_eq_true rfl) ⟨(Nat.le_of_ble_eq_true rfl), (Nat.le_of_ble_eq_true rfl)⟩ rfl rfl dX6_settle_170 ?_
              refine a_aloadn (pc := 173) C 0 rfl rfl dX6_settle_173 ?_
              refine a_aloadn (pc := 174) C 0 rfl rfl dX6_settle_174 ?_
              refine a_get (pc := 175) C fl_X6_57 0 rfl rfl dX6_settle_175 ?_
              refine a_aloadn (pc := 178) C 0 rfl rfl dX6_settle_178 ?_
              refine a_get (pc := 179) C fl_X6_48 0 rfl rfl dX6_settle_179 ?_
              refine a_callV0 (pc := 182) (k' := 0) (n' := 0) C (c_X6_rank_ab_lE κ b hun) yv_X6_rank ml_X6_93 wi_X6_rank wl_X6_rank 0 rfl rfl rfl rfl (Nat.le_of_ble_eq_true rfl) (Nat.le_of_ble_eq_true rfl) (Nat.le_of_ble_eq_true rfl) ⟨(Nat.le_of_ble_eq_true rfl), (Nat.le_of_ble_eq_true rfl)⟩ rfl rfl dX6_settle_182 ?_
              exact a_vret (pc := 185) C E (Nat.le_of_ble_eq_true rfl) (Nat.le_of_ble_eq_true rfl) ⟨rfl, rfl⟩ dX6_settle_185
            | succ jz ih =>
              intro q hk_q
              have hlt_q : q < un := by omega
              refine a_iloadn (pc := 87) C 1 rfl rfl dX6_settle_87 ?_
              refine a_aloadn (pc := 88) C 0 rfl rfl dX6_settle_88 ?_
              refine a_get (pc := 89) C fl_X6_64 0 rfl rfl dX6_settle_89 ?_
              refine a_icn_ge_n (pc := 92) C (by omega) (by omega) (by omega) dX6_settle_92 ⟨161, by decide⟩ ?_
              refine a_aloadn (pc := 95) C 0 rfl rfl dX6_settle_95 ?_
              refine a_get (pc := 96) C fl_X6_51 0 rfl rfl dX6_settle_96 ?_
              refine a_iloadn (pc := 99) C 1 rfl rfl dX6_settle_99 ?_
              refine a_aloadn (pc := 100) C 0 rfl rfl dX6_settle_100 ?_
              refine a_get (pc := 101) C fl_X6_44 0 rfl rfl dX6_settle_101 ?_
              refine a_iloadn (pc := 104) C 1 rfl rfl dX6_settle_104 ?_
              refine a_laldS (pc := 105) C 12 rfl (by omega) (by decide) dX6_settle_105 ?_
              refine a_last (pc := 106) (ws' := wM κ b th un ss fi la da dg ps rn ks os ts fn fp (sJ ks os ts bo un rn) (sE ks os ts bo un rn eE) (lr2 (sE ks os ts bo un rn eE) un (pre (fun _ _ => false) lE un) un) (va_up (pre (fun v => kS (sE ks os ts bo un rn eE) v un) li q) q ((sE ks os ts bo un rn eE) q)) be ab X) C 14 rfl (by omega) (by decide) (fS_up _ _ _) rfl dX6_settle_106 ?_
              refine a_iconst (pc := 107) (v := nI 0) C ci_0 dX6_settle_107 ?_
              refine a_istoren (pc := 108) (L' := [(0, .ref (b 0)), (1, .int (nI q)), (2, .int (nI 0))]) C (by decide) rfl rfl dX6_settle_108 ?_
              have LP109 : ∀ (jz k : Nat), k + jz = un → aw g κ 3 109 [(0, .ref (b 0)), (1, .int (nI q)), (2, .int (nI k))] [] (wM κ b th un ss fi la da dg ps rn ks os ts fn fp (sJ ks os ts bo un rn) (sE ks os ts bo un rn eE) (lr2 (sE ks os ts bo un rn eE) un (pre (fun _ _ => false) lE un) un) (va_up (pre (fun v => kS (sE ks os ts bo un rn eE) v un) li q) q (kS (sE ks os ts bo un rn eE) q k)) be ab X) 0 0 := by
                intro jz
                induction jz with
                | zero =>
                  intro k hk_k
                  obtain rfl : un = k := by omega
                  refine a_iloadn (pc := 109) C 2 rfl rfl dX6_settle_109 ?_
                  refine a_aloadn (pc := 110) C 0 rfl rfl dX6_settle_110 ?_
                  refine a_get (pc := 111) C fl_X6_64 0 rfl rfl dX6_settle_111 ?_
                  refine a_icn_ge_y (pc := 114) (tgt := 155) C (by omega) (by omega) (by omega) (by decide) dX6_settle_114 ?_
                  refine a_iinc (pc := 155) (v := nI (q + 1)) (L' := [(0, .ref (b 0)), (1, .int (nI (q + 1))), (2, .int (nI un))]) C 1 rfl (nI_inc _) (by decide) rfl dX6_settle_155 ?_
                  refine a_goto (pc := 158) (tgt := 87) C (by decide) dX6_settle_158 ?_
                  refine aw_locals (L' := [(0, .ref (b 0)), (1, .int (nI (q + 1)))]) [0, 1] rfl ?_
                  refine aw_eq (congrArg (fun zz9 => wM κ b th un ss fi la da dg ps rn ks os ts fn fp (sJ ks os ts bo un rn) (sE ks os ts bo un rn eE) (lr2 (sE ks os ts bo un rn eE) un (pre (fun _ _ => false) lE un) un) zz9 be ab X) (pre_s (fun v => kS (sE ks os ts bo un rn eE) v un) li q : (va_up (pre (fun v => kS (sE ks os ts bo un rn eE) v un) li q) q (kS (sE ks os ts bo un rn eE) q un)) = (pre (fun v => kS (sE ks os ts bo un rn eE) v un) li (q + 1)))) ?_
                  exact ih (q + 1) (by omega)
                | succ jz ih =>
                  intro k hk_k
                  have hlt_k : k < un := by omega
                  refine a_iloadn (pc := 109) C 2 rfl rfl dX6_settle_109 ?_
                  refine a_aloadn (pc := 110) C 0 rfl rfl dX6_settle_110 ?_
                  refine a_get (pc := 111) C fl_X6_64 0 rfl rfl dX6_settle_111 ?_
                  refine a_icn_ge_n (pc := 114) C (by omega) (by omega) (by omega) dX6_settle_114 ⟨155, by decide⟩ ?_
                  refine a_aloadn (pc := 117) C 0 rfl rfl dX6_settle_117 ?_
                  refine a_get (pc := 118) C fl_X6_44 0 rfl rfl dX6_settle_118 ?_
                  refine a_iloadn (pc := 121) C 1 rfl rfl dX6_settle_121 ?_
                  refine a_laldS (pc := 122) C 12 rfl (by omega) (by decide) dX6_settle_122 ?_
                  refine a_iloadn (pc := 123) C 2 rfl rfl dX6_settle_123 ?_
                  refine a_callS1 (pc := 124) (k' := 0) (n' := 0) C (c_X6_has κ (by omega)) yv_X6_has ml_X6_83 ws_X6_has rfl rfl (Nat.le_of_ble_eq_true rfl) (Nat.le_of_ble_eq_true rfl) (Nat.le_of_ble_eq_true rfl) ⟨(Nat.le_of_ble_eq_true rfl), (Nat.le_of_ble_eq_true rfl)⟩ rfl rfl dX6_settle_124 ?_
                  refine a_ifb_eq (pc := 127) (tgt := 149) C (by decide) dX6_settle_127 (fun c1 => ?_) (fun c1 => ?_)
                  · refine a_iinc (pc := 149) (v := nI (k + 1)) (L' := [(0, .ref (b 0)), (1, .int (nI q)), (2, .int (nI (k + 1)))]) C 2 rfl (nI_inc _) (by decide) rfl dX6_settle_149 ?_
                    refine a_goto (pc := 152) (tgt := 109) C (by decide) dX6_settle_152 ?_
                    refine aw_eq (congrArg (fun zz9 => wM κ b th un ss fi la da dg ps rn ks os ts fn fp (sJ ks os ts bo un rn) (sE ks os ts bo un rn eE) (lr2 (sE ks os ts bo un rn eE) un (pre (fun _ _ => false) lE un) un) zz9 be ab X) (by rw [← kS_n c1] : (va_up (pre (fun v => kS (sE ks os ts bo un rn eE) v un) li q) q (kS (sE ks os ts bo un rn eE) q k)) = (va_up (pre (fun v => kS (sE ks os ts bo un rn eE) v un) li q) q (kS (sE ks os ts bo un rn eE) q (k + 1))))) ?_
                    exact ih (k + 1) (by omega)
                  · refine a_aloadn (pc := 130) C 0 rfl rfl dX6_settle_130 ?_
                    refine a_get (pc := 131) C fl_X6_51 0 rfl rfl dX6_settle_131 ?_
                    refine a_iloadn (pc := 134) C 1 rfl rfl dX6_settle_134 ?_
                    refine a_dup2 (pc := 135) C rfl rfl dX6_settle_135 ?_
                    refine a_laldS (pc := 136) C 14 rfl (by omega) (by decide) dX6_settle_136 ?_
                    refine a_aloadn (pc := 137) C 0 rfl rfl dX6_settle_137 ?_
                    refine a_get (pc := 138) C fl_X6_44 0 rfl rfl dX6_settle_138 ?_
                    refine a_iloadn (pc := 141) C 2 rfl rfl dX6_settle_141 ?_
                    refine a_laldS (pc := 142) C 12 rfl (by omega) (by decide) dX6_settle_142 ?_
                    refine a_ldc2 (pc := 143) C kl_X6_91 dX6_settle_143 ?_
                    refine a_lxor (pc := 146) (v := bs (fun i => !(((sE ks os ts bo un rn eE) k) i))) C (bs_not _) dX6_settle_146 ?_
                    refine a_land (pc := 147) (v := bs (fun i => ((va_up (pre (fun v => kS (sE ks os ts bo un rn eE) v un) li q) q (kS (sE ks os ts bo un rn eE) q k)) q) i && (!(((sE ks os ts bo un rn eE) k) i)))) C (bs_and _ _) dX6_settle_147 ?_
                    refine a_last (pc := 148) (ws' := wM κ b th un ss fi la da dg ps rn ks os ts fn fp (sJ ks os ts bo un rn) (sE ks os ts bo un rn eE) (lr2 (sE ks os ts bo un rn eE) un (pre (fun _ _ => false) lE un) un) (va_up (va_up (pre (fun v => kS (sE ks os ts bo un rn eE) v un) li q) q (kS (sE ks os ts bo un rn eE) q k)) q (fun i => ((va_up (pre (fun v => kS (sE ks os ts bo un rn eE) v un) li q) q (kS (sE ks os ts bo un rn eE) q k)) q) i && (!(((sE ks os ts bo un rn eE) k) i)))) be ab X) C 14 rfl (by omega) (by decide) (fS_up _ _ _) rfl dX6_settle_148 ?_
                    refine a_iinc (pc := 149) (v := nI (k + 1)) (L' := [(0, .ref (b 0)), (1, .int (nI q)), (2, .int (nI (k + 1)))]) C 2 rfl (nI_inc _) (by decide) rfl dX6_settle_149 ?_
                    refine a_goto (pc := 152) (tgt := 109) C (by decide) dX6_settle_152 ?_
                    refine aw_eq (congrArg (fun zz9 => wM κ b th un ss fi la da dg ps rn ks os ts fn fp (sJ ks os ts bo un rn) (sE ks os ts bo un rn eE) (lr2 (sE ks os ts bo un rn eE) un (pre (fun _ _ => false) lE un) un) zz9 be ab X) (by rw [up_s, up_up, kS_y c1] : (va_up (va_up (pre (fun v => kS (sE ks os ts bo un rn eE) v un) li q) q (kS (sE ks os ts bo un rn eE) q k)) q (fun i => ((va_up (pre (fun v => kS (sE ks os ts bo un rn eE) v un) li q) q (kS (sE ks os ts bo un rn eE) q k)) q) i && (!(((sE ks os ts bo un rn eE) k) i)))) = (va_up (pre (fun v => kS (sE ks os ts bo un rn eE) v un) li q) q (kS (sE ks os ts bo un rn eE) q (k + 1))))) ?_
                    exact ih (k + 1) (by omega)
              refine aw_eq (congrArg (fun zz9 => wM κ b th un ss fi la da dg ps rn ks os ts fn fp (sJ ks os ts bo un rn) (sE ks os ts bo un rn eE) (lr2 (sE ks os ts bo un rn eE) un (pre (fun _ _ => false) lE un) un) zz9 be ab X) (rfl : (va_up (pre (fun v => kS (sE ks os ts bo un rn eE) v un) li q) q ((sE ks os ts bo un rn eE) q)) = (va_up (pre (fun v => kS (sE ks os ts bo un rn eE) v un) li q) q (kS (sE ks os ts bo un rn eE) q 0)))) ?_
              exact LP109 (un) (0) (by omega)
          refine aw_eq (congrArg (fun zz9 => wM κ b th un ss fi la da dg ps rn ks os ts fn fp (sJ ks os ts bo un rn) (sE ks os ts bo un rn eE) (lr2 (sE ks os ts bo un rn eE) un (pre (fun _ _ => false) lE un) un) zz9 be ab X) ((pre_0 _ _).symm : li = (pre (fun v => kS (sE ks os ts bo un rn eE) v un) li 0))) ?_
          exact LP87 (un) (0) (by omega)
        | succ jz ih =>
          intro q hk_q
          have hlt_q : q < un := by omega
          refine a_iloadn (pc := 30) C 1 rfl rfl dX6_settle_30 ?_
          refine a_aloadn (pc := 31) C 0 rfl rfl dX6_settle_31 ?_
          refine a_get (pc := 32) C fl_X6_64 0 rfl rfl dX6_settle_32 ?_
          refine a_icn_ge_n (pc := 35) C (by omega) (by omega) (by omega) dX6_settle_35 ⟨85, by decide⟩ ?_
          refine a_iconst (pc := 38) (v := nI 0) C ci_0 dX6_settle_38 ?_
          refine a_istoren (pc := 39) (L' := [(0, .ref (b 0)), (1, .int (nI q)), (2, .int (nI 0))]) C (by decide) rfl rfl dX6_settle_39 ?_
          have LP40 : ∀ (jz k : Nat), k + jz = un → aw g κ 3 40 [(0, .ref (b 0)), (1, .int (nI q)), (2, .int (nI k))] [] (wM κ b th un ss fi la da dg ps rn ks os ts fn fp (sJ ks os ts bo un rn) (sE ks os ts bo un rn eE) (lr1 (sE ks os ts bo un rn eE) q (lr2 (sE ks os ts bo un rn eE) un (pre (fun _ _ => false) lE un) q) k) li be ab X) 0 0 := by
            intro jz
            induction jz with
            | zero =>
              intro k hk_k
              obtain rfl : un = k := by omega
              refine a_iloadn (pc := 40) C 2 rfl rfl dX6_settle_40 ?_
              refine a_aloadn (pc := 41) C 0 rfl rfl dX6_settle_41 ?_
              refine a_get (pc := 42) C fl_X6_64 0 rfl rfl dX6_settle_42 ?_
              refine a_icn_ge_y (pc := 45) (tgt := 79) C (by omega) (by omega) (by omega) (by decide) dX6_settle_45 ?_
              refine a_iinc (pc := 79) (v := nI (q + 1)) (L' := [(0, .ref (b 0)), (1, .int (nI (q + 1))), (2, .int (nI un))]) C 1 rfl (nI_inc _) (by decide) rfl dX6_settle_79 ?_
              refine a_goto (pc := 82) (tgt := 30) C (by decide) dX6_settle_82 ?_
              refine aw_locals (L' := [(0, .ref (b 0)), (1, .int (nI (q + 1)))]) [0, 1] rfl ?_
              refine aw_eq (congrArg (fun zz9 => wM κ b th un ss fi la da dg ps rn ks os ts fn fp (sJ ks os ts bo un rn) (sE ks os ts bo un rn eE) zz9 li be ab X) (rfl : (lr1 (sE ks os ts bo un rn eE) q (lr2 (sE ks os ts bo un rn eE) un (pre (fun _ _ => false) lE un) q) un) = (lr2 (sE ks os ts bo un rn eE) un (pre (fun _ _ => false) lE un) (q + 1)))) ?_
              exact ih (q + 1) (by omega)
            | succ jz ih =>
              intro k hk_k
              have hlt_k : k < un := by omega
              refine a_iloadn (pc := 40) C 2 rfl rfl dX6_settle_40 ?_
              refine a_aloadn (pc := 41) C 0 rfl rfl dX6_settle_41 ?_
              refine a_get (pc := 42) C fl_X6_64 0 rfl rfl dX6_settle_42 ?_
              refine a_icn_ge_n (pc := 45) C (by omega) (by omega) (by omega) dX6_settle_45 ⟨79, by decide⟩ ?_
              refine a_aloadn (pc := 48) C 0 rfl rfl dX6_settle_48 ?_
              refine a_get (pc := 49) C fl_X6_44 0 rfl rfl dX6_settle_49 ?_
              refine a_iloadn (pc := 52) C 1 rfl rfl dX6_settle_52 ?_
              refine a_laldS (pc := 53) C 12 rfl (by omega) (by decide) dX6_settle_53 ?_
              refine a_iloadn (pc := 54) C 2 rfl rfl dX6_settle_54 ?_
              refine a_callS1 (pc := 55) (k' := 0) (n' := 0) C (c_X6_has κ (by omega)) yv_X6_has ml_X6_83 ws_X6_has rfl rfl (Nat.le_of_ble_eq_true rfl) (Nat.le_of_ble_eq_true rfl) (Nat.le_of_ble_eq_true rfl) ⟨(Nat.le_of_ble_eq_true rfl), (Nat.le_of_ble_eq_true rfl)⟩ rfl rfl dX6_settle_55 ?_
              refine a_ifb_eq (pc := 58) (tgt := 73) C (by decide) dX6_settle_58 (fun c2 => ?_) (fun c2 => ?_)
              · refine a_iinc (pc := 73) (v := nI (k + 1)) (L' := [(0, .ref (b 0)), (1, .int (nI q)), (2, .int (nI (k + 1)))]) C 2 rfl (nI_inc _) (by decide) rfl dX6_settle_73 ?_
                refine a_goto (pc := 76) (tgt := 40) C (by decide) dX6_settle_76 ?_
                refine aw_eq (congrArg (fun zz9 => wM κ b th un ss fi la da dg ps rn ks os ts fn fp (sJ ks os ts bo un rn) (sE ks os ts bo un rn eE) zz9 li be ab X) (lr1_n c2 : (lr1 (sE ks os ts bo un rn eE) q (lr2 (sE ks os ts bo un rn eE) un (pre (fun _ _ => false) lE un) q) k) = (lr1 (sE ks os ts bo un rn eE) q (lr2 (sE ks os ts bo un rn eE) un (pre (fun _ _ => false) lE un) q) (k + 1)))) ?_
                exact ih (k + 1) (by omega)
              · refine a_aloadn (pc := 61) C 0 rfl rfl dX6_settle_61 ?_
                refine a_get (pc := 62) C fl_X6_48 0 rfl rfl dX6_settle_62 ?_
                refine a_iloadn (pc := 65) C 2 rfl rfl dX6_settle_65 ?_
                refine a_dup2 (pc := 66) C rfl rfl dX6_settle_66 ?_
                refine a_laldS (pc := 67) C 13 rfl (by omega) (by decide) dX6_settle_67 ?_
                refine a_lconst (pc := 68) (v := 1) C rfl dX6_settle_68 ?_
                refine a_iloadn (pc := 69) C 1 rfl rfl dX6_settle_69 ?_
                refine a_lshl (pc := 70) (v := bs (fun i => decide (i = q))) C (bs_bit (by omega)) dX6_settle_70 ?_
                refine a_lor (pc := 71) (v := bs (fun i => ((lr1 (sE ks os ts bo un rn eE) q (lr2 (sE ks os ts bo un rn eE) un (pre (fun _ _ => false) lE un) q) k) k) i || (decide (i = q)))) C (bs_or _ _) dX6_settle_71 ?_
                refine a_last (pc := 72) (ws' := wM κ b th un ss fi la da dg ps rn ks os ts fn fp (sJ ks os ts bo un rn) (sE ks os ts bo un rn eE) (va_up (lr1 (sE ks os ts bo un rn eE) q (lr2 (sE ks os ts bo un rn eE) un (pre (fun _ _ => false) lE un) q) k) k (fun i => ((lr1 (sE ks os ts bo un rn eE) q (lr2 (sE ks os ts bo un rn eE) un (pre (fun _ _ => false) lE un) q) k) k) i || (decide (i = q)))) li be ab X) C 13 rfl (by omega) (by decide) (fS_up _ _ _) rfl dX6_settle_72 ?_
                refine a_iinc (pc := 73) (v := nI (k + 1)) (L' := [(0, .ref (b 0)), (1, .int (nI q)), (2, .int (nI (k + 1)))]) C 2 rfl (nI_inc _) (by decide) rfl dX6_settle_73 ?_
                refine a_goto (pc := 76) (tgt := 40) C (by decide) dX6_settle_76 ?_
                refine aw_eq (congrArg (fun zz9 => wM κ b th un ss fi la da dg ps rn ks os ts fn fp (sJ ks os ts bo un rn) (sE ks os ts bo un rn eE) zz9 li be ab X) (lr1_y c2 : (va_up (lr1 (sE ks os ts bo un rn eE) q (lr2 (sE ks os ts bo un rn eE) un (pre (fun _ _ => false) lE un) q) k) k (fun i => ((lr1 (sE ks os ts bo un rn eE) q (lr2 (sE ks os ts bo un rn eE) un (pre (fun _ _ => false) lE un) q) k) k) i || (decide (i = q)))) = (lr1 (sE ks os ts bo un rn eE) q (lr2 (sE ks os ts bo un rn eE) un (pre (fun _ _ => false) lE un) q) (k + 1)))) ?_
                exact ih (k + 1) (by omega)
          refine aw_eq (congrArg (fun zz9 => wM κ b th un ss fi la da dg ps rn ks os ts fn fp (sJ ks os ts bo un rn) (sE ks os ts bo un rn eE) zz9 li be ab X) (rfl : (lr2 (sE ks os ts bo un rn eE) un (pre (fun _ _ => false) lE un) q) = (lr1 (sE ks os ts bo un rn eE) q (lr2 (sE ks os ts bo un rn eE) un (pre (fun _ _ => false) lE un) q) 0))) ?_
          exact LP40 (un) (0) (by omega)
      refine aw_eq (congrArg (fun zz9 => wM κ b th un ss fi la da dg ps rn ks os ts fn fp (sJ ks os ts bo un rn) (sE ks os ts bo un rn eE) zz9 li be ab X) (rfl : (pre (fun _ _ => false) lE un) = (lr2 (sE ks os ts bo un rn eE) un (pre (fun _ _ => false) lE un) 0))) ?_
      exact LP30 (un) (0) (by omega)
    | succ jz ih =>
      intro k hk_k
      have hlt_k : k < un := by omega
      refine a_iloadn (pc := 7) C 1 rfl rfl dX6_settle_7 ?_
      refine a_aloadn (pc := 8) C 0 rfl rfl dX6_settle_8 ?_
      refine a_get (pc := 9) C fl_X6_64 0 rfl rfl dX6_settle_9 ?_
      refine a_icn_ge_n (pc := 12) C (by omega) (by omega) (by omega) dX6_settle_12 ⟨28, by decide⟩ ?_
      refine a_aloadn (pc := 15) C 0 rfl rfl dX6_settle_15 ?_
      refine a_get (pc := 16) C fl_X6_48 0 rfl rfl dX6_settle_16 ?_
      refine a_iloadn (pc := 19) C 1 rfl rfl dX6_settle_19 ?_
      refine a_lconst (pc := 20) (v := bs (fun _ => false)) C bs_0 dX6_settle_20 ?_
      refine a_last (pc := 21) (ws' := wM κ b th un ss fi la da dg ps rn ks os ts fn fp (sJ ks os ts bo un rn) (sE ks os ts bo un rn eE) (va_up (pre (fun _ _ => false) lE k) k (fun _ => false)) li be ab X) C 13 rfl (by omega) (by decide) (fS_up _ _ _) rfl dX6_settle_21 ?_
      refine a_iinc (pc := 22) (v := nI (k + 1)) (L' := [(0, .ref (b 0)), (1, .int (nI (k + 1)))]) C 1 rfl (nI_inc _) (by decide) rfl dX6_settle_22 ?_
      refine a_goto (pc := 25) (tgt := 7) C (by decide) dX6_settle_25 ?_
      refine aw_eq (congrArg (fun zz9 => wM κ b th un ss fi la da dg ps rn ks os ts fn fp (sJ ks os ts bo un rn) (sE ks os ts bo un rn eE) zz9 li be ab X) (pre_s (fun _ _ => false) lE k : (va_up (pre (fun _ _ => false) lE k) k (fun _ => false)) = (pre (fun _ _ => false) lE (k + 1)))) ?_
      exact ih (k + 1) (by omega)
  refine aw_eq (congrArg (fun zz9 => wM κ b th un ss fi la da dg ps rn ks os ts fn fp (sJ ks os ts bo un rn) (sE ks os ts bo un rn eE) zz9 li be ab X) ((pre_0 _ _).symm : lE = (pre (fun _ _ => false) lE 0))) ?_
  exact LP7 (un) (0) (by omega)
