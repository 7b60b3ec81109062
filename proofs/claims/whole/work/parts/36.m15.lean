theorem nI_gt {a : Nat} (h : a < 2 ^ 31) (h0 : 0 < a) : (0 : Int32) < nI a := by
  rw [Int32.lt_iff_toInt_lt, nI_toInt h]
  have h1 : (0 : Int32).toInt = 0 := rfl
  omega
set_option maxHeartbeats 4000000 in
set_option maxRecDepth 100000 in
theorem c_X5_meanHeight (κ : aK) (a : Nat → Nat) {n : Nat} {dug : Nat → Bool} {dtd : Nat → Bool} {so : Nat → Int32} {ph : Nat → Int32} {uf : Nat → Int32} {ul : Nat → Int32} {r : Nat} {ki : Nat → Int32} {lt : Nat → Nat} {er : Nat → Nat} {mz : Nat} {bd : Nat → Bool} {bo : Nat → Nat} {me : Nat → Nat → Bool} {dE : Nat → Nat → Bool} {eE : Nat → Nat → Bool} {lE : Nat → Nat → Bool} {li : Nat → Nat → Bool} {fB : Nat → Int32} {fA : Nat → Int32} {sL : Nat → Int32} {f : Nat} {fu : Nat → Nat} {fs : Nat → Int32} {ff : Nat → Int32} {fl : Nat → Int32} {xs : Nat → Int32} {ys : Nat → Int32} {zs : Nat → Int32} {oL : Nat → Int32} {oU : Nat → Int32} {lo : Nat → Int32} {up : Nat → Int32} {X : va_W} (hf : f ≤ 60) : CMD yX5_meanHeight cX5_meanHeight 3 (some .double) ({ frames := 0, cells := 0, slots := 0, locals := 0 } : Room) κ [.ref (a 0)] (wC κ a n dug dtd so ph uf ul r ki lt er mz bd bo me dE eE lE li fB fA sL f fu fs ff fl xs ys zs oL oU lo up X) (fun ro w => ∃ r9, mhP f (smS zs f) r9 ∧ ro = some (.double r9) ∧ w = wC κ a n dug dtd so ph uf ul r ki lt er mz bd bo me dE eE lE li fB fA sL f fu fs ff fl xs ys zs oL oU lo up X) := by
  refine cd_entry (own := RX5) (L := [(0, .ref (a 0))]) (by decide +kernel) rfl (lv_entry [.ref (a 0)] (n := 3) (Nat.le_of_ble_eq_true rfl)) (fun g C E => ?_)
  refine a_aloadn (pc := 0) C 0 rfl rfl dX5_meanHeight_0 ?_
  refine a_get (pc := 1) C fl_X5_33 0 rfl rfl dX5_meanHeight_1 ?_
  refine a_get (pc := 4) C fl_X5_121 4 rfl rfl dX5_meanHeight_4 ?_
  refine a_if_gt (pc := 7) (tgt := 12) C (by decide) dX5_meanHeight_7 (fun c1 => ?_) (fun c1 => ?_)
  · have hf0 : 0 < f := by apply Nat.pos_of_ne_zero; intro hz; subst hz; exact absurd c1 (by decide +kernel)
    refine a_iconst (pc := 12) (v := nI 0) C ci_0 dX5_meanHeight_12 ?_
    refine a_istoren (pc := 13) (L' := [(0, .ref (a 0)), (1, .int (nI 0))]) C (by decide) rfl rfl dX5_meanHeight_13 ?_
    refine a_iconst (pc := 14) (v := nI 0) C ci_0 dX5_meanHeight_14 ?_
    refine a_istoren (pc := 15) (L' := [(0, .ref (a 0)), (1, .int (nI 0)), (2, .int (nI 0))]) C (by decide) rfl rfl dX5_meanHeight_15 ?_
    have LP16 : ∀ (jz k : Nat), k + jz = f → aw g κ 3 16 [(0, .ref (a 0)), (1, .int (smS zs k)), (2, .int (nI k))] [] (wC κ a n dug dtd so ph uf ul r ki lt er mz bd bo me dE eE lE li fB fA sL f fu fs ff fl xs ys zs oL oU lo up X) 0 0 := by
      intro jz
      induction jz with
      | zero =>
        intro k hk_k
        obtain rfl : f = k := by omega
        refine a_iloadn (pc := 16) C 2 rfl rfl dX5_meanHeight_16 ?_
        refine a_aloadn (pc := 17) C 0 rfl rfl dX5_meanHeight_17 ?_
        refine a_get (pc := 18) C fl_X5_33 0 rfl rfl dX5_meanHeight_18 ?_
        refine a_get (pc := 21) C fl_X5_121 4 rfl rfl dX5_meanHeight_21 ?_
        refine a_icn_ge_y (pc := 24) (tgt := 45) C (by omega) (by omega) (by omega) (by decide) dX5_meanHeight_24 ?_
        refine a_iloadn (pc := 45) C 1 rfl rfl dX5_meanHeight_45 ?_
        refine a_i2d (pc := 46) C dX5_meanHeight_46 ?_
        refine a_aloadn (pc := 47) C 0 rfl rfl dX5_meanHeight_47 ?_
        refine a_get (pc := 48) C fl_X5_33 0 rfl rfl dX5_meanHeight_48 ?_
        refine a_get (pc := 51) C fl_X5_121 4 rfl rfl dX5_meanHeight_51 ?_
        refine a_i2d (pc := 54) C dX5_meanHeight_54 ?_
        exact a_ddret (pc := 55) C E (Nat.le_of_ble_eq_true rfl) (Nat.le_of_ble_eq_true rfl) (fun r hr => ⟨r, by rw [mhP, if_neg (by omega)]; exact hr, rfl, rfl⟩) dX5_meanHeight_55 dX5_meanHeight_56
      | succ jz ih =>
        intro k hk_k
        have hlt_k : k < f := by omega
        refine a_iloadn (pc := 16) C 2 rfl rfl dX5_meanHeight_16 ?_
        refine a_aloadn (pc := 17) C 0 rfl rfl dX5_meanHeight_17 ?_
        refine a_get (pc := 18) C fl_X5_33 0 rfl rfl dX5_meanHeight_18 ?_
        refine a_get (pc := 21) C fl_X5_121 4 rfl rfl dX5_meanHeight_21 ?_
        refine a_icn_ge_n (pc := 24) C (by omega) (by omega) (by omega) dX5_meanHeight_24 ⟨45, by decide⟩ ?_
        refine a_iloadn (pc := 27) C 1 rfl rfl dX5_meanHeight_27 ?_
        refine a_aloadn (pc := 28) C 0 rfl rfl dX5_meanHeight_28 ?_
        refine a_get (pc := 29) C fl_X5_33 0 rfl rfl dX5_meanHeight_29 ?_
        refine a_get (pc := 32) C fl_X5_214 4 rfl rfl dX5_meanHeight_32 ?_
        refine a_iloadn (pc := 35) C 2 rfl rfl dX5_meanHeight_35 ?_
        refine a_iald (pc := 36) C 28 rfl (by omega) (by decide) dX5_meanHeight_36 ?_
        refine a_iadd (pc := 37) (v := (smS zs k) + (zs k)) C rfl dX5_meanHeight_37 ?_
        refine a_istoren (pc := 38) (L' := [(0, .ref (a 0)), (1, .int ((smS zs k) + (zs k))), (2, .int (nI k))]) C (by decide) rfl rfl dX5_meanHeight_38 ?_
        refine a_iinc (pc := 39) (v := nI (k + 1)) (L' := [(0, .ref (a 0)), (1, .int ((smS zs k) + (zs k))), (2, .int (nI (k + 1)))]) C 2 rfl (nI_inc _) (by decide) rfl dX5_meanHeight_39 ?_
        refine a_goto (pc := 42) (tgt := 16) C (by decide) dX5_meanHeight_42 ?_
        refine aw_L (L' := [(0, .ref (a 0)), (1, .int (smS zs (k + 1))), (2, .int (nI (k + 1)))]) (congrArg (fun zz9 => ([(0, .ref (a 0)), (1, .int zz9), (2, .int (nI (k + 1)))] : List (Nat × Value))) (rfl : ((smS zs k) + (zs k)) = (smS zs (k + 1)))) ?_
        exact ih (k + 1) (by omega)
    refine aw_L (L' := [(0, .ref (a 0)), (1, .int (smS zs 0)), (2, .int (nI 0))]) (congrArg (fun zz9 => ([(0, .ref (a 0)), (1, .int zz9), (2, .int (nI 0))] : List (Nat × Value))) (rfl : (nI 0) = (smS zs 0))) ?_
    exact LP16 (f) (0) (by omega)
  · have hf0 : f = 0 := by apply Nat.eq_zero_of_not_pos; intro hz; exact c1 (nI_gt (by omega) hz)
    refine a_dconst0 (pc := 10) C dX5_meanHeight_10 ?_
    exact a_dretD (pc := 11) C E (Nat.le_of_ble_eq_true rfl) (Nat.le_of_ble_eq_true rfl) ⟨_, by rw [mhP, if_pos (by omega)], rfl, rfl⟩ dX5_meanHeight_11

set_option maxHeartbeats 4000000 in
set_option maxRecDepth 100000 in
theorem c_X6_meanHeight (κ : aK) (b : Nat → Nat) {th : Int32} {un : Nat} {ss : Nat → Int32} {fi : Nat → Int32} {la : Nat → Int32} {da : Nat → Bool} {dg : Nat → Bool} {ps : Nat → Int32} {rn : Nat} {ks : Nat → Int32} {os : Nat → Nat} {ts : Nat → Nat} {fn : Nat} {fp : Nat → Int32} {bo : Nat → Nat} {eE : Nat → Nat → Bool} {lE : Nat → Nat → Bool} {li : Nat → Nat → Bool} {be : Nat → Int32} {ab : Nat → Int32} {X : va_W} (hfn : fn ≤ 60) : CMD yX6_meanHeight cX6_meanHeight 3 (some .double) ({ frames := 0, cells := 0, slots := 0, locals := 0 } : Room) κ [.ref (b 0)] (wM κ b th un ss fi la da dg ps rn ks os ts fn fp bo eE lE li be ab X) (fun ro w => ∃ r9, mhP fn (smS (fun v => fp (7 * v + 6)) fn) r9 ∧ ro = some (.double r9) ∧ w = wM κ b (nI 0) un ss fi la da dg ps rn ks os ts fn fp bo eE lE li be ab X) := by
  refine cd_entry (own := RX6) (L := [(0, .ref (b 0))]) (by decide +kernel) rfl (lv_entry [.ref (b 0)] (n := 3) (Nat.le_of_ble_eq_true rfl)) (fun g C E => ?_)
  refine a_aloadn (pc := 0) C 0 rfl rfl dX6_meanHeight_0 ?_
  refine a_iconst (pc := 1) (v := nI 0) C ci_0 dX6_meanHeight_1 ?_
  refine a_put (pc := 2) (ws' := wM κ b (nI 0) un ss fi la da dg ps rn ks os ts fn fp bo eE lE li be ab X) C fl_X6_60 fp_X6_0 0 rfl rfl rfl (Nat.le_of_ble_eq_true rfl) rfl dX6_meanHeight_2 ?_
  refine a_iconst (pc := 5) (v := nI 0) C ci_0 dX6_meanHeight_5 ?_
  refine a_istoren (pc := 6) (L' := [(0, .ref (b 0)), (1, .int (nI 0))]) C (by decide) rfl rfl dX6_meanHeight_6 ?_
  refine a_iconst (pc := 7) (v := nI 0) C ci_0 dX6_meanHeight_7 ?_
  refine a_istoren (pc := 8) (L' := [(0, .ref (b 0)), (1, .int (nI 0)), (2, .int (nI 0))]) C (by decide) rfl rfl dX6_meanHeight_8 ?_
  have LP9 : ∀ (jz k : Nat), k + jz = fn → aw g κ 3 9 [(0, .ref (b 0)), (1, .int (smS (fun v => fp (7 * v + 6)) k)), (2, .int (nI k))] [] (wM κ b (nI 0) un ss fi la da dg ps rn ks os ts fn fp bo eE lE li be ab X) 0 0 := by
    intro jz
    induction jz with
    | zero =>
      intro k hk_k
      obtain rfl : fn = k := by omega
      refine a_iloadn (pc := 9) C 2 rfl rfl dX6_meanHeight_9 ?_
      refine a_aloadn (pc := 10) C 0 rfl rfl dX6_meanHeight_10 ?_
      refine a_get (pc := 11) C fl_X6_120 0 rfl rfl dX6_meanHeight_11 ?_
      refine a_icn_ge_y (pc := 14) (tgt := 38) C (by omega) (by omega) (by omega) (by decide) dX6_meanHeight_14 ?_
      refine a_aloadn (pc := 38) C 0 rfl rfl dX6_meanHeight_38 ?_
      refine a_get (pc := 39) C fl_X6_120 0 rfl rfl dX6_meanHeight_39 ?_
      refine a_ifn_ne (pc := 42) (tgt := 49) C (by omega) (by decide) dX6_meanHeight_42 (fun c1 => ?_) (fun c1 => ?_)
      · refine a_iloadn (pc := 49) C 1 rfl rfl dX6_meanHeight_49 ?_
        refine a_i2d (pc := 50) C dX6_meanHeight_50 ?_
        refine a_aloadn (pc := 51) C 0 rfl rfl dX6_meanHeight_51 ?_
        refine a_get (pc := 52) C fl_X6_120 0 rfl rfl dX6_meanHeight_52 ?_
        refine a_i2d (pc := 55) C dX6_meanHeight_55 ?_
        exact a_ddret (pc := 56) C E (Nat.le_of_ble_eq_true rfl) (Nat.le_of_ble_eq_true rfl) (fun r hr => ⟨r, by rw [mhP, if_neg (by omega)]; exact hr, rfl, rfl⟩) dX6_meanHeight_56 dX6_meanHeight_57
      · refine a_dconst0 (pc := 45) C dX6_meanHeight_45 ?_
        refine a_goto (pc := 46) (tgt := 57) C (by decide) dX6_meanHeight_46 ?_
        exact a_dretD (pc := 57) C E (Nat.le_of_ble_eq_true rfl) (Nat.le_of_ble_eq_true rfl) ⟨_, by rw [mhP, if_pos (by omega)], rfl, rfl⟩ dX6_meanHeight_57
    | succ jz ih =>
      intro k hk_k
      have hlt_k : k < fn := by omega
      refine a_iloadn (pc := 9) C 2 rfl rfl dX6_meanHeight_9 ?_
      refine a_aloadn (pc := 10) C 0 rfl rfl dX6_meanHeight_10 ?_
      refine a_get (pc := 11) C fl_X6_120 0 rfl rfl dX6_meanHeight_11 ?_
      refine a_icn_ge_n (pc := 14) C (by omega) (by omega) (by omega) dX6_meanHeight_14 ⟨38, by decide⟩ ?_
      refine a_iloadn (pc := 17) C 1 rfl rfl dX6_meanHeight_17 ?_
      refine a_aloadn (pc := 18) C 0 rfl rfl dX6_meanHeight_18 ?_
      refine a_get (pc := 19) C fl_X6_38 0 rfl rfl dX6_meanHeight_19 ?_
      refine a_bipush (pc := 22) (v := nI 7) C cb_7 dX6_meanHeight_22 ?_
      refine a_iloadn (pc := 24) C 2 rfl rfl dX6_meanHeight_24 ?_
      refine a_imul (pc := 25) (v := nI (7 * k)) C (pk_mul _ _) dX6_meanHeight_25 ?_
      refine a_bipush (pc := 26) (v := nI 6) C cb_6 dX6_meanHeight_26 ?_
      refine a_iadd (pc := 28) (v := nI ((7 * k) + 6)) C (nI_add _ _) dX6_meanHeight_28 ?_
      refine a_iald (pc := 29) C 10 rfl (by omega) (by decide) dX6_meanHeight_29 ?_
      refine a_iadd (pc := 30) (v := (smS (fun v => fp (7 * v + 6)) k) + (fp ((7 * k) + 6))) C rfl dX6_meanHeight_30 ?_
      refine a_istoren (pc := 31) (L' := [(0, .ref (b 0)), (1, .int ((smS (fun v => fp (7 * v + 6)) k) + (fp ((7 * k) + 6)))), (2, .int (nI k))]) C (by decide) rfl rfl dX6_meanHeight_31 ?_
      refine a_iinc (pc := 32) (v := nI (k + 1)) (L' := [(0, .ref (b 0)), (1, .int ((smS (fun v => fp (7 * v + 6)) k) + (fp ((7 * k) + 6)))), (2, .int (nI (k + 1)))]) C 2 rfl (nI_inc _) (by decide) rfl dX6_meanHeight_32 ?_
      refine a_goto (pc := 35) (tgt := 9) C (by decide) dX6_meanHeight_35 ?_
      refine aw_L (L' := [(0, .ref (b 0)), (1, .int (smS (fun v => fp (7 * v + 6)) (k + 1))), (2, .int (nI (k + 1)))]) (congrArg (fun zz9 => ([(0, .ref (b 0)), (1, .int zz9), (2, .int (nI (k + 1)))] : List (Nat × Value))) (rfl : ((smS (fun v => fp (7 * v + 6)) k) + (fp ((7 * k) + 6))) = (smS (fun v => fp (7 * v + 6)) (k + 1)))) ?_
      exact ih (k + 1) (by omega)
  refine aw_L (L' := [(0, .ref (b 0)), (1, .int (smS (fun v => fp (7 * v + 6)) 0)), (2, .int (nI 0))]) (congrArg (fun zz9 => ([(0, .ref (b 0)), (1, .int zz9), (2, .int (nI 0))] : List (Nat × Value))) (rfl : (nI 0) = (smS (fun v => fp (7 * v + 6)) 0))) ?_
  exact LP9 (fn) (0) (by omega)
