set_option maxHeartbeats 4000000 in
set_option maxRecDepth 100000 in
theorem c_X3_append (κ : aK) (a : Nat → Nat) {n : Nat} {dug : Nat → Bool} {dtd : Nat → Bool} {so : Nat → Int32} {ph : Nat → Int32} {uf : Nat → Int32} {ul : Nat → Int32} {r : Nat} {ki : Nat → Int32} {lt : Nat → Nat} {er : Nat → Nat} {mz : Nat} {bd : Nat → Bool} {bo : Nat → Nat} {me : Nat → Nat → Bool} {dE : Nat → Nat → Bool} {eE : Nat → Nat → Bool} {lE : Nat → Nat → Bool} {li : Nat → Nat → Bool} {fB : Nat → Int32} {fA : Nat → Int32} {sL : Nat → Int32} {f : Nat} {fu : Nat → Nat} {fs : Nat → Int32} {ff : Nat → Int32} {fl : Nat → Int32} {xs : Nat → Int32} {ys : Nat → Int32} {zs : Nat → Int32} {oL : Nat → Int32} {oU : Nat → Int32} {lo : Nat → Int32} {up : Nat → Int32} {X : va_W} {kd : Int32} {x : Nat} {y : Nat} (hr : r < 80) : CM yX3_append cX3_append 4 none ({ frames := 0, cells := 0, slots := 0, locals := 0 } : Room) κ [.ref (a 2), .int kd, .int (nI x), .int (nI y)] (wC κ a n dug dtd so ph uf ul r ki lt er mz bd bo me dE eE lE li fB fA sL f fu fs ff fl xs ys zs oL oU lo up X) (aD none (wC κ a n dug dtd so ph uf ul (r + 1) (va_up ki r kd) (va_up lt r x) (va_up er r y) mz bd bo me dE eE lE li fB fA sL f fu fs ff fl xs ys zs oL oU lo up X)) := by
  refine cm_entry (own := RX3) (L := [(0, .ref (a 2)), (1, .int kd), (2, .int (nI x)), (3, .int (nI y))]) (by decide +kernel) rfl (lv_entry [.ref (a 2), .int kd, .int (nI x), .int (nI y)] (n := 4) (Nat.le_of_ble_eq_true rfl)) (fun g C E => ?_)
  refine a_aloadn (pc := 0) C 0 rfl rfl dX3_append_0 ?_
  refine a_get (pc := 1) C fl_X3_9 2 rfl rfl dX3_append_1 ?_
  refine a_aloadn (pc := 4) C 0 rfl rfl dX3_append_4 ?_
  refine a_get (pc := 5) C fl_X3_21 2 rfl rfl dX3_append_5 ?_
  refine a_iloadn (pc := 8) C 1 rfl rfl dX3_append_8 ?_
  refine a_iast (pc := 9) (ws' := wC κ a n dug dtd so ph uf ul r (va_up ki r kd) lt er mz bd bo me dE eE lE li fB fA sL f fu fs ff fl xs ys zs oL oU lo up X) C 10 rfl (by omega) (by decide) rfl rfl dX3_append_9 ?_
  refine a_aloadn (pc := 10) C 0 rfl rfl dX3_append_10 ?_
  refine a_get (pc := 11) C fl_X3_15 2 rfl rfl dX3_append_11 ?_
  refine a_aloadn (pc := 14) C 0 rfl rfl dX3_append_14 ?_
  refine a_get (pc := 15) C fl_X3_21 2 rfl rfl dX3_append_15 ?_
  refine a_iloadn (pc := 18) C 2 rfl rfl dX3_append_18 ?_
  refine a_iast (pc := 19) (ws' := wC κ a n dug dtd so ph uf ul r (va_up ki r kd) (va_up lt r x) er mz bd bo me dE eE lE li fB fA sL f fu fs ff fl xs ys zs oL oU lo up X) C 11 rfl (by omega) (by decide) (fN_up _ _ _) rfl dX3_append_19 ?_
  refine a_aloadn (pc := 20) C 0 rfl rfl dX3_append_20 ?_
  refine a_get (pc := 21) C fl_X3_18 2 rfl rfl dX3_append_21 ?_
  refine a_aloadn (pc := 24) C 0 rfl rfl dX3_append_24 ?_
  refine a_get (pc := 25) C fl_X3_21 2 rfl rfl dX3_append_25 ?_
  refine a_iloadn (pc := 28) C 3 rfl rfl dX3_append_28 ?_
  refine a_iast (pc := 29) (ws' := wC κ a n dug dtd so ph uf ul r (va_up ki r kd) (va_up lt r x) (va_up er r y) mz bd bo me dE eE lE li fB fA sL f fu fs ff fl xs ys zs oL oU lo up X) C 12 rfl (by omega) (by decide) (fN_up _ _ _) rfl dX3_append_29 ?_
  refine a_aloadn (pc := 30) C 0 rfl rfl dX3_append_30 ?_
  refine a_dup (pc := 31) C rfl dX3_append_31 ?_
  refine a_get (pc := 32) C fl_X3_21 2 rfl rfl dX3_append_32 ?_
  refine a_iconst (pc := 35) (v := nI 1) C ci_1 dX3_append_35 ?_
  refine a_iadd (pc := 36) (v := nI (r + 1)) C (nI_add _ _) dX3_append_36 ?_
  refine a_put (pc := 37) (ws' := wC κ a n dug dtd so ph uf ul (r + 1) (va_up ki r kd) (va_up lt r x) (va_up er r y) mz bd bo me dE eE lE li fB fA sL f fu fs ff fl xs ys zs oL oU lo up X) C fl_X3_21 fp_X3_0 2 rfl rfl rfl (Nat.le_of_ble_eq_true rfl) rfl dX3_append_37 ?_
  exact a_vret (pc := 40) C E (Nat.le_of_ble_eq_true rfl) (Nat.le_of_ble_eq_true rfl) ⟨rfl, rfl⟩ dX3_append_40
set_option maxHeartbeats 4000000 in
set_option maxRecDepth 100000 in
theorem c_X3_remove (κ : aK) (a : Nat → Nat) {n : Nat} {dug : Nat → Bool} {dtd : Nat → Bool} {so : Nat → Int32} {ph : Nat → Int32} {uf : Nat → Int32} {ul : Nat → Int32} {r : Nat} {ki : Nat → Int32} {lt : Nat → Nat} {er : Nat → Nat} {mz : Nat} {bd : Nat → Bool} {bo : Nat → Nat} {me : Nat → Nat → Bool} {dE : Nat → Nat → Bool} {eE : Nat → Nat → Bool} {lE : Nat → Nat → Bool} {li : Nat → Nat → Bool} {fB : Nat → Int32} {fA : Nat → Int32} {sL : Nat → Int32} {f : Nat} {fu : Nat → Nat} {fs : Nat → Int32} {ff : Nat → Int32} {fl : Nat → Int32} {xs : Nat → Int32} {ys : Nat → Int32} {zs : Nat → Int32} {oL : Nat → Int32} {oU : Nat → Int32} {lo : Nat → Int32} {up : Nat → Int32} {X : va_W} {j0 : Nat} (hr : r ≤ 80) (hj : j0 < r) : CM yX3_remove cX3_remove 3 none ({ frames := 0, cells := 0, slots := 0, locals := 0 } : Room) κ [.ref (a 2), .int (nI j0)] (wC κ a n dug dtd so ph uf ul r ki lt er mz bd bo me dE eE lE li fB fA sL f fu fs ff fl xs ys zs oL oU lo up X) (aD none (wC κ a n dug dtd so ph uf ul (r - 1) (sft ki j0 r) (sft lt j0 r) (sft er j0 r) mz bd bo me dE eE lE li fB fA sL f fu fs ff fl xs ys zs oL oU lo up X)) := by
  refine cm_entry (own := RX3) (L := [(0, .ref (a 2)), (1, .int (nI j0))]) (by decide +kernel) rfl (lv_entry [.ref (a 2), .int (nI j0)] (n := 3) (Nat.le_of_ble_eq_true rfl)) (fun g C E => ?_)
  refine a_iloadn (pc := 0) C 1 rfl rfl dX3_remove_0 ?_
  refine a_iconst (pc := 1) (v := nI 1) C ci_1 dX3_remove_1 ?_
  refine a_iadd (pc := 2) (v := nI (j0 + 1)) C (nI_add _ _) dX3_remove_2 ?_
  refine a_istoren (pc := 3) (L' := [(0, .ref (a 2)), (1, .int (nI j0)), (2, .int (nI (j0 + 1)))]) C (by decide) rfl rfl dX3_remove_3 ?_
  have LP4 : ∀ (jz k : Nat), k + jz = r → (j0 + 1 ≤ k) → aw g κ 3 4 [(0, .ref (a 2)), (1, .int (nI j0)), (2, .int (nI k))] [] (wC κ a n dug dtd so ph uf ul r (sft ki j0 k) (sft lt j0 k) (sft er j0 k) mz bd bo me dE eE lE li fB fA sL f fu fs ff fl xs ys zs oL oU lo up X) 0 0 := by
    intro jz
    induction jz with
    | zero =>
      intro k hk_k hjk
      obtain rfl : r = k := by omega
      refine a_iloadn (pc := 4) C 2 rfl rfl dX3_remove_4 ?_
      refine a_aloadn (pc := 5) C 0 rfl rfl dX3_remove_5 ?_
      refine a_get (pc := 6) C fl_X3_21 2 rfl rfl dX3_remove_6 ?_
      refine a_icn_ge_y (pc := 9) (tgt := 60) C (by omega) (by omega) (by omega) (by decide) dX3_remove_9 ?_
      refine a_aloadn (pc := 60) C 0 rfl rfl dX3_remove_60 ?_
      refine a_dup (pc := 61) C rfl dX3_remove_61 ?_
      refine a_get (pc := 62) C fl_X3_21 2 rfl rfl dX3_remove_62 ?_
      refine a_iconst (pc := 65) (v := nI 1) C ci_1 dX3_remove_65 ?_
      refine a_isub (pc := 66) (v := nI (r - 1)) C (pk_sub (by omega)) dX3_remove_66 ?_
      refine a_put (pc := 67) (ws' := wC κ a n dug dtd so ph uf ul (r - 1) (sft ki j0 r) (sft lt j0 r) (sft er j0 r) mz bd bo me dE eE lE li fB fA sL f fu fs ff fl xs ys zs oL oU lo up X) C fl_X3_21 fp_X3_0 2 rfl rfl rfl (Nat.le_of_ble_eq_true rfl) rfl dX3_remove_67 ?_
      exact a_vret (pc := 70) C E (Nat.le_of_ble_eq_true rfl) (Nat.le_of_ble_eq_true rfl) ⟨rfl, rfl⟩ dX3_remove_70
    | succ jz ih =>
      intro k hk_k hjk
      have hlt_k : k < r := by omega
      refine a_iloadn (pc := 4) C 2 rfl rfl dX3_remove_4 ?_
      refine a_aloadn (pc := 5) C 0 rfl rfl dX3_remove_5 ?_
      refine a_get (pc := 6) C fl_X3_21 2 rfl rfl dX3_remove_6 ?_
      refine a_icn_ge_n (pc := 9) C (by omega) (by omega) (by omega) dX3_remove_9 ⟨60, by decide⟩ ?_
      refine a_aloadn (pc := 12) C 0 rfl rfl dX3_remove_12 ?_
      refine a_get (pc := 13) C fl_X3_9 2 rfl rfl dX3_remove_13 ?_
      refine a_iloadn (pc := 16) C 2 rfl rfl dX3_remove_16 ?_
      refine a_iconst (pc := 17) (v := nI 1) C ci_1 dX3_remove_17 ?_
      refine a_isub (pc := 18) (v := nI (k - 1)) C (pk_sub (by omega)) dX3_remove_18 ?_
      refine a_aloadn (pc := 19) C 0 rfl rfl dX3_remove_19 ?_
      refine a_get (pc := 20) C fl_X3_9 2 rfl rfl dX3_remove_20 ?_
      refine a_iloadn (pc := 23) C 2 rfl rfl dX3_remove_23 ?_
      refine a_iald (pc := 24) C 10 rfl (by omega) (by decide) dX3_remove_24 ?_
      refine a_iast (pc := 25) (ws' := wC κ a n dug dtd so ph uf ul r (va_up (sft ki j0 k) (k - 1) ((sft ki j0 k) k)) (sft lt j0 k) (sft er j0 k) mz bd bo me dE eE lE li fB fA sL f fu fs ff fl xs ys zs oL oU lo up X) C 10 rfl (by omega) (by decide) rfl rfl dX3_remove_25 ?_
      refine a_aloadn (pc := 26) C 0 rfl rfl dX3_remove_26 ?_
      refine a_get (pc := 27) C fl_X3_15 2 rfl rfl dX3_remove_27 ?_
      refine a_iloadn (pc := 30) C 2 rfl rfl dX3_remove_30 ?_
      refine a_iconst (pc := 31) (v := nI 1) C ci_1 dX3_remove_31 ?_
      refine a_isub (pc := 32) (v := nI (k - 1)) C (pk_sub (by omega)) dX3_remove_32 ?_
      refine a_aloadn (pc := 33) C 0 rfl rfl dX3_remove_33 ?_
      refine a_get (pc := 34) C fl_X3_15 2 rfl rfl dX3_remove_34 ?_
      refine a_iloadn (pc := 37) C 2 rfl rfl dX3_remove_37 ?_
      refine a_ialdN (pc := 38) C 11 rfl (by omega) (by decide) dX3_remove_38 ?_
      refine a_iast (pc := 39) (ws' := wC κ a n dug dtd so ph uf ul r (va_up (sft ki j0 k) (k - 1) ((sft ki j0 k) k)) (va_up (sft lt j0 k) (k - 1) ((sft lt j0 k) k)) (sft er j0 k) mz bd bo me dE eE lE li fB fA sL f fu fs ff fl xs ys zs oL oU lo up X) C 11 rfl (by omega) (by decide) (fN_up _ _ _) rfl dX3_remove_39 ?_
      refine a_aloadn (pc := 40) C 0 rfl rfl dX3_remove_40 ?_
      refine a_get (pc := 41) C fl_X3_18 2 rfl rfl dX3_remove_41 ?_
      refine a_iloadn (pc := 44) C 2 rfl rfl dX3_remove_44 ?_
      refine a_iconst (pc := 45) (v := nI 1) C ci_1 dX3_remove_45 ?_
      refine a_isub (pc := 46) (v := nI (k - 1)) C (pk_sub (by omega)) dX3_remove_46 ?_
      refine a_aloadn (pc := 47) C 0 rfl rfl dX3_remove_47 ?_
      refine a_get (pc := 48) C fl_X3_18 2 rfl rfl dX3_remove_48 ?_
      refine a_iloadn (pc := 51) C 2 rfl rfl dX3_remove_51 ?_
      refine a_ialdN (pc := 52) C 12 rfl (by omega) (by decide) dX3_remove_52 ?_
      refine a_iast (pc := 53) (ws' := wC κ a n dug dtd so ph uf ul r (va_up (sft ki j0 k) (k - 1) ((sft ki j0 k) k)) (va_up (sft lt j0 k) (k - 1) ((sft lt j0 k) k)) (va_up (sft er j0 k) (k - 1) ((sft er j0 k) k)) mz bd bo me dE eE lE li fB fA sL f fu fs ff fl xs ys zs oL oU lo up X) C 12 rfl (by omega) (by decide) (fN_up _ _ _) rfl dX3_remove_53 ?_
      refine a_iinc (pc := 54) (v := nI (k + 1)) (L' := [(0, .ref (a 2)), (1, .int (nI j0)), (2, .int (nI (k + 1)))]) C 2 rfl (nI_inc _) (by decide) rfl dX3_remove_54 ?_
      refine a_goto (pc := 57) (tgt := 4) C (by decide) dX3_remove_57 ?_
      refine aw_eq (congrArg (fun zz9 => wC κ a n dug dtd so ph uf ul r zz9 (va_up (sft lt j0 k) (k - 1) ((sft lt j0 k) k)) (va_up (sft er j0 k) (k - 1) ((sft er j0 k) k)) mz bd bo me dE eE lE li fB fA sL f fu fs ff fl xs ys zs oL oU lo up X) (sft_s ki hjk : (va_up (sft ki j0 k) (k - 1) ((sft ki j0 k) k)) = (sft ki j0 (k + 1)))) ?_
      refine aw_eq (congrArg (fun zz9 => wC κ a n dug dtd so ph uf ul r (sft ki j0 (k + 1)) zz9 (va_up (sft er j0 k) (k - 1) ((sft er j0 k) k)) mz bd bo me dE eE lE li fB fA sL f fu fs ff fl xs ys zs oL oU lo up X) (sft_s lt hjk : (va_up (sft lt j0 k) (k - 1) ((sft lt j0 k) k)) = (sft lt j0 (k + 1)))) ?_
      refine aw_eq (congrArg (fun zz9 => wC κ a n dug dtd so ph uf ul r (sft ki j0 (k + 1)) (sft lt j0 (k + 1)) zz9 mz bd bo me dE eE lE li fB fA sL f fu fs ff fl xs ys zs oL oU lo up X) (sft_s er hjk : (va_up (sft er j0 k) (k - 1) ((sft er j0 k) k)) = (sft er j0 (k + 1)))) ?_
      exact ih (k + 1) (by omega) (Nat.le_succ_of_le hjk)
  refine aw_eq (congrArg (fun zz9 => wC κ a n dug dtd so ph uf ul r zz9 lt er mz bd bo me dE eE lE li fB fA sL f fu fs ff fl xs ys zs oL oU lo up X) ((sft_0 _ _).symm : ki = (sft ki j0 (j0 + 1)))) ?_
  refine aw_eq (congrArg (fun zz9 => wC κ a n dug dtd so ph uf ul r (sft ki j0 (j0 + 1)) zz9 er mz bd bo me dE eE lE li fB fA sL f fu fs ff fl xs ys zs oL oU lo up X) ((sft_0 _ _).symm : lt = (sft lt j0 (j0 + 1)))) ?_
  refine aw_eq (congrArg (fun zz9 => wC κ a n dug dtd so ph uf ul r (sft ki j0 (j0 + 1)) (sft lt j0 (j0 + 1)) zz9 mz bd bo me dE eE lE li fB fA sL f fu fs ff fl xs ys zs oL oU lo up X) ((sft_0 _ _).symm : er = (sft er j0 (j0 + 1)))) ?_
  exact LP4 (r - (j0 + 1)) (j0 + 1) (by omega) (Nat.le_refl _)
set_option maxHeartbeats 4000000 in
set_option maxRecDepth 100000 in
theorem c_X3_isTold (κ : aK) (a : Nat → Nat) {n : Nat} {dug : Nat → Bool} {dtd : Nat → Bool} {so : Nat → Int32} {ph : Nat → Int32} {uf : Nat → Int32} {ul : Nat → Int32} {r : Nat} {ki : Nat → Int32} {lt : Nat → Nat} {er : Nat → Nat} {mz : Nat} {bd : Nat → Bool} {bo : Nat → Nat} {me : Nat → Nat → Bool} {dE : Nat → Nat → Bool} {eE : Nat → Nat → Bool} {lE : Nat → Nat → Bool} {li : Nat → Nat → Bool} {fB : Nat → Int32} {fA : Nat → Int32} {sL : Nat → Int32} {f : Nat} {fu : Nat → Nat} {fs : Nat → Int32} {ff : Nat → Int32} {fl : Nat → Int32} {xs : Nat → Int32} {ys : Nat → Int32} {zs : Nat → Int32} {oL : Nat → Int32} {oU : Nat → Int32} {lo : Nat → Int32} {up : Nat → Int32} {X : va_W} {kd : Int32} {x : Nat} {y : Nat} (hr : r ≤ 80) (hlt : ∀ u, lt u < 40) (her : ∀ u, er u < 40) (hx : x < 40) (hy : y < 40) : CM yX3_isTold cX3_isTold 7 (some .boolean) ({ frames := 0, cells := 0, slots := 0, locals := 0 } : Room) κ [.ref (a 2), .int kd, .int (nI x), .int (nI y)] (wC κ a n dug dtd so ph uf ul r ki lt er mz bd bo me dE eE lE li fB fA sL f fu fs ff fl xs ys zs oL oU lo up X) (aD (some (.int (b2i (anyB (toldP ki lt er kd x y) r)))) (wC κ a n dug dtd so ph uf ul r ki lt er mz bd bo me dE eE lE li fB fA sL f fu fs ff fl xs ys zs oL oU lo up X)) := by
  refine cm_entry (own := RX3) (L := [(0, .ref (a 2)), (1, .int kd), (2, .int (nI x)), (3, .int (nI y))]) (by decide +kernel) rfl (lv_entry [.ref (a 2), .int kd, .int (nI x), .int (nI y)] (n := 7) (Nat.le_of_ble_eq_true rfl)) (fun g C E => ?_)
  refine a_iconst (pc := 0) (v := nI 0) C ci_0 dX3_isTold_0 ?_
  refine a_istore (pc := 1) (L' := [(0, .ref (a 2)), (1, .int kd), (2, .int (nI x)), (3, .int (nI y)), (4, .int (nI 0))]) C (by decide) rfl dX3_isTold_1 ?_
  have LP3 : ∀ (jz k : Nat), k + jz = r → (anyB (toldP ki lt er kd x y) k = false) → aw g κ 7 3 [(0, .ref (a 2)), (1, .int kd), (2, .int (nI x)), (3, .int (nI y)), (4, .int (nI k))] [] (wC κ a n dug dtd so ph uf ul r ki lt er mz bd bo me dE eE lE li fB fA sL f fu fs ff fl xs ys zs oL oU lo up X) 0 0 := by
    intro jz
    induction jz with
    | zero =>
      intro k hk_k hno
      obtain rfl : r = k := by omega
      refine a_iload (pc := 3) C 4 rfl dX3_isTold_3 ?_
      refine a_aloadn (pc := 5) C 0 rfl rfl dX3_isTold_5 ?_
      refine a_get (pc := 6) C fl_X3_21 2 rfl rfl dX3_isTold_6 ?_
      refine a_icn_ge_y (pc := 9) (tgt := 104) C (by omega) (by omega) (by omega) (by decide) dX3_isTold_9 ?_
      refine a_iconst (pc := 104) (v := nI 0) C ci_0 dX3_isTold_104 ?_
      exact a_zret (pc := 105) (b := false) C E (Nat.le_of_ble_eq_true rfl) (Nat.le_of_ble_eq_true rfl) (by decide +kernel) ⟨by rw [hno], rfl⟩ dX3_isTold_105
    | succ jz ih =>
      intro k hk_k hno
      have hlt_k : k < r := by omega
      have hlk := hlt k
      have hek := her k
      refine a_iload (pc := 3) C 4 rfl dX3_isTold_3 ?_
      refine a_aloadn (pc := 5) C 0 rfl rfl dX3_isTold_5 ?_
      refine a_get (pc := 6) C fl_X3_21 2 rfl rfl dX3_isTold_6 ?_
      refine a_icn_ge_n (pc := 9) C (by omega) (by omega) (by omega) dX3_isTold_9 ⟨104, by decide⟩ ?_
      refine a_aloadn (pc := 12) C 0 rfl rfl dX3_isTold_12 ?_
      refine a_get (pc := 13) C fl_X3_9 2 rfl rfl dX3_isTold_13 ?_
      refine a_iload (pc := 16) C 4 rfl dX3_isTold_16 ?_
      refine a_iald (pc := 18) C 10 rfl (by omega) (by decide) dX3_isTold_18 ?_
      refine a_iloadn (pc := 19) C 1 rfl rfl dX3_isTold_19 ?_
      refine a_ic_ne (pc := 20) (tgt := 98) C (by decide) dX3_isTold_20 (fun c1 => ?_) (fun c1 => ?_)
      · refine a_iinc (pc := 98) (v := nI (k + 1)) (L' := [(0, .ref (a 2)), (1, .int kd), (2, .int (nI x)), (3, .int (nI y)), (4, .int (nI (k + 1)))]) C 4 rfl (nI_inc _) (by decide) rfl dX3_isTold_98 ?_
        refine a_goto (pc := 101) (tgt := 3) C (by decide) dX3_isTold_101 ?_
        exact ih (k + 1) (by omega) (anyB_mis hno (by simp only [toldP, decide_eq_false c1, Bool.and_false, Bool.false_and, Bool.or_false, Bool.false_or, Bool.true_and, Bool.and_true, Bool.or_true, Bool.true_or, Bool.or_self, Bool.and_self]))
      · refine a_aloadn (pc := 23) C 0 rfl rfl dX3_isTold_23 ?_
        refine a_get (pc := 24) C fl_X3_15 2 rfl rfl dX3_isTold_24 ?_
        refine a_iload (pc := 27) C 4 rfl dX3_isTold_27 ?_
        refine a_ialdN (pc := 29) C 11 rfl (by omega) (by decide) dX3_isTold_29 ?_
        refine a_iloadn (pc := 30) C 2 rfl rfl dX3_isTold_30 ?_
        refine a_icn_ne (pc := 31) (tgt := 49) C (by omega) (by omega) (by decide) dX3_isTold_31 (fun c2 => ?_) (fun c2 => ?_)
        · refine a_iconst (pc := 49) (v := nI 0) C ci_0 dX3_isTold_49 ?_
          refine a_istore (pc := 50) (L' := [(0, .ref (a 2)), (1, .int kd), (2, .int (nI x)), (3, .int (nI y)), (4, .int (nI k)), (5, .int (nI 0))]) C (by decide) rfl dX3_isTold_50 ?_
          refine a_aloadn (pc := 52) C 0 rfl rfl dX3_isTold_52 ?_
          refine a_get (pc := 53) C fl_X3_15 2 rfl rfl dX3_isTold_53 ?_
          refine a_iload (pc := 56) C 4 rfl dX3_isTold_56 ?_
          refine a_ialdN (pc := 58) C 11 rfl (by omega) (by decide) dX3_isTold_58 ?_
          refine a_iloadn (pc := 59) C 3 rfl rfl dX3_isTold_59 ?_
          refine a_icn_ne (pc := 60) (tgt := 78) C (by omega) (by omega) (by decide) dX3_isTold_60 (fun c3 => ?_) (fun c3 => ?_)
          · refine a_iconst (pc := 78) (v := nI 0) C ci_0 dX3_isTold_78 ?_
            refine a_istore (pc := 79) (L' := [(0, .ref (a 2)), (1, .int kd), (2, .int (nI x)), (3, .int (nI y)), (4, .int (nI k)), (5, .int (nI 0)), (6, .int (nI 0))]) C (by decide) rfl dX3_isTold_79 ?_
            refine a_iload (pc := 81) C 5 rfl dX3_isTold_81 ?_
            refine a_ifn_ne_n (pc := 83) C (by omega) (by decide) dX3_isTold_83 ⟨96, by decide⟩ ?_
            refine a_iloadn (pc := 86) C 1 rfl rfl dX3_isTold_86 ?_
            refine a_iconst (pc := 87) (v := nI 4) C ci_4 dX3_isTold_87 ?_
            refine a_ic_ne (pc := 88) (tgt := 98) C (by decide) dX3_isTold_88 (fun c4 => ?_) (fun c4 => ?_)
            · refine a_iinc (pc := 98) (v := nI (k + 1)) (L' := [(0, .ref (a 2)), (1, .int kd), (2, .int (nI x)), (3, .int (nI y)), (4, .int (nI (k + 1))), (5, .int (nI 0)), (6, .int (nI 0))]) C 4 rfl (nI_inc _) (by decide) rfl dX3_isTold_98 ?_
              refine a_goto (pc := 101) (tgt := 3) C (by decide) dX3_isTold_101 ?_
              refine aw_locals (L' := [(0, .ref (a 2)), (1, .int kd), (2, .int (nI x)), (3, .int (nI y)), (4, .int (nI (k + 1)))]) [0, 1, 2, 3, 4] rfl ?_
              exact ih (k + 1) (by omega) (anyB_mis hno (by simp only [toldP, decide_eq_true c1, decide_eq_false c2, decide_eq_false c3, decide_eq_false c4, Bool.and_false, Bool.false_and, Bool.or_false, Bool.false_or, Bool.true_and, Bool.and_true, Bool.or_true, Bool.true_or, Bool.or_self, Bool.and_self]))
            · refine a_iload (pc := 91) C 6 rfl dX3_isTold_91 ?_
              refine a_ifn_eq_y (pc := 93) (tgt := 98) C (by omega) (by decide) (by decide) dX3_isTold_93 ?_
              refine a_iinc (pc := 98) (v := nI (k + 1)) (L' := [(0, .ref (a 2)), (1, .int kd), (2, .int (nI x)), (3, .int (nI y)), (4, .int (nI (k + 1))), (5, .int (nI 0)), (6, .int (nI 0))]) C 4 rfl (nI_inc _) (by decide) rfl dX3_isTold_98 ?_
              refine a_goto (pc := 101) (tgt := 3) C (by decide) dX3_isTold_101 ?_
              refine aw_locals (L' := [(0, .ref (a 2)), (1, .int kd), (2, .int (nI x)), (3, .int (nI y)), (4, .int (nI (k + 1)))]) [0, 1, 2, 3, 4] rfl ?_
              exact ih (k + 1) (by omega) (anyB_mis hno (by simp only [toldP, decide_eq_true c1, decide_eq_false c2, decide_eq_false c3, decide_eq_true c4, Bool.and_false, Bool.false_and, Bool.or_false, Bool.false_or, Bool.true_and, Bool.and_true, Bool.or_true, Bool.true_or, Bool.or_self, Bool.and_self]))
          · refine a_aloadn (pc := 63) C 0 rfl rfl dX3_isTold_63 ?_
            refine a_get (pc := 64) C fl_X3_18 2 rfl rfl dX3_isTold_64 ?_
            refine a_iload (pc := 67) C 4 rfl dX3_isTold_67 ?_
            refine a_ialdN (pc := 69) C 12 rfl (by omega) (by decide) dX3_isTold_69 ?_
            refine a_iloadn (pc := 70) C 2 rfl rfl dX3_isTold_70 ?_
            refine a_icn_ne (pc := 71) (tgt := 78) C (by omega) (by omega) (by decide) dX3_isTold_71 (fun c5 => ?_) (fun c5 => ?_)
            · refine a_iconst (pc := 78) (v := nI 0) C ci_0 dX3_isTold_78 ?_
              refine a_istore (pc := 79) (L' := [(0, .ref (a 2)), (1, .int kd), (2, .int (nI x)), (3, .int (nI y)), (4, .int (nI k)), (5, .int (nI 0)), (6, .int (nI 0))]) C (by decide) rfl dX3_isTold_79 ?_
              refine a_iload (pc := 81) C 5 rfl dX3_isTold_81 ?_
              refine a_ifn_ne_n (pc := 83) C (by omega) (by decide) dX3_isTold_83 ⟨96, by decide⟩ ?_
              refine a_iloadn (pc := 86) C 1 rfl rfl dX3_isTold_86 ?_
              refine a_iconst (pc := 87) (v := nI 4) C ci_4 dX3_isTold_87 ?_
              refine a_ic_ne (pc := 88) (tgt := 98) C (by decide) dX3_isTold_88 (fun c6 => ?_) (fun c6 => ?_)
              · refine a_iinc (pc := 98) (v := nI (k + 1)) (L' := [(0, .ref (a 2)), (1, .int kd), (2, .int (nI x)), (3, .int (nI y)), (4, .int (nI (k + 1))), (5, .int (nI 0)), (6, .int (nI 0))]) C 4 rfl (nI_inc _) (by decide) rfl dX3_isTold_98 ?_
                refine a_goto (pc := 101) (tgt := 3) C (by decide) dX3_isTold_101 ?_
                refine aw_locals (L' := [(0, .ref (a 2)), (1, .int kd), (2, .int (nI x)), (3, .int (nI y)), (4, .int (nI (k + 1)))]) [0, 1, 2, 3, 4] rfl ?_
                exact ih (k + 1) (by omega) (anyB_mis hno (by simp only [toldP, decide_eq_true c1, decide_eq_false c2, decide_eq_true c3, decide_eq_false c5, decide_eq_false c6, Bool.and_false, Bool.false_and, Bool.or_false, Bool.false_or, Bool.true_and, Bool.and_true, Bool.or_true, Bool.true_or, Bool.or_self, Bool.and_self]))
              · refine a_iload (pc := 91) C 6 rfl dX3_isTold_91 ?_
                refine a_ifn_eq_y (pc := 93) (tgt := 98) C (by omega) (by decide) (by decide) dX3_isTold_93 ?_
                refine a_iinc (pc := 98) (v := nI (k + 1)) (L' := [(0, .ref (a 2)), (1, .int kd), (2, .int (nI x)), (3, .int (nI y)), (4, .int (nI (k + 1))), (5, .int (nI 0)), (6, .int (nI 0))]) C 4 rfl (nI_inc _) (by decide) rfl dX3_isTold_98 ?_
                refine a_goto (pc := 101) (tgt := 3) C (by decide) dX3_isTold_101 ?_
                refine aw_locals (L' := [(0, .ref (a 2)), (1, .int kd), (2, .int (nI x)), (3, .int (nI y)), (4, .int (nI (k + 1)))]) [0, 1, 2, 3, 4] rfl ?_
                exact ih (k + 1) (by omega) (anyB_mis hno (by simp only [toldP, decide_eq_true c1, decide_eq_false c2, decide_eq_true c3, decide_eq_false c5, decide_eq_true c6, Bool.and_false, Bool.false_and, Bool.or_false, Bool.false_or, Bool.true_and, Bool.and_true, Bool.or_true, Bool.true_or, Bool.or_self, Bool.and_self]))
            · refine a_iconst (pc := 74) (v := nI 1) C ci_1 dX3_isTold_74 ?_
              refine a_goto (pc := 75) (tgt := 79) C (by decide) dX3_isTold_75 ?_
              refine a_istore (pc := 79) (L' := [(0, .ref (a 2)), (1, .int kd), (2, .int (nI x)), (3, .int (nI y)), (4, .int (nI k)), (5, .int (nI 0)), (6, .int (nI 1))]) C (by decide) rfl dX3_isTold_79 ?_
              refine a_iload (pc := 81) C 5 rfl dX3_isTold_81 ?_
              refine a_ifn_ne_n (pc := 83) C (by omega) (by decide) dX3_isTold_83 ⟨96, by decide⟩ ?_
              refine a_iloadn (pc := 86) C 1 rfl rfl dX3_isTold_86 ?_
              refine a_iconst (pc := 87) (v := nI 4) C ci_4 dX3_isTold_87 ?_
              refine a_ic_ne (pc := 88) (tgt := 98) C (by decide) dX3_isTold_88 (fun c7 => ?_) (fun c7 => ?_)
              · refine a_iinc (pc := 98) (v := nI (k + 1)) (L' := [(0, .ref (a 2)), (1, .int kd), (2, .int (nI x)), (3, .int (nI y)), (4, .int (nI (k + 1))), (5, .int (nI 0)), (6, .int (nI 1))]) C 4 rfl (nI_inc _) (by decide) rfl dX3_isTold_98 ?_
                refine a_goto (pc := 101) (tgt := 3) C (by decide) dX3_isTold_101 ?_
                refine aw_locals (L' := [(0, .ref (a 2)), (1, .int kd), (2, .int (nI x)), (3, .int (nI y)), (4, .int (nI (k + 1)))]) [0, 1, 2, 3, 4] rfl ?_
                exact ih (k + 1) (by omega) (anyB_mis hno (by simp only [toldP, decide_eq_true c1, decide_eq_false c2, decide_eq_true c3, decide_eq_true c5, decide_eq_false c7, Bool.and_false, Bool.false_and, Bool.or_false, Bool.false_or, Bool.true_and, Bool.and_true, Bool.or_true, Bool.true_or, Bool.or_self, Bool.and_self]))
              · refine a_iload (pc := 91) C 6 rfl dX3_isTold_91 ?_
                refine a_ifn_eq_n (pc := 93) C (by omega) (by decide) dX3_isTold_93 ⟨98, by decide⟩ ?_
                refine a_iconst (pc := 96) (v := nI 1) C ci_1 dX3_isTold_96 ?_
                exact a_zret (pc := 97) (b := true) C E (Nat.le_of_ble_eq_true rfl) (Nat.le_of_ble_eq_true rfl) (by decide +kernel) ⟨by rw [anyB_hit (p := toldP ki lt er kd x y) hlt_k (by simp only [toldP, decide_eq_true c1, decide_eq_false c2, decide_eq_true c3, decide_eq_true c5, decide_eq_true c7, Bool.and_false, Bool.false_and, Bool.or_false, Bool.false_or, Bool.true_and, Bool.and_true, Bool.or_true, Bool.true_or, Bool.or_self, Bool.and_self])], rfl⟩ dX3_isTold_97
        · refine a_aloadn (pc := 34) C 0 rfl rfl dX3_isTold_34 ?_
          refine a_get (pc := 35) C fl_X3_18 2 rfl rfl dX3_isTold_35 ?_
          refine a_iload (pc := 38) C 4 rfl dX3_isTold_38 ?_
          refine a_ialdN (pc := 40) C 12 rfl (by omega) (by decide) dX3_isTold_40 ?_
          refine a_iloadn (pc := 41) C 3 rfl rfl dX3_isTold_41 ?_
          refine a_icn_ne (pc := 42) (tgt := 49) C (by omega) (by omega) (by decide) dX3_isTold_42 (fun c8 => ?_) (fun c8 => ?_)
          · refine a_iconst (pc := 49) (v := nI 0) C ci_0 dX3_isTold_49 ?_
            refine a_istore (pc := 50) (L' := [(0, .ref (a 2)), (1, .int kd), (2, .int (nI x)), (3, .int (nI y)), (4, .int (nI k)), (5, .int (nI 0))]) C (by decide) rfl dX3_isTold_50 ?_
            refine a_aloadn (pc := 52) C 0 rfl rfl dX3_isTold_52 ?_
            refine a_get (pc := 53) C fl_X3_15 2 rfl rfl dX3_isTold_53 ?_
            refine a_iload (pc := 56) C 4 rfl dX3_isTold_56 ?_
            refine a_ialdN (pc := 58) C 11 rfl (by omega) (by decide) dX3_isTold_58 ?_
            refine a_iloadn (pc := 59) C 3 rfl rfl dX3_isTold_59 ?_
            refine a_icn_ne (pc := 60) (tgt := 78) C (by omega) (by omega) (by decide) dX3_isTold_60 (fun c9 => ?_) (fun c9 => ?_)
            · refine a_iconst (pc := 78) (v := nI 0) C ci_0 dX3_isTold_78 ?_
              refine a_istore (pc := 79) (L' := [(0, .ref (a 2)), (1, .int kd), (2, .int (nI x)), (3, .int (nI y)), (4, .int (nI k)), (5, .int (nI 0)), (6, .int (nI 0))]) C (by decide) rfl dX3_isTold_79 ?_
              refine a_iload (pc := 81) C 5 rfl dX3_isTold_81 ?_
              refine a_ifn_ne_n (pc := 83) C (by omega) (by decide) dX3_isTold_83 ⟨96, by decide⟩ ?_
              refine a_iloadn (pc := 86) C 1 rfl rfl dX3_isTold_86 ?_
              refine a_iconst (pc := 87) (v := nI 4) C ci_4 dX3_isTold_87 ?_
              refine a_ic_ne (pc := 88) (tgt := 98) C (by decide) dX3_isTold_88 (fun c10 => ?_) (fun c10 => ?_)
              · refine a_iinc (pc := 98) (v := nI (k + 1)) (L' := [(0, .ref (a 2)), (1, .int kd), (2, .int (nI x)), (3, .int (nI y)), (4, .int (nI (k + 1))), (5, .int (nI 0)), (6, .int (nI 0))]) C 4 rfl (nI_inc _) (by decide) rfl dX3_isTold_98 ?_
                refine a_goto (pc := 101) (tgt := 3) C (by decide) dX3_isTold_101 ?_
                refine aw_locals (L' := [(0, .ref (a 2)), (1, .int kd), (2, .int (nI x)), (3, .int (nI y)), (4, .int (nI (k + 1)))]) [0, 1, 2, 3, 4] rfl ?_
                exact ih (k + 1) (by omega) (anyB_mis hno (by simp only [toldP, decide_eq_true c1, decide_eq_true c2, decide_eq_false c8, decide_eq_false c9, decide_eq_false c10, Bool.and_false, Bool.false_and, Bool.or_false, Bool.false_or, Bool.true_and, Bool.and_true, Bool.or_true, Bool.true_or, Bool.or_self, Bool.and_self]))
              · refine a_iload (pc := 91) C 6 rfl dX3_isTold_91 ?_
                refine a_ifn_eq_y (pc := 93) (tgt := 98) C (by omega) (by decide) (by decide) dX3_isTold_93 ?_
                refine a_iinc (pc := 98) (v := nI (k + 1)) (L' := [(0, .ref (a 2)), (1, .int kd), (2, .int (nI x)), (3, .int (nI y)), (4, .int (nI (k + 1))), (5, .int (nI 0)), (6, .int (nI 0))]) C 4 rfl (nI_inc _) (by decide) rfl dX3_isTold_98 ?_
                refine a_goto (pc := 101) (tgt := 3) C (by decide) dX3_isTold_101 ?_
                refine aw_locals (L' := [(0, .ref (a 2)), (1, .int kd), (2, .int (nI x)), (3, .int (nI y)), (4, .int (nI (k + 1)))]) [0, 1, 2, 3, 4] rfl ?_
                exact ih (k + 1) (by omega) (anyB_mis hno (by simp only [toldP, decide_eq_true c1, decide_eq_true c2, decide_eq_false c8, decide_eq_false c9, decide_eq_true c10, Bool.and_false, Bool.false_and, Bool.or_false, Bool.false_or, Bool.true_and, Bool.and_true, Bool.or_true, Bool.true_or, Bool.or_self, Bool.and_self]))
            · refine a_aloadn (pc := 63) C 0 rfl rfl dX3_isTold_63 ?_
              refine a_get (pc := 64) C fl_X3_18 2 rfl rfl dX3_isTold_64 ?_
              refine a_iload (pc := 67) C 4 rfl dX3_isTold_67 ?_
              refine a_ialdN (pc := 69) C 12 rfl (by omega) (by decide) dX3_isTold_69 ?_
              refine a_iloadn (pc := 70) C 2 rfl rfl dX3_isTold_70 ?_
              refine a_icn_ne (pc := 71) (tgt := 78) C (by omega) (by omega) (by decide) dX3_isTold_71 (fun c11 => ?_) (fun c11 => ?_)
              · refine a_iconst (pc := 78) (v := nI 0) C ci_0 dX3_isTold_78 ?_
                refine a_istore (pc := 79) (L' := [(0, .ref (a 2)), (1, .int kd), (2, .int (nI x)), (3, .int (nI y)), (4, .int (nI k)), (5, .int (nI 0)), (6, .int (nI 0))]) C (by decide) rfl dX3_isTold_79 ?_
                refine a_iload (pc := 81) C 5 rfl dX3_isTold_81 ?_
                refine a_ifn_ne_n (pc := 83) C (by omega) (by decide) dX3_isTold_83 ⟨96, by decide⟩ ?_
                refine a_iloadn (pc := 86) C 1 rfl rfl dX3_isTold_86 ?_
                refine a_iconst (pc := 87) (v := nI 4) C ci_4 dX3_isTold_87 ?_
                refine a_ic_ne (pc := 88) (tgt := 98) C (by decide) dX3_isTold_88 (fun c12 => ?_) (fun c12 => ?_)
                · refine a_iinc (pc := 98) (v := nI (k + 1)) (L' := [(0, .ref (a 2)), (1, .int kd), (2, .int (nI x)), (3, .int (nI y)), (4, .int (nI (k + 1))), (5, .int (nI 0)), (6, .int (nI 0))]) C 4 rfl (nI_inc _) (by decide) rfl dX3_isTold_98 ?_
                  refine a_goto (pc := 101) (tgt := 3) C (by decide) dX3_isTold_101 ?_
                  refine aw_locals (L' := [(0, .ref (a 2)), (1, .int kd), (2, .int (nI x)), (3, .int (nI y)), (4, .int (nI (k + 1)))]) [0, 1, 2, 3, 4] rfl ?_
                  exact ih (k + 1) (by omega) (anyB_mis hno (by simp only [toldP, decide_eq_true c1, decide_eq_true c2, decide_eq_false c8, decide_eq_true c9, decide_eq_false c11, decide_eq_false c12, Bool.and_false, Bool.false_and, Bool.or_false, Bool.false_or, Bool.true_and, Bool.and_true, Bool.or_true, Bool.true_or, Bool.or_self, Bool.and_self]))
                · refine a_iload (pc := 91) C 6 rfl dX3_isTold_91 ?_
                  refine a_ifn_eq_y (pc := 93) (tgt := 98) C (by omega) (by decide) (by decide) dX3_isTold_93 ?_
                  refine a_iinc (pc := 98) (v := nI (k + 1)) (L' := [(0, .ref (a 2)), (1, .int kd), (2, .int (nI x)), (3, .int (nI y)), (4, .int (nI (k + 1))), (5, .int (nI 0)), (6, .int (nI 0))]) C 4 rfl (nI_inc _) (by decide) rfl dX3_isTold_98 ?_
                  refine a_goto (pc := 101) (tgt := 3) C (by decide) dX3_isTold_101 ?_
                  refine aw_locals (L' := [(0, .ref (a 2)), (1, .int kd), (2, .int (nI x)), (3, .int (nI y)), (4, .int (nI (k + 1)))]) [0, 1, 2, 3, 4] rfl ?_
                  exact ih (k + 1) (by omega) (anyB_mis hno (by simp only [toldP, decide_eq_true c1, decide_eq_true c2, decide_eq_false c8, decide_eq_true c9, decide_eq_false c11, decide_eq_true c12, Bool.and_false, Bool.false_and, Bool.or_false, Bool.false_or, Bool.true_and, Bool.and_true, Bool.or_true, Bool.true_or, Bool.or_self, Bool.and_self]))
              · refine a_iconst (pc := 74) (v := nI 1) C ci_1 dX3_isTold_74 ?_
                refine a_goto (pc := 75) (tgt := 79) C (by decide) dX3_isTold_75 ?_
                refine a_istore (pc := 79) (L' := [(0, .ref (a 2)), (1, .int kd), (2, .int (nI x)), (3, .int (nI y)), (4, .int (nI k)), (5, .int (nI 0)), (6, .int (nI 1))]) C (by decide) rfl dX3_isTold_79 ?_
                refine a_iload (pc := 81) C 5 rfl dX3_isTold_81 ?_
                refine a_ifn_ne_n (pc := 83) C (by omega) (by decide) dX3_isTold_83 ⟨96, by decide⟩ ?_
                refine a_iloadn (pc := 86) C 1 rfl rfl dX3_isTold_86 ?_
                refine a_iconst (pc := 87) (v := nI 4) C ci_4 dX3_isTold_87 ?_
                refine a_ic_ne (pc := 88) (tgt := 98) C (by decide) dX3_isTold_88 (fun c13 => ?_) (fun c13 => ?_)
                · refine a_iinc (pc := 98) (v := nI (k + 1)) (L' := [(0, .ref (a 2)), (1, .int kd), (2, .int (nI x)), (3, .int (nI y)), (4, .int (nI (k + 1))), (5, .int (nI 0)), (6, .int (nI 1))]) C 4 rfl (nI_inc _) (by decide) rfl dX3_isTold_98 ?_
                  refine a_goto (pc := 101) (tgt := 3) C (by decide) dX3_isTold_101 ?_
                  refine aw_locals (L' := [(0, .ref (a 2)), (1, .int kd), (2, .int (nI x)), (3, .int (nI y)), (4, .int (nI (k + 1)))]) [0, 1, 2, 3, 4] rfl ?_
                  exact ih (k + 1) (by omega) (anyB_mis hno (by simp only [toldP, decide_eq_true c1, decide_eq_true c2, decide_eq_false c8, decide_eq_true c9, decide_eq_true c11, decide_eq_false c13, Bool.and_false, Bool.false_and, Bool.or_false, Bool.false_or, Bool.true_and, Bool.and_true, Bool.or_true, Bool.true_or, Bool.or_self, Bool.and_self]))
                · refine a_iload (pc := 91) C 6 rfl dX3_isTold_91 ?_
                  refine a_ifn_eq_n (pc := 93) C (by omega) (by decide) dX3_isTold_93 ⟨98, by decide⟩ ?_
                  refine a_iconst (pc := 96) (v := nI 1) C ci_1 dX3_isTold_96 ?_
                  exact a_zret (pc := 97) (b := true) C E (Nat.le_of_ble_eq_true rfl) (Nat.le_of_ble_eq_true rfl) (by decide +kernel) ⟨by rw [anyB_hit (p := toldP ki lt er kd x y) hlt_k (by simp only [toldP, decide_eq_true c1, decide_eq_true c2, decide_eq_false c8, decide_eq_true c9, decide_eq_true c11, decide_eq_true c13, Bool.and_false, Bool.false_and, Bool.or_false, Bool.false_or, Bool.true_and, Bool.and_true, Bool.or_true, Bool.true_or, Bool.or_self, Bool.and_self])], rfl⟩ dX3_isTold_97
          · refine a_iconst (pc := 45) (v := nI 1) C ci_1 dX3_isTold_45 ?_
            refine a_goto (pc := 46) (tgt := 50) C (by decide) dX3_isTold_46 ?_
            refine a_istore (pc := 50) (L' := [(0, .ref (a 2)), (1, .int kd), (2, .int (nI x)), (3, .int (nI y)), (4, .int (nI k)), (5, .int (nI 1))]) C (by decide) rfl dX3_isTold_50 ?_
            refine a_aloadn (pc := 52) C 0 rfl rfl dX3_isTold_52 ?_
            refine a_get (pc := 53) C fl_X3_15 2 rfl rfl dX3_isTold_53 ?_
            refine a_iload (pc := 56) C 4 rfl dX3_isTold_56 ?_
            refine a_ialdN (pc := 58) C 11 rfl (by omega) (by decide) dX3_isTold_58 ?_
            refine a_iloadn (pc := 59) C 3 rfl rfl dX3_isTold_59 ?_
            refine a_icn_ne (pc := 60) (tgt := 78) C (by omega) (by omega) (by decide) dX3_isTold_60 (fun c14 => ?_) (fun c14 => ?_)
            · refine a_iconst (pc := 78) (v := nI 0) C ci_0 dX3_isTold_78 ?_
              refine a_istore (pc := 79) (L' := [(0, .ref (a 2)), (1, .int kd), (2, .int (nI x)), (3, .int (nI y)), (4, .int (nI k)), (5, .int (nI 1)), (6, .int (nI 0))]) C (by decide) rfl dX3_isTold_79 ?_
              refine a_iload (pc := 81) C 5 rfl dX3_isTold_81 ?_
              refine a_ifn_ne_y (pc := 83) (tgt := 96) C (by omega) (by decide) (by decide) dX3_isTold_83 ?_
              refine a_iconst (pc := 96) (v := nI 1) C ci_1 dX3_isTold_96 ?_
              exact a_zret (pc := 97) (b := true) C E (Nat.le_of_ble_eq_true rfl) (Nat.le_of_ble_eq_true rfl) (by decide +kernel) ⟨by rw [anyB_hit (p := toldP ki lt er kd x y) hlt_k (by simp only [toldP, decide_eq_true c1, decide_eq_true c2, decide_eq_true c8, decide_eq_false c14, Bool.and_false, Bool.false_and, Bool.or_false, Bool.false_or, Bool.true_and, Bool.and_true, Bool.or_true, Bool.true_or, Bool.or_self, Bool.and_self])], rfl⟩ dX3_isTold_97
            · refine a_aloadn (pc := 63) C 0 rfl rfl dX3_isTold_63 ?_
              refine a_get (pc := 64) C fl_X3_18 2 rfl rfl dX3_isTold_64 ?_
              refine a_iload (pc := 67) C 4 rfl dX3_isTold_67 ?_
              refine a_ialdN (pc := 69) C 12 rfl (by omega) (by decide) dX3_isTold_69 ?_
              refine a_iloadn (pc := 70) C 2 rfl rfl dX3_isTold_70 ?_
              refine a_icn_ne (pc := 71) (tgt := 78) C (by omega) (by omega) (by decide) dX3_isTold_71 (fun c15 => ?_) (fun c15 => ?_)
              · refine a_iconst (pc := 78) (v := nI 0) C ci_0 dX3_isTold_78 ?_
                refine a_istore (pc := 79) (L' := [(0, .ref (a 2)), (1, .int kd), (2, .int (nI x)), (3, .int (nI y)), (4, .int (nI k)), (5, .int (nI 1)), (6, .int (nI 0))]) C (by decide) rfl dX3_isTold_79 ?_
                refine a_iload (pc := 81) C 5 rfl dX3_isTold_81 ?_
                refine a_ifn_ne_y (pc := 83) (tgt := 96) C (by omega) (by decide) (by decide) dX3_isTold_83 ?_
                refine a_iconst (pc := 96) (v := nI 1) C ci_1 dX3_isTold_96 ?_
                exact a_zret (pc := 97) (b := true) C E (Nat.le_of_ble_eq_true rfl) (Nat.le_of_ble_eq_true rfl) (by decide +kernel) ⟨by rw [anyB_hit (p := toldP ki lt er kd x y) hlt_k (by simp only [toldP, decide_eq_true c1, decide_eq_true c2, decide_eq_true c8, decide_eq_true c14, decide_eq_false c15, Bool.and_false, Bool.false_and, Bool.or_false, Bool.false_or, Bool.true_and, Bool.and_true, Bool.or_true, Bool.true_or, Bool.or_self, Bool.and_self])], rfl⟩ dX3_isTold_97
              · refine a_iconst (pc := 74) (v := nI 1) C ci_1 dX3_isTold_74 ?_
                refine a_goto (pc := 75) (tgt := 79) C (by decide) dX3_isTold_75 ?_
                refine a_istore (pc := 79) (L' := [(0, .ref (a 2)), (1, .int kd), (2, .int (nI x)), (3, .int (nI y)), (4, .int (nI k)), (5, .int (nI 1)), (6, .int (nI 1))]) C (by decide) rfl dX3_isTold_79 ?_
                refine a_iload (pc := 81) C 5 rfl dX3_isTold_81 ?_
                refine a_ifn_ne_y (pc := 83) (tgt := 96) C (by omega) (by decide) (by decide) dX3_isTold_83 ?_
                refine a_iconst (pc := 96) (v := nI 1) C ci_1 dX3_isTold_96 ?_
                exact a_zret (pc := 97) (b := true) C E (Nat.le_of_ble_eq_true rfl) (Nat.le_of_ble_eq_true rfl) (by decide +kernel) ⟨by rw [anyB_hit (p := toldP ki lt er kd x y) hlt_k (by simp only [toldP, decide_eq_true c1, decide_eq_true c2, decide_eq_true c8, decide_eq_true c14, decide_eq_true c15, Bool.and_false, Bool.false_and, Bool.or_false, Bool.false_or, Bool.true_and, Bool.and_true, Bool.or_true, Bool.true_or, Bool.or_self, Bool.and_self])], rfl⟩ dX3_isTold_97
  exact LP3 (r) (0) (by omega) rfl
set_option maxHeartbeats 4000000 in
set_option maxRecDepth 100000 in
theorem c_X4_append (κ : aK) (a : Nat → Nat) {n : Nat} {dug : Nat → Bool} {dtd : Nat → Bool} {so : Nat → Int32} {ph : Nat → Int32} {uf : Nat → Int32} {ul : Nat → Int32} {r : Nat} {ki : Nat → Int32} {lt : Nat → Nat} {er : Nat → Nat} {mz : Nat} {bd : Nat → Bool} {bo : Nat → Nat} {me : Nat → Nat → Bool} {dE : Nat → Nat → Bool} {eE : Nat → Nat → Bool} {lE : Nat → Nat → Bool} {li : Nat → Nat → Bool} {fB : Nat → Int32} {fA : Nat → Int32} {sL : Nat → Int32} {f : Nat} {fu : Nat → Nat} {fs : Nat → Int32} {ff : Nat → Int32} {fl : Nat → Int32} {xs : Nat → Int32} {ys : Nat → Int32} {zs : Nat → Int32} {oL : Nat → Int32} {oU : Nat → Int32} {lo : Nat → Int32} {up : Nat → Int32} {X : va_W} {s0 : Int32} (hn : n < 40) : CM yX4_append cX4_append 2 (some .int) ({ frames := 0, cells := 0, slots := 0, locals := 0 } : Room) κ [.ref (a 1), .int s0] (wC κ a n dug dtd so ph uf ul r ki lt er mz bd bo me dE eE lE li fB fA sL f fu fs ff fl xs ys zs oL oU lo up X) (aD (some (.int (nI n))) (wC κ a (n + 1) dug dtd (va_up so n s0) ph uf ul r ki lt er mz bd bo me dE eE lE li fB fA sL f fu fs ff fl xs ys zs oL oU lo up X)) := by
  refine cm_entry (own := RX4) (L := [(0, .ref (a 1)), (1, .int s0)]) (by decide +kernel) rfl (lv_entry [.ref (a 1), .int s0] (n := 2) (Nat.le_of_ble_eq_true rfl)) (fun g C E => ?_)
  refine a_aloadn (pc := 0) C 0 rfl rfl dX4_append_0 ?_
  refine a_get (pc := 1) C fl_X4_9 1 rfl rfl dX4_append_1 ?_
  refine a_aloadn (pc := 4) C 0 rfl rfl dX4_append_4 ?_
  refine a_get (pc := 5) C fl_X4_24 1 rfl rfl dX4_append_5 ?_
  refine a_iloadn (pc := 8) C 1 rfl rfl dX4_append_8 ?_
  refine a_iast (pc := 9) (ws' := wC κ a n dug dtd (va_up so n s0) ph uf ul r ki lt er mz bd bo me dE eE lE li fB fA sL f fu fs ff fl xs ys zs oL oU lo up X) C 6 rfl (by omega) (by decide) rfl rfl dX4_append_9 ?_
  refine a_aloadn (pc := 10) C 0 rfl rfl dX4_append_10 ?_
  refine a_dup (pc := 11) C rfl dX4_append_11 ?_
  refine a_get (pc := 12) C fl_X4_24 1 rfl rfl dX4_append_12 ?_
  refine a_iconst (pc := 15) (v := nI 1) C ci_1 dX4_append_15 ?_
  refine a_iadd (pc := 16) (v := nI (n + 1)) C (nI_add _ _) dX4_append_16 ?_
  refine a_put (pc := 17) (ws' := wC κ a (n + 1) dug dtd (va_up so n s0) ph uf ul r ki lt er mz bd bo me dE eE lE li fB fA sL f fu fs ff fl xs ys zs oL oU lo up X) C fl_X4_24 fp_X4_0 1 rfl rfl rfl (Nat.le_of_ble_eq_true rfl) rfl dX4_append_17 ?_
  refine a_aloadn (pc := 20) C 0 rfl rfl dX4_append_20 ?_
  refine a_get (pc := 21) C fl_X4_24 1 rfl rfl dX4_append_21 ?_
  refine a_iconst (pc := 24) (v := nI 1) C ci_1 dX4_append_24 ?_
  refine a_isub (pc := 25) (v := nI n) C (nI_subc _ _) dX4_append_25 ?_
  exact a_iret (pc := 26) C E (Nat.le_of_ble_eq_true rfl) (Nat.le_of_ble_eq_true rfl) ⟨rfl, rfl⟩ dX4_append_26
set_option maxHeartbeats 4000000 in
set_option maxRecDepth 100000 in
theorem c_X4_setDate (κ : aK) (a : Nat → Nat) {n : Nat} {dug : Nat → Bool} {dtd : Nat → Bool} {so : Nat → Int32} {ph : Nat → Int32} {uf : Nat → Int32} {ul : Nat → Int32} {r : Nat} {ki : Nat → Int32} {lt : Nat → Nat} {er : Nat → Nat} {mz : Nat} {bd : Nat → Bool} {bo : Nat → Nat} {me : Nat → Nat → Bool} {dE : Nat → Nat → Bool} {eE : Nat → Nat → Bool} {lE : Nat → Nat → Bool} {li : Nat → Nat → Bool} {fB : Nat → Int32} {fA : Nat → Int32} {sL : Nat → Int32} {f : Nat} {fu : Nat → Nat} {fs : Nat → Int32} {ff : Nat → Int32} {fl : Nat → Int32} {xs : Nat → Int32} {ys : Nat → Int32} {zs : Nat → Int32} {oL : Nat → Int32} {oU : Nat → Int32} {lo : Nat → Int32} {up : Nat → Int32} {X : va_W} {u : Nat} {a1 : Int32} {b1 : Int32} (hu : u < 40) : CM yX4_setDate cX4_setDate 4 none ({ frames := 1, cells := 0, slots := 0, locals := 20 } : Room) κ [.ref (a 1), .int (nI u), .int a1, .int b1] (wC κ a n dug dtd so ph uf ul r ki lt er mz bd bo me dE eE lE li fB fA sL f fu fs ff fl xs ys zs oL oU lo up X) (aD none (wC κ a n dug (va_up dtd u (decide (a1 ≤ b1))) so ph (va_up uf u a1) (va_up ul u b1) r ki lt er mz bd bo me dE eE lE li fB fA sL f fu fs ff fl xs ys zs oL oU lo up X)) := by
  refine cm_entry (own := RX4) (L := [(0, .ref (a 1)), (1, .int (nI u)), (2, .int a1), (3, .int b1)]) (by decide +kernel) rfl (lv_entry [.ref (a 1), .int (nI u), .int a1, .int b1] (n := 4) (Nat.le_of_ble_eq_true rfl)) (fun g C E => ?_)
  refine a_aloadn (pc := 0) C 0 rfl rfl dX4_setDate_0 ?_
  refine a_get (pc := 1) C fl_X4_18 1 rfl rfl dX4_setDate_1 ?_
  refine a_iloadn (pc := 4) C 1 rfl rfl dX4_setDate_4 ?_
  refine a_iloadn (pc := 5) C 2 rfl rfl dX4_setDate_5 ?_
  refine a_iast (pc := 6) (ws' := wC κ a n dug dtd so ph (va_up uf u a1) ul r ki lt er mz bd bo me dE eE lE li fB fA sL f fu fs ff fl xs ys zs oL oU lo up X) C 8 rfl (by omega) (by decide) rfl rfl dX4_setDate_6 ?_
  refine a_aloadn (pc := 7) C 0 rfl rfl dX4_setDate_7 ?_
  refine a_get (pc := 8) C fl_X4_21 1 rfl rfl dX4_setDate_8 ?_
  refine a_iloadn (pc := 11) C 1 rfl rfl dX4_setDate_11 ?_
  refine a_iloadn (pc := 12) C 3 rfl rfl dX4_setDate_12 ?_
  refine a_iast (pc := 13) (ws' := wC κ a n dug dtd so ph (va_up uf u a1) (va_up ul u b1) r ki lt er mz bd bo me dE eE lE li fB fA sL f fu fs ff fl xs ys zs oL oU lo up X) C 9 rfl (by omega) (by decide) rfl rfl dX4_setDate_13 ?_
  refine a_iloadn (pc := 14) C 2 rfl rfl dX4_setDate_14 ?_
  refine a_iloadn (pc := 15) C 3 rfl rfl dX4_setDate_15 ?_
  refine a_ic_gt (pc := 16) (tgt := 35) C (by decide) dX4_setDate_16 (fun c1 => ?_) (fun c1 => ?_)
  · refine a_aloadn (pc := 35) C 0 rfl rfl dX4_setDate_35 ?_
    refine a_dup (pc := 36) C rfl dX4_setDate_36 ?_
    refine a_get (pc := 37) C fl_X4_28 1 rfl rfl dX4_setDate_37 ?_
    refine a_iloadn (pc := 40) C 1 rfl rfl dX4_setDate_40 ?_
    refine a_callSN1 (pc := 41) (k' := 0) (n' := 0) C (c_X5_bit κ (by omega)) yv_X5_bit ne_X4_32 ws_X5_bit rfl rfl (Nat.le_of_ble_eq_true rfl) (Nat.le_of_ble_eq_true rfl) (Nat.le_of_ble_eq_true rfl) ⟨(Nat.le_of_ble_eq_true rfl), (Nat.le_of_ble_eq_true rfl)⟩ rfl rfl dX4_setDate_41 ?_
    refine a_ldc2 (pc := 44) C kl_X4_36 dX4_setDate_44 ?_
    refine a_lxor (pc := 47) (v := bs (fun i => !(decide (i = u)))) C (bs_not _) dX4_setDate_47 ?_
    refine a_land (pc := 48) (v := bs (fun i => dtd i && (!(decide (i = u))))) C (bs_and _ _) dX4_setDate_48 ?_
    refine a_put (pc := 49) (ws' := wC κ a n dug (fun i => dtd i && (!(decide (i = u)))) so ph (va_up uf u a1) (va_up ul u b1) r ki lt er mz bd bo me dE eE lE li fB fA sL f fu fs ff fl xs ys zs oL oU lo up X) C fl_X4_28 fp_X4_2 1 rfl rfl rfl (Nat.le_of_ble_eq_true rfl) rfl dX4_setDate_49 ?_
    refine aw_eq (congrArg (fun zz9 => wC κ a n dug zz9 so ph (va_up uf u a1) (va_up ul u b1) r ki lt er mz bd bo me dE eE lE li fB fA sL f fu fs ff fl xs ys zs oL oU lo up X) (dt_n c1 : (fun i => dtd i && (!(decide (i = u)))) = (va_up dtd u (decide (a1 ≤ b1))))) ?_
    exact a_vret (pc := 52) C E (Nat.le_of_ble_eq_true rfl) (Nat.le_of_ble_eq_true rfl) ⟨rfl, rfl⟩ dX4_setDate_52
  · refine a_aloadn (pc := 19) C 0 rfl rfl dX4_setDate_19 ?_
    refine a_dup (pc := 20) C rfl dX4_setDate_20 ?_
    refine a_get (pc := 21) C fl_X4_28 1 rfl rfl dX4_setDate_21 ?_
    refine a_iloadn (pc := 24) C 1 rfl rfl dX4_setDate_24 ?_
    refine a_callSN1 (pc := 25) (k' := 0) (n' := 0) C (c_X5_bit κ (by omega)) yv_X5_bit ne_X4_32 ws_X5_bit rfl rfl (Nat.le_of_ble_eq_true rfl) (Nat.le_of_ble_eq_true rfl) (Nat.le_of_ble_eq_true rfl) ⟨(Nat.le_of_ble_eq_true rfl), (Nat.le_of_ble_eq_true rfl)⟩ rfl rfl dX4_setDate_25 ?_
    refine a_lor (pc := 28) (v := bs (fun i => dtd i || (decide (i = u)))) C (bs_or _ _) dX4_setDate_28 ?_
    refine a_put (pc := 29) (ws' := wC κ a n dug (fun i => dtd i || (decide (i = u))) so ph (va_up uf u a1) (va_up ul u b1) r ki lt er mz bd bo me dE eE lE li fB fA sL f fu fs ff fl xs ys zs oL oU lo up X) C fl_X4_28 fp_X4_2 1 rfl rfl rfl (Nat.le_of_ble_eq_true rfl) rfl dX4_setDate_29 ?_
    refine a_goto (pc := 32) (tgt := 52) C (by decide) dX4_setDate_32 ?_
    refine aw_eq (congrArg (fun zz9 => wC κ a n dug zz9 so ph (va_up uf u a1) (va_up ul u b1) r ki lt er mz bd bo me dE eE lE li fB fA sL f fu fs ff fl xs ys zs oL oU lo up X) (dt_y c1 : (fun i => dtd i || (decide (i = u))) = (va_up dtd u (decide (a1 ≤ b1))))) ?_
    exact a_vret (pc := 52) C E (Nat.le_of_ble_eq_true rfl) (Nat.le_of_ble_eq_true rfl) ⟨rfl, rfl⟩ dX4_setDate_52
set_option maxHeartbeats 4000000 in
set_option maxRecDepth 100000 in
theorem c_X1_append (κ : aK) (a : Nat → Nat) {n : Nat} {dug : Nat → Bool} {dtd : Nat → Bool} {so : Nat → Int32} {ph : Nat → Int32} {uf : Nat → Int32} {ul : Nat → Int32} {r : Nat} {ki : Nat → Int32} {lt : Nat → Nat} {er : Nat → Nat} {mz : Nat} {bd : Nat → Bool} {bo : Nat → Nat} {me : Nat → Nat → Bool} {dE : Nat → Nat → Bool} {eE : Nat → Nat → Bool} {lE : Nat → Nat → Bool} {li : Nat → Nat → Bool} {fB : Nat → Int32} {fA : Nat → Int32} {sL : Nat → Int32} {f : Nat} {fu : Nat → Nat} {fs : Nat → Int32} {ff : Nat → Int32} {fl : Nat → Int32} {xs : Nat → Int32} {ys : Nat → Int32} {zs : Nat → Int32} {oL : Nat → Int32} {oU : Nat → Int32} {lo : Nat → Int32} {up : Nat → Int32} {X : va_W} {u : Nat} {s0 : Int32} {a1 : Int32} {b1 : Int32} (hf : f < 60) : CM yX1_append cX1_append 5 (some .int) ({ frames := 0, cells := 0, slots := 0, locals := 0 } : Room) κ [.ref (a 4), .int (nI u), .int s0, .int a1, .int b1] (wC κ a n dug dtd so ph uf ul r ki lt er mz bd bo me dE eE lE li fB fA sL f fu fs ff fl xs ys zs oL oU lo up X) (aD (some (.int (nI f))) (wC κ a n dug dtd so ph uf ul r ki lt er mz bd bo me dE eE lE li fB fA sL (f + 1) (va_up fu f u) (va_up fs f s0) (va_up ff f a1) (va_up fl f b1) xs ys zs oL oU lo up X)) := by
  refine cm_entry (own := RX1) (L := [(0, .ref (a 4)), (1, .int (nI u)), (2, .int s0), (3, .int a1), (4, .int b1)]) (by decide +kernel) rfl (lv_entry [.ref (a 4), .int (nI u), .int s0, .int a1, .int b1] (n := 5) (Nat.le_of_ble_eq_true rfl)) (fun g C E => ?_)
  refine a_aloadn (pc := 0) C 0 rfl rfl dX1_append_0 ?_
  refine a_get (pc := 1) C fl_X1_9 4 rfl rfl dX1_append_1 ?_
  refine a_aloadn (pc := 4) C 0 rfl rfl dX1_append_4 ?_
  refine a_get (pc := 5) C fl_X1_33 4 rfl rfl dX1_append_5 ?_
  refine a_iloadn (pc := 8) C 1 rfl rfl dX1_append_8 ?_
  refine a_iast (pc := 9) (ws' := wC κ a n dug dtd so ph uf ul r ki lt er mz bd bo me dE eE lE li fB fA sL f (va_up fu f u) fs ff fl xs ys zs oL oU lo up X) C 22 rfl (by omega) (by decide) (fN_up _ _ _) rfl dX1_append_9 ?_
  refine a_aloadn (pc := 10) C 0 rfl rfl dX1_append_10 ?_
  refine a_get (pc := 11) C fl_X1_15 4 rfl rfl dX1_append_11 ?_
  refine a_aloadn (pc := 14) C 0 rfl rfl dX1_append_14 ?_
  refine a_get (pc := 15) C fl_X1_33 4 rfl rfl dX1_append_15 ?_
  refine a_iloadn (pc := 18) C 2 rfl rfl dX1_append_18 ?_
  refine a_iast (pc := 19) (ws' := wC κ a n dug dtd so ph uf ul r ki lt er mz bd bo me dE eE lE li fB fA sL f (va_up fu f u) (va_up fs f s0) ff fl xs ys zs oL oU lo up X) C 23 rfl (by omega) (by decide) rfl rfl dX1_append_19 ?_
  refine a_aloadn (pc := 20) C 0 rfl rfl dX1_append_20 ?_
  refine a_get (pc := 21) C fl_X1_18 4 rfl rfl dX1_append_21 ?_
  refine a_aloadn (pc := 24) C 0 rfl rfl dX1_append_24 ?_
  refine a_get (pc := 25) C fl_X1_33 4 rfl rfl dX1_append_25 ?_
  refine a_iloadn (pc := 28) C 3 rfl rfl dX1_append_28 ?_
  refine a_iast (pc := 29) (ws' := wC κ a n dug dtd so ph uf ul r ki lt er mz bd bo me dE eE lE li fB fA sL f (va_up fu f u) (va_up fs f s0) (va_up ff f a1) fl xs ys zs oL oU lo up X) C 24 rfl (by omega) (by decide) rfl rfl dX1_append_29 ?_
  refine a_aloadn (pc := 30) C 0 rfl rfl dX1_append_30 ?_
  refine a_get (pc := 31) C fl_X1_21 4 rfl rfl dX1_append_31 ?_
  refine a_aloadn (pc := 34) C 0 rfl rfl dX1_append_34 ?_
  refine a_get (pc := 35) C fl_X1_33 4 rfl rfl dX1_append_35 ?_
  refine a_iload (pc := 38) C 4 rfl dX1_append_38 ?_
  refine a_iast (pc := 40) (ws' := wC κ a n dug dtd so ph uf ul r ki lt er mz bd bo me dE eE lE li fB fA sL f (va_up fu f u) (va_up fs f s0) (va_up ff f a1) (va_up fl f b1) xs ys zs oL oU lo up X) C 25 rfl (by omega) (by decide) rfl rfl dX1_append_40 ?_
  refine a_aloadn (pc := 41) C 0 rfl rfl dX1_append_41 ?_
  refine a_dup (pc := 42) C rfl dX1_append_42 ?_
  refine a_get (pc := 43) C fl_X1_33 4 rfl rfl dX1_append_43 ?_
  refine a_iconst (pc := 46) (v := nI 1) C ci_1 dX1_append_46 ?_
  refine a_iadd (pc := 47) (v := nI (f + 1)) C (nI_add _ _) dX1_append_47 ?_
  refine a_put (pc := 48) (ws' := wC κ a n dug dtd so ph uf ul r ki lt er mz bd bo me dE eE lE li fB fA sL (f + 1) (va_up fu f u) (va_up fs f s0) (va_up ff f a1) (va_up fl f b1) xs ys zs oL oU lo up X) C fl_X1_33 fp_X1_0 4 rfl rfl rfl (Nat.le_of_ble_eq_true rfl) rfl dX1_append_48 ?_
  refine a_aloadn (pc := 51) C 0 rfl rfl dX1_append_51 ?_
  refine a_get (pc := 52) C fl_X1_33 4 rfl rfl dX1_append_52 ?_
  refine a_iconst (pc := 55) (v := nI 1) C ci_1 dX1_append_55 ?_
  refine a_isub (pc := 56) (v := nI f) C (nI_subc _ _) dX1_append_56 ?_
  exact a_iret (pc := 57) C E (Nat.le_of_ble_eq_true rfl) (Nat.le_of_ble_eq_true rfl) ⟨rfl, rfl⟩ dX1_append_57
set_option maxHeartbeats 4000000 in
set_option maxRecDepth 100000 in
theorem c_X1_countIn (κ : aK) (a : Nat → Nat) {n : Nat} {dug : Nat → Bool} {dtd : Nat → Bool} {so : Nat → Int32} {ph : Nat → Int32} {uf : Nat → Int32} {ul : Nat → Int32} {r : Nat} {ki : Nat → Int32} {lt : Nat → Nat} {er : Nat → Nat} {mz : Nat} {bd : Nat → Bool} {bo : Nat → Nat} {me : Nat → Nat → Bool} {dE : Nat → Nat → Bool} {eE : Nat → Nat → Bool} {lE : Nat → Nat → Bool} {li : Nat → Nat → Bool} {fB : Nat → Int32} {fA : Nat → Int32} {sL : Nat → Int32} {f : Nat} {fu : Nat → Nat} {fs : Nat → Int32} {ff : Nat → Int32} {fl : Nat → Int32} {xs : Nat → Int32} {ys : Nat → Int32} {zs : Nat → Int32} {oL : Nat → Int32} {oU : Nat → Int32} {lo : Nat → Int32} {up : Nat → Int32} {X : va_W} {u : Nat} (hf : f ≤ 60) (hfu : ∀ u, fu u < 40) (hu : u < 40) : CM yX1_countIn cX1_countIn 4 (some .int) ({ frames := 0, cells := 0, slots := 0, locals := 0 } : Room) κ [.ref (a 4), .int (nI u)] (wC κ a n dug dtd so ph uf ul r ki lt er mz bd bo me dE eE lE li fB fA sL f fu fs ff fl xs ys zs oL oU lo up X) (aD (some (.int (nI (cnt (fun v => decide (fu v = u)) f)))) (wC κ a n dug dtd so ph uf ul r ki lt er mz bd bo me dE eE lE li fB fA sL f fu fs ff fl xs ys zs oL oU lo up X)) := by
  refine cm_entry (own := RX1) (L := [(0, .ref (a 4)), (1, .int (nI u))]) (by decide +kernel) rfl (lv_entry [.ref (a 4), .int (nI u)] (n := 4) (Nat.le_of_ble_eq_true rfl)) (fun g C E => ?_)
  refine a_iconst (pc := 0) (v := nI 0) C ci_0 dX1_countIn_0 ?_
  refine a_istoren (pc := 1) (L' := [(0, .ref (a 4)), (1, .int (nI u)), (2, .int (nI 0))]) C (by decide) rfl rfl dX1_countIn_1 ?_
  refine a_iconst (pc := 2) (v := nI 0) C ci_0 dX1_countIn_2 ?_
  refine a_istoren (pc := 3) (L' := [(0, .ref (a 4)), (1, .int (nI u)), (2, .int (nI 0)), (3, .int (nI 0))]) C (by decide) rfl rfl dX1_countIn_3 ?_
  have LP4 : ∀ (jz k : Nat), k + jz = f → aw g κ 4 4 [(0, .ref (a 4)), (1, .int (nI u)), (2, .int (nI (cnt (fun v => decide (fu v = u)) k))), (3, .int (nI k))] [] (wC κ a n dug dtd so ph uf ul r ki lt er mz bd bo me dE eE lE li fB fA sL f fu fs ff fl xs ys zs oL oU lo up X) 0 0 := by
    intro jz
    induction jz with
    | zero =>
      intro k hk_k
      obtain rfl : f = k := by omega
      refine a_iloadn (pc := 4) C 3 rfl rfl dX1_countIn_4 ?_
      refine a_aloadn (pc := 5) C 0 rfl rfl dX1_countIn_5 ?_
      refine a_get (pc := 6) C fl_X1_33 4 rfl rfl dX1_countIn_6 ?_
      refine a_icn_ge_y (pc := 9) (tgt := 31) C (by omega) (by omega) (by omega) (by decide) dX1_countIn_9 ?_
      refine a_iloadn (pc := 31) C 2 rfl rfl dX1_countIn_31 ?_
      exact a_iret (pc := 32) C E (Nat.le_of_ble_eq_true rfl) (Nat.le_of_ble_eq_true rfl) ⟨rfl, rfl⟩ dX1_countIn_32
    | succ jz ih =>
      intro k hk_k
      have hlt_k : k < f := by omega
      have hfk := hfu k
      refine a_iloadn (pc := 4) C 3 rfl rfl dX1_countIn_4 ?_
      refine a_aloadn (pc := 5) C 0 rfl rfl dX1_countIn_5 ?_
      refine a_get (pc := 6) C fl_X1_33 4 rfl rfl dX1_countIn_6 ?_
      refine a_icn_ge_n (pc := 9) C (by omega) (by omega) (by omega) dX1_countIn_9 ⟨31, by decide⟩ ?_
      refine a_aloadn (pc := 12) C 0 rfl rfl dX1_countIn_12 ?_
      refine a_get (pc := 13) C fl_X1_9 4 rfl rfl dX1_countIn_13 ?_
      refine a_iloadn (pc := 16) C 3 rfl rfl dX1_countIn_16 ?_
      refine a_ialdN (pc := 17) C 22 rfl (by omega) (by decide) dX1_countIn_17 ?_
      refine a_iloadn (pc := 18) C 1 rfl rfl dX1_countIn_18 ?_
      refine a_icn_ne (pc := 19) (tgt := 25) C (by omega) (by omega) (by decide) dX1_countIn_19 (fun c1 => ?_) (fun c1 => ?_)
      · refine a_iinc (pc := 25) (v := nI (k + 1)) (L' := [(0, .ref (a 4)), (1, .int (nI u)), (2, .int (nI (cnt (fun v => decide (fu v = u)) k))), (3, .int (nI (k + 1)))]) C 3 rfl (nI_inc _) (by decide) rfl dX1_countIn_25 ?_
        refine a_goto (pc := 28) (tgt := 4) C (by decide) dX1_countIn_28 ?_
        refine aw_L (L' := [(0, .ref (a 4)), (1, .int (nI u)), (2, .int (nI (cnt (fun v => decide (fu v = u)) (k + 1)))), (3, .int (nI (k + 1)))]) (congrArg (fun zz9 => ([(0, .ref (a 4)), (1, .int (nI u)), (2, .int zz9), (3, .int (nI (k + 1)))] : List (Nat × Value))) (congrArg nI (cnt_n (decide_eq_false c1)).symm : (nI (cnt (fun v => decide (fu v = u)) k)) = (nI (cnt (fun v => decide (fu v = u)) (k + 1))))) ?_
        exact ih (k + 1) (by omega)
      · refine a_iinc (pc := 22) (v := nI (cnt (fun v => decide (fu v = u)) k + 1)) (L' := [(0, .ref (a 4)), (1, .int (nI u)), (2, .int (nI (cnt (fun v => decide (fu v = u)) k + 1))), (3, .int (nI k))]) C 2 rfl (nI_inc _) (by decide) rfl dX1_countIn_22 ?_
        refine a_iinc (pc := 25) (v := nI (k + 1)) (L' := [(0, .ref (a 4)), (1, .int (nI u)), (2, .int (nI (cnt (fun v => decide (fu v = u)) k + 1))), (3, .int (nI (k + 1)))]) C 3 rfl (nI_inc _) (by decide) rfl dX1_countIn_25 ?_
        refine a_goto (pc := 28) (tgt := 4) C (by decide) dX1_countIn_28 ?_
        refine aw_L (L' := [(0, .ref (a 4)), (1, .int (nI u)), (2, .int (nI (cnt (fun v => decide (fu v = u)) (k + 1)))), (3, .int (nI (k + 1)))]) (congrArg (fun zz9 => ([(0, .ref (a 4)), (1, .int (nI u)), (2, .int zz9), (3, .int (nI (k + 1)))] : List (Nat × Value))) (congrArg nI (cnt_y (decide_eq_true c1)).symm : (nI (cnt (fun v => decide (fu v = u)) k + 1)) = (nI (cnt (fun v => decide (fu v = u)) (k + 1))))) ?_
        exact ih (k + 1) (by omega)
  refine aw_L (L' := [(0, .ref (a 4)), (1, .int (nI u)), (2, .int (nI (cnt (fun v => decide (fu v = u)) 0))), (3, .int (nI 0))]) (congrArg (fun zz9 => ([(0, .ref (a 4)), (1, .int (nI u)), (2, .int zz9), (3, .int (nI 0))] : List (Nat × Value))) (rfl : (nI 0) = (nI (cnt (fun v => decide (fu v = u)) 0)))) ?_
  exact LP4 (f) (0) (by omega)
set_option maxHeartbeats 4000000 in
set_option maxRecDepth 100000 in
theorem c_X0_gatherDates (κ : aK) (a : Nat → Nat) {n : Nat} {dug : Nat → Bool} {dtd : Nat → Bool} {so : Nat → Int32} {ph : Nat → Int32} {uf : Nat → Int32} {ul : Nat → Int32} {r : Nat} {ki : Nat → Int32} {lt : Nat → Nat} {er : Nat → Nat} {mz : Nat} {bd : Nat → Bool} {bo : Nat → Nat} {me : Nat → Nat → Bool} {dE : Nat → Nat → Bool} {eE : Nat → Nat → Bool} {lE : Nat → Nat → Bool} {li : Nat → Nat → Bool} {fB : Nat → Int32} {fA : Nat → Int32} {sL : Nat → Int32} {f : Nat} {fu : Nat → Nat} {fs : Nat → Int32} {ff : Nat → Int32} {fl : Nat → Int32} {xs : Nat → Int32} {ys : Nat → Int32} {zs : Nat → Int32} {oL : Nat → Int32} {oU : Nat → Int32} {lo : Nat → Int32} {up : Nat → Int32} {X : va_W} (hn : n ≤ 40) (hbo : ∀ u, bo u < 40) : CM yX0_gatherDates cX0_gatherDates 5 none ({ frames := 2, cells := 0, slots := 0, locals := 42 } : Room) κ [.ref (a 5), .ref (a 1), .ref (a 3)] (wC κ a n dug dtd so ph uf ul r ki lt er mz bd bo me dE eE lE li fB fA sL f fu fs ff fl xs ys zs oL oU lo up X) (aD none (wC κ a n dug dtd so ph uf ul r ki lt er mz bd bo me dE eE lE li fB fA sL f fu fs ff fl xs ys zs (odL dtd bo uf oL n) (odU dtd bo ul oU n) lo up X)) := by
  refine cm_entry (own := RX0) (L := [(0, .ref (a 5)), (1, .ref (a 1)), (2, .ref (a 3))]) (by decide +kernel) rfl (lv_entry [.ref (a 5), .ref (a 1), .ref (a 3)] (n := 5) (Nat.le_of_ble_eq_true rfl)) (fun g C E => ?_)
  refine a_iconst (pc := 0) (v := nI 0) C ci_0 dX0_gatherDates_0 ?_
  refine a_istoren (pc := 1) (L' := [(0, .ref (a 5)), (1, .ref (a 1)), (2, .ref (a 3)), (3, .int (nI 0))]) C (by decide) rfl rfl dX0_gatherDates_1 ?_
  have LP2 : ∀ (jz k : Nat), k + jz = n → aw g κ 5 2 [(0, .ref (a 5)), (1, .ref (a 1)), (2, .ref (a 3)), (3, .int (nI k))] [] (wC κ a n dug dtd so ph uf ul r ki lt er mz bd bo me dE eE lE li fB fA sL f fu fs ff fl xs ys zs (odL dtd bo uf oL k) (odU dtd bo ul oU k) lo up X) 0 0 := by
    intro jz
    induction jz with
    | zero =>
      intro k hk_k
      obtain rfl : n = k := by omega
      refine a_iloadn (pc := 2) C 3 rfl rfl dX0_gatherDates_2 ?_
      refine a_aloadn (pc := 3) C 1 rfl rfl dX0_gatherDates_3 ?_
      refine a_get (pc := 4) C fl_X0_24 1 rfl rfl dX0_gatherDates_4 ?_
      refine a_icn_ge_y (pc := 7) (tgt := 81) C (by omega) (by omega) (by omega) (by decide) dX0_gatherDates_7 ?_
      exact a_vret (pc := 81) C E (Nat.le_of_ble_eq_true rfl) (Nat.le_of_ble_eq_true rfl) ⟨rfl, rfl⟩ dX0_gatherDates_81
    | succ jz ih =>
      intro k hk_k
      have hlt_k : k < n := by omega
      refine a_iloadn (pc := 2) C 3 rfl rfl dX0_gatherDates_2 ?_
      refine a_aloadn (pc := 3) C 1 rfl rfl dX0_gatherDates_3 ?_
      refine a_get (pc := 4) C fl_X0_24 1 rfl rfl dX0_gatherDates_4 ?_
      refine a_icn_ge_n (pc := 7) C (by omega) (by omega) (by omega) dX0_gatherDates_7 ⟨81, by decide⟩ ?_
      refine a_aloadn (pc := 10) C 1 rfl rfl dX0_gatherDates_10 ?_
      refine a_get (pc := 11) C fl_X0_42 1 rfl rfl dX0_gatherDates_11 ?_
      refine a_iloadn (pc := 14) C 3 rfl rfl dX0_gatherDates_14 ?_
      refine a_callSN1 (pc := 15) (k' := 0) (n' := 0) C (c_X5_has κ (by omega)) yv_X5_has ne_X0_46 ws_X5_has rfl rfl (Nat.le_of_ble_eq_true rfl) (Nat.le_of_ble_eq_true rfl) (Nat.le_of_ble_eq_true rfl) ⟨(Nat.le_of_ble_eq_true rfl), (Nat.le_of_ble_eq_true rfl)⟩ rfl rfl dX0_gatherDates_15 ?_
      refine a_ifb_eq (pc := 18) (tgt := 75) C (by decide) dX0_gatherDates_18 (fun c1 => ?_) (fun c1 => ?_)
      · refine a_iinc (pc := 75) (v := nI (k + 1)) (L' := [(0, .ref (a 5)), (1, .ref (a 1)), (2, .ref (a 3)), (3, .int (nI (k + 1)))]) C 3 rfl (nI_inc _) (by decide) rfl dX0_gatherDates_75 ?_
        refine a_goto (pc := 78) (tgt := 2) C (by decide) dX0_gatherDates_78 ?_
        refine aw_eq (congrArg (fun zz9 => wC κ a n dug dtd so ph uf ul r ki lt er mz bd bo me dE eE lE li fB fA sL f fu fs ff fl xs ys zs zz9 (odU dtd bo ul oU k) lo up X) (odL_n c1 : (odL dtd bo uf oL k) = (odL dtd bo uf oL (k + 1)))) ?_
        refine aw_eq (congrArg (fun zz9 => wC κ a n dug dtd so ph uf ul r ki lt er mz bd bo me dE eE lE li fB fA sL f fu fs ff fl xs ys zs (odL dtd bo uf oL (k + 1)) zz9 lo up X) (odU_n c1 : (odU dtd bo ul oU k) = (odU dtd bo ul oU (k + 1)))) ?_
        exact ih (k + 1) (by omega)
      · refine a_aloadn (pc := 21) C 2 rfl rfl dX0_gatherDates_21 ?_
        refine a_get (pc := 22) C fl_X0_50 3 rfl rfl dX0_gatherDates_22 ?_
        refine a_iloadn (pc := 25) C 3 rfl rfl dX0_gatherDates_25 ?_
        refine a_ialdN (pc := 26) C 13 rfl (by omega) (by decide) dX0_gatherDates_26 ?_
        refine a_istore (pc := 27) (L' := [(0, .ref (a 5)), (1, .ref (a 1)), (2, .ref (a 3)), (3, .int (nI k)), (4, .int (nI (bo k)))]) C (by decide) rfl dX0_gatherDates_27 ?_
        refine a_aloadn (pc := 29) C 0 rfl rfl dX0_gatherDates_29 ?_
        refine a_get (pc := 30) C fl_X0_9 5 rfl rfl dX0_gatherDates_30 ?_
        refine a_iload (pc := 33) C 4 rfl dX0_gatherDates_33 ?_
        refine a_aloadn (pc := 35) C 0 rfl rfl dX0_gatherDates_35 ?_
        refine a_get (pc := 36) C fl_X0_9 5 rfl rfl dX0_gatherDates_36 ?_
        refine a_iload (pc := 39) C 4 rfl dX0_gatherDates_39 ?_
        refine a_iald (pc := 41) C 29 rfl (hbo _) (by decide) dX0_gatherDates_41 ?_
        refine a_aloadn (pc := 42) C 1 rfl rfl dX0_gatherDates_42 ?_
        refine a_get (pc := 43) C fl_X0_55 1 rfl rfl dX0_gatherDates_43 ?_
        refine a_iloadn (pc := 46) C 3 rfl rfl dX0_gatherDates_46 ?_
        refine a_iald (pc := 47) C 8 rfl (by omega) (by decide) dX0_gatherDates_47 ?_
        refine a_mmax (pc := 48) (v := imax ((odL dtd bo uf oL k) (bo k)) (uf k)) C ml_X0_58 rfl (Nat.le_of_ble_eq_true rfl) (Nat.le_of_ble_eq_true rfl) (Nat.le_of_ble_eq_true rfl) (Nat.le_of_ble_eq_true rfl) dX0_gatherDates_48 ?_
        refine a_iast (pc := 51) (ws' := wC κ a n dug dtd so ph uf ul r ki lt er mz bd bo me dE eE lE li fB fA sL f fu fs ff fl xs ys zs (va_up (odL dtd bo uf oL k) (bo k) (imax ((odL dtd bo uf oL k) (bo k)) (uf k))) (odU dtd bo ul oU k) lo up X) C 29 rfl (hbo _) (by decide) rfl rfl dX0_gatherDates_51 ?_
        refine a_aloadn (pc := 52) C 0 rfl rfl dX0_gatherDates_52 ?_
        refine a_get (pc := 53) C fl_X0_15 5 rfl rfl dX0_gatherDates_53 ?_
        refine a_iload (pc := 56) C 4 rfl dX0_gatherDates_56 ?_
        refine a_aloadn (pc := 58) C 0 rfl rfl dX0_gatherDates_58 ?_
        refine a_get (pc := 59) C fl_X0_15 5 rfl rfl dX0_gatherDates_59 ?_
        refine a_iload (pc := 62) C 4 rfl dX0_gatherDates_62 ?_
        refine a_iald (pc := 64) C 30 rfl (hbo _) (by decide) dX0_gatherDates_64 ?_
        refine a_aloadn (pc := 65) C 1 rfl rfl dX0_gatherDates_65 ?_
        refine a_get (pc := 66) C fl_X0_64 1 rfl rfl dX0_gatherDates_66 ?_
        refine a_iloadn (pc := 69) C 3 rfl rfl dX0_gatherDates_69 ?_
        refine a_iald (pc := 70) C 9 rfl (by omega) (by decide) dX0_gatherDates_70 ?_
        refine a_mmin (pc := 71) (v := imin ((odU dtd bo ul oU k) (bo k)) (ul k)) C ml_X0_67 rfl (Nat.le_of_ble_eq_true rfl) (Nat.le_of_ble_eq_true rfl) (Nat.le_of_ble_eq_true rfl) (Nat.le_of_ble_eq_true rfl) dX0_gatherDates_71 ?_
        refine a_iast (pc := 74) (ws' := wC κ a n dug dtd so ph uf ul r ki lt er mz bd bo me dE eE lE li fB fA sL f fu fs ff fl xs ys zs (va_up (odL dtd bo uf oL k) (bo k) (imax ((odL dtd bo uf oL k) (bo k)) (uf k))) (va_up (odU dtd bo ul oU k) (bo k) (imin ((odU dtd bo ul oU k) (bo k)) (ul k))) lo up X) C 30 rfl (hbo _) (by decide) rfl rfl dX0_gatherDates_74 ?_
        refine a_iinc (pc := 75) (v := nI (k + 1)) (L' := [(0, .ref (a 5)), (1, .ref (a 1)), (2, .ref (a 3)), (3, .int (nI (k + 1))), (4, .int (nI (bo k)))]) C 3 rfl (nI_inc _) (by decide) rfl dX0_gatherDates_75 ?_
        refine a_goto (pc := 78) (tgt := 2) C (by decide) dX0_gatherDates_78 ?_
        refine aw_locals (L' := [(0, .ref (a 5)), (1, .ref (a 1)), (2, .ref (a 3)), (3, .int (nI (k + 1)))]) [0, 1, 2, 3] rfl ?_
        refine aw_eq (congrArg (fun zz9 => wC κ a n dug dtd so ph uf ul r ki lt er mz bd bo me dE eE lE li fB fA sL f fu fs ff fl xs ys zs zz9 (va_up (odU dtd bo ul oU k) (bo k) (imin ((odU dtd bo ul oU k) (bo k)) (ul k))) lo up X) (odL_y c1 : (va_up (odL dtd bo uf oL k) (bo k) (imax ((odL dtd bo uf oL k) (bo k)) (uf k))) = (odL dtd bo uf oL (k + 1)))) ?_
        refine aw_eq (congrArg (fun zz9 => wC κ a n dug dtd so ph uf ul r ki lt er mz bd bo me dE eE lE li fB fA sL f fu fs ff fl xs ys zs (odL dtd bo uf oL (k + 1)) zz9 lo up X) (odU_y c1 : (va_up (odU dtd bo ul oU k) (bo k) (imin ((odU dtd bo ul oU k) (bo k)) (ul k))) = (odU dtd bo ul oU (k + 1)))) ?_
        exact ih (k + 1) (by omega)
  refine aw_eq (congrArg (fun zz9 => wC κ a n dug dtd so ph uf ul r ki lt er mz bd bo me dE eE lE li fB fA sL f fu fs ff fl xs ys zs zz9 oU lo up X) (rfl : oL = (odL dtd bo uf oL 0))) ?_
  refine aw_eq (congrArg (fun zz9 => wC κ a n dug dtd so ph uf ul r ki lt er mz bd bo me dE eE lE li fB fA sL f fu fs ff fl xs ys zs (odL dtd bo uf oL 0) zz9 lo up X) (rfl : oU = (odU dtd bo ul oU 0))) ?_
  exact LP2 (n) (0) (by omega)
set_option maxHeartbeats 4000000 in
set_option maxRecDepth 100000 in
theorem c_X0_gatherFinds (κ : aK) (a : Nat → Nat) {n : Nat} {dug : Nat → Bool} {dtd : Nat → Bool} {so : Nat → Int32} {ph : Nat → Int32} {uf : Nat → Int32} {ul : Nat → Int32} {r : Nat} {ki : Nat → Int32} {lt : Nat → Nat} {er : Nat → Nat} {mz : Nat} {bd : Nat → Bool} {bo : Nat → Nat} {me : Nat → Nat → Bool} {dE : Nat → Nat → Bool} {eE : Nat → Nat → Bool} {lE : Nat → Nat → Bool} {li : Nat → Nat → Bool} {fB : Nat → Int32} {fA : Nat → Int32} {sL : Nat → Int32} {f : Nat} {fu : Nat → Nat} {fs : Nat → Int32} {ff : Nat → Int32} {fl : Nat → Int32} {xs : Nat → Int32} {ys : Nat → Int32} {zs : Nat → Int32} {oL : Nat → Int32} {oU : Nat → Int32} {lo : Nat → Int32} {up : Nat → Int32} {X : va_W} (hf : f ≤ 60) (hbo : ∀ u, bo u < 40) (hfu : ∀ u, fu u < 40) : CM yX0_gatherFinds cX0_gatherFinds 5 none ({ frames := 1, cells := 0, slots := 0, locals := 21 } : Room) κ [.ref (a 5), .ref (a 4), .ref (a 3)] (wC κ a n dug dtd so ph uf ul r ki lt er mz bd bo me dE eE lE li fB fA sL f fu fs ff fl xs ys zs oL oU lo up X) (aD none (wC κ a n dug dtd so ph uf ul r ki lt er mz bd bo me dE eE lE li fB fA sL f fu fs ff fl xs ys zs (ofL bo fu ff oL f) oU lo up X)) := by
  refine cm_entry (own := RX0) (L := [(0, .ref (a 5)), (1, .ref (a 4)), (2, .ref (a 3))]) (by decide +kernel) rfl (lv_entry [.ref (a 5), .ref (a 4), .ref (a 3)] (n := 5) (Nat.le_of_ble_eq_true rfl)) (fun g C E => ?_)
  refine a_iconst (pc := 0) (v := nI 0) C ci_0 dX0_gatherFinds_0 ?_
  refine a_istoren (pc := 1) (L' := [(0, .ref (a 5)), (1, .ref (a 4)), (2, .ref (a 3)), (3, .int (nI 0))]) C (by decide) rfl rfl dX0_gatherFinds_1 ?_
  have LP2 : ∀ (jz k : Nat), k + jz = f → aw g κ 5 2 [(0, .ref (a 5)), (1, .ref (a 4)), (2, .ref (a 3)), (3, .int (nI k))] [] (wC κ a n dug dtd so ph uf ul r ki lt er mz bd bo me dE eE lE li fB fA sL f fu fs ff fl xs ys zs (ofL bo fu ff oL k) oU lo up X) 0 0 := by
    intro jz
    induction jz with
    | zero =>
      intro k hk_k
      obtain rfl : f = k := by omega
      refine a_iloadn (pc := 2) C 3 rfl rfl dX0_gatherFinds_2 ?_
      refine a_aloadn (pc := 3) C 1 rfl rfl dX0_gatherFinds_3 ?_
      refine a_get (pc := 4) C fl_X0_70 4 rfl rfl dX0_gatherFinds_4 ?_
      refine a_icn_ge_y (pc := 7) (tgt := 52) C (by omega) (by omega) (by omega) (by decide) dX0_gatherFinds_7 ?_
      exact a_vret (pc := 52) C E (Nat.le_of_ble_eq_true rfl) (Nat.le_of_ble_eq_true rfl) ⟨rfl, rfl⟩ dX0_gatherFinds_52
    | succ jz ih =>
      intro k hk_k
      have hlt_k : k < f := by omega
      refine a_iloadn (pc := 2) C 3 rfl rfl dX0_gatherFinds_2 ?_
      refine a_aloadn (pc := 3) C 1 rfl rfl dX0_gatherFinds_3 ?_
      refine a_get (pc := 4) C fl_X0_70 4 rfl rfl dX0_gatherFinds_4 ?_
      refine a_icn_ge_n (pc := 7) C (by omega) (by omega) (by omega) dX0_gatherFinds_7 ⟨52, by decide⟩ ?_
      refine a_aloadn (pc := 10) C 2 rfl rfl dX0_gatherFinds_10 ?_
      refine a_get (pc := 11) C fl_X0_50 3 rfl rfl dX0_gatherFinds_11 ?_
      refine a_aloadn (pc := 14) C 1 rfl rfl dX0_gatherFinds_14 ?_
      refine a_get (pc := 15) C fl_X0_73 4 rfl rfl dX0_gatherFinds_15 ?_
      refine a_iloadn (pc := 18) C 3 rfl rfl dX0_gatherFinds_18 ?_
      refine a_ialdN (pc := 19) C 22 rfl (by omega) (by decide) dX0_gatherFinds_19 ?_
      refine a_ialdN (pc := 20) C 13 rfl (hfu _) (by decide) dX0_gatherFinds_20 ?_
      refine a_istore (pc := 21) (L' := [(0, .ref (a 5)), (1, .ref (a 4)), (2, .ref (a 3)), (3, .int (nI k)), (4, .int (nI (bo (fu k))))]) C (by decide) rfl dX0_gatherFinds_21 ?_
      refine a_aloadn (pc := 23) C 0 rfl rfl dX0_gatherFinds_23 ?_
      refine a_get (pc := 24) C fl_X0_9 5 rfl rfl dX0_gatherFinds_24 ?_
      refine a_iload (pc := 27) C 4 rfl dX0_gatherFinds_27 ?_
      refine a_aloadn (pc := 29) C 0 rfl rfl dX0_gatherFinds_29 ?_
      refine a_get (pc := 30) C fl_X0_9 5 rfl rfl dX0_gatherFinds_30 ?_
      refine a_iload (pc := 33) C 4 rfl dX0_gatherFinds_33 ?_
      refine a_iald (pc := 35) C 29 rfl (hbo _) (by decide) dX0_gatherFinds_35 ?_
      refine a_aloadn (pc := 36) C 1 rfl rfl dX0_gatherFinds_36 ?_
      refine a_get (pc := 37) C fl_X0_76 4 rfl rfl dX0_gatherFinds_37 ?_
      refine a_iloadn (pc := 40) C 3 rfl rfl dX0_gatherFinds_40 ?_
      refine a_iald (pc := 41) C 24 rfl (by omega) (by decide) dX0_gatherFinds_41 ?_
      refine a_mmax (pc := 42) (v := imax ((ofL bo fu ff oL k) (bo (fu k))) (ff k)) C ml_X0_58 rfl (Nat.le_of_ble_eq_true rfl) (Nat.le_of_ble_eq_true rfl) (Nat.le_of_ble_eq_true rfl) (Nat.le_of_ble_eq_true rfl) dX0_gatherFinds_42 ?_
      refine a_iast (pc := 45) (ws' := wC κ a n dug dtd so ph uf ul r ki lt er mz bd bo me dE eE lE li fB fA sL f fu fs ff fl xs ys zs (va_up (ofL bo fu ff oL k) (bo (fu k)) (imax ((ofL bo fu ff oL k) (bo (fu k))) (ff k))) oU lo up X) C 29 rfl (hbo _) (by decide) rfl rfl dX0_gatherFinds_45 ?_
      refine a_iinc (pc := 46) (v := nI (k + 1)) (L' := [(0, .ref (a 5)), (1, .ref (a 4)), (2, .ref (a 3)), (3, .int (nI (k + 1))), (4, .int (nI (bo (fu k))))]) C 3 rfl (nI_inc _) (by decide) rfl dX0_gatherFinds_46 ?_
      refine a_goto (pc := 49) (tgt := 2) C (by decide) dX0_gatherFinds_49 ?_
      refine aw_locals (L' := [(0, .ref (a 5)), (1, .ref (a 4)), (2, .ref (a 3)), (3, .int (nI (k + 1)))]) [0, 1, 2, 3] rfl ?_
      refine aw_eq (congrArg (fun zz9 => wC κ a n dug dtd so ph uf ul r ki lt er mz bd bo me dE eE lE li fB fA sL f fu fs ff fl xs ys zs zz9 oU lo up X) (rfl : (va_up (ofL bo fu ff oL k) (bo (fu k)) (imax ((ofL bo fu ff oL k) (bo (fu k))) (ff k))) = (ofL bo fu ff oL (k + 1)))) ?_
      exact ih (k + 1) (by omega)
  refine aw_eq (congrArg (fun zz9 => wC κ a n dug dtd so ph uf ul r ki lt er mz bd bo me dE eE lE li fB fA sL f fu fs ff fl xs ys zs zz9 oU lo up X) (rfl : oL = (ofL bo fu ff oL 0))) ?_
  exact LP2 (f) (0) (by omega)
set_option maxHeartbeats 4000000 in
set_option maxRecDepth 100000 in
theorem c_X0_spread (κ : aK) (a : Nat → Nat) {n : Nat} {dug : Nat → Bool} {dtd : Nat → Bool} {so : Nat → Int32} {ph : Nat → Int32} {uf : Nat → Int32} {ul : Nat → Int32} {r : Nat} {ki : Nat → Int32} {lt : Nat → Nat} {er : Nat → Nat} {mz : Nat} {bd : Nat → Bool} {bo : Nat → Nat} {me : Nat → Nat → Bool} {dE : Nat → Nat → Bool} {eE : Nat → Nat → Bool} {lE : Nat → Nat → Bool} {li : Nat → Nat → Bool} {fB : Nat → Int32} {fA : Nat → Int32} {sL : Nat → Int32} {f : Nat} {fu : Nat → Nat} {fs : Nat → Int32} {ff : Nat → Int32} {fl : Nat → Int32} {xs : Nat → Int32} {ys : Nat → Int32} {zs : Nat → Int32} {oL : Nat → Int32} {oU : Nat → Int32} {lo : Nat → Int32} {up : Nat → Int32} {X : va_W} {z0 : Nat} (hz : z0 ≤ 40) : CM yX0_spread cX0_spread 5 none ({ frames := 2, cells := 0, slots := 0, locals := 42 } : Room) κ [.ref (a 5), .int (nI z0), .ref (a 3)] (wC κ a n dug dtd so ph uf ul r ki lt er mz bd bo me dE eE lE li fB fA sL f fu fs ff fl xs ys zs oL oU lo up X) (aD none (wC κ a n dug dtd so ph uf ul r ki lt er mz bd bo me dE eE lE li fB fA sL f fu fs ff fl xs ys zs oL oU (pre (fun v => spL oL eE v z0) lo z0) (pre (fun v => spU oU lE v z0) up z0) X)) := by
  refine cm_entry (own := RX0) (L := [(0, .ref (a 5)), (1, .int (nI z0)), (2, .ref (a 3))]) (by decide +kernel) rfl (lv_entry [.ref (a 5), .int (nI z0), .ref (a 3)] (n := 5) (Nat.le_of_ble_eq_true rfl)) (fun g C E => ?_)
  refine a_iconst (pc := 0) (v := nI 0) C ci_0 dX0_spread_0 ?_
  refine a_istoren (pc := 1) (L' := [(0, .ref (a 5)), (1, .int (nI z0)), (2, .ref (a 3)), (3, .int (nI 0))]) C (by decide) rfl rfl dX0_spread_1 ?_
  have LP2 : ∀ (jz k : Nat), k + jz = z0 → aw g κ 5 2 [(0, .ref (a 5)), (1, .int (nI z0)), (2, .ref (a 3)), (3, .int (nI k))] [] (wC κ a n dug dtd so ph uf ul r ki lt er mz bd bo me dE eE lE li fB fA sL f fu fs ff fl xs ys zs oL oU (pre (fun v => spL oL eE v z0) lo k) (pre (fun v => spU oU lE v z0) up k) X) 0 0 := by
    intro jz
    induction jz with
    | zero =>
      intro k hk_k
      obtain rfl : z0 = k := by omega
      refine a_iloadn (pc := 2) C 3 rfl rfl dX0_spread_2 ?_
      refine a_iloadn (pc := 3) C 1 rfl rfl dX0_spread_3 ?_
      refine a_icn_ge_y (pc := 4) (tgt := 124) C (by omega) (by omega) (by omega) (by decide) dX0_spread_4 ?_
      exact a_vret (pc := 124) C E (Nat.le_of_ble_eq_true rfl) (Nat.le_of_ble_eq_true rfl) ⟨rfl, rfl⟩ dX0_spread_124
    | succ jz ih =>
      intro k hk_k
      have hlt_k : k < z0 := by omega
      refine a_iloadn (pc := 2) C 3 rfl rfl dX0_spread_2 ?_
      refine a_iloadn (pc := 3) C 1 rfl rfl dX0_spread_3 ?_
      refine a_icn_ge_n (pc := 4) C (by omega) (by omega) (by omega) dX0_spread_4 ⟨124, by decide⟩ ?_
      refine a_aloadn (pc := 7) C 0 rfl rfl dX0_spread_7 ?_
      refine a_get (pc := 8) C fl_X0_18 5 rfl rfl dX0_spread_8 ?_
      refine a_iloadn (pc := 11) C 3 rfl rfl dX0_spread_11 ?_
      refine a_aloadn (pc := 12) C 0 rfl rfl dX0_spread_12 ?_
      refine a_get (pc := 13) C fl_X0_9 5 rfl rfl dX0_spread_13 ?_
      refine a_iloadn (pc := 16) C 3 rfl rfl dX0_spread_16 ?_
      refine a_iald (pc := 17) C 29 rfl (by omega) (by decide) dX0_spread_17 ?_
      refine a_iast (pc := 18) (ws' := wC κ a n dug dtd so ph uf ul r ki lt er mz bd bo me dE eE lE li fB fA sL f fu fs ff fl xs ys zs oL oU (va_up (pre (fun v => spL oL eE v z0) lo k) k (oL k)) (pre (fun v => spU oU lE v z0) up k) X) C 31 rfl (by omega) (by decide) rfl rfl dX0_spread_18 ?_
      refine a_aloadn (pc := 19) C 0 rfl rfl dX0_spread_19 ?_
      refine a_get (pc := 20) C fl_X0_21 5 rfl rfl dX0_spread_20 ?_
      refine a_iloadn (pc := 23) C 3 rfl rfl dX0_spread_23 ?_
      refine a_aloadn (pc := 24) C 0 rfl rfl dX0_spread_24 ?_
      refine a_get (pc := 25) C fl_X0_15 5 rfl rfl dX0_spread_25 ?_
      refine a_iloadn (pc := 28) C 3 rfl rfl dX0_spread_28 ?_
      refine a_iald (pc := 29) C 30 rfl (by omega) (by decide) dX0_spread_29 ?_
      refine a_iast (pc := 30) (ws' := wC κ a n dug dtd so ph uf ul r ki lt er mz bd bo me dE eE lE li fB fA sL f fu fs ff fl xs ys zs oL oU (va_up (pre (fun v => spL oL eE v z0) lo k) k (oL k)) (va_up (pre (fun v => spU oU lE v z0) up k) k (oU k)) X) C 32 rfl (by omega) (by decide) rfl rfl dX0_spread_30 ?_
      refine a_iconst (pc := 31) (v := nI 0) C ci_0 dX0_spread_31 ?_
      refine a_istore (pc := 32) (L' := [(0, .ref (a 5)), (1, .int (nI z0)), (2, .ref (a 3)), (3, .int (nI k)), (4, .int (nI 0))]) C (by decide) rfl dX0_spread_32 ?_
      have LP34 : ∀ (jz j : Nat), j + jz = z0 → aw g κ 5 34 [(0, .ref (a 5)), (1, .int (nI z0)), (2, .ref (a 3)), (3, .int (nI k)), (4, .int (nI j))] [] (wC κ a n dug dtd so ph uf ul r ki lt er mz bd bo me dE eE lE li fB fA sL f fu fs ff fl xs ys zs oL oU (va_up (pre (fun v => spL oL eE v z0) lo k) k (spL oL eE k j)) (va_up (pre (fun v => spU oU lE v z0) up k) k (spU oU lE k j)) X) 0 0 := by
        intro jz
        induction jz with
        | zero =>
          intro j hk_j
          obtain rfl : z0 = j := by omega
          refine a_iload (pc := 34) C 4 rfl dX0_spread_34 ?_
          refine a_iloadn (pc := 36) C 1 rfl rfl dX0_spread_36 ?_
          refine a_icn_ge_y (pc := 37) (tgt := 118) C (by omega) (by omega) (by omega) (by decide) dX0_spread_37 ?_
          refine a_iinc (pc := 118) (v := nI (k + 1)) (L' := [(0, .ref (a 5)), (1, .int (nI z0)), (2, .ref (a 3)), (3, .int (nI (k + 1))), (4, .int (nI z0))]) C 3 rfl (nI_inc _) (by decide) rfl dX0_spread_118 ?_
          refine a_goto (pc := 121) (tgt := 2) C (by decide) dX0_spread_121 ?_
          refine aw_locals (L' := [(0, .ref (a 5)), (1, .int (nI z0)), (2, .ref (a 3)), (3, .int (nI (k + 1)))]) [0, 1, 2, 3] rfl ?_
          refine aw_eq (congrArg (fun zz9 => wC κ a n dug dtd so ph uf ul r ki lt er mz bd bo me dE eE lE li fB fA sL f fu fs ff fl xs ys zs oL oU zz9 (va_up (pre (fun v => spU oU lE v z0) up k) k (spU oU lE k z0)) X) (pre_s (fun v => spL oL eE v z0) lo k : (va_up (pre (fun v => spL oL eE v z0) lo k) k (spL oL eE k z0)) = (pre (fun v => spL oL eE v z0) lo (k + 1)))) ?_
          refine aw_eq (congrArg (fun zz9 => wC κ a n dug dtd so ph uf ul r ki lt er mz bd bo me dE eE lE li fB fA sL f fu fs ff fl xs ys zs oL oU (pre (fun v => spL oL eE v z0) lo (k + 1)) zz9 X) (pre_s (fun v => spU oU lE v z0) up k : (va_up (pre (fun v => spU oU lE v z0) up k) k (spU oU lE k z0)) = (pre (fun v => spU oU lE v z0) up (k + 1)))) ?_
          exact ih (k + 1) (by omega)
        | succ jz ih =>
          intro j hk_j
          have hlt_j : j < z0 := by omega
          refine a_iload (pc := 34) C 4 rfl dX0_spread_34 ?_
          refine a_iloadn (pc := 36) C 1 rfl rfl dX0_spread_36 ?_
          refine a_icn_ge_n (pc := 37) C (by omega) (by omega) (by omega) dX0_spread_37 ⟨118, by decide⟩ ?_
          refine a_aloadn (pc := 40) C 2 rfl rfl dX0_spread_40 ?_
          refine a_get (pc := 41) C fl_X0_77 3 rfl rfl dX0_spread_41 ?_
          refine a_iloadn (pc := 44) C 3 rfl rfl dX0_spread_44 ?_
          refine a_laldS (pc := 45) C 16 rfl (by omega) (by decide) dX0_spread_45 ?_
          refine a_iload (pc := 46) C 4 rfl dX0_spread_46 ?_
          refine a_callSN1 (pc := 48) (k' := 0) (n' := 0) C (c_X5_has κ (by omega)) yv_X5_has ne_X0_46 ws_X5_has rfl rfl (Nat.le_of_ble_eq_true rfl) (Nat.le_of_ble_eq_true rfl) (Nat.le_of_ble_eq_true rfl) ⟨(Nat.le_of_ble_eq_true rfl), (Nat.le_of_ble_eq_true rfl)⟩ rfl rfl dX0_spread_48 ?_
          refine a_ifb_eq (pc := 51) (tgt := 76) C (by decide) dX0_spread_51 (fun c1 => ?_) (fun c1 => ?_)
          · refine a_aloadn (pc := 76) C 2 rfl rfl dX0_spread_76 ?_
            refine a_get (pc := 77) C fl_X0_81 3 rfl rfl dX0_spread_77 ?_
            refine a_iloadn (pc := 80) C 3 rfl rfl dX0_spread_80 ?_
            refine a_laldS (pc := 81) C 17 rfl (by omega) (by decide) dX0_spread_81 ?_
            refine a_iload (pc := 82) C 4 rfl dX0_spread_82 ?_
            refine a_callSN1 (pc := 84) (k' := 0) (n' := 0) C (c_X5_has κ (by omega)) yv_X5_has ne_X0_46 ws_X5_has rfl rfl (Nat.le_of_ble_eq_true rfl) (Nat.le_of_ble_eq_true rfl) (Nat.le_of_ble_eq_true rfl) ⟨(Nat.le_of_ble_eq_true rfl), (Nat.le_of_ble_eq_true rfl)⟩ rfl rfl dX0_spread_84 ?_
            refine a_ifb_eq (pc := 87) (tgt := 112) C (by decide) dX0_spread_87 (fun c2 => ?_) (fun c2 => ?_)
            · refine a_iinc (pc := 112) (v := nI (j + 1)) (L' := [(0, .ref (a 5)), (1, .int (nI z0)), (2, .ref (a 3)), (3, .int (nI k)), (4, .int (nI (j + 1)))]) C 4 rfl (nI_inc _) (by decide) rfl dX0_spread_112 ?_
              refine a_goto (pc := 115) (tgt := 34) C (by decide) dX0_spread_115 ?_
              refine aw_eq (congrArg (fun zz9 => wC κ a n dug dtd so ph uf ul r ki lt er mz bd bo me dE eE lE li fB fA sL f fu fs ff fl xs ys zs oL oU zz9 (va_up (pre (fun v => spU oU lE v z0) up k) k (spU oU lE k j)) X) (by rw [← spL_n c1] : (va_up (pre (fun v => spL oL eE v z0) lo k) k (spL oL eE k j)) = (va_up (pre (fun v => spL oL eE v z0) lo k) k (spL oL eE k (j + 1))))) ?_
              refine aw_eq (congrArg (fun zz9 => wC κ a n dug dtd so ph uf ul r ki lt er mz bd bo me dE eE lE li fB fA sL f fu fs ff fl xs ys zs oL oU (va_up (pre (fun v => spL oL eE v z0) lo k) k (spL oL eE k (j + 1))) zz9 X) (by rw [← spU_n c2] : (va_up (pre (fun v => spU oU lE v z0) up k) k (spU oU lE k j)) = (va_up (pre (fun v => spU oU lE v z0) up k) k (spU oU lE k (j + 1))))) ?_
              exact ih (j + 1) (by omega)
            · refine a_aloadn (pc := 90) C 0 rfl rfl dX0_spread_90 ?_
              refine a_get (pc := 91) C fl_X0_21 5 rfl rfl dX0_spread_91 ?_
              refine a_iloadn (pc := 94) C 3 rfl rfl dX0_spread_94 ?_
              refine a_aloadn (pc := 95) C 0 rfl rfl dX0_spread_95 ?_
              refine a_get (pc := 96) C fl_X0_21 5 rfl rfl dX0_spread_96 ?_
              refine a_iloadn (pc := 99) C 3 rfl rfl dX0_spread_99 ?_
              refine a_iald (pc := 100) C 32 rfl (by omega) (by decide) dX0_spread_100 ?_
              refine a_aloadn (pc := 101) C 0 rfl rfl dX0_spread_101 ?_
              refine a_get (pc := 102) C fl_X0_15 5 rfl rfl dX0_spread_102 ?_
              refine a_iload (pc := 105) C 4 rfl dX0_spread_105 ?_
              refine a_iald (pc := 107) C 30 rfl (by omega) (by decide) dX0_spread_107 ?_
              refine a_mmin (pc := 108) (v := imin ((va_up (pre (fun v => spU oU lE v z0) up k) k (spU oU lE k j)) k) (oU j)) C ml_X0_67 rfl (Nat.le_of_ble_eq_true rfl) (Nat.le_of_ble_eq_true rfl) (Nat.le_of_ble_eq_true rfl) (Nat.le_of_ble_eq_true rfl) dX0_spread_108 ?_
              refine a_iast (pc := 111) (ws' := wC κ a n dug dtd so ph uf ul r ki lt er mz bd bo me dE eE lE li fB fA sL f fu fs ff fl xs ys zs oL oU (va_up (pre (fun v => spL oL eE v z0) lo k) k (spL oL eE k j)) (va_up (va_up (pre (fun v => spU oU lE v z0) up k) k (spU oU lE k j)) k (imin ((va_up (pre (fun v => spU oU lE v z0) up k) k (spU oU lE k j)) k) (oU j))) X) C 32 rfl (by omega) (by decide) rfl rfl dX0_spread_111 ?_
              refine a_iinc (pc := 112) (v := nI (j + 1)) (L' := [(0, .ref (a 5)), (1, .int (nI z0)), (2, .ref (a 3)), (3, .int (nI k)), (4, .int (nI (j + 1)))]) C 4 rfl (nI_inc _) (by decide) rfl dX0_spread_112 ?_
              refine a_goto (pc := 115) (tgt := 34) C (by decide) dX0_spread_115 ?_
              refine aw_eq (congrArg (fun zz9 => wC κ a n dug dtd so ph uf ul r ki lt er mz bd bo me dE eE lE li fB fA sL f fu fs ff fl xs ys zs oL oU zz9 (va_up (va_up (pre (fun v => spU oU lE v z0) up k) k (spU oU lE k j)) k (imin ((va_up (pre (fun v => spU oU lE v z0) up k) k (spU oU lE k j)) k) (oU j))) X) (by rw [← spL_n c1] : (va_up (pre (fun v => spL oL eE v z0) lo k) k (spL oL eE k j)) = (va_up (pre (fun v => spL oL eE v z0) lo k) k (spL oL eE k (j + 1))))) ?_
              refine aw_eq (congrArg (fun zz9 => wC κ a n dug dtd so ph uf ul r ki lt er mz bd bo me dE eE lE li fB fA sL f fu fs ff fl xs ys zs oL oU (va_up (pre (fun v => spL oL eE v z0) lo k) k (spL oL eE k (j + 1))) zz9 X) (by rw [up_s, up_up, spU_y c2] : (va_up (va_up (pre (fun v => spU oU lE v z0) up k) k (spU oU lE k j)) k (imin ((va_up (pre (fun v => spU oU lE v z0) up k) k (spU oU lE k j)) k) (oU j))) = (va_up (pre (fun v => spU oU lE v z0) up k) k (spU oU lE k (j + 1))))) ?_
              exact ih (j + 1) (by omega)
          · refine a_aloadn (pc := 54) C 0 rfl rfl dX0_spread_54 ?_
            refine a_get (pc := 55) C fl_X0_18 5 rfl rfl dX0_spread_55 ?_
            refine a_iloadn (pc := 58) C 3 rfl rfl dX0_spread_58 ?_
            refine a_aloadn (pc := 59) C 0 rfl rfl dX0_spread_59 ?_
            refine a_get (pc := 60) C fl_X0_18 5 rfl rfl dX0_spread_60 ?_
            refine a_iloadn (pc := 63) C 3 rfl rfl dX0_spread_63 ?_
            refine a_iald (pc := 64) C 31 rfl (by omega) (by decide) dX0_spread_64 ?_
            refine a_aloadn (pc := 65) C 0 rfl rfl dX0_spread_65 ?_
            refine a_get (pc := 66) C fl_X0_9 5 rfl rfl dX0_spread_66 ?_
            refine a_iload (pc := 69) C 4 rfl dX0_spread_69 ?_
            refine a_iald (pc := 71) C 29 rfl (by omega) (by decide) dX0_spread_71 ?_
            refine a_mmax (pc := 72) (v := imax ((va_up (pre (fun v => spL oL eE v z0) lo k) k (spL oL eE k j)) k) (oL j)) C ml_X0_58 rfl (Nat.le_of_ble_eq_true rfl) (Nat.le_of_ble_eq_true rfl) (Nat.le_of_ble_eq_true rfl) (Nat.le_of_ble_eq_true rfl) dX0_spread_72 ?_
            refine a_iast (pc := 75) (ws' := wC κ a n dug dtd so ph uf ul r ki lt er mz bd bo me dE eE lE li fB fA sL f fu fs ff fl xs ys zs oL oU (va_up (va_up (pre (fun v => spL oL eE v z0) lo k) k (spL oL eE k j)) k (imax ((va_up (pre (fun v => spL oL eE v z0) lo k) k (spL oL eE k j)) k) (oL j))) (va_up (pre (fun v => spU oU lE v z0) up k) k (spU oU lE k j)) X) C 31 rfl (by omega) (by decide) rfl rfl dX0_spread_75 ?_
            refine a_aloadn (pc := 76) C 2 rfl rfl dX0_spread_76 ?_
            refine a_get (pc := 77) C fl_X0_81 3 rfl rfl dX0_spread_77 ?_
            refine a_iloadn (pc := 80) C 3 rfl rfl dX0_spread_80 ?_
            refine a_laldS (pc := 81) C 17 rfl (by omega) (by decide) dX0_spread_81 ?_
            refine a_iload (pc := 82) C 4 rfl dX0_spread_82 ?_
            refine a_callSN1 (pc := 84) (k' := 0) (n' := 0) C (c_X5_has κ (by omega)) yv_X5_has ne_X0_46 ws_X5_has rfl rfl (Nat.le_of_ble_eq_true rfl) (Nat.le_of_ble_eq_true rfl) (Nat.le_of_ble_eq_true rfl) ⟨(Nat.le_of_ble_eq_true rfl), (Nat.le_of_ble_eq_true rfl)⟩ rfl rfl dX0_spread_84 ?_
            refine a_ifb_eq (pc := 87) (tgt := 112) C (by decide) dX0_spread_87 (fun c3 => ?_) (fun c3 => ?_)
            · refine a_iinc (pc := 112) (v := nI (j + 1)) (L' := [(0, .ref (a 5)), (1, .int (nI z0)), (2, .ref (a 3)), (3, .int (nI k)), (4, .int (nI (j + 1)))]) C 4 rfl (nI_inc _) (by decide) rfl dX0_spread_112 ?_
              refine a_goto (pc := 115) (tgt := 34) C (by decide) dX0_spread_115 ?_
              refine aw_eq (congrArg (fun zz9 => wC κ a n dug dtd so ph uf ul r ki lt er mz bd bo me dE eE lE li fB fA sL f fu fs ff fl xs ys zs oL oU zz9 (va_up (pre (fun v => spU oU lE v z0) up k) k (spU oU lE k j)) X) (by rw [up_s, up_up, spL_y c1] : (va_up (va_up (pre (fun v => spL oL eE v z0) lo k) k (spL oL eE k j)) k (imax ((va_up (pre (fun v => spL oL eE v z0) lo k) k (spL oL eE k j)) k) (oL j))) = (va_up (pre (fun v => spL oL eE v z0) lo k) k (spL oL eE k (j + 1))))) ?_
              refine aw_eq (congrArg (fun zz9 => wC κ a n dug dtd so ph uf ul r ki lt er mz bd bo me dE eE lE li fB fA sL f fu fs ff fl xs ys zs oL oU (va_up (pre (fun v => spL oL eE v z0) lo k) k (spL oL eE k (j + 1))) zz9 X) (by rw [← spU_n c3] : (va_up (pre (fun v => spU oU lE v z0) up k) k (spU oU lE k j)) = (va_up (pre (fun v => spU oU lE v z0) up k) k (spU oU lE k (j + 1))))) ?_
              exact ih (j + 1) (by omega)
            · refine a_aloadn (pc := 90) C 0 rfl rfl dX0_spread_90 ?_
              refine a_get (pc := 91) C fl_X0_21 5 rfl rfl dX0_spread_91 ?_
              refine a_iloadn (pc := 94) C 3 rfl rfl dX0_spread_94 ?_
              refine a_aloadn (pc := 95) C 0 rfl rfl dX0_spread_95 ?_
              refine a_get (pc := 96) C fl_X0_21 5 rfl rfl dX0_spread_96 ?_
              refine a_iloadn (pc := 99) C 3 rfl rfl dX0_spread_99 ?_
              refine a_iald (pc := 100) C 32 rfl (by omega) (by decide) dX0_spread_100 ?_
              refine a_aloadn (pc := 101) C 0 rfl rfl dX0_spread_101 ?_
              refine a_get (pc := 102) C fl_X0_15 5 rfl rfl dX0_spread_102 ?_
              refine a_iload (pc := 105) C 4 rfl dX0_spread_105 ?_
              refine a_iald (pc := 107) C 30 rfl (by omega) (by decide) dX0_spread_107 ?_
              refine a_mmin (pc := 108) (v := imin ((va_up (pre (fun v => spU oU lE v z0) up k) k (spU oU lE k j)) k) (oU j)) C ml_X0_67 rfl (Nat.le_of_ble_eq_true rfl) (Nat.le_of_ble_eq_true rfl) (Nat.le_of_ble_eq_true rfl) (Nat.le_of_ble_eq_true rfl) dX0_spread_108 ?_
              refine a_iast (pc := 111) (ws' := wC κ a n dug dtd so ph uf ul r ki lt er mz bd bo me dE eE lE li fB fA sL f fu fs ff fl xs ys zs oL oU (va_up (va_up (pre (fun v => spL oL eE v z0) lo k) k (spL oL eE k j)) k (imax ((va_up (pre (fun v => spL oL eE v z0) lo k) k (spL oL eE k j)) k) (oL j))) (va_up (va_up (pre (fun v => spU oU lE v z0) up k) k (spU oU lE k j)) k (imin ((va_up (pre (fun v => spU oU lE v z0) up k) k (spU oU lE k j)) k) (oU j))) X) C 32 rfl (by omega) (by decide) rfl rfl dX0_spread_111 ?_
              refine a_iinc (pc := 112) (v := nI (j + 1)) (L' := [(0, .ref (a 5)), (1, .int (nI z0)), (2, .ref (a 3)), (3, .int (nI k)), (4, .int (nI (j + 1)))]) C 4 rfl (nI_inc _) (by decide) rfl dX0_spread_112 ?_
              refine a_goto (pc := 115) (tgt := 34) C (by decide) dX0_spread_115 ?_
              refine aw_eq (congrArg (fun zz9 => wC κ a n dug dtd so ph uf ul r ki lt er mz bd bo me dE eE lE li fB fA sL f fu fs ff fl xs ys zs oL oU zz9 (va_up (va_up (pre (fun v => spU oU lE v z0) up k) k (spU oU lE k j)) k (imin ((va_up (pre (fun v => spU oU lE v z0) up k) k (spU oU lE k j)) k) (oU j))) X) (by rw [up_s, up_up, spL_y c1] : (va_up (va_up (pre (fun v => spL oL eE v z0) lo k) k (spL oL eE k j)) k (imax ((va_up (pre (fun v => spL oL eE v z0) lo k) k (spL oL eE k j)) k) (oL j))) = (va_up (pre (fun v => spL oL eE v z0) lo k) k (spL oL eE k (j + 1))))) ?_
              refine aw_eq (congrArg (fun zz9 => wC κ a n dug dtd so ph uf ul r ki lt er mz bd bo me dE eE lE li fB fA sL f fu fs ff fl xs ys zs oL oU (va_up (pre (fun v => spL oL eE v z0) lo k) k (spL oL eE k (j + 1))) zz9 X) (by rw [up_s, up_up, spU_y c3] : (va_up (va_up (pre (fun v => spU oU lE v z0) up k) k (spU oU lE k j)) k (imin ((va_up (pre (fun v => spU oU lE v z0) up k) k (spU oU lE k j)) k) (oU j))) = (va_up (pre (fun v => spU oU lE v z0) up k) k (spU oU lE k (j + 1))))) ?_
              exact ih (j + 1) (by omega)
      refine aw_eq (congrArg (fun zz9 => wC κ a n dug dtd so ph uf ul r ki lt er mz bd bo me dE eE lE li fB fA sL f fu fs ff fl xs ys zs oL oU zz9 (va_up (pre (fun v => spU oU lE v z0) up k) k (oU k)) X) (rfl : (va_up (pre (fun v => spL oL eE v z0) lo k) k (oL k)) = (va_up (pre (fun v => spL oL eE v z0) lo k) k (spL oL eE k 0)))) ?_
      refine aw_eq (congrArg (fun zz9 => wC κ a n dug dtd so ph uf ul r ki lt er mz bd bo me dE eE lE li fB fA sL f fu fs ff fl xs ys zs oL oU (va_up (pre (fun v => spL oL eE v z0) lo k) k (spL oL eE k 0)) zz9 X) (rfl : (va_up (pre (fun v => spU oU lE v z0) up k) k (oU k)) = (va_up (pre (fun v => spU oU lE v z0) up k) k (spU oU lE k 0)))) ?_
      exact LP34 (z0) (0) (by omega)
  refine aw_eq (congrArg (fun zz9 => wC κ a n dug dtd so ph uf ul r ki lt er mz bd bo me dE eE lE li fB fA sL f fu fs ff fl xs ys zs oL oU zz9 up X) ((pre_0 _ _).symm : lo = (pre (fun v => spL oL eE v z0) lo 0))) ?_
  refine aw_eq (congrArg (fun zz9 => wC κ a n dug dtd so ph uf ul r ki lt er mz bd bo me dE eE lE li fB fA sL f fu fs ff fl xs ys zs oL oU (pre (fun v => spL oL eE v z0) lo 0) zz9 X) ((pre_0 _ _).symm : up = (pre (fun v => spU oU lE v z0) up 0))) ?_
  exact LP2 (z0) (0) (by omega)
set_option maxHeartbeats 4000000 in
set_option maxRecDepth 100000 in
theorem c_X0_renew (κ : aK) (a : Nat → Nat) {n : Nat} {dug : Nat → Bool} {dtd : Nat → Bool} {so : Nat → Int32} {ph : Nat → Int32} {uf : Nat → Int32} {ul : Nat → Int32} {r : Nat} {ki : Nat → Int32} {lt : Nat → Nat} {er : Nat → Nat} {mz : Nat} {bd : Nat → Bool} {bo : Nat → Nat} {me : Nat → Nat → Bool} {dE : Nat → Nat → Bool} {eE : Nat → Nat → Bool} {lE : Nat → Nat → Bool} {li : Nat → Nat → Bool} {fB : Nat → Int32} {fA : Nat → Int32} {sL : Nat → Int32} {f : Nat} {fu : Nat → Nat} {fs : Nat → Int32} {ff : Nat → Int32} {fl : Nat → Int32} {xs : Nat → Int32} {ys : Nat → Int32} {zs : Nat → Int32} {oL : Nat → Int32} {oU : Nat → Int32} {lo : Nat → Int32} {up : Nat → Int32} {X : va_W} (hn : n ≤ 40) (hf : f ≤ 60) (hbo : ∀ u, bo u < 40) (hfu : ∀ u, fu u < 40) : CM yX0_renew cX0_renew 5 none ({ frames := 3, cells := 0, slots := 0, locals := 66 } : Room) κ [.ref (a 5), .ref (a 1), .ref (a 4), .ref (a 3)] (wC κ a n dug dtd so ph uf ul r ki lt er mz bd bo me dE eE lE li fB fA sL f fu fs ff fl xs ys zs oL oU lo up X) (aD none (wC κ a n dug dtd so ph uf ul r ki lt er mz bd bo me dE eE lE li fB fA sL f fu fs ff fl xs ys zs (ofL bo fu ff (odL dtd bo uf (pre (fun _ => (-5000 : Int32)) oL n) n) f) (odU dtd bo ul (pre (fun _ => nI 2000) oU n) n) (pre (fun v => spL (ofL bo fu ff (odL dtd bo uf (pre (fun _ => (-5000 : Int32)) oL n) n) f) eE v n) lo n) (pre (fun v => spU (odU dtd bo ul (pre (fun _ => nI 2000) oU n) n) lE v n) up n) X)) := by
  refine cm_entry (own := RX0) (L := [(0, .ref (a 5)), (1, .ref (a 1)), (2, .ref (a 4)), (3, .ref (a 3))]) (by decide +kernel) rfl (lv_entry [.ref (a 5), .ref (a 1), .ref (a 4), .ref (a 3)] (n := 5) (Nat.le_of_ble_eq_true rfl)) (fun g C E => ?_)
  refine a_iconst (pc := 0) (v := nI 0) C ci_0 dX0_renew_0 ?_
  refine a_istore (pc := 1) (L' := [(0, .ref (a 5)), (1, .ref (a 1)), (2, .ref (a 4)), (3, .ref (a 3)), (4, .int (nI 0))]) C (by decide) rfl dX0_renew_1 ?_
  have LP3 : ∀ (jz k : Nat), k + jz = n → aw g κ 5 3 [(0, .ref (a 5)), (1, .ref (a 1)), (2, .ref (a 4)), (3, .ref (a 3)), (4, .int (nI k))] [] (wC κ a n dug dtd so ph uf ul r ki lt er mz bd bo me dE eE lE li fB fA sL f fu fs ff fl xs ys zs (pre (fun _ => (-5000 : Int32)) oL k) (pre (fun _ => nI 2000) oU k) lo up X) 0 0 := by
    intro jz
    induction jz with
    | zero =>
      intro k hk_k
      obtain rfl : n = k := by omega
      refine a_iload (pc := 3) C 4 rfl dX0_renew_3 ?_
      refine a_aloadn (pc := 5) C 1 rfl rfl dX0_renew_5 ?_
      refine a_get (pc := 6) C fl_X0_24 1 rfl rfl dX0_renew_6 ?_
      refine a_icn_ge_y (pc := 9) (tgt := 38) C (by omega) (by omega) (by omega) (by decide) dX0_renew_9 ?_
      refine a_aloadn (pc := 38) C 0 rfl rfl dX0_renew_38 ?_
      refine a_aloadn (pc := 39) C 1 rfl rfl dX0_renew_39 ?_
      refine a_aloadn (pc := 40) C 3 rfl rfl dX0_renew_40 ?_
      refine a_callV0 (pc := 41) (k' := 0) (n' := 0) C (c_X0_gatherDates κ a hn hbo) yv_X0_gatherDates ml_X0_30 wi_X0_gatherDates wl_X0_gatherDates 5 rfl rfl rfl rfl (Nat.le_of_ble_eq_true rfl) (Nat.le_of_ble_eq_true rfl) (Nat.le_of_ble_eq_true rfl) ⟨(Nat.le_of_ble_eq_true rfl), (Nat.le_of_ble_eq_true rfl)⟩ rfl rfl dX0_renew_41 ?_
      refine a_aloadn (pc := 44) C 0 rfl rfl dX0_renew_44 ?_
      refine a_aloadn (pc := 45) C 2 rfl rfl dX0_renew_45 ?_
      refine a_aloadn (pc := 46) C 3 rfl rfl dX0_renew_46 ?_
      refine a_callV0 (pc := 47) (k' := 0) (n' := 0) C (c_X0_gatherFinds κ a hf hbo hfu) yv_X0_gatherFinds ml_X0_34 wi_X0_gatherFinds wl_X0_gatherFinds 5 rfl rfl rfl rfl (Nat.le_of_ble_eq_true rfl) (Nat.le_of_ble_eq_true rfl) (Nat.le_of_ble_eq_true rfl) ⟨(Nat.le_of_ble_eq_true rfl), (Nat.le_of_ble_eq_true rfl)⟩ rfl rfl dX0_renew_47 ?_
      refine a_aloadn (pc := 50) C 0 rfl rfl dX0_renew_50 ?_
      refine a_aloadn (pc := 51) C 1 rfl rfl dX0_renew_51 ?_
      refine a_get (pc := 52) C fl_X0_24 1 rfl rfl dX0_renew_52 ?_
      refine a_aloadn (pc := 55) C 3 rfl rfl dX0_renew_55 ?_
      refine a_callV0 (pc := 56) (k' := 0) (n' := 0) C (c_X0_spread κ a hn) yv_X0_spread ml_X0_38 wi_X0_spread wl_X0_spread 5 rfl rfl rfl rfl (Nat.le_of_ble_eq_true rfl) (Nat.le_of_ble_eq_true rfl) (Nat.le_of_ble_eq_true rfl) ⟨(Nat.le_of_ble_eq_true rfl), (Nat.le_of_ble_eq_true rfl)⟩ rfl rfl dX0_renew_56 ?_
      exact a_vret (pc := 59) C E (Nat.le_of_ble_eq_true rfl) (Nat.le_of_ble_eq_true rfl) ⟨rfl, rfl⟩ dX0_renew_59
    | succ jz ih =>
      intro k hk_k
      have hlt_k : k < n := by omega
      refine a_iload (pc := 3) C 4 rfl dX0_renew_3 ?_
      refine a_aloadn (pc := 5) C 1 rfl rfl dX0_renew_5 ?_
      refine a_get (pc := 6) C fl_X0_24 1 rfl rfl dX0_renew_6 ?_
      refine a_icn_ge_n (pc := 9) C (by omega) (by omega) (by omega) dX0_renew_9 ⟨38, by decide⟩ ?_
      refine a_aloadn (pc := 12) C 0 rfl rfl dX0_renew_12 ?_
      refine a_get (pc := 13) C fl_X0_9 5 rfl rfl dX0_renew_13 ?_
      refine a_iload (pc := 16) C 4 rfl dX0_renew_16 ?_
      refine a_sipush (pc := 18) (v := (-5000 : Int32)) C cs_m5000 dX0_renew_18 ?_
      refine a_iast (pc := 21) (ws' := wC κ a n dug dtd so ph uf ul r ki lt er mz bd bo me dE eE lE li fB fA sL f fu fs ff fl xs ys zs (va_up (pre (fun _ => (-5000 : Int32)) oL k) k (-5000 : Int32)) (pre (fun _ => nI 2000) oU k) lo up X) C 29 rfl (by omega) (by decide) rfl rfl dX0_renew_21 ?_
      refine a_aloadn (pc := 22) C 0 rfl rfl dX0_renew_22 ?_
      refine a_get (pc := 23) C fl_X0_15 5 rfl rfl dX0_renew_23 ?_
      refine a_iload (pc := 26) C 4 rfl dX0_renew_26 ?_
      refine a_sipush (pc := 28) (v := nI 2000) C cs_2000 dX0_renew_28 ?_
      refine a_iast (pc := 31) (ws' := wC κ a n dug dtd so ph uf ul r ki lt er mz bd bo me dE eE lE li fB fA sL f fu fs ff fl xs ys zs (va_up (pre (fun _ => (-5000 : Int32)) oL k) k (-5000 : Int32)) (va_up (pre (fun _ => nI 2000) oU k) k (nI 2000)) lo up X) C 30 rfl (by omega) (by decide) rfl rfl dX0_renew_31 ?_
      refine a_iinc (pc := 32) (v := nI (k + 1)) (L' := [(0, .ref (a 5)), (1, .ref (a 1)), (2, .ref (a 4)), (3, .ref (a 3)), (4, .int (nI (k + 1)))]) C 4 rfl (nI_inc _) (by decide) rfl dX0_renew_32 ?_
      refine a_goto (pc := 35) (tgt := 3) C (by decide) dX0_renew_35 ?_
      refine aw_eq (congrArg (fun zz9 => wC κ a n dug dtd so ph uf ul r ki lt er mz bd bo me dE eE lE li fB fA sL f fu fs ff fl xs ys zs zz9 (va_up (pre (fun _ => nI 2000) oU k) k (nI 2000)) lo up X) (pre_s (fun _ => (-5000 : Int32)) oL k : (va_up (pre (fun _ => (-5000 : Int32)) oL k) k (-5000 : Int32)) = (pre (fun _ => (-5000 : Int32)) oL (k + 1)))) ?_
      refine aw_eq (congrArg (fun zz9 => wC κ a n dug dtd so ph uf ul r ki lt er mz bd bo me dE eE lE li fB fA sL f fu fs ff fl xs ys zs (pre (fun _ => (-5000 : Int32)) oL (k + 1)) zz9 lo up X) (pre_s (fun _ => nI 2000) oU k : (va_up (pre (fun _ => nI 2000) oU k) k (nI 2000)) = (pre (fun _ => nI 2000) oU (k + 1)))) ?_
      exact ih (k + 1) (by omega)
  refine aw_eq (congrArg (fun zz9 => wC κ a n dug dtd so ph uf ul r ki lt er mz bd bo me dE eE lE li fB fA sL f fu fs ff fl xs ys zs zz9 oU lo up X) ((pre_0 _ _).symm : oL = (pre (fun _ => (-5000 : Int32)) oL 0))) ?_
  refine aw_eq (congrArg (fun zz9 => wC κ a n dug dtd so ph uf ul r ki lt er mz bd bo me dE eE lE li fB fA sL f fu fs ff fl xs ys zs (pre (fun _ => (-5000 : Int32)) oL 0) zz9 lo up X) ((pre_0 _ _).symm : oU = (pre (fun _ => nI 2000) oU 0))) ?_
  exact LP3 (n) (0) (by omega)
