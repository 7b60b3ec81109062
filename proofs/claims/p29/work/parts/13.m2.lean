set_option maxHeartbeats 4000000 in
set_option maxRecDepth 100000 in
theorem c_X2_joinBodies (κ : aK) (a : Nat → Nat) {n : Nat} {dug : Nat → Bool} {dtd : Nat → Bool} {so : Nat → Int32} {ph : Nat → Int32} {uf : Nat → Int32} {ul : Nat → Int32} {r : Nat} {ki : Nat → Int32} {lt : Nat → Nat} {er : Nat → Nat} {mz : Nat} {bd : Nat → Bool} {bo : Nat → Nat} {me : Nat → Nat → Bool} {dE : Nat → Nat → Bool} {eE : Nat → Nat → Bool} {lE : Nat → Nat → Bool} {li : Nat → Nat → Bool} {fB : Nat → Int32} {fA : Nat → Int32} {sL : Nat → Int32} {f : Nat} {fu : Nat → Nat} {fs : Nat → Int32} {ff : Nat → Int32} {fl : Nat → Int32} {xs : Nat → Int32} {ys : Nat → Int32} {zs : Nat → Int32} {oL : Nat → Int32} {oU : Nat → Int32} {lo : Nat → Int32} {up : Nat → Int32} {X : va_W} {one : Nat} {oth : Nat} (hm : mz ≤ 40) (hbo : ∀ u, bo u < 40) (h1 : one < 40) (h2 : oth < 40) : CM yX2_joinBodies cX2_joinBodies 5 none ({ frames := 1, cells := 0, slots := 0, locals := 21 } : Room) κ [.ref (a 3), .int (nI one), .int (nI oth)] (wC κ a n dug dtd so ph uf ul r ki lt er mz bd bo me dE eE lE li fB fA sL f fu fs ff fl xs ys zs oL oU lo up X) (aD none (wC κ a n dug dtd so ph uf ul r ki lt er mz bd (jB mz one oth bo) me dE eE lE li fB fA sL f fu fs ff fl xs ys zs oL oU lo up X)) := by
  refine cm_entry (own := RX2) (L := [(0, .ref (a 3)), (1, .int (nI one)), (2, .int (nI oth))]) (by decide +kernel) rfl (lv_entry [.ref (a 3), .int (nI one), .int (nI oth)] (n := 5) (Nat.le_of_ble_eq_true rfl)) (fun g C E => ?_)
  refine a_iloadn (pc := 0) C 1 rfl rfl dX2_joinBodies_0 ?_
  refine a_iloadn (pc := 1) C 2 rfl rfl dX2_joinBodies_1 ?_
  refine a_mmin (pc := 2) (v := nI (min one oth)) C ml_X2_91 (nI_min (by omega) (by omega)) (Nat.le_of_ble_eq_true rfl) (Nat.le_of_ble_eq_true rfl) (Nat.le_of_ble_eq_true rfl) (Nat.le_of_ble_eq_true rfl) dX2_joinBodies_2 ?_
  refine a_istoren (pc := 5) (L' := [(0, .ref (a 3)), (1, .int (nI one)), (2, .int (nI oth)), (3, .int (nI (min one oth)))]) C (by decide) rfl rfl dX2_joinBodies_5 ?_
  refine a_iconst (pc := 6) (v := nI 0) C ci_0 dX2_joinBodies_6 ?_
  refine a_istore (pc := 7) (L' := [(0, .ref (a 3)), (1, .int (nI one)), (2, .int (nI oth)), (3, .int (nI (min one oth))), (4, .int (nI 0))]) C (by decide) rfl dX2_joinBodies_7 ?_
  have LP9 : ∀ (jz k : Nat), k + jz = mz → aw g κ 5 9 [(0, .ref (a 3)), (1, .int (nI one)), (2, .int (nI oth)), (3, .int (nI (min one oth))), (4, .int (nI k))] [] (wC κ a n dug dtd so ph uf ul r ki lt er mz bd (jB k one oth bo) me dE eE lE li fB fA sL f fu fs ff fl xs ys zs oL oU lo up X) 0 0 := by
    intro jz
    induction jz with
    | zero =>
      intro k hk_k
      obtain rfl : mz = k := by omega
      refine a_iload (pc := 9) C 4 rfl dX2_joinBodies_9 ?_
      refine a_aloadn (pc := 11) C 0 rfl rfl dX2_joinBodies_11 ?_
      refine a_get (pc := 12) C fl_X2_44 3 rfl rfl dX2_joinBodies_12 ?_
      refine a_icn_ge_y (pc := 15) (tgt := 54) C (by omega) (by omega) (by omega) (by decide) dX2_joinBodies_15 ?_
      exact a_vret (pc := 54) C E (Nat.le_of_ble_eq_true rfl) (Nat.le_of_ble_eq_true rfl) ⟨rfl, rfl⟩ dX2_joinBodies_54
    | succ jz ih =>
      intro k hk_k
      have hlt_k : k < mz := by omega
      have hkb := jB_k k one oth bo
      have hkl := hbo k
      refine a_iload (pc := 9) C 4 rfl dX2_joinBodies_9 ?_
      refine a_aloadn (pc := 11) C 0 rfl rfl dX2_joinBodies_11 ?_
      refine a_get (pc := 12) C fl_X2_44 3 rfl rfl dX2_joinBodies_12 ?_
      refine a_icn_ge_n (pc := 15) C (by omega) (by omega) (by omega) dX2_joinBodies_15 ⟨54, by decide⟩ ?_
      refine a_aloadn (pc := 18) C 0 rfl rfl dX2_joinBodies_18 ?_
      refine a_get (pc := 19) C fl_X2_9 3 rfl rfl dX2_joinBodies_19 ?_
      refine a_iload (pc := 22) C 4 rfl dX2_joinBodies_22 ?_
      refine a_ialdN (pc := 24) C 13 rfl (by omega) (by decide) dX2_joinBodies_24 ?_
      refine a_iloadn (pc := 25) C 1 rfl rfl dX2_joinBodies_25 ?_
      refine a_icn_eq (pc := 26) (tgt := 40) C (by omega) (by omega) (by decide) dX2_joinBodies_26 (fun c1 => ?_) (fun c1 => ?_)
      · refine a_aloadn (pc := 40) C 0 rfl rfl dX2_joinBodies_40 ?_
        refine a_get (pc := 41) C fl_X2_9 3 rfl rfl dX2_joinBodies_41 ?_
        refine a_iload (pc := 44) C 4 rfl dX2_joinBodies_44 ?_
        refine a_iloadn (pc := 46) C 3 rfl rfl dX2_joinBodies_46 ?_
        refine a_iast (pc := 47) (ws' := wC κ a n dug dtd so ph uf ul r ki lt er mz bd (va_up (jB k one oth bo) k (min one oth)) me dE eE lE li fB fA sL f fu fs ff fl xs ys zs oL oU lo up X) C 13 rfl (by omega) (by decide) (fN_up _ _ _) rfl dX2_joinBodies_47 ?_
        refine a_iinc (pc := 48) (v := nI (k + 1)) (L' := [(0, .ref (a 3)), (1, .int (nI one)), (2, .int (nI oth)), (3, .int (nI (min one oth))), (4, .int (nI (k + 1)))]) C 4 rfl (nI_inc _) (by decide) rfl dX2_joinBodies_48 ?_
        refine a_goto (pc := 51) (tgt := 9) C (by decide) dX2_joinBodies_51 ?_
        refine aw_eq (congrArg (fun zz9 => wC κ a n dug dtd so ph uf ul r ki lt er mz bd zz9 me dE eE lE li fB fA sL f fu fs ff fl xs ys zs oL oU lo up X) (jB_y (Or.inl c1) : (va_up (jB k one oth bo) k (min one oth)) = (jB (k + 1) one oth bo))) ?_
        exact ih (k + 1) (by omega)
      · refine a_aloadn (pc := 29) C 0 rfl rfl dX2_joinBodies_29 ?_
        refine a_get (pc := 30) C fl_X2_9 3 rfl rfl dX2_joinBodies_30 ?_
        refine a_iload (pc := 33) C 4 rfl dX2_joinBodies_33 ?_
        refine a_ialdN (pc := 35) C 13 rfl (by omega) (by decide) dX2_joinBodies_35 ?_
        refine a_iloadn (pc := 36) C 2 rfl rfl dX2_joinBodies_36 ?_
        refine a_icn_ne (pc := 37) (tgt := 48) C (by omega) (by omega) (by decide) dX2_joinBodies_37 (fun c2 => ?_) (fun c2 => ?_)
        · refine a_iinc (pc := 48) (v := nI (k + 1)) (L' := [(0, .ref (a 3)), (1, .int (nI one)), (2, .int (nI oth)), (3, .int (nI (min one oth))), (4, .int (nI (k + 1)))]) C 4 rfl (nI_inc _) (by decide) rfl dX2_joinBodies_48 ?_
          refine a_goto (pc := 51) (tgt := 9) C (by decide) dX2_joinBodies_51 ?_
          refine aw_eq (congrArg (fun zz9 => wC κ a n dug dtd so ph uf ul r ki lt er mz bd zz9 me dE eE lE li fB fA sL f fu fs ff fl xs ys zs oL oU lo up X) (jB_n c1 c2 : (jB k one oth bo) = (jB (k + 1) one oth bo))) ?_
          exact ih (k + 1) (by omega)
        · refine a_aloadn (pc := 40) C 0 rfl rfl dX2_joinBodies_40 ?_
          refine a_get (pc := 41) C fl_X2_9 3 rfl rfl dX2_joinBodies_41 ?_
          refine a_iload (pc := 44) C 4 rfl dX2_joinBodies_44 ?_
          refine a_iloadn (pc := 46) C 3 rfl rfl dX2_joinBodies_46 ?_
          refine a_iast (pc := 47) (ws' := wC κ a n dug dtd so ph uf ul r ki lt er mz bd (va_up (jB k one oth bo) k (min one oth)) me dE eE lE li fB fA sL f fu fs ff fl xs ys zs oL oU lo up X) C 13 rfl (by omega) (by decide) (fN_up _ _ _) rfl dX2_joinBodies_47 ?_
          refine a_iinc (pc := 48) (v := nI (k + 1)) (L' := [(0, .ref (a 3)), (1, .int (nI one)), (2, .int (nI oth)), (3, .int (nI (min one oth))), (4, .int (nI (k + 1)))]) C 4 rfl (nI_inc _) (by decide) rfl dX2_joinBodies_48 ?_
          refine a_goto (pc := 51) (tgt := 9) C (by decide) dX2_joinBodies_51 ?_
          refine aw_eq (congrArg (fun zz9 => wC κ a n dug dtd so ph uf ul r ki lt er mz bd zz9 me dE eE lE li fB fA sL f fu fs ff fl xs ys zs oL oU lo up X) (jB_y (Or.inr c2) : (va_up (jB k one oth bo) k (min one oth)) = (jB (k + 1) one oth bo))) ?_
          exact ih (k + 1) (by omega)
  refine aw_eq (congrArg (fun zz9 => wC κ a n dug dtd so ph uf ul r ki lt er mz bd zz9 me dE eE lE li fB fA sL f fu fs ff fl xs ys zs oL oU lo up X) ((jB_0 _ _ _).symm : bo = (jB 0 one oth bo))) ?_
  exact LP9 (mz) (0) (by omega)
set_option maxHeartbeats 4000000 in
set_option maxRecDepth 100000 in
theorem c_X2_joinUnits (κ : aK) (a : Nat → Nat) {n : Nat} {dug : Nat → Bool} {dtd : Nat → Bool} {so : Nat → Int32} {ph : Nat → Int32} {uf : Nat → Int32} {ul : Nat → Int32} {r : Nat} {ki : Nat → Int32} {lt : Nat → Nat} {er : Nat → Nat} {mz : Nat} {bd : Nat → Bool} {bo : Nat → Nat} {me : Nat → Nat → Bool} {dE : Nat → Nat → Bool} {eE : Nat → Nat → Bool} {lE : Nat → Nat → Bool} {li : Nat → Nat → Bool} {fB : Nat → Int32} {fA : Nat → Int32} {sL : Nat → Int32} {f : Nat} {fu : Nat → Nat} {fs : Nat → Int32} {ff : Nat → Int32} {fl : Nat → Int32} {xs : Nat → Int32} {ys : Nat → Int32} {zs : Nat → Int32} {oL : Nat → Int32} {oU : Nat → Int32} {lo : Nat → Int32} {up : Nat → Int32} {X : va_W} (hm : mz ≤ 40) (hr : r ≤ 80) (hbo : ∀ u, bo u < 40) (hlt : ∀ u, lt u < 40) (her : ∀ u, er u < 40) : CM yX2_joinUnits cX2_joinUnits 3 none ({ frames := 2, cells := 0, slots := 0, locals := 45 } : Room) κ [.ref (a 3), .ref (a 2)] (wC κ a n dug dtd so ph uf ul r ki lt er mz bd bo me dE eE lE li fB fA sL f fu fs ff fl xs ys zs oL oU lo up X) (aD none (wC κ a n dug dtd so ph uf ul r ki lt er mz bd (jU ki lt er mz (pre (fun u => u) bo mz) r) me dE eE lE li fB fA sL f fu fs ff fl xs ys zs oL oU lo up X)) := by
  refine cm_entry (own := RX2) (L := [(0, .ref (a 3)), (1, .ref (a 2))]) (by decide +kernel) rfl (lv_entry [.ref (a 3), .ref (a 2)] (n := 3) (Nat.le_of_ble_eq_true rfl)) (fun g C E => ?_)
  have hpre : ∀ u, pre (fun u => u) bo mz u < 40 := pre_lt (fun u hu => by omega) hbo
  have hjU : ∀ k u, jU ki lt er mz (pre (fun u => u) bo mz) k u < 40 := fun k u => jU_lt hpre k u
  refine a_iconst (pc := 0) (v := nI 0) C ci_0 dX2_joinUnits_0 ?_
  refine a_istoren (pc := 1) (L' := [(0, .ref (a 3)), (1, .ref (a 2)), (2, .int (nI 0))]) C (by decide) rfl rfl dX2_joinUnits_1 ?_
  have LP2 : ∀ (jz k : Nat), k + jz = mz → aw g κ 3 2 [(0, .ref (a 3)), (1, .ref (a 2)), (2, .int (nI k))] [] (wC κ a n dug dtd so ph uf ul r ki lt er mz bd (pre (fun u => u) bo k) me dE eE lE li fB fA sL f fu fs ff fl xs ys zs oL oU lo up X) 0 0 := by
    intro jz
    induction jz with
    | zero =>
      intro k hk_k
      obtain rfl : mz = k := by omega
      refine a_iloadn (pc := 2) C 2 rfl rfl dX2_joinUnits_2 ?_
      refine a_aloadn (pc := 3) C 0 rfl rfl dX2_joinUnits_3 ?_
      refine a_get (pc := 4) C fl_X2_44 3 rfl rfl dX2_joinUnits_4 ?_
      refine a_icn_ge_y (pc := 7) (tgt := 23) C (by omega) (by omega) (by omega) (by decide) dX2_joinUnits_7 ?_
      refine a_iconst (pc := 23) (v := nI 0) C ci_0 dX2_joinUnits_23 ?_
      refine a_istoren (pc := 24) (L' := [(0, .ref (a 3)), (1, .ref (a 2)), (2, .int (nI 0))]) C (by decide) rfl rfl dX2_joinUnits_24 ?_
      have LP25 : ∀ (jz k : Nat), k + jz = r → aw g κ 3 25 [(0, .ref (a 3)), (1, .ref (a 2)), (2, .int (nI k))] [] (wC κ a n dug dtd so ph uf ul r ki lt er mz bd (jU ki lt er mz (pre (fun u => u) bo mz) k) me dE eE lE li fB fA sL f fu fs ff fl xs ys zs oL oU lo up X) 0 0 := by
        intro jz
        induction jz with
        | zero =>
          intro k hk_k
          obtain rfl : r = k := by omega
          refine a_iloadn (pc := 25) C 2 rfl rfl dX2_joinUnits_25 ?_
          refine a_aloadn (pc := 26) C 1 rfl rfl dX2_joinUnits_26 ?_
          refine a_get (pc := 27) C fl_X2_75 2 rfl rfl dX2_joinUnits_27 ?_
          refine a_icn_ge_y (pc := 30) (tgt := 75) C (by omega) (by omega) (by omega) (by decide) dX2_joinUnits_30 ?_
          exact a_vret (pc := 75) C E (Nat.le_of_ble_eq_true rfl) (Nat.le_of_ble_eq_true rfl) ⟨rfl, rfl⟩ dX2_joinUnits_75
        | succ jz ih =>
          intro k hk_k
          have hlt_k : k < r := by omega
          refine a_iloadn (pc := 25) C 2 rfl rfl dX2_joinUnits_25 ?_
          refine a_aloadn (pc := 26) C 1 rfl rfl dX2_joinUnits_26 ?_
          refine a_get (pc := 27) C fl_X2_75 2 rfl rfl dX2_joinUnits_27 ?_
          refine a_icn_ge_n (pc := 30) C (by omega) (by omega) (by omega) dX2_joinUnits_30 ⟨75, by decide⟩ ?_
          refine a_aloadn (pc := 33) C 1 rfl rfl dX2_joinUnits_33 ?_
          refine a_get (pc := 34) C fl_X2_78 2 rfl rfl dX2_joinUnits_34 ?_
          refine a_iloadn (pc := 37) C 2 rfl rfl dX2_joinUnits_37 ?_
          refine a_iald (pc := 38) C 10 rfl (by omega) (by decide) dX2_joinUnits_38 ?_
          refine a_iconst (pc := 39) (v := nI 4) C ci_4 dX2_joinUnits_39 ?_
          refine a_ic_ne (pc := 40) (tgt := 69) C (by decide) dX2_joinUnits_40 (fun c1 => ?_) (fun c1 => ?_)
          · refine a_iinc (pc := 69) (v := nI (k + 1)) (L' := [(0, .ref (a 3)), (1, .ref (a 2)), (2, .int (nI (k + 1)))]) C 2 rfl (nI_inc _) (by decide) rfl dX2_joinUnits_69 ?_
            refine a_goto (pc := 72) (tgt := 25) C (by decide) dX2_joinUnits_72 ?_
            refine aw_eq (congrArg (fun zz9 => wC κ a n dug dtd so ph uf ul r ki lt er mz bd zz9 me dE eE lE li fB fA sL f fu fs ff fl xs ys zs oL oU lo up X) (jU_n c1 : (jU ki lt er mz (pre (fun u => u) bo mz) k) = (jU ki lt er mz (pre (fun u => u) bo mz) (k + 1)))) ?_
            exact ih (k + 1) (by omega)
          · refine a_aloadn (pc := 43) C 0 rfl rfl dX2_joinUnits_43 ?_
            refine a_aloadn (pc := 44) C 0 rfl rfl dX2_joinUnits_44 ?_
            refine a_get (pc := 45) C fl_X2_9 3 rfl rfl dX2_joinUnits_45 ?_
            refine a_aloadn (pc := 48) C 1 rfl rfl dX2_joinUnits_48 ?_
            refine a_get (pc := 49) C fl_X2_81 2 rfl rfl dX2_joinUnits_49 ?_
            refine a_iloadn (pc := 52) C 2 rfl rfl dX2_joinUnits_52 ?_
            refine a_ialdN (pc := 53) C 11 rfl (by omega) (by decide) dX2_joinUnits_53 ?_
            refine a_ialdN (pc := 54) C 13 rfl (hlt _) (by decide) dX2_joinUnits_54 ?_
            refine a_aloadn (pc := 55) C 0 rfl rfl dX2_joinUnits_55 ?_
            refine a_get (pc := 56) C fl_X2_9 3 rfl rfl dX2_joinUnits_56 ?_
            refine a_aloadn (pc := 59) C 1 rfl rfl dX2_joinUnits_59 ?_
            refine a_get (pc := 60) C fl_X2_84 2 rfl rfl dX2_joinUnits_60 ?_
            refine a_iloadn (pc := 63) C 2 rfl rfl dX2_joinUnits_63 ?_
            refine a_ialdN (pc := 64) C 12 rfl (by omega) (by decide) dX2_joinUnits_64 ?_
            refine a_ialdN (pc := 65) C 13 rfl (her _) (by decide) dX2_joinUnits_65 ?_
            refine a_callV0 (pc := 66) (k' := 0) (n' := 0) C (c_X2_joinBodies κ a hm (hjU _) (hjU _ _) (hjU _ _)) yv_X2_joinBodies ml_X2_87 wi_X2_joinBodies wl_X2_joinBodies 3 rfl rfl rfl rfl (Nat.le_of_ble_eq_true rfl) (Nat.le_of_ble_eq_true rfl) (Nat.le_of_ble_eq_true rfl) ⟨(Nat.le_of_ble_eq_true rfl), (Nat.le_of_ble_eq_true rfl)⟩ rfl rfl dX2_joinUnits_66 ?_
            refine a_iinc (pc := 69) (v := nI (k + 1)) (L' := [(0, .ref (a 3)), (1, .ref (a 2)), (2, .int (nI (k + 1)))]) C 2 rfl (nI_inc _) (by decide) rfl dX2_joinUnits_69 ?_
            refine a_goto (pc := 72) (tgt := 25) C (by decide) dX2_joinUnits_72 ?_
            refine aw_eq (congrArg (fun zz9 => wC κ a n dug dtd so ph uf ul r ki lt er mz bd zz9 me dE eE lE li fB fA sL f fu fs ff fl xs ys zs oL oU lo up X) (jU_y c1 : (jB mz ((jU ki lt er mz (pre (fun u => u) bo mz) k) (lt k)) ((jU ki lt er mz (pre (fun u => u) bo mz) k) (er k)) (jU ki lt er mz (pre (fun u => u) bo mz) k)) = (jU ki lt er mz (pre (fun u => u) bo mz) (k + 1)))) ?_
            exact ih (k + 1) (by omega)
      refine aw_eq (congrArg (fun zz9 => wC κ a n dug dtd so ph uf ul r ki lt er mz bd zz9 me dE eE lE li fB fA sL f fu fs ff fl xs ys zs oL oU lo up X) (rfl : (pre (fun u => u) bo mz) = (jU ki lt er mz (pre (fun u => u) bo mz) 0))) ?_
      exact LP25 (r) (0) (by omega)
    | succ jz ih =>
      intro k hk_k
      have hlt_k : k < mz := by omega
      refine a_iloadn (pc := 2) C 2 rfl rfl dX2_joinUnits_2 ?_
      refine a_aloadn (pc := 3) C 0 rfl rfl dX2_joinUnits_3 ?_
      refine a_get (pc := 4) C fl_X2_44 3 rfl rfl dX2_joinUnits_4 ?_
      refine a_icn_ge_n (pc := 7) C (by omega) (by omega) (by omega) dX2_joinUnits_7 ⟨23, by decide⟩ ?_
      refine a_aloadn (pc := 10) C 0 rfl rfl dX2_joinUnits_10 ?_
      refine a_get (pc := 11) C fl_X2_9 3 rfl rfl dX2_joinUnits_11 ?_
      refine a_iloadn (pc := 14) C 2 rfl rfl dX2_joinUnits_14 ?_
      refine a_iloadn (pc := 15) C 2 rfl rfl dX2_joinUnits_15 ?_
      refine a_iast (pc := 16) (ws' := wC κ a n dug dtd so ph uf ul r ki lt er mz bd (va_up (pre (fun u => u) bo k) k k) me dE eE lE li fB fA sL f fu fs ff fl xs ys zs oL oU lo up X) C 13 rfl (by omega) (by decide) (fN_up _ _ _) rfl dX2_joinUnits_16 ?_
      refine a_iinc (pc := 17) (v := nI (k + 1)) (L' := [(0, .ref (a 3)), (1, .ref (a 2)), (2, .int (nI (k + 1)))]) C 2 rfl (nI_inc _) (by decide) rfl dX2_joinUnits_17 ?_
      refine a_goto (pc := 20) (tgt := 2) C (by decide) dX2_joinUnits_20 ?_
      refine aw_eq (congrArg (fun zz9 => wC κ a n dug dtd so ph uf ul r ki lt er mz bd zz9 me dE eE lE li fB fA sL f fu fs ff fl xs ys zs oL oU lo up X) (pre_s (fun u => u) bo k : (va_up (pre (fun u => u) bo k) k k) = (pre (fun u => u) bo (k + 1)))) ?_
      exact ih (k + 1) (by omega)
  refine aw_eq (congrArg (fun zz9 => wC κ a n dug dtd so ph uf ul r ki lt er mz bd zz9 me dE eE lE li fB fA sL f fu fs ff fl xs ys zs oL oU lo up X) ((pre_0 _ _).symm : bo = (pre (fun u => u) bo 0))) ?_
  exact LP2 (mz) (0) (by omega)
set_option maxHeartbeats 4000000 in
set_option maxRecDepth 100000 in
theorem c_X2_gatherMembers (κ : aK) (a : Nat → Nat) {n : Nat} {dug : Nat → Bool} {dtd : Nat → Bool} {so : Nat → Int32} {ph : Nat → Int32} {uf : Nat → Int32} {ul : Nat → Int32} {r : Nat} {ki : Nat → Int32} {lt : Nat → Nat} {er : Nat → Nat} {mz : Nat} {bd : Nat → Bool} {bo : Nat → Nat} {me : Nat → Nat → Bool} {dE : Nat → Nat → Bool} {eE : Nat → Nat → Bool} {lE : Nat → Nat → Bool} {li : Nat → Nat → Bool} {fB : Nat → Int32} {fA : Nat → Int32} {sL : Nat → Int32} {f : Nat} {fu : Nat → Nat} {fs : Nat → Int32} {ff : Nat → Int32} {fl : Nat → Int32} {xs : Nat → Int32} {ys : Nat → Int32} {zs : Nat → Int32} {oL : Nat → Int32} {oU : Nat → Int32} {lo : Nat → Int32} {up : Nat → Int32} {X : va_W} (hm : mz ≤ 40) (hbo : ∀ u, bo u < 40) : CM yX2_gatherMembers cX2_gatherMembers 2 none ({ frames := 1, cells := 0, slots := 0, locals := 20 } : Room) κ [.ref (a 3)] (wC κ a n dug dtd so ph uf ul r ki lt er mz bd bo me dE eE lE li fB fA sL f fu fs ff fl xs ys zs oL oU lo up X) (aD none (wC κ a n dug dtd so ph uf ul r ki lt er mz (bdS bo mz) bo (meA bo (pre (fun _ _ => false) me mz) mz) dE eE lE li fB fA sL f fu fs ff fl xs ys zs oL oU lo up X)) := by
  refine cm_entry (own := RX2) (L := [(0, .ref (a 3))]) (by decide +kernel) rfl (lv_entry [.ref (a 3)] (n := 2) (Nat.le_of_ble_eq_true rfl)) (fun g C E => ?_)
  refine a_aloadn (pc := 0) C 0 rfl rfl dX2_gatherMembers_0 ?_
  refine a_lconst (pc := 1) (v := bs (fun _ => false)) C bs_0 dX2_gatherMembers_1 ?_
  refine a_put (pc := 2) (ws' := wC κ a n dug dtd so ph uf ul r ki lt er mz (fun _ => false) bo me dE eE lE li fB fA sL f fu fs ff fl xs ys zs oL oU lo up X) C fl_X2_67 fp_X2_1 3 rfl rfl rfl (Nat.le_of_ble_eq_true rfl) rfl dX2_gatherMembers_2 ?_
  refine a_iconst (pc := 5) (v := nI 0) C ci_0 dX2_gatherMembers_5 ?_
  refine a_istoren (pc := 6) (L' := [(0, .ref (a 3)), (1, .int (nI 0))]) C (by decide) rfl rfl dX2_gatherMembers_6 ?_
  have LP7 : ∀ (jz k : Nat), k + jz = mz → aw g κ 2 7 [(0, .ref (a 3)), (1, .int (nI k))] [] (wC κ a n dug dtd so ph uf ul r ki lt er mz (fun _ => false) bo (pre (fun _ _ => false) me k) dE eE lE li fB fA sL f fu fs ff fl xs ys zs oL oU lo up X) 0 0 := by
    intro jz
    induction jz with
    | zero =>
      intro k hk_k
      obtain rfl : mz = k := by omega
      refine a_iloadn (pc := 7) C 1 rfl rfl dX2_gatherMembers_7 ?_
      refine a_aloadn (pc := 8) C 0 rfl rfl dX2_gatherMembers_8 ?_
      refine a_get (pc := 9) C fl_X2_44 3 rfl rfl dX2_gatherMembers_9 ?_
      refine a_icn_ge_y (pc := 12) (tgt := 28) C (by omega) (by omega) (by omega) (by decide) dX2_gatherMembers_12 ?_
      refine a_iconst (pc := 28) (v := nI 0) C ci_0 dX2_gatherMembers_28 ?_
      refine a_istoren (pc := 29) (L' := [(0, .ref (a 3)), (1, .int (nI 0))]) C (by decide) rfl rfl dX2_gatherMembers_29 ?_
      have LP30 : ∀ (jz k : Nat), k + jz = mz → aw g κ 2 30 [(0, .ref (a 3)), (1, .int (nI k))] [] (wC κ a n dug dtd so ph uf ul r ki lt er mz (bdS bo k) bo (meA bo (pre (fun _ _ => false) me mz) k) dE eE lE li fB fA sL f fu fs ff fl xs ys zs oL oU lo up X) 0 0 := by
        intro jz
        induction jz with
        | zero =>
          intro k hk_k
          obtain rfl : mz = k := by omega
          refine a_iloadn (pc := 30) C 1 rfl rfl dX2_gatherMembers_30 ?_
          refine a_aloadn (pc := 31) C 0 rfl rfl dX2_gatherMembers_31 ?_
          refine a_get (pc := 32) C fl_X2_44 3 rfl rfl dX2_gatherMembers_32 ?_
          refine a_icn_ge_y (pc := 35) (tgt := 80) C (by omega) (by omega) (by omega) (by decide) dX2_gatherMembers_35 ?_
          exact a_vret (pc := 80) C E (Nat.le_of_ble_eq_true rfl) (Nat.le_of_ble_eq_true rfl) ⟨rfl, rfl⟩ dX2_gatherMembers_80
        | succ jz ih =>
          intro k hk_k
          have hlt_k : k < mz := by omega
          refine a_iloadn (pc := 30) C 1 rfl rfl dX2_gatherMembers_30 ?_
          refine a_aloadn (pc := 31) C 0 rfl rfl dX2_gatherMembers_31 ?_
          refine a_get (pc := 32) C fl_X2_44 3 rfl rfl dX2_gatherMembers_32 ?_
          refine a_icn_ge_n (pc := 35) C (by omega) (by omega) (by omega) dX2_gatherMembers_35 ⟨80, by decide⟩ ?_
          refine a_aloadn (pc := 38) C 0 rfl rfl dX2_gatherMembers_38 ?_
          refine a_dup (pc := 39) C rfl dX2_gatherMembers_39 ?_
          refine a_get (pc := 40) C fl_X2_67 3 rfl rfl dX2_gatherMembers_40 ?_
          refine a_aloadn (pc := 43) C 0 rfl rfl dX2_gatherMembers_43 ?_
          refine a_get (pc := 44) C fl_X2_9 3 rfl rfl dX2_gatherMembers_44 ?_
          refine a_iloadn (pc := 47) C 1 rfl rfl dX2_gatherMembers_47 ?_
          refine a_ialdN (pc := 48) C 13 rfl (by omega) (by decide) dX2_gatherMembers_48 ?_
          refine a_callSN1 (pc := 49) (k' := 0) (n' := 0) C (c_X5_bit κ (Nat.lt_trans (hbo _) (by decide))) yv_X5_bit ne_X2_97 ws_X5_bit rfl rfl (Nat.le_of_ble_eq_true rfl) (Nat.le_of_ble_eq_true rfl) (Nat.le_of_ble_eq_true rfl) ⟨(Nat.le_of_ble_eq_true rfl), (Nat.le_of_ble_eq_true rfl)⟩ rfl rfl dX2_gatherMembers_49 ?_
          refine a_lor (pc := 52) (v := bs (fun i => (bdS bo k) i || (decide (i = (bo k))))) C (bs_or _ _) dX2_gatherMembers_52 ?_
          refine a_put (pc := 53) (ws' := wC κ a n dug dtd so ph uf ul r ki lt er mz (fun i => (bdS bo k) i || (decide (i = (bo k)))) bo (meA bo (pre (fun _ _ => false) me mz) k) dE eE lE li fB fA sL f fu fs ff fl xs ys zs oL oU lo up X) C fl_X2_67 fp_X2_1 3 rfl rfl rfl (Nat.le_of_ble_eq_true rfl) rfl dX2_gatherMembers_53 ?_
          refine a_aloadn (pc := 56) C 0 rfl rfl dX2_gatherMembers_56 ?_
          refine a_get (pc := 57) C fl_X2_15 3 rfl rfl dX2_gatherMembers_57 ?_
          refine a_aloadn (pc := 60) C 0 rfl rfl dX2_gatherMembers_60 ?_
          refine a_get (pc := 61) C fl_X2_9 3 rfl rfl dX2_gatherMembers_61 ?_
          refine a_iloadn (pc := 64) C 1 rfl rfl dX2_gatherMembers_64 ?_
          refine a_ialdN (pc := 65) C 13 rfl (by omega) (by decide) dX2_gatherMembers_65 ?_
          refine a_dup2 (pc := 66) C rfl rfl dX2_gatherMembers_66 ?_
          refine a_laldS (pc := 67) C 14 rfl (hbo _) (by decide) dX2_gatherMembers_67 ?_
          refine a_iloadn (pc := 68) C 1 rfl rfl dX2_gatherMembers_68 ?_
          refine a_callSN1 (pc := 69) (k' := 0) (n' := 0) C (c_X5_bit κ (by omega)) yv_X5_bit ne_X2_97 ws_X5_bit rfl rfl (Nat.le_of_ble_eq_true rfl) (Nat.le_of_ble_eq_true rfl) (Nat.le_of_ble_eq_true rfl) ⟨(Nat.le_of_ble_eq_true rfl), (Nat.le_of_ble_eq_true rfl)⟩ rfl rfl dX2_gatherMembers_69 ?_
          refine a_lor (pc := 72) (v := bs (fun i => ((meA bo (pre (fun _ _ => false) me mz) k) (bo k)) i || (decide (i = k)))) C (bs_or _ _) dX2_gatherMembers_72 ?_
          refine a_last (pc := 73) (ws' := wC κ a n dug dtd so ph uf ul r ki lt er mz (fun i => (bdS bo k) i || (decide (i = (bo k)))) bo (va_up (meA bo (pre (fun _ _ => false) me mz) k) (bo k) (fun i => ((meA bo (pre (fun _ _ => false) me mz) k) (bo k)) i || (decide (i = k)))) dE eE lE li fB fA sL f fu fs ff fl xs ys zs oL oU lo up X) C 14 rfl (hbo _) (by decide) (fS_up _ _ _) rfl dX2_gatherMembers_73 ?_
          refine a_iinc (pc := 74) (v := nI (k + 1)) (L' := [(0, .ref (a 3)), (1, .int (nI (k + 1)))]) C 1 rfl (nI_inc _) (by decide) rfl dX2_gatherMembers_74 ?_
          refine a_goto (pc := 77) (tgt := 30) C (by decide) dX2_gatherMembers_77 ?_
          refine aw_eq (congrArg (fun zz9 => wC κ a n dug dtd so ph uf ul r ki lt er mz zz9 bo (va_up (meA bo (pre (fun _ _ => false) me mz) k) (bo k) (fun i => ((meA bo (pre (fun _ _ => false) me mz) k) (bo k)) i || (decide (i = k)))) dE eE lE li fB fA sL f fu fs ff fl xs ys zs oL oU lo up X) (rfl : (fun i => (bdS bo k) i || (decide (i = (bo k)))) = (bdS bo (k + 1)))) ?_
          refine aw_eq (congrArg (fun zz9 => wC κ a n dug dtd so ph uf ul r ki lt er mz (bdS bo (k + 1)) bo zz9 dE eE lE li fB fA sL f fu fs ff fl xs ys zs oL oU lo up X) (rfl : (va_up (meA bo (pre (fun _ _ => false) me mz) k) (bo k) (fun i => ((meA bo (pre (fun _ _ => false) me mz) k) (bo k)) i || (decide (i = k)))) = (meA bo (pre (fun _ _ => false) me mz) (k + 1)))) ?_
          exact ih (k + 1) (by omega)
      refine aw_eq (congrArg (fun zz9 => wC κ a n dug dtd so ph uf ul r ki lt er mz zz9 bo (pre (fun _ _ => false) me mz) dE eE lE li fB fA sL f fu fs ff fl xs ys zs oL oU lo up X) (rfl : (fun _ => false) = (bdS bo 0))) ?_
      refine aw_eq (congrArg (fun zz9 => wC κ a n dug dtd so ph uf ul r ki lt er mz (bdS bo 0) bo zz9 dE eE lE li fB fA sL f fu fs ff fl xs ys zs oL oU lo up X) (rfl : (pre (fun _ _ => false) me mz) = (meA bo (pre (fun _ _ => false) me mz) 0))) ?_
      exact LP30 (mz) (0) (by omega)
    | succ jz ih =>
      intro k hk_k
      have hlt_k : k < mz := by omega
      refine a_iloadn (pc := 7) C 1 rfl rfl dX2_gatherMembers_7 ?_
      refine a_aloadn (pc := 8) C 0 rfl rfl dX2_gatherMembers_8 ?_
      refine a_get (pc := 9) C fl_X2_44 3 rfl rfl dX2_gatherMembers_9 ?_
      refine a_icn_ge_n (pc := 12) C (by omega) (by omega) (by omega) dX2_gatherMembers_12 ⟨28, by decide⟩ ?_
      refine a_aloadn (pc := 15) C 0 rfl rfl dX2_gatherMembers_15 ?_
      refine a_get (pc := 16) C fl_X2_15 3 rfl rfl dX2_gatherMembers_16 ?_
      refine a_iloadn (pc := 19) C 1 rfl rfl dX2_gatherMembers_19 ?_
      refine a_lconst (pc := 20) (v := bs (fun _ => false)) C bs_0 dX2_gatherMembers_20 ?_
      refine a_last (pc := 21) (ws' := wC κ a n dug dtd so ph uf ul r ki lt er mz (fun _ => false) bo (va_up (pre (fun _ _ => false) me k) k (fun _ => false)) dE eE lE li fB fA sL f fu fs ff fl xs ys zs oL oU lo up X) C 14 rfl (by omega) (by decide) (fS_up _ _ _) rfl dX2_gatherMembers_21 ?_
      refine a_iinc (pc := 22) (v := nI (k + 1)) (L' := [(0, .ref (a 3)), (1, .int (nI (k + 1)))]) C 1 rfl (nI_inc _) (by decide) rfl dX2_gatherMembers_22 ?_
      refine a_goto (pc := 25) (tgt := 7) C (by decide) dX2_gatherMembers_25 ?_
      refine aw_eq (congrArg (fun zz9 => wC κ a n dug dtd so ph uf ul r ki lt er mz (fun _ => false) bo zz9 dE eE lE li fB fA sL f fu fs ff fl xs ys zs oL oU lo up X) (pre_s (fun _ _ => false) me k : (va_up (pre (fun _ _ => false) me k) k (fun _ => false)) = (pre (fun _ _ => false) me (k + 1)))) ?_
      exact ih (k + 1) (by omega)
  refine aw_eq (congrArg (fun zz9 => wC κ a n dug dtd so ph uf ul r ki lt er mz (fun _ => false) bo zz9 dE eE lE li fB fA sL f fu fs ff fl xs ys zs oL oU lo up X) ((pre_0 _ _).symm : me = (pre (fun _ _ => false) me 0))) ?_
  exact LP7 (mz) (0) (by omega)
set_option maxHeartbeats 4000000 in
set_option maxRecDepth 100000 in
theorem c_X2_gatherDirectlyEarlier (κ : aK) (a : Nat → Nat) {n : Nat} {dug : Nat → Bool} {dtd : Nat → Bool} {so : Nat → Int32} {ph : Nat → Int32} {uf : Nat → Int32} {ul : Nat → Int32} {r : Nat} {ki : Nat → Int32} {lt : Nat → Nat} {er : Nat → Nat} {mz : Nat} {bd : Nat → Bool} {bo : Nat → Nat} {me : Nat → Nat → Bool} {dE : Nat → Nat → Bool} {eE : Nat → Nat → Bool} {lE : Nat → Nat → Bool} {li : Nat → Nat → Bool} {fB : Nat → Int32} {fA : Nat → Int32} {sL : Nat → Int32} {f : Nat} {fu : Nat → Nat} {fs : Nat → Int32} {ff : Nat → Int32} {fl : Nat → Int32} {xs : Nat → Int32} {ys : Nat → Int32} {zs : Nat → Int32} {oL : Nat → Int32} {oU : Nat → Int32} {lo : Nat → Int32} {up : Nat → Int32} {X : va_W} (hm : mz ≤ 40) (hr : r ≤ 80) (hbo : ∀ u, bo u < 40) (hlt : ∀ u, lt u < 40) (her : ∀ u, er u < 40) : CM yX2_gatherDirectlyEarlier cX2_gatherDirectlyEarlier 4 none ({ frames := 1, cells := 0, slots := 0, locals := 20 } : Room) κ [.ref (a 3), .ref (a 2)] (wC κ a n dug dtd so ph uf ul r ki lt er mz bd bo me dE eE lE li fB fA sL f fu fs ff fl xs ys zs oL oU lo up X) (aD none (wC κ a n dug dtd so ph uf ul r ki lt er mz bd bo me (dA ki lt er bo (pre (fun _ _ => false) dE mz) r) eE lE li fB fA sL f fu fs ff fl xs ys zs oL oU lo up X)) := by
  refine cm_entry (own := RX2) (L := [(0, .ref (a 3)), (1, .ref (a 2))]) (by decide +kernel) rfl (lv_entry [.ref (a 3), .ref (a 2)] (n := 4) (Nat.le_of_ble_eq_true rfl)) (fun g C E => ?_)
  refine a_iconst (pc := 0) (v := nI 0) C ci_0 dX2_gatherDirectlyEarlier_0 ?_
  refine a_istoren (pc := 1) (L' := [(0, .ref (a 3)), (1, .ref (a 2)), (2, .int (nI 0))]) C (by decide) rfl rfl dX2_gatherDirectlyEarlier_1 ?_
  have LP2 : ∀ (jz k : Nat), k + jz = mz → aw g κ 4 2 [(0, .ref (a 3)), (1, .ref (a 2)), (2, .int (nI k))] [] (wC κ a n dug dtd so ph uf ul r ki lt er mz bd bo me (pre (fun _ _ => false) dE k) eE lE li fB fA sL f fu fs ff fl xs ys zs oL oU lo up X) 0 0 := by
    intro jz
    induction jz with
    | zero =>
      intro k hk_k
      obtain rfl : mz = k := by omega
      refine a_iloadn (pc := 2) C 2 rfl rfl dX2_gatherDirectlyEarlier_2 ?_
      refine a_aloadn (pc := 3) C 0 rfl rfl dX2_gatherDirectlyEarlier_3 ?_
      refine a_get (pc := 4) C fl_X2_44 3 rfl rfl dX2_gatherDirectlyEarlier_4 ?_
      refine a_icn_ge_y (pc := 7) (tgt := 23) C (by omega) (by omega) (by omega) (by decide) dX2_gatherDirectlyEarlier_7 ?_
      refine a_iconst (pc := 23) (v := nI 0) C ci_0 dX2_gatherDirectlyEarlier_23 ?_
      refine a_istoren (pc := 24) (L' := [(0, .ref (a 3)), (1, .ref (a 2)), (2, .int (nI 0))]) C (by decide) rfl rfl dX2_gatherDirectlyEarlier_24 ?_
      have LP25 : ∀ (jz k : Nat), k + jz = r → aw g κ 4 25 [(0, .ref (a 3)), (1, .ref (a 2)), (2, .int (nI k))] [] (wC κ a n dug dtd so ph uf ul r ki lt er mz bd bo me (dA ki lt er bo (pre (fun _ _ => false) dE mz) k) eE lE li fB fA sL f fu fs ff fl xs ys zs oL oU lo up X) 0 0 := by
        intro jz
        induction jz with
        | zero =>
          intro k hk_k
          obtain rfl : r = k := by omega
          refine a_iloadn (pc := 25) C 2 rfl rfl dX2_gatherDirectlyEarlier_25 ?_
          refine a_aloadn (pc := 26) C 1 rfl rfl dX2_gatherDirectlyEarlier_26 ?_
          refine a_get (pc := 27) C fl_X2_75 2 rfl rfl dX2_gatherDirectlyEarlier_27 ?_
          refine a_icn_ge_y (pc := 30) (tgt := 84) C (by omega) (by omega) (by omega) (by decide) dX2_gatherDirectlyEarlier_30 ?_
          exact a_vret (pc := 84) C E (Nat.le_of_ble_eq_true rfl) (Nat.le_of_ble_eq_true rfl) ⟨rfl, rfl⟩ dX2_gatherDirectlyEarlier_84
        | succ jz ih =>
          intro k hk_k
          have hlt_k : k < r := by omega
          refine a_iloadn (pc := 25) C 2 rfl rfl dX2_gatherDirectlyEarlier_25 ?_
          refine a_aloadn (pc := 26) C 1 rfl rfl dX2_gatherDirectlyEarlier_26 ?_
          refine a_get (pc := 27) C fl_X2_75 2 rfl rfl dX2_gatherDirectlyEarlier_27 ?_
          refine a_icn_ge_n (pc := 30) C (by omega) (by omega) (by omega) dX2_gatherDirectlyEarlier_30 ⟨84, by decide⟩ ?_
          refine a_aloadn (pc := 33) C 1 rfl rfl dX2_gatherDirectlyEarlier_33 ?_
          refine a_get (pc := 34) C fl_X2_78 2 rfl rfl dX2_gatherDirectlyEarlier_34 ?_
          refine a_iloadn (pc := 37) C 2 rfl rfl dX2_gatherDirectlyEarlier_37 ?_
          refine a_iald (pc := 38) C 10 rfl (by omega) (by decide) dX2_gatherDirectlyEarlier_38 ?_
          refine a_iconst (pc := 39) (v := nI 4) C ci_4 dX2_gatherDirectlyEarlier_39 ?_
          refine a_ic_eq (pc := 40) (tgt := 78) C (by decide) dX2_gatherDirectlyEarlier_40 (fun c1 => ?_) (fun c1 => ?_)
          · refine a_iinc (pc := 78) (v := nI (k + 1)) (L' := [(0, .ref (a 3)), (1, .ref (a 2)), (2, .int (nI (k + 1)))]) C 2 rfl (nI_inc _) (by decide) rfl dX2_gatherDirectlyEarlier_78 ?_
            refine a_goto (pc := 81) (tgt := 25) C (by decide) dX2_gatherDirectlyEarlier_81 ?_
            refine aw_eq (congrArg (fun zz9 => wC κ a n dug dtd so ph uf ul r ki lt er mz bd bo me zz9 eE lE li fB fA sL f fu fs ff fl xs ys zs oL oU lo up X) (dA_y c1 : (dA ki lt er bo (pre (fun _ _ => false) dE mz) k) = (dA ki lt er bo (pre (fun _ _ => false) dE mz) (k + 1)))) ?_
            exact ih (k + 1) (by omega)
          · refine a_aloadn (pc := 43) C 0 rfl rfl dX2_gatherDirectlyEarlier_43 ?_
            refine a_get (pc := 44) C fl_X2_9 3 rfl rfl dX2_gatherDirectlyEarlier_44 ?_
            refine a_aloadn (pc := 47) C 1 rfl rfl dX2_gatherDirectlyEarlier_47 ?_
            refine a_get (pc := 48) C fl_X2_81 2 rfl rfl dX2_gatherDirectlyEarlier_48 ?_
            refine a_iloadn (pc := 51) C 2 rfl rfl dX2_gatherDirectlyEarlier_51 ?_
            refine a_ialdN (pc := 52) C 11 rfl (by omega) (by decide) dX2_gatherDirectlyEarlier_52 ?_
            refine a_ialdN (pc := 53) C 13 rfl (hlt _) (by decide) dX2_gatherDirectlyEarlier_53 ?_
            refine a_istoren (pc := 54) (L' := [(0, .ref (a 3)), (1, .ref (a 2)), (2, .int (nI k)), (3, .int (nI (bo (lt k))))]) C (by decide) rfl rfl dX2_gatherDirectlyEarlier_54 ?_
            refine a_aloadn (pc := 55) C 0 rfl rfl dX2_gatherDirectlyEarlier_55 ?_
            refine a_get (pc := 56) C fl_X2_19 3 rfl rfl dX2_gatherDirectlyEarlier_56 ?_
            refine a_iloadn (pc := 59) C 3 rfl rfl dX2_gatherDirectlyEarlier_59 ?_
            refine a_dup2 (pc := 60) C rfl rfl dX2_gatherDirectlyEarlier_60 ?_
            refine a_laldS (pc := 61) C 15 rfl (hbo _) (by decide) dX2_gatherDirectlyEarlier_61 ?_
            refine a_aloadn (pc := 62) C 0 rfl rfl dX2_gatherDirectlyEarlier_62 ?_
            refine a_get (pc := 63) C fl_X2_9 3 rfl rfl dX2_gatherDirectlyEarlier_63 ?_
            refine a_aloadn (pc := 66) C 1 rfl rfl dX2_gatherDirectlyEarlier_66 ?_
            refine a_get (pc := 67) C fl_X2_84 2 rfl rfl dX2_gatherDirectlyEarlier_67 ?_
            refine a_iloadn (pc := 70) C 2 rfl rfl dX2_gatherDirectlyEarlier_70 ?_
            refine a_ialdN (pc := 71) C 12 rfl (by omega) (by decide) dX2_gatherDirectlyEarlier_71 ?_
            refine a_ialdN (pc := 72) C 13 rfl (her _) (by decide) dX2_gatherDirectlyEarlier_72 ?_
            refine a_callSN1 (pc := 73) (k' := 0) (n' := 0) C (c_X5_bit κ (Nat.lt_trans (hbo _) (by decide))) yv_X5_bit ne_X2_97 ws_X5_bit rfl rfl (Nat.le_of_ble_eq_true rfl) (Nat.le_of_ble_eq_true rfl) (Nat.le_of_ble_eq_true rfl) ⟨(Nat.le_of_ble_eq_true rfl), (Nat.le_of_ble_eq_true rfl)⟩ rfl rfl dX2_gatherDirectlyEarlier_73 ?_
            refine a_lor (pc := 76) (v := bs (fun i => ((dA ki lt er bo (pre (fun _ _ => false) dE mz) k) (bo (lt k))) i || (decide (i = (bo (er k)))))) C (bs_or _ _) dX2_gatherDirectlyEarlier_76 ?_
            refine a_last (pc := 77) (ws' := wC κ a n dug dtd so ph uf ul r ki lt er mz bd bo me (va_up (dA ki lt er bo (pre (fun _ _ => false) dE mz) k) (bo (lt k)) (fun i => ((dA ki lt er bo (pre (fun _ _ => false) dE mz) k) (bo (lt k))) i || (decide (i = (bo (er k)))))) eE lE li fB fA sL f fu fs ff fl xs ys zs oL oU lo up X) C 15 rfl (hbo _) (by decide) (fS_up _ _ _) rfl dX2_gatherDirectlyEarlier_77 ?_
            refine a_iinc (pc := 78) (v := nI (k + 1)) (L' := [(0, .ref (a 3)), (1, .ref (a 2)), (2, .int (nI (k + 1))), (3, .int (nI (bo (lt k))))]) C 2 rfl (nI_inc _) (by decide) rfl dX2_gatherDirectlyEarlier_78 ?_
            refine a_goto (pc := 81) (tgt := 25) C (by decide) dX2_gatherDirectlyEarlier_81 ?_
            refine aw_locals (L' := [(0, .ref (a 3)), (1, .ref (a 2)), (2, .int (nI (k + 1)))]) [0, 1, 2] rfl ?_
            refine aw_eq (congrArg (fun zz9 => wC κ a n dug dtd so ph uf ul r ki lt er mz bd bo me zz9 eE lE li fB fA sL f fu fs ff fl xs ys zs oL oU lo up X) (dA_n c1 : (va_up (dA ki lt er bo (pre (fun _ _ => false) dE mz) k) (bo (lt k)) (fun i => ((dA ki lt er bo (pre (fun _ _ => false) dE mz) k) (bo (lt k))) i || (decide (i = (bo (er k)))))) = (dA ki lt er bo (pre (fun _ _ => false) dE mz) (k + 1)))) ?_
            exact ih (k + 1) (by omega)
      refine aw_eq (congrArg (fun zz9 => wC κ a n dug dtd so ph uf ul r ki lt er mz bd bo me zz9 eE lE li fB fA sL f fu fs ff fl xs ys zs oL oU lo up X) (rfl : (pre (fun _ _ => false) dE mz) = (dA ki lt er bo (pre (fun _ _ => false) dE mz) 0))) ?_
      exact LP25 (r) (0) (by omega)
    | succ jz ih =>
      intro k hk_k
      have hlt_k : k < mz := by omega
      refine a_iloadn (pc := 2) C 2 rfl rfl dX2_gatherDirectlyEarlier_2 ?_
      refine a_aloadn (pc := 3) C 0 rfl rfl dX2_gatherDirectlyEarlier_3 ?_
      refine a_get (pc := 4) C fl_X2_44 3 rfl rfl dX2_gatherDirectlyEarlier_4 ?_
      refine a_icn_ge_n (pc := 7) C (by omega) (by omega) (by omega) dX2_gatherDirectlyEarlier_7 ⟨23, by decide⟩ ?_
      refine a_aloadn (pc := 10) C 0 rfl rfl dX2_gatherDirectlyEarlier_10 ?_
      refine a_get (pc := 11) C fl_X2_19 3 rfl rfl dX2_gatherDirectlyEarlier_11 ?_
      refine a_iloadn (pc := 14) C 2 rfl rfl dX2_gatherDirectlyEarlier_14 ?_
      refine a_lconst (pc := 15) (v := bs (fun _ => false)) C bs_0 dX2_gatherDirectlyEarlier_15 ?_
      refine a_last (pc := 16) (ws' := wC κ a n dug dtd so ph uf ul r ki lt er mz bd bo me (va_up (pre (fun _ _ => false) dE k) k (fun _ => false)) eE lE li fB fA sL f fu fs ff fl xs ys zs oL oU lo up X) C 15 rfl (by omega) (by decide) (fS_up _ _ _) rfl dX2_gatherDirectlyEarlier_16 ?_
      refine a_iinc (pc := 17) (v := nI (k + 1)) (L' := [(0, .ref (a 3)), (1, .ref (a 2)), (2, .int (nI (k + 1)))]) C 2 rfl (nI_inc _) (by decide) rfl dX2_gatherDirectlyEarlier_17 ?_
      refine a_goto (pc := 20) (tgt := 2) C (by decide) dX2_gatherDirectlyEarlier_20 ?_
      refine aw_eq (congrArg (fun zz9 => wC κ a n dug dtd so ph uf ul r ki lt er mz bd bo me zz9 eE lE li fB fA sL f fu fs ff fl xs ys zs oL oU lo up X) (pre_s (fun _ _ => false) dE k : (va_up (pre (fun _ _ => false) dE k) k (fun _ => false)) = (pre (fun _ _ => false) dE (k + 1)))) ?_
      exact ih (k + 1) (by omega)
  refine aw_eq (congrArg (fun zz9 => wC κ a n dug dtd so ph uf ul r ki lt er mz bd bo me zz9 eE lE li fB fA sL f fu fs ff fl xs ys zs oL oU lo up X) ((pre_0 _ _).symm : dE = (pre (fun _ _ => false) dE 0))) ?_
  exact LP2 (mz) (0) (by omega)
set_option maxHeartbeats 4000000 in
set_option maxRecDepth 100000 in
theorem c_X2_gatherEarlier (κ : aK) (a : Nat → Nat) {n : Nat} {dug : Nat → Bool} {dtd : Nat → Bool} {so : Nat → Int32} {ph : Nat → Int32} {uf : Nat → Int32} {ul : Nat → Int32} {r : Nat} {ki : Nat → Int32} {lt : Nat → Nat} {er : Nat → Nat} {mz : Nat} {bd : Nat → Bool} {bo : Nat → Nat} {me : Nat → Nat → Bool} {dE : Nat → Nat → Bool} {eE : Nat → Nat → Bool} {lE : Nat → Nat → Bool} {li : Nat → Nat → Bool} {fB : Nat → Int32} {fA : Nat → Int32} {sL : Nat → Int32} {f : Nat} {fu : Nat → Nat} {fs : Nat → Int32} {ff : Nat → Int32} {fl : Nat → Int32} {xs : Nat → Int32} {ys : Nat → Int32} {zs : Nat → Int32} {oL : Nat → Int32} {oU : Nat → Int32} {lo : Nat → Int32} {up : Nat → Int32} {X : va_W} (hm : mz ≤ 40) : CM yX2_gatherEarlier cX2_gatherEarlier 3 none ({ frames := 2, cells := 0, slots := 0, locals := 42 } : Room) κ [.ref (a 3)] (wC κ a n dug dtd so ph uf ul r ki lt er mz bd bo me dE eE lE li fB fA sL f fu fs ff fl xs ys zs oL oU lo up X) (aD none (wC κ a n dug dtd so ph uf ul r ki lt er mz bd bo me dE (wO mz (pre dE eE mz) mz) lE li fB fA sL f fu fs ff fl xs ys zs oL oU lo up X)) := by
  refine cm_entry (own := RX2) (L := [(0, .ref (a 3))]) (by decide +kernel) rfl (lv_entry [.ref (a 3)] (n := 3) (Nat.le_of_ble_eq_true rfl)) (fun g C E => ?_)
  refine a_iconst (pc := 0) (v := nI 0) C ci_0 dX2_gatherEarlier_0 ?_
  refine a_istoren (pc := 1) (L' := [(0, .ref (a 3)), (1, .int (nI 0))]) C (by decide) rfl rfl dX2_gatherEarlier_1 ?_
  have LP2 : ∀ (jz k : Nat), k + jz = mz → aw g κ 3 2 [(0, .ref (a 3)), (1, .int (nI k))] [] (wC κ a n dug dtd so ph uf ul r ki lt er mz bd bo me dE (pre dE eE k) lE li fB fA sL f fu fs ff fl xs ys zs oL oU lo up X) 0 0 := by
    intro jz
    induction jz with
    | zero =>
      intro k hk_k
      obtain rfl : mz = k := by omega
      refine a_iloadn (pc := 2) C 1 rfl rfl dX2_gatherEarlier_2 ?_
      refine a_aloadn (pc := 3) C 0 rfl rfl dX2_gatherEarlier_3 ?_
      refine a_get (pc := 4) C fl_X2_44 3 rfl rfl dX2_gatherEarlier_4 ?_
      refine a_icn_ge_y (pc := 7) (tgt := 28) C (by omega) (by omega) (by omega) (by decide) dX2_gatherEarlier_7 ?_
      refine a_iconst (pc := 28) (v := nI 0) C ci_0 dX2_gatherEarlier_28 ?_
      refine a_istoren (pc := 29) (L' := [(0, .ref (a 3)), (1, .int (nI 0))]) C (by decide) rfl rfl dX2_gatherEarlier_29 ?_
      have LP30 : ∀ (jz q : Nat), q + jz = mz → aw g κ 3 30 [(0, .ref (a 3)), (1, .int (nI q))] [] (wC κ a n dug dtd so ph uf ul r ki lt er mz bd bo me dE (wO mz (pre dE eE mz) q) lE li fB fA sL f fu fs ff fl xs ys zs oL oU lo up X) 0 0 := by
        intro jz
        induction jz with
        | zero =>
          intro q hk_q
          obtain rfl : mz = q := by omega
          refine a_iloadn (pc := 30) C 1 rfl rfl dX2_gatherEarlier_30 ?_
          refine a_aloadn (pc := 31) C 0 rfl rfl dX2_gatherEarlier_31 ?_
          refine a_get (pc := 32) C fl_X2_44 3 rfl rfl dX2_gatherEarlier_32 ?_
          refine a_icn_ge_y (pc := 35) (tgt := 88) C (by omega) (by omega) (by omega) (by decide) dX2_gatherEarlier_35 ?_
          exact a_vret (pc := 88) C E (Nat.le_of_ble_eq_true rfl) (Nat.le_of_ble_eq_true rfl) ⟨rfl, rfl⟩ dX2_gatherEarlier_88
        | succ jz ih =>
          intro q hk_q
          have hlt_q : q < mz := by omega
          refine a_iloadn (pc := 30) C 1 rfl rfl dX2_gatherEarlier_30 ?_
          refine a_aloadn (pc := 31) C 0 rfl rfl dX2_gatherEarlier_31 ?_
          refine a_get (pc := 32) C fl_X2_44 3 rfl rfl dX2_gatherEarlier_32 ?_
          refine a_icn_ge_n (pc := 35) C (by omega) (by omega) (by omega) dX2_gatherEarlier_35 ⟨88, by decide⟩ ?_
          refine a_iconst (pc := 38) (v := nI 0) C ci_0 dX2_gatherEarlier_38 ?_
          refine a_istoren (pc := 39) (L' := [(0, .ref (a 3)), (1, .int (nI q)), (2, .int (nI 0))]) C (by decide) rfl rfl dX2_gatherEarlier_39 ?_
          have LP40 : ∀ (jz k : Nat), k + jz = mz → aw g κ 3 40 [(0, .ref (a 3)), (1, .int (nI q)), (2, .int (nI k))] [] (wC κ a n dug dtd so ph uf ul r ki lt er mz bd bo me dE (wI q (wO mz (pre dE eE mz) q) k) lE li fB fA sL f fu fs ff fl xs ys zs oL oU lo up X) 0 0 := by
            intro jz
            induction jz with
            | zero =>
              intro k hk_k
              obtain rfl : mz = k := by omega
              refine a_iloadn (pc := 40) C 2 rfl rfl dX2_gatherEarlier_40 ?_
              refine a_aloadn (pc := 41) C 0 rfl rfl dX2_gatherEarlier_41 ?_
              refine a_get (pc := 42) C fl_X2_44 3 rfl rfl dX2_gatherEarlier_42 ?_
              refine a_icn_ge_y (pc := 45) (tgt := 82) C (by omega) (by omega) (by omega) (by decide) dX2_gatherEarlier_45 ?_
              refine a_iinc (pc := 82) (v := nI (q + 1)) (L' := [(0, .ref (a 3)), (1, .int (nI (q + 1))), (2, .int (nI mz))]) C 1 rfl (nI_inc _) (by decide) rfl dX2_gatherEarlier_82 ?_
              refine a_goto (pc := 85) (tgt := 30) C (by decide) dX2_gatherEarlier_85 ?_
              refine aw_locals (L' := [(0, .ref (a 3)), (1, .int (nI (q + 1)))]) [0, 1] rfl ?_
              refine aw_eq (congrArg (fun zz9 => wC κ a n dug dtd so ph uf ul r ki lt er mz bd bo me dE zz9 lE li fB fA sL f fu fs ff fl xs ys zs oL oU lo up X) (rfl : (wI q (wO mz (pre dE eE mz) q) mz) = (wO mz (pre dE eE mz) (q + 1)))) ?_
              exact ih (q + 1) (by omega)
            | succ jz ih =>
              intro k hk_k
              have hlt_k : k < mz := by omega
              refine a_iloadn (pc := 40) C 2 rfl rfl dX2_gatherEarlier_40 ?_
              refine a_aloadn (pc := 41) C 0 rfl rfl dX2_gatherEarlier_41 ?_
              refine a_get (pc := 42) C fl_X2_44 3 rfl rfl dX2_gatherEarlier_42 ?_
              refine a_icn_ge_n (pc := 45) C (by omega) (by omega) (by omega) dX2_gatherEarlier_45 ⟨82, by decide⟩ ?_
              refine a_aloadn (pc := 48) C 0 rfl rfl dX2_gatherEarlier_48 ?_
              refine a_get (pc := 49) C fl_X2_22 3 rfl rfl dX2_gatherEarlier_49 ?_
              refine a_iloadn (pc := 52) C 2 rfl rfl dX2_gatherEarlier_52 ?_
              refine a_laldS (pc := 53) C 16 rfl (by omega) (by decide) dX2_gatherEarlier_53 ?_
              refine a_iloadn (pc := 54) C 1 rfl rfl dX2_gatherEarlier_54 ?_
              refine a_callSN1 (pc := 55) (k' := 0) (n' := 0) C (c_X5_has κ (by omega)) yv_X5_has ne_X2_40 ws_X5_has rfl rfl (Nat.le_of_ble_eq_true rfl) (Nat.le_of_ble_eq_true rfl) (Nat.le_of_ble_eq_true rfl) ⟨(Nat.le_of_ble_eq_true rfl), (Nat.le_of_ble_eq_true rfl)⟩ rfl rfl dX2_gatherEarlier_55 ?_
              refine a_ifb_eq (pc := 58) (tgt := 76) C (by decide) dX2_gatherEarlier_58 (fun c1 => ?_) (fun c1 => ?_)
              · refine a_iinc (pc := 76) (v := nI (k + 1)) (L' := [(0, .ref (a 3)), (1, .int (nI q)), (2, .int (nI (k + 1)))]) C 2 rfl (nI_inc _) (by decide) rfl dX2_gatherEarlier_76 ?_
                refine a_goto (pc := 79) (tgt := 40) C (by decide) dX2_gatherEarlier_79 ?_
                refine aw_eq (congrArg (fun zz9 => wC κ a n dug dtd so ph uf ul r ki lt er mz bd bo me dE zz9 lE li fB fA sL f fu fs ff fl xs ys zs oL oU lo up X) (wI_n c1 : (wI q (wO mz (pre dE eE mz) q) k) = (wI q (wO mz (pre dE eE mz) q) (k + 1)))) ?_
                exact ih (k + 1) (by omega)
              · refine a_aloadn (pc := 61) C 0 rfl rfl dX2_gatherEarlier_61 ?_
                refine a_get (pc := 62) C fl_X2_22 3 rfl rfl dX2_gatherEarlier_62 ?_
                refine a_iloadn (pc := 65) C 2 rfl rfl dX2_gatherEarlier_65 ?_
                refine a_dup2 (pc := 66) C rfl rfl dX2_gatherEarlier_66 ?_
                refine a_laldS (pc := 67) C 16 rfl (by omega) (by decide) dX2_gatherEarlier_67 ?_
                refine a_aloadn (pc := 68) C 0 rfl rfl dX2_gatherEarlier_68 ?_
                refine a_get (pc := 69) C fl_X2_22 3 rfl rfl dX2_gatherEarlier_69 ?_
                refine a_iloadn (pc := 72) C 1 rfl rfl dX2_gatherEarlier_72 ?_
                refine a_laldS (pc := 73) C 16 rfl (by omega) (by decide) dX2_gatherEarlier_73 ?_
                refine a_lor (pc := 74) (v := bs (fun i => ((wI q (wO mz (pre dE eE mz) q) k) k) i || ((wI q (wO mz (pre dE eE mz) q) k) q) i)) C (bs_or _ _) dX2_gatherEarlier_74 ?_
                refine a_last (pc := 75) (ws' := wC κ a n dug dtd so ph uf ul r ki lt er mz bd bo me dE (va_up (wI q (wO mz (pre dE eE mz) q) k) k (fun i => ((wI q (wO mz (pre dE eE mz) q) k) k) i || ((wI q (wO mz (pre dE eE mz) q) k) q) i)) lE li fB fA sL f fu fs ff fl xs ys zs oL oU lo up X) C 16 rfl (by omega) (by decide) (fS_up _ _ _) rfl dX2_gatherEarlier_75 ?_
                refine a_iinc (pc := 76) (v := nI (k + 1)) (L' := [(0, .ref (a 3)), (1, .int (nI q)), (2, .int (nI (k + 1)))]) C 2 rfl (nI_inc _) (by decide) rfl dX2_gatherEarlier_76 ?_
                refine a_goto (pc := 79) (tgt := 40) C (by decide) dX2_gatherEarlier_79 ?_
                refine aw_eq (congrArg (fun zz9 => wC κ a n dug dtd so ph uf ul r ki lt er mz bd bo me dE zz9 lE li fB fA sL f fu fs ff fl xs ys zs oL oU lo up X) (wI_y c1 : (va_up (wI q (wO mz (pre dE eE mz) q) k) k (fun i => ((wI q (wO mz (pre dE eE mz) q) k) k) i || ((wI q (wO mz (pre dE eE mz) q) k) q) i)) = (wI q (wO mz (pre dE eE mz) q) (k + 1)))) ?_
                exact ih (k + 1) (by omega)
          refine aw_eq (congrArg (fun zz9 => wC κ a n dug dtd so ph uf ul r ki lt er mz bd bo me dE zz9 lE li fB fA sL f fu fs ff fl xs ys zs oL oU lo up X) (rfl : (wO mz (pre dE eE mz) q) = (wI q (wO mz (pre dE eE mz) q) 0))) ?_
          exact LP40 (mz) (0) (by omega)
      refine aw_eq (congrArg (fun zz9 => wC κ a n dug dtd so ph uf ul r ki lt er mz bd bo me dE zz9 lE li fB fA sL f fu fs ff fl xs ys zs oL oU lo up X) (rfl : (pre dE eE mz) = (wO mz (pre dE eE mz) 0))) ?_
      exact LP30 (mz) (0) (by omega)
    | succ jz ih =>
      intro k hk_k
      have hlt_k : k < mz := by omega
      refine a_iloadn (pc := 2) C 1 rfl rfl dX2_gatherEarlier_2 ?_
      refine a_aloadn (pc := 3) C 0 rfl rfl dX2_gatherEarlier_3 ?_
      refine a_get (pc := 4) C fl_X2_44 3 rfl rfl dX2_gatherEarlier_4 ?_
      refine a_icn_ge_n (pc := 7) C (by omega) (by omega) (by omega) dX2_gatherEarlier_7 ⟨28, by decide⟩ ?_
      refine a_aloadn (pc := 10) C 0 rfl rfl dX2_gatherEarlier_10 ?_
      refine a_get (pc := 11) C fl_X2_22 3 rfl rfl dX2_gatherEarlier_11 ?_
      refine a_iloadn (pc := 14) C 1 rfl rfl dX2_gatherEarlier_14 ?_
      refine a_aloadn (pc := 15) C 0 rfl rfl dX2_gatherEarlier_15 ?_
      refine a_get (pc := 16) C fl_X2_19 3 rfl rfl dX2_gatherEarlier_16 ?_
      refine a_iloadn (pc := 19) C 1 rfl rfl dX2_gatherEarlier_19 ?_
      refine a_laldS (pc := 20) C 15 rfl (by omega) (by decide) dX2_gatherEarlier_20 ?_
      refine a_last (pc := 21) (ws' := wC κ a n dug dtd so ph uf ul r ki lt er mz bd bo me dE (va_up (pre dE eE k) k (dE k)) lE li fB fA sL f fu fs ff fl xs ys zs oL oU lo up X) C 16 rfl (by omega) (by decide) (fS_up _ _ _) rfl dX2_gatherEarlier_21 ?_
      refine a_iinc (pc := 22) (v := nI (k + 1)) (L' := [(0, .ref (a 3)), (1, .int (nI (k + 1)))]) C 1 rfl (nI_inc _) (by decide) rfl dX2_gatherEarlier_22 ?_
      refine a_goto (pc := 25) (tgt := 2) C (by decide) dX2_gatherEarlier_25 ?_
      refine aw_eq (congrArg (fun zz9 => wC κ a n dug dtd so ph uf ul r ki lt er mz bd bo me dE zz9 lE li fB fA sL f fu fs ff fl xs ys zs oL oU lo up X) (pre_s dE eE k : (va_up (pre dE eE k) k (dE k)) = (pre dE eE (k + 1)))) ?_
      exact ih (k + 1) (by omega)
  refine aw_eq (congrArg (fun zz9 => wC κ a n dug dtd so ph uf ul r ki lt er mz bd bo me dE zz9 lE li fB fA sL f fu fs ff fl xs ys zs oL oU lo up X) ((pre_0 _ _).symm : eE = (pre dE eE 0))) ?_
  exact LP2 (mz) (0) (by omega)
set_option maxHeartbeats 4000000 in
set_option maxRecDepth 100000 in
theorem c_X2_gatherLater (κ : aK) (a : Nat → Nat) {n : Nat} {dug : Nat → Bool} {dtd : Nat → Bool} {so : Nat → Int32} {ph : Nat → Int32} {uf : Nat → Int32} {ul : Nat → Int32} {r : Nat} {ki : Nat → Int32} {lt : Nat → Nat} {er : Nat → Nat} {mz : Nat} {bd : Nat → Bool} {bo : Nat → Nat} {me : Nat → Nat → Bool} {dE : Nat → Nat → Bool} {eE : Nat → Nat → Bool} {lE : Nat → Nat → Bool} {li : Nat → Nat → Bool} {fB : Nat → Int32} {fA : Nat → Int32} {sL : Nat → Int32} {f : Nat} {fu : Nat → Nat} {fs : Nat → Int32} {ff : Nat → Int32} {fl : Nat → Int32} {xs : Nat → Int32} {ys : Nat → Int32} {zs : Nat → Int32} {oL : Nat → Int32} {oU : Nat → Int32} {lo : Nat → Int32} {up : Nat → Int32} {X : va_W} (hm : mz ≤ 40) : CM yX2_gatherLater cX2_gatherLater 3 none ({ frames := 2, cells := 0, slots := 0, locals := 42 } : Room) κ [.ref (a 3)] (wC κ a n dug dtd so ph uf ul r ki lt er mz bd bo me dE eE lE li fB fA sL f fu fs ff fl xs ys zs oL oU lo up X) (aD none (wC κ a n dug dtd so ph uf ul r ki lt er mz bd bo me dE eE (pre (fun v => laS eE v mz) lE mz) li fB fA sL f fu fs ff fl xs ys zs oL oU lo up X)) := by
  refine cm_entry (own := RX2) (L := [(0, .ref (a 3))]) (by decide +kernel) rfl (lv_entry [.ref (a 3)] (n := 3) (Nat.le_of_ble_eq_true rfl)) (fun g C E => ?_)
  refine a_iconst (pc := 0) (v := nI 0) C ci_0 dX2_gatherLater_0 ?_
  refine a_istoren (pc := 1) (L' := [(0, .ref (a 3)), (1, .int (nI 0))]) C (by decide) rfl rfl dX2_gatherLater_1 ?_
  have LP2 : ∀ (jz q : Nat), q + jz = mz → aw g κ 3 2 [(0, .ref (a 3)), (1, .int (nI q))] [] (wC κ a n dug dtd so ph uf ul r ki lt er mz bd bo me dE eE (pre (fun v => laS eE v mz) lE q) li fB fA sL f fu fs ff fl xs ys zs oL oU lo up X) 0 0 := by
    intro jz
    induction jz with
    | zero =>
      intro q hk_q
      obtain rfl : mz = q := by omega
      refine a_iloadn (pc := 2) C 1 rfl rfl dX2_gatherLater_2 ?_
      refine a_aloadn (pc := 3) C 0 rfl rfl dX2_gatherLater_3 ?_
      refine a_get (pc := 4) C fl_X2_44 3 rfl rfl dX2_gatherLater_4 ?_
      refine a_icn_ge_y (pc := 7) (tgt := 65) C (by omega) (by omega) (by omega) (by decide) dX2_gatherLater_7 ?_
      exact a_vret (pc := 65) C E (Nat.le_of_ble_eq_true rfl) (Nat.le_of_ble_eq_true rfl) ⟨rfl, rfl⟩ dX2_gatherLater_65
    | succ jz ih =>
      intro q hk_q
      have hlt_q : q < mz := by omega
      refine a_iloadn (pc := 2) C 1 rfl rfl dX2_gatherLater_2 ?_
      refine a_aloadn (pc := 3) C 0 rfl rfl dX2_gatherLater_3 ?_
      refine a_get (pc := 4) C fl_X2_44 3 rfl rfl dX2_gatherLater_4 ?_
      refine a_icn_ge_n (pc := 7) C (by omega) (by omega) (by omega) dX2_gatherLater_7 ⟨65, by decide⟩ ?_
      refine a_aloadn (pc := 10) C 0 rfl rfl dX2_gatherLater_10 ?_
      refine a_get (pc := 11) C fl_X2_25 3 rfl rfl dX2_gatherLater_11 ?_
      refine a_iloadn (pc := 14) C 1 rfl rfl dX2_gatherLater_14 ?_
      refine a_lconst (pc := 15) (v := bs (fun _ => false)) C bs_0 dX2_gatherLater_15 ?_
      refine a_last (pc := 16) (ws' := wC κ a n dug dtd so ph uf ul r ki lt er mz bd bo me dE eE (va_up (pre (fun v => laS eE v mz) lE q) q (fun _ => false)) li fB fA sL f fu fs ff fl xs ys zs oL oU lo up X) C 17 rfl (by omega) (by decide) (fS_up _ _ _) rfl dX2_gatherLater_16 ?_
      refine a_iconst (pc := 17) (v := nI 0) C ci_0 dX2_gatherLater_17 ?_
      refine a_istoren (pc := 18) (L' := [(0, .ref (a 3)), (1, .int (nI q)), (2, .int (nI 0))]) C (by decide) rfl rfl dX2_gatherLater_18 ?_
      have LP19 : ∀ (jz k : Nat), k + jz = mz → aw g κ 3 19 [(0, .ref (a 3)), (1, .int (nI q)), (2, .int (nI k))] [] (wC κ a n dug dtd so ph uf ul r ki lt er mz bd bo me dE eE (va_up (pre (fun v => laS eE v mz) lE q) q (laS eE q k)) li fB fA sL f fu fs ff fl xs ys zs oL oU lo up X) 0 0 := by
        intro jz
        induction jz with
        | zero =>
          intro k hk_k
          obtain rfl : mz = k := by omega
          refine a_iloadn (pc := 19) C 2 rfl rfl dX2_gatherLater_19 ?_
          refine a_aloadn (pc := 20) C 0 rfl rfl dX2_gatherLater_20 ?_
          refine a_get (pc := 21) C fl_X2_44 3 rfl rfl dX2_gatherLater_21 ?_
          refine a_icn_ge_y (pc := 24) (tgt := 59) C (by omega) (by omega) (by omega) (by decide) dX2_gatherLater_24 ?_
          refine a_iinc (pc := 59) (v := nI (q + 1)) (L' := [(0, .ref (a 3)), (1, .int (nI (q + 1))), (2, .int (nI mz))]) C 1 rfl (nI_inc _) (by decide) rfl dX2_gatherLater_59 ?_
          refine a_goto (pc := 62) (tgt := 2) C (by decide) dX2_gatherLater_62 ?_
          refine aw_locals (L' := [(0, .ref (a 3)), (1, .int (nI (q + 1)))]) [0, 1] rfl ?_
          refine aw_eq (congrArg (fun zz9 => wC κ a n dug dtd so ph uf ul r ki lt er mz bd bo me dE eE zz9 li fB fA sL f fu fs ff fl xs ys zs oL oU lo up X) (pre_s (fun v => laS eE v mz) lE q : (va_up (pre (fun v => laS eE v mz) lE q) q (laS eE q mz)) = (pre (fun v => laS eE v mz) lE (q + 1)))) ?_
          exact ih (q + 1) (by omega)
        | succ jz ih =>
          intro k hk_k
          have hlt_k : k < mz := by omega
          refine a_iloadn (pc := 19) C 2 rfl rfl dX2_gatherLater_19 ?_
          refine a_aloadn (pc := 20) C 0 rfl rfl dX2_gatherLater_20 ?_
          refine a_get (pc := 21) C fl_X2_44 3 rfl rfl dX2_gatherLater_21 ?_
          refine a_icn_ge_n (pc := 24) C (by omega) (by omega) (by omega) dX2_gatherLater_24 ⟨59, by decide⟩ ?_
          refine a_aloadn (pc := 27) C 0 rfl rfl dX2_gatherLater_27 ?_
          refine a_get (pc := 28) C fl_X2_22 3 rfl rfl dX2_gatherLater_28 ?_
          refine a_iloadn (pc := 31) C 2 rfl rfl dX2_gatherLater_31 ?_
          refine a_laldS (pc := 32) C 16 rfl (by omega) (by decide) dX2_gatherLater_32 ?_
          refine a_iloadn (pc := 33) C 1 rfl rfl dX2_gatherLater_33 ?_
          refine a_callSN1 (pc := 34) (k' := 0) (n' := 0) C (c_X5_has κ (by omega)) yv_X5_has ne_X2_40 ws_X5_has rfl rfl (Nat.le_of_ble_eq_true rfl) (Nat.le_of_ble_eq_true rfl) (Nat.le_of_ble_eq_true rfl) ⟨(Nat.le_of_ble_eq_true rfl), (Nat.le_of_ble_eq_true rfl)⟩ rfl rfl dX2_gatherLater_34 ?_
          refine a_ifb_eq (pc := 37) (tgt := 53) C (by decide) dX2_gatherLater_37 (fun c1 => ?_) (fun c1 => ?_)
          · refine a_iinc (pc := 53) (v := nI (k + 1)) (L' := [(0, .ref (a 3)), (1, .int (nI q)), (2, .int (nI (k + 1)))]) C 2 rfl (nI_inc _) (by decide) rfl dX2_gatherLater_53 ?_
            refine a_goto (pc := 56) (tgt := 19) C (by decide) dX2_gatherLater_56 ?_
            refine aw_eq (congrArg (fun zz9 => wC κ a n dug dtd so ph uf ul r ki lt er mz bd bo me dE eE zz9 li fB fA sL f fu fs ff fl xs ys zs oL oU lo up X) (by rw [← laS_n c1] : (va_up (pre (fun v => laS eE v mz) lE q) q (laS eE q k)) = (va_up (pre (fun v => laS eE v mz) lE q) q (laS eE q (k + 1))))) ?_
            exact ih (k + 1) (by omega)
          · refine a_aloadn (pc := 40) C 0 rfl rfl dX2_gatherLater_40 ?_
            refine a_get (pc := 41) C fl_X2_25 3 rfl rfl dX2_gatherLater_41 ?_
            refine a_iloadn (pc := 44) C 1 rfl rfl dX2_gatherLater_44 ?_
            refine a_dup2 (pc := 45) C rfl rfl dX2_gatherLater_45 ?_
            refine a_laldS (pc := 46) C 17 rfl (by omega) (by decide) dX2_gatherLater_46 ?_
            refine a_iloadn (pc := 47) C 2 rfl rfl dX2_gatherLater_47 ?_
            refine a_callSN1 (pc := 48) (k' := 0) (n' := 0) C (c_X5_bit κ (by omega)) yv_X5_bit ne_X2_97 ws_X5_bit rfl rfl (Nat.le_of_ble_eq_true rfl) (Nat.le_of_ble_eq_true rfl) (Nat.le_of_ble_eq_true rfl) ⟨(Nat.le_of_ble_eq_true rfl), (Nat.le_of_ble_eq_true rfl)⟩ rfl rfl dX2_gatherLater_48 ?_
            refine a_lor (pc := 51) (v := bs (fun i => ((va_up (pre (fun v => laS eE v mz) lE q) q (laS eE q k)) q) i || (decide (i = k)))) C (bs_or _ _) dX2_gatherLater_51 ?_
            refine a_last (pc := 52) (ws' := wC κ a n dug dtd so ph uf ul r ki lt er mz bd bo me dE eE (va_up (va_up (pre (fun v => laS eE v mz) lE q) q (laS eE q k)) q (fun i => ((va_up (pre (fun v => laS eE v mz) lE q) q (laS eE q k)) q) i || (decide (i = k)))) li fB fA sL f fu fs ff fl xs ys zs oL oU lo up X) C 17 rfl (by omega) (by decide) (fS_up _ _ _) rfl dX2_gatherLater_52 ?_
            refine a_iinc (pc := 53) (v := nI (k + 1)) (L' := [(0, .ref (a 3)), (1, .int (nI q)), (2, .int (nI (k + 1)))]) C 2 rfl (nI_inc _) (by decide) rfl dX2_gatherLater_53 ?_
            refine a_goto (pc := 56) (tgt := 19) C (by decide) dX2_gatherLater_56 ?_
            refine aw_eq (congrArg (fun zz9 => wC κ a n dug dtd so ph uf ul r ki lt er mz bd bo me dE eE zz9 li fB fA sL f fu fs ff fl xs ys zs oL oU lo up X) (by rw [up_s, up_up, laS_y c1] : (va_up (va_up (pre (fun v => laS eE v mz) lE q) q (laS eE q k)) q (fun i => ((va_up (pre (fun v => laS eE v mz) lE q) q (laS eE q k)) q) i || (decide (i = k)))) = (va_up (pre (fun v => laS eE v mz) lE q) q (laS eE q (k + 1))))) ?_
            exact ih (k + 1) (by omega)
      refine aw_eq (congrArg (fun zz9 => wC κ a n dug dtd so ph uf ul r ki lt er mz bd bo me dE eE zz9 li fB fA sL f fu fs ff fl xs ys zs oL oU lo up X) (rfl : (va_up (pre (fun v => laS eE v mz) lE q) q (fun _ => false)) = (va_up (pre (fun v => laS eE v mz) lE q) q (laS eE q 0)))) ?_
      exact LP19 (mz) (0) (by omega)
  refine aw_eq (congrArg (fun zz9 => wC κ a n dug dtd so ph uf ul r ki lt er mz bd bo me dE eE zz9 li fB fA sL f fu fs ff fl xs ys zs oL oU lo up X) ((pre_0 _ _).symm : lE = (pre (fun v => laS eE v mz) lE 0))) ?_
  exact LP2 (mz) (0) (by omega)
set_option maxHeartbeats 4000000 in
set_option maxRecDepth 100000 in
theorem c_X2_gatherLinks (κ : aK) (a : Nat → Nat) {n : Nat} {dug : Nat → Bool} {dtd : Nat → Bool} {so : Nat → Int32} {ph : Nat → Int32} {uf : Nat → Int32} {ul : Nat → Int32} {r : Nat} {ki : Nat → Int32} {lt : Nat → Nat} {er : Nat → Nat} {mz : Nat} {bd : Nat → Bool} {bo : Nat → Nat} {me : Nat → Nat → Bool} {dE : Nat → Nat → Bool} {eE : Nat → Nat → Bool} {lE : Nat → Nat → Bool} {li : Nat → Nat → Bool} {fB : Nat → Int32} {fA : Nat → Int32} {sL : Nat → Int32} {f : Nat} {fu : Nat → Nat} {fs : Nat → Int32} {ff : Nat → Int32} {fl : Nat → Int32} {xs : Nat → Int32} {ys : Nat → Int32} {zs : Nat → Int32} {oL : Nat → Int32} {oU : Nat → Int32} {lo : Nat → Int32} {up : Nat → Int32} {X : va_W} (hm : mz ≤ 40) : CM yX2_gatherLinks cX2_gatherLinks 5 none ({ frames := 2, cells := 0, slots := 0, locals := 42 } : Room) κ [.ref (a 3)] (wC κ a n dug dtd so ph uf ul r ki lt er mz bd bo me dE eE lE li fB fA sL f fu fs ff fl xs ys zs oL oU lo up X) (aD none (wC κ a n dug dtd so ph uf ul r ki lt er mz bd bo me dE eE lE (pre (fun v i => dE v i && !(rcS eE v mz i)) li mz) fB fA sL f fu fs ff fl xs ys zs oL oU lo up X)) := by
  refine cm_entry (own := RX2) (L := [(0, .ref (a 3))]) (by decide +kernel) rfl (lv_entry [.ref (a 3)] (n := 5) (Nat.le_of_ble_eq_true rfl)) (fun g C E => ?_)
  refine a_iconst (pc := 0) (v := nI 0) C ci_0 dX2_gatherLinks_0 ?_
  refine a_istoren (pc := 1) (L' := [(0, .ref (a 3)), (1, .int (nI 0))]) C (by decide) rfl rfl dX2_gatherLinks_1 ?_
  have LP2 : ∀ (jz q : Nat), q + jz = mz → aw g κ 5 2 [(0, .ref (a 3)), (1, .int (nI q))] [] (wC κ a n dug dtd so ph uf ul r ki lt er mz bd bo me dE eE lE (pre (fun v i => dE v i && !(rcS eE v mz i)) li q) fB fA sL f fu fs ff fl xs ys zs oL oU lo up X) 0 0 := by
    intro jz
    induction jz with
    | zero =>
      intro q hk_q
      obtain rfl : mz = q := by omega
      refine a_iloadn (pc := 2) C 1 rfl rfl dX2_gatherLinks_2 ?_
      refine a_aloadn (pc := 3) C 0 rfl rfl dX2_gatherLinks_3 ?_
      refine a_get (pc := 4) C fl_X2_44 3 rfl rfl dX2_gatherLinks_4 ?_
      refine a_icn_ge_y (pc := 7) (tgt := 78) C (by omega) (by omega) (by omega) (by decide) dX2_gatherLinks_7 ?_
      exact a_vret (pc := 78) C E (Nat.le_of_ble_eq_true rfl) (Nat.le_of_ble_eq_true rfl) ⟨rfl, rfl⟩ dX2_gatherLinks_78
    | succ jz ih =>
      intro q hk_q
      have hlt_q : q < mz := by omega
      refine a_iloadn (pc := 2) C 1 rfl rfl dX2_gatherLinks_2 ?_
      refine a_aloadn (pc := 3) C 0 rfl rfl dX2_gatherLinks_3 ?_
      refine a_get (pc := 4) C fl_X2_44 3 rfl rfl dX2_gatherLinks_4 ?_
      refine a_icn_ge_n (pc := 7) C (by omega) (by omega) (by omega) dX2_gatherLinks_7 ⟨78, by decide⟩ ?_
      refine a_lconst (pc := 10) (v := bs (fun _ => false)) C bs_0 dX2_gatherLinks_10 ?_
      refine a_lstoren (pc := 11) (L' := [(0, .ref (a 3)), (1, .int (nI q)), (2, .long (bs (fun _ => false)))]) C (by decide) rfl rfl dX2_gatherLinks_11 ?_
      refine a_iconst (pc := 12) (v := nI 0) C ci_0 dX2_gatherLinks_12 ?_
      refine a_istore (pc := 13) (L' := [(0, .ref (a 3)), (1, .int (nI q)), (2, .long (bs (fun _ => false))), (4, .int (nI 0))]) C (by decide) rfl dX2_gatherLinks_13 ?_
      have LP15 : ∀ (jz k : Nat), k + jz = mz → aw g κ 5 15 [(0, .ref (a 3)), (1, .int (nI q)), (2, .long (bs (rcS eE q k))), (4, .int (nI k))] [] (wC κ a n dug dtd so ph uf ul r ki lt er mz bd bo me dE eE lE (pre (fun v i => dE v i && !(rcS eE v mz i)) li q) fB fA sL f fu fs ff fl xs ys zs oL oU lo up X) 0 0 := by
        intro jz
        induction jz with
        | zero =>
          intro k hk_k
          obtain rfl : mz = k := by omega
          refine a_iload (pc := 15) C 3 rfl dX2_gatherLinks_15 ?_
          refine a_aloadn (pc := 17) C 0 rfl rfl dX2_gatherLinks_17 ?_
          refine a_get (pc := 18) C fl_X2_44 3 rfl rfl dX2_gatherLinks_18 ?_
          refine a_icn_ge_y (pc := 21) (tgt := 54) C (by omega) (by omega) (by omega) (by decide) dX2_gatherLinks_21 ?_
          refine a_aloadn (pc := 54) C 0 rfl rfl dX2_gatherLinks_54 ?_
          refine a_get (pc := 55) C fl_X2_28 3 rfl rfl dX2_gatherLinks_55 ?_
          refine a_iloadn (pc := 58) C 1 rfl rfl dX2_gatherLinks_58 ?_
          refine a_aloadn (pc := 59) C 0 rfl rfl dX2_gatherLinks_59 ?_
          refine a_get (pc := 60) C fl_X2_19 3 rfl rfl dX2_gatherLinks_60 ?_
          refine a_iloadn (pc := 63) C 1 rfl rfl dX2_gatherLinks_63 ?_
          refine a_laldS (pc := 64) C 15 rfl (by omega) (by decide) dX2_gatherLinks_64 ?_
          refine a_lloadn (pc := 65) C 2 rfl rfl dX2_gatherLinks_65 ?_
          refine a_ldc2 (pc := 66) C kl_X2_101 dX2_gatherLinks_66 ?_
          refine a_lxor (pc := 69) (v := bs (fun i => !((rcS eE q mz) i))) C (bs_not _) dX2_gatherLinks_69 ?_
          refine a_land (pc := 70) (v := bs (fun i => (dE q) i && (!((rcS eE q mz) i)))) C (bs_and _ _) dX2_gatherLinks_70 ?_
          refine a_last (pc := 71) (ws' := wC κ a n dug dtd so ph uf ul r ki lt er mz bd bo me dE eE lE (va_up (pre (fun v i => dE v i && !(rcS eE v mz i)) li q) q (fun i => (dE q) i && (!((rcS eE q mz) i)))) fB fA sL f fu fs ff fl xs ys zs oL oU lo up X) C 18 rfl (by omega) (by decide) (fS_up _ _ _) rfl dX2_gatherLinks_71 ?_
          refine a_iinc (pc := 72) (v := nI (q + 1)) (L' := [(0, .ref (a 3)), (1, .int (nI (q + 1))), (2, .long (bs (rcS eE q mz))), (4, .int (nI mz))]) C 1 rfl (nI_inc _) (by decide) rfl dX2_gatherLinks_72 ?_
          refine a_goto (pc := 75) (tgt := 2) C (by decide) dX2_gatherLinks_75 ?_
          refine aw_locals (L' := [(0, .ref (a 3)), (1, .int (nI (q + 1)))]) [0, 1] rfl ?_
          refine aw_eq (congrArg (fun zz9 => wC κ a n dug dtd so ph uf ul r ki lt er mz bd bo me dE eE lE zz9 fB fA sL f fu fs ff fl xs ys zs oL oU lo up X) (pre_s (fun v i => dE v i && !(rcS eE v mz i)) li q : (va_up (pre (fun v i => dE v i && !(rcS eE v mz i)) li q) q (fun i => (dE q) i && (!((rcS eE q mz) i)))) = (pre (fun v i => dE v i && !(rcS eE v mz i)) li (q + 1)))) ?_
          exact ih (q + 1) (by omega)
        | succ jz ih =>
          intro k hk_k
          have hlt_k : k < mz := by omega
          refine a_iload (pc := 15) C 3 rfl dX2_gatherLinks_15 ?_
          refine a_aloadn (pc := 17) C 0 rfl rfl dX2_gatherLinks_17 ?_
          refine a_get (pc := 18) C fl_X2_44 3 rfl rfl dX2_gatherLinks_18 ?_
          refine a_icn_ge_n (pc := 21) C (by omega) (by omega) (by omega) dX2_gatherLinks_21 ⟨54, by decide⟩ ?_
          refine a_aloadn (pc := 24) C 0 rfl rfl dX2_gatherLinks_24 ?_
          refine a_get (pc := 25) C fl_X2_22 3 rfl rfl dX2_gatherLinks_25 ?_
          refine a_iloadn (pc := 28) C 1 rfl rfl dX2_gatherLinks_28 ?_
          refine a_laldS (pc := 29) C 16 rfl (by omega) (by decide) dX2_gatherLinks_29 ?_
          refine a_iload (pc := 30) C 3 rfl dX2_gatherLinks_30 ?_
          refine a_callSN1 (pc := 32) (k' := 0) (n' := 0) C (c_X5_has κ (by omega)) yv_X5_has ne_X2_40 ws_X5_has rfl rfl (Nat.le_of_ble_eq_true rfl) (Nat.le_of_ble_eq_true rfl) (Nat.le_of_ble_eq_true rfl) ⟨(Nat.le_of_ble_eq_true rfl), (Nat.le_of_ble_eq_true rfl)⟩ rfl rfl dX2_gatherLinks_32 ?_
          refine a_ifb_eq (pc := 35) (tgt := 48) C (by decide) dX2_gatherLinks_35 (fun c1 => ?_) (fun c1 => ?_)
          · refine a_iinc (pc := 48) (v := nI (k + 1)) (L' := [(0, .ref (a 3)), (1, .int (nI q)), (2, .long (bs (rcS eE q k))), (4, .int (nI (k + 1)))]) C 3 rfl (nI_inc _) (by decide) rfl dX2_gatherLinks_48 ?_
            refine a_goto (pc := 51) (tgt := 15) C (by decide) dX2_gatherLinks_51 ?_
            refine aw_L (L' := [(0, .ref (a 3)), (1, .int (nI q)), (2, .long (bs (rcS eE q (k + 1)))), (4, .int (nI (k + 1)))]) (congrArg (fun zz9 => ([(0, .ref (a 3)), (1, .int (nI q)), (2, .long zz9), (4, .int (nI (k + 1)))] : List (Nat × Value))) (congrArg bs (rcS_n c1) : (bs (rcS eE q k)) = (bs (rcS eE q (k + 1))))) ?_
            exact ih (k + 1) (by omega)
          · refine a_lloadn (pc := 38) C 2 rfl rfl dX2_gatherLinks_38 ?_
            refine a_aloadn (pc := 39) C 0 rfl rfl dX2_gatherLinks_39 ?_
            refine a_get (pc := 40) C fl_X2_22 3 rfl rfl dX2_gatherLinks_40 ?_
            refine a_iload (pc := 43) C 3 rfl dX2_gatherLinks_43 ?_
            refine a_laldS (pc := 45) C 16 rfl (by omega) (by decide) dX2_gatherLinks_45 ?_
            refine a_lor (pc := 46) (v := bs (fun i => (rcS eE q k) i || (eE k) i)) C (bs_or _ _) dX2_gatherLinks_46 ?_
            refine a_lstoren (pc := 47) (L' := [(0, .ref (a 3)), (1, .int (nI q)), (2, .long (bs (fun i => (rcS eE q k) i || (eE k) i))), (4, .int (nI k))]) C (by decide) rfl rfl dX2_gatherLinks_47 ?_
            refine a_iinc (pc := 48) (v := nI (k + 1)) (L' := [(0, .ref (a 3)), (1, .int (nI q)), (2, .long (bs (fun i => (rcS eE q k) i || (eE k) i))), (4, .int (nI (k + 1)))]) C 3 rfl (nI_inc _) (by decide) rfl dX2_gatherLinks_48 ?_
            refine a_goto (pc := 51) (tgt := 15) C (by decide) dX2_gatherLinks_51 ?_
            refine aw_L (L' := [(0, .ref (a 3)), (1, .int (nI q)), (2, .long (bs (rcS eE q (k + 1)))), (4, .int (nI (k + 1)))]) (congrArg (fun zz9 => ([(0, .ref (a 3)), (1, .int (nI q)), (2, .long zz9), (4, .int (nI (k + 1)))] : List (Nat × Value))) (congrArg bs (rcS_y c1) : (bs (fun i => (rcS eE q k) i || (eE k) i)) = (bs (rcS eE q (k + 1))))) ?_
            exact ih (k + 1) (by omega)
      refine aw_L (L' := [(0, .ref (a 3)), (1, .int (nI q)), (2, .long (bs (rcS eE q 0))), (4, .int (nI 0))]) (congrArg (fun zz9 => ([(0, .ref (a 3)), (1, .int (nI q)), (2, .long zz9), (4, .int (nI 0))] : List (Nat × Value))) (rfl : (bs (fun _ => false)) = (bs (rcS eE q 0)))) ?_
      exact LP15 (mz) (0) (by omega)
  refine aw_eq (congrArg (fun zz9 => wC κ a n dug dtd so ph uf ul r ki lt er mz bd bo me dE eE lE zz9 fB fA sL f fu fs ff fl xs ys zs oL oU lo up X) ((pre_0 _ _).symm : li = (pre (fun v i => dE v i && !(rcS eE v mz i)) li 0))) ?_
  exact LP2 (mz) (0) (by omega)
