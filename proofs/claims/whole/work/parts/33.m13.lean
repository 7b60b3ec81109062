set_option maxHeartbeats 4000000 in
set_option maxRecDepth 100000 in
theorem c_X6_unitTold (κ : aK) (b : Nat → Nat) {th : Int32} {un : Nat} {ss : Nat → Int32} {fi : Nat → Int32} {la : Nat → Int32} {da : Nat → Bool} {dg : Nat → Bool} {ps : Nat → Int32} {rn : Nat} {ks : Nat → Int32} {os : Nat → Nat} {ts : Nat → Nat} {fn : Nat} {fp : Nat → Int32} {bo : Nat → Nat} {eE : Nat → Nat → Bool} {lE : Nat → Nat → Bool} {li : Nat → Nat → Bool} {be : Nat → Int32} {ab : Nat → Int32} {X : va_W} {j : Nat} {q : Nat} {fu : Nat → Nat} (hun : un ≤ 40) (hfn : fn ≤ 60) (hbo : ∀ u, bo u < 40) (hq : ∀ j, fp (7 * j) = nI (fu j)) (hfu : ∀ u, fu u < 40) (hj : j < 40) (hqq : q < 10) : CM yX6_unitTold cX6_unitTold 5 (some .int) ({ frames := 1, cells := 1, slots := 10, locals := 23 } : Room) κ [.ref (b 0), .int (nI j), .int (nI q)] (wM κ b th un ss fi la da dg ps rn ks os ts fn fp bo eE lE li be ab X) (aD (some (.int (uR ss be ab bo eE lE dg ps un fu fn j q))) (wM κ b th un ss fi la da dg ps rn ks os ts fn fp bo eE lE li be ab X)) := by
  refine cm_entry (own := RX6) (L := [(0, .ref (b 0)), (1, .int (nI j)), (2, .int (nI q))]) (by decide +kernel) rfl (lv_entry [.ref (b 0), .int (nI j), .int (nI q)] (n := 5) (Nat.le_of_ble_eq_true rfl)) (fun g C E => ?_)
  have hbj := hbo j
  refine a_aloadn (pc := 0) C 0 rfl rfl dX6_unitTold_0 ?_
  refine a_get (pc := 1) C fl_X6_41 0 rfl rfl dX6_unitTold_1 ?_
  refine a_iloadn (pc := 4) C 1 rfl rfl dX6_unitTold_4 ?_
  refine a_ialdN (pc := 5) C 11 rfl (by omega) (by decide) dX6_unitTold_5 ?_
  refine a_istoren (pc := 6) (L' := [(0, .ref (b 0)), (1, .int (nI j)), (2, .int (nI q)), (3, .int (nI (bo j)))]) C (by decide) rfl rfl dX6_unitTold_6 ?_
  refine a_bipush (pc := 7) (v := nI 10) C cb_10 dX6_unitTold_7 ?_
  refine a_newI (pc := 9) (ws' := fun q1 => wM κ b th un ss fi la da dg ps rn ks os ts fn fp bo eE lE li be ab ((q1, .inl (kI κ, 10, .inl (fun _ => nI 0))) :: X)) C (by decide) (fun q1 => wM_new _) (Nat.le_of_ble_eq_true rfl) (Nat.le_of_ble_eq_true rfl) dX6_unitTold_9 (fun q1 => ?_)
  refine a_dup (pc := 11) C rfl dX6_unitTold_11 ?_
  refine a_iconst (pc := 12) (v := nI 0) C ci_0 dX6_unitTold_12 ?_
  refine a_aloadn (pc := 13) C 0 rfl rfl dX6_unitTold_13 ?_
  refine a_get (pc := 14) C fl_X6_9 0 rfl rfl dX6_unitTold_14 ?_
  refine a_iloadn (pc := 17) C 1 rfl rfl dX6_unitTold_17 ?_
  refine a_iald (pc := 18) C 1 rfl (by omega) (by decide) dX6_unitTold_18 ?_
  refine a_iast (pc := 19) (ws' := wM κ b th un ss fi la da dg ps rn ks os ts fn fp bo eE lE li be ab ((q1, .inl (kI κ, 10, .inl (va_up (fun _ => nI 0) 0 (ss j)))) :: X)) C 17 rfl (by omega) (by decide) rfl rfl dX6_unitTold_19 ?_
  refine a_dup (pc := 20) C rfl dX6_unitTold_20 ?_
  refine a_iconst (pc := 21) (v := nI 1) C ci_1 dX6_unitTold_21 ?_
  refine a_iloadn (pc := 22) C 3 rfl rfl dX6_unitTold_22 ?_
  refine a_iast (pc := 23) (ws' := wM κ b th un ss fi la da dg ps rn ks os ts fn fp bo eE lE li be ab ((q1, .inl (kI κ, 10, .inl (va_up (va_up (fun _ => nI 0) 0 (ss j)) 1 (nI (bo j))))) :: X)) C 17 rfl (by omega) (by decide) rfl rfl dX6_unitTold_23 ?_
  refine a_dup (pc := 24) C rfl dX6_unitTold_24 ?_
  refine a_iconst (pc := 25) (v := nI 2) C ci_2 dX6_unitTold_25 ?_
  refine a_aloadn (pc := 26) C 0 rfl rfl dX6_unitTold_26 ?_
  refine a_iloadn (pc := 27) C 1 rfl rfl dX6_unitTold_27 ?_
  refine a_callV1 (pc := 28) (k' := 1) (n' := 10) C (c_X6_sizeOf κ b (by omega) hbo (by omega)) yv_X6_sizeOf ml_X6_165 wi_X6_sizeOf wl_X6_sizeOf 0 rfl rfl rfl rfl (Nat.le_of_ble_eq_true rfl) (Nat.le_of_ble_eq_true rfl) (Nat.le_of_ble_eq_true rfl) ⟨(Nat.le_of_ble_eq_true rfl), (Nat.le_of_ble_eq_true rfl)⟩ rfl rfl dX6_unitTold_28 ?_
  refine a_iast (pc := 31) (ws' := wM κ b th un ss fi la da dg ps rn ks os ts fn fp bo eE lE li be ab ((q1, .inl (kI κ, 10, .inl (va_up (va_up (va_up (fun _ => nI 0) 0 (ss j)) 1 (nI (bo j))) 2 (nI (cnt (fun v => decide (bo v = bo j)) un))))) :: X)) C 17 rfl (by omega) (by decide) rfl rfl dX6_unitTold_31 ?_
  refine a_dup (pc := 32) C rfl dX6_unitTold_32 ?_
  refine a_iconst (pc := 33) (v := nI 3) C ci_3 dX6_unitTold_33 ?_
  refine a_aloadn (pc := 34) C 0 rfl rfl dX6_unitTold_34 ?_
  refine a_get (pc := 35) C fl_X6_54 0 rfl rfl dX6_unitTold_35 ?_
  refine a_iloadn (pc := 38) C 3 rfl rfl dX6_unitTold_38 ?_
  refine a_iald (pc := 39) C 15 rfl (hbo _) (by decide) dX6_unitTold_39 ?_
  refine a_iast (pc := 40) (ws' := wM κ b th un ss fi la da dg ps rn ks os ts fn fp bo eE lE li be ab ((q1, .inl (kI κ, 10, .inl (va_up (va_up (va_up (va_up (fun _ => nI 0) 0 (ss j)) 1 (nI (bo j))) 2 (nI (cnt (fun v => decide (bo v = bo j)) un))) 3 (be (bo j))))) :: X)) C 17 rfl (by omega) (by decide) rfl rfl dX6_unitTold_40 ?_
  refine a_dup (pc := 41) C rfl dX6_unitTold_41 ?_
  refine a_iconst (pc := 42) (v := nI 4) C ci_4 dX6_unitTold_42 ?_
  refine a_aloadn (pc := 43) C 0 rfl rfl dX6_unitTold_43 ?_
  refine a_get (pc := 44) C fl_X6_57 0 rfl rfl dX6_unitTold_44 ?_
  refine a_iloadn (pc := 47) C 3 rfl rfl dX6_unitTold_47 ?_
  refine a_iald (pc := 48) C 16 rfl (hbo _) (by decide) dX6_unitTold_48 ?_
  refine a_iast (pc := 49) (ws' := wM κ b th un ss fi la da dg ps rn ks os ts fn fp bo eE lE li be ab ((q1, .inl (kI κ, 10, .inl (va_up (va_up (va_up (va_up (va_up (fun _ => nI 0) 0 (ss j)) 1 (nI (bo j))) 2 (nI (cnt (fun v => decide (bo v = bo j)) un))) 3 (be (bo j))) 4 (ab (bo j))))) :: X)) C 17 rfl (by omega) (by decide) rfl rfl dX6_unitTold_49 ?_
  refine a_dup (pc := 50) C rfl dX6_unitTold_50 ?_
  refine a_iconst (pc := 51) (v := nI 5) C ci_5 dX6_unitTold_51 ?_
  refine a_aloadn (pc := 52) C 0 rfl rfl dX6_unitTold_52 ?_
  refine a_get (pc := 53) C fl_X6_44 0 rfl rfl dX6_unitTold_53 ?_
  refine a_iloadn (pc := 56) C 3 rfl rfl dX6_unitTold_56 ?_
  refine a_laldS (pc := 57) C 12 rfl (hbo _) (by decide) dX6_unitTold_57 ?_
  refine a_callS1 (pc := 58) (k' := 1) (n' := 10) C (c_J13_bitCount_95d88 κ) yv_J13_bitCount_95d88 ml_X6_130 ws_J13_bitCount_95d88 rfl rfl (Nat.le_of_ble_eq_true rfl) (Nat.le_of_ble_eq_true rfl) (Nat.le_of_ble_eq_true rfl) ⟨(Nat.le_of_ble_eq_true rfl), (Nat.le_of_ble_eq_true rfl)⟩ rfl rfl dX6_unitTold_58 ?_
  refine a_iast (pc := 61) (ws' := wM κ b th un ss fi la da dg ps rn ks os ts fn fp bo eE lE li be ab ((q1, .inl (kI κ, 10, .inl (va_up (va_up (va_up (va_up (va_up (va_up (fun _ => nI 0) 0 (ss j)) 1 (nI (bo j))) 2 (nI (cnt (fun v => decide (bo v = bo j)) un))) 3 (be (bo j))) 4 (ab (bo j))) 5 (bcI (bs (eE (bo j))))))) :: X)) C 17 rfl (by omega) (by decide) rfl rfl dX6_unitTold_61 ?_
  refine a_dup (pc := 62) C rfl dX6_unitTold_62 ?_
  refine a_bipush (pc := 63) (v := nI 6) C cb_6 dX6_unitTold_63 ?_
  refine a_aloadn (pc := 65) C 0 rfl rfl dX6_unitTold_65 ?_
  refine a_get (pc := 66) C fl_X6_48 0 rfl rfl dX6_unitTold_66 ?_
  refine a_iloadn (pc := 69) C 3 rfl rfl dX6_unitTold_69 ?_
  refine a_laldS (pc := 70) C 13 rfl (hbo _) (by decide) dX6_unitTold_70 ?_
  refine a_callS1 (pc := 71) (k' := 1) (n' := 10) C (c_J13_bitCount_95d88 κ) yv_J13_bitCount_95d88 ml_X6_130 ws_J13_bitCount_95d88 rfl rfl (Nat.le_of_ble_eq_true rfl) (Nat.le_of_ble_eq_true rfl) (Nat.le_of_ble_eq_true rfl) ⟨(Nat.le_of_ble_eq_true rfl), (Nat.le_of_ble_eq_true rfl)⟩ rfl rfl dX6_unitTold_71 ?_
  refine a_iast (pc := 74) (ws' := wM κ b th un ss fi la da dg ps rn ks os ts fn fp bo eE lE li be ab ((q1, .inl (kI κ, 10, .inl (va_up (va_up (va_up (va_up (va_up (va_up (va_up (fun _ => nI 0) 0 (ss j)) 1 (nI (bo j))) 2 (nI (cnt (fun v => decide (bo v = bo j)) un))) 3 (be (bo j))) 4 (ab (bo j))) 5 (bcI (bs (eE (bo j))))) 6 (bcI (bs (lE (bo j))))))) :: X)) C 17 rfl (by omega) (by decide) rfl rfl dX6_unitTold_74 ?_
  refine a_dup (pc := 75) C rfl dX6_unitTold_75 ?_
  refine a_bipush (pc := 76) (v := nI 7) C cb_7 dX6_unitTold_76 ?_
  refine a_aloadn (pc := 78) C 0 rfl rfl dX6_unitTold_78 ?_
  refine a_get (pc := 79) C fl_X6_23 0 rfl rfl dX6_unitTold_79 ?_
  refine a_iloadn (pc := 82) C 1 rfl rfl dX6_unitTold_82 ?_
  refine a_zaldZ (pc := 83) C 5 rfl (by omega) (by decide) dX6_unitTold_83 ?_
  refine a_ifb_eq (pc := 84) (tgt := 91) C (by decide) dX6_unitTold_84 (fun c2 => ?_) (fun c2 => ?_)
  · refine a_iconst (pc := 91) (v := nI 0) C ci_0 dX6_unitTold_91 ?_
    refine aw_st (st' := [.int (b2i (dg j)), .int (nI 7), .ref q1, .ref q1]) (by rw [c2, b2i_f]) ?_
    refine a_iast (pc := 92) (ws' := wM κ b th un ss fi la da dg ps rn ks os ts fn fp bo eE lE li be ab ((q1, .inl (kI κ, 10, .inl (va_up (va_up (va_up (va_up (va_up (va_up (va_up (va_up (fun _ => nI 0) 0 (ss j)) 1 (nI (bo j))) 2 (nI (cnt (fun v => decide (bo v = bo j)) un))) 3 (be (bo j))) 4 (ab (bo j))) 5 (bcI (bs (eE (bo j))))) 6 (bcI (bs (lE (bo j))))) 7 (b2i (dg j))))) :: X)) C 17 rfl (by omega) (by decide) rfl rfl dX6_unitTold_92 ?_
    refine a_dup (pc := 93) C rfl dX6_unitTold_93 ?_
    refine a_bipush (pc := 94) (v := nI 8) C cb_8 dX6_unitTold_94 ?_
    refine a_aloadn (pc := 96) C 0 rfl rfl dX6_unitTold_96 ?_
    refine a_get (pc := 97) C fl_X6_26 0 rfl rfl dX6_unitTold_97 ?_
    refine a_iloadn (pc := 100) C 1 rfl rfl dX6_unitTold_100 ?_
    refine a_iald (pc := 101) C 6 rfl (by omega) (by decide) dX6_unitTold_101 ?_
    refine a_iast (pc := 102) (ws' := wM κ b th un ss fi la da dg ps rn ks os ts fn fp bo eE lE li be ab ((q1, .inl (kI κ, 10, .inl (va_up (va_up (va_up (va_up (va_up (va_up (va_up (va_up (va_up (fun _ => nI 0) 0 (ss j)) 1 (nI (bo j))) 2 (nI (cnt (fun v => decide (bo v = bo j)) un))) 3 (be (bo j))) 4 (ab (bo j))) 5 (bcI (bs (eE (bo j))))) 6 (bcI (bs (lE (bo j))))) 7 (b2i (dg j))) 8 (ps j)))) :: X)) C 17 rfl (by omega) (by decide) rfl rfl dX6_unitTold_102 ?_
    refine a_dup (pc := 103) C rfl dX6_unitTold_103 ?_
    refine a_bipush (pc := 104) (v := nI 9) C cb_9 dX6_unitTold_104 ?_
    refine a_aloadn (pc := 106) C 0 rfl rfl dX6_unitTold_106 ?_
    refine a_iloadn (pc := 107) C 1 rfl rfl dX6_unitTold_107 ?_
    refine a_callV1 (pc := 108) (k' := 1) (n' := 10) C (c_X6_findsIn κ b (by omega) (by assumption) hfu (by omega)) yv_X6_findsIn ml_X6_168 wi_X6_findsIn wl_X6_findsIn 0 rfl rfl rfl rfl (Nat.le_of_ble_eq_true rfl) (Nat.le_of_ble_eq_true rfl) (Nat.le_of_ble_eq_true rfl) ⟨(Nat.le_of_ble_eq_true rfl), (Nat.le_of_ble_eq_true rfl)⟩ rfl rfl dX6_unitTold_108 ?_
    refine a_iast (pc := 111) (ws' := wM κ b th un ss fi la da dg ps rn ks os ts fn fp bo eE lE li be ab ((q1, .inl (kI κ, 10, .inl (va_up (va_up (va_up (va_up (va_up (va_up (va_up (va_up (va_up (va_up (fun _ => nI 0) 0 (ss j)) 1 (nI (bo j))) 2 (nI (cnt (fun v => decide (bo v = bo j)) un))) 3 (be (bo j))) 4 (ab (bo j))) 5 (bcI (bs (eE (bo j))))) 6 (bcI (bs (lE (bo j))))) 7 (b2i (dg j))) 8 (ps j)) 9 (nI (cnt (fun v => decide (fu v = j)) fn))))) :: X)) C 17 rfl (by omega) (by decide) rfl rfl dX6_unitTold_111 ?_
    refine a_astore (pc := 112) (L' := [(0, .ref (b 0)), (1, .int (nI j)), (2, .int (nI q)), (3, .int (nI (bo j))), (4, .ref q1)]) C (by decide) rfl dX6_unitTold_112 ?_
    refine a_aload (pc := 114) C 4 rfl dX6_unitTold_114 ?_
    refine a_iloadn (pc := 116) C 2 rfl rfl dX6_unitTold_116 ?_
    refine a_iald (pc := 117) C 17 rfl (by omega) (by decide) dX6_unitTold_117 ?_
    rcases (show q = 0 ∨ q = 1 ∨ q = 2 ∨ q = 3 ∨ q = 4 ∨ q = 5 ∨ q = 6 ∨ q = 7 ∨ q = 8 ∨ q = 9 by omega) with rfl | rfl | rfl | rfl | rfl | rfl | rfl | rfl | rfl | rfl <;> skip
    all_goals refine aw_sub (wM_drop _) ?_
    all_goals exact a_iret (pc := 118) C E (Nat.le_of_ble_eq_true rfl) (Nat.le_of_ble_eq_true rfl) ⟨rfl, rfl⟩ dX6_unitTold_118
  · refine a_iconst (pc := 87) (v := nI 1) C ci_1 dX6_unitTold_87 ?_
    refine a_goto (pc := 88) (tgt := 92) C (by decide) dX6_unitTold_88 ?_
    refine aw_st (st' := [.int (b2i (dg j)), .int (nI 7), .ref q1, .ref q1]) (by rw [c2, b2i_t]) ?_
    refine a_iast (pc := 92) (ws' := wM κ b th un ss fi la da dg ps rn ks os ts fn fp bo eE lE li be ab ((q1, .inl (kI κ, 10, .inl (va_up (va_up (va_up (va_up (va_up (va_up (va_up (va_up (fun _ => nI 0) 0 (ss j)) 1 (nI (bo j))) 2 (nI (cnt (fun v => decide (bo v = bo j)) un))) 3 (be (bo j))) 4 (ab (bo j))) 5 (bcI (bs (eE (bo j))))) 6 (bcI (bs (lE (bo j))))) 7 (b2i (dg j))))) :: X)) C 17 rfl (by omega) (by decide) rfl rfl dX6_unitTold_92 ?_
    refine a_dup (pc := 93) C rfl dX6_unitTold_93 ?_
    refine a_bipush (pc := 94) (v := nI 8) C cb_8 dX6_unitTold_94 ?_
    refine a_aloadn (pc := 96) C 0 rfl rfl dX6_unitTold_96 ?_
    refine a_get (pc := 97) C fl_X6_26 0 rfl rfl dX6_unitTold_97 ?_
    refine a_iloadn (pc := 100) C 1 rfl rfl dX6_unitTold_100 ?_
    refine a_iald (pc := 101) C 6 rfl (by omega) (by decide) dX6_unitTold_101 ?_
    refine a_iast (pc := 102) (ws' := wM κ b th un ss fi la da dg ps rn ks os ts fn fp bo eE lE li be ab ((q1, .inl (kI κ, 10, .inl (va_up (va_up (va_up (va_up (va_up (va_up (va_up (va_up (va_up (fun _ => nI 0) 0 (ss j)) 1 (nI (bo j))) 2 (nI (cnt (fun v => decide (bo v = bo j)) un))) 3 (be (bo j))) 4 (ab (bo j))) 5 (bcI (bs (eE (bo j))))) 6 (bcI (bs (lE (bo j))))) 7 (b2i (dg j))) 8 (ps j)))) :: X)) C 17 rfl (by omega) (by decide) rfl rfl dX6_unitTold_102 ?_
    refine a_dup (pc := 103) C rfl dX6_unitTold_103 ?_
    refine a_bipush (pc := 104) (v := nI 9) C cb_9 dX6_unitTold_104 ?_
    refine a_aloadn (pc := 106) C 0 rfl rfl dX6_unitTold_106 ?_
    refine a_iloadn (pc := 107) C 1 rfl rfl dX6_unitTold_107 ?_
    refine a_callV1 (pc := 108) (k' := 1) (n' := 10) C (c_X6_findsIn κ b (by omega) (by assumption) hfu (by omega)) yv_X6_findsIn ml_X6_168 wi_X6_findsIn wl_X6_findsIn 0 rfl rfl rfl rfl (Nat.le_of_ble_eq_true rfl) (Nat.le_of_ble_eq_true rfl) (Nat.le_of_ble_eq_true rfl) ⟨(Nat.le_of_ble_eq_true rfl), (Nat.le_of_ble_eq_true rfl)⟩ rfl rfl dX6_unitTold_108 ?_
    refine a_iast (pc := 111) (ws' := wM κ b th un ss fi la da dg ps rn ks os ts fn fp bo eE lE li be ab ((q1, .inl (kI κ, 10, .inl (va_up (va_up (va_up (va_up (va_up (va_up (va_up (va_up (va_up (va_up (fun _ => nI 0) 0 (ss j)) 1 (nI (bo j))) 2 (nI (cnt (fun v => decide (bo v = bo j)) un))) 3 (be (bo j))) 4 (ab (bo j))) 5 (bcI (bs (eE (bo j))))) 6 (bcI (bs (lE (bo j))))) 7 (b2i (dg j))) 8 (ps j)) 9 (nI (cnt (fun v => decide (fu v = j)) fn))))) :: X)) C 17 rfl (by omega) (by decide) rfl rfl dX6_unitTold_111 ?_
    refine a_astore (pc := 112) (L' := [(0, .ref (b 0)), (1, .int (nI j)), (2, .int (nI q)), (3, .int (nI (bo j))), (4, .ref q1)]) C (by decide) rfl dX6_unitTold_112 ?_
    refine a_aload (pc := 114) C 4 rfl dX6_unitTold_114 ?_
    refine a_iloadn (pc := 116) C 2 rfl rfl dX6_unitTold_116 ?_
    refine a_iald (pc := 117) C 17 rfl (by omega) (by decide) dX6_unitTold_117 ?_
    rcases (show q = 0 ∨ q = 1 ∨ q = 2 ∨ q = 3 ∨ q = 4 ∨ q = 5 ∨ q = 6 ∨ q = 7 ∨ q = 8 ∨ q = 9 by omega) with rfl | rfl | rfl | rfl | rfl | rfl | rfl | rfl | rfl | rfl <;> skip
    all_goals refine aw_sub (wM_drop _) ?_
    all_goals exact a_iret (pc := 118) C E (Nat.le_of_ble_eq_true rfl) (Nat.le_of_ble_eq_true rfl) ⟨rfl, rfl⟩ dX6_unitTold_118

set_option maxHeartbeats 4000000 in
set_option maxRecDepth 100000 in
theorem c_X6_unit_b1 (κ : aK) (b : Nat → Nat) {th : Int32} {un : Nat} {ss : Nat → Int32} {fi : Nat → Int32} {la : Nat → Int32} {da : Nat → Bool} {dg : Nat → Bool} {ps : Nat → Int32} {rn : Nat} {ks : Nat → Int32} {os : Nat → Nat} {ts : Nat → Nat} {fn : Nat} {fp : Nat → Int32} {bo : Nat → Nat} {eE : Nat → Nat → Bool} {lE : Nat → Nat → Bool} {li : Nat → Nat → Bool} {be : Nat → Int32} {ab : Nat → Int32} {X : va_W} {x : Int32} {y : Int32} (hun : un ≤ 40) (hb : ¬ (okU un x ∧ okU 10 y)) : CM yX6_unit cX6_unit 3 (some .int) ({ frames := 2, cells := 0, slots := 0, locals := 47 } : Room) κ [.ref (b 0), .int x, .int y] (wM κ b th un ss fi la da dg ps rn ks os ts fn fp bo eE lE li be ab X) (aD (some (.int (nI 0))) (wM κ b (nI 1) un ss fi la da dg ps rn ks os ts fn fp bo eE lE li be ab X)) := by
  refine cm_entry (own := RX6) (L := [(0, .ref (b 0)), (1, .int x), (2, .int y)]) (by decide +kernel) rfl (lv_entry [.ref (b 0), .int x, .int y] (n := 3) (Nat.le_of_ble_eq_true rfl)) (fun g C E => ?_)
  refine a_aloadn (pc := 0) C 0 rfl rfl dX6_unit_0 ?_
  refine a_iconst (pc := 1) (v := nI 0) C ci_0 dX6_unit_1 ?_
  refine a_put (pc := 2) (ws' := wM κ b (nI 0) un ss fi la da dg ps rn ks os ts fn fp bo eE lE li be ab X) C fl_X6_60 fp_X6_0 0 rfl rfl rfl (Nat.le_of_ble_eq_true rfl) rfl dX6_unit_2 ?_
  refine a_aloadn (pc := 5) C 0 rfl rfl dX6_unit_5 ?_
  refine a_iloadn (pc := 6) C 1 rfl rfl dX6_unit_6 ?_
  refine a_callV1 (pc := 7) (k' := 0) (n' := 0) C (c_X6_isUnit κ b) yv_X6_isUnit ml_X6_107 wi_X6_isUnit wl_X6_isUnit 0 rfl rfl rfl rfl (Nat.le_of_ble_eq_true rfl) (Nat.le_of_ble_eq_true rfl) (Nat.le_of_ble_eq_true rfl) ⟨(Nat.le_of_ble_eq_true rfl), (Nat.le_of_ble_eq_true rfl)⟩ rfl rfl dX6_unit_7 ?_
  refine a_ifb_eq (pc := 10) (tgt := 32) C (by decide) dX6_unit_10 (fun c1 => ?_) (fun c1 => ?_)
  · refine a_aloadn (pc := 32) C 0 rfl rfl dX6_unit_32 ?_
    refine a_iconst (pc := 33) (v := nI 1) C ci_1 dX6_unit_33 ?_
    refine a_callV1 (pc := 34) (k' := 0) (n' := 0) C (c_X6_no κ b) yv_X6_no ml_X6_100 wi_X6_no wl_X6_no 0 rfl rfl rfl rfl (Nat.le_of_ble_eq_true rfl) (Nat.le_of_ble_eq_true rfl) (Nat.le_of_ble_eq_true rfl) ⟨(Nat.le_of_ble_eq_true rfl), (Nat.le_of_ble_eq_true rfl)⟩ rfl rfl dX6_unit_34 ?_
    exact a_iret (pc := 37) C E (Nat.le_of_ble_eq_true rfl) (Nat.le_of_ble_eq_true rfl) ⟨rfl, rfl⟩ dX6_unit_37
  · refine a_iloadn (pc := 13) C 2 rfl rfl dX6_unit_13 ?_
    refine a_iconst (pc := 14) (v := nI 0) C ci_0 dX6_unit_14 ?_
    refine a_bipush (pc := 15) (v := nI 9) C cb_9 dX6_unit_15 ?_
    refine a_callS1 (pc := 17) (k' := 0) (n' := 0) C (c_X6_isIn κ) yv_X6_isIn ml_X6_67 ws_X6_isIn rfl rfl (Nat.le_of_ble_eq_true rfl) (Nat.le_of_ble_eq_true rfl) (Nat.le_of_ble_eq_true rfl) ⟨(Nat.le_of_ble_eq_true rfl), (Nat.le_of_ble_eq_true rfl)⟩ rfl rfl dX6_unit_17 ?_
    refine a_ifb_eq_y (pc := 20) (tgt := 32) C (okU_cf (by omega) (fun h => hb ⟨(okU_n (by omega)).mp c1, h⟩)) (by decide) dX6_unit_20 ?_
    refine a_aloadn (pc := 32) C 0 rfl rfl dX6_unit_32 ?_
    refine a_iconst (pc := 33) (v := nI 1) C ci_1 dX6_unit_33 ?_
    refine a_callV1 (pc := 34) (k' := 0) (n' := 0) C (c_X6_no κ b) yv_X6_no ml_X6_100 wi_X6_no wl_X6_no 0 rfl rfl rfl rfl (Nat.le_of_ble_eq_true rfl) (Nat.le_of_ble_eq_true rfl) (Nat.le_of_ble_eq_true rfl) ⟨(Nat.le_of_ble_eq_true rfl), (Nat.le_of_ble_eq_true rfl)⟩ rfl rfl dX6_unit_34 ?_
    exact a_iret (pc := 37) C E (Nat.le_of_ble_eq_true rfl) (Nat.le_of_ble_eq_true rfl) ⟨rfl, rfl⟩ dX6_unit_37

set_option maxHeartbeats 4000000 in
set_option maxRecDepth 100000 in
theorem c_X6_unit (κ : aK) (b : Nat → Nat) {th : Int32} {un : Nat} {ss : Nat → Int32} {fi : Nat → Int32} {la : Nat → Int32} {da : Nat → Bool} {dg : Nat → Bool} {ps : Nat → Int32} {rn : Nat} {ks : Nat → Int32} {os : Nat → Nat} {ts : Nat → Nat} {fn : Nat} {fp : Nat → Int32} {bo : Nat → Nat} {eE : Nat → Nat → Bool} {lE : Nat → Nat → Bool} {li : Nat → Nat → Bool} {be : Nat → Int32} {ab : Nat → Int32} {X : va_W} {j : Nat} {q : Nat} {fu : Nat → Nat} (hun : un ≤ 40) (hfn : fn ≤ 60) (hbo : ∀ u, bo u < 40) (hq : ∀ j, fp (7 * j) = nI (fu j)) (hfu : ∀ u, fu u < 40) (hj : j < un) (hqq : q < 10) : CM yX6_unit cX6_unit 3 (some .int) ({ frames := 2, cells := 1, slots := 10, locals := 47 } : Room) κ [.ref (b 0), .int (nI j), .int (nI q)] (wM κ b th un ss fi la da dg ps rn ks os ts fn fp bo eE lE li be ab X) (aD (some (.int (uR ss be ab bo eE lE dg ps un fu fn j q))) (wM κ b (nI 0) un ss fi la da dg ps rn ks os ts fn fp bo eE lE li be ab X)) := by
  refine cm_entry (own := RX6) (L := [(0, .ref (b 0)), (1, .int (nI j)), (2, .int (nI q))]) (by decide +kernel) rfl (lv_entry [.ref (b 0), .int (nI j), .int (nI q)] (n := 3) (Nat.le_of_ble_eq_true rfl)) (fun g C E => ?_)
  refine a_aloadn (pc := 0) C 0 rfl rfl dX6_unit_0 ?_
  refine a_iconst (pc := 1) (v := nI 0) C ci_0 dX6_unit_1 ?_
  refine a_put (pc := 2) (ws' := wM κ b (nI 0) un ss fi la da dg ps rn ks os ts fn fp bo eE lE li be ab X) C fl_X6_60 fp_X6_0 0 rfl rfl rfl (Nat.le_of_ble_eq_true rfl) rfl dX6_unit_2 ?_
  refine a_aloadn (pc := 5) C 0 rfl rfl dX6_unit_5 ?_
  refine a_iloadn (pc := 6) C 1 rfl rfl dX6_unit_6 ?_
  refine a_callV1 (pc := 7) (k' := 0) (n' := 0) C (c_X6_isUnit κ b) yv_X6_isUnit ml_X6_107 wi_X6_isUnit wl_X6_isUnit 0 rfl rfl rfl rfl (Nat.le_of_ble_eq_true rfl) (Nat.le_of_ble_eq_true rfl) (Nat.le_of_ble_eq_true rfl) ⟨(Nat.le_of_ble_eq_true rfl), (Nat.le_of_ble_eq_true rfl)⟩ rfl rfl dX6_unit_7 ?_
  refine a_ifb_eq_n (pc := 10) C ((okU_n (by omega)).mpr (okU_j hj)) dX6_unit_10 ⟨32, by decide⟩ ?_
  refine a_iloadn (pc := 13) C 2 rfl rfl dX6_unit_13 ?_
  refine a_iconst (pc := 14) (v := nI 0) C ci_0 dX6_unit_14 ?_
  refine a_bipush (pc := 15) (v := nI 9) C cb_9 dX6_unit_15 ?_
  refine a_callS1 (pc := 17) (k' := 0) (n' := 0) C (c_X6_isIn κ) yv_X6_isIn ml_X6_67 ws_X6_isIn rfl rfl (Nat.le_of_ble_eq_true rfl) (Nat.le_of_ble_eq_true rfl) (Nat.le_of_ble_eq_true rfl) ⟨(Nat.le_of_ble_eq_true rfl), (Nat.le_of_ble_eq_true rfl)⟩ rfl rfl dX6_unit_17 ?_
  refine a_ifb_eq_n (pc := 20) C ((okU_c (by omega)).mpr (okU_j hqq)) dX6_unit_20 ⟨32, by decide⟩ ?_
  refine a_aloadn (pc := 23) C 0 rfl rfl dX6_unit_23 ?_
  refine a_iloadn (pc := 24) C 1 rfl rfl dX6_unit_24 ?_
  refine a_iloadn (pc := 25) C 2 rfl rfl dX6_unit_25 ?_
  refine a_callV1 (pc := 26) (k' := 1) (n' := 10) C (c_X6_unitTold κ b (by omega) (by omega) hbo (by assumption) hfu (by omega) (by omega)) yv_X6_unitTold ml_X6_171 wi_X6_unitTold wl_X6_unitTold 0 rfl rfl rfl rfl (Nat.le_of_ble_eq_true rfl) (Nat.le_of_ble_eq_true rfl) (Nat.le_of_ble_eq_true rfl) ⟨(Nat.le_of_ble_eq_true rfl), (Nat.le_of_ble_eq_true rfl)⟩ rfl rfl dX6_unit_26 ?_
  refine a_goto (pc := 29) (tgt := 37) C (by decide) dX6_unit_29 ?_
  exact a_iret (pc := 37) C E (Nat.le_of_ble_eq_true rfl) (Nat.le_of_ble_eq_true rfl) ⟨rfl, rfl⟩ dX6_unit_37

set_option maxHeartbeats 4000000 in
set_option maxRecDepth 100000 in
theorem c_X6_farTo (κ : aK) (b : Nat → Nat) {th : Int32} {un : Nat} {ss : Nat → Int32} {fi : Nat → Int32} {la : Nat → Int32} {da : Nat → Bool} {dg : Nat → Bool} {ps : Nat → Int32} {rn : Nat} {ks : Nat → Int32} {os : Nat → Nat} {ts : Nat → Nat} {fn : Nat} {fp : Nat → Int32} {bo : Nat → Nat} {eE : Nat → Nat → Bool} {lE : Nat → Nat → Bool} {li : Nat → Nat → Bool} {be : Nat → Int32} {ab : Nat → Int32} {X : va_W} {to : Nat} (hun : un ≤ 40) (hto : to < 40) : CM yX6_farTo cX6_farTo 6 (some (.array .int)) ({ frames := 1, cells := 1, slots := 40, locals := 22 } : Room) κ [.ref (b 0), .int (nI to)] (wM κ b th un ss fi la da dg ps rn ks os ts fn fp bo eE lE li be ab X) (fun ro w => ∃ q, ro = some (.ref q) ∧ w = wM κ b th un ss fi la da dg ps rn ks os ts fn fp bo eE lE li be ab ((q, .inl (kI κ, 40, .inl (frT li un to))) :: X)) := by
  refine cm_entry (own := RX6) (L := [(0, .ref (b 0)), (1, .int (nI to))]) (by decide +kernel) rfl (lv_entry [.ref (b 0), .int (nI to)] (n := 6) (Nat.le_of_ble_eq_true rfl)) (fun g C E => ?_)
  refine a_bipush (pc := 0) (v := nI 40) C cb_40 dX6_farTo_0 ?_
  refine a_newI (pc := 2) (ws' := fun q1 => wM κ b th un ss fi la da dg ps rn ks os ts fn fp bo eE lE li be ab ((q1, .inl (kI κ, 40, .inl (fun _ => nI 0))) :: X)) C (by decide) (fun q1 => wM_new _) (Nat.le_of_ble_eq_true rfl) (Nat.le_of_ble_eq_true rfl) dX6_farTo_2 (fun q1 => ?_)
  refine a_astoren (pc := 4) (L' := [(0, .ref (b 0)), (1, .int (nI to)), (2, .ref q1)]) C (by decide) rfl rfl dX6_farTo_4 ?_
  refine a_iconst (pc := 5) (v := nI 0) C ci_0 dX6_farTo_5 ?_
  refine a_istoren (pc := 6) (L' := [(0, .ref (b 0)), (1, .int (nI to)), (2, .ref q1), (3, .int (nI 0))]) C (by decide) rfl rfl dX6_farTo_6 ?_
  have LP7 : ∀ (jz k : Nat), k + jz = 40 → aw g κ 6 7 [(0, .ref (b 0)), (1, .int (nI to)), (2, .ref q1), (3, .int (nI k))] [] (wM κ b th un ss fi la da dg ps rn ks os ts fn fp bo eE lE li be ab ((q1, .inl (kI κ, 40, .inl (pre (fr0 to) (fun _ => nI 0) k))) :: X)) 1 40 := by
    intro jz
    induction jz with
    | zero =>
      intro k hk_k
      obtain rfl : 40 = k := by omega
      refine a_iloadn (pc := 7) C 3 rfl rfl dX6_farTo_7 ?_
      refine a_bipush (pc := 8) (v := nI 40) C cb_40 dX6_farTo_8 ?_
      refine a_icn_ge_y (pc := 10) (tgt := 32) C (by omega) (by omega) (by omega) (by decide) dX6_farTo_10 ?_
      refine a_iconst (pc := 32) (v := nI 0) C ci_0 dX6_farTo_32 ?_
      refine a_istoren (pc := 33) (L' := [(0, .ref (b 0)), (1, .int (nI to)), (2, .ref q1), (3, .int (nI 0))]) C (by decide) rfl rfl dX6_farTo_33 ?_
      have LP34 : ∀ (jz t : Nat), t + jz = un → aw g κ 6 34 [(0, .ref (b 0)), (1, .int (nI to)), (2, .ref q1), (3, .int (nI t))] [] (wM κ b th un ss fi la da dg ps rn ks os ts fn fp bo eE lE li be ab ((q1, .inl (kI κ, 40, .inl (fr3 li un (pre (fr0 to) (fun _ => nI 0) 40) t))) :: X)) 1 40 := by
        intro jz
        induction jz with
        | zero =>
          intro t hk_t
          obtain rfl : un = t := by omega
          refine a_iloadn (pc := 34) C 3 rfl rfl dX6_farTo_34 ?_
          refine a_aloadn (pc := 35) C 0 rfl rfl dX6_farTo_35 ?_
          refine a_get (pc := 36) C fl_X6_64 0 rfl rfl dX6_farTo_36 ?_
          refine a_icn_ge_y (pc := 39) (tgt := 124) C (by omega) (by omega) (by omega) (by decide) dX6_farTo_39 ?_
          refine a_aloadn (pc := 124) C 2 rfl rfl dX6_farTo_124 ?_
          exact a_aret (pc := 125) C E (Nat.le_of_ble_eq_true rfl) (Nat.le_of_ble_eq_true rfl) ⟨_, rfl, rfl⟩ dX6_farTo_125
        | succ jz ih =>
          intro t hk_t
          have hlt_t : t < un := by omega
          refine a_iloadn (pc := 34) C 3 rfl rfl dX6_farTo_34 ?_
          refine a_aloadn (pc := 35) C 0 rfl rfl dX6_farTo_35 ?_
          refine a_get (pc := 36) C fl_X6_64 0 rfl rfl dX6_farTo_36 ?_
          refine a_icn_ge_n (pc := 39) C (by omega) (by omega) (by omega) dX6_farTo_39 ⟨124, by decide⟩ ?_
          refine a_iconst (pc := 42) (v := nI 0) C ci_0 dX6_farTo_42 ?_
          refine a_istore (pc := 43) (L' := [(0, .ref (b 0)), (1, .int (nI to)), (2, .ref q1), (3, .int (nI t)), (4, .int (nI 0))]) C (by decide) rfl dX6_farTo_43 ?_
          have LP45 : ∀ (jz q : Nat), q + jz = un → aw g κ 6 45 [(0, .ref (b 0)), (1, .int (nI to)), (2, .ref q1), (3, .int (nI t)), (4, .int (nI q))] [] (wM κ b th un ss fi la da dg ps rn ks os ts fn fp bo eE lE li be ab ((q1, .inl (kI κ, 40, .inl (fr2 li un (fr3 li un (pre (fr0 to) (fun _ => nI 0) 40) t) q))) :: X)) 1 40 := by
            intro jz
            induction jz with
            | zero =>
              intro q hk_q
              obtain rfl : un = q := by omega
              refine a_iload (pc := 45) C 4 rfl dX6_farTo_45 ?_
              refine a_aloadn (pc := 47) C 0 rfl rfl dX6_farTo_47 ?_
              refine a_get (pc := 48) C fl_X6_64 0 rfl rfl dX6_farTo_48 ?_
              refine a_icn_ge_y (pc := 51) (tgt := 118) C (by omega) (by omega) (by omega) (by decide) dX6_farTo_51 ?_
              refine a_iinc (pc := 118) (v := nI (t + 1)) (L' := [(0, .ref (b 0)), (1, .int (nI to)), (2, .ref q1), (3, .int (nI (t + 1))), (4, .int (nI un))]) C 3 rfl (nI_inc _) (by decide) rfl dX6_farTo_118 ?_
              refine a_goto (pc := 121) (tgt := 34) C (by decide) dX6_farTo_121 ?_
              refine aw_locals (L' := [(0, .ref (b 0)), (1, .int (nI to)), (2, .ref q1), (3, .int (nI (t + 1)))]) [0, 1, 2, 3] rfl ?_
              refine aw_eq (congrArg (fun zz9 => wM κ b th un ss fi la da dg ps rn ks os ts fn fp bo eE lE li be ab ((q1, .inl (kI κ, 40, .inl zz9)) :: X)) (rfl : (fr2 li un (fr3 li un (pre (fr0 to) (fun _ => nI 0) 40) t) un) = (fr3 li un (pre (fr0 to) (fun _ => nI 0) 40) (t + 1)))) ?_
              exact ih (t + 1) (by omega)
            | succ jz ih =>
              intro q hk_q
              have hlt_q : q < un := by omega
              refine a_iload (pc := 45) C 4 rfl dX6_farTo_45 ?_
              refine a_aloadn (pc := 47) C 0 rfl rfl dX6_farTo_47 ?_
              refine a_get (pc := 48) C fl_X6_64 0 rfl rfl dX6_farTo_48 ?_
              refine a_icn_ge_n (pc := 51) C (by omega) (by omega) (by omega) dX6_farTo_51 ⟨118, by decide⟩ ?_
              refine a_iconst (pc := 54) (v := nI 0) C ci_0 dX6_farTo_54 ?_
              refine a_istore (pc := 55) (L' := [(0, .ref (b 0)), (1, .int (nI to)), (2, .ref q1), (3, .int (nI t)), (4, .int (nI q)), (5, .int (nI 0))]) C (by decide) rfl dX6_farTo_55 ?_
              have LP57 : ∀ (jz k : Nat), k + jz = un → aw g κ 6 57 [(0, .ref (b 0)), (1, .int (nI to)), (2, .ref q1), (3, .int (nI t)), (4, .int (nI q)), (5, .int (nI k))] [] (wM κ b th un ss fi la da dg ps rn ks os ts fn fp bo eE lE li be ab ((q1, .inl (kI κ, 40, .inl (fr1 li q (fr2 li un (fr3 li un (pre (fr0 to) (fun _ => nI 0) 40) t) q) k))) :: X)) 1 40 := by
                intro jz
                induction jz with
                | zero =>
                  intro k hk_k
                  obtain rfl : un = k := by omega
                  refine a_iload (pc := 57) C 5 rfl dX6_farTo_57 ?_
                  refine a_aloadn (pc := 59) C 0 rfl rfl dX6_farTo_59 ?_
                  refine a_get (pc := 60) C fl_X6_64 0 rfl rfl dX6_farTo_60 ?_
                  refine a_icn_ge_y (pc := 63) (tgt := 112) C (by omega) (by omega) (by omega) (by decide) dX6_farTo_63 ?_
                  refine a_iinc (pc := 112) (v := nI (q + 1)) (L' := [(0, .ref (b 0)), (1, .int (nI to)), (2, .ref q1), (3, .int (nI t)), (4, .int (nI (q + 1))), (5, .int (nI un))]) C 4 rfl (nI_inc _) (by decide) rfl dX6_farTo_112 ?_
                  refine a_goto (pc := 115) (tgt := 45) C (by decide) dX6_farTo_115 ?_
                  refine aw_locals (L' := [(0, .ref (b 0)), (1, .int (nI to)), (2, .ref q1), (3, .int (nI t)), (4, .int (nI (q + 1)))]) [0, 1, 2, 3, 4] rfl ?_
                  refine aw_eq (congrArg (fun zz9 => wM κ b th un ss fi la da dg ps rn ks os ts fn fp bo eE lE li be ab ((q1, .inl (kI κ, 40, .inl zz9)) :: X)) (rfl : (fr1 li q (fr2 li un (fr3 li un (pre (fr0 to) (fun _ => nI 0) 40) t) q) un) = (fr2 li un (fr3 li un (pre (fr0 to) (fun _ => nI 0) 40) t) (q + 1)))) ?_
                  exact ih (q + 1) (by omega)
                | succ jz ih =>
                  intro k hk_k
                  have hlt_k : k < un := by omega
                  refine a_iload (pc := 57) C 5 rfl dX6_farTo_57 ?_
                  refine a_aloadn (pc := 59) C 0 rfl rfl dX6_farTo_59 ?_
                  refine a_get (pc := 60) C fl_X6_64 0 rfl rfl dX6_farTo_60 ?_
                  refine a_icn_ge_n (pc := 63) C (by omega) (by omega) (by omega) dX6_farTo_63 ⟨112, by decide⟩ ?_
                  refine a_aloadn (pc := 66) C 0 rfl rfl dX6_farTo_66 ?_
                  refine a_get (pc := 67) C fl_X6_51 0 rfl rfl dX6_farTo_67 ?_
                  refine a_iload (pc := 70) C 4 rfl dX6_farTo_70 ?_
                  refine a_laldS (pc := 72) C 14 rfl (by omega) (by decide) dX6_farTo_72 ?_
                  refine a_iload (pc := 73) C 5 rfl dX6_farTo_73 ?_
                  refine a_callS1 (pc := 75) (k' := 1) (n' := 40) C (c_X6_has κ (by omega)) yv_X6_has ml_X6_83 ws_X6_has rfl rfl (Nat.le_of_ble_eq_true rfl) (Nat.le_of_ble_eq_true rfl) (Nat.le_of_ble_eq_true rfl) ⟨(Nat.le_of_ble_eq_true rfl), (Nat.le_of_ble_eq_true rfl)⟩ rfl rfl dX6_farTo_75 ?_
                  refine a_ifb_eq (pc := 78) (tgt := 106) C (by decide) dX6_farTo_78 (fun c2 => ?_) (fun c2 => ?_)
                  · refine a_iinc (pc := 106) (v := nI (k + 1)) (L' := [(0, .ref (b 0)), (1, .int (nI to)), (2, .ref q1), (3, .int (nI t)), (4, .int (nI q)), (5, .int (nI (k + 1)))]) C 5 rfl (nI_inc _) (by decide) rfl dX6_farTo_106 ?_
                    refine a_goto (pc := 109) (tgt := 57) C (by decide) dX6_farTo_109 ?_
                    refine aw_eq (congrArg (fun zz9 => wM κ b th un ss fi la da dg ps rn ks os ts fn fp bo eE lE li be ab ((q1, .inl (kI κ, 40, .inl zz9)) :: X)) (fr1_n1 c2 : (fr1 li q (fr2 li un (fr3 li un (pre (fr0 to) (fun _ => nI 0) 40) t) q) k) = (fr1 li q (fr2 li un (fr3 li un (pre (fr0 to) (fun _ => nI 0) 40) t) q) (k + 1)))) ?_
                    exact ih (k + 1) (by omega)
                  · refine a_aloadn (pc := 81) C 2 rfl rfl dX6_farTo_81 ?_
                    refine a_iload (pc := 82) C 5 rfl dX6_farTo_82 ?_
                    refine a_iald (pc := 84) C 17 rfl (by omega) (by decide) dX6_farTo_84 ?_
                    refine a_iconst (pc := 85) (v := (-1 : Int32)) C ci_m1 dX6_farTo_85 ?_
                    refine a_ic_eq (pc := 86) (tgt := 106) C (by decide) dX6_farTo_86 (fun c3 => ?_) (fun c3 => ?_)
                    · refine a_iinc (pc := 106) (v := nI (k + 1)) (L' := [(0, .ref (b 0)), (1, .int (nI to)), (2, .ref q1), (3, .int (nI t)), (4, .int (nI q)), (5, .int (nI (k + 1)))]) C 5 rfl (nI_inc _) (by decide) rfl dX6_farTo_106 ?_
                      refine a_goto (pc := 109) (tgt := 57) C (by decide) dX6_farTo_109 ?_
                      refine aw_eq (congrArg (fun zz9 => wM κ b th un ss fi la da dg ps rn ks os ts fn fp bo eE lE li be ab ((q1, .inl (kI κ, 40, .inl zz9)) :: X)) (fr1_n2 c3 : (fr1 li q (fr2 li un (fr3 li un (pre (fr0 to) (fun _ => nI 0) 40) t) q) k) = (fr1 li q (fr2 li un (fr3 li un (pre (fr0 to) (fun _ => nI 0) 40) t) q) (k + 1)))) ?_
                      exact ih (k + 1) (by omega)
                    · refine a_aloadn (pc := 89) C 2 rfl rfl dX6_farTo_89 ?_
                      refine a_iload (pc := 90) C 4 rfl dX6_farTo_90 ?_
                      refine a_aloadn (pc := 92) C 2 rfl rfl dX6_farTo_92 ?_
                      refine a_iload (pc := 93) C 4 rfl dX6_farTo_93 ?_
                      refine a_iald (pc := 95) C 17 rfl (by omega) (by decide) dX6_farTo_95 ?_
                      refine a_aloadn (pc := 96) C 2 rfl rfl dX6_farTo_96 ?_
                      refine a_iload (pc := 97) C 5 rfl dX6_farTo_97 ?_
                      refine a_iald (pc := 99) C 17 rfl (by omega) (by decide) dX6_farTo_99 ?_
                      refine a_iconst (pc := 100) (v := nI 1) C ci_1 dX6_farTo_100 ?_
                      refine a_iadd (pc := 101) (v := ((fr1 li q (fr2 li un (fr3 li un (pre (fr0 to) (fun _ => nI 0) 40) t) q) k) k) + (nI 1)) C rfl dX6_farTo_101 ?_
                      refine a_mmax (pc := 102) (v := imax ((fr1 li q (fr2 li un (fr3 li un (pre (fr0 to) (fun _ => nI 0) 40) t) q) k) q) (((fr1 li q (fr2 li un (fr3 li un (pre (fr0 to) (fun _ => nI 0) 40) t) q) k) k) + (nI 1))) C ml_X6_97 rfl (Nat.le_of_ble_eq_true rfl) (Nat.le_of_ble_eq_true rfl) (Nat.le_of_ble_eq_true rfl) (Nat.le_of_ble_eq_true rfl) dX6_farTo_102 ?_
                      refine a_iast (pc := 105) (ws' := wM κ b th un ss fi la da dg ps rn ks os ts fn fp bo eE lE li be ab ((q1, .inl (kI κ, 40, .inl (va_up (fr1 li q (fr2 li un (fr3 li un (pre (fr0 to) (fun _ => nI 0) 40) t) q) k) q (imax ((fr1 li q (fr2 li un (fr3 li un (pre (fr0 to) (fun _ => nI 0) 40) t) q) k) q) (((fr1 li q (fr2 li un (fr3 li un (pre (fr0 to) (fun _ => nI 0) 40) t) q) k) k) + (nI 1)))))) :: X)) C 17 rfl (by omega) (by decide) rfl rfl dX6_farTo_105 ?_
                      refine a_iinc (pc := 106) (v := nI (k + 1)) (L' := [(0, .ref (b 0)), (1, .int (nI to)), (2, .ref q1), (3, .int (nI t)), (4, .int (nI q)), (5, .int (nI (k + 1)))]) C 5 rfl (nI_inc _) (by decide) rfl dX6_farTo_106 ?_
                      refine a_goto (pc := 109) (tgt := 57) C (by decide) dX6_farTo_109 ?_
                      refine aw_eq (congrArg (fun zz9 => wM κ b th un ss fi la da dg ps rn ks os ts fn fp bo eE lE li be ab ((q1, .inl (kI κ, 40, .inl zz9)) :: X)) (fr1_y c2 c3 : (va_up (fr1 li q (fr2 li un (fr3 li un (pre (fr0 to) (fun _ => nI 0) 40) t) q) k) q (imax ((fr1 li q (fr2 li un (fr3 li un (pre (fr0 to) (fun _ => nI 0) 40) t) q) k) q) (((fr1 li q (fr2 li un (fr3 li un (pre (fr0 to) (fun _ => nI 0) 40) t) q) k) k) + (nI 1)))) = (fr1 li q (fr2 li un (fr3 li un (pre (fr0 to) (fun _ => nI 0) 40) t) q) (k + 1)))) ?_
                      exact ih (k + 1) (by omega)
              refine aw_eq (congrArg (fun zz9 => wM κ b th un ss fi la da dg ps rn ks os ts fn fp bo eE lE li be ab ((q1, .inl (kI κ, 40, .inl zz9)) :: X)) (rfl : (fr2 li un (fr3 li un (pre (fr0 to) (fun _ => nI 0) 40) t) q) = (fr1 li q (fr2 li un (fr3 li un (pre (fr0 to) (fun _ => nI 0) 40) t) q) 0))) ?_
              exact LP57 (un) (0) (by omega)
          refine aw_eq (congrArg (fun zz9 => wM κ b th un ss fi la da dg ps rn ks os ts fn fp bo eE lE li be ab ((q1, .inl (kI κ, 40, .inl zz9)) :: X)) (rfl : (fr3 li un (pre (fr0 to) (fun _ => nI 0) 40) t) = (fr2 li un (fr3 li un (pre (fr0 to) (fun _ => nI 0) 40) t) 0))) ?_
          exact LP45 (un) (0) (by omega)
      refine aw_eq (congrArg (fun zz9 => wM κ b th un ss fi la da dg ps rn ks os ts fn fp bo eE lE li be ab ((q1, .inl (kI κ, 40, .inl zz9)) :: X)) (rfl : (pre (fr0 to) (fun _ => nI 0) 40) = (fr3 li un (pre (fr0 to) (fun _ => nI 0) 40) 0))) ?_
      exact LP34 (un) (0) (by omega)
    | succ jz ih =>
      intro k hk_k
      have hlt_k : k < 40 := by omega
      refine a_iloadn (pc := 7) C 3 rfl rfl dX6_farTo_7 ?_
      refine a_bipush (pc := 8) (v := nI 40) C cb_40 dX6_farTo_8 ?_
      refine a_icn_ge_n (pc := 10) C (by omega) (by omega) (by omega) dX6_farTo_10 ⟨32, by decide⟩ ?_
      refine a_aloadn (pc := 13) C 2 rfl rfl dX6_farTo_13 ?_
      refine a_iloadn (pc := 14) C 3 rfl rfl dX6_farTo_14 ?_
      refine a_iloadn (pc := 15) C 3 rfl rfl dX6_farTo_15 ?_
      refine a_iloadn (pc := 16) C 1 rfl rfl dX6_farTo_16 ?_
      refine a_icn_ne (pc := 17) (tgt := 24) C (by omega) (by omega) (by decide) dX6_farTo_17 (fun c4 => ?_) (fun c4 => ?_)
      · refine a_iconst (pc := 24) (v := (-1 : Int32)) C ci_m1 dX6_farTo_24 ?_
        refine a_iast (pc := 25) (ws' := wM κ b th un ss fi la da dg ps rn ks os ts fn fp bo eE lE li be ab ((q1, .inl (kI κ, 40, .inl (va_up (pre (fr0 to) (fun _ => nI 0) k) k (-1 : Int32)))) :: X)) C 17 rfl (by omega) (by decide) rfl rfl dX6_farTo_25 ?_
        refine a_iinc (pc := 26) (v := nI (k + 1)) (L' := [(0, .ref (b 0)), (1, .int (nI to)), (2, .ref q1), (3, .int (nI (k + 1)))]) C 3 rfl (nI_inc _) (by decide) rfl dX6_farTo_26 ?_
        refine a_goto (pc := 29) (tgt := 7) C (by decide) dX6_farTo_29 ?_
        refine aw_eq (congrArg (fun zz9 => wM κ b th un ss fi la da dg ps rn ks os ts fn fp bo eE lE li be ab ((q1, .inl (kI κ, 40, .inl zz9)) :: X)) (fr0_n c4 : (va_up (pre (fr0 to) (fun _ => nI 0) k) k (-1 : Int32)) = (pre (fr0 to) (fun _ => nI 0) (k + 1)))) ?_
        exact ih (k + 1) (by omega)
      · refine a_iconst (pc := 20) (v := nI 0) C ci_0 dX6_farTo_20 ?_
        refine a_goto (pc := 21) (tgt := 25) C (by decide) dX6_farTo_21 ?_
        refine a_iast (pc := 25) (ws' := wM κ b th un ss fi la da dg ps rn ks os ts fn fp bo eE lE li be ab ((q1, .inl (kI κ, 40, .inl (va_up (pre (fr0 to) (fun _ => nI 0) k) k (nI 0)))) :: X)) C 17 rfl (by omega) (by decide) rfl rfl dX6_farTo_25 ?_
        refine a_iinc (pc := 26) (v := nI (k + 1)) (L' := [(0, .ref (b 0)), (1, .int (nI to)), (2, .ref q1), (3, .int (nI (k + 1)))]) C 3 rfl (nI_inc _) (by decide) rfl dX6_farTo_26 ?_
        refine a_goto (pc := 29) (tgt := 7) C (by decide) dX6_farTo_29 ?_
        refine aw_eq (congrArg (fun zz9 => wM κ b th un ss fi la da dg ps rn ks os ts fn fp bo eE lE li be ab ((q1, .inl (kI κ, 40, .inl zz9)) :: X)) (fr0_y c4 : (va_up (pre (fr0 to) (fun _ => nI 0) k) k (nI 0)) = (pre (fr0 to) (fun _ => nI 0) (k + 1)))) ?_
        exact ih (k + 1) (by omega)
  refine aw_eq (congrArg (fun zz9 => wM κ b th un ss fi la da dg ps rn ks os ts fn fp bo eE lE li be ab ((q1, .inl (kI κ, 40, .inl zz9)) :: X)) ((pre_0 _ _).symm : (fun _ => nI 0) = (pre (fr0 to) (fun _ => nI 0) 0))) ?_
  exact LP7 (40) (0) (by omega)

set_option maxHeartbeats 4000000 in
set_option maxRecDepth 100000 in
theorem c_X6_way_b1 (κ : aK) (b : Nat → Nat) {th : Int32} {un : Nat} {ss : Nat → Int32} {fi : Nat → Int32} {la : Nat → Int32} {da : Nat → Bool} {dg : Nat → Bool} {ps : Nat → Int32} {rn : Nat} {ks : Nat → Int32} {os : Nat → Nat} {ts : Nat → Nat} {fn : Nat} {fp : Nat → Int32} {bo : Nat → Nat} {eE : Nat → Nat → Bool} {lE : Nat → Nat → Bool} {li : Nat → Nat → Bool} {be : Nat → Int32} {ab : Nat → Int32} {X : va_W} {x : Int32} {y : Int32} {z : Int32} (hun : un ≤ 40) (hb : ¬ (okU un x ∧ okU un y)) : CM yX6_way cX6_way 8 (some .int) ({ frames := 2, cells := 0, slots := 0, locals := 47 } : Room) κ [.ref (b 0), .int x, .int y, .int z] (wM κ b th un ss fi la da dg ps rn ks os ts fn fp bo eE lE li be ab X) (aD (some (.int (nI 0))) (wM κ b (nI 1) un ss fi la da dg ps rn ks os ts fn fp bo eE lE li be ab X)) := by
  refine cm_entry (own := RX6) (L := [(0, .ref (b 0)), (1, .int x), (2, .int y), (3, .int z)]) (by decide +kernel) rfl (lv_entry [.ref (b 0), .int x, .int y, .int z] (n := 8) (Nat.le_of_ble_eq_true rfl)) (fun g C E => ?_)
  refine a_aloadn (pc := 0) C 0 rfl rfl dX6_way_0 ?_
  refine a_iconst (pc := 1) (v := nI 0) C ci_0 dX6_way_1 ?_
  refine a_put (pc := 2) (ws' := wM κ b (nI 0) un ss fi la da dg ps rn ks os ts fn fp bo eE lE li be ab X) C fl_X6_60 fp_X6_0 0 rfl rfl rfl (Nat.le_of_ble_eq_true rfl) rfl dX6_way_2 ?_
  refine a_aloadn (pc := 5) C 0 rfl rfl dX6_way_5 ?_
  refine a_iloadn (pc := 6) C 1 rfl rfl dX6_way_6 ?_
  refine a_callV1 (pc := 7) (k' := 0) (n' := 0) C (c_X6_isUnit κ b) yv_X6_isUnit ml_X6_107 wi_X6_isUnit wl_X6_isUnit 0 rfl rfl rfl rfl (Nat.le_of_ble_eq_true rfl) (Nat.le_of_ble_eq_true rfl) (Nat.le_of_ble_eq_true rfl) ⟨(Nat.le_of_ble_eq_true rfl), (Nat.le_of_ble_eq_true rfl)⟩ rfl rfl dX6_way_7 ?_
  refine a_ifb_eq (pc := 10) (tgt := 21) C (by decide) dX6_way_10 (fun c1 => ?_) (fun c1 => ?_)
  · refine a_aloadn (pc := 21) C 0 rfl rfl dX6_way_21 ?_
    refine a_iconst (pc := 22) (v := nI 1) C ci_1 dX6_way_22 ?_
    refine a_callV1 (pc := 23) (k' := 0) (n' := 0) C (c_X6_no κ b) yv_X6_no ml_X6_100 wi_X6_no wl_X6_no 0 rfl rfl rfl rfl (Nat.le_of_ble_eq_true rfl) (Nat.le_of_ble_eq_true rfl) (Nat.le_of_ble_eq_true rfl) ⟨(Nat.le_of_ble_eq_true rfl), (Nat.le_of_ble_eq_true rfl)⟩ rfl rfl dX6_way_23 ?_
    exact a_iret (pc := 26) C E (Nat.le_of_ble_eq_true rfl) (Nat.le_of_ble_eq_true rfl) ⟨rfl, rfl⟩ dX6_way_26
  · refine a_aloadn (pc := 13) C 0 rfl rfl dX6_way_13 ?_
    refine a_iloadn (pc := 14) C 2 rfl rfl dX6_way_14 ?_
    refine a_callV1 (pc := 15) (k' := 0) (n' := 0) C (c_X6_isUnit κ b) yv_X6_isUnit ml_X6_107 wi_X6_isUnit wl_X6_isUnit 0 rfl rfl rfl rfl (Nat.le_of_ble_eq_true rfl) (Nat.le_of_ble_eq_true rfl) (Nat.le_of_ble_eq_true rfl) ⟨(Nat.le_of_ble_eq_true rfl), (Nat.le_of_ble_eq_true rfl)⟩ rfl rfl dX6_way_15 ?_
    refine a_ifb_ne_n (pc := 18) C (okU_nf (by omega) (fun h => hb ⟨(okU_n (by omega)).mp c1, h⟩)) dX6_way_18 ⟨27, by decide⟩ ?_
    refine a_aloadn (pc := 21) C 0 rfl rfl dX6_way_21 ?_
    refine a_iconst (pc := 22) (v := nI 1) C ci_1 dX6_way_22 ?_
    refine a_callV1 (pc := 23) (k' := 0) (n' := 0) C (c_X6_no κ b) yv_X6_no ml_X6_100 wi_X6_no wl_X6_no 0 rfl rfl rfl rfl (Nat.le_of_ble_eq_true rfl) (Nat.le_of_ble_eq_true rfl) (Nat.le_of_ble_eq_true rfl) ⟨(Nat.le_of_ble_eq_true rfl), (Nat.le_of_ble_eq_true rfl)⟩ rfl rfl dX6_way_23 ?_
    exact a_iret (pc := 26) C E (Nat.le_of_ble_eq_true rfl) (Nat.le_of_ble_eq_true rfl) ⟨rfl, rfl⟩ dX6_way_26

set_option maxHeartbeats 4000000 in
set_option maxRecDepth 100000 in
theorem c_X6_way_b2 (κ : aK) (b : Nat → Nat) {th : Int32} {un : Nat} {ss : Nat → Int32} {fi : Nat → Int32} {la : Nat → Int32} {da : Nat → Bool} {dg : Nat → Bool} {ps : Nat → Int32} {rn : Nat} {ks : Nat → Int32} {os : Nat → Nat} {ts : Nat → Nat} {fn : Nat} {fp : Nat → Int32} {bo : Nat → Nat} {eE : Nat → Nat → Bool} {lE : Nat → Nat → Bool} {li : Nat → Nat → Bool} {be : Nat → Int32} {ab : Nat → Int32} {X : va_W} {x : Nat} {y : Nat} {z : Int32} (hun : un ≤ 40) (hx : x < un) (hy : y < un) (hb : ¬ okU 40 z) : CM yX6_way cX6_way 8 (some .int) ({ frames := 2, cells := 0, slots := 0, locals := 47 } : Room) κ [.ref (b 0), .int (nI x), .int (nI y), .int z] (wM κ b th un ss fi la da dg ps rn ks os ts fn fp bo eE lE li be ab X) (aD (some (.int (nI 0))) (wM κ b (nI 2) un ss fi la da dg ps rn ks os ts fn fp bo eE lE li be ab X)) := by
  refine cm_entry (own := RX6) (L := [(0, .ref (b 0)), (1, .int (nI x)), (2, .int (nI y)), (3, .int z)]) (by decide +kernel) rfl (lv_entry [.ref (b 0), .int (nI x), .int (nI y), .int z] (n := 8) (Nat.le_of_ble_eq_true rfl)) (fun g C E => ?_)
  refine a_aloadn (pc := 0) C 0 rfl rfl dX6_way_0 ?_
  refine a_iconst (pc := 1) (v := nI 0) C ci_0 dX6_way_1 ?_
  refine a_put (pc := 2) (ws' := wM κ b (nI 0) un ss fi la da dg ps rn ks os ts fn fp bo eE lE li be ab X) C fl_X6_60 fp_X6_0 0 rfl rfl rfl (Nat.le_of_ble_eq_true rfl) rfl dX6_way_2 ?_
  refine a_aloadn (pc := 5) C 0 rfl rfl dX6_way_5 ?_
  refine a_iloadn (pc := 6) C 1 rfl rfl dX6_way_6 ?_
  refine a_callV1 (pc := 7) (k' := 0) (n' := 0) C (c_X6_isUnit κ b) yv_X6_isUnit ml_X6_107 wi_X6_isUnit wl_X6_isUnit 0 rfl rfl rfl rfl (Nat.le_of_ble_eq_true rfl) (Nat.le_of_ble_eq_true rfl) (Nat.le_of_ble_eq_true rfl) ⟨(Nat.le_of_ble_eq_true rfl), (Nat.le_of_ble_eq_true rfl)⟩ rfl rfl dX6_way_7 ?_
  refine a_ifb_eq_n (pc := 10) C ((okU_n (by omega)).mpr (okU_j hx)) dX6_way_10 ⟨21, by decide⟩ ?_
  refine a_aloadn (pc := 13) C 0 rfl rfl dX6_way_13 ?_
  refine a_iloadn (pc := 14) C 2 rfl rfl dX6_way_14 ?_
  refine a_callV1 (pc := 15) (k' := 0) (n' := 0) C (c_X6_isUnit κ b) yv_X6_isUnit ml_X6_107 wi_X6_isUnit wl_X6_isUnit 0 rfl rfl rfl rfl (Nat.le_of_ble_eq_true rfl) (Nat.le_of_ble_eq_true rfl) (Nat.le_of_ble_eq_true rfl) ⟨(Nat.le_of_ble_eq_true rfl), (Nat.le_of_ble_eq_true rfl)⟩ rfl rfl dX6_way_15 ?_
  refine a_ifb_ne_y (pc := 18) (tgt := 27) C ((okU_n (by omega)).mpr (okU_j hy)) (by decide) dX6_way_18 ?_
  refine a_iloadn (pc := 27) C 3 rfl rfl dX6_way_27 ?_
  refine a_iconst (pc := 28) (v := nI 0) C ci_0 dX6_way_28 ?_
  refine a_bipush (pc := 29) (v := nI 39) C cb_39 dX6_way_29 ?_
  refine a_callS1 (pc := 31) (k' := 0) (n' := 0) C (c_X6_isIn κ) yv_X6_isIn ml_X6_67 ws_X6_isIn rfl rfl (Nat.le_of_ble_eq_true rfl) (Nat.le_of_ble_eq_true rfl) (Nat.le_of_ble_eq_true rfl) ⟨(Nat.le_of_ble_eq_true rfl), (Nat.le_of_ble_eq_true rfl)⟩ rfl rfl dX6_way_31 ?_
  refine a_ifb_ne_n (pc := 34) C (okU_cf (by omega) hb) dX6_way_34 ⟨43, by decide⟩ ?_
  refine a_aloadn (pc := 37) C 0 rfl rfl dX6_way_37 ?_
  refine a_iconst (pc := 38) (v := nI 2) C ci_2 dX6_way_38 ?_
  refine a_callV1 (pc := 39) (k' := 0) (n' := 0) C (c_X6_no κ b) yv_X6_no ml_X6_100 wi_X6_no wl_X6_no 0 rfl rfl rfl rfl (Nat.le_of_ble_eq_true rfl) (Nat.le_of_ble_eq_true rfl) (Nat.le_of_ble_eq_true rfl) ⟨(Nat.le_of_ble_eq_true rfl), (Nat.le_of_ble_eq_true rfl)⟩ rfl rfl dX6_way_39 ?_
  exact a_iret (pc := 42) C E (Nat.le_of_ble_eq_true rfl) (Nat.le_of_ble_eq_true rfl) ⟨rfl, rfl⟩ dX6_way_42

set_option maxHeartbeats 4000000 in
set_option maxRecDepth 100000 in
theorem c_X6_way (κ : aK) (b : Nat → Nat) {th : Int32} {un : Nat} {ss : Nat → Int32} {fi : Nat → Int32} {la : Nat → Int32} {da : Nat → Bool} {dg : Nat → Bool} {ps : Nat → Int32} {rn : Nat} {ks : Nat → Int32} {os : Nat → Nat} {ts : Nat → Nat} {fn : Nat} {fp : Nat → Int32} {bo : Nat → Nat} {eE : Nat → Nat → Bool} {lE : Nat → Nat → Bool} {li : Nat → Nat → Bool} {be : Nat → Int32} {ab : Nat → Int32} {X : va_W} {x : Nat} {y : Nat} {z : Nat} (hun : un ≤ 40) (hbo : ∀ u, bo u < 40) (hx : x < un) (hy : y < un) (hz : z < 40) (hw : ¬ ((frT li un (bo y)) (bo x) = (-1 : Int32) ∨ (frT li un (bo y)) (bo x) < nI z) → ∀ k, k < z → ∃ v, fst1 (rwN li (frT li un (bo y)) (rwS li (frT li un (bo y)) (bo x) k)) 40 = some v) : CM yX6_way cX6_way 8 (some .int) ({ frames := 2, cells := 1, slots := 40, locals := 47 } : Room) κ [.ref (b 0), .int (nI x), .int (nI y), .int (nI z)] (wM κ b th un ss fi la da dg ps rn ks os ts fn fp bo eE lE li be ab X) (aD (some (.int (rwR li (frT li un (bo y)) (bo x) z))) (wM κ b (nI 0) un ss fi la da dg ps rn ks os ts fn fp bo eE lE li be ab X)) := by
  refine cm_entry (own := RX6) (L := [(0, .ref (b 0)), (1, .int (nI x)), (2, .int (nI y)), (3, .int (nI z))]) (by decide +kernel) rfl (lv_entry [.ref (b 0), .int (nI x), .int (nI y), .int (nI z)] (n := 8) (Nat.le_of_ble_eq_true rfl)) (fun g C E => ?_)
  have hbx := hbo x
  have hby := hbo y
  have hrw : ∀ k, rwS li (frT li un (bo y)) (bo x) k < 40 := rwS_lt (hbo x)
  refine a_aloadn (pc := 0) C 0 rfl rfl dX6_way_0 ?_
  refine a_iconst (pc := 1) (v := nI 0) C ci_0 dX6_way_1 ?_
  refine a_put (pc := 2) (ws' := wM κ b (nI 0) un ss fi la da dg ps rn ks os ts fn fp bo eE lE li be ab X) C fl_X6_60 fp_X6_0 0 rfl rfl rfl (Nat.le_of_ble_eq_true rfl) rfl dX6_way_2 ?_
  refine a_aloadn (pc := 5) C 0 rfl rfl dX6_way_5 ?_
  refine a_iloadn (pc := 6) C 1 rfl rfl dX6_way_6 ?_
  refine a_callV1 (pc := 7) (k' := 0) (n' := 0) C (c_X6_isUnit κ b) yv_X6_isUnit ml_X6_107 wi_X6_isUnit wl_X6_isUnit 0 rfl rfl rfl rfl (Nat.le_of_ble_eq_true rfl) (Nat.le_of_ble_eq_true rfl) (Nat.le_of_ble_eq_true rfl) ⟨(Nat.le_of_ble_eq_true rfl), (Nat.le_of_ble_eq_true rfl)⟩ rfl rfl dX6_way_7 ?_
  refine a_ifb_eq_n (pc := 10) C ((okU_n (by omega)).mpr (okU_j hx)) dX6_way_10 ⟨21, by decide⟩ ?_
  refine a_aloadn (pc := 13) C 0 rfl rfl dX6_way_13 ?_
  refine a_iloadn (pc := 14) C 2 rfl rfl dX6_way_14 ?_
  refine a_callV1 (pc := 15) (k' := 0) (n' := 0) C (c_X6_isUnit κ b) yv_X6_isUnit ml_X6_107 wi_X6_isUnit wl_X6_isUnit 0 rfl rfl rfl rfl (Nat.le_of_ble_eq_true rfl) (Nat.le_of_ble_eq_true rfl) (Nat.le_of_ble_eq_true rfl) ⟨(Nat.le_of_ble_eq_true rfl), (Nat.le_of_ble_eq_true rfl)⟩ rfl rfl dX6_way_15 ?_
  refine a_ifb_ne_y (pc := 18) (tgt := 27) C ((okU_n (by omega)).mpr (okU_j hy)) (by decide) dX6_way_18 ?_
  refine a_iloadn (pc := 27) C 3 rfl rfl dX6_way_27 ?_
  refine a_iconst (pc := 28) (v := nI 0) C ci_0 dX6_way_28 ?_
  refine a_bipush (pc := 29) (v := nI 39) C cb_39 dX6_way_29 ?_
  refine a_callS1 (pc := 31) (k' := 0) (n' := 0) C (c_X6_isIn κ) yv_X6_isIn ml_X6_67 ws_X6_isIn rfl rfl (Nat.le_of_ble_eq_true rfl) (Nat.le_of_ble_eq_true rfl) (Nat.le_of_ble_eq_true rfl) ⟨(Nat.le_of_ble_eq_true rfl), (Nat.le_of_ble_eq_true rfl)⟩ rfl rfl dX6_way_31 ?_
  refine a_ifb_ne_y (pc := 34) (tgt := 43) C ((okU_c (by omega)).mpr (okU_j hz)) (by decide) dX6_way_34 ?_
  refine a_aloadn (pc := 43) C 0 rfl rfl dX6_way_43 ?_
  refine a_aloadn (pc := 44) C 0 rfl rfl dX6_way_44 ?_
  refine a_get (pc := 45) C fl_X6_41 0 rfl rfl dX6_way_45 ?_
  refine a_iloadn (pc := 48) C 2 rfl rfl dX6_way_48 ?_
  refine a_ialdN (pc := 49) C 11 rfl (by omega) (by decide) dX6_way_49 ?_
  refine a_callV (pc := 50) C (c_X6_farTo κ b hun hby) yv_X6_farTo ml_X6_174 wi_X6_farTo wl_X6_farTo 0 rfl rfl rfl rfl rfl (Nat.le_of_ble_eq_true rfl) (Nat.le_of_ble_eq_true rfl) (Nat.le_of_ble_eq_true rfl) ⟨(Nat.le_of_ble_eq_true rfl), (Nat.le_of_ble_eq_true rfl)⟩ dX6_way_50 (fun ro w h => ?_)
  obtain ⟨q1, rfl, rfl⟩ := h
  refine a_astore (pc := 53) (L' := [(0, .ref (b 0)), (1, .int (nI x)), (2, .int (nI y)), (3, .int (nI z)), (4, .ref q1)]) C (by decide) rfl dX6_way_53 ?_
  refine a_aloadn (pc := 55) C 0 rfl rfl dX6_way_55 ?_
  refine a_get (pc := 56) C fl_X6_41 0 rfl rfl dX6_way_56 ?_
  refine a_iloadn (pc := 59) C 1 rfl rfl dX6_way_59 ?_
  refine a_ialdN (pc := 60) C 11 rfl (by omega) (by decide) dX6_way_60 ?_
  refine a_istore (pc := 61) (L' := [(0, .ref (b 0)), (1, .int (nI x)), (2, .int (nI y)), (3, .int (nI z)), (4, .ref q1), (5, .int (nI (bo x)))]) C (by decide) rfl dX6_way_61 ?_
  refine a_aload (pc := 63) C 4 rfl dX6_way_63 ?_
  refine a_iload (pc := 65) C 5 rfl dX6_way_65 ?_
  refine a_iald (pc := 67) C 17 rfl (hbo _) (by decide) dX6_way_67 ?_
  refine a_iconst (pc := 68) (v := (-1 : Int32)) C ci_m1 dX6_way_68 ?_
  refine a_ic_eq (pc := 69) (tgt := 81) C (by decide) dX6_way_69 (fun c1 => ?_) (fun c1 => ?_)
  · refine a_iconst (pc := 81) (v := (-1 : Int32)) C ci_m1 dX6_way_81 ?_
    refine aw_sub (wM_drop _) ?_
    exact a_iret (pc := 82) C E (Nat.le_of_ble_eq_true rfl) (Nat.le_of_ble_eq_true rfl) ⟨by rw [rwR, if_pos (Or.inl c1)], rfl⟩ dX6_way_82
  · refine a_iloadn (pc := 72) C 3 rfl rfl dX6_way_72 ?_
    refine a_aload (pc := 73) C 4 rfl dX6_way_73 ?_
    refine a_iload (pc := 75) C 5 rfl dX6_way_75 ?_
    refine a_iald (pc := 77) C 17 rfl (hbo _) (by decide) dX6_way_77 ?_
    refine a_ic_le (pc := 78) (tgt := 83) C (by decide) dX6_way_78 (fun c2 => ?_) (fun c2 => ?_)
    · refine a_iconst (pc := 83) (v := nI 0) C ci_0 dX6_way_83 ?_
      refine a_istore (pc := 84) (L' := [(0, .ref (b 0)), (1, .int (nI x)), (2, .int (nI y)), (3, .int (nI z)), (4, .ref q1), (5, .int (nI (bo x))), (6, .int (nI 0))]) C (by decide) rfl dX6_way_84 ?_
      have LP86 : ∀ (jz k : Nat), k + jz = z → aw g κ 8 86 [(0, .ref (b 0)), (1, .int (nI x)), (2, .int (nI y)), (3, .int (nI z)), (4, .ref q1), (5, .int (nI (rwS li (frT li un (bo y)) (bo x) k))), (6, .int (nI k))] [] (wM κ b (nI 0) un ss fi la da dg ps rn ks os ts fn fp bo eE lE li be ab ((q1, .inl (kI κ, 40, .inl (frT li un (bo y)))) :: X)) 1 40 := by
        intro jz
        induction jz with
        | zero =>
          intro k hk_k
          obtain rfl : z = k := by omega
          refine a_iload (pc := 86) C 6 rfl dX6_way_86 ?_
          refine a_iloadn (pc := 88) C 3 rfl rfl dX6_way_88 ?_
          refine a_icn_ge_y (pc := 89) (tgt := 141) C (by omega) (by omega) (by omega) (by decide) dX6_way_89 ?_
          refine a_iload (pc := 141) C 5 rfl dX6_way_141 ?_
          refine aw_sub (wM_drop _) ?_
          exact a_iret (pc := 143) C E (Nat.le_of_ble_eq_true rfl) (Nat.le_of_ble_eq_true rfl) ⟨by rw [rwR, if_neg (fun c => c.elim c1 (Int32.not_lt.mpr c2))], rfl⟩ dX6_way_143
        | succ jz ih =>
          intro k hk_k
          have hlt_k : k < z := by omega
          refine a_iload (pc := 86) C 6 rfl dX6_way_86 ?_
          refine a_iloadn (pc := 88) C 3 rfl rfl dX6_way_88 ?_
          refine a_icn_ge_n (pc := 89) C (by omega) (by omega) (by omega) dX6_way_89 ⟨141, by decide⟩ ?_
          refine a_iconst (pc := 92) (v := nI 0) C ci_0 dX6_way_92 ?_
          refine a_istore (pc := 93) (L' := [(0, .ref (b 0)), (1, .int (nI x)), (2, .int (nI y)), (3, .int (nI z)), (4, .ref q1), (5, .int (nI (rwS li (frT li un (bo y)) (bo x) k))), (6, .int (nI k)), (7, .int (nI 0))]) C (by decide) rfl dX6_way_93 ?_
          obtain ⟨v, hv⟩ := hw (fun c => c.elim c1 (Int32.not_lt.mpr c2)) k hlt_k
          have hv40 := (fst1_some hv).1
          have hvy := (fst1_some hv).2.1
          have hvn := (fst1_some hv).2.2
          have LP95 : ∀ (jz j : Nat), j + jz = v → aw g κ 8 95 [(0, .ref (b 0)), (1, .int (nI x)), (2, .int (nI y)), (3, .int (nI z)), (4, .ref q1), (5, .int (nI (rwS li (frT li un (bo y)) (bo x) k))), (6, .int (nI k)), (7, .int (nI j))] [] (wM κ b (nI 0) un ss fi la da dg ps rn ks os ts fn fp bo eE lE li be ab ((q1, .inl (kI κ, 40, .inl (frT li un (bo y)))) :: X)) 1 40 := by
            intro jz
            induction jz with
            | zero =>
              intro j hk_j
              obtain rfl : v = j := by omega
              refine a_aloadn (pc := 95) C 0 rfl rfl dX6_way_95 ?_
              refine a_get (pc := 96) C fl_X6_51 0 rfl rfl dX6_way_96 ?_
              refine a_iload (pc := 99) C 5 rfl dX6_way_99 ?_
              refine a_laldS (pc := 101) C 14 rfl (hrw _) (by decide) dX6_way_101 ?_
              refine a_iload (pc := 102) C 7 rfl dX6_way_102 ?_
              refine a_callS1 (pc := 104) (k' := 1) (n' := 40) C (c_X6_has κ (by omega)) yv_X6_has ml_X6_83 ws_X6_has rfl rfl (Nat.le_of_ble_eq_true rfl) (Nat.le_of_ble_eq_true rfl) (Nat.le_of_ble_eq_true rfl) ⟨(Nat.le_of_ble_eq_true rfl), (Nat.le_of_ble_eq_true rfl)⟩ rfl rfl dX6_way_104 ?_
              refine a_ifb_eq_n (pc := 107) C (rw_y1 hvy) dX6_way_107 ⟨125, by decide⟩ ?_
              refine a_aload (pc := 110) C 4 rfl dX6_way_110 ?_
              refine a_iload (pc := 112) C 7 rfl dX6_way_112 ?_
              refine a_iald (pc := 114) C 17 rfl (by omega) (by decide) dX6_way_114 ?_
              refine a_aload (pc := 115) C 4 rfl dX6_way_115 ?_
              refine a_iload (pc := 117) C 5 rfl dX6_way_117 ?_
              refine a_iald (pc := 119) C 17 rfl (hrw _) (by decide) dX6_way_119 ?_
              refine a_iconst (pc := 120) (v := nI 1) C ci_1 dX6_way_120 ?_
              refine a_isub (pc := 121) (v := ((frT li un (bo y)) (rwS li (frT li un (bo y)) (bo x) k)) - (nI 1)) C rfl dX6_way_121 ?_
              refine a_ic_eq_y (pc := 122) (tgt := 131) C (rw_y2 hvy) (by decide) dX6_way_122 ?_
              refine a_iload (pc := 131) C 7 rfl dX6_way_131 ?_
              refine a_istore (pc := 133) (L' := [(0, .ref (b 0)), (1, .int (nI x)), (2, .int (nI y)), (3, .int (nI z)), (4, .ref q1), (5, .int (nI v)), (6, .int (nI k)), (7, .int (nI v))]) C (by decide) rfl dX6_way_133 ?_
              refine a_iinc (pc := 135) (v := nI (k + 1)) (L' := [(0, .ref (b 0)), (1, .int (nI x)), (2, .int (nI y)), (3, .int (nI z)), (4, .ref q1), (5, .int (nI v)), (6, .int (nI (k + 1))), (7, .int (nI v))]) C 6 rfl (nI_inc _) (by decide) rfl dX6_way_135 ?_
              refine a_goto (pc := 138) (tgt := 86) C (by decide) dX6_way_138 ?_
              refine aw_locals (L' := [(0, .ref (b 0)), (1, .int (nI x)), (2, .int (nI y)), (3, .int (nI z)), (4, .ref q1), (5, .int (nI v)), (6, .int (nI (k + 1)))]) [0, 1, 2, 3, 4, 5, 6] rfl ?_
              refine aw_L (L' := [(0, .ref (b 0)), (1, .int (nI x)), (2, .int (nI y)), (3, .int (nI z)), (4, .ref q1), (5, .int (nI (rwS li (frT li un (bo y)) (bo x) (k + 1)))), (6, .int (nI (k + 1)))]) (congrArg (fun zz9 => ([(0, .ref (b 0)), (1, .int (nI x)), (2, .int (nI y)), (3, .int (nI z)), (4, .ref q1), (5, .int zz9), (6, .int (nI (k + 1)))] : List (Nat × Value))) (congrArg nI (rwS_s hv) : (nI v) = (nI (rwS li (frT li un (bo y)) (bo x) (k + 1))))) ?_
              exact ih (k + 1) (by omega)
            | succ jz ih =>
              intro j hk_j
              have hlt_j : j < v := by omega
              refine a_aloadn (pc := 95) C 0 rfl rfl dX6_way_95 ?_
              refine a_get (pc := 96) C fl_X6_51 0 rfl rfl dX6_way_96 ?_
              refine a_iload (pc := 99) C 5 rfl dX6_way_99 ?_
              refine a_laldS (pc := 101) C 14 rfl (hrw _) (by decide) dX6_way_101 ?_
              refine a_iload (pc := 102) C 7 rfl dX6_way_102 ?_
              refine a_callS1 (pc := 104) (k' := 1) (n' := 40) C (c_X6_has κ (by omega)) yv_X6_has ml_X6_83 ws_X6_has rfl rfl (Nat.le_of_ble_eq_true rfl) (Nat.le_of_ble_eq_true rfl) (Nat.le_of_ble_eq_true rfl) ⟨(Nat.le_of_ble_eq_true rfl), (Nat.le_of_ble_eq_true rfl)⟩ rfl rfl dX6_way_104 ?_
              refine a_ifb_eq (pc := 107) (tgt := 125) C (by decide) dX6_way_107 (fun c3 => ?_) (fun c3 => ?_)
              · refine a_iinc (pc := 125) (v := nI (j + 1)) (L' := [(0, .ref (b 0)), (1, .int (nI x)), (2, .int (nI y)), (3, .int (nI z)), (4, .ref q1), (5, .int (nI (rwS li (frT li un (bo y)) (bo x) k))), (6, .int (nI k)), (7, .int (nI (j + 1)))]) C 7 rfl (nI_inc _) (by decide) rfl dX6_way_125 ?_
                refine a_goto (pc := 128) (tgt := 95) C (by decide) dX6_way_128 ?_
                exact ih (j + 1) (by omega)
              · refine a_aload (pc := 110) C 4 rfl dX6_way_110 ?_
                refine a_iload (pc := 112) C 7 rfl dX6_way_112 ?_
                refine a_iald (pc := 114) C 17 rfl (by omega) (by decide) dX6_way_114 ?_
                refine a_aload (pc := 115) C 4 rfl dX6_way_115 ?_
                refine a_iload (pc := 117) C 5 rfl dX6_way_117 ?_
                refine a_iald (pc := 119) C 17 rfl (hrw _) (by decide) dX6_way_119 ?_
                refine a_iconst (pc := 120) (v := nI 1) C ci_1 dX6_way_120 ?_
                refine a_isub (pc := 121) (v := ((frT li un (bo y)) (rwS li (frT li un (bo y)) (bo x) k)) - (nI 1)) C rfl dX6_way_121 ?_
                refine a_ic_eq_n (pc := 122) C (rw_ne (hvn j hlt_j) c3) dX6_way_122 ⟨131, by decide⟩ ?_
                refine a_iinc (pc := 125) (v := nI (j + 1)) (L' := [(0, .ref (b 0)), (1, .int (nI x)), (2, .int (nI y)), (3, .int (nI z)), (4, .ref q1), (5, .int (nI (rwS li (frT li un (bo y)) (bo x) k))), (6, .int (nI k)), (7, .int (nI (j + 1)))]) C 7 rfl (nI_inc _) (by decide) rfl dX6_way_125 ?_
                refine a_goto (pc := 128) (tgt := 95) C (by decide) dX6_way_128 ?_
                exact ih (j + 1) (by omega)
          exact LP95 (v) (0) (by omega)
      refine aw_L (L' := [(0, .ref (b 0)), (1, .int (nI x)), (2, .int (nI y)), (3, .int (nI z)), (4, .ref q1), (5, .int (nI (rwS li (frT li un (bo y)) (bo x) 0))), (6, .int (nI 0))]) (congrArg (fun zz9 => ([(0, .ref (b 0)), (1, .int (nI x)), (2, .int (nI y)), (3, .int (nI z)), (4, .ref q1), (5, .int zz9), (6, .int (nI 0))] : List (Nat × Value))) (rfl : (nI (bo x)) = (nI (rwS li (frT li un (bo y)) (bo x) 0)))) ?_
      exact LP86 (z) (0) (by omega)
    · refine a_iconst (pc := 81) (v := (-1 : Int32)) C ci_m1 dX6_way_81 ?_
      refine aw_sub (wM_drop _) ?_
      exact a_iret (pc := 82) C E (Nat.le_of_ble_eq_true rfl) (Nat.le_of_ble_eq_true rfl) ⟨by rw [rwR, if_pos (Or.inr (Int32.not_le.mp c2))], rfl⟩ dX6_way_82

set_option maxHeartbeats 4000000 in
set_option maxRecDepth 100000 in
theorem c_X6_addFind_b1 (κ : aK) (b : Nat → Nat) {th : Int32} {un : Nat} {ss : Nat → Int32} {fi : Nat → Int32} {la : Nat → Int32} {da : Nat → Bool} {dg : Nat → Bool} {ps : Nat → Int32} {rn : Nat} {ks : Nat → Int32} {os : Nat → Nat} {ts : Nat → Nat} {fn : Nat} {fp : Nat → Int32} {bo : Nat → Nat} {eE : Nat → Nat → Bool} {lE : Nat → Nat → Bool} {li : Nat → Nat → Bool} {be : Nat → Int32} {ab : Nat → Int32} {X : va_W} {x : Int32} {s0 : Int32} {a1 : Int32} {b1 : Int32} (hun : un ≤ 40) (hb : ¬ okU un x) : CM yX6_addFind cX6_addFind 6 (some .int) ({ frames := 2, cells := 0, slots := 0, locals := 60 } : Room) κ [.ref (b 0), .int x, .int s0, .int a1, .int b1] (wM κ b th un ss fi la da dg ps rn ks os ts fn fp bo eE lE li be ab X) (aD (some (.int (nI 0))) (wM κ b (nI 1) un ss fi la da dg ps rn ks os ts fn fp bo eE lE li be ab X)) := by
  refine cm_entry (own := RX6) (L := [(0, .ref (b 0)), (1, .int x), (2, .int s0), (3, .int a1), (4, .int b1)]) (by decide +kernel) rfl (lv_entry [.ref (b 0), .int x, .int s0, .int a1, .int b1] (n := 6) (Nat.le_of_ble_eq_true rfl)) (fun g C E => ?_)
  refine a_aloadn (pc := 0) C 0 rfl rfl dX6_addFind_0 ?_
  refine a_iconst (pc := 1) (v := nI 0) C ci_0 dX6_addFind_1 ?_
  refine a_put (pc := 2) (ws' := wM κ b (nI 0) un ss fi la da dg ps rn ks os ts fn fp bo eE lE li be ab X) C fl_X6_60 fp_X6_0 0 rfl rfl rfl (Nat.le_of_ble_eq_true rfl) rfl dX6_addFind_2 ?_
  refine a_aloadn (pc := 5) C 0 rfl rfl dX6_addFind_5 ?_
  refine a_iloadn (pc := 6) C 1 rfl rfl dX6_addFind_6 ?_
  refine a_callV1 (pc := 7) (k' := 0) (n' := 0) C (c_X6_isUnit κ b) yv_X6_isUnit ml_X6_107 wi_X6_isUnit wl_X6_isUnit 0 rfl rfl rfl rfl (Nat.le_of_ble_eq_true rfl) (Nat.le_of_ble_eq_true rfl) (Nat.le_of_ble_eq_true rfl) ⟨(Nat.le_of_ble_eq_true rfl), (Nat.le_of_ble_eq_true rfl)⟩ rfl rfl dX6_addFind_7 ?_
  refine a_ifb_ne_n (pc := 10) C (okU_nf (by omega) hb) dX6_addFind_10 ⟨19, by decide⟩ ?_
  refine a_aloadn (pc := 13) C 0 rfl rfl dX6_addFind_13 ?_
  refine a_iconst (pc := 14) (v := nI 1) C ci_1 dX6_addFind_14 ?_
  refine a_callV1 (pc := 15) (k' := 0) (n' := 0) C (c_X6_no κ b) yv_X6_no ml_X6_100 wi_X6_no wl_X6_no 0 rfl rfl rfl rfl (Nat.le_of_ble_eq_true rfl) (Nat.le_of_ble_eq_true rfl) (Nat.le_of_ble_eq_true rfl) ⟨(Nat.le_of_ble_eq_true rfl), (Nat.le_of_ble_eq_true rfl)⟩ rfl rfl dX6_addFind_15 ?_
  exact a_iret (pc := 18) C E (Nat.le_of_ble_eq_true rfl) (Nat.le_of_ble_eq_true rfl) ⟨rfl, rfl⟩ dX6_addFind_18

set_option maxHeartbeats 4000000 in
set_option maxRecDepth 100000 in
theorem c_X6_addFind_b2 (κ : aK) (b : Nat → Nat) {th : Int32} {un : Nat} {ss : Nat → Int32} {fi : Nat → Int32} {la : Nat → Int32} {da : Nat → Bool} {dg : Nat → Bool} {ps : Nat → Int32} {rn : Nat} {ks : Nat → Int32} {os : Nat → Nat} {ts : Nat → Nat} {fn : Nat} {fp : Nat → Int32} {bo : Nat → Nat} {eE : Nat → Nat → Bool} {lE : Nat → Nat → Bool} {li : Nat → Nat → Bool} {be : Nat → Int32} {ab : Nat → Int32} {X : va_W} {u : Nat} {s0 : Int32} {a1 : Int32} {b1 : Int32} (hun : un ≤ 40) (hu : u < un) (hb : ¬ (okU 10 s0 ∧ yrB a1 = true ∧ yrB b1 = true ∧ a1 ≤ b1)) : CM yX6_addFind cX6_addFind 6 (some .int) ({ frames := 2, cells := 0, slots := 0, locals := 60 } : Room) κ [.ref (b 0), .int (nI u), .int s0, .int a1, .int b1] (wM κ b th un ss fi la da dg ps rn ks os ts fn fp bo eE lE li be ab X) (aD (some (.int (nI 0))) (wM κ b (nI 2) un ss fi la da dg ps rn ks os ts fn fp bo eE lE li be ab X)) := by
  refine cm_entry (own := RX6) (L := [(0, .ref (b 0)), (1, .int (nI u)), (2, .int s0), (3, .int a1), (4, .int b1)]) (by decide +kernel) rfl (lv_entry [.ref (b 0), .int (nI u), .int s0, .int a1, .int b1] (n := 6) (Nat.le_of_ble_eq_true rfl)) (fun g C E => ?_)
  refine a_aloadn (pc := 0) C 0 rfl rfl dX6_addFind_0 ?_
  refine a_iconst (pc := 1) (v := nI 0) C ci_0 dX6_addFind_1 ?_
  refine a_put (pc := 2) (ws' := wM κ b (nI 0) un ss fi la da dg ps rn ks os ts fn fp bo eE lE li be ab X) C fl_X6_60 fp_X6_0 0 rfl rfl rfl (Nat.le_of_ble_eq_true rfl) rfl dX6_addFind_2 ?_
  refine a_aloadn (pc := 5) C 0 rfl rfl dX6_addFind_5 ?_
  refine a_iloadn (pc := 6) C 1 rfl rfl dX6_addFind_6 ?_
  refine a_callV1 (pc := 7) (k' := 0) (n' := 0) C (c_X6_isUnit κ b) yv_X6_isUnit ml_X6_107 wi_X6_isUnit wl_X6_isUnit 0 rfl rfl rfl rfl (Nat.le_of_ble_eq_true rfl) (Nat.le_of_ble_eq_true rfl) (Nat.le_of_ble_eq_true rfl) ⟨(Nat.le_of_ble_eq_true rfl), (Nat.le_of_ble_eq_true rfl)⟩ rfl rfl dX6_addFind_7 ?_
  refine a_ifb_ne_y (pc := 10) (tgt := 19) C ((okU_n (by omega)).mpr (okU_j hu)) (by decide) dX6_addFind_10 ?_
  refine a_iloadn (pc := 19) C 2 rfl rfl dX6_addFind_19 ?_
  refine a_iconst (pc := 20) (v := nI 0) C ci_0 dX6_addFind_20 ?_
  refine a_bipush (pc := 21) (v := nI 9) C cb_9 dX6_addFind_21 ?_
  refine a_callS1 (pc := 23) (k' := 0) (n' := 0) C (c_X6_isIn κ) yv_X6_isIn ml_X6_67 ws_X6_isIn rfl rfl (Nat.le_of_ble_eq_true rfl) (Nat.le_of_ble_eq_true rfl) (Nat.le_of_ble_eq_true rfl) ⟨(Nat.le_of_ble_eq_true rfl), (Nat.le_of_ble_eq_true rfl)⟩ rfl rfl dX6_addFind_23 ?_
  refine a_ifb_eq (pc := 26) (tgt := 62) C (by decide) dX6_addFind_26 (fun c1 => ?_) (fun c1 => ?_)
  · refine a_aloadn (pc := 62) C 0 rfl rfl dX6_addFind_62 ?_
    refine a_iconst (pc := 63) (v := nI 2) C ci_2 dX6_addFind_63 ?_
    refine a_callV1 (pc := 64) (k' := 0) (n' := 0) C (c_X6_no κ b) yv_X6_no ml_X6_100 wi_X6_no wl_X6_no 0 rfl rfl rfl rfl (Nat.le_of_ble_eq_true rfl) (Nat.le_of_ble_eq_true rfl) (Nat.le_of_ble_eq_true rfl) ⟨(Nat.le_of_ble_eq_true rfl), (Nat.le_of_ble_eq_true rfl)⟩ rfl rfl dX6_addFind_64 ?_
    exact a_iret (pc := 67) C E (Nat.le_of_ble_eq_true rfl) (Nat.le_of_ble_eq_true rfl) ⟨rfl, rfl⟩ dX6_addFind_67
  · refine a_iloadn (pc := 29) C 3 rfl rfl dX6_addFind_29 ?_
    refine a_sipush (pc := 30) (v := (-5000 : Int32)) C cs_m5000 dX6_addFind_30 ?_
    refine a_sipush (pc := 33) (v := nI 2000) C cs_2000 dX6_addFind_33 ?_
    refine a_callS1 (pc := 36) (k' := 0) (n' := 0) C (c_X6_isIn κ) yv_X6_isIn ml_X6_67 ws_X6_isIn rfl rfl (Nat.le_of_ble_eq_true rfl) (Nat.le_of_ble_eq_true rfl) (Nat.le_of_ble_eq_true rfl) ⟨(Nat.le_of_ble_eq_true rfl), (Nat.le_of_ble_eq_true rfl)⟩ rfl rfl dX6_addFind_36 ?_
    refine a_ifb_eq (pc := 39) (tgt := 62) C (by decide) dX6_addFind_39 (fun c2 => ?_) (fun c2 => ?_)
    · refine a_aloadn (pc := 62) C 0 rfl rfl dX6_addFind_62 ?_
      refine a_iconst (pc := 63) (v := nI 2) C ci_2 dX6_addFind_63 ?_
      refine a_callV1 (pc := 64) (k' := 0) (n' := 0) C (c_X6_no κ b) yv_X6_no ml_X6_100 wi_X6_no wl_X6_no 0 rfl rfl rfl rfl (Nat.le_of_ble_eq_true rfl) (Nat.le_of_ble_eq_true rfl) (Nat.le_of_ble_eq_true rfl) ⟨(Nat.le_of_ble_eq_true rfl), (Nat.le_of_ble_eq_true rfl)⟩ rfl rfl dX6_addFind_64 ?_
      exact a_iret (pc := 67) C E (Nat.le_of_ble_eq_true rfl) (Nat.le_of_ble_eq_true rfl) ⟨rfl, rfl⟩ dX6_addFind_67
    · refine a_iload (pc := 42) C 4 rfl dX6_addFind_42 ?_
      refine a_sipush (pc := 44) (v := (-5000 : Int32)) C cs_m5000 dX6_addFind_44 ?_
      refine a_sipush (pc := 47) (v := nI 2000) C cs_2000 dX6_addFind_47 ?_
      refine a_callS1 (pc := 50) (k' := 0) (n' := 0) C (c_X6_isIn κ) yv_X6_isIn ml_X6_67 ws_X6_isIn rfl rfl (Nat.le_of_ble_eq_true rfl) (Nat.le_of_ble_eq_true rfl) (Nat.le_of_ble_eq_true rfl) ⟨(Nat.le_of_ble_eq_true rfl), (Nat.le_of_ble_eq_true rfl)⟩ rfl rfl dX6_addFind_50 ?_
      refine a_ifb_eq (pc := 53) (tgt := 62) C (by decide) dX6_addFind_53 (fun c3 => ?_) (fun c3 => ?_)
      · refine a_aloadn (pc := 62) C 0 rfl rfl dX6_addFind_62 ?_
        refine a_iconst (pc := 63) (v := nI 2) C ci_2 dX6_addFind_63 ?_
        refine a_callV1 (pc := 64) (k' := 0) (n' := 0) C (c_X6_no κ b) yv_X6_no ml_X6_100 wi_X6_no wl_X6_no 0 rfl rfl rfl rfl (Nat.le_of_ble_eq_true rfl) (Nat.le_of_ble_eq_true rfl) (Nat.le_of_ble_eq_true rfl) ⟨(Nat.le_of_ble_eq_true rfl), (Nat.le_of_ble_eq_true rfl)⟩ rfl rfl dX6_addFind_64 ?_
        exact a_iret (pc := 67) C E (Nat.le_of_ble_eq_true rfl) (Nat.le_of_ble_eq_true rfl) ⟨rfl, rfl⟩ dX6_addFind_67
      · refine a_iloadn (pc := 56) C 3 rfl rfl dX6_addFind_56 ?_
        refine a_iload (pc := 57) C 4 rfl dX6_addFind_57 ?_
        refine a_ic_le_n (pc := 59) C (fun h => hb ⟨(okU_c (by omega)).mp c1, c2, c3, h⟩) dX6_addFind_59 ⟨68, by decide⟩ ?_
        refine a_aloadn (pc := 62) C 0 rfl rfl dX6_addFind_62 ?_
        refine a_iconst (pc := 63) (v := nI 2) C ci_2 dX6_addFind_63 ?_
        refine a_callV1 (pc := 64) (k' := 0) (n' := 0) C (c_X6_no κ b) yv_X6_no ml_X6_100 wi_X6_no wl_X6_no 0 rfl rfl rfl rfl (Nat.le_of_ble_eq_true rfl) (Nat.le_of_ble_eq_true rfl) (Nat.le_of_ble_eq_true rfl) ⟨(Nat.le_of_ble_eq_true rfl), (Nat.le_of_ble_eq_true rfl)⟩ rfl rfl dX6_addFind_64 ?_
        exact a_iret (pc := 67) C E (Nat.le_of_ble_eq_true rfl) (Nat.le_of_ble_eq_true rfl) ⟨rfl, rfl⟩ dX6_addFind_67

set_option maxHeartbeats 4000000 in
set_option maxRecDepth 100000 in
theorem c_X6_addFind_b3 (κ : aK) (b : Nat → Nat) {th : Int32} {un : Nat} {ss : Nat → Int32} {fi : Nat → Int32} {la : Nat → Int32} {da : Nat → Bool} {dg : Nat → Bool} {ps : Nat → Int32} {rn : Nat} {ks : Nat → Int32} {os : Nat → Nat} {ts : Nat → Nat} {fn : Nat} {fp : Nat → Int32} {bo : Nat → Nat} {eE : Nat → Nat → Bool} {lE : Nat → Nat → Bool} {li : Nat → Nat → Bool} {be : Nat → Int32} {ab : Nat → Int32} {X : va_W} {u : Nat} {s0 : Int32} {a1 : Int32} {b1 : Int32} (hun : un ≤ 40) (hu : u < un) (hs : okU 10 s0) (h1 : yrB a1 = true) (h2 : yrB b1 = true) (h3 : a1 ≤ b1) (hf : fn = 60) : CM yX6_addFind cX6_addFind 6 (some .int) ({ frames := 2, cells := 0, slots := 0, locals := 60 } : Room) κ [.ref (b 0), .int (nI u), .int s0, .int a1, .int b1] (wM κ b th un ss fi la da dg ps rn ks os ts fn fp bo eE lE li be ab X) (aD (some (.int (nI 0))) (wM κ b (nI 3) un ss fi la da dg ps rn ks os ts fn fp bo eE lE li be ab X)) := by
  refine cm_entry (own := RX6) (L := [(0, .ref (b 0)), (1, .int (nI u)), (2, .int s0), (3, .int a1), (4, .int b1)]) (by decide +kernel) rfl (lv_entry [.ref (b 0), .int (nI u), .int s0, .int a1, .int b1] (n := 6) (Nat.le_of_ble_eq_true rfl)) (fun g C E => ?_)
  refine a_aloadn (pc := 0) C 0 rfl rfl dX6_addFind_0 ?_
  refine a_iconst (pc := 1) (v := nI 0) C ci_0 dX6_addFind_1 ?_
  refine a_put (pc := 2) (ws' := wM κ b (nI 0) un ss fi la da dg ps rn ks os ts fn fp bo eE lE li be ab X) C fl_X6_60 fp_X6_0 0 rfl rfl rfl (Nat.le_of_ble_eq_true rfl) rfl dX6_addFind_2 ?_
  refine a_aloadn (pc := 5) C 0 rfl rfl dX6_addFind_5 ?_
  refine a_iloadn (pc := 6) C 1 rfl rfl dX6_addFind_6 ?_
  refine a_callV1 (pc := 7) (k' := 0) (n' := 0) C (c_X6_isUnit κ b) yv_X6_isUnit ml_X6_107 wi_X6_isUnit wl_X6_isUnit 0 rfl rfl rfl rfl (Nat.le_of_ble_eq_true rfl) (Nat.le_of_ble_eq_true rfl) (Nat.le_of_ble_eq_true rfl) ⟨(Nat.le_of_ble_eq_true rfl), (Nat.le_of_ble_eq_true rfl)⟩ rfl rfl dX6_addFind_7 ?_
  refine a_ifb_ne_y (pc := 10) (tgt := 19) C ((okU_n (by omega)).mpr (okU_j hu)) (by decide) dX6_addFind_10 ?_
  refine a_iloadn (pc := 19) C 2 rfl rfl dX6_addFind_19 ?_
  refine a_iconst (pc := 20) (v := nI 0) C ci_0 dX6_addFind_20 ?_
  refine a_bipush (pc := 21) (v := nI 9) C cb_9 dX6_addFind_21 ?_
  refine a_callS1 (pc := 23) (k' := 0) (n' := 0) C (c_X6_isIn κ) yv_X6_isIn ml_X6_67 ws_X6_isIn rfl rfl (Nat.le_of_ble_eq_true rfl) (Nat.le_of_ble_eq_true rfl) (Nat.le_of_ble_eq_true rfl) ⟨(Nat.le_of_ble_eq_true rfl), (Nat.le_of_ble_eq_true rfl)⟩ rfl rfl dX6_addFind_23 ?_
  refine a_ifb_eq_n (pc := 26) C ((okU_c (by omega)).mpr hs) dX6_addFind_26 ⟨62, by decide⟩ ?_
  refine a_iloadn (pc := 29) C 3 rfl rfl dX6_addFind_29 ?_
  refine a_sipush (pc := 30) (v := (-5000 : Int32)) C cs_m5000 dX6_addFind_30 ?_
  refine a_sipush (pc := 33) (v := nI 2000) C cs_2000 dX6_addFind_33 ?_
  refine a_callS1 (pc := 36) (k' := 0) (n' := 0) C (c_X6_isIn κ) yv_X6_isIn ml_X6_67 ws_X6_isIn rfl rfl (Nat.le_of_ble_eq_true rfl) (Nat.le_of_ble_eq_true rfl) (Nat.le_of_ble_eq_true rfl) ⟨(Nat.le_of_ble_eq_true rfl), (Nat.le_of_ble_eq_true rfl)⟩ rfl rfl dX6_addFind_36 ?_
  refine a_ifb_eq_n (pc := 39) C h1 dX6_addFind_39 ⟨62, by decide⟩ ?_
  refine a_iload (pc := 42) C 4 rfl dX6_addFind_42 ?_
  refine a_sipush (pc := 44) (v := (-5000 : Int32)) C cs_m5000 dX6_addFind_44 ?_
  refine a_sipush (pc := 47) (v := nI 2000) C cs_2000 dX6_addFind_47 ?_
  refine a_callS1 (pc := 50) (k' := 0) (n' := 0) C (c_X6_isIn κ) yv_X6_isIn ml_X6_67 ws_X6_isIn rfl rfl (Nat.le_of_ble_eq_true rfl) (Nat.le_of_ble_eq_true rfl) (Nat.le_of_ble_eq_true rfl) ⟨(Nat.le_of_ble_eq_true rfl), (Nat.le_of_ble_eq_true rfl)⟩ rfl rfl dX6_addFind_50 ?_
  refine a_ifb_eq_n (pc := 53) C h2 dX6_addFind_53 ⟨62, by decide⟩ ?_
  refine a_iloadn (pc := 56) C 3 rfl rfl dX6_addFind_56 ?_
  refine a_iload (pc := 57) C 4 rfl dX6_addFind_57 ?_
  refine a_ic_le_y (pc := 59) (tgt := 68) C h3 (by decide) dX6_addFind_59 ?_
  refine a_aloadn (pc := 68) C 0 rfl rfl dX6_addFind_68 ?_
  refine a_get (pc := 69) C fl_X6_120 0 rfl rfl dX6_addFind_69 ?_
  refine a_bipush (pc := 72) (v := nI 60) C cb_60 dX6_addFind_72 ?_
  refine a_icn_ne_n (pc := 74) C (by omega) (by omega) (by omega) dX6_addFind_74 ⟨83, by decide⟩ ?_
  refine a_aloadn (pc := 77) C 0 rfl rfl dX6_addFind_77 ?_
  refine a_iconst (pc := 78) (v := nI 3) C ci_3 dX6_addFind_78 ?_
  refine a_callV1 (pc := 79) (k' := 0) (n' := 0) C (c_X6_no κ b) yv_X6_no ml_X6_100 wi_X6_no wl_X6_no 0 rfl rfl rfl rfl (Nat.le_of_ble_eq_true rfl) (Nat.le_of_ble_eq_true rfl) (Nat.le_of_ble_eq_true rfl) ⟨(Nat.le_of_ble_eq_true rfl), (Nat.le_of_ble_eq_true rfl)⟩ rfl rfl dX6_addFind_79 ?_
  exact a_iret (pc := 82) C E (Nat.le_of_ble_eq_true rfl) (Nat.le_of_ble_eq_true rfl) ⟨rfl, rfl⟩ dX6_addFind_82

set_option maxHeartbeats 4000000 in
set_option maxRecDepth 100000 in
theorem c_X6_addFind (κ : aK) (b : Nat → Nat) {th : Int32} {un : Nat} {ss : Nat → Int32} {fi : Nat → Int32} {la : Nat → Int32} {da : Nat → Bool} {dg : Nat → Bool} {ps : Nat → Int32} {rn : Nat} {ks : Nat → Int32} {os : Nat → Nat} {ts : Nat → Nat} {fn : Nat} {fp : Nat → Int32} {bo : Nat → Nat} {eE : Nat → Nat → Bool} {lE : Nat → Nat → Bool} {li : Nat → Nat → Bool} {be : Nat → Int32} {ab : Nat → Int32} {X : va_W} {u : Nat} {s0 : Int32} {a1 : Int32} {b1 : Int32} (hun : un ≤ 40) (hu : u < un) (hs : okU 10 s0) (h1 : yrB a1 = true) (h2 : yrB b1 = true) (h3 : a1 ≤ b1) (hf : fn < 60) : CM yX6_addFind cX6_addFind 6 (some .int) ({ frames := 2, cells := 1, slots := 7, locals := 60 } : Room) κ [.ref (b 0), .int (nI u), .int s0, .int a1, .int b1] (wM κ b th un ss fi la da dg ps rn ks os ts fn fp bo eE lE li be ab X) (aD (some (.int (nI fn))) (wM κ b (nI 0) un ss fi la da dg ps rn ks os ts (fn + 1) (afF fp fn u s0 a1 b1) bo eE lE li be ab X)) := by
  refine cm_entry (own := RX6) (L := [(0, .ref (b 0)), (1, .int (nI u)), (2, .int s0), (3, .int a1), (4, .int b1)]) (by decide +kernel) rfl (lv_entry [.ref (b 0), .int (nI u), .int s0, .int a1, .int b1] (n := 6) (Nat.le_of_ble_eq_true rfl)) (fun g C E => ?_)
  refine a_aloadn (pc := 0) C 0 rfl rfl dX6_addFind_0 ?_
  refine a_iconst (pc := 1) (v := nI 0) C ci_0 dX6_addFind_1 ?_
  refine a_put (pc := 2) (ws' := wM κ b (nI 0) un ss fi la da dg ps rn ks os ts fn fp bo eE lE li be ab X) C fl_X6_60 fp_X6_0 0 rfl rfl rfl (Nat.le_of_ble_eq_true rfl) rfl dX6_addFind_2 ?_
  refine a_aloadn (pc := 5) C 0 rfl rfl dX6_addFind_5 ?_
  refine a_iloadn (pc := 6) C 1 rfl rfl dX6_addFind_6 ?_
  refine a_callV1 (pc := 7) (k' := 0) (n' := 0) C (c_X6_isUnit κ b) yv_X6_isUnit ml_X6_107 wi_X6_isUnit wl_X6_isUnit 0 rfl rfl rfl rfl (Nat.le_of_ble_eq_true rfl) (Nat.le_of_ble_eq_true rfl) (Nat.le_of_ble_eq_true rfl) ⟨(Nat.le_of_ble_eq_true rfl), (Nat.le_of_ble_eq_true rfl)⟩ rfl rfl dX6_addFind_7 ?_
  refine a_ifb_ne_y (pc := 10) (tgt := 19) C ((okU_n (by omega)).mpr (okU_j hu)) (by decide) dX6_addFind_10 ?_
  refine a_iloadn (pc := 19) C 2 rfl rfl dX6_addFind_19 ?_
  refine a_iconst (pc := 20) (v := nI 0) C ci_0 dX6_addFind_20 ?_
  refine a_bipush (pc := 21) (v := nI 9) C cb_9 dX6_addFind_21 ?_
  refine a_callS1 (pc := 23) (k' := 0) (n' := 0) C (c_X6_isIn κ) yv_X6_isIn ml_X6_67 ws_X6_isIn rfl rfl (Nat.le_of_ble_eq_true rfl) (Nat.le_of_ble_eq_true rfl) (Nat.le_of_ble_eq_true rfl) ⟨(Nat.le_of_ble_eq_true rfl), (Nat.le_of_ble_eq_true rfl)⟩ rfl rfl dX6_addFind_23 ?_
  refine a_ifb_eq_n (pc := 26) C ((okU_c (by omega)).mpr hs) dX6_addFind_26 ⟨62, by decide⟩ ?_
  refine a_iloadn (pc := 29) C 3 rfl rfl dX6_addFind_29 ?_
  refine a_sipush (pc := 30) (v := (-5000 : Int32)) C cs_m5000 dX6_addFind_30 ?_
  refine a_sipush (pc := 33) (v := nI 2000) C cs_2000 dX6_addFind_33 ?_
  refine a_callS1 (pc := 36) (k' := 0) (n' := 0) C (c_X6_isIn κ) yv_X6_isIn ml_X6_67 ws_X6_isIn rfl rfl (Nat.le_of_ble_eq_true rfl) (Nat.le_of_ble_eq_true rfl) (Nat.le_of_ble_eq_true rfl) ⟨(Nat.le_of_ble_eq_true rfl), (Nat.le_of_ble_eq_true rfl)⟩ rfl rfl dX6_addFind_36 ?_
  refine a_ifb_eq_n (pc := 39) C h1 dX6_addFind_39 ⟨62, by decide⟩ ?_
  refine a_iload (pc := 42) C 4 rfl dX6_addFind_42 ?_
  refine a_sipush (pc := 44) (v := (-5000 : Int32)) C cs_m5000 dX6_addFind_44 ?_
  refine a_sipush (pc := 47) (v := nI 2000) C cs_2000 dX6_addFind_47 ?_
  refine a_callS1 (pc := 50) (k' := 0) (n' := 0) C (c_X6_isIn κ) yv_X6_isIn ml_X6_67 ws_X6_isIn rfl rfl (Nat.le_of_ble_eq_true rfl) (Nat.le_of_ble_eq_true rfl) (Nat.le_of_ble_eq_true rfl) ⟨(Nat.le_of_ble_eq_true rfl), (Nat.le_of_ble_eq_true rfl)⟩ rfl rfl dX6_addFind_50 ?_
  refine a_ifb_eq_n (pc := 53) C h2 dX6_addFind_53 ⟨62, by decide⟩ ?_
  refine a_iloadn (pc := 56) C 3 rfl rfl dX6_addFind_56 ?_
  refine a_iload (pc := 57) C 4 rfl dX6_addFind_57 ?_
  refine a_ic_le_y (pc := 59) (tgt := 68) C h3 (by decide) dX6_addFind_59 ?_
  refine a_aloadn (pc := 68) C 0 rfl rfl dX6_addFind_68 ?_
  refine a_get (pc := 69) C fl_X6_120 0 rfl rfl dX6_addFind_69 ?_
  refine a_bipush (pc := 72) (v := nI 60) C cb_60 dX6_addFind_72 ?_
  refine a_icn_ne_y (pc := 74) (tgt := 83) C (by omega) (by omega) (by omega) (by decide) dX6_addFind_74 ?_
  refine a_bipush (pc := 83) (v := nI 7) C cb_7 dX6_addFind_83 ?_
  refine a_newI (pc := 85) (ws' := fun q1 => wM κ b (nI 0) un ss fi la da dg ps rn ks os ts fn fp bo eE lE li be ab ((q1, .inl (kI κ, 7, .inl (fun _ => nI 0))) :: X)) C (by decide) (fun q1 => wM_new _) (Nat.le_of_ble_eq_true rfl) (Nat.le_of_ble_eq_true rfl) dX6_addFind_85 (fun q1 => ?_)
  refine a_dup (pc := 87) C rfl dX6_addFind_87 ?_
  refine a_iconst (pc := 88) (v := nI 0) C ci_0 dX6_addFind_88 ?_
  refine a_iloadn (pc := 89) C 1 rfl rfl dX6_addFind_89 ?_
  refine a_iast (pc := 90) (ws' := wM κ b (nI 0) un ss fi la da dg ps rn ks os ts fn fp bo eE lE li be ab ((q1, .inl (kI κ, 7, .inl (va_up (fun _ => nI 0) 0 (nI u)))) :: X)) C 17 rfl (by omega) (by decide) rfl rfl dX6_addFind_90 ?_
  refine a_dup (pc := 91) C rfl dX6_addFind_91 ?_
  refine a_iconst (pc := 92) (v := nI 1) C ci_1 dX6_addFind_92 ?_
  refine a_iloadn (pc := 93) C 2 rfl rfl dX6_addFind_93 ?_
  refine a_iast (pc := 94) (ws' := wM κ b (nI 0) un ss fi la da dg ps rn ks os ts fn fp bo eE lE li be ab ((q1, .inl (kI κ, 7, .inl (va_up (va_up (fun _ => nI 0) 0 (nI u)) 1 s0))) :: X)) C 17 rfl (by omega) (by decide) rfl rfl dX6_addFind_94 ?_
  refine a_dup (pc := 95) C rfl dX6_addFind_95 ?_
  refine a_iconst (pc := 96) (v := nI 2) C ci_2 dX6_addFind_96 ?_
  refine a_iloadn (pc := 97) C 3 rfl rfl dX6_addFind_97 ?_
  refine a_iast (pc := 98) (ws' := wM κ b (nI 0) un ss fi la da dg ps rn ks os ts fn fp bo eE lE li be ab ((q1, .inl (kI κ, 7, .inl (va_up (va_up (va_up (fun _ => nI 0) 0 (nI u)) 1 s0) 2 a1))) :: X)) C 17 rfl (by omega) (by decide) rfl rfl dX6_addFind_98 ?_
  refine a_dup (pc := 99) C rfl dX6_addFind_99 ?_
  refine a_iconst (pc := 100) (v := nI 3) C ci_3 dX6_addFind_100 ?_
  refine a_iload (pc := 101) C 4 rfl dX6_addFind_101 ?_
  refine a_iast (pc := 103) (ws' := wM κ b (nI 0) un ss fi la da dg ps rn ks os ts fn fp bo eE lE li be ab ((q1, .inl (kI κ, 7, .inl (va_up (va_up (va_up (va_up (fun _ => nI 0) 0 (nI u)) 1 s0) 2 a1) 3 b1))) :: X)) C 17 rfl (by omega) (by decide) rfl rfl dX6_addFind_103 ?_
  refine a_dup (pc := 104) C rfl dX6_addFind_104 ?_
  refine a_iconst (pc := 105) (v := nI 4) C ci_4 dX6_addFind_105 ?_
  refine a_iconst (pc := 106) (v := nI 0) C ci_0 dX6_addFind_106 ?_
  refine a_iast (pc := 107) (ws' := wM κ b (nI 0) un ss fi la da dg ps rn ks os ts fn fp bo eE lE li be ab ((q1, .inl (kI κ, 7, .inl (va_up (va_up (va_up (va_up (va_up (fun _ => nI 0) 0 (nI u)) 1 s0) 2 a1) 3 b1) 4 (nI 0)))) :: X)) C 17 rfl (by omega) (by decide) rfl rfl dX6_addFind_107 ?_
  refine a_dup (pc := 108) C rfl dX6_addFind_108 ?_
  refine a_iconst (pc := 109) (v := nI 5) C ci_5 dX6_addFind_109 ?_
  refine a_iconst (pc := 110) (v := nI 0) C ci_0 dX6_addFind_110 ?_
  refine a_iast (pc := 111) (ws' := wM κ b (nI 0) un ss fi la da dg ps rn ks os ts fn fp bo eE lE li be ab ((q1, .inl (kI κ, 7, .inl (va_up (va_up (va_up (va_up (va_up (va_up (fun _ => nI 0) 0 (nI u)) 1 s0) 2 a1) 3 b1) 4 (nI 0)) 5 (nI 0)))) :: X)) C 17 rfl (by omega) (by decide) rfl rfl dX6_addFind_111 ?_
  refine a_dup (pc := 112) C rfl dX6_addFind_112 ?_
  refine a_bipush (pc := 113) (v := nI 6) C cb_6 dX6_addFind_113 ?_
  refine a_iconst (pc := 115) (v := nI 0) C ci_0 dX6_addFind_115 ?_
  refine a_iast (pc := 116) (ws' := wM κ b (nI 0) un ss fi la da dg ps rn ks os ts fn fp bo eE lE li be ab ((q1, .inl (kI κ, 7, .inl (va_up (va_up (va_up (va_up (va_up (va_up (va_up (fun _ => nI 0) 0 (nI u)) 1 s0) 2 a1) 3 b1) 4 (nI 0)) 5 (nI 0)) 6 (nI 0)))) :: X)) C 17 rfl (by omega) (by decide) rfl rfl dX6_addFind_116 ?_
  refine a_astore (pc := 117) (L' := [(0, .ref (b 0)), (1, .int (nI u)), (2, .int s0), (3, .int a1), (4, .int b1), (5, .ref q1)]) C (by decide) rfl dX6_addFind_117 ?_
  refine a_aload (pc := 119) C 5 rfl dX6_addFind_119 ?_
  refine a_iconst (pc := 121) (v := nI 0) C ci_0 dX6_addFind_121 ?_
  refine a_aloadn (pc := 122) C 0 rfl rfl dX6_addFind_122 ?_
  refine a_get (pc := 123) C fl_X6_38 0 rfl rfl dX6_addFind_123 ?_
  refine a_bipush (pc := 126) (v := nI 7) C cb_7 dX6_addFind_126 ?_
  refine a_aloadn (pc := 128) C 0 rfl rfl dX6_addFind_128 ?_
  refine a_get (pc := 129) C fl_X6_120 0 rfl rfl dX6_addFind_129 ?_
  refine a_imul (pc := 132) (v := nI (7 * fn)) C (pk_mul _ _) dX6_addFind_132 ?_
  refine a_bipush (pc := 133) (v := nI 7) C cb_7 dX6_addFind_133 ?_
  refine a_copy (pc := 135) (ws' := wM κ b (nI 0) un ss fi la da dg ps rn ks os ts fn (va_cpy (va_up (va_up (va_up (va_up (va_up (va_up (va_up (fun _ => nI 0) 0 (nI u)) 1 s0) 2 a1) 3 b1) 4 (nI 0)) 5 (nI 0)) 6 (nI 0)) fp 0 (7 * fn) 7) bo eE lE li be ab ((q1, .inl (kI κ, 7, .inl (va_up (va_up (va_up (va_up (va_up (va_up (va_up (fun _ => nI 0) 0 (nI u)) 1 s0) 2 a1) 3 b1) 4 (nI 0)) 5 (nI 0)) 6 (nI 0)))) :: X)) C 17 10 ml_X6_178 rfl rfl (by omega) (by omega) (by decide) (by decide) rfl (Nat.le_of_ble_eq_true rfl) (Nat.le_of_ble_eq_true rfl) dX6_addFind_135 ?_
  refine a_aloadn (pc := 138) C 0 rfl rfl dX6_addFind_138 ?_
  refine a_dup (pc := 139) C rfl dX6_addFind_139 ?_
  refine a_get (pc := 140) C fl_X6_120 0 rfl rfl dX6_addFind_140 ?_
  refine a_iconst (pc := 143) (v := nI 1) C ci_1 dX6_addFind_143 ?_
  refine a_iadd (pc := 144) (v := nI (fn + 1)) C (nI_add _ _) dX6_addFind_144 ?_
  refine a_put (pc := 145) (ws' := wM κ b (nI 0) un ss fi la da dg ps rn ks os ts (fn + 1) (va_cpy (va_up (va_up (va_up (va_up (va_up (va_up (va_up (fun _ => nI 0) 0 (nI u)) 1 s0) 2 a1) 3 b1) 4 (nI 0)) 5 (nI 0)) 6 (nI 0)) fp 0 (7 * fn) 7) bo eE lE li be ab ((q1, .inl (kI κ, 7, .inl (va_up (va_up (va_up (va_up (va_up (va_up (va_up (fun _ => nI 0) 0 (nI u)) 1 s0) 2 a1) 3 b1) 4 (nI 0)) 5 (nI 0)) 6 (nI 0)))) :: X)) C fl_X6_120 fp_X6_12 0 rfl rfl rfl (Nat.le_of_ble_eq_true rfl) rfl dX6_addFind_145 ?_
  refine a_aloadn (pc := 148) C 0 rfl rfl dX6_addFind_148 ?_
  refine a_get (pc := 149) C fl_X6_120 0 rfl rfl dX6_addFind_149 ?_
  refine a_iconst (pc := 152) (v := nI 1) C ci_1 dX6_addFind_152 ?_
  refine a_isub (pc := 153) (v := nI fn) C (nI_subc _ _) dX6_addFind_153 ?_
  refine aw_eq (congrArg (fun zz9 => wM κ b (nI 0) un ss fi la da dg ps rn ks os ts (fn + 1) zz9 bo eE lE li be ab ((q1, .inl (kI κ, 7, .inl (va_up (va_up (va_up (va_up (va_up (va_up (va_up (fun _ => nI 0) 0 (nI u)) 1 s0) 2 a1) 3 b1) 4 (nI 0)) 5 (nI 0)) 6 (nI 0)))) :: X)) (rfl : (va_cpy (va_up (va_up (va_up (va_up (va_up (va_up (va_up (fun _ => nI 0) 0 (nI u)) 1 s0) 2 a1) 3 b1) 4 (nI 0)) 5 (nI 0)) 6 (nI 0)) fp 0 (7 * fn) 7) = (afF fp fn u s0 a1 b1))) ?_
  refine aw_sub (wM_drop _) ?_
  exact a_iret (pc := 154) C E (Nat.le_of_ble_eq_true rfl) (Nat.le_of_ble_eq_true rfl) ⟨rfl, rfl⟩ dX6_addFind_154

set_option maxHeartbeats 4000000 in
set_option maxRecDepth 100000 in
theorem c_X6_place_b1 (κ : aK) (b : Nat → Nat) {th : Int32} {un : Nat} {ss : Nat → Int32} {fi : Nat → Int32} {la : Nat → Int32} {da : Nat → Bool} {dg : Nat → Bool} {ps : Nat → Int32} {rn : Nat} {ks : Nat → Int32} {os : Nat → Nat} {ts : Nat → Nat} {fn : Nat} {fp : Nat → Int32} {bo : Nat → Nat} {eE : Nat → Nat → Bool} {lE : Nat → Nat → Bool} {li : Nat → Nat → Bool} {be : Nat → Int32} {ab : Nat → Int32} {X : va_W} {j : Int32} {x : Int32} {y : Int32} {z : Int32} (hfn : fn ≤ 60) (hb : ¬ okU fn j) : CM yX6_place cX6_place 6 (some .int) ({ frames := 2, cells := 0, slots := 0, locals := 44 } : Room) κ [.ref (b 0), .int j, .int x, .int y, .int z] (wM κ b th un ss fi la da dg ps rn ks os ts fn fp bo eE lE li be ab X) (aD (some (.int (nI 0))) (wM κ b (nI 1) un ss fi la da dg ps rn ks os ts fn fp bo eE lE li be ab X)) := by
  refine cm_entry (own := RX6) (L := [(0, .ref (b 0)), (1, .int j), (2, .int x), (3, .int y), (4, .int z)]) (by decide +kernel) rfl (lv_entry [.ref (b 0), .int j, .int x, .int y, .int z] (n := 6) (Nat.le_of_ble_eq_true rfl)) (fun g C E => ?_)
  refine a_aloadn (pc := 0) C 0 rfl rfl dX6_place_0 ?_
  refine a_iconst (pc := 1) (v := nI 0) C ci_0 dX6_place_1 ?_
  refine a_put (pc := 2) (ws' := wM κ b (nI 0) un ss fi la da dg ps rn ks os ts fn fp bo eE lE li be ab X) C fl_X6_60 fp_X6_0 0 rfl rfl rfl (Nat.le_of_ble_eq_true rfl) rfl dX6_place_2 ?_
  refine a_aloadn (pc := 5) C 0 rfl rfl dX6_place_5 ?_
  refine a_iloadn (pc := 6) C 1 rfl rfl dX6_place_6 ?_
  refine a_callV1 (pc := 7) (k' := 0) (n' := 0) C (c_X6_isFind κ b) yv_X6_isFind ml_X6_184 wi_X6_isFind wl_X6_isFind 0 rfl rfl rfl rfl (Nat.le_of_ble_eq_true rfl) (Nat.le_of_ble_eq_true rfl) (Nat.le_of_ble_eq_true rfl) ⟨(Nat.le_of_ble_eq_true rfl), (Nat.le_of_ble_eq_true rfl)⟩ rfl rfl dX6_place_7 ?_
  refine a_ifb_ne_n (pc := 10) C (okU_nf (by omega) hb) dX6_place_10 ⟨19, by decide⟩ ?_
  refine a_aloadn (pc := 13) C 0 rfl rfl dX6_place_13 ?_
  refine a_iconst (pc := 14) (v := nI 1) C ci_1 dX6_place_14 ?_
  refine a_callV1 (pc := 15) (k' := 0) (n' := 0) C (c_X6_no κ b) yv_X6_no ml_X6_100 wi_X6_no wl_X6_no 0 rfl rfl rfl rfl (Nat.le_of_ble_eq_true rfl) (Nat.le_of_ble_eq_true rfl) (Nat.le_of_ble_eq_true rfl) ⟨(Nat.le_of_ble_eq_true rfl), (Nat.le_of_ble_eq_true rfl)⟩ rfl rfl dX6_place_15 ?_
  exact a_iret (pc := 18) C E (Nat.le_of_ble_eq_true rfl) (Nat.le_of_ble_eq_true rfl) ⟨rfl, rfl⟩ dX6_place_18

set_option maxHeartbeats 4000000 in
set_option maxRecDepth 100000 in
theorem c_X6_place_b2 (κ : aK) (b : Nat → Nat) {th : Int32} {un : Nat} {ss : Nat → Int32} {fi : Nat → Int32} {la : Nat → Int32} {da : Nat → Bool} {dg : Nat → Bool} {ps : Nat → Int32} {rn : Nat} {ks : Nat → Int32} {os : Nat → Nat} {ts : Nat → Nat} {fn : Nat} {fp : Nat → Int32} {bo : Nat → Nat} {eE : Nat → Nat → Bool} {lE : Nat → Nat → Bool} {li : Nat → Nat → Bool} {be : Nat → Int32} {ab : Nat → Int32} {X : va_W} {j : Nat} {x : Int32} {y : Int32} {z : Int32} (hfn : fn ≤ 60) (hj : j < fn) (hb : ((xyB x && xyB y) && zB z) = false) : CM yX6_place cX6_place 6 (some .int) ({ frames := 2, cells := 0, slots := 0, locals := 44 } : Room) κ [.ref (b 0), .int (nI j), .int x, .int y, .int z] (wM κ b th un ss fi la da dg ps rn ks os ts fn fp bo eE lE li be ab X) (aD (some (.int (nI 0))) (wM κ b (nI 2) un ss fi la da dg ps rn ks os ts fn fp bo eE lE li be ab X)) := by
  refine cm_entry (own := RX6) (L := [(0, .ref (b 0)), (1, .int (nI j)), (2, .int x), (3, .int y), (4, .int z)]) (by decide +kernel) rfl (lv_entry [.ref (b 0), .int (nI j), .int x, .int y, .int z] (n := 6) (Nat.le_of_ble_eq_true rfl)) (fun g C E => ?_)
  refine a_aloadn (pc := 0) C 0 rfl rfl dX6_place_0 ?_
  refine a_iconst (pc := 1) (v := nI 0) C ci_0 dX6_place_1 ?_
  refine a_put (pc := 2) (ws' := wM κ b (nI 0) un ss fi la da dg ps rn ks os ts fn fp bo eE lE li be ab X) C fl_X6_60 fp_X6_0 0 rfl rfl rfl (Nat.le_of_ble_eq_true rfl) rfl dX6_place_2 ?_
  refine a_aloadn (pc := 5) C 0 rfl rfl dX6_place_5 ?_
  refine a_iloadn (pc := 6) C 1 rfl rfl dX6_place_6 ?_
  refine a_callV1 (pc := 7) (k' := 0) (n' := 0) C (c_X6_isFind κ b) yv_X6_isFind ml_X6_184 wi_X6_isFind wl_X6_isFind 0 rfl rfl rfl rfl (Nat.le_of_ble_eq_true rfl) (Nat.le_of_ble_eq_true rfl) (Nat.le_of_ble_eq_true rfl) ⟨(Nat.le_of_ble_eq_true rfl), (Nat.le_of_ble_eq_true rfl)⟩ rfl rfl dX6_place_7 ?_
  refine a_ifb_ne_y (pc := 10) (tgt := 19) C ((okU_n (by omega)).mpr (okU_j hj)) (by decide) dX6_place_10 ?_
  refine a_iloadn (pc := 19) C 2 rfl rfl dX6_place_19 ?_
  refine a_iloadn (pc := 20) C 3 rfl rfl dX6_place_20 ?_
  refine a_iload (pc := 21) C 4 rfl dX6_place_21 ?_
  refine a_callS1 (pc := 23) (k' := 0) (n' := 0) C (c_X6_isPlace κ) yv_X6_isPlace ml_X6_187 ws_X6_isPlace rfl rfl (Nat.le_of_ble_eq_true rfl) (Nat.le_of_ble_eq_true rfl) (Nat.le_of_ble_eq_true rfl) ⟨(Nat.le_of_ble_eq_true rfl), (Nat.le_of_ble_eq_true rfl)⟩ rfl rfl dX6_place_23 ?_
  refine a_ifb_ne_n (pc := 26) C hb dX6_place_26 ⟨35, by decide⟩ ?_
  refine a_aloadn (pc := 29) C 0 rfl rfl dX6_place_29 ?_
  refine a_iconst (pc := 30) (v := nI 2) C ci_2 dX6_place_30 ?_
  refine a_callV1 (pc := 31) (k' := 0) (n' := 0) C (c_X6_no κ b) yv_X6_no ml_X6_100 wi_X6_no wl_X6_no 0 rfl rfl rfl rfl (Nat.le_of_ble_eq_true rfl) (Nat.le_of_ble_eq_true rfl) (Nat.le_of_ble_eq_true rfl) ⟨(Nat.le_of_ble_eq_true rfl), (Nat.le_of_ble_eq_true rfl)⟩ rfl rfl dX6_place_31 ?_
  exact a_iret (pc := 34) C E (Nat.le_of_ble_eq_true rfl) (Nat.le_of_ble_eq_true rfl) ⟨rfl, rfl⟩ dX6_place_34

set_option maxHeartbeats 4000000 in
set_option maxRecDepth 100000 in
theorem c_X6_place (κ : aK) (b : Nat → Nat) {th : Int32} {un : Nat} {ss : Nat → Int32} {fi : Nat → Int32} {la : Nat → Int32} {da : Nat → Bool} {dg : Nat → Bool} {ps : Nat → Int32} {rn : Nat} {ks : Nat → Int32} {os : Nat → Nat} {ts : Nat → Nat} {fn : Nat} {fp : Nat → Int32} {bo : Nat → Nat} {eE : Nat → Nat → Bool} {lE : Nat → Nat → Bool} {li : Nat → Nat → Bool} {be : Nat → Int32} {ab : Nat → Int32} {X : va_W} {j : Nat} {x : Int32} {y : Int32} {z : Int32} (hfn : fn ≤ 60) (hj : j < fn) (hp : ((xyB x && xyB y) && zB z) = true) : CM yX6_place cX6_place 6 (some .int) ({ frames := 2, cells := 0, slots := 0, locals := 44 } : Room) κ [.ref (b 0), .int (nI j), .int x, .int y, .int z] (wM κ b th un ss fi la da dg ps rn ks os ts fn fp bo eE lE li be ab X) (aD (some (.int (fp (7 * j + 6)))) (wM κ b (nI 0) un ss fi la da dg ps rn ks os ts fn (va_up (va_up (va_up fp (7 * j + 4) x) (7 * j + 5) y) (7 * j + 6) z) bo eE lE li be ab X)) := by
  refine cm_entry (own := RX6) (L := [(0, .ref (b 0)), (1, .int (nI j)), (2, .int x), (3, .int y), (4, .int z)]) (by decide +kernel) rfl (lv_entry [.ref (b 0), .int (nI j), .int x, .int y, .int z] (n := 6) (Nat.le_of_ble_eq_true rfl)) (fun g C E => ?_)
  refine a_aloadn (pc := 0) C 0 rfl rfl dX6_place_0 ?_
  refine a_iconst (pc := 1) (v := nI 0) C ci_0 dX6_place_1 ?_
  refine a_put (pc := 2) (ws' := wM κ b (nI 0) un ss fi la da dg ps rn ks os ts fn fp bo eE lE li be ab X) C fl_X6_60 fp_X6_0 0 rfl rfl rfl (Nat.le_of_ble_eq_true rfl) rfl dX6_place_2 ?_
  refine a_aloadn (pc := 5) C 0 rfl rfl dX6_place_5 ?_
  refine a_iloadn (pc := 6) C 1 rfl rfl dX6_place_6 ?_
  refine a_callV1 (pc := 7) (k' := 0) (n' := 0) C (c_X6_isFind κ b) yv_X6_isFind ml_X6_184 wi_X6_isFind wl_X6_isFind 0 rfl rfl rfl rfl (Nat.le_of_ble_eq_true rfl) (Nat.le_of_ble_eq_true rfl) (Nat.le_of_ble_eq_true rfl) ⟨(Nat.le_of_ble_eq_true rfl), (Nat.le_of_ble_eq_true rfl)⟩ rfl rfl dX6_place_7 ?_
  refine a_ifb_ne_y (pc := 10) (tgt := 19) C ((okU_n (by omega)).mpr (okU_j hj)) (by decide) dX6_place_10 ?_
  refine a_iloadn (pc := 19) C 2 rfl rfl dX6_place_19 ?_
  refine a_iloadn (pc := 20) C 3 rfl rfl dX6_place_20 ?_
  refine a_iload (pc := 21) C 4 rfl dX6_place_21 ?_
  refine a_callS1 (pc := 23) (k' := 0) (n' := 0) C (c_X6_isPlace κ) yv_X6_isPlace ml_X6_187 ws_X6_isPlace rfl rfl (Nat.le_of_ble_eq_true rfl) (Nat.le_of_ble_eq_true rfl) (Nat.le_of_ble_eq_true rfl) ⟨(Nat.le_of_ble_eq_true rfl), (Nat.le_of_ble_eq_true rfl)⟩ rfl rfl dX6_place_23 ?_
  refine a_ifb_ne_y (pc := 26) (tgt := 35) C hp (by decide) dX6_place_26 ?_
  refine a_aloadn (pc := 35) C 0 rfl rfl dX6_place_35 ?_
  refine a_get (pc := 36) C fl_X6_38 0 rfl rfl dX6_place_36 ?_
  refine a_bipush (pc := 39) (v := nI 7) C cb_7 dX6_place_39 ?_
  refine a_iloadn (pc := 41) C 1 rfl rfl dX6_place_41 ?_
  refine a_imul (pc := 42) (v := nI (7 * j)) C (pk_mul _ _) dX6_place_42 ?_
  refine a_bipush (pc := 43) (v := nI 6) C cb_6 dX6_place_43 ?_
  refine a_iadd (pc := 45) (v := nI ((7 * j) + 6)) C (nI_add _ _) dX6_place_45 ?_
  refine a_iald (pc := 46) C 10 rfl (by omega) (by decide) dX6_place_46 ?_
  refine a_istore (pc := 47) (L' := [(0, .ref (b 0)), (1, .int (nI j)), (2, .int x), (3, .int y), (4, .int z), (5, .int (fp ((7 * j) + 6)))]) C (by decide) rfl dX6_place_47 ?_
  refine a_aloadn (pc := 49) C 0 rfl rfl dX6_place_49 ?_
  refine a_get (pc := 50) C fl_X6_38 0 rfl rfl dX6_place_50 ?_
  refine a_bipush (pc := 53) (v := nI 7) C cb_7 dX6_place_53 ?_
  refine a_iloadn (pc := 55) C 1 rfl rfl dX6_place_55 ?_
  refine a_imul (pc := 56) (v := nI (7 * j)) C (pk_mul _ _) dX6_place_56 ?_
  refine a_iconst (pc := 57) (v := nI 4) C ci_4 dX6_place_57 ?_
  refine a_iadd (pc := 58) (v := nI ((7 * j) + 4)) C (nI_add _ _) dX6_place_58 ?_
  refine a_iloadn (pc := 59) C 2 rfl rfl dX6_place_59 ?_
  refine a_iast (pc := 60) (ws' := wM κ b (nI 0) un ss fi la da dg ps rn ks os ts fn (va_up fp ((7 * j) + 4) x) bo eE lE li be ab X) C 10 rfl (by omega) (by decide) rfl rfl dX6_place_60 ?_
  refine a_aloadn (pc := 61) C 0 rfl rfl dX6_place_61 ?_
  refine a_get (pc := 62) C fl_X6_38 0 rfl rfl dX6_place_62 ?_
  refine a_bipush (pc := 65) (v := nI 7) C cb_7 dX6_place_65 ?_
  refine a_iloadn (pc := 67) C 1 rfl rfl dX6_place_67 ?_
  refine a_imul (pc := 68) (v := nI (7 * j)) C (pk_mul _ _) dX6_place_68 ?_
  refine a_iconst (pc := 69) (v := nI 5) C ci_5 dX6_place_69 ?_
  refine a_iadd (pc := 70) (v := nI ((7 * j) + 5)) C (nI_add _ _) dX6_place_70 ?_
  refine a_iloadn (pc := 71) C 3 rfl rfl dX6_place_71 ?_
  refine a_iast (pc := 72) (ws' := wM κ b (nI 0) un ss fi la da dg ps rn ks os ts fn (va_up (va_up fp ((7 * j) + 4) x) ((7 * j) + 5) y) bo eE lE li be ab X) C 10 rfl (by omega) (by decide) rfl rfl dX6_place_72 ?_
  refine a_aloadn (pc := 73) C 0 rfl rfl dX6_place_73 ?_
  refine a_get (pc := 74) C fl_X6_38 0 rfl rfl dX6_place_74 ?_
  refine a_bipush (pc := 77) (v := nI 7) C cb_7 dX6_place_77 ?_
  refine a_iloadn (pc := 79) C 1 rfl rfl dX6_place_79 ?_
  refine a_imul (pc := 80) (v := nI (7 * j)) C (pk_mul _ _) dX6_place_80 ?_
  refine a_bipush (pc := 81) (v := nI 6) C cb_6 dX6_place_81 ?_
  refine a_iadd (pc := 83) (v := nI ((7 * j) + 6)) C (nI_add _ _) dX6_place_83 ?_
  refine a_iload (pc := 84) C 4 rfl dX6_place_84 ?_
  refine a_iast (pc := 86) (ws' := wM κ b (nI 0) un ss fi la da dg ps rn ks os ts fn (va_up (va_up (va_up fp ((7 * j) + 4) x) ((7 * j) + 5) y) ((7 * j) + 6) z) bo eE lE li be ab X) C 10 rfl (by omega) (by decide) rfl rfl dX6_place_86 ?_
  refine a_iload (pc := 87) C 5 rfl dX6_place_87 ?_
  exact a_iret (pc := 89) C E (Nat.le_of_ble_eq_true rfl) (Nat.le_of_ble_eq_true rfl) ⟨rfl, rfl⟩ dX6_place_89

set_option maxHeartbeats 4000000 in
set_option maxRecDepth 100000 in
theorem c_X6_move_b1 (κ : aK) (b : Nat → Nat) {th : Int32} {un : Nat} {ss : Nat → Int32} {fi : Nat → Int32} {la : Nat → Int32} {da : Nat → Bool} {dg : Nat → Bool} {ps : Nat → Int32} {rn : Nat} {ks : Nat → Int32} {os : Nat → Nat} {ts : Nat → Nat} {fn : Nat} {fp : Nat → Int32} {bo : Nat → Nat} {eE : Nat → Nat → Bool} {lE : Nat → Nat → Bool} {li : Nat → Nat → Bool} {be : Nat → Int32} {ab : Nat → Int32} {X : va_W} {x : Int32} {y : Int32} (hun : un ≤ 40) (hfn : fn ≤ 60) (hb : ¬ (okU fn x ∧ okU un y)) : CM yX6_move cX6_move 4 (some .int) ({ frames := 2, cells := 0, slots := 0, locals := 43 } : Room) κ [.ref (b 0), .int x, .int y] (wM κ b th un ss fi la da dg ps rn ks os ts fn fp bo eE lE li be ab X) (aD (some (.int (nI 0))) (wM κ b (nI 1) un ss fi la da dg ps rn ks os ts fn fp bo eE lE li be ab X)) := by
  refine cm_entry (own := RX6) (L := [(0, .ref (b 0)), (1, .int x), (2, .int y)]) (by decide +kernel) rfl (lv_entry [.ref (b 0), .int x, .int y] (n := 4) (Nat.le_of_ble_eq_true rfl)) (fun g C E => ?_)
  refine a_aloadn (pc := 0) C 0 rfl rfl dX6_move_0 ?_
  refine a_iconst (pc := 1) (v := nI 0) C ci_0 dX6_move_1 ?_
  refine a_put (pc := 2) (ws' := wM κ b (nI 0) un ss fi la da dg ps rn ks os ts fn fp bo eE lE li be ab X) C fl_X6_60 fp_X6_0 0 rfl rfl rfl (Nat.le_of_ble_eq_true rfl) rfl dX6_move_2 ?_
  refine a_aloadn (pc := 5) C 0 rfl rfl dX6_move_5 ?_
  refine a_iloadn (pc := 6) C 1 rfl rfl dX6_move_6 ?_
  refine a_callV1 (pc := 7) (k' := 0) (n' := 0) C (c_X6_isFind κ b) yv_X6_isFind ml_X6_184 wi_X6_isFind wl_X6_isFind 0 rfl rfl rfl rfl (Nat.le_of_ble_eq_true rfl) (Nat.le_of_ble_eq_true rfl) (Nat.le_of_ble_eq_true rfl) ⟨(Nat.le_of_ble_eq_true rfl), (Nat.le_of_ble_eq_true rfl)⟩ rfl rfl dX6_move_7 ?_
  refine a_ifb_eq (pc := 10) (tgt := 21) C (by decide) dX6_move_10 (fun c1 => ?_) (fun c1 => ?_)
  · refine a_aloadn (pc := 21) C 0 rfl rfl dX6_move_21 ?_
    refine a_iconst (pc := 22) (v := nI 1) C ci_1 dX6_move_22 ?_
    refine a_callV1 (pc := 23) (k' := 0) (n' := 0) C (c_X6_no κ b) yv_X6_no ml_X6_100 wi_X6_no wl_X6_no 0 rfl rfl rfl rfl (Nat.le_of_ble_eq_true rfl) (Nat.le_of_ble_eq_true rfl) (Nat.le_of_ble_eq_true rfl) ⟨(Nat.le_of_ble_eq_true rfl), (Nat.le_of_ble_eq_true rfl)⟩ rfl rfl dX6_move_23 ?_
    exact a_iret (pc := 26) C E (Nat.le_of_ble_eq_true rfl) (Nat.le_of_ble_eq_true rfl) ⟨rfl, rfl⟩ dX6_move_26
  · refine a_aloadn (pc := 13) C 0 rfl rfl dX6_move_13 ?_
    refine a_iloadn (pc := 14) C 2 rfl rfl dX6_move_14 ?_
    refine a_callV1 (pc := 15) (k' := 0) (n' := 0) C (c_X6_isUnit κ b) yv_X6_isUnit ml_X6_107 wi_X6_isUnit wl_X6_isUnit 0 rfl rfl rfl rfl (Nat.le_of_ble_eq_true rfl) (Nat.le_of_ble_eq_true rfl) (Nat.le_of_ble_eq_true rfl) ⟨(Nat.le_of_ble_eq_true rfl), (Nat.le_of_ble_eq_true rfl)⟩ rfl rfl dX6_move_15 ?_
    refine a_ifb_ne_n (pc := 18) C (okU_nf (by omega) (fun h => hb ⟨(okU_n (by omega)).mp c1, h⟩)) dX6_move_18 ⟨27, by decide⟩ ?_
    refine a_aloadn (pc := 21) C 0 rfl rfl dX6_move_21 ?_
    refine a_iconst (pc := 22) (v := nI 1) C ci_1 dX6_move_22 ?_
    refine a_callV1 (pc := 23) (k' := 0) (n' := 0) C (c_X6_no κ b) yv_X6_no ml_X6_100 wi_X6_no wl_X6_no 0 rfl rfl rfl rfl (Nat.le_of_ble_eq_true rfl) (Nat.le_of_ble_eq_true rfl) (Nat.le_of_ble_eq_true rfl) ⟨(Nat.le_of_ble_eq_true rfl), (Nat.le_of_ble_eq_true rfl)⟩ rfl rfl dX6_move_23 ?_
    exact a_iret (pc := 26) C E (Nat.le_of_ble_eq_true rfl) (Nat.le_of_ble_eq_true rfl) ⟨rfl, rfl⟩ dX6_move_26

set_option maxHeartbeats 4000000 in
set_option maxRecDepth 100000 in
theorem c_X6_move (κ : aK) (b : Nat → Nat) {th : Int32} {un : Nat} {ss : Nat → Int32} {fi : Nat → Int32} {la : Nat → Int32} {da : Nat → Bool} {dg : Nat → Bool} {ps : Nat → Int32} {rn : Nat} {ks : Nat → Int32} {os : Nat → Nat} {ts : Nat → Nat} {fn : Nat} {fp : Nat → Int32} {bo : Nat → Nat} {eE : Nat → Nat → Bool} {lE : Nat → Nat → Bool} {li : Nat → Nat → Bool} {be : Nat → Int32} {ab : Nat → Int32} {X : va_W} {j : Nat} {u : Nat} (hun : un ≤ 40) (hfn : fn ≤ 60) (hj : j < fn) (hu : u < un) : CM yX6_move cX6_move 4 (some .int) ({ frames := 2, cells := 0, slots := 0, locals := 43 } : Room) κ [.ref (b 0), .int (nI j), .int (nI u)] (wM κ b th un ss fi la da dg ps rn ks os ts fn fp bo eE lE li be ab X) (aD (some (.int (fp (7 * j)))) (wM κ b (nI 0) un ss fi la da dg ps rn ks os ts fn (va_up fp (7 * j) (nI u)) bo eE lE li be ab X)) := by
  refine cm_entry (own := RX6) (L := [(0, .ref (b 0)), (1, .int (nI j)), (2, .int (nI u))]) (by decide +kernel) rfl (lv_entry [.ref (b 0), .int (nI j), .int (nI u)] (n := 4) (Nat.le_of_ble_eq_true rfl)) (fun g C E => ?_)
  refine a_aloadn (pc := 0) C 0 rfl rfl dX6_move_0 ?_
  refine a_iconst (pc := 1) (v := nI 0) C ci_0 dX6_move_1 ?_
  refine a_put (pc := 2) (ws' := wM κ b (nI 0) un ss fi la da dg ps rn ks os ts fn fp bo eE lE li be ab X) C fl_X6_60 fp_X6_0 0 rfl rfl rfl (Nat.le_of_ble_eq_true rfl) rfl dX6_move_2 ?_
  refine a_aloadn (pc := 5) C 0 rfl rfl dX6_move_5 ?_
  refine a_iloadn (pc := 6) C 1 rfl rfl dX6_move_6 ?_
  refine a_callV1 (pc := 7) (k' := 0) (n' := 0) C (c_X6_isFind κ b) yv_X6_isFind ml_X6_184 wi_X6_isFind wl_X6_isFind 0 rfl rfl rfl rfl (Nat.le_of_ble_eq_true rfl) (Nat.le_of_ble_eq_true rfl) (Nat.le_of_ble_eq_true rfl) ⟨(Nat.le_of_ble_eq_true rfl), (Nat.le_of_ble_eq_true rfl)⟩ rfl rfl dX6_move_7 ?_
  refine a_ifb_eq_n (pc := 10) C ((okU_n (by omega)).mpr (okU_j hj)) dX6_move_10 ⟨21, by decide⟩ ?_
  refine a_aloadn (pc := 13) C 0 rfl rfl dX6_move_13 ?_
  refine a_iloadn (pc := 14) C 2 rfl rfl dX6_move_14 ?_
  refine a_callV1 (pc := 15) (k' := 0) (n' := 0) C (c_X6_isUnit κ b) yv_X6_isUnit ml_X6_107 wi_X6_isUnit wl_X6_isUnit 0 rfl rfl rfl rfl (Nat.le_of_ble_eq_true rfl) (Nat.le_of_ble_eq_true rfl) (Nat.le_of_ble_eq_true rfl) ⟨(Nat.le_of_ble_eq_true rfl), (Nat.le_of_ble_eq_true rfl)⟩ rfl rfl dX6_move_15 ?_
  refine a_ifb_ne_y (pc := 18) (tgt := 27) C ((okU_n (by omega)).mpr (okU_j hu)) (by decide) dX6_move_18 ?_
  refine a_aloadn (pc := 27) C 0 rfl rfl dX6_move_27 ?_
  refine a_get (pc := 28) C fl_X6_38 0 rfl rfl dX6_move_28 ?_
  refine a_bipush (pc := 31) (v := nI 7) C cb_7 dX6_move_31 ?_
  refine a_iloadn (pc := 33) C 1 rfl rfl dX6_move_33 ?_
  refine a_imul (pc := 34) (v := nI (7 * j)) C (pk_mul _ _) dX6_move_34 ?_
  refine a_iald (pc := 35) C 10 rfl (by omega) (by decide) dX6_move_35 ?_
  refine a_istoren (pc := 36) (L' := [(0, .ref (b 0)), (1, .int (nI j)), (2, .int (nI u)), (3, .int (fp (7 * j)))]) C (by decide) rfl rfl dX6_move_36 ?_
  refine a_aloadn (pc := 37) C 0 rfl rfl dX6_move_37 ?_
  refine a_get (pc := 38) C fl_X6_38 0 rfl rfl dX6_move_38 ?_
  refine a_bipush (pc := 41) (v := nI 7) C cb_7 dX6_move_41 ?_
  refine a_iloadn (pc := 43) C 1 rfl rfl dX6_move_43 ?_
  refine a_imul (pc := 44) (v := nI (7 * j)) C (pk_mul _ _) dX6_move_44 ?_
  refine a_iloadn (pc := 45) C 2 rfl rfl dX6_move_45 ?_
  refine a_iast (pc := 46) (ws' := wM κ b (nI 0) un ss fi la da dg ps rn ks os ts fn (va_up fp (7 * j) (nI u)) bo eE lE li be ab X) C 10 rfl (by omega) (by decide) rfl rfl dX6_move_46 ?_
  refine a_iloadn (pc := 47) C 3 rfl rfl dX6_move_47 ?_
  exact a_iret (pc := 48) C E (Nat.le_of_ble_eq_true rfl) (Nat.le_of_ble_eq_true rfl) ⟨rfl, rfl⟩ dX6_move_48

set_option maxHeartbeats 4000000 in
set_option maxRecDepth 100000 in
theorem c_X6_findTold (κ : aK) (b : Nat → Nat) {th : Int32} {un : Nat} {ss : Nat → Int32} {fi : Nat → Int32} {la : Nat → Int32} {da : Nat → Bool} {dg : Nat → Bool} {ps : Nat → Int32} {rn : Nat} {ks : Nat → Int32} {os : Nat → Nat} {ts : Nat → Nat} {fn : Nat} {fp : Nat → Int32} {bo : Nat → Nat} {eE : Nat → Nat → Bool} {lE : Nat → Nat → Bool} {li : Nat → Nat → Bool} {be : Nat → Int32} {ab : Nat → Int32} {X : va_W} {j : Nat} {q : Nat} {fu : Nat → Nat} (hun : un ≤ 40) (hfn : fn ≤ 60) (hbo : ∀ u, bo u < 40) (hq : ∀ j, fp (7 * j) = nI (fu j)) (hfu : ∀ u, fu u < 40) (hj : j < fn) (hqq : q < 8) : CM yX6_findTold cX6_findTold 4 (some .int) ({ frames := 2, cells := 0, slots := 0, locals := 49 } : Room) κ [.ref (b 0), .int (nI j), .int (nI q)] (wM κ b th un ss fi la da dg ps rn ks os ts fn fp bo eE lE li be ab X) (aD (some (.int (fR bo eE lE da fi la un fu fp fn j q))) (wM κ b th un ss fi la da dg ps rn ks os ts fn fp bo eE lE li be ab X)) := by
  refine cm_entry (own := RX6) (L := [(0, .ref (b 0)), (1, .int (nI j)), (2, .int (nI q))]) (by decide +kernel) rfl (lv_entry [.ref (b 0), .int (nI j), .int (nI q)] (n := 4) (Nat.le_of_ble_eq_true rfl)) (fun g C E => ?_)
  have hfj := hfu j
  refine a_iloadn (pc := 0) C 2 rfl rfl dX6_findTold_0 ?_
  refine a_bipush (pc := 1) (v := nI 7) C cb_7 dX6_findTold_1 ?_
  refine a_icn_ge (pc := 3) (tgt := 18) C (by omega) (by omega) (by decide) dX6_findTold_3 (fun c1 => ?_) (fun c1 => ?_)
  · refine a_aloadn (pc := 18) C 0 rfl rfl dX6_findTold_18 ?_
    refine a_get (pc := 19) C fl_X6_38 0 rfl rfl dX6_findTold_19 ?_
    refine a_bipush (pc := 22) (v := nI 7) C cb_7 dX6_findTold_22 ?_
    refine a_iloadn (pc := 24) C 1 rfl rfl dX6_findTold_24 ?_
    refine a_imul (pc := 25) (v := nI (7 * j)) C (pk_mul _ _) dX6_findTold_25 ?_
    refine a_iald (pc := 26) C 10 rfl (by omega) (by decide) dX6_findTold_26 ?_
    refine aw_st (st' := [.int (nI (fu j))]) (by rw [hq j]) ?_
    refine a_istoren (pc := 27) (L' := [(0, .ref (b 0)), (1, .int (nI j)), (2, .int (nI q)), (3, .int (nI (fu j)))]) C (by decide) rfl rfl dX6_findTold_27 ?_
    refine a_aloadn (pc := 28) C 0 rfl rfl dX6_findTold_28 ?_
    refine a_get (pc := 29) C fl_X6_38 0 rfl rfl dX6_findTold_29 ?_
    refine a_bipush (pc := 32) (v := nI 7) C cb_7 dX6_findTold_32 ?_
    refine a_iloadn (pc := 34) C 1 rfl rfl dX6_findTold_34 ?_
    refine a_imul (pc := 35) (v := nI (7 * j)) C (pk_mul _ _) dX6_findTold_35 ?_
    refine a_iconst (pc := 36) (v := nI 2) C ci_2 dX6_findTold_36 ?_
    refine a_iadd (pc := 37) (v := nI ((7 * j) + 2)) C (nI_add _ _) dX6_findTold_37 ?_
    refine a_iald (pc := 38) C 10 rfl (by omega) (by decide) dX6_findTold_38 ?_
    refine a_aloadn (pc := 39) C 0 rfl rfl dX6_findTold_39 ?_
    refine a_iloadn (pc := 40) C 3 rfl rfl dX6_findTold_40 ?_
    refine a_iconst (pc := 41) (v := nI 1) C ci_1 dX6_findTold_41 ?_
    refine a_callV1 (pc := 42) (k' := 0) (n' := 0) C (c_X6_year_up κ b (by omega) (by omega) (by assumption) (by omega)) yv_X6_year ml_X6_123 wi_X6_year wl_X6_year 0 rfl rfl rfl rfl (Nat.le_of_ble_eq_true rfl) (Nat.le_of_ble_eq_true rfl) (Nat.le_of_ble_eq_true rfl) ⟨(Nat.le_of_ble_eq_true rfl), (Nat.le_of_ble_eq_true rfl)⟩ rfl rfl dX6_findTold_42 ?_
    refine a_ic_le (pc := 45) (tgt := 52) C (by decide) dX6_findTold_45 (fun c2 => ?_) (fun c2 => ?_)
    · refine a_aloadn (pc := 52) C 0 rfl rfl dX6_findTold_52 ?_
      refine a_get (pc := 53) C fl_X6_38 0 rfl rfl dX6_findTold_53 ?_
      refine a_bipush (pc := 56) (v := nI 7) C cb_7 dX6_findTold_56 ?_
      refine a_iloadn (pc := 58) C 1 rfl rfl dX6_findTold_58 ?_
      refine a_imul (pc := 59) (v := nI (7 * j)) C (pk_mul _ _) dX6_findTold_59 ?_
      refine a_iconst (pc := 60) (v := nI 3) C ci_3 dX6_findTold_60 ?_
      refine a_iadd (pc := 61) (v := nI ((7 * j) + 3)) C (nI_add _ _) dX6_findTold_61 ?_
      refine a_iald (pc := 62) C 10 rfl (by omega) (by decide) dX6_findTold_62 ?_
      refine a_aloadn (pc := 63) C 0 rfl rfl dX6_findTold_63 ?_
      refine a_iloadn (pc := 64) C 3 rfl rfl dX6_findTold_64 ?_
      refine a_iconst (pc := 65) (v := nI 0) C ci_0 dX6_findTold_65 ?_
      refine a_callV1 (pc := 66) (k' := 0) (n' := 0) C (c_X6_year_lo κ b (by omega) (by omega) (by assumption) (by assumption) (by assumption) (by omega)) yv_X6_year ml_X6_123 wi_X6_year wl_X6_year 0 rfl rfl rfl rfl (Nat.le_of_ble_eq_true rfl) (Nat.le_of_ble_eq_true rfl) (Nat.le_of_ble_eq_true rfl) ⟨(Nat.le_of_ble_eq_true rfl), (Nat.le_of_ble_eq_true rfl)⟩ rfl rfl dX6_findTold_66 ?_
      refine a_ic_ge (pc := 69) (tgt := 76) C (by decide) dX6_findTold_69 (fun c3 => ?_) (fun c3 => ?_)
      · refine a_iconst (pc := 76) (v := nI 0) C ci_0 dX6_findTold_76 ?_
        exact a_iret (pc := 77) C E (Nat.le_of_ble_eq_true rfl) (Nat.le_of_ble_eq_true rfl) ⟨by rw [fR, if_neg (Nat.not_lt.mpr c1), mR_0 (Int32.not_lt.mpr c2) (Int32.not_lt.mpr c3)], rfl⟩ dX6_findTold_77
      · refine a_iconst (pc := 72) (v := nI 1) C ci_1 dX6_findTold_72 ?_
        refine a_goto (pc := 73) (tgt := 77) C (by decide) dX6_findTold_73 ?_
        exact a_iret (pc := 77) C E (Nat.le_of_ble_eq_true rfl) (Nat.le_of_ble_eq_true rfl) ⟨by rw [fR, if_neg (Nat.not_lt.mpr c1), mR_1 (Int32.not_lt.mpr c2) (Int32.not_le.mp c3)], rfl⟩ dX6_findTold_77
    · refine a_iconst (pc := 48) (v := nI 2) C ci_2 dX6_findTold_48 ?_
      refine a_goto (pc := 49) (tgt := 77) C (by decide) dX6_findTold_49 ?_
      exact a_iret (pc := 77) C E (Nat.le_of_ble_eq_true rfl) (Nat.le_of_ble_eq_true rfl) ⟨by rw [fR, if_neg (Nat.not_lt.mpr c1), mR_2 (Int32.not_le.mp c2)], rfl⟩ dX6_findTold_77
  · refine a_aloadn (pc := 6) C 0 rfl rfl dX6_findTold_6 ?_
    refine a_get (pc := 7) C fl_X6_38 0 rfl rfl dX6_findTold_7 ?_
    refine a_bipush (pc := 10) (v := nI 7) C cb_7 dX6_findTold_10 ?_
    refine a_iloadn (pc := 12) C 1 rfl rfl dX6_findTold_12 ?_
    refine a_imul (pc := 13) (v := nI (7 * j)) C (pk_mul _ _) dX6_findTold_13 ?_
    refine a_iloadn (pc := 14) C 2 rfl rfl dX6_findTold_14 ?_
    refine a_iadd (pc := 15) (v := nI ((7 * j) + q)) C (nI_add _ _) dX6_findTold_15 ?_
    refine a_iald (pc := 16) C 10 rfl (by omega) (by decide) dX6_findTold_16 ?_
    exact a_iret (pc := 17) C E (Nat.le_of_ble_eq_true rfl) (Nat.le_of_ble_eq_true rfl) ⟨by rw [fR, if_pos c1], rfl⟩ dX6_findTold_17

set_option maxHeartbeats 4000000 in
set_option maxRecDepth 100000 in
theorem c_X6_find_b1 (κ : aK) (b : Nat → Nat) {th : Int32} {un : Nat} {ss : Nat → Int32} {fi : Nat → Int32} {la : Nat → Int32} {da : Nat → Bool} {dg : Nat → Bool} {ps : Nat → Int32} {rn : Nat} {ks : Nat → Int32} {os : Nat → Nat} {ts : Nat → Nat} {fn : Nat} {fp : Nat → Int32} {bo : Nat → Nat} {eE : Nat → Nat → Bool} {lE : Nat → Nat → Bool} {li : Nat → Nat → Bool} {be : Nat → Int32} {ab : Nat → Int32} {X : va_W} {x : Int32} {y : Int32} (hfn : fn ≤ 60) (hb : ¬ (okU fn x ∧ okU 8 y)) : CM yX6_find cX6_find 3 (some .int) ({ frames := 3, cells := 0, slots := 0, locals := 72 } : Room) κ [.ref (b 0), .int x, .int y] (wM κ b th un ss fi la da dg ps rn ks os ts fn fp bo eE lE li be ab X) (aD (some (.int (nI 0))) (wM κ b (nI 1) un ss fi la da dg ps rn ks os ts fn fp bo eE lE li be ab X)) := by
  refine cm_entry (own := RX6) (L := [(0, .ref (b 0)), (1, .int x), (2, .int y)]) (by decide +kernel) rfl (lv_entry [.ref (b 0), .int x, .int y] (n := 3) (Nat.le_of_ble_eq_true rfl)) (fun g C E => ?_)
  refine a_aloadn (pc := 0) C 0 rfl rfl dX6_find_0 ?_
  refine a_iconst (pc := 1) (v := nI 0) C ci_0 dX6_find_1 ?_
  refine a_put (pc := 2) (ws' := wM κ b (nI 0) un ss fi la da dg ps rn ks os ts fn fp bo eE lE li be ab X) C fl_X6_60 fp_X6_0 0 rfl rfl rfl (Nat.le_of_ble_eq_true rfl) rfl dX6_find_2 ?_
  refine a_aloadn (pc := 5) C 0 rfl rfl dX6_find_5 ?_
  refine a_iloadn (pc := 6) C 1 rfl rfl dX6_find_6 ?_
  refine a_callV1 (pc := 7) (k' := 0) (n' := 0) C (c_X6_isFind κ b) yv_X6_isFind ml_X6_184 wi_X6_isFind wl_X6_isFind 0 rfl rfl rfl rfl (Nat.le_of_ble_eq_true rfl) (Nat.le_of_ble_eq_true rfl) (Nat.le_of_ble_eq_true rfl) ⟨(Nat.le_of_ble_eq_true rfl), (Nat.le_of_ble_eq_true rfl)⟩ rfl rfl dX6_find_7 ?_
  refine a_ifb_eq (pc := 10) (tgt := 32) C (by decide) dX6_find_10 (fun c1 => ?_) (fun c1 => ?_)
  · refine a_aloadn (pc := 32) C 0 rfl rfl dX6_find_32 ?_
    refine a_iconst (pc := 33) (v := nI 1) C ci_1 dX6_find_33 ?_
    refine a_callV1 (pc := 34) (k' := 0) (n' := 0) C (c_X6_no κ b) yv_X6_no ml_X6_100 wi_X6_no wl_X6_no 0 rfl rfl rfl rfl (Nat.le_of_ble_eq_true rfl) (Nat.le_of_ble_eq_true rfl) (Nat.le_of_ble_eq_true rfl) ⟨(Nat.le_of_ble_eq_true rfl), (Nat.le_of_ble_eq_true rfl)⟩ rfl rfl dX6_find_34 ?_
    exact a_iret (pc := 37) C E (Nat.le_of_ble_eq_true rfl) (Nat.le_of_ble_eq_true rfl) ⟨rfl, rfl⟩ dX6_find_37
  · refine a_iloadn (pc := 13) C 2 rfl rfl dX6_find_13 ?_
    refine a_iconst (pc := 14) (v := nI 0) C ci_0 dX6_find_14 ?_
    refine a_bipush (pc := 15) (v := nI 7) C cb_7 dX6_find_15 ?_
    refine a_callS1 (pc := 17) (k' := 0) (n' := 0) C (c_X6_isIn κ) yv_X6_isIn ml_X6_67 ws_X6_isIn rfl rfl (Nat.le_of_ble_eq_true rfl) (Nat.le_of_ble_eq_true rfl) (Nat.le_of_ble_eq_true rfl) ⟨(Nat.le_of_ble_eq_true rfl), (Nat.le_of_ble_eq_true rfl)⟩ rfl rfl dX6_find_17 ?_
    refine a_ifb_eq_y (pc := 20) (tgt := 32) C (okU_cf (by omega) (fun h => hb ⟨(okU_n (by omega)).mp c1, h⟩)) (by decide) dX6_find_20 ?_
    refine a_aloadn (pc := 32) C 0 rfl rfl dX6_find_32 ?_
    refine a_iconst (pc := 33) (v := nI 1) C ci_1 dX6_find_33 ?_
    refine a_callV1 (pc := 34) (k' := 0) (n' := 0) C (c_X6_no κ b) yv_X6_no ml_X6_100 wi_X6_no wl_X6_no 0 rfl rfl rfl rfl (Nat.le_of_ble_eq_true rfl) (Nat.le_of_ble_eq_true rfl) (Nat.le_of_ble_eq_true rfl) ⟨(Nat.le_of_ble_eq_true rfl), (Nat.le_of_ble_eq_true rfl)⟩ rfl rfl dX6_find_34 ?_
    exact a_iret (pc := 37) C E (Nat.le_of_ble_eq_true rfl) (Nat.le_of_ble_eq_true rfl) ⟨rfl, rfl⟩ dX6_find_37

set_option maxHeartbeats 4000000 in
set_option maxRecDepth 100000 in
theorem c_X6_find (κ : aK) (b : Nat → Nat) {th : Int32} {un : Nat} {ss : Nat → Int32} {fi : Nat → Int32} {la : Nat → Int32} {da : Nat → Bool} {dg : Nat → Bool} {ps : Nat → Int32} {rn : Nat} {ks : Nat → Int32} {os : Nat → Nat} {ts : Nat → Nat} {fn : Nat} {fp : Nat → Int32} {bo : Nat → Nat} {eE : Nat → Nat → Bool} {lE : Nat → Nat → Bool} {li : Nat → Nat → Bool} {be : Nat → Int32} {ab : Nat → Int32} {X : va_W} {j : Nat} {q : Nat} {fu : Nat → Nat} (hun : un ≤ 40) (hfn : fn ≤ 60) (hbo : ∀ u, bo u < 40) (hq : ∀ j, fp (7 * j) = nI (fu j)) (hfu : ∀ u, fu u < 40) (hj : j < fn) (hqq : q < 8) : CM yX6_find cX6_find 3 (some .int) ({ frames := 3, cells := 0, slots := 0, locals := 72 } : Room) κ [.ref (b 0), .int (nI j), .int (nI q)] (wM κ b th un ss fi la da dg ps rn ks os ts fn fp bo eE lE li be ab X) (aD (some (.int (fR bo eE lE da fi la un fu fp fn j q))) (wM κ b (nI 0) un ss fi la da dg ps rn ks os ts fn fp bo eE lE li be ab X)) := by
  refine cm_entry (own := RX6) (L := [(0, .ref (b 0)), (1, .int (nI j)), (2, .int (nI q))]) (by decide +kernel) rfl (lv_entry [.ref (b 0), .int (nI j), .int (nI q)] (n := 3) (Nat.le_of_ble_eq_true rfl)) (fun g C E => ?_)
  refine a_aloadn (pc := 0) C 0 rfl rfl dX6_find_0 ?_
  refine a_iconst (pc := 1) (v := nI 0) C ci_0 dX6_find_1 ?_
  refine a_put (pc := 2) (ws' := wM κ b (nI 0) un ss fi la da dg ps rn ks os ts fn fp bo eE lE li be ab X) C fl_X6_60 fp_X6_0 0 rfl rfl rfl (Nat.le_of_ble_eq_true rfl) rfl dX6_find_2 ?_
  refine a_aloadn (pc := 5) C 0 rfl rfl dX6_find_5 ?_
  refine a_iloadn (pc := 6) C 1 rfl rfl dX6_find_6 ?_
  refine a_callV1 (pc := 7) (k' := 0) (n' := 0) C (c_X6_isFind κ b) yv_X6_isFind ml_X6_184 wi_X6_isFind wl_X6_isFind 0 rfl rfl rfl rfl (Nat.le_of_ble_eq_true rfl) (Nat.le_of_ble_eq_true rfl) (Nat.le_of_ble_eq_true rfl) ⟨(Nat.le_of_ble_eq_true rfl), (Nat.le_of_ble_eq_true rfl)⟩ rfl rfl dX6_find_7 ?_
  refine a_ifb_eq_n (pc := 10) C ((okU_n (by omega)).mpr (okU_j hj)) dX6_find_10 ⟨32, by decide⟩ ?_
  refine a_iloadn (pc := 13) C 2 rfl rfl dX6_find_13 ?_
  refine a_iconst (pc := 14) (v := nI 0) C ci_0 dX6_find_14 ?_
  refine a_bipush (pc := 15) (v := nI 7) C cb_7 dX6_find_15 ?_
  refine a_callS1 (pc := 17) (k' := 0) (n' := 0) C (c_X6_isIn κ) yv_X6_isIn ml_X6_67 ws_X6_isIn rfl rfl (Nat.le_of_ble_eq_true rfl) (Nat.le_of_ble_eq_true rfl) (Nat.le_of_ble_eq_true rfl) ⟨(Nat.le_of_ble_eq_true rfl), (Nat.le_of_ble_eq_true rfl)⟩ rfl rfl dX6_find_17 ?_
  refine a_ifb_eq_n (pc := 20) C ((okU_c (by omega)).mpr (okU_j hqq)) dX6_find_20 ⟨32, by decide⟩ ?_
  refine a_aloadn (pc := 23) C 0 rfl rfl dX6_find_23 ?_
  refine a_iloadn (pc := 24) C 1 rfl rfl dX6_find_24 ?_
  refine a_iloadn (pc := 25) C 2 rfl rfl dX6_find_25 ?_
  refine a_callV1 (pc := 26) (k' := 0) (n' := 0) C (c_X6_findTold κ b (by omega) (by omega) hbo (by assumption) hfu (by omega) (by omega)) yv_X6_findTold ml_X6_190 wi_X6_findTold wl_X6_findTold 0 rfl rfl rfl rfl (Nat.le_of_ble_eq_true rfl) (Nat.le_of_ble_eq_true rfl) (Nat.le_of_ble_eq_true rfl) ⟨(Nat.le_of_ble_eq_true rfl), (Nat.le_of_ble_eq_true rfl)⟩ rfl rfl dX6_find_26 ?_
  refine a_goto (pc := 29) (tgt := 37) C (by decide) dX6_find_29 ?_
  exact a_iret (pc := 37) C E (Nat.le_of_ble_eq_true rfl) (Nat.le_of_ble_eq_true rfl) ⟨rfl, rfl⟩ dX6_find_37

set_option maxHeartbeats 4000000 in
set_option maxRecDepth 100000 in
theorem c_X6_date_b1 (κ : aK) (b : Nat → Nat) {th : Int32} {un : Nat} {ss : Nat → Int32} {fi : Nat → Int32} {la : Nat → Int32} {da : Nat → Bool} {dg : Nat → Bool} {ps : Nat → Int32} {rn : Nat} {ks : Nat → Int32} {os : Nat → Nat} {ts : Nat → Nat} {fn : Nat} {fp : Nat → Int32} {bo : Nat → Nat} {eE : Nat → Nat → Bool} {lE : Nat → Nat → Bool} {li : Nat → Nat → Bool} {be : Nat → Int32} {ab : Nat → Int32} {X : va_W} {x : Int32} {a1 : Int32} {b1 : Int32} (hun : un ≤ 40) (hb : ¬ okU un x) : CM yX6_date cX6_date 5 (some .int) ({ frames := 2, cells := 0, slots := 0, locals := 43 } : Room) κ [.ref (b 0), .int x, .int a1, .int b1] (wM κ b th un ss fi la da dg ps rn ks os ts fn fp bo eE lE li be ab X) (aD (some (.int (nI 0))) (wM κ b (nI 1) un ss fi la da dg ps rn ks os ts fn fp bo eE lE li be ab X)) := by
  refine cm_entry (own := RX6) (L := [(0, .ref (b 0)), (1, .int x), (2, .int a1), (3, .int b1)]) (by decide +kernel) rfl (lv_entry [.ref (b 0), .int x, .int a1, .int b1] (n := 5) (Nat.le_of_ble_eq_true rfl)) (fun g C E => ?_)
  refine a_aloadn (pc := 0) C 0 rfl rfl dX6_date_0 ?_
  refine a_iconst (pc := 1) (v := nI 0) C ci_0 dX6_date_1 ?_
  refine a_put (pc := 2) (ws' := wM κ b (nI 0) un ss fi la da dg ps rn ks os ts fn fp bo eE lE li be ab X) C fl_X6_60 fp_X6_0 0 rfl rfl rfl (Nat.le_of_ble_eq_true rfl) rfl dX6_date_2 ?_
  refine a_aloadn (pc := 5) C 0 rfl rfl dX6_date_5 ?_
  refine a_iloadn (pc := 6) C 1 rfl rfl dX6_date_6 ?_
  refine a_callV1 (pc := 7) (k' := 0) (n' := 0) C (c_X6_isUnit κ b) yv_X6_isUnit ml_X6_107 wi_X6_isUnit wl_X6_isUnit 0 rfl rfl rfl rfl (Nat.le_of_ble_eq_true rfl) (Nat.le_of_ble_eq_true rfl) (Nat.le_of_ble_eq_true rfl) ⟨(Nat.le_of_ble_eq_true rfl), (Nat.le_of_ble_eq_true rfl)⟩ rfl rfl dX6_date_7 ?_
  refine a_ifb_ne_n (pc := 10) C (okU_nf (by omega) hb) dX6_date_10 ⟨19, by decide⟩ ?_
  refine a_aloadn (pc := 13) C 0 rfl rfl dX6_date_13 ?_
  refine a_iconst (pc := 14) (v := nI 1) C ci_1 dX6_date_14 ?_
  refine a_callV1 (pc := 15) (k' := 0) (n' := 0) C (c_X6_no κ b) yv_X6_no ml_X6_100 wi_X6_no wl_X6_no 0 rfl rfl rfl rfl (Nat.le_of_ble_eq_true rfl) (Nat.le_of_ble_eq_true rfl) (Nat.le_of_ble_eq_true rfl) ⟨(Nat.le_of_ble_eq_true rfl), (Nat.le_of_ble_eq_true rfl)⟩ rfl rfl dX6_date_15 ?_
  exact a_iret (pc := 18) C E (Nat.le_of_ble_eq_true rfl) (Nat.le_of_ble_eq_true rfl) ⟨rfl, rfl⟩ dX6_date_18

set_option maxHeartbeats 4000000 in
set_option maxRecDepth 100000 in
theorem c_X6_date_b2 (κ : aK) (b : Nat → Nat) {th : Int32} {un : Nat} {ss : Nat → Int32} {fi : Nat → Int32} {la : Nat → Int32} {da : Nat → Bool} {dg : Nat → Bool} {ps : Nat → Int32} {rn : Nat} {ks : Nat → Int32} {os : Nat → Nat} {ts : Nat → Nat} {fn : Nat} {fp : Nat → Int32} {bo : Nat → Nat} {eE : Nat → Nat → Bool} {lE : Nat → Nat → Bool} {li : Nat → Nat → Bool} {be : Nat → Int32} {ab : Nat → Int32} {X : va_W} {u : Nat} {a1 : Int32} {b1 : Int32} (hun : un ≤ 40) (hu : u < un) (hb : (yrB a1 && yrB b1) = false) : CM yX6_date cX6_date 5 (some .int) ({ frames := 2, cells := 0, slots := 0, locals := 43 } : Room) κ [.ref (b 0), .int (nI u), .int a1, .int b1] (wM κ b th un ss fi la da dg ps rn ks os ts fn fp bo eE lE li be ab X) (aD (some (.int (nI 0))) (wM κ b (nI 2) un ss fi la da dg ps rn ks os ts fn fp bo eE lE li be ab X)) := by
  refine cm_entry (own := RX6) (L := [(0, .ref (b 0)), (1, .int (nI u)), (2, .int a1), (3, .int b1)]) (by decide +kernel) rfl (lv_entry [.ref (b 0), .int (nI u), .int a1, .int b1] (n := 5) (Nat.le_of_ble_eq_true rfl)) (fun g C E => ?_)
  refine a_aloadn (pc := 0) C 0 rfl rfl dX6_date_0 ?_
  refine a_iconst (pc := 1) (v := nI 0) C ci_0 dX6_date_1 ?_
  refine a_put (pc := 2) (ws' := wM κ b (nI 0) un ss fi la da dg ps rn ks os ts fn fp bo eE lE li be ab X) C fl_X6_60 fp_X6_0 0 rfl rfl rfl (Nat.le_of_ble_eq_true rfl) rfl dX6_date_2 ?_
  refine a_aloadn (pc := 5) C 0 rfl rfl dX6_date_5 ?_
  refine a_iloadn (pc := 6) C 1 rfl rfl dX6_date_6 ?_
  refine a_callV1 (pc := 7) (k' := 0) (n' := 0) C (c_X6_isUnit κ b) yv_X6_isUnit ml_X6_107 wi_X6_isUnit wl_X6_isUnit 0 rfl rfl rfl rfl (Nat.le_of_ble_eq_true rfl) (Nat.le_of_ble_eq_true rfl) (Nat.le_of_ble_eq_true rfl) ⟨(Nat.le_of_ble_eq_true rfl), (Nat.le_of_ble_eq_true rfl)⟩ rfl rfl dX6_date_7 ?_
  refine a_ifb_ne_y (pc := 10) (tgt := 19) C ((okU_n (by omega)).mpr (okU_j hu)) (by decide) dX6_date_10 ?_
  refine a_iloadn (pc := 19) C 2 rfl rfl dX6_date_19 ?_
  refine a_sipush (pc := 20) (v := (-5000 : Int32)) C cs_m5000 dX6_date_20 ?_
  refine a_sipush (pc := 23) (v := nI 2000) C cs_2000 dX6_date_23 ?_
  refine a_callS1 (pc := 26) (k' := 0) (n' := 0) C (c_X6_isIn κ) yv_X6_isIn ml_X6_67 ws_X6_isIn rfl rfl (Nat.le_of_ble_eq_true rfl) (Nat.le_of_ble_eq_true rfl) (Nat.le_of_ble_eq_true rfl) ⟨(Nat.le_of_ble_eq_true rfl), (Nat.le_of_ble_eq_true rfl)⟩ rfl rfl dX6_date_26 ?_
  refine a_ifb_eq (pc := 29) (tgt := 45) C (by decide) dX6_date_29 (fun c1 => ?_) (fun c1 => ?_)
  · refine a_aloadn (pc := 45) C 0 rfl rfl dX6_date_45 ?_
    refine a_iconst (pc := 46) (v := nI 2) C ci_2 dX6_date_46 ?_
    refine a_callV1 (pc := 47) (k' := 0) (n' := 0) C (c_X6_no κ b) yv_X6_no ml_X6_100 wi_X6_no wl_X6_no 0 rfl rfl rfl rfl (Nat.le_of_ble_eq_true rfl) (Nat.le_of_ble_eq_true rfl) (Nat.le_of_ble_eq_true rfl) ⟨(Nat.le_of_ble_eq_true rfl), (Nat.le_of_ble_eq_true rfl)⟩ rfl rfl dX6_date_47 ?_
    exact a_iret (pc := 50) C E (Nat.le_of_ble_eq_true rfl) (Nat.le_of_ble_eq_true rfl) ⟨rfl, rfl⟩ dX6_date_50
  · refine a_iloadn (pc := 32) C 3 rfl rfl dX6_date_32 ?_
    refine a_sipush (pc := 33) (v := (-5000 : Int32)) C cs_m5000 dX6_date_33 ?_
    refine a_sipush (pc := 36) (v := nI 2000) C cs_2000 dX6_date_36 ?_
    refine a_callS1 (pc := 39) (k' := 0) (n' := 0) C (c_X6_isIn κ) yv_X6_isIn ml_X6_67 ws_X6_isIn rfl rfl (Nat.le_of_ble_eq_true rfl) (Nat.le_of_ble_eq_true rfl) (Nat.le_of_ble_eq_true rfl) ⟨(Nat.le_of_ble_eq_true rfl), (Nat.le_of_ble_eq_true rfl)⟩ rfl rfl dX6_date_39 ?_
    refine a_ifb_ne_n (pc := 42) C (by rw [show yrB a1 = true from c1] at hb; exact hb) dX6_date_42 ⟨51, by decide⟩ ?_
    refine a_aloadn (pc := 45) C 0 rfl rfl dX6_date_45 ?_
    refine a_iconst (pc := 46) (v := nI 2) C ci_2 dX6_date_46 ?_
    refine a_callV1 (pc := 47) (k' := 0) (n' := 0) C (c_X6_no κ b) yv_X6_no ml_X6_100 wi_X6_no wl_X6_no 0 rfl rfl rfl rfl (Nat.le_of_ble_eq_true rfl) (Nat.le_of_ble_eq_true rfl) (Nat.le_of_ble_eq_true rfl) ⟨(Nat.le_of_ble_eq_true rfl), (Nat.le_of_ble_eq_true rfl)⟩ rfl rfl dX6_date_47 ?_
    exact a_iret (pc := 50) C E (Nat.le_of_ble_eq_true rfl) (Nat.le_of_ble_eq_true rfl) ⟨rfl, rfl⟩ dX6_date_50

set_option maxHeartbeats 4000000 in
set_option maxRecDepth 100000 in
theorem c_X6_date (κ : aK) (b : Nat → Nat) {th : Int32} {un : Nat} {ss : Nat → Int32} {fi : Nat → Int32} {la : Nat → Int32} {da : Nat → Bool} {dg : Nat → Bool} {ps : Nat → Int32} {rn : Nat} {ks : Nat → Int32} {os : Nat → Nat} {ts : Nat → Nat} {fn : Nat} {fp : Nat → Int32} {bo : Nat → Nat} {eE : Nat → Nat → Bool} {lE : Nat → Nat → Bool} {li : Nat → Nat → Bool} {be : Nat → Int32} {ab : Nat → Int32} {X : va_W} {u : Nat} {a1 : Int32} {b1 : Int32} (hun : un ≤ 40) (hu : u < un) (h1 : yrB a1 = true) (h2 : yrB b1 = true) : CM yX6_date cX6_date 5 (some .int) ({ frames := 2, cells := 0, slots := 0, locals := 43 } : Room) κ [.ref (b 0), .int (nI u), .int a1, .int b1] (wM κ b th un ss fi la da dg ps rn ks os ts fn fp bo eE lE li be ab X) (aD (some (.int (b2i (da u)))) (wM κ b (nI 0) un ss (va_up fi u a1) (va_up la u b1) (va_up da u (decide (a1 ≤ b1))) dg ps rn ks os ts fn fp bo eE lE li be ab X)) := by
  refine cm_entry (own := RX6) (L := [(0, .ref (b 0)), (1, .int (nI u)), (2, .int a1), (3, .int b1)]) (by decide +kernel) rfl (lv_entry [.ref (b 0), .int (nI u), .int a1, .int b1] (n := 5) (Nat.le_of_ble_eq_true rfl)) (fun g C E => ?_)
  refine a_aloadn (pc := 0) C 0 rfl rfl dX6_date_0 ?_
  refine a_iconst (pc := 1) (v := nI 0) C ci_0 dX6_date_1 ?_
  refine a_put (pc := 2) (ws' := wM κ b (nI 0) un ss fi la da dg ps rn ks os ts fn fp bo eE lE li be ab X) C fl_X6_60 fp_X6_0 0 rfl rfl rfl (Nat.le_of_ble_eq_true rfl) rfl dX6_date_2 ?_
  refine a_aloadn (pc := 5) C 0 rfl rfl dX6_date_5 ?_
  refine a_iloadn (pc := 6) C 1 rfl rfl dX6_date_6 ?_
  refine a_callV1 (pc := 7) (k' := 0) (n' := 0) C (c_X6_isUnit κ b) yv_X6_isUnit ml_X6_107 wi_X6_isUnit wl_X6_isUnit 0 rfl rfl rfl rfl (Nat.le_of_ble_eq_true rfl) (Nat.le_of_ble_eq_true rfl) (Nat.le_of_ble_eq_true rfl) ⟨(Nat.le_of_ble_eq_true rfl), (Nat.le_of_ble_eq_true rfl)⟩ rfl rfl dX6_date_7 ?_
  refine a_ifb_ne_y (pc := 10) (tgt := 19) C ((okU_n (by omega)).mpr (okU_j hu)) (by decide) dX6_date_10 ?_
  refine a_iloadn (pc := 19) C 2 rfl rfl dX6_date_19 ?_
  refine a_sipush (pc := 20) (v := (-5000 : Int32)) C cs_m5000 dX6_date_20 ?_
  refine a_sipush (pc := 23) (v := nI 2000) C cs_2000 dX6_date_23 ?_
  refine a_callS1 (pc := 26) (k' := 0) (n' := 0) C (c_X6_isIn κ) yv_X6_isIn ml_X6_67 ws_X6_isIn rfl rfl (Nat.le_of_ble_eq_true rfl) (Nat.le_of_ble_eq_true rfl) (Nat.le_of_ble_eq_true rfl) ⟨(Nat.le_of_ble_eq_true rfl), (Nat.le_of_ble_eq_true rfl)⟩ rfl rfl dX6_date_26 ?_
  refine a_ifb_eq_n (pc := 29) C h1 dX6_date_29 ⟨45, by decide⟩ ?_
  refine a_iloadn (pc := 32) C 3 rfl rfl dX6_date_32 ?_
  refine a_sipush (pc := 33) (v := (-5000 : Int32)) C cs_m5000 dX6_date_33 ?_
  refine a_sipush (pc := 36) (v := nI 2000) C cs_2000 dX6_date_36 ?_
  refine a_callS1 (pc := 39) (k' := 0) (n' := 0) C (c_X6_isIn κ) yv_X6_isIn ml_X6_67 ws_X6_isIn rfl rfl (Nat.le_of_ble_eq_true rfl) (Nat.le_of_ble_eq_true rfl) (Nat.le_of_ble_eq_true rfl) ⟨(Nat.le_of_ble_eq_true rfl), (Nat.le_of_ble_eq_true rfl)⟩ rfl rfl dX6_date_39 ?_
  refine a_ifb_ne_y (pc := 42) (tgt := 51) C h2 (by decide) dX6_date_42 ?_
  refine a_aloadn (pc := 51) C 0 rfl rfl dX6_date_51 ?_
  refine a_get (pc := 52) C fl_X6_19 0 rfl rfl dX6_date_52 ?_
  refine a_iloadn (pc := 55) C 1 rfl rfl dX6_date_55 ?_
  refine a_zaldZ (pc := 56) C 4 rfl (by omega) (by decide) dX6_date_56 ?_
  refine a_ifb_eq (pc := 57) (tgt := 64) C (by decide) dX6_date_57 (fun c1 => ?_) (fun c1 => ?_)
  · refine a_iconst (pc := 64) (v := nI 0) C ci_0 dX6_date_64 ?_
    refine a_istore (pc := 65) (L' := [(0, .ref (b 0)), (1, .int (nI u)), (2, .int a1), (3, .int b1), (4, .int (nI 0))]) C (by decide) rfl dX6_date_65 ?_
    refine a_aloadn (pc := 67) C 0 rfl rfl dX6_date_67 ?_
    refine a_get (pc := 68) C fl_X6_19 0 rfl rfl dX6_date_68 ?_
    refine a_iloadn (pc := 71) C 1 rfl rfl dX6_date_71 ?_
    refine a_iloadn (pc := 72) C 2 rfl rfl dX6_date_72 ?_
    refine a_iloadn (pc := 73) C 3 rfl rfl dX6_date_73 ?_
    refine a_ic_gt (pc := 74) (tgt := 81) C (by decide) dX6_date_74 (fun c2 => ?_) (fun c2 => ?_)
    · refine a_iconst (pc := 81) (v := nI 0) C ci_0 dX6_date_81 ?_
      refine aw_st (st' := [.int (b2i false), .int (nI u), .ref (b 4)]) (by rw [b2i_f]) ?_
      refine a_zast (pc := 82) (ws' := wM κ b (nI 0) un ss fi la (va_up da u false) dg ps rn ks os ts fn fp bo eE lE li be ab X) C 4 rfl (by omega) (by decide) rfl dX6_date_82 ?_
      refine a_aloadn (pc := 83) C 0 rfl rfl dX6_date_83 ?_
      refine a_get (pc := 84) C fl_X6_13 0 rfl rfl dX6_date_84 ?_
      refine a_iloadn (pc := 87) C 1 rfl rfl dX6_date_87 ?_
      refine a_iloadn (pc := 88) C 2 rfl rfl dX6_date_88 ?_
      refine a_iast (pc := 89) (ws' := wM κ b (nI 0) un ss (va_up fi u a1) la (va_up da u false) dg ps rn ks os ts fn fp bo eE lE li be ab X) C 2 rfl (by omega) (by decide) rfl rfl dX6_date_89 ?_
      refine a_aloadn (pc := 90) C 0 rfl rfl dX6_date_90 ?_
      refine a_get (pc := 91) C fl_X6_16 0 rfl rfl dX6_date_91 ?_
      refine a_iloadn (pc := 94) C 1 rfl rfl dX6_date_94 ?_
      refine a_iloadn (pc := 95) C 3 rfl rfl dX6_date_95 ?_
      refine a_iast (pc := 96) (ws' := wM κ b (nI 0) un ss (va_up fi u a1) (va_up la u b1) (va_up da u false) dg ps rn ks os ts fn fp bo eE lE li be ab X) C 3 rfl (by omega) (by decide) rfl rfl dX6_date_96 ?_
      refine a_iload (pc := 97) C 4 rfl dX6_date_97 ?_
      refine aw_eq (congrArg (fun zz9 => wM κ b (nI 0) un ss (va_up fi u a1) (va_up la u b1) zz9 dg ps rn ks os ts fn fp bo eE lE li be ab X) (by rw [decide_eq_false (Int32.not_le.mpr c2)] : (va_up da u false) = (va_up da u (decide (a1 ≤ b1))))) ?_
      exact a_iret (pc := 99) C E (Nat.le_of_ble_eq_true rfl) (Nat.le_of_ble_eq_true rfl) ⟨by rw [c1]; rfl, rfl⟩ dX6_date_99
    · refine a_iconst (pc := 77) (v := nI 1) C ci_1 dX6_date_77 ?_
      refine a_goto (pc := 78) (tgt := 82) C (by decide) dX6_date_78 ?_
      refine aw_st (st' := [.int (b2i true), .int (nI u), .ref (b 4)]) (by rw [b2i_t]) ?_
      refine a_zast (pc := 82) (ws' := wM κ b (nI 0) un ss fi la (va_up da u true) dg ps rn ks os ts fn fp bo eE lE li be ab X) C 4 rfl (by omega) (by decide) rfl dX6_date_82 ?_
      refine a_aloadn (pc := 83) C 0 rfl rfl dX6_date_83 ?_
      refine a_get (pc := 84) C fl_X6_13 0 rfl rfl dX6_date_84 ?_
      refine a_iloadn (pc := 87) C 1 rfl rfl dX6_date_87 ?_
      refine a_iloadn (pc := 88) C 2 rfl rfl dX6_date_88 ?_
      refine a_iast (pc := 89) (ws' := wM κ b (nI 0) un ss (va_up fi u a1) la (va_up da u true) dg ps rn ks os ts fn fp bo eE lE li be ab X) C 2 rfl (by omega) (by decide) rfl rfl dX6_date_89 ?_
      refine a_aloadn (pc := 90) C 0 rfl rfl dX6_date_90 ?_
      refine a_get (pc := 91) C fl_X6_16 0 rfl rfl dX6_date_91 ?_
      refine a_iloadn (pc := 94) C 1 rfl rfl dX6_date_94 ?_
      refine a_iloadn (pc := 95) C 3 rfl rfl dX6_date_95 ?_
      refine a_iast (pc := 96) (ws' := wM κ b (nI 0) un ss (va_up fi u a1) (va_up la u b1) (va_up da u true) dg ps rn ks os ts fn fp bo eE lE li be ab X) C 3 rfl (by omega) (by decide) rfl rfl dX6_date_96 ?_
      refine a_iload (pc := 97) C 4 rfl dX6_date_97 ?_
      refine aw_eq (congrArg (fun zz9 => wM κ b (nI 0) un ss (va_up fi u a1) (va_up la u b1) zz9 dg ps rn ks os ts fn fp bo eE lE li be ab X) (by rw [decide_eq_true (Int32.not_lt.mp c2)] : (va_up da u true) = (va_up da u (decide (a1 ≤ b1))))) ?_
      exact a_iret (pc := 99) C E (Nat.le_of_ble_eq_true rfl) (Nat.le_of_ble_eq_true rfl) ⟨by rw [c1]; rfl, rfl⟩ dX6_date_99
  · refine a_iconst (pc := 60) (v := nI 1) C ci_1 dX6_date_60 ?_
    refine a_goto (pc := 61) (tgt := 65) C (by decide) dX6_date_61 ?_
    refine a_istore (pc := 65) (L' := [(0, .ref (b 0)), (1, .int (nI u)), (2, .int a1), (3, .int b1), (4, .int (nI 1))]) C (by decide) rfl dX6_date_65 ?_
    refine a_aloadn (pc := 67) C 0 rfl rfl dX6_date_67 ?_
    refine a_get (pc := 68) C fl_X6_19 0 rfl rfl dX6_date_68 ?_
    refine a_iloadn (pc := 71) C 1 rfl rfl dX6_date_71 ?_
    refine a_iloadn (pc := 72) C 2 rfl rfl dX6_date_72 ?_
    refine a_iloadn (pc := 73) C 3 rfl rfl dX6_date_73 ?_
    refine a_ic_gt (pc := 74) (tgt := 81) C (by decide) dX6_date_74 (fun c3 => ?_) (fun c3 => ?_)
    · refine a_iconst (pc := 81) (v := nI 0) C ci_0 dX6_date_81 ?_
      refine aw_st (st' := [.int (b2i false), .int (nI u), .ref (b 4)]) (by rw [b2i_f]) ?_
      refine a_zast (pc := 82) (ws' := wM κ b (nI 0) un ss fi la (va_up da u false) dg ps rn ks os ts fn fp bo eE lE li be ab X) C 4 rfl (by omega) (by decide) rfl dX6_date_82 ?_
      refine a_aloadn (pc := 83) C 0 rfl rfl dX6_date_83 ?_
      refine a_get (pc := 84) C fl_X6_13 0 rfl rfl dX6_date_84 ?_
      refine a_iloadn (pc := 87) C 1 rfl rfl dX6_date_87 ?_
      refine a_iloadn (pc := 88) C 2 rfl rfl dX6_date_88 ?_
      refine a_iast (pc := 89) (ws' := wM κ b (nI 0) un ss (va_up fi u a1) la (va_up da u false) dg ps rn ks os ts fn fp bo eE lE li be ab X) C 2 rfl (by omega) (by decide) rfl rfl dX6_date_89 ?_
      refine a_aloadn (pc := 90) C 0 rfl rfl dX6_date_90 ?_
      refine a_get (pc := 91) C fl_X6_16 0 rfl rfl dX6_date_91 ?_
      refine a_iloadn (pc := 94) C 1 rfl rfl dX6_date_94 ?_
      refine a_iloadn (pc := 95) C 3 rfl rfl dX6_date_95 ?_
      refine a_iast (pc := 96) (ws' := wM κ b (nI 0) un ss (va_up fi u a1) (va_up la u b1) (va_up da u false) dg ps rn ks os ts fn fp bo eE lE li be ab X) C 3 rfl (by omega) (by decide) rfl rfl dX6_date_96 ?_
      refine a_iload (pc := 97) C 4 rfl dX6_date_97 ?_
      refine aw_eq (congrArg (fun zz9 => wM κ b (nI 0) un ss (va_up fi u a1) (va_up la u b1) zz9 dg ps rn ks os ts fn fp bo eE lE li be ab X) (by rw [decide_eq_false (Int32.not_le.mpr c3)] : (va_up da u false) = (va_up da u (decide (a1 ≤ b1))))) ?_
      exact a_iret (pc := 99) C E (Nat.le_of_ble_eq_true rfl) (Nat.le_of_ble_eq_true rfl) ⟨by rw [c1]; rfl, rfl⟩ dX6_date_99
    · refine a_iconst (pc := 77) (v := nI 1) C ci_1 dX6_date_77 ?_
      refine a_goto (pc := 78) (tgt := 82) C (by decide) dX6_date_78 ?_
      refine aw_st (st' := [.int (b2i true), .int (nI u), .ref (b 4)]) (by rw [b2i_t]) ?_
      refine a_zast (pc := 82) (ws' := wM κ b (nI 0) un ss fi la (va_up da u true) dg ps rn ks os ts fn fp bo eE lE li be ab X) C 4 rfl (by omega) (by decide) rfl dX6_date_82 ?_
      refine a_aloadn (pc := 83) C 0 rfl rfl dX6_date_83 ?_
      refine a_get (pc := 84) C fl_X6_13 0 rfl rfl dX6_date_84 ?_
      refine a_iloadn (pc := 87) C 1 rfl rfl dX6_date_87 ?_
      refine a_iloadn (pc := 88) C 2 rfl rfl dX6_date_88 ?_
      refine a_iast (pc := 89) (ws' := wM κ b (nI 0) un ss (va_up fi u a1) la (va_up da u true) dg ps rn ks os ts fn fp bo eE lE li be ab X) C 2 rfl (by omega) (by decide) rfl rfl dX6_date_89 ?_
      refine a_aloadn (pc := 90) C 0 rfl rfl dX6_date_90 ?_
      refine a_get (pc := 91) C fl_X6_16 0 rfl rfl dX6_date_91 ?_
      refine a_iloadn (pc := 94) C 1 rfl rfl dX6_date_94 ?_
      refine a_iloadn (pc := 95) C 3 rfl rfl dX6_date_95 ?_
      refine a_iast (pc := 96) (ws' := wM κ b (nI 0) un ss (va_up fi u a1) (va_up la u b1) (va_up da u true) dg ps rn ks os ts fn fp bo eE lE li be ab X) C 3 rfl (by omega) (by decide) rfl rfl dX6_date_96 ?_
      refine a_iload (pc := 97) C 4 rfl dX6_date_97 ?_
      refine aw_eq (congrArg (fun zz9 => wM κ b (nI 0) un ss (va_up fi u a1) (va_up la u b1) zz9 dg ps rn ks os ts fn fp bo eE lE li be ab X) (by rw [decide_eq_true (Int32.not_lt.mp c3)] : (va_up da u true) = (va_up da u (decide (a1 ≤ b1))))) ?_
      exact a_iret (pc := 99) C E (Nat.le_of_ble_eq_true rfl) (Nat.le_of_ble_eq_true rfl) ⟨by rw [c1]; rfl, rfl⟩ dX6_date_99

set_option maxHeartbeats 4000000 in
set_option maxRecDepth 100000 in
theorem c_X6_bound_b1 (κ : aK) (b : Nat → Nat) {th : Int32} {un : Nat} {ss : Nat → Int32} {fi : Nat → Int32} {la : Nat → Int32} {da : Nat → Bool} {dg : Nat → Bool} {ps : Nat → Int32} {rn : Nat} {ks : Nat → Int32} {os : Nat → Nat} {ts : Nat → Nat} {fn : Nat} {fp : Nat → Int32} {bo : Nat → Nat} {eE : Nat → Nat → Bool} {lE : Nat → Nat → Bool} {li : Nat → Nat → Bool} {be : Nat → Int32} {ab : Nat → Int32} {X : va_W} {x : Int32} {isU : Bool} (hun : un ≤ 40) (hb : ¬ okU un x) : CM yX6_bound cX6_bound 3 (some .int) ({ frames := 2, cells := 0, slots := 0, locals := 49 } : Room) κ [.ref (b 0), .int x, .int (b2i isU)] (wM κ b th un ss fi la da dg ps rn ks os ts fn fp bo eE lE li be ab X) (aD (some (.int (nI 0))) (wM κ b (nI 1) un ss fi la da dg ps rn ks os ts fn fp bo eE lE li be ab X)) := by
  refine cm_entry (own := RX6) (L := [(0, .ref (b 0)), (1, .int x), (2, .int (b2i isU))]) (by decide +kernel) rfl (lv_entry [.ref (b 0), .int x, .int (b2i isU)] (n := 3) (Nat.le_of_ble_eq_true rfl)) (fun g C E => ?_)
  refine a_aloadn (pc := 0) C 0 rfl rfl dX6_bound_0 ?_
  refine a_iconst (pc := 1) (v := nI 0) C ci_0 dX6_bound_1 ?_
  refine a_put (pc := 2) (ws' := wM κ b (nI 0) un ss fi la da dg ps rn ks os ts fn fp bo eE lE li be ab X) C fl_X6_60 fp_X6_0 0 rfl rfl rfl (Nat.le_of_ble_eq_true rfl) rfl dX6_bound_2 ?_
  refine a_aloadn (pc := 5) C 0 rfl rfl dX6_bound_5 ?_
  refine a_iloadn (pc := 6) C 1 rfl rfl dX6_bound_6 ?_
  refine a_callV1 (pc := 7) (k' := 0) (n' := 0) C (c_X6_isUnit κ b) yv_X6_isUnit ml_X6_107 wi_X6_isUnit wl_X6_isUnit 0 rfl rfl rfl rfl (Nat.le_of_ble_eq_true rfl) (Nat.le_of_ble_eq_true rfl) (Nat.le_of_ble_eq_true rfl) ⟨(Nat.le_of_ble_eq_true rfl), (Nat.le_of_ble_eq_true rfl)⟩ rfl rfl dX6_bound_7 ?_
  refine a_ifb_eq_y (pc := 10) (tgt := 22) C (okU_nf (by omega) hb) (by decide) dX6_bound_10 ?_
  refine a_aloadn (pc := 22) C 0 rfl rfl dX6_bound_22 ?_
  refine a_iconst (pc := 23) (v := nI 1) C ci_1 dX6_bound_23 ?_
  refine a_callV1 (pc := 24) (k' := 0) (n' := 0) C (c_X6_no κ b) yv_X6_no ml_X6_100 wi_X6_no wl_X6_no 0 rfl rfl rfl rfl (Nat.le_of_ble_eq_true rfl) (Nat.le_of_ble_eq_true rfl) (Nat.le_of_ble_eq_true rfl) ⟨(Nat.le_of_ble_eq_true rfl), (Nat.le_of_ble_eq_true rfl)⟩ rfl rfl dX6_bound_24 ?_
  exact a_iret (pc := 27) C E (Nat.le_of_ble_eq_true rfl) (Nat.le_of_ble_eq_true rfl) ⟨rfl, rfl⟩ dX6_bound_27

set_option maxHeartbeats 4000000 in
set_option maxRecDepth 100000 in
theorem c_X6_bound (κ : aK) (b : Nat → Nat) {th : Int32} {un : Nat} {ss : Nat → Int32} {fi : Nat → Int32} {la : Nat → Int32} {da : Nat → Bool} {dg : Nat → Bool} {ps : Nat → Int32} {rn : Nat} {ks : Nat → Int32} {os : Nat → Nat} {ts : Nat → Nat} {fn : Nat} {fp : Nat → Int32} {bo : Nat → Nat} {eE : Nat → Nat → Bool} {lE : Nat → Nat → Bool} {li : Nat → Nat → Bool} {be : Nat → Int32} {ab : Nat → Int32} {X : va_W} {u : Nat} {isU : Bool} {fu : Nat → Nat} (hun : un ≤ 40) (hfn : fn ≤ 60) (hbo : ∀ u, bo u < 40) (hq : ∀ j, fp (7 * j) = nI (fu j)) (hfu : ∀ u, fu u < 40) (hu : u < un) : CM yX6_bound cX6_bound 3 (some .int) ({ frames := 2, cells := 0, slots := 0, locals := 49 } : Room) κ [.ref (b 0), .int (nI u), .int (b2i isU)] (wM κ b th un ss fi la da dg ps rn ks os ts fn fp bo eE lE li be ab X) (aD (some (.int (if isU = true then yUp bo lE da la un u else yLo bo eE da fi un fu fp fn u))) (wM κ b (nI 0) un ss fi la da dg ps rn ks os ts fn fp bo eE lE li be ab X)) := by
  refine cm_entry (own := RX6) (L := [(0, .ref (b 0)), (1, .int (nI u)), (2, .int (b2i isU))]) (by decide +kernel) rfl (lv_entry [.ref (b 0), .int (nI u), .int (b2i isU)] (n := 3) (Nat.le_of_ble_eq_true rfl)) (fun g C E => ?_)
  cases isU with
  | false =>
    refine a_aloadn (pc := 0) C 0 rfl rfl dX6_bound_0 ?_
    refine a_iconst (pc := 1) (v := nI 0) C ci_0 dX6_bound_1 ?_
    refine a_put (pc := 2) (ws' := wM κ b (nI 0) un ss fi la da dg ps rn ks os ts fn fp bo eE lE li be ab X) C fl_X6_60 fp_X6_0 0 rfl rfl rfl (Nat.le_of_ble_eq_true rfl) rfl dX6_bound_2 ?_
    refine a_aloadn (pc := 5) C 0 rfl rfl dX6_bound_5 ?_
    refine a_iloadn (pc := 6) C 1 rfl rfl dX6_bound_6 ?_
    refine a_callV1 (pc := 7) (k' := 0) (n' := 0) C (c_X6_isUnit κ b) yv_X6_isUnit ml_X6_107 wi_X6_isUnit wl_X6_isUnit 0 rfl rfl rfl rfl (Nat.le_of_ble_eq_true rfl) (Nat.le_of_ble_eq_true rfl) (Nat.le_of_ble_eq_true rfl) ⟨(Nat.le_of_ble_eq_true rfl), (Nat.le_of_ble_eq_true rfl)⟩ rfl rfl dX6_bound_7 ?_
    refine a_ifb_eq_n (pc := 10) C ((okU_n (by omega)).mpr (okU_j hu)) dX6_bound_10 ⟨22, by decide⟩ ?_
    refine a_aloadn (pc := 13) C 0 rfl rfl dX6_bound_13 ?_
    refine a_iloadn (pc := 14) C 1 rfl rfl dX6_bound_14 ?_
    refine a_iloadn (pc := 15) C 2 rfl rfl dX6_bound_15 ?_
    refine aw_st (st' := [.int (nI 0), .int (nI u), .ref (b 0)]) (by rw [b2i_f]) ?_
    refine a_callV1 (pc := 16) (k' := 0) (n' := 0) C (c_X6_year_lo κ b (by omega) (by omega) hbo (by assumption) hfu (by omega)) yv_X6_year ml_X6_123 wi_X6_year wl_X6_year 0 rfl rfl rfl rfl (Nat.le_of_ble_eq_true rfl) (Nat.le_of_ble_eq_true rfl) (Nat.le_of_ble_eq_true rfl) ⟨(Nat.le_of_ble_eq_true rfl), (Nat.le_of_ble_eq_true rfl)⟩ rfl rfl dX6_bound_16 ?_
    refine a_goto (pc := 19) (tgt := 27) C (by decide) dX6_bound_19 ?_
    exact a_iret (pc := 27) C E (Nat.le_of_ble_eq_true rfl) (Nat.le_of_ble_eq_true rfl) ⟨rfl, rfl⟩ dX6_bound_27
  | true =>
    refine a_aloadn (pc := 0) C 0 rfl rfl dX6_bound_0 ?_
    refine a_iconst (pc := 1) (v := nI 0) C ci_0 dX6_bound_1 ?_
    refine a_put (pc := 2) (ws' := wM κ b (nI 0) un ss fi la da dg ps rn ks os ts fn fp bo eE lE li be ab X) C fl_X6_60 fp_X6_0 0 rfl rfl rfl (Nat.le_of_ble_eq_true rfl) rfl dX6_bound_2 ?_
    refine a_aloadn (pc := 5) C 0 rfl rfl dX6_bound_5 ?_
    refine a_iloadn (pc := 6) C 1 rfl rfl dX6_bound_6 ?_
    refine a_callV1 (pc := 7) (k' := 0) (n' := 0) C (c_X6_isUnit κ b) yv_X6_isUnit ml_X6_107 wi_X6_isUnit wl_X6_isUnit 0 rfl rfl rfl rfl (Nat.le_of_ble_eq_true rfl) (Nat.le_of_ble_eq_true rfl) (Nat.le_of_ble_eq_true rfl) ⟨(Nat.le_of_ble_eq_true rfl), (Nat.le_of_ble_eq_true rfl)⟩ rfl rfl dX6_bound_7 ?_
    refine a_ifb_eq_n (pc := 10) C ((okU_n (by omega)).mpr (okU_j hu)) dX6_bound_10 ⟨22, by decide⟩ ?_
    refine a_aloadn (pc := 13) C 0 rfl rfl dX6_bound_13 ?_
    refine a_iloadn (pc := 14) C 1 rfl rfl dX6_bound_14 ?_
    refine a_iloadn (pc := 15) C 2 rfl rfl dX6_bound_15 ?_
    refine aw_st (st' := [.int (nI 1), .int (nI u), .ref (b 0)]) (by rw [b2i_t]) ?_
    refine a_callV1 (pc := 16) (k' := 0) (n' := 0) C (c_X6_year_up κ b (by omega) (by omega) hbo (by omega)) yv_X6_year ml_X6_123 wi_X6_year wl_X6_year 0 rfl rfl rfl rfl (Nat.le_of_ble_eq_true rfl) (Nat.le_of_ble_eq_true rfl) (Nat.le_of_ble_eq_true rfl) ⟨(Nat.le_of_ble_eq_true rfl), (Nat.le_of_ble_eq_true rfl)⟩ rfl rfl dX6_bound_16 ?_
    refine a_goto (pc := 19) (tgt := 27) C (by decide) dX6_bound_19 ?_
    exact a_iret (pc := 27) C E (Nat.le_of_ble_eq_true rfl) (Nat.le_of_ble_eq_true rfl) ⟨rfl, rfl⟩ dX6_bound_27

set_option maxHeartbeats 4000000 in
set_option maxRecDepth 100000 in
theorem c_X6_doubt (κ : aK) (b : Nat → Nat) {th : Int32} {un : Nat} {ss : Nat → Int32} {fi : Nat → Int32} {la : Nat → Int32} {da : Nat → Bool} {dg : Nat → Bool} {ps : Nat → Int32} {rn : Nat} {ks : Nat → Int32} {os : Nat → Nat} {ts : Nat → Nat} {fn : Nat} {fp : Nat → Int32} {bo : Nat → Nat} {eE : Nat → Nat → Bool} {lE : Nat → Nat → Bool} {li : Nat → Nat → Bool} {be : Nat → Int32} {ab : Nat → Int32} {X : va_W} {y : Nat} {fu : Nat → Nat} (hun : un ≤ 40) (hfn : fn ≤ 60) (hbo : ∀ u, bo u < 40) (hq : ∀ j, fp (7 * j) = nI (fu j)) (hfu : ∀ u, fu u < 40) (hy : y < 40) : CM yX6_doubt cX6_doubt 4 (some .int) ({ frames := 3, cells := 0, slots := 0, locals := 70 } : Room) κ [.ref (b 0), .int (nI y)] (wM κ b th un ss fi la da dg ps rn ks os ts fn fp bo eE lE li be ab X) (aD (some (.int (oI (elA (fun v => isB bo v && yDb bo eE lE da fi la un fu fp fn v) y un)))) (wM κ b (nI 0) un ss fi la da dg ps rn ks os ts fn fp bo eE lE li be ab X)) := by
  refine cm_entry (own := RX6) (L := [(0, .ref (b 0)), (1, .int (nI y))]) (by decide +kernel) rfl (lv_entry [.ref (b 0), .int (nI y)] (n := 4) (Nat.le_of_ble_eq_true rfl)) (fun g C E => ?_)
  refine a_aloadn (pc := 0) C 0 rfl rfl dX6_doubt_0 ?_
  refine a_iconst (pc := 1) (v := nI 0) C ci_0 dX6_doubt_1 ?_
  refine a_put (pc := 2) (ws' := wM κ b (nI 0) un ss fi la da dg ps rn ks os ts fn fp bo eE lE li be ab X) C fl_X6_60 fp_X6_0 0 rfl rfl rfl (Nat.le_of_ble_eq_true rfl) rfl dX6_doubt_2 ?_
  refine a_iloadn (pc := 5) C 1 rfl rfl dX6_doubt_5 ?_
  refine a_iconst (pc := 6) (v := nI 0) C ci_0 dX6_doubt_6 ?_
  refine a_bipush (pc := 7) (v := nI 39) C cb_39 dX6_doubt_7 ?_
  refine a_callS1 (pc := 9) (k' := 0) (n' := 0) C (c_X6_isIn κ) yv_X6_isIn ml_X6_67 ws_X6_isIn rfl rfl (Nat.le_of_ble_eq_true rfl) (Nat.le_of_ble_eq_true rfl) (Nat.le_of_ble_eq_true rfl) ⟨(Nat.le_of_ble_eq_true rfl), (Nat.le_of_ble_eq_true rfl)⟩ rfl rfl dX6_doubt_9 ?_
  refine a_ifb_ne_y (pc := 12) (tgt := 21) C ((okU_c (by omega)).mpr (okU_j hy)) (by decide) dX6_doubt_12 ?_
  refine a_iloadn (pc := 21) C 1 rfl rfl dX6_doubt_21 ?_
  refine a_istoren (pc := 22) (L' := [(0, .ref (b 0)), (1, .int (nI y)), (2, .int (nI y))]) C (by decide) rfl rfl dX6_doubt_22 ?_
  refine a_iconst (pc := 23) (v := nI 0) C ci_0 dX6_doubt_23 ?_
  refine a_istoren (pc := 24) (L' := [(0, .ref (b 0)), (1, .int (nI y)), (2, .int (nI y)), (3, .int (nI 0))]) C (by decide) rfl rfl dX6_doubt_24 ?_
  have LP25 : ∀ (jz k : Nat), k + jz = un → (fst1 (fun k => (fun v => isB bo v && yDb bo eE lE da fi la un fu fp fn v) k && decide (cnt (fun v => isB bo v && yDb bo eE lE da fi la un fu fp fn v) k = y)) k = none) → (cnt (fun v => isB bo v && yDb bo eE lE da fi la un fu fp fn v) k ≤ y) → aw g κ 4 25 [(0, .ref (b 0)), (1, .int (nI y)), (2, .int (nI (y - cnt (fun v => isB bo v && yDb bo eE lE da fi la un fu fp fn v) k))), (3, .int (nI k))] [] (wM κ b (nI 0) un ss fi la da dg ps rn ks os ts fn fp bo eE lE li be ab X) 0 0 := by
    intro jz
    induction jz with
    | zero =>
      intro k hk_k hno hle
      obtain rfl : un = k := by omega
      refine a_iloadn (pc := 25) C 3 rfl rfl dX6_doubt_25 ?_
      refine a_aloadn (pc := 26) C 0 rfl rfl dX6_doubt_26 ?_
      refine a_get (pc := 27) C fl_X6_64 0 rfl rfl dX6_doubt_27 ?_
      refine a_icn_ge_y (pc := 30) (tgt := 67) C (by omega) (by omega) (by omega) (by decide) dX6_doubt_30 ?_
      refine a_iconst (pc := 67) (v := (-1 : Int32)) C ci_m1 dX6_doubt_67 ?_
      exact a_iret (pc := 68) C E (Nat.le_of_ble_eq_true rfl) (Nat.le_of_ble_eq_true rfl) ⟨(congrArg (fun o => some (Value.int (oI o))) (show elA (fun v => isB bo v && yDb bo eE lE da fi la un fu fp fn v) y un = none from hno)).symm, rfl⟩ dX6_doubt_68
    | succ jz ih =>
      intro k hk_k hno hle
      have hlt_k : k < un := by omega
      refine a_iloadn (pc := 25) C 3 rfl rfl dX6_doubt_25 ?_
      refine a_aloadn (pc := 26) C 0 rfl rfl dX6_doubt_26 ?_
      refine a_get (pc := 27) C fl_X6_64 0 rfl rfl dX6_doubt_27 ?_
      refine a_icn_ge_n (pc := 30) C (by omega) (by omega) (by omega) dX6_doubt_30 ⟨67, by decide⟩ ?_
      refine a_aloadn (pc := 33) C 0 rfl rfl dX6_doubt_33 ?_
      refine a_iloadn (pc := 34) C 3 rfl rfl dX6_doubt_34 ?_
      refine a_callV1 (pc := 35) (k' := 0) (n' := 0) C (c_X6_isBody κ b (by omega) hbo) yv_X6_isBody ml_X6_127 wi_X6_isBody wl_X6_isBody 0 rfl rfl rfl rfl (Nat.le_of_ble_eq_true rfl) (Nat.le_of_ble_eq_true rfl) (Nat.le_of_ble_eq_true rfl) ⟨(Nat.le_of_ble_eq_true rfl), (Nat.le_of_ble_eq_true rfl)⟩ rfl rfl dX6_doubt_35 ?_
      refine a_ifb_eq (pc := 38) (tgt := 61) C (by decide) dX6_doubt_38 (fun c1 => ?_) (fun c1 => ?_)
      · refine a_iinc (pc := 61) (v := nI (k + 1)) (L' := [(0, .ref (b 0)), (1, .int (nI y)), (2, .int (nI (y - cnt (fun v => isB bo v && yDb bo eE lE da fi la un fu fp fn v) k))), (3, .int (nI (k + 1)))]) C 3 rfl (nI_inc _) (by decide) rfl dX6_doubt_61 ?_
        refine a_goto (pc := 64) (tgt := 25) C (by decide) dX6_doubt_64 ?_
        refine aw_L (L' := [(0, .ref (b 0)), (1, .int (nI y)), (2, .int (nI (y - cnt (fun v => isB bo v && yDb bo eE lE da fi la un fu fp fn v) (k + 1)))), (3, .int (nI (k + 1)))]) (congrArg (fun zz9 => ([(0, .ref (b 0)), (1, .int (nI y)), (2, .int zz9), (3, .int (nI (k + 1)))] : List (Nat × Value))) (by rw [cnt_n (and_ff c1)] : (nI (y - cnt (fun v => isB bo v && yDb bo eE lE da fi la un fu fp fn v) k)) = (nI (y - cnt (fun v => isB bo v && yDb bo eE lE da fi la un fu fp fn v) (k + 1))))) ?_
        exact ih (k + 1) (by omega) (fst1_mis hno (and_ff (and_ff c1))) (by rw [cnt_n (and_ff c1)]; exact hle)
      · refine a_aloadn (pc := 41) C 0 rfl rfl dX6_doubt_41 ?_
        refine a_iloadn (pc := 42) C 3 rfl rfl dX6_doubt_42 ?_
        refine a_callV1 (pc := 43) (k' := 0) (n' := 0) C (c_X6_isInDoubt κ b (by omega) (by omega) hbo (by assumption) hfu (by omega)) yv_X6_isInDoubt ml_X6_136 wi_X6_isInDoubt wl_X6_isInDoubt 0 rfl rfl rfl rfl (Nat.le_of_ble_eq_true rfl) (Nat.le_of_ble_eq_true rfl) (Nat.le_of_ble_eq_true rfl) ⟨(Nat.le_of_ble_eq_true rfl), (Nat.le_of_ble_eq_true rfl)⟩ rfl rfl dX6_doubt_43 ?_
        refine a_ifb_ne (pc := 46) (tgt := 52) C (by decide) dX6_doubt_46 (fun c2 => ?_) (fun c2 => ?_)
        · refine a_iloadn (pc := 52) C 2 rfl rfl dX6_doubt_52 ?_
          refine a_ifn_ne (pc := 53) (tgt := 58) C (by omega) (by decide) dX6_doubt_53 (fun c3 => ?_) (fun c3 => ?_)
          · refine a_iinc (pc := 58) (v := nI ((y - cnt (fun v => isB bo v && yDb bo eE lE da fi la un fu fp fn v) k) - 1)) (L' := [(0, .ref (b 0)), (1, .int (nI y)), (2, .int (nI ((y - cnt (fun v => isB bo v && yDb bo eE lE da fi la un fu fp fn v) k) - 1))), (3, .int (nI k))]) C 2 rfl (nI_dec1 (by omega)) (by decide) rfl dX6_doubt_58 ?_
            refine a_iinc (pc := 61) (v := nI (k + 1)) (L' := [(0, .ref (b 0)), (1, .int (nI y)), (2, .int (nI ((y - cnt (fun v => isB bo v && yDb bo eE lE da fi la un fu fp fn v) k) - 1))), (3, .int (nI (k + 1)))]) C 3 rfl (nI_inc _) (by decide) rfl dX6_doubt_61 ?_
            refine a_goto (pc := 64) (tgt := 25) C (by decide) dX6_doubt_64 ?_
            refine aw_L (L' := [(0, .ref (b 0)), (1, .int (nI y)), (2, .int (nI (y - cnt (fun v => isB bo v && yDb bo eE lE da fi la un fu fp fn v) (k + 1)))), (3, .int (nI (k + 1)))]) (congrArg (fun zz9 => ([(0, .ref (b 0)), (1, .int (nI y)), (2, .int zz9), (3, .int (nI (k + 1)))] : List (Nat × Value))) (congrArg nI (by rw [cnt_y (and_tt c1 c2)]; omega) : (nI ((y - cnt (fun v => isB bo v && yDb bo eE lE da fi la un fu fp fn v) k) - 1)) = (nI (y - cnt (fun v => isB bo v && yDb bo eE lE da fi la un fu fp fn v) (k + 1))))) ?_
            exact ih (k + 1) (by omega) (fst1_mis hno (and_tf (and_tt c1 c2) (decide_eq_false (by omega)))) (by rw [cnt_y (and_tt c1 c2)]; omega)
          · refine a_iloadn (pc := 56) C 3 rfl rfl dX6_doubt_56 ?_
            exact a_iret (pc := 57) C E (Nat.le_of_ble_eq_true rfl) (Nat.le_of_ble_eq_true rfl) ⟨(congrArg (fun o => some (Value.int (oI o))) (show elA (fun v => isB bo v && yDb bo eE lE da fi la un fu fp fn v) y un = some k from fst1_at hlt_k hno (and_tt (and_tt c1 c2) (decide_eq_true (by omega))))).symm, rfl⟩ dX6_doubt_57
        · refine a_goto (pc := 49) (tgt := 61) C (by decide) dX6_doubt_49 ?_
          refine a_iinc (pc := 61) (v := nI (k + 1)) (L' := [(0, .ref (b 0)), (1, .int (nI y)), (2, .int (nI (y - cnt (fun v => isB bo v && yDb bo eE lE da fi la un fu fp fn v) k))), (3, .int (nI (k + 1)))]) C 3 rfl (nI_inc _) (by decide) rfl dX6_doubt_61 ?_
          refine a_goto (pc := 64) (tgt := 25) C (by decide) dX6_doubt_64 ?_
          refine aw_L (L' := [(0, .ref (b 0)), (1, .int (nI y)), (2, .int (nI (y - cnt (fun v => isB bo v && yDb bo eE lE da fi la un fu fp fn v) (k + 1)))), (3, .int (nI (k + 1)))]) (congrArg (fun zz9 => ([(0, .ref (b 0)), (1, .int (nI y)), (2, .int zz9), (3, .int (nI (k + 1)))] : List (Nat × Value))) (by rw [cnt_n (and_tf c1 c2)] : (nI (y - cnt (fun v => isB bo v && yDb bo eE lE da fi la un fu fp fn v) k)) = (nI (y - cnt (fun v => isB bo v && yDb bo eE lE da fi la un fu fp fn v) (k + 1))))) ?_
          exact ih (k + 1) (by omega) (fst1_mis hno (and_ff (and_tf c1 c2))) (by rw [cnt_n (and_tf c1 c2)]; exact hle)
  refine aw_L (L' := [(0, .ref (b 0)), (1, .int (nI y)), (2, .int (nI (y - cnt (fun v => isB bo v && yDb bo eE lE da fi la un fu fp fn v) 0))), (3, .int (nI 0))]) (congrArg (fun zz9 => ([(0, .ref (b 0)), (1, .int (nI y)), (2, .int zz9), (3, .int (nI 0))] : List (Nat × Value))) (rfl : (nI y) = (nI (y - cnt (fun v => isB bo v && yDb bo eE lE da fi la un fu fp fn v) 0)))) ?_
  exact LP25 (un) (0) (by omega) rfl (Nat.zero_le _)

set_option maxHeartbeats 4000000 in
set_option maxRecDepth 100000 in
theorem c_X6_next (κ : aK) (b : Nat → Nat) {th : Int32} {un : Nat} {ss : Nat → Int32} {fi : Nat → Int32} {la : Nat → Int32} {da : Nat → Bool} {dg : Nat → Bool} {ps : Nat → Int32} {rn : Nat} {ks : Nat → Int32} {os : Nat → Nat} {ts : Nat → Nat} {fn : Nat} {fp : Nat → Int32} {bo : Nat → Nat} {eE : Nat → Nat → Bool} {lE : Nat → Nat → Bool} {li : Nat → Nat → Bool} {be : Nat → Int32} {ab : Nat → Int32} {X : va_W} {y : Nat} (hun : un ≤ 40) (hbo : ∀ u, bo u < 40) (hy : y < 40) : CM yX6_next cX6_next 4 (some .int) ({ frames := 2, cells := 0, slots := 0, locals := 44 } : Room) κ [.ref (b 0), .int (nI y)] (wM κ b th un ss fi la da dg ps rn ks os ts fn fp bo eE lE li be ab X) (aD (some (.int (oI (elA (cgB un bo lE dg) y un)))) (wM κ b (nI 0) un ss fi la da dg ps rn ks os ts fn fp bo eE lE li be ab X)) := by
  refine cm_entry (own := RX6) (L := [(0, .ref (b 0)), (1, .int (nI y))]) (by decide +kernel) rfl (lv_entry [.ref (b 0), .int (nI y)] (n := 4) (Nat.le_of_ble_eq_true rfl)) (fun g C E => ?_)
  refine a_aloadn (pc := 0) C 0 rfl rfl dX6_next_0 ?_
  refine a_iconst (pc := 1) (v := nI 0) C ci_0 dX6_next_1 ?_
  refine a_put (pc := 2) (ws' := wM κ b (nI 0) un ss fi la da dg ps rn ks os ts fn fp bo eE lE li be ab X) C fl_X6_60 fp_X6_0 0 rfl rfl rfl (Nat.le_of_ble_eq_true rfl) rfl dX6_next_2 ?_
  refine a_iloadn (pc := 5) C 1 rfl rfl dX6_next_5 ?_
  refine a_iconst (pc := 6) (v := nI 0) C ci_0 dX6_next_6 ?_
  refine a_bipush (pc := 7) (v := nI 39) C cb_39 dX6_next_7 ?_
  refine a_callS1 (pc := 9) (k' := 0) (n' := 0) C (c_X6_isIn κ) yv_X6_isIn ml_X6_67 ws_X6_isIn rfl rfl (Nat.le_of_ble_eq_true rfl) (Nat.le_of_ble_eq_true rfl) (Nat.le_of_ble_eq_true rfl) ⟨(Nat.le_of_ble_eq_true rfl), (Nat.le_of_ble_eq_true rfl)⟩ rfl rfl dX6_next_9 ?_
  refine a_ifb_ne_y (pc := 12) (tgt := 21) C ((okU_c (by omega)).mpr (okU_j hy)) (by decide) dX6_next_12 ?_
  refine a_iloadn (pc := 21) C 1 rfl rfl dX6_next_21 ?_
  refine a_istoren (pc := 22) (L' := [(0, .ref (b 0)), (1, .int (nI y)), (2, .int (nI y))]) C (by decide) rfl rfl dX6_next_22 ?_
  refine a_iconst (pc := 23) (v := nI 0) C ci_0 dX6_next_23 ?_
  refine a_istoren (pc := 24) (L' := [(0, .ref (b 0)), (1, .int (nI y)), (2, .int (nI y)), (3, .int (nI 0))]) C (by decide) rfl rfl dX6_next_24 ?_
  have LP25 : ∀ (jz k : Nat), k + jz = un → (fst1 (fun k => (cgB un bo lE dg) k && decide (cnt (cgB un bo lE dg) k = y)) k = none) → (cnt (cgB un bo lE dg) k ≤ y) → aw g κ 4 25 [(0, .ref (b 0)), (1, .int (nI y)), (2, .int (nI (y - cnt (cgB un bo lE dg) k))), (3, .int (nI k))] [] (wM κ b (nI 0) un ss fi la da dg ps rn ks os ts fn fp bo eE lE li be ab X) 0 0 := by
    intro jz
    induction jz with
    | zero =>
      intro k hk_k hno hle
      obtain rfl : un = k := by omega
      refine a_iloadn (pc := 25) C 3 rfl rfl dX6_next_25 ?_
      refine a_aloadn (pc := 26) C 0 rfl rfl dX6_next_26 ?_
      refine a_get (pc := 27) C fl_X6_64 0 rfl rfl dX6_next_27 ?_
      refine a_icn_ge_y (pc := 30) (tgt := 59) C (by omega) (by omega) (by omega) (by decide) dX6_next_30 ?_
      refine a_iconst (pc := 59) (v := (-1 : Int32)) C ci_m1 dX6_next_59 ?_
      exact a_iret (pc := 60) C E (Nat.le_of_ble_eq_true rfl) (Nat.le_of_ble_eq_true rfl) ⟨(congrArg (fun o => some (Value.int (oI o))) (show elA (cgB un bo lE dg) y un = none from hno)).symm, rfl⟩ dX6_next_60
    | succ jz ih =>
      intro k hk_k hno hle
      have hlt_k : k < un := by omega
      refine a_iloadn (pc := 25) C 3 rfl rfl dX6_next_25 ?_
      refine a_aloadn (pc := 26) C 0 rfl rfl dX6_next_26 ?_
      refine a_get (pc := 27) C fl_X6_64 0 rfl rfl dX6_next_27 ?_
      refine a_icn_ge_n (pc := 30) C (by omega) (by omega) (by omega) dX6_next_30 ⟨59, by decide⟩ ?_
      refine a_aloadn (pc := 33) C 0 rfl rfl dX6_next_33 ?_
      refine a_iloadn (pc := 34) C 3 rfl rfl dX6_next_34 ?_
      refine a_callV1 (pc := 35) (k' := 0) (n' := 0) C (c_X6_canDig κ b (by omega) hbo (by omega)) yv_X6_canDig ml_X6_193 wi_X6_canDig wl_X6_canDig 0 rfl rfl rfl rfl (Nat.le_of_ble_eq_true rfl) (Nat.le_of_ble_eq_true rfl) (Nat.le_of_ble_eq_true rfl) ⟨(Nat.le_of_ble_eq_true rfl), (Nat.le_of_ble_eq_true rfl)⟩ rfl rfl dX6_next_35 ?_
      refine a_ifb_ne (pc := 38) (tgt := 44) C (by decide) dX6_next_38 (fun c1 => ?_) (fun c1 => ?_)
      · refine a_iloadn (pc := 44) C 2 rfl rfl dX6_next_44 ?_
        refine a_ifn_ne (pc := 45) (tgt := 50) C (by omega) (by decide) dX6_next_45 (fun c2 => ?_) (fun c2 => ?_)
        · refine a_iinc (pc := 50) (v := nI ((y - cnt (cgB un bo lE dg) k) - 1)) (L' := [(0, .ref (b 0)), (1, .int (nI y)), (2, .int (nI ((y - cnt (cgB un bo lE dg) k) - 1))), (3, .int (nI k))]) C 2 rfl (nI_dec1 (by omega)) (by decide) rfl dX6_next_50 ?_
          refine a_iinc (pc := 53) (v := nI (k + 1)) (L' := [(0, .ref (b 0)), (1, .int (nI y)), (2, .int (nI ((y - cnt (cgB un bo lE dg) k) - 1))), (3, .int (nI (k + 1)))]) C 3 rfl (nI_inc _) (by decide) rfl dX6_next_53 ?_
          refine a_goto (pc := 56) (tgt := 25) C (by decide) dX6_next_56 ?_
          refine aw_L (L' := [(0, .ref (b 0)), (1, .int (nI y)), (2, .int (nI (y - cnt (cgB un bo lE dg) (k + 1)))), (3, .int (nI (k + 1)))]) (congrArg (fun zz9 => ([(0, .ref (b 0)), (1, .int (nI y)), (2, .int zz9), (3, .int (nI (k + 1)))] : List (Nat × Value))) (congrArg nI (by rw [cnt_y c1]; omega) : (nI ((y - cnt (cgB un bo lE dg) k) - 1)) = (nI (y - cnt (cgB un bo lE dg) (k + 1))))) ?_
          exact ih (k + 1) (by omega) (fst1_mis hno (and_tf c1 (decide_eq_false (by omega)))) (by rw [cnt_y c1]; omega)
        · refine a_iloadn (pc := 48) C 3 rfl rfl dX6_next_48 ?_
          exact a_iret (pc := 49) C E (Nat.le_of_ble_eq_true rfl) (Nat.le_of_ble_eq_true rfl) ⟨(congrArg (fun o => some (Value.int (oI o))) (show elA (cgB un bo lE dg) y un = some k from fst1_at hlt_k hno (and_tt c1 (decide_eq_true (by omega))))).symm, rfl⟩ dX6_next_49
      · refine a_goto (pc := 41) (tgt := 53) C (by decide) dX6_next_41 ?_
        refine a_iinc (pc := 53) (v := nI (k + 1)) (L' := [(0, .ref (b 0)), (1, .int (nI y)), (2, .int (nI (y - cnt (cgB un bo lE dg) k))), (3, .int (nI (k + 1)))]) C 3 rfl (nI_inc _) (by decide) rfl dX6_next_53 ?_
        refine a_goto (pc := 56) (tgt := 25) C (by decide) dX6_next_56 ?_
        refine aw_L (L' := [(0, .ref (b 0)), (1, .int (nI y)), (2, .int (nI (y - cnt (cgB un bo lE dg) (k + 1)))), (3, .int (nI (k + 1)))]) (congrArg (fun zz9 => ([(0, .ref (b 0)), (1, .int (nI y)), (2, .int zz9), (3, .int (nI (k + 1)))] : List (Nat × Value))) (by rw [cnt_n c1] : (nI (y - cnt (cgB un bo lE dg) k)) = (nI (y - cnt (cgB un bo lE dg) (k + 1))))) ?_
        exact ih (k + 1) (by omega) (fst1_mis hno (and_ff c1)) (by rw [cnt_n c1]; exact hle)
  refine aw_L (L' := [(0, .ref (b 0)), (1, .int (nI y)), (2, .int (nI (y - cnt (cgB un bo lE dg) 0))), (3, .int (nI 0))]) (congrArg (fun zz9 => ([(0, .ref (b 0)), (1, .int (nI y)), (2, .int zz9), (3, .int (nI 0))] : List (Nat × Value))) (rfl : (nI y) = (nI (y - cnt (cgB un bo lE dg) 0)))) ?_
  exact LP25 (un) (0) (by omega) rfl (Nat.zero_le _)

set_option maxHeartbeats 4000000 in
set_option maxRecDepth 100000 in
theorem c_X6_doubt_b1 (κ : aK) (b : Nat → Nat) {th : Int32} {un : Nat} {ss : Nat → Int32} {fi : Nat → Int32} {la : Nat → Int32} {da : Nat → Bool} {dg : Nat → Bool} {ps : Nat → Int32} {rn : Nat} {ks : Nat → Int32} {os : Nat → Nat} {ts : Nat → Nat} {fn : Nat} {fp : Nat → Int32} {bo : Nat → Nat} {eE : Nat → Nat → Bool} {lE : Nat → Nat → Bool} {li : Nat → Nat → Bool} {be : Nat → Int32} {ab : Nat → Int32} {X : va_W} {x : Int32} (hb : ¬ okU 40 x) : CM yX6_doubt cX6_doubt 4 (some .int) ({ frames := 3, cells := 0, slots := 0, locals := 70 } : Room) κ [.ref (b 0), .int x] (wM κ b th un ss fi la da dg ps rn ks os ts fn fp bo eE lE li be ab X) (aD (some (.int (nI 0))) (wM κ b (nI 1) un ss fi la da dg ps rn ks os ts fn fp bo eE lE li be ab X)) := by
  refine cm_entry (own := RX6) (L := [(0, .ref (b 0)), (1, .int x)]) (by decide +kernel) rfl (lv_entry [.ref (b 0), .int x] (n := 4) (Nat.le_of_ble_eq_true rfl)) (fun g C E => ?_)
  refine a_aloadn (pc := 0) C 0 rfl rfl dX6_doubt_0 ?_
  refine a_iconst (pc := 1) (v := nI 0) C ci_0 dX6_doubt_1 ?_
  refine a_put (pc := 2) (ws' := wM κ b (nI 0) un ss fi la da dg ps rn ks os ts fn fp bo eE lE li be ab X) C fl_X6_60 fp_X6_0 0 rfl rfl rfl (Nat.le_of_ble_eq_true rfl) rfl dX6_doubt_2 ?_
  refine a_iloadn (pc := 5) C 1 rfl rfl dX6_doubt_5 ?_
  refine a_iconst (pc := 6) (v := nI 0) C ci_0 dX6_doubt_6 ?_
  refine a_bipush (pc := 7) (v := nI 39) C cb_39 dX6_doubt_7 ?_
  refine a_callS1 (pc := 9) (k' := 0) (n' := 0) C (c_X6_isIn κ) yv_X6_isIn ml_X6_67 ws_X6_isIn rfl rfl (Nat.le_of_ble_eq_true rfl) (Nat.le_of_ble_eq_true rfl) (Nat.le_of_ble_eq_true rfl) ⟨(Nat.le_of_ble_eq_true rfl), (Nat.le_of_ble_eq_true rfl)⟩ rfl rfl dX6_doubt_9 ?_
  refine a_ifb_ne_n (pc := 12) C (okU_cf (by omega) hb) dX6_doubt_12 ⟨21, by decide⟩ ?_
  refine a_aloadn (pc := 15) C 0 rfl rfl dX6_doubt_15 ?_
  refine a_iconst (pc := 16) (v := nI 1) C ci_1 dX6_doubt_16 ?_
  refine a_callV1 (pc := 17) (k' := 0) (n' := 0) C (c_X6_no κ b) yv_X6_no ml_X6_100 wi_X6_no wl_X6_no 0 rfl rfl rfl rfl (Nat.le_of_ble_eq_true rfl) (Nat.le_of_ble_eq_true rfl) (Nat.le_of_ble_eq_true rfl) ⟨(Nat.le_of_ble_eq_true rfl), (Nat.le_of_ble_eq_true rfl)⟩ rfl rfl dX6_doubt_17 ?_
  exact a_iret (pc := 20) C E (Nat.le_of_ble_eq_true rfl) (Nat.le_of_ble_eq_true rfl) ⟨rfl, rfl⟩ dX6_doubt_20

set_option maxHeartbeats 4000000 in
set_option maxRecDepth 100000 in
theorem c_X6_next_b1 (κ : aK) (b : Nat → Nat) {th : Int32} {un : Nat} {ss : Nat → Int32} {fi : Nat → Int32} {la : Nat → Int32} {da : Nat → Bool} {dg : Nat → Bool} {ps : Nat → Int32} {rn : Nat} {ks : Nat → Int32} {os : Nat → Nat} {ts : Nat → Nat} {fn : Nat} {fp : Nat → Int32} {bo : Nat → Nat} {eE : Nat → Nat → Bool} {lE : Nat → Nat → Bool} {li : Nat → Nat → Bool} {be : Nat → Int32} {ab : Nat → Int32} {X : va_W} {x : Int32} (hb : ¬ okU 40 x) : CM yX6_next cX6_next 4 (some .int) ({ frames := 2, cells := 0, slots := 0, locals := 44 } : Room) κ [.ref (b 0), .int x] (wM κ b th un ss fi la da dg ps rn ks os ts fn fp bo eE lE li be ab X) (aD (some (.int (nI 0))) (wM κ b (nI 1) un ss fi la da dg ps rn ks os ts fn fp bo eE lE li be ab X)) := by
  refine cm_entry (own := RX6) (L := [(0, .ref (b 0)), (1, .int x)]) (by decide +kernel) rfl (lv_entry [.ref (b 0), .int x] (n := 4) (Nat.le_of_ble_eq_true rfl)) (fun g C E => ?_)
  refine a_aloadn (pc := 0) C 0 rfl rfl dX6_next_0 ?_
  refine a_iconst (pc := 1) (v := nI 0) C ci_0 dX6_next_1 ?_
  refine a_put (pc := 2) (ws' := wM κ b (nI 0) un ss fi la da dg ps rn ks os ts fn fp bo eE lE li be ab X) C fl_X6_60 fp_X6_0 0 rfl rfl rfl (Nat.le_of_ble_eq_true rfl) rfl dX6_next_2 ?_
  refine a_iloadn (pc := 5) C 1 rfl rfl dX6_next_5 ?_
  refine a_iconst (pc := 6) (v := nI 0) C ci_0 dX6_next_6 ?_
  refine a_bipush (pc := 7) (v := nI 39) C cb_39 dX6_next_7 ?_
  refine a_callS1 (pc := 9) (k' := 0) (n' := 0) C (c_X6_isIn κ) yv_X6_isIn ml_X6_67 ws_X6_isIn rfl rfl (Nat.le_of_ble_eq_true rfl) (Nat.le_of_ble_eq_true rfl) (Nat.le_of_ble_eq_true rfl) ⟨(Nat.le_of_ble_eq_true rfl), (Nat.le_of_ble_eq_true rfl)⟩ rfl rfl dX6_next_9 ?_
  refine a_ifb_ne_n (pc := 12) C (okU_cf (by omega) hb) dX6_next_12 ⟨21, by decide⟩ ?_
  refine a_aloadn (pc := 15) C 0 rfl rfl dX6_next_15 ?_
  refine a_iconst (pc := 16) (v := nI 1) C ci_1 dX6_next_16 ?_
  refine a_callV1 (pc := 17) (k' := 0) (n' := 0) C (c_X6_no κ b) yv_X6_no ml_X6_100 wi_X6_no wl_X6_no 0 rfl rfl rfl rfl (Nat.le_of_ble_eq_true rfl) (Nat.le_of_ble_eq_true rfl) (Nat.le_of_ble_eq_true rfl) ⟨(Nat.le_of_ble_eq_true rfl), (Nat.le_of_ble_eq_true rfl)⟩ rfl rfl dX6_next_17 ?_
  exact a_iret (pc := 20) C E (Nat.le_of_ble_eq_true rfl) (Nat.le_of_ble_eq_true rfl) ⟨rfl, rfl⟩ dX6_next_20

set_option maxHeartbeats 4000000 in
set_option maxRecDepth 100000 in
theorem c_X6_row_b1 (κ : aK) (b : Nat → Nat) {th : Int32} {un : Nat} {ss : Nat → Int32} {fi : Nat → Int32} {la : Nat → Int32} {da : Nat → Bool} {dg : Nat → Bool} {ps : Nat → Int32} {rn : Nat} {ks : Nat → Int32} {os : Nat → Nat} {ts : Nat → Nat} {fn : Nat} {fp : Nat → Int32} {bo : Nat → Nat} {eE : Nat → Nat → Bool} {lE : Nat → Nat → Bool} {li : Nat → Nat → Bool} {be : Nat → Int32} {ab : Nat → Int32} {X : va_W} {x : Int32} {isU : Bool} {y : Int32} (hb : ¬ (okU 40 x ∧ okU 40 y)) : CM yX6_row cX6_row 6 (some .int) ({ frames := 1, cells := 0, slots := 0, locals := 22 } : Room) κ [.ref (b 0), .int x, .int (b2i isU), .int y] (wM κ b th un ss fi la da dg ps rn ks os ts fn fp bo eE lE li be ab X) (aD (some (.int (nI 0))) (wM κ b (nI 1) un ss fi la da dg ps rn ks os ts fn fp bo eE lE li be ab X)) := by
  refine cm_entry (own := RX6) (L := [(0, .ref (b 0)), (1, .int x), (2, .int (b2i isU)), (3, .int y)]) (by decide +kernel) rfl (lv_entry [.ref (b 0), .int x, .int (b2i isU), .int y] (n := 6) (Nat.le_of_ble_eq_true rfl)) (fun g C E => ?_)
  refine a_aloadn (pc := 0) C 0 rfl rfl dX6_row_0 ?_
  refine a_iconst (pc := 1) (v := nI 0) C ci_0 dX6_row_1 ?_
  refine a_put (pc := 2) (ws' := wM κ b (nI 0) un ss fi la da dg ps rn ks os ts fn fp bo eE lE li be ab X) C fl_X6_60 fp_X6_0 0 rfl rfl rfl (Nat.le_of_ble_eq_true rfl) rfl dX6_row_2 ?_
  refine a_iloadn (pc := 5) C 1 rfl rfl dX6_row_5 ?_
  refine a_iconst (pc := 6) (v := nI 0) C ci_0 dX6_row_6 ?_
  refine a_bipush (pc := 7) (v := nI 39) C cb_39 dX6_row_7 ?_
  refine a_callS1 (pc := 9) (k' := 0) (n' := 0) C (c_X6_isIn κ) yv_X6_isIn ml_X6_67 ws_X6_isIn rfl rfl (Nat.le_of_ble_eq_true rfl) (Nat.le_of_ble_eq_true rfl) (Nat.le_of_ble_eq_true rfl) ⟨(Nat.le_of_ble_eq_true rfl), (Nat.le_of_ble_eq_true rfl)⟩ rfl rfl dX6_row_9 ?_
  refine a_ifb_eq (pc := 12) (tgt := 25) C (by decide) dX6_row_12 (fun c1 => ?_) (fun c1 => ?_)
  · refine a_aloadn (pc := 25) C 0 rfl rfl dX6_row_25 ?_
    refine a_iconst (pc := 26) (v := nI 1) C ci_1 dX6_row_26 ?_
    refine a_callV1 (pc := 27) (k' := 0) (n' := 0) C (c_X6_no κ b) yv_X6_no ml_X6_100 wi_X6_no wl_X6_no 0 rfl rfl rfl rfl (Nat.le_of_ble_eq_true rfl) (Nat.le_of_ble_eq_true rfl) (Nat.le_of_ble_eq_true rfl) ⟨(Nat.le_of_ble_eq_true rfl), (Nat.le_of_ble_eq_true rfl)⟩ rfl rfl dX6_row_27 ?_
    exact a_iret (pc := 30) C E (Nat.le_of_ble_eq_true rfl) (Nat.le_of_ble_eq_true rfl) ⟨rfl, rfl⟩ dX6_row_30
  · refine a_iloadn (pc := 15) C 3 rfl rfl dX6_row_15 ?_
    refine a_iconst (pc := 16) (v := nI 0) C ci_0 dX6_row_16 ?_
    refine a_bipush (pc := 17) (v := nI 39) C cb_39 dX6_row_17 ?_
    refine a_callS1 (pc := 19) (k' := 0) (n' := 0) C (c_X6_isIn κ) yv_X6_isIn ml_X6_67 ws_X6_isIn rfl rfl (Nat.le_of_ble_eq_true rfl) (Nat.le_of_ble_eq_true rfl) (Nat.le_of_ble_eq_true rfl) ⟨(Nat.le_of_ble_eq_true rfl), (Nat.le_of_ble_eq_true rfl)⟩ rfl rfl dX6_row_19 ?_
    refine a_ifb_ne_n (pc := 22) C (okU_cf (by omega) (fun h => hb ⟨(okU_c (by omega)).mp c1, h⟩)) dX6_row_22 ⟨31, by decide⟩ ?_
    refine a_aloadn (pc := 25) C 0 rfl rfl dX6_row_25 ?_
    refine a_iconst (pc := 26) (v := nI 1) C ci_1 dX6_row_26 ?_
    refine a_callV1 (pc := 27) (k' := 0) (n' := 0) C (c_X6_no κ b) yv_X6_no ml_X6_100 wi_X6_no wl_X6_no 0 rfl rfl rfl rfl (Nat.le_of_ble_eq_true rfl) (Nat.le_of_ble_eq_true rfl) (Nat.le_of_ble_eq_true rfl) ⟨(Nat.le_of_ble_eq_true rfl), (Nat.le_of_ble_eq_true rfl)⟩ rfl rfl dX6_row_27 ?_
    exact a_iret (pc := 30) C E (Nat.le_of_ble_eq_true rfl) (Nat.le_of_ble_eq_true rfl) ⟨rfl, rfl⟩ dX6_row_30

set_option maxHeartbeats 4000000 in
set_option maxRecDepth 100000 in
theorem c_X6_row (κ : aK) (b : Nat → Nat) {th : Int32} {un : Nat} {ss : Nat → Int32} {fi : Nat → Int32} {la : Nat → Int32} {da : Nat → Bool} {dg : Nat → Bool} {ps : Nat → Int32} {rn : Nat} {ks : Nat → Int32} {os : Nat → Nat} {ts : Nat → Nat} {fn : Nat} {fp : Nat → Int32} {bo : Nat → Nat} {eE : Nat → Nat → Bool} {lE : Nat → Nat → Bool} {li : Nat → Nat → Bool} {be : Nat → Int32} {ab : Nat → Int32} {X : va_W} {x : Nat} {isU : Bool} {y : Nat} (hun : un ≤ 40) (hbo : ∀ u, bo u < 40) (hx : x < 40) (hy : y < 40) : CM yX6_row cX6_row 6 (some .int) ({ frames := 1, cells := 0, slots := 0, locals := 22 } : Room) κ [.ref (b 0), .int (nI x), .int (b2i isU), .int (nI y)] (wM κ b th un ss fi la da dg ps rn ks os ts fn fp bo eE lE li be ab X) (aD (some (.int (oI (elA (rowP bo (if isU = true then be else ab) x) y un)))) (wM κ b (nI 0) un ss fi la da dg ps rn ks os ts fn fp bo eE lE li be ab X)) := by
  refine cm_entry (own := RX6) (L := [(0, .ref (b 0)), (1, .int (nI x)), (2, .int (b2i isU)), (3, .int (nI y))]) (by decide +kernel) rfl (lv_entry [.ref (b 0), .int (nI x), .int (b2i isU), .int (nI y)] (n := 6) (Nat.le_of_ble_eq_true rfl)) (fun g C E => ?_)
  cases isU with
  | false =>
    refine a_aloadn (pc := 0) C 0 rfl rfl dX6_row_0 ?_
    refine a_iconst (pc := 1) (v := nI 0) C ci_0 dX6_row_1 ?_
    refine a_put (pc := 2) (ws' := wM κ b (nI 0) un ss fi la da dg ps rn ks os ts fn fp bo eE lE li be ab X) C fl_X6_60 fp_X6_0 0 rfl rfl rfl (Nat.le_of_ble_eq_true rfl) rfl dX6_row_2 ?_
    refine a_iloadn (pc := 5) C 1 rfl rfl dX6_row_5 ?_
    refine a_iconst (pc := 6) (v := nI 0) C ci_0 dX6_row_6 ?_
    refine a_bipush (pc := 7) (v := nI 39) C cb_39 dX6_row_7 ?_
    refine a_callS1 (pc := 9) (k' := 0) (n' := 0) C (c_X6_isIn κ) yv_X6_isIn ml_X6_67 ws_X6_isIn rfl rfl (Nat.le_of_ble_eq_true rfl) (Nat.le_of_ble_eq_true rfl) (Nat.le_of_ble_eq_true rfl) ⟨(Nat.le_of_ble_eq_true rfl), (Nat.le_of_ble_eq_true rfl)⟩ rfl rfl dX6_row_9 ?_
    refine a_ifb_eq_n (pc := 12) C ((okU_c (by omega)).mpr (okU_j hx)) dX6_row_12 ⟨25, by decide⟩ ?_
    refine a_iloadn (pc := 15) C 3 rfl rfl dX6_row_15 ?_
    refine a_iconst (pc := 16) (v := nI 0) C ci_0 dX6_row_16 ?_
    refine a_bipush (pc := 17) (v := nI 39) C cb_39 dX6_row_17 ?_
    refine a_callS1 (pc := 19) (k' := 0) (n' := 0) C (c_X6_isIn κ) yv_X6_isIn ml_X6_67 ws_X6_isIn rfl rfl (Nat.le_of_ble_eq_true rfl) (Nat.le_of_ble_eq_true rfl) (Nat.le_of_ble_eq_true rfl) ⟨(Nat.le_of_ble_eq_true rfl), (Nat.le_of_ble_eq_true rfl)⟩ rfl rfl dX6_row_19 ?_
    refine a_ifb_ne_y (pc := 22) (tgt := 31) C ((okU_c (by omega)).mpr (okU_j hy)) (by decide) dX6_row_22 ?_
    refine a_iloadn (pc := 31) C 3 rfl rfl dX6_row_31 ?_
    refine a_istore (pc := 32) (L' := [(0, .ref (b 0)), (1, .int (nI x)), (2, .int (b2i false)), (3, .int (nI y)), (4, .int (nI y))]) C (by decide) rfl dX6_row_32 ?_
    refine a_iconst (pc := 34) (v := nI 0) C ci_0 dX6_row_34 ?_
    refine a_istore (pc := 35) (L' := [(0, .ref (b 0)), (1, .int (nI x)), (2, .int (b2i false)), (3, .int (nI y)), (4, .int (nI y)), (5, .int (nI 0))]) C (by decide) rfl dX6_row_35 ?_
    have LP37 : ∀ (jz k : Nat), k + jz = un → (fst1 (fun k => (rowP bo ab x) k && decide (cnt (rowP bo ab x) k = y)) k = none) → (cnt (rowP bo ab x) k ≤ y) → aw g κ 6 37 [(0, .ref (b 0)), (1, .int (nI x)), (2, .int (b2i false)), (3, .int (nI y)), (4, .int (nI (y - cnt (rowP bo ab x) k))), (5, .int (nI k))] [] (wM κ b (nI 0) un ss fi la da dg ps rn ks os ts fn fp bo eE lE li be ab X) 0 0 := by
      intro jz
      induction jz with
      | zero =>
        intro k hk_k hno hle
        obtain rfl : un = k := by omega
        refine a_iload (pc := 37) C 5 rfl dX6_row_37 ?_
        refine a_aloadn (pc := 39) C 0 rfl rfl dX6_row_39 ?_
        refine a_get (pc := 40) C fl_X6_64 0 rfl rfl dX6_row_40 ?_
        refine a_icn_ge_y (pc := 43) (tgt := 100) C (by omega) (by omega) (by omega) (by decide) dX6_row_43 ?_
        refine a_iconst (pc := 100) (v := (-1 : Int32)) C ci_m1 dX6_row_100 ?_
        exact a_iret (pc := 101) C E (Nat.le_of_ble_eq_true rfl) (Nat.le_of_ble_eq_true rfl) ⟨(congrArg (fun o => some (Value.int (oI o))) (show elA (rowP bo ab x) y un = none from hno)).symm, rfl⟩ dX6_row_101
      | succ jz ih =>
        intro k hk_k hno hle
        have hlt_k : k < un := by omega
        refine a_iload (pc := 37) C 5 rfl dX6_row_37 ?_
        refine a_aloadn (pc := 39) C 0 rfl rfl dX6_row_39 ?_
        refine a_get (pc := 40) C fl_X6_64 0 rfl rfl dX6_row_40 ?_
        refine a_icn_ge_n (pc := 43) C (by omega) (by omega) (by omega) dX6_row_43 ⟨100, by decide⟩ ?_
        refine a_aloadn (pc := 46) C 0 rfl rfl dX6_row_46 ?_
        refine a_iload (pc := 47) C 5 rfl dX6_row_47 ?_
        refine a_callV1 (pc := 49) (k' := 0) (n' := 0) C (c_X6_isBody κ b (by omega) hbo) yv_X6_isBody ml_X6_127 wi_X6_isBody wl_X6_isBody 0 rfl rfl rfl rfl (Nat.le_of_ble_eq_true rfl) (Nat.le_of_ble_eq_true rfl) (Nat.le_of_ble_eq_true rfl) ⟨(Nat.le_of_ble_eq_true rfl), (Nat.le_of_ble_eq_true rfl)⟩ rfl rfl dX6_row_49 ?_
        refine a_ifb_eq (pc := 52) (tgt := 94) C (by decide) dX6_row_52 (fun c1 => ?_) (fun c1 => ?_)
        · refine a_iinc (pc := 94) (v := nI (k + 1)) (L' := [(0, .ref (b 0)), (1, .int (nI x)), (2, .int (b2i false)), (3, .int (nI y)), (4, .int (nI (y - cnt (rowP bo ab x) k))), (5, .int (nI (k + 1)))]) C 5 rfl (nI_inc _) (by decide) rfl dX6_row_94 ?_
          refine a_goto (pc := 97) (tgt := 37) C (by decide) dX6_row_97 ?_
          refine aw_L (L' := [(0, .ref (b 0)), (1, .int (nI x)), (2, .int (b2i false)), (3, .int (nI y)), (4, .int (nI (y - cnt (rowP bo ab x) (k + 1)))), (5, .int (nI (k + 1)))]) (congrArg (fun zz9 => ([(0, .ref (b 0)), (1, .int (nI x)), (2, .int (b2i false)), (3, .int (nI y)), (4, .int zz9), (5, .int (nI (k + 1)))] : List (Nat × Value))) (by rw [cnt_n (and_ff c1)] : (nI (y - cnt (rowP bo ab x) k)) = (nI (y - cnt (rowP bo ab x) (k + 1))))) ?_
          exact ih (k + 1) (by omega) (fst1_mis hno (and_ff (and_ff c1))) (by rw [cnt_n (and_ff c1)]; exact hle)
        · refine a_iloadn (pc := 55) C 2 rfl rfl dX6_row_55 ?_
          refine a_ifb_eq_y (pc := 56) (tgt := 69) C rfl (by decide) dX6_row_56 ?_
          refine a_aloadn (pc := 69) C 0 rfl rfl dX6_row_69 ?_
          refine a_get (pc := 70) C fl_X6_57 0 rfl rfl dX6_row_70 ?_
          refine a_iload (pc := 73) C 5 rfl dX6_row_73 ?_
          refine a_iald (pc := 75) C 16 rfl (by omega) (by decide) dX6_row_75 ?_
          refine a_iloadn (pc := 76) C 1 rfl rfl dX6_row_76 ?_
          refine a_ic_eq (pc := 77) (tgt := 83) C (by decide) dX6_row_77 (fun c2 => ?_) (fun c2 => ?_)
          · refine a_iload (pc := 83) C 4 rfl dX6_row_83 ?_
            refine a_ifn_ne (pc := 85) (tgt := 91) C (by omega) (by decide) dX6_row_85 (fun c3 => ?_) (fun c3 => ?_)
            · refine a_iinc (pc := 91) (v := nI ((y - cnt (rowP bo ab x) k) - 1)) (L' := [(0, .ref (b 0)), (1, .int (nI x)), (2, .int (b2i false)), (3, .int (nI y)), (4, .int (nI ((y - cnt (rowP bo ab x) k) - 1))), (5, .int (nI k))]) C 4 rfl (nI_dec1 (by omega)) (by decide) rfl dX6_row_91 ?_
              refine a_iinc (pc := 94) (v := nI (k + 1)) (L' := [(0, .ref (b 0)), (1, .int (nI x)), (2, .int (b2i false)), (3, .int (nI y)), (4, .int (nI ((y - cnt (rowP bo ab x) k) - 1))), (5, .int (nI (k + 1)))]) C 5 rfl (nI_inc _) (by decide) rfl dX6_row_94 ?_
              refine a_goto (pc := 97) (tgt := 37) C (by decide) dX6_row_97 ?_
              refine aw_L (L' := [(0, .ref (b 0)), (1, .int (nI x)), (2, .int (b2i false)), (3, .int (nI y)), (4, .int (nI (y - cnt (rowP bo ab x) (k + 1)))), (5, .int (nI (k + 1)))]) (congrArg (fun zz9 => ([(0, .ref (b 0)), (1, .int (nI x)), (2, .int (b2i false)), (3, .int (nI y)), (4, .int zz9), (5, .int (nI (k + 1)))] : List (Nat × Value))) (congrArg nI (by rw [cnt_y (and_tt c1 (decide_eq_true c2))]; omega) : (nI ((y - cnt (rowP bo ab x) k) - 1)) = (nI (y - cnt (rowP bo ab x) (k + 1))))) ?_
              exact ih (k + 1) (by omega) (fst1_mis hno (and_tf (and_tt c1 (decide_eq_true c2)) (decide_eq_false (by omega)))) (by rw [cnt_y (and_tt c1 (decide_eq_true c2))]; omega)
            · refine a_iload (pc := 88) C 5 rfl dX6_row_88 ?_
              exact a_iret (pc := 90) C E (Nat.le_of_ble_eq_true rfl) (Nat.le_of_ble_eq_true rfl) ⟨(congrArg (fun o => some (Value.int (oI o))) (show elA (rowP bo ab x) y un = some k from fst1_at hlt_k hno (and_tt (and_tt c1 (decide_eq_true c2)) (decide_eq_true (by omega))))).symm, rfl⟩ dX6_row_90
          · refine a_goto (pc := 80) (tgt := 94) C (by decide) dX6_row_80 ?_
            refine a_iinc (pc := 94) (v := nI (k + 1)) (L' := [(0, .ref (b 0)), (1, .int (nI x)), (2, .int (b2i false)), (3, .int (nI y)), (4, .int (nI (y - cnt (rowP bo ab x) k))), (5, .int (nI (k + 1)))]) C 5 rfl (nI_inc _) (by decide) rfl dX6_row_94 ?_
            refine a_goto (pc := 97) (tgt := 37) C (by decide) dX6_row_97 ?_
            refine aw_L (L' := [(0, .ref (b 0)), (1, .int (nI x)), (2, .int (b2i false)), (3, .int (nI y)), (4, .int (nI (y - cnt (rowP bo ab x) (k + 1)))), (5, .int (nI (k + 1)))]) (congrArg (fun zz9 => ([(0, .ref (b 0)), (1, .int (nI x)), (2, .int (b2i false)), (3, .int (nI y)), (4, .int zz9), (5, .int (nI (k + 1)))] : List (Nat × Value))) (by rw [cnt_n (and_tf c1 (decide_eq_false c2))] : (nI (y - cnt (rowP bo ab x) k)) = (nI (y - cnt (rowP bo ab x) (k + 1))))) ?_
            exact ih (k + 1) (by omega) (fst1_mis hno (and_ff (and_tf c1 (decide_eq_false c2)))) (by rw [cnt_n (and_tf c1 (decide_eq_false c2))]; exact hle)
    refine aw_L (L' := [(0, .ref (b 0)), (1, .int (nI x)), (2, .int (b2i false)), (3, .int (nI y)), (4, .int (nI (y - cnt (rowP bo ab x) 0))), (5, .int (nI 0))]) (congrArg (fun zz9 => ([(0, .ref (b 0)), (1, .int (nI x)), (2, .int (b2i false)), (3, .int (nI y)), (4, .int zz9), (5, .int (nI 0))] : List (Nat × Value))) (rfl : (nI y) = (nI (y - cnt (rowP bo ab x) 0)))) ?_
    exact LP37 (un) (0) (by omega) rfl (Nat.zero_le _)
  | true =>
    refine a_aloadn (pc := 0) C 0 rfl rfl dX6_row_0 ?_
    refine a_iconst (pc := 1) (v := nI 0) C ci_0 dX6_row_1 ?_
    refine a_put (pc := 2) (ws' := wM κ b (nI 0) un ss fi la da dg ps rn ks os ts fn fp bo eE lE li be ab X) C fl_X6_60 fp_X6_0 0 rfl rfl rfl (Nat.le_of_ble_eq_true rfl) rfl dX6_row_2 ?_
    refine a_iloadn (pc := 5) C 1 rfl rfl dX6_row_5 ?_
    refine a_iconst (pc := 6) (v := nI 0) C ci_0 dX6_row_6 ?_
    refine a_bipush (pc := 7) (v := nI 39) C cb_39 dX6_row_7 ?_
    refine a_callS1 (pc := 9) (k' := 0) (n' := 0) C (c_X6_isIn κ) yv_X6_isIn ml_X6_67 ws_X6_isIn rfl rfl (Nat.le_of_ble_eq_true rfl) (Nat.le_of_ble_eq_true rfl) (Nat.le_of_ble_eq_true rfl) ⟨(Nat.le_of_ble_eq_true rfl), (Nat.le_of_ble_eq_true rfl)⟩ rfl rfl dX6_row_9 ?_
    refine a_ifb_eq_n (pc := 12) C ((okU_c (by omega)).mpr (okU_j hx)) dX6_row_12 ⟨25, by decide⟩ ?_
    refine a_iloadn (pc := 15) C 3 rfl rfl dX6_row_15 ?_
    refine a_iconst (pc := 16) (v := nI 0) C ci_0 dX6_row_16 ?_
    refine a_bipush (pc := 17) (v := nI 39) C cb_39 dX6_row_17 ?_
    refine a_callS1 (pc := 19) (k' := 0) (n' := 0) C (c_X6_isIn κ) yv_X6_isIn ml_X6_67 ws_X6_isIn rfl rfl (Nat.le_of_ble_eq_true rfl) (Nat.le_of_ble_eq_true rfl) (Nat.le_of_ble_eq_true rfl) ⟨(Nat.le_of_ble_eq_true rfl), (Nat.le_of_ble_eq_true rfl)⟩ rfl rfl dX6_row_19 ?_
    refine a_ifb_ne_y (pc := 22) (tgt := 31) C ((okU_c (by omega)).mpr (okU_j hy)) (by decide) dX6_row_22 ?_
    refine a_iloadn (pc := 31) C 3 rfl rfl dX6_row_31 ?_
    refine a_istore (pc := 32) (L' := [(0, .ref (b 0)), (1, .int (nI x)), (2, .int (b2i true)), (3, .int (nI y)), (4, .int (nI y))]) C (by decide) rfl dX6_row_32 ?_
    refine a_iconst (pc := 34) (v := nI 0) C ci_0 dX6_row_34 ?_
    refine a_istore (pc := 35) (L' := [(0, .ref (b 0)), (1, .int (nI x)), (2, .int (b2i true)), (3, .int (nI y)), (4, .int (nI y)), (5, .int (nI 0))]) C (by decide) rfl dX6_row_35 ?_
    have LP37 : ∀ (jz k : Nat), k + jz = un → (fst1 (fun k => (rowP bo be x) k && decide (cnt (rowP bo be x) k = y)) k = none) → (cnt (rowP bo be x) k ≤ y) → aw g κ 6 37 [(0, .ref (b 0)), (1, .int (nI x)), (2, .int (b2i true)), (3, .int (nI y)), (4, .int (nI (y - cnt (rowP bo be x) k))), (5, .int (nI k))] [] (wM κ b (nI 0) un ss fi la da dg ps rn ks os ts fn fp bo eE lE li be ab X) 0 0 := by
      intro jz
      induction jz with
      | zero =>
        intro k hk_k hno hle
        obtain rfl : un = k := by omega
        refine a_iload (pc := 37) C 5 rfl dX6_row_37 ?_
        refine a_aloadn (pc := 39) C 0 rfl rfl dX6_row_39 ?_
        refine a_get (pc := 40) C fl_X6_64 0 rfl rfl dX6_row_40 ?_
        refine a_icn_ge_y (pc := 43) (tgt := 100) C (by omega) (by omega) (by omega) (by decide) dX6_row_43 ?_
        refine a_iconst (pc := 100) (v := (-1 : Int32)) C ci_m1 dX6_row_100 ?_
        exact a_iret (pc := 101) C E (Nat.le_of_ble_eq_true rfl) (Nat.le_of_ble_eq_true rfl) ⟨(congrArg (fun o => some (Value.int (oI o))) (show elA (rowP bo be x) y un = none from hno)).symm, rfl⟩ dX6_row_101
      | succ jz ih =>
        intro k hk_k hno hle
        have hlt_k : k < un := by omega
        refine a_iload (pc := 37) C 5 rfl dX6_row_37 ?_
        refine a_aloadn (pc := 39) C 0 rfl rfl dX6_row_39 ?_
        refine a_get (pc := 40) C fl_X6_64 0 rfl rfl dX6_row_40 ?_
        refine a_icn_ge_n (pc := 43) C (by omega) (by omega) (by omega) dX6_row_43 ⟨100, by decide⟩ ?_
        refine a_aloadn (pc := 46) C 0 rfl rfl dX6_row_46 ?_
        refine a_iload (pc := 47) C 5 rfl dX6_row_47 ?_
        refine a_callV1 (pc := 49) (k' := 0) (n' := 0) C (c_X6_isBody κ b (by omega) hbo) yv_X6_isBody ml_X6_127 wi_X6_isBody wl_X6_isBody 0 rfl rfl rfl rfl (Nat.le_of_ble_eq_true rfl) (Nat.le_of_ble_eq_true rfl) (Nat.le_of_ble_eq_true rfl) ⟨(Nat.le_of_ble_eq_true rfl), (Nat.le_of_ble_eq_true rfl)⟩ rfl rfl dX6_row_49 ?_
        refine a_ifb_eq (pc := 52) (tgt := 94) C (by decide) dX6_row_52 (fun c4 => ?_) (fun c4 => ?_)
        · refine a_iinc (pc := 94) (v := nI (k + 1)) (L' := [(0, .ref (b 0)), (1, .int (nI x)), (2, .int (b2i true)), (3, .int (nI y)), (4, .int (nI (y - cnt (rowP bo be x) k))), (5, .int (nI (k + 1)))]) C 5 rfl (nI_inc _) (by decide) rfl dX6_row_94 ?_
          refine a_goto (pc := 97) (tgt := 37) C (by decide) dX6_row_97 ?_
          refine aw_L (L' := [(0, .ref (b 0)), (1, .int (nI x)), (2, .int (b2i true)), (3, .int (nI y)), (4, .int (nI (y - cnt (rowP bo be x) (k + 1)))), (5, .int (nI (k + 1)))]) (congrArg (fun zz9 => ([(0, .ref (b 0)), (1, .int (nI x)), (2, .int (b2i true)), (3, .int (nI y)), (4, .int zz9), (5, .int (nI (k + 1)))] : List (Nat × Value))) (by rw [cnt_n (and_ff c4)] : (nI (y - cnt (rowP bo be x) k)) = (nI (y - cnt (rowP bo be x) (k + 1))))) ?_
          exact ih (k + 1) (by omega) (fst1_mis hno (and_ff (and_ff c4))) (by rw [cnt_n (and_ff c4)]; exact hle)
        · refine a_iloadn (pc := 55) C 2 rfl rfl dX6_row_55 ?_
          refine a_ifb_eq_n (pc := 56) C rfl dX6_row_56 ⟨69, by decide⟩ ?_
          refine a_aloadn (pc := 59) C 0 rfl rfl dX6_row_59 ?_
          refine a_get (pc := 60) C fl_X6_54 0 rfl rfl dX6_row_60 ?_
          refine a_iload (pc := 63) C 5 rfl dX6_row_63 ?_
          refine a_iald (pc := 65) C 15 rfl (by omega) (by decide) dX6_row_65 ?_
          refine a_goto (pc := 66) (tgt := 76) C (by decide) dX6_row_66 ?_
          refine a_iloadn (pc := 76) C 1 rfl rfl dX6_row_76 ?_
          refine a_ic_eq (pc := 77) (tgt := 83) C (by decide) dX6_row_77 (fun c5 => ?_) (fun c5 => ?_)
          · refine a_iload (pc := 83) C 4 rfl dX6_row_83 ?_
            refine a_ifn_ne (pc := 85) (tgt := 91) C (by omega) (by decide) dX6_row_85 (fun c6 => ?_) (fun c6 => ?_)
            · refine a_iinc (pc := 91) (v := nI ((y - cnt (rowP bo be x) k) - 1)) (L' := [(0, .ref (b 0)), (1, .int (nI x)), (2, .int (b2i true)), (3, .int (nI y)), (4, .int (nI ((y - cnt (rowP bo be x) k) - 1))), (5, .int (nI k))]) C 4 rfl (nI_dec1 (by omega)) (by decide) rfl dX6_row_91 ?_
              refine a_iinc (pc := 94) (v := nI (k + 1)) (L' := [(0, .ref (b 0)), (1, .int (nI x)), (2, .int (b2i true)), (3, .int (nI y)), (4, .int (nI ((y - cnt (rowP bo be x) k) - 1))), (5, .int (nI (k + 1)))]) C 5 rfl (nI_inc _) (by decide) rfl dX6_row_94 ?_
              refine a_goto (pc := 97) (tgt := 37) C (by decide) dX6_row_97 ?_
              refine aw_L (L' := [(0, .ref (b 0)), (1, .int (nI x)), (2, .int (b2i true)), (3, .int (nI y)), (4, .int (nI (y - cnt (rowP bo be x) (k + 1)))), (5, .int (nI (k + 1)))]) (congrArg (fun zz9 => ([(0, .ref (b 0)), (1, .int (nI x)), (2, .int (b2i true)), (3, .int (nI y)), (4, .int zz9), (5, .int (nI (k + 1)))] : List (Nat × Value))) (congrArg nI (by rw [cnt_y (and_tt c4 (decide_eq_true c5))]; omega) : (nI ((y - cnt (rowP bo be x) k) - 1)) = (nI (y - cnt (rowP bo be x) (k + 1))))) ?_
              exact ih (k + 1) (by omega) (fst1_mis hno (and_tf (and_tt c4 (decide_eq_true c5)) (decide_eq_false (by omega)))) (by rw [cnt_y (and_tt c4 (decide_eq_true c5))]; omega)
            · refine a_iload (pc := 88) C 5 rfl dX6_row_88 ?_
              exact a_iret (pc := 90) C E (Nat.le_of_ble_eq_true rfl) (Nat.le_of_ble_eq_true rfl) ⟨(congrArg (fun o => some (Value.int (oI o))) (show elA (rowP bo be x) y un = some k from fst1_at hlt_k hno (and_tt (and_tt c4 (decide_eq_true c5)) (decide_eq_true (by omega))))).symm, rfl⟩ dX6_row_90
          · refine a_goto (pc := 80) (tgt := 94) C (by decide) dX6_row_80 ?_
            refine a_iinc (pc := 94) (v := nI (k + 1)) (L' := [(0, .ref (b 0)), (1, .int (nI x)), (2, .int (b2i true)), (3, .int (nI y)), (4, .int (nI (y - cnt (rowP bo be x) k))), (5, .int (nI (k + 1)))]) C 5 rfl (nI_inc _) (by decide) rfl dX6_row_94 ?_
            refine a_goto (pc := 97) (tgt := 37) C (by decide) dX6_row_97 ?_
            refine aw_L (L' := [(0, .ref (b 0)), (1, .int (nI x)), (2, .int (b2i true)), (3, .int (nI y)), (4, .int (nI (y - cnt (rowP bo be x) (k + 1)))), (5, .int (nI (k + 1)))]) (congrArg (fun zz9 => ([(0, .ref (b 0)), (1, .int (nI x)), (2, .int (b2i true)), (3, .int (nI y)), (4, .int zz9), (5, .int (nI (k + 1)))] : List (Nat × Value))) (by rw [cnt_n (and_tf c4 (decide_eq_false c5))] : (nI (y - cnt (rowP bo be x) k)) = (nI (y - cnt (rowP bo be x) (k + 1))))) ?_
            exact ih (k + 1) (by omega) (fst1_mis hno (and_ff (and_tf c4 (decide_eq_false c5)))) (by rw [cnt_n (and_tf c4 (decide_eq_false c5))]; exact hle)
    refine aw_L (L' := [(0, .ref (b 0)), (1, .int (nI x)), (2, .int (b2i true)), (3, .int (nI y)), (4, .int (nI (y - cnt (rowP bo be x) 0))), (5, .int (nI 0))]) (congrArg (fun zz9 => ([(0, .ref (b 0)), (1, .int (nI x)), (2, .int (b2i true)), (3, .int (nI y)), (4, .int zz9), (5, .int (nI 0))] : List (Nat × Value))) (rfl : (nI y) = (nI (y - cnt (rowP bo be x) 0)))) ?_
    exact LP37 (un) (0) (by omega) rfl (Nat.zero_le _)

set_option maxHeartbeats 4000000 in
set_option maxRecDepth 100000 in
theorem c_X6_nearest_b1 (κ : aK) (b : Nat → Nat) {th : Int32} {un : Nat} {ss : Nat → Int32} {fi : Nat → Int32} {la : Nat → Int32} {da : Nat → Bool} {dg : Nat → Bool} {ps : Nat → Int32} {rn : Nat} {ks : Nat → Int32} {os : Nat → Nat} {ts : Nat → Nat} {fn : Nat} {fp : Nat → Int32} {bo : Nat → Nat} {eE : Nat → Nat → Bool} {lE : Nat → Nat → Bool} {li : Nat → Nat → Bool} {be : Nat → Int32} {ab : Nat → Int32} {X : va_W} {x : Int32} {y : Int32} {z : Int32} {q : Int32} (hb : ¬ (((xyB x && xyB y) && zB z) = true ∧ inB (-1 : Int32) (nI 9) q = true)) : CM yX6_nearest cX6_nearest 12 (some .int) ({ frames := 2, cells := 0, slots := 0, locals := 44 } : Room) κ [.ref (b 0), .int x, .int y, .int z, .int q] (wM κ b th un ss fi la da dg ps rn ks os ts fn fp bo eE lE li be ab X) (aD (some (.int (nI 0))) (wM κ b (nI 1) un ss fi la da dg ps rn ks os ts fn fp bo eE lE li be ab X)) := by
  refine cm_entry (own := RX6) (L := [(0, .ref (b 0)), (1, .int x), (2, .int y), (3, .int z), (4, .int q)]) (by decide +kernel) rfl (lv_entry [.ref (b 0), .int x, .int y, .int z, .int q] (n := 12) (Nat.le_of_ble_eq_true rfl)) (fun g C E => ?_)
  refine a_aloadn (pc := 0) C 0 rfl rfl dX6_nearest_0 ?_
  refine a_iconst (pc := 1) (v := nI 0) C ci_0 dX6_nearest_1 ?_
  refine a_put (pc := 2) (ws' := wM κ b (nI 0) un ss fi la da dg ps rn ks os ts fn fp bo eE lE li be ab X) C fl_X6_60 fp_X6_0 0 rfl rfl rfl (Nat.le_of_ble_eq_true rfl) rfl dX6_nearest_2 ?_
  refine a_iloadn (pc := 5) C 1 rfl rfl dX6_nearest_5 ?_
  refine a_iloadn (pc := 6) C 2 rfl rfl dX6_nearest_6 ?_
  refine a_iloadn (pc := 7) C 3 rfl rfl dX6_nearest_7 ?_
  refine a_callS1 (pc := 8) (k' := 0) (n' := 0) C (c_X6_isPlace κ) yv_X6_isPlace ml_X6_187 ws_X6_isPlace rfl rfl (Nat.le_of_ble_eq_true rfl) (Nat.le_of_ble_eq_true rfl) (Nat.le_of_ble_eq_true rfl) ⟨(Nat.le_of_ble_eq_true rfl), (Nat.le_of_ble_eq_true rfl)⟩ rfl rfl dX6_nearest_8 ?_
  refine a_ifb_eq (pc := 11) (tgt := 25) C (by decide) dX6_nearest_11 (fun c1 => ?_) (fun c1 => ?_)
  · refine a_aloadn (pc := 25) C 0 rfl rfl dX6_nearest_25 ?_
    refine a_iconst (pc := 26) (v := nI 1) C ci_1 dX6_nearest_26 ?_
    refine a_callV1 (pc := 27) (k' := 0) (n' := 0) C (c_X6_no κ b) yv_X6_no ml_X6_100 wi_X6_no wl_X6_no 0 rfl rfl rfl rfl (Nat.le_of_ble_eq_true rfl) (Nat.le_of_ble_eq_true rfl) (Nat.le_of_ble_eq_true rfl) ⟨(Nat.le_of_ble_eq_true rfl), (Nat.le_of_ble_eq_true rfl)⟩ rfl rfl dX6_nearest_27 ?_
    exact a_iret (pc := 30) C E (Nat.le_of_ble_eq_true rfl) (Nat.le_of_ble_eq_true rfl) ⟨rfl, rfl⟩ dX6_nearest_30
  · refine a_iload (pc := 14) C 4 rfl dX6_nearest_14 ?_
    refine a_iconst (pc := 16) (v := (-1 : Int32)) C ci_m1 dX6_nearest_16 ?_
    refine a_bipush (pc := 17) (v := nI 9) C cb_9 dX6_nearest_17 ?_
    refine a_callS1 (pc := 19) (k' := 0) (n' := 0) C (c_X6_isIn κ) yv_X6_isIn ml_X6_67 ws_X6_isIn rfl rfl (Nat.le_of_ble_eq_true rfl) (Nat.le_of_ble_eq_true rfl) (Nat.le_of_ble_eq_true rfl) ⟨(Nat.le_of_ble_eq_true rfl), (Nat.le_of_ble_eq_true rfl)⟩ rfl rfl dX6_nearest_19 ?_
    refine a_ifb_ne_n (pc := 22) C ((Bool.not_eq_true _).mp (fun h => hb ⟨c1, h⟩)) dX6_nearest_22 ⟨31, by decide⟩ ?_
    refine a_aloadn (pc := 25) C 0 rfl rfl dX6_nearest_25 ?_
    refine a_iconst (pc := 26) (v := nI 1) C ci_1 dX6_nearest_26 ?_
    refine a_callV1 (pc := 27) (k' := 0) (n' := 0) C (c_X6_no κ b) yv_X6_no ml_X6_100 wi_X6_no wl_X6_no 0 rfl rfl rfl rfl (Nat.le_of_ble_eq_true rfl) (Nat.le_of_ble_eq_true rfl) (Nat.le_of_ble_eq_true rfl) ⟨(Nat.le_of_ble_eq_true rfl), (Nat.le_of_ble_eq_true rfl)⟩ rfl rfl dX6_nearest_27 ?_
    exact a_iret (pc := 30) C E (Nat.le_of_ble_eq_true rfl) (Nat.le_of_ble_eq_true rfl) ⟨rfl, rfl⟩ dX6_nearest_30

set_option maxHeartbeats 4000000 in
set_option maxRecDepth 100000 in
theorem c_X6_nearest (κ : aK) (b : Nat → Nat) {th : Int32} {un : Nat} {ss : Nat → Int32} {fi : Nat → Int32} {la : Nat → Int32} {da : Nat → Bool} {dg : Nat → Bool} {ps : Nat → Int32} {rn : Nat} {ks : Nat → Int32} {os : Nat → Nat} {ts : Nat → Nat} {fn : Nat} {fp : Nat → Int32} {bo : Nat → Nat} {eE : Nat → Nat → Bool} {lE : Nat → Nat → Bool} {li : Nat → Nat → Bool} {be : Nat → Int32} {ab : Nat → Int32} {X : va_W} {x : Int32} {y : Int32} {z : Int32} {q : Int32} (hfn : fn ≤ 60) (hp : ((xyB x && xyB y) && zB z) = true) (hq : inB (-1 : Int32) (nI 9) q = true) : CM yX6_nearest cX6_nearest 12 (some .int) ({ frames := 2, cells := 0, slots := 0, locals := 44 } : Room) κ [.ref (b 0), .int x, .int y, .int z, .int q] (wM κ b th un ss fi la da dg ps rn ks os ts fn fp bo eE lE li be ab X) (aD (some (.int ((clS (fun v => fp (7 * v + 1)) (fun v => sqD (fun v => fp (7 * v + 4)) (fun v => fp (7 * v + 5)) (fun v => fp (7 * v + 6)) v x y z) q fn).1))) (wM κ b (nI 0) un ss fi la da dg ps rn ks os ts fn fp bo eE lE li be ab X)) := by
  refine cm_entry (own := RX6) (L := [(0, .ref (b 0)), (1, .int x), (2, .int y), (3, .int z), (4, .int q)]) (by decide +kernel) rfl (lv_entry [.ref (b 0), .int x, .int y, .int z, .int q] (n := 12) (Nat.le_of_ble_eq_true rfl)) (fun g C E => ?_)
  refine a_aloadn (pc := 0) C 0 rfl rfl dX6_nearest_0 ?_
  refine a_iconst (pc := 1) (v := nI 0) C ci_0 dX6_nearest_1 ?_
  refine a_put (pc := 2) (ws' := wM κ b (nI 0) un ss fi la da dg ps rn ks os ts fn fp bo eE lE li be ab X) C fl_X6_60 fp_X6_0 0 rfl rfl rfl (Nat.le_of_ble_eq_true rfl) rfl dX6_nearest_2 ?_
  refine a_iloadn (pc := 5) C 1 rfl rfl dX6_nearest_5 ?_
  refine a_iloadn (pc := 6) C 2 rfl rfl dX6_nearest_6 ?_
  refine a_iloadn (pc := 7) C 3 rfl rfl dX6_nearest_7 ?_
  refine a_callS1 (pc := 8) (k' := 0) (n' := 0) C (c_X6_isPlace κ) yv_X6_isPlace ml_X6_187 ws_X6_isPlace rfl rfl (Nat.le_of_ble_eq_true rfl) (Nat.le_of_ble_eq_true rfl) (Nat.le_of_ble_eq_true rfl) ⟨(Nat.le_of_ble_eq_true rfl), (Nat.le_of_ble_eq_true rfl)⟩ rfl rfl dX6_nearest_8 ?_
  refine a_ifb_eq_n (pc := 11) C hp dX6_nearest_11 ⟨25, by decide⟩ ?_
  refine a_iload (pc := 14) C 4 rfl dX6_nearest_14 ?_
  refine a_iconst (pc := 16) (v := (-1 : Int32)) C ci_m1 dX6_nearest_16 ?_
  refine a_bipush (pc := 17) (v := nI 9) C cb_9 dX6_nearest_17 ?_
  refine a_callS1 (pc := 19) (k' := 0) (n' := 0) C (c_X6_isIn κ) yv_X6_isIn ml_X6_67 ws_X6_isIn rfl rfl (Nat.le_of_ble_eq_true rfl) (Nat.le_of_ble_eq_true rfl) (Nat.le_of_ble_eq_true rfl) ⟨(Nat.le_of_ble_eq_true rfl), (Nat.le_of_ble_eq_true rfl)⟩ rfl rfl dX6_nearest_19 ?_
  refine a_ifb_ne_y (pc := 22) (tgt := 31) C hq (by decide) dX6_nearest_22 ?_
  refine a_iconst (pc := 31) (v := (-1 : Int32)) C ci_m1 dX6_nearest_31 ?_
  refine a_istore (pc := 32) (L' := [(0, .ref (b 0)), (1, .int x), (2, .int y), (3, .int z), (4, .int q), (5, .int (-1 : Int32))]) C (by decide) rfl dX6_nearest_32 ?_
  refine a_iconst (pc := 34) (v := nI 0) C ci_0 dX6_nearest_34 ?_
  refine a_istore (pc := 35) (L' := [(0, .ref (b 0)), (1, .int x), (2, .int y), (3, .int z), (4, .int q), (5, .int (-1 : Int32)), (6, .int (nI 0))]) C (by decide) rfl dX6_nearest_35 ?_
  refine a_iconst (pc := 37) (v := nI 0) C ci_0 dX6_nearest_37 ?_
  refine a_istore (pc := 38) (L' := [(0, .ref (b 0)), (1, .int x), (2, .int y), (3, .int z), (4, .int q), (5, .int (-1 : Int32)), (6, .int (nI 0)), (7, .int (nI 0))]) C (by decide) rfl dX6_nearest_38 ?_
  have LP40 : ∀ (jz k : Nat), k + jz = fn → aw g κ 12 40 [(0, .ref (b 0)), (1, .int x), (2, .int y), (3, .int z), (4, .int q), (5, .int ((clS (fun v => fp (7 * v + 1)) (fun v => sqD (fun v => fp (7 * v + 4)) (fun v => fp (7 * v + 5)) (fun v => fp (7 * v + 6)) v x y z) q k).1)), (6, .int ((clS (fun v => fp (7 * v + 1)) (fun v => sqD (fun v => fp (7 * v + 4)) (fun v => fp (7 * v + 5)) (fun v => fp (7 * v + 6)) v x y z) q k).2)), (7, .int (nI k))] [] (wM κ b (nI 0) un ss fi la da dg ps rn ks os ts fn fp bo eE lE li be ab X) 0 0 := by
    intro jz
    induction jz with
    | zero =>
      intro k hk_k
      obtain rfl : fn = k := by omega
      refine a_iload (pc := 40) C 7 rfl dX6_nearest_40 ?_
      refine a_aloadn (pc := 42) C 0 rfl rfl dX6_nearest_42 ?_
      refine a_get (pc := 43) C fl_X6_120 0 rfl rfl dX6_nearest_43 ?_
      refine a_icn_ge_y (pc := 46) (tgt := 173) C (by omega) (by omega) (by omega) (by decide) dX6_nearest_46 ?_
      refine a_iload (pc := 173) C 5 rfl dX6_nearest_173 ?_
      exact a_iret (pc := 175) C E (Nat.le_of_ble_eq_true rfl) (Nat.le_of_ble_eq_true rfl) ⟨rfl, rfl⟩ dX6_nearest_175
    | succ jz ih =>
      intro k hk_k
      have hlt_k : k < fn := by omega
      refine a_iload (pc := 40) C 7 rfl dX6_nearest_40 ?_
      refine a_aloadn (pc := 42) C 0 rfl rfl dX6_nearest_42 ?_
      refine a_get (pc := 43) C fl_X6_120 0 rfl rfl dX6_nearest_43 ?_
      refine a_icn_ge_n (pc := 46) C (by omega) (by omega) (by omega) dX6_nearest_46 ⟨173, by decide⟩ ?_
      refine a_iload (pc := 49) C 4 rfl dX6_nearest_49 ?_
      refine a_iconst (pc := 51) (v := (-1 : Int32)) C ci_m1 dX6_nearest_51 ?_
      refine a_ic_eq (pc := 52) (tgt := 75) C (by decide) dX6_nearest_52 (fun c1 => ?_) (fun c1 => ?_)
      · refine a_aloadn (pc := 75) C 0 rfl rfl dX6_nearest_75 ?_
        refine a_get (pc := 76) C fl_X6_38 0 rfl rfl dX6_nearest_76 ?_
        refine a_bipush (pc := 79) (v := nI 7) C cb_7 dX6_nearest_79 ?_
        refine a_iload (pc := 81) C 7 rfl dX6_nearest_81 ?_
        refine a_imul (pc := 83) (v := nI (7 * k)) C (pk_mul _ _) dX6_nearest_83 ?_
        refine a_iconst (pc := 84) (v := nI 4) C ci_4 dX6_nearest_84 ?_
        refine a_iadd (pc := 85) (v := nI ((7 * k) + 4)) C (nI_add _ _) dX6_nearest_85 ?_
        refine a_iald (pc := 86) C 10 rfl (by omega) (by decide) dX6_nearest_86 ?_
        refine a_iloadn (pc := 87) C 1 rfl rfl dX6_nearest_87 ?_
        refine a_isub (pc := 88) (v := (fp ((7 * k) + 4)) - x) C rfl dX6_nearest_88 ?_
        refine a_istore (pc := 89) (L' := [(0, .ref (b 0)), (1, .int x), (2, .int y), (3, .int z), (4, .int q), (5, .int ((clS (fun v => fp (7 * v + 1)) (fun v => sqD (fun v => fp (7 * v + 4)) (fun v => fp (7 * v + 5)) (fun v => fp (7 * v + 6)) v x y z) q k).1)), (6, .int ((clS (fun v => fp (7 * v + 1)) (fun v => sqD (fun v => fp (7 * v + 4)) (fun v => fp (7 * v + 5)) (fun v => fp (7 * v + 6)) v x y z) q k).2)), (7, .int (nI k)), (8, .int ((fp ((7 * k) + 4)) - x))]) C (by decide) rfl dX6_nearest_89 ?_
        refine a_aloadn (pc := 91) C 0 rfl rfl dX6_nearest_91 ?_
        refine a_get (pc := 92) C fl_X6_38 0 rfl rfl dX6_nearest_92 ?_
        refine a_bipush (pc := 95) (v := nI 7) C cb_7 dX6_nearest_95 ?_
        refine a_iload (pc := 97) C 7 rfl dX6_nearest_97 ?_
        refine a_imul (pc := 99) (v := nI (7 * k)) C (pk_mul _ _) dX6_nearest_99 ?_
        refine a_iconst (pc := 100) (v := nI 5) C ci_5 dX6_nearest_100 ?_
        refine a_iadd (pc := 101) (v := nI ((7 * k) + 5)) C (nI_add _ _) dX6_nearest_101 ?_
        refine a_iald (pc := 102) C 10 rfl (by omega) (by decide) dX6_nearest_102 ?_
        refine a_iloadn (pc := 103) C 2 rfl rfl dX6_nearest_103 ?_
        refine a_isub (pc := 104) (v := (fp ((7 * k) + 5)) - y) C rfl dX6_nearest_104 ?_
        refine a_istore (pc := 105) (L' := [(0, .ref (b 0)), (1, .int x), (2, .int y), (3, .int z), (4, .int q), (5, .int ((clS (fun v => fp (7 * v + 1)) (fun v => sqD (fun v => fp (7 * v + 4)) (fun v => fp (7 * v + 5)) (fun v => fp (7 * v + 6)) v x y z) q k).1)), (6, .int ((clS (fun v => fp (7 * v + 1)) (fun v => sqD (fun v => fp (7 * v + 4)) (fun v => fp (7 * v + 5)) (fun v => fp (7 * v + 6)) v x y z) q k).2)), (7, .int (nI k)), (8, .int ((fp ((7 * k) + 4)) - x)), (9, .int ((fp ((7 * k) + 5)) - y))]) C (by decide) rfl dX6_nearest_105 ?_
        refine a_aloadn (pc := 107) C 0 rfl rfl dX6_nearest_107 ?_
        refine a_get (pc := 108) C fl_X6_38 0 rfl rfl dX6_nearest_108 ?_
        refine a_bipush (pc := 111) (v := nI 7) C cb_7 dX6_nearest_111 ?_
        refine a_iload (pc := 113) C 7 rfl dX6_nearest_113 ?_
        refine a_imul (pc := 115) (v := nI (7 * k)) C (pk_mul _ _) dX6_nearest_115 ?_
        refine a_bipush (pc := 116) (v := nI 6) C cb_6 dX6_nearest_116 ?_
        refine a_iadd (pc := 118) (v := nI ((7 * k) + 6)) C (nI_add _ _) dX6_nearest_118 ?_
        refine a_iald (pc := 119) C 10 rfl (by omega) (by decide) dX6_nearest_119 ?_
        refine a_iloadn (pc := 120) C 3 rfl rfl dX6_nearest_120 ?_
        refine a_isub (pc := 121) (v := (fp ((7 * k) + 6)) - z) C rfl dX6_nearest_121 ?_
        refine a_istore (pc := 122) (L' := [(0, .ref (b 0)), (1, .int x), (2, .int y), (3, .int z), (4, .int q), (5, .int ((clS (fun v => fp (7 * v + 1)) (fun v => sqD (fun v => fp (7 * v + 4)) (fun v => fp (7 * v + 5)) (fun v => fp (7 * v + 6)) v x y z) q k).1)), (6, .int ((clS (fun v => fp (7 * v + 1)) (fun v => sqD (fun v => fp (7 * v + 4)) (fun v => fp (7 * v + 5)) (fun v => fp (7 * v + 6)) v x y z) q k).2)), (7, .int (nI k)), (8, .int ((fp ((7 * k) + 4)) - x)), (9, .int ((fp ((7 * k) + 5)) - y)), (10, .int ((fp ((7 * k) + 6)) - z))]) C (by decide) rfl dX6_nearest_122 ?_
        refine a_iload (pc := 124) C 8 rfl dX6_nearest_124 ?_
        refine a_iload (pc := 126) C 8 rfl dX6_nearest_126 ?_
        refine a_imul (pc := 128) (v := ((fp ((7 * k) + 4)) - x) * ((fp ((7 * k) + 4)) - x)) C rfl dX6_nearest_128 ?_
        refine a_iload (pc := 129) C 9 rfl dX6_nearest_129 ?_
        refine a_iload (pc := 131) C 9 rfl dX6_nearest_131 ?_
        refine a_imul (pc := 133) (v := ((fp ((7 * k) + 5)) - y) * ((fp ((7 * k) + 5)) - y)) C rfl dX6_nearest_133 ?_
        refine a_iadd (pc := 134) (v := (((fp ((7 * k) + 4)) - x) * ((fp ((7 * k) + 4)) - x)) + (((fp ((7 * k) + 5)) - y) * ((fp ((7 * k) + 5)) - y))) C rfl dX6_nearest_134 ?_
        refine a_iload (pc := 135) C 10 rfl dX6_nearest_135 ?_
        refine a_iload (pc := 137) C 10 rfl dX6_nearest_137 ?_
        refine a_imul (pc := 139) (v := ((fp ((7 * k) + 6)) - z) * ((fp ((7 * k) + 6)) - z)) C rfl dX6_nearest_139 ?_
        refine a_iadd (pc := 140) (v := ((((fp ((7 * k) + 4)) - x) * ((fp ((7 * k) + 4)) - x)) + (((fp ((7 * k) + 5)) - y) * ((fp ((7 * k) + 5)) - y))) + (((fp ((7 * k) + 6)) - z) * ((fp ((7 * k) + 6)) - z))) C rfl dX6_nearest_140 ?_
        refine a_istore (pc := 141) (L' := [(0, .ref (b 0)), (1, .int x), (2, .int y), (3, .int z), (4, .int q), (5, .int ((clS (fun v => fp (7 * v + 1)) (fun v => sqD (fun v => fp (7 * v + 4)) (fun v => fp (7 * v + 5)) (fun v => fp (7 * v + 6)) v x y z) q k).1)), (6, .int ((clS (fun v => fp (7 * v + 1)) (fun v => sqD (fun v => fp (7 * v + 4)) (fun v => fp (7 * v + 5)) (fun v => fp (7 * v + 6)) v x y z) q k).2)), (7, .int (nI k)), (8, .int ((fp ((7 * k) + 4)) - x)), (9, .int ((fp ((7 * k) + 5)) - y)), (10, .int ((fp ((7 * k) + 6)) - z)), (11, .int (((((fp ((7 * k) + 4)) - x) * ((fp ((7 * k) + 4)) - x)) + (((fp ((7 * k) + 5)) - y) * ((fp ((7 * k) + 5)) - y))) + (((fp ((7 * k) + 6)) - z) * ((fp ((7 * k) + 6)) - z))))]) C (by decide) rfl dX6_nearest_141 ?_
        refine a_iload (pc := 143) C 5 rfl dX6_nearest_143 ?_
        refine a_iconst (pc := 145) (v := (-1 : Int32)) C ci_m1 dX6_nearest_145 ?_
        refine a_ic_eq (pc := 146) (tgt := 159) C (by decide) dX6_nearest_146 (fun c2 => ?_) (fun c2 => ?_)
        · refine a_iload (pc := 159) C 7 rfl dX6_nearest_159 ?_
          refine a_istore (pc := 161) (L' := [(0, .ref (b 0)), (1, .int x), (2, .int y), (3, .int z), (4, .int q), (5, .int (nI k)), (6, .int ((clS (fun v => fp (7 * v + 1)) (fun v => sqD (fun v => fp (7 * v + 4)) (fun v => fp (7 * v + 5)) (fun v => fp (7 * v + 6)) v x y z) q k).2)), (7, .int (nI k)), (8, .int ((fp ((7 * k) + 4)) - x)), (9, .int ((fp ((7 * k) + 5)) - y)), (10, .int ((fp ((7 * k) + 6)) - z)), (11, .int (((((fp ((7 * k) + 4)) - x) * ((fp ((7 * k) + 4)) - x)) + (((fp ((7 * k) + 5)) - y) * ((fp ((7 * k) + 5)) - y))) + (((fp ((7 * k) + 6)) - z) * ((fp ((7 * k) + 6)) - z))))]) C (by decide) rfl dX6_nearest_161 ?_
          refine a_iload (pc := 163) C 11 rfl dX6_nearest_163 ?_
          refine a_istore (pc := 165) (L' := [(0, .ref (b 0)), (1, .int x), (2, .int y), (3, .int z), (4, .int q), (5, .int (nI k)), (6, .int (((((fp ((7 * k) + 4)) - x) * ((fp ((7 * k) + 4)) - x)) + (((fp ((7 * k) + 5)) - y) * ((fp ((7 * k) + 5)) - y))) + (((fp ((7 * k) + 6)) - z) * ((fp ((7 * k) + 6)) - z)))), (7, .int (nI k)), (8, .int ((fp ((7 * k) + 4)) - x)), (9, .int ((fp ((7 * k) + 5)) - y)), (10, .int ((fp ((7 * k) + 6)) - z)), (11, .int (((((fp ((7 * k) + 4)) - x) * ((fp ((7 * k) + 4)) - x)) + (((fp ((7 * k) + 5)) - y) * ((fp ((7 * k) + 5)) - y))) + (((fp ((7 * k) + 6)) - z) * ((fp ((7 * k) + 6)) - z))))]) C (by decide) rfl dX6_nearest_165 ?_
          refine a_iinc (pc := 167) (v := nI (k + 1)) (L' := [(0, .ref (b 0)), (1, .int x), (2, .int y), (3, .int z), (4, .int q), (5, .int (nI k)), (6, .int (((((fp ((7 * k) + 4)) - x) * ((fp ((7 * k) + 4)) - x)) + (((fp ((7 * k) + 5)) - y) * ((fp ((7 * k) + 5)) - y))) + (((fp ((7 * k) + 6)) - z) * ((fp ((7 * k) + 6)) - z)))), (7, .int (nI (k + 1))), (8, .int ((fp ((7 * k) + 4)) - x)), (9, .int ((fp ((7 * k) + 5)) - y)), (10, .int ((fp ((7 * k) + 6)) - z)), (11, .int (((((fp ((7 * k) + 4)) - x) * ((fp ((7 * k) + 4)) - x)) + (((fp ((7 * k) + 5)) - y) * ((fp ((7 * k) + 5)) - y))) + (((fp ((7 * k) + 6)) - z) * ((fp ((7 * k) + 6)) - z))))]) C 7 rfl (nI_inc _) (by decide) rfl dX6_nearest_167 ?_
          refine a_goto (pc := 170) (tgt := 40) C (by decide) dX6_nearest_170 ?_
          refine aw_locals (L' := [(0, .ref (b 0)), (1, .int x), (2, .int y), (3, .int z), (4, .int q), (5, .int (nI k)), (6, .int (((((fp ((7 * k) + 4)) - x) * ((fp ((7 * k) + 4)) - x)) + (((fp ((7 * k) + 5)) - y) * ((fp ((7 * k) + 5)) - y))) + (((fp ((7 * k) + 6)) - z) * ((fp ((7 * k) + 6)) - z)))), (7, .int (nI (k + 1)))]) [0, 1, 2, 3, 4, 5, 6, 7] rfl ?_
          refine aw_L (L' := [(0, .ref (b 0)), (1, .int x), (2, .int y), (3, .int z), (4, .int q), (5, .int ((clS (fun v => fp (7 * v + 1)) (fun v => sqD (fun v => fp (7 * v + 4)) (fun v => fp (7 * v + 5)) (fun v => fp (7 * v + 6)) v x y z) q (k + 1)).1)), (6, .int (((((fp ((7 * k) + 4)) - x) * ((fp ((7 * k) + 4)) - x)) + (((fp ((7 * k) + 5)) - y) * ((fp ((7 * k) + 5)) - y))) + (((fp ((7 * k) + 6)) - z) * ((fp ((7 * k) + 6)) - z)))), (7, .int (nI (k + 1)))]) (congrArg (fun zz9 => ([(0, .ref (b 0)), (1, .int x), (2, .int y), (3, .int z), (4, .int q), (5, .int zz9), (6, .int (((((fp ((7 * k) + 4)) - x) * ((fp ((7 * k) + 4)) - x)) + (((fp ((7 * k) + 5)) - y) * ((fp ((7 * k) + 5)) - y))) + (((fp ((7 * k) + 6)) - z) * ((fp ((7 * k) + 6)) - z)))), (7, .int (nI (k + 1)))] : List (Nat × Value))) ((congrArg Prod.fst (clS_y (fs := fun v => fp (7 * v + 1)) (sq := fun v => sqD (fun v => fp (7 * v + 4)) (fun v => fp (7 * v + 5)) (fun v => fp (7 * v + 6)) v x y z) (k := k) (Or.inl c1) (Or.inl c2))).symm : (nI k) = ((clS (fun v => fp (7 * v + 1)) (fun v => sqD (fun v => fp (7 * v + 4)) (fun v => fp (7 * v + 5)) (fun v => fp (7 * v + 6)) v x y z) q (k + 1)).1))) ?_
          refine aw_L (L' := [(0, .ref (b 0)), (1, .int x), (2, .int y), (3, .int z), (4, .int q), (5, .int ((clS (fun v => fp (7 * v + 1)) (fun v => sqD (fun v => fp (7 * v + 4)) (fun v => fp (7 * v + 5)) (fun v => fp (7 * v + 6)) v x y z) q (k + 1)).1)), (6, .int ((clS (fun v => fp (7 * v + 1)) (fun v => sqD (fun v => fp (7 * v + 4)) (fun v => fp (7 * v + 5)) (fun v => fp (7 * v + 6)) v x y z) q (k + 1)).2)), (7, .int (nI (k + 1)))]) (congrArg (fun zz9 => ([(0, .ref (b 0)), (1, .int x), (2, .int y), (3, .int z), (4, .int q), (5, .int ((clS (fun v => fp (7 * v + 1)) (fun v => sqD (fun v => fp (7 * v + 4)) (fun v => fp (7 * v + 5)) (fun v => fp (7 * v + 6)) v x y z) q (k + 1)).1)), (6, .int zz9), (7, .int (nI (k + 1)))] : List (Nat × Value))) ((congrArg Prod.snd (clS_y (fs := fun v => fp (7 * v + 1)) (sq := fun v => sqD (fun v => fp (7 * v + 4)) (fun v => fp (7 * v + 5)) (fun v => fp (7 * v + 6)) v x y z) (k := k) (Or.inl c1) (Or.inl c2))).symm : (((((fp ((7 * k) + 4)) - x) * ((fp ((7 * k) + 4)) - x)) + (((fp ((7 * k) + 5)) - y) * ((fp ((7 * k) + 5)) - y))) + (((fp ((7 * k) + 6)) - z) * ((fp ((7 * k) + 6)) - z))) = ((clS (fun v => fp (7 * v + 1)) (fun v => sqD (fun v => fp (7 * v + 4)) (fun v => fp (7 * v + 5)) (fun v => fp (7 * v + 6)) v x y z) q (k + 1)).2))) ?_
          exact ih (k + 1) (by omega)
        · refine a_iload (pc := 149) C 11 rfl dX6_nearest_149 ?_
          refine a_iload (pc := 151) C 6 rfl dX6_nearest_151 ?_
          refine a_ic_lt (pc := 153) (tgt := 159) C (by decide) dX6_nearest_153 (fun c3 => ?_) (fun c3 => ?_)
          · refine a_iload (pc := 159) C 7 rfl dX6_nearest_159 ?_
            refine a_istore (pc := 161) (L' := [(0, .ref (b 0)), (1, .int x), (2, .int y), (3, .int z), (4, .int q), (5, .int (nI k)), (6, .int ((clS (fun v => fp (7 * v + 1)) (fun v => sqD (fun v => fp (7 * v + 4)) (fun v => fp (7 * v + 5)) (fun v => fp (7 * v + 6)) v x y z) q k).2)), (7, .int (nI k)), (8, .int ((fp ((7 * k) + 4)) - x)), (9, .int ((fp ((7 * k) + 5)) - y)), (10, .int ((fp ((7 * k) + 6)) - z)), (11, .int (((((fp ((7 * k) + 4)) - x) * ((fp ((7 * k) + 4)) - x)) + (((fp ((7 * k) + 5)) - y) * ((fp ((7 * k) + 5)) - y))) + (((fp ((7 * k) + 6)) - z) * ((fp ((7 * k) + 6)) - z))))]) C (by decide) rfl dX6_nearest_161 ?_
            refine a_iload (pc := 163) C 11 rfl dX6_nearest_163 ?_
            refine a_istore (pc := 165) (L' := [(0, .ref (b 0)), (1, .int x), (2, .int y), (3, .int z), (4, .int q), (5, .int (nI k)), (6, .int (((((fp ((7 * k) + 4)) - x) * ((fp ((7 * k) + 4)) - x)) + (((fp ((7 * k) + 5)) - y) * ((fp ((7 * k) + 5)) - y))) + (((fp ((7 * k) + 6)) - z) * ((fp ((7 * k) + 6)) - z)))), (7, .int (nI k)), (8, .int ((fp ((7 * k) + 4)) - x)), (9, .int ((fp ((7 * k) + 5)) - y)), (10, .int ((fp ((7 * k) + 6)) - z)), (11, .int (((((fp ((7 * k) + 4)) - x) * ((fp ((7 * k) + 4)) - x)) + (((fp ((7 * k) + 5)) - y) * ((fp ((7 * k) + 5)) - y))) + (((fp ((7 * k) + 6)) - z) * ((fp ((7 * k) + 6)) - z))))]) C (by decide) rfl dX6_nearest_165 ?_
            refine a_iinc (pc := 167) (v := nI (k + 1)) (L' := [(0, .ref (b 0)), (1, .int x), (2, .int y), (3, .int z), (4, .int q), (5, .int (nI k)), (6, .int (((((fp ((7 * k) + 4)) - x) * ((fp ((7 * k) + 4)) - x)) + (((fp ((7 * k) + 5)) - y) * ((fp ((7 * k) + 5)) - y))) + (((fp ((7 * k) + 6)) - z) * ((fp ((7 * k) + 6)) - z)))), (7, .int (nI (k + 1))), (8, .int ((fp ((7 * k) + 4)) - x)), (9, .int ((fp ((7 * k) + 5)) - y)), (10, .int ((fp ((7 * k) + 6)) - z)), (11, .int (((((fp ((7 * k) + 4)) - x) * ((fp ((7 * k) + 4)) - x)) + (((fp ((7 * k) + 5)) - y) * ((fp ((7 * k) + 5)) - y))) + (((fp ((7 * k) + 6)) - z) * ((fp ((7 * k) + 6)) - z))))]) C 7 rfl (nI_inc _) (by decide) rfl dX6_nearest_167 ?_
            refine a_goto (pc := 170) (tgt := 40) C (by decide) dX6_nearest_170 ?_
            refine aw_locals (L' := [(0, .ref (b 0)), (1, .int x), (2, .int y), (3, .int z), (4, .int q), (5, .int (nI k)), (6, .int (((((fp ((7 * k) + 4)) - x) * ((fp ((7 * k) + 4)) - x)) + (((fp ((7 * k) + 5)) - y) * ((fp ((7 * k) + 5)) - y))) + (((fp ((7 * k) + 6)) - z) * ((fp ((7 * k) + 6)) - z)))), (7, .int (nI (k + 1)))]) [0, 1, 2, 3, 4, 5, 6, 7] rfl ?_
            refine aw_L (L' := [(0, .ref (b 0)), (1, .int x), (2, .int y), (3, .int z), (4, .int q), (5, .int ((clS (fun v => fp (7 * v + 1)) (fun v => sqD (fun v => fp (7 * v + 4)) (fun v => fp (7 * v + 5)) (fun v => fp (7 * v + 6)) v x y z) q (k + 1)).1)), (6, .int (((((fp ((7 * k) + 4)) - x) * ((fp ((7 * k) + 4)) - x)) + (((fp ((7 * k) + 5)) - y) * ((fp ((7 * k) + 5)) - y))) + (((fp ((7 * k) + 6)) - z) * ((fp ((7 * k) + 6)) - z)))), (7, .int (nI (k + 1)))]) (congrArg (fun zz9 => ([(0, .ref (b 0)), (1, .int x), (2, .int y), (3, .int z), (4, .int q), (5, .int zz9), (6, .int (((((fp ((7 * k) + 4)) - x) * ((fp ((7 * k) + 4)) - x)) + (((fp ((7 * k) + 5)) - y) * ((fp ((7 * k) + 5)) - y))) + (((fp ((7 * k) + 6)) - z) * ((fp ((7 * k) + 6)) - z)))), (7, .int (nI (k + 1)))] : List (Nat × Value))) ((congrArg Prod.fst (clS_y (fs := fun v => fp (7 * v + 1)) (sq := fun v => sqD (fun v => fp (7 * v + 4)) (fun v => fp (7 * v + 5)) (fun v => fp (7 * v + 6)) v x y z) (k := k) (Or.inl c1) (Or.inr c3))).symm : (nI k) = ((clS (fun v => fp (7 * v + 1)) (fun v => sqD (fun v => fp (7 * v + 4)) (fun v => fp (7 * v + 5)) (fun v => fp (7 * v + 6)) v x y z) q (k + 1)).1))) ?_
            refine aw_L (L' := [(0, .ref (b 0)), (1, .int x), (2, .int y), (3, .int z), (4, .int q), (5, .int ((clS (fun v => fp (7 * v + 1)) (fun v => sqD (fun v => fp (7 * v + 4)) (fun v => fp (7 * v + 5)) (fun v => fp (7 * v + 6)) v x y z) q (k + 1)).1)), (6, .int ((clS (fun v => fp (7 * v + 1)) (fun v => sqD (fun v => fp (7 * v + 4)) (fun v => fp (7 * v + 5)) (fun v => fp (7 * v + 6)) v x y z) q (k + 1)).2)), (7, .int (nI (k + 1)))]) (congrArg (fun zz9 => ([(0, .ref (b 0)), (1, .int x), (2, .int y), (3, .int z), (4, .int q), (5, .int ((clS (fun v => fp (7 * v + 1)) (fun v => sqD (fun v => fp (7 * v + 4)) (fun v => fp (7 * v + 5)) (fun v => fp (7 * v + 6)) v x y z) q (k + 1)).1)), (6, .int zz9), (7, .int (nI (k + 1)))] : List (Nat × Value))) ((congrArg Prod.snd (clS_y (fs := fun v => fp (7 * v + 1)) (sq := fun v => sqD (fun v => fp (7 * v + 4)) (fun v => fp (7 * v + 5)) (fun v => fp (7 * v + 6)) v x y z) (k := k) (Or.inl c1) (Or.inr c3))).symm : (((((fp ((7 * k) + 4)) - x) * ((fp ((7 * k) + 4)) - x)) + (((fp ((7 * k) + 5)) - y) * ((fp ((7 * k) + 5)) - y))) + (((fp ((7 * k) + 6)) - z) * ((fp ((7 * k) + 6)) - z))) = ((clS (fun v => fp (7 * v + 1)) (fun v => sqD (fun v => fp (7 * v + 4)) (fun v => fp (7 * v + 5)) (fun v => fp (7 * v + 6)) v x y z) q (k + 1)).2))) ?_
            exact ih (k + 1) (by omega)
          · refine a_goto (pc := 156) (tgt := 167) C (by decide) dX6_nearest_156 ?_
            refine a_iinc (pc := 167) (v := nI (k + 1)) (L' := [(0, .ref (b 0)), (1, .int x), (2, .int y), (3, .int z), (4, .int q), (5, .int ((clS (fun v => fp (7 * v + 1)) (fun v => sqD (fun v => fp (7 * v + 4)) (fun v => fp (7 * v + 5)) (fun v => fp (7 * v + 6)) v x y z) q k).1)), (6, .int ((clS (fun v => fp (7 * v + 1)) (fun v => sqD (fun v => fp (7 * v + 4)) (fun v => fp (7 * v + 5)) (fun v => fp (7 * v + 6)) v x y z) q k).2)), (7, .int (nI (k + 1))), (8, .int ((fp ((7 * k) + 4)) - x)), (9, .int ((fp ((7 * k) + 5)) - y)), (10, .int ((fp ((7 * k) + 6)) - z)), (11, .int (((((fp ((7 * k) + 4)) - x) * ((fp ((7 * k) + 4)) - x)) + (((fp ((7 * k) + 5)) - y) * ((fp ((7 * k) + 5)) - y))) + (((fp ((7 * k) + 6)) - z) * ((fp ((7 * k) + 6)) - z))))]) C 7 rfl (nI_inc _) (by decide) rfl dX6_nearest_167 ?_
            refine a_goto (pc := 170) (tgt := 40) C (by decide) dX6_nearest_170 ?_
            refine aw_locals (L' := [(0, .ref (b 0)), (1, .int x), (2, .int y), (3, .int z), (4, .int q), (5, .int ((clS (fun v => fp (7 * v + 1)) (fun v => sqD (fun v => fp (7 * v + 4)) (fun v => fp (7 * v + 5)) (fun v => fp (7 * v + 6)) v x y z) q k).1)), (6, .int ((clS (fun v => fp (7 * v + 1)) (fun v => sqD (fun v => fp (7 * v + 4)) (fun v => fp (7 * v + 5)) (fun v => fp (7 * v + 6)) v x y z) q k).2)), (7, .int (nI (k + 1)))]) [0, 1, 2, 3, 4, 5, 6, 7] rfl ?_
            refine aw_L (L' := [(0, .ref (b 0)), (1, .int x), (2, .int y), (3, .int z), (4, .int q), (5, .int ((clS (fun v => fp (7 * v + 1)) (fun v => sqD (fun v => fp (7 * v + 4)) (fun v => fp (7 * v + 5)) (fun v => fp (7 * v + 6)) v x y z) q (k + 1)).1)), (6, .int ((clS (fun v => fp (7 * v + 1)) (fun v => sqD (fun v => fp (7 * v + 4)) (fun v => fp (7 * v + 5)) (fun v => fp (7 * v + 6)) v x y z) q k).2)), (7, .int (nI (k + 1)))]) (congrArg (fun zz9 => ([(0, .ref (b 0)), (1, .int x), (2, .int y), (3, .int z), (4, .int q), (5, .int zz9), (6, .int ((clS (fun v => fp (7 * v + 1)) (fun v => sqD (fun v => fp (7 * v + 4)) (fun v => fp (7 * v + 5)) (fun v => fp (7 * v + 6)) v x y z) q k).2)), (7, .int (nI (k + 1)))] : List (Nat × Value))) ((congrArg Prod.fst (clS_n2 (fs := fun v => fp (7 * v + 1)) (sq := fun v => sqD (fun v => fp (7 * v + 4)) (fun v => fp (7 * v + 5)) (fun v => fp (7 * v + 6)) v x y z) (k := k) c2 (Int32.not_lt.mp c3))).symm : ((clS (fun v => fp (7 * v + 1)) (fun v => sqD (fun v => fp (7 * v + 4)) (fun v => fp (7 * v + 5)) (fun v => fp (7 * v + 6)) v x y z) q k).1) = ((clS (fun v => fp (7 * v + 1)) (fun v => sqD (fun v => fp (7 * v + 4)) (fun v => fp (7 * v + 5)) (fun v => fp (7 * v + 6)) v x y z) q (k + 1)).1))) ?_
            refine aw_L (L' := [(0, .ref (b 0)), (1, .int x), (2, .int y), (3, .int z), (4, .int q), (5, .int ((clS (fun v => fp (7 * v + 1)) (fun v => sqD (fun v => fp (7 * v + 4)) (fun v => fp (7 * v + 5)) (fun v => fp (7 * v + 6)) v x y z) q (k + 1)).1)), (6, .int ((clS (fun v => fp (7 * v + 1)) (fun v => sqD (fun v => fp (7 * v + 4)) (fun v => fp (7 * v + 5)) (fun v => fp (7 * v + 6)) v x y z) q (k + 1)).2)), (7, .int (nI (k + 1)))]) (congrArg (fun zz9 => ([(0, .ref (b 0)), (1, .int x), (2, .int y), (3, .int z), (4, .int q), (5, .int ((clS (fun v => fp (7 * v + 1)) (fun v => sqD (fun v => fp (7 * v + 4)) (fun v => fp (7 * v + 5)) (fun v => fp (7 * v + 6)) v x y z) q (k + 1)).1)), (6, .int zz9), (7, .int (nI (k + 1)))] : List (Nat × Value))) ((congrArg Prod.snd (clS_n2 (fs := fun v => fp (7 * v + 1)) (sq := fun v => sqD (fun v => fp (7 * v + 4)) (fun v => fp (7 * v + 5)) (fun v => fp (7 * v + 6)) v x y z) (k := k) c2 (Int32.not_lt.mp c3))).symm : ((clS (fun v => fp (7 * v + 1)) (fun v => sqD (fun v => fp (7 * v + 4)) (fun v => fp (7 * v + 5)) (fun v => fp (7 * v + 6)) v x y z) q k).2) = ((clS (fun v => fp (7 * v + 1)) (fun v => sqD (fun v => fp (7 * v + 4)) (fun v => fp (7 * v + 5)) (fun v => fp (7 * v + 6)) v x y z) q (k + 1)).2))) ?_
            exact ih (k + 1) (by omega)
      · refine a_aloadn (pc := 55) C 0 rfl rfl dX6_nearest_55 ?_
        refine a_get (pc := 56) C fl_X6_38 0 rfl rfl dX6_nearest_56 ?_
        refine a_bipush (pc := 59) (v := nI 7) C cb_7 dX6_nearest_59 ?_
        refine a_iload (pc := 61) C 7 rfl dX6_nearest_61 ?_
        refine a_imul (pc := 63) (v := nI (7 * k)) C (pk_mul _ _) dX6_nearest_63 ?_
        refine a_iconst (pc := 64) (v := nI 1) C ci_1 dX6_nearest_64 ?_
        refine a_iadd (pc := 65) (v := nI ((7 * k) + 1)) C (nI_add _ _) dX6_nearest_65 ?_
        refine a_iald (pc := 66) C 10 rfl (by omega) (by decide) dX6_nearest_66 ?_
        refine a_iload (pc := 67) C 4 rfl dX6_nearest_67 ?_
        refine a_ic_eq (pc := 69) (tgt := 75) C (by decide) dX6_nearest_69 (fun c4 => ?_) (fun c4 => ?_)
        · refine a_aloadn (pc := 75) C 0 rfl rfl dX6_nearest_75 ?_
          refine a_get (pc := 76) C fl_X6_38 0 rfl rfl dX6_nearest_76 ?_
          refine a_bipush (pc := 79) (v := nI 7) C cb_7 dX6_nearest_79 ?_
          refine a_iload (pc := 81) C 7 rfl dX6_nearest_81 ?_
          refine a_imul (pc := 83) (v := nI (7 * k)) C (pk_mul _ _) dX6_nearest_83 ?_
          refine a_iconst (pc := 84) (v := nI 4) C ci_4 dX6_nearest_84 ?_
          refine a_iadd (pc := 85) (v := nI ((7 * k) + 4)) C (nI_add _ _) dX6_nearest_85 ?_
          refine a_iald (pc := 86) C 10 rfl (by omega) (by decide) dX6_nearest_86 ?_
          refine a_iloadn (pc := 87) C 1 rfl rfl dX6_nearest_87 ?_
          refine a_isub (pc := 88) (v := (fp ((7 * k) + 4)) - x) C rfl dX6_nearest_88 ?_
          refine a_istore (pc := 89) (L' := [(0, .ref (b 0)), (1, .int x), (2, .int y), (3, .int z), (4, .int q), (5, .int ((clS (fun v => fp (7 * v + 1)) (fun v => sqD (fun v => fp (7 * v + 4)) (fun v => fp (7 * v + 5)) (fun v => fp (7 * v + 6)) v x y z) q k).1)), (6, .int ((clS (fun v => fp (7 * v + 1)) (fun v => sqD (fun v => fp (7 * v + 4)) (fun v => fp (7 * v + 5)) (fun v => fp (7 * v + 6)) v x y z) q k).2)), (7, .int (nI k)), (8, .int ((fp ((7 * k) + 4)) - x))]) C (by decide) rfl dX6_nearest_89 ?_
          refine a_aloadn (pc := 91) C 0 rfl rfl dX6_nearest_91 ?_
          refine a_get (pc := 92) C fl_X6_38 0 rfl rfl dX6_nearest_92 ?_
          refine a_bipush (pc := 95) (v := nI 7) C cb_7 dX6_nearest_95 ?_
          refine a_iload (pc := 97) C 7 rfl dX6_nearest_97 ?_
          refine a_imul (pc := 99) (v := nI (7 * k)) C (pk_mul _ _) dX6_nearest_99 ?_
          refine a_iconst (pc := 100) (v := nI 5) C ci_5 dX6_nearest_100 ?_
          refine a_iadd (pc := 101) (v := nI ((7 * k) + 5)) C (nI_add _ _) dX6_nearest_101 ?_
          refine a_iald (pc := 102) C 10 rfl (by omega) (by decide) dX6_nearest_102 ?_
          refine a_iloadn (pc := 103) C 2 rfl rfl dX6_nearest_103 ?_
          refine a_isub (pc := 104) (v := (fp ((7 * k) + 5)) - y) C rfl dX6_nearest_104 ?_
          refine a_istore (pc := 105) (L' := [(0, .ref (b 0)), (1, .int x), (2, .int y), (3, .int z), (4, .int q), (5, .int ((clS (fun v => fp (7 * v + 1)) (fun v => sqD (fun v => fp (7 * v + 4)) (fun v => fp (7 * v + 5)) (fun v => fp (7 * v + 6)) v x y z) q k).1)), (6, .int ((clS (fun v => fp (7 * v + 1)) (fun v => sqD (fun v => fp (7 * v + 4)) (fun v => fp (7 * v + 5)) (fun v => fp (7 * v + 6)) v x y z) q k).2)), (7, .int (nI k)), (8, .int ((fp ((7 * k) + 4)) - x)), (9, .int ((fp ((7 * k) + 5)) - y))]) C (by decide) rfl dX6_nearest_105 ?_
          refine a_aloadn (pc := 107) C 0 rfl rfl dX6_nearest_107 ?_
          refine a_get (pc := 108) C fl_X6_38 0 rfl rfl dX6_nearest_108 ?_
          refine a_bipush (pc := 111) (v := nI 7) C cb_7 dX6_nearest_111 ?_
          refine a_iload (pc := 113) C 7 rfl dX6_nearest_113 ?_
          refine a_imul (pc := 115) (v := nI (7 * k)) C (pk_mul _ _) dX6_nearest_115 ?_
          refine a_bipush (pc := 116) (v := nI 6) C cb_6 dX6_nearest_116 ?_
          refine a_iadd (pc := 118) (v := nI ((7 * k) + 6)) C (nI_add _ _) dX6_nearest_118 ?_
          refine a_iald (pc := 119) C 10 rfl (by omega) (by decide) dX6_nearest_119 ?_
          refine a_iloadn (pc := 120) C 3 rfl rfl dX6_nearest_120 ?_
          refine a_isub (pc := 121) (v := (fp ((7 * k) + 6)) - z) C rfl dX6_nearest_121 ?_
          refine a_istore (pc := 122) (L' := [(0, .ref (b 0)), (1, .int x), (2, .int y), (3, .int z), (4, .int q), (5, .int ((clS (fun v => fp (7 * v + 1)) (fun v => sqD (fun v => fp (7 * v + 4)) (fun v => fp (7 * v + 5)) (fun v => fp (7 * v + 6)) v x y z) q k).1)), (6, .int ((clS (fun v => fp (7 * v + 1)) (fun v => sqD (fun v => fp (7 * v + 4)) (fun v => fp (7 * v + 5)) (fun v => fp (7 * v + 6)) v x y z) q k).2)), (7, .int (nI k)), (8, .int ((fp ((7 * k) + 4)) - x)), (9, .int ((fp ((7 * k) + 5)) - y)), (10, .int ((fp ((7 * k) + 6)) - z))]) C (by decide) rfl dX6_nearest_122 ?_
          refine a_iload (pc := 124) C 8 rfl dX6_nearest_124 ?_
          refine a_iload (pc := 126) C 8 rfl dX6_nearest_126 ?_
          refine a_imul (pc := 128) (v := ((fp ((7 * k) + 4)) - x) * ((fp ((7 * k) + 4)) - x)) C rfl dX6_nearest_128 ?_
          refine a_iload (pc := 129) C 9 rfl dX6_nearest_129 ?_
          refine a_iload (pc := 131) C 9 rfl dX6_nearest_131 ?_
          refine a_imul (pc := 133) (v := ((fp ((7 * k) + 5)) - y) * ((fp ((7 * k) + 5)) - y)) C rfl dX6_nearest_133 ?_
          refine a_iadd (pc := 134) (v := (((fp ((7 * k) + 4)) - x) * ((fp ((7 * k) + 4)) - x)) + (((fp ((7 * k) + 5)) - y) * ((fp ((7 * k) + 5)) - y))) C rfl dX6_nearest_134 ?_
          refine a_iload (pc := 135) C 10 rfl dX6_nearest_135 ?_
          refine a_iload (pc := 137) C 10 rfl dX6_nearest_137 ?_
          refine a_imul (pc := 139) (v := ((fp ((7 * k) + 6)) - z) * ((fp ((7 * k) + 6)) - z)) C rfl dX6_nearest_139 ?_
          refine a_iadd (pc := 140) (v := ((((fp ((7 * k) + 4)) - x) * ((fp ((7 * k) + 4)) - x)) + (((fp ((7 * k) + 5)) - y) * ((fp ((7 * k) + 5)) - y))) + (((fp ((7 * k) + 6)) - z) * ((fp ((7 * k) + 6)) - z))) C rfl dX6_nearest_140 ?_
          refine a_istore (pc := 141) (L' := [(0, .ref (b 0)), (1, .int x), (2, .int y), (3, .int z), (4, .int q), (5, .int ((clS (fun v => fp (7 * v + 1)) (fun v => sqD (fun v => fp (7 * v + 4)) (fun v => fp (7 * v + 5)) (fun v => fp (7 * v + 6)) v x y z) q k).1)), (6, .int ((clS (fun v => fp (7 * v + 1)) (fun v => sqD (fun v => fp (7 * v + 4)) (fun v => fp (7 * v + 5)) (fun v => fp (7 * v + 6)) v x y z) q k).2)), (7, .int (nI k)), (8, .int ((fp ((7 * k) + 4)) - x)), (9, .int ((fp ((7 * k) + 5)) - y)), (10, .int ((fp ((7 * k) + 6)) - z)), (11, .int (((((fp ((7 * k) + 4)) - x) * ((fp ((7 * k) + 4)) - x)) + (((fp ((7 * k) + 5)) - y) * ((fp ((7 * k) + 5)) - y))) + (((fp ((7 * k) + 6)) - z) * ((fp ((7 * k) + 6)) - z))))]) C (by decide) rfl dX6_nearest_141 ?_
          refine a_iload (pc := 143) C 5 rfl dX6_nearest_143 ?_
          refine a_iconst (pc := 145) (v := (-1 : Int32)) C ci_m1 dX6_nearest_145 ?_
          refine a_ic_eq (pc := 146) (tgt := 159) C (by decide) dX6_nearest_146 (fun c5 => ?_) (fun c5 => ?_)
          · refine a_iload (pc := 159) C 7 rfl dX6_nearest_159 ?_
            refine a_istore (pc := 161) (L' := [(0, .ref (b 0)), (1, .int x), (2, .int y), (3, .int z), (4, .int q), (5, .int (nI k)), (6, .int ((clS (fun v => fp (7 * v + 1)) (fun v => sqD (fun v => fp (7 * v + 4)) (fun v => fp (7 * v + 5)) (fun v => fp (7 * v + 6)) v x y z) q k).2)), (7, .int (nI k)), (8, .int ((fp ((7 * k) + 4)) - x)), (9, .int ((fp ((7 * k) + 5)) - y)), (10, .int ((fp ((7 * k) + 6)) - z)), (11, .int (((((fp ((7 * k) + 4)) - x) * ((fp ((7 * k) + 4)) - x)) + (((fp ((7 * k) + 5)) - y) * ((fp ((7 * k) + 5)) - y))) + (((fp ((7 * k) + 6)) - z) * ((fp ((7 * k) + 6)) - z))))]) C (by decide) rfl dX6_nearest_161 ?_
            refine a_iload (pc := 163) C 11 rfl dX6_nearest_163 ?_
            refine a_istore (pc := 165) (L' := [(0, .ref (b 0)), (1, .int x), (2, .int y), (3, .int z), (4, .int q), (5, .int (nI k)), (6, .int (((((fp ((7 * k) + 4)) - x) * ((fp ((7 * k) + 4)) - x)) + (((fp ((7 * k) + 5)) - y) * ((fp ((7 * k) + 5)) - y))) + (((fp ((7 * k) + 6)) - z) * ((fp ((7 * k) + 6)) - z)))), (7, .int (nI k)), (8, .int ((fp ((7 * k) + 4)) - x)), (9, .int ((fp ((7 * k) + 5)) - y)), (10, .int ((fp ((7 * k) + 6)) - z)), (11, .int (((((fp ((7 * k) + 4)) - x) * ((fp ((7 * k) + 4)) - x)) + (((fp ((7 * k) + 5)) - y) * ((fp ((7 * k) + 5)) - y))) + (((fp ((7 * k) + 6)) - z) * ((fp ((7 * k) + 6)) - z))))]) C (by decide) rfl dX6_nearest_165 ?_
            refine a_iinc (pc := 167) (v := nI (k + 1)) (L' := [(0, .ref (b 0)), (1, .int x), (2, .int y), (3, .int z), (4, .int q), (5, .int (nI k)), (6, .int (((((fp ((7 * k) + 4)) - x) * ((fp ((7 * k) + 4)) - x)) + (((fp ((7 * k) + 5)) - y) * ((fp ((7 * k) + 5)) - y))) + (((fp ((7 * k) + 6)) - z) * ((fp ((7 * k) + 6)) - z)))), (7, .int (nI (k + 1))), (8, .int ((fp ((7 * k) + 4)) - x)), (9, .int ((fp ((7 * k) + 5)) - y)), (10, .int ((fp ((7 * k) + 6)) - z)), (11, .int (((((fp ((7 * k) + 4)) - x) * ((fp ((7 * k) + 4)) - x)) + (((fp ((7 * k) + 5)) - y) * ((fp ((7 * k) + 5)) - y))) + (((fp ((7 * k) + 6)) - z) * ((fp ((7 * k) + 6)) - z))))]) C 7 rfl (nI_inc _) (by decide) rfl dX6_nearest_167 ?_
            refine a_goto (pc := 170) (tgt := 40) C (by decide) dX6_nearest_170 ?_
            refine aw_locals (L' := [(0, .ref (b 0)), (1, .int x), (2, .int y), (3, .int z), (4, .int q), (5, .int (nI k)), (6, .int (((((fp ((7 * k) + 4)) - x) * ((fp ((7 * k) + 4)) - x)) + (((fp ((7 * k) + 5)) - y) * ((fp ((7 * k) + 5)) - y))) + (((fp ((7 * k) + 6)) - z) * ((fp ((7 * k) + 6)) - z)))), (7, .int (nI (k + 1)))]) [0, 1, 2, 3, 4, 5, 6, 7] rfl ?_
            refine aw_L (L' := [(0, .ref (b 0)), (1, .int x), (2, .int y), (3, .int z), (4, .int q), (5, .int ((clS (fun v => fp (7 * v + 1)) (fun v => sqD (fun v => fp (7 * v + 4)) (fun v => fp (7 * v + 5)) (fun v => fp (7 * v + 6)) v x y z) q (k + 1)).1)), (6, .int (((((fp ((7 * k) + 4)) - x) * ((fp ((7 * k) + 4)) - x)) + (((fp ((7 * k) + 5)) - y) * ((fp ((7 * k) + 5)) - y))) + (((fp ((7 * k) + 6)) - z) * ((fp ((7 * k) + 6)) - z)))), (7, .int (nI (k + 1)))]) (congrArg (fun zz9 => ([(0, .ref (b 0)), (1, .int x), (2, .int y), (3, .int z), (4, .int q), (5, .int zz9), (6, .int (((((fp ((7 * k) + 4)) - x) * ((fp ((7 * k) + 4)) - x)) + (((fp ((7 * k) + 5)) - y) * ((fp ((7 * k) + 5)) - y))) + (((fp ((7 * k) + 6)) - z) * ((fp ((7 * k) + 6)) - z)))), (7, .int (nI (k + 1)))] : List (Nat × Value))) ((congrArg Prod.fst (clS_y (fs := fun v => fp (7 * v + 1)) (sq := fun v => sqD (fun v => fp (7 * v + 4)) (fun v => fp (7 * v + 5)) (fun v => fp (7 * v + 6)) v x y z) (k := k) (Or.inr c4) (Or.inl c5))).symm : (nI k) = ((clS (fun v => fp (7 * v + 1)) (fun v => sqD (fun v => fp (7 * v + 4)) (fun v => fp (7 * v + 5)) (fun v => fp (7 * v + 6)) v x y z) q (k + 1)).1))) ?_
            refine aw_L (L' := [(0, .ref (b 0)), (1, .int x), (2, .int y), (3, .int z), (4, .int q), (5, .int ((clS (fun v => fp (7 * v + 1)) (fun v => sqD (fun v => fp (7 * v + 4)) (fun v => fp (7 * v + 5)) (fun v => fp (7 * v + 6)) v x y z) q (k + 1)).1)), (6, .int ((clS (fun v => fp (7 * v + 1)) (fun v => sqD (fun v => fp (7 * v + 4)) (fun v => fp (7 * v + 5)) (fun v => fp (7 * v + 6)) v x y z) q (k + 1)).2)), (7, .int (nI (k + 1)))]) (congrArg (fun zz9 => ([(0, .ref (b 0)), (1, .int x), (2, .int y), (3, .int z), (4, .int q), (5, .int ((clS (fun v => fp (7 * v + 1)) (fun v => sqD (fun v => fp (7 * v + 4)) (fun v => fp (7 * v + 5)) (fun v => fp (7 * v + 6)) v x y z) q (k + 1)).1)), (6, .int zz9), (7, .int (nI (k + 1)))] : List (Nat × Value))) ((congrArg Prod.snd (clS_y (fs := fun v => fp (7 * v + 1)) (sq := fun v => sqD (fun v => fp (7 * v + 4)) (fun v => fp (7 * v + 5)) (fun v => fp (7 * v + 6)) v x y z) (k := k) (Or.inr c4) (Or.inl c5))).symm : (((((fp ((7 * k) + 4)) - x) * ((fp ((7 * k) + 4)) - x)) + (((fp ((7 * k) + 5)) - y) * ((fp ((7 * k) + 5)) - y))) + (((fp ((7 * k) + 6)) - z) * ((fp ((7 * k) + 6)) - z))) = ((clS (fun v => fp (7 * v + 1)) (fun v => sqD (fun v => fp (7 * v + 4)) (fun v => fp (7 * v + 5)) (fun v => fp (7 * v + 6)) v x y z) q (k + 1)).2))) ?_
            exact ih (k + 1) (by omega)
          · refine a_iload (pc := 149) C 11 rfl dX6_nearest_149 ?_
            refine a_iload (pc := 151) C 6 rfl dX6_nearest_151 ?_
            refine a_ic_lt (pc := 153) (tgt := 159) C (by decide) dX6_nearest_153 (fun c6 => ?_) (fun c6 => ?_)
            · refine a_iload (pc := 159) C 7 rfl dX6_nearest_159 ?_
              refine a_istore (pc := 161) (L' := [(0, .ref (b 0)), (1, .int x), (2, .int y), (3, .int z), (4, .int q), (5, .int (nI k)), (6, .int ((clS (fun v => fp (7 * v + 1)) (fun v => sqD (fun v => fp (7 * v + 4)) (fun v => fp (7 * v + 5)) (fun v => fp (7 * v + 6)) v x y z) q k).2)), (7, .int (nI k)), (8, .int ((fp ((7 * k) + 4)) - x)), (9, .int ((fp ((7 * k) + 5)) - y)), (10, .int ((fp ((7 * k) + 6)) - z)), (11, .int (((((fp ((7 * k) + 4)) - x) * ((fp ((7 * k) + 4)) - x)) + (((fp ((7 * k) + 5)) - y) * ((fp ((7 * k) + 5)) - y))) + (((fp ((7 * k) + 6)) - z) * ((fp ((7 * k) + 6)) - z))))]) C (by decide) rfl dX6_nearest_161 ?_
              refine a_iload (pc := 163) C 11 rfl dX6_nearest_163 ?_
              refine a_istore (pc := 165) (L' := [(0, .ref (b 0)), (1, .int x), (2, .int y), (3, .int z), (4, .int q), (5, .int (nI k)), (6, .int (((((fp ((7 * k) + 4)) - x) * ((fp ((7 * k) + 4)) - x)) + (((fp ((7 * k) + 5)) - y) * ((fp ((7 * k) + 5)) - y))) + (((fp ((7 * k) + 6)) - z) * ((fp ((7 * k) + 6)) - z)))), (7, .int (nI k)), (8, .int ((fp ((7 * k) + 4)) - x)), (9, .int ((fp ((7 * k) + 5)) - y)), (10, .int ((fp ((7 * k) + 6)) - z)), (11, .int (((((fp ((7 * k) + 4)) - x) * ((fp ((7 * k) + 4)) - x)) + (((fp ((7 * k) + 5)) - y) * ((fp ((7 * k) + 5)) - y))) + (((fp ((7 * k) + 6)) - z) * ((fp ((7 * k) + 6)) - z))))]) C (by decide) rfl dX6_nearest_165 ?_
              refine a_iinc (pc := 167) (v := nI (k + 1)) (L' := [(0, .ref (b 0)), (1, .int x), (2, .int y), (3, .int z), (4, .int q), (5, .int (nI k)), (6, .int (((((fp ((7 * k) + 4)) - x) * ((fp ((7 * k) + 4)) - x)) + (((fp ((7 * k) + 5)) - y) * ((fp ((7 * k) + 5)) - y))) + (((fp ((7 * k) + 6)) - z) * ((fp ((7 * k) + 6)) - z)))), (7, .int (nI (k + 1))), (8, .int ((fp ((7 * k) + 4)) - x)), (9, .int ((fp ((7 * k) + 5)) - y)), (10, .int ((fp ((7 * k) + 6)) - z)), (11, .int (((((fp ((7 * k) + 4)) - x) * ((fp ((7 * k) + 4)) - x)) + (((fp ((7 * k) + 5)) - y) * ((fp ((7 * k) + 5)) - y))) + (((fp ((7 * k) + 6)) - z) * ((fp ((7 * k) + 6)) - z))))]) C 7 rfl (nI_inc _) (by decide) rfl dX6_nearest_167 ?_
              refine a_goto (pc := 170) (tgt := 40) C (by decide) dX6_nearest_170 ?_
              refine aw_locals (L' := [(0, .ref (b 0)), (1, .int x), (2, .int y), (3, .int z), (4, .int q), (5, .int (nI k)), (6, .int (((((fp ((7 * k) + 4)) - x) * ((fp ((7 * k) + 4)) - x)) + (((fp ((7 * k) + 5)) - y) * ((fp ((7 * k) + 5)) - y))) + (((fp ((7 * k) + 6)) - z) * ((fp ((7 * k) + 6)) - z)))), (7, .int (nI (k + 1)))]) [0, 1, 2, 3, 4, 5, 6, 7] rfl ?_
              refine aw_L (L' := [(0, .ref (b 0)), (1, .int x), (2, .int y), (3, .int z), (4, .int q), (5, .int ((clS (fun v => fp (7 * v + 1)) (fun v => sqD (fun v => fp (7 * v + 4)) (fun v => fp (7 * v + 5)) (fun v => fp (7 * v + 6)) v x y z) q (k + 1)).1)), (6, .int (((((fp ((7 * k) + 4)) - x) * ((fp ((7 * k) + 4)) - x)) + (((fp ((7 * k) + 5)) - y) * ((fp ((7 * k) + 5)) - y))) + (((fp ((7 * k) + 6)) - z) * ((fp ((7 * k) + 6)) - z)))), (7, .int (nI (k + 1)))]) (congrArg (fun zz9 => ([(0, .ref (b 0)), (1, .int x), (2, .int y), (3, .int z), (4, .int q), (5, .int zz9), (6, .int (((((fp ((7 * k) + 4)) - x) * ((fp ((7 * k) + 4)) - x)) + (((fp ((7 * k) + 5)) - y) * ((fp ((7 * k) + 5)) - y))) + (((fp ((7 * k) + 6)) - z) * ((fp ((7 * k) + 6)) - z)))), (7, .int (nI (k + 1)))] : List (Nat × Value))) ((congrArg Prod.fst (clS_y (fs := fun v => fp (7 * v + 1)) (sq := fun v => sqD (fun v => fp (7 * v + 4)) (fun v => fp (7 * v + 5)) (fun v => fp (7 * v + 6)) v x y z) (k := k) (Or.inr c4) (Or.inr c6))).symm : (nI k) = ((clS (fun v => fp (7 * v + 1)) (fun v => sqD (fun v => fp (7 * v + 4)) (fun v => fp (7 * v + 5)) (fun v => fp (7 * v + 6)) v x y z) q (k + 1)).1))) ?_
              refine aw_L (L' := [(0, .ref (b 0)), (1, .int x), (2, .int y), (3, .int z), (4, .int q), (5, .int ((clS (fun v => fp (7 * v + 1)) (fun v => sqD (fun v => fp (7 * v + 4)) (fun v => fp (7 * v + 5)) (fun v => fp (7 * v + 6)) v x y z) q (k + 1)).1)), (6, .int ((clS (fun v => fp (7 * v + 1)) (fun v => sqD (fun v => fp (7 * v + 4)) (fun v => fp (7 * v + 5)) (fun v => fp (7 * v + 6)) v x y z) q (k + 1)).2)), (7, .int (nI (k + 1)))]) (congrArg (fun zz9 => ([(0, .ref (b 0)), (1, .int x), (2, .int y), (3, .int z), (4, .int q), (5, .int ((clS (fun v => fp (7 * v + 1)) (fun v => sqD (fun v => fp (7 * v + 4)) (fun v => fp (7 * v + 5)) (fun v => fp (7 * v + 6)) v x y z) q (k + 1)).1)), (6, .int zz9), (7, .int (nI (k + 1)))] : List (Nat × Value))) ((congrArg Prod.snd (clS_y (fs := fun v => fp (7 * v + 1)) (sq := fun v => sqD (fun v => fp (7 * v + 4)) (fun v => fp (7 * v + 5)) (fun v => fp (7 * v + 6)) v x y z) (k := k) (Or.inr c4) (Or.inr c6))).symm : (((((fp ((7 * k) + 4)) - x) * ((fp ((7 * k) + 4)) - x)) + (((fp ((7 * k) + 5)) - y) * ((fp ((7 * k) + 5)) - y))) + (((fp ((7 * k) + 6)) - z) * ((fp ((7 * k) + 6)) - z))) = ((clS (fun v => fp (7 * v + 1)) (fun v => sqD (fun v => fp (7 * v + 4)) (fun v => fp (7 * v + 5)) (fun v => fp (7 * v + 6)) v x y z) q (k + 1)).2))) ?_
              exact ih (k + 1) (by omega)
            · refine a_goto (pc := 156) (tgt := 167) C (by decide) dX6_nearest_156 ?_
              refine a_iinc (pc := 167) (v := nI (k + 1)) (L' := [(0, .ref (b 0)), (1, .int x), (2, .int y), (3, .int z), (4, .int q), (5, .int ((clS (fun v => fp (7 * v + 1)) (fun v => sqD (fun v => fp (7 * v + 4)) (fun v => fp (7 * v + 5)) (fun v => fp (7 * v + 6)) v x y z) q k).1)), (6, .int ((clS (fun v => fp (7 * v + 1)) (fun v => sqD (fun v => fp (7 * v + 4)) (fun v => fp (7 * v + 5)) (fun v => fp (7 * v + 6)) v x y z) q k).2)), (7, .int (nI (k + 1))), (8, .int ((fp ((7 * k) + 4)) - x)), (9, .int ((fp ((7 * k) + 5)) - y)), (10, .int ((fp ((7 * k) + 6)) - z)), (11, .int (((((fp ((7 * k) + 4)) - x) * ((fp ((7 * k) + 4)) - x)) + (((fp ((7 * k) + 5)) - y) * ((fp ((7 * k) + 5)) - y))) + (((fp ((7 * k) + 6)) - z) * ((fp ((7 * k) + 6)) - z))))]) C 7 rfl (nI_inc _) (by decide) rfl dX6_nearest_167 ?_
              refine a_goto (pc := 170) (tgt := 40) C (by decide) dX6_nearest_170 ?_
              refine aw_locals (L' := [(0, .ref (b 0)), (1, .int x), (2, .int y), (3, .int z), (4, .int q), (5, .int ((clS (fun v => fp (7 * v + 1)) (fun v => sqD (fun v => fp (7 * v + 4)) (fun v => fp (7 * v + 5)) (fun v => fp (7 * v + 6)) v x y z) q k).1)), (6, .int ((clS (fun v => fp (7 * v + 1)) (fun v => sqD (fun v => fp (7 * v + 4)) (fun v => fp (7 * v + 5)) (fun v => fp (7 * v + 6)) v x y z) q k).2)), (7, .int (nI (k + 1)))]) [0, 1, 2, 3, 4, 5, 6, 7] rfl ?_
              refine aw_L (L' := [(0, .ref (b 0)), (1, .int x), (2, .int y), (3, .int z), (4, .int q), (5, .int ((clS (fun v => fp (7 * v + 1)) (fun v => sqD (fun v => fp (7 * v + 4)) (fun v => fp (7 * v + 5)) (fun v => fp (7 * v + 6)) v x y z) q (k + 1)).1)), (6, .int ((clS (fun v => fp (7 * v + 1)) (fun v => sqD (fun v => fp (7 * v + 4)) (fun v => fp (7 * v + 5)) (fun v => fp (7 * v + 6)) v x y z) q k).2)), (7, .int (nI (k + 1)))]) (congrArg (fun zz9 => ([(0, .ref (b 0)), (1, .int x), (2, .int y), (3, .int z), (4, .int q), (5, .int zz9), (6, .int ((clS (fun v => fp (7 * v + 1)) (fun v => sqD (fun v => fp (7 * v + 4)) (fun v => fp (7 * v + 5)) (fun v => fp (7 * v + 6)) v x y z) q k).2)), (7, .int (nI (k + 1)))] : List (Nat × Value))) ((congrArg Prod.fst (clS_n2 (fs := fun v => fp (7 * v + 1)) (sq := fun v => sqD (fun v => fp (7 * v + 4)) (fun v => fp (7 * v + 5)) (fun v => fp (7 * v + 6)) v x y z) (k := k) c5 (Int32.not_lt.mp c6))).symm : ((clS (fun v => fp (7 * v + 1)) (fun v => sqD (fun v => fp (7 * v + 4)) (fun v => fp (7 * v + 5)) (fun v => fp (7 * v + 6)) v x y z) q k).1) = ((clS (fun v => fp (7 * v + 1)) (fun v => sqD (fun v => fp (7 * v + 4)) (fun v => fp (7 * v + 5)) (fun v => fp (7 * v + 6)) v x y z) q (k + 1)).1))) ?_
              refine aw_L (L' := [(0, .ref (b 0)), (1, .int x), (2, .int y), (3, .int z), (4, .int q), (5, .int ((clS (fun v => fp (7 * v + 1)) (fun v => sqD (fun v => fp (7 * v + 4)) (fun v => fp (7 * v + 5)) (fun v => fp (7 * v + 6)) v x y z) q (k + 1)).1)), (6, .int ((clS (fun v => fp (7 * v + 1)) (fun v => sqD (fun v => fp (7 * v + 4)) (fun v => fp (7 * v + 5)) (fun v => fp (7 * v + 6)) v x y z) q (k + 1)).2)), (7, .int (nI (k + 1)))]) (congrArg (fun zz9 => ([(0, .ref (b 0)), (1, .int x), (2, .int y), (3, .int z), (4, .int q), (5, .int ((clS (fun v => fp (7 * v + 1)) (fun v => sqD (fun v => fp (7 * v + 4)) (fun v => fp (7 * v + 5)) (fun v => fp (7 * v + 6)) v x y z) q (k + 1)).1)), (6, .int zz9), (7, .int (nI (k + 1)))] : List (Nat × Value))) ((congrArg Prod.snd (clS_n2 (fs := fun v => fp (7 * v + 1)) (sq := fun v => sqD (fun v => fp (7 * v + 4)) (fun v => fp (7 * v + 5)) (fun v => fp (7 * v + 6)) v x y z) (k := k) c5 (Int32.not_lt.mp c6))).symm : ((clS (fun v => fp (7 * v + 1)) (fun v => sqD (fun v => fp (7 * v + 4)) (fun v => fp (7 * v + 5)) (fun v => fp (7 * v + 6)) v x y z) q k).2) = ((clS (fun v => fp (7 * v + 1)) (fun v => sqD (fun v => fp (7 * v + 4)) (fun v => fp (7 * v + 5)) (fun v => fp (7 * v + 6)) v x y z) q (k + 1)).2))) ?_
              exact ih (k + 1) (by omega)
        · refine a_goto (pc := 72) (tgt := 167) C (by decide) dX6_nearest_72 ?_
          refine a_iinc (pc := 167) (v := nI (k + 1)) (L' := [(0, .ref (b 0)), (1, .int x), (2, .int y), (3, .int z), (4, .int q), (5, .int ((clS (fun v => fp (7 * v + 1)) (fun v => sqD (fun v => fp (7 * v + 4)) (fun v => fp (7 * v + 5)) (fun v => fp (7 * v + 6)) v x y z) q k).1)), (6, .int ((clS (fun v => fp (7 * v + 1)) (fun v => sqD (fun v => fp (7 * v + 4)) (fun v => fp (7 * v + 5)) (fun v => fp (7 * v + 6)) v x y z) q k).2)), (7, .int (nI (k + 1)))]) C 7 rfl (nI_inc _) (by decide) rfl dX6_nearest_167 ?_
          refine a_goto (pc := 170) (tgt := 40) C (by decide) dX6_nearest_170 ?_
          refine aw_L (L' := [(0, .ref (b 0)), (1, .int x), (2, .int y), (3, .int z), (4, .int q), (5, .int ((clS (fun v => fp (7 * v + 1)) (fun v => sqD (fun v => fp (7 * v + 4)) (fun v => fp (7 * v + 5)) (fun v => fp (7 * v + 6)) v x y z) q (k + 1)).1)), (6, .int ((clS (fun v => fp (7 * v + 1)) (fun v => sqD (fun v => fp (7 * v + 4)) (fun v => fp (7 * v + 5)) (fun v => fp (7 * v + 6)) v x y z) q k).2)), (7, .int (nI (k + 1)))]) (congrArg (fun zz9 => ([(0, .ref (b 0)), (1, .int x), (2, .int y), (3, .int z), (4, .int q), (5, .int zz9), (6, .int ((clS (fun v => fp (7 * v + 1)) (fun v => sqD (fun v => fp (7 * v + 4)) (fun v => fp (7 * v + 5)) (fun v => fp (7 * v + 6)) v x y z) q k).2)), (7, .int (nI (k + 1)))] : List (Nat × Value))) ((congrArg Prod.fst (clS_n1 (fs := fun v => fp (7 * v + 1)) (sq := fun v => sqD (fun v => fp (7 * v + 4)) (fun v => fp (7 * v + 5)) (fun v => fp (7 * v + 6)) v x y z) (k := k) c1 c4)).symm : ((clS (fun v => fp (7 * v + 1)) (fun v => sqD (fun v => fp (7 * v + 4)) (fun v => fp (7 * v + 5)) (fun v => fp (7 * v + 6)) v x y z) q k).1) = ((clS (fun v => fp (7 * v + 1)) (fun v => sqD (fun v => fp (7 * v + 4)) (fun v => fp (7 * v + 5)) (fun v => fp (7 * v + 6)) v x y z) q (k + 1)).1))) ?_
          refine aw_L (L' := [(0, .ref (b 0)), (1, .int x), (2, .int y), (3, .int z), (4, .int q), (5, .int ((clS (fun v => fp (7 * v + 1)) (fun v => sqD (fun v => fp (7 * v + 4)) (fun v => fp (7 * v + 5)) (fun v => fp (7 * v + 6)) v x y z) q (k + 1)).1)), (6, .int ((clS (fun v => fp (7 * v + 1)) (fun v => sqD (fun v => fp (7 * v + 4)) (fun v => fp (7 * v + 5)) (fun v => fp (7 * v + 6)) v x y z) q (k + 1)).2)), (7, .int (nI (k + 1)))]) (congrArg (fun zz9 => ([(0, .ref (b 0)), (1, .int x), (2, .int y), (3, .int z), (4, .int q), (5, .int ((clS (fun v => fp (7 * v + 1)) (fun v => sqD (fun v => fp (7 * v + 4)) (fun v => fp (7 * v + 5)) (fun v => fp (7 * v + 6)) v x y z) q (k + 1)).1)), (6, .int zz9), (7, .int (nI (k + 1)))] : List (Nat × Value))) ((congrArg Prod.snd (clS_n1 (fs := fun v => fp (7 * v + 1)) (sq := fun v => sqD (fun v => fp (7 * v + 4)) (fun v => fp (7 * v + 5)) (fun v => fp (7 * v + 6)) v x y z) (k := k) c1 c4)).symm : ((clS (fun v => fp (7 * v + 1)) (fun v => sqD (fun v => fp (7 * v + 4)) (fun v => fp (7 * v + 5)) (fun v => fp (7 * v + 6)) v x y z) q k).2) = ((clS (fun v => fp (7 * v + 1)) (fun v => sqD (fun v => fp (7 * v + 4)) (fun v => fp (7 * v + 5)) (fun v => fp (7 * v + 6)) v x y z) q (k + 1)).2))) ?_
          exact ih (k + 1) (by omega)
  refine aw_L (L' := [(0, .ref (b 0)), (1, .int x), (2, .int y), (3, .int z), (4, .int q), (5, .int ((clS (fun v => fp (7 * v + 1)) (fun v => sqD (fun v => fp (7 * v + 4)) (fun v => fp (7 * v + 5)) (fun v => fp (7 * v + 6)) v x y z) q 0).1)), (6, .int (nI 0)), (7, .int (nI 0))]) (congrArg (fun zz9 => ([(0, .ref (b 0)), (1, .int x), (2, .int y), (3, .int z), (4, .int q), (5, .int zz9), (6, .int (nI 0)), (7, .int (nI 0))] : List (Nat × Value))) (rfl : (-1 : Int32) = ((clS (fun v => fp (7 * v + 1)) (fun v => sqD (fun v => fp (7 * v + 4)) (fun v => fp (7 * v + 5)) (fun v => fp (7 * v + 6)) v x y z) q 0).1))) ?_
  refine aw_L (L' := [(0, .ref (b 0)), (1, .int x), (2, .int y), (3, .int z), (4, .int q), (5, .int ((clS (fun v => fp (7 * v + 1)) (fun v => sqD (fun v => fp (7 * v + 4)) (fun v => fp (7 * v + 5)) (fun v => fp (7 * v + 6)) v x y z) q 0).1)), (6, .int ((clS (fun v => fp (7 * v + 1)) (fun v => sqD (fun v => fp (7 * v + 4)) (fun v => fp (7 * v + 5)) (fun v => fp (7 * v + 6)) v x y z) q 0).2)), (7, .int (nI 0))]) (congrArg (fun zz9 => ([(0, .ref (b 0)), (1, .int x), (2, .int y), (3, .int z), (4, .int q), (5, .int ((clS (fun v => fp (7 * v + 1)) (fun v => sqD (fun v => fp (7 * v + 4)) (fun v => fp (7 * v + 5)) (fun v => fp (7 * v + 6)) v x y z) q 0).1)), (6, .int zz9), (7, .int (nI 0))] : List (Nat × Value))) (rfl : (nI 0) = ((clS (fun v => fp (7 * v + 1)) (fun v => sqD (fun v => fp (7 * v + 4)) (fun v => fp (7 * v + 5)) (fun v => fp (7 * v + 6)) v x y z) q 0).2))) ?_
  exact LP40 (fn) (0) (by omega)

set_option maxHeartbeats 4000000 in
set_option maxRecDepth 100000 in
theorem c_X6_dig_b1 (κ : aK) (b : Nat → Nat) {th : Int32} {un : Nat} {ss : Nat → Int32} {fi : Nat → Int32} {la : Nat → Int32} {da : Nat → Bool} {dg : Nat → Bool} {ps : Nat → Int32} {rn : Nat} {ks : Nat → Int32} {os : Nat → Nat} {ts : Nat → Nat} {fn : Nat} {fp : Nat → Int32} {bo : Nat → Nat} {eE : Nat → Nat → Bool} {lE : Nat → Nat → Bool} {li : Nat → Nat → Bool} {be : Nat → Int32} {ab : Nat → Int32} {X : va_W} {x : Int32} (hun : un ≤ 40) (hb : ¬ okU un x) : CM yX6_dig cX6_dig 4 (some .int) ({ frames := 2, cells := 0, slots := 0, locals := 44 } : Room) κ [.ref (b 0), .int x] (wM κ b th un ss fi la da dg ps rn ks os ts fn fp bo eE lE li be ab X) (aD (some (.int (nI 0))) (wM κ b (nI 1) un ss fi la da dg ps rn ks os ts fn fp bo eE lE li be ab X)) := by
  refine cm_entry (own := RX6) (L := [(0, .ref (b 0)), (1, .int x)]) (by decide +kernel) rfl (lv_entry [.ref (b 0), .int x] (n := 4) (Nat.le_of_ble_eq_true rfl)) (fun g C E => ?_)
  refine a_aloadn (pc := 0) C 0 rfl rfl dX6_dig_0 ?_
  refine a_iconst (pc := 1) (v := nI 0) C ci_0 dX6_dig_1 ?_
  refine a_put (pc := 2) (ws' := wM κ b (nI 0) un ss fi la da dg ps rn ks os ts fn fp bo eE lE li be ab X) C fl_X6_60 fp_X6_0 0 rfl rfl rfl (Nat.le_of_ble_eq_true rfl) rfl dX6_dig_2 ?_
  refine a_aloadn (pc := 5) C 0 rfl rfl dX6_dig_5 ?_
  refine a_iloadn (pc := 6) C 1 rfl rfl dX6_dig_6 ?_
  refine a_callV1 (pc := 7) (k' := 0) (n' := 0) C (c_X6_isUnit κ b) yv_X6_isUnit ml_X6_107 wi_X6_isUnit wl_X6_isUnit 0 rfl rfl rfl rfl (Nat.le_of_ble_eq_true rfl) (Nat.le_of_ble_eq_true rfl) (Nat.le_of_ble_eq_true rfl) ⟨(Nat.le_of_ble_eq_true rfl), (Nat.le_of_ble_eq_true rfl)⟩ rfl rfl dX6_dig_7 ?_
  refine a_ifb_ne_n (pc := 10) C (okU_nf (by omega) hb) dX6_dig_10 ⟨19, by decide⟩ ?_
  refine a_aloadn (pc := 13) C 0 rfl rfl dX6_dig_13 ?_
  refine a_iconst (pc := 14) (v := nI 1) C ci_1 dX6_dig_14 ?_
  refine a_callV1 (pc := 15) (k' := 0) (n' := 0) C (c_X6_no κ b) yv_X6_no ml_X6_100 wi_X6_no wl_X6_no 0 rfl rfl rfl rfl (Nat.le_of_ble_eq_true rfl) (Nat.le_of_ble_eq_true rfl) (Nat.le_of_ble_eq_true rfl) ⟨(Nat.le_of_ble_eq_true rfl), (Nat.le_of_ble_eq_true rfl)⟩ rfl rfl dX6_dig_15 ?_
  exact a_iret (pc := 18) C E (Nat.le_of_ble_eq_true rfl) (Nat.le_of_ble_eq_true rfl) ⟨rfl, rfl⟩ dX6_dig_18

set_option maxHeartbeats 4000000 in
set_option maxRecDepth 100000 in
theorem c_X6_dig_b2 (κ : aK) (b : Nat → Nat) {th : Int32} {un : Nat} {ss : Nat → Int32} {fi : Nat → Int32} {la : Nat → Int32} {da : Nat → Bool} {dg : Nat → Bool} {ps : Nat → Int32} {rn : Nat} {ks : Nat → Int32} {os : Nat → Nat} {ts : Nat → Nat} {fn : Nat} {fp : Nat → Int32} {bo : Nat → Nat} {eE : Nat → Nat → Bool} {lE : Nat → Nat → Bool} {li : Nat → Nat → Bool} {be : Nat → Int32} {ab : Nat → Int32} {X : va_W} {u : Nat} (hun : un ≤ 40) (hbo : ∀ u, bo u < 40) (hu : u < un) (hb : cgB un bo lE dg u = false) : CM yX6_dig cX6_dig 4 (some .int) ({ frames := 2, cells := 0, slots := 0, locals := 44 } : Room) κ [.ref (b 0), .int (nI u)] (wM κ b th un ss fi la da dg ps rn ks os ts fn fp bo eE lE li be ab X) (aD (some (.int (nI 0))) (wM κ b (nI 2) un ss fi la da dg ps rn ks os ts fn fp bo eE lE li be ab X)) := by
  refine cm_entry (own := RX6) (L := [(0, .ref (b 0)), (1, .int (nI u))]) (by decide +kernel) rfl (lv_entry [.ref (b 0), .int (nI u)] (n := 4) (Nat.le_of_ble_eq_true rfl)) (fun g C E => ?_)
  refine a_aloadn (pc := 0) C 0 rfl rfl dX6_dig_0 ?_
  refine a_iconst (pc := 1) (v := nI 0) C ci_0 dX6_dig_1 ?_
  refine a_put (pc := 2) (ws' := wM κ b (nI 0) un ss fi la da dg ps rn ks os ts fn fp bo eE lE li be ab X) C fl_X6_60 fp_X6_0 0 rfl rfl rfl (Nat.le_of_ble_eq_true rfl) rfl dX6_dig_2 ?_
  refine a_aloadn (pc := 5) C 0 rfl rfl dX6_dig_5 ?_
  refine a_iloadn (pc := 6) C 1 rfl rfl dX6_dig_6 ?_
  refine a_callV1 (pc := 7) (k' := 0) (n' := 0) C (c_X6_isUnit κ b) yv_X6_isUnit ml_X6_107 wi_X6_isUnit wl_X6_isUnit 0 rfl rfl rfl rfl (Nat.le_of_ble_eq_true rfl) (Nat.le_of_ble_eq_true rfl) (Nat.le_of_ble_eq_true rfl) ⟨(Nat.le_of_ble_eq_true rfl), (Nat.le_of_ble_eq_true rfl)⟩ rfl rfl dX6_dig_7 ?_
  refine a_ifb_ne_y (pc := 10) (tgt := 19) C ((okU_n (by omega)).mpr (okU_j hu)) (by decide) dX6_dig_10 ?_
  refine a_aloadn (pc := 19) C 0 rfl rfl dX6_dig_19 ?_
  refine a_iloadn (pc := 20) C 1 rfl rfl dX6_dig_20 ?_
  refine a_callV1 (pc := 21) (k' := 0) (n' := 0) C (c_X6_canDig κ b (by omega) hbo (by omega)) yv_X6_canDig ml_X6_193 wi_X6_canDig wl_X6_canDig 0 rfl rfl rfl rfl (Nat.le_of_ble_eq_true rfl) (Nat.le_of_ble_eq_true rfl) (Nat.le_of_ble_eq_true rfl) ⟨(Nat.le_of_ble_eq_true rfl), (Nat.le_of_ble_eq_true rfl)⟩ rfl rfl dX6_dig_21 ?_
  refine a_ifb_ne_n (pc := 24) C hb dX6_dig_24 ⟨33, by decide⟩ ?_
  refine a_aloadn (pc := 27) C 0 rfl rfl dX6_dig_27 ?_
  refine a_iconst (pc := 28) (v := nI 2) C ci_2 dX6_dig_28 ?_
  refine a_callV1 (pc := 29) (k' := 0) (n' := 0) C (c_X6_no κ b) yv_X6_no ml_X6_100 wi_X6_no wl_X6_no 0 rfl rfl rfl rfl (Nat.le_of_ble_eq_true rfl) (Nat.le_of_ble_eq_true rfl) (Nat.le_of_ble_eq_true rfl) ⟨(Nat.le_of_ble_eq_true rfl), (Nat.le_of_ble_eq_true rfl)⟩ rfl rfl dX6_dig_29 ?_
  exact a_iret (pc := 32) C E (Nat.le_of_ble_eq_true rfl) (Nat.le_of_ble_eq_true rfl) ⟨rfl, rfl⟩ dX6_dig_32

set_option maxHeartbeats 4000000 in
set_option maxRecDepth 100000 in
theorem c_X6_dig (κ : aK) (b : Nat → Nat) {th : Int32} {un : Nat} {ss : Nat → Int32} {fi : Nat → Int32} {la : Nat → Int32} {da : Nat → Bool} {dg : Nat → Bool} {ps : Nat → Int32} {rn : Nat} {ks : Nat → Int32} {os : Nat → Nat} {ts : Nat → Nat} {fn : Nat} {fp : Nat → Int32} {bo : Nat → Nat} {eE : Nat → Nat → Bool} {lE : Nat → Nat → Bool} {li : Nat → Nat → Bool} {be : Nat → Int32} {ab : Nat → Int32} {X : va_W} {u : Nat} (hun : un ≤ 40) (hbo : ∀ u, bo u < 40) (hu : u < un) (hc : cgB un bo lE dg u = true) : CM yX6_dig cX6_dig 4 (some .int) ({ frames := 2, cells := 0, slots := 0, locals := 44 } : Room) κ [.ref (b 0), .int (nI u)] (wM κ b th un ss fi la da dg ps rn ks os ts fn fp bo eE lE li be ab X) (aD (some (.int (nI (cnt (cgB un bo lE (va_up dg u true)) un)))) (wM κ b (nI 0) un ss fi la da (va_up dg u true) ps rn ks os ts fn fp bo eE lE li be ab X)) := by
  refine cm_entry (own := RX6) (L := [(0, .ref (b 0)), (1, .int (nI u))]) (by decide +kernel) rfl (lv_entry [.ref (b 0), .int (nI u)] (n := 4) (Nat.le_of_ble_eq_true rfl)) (fun g C E => ?_)
  refine a_aloadn (pc := 0) C 0 rfl rfl dX6_dig_0 ?_
  refine a_iconst (pc := 1) (v := nI 0) C ci_0 dX6_dig_1 ?_
  refine a_put (pc := 2) (ws' := wM κ b (nI 0) un ss fi la da dg ps rn ks os ts fn fp bo eE lE li be ab X) C fl_X6_60 fp_X6_0 0 rfl rfl rfl (Nat.le_of_ble_eq_true rfl) rfl dX6_dig_2 ?_
  refine a_aloadn (pc := 5) C 0 rfl rfl dX6_dig_5 ?_
  refine a_iloadn (pc := 6) C 1 rfl rfl dX6_dig_6 ?_
  refine a_callV1 (pc := 7) (k' := 0) (n' := 0) C (c_X6_isUnit κ b) yv_X6_isUnit ml_X6_107 wi_X6_isUnit wl_X6_isUnit 0 rfl rfl rfl rfl (Nat.le_of_ble_eq_true rfl) (Nat.le_of_ble_eq_true rfl) (Nat.le_of_ble_eq_true rfl) ⟨(Nat.le_of_ble_eq_true rfl), (Nat.le_of_ble_eq_true rfl)⟩ rfl rfl dX6_dig_7 ?_
  refine a_ifb_ne_y (pc := 10) (tgt := 19) C ((okU_n (by omega)).mpr (okU_j hu)) (by decide) dX6_dig_10 ?_
  refine a_aloadn (pc := 19) C 0 rfl rfl dX6_dig_19 ?_
  refine a_iloadn (pc := 20) C 1 rfl rfl dX6_dig_20 ?_
  refine a_callV1 (pc := 21) (k' := 0) (n' := 0) C (c_X6_canDig κ b (by omega) hbo (by omega)) yv_X6_canDig ml_X6_193 wi_X6_canDig wl_X6_canDig 0 rfl rfl rfl rfl (Nat.le_of_ble_eq_true rfl) (Nat.le_of_ble_eq_true rfl) (Nat.le_of_ble_eq_true rfl) ⟨(Nat.le_of_ble_eq_true rfl), (Nat.le_of_ble_eq_true rfl)⟩ rfl rfl dX6_dig_21 ?_
  refine a_ifb_ne_y (pc := 24) (tgt := 33) C hc (by decide) dX6_dig_24 ?_
  refine a_aloadn (pc := 33) C 0 rfl rfl dX6_dig_33 ?_
  refine a_get (pc := 34) C fl_X6_23 0 rfl rfl dX6_dig_34 ?_
  refine a_iloadn (pc := 37) C 1 rfl rfl dX6_dig_37 ?_
  refine a_iconst (pc := 38) (v := nI 1) C ci_1 dX6_dig_38 ?_
  refine aw_st (st' := [.int (b2i true), .int (nI u), .ref (b 5)]) (by rw [b2i_t]) ?_
  refine a_zast (pc := 39) (ws' := wM κ b (nI 0) un ss fi la da (va_up dg u true) ps rn ks os ts fn fp bo eE lE li be ab X) C 5 rfl (by omega) (by decide) rfl dX6_dig_39 ?_
  refine a_iconst (pc := 40) (v := nI 0) C ci_0 dX6_dig_40 ?_
  refine a_istoren (pc := 41) (L' := [(0, .ref (b 0)), (1, .int (nI u)), (2, .int (nI 0))]) C (by decide) rfl rfl dX6_dig_41 ?_
  refine a_iconst (pc := 42) (v := nI 0) C ci_0 dX6_dig_42 ?_
  refine a_istoren (pc := 43) (L' := [(0, .ref (b 0)), (1, .int (nI u)), (2, .int (nI 0)), (3, .int (nI 0))]) C (by decide) rfl rfl dX6_dig_43 ?_
  have LP44 : ∀ (jz k : Nat), k + jz = un → aw g κ 4 44 [(0, .ref (b 0)), (1, .int (nI u)), (2, .int (nI (cnt (cgB un bo lE (va_up dg u true)) k))), (3, .int (nI k))] [] (wM κ b (nI 0) un ss fi la da (va_up dg u true) ps rn ks os ts fn fp bo eE lE li be ab X) 0 0 := by
    intro jz
    induction jz with
    | zero =>
      intro k hk_k
      obtain rfl : un = k := by omega
      refine a_iloadn (pc := 44) C 3 rfl rfl dX6_dig_44 ?_
      refine a_aloadn (pc := 45) C 0 rfl rfl dX6_dig_45 ?_
      refine a_get (pc := 46) C fl_X6_64 0 rfl rfl dX6_dig_46 ?_
      refine a_icn_ge_y (pc := 49) (tgt := 74) C (by omega) (by omega) (by omega) (by decide) dX6_dig_49 ?_
      refine a_iloadn (pc := 74) C 2 rfl rfl dX6_dig_74 ?_
      exact a_iret (pc := 75) C E (Nat.le_of_ble_eq_true rfl) (Nat.le_of_ble_eq_true rfl) ⟨rfl, rfl⟩ dX6_dig_75
    | succ jz ih =>
      intro k hk_k
      have hlt_k : k < un := by omega
      refine a_iloadn (pc := 44) C 3 rfl rfl dX6_dig_44 ?_
      refine a_aloadn (pc := 45) C 0 rfl rfl dX6_dig_45 ?_
      refine a_get (pc := 46) C fl_X6_64 0 rfl rfl dX6_dig_46 ?_
      refine a_icn_ge_n (pc := 49) C (by omega) (by omega) (by omega) dX6_dig_49 ⟨74, by decide⟩ ?_
      refine a_iloadn (pc := 52) C 2 rfl rfl dX6_dig_52 ?_
      refine a_aloadn (pc := 53) C 0 rfl rfl dX6_dig_53 ?_
      refine a_iloadn (pc := 54) C 3 rfl rfl dX6_dig_54 ?_
      refine a_callV1 (pc := 55) (k' := 0) (n' := 0) C (c_X6_canDig κ b (by omega) hbo (by omega)) yv_X6_canDig ml_X6_193 wi_X6_canDig wl_X6_canDig 0 rfl rfl rfl rfl (Nat.le_of_ble_eq_true rfl) (Nat.le_of_ble_eq_true rfl) (Nat.le_of_ble_eq_true rfl) ⟨(Nat.le_of_ble_eq_true rfl), (Nat.le_of_ble_eq_true rfl)⟩ rfl rfl dX6_dig_55 ?_
      refine a_ifb_eq (pc := 58) (tgt := 65) C (by decide) dX6_dig_58 (fun c1 => ?_) (fun c1 => ?_)
      · refine a_iconst (pc := 65) (v := nI 0) C ci_0 dX6_dig_65 ?_
        refine a_iadd (pc := 66) (v := nI ((cnt (cgB un bo lE (va_up dg u true)) k) + 0)) C (nI_add _ _) dX6_dig_66 ?_
        refine a_istoren (pc := 67) (L' := [(0, .ref (b 0)), (1, .int (nI u)), (2, .int (nI ((cnt (cgB un bo lE (va_up dg u true)) k) + 0))), (3, .int (nI k))]) C (by decide) rfl rfl dX6_dig_67 ?_
        refine a_iinc (pc := 68) (v := nI (k + 1)) (L' := [(0, .ref (b 0)), (1, .int (nI u)), (2, .int (nI ((cnt (cgB un bo lE (va_up dg u true)) k) + 0))), (3, .int (nI (k + 1)))]) C 3 rfl (nI_inc _) (by decide) rfl dX6_dig_68 ?_
        refine a_goto (pc := 71) (tgt := 44) C (by decide) dX6_dig_71 ?_
        refine aw_L (L' := [(0, .ref (b 0)), (1, .int (nI u)), (2, .int (nI (cnt (cgB un bo lE (va_up dg u true)) (k + 1)))), (3, .int (nI (k + 1)))]) (congrArg (fun zz9 => ([(0, .ref (b 0)), (1, .int (nI u)), (2, .int zz9), (3, .int (nI (k + 1)))] : List (Nat × Value))) (congrArg nI (by rw [cnt_n c1]; rfl) : (nI ((cnt (cgB un bo lE (va_up dg u true)) k) + 0)) = (nI (cnt (cgB un bo lE (va_up dg u true)) (k + 1))))) ?_
        exact ih (k + 1) (by omega)
      · refine a_iconst (pc := 61) (v := nI 1) C ci_1 dX6_dig_61 ?_
        refine a_goto (pc := 62) (tgt := 66) C (by decide) dX6_dig_62 ?_
        refine a_iadd (pc := 66) (v := nI ((cnt (cgB un bo lE (va_up dg u true)) k) + 1)) C (nI_add _ _) dX6_dig_66 ?_
        refine a_istoren (pc := 67) (L' := [(0, .ref (b 0)), (1, .int (nI u)), (2, .int (nI ((cnt (cgB un bo lE (va_up dg u true)) k) + 1))), (3, .int (nI k))]) C (by decide) rfl rfl dX6_dig_67 ?_
        refine a_iinc (pc := 68) (v := nI (k + 1)) (L' := [(0, .ref (b 0)), (1, .int (nI u)), (2, .int (nI ((cnt (cgB un bo lE (va_up dg u true)) k) + 1))), (3, .int (nI (k + 1)))]) C 3 rfl (nI_inc _) (by decide) rfl dX6_dig_68 ?_
        refine a_goto (pc := 71) (tgt := 44) C (by decide) dX6_dig_71 ?_
        refine aw_L (L' := [(0, .ref (b 0)), (1, .int (nI u)), (2, .int (nI (cnt (cgB un bo lE (va_up dg u true)) (k + 1)))), (3, .int (nI (k + 1)))]) (congrArg (fun zz9 => ([(0, .ref (b 0)), (1, .int (nI u)), (2, .int zz9), (3, .int (nI (k + 1)))] : List (Nat × Value))) (congrArg nI (by rw [cnt_y c1]) : (nI ((cnt (cgB un bo lE (va_up dg u true)) k) + 1)) = (nI (cnt (cgB un bo lE (va_up dg u true)) (k + 1))))) ?_
        exact ih (k + 1) (by omega)
  refine aw_L (L' := [(0, .ref (b 0)), (1, .int (nI u)), (2, .int (nI (cnt (cgB un bo lE (va_up dg u true)) 0))), (3, .int (nI 0))]) (congrArg (fun zz9 => ([(0, .ref (b 0)), (1, .int (nI u)), (2, .int zz9), (3, .int (nI 0))] : List (Nat × Value))) (rfl : (nI 0) = (nI (cnt (cgB un bo lE (va_up dg u true)) 0)))) ?_
  exact LP44 (un) (0) (by omega)

set_option maxHeartbeats 4000000 in
set_option maxRecDepth 100000 in
theorem c_X6_setPhase_b1 (κ : aK) (b : Nat → Nat) {th : Int32} {un : Nat} {ss : Nat → Int32} {fi : Nat → Int32} {la : Nat → Int32} {da : Nat → Bool} {dg : Nat → Bool} {ps : Nat → Int32} {rn : Nat} {ks : Nat → Int32} {os : Nat → Nat} {ts : Nat → Nat} {fn : Nat} {fp : Nat → Int32} {bo : Nat → Nat} {eE : Nat → Nat → Bool} {lE : Nat → Nat → Bool} {li : Nat → Nat → Bool} {be : Nat → Int32} {ab : Nat → Int32} {X : va_W} {x : Int32} {p : Int32} (hun : un ≤ 40) (hb : ¬ okU un x) : CM yX6_setPhase cX6_setPhase 4 (some .int) ({ frames := 2, cells := 0, slots := 0, locals := 43 } : Room) κ [.ref (b 0), .int x, .int p] (wM κ b th un ss fi la da dg ps rn ks os ts fn fp bo eE lE li be ab X) (aD (some (.int (nI 0))) (wM κ b (nI 1) un ss fi la da dg ps rn ks os ts fn fp bo eE lE li be ab X)) := by
  refine cm_entry (own := RX6) (L := [(0, .ref (b 0)), (1, .int x), (2, .int p)]) (by decide +kernel) rfl (lv_entry [.ref (b 0), .int x, .int p] (n := 4) (Nat.le_of_ble_eq_true rfl)) (fun g C E => ?_)
  refine a_aloadn (pc := 0) C 0 rfl rfl dX6_setPhase_0 ?_
  refine a_iconst (pc := 1) (v := nI 0) C ci_0 dX6_setPhase_1 ?_
  refine a_put (pc := 2) (ws' := wM κ b (nI 0) un ss fi la da dg ps rn ks os ts fn fp bo eE lE li be ab X) C fl_X6_60 fp_X6_0 0 rfl rfl rfl (Nat.le_of_ble_eq_true rfl) rfl dX6_setPhase_2 ?_
  refine a_aloadn (pc := 5) C 0 rfl rfl dX6_setPhase_5 ?_
  refine a_iloadn (pc := 6) C 1 rfl rfl dX6_setPhase_6 ?_
  refine a_callV1 (pc := 7) (k' := 0) (n' := 0) C (c_X6_isUnit κ b) yv_X6_isUnit ml_X6_107 wi_X6_isUnit wl_X6_isUnit 0 rfl rfl rfl rfl (Nat.le_of_ble_eq_true rfl) (Nat.le_of_ble_eq_true rfl) (Nat.le_of_ble_eq_true rfl) ⟨(Nat.le_of_ble_eq_true rfl), (Nat.le_of_ble_eq_true rfl)⟩ rfl rfl dX6_setPhase_7 ?_
  refine a_ifb_ne_n (pc := 10) C (okU_nf (by omega) hb) dX6_setPhase_10 ⟨19, by decide⟩ ?_
  refine a_aloadn (pc := 13) C 0 rfl rfl dX6_setPhase_13 ?_
  refine a_iconst (pc := 14) (v := nI 1) C ci_1 dX6_setPhase_14 ?_
  refine a_callV1 (pc := 15) (k' := 0) (n' := 0) C (c_X6_no κ b) yv_X6_no ml_X6_100 wi_X6_no wl_X6_no 0 rfl rfl rfl rfl (Nat.le_of_ble_eq_true rfl) (Nat.le_of_ble_eq_true rfl) (Nat.le_of_ble_eq_true rfl) ⟨(Nat.le_of_ble_eq_true rfl), (Nat.le_of_ble_eq_true rfl)⟩ rfl rfl dX6_setPhase_15 ?_
  exact a_iret (pc := 18) C E (Nat.le_of_ble_eq_true rfl) (Nat.le_of_ble_eq_true rfl) ⟨rfl, rfl⟩ dX6_setPhase_18

set_option maxHeartbeats 4000000 in
set_option maxRecDepth 100000 in
theorem c_X6_setPhase_b2 (κ : aK) (b : Nat → Nat) {th : Int32} {un : Nat} {ss : Nat → Int32} {fi : Nat → Int32} {la : Nat → Int32} {da : Nat → Bool} {dg : Nat → Bool} {ps : Nat → Int32} {rn : Nat} {ks : Nat → Int32} {os : Nat → Nat} {ts : Nat → Nat} {fn : Nat} {fp : Nat → Int32} {bo : Nat → Nat} {eE : Nat → Nat → Bool} {lE : Nat → Nat → Bool} {li : Nat → Nat → Bool} {be : Nat → Int32} {ab : Nat → Int32} {X : va_W} {u : Nat} {p : Int32} (hun : un ≤ 40) (hu : u < un) (hb : ¬ okU 21 p) : CM yX6_setPhase cX6_setPhase 4 (some .int) ({ frames := 2, cells := 0, slots := 0, locals := 43 } : Room) κ [.ref (b 0), .int (nI u), .int p] (wM κ b th un ss fi la da dg ps rn ks os ts fn fp bo eE lE li be ab X) (aD (some (.int (nI 0))) (wM κ b (nI 2) un ss fi la da dg ps rn ks os ts fn fp bo eE lE li be ab X)) := by
  refine cm_entry (own := RX6) (L := [(0, .ref (b 0)), (1, .int (nI u)), (2, .int p)]) (by decide +kernel) rfl (lv_entry [.ref (b 0), .int (nI u), .int p] (n := 4) (Nat.le_of_ble_eq_true rfl)) (fun g C E => ?_)
  refine a_aloadn (pc := 0) C 0 rfl rfl dX6_setPhase_0 ?_
  refine a_iconst (pc := 1) (v := nI 0) C ci_0 dX6_setPhase_1 ?_
  refine a_put (pc := 2) (ws' := wM κ b (nI 0) un ss fi la da dg ps rn ks os ts fn fp bo eE lE li be ab X) C fl_X6_60 fp_X6_0 0 rfl rfl rfl (Nat.le_of_ble_eq_true rfl) rfl dX6_setPhase_2 ?_
  refine a_aloadn (pc := 5) C 0 rfl rfl dX6_setPhase_5 ?_
  refine a_iloadn (pc := 6) C 1 rfl rfl dX6_setPhase_6 ?_
  refine a_callV1 (pc := 7) (k' := 0) (n' := 0) C (c_X6_isUnit κ b) yv_X6_isUnit ml_X6_107 wi_X6_isUnit wl_X6_isUnit 0 rfl rfl rfl rfl (Nat.le_of_ble_eq_true rfl) (Nat.le_of_ble_eq_true rfl) (Nat.le_of_ble_eq_true rfl) ⟨(Nat.le_of_ble_eq_true rfl), (Nat.le_of_ble_eq_true rfl)⟩ rfl rfl dX6_setPhase_7 ?_
  refine a_ifb_ne_y (pc := 10) (tgt := 19) C ((okU_n (by omega)).mpr (okU_j hu)) (by decide) dX6_setPhase_10 ?_
  refine a_iloadn (pc := 19) C 2 rfl rfl dX6_setPhase_19 ?_
  refine a_iconst (pc := 20) (v := nI 0) C ci_0 dX6_setPhase_20 ?_
  refine a_bipush (pc := 21) (v := nI 20) C cb_20 dX6_setPhase_21 ?_
  refine a_callS1 (pc := 23) (k' := 0) (n' := 0) C (c_X6_isIn κ) yv_X6_isIn ml_X6_67 ws_X6_isIn rfl rfl (Nat.le_of_ble_eq_true rfl) (Nat.le_of_ble_eq_true rfl) (Nat.le_of_ble_eq_true rfl) ⟨(Nat.le_of_ble_eq_true rfl), (Nat.le_of_ble_eq_true rfl)⟩ rfl rfl dX6_setPhase_23 ?_
  refine a_ifb_ne_n (pc := 26) C (okU_cf (by omega) hb) dX6_setPhase_26 ⟨35, by decide⟩ ?_
  refine a_aloadn (pc := 29) C 0 rfl rfl dX6_setPhase_29 ?_
  refine a_iconst (pc := 30) (v := nI 2) C ci_2 dX6_setPhase_30 ?_
  refine a_callV1 (pc := 31) (k' := 0) (n' := 0) C (c_X6_no κ b) yv_X6_no ml_X6_100 wi_X6_no wl_X6_no 0 rfl rfl rfl rfl (Nat.le_of_ble_eq_true rfl) (Nat.le_of_ble_eq_true rfl) (Nat.le_of_ble_eq_true rfl) ⟨(Nat.le_of_ble_eq_true rfl), (Nat.le_of_ble_eq_true rfl)⟩ rfl rfl dX6_setPhase_31 ?_
  exact a_iret (pc := 34) C E (Nat.le_of_ble_eq_true rfl) (Nat.le_of_ble_eq_true rfl) ⟨rfl, rfl⟩ dX6_setPhase_34

set_option maxHeartbeats 4000000 in
set_option maxRecDepth 100000 in
theorem c_X6_setPhase (κ : aK) (b : Nat → Nat) {th : Int32} {un : Nat} {ss : Nat → Int32} {fi : Nat → Int32} {la : Nat → Int32} {da : Nat → Bool} {dg : Nat → Bool} {ps : Nat → Int32} {rn : Nat} {ks : Nat → Int32} {os : Nat → Nat} {ts : Nat → Nat} {fn : Nat} {fp : Nat → Int32} {bo : Nat → Nat} {eE : Nat → Nat → Bool} {lE : Nat → Nat → Bool} {li : Nat → Nat → Bool} {be : Nat → Int32} {ab : Nat → Int32} {X : va_W} {u : Nat} {p : Int32} (hun : un ≤ 40) (hu : u < un) (hp : okU 21 p) : CM yX6_setPhase cX6_setPhase 4 (some .int) ({ frames := 2, cells := 0, slots := 0, locals := 43 } : Room) κ [.ref (b 0), .int (nI u), .int p] (wM κ b th un ss fi la da dg ps rn ks os ts fn fp bo eE lE li be ab X) (aD (some (.int (ps u))) (wM κ b (nI 0) un ss fi la da dg (va_up ps u p) rn ks os ts fn fp bo eE lE li be ab X)) := by
  refine cm_entry (own := RX6) (L := [(0, .ref (b 0)), (1, .int (nI u)), (2, .int p)]) (by decide +kernel) rfl (lv_entry [.ref (b 0), .int (nI u), .int p] (n := 4) (Nat.le_of_ble_eq_true rfl)) (fun g C E => ?_)
  refine a_aloadn (pc := 0) C 0 rfl rfl dX6_setPhase_0 ?_
  refine a_iconst (pc := 1) (v := nI 0) C ci_0 dX6_setPhase_1 ?_
  refine a_put (pc := 2) (ws' := wM κ b (nI 0) un ss fi la da dg ps rn ks os ts fn fp bo eE lE li be ab X) C fl_X6_60 fp_X6_0 0 rfl rfl rfl (Nat.le_of_ble_eq_true rfl) rfl dX6_setPhase_2 ?_
  refine a_aloadn (pc := 5) C 0 rfl rfl dX6_setPhase_5 ?_
  refine a_iloadn (pc := 6) C 1 rfl rfl dX6_setPhase_6 ?_
  refine a_callV1 (pc := 7) (k' := 0) (n' := 0) C (c_X6_isUnit κ b) yv_X6_isUnit ml_X6_107 wi_X6_isUnit wl_X6_isUnit 0 rfl rfl rfl rfl (Nat.le_of_ble_eq_true rfl) (Nat.le_of_ble_eq_true rfl) (Nat.le_of_ble_eq_true rfl) ⟨(Nat.le_of_ble_eq_true rfl), (Nat.le_of_ble_eq_true rfl)⟩ rfl rfl dX6_setPhase_7 ?_
  refine a_ifb_ne_y (pc := 10) (tgt := 19) C ((okU_n (by omega)).mpr (okU_j hu)) (by decide) dX6_setPhase_10 ?_
  refine a_iloadn (pc := 19) C 2 rfl rfl dX6_setPhase_19 ?_
  refine a_iconst (pc := 20) (v := nI 0) C ci_0 dX6_setPhase_20 ?_
  refine a_bipush (pc := 21) (v := nI 20) C cb_20 dX6_setPhase_21 ?_
  refine a_callS1 (pc := 23) (k' := 0) (n' := 0) C (c_X6_isIn κ) yv_X6_isIn ml_X6_67 ws_X6_isIn rfl rfl (Nat.le_of_ble_eq_true rfl) (Nat.le_of_ble_eq_true rfl) (Nat.le_of_ble_eq_true rfl) ⟨(Nat.le_of_ble_eq_true rfl), (Nat.le_of_ble_eq_true rfl)⟩ rfl rfl dX6_setPhase_23 ?_
  refine a_ifb_ne_y (pc := 26) (tgt := 35) C ((okU_c (by omega)).mpr hp) (by decide) dX6_setPhase_26 ?_
  refine a_aloadn (pc := 35) C 0 rfl rfl dX6_setPhase_35 ?_
  refine a_get (pc := 36) C fl_X6_26 0 rfl rfl dX6_setPhase_36 ?_
  refine a_iloadn (pc := 39) C 1 rfl rfl dX6_setPhase_39 ?_
  refine a_iald (pc := 40) C 6 rfl (by omega) (by decide) dX6_setPhase_40 ?_
  refine a_istoren (pc := 41) (L' := [(0, .ref (b 0)), (1, .int (nI u)), (2, .int p), (3, .int (ps u))]) C (by decide) rfl rfl dX6_setPhase_41 ?_
  refine a_aloadn (pc := 42) C 0 rfl rfl dX6_setPhase_42 ?_
  refine a_get (pc := 43) C fl_X6_26 0 rfl rfl dX6_setPhase_43 ?_
  refine a_iloadn (pc := 46) C 1 rfl rfl dX6_setPhase_46 ?_
  refine a_iloadn (pc := 47) C 2 rfl rfl dX6_setPhase_47 ?_
  refine a_iast (pc := 48) (ws' := wM κ b (nI 0) un ss fi la da dg (va_up ps u p) rn ks os ts fn fp bo eE lE li be ab X) C 6 rfl (by omega) (by decide) rfl rfl dX6_setPhase_48 ?_
  refine a_iloadn (pc := 49) C 3 rfl rfl dX6_setPhase_49 ?_
  exact a_iret (pc := 50) C E (Nat.le_of_ble_eq_true rfl) (Nat.le_of_ble_eq_true rfl) ⟨rfl, rfl⟩ dX6_setPhase_50

set_option maxHeartbeats 4000000 in
set_option maxRecDepth 100000 in
theorem c_X6_phaseAll (κ : aK) (b : Nat → Nat) {th : Int32} {un : Nat} {ss : Nat → Int32} {fi : Nat → Int32} {la : Nat → Int32} {da : Nat → Bool} {dg : Nat → Bool} {ps : Nat → Int32} {rn : Nat} {ks : Nat → Int32} {os : Nat → Nat} {ts : Nat → Nat} {fn : Nat} {fp : Nat → Int32} {bo : Nat → Nat} {eE : Nat → Nat → Bool} {lE : Nat → Nat → Bool} {li : Nat → Nat → Bool} {be : Nat → Int32} {ab : Nat → Int32} {X : va_W} (hun : un ≤ 40) (hbo : ∀ u, bo u < 40) : CM yX6_phaseAll cX6_phaseAll 4 (some .int) ({ frames := 1, cells := 0, slots := 0, locals := 21 } : Room) κ [.ref (b 0)] (wM κ b th un ss fi la da dg ps rn ks os ts fn fp bo eE lE li be ab X) (aD (some (.int (nI (cnt (fun v => !(decide (ps v = phG bo be v))) un)))) (wM κ b (nI 0) un ss fi la da dg (pre (phG bo be) ps un) rn ks os ts fn fp bo eE lE li be ab X)) := by
  refine cm_entry (own := RX6) (L := [(0, .ref (b 0))]) (by decide +kernel) rfl (lv_entry [.ref (b 0)] (n := 4) (Nat.le_of_ble_eq_true rfl)) (fun g C E => ?_)
  refine a_aloadn (pc := 0) C 0 rfl rfl dX6_phaseAll_0 ?_
  refine a_iconst (pc := 1) (v := nI 0) C ci_0 dX6_phaseAll_1 ?_
  refine a_put (pc := 2) (ws' := wM κ b (nI 0) un ss fi la da dg ps rn ks os ts fn fp bo eE lE li be ab X) C fl_X6_60 fp_X6_0 0 rfl rfl rfl (Nat.le_of_ble_eq_true rfl) rfl dX6_phaseAll_2 ?_
  refine a_iconst (pc := 5) (v := nI 0) C ci_0 dX6_phaseAll_5 ?_
  refine a_istoren (pc := 6) (L' := [(0, .ref (b 0)), (1, .int (nI 0))]) C (by decide) rfl rfl dX6_phaseAll_6 ?_
  refine a_iconst (pc := 7) (v := nI 0) C ci_0 dX6_phaseAll_7 ?_
  refine a_istoren (pc := 8) (L' := [(0, .ref (b 0)), (1, .int (nI 0)), (2, .int (nI 0))]) C (by decide) rfl rfl dX6_phaseAll_8 ?_
  have LP9 : ∀ (jz k : Nat), k + jz = un → aw g κ 4 9 [(0, .ref (b 0)), (1, .int (nI (cnt (fun v => !(decide (ps v = phG bo be v))) k))), (2, .int (nI k))] [] (wM κ b (nI 0) un ss fi la da dg (pre (phG bo be) ps k) rn ks os ts fn fp bo eE lE li be ab X) 0 0 := by
    intro jz
    induction jz with
    | zero =>
      intro k hk_k
      obtain rfl : un = k := by omega
      refine a_iloadn (pc := 9) C 2 rfl rfl dX6_phaseAll_9 ?_
      refine a_aloadn (pc := 10) C 0 rfl rfl dX6_phaseAll_10 ?_
      refine a_get (pc := 11) C fl_X6_64 0 rfl rfl dX6_phaseAll_11 ?_
      refine a_icn_ge_y (pc := 14) (tgt := 65) C (by omega) (by omega) (by omega) (by decide) dX6_phaseAll_14 ?_
      refine a_iloadn (pc := 65) C 1 rfl rfl dX6_phaseAll_65 ?_
      exact a_iret (pc := 66) C E (Nat.le_of_ble_eq_true rfl) (Nat.le_of_ble_eq_true rfl) ⟨rfl, rfl⟩ dX6_phaseAll_66
    | succ jz ih =>
      intro k hk_k
      have hlt_k : k < un := by omega
      have hbk := hbo k
      refine a_iloadn (pc := 9) C 2 rfl rfl dX6_phaseAll_9 ?_
      refine a_aloadn (pc := 10) C 0 rfl rfl dX6_phaseAll_10 ?_
      refine a_get (pc := 11) C fl_X6_64 0 rfl rfl dX6_phaseAll_11 ?_
      refine a_icn_ge_n (pc := 14) C (by omega) (by omega) (by omega) dX6_phaseAll_14 ⟨65, by decide⟩ ?_
      refine a_bipush (pc := 17) (v := nI 20) C cb_20 dX6_phaseAll_17 ?_
      refine a_aloadn (pc := 19) C 0 rfl rfl dX6_phaseAll_19 ?_
      refine a_get (pc := 20) C fl_X6_54 0 rfl rfl dX6_phaseAll_20 ?_
      refine a_aloadn (pc := 23) C 0 rfl rfl dX6_phaseAll_23 ?_
      refine a_get (pc := 24) C fl_X6_41 0 rfl rfl dX6_phaseAll_24 ?_
      refine a_iloadn (pc := 27) C 2 rfl rfl dX6_phaseAll_27 ?_
      refine a_ialdN (pc := 28) C 11 rfl (by omega) (by decide) dX6_phaseAll_28 ?_
      refine a_iald (pc := 29) C 15 rfl (hbo _) (by decide) dX6_phaseAll_29 ?_
      refine a_mmin (pc := 30) (v := phG bo be k) C ml_X6_74 rfl (Nat.le_of_ble_eq_true rfl) (Nat.le_of_ble_eq_true rfl) (Nat.le_of_ble_eq_true rfl) (Nat.le_of_ble_eq_true rfl) dX6_phaseAll_30 ?_
      refine a_istoren (pc := 33) (L' := [(0, .ref (b 0)), (1, .int (nI (cnt (fun v => !(decide (ps v = phG bo be v))) k))), (2, .int (nI k)), (3, .int (phG bo be k))]) C (by decide) rfl rfl dX6_phaseAll_33 ?_
      refine a_iloadn (pc := 34) C 1 rfl rfl dX6_phaseAll_34 ?_
      refine a_aloadn (pc := 35) C 0 rfl rfl dX6_phaseAll_35 ?_
      refine a_get (pc := 36) C fl_X6_26 0 rfl rfl dX6_phaseAll_36 ?_
      refine a_iloadn (pc := 39) C 2 rfl rfl dX6_phaseAll_39 ?_
      refine a_iald (pc := 40) C 6 rfl (by omega) (by decide) dX6_phaseAll_40 ?_
      refine a_iloadn (pc := 41) C 3 rfl rfl dX6_phaseAll_41 ?_
      refine a_ic_eq (pc := 42) (tgt := 49) C (by decide) dX6_phaseAll_42 (fun c1 => ?_) (fun c1 => ?_)
      · refine a_iconst (pc := 49) (v := nI 0) C ci_0 dX6_phaseAll_49 ?_
        refine a_iadd (pc := 50) (v := nI ((cnt (fun v => !(decide (ps v = phG bo be v))) k) + 0)) C (nI_add _ _) dX6_phaseAll_50 ?_
        refine a_istoren (pc := 51) (L' := [(0, .ref (b 0)), (1, .int (nI ((cnt (fun v => !(decide (ps v = phG bo be v))) k) + 0))), (2, .int (nI k)), (3, .int (phG bo be k))]) C (by decide) rfl rfl dX6_phaseAll_51 ?_
        refine a_aloadn (pc := 52) C 0 rfl rfl dX6_phaseAll_52 ?_
        refine a_get (pc := 53) C fl_X6_26 0 rfl rfl dX6_phaseAll_53 ?_
        refine a_iloadn (pc := 56) C 2 rfl rfl dX6_phaseAll_56 ?_
        refine a_iloadn (pc := 57) C 3 rfl rfl dX6_phaseAll_57 ?_
        refine a_iast (pc := 58) (ws' := wM κ b (nI 0) un ss fi la da dg (va_up (pre (phG bo be) ps k) k (phG bo be k)) rn ks os ts fn fp bo eE lE li be ab X) C 6 rfl (by omega) (by decide) rfl rfl dX6_phaseAll_58 ?_
        refine a_iinc (pc := 59) (v := nI (k + 1)) (L' := [(0, .ref (b 0)), (1, .int (nI ((cnt (fun v => !(decide (ps v = phG bo be v))) k) + 0))), (2, .int (nI (k + 1))), (3, .int (phG bo be k))]) C 2 rfl (nI_inc _) (by decide) rfl dX6_phaseAll_59 ?_
        refine a_goto (pc := 62) (tgt := 9) C (by decide) dX6_phaseAll_62 ?_
        refine aw_locals (L' := [(0, .ref (b 0)), (1, .int (nI ((cnt (fun v => !(decide (ps v = phG bo be v))) k) + 0))), (2, .int (nI (k + 1)))]) [0, 1, 2] rfl ?_
        refine aw_L (L' := [(0, .ref (b 0)), (1, .int (nI (cnt (fun v => !(decide (ps v = phG bo be v))) (k + 1)))), (2, .int (nI (k + 1)))]) (congrArg (fun zz9 => ([(0, .ref (b 0)), (1, .int zz9), (2, .int (nI (k + 1)))] : List (Nat × Value))) (congrArg nI (by rw [cnt_n (p := (fun v => !(decide (ps v = phG bo be v)))) (by rw [show ps k = phG bo be k from (pre_self (phG bo be) ps k).symm.trans c1, decide_eq_true rfl]; rfl)]; rfl) : (nI ((cnt (fun v => !(decide (ps v = phG bo be v))) k) + 0)) = (nI (cnt (fun v => !(decide (ps v = phG bo be v))) (k + 1))))) ?_
        refine aw_eq (congrArg (fun zz9 => wM κ b (nI 0) un ss fi la da dg zz9 rn ks os ts fn fp bo eE lE li be ab X) (pre_s (phG bo be) ps k : (va_up (pre (phG bo be) ps k) k (phG bo be k)) = (pre (phG bo be) ps (k + 1)))) ?_
        exact ih (k + 1) (by omega)
      · refine a_iconst (pc := 45) (v := nI 1) C ci_1 dX6_phaseAll_45 ?_
        refine a_goto (pc := 46) (tgt := 50) C (by decide) dX6_phaseAll_46 ?_
        refine a_iadd (pc := 50) (v := nI ((cnt (fun v => !(decide (ps v = phG bo be v))) k) + 1)) C (nI_add _ _) dX6_phaseAll_50 ?_
        refine a_istoren (pc := 51) (L' := [(0, .ref (b 0)), (1, .int (nI ((cnt (fun v => !(decide (ps v = phG bo be v))) k) + 1))), (2, .int (nI k)), (3, .int (phG bo be k))]) C (by decide) rfl rfl dX6_phaseAll_51 ?_
        refine a_aloadn (pc := 52) C 0 rfl rfl dX6_phaseAll_52 ?_
        refine a_get (pc := 53) C fl_X6_26 0 rfl rfl dX6_phaseAll_53 ?_
        refine a_iloadn (pc := 56) C 2 rfl rfl dX6_phaseAll_56 ?_
        refine a_iloadn (pc := 57) C 3 rfl rfl dX6_phaseAll_57 ?_
        refine a_iast (pc := 58) (ws' := wM κ b (nI 0) un ss fi la da dg (va_up (pre (phG bo be) ps k) k (phG bo be k)) rn ks os ts fn fp bo eE lE li be ab X) C 6 rfl (by omega) (by decide) rfl rfl dX6_phaseAll_58 ?_
        refine a_iinc (pc := 59) (v := nI (k + 1)) (L' := [(0, .ref (b 0)), (1, .int (nI ((cnt (fun v => !(decide (ps v = phG bo be v))) k) + 1))), (2, .int (nI (k + 1))), (3, .int (phG bo be k))]) C 2 rfl (nI_inc _) (by decide) rfl dX6_phaseAll_59 ?_
        refine a_goto (pc := 62) (tgt := 9) C (by decide) dX6_phaseAll_62 ?_
        refine aw_locals (L' := [(0, .ref (b 0)), (1, .int (nI ((cnt (fun v => !(decide (ps v = phG bo be v))) k) + 1))), (2, .int (nI (k + 1)))]) [0, 1, 2] rfl ?_
        refine aw_L (L' := [(0, .ref (b 0)), (1, .int (nI (cnt (fun v => !(decide (ps v = phG bo be v))) (k + 1)))), (2, .int (nI (k + 1)))]) (congrArg (fun zz9 => ([(0, .ref (b 0)), (1, .int zz9), (2, .int (nI (k + 1)))] : List (Nat × Value))) (congrArg nI (by rw [cnt_y (p := (fun v => !(decide (ps v = phG bo be v)))) (by rw [decide_eq_false (fun e => c1 ((pre_self (phG bo be) ps k).trans e))]; rfl)]) : (nI ((cnt (fun v => !(decide (ps v = phG bo be v))) k) + 1)) = (nI (cnt (fun v => !(decide (ps v = phG bo be v))) (k + 1))))) ?_
        refine aw_eq (congrArg (fun zz9 => wM κ b (nI 0) un ss fi la da dg zz9 rn ks os ts fn fp bo eE lE li be ab X) (pre_s (phG bo be) ps k : (va_up (pre (phG bo be) ps k) k (phG bo be k)) = (pre (phG bo be) ps (k + 1)))) ?_
        exact ih (k + 1) (by omega)
  refine aw_L (L' := [(0, .ref (b 0)), (1, .int (nI (cnt (fun v => !(decide (ps v = phG bo be v))) 0))), (2, .int (nI 0))]) (congrArg (fun zz9 => ([(0, .ref (b 0)), (1, .int zz9), (2, .int (nI 0))] : List (Nat × Value))) (rfl : (nI 0) = (nI (cnt (fun v => !(decide (ps v = phG bo be v))) 0)))) ?_
  refine aw_eq (congrArg (fun zz9 => wM κ b (nI 0) un ss fi la da dg zz9 rn ks os ts fn fp bo eE lE li be ab X) ((pre_0 _ _).symm : ps = (pre (phG bo be) ps 0))) ?_
  exact LP9 (un) (0) (by omega)

set_option maxHeartbeats 4000000 in
set_option maxRecDepth 100000 in
theorem c_X6_outOfPhase (κ : aK) (b : Nat → Nat) {th : Int32} {un : Nat} {ss : Nat → Int32} {fi : Nat → Int32} {la : Nat → Int32} {da : Nat → Bool} {dg : Nat → Bool} {ps : Nat → Int32} {rn : Nat} {ks : Nat → Int32} {os : Nat → Nat} {ts : Nat → Nat} {fn : Nat} {fp : Nat → Int32} {bo : Nat → Nat} {eE : Nat → Nat → Bool} {lE : Nat → Nat → Bool} {li : Nat → Nat → Bool} {be : Nat → Int32} {ab : Nat → Int32} {X : va_W} {isS : Bool} (hun : un ≤ 40) (hbo : ∀ u, bo u < 40) : CM yX6_outOfPhase cX6_outOfPhase 4 (some .int) ({ frames := 2, cells := 0, slots := 0, locals := 44 } : Room) κ [.ref (b 0), .int (b2i isS)] (wM κ b th un ss fi la da dg ps rn ks os ts fn fp bo eE lE li be ab X) (aD (some (.int (oI (opR (poB bo eE ps) un isS)))) (wM κ b (nI 0) un ss fi la da dg ps rn ks os ts fn fp bo eE lE li be ab X)) := by
  refine cm_entry (own := RX6) (L := [(0, .ref (b 0)), (1, .int (b2i isS))]) (by decide +kernel) rfl (lv_entry [.ref (b 0), .int (b2i isS)] (n := 4) (Nat.le_of_ble_eq_true rfl)) (fun g C E => ?_)
  refine a_aloadn (pc := 0) C 0 rfl rfl dX6_outOfPhase_0 ?_
  refine a_iconst (pc := 1) (v := nI 0) C ci_0 dX6_outOfPhase_1 ?_
  refine a_put (pc := 2) (ws' := wM κ b (nI 0) un ss fi la da dg ps rn ks os ts fn fp bo eE lE li be ab X) C fl_X6_60 fp_X6_0 0 rfl rfl rfl (Nat.le_of_ble_eq_true rfl) rfl dX6_outOfPhase_2 ?_
  refine a_iconst (pc := 5) (v := nI 0) C ci_0 dX6_outOfPhase_5 ?_
  refine a_istoren (pc := 6) (L' := [(0, .ref (b 0)), (1, .int (b2i isS)), (2, .int (nI 0))]) C (by decide) rfl rfl dX6_outOfPhase_6 ?_
  have LP7 : ∀ (jz k : Nat), k + jz = un → (fst1 (fun x => (fst1 (poB bo eE ps x) un).isSome) k = none) → aw g κ 4 7 [(0, .ref (b 0)), (1, .int (b2i isS)), (2, .int (nI k))] [] (wM κ b (nI 0) un ss fi la da dg ps rn ks os ts fn fp bo eE lE li be ab X) 0 0 := by
    intro jz
    induction jz with
    | zero =>
      intro k hk_k hno
      obtain rfl : un = k := by omega
      refine a_iloadn (pc := 7) C 2 rfl rfl dX6_outOfPhase_7 ?_
      refine a_aloadn (pc := 8) C 0 rfl rfl dX6_outOfPhase_8 ?_
      refine a_get (pc := 9) C fl_X6_64 0 rfl rfl dX6_outOfPhase_9 ?_
      refine a_icn_ge_y (pc := 12) (tgt := 56) C (by omega) (by omega) (by omega) (by decide) dX6_outOfPhase_12 ?_
      refine a_iconst (pc := 56) (v := (-1 : Int32)) C ci_m1 dX6_outOfPhase_56 ?_
      exact a_iret (pc := 57) C E (Nat.le_of_ble_eq_true rfl) (Nat.le_of_ble_eq_true rfl) ⟨by rw [opR_none hno]; rfl, rfl⟩ dX6_outOfPhase_57
    | succ jz ih =>
      intro k hk_k hno
      have hlt_k : k < un := by omega
      refine a_iloadn (pc := 7) C 2 rfl rfl dX6_outOfPhase_7 ?_
      refine a_aloadn (pc := 8) C 0 rfl rfl dX6_outOfPhase_8 ?_
      refine a_get (pc := 9) C fl_X6_64 0 rfl rfl dX6_outOfPhase_9 ?_
      refine a_icn_ge_n (pc := 12) C (by omega) (by omega) (by omega) dX6_outOfPhase_12 ⟨56, by decide⟩ ?_
      refine a_iconst (pc := 15) (v := nI 0) C ci_0 dX6_outOfPhase_15 ?_
      refine a_istoren (pc := 16) (L' := [(0, .ref (b 0)), (1, .int (b2i isS)), (2, .int (nI k)), (3, .int (nI 0))]) C (by decide) rfl rfl dX6_outOfPhase_16 ?_
      have LP17 : ∀ (jz j : Nat), j + jz = un → (fst1 (poB bo eE ps k) j = none) → aw g κ 4 17 [(0, .ref (b 0)), (1, .int (b2i isS)), (2, .int (nI k)), (3, .int (nI j))] [] (wM κ b (nI 0) un ss fi la da dg ps rn ks os ts fn fp bo eE lE li be ab X) 0 0 := by
        intro jz
        induction jz with
        | zero =>
          intro j hk_j hno2
          obtain rfl : un = j := by omega
          refine a_iloadn (pc := 17) C 3 rfl rfl dX6_outOfPhase_17 ?_
          refine a_aloadn (pc := 18) C 0 rfl rfl dX6_outOfPhase_18 ?_
          refine a_get (pc := 19) C fl_X6_64 0 rfl rfl dX6_outOfPhase_19 ?_
          refine a_icn_ge_y (pc := 22) (tgt := 50) C (by omega) (by omega) (by omega) (by decide) dX6_outOfPhase_22 ?_
          refine a_iinc (pc := 50) (v := nI (k + 1)) (L' := [(0, .ref (b 0)), (1, .int (b2i isS)), (2, .int (nI (k + 1))), (3, .int (nI un))]) C 2 rfl (nI_inc _) (by decide) rfl dX6_outOfPhase_50 ?_
          refine a_goto (pc := 53) (tgt := 7) C (by decide) dX6_outOfPhase_53 ?_
          refine aw_locals (L' := [(0, .ref (b 0)), (1, .int (b2i isS)), (2, .int (nI (k + 1)))]) [0, 1, 2] rfl ?_
          exact ih (k + 1) (by omega) (fst1_mis hno (by rw [hno2]; rfl))
        | succ jz ih =>
          intro j hk_j hno2
          have hlt_j : j < un := by omega
          refine a_iloadn (pc := 17) C 3 rfl rfl dX6_outOfPhase_17 ?_
          refine a_aloadn (pc := 18) C 0 rfl rfl dX6_outOfPhase_18 ?_
          refine a_get (pc := 19) C fl_X6_64 0 rfl rfl dX6_outOfPhase_19 ?_
          refine a_icn_ge_n (pc := 22) C (by omega) (by omega) (by omega) dX6_outOfPhase_22 ⟨50, by decide⟩ ?_
          refine a_aloadn (pc := 25) C 0 rfl rfl dX6_outOfPhase_25 ?_
          refine a_iloadn (pc := 26) C 2 rfl rfl dX6_outOfPhase_26 ?_
          refine a_iloadn (pc := 27) C 3 rfl rfl dX6_outOfPhase_27 ?_
          refine a_callV1 (pc := 28) (k' := 0) (n' := 0) C (c_X6_areOut κ b hbo (by omega) (by omega)) yv_X6_areOut ml_X6_139 wi_X6_areOut wl_X6_areOut 0 rfl rfl rfl rfl (Nat.le_of_ble_eq_true rfl) (Nat.le_of_ble_eq_true rfl) (Nat.le_of_ble_eq_true rfl) ⟨(Nat.le_of_ble_eq_true rfl), (Nat.le_of_ble_eq_true rfl)⟩ rfl rfl dX6_outOfPhase_28 ?_
          refine a_ifb_eq (pc := 31) (tgt := 44) C (by decide) dX6_outOfPhase_31 (fun c1 => ?_) (fun c1 => ?_)
          · refine a_iinc (pc := 44) (v := nI (j + 1)) (L' := [(0, .ref (b 0)), (1, .int (b2i isS)), (2, .int (nI k)), (3, .int (nI (j + 1)))]) C 3 rfl (nI_inc _) (by decide) rfl dX6_outOfPhase_44 ?_
            refine a_goto (pc := 47) (tgt := 17) C (by decide) dX6_outOfPhase_47 ?_
            exact ih (j + 1) (by omega) (fst1_mis hno2 c1)
          · refine a_iloadn (pc := 34) C 1 rfl rfl dX6_outOfPhase_34 ?_
            refine a_ifb_eq (pc := 35) (tgt := 42) C (by decide) dX6_outOfPhase_35 (fun c2 => ?_) (fun c2 => ?_)
            · refine a_iloadn (pc := 42) C 2 rfl rfl dX6_outOfPhase_42 ?_
              exact a_iret (pc := 43) C E (Nat.le_of_ble_eq_true rfl) (Nat.le_of_ble_eq_true rfl) ⟨by rw [opR_at hlt_k hlt_j hno hno2 c1, c2]; rfl, rfl⟩ dX6_outOfPhase_43
            · refine a_iloadn (pc := 38) C 3 rfl rfl dX6_outOfPhase_38 ?_
              refine a_goto (pc := 39) (tgt := 43) C (by decide) dX6_outOfPhase_39 ?_
              exact a_iret (pc := 43) C E (Nat.le_of_ble_eq_true rfl) (Nat.le_of_ble_eq_true rfl) ⟨by rw [opR_at hlt_k hlt_j hno hno2 c1, c2]; rfl, rfl⟩ dX6_outOfPhase_43
      exact LP17 (un) (0) (by omega) rfl
  exact LP7 (un) (0) (by omega) rfl
