set_option maxHeartbeats 4000000 in
set_option maxRecDepth 100000 in
theorem c_X6_year_lo (κ : aK) (b : Nat → Nat) {th : Int32} {un : Nat} {ss : Nat → Int32} {fi : Nat → Int32} {la : Nat → Int32} {da : Nat → Bool} {dg : Nat → Bool} {ps : Nat → Int32} {rn : Nat} {ks : Nat → Int32} {os : Nat → Nat} {ts : Nat → Nat} {fn : Nat} {fp : Nat → Int32} {bo : Nat → Nat} {eE : Nat → Nat → Bool} {lE : Nat → Nat → Bool} {li : Nat → Nat → Bool} {be : Nat → Int32} {ab : Nat → Int32} {X : va_W} {u : Nat} {fu : Nat → Nat} (hun : un ≤ 40) (hfn : fn ≤ 60) (hbo : ∀ u, bo u < 40) (hq : ∀ j, fp (7 * j) = nI (fu j)) (hfu : ∀ u, fu u < 40) (hu : u < 40) : CM yX6_year cX6_year 8 (some .int) ({ frames := 1, cells := 0, slots := 0, locals := 22 } : Room) κ [.ref (b 0), .int (nI u), .int (nI 0)] (wM κ b th un ss fi la da dg ps rn ks os ts fn fp bo eE lE li be ab X) (aD (some (.int (yLo bo eE da fi un fu fp fn u))) (wM κ b th un ss fi la da dg ps rn ks os ts fn fp bo eE lE li be ab X)) := by
  refine cm_entry (own := RX6) (L := [(0, .ref (b 0)), (1, .int (nI u)), (2, .int (nI 0))]) (by decide +kernel) rfl (lv_entry [.ref (b 0), .int (nI u), .int (nI 0)] (n := 8) (Nat.le_of_ble_eq_true rfl)) (fun g C E => ?_)
  have hbu := hbo u
  refine a_aloadn (pc := 0) C 0 rfl rfl dX6_year_0 ?_
  refine a_get (pc := 1) C fl_X6_41 0 rfl rfl dX6_year_1 ?_
  refine a_iloadn (pc := 4) C 1 rfl rfl dX6_year_4 ?_
  refine a_ialdN (pc := 5) C 11 rfl (by omega) (by decide) dX6_year_5 ?_
  refine a_istoren (pc := 6) (L' := [(0, .ref (b 0)), (1, .int (nI u)), (2, .int (nI 0)), (3, .int (nI (bo u)))]) C (by decide) rfl rfl dX6_year_6 ?_
  refine a_iloadn (pc := 7) C 2 rfl rfl dX6_year_7 ?_
  refine a_ifn_eq_y (pc := 8) (tgt := 17) C (by omega) rfl (by decide) dX6_year_8 ?_
  refine a_sipush (pc := 17) (v := (-5000 : Int32)) C cs_m5000 dX6_year_17 ?_
  refine a_istore (pc := 20) (L' := [(0, .ref (b 0)), (1, .int (nI u)), (2, .int (nI 0)), (3, .int (nI (bo u))), (4, .int (-5000 : Int32))]) C (by decide) rfl dX6_year_20 ?_
  refine a_iloadn (pc := 22) C 2 rfl rfl dX6_year_22 ?_
  refine a_ifn_eq_y (pc := 23) (tgt := 35) C (by omega) rfl (by decide) dX6_year_23 ?_
  refine a_aloadn (pc := 35) C 0 rfl rfl dX6_year_35 ?_
  refine a_get (pc := 36) C fl_X6_44 0 rfl rfl dX6_year_36 ?_
  refine a_iloadn (pc := 39) C 3 rfl rfl dX6_year_39 ?_
  refine a_laldS (pc := 40) C 12 rfl (hbo _) (by decide) dX6_year_40 ?_
  refine a_lconst (pc := 41) (v := 1) C rfl dX6_year_41 ?_
  refine a_iloadn (pc := 42) C 3 rfl rfl dX6_year_42 ?_
  refine a_lshl (pc := 43) (v := bs (fun i => decide (i = (bo u)))) C (bs_bit (by omega)) dX6_year_43 ?_
  refine a_lor (pc := 44) (v := bs (fun i => (eE (bo u)) i || (decide (i = (bo u))))) C (bs_or _ _) dX6_year_44 ?_
  refine a_lstore (pc := 45) (L' := [(0, .ref (b 0)), (1, .int (nI u)), (2, .int (nI 0)), (3, .int (nI (bo u))), (4, .int (-5000 : Int32)), (5, .long (bs (fun i => (eE (bo u)) i || (decide (i = (bo u))))))]) C (by decide) rfl dX6_year_45 ?_
  refine a_iconst (pc := 47) (v := nI 0) C ci_0 dX6_year_47 ?_
  refine a_istore (pc := 48) (L' := [(0, .ref (b 0)), (1, .int (nI u)), (2, .int (nI 0)), (3, .int (nI (bo u))), (4, .int (-5000 : Int32)), (5, .long (bs (fun i => (eE (bo u)) i || (decide (i = (bo u)))))), (7, .int (nI 0))]) C (by decide) rfl dX6_year_48 ?_
  have LP50 : ∀ (jz k : Nat), k + jz = un → aw g κ 8 50 [(0, .ref (b 0)), (1, .int (nI u)), (2, .int (nI 0)), (3, .int (nI (bo u))), (4, .int (yL1 (fun i => eE (bo u) i || decide (i = bo u)) bo da fi k)), (5, .long (bs (fun i => (eE (bo u)) i || (decide (i = (bo u)))))), (7, .int (nI k))] [] (wM κ b th un ss fi la da dg ps rn ks os ts fn fp bo eE lE li be ab X) 0 0 := by
    intro jz
    induction jz with
    | zero =>
      intro k hk_k
      obtain rfl : un = k := by omega
      refine a_iload (pc := 50) C 6 rfl dX6_year_50 ?_
      refine a_aloadn (pc := 52) C 0 rfl rfl dX6_year_52 ?_
      refine a_get (pc := 53) C fl_X6_64 0 rfl rfl dX6_year_53 ?_
      refine a_icn_ge_y (pc := 56) (tgt := 126) C (by omega) (by omega) (by omega) (by decide) dX6_year_56 ?_
      refine a_iconst (pc := 126) (v := nI 0) C ci_0 dX6_year_126 ?_
      refine a_istore (pc := 127) (L' := [(0, .ref (b 0)), (1, .int (nI u)), (2, .int (nI 0)), (3, .int (nI (bo u))), (4, .int (yL1 (fun i => eE (bo u) i || decide (i = bo u)) bo da fi un)), (5, .long (bs (fun i => (eE (bo u)) i || (decide (i = (bo u)))))), (7, .int (nI 0))]) C (by decide) rfl dX6_year_127 ?_
      have LP129 : ∀ (jz k : Nat), k + jz = fn → aw g κ 8 129 [(0, .ref (b 0)), (1, .int (nI u)), (2, .int (nI 0)), (3, .int (nI (bo u))), (4, .int (yL2 (fun i => eE (bo u) i || decide (i = bo u)) bo fu fp (yL1 (fun i => eE (bo u) i || decide (i = bo u)) bo da fi un) k)), (5, .long (bs (fun i => (eE (bo u)) i || (decide (i = (bo u)))))), (7, .int (nI k))] [] (wM κ b th un ss fi la da dg ps rn ks os ts fn fp bo eE lE li be ab X) 0 0 := by
        intro jz
        induction jz with
        | zero =>
          intro k hk_k
          obtain rfl : fn = k := by omega
          refine a_iload (pc := 129) C 6 rfl dX6_year_129 ?_
          refine a_aloadn (pc := 131) C 0 rfl rfl dX6_year_131 ?_
          refine a_get (pc := 132) C fl_X6_120 0 rfl rfl dX6_year_132 ?_
          refine a_icn_ge_y (pc := 135) (tgt := 190) C (by omega) (by omega) (by omega) (by decide) dX6_year_135 ?_
          refine a_iload (pc := 190) C 4 rfl dX6_year_190 ?_
          exact a_iret (pc := 192) C E (Nat.le_of_ble_eq_true rfl) (Nat.le_of_ble_eq_true rfl) ⟨rfl, rfl⟩ dX6_year_192
        | succ jz ih =>
          intro k hk_k
          have hlt_k : k < fn := by omega
          have hfk := hfu k
          refine a_iload (pc := 129) C 6 rfl dX6_year_129 ?_
          refine a_aloadn (pc := 131) C 0 rfl rfl dX6_year_131 ?_
          refine a_get (pc := 132) C fl_X6_120 0 rfl rfl dX6_year_132 ?_
          refine a_icn_ge_n (pc := 135) C (by omega) (by omega) (by omega) dX6_year_135 ⟨190, by decide⟩ ?_
          refine a_iloadn (pc := 138) C 2 rfl rfl dX6_year_138 ?_
          refine a_ifn_ne_n (pc := 139) C (by omega) rfl dX6_year_139 ⟨190, by decide⟩ ?_
          refine a_lload (pc := 142) C 5 rfl dX6_year_142 ?_
          refine a_aloadn (pc := 144) C 0 rfl rfl dX6_year_144 ?_
          refine a_get (pc := 145) C fl_X6_41 0 rfl rfl dX6_year_145 ?_
          refine a_aloadn (pc := 148) C 0 rfl rfl dX6_year_148 ?_
          refine a_get (pc := 149) C fl_X6_38 0 rfl rfl dX6_year_149 ?_
          refine a_bipush (pc := 152) (v := nI 7) C cb_7 dX6_year_152 ?_
          refine a_iload (pc := 154) C 6 rfl dX6_year_154 ?_
          refine a_imul (pc := 156) (v := nI (7 * k)) C (pk_mul _ _) dX6_year_156 ?_
          refine a_iald (pc := 157) C 10 rfl (by omega) (by decide) dX6_year_157 ?_
          refine aw_st (st' := [.int (nI (fu k)), .ref (b 11), .long (bs (fun i => (eE (bo u)) i || (decide (i = (bo u)))))]) (by rw [hq k]) ?_
          refine a_ialdN (pc := 158) C 11 rfl (hfu _) (by decide) dX6_year_158 ?_
          refine a_callS1 (pc := 159) (k' := 0) (n' := 0) C (c_X6_has κ (Nat.lt_trans (hbo _) (by decide))) yv_X6_has ml_X6_83 ws_X6_has rfl rfl (Nat.le_of_ble_eq_true rfl) (Nat.le_of_ble_eq_true rfl) (Nat.le_of_ble_eq_true rfl) ⟨(Nat.le_of_ble_eq_true rfl), (Nat.le_of_ble_eq_true rfl)⟩ rfl rfl dX6_year_159 ?_
          refine a_ifb_eq (pc := 162) (tgt := 184) C (by decide) dX6_year_162 (fun c1 => ?_) (fun c1 => ?_)
          · refine a_iinc (pc := 184) (v := nI (k + 1)) (L' := [(0, .ref (b 0)), (1, .int (nI u)), (2, .int (nI 0)), (3, .int (nI (bo u))), (4, .int (yL2 (fun i => eE (bo u) i || decide (i = bo u)) bo fu fp (yL1 (fun i => eE (bo u) i || decide (i = bo u)) bo da fi un) k)), (5, .long (bs (fun i => (eE (bo u)) i || (decide (i = (bo u)))))), (7, .int (nI (k + 1)))]) C 6 rfl (nI_inc _) (by decide) rfl dX6_year_184 ?_
            refine a_goto (pc := 187) (tgt := 129) C (by decide) dX6_year_187 ?_
            refine aw_L (L' := [(0, .ref (b 0)), (1, .int (nI u)), (2, .int (nI 0)), (3, .int (nI (bo u))), (4, .int (yL2 (fun i => eE (bo u) i || decide (i = bo u)) bo fu fp (yL1 (fun i => eE (bo u) i || decide (i = bo u)) bo da fi un) (k + 1))), (5, .long (bs (fun i => (eE (bo u)) i || (decide (i = (bo u)))))), (7, .int (nI (k + 1)))]) (congrArg (fun zz9 => ([(0, .ref (b 0)), (1, .int (nI u)), (2, .int (nI 0)), (3, .int (nI (bo u))), (4, .int zz9), (5, .long (bs (fun i => (eE (bo u)) i || (decide (i = (bo u)))))), (7, .int (nI (k + 1)))] : List (Nat × Value))) (yL2_n c1 : (yL2 (fun i => eE (bo u) i || decide (i = bo u)) bo fu fp (yL1 (fun i => eE (bo u) i || decide (i = bo u)) bo da fi un) k) = (yL2 (fun i => eE (bo u) i || decide (i = bo u)) bo fu fp (yL1 (fun i => eE (bo u) i || decide (i = bo u)) bo da fi un) (k + 1)))) ?_
            exact ih (k + 1) (by omega)
          · refine a_iload (pc := 165) C 4 rfl dX6_year_165 ?_
            refine a_aloadn (pc := 167) C 0 rfl rfl dX6_year_167 ?_
            refine a_get (pc := 168) C fl_X6_38 0 rfl rfl dX6_year_168 ?_
            refine a_bipush (pc := 171) (v := nI 7) C cb_7 dX6_year_171 ?_
            refine a_iload (pc := 173) C 6 rfl dX6_year_173 ?_
            refine a_imul (pc := 175) (v := nI (7 * k)) C (pk_mul _ _) dX6_year_175 ?_
            refine a_iconst (pc := 176) (v := nI 2) C ci_2 dX6_year_176 ?_
            refine a_iadd (pc := 177) (v := nI ((7 * k) + 2)) C (nI_add _ _) dX6_year_177 ?_
            refine a_iald (pc := 178) C 10 rfl (by omega) (by decide) dX6_year_178 ?_
            refine a_mmax (pc := 179) (v := imax (yL2 (fun i => eE (bo u) i || decide (i = bo u)) bo fu fp (yL1 (fun i => eE (bo u) i || decide (i = bo u)) bo da fi un) k) (fp ((7 * k) + 2))) C ml_X6_97 rfl (Nat.le_of_ble_eq_true rfl) (Nat.le_of_ble_eq_true rfl) (Nat.le_of_ble_eq_true rfl) (Nat.le_of_ble_eq_true rfl) dX6_year_179 ?_
            refine a_istore (pc := 182) (L' := [(0, .ref (b 0)), (1, .int (nI u)), (2, .int (nI 0)), (3, .int (nI (bo u))), (4, .int (imax (yL2 (fun i => eE (bo u) i || decide (i = bo u)) bo fu fp (yL1 (fun i => eE (bo u) i || decide (i = bo u)) bo da fi un) k) (fp ((7 * k) + 2)))), (5, .long (bs (fun i => (eE (bo u)) i || (decide (i = (bo u)))))), (7, .int (nI k))]) C (by decide) rfl dX6_year_182 ?_
            refine a_iinc (pc := 184) (v := nI (k + 1)) (L' := [(0, .ref (b 0)), (1, .int (nI u)), (2, .int (nI 0)), (3, .int (nI (bo u))), (4, .int (imax (yL2 (fun i => eE (bo u) i || decide (i = bo u)) bo fu fp (yL1 (fun i => eE (bo u) i || decide (i = bo u)) bo da fi un) k) (fp ((7 * k) + 2)))), (5, .long (bs (fun i => (eE (bo u)) i || (decide (i = (bo u)))))), (7, .int (nI (k + 1)))]) C 6 rfl (nI_inc _) (by decide) rfl dX6_year_184 ?_
            refine a_goto (pc := 187) (tgt := 129) C (by decide) dX6_year_187 ?_
            refine aw_L (L' := [(0, .ref (b 0)), (1, .int (nI u)), (2, .int (nI 0)), (3, .int (nI (bo u))), (4, .int (yL2 (fun i => eE (bo u) i || decide (i = bo u)) bo fu fp (yL1 (fun i => eE (bo u) i || decide (i = bo u)) bo da fi un) (k + 1))), (5, .long (bs (fun i => (eE (bo u)) i || (decide (i = (bo u)))))), (7, .int (nI (k + 1)))]) (congrArg (fun zz9 => ([(0, .ref (b 0)), (1, .int (nI u)), (2, .int (nI 0)), (3, .int (nI (bo u))), (4, .int zz9), (5, .long (bs (fun i => (eE (bo u)) i || (decide (i = (bo u)))))), (7, .int (nI (k + 1)))] : List (Nat × Value))) (yL2_y c1 : (imax (yL2 (fun i => eE (bo u) i || decide (i = bo u)) bo fu fp (yL1 (fun i => eE (bo u) i || decide (i = bo u)) bo da fi un) k) (fp ((7 * k) + 2))) = (yL2 (fun i => eE (bo u) i || decide (i = bo u)) bo fu fp (yL1 (fun i => eE (bo u) i || decide (i = bo u)) bo da fi un) (k + 1)))) ?_
            exact ih (k + 1) (by omega)
      refine aw_L (L' := [(0, .ref (b 0)), (1, .int (nI u)), (2, .int (nI 0)), (3, .int (nI (bo u))), (4, .int (yL2 (fun i => eE (bo u) i || decide (i = bo u)) bo fu fp (yL1 (fun i => eE (bo u) i || decide (i = bo u)) bo da fi un) 0)), (5, .long (bs (fun i => (eE (bo u)) i || (decide (i = (bo u)))))), (7, .int (nI 0))]) (congrArg (fun zz9 => ([(0, .ref (b 0)), (1, .int (nI u)), (2, .int (nI 0)), (3, .int (nI (bo u))), (4, .int zz9), (5, .long (bs (fun i => (eE (bo u)) i || (decide (i = (bo u)))))), (7, .int (nI 0))] : List (Nat × Value))) (rfl : (yL1 (fun i => eE (bo u) i || decide (i = bo u)) bo da fi un) = (yL2 (fun i => eE (bo u) i || decide (i = bo u)) bo fu fp (yL1 (fun i => eE (bo u) i || decide (i = bo u)) bo da fi un) 0))) ?_
      exact LP129 (fn) (0) (by omega)
    | succ jz ih =>
      intro k hk_k
      have hlt_k : k < un := by omega
      refine a_iload (pc := 50) C 6 rfl dX6_year_50 ?_
      refine a_aloadn (pc := 52) C 0 rfl rfl dX6_year_52 ?_
      refine a_get (pc := 53) C fl_X6_64 0 rfl rfl dX6_year_53 ?_
      refine a_icn_ge_n (pc := 56) C (by omega) (by omega) (by omega) dX6_year_56 ⟨126, by decide⟩ ?_
      refine a_lload (pc := 59) C 5 rfl dX6_year_59 ?_
      refine a_aloadn (pc := 61) C 0 rfl rfl dX6_year_61 ?_
      refine a_get (pc := 62) C fl_X6_41 0 rfl rfl dX6_year_62 ?_
      refine a_iload (pc := 65) C 6 rfl dX6_year_65 ?_
      refine a_ialdN (pc := 67) C 11 rfl (by omega) (by decide) dX6_year_67 ?_
      refine a_callS1 (pc := 68) (k' := 0) (n' := 0) C (c_X6_has κ (Nat.lt_trans (hbo _) (by decide))) yv_X6_has ml_X6_83 ws_X6_has rfl rfl (Nat.le_of_ble_eq_true rfl) (Nat.le_of_ble_eq_true rfl) (Nat.le_of_ble_eq_true rfl) ⟨(Nat.le_of_ble_eq_true rfl), (Nat.le_of_ble_eq_true rfl)⟩ rfl rfl dX6_year_68 ?_
      refine a_ifb_eq (pc := 71) (tgt := 120) C (by decide) dX6_year_71 (fun c2 => ?_) (fun c2 => ?_)
      · refine a_iinc (pc := 120) (v := nI (k + 1)) (L' := [(0, .ref (b 0)), (1, .int (nI u)), (2, .int (nI 0)), (3, .int (nI (bo u))), (4, .int (yL1 (fun i => eE (bo u) i || decide (i = bo u)) bo da fi k)), (5, .long (bs (fun i => (eE (bo u)) i || (decide (i = (bo u)))))), (7, .int (nI (k + 1)))]) C 6 rfl (nI_inc _) (by decide) rfl dX6_year_120 ?_
        refine a_goto (pc := 123) (tgt := 50) C (by decide) dX6_year_123 ?_
        refine aw_L (L' := [(0, .ref (b 0)), (1, .int (nI u)), (2, .int (nI 0)), (3, .int (nI (bo u))), (4, .int (yL1 (fun i => eE (bo u) i || decide (i = bo u)) bo da fi (k + 1))), (5, .long (bs (fun i => (eE (bo u)) i || (decide (i = (bo u)))))), (7, .int (nI (k + 1)))]) (congrArg (fun zz9 => ([(0, .ref (b 0)), (1, .int (nI u)), (2, .int (nI 0)), (3, .int (nI (bo u))), (4, .int zz9), (5, .long (bs (fun i => (eE (bo u)) i || (decide (i = (bo u)))))), (7, .int (nI (k + 1)))] : List (Nat × Value))) (yL1_n (and_ff c2) : (yL1 (fun i => eE (bo u) i || decide (i = bo u)) bo da fi k) = (yL1 (fun i => eE (bo u) i || decide (i = bo u)) bo da fi (k + 1)))) ?_
        exact ih (k + 1) (by omega)
      · refine a_aloadn (pc := 74) C 0 rfl rfl dX6_year_74 ?_
        refine a_get (pc := 75) C fl_X6_19 0 rfl rfl dX6_year_75 ?_
        refine a_iload (pc := 78) C 6 rfl dX6_year_78 ?_
        refine a_zaldZ (pc := 80) C 4 rfl (by omega) (by decide) dX6_year_80 ?_
        refine a_ifb_ne (pc := 81) (tgt := 87) C (by decide) dX6_year_81 (fun c3 => ?_) (fun c3 => ?_)
        · refine a_iloadn (pc := 87) C 2 rfl rfl dX6_year_87 ?_
          refine a_ifn_eq_y (pc := 88) (tgt := 106) C (by omega) rfl (by decide) dX6_year_88 ?_
          refine a_iload (pc := 106) C 4 rfl dX6_year_106 ?_
          refine a_aloadn (pc := 108) C 0 rfl rfl dX6_year_108 ?_
          refine a_get (pc := 109) C fl_X6_13 0 rfl rfl dX6_year_109 ?_
          refine a_iload (pc := 112) C 6 rfl dX6_year_112 ?_
          refine a_iald (pc := 114) C 2 rfl (by omega) (by decide) dX6_year_114 ?_
          refine a_mmax (pc := 115) (v := imax (yL1 (fun i => eE (bo u) i || decide (i = bo u)) bo da fi k) (fi k)) C ml_X6_97 rfl (Nat.le_of_ble_eq_true rfl) (Nat.le_of_ble_eq_true rfl) (Nat.le_of_ble_eq_true rfl) (Nat.le_of_ble_eq_true rfl) dX6_year_115 ?_
          refine a_istore (pc := 118) (L' := [(0, .ref (b 0)), (1, .int (nI u)), (2, .int (nI 0)), (3, .int (nI (bo u))), (4, .int (imax (yL1 (fun i => eE (bo u) i || decide (i = bo u)) bo da fi k) (fi k))), (5, .long (bs (fun i => (eE (bo u)) i || (decide (i = (bo u)))))), (7, .int (nI k))]) C (by decide) rfl dX6_year_118 ?_
          refine a_iinc (pc := 120) (v := nI (k + 1)) (L' := [(0, .ref (b 0)), (1, .int (nI u)), (2, .int (nI 0)), (3, .int (nI (bo u))), (4, .int (imax (yL1 (fun i => eE (bo u) i || decide (i = bo u)) bo da fi k) (fi k))), (5, .long (bs (fun i => (eE (bo u)) i || (decide (i = (bo u)))))), (7, .int (nI (k + 1)))]) C 6 rfl (nI_inc _) (by decide) rfl dX6_year_120 ?_
          refine a_goto (pc := 123) (tgt := 50) C (by decide) dX6_year_123 ?_
          refine aw_L (L' := [(0, .ref (b 0)), (1, .int (nI u)), (2, .int (nI 0)), (3, .int (nI (bo u))), (4, .int (yL1 (fun i => eE (bo u) i || decide (i = bo u)) bo da fi (k + 1))), (5, .long (bs (fun i => (eE (bo u)) i || (decide (i = (bo u)))))), (7, .int (nI (k + 1)))]) (congrArg (fun zz9 => ([(0, .ref (b 0)), (1, .int (nI u)), (2, .int (nI 0)), (3, .int (nI (bo u))), (4, .int zz9), (5, .long (bs (fun i => (eE (bo u)) i || (decide (i = (bo u)))))), (7, .int (nI (k + 1)))] : List (Nat × Value))) (yL1_y (and_tt c2 c3) : (imax (yL1 (fun i => eE (bo u) i || decide (i = bo u)) bo da fi k) (fi k)) = (yL1 (fun i => eE (bo u) i || decide (i = bo u)) bo da fi (k + 1)))) ?_
          exact ih (k + 1) (by omega)
        · refine a_goto (pc := 84) (tgt := 120) C (by decide) dX6_year_84 ?_
          refine a_iinc (pc := 120) (v := nI (k + 1)) (L' := [(0, .ref (b 0)), (1, .int (nI u)), (2, .int (nI 0)), (3, .int (nI (bo u))), (4, .int (yL1 (fun i => eE (bo u) i || decide (i = bo u)) bo da fi k)), (5, .long (bs (fun i => (eE (bo u)) i || (decide (i = (bo u)))))), (7, .int (nI (k + 1)))]) C 6 rfl (nI_inc _) (by decide) rfl dX6_year_120 ?_
          refine a_goto (pc := 123) (tgt := 50) C (by decide) dX6_year_123 ?_
          refine aw_L (L' := [(0, .ref (b 0)), (1, .int (nI u)), (2, .int (nI 0)), (3, .int (nI (bo u))), (4, .int (yL1 (fun i => eE (bo u) i || decide (i = bo u)) bo da fi (k + 1))), (5, .long (bs (fun i => (eE (bo u)) i || (decide (i = (bo u)))))), (7, .int (nI (k + 1)))]) (congrArg (fun zz9 => ([(0, .ref (b 0)), (1, .int (nI u)), (2, .int (nI 0)), (3, .int (nI (bo u))), (4, .int zz9), (5, .long (bs (fun i => (eE (bo u)) i || (decide (i = (bo u)))))), (7, .int (nI (k + 1)))] : List (Nat × Value))) (yL1_n (and_tf c2 c3) : (yL1 (fun i => eE (bo u) i || decide (i = bo u)) bo da fi k) = (yL1 (fun i => eE (bo u) i || decide (i = bo u)) bo da fi (k + 1)))) ?_
          exact ih (k + 1) (by omega)
  refine aw_L (L' := [(0, .ref (b 0)), (1, .int (nI u)), (2, .int (nI 0)), (3, .int (nI (bo u))), (4, .int (yL1 (fun i => eE (bo u) i || decide (i = bo u)) bo da fi 0)), (5, .long (bs (fun i => (eE (bo u)) i || (decide (i = (bo u)))))), (7, .int (nI 0))]) (congrArg (fun zz9 => ([(0, .ref (b 0)), (1, .int (nI u)), (2, .int (nI 0)), (3, .int (nI (bo u))), (4, .int zz9), (5, .long (bs (fun i => (eE (bo u)) i || (decide (i = (bo u)))))), (7, .int (nI 0))] : List (Nat × Value))) (rfl : (-5000 : Int32) = (yL1 (fun i => eE (bo u) i || decide (i = bo u)) bo da fi 0))) ?_
  exact LP50 (un) (0) (by omega)

set_option maxHeartbeats 4000000 in
set_option maxRecDepth 100000 in
theorem c_X6_year_up (κ : aK) (b : Nat → Nat) {th : Int32} {un : Nat} {ss : Nat → Int32} {fi : Nat → Int32} {la : Nat → Int32} {da : Nat → Bool} {dg : Nat → Bool} {ps : Nat → Int32} {rn : Nat} {ks : Nat → Int32} {os : Nat → Nat} {ts : Nat → Nat} {fn : Nat} {fp : Nat → Int32} {bo : Nat → Nat} {eE : Nat → Nat → Bool} {lE : Nat → Nat → Bool} {li : Nat → Nat → Bool} {be : Nat → Int32} {ab : Nat → Int32} {X : va_W} {u : Nat} (hun : un ≤ 40) (hfn : fn ≤ 60) (hbo : ∀ u, bo u < 40) (hu : u < 40) : CM yX6_year cX6_year 8 (some .int) ({ frames := 1, cells := 0, slots := 0, locals := 22 } : Room) κ [.ref (b 0), .int (nI u), .int (nI 1)] (wM κ b th un ss fi la da dg ps rn ks os ts fn fp bo eE lE li be ab X) (aD (some (.int (yUp bo lE da la un u))) (wM κ b th un ss fi la da dg ps rn ks os ts fn fp bo eE lE li be ab X)) := by
  refine cm_entry (own := RX6) (L := [(0, .ref (b 0)), (1, .int (nI u)), (2, .int (nI 1))]) (by decide +kernel) rfl (lv_entry [.ref (b 0), .int (nI u), .int (nI 1)] (n := 8) (Nat.le_of_ble_eq_true rfl)) (fun g C E => ?_)
  have hbu := hbo u
  refine a_aloadn (pc := 0) C 0 rfl rfl dX6_year_0 ?_
  refine a_get (pc := 1) C fl_X6_41 0 rfl rfl dX6_year_1 ?_
  refine a_iloadn (pc := 4) C 1 rfl rfl dX6_year_4 ?_
  refine a_ialdN (pc := 5) C 11 rfl (by omega) (by decide) dX6_year_5 ?_
  refine a_istoren (pc := 6) (L' := [(0, .ref (b 0)), (1, .int (nI u)), (2, .int (nI 1)), (3, .int (nI (bo u)))]) C (by decide) rfl rfl dX6_year_6 ?_
  refine a_iloadn (pc := 7) C 2 rfl rfl dX6_year_7 ?_
  refine a_ifn_eq_n (pc := 8) C (by omega) (by decide) dX6_year_8 ⟨17, by decide⟩ ?_
  refine a_sipush (pc := 11) (v := nI 2000) C cs_2000 dX6_year_11 ?_
  refine a_goto (pc := 14) (tgt := 20) C (by decide) dX6_year_14 ?_
  refine a_istore (pc := 20) (L' := [(0, .ref (b 0)), (1, .int (nI u)), (2, .int (nI 1)), (3, .int (nI (bo u))), (4, .int (nI 2000))]) C (by decide) rfl dX6_year_20 ?_
  refine a_iloadn (pc := 22) C 2 rfl rfl dX6_year_22 ?_
  refine a_ifn_eq_n (pc := 23) C (by omega) (by decide) dX6_year_23 ⟨35, by decide⟩ ?_
  refine a_aloadn (pc := 26) C 0 rfl rfl dX6_year_26 ?_
  refine a_get (pc := 27) C fl_X6_48 0 rfl rfl dX6_year_27 ?_
  refine a_iloadn (pc := 30) C 3 rfl rfl dX6_year_30 ?_
  refine a_laldS (pc := 31) C 13 rfl (hbo _) (by decide) dX6_year_31 ?_
  refine a_goto (pc := 32) (tgt := 41) C (by decide) dX6_year_32 ?_
  refine a_lconst (pc := 41) (v := 1) C rfl dX6_year_41 ?_
  refine a_iloadn (pc := 42) C 3 rfl rfl dX6_year_42 ?_
  refine a_lshl (pc := 43) (v := bs (fun i => decide (i = (bo u)))) C (bs_bit (by omega)) dX6_year_43 ?_
  refine a_lor (pc := 44) (v := bs (fun i => (lE (bo u)) i || (decide (i = (bo u))))) C (bs_or _ _) dX6_year_44 ?_
  refine a_lstore (pc := 45) (L' := [(0, .ref (b 0)), (1, .int (nI u)), (2, .int (nI 1)), (3, .int (nI (bo u))), (4, .int (nI 2000)), (5, .long (bs (fun i => (lE (bo u)) i || (decide (i = (bo u))))))]) C (by decide) rfl dX6_year_45 ?_
  refine a_iconst (pc := 47) (v := nI 0) C ci_0 dX6_year_47 ?_
  refine a_istore (pc := 48) (L' := [(0, .ref (b 0)), (1, .int (nI u)), (2, .int (nI 1)), (3, .int (nI (bo u))), (4, .int (nI 2000)), (5, .long (bs (fun i => (lE (bo u)) i || (decide (i = (bo u)))))), (7, .int (nI 0))]) C (by decide) rfl dX6_year_48 ?_
  have LP50 : ∀ (jz k : Nat), k + jz = un → aw g κ 8 50 [(0, .ref (b 0)), (1, .int (nI u)), (2, .int (nI 1)), (3, .int (nI (bo u))), (4, .int (yU1 (fun i => lE (bo u) i || decide (i = bo u)) bo da la k)), (5, .long (bs (fun i => (lE (bo u)) i || (decide (i = (bo u)))))), (7, .int (nI k))] [] (wM κ b th un ss fi la da dg ps rn ks os ts fn fp bo eE lE li be ab X) 0 0 := by
    intro jz
    induction jz with
    | zero =>
      intro k hk_k
      obtain rfl : un = k := by omega
      refine a_iload (pc := 50) C 6 rfl dX6_year_50 ?_
      refine a_aloadn (pc := 52) C 0 rfl rfl dX6_year_52 ?_
      refine a_get (pc := 53) C fl_X6_64 0 rfl rfl dX6_year_53 ?_
      refine a_icn_ge_y (pc := 56) (tgt := 126) C (by omega) (by omega) (by omega) (by decide) dX6_year_56 ?_
      refine a_iconst (pc := 126) (v := nI 0) C ci_0 dX6_year_126 ?_
      refine a_istore (pc := 127) (L' := [(0, .ref (b 0)), (1, .int (nI u)), (2, .int (nI 1)), (3, .int (nI (bo u))), (4, .int (yU1 (fun i => lE (bo u) i || decide (i = bo u)) bo da la un)), (5, .long (bs (fun i => (lE (bo u)) i || (decide (i = (bo u)))))), (7, .int (nI 0))]) C (by decide) rfl dX6_year_127 ?_
      refine a_iload (pc := 129) C 6 rfl dX6_year_129 ?_
      refine a_aloadn (pc := 131) C 0 rfl rfl dX6_year_131 ?_
      refine a_get (pc := 132) C fl_X6_120 0 rfl rfl dX6_year_132 ?_
      refine a_icn_ge (pc := 135) (tgt := 190) C (by omega) (by omega) (by decide) dX6_year_135 (fun c1 => ?_) (fun c1 => ?_)
      · refine a_iload (pc := 190) C 4 rfl dX6_year_190 ?_
        exact a_iret (pc := 192) C E (Nat.le_of_ble_eq_true rfl) (Nat.le_of_ble_eq_true rfl) ⟨rfl, rfl⟩ dX6_year_192
      · refine a_iloadn (pc := 138) C 2 rfl rfl dX6_year_138 ?_
        refine a_ifn_ne_y (pc := 139) (tgt := 190) C (by omega) (by decide) (by decide) dX6_year_139 ?_
        refine a_iload (pc := 190) C 4 rfl dX6_year_190 ?_
        exact a_iret (pc := 192) C E (Nat.le_of_ble_eq_true rfl) (Nat.le_of_ble_eq_true rfl) ⟨rfl, rfl⟩ dX6_year_192
    | succ jz ih =>
      intro k hk_k
      have hlt_k : k < un := by omega
      refine a_iload (pc := 50) C 6 rfl dX6_year_50 ?_
      refine a_aloadn (pc := 52) C 0 rfl rfl dX6_year_52 ?_
      refine a_get (pc := 53) C fl_X6_64 0 rfl rfl dX6_year_53 ?_
      refine a_icn_ge_n (pc := 56) C (by omega) (by omega) (by omega) dX6_year_56 ⟨126, by decide⟩ ?_
      refine a_lload (pc := 59) C 5 rfl dX6_year_59 ?_
      refine a_aloadn (pc := 61) C 0 rfl rfl dX6_year_61 ?_
      refine a_get (pc := 62) C fl_X6_41 0 rfl rfl dX6_year_62 ?_
      refine a_iload (pc := 65) C 6 rfl dX6_year_65 ?_
      refine a_ialdN (pc := 67) C 11 rfl (by omega) (by decide) dX6_year_67 ?_
      refine a_callS1 (pc := 68) (k' := 0) (n' := 0) C (c_X6_has κ (Nat.lt_trans (hbo _) (by decide))) yv_X6_has ml_X6_83 ws_X6_has rfl rfl (Nat.le_of_ble_eq_true rfl) (Nat.le_of_ble_eq_true rfl) (Nat.le_of_ble_eq_true rfl) ⟨(Nat.le_of_ble_eq_true rfl), (Nat.le_of_ble_eq_true rfl)⟩ rfl rfl dX6_year_68 ?_
      refine a_ifb_eq (pc := 71) (tgt := 120) C (by decide) dX6_year_71 (fun c2 => ?_) (fun c2 => ?_)
      · refine a_iinc (pc := 120) (v := nI (k + 1)) (L' := [(0, .ref (b 0)), (1, .int (nI u)), (2, .int (nI 1)), (3, .int (nI (bo u))), (4, .int (yU1 (fun i => lE (bo u) i || decide (i = bo u)) bo da la k)), (5, .long (bs (fun i => (lE (bo u)) i || (decide (i = (bo u)))))), (7, .int (nI (k + 1)))]) C 6 rfl (nI_inc _) (by decide) rfl dX6_year_120 ?_
        refine a_goto (pc := 123) (tgt := 50) C (by decide) dX6_year_123 ?_
        refine aw_L (L' := [(0, .ref (b 0)), (1, .int (nI u)), (2, .int (nI 1)), (3, .int (nI (bo u))), (4, .int (yU1 (fun i => lE (bo u) i || decide (i = bo u)) bo da la (k + 1))), (5, .long (bs (fun i => (lE (bo u)) i || (decide (i = (bo u)))))), (7, .int (nI (k + 1)))]) (congrArg (fun zz9 => ([(0, .ref (b 0)), (1, .int (nI u)), (2, .int (nI 1)), (3, .int (nI (bo u))), (4, .int zz9), (5, .long (bs (fun i => (lE (bo u)) i || (decide (i = (bo u)))))), (7, .int (nI (k + 1)))] : List (Nat × Value))) (yU1_n (and_ff c2) : (yU1 (fun i => lE (bo u) i || decide (i = bo u)) bo da la k) = (yU1 (fun i => lE (bo u) i || decide (i = bo u)) bo da la (k + 1)))) ?_
        exact ih (k + 1) (by omega)
      · refine a_aloadn (pc := 74) C 0 rfl rfl dX6_year_74 ?_
        refine a_get (pc := 75) C fl_X6_19 0 rfl rfl dX6_year_75 ?_
        refine a_iload (pc := 78) C 6 rfl dX6_year_78 ?_
        refine a_zaldZ (pc := 80) C 4 rfl (by omega) (by decide) dX6_year_80 ?_
        refine a_ifb_ne (pc := 81) (tgt := 87) C (by decide) dX6_year_81 (fun c3 => ?_) (fun c3 => ?_)
        · refine a_iloadn (pc := 87) C 2 rfl rfl dX6_year_87 ?_
          refine a_ifn_eq_n (pc := 88) C (by omega) (by decide) dX6_year_88 ⟨106, by decide⟩ ?_
          refine a_iload (pc := 91) C 4 rfl dX6_year_91 ?_
          refine a_aloadn (pc := 93) C 0 rfl rfl dX6_year_93 ?_
          refine a_get (pc := 94) C fl_X6_16 0 rfl rfl dX6_year_94 ?_
          refine a_iload (pc := 97) C 6 rfl dX6_year_97 ?_
          refine a_iald (pc := 99) C 3 rfl (by omega) (by decide) dX6_year_99 ?_
          refine a_mmin (pc := 100) (v := imin (yU1 (fun i => lE (bo u) i || decide (i = bo u)) bo da la k) (la k)) C ml_X6_74 rfl (Nat.le_of_ble_eq_true rfl) (Nat.le_of_ble_eq_true rfl) (Nat.le_of_ble_eq_true rfl) (Nat.le_of_ble_eq_true rfl) dX6_year_100 ?_
          refine a_goto (pc := 103) (tgt := 118) C (by decide) dX6_year_103 ?_
          refine a_istore (pc := 118) (L' := [(0, .ref (b 0)), (1, .int (nI u)), (2, .int (nI 1)), (3, .int (nI (bo u))), (4, .int (imin (yU1 (fun i => lE (bo u) i || decide (i = bo u)) bo da la k) (la k))), (5, .long (bs (fun i => (lE (bo u)) i || (decide (i = (bo u)))))), (7, .int (nI k))]) C (by decide) rfl dX6_year_118 ?_
          refine a_iinc (pc := 120) (v := nI (k + 1)) (L' := [(0, .ref (b 0)), (1, .int (nI u)), (2, .int (nI 1)), (3, .int (nI (bo u))), (4, .int (imin (yU1 (fun i => lE (bo u) i || decide (i = bo u)) bo da la k) (la k))), (5, .long (bs (fun i => (lE (bo u)) i || (decide (i = (bo u)))))), (7, .int (nI (k + 1)))]) C 6 rfl (nI_inc _) (by decide) rfl dX6_year_120 ?_
          refine a_goto (pc := 123) (tgt := 50) C (by decide) dX6_year_123 ?_
          refine aw_L (L' := [(0, .ref (b 0)), (1, .int (nI u)), (2, .int (nI 1)), (3, .int (nI (bo u))), (4, .int (yU1 (fun i => lE (bo u) i || decide (i = bo u)) bo da la (k + 1))), (5, .long (bs (fun i => (lE (bo u)) i || (decide (i = (bo u)))))), (7, .int (nI (k + 1)))]) (congrArg (fun zz9 => ([(0, .ref (b 0)), (1, .int (nI u)), (2, .int (nI 1)), (3, .int (nI (bo u))), (4, .int zz9), (5, .long (bs (fun i => (lE (bo u)) i || (decide (i = (bo u)))))), (7, .int (nI (k + 1)))] : List (Nat × Value))) (yU1_y (and_tt c2 c3) : (imin (yU1 (fun i => lE (bo u) i || decide (i = bo u)) bo da la k) (la k)) = (yU1 (fun i => lE (bo u) i || decide (i = bo u)) bo da la (k + 1)))) ?_
          exact ih (k + 1) (by omega)
        · refine a_goto (pc := 84) (tgt := 120) C (by decide) dX6_year_84 ?_
          refine a_iinc (pc := 120) (v := nI (k + 1)) (L' := [(0, .ref (b 0)), (1, .int (nI u)), (2, .int (nI 1)), (3, .int (nI (bo u))), (4, .int (yU1 (fun i => lE (bo u) i || decide (i = bo u)) bo da la k)), (5, .long (bs (fun i => (lE (bo u)) i || (decide (i = (bo u)))))), (7, .int (nI (k + 1)))]) C 6 rfl (nI_inc _) (by decide) rfl dX6_year_120 ?_
          refine a_goto (pc := 123) (tgt := 50) C (by decide) dX6_year_123 ?_
          refine aw_L (L' := [(0, .ref (b 0)), (1, .int (nI u)), (2, .int (nI 1)), (3, .int (nI (bo u))), (4, .int (yU1 (fun i => lE (bo u) i || decide (i = bo u)) bo da la (k + 1))), (5, .long (bs (fun i => (lE (bo u)) i || (decide (i = (bo u)))))), (7, .int (nI (k + 1)))]) (congrArg (fun zz9 => ([(0, .ref (b 0)), (1, .int (nI u)), (2, .int (nI 1)), (3, .int (nI (bo u))), (4, .int zz9), (5, .long (bs (fun i => (lE (bo u)) i || (decide (i = (bo u)))))), (7, .int (nI (k + 1)))] : List (Nat × Value))) (yU1_n (and_tf c2 c3) : (yU1 (fun i => lE (bo u) i || decide (i = bo u)) bo da la k) = (yU1 (fun i => lE (bo u) i || decide (i = bo u)) bo da la (k + 1)))) ?_
          exact ih (k + 1) (by omega)
  refine aw_L (L' := [(0, .ref (b 0)), (1, .int (nI u)), (2, .int (nI 1)), (3, .int (nI (bo u))), (4, .int (yU1 (fun i => lE (bo u) i || decide (i = bo u)) bo da la 0)), (5, .long (bs (fun i => (lE (bo u)) i || (decide (i = (bo u)))))), (7, .int (nI 0))]) (congrArg (fun zz9 => ([(0, .ref (b 0)), (1, .int (nI u)), (2, .int (nI 1)), (3, .int (nI (bo u))), (4, .int zz9), (5, .long (bs (fun i => (lE (bo u)) i || (decide (i = (bo u)))))), (7, .int (nI 0))] : List (Nat × Value))) (rfl : (nI 2000) = (yU1 (fun i => lE (bo u) i || decide (i = bo u)) bo da la 0))) ?_
  exact LP50 (un) (0) (by omega)

set_option maxHeartbeats 4000000 in
set_option maxRecDepth 100000 in
theorem c_X6_isInDoubt (κ : aK) (b : Nat → Nat) {th : Int32} {un : Nat} {ss : Nat → Int32} {fi : Nat → Int32} {la : Nat → Int32} {da : Nat → Bool} {dg : Nat → Bool} {ps : Nat → Int32} {rn : Nat} {ks : Nat → Int32} {os : Nat → Nat} {ts : Nat → Nat} {fn : Nat} {fp : Nat → Int32} {bo : Nat → Nat} {eE : Nat → Nat → Bool} {lE : Nat → Nat → Bool} {li : Nat → Nat → Bool} {be : Nat → Int32} {ab : Nat → Int32} {X : va_W} {u : Nat} {fu : Nat → Nat} (hun : un ≤ 40) (hfn : fn ≤ 60) (hbo : ∀ u, bo u < 40) (hq : ∀ j, fp (7 * j) = nI (fu j)) (hfu : ∀ u, fu u < 40) (hu : u < 40) : CM yX6_isInDoubt cX6_isInDoubt 2 (some .boolean) ({ frames := 2, cells := 0, slots := 0, locals := 49 } : Room) κ [.ref (b 0), .int (nI u)] (wM κ b th un ss fi la da dg ps rn ks os ts fn fp bo eE lE li be ab X) (aD (some (.int (b2i (yDb bo eE lE da fi la un fu fp fn u)))) (wM κ b th un ss fi la da dg ps rn ks os ts fn fp bo eE lE li be ab X)) := by
  refine cm_entry (own := RX6) (L := [(0, .ref (b 0)), (1, .int (nI u))]) (by decide +kernel) rfl (lv_entry [.ref (b 0), .int (nI u)] (n := 2) (Nat.le_of_ble_eq_true rfl)) (fun g C E => ?_)
  refine a_aloadn (pc := 0) C 0 rfl rfl dX6_isInDoubt_0 ?_
  refine a_iloadn (pc := 1) C 1 rfl rfl dX6_isInDoubt_1 ?_
  refine a_iconst (pc := 2) (v := nI 0) C ci_0 dX6_isInDoubt_2 ?_
  refine a_callV1 (pc := 3) (k' := 0) (n' := 0) C (c_X6_year_lo κ b (by omega) (by omega) hbo (by assumption) hfu (by omega)) yv_X6_year ml_X6_123 wi_X6_year wl_X6_year 0 rfl rfl rfl rfl (Nat.le_of_ble_eq_true rfl) (Nat.le_of_ble_eq_true rfl) (Nat.le_of_ble_eq_true rfl) ⟨(Nat.le_of_ble_eq_true rfl), (Nat.le_of_ble_eq_true rfl)⟩ rfl rfl dX6_isInDoubt_3 ?_
  refine a_aloadn (pc := 6) C 0 rfl rfl dX6_isInDoubt_6 ?_
  refine a_iloadn (pc := 7) C 1 rfl rfl dX6_isInDoubt_7 ?_
  refine a_iconst (pc := 8) (v := nI 1) C ci_1 dX6_isInDoubt_8 ?_
  refine a_callV1 (pc := 9) (k' := 0) (n' := 0) C (c_X6_year_up κ b (by omega) (by omega) hbo (by omega)) yv_X6_year ml_X6_123 wi_X6_year wl_X6_year 0 rfl rfl rfl rfl (Nat.le_of_ble_eq_true rfl) (Nat.le_of_ble_eq_true rfl) (Nat.le_of_ble_eq_true rfl) ⟨(Nat.le_of_ble_eq_true rfl), (Nat.le_of_ble_eq_true rfl)⟩ rfl rfl dX6_isInDoubt_9 ?_
  refine a_ic_le (pc := 12) (tgt := 19) C (by decide) dX6_isInDoubt_12 (fun c1 => ?_) (fun c1 => ?_)
  · rw [show yDb bo eE lE da fi la un fu fp fn u = false from decide_eq_false (Int32.not_lt.mpr c1)] at E
    refine a_iconst (pc := 19) (v := nI 0) C ci_0 dX6_isInDoubt_19 ?_
    exact a_zret (pc := 20) (b := false) C E (Nat.le_of_ble_eq_true rfl) (Nat.le_of_ble_eq_true rfl) (by decide +kernel) ⟨rfl, rfl⟩ dX6_isInDoubt_20
  · rw [show yDb bo eE lE da fi la un fu fp fn u = true from decide_eq_true (Int32.not_le.mp c1)] at E
    refine a_iconst (pc := 15) (v := nI 1) C ci_1 dX6_isInDoubt_15 ?_
    refine a_goto (pc := 16) (tgt := 20) C (by decide) dX6_isInDoubt_16 ?_
    exact a_zret (pc := 20) (b := true) C E (Nat.le_of_ble_eq_true rfl) (Nat.le_of_ble_eq_true rfl) (by decide +kernel) ⟨rfl, rfl⟩ dX6_isInDoubt_20

set_option maxHeartbeats 4000000 in
set_option maxRecDepth 100000 in
theorem c_X6_bodies (κ : aK) (b : Nat → Nat) {th : Int32} {un : Nat} {ss : Nat → Int32} {fi : Nat → Int32} {la : Nat → Int32} {da : Nat → Bool} {dg : Nat → Bool} {ps : Nat → Int32} {rn : Nat} {ks : Nat → Int32} {os : Nat → Nat} {ts : Nat → Nat} {fn : Nat} {fp : Nat → Int32} {bo : Nat → Nat} {eE : Nat → Nat → Bool} {lE : Nat → Nat → Bool} {li : Nat → Nat → Bool} {be : Nat → Int32} {ab : Nat → Int32} {X : va_W} (hun : un ≤ 40) (hbo : ∀ u, bo u < 40) : CM yX6_bodies cX6_bodies 3 (some .int) ({ frames := 1, cells := 0, slots := 0, locals := 21 } : Room) κ [.ref (b 0)] (wM κ b th un ss fi la da dg ps rn ks os ts fn fp bo eE lE li be ab X) (aD (some (.int (nI (cnt (isB bo) un)))) (wM κ b th un ss fi la da dg ps rn ks os ts fn fp bo eE lE li be ab X)) := by
  refine cm_entry (own := RX6) (L := [(0, .ref (b 0))]) (by decide +kernel) rfl (lv_entry [.ref (b 0)] (n := 3) (Nat.le_of_ble_eq_true rfl)) (fun g C E => ?_)
  refine a_iconst (pc := 0) (v := nI 0) C ci_0 dX6_bodies_0 ?_
  refine a_istoren (pc := 1) (L' := [(0, .ref (b 0)), (1, .int (nI 0))]) C (by decide) rfl rfl dX6_bodies_1 ?_
  refine a_iconst (pc := 2) (v := nI 0) C ci_0 dX6_bodies_2 ?_
  refine a_istoren (pc := 3) (L' := [(0, .ref (b 0)), (1, .int (nI 0)), (2, .int (nI 0))]) C (by decide) rfl rfl dX6_bodies_3 ?_
  have LP4 : ∀ (jz k : Nat), k + jz = un → aw g κ 3 4 [(0, .ref (b 0)), (1, .int (nI (cnt (isB bo) k))), (2, .int (nI k))] [] (wM κ b th un ss fi la da dg ps rn ks os ts fn fp bo eE lE li be ab X) 0 0 := by
    intro jz
    induction jz with
    | zero =>
      intro k hk_k
      obtain rfl : un = k := by omega
      refine a_iloadn (pc := 4) C 2 rfl rfl dX6_bodies_4 ?_
      refine a_aloadn (pc := 5) C 0 rfl rfl dX6_bodies_5 ?_
      refine a_get (pc := 6) C fl_X6_64 0 rfl rfl dX6_bodies_6 ?_
      refine a_icn_ge_y (pc := 9) (tgt := 34) C (by omega) (by omega) (by omega) (by decide) dX6_bodies_9 ?_
      refine a_iloadn (pc := 34) C 1 rfl rfl dX6_bodies_34 ?_
      exact a_iret (pc := 35) C E (Nat.le_of_ble_eq_true rfl) (Nat.le_of_ble_eq_true rfl) ⟨rfl, rfl⟩ dX6_bodies_35
    | succ jz ih =>
      intro k hk_k
      have hlt_k : k < un := by omega
      refine a_iloadn (pc := 4) C 2 rfl rfl dX6_bodies_4 ?_
      refine a_aloadn (pc := 5) C 0 rfl rfl dX6_bodies_5 ?_
      refine a_get (pc := 6) C fl_X6_64 0 rfl rfl dX6_bodies_6 ?_
      refine a_icn_ge_n (pc := 9) C (by omega) (by omega) (by omega) dX6_bodies_9 ⟨34, by decide⟩ ?_
      refine a_iloadn (pc := 12) C 1 rfl rfl dX6_bodies_12 ?_
      refine a_aloadn (pc := 13) C 0 rfl rfl dX6_bodies_13 ?_
      refine a_iloadn (pc := 14) C 2 rfl rfl dX6_bodies_14 ?_
      refine a_callV1 (pc := 15) (k' := 0) (n' := 0) C (c_X6_isBody κ b (by omega) hbo) yv_X6_isBody ml_X6_127 wi_X6_isBody wl_X6_isBody 0 rfl rfl rfl rfl (Nat.le_of_ble_eq_true rfl) (Nat.le_of_ble_eq_true rfl) (Nat.le_of_ble_eq_true rfl) ⟨(Nat.le_of_ble_eq_true rfl), (Nat.le_of_ble_eq_true rfl)⟩ rfl rfl dX6_bodies_15 ?_
      refine a_ifb_eq (pc := 18) (tgt := 25) C (by decide) dX6_bodies_18 (fun c1 => ?_) (fun c1 => ?_)
      · refine a_iconst (pc := 25) (v := nI 0) C ci_0 dX6_bodies_25 ?_
        refine a_iadd (pc := 26) (v := nI ((cnt (isB bo) k) + 0)) C (nI_add _ _) dX6_bodies_26 ?_
        refine a_istoren (pc := 27) (L' := [(0, .ref (b 0)), (1, .int (nI ((cnt (isB bo) k) + 0))), (2, .int (nI k))]) C (by decide) rfl rfl dX6_bodies_27 ?_
        refine a_iinc (pc := 28) (v := nI (k + 1)) (L' := [(0, .ref (b 0)), (1, .int (nI ((cnt (isB bo) k) + 0))), (2, .int (nI (k + 1)))]) C 2 rfl (nI_inc _) (by decide) rfl dX6_bodies_28 ?_
        refine a_goto (pc := 31) (tgt := 4) C (by decide) dX6_bodies_31 ?_
        refine aw_L (L' := [(0, .ref (b 0)), (1, .int (nI (cnt (isB bo) (k + 1)))), (2, .int (nI (k + 1)))]) (congrArg (fun zz9 => ([(0, .ref (b 0)), (1, .int zz9), (2, .int (nI (k + 1)))] : List (Nat × Value))) (congrArg nI (by rw [cnt_n c1]; rfl) : (nI ((cnt (isB bo) k) + 0)) = (nI (cnt (isB bo) (k + 1))))) ?_
        exact ih (k + 1) (by omega)
      · refine a_iconst (pc := 21) (v := nI 1) C ci_1 dX6_bodies_21 ?_
        refine a_goto (pc := 22) (tgt := 26) C (by decide) dX6_bodies_22 ?_
        refine a_iadd (pc := 26) (v := nI ((cnt (isB bo) k) + 1)) C (nI_add _ _) dX6_bodies_26 ?_
        refine a_istoren (pc := 27) (L' := [(0, .ref (b 0)), (1, .int (nI ((cnt (isB bo) k) + 1))), (2, .int (nI k))]) C (by decide) rfl rfl dX6_bodies_27 ?_
        refine a_iinc (pc := 28) (v := nI (k + 1)) (L' := [(0, .ref (b 0)), (1, .int (nI ((cnt (isB bo) k) + 1))), (2, .int (nI (k + 1)))]) C 2 rfl (nI_inc _) (by decide) rfl dX6_bodies_28 ?_
        refine a_goto (pc := 31) (tgt := 4) C (by decide) dX6_bodies_31 ?_
        refine aw_L (L' := [(0, .ref (b 0)), (1, .int (nI (cnt (isB bo) (k + 1)))), (2, .int (nI (k + 1)))]) (congrArg (fun zz9 => ([(0, .ref (b 0)), (1, .int zz9), (2, .int (nI (k + 1)))] : List (Nat × Value))) (congrArg nI (by rw [cnt_y c1]) : (nI ((cnt (isB bo) k) + 1)) = (nI (cnt (isB bo) (k + 1))))) ?_
        exact ih (k + 1) (by omega)
  refine aw_L (L' := [(0, .ref (b 0)), (1, .int (nI (cnt (isB bo) 0))), (2, .int (nI 0))]) (congrArg (fun zz9 => ([(0, .ref (b 0)), (1, .int zz9), (2, .int (nI 0))] : List (Nat × Value))) (rfl : (nI 0) = (nI (cnt (isB bo) 0)))) ?_
  exact LP4 (un) (0) (by omega)

set_option maxHeartbeats 4000000 in
set_option maxRecDepth 100000 in
theorem c_X6_links (κ : aK) (b : Nat → Nat) {th : Int32} {un : Nat} {ss : Nat → Int32} {fi : Nat → Int32} {la : Nat → Int32} {da : Nat → Bool} {dg : Nat → Bool} {ps : Nat → Int32} {rn : Nat} {ks : Nat → Int32} {os : Nat → Nat} {ts : Nat → Nat} {fn : Nat} {fp : Nat → Int32} {bo : Nat → Nat} {eE : Nat → Nat → Bool} {lE : Nat → Nat → Bool} {li : Nat → Nat → Bool} {be : Nat → Int32} {ab : Nat → Int32} {X : va_W} (hun : un ≤ 40) : CM yX6_links cX6_links 3 (some .int) ({ frames := 1, cells := 0, slots := 0, locals := 21 } : Room) κ [.ref (b 0)] (wM κ b th un ss fi la da dg ps rn ks os ts fn fp bo eE lE li be ab X) (aD (some (.int (bcS li un))) (wM κ b th un ss fi la da dg ps rn ks os ts fn fp bo eE lE li be ab X)) := by
  refine cm_entry (own := RX6) (L := [(0, .ref (b 0))]) (by decide +kernel) rfl (lv_entry [.ref (b 0)] (n := 3) (Nat.le_of_ble_eq_true rfl)) (fun g C E => ?_)
  refine a_iconst (pc := 0) (v := nI 0) C ci_0 dX6_links_0 ?_
  refine a_istoren (pc := 1) (L' := [(0, .ref (b 0)), (1, .int (nI 0))]) C (by decide) rfl rfl dX6_links_1 ?_
  refine a_iconst (pc := 2) (v := nI 0) C ci_0 dX6_links_2 ?_
  refine a_istoren (pc := 3) (L' := [(0, .ref (b 0)), (1, .int (nI 0)), (2, .int (nI 0))]) C (by decide) rfl rfl dX6_links_3 ?_
  have LP4 : ∀ (jz k : Nat), k + jz = un → aw g κ 3 4 [(0, .ref (b 0)), (1, .int (bcS li k)), (2, .int (nI k))] [] (wM κ b th un ss fi la da dg ps rn ks os ts fn fp bo eE lE li be ab X) 0 0 := by
    intro jz
    induction jz with
    | zero =>
      intro k hk_k
      obtain rfl : un = k := by omega
      refine a_iloadn (pc := 4) C 2 rfl rfl dX6_links_4 ?_
      refine a_aloadn (pc := 5) C 0 rfl rfl dX6_links_5 ?_
      refine a_get (pc := 6) C fl_X6_64 0 rfl rfl dX6_links_6 ?_
      refine a_icn_ge_y (pc := 9) (tgt := 30) C (by omega) (by omega) (by omega) (by decide) dX6_links_9 ?_
      refine a_iloadn (pc := 30) C 1 rfl rfl dX6_links_30 ?_
      exact a_iret (pc := 31) C E (Nat.le_of_ble_eq_true rfl) (Nat.le_of_ble_eq_true rfl) ⟨rfl, rfl⟩ dX6_links_31
    | succ jz ih =>
      intro k hk_k
      have hlt_k : k < un := by omega
      refine a_iloadn (pc := 4) C 2 rfl rfl dX6_links_4 ?_
      refine a_aloadn (pc := 5) C 0 rfl rfl dX6_links_5 ?_
      refine a_get (pc := 6) C fl_X6_64 0 rfl rfl dX6_links_6 ?_
      refine a_icn_ge_n (pc := 9) C (by omega) (by omega) (by omega) dX6_links_9 ⟨30, by decide⟩ ?_
      refine a_iloadn (pc := 12) C 1 rfl rfl dX6_links_12 ?_
      refine a_aloadn (pc := 13) C 0 rfl rfl dX6_links_13 ?_
      refine a_get (pc := 14) C fl_X6_51 0 rfl rfl dX6_links_14 ?_
      refine a_iloadn (pc := 17) C 2 rfl rfl dX6_links_17 ?_
      refine a_laldS (pc := 18) C 14 rfl (by omega) (by decide) dX6_links_18 ?_
      refine a_callS1 (pc := 19) (k' := 0) (n' := 0) C (c_J13_bitCount_95d88 κ) yv_J13_bitCount_95d88 ml_X6_130 ws_J13_bitCount_95d88 rfl rfl (Nat.le_of_ble_eq_true rfl) (Nat.le_of_ble_eq_true rfl) (Nat.le_of_ble_eq_true rfl) ⟨(Nat.le_of_ble_eq_true rfl), (Nat.le_of_ble_eq_true rfl)⟩ rfl rfl dX6_links_19 ?_
      refine a_iadd (pc := 22) (v := (bcS li k) + (bcI (bs (li k)))) C rfl dX6_links_22 ?_
      refine a_istoren (pc := 23) (L' := [(0, .ref (b 0)), (1, .int ((bcS li k) + (bcI (bs (li k))))), (2, .int (nI k))]) C (by decide) rfl rfl dX6_links_23 ?_
      refine a_iinc (pc := 24) (v := nI (k + 1)) (L' := [(0, .ref (b 0)), (1, .int ((bcS li k) + (bcI (bs (li k))))), (2, .int (nI (k + 1)))]) C 2 rfl (nI_inc _) (by decide) rfl dX6_links_24 ?_
      refine a_goto (pc := 27) (tgt := 4) C (by decide) dX6_links_27 ?_
      refine aw_L (L' := [(0, .ref (b 0)), (1, .int (bcS li (k + 1))), (2, .int (nI (k + 1)))]) (congrArg (fun zz9 => ([(0, .ref (b 0)), (1, .int zz9), (2, .int (nI (k + 1)))] : List (Nat × Value))) (rfl : ((bcS li k) + (bcI (bs (li k)))) = (bcS li (k + 1)))) ?_
      exact ih (k + 1) (by omega)
  refine aw_L (L' := [(0, .ref (b 0)), (1, .int (bcS li 0)), (2, .int (nI 0))]) (congrArg (fun zz9 => ([(0, .ref (b 0)), (1, .int zz9), (2, .int (nI 0))] : List (Nat × Value))) (rfl : (nI 0) = (bcS li 0))) ?_
  exact LP4 (un) (0) (by omega)

set_option maxHeartbeats 4000000 in
set_option maxRecDepth 100000 in
theorem c_X6_dug (κ : aK) (b : Nat → Nat) {th : Int32} {un : Nat} {ss : Nat → Int32} {fi : Nat → Int32} {la : Nat → Int32} {da : Nat → Bool} {dg : Nat → Bool} {ps : Nat → Int32} {rn : Nat} {ks : Nat → Int32} {os : Nat → Nat} {ts : Nat → Nat} {fn : Nat} {fp : Nat → Int32} {bo : Nat → Nat} {eE : Nat → Nat → Bool} {lE : Nat → Nat → Bool} {li : Nat → Nat → Bool} {be : Nat → Int32} {ab : Nat → Int32} {X : va_W} (hun : un ≤ 40) : CM yX6_dug cX6_dug 3 (some .int) ({ frames := 0, cells := 0, slots := 0, locals := 0 } : Room) κ [.ref (b 0)] (wM κ b th un ss fi la da dg ps rn ks os ts fn fp bo eE lE li be ab X) (aD (some (.int (nI (cnt dg un)))) (wM κ b th un ss fi la da dg ps rn ks os ts fn fp bo eE lE li be ab X)) := by
  refine cm_entry (own := RX6) (L := [(0, .ref (b 0))]) (by decide +kernel) rfl (lv_entry [.ref (b 0)] (n := 3) (Nat.le_of_ble_eq_true rfl)) (fun g C E => ?_)
  refine a_iconst (pc := 0) (v := nI 0) C ci_0 dX6_dug_0 ?_
  refine a_istoren (pc := 1) (L' := [(0, .ref (b 0)), (1, .int (nI 0))]) C (by decide) rfl rfl dX6_dug_1 ?_
  refine a_iconst (pc := 2) (v := nI 0) C ci_0 dX6_dug_2 ?_
  refine a_istoren (pc := 3) (L' := [(0, .ref (b 0)), (1, .int (nI 0)), (2, .int (nI 0))]) C (by decide) rfl rfl dX6_dug_3 ?_
  have LP4 : ∀ (jz k : Nat), k + jz = un → aw g κ 3 4 [(0, .ref (b 0)), (1, .int (nI (cnt dg k))), (2, .int (nI k))] [] (wM κ b th un ss fi la da dg ps rn ks os ts fn fp bo eE lE li be ab X) 0 0 := by
    intro jz
    induction jz with
    | zero =>
      intro k hk_k
      obtain rfl : un = k := by omega
      refine a_iloadn (pc := 4) C 2 rfl rfl dX6_dug_4 ?_
      refine a_aloadn (pc := 5) C 0 rfl rfl dX6_dug_5 ?_
      refine a_get (pc := 6) C fl_X6_64 0 rfl rfl dX6_dug_6 ?_
      refine a_icn_ge_y (pc := 9) (tgt := 35) C (by omega) (by omega) (by omega) (by decide) dX6_dug_9 ?_
      refine a_iloadn (pc := 35) C 1 rfl rfl dX6_dug_35 ?_
      exact a_iret (pc := 36) C E (Nat.le_of_ble_eq_true rfl) (Nat.le_of_ble_eq_true rfl) ⟨rfl, rfl⟩ dX6_dug_36
    | succ jz ih =>
      intro k hk_k
      have hlt_k : k < un := by omega
      refine a_iloadn (pc := 4) C 2 rfl rfl dX6_dug_4 ?_
      refine a_aloadn (pc := 5) C 0 rfl rfl dX6_dug_5 ?_
      refine a_get (pc := 6) C fl_X6_64 0 rfl rfl dX6_dug_6 ?_
      refine a_icn_ge_n (pc := 9) C (by omega) (by omega) (by omega) dX6_dug_9 ⟨35, by decide⟩ ?_
      refine a_iloadn (pc := 12) C 1 rfl rfl dX6_dug_12 ?_
      refine a_aloadn (pc := 13) C 0 rfl rfl dX6_dug_13 ?_
      refine a_get (pc := 14) C fl_X6_23 0 rfl rfl dX6_dug_14 ?_
      refine a_iloadn (pc := 17) C 2 rfl rfl dX6_dug_17 ?_
      refine a_zaldZ (pc := 18) C 5 rfl (by omega) (by decide) dX6_dug_18 ?_
      refine a_ifb_eq (pc := 19) (tgt := 26) C (by decide) dX6_dug_19 (fun c1 => ?_) (fun c1 => ?_)
      · refine a_iconst (pc := 26) (v := nI 0) C ci_0 dX6_dug_26 ?_
        refine a_iadd (pc := 27) (v := nI ((cnt dg k) + 0)) C (nI_add _ _) dX6_dug_27 ?_
        refine a_istoren (pc := 28) (L' := [(0, .ref (b 0)), (1, .int (nI ((cnt dg k) + 0))), (2, .int (nI k))]) C (by decide) rfl rfl dX6_dug_28 ?_
        refine a_iinc (pc := 29) (v := nI (k + 1)) (L' := [(0, .ref (b 0)), (1, .int (nI ((cnt dg k) + 0))), (2, .int (nI (k + 1)))]) C 2 rfl (nI_inc _) (by decide) rfl dX6_dug_29 ?_
        refine a_goto (pc := 32) (tgt := 4) C (by decide) dX6_dug_32 ?_
        refine aw_L (L' := [(0, .ref (b 0)), (1, .int (nI (cnt dg (k + 1)))), (2, .int (nI (k + 1)))]) (congrArg (fun zz9 => ([(0, .ref (b 0)), (1, .int zz9), (2, .int (nI (k + 1)))] : List (Nat × Value))) (congrArg nI (by rw [cnt_n c1]; rfl) : (nI ((cnt dg k) + 0)) = (nI (cnt dg (k + 1))))) ?_
        exact ih (k + 1) (by omega)
      · refine a_iconst (pc := 22) (v := nI 1) C ci_1 dX6_dug_22 ?_
        refine a_goto (pc := 23) (tgt := 27) C (by decide) dX6_dug_23 ?_
        refine a_iadd (pc := 27) (v := nI ((cnt dg k) + 1)) C (nI_add _ _) dX6_dug_27 ?_
        refine a_istoren (pc := 28) (L' := [(0, .ref (b 0)), (1, .int (nI ((cnt dg k) + 1))), (2, .int (nI k))]) C (by decide) rfl rfl dX6_dug_28 ?_
        refine a_iinc (pc := 29) (v := nI (k + 1)) (L' := [(0, .ref (b 0)), (1, .int (nI ((cnt dg k) + 1))), (2, .int (nI (k + 1)))]) C 2 rfl (nI_inc _) (by decide) rfl dX6_dug_29 ?_
        refine a_goto (pc := 32) (tgt := 4) C (by decide) dX6_dug_32 ?_
        refine aw_L (L' := [(0, .ref (b 0)), (1, .int (nI (cnt dg (k + 1)))), (2, .int (nI (k + 1)))]) (congrArg (fun zz9 => ([(0, .ref (b 0)), (1, .int zz9), (2, .int (nI (k + 1)))] : List (Nat × Value))) (congrArg nI (by rw [cnt_y c1]) : (nI ((cnt dg k) + 1)) = (nI (cnt dg (k + 1))))) ?_
        exact ih (k + 1) (by omega)
  refine aw_L (L' := [(0, .ref (b 0)), (1, .int (nI (cnt dg 0))), (2, .int (nI 0))]) (congrArg (fun zz9 => ([(0, .ref (b 0)), (1, .int zz9), (2, .int (nI 0))] : List (Nat × Value))) (rfl : (nI 0) = (nI (cnt dg 0)))) ?_
  exact LP4 (un) (0) (by omega)

set_option maxHeartbeats 4000000 in
set_option maxRecDepth 100000 in
theorem c_X6_doubts (κ : aK) (b : Nat → Nat) {th : Int32} {un : Nat} {ss : Nat → Int32} {fi : Nat → Int32} {la : Nat → Int32} {da : Nat → Bool} {dg : Nat → Bool} {ps : Nat → Int32} {rn : Nat} {ks : Nat → Int32} {os : Nat → Nat} {ts : Nat → Nat} {fn : Nat} {fp : Nat → Int32} {bo : Nat → Nat} {eE : Nat → Nat → Bool} {lE : Nat → Nat → Bool} {li : Nat → Nat → Bool} {be : Nat → Int32} {ab : Nat → Int32} {X : va_W} {fu : Nat → Nat} (hun : un ≤ 40) (hfn : fn ≤ 60) (hbo : ∀ u, bo u < 40) (hq : ∀ j, fp (7 * j) = nI (fu j)) (hfu : ∀ u, fu u < 40) : CM yX6_doubts cX6_doubts 3 (some .int) ({ frames := 3, cells := 0, slots := 0, locals := 70 } : Room) κ [.ref (b 0)] (wM κ b th un ss fi la da dg ps rn ks os ts fn fp bo eE lE li be ab X) (aD (some (.int (nI (cnt (fun v => isB bo v && yDb bo eE lE da fi la un fu fp fn v) un)))) (wM κ b th un ss fi la da dg ps rn ks os ts fn fp bo eE lE li be ab X)) := by
  refine cm_entry (own := RX6) (L := [(0, .ref (b 0))]) (by decide +kernel) rfl (lv_entry [.ref (b 0)] (n := 3) (Nat.le_of_ble_eq_true rfl)) (fun g C E => ?_)
  refine a_iconst (pc := 0) (v := nI 0) C ci_0 dX6_doubts_0 ?_
  refine a_istoren (pc := 1) (L' := [(0, .ref (b 0)), (1, .int (nI 0))]) C (by decide) rfl rfl dX6_doubts_1 ?_
  refine a_iconst (pc := 2) (v := nI 0) C ci_0 dX6_doubts_2 ?_
  refine a_istoren (pc := 3) (L' := [(0, .ref (b 0)), (1, .int (nI 0)), (2, .int (nI 0))]) C (by decide) rfl rfl dX6_doubts_3 ?_
  have LP4 : ∀ (jz k : Nat), k + jz = un → aw g κ 3 4 [(0, .ref (b 0)), (1, .int (nI (cnt (fun v => isB bo v && yDb bo eE lE da fi la un fu fp fn v) k))), (2, .int (nI k))] [] (wM κ b th un ss fi la da dg ps rn ks os ts fn fp bo eE lE li be ab X) 0 0 := by
    intro jz
    induction jz with
    | zero =>
      intro k hk_k
      obtain rfl : un = k := by omega
      refine a_iloadn (pc := 4) C 2 rfl rfl dX6_doubts_4 ?_
      refine a_aloadn (pc := 5) C 0 rfl rfl dX6_doubts_5 ?_
      refine a_get (pc := 6) C fl_X6_64 0 rfl rfl dX6_doubts_6 ?_
      refine a_icn_ge_y (pc := 9) (tgt := 42) C (by omega) (by omega) (by omega) (by decide) dX6_doubts_9 ?_
      refine a_iloadn (pc := 42) C 1 rfl rfl dX6_doubts_42 ?_
      exact a_iret (pc := 43) C E (Nat.le_of_ble_eq_true rfl) (Nat.le_of_ble_eq_true rfl) ⟨rfl, rfl⟩ dX6_doubts_43
    | succ jz ih =>
      intro k hk_k
      have hlt_k : k < un := by omega
      refine a_iloadn (pc := 4) C 2 rfl rfl dX6_doubts_4 ?_
      refine a_aloadn (pc := 5) C 0 rfl rfl dX6_doubts_5 ?_
      refine a_get (pc := 6) C fl_X6_64 0 rfl rfl dX6_doubts_6 ?_
      refine a_icn_ge_n (pc := 9) C (by omega) (by omega) (by omega) dX6_doubts_9 ⟨42, by decide⟩ ?_
      refine a_iloadn (pc := 12) C 1 rfl rfl dX6_doubts_12 ?_
      refine a_aloadn (pc := 13) C 0 rfl rfl dX6_doubts_13 ?_
      refine a_iloadn (pc := 14) C 2 rfl rfl dX6_doubts_14 ?_
      refine a_callV1 (pc := 15) (k' := 0) (n' := 0) C (c_X6_isBody κ b (by omega) hbo) yv_X6_isBody ml_X6_127 wi_X6_isBody wl_X6_isBody 0 rfl rfl rfl rfl (Nat.le_of_ble_eq_true rfl) (Nat.le_of_ble_eq_true rfl) (Nat.le_of_ble_eq_true rfl) ⟨(Nat.le_of_ble_eq_true rfl), (Nat.le_of_ble_eq_true rfl)⟩ rfl rfl dX6_doubts_15 ?_
      refine a_ifb_eq (pc := 18) (tgt := 33) C (by decide) dX6_doubts_18 (fun c1 => ?_) (fun c1 => ?_)
      · refine a_iconst (pc := 33) (v := nI 0) C ci_0 dX6_doubts_33 ?_
        refine a_iadd (pc := 34) (v := nI ((cnt (fun v => isB bo v && yDb bo eE lE da fi la un fu fp fn v) k) + 0)) C (nI_add _ _) dX6_doubts_34 ?_
        refine a_istoren (pc := 35) (L' := [(0, .ref (b 0)), (1, .int (nI ((cnt (fun v => isB bo v && yDb bo eE lE da fi la un fu fp fn v) k) + 0))), (2, .int (nI k))]) C (by decide) rfl rfl dX6_doubts_35 ?_
        refine a_iinc (pc := 36) (v := nI (k + 1)) (L' := [(0, .ref (b 0)), (1, .int (nI ((cnt (fun v => isB bo v && yDb bo eE lE da fi la un fu fp fn v) k) + 0))), (2, .int (nI (k + 1)))]) C 2 rfl (nI_inc _) (by decide) rfl dX6_doubts_36 ?_
        refine a_goto (pc := 39) (tgt := 4) C (by decide) dX6_doubts_39 ?_
        refine aw_L (L' := [(0, .ref (b 0)), (1, .int (nI (cnt (fun v => isB bo v && yDb bo eE lE da fi la un fu fp fn v) (k + 1)))), (2, .int (nI (k + 1)))]) (congrArg (fun zz9 => ([(0, .ref (b 0)), (1, .int zz9), (2, .int (nI (k + 1)))] : List (Nat × Value))) (congrArg nI (by rw [cnt_n (and_ff c1)]; rfl) : (nI ((cnt (fun v => isB bo v && yDb bo eE lE da fi la un fu fp fn v) k) + 0)) = (nI (cnt (fun v => isB bo v && yDb bo eE lE da fi la un fu fp fn v) (k + 1))))) ?_
        exact ih (k + 1) (by omega)
      · refine a_aloadn (pc := 21) C 0 rfl rfl dX6_doubts_21 ?_
        refine a_iloadn (pc := 22) C 2 rfl rfl dX6_doubts_22 ?_
        refine a_callV1 (pc := 23) (k' := 0) (n' := 0) C (c_X6_isInDoubt κ b (by omega) (by omega) hbo (by assumption) hfu (by omega)) yv_X6_isInDoubt ml_X6_136 wi_X6_isInDoubt wl_X6_isInDoubt 0 rfl rfl rfl rfl (Nat.le_of_ble_eq_true rfl) (Nat.le_of_ble_eq_true rfl) (Nat.le_of_ble_eq_true rfl) ⟨(Nat.le_of_ble_eq_true rfl), (Nat.le_of_ble_eq_true rfl)⟩ rfl rfl dX6_doubts_23 ?_
        refine a_ifb_eq (pc := 26) (tgt := 33) C (by decide) dX6_doubts_26 (fun c2 => ?_) (fun c2 => ?_)
        · refine a_iconst (pc := 33) (v := nI 0) C ci_0 dX6_doubts_33 ?_
          refine a_iadd (pc := 34) (v := nI ((cnt (fun v => isB bo v && yDb bo eE lE da fi la un fu fp fn v) k) + 0)) C (nI_add _ _) dX6_doubts_34 ?_
          refine a_istoren (pc := 35) (L' := [(0, .ref (b 0)), (1, .int (nI ((cnt (fun v => isB bo v && yDb bo eE lE da fi la un fu fp fn v) k) + 0))), (2, .int (nI k))]) C (by decide) rfl rfl dX6_doubts_35 ?_
          refine a_iinc (pc := 36) (v := nI (k + 1)) (L' := [(0, .ref (b 0)), (1, .int (nI ((cnt (fun v => isB bo v && yDb bo eE lE da fi la un fu fp fn v) k) + 0))), (2, .int (nI (k + 1)))]) C 2 rfl (nI_inc _) (by decide) rfl dX6_doubts_36 ?_
          refine a_goto (pc := 39) (tgt := 4) C (by decide) dX6_doubts_39 ?_
          refine aw_L (L' := [(0, .ref (b 0)), (1, .int (nI (cnt (fun v => isB bo v && yDb bo eE lE da fi la un fu fp fn v) (k + 1)))), (2, .int (nI (k + 1)))]) (congrArg (fun zz9 => ([(0, .ref (b 0)), (1, .int zz9), (2, .int (nI (k + 1)))] : List (Nat × Value))) (congrArg nI (by rw [cnt_n (and_tf c1 c2)]; rfl) : (nI ((cnt (fun v => isB bo v && yDb bo eE lE da fi la un fu fp fn v) k) + 0)) = (nI (cnt (fun v => isB bo v && yDb bo eE lE da fi la un fu fp fn v) (k + 1))))) ?_
          exact ih (k + 1) (by omega)
        · refine a_iconst (pc := 29) (v := nI 1) C ci_1 dX6_doubts_29 ?_
          refine a_goto (pc := 30) (tgt := 34) C (by decide) dX6_doubts_30 ?_
          refine a_iadd (pc := 34) (v := nI ((cnt (fun v => isB bo v && yDb bo eE lE da fi la un fu fp fn v) k) + 1)) C (nI_add _ _) dX6_doubts_34 ?_
          refine a_istoren (pc := 35) (L' := [(0, .ref (b 0)), (1, .int (nI ((cnt (fun v => isB bo v && yDb bo eE lE da fi la un fu fp fn v) k) + 1))), (2, .int (nI k))]) C (by decide) rfl rfl dX6_doubts_35 ?_
          refine a_iinc (pc := 36) (v := nI (k + 1)) (L' := [(0, .ref (b 0)), (1, .int (nI ((cnt (fun v => isB bo v && yDb bo eE lE da fi la un fu fp fn v) k) + 1))), (2, .int (nI (k + 1)))]) C 2 rfl (nI_inc _) (by decide) rfl dX6_doubts_36 ?_
          refine a_goto (pc := 39) (tgt := 4) C (by decide) dX6_doubts_39 ?_
          refine aw_L (L' := [(0, .ref (b 0)), (1, .int (nI (cnt (fun v => isB bo v && yDb bo eE lE da fi la un fu fp fn v) (k + 1)))), (2, .int (nI (k + 1)))]) (congrArg (fun zz9 => ([(0, .ref (b 0)), (1, .int zz9), (2, .int (nI (k + 1)))] : List (Nat × Value))) (congrArg nI (by rw [cnt_y (and_tt c1 c2)]) : (nI ((cnt (fun v => isB bo v && yDb bo eE lE da fi la un fu fp fn v) k) + 1)) = (nI (cnt (fun v => isB bo v && yDb bo eE lE da fi la un fu fp fn v) (k + 1))))) ?_
          exact ih (k + 1) (by omega)
  refine aw_L (L' := [(0, .ref (b 0)), (1, .int (nI (cnt (fun v => isB bo v && yDb bo eE lE da fi la un fu fp fn v) 0))), (2, .int (nI 0))]) (congrArg (fun zz9 => ([(0, .ref (b 0)), (1, .int zz9), (2, .int (nI 0))] : List (Nat × Value))) (rfl : (nI 0) = (nI (cnt (fun v => isB bo v && yDb bo eE lE da fi la un fu fp fn v) 0)))) ?_
  exact LP4 (un) (0) (by omega)

set_option maxHeartbeats 4000000 in
set_option maxRecDepth 100000 in
theorem c_X6_levels (κ : aK) (b : Nat → Nat) {th : Int32} {un : Nat} {ss : Nat → Int32} {fi : Nat → Int32} {la : Nat → Int32} {da : Nat → Bool} {dg : Nat → Bool} {ps : Nat → Int32} {rn : Nat} {ks : Nat → Int32} {os : Nat → Nat} {ts : Nat → Nat} {fn : Nat} {fp : Nat → Int32} {bo : Nat → Nat} {eE : Nat → Nat → Bool} {lE : Nat → Nat → Bool} {li : Nat → Nat → Bool} {be : Nat → Int32} {ab : Nat → Int32} {X : va_W} (hun : un ≤ 40) (hbo : ∀ u, bo u < 40) : CM yX6_levels cX6_levels 3 (some .int) ({ frames := 1, cells := 0, slots := 0, locals := 21 } : Room) κ [.ref (b 0)] (wM κ b th un ss fi la da dg ps rn ks os ts fn fp bo eE lE li be ab X) (aD (some (.int (lvS (isB bo) be un))) (wM κ b th un ss fi la da dg ps rn ks os ts fn fp bo eE lE li be ab X)) := by
  refine cm_entry (own := RX6) (L := [(0, .ref (b 0))]) (by decide +kernel) rfl (lv_entry [.ref (b 0)] (n := 3) (Nat.le_of_ble_eq_true rfl)) (fun g C E => ?_)
  refine a_iconst (pc := 0) (v := nI 0) C ci_0 dX6_levels_0 ?_
  refine a_istoren (pc := 1) (L' := [(0, .ref (b 0)), (1, .int (nI 0))]) C (by decide) rfl rfl dX6_levels_1 ?_
  refine a_iconst (pc := 2) (v := nI 0) C ci_0 dX6_levels_2 ?_
  refine a_istoren (pc := 3) (L' := [(0, .ref (b 0)), (1, .int (nI 0)), (2, .int (nI 0))]) C (by decide) rfl rfl dX6_levels_3 ?_
  have LP4 : ∀ (jz k : Nat), k + jz = un → aw g κ 3 4 [(0, .ref (b 0)), (1, .int (lvS (isB bo) be k)), (2, .int (nI k))] [] (wM κ b th un ss fi la da dg ps rn ks os ts fn fp bo eE lE li be ab X) 0 0 := by
    intro jz
    induction jz with
    | zero =>
      intro k hk_k
      obtain rfl : un = k := by omega
      refine a_iloadn (pc := 4) C 2 rfl rfl dX6_levels_4 ?_
      refine a_aloadn (pc := 5) C 0 rfl rfl dX6_levels_5 ?_
      refine a_get (pc := 6) C fl_X6_64 0 rfl rfl dX6_levels_6 ?_
      refine a_icn_ge_y (pc := 9) (tgt := 39) C (by omega) (by omega) (by omega) (by decide) dX6_levels_9 ?_
      refine a_iloadn (pc := 39) C 1 rfl rfl dX6_levels_39 ?_
      exact a_iret (pc := 40) C E (Nat.le_of_ble_eq_true rfl) (Nat.le_of_ble_eq_true rfl) ⟨rfl, rfl⟩ dX6_levels_40
    | succ jz ih =>
      intro k hk_k
      have hlt_k : k < un := by omega
      refine a_iloadn (pc := 4) C 2 rfl rfl dX6_levels_4 ?_
      refine a_aloadn (pc := 5) C 0 rfl rfl dX6_levels_5 ?_
      refine a_get (pc := 6) C fl_X6_64 0 rfl rfl dX6_levels_6 ?_
      refine a_icn_ge_n (pc := 9) C (by omega) (by omega) (by omega) dX6_levels_9 ⟨39, by decide⟩ ?_
      refine a_aloadn (pc := 12) C 0 rfl rfl dX6_levels_12 ?_
      refine a_iloadn (pc := 13) C 2 rfl rfl dX6_levels_13 ?_
      refine a_callV1 (pc := 14) (k' := 0) (n' := 0) C (c_X6_isBody κ b (by omega) (by assumption)) yv_X6_isBody ml_X6_127 wi_X6_isBody wl_X6_isBody 0 rfl rfl rfl rfl (Nat.le_of_ble_eq_true rfl) (Nat.le_of_ble_eq_true rfl) (Nat.le_of_ble_eq_true rfl) ⟨(Nat.le_of_ble_eq_true rfl), (Nat.le_of_ble_eq_true rfl)⟩ rfl rfl dX6_levels_14 ?_
      refine a_ifb_eq (pc := 17) (tgt := 33) C (by decide) dX6_levels_17 (fun c1 => ?_) (fun c1 => ?_)
      · refine a_iinc (pc := 33) (v := nI (k + 1)) (L' := [(0, .ref (b 0)), (1, .int (lvS (isB bo) be k)), (2, .int (nI (k + 1)))]) C 2 rfl (nI_inc _) (by decide) rfl dX6_levels_33 ?_
        refine a_goto (pc := 36) (tgt := 4) C (by decide) dX6_levels_36 ?_
        refine aw_L (L' := [(0, .ref (b 0)), (1, .int (lvS (isB bo) be (k + 1))), (2, .int (nI (k + 1)))]) (congrArg (fun zz9 => ([(0, .ref (b 0)), (1, .int zz9), (2, .int (nI (k + 1)))] : List (Nat × Value))) (lvS_n c1 : (lvS (isB bo) be k) = (lvS (isB bo) be (k + 1)))) ?_
        exact ih (k + 1) (by omega)
      · refine a_iloadn (pc := 20) C 1 rfl rfl dX6_levels_20 ?_
        refine a_aloadn (pc := 21) C 0 rfl rfl dX6_levels_21 ?_
        refine a_get (pc := 22) C fl_X6_54 0 rfl rfl dX6_levels_22 ?_
        refine a_iloadn (pc := 25) C 2 rfl rfl dX6_levels_25 ?_
        refine a_iald (pc := 26) C 15 rfl (by omega) (by decide) dX6_levels_26 ?_
        refine a_iconst (pc := 27) (v := nI 1) C ci_1 dX6_levels_27 ?_
        refine a_iadd (pc := 28) (v := (be k) + (nI 1)) C rfl dX6_levels_28 ?_
        refine a_mmax (pc := 29) (v := imax (lvS (isB bo) be k) ((be k) + (nI 1))) C ml_X6_97 rfl (Nat.le_of_ble_eq_true rfl) (Nat.le_of_ble_eq_true rfl) (Nat.le_of_ble_eq_true rfl) (Nat.le_of_ble_eq_true rfl) dX6_levels_29 ?_
        refine a_istoren (pc := 32) (L' := [(0, .ref (b 0)), (1, .int (imax (lvS (isB bo) be k) ((be k) + (nI 1)))), (2, .int (nI k))]) C (by decide) rfl rfl dX6_levels_32 ?_
        refine a_iinc (pc := 33) (v := nI (k + 1)) (L' := [(0, .ref (b 0)), (1, .int (imax (lvS (isB bo) be k) ((be k) + (nI 1)))), (2, .int (nI (k + 1)))]) C 2 rfl (nI_inc _) (by decide) rfl dX6_levels_33 ?_
        refine a_goto (pc := 36) (tgt := 4) C (by decide) dX6_levels_36 ?_
        refine aw_L (L' := [(0, .ref (b 0)), (1, .int (lvS (isB bo) be (k + 1))), (2, .int (nI (k + 1)))]) (congrArg (fun zz9 => ([(0, .ref (b 0)), (1, .int zz9), (2, .int (nI (k + 1)))] : List (Nat × Value))) (lvS_y c1 : (imax (lvS (isB bo) be k) ((be k) + (nI 1))) = (lvS (isB bo) be (k + 1)))) ?_
        exact ih (k + 1) (by omega)
  refine aw_L (L' := [(0, .ref (b 0)), (1, .int (lvS (isB bo) be 0)), (2, .int (nI 0))]) (congrArg (fun zz9 => ([(0, .ref (b 0)), (1, .int zz9), (2, .int (nI 0))] : List (Nat × Value))) (rfl : (nI 0) = (lvS (isB bo) be 0))) ?_
  exact LP4 (un) (0) (by omega)

set_option maxHeartbeats 4000000 in
set_option maxRecDepth 100000 in
theorem c_X6_areOut (κ : aK) (b : Nat → Nat) {th : Int32} {un : Nat} {ss : Nat → Int32} {fi : Nat → Int32} {la : Nat → Int32} {da : Nat → Bool} {dg : Nat → Bool} {ps : Nat → Int32} {rn : Nat} {ks : Nat → Int32} {os : Nat → Nat} {ts : Nat → Nat} {fn : Nat} {fp : Nat → Int32} {bo : Nat → Nat} {eE : Nat → Nat → Bool} {lE : Nat → Nat → Bool} {li : Nat → Nat → Bool} {be : Nat → Int32} {ab : Nat → Int32} {X : va_W} {x : Nat} {y : Nat} (hbo : ∀ u, bo u < 40) (hx : x < 40) (hy : y < 40) : CM yX6_areOut cX6_areOut 3 (some .boolean) ({ frames := 1, cells := 0, slots := 0, locals := 22 } : Room) κ [.ref (b 0), .int (nI x), .int (nI y)] (wM κ b th un ss fi la da dg ps rn ks os ts fn fp bo eE lE li be ab X) (aD (some (.int (b2i (poB bo eE ps x y)))) (wM κ b th un ss fi la da dg ps rn ks os ts fn fp bo eE lE li be ab X)) := by
  refine cm_entry (own := RX6) (L := [(0, .ref (b 0)), (1, .int (nI x)), (2, .int (nI y))]) (by decide +kernel) rfl (lv_entry [.ref (b 0), .int (nI x), .int (nI y)] (n := 3) (Nat.le_of_ble_eq_true rfl)) (fun g C E => ?_)
  have hb1 := hbo x
  have hb2 := hbo y
  refine a_aloadn (pc := 0) C 0 rfl rfl dX6_areOut_0 ?_
  refine a_get (pc := 1) C fl_X6_41 0 rfl rfl dX6_areOut_1 ?_
  refine a_iloadn (pc := 4) C 1 rfl rfl dX6_areOut_4 ?_
  refine a_ialdN (pc := 5) C 11 rfl (by omega) (by decide) dX6_areOut_5 ?_
  refine a_aloadn (pc := 6) C 0 rfl rfl dX6_areOut_6 ?_
  refine a_get (pc := 7) C fl_X6_41 0 rfl rfl dX6_areOut_7 ?_
  refine a_iloadn (pc := 10) C 2 rfl rfl dX6_areOut_10 ?_
  refine a_ialdN (pc := 11) C 11 rfl (by omega) (by decide) dX6_areOut_11 ?_
  refine a_icn_ne (pc := 12) (tgt := 41) C (by omega) (by omega) (by decide) dX6_areOut_12 (fun c1 => ?_) (fun c1 => ?_)
  · refine a_aloadn (pc := 41) C 0 rfl rfl dX6_areOut_41 ?_
    refine a_get (pc := 42) C fl_X6_44 0 rfl rfl dX6_areOut_42 ?_
    refine a_aloadn (pc := 45) C 0 rfl rfl dX6_areOut_45 ?_
    refine a_get (pc := 46) C fl_X6_41 0 rfl rfl dX6_areOut_46 ?_
    refine a_iloadn (pc := 49) C 1 rfl rfl dX6_areOut_49 ?_
    refine a_ialdN (pc := 50) C 11 rfl (by omega) (by decide) dX6_areOut_50 ?_
    refine a_laldS (pc := 51) C 12 rfl (hbo _) (by decide) dX6_areOut_51 ?_
    refine a_aloadn (pc := 52) C 0 rfl rfl dX6_areOut_52 ?_
    refine a_get (pc := 53) C fl_X6_41 0 rfl rfl dX6_areOut_53 ?_
    refine a_iloadn (pc := 56) C 2 rfl rfl dX6_areOut_56 ?_
    refine a_ialdN (pc := 57) C 11 rfl (by omega) (by decide) dX6_areOut_57 ?_
    refine a_callS1 (pc := 58) (k' := 0) (n' := 0) C (c_X6_has κ (by omega)) yv_X6_has ml_X6_83 ws_X6_has rfl rfl (Nat.le_of_ble_eq_true rfl) (Nat.le_of_ble_eq_true rfl) (Nat.le_of_ble_eq_true rfl) ⟨(Nat.le_of_ble_eq_true rfl), (Nat.le_of_ble_eq_true rfl)⟩ rfl rfl dX6_areOut_58 ?_
    refine a_ifb_eq (pc := 61) (tgt := 83) C (by decide) dX6_areOut_61 (fun c2 => ?_) (fun c2 => ?_)
    · refine a_iconst (pc := 83) (v := nI 0) C ci_0 dX6_areOut_83 ?_
      have hv : poB bo eE ps x y = false := by rw [poB, if_neg c1]; simp only [c2, Bool.and_false, Bool.false_and, Bool.and_true, Bool.true_and, Bool.not_true, Bool.not_false, Bool.and_self]
      rw [hv] at E
      exact a_zret (pc := 84) (b := false) C E (Nat.le_of_ble_eq_true rfl) (Nat.le_of_ble_eq_true rfl) (by decide +kernel) ⟨rfl, rfl⟩ dX6_areOut_84
    · refine a_aloadn (pc := 64) C 0 rfl rfl dX6_areOut_64 ?_
      refine a_get (pc := 65) C fl_X6_26 0 rfl rfl dX6_areOut_65 ?_
      refine a_iloadn (pc := 68) C 1 rfl rfl dX6_areOut_68 ?_
      refine a_iald (pc := 69) C 6 rfl (by omega) (by decide) dX6_areOut_69 ?_
      refine a_aloadn (pc := 70) C 0 rfl rfl dX6_areOut_70 ?_
      refine a_get (pc := 71) C fl_X6_26 0 rfl rfl dX6_areOut_71 ?_
      refine a_iloadn (pc := 74) C 2 rfl rfl dX6_areOut_74 ?_
      refine a_iald (pc := 75) C 6 rfl (by omega) (by decide) dX6_areOut_75 ?_
      refine a_ic_ge (pc := 76) (tgt := 83) C (by decide) dX6_areOut_76 (fun c3 => ?_) (fun c3 => ?_)
      · refine a_iconst (pc := 83) (v := nI 0) C ci_0 dX6_areOut_83 ?_
        have hv : poB bo eE ps x y = false := by rw [poB, if_neg c1]; simp only [c2, decide_eq_false (Int32.not_lt.mpr c3), Bool.and_false, Bool.false_and, Bool.and_true, Bool.true_and, Bool.not_true, Bool.not_false, Bool.and_self]
        rw [hv] at E
        exact a_zret (pc := 84) (b := false) C E (Nat.le_of_ble_eq_true rfl) (Nat.le_of_ble_eq_true rfl) (by decide +kernel) ⟨rfl, rfl⟩ dX6_areOut_84
      · refine a_iconst (pc := 79) (v := nI 1) C ci_1 dX6_areOut_79 ?_
        refine a_goto (pc := 80) (tgt := 84) C (by decide) dX6_areOut_80 ?_
        have hv : poB bo eE ps x y = true := by rw [poB, if_neg c1]; simp only [c2, decide_eq_true (Int32.not_le.mp c3), Bool.and_false, Bool.false_and, Bool.and_true, Bool.true_and, Bool.not_true, Bool.not_false, Bool.and_self]
        rw [hv] at E
        exact a_zret (pc := 84) (b := true) C E (Nat.le_of_ble_eq_true rfl) (Nat.le_of_ble_eq_true rfl) (by decide +kernel) ⟨rfl, rfl⟩ dX6_areOut_84
  · refine a_iloadn (pc := 15) C 1 rfl rfl dX6_areOut_15 ?_
    refine a_iloadn (pc := 16) C 2 rfl rfl dX6_areOut_16 ?_
    refine a_icn_ge (pc := 17) (tgt := 39) C (by omega) (by omega) (by decide) dX6_areOut_17 (fun c4 => ?_) (fun c4 => ?_)
    · refine a_iconst (pc := 39) (v := nI 0) C ci_0 dX6_areOut_39 ?_
      have hv : poB bo eE ps x y = false := by rw [poB, if_pos c1]; simp only [decide_eq_false (Nat.not_lt.mpr c4), Bool.and_false, Bool.false_and, Bool.and_true, Bool.true_and, Bool.not_true, Bool.not_false, Bool.and_self]
      rw [hv] at E
      exact a_zret (pc := 40) (b := false) C E (Nat.le_of_ble_eq_true rfl) (Nat.le_of_ble_eq_true rfl) (by decide +kernel) ⟨rfl, rfl⟩ dX6_areOut_40
    · refine a_aloadn (pc := 20) C 0 rfl rfl dX6_areOut_20 ?_
      refine a_get (pc := 21) C fl_X6_26 0 rfl rfl dX6_areOut_21 ?_
      refine a_iloadn (pc := 24) C 1 rfl rfl dX6_areOut_24 ?_
      refine a_iald (pc := 25) C 6 rfl (by omega) (by decide) dX6_areOut_25 ?_
      refine a_aloadn (pc := 26) C 0 rfl rfl dX6_areOut_26 ?_
      refine a_get (pc := 27) C fl_X6_26 0 rfl rfl dX6_areOut_27 ?_
      refine a_iloadn (pc := 30) C 2 rfl rfl dX6_areOut_30 ?_
      refine a_iald (pc := 31) C 6 rfl (by omega) (by decide) dX6_areOut_31 ?_
      refine a_ic_eq (pc := 32) (tgt := 39) C (by decide) dX6_areOut_32 (fun c5 => ?_) (fun c5 => ?_)
      · refine a_iconst (pc := 39) (v := nI 0) C ci_0 dX6_areOut_39 ?_
        have hv : poB bo eE ps x y = false := by rw [poB, if_pos c1]; simp only [decide_eq_true c4, decide_eq_true c5, Bool.and_false, Bool.false_and, Bool.and_true, Bool.true_and, Bool.not_true, Bool.not_false, Bool.and_self]
        rw [hv] at E
        exact a_zret (pc := 40) (b := false) C E (Nat.le_of_ble_eq_true rfl) (Nat.le_of_ble_eq_true rfl) (by decide +kernel) ⟨rfl, rfl⟩ dX6_areOut_40
      · refine a_iconst (pc := 35) (v := nI 1) C ci_1 dX6_areOut_35 ?_
        refine a_goto (pc := 36) (tgt := 40) C (by decide) dX6_areOut_36 ?_
        have hv : poB bo eE ps x y = true := by rw [poB, if_pos c1]; simp only [decide_eq_true c4, decide_eq_false c5, Bool.and_false, Bool.false_and, Bool.and_true, Bool.true_and, Bool.not_true, Bool.not_false, Bool.and_self]
        rw [hv] at E
        exact a_zret (pc := 40) (b := true) C E (Nat.le_of_ble_eq_true rfl) (Nat.le_of_ble_eq_true rfl) (by decide +kernel) ⟨rfl, rfl⟩ dX6_areOut_40

set_option maxHeartbeats 4000000 in
set_option maxRecDepth 100000 in
theorem c_X6_pairsOut (κ : aK) (b : Nat → Nat) {th : Int32} {un : Nat} {ss : Nat → Int32} {fi : Nat → Int32} {la : Nat → Int32} {da : Nat → Bool} {dg : Nat → Bool} {ps : Nat → Int32} {rn : Nat} {ks : Nat → Int32} {os : Nat → Nat} {ts : Nat → Nat} {fn : Nat} {fp : Nat → Int32} {bo : Nat → Nat} {eE : Nat → Nat → Bool} {lE : Nat → Nat → Bool} {li : Nat → Nat → Bool} {be : Nat → Int32} {ab : Nat → Int32} {X : va_W} (hun : un ≤ 40) (hbo : ∀ u, bo u < 40) : CM yX6_pairsOut cX6_pairsOut 4 (some .int) ({ frames := 2, cells := 0, slots := 0, locals := 44 } : Room) κ [.ref (b 0)] (wM κ b th un ss fi la da dg ps rn ks os ts fn fp bo eE lE li be ab X) (aD (some (.int (nI (ppS (poB bo eE ps) un un)))) (wM κ b th un ss fi la da dg ps rn ks os ts fn fp bo eE lE li be ab X)) := by
  refine cm_entry (own := RX6) (L := [(0, .ref (b 0))]) (by decide +kernel) rfl (lv_entry [.ref (b 0)] (n := 4) (Nat.le_of_ble_eq_true rfl)) (fun g C E => ?_)
  refine a_iconst (pc := 0) (v := nI 0) C ci_0 dX6_pairsOut_0 ?_
  refine a_istoren (pc := 1) (L' := [(0, .ref (b 0)), (1, .int (nI 0))]) C (by decide) rfl rfl dX6_pairsOut_1 ?_
  refine a_iconst (pc := 2) (v := nI 0) C ci_0 dX6_pairsOut_2 ?_
  refine a_istoren (pc := 3) (L' := [(0, .ref (b 0)), (1, .int (nI 0)), (2, .int (nI 0))]) C (by decide) rfl rfl dX6_pairsOut_3 ?_
  have LP4 : ∀ (jz k : Nat), k + jz = un → aw g κ 4 4 [(0, .ref (b 0)), (1, .int (nI (ppS (poB bo eE ps) un k))), (2, .int (nI k))] [] (wM κ b th un ss fi la da dg ps rn ks os ts fn fp bo eE lE li be ab X) 0 0 := by
    intro jz
    induction jz with
    | zero =>
      intro k hk_k
      obtain rfl : un = k := by omega
      refine a_iloadn (pc := 4) C 2 rfl rfl dX6_pairsOut_4 ?_
      refine a_aloadn (pc := 5) C 0 rfl rfl dX6_pairsOut_5 ?_
      refine a_get (pc := 6) C fl_X6_64 0 rfl rfl dX6_pairsOut_6 ?_
      refine a_icn_ge_y (pc := 9) (tgt := 51) C (by omega) (by omega) (by omega) (by decide) dX6_pairsOut_9 ?_
      refine a_iloadn (pc := 51) C 1 rfl rfl dX6_pairsOut_51 ?_
      exact a_iret (pc := 52) C E (Nat.le_of_ble_eq_true rfl) (Nat.le_of_ble_eq_true rfl) ⟨rfl, rfl⟩ dX6_pairsOut_52
    | succ jz ih =>
      intro k hk_k
      have hlt_k : k < un := by omega
      refine a_iloadn (pc := 4) C 2 rfl rfl dX6_pairsOut_4 ?_
      refine a_aloadn (pc := 5) C 0 rfl rfl dX6_pairsOut_5 ?_
      refine a_get (pc := 6) C fl_X6_64 0 rfl rfl dX6_pairsOut_6 ?_
      refine a_icn_ge_n (pc := 9) C (by omega) (by omega) (by omega) dX6_pairsOut_9 ⟨51, by decide⟩ ?_
      refine a_iconst (pc := 12) (v := nI 0) C ci_0 dX6_pairsOut_12 ?_
      refine a_istoren (pc := 13) (L' := [(0, .ref (b 0)), (1, .int (nI (ppS (poB bo eE ps) un k))), (2, .int (nI k)), (3, .int (nI 0))]) C (by decide) rfl rfl dX6_pairsOut_13 ?_
      have LP14 : ∀ (jz j : Nat), j + jz = un → aw g κ 4 14 [(0, .ref (b 0)), (1, .int (nI (ppS (poB bo eE ps) un k + cnt (poB bo eE ps k) j))), (2, .int (nI k)), (3, .int (nI j))] [] (wM κ b th un ss fi la da dg ps rn ks os ts fn fp bo eE lE li be ab X) 0 0 := by
        intro jz
        induction jz with
        | zero =>
          intro j hk_j
          obtain rfl : un = j := by omega
          refine a_iloadn (pc := 14) C 3 rfl rfl dX6_pairsOut_14 ?_
          refine a_aloadn (pc := 15) C 0 rfl rfl dX6_pairsOut_15 ?_
          refine a_get (pc := 16) C fl_X6_64 0 rfl rfl dX6_pairsOut_16 ?_
          refine a_icn_ge_y (pc := 19) (tgt := 45) C (by omega) (by omega) (by omega) (by decide) dX6_pairsOut_19 ?_
          refine a_iinc (pc := 45) (v := nI (k + 1)) (L' := [(0, .ref (b 0)), (1, .int (nI (ppS (poB bo eE ps) un k + cnt (poB bo eE ps k) un))), (2, .int (nI (k + 1))), (3, .int (nI un))]) C 2 rfl (nI_inc _) (by decide) rfl dX6_pairsOut_45 ?_
          refine a_goto (pc := 48) (tgt := 4) C (by decide) dX6_pairsOut_48 ?_
          refine aw_locals (L' := [(0, .ref (b 0)), (1, .int (nI (ppS (poB bo eE ps) un k + cnt (poB bo eE ps k) un))), (2, .int (nI (k + 1)))]) [0, 1, 2] rfl ?_
          refine aw_L (L' := [(0, .ref (b 0)), (1, .int (nI (ppS (poB bo eE ps) un (k + 1)))), (2, .int (nI (k + 1)))]) (congrArg (fun zz9 => ([(0, .ref (b 0)), (1, .int zz9), (2, .int (nI (k + 1)))] : List (Nat × Value))) (rfl : (nI (ppS (poB bo eE ps) un k + cnt (poB bo eE ps k) un)) = (nI (ppS (poB bo eE ps) un (k + 1))))) ?_
          exact ih (k + 1) (by omega)
        | succ jz ih =>
          intro j hk_j
          have hlt_j : j < un := by omega
          refine a_iloadn (pc := 14) C 3 rfl rfl dX6_pairsOut_14 ?_
          refine a_aloadn (pc := 15) C 0 rfl rfl dX6_pairsOut_15 ?_
          refine a_get (pc := 16) C fl_X6_64 0 rfl rfl dX6_pairsOut_16 ?_
          refine a_icn_ge_n (pc := 19) C (by omega) (by omega) (by omega) dX6_pairsOut_19 ⟨45, by decide⟩ ?_
          refine a_iloadn (pc := 22) C 1 rfl rfl dX6_pairsOut_22 ?_
          refine a_aloadn (pc := 23) C 0 rfl rfl dX6_pairsOut_23 ?_
          refine a_iloadn (pc := 24) C 2 rfl rfl dX6_pairsOut_24 ?_
          refine a_iloadn (pc := 25) C 3 rfl rfl dX6_pairsOut_25 ?_
          refine a_callV1 (pc := 26) (k' := 0) (n' := 0) C (c_X6_areOut κ b (by assumption) (by omega) (by omega)) yv_X6_areOut ml_X6_139 wi_X6_areOut wl_X6_areOut 0 rfl rfl rfl rfl (Nat.le_of_ble_eq_true rfl) (Nat.le_of_ble_eq_true rfl) (Nat.le_of_ble_eq_true rfl) ⟨(Nat.le_of_ble_eq_true rfl), (Nat.le_of_ble_eq_true rfl)⟩ rfl rfl dX6_pairsOut_26 ?_
          refine a_ifb_eq (pc := 29) (tgt := 36) C (by decide) dX6_pairsOut_29 (fun c1 => ?_) (fun c1 => ?_)
          · refine a_iconst (pc := 36) (v := nI 0) C ci_0 dX6_pairsOut_36 ?_
            refine a_iadd (pc := 37) (v := nI ((ppS (poB bo eE ps) un k + cnt (poB bo eE ps k) j) + 0)) C (nI_add _ _) dX6_pairsOut_37 ?_
            refine a_istoren (pc := 38) (L' := [(0, .ref (b 0)), (1, .int (nI ((ppS (poB bo eE ps) un k + cnt (poB bo eE ps k) j) + 0))), (2, .int (nI k)), (3, .int (nI j))]) C (by decide) rfl rfl dX6_pairsOut_38 ?_
            refine a_iinc (pc := 39) (v := nI (j + 1)) (L' := [(0, .ref (b 0)), (1, .int (nI ((ppS (poB bo eE ps) un k + cnt (poB bo eE ps k) j) + 0))), (2, .int (nI k)), (3, .int (nI (j + 1)))]) C 3 rfl (nI_inc _) (by decide) rfl dX6_pairsOut_39 ?_
            refine a_goto (pc := 42) (tgt := 14) C (by decide) dX6_pairsOut_42 ?_
            refine aw_L (L' := [(0, .ref (b 0)), (1, .int (nI (ppS (poB bo eE ps) un k + cnt (poB bo eE ps k) (j + 1)))), (2, .int (nI k)), (3, .int (nI (j + 1)))]) (congrArg (fun zz9 => ([(0, .ref (b 0)), (1, .int zz9), (2, .int (nI k)), (3, .int (nI (j + 1)))] : List (Nat × Value))) (congrArg nI (by rw [cnt_n c1]; rfl) : (nI ((ppS (poB bo eE ps) un k + cnt (poB bo eE ps k) j) + 0)) = (nI (ppS (poB bo eE ps) un k + cnt (poB bo eE ps k) (j + 1))))) ?_
            exact ih (j + 1) (by omega)
          · refine a_iconst (pc := 32) (v := nI 1) C ci_1 dX6_pairsOut_32 ?_
            refine a_goto (pc := 33) (tgt := 37) C (by decide) dX6_pairsOut_33 ?_
            refine a_iadd (pc := 37) (v := nI ((ppS (poB bo eE ps) un k + cnt (poB bo eE ps k) j) + 1)) C (nI_add _ _) dX6_pairsOut_37 ?_
            refine a_istoren (pc := 38) (L' := [(0, .ref (b 0)), (1, .int (nI ((ppS (poB bo eE ps) un k + cnt (poB bo eE ps k) j) + 1))), (2, .int (nI k)), (3, .int (nI j))]) C (by decide) rfl rfl dX6_pairsOut_38 ?_
            refine a_iinc (pc := 39) (v := nI (j + 1)) (L' := [(0, .ref (b 0)), (1, .int (nI ((ppS (poB bo eE ps) un k + cnt (poB bo eE ps k) j) + 1))), (2, .int (nI k)), (3, .int (nI (j + 1)))]) C 3 rfl (nI_inc _) (by decide) rfl dX6_pairsOut_39 ?_
            refine a_goto (pc := 42) (tgt := 14) C (by decide) dX6_pairsOut_42 ?_
            refine aw_L (L' := [(0, .ref (b 0)), (1, .int (nI (ppS (poB bo eE ps) un k + cnt (poB bo eE ps k) (j + 1)))), (2, .int (nI k)), (3, .int (nI (j + 1)))]) (congrArg (fun zz9 => ([(0, .ref (b 0)), (1, .int zz9), (2, .int (nI k)), (3, .int (nI (j + 1)))] : List (Nat × Value))) (congrArg nI (by rw [cnt_y c1]; rfl) : (nI ((ppS (poB bo eE ps) un k + cnt (poB bo eE ps k) j) + 1)) = (nI (ppS (poB bo eE ps) un k + cnt (poB bo eE ps k) (j + 1))))) ?_
            exact ih (j + 1) (by omega)
      refine aw_L (L' := [(0, .ref (b 0)), (1, .int (nI (ppS (poB bo eE ps) un k + cnt (poB bo eE ps k) 0))), (2, .int (nI k)), (3, .int (nI 0))]) (congrArg (fun zz9 => ([(0, .ref (b 0)), (1, .int zz9), (2, .int (nI k)), (3, .int (nI 0))] : List (Nat × Value))) (rfl : (nI (ppS (poB bo eE ps) un k)) = (nI (ppS (poB bo eE ps) un k + cnt (poB bo eE ps k) 0)))) ?_
      exact LP14 (un) (0) (by omega)
  refine aw_L (L' := [(0, .ref (b 0)), (1, .int (nI (ppS (poB bo eE ps) un 0))), (2, .int (nI 0))]) (congrArg (fun zz9 => ([(0, .ref (b 0)), (1, .int zz9), (2, .int (nI 0))] : List (Nat × Value))) (rfl : (nI 0) = (nI (ppS (poB bo eE ps) un 0)))) ?_
  exact LP4 (un) (0) (by omega)

set_option maxHeartbeats 4000000 in
set_option maxRecDepth 100000 in
theorem c_X6_sizeOf (κ : aK) (b : Nat → Nat) {th : Int32} {un : Nat} {ss : Nat → Int32} {fi : Nat → Int32} {la : Nat → Int32} {da : Nat → Bool} {dg : Nat → Bool} {ps : Nat → Int32} {rn : Nat} {ks : Nat → Int32} {os : Nat → Nat} {ts : Nat → Nat} {fn : Nat} {fp : Nat → Int32} {bo : Nat → Nat} {eE : Nat → Nat → Bool} {lE : Nat → Nat → Bool} {li : Nat → Nat → Bool} {be : Nat → Int32} {ab : Nat → Int32} {X : va_W} {u : Nat} (hun : un ≤ 40) (hbo : ∀ u, bo u < 40) (hu : u < 40) : CM yX6_sizeOf cX6_sizeOf 4 (some .int) ({ frames := 0, cells := 0, slots := 0, locals := 0 } : Room) κ [.ref (b 0), .int (nI u)] (wM κ b th un ss fi la da dg ps rn ks os ts fn fp bo eE lE li be ab X) (aD (some (.int (nI (cnt (fun v => decide (bo v = bo u)) un)))) (wM κ b th un ss fi la da dg ps rn ks os ts fn fp bo eE lE li be ab X)) := by
  refine cm_entry (own := RX6) (L := [(0, .ref (b 0)), (1, .int (nI u))]) (by decide +kernel) rfl (lv_entry [.ref (b 0), .int (nI u)] (n := 4) (Nat.le_of_ble_eq_true rfl)) (fun g C E => ?_)
  refine a_iconst (pc := 0) (v := nI 0) C ci_0 dX6_sizeOf_0 ?_
  refine a_istoren (pc := 1) (L' := [(0, .ref (b 0)), (1, .int (nI u)), (2, .int (nI 0))]) C (by decide) rfl rfl dX6_sizeOf_1 ?_
  refine a_iconst (pc := 2) (v := nI 0) C ci_0 dX6_sizeOf_2 ?_
  refine a_istoren (pc := 3) (L' := [(0, .ref (b 0)), (1, .int (nI u)), (2, .int (nI 0)), (3, .int (nI 0))]) C (by decide) rfl rfl dX6_sizeOf_3 ?_
  have LP4 : ∀ (jz k : Nat), k + jz = un → aw g κ 4 4 [(0, .ref (b 0)), (1, .int (nI u)), (2, .int (nI (cnt (fun v => decide (bo v = bo u)) k))), (3, .int (nI k))] [] (wM κ b th un ss fi la da dg ps rn ks os ts fn fp bo eE lE li be ab X) 0 0 := by
    intro jz
    induction jz with
    | zero =>
      intro k hk_k
      obtain rfl : un = k := by omega
      refine a_iloadn (pc := 4) C 3 rfl rfl dX6_sizeOf_4 ?_
      refine a_aloadn (pc := 5) C 0 rfl rfl dX6_sizeOf_5 ?_
      refine a_get (pc := 6) C fl_X6_64 0 rfl rfl dX6_sizeOf_6 ?_
      refine a_icn_ge_y (pc := 9) (tgt := 41) C (by omega) (by omega) (by omega) (by decide) dX6_sizeOf_9 ?_
      refine a_iloadn (pc := 41) C 2 rfl rfl dX6_sizeOf_41 ?_
      exact a_iret (pc := 42) C E (Nat.le_of_ble_eq_true rfl) (Nat.le_of_ble_eq_true rfl) ⟨rfl, rfl⟩ dX6_sizeOf_42
    | succ jz ih =>
      intro k hk_k
      have hlt_k : k < un := by omega
      have hbk := hbo k
      have hbu := hbo u
      refine a_iloadn (pc := 4) C 3 rfl rfl dX6_sizeOf_4 ?_
      refine a_aloadn (pc := 5) C 0 rfl rfl dX6_sizeOf_5 ?_
      refine a_get (pc := 6) C fl_X6_64 0 rfl rfl dX6_sizeOf_6 ?_
      refine a_icn_ge_n (pc := 9) C (by omega) (by omega) (by omega) dX6_sizeOf_9 ⟨41, by decide⟩ ?_
      refine a_iloadn (pc := 12) C 2 rfl rfl dX6_sizeOf_12 ?_
      refine a_aloadn (pc := 13) C 0 rfl rfl dX6_sizeOf_13 ?_
      refine a_get (pc := 14) C fl_X6_41 0 rfl rfl dX6_sizeOf_14 ?_
      refine a_iloadn (pc := 17) C 3 rfl rfl dX6_sizeOf_17 ?_
      refine a_ialdN (pc := 18) C 11 rfl (by omega) (by decide) dX6_sizeOf_18 ?_
      refine a_aloadn (pc := 19) C 0 rfl rfl dX6_sizeOf_19 ?_
      refine a_get (pc := 20) C fl_X6_41 0 rfl rfl dX6_sizeOf_20 ?_
      refine a_iloadn (pc := 23) C 1 rfl rfl dX6_sizeOf_23 ?_
      refine a_ialdN (pc := 24) C 11 rfl (by omega) (by decide) dX6_sizeOf_24 ?_
      refine a_icn_ne (pc := 25) (tgt := 32) C (by omega) (by omega) (by decide) dX6_sizeOf_25 (fun c1 => ?_) (fun c1 => ?_)
      · refine a_iconst (pc := 32) (v := nI 0) C ci_0 dX6_sizeOf_32 ?_
        refine a_iadd (pc := 33) (v := nI ((cnt (fun v => decide (bo v = bo u)) k) + 0)) C (nI_add _ _) dX6_sizeOf_33 ?_
        refine a_istoren (pc := 34) (L' := [(0, .ref (b 0)), (1, .int (nI u)), (2, .int (nI ((cnt (fun v => decide (bo v = bo u)) k) + 0))), (3, .int (nI k))]) C (by decide) rfl rfl dX6_sizeOf_34 ?_
        refine a_iinc (pc := 35) (v := nI (k + 1)) (L' := [(0, .ref (b 0)), (1, .int (nI u)), (2, .int (nI ((cnt (fun v => decide (bo v = bo u)) k) + 0))), (3, .int (nI (k + 1)))]) C 3 rfl (nI_inc _) (by decide) rfl dX6_sizeOf_35 ?_
        refine a_goto (pc := 38) (tgt := 4) C (by decide) dX6_sizeOf_38 ?_
        refine aw_L (L' := [(0, .ref (b 0)), (1, .int (nI u)), (2, .int (nI (cnt (fun v => decide (bo v = bo u)) (k + 1)))), (3, .int (nI (k + 1)))]) (congrArg (fun zz9 => ([(0, .ref (b 0)), (1, .int (nI u)), (2, .int zz9), (3, .int (nI (k + 1)))] : List (Nat × Value))) (congrArg nI (by rw [cnt_n (decide_eq_false c1)]; rfl) : (nI ((cnt (fun v => decide (bo v = bo u)) k) + 0)) = (nI (cnt (fun v => decide (bo v = bo u)) (k + 1))))) ?_
        exact ih (k + 1) (by omega)
      · refine a_iconst (pc := 28) (v := nI 1) C ci_1 dX6_sizeOf_28 ?_
        refine a_goto (pc := 29) (tgt := 33) C (by decide) dX6_sizeOf_29 ?_
        refine a_iadd (pc := 33) (v := nI ((cnt (fun v => decide (bo v = bo u)) k) + 1)) C (nI_add _ _) dX6_sizeOf_33 ?_
        refine a_istoren (pc := 34) (L' := [(0, .ref (b 0)), (1, .int (nI u)), (2, .int (nI ((cnt (fun v => decide (bo v = bo u)) k) + 1))), (3, .int (nI k))]) C (by decide) rfl rfl dX6_sizeOf_34 ?_
        refine a_iinc (pc := 35) (v := nI (k + 1)) (L' := [(0, .ref (b 0)), (1, .int (nI u)), (2, .int (nI ((cnt (fun v => decide (bo v = bo u)) k) + 1))), (3, .int (nI (k + 1)))]) C 3 rfl (nI_inc _) (by decide) rfl dX6_sizeOf_35 ?_
        refine a_goto (pc := 38) (tgt := 4) C (by decide) dX6_sizeOf_38 ?_
        refine aw_L (L' := [(0, .ref (b 0)), (1, .int (nI u)), (2, .int (nI (cnt (fun v => decide (bo v = bo u)) (k + 1)))), (3, .int (nI (k + 1)))]) (congrArg (fun zz9 => ([(0, .ref (b 0)), (1, .int (nI u)), (2, .int zz9), (3, .int (nI (k + 1)))] : List (Nat × Value))) (congrArg nI (by rw [cnt_y (decide_eq_true c1)]) : (nI ((cnt (fun v => decide (bo v = bo u)) k) + 1)) = (nI (cnt (fun v => decide (bo v = bo u)) (k + 1))))) ?_
        exact ih (k + 1) (by omega)
  refine aw_L (L' := [(0, .ref (b 0)), (1, .int (nI u)), (2, .int (nI (cnt (fun v => decide (bo v = bo u)) 0))), (3, .int (nI 0))]) (congrArg (fun zz9 => ([(0, .ref (b 0)), (1, .int (nI u)), (2, .int zz9), (3, .int (nI 0))] : List (Nat × Value))) (rfl : (nI 0) = (nI (cnt (fun v => decide (bo v = bo u)) 0)))) ?_
  exact LP4 (un) (0) (by omega)

set_option maxHeartbeats 4000000 in
set_option maxRecDepth 100000 in
theorem c_X6_findsIn (κ : aK) (b : Nat → Nat) {th : Int32} {un : Nat} {ss : Nat → Int32} {fi : Nat → Int32} {la : Nat → Int32} {da : Nat → Bool} {dg : Nat → Bool} {ps : Nat → Int32} {rn : Nat} {ks : Nat → Int32} {os : Nat → Nat} {ts : Nat → Nat} {fn : Nat} {fp : Nat → Int32} {bo : Nat → Nat} {eE : Nat → Nat → Bool} {lE : Nat → Nat → Bool} {li : Nat → Nat → Bool} {be : Nat → Int32} {ab : Nat → Int32} {X : va_W} {u : Nat} {fu : Nat → Nat} (hfn : fn ≤ 60) (hq : ∀ j, fp (7 * j) = nI (fu j)) (hfu : ∀ u, fu u < 40) (hu : u < 40) : CM yX6_findsIn cX6_findsIn 4 (some .int) ({ frames := 0, cells := 0, slots := 0, locals := 0 } : Room) κ [.ref (b 0), .int (nI u)] (wM κ b th un ss fi la da dg ps rn ks os ts fn fp bo eE lE li be ab X) (aD (some (.int (nI (cnt (fun v => decide (fu v = u)) fn)))) (wM κ b th un ss fi la da dg ps rn ks os ts fn fp bo eE lE li be ab X)) := by
  refine cm_entry (own := RX6) (L := [(0, .ref (b 0)), (1, .int (nI u))]) (by decide +kernel) rfl (lv_entry [.ref (b 0), .int (nI u)] (n := 4) (Nat.le_of_ble_eq_true rfl)) (fun g C E => ?_)
  refine a_iconst (pc := 0) (v := nI 0) C ci_0 dX6_findsIn_0 ?_
  refine a_istoren (pc := 1) (L' := [(0, .ref (b 0)), (1, .int (nI u)), (2, .int (nI 0))]) C (by decide) rfl rfl dX6_findsIn_1 ?_
  refine a_iconst (pc := 2) (v := nI 0) C ci_0 dX6_findsIn_2 ?_
  refine a_istoren (pc := 3) (L' := [(0, .ref (b 0)), (1, .int (nI u)), (2, .int (nI 0)), (3, .int (nI 0))]) C (by decide) rfl rfl dX6_findsIn_3 ?_
  have LP4 : ∀ (jz k : Nat), k + jz = fn → aw g κ 4 4 [(0, .ref (b 0)), (1, .int (nI u)), (2, .int (nI (cnt (fun v => decide (fu v = u)) k))), (3, .int (nI k))] [] (wM κ b th un ss fi la da dg ps rn ks os ts fn fp bo eE lE li be ab X) 0 0 := by
    intro jz
    induction jz with
    | zero =>
      intro k hk_k
      obtain rfl : fn = k := by omega
      refine a_iloadn (pc := 4) C 3 rfl rfl dX6_findsIn_4 ?_
      refine a_aloadn (pc := 5) C 0 rfl rfl dX6_findsIn_5 ?_
      refine a_get (pc := 6) C fl_X6_120 0 rfl rfl dX6_findsIn_6 ?_
      refine a_icn_ge_y (pc := 9) (tgt := 39) C (by omega) (by omega) (by omega) (by decide) dX6_findsIn_9 ?_
      refine a_iloadn (pc := 39) C 2 rfl rfl dX6_findsIn_39 ?_
      exact a_iret (pc := 40) C E (Nat.le_of_ble_eq_true rfl) (Nat.le_of_ble_eq_true rfl) ⟨rfl, rfl⟩ dX6_findsIn_40
    | succ jz ih =>
      intro k hk_k
      have hlt_k : k < fn := by omega
      have hfk := hfu k
      refine a_iloadn (pc := 4) C 3 rfl rfl dX6_findsIn_4 ?_
      refine a_aloadn (pc := 5) C 0 rfl rfl dX6_findsIn_5 ?_
      refine a_get (pc := 6) C fl_X6_120 0 rfl rfl dX6_findsIn_6 ?_
      refine a_icn_ge_n (pc := 9) C (by omega) (by omega) (by omega) dX6_findsIn_9 ⟨39, by decide⟩ ?_
      refine a_iloadn (pc := 12) C 2 rfl rfl dX6_findsIn_12 ?_
      refine a_aloadn (pc := 13) C 0 rfl rfl dX6_findsIn_13 ?_
      refine a_get (pc := 14) C fl_X6_38 0 rfl rfl dX6_findsIn_14 ?_
      refine a_bipush (pc := 17) (v := nI 7) C cb_7 dX6_findsIn_17 ?_
      refine a_iloadn (pc := 19) C 3 rfl rfl dX6_findsIn_19 ?_
      refine a_imul (pc := 20) (v := nI (7 * k)) C (pk_mul _ _) dX6_findsIn_20 ?_
      refine a_iald (pc := 21) C 10 rfl (by omega) (by decide) dX6_findsIn_21 ?_
      refine aw_st (st' := [.int (nI (fu k)), .int (nI (cnt (fun v => decide (fu v = u)) k))]) (by rw [hq k]) ?_
      refine a_iloadn (pc := 22) C 1 rfl rfl dX6_findsIn_22 ?_
      refine a_icn_ne (pc := 23) (tgt := 30) C (by omega) (by omega) (by decide) dX6_findsIn_23 (fun c1 => ?_) (fun c1 => ?_)
      · refine a_iconst (pc := 30) (v := nI 0) C ci_0 dX6_findsIn_30 ?_
        refine a_iadd (pc := 31) (v := nI ((cnt (fun v => decide (fu v = u)) k) + 0)) C (nI_add _ _) dX6_findsIn_31 ?_
        refine a_istoren (pc := 32) (L' := [(0, .ref (b 0)), (1, .int (nI u)), (2, .int (nI ((cnt (fun v => decide (fu v = u)) k) + 0))), (3, .int (nI k))]) C (by decide) rfl rfl dX6_findsIn_32 ?_
        refine a_iinc (pc := 33) (v := nI (k + 1)) (L' := [(0, .ref (b 0)), (1, .int (nI u)), (2, .int (nI ((cnt (fun v => decide (fu v = u)) k) + 0))), (3, .int (nI (k + 1)))]) C 3 rfl (nI_inc _) (by decide) rfl dX6_findsIn_33 ?_
        refine a_goto (pc := 36) (tgt := 4) C (by decide) dX6_findsIn_36 ?_
        refine aw_L (L' := [(0, .ref (b 0)), (1, .int (nI u)), (2, .int (nI (cnt (fun v => decide (fu v = u)) (k + 1)))), (3, .int (nI (k + 1)))]) (congrArg (fun zz9 => ([(0, .ref (b 0)), (1, .int (nI u)), (2, .int zz9), (3, .int (nI (k + 1)))] : List (Nat × Value))) (congrArg nI (by rw [cnt_n (decide_eq_false c1)]; rfl) : (nI ((cnt (fun v => decide (fu v = u)) k) + 0)) = (nI (cnt (fun v => decide (fu v = u)) (k + 1))))) ?_
        exact ih (k + 1) (by omega)
      · refine a_iconst (pc := 26) (v := nI 1) C ci_1 dX6_findsIn_26 ?_
        refine a_goto (pc := 27) (tgt := 31) C (by decide) dX6_findsIn_27 ?_
        refine a_iadd (pc := 31) (v := nI ((cnt (fun v => decide (fu v = u)) k) + 1)) C (nI_add _ _) dX6_findsIn_31 ?_
        refine a_istoren (pc := 32) (L' := [(0, .ref (b 0)), (1, .int (nI u)), (2, .int (nI ((cnt (fun v => decide (fu v = u)) k) + 1))), (3, .int (nI k))]) C (by decide) rfl rfl dX6_findsIn_32 ?_
        refine a_iinc (pc := 33) (v := nI (k + 1)) (L' := [(0, .ref (b 0)), (1, .int (nI u)), (2, .int (nI ((cnt (fun v => decide (fu v = u)) k) + 1))), (3, .int (nI (k + 1)))]) C 3 rfl (nI_inc _) (by decide) rfl dX6_findsIn_33 ?_
        refine a_goto (pc := 36) (tgt := 4) C (by decide) dX6_findsIn_36 ?_
        refine aw_L (L' := [(0, .ref (b 0)), (1, .int (nI u)), (2, .int (nI (cnt (fun v => decide (fu v = u)) (k + 1)))), (3, .int (nI (k + 1)))]) (congrArg (fun zz9 => ([(0, .ref (b 0)), (1, .int (nI u)), (2, .int zz9), (3, .int (nI (k + 1)))] : List (Nat × Value))) (congrArg nI (by rw [cnt_y (decide_eq_true c1)]) : (nI ((cnt (fun v => decide (fu v = u)) k) + 1)) = (nI (cnt (fun v => decide (fu v = u)) (k + 1))))) ?_
        exact ih (k + 1) (by omega)
  refine aw_L (L' := [(0, .ref (b 0)), (1, .int (nI u)), (2, .int (nI (cnt (fun v => decide (fu v = u)) 0))), (3, .int (nI 0))]) (congrArg (fun zz9 => ([(0, .ref (b 0)), (1, .int (nI u)), (2, .int zz9), (3, .int (nI 0))] : List (Nat × Value))) (rfl : (nI 0) = (nI (cnt (fun v => decide (fu v = u)) 0)))) ?_
  exact LP4 (fn) (0) (by omega)

set_option maxHeartbeats 4000000 in
set_option maxRecDepth 100000 in
theorem c_X6_counted (κ : aK) (b : Nat → Nat) {th : Int32} {un : Nat} {ss : Nat → Int32} {fi : Nat → Int32} {la : Nat → Int32} {da : Nat → Bool} {dg : Nat → Bool} {ps : Nat → Int32} {rn : Nat} {ks : Nat → Int32} {os : Nat → Nat} {ts : Nat → Nat} {fn : Nat} {fp : Nat → Int32} {bo : Nat → Nat} {eE : Nat → Nat → Bool} {lE : Nat → Nat → Bool} {li : Nat → Nat → Bool} {be : Nat → Int32} {ab : Nat → Int32} {X : va_W} {q : Nat} {fu : Nat → Nat} (hun : un ≤ 40) (hfn : fn ≤ 60) (hbo : ∀ u, bo u < 40) (hq : ∀ j, fp (7 * j) = nI (fu j)) (hfu : ∀ u, fu u < 40) (hqq : q < 9) : CM yX6_counted cX6_counted 2 (some .int) ({ frames := 4, cells := 0, slots := 0, locals := 92 } : Room) κ [.ref (b 0), .int (nI q)] (wM κ b th un ss fi la da dg ps rn ks os ts fn fp bo eE lE li be ab X) (aD (some (.int (cR un rn fn dg li be bo eE lE da fi la fu fp ps q))) (wM κ b th un ss fi la da dg ps rn ks os ts fn fp bo eE lE li be ab X)) := by
  refine cm_entry (own := RX6) (L := [(0, .ref (b 0)), (1, .int (nI q))]) (by decide +kernel) rfl (lv_entry [.ref (b 0), .int (nI q)] (n := 2) (Nat.le_of_ble_eq_true rfl)) (fun g C E => ?_)
  refine a_iloadn (pc := 0) C 1 rfl rfl dX6_counted_0 ?_
  rcases (show q = 0 ∨ q = 1 ∨ q = 2 ∨ q = 3 ∨ q = 4 ∨ q = 5 ∨ q = 6 ∨ q = 7 ∨ q = 8 by omega) with rfl | rfl | rfl | rfl | rfl | rfl | rfl | rfl | rfl
  · refine a_table (pc := 1) (tgt := 48) (off := 47) C (by decide +kernel) (by decide +kernel) (by decide +kernel) (by decide) dX6_counted_1 ?_
    refine a_aloadn (pc := 48) C 0 rfl rfl dX6_counted_48 ?_
    refine a_get (pc := 49) C fl_X6_64 0 rfl rfl dX6_counted_49 ?_
    exact a_iret (pc := 52) C E (Nat.le_of_ble_eq_true rfl) (Nat.le_of_ble_eq_true rfl) ⟨rfl, rfl⟩ dX6_counted_52
  · refine a_table (pc := 1) (tgt := 53) (off := 52) C (by decide +kernel) (by decide +kernel) (by decide +kernel) (by decide) dX6_counted_1 ?_
    refine a_aloadn (pc := 53) C 0 rfl rfl dX6_counted_53 ?_
    refine a_get (pc := 54) C fl_X6_71 0 rfl rfl dX6_counted_54 ?_
    exact a_iret (pc := 57) C E (Nat.le_of_ble_eq_true rfl) (Nat.le_of_ble_eq_true rfl) ⟨rfl, rfl⟩ dX6_counted_57
  · refine a_table (pc := 1) (tgt := 58) (off := 57) C (by decide +kernel) (by decide +kernel) (by decide +kernel) (by decide) dX6_counted_1 ?_
    refine a_aloadn (pc := 58) C 0 rfl rfl dX6_counted_58 ?_
    refine a_callV1 (pc := 59) (k' := 0) (n' := 0) C (c_X6_bodies κ b (by omega) (by assumption)) yv_X6_bodies ml_X6_143 wi_X6_bodies wl_X6_bodies 0 rfl rfl rfl rfl (Nat.le_of_ble_eq_true rfl) (Nat.le_of_ble_eq_true rfl) (Nat.le_of_ble_eq_true rfl) ⟨(Nat.le_of_ble_eq_true rfl), (Nat.le_of_ble_eq_true rfl)⟩ rfl rfl dX6_counted_59 ?_
    exact a_iret (pc := 62) C E (Nat.le_of_ble_eq_true rfl) (Nat.le_of_ble_eq_true rfl) ⟨rfl, rfl⟩ dX6_counted_62
  · refine a_table (pc := 1) (tgt := 63) (off := 62) C (by decide +kernel) (by decide +kernel) (by decide +kernel) (by decide) dX6_counted_1 ?_
    refine a_aloadn (pc := 63) C 0 rfl rfl dX6_counted_63 ?_
    refine a_callV1 (pc := 64) (k' := 0) (n' := 0) C (c_X6_links κ b (by omega)) yv_X6_links ml_X6_147 wi_X6_links wl_X6_links 0 rfl rfl rfl rfl (Nat.le_of_ble_eq_true rfl) (Nat.le_of_ble_eq_true rfl) (Nat.le_of_ble_eq_true rfl) ⟨(Nat.le_of_ble_eq_true rfl), (Nat.le_of_ble_eq_true rfl)⟩ rfl rfl dX6_counted_64 ?_
    exact a_iret (pc := 67) C E (Nat.le_of_ble_eq_true rfl) (Nat.le_of_ble_eq_true rfl) ⟨rfl, rfl⟩ dX6_counted_67
  · refine a_table (pc := 1) (tgt := 68) (off := 67) C (by decide +kernel) (by decide +kernel) (by decide +kernel) (by decide) dX6_counted_1 ?_
    refine a_aloadn (pc := 68) C 0 rfl rfl dX6_counted_68 ?_
    refine a_get (pc := 69) C fl_X6_120 0 rfl rfl dX6_counted_69 ?_
    exact a_iret (pc := 72) C E (Nat.le_of_ble_eq_true rfl) (Nat.le_of_ble_eq_true rfl) ⟨rfl, rfl⟩ dX6_counted_72
  · refine a_table (pc := 1) (tgt := 73) (off := 72) C (by decide +kernel) (by decide +kernel) (by decide +kernel) (by decide) dX6_counted_1 ?_
    refine a_aloadn (pc := 73) C 0 rfl rfl dX6_counted_73 ?_
    refine a_callV1 (pc := 74) (k' := 0) (n' := 0) C (c_X6_dug κ b (by omega)) yv_X6_dug ml_X6_150 wi_X6_dug wl_X6_dug 0 rfl rfl rfl rfl (Nat.le_of_ble_eq_true rfl) (Nat.le_of_ble_eq_true rfl) (Nat.le_of_ble_eq_true rfl) ⟨(Nat.le_of_ble_eq_true rfl), (Nat.le_of_ble_eq_true rfl)⟩ rfl rfl dX6_counted_74 ?_
    exact a_iret (pc := 77) C E (Nat.le_of_ble_eq_true rfl) (Nat.le_of_ble_eq_true rfl) ⟨rfl, rfl⟩ dX6_counted_77
  · refine a_table (pc := 1) (tgt := 78) (off := 77) C (by decide +kernel) (by decide +kernel) (by decide +kernel) (by decide) dX6_counted_1 ?_
    refine a_aloadn (pc := 78) C 0 rfl rfl dX6_counted_78 ?_
    refine a_callV1 (pc := 79) (k' := 0) (n' := 0) C (c_X6_doubts κ b (by omega) (by omega) (by assumption) (by assumption) (by assumption)) yv_X6_doubts ml_X6_153 wi_X6_doubts wl_X6_doubts 0 rfl rfl rfl rfl (Nat.le_of_ble_eq_true rfl) (Nat.le_of_ble_eq_true rfl) (Nat.le_of_ble_eq_true rfl) ⟨(Nat.le_of_ble_eq_true rfl), (Nat.le_of_ble_eq_true rfl)⟩ rfl rfl dX6_counted_79 ?_
    exact a_iret (pc := 82) C E (Nat.le_of_ble_eq_true rfl) (Nat.le_of_ble_eq_true rfl) ⟨rfl, rfl⟩ dX6_counted_82
  · refine a_table (pc := 1) (tgt := 83) (off := 82) C (by decide +kernel) (by decide +kernel) (by decide +kernel) (by decide) dX6_counted_1 ?_
    refine a_aloadn (pc := 83) C 0 rfl rfl dX6_counted_83 ?_
    refine a_callV1 (pc := 84) (k' := 0) (n' := 0) C (c_X6_levels κ b (by omega) (by assumption)) yv_X6_levels ml_X6_156 wi_X6_levels wl_X6_levels 0 rfl rfl rfl rfl (Nat.le_of_ble_eq_true rfl) (Nat.le_of_ble_eq_true rfl) (Nat.le_of_ble_eq_true rfl) ⟨(Nat.le_of_ble_eq_true rfl), (Nat.le_of_ble_eq_true rfl)⟩ rfl rfl dX6_counted_84 ?_
    exact a_iret (pc := 87) C E (Nat.le_of_ble_eq_true rfl) (Nat.le_of_ble_eq_true rfl) ⟨rfl, rfl⟩ dX6_counted_87
  · refine a_tableD (pc := 1) (tgt := 88) C (by decide +kernel) (by decide) dX6_counted_1 ?_
    refine a_aloadn (pc := 88) C 0 rfl rfl dX6_counted_88 ?_
    refine a_callV1 (pc := 89) (k' := 0) (n' := 0) C (c_X6_pairsOut κ b (by omega) (by assumption)) yv_X6_pairsOut ml_X6_159 wi_X6_pairsOut wl_X6_pairsOut 0 rfl rfl rfl rfl (Nat.le_of_ble_eq_true rfl) (Nat.le_of_ble_eq_true rfl) (Nat.le_of_ble_eq_true rfl) ⟨(Nat.le_of_ble_eq_true rfl), (Nat.le_of_ble_eq_true rfl)⟩ rfl rfl dX6_counted_89 ?_
    exact a_iret (pc := 92) C E (Nat.le_of_ble_eq_true rfl) (Nat.le_of_ble_eq_true rfl) ⟨rfl, rfl⟩ dX6_counted_92

set_option maxHeartbeats 4000000 in
set_option maxRecDepth 100000 in
theorem c_X6_relationTold (κ : aK) (b : Nat → Nat) {th : Int32} {un : Nat} {ss : Nat → Int32} {fi : Nat → Int32} {la : Nat → Int32} {da : Nat → Bool} {dg : Nat → Bool} {ps : Nat → Int32} {rn : Nat} {ks : Nat → Int32} {os : Nat → Nat} {ts : Nat → Nat} {fn : Nat} {fp : Nat → Int32} {bo : Nat → Nat} {eE : Nat → Nat → Bool} {lE : Nat → Nat → Bool} {li : Nat → Nat → Bool} {be : Nat → Int32} {ab : Nat → Int32} {X : va_W} {j : Nat} {q : Nat} (hrn : rn ≤ 80) (hj : j < rn) (hqq : q < 3) : CM yX6_relationTold cX6_relationTold 3 (some .int) ({ frames := 0, cells := 0, slots := 0, locals := 0 } : Room) κ [.ref (b 0), .int (nI j), .int (nI q)] (wM κ b th un ss fi la da dg ps rn ks os ts fn fp bo eE lE li be ab X) (aD (some (.int (rtR ks os ts j q))) (wM κ b th un ss fi la da dg ps rn ks os ts fn fp bo eE lE li be ab X)) := by
  refine cm_entry (own := RX6) (L := [(0, .ref (b 0)), (1, .int (nI j)), (2, .int (nI q))]) (by decide +kernel) rfl (lv_entry [.ref (b 0), .int (nI j), .int (nI q)] (n := 3) (Nat.le_of_ble_eq_true rfl)) (fun g C E => ?_)
  rcases (show q = 0 ∨ q = 1 ∨ q = 2 by omega) with rfl | rfl | rfl
  · refine a_iloadn (pc := 0) C 2 rfl rfl dX6_relationTold_0 ?_
    refine a_ifn_ne_n (pc := 1) C (by omega) rfl dX6_relationTold_1 ⟨13, by decide⟩ ?_
    refine a_aloadn (pc := 4) C 0 rfl rfl dX6_relationTold_4 ?_
    refine a_get (pc := 5) C fl_X6_29 0 rfl rfl dX6_relationTold_5 ?_
    refine a_iloadn (pc := 8) C 1 rfl rfl dX6_relationTold_8 ?_
    refine a_iald (pc := 9) C 7 rfl (by omega) (by decide) dX6_relationTold_9 ?_
    refine a_goto (pc := 10) (tgt := 33) C (by decide) dX6_relationTold_10 ?_
    exact a_iret (pc := 33) C E (Nat.le_of_ble_eq_true rfl) (Nat.le_of_ble_eq_true rfl) ⟨rfl, rfl⟩ dX6_relationTold_33
  · refine a_iloadn (pc := 0) C 2 rfl rfl dX6_relationTold_0 ?_
    refine a_ifn_ne_y (pc := 1) (tgt := 13) C (by omega) (by decide) (by decide) dX6_relationTold_1 ?_
    refine a_iloadn (pc := 13) C 2 rfl rfl dX6_relationTold_13 ?_
    refine a_iconst (pc := 14) (v := nI 1) C ci_1 dX6_relationTold_14 ?_
    refine a_icn_ne_n (pc := 15) C (by omega) (by omega) rfl dX6_relationTold_15 ⟨27, by decide⟩ ?_
    refine a_aloadn (pc := 18) C 0 rfl rfl dX6_relationTold_18 ?_
    refine a_get (pc := 19) C fl_X6_32 0 rfl rfl dX6_relationTold_19 ?_
    refine a_iloadn (pc := 22) C 1 rfl rfl dX6_relationTold_22 ?_
    refine a_ialdN (pc := 23) C 8 rfl (by omega) (by decide) dX6_relationTold_23 ?_
    refine a_goto (pc := 24) (tgt := 33) C (by decide) dX6_relationTold_24 ?_
    exact a_iret (pc := 33) C E (Nat.le_of_ble_eq_true rfl) (Nat.le_of_ble_eq_true rfl) ⟨rfl, rfl⟩ dX6_relationTold_33
  · refine a_iloadn (pc := 0) C 2 rfl rfl dX6_relationTold_0 ?_
    refine a_ifn_ne_y (pc := 1) (tgt := 13) C (by omega) (by decide) (by decide) dX6_relationTold_1 ?_
    refine a_iloadn (pc := 13) C 2 rfl rfl dX6_relationTold_13 ?_
    refine a_iconst (pc := 14) (v := nI 1) C ci_1 dX6_relationTold_14 ?_
    refine a_icn_ne_y (pc := 15) (tgt := 27) C (by omega) (by omega) (by decide) (by decide) dX6_relationTold_15 ?_
    refine a_aloadn (pc := 27) C 0 rfl rfl dX6_relationTold_27 ?_
    refine a_get (pc := 28) C fl_X6_35 0 rfl rfl dX6_relationTold_28 ?_
    refine a_iloadn (pc := 31) C 1 rfl rfl dX6_relationTold_31 ?_
    refine a_ialdN (pc := 32) C 9 rfl (by omega) (by decide) dX6_relationTold_32 ?_
    exact a_iret (pc := 33) C E (Nat.le_of_ble_eq_true rfl) (Nat.le_of_ble_eq_true rfl) ⟨rfl, rfl⟩ dX6_relationTold_33

set_option maxHeartbeats 4000000 in
set_option maxRecDepth 100000 in
theorem c_X6_isPlace (κ : aK) {X : va_W} {x : Int32} {y : Int32} {z : Int32} : CM yX6_isPlace cX6_isPlace 3 (some .boolean) ({ frames := 1, cells := 0, slots := 0, locals := 22 } : Room) κ [.int x, .int y, .int z] (X) (aD (some (.int (b2i ((xyB x && xyB y) && zB z)))) (X)) := by
  refine cm_entry (own := RX6) (L := [(0, .int x), (1, .int y), (2, .int z)]) (by decide +kernel) rfl (lv_entry [.int x, .int y, .int z] (n := 3) (Nat.le_of_ble_eq_true rfl)) (fun g C E => ?_)
  refine a_iloadn (pc := 0) C 0 rfl rfl dX6_isPlace_0 ?_
  refine a_iconst (pc := 1) (v := nI 0) C ci_0 dX6_isPlace_1 ?_
  refine a_sipush (pc := 2) (v := nI 5000) C cs_5000 dX6_isPlace_2 ?_
  refine a_callS1 (pc := 5) (k' := 0) (n' := 0) C (c_X6_isIn κ) yv_X6_isIn ml_X6_67 ws_X6_isIn rfl rfl (Nat.le_of_ble_eq_true rfl) (Nat.le_of_ble_eq_true rfl) (Nat.le_of_ble_eq_true rfl) ⟨(Nat.le_of_ble_eq_true rfl), (Nat.le_of_ble_eq_true rfl)⟩ rfl rfl dX6_isPlace_5 ?_
  refine a_ifb_eq (pc := 8) (tgt := 39) C (by decide) dX6_isPlace_8 (fun c1 => ?_) (fun c1 => ?_)
  · refine a_iconst (pc := 39) (v := nI 0) C ci_0 dX6_isPlace_39 ?_
    have hv : ((xyB x && xyB y) && zB z) = false := by rw [show xyB x = _ from c1]; simp
    rw [hv] at E
    exact a_zret (pc := 40) (b := false) C E (Nat.le_of_ble_eq_true rfl) (Nat.le_of_ble_eq_true rfl) (by decide +kernel) ⟨rfl, rfl⟩ dX6_isPlace_40
  · refine a_iloadn (pc := 11) C 1 rfl rfl dX6_isPlace_11 ?_
    refine a_iconst (pc := 12) (v := nI 0) C ci_0 dX6_isPlace_12 ?_
    refine a_sipush (pc := 13) (v := nI 5000) C cs_5000 dX6_isPlace_13 ?_
    refine a_callS1 (pc := 16) (k' := 0) (n' := 0) C (c_X6_isIn κ) yv_X6_isIn ml_X6_67 ws_X6_isIn rfl rfl (Nat.le_of_ble_eq_true rfl) (Nat.le_of_ble_eq_true rfl) (Nat.le_of_ble_eq_true rfl) ⟨(Nat.le_of_ble_eq_true rfl), (Nat.le_of_ble_eq_true rfl)⟩ rfl rfl dX6_isPlace_16 ?_
    refine a_ifb_eq (pc := 19) (tgt := 39) C (by decide) dX6_isPlace_19 (fun c2 => ?_) (fun c2 => ?_)
    · refine a_iconst (pc := 39) (v := nI 0) C ci_0 dX6_isPlace_39 ?_
      have hv : ((xyB x && xyB y) && zB z) = false := by rw [show xyB x = _ from c1, show xyB y = _ from c2]; simp
      rw [hv] at E
      exact a_zret (pc := 40) (b := false) C E (Nat.le_of_ble_eq_true rfl) (Nat.le_of_ble_eq_true rfl) (by decide +kernel) ⟨rfl, rfl⟩ dX6_isPlace_40
    · refine a_iloadn (pc := 22) C 2 rfl rfl dX6_isPlace_22 ?_
      refine a_sipush (pc := 23) (v := (-1000 : Int32)) C cs_m1000 dX6_isPlace_23 ?_
      refine a_sipush (pc := 26) (v := nI 1000) C cs_1000 dX6_isPlace_26 ?_
      refine a_callS1 (pc := 29) (k' := 0) (n' := 0) C (c_X6_isIn κ) yv_X6_isIn ml_X6_67 ws_X6_isIn rfl rfl (Nat.le_of_ble_eq_true rfl) (Nat.le_of_ble_eq_true rfl) (Nat.le_of_ble_eq_true rfl) ⟨(Nat.le_of_ble_eq_true rfl), (Nat.le_of_ble_eq_true rfl)⟩ rfl rfl dX6_isPlace_29 ?_
      refine a_ifb_eq (pc := 32) (tgt := 39) C (by decide) dX6_isPlace_32 (fun c3 => ?_) (fun c3 => ?_)
      · refine a_iconst (pc := 39) (v := nI 0) C ci_0 dX6_isPlace_39 ?_
        have hv : ((xyB x && xyB y) && zB z) = false := by rw [show xyB x = _ from c1, show xyB y = _ from c2, show zB z = _ from c3]; simp
        rw [hv] at E
        exact a_zret (pc := 40) (b := false) C E (Nat.le_of_ble_eq_true rfl) (Nat.le_of_ble_eq_true rfl) (by decide +kernel) ⟨rfl, rfl⟩ dX6_isPlace_40
      · refine a_iconst (pc := 35) (v := nI 1) C ci_1 dX6_isPlace_35 ?_
        refine a_goto (pc := 36) (tgt := 40) C (by decide) dX6_isPlace_36 ?_
        have hv : ((xyB x && xyB y) && zB z) = true := by rw [show xyB x = _ from c1, show xyB y = _ from c2, show zB z = _ from c3]; rfl
        rw [hv] at E
        exact a_zret (pc := 40) (b := true) C E (Nat.le_of_ble_eq_true rfl) (Nat.le_of_ble_eq_true rfl) (by decide +kernel) ⟨rfl, rfl⟩ dX6_isPlace_40

set_option maxHeartbeats 4000000 in
set_option maxRecDepth 100000 in
theorem c_X6_canDig (κ : aK) (b : Nat → Nat) {th : Int32} {un : Nat} {ss : Nat → Int32} {fi : Nat → Int32} {la : Nat → Int32} {da : Nat → Bool} {dg : Nat → Bool} {ps : Nat → Int32} {rn : Nat} {ks : Nat → Int32} {os : Nat → Nat} {ts : Nat → Nat} {fn : Nat} {fp : Nat → Int32} {bo : Nat → Nat} {eE : Nat → Nat → Bool} {lE : Nat → Nat → Bool} {li : Nat → Nat → Bool} {be : Nat → Int32} {ab : Nat → Int32} {X : va_W} {u : Nat} (hun : un ≤ 40) (hbo : ∀ u, bo u < 40) (hu : u < 40) : CM yX6_canDig cX6_canDig 3 (some .boolean) ({ frames := 1, cells := 0, slots := 0, locals := 22 } : Room) κ [.ref (b 0), .int (nI u)] (wM κ b th un ss fi la da dg ps rn ks os ts fn fp bo eE lE li be ab X) (aD (some (.int (b2i (cgB un bo lE dg u)))) (wM κ b th un ss fi la da dg ps rn ks os ts fn fp bo eE lE li be ab X)) := by
  refine cm_entry (own := RX6) (L := [(0, .ref (b 0)), (1, .int (nI u))]) (by decide +kernel) rfl (lv_entry [.ref (b 0), .int (nI u)] (n := 3) (Nat.le_of_ble_eq_true rfl)) (fun g C E => ?_)
  have hbu := hbo u
  refine a_aloadn (pc := 0) C 0 rfl rfl dX6_canDig_0 ?_
  refine a_get (pc := 1) C fl_X6_23 0 rfl rfl dX6_canDig_1 ?_
  refine a_iloadn (pc := 4) C 1 rfl rfl dX6_canDig_4 ?_
  refine a_zaldZ (pc := 5) C 5 rfl (by omega) (by decide) dX6_canDig_5 ?_
  refine a_ifb_eq (pc := 6) (tgt := 11) C (by decide) dX6_canDig_6 (fun c1 => ?_) (fun c1 => ?_)
  · refine a_iconst (pc := 11) (v := nI 0) C ci_0 dX6_canDig_11 ?_
    refine a_istoren (pc := 12) (L' := [(0, .ref (b 0)), (1, .int (nI u)), (2, .int (nI 0))]) C (by decide) rfl rfl dX6_canDig_12 ?_
    have LP13 : ∀ (jz k : Nat), k + jz = un → (anyB (fun v => lE (bo u) (bo v) && !(dg v)) k = false) → aw g κ 3 13 [(0, .ref (b 0)), (1, .int (nI u)), (2, .int (nI k))] [] (wM κ b th un ss fi la da dg ps rn ks os ts fn fp bo eE lE li be ab X) 0 0 := by
      intro jz
      induction jz with
      | zero =>
        intro k hk_k hno
        obtain rfl : un = k := by omega
        refine a_iloadn (pc := 13) C 2 rfl rfl dX6_canDig_13 ?_
        refine a_aloadn (pc := 14) C 0 rfl rfl dX6_canDig_14 ?_
        refine a_get (pc := 15) C fl_X6_64 0 rfl rfl dX6_canDig_15 ?_
        refine a_icn_ge_y (pc := 18) (tgt := 61) C (by omega) (by omega) (by omega) (by decide) dX6_canDig_18 ?_
        refine a_iconst (pc := 61) (v := nI 1) C ci_1 dX6_canDig_61 ?_
        exact a_zret (pc := 62) (b := true) C E (Nat.le_of_ble_eq_true rfl) (Nat.le_of_ble_eq_true rfl) (by decide +kernel) ⟨by rw [cgB, c1, hno]; rfl, rfl⟩ dX6_canDig_62
      | succ jz ih =>
        intro k hk_k hno
        have hlt_k : k < un := by omega
        have hbk := hbo k
        refine a_iloadn (pc := 13) C 2 rfl rfl dX6_canDig_13 ?_
        refine a_aloadn (pc := 14) C 0 rfl rfl dX6_canDig_14 ?_
        refine a_get (pc := 15) C fl_X6_64 0 rfl rfl dX6_canDig_15 ?_
        refine a_icn_ge_n (pc := 18) C (by omega) (by omega) (by omega) dX6_canDig_18 ⟨61, by decide⟩ ?_
        refine a_aloadn (pc := 21) C 0 rfl rfl dX6_canDig_21 ?_
        refine a_get (pc := 22) C fl_X6_48 0 rfl rfl dX6_canDig_22 ?_
        refine a_aloadn (pc := 25) C 0 rfl rfl dX6_canDig_25 ?_
        refine a_get (pc := 26) C fl_X6_41 0 rfl rfl dX6_canDig_26 ?_
        refine a_iloadn (pc := 29) C 1 rfl rfl dX6_canDig_29 ?_
        refine a_ialdN (pc := 30) C 11 rfl (by omega) (by decide) dX6_canDig_30 ?_
        refine a_laldS (pc := 31) C 13 rfl (hbo _) (by decide) dX6_canDig_31 ?_
        refine a_aloadn (pc := 32) C 0 rfl rfl dX6_canDig_32 ?_
        refine a_get (pc := 33) C fl_X6_41 0 rfl rfl dX6_canDig_33 ?_
        refine a_iloadn (pc := 36) C 2 rfl rfl dX6_canDig_36 ?_
        refine a_ialdN (pc := 37) C 11 rfl (by omega) (by decide) dX6_canDig_37 ?_
        refine a_callS1 (pc := 38) (k' := 0) (n' := 0) C (c_X6_has κ (Nat.lt_trans (hbo _) (by decide))) yv_X6_has ml_X6_83 ws_X6_has rfl rfl (Nat.le_of_ble_eq_true rfl) (Nat.le_of_ble_eq_true rfl) (Nat.le_of_ble_eq_true rfl) ⟨(Nat.le_of_ble_eq_true rfl), (Nat.le_of_ble_eq_true rfl)⟩ rfl rfl dX6_canDig_38 ?_
        refine a_ifb_eq (pc := 41) (tgt := 55) C (by decide) dX6_canDig_41 (fun c2 => ?_) (fun c2 => ?_)
        · refine a_iinc (pc := 55) (v := nI (k + 1)) (L' := [(0, .ref (b 0)), (1, .int (nI u)), (2, .int (nI (k + 1)))]) C 2 rfl (nI_inc _) (by decide) rfl dX6_canDig_55 ?_
          refine a_goto (pc := 58) (tgt := 13) C (by decide) dX6_canDig_58 ?_
          exact ih (k + 1) (by omega) (anyB_mis hno (and_ff c2))
        · refine a_aloadn (pc := 44) C 0 rfl rfl dX6_canDig_44 ?_
          refine a_get (pc := 45) C fl_X6_23 0 rfl rfl dX6_canDig_45 ?_
          refine a_iloadn (pc := 48) C 2 rfl rfl dX6_canDig_48 ?_
          refine a_zaldZ (pc := 49) C 5 rfl (by omega) (by decide) dX6_canDig_49 ?_
          refine a_ifb_ne (pc := 50) (tgt := 55) C (by decide) dX6_canDig_50 (fun c3 => ?_) (fun c3 => ?_)
          · refine a_iinc (pc := 55) (v := nI (k + 1)) (L' := [(0, .ref (b 0)), (1, .int (nI u)), (2, .int (nI (k + 1)))]) C 2 rfl (nI_inc _) (by decide) rfl dX6_canDig_55 ?_
            refine a_goto (pc := 58) (tgt := 13) C (by decide) dX6_canDig_58 ?_
            exact ih (k + 1) (by omega) (anyB_mis hno (and_tf c2 (by rw [c3]; rfl)))
          · refine a_iconst (pc := 53) (v := nI 0) C ci_0 dX6_canDig_53 ?_
            exact a_zret (pc := 54) (b := false) C E (Nat.le_of_ble_eq_true rfl) (Nat.le_of_ble_eq_true rfl) (by decide +kernel) ⟨by rw [cgB, anyB_hit (p := (fun v => lE (bo u) (bo v) && !(dg v))) hlt_k (and_tt c2 (by rw [c3]; rfl)), Bool.not_true, Bool.and_false], rfl⟩ dX6_canDig_54
    exact LP13 (un) (0) (by omega) rfl
  · refine a_iconst (pc := 9) (v := nI 0) C ci_0 dX6_canDig_9 ?_
    exact a_zret (pc := 10) (b := false) C E (Nat.le_of_ble_eq_true rfl) (Nat.le_of_ble_eq_true rfl) (by decide +kernel) ⟨by rw [cgB, c1]; rfl, rfl⟩ dX6_canDig_10
