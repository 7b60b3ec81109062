set_option maxHeartbeats 4000000 in
set_option maxRecDepth 100000 in
theorem c_X6_digest (κ : aK) (b : Nat → Nat) {th : Int32} {un : Nat} {ss : Nat → Int32} {fi : Nat → Int32} {la : Nat → Int32} {da : Nat → Bool} {dg : Nat → Bool} {ps : Nat → Int32} {rn : Nat} {ks : Nat → Int32} {os : Nat → Nat} {ts : Nat → Nat} {fn : Nat} {fp : Nat → Int32} {bo : Nat → Nat} {eE : Nat → Nat → Bool} {lE : Nat → Nat → Bool} {li : Nat → Nat → Bool} {be : Nat → Int32} {ab : Nat → Int32} {X : va_W} {fu : Nat → Nat} (hun : un ≤ 40) (hrn : rn ≤ 80) (hfn : fn ≤ 60) (hbo : ∀ u, bo u < 40) (hq : ∀ j, fp (7 * j) = nI (fu j)) (hfu : ∀ u, fu u < 40) : CM yX6_digest cX6_digest 5 (some .long) ({ frames := 5, cells := 400, slots := 4000, locals := 113 } : Room) κ [.ref (b 0)] (wM κ b th un ss fi la da dg ps rn ks os ts fn fp bo eE lE li be ab X) (aD (some (.long (dgN (fR bo eE lE da fi la un fu fp fn) 8 (dgN (rtR ks os ts) 3 (dgU (uR ss be ab bo eE lE dg ps un fu fn) (yLo bo eE da fi un fu fp fn) (yUp bo lE da la un) (dgS (cR un rn fn dg li be bo eE lE da fi la fu fp ps) 431 9) un) rn) fn))) (wM κ b (nI 0) un ss fi la da dg ps rn ks os ts fn fp bo eE lE li be ab X)) := by
  refine cm_entry (own := RX6) (L := [(0, .ref (b 0))]) (by decide +kernel) rfl (lv_entry [.ref (b 0)] (n := 5) (Nat.le_of_ble_eq_true rfl)) (fun g C E => ?_)
  refine a_aloadn (pc := 0) C 0 rfl rfl dX6_digest_0 ?_
  refine a_iconst (pc := 1) (v := nI 0) C ci_0 dX6_digest_1 ?_
  refine a_put (pc := 2) (ws' := wM κ b (nI 0) un ss fi la da dg ps rn ks os ts fn fp bo eE lE li be ab X) C fl_X6_60 fp_X6_0 0 rfl rfl rfl (Nat.le_of_ble_eq_true rfl) rfl dX6_digest_2 ?_
  refine a_ldc2 (pc := 5) C kl_X6_196 dX6_digest_5 ?_
  refine a_lstoren (pc := 8) (L' := [(0, .ref (b 0)), (1, .long (431))]) C (by decide) rfl rfl dX6_digest_8 ?_
  refine a_iconst (pc := 9) (v := nI 0) C ci_0 dX6_digest_9 ?_
  refine a_istoren (pc := 10) (L' := [(0, .ref (b 0)), (1, .long (431)), (3, .int (nI 0))]) C (by decide) rfl rfl dX6_digest_10 ?_
  have LP11 : ∀ (jz k : Nat), k + jz = 9 → aw g κ 5 11 [(0, .ref (b 0)), (1, .long (dgS (cR un rn fn dg li be bo eE lE da fi la fu fp ps) 431 k)), (3, .int (nI k))] [] (wM κ b (nI 0) un ss fi la da dg ps rn ks os ts fn fp bo eE lE li be ab X) 0 0 := by
    intro jz
    induction jz with
    | zero =>
      intro k hk_k
      obtain rfl : 9 = k := by omega
      refine a_iloadn (pc := 11) C 2 rfl rfl dX6_digest_11 ?_
      refine a_bipush (pc := 12) (v := nI 9) C cb_9 dX6_digest_12 ?_
      refine a_icn_ge_y (pc := 14) (tgt := 36) C (by omega) (by omega) (by omega) (by decide) dX6_digest_14 ?_
      refine a_iconst (pc := 36) (v := nI 0) C ci_0 dX6_digest_36 ?_
      refine a_istoren (pc := 37) (L' := [(0, .ref (b 0)), (1, .long (dgS (cR un rn fn dg li be bo eE lE da fi la fu fp ps) 431 9)), (3, .int (nI 0))]) C (by decide) rfl rfl dX6_digest_37 ?_
      have LP38 : ∀ (jz k : Nat), k + jz = un → aw g κ 5 38 [(0, .ref (b 0)), (1, .long (dgU (uR ss be ab bo eE lE dg ps un fu fn) (yLo bo eE da fi un fu fp fn) (yUp bo lE da la un) (dgS (cR un rn fn dg li be bo eE lE da fi la fu fp ps) 431 9) k)), (3, .int (nI k))] [] (wM κ b (nI 0) un ss fi la da dg ps rn ks os ts fn fp bo eE lE li be ab X) (10 * k) (100 * k) := by
        intro jz
        induction jz with
        | zero =>
          intro k hk_k
          obtain rfl : un = k := by omega
          refine a_iloadn (pc := 38) C 2 rfl rfl dX6_digest_38 ?_
          refine a_aloadn (pc := 39) C 0 rfl rfl dX6_digest_39 ?_
          refine a_get (pc := 40) C fl_X6_64 0 rfl rfl dX6_digest_40 ?_
          refine a_icn_ge_y (pc := 43) (tgt := 109) C (by omega) (by omega) (by omega) (by decide) dX6_digest_43 ?_
          refine a_iconst (pc := 109) (v := nI 0) C ci_0 dX6_digest_109 ?_
          refine a_istoren (pc := 110) (L' := [(0, .ref (b 0)), (1, .long (dgU (uR ss be ab bo eE lE dg ps un fu fn) (yLo bo eE da fi un fu fp fn) (yUp bo lE da la un) (dgS (cR un rn fn dg li be bo eE lE da fi la fu fp ps) 431 9) un)), (3, .int (nI 0))]) C (by decide) rfl rfl dX6_digest_110 ?_
          have LP111 : ∀ (jz k : Nat), k + jz = rn → aw g κ 5 111 [(0, .ref (b 0)), (1, .long (dgN (rtR ks os ts) 3 (dgU (uR ss be ab bo eE lE dg ps un fu fn) (yLo bo eE da fi un fu fp fn) (yUp bo lE da la un) (dgS (cR un rn fn dg li be bo eE lE da fi la fu fp ps) 431 9) un) k)), (3, .int (nI k))] [] (wM κ b (nI 0) un ss fi la da dg ps rn ks os ts fn fp bo eE lE li be ab X) (10 * un) (100 * un) := by
            intro jz
            induction jz with
            | zero =>
              intro k hk_k
              obtain rfl : rn = k := by omega
              refine a_iloadn (pc := 111) C 2 rfl rfl dX6_digest_111 ?_
              refine a_aloadn (pc := 112) C 0 rfl rfl dX6_digest_112 ?_
              refine a_get (pc := 113) C fl_X6_71 0 rfl rfl dX6_digest_113 ?_
              refine a_icn_ge_y (pc := 116) (tgt := 155) C (by omega) (by omega) (by omega) (by decide) dX6_digest_116 ?_
              refine a_iconst (pc := 155) (v := nI 0) C ci_0 dX6_digest_155 ?_
              refine a_istoren (pc := 156) (L' := [(0, .ref (b 0)), (1, .long (dgN (rtR ks os ts) 3 (dgU (uR ss be ab bo eE lE dg ps un fu fn) (yLo bo eE da fi un fu fp fn) (yUp bo lE da la un) (dgS (cR un rn fn dg li be bo eE lE da fi la fu fp ps) 431 9) un) rn)), (3, .int (nI 0))]) C (by decide) rfl rfl dX6_digest_156 ?_
              have LP157 : ∀ (jz k : Nat), k + jz = fn → aw g κ 5 157 [(0, .ref (b 0)), (1, .long (dgN (fR bo eE lE da fi la un fu fp fn) 8 (dgN (rtR ks os ts) 3 (dgU (uR ss be ab bo eE lE dg ps un fu fn) (yLo bo eE da fi un fu fp fn) (yUp bo lE da la un) (dgS (cR un rn fn dg li be bo eE lE da fi la fu fp ps) 431 9) un) rn) k)), (3, .int (nI k))] [] (wM κ b (nI 0) un ss fi la da dg ps rn ks os ts fn fp bo eE lE li be ab X) (10 * un) (100 * un) := by
                intro jz
                induction jz with
                | zero =>
                  intro k hk_k
                  obtain rfl : fn = k := by omega
                  refine a_iloadn (pc := 157) C 2 rfl rfl dX6_digest_157 ?_
                  refine a_aloadn (pc := 158) C 0 rfl rfl dX6_digest_158 ?_
                  refine a_get (pc := 159) C fl_X6_120 0 rfl rfl dX6_digest_159 ?_
                  refine a_icn_ge_y (pc := 162) (tgt := 202) C (by omega) (by omega) (by omega) (by decide) dX6_digest_162 ?_
                  refine a_lloadn (pc := 202) C 1 rfl rfl dX6_digest_202 ?_
                  exact a_lret (pc := 203) C E (by show 10 * un ≤ 400; omega) (by show 100 * un ≤ 4000; omega) ⟨rfl, rfl⟩ dX6_digest_203
                | succ jz ih =>
                  intro k hk_k
                  have hlt_k : k < fn := by omega
                  refine a_iloadn (pc := 157) C 2 rfl rfl dX6_digest_157 ?_
                  refine a_aloadn (pc := 158) C 0 rfl rfl dX6_digest_158 ?_
                  refine a_get (pc := 159) C fl_X6_120 0 rfl rfl dX6_digest_159 ?_
                  refine a_icn_ge_n (pc := 162) C (by omega) (by omega) (by omega) dX6_digest_162 ⟨202, by decide⟩ ?_
                  refine a_iconst (pc := 165) (v := nI 0) C ci_0 dX6_digest_165 ?_
                  refine a_istore (pc := 166) (L' := [(0, .ref (b 0)), (1, .long (dgN (fR bo eE lE da fi la un fu fp fn) 8 (dgN (rtR ks os ts) 3 (dgU (uR ss be ab bo eE lE dg ps un fu fn) (yLo bo eE da fi un fu fp fn) (yUp bo lE da la un) (dgS (cR un rn fn dg li be bo eE lE da fi la fu fp ps) 431 9) un) rn) k)), (3, .int (nI k)), (4, .int (nI 0))]) C (by decide) rfl dX6_digest_166 ?_
                  have LP168 : ∀ (jz i : Nat), i + jz = 8 → aw g κ 5 168 [(0, .ref (b 0)), (1, .long (dgS (fR bo eE lE da fi la un fu fp fn k) (dgN (fR bo eE lE da fi la un fu fp fn) 8 (dgN (rtR ks os ts) 3 (dgU (uR ss be ab bo eE lE dg ps un fu fn) (yLo bo eE da fi un fu fp fn) (yUp bo lE da la un) (dgS (cR un rn fn dg li be bo eE lE da fi la fu fp ps) 431 9) un) rn) k) i)), (3, .int (nI k)), (4, .int (nI i))] [] (wM κ b (nI 0) un ss fi la da dg ps rn ks os ts fn fp bo eE lE li be ab X) (10 * un) (100 * un) := by
                    intro jz
                    induction jz with
                    | zero =>
                      intro i hk_i
                      obtain rfl : 8 = i := by omega
                      refine a_iload (pc := 168) C 3 rfl dX6_digest_168 ?_
                      refine a_bipush (pc := 170) (v := nI 8) C cb_8 dX6_digest_170 ?_
                      refine a_icn_ge_y (pc := 172) (tgt := 196) C (by omega) (by omega) (by omega) (by decide) dX6_digest_172 ?_
                      refine a_iinc (pc := 196) (v := nI (k + 1)) (L' := [(0, .ref (b 0)), (1, .long (dgS (fR bo eE lE da fi la un fu fp fn k) (dgN (fR bo eE lE da fi la un fu fp fn) 8 (dgN (rtR ks os ts) 3 (dgU (uR ss be ab bo eE lE dg ps un fu fn) (yLo bo eE da fi un fu fp fn) (yUp bo lE da la un) (dgS (cR un rn fn dg li be bo eE lE da fi la fu fp ps) 431 9) un) rn) k) 8)), (3, .int (nI (k + 1))), (4, .int (nI 8))]) C 2 rfl (nI_inc _) (by decide) rfl dX6_digest_196 ?_
                      refine a_goto (pc := 199) (tgt := 157) C (by decide) dX6_digest_199 ?_
                      refine aw_locals (L' := [(0, .ref (b 0)), (1, .long (dgS (fR bo eE lE da fi la un fu fp fn k) (dgN (fR bo eE lE da fi la un fu fp fn) 8 (dgN (rtR ks os ts) 3 (dgU (uR ss be ab bo eE lE dg ps un fu fn) (yLo bo eE da fi un fu fp fn) (yUp bo lE da la un) (dgS (cR un rn fn dg li be bo eE lE da fi la fu fp ps) 431 9) un) rn) k) 8)), (3, .int (nI (k + 1)))]) [0, 1, 2] rfl ?_
                      refine aw_L (L' := [(0, .ref (b 0)), (1, .long (dgN (fR bo eE lE da fi la un fu fp fn) 8 (dgN (rtR ks os ts) 3 (dgU (uR ss be ab bo eE lE dg ps un fu fn) (yLo bo eE da fi un fu fp fn) (yUp bo lE da la un) (dgS (cR un rn fn dg li be bo eE lE da fi la fu fp ps) 431 9) un) rn) (k + 1))), (3, .int (nI (k + 1)))]) (congrArg (fun zz9 => ([(0, .ref (b 0)), (1, .long zz9), (3, .int (nI (k + 1)))] : List (Nat × Value))) (rfl : (dgS (fR bo eE lE da fi la un fu fp fn k) (dgN (fR bo eE lE da fi la un fu fp fn) 8 (dgN (rtR ks os ts) 3 (dgU (uR ss be ab bo eE lE dg ps un fu fn) (yLo bo eE da fi un fu fp fn) (yUp bo lE da la un) (dgS (cR un rn fn dg li be bo eE lE da fi la fu fp ps) 431 9) un) rn) k) 8) = (dgN (fR bo eE lE da fi la un fu fp fn) 8 (dgN (rtR ks os ts) 3 (dgU (uR ss be ab bo eE lE dg ps un fu fn) (yLo bo eE da fi un fu fp fn) (yUp bo lE da la un) (dgS (cR un rn fn dg li be bo eE lE da fi la fu fp ps) 431 9) un) rn) (k + 1)))) ?_
                      exact ih (k + 1) (by omega)
                    | succ jz ih =>
                      intro i hk_i
                      have hlt_i : i < 8 := by omega
                      refine a_iload (pc := 168) C 3 rfl dX6_digest_168 ?_
                      refine a_bipush (pc := 170) (v := nI 8) C cb_8 dX6_digest_170 ?_
                      refine a_icn_ge_n (pc := 172) C (by omega) (by omega) (by omega) dX6_digest_172 ⟨196, by decide⟩ ?_
                      refine a_lloadn (pc := 175) C 1 rfl rfl dX6_digest_175 ?_
                      refine a_ldc2 (pc := 176) C kl_X6_198 dX6_digest_176 ?_
                      refine a_lmul (pc := 179) (v := (dgS (fR bo eE lE da fi la un fu fp fn k) (dgN (fR bo eE lE da fi la un fu fp fn) 8 (dgN (rtR ks os ts) 3 (dgU (uR ss be ab bo eE lE dg ps un fu fn) (yLo bo eE da fi un fu fp fn) (yUp bo lE da la un) (dgS (cR un rn fn dg li be bo eE lE da fi la fu fp ps) 431 9) un) rn) k) i) * (31)) C rfl dX6_digest_179 ?_
                      refine a_aloadn (pc := 180) C 0 rfl rfl dX6_digest_180 ?_
                      refine a_iloadn (pc := 181) C 2 rfl rfl dX6_digest_181 ?_
                      refine a_iload (pc := 182) C 3 rfl dX6_digest_182 ?_
                      refine a_callV1 (pc := 184) (k' := 10 * un + 0) (n' := 100 * un + 0) C (c_X6_findTold κ b (by omega) (by omega) hbo (by assumption) hfu (by omega) (by omega)) yv_X6_findTold ml_X6_190 wi_X6_findTold wl_X6_findTold 0 rfl rfl rfl rfl (Nat.le_of_ble_eq_true rfl) (Nat.le_of_ble_eq_true rfl) (Nat.le_of_ble_eq_true rfl) ⟨by show 10 * un + 0 ≤ 400; omega, by show 100 * un + 0 ≤ 4000; omega⟩ rfl rfl dX6_digest_184 ?_
                      refine a_i2l (pc := 187) (v := (fR bo eE lE da fi la un fu fp fn k i).toInt64) C rfl dX6_digest_187 ?_
                      refine a_ladd (pc := 188) (v := ((dgS (fR bo eE lE da fi la un fu fp fn k) (dgN (fR bo eE lE da fi la un fu fp fn) 8 (dgN (rtR ks os ts) 3 (dgU (uR ss be ab bo eE lE dg ps un fu fn) (yLo bo eE da fi un fu fp fn) (yUp bo lE da la un) (dgS (cR un rn fn dg li be bo eE lE da fi la fu fp ps) 431 9) un) rn) k) i) * (31)) + ((fR bo eE lE da fi la un fu fp fn k i).toInt64)) C rfl dX6_digest_188 ?_
                      refine a_lstoren (pc := 189) (L' := [(0, .ref (b 0)), (1, .long (((dgS (fR bo eE lE da fi la un fu fp fn k) (dgN (fR bo eE lE da fi la un fu fp fn) 8 (dgN (rtR ks os ts) 3 (dgU (uR ss be ab bo eE lE dg ps un fu fn) (yLo bo eE da fi un fu fp fn) (yUp bo lE da la un) (dgS (cR un rn fn dg li be bo eE lE da fi la fu fp ps) 431 9) un) rn) k) i) * (31)) + ((fR bo eE lE da fi la un fu fp fn k i).toInt64))), (3, .int (nI k)), (4, .int (nI i))]) C (by decide) rfl rfl dX6_digest_189 ?_
                      refine a_iinc (pc := 190) (v := nI (i + 1)) (L' := [(0, .ref (b 0)), (1, .long (((dgS (fR bo eE lE da fi la un fu fp fn k) (dgN (fR bo eE lE da fi la un fu fp fn) 8 (dgN (rtR ks os ts) 3 (dgU (uR ss be ab bo eE lE dg ps un fu fn) (yLo bo eE da fi un fu fp fn) (yUp bo lE da la un) (dgS (cR un rn fn dg li be bo eE lE da fi la fu fp ps) 431 9) un) rn) k) i) * (31)) + ((fR bo eE lE da fi la un fu fp fn k i).toInt64))), (3, .int (nI k)), (4, .int (nI (i + 1)))]) C 3 rfl (nI_inc _) (by decide) rfl dX6_digest_190 ?_
                      refine a_goto (pc := 193) (tgt := 168) C (by decide) dX6_digest_193 ?_
                      refine aw_L (L' := [(0, .ref (b 0)), (1, .long (dgS (fR bo eE lE da fi la un fu fp fn k) (dgN (fR bo eE lE da fi la un fu fp fn) 8 (dgN (rtR ks os ts) 3 (dgU (uR ss be ab bo eE lE dg ps un fu fn) (yLo bo eE da fi un fu fp fn) (yUp bo lE da la un) (dgS (cR un rn fn dg li be bo eE lE da fi la fu fp ps) 431 9) un) rn) k) (i + 1))), (3, .int (nI k)), (4, .int (nI (i + 1)))]) (congrArg (fun zz9 => ([(0, .ref (b 0)), (1, .long zz9), (3, .int (nI k)), (4, .int (nI (i + 1)))] : List (Nat × Value))) (rfl : (((dgS (fR bo eE lE da fi la un fu fp fn k) (dgN (fR bo eE lE da fi la un fu fp fn) 8 (dgN (rtR ks os ts) 3 (dgU (uR ss be ab bo eE lE dg ps un fu fn) (yLo bo eE da fi un fu fp fn) (yUp bo lE da la un) (dgS (cR un rn fn dg li be bo eE lE da fi la fu fp ps) 431 9) un) rn) k) i) * (31)) + ((fR bo eE lE da fi la un fu fp fn k i).toInt64)) = (dgS (fR bo eE lE da fi la un fu fp fn k) (dgN (fR bo eE lE da fi la un fu fp fn) 8 (dgN (rtR ks os ts) 3 (dgU (uR ss be ab bo eE lE dg ps un fu fn) (yLo bo eE da fi un fu fp fn) (yUp bo lE da la un) (dgS (cR un rn fn dg li be bo eE lE da fi la fu fp ps) 431 9) un) rn) k) (i + 1)))) ?_
                      exact ih (i + 1) (by omega)
                  refine aw_L (L' := [(0, .ref (b 0)), (1, .long (dgS (fR bo eE lE da fi la un fu fp fn k) (dgN (fR bo eE lE da fi la un fu fp fn) 8 (dgN (rtR ks os ts) 3 (dgU (uR ss be ab bo eE lE dg ps un fu fn) (yLo bo eE da fi un fu fp fn) (yUp bo lE da la un) (dgS (cR un rn fn dg li be bo eE lE da fi la fu fp ps) 431 9) un) rn) k) 0)), (3, .int (nI k)), (4, .int (nI 0))]) (congrArg (fun zz9 => ([(0, .ref (b 0)), (1, .long zz9), (3, .int (nI k)), (4, .int (nI 0))] : List (Nat × Value))) (rfl : (dgN (fR bo eE lE da fi la un fu fp fn) 8 (dgN (rtR ks os ts) 3 (dgU (uR ss be ab bo eE lE dg ps un fu fn) (yLo bo eE da fi un fu fp fn) (yUp bo lE da la un) (dgS (cR un rn fn dg li be bo eE lE da fi la fu fp ps) 431 9) un) rn) k) = (dgS (fR bo eE lE da fi la un fu fp fn k) (dgN (fR bo eE lE da fi la un fu fp fn) 8 (dgN (rtR ks os ts) 3 (dgU (uR ss be ab bo eE lE dg ps un fu fn) (yLo bo eE da fi un fu fp fn) (yUp bo lE da la un) (dgS (cR un rn fn dg li be bo eE lE da fi la fu fp ps) 431 9) un) rn) k) 0))) ?_
                  exact LP168 (8) (0) (by omega)
              refine aw_L (L' := [(0, .ref (b 0)), (1, .long (dgN (fR bo eE lE da fi la un fu fp fn) 8 (dgN (rtR ks os ts) 3 (dgU (uR ss be ab bo eE lE dg ps un fu fn) (yLo bo eE da fi un fu fp fn) (yUp bo lE da la un) (dgS (cR un rn fn dg li be bo eE lE da fi la fu fp ps) 431 9) un) rn) 0)), (3, .int (nI 0))]) (congrArg (fun zz9 => ([(0, .ref (b 0)), (1, .long zz9), (3, .int (nI 0))] : List (Nat × Value))) (rfl : (dgN (rtR ks os ts) 3 (dgU (uR ss be ab bo eE lE dg ps un fu fn) (yLo bo eE da fi un fu fp fn) (yUp bo lE da la un) (dgS (cR un rn fn dg li be bo eE lE da fi la fu fp ps) 431 9) un) rn) = (dgN (fR bo eE lE da fi la un fu fp fn) 8 (dgN (rtR ks os ts) 3 (dgU (uR ss be ab bo eE lE dg ps un fu fn) (yLo bo eE da fi un fu fp fn) (yUp bo lE da la un) (dgS (cR un rn fn dg li be bo eE lE da fi la fu fp ps) 431 9) un) rn) 0))) ?_
              exact LP157 (fn) (0) (by omega)
            | succ jz ih =>
              intro k hk_k
              have hlt_k : k < rn := by omega
              refine a_iloadn (pc := 111) C 2 rfl rfl dX6_digest_111 ?_
              refine a_aloadn (pc := 112) C 0 rfl rfl dX6_digest_112 ?_
              refine a_get (pc := 113) C fl_X6_71 0 rfl rfl dX6_digest_113 ?_
              refine a_icn_ge_n (pc := 116) C (by omega) (by omega) (by omega) dX6_digest_116 ⟨155, by decide⟩ ?_
              refine a_iconst (pc := 119) (v := nI 0) C ci_0 dX6_digest_119 ?_
              refine a_istore (pc := 120) (L' := [(0, .ref (b 0)), (1, .long (dgN (rtR ks os ts) 3 (dgU (uR ss be ab bo eE lE dg ps un fu fn) (yLo bo eE da fi un fu fp fn) (yUp bo lE da la un) (dgS (cR un rn fn dg li be bo eE lE da fi la fu fp ps) 431 9) un) k)), (3, .int (nI k)), (4, .int (nI 0))]) C (by decide) rfl dX6_digest_120 ?_
              have LP122 : ∀ (jz i : Nat), i + jz = 3 → aw g κ 5 122 [(0, .ref (b 0)), (1, .long (dgS (rtR ks os ts k) (dgN (rtR ks os ts) 3 (dgU (uR ss be ab bo eE lE dg ps un fu fn) (yLo bo eE da fi un fu fp fn) (yUp bo lE da la un) (dgS (cR un rn fn dg li be bo eE lE da fi la fu fp ps) 431 9) un) k) i)), (3, .int (nI k)), (4, .int (nI i))] [] (wM κ b (nI 0) un ss fi la da dg ps rn ks os ts fn fp bo eE lE li be ab X) (10 * un) (100 * un) := by
                intro jz
                induction jz with
                | zero =>
                  intro i hk_i
                  obtain rfl : 3 = i := by omega
                  refine a_iload (pc := 122) C 3 rfl dX6_digest_122 ?_
                  refine a_iconst (pc := 124) (v := nI 3) C ci_3 dX6_digest_124 ?_
                  refine a_icn_ge_y (pc := 125) (tgt := 149) C (by omega) (by omega) (by omega) (by decide) dX6_digest_125 ?_
                  refine a_iinc (pc := 149) (v := nI (k + 1)) (L' := [(0, .ref (b 0)), (1, .long (dgS (rtR ks os ts k) (dgN (rtR ks os ts) 3 (dgU (uR ss be ab bo eE lE dg ps un fu fn) (yLo bo eE da fi un fu fp fn) (yUp bo lE da la un) (dgS (cR un rn fn dg li be bo eE lE da fi la fu fp ps) 431 9) un) k) 3)), (3, .int (nI (k + 1))), (4, .int (nI 3))]) C 2 rfl (nI_inc _) (by decide) rfl dX6_digest_149 ?_
                  refine a_goto (pc := 152) (tgt := 111) C (by decide) dX6_digest_152 ?_
                  refine aw_locals (L' := [(0, .ref (b 0)), (1, .long (dgS (rtR ks os ts k) (dgN (rtR ks os ts) 3 (dgU (uR ss be ab bo eE lE dg ps un fu fn) (yLo bo eE da fi un fu fp fn) (yUp bo lE da la un) (dgS (cR un rn fn dg li be bo eE lE da fi la fu fp ps) 431 9) un) k) 3)), (3, .int (nI (k + 1)))]) [0, 1, 2] rfl ?_
                  refine aw_L (L' := [(0, .ref (b 0)), (1, .long (dgN (rtR ks os ts) 3 (dgU (uR ss be ab bo eE lE dg ps un fu fn) (yLo bo eE da fi un fu fp fn) (yUp bo lE da la un) (dgS (cR un rn fn dg li be bo eE lE da fi la fu fp ps) 431 9) un) (k + 1))), (3, .int (nI (k + 1)))]) (congrArg (fun zz9 => ([(0, .ref (b 0)), (1, .long zz9), (3, .int (nI (k + 1)))] : List (Nat × Value))) (rfl : (dgS (rtR ks os ts k) (dgN (rtR ks os ts) 3 (dgU (uR ss be ab bo eE lE dg ps un fu fn) (yLo bo eE da fi un fu fp fn) (yUp bo lE da la un) (dgS (cR un rn fn dg li be bo eE lE da fi la fu fp ps) 431 9) un) k) 3) = (dgN (rtR ks os ts) 3 (dgU (uR ss be ab bo eE lE dg ps un fu fn) (yLo bo eE da fi un fu fp fn) (yUp bo lE da la un) (dgS (cR un rn fn dg li be bo eE lE da fi la fu fp ps) 431 9) un) (k + 1)))) ?_
                  exact ih (k + 1) (by omega)
                | succ jz ih =>
                  intro i hk_i
                  have hlt_i : i < 3 := by omega
                  refine a_iload (pc := 122) C 3 rfl dX6_digest_122 ?_
                  refine a_iconst (pc := 124) (v := nI 3) C ci_3 dX6_digest_124 ?_
                  refine a_icn_ge_n (pc := 125) C (by omega) (by omega) (by omega) dX6_digest_125 ⟨149, by decide⟩ ?_
                  refine a_lloadn (pc := 128) C 1 rfl rfl dX6_digest_128 ?_
                  refine a_ldc2 (pc := 129) C kl_X6_198 dX6_digest_129 ?_
                  refine a_lmul (pc := 132) (v := (dgS (rtR ks os ts k) (dgN (rtR ks os ts) 3 (dgU (uR ss be ab bo eE lE dg ps un fu fn) (yLo bo eE da fi un fu fp fn) (yUp bo lE da la un) (dgS (cR un rn fn dg li be bo eE lE da fi la fu fp ps) 431 9) un) k) i) * (31)) C rfl dX6_digest_132 ?_
                  refine a_aloadn (pc := 133) C 0 rfl rfl dX6_digest_133 ?_
                  refine a_iloadn (pc := 134) C 2 rfl rfl dX6_digest_134 ?_
                  refine a_iload (pc := 135) C 3 rfl dX6_digest_135 ?_
                  refine a_callV1 (pc := 137) (k' := 10 * un + 0) (n' := 100 * un + 0) C (c_X6_relationTold κ b (by omega) (by omega) (by omega)) yv_X6_relationTold ml_X6_117 wi_X6_relationTold wl_X6_relationTold 0 rfl rfl rfl rfl (Nat.le_of_ble_eq_true rfl) (Nat.le_of_ble_eq_true rfl) (Nat.le_of_ble_eq_true rfl) ⟨by show 10 * un + 0 ≤ 400; omega, by show 100 * un + 0 ≤ 4000; omega⟩ rfl rfl dX6_digest_137 ?_
                  refine a_i2l (pc := 140) (v := (rtR ks os ts k i).toInt64) C rfl dX6_digest_140 ?_
                  refine a_ladd (pc := 141) (v := ((dgS (rtR ks os ts k) (dgN (rtR ks os ts) 3 (dgU (uR ss be ab bo eE lE dg ps un fu fn) (yLo bo eE da fi un fu fp fn) (yUp bo lE da la un) (dgS (cR un rn fn dg li be bo eE lE da fi la fu fp ps) 431 9) un) k) i) * (31)) + ((rtR ks os ts k i).toInt64)) C rfl dX6_digest_141 ?_
                  refine a_lstoren (pc := 142) (L' := [(0, .ref (b 0)), (1, .long (((dgS (rtR ks os ts k) (dgN (rtR ks os ts) 3 (dgU (uR ss be ab bo eE lE dg ps un fu fn) (yLo bo eE da fi un fu fp fn) (yUp bo lE da la un) (dgS (cR un rn fn dg li be bo eE lE da fi la fu fp ps) 431 9) un) k) i) * (31)) + ((rtR ks os ts k i).toInt64))), (3, .int (nI k)), (4, .int (nI i))]) C (by decide) rfl rfl dX6_digest_142 ?_
                  refine a_iinc (pc := 143) (v := nI (i + 1)) (L' := [(0, .ref (b 0)), (1, .long (((dgS (rtR ks os ts k) (dgN (rtR ks os ts) 3 (dgU (uR ss be ab bo eE lE dg ps un fu fn) (yLo bo eE da fi un fu fp fn) (yUp bo lE da la un) (dgS (cR un rn fn dg li be bo eE lE da fi la fu fp ps) 431 9) un) k) i) * (31)) + ((rtR ks os ts k i).toInt64))), (3, .int (nI k)), (4, .int (nI (i + 1)))]) C 3 rfl (nI_inc _) (by decide) rfl dX6_digest_143 ?_
                  refine a_goto (pc := 146) (tgt := 122) C (by decide) dX6_digest_146 ?_
                  refine aw_L (L' := [(0, .ref (b 0)), (1, .long (dgS (rtR ks os ts k) (dgN (rtR ks os ts) 3 (dgU (uR ss be ab bo eE lE dg ps un fu fn) (yLo bo eE da fi un fu fp fn) (yUp bo lE da la un) (dgS (cR un rn fn dg li be bo eE lE da fi la fu fp ps) 431 9) un) k) (i + 1))), (3, .int (nI k)), (4, .int (nI (i + 1)))]) (congrArg (fun zz9 => ([(0, .ref (b 0)), (1, .long zz9), (3, .int (nI k)), (4, .int (nI (i + 1)))] : List (Nat × Value))) (rfl : (((dgS (rtR ks os ts k) (dgN (rtR ks os ts) 3 (dgU (uR ss be ab bo eE lE dg ps un fu fn) (yLo bo eE da fi un fu fp fn) (yUp bo lE da la un) (dgS (cR un rn fn dg li be bo eE lE da fi la fu fp ps) 431 9) un) k) i) * (31)) + ((rtR ks os ts k i).toInt64)) = (dgS (rtR ks os ts k) (dgN (rtR ks os ts) 3 (dgU (uR ss be ab bo eE lE dg ps un fu fn) (yLo bo eE da fi un fu fp fn) (yUp bo lE da la un) (dgS (cR un rn fn dg li be bo eE lE da fi la fu fp ps) 431 9) un) k) (i + 1)))) ?_
                  exact ih (i + 1) (by omega)
              refine aw_L (L' := [(0, .ref (b 0)), (1, .long (dgS (rtR ks os ts k) (dgN (rtR ks os ts) 3 (dgU (uR ss be ab bo eE lE dg ps un fu fn) (yLo bo eE da fi un fu fp fn) (yUp bo lE da la un) (dgS (cR un rn fn dg li be bo eE lE da fi la fu fp ps) 431 9) un) k) 0)), (3, .int (nI k)), (4, .int (nI 0))]) (congrArg (fun zz9 => ([(0, .ref (b 0)), (1, .long zz9), (3, .int (nI k)), (4, .int (nI 0))] : List (Nat × Value))) (rfl : (dgN (rtR ks os ts) 3 (dgU (uR ss be ab bo eE lE dg ps un fu fn) (yLo bo eE da fi un fu fp fn) (yUp bo lE da la un) (dgS (cR un rn fn dg li be bo eE lE da fi la fu fp ps) 431 9) un) k) = (dgS (rtR ks os ts k) (dgN (rtR ks os ts) 3 (dgU (uR ss be ab bo eE lE dg ps un fu fn) (yLo bo eE da fi un fu fp fn) (yUp bo lE da la un) (dgS (cR un rn fn dg li be bo eE lE da fi la fu fp ps) 431 9) un) k) 0))) ?_
              exact LP122 (3) (0) (by omega)
          refine aw_L (L' := [(0, .ref (b 0)), (1, .long (dgN (rtR ks os ts) 3 (dgU (uR ss be ab bo eE lE dg ps un fu fn) (yLo bo eE da fi un fu fp fn) (yUp bo lE da la un) (dgS (cR un rn fn dg li be bo eE lE da fi la fu fp ps) 431 9) un) 0)), (3, .int (nI 0))]) (congrArg (fun zz9 => ([(0, .ref (b 0)), (1, .long zz9), (3, .int (nI 0))] : List (Nat × Value))) (rfl : (dgU (uR ss be ab bo eE lE dg ps un fu fn) (yLo bo eE da fi un fu fp fn) (yUp bo lE da la un) (dgS (cR un rn fn dg li be bo eE lE da fi la fu fp ps) 431 9) un) = (dgN (rtR ks os ts) 3 (dgU (uR ss be ab bo eE lE dg ps un fu fn) (yLo bo eE da fi un fu fp fn) (yUp bo lE da la un) (dgS (cR un rn fn dg li be bo eE lE da fi la fu fp ps) 431 9) un) 0))) ?_
          exact LP111 (rn) (0) (by omega)
        | succ jz ih =>
          intro k hk_k
          have hlt_k : k < un := by omega
          refine a_iloadn (pc := 38) C 2 rfl rfl dX6_digest_38 ?_
          refine a_aloadn (pc := 39) C 0 rfl rfl dX6_digest_39 ?_
          refine a_get (pc := 40) C fl_X6_64 0 rfl rfl dX6_digest_40 ?_
          refine a_icn_ge_n (pc := 43) C (by omega) (by omega) (by omega) dX6_digest_43 ⟨109, by decide⟩ ?_
          refine a_iconst (pc := 46) (v := nI 0) C ci_0 dX6_digest_46 ?_
          refine a_istore (pc := 47) (L' := [(0, .ref (b 0)), (1, .long (dgU (uR ss be ab bo eE lE dg ps un fu fn) (yLo bo eE da fi un fu fp fn) (yUp bo lE da la un) (dgS (cR un rn fn dg li be bo eE lE da fi la fu fp ps) 431 9) k)), (3, .int (nI k)), (4, .int (nI 0))]) C (by decide) rfl dX6_digest_47 ?_
          have LP49 : ∀ (jz i : Nat), i + jz = 10 → aw g κ 5 49 [(0, .ref (b 0)), (1, .long (dgS (uR ss be ab bo eE lE dg ps un fu fn k) (dgU (uR ss be ab bo eE lE dg ps un fu fn) (yLo bo eE da fi un fu fp fn) (yUp bo lE da la un) (dgS (cR un rn fn dg li be bo eE lE da fi la fu fp ps) 431 9) k) i)), (3, .int (nI k)), (4, .int (nI i))] [] (wM κ b (nI 0) un ss fi la da dg ps rn ks os ts fn fp bo eE lE li be ab X) (10 * k + i) (100 * k + 10 * i) := by
            intro jz
            induction jz with
            | zero =>
              intro i hk_i
              obtain rfl : 10 = i := by omega
              refine a_iload (pc := 49) C 3 rfl dX6_digest_49 ?_
              refine a_bipush (pc := 51) (v := nI 10) C cb_10 dX6_digest_51 ?_
              refine a_icn_ge_y (pc := 53) (tgt := 77) C (by omega) (by omega) (by omega) (by decide) dX6_digest_53 ?_
              refine a_lloadn (pc := 77) C 1 rfl rfl dX6_digest_77 ?_
              refine a_ldc2 (pc := 78) C kl_X6_198 dX6_digest_78 ?_
              refine a_lmul (pc := 81) (v := (dgS (uR ss be ab bo eE lE dg ps un fu fn k) (dgU (uR ss be ab bo eE lE dg ps un fu fn) (yLo bo eE da fi un fu fp fn) (yUp bo lE da la un) (dgS (cR un rn fn dg li be bo eE lE da fi la fu fp ps) 431 9) k) 10) * (31)) C rfl dX6_digest_81 ?_
              refine a_aloadn (pc := 82) C 0 rfl rfl dX6_digest_82 ?_
              refine a_iloadn (pc := 83) C 2 rfl rfl dX6_digest_83 ?_
              refine a_iconst (pc := 84) (v := nI 0) C ci_0 dX6_digest_84 ?_
              refine a_callV1 (pc := 85) (k' := 10 * k + 10 + 0) (n' := 100 * k + 10 * 10 + 0) C (c_X6_year_lo κ b (by omega) (by omega) hbo (by assumption) hfu (by omega)) yv_X6_year ml_X6_123 wi_X6_year wl_X6_year 0 rfl rfl rfl rfl (Nat.le_of_ble_eq_true rfl) (Nat.le_of_ble_eq_true rfl) (Nat.le_of_ble_eq_true rfl) ⟨by show 10 * k + 10 + 0 ≤ 400; omega, by show 100 * k + 10 * 10 + 0 ≤ 4000; omega⟩ rfl rfl dX6_digest_85 ?_
              refine a_i2l (pc := 88) (v := (yLo bo eE da fi un fu fp fn k).toInt64) C rfl dX6_digest_88 ?_
              refine a_ladd (pc := 89) (v := ((dgS (uR ss be ab bo eE lE dg ps un fu fn k) (dgU (uR ss be ab bo eE lE dg ps un fu fn) (yLo bo eE da fi un fu fp fn) (yUp bo lE da la un) (dgS (cR un rn fn dg li be bo eE lE da fi la fu fp ps) 431 9) k) 10) * (31)) + ((yLo bo eE da fi un fu fp fn k).toInt64)) C rfl dX6_digest_89 ?_
              refine a_ldc2 (pc := 90) C kl_X6_198 dX6_digest_90 ?_
              refine a_lmul (pc := 93) (v := (((dgS (uR ss be ab bo eE lE dg ps un fu fn k) (dgU (uR ss be ab bo eE lE dg ps un fu fn) (yLo bo eE da fi un fu fp fn) (yUp bo lE da la un) (dgS (cR un rn fn dg li be bo eE lE da fi la fu fp ps) 431 9) k) 10) * (31)) + ((yLo bo eE da fi un fu fp fn k).toInt64)) * (31)) C rfl dX6_digest_93 ?_
              refine a_aloadn (pc := 94) C 0 rfl rfl dX6_digest_94 ?_
              refine a_iloadn (pc := 95) C 2 rfl rfl dX6_digest_95 ?_
              refine a_iconst (pc := 96) (v := nI 1) C ci_1 dX6_digest_96 ?_
              refine a_callV1 (pc := 97) (k' := 10 * k + 10 + 0 + 0) (n' := 100 * k + 10 * 10 + 0 + 0) C (c_X6_year_up κ b (by omega) (by omega) hbo (by omega)) yv_X6_year ml_X6_123 wi_X6_year wl_X6_year 0 rfl rfl rfl rfl (Nat.le_of_ble_eq_true rfl) (Nat.le_of_ble_eq_true rfl) (Nat.le_of_ble_eq_true rfl) ⟨by show 10 * k + 10 + 0 + 0 ≤ 400; omega, by show 100 * k + 10 * 10 + 0 + 0 ≤ 4000; omega⟩ rfl rfl dX6_digest_97 ?_
              refine a_i2l (pc := 100) (v := (yUp bo lE da la un k).toInt64) C rfl dX6_digest_100 ?_
              refine a_ladd (pc := 101) (v := ((((dgS (uR ss be ab bo eE lE dg ps un fu fn k) (dgU (uR ss be ab bo eE lE dg ps un fu fn) (yLo bo eE da fi un fu fp fn) (yUp bo lE da la un) (dgS (cR un rn fn dg li be bo eE lE da fi la fu fp ps) 431 9) k) 10) * (31)) + ((yLo bo eE da fi un fu fp fn k).toInt64)) * (31)) + ((yUp bo lE da la un k).toInt64)) C rfl dX6_digest_101 ?_
              refine a_lstoren (pc := 102) (L' := [(0, .ref (b 0)), (1, .long (((((dgS (uR ss be ab bo eE lE dg ps un fu fn k) (dgU (uR ss be ab bo eE lE dg ps un fu fn) (yLo bo eE da fi un fu fp fn) (yUp bo lE da la un) (dgS (cR un rn fn dg li be bo eE lE da fi la fu fp ps) 431 9) k) 10) * (31)) + ((yLo bo eE da fi un fu fp fn k).toInt64)) * (31)) + ((yUp bo lE da la un k).toInt64))), (3, .int (nI k)), (4, .int (nI 10))]) C (by decide) rfl rfl dX6_digest_102 ?_
              refine a_iinc (pc := 103) (v := nI (k + 1)) (L' := [(0, .ref (b 0)), (1, .long (((((dgS (uR ss be ab bo eE lE dg ps un fu fn k) (dgU (uR ss be ab bo eE lE dg ps un fu fn) (yLo bo eE da fi un fu fp fn) (yUp bo lE da la un) (dgS (cR un rn fn dg li be bo eE lE da fi la fu fp ps) 431 9) k) 10) * (31)) + ((yLo bo eE da fi un fu fp fn k).toInt64)) * (31)) + ((yUp bo lE da la un k).toInt64))), (3, .int (nI (k + 1))), (4, .int (nI 10))]) C 2 rfl (nI_inc _) (by decide) rfl dX6_digest_103 ?_
              refine a_goto (pc := 106) (tgt := 38) C (by decide) dX6_digest_106 ?_
              refine aw_locals (L' := [(0, .ref (b 0)), (1, .long (((((dgS (uR ss be ab bo eE lE dg ps un fu fn k) (dgU (uR ss be ab bo eE lE dg ps un fu fn) (yLo bo eE da fi un fu fp fn) (yUp bo lE da la un) (dgS (cR un rn fn dg li be bo eE lE da fi la fu fp ps) 431 9) k) 10) * (31)) + ((yLo bo eE da fi un fu fp fn k).toInt64)) * (31)) + ((yUp bo lE da la un k).toInt64))), (3, .int (nI (k + 1)))]) [0, 1, 2] rfl ?_
              refine aw_L (L' := [(0, .ref (b 0)), (1, .long (dgU (uR ss be ab bo eE lE dg ps un fu fn) (yLo bo eE da fi un fu fp fn) (yUp bo lE da la un) (dgS (cR un rn fn dg li be bo eE lE da fi la fu fp ps) 431 9) (k + 1))), (3, .int (nI (k + 1)))]) (congrArg (fun zz9 => ([(0, .ref (b 0)), (1, .long zz9), (3, .int (nI (k + 1)))] : List (Nat × Value))) (rfl : (((((dgS (uR ss be ab bo eE lE dg ps un fu fn k) (dgU (uR ss be ab bo eE lE dg ps un fu fn) (yLo bo eE da fi un fu fp fn) (yUp bo lE da la un) (dgS (cR un rn fn dg li be bo eE lE da fi la fu fp ps) 431 9) k) 10) * (31)) + ((yLo bo eE da fi un fu fp fn k).toInt64)) * (31)) + ((yUp bo lE da la un k).toInt64)) = (dgU (uR ss be ab bo eE lE dg ps un fu fn) (yLo bo eE da fi un fu fp fn) (yUp bo lE da la un) (dgS (cR un rn fn dg li be bo eE lE da fi la fu fp ps) 431 9) (k + 1)))) ?_
              refine aw_room (k' := 10 * (k + 1)) (n' := 100 * (k + 1)) (by omega) (by omega) ?_
              exact ih (k + 1) (by omega)
            | succ jz ih =>
              intro i hk_i
              have hlt_i : i < 10 := by omega
              refine a_iload (pc := 49) C 3 rfl dX6_digest_49 ?_
              refine a_bipush (pc := 51) (v := nI 10) C cb_10 dX6_digest_51 ?_
              refine a_icn_ge_n (pc := 53) C (by omega) (by omega) (by omega) dX6_digest_53 ⟨77, by decide⟩ ?_
              refine a_lloadn (pc := 56) C 1 rfl rfl dX6_digest_56 ?_
              refine a_ldc2 (pc := 57) C kl_X6_198 dX6_digest_57 ?_
              refine a_lmul (pc := 60) (v := (dgS (uR ss be ab bo eE lE dg ps un fu fn k) (dgU (uR ss be ab bo eE lE dg ps un fu fn) (yLo bo eE da fi un fu fp fn) (yUp bo lE da la un) (dgS (cR un rn fn dg li be bo eE lE da fi la fu fp ps) 431 9) k) i) * (31)) C rfl dX6_digest_60 ?_
              refine a_aloadn (pc := 61) C 0 rfl rfl dX6_digest_61 ?_
              refine a_iloadn (pc := 62) C 2 rfl rfl dX6_digest_62 ?_
              refine a_iload (pc := 63) C 3 rfl dX6_digest_63 ?_
              refine a_callV1 (pc := 65) (k' := 10 * k + i + 1) (n' := 100 * k + 10 * i + 10) C (c_X6_unitTold κ b (by omega) (by omega) hbo (by assumption) hfu (by omega) (by omega)) yv_X6_unitTold ml_X6_171 wi_X6_unitTold wl_X6_unitTold 0 rfl rfl rfl rfl (Nat.le_of_ble_eq_true rfl) (Nat.le_of_ble_eq_true rfl) (Nat.le_of_ble_eq_true rfl) ⟨by show 10 * k + i + 1 ≤ 400; omega, by show 100 * k + 10 * i + 10 ≤ 4000; omega⟩ rfl rfl dX6_digest_65 ?_
              refine a_i2l (pc := 68) (v := (uR ss be ab bo eE lE dg ps un fu fn k i).toInt64) C rfl dX6_digest_68 ?_
              refine a_ladd (pc := 69) (v := ((dgS (uR ss be ab bo eE lE dg ps un fu fn k) (dgU (uR ss be ab bo eE lE dg ps un fu fn) (yLo bo eE da fi un fu fp fn) (yUp bo lE da la un) (dgS (cR un rn fn dg li be bo eE lE da fi la fu fp ps) 431 9) k) i) * (31)) + ((uR ss be ab bo eE lE dg ps un fu fn k i).toInt64)) C rfl dX6_digest_69 ?_
              refine a_lstoren (pc := 70) (L' := [(0, .ref (b 0)), (1, .long (((dgS (uR ss be ab bo eE lE dg ps un fu fn k) (dgU (uR ss be ab bo eE lE dg ps un fu fn) (yLo bo eE da fi un fu fp fn) (yUp bo lE da la un) (dgS (cR un rn fn dg li be bo eE lE da fi la fu fp ps) 431 9) k) i) * (31)) + ((uR ss be ab bo eE lE dg ps un fu fn k i).toInt64))), (3, .int (nI k)), (4, .int (nI i))]) C (by decide) rfl rfl dX6_digest_70 ?_
              refine a_iinc (pc := 71) (v := nI (i + 1)) (L' := [(0, .ref (b 0)), (1, .long (((dgS (uR ss be ab bo eE lE dg ps un fu fn k) (dgU (uR ss be ab bo eE lE dg ps un fu fn) (yLo bo eE da fi un fu fp fn) (yUp bo lE da la un) (dgS (cR un rn fn dg li be bo eE lE da fi la fu fp ps) 431 9) k) i) * (31)) + ((uR ss be ab bo eE lE dg ps un fu fn k i).toInt64))), (3, .int (nI k)), (4, .int (nI (i + 1)))]) C 3 rfl (nI_inc _) (by decide) rfl dX6_digest_71 ?_
              refine a_goto (pc := 74) (tgt := 49) C (by decide) dX6_digest_74 ?_
              refine aw_L (L' := [(0, .ref (b 0)), (1, .long (dgS (uR ss be ab bo eE lE dg ps un fu fn k) (dgU (uR ss be ab bo eE lE dg ps un fu fn) (yLo bo eE da fi un fu fp fn) (yUp bo lE da la un) (dgS (cR un rn fn dg li be bo eE lE da fi la fu fp ps) 431 9) k) (i + 1))), (3, .int (nI k)), (4, .int (nI (i + 1)))]) (congrArg (fun zz9 => ([(0, .ref (b 0)), (1, .long zz9), (3, .int (nI k)), (4, .int (nI (i + 1)))] : List (Nat × Value))) (rfl : (((dgS (uR ss be ab bo eE lE dg ps un fu fn k) (dgU (uR ss be ab bo eE lE dg ps un fu fn) (yLo bo eE da fi un fu fp fn) (yUp bo lE da la un) (dgS (cR un rn fn dg li be bo eE lE da fi la fu fp ps) 431 9) k) i) * (31)) + ((uR ss be ab bo eE lE dg ps un fu fn k i).toInt64)) = (dgS (uR ss be ab bo eE lE dg ps un fu fn k) (dgU (uR ss be ab bo eE lE dg ps un fu fn) (yLo bo eE da fi un fu fp fn) (yUp bo lE da la un) (dgS (cR un rn fn dg li be bo eE lE da fi la fu fp ps) 431 9) k) (i + 1)))) ?_
              refine aw_room (k' := 10 * k + (i + 1)) (n' := 100 * k + 10 * (i + 1)) (by omega) (by omega) ?_
              exact ih (i + 1) (by omega)
          refine aw_L (L' := [(0, .ref (b 0)), (1, .long (dgS (uR ss be ab bo eE lE dg ps un fu fn k) (dgU (uR ss be ab bo eE lE dg ps un fu fn) (yLo bo eE da fi un fu fp fn) (yUp bo lE da la un) (dgS (cR un rn fn dg li be bo eE lE da fi la fu fp ps) 431 9) k) 0)), (3, .int (nI k)), (4, .int (nI 0))]) (congrArg (fun zz9 => ([(0, .ref (b 0)), (1, .long zz9), (3, .int (nI k)), (4, .int (nI 0))] : List (Nat × Value))) (rfl : (dgU (uR ss be ab bo eE lE dg ps un fu fn) (yLo bo eE da fi un fu fp fn) (yUp bo lE da la un) (dgS (cR un rn fn dg li be bo eE lE da fi la fu fp ps) 431 9) k) = (dgS (uR ss be ab bo eE lE dg ps un fu fn k) (dgU (uR ss be ab bo eE lE dg ps un fu fn) (yLo bo eE da fi un fu fp fn) (yUp bo lE da la un) (dgS (cR un rn fn dg li be bo eE lE da fi la fu fp ps) 431 9) k) 0))) ?_
          refine aw_room (k' := 10 * k + 0) (n' := 100 * k + 10 * 0) (by omega) (by omega) ?_
          exact LP49 (10) (0) (by omega)
      refine aw_L (L' := [(0, .ref (b 0)), (1, .long (dgU (uR ss be ab bo eE lE dg ps un fu fn) (yLo bo eE da fi un fu fp fn) (yUp bo lE da la un) (dgS (cR un rn fn dg li be bo eE lE da fi la fu fp ps) 431 9) 0)), (3, .int (nI 0))]) (congrArg (fun zz9 => ([(0, .ref (b 0)), (1, .long zz9), (3, .int (nI 0))] : List (Nat × Value))) (rfl : (dgS (cR un rn fn dg li be bo eE lE da fi la fu fp ps) 431 9) = (dgU (uR ss be ab bo eE lE dg ps un fu fn) (yLo bo eE da fi un fu fp fn) (yUp bo lE da la un) (dgS (cR un rn fn dg li be bo eE lE da fi la fu fp ps) 431 9) 0))) ?_
      refine aw_room (k' := 10 * 0) (n' := 100 * 0) (by omega) (by omega) ?_
      exact LP38 (un) (0) (by omega)
    | succ jz ih =>
      intro k hk_k
      have hlt_k : k < 9 := by omega
      refine a_iloadn (pc := 11) C 2 rfl rfl dX6_digest_11 ?_
      refine a_bipush (pc := 12) (v := nI 9) C cb_9 dX6_digest_12 ?_
      refine a_icn_ge_n (pc := 14) C (by omega) (by omega) (by omega) dX6_digest_14 ⟨36, by decide⟩ ?_
      refine a_lloadn (pc := 17) C 1 rfl rfl dX6_digest_17 ?_
      refine a_ldc2 (pc := 18) C kl_X6_198 dX6_digest_18 ?_
      refine a_lmul (pc := 21) (v := (dgS (cR un rn fn dg li be bo eE lE da fi la fu fp ps) 431 k) * (31)) C rfl dX6_digest_21 ?_
      refine a_aloadn (pc := 22) C 0 rfl rfl dX6_digest_22 ?_
      refine a_iloadn (pc := 23) C 2 rfl rfl dX6_digest_23 ?_
      refine a_callV1 (pc := 24) (k' := 0) (n' := 0) C (c_X6_counted κ b (by omega) (by omega) hbo (by assumption) hfu (by omega)) yv_X6_counted ml_X6_162 wi_X6_counted wl_X6_counted 0 rfl rfl rfl rfl (Nat.le_of_ble_eq_true rfl) (Nat.le_of_ble_eq_true rfl) (Nat.le_of_ble_eq_true rfl) ⟨(Nat.le_of_ble_eq_true rfl), (Nat.le_of_ble_eq_true rfl)⟩ rfl rfl dX6_digest_24 ?_
      refine a_i2l (pc := 27) (v := (cR un rn fn dg li be bo eE lE da fi la fu fp ps k).toInt64) C rfl dX6_digest_27 ?_
      refine a_ladd (pc := 28) (v := ((dgS (cR un rn fn dg li be bo eE lE da fi la fu fp ps) 431 k) * (31)) + ((cR un rn fn dg li be bo eE lE da fi la fu fp ps k).toInt64)) C rfl dX6_digest_28 ?_
      refine a_lstoren (pc := 29) (L' := [(0, .ref (b 0)), (1, .long (((dgS (cR un rn fn dg li be bo eE lE da fi la fu fp ps) 431 k) * (31)) + ((cR un rn fn dg li be bo eE lE da fi la fu fp ps k).toInt64))), (3, .int (nI k))]) C (by decide) rfl rfl dX6_digest_29 ?_
      refine a_iinc (pc := 30) (v := nI (k + 1)) (L' := [(0, .ref (b 0)), (1, .long (((dgS (cR un rn fn dg li be bo eE lE da fi la fu fp ps) 431 k) * (31)) + ((cR un rn fn dg li be bo eE lE da fi la fu fp ps k).toInt64))), (3, .int (nI (k + 1)))]) C 2 rfl (nI_inc _) (by decide) rfl dX6_digest_30 ?_
      refine a_goto (pc := 33) (tgt := 11) C (by decide) dX6_digest_33 ?_
      refine aw_L (L' := [(0, .ref (b 0)), (1, .long (dgS (cR un rn fn dg li be bo eE lE da fi la fu fp ps) 431 (k + 1))), (3, .int (nI (k + 1)))]) (congrArg (fun zz9 => ([(0, .ref (b 0)), (1, .long zz9), (3, .int (nI (k + 1)))] : List (Nat × Value))) (rfl : (((dgS (cR un rn fn dg li be bo eE lE da fi la fu fp ps) 431 k) * (31)) + ((cR un rn fn dg li be bo eE lE da fi la fu fp ps k).toInt64)) = (dgS (cR un rn fn dg li be bo eE lE da fi la fu fp ps) 431 (k + 1)))) ?_
      exact ih (k + 1) (by omega)
  refine aw_L (L' := [(0, .ref (b 0)), (1, .long (dgS (cR un rn fn dg li be bo eE lE da fi la fu fp ps) 431 0)), (3, .int (nI 0))]) (congrArg (fun zz9 => ([(0, .ref (b 0)), (1, .long zz9), (3, .int (nI 0))] : List (Nat × Value))) (rfl : (431) = (dgS (cR un rn fn dg li be bo eE lE da fi la fu fp ps) 431 0))) ?_
  exact LP11 (9) (0) (by omega)
