set_option maxHeartbeats 4000000 in
set_option maxRecDepth 100000 in
theorem c_J13_bitCount_95d88 (κ : aK) {X : va_W} {x : Int64} : CM yJ13_bitCount_95d88 cJ13_bitCount_95d88 2 (some .int) ({ frames := 0, cells := 0, slots := 0, locals := 0 } : Room) κ [.long x] (X) (aD (some (.int (bcI x))) (X)) := by
  refine cm_entry (own := RJ13) (L := [(0, .long x)]) (by decide +kernel) rfl (lv_entry [.long x] (n := 2) (Nat.le_of_ble_eq_true rfl)) (fun g C E => ?_)
  refine a_lloadn (pc := 0) C 0 rfl rfl dJ13_bitCount_95d88_0 ?_
  refine a_lloadn (pc := 1) C 0 rfl rfl dJ13_bitCount_95d88_1 ?_
  refine a_iconst (pc := 2) (v := nI 1) C ci_1 dJ13_bitCount_95d88_2 ?_
  refine a_lushr (pc := 3) (v := sh64 x (nI 1)) C rfl dJ13_bitCount_95d88_3 ?_
  refine a_ldc2 (pc := 4) C kl_J13_314 dJ13_bitCount_95d88_4 ?_
  refine a_land (pc := 7) (v := (sh64 x (nI 1)) &&& (6148914691236517205)) C rfl dJ13_bitCount_95d88_7 ?_
  refine a_lsub (pc := 8) (v := bc1 x) C rfl dJ13_bitCount_95d88_8 ?_
  refine a_lstoren (pc := 9) (L' := [(0, .long (bc1 x))]) C (by decide) rfl rfl dJ13_bitCount_95d88_9 ?_
  refine a_lloadn (pc := 10) C 0 rfl rfl dJ13_bitCount_95d88_10 ?_
  refine a_ldc2 (pc := 11) C kl_J13_316 dJ13_bitCount_95d88_11 ?_
  refine a_land (pc := 14) (v := (bc1 x) &&& (3689348814741910323)) C rfl dJ13_bitCount_95d88_14 ?_
  refine a_lloadn (pc := 15) C 0 rfl rfl dJ13_bitCount_95d88_15 ?_
  refine a_iconst (pc := 16) (v := nI 2) C ci_2 dJ13_bitCount_95d88_16 ?_
  refine a_lushr (pc := 17) (v := sh64 (bc1 x) (nI 2)) C rfl dJ13_bitCount_95d88_17 ?_
  refine a_ldc2 (pc := 18) C kl_J13_316 dJ13_bitCount_95d88_18 ?_
  refine a_land (pc := 21) (v := (sh64 (bc1 x) (nI 2)) &&& (3689348814741910323)) C rfl dJ13_bitCount_95d88_21 ?_
  refine a_ladd (pc := 22) (v := bc2 (bc1 x)) C rfl dJ13_bitCount_95d88_22 ?_
  refine a_lstoren (pc := 23) (L' := [(0, .long (bc2 (bc1 x)))]) C (by decide) rfl rfl dJ13_bitCount_95d88_23 ?_
  refine a_lloadn (pc := 24) C 0 rfl rfl dJ13_bitCount_95d88_24 ?_
  refine a_lloadn (pc := 25) C 0 rfl rfl dJ13_bitCount_95d88_25 ?_
  refine a_iconst (pc := 26) (v := nI 4) C ci_4 dJ13_bitCount_95d88_26 ?_
  refine a_lushr (pc := 27) (v := sh64 (bc2 (bc1 x)) (nI 4)) C rfl dJ13_bitCount_95d88_27 ?_
  refine a_ladd (pc := 28) (v := (bc2 (bc1 x)) + (sh64 (bc2 (bc1 x)) (nI 4))) C rfl dJ13_bitCount_95d88_28 ?_
  refine a_ldc2 (pc := 29) C kl_J13_318 dJ13_bitCount_95d88_29 ?_
  refine a_land (pc := 32) (v := bc3 (bc2 (bc1 x))) C rfl dJ13_bitCount_95d88_32 ?_
  refine a_lstoren (pc := 33) (L' := [(0, .long (bc3 (bc2 (bc1 x))))]) C (by decide) rfl rfl dJ13_bitCount_95d88_33 ?_
  refine a_lloadn (pc := 34) C 0 rfl rfl dJ13_bitCount_95d88_34 ?_
  refine a_lloadn (pc := 35) C 0 rfl rfl dJ13_bitCount_95d88_35 ?_
  refine a_bipush (pc := 36) (v := nI 8) C cb_8 dJ13_bitCount_95d88_36 ?_
  refine a_lushr (pc := 38) (v := sh64 (bc3 (bc2 (bc1 x))) (nI 8)) C rfl dJ13_bitCount_95d88_38 ?_
  refine a_ladd (pc := 39) (v := bc4 (bc3 (bc2 (bc1 x)))) C rfl dJ13_bitCount_95d88_39 ?_
  refine a_lstoren (pc := 40) (L' := [(0, .long (bc4 (bc3 (bc2 (bc1 x)))))]) C (by decide) rfl rfl dJ13_bitCount_95d88_40 ?_
  refine a_lloadn (pc := 41) C 0 rfl rfl dJ13_bitCount_95d88_41 ?_
  refine a_lloadn (pc := 42) C 0 rfl rfl dJ13_bitCount_95d88_42 ?_
  refine a_bipush (pc := 43) (v := nI 16) C cb_16 dJ13_bitCount_95d88_43 ?_
  refine a_lushr (pc := 45) (v := sh64 (bc4 (bc3 (bc2 (bc1 x)))) (nI 16)) C rfl dJ13_bitCount_95d88_45 ?_
  refine a_ladd (pc := 46) (v := bc5 (bc4 (bc3 (bc2 (bc1 x))))) C rfl dJ13_bitCount_95d88_46 ?_
  refine a_lstoren (pc := 47) (L' := [(0, .long (bc5 (bc4 (bc3 (bc2 (bc1 x))))))]) C (by decide) rfl rfl dJ13_bitCount_95d88_47 ?_
  refine a_lloadn (pc := 48) C 0 rfl rfl dJ13_bitCount_95d88_48 ?_
  refine a_lloadn (pc := 49) C 0 rfl rfl dJ13_bitCount_95d88_49 ?_
  refine a_bipush (pc := 50) (v := nI 32) C cb_32 dJ13_bitCount_95d88_50 ?_
  refine a_lushr (pc := 52) (v := sh64 (bc5 (bc4 (bc3 (bc2 (bc1 x))))) (nI 32)) C rfl dJ13_bitCount_95d88_52 ?_
  refine a_ladd (pc := 53) (v := bc6 (bc5 (bc4 (bc3 (bc2 (bc1 x)))))) C rfl dJ13_bitCount_95d88_53 ?_
  refine a_lstoren (pc := 54) (L' := [(0, .long (bc6 (bc5 (bc4 (bc3 (bc2 (bc1 x)))))))]) C (by decide) rfl rfl dJ13_bitCount_95d88_54 ?_
  refine a_lloadn (pc := 55) C 0 rfl rfl dJ13_bitCount_95d88_55 ?_
  refine a_l2i (pc := 56) (v := (bc6 (bc5 (bc4 (bc3 (bc2 (bc1 x)))))).toInt32) C rfl dJ13_bitCount_95d88_56 ?_
  refine a_bipush (pc := 57) (v := nI 127) C cb_127 dJ13_bitCount_95d88_57 ?_
  refine a_iand (pc := 59) (v := ((bc6 (bc5 (bc4 (bc3 (bc2 (bc1 x)))))).toInt32) &&& (nI 127)) C rfl dJ13_bitCount_95d88_59 ?_
  exact a_iret (pc := 60) C E (Nat.le_of_ble_eq_true rfl) (Nat.le_of_ble_eq_true rfl) ⟨rfl, rfl⟩ dJ13_bitCount_95d88_60
set_option maxHeartbeats 4000000 in
set_option maxRecDepth 100000 in
theorem c_X2_rank_eE_fB (κ : aK) (a : Nat → Nat) {n : Nat} {dug : Nat → Bool} {dtd : Nat → Bool} {so : Nat → Int32} {ph : Nat → Int32} {uf : Nat → Int32} {ul : Nat → Int32} {r : Nat} {ki : Nat → Int32} {lt : Nat → Nat} {er : Nat → Nat} {mz : Nat} {bd : Nat → Bool} {bo : Nat → Nat} {me : Nat → Nat → Bool} {dE : Nat → Nat → Bool} {eE : Nat → Nat → Bool} {lE : Nat → Nat → Bool} {li : Nat → Nat → Bool} {fB : Nat → Int32} {fA : Nat → Int32} {sL : Nat → Int32} {f : Nat} {fu : Nat → Nat} {fs : Nat → Int32} {ff : Nat → Int32} {fl : Nat → Int32} {xs : Nat → Int32} {ys : Nat → Int32} {zs : Nat → Int32} {oL : Nat → Int32} {oU : Nat → Int32} {lo : Nat → Int32} {up : Nat → Int32} {X : va_W} {sT : Nat → Bool} (hm : mz ≤ 40) : CM yX2_rank cX2_rank 11 none ({ frames := 2, cells := 0, slots := 0, locals := 42 } : Room) κ [.ref (a 3), .long (bs sT), .ref (a 16), .ref (a 19)] (wC κ a n dug dtd so ph uf ul r ki lt er mz bd bo me dE eE lE li fB fA sL f fu fs ff fl xs ys zs oL oU lo up X) (aD none (wC κ a n dug dtd so ph uf ul r ki lt er mz bd bo me dE eE lE li (rkV mz sT eE fB 40) fA sL f fu fs ff fl xs ys zs oL oU lo up X)) := by
  refine cm_entry (own := RX2) (L := [(0, .ref (a 3)), (1, .long (bs sT)), (3, .ref (a 16)), (4, .ref (a 19))]) (by decide +kernel) rfl (lv_entry [.ref (a 3), .long (bs sT), .ref (a 16), .ref (a 19)] (n := 11) (Nat.le_of_ble_eq_true rfl)) (fun g C E => ?_)
  refine a_lconst (pc := 0) (v := bs (fun _ => false)) C bs_0 dX2_rank_0 ?_
  refine a_lstore (pc := 1) (L' := [(0, .ref (a 3)), (1, .long (bs sT)), (3, .ref (a 16)), (4, .ref (a 19)), (5, .long (bs (fun _ => false)))]) C (by decide) rfl dX2_rank_1 ?_
  refine a_iconst (pc := 3) (v := nI 0) C ci_0 dX2_rank_3 ?_
  refine a_istore (pc := 4) (L' := [(0, .ref (a 3)), (1, .long (bs sT)), (3, .ref (a 16)), (4, .ref (a 19)), (5, .long (bs (fun _ => false))), (7, .int (nI 0))]) C (by decide) rfl dX2_rank_4 ?_
  have LP6 : ∀ (jz t : Nat), t + jz = 40 → aw g κ 11 6 [(0, .ref (a 3)), (1, .long (bs sT)), (3, .ref (a 16)), (4, .ref (a 19)), (5, .long (bs (rkD mz sT eE t))), (7, .int (nI t))] [] (wC κ a n dug dtd so ph uf ul r ki lt er mz bd bo me dE eE lE li (rkV mz sT eE fB t) fA sL f fu fs ff fl xs ys zs oL oU lo up X) 0 0 := by
    intro jz
    induction jz with
    | zero =>
      intro t hk_t
      obtain rfl : 40 = t := by omega
      refine a_iload (pc := 6) C 5 rfl dX2_rank_6 ?_
      refine a_bipush (pc := 8) (v := nI 40) C cb_40 dX2_rank_8 ?_
      refine a_icn_ge_y (pc := 10) (tgt := 93) C (by omega) (by omega) (by omega) (by decide) dX2_rank_10 ?_
      exact a_vret (pc := 93) C E (Nat.le_of_ble_eq_true rfl) (Nat.le_of_ble_eq_true rfl) ⟨rfl, rfl⟩ dX2_rank_93
    | succ jz ih =>
      intro t hk_t
      have hlt_t : t < 40 := by omega
      refine a_iload (pc := 6) C 5 rfl dX2_rank_6 ?_
      refine a_bipush (pc := 8) (v := nI 40) C cb_40 dX2_rank_8 ?_
      refine a_icn_ge_n (pc := 10) C (by omega) (by omega) (by omega) dX2_rank_10 ⟨93, by decide⟩ ?_
      refine a_lload (pc := 13) C 4 rfl dX2_rank_13 ?_
      refine a_lloadn (pc := 15) C 1 rfl rfl dX2_rank_15 ?_
      refine a_lcmp (pc := 16) (v := lg_cmp (bs (rkD mz sT eE t)) (bs sT)) C rfl dX2_rank_16 ?_
      refine a_if_eq (pc := 17) (tgt := 93) C (by decide) dX2_rank_17 (fun c1 => ?_) (fun c1 => ?_)
      · refine aw_eq (congrArg (fun zz9 => wC κ a n dug dtd so ph uf ul r ki lt er mz bd bo me dE eE lE li zz9 fA sL f fu fs ff fl xs ys zs oL oU lo up X) (rk_stab hm c1 (Nat.le_of_lt hlt_t) : (rkV mz sT eE fB t) = rkV mz sT eE fB 40)) ?_
        exact a_vret (pc := 93) C E (Nat.le_of_ble_eq_true rfl) (Nat.le_of_ble_eq_true rfl) ⟨rfl, rfl⟩ dX2_rank_93
      · refine a_lloadn (pc := 20) C 1 rfl rfl dX2_rank_20 ?_
        refine a_lload (pc := 21) C 4 rfl dX2_rank_21 ?_
        refine a_ldc2 (pc := 23) C kl_X2_101 dX2_rank_23 ?_
        refine a_lxor (pc := 26) (v := bs (fun i => !((rkD mz sT eE t) i))) C (bs_not _) dX2_rank_26 ?_
        refine a_land (pc := 27) (v := bs (fun i => sT i && (!((rkD mz sT eE t) i)))) C (bs_and _ _) dX2_rank_27 ?_
        refine a_lstore (pc := 28) (L' := [(0, .ref (a 3)), (1, .long (bs sT)), (3, .ref (a 16)), (4, .ref (a 19)), (5, .long (bs (rkD mz sT eE t))), (7, .int (nI t)), (8, .long (bs (fun i => sT i && (!((rkD mz sT eE t) i)))))]) C (by decide) rfl dX2_rank_28 ?_
        refine a_iconst (pc := 30) (v := nI 0) C ci_0 dX2_rank_30 ?_
        refine a_istore (pc := 31) (L' := [(0, .ref (a 3)), (1, .long (bs sT)), (3, .ref (a 16)), (4, .ref (a 19)), (5, .long (bs (rkD mz sT eE t))), (7, .int (nI t)), (8, .long (bs (fun i => sT i && (!((rkD mz sT eE t) i))))), (10, .int (nI 0))]) C (by decide) rfl dX2_rank_31 ?_
        have LP33 : ∀ (jz k : Nat), k + jz = mz → aw g κ 11 33 [(0, .ref (a 3)), (1, .long (bs sT)), (3, .ref (a 16)), (4, .ref (a 19)), (5, .long (bs (rdK (hitF sT eE (rkD mz sT eE t)) (rkD mz sT eE t) k))), (7, .int (nI t)), (8, .long (bs (fun i => sT i && (!((rkD mz sT eE t) i))))), (10, .int (nI k))] [] (wC κ a n dug dtd so ph uf ul r ki lt er mz bd bo me dE eE lE li (rsK (hitF sT eE (rkD mz sT eE t)) t (rkV mz sT eE fB t) k) fA sL f fu fs ff fl xs ys zs oL oU lo up X) 0 0 := by
          intro jz
          induction jz with
          | zero =>
            intro k hk_k
            obtain rfl : mz = k := by omega
            refine a_iload (pc := 33) C 7 rfl dX2_rank_33 ?_
            refine a_aloadn (pc := 35) C 0 rfl rfl dX2_rank_35 ?_
            refine a_get (pc := 36) C fl_X2_44 3 rfl rfl dX2_rank_36 ?_
            refine a_icn_ge_y (pc := 39) (tgt := 87) C (by omega) (by omega) (by omega) (by decide) dX2_rank_39 ?_
            refine a_iinc (pc := 87) (v := nI (t + 1)) (L' := [(0, .ref (a 3)), (1, .long (bs sT)), (3, .ref (a 16)), (4, .ref (a 19)), (5, .long (bs (rdK (hitF sT eE (rkD mz sT eE t)) (rkD mz sT eE t) mz))), (7, .int (nI (t + 1))), (8, .long (bs (fun i => sT i && (!((rkD mz sT eE t) i))))), (10, .int (nI mz))]) C 5 rfl (nI_inc _) (by decide) rfl dX2_rank_87 ?_
            refine a_goto (pc := 90) (tgt := 6) C (by decide) dX2_rank_90 ?_
            refine aw_locals (L' := [(0, .ref (a 3)), (1, .long (bs sT)), (3, .ref (a 16)), (4, .ref (a 19)), (5, .long (bs (rdK (hitF sT eE (rkD mz sT eE t)) (rkD mz sT eE t) mz))), (7, .int (nI (t + 1)))]) [0, 1, 2, 3, 4, 5] rfl ?_
            refine aw_L (L' := [(0, .ref (a 3)), (1, .long (bs sT)), (3, .ref (a 16)), (4, .ref (a 19)), (5, .long (bs (rkD mz sT eE (t + 1)))), (7, .int (nI (t + 1)))]) (congrArg (fun zz9 => ([(0, .ref (a 3)), (1, .long (bs sT)), (3, .ref (a 16)), (4, .ref (a 19)), (5, .long zz9), (7, .int (nI (t + 1)))] : List (Nat × Value))) (rfl : (bs (rdK (hitF sT eE (rkD mz sT eE t)) (rkD mz sT eE t) mz)) = (bs (rkD mz sT eE (t + 1))))) ?_
            refine aw_eq (congrArg (fun zz9 => wC κ a n dug dtd so ph uf ul r ki lt er mz bd bo me dE eE lE li zz9 fA sL f fu fs ff fl xs ys zs oL oU lo up X) (rfl : (rsK (hitF sT eE (rkD mz sT eE t)) t (rkV mz sT eE fB t) mz) = (rkV mz sT eE fB (t + 1)))) ?_
            exact ih (t + 1) (by omega)
          | succ jz ih =>
            intro k hk_k
            have hlt_k : k < mz := by omega
            refine a_iload (pc := 33) C 7 rfl dX2_rank_33 ?_
            refine a_aloadn (pc := 35) C 0 rfl rfl dX2_rank_35 ?_
            refine a_get (pc := 36) C fl_X2_44 3 rfl rfl dX2_rank_36 ?_
            refine a_icn_ge_n (pc := 39) C (by omega) (by omega) (by omega) dX2_rank_39 ⟨87, by decide⟩ ?_
            refine a_lload (pc := 42) C 6 rfl dX2_rank_42 ?_
            refine a_iload (pc := 44) C 7 rfl dX2_rank_44 ?_
            refine a_callSN1 (pc := 46) (k' := 0) (n' := 0) C (c_X5_has κ (by omega)) yv_X5_has ne_X2_40 ws_X5_has rfl rfl (Nat.le_of_ble_eq_true rfl) (Nat.le_of_ble_eq_true rfl) (Nat.le_of_ble_eq_true rfl) ⟨(Nat.le_of_ble_eq_true rfl), (Nat.le_of_ble_eq_true rfl)⟩ rfl rfl dX2_rank_46 ?_
            refine a_ifb_eq (pc := 49) (tgt := 81) C (by decide) dX2_rank_49 (fun c2 => ?_) (fun c2 => ?_)
            · refine a_iinc (pc := 81) (v := nI (k + 1)) (L' := [(0, .ref (a 3)), (1, .long (bs sT)), (3, .ref (a 16)), (4, .ref (a 19)), (5, .long (bs (rdK (hitF sT eE (rkD mz sT eE t)) (rkD mz sT eE t) k))), (7, .int (nI t)), (8, .long (bs (fun i => sT i && (!((rkD mz sT eE t) i))))), (10, .int (nI (k + 1)))]) C 7 rfl (nI_inc _) (by decide) rfl dX2_rank_81 ?_
              refine a_goto (pc := 84) (tgt := 33) C (by decide) dX2_rank_84 ?_
              refine aw_L (L' := [(0, .ref (a 3)), (1, .long (bs sT)), (3, .ref (a 16)), (4, .ref (a 19)), (5, .long (bs (rdK (hitF sT eE (rkD mz sT eE t)) (rkD mz sT eE t) (k + 1)))), (7, .int (nI t)), (8, .long (bs (fun i => sT i && (!((rkD mz sT eE t) i))))), (10, .int (nI (k + 1)))]) (congrArg (fun zz9 => ([(0, .ref (a 3)), (1, .long (bs sT)), (3, .ref (a 16)), (4, .ref (a 19)), (5, .long zz9), (7, .int (nI t)), (8, .long (bs (fun i => sT i && (!((rkD mz sT eE t) i))))), (10, .int (nI (k + 1)))] : List (Nat × Value))) (congrArg bs (rdK_n (hit_n1 c2)) : (bs (rdK (hitF sT eE (rkD mz sT eE t)) (rkD mz sT eE t) k)) = (bs (rdK (hitF sT eE (rkD mz sT eE t)) (rkD mz sT eE t) (k + 1))))) ?_
              refine aw_eq (congrArg (fun zz9 => wC κ a n dug dtd so ph uf ul r ki lt er mz bd bo me dE eE lE li zz9 fA sL f fu fs ff fl xs ys zs oL oU lo up X) (rsK_n (hit_n1 c2) : (rsK (hitF sT eE (rkD mz sT eE t)) t (rkV mz sT eE fB t) k) = (rsK (hitF sT eE (rkD mz sT eE t)) t (rkV mz sT eE fB t) (k + 1)))) ?_
              exact ih (k + 1) (by omega)
            · refine a_aloadn (pc := 52) C 2 rfl rfl dX2_rank_52 ?_
              refine a_iload (pc := 53) C 7 rfl dX2_rank_53 ?_
              refine a_laldS (pc := 55) C 16 rfl (by omega) (by decide) dX2_rank_55 ?_
              refine a_lload (pc := 56) C 6 rfl dX2_rank_56 ?_
              refine a_land (pc := 58) (v := bs (fun i => (eE k) i && (sT i && (!((rkD mz sT eE t) i))))) C (bs_and _ _) dX2_rank_58 ?_
              refine a_lconst (pc := 59) (v := 0) C rfl dX2_rank_59 ?_
              refine a_lcmp (pc := 60) (v := lg_cmp (bs (fun i => (eE k) i && (sT i && (!((rkD mz sT eE t) i))))) (0 : Int64)) C rfl dX2_rank_60 ?_
              refine a_if_ne (pc := 61) (tgt := 81) C (by decide) dX2_rank_61 (fun c3 => ?_) (fun c3 => ?_)
              · refine a_iinc (pc := 81) (v := nI (k + 1)) (L' := [(0, .ref (a 3)), (1, .long (bs sT)), (3, .ref (a 16)), (4, .ref (a 19)), (5, .long (bs (rdK (hitF sT eE (rkD mz sT eE t)) (rkD mz sT eE t) k))), (7, .int (nI t)), (8, .long (bs (fun i => sT i && (!((rkD mz sT eE t) i))))), (10, .int (nI (k + 1)))]) C 7 rfl (nI_inc _) (by decide) rfl dX2_rank_81 ?_
                refine a_goto (pc := 84) (tgt := 33) C (by decide) dX2_rank_84 ?_
                refine aw_L (L' := [(0, .ref (a 3)), (1, .long (bs sT)), (3, .ref (a 16)), (4, .ref (a 19)), (5, .long (bs (rdK (hitF sT eE (rkD mz sT eE t)) (rkD mz sT eE t) (k + 1)))), (7, .int (nI t)), (8, .long (bs (fun i => sT i && (!((rkD mz sT eE t) i))))), (10, .int (nI (k + 1)))]) (congrArg (fun zz9 => ([(0, .ref (a 3)), (1, .long (bs sT)), (3, .ref (a 16)), (4, .ref (a 19)), (5, .long zz9), (7, .int (nI t)), (8, .long (bs (fun i => sT i && (!((rkD mz sT eE t) i))))), (10, .int (nI (k + 1)))] : List (Nat × Value))) (congrArg bs (rdK_n (hit_n2 c3)) : (bs (rdK (hitF sT eE (rkD mz sT eE t)) (rkD mz sT eE t) k)) = (bs (rdK (hitF sT eE (rkD mz sT eE t)) (rkD mz sT eE t) (k + 1))))) ?_
                refine aw_eq (congrArg (fun zz9 => wC κ a n dug dtd so ph uf ul r ki lt er mz bd bo me dE eE lE li zz9 fA sL f fu fs ff fl xs ys zs oL oU lo up X) (rsK_n (hit_n2 c3) : (rsK (hitF sT eE (rkD mz sT eE t)) t (rkV mz sT eE fB t) k) = (rsK (hitF sT eE (rkD mz sT eE t)) t (rkV mz sT eE fB t) (k + 1)))) ?_
                exact ih (k + 1) (by omega)
              · refine a_aload (pc := 64) C 3 rfl dX2_rank_64 ?_
                refine a_iload (pc := 66) C 7 rfl dX2_rank_66 ?_
                refine a_iload (pc := 68) C 5 rfl dX2_rank_68 ?_
                refine a_iast (pc := 70) (ws' := wC κ a n dug dtd so ph uf ul r ki lt er mz bd bo me dE eE lE li (va_up (rsK (hitF sT eE (rkD mz sT eE t)) t (rkV mz sT eE fB t) k) k (nI t)) fA sL f fu fs ff fl xs ys zs oL oU lo up X) C 19 rfl (by omega) (by decide) rfl rfl dX2_rank_70 ?_
                refine a_lload (pc := 71) C 4 rfl dX2_rank_71 ?_
                refine a_iload (pc := 73) C 7 rfl dX2_rank_73 ?_
                refine a_callSN1 (pc := 75) (k' := 0) (n' := 0) C (c_X5_bit κ (by omega)) yv_X5_bit ne_X2_97 ws_X5_bit rfl rfl (Nat.le_of_ble_eq_true rfl) (Nat.le_of_ble_eq_true rfl) (Nat.le_of_ble_eq_true rfl) ⟨(Nat.le_of_ble_eq_true rfl), (Nat.le_of_ble_eq_true rfl)⟩ rfl rfl dX2_rank_75 ?_
                refine a_lor (pc := 78) (v := bs (fun i => (rdK (hitF sT eE (rkD mz sT eE t)) (rkD mz sT eE t) k) i || (decide (i = k)))) C (bs_or _ _) dX2_rank_78 ?_
                refine a_lstore (pc := 79) (L' := [(0, .ref (a 3)), (1, .long (bs sT)), (3, .ref (a 16)), (4, .ref (a 19)), (5, .long (bs (fun i => (rdK (hitF sT eE (rkD mz sT eE t)) (rkD mz sT eE t) k) i || (decide (i = k))))), (7, .int (nI t)), (8, .long (bs (fun i => sT i && (!((rkD mz sT eE t) i))))), (10, .int (nI k))]) C (by decide) rfl dX2_rank_79 ?_
                refine a_iinc (pc := 81) (v := nI (k + 1)) (L' := [(0, .ref (a 3)), (1, .long (bs sT)), (3, .ref (a 16)), (4, .ref (a 19)), (5, .long (bs (fun i => (rdK (hitF sT eE (rkD mz sT eE t)) (rkD mz sT eE t) k) i || (decide (i = k))))), (7, .int (nI t)), (8, .long (bs (fun i => sT i && (!((rkD mz sT eE t) i))))), (10, .int (nI (k + 1)))]) C 7 rfl (nI_inc _) (by decide) rfl dX2_rank_81 ?_
                refine a_goto (pc := 84) (tgt := 33) C (by decide) dX2_rank_84 ?_
                refine aw_L (L' := [(0, .ref (a 3)), (1, .long (bs sT)), (3, .ref (a 16)), (4, .ref (a 19)), (5, .long (bs (rdK (hitF sT eE (rkD mz sT eE t)) (rkD mz sT eE t) (k + 1)))), (7, .int (nI t)), (8, .long (bs (fun i => sT i && (!((rkD mz sT eE t) i))))), (10, .int (nI (k + 1)))]) (congrArg (fun zz9 => ([(0, .ref (a 3)), (1, .long (bs sT)), (3, .ref (a 16)), (4, .ref (a 19)), (5, .long zz9), (7, .int (nI t)), (8, .long (bs (fun i => sT i && (!((rkD mz sT eE t) i))))), (10, .int (nI (k + 1)))] : List (Nat × Value))) (congrArg bs (rdK_y (hit_y c2 c3)) : (bs (fun i => (rdK (hitF sT eE (rkD mz sT eE t)) (rkD mz sT eE t) k) i || (decide (i = k)))) = (bs (rdK (hitF sT eE (rkD mz sT eE t)) (rkD mz sT eE t) (k + 1))))) ?_
                refine aw_eq (congrArg (fun zz9 => wC κ a n dug dtd so ph uf ul r ki lt er mz bd bo me dE eE lE li zz9 fA sL f fu fs ff fl xs ys zs oL oU lo up X) (rsK_y (hit_y c2 c3) : (va_up (rsK (hitF sT eE (rkD mz sT eE t)) t (rkV mz sT eE fB t) k) k (nI t)) = (rsK (hitF sT eE (rkD mz sT eE t)) t (rkV mz sT eE fB t) (k + 1)))) ?_
                exact ih (k + 1) (by omega)
        refine aw_L (L' := [(0, .ref (a 3)), (1, .long (bs sT)), (3, .ref (a 16)), (4, .ref (a 19)), (5, .long (bs (rdK (hitF sT eE (rkD mz sT eE t)) (rkD mz sT eE t) 0))), (7, .int (nI t)), (8, .long (bs (fun i => sT i && (!((rkD mz sT eE t) i))))), (10, .int (nI 0))]) (congrArg (fun zz9 => ([(0, .ref (a 3)), (1, .long (bs sT)), (3, .ref (a 16)), (4, .ref (a 19)), (5, .long zz9), (7, .int (nI t)), (8, .long (bs (fun i => sT i && (!((rkD mz sT eE t) i))))), (10, .int (nI 0))] : List (Nat × Value))) (congrArg bs (rdK_0 _ _).symm : (bs (rkD mz sT eE t)) = (bs (rdK (hitF sT eE (rkD mz sT eE t)) (rkD mz sT eE t) 0)))) ?_
        refine aw_eq (congrArg (fun zz9 => wC κ a n dug dtd so ph uf ul r ki lt er mz bd bo me dE eE lE li zz9 fA sL f fu fs ff fl xs ys zs oL oU lo up X) ((rsK_0 _ _ _).symm : (rkV mz sT eE fB t) = (rsK (hitF sT eE (rkD mz sT eE t)) t (rkV mz sT eE fB t) 0))) ?_
        exact LP33 (mz) (0) (by omega)
  refine aw_L (L' := [(0, .ref (a 3)), (1, .long (bs sT)), (3, .ref (a 16)), (4, .ref (a 19)), (5, .long (bs (rkD mz sT eE 0))), (7, .int (nI 0))]) (congrArg (fun zz9 => ([(0, .ref (a 3)), (1, .long (bs sT)), (3, .ref (a 16)), (4, .ref (a 19)), (5, .long zz9), (7, .int (nI 0))] : List (Nat × Value))) (rfl : (bs (fun _ => false)) = (bs (rkD mz sT eE 0)))) ?_
  refine aw_eq (congrArg (fun zz9 => wC κ a n dug dtd so ph uf ul r ki lt er mz bd bo me dE eE lE li zz9 fA sL f fu fs ff fl xs ys zs oL oU lo up X) (rfl : fB = (rkV mz sT eE fB 0))) ?_
  exact LP6 (40) (0) (by omega)
set_option maxHeartbeats 4000000 in
set_option maxRecDepth 100000 in
theorem c_X2_rank_lE_fA (κ : aK) (a : Nat → Nat) {n : Nat} {dug : Nat → Bool} {dtd : Nat → Bool} {so : Nat → Int32} {ph : Nat → Int32} {uf : Nat → Int32} {ul : Nat → Int32} {r : Nat} {ki : Nat → Int32} {lt : Nat → Nat} {er : Nat → Nat} {mz : Nat} {bd : Nat → Bool} {bo : Nat → Nat} {me : Nat → Nat → Bool} {dE : Nat → Nat → Bool} {eE : Nat → Nat → Bool} {lE : Nat → Nat → Bool} {li : Nat → Nat → Bool} {fB : Nat → Int32} {fA : Nat → Int32} {sL : Nat → Int32} {f : Nat} {fu : Nat → Nat} {fs : Nat → Int32} {ff : Nat → Int32} {fl : Nat → Int32} {xs : Nat → Int32} {ys : Nat → Int32} {zs : Nat → Int32} {oL : Nat → Int32} {oU : Nat → Int32} {lo : Nat → Int32} {up : Nat → Int32} {X : va_W} {sT : Nat → Bool} (hm : mz ≤ 40) : CM yX2_rank cX2_rank 11 none ({ frames := 2, cells := 0, slots := 0, locals := 42 } : Room) κ [.ref (a 3), .long (bs sT), .ref (a 17), .ref (a 20)] (wC κ a n dug dtd so ph uf ul r ki lt er mz bd bo me dE eE lE li fB fA sL f fu fs ff fl xs ys zs oL oU lo up X) (aD none (wC κ a n dug dtd so ph uf ul r ki lt er mz bd bo me dE eE lE li fB (rkV mz sT lE fA 40) sL f fu fs ff fl xs ys zs oL oU lo up X)) := by
  refine cm_entry (own := RX2) (L := [(0, .ref (a 3)), (1, .long (bs sT)), (3, .ref (a 17)), (4, .ref (a 20))]) (by decide +kernel) rfl (lv_entry [.ref (a 3), .long (bs sT), .ref (a 17), .ref (a 20)] (n := 11) (Nat.le_of_ble_eq_true rfl)) (fun g C E => ?_)
  refine a_lconst (pc := 0) (v := bs (fun _ => false)) C bs_0 dX2_rank_0 ?_
  refine a_lstore (pc := 1) (L' := [(0, .ref (a 3)), (1, .long (bs sT)), (3, .ref (a 17)), (4, .ref (a 20)), (5, .long (bs (fun _ => false)))]) C (by decide) rfl dX2_rank_1 ?_
  refine a_iconst (pc := 3) (v := nI 0) C ci_0 dX2_rank_3 ?_
  refine a_istore (pc := 4) (L' := [(0, .ref (a 3)), (1, .long (bs sT)), (3, .ref (a 17)), (4, .ref (a 20)), (5, .long (bs (fun _ => false))), (7, .int (nI 0))]) C (by decide) rfl dX2_rank_4 ?_
  have LP6 : ∀ (jz t : Nat), t + jz = 40 → aw g κ 11 6 [(0, .ref (a 3)), (1, .long (bs sT)), (3, .ref (a 17)), (4, .ref (a 20)), (5, .long (bs (rkD mz sT lE t))), (7, .int (nI t))] [] (wC κ a n dug dtd so ph uf ul r ki lt er mz bd bo me dE eE lE li fB (rkV mz sT lE fA t) sL f fu fs ff fl xs ys zs oL oU lo up X) 0 0 := by
    intro jz
    induction jz with
    | zero =>
      intro t hk_t
      obtain rfl : 40 = t := by omega
      refine a_iload (pc := 6) C 5 rfl dX2_rank_6 ?_
      refine a_bipush (pc := 8) (v := nI 40) C cb_40 dX2_rank_8 ?_
      refine a_icn_ge_y (pc := 10) (tgt := 93) C (by omega) (by omega) (by omega) (by decide) dX2_rank_10 ?_
      exact a_vret (pc := 93) C E (Nat.le_of_ble_eq_true rfl) (Nat.le_of_ble_eq_true rfl) ⟨rfl, rfl⟩ dX2_rank_93
    | succ jz ih =>
      intro t hk_t
      have hlt_t : t < 40 := by omega
      refine a_iload (pc := 6) C 5 rfl dX2_rank_6 ?_
      refine a_bipush (pc := 8) (v := nI 40) C cb_40 dX2_rank_8 ?_
      refine a_icn_ge_n (pc := 10) C (by omega) (by omega) (by omega) dX2_rank_10 ⟨93, by decide⟩ ?_
      refine a_lload (pc := 13) C 4 rfl dX2_rank_13 ?_
      refine a_lloadn (pc := 15) C 1 rfl rfl dX2_rank_15 ?_
      refine a_lcmp (pc := 16) (v := lg_cmp (bs (rkD mz sT lE t)) (bs sT)) C rfl dX2_rank_16 ?_
      refine a_if_eq (pc := 17) (tgt := 93) C (by decide) dX2_rank_17 (fun c1 => ?_) (fun c1 => ?_)
      · refine aw_eq (congrArg (fun zz9 => wC κ a n dug dtd so ph uf ul r ki lt er mz bd bo me dE eE lE li fB zz9 sL f fu fs ff fl xs ys zs oL oU lo up X) (rk_stab hm c1 (Nat.le_of_lt hlt_t) : (rkV mz sT lE fA t) = rkV mz sT lE fA 40)) ?_
        exact a_vret (pc := 93) C E (Nat.le_of_ble_eq_true rfl) (Nat.le_of_ble_eq_true rfl) ⟨rfl, rfl⟩ dX2_rank_93
      · refine a_lloadn (pc := 20) C 1 rfl rfl dX2_rank_20 ?_
        refine a_lload (pc := 21) C 4 rfl dX2_rank_21 ?_
        refine a_ldc2 (pc := 23) C kl_X2_101 dX2_rank_23 ?_
        refine a_lxor (pc := 26) (v := bs (fun i => !((rkD mz sT lE t) i))) C (bs_not _) dX2_rank_26 ?_
        refine a_land (pc := 27) (v := bs (fun i => sT i && (!((rkD mz sT lE t) i)))) C (bs_and _ _) dX2_rank_27 ?_
        refine a_lstore (pc := 28) (L' := [(0, .ref (a 3)), (1, .long (bs sT)), (3, .ref (a 17)), (4, .ref (a 20)), (5, .long (bs (rkD mz sT lE t))), (7, .int (nI t)), (8, .long (bs (fun i => sT i && (!((rkD mz sT lE t) i)))))]) C (by decide) rfl dX2_rank_28 ?_
        refine a_iconst (pc := 30) (v := nI 0) C ci_0 dX2_rank_30 ?_
        refine a_istore (pc := 31) (L' := [(0, .ref (a 3)), (1, .long (bs sT)), (3, .ref (a 17)), (4, .ref (a 20)), (5, .long (bs (rkD mz sT lE t))), (7, .int (nI t)), (8, .long (bs (fun i => sT i && (!((rkD mz sT lE t) i))))), (10, .int (nI 0))]) C (by decide) rfl dX2_rank_31 ?_
        have LP33 : ∀ (jz k : Nat), k + jz = mz → aw g κ 11 33 [(0, .ref (a 3)), (1, .long (bs sT)), (3, .ref (a 17)), (4, .ref (a 20)), (5, .long (bs (rdK (hitF sT lE (rkD mz sT lE t)) (rkD mz sT lE t) k))), (7, .int (nI t)), (8, .long (bs (fun i => sT i && (!((rkD mz sT lE t) i))))), (10, .int (nI k))] [] (wC κ a n dug dtd so ph uf ul r ki lt er mz bd bo me dE eE lE li fB (rsK (hitF sT lE (rkD mz sT lE t)) t (rkV mz sT lE fA t) k) sL f fu fs ff fl xs ys zs oL oU lo up X) 0 0 := by
          intro jz
          induction jz with
          | zero =>
            intro k hk_k
            obtain rfl : mz = k := by omega
            refine a_iload (pc := 33) C 7 rfl dX2_rank_33 ?_
            refine a_aloadn (pc := 35) C 0 rfl rfl dX2_rank_35 ?_
            refine a_get (pc := 36) C fl_X2_44 3 rfl rfl dX2_rank_36 ?_
            refine a_icn_ge_y (pc := 39) (tgt := 87) C (by omega) (by omega) (by omega) (by decide) dX2_rank_39 ?_
            refine a_iinc (pc := 87) (v := nI (t + 1)) (L' := [(0, .ref (a 3)), (1, .long (bs sT)), (3, .ref (a 17)), (4, .ref (a 20)), (5, .long (bs (rdK (hitF sT lE (rkD mz sT lE t)) (rkD mz sT lE t) mz))), (7, .int (nI (t + 1))), (8, .long (bs (fun i => sT i && (!((rkD mz sT lE t) i))))), (10, .int (nI mz))]) C 5 rfl (nI_inc _) (by decide) rfl dX2_rank_87 ?_
            refine a_goto (pc := 90) (tgt := 6) C (by decide) dX2_rank_90 ?_
            refine aw_locals (L' := [(0, .ref (a 3)), (1, .long (bs sT)), (3, .ref (a 17)), (4, .ref (a 20)), (5, .long (bs (rdK (hitF sT lE (rkD mz sT lE t)) (rkD mz sT lE t) mz))), (7, .int (nI (t + 1)))]) [0, 1, 2, 3, 4, 5] rfl ?_
            refine aw_L (L' := [(0, .ref (a 3)), (1, .long (bs sT)), (3, .ref (a 17)), (4, .ref (a 20)), (5, .long (bs (rkD mz sT lE (t + 1)))), (7, .int (nI (t + 1)))]) (congrArg (fun zz9 => ([(0, .ref (a 3)), (1, .long (bs sT)), (3, .ref (a 17)), (4, .ref (a 20)), (5, .long zz9), (7, .int (nI (t + 1)))] : List (Nat × Value))) (rfl : (bs (rdK (hitF sT lE (rkD mz sT lE t)) (rkD mz sT lE t) mz)) = (bs (rkD mz sT lE (t + 1))))) ?_
            refine aw_eq (congrArg (fun zz9 => wC κ a n dug dtd so ph uf ul r ki lt er mz bd bo me dE eE lE li fB zz9 sL f fu fs ff fl xs ys zs oL oU lo up X) (rfl : (rsK (hitF sT lE (rkD mz sT lE t)) t (rkV mz sT lE fA t) mz) = (rkV mz sT lE fA (t + 1)))) ?_
            exact ih (t + 1) (by omega)
          | succ jz ih =>
            intro k hk_k
            have hlt_k : k < mz := by omega
            refine a_iload (pc := 33) C 7 rfl dX2_rank_33 ?_
            refine a_aloadn (pc := 35) C 0 rfl rfl dX2_rank_35 ?_
            refine a_get (pc := 36) C fl_X2_44 3 rfl rfl dX2_rank_36 ?_
            refine a_icn_ge_n (pc := 39) C (by omega) (by omega) (by omega) dX2_rank_39 ⟨87, by decide⟩ ?_
            refine a_lload (pc := 42) C 6 rfl dX2_rank_42 ?_
            refine a_iload (pc := 44) C 7 rfl dX2_rank_44 ?_
            refine a_callSN1 (pc := 46) (k' := 0) (n' := 0) C (c_X5_has κ (by omega)) yv_X5_has ne_X2_40 ws_X5_has rfl rfl (Nat.le_of_ble_eq_true rfl) (Nat.le_of_ble_eq_true rfl) (Nat.le_of_ble_eq_true rfl) ⟨(Nat.le_of_ble_eq_true rfl), (Nat.le_of_ble_eq_true rfl)⟩ rfl rfl dX2_rank_46 ?_
            refine a_ifb_eq (pc := 49) (tgt := 81) C (by decide) dX2_rank_49 (fun c2 => ?_) (fun c2 => ?_)
            · refine a_iinc (pc := 81) (v := nI (k + 1)) (L' := [(0, .ref (a 3)), (1, .long (bs sT)), (3, .ref (a 17)), (4, .ref (a 20)), (5, .long (bs (rdK (hitF sT lE (rkD mz sT lE t)) (rkD mz sT lE t) k))), (7, .int (nI t)), (8, .long (bs (fun i => sT i && (!((rkD mz sT lE t) i))))), (10, .int (nI (k + 1)))]) C 7 rfl (nI_inc _) (by decide) rfl dX2_rank_81 ?_
              refine a_goto (pc := 84) (tgt := 33) C (by decide) dX2_rank_84 ?_
              refine aw_L (L' := [(0, .ref (a 3)), (1, .long (bs sT)), (3, .ref (a 17)), (4, .ref (a 20)), (5, .long (bs (rdK (hitF sT lE (rkD mz sT lE t)) (rkD mz sT lE t) (k + 1)))), (7, .int (nI t)), (8, .long (bs (fun i => sT i && (!((rkD mz sT lE t) i))))), (10, .int (nI (k + 1)))]) (congrArg (fun zz9 => ([(0, .ref (a 3)), (1, .long (bs sT)), (3, .ref (a 17)), (4, .ref (a 20)), (5, .long zz9), (7, .int (nI t)), (8, .long (bs (fun i => sT i && (!((rkD mz sT lE t) i))))), (10, .int (nI (k + 1)))] : List (Nat × Value))) (congrArg bs (rdK_n (hit_n1 c2)) : (bs (rdK (hitF sT lE (rkD mz sT lE t)) (rkD mz sT lE t) k)) = (bs (rdK (hitF sT lE (rkD mz sT lE t)) (rkD mz sT lE t) (k + 1))))) ?_
              refine aw_eq (congrArg (fun zz9 => wC κ a n dug dtd so ph uf ul r ki lt er mz bd bo me dE eE lE li fB zz9 sL f fu fs ff fl xs ys zs oL oU lo up X) (rsK_n (hit_n1 c2) : (rsK (hitF sT lE (rkD mz sT lE t)) t (rkV mz sT lE fA t) k) = (rsK (hitF sT lE (rkD mz sT lE t)) t (rkV mz sT lE fA t) (k + 1)))) ?_
              exact ih (k + 1) (by omega)
            · refine a_aloadn (pc := 52) C 2 rfl rfl dX2_rank_52 ?_
              refine a_iload (pc := 53) C 7 rfl dX2_rank_53 ?_
              refine a_laldS (pc := 55) C 17 rfl (by omega) (by decide) dX2_rank_55 ?_
              refine a_lload (pc := 56) C 6 rfl dX2_rank_56 ?_
              refine a_land (pc := 58) (v := bs (fun i => (lE k) i && (sT i && (!((rkD mz sT lE t) i))))) C (bs_and _ _) dX2_rank_58 ?_
              refine a_lconst (pc := 59) (v := 0) C rfl dX2_rank_59 ?_
              refine a_lcmp (pc := 60) (v := lg_cmp (bs (fun i => (lE k) i && (sT i && (!((rkD mz sT lE t) i))))) (0 : Int64)) C rfl dX2_rank_60 ?_
              refine a_if_ne (pc := 61) (tgt := 81) C (by decide) dX2_rank_61 (fun c3 => ?_) (fun c3 => ?_)
              · refine a_iinc (pc := 81) (v := nI (k + 1)) (L' := [(0, .ref (a 3)), (1, .long (bs sT)), (3, .ref (a 17)), (4, .ref (a 20)), (5, .long (bs (rdK (hitF sT lE (rkD mz sT lE t)) (rkD mz sT lE t) k))), (7, .int (nI t)), (8, .long (bs (fun i => sT i && (!((rkD mz sT lE t) i))))), (10, .int (nI (k + 1)))]) C 7 rfl (nI_inc _) (by decide) rfl dX2_rank_81 ?_
                refine a_goto (pc := 84) (tgt := 33) C (by decide) dX2_rank_84 ?_
                refine aw_L (L' := [(0, .ref (a 3)), (1, .long (bs sT)), (3, .ref (a 17)), (4, .ref (a 20)), (5, .long (bs (rdK (hitF sT lE (rkD mz sT lE t)) (rkD mz sT lE t) (k + 1)))), (7, .int (nI t)), (8, .long (bs (fun i => sT i && (!((rkD mz sT lE t) i))))), (10, .int (nI (k + 1)))]) (congrArg (fun zz9 => ([(0, .ref (a 3)), (1, .long (bs sT)), (3, .ref (a 17)), (4, .ref (a 20)), (5, .long zz9), (7, .int (nI t)), (8, .long (bs (fun i => sT i && (!((rkD mz sT lE t) i))))), (10, .int (nI (k + 1)))] : List (Nat × Value))) (congrArg bs (rdK_n (hit_n2 c3)) : (bs (rdK (hitF sT lE (rkD mz sT lE t)) (rkD mz sT lE t) k)) = (bs (rdK (hitF sT lE (rkD mz sT lE t)) (rkD mz sT lE t) (k + 1))))) ?_
                refine aw_eq (congrArg (fun zz9 => wC κ a n dug dtd so ph uf ul r ki lt er mz bd bo me dE eE lE li fB zz9 sL f fu fs ff fl xs ys zs oL oU lo up X) (rsK_n (hit_n2 c3) : (rsK (hitF sT lE (rkD mz sT lE t)) t (rkV mz sT lE fA t) k) = (rsK (hitF sT lE (rkD mz sT lE t)) t (rkV mz sT lE fA t) (k + 1)))) ?_
                exact ih (k + 1) (by omega)
              · refine a_aload (pc := 64) C 3 rfl dX2_rank_64 ?_
                refine a_iload (pc := 66) C 7 rfl dX2_rank_66 ?_
                refine a_iload (pc := 68) C 5 rfl dX2_rank_68 ?_
                refine a_iast (pc := 70) (ws' := wC κ a n dug dtd so ph uf ul r ki lt er mz bd bo me dE eE lE li fB (va_up (rsK (hitF sT lE (rkD mz sT lE t)) t (rkV mz sT lE fA t) k) k (nI t)) sL f fu fs ff fl xs ys zs oL oU lo up X) C 20 rfl (by omega) (by decide) rfl rfl dX2_rank_70 ?_
                refine a_lload (pc := 71) C 4 rfl dX2_rank_71 ?_
                refine a_iload (pc := 73) C 7 rfl dX2_rank_73 ?_
                refine a_callSN1 (pc := 75) (k' := 0) (n' := 0) C (c_X5_bit κ (by omega)) yv_X5_bit ne_X2_97 ws_X5_bit rfl rfl (Nat.le_of_ble_eq_true rfl) (Nat.le_of_ble_eq_true rfl) (Nat.le_of_ble_eq_true rfl) ⟨(Nat.le_of_ble_eq_true rfl), (Nat.le_of_ble_eq_true rfl)⟩ rfl rfl dX2_rank_75 ?_
                refine a_lor (pc := 78) (v := bs (fun i => (rdK (hitF sT lE (rkD mz sT lE t)) (rkD mz sT lE t) k) i || (decide (i = k)))) C (bs_or _ _) dX2_rank_78 ?_
                refine a_lstore (pc := 79) (L' := [(0, .ref (a 3)), (1, .long (bs sT)), (3, .ref (a 17)), (4, .ref (a 20)), (5, .long (bs (fun i => (rdK (hitF sT lE (rkD mz sT lE t)) (rkD mz sT lE t) k) i || (decide (i = k))))), (7, .int (nI t)), (8, .long (bs (fun i => sT i && (!((rkD mz sT lE t) i))))), (10, .int (nI k))]) C (by decide) rfl dX2_rank_79 ?_
                refine a_iinc (pc := 81) (v := nI (k + 1)) (L' := [(0, .ref (a 3)), (1, .long (bs sT)), (3, .ref (a 17)), (4, .ref (a 20)), (5, .long (bs (fun i => (rdK (hitF sT lE (rkD mz sT lE t)) (rkD mz sT lE t) k) i || (decide (i = k))))), (7, .int (nI t)), (8, .long (bs (fun i => sT i && (!((rkD mz sT lE t) i))))), (10, .int (nI (k + 1)))]) C 7 rfl (nI_inc _) (by decide) rfl dX2_rank_81 ?_
                refine a_goto (pc := 84) (tgt := 33) C (by decide) dX2_rank_84 ?_
                refine aw_L (L' := [(0, .ref (a 3)), (1, .long (bs sT)), (3, .ref (a 17)), (4, .ref (a 20)), (5, .long (bs (rdK (hitF sT lE (rkD mz sT lE t)) (rkD mz sT lE t) (k + 1)))), (7, .int (nI t)), (8, .long (bs (fun i => sT i && (!((rkD mz sT lE t) i))))), (10, .int (nI (k + 1)))]) (congrArg (fun zz9 => ([(0, .ref (a 3)), (1, .long (bs sT)), (3, .ref (a 17)), (4, .ref (a 20)), (5, .long zz9), (7, .int (nI t)), (8, .long (bs (fun i => sT i && (!((rkD mz sT lE t) i))))), (10, .int (nI (k + 1)))] : List (Nat × Value))) (congrArg bs (rdK_y (hit_y c2 c3)) : (bs (fun i => (rdK (hitF sT lE (rkD mz sT lE t)) (rkD mz sT lE t) k) i || (decide (i = k)))) = (bs (rdK (hitF sT lE (rkD mz sT lE t)) (rkD mz sT lE t) (k + 1))))) ?_
                refine aw_eq (congrArg (fun zz9 => wC κ a n dug dtd so ph uf ul r ki lt er mz bd bo me dE eE lE li fB zz9 sL f fu fs ff fl xs ys zs oL oU lo up X) (rsK_y (hit_y c2 c3) : (va_up (rsK (hitF sT lE (rkD mz sT lE t)) t (rkV mz sT lE fA t) k) k (nI t)) = (rsK (hitF sT lE (rkD mz sT lE t)) t (rkV mz sT lE fA t) (k + 1)))) ?_
                exact ih (k + 1) (by omega)
        refine aw_L (L' := [(0, .ref (a 3)), (1, .long (bs sT)), (3, .ref (a 17)), (4, .ref (a 20)), (5, .long (bs (rdK (hitF sT lE (rkD mz sT lE t)) (rkD mz sT lE t) 0))), (7, .int (nI t)), (8, .long (bs (fun i => sT i && (!((rkD mz sT lE t) i))))), (10, .int (nI 0))]) (congrArg (fun zz9 => ([(0, .ref (a 3)), (1, .long (bs sT)), (3, .ref (a 17)), (4, .ref (a 20)), (5, .long zz9), (7, .int (nI t)), (8, .long (bs (fun i => sT i && (!((rkD mz sT lE t) i))))), (10, .int (nI 0))] : List (Nat × Value))) (congrArg bs (rdK_0 _ _).symm : (bs (rkD mz sT lE t)) = (bs (rdK (hitF sT lE (rkD mz sT lE t)) (rkD mz sT lE t) 0)))) ?_
        refine aw_eq (congrArg (fun zz9 => wC κ a n dug dtd so ph uf ul r ki lt er mz bd bo me dE eE lE li fB zz9 sL f fu fs ff fl xs ys zs oL oU lo up X) ((rsK_0 _ _ _).symm : (rkV mz sT lE fA t) = (rsK (hitF sT lE (rkD mz sT lE t)) t (rkV mz sT lE fA t) 0))) ?_
        exact LP33 (mz) (0) (by omega)
  refine aw_L (L' := [(0, .ref (a 3)), (1, .long (bs sT)), (3, .ref (a 17)), (4, .ref (a 20)), (5, .long (bs (rkD mz sT lE 0))), (7, .int (nI 0))]) (congrArg (fun zz9 => ([(0, .ref (a 3)), (1, .long (bs sT)), (3, .ref (a 17)), (4, .ref (a 20)), (5, .long zz9), (7, .int (nI 0))] : List (Nat × Value))) (rfl : (bs (fun _ => false)) = (bs (rkD mz sT lE 0)))) ?_
  refine aw_eq (congrArg (fun zz9 => wC κ a n dug dtd so ph uf ul r ki lt er mz bd bo me dE eE lE li fB zz9 sL f fu fs ff fl xs ys zs oL oU lo up X) (rfl : fA = (rkV mz sT lE fA 0))) ?_
  exact LP6 (40) (0) (by omega)
set_option maxHeartbeats 4000000 in
set_option maxRecDepth 100000 in
theorem c_X2_rank_eE_sL (κ : aK) (a : Nat → Nat) {n : Nat} {dug : Nat → Bool} {dtd : Nat → Bool} {so : Nat → Int32} {ph : Nat → Int32} {uf : Nat → Int32} {ul : Nat → Int32} {r : Nat} {ki : Nat → Int32} {lt : Nat → Nat} {er : Nat → Nat} {mz : Nat} {bd : Nat → Bool} {bo : Nat → Nat} {me : Nat → Nat → Bool} {dE : Nat → Nat → Bool} {eE : Nat → Nat → Bool} {lE : Nat → Nat → Bool} {li : Nat → Nat → Bool} {fB : Nat → Int32} {fA : Nat → Int32} {sL : Nat → Int32} {f : Nat} {fu : Nat → Nat} {fs : Nat → Int32} {ff : Nat → Int32} {fl : Nat → Int32} {xs : Nat → Int32} {ys : Nat → Int32} {zs : Nat → Int32} {oL : Nat → Int32} {oU : Nat → Int32} {lo : Nat → Int32} {up : Nat → Int32} {X : va_W} {sT : Nat → Bool} (hm : mz ≤ 40) : CM yX2_rank cX2_rank 11 none ({ frames := 2, cells := 0, slots := 0, locals := 42 } : Room) κ [.ref (a 3), .long (bs sT), .ref (a 16), .ref (a 21)] (wC κ a n dug dtd so ph uf ul r ki lt er mz bd bo me dE eE lE li fB fA sL f fu fs ff fl xs ys zs oL oU lo up X) (aD none (wC κ a n dug dtd so ph uf ul r ki lt er mz bd bo me dE eE lE li fB fA (rkV mz sT eE sL 40) f fu fs ff fl xs ys zs oL oU lo up X)) := by
  refine cm_entry (own := RX2) (L := [(0, .ref (a 3)), (1, .long (bs sT)), (3, .ref (a 16)), (4, .ref (a 21))]) (by decide +kernel) rfl (lv_entry [.ref (a 3), .long (bs sT), .ref (a 16), .ref (a 21)] (n := 11) (Nat.le_of_ble_eq_true rfl)) (fun g C E => ?_)
  refine a_lconst (pc := 0) (v := bs (fun _ => false)) C bs_0 dX2_rank_0 ?_
  refine a_lstore (pc := 1) (L' := [(0, .ref (a 3)), (1, .long (bs sT)), (3, .ref (a 16)), (4, .ref (a 21)), (5, .long (bs (fun _ => false)))]) C (by decide) rfl dX2_rank_1 ?_
  refine a_iconst (pc := 3) (v := nI 0) C ci_0 dX2_rank_3 ?_
  refine a_istore (pc := 4) (L' := [(0, .ref (a 3)), (1, .long (bs sT)), (3, .ref (a 16)), (4, .ref (a 21)), (5, .long (bs (fun _ => false))), (7, .int (nI 0))]) C (by decide) rfl dX2_rank_4 ?_
  have LP6 : ∀ (jz t : Nat), t + jz = 40 → aw g κ 11 6 [(0, .ref (a 3)), (1, .long (bs sT)), (3, .ref (a 16)), (4, .ref (a 21)), (5, .long (bs (rkD mz sT eE t))), (7, .int (nI t))] [] (wC κ a n dug dtd so ph uf ul r ki lt er mz bd bo me dE eE lE li fB fA (rkV mz sT eE sL t) f fu fs ff fl xs ys zs oL oU lo up X) 0 0 := by
    intro jz
    induction jz with
    | zero =>
      intro t hk_t
      obtain rfl : 40 = t := by omega
      refine a_iload (pc := 6) C 5 rfl dX2_rank_6 ?_
      refine a_bipush (pc := 8) (v := nI 40) C cb_40 dX2_rank_8 ?_
      refine a_icn_ge_y (pc := 10) (tgt := 93) C (by omega) (by omega) (by omega) (by decide) dX2_rank_10 ?_
      exact a_vret (pc := 93) C E (Nat.le_of_ble_eq_true rfl) (Nat.le_of_ble_eq_true rfl) ⟨rfl, rfl⟩ dX2_rank_93
    | succ jz ih =>
      intro t hk_t
      have hlt_t : t < 40 := by omega
      refine a_iload (pc := 6) C 5 rfl dX2_rank_6 ?_
      refine a_bipush (pc := 8) (v := nI 40) C cb_40 dX2_rank_8 ?_
      refine a_icn_ge_n (pc := 10) C (by omega) (by omega) (by omega) dX2_rank_10 ⟨93, by decide⟩ ?_
      refine a_lload (pc := 13) C 4 rfl dX2_rank_13 ?_
      refine a_lloadn (pc := 15) C 1 rfl rfl dX2_rank_15 ?_
      refine a_lcmp (pc := 16) (v := lg_cmp (bs (rkD mz sT eE t)) (bs sT)) C rfl dX2_rank_16 ?_
      refine a_if_eq (pc := 17) (tgt := 93) C (by decide) dX2_rank_17 (fun c1 => ?_) (fun c1 => ?_)
      · refine aw_eq (congrArg (fun zz9 => wC κ a n dug dtd so ph uf ul r ki lt er mz bd bo me dE eE lE li fB fA zz9 f fu fs ff fl xs ys zs oL oU lo up X) (rk_stab hm c1 (Nat.le_of_lt hlt_t) : (rkV mz sT eE sL t) = rkV mz sT eE sL 40)) ?_
        exact a_vret (pc := 93) C E (Nat.le_of_ble_eq_true rfl) (Nat.le_of_ble_eq_true rfl) ⟨rfl, rfl⟩ dX2_rank_93
      · refine a_lloadn (pc := 20) C 1 rfl rfl dX2_rank_20 ?_
        refine a_lload (pc := 21) C 4 rfl dX2_rank_21 ?_
        refine a_ldc2 (pc := 23) C kl_X2_101 dX2_rank_23 ?_
        refine a_lxor (pc := 26) (v := bs (fun i => !((rkD mz sT eE t) i))) C (bs_not _) dX2_rank_26 ?_
        refine a_land (pc := 27) (v := bs (fun i => sT i && (!((rkD mz sT eE t) i)))) C (bs_and _ _) dX2_rank_27 ?_
        refine a_lstore (pc := 28) (L' := [(0, .ref (a 3)), (1, .long (bs sT)), (3, .ref (a 16)), (4, .ref (a 21)), (5, .long (bs (rkD mz sT eE t))), (7, .int (nI t)), (8, .long (bs (fun i => sT i && (!((rkD mz sT eE t) i)))))]) C (by decide) rfl dX2_rank_28 ?_
        refine a_iconst (pc := 30) (v := nI 0) C ci_0 dX2_rank_30 ?_
        refine a_istore (pc := 31) (L' := [(0, .ref (a 3)), (1, .long (bs sT)), (3, .ref (a 16)), (4, .ref (a 21)), (5, .long (bs (rkD mz sT eE t))), (7, .int (nI t)), (8, .long (bs (fun i => sT i && (!((rkD mz sT eE t) i))))), (10, .int (nI 0))]) C (by decide) rfl dX2_rank_31 ?_
        have LP33 : ∀ (jz k : Nat), k + jz = mz → aw g κ 11 33 [(0, .ref (a 3)), (1, .long (bs sT)), (3, .ref (a 16)), (4, .ref (a 21)), (5, .long (bs (rdK (hitF sT eE (rkD mz sT eE t)) (rkD mz sT eE t) k))), (7, .int (nI t)), (8, .long (bs (fun i => sT i && (!((rkD mz sT eE t) i))))), (10, .int (nI k))] [] (wC κ a n dug dtd so ph uf ul r ki lt er mz bd bo me dE eE lE li fB fA (rsK (hitF sT eE (rkD mz sT eE t)) t (rkV mz sT eE sL t) k) f fu fs ff fl xs ys zs oL oU lo up X) 0 0 := by
          intro jz
          induction jz with
          | zero =>
            intro k hk_k
            obtain rfl : mz = k := by omega
            refine a_iload (pc := 33) C 7 rfl dX2_rank_33 ?_
            refine a_aloadn (pc := 35) C 0 rfl rfl dX2_rank_35 ?_
            refine a_get (pc := 36) C fl_X2_44 3 rfl rfl dX2_rank_36 ?_
            refine a_icn_ge_y (pc := 39) (tgt := 87) C (by omega) (by omega) (by omega) (by decide) dX2_rank_39 ?_
            refine a_iinc (pc := 87) (v := nI (t + 1)) (L' := [(0, .ref (a 3)), (1, .long (bs sT)), (3, .ref (a 16)), (4, .ref (a 21)), (5, .long (bs (rdK (hitF sT eE (rkD mz sT eE t)) (rkD mz sT eE t) mz))), (7, .int (nI (t + 1))), (8, .long (bs (fun i => sT i && (!((rkD mz sT eE t) i))))), (10, .int (nI mz))]) C 5 rfl (nI_inc _) (by decide) rfl dX2_rank_87 ?_
            refine a_goto (pc := 90) (tgt := 6) C (by decide) dX2_rank_90 ?_
            refine aw_locals (L' := [(0, .ref (a 3)), (1, .long (bs sT)), (3, .ref (a 16)), (4, .ref (a 21)), (5, .long (bs (rdK (hitF sT eE (rkD mz sT eE t)) (rkD mz sT eE t) mz))), (7, .int (nI (t + 1)))]) [0, 1, 2, 3, 4, 5] rfl ?_
            refine aw_L (L' := [(0, .ref (a 3)), (1, .long (bs sT)), (3, .ref (a 16)), (4, .ref (a 21)), (5, .long (bs (rkD mz sT eE (t + 1)))), (7, .int (nI (t + 1)))]) (congrArg (fun zz9 => ([(0, .ref (a 3)), (1, .long (bs sT)), (3, .ref (a 16)), (4, .ref (a 21)), (5, .long zz9), (7, .int (nI (t + 1)))] : List (Nat × Value))) (rfl : (bs (rdK (hitF sT eE (rkD mz sT eE t)) (rkD mz sT eE t) mz)) = (bs (rkD mz sT eE (t + 1))))) ?_
            refine aw_eq (congrArg (fun zz9 => wC κ a n dug dtd so ph uf ul r ki lt er mz bd bo me dE eE lE li fB fA zz9 f fu fs ff fl xs ys zs oL oU lo up X) (rfl : (rsK (hitF sT eE (rkD mz sT eE t)) t (rkV mz sT eE sL t) mz) = (rkV mz sT eE sL (t + 1)))) ?_
            exact ih (t + 1) (by omega)
          | succ jz ih =>
            intro k hk_k
            have hlt_k : k < mz := by omega
            refine a_iload (pc := 33) C 7 rfl dX2_rank_33 ?_
            refine a_aloadn (pc := 35) C 0 rfl rfl dX2_rank_35 ?_
            refine a_get (pc := 36) C fl_X2_44 3 rfl rfl dX2_rank_36 ?_
            refine a_icn_ge_n (pc := 39) C (by omega) (by omega) (by omega) dX2_rank_39 ⟨87, by decide⟩ ?_
            refine a_lload (pc := 42) C 6 rfl dX2_rank_42 ?_
            refine a_iload (pc := 44) C 7 rfl dX2_rank_44 ?_
            refine a_callSN1 (pc := 46) (k' := 0) (n' := 0) C (c_X5_has κ (by omega)) yv_X5_has ne_X2_40 ws_X5_has rfl rfl (Nat.le_of_ble_eq_true rfl) (Nat.le_of_ble_eq_true rfl) (Nat.le_of_ble_eq_true rfl) ⟨(Nat.le_of_ble_eq_true rfl), (Nat.le_of_ble_eq_true rfl)⟩ rfl rfl dX2_rank_46 ?_
            refine a_ifb_eq (pc := 49) (tgt := 81) C (by decide) dX2_rank_49 (fun c2 => ?_) (fun c2 => ?_)
            · refine a_iinc (pc := 81) (v := nI (k + 1)) (L' := [(0, .ref (a 3)), (1, .long (bs sT)), (3, .ref (a 16)), (4, .ref (a 21)), (5, .long (bs (rdK (hitF sT eE (rkD mz sT eE t)) (rkD mz sT eE t) k))), (7, .int (nI t)), (8, .long (bs (fun i => sT i && (!((rkD mz sT eE t) i))))), (10, .int (nI (k + 1)))]) C 7 rfl (nI_inc _) (by decide) rfl dX2_rank_81 ?_
              refine a_goto (pc := 84) (tgt := 33) C (by decide) dX2_rank_84 ?_
              refine aw_L (L' := [(0, .ref (a 3)), (1, .long (bs sT)), (3, .ref (a 16)), (4, .ref (a 21)), (5, .long (bs (rdK (hitF sT eE (rkD mz sT eE t)) (rkD mz sT eE t) (k + 1)))), (7, .int (nI t)), (8, .long (bs (fun i => sT i && (!((rkD mz sT eE t) i))))), (10, .int (nI (k + 1)))]) (congrArg (fun zz9 => ([(0, .ref (a 3)), (1, .long (bs sT)), (3, .ref (a 16)), (4, .ref (a 21)), (5, .long zz9), (7, .int (nI t)), (8, .long (bs (fun i => sT i && (!((rkD mz sT eE t) i))))), (10, .int (nI (k + 1)))] : List (Nat × Value))) (congrArg bs (rdK_n (hit_n1 c2)) : (bs (rdK (hitF sT eE (rkD mz sT eE t)) (rkD mz sT eE t) k)) = (bs (rdK (hitF sT eE (rkD mz sT eE t)) (rkD mz sT eE t) (k + 1))))) ?_
              refine aw_eq (congrArg (fun zz9 => wC κ a n dug dtd so ph uf ul r ki lt er mz bd bo me dE eE lE li fB fA zz9 f fu fs ff fl xs ys zs oL oU lo up X) (rsK_n (hit_n1 c2) : (rsK (hitF sT eE (rkD mz sT eE t)) t (rkV mz sT eE sL t) k) = (rsK (hitF sT eE (rkD mz sT eE t)) t (rkV mz sT eE sL t) (k + 1)))) ?_
              exact ih (k + 1) (by omega)
            · refine a_aloadn (pc := 52) C 2 rfl rfl dX2_rank_52 ?_
              refine a_iload (pc := 53) C 7 rfl dX2_rank_53 ?_
              refine a_laldS (pc := 55) C 16 rfl (by omega) (by decide) dX2_rank_55 ?_
              refine a_lload (pc := 56) C 6 rfl dX2_rank_56 ?_
              refine a_land (pc := 58) (v := bs (fun i => (eE k) i && (sT i && (!((rkD mz sT eE t) i))))) C (bs_and _ _) dX2_rank_58 ?_
              refine a_lconst (pc := 59) (v := 0) C rfl dX2_rank_59 ?_
              refine a_lcmp (pc := 60) (v := lg_cmp (bs (fun i => (eE k) i && (sT i && (!((rkD mz sT eE t) i))))) (0 : Int64)) C rfl dX2_rank_60 ?_
              refine a_if_ne (pc := 61) (tgt := 81) C (by decide) dX2_rank_61 (fun c3 => ?_) (fun c3 => ?_)
              · refine a_iinc (pc := 81) (v := nI (k + 1)) (L' := [(0, .ref (a 3)), (1, .long (bs sT)), (3, .ref (a 16)), (4, .ref (a 21)), (5, .long (bs (rdK (hitF sT eE (rkD mz sT eE t)) (rkD mz sT eE t) k))), (7, .int (nI t)), (8, .long (bs (fun i => sT i && (!((rkD mz sT eE t) i))))), (10, .int (nI (k + 1)))]) C 7 rfl (nI_inc _) (by decide) rfl dX2_rank_81 ?_
                refine a_goto (pc := 84) (tgt := 33) C (by decide) dX2_rank_84 ?_
                refine aw_L (L' := [(0, .ref (a 3)), (1, .long (bs sT)), (3, .ref (a 16)), (4, .ref (a 21)), (5, .long (bs (rdK (hitF sT eE (rkD mz sT eE t)) (rkD mz sT eE t) (k + 1)))), (7, .int (nI t)), (8, .long (bs (fun i => sT i && (!((rkD mz sT eE t) i))))), (10, .int (nI (k + 1)))]) (congrArg (fun zz9 => ([(0, .ref (a 3)), (1, .long (bs sT)), (3, .ref (a 16)), (4, .ref (a 21)), (5, .long zz9), (7, .int (nI t)), (8, .long (bs (fun i => sT i && (!((rkD mz sT eE t) i))))), (10, .int (nI (k + 1)))] : List (Nat × Value))) (congrArg bs (rdK_n (hit_n2 c3)) : (bs (rdK (hitF sT eE (rkD mz sT eE t)) (rkD mz sT eE t) k)) = (bs (rdK (hitF sT eE (rkD mz sT eE t)) (rkD mz sT eE t) (k + 1))))) ?_
                refine aw_eq (congrArg (fun zz9 => wC κ a n dug dtd so ph uf ul r ki lt er mz bd bo me dE eE lE li fB fA zz9 f fu fs ff fl xs ys zs oL oU lo up X) (rsK_n (hit_n2 c3) : (rsK (hitF sT eE (rkD mz sT eE t)) t (rkV mz sT eE sL t) k) = (rsK (hitF sT eE (rkD mz sT eE t)) t (rkV mz sT eE sL t) (k + 1)))) ?_
                exact ih (k + 1) (by omega)
              · refine a_aload (pc := 64) C 3 rfl dX2_rank_64 ?_
                refine a_iload (pc := 66) C 7 rfl dX2_rank_66 ?_
                refine a_iload (pc := 68) C 5 rfl dX2_rank_68 ?_
                refine a_iast (pc := 70) (ws' := wC κ a n dug dtd so ph uf ul r ki lt er mz bd bo me dE eE lE li fB fA (va_up (rsK (hitF sT eE (rkD mz sT eE t)) t (rkV mz sT eE sL t) k) k (nI t)) f fu fs ff fl xs ys zs oL oU lo up X) C 21 rfl (by omega) (by decide) rfl rfl dX2_rank_70 ?_
                refine a_lload (pc := 71) C 4 rfl dX2_rank_71 ?_
                refine a_iload (pc := 73) C 7 rfl dX2_rank_73 ?_
                refine a_callSN1 (pc := 75) (k' := 0) (n' := 0) C (c_X5_bit κ (by omega)) yv_X5_bit ne_X2_97 ws_X5_bit rfl rfl (Nat.le_of_ble_eq_true rfl) (Nat.le_of_ble_eq_true rfl) (Nat.le_of_ble_eq_true rfl) ⟨(Nat.le_of_ble_eq_true rfl), (Nat.le_of_ble_eq_true rfl)⟩ rfl rfl dX2_rank_75 ?_
                refine a_lor (pc := 78) (v := bs (fun i => (rdK (hitF sT eE (rkD mz sT eE t)) (rkD mz sT eE t) k) i || (decide (i = k)))) C (bs_or _ _) dX2_rank_78 ?_
                refine a_lstore (pc := 79) (L' := [(0, .ref (a 3)), (1, .long (bs sT)), (3, .ref (a 16)), (4, .ref (a 21)), (5, .long (bs (fun i => (rdK (hitF sT eE (rkD mz sT eE t)) (rkD mz sT eE t) k) i || (decide (i = k))))), (7, .int (nI t)), (8, .long (bs (fun i => sT i && (!((rkD mz sT eE t) i))))), (10, .int (nI k))]) C (by decide) rfl dX2_rank_79 ?_
                refine a_iinc (pc := 81) (v := nI (k + 1)) (L' := [(0, .ref (a 3)), (1, .long (bs sT)), (3, .ref (a 16)), (4, .ref (a 21)), (5, .long (bs (fun i => (rdK (hitF sT eE (rkD mz sT eE t)) (rkD mz sT eE t) k) i || (decide (i = k))))), (7, .int (nI t)), (8, .long (bs (fun i => sT i && (!((rkD mz sT eE t) i))))), (10, .int (nI (k + 1)))]) C 7 rfl (nI_inc _) (by decide) rfl dX2_rank_81 ?_
                refine a_goto (pc := 84) (tgt := 33) C (by decide) dX2_rank_84 ?_
                refine aw_L (L' := [(0, .ref (a 3)), (1, .long (bs sT)), (3, .ref (a 16)), (4, .ref (a 21)), (5, .long (bs (rdK (hitF sT eE (rkD mz sT eE t)) (rkD mz sT eE t) (k + 1)))), (7, .int (nI t)), (8, .long (bs (fun i => sT i && (!((rkD mz sT eE t) i))))), (10, .int (nI (k + 1)))]) (congrArg (fun zz9 => ([(0, .ref (a 3)), (1, .long (bs sT)), (3, .ref (a 16)), (4, .ref (a 21)), (5, .long zz9), (7, .int (nI t)), (8, .long (bs (fun i => sT i && (!((rkD mz sT eE t) i))))), (10, .int (nI (k + 1)))] : List (Nat × Value))) (congrArg bs (rdK_y (hit_y c2 c3)) : (bs (fun i => (rdK (hitF sT eE (rkD mz sT eE t)) (rkD mz sT eE t) k) i || (decide (i = k)))) = (bs (rdK (hitF sT eE (rkD mz sT eE t)) (rkD mz sT eE t) (k + 1))))) ?_
                refine aw_eq (congrArg (fun zz9 => wC κ a n dug dtd so ph uf ul r ki lt er mz bd bo me dE eE lE li fB fA zz9 f fu fs ff fl xs ys zs oL oU lo up X) (rsK_y (hit_y c2 c3) : (va_up (rsK (hitF sT eE (rkD mz sT eE t)) t (rkV mz sT eE sL t) k) k (nI t)) = (rsK (hitF sT eE (rkD mz sT eE t)) t (rkV mz sT eE sL t) (k + 1)))) ?_
                exact ih (k + 1) (by omega)
        refine aw_L (L' := [(0, .ref (a 3)), (1, .long (bs sT)), (3, .ref (a 16)), (4, .ref (a 21)), (5, .long (bs (rdK (hitF sT eE (rkD mz sT eE t)) (rkD mz sT eE t) 0))), (7, .int (nI t)), (8, .long (bs (fun i => sT i && (!((rkD mz sT eE t) i))))), (10, .int (nI 0))]) (congrArg (fun zz9 => ([(0, .ref (a 3)), (1, .long (bs sT)), (3, .ref (a 16)), (4, .ref (a 21)), (5, .long zz9), (7, .int (nI t)), (8, .long (bs (fun i => sT i && (!((rkD mz sT eE t) i))))), (10, .int (nI 0))] : List (Nat × Value))) (congrArg bs (rdK_0 _ _).symm : (bs (rkD mz sT eE t)) = (bs (rdK (hitF sT eE (rkD mz sT eE t)) (rkD mz sT eE t) 0)))) ?_
        refine aw_eq (congrArg (fun zz9 => wC κ a n dug dtd so ph uf ul r ki lt er mz bd bo me dE eE lE li fB fA zz9 f fu fs ff fl xs ys zs oL oU lo up X) ((rsK_0 _ _ _).symm : (rkV mz sT eE sL t) = (rsK (hitF sT eE (rkD mz sT eE t)) t (rkV mz sT eE sL t) 0))) ?_
        exact LP33 (mz) (0) (by omega)
  refine aw_L (L' := [(0, .ref (a 3)), (1, .long (bs sT)), (3, .ref (a 16)), (4, .ref (a 21)), (5, .long (bs (rkD mz sT eE 0))), (7, .int (nI 0))]) (congrArg (fun zz9 => ([(0, .ref (a 3)), (1, .long (bs sT)), (3, .ref (a 16)), (4, .ref (a 21)), (5, .long zz9), (7, .int (nI 0))] : List (Nat × Value))) (rfl : (bs (fun _ => false)) = (bs (rkD mz sT eE 0)))) ?_
  refine aw_eq (congrArg (fun zz9 => wC κ a n dug dtd so ph uf ul r ki lt er mz bd bo me dE eE lE li fB fA zz9 f fu fs ff fl xs ys zs oL oU lo up X) (rfl : sL = (rkV mz sT eE sL 0))) ?_
  exact LP6 (40) (0) (by omega)
