/-! THE LAW: its loop -/
/-- what the 26 cases say -/
def KA (I : SC → SM → Prop) (κ : aK) (a b : Nat → Nat) (u : Nat) : Prop :=
  (∀ (z1 : Int32), KI yL_addUnit cL_addUnit 4 [(0, 9, 12, 13), (0, 9, 15, 15)] yX6_addUnit cX6_addUnit 2 I κ a b u [.int z1]) ∧
  (∀ (z1 : Int32) (z2 : Int32) (z3 : Int32), KI yL_relate cL_relate 6 [(0, 12, 15, 13), (0, 12, 19, 21), (0, 12, 23, 15)] yX6_relate cX6_relate 5 I κ a b u [.int z1, .int z2, .int z3]) ∧
  (∀ (z1 : Int32), KI yL_takeBack cL_takeBack 4 [(0, 9, 12, 21)] yX6_takeBack cX6_takeBack 3 I κ a b u [.int z1]) ∧
  (∀ (z1 : Int32) (z2 : Int32), KI yL_relation cL_relation 5 [(0, 10, 13, 21)] yX6_relation cX6_relation 3 I κ a b u [.int z1, .int z2]) ∧
  (∀ (z1 : Int32), KI yL_count cL_count 4 [(0, 9, 12, 21)] yX6_count cX6_count 2 I κ a b u [.int z1]) ∧
  (∀ (z1 : Int32) (z2 : Int32), KI yL_unit cL_unit 5 [(0, 10, 13, 21)] yX6_unit cX6_unit 3 I κ a b u [.int z1, .int z2]) ∧
  (∀ (z1 : Int32) (z2 : Int32), KI yL_order cL_order 5 [(0, 10, 13, 21)] yX6_order cX6_order 3 I κ a b u [.int z1, .int z2]) ∧
  (∀ (z1 : Int32) (z2 : Int32), KB yL_isLinked cL_isLinked 5 [(0, 17, 20, 21)] yX6_isLinked cX6_isLinked 3 I κ a b u [.int z1, .int z2]) ∧
  (∀ (z1 : Int32) (z2 : Bool) (z3 : Int32), KI yL_row cL_row 6 [(0, 12, 15, 21)] yX6_row cX6_row 6 I κ a b u [.int z1, .int (b2i z2), .int z3]) ∧
  (∀ (z1 : Int32) (z2 : Int32) (z3 : Int32), KI yL_way cL_way 6 [(0, 12, 15, 21), (0, 12, 19, 13)] yX6_way cX6_way 8 I κ a b u [.int z1, .int z2, .int z3]) ∧
  (∀ (z1 : Int32) (z2 : Int32), KI yL_between cL_between 5 [(0, 10, 13, 21)] yX6_between cX6_between 3 I κ a b u [.int z1, .int z2]) ∧
  (∀ (z1 : Int32) (z2 : Int32) (z3 : Int32) (z4 : Int32), KI yL_addFind cL_addFind 7 [(0, 14, 17, 21), (0, 14, 21, 13), (0, 14, 25, 15)] yX6_addFind cX6_addFind 6 I κ a b u [.int z1, .int z2, .int z3, .int z4]) ∧
  (∀ (z1 : Int32) (z2 : Int32) (z3 : Int32) (z4 : Int32), KI yL_place cL_place 7 [(0, 14, 17, 21), (0, 14, 21, 13)] yX6_place cX6_place 6 I κ a b u [.int z1, .int z2, .int z3, .int z4]) ∧
  (∀ (z1 : Int32) (z2 : Int32), KI yL_move cL_move 5 [(0, 10, 13, 21)] yX6_move cX6_move 4 I κ a b u [.int z1, .int z2]) ∧
  (∀ (z1 : Int32) (z2 : Int32), KI yL_find cL_find 5 [(0, 10, 13, 21)] yX6_find cX6_find 3 I κ a b u [.int z1, .int z2]) ∧
  (∀ (z1 : Int32) (z2 : Int32) (z3 : Int32), KI yL_date cL_date 6 [(0, 12, 15, 21), (0, 12, 19, 13)] yX6_date cX6_date 5 I κ a b u [.int z1, .int z2, .int z3]) ∧
  (∀ (z1 : Int32) (z2 : Bool), KI yL_bound cL_bound 5 [(0, 10, 13, 21)] yX6_bound cX6_bound 3 I κ a b u [.int z1, .int (b2i z2)]) ∧
  (∀ (z1 : Int32), KI yL_doubt cL_doubt 4 [(0, 9, 12, 21)] yX6_doubt cX6_doubt 4 I κ a b u [.int z1]) ∧
  (∀ (z1 : Int32) (z2 : Int32) (z3 : Int32) (z4 : Int32), KI yL_nearest cL_nearest 7 [(0, 14, 17, 13)] yX6_nearest cX6_nearest 12 I κ a b u [.int z1, .int z2, .int z3, .int z4]) ∧
  (∀ (z1 : Int32), KI yL_dig cL_dig 4 [(0, 9, 12, 21), (0, 9, 15, 15)] yX6_dig cX6_dig 4 I κ a b u [.int z1]) ∧
  (∀ (z1 : Int32), KI yL_next cL_next 4 [(0, 9, 12, 21)] yX6_next cX6_next 4 I κ a b u [.int z1]) ∧
  (∀ (z1 : Int32) (z2 : Int32), KI yL_setPhase cL_setPhase 5 [(0, 10, 13, 21), (0, 10, 17, 13)] yX6_setPhase cX6_setPhase 4 I κ a b u [.int z1, .int z2]) ∧
  (KV yX5_phaseAll cX5_phaseAll 4 yX6_phaseAll cX6_phaseAll 4 (some .int) I κ a b [] (fun v => ∃ r : Int32, v = .int r)) ∧
  (∀ (z1 : Bool), KV yX5_outOfPhase cX5_outOfPhase 4 yX6_outOfPhase cX6_outOfPhase 4 (some .int) I κ a b [.int (b2i z1)] (fun v => ∃ r : Int32, v = .int r)) ∧
  (KV yX5_digest cX5_digest 5 yX6_digest cX6_digest 5 (some .long) I κ a b [] (fun v => ∃ r : Int64, v = .long r)) ∧
  (KD yX5_meanHeight cX5_meanHeight 3 yX6_meanHeight cX6_meanHeight 3 I κ a b)
set_option maxHeartbeats 4000000 in
set_option maxRecDepth 100000 in
theorem law_head {g : aG} {κ : aK} {a b : Nat → Nat} {u bs L : Nat} {xs : Nat → Int32} (C : ∀ d, Cx (gD g d) κ RL cL_law 9 room_1) (hX : ∀ d, va_X bs L xs (g_s (gD g d)) (g_s (gD g d)).heap) (hbl : bs < (g_s g).heap.size) (hbA : ¬ kA κ bs) (hL : L ≤ 2560) {d : Drawn} {ws : va_W} {j k n : Nat} (hj : j ≤ 513) (kx : aw (gD g d) κ 9 1854 [(0, .ref bs), (1, .ref (a 0)), (2, .ref (b 0)), (3, .ref u), (4, .int (nI (5 * j)))] [] ws k n) (kk : 5 * j + 5 ≤ L → aw (gD g d) κ 9 32 [(0, .ref bs), (1, .ref (a 0)), (2, .ref (b 0)), (3, .ref u), (4, .int (nI (5 * j)))] [] ws k n) : aw (gD g d) κ 9 23 [(0, .ref bs), (1, .ref (a 0)), (2, .ref (b 0)), (3, .ref u), (4, .int (nI (5 * j)))] [] ws k n := by
  refine a_iload (pc := 23) (C d) 4 rfl dL_law_23 ?_
  refine a_aloadn (pc := 25) (C d) 0 rfl rfl dL_law_25 ?_
  refine a_slen (pc := 26) (C d) (hX d) hbl hbA dL_law_26 ?_
  refine a_iconst (pc := 27) (v := nI 5) (C d) ci_5 dL_law_27 ?_
  refine a_isub (pc := 28) (v := nI L - nI 5) (C d) rfl dL_law_28 ?_
  exact a_ic_gt (pc := 29) (tgt := 1854) (C d) (by decide) dL_law_29 (fun _ => kx) (fun c => kk (lp_go hL (by omega) c))
set_option maxHeartbeats 8000000 in
set_option maxRecDepth 100000 in
theorem law_loop {g : aG} {κ : aK} {a b : Nat → Nat} {u bs L : Nat} {xs : Nat → Int32} (C : ∀ d, Cx (gD g d) κ RL cL_law 9 room_1) (hX : ∀ d, va_X bs L xs (g_s (gD g d)) (g_s (gD g d)).heap) (hbl : bs < (g_s g).heap.size) (hbA : ¬ kA κ bs) (hL : L ≤ 2560) {I : SC → SM → Prop} (hK : KA I κ a b u) (out : ∀ (d : Drawn) (j : Nat) (S : SC) (F : Nat → Int64) (T : SM), (g_s g).drawn.sameBut d lw_cs → j ≤ 513 → aw (gD g d) κ 9 1854 [(0, .ref bs), (1, .ref (a 0)), (2, .ref (b 0)), (3, .ref u), (4, .int (nI (5 * j)))] [] (lW κ a b u S F T) (100 + 402 * j) (4000 + 4010 * j)) : ∀ (jz j : Nat) (S : SC) (F : Nat → Int64) (T : SM) (d : Drawn), j + jz = 513 → I S T → (g_s g).drawn.sameBut d lw_cs → aw (gD g d) κ 9 23 [(0, .ref bs), (1, .ref (a 0)), (2, .ref (b 0)), (3, .ref u), (4, .int (nI (5 * j)))] [] (lW κ a b u S F T) (100 + 402 * j) (4000 + 4010 * j) := by
  unfold KA at hK
  have hL2 : L < 2 ^ 31 := by omega
  intro jz
  induction jz with
  | zero =>
    intro j S F T d hj hI hd
    exact law_head C hX hbl hbA hL (by omega) (out d j S F T hd (by omega)) (fun h => absurd h (by omega))
  | succ jz ih =>
    intro j S F T d hj hI hd
    refine law_head C hX hbl hbA hL (by omega) (out d j S F T hd (by omega)) (fun h5 => ?_)
    have tail : ∀ (d : Drawn) (S : SC) (F : Nat → Int64) (T : SM), (g_s g).drawn.sameBut d lw_cs → I S T → aw (gD g d) κ 9 1848 [(0, .ref bs), (1, .ref (a 0)), (2, .ref (b 0)), (3, .ref u), (4, .int (nI (5 * j)))] [] (lW κ a b u S F T) (100 + 402 * j + 402) (4000 + 4010 * j + 4010) := by
      intro d S F T hd hI
      refine a_iinc (pc := 1848) (v := nI (5 * (j + 1))) (L' := [(0, .ref bs), (1, .ref (a 0)), (2, .ref (b 0)), (3, .ref u), (4, .int (nI (5 * (j + 1))))]) (C d) 4 rfl lp_go5 (by decide) rfl dL_law_1848 ?_
      refine a_goto (pc := 1851) (tgt := 23) (C d) (by decide) dL_law_1851 ?_
      refine aw_room (k' := 100 + 402 * (j + 1)) (n' := 4000 + 4010 * (j + 1)) (by omega) (by omega) ?_
      exact ih (j + 1) S F T d (by omega) hI hd
    refine a_aloadn (pc := 32) (C d) 0 rfl rfl dL_law_32 ?_
    refine a_iload (pc := 33) (C d) 4 rfl dL_law_33 ?_
    refine a_sld (pc := 35) (C d) (hX d) hbl hbA (by omega) hL2 dL_law_35 ?_
    refine a_bipush (pc := 36) (v := nI 31) (C d) cb_31 dL_law_36 ?_
    obtain ⟨q, hq, eq⟩ := and31 (xs (5 * j))
    refine a_iand (pc := 38) (v := nI q) (C d) eq dL_law_38 ?_
    clear eq
    rcases (show q = 0 ∨ q = 1 ∨ q = 2 ∨ q = 3 ∨ q = 4 ∨ q = 5 ∨ q = 6 ∨ q = 7 ∨ q = 8 ∨ q = 9 ∨ q = 10 ∨ q = 11 ∨ q = 12 ∨ q = 13 ∨ q = 14 ∨ q = 15 ∨ q = 16 ∨ q = 17 ∨ q = 18 ∨ q = 19 ∨ q = 20 ∨ q = 21 ∨ q = 22 ∨ q = 23 ∨ q = 24 ∨ q = 25 ∨ q = 26 ∨ q = 27 ∨ q = 28 ∨ q = 29 ∨ q = 30 ∨ q = 31 by omega) with rfl | rfl | rfl | rfl | rfl | rfl | rfl | rfl | rfl | rfl | rfl | rfl | rfl | rfl | rfl | rfl | rfl | rfl | rfl | rfl | rfl | rfl | rfl | rfl | rfl | rfl | rfl | rfl | rfl | rfl | rfl | rfl
    · refine a_table (pc := 39) (tgt := 156) (off := 117) (C d) (by decide +kernel) (by decide +kernel) (by decide +kernel) (by decide) dL_law_39 ?_
      exact lc_addUnit (C d) (hX d) hbl hbA hL2 h5 hI hK.1 (by omega) (by omega) (fun S' F' T' hI' => tail d S' F' T' hd hI')
    · refine a_table (pc := 39) (tgt := 212) (off := 173) (C d) (by decide +kernel) (by decide +kernel) (by decide +kernel) (by decide) dL_law_39 ?_
      exact lc_relate (C d) (hX d) hbl hbA hL2 h5 hI hK.2.1 (by omega) (by omega) (fun S' F' T' hI' => tail d S' F' T' hd hI')
    · refine a_table (pc := 39) (tgt := 292) (off := 253) (C d) (by decide +kernel) (by decide +kernel) (by decide +kernel) (by decide) dL_law_39 ?_
      exact lc_takeBack (C d) (hX d) hbl hbA hL2 h5 hI hK.2.2.1 (by omega) (by omega) (fun S' F' T' hI' => tail d S' F' T' hd hI')
    · refine a_table (pc := 39) (tgt := 348) (off := 309) (C d) (by decide +kernel) (by decide +kernel) (by decide +kernel) (by decide) dL_law_39 ?_
      exact lc_relation (C d) (hX d) hbl hbA hL2 h5 hI hK.2.2.2.1 (by omega) (by omega) (fun S' F' T' hI' => tail d S' F' T' hd hI')
    · refine a_table (pc := 39) (tgt := 416) (off := 377) (C d) (by decide +kernel) (by decide +kernel) (by decide +kernel) (by decide) dL_law_39 ?_
      exact lc_count (C d) (hX d) hbl hbA hL2 h5 hI hK.2.2.2.2.1 (by omega) (by omega) (fun S' F' T' hI' => tail d S' F' T' hd hI')
    · refine a_table (pc := 39) (tgt := 472) (off := 433) (C d) (by decide +kernel) (by decide +kernel) (by decide +kernel) (by decide) dL_law_39 ?_
      exact lc_unit (C d) (hX d) hbl hbA hL2 h5 hI hK.2.2.2.2.2.1 (by omega) (by omega) (fun S' F' T' hI' => tail d S' F' T' hd hI')
    · refine a_table (pc := 39) (tgt := 540) (off := 501) (C d) (by decide +kernel) (by decide +kernel) (by decide +kernel) (by decide) dL_law_39 ?_
      exact lc_order (C d) (hX d) hbl hbA hL2 h5 hI hK.2.2.2.2.2.2.1 (by omega) (by omega) (fun S' F' T' hI' => tail d S' F' T' hd hI')
    · refine a_table (pc := 39) (tgt := 608) (off := 569) (C d) (by decide +kernel) (by decide +kernel) (by decide +kernel) (by decide) dL_law_39 ?_
      exact lc_isLinked (C d) (hX d) hbl hbA hL2 h5 hI hK.2.2.2.2.2.2.2.1 (by omega) (by omega) (fun S' F' T' hI' => tail d S' F' T' hd hI')
    · refine a_table (pc := 39) (tgt := 683) (off := 644) (C d) (by decide +kernel) (by decide +kernel) (by decide +kernel) (by decide) dL_law_39 ?_
      exact lc_row (C d) (hX d) hbl hbA hL2 h5 hI hK.2.2.2.2.2.2.2.2.1 (by omega) (by omega) (fun S' F' T' hI' => tail d S' F' T' hd hI')
    · refine a_table (pc := 39) (tgt := 779) (off := 740) (C d) (by decide +kernel) (by decide +kernel) (by decide +kernel) (by decide) dL_law_39 ?_
      exact lc_way (C d) (hX d) hbl hbA hL2 h5 hI hK.2.2.2.2.2.2.2.2.2.1 (by omega) (by omega) (fun S' F' T' hI' => tail d S' F' T' hd hI')
    · refine a_table (pc := 39) (tgt := 859) (off := 820) (C d) (by decide +kernel) (by decide +kernel) (by decide +kernel) (by decide) dL_law_39 ?_
      exact lc_between (C d) (hX d) hbl hbA hL2 h5 hI hK.2.2.2.2.2.2.2.2.2.2.1 (by omega) (by omega) (fun S' F' T' hI' => tail d S' F' T' hd hI')
    · refine a_table (pc := 39) (tgt := 927) (off := 888) (C d) (by decide +kernel) (by decide +kernel) (by decide +kernel) (by decide) dL_law_39 ?_
      exact lc_addFind (C d) (hX d) hbl hbA hL2 h5 hI hK.2.2.2.2.2.2.2.2.2.2.2.1 (by omega) (by omega) (fun S' F' T' hI' => tail d S' F' T' hd hI')
    · refine a_table (pc := 39) (tgt := 1019) (off := 980) (C d) (by decide +kernel) (by decide +kernel) (by decide +kernel) (by decide) dL_law_39 ?_
      exact lc_place (C d) (hX d) hbl hbA hL2 h5 hI hK.2.2.2.2.2.2.2.2.2.2.2.2.1 (by omega) (by omega) (fun S' F' T' hI' => tail d S' F' T' hd hI')
    · refine a_table (pc := 39) (tgt := 1111) (off := 1072) (C d) (by decide +kernel) (by decide +kernel) (by decide +kernel) (by decide) dL_law_39 ?_
      exact lc_move (C d) (hX d) hbl hbA hL2 h5 hI hK.2.2.2.2.2.2.2.2.2.2.2.2.2.1 (by omega) (by omega) (fun S' F' T' hI' => tail d S' F' T' hd hI')
    · refine a_table (pc := 39) (tgt := 1179) (off := 1140) (C d) (by decide +kernel) (by decide +kernel) (by decide +kernel) (by decide) dL_law_39 ?_
      exact lc_find (C d) (hX d) hbl hbA hL2 h5 hI hK.2.2.2.2.2.2.2.2.2.2.2.2.2.2.1 (by omega) (by omega) (fun S' F' T' hI' => tail d S' F' T' hd hI')
    · refine a_table (pc := 39) (tgt := 1247) (off := 1208) (C d) (by decide +kernel) (by decide +kernel) (by decide +kernel) (by decide) dL_law_39 ?_
      exact lc_date (C d) (hX d) hbl hbA hL2 h5 hI hK.2.2.2.2.2.2.2.2.2.2.2.2.2.2.2.1 (by omega) (by omega) (fun S' F' T' hI' => tail d S' F' T' hd hI')
    · refine a_table (pc := 39) (tgt := 1327) (off := 1288) (C d) (by decide +kernel) (by decide +kernel) (by decide +kernel) (by decide) dL_law_39 ?_
      exact lc_bound (C d) (hX d) hbl hbA hL2 h5 hI hK.2.2.2.2.2.2.2.2.2.2.2.2.2.2.2.2.1 (by omega) (by omega) (fun S' F' T' hI' => tail d S' F' T' hd hI')
    · refine a_table (pc := 39) (tgt := 1411) (off := 1372) (C d) (by decide +kernel) (by decide +kernel) (by decide +kernel) (by decide) dL_law_39 ?_
      exact lc_doubt (C d) (hX d) hbl hbA hL2 h5 hI hK.2.2.2.2.2.2.2.2.2.2.2.2.2.2.2.2.2.1 (by omega) (by omega) (fun S' F' T' hI' => tail d S' F' T' hd hI')
    · refine a_table (pc := 39) (tgt := 1467) (off := 1428) (C d) (by decide +kernel) (by decide +kernel) (by decide +kernel) (by decide) dL_law_39 ?_
      exact lc_nearest (C d) (hX d) hbl hbA hL2 h5 hI hK.2.2.2.2.2.2.2.2.2.2.2.2.2.2.2.2.2.2.1 (by omega) (by omega) (fun S' F' T' hI' => tail d S' F' T' hd hI')
    · refine a_table (pc := 39) (tgt := 1559) (off := 1520) (C d) (by decide +kernel) (by decide +kernel) (by decide +kernel) (by decide) dL_law_39 ?_
      exact lc_dig (C d) (hX d) hbl hbA hL2 h5 hI hK.2.2.2.2.2.2.2.2.2.2.2.2.2.2.2.2.2.2.2.1 (by omega) (by omega) (fun S' F' T' hI' => tail d S' F' T' hd hI')
    · refine a_table (pc := 39) (tgt := 1615) (off := 1576) (C d) (by decide +kernel) (by decide +kernel) (by decide +kernel) (by decide) dL_law_39 ?_
      exact lc_next (C d) (hX d) hbl hbA hL2 h5 hI hK.2.2.2.2.2.2.2.2.2.2.2.2.2.2.2.2.2.2.2.2.1 (by omega) (by omega) (fun S' F' T' hI' => tail d S' F' T' hd hI')
    · refine a_table (pc := 39) (tgt := 1671) (off := 1632) (C d) (by decide +kernel) (by decide +kernel) (by decide +kernel) (by decide) dL_law_39 ?_
      exact lc_setPhase (C d) (hX d) hbl hbA hL2 h5 hI hK.2.2.2.2.2.2.2.2.2.2.2.2.2.2.2.2.2.2.2.2.2.1 (by omega) (by omega) (fun S' F' T' hI' => tail d S' F' T' hd hI')
    · refine a_table (pc := 39) (tgt := 1739) (off := 1700) (C d) (by decide +kernel) (by decide +kernel) (by decide +kernel) (by decide) dL_law_39 ?_
      exact lc_phaseAll (C d) (hX d) hbl hbA hL2 h5 hI hK.2.2.2.2.2.2.2.2.2.2.2.2.2.2.2.2.2.2.2.2.2.2.1 (by omega) (by omega) (fun S' F' T' hI' => tail d S' F' T' hd hI')
    · refine a_table (pc := 39) (tgt := 1752) (off := 1713) (C d) (by decide +kernel) (by decide +kernel) (by decide +kernel) (by decide) dL_law_39 ?_
      exact lc_outOfPhase (C d) (hX d) hbl hbA hL2 h5 hI hK.2.2.2.2.2.2.2.2.2.2.2.2.2.2.2.2.2.2.2.2.2.2.2.1 (by omega) (by omega) (fun S' F' T' hI' => tail d S' F' T' hd hI')
    · refine a_table (pc := 39) (tgt := 1793) (off := 1754) (C d) (by decide +kernel) (by decide +kernel) (by decide +kernel) (by decide) dL_law_39 ?_
      exact lc_meanHeight hd C hI hK.2.2.2.2.2.2.2.2.2.2.2.2.2.2.2.2.2.2.2.2.2.2.2.2.2 (by omega) (by omega) (fun d' T' hd' hI' => tail d' S F T' hd' hI')
    · refine a_table (pc := 39) (tgt := 1834) (off := 1795) (C d) (by decide +kernel) (by decide +kernel) (by decide +kernel) (by decide) dL_law_39 ?_
      exact lc_digest (C d) (hX d) hbl hbA hL2 h5 hI hK.2.2.2.2.2.2.2.2.2.2.2.2.2.2.2.2.2.2.2.2.2.2.2.2.1 (by omega) (by omega) (fun S' F' T' hI' => tail d S' F' T' hd hI')
    · refine a_tableD (pc := 39) (tgt := 1848) (C d) (by decide +kernel) (by decide) dL_law_39 ?_
      refine aw_room (k' := 100 + 402 * j + 402) (n' := 4000 + 4010 * j + 4010) (by omega) (by omega) ?_
      exact tail d S F T hd hI
    · refine a_tableD (pc := 39) (tgt := 1848) (C d) (by decide +kernel) (by decide) dL_law_39 ?_
      refine aw_room (k' := 100 + 402 * j + 402) (n' := 4000 + 4010 * j + 4010) (by omega) (by omega) ?_
      exact tail d S F T hd hI
    · refine a_tableD (pc := 39) (tgt := 1848) (C d) (by decide +kernel) (by decide) dL_law_39 ?_
      refine aw_room (k' := 100 + 402 * j + 402) (n' := 4000 + 4010 * j + 4010) (by omega) (by omega) ?_
      exact tail d S F T hd hI
    · refine a_tableD (pc := 39) (tgt := 1848) (C d) (by decide +kernel) (by decide) dL_law_39 ?_
      refine aw_room (k' := 100 + 402 * j + 402) (n' := 4000 + 4010 * j + 4010) (by omega) (by omega) ?_
      exact tail d S F T hd hI
    · refine a_tableD (pc := 39) (tgt := 1848) (C d) (by decide +kernel) (by decide) dL_law_39 ?_
      refine aw_room (k' := 100 + 402 * j + 402) (n' := 4000 + 4010 * j + 4010) (by omega) (by omega) ?_
      exact tail d S F T hd hI
    · refine a_tableD (pc := 39) (tgt := 1848) (C d) (by decide +kernel) (by decide) dL_law_39 ?_
      refine aw_room (k' := 100 + 402 * j + 402) (n' := 4000 + 4010 * j + 4010) (by omega) (by omega) ?_
      exact tail d S F T hd hI
