theorem yw_L_addFind : YW yL_addFind cL_addFind 7 (some .int) [(0, 14, 17, 21), (0, 14, 21, 13), (0, 14, 25, 15)] 6 := ⟨wc_L_addFind, wz_L, by decide, by decide, by decide +kernel⟩
theorem yw_L_addUnit : YW yL_addUnit cL_addUnit 4 (some .int) [(0, 9, 12, 13), (0, 9, 15, 15)] 3 := ⟨wc_L_addUnit, wz_L, by decide, by decide, by decide +kernel⟩
theorem yw_L_between : YW yL_between cL_between 5 (some .int) [(0, 10, 13, 21)] 4 := ⟨wc_L_between, wz_L, by decide, by decide, by decide +kernel⟩
theorem yw_L_bound : YW yL_bound cL_bound 5 (some .int) [(0, 10, 13, 21)] 4 := ⟨wc_L_bound, wz_L, by decide, by decide, by decide +kernel⟩
theorem yw_L_count : YW yL_count cL_count 4 (some .int) [(0, 9, 12, 21)] 3 := ⟨wc_L_count, wz_L, by decide, by decide, by decide +kernel⟩
theorem yw_L_date : YW yL_date cL_date 6 (some .int) [(0, 12, 15, 21), (0, 12, 19, 13)] 5 := ⟨wc_L_date, wz_L, by decide, by decide, by decide +kernel⟩
theorem yw_L_dig : YW yL_dig cL_dig 4 (some .int) [(0, 9, 12, 21), (0, 9, 15, 15)] 3 := ⟨wc_L_dig, wz_L, by decide, by decide, by decide +kernel⟩
theorem yw_L_doubt : YW yL_doubt cL_doubt 4 (some .int) [(0, 9, 12, 21)] 3 := ⟨wc_L_doubt, wz_L, by decide, by decide, by decide +kernel⟩
theorem yw_L_find : YW yL_find cL_find 5 (some .int) [(0, 10, 13, 21)] 4 := ⟨wc_L_find, wz_L, by decide, by decide, by decide +kernel⟩
theorem yw_L_isLinked : YW yL_isLinked cL_isLinked 5 (some .int) [(0, 17, 20, 21)] 4 := ⟨wc_L_isLinked, wz_L, by decide, by decide, by decide +kernel⟩
theorem yw_L_move : YW yL_move cL_move 5 (some .int) [(0, 10, 13, 21)] 4 := ⟨wc_L_move, wz_L, by decide, by decide, by decide +kernel⟩
theorem yw_L_nearest : YW yL_nearest cL_nearest 7 (some .int) [(0, 14, 17, 13)] 6 := ⟨wc_L_nearest, wz_L, by decide, by decide, by decide +kernel⟩
theorem yw_L_next : YW yL_next cL_next 4 (some .int) [(0, 9, 12, 21)] 3 := ⟨wc_L_next, wz_L, by decide, by decide, by decide +kernel⟩
theorem yw_L_order : YW yL_order cL_order 5 (some .int) [(0, 10, 13, 21)] 4 := ⟨wc_L_order, wz_L, by decide, by decide, by decide +kernel⟩
theorem yw_L_place : YW yL_place cL_place 7 (some .int) [(0, 14, 17, 21), (0, 14, 21, 13)] 6 := ⟨wc_L_place, wz_L, by decide, by decide, by decide +kernel⟩
theorem yw_L_relate : YW yL_relate cL_relate 6 (some .int) [(0, 12, 15, 13), (0, 12, 19, 21), (0, 12, 23, 15)] 5 := ⟨wc_L_relate, wz_L, by decide, by decide, by decide +kernel⟩
theorem yw_L_relation : YW yL_relation cL_relation 5 (some .int) [(0, 10, 13, 21)] 4 := ⟨wc_L_relation, wz_L, by decide, by decide, by decide +kernel⟩
theorem yw_L_row : YW yL_row cL_row 6 (some .int) [(0, 12, 15, 21)] 5 := ⟨wc_L_row, wz_L, by decide, by decide, by decide +kernel⟩
theorem yw_L_setPhase : YW yL_setPhase cL_setPhase 5 (some .int) [(0, 10, 13, 21), (0, 10, 17, 13)] 4 := ⟨wc_L_setPhase, wz_L, by decide, by decide, by decide +kernel⟩
theorem yw_L_takeBack : YW yL_takeBack cL_takeBack 4 (some .int) [(0, 9, 12, 21)] 3 := ⟨wc_L_takeBack, wz_L, by decide, by decide, by decide +kernel⟩
theorem yw_L_unit : YW yL_unit cL_unit 5 (some .int) [(0, 10, 13, 21)] 4 := ⟨wc_L_unit, wz_L, by decide, by decide, by decide +kernel⟩
theorem yw_L_way : YW yL_way cL_way 6 (some .int) [(0, 12, 15, 21), (0, 12, 19, 13)] 5 := ⟨wc_L_way, wz_L, by decide, by decide, by decide +kernel⟩
set_option maxHeartbeats 4000000 in
set_option maxRecDepth 100000 in
theorem c_L_addFind (κ : aK) (a : Nat → Nat) {n : Nat} {dug : Nat → Bool} {dtd : Nat → Bool} {so : Nat → Int32} {ph : Nat → Int32} {uf : Nat → Int32} {ul : Nat → Int32} {r : Nat} {ki : Nat → Int32} {lt : Nat → Nat} {er : Nat → Nat} {mz : Nat} {bd : Nat → Bool} {bo : Nat → Nat} {me : Nat → Nat → Bool} {dE : Nat → Nat → Bool} {eE : Nat → Nat → Bool} {lE : Nat → Nat → Bool} {li : Nat → Nat → Bool} {fB : Nat → Int32} {fA : Nat → Int32} {sL : Nat → Int32} {f : Nat} {fu : Nat → Nat} {fs : Nat → Int32} {ff : Nat → Int32} {fl : Nat → Int32} {xs : Nat → Int32} {ys : Nat → Int32} {zs : Nat → Int32} {oL : Nat → Int32} {oU : Nat → Int32} {lo : Nat → Int32} {up : Nat → Int32} {X : va_W} {u : Nat} {s0 : Int32} {a1 : Int32} {b1 : Int32} {ou : Nat} {oF : Nat → Int64} (hn : n ≤ 40) (hbo : ∀ u, bo u < 40) (hfu : ∀ u, fu u < 40) (hu : u < n) (hs : okU 10 s0) (h1 : yrB a1 = true) (h2 : yrB b1 = true) (h3 : a1 ≤ b1) (hf : f < 60) : CW yL_addFind cL_addFind 7 (some .int) [(0, 14, 17, 21), (0, 14, 21, 13), (0, 14, 25, 15)] ({ frames := 8, cells := 0, slots := 0, locals := 156 } : Room) κ [.ref (a 0), .int (nI u), .int s0, .int a1, .int b1, .ref ou] (wC κ a n dug dtd so ph uf ul r ki lt er mz bd bo me dE eE lE li fB fA sL f fu fs ff fl xs ys zs oL oU lo up ((ou, .inl (kJ κ, 1, .inr (.inl oF))) :: X)) (aD (some (.int (nI 0))) (wC κ a n dug dtd so ph uf ul r ki lt er mz bd bo me dE eE lE li fB fA sL (f + 1) (va_up fu f u) (va_up fs f s0) (va_up ff f a1) (va_up fl f b1) xs ys zs (nOL dtd uf bo (va_up fu f u) (va_up ff f a1) oL n (f + 1)) (nOU dtd ul bo oU n) (nLo (nOL dtd uf bo (va_up fu f u) (va_up ff f a1) oL n (f + 1)) eE lo n) (nUp (nOU dtd ul bo oU n) lE up n) ((ou, .inl (kJ κ, 1, .inr (.inl (va_up oF 0 (nI f).toInt64)))) :: X))) := by
  refine cw_entry (own := RL) (L := [(0, .ref (a 0)), (1, .int (nI u)), (2, .int s0), (3, .int a1), (4, .int b1), (5, .ref ou)]) (by decide +kernel) rfl (lv_entry [.ref (a 0), .int (nI u), .int s0, .int a1, .int b1, .ref ou] (n := 7) (Nat.le_of_ble_eq_true rfl)) (fun g C E hT => ?_)
  refine a_aload (pc := 0) C 5 rfl dL_addFind_0 ?_
  refine a_iconst (pc := 2) (v := nI 0) C ci_0 dL_addFind_2 ?_
  refine a_aloadn (pc := 3) C 0 rfl rfl dL_addFind_3 ?_
  refine a_iloadn (pc := 4) C 1 rfl rfl dL_addFind_4 ?_
  refine a_iloadn (pc := 5) C 2 rfl rfl dL_addFind_5 ?_
  refine a_iloadn (pc := 6) C 3 rfl rfl dL_addFind_6 ?_
  refine a_iload (pc := 7) C 4 rfl dL_addFind_7 ?_
  refine a_callV1 (pc := 9) (k' := 0) (n' := 0) C (c_X5_addFind κ a hn hbo hfu hu hs h1 h2 h3 hf) yv_X5_addFind ml_L_53 wi_X5_addFind wl_X5_addFind 0 rfl rfl rfl rfl (Nat.le_of_ble_eq_true rfl) (Nat.le_of_ble_eq_true rfl) (Nat.le_of_ble_eq_true rfl) ⟨(Nat.le_of_ble_eq_true rfl), (Nat.le_of_ble_eq_true rfl)⟩ rfl rfl dL_addFind_9 ?_
  refine a_i2l (pc := 12) (v := (nI f).toInt64) C rfl dL_addFind_12 ?_
  refine a_last (pc := 13) (ws' := wC κ a n dug dtd so ph uf ul r ki lt er mz bd bo me dE eE lE li fB fA sL (f + 1) (va_up fu f u) (va_up fs f s0) (va_up ff f a1) (va_up fl f b1) xs ys zs (nOL dtd uf bo (va_up fu f u) (va_up ff f a1) oL n (f + 1)) (nOU dtd ul bo oU n) (nLo (nOL dtd uf bo (va_up fu f u) (va_up ff f a1) oL n (f + 1)) eE lo n) (nUp (nOU dtd ul bo oU n) lE up n) ((ou, .inl (kJ κ, 1, .inr (.inl (va_up oF 0 ((nI f).toInt64))))) :: X)) C 33 rfl (by omega) (by decide) rfl rfl dL_addFind_13 ?_
  refine a_goto (pc := 14) (tgt := 29) C (by decide) dL_addFind_14 ?_
  refine a_iconst (pc := 29) (v := nI 0) C ci_0 dL_addFind_29 ?_
  refine aw_eq (congrArg (fun zz9 => wC κ a n dug dtd so ph uf ul r ki lt er mz bd bo me dE eE lE li fB fA sL (f + 1) (va_up fu f u) (va_up fs f s0) (va_up ff f a1) (va_up fl f b1) xs ys zs (nOL dtd uf bo (va_up fu f u) (va_up ff f a1) oL n (f + 1)) (nOU dtd ul bo oU n) (nLo (nOL dtd uf bo (va_up fu f u) (va_up ff f a1) oL n (f + 1)) eE lo n) (nUp (nOU dtd ul bo oU n) lE up n) ((ou, .inl (kJ κ, 1, .inr (.inl zz9))) :: X)) (rfl : (va_up oF 0 ((nI f).toInt64)) = (va_up oF 0 (nI f).toInt64))) ?_
  exact a_iret (pc := 30) C E (Nat.le_of_ble_eq_true rfl) (Nat.le_of_ble_eq_true rfl) ⟨rfl, rfl⟩ dL_addFind_30

set_option maxHeartbeats 4000000 in
set_option maxRecDepth 100000 in
theorem c_L_addFind_b1 (κ : aK) (a : Nat → Nat) {n : Nat} {dug : Nat → Bool} {dtd : Nat → Bool} {so : Nat → Int32} {ph : Nat → Int32} {uf : Nat → Int32} {ul : Nat → Int32} {r : Nat} {ki : Nat → Int32} {lt : Nat → Nat} {er : Nat → Nat} {mz : Nat} {bd : Nat → Bool} {bo : Nat → Nat} {me : Nat → Nat → Bool} {dE : Nat → Nat → Bool} {eE : Nat → Nat → Bool} {lE : Nat → Nat → Bool} {li : Nat → Nat → Bool} {fB : Nat → Int32} {fA : Nat → Int32} {sL : Nat → Int32} {f : Nat} {fu : Nat → Nat} {fs : Nat → Int32} {ff : Nat → Int32} {fl : Nat → Int32} {xs : Nat → Int32} {ys : Nat → Int32} {zs : Nat → Int32} {oL : Nat → Int32} {oU : Nat → Int32} {lo : Nat → Int32} {up : Nat → Int32} {X : va_W} {x : Int32} {s0 : Int32} {a1 : Int32} {b1 : Int32} {ou : Nat} {oF : Nat → Int64} (hn : n ≤ 40) (hb : ¬ okU n x) : CW yL_addFind cL_addFind 7 (some .int) [(0, 14, 17, 21), (0, 14, 21, 13), (0, 14, 25, 15)] ({ frames := 8, cells := 1, slots := 6, locals := 156 } : Room) κ [.ref (a 0), .int x, .int s0, .int a1, .int b1, .ref ou] (wC κ a n dug dtd so ph uf ul r ki lt er mz bd bo me dE eE lE li fB fA sL f fu fs ff fl xs ys zs oL oU lo up ((ou, .inl (kJ κ, 1, .inr (.inl oF))) :: X)) (aD (some (.int (nI 1))) (wC κ a n dug dtd so ph uf ul r ki lt er mz bd bo me dE eE lE li fB fA sL f fu fs ff fl xs ys zs oL oU lo up ((ou, .inl (kJ κ, 1, .inr (.inl oF))) :: X))) := by
  refine cw_entry (own := RL) (L := [(0, .ref (a 0)), (1, .int x), (2, .int s0), (3, .int a1), (4, .int b1), (5, .ref ou)]) (by decide +kernel) rfl (lv_entry [.ref (a 0), .int x, .int s0, .int a1, .int b1, .ref ou] (n := 7) (Nat.le_of_ble_eq_true rfl)) (fun g C E hT => ?_)
  refine a_aload (pc := 0) C 5 rfl dL_addFind_0 ?_
  refine a_iconst (pc := 2) (v := nI 0) C ci_0 dL_addFind_2 ?_
  refine a_aloadn (pc := 3) C 0 rfl rfl dL_addFind_3 ?_
  refine a_iloadn (pc := 4) C 1 rfl rfl dL_addFind_4 ?_
  refine a_iloadn (pc := 5) C 2 rfl rfl dL_addFind_5 ?_
  refine a_iloadn (pc := 6) C 3 rfl rfl dL_addFind_6 ?_
  refine a_iload (pc := 7) C 4 rfl dL_addFind_7 ?_
  refine a_xV (pc := 9) C (c_X5_addFind_b1 κ a hn hb) yv_X5_addFind ml_L_53 wi_X5_addFind wl_X5_addFind 0 rfl rfl rfl rfl (Nat.le_of_ble_eq_true rfl) (Nat.le_of_ble_eq_true rfl) (Nat.le_of_ble_eq_true rfl) ⟨(Nat.le_of_ble_eq_true rfl), (Nat.le_of_ble_eq_true rfl)⟩ dL_addFind_9 (fun e w h => ?_) (fun ro w h => h.elim)
  obtain ⟨rfl, rfl⟩ := h
  refine a_catch (E := xIO) C hT [] [⟨0, 14, 21, 13⟩, ⟨0, 14, 25, 15⟩] ⟨0, 14, 17, 21⟩ rfl (fun z hz => by cases hz) (by decide) (by decide) cl_L_21 (by simp [nxC]) (fun qx => ?_)
  refine a_astore (pc := 17) (L' := [(0, .ref (a 0)), (1, .int x), (2, .int s0), (3, .int a1), (4, .int b1), (5, .ref ou), (6, .ref qx)]) C (by decide) rfl dL_addFind_17 ?_
  refine a_iconst (pc := 19) (v := nI 1) C ci_1 dL_addFind_19 ?_
  exact a_iret (pc := 20) C E (Nat.le_of_ble_eq_true rfl) (Nat.le_of_ble_eq_true rfl) ⟨rfl, rfl⟩ dL_addFind_20

set_option maxHeartbeats 4000000 in
set_option maxRecDepth 100000 in
theorem c_L_addFind_b2 (κ : aK) (a : Nat → Nat) {n : Nat} {dug : Nat → Bool} {dtd : Nat → Bool} {so : Nat → Int32} {ph : Nat → Int32} {uf : Nat → Int32} {ul : Nat → Int32} {r : Nat} {ki : Nat → Int32} {lt : Nat → Nat} {er : Nat → Nat} {mz : Nat} {bd : Nat → Bool} {bo : Nat → Nat} {me : Nat → Nat → Bool} {dE : Nat → Nat → Bool} {eE : Nat → Nat → Bool} {lE : Nat → Nat → Bool} {li : Nat → Nat → Bool} {fB : Nat → Int32} {fA : Nat → Int32} {sL : Nat → Int32} {f : Nat} {fu : Nat → Nat} {fs : Nat → Int32} {ff : Nat → Int32} {fl : Nat → Int32} {xs : Nat → Int32} {ys : Nat → Int32} {zs : Nat → Int32} {oL : Nat → Int32} {oU : Nat → Int32} {lo : Nat → Int32} {up : Nat → Int32} {X : va_W} {u : Nat} {s0 : Int32} {a1 : Int32} {b1 : Int32} {ou : Nat} {oF : Nat → Int64} (hn : n ≤ 40) (hu : u < n) (hb : ¬ okU 10 s0) : CW yL_addFind cL_addFind 7 (some .int) [(0, 14, 17, 21), (0, 14, 21, 13), (0, 14, 25, 15)] ({ frames := 8, cells := 1, slots := 6, locals := 156 } : Room) κ [.ref (a 0), .int (nI u), .int s0, .int a1, .int b1, .ref ou] (wC κ a n dug dtd so ph uf ul r ki lt er mz bd bo me dE eE lE li fB fA sL f fu fs ff fl xs ys zs oL oU lo up ((ou, .inl (kJ κ, 1, .inr (.inl oF))) :: X)) (aD (some (.int (nI 2))) (wC κ a n dug dtd so ph uf ul r ki lt er mz bd bo me dE eE lE li fB fA sL f fu fs ff fl xs ys zs oL oU lo up ((ou, .inl (kJ κ, 1, .inr (.inl oF))) :: X))) := by
  refine cw_entry (own := RL) (L := [(0, .ref (a 0)), (1, .int (nI u)), (2, .int s0), (3, .int a1), (4, .int b1), (5, .ref ou)]) (by decide +kernel) rfl (lv_entry [.ref (a 0), .int (nI u), .int s0, .int a1, .int b1, .ref ou] (n := 7) (Nat.le_of_ble_eq_true rfl)) (fun g C E hT => ?_)
  refine a_aload (pc := 0) C 5 rfl dL_addFind_0 ?_
  refine a_iconst (pc := 2) (v := nI 0) C ci_0 dL_addFind_2 ?_
  refine a_aloadn (pc := 3) C 0 rfl rfl dL_addFind_3 ?_
  refine a_iloadn (pc := 4) C 1 rfl rfl dL_addFind_4 ?_
  refine a_iloadn (pc := 5) C 2 rfl rfl dL_addFind_5 ?_
  refine a_iloadn (pc := 6) C 3 rfl rfl dL_addFind_6 ?_
  refine a_iload (pc := 7) C 4 rfl dL_addFind_7 ?_
  refine a_xV (pc := 9) C (c_X5_addFind_b2 κ a hn hu hb) yv_X5_addFind ml_L_53 wi_X5_addFind wl_X5_addFind 0 rfl rfl rfl rfl (Nat.le_of_ble_eq_true rfl) (Nat.le_of_ble_eq_true rfl) (Nat.le_of_ble_eq_true rfl) ⟨(Nat.le_of_ble_eq_true rfl), (Nat.le_of_ble_eq_true rfl)⟩ dL_addFind_9 (fun e w h => ?_) (fun ro w h => h.elim)
  obtain ⟨rfl, rfl⟩ := h
  refine a_catch (E := xIA) C hT [⟨0, 14, 17, 21⟩] [⟨0, 14, 25, 15⟩] ⟨0, 14, 21, 13⟩ rfl (List.forall_mem_cons.mpr ⟨⟨by decide, _, cl_L_21, by simp [nxN]⟩, (fun z hz => by cases hz)⟩) (by decide) (by decide) cl_L_13 (by simp [nxC]) (fun qx => ?_)
  refine a_astore (pc := 21) (L' := [(0, .ref (a 0)), (1, .int (nI u)), (2, .int s0), (3, .int a1), (4, .int b1), (5, .ref ou), (6, .ref qx)]) C (by decide) rfl dL_addFind_21 ?_
  refine a_iconst (pc := 23) (v := nI 2) C ci_2 dL_addFind_23 ?_
  exact a_iret (pc := 24) C E (Nat.le_of_ble_eq_true rfl) (Nat.le_of_ble_eq_true rfl) ⟨rfl, rfl⟩ dL_addFind_24

set_option maxHeartbeats 4000000 in
set_option maxRecDepth 100000 in
theorem c_L_addFind_b3 (κ : aK) (a : Nat → Nat) {n : Nat} {dug : Nat → Bool} {dtd : Nat → Bool} {so : Nat → Int32} {ph : Nat → Int32} {uf : Nat → Int32} {ul : Nat → Int32} {r : Nat} {ki : Nat → Int32} {lt : Nat → Nat} {er : Nat → Nat} {mz : Nat} {bd : Nat → Bool} {bo : Nat → Nat} {me : Nat → Nat → Bool} {dE : Nat → Nat → Bool} {eE : Nat → Nat → Bool} {lE : Nat → Nat → Bool} {li : Nat → Nat → Bool} {fB : Nat → Int32} {fA : Nat → Int32} {sL : Nat → Int32} {f : Nat} {fu : Nat → Nat} {fs : Nat → Int32} {ff : Nat → Int32} {fl : Nat → Int32} {xs : Nat → Int32} {ys : Nat → Int32} {zs : Nat → Int32} {oL : Nat → Int32} {oU : Nat → Int32} {lo : Nat → Int32} {up : Nat → Int32} {X : va_W} {u : Nat} {s0 : Int32} {a1 : Int32} {b1 : Int32} {ou : Nat} {oF : Nat → Int64} (hn : n ≤ 40) (hu : u < n) (hs : okU 10 s0) (hb : (yrB a1 && yrB b1) = false) : CW yL_addFind cL_addFind 7 (some .int) [(0, 14, 17, 21), (0, 14, 21, 13), (0, 14, 25, 15)] ({ frames := 8, cells := 1, slots := 6, locals := 156 } : Room) κ [.ref (a 0), .int (nI u), .int s0, .int a1, .int b1, .ref ou] (wC κ a n dug dtd so ph uf ul r ki lt er mz bd bo me dE eE lE li fB fA sL f fu fs ff fl xs ys zs oL oU lo up ((ou, .inl (kJ κ, 1, .inr (.inl oF))) :: X)) (aD (some (.int (nI 2))) (wC κ a n dug dtd so ph uf ul r ki lt er mz bd bo me dE eE lE li fB fA sL f fu fs ff fl xs ys zs oL oU lo up ((ou, .inl (kJ κ, 1, .inr (.inl oF))) :: X))) := by
  refine cw_entry (own := RL) (L := [(0, .ref (a 0)), (1, .int (nI u)), (2, .int s0), (3, .int a1), (4, .int b1), (5, .ref ou)]) (by decide +kernel) rfl (lv_entry [.ref (a 0), .int (nI u), .int s0, .int a1, .int b1, .ref ou] (n := 7) (Nat.le_of_ble_eq_true rfl)) (fun g C E hT => ?_)
  refine a_aload (pc := 0) C 5 rfl dL_addFind_0 ?_
  refine a_iconst (pc := 2) (v := nI 0) C ci_0 dL_addFind_2 ?_
  refine a_aloadn (pc := 3) C 0 rfl rfl dL_addFind_3 ?_
  refine a_iloadn (pc := 4) C 1 rfl rfl dL_addFind_4 ?_
  refine a_iloadn (pc := 5) C 2 rfl rfl dL_addFind_5 ?_
  refine a_iloadn (pc := 6) C 3 rfl rfl dL_addFind_6 ?_
  refine a_iload (pc := 7) C 4 rfl dL_addFind_7 ?_
  refine a_xV (pc := 9) C (c_X5_addFind_b3 κ a hn hu hs hb) yv_X5_addFind ml_L_53 wi_X5_addFind wl_X5_addFind 0 rfl rfl rfl rfl (Nat.le_of_ble_eq_true rfl) (Nat.le_of_ble_eq_true rfl) (Nat.le_of_ble_eq_true rfl) ⟨(Nat.le_of_ble_eq_true rfl), (Nat.le_of_ble_eq_true rfl)⟩ dL_addFind_9 (fun e w h => ?_) (fun ro w h => h.elim)
  obtain ⟨rfl, rfl⟩ := h
  refine a_catch (E := xIA) C hT [⟨0, 14, 17, 21⟩] [⟨0, 14, 25, 15⟩] ⟨0, 14, 21, 13⟩ rfl (List.forall_mem_cons.mpr ⟨⟨by decide, _, cl_L_21, by simp [nxN]⟩, (fun z hz => by cases hz)⟩) (by decide) (by decide) cl_L_13 (by simp [nxC]) (fun qx => ?_)
  refine a_astore (pc := 21) (L' := [(0, .ref (a 0)), (1, .int (nI u)), (2, .int s0), (3, .int a1), (4, .int b1), (5, .ref ou), (6, .ref qx)]) C (by decide) rfl dL_addFind_21 ?_
  refine a_iconst (pc := 23) (v := nI 2) C ci_2 dL_addFind_23 ?_
  exact a_iret (pc := 24) C E (Nat.le_of_ble_eq_true rfl) (Nat.le_of_ble_eq_true rfl) ⟨rfl, rfl⟩ dL_addFind_24

set_option maxHeartbeats 4000000 in
set_option maxRecDepth 100000 in
theorem c_L_addFind_b4 (κ : aK) (a : Nat → Nat) {n : Nat} {dug : Nat → Bool} {dtd : Nat → Bool} {so : Nat → Int32} {ph : Nat → Int32} {uf : Nat → Int32} {ul : Nat → Int32} {r : Nat} {ki : Nat → Int32} {lt : Nat → Nat} {er : Nat → Nat} {mz : Nat} {bd : Nat → Bool} {bo : Nat → Nat} {me : Nat → Nat → Bool} {dE : Nat → Nat → Bool} {eE : Nat → Nat → Bool} {lE : Nat → Nat → Bool} {li : Nat → Nat → Bool} {fB : Nat → Int32} {fA : Nat → Int32} {sL : Nat → Int32} {f : Nat} {fu : Nat → Nat} {fs : Nat → Int32} {ff : Nat → Int32} {fl : Nat → Int32} {xs : Nat → Int32} {ys : Nat → Int32} {zs : Nat → Int32} {oL : Nat → Int32} {oU : Nat → Int32} {lo : Nat → Int32} {up : Nat → Int32} {X : va_W} {u : Nat} {s0 : Int32} {a1 : Int32} {b1 : Int32} {ou : Nat} {oF : Nat → Int64} (hn : n ≤ 40) (hu : u < n) (hs : okU 10 s0) (h1 : yrB a1 = true) (h2 : yrB b1 = true) (hb : ¬ a1 ≤ b1) : CW yL_addFind cL_addFind 7 (some .int) [(0, 14, 17, 21), (0, 14, 21, 13), (0, 14, 25, 15)] ({ frames := 8, cells := 1, slots := 6, locals := 156 } : Room) κ [.ref (a 0), .int (nI u), .int s0, .int a1, .int b1, .ref ou] (wC κ a n dug dtd so ph uf ul r ki lt er mz bd bo me dE eE lE li fB fA sL f fu fs ff fl xs ys zs oL oU lo up ((ou, .inl (kJ κ, 1, .inr (.inl oF))) :: X)) (aD (some (.int (nI 2))) (wC κ a n dug dtd so ph uf ul r ki lt er mz bd bo me dE eE lE li fB fA sL f fu fs ff fl xs ys zs oL oU lo up ((ou, .inl (kJ κ, 1, .inr (.inl oF))) :: X))) := by
  refine cw_entry (own := RL) (L := [(0, .ref (a 0)), (1, .int (nI u)), (2, .int s0), (3, .int a1), (4, .int b1), (5, .ref ou)]) (by decide +kernel) rfl (lv_entry [.ref (a 0), .int (nI u), .int s0, .int a1, .int b1, .ref ou] (n := 7) (Nat.le_of_ble_eq_true rfl)) (fun g C E hT => ?_)
  refine a_aload (pc := 0) C 5 rfl dL_addFind_0 ?_
  refine a_iconst (pc := 2) (v := nI 0) C ci_0 dL_addFind_2 ?_
  refine a_aloadn (pc := 3) C 0 rfl rfl dL_addFind_3 ?_
  refine a_iloadn (pc := 4) C 1 rfl rfl dL_addFind_4 ?_
  refine a_iloadn (pc := 5) C 2 rfl rfl dL_addFind_5 ?_
  refine a_iloadn (pc := 6) C 3 rfl rfl dL_addFind_6 ?_
  refine a_iload (pc := 7) C 4 rfl dL_addFind_7 ?_
  refine a_xV (pc := 9) C (c_X5_addFind_b4 κ a hn hu hs h1 h2 hb) yv_X5_addFind ml_L_53 wi_X5_addFind wl_X5_addFind 0 rfl rfl rfl rfl (Nat.le_of_ble_eq_true rfl) (Nat.le_of_ble_eq_true rfl) (Nat.le_of_ble_eq_true rfl) ⟨(Nat.le_of_ble_eq_true rfl), (Nat.le_of_ble_eq_true rfl)⟩ dL_addFind_9 (fun e w h => ?_) (fun ro w h => h.elim)
  obtain ⟨rfl, rfl⟩ := h
  refine a_catch (E := xIA) C hT [⟨0, 14, 17, 21⟩] [⟨0, 14, 25, 15⟩] ⟨0, 14, 21, 13⟩ rfl (List.forall_mem_cons.mpr ⟨⟨by decide, _, cl_L_21, by simp [nxN]⟩, (fun z hz => by cases hz)⟩) (by decide) (by decide) cl_L_13 (by simp [nxC]) (fun qx => ?_)
  refine a_astore (pc := 21) (L' := [(0, .ref (a 0)), (1, .int (nI u)), (2, .int s0), (3, .int a1), (4, .int b1), (5, .ref ou), (6, .ref qx)]) C (by decide) rfl dL_addFind_21 ?_
  refine a_iconst (pc := 23) (v := nI 2) C ci_2 dL_addFind_23 ?_
  exact a_iret (pc := 24) C E (Nat.le_of_ble_eq_true rfl) (Nat.le_of_ble_eq_true rfl) ⟨rfl, rfl⟩ dL_addFind_24

set_option maxHeartbeats 4000000 in
set_option maxRecDepth 100000 in
theorem c_L_addFind_b5 (κ : aK) (a : Nat → Nat) {n : Nat} {dug : Nat → Bool} {dtd : Nat → Bool} {so : Nat → Int32} {ph : Nat → Int32} {uf : Nat → Int32} {ul : Nat → Int32} {r : Nat} {ki : Nat → Int32} {lt : Nat → Nat} {er : Nat → Nat} {mz : Nat} {bd : Nat → Bool} {bo : Nat → Nat} {me : Nat → Nat → Bool} {dE : Nat → Nat → Bool} {eE : Nat → Nat → Bool} {lE : Nat → Nat → Bool} {li : Nat → Nat → Bool} {fB : Nat → Int32} {fA : Nat → Int32} {sL : Nat → Int32} {f : Nat} {fu : Nat → Nat} {fs : Nat → Int32} {ff : Nat → Int32} {fl : Nat → Int32} {xs : Nat → Int32} {ys : Nat → Int32} {zs : Nat → Int32} {oL : Nat → Int32} {oU : Nat → Int32} {lo : Nat → Int32} {up : Nat → Int32} {X : va_W} {u : Nat} {s0 : Int32} {a1 : Int32} {b1 : Int32} {ou : Nat} {oF : Nat → Int64} (hn : n ≤ 40) (hu : u < n) (hs : okU 10 s0) (h1 : yrB a1 = true) (h2 : yrB b1 = true) (h3 : a1 ≤ b1) (hf : f = 60) : CW yL_addFind cL_addFind 7 (some .int) [(0, 14, 17, 21), (0, 14, 21, 13), (0, 14, 25, 15)] ({ frames := 8, cells := 1, slots := 6, locals := 156 } : Room) κ [.ref (a 0), .int (nI u), .int s0, .int a1, .int b1, .ref ou] (wC κ a n dug dtd so ph uf ul r ki lt er mz bd bo me dE eE lE li fB fA sL f fu fs ff fl xs ys zs oL oU lo up ((ou, .inl (kJ κ, 1, .inr (.inl oF))) :: X)) (aD (some (.int (nI 3))) (wC κ a n dug dtd so ph uf ul r ki lt er mz bd bo me dE eE lE li fB fA sL f fu fs ff fl xs ys zs oL oU lo up ((ou, .inl (kJ κ, 1, .inr (.inl oF))) :: X))) := by
  refine cw_entry (own := RL) (L := [(0, .ref (a 0)), (1, .int (nI u)), (2, .int s0), (3, .int a1), (4, .int b1), (5, .ref ou)]) (by decide +kernel) rfl (lv_entry [.ref (a 0), .int (nI u), .int s0, .int a1, .int b1, .ref ou] (n := 7) (Nat.le_of_ble_eq_true rfl)) (fun g C E hT => ?_)
  refine a_aload (pc := 0) C 5 rfl dL_addFind_0 ?_
  refine a_iconst (pc := 2) (v := nI 0) C ci_0 dL_addFind_2 ?_
  refine a_aloadn (pc := 3) C 0 rfl rfl dL_addFind_3 ?_
  refine a_iloadn (pc := 4) C 1 rfl rfl dL_addFind_4 ?_
  refine a_iloadn (pc := 5) C 2 rfl rfl dL_addFind_5 ?_
  refine a_iloadn (pc := 6) C 3 rfl rfl dL_addFind_6 ?_
  refine a_iload (pc := 7) C 4 rfl dL_addFind_7 ?_
  refine a_xV (pc := 9) C (c_X5_addFind_b5 κ a hn hu hs h1 h2 h3 hf) yv_X5_addFind ml_L_53 wi_X5_addFind wl_X5_addFind 0 rfl rfl rfl rfl (Nat.le_of_ble_eq_true rfl) (Nat.le_of_ble_eq_true rfl) (Nat.le_of_ble_eq_true rfl) ⟨(Nat.le_of_ble_eq_true rfl), (Nat.le_of_ble_eq_true rfl)⟩ dL_addFind_9 (fun e w h => ?_) (fun ro w h => h.elim)
  obtain ⟨rfl, rfl⟩ := h
  refine a_catch (E := xIS) C hT [⟨0, 14, 17, 21⟩, ⟨0, 14, 21, 13⟩] [] ⟨0, 14, 25, 15⟩ rfl (List.forall_mem_cons.mpr ⟨⟨by decide, _, cl_L_21, by simp [nxN]⟩, (List.forall_mem_cons.mpr ⟨⟨by decide, _, cl_L_13, by simp [nxN]⟩, (fun z hz => by cases hz)⟩)⟩) (by decide) (by decide) cl_L_15 (by simp [nxC]) (fun qx => ?_)
  refine a_astore (pc := 25) (L' := [(0, .ref (a 0)), (1, .int (nI u)), (2, .int s0), (3, .int a1), (4, .int b1), (5, .ref ou), (6, .ref qx)]) C (by decide) rfl dL_addFind_25 ?_
  refine a_iconst (pc := 27) (v := nI 3) C ci_3 dL_addFind_27 ?_
  exact a_iret (pc := 28) C E (Nat.le_of_ble_eq_true rfl) (Nat.le_of_ble_eq_true rfl) ⟨rfl, rfl⟩ dL_addFind_28

set_option maxHeartbeats 4000000 in
set_option maxRecDepth 100000 in
theorem c_L_addUnit (κ : aK) (a : Nat → Nat) {n : Nat} {dug : Nat → Bool} {dtd : Nat → Bool} {so : Nat → Int32} {ph : Nat → Int32} {uf : Nat → Int32} {ul : Nat → Int32} {r : Nat} {ki : Nat → Int32} {lt : Nat → Nat} {er : Nat → Nat} {mz : Nat} {bd : Nat → Bool} {bo : Nat → Nat} {me : Nat → Nat → Bool} {dE : Nat → Nat → Bool} {eE : Nat → Nat → Bool} {lE : Nat → Nat → Bool} {li : Nat → Nat → Bool} {fB : Nat → Int32} {fA : Nat → Int32} {sL : Nat → Int32} {f : Nat} {fu : Nat → Nat} {fs : Nat → Int32} {ff : Nat → Int32} {fl : Nat → Int32} {xs : Nat → Int32} {ys : Nat → Int32} {zs : Nat → Int32} {oL : Nat → Int32} {oU : Nat → Int32} {lo : Nat → Int32} {up : Nat → Int32} {X : va_W} {s0 : Int32} {ou : Nat} {oF : Nat → Int64} (hs : okU 4 s0) (hn : n < 40) (hr : r ≤ 80) (hf : f ≤ 60) (hbo : ∀ u, bo u < 40) (hlt : ∀ u, lt u < 40) (her : ∀ u, er u < 40) (hfu : ∀ u, fu u < 40) : CW yL_addUnit cL_addUnit 4 (some .int) [(0, 9, 12, 13), (0, 9, 15, 15)] ({ frames := 7, cells := 0, slots := 0, locals := 152 } : Room) κ [.ref (a 0), .int s0, .ref ou] (wC κ a n dug dtd so ph uf ul r ki lt er mz bd bo me dE eE lE li fB fA sL f fu fs ff fl xs ys zs oL oU lo up ((ou, .inl (kJ κ, 1, .inr (.inl oF))) :: X)) (aD (some (.int (nI 0))) (wC κ a (n + 1) dug dtd (va_up so n s0) ph uf ul r ki lt er (n + 1) (nB ki lt er bo (n + 1) r) (nJ ki lt er bo (n + 1) r) (nM ki lt er bo (n + 1) r me) (nD ki lt er bo (n + 1) r dE) (nE ki lt er bo (n + 1) r dE eE) (nL ki lt er bo (n + 1) r dE eE lE) (nK ki lt er bo (n + 1) r dE eE li) (nfB ki lt er bo (n + 1) r dE eE fB) (nfA ki lt er bo (n + 1) r dE eE lE fA) sL f fu fs ff fl xs ys zs (nOL dtd uf (nJ ki lt er bo (n + 1) r) fu ff oL (n + 1) f) (nOU dtd ul (nJ ki lt er bo (n + 1) r) oU (n + 1)) (nLo (nOL dtd uf (nJ ki lt er bo (n + 1) r) fu ff oL (n + 1) f) (nE ki lt er bo (n + 1) r dE eE) lo (n + 1)) (nUp (nOU dtd ul (nJ ki lt er bo (n + 1) r) oU (n + 1)) (nL ki lt er bo (n + 1) r dE eE lE) up (n + 1)) ((ou, .inl (kJ κ, 1, .inr (.inl (va_up oF 0 (nI n).toInt64)))) :: X))) := by
  refine cw_entry (own := RL) (L := [(0, .ref (a 0)), (1, .int s0), (2, .ref ou)]) (by decide +kernel) rfl (lv_entry [.ref (a 0), .int s0, .ref ou] (n := 4) (Nat.le_of_ble_eq_true rfl)) (fun g C E hT => ?_)
  refine a_aloadn (pc := 0) C 2 rfl rfl dL_addUnit_0 ?_
  refine a_iconst (pc := 1) (v := nI 0) C ci_0 dL_addUnit_1 ?_
  refine a_aloadn (pc := 2) C 0 rfl rfl dL_addUnit_2 ?_
  refine a_iloadn (pc := 3) C 1 rfl rfl dL_addUnit_3 ?_
  refine a_callV1 (pc := 4) (k' := 0) (n' := 0) C (c_X5_addUnit κ a hs hn hr hf hbo hlt her hfu) yv_X5_addUnit ml_L_7 wi_X5_addUnit wl_X5_addUnit 0 rfl rfl rfl rfl (Nat.le_of_ble_eq_true rfl) (Nat.le_of_ble_eq_true rfl) (Nat.le_of_ble_eq_true rfl) ⟨(Nat.le_of_ble_eq_true rfl), (Nat.le_of_ble_eq_true rfl)⟩ rfl rfl dL_addUnit_4 ?_
  refine a_i2l (pc := 7) (v := (nI n).toInt64) C rfl dL_addUnit_7 ?_
  refine a_last (pc := 8) (ws' := wC κ a (n + 1) dug dtd (va_up so n s0) ph uf ul r ki lt er (n + 1) (nB ki lt er bo (n + 1) r) (nJ ki lt er bo (n + 1) r) (nM ki lt er bo (n + 1) r me) (nD ki lt er bo (n + 1) r dE) (nE ki lt er bo (n + 1) r dE eE) (nL ki lt er bo (n + 1) r dE eE lE) (nK ki lt er bo (n + 1) r dE eE li) (nfB ki lt er bo (n + 1) r dE eE fB) (nfA ki lt er bo (n + 1) r dE eE lE fA) sL f fu fs ff fl xs ys zs (nOL dtd uf (nJ ki lt er bo (n + 1) r) fu ff oL (n + 1) f) (nOU dtd ul (nJ ki lt er bo (n + 1) r) oU (n + 1)) (nLo (nOL dtd uf (nJ ki lt er bo (n + 1) r) fu ff oL (n + 1) f) (nE ki lt er bo (n + 1) r dE eE) lo (n + 1)) (nUp (nOU dtd ul (nJ ki lt er bo (n + 1) r) oU (n + 1)) (nL ki lt er bo (n + 1) r dE eE lE) up (n + 1)) ((ou, .inl (kJ κ, 1, .inr (.inl (va_up oF 0 ((nI n).toInt64))))) :: X)) C 33 rfl (by omega) (by decide) rfl rfl dL_addUnit_8 ?_
  refine a_goto (pc := 9) (tgt := 18) C (by decide) dL_addUnit_9 ?_
  refine a_iconst (pc := 18) (v := nI 0) C ci_0 dL_addUnit_18 ?_
  refine aw_eq (congrArg (fun zz9 => wC κ a (n + 1) dug dtd (va_up so n s0) ph uf ul r ki lt er (n + 1) (nB ki lt er bo (n + 1) r) (nJ ki lt er bo (n + 1) r) (nM ki lt er bo (n + 1) r me) (nD ki lt er bo (n + 1) r dE) (nE ki lt er bo (n + 1) r dE eE) (nL ki lt er bo (n + 1) r dE eE lE) (nK ki lt er bo (n + 1) r dE eE li) (nfB ki lt er bo (n + 1) r dE eE fB) (nfA ki lt er bo (n + 1) r dE eE lE fA) sL f fu fs ff fl xs ys zs (nOL dtd uf (nJ ki lt er bo (n + 1) r) fu ff oL (n + 1) f) (nOU dtd ul (nJ ki lt er bo (n + 1) r) oU (n + 1)) (nLo (nOL dtd uf (nJ ki lt er bo (n + 1) r) fu ff oL (n + 1) f) (nE ki lt er bo (n + 1) r dE eE) lo (n + 1)) (nUp (nOU dtd ul (nJ ki lt er bo (n + 1) r) oU (n + 1)) (nL ki lt er bo (n + 1) r dE eE lE) up (n + 1)) ((ou, .inl (kJ κ, 1, .inr (.inl zz9))) :: X)) (rfl : (va_up oF 0 ((nI n).toInt64)) = (va_up oF 0 (nI n).toInt64))) ?_
  exact a_iret (pc := 19) C E (Nat.le_of_ble_eq_true rfl) (Nat.le_of_ble_eq_true rfl) ⟨rfl, rfl⟩ dL_addUnit_19

set_option maxHeartbeats 4000000 in
set_option maxRecDepth 100000 in
theorem c_L_addUnit_b1 (κ : aK) (a : Nat → Nat) {n : Nat} {dug : Nat → Bool} {dtd : Nat → Bool} {so : Nat → Int32} {ph : Nat → Int32} {uf : Nat → Int32} {ul : Nat → Int32} {r : Nat} {ki : Nat → Int32} {lt : Nat → Nat} {er : Nat → Nat} {mz : Nat} {bd : Nat → Bool} {bo : Nat → Nat} {me : Nat → Nat → Bool} {dE : Nat → Nat → Bool} {eE : Nat → Nat → Bool} {lE : Nat → Nat → Bool} {li : Nat → Nat → Bool} {fB : Nat → Int32} {fA : Nat → Int32} {sL : Nat → Int32} {f : Nat} {fu : Nat → Nat} {fs : Nat → Int32} {ff : Nat → Int32} {fl : Nat → Int32} {xs : Nat → Int32} {ys : Nat → Int32} {zs : Nat → Int32} {oL : Nat → Int32} {oU : Nat → Int32} {lo : Nat → Int32} {up : Nat → Int32} {X : va_W} {s0 : Int32} {ou : Nat} {oF : Nat → Int64} (hb : ¬ okU 4 s0) : CW yL_addUnit cL_addUnit 4 (some .int) [(0, 9, 12, 13), (0, 9, 15, 15)] ({ frames := 7, cells := 1, slots := 6, locals := 152 } : Room) κ [.ref (a 0), .int s0, .ref ou] (wC κ a n dug dtd so ph uf ul r ki lt er mz bd bo me dE eE lE li fB fA sL f fu fs ff fl xs ys zs oL oU lo up ((ou, .inl (kJ κ, 1, .inr (.inl oF))) :: X)) (aD (some (.int (nI 1))) (wC κ a n dug dtd so ph uf ul r ki lt er mz bd bo me dE eE lE li fB fA sL f fu fs ff fl xs ys zs oL oU lo up ((ou, .inl (kJ κ, 1, .inr (.inl oF))) :: X))) := by
  refine cw_entry (own := RL) (L := [(0, .ref (a 0)), (1, .int s0), (2, .ref ou)]) (by decide +kernel) rfl (lv_entry [.ref (a 0), .int s0, .ref ou] (n := 4) (Nat.le_of_ble_eq_true rfl)) (fun g C E hT => ?_)
  refine a_aloadn (pc := 0) C 2 rfl rfl dL_addUnit_0 ?_
  refine a_iconst (pc := 1) (v := nI 0) C ci_0 dL_addUnit_1 ?_
  refine a_aloadn (pc := 2) C 0 rfl rfl dL_addUnit_2 ?_
  refine a_iloadn (pc := 3) C 1 rfl rfl dL_addUnit_3 ?_
  refine a_xV (pc := 4) C (c_X5_addUnit_b1 κ a hb) yv_X5_addUnit ml_L_7 wi_X5_addUnit wl_X5_addUnit 0 rfl rfl rfl rfl (Nat.le_of_ble_eq_true rfl) (Nat.le_of_ble_eq_true rfl) (Nat.le_of_ble_eq_true rfl) ⟨(Nat.le_of_ble_eq_true rfl), (Nat.le_of_ble_eq_true rfl)⟩ dL_addUnit_4 (fun e w h => ?_) (fun ro w h => h.elim)
  obtain ⟨rfl, rfl⟩ := h
  refine a_catch (E := xIA) C hT [] [⟨0, 9, 15, 15⟩] ⟨0, 9, 12, 13⟩ rfl (fun z hz => by cases hz) (by decide) (by decide) cl_L_13 (by simp [nxC]) (fun qx => ?_)
  refine a_astoren (pc := 12) (L' := [(0, .ref (a 0)), (1, .int s0), (2, .ref ou), (3, .ref qx)]) C (by decide) rfl rfl dL_addUnit_12 ?_
  refine a_iconst (pc := 13) (v := nI 1) C ci_1 dL_addUnit_13 ?_
  exact a_iret (pc := 14) C E (Nat.le_of_ble_eq_true rfl) (Nat.le_of_ble_eq_true rfl) ⟨rfl, rfl⟩ dL_addUnit_14

set_option maxHeartbeats 4000000 in
set_option maxRecDepth 100000 in
theorem c_L_addUnit_b2 (κ : aK) (a : Nat → Nat) {n : Nat} {dug : Nat → Bool} {dtd : Nat → Bool} {so : Nat → Int32} {ph : Nat → Int32} {uf : Nat → Int32} {ul : Nat → Int32} {r : Nat} {ki : Nat → Int32} {lt : Nat → Nat} {er : Nat → Nat} {mz : Nat} {bd : Nat → Bool} {bo : Nat → Nat} {me : Nat → Nat → Bool} {dE : Nat → Nat → Bool} {eE : Nat → Nat → Bool} {lE : Nat → Nat → Bool} {li : Nat → Nat → Bool} {fB : Nat → Int32} {fA : Nat → Int32} {sL : Nat → Int32} {f : Nat} {fu : Nat → Nat} {fs : Nat → Int32} {ff : Nat → Int32} {fl : Nat → Int32} {xs : Nat → Int32} {ys : Nat → Int32} {zs : Nat → Int32} {oL : Nat → Int32} {oU : Nat → Int32} {lo : Nat → Int32} {up : Nat → Int32} {X : va_W} {s0 : Int32} {ou : Nat} {oF : Nat → Int64} (hs : okU 4 s0) (hn : n = 40) : CW yL_addUnit cL_addUnit 4 (some .int) [(0, 9, 12, 13), (0, 9, 15, 15)] ({ frames := 7, cells := 1, slots := 6, locals := 152 } : Room) κ [.ref (a 0), .int s0, .ref ou] (wC κ a n dug dtd so ph uf ul r ki lt er mz bd bo me dE eE lE li fB fA sL f fu fs ff fl xs ys zs oL oU lo up ((ou, .inl (kJ κ, 1, .inr (.inl oF))) :: X)) (aD (some (.int (nI 2))) (wC κ a n dug dtd so ph uf ul r ki lt er mz bd bo me dE eE lE li fB fA sL f fu fs ff fl xs ys zs oL oU lo up ((ou, .inl (kJ κ, 1, .inr (.inl oF))) :: X))) := by
  refine cw_entry (own := RL) (L := [(0, .ref (a 0)), (1, .int s0), (2, .ref ou)]) (by decide +kernel) rfl (lv_entry [.ref (a 0), .int s0, .ref ou] (n := 4) (Nat.le_of_ble_eq_true rfl)) (fun g C E hT => ?_)
  refine a_aloadn (pc := 0) C 2 rfl rfl dL_addUnit_0 ?_
  refine a_iconst (pc := 1) (v := nI 0) C ci_0 dL_addUnit_1 ?_
  refine a_aloadn (pc := 2) C 0 rfl rfl dL_addUnit_2 ?_
  refine a_iloadn (pc := 3) C 1 rfl rfl dL_addUnit_3 ?_
  refine a_xV (pc := 4) C (c_X5_addUnit_b2 κ a hs hn) yv_X5_addUnit ml_L_7 wi_X5_addUnit wl_X5_addUnit 0 rfl rfl rfl rfl (Nat.le_of_ble_eq_true rfl) (Nat.le_of_ble_eq_true rfl) (Nat.le_of_ble_eq_true rfl) ⟨(Nat.le_of_ble_eq_true rfl), (Nat.le_of_ble_eq_true rfl)⟩ dL_addUnit_4 (fun e w h => ?_) (fun ro w h => h.elim)
  obtain ⟨rfl, rfl⟩ := h
  refine a_catch (E := xIS) C hT [⟨0, 9, 12, 13⟩] [] ⟨0, 9, 15, 15⟩ rfl (List.forall_mem_cons.mpr ⟨⟨by decide, _, cl_L_13, by simp [nxN]⟩, (fun z hz => by cases hz)⟩) (by decide) (by decide) cl_L_15 (by simp [nxC]) (fun qx => ?_)
  refine a_astoren (pc := 15) (L' := [(0, .ref (a 0)), (1, .int s0), (2, .ref ou), (3, .ref qx)]) C (by decide) rfl rfl dL_addUnit_15 ?_
  refine a_iconst (pc := 16) (v := nI 2) C ci_2 dL_addUnit_16 ?_
  exact a_iret (pc := 17) C E (Nat.le_of_ble_eq_true rfl) (Nat.le_of_ble_eq_true rfl) ⟨rfl, rfl⟩ dL_addUnit_17

set_option maxHeartbeats 4000000 in
set_option maxRecDepth 100000 in
theorem c_L_between (κ : aK) (a : Nat → Nat) {n : Nat} {dug : Nat → Bool} {dtd : Nat → Bool} {so : Nat → Int32} {ph : Nat → Int32} {uf : Nat → Int32} {ul : Nat → Int32} {r : Nat} {ki : Nat → Int32} {lt : Nat → Nat} {er : Nat → Nat} {mz : Nat} {bd : Nat → Bool} {bo : Nat → Nat} {me : Nat → Nat → Bool} {dE : Nat → Nat → Bool} {eE : Nat → Nat → Bool} {lE : Nat → Nat → Bool} {li : Nat → Nat → Bool} {fB : Nat → Int32} {fA : Nat → Int32} {sL : Nat → Int32} {f : Nat} {fu : Nat → Nat} {fs : Nat → Int32} {ff : Nat → Int32} {fl : Nat → Int32} {xs : Nat → Int32} {ys : Nat → Int32} {zs : Nat → Int32} {oL : Nat → Int32} {oU : Nat → Int32} {lo : Nat → Int32} {up : Nat → Int32} {X : va_W} {x : Nat} {y : Nat} {ou : Nat} {oF : Nat → Int64} (hn : n ≤ 40) (hbo : ∀ u, bo u < 40) (hx : x < n) (hy : y < n) : CW yL_between cL_between 5 (some .int) [(0, 10, 13, 21)] ({ frames := 8, cells := 0, slots := 0, locals := 153 } : Room) κ [.ref (a 0), .int (nI x), .int (nI y), .ref ou] (wC κ a n dug dtd so ph uf ul r ki lt er mz bd bo me dE eE lE li fB fA sL f fu fs ff fl xs ys zs oL oU lo up ((ou, .inl (kJ κ, 1, .inr (.inl oF))) :: X)) (aD (some (.int (nI 0))) (wC κ a n dug dtd so ph uf ul r ki lt er mz bd bo me dE eE lE li fB fA sL f fu fs ff fl xs ys zs oL oU lo up ((ou, .inl (kJ κ, 1, .inr (.inl (va_up oF 0 (bcI (bs (fun i => eE (bo x) i && lE (bo y) i))).toInt64)))) :: X))) := by
  refine cw_entry (own := RL) (L := [(0, .ref (a 0)), (1, .int (nI x)), (2, .int (nI y)), (3, .ref ou)]) (by decide +kernel) rfl (lv_entry [.ref (a 0), .int (nI x), .int (nI y), .ref ou] (n := 5) (Nat.le_of_ble_eq_true rfl)) (fun g C E hT => ?_)
  refine a_aloadn (pc := 0) C 3 rfl rfl dL_between_0 ?_
  refine a_iconst (pc := 1) (v := nI 0) C ci_0 dL_between_1 ?_
  refine a_aloadn (pc := 2) C 0 rfl rfl dL_between_2 ?_
  refine a_iloadn (pc := 3) C 1 rfl rfl dL_between_3 ?_
  refine a_iloadn (pc := 4) C 2 rfl rfl dL_between_4 ?_
  refine a_callV1 (pc := 5) (k' := 0) (n' := 0) C (c_X5_between κ a hn hbo hx hy) yv_X5_between ml_L_50 wi_X5_between wl_X5_between 0 rfl rfl rfl rfl (Nat.le_of_ble_eq_true rfl) (Nat.le_of_ble_eq_true rfl) (Nat.le_of_ble_eq_true rfl) ⟨(Nat.le_of_ble_eq_true rfl), (Nat.le_of_ble_eq_true rfl)⟩ rfl rfl dL_between_5 ?_
  refine a_i2l (pc := 8) (v := (bcI (bs (fun i => eE (bo x) i && lE (bo y) i))).toInt64) C rfl dL_between_8 ?_
  refine a_last (pc := 9) (ws' := wC κ a n dug dtd so ph uf ul r ki lt er mz bd bo me dE eE lE li fB fA sL f fu fs ff fl xs ys zs oL oU lo up ((ou, .inl (kJ κ, 1, .inr (.inl (va_up oF 0 ((bcI (bs (fun i => eE (bo x) i && lE (bo y) i))).toInt64))))) :: X)) C 33 rfl (by omega) (by decide) rfl rfl dL_between_9 ?_
  refine a_goto (pc := 10) (tgt := 17) C (by decide) dL_between_10 ?_
  refine a_iconst (pc := 17) (v := nI 0) C ci_0 dL_between_17 ?_
  refine aw_eq (congrArg (fun zz9 => wC κ a n dug dtd so ph uf ul r ki lt er mz bd bo me dE eE lE li fB fA sL f fu fs ff fl xs ys zs oL oU lo up ((ou, .inl (kJ κ, 1, .inr (.inl zz9))) :: X)) (rfl : (va_up oF 0 ((bcI (bs (fun i => eE (bo x) i && lE (bo y) i))).toInt64)) = (va_up oF 0 (bcI (bs (fun i => eE (bo x) i && lE (bo y) i))).toInt64))) ?_
  exact a_iret (pc := 18) C E (Nat.le_of_ble_eq_true rfl) (Nat.le_of_ble_eq_true rfl) ⟨rfl, rfl⟩ dL_between_18

set_option maxHeartbeats 4000000 in
set_option maxRecDepth 100000 in
theorem c_L_between_b1 (κ : aK) (a : Nat → Nat) {n : Nat} {dug : Nat → Bool} {dtd : Nat → Bool} {so : Nat → Int32} {ph : Nat → Int32} {uf : Nat → Int32} {ul : Nat → Int32} {r : Nat} {ki : Nat → Int32} {lt : Nat → Nat} {er : Nat → Nat} {mz : Nat} {bd : Nat → Bool} {bo : Nat → Nat} {me : Nat → Nat → Bool} {dE : Nat → Nat → Bool} {eE : Nat → Nat → Bool} {lE : Nat → Nat → Bool} {li : Nat → Nat → Bool} {fB : Nat → Int32} {fA : Nat → Int32} {sL : Nat → Int32} {f : Nat} {fu : Nat → Nat} {fs : Nat → Int32} {ff : Nat → Int32} {fl : Nat → Int32} {xs : Nat → Int32} {ys : Nat → Int32} {zs : Nat → Int32} {oL : Nat → Int32} {oU : Nat → Int32} {lo : Nat → Int32} {up : Nat → Int32} {X : va_W} {x : Int32} {y : Int32} {ou : Nat} {oF : Nat → Int64} (hn : n ≤ 40) (hb : ¬ okU n x) : CW yL_between cL_between 5 (some .int) [(0, 10, 13, 21)] ({ frames := 8, cells := 1, slots := 6, locals := 153 } : Room) κ [.ref (a 0), .int x, .int y, .ref ou] (wC κ a n dug dtd so ph uf ul r ki lt er mz bd bo me dE eE lE li fB fA sL f fu fs ff fl xs ys zs oL oU lo up ((ou, .inl (kJ κ, 1, .inr (.inl oF))) :: X)) (aD (some (.int (nI 1))) (wC κ a n dug dtd so ph uf ul r ki lt er mz bd bo me dE eE lE li fB fA sL f fu fs ff fl xs ys zs oL oU lo up ((ou, .inl (kJ κ, 1, .inr (.inl oF))) :: X))) := by
  refine cw_entry (own := RL) (L := [(0, .ref (a 0)), (1, .int x), (2, .int y), (3, .ref ou)]) (by decide +kernel) rfl (lv_entry [.ref (a 0), .int x, .int y, .ref ou] (n := 5) (Nat.le_of_ble_eq_true rfl)) (fun g C E hT => ?_)
  refine a_aloadn (pc := 0) C 3 rfl rfl dL_between_0 ?_
  refine a_iconst (pc := 1) (v := nI 0) C ci_0 dL_between_1 ?_
  refine a_aloadn (pc := 2) C 0 rfl rfl dL_between_2 ?_
  refine a_iloadn (pc := 3) C 1 rfl rfl dL_between_3 ?_
  refine a_iloadn (pc := 4) C 2 rfl rfl dL_between_4 ?_
  refine a_xV (pc := 5) C (c_X5_between_b1 κ a hn hb) yv_X5_between ml_L_50 wi_X5_between wl_X5_between 0 rfl rfl rfl rfl (Nat.le_of_ble_eq_true rfl) (Nat.le_of_ble_eq_true rfl) (Nat.le_of_ble_eq_true rfl) ⟨(Nat.le_of_ble_eq_true rfl), (Nat.le_of_ble_eq_true rfl)⟩ dL_between_5 (fun e w h => ?_) (fun ro w h => h.elim)
  obtain ⟨rfl, rfl⟩ := h
  refine a_catch (E := xIO) C hT [] [] ⟨0, 10, 13, 21⟩ rfl (fun z hz => by cases hz) (by decide) (by decide) cl_L_21 (by simp [nxC]) (fun qx => ?_)
  refine a_astore (pc := 13) (L' := [(0, .ref (a 0)), (1, .int x), (2, .int y), (3, .ref ou), (4, .ref qx)]) C (by decide) rfl dL_between_13 ?_
  refine a_iconst (pc := 15) (v := nI 1) C ci_1 dL_between_15 ?_
  exact a_iret (pc := 16) C E (Nat.le_of_ble_eq_true rfl) (Nat.le_of_ble_eq_true rfl) ⟨rfl, rfl⟩ dL_between_16

set_option maxHeartbeats 4000000 in
set_option maxRecDepth 100000 in
theorem c_L_between_b2 (κ : aK) (a : Nat → Nat) {n : Nat} {dug : Nat → Bool} {dtd : Nat → Bool} {so : Nat → Int32} {ph : Nat → Int32} {uf : Nat → Int32} {ul : Nat → Int32} {r : Nat} {ki : Nat → Int32} {lt : Nat → Nat} {er : Nat → Nat} {mz : Nat} {bd : Nat → Bool} {bo : Nat → Nat} {me : Nat → Nat → Bool} {dE : Nat → Nat → Bool} {eE : Nat → Nat → Bool} {lE : Nat → Nat → Bool} {li : Nat → Nat → Bool} {fB : Nat → Int32} {fA : Nat → Int32} {sL : Nat → Int32} {f : Nat} {fu : Nat → Nat} {fs : Nat → Int32} {ff : Nat → Int32} {fl : Nat → Int32} {xs : Nat → Int32} {ys : Nat → Int32} {zs : Nat → Int32} {oL : Nat → Int32} {oU : Nat → Int32} {lo : Nat → Int32} {up : Nat → Int32} {X : va_W} {x : Nat} {y : Int32} {ou : Nat} {oF : Nat → Int64} (hn : n ≤ 40) (hx : x < n) (hb : ¬ okU n y) : CW yL_between cL_between 5 (some .int) [(0, 10, 13, 21)] ({ frames := 8, cells := 1, slots := 6, locals := 153 } : Room) κ [.ref (a 0), .int (nI x), .int y, .ref ou] (wC κ a n dug dtd so ph uf ul r ki lt er mz bd bo me dE eE lE li fB fA sL f fu fs ff fl xs ys zs oL oU lo up ((ou, .inl (kJ κ, 1, .inr (.inl oF))) :: X)) (aD (some (.int (nI 1))) (wC κ a n dug dtd so ph uf ul r ki lt er mz bd bo me dE eE lE li fB fA sL f fu fs ff fl xs ys zs oL oU lo up ((ou, .inl (kJ κ, 1, .inr (.inl oF))) :: X))) := by
  refine cw_entry (own := RL) (L := [(0, .ref (a 0)), (1, .int (nI x)), (2, .int y), (3, .ref ou)]) (by decide +kernel) rfl (lv_entry [.ref (a 0), .int (nI x), .int y, .ref ou] (n := 5) (Nat.le_of_ble_eq_true rfl)) (fun g C E hT => ?_)
  refine a_aloadn (pc := 0) C 3 rfl rfl dL_between_0 ?_
  refine a_iconst (pc := 1) (v := nI 0) C ci_0 dL_between_1 ?_
  refine a_aloadn (pc := 2) C 0 rfl rfl dL_between_2 ?_
  refine a_iloadn (pc := 3) C 1 rfl rfl dL_between_3 ?_
  refine a_iloadn (pc := 4) C 2 rfl rfl dL_between_4 ?_
  refine a_xV (pc := 5) C (c_X5_between_b2 κ a hn hx hb) yv_X5_between ml_L_50 wi_X5_between wl_X5_between 0 rfl rfl rfl rfl (Nat.le_of_ble_eq_true rfl) (Nat.le_of_ble_eq_true rfl) (Nat.le_of_ble_eq_true rfl) ⟨(Nat.le_of_ble_eq_true rfl), (Nat.le_of_ble_eq_true rfl)⟩ dL_between_5 (fun e w h => ?_) (fun ro w h => h.elim)
  obtain ⟨rfl, rfl⟩ := h
  refine a_catch (E := xIO) C hT [] [] ⟨0, 10, 13, 21⟩ rfl (fun z hz => by cases hz) (by decide) (by decide) cl_L_21 (by simp [nxC]) (fun qx => ?_)
  refine a_astore (pc := 13) (L' := [(0, .ref (a 0)), (1, .int (nI x)), (2, .int y), (3, .ref ou), (4, .ref qx)]) C (by decide) rfl dL_between_13 ?_
  refine a_iconst (pc := 15) (v := nI 1) C ci_1 dL_between_15 ?_
  exact a_iret (pc := 16) C E (Nat.le_of_ble_eq_true rfl) (Nat.le_of_ble_eq_true rfl) ⟨rfl, rfl⟩ dL_between_16

set_option maxHeartbeats 4000000 in
set_option maxRecDepth 100000 in
theorem c_L_bound (κ : aK) (a : Nat → Nat) {n : Nat} {dug : Nat → Bool} {dtd : Nat → Bool} {so : Nat → Int32} {ph : Nat → Int32} {uf : Nat → Int32} {ul : Nat → Int32} {r : Nat} {ki : Nat → Int32} {lt : Nat → Nat} {er : Nat → Nat} {mz : Nat} {bd : Nat → Bool} {bo : Nat → Nat} {me : Nat → Nat → Bool} {dE : Nat → Nat → Bool} {eE : Nat → Nat → Bool} {lE : Nat → Nat → Bool} {li : Nat → Nat → Bool} {fB : Nat → Int32} {fA : Nat → Int32} {sL : Nat → Int32} {f : Nat} {fu : Nat → Nat} {fs : Nat → Int32} {ff : Nat → Int32} {fl : Nat → Int32} {xs : Nat → Int32} {ys : Nat → Int32} {zs : Nat → Int32} {oL : Nat → Int32} {oU : Nat → Int32} {lo : Nat → Int32} {up : Nat → Int32} {X : va_W} {u : Nat} {isU : Bool} {ou : Nat} {oF : Nat → Int64} (hn : n ≤ 40) (hbo : ∀ u, bo u < 40) (hu : u < n) : CW yL_bound cL_bound 5 (some .int) [(0, 10, 13, 21)] ({ frames := 8, cells := 0, slots := 0, locals := 154 } : Room) κ [.ref (a 0), .int (nI u), .int (b2i isU), .ref ou] (wC κ a n dug dtd so ph uf ul r ki lt er mz bd bo me dE eE lE li fB fA sL f fu fs ff fl xs ys zs oL oU lo up ((ou, .inl (kJ κ, 1, .inr (.inl oF))) :: X)) (aD (some (.int (nI 0))) (wC κ a n dug dtd so ph uf ul r ki lt er mz bd bo me dE eE lE li fB fA sL f fu fs ff fl xs ys zs oL oU lo up ((ou, .inl (kJ κ, 1, .inr (.inl (va_up oF 0 ((if isU = true then up else lo) (bo u)).toInt64)))) :: X))) := by
  refine cw_entry (own := RL) (L := [(0, .ref (a 0)), (1, .int (nI u)), (2, .int (b2i isU)), (3, .ref ou)]) (by decide +kernel) rfl (lv_entry [.ref (a 0), .int (nI u), .int (b2i isU), .ref ou] (n := 5) (Nat.le_of_ble_eq_true rfl)) (fun g C E hT => ?_)
  refine a_aloadn (pc := 0) C 3 rfl rfl dL_bound_0 ?_
  refine a_iconst (pc := 1) (v := nI 0) C ci_0 dL_bound_1 ?_
  refine a_aloadn (pc := 2) C 0 rfl rfl dL_bound_2 ?_
  refine a_iloadn (pc := 3) C 1 rfl rfl dL_bound_3 ?_
  refine a_iloadn (pc := 4) C 2 rfl rfl dL_bound_4 ?_
  refine a_callV1 (pc := 5) (k' := 0) (n' := 0) C (c_X5_bound κ a hn hbo hu) yv_X5_bound ml_L_69 wi_X5_bound wl_X5_bound 0 rfl rfl rfl rfl (Nat.le_of_ble_eq_true rfl) (Nat.le_of_ble_eq_true rfl) (Nat.le_of_ble_eq_true rfl) ⟨(Nat.le_of_ble_eq_true rfl), (Nat.le_of_ble_eq_true rfl)⟩ rfl rfl dL_bound_5 ?_
  refine a_i2l (pc := 8) (v := ((if isU = true then up else lo) (bo u)).toInt64) C rfl dL_bound_8 ?_
  refine a_last (pc := 9) (ws' := wC κ a n dug dtd so ph uf ul r ki lt er mz bd bo me dE eE lE li fB fA sL f fu fs ff fl xs ys zs oL oU lo up ((ou, .inl (kJ κ, 1, .inr (.inl (va_up oF 0 (((if isU = true then up else lo) (bo u)).toInt64))))) :: X)) C 33 rfl (by omega) (by decide) rfl rfl dL_bound_9 ?_
  refine a_goto (pc := 10) (tgt := 17) C (by decide) dL_bound_10 ?_
  refine a_iconst (pc := 17) (v := nI 0) C ci_0 dL_bound_17 ?_
  refine aw_eq (congrArg (fun zz9 => wC κ a n dug dtd so ph uf ul r ki lt er mz bd bo me dE eE lE li fB fA sL f fu fs ff fl xs ys zs oL oU lo up ((ou, .inl (kJ κ, 1, .inr (.inl zz9))) :: X)) (rfl : (va_up oF 0 (((if isU = true then up else lo) (bo u)).toInt64)) = (va_up oF 0 ((if isU = true then up else lo) (bo u)).toInt64))) ?_
  exact a_iret (pc := 18) C E (Nat.le_of_ble_eq_true rfl) (Nat.le_of_ble_eq_true rfl) ⟨rfl, rfl⟩ dL_bound_18

set_option maxHeartbeats 4000000 in
set_option maxRecDepth 100000 in
theorem c_L_bound_b1 (κ : aK) (a : Nat → Nat) {n : Nat} {dug : Nat → Bool} {dtd : Nat → Bool} {so : Nat → Int32} {ph : Nat → Int32} {uf : Nat → Int32} {ul : Nat → Int32} {r : Nat} {ki : Nat → Int32} {lt : Nat → Nat} {er : Nat → Nat} {mz : Nat} {bd : Nat → Bool} {bo : Nat → Nat} {me : Nat → Nat → Bool} {dE : Nat → Nat → Bool} {eE : Nat → Nat → Bool} {lE : Nat → Nat → Bool} {li : Nat → Nat → Bool} {fB : Nat → Int32} {fA : Nat → Int32} {sL : Nat → Int32} {f : Nat} {fu : Nat → Nat} {fs : Nat → Int32} {ff : Nat → Int32} {fl : Nat → Int32} {xs : Nat → Int32} {ys : Nat → Int32} {zs : Nat → Int32} {oL : Nat → Int32} {oU : Nat → Int32} {lo : Nat → Int32} {up : Nat → Int32} {X : va_W} {x : Int32} {isU : Bool} {ou : Nat} {oF : Nat → Int64} (hn : n ≤ 40) (hb : ¬ okU n x) : CW yL_bound cL_bound 5 (some .int) [(0, 10, 13, 21)] ({ frames := 8, cells := 1, slots := 6, locals := 154 } : Room) κ [.ref (a 0), .int x, .int (b2i isU), .ref ou] (wC κ a n dug dtd so ph uf ul r ki lt er mz bd bo me dE eE lE li fB fA sL f fu fs ff fl xs ys zs oL oU lo up ((ou, .inl (kJ κ, 1, .inr (.inl oF))) :: X)) (aD (some (.int (nI 1))) (wC κ a n dug dtd so ph uf ul r ki lt er mz bd bo me dE eE lE li fB fA sL f fu fs ff fl xs ys zs oL oU lo up ((ou, .inl (kJ κ, 1, .inr (.inl oF))) :: X))) := by
  refine cw_entry (own := RL) (L := [(0, .ref (a 0)), (1, .int x), (2, .int (b2i isU)), (3, .ref ou)]) (by decide +kernel) rfl (lv_entry [.ref (a 0), .int x, .int (b2i isU), .ref ou] (n := 5) (Nat.le_of_ble_eq_true rfl)) (fun g C E hT => ?_)
  refine a_aloadn (pc := 0) C 3 rfl rfl dL_bound_0 ?_
  refine a_iconst (pc := 1) (v := nI 0) C ci_0 dL_bound_1 ?_
  refine a_aloadn (pc := 2) C 0 rfl rfl dL_bound_2 ?_
  refine a_iloadn (pc := 3) C 1 rfl rfl dL_bound_3 ?_
  refine a_iloadn (pc := 4) C 2 rfl rfl dL_bound_4 ?_
  refine a_xV (pc := 5) C (c_X5_bound_b1 κ a hn hb) yv_X5_bound ml_L_69 wi_X5_bound wl_X5_bound 0 rfl rfl rfl rfl (Nat.le_of_ble_eq_true rfl) (Nat.le_of_ble_eq_true rfl) (Nat.le_of_ble_eq_true rfl) ⟨(Nat.le_of_ble_eq_true rfl), (Nat.le_of_ble_eq_true rfl)⟩ dL_bound_5 (fun e w h => ?_) (fun ro w h => h.elim)
  obtain ⟨rfl, rfl⟩ := h
  refine a_catch (E := xIO) C hT [] [] ⟨0, 10, 13, 21⟩ rfl (fun z hz => by cases hz) (by decide) (by decide) cl_L_21 (by simp [nxC]) (fun qx => ?_)
  refine a_astore (pc := 13) (L' := [(0, .ref (a 0)), (1, .int x), (2, .int (b2i isU)), (3, .ref ou), (4, .ref qx)]) C (by decide) rfl dL_bound_13 ?_
  refine a_iconst (pc := 15) (v := nI 1) C ci_1 dL_bound_15 ?_
  exact a_iret (pc := 16) C E (Nat.le_of_ble_eq_true rfl) (Nat.le_of_ble_eq_true rfl) ⟨rfl, rfl⟩ dL_bound_16

set_option maxHeartbeats 4000000 in
set_option maxRecDepth 100000 in
theorem c_L_count (κ : aK) (a : Nat → Nat) {n : Nat} {dug : Nat → Bool} {dtd : Nat → Bool} {so : Nat → Int32} {ph : Nat → Int32} {uf : Nat → Int32} {ul : Nat → Int32} {r : Nat} {ki : Nat → Int32} {lt : Nat → Nat} {er : Nat → Nat} {mz : Nat} {bd : Nat → Bool} {bo : Nat → Nat} {me : Nat → Nat → Bool} {dE : Nat → Nat → Bool} {eE : Nat → Nat → Bool} {lE : Nat → Nat → Bool} {li : Nat → Nat → Bool} {fB : Nat → Int32} {fA : Nat → Int32} {sL : Nat → Int32} {f : Nat} {fu : Nat → Nat} {fs : Nat → Int32} {ff : Nat → Int32} {fl : Nat → Int32} {xs : Nat → Int32} {ys : Nat → Int32} {zs : Nat → Int32} {oL : Nat → Int32} {oU : Nat → Int32} {lo : Nat → Int32} {up : Nat → Int32} {X : va_W} {q : Nat} {ou : Nat} {oF : Nat → Int64} (hn : n ≤ 40) (hm : mz ≤ 40) (hbo : ∀ u, bo u < 40) (hq : q < 9) : CW yL_count cL_count 4 (some .int) [(0, 9, 12, 21)] ({ frames := 8, cells := 0, slots := 0, locals := 152 } : Room) κ [.ref (a 0), .int (nI q), .ref ou] (wC κ a n dug dtd so ph uf ul r ki lt er mz bd bo me dE eE lE li fB fA sL f fu fs ff fl xs ys zs oL oU lo up ((ou, .inl (kJ κ, 1, .inr (.inl oF))) :: X)) (aD (some (.int (nI 0))) (wC κ a n dug dtd so ph uf ul r ki lt er mz bd bo me dE eE lE li fB fA sL f fu fs ff fl xs ys zs oL oU lo up ((ou, .inl (kJ κ, 1, .inr (.inl (va_up oF 0 (ctR n r mz f bd dug li fB lo up bo eE ph q).toInt64)))) :: X))) := by
  refine cw_entry (own := RL) (L := [(0, .ref (a 0)), (1, .int (nI q)), (2, .ref ou)]) (by decide +kernel) rfl (lv_entry [.ref (a 0), .int (nI q), .ref ou] (n := 4) (Nat.le_of_ble_eq_true rfl)) (fun g C E hT => ?_)
  refine a_aloadn (pc := 0) C 2 rfl rfl dL_count_0 ?_
  refine a_iconst (pc := 1) (v := nI 0) C ci_0 dL_count_1 ?_
  refine a_aloadn (pc := 2) C 0 rfl rfl dL_count_2 ?_
  refine a_iloadn (pc := 3) C 1 rfl rfl dL_count_3 ?_
  refine a_callV1 (pc := 4) (k' := 0) (n' := 0) C (c_X5_count κ a hn hm hbo hq) yv_X5_count ml_L_30 wi_X5_count wl_X5_count 0 rfl rfl rfl rfl (Nat.le_of_ble_eq_true rfl) (Nat.le_of_ble_eq_true rfl) (Nat.le_of_ble_eq_true rfl) ⟨(Nat.le_of_ble_eq_true rfl), (Nat.le_of_ble_eq_true rfl)⟩ rfl rfl dL_count_4 ?_
  refine a_i2l (pc := 7) (v := (ctR n r mz f bd dug li fB lo up bo eE ph q).toInt64) C rfl dL_count_7 ?_
  refine a_last (pc := 8) (ws' := wC κ a n dug dtd so ph uf ul r ki lt er mz bd bo me dE eE lE li fB fA sL f fu fs ff fl xs ys zs oL oU lo up ((ou, .inl (kJ κ, 1, .inr (.inl (va_up oF 0 ((ctR n r mz f bd dug li fB lo up bo eE ph q).toInt64))))) :: X)) C 33 rfl (by omega) (by decide) rfl rfl dL_count_8 ?_
  refine a_goto (pc := 9) (tgt := 15) C (by decide) dL_count_9 ?_
  refine a_iconst (pc := 15) (v := nI 0) C ci_0 dL_count_15 ?_
  refine aw_eq (congrArg (fun zz9 => wC κ a n dug dtd so ph uf ul r ki lt er mz bd bo me dE eE lE li fB fA sL f fu fs ff fl xs ys zs oL oU lo up ((ou, .inl (kJ κ, 1, .inr (.inl zz9))) :: X)) (rfl : (va_up oF 0 ((ctR n r mz f bd dug li fB lo up bo eE ph q).toInt64)) = (va_up oF 0 (ctR n r mz f bd dug li fB lo up bo eE ph q).toInt64))) ?_
  exact a_iret (pc := 16) C E (Nat.le_of_ble_eq_true rfl) (Nat.le_of_ble_eq_true rfl) ⟨rfl, rfl⟩ dL_count_16

set_option maxHeartbeats 4000000 in
set_option maxRecDepth 100000 in
theorem c_L_count_b1 (κ : aK) (a : Nat → Nat) {n : Nat} {dug : Nat → Bool} {dtd : Nat → Bool} {so : Nat → Int32} {ph : Nat → Int32} {uf : Nat → Int32} {ul : Nat → Int32} {r : Nat} {ki : Nat → Int32} {lt : Nat → Nat} {er : Nat → Nat} {mz : Nat} {bd : Nat → Bool} {bo : Nat → Nat} {me : Nat → Nat → Bool} {dE : Nat → Nat → Bool} {eE : Nat → Nat → Bool} {lE : Nat → Nat → Bool} {li : Nat → Nat → Bool} {fB : Nat → Int32} {fA : Nat → Int32} {sL : Nat → Int32} {f : Nat} {fu : Nat → Nat} {fs : Nat → Int32} {ff : Nat → Int32} {fl : Nat → Int32} {xs : Nat → Int32} {ys : Nat → Int32} {zs : Nat → Int32} {oL : Nat → Int32} {oU : Nat → Int32} {lo : Nat → Int32} {up : Nat → Int32} {X : va_W} {x : Int32} {ou : Nat} {oF : Nat → Int64} (hb : ¬ okU 9 x) : CW yL_count cL_count 4 (some .int) [(0, 9, 12, 21)] ({ frames := 8, cells := 1, slots := 6, locals := 152 } : Room) κ [.ref (a 0), .int x, .ref ou] (wC κ a n dug dtd so ph uf ul r ki lt er mz bd bo me dE eE lE li fB fA sL f fu fs ff fl xs ys zs oL oU lo up ((ou, .inl (kJ κ, 1, .inr (.inl oF))) :: X)) (aD (some (.int (nI 1))) (wC κ a n dug dtd so ph uf ul r ki lt er mz bd bo me dE eE lE li fB fA sL f fu fs ff fl xs ys zs oL oU lo up ((ou, .inl (kJ κ, 1, .inr (.inl oF))) :: X))) := by
  refine cw_entry (own := RL) (L := [(0, .ref (a 0)), (1, .int x), (2, .ref ou)]) (by decide +kernel) rfl (lv_entry [.ref (a 0), .int x, .ref ou] (n := 4) (Nat.le_of_ble_eq_true rfl)) (fun g C E hT => ?_)
  refine a_aloadn (pc := 0) C 2 rfl rfl dL_count_0 ?_
  refine a_iconst (pc := 1) (v := nI 0) C ci_0 dL_count_1 ?_
  refine a_aloadn (pc := 2) C 0 rfl rfl dL_count_2 ?_
  refine a_iloadn (pc := 3) C 1 rfl rfl dL_count_3 ?_
  refine a_xV (pc := 4) C (c_X5_count_b1 κ a hb) yv_X5_count ml_L_30 wi_X5_count wl_X5_count 0 rfl rfl rfl rfl (Nat.le_of_ble_eq_true rfl) (Nat.le_of_ble_eq_true rfl) (Nat.le_of_ble_eq_true rfl) ⟨(Nat.le_of_ble_eq_true rfl), (Nat.le_of_ble_eq_true rfl)⟩ dL_count_4 (fun e w h => ?_) (fun ro w h => h.elim)
  obtain ⟨rfl, rfl⟩ := h
  refine a_catch (E := xIO) C hT [] [] ⟨0, 9, 12, 21⟩ rfl (fun z hz => by cases hz) (by decide) (by decide) cl_L_21 (by simp [nxC]) (fun qx => ?_)
  refine a_astoren (pc := 12) (L' := [(0, .ref (a 0)), (1, .int x), (2, .ref ou), (3, .ref qx)]) C (by decide) rfl rfl dL_count_12 ?_
  refine a_iconst (pc := 13) (v := nI 1) C ci_1 dL_count_13 ?_
  exact a_iret (pc := 14) C E (Nat.le_of_ble_eq_true rfl) (Nat.le_of_ble_eq_true rfl) ⟨rfl, rfl⟩ dL_count_14

set_option maxHeartbeats 4000000 in
set_option maxRecDepth 100000 in
theorem c_L_date (κ : aK) (a : Nat → Nat) {n : Nat} {dug : Nat → Bool} {dtd : Nat → Bool} {so : Nat → Int32} {ph : Nat → Int32} {uf : Nat → Int32} {ul : Nat → Int32} {r : Nat} {ki : Nat → Int32} {lt : Nat → Nat} {er : Nat → Nat} {mz : Nat} {bd : Nat → Bool} {bo : Nat → Nat} {me : Nat → Nat → Bool} {dE : Nat → Nat → Bool} {eE : Nat → Nat → Bool} {lE : Nat → Nat → Bool} {li : Nat → Nat → Bool} {fB : Nat → Int32} {fA : Nat → Int32} {sL : Nat → Int32} {f : Nat} {fu : Nat → Nat} {fs : Nat → Int32} {ff : Nat → Int32} {fl : Nat → Int32} {xs : Nat → Int32} {ys : Nat → Int32} {zs : Nat → Int32} {oL : Nat → Int32} {oU : Nat → Int32} {lo : Nat → Int32} {up : Nat → Int32} {X : va_W} {u : Nat} {a1 : Int32} {b1 : Int32} {ou : Nat} {oF : Nat → Int64} (hn : n ≤ 40) (hf : f ≤ 60) (hbo : ∀ u, bo u < 40) (hfu : ∀ u, fu u < 40) (hu : u < n) (h1 : yrB a1 = true) (h2 : yrB b1 = true) : CW yL_date cL_date 6 (some .int) [(0, 12, 15, 21), (0, 12, 19, 13)] ({ frames := 8, cells := 0, slots := 0, locals := 155 } : Room) κ [.ref (a 0), .int (nI u), .int a1, .int b1, .ref ou] (wC κ a n dug dtd so ph uf ul r ki lt er mz bd bo me dE eE lE li fB fA sL f fu fs ff fl xs ys zs oL oU lo up ((ou, .inl (kJ κ, 1, .inr (.inl oF))) :: X)) (aD (some (.int (nI 0))) (wC κ a n dug (va_up dtd u (decide (a1 ≤ b1))) so ph (va_up uf u a1) (va_up ul u b1) r ki lt er mz bd bo me dE eE lE li fB fA sL f fu fs ff fl xs ys zs (nOL (va_up dtd u (decide (a1 ≤ b1))) (va_up uf u a1) bo fu ff oL n f) (nOU (va_up dtd u (decide (a1 ≤ b1))) (va_up ul u b1) bo oU n) (nLo (nOL (va_up dtd u (decide (a1 ≤ b1))) (va_up uf u a1) bo fu ff oL n f) eE lo n) (nUp (nOU (va_up dtd u (decide (a1 ≤ b1))) (va_up ul u b1) bo oU n) lE up n) ((ou, .inl (kJ κ, 1, .inr (.inl (va_up oF 0 (b2i (dtd u)).toInt64)))) :: X))) := by
  refine cw_entry (own := RL) (L := [(0, .ref (a 0)), (1, .int (nI u)), (2, .int a1), (3, .int b1), (4, .ref ou)]) (by decide +kernel) rfl (lv_entry [.ref (a 0), .int (nI u), .int a1, .int b1, .ref ou] (n := 6) (Nat.le_of_ble_eq_true rfl)) (fun g C E hT => ?_)
  refine a_aload (pc := 0) C 4 rfl dL_date_0 ?_
  refine a_iconst (pc := 2) (v := nI 0) C ci_0 dL_date_2 ?_
  refine a_aloadn (pc := 3) C 0 rfl rfl dL_date_3 ?_
  refine a_iloadn (pc := 4) C 1 rfl rfl dL_date_4 ?_
  refine a_iloadn (pc := 5) C 2 rfl rfl dL_date_5 ?_
  refine a_iloadn (pc := 6) C 3 rfl rfl dL_date_6 ?_
  refine a_callV1 (pc := 7) (k' := 0) (n' := 0) C (c_X5_date κ a hn hf hbo hfu hu h1 h2) yv_X5_date ml_L_66 wi_X5_date wl_X5_date 0 rfl rfl rfl rfl (Nat.le_of_ble_eq_true rfl) (Nat.le_of_ble_eq_true rfl) (Nat.le_of_ble_eq_true rfl) ⟨(Nat.le_of_ble_eq_true rfl), (Nat.le_of_ble_eq_true rfl)⟩ rfl rfl dL_date_7 ?_
  refine a_i2l (pc := 10) (v := (b2i (dtd u)).toInt64) C rfl dL_date_10 ?_
  refine a_last (pc := 11) (ws' := wC κ a n dug (va_up dtd u (decide (a1 ≤ b1))) so ph (va_up uf u a1) (va_up ul u b1) r ki lt er mz bd bo me dE eE lE li fB fA sL f fu fs ff fl xs ys zs (nOL (va_up dtd u (decide (a1 ≤ b1))) (va_up uf u a1) bo fu ff oL n f) (nOU (va_up dtd u (decide (a1 ≤ b1))) (va_up ul u b1) bo oU n) (nLo (nOL (va_up dtd u (decide (a1 ≤ b1))) (va_up uf u a1) bo fu ff oL n f) eE lo n) (nUp (nOU (va_up dtd u (decide (a1 ≤ b1))) (va_up ul u b1) bo oU n) lE up n) ((ou, .inl (kJ κ, 1, .inr (.inl (va_up oF 0 ((b2i (dtd u)).toInt64))))) :: X)) C 33 rfl (by omega) (by decide) rfl rfl dL_date_11 ?_
  refine a_goto (pc := 12) (tgt := 23) C (by decide) dL_date_12 ?_
  refine a_iconst (pc := 23) (v := nI 0) C ci_0 dL_date_23 ?_
  refine aw_eq (congrArg (fun zz9 => wC κ a n dug (va_up dtd u (decide (a1 ≤ b1))) so ph (va_up uf u a1) (va_up ul u b1) r ki lt er mz bd bo me dE eE lE li fB fA sL f fu fs ff fl xs ys zs (nOL (va_up dtd u (decide (a1 ≤ b1))) (va_up uf u a1) bo fu ff oL n f) (nOU (va_up dtd u (decide (a1 ≤ b1))) (va_up ul u b1) bo oU n) (nLo (nOL (va_up dtd u (decide (a1 ≤ b1))) (va_up uf u a1) bo fu ff oL n f) eE lo n) (nUp (nOU (va_up dtd u (decide (a1 ≤ b1))) (va_up ul u b1) bo oU n) lE up n) ((ou, .inl (kJ κ, 1, .inr (.inl zz9))) :: X)) (rfl : (va_up oF 0 ((b2i (dtd u)).toInt64)) = (va_up oF 0 (b2i (dtd u)).toInt64))) ?_
  exact a_iret (pc := 24) C E (Nat.le_of_ble_eq_true rfl) (Nat.le_of_ble_eq_true rfl) ⟨rfl, rfl⟩ dL_date_24

set_option maxHeartbeats 4000000 in
set_option maxRecDepth 100000 in
theorem c_L_date_b1 (κ : aK) (a : Nat → Nat) {n : Nat} {dug : Nat → Bool} {dtd : Nat → Bool} {so : Nat → Int32} {ph : Nat → Int32} {uf : Nat → Int32} {ul : Nat → Int32} {r : Nat} {ki : Nat → Int32} {lt : Nat → Nat} {er : Nat → Nat} {mz : Nat} {bd : Nat → Bool} {bo : Nat → Nat} {me : Nat → Nat → Bool} {dE : Nat → Nat → Bool} {eE : Nat → Nat → Bool} {lE : Nat → Nat → Bool} {li : Nat → Nat → Bool} {fB : Nat → Int32} {fA : Nat → Int32} {sL : Nat → Int32} {f : Nat} {fu : Nat → Nat} {fs : Nat → Int32} {ff : Nat → Int32} {fl : Nat → Int32} {xs : Nat → Int32} {ys : Nat → Int32} {zs : Nat → Int32} {oL : Nat → Int32} {oU : Nat → Int32} {lo : Nat → Int32} {up : Nat → Int32} {X : va_W} {x : Int32} {a1 : Int32} {b1 : Int32} {ou : Nat} {oF : Nat → Int64} (hn : n ≤ 40) (hb : ¬ okU n x) : CW yL_date cL_date 6 (some .int) [(0, 12, 15, 21), (0, 12, 19, 13)] ({ frames := 8, cells := 1, slots := 6, locals := 155 } : Room) κ [.ref (a 0), .int x, .int a1, .int b1, .ref ou] (wC κ a n dug dtd so ph uf ul r ki lt er mz bd bo me dE eE lE li fB fA sL f fu fs ff fl xs ys zs oL oU lo up ((ou, .inl (kJ κ, 1, .inr (.inl oF))) :: X)) (aD (some (.int (nI 1))) (wC κ a n dug dtd so ph uf ul r ki lt er mz bd bo me dE eE lE li fB fA sL f fu fs ff fl xs ys zs oL oU lo up ((ou, .inl (kJ κ, 1, .inr (.inl oF))) :: X))) := by
  refine cw_entry (own := RL) (L := [(0, .ref (a 0)), (1, .int x), (2, .int a1), (3, .int b1), (4, .ref ou)]) (by decide +kernel) rfl (lv_entry [.ref (a 0), .int x, .int a1, .int b1, .ref ou] (n := 6) (Nat.le_of_ble_eq_true rfl)) (fun g C E hT => ?_)
  refine a_aload (pc := 0) C 4 rfl dL_date_0 ?_
  refine a_iconst (pc := 2) (v := nI 0) C ci_0 dL_date_2 ?_
  refine a_aloadn (pc := 3) C 0 rfl rfl dL_date_3 ?_
  refine a_iloadn (pc := 4) C 1 rfl rfl dL_date_4 ?_
  refine a_iloadn (pc := 5) C 2 rfl rfl dL_date_5 ?_
  refine a_iloadn (pc := 6) C 3 rfl rfl dL_date_6 ?_
  refine a_xV (pc := 7) C (c_X5_date_b1 κ a hn hb) yv_X5_date ml_L_66 wi_X5_date wl_X5_date 0 rfl rfl rfl rfl (Nat.le_of_ble_eq_true rfl) (Nat.le_of_ble_eq_true rfl) (Nat.le_of_ble_eq_true rfl) ⟨(Nat.le_of_ble_eq_true rfl), (Nat.le_of_ble_eq_true rfl)⟩ dL_date_7 (fun e w h => ?_) (fun ro w h => h.elim)
  obtain ⟨rfl, rfl⟩ := h
  refine a_catch (E := xIO) C hT [] [⟨0, 12, 19, 13⟩] ⟨0, 12, 15, 21⟩ rfl (fun z hz => by cases hz) (by decide) (by decide) cl_L_21 (by simp [nxC]) (fun qx => ?_)
  refine a_astore (pc := 15) (L' := [(0, .ref (a 0)), (1, .int x), (2, .int a1), (3, .int b1), (4, .ref ou), (5, .ref qx)]) C (by decide) rfl dL_date_15 ?_
  refine a_iconst (pc := 17) (v := nI 1) C ci_1 dL_date_17 ?_
  exact a_iret (pc := 18) C E (Nat.le_of_ble_eq_true rfl) (Nat.le_of_ble_eq_true rfl) ⟨rfl, rfl⟩ dL_date_18

set_option maxHeartbeats 4000000 in
set_option maxRecDepth 100000 in
theorem c_L_date_b2 (κ : aK) (a : Nat → Nat) {n : Nat} {dug : Nat → Bool} {dtd : Nat → Bool} {so : Nat → Int32} {ph : Nat → Int32} {uf : Nat → Int32} {ul : Nat → Int32} {r : Nat} {ki : Nat → Int32} {lt : Nat → Nat} {er : Nat → Nat} {mz : Nat} {bd : Nat → Bool} {bo : Nat → Nat} {me : Nat → Nat → Bool} {dE : Nat → Nat → Bool} {eE : Nat → Nat → Bool} {lE : Nat → Nat → Bool} {li : Nat → Nat → Bool} {fB : Nat → Int32} {fA : Nat → Int32} {sL : Nat → Int32} {f : Nat} {fu : Nat → Nat} {fs : Nat → Int32} {ff : Nat → Int32} {fl : Nat → Int32} {xs : Nat → Int32} {ys : Nat → Int32} {zs : Nat → Int32} {oL : Nat → Int32} {oU : Nat → Int32} {lo : Nat → Int32} {up : Nat → Int32} {X : va_W} {u : Nat} {a1 : Int32} {b1 : Int32} {ou : Nat} {oF : Nat → Int64} (hn : n ≤ 40) (hu : u < n) (hb : (yrB a1 && yrB b1) = false) : CW yL_date cL_date 6 (some .int) [(0, 12, 15, 21), (0, 12, 19, 13)] ({ frames := 8, cells := 1, slots := 6, locals := 155 } : Room) κ [.ref (a 0), .int (nI u), .int a1, .int b1, .ref ou] (wC κ a n dug dtd so ph uf ul r ki lt er mz bd bo me dE eE lE li fB fA sL f fu fs ff fl xs ys zs oL oU lo up ((ou, .inl (kJ κ, 1, .inr (.inl oF))) :: X)) (aD (some (.int (nI 2))) (wC κ a n dug dtd so ph uf ul r ki lt er mz bd bo me dE eE lE li fB fA sL f fu fs ff fl xs ys zs oL oU lo up ((ou, .inl (kJ κ, 1, .inr (.inl oF))) :: X))) := by
  refine cw_entry (own := RL) (L := [(0, .ref (a 0)), (1, .int (nI u)), (2, .int a1), (3, .int b1), (4, .ref ou)]) (by decide +kernel) rfl (lv_entry [.ref (a 0), .int (nI u), .int a1, .int b1, .ref ou] (n := 6) (Nat.le_of_ble_eq_true rfl)) (fun g C E hT => ?_)
  refine a_aload (pc := 0) C 4 rfl dL_date_0 ?_
  refine a_iconst (pc := 2) (v := nI 0) C ci_0 dL_date_2 ?_
  refine a_aloadn (pc := 3) C 0 rfl rfl dL_date_3 ?_
  refine a_iloadn (pc := 4) C 1 rfl rfl dL_date_4 ?_
  refine a_iloadn (pc := 5) C 2 rfl rfl dL_date_5 ?_
  refine a_iloadn (pc := 6) C 3 rfl rfl dL_date_6 ?_
  refine a_xV (pc := 7) C (c_X5_date_b2 κ a hn hu hb) yv_X5_date ml_L_66 wi_X5_date wl_X5_date 0 rfl rfl rfl rfl (Nat.le_of_ble_eq_true rfl) (Nat.le_of_ble_eq_true rfl) (Nat.le_of_ble_eq_true rfl) ⟨(Nat.le_of_ble_eq_true rfl), (Nat.le_of_ble_eq_true rfl)⟩ dL_date_7 (fun e w h => ?_) (fun ro w h => h.elim)
  obtain ⟨rfl, rfl⟩ := h
  refine a_catch (E := xIA) C hT [⟨0, 12, 15, 21⟩] [] ⟨0, 12, 19, 13⟩ rfl (List.forall_mem_cons.mpr ⟨⟨by decide, _, cl_L_21, by simp [nxN]⟩, (fun z hz => by cases hz)⟩) (by decide) (by decide) cl_L_13 (by simp [nxC]) (fun qx => ?_)
  refine a_astore (pc := 19) (L' := [(0, .ref (a 0)), (1, .int (nI u)), (2, .int a1), (3, .int b1), (4, .ref ou), (5, .ref qx)]) C (by decide) rfl dL_date_19 ?_
  refine a_iconst (pc := 21) (v := nI 2) C ci_2 dL_date_21 ?_
  exact a_iret (pc := 22) C E (Nat.le_of_ble_eq_true rfl) (Nat.le_of_ble_eq_true rfl) ⟨rfl, rfl⟩ dL_date_22

set_option maxHeartbeats 4000000 in
set_option maxRecDepth 100000 in
theorem c_L_dig (κ : aK) (a : Nat → Nat) {n : Nat} {dug : Nat → Bool} {dtd : Nat → Bool} {so : Nat → Int32} {ph : Nat → Int32} {uf : Nat → Int32} {ul : Nat → Int32} {r : Nat} {ki : Nat → Int32} {lt : Nat → Nat} {er : Nat → Nat} {mz : Nat} {bd : Nat → Bool} {bo : Nat → Nat} {me : Nat → Nat → Bool} {dE : Nat → Nat → Bool} {eE : Nat → Nat → Bool} {lE : Nat → Nat → Bool} {li : Nat → Nat → Bool} {fB : Nat → Int32} {fA : Nat → Int32} {sL : Nat → Int32} {f : Nat} {fu : Nat → Nat} {fs : Nat → Int32} {ff : Nat → Int32} {fl : Nat → Int32} {xs : Nat → Int32} {ys : Nat → Int32} {zs : Nat → Int32} {oL : Nat → Int32} {oU : Nat → Int32} {lo : Nat → Int32} {up : Nat → Int32} {X : va_W} {u : Nat} {ou : Nat} {oF : Nat → Int64} (hn : n ≤ 40) (hbo : ∀ u, bo u < 40) (hu : u < n) (hc : cdB n bo eE dug u = true) : CW yL_dig cL_dig 4 (some .int) [(0, 9, 12, 21), (0, 9, 15, 15)] ({ frames := 8, cells := 0, slots := 0, locals := 152 } : Room) κ [.ref (a 0), .int (nI u), .ref ou] (wC κ a n dug dtd so ph uf ul r ki lt er mz bd bo me dE eE lE li fB fA sL f fu fs ff fl xs ys zs oL oU lo up ((ou, .inl (kJ κ, 1, .inr (.inl oF))) :: X)) (aD (some (.int (nI 0))) (wC κ a n (fun i => dug i || decide (i = u)) dtd so ph uf ul r ki lt er mz bd bo me dE eE lE li fB fA sL f fu fs ff fl xs ys zs oL oU lo up ((ou, .inl (kJ κ, 1, .inr (.inl (va_up oF 0 (bcI (bs (selS (fun v => cdB n bo eE (fun i => dug i || decide (i = u)) v) n))).toInt64)))) :: X))) := by
  refine cw_entry (own := RL) (L := [(0, .ref (a 0)), (1, .int (nI u)), (2, .ref ou)]) (by decide +kernel) rfl (lv_entry [.ref (a 0), .int (nI u), .ref ou] (n := 4) (Nat.le_of_ble_eq_true rfl)) (fun g C E hT => ?_)
  refine a_aloadn (pc := 0) C 2 rfl rfl dL_dig_0 ?_
  refine a_iconst (pc := 1) (v := nI 0) C ci_0 dL_dig_1 ?_
  refine a_aloadn (pc := 2) C 0 rfl rfl dL_dig_2 ?_
  refine a_iloadn (pc := 3) C 1 rfl rfl dL_dig_3 ?_
  refine a_callV1 (pc := 4) (k' := 0) (n' := 0) C (c_X5_dig κ a hn hbo hu hc) yv_X5_dig ml_L_79 wi_X5_dig wl_X5_dig 0 rfl rfl rfl rfl (Nat.le_of_ble_eq_true rfl) (Nat.le_of_ble_eq_true rfl) (Nat.le_of_ble_eq_true rfl) ⟨(Nat.le_of_ble_eq_true rfl), (Nat.le_of_ble_eq_true rfl)⟩ rfl rfl dL_dig_4 ?_
  refine a_i2l (pc := 7) (v := (bcI (bs (selS (fun v => cdB n bo eE (fun i => dug i || decide (i = u)) v) n))).toInt64) C rfl dL_dig_7 ?_
  refine a_last (pc := 8) (ws' := wC κ a n (fun i => dug i || decide (i = u)) dtd so ph uf ul r ki lt er mz bd bo me dE eE lE li fB fA sL f fu fs ff fl xs ys zs oL oU lo up ((ou, .inl (kJ κ, 1, .inr (.inl (va_up oF 0 ((bcI (bs (selS (fun v => cdB n bo eE (fun i => dug i || decide (i = u)) v) n))).toInt64))))) :: X)) C 33 rfl (by omega) (by decide) rfl rfl dL_dig_8 ?_
  refine a_goto (pc := 9) (tgt := 18) C (by decide) dL_dig_9 ?_
  refine a_iconst (pc := 18) (v := nI 0) C ci_0 dL_dig_18 ?_
  refine aw_eq (congrArg (fun zz9 => wC κ a n (fun i => dug i || decide (i = u)) dtd so ph uf ul r ki lt er mz bd bo me dE eE lE li fB fA sL f fu fs ff fl xs ys zs oL oU lo up ((ou, .inl (kJ κ, 1, .inr (.inl zz9))) :: X)) (rfl : (va_up oF 0 ((bcI (bs (selS (fun v => cdB n bo eE (fun i => dug i || decide (i = u)) v) n))).toInt64)) = (va_up oF 0 (bcI (bs (selS (fun v => cdB n bo eE (fun i => dug i || decide (i = u)) v) n))).toInt64))) ?_
  exact a_iret (pc := 19) C E (Nat.le_of_ble_eq_true rfl) (Nat.le_of_ble_eq_true rfl) ⟨rfl, rfl⟩ dL_dig_19

set_option maxHeartbeats 4000000 in
set_option maxRecDepth 100000 in
theorem c_L_dig_b1 (κ : aK) (a : Nat → Nat) {n : Nat} {dug : Nat → Bool} {dtd : Nat → Bool} {so : Nat → Int32} {ph : Nat → Int32} {uf : Nat → Int32} {ul : Nat → Int32} {r : Nat} {ki : Nat → Int32} {lt : Nat → Nat} {er : Nat → Nat} {mz : Nat} {bd : Nat → Bool} {bo : Nat → Nat} {me : Nat → Nat → Bool} {dE : Nat → Nat → Bool} {eE : Nat → Nat → Bool} {lE : Nat → Nat → Bool} {li : Nat → Nat → Bool} {fB : Nat → Int32} {fA : Nat → Int32} {sL : Nat → Int32} {f : Nat} {fu : Nat → Nat} {fs : Nat → Int32} {ff : Nat → Int32} {fl : Nat → Int32} {xs : Nat → Int32} {ys : Nat → Int32} {zs : Nat → Int32} {oL : Nat → Int32} {oU : Nat → Int32} {lo : Nat → Int32} {up : Nat → Int32} {X : va_W} {x : Int32} {ou : Nat} {oF : Nat → Int64} (hn : n ≤ 40) (hb : ¬ okU n x) : CW yL_dig cL_dig 4 (some .int) [(0, 9, 12, 21), (0, 9, 15, 15)] ({ frames := 8, cells := 1, slots := 6, locals := 152 } : Room) κ [.ref (a 0), .int x, .ref ou] (wC κ a n dug dtd so ph uf ul r ki lt er mz bd bo me dE eE lE li fB fA sL f fu fs ff fl xs ys zs oL oU lo up ((ou, .inl (kJ κ, 1, .inr (.inl oF))) :: X)) (aD (some (.int (nI 1))) (wC κ a n dug dtd so ph uf ul r ki lt er mz bd bo me dE eE lE li fB fA sL f fu fs ff fl xs ys zs oL oU lo up ((ou, .inl (kJ κ, 1, .inr (.inl oF))) :: X))) := by
  refine cw_entry (own := RL) (L := [(0, .ref (a 0)), (1, .int x), (2, .ref ou)]) (by decide +kernel) rfl (lv_entry [.ref (a 0), .int x, .ref ou] (n := 4) (Nat.le_of_ble_eq_true rfl)) (fun g C E hT => ?_)
  refine a_aloadn (pc := 0) C 2 rfl rfl dL_dig_0 ?_
  refine a_iconst (pc := 1) (v := nI 0) C ci_0 dL_dig_1 ?_
  refine a_aloadn (pc := 2) C 0 rfl rfl dL_dig_2 ?_
  refine a_iloadn (pc := 3) C 1 rfl rfl dL_dig_3 ?_
  refine a_xV (pc := 4) C (c_X5_dig_b1 κ a hn hb) yv_X5_dig ml_L_79 wi_X5_dig wl_X5_dig 0 rfl rfl rfl rfl (Nat.le_of_ble_eq_true rfl) (Nat.le_of_ble_eq_true rfl) (Nat.le_of_ble_eq_true rfl) ⟨(Nat.le_of_ble_eq_true rfl), (Nat.le_of_ble_eq_true rfl)⟩ dL_dig_4 (fun e w h => ?_) (fun ro w h => h.elim)
  obtain ⟨rfl, rfl⟩ := h
  refine a_catch (E := xIO) C hT [] [⟨0, 9, 15, 15⟩] ⟨0, 9, 12, 21⟩ rfl (fun z hz => by cases hz) (by decide) (by decide) cl_L_21 (by simp [nxC]) (fun qx => ?_)
  refine a_astoren (pc := 12) (L' := [(0, .ref (a 0)), (1, .int x), (2, .ref ou), (3, .ref qx)]) C (by decide) rfl rfl dL_dig_12 ?_
  refine a_iconst (pc := 13) (v := nI 1) C ci_1 dL_dig_13 ?_
  exact a_iret (pc := 14) C E (Nat.le_of_ble_eq_true rfl) (Nat.le_of_ble_eq_true rfl) ⟨rfl, rfl⟩ dL_dig_14

set_option maxHeartbeats 4000000 in
set_option maxRecDepth 100000 in
theorem c_L_dig_b2 (κ : aK) (a : Nat → Nat) {n : Nat} {dug : Nat → Bool} {dtd : Nat → Bool} {so : Nat → Int32} {ph : Nat → Int32} {uf : Nat → Int32} {ul : Nat → Int32} {r : Nat} {ki : Nat → Int32} {lt : Nat → Nat} {er : Nat → Nat} {mz : Nat} {bd : Nat → Bool} {bo : Nat → Nat} {me : Nat → Nat → Bool} {dE : Nat → Nat → Bool} {eE : Nat → Nat → Bool} {lE : Nat → Nat → Bool} {li : Nat → Nat → Bool} {fB : Nat → Int32} {fA : Nat → Int32} {sL : Nat → Int32} {f : Nat} {fu : Nat → Nat} {fs : Nat → Int32} {ff : Nat → Int32} {fl : Nat → Int32} {xs : Nat → Int32} {ys : Nat → Int32} {zs : Nat → Int32} {oL : Nat → Int32} {oU : Nat → Int32} {lo : Nat → Int32} {up : Nat → Int32} {X : va_W} {u : Nat} {ou : Nat} {oF : Nat → Int64} (hn : n ≤ 40) (hbo : ∀ u, bo u < 40) (hu : u < n) (hb : cdB n bo eE dug u = false) : CW yL_dig cL_dig 4 (some .int) [(0, 9, 12, 21), (0, 9, 15, 15)] ({ frames := 8, cells := 1, slots := 6, locals := 152 } : Room) κ [.ref (a 0), .int (nI u), .ref ou] (wC κ a n dug dtd so ph uf ul r ki lt er mz bd bo me dE eE lE li fB fA sL f fu fs ff fl xs ys zs oL oU lo up ((ou, .inl (kJ κ, 1, .inr (.inl oF))) :: X)) (aD (some (.int (nI 2))) (wC κ a n dug dtd so ph uf ul r ki lt er mz bd bo me dE eE lE li fB fA sL f fu fs ff fl xs ys zs oL oU lo up ((ou, .inl (kJ κ, 1, .inr (.inl oF))) :: X))) := by
  refine cw_entry (own := RL) (L := [(0, .ref (a 0)), (1, .int (nI u)), (2, .ref ou)]) (by decide +kernel) rfl (lv_entry [.ref (a 0), .int (nI u), .ref ou] (n := 4) (Nat.le_of_ble_eq_true rfl)) (fun g C E hT => ?_)
  refine a_aloadn (pc := 0) C 2 rfl rfl dL_dig_0 ?_
  refine a_iconst (pc := 1) (v := nI 0) C ci_0 dL_dig_1 ?_
  refine a_aloadn (pc := 2) C 0 rfl rfl dL_dig_2 ?_
  refine a_iloadn (pc := 3) C 1 rfl rfl dL_dig_3 ?_
  refine a_xV (pc := 4) C (c_X5_dig_b2 κ a hn hbo hu hb) yv_X5_dig ml_L_79 wi_X5_dig wl_X5_dig 0 rfl rfl rfl rfl (Nat.le_of_ble_eq_true rfl) (Nat.le_of_ble_eq_true rfl) (Nat.le_of_ble_eq_true rfl) ⟨(Nat.le_of_ble_eq_true rfl), (Nat.le_of_ble_eq_true rfl)⟩ dL_dig_4 (fun e w h => ?_) (fun ro w h => h.elim)
  obtain ⟨rfl, rfl⟩ := h
  refine a_catch (E := xIS) C hT [⟨0, 9, 12, 21⟩] [] ⟨0, 9, 15, 15⟩ rfl (List.forall_mem_cons.mpr ⟨⟨by decide, _, cl_L_21, by simp [nxN]⟩, (fun z hz => by cases hz)⟩) (by decide) (by decide) cl_L_15 (by simp [nxC]) (fun qx => ?_)
  refine a_astoren (pc := 15) (L' := [(0, .ref (a 0)), (1, .int (nI u)), (2, .ref ou), (3, .ref qx)]) C (by decide) rfl rfl dL_dig_15 ?_
  refine a_iconst (pc := 16) (v := nI 2) C ci_2 dL_dig_16 ?_
  exact a_iret (pc := 17) C E (Nat.le_of_ble_eq_true rfl) (Nat.le_of_ble_eq_true rfl) ⟨rfl, rfl⟩ dL_dig_17

set_option maxHeartbeats 4000000 in
set_option maxRecDepth 100000 in
theorem c_L_doubt (κ : aK) (a : Nat → Nat) {n : Nat} {dug : Nat → Bool} {dtd : Nat → Bool} {so : Nat → Int32} {ph : Nat → Int32} {uf : Nat → Int32} {ul : Nat → Int32} {r : Nat} {ki : Nat → Int32} {lt : Nat → Nat} {er : Nat → Nat} {mz : Nat} {bd : Nat → Bool} {bo : Nat → Nat} {me : Nat → Nat → Bool} {dE : Nat → Nat → Bool} {eE : Nat → Nat → Bool} {lE : Nat → Nat → Bool} {li : Nat → Nat → Bool} {fB : Nat → Int32} {fA : Nat → Int32} {sL : Nat → Int32} {f : Nat} {fu : Nat → Nat} {fs : Nat → Int32} {ff : Nat → Int32} {fl : Nat → Int32} {xs : Nat → Int32} {ys : Nat → Int32} {zs : Nat → Int32} {oL : Nat → Int32} {oU : Nat → Int32} {lo : Nat → Int32} {up : Nat → Int32} {X : va_W} {y : Nat} {ou : Nat} {oF : Nat → Int64} (hn : n ≤ 40) (hy : y < 40) : CW yL_doubt cL_doubt 4 (some .int) [(0, 9, 12, 21)] ({ frames := 8, cells := 0, slots := 0, locals := 151 } : Room) κ [.ref (a 0), .int (nI y), .ref ou] (wC κ a n dug dtd so ph uf ul r ki lt er mz bd bo me dE eE lE li fB fA sL f fu fs ff fl xs ys zs oL oU lo up ((ou, .inl (kJ κ, 1, .inr (.inl oF))) :: X)) (aD (some (.int (nI 0))) (wC κ a n dug dtd so ph uf ul r ki lt er mz bd bo me dE eE lE li fB fA sL f fu fs ff fl xs ys zs oL oU lo up ((ou, .inl (kJ κ, 1, .inr (.inl (va_up oF 0 (oI (elA (dbS bd lo up n) y 40)).toInt64)))) :: X))) := by
  refine cw_entry (own := RL) (L := [(0, .ref (a 0)), (1, .int (nI y)), (2, .ref ou)]) (by decide +kernel) rfl (lv_entry [.ref (a 0), .int (nI y), .ref ou] (n := 4) (Nat.le_of_ble_eq_true rfl)) (fun g C E hT => ?_)
  refine a_aloadn (pc := 0) C 2 rfl rfl dL_doubt_0 ?_
  refine a_iconst (pc := 1) (v := nI 0) C ci_0 dL_doubt_1 ?_
  refine a_aloadn (pc := 2) C 0 rfl rfl dL_doubt_2 ?_
  refine a_iloadn (pc := 3) C 1 rfl rfl dL_doubt_3 ?_
  refine a_callV1 (pc := 4) (k' := 0) (n' := 0) C (c_X5_doubt κ a hn hy) yv_X5_doubt ml_L_73 wi_X5_doubt wl_X5_doubt 0 rfl rfl rfl rfl (Nat.le_of_ble_eq_true rfl) (Nat.le_of_ble_eq_true rfl) (Nat.le_of_ble_eq_true rfl) ⟨(Nat.le_of_ble_eq_true rfl), (Nat.le_of_ble_eq_true rfl)⟩ rfl rfl dL_doubt_4 ?_
  refine a_i2l (pc := 7) (v := (oI (elA (dbS bd lo up n) y 40)).toInt64) C rfl dL_doubt_7 ?_
  refine a_last (pc := 8) (ws' := wC κ a n dug dtd so ph uf ul r ki lt er mz bd bo me dE eE lE li fB fA sL f fu fs ff fl xs ys zs oL oU lo up ((ou, .inl (kJ κ, 1, .inr (.inl (va_up oF 0 ((oI (elA (dbS bd lo up n) y 40)).toInt64))))) :: X)) C 33 rfl (by omega) (by decide) rfl rfl dL_doubt_8 ?_
  refine a_goto (pc := 9) (tgt := 15) C (by decide) dL_doubt_9 ?_
  refine a_iconst (pc := 15) (v := nI 0) C ci_0 dL_doubt_15 ?_
  refine aw_eq (congrArg (fun zz9 => wC κ a n dug dtd so ph uf ul r ki lt er mz bd bo me dE eE lE li fB fA sL f fu fs ff fl xs ys zs oL oU lo up ((ou, .inl (kJ κ, 1, .inr (.inl zz9))) :: X)) (rfl : (va_up oF 0 ((oI (elA (dbS bd lo up n) y 40)).toInt64)) = (va_up oF 0 (oI (elA (dbS bd lo up n) y 40)).toInt64))) ?_
  exact a_iret (pc := 16) C E (Nat.le_of_ble_eq_true rfl) (Nat.le_of_ble_eq_true rfl) ⟨rfl, rfl⟩ dL_doubt_16

set_option maxHeartbeats 4000000 in
set_option maxRecDepth 100000 in
theorem c_L_doubt_b1 (κ : aK) (a : Nat → Nat) {n : Nat} {dug : Nat → Bool} {dtd : Nat → Bool} {so : Nat → Int32} {ph : Nat → Int32} {uf : Nat → Int32} {ul : Nat → Int32} {r : Nat} {ki : Nat → Int32} {lt : Nat → Nat} {er : Nat → Nat} {mz : Nat} {bd : Nat → Bool} {bo : Nat → Nat} {me : Nat → Nat → Bool} {dE : Nat → Nat → Bool} {eE : Nat → Nat → Bool} {lE : Nat → Nat → Bool} {li : Nat → Nat → Bool} {fB : Nat → Int32} {fA : Nat → Int32} {sL : Nat → Int32} {f : Nat} {fu : Nat → Nat} {fs : Nat → Int32} {ff : Nat → Int32} {fl : Nat → Int32} {xs : Nat → Int32} {ys : Nat → Int32} {zs : Nat → Int32} {oL : Nat → Int32} {oU : Nat → Int32} {lo : Nat → Int32} {up : Nat → Int32} {X : va_W} {x : Int32} {ou : Nat} {oF : Nat → Int64} (hb : ¬ okU 40 x) : CW yL_doubt cL_doubt 4 (some .int) [(0, 9, 12, 21)] ({ frames := 8, cells := 1, slots := 6, locals := 151 } : Room) κ [.ref (a 0), .int x, .ref ou] (wC κ a n dug dtd so ph uf ul r ki lt er mz bd bo me dE eE lE li fB fA sL f fu fs ff fl xs ys zs oL oU lo up ((ou, .inl (kJ κ, 1, .inr (.inl oF))) :: X)) (aD (some (.int (nI 1))) (wC κ a n dug dtd so ph uf ul r ki lt er mz bd bo me dE eE lE li fB fA sL f fu fs ff fl xs ys zs oL oU lo up ((ou, .inl (kJ κ, 1, .inr (.inl oF))) :: X))) := by
  refine cw_entry (own := RL) (L := [(0, .ref (a 0)), (1, .int x), (2, .ref ou)]) (by decide +kernel) rfl (lv_entry [.ref (a 0), .int x, .ref ou] (n := 4) (Nat.le_of_ble_eq_true rfl)) (fun g C E hT => ?_)
  refine a_aloadn (pc := 0) C 2 rfl rfl dL_doubt_0 ?_
  refine a_iconst (pc := 1) (v := nI 0) C ci_0 dL_doubt_1 ?_
  refine a_aloadn (pc := 2) C 0 rfl rfl dL_doubt_2 ?_
  refine a_iloadn (pc := 3) C 1 rfl rfl dL_doubt_3 ?_
  refine a_xV (pc := 4) C (c_X5_doubt_b1 κ a hb) yv_X5_doubt ml_L_73 wi_X5_doubt wl_X5_doubt 0 rfl rfl rfl rfl (Nat.le_of_ble_eq_true rfl) (Nat.le_of_ble_eq_true rfl) (Nat.le_of_ble_eq_true rfl) ⟨(Nat.le_of_ble_eq_true rfl), (Nat.le_of_ble_eq_true rfl)⟩ dL_doubt_4 (fun e w h => ?_) (fun ro w h => h.elim)
  obtain ⟨rfl, rfl⟩ := h
  refine a_catch (E := xIO) C hT [] [] ⟨0, 9, 12, 21⟩ rfl (fun z hz => by cases hz) (by decide) (by decide) cl_L_21 (by simp [nxC]) (fun qx => ?_)
  refine a_astoren (pc := 12) (L' := [(0, .ref (a 0)), (1, .int x), (2, .ref ou), (3, .ref qx)]) C (by decide) rfl rfl dL_doubt_12 ?_
  refine a_iconst (pc := 13) (v := nI 1) C ci_1 dL_doubt_13 ?_
  exact a_iret (pc := 14) C E (Nat.le_of_ble_eq_true rfl) (Nat.le_of_ble_eq_true rfl) ⟨rfl, rfl⟩ dL_doubt_14

set_option maxHeartbeats 4000000 in
set_option maxRecDepth 100000 in
theorem c_L_find (κ : aK) (a : Nat → Nat) {n : Nat} {dug : Nat → Bool} {dtd : Nat → Bool} {so : Nat → Int32} {ph : Nat → Int32} {uf : Nat → Int32} {ul : Nat → Int32} {r : Nat} {ki : Nat → Int32} {lt : Nat → Nat} {er : Nat → Nat} {mz : Nat} {bd : Nat → Bool} {bo : Nat → Nat} {me : Nat → Nat → Bool} {dE : Nat → Nat → Bool} {eE : Nat → Nat → Bool} {lE : Nat → Nat → Bool} {li : Nat → Nat → Bool} {fB : Nat → Int32} {fA : Nat → Int32} {sL : Nat → Int32} {f : Nat} {fu : Nat → Nat} {fs : Nat → Int32} {ff : Nat → Int32} {fl : Nat → Int32} {xs : Nat → Int32} {ys : Nat → Int32} {zs : Nat → Int32} {oL : Nat → Int32} {oU : Nat → Int32} {lo : Nat → Int32} {up : Nat → Int32} {X : va_W} {j : Nat} {q : Nat} {ou : Nat} {oF : Nat → Int64} (hf : f ≤ 60) (hbo : ∀ u, bo u < 40) (hfu : ∀ u, fu u < 40) (hj : j < f) (hq : q < 8) : CW yL_find cL_find 5 (some .int) [(0, 10, 13, 21)] ({ frames := 8, cells := 0, slots := 0, locals := 153 } : Room) κ [.ref (a 0), .int (nI j), .int (nI q), .ref ou] (wC κ a n dug dtd so ph uf ul r ki lt er mz bd bo me dE eE lE li fB fA sL f fu fs ff fl xs ys zs oL oU lo up ((ou, .inl (kJ κ, 1, .inr (.inl oF))) :: X)) (aD (some (.int (nI 0))) (wC κ a n dug dtd so ph uf ul r ki lt er mz bd bo me dE eE lE li fB fA sL f fu fs ff fl xs ys zs oL oU lo up ((ou, .inl (kJ κ, 1, .inr (.inl (va_up oF 0 (ftR fu fs ff fl xs ys zs bo lo up j q).toInt64)))) :: X))) := by
  refine cw_entry (own := RL) (L := [(0, .ref (a 0)), (1, .int (nI j)), (2, .int (nI q)), (3, .ref ou)]) (by decide +kernel) rfl (lv_entry [.ref (a 0), .int (nI j), .int (nI q), .ref ou] (n := 5) (Nat.le_of_ble_eq_true rfl)) (fun g C E hT => ?_)
  refine a_aloadn (pc := 0) C 3 rfl rfl dL_find_0 ?_
  refine a_iconst (pc := 1) (v := nI 0) C ci_0 dL_find_1 ?_
  refine a_aloadn (pc := 2) C 0 rfl rfl dL_find_2 ?_
  refine a_iloadn (pc := 3) C 1 rfl rfl dL_find_3 ?_
  refine a_iloadn (pc := 4) C 2 rfl rfl dL_find_4 ?_
  refine a_callV1 (pc := 5) (k' := 0) (n' := 0) C (c_X5_find κ a hf hbo hfu hj hq) yv_X5_find ml_L_63 wi_X5_find wl_X5_find 0 rfl rfl rfl rfl (Nat.le_of_ble_eq_true rfl) (Nat.le_of_ble_eq_true rfl) (Nat.le_of_ble_eq_true rfl) ⟨(Nat.le_of_ble_eq_true rfl), (Nat.le_of_ble_eq_true rfl)⟩ rfl rfl dL_find_5 ?_
  refine a_i2l (pc := 8) (v := (ftR fu fs ff fl xs ys zs bo lo up j q).toInt64) C rfl dL_find_8 ?_
  refine a_last (pc := 9) (ws' := wC κ a n dug dtd so ph uf ul r ki lt er mz bd bo me dE eE lE li fB fA sL f fu fs ff fl xs ys zs oL oU lo up ((ou, .inl (kJ κ, 1, .inr (.inl (va_up oF 0 ((ftR fu fs ff fl xs ys zs bo lo up j q).toInt64))))) :: X)) C 33 rfl (by omega) (by decide) rfl rfl dL_find_9 ?_
  refine a_goto (pc := 10) (tgt := 17) C (by decide) dL_find_10 ?_
  refine a_iconst (pc := 17) (v := nI 0) C ci_0 dL_find_17 ?_
  refine aw_eq (congrArg (fun zz9 => wC κ a n dug dtd so ph uf ul r ki lt er mz bd bo me dE eE lE li fB fA sL f fu fs ff fl xs ys zs oL oU lo up ((ou, .inl (kJ κ, 1, .inr (.inl zz9))) :: X)) (rfl : (va_up oF 0 ((ftR fu fs ff fl xs ys zs bo lo up j q).toInt64)) = (va_up oF 0 (ftR fu fs ff fl xs ys zs bo lo up j q).toInt64))) ?_
  exact a_iret (pc := 18) C E (Nat.le_of_ble_eq_true rfl) (Nat.le_of_ble_eq_true rfl) ⟨rfl, rfl⟩ dL_find_18

set_option maxHeartbeats 4000000 in
set_option maxRecDepth 100000 in
theorem c_L_find_b1 (κ : aK) (a : Nat → Nat) {n : Nat} {dug : Nat → Bool} {dtd : Nat → Bool} {so : Nat → Int32} {ph : Nat → Int32} {uf : Nat → Int32} {ul : Nat → Int32} {r : Nat} {ki : Nat → Int32} {lt : Nat → Nat} {er : Nat → Nat} {mz : Nat} {bd : Nat → Bool} {bo : Nat → Nat} {me : Nat → Nat → Bool} {dE : Nat → Nat → Bool} {eE : Nat → Nat → Bool} {lE : Nat → Nat → Bool} {li : Nat → Nat → Bool} {fB : Nat → Int32} {fA : Nat → Int32} {sL : Nat → Int32} {f : Nat} {fu : Nat → Nat} {fs : Nat → Int32} {ff : Nat → Int32} {fl : Nat → Int32} {xs : Nat → Int32} {ys : Nat → Int32} {zs : Nat → Int32} {oL : Nat → Int32} {oU : Nat → Int32} {lo : Nat → Int32} {up : Nat → Int32} {X : va_W} {x : Int32} {y : Int32} {ou : Nat} {oF : Nat → Int64} (hf : f ≤ 60) (hb : ¬ okU f x) : CW yL_find cL_find 5 (some .int) [(0, 10, 13, 21)] ({ frames := 8, cells := 1, slots := 6, locals := 153 } : Room) κ [.ref (a 0), .int x, .int y, .ref ou] (wC κ a n dug dtd so ph uf ul r ki lt er mz bd bo me dE eE lE li fB fA sL f fu fs ff fl xs ys zs oL oU lo up ((ou, .inl (kJ κ, 1, .inr (.inl oF))) :: X)) (aD (some (.int (nI 1))) (wC κ a n dug dtd so ph uf ul r ki lt er mz bd bo me dE eE lE li fB fA sL f fu fs ff fl xs ys zs oL oU lo up ((ou, .inl (kJ κ, 1, .inr (.inl oF))) :: X))) := by
  refine cw_entry (own := RL) (L := [(0, .ref (a 0)), (1, .int x), (2, .int y), (3, .ref ou)]) (by decide +kernel) rfl (lv_entry [.ref (a 0), .int x, .int y, .ref ou] (n := 5) (Nat.le_of_ble_eq_true rfl)) (fun g C E hT => ?_)
  refine a_aloadn (pc := 0) C 3 rfl rfl dL_find_0 ?_
  refine a_iconst (pc := 1) (v := nI 0) C ci_0 dL_find_1 ?_
  refine a_aloadn (pc := 2) C 0 rfl rfl dL_find_2 ?_
  refine a_iloadn (pc := 3) C 1 rfl rfl dL_find_3 ?_
  refine a_iloadn (pc := 4) C 2 rfl rfl dL_find_4 ?_
  refine a_xV (pc := 5) C (c_X5_find_b1 κ a hf hb) yv_X5_find ml_L_63 wi_X5_find wl_X5_find 0 rfl rfl rfl rfl (Nat.le_of_ble_eq_true rfl) (Nat.le_of_ble_eq_true rfl) (Nat.le_of_ble_eq_true rfl) ⟨(Nat.le_of_ble_eq_true rfl), (Nat.le_of_ble_eq_true rfl)⟩ dL_find_5 (fun e w h => ?_) (fun ro w h => h.elim)
  obtain ⟨rfl, rfl⟩ := h
  refine a_catch (E := xIO) C hT [] [] ⟨0, 10, 13, 21⟩ rfl (fun z hz => by cases hz) (by decide) (by decide) cl_L_21 (by simp [nxC]) (fun qx => ?_)
  refine a_astore (pc := 13) (L' := [(0, .ref (a 0)), (1, .int x), (2, .int y), (3, .ref ou), (4, .ref qx)]) C (by decide) rfl dL_find_13 ?_
  refine a_iconst (pc := 15) (v := nI 1) C ci_1 dL_find_15 ?_
  exact a_iret (pc := 16) C E (Nat.le_of_ble_eq_true rfl) (Nat.le_of_ble_eq_true rfl) ⟨rfl, rfl⟩ dL_find_16

set_option maxHeartbeats 4000000 in
set_option maxRecDepth 100000 in
theorem c_L_find_b2 (κ : aK) (a : Nat → Nat) {n : Nat} {dug : Nat → Bool} {dtd : Nat → Bool} {so : Nat → Int32} {ph : Nat → Int32} {uf : Nat → Int32} {ul : Nat → Int32} {r : Nat} {ki : Nat → Int32} {lt : Nat → Nat} {er : Nat → Nat} {mz : Nat} {bd : Nat → Bool} {bo : Nat → Nat} {me : Nat → Nat → Bool} {dE : Nat → Nat → Bool} {eE : Nat → Nat → Bool} {lE : Nat → Nat → Bool} {li : Nat → Nat → Bool} {fB : Nat → Int32} {fA : Nat → Int32} {sL : Nat → Int32} {f : Nat} {fu : Nat → Nat} {fs : Nat → Int32} {ff : Nat → Int32} {fl : Nat → Int32} {xs : Nat → Int32} {ys : Nat → Int32} {zs : Nat → Int32} {oL : Nat → Int32} {oU : Nat → Int32} {lo : Nat → Int32} {up : Nat → Int32} {X : va_W} {j : Nat} {y : Int32} {ou : Nat} {oF : Nat → Int64} (hf : f ≤ 60) (hj : j < f) (hb : ¬ okU 8 y) : CW yL_find cL_find 5 (some .int) [(0, 10, 13, 21)] ({ frames := 8, cells := 1, slots := 6, locals := 153 } : Room) κ [.ref (a 0), .int (nI j), .int y, .ref ou] (wC κ a n dug dtd so ph uf ul r ki lt er mz bd bo me dE eE lE li fB fA sL f fu fs ff fl xs ys zs oL oU lo up ((ou, .inl (kJ κ, 1, .inr (.inl oF))) :: X)) (aD (some (.int (nI 1))) (wC κ a n dug dtd so ph uf ul r ki lt er mz bd bo me dE eE lE li fB fA sL f fu fs ff fl xs ys zs oL oU lo up ((ou, .inl (kJ κ, 1, .inr (.inl oF))) :: X))) := by
  refine cw_entry (own := RL) (L := [(0, .ref (a 0)), (1, .int (nI j)), (2, .int y), (3, .ref ou)]) (by decide +kernel) rfl (lv_entry [.ref (a 0), .int (nI j), .int y, .ref ou] (n := 5) (Nat.le_of_ble_eq_true rfl)) (fun g C E hT => ?_)
  refine a_aloadn (pc := 0) C 3 rfl rfl dL_find_0 ?_
  refine a_iconst (pc := 1) (v := nI 0) C ci_0 dL_find_1 ?_
  refine a_aloadn (pc := 2) C 0 rfl rfl dL_find_2 ?_
  refine a_iloadn (pc := 3) C 1 rfl rfl dL_find_3 ?_
  refine a_iloadn (pc := 4) C 2 rfl rfl dL_find_4 ?_
  refine a_xV (pc := 5) C (c_X5_find_b2 κ a hf hj hb) yv_X5_find ml_L_63 wi_X5_find wl_X5_find 0 rfl rfl rfl rfl (Nat.le_of_ble_eq_true rfl) (Nat.le_of_ble_eq_true rfl) (Nat.le_of_ble_eq_true rfl) ⟨(Nat.le_of_ble_eq_true rfl), (Nat.le_of_ble_eq_true rfl)⟩ dL_find_5 (fun e w h => ?_) (fun ro w h => h.elim)
  obtain ⟨rfl, rfl⟩ := h
  refine a_catch (E := xIO) C hT [] [] ⟨0, 10, 13, 21⟩ rfl (fun z hz => by cases hz) (by decide) (by decide) cl_L_21 (by simp [nxC]) (fun qx => ?_)
  refine a_astore (pc := 13) (L' := [(0, .ref (a 0)), (1, .int (nI j)), (2, .int y), (3, .ref ou), (4, .ref qx)]) C (by decide) rfl dL_find_13 ?_
  refine a_iconst (pc := 15) (v := nI 1) C ci_1 dL_find_15 ?_
  exact a_iret (pc := 16) C E (Nat.le_of_ble_eq_true rfl) (Nat.le_of_ble_eq_true rfl) ⟨rfl, rfl⟩ dL_find_16

set_option maxHeartbeats 4000000 in
set_option maxRecDepth 100000 in
theorem c_L_isLinked (κ : aK) (a : Nat → Nat) {n : Nat} {dug : Nat → Bool} {dtd : Nat → Bool} {so : Nat → Int32} {ph : Nat → Int32} {uf : Nat → Int32} {ul : Nat → Int32} {r : Nat} {ki : Nat → Int32} {lt : Nat → Nat} {er : Nat → Nat} {mz : Nat} {bd : Nat → Bool} {bo : Nat → Nat} {me : Nat → Nat → Bool} {dE : Nat → Nat → Bool} {eE : Nat → Nat → Bool} {lE : Nat → Nat → Bool} {li : Nat → Nat → Bool} {fB : Nat → Int32} {fA : Nat → Int32} {sL : Nat → Int32} {f : Nat} {fu : Nat → Nat} {fs : Nat → Int32} {ff : Nat → Int32} {fl : Nat → Int32} {xs : Nat → Int32} {ys : Nat → Int32} {zs : Nat → Int32} {oL : Nat → Int32} {oU : Nat → Int32} {lo : Nat → Int32} {up : Nat → Int32} {X : va_W} {x : Nat} {y : Nat} {ou : Nat} {oF : Nat → Int64} (hn : n ≤ 40) (hbo : ∀ u, bo u < 40) (hx : x < n) (hy : y < n) : CW yL_isLinked cL_isLinked 5 (some .int) [(0, 17, 20, 21)] ({ frames := 8, cells := 0, slots := 0, locals := 153 } : Room) κ [.ref (a 0), .int (nI x), .int (nI y), .ref ou] (wC κ a n dug dtd so ph uf ul r ki lt er mz bd bo me dE eE lE li fB fA sL f fu fs ff fl xs ys zs oL oU lo up ((ou, .inl (kJ κ, 1, .inr (.inl oF))) :: X)) (aD (some (.int (nI 0))) (wC κ a n dug dtd so ph uf ul r ki lt er mz bd bo me dE eE lE li fB fA sL f fu fs ff fl xs ys zs oL oU lo up ((ou, .inl (kJ κ, 1, .inr (.inl (va_up oF 0 (if li (bo x) (bo y) = true then (1 : Int64) else 0))))) :: X))) := by
  refine cw_entry (own := RL) (L := [(0, .ref (a 0)), (1, .int (nI x)), (2, .int (nI y)), (3, .ref ou)]) (by decide +kernel) rfl (lv_entry [.ref (a 0), .int (nI x), .int (nI y), .ref ou] (n := 5) (Nat.le_of_ble_eq_true rfl)) (fun g C E hT => ?_)
  refine a_aloadn (pc := 0) C 3 rfl rfl dL_isLinked_0 ?_
  refine a_iconst (pc := 1) (v := nI 0) C ci_0 dL_isLinked_1 ?_
  refine a_aloadn (pc := 2) C 0 rfl rfl dL_isLinked_2 ?_
  refine a_iloadn (pc := 3) C 1 rfl rfl dL_isLinked_3 ?_
  refine a_iloadn (pc := 4) C 2 rfl rfl dL_isLinked_4 ?_
  refine a_callV1 (pc := 5) (k' := 0) (n' := 0) C (c_X5_isLinked κ a hn hbo hx hy) yv_X5_isLinked ml_L_39 wi_X5_isLinked wl_X5_isLinked 0 rfl rfl rfl rfl (Nat.le_of_ble_eq_true rfl) (Nat.le_of_ble_eq_true rfl) (Nat.le_of_ble_eq_true rfl) ⟨(Nat.le_of_ble_eq_true rfl), (Nat.le_of_ble_eq_true rfl)⟩ rfl rfl dL_isLinked_5 ?_
  refine a_ifb_eq (pc := 8) (tgt := 15) C (by decide) dL_isLinked_8 (fun c1 => ?_) (fun c1 => ?_)
  · refine a_lconst (pc := 15) (v := 0) C rfl dL_isLinked_15 ?_
    refine a_last (pc := 16) (ws' := wC κ a n dug dtd so ph uf ul r ki lt er mz bd bo me dE eE lE li fB fA sL f fu fs ff fl xs ys zs oL oU lo up ((ou, .inl (kJ κ, 1, .inr (.inl (va_up oF 0 (0 : Int64))))) :: X)) C 33 rfl (by omega) (by decide) rfl rfl dL_isLinked_16 ?_
    refine a_goto (pc := 17) (tgt := 24) C (by decide) dL_isLinked_17 ?_
    refine a_iconst (pc := 24) (v := nI 0) C ci_0 dL_isLinked_24 ?_
    refine aw_eq (congrArg (fun zz9 => wC κ a n dug dtd so ph uf ul r ki lt er mz bd bo me dE eE lE li fB fA sL f fu fs ff fl xs ys zs oL oU lo up ((ou, .inl (kJ κ, 1, .inr (.inl zz9))) :: X)) (by rw [c1]; rfl : (va_up oF 0 (0 : Int64)) = (va_up oF 0 (if li (bo x) (bo y) = true then (1 : Int64) else 0)))) ?_
    exact a_iret (pc := 25) C E (Nat.le_of_ble_eq_true rfl) (Nat.le_of_ble_eq_true rfl) ⟨rfl, rfl⟩ dL_isLinked_25
  · refine a_lconst (pc := 11) (v := 1) C rfl dL_isLinked_11 ?_
    refine a_goto (pc := 12) (tgt := 16) C (by decide) dL_isLinked_12 ?_
    refine a_last (pc := 16) (ws' := wC κ a n dug dtd so ph uf ul r ki lt er mz bd bo me dE eE lE li fB fA sL f fu fs ff fl xs ys zs oL oU lo up ((ou, .inl (kJ κ, 1, .inr (.inl (va_up oF 0 (1 : Int64))))) :: X)) C 33 rfl (by omega) (by decide) rfl rfl dL_isLinked_16 ?_
    refine a_goto (pc := 17) (tgt := 24) C (by decide) dL_isLinked_17 ?_
    refine a_iconst (pc := 24) (v := nI 0) C ci_0 dL_isLinked_24 ?_
    refine aw_eq (congrArg (fun zz9 => wC κ a n dug dtd so ph uf ul r ki lt er mz bd bo me dE eE lE li fB fA sL f fu fs ff fl xs ys zs oL oU lo up ((ou, .inl (kJ κ, 1, .inr (.inl zz9))) :: X)) (by rw [c1]; rfl : (va_up oF 0 (1 : Int64)) = (va_up oF 0 (if li (bo x) (bo y) = true then (1 : Int64) else 0)))) ?_
    exact a_iret (pc := 25) C E (Nat.le_of_ble_eq_true rfl) (Nat.le_of_ble_eq_true rfl) ⟨rfl, rfl⟩ dL_isLinked_25

set_option maxHeartbeats 4000000 in
set_option maxRecDepth 100000 in
theorem c_L_isLinked_b1 (κ : aK) (a : Nat → Nat) {n : Nat} {dug : Nat → Bool} {dtd : Nat → Bool} {so : Nat → Int32} {ph : Nat → Int32} {uf : Nat → Int32} {ul : Nat → Int32} {r : Nat} {ki : Nat → Int32} {lt : Nat → Nat} {er : Nat → Nat} {mz : Nat} {bd : Nat → Bool} {bo : Nat → Nat} {me : Nat → Nat → Bool} {dE : Nat → Nat → Bool} {eE : Nat → Nat → Bool} {lE : Nat → Nat → Bool} {li : Nat → Nat → Bool} {fB : Nat → Int32} {fA : Nat → Int32} {sL : Nat → Int32} {f : Nat} {fu : Nat → Nat} {fs : Nat → Int32} {ff : Nat → Int32} {fl : Nat → Int32} {xs : Nat → Int32} {ys : Nat → Int32} {zs : Nat → Int32} {oL : Nat → Int32} {oU : Nat → Int32} {lo : Nat → Int32} {up : Nat → Int32} {X : va_W} {x : Int32} {y : Int32} {ou : Nat} {oF : Nat → Int64} (hn : n ≤ 40) (hb : ¬ okU n x) : CW yL_isLinked cL_isLinked 5 (some .int) [(0, 17, 20, 21)] ({ frames := 8, cells := 1, slots := 6, locals := 153 } : Room) κ [.ref (a 0), .int x, .int y, .ref ou] (wC κ a n dug dtd so ph uf ul r ki lt er mz bd bo me dE eE lE li fB fA sL f fu fs ff fl xs ys zs oL oU lo up ((ou, .inl (kJ κ, 1, .inr (.inl oF))) :: X)) (aD (some (.int (nI 1))) (wC κ a n dug dtd so ph uf ul r ki lt er mz bd bo me dE eE lE li fB fA sL f fu fs ff fl xs ys zs oL oU lo up ((ou, .inl (kJ κ, 1, .inr (.inl oF))) :: X))) := by
  refine cw_entry (own := RL) (L := [(0, .ref (a 0)), (1, .int x), (2, .int y), (3, .ref ou)]) (by decide +kernel) rfl (lv_entry [.ref (a 0), .int x, .int y, .ref ou] (n := 5) (Nat.le_of_ble_eq_true rfl)) (fun g C E hT => ?_)
  refine a_aloadn (pc := 0) C 3 rfl rfl dL_isLinked_0 ?_
  refine a_iconst (pc := 1) (v := nI 0) C ci_0 dL_isLinked_1 ?_
  refine a_aloadn (pc := 2) C 0 rfl rfl dL_isLinked_2 ?_
  refine a_iloadn (pc := 3) C 1 rfl rfl dL_isLinked_3 ?_
  refine a_iloadn (pc := 4) C 2 rfl rfl dL_isLinked_4 ?_
  refine a_xV (pc := 5) C (c_X5_isLinked_b1 κ a hn hb) yv_X5_isLinked ml_L_39 wi_X5_isLinked wl_X5_isLinked 0 rfl rfl rfl rfl (Nat.le_of_ble_eq_true rfl) (Nat.le_of_ble_eq_true rfl) (Nat.le_of_ble_eq_true rfl) ⟨(Nat.le_of_ble_eq_true rfl), (Nat.le_of_ble_eq_true rfl)⟩ dL_isLinked_5 (fun e w h => ?_) (fun ro w h => h.elim)
  obtain ⟨rfl, rfl⟩ := h
  refine a_catch (E := xIO) C hT [] [] ⟨0, 17, 20, 21⟩ rfl (fun z hz => by cases hz) (by decide) (by decide) cl_L_21 (by simp [nxC]) (fun qx => ?_)
  refine a_astore (pc := 20) (L' := [(0, .ref (a 0)), (1, .int x), (2, .int y), (3, .ref ou), (4, .ref qx)]) C (by decide) rfl dL_isLinked_20 ?_
  refine a_iconst (pc := 22) (v := nI 1) C ci_1 dL_isLinked_22 ?_
  exact a_iret (pc := 23) C E (Nat.le_of_ble_eq_true rfl) (Nat.le_of_ble_eq_true rfl) ⟨rfl, rfl⟩ dL_isLinked_23

set_option maxHeartbeats 4000000 in
set_option maxRecDepth 100000 in
theorem c_L_isLinked_b2 (κ : aK) (a : Nat → Nat) {n : Nat} {dug : Nat → Bool} {dtd : Nat → Bool} {so : Nat → Int32} {ph : Nat → Int32} {uf : Nat → Int32} {ul : Nat → Int32} {r : Nat} {ki : Nat → Int32} {lt : Nat → Nat} {er : Nat → Nat} {mz : Nat} {bd : Nat → Bool} {bo : Nat → Nat} {me : Nat → Nat → Bool} {dE : Nat → Nat → Bool} {eE : Nat → Nat → Bool} {lE : Nat → Nat → Bool} {li : Nat → Nat → Bool} {fB : Nat → Int32} {fA : Nat → Int32} {sL : Nat → Int32} {f : Nat} {fu : Nat → Nat} {fs : Nat → Int32} {ff : Nat → Int32} {fl : Nat → Int32} {xs : Nat → Int32} {ys : Nat → Int32} {zs : Nat → Int32} {oL : Nat → Int32} {oU : Nat → Int32} {lo : Nat → Int32} {up : Nat → Int32} {X : va_W} {x : Nat} {y : Int32} {ou : Nat} {oF : Nat → Int64} (hn : n ≤ 40) (hx : x < n) (hb : ¬ okU n y) : CW yL_isLinked cL_isLinked 5 (some .int) [(0, 17, 20, 21)] ({ frames := 8, cells := 1, slots := 6, locals := 153 } : Room) κ [.ref (a 0), .int (nI x), .int y, .ref ou] (wC κ a n dug dtd so ph uf ul r ki lt er mz bd bo me dE eE lE li fB fA sL f fu fs ff fl xs ys zs oL oU lo up ((ou, .inl (kJ κ, 1, .inr (.inl oF))) :: X)) (aD (some (.int (nI 1))) (wC κ a n dug dtd so ph uf ul r ki lt er mz bd bo me dE eE lE li fB fA sL f fu fs ff fl xs ys zs oL oU lo up ((ou, .inl (kJ κ, 1, .inr (.inl oF))) :: X))) := by
  refine cw_entry (own := RL) (L := [(0, .ref (a 0)), (1, .int (nI x)), (2, .int y), (3, .ref ou)]) (by decide +kernel) rfl (lv_entry [.ref (a 0), .int (nI x), .int y, .ref ou] (n := 5) (Nat.le_of_ble_eq_true rfl)) (fun g C E hT => ?_)
  refine a_aloadn (pc := 0) C 3 rfl rfl dL_isLinked_0 ?_
  refine a_iconst (pc := 1) (v := nI 0) C ci_0 dL_isLinked_1 ?_
  refine a_aloadn (pc := 2) C 0 rfl rfl dL_isLinked_2 ?_
  refine a_iloadn (pc := 3) C 1 rfl rfl dL_isLinked_3 ?_
  refine a_iloadn (pc := 4) C 2 rfl rfl dL_isLinked_4 ?_
  refine a_xV (pc := 5) C (c_X5_isLinked_b2 κ a hn hx hb) yv_X5_isLinked ml_L_39 wi_X5_isLinked wl_X5_isLinked 0 rfl rfl rfl rfl (Nat.le_of_ble_eq_true rfl) (Nat.le_of_ble_eq_true rfl) (Nat.le_of_ble_eq_true rfl) ⟨(Nat.le_of_ble_eq_true rfl), (Nat.le_of_ble_eq_true rfl)⟩ dL_isLinked_5 (fun e w h => ?_) (fun ro w h => h.elim)
  obtain ⟨rfl, rfl⟩ := h
  refine a_catch (E := xIO) C hT [] [] ⟨0, 17, 20, 21⟩ rfl (fun z hz => by cases hz) (by decide) (by decide) cl_L_21 (by simp [nxC]) (fun qx => ?_)
  refine a_astore (pc := 20) (L' := [(0, .ref (a 0)), (1, .int (nI x)), (2, .int y), (3, .ref ou), (4, .ref qx)]) C (by decide) rfl dL_isLinked_20 ?_
  refine a_iconst (pc := 22) (v := nI 1) C ci_1 dL_isLinked_22 ?_
  exact a_iret (pc := 23) C E (Nat.le_of_ble_eq_true rfl) (Nat.le_of_ble_eq_true rfl) ⟨rfl, rfl⟩ dL_isLinked_23

set_option maxHeartbeats 4000000 in
set_option maxRecDepth 100000 in
theorem c_L_move (κ : aK) (a : Nat → Nat) {n : Nat} {dug : Nat → Bool} {dtd : Nat → Bool} {so : Nat → Int32} {ph : Nat → Int32} {uf : Nat → Int32} {ul : Nat → Int32} {r : Nat} {ki : Nat → Int32} {lt : Nat → Nat} {er : Nat → Nat} {mz : Nat} {bd : Nat → Bool} {bo : Nat → Nat} {me : Nat → Nat → Bool} {dE : Nat → Nat → Bool} {eE : Nat → Nat → Bool} {lE : Nat → Nat → Bool} {li : Nat → Nat → Bool} {fB : Nat → Int32} {fA : Nat → Int32} {sL : Nat → Int32} {f : Nat} {fu : Nat → Nat} {fs : Nat → Int32} {ff : Nat → Int32} {fl : Nat → Int32} {xs : Nat → Int32} {ys : Nat → Int32} {zs : Nat → Int32} {oL : Nat → Int32} {oU : Nat → Int32} {lo : Nat → Int32} {up : Nat → Int32} {X : va_W} {j : Nat} {u : Nat} {ou : Nat} {oF : Nat → Int64} (hn : n ≤ 40) (hf : f ≤ 60) (hbo : ∀ u, bo u < 40) (hfu : ∀ u, fu u < 40) (hj : j < f) (hu : u < n) : CW yL_move cL_move 5 (some .int) [(0, 10, 13, 21)] ({ frames := 8, cells := 0, slots := 0, locals := 154 } : Room) κ [.ref (a 0), .int (nI j), .int (nI u), .ref ou] (wC κ a n dug dtd so ph uf ul r ki lt er mz bd bo me dE eE lE li fB fA sL f fu fs ff fl xs ys zs oL oU lo up ((ou, .inl (kJ κ, 1, .inr (.inl oF))) :: X)) (aD (some (.int (nI 0))) (wC κ a n dug dtd so ph uf ul r ki lt er mz bd bo me dE eE lE li fB fA sL f (va_up fu j u) fs ff fl xs ys zs (nOL dtd uf bo (va_up fu j u) ff oL n f) (nOU dtd ul bo oU n) (nLo (nOL dtd uf bo (va_up fu j u) ff oL n f) eE lo n) (nUp (nOU dtd ul bo oU n) lE up n) ((ou, .inl (kJ κ, 1, .inr (.inl (va_up oF 0 (nI (fu j)).toInt64)))) :: X))) := by
  refine cw_entry (own := RL) (L := [(0, .ref (a 0)), (1, .int (nI j)), (2, .int (nI u)), (3, .ref ou)]) (by decide +kernel) rfl (lv_entry [.ref (a 0), .int (nI j), .int (nI u), .ref ou] (n := 5) (Nat.le_of_ble_eq_true rfl)) (fun g C E hT => ?_)
  refine a_aloadn (pc := 0) C 3 rfl rfl dL_move_0 ?_
  refine a_iconst (pc := 1) (v := nI 0) C ci_0 dL_move_1 ?_
  refine a_aloadn (pc := 2) C 0 rfl rfl dL_move_2 ?_
  refine a_iloadn (pc := 3) C 1 rfl rfl dL_move_3 ?_
  refine a_iloadn (pc := 4) C 2 rfl rfl dL_move_4 ?_
  refine a_callV1 (pc := 5) (k' := 0) (n' := 0) C (c_X5_move κ a hn hf hbo hfu hj hu) yv_X5_move ml_L_60 wi_X5_move wl_X5_move 0 rfl rfl rfl rfl (Nat.le_of_ble_eq_true rfl) (Nat.le_of_ble_eq_true rfl) (Nat.le_of_ble_eq_true rfl) ⟨(Nat.le_of_ble_eq_true rfl), (Nat.le_of_ble_eq_true rfl)⟩ rfl rfl dL_move_5 ?_
  refine a_i2l (pc := 8) (v := (nI (fu j)).toInt64) C rfl dL_move_8 ?_
  refine a_last (pc := 9) (ws' := wC κ a n dug dtd so ph uf ul r ki lt er mz bd bo me dE eE lE li fB fA sL f (va_up fu j u) fs ff fl xs ys zs (nOL dtd uf bo (va_up fu j u) ff oL n f) (nOU dtd ul bo oU n) (nLo (nOL dtd uf bo (va_up fu j u) ff oL n f) eE lo n) (nUp (nOU dtd ul bo oU n) lE up n) ((ou, .inl (kJ κ, 1, .inr (.inl (va_up oF 0 ((nI (fu j)).toInt64))))) :: X)) C 33 rfl (by omega) (by decide) rfl rfl dL_move_9 ?_
  refine a_goto (pc := 10) (tgt := 17) C (by decide) dL_move_10 ?_
  refine a_iconst (pc := 17) (v := nI 0) C ci_0 dL_move_17 ?_
  refine aw_eq (congrArg (fun zz9 => wC κ a n dug dtd so ph uf ul r ki lt er mz bd bo me dE eE lE li fB fA sL f (va_up fu j u) fs ff fl xs ys zs (nOL dtd uf bo (va_up fu j u) ff oL n f) (nOU dtd ul bo oU n) (nLo (nOL dtd uf bo (va_up fu j u) ff oL n f) eE lo n) (nUp (nOU dtd ul bo oU n) lE up n) ((ou, .inl (kJ κ, 1, .inr (.inl zz9))) :: X)) (rfl : (va_up oF 0 ((nI (fu j)).toInt64)) = (va_up oF 0 (nI (fu j)).toInt64))) ?_
  exact a_iret (pc := 18) C E (Nat.le_of_ble_eq_true rfl) (Nat.le_of_ble_eq_true rfl) ⟨rfl, rfl⟩ dL_move_18

set_option maxHeartbeats 4000000 in
set_option maxRecDepth 100000 in
theorem c_L_move_b1 (κ : aK) (a : Nat → Nat) {n : Nat} {dug : Nat → Bool} {dtd : Nat → Bool} {so : Nat → Int32} {ph : Nat → Int32} {uf : Nat → Int32} {ul : Nat → Int32} {r : Nat} {ki : Nat → Int32} {lt : Nat → Nat} {er : Nat → Nat} {mz : Nat} {bd : Nat → Bool} {bo : Nat → Nat} {me : Nat → Nat → Bool} {dE : Nat → Nat → Bool} {eE : Nat → Nat → Bool} {lE : Nat → Nat → Bool} {li : Nat → Nat → Bool} {fB : Nat → Int32} {fA : Nat → Int32} {sL : Nat → Int32} {f : Nat} {fu : Nat → Nat} {fs : Nat → Int32} {ff : Nat → Int32} {fl : Nat → Int32} {xs : Nat → Int32} {ys : Nat → Int32} {zs : Nat → Int32} {oL : Nat → Int32} {oU : Nat → Int32} {lo : Nat → Int32} {up : Nat → Int32} {X : va_W} {x : Int32} {y : Int32} {ou : Nat} {oF : Nat → Int64} (hf : f ≤ 60) (hb : ¬ okU f x) : CW yL_move cL_move 5 (some .int) [(0, 10, 13, 21)] ({ frames := 8, cells := 1, slots := 6, locals := 154 } : Room) κ [.ref (a 0), .int x, .int y, .ref ou] (wC κ a n dug dtd so ph uf ul r ki lt er mz bd bo me dE eE lE li fB fA sL f fu fs ff fl xs ys zs oL oU lo up ((ou, .inl (kJ κ, 1, .inr (.inl oF))) :: X)) (aD (some (.int (nI 1))) (wC κ a n dug dtd so ph uf ul r ki lt er mz bd bo me dE eE lE li fB fA sL f fu fs ff fl xs ys zs oL oU lo up ((ou, .inl (kJ κ, 1, .inr (.inl oF))) :: X))) := by
  refine cw_entry (own := RL) (L := [(0, .ref (a 0)), (1, .int x), (2, .int y), (3, .ref ou)]) (by decide +kernel) rfl (lv_entry [.ref (a 0), .int x, .int y, .ref ou] (n := 5) (Nat.le_of_ble_eq_true rfl)) (fun g C E hT => ?_)
  refine a_aloadn (pc := 0) C 3 rfl rfl dL_move_0 ?_
  refine a_iconst (pc := 1) (v := nI 0) C ci_0 dL_move_1 ?_
  refine a_aloadn (pc := 2) C 0 rfl rfl dL_move_2 ?_
  refine a_iloadn (pc := 3) C 1 rfl rfl dL_move_3 ?_
  refine a_iloadn (pc := 4) C 2 rfl rfl dL_move_4 ?_
  refine a_xV (pc := 5) C (c_X5_move_b1 κ a hf hb) yv_X5_move ml_L_60 wi_X5_move wl_X5_move 0 rfl rfl rfl rfl (Nat.le_of_ble_eq_true rfl) (Nat.le_of_ble_eq_true rfl) (Nat.le_of_ble_eq_true rfl) ⟨(Nat.le_of_ble_eq_true rfl), (Nat.le_of_ble_eq_true rfl)⟩ dL_move_5 (fun e w h => ?_) (fun ro w h => h.elim)
  obtain ⟨rfl, rfl⟩ := h
  refine a_catch (E := xIO) C hT [] [] ⟨0, 10, 13, 21⟩ rfl (fun z hz => by cases hz) (by decide) (by decide) cl_L_21 (by simp [nxC]) (fun qx => ?_)
  refine a_astore (pc := 13) (L' := [(0, .ref (a 0)), (1, .int x), (2, .int y), (3, .ref ou), (4, .ref qx)]) C (by decide) rfl dL_move_13 ?_
  refine a_iconst (pc := 15) (v := nI 1) C ci_1 dL_move_15 ?_
  exact a_iret (pc := 16) C E (Nat.le_of_ble_eq_true rfl) (Nat.le_of_ble_eq_true rfl) ⟨rfl, rfl⟩ dL_move_16

set_option maxHeartbeats 4000000 in
set_option maxRecDepth 100000 in
theorem c_L_move_b2 (κ : aK) (a : Nat → Nat) {n : Nat} {dug : Nat → Bool} {dtd : Nat → Bool} {so : Nat → Int32} {ph : Nat → Int32} {uf : Nat → Int32} {ul : Nat → Int32} {r : Nat} {ki : Nat → Int32} {lt : Nat → Nat} {er : Nat → Nat} {mz : Nat} {bd : Nat → Bool} {bo : Nat → Nat} {me : Nat → Nat → Bool} {dE : Nat → Nat → Bool} {eE : Nat → Nat → Bool} {lE : Nat → Nat → Bool} {li : Nat → Nat → Bool} {fB : Nat → Int32} {fA : Nat → Int32} {sL : Nat → Int32} {f : Nat} {fu : Nat → Nat} {fs : Nat → Int32} {ff : Nat → Int32} {fl : Nat → Int32} {xs : Nat → Int32} {ys : Nat → Int32} {zs : Nat → Int32} {oL : Nat → Int32} {oU : Nat → Int32} {lo : Nat → Int32} {up : Nat → Int32} {X : va_W} {j : Nat} {y : Int32} {ou : Nat} {oF : Nat → Int64} (hf : f ≤ 60) (hn : n ≤ 40) (hj : j < f) (hb : ¬ okU n y) : CW yL_move cL_move 5 (some .int) [(0, 10, 13, 21)] ({ frames := 8, cells := 1, slots := 6, locals := 154 } : Room) κ [.ref (a 0), .int (nI j), .int y, .ref ou] (wC κ a n dug dtd so ph uf ul r ki lt er mz bd bo me dE eE lE li fB fA sL f fu fs ff fl xs ys zs oL oU lo up ((ou, .inl (kJ κ, 1, .inr (.inl oF))) :: X)) (aD (some (.int (nI 1))) (wC κ a n dug dtd so ph uf ul r ki lt er mz bd bo me dE eE lE li fB fA sL f fu fs ff fl xs ys zs oL oU lo up ((ou, .inl (kJ κ, 1, .inr (.inl oF))) :: X))) := by
  refine cw_entry (own := RL) (L := [(0, .ref (a 0)), (1, .int (nI j)), (2, .int y), (3, .ref ou)]) (by decide +kernel) rfl (lv_entry [.ref (a 0), .int (nI j), .int y, .ref ou] (n := 5) (Nat.le_of_ble_eq_true rfl)) (fun g C E hT => ?_)
  refine a_aloadn (pc := 0) C 3 rfl rfl dL_move_0 ?_
  refine a_iconst (pc := 1) (v := nI 0) C ci_0 dL_move_1 ?_
  refine a_aloadn (pc := 2) C 0 rfl rfl dL_move_2 ?_
  refine a_iloadn (pc := 3) C 1 rfl rfl dL_move_3 ?_
  refine a_iloadn (pc := 4) C 2 rfl rfl dL_move_4 ?_
  refine a_xV (pc := 5) C (c_X5_move_b2 κ a hf hn hj hb) yv_X5_move ml_L_60 wi_X5_move wl_X5_move 0 rfl rfl rfl rfl (Nat.le_of_ble_eq_true rfl) (Nat.le_of_ble_eq_true rfl) (Nat.le_of_ble_eq_true rfl) ⟨(Nat.le_of_ble_eq_true rfl), (Nat.le_of_ble_eq_true rfl)⟩ dL_move_5 (fun e w h => ?_) (fun ro w h => h.elim)
  obtain ⟨rfl, rfl⟩ := h
  refine a_catch (E := xIO) C hT [] [] ⟨0, 10, 13, 21⟩ rfl (fun z hz => by cases hz) (by decide) (by decide) cl_L_21 (by simp [nxC]) (fun qx => ?_)
  refine a_astore (pc := 13) (L' := [(0, .ref (a 0)), (1, .int (nI j)), (2, .int y), (3, .ref ou), (4, .ref qx)]) C (by decide) rfl dL_move_13 ?_
  refine a_iconst (pc := 15) (v := nI 1) C ci_1 dL_move_15 ?_
  exact a_iret (pc := 16) C E (Nat.le_of_ble_eq_true rfl) (Nat.le_of_ble_eq_true rfl) ⟨rfl, rfl⟩ dL_move_16

set_option maxHeartbeats 4000000 in
set_option maxRecDepth 100000 in
theorem c_L_nearest (κ : aK) (a : Nat → Nat) {n : Nat} {dug : Nat → Bool} {dtd : Nat → Bool} {so : Nat → Int32} {ph : Nat → Int32} {uf : Nat → Int32} {ul : Nat → Int32} {r : Nat} {ki : Nat → Int32} {lt : Nat → Nat} {er : Nat → Nat} {mz : Nat} {bd : Nat → Bool} {bo : Nat → Nat} {me : Nat → Nat → Bool} {dE : Nat → Nat → Bool} {eE : Nat → Nat → Bool} {lE : Nat → Nat → Bool} {li : Nat → Nat → Bool} {fB : Nat → Int32} {fA : Nat → Int32} {sL : Nat → Int32} {f : Nat} {fu : Nat → Nat} {fs : Nat → Int32} {ff : Nat → Int32} {fl : Nat → Int32} {xs : Nat → Int32} {ys : Nat → Int32} {zs : Nat → Int32} {oL : Nat → Int32} {oU : Nat → Int32} {lo : Nat → Int32} {up : Nat → Int32} {X : va_W} {x : Int32} {y : Int32} {z : Int32} {q : Int32} {ou : Nat} {oF : Nat → Int64} (hf : f ≤ 60) (g1 : xyB x = true) (g2 : xyB y = true) (g3 : zB z = true) (hq : inB (-1 : Int32) (nI 9) q = true) : CW yL_nearest cL_nearest 7 (some .int) [(0, 14, 17, 13)] ({ frames := 8, cells := 0, slots := 0, locals := 156 } : Room) κ [.ref (a 0), .int x, .int y, .int z, .int q, .ref ou] (wC κ a n dug dtd so ph uf ul r ki lt er mz bd bo me dE eE lE li fB fA sL f fu fs ff fl xs ys zs oL oU lo up ((ou, .inl (kJ κ, 1, .inr (.inl oF))) :: X)) (aD (some (.int (nI 0))) (wC κ a n dug dtd so ph uf ul r ki lt er mz bd bo me dE eE lE li fB fA sL f fu fs ff fl xs ys zs oL oU lo up ((ou, .inl (kJ κ, 1, .inr (.inl (va_up oF 0 ((clS fs (fun v => sqD xs ys zs v x y z) q f).1).toInt64)))) :: X))) := by
  refine cw_entry (own := RL) (L := [(0, .ref (a 0)), (1, .int x), (2, .int y), (3, .int z), (4, .int q), (5, .ref ou)]) (by decide +kernel) rfl (lv_entry [.ref (a 0), .int x, .int y, .int z, .int q, .ref ou] (n := 7) (Nat.le_of_ble_eq_true rfl)) (fun g C E hT => ?_)
  refine a_aload (pc := 0) C 5 rfl dL_nearest_0 ?_
  refine a_iconst (pc := 2) (v := nI 0) C ci_0 dL_nearest_2 ?_
  refine a_aloadn (pc := 3) C 0 rfl rfl dL_nearest_3 ?_
  refine a_iloadn (pc := 4) C 1 rfl rfl dL_nearest_4 ?_
  refine a_iloadn (pc := 5) C 2 rfl rfl dL_nearest_5 ?_
  refine a_iloadn (pc := 6) C 3 rfl rfl dL_nearest_6 ?_
  refine a_iload (pc := 7) C 4 rfl dL_nearest_7 ?_
  refine a_callV1 (pc := 9) (k' := 0) (n' := 0) C (c_X5_nearest κ a hf g1 g2 g3 hq) yv_X5_nearest ml_L_76 wi_X5_nearest wl_X5_nearest 0 rfl rfl rfl rfl (Nat.le_of_ble_eq_true rfl) (Nat.le_of_ble_eq_true rfl) (Nat.le_of_ble_eq_true rfl) ⟨(Nat.le_of_ble_eq_true rfl), (Nat.le_of_ble_eq_true rfl)⟩ rfl rfl dL_nearest_9 ?_
  refine a_i2l (pc := 12) (v := ((clS fs (fun v => sqD xs ys zs v x y z) q f).1).toInt64) C rfl dL_nearest_12 ?_
  refine a_last (pc := 13) (ws' := wC κ a n dug dtd so ph uf ul r ki lt er mz bd bo me dE eE lE li fB fA sL f fu fs ff fl xs ys zs oL oU lo up ((ou, .inl (kJ κ, 1, .inr (.inl (va_up oF 0 (((clS fs (fun v => sqD xs ys zs v x y z) q f).1).toInt64))))) :: X)) C 33 rfl (by omega) (by decide) rfl rfl dL_nearest_13 ?_
  refine a_goto (pc := 14) (tgt := 21) C (by decide) dL_nearest_14 ?_
  refine a_iconst (pc := 21) (v := nI 0) C ci_0 dL_nearest_21 ?_
  refine aw_eq (congrArg (fun zz9 => wC κ a n dug dtd so ph uf ul r ki lt er mz bd bo me dE eE lE li fB fA sL f fu fs ff fl xs ys zs oL oU lo up ((ou, .inl (kJ κ, 1, .inr (.inl zz9))) :: X)) (rfl : (va_up oF 0 (((clS fs (fun v => sqD xs ys zs v x y z) q f).1).toInt64)) = (va_up oF 0 ((clS fs (fun v => sqD xs ys zs v x y z) q f).1).toInt64))) ?_
  exact a_iret (pc := 22) C E (Nat.le_of_ble_eq_true rfl) (Nat.le_of_ble_eq_true rfl) ⟨rfl, rfl⟩ dL_nearest_22

set_option maxHeartbeats 4000000 in
set_option maxRecDepth 100000 in
theorem c_L_nearest_b1 (κ : aK) (a : Nat → Nat) {n : Nat} {dug : Nat → Bool} {dtd : Nat → Bool} {so : Nat → Int32} {ph : Nat → Int32} {uf : Nat → Int32} {ul : Nat → Int32} {r : Nat} {ki : Nat → Int32} {lt : Nat → Nat} {er : Nat → Nat} {mz : Nat} {bd : Nat → Bool} {bo : Nat → Nat} {me : Nat → Nat → Bool} {dE : Nat → Nat → Bool} {eE : Nat → Nat → Bool} {lE : Nat → Nat → Bool} {li : Nat → Nat → Bool} {fB : Nat → Int32} {fA : Nat → Int32} {sL : Nat → Int32} {f : Nat} {fu : Nat → Nat} {fs : Nat → Int32} {ff : Nat → Int32} {fl : Nat → Int32} {xs : Nat → Int32} {ys : Nat → Int32} {zs : Nat → Int32} {oL : Nat → Int32} {oU : Nat → Int32} {lo : Nat → Int32} {up : Nat → Int32} {X : va_W} {x : Int32} {y : Int32} {z : Int32} {q : Int32} {ou : Nat} {oF : Nat → Int64} (hb : ((xyB x && xyB y) && zB z) = false) : CW yL_nearest cL_nearest 7 (some .int) [(0, 14, 17, 13)] ({ frames := 8, cells := 1, slots := 6, locals := 156 } : Room) κ [.ref (a 0), .int x, .int y, .int z, .int q, .ref ou] (wC κ a n dug dtd so ph uf ul r ki lt er mz bd bo me dE eE lE li fB fA sL f fu fs ff fl xs ys zs oL oU lo up ((ou, .inl (kJ κ, 1, .inr (.inl oF))) :: X)) (aD (some (.int (nI 1))) (wC κ a n dug dtd so ph uf ul r ki lt er mz bd bo me dE eE lE li fB fA sL f fu fs ff fl xs ys zs oL oU lo up ((ou, .inl (kJ κ, 1, .inr (.inl oF))) :: X))) := by
  refine cw_entry (own := RL) (L := [(0, .ref (a 0)), (1, .int x), (2, .int y), (3, .int z), (4, .int q), (5, .ref ou)]) (by decide +kernel) rfl (lv_entry [.ref (a 0), .int x, .int y, .int z, .int q, .ref ou] (n := 7) (Nat.le_of_ble_eq_true rfl)) (fun g C E hT => ?_)
  refine a_aload (pc := 0) C 5 rfl dL_nearest_0 ?_
  refine a_iconst (pc := 2) (v := nI 0) C ci_0 dL_nearest_2 ?_
  refine a_aloadn (pc := 3) C 0 rfl rfl dL_nearest_3 ?_
  refine a_iloadn (pc := 4) C 1 rfl rfl dL_nearest_4 ?_
  refine a_iloadn (pc := 5) C 2 rfl rfl dL_nearest_5 ?_
  refine a_iloadn (pc := 6) C 3 rfl rfl dL_nearest_6 ?_
  refine a_iload (pc := 7) C 4 rfl dL_nearest_7 ?_
  refine a_xV (pc := 9) C (c_X5_nearest_b1 κ a hb) yv_X5_nearest ml_L_76 wi_X5_nearest wl_X5_nearest 0 rfl rfl rfl rfl (Nat.le_of_ble_eq_true rfl) (Nat.le_of_ble_eq_true rfl) (Nat.le_of_ble_eq_true rfl) ⟨(Nat.le_of_ble_eq_true rfl), (Nat.le_of_ble_eq_true rfl)⟩ dL_nearest_9 (fun e w h => ?_) (fun ro w h => h.elim)
  obtain ⟨rfl, rfl⟩ := h
  refine a_catch (E := xIA) C hT [] [] ⟨0, 14, 17, 13⟩ rfl (fun z hz => by cases hz) (by decide) (by decide) cl_L_13 (by simp [nxC]) (fun qx => ?_)
  refine a_astore (pc := 17) (L' := [(0, .ref (a 0)), (1, .int x), (2, .int y), (3, .int z), (4, .int q), (5, .ref ou), (6, .ref qx)]) C (by decide) rfl dL_nearest_17 ?_
  refine a_iconst (pc := 19) (v := nI 1) C ci_1 dL_nearest_19 ?_
  exact a_iret (pc := 20) C E (Nat.le_of_ble_eq_true rfl) (Nat.le_of_ble_eq_true rfl) ⟨rfl, rfl⟩ dL_nearest_20

set_option maxHeartbeats 4000000 in
set_option maxRecDepth 100000 in
theorem c_L_nearest_b2 (κ : aK) (a : Nat → Nat) {n : Nat} {dug : Nat → Bool} {dtd : Nat → Bool} {so : Nat → Int32} {ph : Nat → Int32} {uf : Nat → Int32} {ul : Nat → Int32} {r : Nat} {ki : Nat → Int32} {lt : Nat → Nat} {er : Nat → Nat} {mz : Nat} {bd : Nat → Bool} {bo : Nat → Nat} {me : Nat → Nat → Bool} {dE : Nat → Nat → Bool} {eE : Nat → Nat → Bool} {lE : Nat → Nat → Bool} {li : Nat → Nat → Bool} {fB : Nat → Int32} {fA : Nat → Int32} {sL : Nat → Int32} {f : Nat} {fu : Nat → Nat} {fs : Nat → Int32} {ff : Nat → Int32} {fl : Nat → Int32} {xs : Nat → Int32} {ys : Nat → Int32} {zs : Nat → Int32} {oL : Nat → Int32} {oU : Nat → Int32} {lo : Nat → Int32} {up : Nat → Int32} {X : va_W} {x : Int32} {y : Int32} {z : Int32} {q : Int32} {ou : Nat} {oF : Nat → Int64} (g1 : xyB x = true) (g2 : xyB y = true) (g3 : zB z = true) (hb : inB (-1 : Int32) (nI 9) q = false) : CW yL_nearest cL_nearest 7 (some .int) [(0, 14, 17, 13)] ({ frames := 8, cells := 1, slots := 6, locals := 156 } : Room) κ [.ref (a 0), .int x, .int y, .int z, .int q, .ref ou] (wC κ a n dug dtd so ph uf ul r ki lt er mz bd bo me dE eE lE li fB fA sL f fu fs ff fl xs ys zs oL oU lo up ((ou, .inl (kJ κ, 1, .inr (.inl oF))) :: X)) (aD (some (.int (nI 1))) (wC κ a n dug dtd so ph uf ul r ki lt er mz bd bo me dE eE lE li fB fA sL f fu fs ff fl xs ys zs oL oU lo up ((ou, .inl (kJ κ, 1, .inr (.inl oF))) :: X))) := by
  refine cw_entry (own := RL) (L := [(0, .ref (a 0)), (1, .int x), (2, .int y), (3, .int z), (4, .int q), (5, .ref ou)]) (by decide +kernel) rfl (lv_entry [.ref (a 0), .int x, .int y, .int z, .int q, .ref ou] (n := 7) (Nat.le_of_ble_eq_true rfl)) (fun g C E hT => ?_)
  refine a_aload (pc := 0) C 5 rfl dL_nearest_0 ?_
  refine a_iconst (pc := 2) (v := nI 0) C ci_0 dL_nearest_2 ?_
  refine a_aloadn (pc := 3) C 0 rfl rfl dL_nearest_3 ?_
  refine a_iloadn (pc := 4) C 1 rfl rfl dL_nearest_4 ?_
  refine a_iloadn (pc := 5) C 2 rfl rfl dL_nearest_5 ?_
  refine a_iloadn (pc := 6) C 3 rfl rfl dL_nearest_6 ?_
  refine a_iload (pc := 7) C 4 rfl dL_nearest_7 ?_
  refine a_xV (pc := 9) C (c_X5_nearest_b2 κ a g1 g2 g3 hb) yv_X5_nearest ml_L_76 wi_X5_nearest wl_X5_nearest 0 rfl rfl rfl rfl (Nat.le_of_ble_eq_true rfl) (Nat.le_of_ble_eq_true rfl) (Nat.le_of_ble_eq_true rfl) ⟨(Nat.le_of_ble_eq_true rfl), (Nat.le_of_ble_eq_true rfl)⟩ dL_nearest_9 (fun e w h => ?_) (fun ro w h => h.elim)
  obtain ⟨rfl, rfl⟩ := h
  refine a_catch (E := xIA) C hT [] [] ⟨0, 14, 17, 13⟩ rfl (fun z hz => by cases hz) (by decide) (by decide) cl_L_13 (by simp [nxC]) (fun qx => ?_)
  refine a_astore (pc := 17) (L' := [(0, .ref (a 0)), (1, .int x), (2, .int y), (3, .int z), (4, .int q), (5, .ref ou), (6, .ref qx)]) C (by decide) rfl dL_nearest_17 ?_
  refine a_iconst (pc := 19) (v := nI 1) C ci_1 dL_nearest_19 ?_
  exact a_iret (pc := 20) C E (Nat.le_of_ble_eq_true rfl) (Nat.le_of_ble_eq_true rfl) ⟨rfl, rfl⟩ dL_nearest_20

set_option maxHeartbeats 4000000 in
set_option maxRecDepth 100000 in
theorem c_L_next (κ : aK) (a : Nat → Nat) {n : Nat} {dug : Nat → Bool} {dtd : Nat → Bool} {so : Nat → Int32} {ph : Nat → Int32} {uf : Nat → Int32} {ul : Nat → Int32} {r : Nat} {ki : Nat → Int32} {lt : Nat → Nat} {er : Nat → Nat} {mz : Nat} {bd : Nat → Bool} {bo : Nat → Nat} {me : Nat → Nat → Bool} {dE : Nat → Nat → Bool} {eE : Nat → Nat → Bool} {lE : Nat → Nat → Bool} {li : Nat → Nat → Bool} {fB : Nat → Int32} {fA : Nat → Int32} {sL : Nat → Int32} {f : Nat} {fu : Nat → Nat} {fs : Nat → Int32} {ff : Nat → Int32} {fl : Nat → Int32} {xs : Nat → Int32} {ys : Nat → Int32} {zs : Nat → Int32} {oL : Nat → Int32} {oU : Nat → Int32} {lo : Nat → Int32} {up : Nat → Int32} {X : va_W} {y : Nat} {ou : Nat} {oF : Nat → Int64} (hn : n ≤ 40) (hbo : ∀ u, bo u < 40) (hy : y < 40) : CW yL_next cL_next 4 (some .int) [(0, 9, 12, 21)] ({ frames := 8, cells := 0, slots := 0, locals := 151 } : Room) κ [.ref (a 0), .int (nI y), .ref ou] (wC κ a n dug dtd so ph uf ul r ki lt er mz bd bo me dE eE lE li fB fA sL f fu fs ff fl xs ys zs oL oU lo up ((ou, .inl (kJ κ, 1, .inr (.inl oF))) :: X)) (aD (some (.int (nI 0))) (wC κ a n dug dtd so ph uf ul r ki lt er mz bd bo me dE eE lE li fB fA sL f fu fs ff fl xs ys zs oL oU lo up ((ou, .inl (kJ κ, 1, .inr (.inl (va_up oF 0 (oI (elA (selS (fun u => cdB n bo eE dug u) n) y 40)).toInt64)))) :: X))) := by
  refine cw_entry (own := RL) (L := [(0, .ref (a 0)), (1, .int (nI y)), (2, .ref ou)]) (by decide +kernel) rfl (lv_entry [.ref (a 0), .int (nI y), .ref ou] (n := 4) (Nat.le_of_ble_eq_true rfl)) (fun g C E hT => ?_)
  refine a_aloadn (pc := 0) C 2 rfl rfl dL_next_0 ?_
  refine a_iconst (pc := 1) (v := nI 0) C ci_0 dL_next_1 ?_
  refine a_aloadn (pc := 2) C 0 rfl rfl dL_next_2 ?_
  refine a_iloadn (pc := 3) C 1 rfl rfl dL_next_3 ?_
  refine a_callV1 (pc := 4) (k' := 0) (n' := 0) C (c_X5_next κ a hn hbo hy) yv_X5_next ml_L_82 wi_X5_next wl_X5_next 0 rfl rfl rfl rfl (Nat.le_of_ble_eq_true rfl) (Nat.le_of_ble_eq_true rfl) (Nat.le_of_ble_eq_true rfl) ⟨(Nat.le_of_ble_eq_true rfl), (Nat.le_of_ble_eq_true rfl)⟩ rfl rfl dL_next_4 ?_
  refine a_i2l (pc := 7) (v := (oI (elA (selS (fun u => cdB n bo eE dug u) n) y 40)).toInt64) C rfl dL_next_7 ?_
  refine a_last (pc := 8) (ws' := wC κ a n dug dtd so ph uf ul r ki lt er mz bd bo me dE eE lE li fB fA sL f fu fs ff fl xs ys zs oL oU lo up ((ou, .inl (kJ κ, 1, .inr (.inl (va_up oF 0 ((oI (elA (selS (fun u => cdB n bo eE dug u) n) y 40)).toInt64))))) :: X)) C 33 rfl (by omega) (by decide) rfl rfl dL_next_8 ?_
  refine a_goto (pc := 9) (tgt := 15) C (by decide) dL_next_9 ?_
  refine a_iconst (pc := 15) (v := nI 0) C ci_0 dL_next_15 ?_
  refine aw_eq (congrArg (fun zz9 => wC κ a n dug dtd so ph uf ul r ki lt er mz bd bo me dE eE lE li fB fA sL f fu fs ff fl xs ys zs oL oU lo up ((ou, .inl (kJ κ, 1, .inr (.inl zz9))) :: X)) (rfl : (va_up oF 0 ((oI (elA (selS (fun u => cdB n bo eE dug u) n) y 40)).toInt64)) = (va_up oF 0 (oI (elA (selS (fun u => cdB n bo eE dug u) n) y 40)).toInt64))) ?_
  exact a_iret (pc := 16) C E (Nat.le_of_ble_eq_true rfl) (Nat.le_of_ble_eq_true rfl) ⟨rfl, rfl⟩ dL_next_16

set_option maxHeartbeats 4000000 in
set_option maxRecDepth 100000 in
theorem c_L_next_b1 (κ : aK) (a : Nat → Nat) {n : Nat} {dug : Nat → Bool} {dtd : Nat → Bool} {so : Nat → Int32} {ph : Nat → Int32} {uf : Nat → Int32} {ul : Nat → Int32} {r : Nat} {ki : Nat → Int32} {lt : Nat → Nat} {er : Nat → Nat} {mz : Nat} {bd : Nat → Bool} {bo : Nat → Nat} {me : Nat → Nat → Bool} {dE : Nat → Nat → Bool} {eE : Nat → Nat → Bool} {lE : Nat → Nat → Bool} {li : Nat → Nat → Bool} {fB : Nat → Int32} {fA : Nat → Int32} {sL : Nat → Int32} {f : Nat} {fu : Nat → Nat} {fs : Nat → Int32} {ff : Nat → Int32} {fl : Nat → Int32} {xs : Nat → Int32} {ys : Nat → Int32} {zs : Nat → Int32} {oL : Nat → Int32} {oU : Nat → Int32} {lo : Nat → Int32} {up : Nat → Int32} {X : va_W} {x : Int32} {ou : Nat} {oF : Nat → Int64} (hb : ¬ okU 40 x) : CW yL_next cL_next 4 (some .int) [(0, 9, 12, 21)] ({ frames := 8, cells := 1, slots := 6, locals := 151 } : Room) κ [.ref (a 0), .int x, .ref ou] (wC κ a n dug dtd so ph uf ul r ki lt er mz bd bo me dE eE lE li fB fA sL f fu fs ff fl xs ys zs oL oU lo up ((ou, .inl (kJ κ, 1, .inr (.inl oF))) :: X)) (aD (some (.int (nI 1))) (wC κ a n dug dtd so ph uf ul r ki lt er mz bd bo me dE eE lE li fB fA sL f fu fs ff fl xs ys zs oL oU lo up ((ou, .inl (kJ κ, 1, .inr (.inl oF))) :: X))) := by
  refine cw_entry (own := RL) (L := [(0, .ref (a 0)), (1, .int x), (2, .ref ou)]) (by decide +kernel) rfl (lv_entry [.ref (a 0), .int x, .ref ou] (n := 4) (Nat.le_of_ble_eq_true rfl)) (fun g C E hT => ?_)
  refine a_aloadn (pc := 0) C 2 rfl rfl dL_next_0 ?_
  refine a_iconst (pc := 1) (v := nI 0) C ci_0 dL_next_1 ?_
  refine a_aloadn (pc := 2) C 0 rfl rfl dL_next_2 ?_
  refine a_iloadn (pc := 3) C 1 rfl rfl dL_next_3 ?_
  refine a_xV (pc := 4) C (c_X5_next_b1 κ a hb) yv_X5_next ml_L_82 wi_X5_next wl_X5_next 0 rfl rfl rfl rfl (Nat.le_of_ble_eq_true rfl) (Nat.le_of_ble_eq_true rfl) (Nat.le_of_ble_eq_true rfl) ⟨(Nat.le_of_ble_eq_true rfl), (Nat.le_of_ble_eq_true rfl)⟩ dL_next_4 (fun e w h => ?_) (fun ro w h => h.elim)
  obtain ⟨rfl, rfl⟩ := h
  refine a_catch (E := xIO) C hT [] [] ⟨0, 9, 12, 21⟩ rfl (fun z hz => by cases hz) (by decide) (by decide) cl_L_21 (by simp [nxC]) (fun qx => ?_)
  refine a_astoren (pc := 12) (L' := [(0, .ref (a 0)), (1, .int x), (2, .ref ou), (3, .ref qx)]) C (by decide) rfl rfl dL_next_12 ?_
  refine a_iconst (pc := 13) (v := nI 1) C ci_1 dL_next_13 ?_
  exact a_iret (pc := 14) C E (Nat.le_of_ble_eq_true rfl) (Nat.le_of_ble_eq_true rfl) ⟨rfl, rfl⟩ dL_next_14

set_option maxHeartbeats 4000000 in
set_option maxRecDepth 100000 in
theorem c_L_order (κ : aK) (a : Nat → Nat) {n : Nat} {dug : Nat → Bool} {dtd : Nat → Bool} {so : Nat → Int32} {ph : Nat → Int32} {uf : Nat → Int32} {ul : Nat → Int32} {r : Nat} {ki : Nat → Int32} {lt : Nat → Nat} {er : Nat → Nat} {mz : Nat} {bd : Nat → Bool} {bo : Nat → Nat} {me : Nat → Nat → Bool} {dE : Nat → Nat → Bool} {eE : Nat → Nat → Bool} {lE : Nat → Nat → Bool} {li : Nat → Nat → Bool} {fB : Nat → Int32} {fA : Nat → Int32} {sL : Nat → Int32} {f : Nat} {fu : Nat → Nat} {fs : Nat → Int32} {ff : Nat → Int32} {fl : Nat → Int32} {xs : Nat → Int32} {ys : Nat → Int32} {zs : Nat → Int32} {oL : Nat → Int32} {oU : Nat → Int32} {lo : Nat → Int32} {up : Nat → Int32} {X : va_W} {x : Nat} {y : Nat} {ou : Nat} {oF : Nat → Int64} (hn : n ≤ 40) (hbo : ∀ u, bo u < 40) (hx : x < n) (hy : y < n) : CW yL_order cL_order 5 (some .int) [(0, 10, 13, 21)] ({ frames := 8, cells := 0, slots := 0, locals := 153 } : Room) κ [.ref (a 0), .int (nI x), .int (nI y), .ref ou] (wC κ a n dug dtd so ph uf ul r ki lt er mz bd bo me dE eE lE li fB fA sL f fu fs ff fl xs ys zs oL oU lo up ((ou, .inl (kJ κ, 1, .inr (.inl oF))) :: X)) (aD (some (.int (nI 0))) (wC κ a n dug dtd so ph uf ul r ki lt er mz bd bo me dE eE lE li fB fA sL f fu fs ff fl xs ys zs oL oU lo up ((ou, .inl (kJ κ, 1, .inr (.inl (va_up oF 0 (odR bo eE x y).toInt64)))) :: X))) := by
  refine cw_entry (own := RL) (L := [(0, .ref (a 0)), (1, .int (nI x)), (2, .int (nI y)), (3, .ref ou)]) (by decide +kernel) rfl (lv_entry [.ref (a 0), .int (nI x), .int (nI y), .ref ou] (n := 5) (Nat.le_of_ble_eq_true rfl)) (fun g C E hT => ?_)
  refine a_aloadn (pc := 0) C 3 rfl rfl dL_order_0 ?_
  refine a_iconst (pc := 1) (v := nI 0) C ci_0 dL_order_1 ?_
  refine a_aloadn (pc := 2) C 0 rfl rfl dL_order_2 ?_
  refine a_iloadn (pc := 3) C 1 rfl rfl dL_order_3 ?_
  refine a_iloadn (pc := 4) C 2 rfl rfl dL_order_4 ?_
  refine a_callV1 (pc := 5) (k' := 0) (n' := 0) C (c_X5_order κ a hn hbo hx hy) yv_X5_order ml_L_36 wi_X5_order wl_X5_order 0 rfl rfl rfl rfl (Nat.le_of_ble_eq_true rfl) (Nat.le_of_ble_eq_true rfl) (Nat.le_of_ble_eq_true rfl) ⟨(Nat.le_of_ble_eq_true rfl), (Nat.le_of_ble_eq_true rfl)⟩ rfl rfl dL_order_5 ?_
  refine a_i2l (pc := 8) (v := (odR bo eE x y).toInt64) C rfl dL_order_8 ?_
  refine a_last (pc := 9) (ws' := wC κ a n dug dtd so ph uf ul r ki lt er mz bd bo me dE eE lE li fB fA sL f fu fs ff fl xs ys zs oL oU lo up ((ou, .inl (kJ κ, 1, .inr (.inl (va_up oF 0 ((odR bo eE x y).toInt64))))) :: X)) C 33 rfl (by omega) (by decide) rfl rfl dL_order_9 ?_
  refine a_goto (pc := 10) (tgt := 17) C (by decide) dL_order_10 ?_
  refine a_iconst (pc := 17) (v := nI 0) C ci_0 dL_order_17 ?_
  refine aw_eq (congrArg (fun zz9 => wC κ a n dug dtd so ph uf ul r ki lt er mz bd bo me dE eE lE li fB fA sL f fu fs ff fl xs ys zs oL oU lo up ((ou, .inl (kJ κ, 1, .inr (.inl zz9))) :: X)) (rfl : (va_up oF 0 ((odR bo eE x y).toInt64)) = (va_up oF 0 (odR bo eE x y).toInt64))) ?_
  exact a_iret (pc := 18) C E (Nat.le_of_ble_eq_true rfl) (Nat.le_of_ble_eq_true rfl) ⟨rfl, rfl⟩ dL_order_18

set_option maxHeartbeats 4000000 in
set_option maxRecDepth 100000 in
theorem c_L_order_b1 (κ : aK) (a : Nat → Nat) {n : Nat} {dug : Nat → Bool} {dtd : Nat → Bool} {so : Nat → Int32} {ph : Nat → Int32} {uf : Nat → Int32} {ul : Nat → Int32} {r : Nat} {ki : Nat → Int32} {lt : Nat → Nat} {er : Nat → Nat} {mz : Nat} {bd : Nat → Bool} {bo : Nat → Nat} {me : Nat → Nat → Bool} {dE : Nat → Nat → Bool} {eE : Nat → Nat → Bool} {lE : Nat → Nat → Bool} {li : Nat → Nat → Bool} {fB : Nat → Int32} {fA : Nat → Int32} {sL : Nat → Int32} {f : Nat} {fu : Nat → Nat} {fs : Nat → Int32} {ff : Nat → Int32} {fl : Nat → Int32} {xs : Nat → Int32} {ys : Nat → Int32} {zs : Nat → Int32} {oL : Nat → Int32} {oU : Nat → Int32} {lo : Nat → Int32} {up : Nat → Int32} {X : va_W} {x : Int32} {y : Int32} {ou : Nat} {oF : Nat → Int64} (hn : n ≤ 40) (hb : ¬ okU n x) : CW yL_order cL_order 5 (some .int) [(0, 10, 13, 21)] ({ frames := 8, cells := 1, slots := 6, locals := 153 } : Room) κ [.ref (a 0), .int x, .int y, .ref ou] (wC κ a n dug dtd so ph uf ul r ki lt er mz bd bo me dE eE lE li fB fA sL f fu fs ff fl xs ys zs oL oU lo up ((ou, .inl (kJ κ, 1, .inr (.inl oF))) :: X)) (aD (some (.int (nI 1))) (wC κ a n dug dtd so ph uf ul r ki lt er mz bd bo me dE eE lE li fB fA sL f fu fs ff fl xs ys zs oL oU lo up ((ou, .inl (kJ κ, 1, .inr (.inl oF))) :: X))) := by
  refine cw_entry (own := RL) (L := [(0, .ref (a 0)), (1, .int x), (2, .int y), (3, .ref ou)]) (by decide +kernel) rfl (lv_entry [.ref (a 0), .int x, .int y, .ref ou] (n := 5) (Nat.le_of_ble_eq_true rfl)) (fun g C E hT => ?_)
  refine a_aloadn (pc := 0) C 3 rfl rfl dL_order_0 ?_
  refine a_iconst (pc := 1) (v := nI 0) C ci_0 dL_order_1 ?_
  refine a_aloadn (pc := 2) C 0 rfl rfl dL_order_2 ?_
  refine a_iloadn (pc := 3) C 1 rfl rfl dL_order_3 ?_
  refine a_iloadn (pc := 4) C 2 rfl rfl dL_order_4 ?_
  refine a_xV (pc := 5) C (c_X5_order_b1 κ a hn hb) yv_X5_order ml_L_36 wi_X5_order wl_X5_order 0 rfl rfl rfl rfl (Nat.le_of_ble_eq_true rfl) (Nat.le_of_ble_eq_true rfl) (Nat.le_of_ble_eq_true rfl) ⟨(Nat.le_of_ble_eq_true rfl), (Nat.le_of_ble_eq_true rfl)⟩ dL_order_5 (fun e w h => ?_) (fun ro w h => h.elim)
  obtain ⟨rfl, rfl⟩ := h
  refine a_catch (E := xIO) C hT [] [] ⟨0, 10, 13, 21⟩ rfl (fun z hz => by cases hz) (by decide) (by decide) cl_L_21 (by simp [nxC]) (fun qx => ?_)
  refine a_astore (pc := 13) (L' := [(0, .ref (a 0)), (1, .int x), (2, .int y), (3, .ref ou), (4, .ref qx)]) C (by decide) rfl dL_order_13 ?_
  refine a_iconst (pc := 15) (v := nI 1) C ci_1 dL_order_15 ?_
  exact a_iret (pc := 16) C E (Nat.le_of_ble_eq_true rfl) (Nat.le_of_ble_eq_true rfl) ⟨rfl, rfl⟩ dL_order_16

set_option maxHeartbeats 4000000 in
set_option maxRecDepth 100000 in
theorem c_L_order_b2 (κ : aK) (a : Nat → Nat) {n : Nat} {dug : Nat → Bool} {dtd : Nat → Bool} {so : Nat → Int32} {ph : Nat → Int32} {uf : Nat → Int32} {ul : Nat → Int32} {r : Nat} {ki : Nat → Int32} {lt : Nat → Nat} {er : Nat → Nat} {mz : Nat} {bd : Nat → Bool} {bo : Nat → Nat} {me : Nat → Nat → Bool} {dE : Nat → Nat → Bool} {eE : Nat → Nat → Bool} {lE : Nat → Nat → Bool} {li : Nat → Nat → Bool} {fB : Nat → Int32} {fA : Nat → Int32} {sL : Nat → Int32} {f : Nat} {fu : Nat → Nat} {fs : Nat → Int32} {ff : Nat → Int32} {fl : Nat → Int32} {xs : Nat → Int32} {ys : Nat → Int32} {zs : Nat → Int32} {oL : Nat → Int32} {oU : Nat → Int32} {lo : Nat → Int32} {up : Nat → Int32} {X : va_W} {x : Nat} {y : Int32} {ou : Nat} {oF : Nat → Int64} (hn : n ≤ 40) (hx : x < n) (hb : ¬ okU n y) : CW yL_order cL_order 5 (some .int) [(0, 10, 13, 21)] ({ frames := 8, cells := 1, slots := 6, locals := 153 } : Room) κ [.ref (a 0), .int (nI x), .int y, .ref ou] (wC κ a n dug dtd so ph uf ul r ki lt er mz bd bo me dE eE lE li fB fA sL f fu fs ff fl xs ys zs oL oU lo up ((ou, .inl (kJ κ, 1, .inr (.inl oF))) :: X)) (aD (some (.int (nI 1))) (wC κ a n dug dtd so ph uf ul r ki lt er mz bd bo me dE eE lE li fB fA sL f fu fs ff fl xs ys zs oL oU lo up ((ou, .inl (kJ κ, 1, .inr (.inl oF))) :: X))) := by
  refine cw_entry (own := RL) (L := [(0, .ref (a 0)), (1, .int (nI x)), (2, .int y), (3, .ref ou)]) (by decide +kernel) rfl (lv_entry [.ref (a 0), .int (nI x), .int y, .ref ou] (n := 5) (Nat.le_of_ble_eq_true rfl)) (fun g C E hT => ?_)
  refine a_aloadn (pc := 0) C 3 rfl rfl dL_order_0 ?_
  refine a_iconst (pc := 1) (v := nI 0) C ci_0 dL_order_1 ?_
  refine a_aloadn (pc := 2) C 0 rfl rfl dL_order_2 ?_
  refine a_iloadn (pc := 3) C 1 rfl rfl dL_order_3 ?_
  refine a_iloadn (pc := 4) C 2 rfl rfl dL_order_4 ?_
  refine a_xV (pc := 5) C (c_X5_order_b2 κ a hn hx hb) yv_X5_order ml_L_36 wi_X5_order wl_X5_order 0 rfl rfl rfl rfl (Nat.le_of_ble_eq_true rfl) (Nat.le_of_ble_eq_true rfl) (Nat.le_of_ble_eq_true rfl) ⟨(Nat.le_of_ble_eq_true rfl), (Nat.le_of_ble_eq_true rfl)⟩ dL_order_5 (fun e w h => ?_) (fun ro w h => h.elim)
  obtain ⟨rfl, rfl⟩ := h
  refine a_catch (E := xIO) C hT [] [] ⟨0, 10, 13, 21⟩ rfl (fun z hz => by cases hz) (by decide) (by decide) cl_L_21 (by simp [nxC]) (fun qx => ?_)
  refine a_astore (pc := 13) (L' := [(0, .ref (a 0)), (1, .int (nI x)), (2, .int y), (3, .ref ou), (4, .ref qx)]) C (by decide) rfl dL_order_13 ?_
  refine a_iconst (pc := 15) (v := nI 1) C ci_1 dL_order_15 ?_
  exact a_iret (pc := 16) C E (Nat.le_of_ble_eq_true rfl) (Nat.le_of_ble_eq_true rfl) ⟨rfl, rfl⟩ dL_order_16

set_option maxHeartbeats 4000000 in
set_option maxRecDepth 100000 in
theorem c_L_place (κ : aK) (a : Nat → Nat) {n : Nat} {dug : Nat → Bool} {dtd : Nat → Bool} {so : Nat → Int32} {ph : Nat → Int32} {uf : Nat → Int32} {ul : Nat → Int32} {r : Nat} {ki : Nat → Int32} {lt : Nat → Nat} {er : Nat → Nat} {mz : Nat} {bd : Nat → Bool} {bo : Nat → Nat} {me : Nat → Nat → Bool} {dE : Nat → Nat → Bool} {eE : Nat → Nat → Bool} {lE : Nat → Nat → Bool} {li : Nat → Nat → Bool} {fB : Nat → Int32} {fA : Nat → Int32} {sL : Nat → Int32} {f : Nat} {fu : Nat → Nat} {fs : Nat → Int32} {ff : Nat → Int32} {fl : Nat → Int32} {xs : Nat → Int32} {ys : Nat → Int32} {zs : Nat → Int32} {oL : Nat → Int32} {oU : Nat → Int32} {lo : Nat → Int32} {up : Nat → Int32} {X : va_W} {j : Nat} {x : Int32} {y : Int32} {z : Int32} {ou : Nat} {oF : Nat → Int64} (hf : f ≤ 60) (hj : j < f) (g1 : xyB x = true) (g2 : xyB y = true) (g3 : zB z = true) : CW yL_place cL_place 7 (some .int) [(0, 14, 17, 21), (0, 14, 21, 13)] ({ frames := 8, cells := 0, slots := 0, locals := 157 } : Room) κ [.ref (a 0), .int (nI j), .int x, .int y, .int z, .ref ou] (wC κ a n dug dtd so ph uf ul r ki lt er mz bd bo me dE eE lE li fB fA sL f fu fs ff fl xs ys zs oL oU lo up ((ou, .inl (kJ κ, 1, .inr (.inl oF))) :: X)) (aD (some (.int (nI 0))) (wC κ a n dug dtd so ph uf ul r ki lt er mz bd bo me dE eE lE li fB fA sL f fu fs ff fl (va_up xs j x) (va_up ys j y) (va_up zs j z) oL oU lo up ((ou, .inl (kJ κ, 1, .inr (.inl (va_up oF 0 (zs j).toInt64)))) :: X))) := by
  refine cw_entry (own := RL) (L := [(0, .ref (a 0)), (1, .int (nI j)), (2, .int x), (3, .int y), (4, .int z), (5, .ref ou)]) (by decide +kernel) rfl (lv_entry [.ref (a 0), .int (nI j), .int x, .int y, .int z, .ref ou] (n := 7) (Nat.le_of_ble_eq_true rfl)) (fun g C E hT => ?_)
  refine a_aload (pc := 0) C 5 rfl dL_place_0 ?_
  refine a_iconst (pc := 2) (v := nI 0) C ci_0 dL_place_2 ?_
  refine a_aloadn (pc := 3) C 0 rfl rfl dL_place_3 ?_
  refine a_iloadn (pc := 4) C 1 rfl rfl dL_place_4 ?_
  refine a_iloadn (pc := 5) C 2 rfl rfl dL_place_5 ?_
  refine a_iloadn (pc := 6) C 3 rfl rfl dL_place_6 ?_
  refine a_iload (pc := 7) C 4 rfl dL_place_7 ?_
  refine a_callV1 (pc := 9) (k' := 0) (n' := 0) C (c_X5_place κ a hf hj g1 g2 g3) yv_X5_place ml_L_57 wi_X5_place wl_X5_place 0 rfl rfl rfl rfl (Nat.le_of_ble_eq_true rfl) (Nat.le_of_ble_eq_true rfl) (Nat.le_of_ble_eq_true rfl) ⟨(Nat.le_of_ble_eq_true rfl), (Nat.le_of_ble_eq_true rfl)⟩ rfl rfl dL_place_9 ?_
  refine a_i2l (pc := 12) (v := (zs j).toInt64) C rfl dL_place_12 ?_
  refine a_last (pc := 13) (ws' := wC κ a n dug dtd so ph uf ul r ki lt er mz bd bo me dE eE lE li fB fA sL f fu fs ff fl (va_up xs j x) (va_up ys j y) (va_up zs j z) oL oU lo up ((ou, .inl (kJ κ, 1, .inr (.inl (va_up oF 0 ((zs j).toInt64))))) :: X)) C 33 rfl (by omega) (by decide) rfl rfl dL_place_13 ?_
  refine a_goto (pc := 14) (tgt := 25) C (by decide) dL_place_14 ?_
  refine a_iconst (pc := 25) (v := nI 0) C ci_0 dL_place_25 ?_
  refine aw_eq (congrArg (fun zz9 => wC κ a n dug dtd so ph uf ul r ki lt er mz bd bo me dE eE lE li fB fA sL f fu fs ff fl (va_up xs j x) (va_up ys j y) (va_up zs j z) oL oU lo up ((ou, .inl (kJ κ, 1, .inr (.inl zz9))) :: X)) (rfl : (va_up oF 0 ((zs j).toInt64)) = (va_up oF 0 (zs j).toInt64))) ?_
  exact a_iret (pc := 26) C E (Nat.le_of_ble_eq_true rfl) (Nat.le_of_ble_eq_true rfl) ⟨rfl, rfl⟩ dL_place_26

set_option maxHeartbeats 4000000 in
set_option maxRecDepth 100000 in
theorem c_L_place_b1 (κ : aK) (a : Nat → Nat) {n : Nat} {dug : Nat → Bool} {dtd : Nat → Bool} {so : Nat → Int32} {ph : Nat → Int32} {uf : Nat → Int32} {ul : Nat → Int32} {r : Nat} {ki : Nat → Int32} {lt : Nat → Nat} {er : Nat → Nat} {mz : Nat} {bd : Nat → Bool} {bo : Nat → Nat} {me : Nat → Nat → Bool} {dE : Nat → Nat → Bool} {eE : Nat → Nat → Bool} {lE : Nat → Nat → Bool} {li : Nat → Nat → Bool} {fB : Nat → Int32} {fA : Nat → Int32} {sL : Nat → Int32} {f : Nat} {fu : Nat → Nat} {fs : Nat → Int32} {ff : Nat → Int32} {fl : Nat → Int32} {xs : Nat → Int32} {ys : Nat → Int32} {zs : Nat → Int32} {oL : Nat → Int32} {oU : Nat → Int32} {lo : Nat → Int32} {up : Nat → Int32} {X : va_W} {j : Int32} {x : Int32} {y : Int32} {z : Int32} {ou : Nat} {oF : Nat → Int64} (hf : f ≤ 60) (hb : ¬ okU f j) : CW yL_place cL_place 7 (some .int) [(0, 14, 17, 21), (0, 14, 21, 13)] ({ frames := 8, cells := 1, slots := 6, locals := 157 } : Room) κ [.ref (a 0), .int j, .int x, .int y, .int z, .ref ou] (wC κ a n dug dtd so ph uf ul r ki lt er mz bd bo me dE eE lE li fB fA sL f fu fs ff fl xs ys zs oL oU lo up ((ou, .inl (kJ κ, 1, .inr (.inl oF))) :: X)) (aD (some (.int (nI 1))) (wC κ a n dug dtd so ph uf ul r ki lt er mz bd bo me dE eE lE li fB fA sL f fu fs ff fl xs ys zs oL oU lo up ((ou, .inl (kJ κ, 1, .inr (.inl oF))) :: X))) := by
  refine cw_entry (own := RL) (L := [(0, .ref (a 0)), (1, .int j), (2, .int x), (3, .int y), (4, .int z), (5, .ref ou)]) (by decide +kernel) rfl (lv_entry [.ref (a 0), .int j, .int x, .int y, .int z, .ref ou] (n := 7) (Nat.le_of_ble_eq_true rfl)) (fun g C E hT => ?_)
  refine a_aload (pc := 0) C 5 rfl dL_place_0 ?_
  refine a_iconst (pc := 2) (v := nI 0) C ci_0 dL_place_2 ?_
  refine a_aloadn (pc := 3) C 0 rfl rfl dL_place_3 ?_
  refine a_iloadn (pc := 4) C 1 rfl rfl dL_place_4 ?_
  refine a_iloadn (pc := 5) C 2 rfl rfl dL_place_5 ?_
  refine a_iloadn (pc := 6) C 3 rfl rfl dL_place_6 ?_
  refine a_iload (pc := 7) C 4 rfl dL_place_7 ?_
  refine a_xV (pc := 9) C (c_X5_place_b1 κ a hf hb) yv_X5_place ml_L_57 wi_X5_place wl_X5_place 0 rfl rfl rfl rfl (Nat.le_of_ble_eq_true rfl) (Nat.le_of_ble_eq_true rfl) (Nat.le_of_ble_eq_true rfl) ⟨(Nat.le_of_ble_eq_true rfl), (Nat.le_of_ble_eq_true rfl)⟩ dL_place_9 (fun e w h => ?_) (fun ro w h => h.elim)
  obtain ⟨rfl, rfl⟩ := h
  refine a_catch (E := xIO) C hT [] [⟨0, 14, 21, 13⟩] ⟨0, 14, 17, 21⟩ rfl (fun z hz => by cases hz) (by decide) (by decide) cl_L_21 (by simp [nxC]) (fun qx => ?_)
  refine a_astore (pc := 17) (L' := [(0, .ref (a 0)), (1, .int j), (2, .int x), (3, .int y), (4, .int z), (5, .ref ou), (6, .ref qx)]) C (by decide) rfl dL_place_17 ?_
  refine a_iconst (pc := 19) (v := nI 1) C ci_1 dL_place_19 ?_
  exact a_iret (pc := 20) C E (Nat.le_of_ble_eq_true rfl) (Nat.le_of_ble_eq_true rfl) ⟨rfl, rfl⟩ dL_place_20

set_option maxHeartbeats 4000000 in
set_option maxRecDepth 100000 in
theorem c_L_place_b2 (κ : aK) (a : Nat → Nat) {n : Nat} {dug : Nat → Bool} {dtd : Nat → Bool} {so : Nat → Int32} {ph : Nat → Int32} {uf : Nat → Int32} {ul : Nat → Int32} {r : Nat} {ki : Nat → Int32} {lt : Nat → Nat} {er : Nat → Nat} {mz : Nat} {bd : Nat → Bool} {bo : Nat → Nat} {me : Nat → Nat → Bool} {dE : Nat → Nat → Bool} {eE : Nat → Nat → Bool} {lE : Nat → Nat → Bool} {li : Nat → Nat → Bool} {fB : Nat → Int32} {fA : Nat → Int32} {sL : Nat → Int32} {f : Nat} {fu : Nat → Nat} {fs : Nat → Int32} {ff : Nat → Int32} {fl : Nat → Int32} {xs : Nat → Int32} {ys : Nat → Int32} {zs : Nat → Int32} {oL : Nat → Int32} {oU : Nat → Int32} {lo : Nat → Int32} {up : Nat → Int32} {X : va_W} {j : Nat} {x : Int32} {y : Int32} {z : Int32} {ou : Nat} {oF : Nat → Int64} (hf : f ≤ 60) (hj : j < f) (hb : ((xyB x && xyB y) && zB z) = false) : CW yL_place cL_place 7 (some .int) [(0, 14, 17, 21), (0, 14, 21, 13)] ({ frames := 8, cells := 1, slots := 6, locals := 157 } : Room) κ [.ref (a 0), .int (nI j), .int x, .int y, .int z, .ref ou] (wC κ a n dug dtd so ph uf ul r ki lt er mz bd bo me dE eE lE li fB fA sL f fu fs ff fl xs ys zs oL oU lo up ((ou, .inl (kJ κ, 1, .inr (.inl oF))) :: X)) (aD (some (.int (nI 2))) (wC κ a n dug dtd so ph uf ul r ki lt er mz bd bo me dE eE lE li fB fA sL f fu fs ff fl xs ys zs oL oU lo up ((ou, .inl (kJ κ, 1, .inr (.inl oF))) :: X))) := by
  refine cw_entry (own := RL) (L := [(0, .ref (a 0)), (1, .int (nI j)), (2, .int x), (3, .int y), (4, .int z), (5, .ref ou)]) (by decide +kernel) rfl (lv_entry [.ref (a 0), .int (nI j), .int x, .int y, .int z, .ref ou] (n := 7) (Nat.le_of_ble_eq_true rfl)) (fun g C E hT => ?_)
  refine a_aload (pc := 0) C 5 rfl dL_place_0 ?_
  refine a_iconst (pc := 2) (v := nI 0) C ci_0 dL_place_2 ?_
  refine a_aloadn (pc := 3) C 0 rfl rfl dL_place_3 ?_
  refine a_iloadn (pc := 4) C 1 rfl rfl dL_place_4 ?_
  refine a_iloadn (pc := 5) C 2 rfl rfl dL_place_5 ?_
  refine a_iloadn (pc := 6) C 3 rfl rfl dL_place_6 ?_
  refine a_iload (pc := 7) C 4 rfl dL_place_7 ?_
  refine a_xV (pc := 9) C (c_X5_place_b2 κ a hf hj hb) yv_X5_place ml_L_57 wi_X5_place wl_X5_place 0 rfl rfl rfl rfl (Nat.le_of_ble_eq_true rfl) (Nat.le_of_ble_eq_true rfl) (Nat.le_of_ble_eq_true rfl) ⟨(Nat.le_of_ble_eq_true rfl), (Nat.le_of_ble_eq_true rfl)⟩ dL_place_9 (fun e w h => ?_) (fun ro w h => h.elim)
  obtain ⟨rfl, rfl⟩ := h
  refine a_catch (E := xIA) C hT [⟨0, 14, 17, 21⟩] [] ⟨0, 14, 21, 13⟩ rfl (List.forall_mem_cons.mpr ⟨⟨by decide, _, cl_L_21, by simp [nxN]⟩, (fun z hz => by cases hz)⟩) (by decide) (by decide) cl_L_13 (by simp [nxC]) (fun qx => ?_)
  refine a_astore (pc := 21) (L' := [(0, .ref (a 0)), (1, .int (nI j)), (2, .int x), (3, .int y), (4, .int z), (5, .ref ou), (6, .ref qx)]) C (by decide) rfl dL_place_21 ?_
  refine a_iconst (pc := 23) (v := nI 2) C ci_2 dL_place_23 ?_
  exact a_iret (pc := 24) C E (Nat.le_of_ble_eq_true rfl) (Nat.le_of_ble_eq_true rfl) ⟨rfl, rfl⟩ dL_place_24

set_option maxHeartbeats 4000000 in
set_option maxRecDepth 100000 in
theorem c_L_relate (κ : aK) (a : Nat → Nat) {n : Nat} {dug : Nat → Bool} {dtd : Nat → Bool} {so : Nat → Int32} {ph : Nat → Int32} {uf : Nat → Int32} {ul : Nat → Int32} {r : Nat} {ki : Nat → Int32} {lt : Nat → Nat} {er : Nat → Nat} {mz : Nat} {bd : Nat → Bool} {bo : Nat → Nat} {me : Nat → Nat → Bool} {dE : Nat → Nat → Bool} {eE : Nat → Nat → Bool} {lE : Nat → Nat → Bool} {li : Nat → Nat → Bool} {fB : Nat → Int32} {fA : Nat → Int32} {sL : Nat → Int32} {f : Nat} {fu : Nat → Nat} {fs : Nat → Int32} {ff : Nat → Int32} {fl : Nat → Int32} {xs : Nat → Int32} {ys : Nat → Int32} {zs : Nat → Int32} {oL : Nat → Int32} {oU : Nat → Int32} {lo : Nat → Int32} {up : Nat → Int32} {X : va_W} {kd : Int32} {x : Nat} {y : Nat} {ou : Nat} {oF : Nat → Int64} (hk : okU 5 kd) (hx : x < n) (hy : y < n) (hn : n ≤ 40) (hr : r < 80) (hf : f ≤ 60) (hbo : ∀ u, bo u < 40) (hlt : ∀ u, lt u < 40) (her : ∀ u, er u < 40) (hfu : ∀ u, fu u < 40) (h0 : whR so ki lt er bo eE r kd x y = 0) : CW yL_relate cL_relate 6 (some .int) [(0, 12, 15, 13), (0, 12, 19, 21), (0, 12, 23, 15)] ({ frames := 8, cells := 0, slots := 0, locals := 155 } : Room) κ [.ref (a 0), .int kd, .int (nI x), .int (nI y), .ref ou] (wC κ a n dug dtd so ph uf ul r ki lt er mz bd bo me dE eE lE li fB fA sL f fu fs ff fl xs ys zs oL oU lo up ((ou, .inl (kJ κ, 1, .inr (.inl oF))) :: X)) (aD (some (.int (nI 0))) (wC κ a n dug dtd so ph uf ul (r + 1) (va_up ki r kd) (va_up lt r x) (va_up er r y) n (nB (va_up ki r kd) (va_up lt r x) (va_up er r y) bo n (r + 1)) (nJ (va_up ki r kd) (va_up lt r x) (va_up er r y) bo n (r + 1)) (nM (va_up ki r kd) (va_up lt r x) (va_up er r y) bo n (r + 1) me) (nD (va_up ki r kd) (va_up lt r x) (va_up er r y) bo n (r + 1) dE) (nE (va_up ki r kd) (va_up lt r x) (va_up er r y) bo n (r + 1) dE eE) (nL (va_up ki r kd) (va_up lt r x) (va_up er r y) bo n (r + 1) dE eE lE) (nK (va_up ki r kd) (va_up lt r x) (va_up er r y) bo n (r + 1) dE eE li) (nfB (va_up ki r kd) (va_up lt r x) (va_up er r y) bo n (r + 1) dE eE fB) (nfA (va_up ki r kd) (va_up lt r x) (va_up er r y) bo n (r + 1) dE eE lE fA) sL f fu fs ff fl xs ys zs (nOL dtd uf (nJ (va_up ki r kd) (va_up lt r x) (va_up er r y) bo n (r + 1)) fu ff oL n f) (nOU dtd ul (nJ (va_up ki r kd) (va_up lt r x) (va_up er r y) bo n (r + 1)) oU n) (nLo (nOL dtd uf (nJ (va_up ki r kd) (va_up lt r x) (va_up er r y) bo n (r + 1)) fu ff oL n f) (nE (va_up ki r kd) (va_up lt r x) (va_up er r y) bo n (r + 1) dE eE) lo n) (nUp (nOU dtd ul (nJ (va_up ki r kd) (va_up lt r x) (va_up er r y) bo n (r + 1)) oU n) (nL (va_up ki r kd) (va_up lt r x) (va_up er r y) bo n (r + 1) dE eE lE) up n) ((ou, .inl (kJ κ, 1, .inr (.inl (va_up oF 0 (nI (whR so ki lt er bo eE r kd x y)).toInt64)))) :: X))) := by
  refine cw_entry (own := RL) (L := [(0, .ref (a 0)), (1, .int kd), (2, .int (nI x)), (3, .int (nI y)), (4, .ref ou)]) (by decide +kernel) rfl (lv_entry [.ref (a 0), .int kd, .int (nI x), .int (nI y), .ref ou] (n := 6) (Nat.le_of_ble_eq_true rfl)) (fun g C E hT => ?_)
  refine a_aload (pc := 0) C 4 rfl dL_relate_0 ?_
  refine a_iconst (pc := 2) (v := nI 0) C ci_0 dL_relate_2 ?_
  refine a_aloadn (pc := 3) C 0 rfl rfl dL_relate_3 ?_
  refine a_iloadn (pc := 4) C 1 rfl rfl dL_relate_4 ?_
  refine a_iloadn (pc := 5) C 2 rfl rfl dL_relate_5 ?_
  refine a_iloadn (pc := 6) C 3 rfl rfl dL_relate_6 ?_
  refine a_callV1 (pc := 7) (k' := 0) (n' := 0) C (c_X5_relate κ a hk hx hy hn hr hf hbo hlt her hfu h0) yv_X5_relate ml_L_17 wi_X5_relate wl_X5_relate 0 rfl rfl rfl rfl (Nat.le_of_ble_eq_true rfl) (Nat.le_of_ble_eq_true rfl) (Nat.le_of_ble_eq_true rfl) ⟨(Nat.le_of_ble_eq_true rfl), (Nat.le_of_ble_eq_true rfl)⟩ rfl rfl dL_relate_7 ?_
  refine a_i2l (pc := 10) (v := (nI (whR so ki lt er bo eE r kd x y)).toInt64) C rfl dL_relate_10 ?_
  refine a_last (pc := 11) (ws' := wC κ a n dug dtd so ph uf ul (r + 1) (va_up ki r kd) (va_up lt r x) (va_up er r y) n (nB (va_up ki r kd) (va_up lt r x) (va_up er r y) bo n (r + 1)) (nJ (va_up ki r kd) (va_up lt r x) (va_up er r y) bo n (r + 1)) (nM (va_up ki r kd) (va_up lt r x) (va_up er r y) bo n (r + 1) me) (nD (va_up ki r kd) (va_up lt r x) (va_up er r y) bo n (r + 1) dE) (nE (va_up ki r kd) (va_up lt r x) (va_up er r y) bo n (r + 1) dE eE) (nL (va_up ki r kd) (va_up lt r x) (va_up er r y) bo n (r + 1) dE eE lE) (nK (va_up ki r kd) (va_up lt r x) (va_up er r y) bo n (r + 1) dE eE li) (nfB (va_up ki r kd) (va_up lt r x) (va_up er r y) bo n (r + 1) dE eE fB) (nfA (va_up ki r kd) (va_up lt r x) (va_up er r y) bo n (r + 1) dE eE lE fA) sL f fu fs ff fl xs ys zs (nOL dtd uf (nJ (va_up ki r kd) (va_up lt r x) (va_up er r y) bo n (r + 1)) fu ff oL n f) (nOU dtd ul (nJ (va_up ki r kd) (va_up lt r x) (va_up er r y) bo n (r + 1)) oU n) (nLo (nOL dtd uf (nJ (va_up ki r kd) (va_up lt r x) (va_up er r y) bo n (r + 1)) fu ff oL n f) (nE (va_up ki r kd) (va_up lt r x) (va_up er r y) bo n (r + 1) dE eE) lo n) (nUp (nOU dtd ul (nJ (va_up ki r kd) (va_up lt r x) (va_up er r y) bo n (r + 1)) oU n) (nL (va_up ki r kd) (va_up lt r x) (va_up er r y) bo n (r + 1) dE eE lE) up n) ((ou, .inl (kJ κ, 1, .inr (.inl (va_up oF 0 ((nI (whR so ki lt er bo eE r kd x y)).toInt64))))) :: X)) C 33 rfl (by omega) (by decide) rfl rfl dL_relate_11 ?_
  refine a_goto (pc := 12) (tgt := 27) C (by decide) dL_relate_12 ?_
  refine a_iconst (pc := 27) (v := nI 0) C ci_0 dL_relate_27 ?_
  refine aw_eq (congrArg (fun zz9 => wC κ a n dug dtd so ph uf ul (r + 1) (va_up ki r kd) (va_up lt r x) (va_up er r y) n (nB (va_up ki r kd) (va_up lt r x) (va_up er r y) bo n (r + 1)) (nJ (va_up ki r kd) (va_up lt r x) (va_up er r y) bo n (r + 1)) (nM (va_up ki r kd) (va_up lt r x) (va_up er r y) bo n (r + 1) me) (nD (va_up ki r kd) (va_up lt r x) (va_up er r y) bo n (r + 1) dE) (nE (va_up ki r kd) (va_up lt r x) (va_up er r y) bo n (r + 1) dE eE) (nL (va_up ki r kd) (va_up lt r x) (va_up er r y) bo n (r + 1) dE eE lE) (nK (va_up ki r kd) (va_up lt r x) (va_up er r y) bo n (r + 1) dE eE li) (nfB (va_up ki r kd) (va_up lt r x) (va_up er r y) bo n (r + 1) dE eE fB) (nfA (va_up ki r kd) (va_up lt r x) (va_up er r y) bo n (r + 1) dE eE lE fA) sL f fu fs ff fl xs ys zs (nOL dtd uf (nJ (va_up ki r kd) (va_up lt r x) (va_up er r y) bo n (r + 1)) fu ff oL n f) (nOU dtd ul (nJ (va_up ki r kd) (va_up lt r x) (va_up er r y) bo n (r + 1)) oU n) (nLo (nOL dtd uf (nJ (va_up ki r kd) (va_up lt r x) (va_up er r y) bo n (r + 1)) fu ff oL n f) (nE (va_up ki r kd) (va_up lt r x) (va_up er r y) bo n (r + 1) dE eE) lo n) (nUp (nOU dtd ul (nJ (va_up ki r kd) (va_up lt r x) (va_up er r y) bo n (r + 1)) oU n) (nL (va_up ki r kd) (va_up lt r x) (va_up er r y) bo n (r + 1) dE eE lE) up n) ((ou, .inl (kJ κ, 1, .inr (.inl zz9))) :: X)) (rfl : (va_up oF 0 ((nI (whR so ki lt er bo eE r kd x y)).toInt64)) = (va_up oF 0 (nI (whR so ki lt er bo eE r kd x y)).toInt64))) ?_
  exact a_iret (pc := 28) C E (Nat.le_of_ble_eq_true rfl) (Nat.le_of_ble_eq_true rfl) ⟨rfl, rfl⟩ dL_relate_28

set_option maxHeartbeats 4000000 in
set_option maxRecDepth 100000 in
theorem c_L_relate_r (κ : aK) (a : Nat → Nat) {n : Nat} {dug : Nat → Bool} {dtd : Nat → Bool} {so : Nat → Int32} {ph : Nat → Int32} {uf : Nat → Int32} {ul : Nat → Int32} {r : Nat} {ki : Nat → Int32} {lt : Nat → Nat} {er : Nat → Nat} {mz : Nat} {bd : Nat → Bool} {bo : Nat → Nat} {me : Nat → Nat → Bool} {dE : Nat → Nat → Bool} {eE : Nat → Nat → Bool} {lE : Nat → Nat → Bool} {li : Nat → Nat → Bool} {fB : Nat → Int32} {fA : Nat → Int32} {sL : Nat → Int32} {f : Nat} {fu : Nat → Nat} {fs : Nat → Int32} {ff : Nat → Int32} {fl : Nat → Int32} {xs : Nat → Int32} {ys : Nat → Int32} {zs : Nat → Int32} {oL : Nat → Int32} {oU : Nat → Int32} {lo : Nat → Int32} {up : Nat → Int32} {X : va_W} {kd : Int32} {x : Nat} {y : Nat} {ou : Nat} {oF : Nat → Int64} (hk : okU 5 kd) (hx : x < n) (hy : y < n) (hn : n ≤ 40) (hr : r < 80) (hf : f ≤ 60) (hbo : ∀ u, bo u < 40) (hlt : ∀ u, lt u < 40) (her : ∀ u, er u < 40) (hfu : ∀ u, fu u < 40) (h0 : ¬ whR so ki lt er bo eE r kd x y = 0) : CW yL_relate cL_relate 6 (some .int) [(0, 12, 15, 13), (0, 12, 19, 21), (0, 12, 23, 15)] ({ frames := 8, cells := 0, slots := 0, locals := 155 } : Room) κ [.ref (a 0), .int kd, .int (nI x), .int (nI y), .ref ou] (wC κ a n dug dtd so ph uf ul r ki lt er mz bd bo me dE eE lE li fB fA sL f fu fs ff fl xs ys zs oL oU lo up ((ou, .inl (kJ κ, 1, .inr (.inl oF))) :: X)) (aD (some (.int (nI 0))) (wC κ a n dug dtd so ph uf ul r ki lt er mz bd bo me dE eE lE li fB fA sL f fu fs ff fl xs ys zs oL oU lo up ((ou, .inl (kJ κ, 1, .inr (.inl (va_up oF 0 (nI (whR so ki lt er bo eE r kd x y)).toInt64)))) :: X))) := by
  refine cw_entry (own := RL) (L := [(0, .ref (a 0)), (1, .int kd), (2, .int (nI x)), (3, .int (nI y)), (4, .ref ou)]) (by decide +kernel) rfl (lv_entry [.ref (a 0), .int kd, .int (nI x), .int (nI y), .ref ou] (n := 6) (Nat.le_of_ble_eq_true rfl)) (fun g C E hT => ?_)
  refine a_aload (pc := 0) C 4 rfl dL_relate_0 ?_
  refine a_iconst (pc := 2) (v := nI 0) C ci_0 dL_relate_2 ?_
  refine a_aloadn (pc := 3) C 0 rfl rfl dL_relate_3 ?_
  refine a_iloadn (pc := 4) C 1 rfl rfl dL_relate_4 ?_
  refine a_iloadn (pc := 5) C 2 rfl rfl dL_relate_5 ?_
  refine a_iloadn (pc := 6) C 3 rfl rfl dL_relate_6 ?_
  refine a_callV1 (pc := 7) (k' := 0) (n' := 0) C (c_X5_relate_r κ a hk hx hy hn hr hf hbo hlt her hfu h0) yv_X5_relate ml_L_17 wi_X5_relate wl_X5_relate 0 rfl rfl rfl rfl (Nat.le_of_ble_eq_true rfl) (Nat.le_of_ble_eq_true rfl) (Nat.le_of_ble_eq_true rfl) ⟨(Nat.le_of_ble_eq_true rfl), (Nat.le_of_ble_eq_true rfl)⟩ rfl rfl dL_relate_7 ?_
  refine a_i2l (pc := 10) (v := (nI (whR so ki lt er bo eE r kd x y)).toInt64) C rfl dL_relate_10 ?_
  refine a_last (pc := 11) (ws' := wC κ a n dug dtd so ph uf ul r ki lt er mz bd bo me dE eE lE li fB fA sL f fu fs ff fl xs ys zs oL oU lo up ((ou, .inl (kJ κ, 1, .inr (.inl (va_up oF 0 ((nI (whR so ki lt er bo eE r kd x y)).toInt64))))) :: X)) C 33 rfl (by omega) (by decide) rfl rfl dL_relate_11 ?_
  refine a_goto (pc := 12) (tgt := 27) C (by decide) dL_relate_12 ?_
  refine a_iconst (pc := 27) (v := nI 0) C ci_0 dL_relate_27 ?_
  refine aw_eq (congrArg (fun zz9 => wC κ a n dug dtd so ph uf ul r ki lt er mz bd bo me dE eE lE li fB fA sL f fu fs ff fl xs ys zs oL oU lo up ((ou, .inl (kJ κ, 1, .inr (.inl zz9))) :: X)) (rfl : (va_up oF 0 ((nI (whR so ki lt er bo eE r kd x y)).toInt64)) = (va_up oF 0 (nI (whR so ki lt er bo eE r kd x y)).toInt64))) ?_
  exact a_iret (pc := 28) C E (Nat.le_of_ble_eq_true rfl) (Nat.le_of_ble_eq_true rfl) ⟨rfl, rfl⟩ dL_relate_28

set_option maxHeartbeats 4000000 in
set_option maxRecDepth 100000 in
theorem c_L_relate_b1 (κ : aK) (a : Nat → Nat) {n : Nat} {dug : Nat → Bool} {dtd : Nat → Bool} {so : Nat → Int32} {ph : Nat → Int32} {uf : Nat → Int32} {ul : Nat → Int32} {r : Nat} {ki : Nat → Int32} {lt : Nat → Nat} {er : Nat → Nat} {mz : Nat} {bd : Nat → Bool} {bo : Nat → Nat} {me : Nat → Nat → Bool} {dE : Nat → Nat → Bool} {eE : Nat → Nat → Bool} {lE : Nat → Nat → Bool} {li : Nat → Nat → Bool} {fB : Nat → Int32} {fA : Nat → Int32} {sL : Nat → Int32} {f : Nat} {fu : Nat → Nat} {fs : Nat → Int32} {ff : Nat → Int32} {fl : Nat → Int32} {xs : Nat → Int32} {ys : Nat → Int32} {zs : Nat → Int32} {oL : Nat → Int32} {oU : Nat → Int32} {lo : Nat → Int32} {up : Nat → Int32} {X : va_W} {kd : Int32} {x : Int32} {y : Int32} {ou : Nat} {oF : Nat → Int64} (hb : ¬ okU 5 kd) : CW yL_relate cL_relate 6 (some .int) [(0, 12, 15, 13), (0, 12, 19, 21), (0, 12, 23, 15)] ({ frames := 8, cells := 1, slots := 6, locals := 155 } : Room) κ [.ref (a 0), .int kd, .int x, .int y, .ref ou] (wC κ a n dug dtd so ph uf ul r ki lt er mz bd bo me dE eE lE li fB fA sL f fu fs ff fl xs ys zs oL oU lo up ((ou, .inl (kJ κ, 1, .inr (.inl oF))) :: X)) (aD (some (.int (nI 1))) (wC κ a n dug dtd so ph uf ul r ki lt er mz bd bo me dE eE lE li fB fA sL f fu fs ff fl xs ys zs oL oU lo up ((ou, .inl (kJ κ, 1, .inr (.inl oF))) :: X))) := by
  refine cw_entry (own := RL) (L := [(0, .ref (a 0)), (1, .int kd), (2, .int x), (3, .int y), (4, .ref ou)]) (by decide +kernel) rfl (lv_entry [.ref (a 0), .int kd, .int x, .int y, .ref ou] (n := 6) (Nat.le_of_ble_eq_true rfl)) (fun g C E hT => ?_)
  refine a_aload (pc := 0) C 4 rfl dL_relate_0 ?_
  refine a_iconst (pc := 2) (v := nI 0) C ci_0 dL_relate_2 ?_
  refine a_aloadn (pc := 3) C 0 rfl rfl dL_relate_3 ?_
  refine a_iloadn (pc := 4) C 1 rfl rfl dL_relate_4 ?_
  refine a_iloadn (pc := 5) C 2 rfl rfl dL_relate_5 ?_
  refine a_iloadn (pc := 6) C 3 rfl rfl dL_relate_6 ?_
  refine a_xV (pc := 7) C (c_X5_relate_b1 κ a hb) yv_X5_relate ml_L_17 wi_X5_relate wl_X5_relate 0 rfl rfl rfl rfl (Nat.le_of_ble_eq_true rfl) (Nat.le_of_ble_eq_true rfl) (Nat.le_of_ble_eq_true rfl) ⟨(Nat.le_of_ble_eq_true rfl), (Nat.le_of_ble_eq_true rfl)⟩ dL_relate_7 (fun e w h => ?_) (fun ro w h => h.elim)
  obtain ⟨rfl, rfl⟩ := h
  refine a_catch (E := xIA) C hT [] [⟨0, 12, 19, 21⟩, ⟨0, 12, 23, 15⟩] ⟨0, 12, 15, 13⟩ rfl (fun z hz => by cases hz) (by decide) (by decide) cl_L_13 (by simp [nxC]) (fun qx => ?_)
  refine a_astore (pc := 15) (L' := [(0, .ref (a 0)), (1, .int kd), (2, .int x), (3, .int y), (4, .ref ou), (5, .ref qx)]) C (by decide) rfl dL_relate_15 ?_
  refine a_iconst (pc := 17) (v := nI 1) C ci_1 dL_relate_17 ?_
  exact a_iret (pc := 18) C E (Nat.le_of_ble_eq_true rfl) (Nat.le_of_ble_eq_true rfl) ⟨rfl, rfl⟩ dL_relate_18

set_option maxHeartbeats 4000000 in
set_option maxRecDepth 100000 in
theorem c_L_relate_b2 (κ : aK) (a : Nat → Nat) {n : Nat} {dug : Nat → Bool} {dtd : Nat → Bool} {so : Nat → Int32} {ph : Nat → Int32} {uf : Nat → Int32} {ul : Nat → Int32} {r : Nat} {ki : Nat → Int32} {lt : Nat → Nat} {er : Nat → Nat} {mz : Nat} {bd : Nat → Bool} {bo : Nat → Nat} {me : Nat → Nat → Bool} {dE : Nat → Nat → Bool} {eE : Nat → Nat → Bool} {lE : Nat → Nat → Bool} {li : Nat → Nat → Bool} {fB : Nat → Int32} {fA : Nat → Int32} {sL : Nat → Int32} {f : Nat} {fu : Nat → Nat} {fs : Nat → Int32} {ff : Nat → Int32} {fl : Nat → Int32} {xs : Nat → Int32} {ys : Nat → Int32} {zs : Nat → Int32} {oL : Nat → Int32} {oU : Nat → Int32} {lo : Nat → Int32} {up : Nat → Int32} {X : va_W} {kd : Int32} {x : Int32} {y : Int32} {ou : Nat} {oF : Nat → Int64} (hk : okU 5 kd) (hn : n ≤ 40) (hb : ¬ okU n x) : CW yL_relate cL_relate 6 (some .int) [(0, 12, 15, 13), (0, 12, 19, 21), (0, 12, 23, 15)] ({ frames := 8, cells := 1, slots := 6, locals := 155 } : Room) κ [.ref (a 0), .int kd, .int x, .int y, .ref ou] (wC κ a n dug dtd so ph uf ul r ki lt er mz bd bo me dE eE lE li fB fA sL f fu fs ff fl xs ys zs oL oU lo up ((ou, .inl (kJ κ, 1, .inr (.inl oF))) :: X)) (aD (some (.int (nI 2))) (wC κ a n dug dtd so ph uf ul r ki lt er mz bd bo me dE eE lE li fB fA sL f fu fs ff fl xs ys zs oL oU lo up ((ou, .inl (kJ κ, 1, .inr (.inl oF))) :: X))) := by
  refine cw_entry (own := RL) (L := [(0, .ref (a 0)), (1, .int kd), (2, .int x), (3, .int y), (4, .ref ou)]) (by decide +kernel) rfl (lv_entry [.ref (a 0), .int kd, .int x, .int y, .ref ou] (n := 6) (Nat.le_of_ble_eq_true rfl)) (fun g C E hT => ?_)
  refine a_aload (pc := 0) C 4 rfl dL_relate_0 ?_
  refine a_iconst (pc := 2) (v := nI 0) C ci_0 dL_relate_2 ?_
  refine a_aloadn (pc := 3) C 0 rfl rfl dL_relate_3 ?_
  refine a_iloadn (pc := 4) C 1 rfl rfl dL_relate_4 ?_
  refine a_iloadn (pc := 5) C 2 rfl rfl dL_relate_5 ?_
  refine a_iloadn (pc := 6) C 3 rfl rfl dL_relate_6 ?_
  refine a_xV (pc := 7) C (c_X5_relate_b2 κ a hk hn hb) yv_X5_relate ml_L_17 wi_X5_relate wl_X5_relate 0 rfl rfl rfl rfl (Nat.le_of_ble_eq_true rfl) (Nat.le_of_ble_eq_true rfl) (Nat.le_of_ble_eq_true rfl) ⟨(Nat.le_of_ble_eq_true rfl), (Nat.le_of_ble_eq_true rfl)⟩ dL_relate_7 (fun e w h => ?_) (fun ro w h => h.elim)
  obtain ⟨rfl, rfl⟩ := h
  refine a_catch (E := xIO) C hT [⟨0, 12, 15, 13⟩] [⟨0, 12, 23, 15⟩] ⟨0, 12, 19, 21⟩ rfl (List.forall_mem_cons.mpr ⟨⟨by decide, _, cl_L_13, by simp [nxN]⟩, (fun z hz => by cases hz)⟩) (by decide) (by decide) cl_L_21 (by simp [nxC]) (fun qx => ?_)
  refine a_astore (pc := 19) (L' := [(0, .ref (a 0)), (1, .int kd), (2, .int x), (3, .int y), (4, .ref ou), (5, .ref qx)]) C (by decide) rfl dL_relate_19 ?_
  refine a_iconst (pc := 21) (v := nI 2) C ci_2 dL_relate_21 ?_
  exact a_iret (pc := 22) C E (Nat.le_of_ble_eq_true rfl) (Nat.le_of_ble_eq_true rfl) ⟨rfl, rfl⟩ dL_relate_22

set_option maxHeartbeats 4000000 in
set_option maxRecDepth 100000 in
theorem c_L_relate_b3 (κ : aK) (a : Nat → Nat) {n : Nat} {dug : Nat → Bool} {dtd : Nat → Bool} {so : Nat → Int32} {ph : Nat → Int32} {uf : Nat → Int32} {ul : Nat → Int32} {r : Nat} {ki : Nat → Int32} {lt : Nat → Nat} {er : Nat → Nat} {mz : Nat} {bd : Nat → Bool} {bo : Nat → Nat} {me : Nat → Nat → Bool} {dE : Nat → Nat → Bool} {eE : Nat → Nat → Bool} {lE : Nat → Nat → Bool} {li : Nat → Nat → Bool} {fB : Nat → Int32} {fA : Nat → Int32} {sL : Nat → Int32} {f : Nat} {fu : Nat → Nat} {fs : Nat → Int32} {ff : Nat → Int32} {fl : Nat → Int32} {xs : Nat → Int32} {ys : Nat → Int32} {zs : Nat → Int32} {oL : Nat → Int32} {oU : Nat → Int32} {lo : Nat → Int32} {up : Nat → Int32} {X : va_W} {kd : Int32} {x : Nat} {y : Int32} {ou : Nat} {oF : Nat → Int64} (hk : okU 5 kd) (hn : n ≤ 40) (hx : x < n) (hb : ¬ okU n y) : CW yL_relate cL_relate 6 (some .int) [(0, 12, 15, 13), (0, 12, 19, 21), (0, 12, 23, 15)] ({ frames := 8, cells := 1, slots := 6, locals := 155 } : Room) κ [.ref (a 0), .int kd, .int (nI x), .int y, .ref ou] (wC κ a n dug dtd so ph uf ul r ki lt er mz bd bo me dE eE lE li fB fA sL f fu fs ff fl xs ys zs oL oU lo up ((ou, .inl (kJ κ, 1, .inr (.inl oF))) :: X)) (aD (some (.int (nI 2))) (wC κ a n dug dtd so ph uf ul r ki lt er mz bd bo me dE eE lE li fB fA sL f fu fs ff fl xs ys zs oL oU lo up ((ou, .inl (kJ κ, 1, .inr (.inl oF))) :: X))) := by
  refine cw_entry (own := RL) (L := [(0, .ref (a 0)), (1, .int kd), (2, .int (nI x)), (3, .int y), (4, .ref ou)]) (by decide +kernel) rfl (lv_entry [.ref (a 0), .int kd, .int (nI x), .int y, .ref ou] (n := 6) (Nat.le_of_ble_eq_true rfl)) (fun g C E hT => ?_)
  refine a_aload (pc := 0) C 4 rfl dL_relate_0 ?_
  refine a_iconst (pc := 2) (v := nI 0) C ci_0 dL_relate_2 ?_
  refine a_aloadn (pc := 3) C 0 rfl rfl dL_relate_3 ?_
  refine a_iloadn (pc := 4) C 1 rfl rfl dL_relate_4 ?_
  refine a_iloadn (pc := 5) C 2 rfl rfl dL_relate_5 ?_
  refine a_iloadn (pc := 6) C 3 rfl rfl dL_relate_6 ?_
  refine a_xV (pc := 7) C (c_X5_relate_b3 κ a hk hn hx hb) yv_X5_relate ml_L_17 wi_X5_relate wl_X5_relate 0 rfl rfl rfl rfl (Nat.le_of_ble_eq_true rfl) (Nat.le_of_ble_eq_true rfl) (Nat.le_of_ble_eq_true rfl) ⟨(Nat.le_of_ble_eq_true rfl), (Nat.le_of_ble_eq_true rfl)⟩ dL_relate_7 (fun e w h => ?_) (fun ro w h => h.elim)
  obtain ⟨rfl, rfl⟩ := h
  refine a_catch (E := xIO) C hT [⟨0, 12, 15, 13⟩] [⟨0, 12, 23, 15⟩] ⟨0, 12, 19, 21⟩ rfl (List.forall_mem_cons.mpr ⟨⟨by decide, _, cl_L_13, by simp [nxN]⟩, (fun z hz => by cases hz)⟩) (by decide) (by decide) cl_L_21 (by simp [nxC]) (fun qx => ?_)
  refine a_astore (pc := 19) (L' := [(0, .ref (a 0)), (1, .int kd), (2, .int (nI x)), (3, .int y), (4, .ref ou), (5, .ref qx)]) C (by decide) rfl dL_relate_19 ?_
  refine a_iconst (pc := 21) (v := nI 2) C ci_2 dL_relate_21 ?_
  exact a_iret (pc := 22) C E (Nat.le_of_ble_eq_true rfl) (Nat.le_of_ble_eq_true rfl) ⟨rfl, rfl⟩ dL_relate_22

set_option maxHeartbeats 4000000 in
set_option maxRecDepth 100000 in
theorem c_L_relate_b4 (κ : aK) (a : Nat → Nat) {n : Nat} {dug : Nat → Bool} {dtd : Nat → Bool} {so : Nat → Int32} {ph : Nat → Int32} {uf : Nat → Int32} {ul : Nat → Int32} {r : Nat} {ki : Nat → Int32} {lt : Nat → Nat} {er : Nat → Nat} {mz : Nat} {bd : Nat → Bool} {bo : Nat → Nat} {me : Nat → Nat → Bool} {dE : Nat → Nat → Bool} {eE : Nat → Nat → Bool} {lE : Nat → Nat → Bool} {li : Nat → Nat → Bool} {fB : Nat → Int32} {fA : Nat → Int32} {sL : Nat → Int32} {f : Nat} {fu : Nat → Nat} {fs : Nat → Int32} {ff : Nat → Int32} {fl : Nat → Int32} {xs : Nat → Int32} {ys : Nat → Int32} {zs : Nat → Int32} {oL : Nat → Int32} {oU : Nat → Int32} {lo : Nat → Int32} {up : Nat → Int32} {X : va_W} {kd : Int32} {x : Nat} {y : Nat} {ou : Nat} {oF : Nat → Int64} (hk : okU 5 kd) (hn : n ≤ 40) (hx : x < n) (hy : y < n) (hr : r = 80) : CW yL_relate cL_relate 6 (some .int) [(0, 12, 15, 13), (0, 12, 19, 21), (0, 12, 23, 15)] ({ frames := 8, cells := 1, slots := 6, locals := 155 } : Room) κ [.ref (a 0), .int kd, .int (nI x), .int (nI y), .ref ou] (wC κ a n dug dtd so ph uf ul r ki lt er mz bd bo me dE eE lE li fB fA sL f fu fs ff fl xs ys zs oL oU lo up ((ou, .inl (kJ κ, 1, .inr (.inl oF))) :: X)) (aD (some (.int (nI 3))) (wC κ a n dug dtd so ph uf ul r ki lt er mz bd bo me dE eE lE li fB fA sL f fu fs ff fl xs ys zs oL oU lo up ((ou, .inl (kJ κ, 1, .inr (.inl oF))) :: X))) := by
  refine cw_entry (own := RL) (L := [(0, .ref (a 0)), (1, .int kd), (2, .int (nI x)), (3, .int (nI y)), (4, .ref ou)]) (by decide +kernel) rfl (lv_entry [.ref (a 0), .int kd, .int (nI x), .int (nI y), .ref ou] (n := 6) (Nat.le_of_ble_eq_true rfl)) (fun g C E hT => ?_)
  refine a_aload (pc := 0) C 4 rfl dL_relate_0 ?_
  refine a_iconst (pc := 2) (v := nI 0) C ci_0 dL_relate_2 ?_
  refine a_aloadn (pc := 3) C 0 rfl rfl dL_relate_3 ?_
  refine a_iloadn (pc := 4) C 1 rfl rfl dL_relate_4 ?_
  refine a_iloadn (pc := 5) C 2 rfl rfl dL_relate_5 ?_
  refine a_iloadn (pc := 6) C 3 rfl rfl dL_relate_6 ?_
  refine a_xV (pc := 7) C (c_X5_relate_b4 κ a hk hn hx hy hr) yv_X5_relate ml_L_17 wi_X5_relate wl_X5_relate 0 rfl rfl rfl rfl (Nat.le_of_ble_eq_true rfl) (Nat.le_of_ble_eq_true rfl) (Nat.le_of_ble_eq_true rfl) ⟨(Nat.le_of_ble_eq_true rfl), (Nat.le_of_ble_eq_true rfl)⟩ dL_relate_7 (fun e w h => ?_) (fun ro w h => h.elim)
  obtain ⟨rfl, rfl⟩ := h
  refine a_catch (E := xIS) C hT [⟨0, 12, 15, 13⟩, ⟨0, 12, 19, 21⟩] [] ⟨0, 12, 23, 15⟩ rfl (List.forall_mem_cons.mpr ⟨⟨by decide, _, cl_L_13, by simp [nxN]⟩, (List.forall_mem_cons.mpr ⟨⟨by decide, _, cl_L_21, by simp [nxN]⟩, (fun z hz => by cases hz)⟩)⟩) (by decide) (by decide) cl_L_15 (by simp [nxC]) (fun qx => ?_)
  refine a_astore (pc := 23) (L' := [(0, .ref (a 0)), (1, .int kd), (2, .int (nI x)), (3, .int (nI y)), (4, .ref ou), (5, .ref qx)]) C (by decide) rfl dL_relate_23 ?_
  refine a_iconst (pc := 25) (v := nI 3) C ci_3 dL_relate_25 ?_
  exact a_iret (pc := 26) C E (Nat.le_of_ble_eq_true rfl) (Nat.le_of_ble_eq_true rfl) ⟨rfl, rfl⟩ dL_relate_26

set_option maxHeartbeats 4000000 in
set_option maxRecDepth 100000 in
theorem c_L_relation (κ : aK) (a : Nat → Nat) {n : Nat} {dug : Nat → Bool} {dtd : Nat → Bool} {so : Nat → Int32} {ph : Nat → Int32} {uf : Nat → Int32} {ul : Nat → Int32} {r : Nat} {ki : Nat → Int32} {lt : Nat → Nat} {er : Nat → Nat} {mz : Nat} {bd : Nat → Bool} {bo : Nat → Nat} {me : Nat → Nat → Bool} {dE : Nat → Nat → Bool} {eE : Nat → Nat → Bool} {lE : Nat → Nat → Bool} {li : Nat → Nat → Bool} {fB : Nat → Int32} {fA : Nat → Int32} {sL : Nat → Int32} {f : Nat} {fu : Nat → Nat} {fs : Nat → Int32} {ff : Nat → Int32} {fl : Nat → Int32} {xs : Nat → Int32} {ys : Nat → Int32} {zs : Nat → Int32} {oL : Nat → Int32} {oU : Nat → Int32} {lo : Nat → Int32} {up : Nat → Int32} {X : va_W} {j : Nat} {q : Nat} {ou : Nat} {oF : Nat → Int64} (hr : r ≤ 80) (hj : j < r) (hq : q < 3) : CW yL_relation cL_relation 5 (some .int) [(0, 10, 13, 21)] ({ frames := 8, cells := 0, slots := 0, locals := 153 } : Room) κ [.ref (a 0), .int (nI j), .int (nI q), .ref ou] (wC κ a n dug dtd so ph uf ul r ki lt er mz bd bo me dE eE lE li fB fA sL f fu fs ff fl xs ys zs oL oU lo up ((ou, .inl (kJ κ, 1, .inr (.inl oF))) :: X)) (aD (some (.int (nI 0))) (wC κ a n dug dtd so ph uf ul r ki lt er mz bd bo me dE eE lE li fB fA sL f fu fs ff fl xs ys zs oL oU lo up ((ou, .inl (kJ κ, 1, .inr (.inl (va_up oF 0 (rtR ki lt er j q).toInt64)))) :: X))) := by
  refine cw_entry (own := RL) (L := [(0, .ref (a 0)), (1, .int (nI j)), (2, .int (nI q)), (3, .ref ou)]) (by decide +kernel) rfl (lv_entry [.ref (a 0), .int (nI j), .int (nI q), .ref ou] (n := 5) (Nat.le_of_ble_eq_true rfl)) (fun g C E hT => ?_)
  refine a_aloadn (pc := 0) C 3 rfl rfl dL_relation_0 ?_
  refine a_iconst (pc := 1) (v := nI 0) C ci_0 dL_relation_1 ?_
  refine a_aloadn (pc := 2) C 0 rfl rfl dL_relation_2 ?_
  refine a_iloadn (pc := 3) C 1 rfl rfl dL_relation_3 ?_
  refine a_iloadn (pc := 4) C 2 rfl rfl dL_relation_4 ?_
  refine a_callV1 (pc := 5) (k' := 0) (n' := 0) C (c_X5_relation κ a hr hj hq) yv_X5_relation ml_L_26 wi_X5_relation wl_X5_relation 0 rfl rfl rfl rfl (Nat.le_of_ble_eq_true rfl) (Nat.le_of_ble_eq_true rfl) (Nat.le_of_ble_eq_true rfl) ⟨(Nat.le_of_ble_eq_true rfl), (Nat.le_of_ble_eq_true rfl)⟩ rfl rfl dL_relation_5 ?_
  refine a_i2l (pc := 8) (v := (rtR ki lt er j q).toInt64) C rfl dL_relation_8 ?_
  refine a_last (pc := 9) (ws' := wC κ a n dug dtd so ph uf ul r ki lt er mz bd bo me dE eE lE li fB fA sL f fu fs ff fl xs ys zs oL oU lo up ((ou, .inl (kJ κ, 1, .inr (.inl (va_up oF 0 ((rtR ki lt er j q).toInt64))))) :: X)) C 33 rfl (by omega) (by decide) rfl rfl dL_relation_9 ?_
  refine a_goto (pc := 10) (tgt := 17) C (by decide) dL_relation_10 ?_
  refine a_iconst (pc := 17) (v := nI 0) C ci_0 dL_relation_17 ?_
  refine aw_eq (congrArg (fun zz9 => wC κ a n dug dtd so ph uf ul r ki lt er mz bd bo me dE eE lE li fB fA sL f fu fs ff fl xs ys zs oL oU lo up ((ou, .inl (kJ κ, 1, .inr (.inl zz9))) :: X)) (rfl : (va_up oF 0 ((rtR ki lt er j q).toInt64)) = (va_up oF 0 (rtR ki lt er j q).toInt64))) ?_
  exact a_iret (pc := 18) C E (Nat.le_of_ble_eq_true rfl) (Nat.le_of_ble_eq_true rfl) ⟨rfl, rfl⟩ dL_relation_18

set_option maxHeartbeats 4000000 in
set_option maxRecDepth 100000 in
theorem c_L_relation_b1 (κ : aK) (a : Nat → Nat) {n : Nat} {dug : Nat → Bool} {dtd : Nat → Bool} {so : Nat → Int32} {ph : Nat → Int32} {uf : Nat → Int32} {ul : Nat → Int32} {r : Nat} {ki : Nat → Int32} {lt : Nat → Nat} {er : Nat → Nat} {mz : Nat} {bd : Nat → Bool} {bo : Nat → Nat} {me : Nat → Nat → Bool} {dE : Nat → Nat → Bool} {eE : Nat → Nat → Bool} {lE : Nat → Nat → Bool} {li : Nat → Nat → Bool} {fB : Nat → Int32} {fA : Nat → Int32} {sL : Nat → Int32} {f : Nat} {fu : Nat → Nat} {fs : Nat → Int32} {ff : Nat → Int32} {fl : Nat → Int32} {xs : Nat → Int32} {ys : Nat → Int32} {zs : Nat → Int32} {oL : Nat → Int32} {oU : Nat → Int32} {lo : Nat → Int32} {up : Nat → Int32} {X : va_W} {x : Int32} {y : Int32} {ou : Nat} {oF : Nat → Int64} (hr : r ≤ 80) (hb : ¬ okU r x) : CW yL_relation cL_relation 5 (some .int) [(0, 10, 13, 21)] ({ frames := 8, cells := 1, slots := 6, locals := 153 } : Room) κ [.ref (a 0), .int x, .int y, .ref ou] (wC κ a n dug dtd so ph uf ul r ki lt er mz bd bo me dE eE lE li fB fA sL f fu fs ff fl xs ys zs oL oU lo up ((ou, .inl (kJ κ, 1, .inr (.inl oF))) :: X)) (aD (some (.int (nI 1))) (wC κ a n dug dtd so ph uf ul r ki lt er mz bd bo me dE eE lE li fB fA sL f fu fs ff fl xs ys zs oL oU lo up ((ou, .inl (kJ κ, 1, .inr (.inl oF))) :: X))) := by
  refine cw_entry (own := RL) (L := [(0, .ref (a 0)), (1, .int x), (2, .int y), (3, .ref ou)]) (by decide +kernel) rfl (lv_entry [.ref (a 0), .int x, .int y, .ref ou] (n := 5) (Nat.le_of_ble_eq_true rfl)) (fun g C E hT => ?_)
  refine a_aloadn (pc := 0) C 3 rfl rfl dL_relation_0 ?_
  refine a_iconst (pc := 1) (v := nI 0) C ci_0 dL_relation_1 ?_
  refine a_aloadn (pc := 2) C 0 rfl rfl dL_relation_2 ?_
  refine a_iloadn (pc := 3) C 1 rfl rfl dL_relation_3 ?_
  refine a_iloadn (pc := 4) C 2 rfl rfl dL_relation_4 ?_
  refine a_xV (pc := 5) C (c_X5_relation_b1 κ a hr hb) yv_X5_relation ml_L_26 wi_X5_relation wl_X5_relation 0 rfl rfl rfl rfl (Nat.le_of_ble_eq_true rfl) (Nat.le_of_ble_eq_true rfl) (Nat.le_of_ble_eq_true rfl) ⟨(Nat.le_of_ble_eq_true rfl), (Nat.le_of_ble_eq_true rfl)⟩ dL_relation_5 (fun e w h => ?_) (fun ro w h => h.elim)
  obtain ⟨rfl, rfl⟩ := h
  refine a_catch (E := xIO) C hT [] [] ⟨0, 10, 13, 21⟩ rfl (fun z hz => by cases hz) (by decide) (by decide) cl_L_21 (by simp [nxC]) (fun qx => ?_)
  refine a_astore (pc := 13) (L' := [(0, .ref (a 0)), (1, .int x), (2, .int y), (3, .ref ou), (4, .ref qx)]) C (by decide) rfl dL_relation_13 ?_
  refine a_iconst (pc := 15) (v := nI 1) C ci_1 dL_relation_15 ?_
  exact a_iret (pc := 16) C E (Nat.le_of_ble_eq_true rfl) (Nat.le_of_ble_eq_true rfl) ⟨rfl, rfl⟩ dL_relation_16

set_option maxHeartbeats 4000000 in
set_option maxRecDepth 100000 in
theorem c_L_relation_b2 (κ : aK) (a : Nat → Nat) {n : Nat} {dug : Nat → Bool} {dtd : Nat → Bool} {so : Nat → Int32} {ph : Nat → Int32} {uf : Nat → Int32} {ul : Nat → Int32} {r : Nat} {ki : Nat → Int32} {lt : Nat → Nat} {er : Nat → Nat} {mz : Nat} {bd : Nat → Bool} {bo : Nat → Nat} {me : Nat → Nat → Bool} {dE : Nat → Nat → Bool} {eE : Nat → Nat → Bool} {lE : Nat → Nat → Bool} {li : Nat → Nat → Bool} {fB : Nat → Int32} {fA : Nat → Int32} {sL : Nat → Int32} {f : Nat} {fu : Nat → Nat} {fs : Nat → Int32} {ff : Nat → Int32} {fl : Nat → Int32} {xs : Nat → Int32} {ys : Nat → Int32} {zs : Nat → Int32} {oL : Nat → Int32} {oU : Nat → Int32} {lo : Nat → Int32} {up : Nat → Int32} {X : va_W} {j : Nat} {y : Int32} {ou : Nat} {oF : Nat → Int64} (hr : r ≤ 80) (hj : j < r) (hb : ¬ okU 3 y) : CW yL_relation cL_relation 5 (some .int) [(0, 10, 13, 21)] ({ frames := 8, cells := 1, slots := 6, locals := 153 } : Room) κ [.ref (a 0), .int (nI j), .int y, .ref ou] (wC κ a n dug dtd so ph uf ul r ki lt er mz bd bo me dE eE lE li fB fA sL f fu fs ff fl xs ys zs oL oU lo up ((ou, .inl (kJ κ, 1, .inr (.inl oF))) :: X)) (aD (some (.int (nI 1))) (wC κ a n dug dtd so ph uf ul r ki lt er mz bd bo me dE eE lE li fB fA sL f fu fs ff fl xs ys zs oL oU lo up ((ou, .inl (kJ κ, 1, .inr (.inl oF))) :: X))) := by
  refine cw_entry (own := RL) (L := [(0, .ref (a 0)), (1, .int (nI j)), (2, .int y), (3, .ref ou)]) (by decide +kernel) rfl (lv_entry [.ref (a 0), .int (nI j), .int y, .ref ou] (n := 5) (Nat.le_of_ble_eq_true rfl)) (fun g C E hT => ?_)
  refine a_aloadn (pc := 0) C 3 rfl rfl dL_relation_0 ?_
  refine a_iconst (pc := 1) (v := nI 0) C ci_0 dL_relation_1 ?_
  refine a_aloadn (pc := 2) C 0 rfl rfl dL_relation_2 ?_
  refine a_iloadn (pc := 3) C 1 rfl rfl dL_relation_3 ?_
  refine a_iloadn (pc := 4) C 2 rfl rfl dL_relation_4 ?_
  refine a_xV (pc := 5) C (c_X5_relation_b2 κ a hr hj hb) yv_X5_relation ml_L_26 wi_X5_relation wl_X5_relation 0 rfl rfl rfl rfl (Nat.le_of_ble_eq_true rfl) (Nat.le_of_ble_eq_true rfl) (Nat.le_of_ble_eq_true rfl) ⟨(Nat.le_of_ble_eq_true rfl), (Nat.le_of_ble_eq_true rfl)⟩ dL_relation_5 (fun e w h => ?_) (fun ro w h => h.elim)
  obtain ⟨rfl, rfl⟩ := h
  refine a_catch (E := xIO) C hT [] [] ⟨0, 10, 13, 21⟩ rfl (fun z hz => by cases hz) (by decide) (by decide) cl_L_21 (by simp [nxC]) (fun qx => ?_)
  refine a_astore (pc := 13) (L' := [(0, .ref (a 0)), (1, .int (nI j)), (2, .int y), (3, .ref ou), (4, .ref qx)]) C (by decide) rfl dL_relation_13 ?_
  refine a_iconst (pc := 15) (v := nI 1) C ci_1 dL_relation_15 ?_
  exact a_iret (pc := 16) C E (Nat.le_of_ble_eq_true rfl) (Nat.le_of_ble_eq_true rfl) ⟨rfl, rfl⟩ dL_relation_16

set_option maxHeartbeats 4000000 in
set_option maxRecDepth 100000 in
theorem c_L_row (κ : aK) (a : Nat → Nat) {n : Nat} {dug : Nat → Bool} {dtd : Nat → Bool} {so : Nat → Int32} {ph : Nat → Int32} {uf : Nat → Int32} {ul : Nat → Int32} {r : Nat} {ki : Nat → Int32} {lt : Nat → Nat} {er : Nat → Nat} {mz : Nat} {bd : Nat → Bool} {bo : Nat → Nat} {me : Nat → Nat → Bool} {dE : Nat → Nat → Bool} {eE : Nat → Nat → Bool} {lE : Nat → Nat → Bool} {li : Nat → Nat → Bool} {fB : Nat → Int32} {fA : Nat → Int32} {sL : Nat → Int32} {f : Nat} {fu : Nat → Nat} {fs : Nat → Int32} {ff : Nat → Int32} {fl : Nat → Int32} {xs : Nat → Int32} {ys : Nat → Int32} {zs : Nat → Int32} {oL : Nat → Int32} {oU : Nat → Int32} {lo : Nat → Int32} {up : Nat → Int32} {X : va_W} {x : Nat} {isB : Bool} {y : Nat} {ou : Nat} {oF : Nat → Int64} (hm : mz ≤ 40) (hx : x < 40) (hy : y < 40) : CW yL_row cL_row 6 (some .int) [(0, 12, 15, 21)] ({ frames := 8, cells := 0, slots := 0, locals := 153 } : Room) κ [.ref (a 0), .int (nI x), .int (b2i isB), .int (nI y), .ref ou] (wC κ a n dug dtd so ph uf ul r ki lt er mz bd bo me dE eE lE li fB fA sL f fu fs ff fl xs ys zs oL oU lo up ((ou, .inl (kJ κ, 1, .inr (.inl oF))) :: X)) (aD (some (.int (nI 0))) (wC κ a n dug dtd so ph uf ul r ki lt er mz bd bo me dE eE lE li fB fA sL f fu fs ff fl xs ys zs oL oU lo up ((ou, .inl (kJ κ, 1, .inr (.inl (va_up oF 0 (oI (elA (selS (fun v => bd v && decide ((if isB = true then fB else fA) v = nI x)) mz) y 40)).toInt64)))) :: X))) := by
  refine cw_entry (own := RL) (L := [(0, .ref (a 0)), (1, .int (nI x)), (2, .int (b2i isB)), (3, .int (nI y)), (4, .ref ou)]) (by decide +kernel) rfl (lv_entry [.ref (a 0), .int (nI x), .int (b2i isB), .int (nI y), .ref ou] (n := 6) (Nat.le_of_ble_eq_true rfl)) (fun g C E hT => ?_)
  refine a_aload (pc := 0) C 4 rfl dL_row_0 ?_
  refine a_iconst (pc := 2) (v := nI 0) C ci_0 dL_row_2 ?_
  refine a_aloadn (pc := 3) C 0 rfl rfl dL_row_3 ?_
  refine a_iloadn (pc := 4) C 1 rfl rfl dL_row_4 ?_
  refine a_iloadn (pc := 5) C 2 rfl rfl dL_row_5 ?_
  refine a_iloadn (pc := 6) C 3 rfl rfl dL_row_6 ?_
  refine a_callV1 (pc := 7) (k' := 0) (n' := 0) C (c_X5_row κ a hm hx hy) yv_X5_row ml_L_43 wi_X5_row wl_X5_row 0 rfl rfl rfl rfl (Nat.le_of_ble_eq_true rfl) (Nat.le_of_ble_eq_true rfl) (Nat.le_of_ble_eq_true rfl) ⟨(Nat.le_of_ble_eq_true rfl), (Nat.le_of_ble_eq_true rfl)⟩ rfl rfl dL_row_7 ?_
  refine a_i2l (pc := 10) (v := (oI (elA (selS (fun v => bd v && decide ((if isB = true then fB else fA) v = nI x)) mz) y 40)).toInt64) C rfl dL_row_10 ?_
  refine a_last (pc := 11) (ws' := wC κ a n dug dtd so ph uf ul r ki lt er mz bd bo me dE eE lE li fB fA sL f fu fs ff fl xs ys zs oL oU lo up ((ou, .inl (kJ κ, 1, .inr (.inl (va_up oF 0 ((oI (elA (selS (fun v => bd v && decide ((if isB = true then fB else fA) v = nI x)) mz) y 40)).toInt64))))) :: X)) C 33 rfl (by omega) (by decide) rfl rfl dL_row_11 ?_
  refine a_goto (pc := 12) (tgt := 19) C (by decide) dL_row_12 ?_
  refine a_iconst (pc := 19) (v := nI 0) C ci_0 dL_row_19 ?_
  refine aw_eq (congrArg (fun zz9 => wC κ a n dug dtd so ph uf ul r ki lt er mz bd bo me dE eE lE li fB fA sL f fu fs ff fl xs ys zs oL oU lo up ((ou, .inl (kJ κ, 1, .inr (.inl zz9))) :: X)) (rfl : (va_up oF 0 ((oI (elA (selS (fun v => bd v && decide ((if isB = true then fB else fA) v = nI x)) mz) y 40)).toInt64)) = (va_up oF 0 (oI (elA (selS (fun v => bd v && decide ((if isB = true then fB else fA) v = nI x)) mz) y 40)).toInt64))) ?_
  exact a_iret (pc := 20) C E (Nat.le_of_ble_eq_true rfl) (Nat.le_of_ble_eq_true rfl) ⟨rfl, rfl⟩ dL_row_20

set_option maxHeartbeats 4000000 in
set_option maxRecDepth 100000 in
theorem c_L_row_b1 (κ : aK) (a : Nat → Nat) {n : Nat} {dug : Nat → Bool} {dtd : Nat → Bool} {so : Nat → Int32} {ph : Nat → Int32} {uf : Nat → Int32} {ul : Nat → Int32} {r : Nat} {ki : Nat → Int32} {lt : Nat → Nat} {er : Nat → Nat} {mz : Nat} {bd : Nat → Bool} {bo : Nat → Nat} {me : Nat → Nat → Bool} {dE : Nat → Nat → Bool} {eE : Nat → Nat → Bool} {lE : Nat → Nat → Bool} {li : Nat → Nat → Bool} {fB : Nat → Int32} {fA : Nat → Int32} {sL : Nat → Int32} {f : Nat} {fu : Nat → Nat} {fs : Nat → Int32} {ff : Nat → Int32} {fl : Nat → Int32} {xs : Nat → Int32} {ys : Nat → Int32} {zs : Nat → Int32} {oL : Nat → Int32} {oU : Nat → Int32} {lo : Nat → Int32} {up : Nat → Int32} {X : va_W} {x : Int32} {isB : Bool} {y : Int32} {ou : Nat} {oF : Nat → Int64} (hb : ¬ okU 40 x) : CW yL_row cL_row 6 (some .int) [(0, 12, 15, 21)] ({ frames := 8, cells := 1, slots := 6, locals := 153 } : Room) κ [.ref (a 0), .int x, .int (b2i isB), .int y, .ref ou] (wC κ a n dug dtd so ph uf ul r ki lt er mz bd bo me dE eE lE li fB fA sL f fu fs ff fl xs ys zs oL oU lo up ((ou, .inl (kJ κ, 1, .inr (.inl oF))) :: X)) (aD (some (.int (nI 1))) (wC κ a n dug dtd so ph uf ul r ki lt er mz bd bo me dE eE lE li fB fA sL f fu fs ff fl xs ys zs oL oU lo up ((ou, .inl (kJ κ, 1, .inr (.inl oF))) :: X))) := by
  refine cw_entry (own := RL) (L := [(0, .ref (a 0)), (1, .int x), (2, .int (b2i isB)), (3, .int y), (4, .ref ou)]) (by decide +kernel) rfl (lv_entry [.ref (a 0), .int x, .int (b2i isB), .int y, .ref ou] (n := 6) (Nat.le_of_ble_eq_true rfl)) (fun g C E hT => ?_)
  refine a_aload (pc := 0) C 4 rfl dL_row_0 ?_
  refine a_iconst (pc := 2) (v := nI 0) C ci_0 dL_row_2 ?_
  refine a_aloadn (pc := 3) C 0 rfl rfl dL_row_3 ?_
  refine a_iloadn (pc := 4) C 1 rfl rfl dL_row_4 ?_
  refine a_iloadn (pc := 5) C 2 rfl rfl dL_row_5 ?_
  refine a_iloadn (pc := 6) C 3 rfl rfl dL_row_6 ?_
  refine a_xV (pc := 7) C (c_X5_row_b1 κ a hb) yv_X5_row ml_L_43 wi_X5_row wl_X5_row 0 rfl rfl rfl rfl (Nat.le_of_ble_eq_true rfl) (Nat.le_of_ble_eq_true rfl) (Nat.le_of_ble_eq_true rfl) ⟨(Nat.le_of_ble_eq_true rfl), (Nat.le_of_ble_eq_true rfl)⟩ dL_row_7 (fun e w h => ?_) (fun ro w h => h.elim)
  obtain ⟨rfl, rfl⟩ := h
  refine a_catch (E := xIO) C hT [] [] ⟨0, 12, 15, 21⟩ rfl (fun z hz => by cases hz) (by decide) (by decide) cl_L_21 (by simp [nxC]) (fun qx => ?_)
  refine a_astore (pc := 15) (L' := [(0, .ref (a 0)), (1, .int x), (2, .int (b2i isB)), (3, .int y), (4, .ref ou), (5, .ref qx)]) C (by decide) rfl dL_row_15 ?_
  refine a_iconst (pc := 17) (v := nI 1) C ci_1 dL_row_17 ?_
  exact a_iret (pc := 18) C E (Nat.le_of_ble_eq_true rfl) (Nat.le_of_ble_eq_true rfl) ⟨rfl, rfl⟩ dL_row_18

set_option maxHeartbeats 4000000 in
set_option maxRecDepth 100000 in
theorem c_L_row_b2 (κ : aK) (a : Nat → Nat) {n : Nat} {dug : Nat → Bool} {dtd : Nat → Bool} {so : Nat → Int32} {ph : Nat → Int32} {uf : Nat → Int32} {ul : Nat → Int32} {r : Nat} {ki : Nat → Int32} {lt : Nat → Nat} {er : Nat → Nat} {mz : Nat} {bd : Nat → Bool} {bo : Nat → Nat} {me : Nat → Nat → Bool} {dE : Nat → Nat → Bool} {eE : Nat → Nat → Bool} {lE : Nat → Nat → Bool} {li : Nat → Nat → Bool} {fB : Nat → Int32} {fA : Nat → Int32} {sL : Nat → Int32} {f : Nat} {fu : Nat → Nat} {fs : Nat → Int32} {ff : Nat → Int32} {fl : Nat → Int32} {xs : Nat → Int32} {ys : Nat → Int32} {zs : Nat → Int32} {oL : Nat → Int32} {oU : Nat → Int32} {lo : Nat → Int32} {up : Nat → Int32} {X : va_W} {x : Nat} {isB : Bool} {y : Int32} {ou : Nat} {oF : Nat → Int64} (hx : x < 40) (hb : ¬ okU 40 y) : CW yL_row cL_row 6 (some .int) [(0, 12, 15, 21)] ({ frames := 8, cells := 1, slots := 6, locals := 153 } : Room) κ [.ref (a 0), .int (nI x), .int (b2i isB), .int y, .ref ou] (wC κ a n dug dtd so ph uf ul r ki lt er mz bd bo me dE eE lE li fB fA sL f fu fs ff fl xs ys zs oL oU lo up ((ou, .inl (kJ κ, 1, .inr (.inl oF))) :: X)) (aD (some (.int (nI 1))) (wC κ a n dug dtd so ph uf ul r ki lt er mz bd bo me dE eE lE li fB fA sL f fu fs ff fl xs ys zs oL oU lo up ((ou, .inl (kJ κ, 1, .inr (.inl oF))) :: X))) := by
  refine cw_entry (own := RL) (L := [(0, .ref (a 0)), (1, .int (nI x)), (2, .int (b2i isB)), (3, .int y), (4, .ref ou)]) (by decide +kernel) rfl (lv_entry [.ref (a 0), .int (nI x), .int (b2i isB), .int y, .ref ou] (n := 6) (Nat.le_of_ble_eq_true rfl)) (fun g C E hT => ?_)
  refine a_aload (pc := 0) C 4 rfl dL_row_0 ?_
  refine a_iconst (pc := 2) (v := nI 0) C ci_0 dL_row_2 ?_
  refine a_aloadn (pc := 3) C 0 rfl rfl dL_row_3 ?_
  refine a_iloadn (pc := 4) C 1 rfl rfl dL_row_4 ?_
  refine a_iloadn (pc := 5) C 2 rfl rfl dL_row_5 ?_
  refine a_iloadn (pc := 6) C 3 rfl rfl dL_row_6 ?_
  refine a_xV (pc := 7) C (c_X5_row_b2 κ a hx hb) yv_X5_row ml_L_43 wi_X5_row wl_X5_row 0 rfl rfl rfl rfl (Nat.le_of_ble_eq_true rfl) (Nat.le_of_ble_eq_true rfl) (Nat.le_of_ble_eq_true rfl) ⟨(Nat.le_of_ble_eq_true rfl), (Nat.le_of_ble_eq_true rfl)⟩ dL_row_7 (fun e w h => ?_) (fun ro w h => h.elim)
  obtain ⟨rfl, rfl⟩ := h
  refine a_catch (E := xIO) C hT [] [] ⟨0, 12, 15, 21⟩ rfl (fun z hz => by cases hz) (by decide) (by decide) cl_L_21 (by simp [nxC]) (fun qx => ?_)
  refine a_astore (pc := 15) (L' := [(0, .ref (a 0)), (1, .int (nI x)), (2, .int (b2i isB)), (3, .int y), (4, .ref ou), (5, .ref qx)]) C (by decide) rfl dL_row_15 ?_
  refine a_iconst (pc := 17) (v := nI 1) C ci_1 dL_row_17 ?_
  exact a_iret (pc := 18) C E (Nat.le_of_ble_eq_true rfl) (Nat.le_of_ble_eq_true rfl) ⟨rfl, rfl⟩ dL_row_18

set_option maxHeartbeats 4000000 in
set_option maxRecDepth 100000 in
theorem c_L_setPhase (κ : aK) (a : Nat → Nat) {n : Nat} {dug : Nat → Bool} {dtd : Nat → Bool} {so : Nat → Int32} {ph : Nat → Int32} {uf : Nat → Int32} {ul : Nat → Int32} {r : Nat} {ki : Nat → Int32} {lt : Nat → Nat} {er : Nat → Nat} {mz : Nat} {bd : Nat → Bool} {bo : Nat → Nat} {me : Nat → Nat → Bool} {dE : Nat → Nat → Bool} {eE : Nat → Nat → Bool} {lE : Nat → Nat → Bool} {li : Nat → Nat → Bool} {fB : Nat → Int32} {fA : Nat → Int32} {sL : Nat → Int32} {f : Nat} {fu : Nat → Nat} {fs : Nat → Int32} {ff : Nat → Int32} {fl : Nat → Int32} {xs : Nat → Int32} {ys : Nat → Int32} {zs : Nat → Int32} {oL : Nat → Int32} {oU : Nat → Int32} {lo : Nat → Int32} {up : Nat → Int32} {X : va_W} {u : Nat} {p : Int32} {ou : Nat} {oF : Nat → Int64} (hn : n ≤ 40) (hu : u < n) (hp : okU 21 p) : CW yL_setPhase cL_setPhase 5 (some .int) [(0, 10, 13, 21), (0, 10, 17, 13)] ({ frames := 8, cells := 0, slots := 0, locals := 154 } : Room) κ [.ref (a 0), .int (nI u), .int p, .ref ou] (wC κ a n dug dtd so ph uf ul r ki lt er mz bd bo me dE eE lE li fB fA sL f fu fs ff fl xs ys zs oL oU lo up ((ou, .inl (kJ κ, 1, .inr (.inl oF))) :: X)) (aD (some (.int (nI 0))) (wC κ a n dug dtd so (va_up ph u p) uf ul r ki lt er mz bd bo me dE eE lE li fB fA sL f fu fs ff fl xs ys zs oL oU lo up ((ou, .inl (kJ κ, 1, .inr (.inl (va_up oF 0 (ph u).toInt64)))) :: X))) := by
  refine cw_entry (own := RL) (L := [(0, .ref (a 0)), (1, .int (nI u)), (2, .int p), (3, .ref ou)]) (by decide +kernel) rfl (lv_entry [.ref (a 0), .int (nI u), .int p, .ref ou] (n := 5) (Nat.le_of_ble_eq_true rfl)) (fun g C E hT => ?_)
  refine a_aloadn (pc := 0) C 3 rfl rfl dL_setPhase_0 ?_
  refine a_iconst (pc := 1) (v := nI 0) C ci_0 dL_setPhase_1 ?_
  refine a_aloadn (pc := 2) C 0 rfl rfl dL_setPhase_2 ?_
  refine a_iloadn (pc := 3) C 1 rfl rfl dL_setPhase_3 ?_
  refine a_iloadn (pc := 4) C 2 rfl rfl dL_setPhase_4 ?_
  refine a_callV1 (pc := 5) (k' := 0) (n' := 0) C (c_X5_setPhase κ a hn hu hp) yv_X5_setPhase ml_L_85 wi_X5_setPhase wl_X5_setPhase 0 rfl rfl rfl rfl (Nat.le_of_ble_eq_true rfl) (Nat.le_of_ble_eq_true rfl) (Nat.le_of_ble_eq_true rfl) ⟨(Nat.le_of_ble_eq_true rfl), (Nat.le_of_ble_eq_true rfl)⟩ rfl rfl dL_setPhase_5 ?_
  refine a_i2l (pc := 8) (v := (ph u).toInt64) C rfl dL_setPhase_8 ?_
  refine a_last (pc := 9) (ws' := wC κ a n dug dtd so (va_up ph u p) uf ul r ki lt er mz bd bo me dE eE lE li fB fA sL f fu fs ff fl xs ys zs oL oU lo up ((ou, .inl (kJ κ, 1, .inr (.inl (va_up oF 0 ((ph u).toInt64))))) :: X)) C 33 rfl (by omega) (by decide) rfl rfl dL_setPhase_9 ?_
  refine a_goto (pc := 10) (tgt := 21) C (by decide) dL_setPhase_10 ?_
  refine a_iconst (pc := 21) (v := nI 0) C ci_0 dL_setPhase_21 ?_
  refine aw_eq (congrArg (fun zz9 => wC κ a n dug dtd so (va_up ph u p) uf ul r ki lt er mz bd bo me dE eE lE li fB fA sL f fu fs ff fl xs ys zs oL oU lo up ((ou, .inl (kJ κ, 1, .inr (.inl zz9))) :: X)) (rfl : (va_up oF 0 ((ph u).toInt64)) = (va_up oF 0 (ph u).toInt64))) ?_
  exact a_iret (pc := 22) C E (Nat.le_of_ble_eq_true rfl) (Nat.le_of_ble_eq_true rfl) ⟨rfl, rfl⟩ dL_setPhase_22

set_option maxHeartbeats 4000000 in
set_option maxRecDepth 100000 in
theorem c_L_setPhase_b1 (κ : aK) (a : Nat → Nat) {n : Nat} {dug : Nat → Bool} {dtd : Nat → Bool} {so : Nat → Int32} {ph : Nat → Int32} {uf : Nat → Int32} {ul : Nat → Int32} {r : Nat} {ki : Nat → Int32} {lt : Nat → Nat} {er : Nat → Nat} {mz : Nat} {bd : Nat → Bool} {bo : Nat → Nat} {me : Nat → Nat → Bool} {dE : Nat → Nat → Bool} {eE : Nat → Nat → Bool} {lE : Nat → Nat → Bool} {li : Nat → Nat → Bool} {fB : Nat → Int32} {fA : Nat → Int32} {sL : Nat → Int32} {f : Nat} {fu : Nat → Nat} {fs : Nat → Int32} {ff : Nat → Int32} {fl : Nat → Int32} {xs : Nat → Int32} {ys : Nat → Int32} {zs : Nat → Int32} {oL : Nat → Int32} {oU : Nat → Int32} {lo : Nat → Int32} {up : Nat → Int32} {X : va_W} {x : Int32} {p : Int32} {ou : Nat} {oF : Nat → Int64} (hn : n ≤ 40) (hb : ¬ okU n x) : CW yL_setPhase cL_setPhase 5 (some .int) [(0, 10, 13, 21), (0, 10, 17, 13)] ({ frames := 8, cells := 1, slots := 6, locals := 154 } : Room) κ [.ref (a 0), .int x, .int p, .ref ou] (wC κ a n dug dtd so ph uf ul r ki lt er mz bd bo me dE eE lE li fB fA sL f fu fs ff fl xs ys zs oL oU lo up ((ou, .inl (kJ κ, 1, .inr (.inl oF))) :: X)) (aD (some (.int (nI 1))) (wC κ a n dug dtd so ph uf ul r ki lt er mz bd bo me dE eE lE li fB fA sL f fu fs ff fl xs ys zs oL oU lo up ((ou, .inl (kJ κ, 1, .inr (.inl oF))) :: X))) := by
  refine cw_entry (own := RL) (L := [(0, .ref (a 0)), (1, .int x), (2, .int p), (3, .ref ou)]) (by decide +kernel) rfl (lv_entry [.ref (a 0), .int x, .int p, .ref ou] (n := 5) (Nat.le_of_ble_eq_true rfl)) (fun g C E hT => ?_)
  refine a_aloadn (pc := 0) C 3 rfl rfl dL_setPhase_0 ?_
  refine a_iconst (pc := 1) (v := nI 0) C ci_0 dL_setPhase_1 ?_
  refine a_aloadn (pc := 2) C 0 rfl rfl dL_setPhase_2 ?_
  refine a_iloadn (pc := 3) C 1 rfl rfl dL_setPhase_3 ?_
  refine a_iloadn (pc := 4) C 2 rfl rfl dL_setPhase_4 ?_
  refine a_xV (pc := 5) C (c_X5_setPhase_b1 κ a hn hb) yv_X5_setPhase ml_L_85 wi_X5_setPhase wl_X5_setPhase 0 rfl rfl rfl rfl (Nat.le_of_ble_eq_true rfl) (Nat.le_of_ble_eq_true rfl) (Nat.le_of_ble_eq_true rfl) ⟨(Nat.le_of_ble_eq_true rfl), (Nat.le_of_ble_eq_true rfl)⟩ dL_setPhase_5 (fun e w h => ?_) (fun ro w h => h.elim)
  obtain ⟨rfl, rfl⟩ := h
  refine a_catch (E := xIO) C hT [] [⟨0, 10, 17, 13⟩] ⟨0, 10, 13, 21⟩ rfl (fun z hz => by cases hz) (by decide) (by decide) cl_L_21 (by simp [nxC]) (fun qx => ?_)
  refine a_astore (pc := 13) (L' := [(0, .ref (a 0)), (1, .int x), (2, .int p), (3, .ref ou), (4, .ref qx)]) C (by decide) rfl dL_setPhase_13 ?_
  refine a_iconst (pc := 15) (v := nI 1) C ci_1 dL_setPhase_15 ?_
  exact a_iret (pc := 16) C E (Nat.le_of_ble_eq_true rfl) (Nat.le_of_ble_eq_true rfl) ⟨rfl, rfl⟩ dL_setPhase_16

set_option maxHeartbeats 4000000 in
set_option maxRecDepth 100000 in
theorem c_L_setPhase_b2 (κ : aK) (a : Nat → Nat) {n : Nat} {dug : Nat → Bool} {dtd : Nat → Bool} {so : Nat → Int32} {ph : Nat → Int32} {uf : Nat → Int32} {ul : Nat → Int32} {r : Nat} {ki : Nat → Int32} {lt : Nat → Nat} {er : Nat → Nat} {mz : Nat} {bd : Nat → Bool} {bo : Nat → Nat} {me : Nat → Nat → Bool} {dE : Nat → Nat → Bool} {eE : Nat → Nat → Bool} {lE : Nat → Nat → Bool} {li : Nat → Nat → Bool} {fB : Nat → Int32} {fA : Nat → Int32} {sL : Nat → Int32} {f : Nat} {fu : Nat → Nat} {fs : Nat → Int32} {ff : Nat → Int32} {fl : Nat → Int32} {xs : Nat → Int32} {ys : Nat → Int32} {zs : Nat → Int32} {oL : Nat → Int32} {oU : Nat → Int32} {lo : Nat → Int32} {up : Nat → Int32} {X : va_W} {u : Nat} {p : Int32} {ou : Nat} {oF : Nat → Int64} (hn : n ≤ 40) (hu : u < n) (hb : ¬ okU 21 p) : CW yL_setPhase cL_setPhase 5 (some .int) [(0, 10, 13, 21), (0, 10, 17, 13)] ({ frames := 8, cells := 1, slots := 6, locals := 154 } : Room) κ [.ref (a 0), .int (nI u), .int p, .ref ou] (wC κ a n dug dtd so ph uf ul r ki lt er mz bd bo me dE eE lE li fB fA sL f fu fs ff fl xs ys zs oL oU lo up ((ou, .inl (kJ κ, 1, .inr (.inl oF))) :: X)) (aD (some (.int (nI 2))) (wC κ a n dug dtd so ph uf ul r ki lt er mz bd bo me dE eE lE li fB fA sL f fu fs ff fl xs ys zs oL oU lo up ((ou, .inl (kJ κ, 1, .inr (.inl oF))) :: X))) := by
  refine cw_entry (own := RL) (L := [(0, .ref (a 0)), (1, .int (nI u)), (2, .int p), (3, .ref ou)]) (by decide +kernel) rfl (lv_entry [.ref (a 0), .int (nI u), .int p, .ref ou] (n := 5) (Nat.le_of_ble_eq_true rfl)) (fun g C E hT => ?_)
  refine a_aloadn (pc := 0) C 3 rfl rfl dL_setPhase_0 ?_
  refine a_iconst (pc := 1) (v := nI 0) C ci_0 dL_setPhase_1 ?_
  refine a_aloadn (pc := 2) C 0 rfl rfl dL_setPhase_2 ?_
  refine a_iloadn (pc := 3) C 1 rfl rfl dL_setPhase_3 ?_
  refine a_iloadn (pc := 4) C 2 rfl rfl dL_setPhase_4 ?_
  refine a_xV (pc := 5) C (c_X5_setPhase_b2 κ a hn hu hb) yv_X5_setPhase ml_L_85 wi_X5_setPhase wl_X5_setPhase 0 rfl rfl rfl rfl (Nat.le_of_ble_eq_true rfl) (Nat.le_of_ble_eq_true rfl) (Nat.le_of_ble_eq_true rfl) ⟨(Nat.le_of_ble_eq_true rfl), (Nat.le_of_ble_eq_true rfl)⟩ dL_setPhase_5 (fun e w h => ?_) (fun ro w h => h.elim)
  obtain ⟨rfl, rfl⟩ := h
  refine a_catch (E := xIA) C hT [⟨0, 10, 13, 21⟩] [] ⟨0, 10, 17, 13⟩ rfl (List.forall_mem_cons.mpr ⟨⟨by decide, _, cl_L_21, by simp [nxN]⟩, (fun z hz => by cases hz)⟩) (by decide) (by decide) cl_L_13 (by simp [nxC]) (fun qx => ?_)
  refine a_astore (pc := 17) (L' := [(0, .ref (a 0)), (1, .int (nI u)), (2, .int p), (3, .ref ou), (4, .ref qx)]) C (by decide) rfl dL_setPhase_17 ?_
  refine a_iconst (pc := 19) (v := nI 2) C ci_2 dL_setPhase_19 ?_
  exact a_iret (pc := 20) C E (Nat.le_of_ble_eq_true rfl) (Nat.le_of_ble_eq_true rfl) ⟨rfl, rfl⟩ dL_setPhase_20

set_option maxHeartbeats 4000000 in
set_option maxRecDepth 100000 in
theorem c_L_takeBack (κ : aK) (a : Nat → Nat) {n : Nat} {dug : Nat → Bool} {dtd : Nat → Bool} {so : Nat → Int32} {ph : Nat → Int32} {uf : Nat → Int32} {ul : Nat → Int32} {r : Nat} {ki : Nat → Int32} {lt : Nat → Nat} {er : Nat → Nat} {mz : Nat} {bd : Nat → Bool} {bo : Nat → Nat} {me : Nat → Nat → Bool} {dE : Nat → Nat → Bool} {eE : Nat → Nat → Bool} {lE : Nat → Nat → Bool} {li : Nat → Nat → Bool} {fB : Nat → Int32} {fA : Nat → Int32} {sL : Nat → Int32} {f : Nat} {fu : Nat → Nat} {fs : Nat → Int32} {ff : Nat → Int32} {fl : Nat → Int32} {xs : Nat → Int32} {ys : Nat → Int32} {zs : Nat → Int32} {oL : Nat → Int32} {oU : Nat → Int32} {lo : Nat → Int32} {up : Nat → Int32} {X : va_W} {j : Nat} {ou : Nat} {oF : Nat → Int64} (hn : n ≤ 40) (hr : r ≤ 80) (hj : j < r) (hf : f ≤ 60) (hbo : ∀ u, bo u < 40) (hlt : ∀ u, lt u < 40) (her : ∀ u, er u < 40) (hfu : ∀ u, fu u < 40) : CW yL_takeBack cL_takeBack 4 (some .int) [(0, 9, 12, 21)] ({ frames := 8, cells := 0, slots := 0, locals := 152 } : Room) κ [.ref (a 0), .int (nI j), .ref ou] (wC κ a n dug dtd so ph uf ul r ki lt er mz bd bo me dE eE lE li fB fA sL f fu fs ff fl xs ys zs oL oU lo up ((ou, .inl (kJ κ, 1, .inr (.inl oF))) :: X)) (aD (some (.int (nI 0))) (wC κ a n dug dtd so ph uf ul (r - 1) (sft ki j r) (sft lt j r) (sft er j r) n (nB (sft ki j r) (sft lt j r) (sft er j r) bo n (r - 1)) (nJ (sft ki j r) (sft lt j r) (sft er j r) bo n (r - 1)) (nM (sft ki j r) (sft lt j r) (sft er j r) bo n (r - 1) me) (nD (sft ki j r) (sft lt j r) (sft er j r) bo n (r - 1) dE) (nE (sft ki j r) (sft lt j r) (sft er j r) bo n (r - 1) dE eE) (nL (sft ki j r) (sft lt j r) (sft er j r) bo n (r - 1) dE eE lE) (nK (sft ki j r) (sft lt j r) (sft er j r) bo n (r - 1) dE eE li) (nfB (sft ki j r) (sft lt j r) (sft er j r) bo n (r - 1) dE eE fB) (nfA (sft ki j r) (sft lt j r) (sft er j r) bo n (r - 1) dE eE lE fA) sL f fu fs ff fl xs ys zs (nOL dtd uf (nJ (sft ki j r) (sft lt j r) (sft er j r) bo n (r - 1)) fu ff oL n f) (nOU dtd ul (nJ (sft ki j r) (sft lt j r) (sft er j r) bo n (r - 1)) oU n) (nLo (nOL dtd uf (nJ (sft ki j r) (sft lt j r) (sft er j r) bo n (r - 1)) fu ff oL n f) (nE (sft ki j r) (sft lt j r) (sft er j r) bo n (r - 1) dE eE) lo n) (nUp (nOU dtd ul (nJ (sft ki j r) (sft lt j r) (sft er j r) bo n (r - 1)) oU n) (nL (sft ki j r) (sft lt j r) (sft er j r) bo n (r - 1) dE eE lE) up n) ((ou, .inl (kJ κ, 1, .inr (.inl (va_up oF 0 (nI (r - 1)).toInt64)))) :: X))) := by
  refine cw_entry (own := RL) (L := [(0, .ref (a 0)), (1, .int (nI j)), (2, .ref ou)]) (by decide +kernel) rfl (lv_entry [.ref (a 0), .int (nI j), .ref ou] (n := 4) (Nat.le_of_ble_eq_true rfl)) (fun g C E hT => ?_)
  refine a_aloadn (pc := 0) C 2 rfl rfl dL_takeBack_0 ?_
  refine a_iconst (pc := 1) (v := nI 0) C ci_0 dL_takeBack_1 ?_
  refine a_aloadn (pc := 2) C 0 rfl rfl dL_takeBack_2 ?_
  refine a_iloadn (pc := 3) C 1 rfl rfl dL_takeBack_3 ?_
  refine a_callV1 (pc := 4) (k' := 0) (n' := 0) C (c_X5_takeBack κ a hn hr hj hf hbo hlt her hfu) yv_X5_takeBack ml_L_23 wi_X5_takeBack wl_X5_takeBack 0 rfl rfl rfl rfl (Nat.le_of_ble_eq_true rfl) (Nat.le_of_ble_eq_true rfl) (Nat.le_of_ble_eq_true rfl) ⟨(Nat.le_of_ble_eq_true rfl), (Nat.le_of_ble_eq_true rfl)⟩ rfl rfl dL_takeBack_4 ?_
  refine a_i2l (pc := 7) (v := (nI (r - 1)).toInt64) C rfl dL_takeBack_7 ?_
  refine a_last (pc := 8) (ws' := wC κ a n dug dtd so ph uf ul (r - 1) (sft ki j r) (sft lt j r) (sft er j r) n (nB (sft ki j r) (sft lt j r) (sft er j r) bo n (r - 1)) (nJ (sft ki j r) (sft lt j r) (sft er j r) bo n (r - 1)) (nM (sft ki j r) (sft lt j r) (sft er j r) bo n (r - 1) me) (nD (sft ki j r) (sft lt j r) (sft er j r) bo n (r - 1) dE) (nE (sft ki j r) (sft lt j r) (sft er j r) bo n (r - 1) dE eE) (nL (sft ki j r) (sft lt j r) (sft er j r) bo n (r - 1) dE eE lE) (nK (sft ki j r) (sft lt j r) (sft er j r) bo n (r - 1) dE eE li) (nfB (sft ki j r) (sft lt j r) (sft er j r) bo n (r - 1) dE eE fB) (nfA (sft ki j r) (sft lt j r) (sft er j r) bo n (r - 1) dE eE lE fA) sL f fu fs ff fl xs ys zs (nOL dtd uf (nJ (sft ki j r) (sft lt j r) (sft er j r) bo n (r - 1)) fu ff oL n f) (nOU dtd ul (nJ (sft ki j r) (sft lt j r) (sft er j r) bo n (r - 1)) oU n) (nLo (nOL dtd uf (nJ (sft ki j r) (sft lt j r) (sft er j r) bo n (r - 1)) fu ff oL n f) (nE (sft ki j r) (sft lt j r) (sft er j r) bo n (r - 1) dE eE) lo n) (nUp (nOU dtd ul (nJ (sft ki j r) (sft lt j r) (sft er j r) bo n (r - 1)) oU n) (nL (sft ki j r) (sft lt j r) (sft er j r) bo n (r - 1) dE eE lE) up n) ((ou, .inl (kJ κ, 1, .inr (.inl (va_up oF 0 ((nI (r - 1)).toInt64))))) :: X)) C 33 rfl (by omega) (by decide) rfl rfl dL_takeBack_8 ?_
  refine a_goto (pc := 9) (tgt := 15) C (by decide) dL_takeBack_9 ?_
  refine a_iconst (pc := 15) (v := nI 0) C ci_0 dL_takeBack_15 ?_
  refine aw_eq (congrArg (fun zz9 => wC κ a n dug dtd so ph uf ul (r - 1) (sft ki j r) (sft lt j r) (sft er j r) n (nB (sft ki j r) (sft lt j r) (sft er j r) bo n (r - 1)) (nJ (sft ki j r) (sft lt j r) (sft er j r) bo n (r - 1)) (nM (sft ki j r) (sft lt j r) (sft er j r) bo n (r - 1) me) (nD (sft ki j r) (sft lt j r) (sft er j r) bo n (r - 1) dE) (nE (sft ki j r) (sft lt j r) (sft er j r) bo n (r - 1) dE eE) (nL (sft ki j r) (sft lt j r) (sft er j r) bo n (r - 1) dE eE lE) (nK (sft ki j r) (sft lt j r) (sft er j r) bo n (r - 1) dE eE li) (nfB (sft ki j r) (sft lt j r) (sft er j r) bo n (r - 1) dE eE fB) (nfA (sft ki j r) (sft lt j r) (sft er j r) bo n (r - 1) dE eE lE fA) sL f fu fs ff fl xs ys zs (nOL dtd uf (nJ (sft ki j r) (sft lt j r) (sft er j r) bo n (r - 1)) fu ff oL n f) (nOU dtd ul (nJ (sft ki j r) (sft lt j r) (sft er j r) bo n (r - 1)) oU n) (nLo (nOL dtd uf (nJ (sft ki j r) (sft lt j r) (sft er j r) bo n (r - 1)) fu ff oL n f) (nE (sft ki j r) (sft lt j r) (sft er j r) bo n (r - 1) dE eE) lo n) (nUp (nOU dtd ul (nJ (sft ki j r) (sft lt j r) (sft er j r) bo n (r - 1)) oU n) (nL (sft ki j r) (sft lt j r) (sft er j r) bo n (r - 1) dE eE lE) up n) ((ou, .inl (kJ κ, 1, .inr (.inl zz9))) :: X)) (rfl : (va_up oF 0 ((nI (r - 1)).toInt64)) = (va_up oF 0 (nI (r - 1)).toInt64))) ?_
  exact a_iret (pc := 16) C E (Nat.le_of_ble_eq_true rfl) (Nat.le_of_ble_eq_true rfl) ⟨rfl, rfl⟩ dL_takeBack_16

set_option maxHeartbeats 4000000 in
set_option maxRecDepth 100000 in
theorem c_L_takeBack_b1 (κ : aK) (a : Nat → Nat) {n : Nat} {dug : Nat → Bool} {dtd : Nat → Bool} {so : Nat → Int32} {ph : Nat → Int32} {uf : Nat → Int32} {ul : Nat → Int32} {r : Nat} {ki : Nat → Int32} {lt : Nat → Nat} {er : Nat → Nat} {mz : Nat} {bd : Nat → Bool} {bo : Nat → Nat} {me : Nat → Nat → Bool} {dE : Nat → Nat → Bool} {eE : Nat → Nat → Bool} {lE : Nat → Nat → Bool} {li : Nat → Nat → Bool} {fB : Nat → Int32} {fA : Nat → Int32} {sL : Nat → Int32} {f : Nat} {fu : Nat → Nat} {fs : Nat → Int32} {ff : Nat → Int32} {fl : Nat → Int32} {xs : Nat → Int32} {ys : Nat → Int32} {zs : Nat → Int32} {oL : Nat → Int32} {oU : Nat → Int32} {lo : Nat → Int32} {up : Nat → Int32} {X : va_W} {x : Int32} {ou : Nat} {oF : Nat → Int64} (hr : r ≤ 80) (hb : ¬ okU r x) : CW yL_takeBack cL_takeBack 4 (some .int) [(0, 9, 12, 21)] ({ frames := 8, cells := 1, slots := 6, locals := 152 } : Room) κ [.ref (a 0), .int x, .ref ou] (wC κ a n dug dtd so ph uf ul r ki lt er mz bd bo me dE eE lE li fB fA sL f fu fs ff fl xs ys zs oL oU lo up ((ou, .inl (kJ κ, 1, .inr (.inl oF))) :: X)) (aD (some (.int (nI 1))) (wC κ a n dug dtd so ph uf ul r ki lt er mz bd bo me dE eE lE li fB fA sL f fu fs ff fl xs ys zs oL oU lo up ((ou, .inl (kJ κ, 1, .inr (.inl oF))) :: X))) := by
  refine cw_entry (own := RL) (L := [(0, .ref (a 0)), (1, .int x), (2, .ref ou)]) (by decide +kernel) rfl (lv_entry [.ref (a 0), .int x, .ref ou] (n := 4) (Nat.le_of_ble_eq_true rfl)) (fun g C E hT => ?_)
  refine a_aloadn (pc := 0) C 2 rfl rfl dL_takeBack_0 ?_
  refine a_iconst (pc := 1) (v := nI 0) C ci_0 dL_takeBack_1 ?_
  refine a_aloadn (pc := 2) C 0 rfl rfl dL_takeBack_2 ?_
  refine a_iloadn (pc := 3) C 1 rfl rfl dL_takeBack_3 ?_
  refine a_xV (pc := 4) C (c_X5_takeBack_b1 κ a hr hb) yv_X5_takeBack ml_L_23 wi_X5_takeBack wl_X5_takeBack 0 rfl rfl rfl rfl (Nat.le_of_ble_eq_true rfl) (Nat.le_of_ble_eq_true rfl) (Nat.le_of_ble_eq_true rfl) ⟨(Nat.le_of_ble_eq_true rfl), (Nat.le_of_ble_eq_true rfl)⟩ dL_takeBack_4 (fun e w h => ?_) (fun ro w h => h.elim)
  obtain ⟨rfl, rfl⟩ := h
  refine a_catch (E := xIO) C hT [] [] ⟨0, 9, 12, 21⟩ rfl (fun z hz => by cases hz) (by decide) (by decide) cl_L_21 (by simp [nxC]) (fun qx => ?_)
  refine a_astoren (pc := 12) (L' := [(0, .ref (a 0)), (1, .int x), (2, .ref ou), (3, .ref qx)]) C (by decide) rfl rfl dL_takeBack_12 ?_
  refine a_iconst (pc := 13) (v := nI 1) C ci_1 dL_takeBack_13 ?_
  exact a_iret (pc := 14) C E (Nat.le_of_ble_eq_true rfl) (Nat.le_of_ble_eq_true rfl) ⟨rfl, rfl⟩ dL_takeBack_14

set_option maxHeartbeats 4000000 in
set_option maxRecDepth 100000 in
theorem c_L_unit (κ : aK) (a : Nat → Nat) {n : Nat} {dug : Nat → Bool} {dtd : Nat → Bool} {so : Nat → Int32} {ph : Nat → Int32} {uf : Nat → Int32} {ul : Nat → Int32} {r : Nat} {ki : Nat → Int32} {lt : Nat → Nat} {er : Nat → Nat} {mz : Nat} {bd : Nat → Bool} {bo : Nat → Nat} {me : Nat → Nat → Bool} {dE : Nat → Nat → Bool} {eE : Nat → Nat → Bool} {lE : Nat → Nat → Bool} {li : Nat → Nat → Bool} {fB : Nat → Int32} {fA : Nat → Int32} {sL : Nat → Int32} {f : Nat} {fu : Nat → Nat} {fs : Nat → Int32} {ff : Nat → Int32} {fl : Nat → Int32} {xs : Nat → Int32} {ys : Nat → Int32} {zs : Nat → Int32} {oL : Nat → Int32} {oU : Nat → Int32} {lo : Nat → Int32} {up : Nat → Int32} {X : va_W} {j : Nat} {q : Nat} {ou : Nat} {oF : Nat → Int64} (hn : n ≤ 40) (hf : f ≤ 60) (hbo : ∀ u, bo u < 40) (hfu : ∀ u, fu u < 40) (hj : j < n) (hq : q < 10) : CW yL_unit cL_unit 5 (some .int) [(0, 10, 13, 21)] ({ frames := 8, cells := 0, slots := 0, locals := 154 } : Room) κ [.ref (a 0), .int (nI j), .int (nI q), .ref ou] (wC κ a n dug dtd so ph uf ul r ki lt er mz bd bo me dE eE lE li fB fA sL f fu fs ff fl xs ys zs oL oU lo up ((ou, .inl (kJ κ, 1, .inr (.inl oF))) :: X)) (aD (some (.int (nI 0))) (wC κ a n dug dtd so ph uf ul r ki lt er mz bd bo me dE eE lE li fB fA sL f fu fs ff fl xs ys zs oL oU lo up ((ou, .inl (kJ κ, 1, .inr (.inl (va_up oF 0 (utR so ph fB fA bo fu me eE lE dug f j q).toInt64)))) :: X))) := by
  refine cw_entry (own := RL) (L := [(0, .ref (a 0)), (1, .int (nI j)), (2, .int (nI q)), (3, .ref ou)]) (by decide +kernel) rfl (lv_entry [.ref (a 0), .int (nI j), .int (nI q), .ref ou] (n := 5) (Nat.le_of_ble_eq_true rfl)) (fun g C E hT => ?_)
  refine a_aloadn (pc := 0) C 3 rfl rfl dL_unit_0 ?_
  refine a_iconst (pc := 1) (v := nI 0) C ci_0 dL_unit_1 ?_
  refine a_aloadn (pc := 2) C 0 rfl rfl dL_unit_2 ?_
  refine a_iloadn (pc := 3) C 1 rfl rfl dL_unit_3 ?_
  refine a_iloadn (pc := 4) C 2 rfl rfl dL_unit_4 ?_
  refine a_callV1 (pc := 5) (k' := 0) (n' := 0) C (c_X5_unit κ a hn hf hbo hfu hj hq) yv_X5_unit ml_L_33 wi_X5_unit wl_X5_unit 0 rfl rfl rfl rfl (Nat.le_of_ble_eq_true rfl) (Nat.le_of_ble_eq_true rfl) (Nat.le_of_ble_eq_true rfl) ⟨(Nat.le_of_ble_eq_true rfl), (Nat.le_of_ble_eq_true rfl)⟩ rfl rfl dL_unit_5 ?_
  refine a_i2l (pc := 8) (v := (utR so ph fB fA bo fu me eE lE dug f j q).toInt64) C rfl dL_unit_8 ?_
  refine a_last (pc := 9) (ws' := wC κ a n dug dtd so ph uf ul r ki lt er mz bd bo me dE eE lE li fB fA sL f fu fs ff fl xs ys zs oL oU lo up ((ou, .inl (kJ κ, 1, .inr (.inl (va_up oF 0 ((utR so ph fB fA bo fu me eE lE dug f j q).toInt64))))) :: X)) C 33 rfl (by omega) (by decide) rfl rfl dL_unit_9 ?_
  refine a_goto (pc := 10) (tgt := 17) C (by decide) dL_unit_10 ?_
  refine a_iconst (pc := 17) (v := nI 0) C ci_0 dL_unit_17 ?_
  refine aw_eq (congrArg (fun zz9 => wC κ a n dug dtd so ph uf ul r ki lt er mz bd bo me dE eE lE li fB fA sL f fu fs ff fl xs ys zs oL oU lo up ((ou, .inl (kJ κ, 1, .inr (.inl zz9))) :: X)) (rfl : (va_up oF 0 ((utR so ph fB fA bo fu me eE lE dug f j q).toInt64)) = (va_up oF 0 (utR so ph fB fA bo fu me eE lE dug f j q).toInt64))) ?_
  exact a_iret (pc := 18) C E (Nat.le_of_ble_eq_true rfl) (Nat.le_of_ble_eq_true rfl) ⟨rfl, rfl⟩ dL_unit_18

set_option maxHeartbeats 4000000 in
set_option maxRecDepth 100000 in
theorem c_L_unit_b1 (κ : aK) (a : Nat → Nat) {n : Nat} {dug : Nat → Bool} {dtd : Nat → Bool} {so : Nat → Int32} {ph : Nat → Int32} {uf : Nat → Int32} {ul : Nat → Int32} {r : Nat} {ki : Nat → Int32} {lt : Nat → Nat} {er : Nat → Nat} {mz : Nat} {bd : Nat → Bool} {bo : Nat → Nat} {me : Nat → Nat → Bool} {dE : Nat → Nat → Bool} {eE : Nat → Nat → Bool} {lE : Nat → Nat → Bool} {li : Nat → Nat → Bool} {fB : Nat → Int32} {fA : Nat → Int32} {sL : Nat → Int32} {f : Nat} {fu : Nat → Nat} {fs : Nat → Int32} {ff : Nat → Int32} {fl : Nat → Int32} {xs : Nat → Int32} {ys : Nat → Int32} {zs : Nat → Int32} {oL : Nat → Int32} {oU : Nat → Int32} {lo : Nat → Int32} {up : Nat → Int32} {X : va_W} {x : Int32} {y : Int32} {ou : Nat} {oF : Nat → Int64} (hn : n ≤ 40) (hb : ¬ okU n x) : CW yL_unit cL_unit 5 (some .int) [(0, 10, 13, 21)] ({ frames := 8, cells := 1, slots := 6, locals := 154 } : Room) κ [.ref (a 0), .int x, .int y, .ref ou] (wC κ a n dug dtd so ph uf ul r ki lt er mz bd bo me dE eE lE li fB fA sL f fu fs ff fl xs ys zs oL oU lo up ((ou, .inl (kJ κ, 1, .inr (.inl oF))) :: X)) (aD (some (.int (nI 1))) (wC κ a n dug dtd so ph uf ul r ki lt er mz bd bo me dE eE lE li fB fA sL f fu fs ff fl xs ys zs oL oU lo up ((ou, .inl (kJ κ, 1, .inr (.inl oF))) :: X))) := by
  refine cw_entry (own := RL) (L := [(0, .ref (a 0)), (1, .int x), (2, .int y), (3, .ref ou)]) (by decide +kernel) rfl (lv_entry [.ref (a 0), .int x, .int y, .ref ou] (n := 5) (Nat.le_of_ble_eq_true rfl)) (fun g C E hT => ?_)
  refine a_aloadn (pc := 0) C 3 rfl rfl dL_unit_0 ?_
  refine a_iconst (pc := 1) (v := nI 0) C ci_0 dL_unit_1 ?_
  refine a_aloadn (pc := 2) C 0 rfl rfl dL_unit_2 ?_
  refine a_iloadn (pc := 3) C 1 rfl rfl dL_unit_3 ?_
  refine a_iloadn (pc := 4) C 2 rfl rfl dL_unit_4 ?_
  refine a_xV (pc := 5) C (c_X5_unit_b1 κ a hn hb) yv_X5_unit ml_L_33 wi_X5_unit wl_X5_unit 0 rfl rfl rfl rfl (Nat.le_of_ble_eq_true rfl) (Nat.le_of_ble_eq_true rfl) (Nat.le_of_ble_eq_true rfl) ⟨(Nat.le_of_ble_eq_true rfl), (Nat.le_of_ble_eq_true rfl)⟩ dL_unit_5 (fun e w h => ?_) (fun ro w h => h.elim)
  obtain ⟨rfl, rfl⟩ := h
  refine a_catch (E := xIO) C hT [] [] ⟨0, 10, 13, 21⟩ rfl (fun z hz => by cases hz) (by decide) (by decide) cl_L_21 (by simp [nxC]) (fun qx => ?_)
  refine a_astore (pc := 13) (L' := [(0, .ref (a 0)), (1, .int x), (2, .int y), (3, .ref ou), (4, .ref qx)]) C (by decide) rfl dL_unit_13 ?_
  refine a_iconst (pc := 15) (v := nI 1) C ci_1 dL_unit_15 ?_
  exact a_iret (pc := 16) C E (Nat.le_of_ble_eq_true rfl) (Nat.le_of_ble_eq_true rfl) ⟨rfl, rfl⟩ dL_unit_16

set_option maxHeartbeats 4000000 in
set_option maxRecDepth 100000 in
theorem c_L_unit_b2 (κ : aK) (a : Nat → Nat) {n : Nat} {dug : Nat → Bool} {dtd : Nat → Bool} {so : Nat → Int32} {ph : Nat → Int32} {uf : Nat → Int32} {ul : Nat → Int32} {r : Nat} {ki : Nat → Int32} {lt : Nat → Nat} {er : Nat → Nat} {mz : Nat} {bd : Nat → Bool} {bo : Nat → Nat} {me : Nat → Nat → Bool} {dE : Nat → Nat → Bool} {eE : Nat → Nat → Bool} {lE : Nat → Nat → Bool} {li : Nat → Nat → Bool} {fB : Nat → Int32} {fA : Nat → Int32} {sL : Nat → Int32} {f : Nat} {fu : Nat → Nat} {fs : Nat → Int32} {ff : Nat → Int32} {fl : Nat → Int32} {xs : Nat → Int32} {ys : Nat → Int32} {zs : Nat → Int32} {oL : Nat → Int32} {oU : Nat → Int32} {lo : Nat → Int32} {up : Nat → Int32} {X : va_W} {j : Nat} {y : Int32} {ou : Nat} {oF : Nat → Int64} (hn : n ≤ 40) (hj : j < n) (hb : ¬ okU 10 y) : CW yL_unit cL_unit 5 (some .int) [(0, 10, 13, 21)] ({ frames := 8, cells := 1, slots := 6, locals := 154 } : Room) κ [.ref (a 0), .int (nI j), .int y, .ref ou] (wC κ a n dug dtd so ph uf ul r ki lt er mz bd bo me dE eE lE li fB fA sL f fu fs ff fl xs ys zs oL oU lo up ((ou, .inl (kJ κ, 1, .inr (.inl oF))) :: X)) (aD (some (.int (nI 1))) (wC κ a n dug dtd so ph uf ul r ki lt er mz bd bo me dE eE lE li fB fA sL f fu fs ff fl xs ys zs oL oU lo up ((ou, .inl (kJ κ, 1, .inr (.inl oF))) :: X))) := by
  refine cw_entry (own := RL) (L := [(0, .ref (a 0)), (1, .int (nI j)), (2, .int y), (3, .ref ou)]) (by decide +kernel) rfl (lv_entry [.ref (a 0), .int (nI j), .int y, .ref ou] (n := 5) (Nat.le_of_ble_eq_true rfl)) (fun g C E hT => ?_)
  refine a_aloadn (pc := 0) C 3 rfl rfl dL_unit_0 ?_
  refine a_iconst (pc := 1) (v := nI 0) C ci_0 dL_unit_1 ?_
  refine a_aloadn (pc := 2) C 0 rfl rfl dL_unit_2 ?_
  refine a_iloadn (pc := 3) C 1 rfl rfl dL_unit_3 ?_
  refine a_iloadn (pc := 4) C 2 rfl rfl dL_unit_4 ?_
  refine a_xV (pc := 5) C (c_X5_unit_b2 κ a hn hj hb) yv_X5_unit ml_L_33 wi_X5_unit wl_X5_unit 0 rfl rfl rfl rfl (Nat.le_of_ble_eq_true rfl) (Nat.le_of_ble_eq_true rfl) (Nat.le_of_ble_eq_true rfl) ⟨(Nat.le_of_ble_eq_true rfl), (Nat.le_of_ble_eq_true rfl)⟩ dL_unit_5 (fun e w h => ?_) (fun ro w h => h.elim)
  obtain ⟨rfl, rfl⟩ := h
  refine a_catch (E := xIO) C hT [] [] ⟨0, 10, 13, 21⟩ rfl (fun z hz => by cases hz) (by decide) (by decide) cl_L_21 (by simp [nxC]) (fun qx => ?_)
  refine a_astore (pc := 13) (L' := [(0, .ref (a 0)), (1, .int (nI j)), (2, .int y), (3, .ref ou), (4, .ref qx)]) C (by decide) rfl dL_unit_13 ?_
  refine a_iconst (pc := 15) (v := nI 1) C ci_1 dL_unit_15 ?_
  exact a_iret (pc := 16) C E (Nat.le_of_ble_eq_true rfl) (Nat.le_of_ble_eq_true rfl) ⟨rfl, rfl⟩ dL_unit_16

set_option maxHeartbeats 4000000 in
set_option maxRecDepth 100000 in
theorem c_L_way_b1 (κ : aK) (a : Nat → Nat) {n : Nat} {dug : Nat → Bool} {dtd : Nat → Bool} {so : Nat → Int32} {ph : Nat → Int32} {uf : Nat → Int32} {ul : Nat → Int32} {r : Nat} {ki : Nat → Int32} {lt : Nat → Nat} {er : Nat → Nat} {mz : Nat} {bd : Nat → Bool} {bo : Nat → Nat} {me : Nat → Nat → Bool} {dE : Nat → Nat → Bool} {eE : Nat → Nat → Bool} {lE : Nat → Nat → Bool} {li : Nat → Nat → Bool} {fB : Nat → Int32} {fA : Nat → Int32} {sL : Nat → Int32} {f : Nat} {fu : Nat → Nat} {fs : Nat → Int32} {ff : Nat → Int32} {fl : Nat → Int32} {xs : Nat → Int32} {ys : Nat → Int32} {zs : Nat → Int32} {oL : Nat → Int32} {oU : Nat → Int32} {lo : Nat → Int32} {up : Nat → Int32} {X : va_W} {x : Int32} {y : Int32} {z : Int32} {ou : Nat} {oF : Nat → Int64} (hn : n ≤ 40) (hb : ¬ okU n x) : CW yL_way cL_way 6 (some .int) [(0, 12, 15, 21), (0, 12, 19, 13)] ({ frames := 8, cells := 1, slots := 6, locals := 154 } : Room) κ [.ref (a 0), .int x, .int y, .int z, .ref ou] (wC κ a n dug dtd so ph uf ul r ki lt er mz bd bo me dE eE lE li fB fA sL f fu fs ff fl xs ys zs oL oU lo up ((ou, .inl (kJ κ, 1, .inr (.inl oF))) :: X)) (aD (some (.int (nI 1))) (wC κ a n dug dtd so ph uf ul r ki lt er mz bd bo me dE eE lE li fB fA sL f fu fs ff fl xs ys zs oL oU lo up ((ou, .inl (kJ κ, 1, .inr (.inl oF))) :: X))) := by
  refine cw_entry (own := RL) (L := [(0, .ref (a 0)), (1, .int x), (2, .int y), (3, .int z), (4, .ref ou)]) (by decide +kernel) rfl (lv_entry [.ref (a 0), .int x, .int y, .int z, .ref ou] (n := 6) (Nat.le_of_ble_eq_true rfl)) (fun g C E hT => ?_)
  refine a_aload (pc := 0) C 4 rfl dL_way_0 ?_
  refine a_iconst (pc := 2) (v := nI 0) C ci_0 dL_way_2 ?_
  refine a_aloadn (pc := 3) C 0 rfl rfl dL_way_3 ?_
  refine a_iloadn (pc := 4) C 1 rfl rfl dL_way_4 ?_
  refine a_iloadn (pc := 5) C 2 rfl rfl dL_way_5 ?_
  refine a_iloadn (pc := 6) C 3 rfl rfl dL_way_6 ?_
  refine a_xV (pc := 7) C (c_X5_way_b1 κ a hn hb) yv_X5_way ml_L_47 wi_X5_way wl_X5_way 0 rfl rfl rfl rfl (Nat.le_of_ble_eq_true rfl) (Nat.le_of_ble_eq_true rfl) (Nat.le_of_ble_eq_true rfl) ⟨(Nat.le_of_ble_eq_true rfl), (Nat.le_of_ble_eq_true rfl)⟩ dL_way_7 (fun e w h => ?_) (fun ro w h => h.elim)
  obtain ⟨rfl, rfl⟩ := h
  refine a_catch (E := xIO) C hT [] [⟨0, 12, 19, 13⟩] ⟨0, 12, 15, 21⟩ rfl (fun z hz => by cases hz) (by decide) (by decide) cl_L_21 (by simp [nxC]) (fun qx => ?_)
  refine a_astore (pc := 15) (L' := [(0, .ref (a 0)), (1, .int x), (2, .int y), (3, .int z), (4, .ref ou), (5, .ref qx)]) C (by decide) rfl dL_way_15 ?_
  refine a_iconst (pc := 17) (v := nI 1) C ci_1 dL_way_17 ?_
  exact a_iret (pc := 18) C E (Nat.le_of_ble_eq_true rfl) (Nat.le_of_ble_eq_true rfl) ⟨rfl, rfl⟩ dL_way_18

set_option maxHeartbeats 4000000 in
set_option maxRecDepth 100000 in
theorem c_L_way_b2 (κ : aK) (a : Nat → Nat) {n : Nat} {dug : Nat → Bool} {dtd : Nat → Bool} {so : Nat → Int32} {ph : Nat → Int32} {uf : Nat → Int32} {ul : Nat → Int32} {r : Nat} {ki : Nat → Int32} {lt : Nat → Nat} {er : Nat → Nat} {mz : Nat} {bd : Nat → Bool} {bo : Nat → Nat} {me : Nat → Nat → Bool} {dE : Nat → Nat → Bool} {eE : Nat → Nat → Bool} {lE : Nat → Nat → Bool} {li : Nat → Nat → Bool} {fB : Nat → Int32} {fA : Nat → Int32} {sL : Nat → Int32} {f : Nat} {fu : Nat → Nat} {fs : Nat → Int32} {ff : Nat → Int32} {fl : Nat → Int32} {xs : Nat → Int32} {ys : Nat → Int32} {zs : Nat → Int32} {oL : Nat → Int32} {oU : Nat → Int32} {lo : Nat → Int32} {up : Nat → Int32} {X : va_W} {x : Nat} {y : Int32} {z : Int32} {ou : Nat} {oF : Nat → Int64} (hn : n ≤ 40) (hx : x < n) (hb : ¬ okU n y) : CW yL_way cL_way 6 (some .int) [(0, 12, 15, 21), (0, 12, 19, 13)] ({ frames := 8, cells := 1, slots := 6, locals := 154 } : Room) κ [.ref (a 0), .int (nI x), .int y, .int z, .ref ou] (wC κ a n dug dtd so ph uf ul r ki lt er mz bd bo me dE eE lE li fB fA sL f fu fs ff fl xs ys zs oL oU lo up ((ou, .inl (kJ κ, 1, .inr (.inl oF))) :: X)) (aD (some (.int (nI 1))) (wC κ a n dug dtd so ph uf ul r ki lt er mz bd bo me dE eE lE li fB fA sL f fu fs ff fl xs ys zs oL oU lo up ((ou, .inl (kJ κ, 1, .inr (.inl oF))) :: X))) := by
  refine cw_entry (own := RL) (L := [(0, .ref (a 0)), (1, .int (nI x)), (2, .int y), (3, .int z), (4, .ref ou)]) (by decide +kernel) rfl (lv_entry [.ref (a 0), .int (nI x), .int y, .int z, .ref ou] (n := 6) (Nat.le_of_ble_eq_true rfl)) (fun g C E hT => ?_)
  refine a_aload (pc := 0) C 4 rfl dL_way_0 ?_
  refine a_iconst (pc := 2) (v := nI 0) C ci_0 dL_way_2 ?_
  refine a_aloadn (pc := 3) C 0 rfl rfl dL_way_3 ?_
  refine a_iloadn (pc := 4) C 1 rfl rfl dL_way_4 ?_
  refine a_iloadn (pc := 5) C 2 rfl rfl dL_way_5 ?_
  refine a_iloadn (pc := 6) C 3 rfl rfl dL_way_6 ?_
  refine a_xV (pc := 7) C (c_X5_way_b2 κ a hn hx hb) yv_X5_way ml_L_47 wi_X5_way wl_X5_way 0 rfl rfl rfl rfl (Nat.le_of_ble_eq_true rfl) (Nat.le_of_ble_eq_true rfl) (Nat.le_of_ble_eq_true rfl) ⟨(Nat.le_of_ble_eq_true rfl), (Nat.le_of_ble_eq_true rfl)⟩ dL_way_7 (fun e w h => ?_) (fun ro w h => h.elim)
  obtain ⟨rfl, rfl⟩ := h
  refine a_catch (E := xIO) C hT [] [⟨0, 12, 19, 13⟩] ⟨0, 12, 15, 21⟩ rfl (fun z hz => by cases hz) (by decide) (by decide) cl_L_21 (by simp [nxC]) (fun qx => ?_)
  refine a_astore (pc := 15) (L' := [(0, .ref (a 0)), (1, .int (nI x)), (2, .int y), (3, .int z), (4, .ref ou), (5, .ref qx)]) C (by decide) rfl dL_way_15 ?_
  refine a_iconst (pc := 17) (v := nI 1) C ci_1 dL_way_17 ?_
  exact a_iret (pc := 18) C E (Nat.le_of_ble_eq_true rfl) (Nat.le_of_ble_eq_true rfl) ⟨rfl, rfl⟩ dL_way_18

set_option maxHeartbeats 4000000 in
set_option maxRecDepth 100000 in
theorem c_L_way (κ : aK) (a : Nat → Nat) {n : Nat} {dug : Nat → Bool} {dtd : Nat → Bool} {so : Nat → Int32} {ph : Nat → Int32} {uf : Nat → Int32} {ul : Nat → Int32} {r : Nat} {ki : Nat → Int32} {lt : Nat → Nat} {er : Nat → Nat} {mz : Nat} {bd : Nat → Bool} {bo : Nat → Nat} {me : Nat → Nat → Bool} {dE : Nat → Nat → Bool} {eE : Nat → Nat → Bool} {lE : Nat → Nat → Bool} {li : Nat → Nat → Bool} {fB : Nat → Int32} {fA : Nat → Int32} {sL : Nat → Int32} {f : Nat} {fu : Nat → Nat} {fs : Nat → Int32} {ff : Nat → Int32} {fl : Nat → Int32} {xs : Nat → Int32} {ys : Nat → Int32} {zs : Nat → Int32} {oL : Nat → Int32} {oU : Nat → Int32} {lo : Nat → Int32} {up : Nat → Int32} {X : va_W} {x : Nat} {y : Nat} {z : Nat} {ou : Nat} {oF : Nat → Int64} (hn : n ≤ 40) (hm : mz ≤ 40) (hbo : ∀ u, bo u < 40) (hx : x < n) (hy : y < n) (hz : z < 40) : CW yL_way cL_way 6 (some .int) [(0, 12, 15, 21), (0, 12, 19, 13)] ({ frames := 8, cells := 0, slots := 0, locals := 154 } : Room) κ [.ref (a 0), .int (nI x), .int (nI y), .int (nI z), .ref ou] (wC κ a n dug dtd so ph uf ul r ki lt er mz bd bo me dE eE lE li fB fA sL f fu fs ff fl xs ys zs oL oU lo up ((ou, .inl (kJ κ, 1, .inr (.inl oF))) :: X)) (aD (some (.int (nI 0))) (wC κ a n dug dtd so ph uf ul r ki lt er mz bd bo me dE eE lE li fB fA (wyL mz eE lE sL (bo x) (bo y)) f fu fs ff fl xs ys zs oL oU lo up ((ou, .inl (kJ κ, 1, .inr (.inl (va_up oF 0 (oI (wyR mz li eE lE sL (bo x) (bo y) z)).toInt64)))) :: X))) := by
  refine cw_entry (own := RL) (L := [(0, .ref (a 0)), (1, .int (nI x)), (2, .int (nI y)), (3, .int (nI z)), (4, .ref ou)]) (by decide +kernel) rfl (lv_entry [.ref (a 0), .int (nI x), .int (nI y), .int (nI z), .ref ou] (n := 6) (Nat.le_of_ble_eq_true rfl)) (fun g C E hT => ?_)
  refine a_aload (pc := 0) C 4 rfl dL_way_0 ?_
  refine a_iconst (pc := 2) (v := nI 0) C ci_0 dL_way_2 ?_
  refine a_aloadn (pc := 3) C 0 rfl rfl dL_way_3 ?_
  refine a_iloadn (pc := 4) C 1 rfl rfl dL_way_4 ?_
  refine a_iloadn (pc := 5) C 2 rfl rfl dL_way_5 ?_
  refine a_iloadn (pc := 6) C 3 rfl rfl dL_way_6 ?_
  refine a_callV1 (pc := 7) (k' := 0) (n' := 0) C (c_X5_way κ a hn hm hbo hx hy hz) yv_X5_way ml_L_47 wi_X5_way wl_X5_way 0 rfl rfl rfl rfl (Nat.le_of_ble_eq_true rfl) (Nat.le_of_ble_eq_true rfl) (Nat.le_of_ble_eq_true rfl) ⟨(Nat.le_of_ble_eq_true rfl), (Nat.le_of_ble_eq_true rfl)⟩ rfl rfl dL_way_7 ?_
  refine a_i2l (pc := 10) (v := (oI (wyR mz li eE lE sL (bo x) (bo y) z)).toInt64) C rfl dL_way_10 ?_
  refine a_last (pc := 11) (ws' := wC κ a n dug dtd so ph uf ul r ki lt er mz bd bo me dE eE lE li fB fA (wyL mz eE lE sL (bo x) (bo y)) f fu fs ff fl xs ys zs oL oU lo up ((ou, .inl (kJ κ, 1, .inr (.inl (va_up oF 0 ((oI (wyR mz li eE lE sL (bo x) (bo y) z)).toInt64))))) :: X)) C 33 rfl (by omega) (by decide) rfl rfl dL_way_11 ?_
  refine a_goto (pc := 12) (tgt := 23) C (by decide) dL_way_12 ?_
  refine a_iconst (pc := 23) (v := nI 0) C ci_0 dL_way_23 ?_
  refine aw_eq (congrArg (fun zz9 => wC κ a n dug dtd so ph uf ul r ki lt er mz bd bo me dE eE lE li fB fA (wyL mz eE lE sL (bo x) (bo y)) f fu fs ff fl xs ys zs oL oU lo up ((ou, .inl (kJ κ, 1, .inr (.inl zz9))) :: X)) (rfl : (va_up oF 0 ((oI (wyR mz li eE lE sL (bo x) (bo y) z)).toInt64)) = (va_up oF 0 (oI (wyR mz li eE lE sL (bo x) (bo y) z)).toInt64))) ?_
  exact a_iret (pc := 24) C E (Nat.le_of_ble_eq_true rfl) (Nat.le_of_ble_eq_true rfl) ⟨rfl, rfl⟩ dL_way_24

set_option maxHeartbeats 4000000 in
set_option maxRecDepth 100000 in
theorem c_L_way_b3 (κ : aK) (a : Nat → Nat) {n : Nat} {dug : Nat → Bool} {dtd : Nat → Bool} {so : Nat → Int32} {ph : Nat → Int32} {uf : Nat → Int32} {ul : Nat → Int32} {r : Nat} {ki : Nat → Int32} {lt : Nat → Nat} {er : Nat → Nat} {mz : Nat} {bd : Nat → Bool} {bo : Nat → Nat} {me : Nat → Nat → Bool} {dE : Nat → Nat → Bool} {eE : Nat → Nat → Bool} {lE : Nat → Nat → Bool} {li : Nat → Nat → Bool} {fB : Nat → Int32} {fA : Nat → Int32} {sL : Nat → Int32} {f : Nat} {fu : Nat → Nat} {fs : Nat → Int32} {ff : Nat → Int32} {fl : Nat → Int32} {xs : Nat → Int32} {ys : Nat → Int32} {zs : Nat → Int32} {oL : Nat → Int32} {oU : Nat → Int32} {lo : Nat → Int32} {up : Nat → Int32} {X : va_W} {x : Nat} {y : Nat} {z : Int32} {ou : Nat} {oF : Nat → Int64} (hn : n ≤ 40) (hx : x < n) (hy : y < n) (hb : ¬ okU 40 z) : CW yL_way cL_way 6 (some .int) [(0, 12, 15, 21), (0, 12, 19, 13)] ({ frames := 8, cells := 1, slots := 6, locals := 154 } : Room) κ [.ref (a 0), .int (nI x), .int (nI y), .int z, .ref ou] (wC κ a n dug dtd so ph uf ul r ki lt er mz bd bo me dE eE lE li fB fA sL f fu fs ff fl xs ys zs oL oU lo up ((ou, .inl (kJ κ, 1, .inr (.inl oF))) :: X)) (aD (some (.int (nI 2))) (wC κ a n dug dtd so ph uf ul r ki lt er mz bd bo me dE eE lE li fB fA sL f fu fs ff fl xs ys zs oL oU lo up ((ou, .inl (kJ κ, 1, .inr (.inl oF))) :: X))) := by
  refine cw_entry (own := RL) (L := [(0, .ref (a 0)), (1, .int (nI x)), (2, .int (nI y)), (3, .int z), (4, .ref ou)]) (by decide +kernel) rfl (lv_entry [.ref (a 0), .int (nI x), .int (nI y), .int z, .ref ou] (n := 6) (Nat.le_of_ble_eq_true rfl)) (fun g C E hT => ?_)
  refine a_aload (pc := 0) C 4 rfl dL_way_0 ?_
  refine a_iconst (pc := 2) (v := nI 0) C ci_0 dL_way_2 ?_
  refine a_aloadn (pc := 3) C 0 rfl rfl dL_way_3 ?_
  refine a_iloadn (pc := 4) C 1 rfl rfl dL_way_4 ?_
  refine a_iloadn (pc := 5) C 2 rfl rfl dL_way_5 ?_
  refine a_iloadn (pc := 6) C 3 rfl rfl dL_way_6 ?_
  refine a_xV (pc := 7) C (c_X5_way_b3 κ a hn hx hy hb) yv_X5_way ml_L_47 wi_X5_way wl_X5_way 0 rfl rfl rfl rfl (Nat.le_of_ble_eq_true rfl) (Nat.le_of_ble_eq_true rfl) (Nat.le_of_ble_eq_true rfl) ⟨(Nat.le_of_ble_eq_true rfl), (Nat.le_of_ble_eq_true rfl)⟩ dL_way_7 (fun e w h => ?_) (fun ro w h => h.elim)
  obtain ⟨rfl, rfl⟩ := h
  refine a_catch (E := xIA) C hT [⟨0, 12, 15, 21⟩] [] ⟨0, 12, 19, 13⟩ rfl (List.forall_mem_cons.mpr ⟨⟨by decide, _, cl_L_21, by simp [nxN]⟩, (fun z hz => by cases hz)⟩) (by decide) (by decide) cl_L_13 (by simp [nxC]) (fun qx => ?_)
  refine a_astore (pc := 19) (L' := [(0, .ref (a 0)), (1, .int (nI x)), (2, .int (nI y)), (3, .int z), (4, .ref ou), (5, .ref qx)]) C (by decide) rfl dL_way_19 ?_
  refine a_iconst (pc := 21) (v := nI 2) C ci_2 dL_way_21 ?_
  exact a_iret (pc := 22) C E (Nat.le_of_ble_eq_true rfl) (Nat.le_of_ble_eq_true rfl) ⟨rfl, rfl⟩ dL_way_22
