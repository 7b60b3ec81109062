/-! THE LAW: its start -/
def S0 : SC := (0, (fun _ => false), (fun _ => false), (fun _ => nI 0), (fun _ => nI 0), (fun _ => nI 0), (fun _ => nI 0), 0, (fun _ => nI 0), (fun _ => 0), (fun _ => 0), 0, (fun _ => false), (fun _ => 0), (fun _ _ => false), (fun _ _ => false), (fun _ _ => false), (fun _ _ => false), (fun _ _ => false), (fun _ => nI 0), (fun _ => nI 0), (fun _ => nI 0), 0, (fun _ => 0), (fun _ => nI 0), (fun _ => nI 0), (fun _ => nI 0), (fun _ => nI 0), (fun _ => nI 0), (fun _ => nI 0), (fun _ => nI 0), (fun _ => nI 0), (fun _ => nI 0), (fun _ => nI 0))
def T0 : SM := (nI 0, 0, (fun _ => nI 0), (fun _ => nI 0), (fun _ => nI 0), (fun _ => false), (fun _ => false), (fun _ => nI 0), 0, (fun _ => nI 0), (fun _ => 0), (fun _ => 0), 0, (fun _ => nI 0), (fun _ => 0), (fun _ _ => false), (fun _ _ => false), (fun _ _ => false), (fun _ => nI 0), (fun _ => nI 0))
theorem lW_new {κ : aK} {a b : Nat → Nat} {u : Nat} {S : SC} {F : Nat → Int64} {T : SM} : (lW κ a b u S F T).Perm (mS κ b T (cS κ a S []) ++ [oc κ u F]) := by
  show (cS κ a S [] ++ ([oc κ u F] ++ mS κ b T [])).Perm ((mS κ b T [] ++ cS κ a S []) ++ [oc κ u F])
  refine List.perm_append_comm.trans ?_
  rw [List.append_assoc]
  exact List.perm_append_comm
set_option maxHeartbeats 8000000 in
set_option maxRecDepth 100000 in
theorem law_start {g : aG} {κ : aK} {bs L : Nat} {xs : Nat → Int32} (C : ∀ d, Cx (gD g d) κ RL cL_law 9 room_1) (hX : ∀ d, va_X bs L xs (g_s (gD g d)) (g_s (gD g d)).heap) (hbl : bs < (g_s g).heap.size) (hbA : ¬ kA κ bs) (hL : L ≤ 2560) {I : SC → SM → Prop} (hI0 : I S0 T0) (hK : ∀ a b u, KA I κ a b u) (out : ∀ (a b : Nat → Nat) (u : Nat) (d : Drawn) (j : Nat) (S : SC) (F : Nat → Int64) (T : SM), (g_s g).drawn.sameBut d lw_cs → j ≤ 513 → aw (gD g d) κ 9 1854 [(0, .ref bs), (1, .ref (a 0)), (2, .ref (b 0)), (3, .ref u), (4, .int (nI (5 * j)))] [] (lW κ a b u S F T) (100 + 402 * j) (4000 + 4010 * j)) {d : Drawn} (hd : (g_s g).drawn.sameBut d lw_cs) : aw (gD g d) κ 9 0 [(0, .ref bs)] [] [] 0 0 := by
  refine a_newO (pc := 0) (ci := 5) (fs := [.null, .null, .null, .null, .null]) (ws' := fun o => [(o, .inr (5, [.null, .null, .null, .null, .null]))]) (C d) rfl inX5 uyX5 hX5 cl_L_8 wn_X5 wz_X5 (by decide +kernel) (fun o => List.Perm.refl _) (Nat.le_of_ble_eq_true rfl) (Nat.le_of_ble_eq_true rfl) dL_law_0 (fun o => ?_)
  refine a_dup (pc := 3) (C d) rfl dL_law_3 ?_
  refine a_callI (pc := 4) (C d) (c_X5_init κ (X := [])) yv_X5_init ml_L_88 wi_X5_init rfl rfl rfl (Nat.le_of_ble_eq_true rfl) (Nat.le_of_ble_eq_true rfl) (Nat.le_of_ble_eq_true rfl) ⟨(Nat.le_of_ble_eq_true rfl), (Nat.le_of_ble_eq_true rfl)⟩ dL_law_4 (fun ro w h => ?_)
  obtain ⟨rfl, a, rfl, rfl⟩ := h
  refine aw_eq (ws' := cS κ a S0 []) rfl ?_
  refine a_astoren (pc := 7) (L' := [(0, .ref bs), (1, .ref (a 0))]) (C d) (by decide) rfl rfl dL_law_7 ?_
  refine a_newO (pc := 8) (ci := 6) (fs := [.int (nI 0), .int (nI 0), .null, .null, .null, .null, .null, .null, .int (nI 0), .null, .null, .null, .int (nI 0), .null, .null, .null, .null, .null, .null, .null]) (ws' := fun o2 => (o2, .inr (6, [.int (nI 0), .int (nI 0), .null, .null, .null, .null, .null, .null, .int (nI 0), .null, .null, .null, .int (nI 0), .null, .null, .null, .null, .null, .null, .null])) :: cS κ a S0 []) (C d) rfl inX6 uyX6 hX6 cl_L_89 wn_X6 wz_X6 (by decide +kernel) (fun o2 => wp_snoc _ _) (Nat.le_of_ble_eq_true rfl) (Nat.le_of_ble_eq_true rfl) dL_law_8 (fun o2 => ?_)
  refine a_dup (pc := 11) (C d) rfl dL_law_11 ?_
  refine a_callI (pc := 12) (C d) (c_X6_init κ (X := cS κ a S0 [])) yv_X6_init ml_L_91 wi_X6_init rfl rfl rfl (Nat.le_of_ble_eq_true rfl) (Nat.le_of_ble_eq_true rfl) (Nat.le_of_ble_eq_true rfl) ⟨(Nat.le_of_ble_eq_true rfl), (Nat.le_of_ble_eq_true rfl)⟩ dL_law_12 (fun ro w h => ?_)
  obtain ⟨rfl, e1, e2, e3, e4, e5, e6, e7, e8, e9, e10, e11, e12, e13, e14, e15, e16, rfl⟩ := h
  obtain ⟨b, hb⟩ : ∃ b : Nat → Nat, b = (fun i => [o2, e1, e2, e3, e4, e5, e6, e7, e8, e9, e10, e11, e12, e13, e14, e15, e16].getD i 0) := ⟨_, rfl⟩
  have hb0 : b 0 = o2 := by rw [hb]; rfl
  refine aw_perm (ws' := mS κ b T0 (cS κ a S0 [])) (by
    have hp := ((show (List.range 17).Perm [0, 16, 15, 14, 13, 12, 11, 10, 9, 8, 7, 6, 5, 4, 3, 2, 1] by decide +kernel).map (fun i => ([(o2, .inr (6, [.int (nI 0), .int (nI 0), .ref e1, .ref e2, .ref e3, .ref e4, .ref e5, .ref e6, .int (nI 0), .ref e7, .ref e8, .ref e9, .int (nI 0), .ref e10, .ref e11, .ref e12, .ref e13, .ref e14, .ref e15, .ref e16])), (e1, .inl (kI κ, 40, .inl (fun _ => nI 0))), (e2, .inl (kI κ, 40, .inl (fun _ => nI 0))), (e3, .inl (kI κ, 40, .inl (fun _ => nI 0))), (e4, .inl (kZ κ, 40, .inl (fZ (fun _ => false)))), (e5, .inl (kZ κ, 40, .inl (fZ (fun _ => false)))), (e6, .inl (kI κ, 40, .inl (fun _ => nI 0))), (e7, .inl (kI κ, 80, .inl (fun _ => nI 0))), (e8, .inl (kI κ, 80, .inl (fN (fun _ => 0)))), (e9, .inl (kI κ, 80, .inl (fN (fun _ => 0)))), (e10, .inl (kI κ, 420, .inl (fun _ => nI 0))), (e11, .inl (kI κ, 40, .inl (fN (fun _ => 0)))), (e12, .inl (kJ κ, 40, .inr (.inl (fS (fun _ _ => false))))), (e13, .inl (kJ κ, 40, .inr (.inl (fS (fun _ _ => false))))), (e14, .inl (kJ κ, 40, .inr (.inl (fS (fun _ _ => false))))), (e15, .inl (kI κ, 40, .inl (fun _ => nI 0))), (e16, .inl (kI κ, 40, .inl (fun _ => nI 0)))] : va_W).getD i (0, .inr (0, [])))).append_right (cS κ a S0 [])
    rw [hb]
    exact hp) ?_
  clear hb
  subst hb0
  refine a_astoren (pc := 15) (L' := [(0, .ref bs), (1, .ref (a 0)), (2, .ref (b 0))]) (C d) (by decide) rfl rfl dL_law_15 ?_
  refine a_iconst (pc := 16) (v := nI 1) (C d) ci_1 dL_law_16 ?_
  refine a_newJ (pc := 17) (ws' := fun u => lW κ a b u S0 (fun _ => 0) T0) (C d) (by decide) (fun u => lW_new) (Nat.le_of_ble_eq_true rfl) (Nat.le_of_ble_eq_true rfl) dL_law_17 (fun u => ?_)
  refine a_astoren (pc := 19) (L' := [(0, .ref bs), (1, .ref (a 0)), (2, .ref (b 0)), (3, .ref u)]) (C d) (by decide) rfl rfl dL_law_19 ?_
  refine a_iconst (pc := 20) (v := nI 0) (C d) ci_0 dL_law_20 ?_
  refine a_istore (pc := 21) (L' := [(0, .ref bs), (1, .ref (a 0)), (2, .ref (b 0)), (3, .ref u), (4, .int (nI (5 * 0)))]) (C d) (by decide) rfl dL_law_21 ?_
  refine aw_room (k' := 100 + 402 * 0) (n' := 4000 + 4010 * 0) (Nat.le_of_ble_eq_true rfl) (Nat.le_of_ble_eq_true rfl) ?_
  exact law_loop C hX hbl hbA hL (hK a b u) (out a b u) 513 0 S0 (fun _ => 0) T0 d rfl hI0 hd
