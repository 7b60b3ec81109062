/-! THE LAW'S WALK: what is told -/
theorem cM5 : (-5000 : Int32).toInt = -5000 := by decide +kernel
theorem yr_a {j : Nat} (hj : j < 1500) : yrB (nI j - nI 400) = true := by
  have e := pk_sub_toInt (a := j) (b := 400) (by omega) (by decide)
  refine inB_iff.mpr ⟨Int32.le_iff_toInt_le.mpr ?_, Int32.le_iff_toInt_le.mpr ?_⟩
  · rw [e, cM5]; omega
  · rw [e, nI_toInt (by decide)]; omega
theorem yr_b {j : Nat} (hj : j < 99) : yrB (nI (500 + j)) = true := by
  have e := nI_toInt (n := 500 + j) (by omega)
  refine inB_iff.mpr ⟨Int32.le_iff_toInt_le.mpr ?_, Int32.le_iff_toInt_le.mpr ?_⟩
  · rw [e, cM5]; omega
  · rw [e, nI_toInt (by decide)]; omega
theorem yr_c {i j : Nat} (hi : i < 900) : nI i - nI 400 ≤ nI (500 + j) ∨ 1000 ≤ j := by
  by_cases c : 1000 ≤ j
  · exact Or.inr c
  · have e := pk_sub_toInt (a := i) (b := 400) (by omega) (by decide)
    have e2 := nI_toInt (n := 500 + j) (by omega)
    refine Or.inl (Int32.le_iff_toInt_le.mpr ?_)
    rw [e, e2]; omega
theorem whS_lt (S : SC) (kd : Int32) (x y : Nat) : whS S kd x y < 5 := whR_lt _ _ _ _ _ _ _ _ _ _
/-- a state on the way: so many units, at most so many relations and finds, none dug -/
def IJ (N r f : Nat) (S : SC) : Prop := JS S ∧ sN S = N ∧ sR S ≤ r ∧ sF S ≤ f ∧ ∀ i, sDg S i = false
set_option maxHeartbeats 4000000 in
set_option maxRecDepth 100000 in
theorem lw_date {g : aG} {κ : aK} {a : Nat → Nat} {bs L0 : Nat} {xs : Nat → Int32} (C : Cx g κ RL cL_law 10 room_1) (hX : va_X bs L0 xs (g_s g) (g_s g).heap) (hbA : ¬ kA κ bs) (hL : L0 < 2 ^ 31) {N : Nat} (hN17 : N ≤ 17) (h2 : 2 ≤ N) {k : Nat} (hk : k < 40) {S : SC} {t : Int32} (hI : IJ N (k + 1) (k + 1) S) (next : ∀ S' : SC, IJ N (k + 1) (k + 1) S' → aw g κ 10 319 [(0, .ref bs), (1, .ref (a 0)), (2, .int (nI N)), (3, .int (nI k))] [] (cS κ a S' []) 33 1379) : aw g κ 10 271 [(0, .ref bs), (1, .ref (a 0)), (2, .int (nI N)), (3, .int (nI k)), (4, .int t)] [] (cS κ a S []) 33 1379 := by
  obtain ⟨hS, hN, hr, hf, hdg⟩ := hI
  refine a_iloadn (pc := 271) C 3 rfl rfl dL_law_271 ?_
  refine a_iconst (pc := 272) (v := nI 4) C ci_4 dL_law_272 ?_
  refine a_irem (pc := 273) C (by omega) (by decide) (by decide) dL_law_273 ?_
  by_cases c : k % 4 = 0
  · refine a_ifn_ne_n (pc := 274) C (by omega) c dL_law_274 ⟨319, by decide⟩ ?_
    refine a_aloadn (pc := 277) C 1 rfl rfl dL_law_277 ?_
    refine a_iload (pc := 278) C 4 rfl dL_law_278 ?_
    refine a_bipush (pc := 280) (v := nI 6) C cb_6 dL_law_280 ?_
    obtain ⟨y1, e2⟩ : ∃ v : Int32, t >>> (nI 6 &&& 31) = v := ⟨_, rfl⟩
    refine a_ishr (pc := 282) (v := y1) C e2 dL_law_282 ?_
    refine a_iloadn (pc := 283) C 2 rfl rfl dL_law_283 ?_
    refine a_below (pc := 284) C (by omega) (by omega) (Nat.le_of_ble_eq_true rfl) (Nat.le_of_ble_eq_true rfl) (Nat.le_of_ble_eq_true rfl) ⟨(Nat.le_of_ble_eq_true rfl), (Nat.le_of_ble_eq_true rfl)⟩ dL_law_284 (fun j3 hj4 => ?_)
    refine a_iload (pc := 287) C 4 rfl dL_law_287 ?_
    refine a_iconst (pc := 289) (v := nI 2) C ci_2 dL_law_289 ?_
    obtain ⟨y5, e6⟩ : ∃ v : Int32, t >>> (nI 2 &&& 31) = v := ⟨_, rfl⟩
    refine a_ishr (pc := 290) (v := y5) C e6 dL_law_290 ?_
    refine a_sipush (pc := 291) (v := nI 900) C cs_900 dL_law_291 ?_
    refine a_below (pc := 294) C (by omega) (by omega) (Nat.le_of_ble_eq_true rfl) (Nat.le_of_ble_eq_true rfl) (Nat.le_of_ble_eq_true rfl) ⟨(Nat.le_of_ble_eq_true rfl), (Nat.le_of_ble_eq_true rfl)⟩ dL_law_294 (fun j7 hj8 => ?_)
    refine a_sipush (pc := 297) (v := nI 400) C cs_400 dL_law_297 ?_
    refine a_isub (pc := 300) (v := nI j7 - nI 400) C rfl dL_law_300 ?_
    refine a_iload (pc := 301) C 4 rfl dL_law_301 ?_
    refine a_iconst (pc := 303) (v := nI 5) C ci_5 dL_law_303 ?_
    obtain ⟨y9, e10⟩ : ∃ v : Int32, t >>> (nI 5 &&& 31) = v := ⟨_, rfl⟩
    refine a_ishr (pc := 304) (v := y9) C e10 dL_law_304 ?_
    refine a_sipush (pc := 305) (v := nI 1500) C cs_1500 dL_law_305 ?_
    refine a_below (pc := 308) C (by omega) (by omega) (Nat.le_of_ble_eq_true rfl) (Nat.le_of_ble_eq_true rfl) (Nat.le_of_ble_eq_true rfl) ⟨(Nat.le_of_ble_eq_true rfl), (Nat.le_of_ble_eq_true rfl)⟩ dL_law_308 (fun j11 hj12 => ?_)
    refine a_sipush (pc := 311) (v := nI 400) C cs_400 dL_law_311 ?_
    refine a_isub (pc := 314) (v := nI j11 - nI 400) C rfl dL_law_314 ?_
    obtain ⟨S1, ⟨h1, h2', h3, h4, h5⟩, hM⟩ := q_date κ a hS (u := j3) (a1 := nI j7 - nI 400) (b1 := nI j11 - nI 400) (by omega) (yr_a (by omega)) (yr_a (by omega))
    refine a_callV1 (pc := 315) (k' := 33) (n' := 1379) (w1 := cS κ a S1 []) C (hM []) yv_X5_date ml_L_44 wi_X5_date wl_X5_date 0 rfl rfl rfl rfl (Nat.le_of_ble_eq_true rfl) (Nat.le_of_ble_eq_true rfl) (Nat.le_of_ble_eq_true rfl) ⟨(Nat.le_of_ble_eq_true rfl), (Nat.le_of_ble_eq_true rfl)⟩ rfl rfl dL_law_315 ?_
    refine a_pop (pc := 318) C rfl dL_law_318 ?_
    refine aw_locals (L' := [(0, .ref bs), (1, .ref (a 0)), (2, .int (nI N)), (3, .int (nI k))]) [0, 1, 2, 3] rfl ?_
    exact next S1 ⟨h1, by omega, by omega, by omega, fun i => by rw [h5]; exact hdg i⟩
  · refine a_ifn_ne_y (pc := 274) (tgt := 319) C (by omega) c (by decide) dL_law_274 ?_
    refine aw_locals (L' := [(0, .ref bs), (1, .ref (a 0)), (2, .int (nI N)), (3, .int (nI k))]) [0, 1, 2, 3] rfl ?_
    exact next S ⟨hS, hN, hr, hf, hdg⟩
set_option maxHeartbeats 4000000 in
set_option maxRecDepth 100000 in
theorem lw_find {g : aG} {κ : aK} {a : Nat → Nat} {bs L0 : Nat} {xs : Nat → Int32} (C : Cx g κ RL cL_law 10 room_1) (hX : va_X bs L0 xs (g_s g) (g_s g).heap) (hbA : ¬ kA κ bs) (hL : L0 < 2 ^ 31) {N : Nat} (hN17 : N ≤ 17) (h2 : 2 ≤ N) {k : Nat} (hk : k < 40) {S : SC} {t : Int32} (hI : IJ N (k + 1) k S) (next : ∀ S' : SC, IJ N (k + 1) (k + 1) S' → aw g κ 10 319 [(0, .ref bs), (1, .ref (a 0)), (2, .int (nI N)), (3, .int (nI k))] [] (cS κ a S' []) 33 1379) : aw g κ 10 215 [(0, .ref bs), (1, .ref (a 0)), (2, .int (nI N)), (3, .int (nI k)), (4, .int t)] [] (cS κ a S []) 33 1379 := by
  obtain ⟨hS, hN, hr, hf, hdg⟩ := hI
  refine a_iloadn (pc := 215) C 3 rfl rfl dL_law_215 ?_
  refine a_iconst (pc := 216) (v := nI 3) C ci_3 dL_law_216 ?_
  refine a_irem (pc := 217) C (by omega) (by decide) (by decide) dL_law_217 ?_
  by_cases c : k % 3 = 0
  · refine a_ifn_ne_n (pc := 218) C (by omega) c dL_law_218 ⟨271, by decide⟩ ?_
    refine a_aloadn (pc := 221) C 1 rfl rfl dL_law_221 ?_
    refine a_iconst (pc := 222) (v := nI 4) C ci_4 dL_law_222 ?_
    refine a_callV1 (pc := 223) (k' := 33) (n' := 1379) (w1 := cS κ a S []) C (CM_val (show ctS S 4 = nI (sF S) from rfl) (p_count κ a hS (by decide) [])) yv_X5_count ml_L_26 wi_X5_count wl_X5_count 0 rfl rfl rfl rfl (Nat.le_of_ble_eq_true rfl) (Nat.le_of_ble_eq_true rfl) (Nat.le_of_ble_eq_true rfl) ⟨(Nat.le_of_ble_eq_true rfl), (Nat.le_of_ble_eq_true rfl)⟩ rfl rfl dL_law_223 ?_
    refine a_bipush (pc := 226) (v := nI 60) C cb_60 dL_law_226 ?_
    refine a_icn_ge_n (pc := 228) C (by omega) (by omega) (by omega) dL_law_228 ⟨271, by decide⟩ ?_
    refine a_aloadn (pc := 231) C 1 rfl rfl dL_law_231 ?_
    refine a_iload (pc := 232) C 4 rfl dL_law_232 ?_
    refine a_iconst (pc := 234) (v := nI 4) C ci_4 dL_law_234 ?_
    obtain ⟨y1, e2⟩ : ∃ v : Int32, t >>> (nI 4 &&& 31) = v := ⟨_, rfl⟩
    refine a_ishr (pc := 235) (v := y1) C e2 dL_law_235 ?_
    refine a_iloadn (pc := 236) C 2 rfl rfl dL_law_236 ?_
    refine a_below (pc := 237) C (by omega) (by omega) (Nat.le_of_ble_eq_true rfl) (Nat.le_of_ble_eq_true rfl) (Nat.le_of_ble_eq_true rfl) ⟨(Nat.le_of_ble_eq_true rfl), (Nat.le_of_ble_eq_true rfl)⟩ dL_law_237 (fun j3 hj4 => ?_)
    refine a_iconst (pc := 240) (v := nI 0) C ci_0 dL_law_240 ?_
    refine a_iload (pc := 241) C 4 rfl dL_law_241 ?_
    refine a_sipush (pc := 243) (v := nI 900) C cs_900 dL_law_243 ?_
    refine a_below (pc := 246) C (by omega) (by omega) (Nat.le_of_ble_eq_true rfl) (Nat.le_of_ble_eq_true rfl) (Nat.le_of_ble_eq_true rfl) ⟨(Nat.le_of_ble_eq_true rfl), (Nat.le_of_ble_eq_true rfl)⟩ dL_law_246 (fun j5 hj6 => ?_)
    refine a_sipush (pc := 249) (v := nI 400) C cs_400 dL_law_249 ?_
    refine a_isub (pc := 252) (v := nI j5 - nI 400) C rfl dL_law_252 ?_
    refine a_sipush (pc := 253) (v := nI 500) C cs_500 dL_law_253 ?_
    refine a_iload (pc := 256) C 4 rfl dL_law_256 ?_
    refine a_bipush (pc := 258) (v := nI 7) C cb_7 dL_law_258 ?_
    obtain ⟨y7, e8⟩ : ∃ v : Int32, t >>> (nI 7 &&& 31) = v := ⟨_, rfl⟩
    refine a_ishr (pc := 260) (v := y7) C e8 dL_law_260 ?_
    refine a_bipush (pc := 261) (v := nI 99) C cb_99 dL_law_261 ?_
    refine a_below (pc := 263) C (by omega) (by omega) (Nat.le_of_ble_eq_true rfl) (Nat.le_of_ble_eq_true rfl) (Nat.le_of_ble_eq_true rfl) ⟨(Nat.le_of_ble_eq_true rfl), (Nat.le_of_ble_eq_true rfl)⟩ dL_law_263 (fun j9 hj10 => ?_)
    refine a_iadd (pc := 266) (v := nI (500 + j9)) C (nI_add _ _) dL_law_266 ?_
    obtain ⟨S1, ⟨h1, h2', h3, h4, h5⟩, hM⟩ := q_addFind κ a hS (u := j3) (s0 := nI 0) (a1 := nI j5 - nI 400) (b1 := nI (500 + j9)) (by omega) ⟨0, by decide, rfl⟩ (yr_a (by omega)) (yr_b (by omega)) ((yr_c (by omega)).resolve_right (by omega)) (by omega)
    refine a_callV1 (pc := 267) (k' := 33) (n' := 1379) (w1 := cS κ a S1 []) C (hM []) yv_X5_addFind ml_L_40 wi_X5_addFind wl_X5_addFind 0 rfl rfl rfl rfl (Nat.le_of_ble_eq_true rfl) (Nat.le_of_ble_eq_true rfl) (Nat.le_of_ble_eq_true rfl) ⟨(Nat.le_of_ble_eq_true rfl), (Nat.le_of_ble_eq_true rfl)⟩ rfl rfl dL_law_267 ?_
    refine a_pop (pc := 270) C rfl dL_law_270 ?_
    refine aw_locals (L' := [(0, .ref bs), (1, .ref (a 0)), (2, .int (nI N)), (3, .int (nI k)), (4, .int t)]) [0, 1, 2, 3, 4] rfl ?_
    exact lw_date C hX hbA hL hN17 h2 hk ⟨h1, by omega, by omega, by omega, fun i => by rw [h5]; exact hdg i⟩ next
  · refine a_ifn_ne_y (pc := 218) (tgt := 271) C (by omega) c (by decide) dL_law_218 ?_
    exact lw_date C hX hbA hL hN17 h2 hk ⟨hS, hN, hr, by omega, hdg⟩ next
set_option maxHeartbeats 4000000 in
set_option maxRecDepth 100000 in
theorem lw_back {g : aG} {κ : aK} {a : Nat → Nat} {bs L0 : Nat} {xs : Nat → Int32} (C : Cx g κ RL cL_law 10 room_1) (hX : va_X bs L0 xs (g_s g) (g_s g).heap) (hbA : ¬ kA κ bs) (hL : L0 < 2 ^ 31) {N : Nat} (hN17 : N ≤ 17) (h2 : 2 ≤ N) {k : Nat} (hk : k < 40) {S : SC} {t : Int32} (hI : IJ N (k + 1) k S) (next : ∀ S' : SC, IJ N (k + 1) (k + 1) S' → aw g κ 10 319 [(0, .ref bs), (1, .ref (a 0)), (2, .int (nI N)), (3, .int (nI k))] [] (cS κ a S' []) 33 1379) : aw g κ 10 183 [(0, .ref bs), (1, .ref (a 0)), (2, .int (nI N)), (3, .int (nI k)), (4, .int t)] [] (cS κ a S []) 33 1379 := by
  obtain ⟨hS, hN, hr, hf, hdg⟩ := hI
  refine a_iloadn (pc := 183) C 3 rfl rfl dL_law_183 ?_
  refine a_bipush (pc := 184) (v := nI 9) C cb_9 dL_law_184 ?_
  refine a_irem (pc := 186) C (by omega) (by decide) (by decide) dL_law_186 ?_
  refine a_bipush (pc := 187) (v := nI 8) C cb_8 dL_law_187 ?_
  by_cases c : k % 9 = 8
  · refine a_icn_ne_n (pc := 189) C (by omega) (by omega) c dL_law_189 ⟨215, by decide⟩ ?_
    refine a_aloadn (pc := 192) C 1 rfl rfl dL_law_192 ?_
    refine a_iconst (pc := 193) (v := nI 1) C ci_1 dL_law_193 ?_
    refine a_callV1 (pc := 194) (k' := 33) (n' := 1379) (w1 := cS κ a S []) C (CM_val (show ctS S 1 = nI (sR S) from rfl) (p_count κ a hS (by decide) [])) yv_X5_count ml_L_26 wi_X5_count wl_X5_count 0 rfl rfl rfl rfl (Nat.le_of_ble_eq_true rfl) (Nat.le_of_ble_eq_true rfl) (Nat.le_of_ble_eq_true rfl) ⟨(Nat.le_of_ble_eq_true rfl), (Nat.le_of_ble_eq_true rfl)⟩ rfl rfl dL_law_194 ?_
    by_cases c2 : sR S = 0
    · refine a_if_le_y (pc := 197) (tgt := 215) C (by rw [c2]; decide +kernel) (by decide) dL_law_197 ?_
      exact lw_find C hX hbA hL hN17 h2 hk ⟨hS, hN, hr, hf, hdg⟩ next
    · refine a_if_le_n (pc := 197) C (nI_nle (by omega) (by omega)) dL_law_197 ⟨215, by decide⟩ ?_
      refine a_aloadn (pc := 200) C 1 rfl rfl dL_law_200 ?_
      refine a_iload (pc := 201) C 4 rfl dL_law_201 ?_
      refine a_aloadn (pc := 203) C 1 rfl rfl dL_law_203 ?_
      refine a_iconst (pc := 204) (v := nI 1) C ci_1 dL_law_204 ?_
      refine a_callV1 (pc := 205) (k' := 33) (n' := 1379) (w1 := cS κ a S []) C (CM_val (show ctS S 1 = nI (sR S) from rfl) (p_count κ a hS (by decide) [])) yv_X5_count ml_L_26 wi_X5_count wl_X5_count 0 rfl rfl rfl rfl (Nat.le_of_ble_eq_true rfl) (Nat.le_of_ble_eq_true rfl) (Nat.le_of_ble_eq_true rfl) ⟨(Nat.le_of_ble_eq_true rfl), (Nat.le_of_ble_eq_true rfl)⟩ rfl rfl dL_law_205 ?_
      refine a_below (pc := 208) C (by omega) (by omega) (Nat.le_of_ble_eq_true rfl) (Nat.le_of_ble_eq_true rfl) (Nat.le_of_ble_eq_true rfl) ⟨(Nat.le_of_ble_eq_true rfl), (Nat.le_of_ble_eq_true rfl)⟩ dL_law_208 (fun j1 hj2 => ?_)
      obtain ⟨S1, ⟨h1, h2', h3, h4, h5⟩, hM⟩ := q_takeBack κ a hS (j := j1) (by omega)
      refine a_callV1 (pc := 211) (k' := 33) (n' := 1379) (w1 := cS κ a S1 []) C (hM []) yv_X5_takeBack ml_L_37 wi_X5_takeBack wl_X5_takeBack 0 rfl rfl rfl rfl (Nat.le_of_ble_eq_true rfl) (Nat.le_of_ble_eq_true rfl) (Nat.le_of_ble_eq_true rfl) ⟨(Nat.le_of_ble_eq_true rfl), (Nat.le_of_ble_eq_true rfl)⟩ rfl rfl dL_law_211 ?_
      refine a_pop (pc := 214) C rfl dL_law_214 ?_
      exact lw_find C hX hbA hL hN17 h2 hk ⟨h1, by omega, by omega, by omega, fun i => by rw [h5]; exact hdg i⟩ next
  · refine a_icn_ne_y (pc := 189) (tgt := 215) C (by omega) (by omega) c (by decide) dL_law_189 ?_
    exact lw_find C hX hbA hL hN17 h2 hk ⟨hS, hN, hr, hf, hdg⟩ next
set_option maxHeartbeats 4000000 in
set_option maxRecDepth 100000 in
theorem lw_tell {g : aG} {κ : aK} {a : Nat → Nat} {bs L0 : Nat} {xs : Nat → Int32} (C : Cx g κ RL cL_law 10 room_1) (hX : va_X bs L0 xs (g_s g) (g_s g).heap) (hbA : ¬ kA κ bs) (hL : L0 < 2 ^ 31) {N : Nat} (hN17 : N ≤ 17) (h2 : 2 ≤ N) {k : Nat} (hk : k < 40) {S : SC} (hI : IJ N k k S) (next : ∀ S' : SC, IJ N (k + 1) (k + 1) S' → aw g κ 10 319 [(0, .ref bs), (1, .ref (a 0)), (2, .int (nI N)), (3, .int (nI k))] [] (cS κ a S' []) 33 1379) : aw g κ 10 67 [(0, .ref bs), (1, .ref (a 0)), (2, .int (nI N)), (3, .int (nI k))] [] (cS κ a S []) 33 1379 := by
  obtain ⟨hS, hN, hr, hf, hdg⟩ := hI
  refine a_aloadn (pc := 67) C 0 rfl rfl dL_law_67 ?_
  refine a_iconst (pc := 68) (v := nI 5) C ci_5 dL_law_68 ?_
  refine a_iloadn (pc := 69) C 3 rfl rfl dL_law_69 ?_
  refine a_bipush (pc := 70) (v := nI 10) C cb_10 dL_law_70 ?_
  refine a_irem (pc := 72) C (by omega) (by decide) (by decide) dL_law_72 ?_
  refine a_iadd (pc := 73) (v := nI (5 + (k % 10))) C (nI_add _ _) dL_law_73 ?_
  refine a_cell (pc := 74) C hX hbA hL (by omega) (Nat.le_of_ble_eq_true rfl) (Nat.le_of_ble_eq_true rfl) (Nat.le_of_ble_eq_true rfl) ⟨(Nat.le_of_ble_eq_true rfl), (Nat.le_of_ble_eq_true rfl)⟩ dL_law_74 (fun x1 => ?_)
  refine a_iloadn (pc := 77) C 3 rfl rfl dL_law_77 ?_
  refine a_bipush (pc := 78) (v := nI 10) C cb_10 dL_law_78 ?_
  refine a_idiv (pc := 80) C (by omega) (by decide) (by decide) dL_law_80 ?_
  refine a_bipush (pc := 81) (v := nI 6) C cb_6 dL_law_81 ?_
  refine a_imul (pc := 83) (v := nI ((k / 10) * 6)) C (pk_mul _ _) dL_law_83 ?_
  obtain ⟨y2, e3⟩ : ∃ v : Int32, x1 >>> (nI ((k / 10) * 6) &&& 31) = v := ⟨_, rfl⟩
  refine a_ishr (pc := 84) (v := y2) C e3 dL_law_84 ?_
  refine a_istore (pc := 85) (L' := [(0, .ref bs), (1, .ref (a 0)), (2, .int (nI N)), (3, .int (nI k)), (4, .int y2)]) C (by decide) rfl dL_law_85 ?_
  refine a_aloadn (pc := 87) C 1 rfl rfl dL_law_87 ?_
  refine a_iconst (pc := 88) (v := nI 1) C ci_1 dL_law_88 ?_
  refine a_callV1 (pc := 89) (k' := 33) (n' := 1379) (w1 := cS κ a S []) C (CM_val (show ctS S 1 = nI (sR S) from rfl) (p_count κ a hS (by decide) [])) yv_X5_count ml_L_26 wi_X5_count wl_X5_count 0 rfl rfl rfl rfl (Nat.le_of_ble_eq_true rfl) (Nat.le_of_ble_eq_true rfl) (Nat.le_of_ble_eq_true rfl) ⟨(Nat.le_of_ble_eq_true rfl), (Nat.le_of_ble_eq_true rfl)⟩ rfl rfl dL_law_89 ?_
  refine a_istore (pc := 92) (L' := [(0, .ref bs), (1, .ref (a 0)), (2, .int (nI N)), (3, .int (nI k)), (4, .int y2), (5, .int (nI (sR S)))]) C (by decide) rfl dL_law_92 ?_
  refine a_aloadn (pc := 94) C 1 rfl rfl dL_law_94 ?_
  refine a_callV1 (pc := 95) (k' := 33) (n' := 1379) (w1 := cS κ a S []) C (p_digest κ a hS []) yv_X5_digest ml_L_29 wi_X5_digest wl_X5_digest 0 rfl rfl rfl rfl (Nat.le_of_ble_eq_true rfl) (Nat.le_of_ble_eq_true rfl) (Nat.le_of_ble_eq_true rfl) ⟨(Nat.le_of_ble_eq_true rfl), (Nat.le_of_ble_eq_true rfl)⟩ rfl rfl dL_law_95 ?_
  refine a_lstore (pc := 98) (L' := [(0, .ref bs), (1, .ref (a 0)), (2, .int (nI N)), (3, .int (nI k)), (4, .int y2), (5, .int (nI (sR S))), (6, .long (dgS2 S))]) C (by decide) rfl dL_law_98 ?_
  refine a_aloadn (pc := 100) C 1 rfl rfl dL_law_100 ?_
  refine a_iload (pc := 101) C 4 rfl dL_law_101 ?_
  refine a_iconst (pc := 103) (v := nI 5) C ci_5 dL_law_103 ?_
  refine a_below (pc := 104) C (by omega) (by omega) (Nat.le_of_ble_eq_true rfl) (Nat.le_of_ble_eq_true rfl) (Nat.le_of_ble_eq_true rfl) ⟨(Nat.le_of_ble_eq_true rfl), (Nat.le_of_ble_eq_true rfl)⟩ dL_law_104 (fun j4 hj5 => ?_)
  refine a_iload (pc := 107) C 4 rfl dL_law_107 ?_
  refine a_iconst (pc := 109) (v := nI 3) C ci_3 dL_law_109 ?_
  obtain ⟨y6, e7⟩ : ∃ v : Int32, y2 >>> (nI 3 &&& 31) = v := ⟨_, rfl⟩
  refine a_ishr (pc := 110) (v := y6) C e7 dL_law_110 ?_
  refine a_iloadn (pc := 111) C 2 rfl rfl dL_law_111 ?_
  refine a_below (pc := 112) C (by omega) (by omega) (Nat.le_of_ble_eq_true rfl) (Nat.le_of_ble_eq_true rfl) (Nat.le_of_ble_eq_true rfl) ⟨(Nat.le_of_ble_eq_true rfl), (Nat.le_of_ble_eq_true rfl)⟩ dL_law_112 (fun j8 hj9 => ?_)
  refine a_iload (pc := 115) C 4 rfl dL_law_115 ?_
  refine a_bipush (pc := 117) (v := nI 8) C cb_8 dL_law_117 ?_
  obtain ⟨y10, e11⟩ : ∃ v : Int32, y2 >>> (nI 8 &&& 31) = v := ⟨_, rfl⟩
  refine a_ishr (pc := 119) (v := y10) C e11 dL_law_119 ?_
  refine a_iloadn (pc := 120) C 3 rfl rfl dL_law_120 ?_
  refine a_bipush (pc := 121) (v := nI 37) C cb_37 dL_law_121 ?_
  refine a_imul (pc := 123) (v := nI (k * 37)) C (pk_mul _ _) dL_law_123 ?_
  obtain ⟨y12, e13⟩ : ∃ v : Int32, y10 ^^^ (nI (k * 37)) = v := ⟨_, rfl⟩
  refine a_ixor (pc := 124) (v := y12) C e13 dL_law_124 ?_
  refine a_iloadn (pc := 125) C 2 rfl rfl dL_law_125 ?_
  refine a_below (pc := 126) C (by omega) (by omega) (Nat.le_of_ble_eq_true rfl) (Nat.le_of_ble_eq_true rfl) (Nat.le_of_ble_eq_true rfl) ⟨(Nat.le_of_ble_eq_true rfl), (Nat.le_of_ble_eq_true rfl)⟩ dL_law_126 (fun j14 hj15 => ?_)
  have hkd : okU 5 (nI j4) := ⟨j4, by omega, rfl⟩
  have hx : j8 < sN S := by omega
  have hy : j14 < sN S := by omega
  have hw5 := whS_lt S (nI j4) j8 j14
  by_cases c : whS S (nI j4) j8 j14 = 0
  · obtain ⟨S1, ⟨h1, h2', h3, h4, h5⟩, hM⟩ := q_relate κ a hS hkd hx hy (by omega) c
    refine a_callV1 (pc := 129) (k' := 33) (n' := 1379) (w1 := cS κ a S1 []) C (CM_val (congrArg nI c) (hM [])) yv_X5_relate ml_L_33 wi_X5_relate wl_X5_relate 0 rfl rfl rfl rfl (Nat.le_of_ble_eq_true rfl) (Nat.le_of_ble_eq_true rfl) (Nat.le_of_ble_eq_true rfl) ⟨(Nat.le_of_ble_eq_true rfl), (Nat.le_of_ble_eq_true rfl)⟩ rfl rfl dL_law_129 ?_
    refine a_istore (pc := 132) (L' := [(0, .ref bs), (1, .ref (a 0)), (2, .int (nI N)), (3, .int (nI k)), (4, .int y2), (5, .int (nI (sR S))), (6, .long (dgS2 S)), (8, .int (nI 0))]) C (by decide) rfl dL_law_132 ?_
    refine a_iload (pc := 134) C 7 rfl dL_law_134 ?_
    refine a_if_lt_n (pc := 136) C (by decide +kernel) dL_law_136 ⟨181, by decide⟩ ?_
    refine a_iload (pc := 139) C 7 rfl dL_law_139 ?_
    refine a_iconst (pc := 141) (v := nI 4) C ci_4 dL_law_141 ?_
    refine a_icn_gt_n (pc := 142) C (by omega) (by omega) (by decide) dL_law_142 ⟨181, by decide⟩ ?_
    refine a_aloadn (pc := 145) C 1 rfl rfl dL_law_145 ?_
    refine a_iconst (pc := 146) (v := nI 1) C ci_1 dL_law_146 ?_
    refine a_callV1 (pc := 147) (k' := 33) (n' := 1379) (w1 := cS κ a S1 []) C (CM_val (show ctS S1 1 = nI (sR S + 1) from congrArg nI h3) (p_count κ a h1 (by decide) [])) yv_X5_count ml_L_26 wi_X5_count wl_X5_count 0 rfl rfl rfl rfl (Nat.le_of_ble_eq_true rfl) (Nat.le_of_ble_eq_true rfl) (Nat.le_of_ble_eq_true rfl) ⟨(Nat.le_of_ble_eq_true rfl), (Nat.le_of_ble_eq_true rfl)⟩ rfl rfl dL_law_147 ?_
    refine a_iload (pc := 150) C 5 rfl dL_law_150 ?_
    refine a_iload (pc := 152) C 7 rfl dL_law_152 ?_
    refine a_ifn_ne_n (pc := 154) C (by omega) rfl dL_law_154 ⟨161, by decide⟩ ?_
    refine a_iconst (pc := 157) (v := nI 1) C ci_1 dL_law_157 ?_
    refine a_goto (pc := 158) (tgt := 162) C (by decide) dL_law_158 ?_
    refine a_iadd (pc := 162) (v := nI ((sR S) + 1)) C (nI_add _ _) dL_law_162 ?_
    refine a_icn_ne_n (pc := 163) C (by omega) (by omega) rfl dL_law_163 ⟨181, by decide⟩ ?_
    refine a_iload (pc := 166) C 7 rfl dL_law_166 ?_
    refine a_if_le_y (pc := 168) (tgt := 183) C (by decide +kernel) (by decide) dL_law_168 ?_
    refine aw_locals (L' := [(0, .ref bs), (1, .ref (a 0)), (2, .int (nI N)), (3, .int (nI k)), (4, .int y2)]) [0, 1, 2, 3, 4] rfl ?_
    exact lw_back C hX hbA hL hN17 h2 hk ⟨h1, by omega, by omega, by omega, fun i => by rw [h5]; exact hdg i⟩ next
  · obtain ⟨S1, ⟨h1, e1⟩, hM⟩ := q_relate_r κ a hS hkd hx hy (by omega) c
    subst e1
    refine a_callV1 (pc := 129) (k' := 33) (n' := 1379) (w1 := cS κ a S1 []) C (hM []) yv_X5_relate ml_L_33 wi_X5_relate wl_X5_relate 0 rfl rfl rfl rfl (Nat.le_of_ble_eq_true rfl) (Nat.le_of_ble_eq_true rfl) (Nat.le_of_ble_eq_true rfl) ⟨(Nat.le_of_ble_eq_true rfl), (Nat.le_of_ble_eq_true rfl)⟩ rfl rfl dL_law_129 ?_
    refine a_istore (pc := 132) (L' := [(0, .ref bs), (1, .ref (a 0)), (2, .int (nI N)), (3, .int (nI k)), (4, .int y2), (5, .int (nI (sR S1))), (6, .long (dgS2 S1)), (8, .int (nI (whS S1 (nI j4) j8 j14)))]) C (by decide) rfl dL_law_132 ?_
    refine a_iload (pc := 134) C 7 rfl dL_law_134 ?_
    refine a_if_lt_n (pc := 136) C (nI_pos (by omega)) dL_law_136 ⟨181, by decide⟩ ?_
    refine a_iload (pc := 139) C 7 rfl dL_law_139 ?_
    refine a_iconst (pc := 141) (v := nI 4) C ci_4 dL_law_141 ?_
    refine a_icn_gt_n (pc := 142) C (by omega) (by omega) (by omega) dL_law_142 ⟨181, by decide⟩ ?_
    refine a_aloadn (pc := 145) C 1 rfl rfl dL_law_145 ?_
    refine a_iconst (pc := 146) (v := nI 1) C ci_1 dL_law_146 ?_
    refine a_callV1 (pc := 147) (k' := 33) (n' := 1379) (w1 := cS κ a S1 []) C (CM_val (show ctS S1 1 = nI (sR S1) from rfl) (p_count κ a hS (by decide) [])) yv_X5_count ml_L_26 wi_X5_count wl_X5_count 0 rfl rfl rfl rfl (Nat.le_of_ble_eq_true rfl) (Nat.le_of_ble_eq_true rfl) (Nat.le_of_ble_eq_true rfl) ⟨(Nat.le_of_ble_eq_true rfl), (Nat.le_of_ble_eq_true rfl)⟩ rfl rfl dL_law_147 ?_
    refine a_iload (pc := 150) C 5 rfl dL_law_150 ?_
    refine a_iload (pc := 152) C 7 rfl dL_law_152 ?_
    refine a_ifn_ne_y (pc := 154) (tgt := 161) C (by omega) c (by decide) dL_law_154 ?_
    refine a_iconst (pc := 161) (v := nI 0) C ci_0 dL_law_161 ?_
    refine a_iadd (pc := 162) (v := nI ((sR S1) + 0)) C (nI_add _ _) dL_law_162 ?_
    refine a_icn_ne_n (pc := 163) C (by omega) (by omega) (Nat.add_zero _).symm dL_law_163 ⟨181, by decide⟩ ?_
    refine a_iload (pc := 166) C 7 rfl dL_law_166 ?_
    refine a_if_le_n (pc := 168) C (nI_nle (by omega) (by omega)) dL_law_168 ⟨183, by decide⟩ ?_
    refine a_aloadn (pc := 171) C 1 rfl rfl dL_law_171 ?_
    refine a_callV1 (pc := 172) (k' := 33) (n' := 1379) (w1 := cS κ a S1 []) C (p_digest κ a hS []) yv_X5_digest ml_L_29 wi_X5_digest wl_X5_digest 0 rfl rfl rfl rfl (Nat.le_of_ble_eq_true rfl) (Nat.le_of_ble_eq_true rfl) (Nat.le_of_ble_eq_true rfl) ⟨(Nat.le_of_ble_eq_true rfl), (Nat.le_of_ble_eq_true rfl)⟩ rfl rfl dL_law_172 ?_
    refine a_lload (pc := 175) C 6 rfl dL_law_175 ?_
    refine a_lcmp (pc := 177) (v := lg_cmp (dgS2 S1) (dgS2 S1)) C rfl dL_law_177 ?_
    refine a_if_eq_y (pc := 178) (tgt := 183) C (lg_cmp_0.mpr rfl) (by decide) dL_law_178 ?_
    refine aw_locals (L' := [(0, .ref bs), (1, .ref (a 0)), (2, .int (nI N)), (3, .int (nI k)), (4, .int y2)]) [0, 1, 2, 3, 4] rfl ?_
    exact lw_back C hX hbA hL hN17 h2 hk ⟨h1, hN, by omega, hf, hdg⟩ next
set_option maxHeartbeats 4000000 in
set_option maxRecDepth 100000 in
theorem lw_fill {g : aG} {κ : aK} {a : Nat → Nat} {bs L0 : Nat} {xs : Nat → Int32} (C : Cx g κ RL cL_law 10 room_1) (hX : va_X bs L0 xs (g_s g) (g_s g).heap) (hbA : ¬ kA κ bs) (hL : L0 < 2 ^ 31) {N : Nat} (hN17 : N ≤ 17) (h2 : 2 ≤ N) (fin : ∀ S : SC, aw g κ 10 1025 [] [.int (nI 1)] (cS κ a S []) 33 1379) : ∀ (jz k : Nat) (S : SC), k + jz = 40 → IJ N k k S → aw g κ 10 61 [(0, .ref bs), (1, .ref (a 0)), (2, .int (nI N)), (3, .int (nI k))] [] (cS κ a S []) 33 1379 := by
  intro jz
  induction jz with
  | zero =>
    intro k S hk hI
    obtain ⟨hS, hN, hr, hf, hdg⟩ := hI
    refine a_iloadn (pc := 61) C 3 rfl rfl dL_law_61 ?_
    refine a_bipush (pc := 62) (v := nI 40) C cb_40 dL_law_62 ?_
    refine a_icn_ge_y (pc := 64) (tgt := 325) C (by omega) (by omega) (by omega) (by decide) dL_law_64 ?_
    refine aw_locals (L' := [(0, .ref bs), (1, .ref (a 0)), (2, .int (nI N))]) [0, 1, 2] rfl ?_
    exact lw_checks C hX hbA hL hS hN hN17 (by omega) hdg fin
  | succ jz ih =>
    intro k S hk hI
    refine a_iloadn (pc := 61) C 3 rfl rfl dL_law_61 ?_
    refine a_bipush (pc := 62) (v := nI 40) C cb_40 dL_law_62 ?_
    refine a_icn_ge_n (pc := 64) C (by omega) (by omega) (by omega) dL_law_64 ⟨325, by decide⟩ ?_
    refine lw_tell C hX hbA hL hN17 h2 (by omega) hI (fun S' hI' => ?_)
    refine a_iinc (pc := 319) (v := nI (k + 1)) (L' := [(0, .ref bs), (1, .ref (a 0)), (2, .int (nI N)), (3, .int (nI (k + 1)))]) C 3 rfl (nI_inc _) (by decide) rfl dL_law_319 ?_
    refine a_goto (pc := 322) (tgt := 61) C (by decide) dL_law_322 ?_
    exact ih (k + 1) S' (by omega) hI'
set_option maxHeartbeats 4000000 in
set_option maxRecDepth 100000 in
theorem lw_units {g : aG} {κ : aK} {a : Nat → Nat} {bs L0 : Nat} {xs : Nat → Int32} (C : Cx g κ RL cL_law 10 room_1) (hX : va_X bs L0 xs (g_s g) (g_s g).heap) (hbA : ¬ kA κ bs) (hL : L0 < 2 ^ 31) {N : Nat} (hN17 : N ≤ 17) (h2 : 2 ≤ N) (fin : ∀ S : SC, aw g κ 10 1025 [] [.int (nI 1)] (cS κ a S []) 33 1379) : ∀ (jz u : Nat) (S : SC), u + jz = N → IJ u 0 0 S → aw g κ 10 24 [(0, .ref bs), (1, .ref (a 0)), (2, .int (nI N)), (3, .int (nI u))] [] (cS κ a S []) 33 1379 := by
  intro jz
  induction jz with
  | zero =>
    intro u S hu hI
    have hu : u = N := by omega
    subst hu
    refine a_iloadn (pc := 24) C 3 rfl rfl dL_law_24 ?_
    refine a_iloadn (pc := 25) C 2 rfl rfl dL_law_25 ?_
    refine a_icn_ge_y (pc := 26) (tgt := 59) C (by omega) (by omega) (Nat.le_refl _) (by decide) dL_law_26 ?_
    refine a_iconst (pc := 59) (v := nI 0) C ci_0 dL_law_59 ?_
    refine a_istoren (pc := 60) (L' := [(0, .ref bs), (1, .ref (a 0)), (2, .int (nI u)), (3, .int (nI 0))]) C (by decide) rfl rfl dL_law_60 ?_
    exact lw_fill C hX hbA hL hN17 h2 fin 40 0 S (by omega) hI
  | succ jz ih =>
    intro u S hu hI
    obtain ⟨hS, hN, hr, hf, hdg⟩ := hI
    refine a_iloadn (pc := 24) C 3 rfl rfl dL_law_24 ?_
    refine a_iloadn (pc := 25) C 2 rfl rfl dL_law_25 ?_
    refine a_icn_ge_n (pc := 26) C (by omega) (by omega) (by omega) dL_law_26 ⟨59, by decide⟩ ?_
    refine a_aloadn (pc := 29) C 1 rfl rfl dL_law_29 ?_
    refine a_aloadn (pc := 30) C 0 rfl rfl dL_law_30 ?_
    refine a_iloadn (pc := 31) C 3 rfl rfl dL_law_31 ?_
    refine a_bipush (pc := 32) (v := nI 6) C cb_6 dL_law_32 ?_
    refine a_irem (pc := 34) C (by omega) (by decide) (by decide) dL_law_34 ?_
    refine a_cell (pc := 35) C hX hbA hL (by omega) (Nat.le_of_ble_eq_true rfl) (Nat.le_of_ble_eq_true rfl) (Nat.le_of_ble_eq_true rfl) ⟨(Nat.le_of_ble_eq_true rfl), (Nat.le_of_ble_eq_true rfl)⟩ dL_law_35 (fun x1 => ?_)
    refine a_iloadn (pc := 38) C 3 rfl rfl dL_law_38 ?_
    refine a_bipush (pc := 39) (v := nI 6) C cb_6 dL_law_39 ?_
    refine a_idiv (pc := 41) C (by omega) (by decide) (by decide) dL_law_41 ?_
    refine a_iconst (pc := 42) (v := nI 3) C ci_3 dL_law_42 ?_
    refine a_imul (pc := 43) (v := nI ((u / 6) * 3)) C (pk_mul _ _) dL_law_43 ?_
    obtain ⟨y2, e3⟩ : ∃ v : Int32, x1 >>> (nI ((u / 6) * 3) &&& 31) = v := ⟨_, rfl⟩
    refine a_ishr (pc := 44) (v := y2) C e3 dL_law_44 ?_
    refine a_iconst (pc := 45) (v := nI 4) C ci_4 dL_law_45 ?_
    refine a_below (pc := 46) C (by omega) (by omega) (Nat.le_of_ble_eq_true rfl) (Nat.le_of_ble_eq_true rfl) (Nat.le_of_ble_eq_true rfl) ⟨(Nat.le_of_ble_eq_true rfl), (Nat.le_of_ble_eq_true rfl)⟩ dL_law_46 (fun j4 hj5 => ?_)
    obtain ⟨S1, ⟨h1, h2', h3, h4, h5⟩, hM⟩ := q_addUnit κ a hS (by omega) (z := nI j4) ⟨j4, by omega, rfl⟩
    refine a_callV1 (pc := 49) (k' := 33) (n' := 1379) (w1 := cS κ a S1 []) C (hM []) yv_X5_addUnit ml_L_22 wi_X5_addUnit wl_X5_addUnit 0 rfl rfl rfl rfl (Nat.le_of_ble_eq_true rfl) (Nat.le_of_ble_eq_true rfl) (Nat.le_of_ble_eq_true rfl) ⟨(Nat.le_of_ble_eq_true rfl), (Nat.le_of_ble_eq_true rfl)⟩ rfl rfl dL_law_49 ?_
    refine a_pop (pc := 52) C rfl dL_law_52 ?_
    refine a_iinc (pc := 53) (v := nI (u + 1)) (L' := [(0, .ref bs), (1, .ref (a 0)), (2, .int (nI N)), (3, .int (nI (u + 1)))]) C 3 rfl (nI_inc _) (by decide) rfl dL_law_53 ?_
    refine a_goto (pc := 56) (tgt := 24) C (by decide) dL_law_56 ?_
    exact ih (u + 1) S1 (by omega) ⟨h1, by omega, by omega, by omega, fun i => by rw [h5]; exact hdg i⟩
