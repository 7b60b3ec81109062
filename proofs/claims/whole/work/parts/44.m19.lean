theorem thr_c (κ : aK) (b : Nat → Nat) (T : SM) : ∃ rm : Room, rmB rm 0 0 ∧ ∀ X : va_W, CM yX6_thrown cX6_thrown 1 (some .int) rm κ [.ref (b 0)] (mS κ b T X) (aD (some (.int T.1)) (mS κ b T X)) := ⟨_, ⟨by decide, by decide, by decide, by decide⟩, fun X => c_X6_thrown κ b⟩
set_option maxHeartbeats 4000000 in
set_option maxRecDepth 100000 in
theorem lc_addUnit {g : aG} {κ : aK} {a b : Nat → Nat} {u bs L : Nat} {xs : Nat → Int32} (C : Cx g κ RL cL_law 9 room_1) (hX : va_X bs L xs (g_s g) (g_s g).heap) (hbl : bs < (g_s g).heap.size) (hbA : ¬ kA κ bs) (hL : L < 2 ^ 31) {j : Nat} (h5 : 5 * j + 5 ≤ L) {I : SC → SM → Prop} {S : SC} {F : Nat → Int64} {T : SM} (hI : I S T) (hK : ∀ (z1 : Int32), KI yL_addUnit cL_addUnit 4 [(0, 9, 12, 13), (0, 9, 15, 15)] yX6_addUnit cX6_addUnit 2 I κ a b u [.int z1]) {k0 n0 : Nat} (hk : k0 + 402 ≤ 601024) (hn : n0 + 4010 ≤ 7293034) (next : ∀ S' F' T', I S' T' → aw g κ 9 1848 [(0, .ref bs), (1, .ref (a 0)), (2, .ref (b 0)), (3, .ref u), (4, .int (nI (5 * j)))] [] (lW κ a b u S' F' T') (k0 + 402) (n0 + 4010)) : aw g κ 9 156 [(0, .ref bs), (1, .ref (a 0)), (2, .ref (b 0)), (3, .ref u), (4, .int (nI (5 * j)))] [] (lW κ a b u S F T) k0 n0 := by
  refine a_aloadn (pc := 156) C 1 rfl rfl dL_law_156 ?_
  refine a_aloadn (pc := 157) C 0 rfl rfl dL_law_157 ?_
  refine a_iload (pc := 158) C 4 rfl dL_law_158 ?_
  refine a_iconst (pc := 160) (v := nI 1) C ci_1 dL_law_160 ?_
  refine a_iadd (pc := 161) (v := nI ((5 * j) + 1)) C (nI_add _ _) dL_law_161 ?_
  refine a_sld (pc := 162) C hX hbl hbA (by omega) hL dL_law_162 ?_
  refine a_aloadn (pc := 163) C 3 rfl rfl dL_law_163 ?_
  obtain ⟨S', T', kk, v, hI', hkk, ⟨rm1, hb1, hW⟩, ⟨rm2, hb2, hR⟩, hth⟩ := hK (xs ((5 * j) + 1)) S T hI
  obtain ⟨hb11, hb12, hb13, hb14⟩ := hb1
  obtain ⟨hb21, hb22, hb23, hb24⟩ := hb2
  obtain ⟨F', hW1, hW2⟩ := hW (mS κ b T []) F
  refine a_callW (pc := 164) C hW1 yw_L_addUnit ml_L_92 ws_L_addUnit rfl rfl (by decide) (by show _ ≤ 11; omega) (by show _ ≤ 396; omega) ⟨by show _ ≤ 601024; omega, by show _ ≤ 7293034; omega⟩ dL_law_164 (fun ro w h => ?_)
  obtain ⟨rfl, rfl⟩ := h
  refine a_istore (pc := 167) (L' := [(0, .ref bs), (1, .ref (a 0)), (2, .ref (b 0)), (3, .ref u), (4, .int (nI (5 * j))), (5, .int (nI kk))]) C (by decide) rfl dL_law_167 ?_
  refine a_aloadn (pc := 169) C 2 rfl rfl dL_law_169 ?_
  refine a_aloadn (pc := 170) C 0 rfl rfl dL_law_170 ?_
  refine a_iload (pc := 171) C 4 rfl dL_law_171 ?_
  refine a_iconst (pc := 173) (v := nI 1) C ci_1 dL_law_173 ?_
  refine a_iadd (pc := 174) (v := nI ((5 * j) + 1)) C (nI_add _ _) dL_law_174 ?_
  refine a_sld (pc := 175) C hX hbl hbA (by omega) hL dL_law_175 ?_
  refine aw_perm (ws' := lM κ a b u S' F' T) lW_perm ?_
  refine a_callV (pc := 176) C (hR (cS κ a S' [oc κ u F'])) yv_X6_addUnit ml_L_97 wi_X6_addUnit wl_X6_addUnit 0 rfl rfl rfl rfl rfl (by decide) (by show _ ≤ 11; omega) (by show _ ≤ 396; omega) ⟨by show _ ≤ 601024; omega, by show _ ≤ 7293034; omega⟩ dL_law_176 (fun ro w h => ?_)
  obtain ⟨rfl, rfl⟩ := h
  refine a_istore (pc := 179) (L' := [(0, .ref bs), (1, .ref (a 0)), (2, .ref (b 0)), (3, .ref u), (4, .int (nI (5 * j))), (5, .int (nI kk)), (6, .int v)]) C (by decide) rfl dL_law_179 ?_
  refine a_aloadn (pc := 181) C 2 rfl rfl dL_law_181 ?_
  obtain ⟨rm3, ⟨hb31, hb32, hb33, hb34⟩, hT3⟩ := thr_c κ b T'
  refine a_callV (pc := 182) C (hT3 (cS κ a S' [oc κ u F'])) yv_X6_thrown ml_L_98 wi_X6_thrown wl_X6_thrown 0 rfl rfl rfl rfl rfl (by decide) (by show _ ≤ 11; omega) (by show _ ≤ 396; omega) ⟨by show _ ≤ 601024; omega, by show _ ≤ 7293034; omega⟩ dL_law_182 (fun ro w h => ?_)
  obtain ⟨rfl, rfl⟩ := h
  refine aw_perm (ws' := lW κ a b u S' F' T') lW_perm.symm ?_
  refine aw_st (st' := [.int (nI kk)]) (by show [Value.int T'.1] = _; rw [hth]) ?_
  refine a_iload (pc := 185) C 5 rfl dL_law_185 ?_
  refine a_icn_eq_y (pc := 187) (tgt := 192) C (by omega) (by omega) rfl (by decide) dL_law_187 ?_
  refine a_iload (pc := 192) C 5 rfl dL_law_192 ?_
  refine a_ifn_ne (pc := 194) (tgt := 209) C (by omega) (by decide) dL_law_194 (fun c1 => ?_) (fun c1 => ?_)
  · refine a_goto (pc := 209) (tgt := 1848) C (by decide) dL_law_209 ?_
    refine aw_locals (L' := [(0, .ref bs), (1, .ref (a 0)), (2, .ref (b 0)), (3, .ref u), (4, .int (nI (5 * j)))]) [0, 1, 2, 3, 4] rfl ?_
    refine aw_room (k' := k0 + 402) (n' := n0 + 4010) (by omega) (by omega) ?_
    exact next S' F' T' hI'
  · have hv := hW2 c1
    refine a_aloadn (pc := 197) C 3 rfl rfl dL_law_197 ?_
    refine a_iconst (pc := 198) (v := nI 0) C ci_0 dL_law_198 ?_
    refine a_lald (pc := 199) C 33 rfl (by decide) (by decide) dL_law_199 ?_
    refine a_iload (pc := 200) C 6 rfl dL_law_200 ?_
    refine a_i2l (pc := 202) (v := v.toInt64) C rfl dL_law_202 ?_
    refine a_lcmp (pc := 203) (v := lg_cmp (F' 0) v.toInt64) C rfl dL_law_203 ?_
    refine a_if_eq_y (pc := 204) (tgt := 209) C (lg_cmp_0.mpr hv) (by decide) dL_law_204 ?_
    refine a_goto (pc := 209) (tgt := 1848) C (by decide) dL_law_209 ?_
    refine aw_locals (L' := [(0, .ref bs), (1, .ref (a 0)), (2, .ref (b 0)), (3, .ref u), (4, .int (nI (5 * j)))]) [0, 1, 2, 3, 4] rfl ?_
    refine aw_room (k' := k0 + 402) (n' := n0 + 4010) (by omega) (by omega) ?_
    exact next S' F' T' hI'

set_option maxHeartbeats 4000000 in
set_option maxRecDepth 100000 in
theorem lc_relate {g : aG} {κ : aK} {a b : Nat → Nat} {u bs L : Nat} {xs : Nat → Int32} (C : Cx g κ RL cL_law 9 room_1) (hX : va_X bs L xs (g_s g) (g_s g).heap) (hbl : bs < (g_s g).heap.size) (hbA : ¬ kA κ bs) (hL : L < 2 ^ 31) {j : Nat} (h5 : 5 * j + 5 ≤ L) {I : SC → SM → Prop} {S : SC} {F : Nat → Int64} {T : SM} (hI : I S T) (hK : ∀ (z1 : Int32) (z2 : Int32) (z3 : Int32), KI yL_relate cL_relate 6 [(0, 12, 15, 13), (0, 12, 19, 21), (0, 12, 23, 15)] yX6_relate cX6_relate 5 I κ a b u [.int z1, .int z2, .int z3]) {k0 n0 : Nat} (hk : k0 + 402 ≤ 601024) (hn : n0 + 4010 ≤ 7293034) (next : ∀ S' F' T', I S' T' → aw g κ 9 1848 [(0, .ref bs), (1, .ref (a 0)), (2, .ref (b 0)), (3, .ref u), (4, .int (nI (5 * j)))] [] (lW κ a b u S' F' T') (k0 + 402) (n0 + 4010)) : aw g κ 9 212 [(0, .ref bs), (1, .ref (a 0)), (2, .ref (b 0)), (3, .ref u), (4, .int (nI (5 * j)))] [] (lW κ a b u S F T) k0 n0 := by
  refine a_aloadn (pc := 212) C 1 rfl rfl dL_law_212 ?_
  refine a_aloadn (pc := 213) C 0 rfl rfl dL_law_213 ?_
  refine a_iload (pc := 214) C 4 rfl dL_law_214 ?_
  refine a_iconst (pc := 216) (v := nI 1) C ci_1 dL_law_216 ?_
  refine a_iadd (pc := 217) (v := nI ((5 * j) + 1)) C (nI_add _ _) dL_law_217 ?_
  refine a_sld (pc := 218) C hX hbl hbA (by omega) hL dL_law_218 ?_
  refine a_aloadn (pc := 219) C 0 rfl rfl dL_law_219 ?_
  refine a_iload (pc := 220) C 4 rfl dL_law_220 ?_
  refine a_iconst (pc := 222) (v := nI 2) C ci_2 dL_law_222 ?_
  refine a_iadd (pc := 223) (v := nI ((5 * j) + 2)) C (nI_add _ _) dL_law_223 ?_
  refine a_sld (pc := 224) C hX hbl hbA (by omega) hL dL_law_224 ?_
  refine a_aloadn (pc := 225) C 0 rfl rfl dL_law_225 ?_
  refine a_iload (pc := 226) C 4 rfl dL_law_226 ?_
  refine a_iconst (pc := 228) (v := nI 3) C ci_3 dL_law_228 ?_
  refine a_iadd (pc := 229) (v := nI ((5 * j) + 3)) C (nI_add _ _) dL_law_229 ?_
  refine a_sld (pc := 230) C hX hbl hbA (by omega) hL dL_law_230 ?_
  refine a_aloadn (pc := 231) C 3 rfl rfl dL_law_231 ?_
  obtain ⟨S', T', kk, v, hI', hkk, ⟨rm1, hb1, hW⟩, ⟨rm2, hb2, hR⟩, hth⟩ := hK (xs ((5 * j) + 1)) (xs ((5 * j) + 2)) (xs ((5 * j) + 3)) S T hI
  obtain ⟨hb11, hb12, hb13, hb14⟩ := hb1
  obtain ⟨hb21, hb22, hb23, hb24⟩ := hb2
  obtain ⟨F', hW1, hW2⟩ := hW (mS κ b T []) F
  refine a_callW (pc := 232) C hW1 yw_L_relate ml_L_102 ws_L_relate rfl rfl (by decide) (by show _ ≤ 11; omega) (by show _ ≤ 396; omega) ⟨by show _ ≤ 601024; omega, by show _ ≤ 7293034; omega⟩ dL_law_232 (fun ro w h => ?_)
  obtain ⟨rfl, rfl⟩ := h
  refine a_istore (pc := 235) (L' := [(0, .ref bs), (1, .ref (a 0)), (2, .ref (b 0)), (3, .ref u), (4, .int (nI (5 * j))), (5, .int (nI kk))]) C (by decide) rfl dL_law_235 ?_
  refine a_aloadn (pc := 237) C 2 rfl rfl dL_law_237 ?_
  refine a_aloadn (pc := 238) C 0 rfl rfl dL_law_238 ?_
  refine a_iload (pc := 239) C 4 rfl dL_law_239 ?_
  refine a_iconst (pc := 241) (v := nI 1) C ci_1 dL_law_241 ?_
  refine a_iadd (pc := 242) (v := nI ((5 * j) + 1)) C (nI_add _ _) dL_law_242 ?_
  refine a_sld (pc := 243) C hX hbl hbA (by omega) hL dL_law_243 ?_
  refine a_aloadn (pc := 244) C 0 rfl rfl dL_law_244 ?_
  refine a_iload (pc := 245) C 4 rfl dL_law_245 ?_
  refine a_iconst (pc := 247) (v := nI 2) C ci_2 dL_law_247 ?_
  refine a_iadd (pc := 248) (v := nI ((5 * j) + 2)) C (nI_add _ _) dL_law_248 ?_
  refine a_sld (pc := 249) C hX hbl hbA (by omega) hL dL_law_249 ?_
  refine a_aloadn (pc := 250) C 0 rfl rfl dL_law_250 ?_
  refine a_iload (pc := 251) C 4 rfl dL_law_251 ?_
  refine a_iconst (pc := 253) (v := nI 3) C ci_3 dL_law_253 ?_
  refine a_iadd (pc := 254) (v := nI ((5 * j) + 3)) C (nI_add _ _) dL_law_254 ?_
  refine a_sld (pc := 255) C hX hbl hbA (by omega) hL dL_law_255 ?_
  refine aw_perm (ws' := lM κ a b u S' F' T) lW_perm ?_
  refine a_callV (pc := 256) C (hR (cS κ a S' [oc κ u F'])) yv_X6_relate ml_L_105 wi_X6_relate wl_X6_relate 0 rfl rfl rfl rfl rfl (by decide) (by show _ ≤ 11; omega) (by show _ ≤ 396; omega) ⟨by show _ ≤ 601024; omega, by show _ ≤ 7293034; omega⟩ dL_law_256 (fun ro w h => ?_)
  obtain ⟨rfl, rfl⟩ := h
  refine a_istore (pc := 259) (L' := [(0, .ref bs), (1, .ref (a 0)), (2, .ref (b 0)), (3, .ref u), (4, .int (nI (5 * j))), (5, .int (nI kk)), (6, .int v)]) C (by decide) rfl dL_law_259 ?_
  refine a_aloadn (pc := 261) C 2 rfl rfl dL_law_261 ?_
  obtain ⟨rm3, ⟨hb31, hb32, hb33, hb34⟩, hT3⟩ := thr_c κ b T'
  refine a_callV (pc := 262) C (hT3 (cS κ a S' [oc κ u F'])) yv_X6_thrown ml_L_98 wi_X6_thrown wl_X6_thrown 0 rfl rfl rfl rfl rfl (by decide) (by show _ ≤ 11; omega) (by show _ ≤ 396; omega) ⟨by show _ ≤ 601024; omega, by show _ ≤ 7293034; omega⟩ dL_law_262 (fun ro w h => ?_)
  obtain ⟨rfl, rfl⟩ := h
  refine aw_perm (ws' := lW κ a b u S' F' T') lW_perm.symm ?_
  refine aw_st (st' := [.int (nI kk)]) (by show [Value.int T'.1] = _; rw [hth]) ?_
  refine a_iload (pc := 265) C 5 rfl dL_law_265 ?_
  refine a_icn_eq_y (pc := 267) (tgt := 272) C (by omega) (by omega) rfl (by decide) dL_law_267 ?_
  refine a_iload (pc := 272) C 5 rfl dL_law_272 ?_
  refine a_ifn_ne (pc := 274) (tgt := 289) C (by omega) (by decide) dL_law_274 (fun c1 => ?_) (fun c1 => ?_)
  · refine a_goto (pc := 289) (tgt := 1848) C (by decide) dL_law_289 ?_
    refine aw_locals (L' := [(0, .ref bs), (1, .ref (a 0)), (2, .ref (b 0)), (3, .ref u), (4, .int (nI (5 * j)))]) [0, 1, 2, 3, 4] rfl ?_
    refine aw_room (k' := k0 + 402) (n' := n0 + 4010) (by omega) (by omega) ?_
    exact next S' F' T' hI'
  · have hv := hW2 c1
    refine a_aloadn (pc := 277) C 3 rfl rfl dL_law_277 ?_
    refine a_iconst (pc := 278) (v := nI 0) C ci_0 dL_law_278 ?_
    refine a_lald (pc := 279) C 33 rfl (by decide) (by decide) dL_law_279 ?_
    refine a_iload (pc := 280) C 6 rfl dL_law_280 ?_
    refine a_i2l (pc := 282) (v := v.toInt64) C rfl dL_law_282 ?_
    refine a_lcmp (pc := 283) (v := lg_cmp (F' 0) v.toInt64) C rfl dL_law_283 ?_
    refine a_if_eq_y (pc := 284) (tgt := 289) C (lg_cmp_0.mpr hv) (by decide) dL_law_284 ?_
    refine a_goto (pc := 289) (tgt := 1848) C (by decide) dL_law_289 ?_
    refine aw_locals (L' := [(0, .ref bs), (1, .ref (a 0)), (2, .ref (b 0)), (3, .ref u), (4, .int (nI (5 * j)))]) [0, 1, 2, 3, 4] rfl ?_
    refine aw_room (k' := k0 + 402) (n' := n0 + 4010) (by omega) (by omega) ?_
    exact next S' F' T' hI'

set_option maxHeartbeats 4000000 in
set_option maxRecDepth 100000 in
theorem lc_takeBack {g : aG} {κ : aK} {a b : Nat → Nat} {u bs L : Nat} {xs : Nat → Int32} (C : Cx g κ RL cL_law 9 room_1) (hX : va_X bs L xs (g_s g) (g_s g).heap) (hbl : bs < (g_s g).heap.size) (hbA : ¬ kA κ bs) (hL : L < 2 ^ 31) {j : Nat} (h5 : 5 * j + 5 ≤ L) {I : SC → SM → Prop} {S : SC} {F : Nat → Int64} {T : SM} (hI : I S T) (hK : ∀ (z1 : Int32), KI yL_takeBack cL_takeBack 4 [(0, 9, 12, 21)] yX6_takeBack cX6_takeBack 3 I κ a b u [.int z1]) {k0 n0 : Nat} (hk : k0 + 402 ≤ 601024) (hn : n0 + 4010 ≤ 7293034) (next : ∀ S' F' T', I S' T' → aw g κ 9 1848 [(0, .ref bs), (1, .ref (a 0)), (2, .ref (b 0)), (3, .ref u), (4, .int (nI (5 * j)))] [] (lW κ a b u S' F' T') (k0 + 402) (n0 + 4010)) : aw g κ 9 292 [(0, .ref bs), (1, .ref (a 0)), (2, .ref (b 0)), (3, .ref u), (4, .int (nI (5 * j)))] [] (lW κ a b u S F T) k0 n0 := by
  refine a_aloadn (pc := 292) C 1 rfl rfl dL_law_292 ?_
  refine a_aloadn (pc := 293) C 0 rfl rfl dL_law_293 ?_
  refine a_iload (pc := 294) C 4 rfl dL_law_294 ?_
  refine a_iconst (pc := 296) (v := nI 1) C ci_1 dL_law_296 ?_
  refine a_iadd (pc := 297) (v := nI ((5 * j) + 1)) C (nI_add _ _) dL_law_297 ?_
  refine a_sld (pc := 298) C hX hbl hbA (by omega) hL dL_law_298 ?_
  refine a_aloadn (pc := 299) C 3 rfl rfl dL_law_299 ?_
  obtain ⟨S', T', kk, v, hI', hkk, ⟨rm1, hb1, hW⟩, ⟨rm2, hb2, hR⟩, hth⟩ := hK (xs ((5 * j) + 1)) S T hI
  obtain ⟨hb11, hb12, hb13, hb14⟩ := hb1
  obtain ⟨hb21, hb22, hb23, hb24⟩ := hb2
  obtain ⟨F', hW1, hW2⟩ := hW (mS κ b T []) F
  refine a_callW (pc := 300) C hW1 yw_L_takeBack ml_L_106 ws_L_takeBack rfl rfl (by decide) (by show _ ≤ 11; omega) (by show _ ≤ 396; omega) ⟨by show _ ≤ 601024; omega, by show _ ≤ 7293034; omega⟩ dL_law_300 (fun ro w h => ?_)
  obtain ⟨rfl, rfl⟩ := h
  refine a_istore (pc := 303) (L' := [(0, .ref bs), (1, .ref (a 0)), (2, .ref (b 0)), (3, .ref u), (4, .int (nI (5 * j))), (5, .int (nI kk))]) C (by decide) rfl dL_law_303 ?_
  refine a_aloadn (pc := 305) C 2 rfl rfl dL_law_305 ?_
  refine a_aloadn (pc := 306) C 0 rfl rfl dL_law_306 ?_
  refine a_iload (pc := 307) C 4 rfl dL_law_307 ?_
  refine a_iconst (pc := 309) (v := nI 1) C ci_1 dL_law_309 ?_
  refine a_iadd (pc := 310) (v := nI ((5 * j) + 1)) C (nI_add _ _) dL_law_310 ?_
  refine a_sld (pc := 311) C hX hbl hbA (by omega) hL dL_law_311 ?_
  refine aw_perm (ws' := lM κ a b u S' F' T) lW_perm ?_
  refine a_callV (pc := 312) C (hR (cS κ a S' [oc κ u F'])) yv_X6_takeBack ml_L_108 wi_X6_takeBack wl_X6_takeBack 0 rfl rfl rfl rfl rfl (by decide) (by show _ ≤ 11; omega) (by show _ ≤ 396; omega) ⟨by show _ ≤ 601024; omega, by show _ ≤ 7293034; omega⟩ dL_law_312 (fun ro w h => ?_)
  obtain ⟨rfl, rfl⟩ := h
  refine a_istore (pc := 315) (L' := [(0, .ref bs), (1, .ref (a 0)), (2, .ref (b 0)), (3, .ref u), (4, .int (nI (5 * j))), (5, .int (nI kk)), (6, .int v)]) C (by decide) rfl dL_law_315 ?_
  refine a_aloadn (pc := 317) C 2 rfl rfl dL_law_317 ?_
  obtain ⟨rm3, ⟨hb31, hb32, hb33, hb34⟩, hT3⟩ := thr_c κ b T'
  refine a_callV (pc := 318) C (hT3 (cS κ a S' [oc κ u F'])) yv_X6_thrown ml_L_98 wi_X6_thrown wl_X6_thrown 0 rfl rfl rfl rfl rfl (by decide) (by show _ ≤ 11; omega) (by show _ ≤ 396; omega) ⟨by show _ ≤ 601024; omega, by show _ ≤ 7293034; omega⟩ dL_law_318 (fun ro w h => ?_)
  obtain ⟨rfl, rfl⟩ := h
  refine aw_perm (ws' := lW κ a b u S' F' T') lW_perm.symm ?_
  refine aw_st (st' := [.int (nI kk)]) (by show [Value.int T'.1] = _; rw [hth]) ?_
  refine a_iload (pc := 321) C 5 rfl dL_law_321 ?_
  refine a_icn_eq_y (pc := 323) (tgt := 328) C (by omega) (by omega) rfl (by decide) dL_law_323 ?_
  refine a_iload (pc := 328) C 5 rfl dL_law_328 ?_
  refine a_ifn_ne (pc := 330) (tgt := 345) C (by omega) (by decide) dL_law_330 (fun c1 => ?_) (fun c1 => ?_)
  · refine a_goto (pc := 345) (tgt := 1848) C (by decide) dL_law_345 ?_
    refine aw_locals (L' := [(0, .ref bs), (1, .ref (a 0)), (2, .ref (b 0)), (3, .ref u), (4, .int (nI (5 * j)))]) [0, 1, 2, 3, 4] rfl ?_
    refine aw_room (k' := k0 + 402) (n' := n0 + 4010) (by omega) (by omega) ?_
    exact next S' F' T' hI'
  · have hv := hW2 c1
    refine a_aloadn (pc := 333) C 3 rfl rfl dL_law_333 ?_
    refine a_iconst (pc := 334) (v := nI 0) C ci_0 dL_law_334 ?_
    refine a_lald (pc := 335) C 33 rfl (by decide) (by decide) dL_law_335 ?_
    refine a_iload (pc := 336) C 6 rfl dL_law_336 ?_
    refine a_i2l (pc := 338) (v := v.toInt64) C rfl dL_law_338 ?_
    refine a_lcmp (pc := 339) (v := lg_cmp (F' 0) v.toInt64) C rfl dL_law_339 ?_
    refine a_if_eq_y (pc := 340) (tgt := 345) C (lg_cmp_0.mpr hv) (by decide) dL_law_340 ?_
    refine a_goto (pc := 345) (tgt := 1848) C (by decide) dL_law_345 ?_
    refine aw_locals (L' := [(0, .ref bs), (1, .ref (a 0)), (2, .ref (b 0)), (3, .ref u), (4, .int (nI (5 * j)))]) [0, 1, 2, 3, 4] rfl ?_
    refine aw_room (k' := k0 + 402) (n' := n0 + 4010) (by omega) (by omega) ?_
    exact next S' F' T' hI'

set_option maxHeartbeats 4000000 in
set_option maxRecDepth 100000 in
theorem lc_relation {g : aG} {κ : aK} {a b : Nat → Nat} {u bs L : Nat} {xs : Nat → Int32} (C : Cx g κ RL cL_law 9 room_1) (hX : va_X bs L xs (g_s g) (g_s g).heap) (hbl : bs < (g_s g).heap.size) (hbA : ¬ kA κ bs) (hL : L < 2 ^ 31) {j : Nat} (h5 : 5 * j + 5 ≤ L) {I : SC → SM → Prop} {S : SC} {F : Nat → Int64} {T : SM} (hI : I S T) (hK : ∀ (z1 : Int32) (z2 : Int32), KI yL_relation cL_relation 5 [(0, 10, 13, 21)] yX6_relation cX6_relation 3 I κ a b u [.int z1, .int z2]) {k0 n0 : Nat} (hk : k0 + 402 ≤ 601024) (hn : n0 + 4010 ≤ 7293034) (next : ∀ S' F' T', I S' T' → aw g κ 9 1848 [(0, .ref bs), (1, .ref (a 0)), (2, .ref (b 0)), (3, .ref u), (4, .int (nI (5 * j)))] [] (lW κ a b u S' F' T') (k0 + 402) (n0 + 4010)) : aw g κ 9 348 [(0, .ref bs), (1, .ref (a 0)), (2, .ref (b 0)), (3, .ref u), (4, .int (nI (5 * j)))] [] (lW κ a b u S F T) k0 n0 := by
  refine a_aloadn (pc := 348) C 1 rfl rfl dL_law_348 ?_
  refine a_aloadn (pc := 349) C 0 rfl rfl dL_law_349 ?_
  refine a_iload (pc := 350) C 4 rfl dL_law_350 ?_
  refine a_iconst (pc := 352) (v := nI 1) C ci_1 dL_law_352 ?_
  refine a_iadd (pc := 353) (v := nI ((5 * j) + 1)) C (nI_add _ _) dL_law_353 ?_
  refine a_sld (pc := 354) C hX hbl hbA (by omega) hL dL_law_354 ?_
  refine a_aloadn (pc := 355) C 0 rfl rfl dL_law_355 ?_
  refine a_iload (pc := 356) C 4 rfl dL_law_356 ?_
  refine a_iconst (pc := 358) (v := nI 2) C ci_2 dL_law_358 ?_
  refine a_iadd (pc := 359) (v := nI ((5 * j) + 2)) C (nI_add _ _) dL_law_359 ?_
  refine a_sld (pc := 360) C hX hbl hbA (by omega) hL dL_law_360 ?_
  refine a_aloadn (pc := 361) C 3 rfl rfl dL_law_361 ?_
  obtain ⟨S', T', kk, v, hI', hkk, ⟨rm1, hb1, hW⟩, ⟨rm2, hb2, hR⟩, hth⟩ := hK (xs ((5 * j) + 1)) (xs ((5 * j) + 2)) S T hI
  obtain ⟨hb11, hb12, hb13, hb14⟩ := hb1
  obtain ⟨hb21, hb22, hb23, hb24⟩ := hb2
  obtain ⟨F', hW1, hW2⟩ := hW (mS κ b T []) F
  refine a_callW (pc := 362) C hW1 yw_L_relation ml_L_109 ws_L_relation rfl rfl (by decide) (by show _ ≤ 11; omega) (by show _ ≤ 396; omega) ⟨by show _ ≤ 601024; omega, by show _ ≤ 7293034; omega⟩ dL_law_362 (fun ro w h => ?_)
  obtain ⟨rfl, rfl⟩ := h
  refine a_istore (pc := 365) (L' := [(0, .ref bs), (1, .ref (a 0)), (2, .ref (b 0)), (3, .ref u), (4, .int (nI (5 * j))), (5, .int (nI kk))]) C (by decide) rfl dL_law_365 ?_
  refine a_aloadn (pc := 367) C 2 rfl rfl dL_law_367 ?_
  refine a_aloadn (pc := 368) C 0 rfl rfl dL_law_368 ?_
  refine a_iload (pc := 369) C 4 rfl dL_law_369 ?_
  refine a_iconst (pc := 371) (v := nI 1) C ci_1 dL_law_371 ?_
  refine a_iadd (pc := 372) (v := nI ((5 * j) + 1)) C (nI_add _ _) dL_law_372 ?_
  refine a_sld (pc := 373) C hX hbl hbA (by omega) hL dL_law_373 ?_
  refine a_aloadn (pc := 374) C 0 rfl rfl dL_law_374 ?_
  refine a_iload (pc := 375) C 4 rfl dL_law_375 ?_
  refine a_iconst (pc := 377) (v := nI 2) C ci_2 dL_law_377 ?_
  refine a_iadd (pc := 378) (v := nI ((5 * j) + 2)) C (nI_add _ _) dL_law_378 ?_
  refine a_sld (pc := 379) C hX hbl hbA (by omega) hL dL_law_379 ?_
  refine aw_perm (ws' := lM κ a b u S' F' T) lW_perm ?_
  refine a_callV (pc := 380) C (hR (cS κ a S' [oc κ u F'])) yv_X6_relation ml_L_112 wi_X6_relation wl_X6_relation 0 rfl rfl rfl rfl rfl (by decide) (by show _ ≤ 11; omega) (by show _ ≤ 396; omega) ⟨by show _ ≤ 601024; omega, by show _ ≤ 7293034; omega⟩ dL_law_380 (fun ro w h => ?_)
  obtain ⟨rfl, rfl⟩ := h
  refine a_istore (pc := 383) (L' := [(0, .ref bs), (1, .ref (a 0)), (2, .ref (b 0)), (3, .ref u), (4, .int (nI (5 * j))), (5, .int (nI kk)), (6, .int v)]) C (by decide) rfl dL_law_383 ?_
  refine a_aloadn (pc := 385) C 2 rfl rfl dL_law_385 ?_
  obtain ⟨rm3, ⟨hb31, hb32, hb33, hb34⟩, hT3⟩ := thr_c κ b T'
  refine a_callV (pc := 386) C (hT3 (cS κ a S' [oc κ u F'])) yv_X6_thrown ml_L_98 wi_X6_thrown wl_X6_thrown 0 rfl rfl rfl rfl rfl (by decide) (by show _ ≤ 11; omega) (by show _ ≤ 396; omega) ⟨by show _ ≤ 601024; omega, by show _ ≤ 7293034; omega⟩ dL_law_386 (fun ro w h => ?_)
  obtain ⟨rfl, rfl⟩ := h
  refine aw_perm (ws' := lW κ a b u S' F' T') lW_perm.symm ?_
  refine aw_st (st' := [.int (nI kk)]) (by show [Value.int T'.1] = _; rw [hth]) ?_
  refine a_iload (pc := 389) C 5 rfl dL_law_389 ?_
  refine a_icn_eq_y (pc := 391) (tgt := 396) C (by omega) (by omega) rfl (by decide) dL_law_391 ?_
  refine a_iload (pc := 396) C 5 rfl dL_law_396 ?_
  refine a_ifn_ne (pc := 398) (tgt := 413) C (by omega) (by decide) dL_law_398 (fun c1 => ?_) (fun c1 => ?_)
  · refine a_goto (pc := 413) (tgt := 1848) C (by decide) dL_law_413 ?_
    refine aw_locals (L' := [(0, .ref bs), (1, .ref (a 0)), (2, .ref (b 0)), (3, .ref u), (4, .int (nI (5 * j)))]) [0, 1, 2, 3, 4] rfl ?_
    refine aw_room (k' := k0 + 402) (n' := n0 + 4010) (by omega) (by omega) ?_
    exact next S' F' T' hI'
  · have hv := hW2 c1
    refine a_aloadn (pc := 401) C 3 rfl rfl dL_law_401 ?_
    refine a_iconst (pc := 402) (v := nI 0) C ci_0 dL_law_402 ?_
    refine a_lald (pc := 403) C 33 rfl (by decide) (by decide) dL_law_403 ?_
    refine a_iload (pc := 404) C 6 rfl dL_law_404 ?_
    refine a_i2l (pc := 406) (v := v.toInt64) C rfl dL_law_406 ?_
    refine a_lcmp (pc := 407) (v := lg_cmp (F' 0) v.toInt64) C rfl dL_law_407 ?_
    refine a_if_eq_y (pc := 408) (tgt := 413) C (lg_cmp_0.mpr hv) (by decide) dL_law_408 ?_
    refine a_goto (pc := 413) (tgt := 1848) C (by decide) dL_law_413 ?_
    refine aw_locals (L' := [(0, .ref bs), (1, .ref (a 0)), (2, .ref (b 0)), (3, .ref u), (4, .int (nI (5 * j)))]) [0, 1, 2, 3, 4] rfl ?_
    refine aw_room (k' := k0 + 402) (n' := n0 + 4010) (by omega) (by omega) ?_
    exact next S' F' T' hI'

set_option maxHeartbeats 4000000 in
set_option maxRecDepth 100000 in
theorem lc_count {g : aG} {κ : aK} {a b : Nat → Nat} {u bs L : Nat} {xs : Nat → Int32} (C : Cx g κ RL cL_law 9 room_1) (hX : va_X bs L xs (g_s g) (g_s g).heap) (hbl : bs < (g_s g).heap.size) (hbA : ¬ kA κ bs) (hL : L < 2 ^ 31) {j : Nat} (h5 : 5 * j + 5 ≤ L) {I : SC → SM → Prop} {S : SC} {F : Nat → Int64} {T : SM} (hI : I S T) (hK : ∀ (z1 : Int32), KI yL_count cL_count 4 [(0, 9, 12, 21)] yX6_count cX6_count 2 I κ a b u [.int z1]) {k0 n0 : Nat} (hk : k0 + 402 ≤ 601024) (hn : n0 + 4010 ≤ 7293034) (next : ∀ S' F' T', I S' T' → aw g κ 9 1848 [(0, .ref bs), (1, .ref (a 0)), (2, .ref (b 0)), (3, .ref u), (4, .int (nI (5 * j)))] [] (lW κ a b u S' F' T') (k0 + 402) (n0 + 4010)) : aw g κ 9 416 [(0, .ref bs), (1, .ref (a 0)), (2, .ref (b 0)), (3, .ref u), (4, .int (nI (5 * j)))] [] (lW κ a b u S F T) k0 n0 := by
  refine a_aloadn (pc := 416) C 1 rfl rfl dL_law_416 ?_
  refine a_aloadn (pc := 417) C 0 rfl rfl dL_law_417 ?_
  refine a_iload (pc := 418) C 4 rfl dL_law_418 ?_
  refine a_iconst (pc := 420) (v := nI 1) C ci_1 dL_law_420 ?_
  refine a_iadd (pc := 421) (v := nI ((5 * j) + 1)) C (nI_add _ _) dL_law_421 ?_
  refine a_sld (pc := 422) C hX hbl hbA (by omega) hL dL_law_422 ?_
  refine a_aloadn (pc := 423) C 3 rfl rfl dL_law_423 ?_
  obtain ⟨S', T', kk, v, hI', hkk, ⟨rm1, hb1, hW⟩, ⟨rm2, hb2, hR⟩, hth⟩ := hK (xs ((5 * j) + 1)) S T hI
  obtain ⟨hb11, hb12, hb13, hb14⟩ := hb1
  obtain ⟨hb21, hb22, hb23, hb24⟩ := hb2
  obtain ⟨F', hW1, hW2⟩ := hW (mS κ b T []) F
  refine a_callW (pc := 424) C hW1 yw_L_count ml_L_113 ws_L_count rfl rfl (by decide) (by show _ ≤ 11; omega) (by show _ ≤ 396; omega) ⟨by show _ ≤ 601024; omega, by show _ ≤ 7293034; omega⟩ dL_law_424 (fun ro w h => ?_)
  obtain ⟨rfl, rfl⟩ := h
  refine a_istore (pc := 427) (L' := [(0, .ref bs), (1, .ref (a 0)), (2, .ref (b 0)), (3, .ref u), (4, .int (nI (5 * j))), (5, .int (nI kk))]) C (by decide) rfl dL_law_427 ?_
  refine a_aloadn (pc := 429) C 2 rfl rfl dL_law_429 ?_
  refine a_aloadn (pc := 430) C 0 rfl rfl dL_law_430 ?_
  refine a_iload (pc := 431) C 4 rfl dL_law_431 ?_
  refine a_iconst (pc := 433) (v := nI 1) C ci_1 dL_law_433 ?_
  refine a_iadd (pc := 434) (v := nI ((5 * j) + 1)) C (nI_add _ _) dL_law_434 ?_
  refine a_sld (pc := 435) C hX hbl hbA (by omega) hL dL_law_435 ?_
  refine aw_perm (ws' := lM κ a b u S' F' T) lW_perm ?_
  refine a_callV (pc := 436) C (hR (cS κ a S' [oc κ u F'])) yv_X6_count ml_L_115 wi_X6_count wl_X6_count 0 rfl rfl rfl rfl rfl (by decide) (by show _ ≤ 11; omega) (by show _ ≤ 396; omega) ⟨by show _ ≤ 601024; omega, by show _ ≤ 7293034; omega⟩ dL_law_436 (fun ro w h => ?_)
  obtain ⟨rfl, rfl⟩ := h
  refine a_istore (pc := 439) (L' := [(0, .ref bs), (1, .ref (a 0)), (2, .ref (b 0)), (3, .ref u), (4, .int (nI (5 * j))), (5, .int (nI kk)), (6, .int v)]) C (by decide) rfl dL_law_439 ?_
  refine a_aloadn (pc := 441) C 2 rfl rfl dL_law_441 ?_
  obtain ⟨rm3, ⟨hb31, hb32, hb33, hb34⟩, hT3⟩ := thr_c κ b T'
  refine a_callV (pc := 442) C (hT3 (cS κ a S' [oc κ u F'])) yv_X6_thrown ml_L_98 wi_X6_thrown wl_X6_thrown 0 rfl rfl rfl rfl rfl (by decide) (by show _ ≤ 11; omega) (by show _ ≤ 396; omega) ⟨by show _ ≤ 601024; omega, by show _ ≤ 7293034; omega⟩ dL_law_442 (fun ro w h => ?_)
  obtain ⟨rfl, rfl⟩ := h
  refine aw_perm (ws' := lW κ a b u S' F' T') lW_perm.symm ?_
  refine aw_st (st' := [.int (nI kk)]) (by show [Value.int T'.1] = _; rw [hth]) ?_
  refine a_iload (pc := 445) C 5 rfl dL_law_445 ?_
  refine a_icn_eq_y (pc := 447) (tgt := 452) C (by omega) (by omega) rfl (by decide) dL_law_447 ?_
  refine a_iload (pc := 452) C 5 rfl dL_law_452 ?_
  refine a_ifn_ne (pc := 454) (tgt := 469) C (by omega) (by decide) dL_law_454 (fun c1 => ?_) (fun c1 => ?_)
  · refine a_goto (pc := 469) (tgt := 1848) C (by decide) dL_law_469 ?_
    refine aw_locals (L' := [(0, .ref bs), (1, .ref (a 0)), (2, .ref (b 0)), (3, .ref u), (4, .int (nI (5 * j)))]) [0, 1, 2, 3, 4] rfl ?_
    refine aw_room (k' := k0 + 402) (n' := n0 + 4010) (by omega) (by omega) ?_
    exact next S' F' T' hI'
  · have hv := hW2 c1
    refine a_aloadn (pc := 457) C 3 rfl rfl dL_law_457 ?_
    refine a_iconst (pc := 458) (v := nI 0) C ci_0 dL_law_458 ?_
    refine a_lald (pc := 459) C 33 rfl (by decide) (by decide) dL_law_459 ?_
    refine a_iload (pc := 460) C 6 rfl dL_law_460 ?_
    refine a_i2l (pc := 462) (v := v.toInt64) C rfl dL_law_462 ?_
    refine a_lcmp (pc := 463) (v := lg_cmp (F' 0) v.toInt64) C rfl dL_law_463 ?_
    refine a_if_eq_y (pc := 464) (tgt := 469) C (lg_cmp_0.mpr hv) (by decide) dL_law_464 ?_
    refine a_goto (pc := 469) (tgt := 1848) C (by decide) dL_law_469 ?_
    refine aw_locals (L' := [(0, .ref bs), (1, .ref (a 0)), (2, .ref (b 0)), (3, .ref u), (4, .int (nI (5 * j)))]) [0, 1, 2, 3, 4] rfl ?_
    refine aw_room (k' := k0 + 402) (n' := n0 + 4010) (by omega) (by omega) ?_
    exact next S' F' T' hI'

set_option maxHeartbeats 4000000 in
set_option maxRecDepth 100000 in
theorem lc_unit {g : aG} {κ : aK} {a b : Nat → Nat} {u bs L : Nat} {xs : Nat → Int32} (C : Cx g κ RL cL_law 9 room_1) (hX : va_X bs L xs (g_s g) (g_s g).heap) (hbl : bs < (g_s g).heap.size) (hbA : ¬ kA κ bs) (hL : L < 2 ^ 31) {j : Nat} (h5 : 5 * j + 5 ≤ L) {I : SC → SM → Prop} {S : SC} {F : Nat → Int64} {T : SM} (hI : I S T) (hK : ∀ (z1 : Int32) (z2 : Int32), KI yL_unit cL_unit 5 [(0, 10, 13, 21)] yX6_unit cX6_unit 3 I κ a b u [.int z1, .int z2]) {k0 n0 : Nat} (hk : k0 + 402 ≤ 601024) (hn : n0 + 4010 ≤ 7293034) (next : ∀ S' F' T', I S' T' → aw g κ 9 1848 [(0, .ref bs), (1, .ref (a 0)), (2, .ref (b 0)), (3, .ref u), (4, .int (nI (5 * j)))] [] (lW κ a b u S' F' T') (k0 + 402) (n0 + 4010)) : aw g κ 9 472 [(0, .ref bs), (1, .ref (a 0)), (2, .ref (b 0)), (3, .ref u), (4, .int (nI (5 * j)))] [] (lW κ a b u S F T) k0 n0 := by
  refine a_aloadn (pc := 472) C 1 rfl rfl dL_law_472 ?_
  refine a_aloadn (pc := 473) C 0 rfl rfl dL_law_473 ?_
  refine a_iload (pc := 474) C 4 rfl dL_law_474 ?_
  refine a_iconst (pc := 476) (v := nI 1) C ci_1 dL_law_476 ?_
  refine a_iadd (pc := 477) (v := nI ((5 * j) + 1)) C (nI_add _ _) dL_law_477 ?_
  refine a_sld (pc := 478) C hX hbl hbA (by omega) hL dL_law_478 ?_
  refine a_aloadn (pc := 479) C 0 rfl rfl dL_law_479 ?_
  refine a_iload (pc := 480) C 4 rfl dL_law_480 ?_
  refine a_iconst (pc := 482) (v := nI 2) C ci_2 dL_law_482 ?_
  refine a_iadd (pc := 483) (v := nI ((5 * j) + 2)) C (nI_add _ _) dL_law_483 ?_
  refine a_sld (pc := 484) C hX hbl hbA (by omega) hL dL_law_484 ?_
  refine a_aloadn (pc := 485) C 3 rfl rfl dL_law_485 ?_
  obtain ⟨S', T', kk, v, hI', hkk, ⟨rm1, hb1, hW⟩, ⟨rm2, hb2, hR⟩, hth⟩ := hK (xs ((5 * j) + 1)) (xs ((5 * j) + 2)) S T hI
  obtain ⟨hb11, hb12, hb13, hb14⟩ := hb1
  obtain ⟨hb21, hb22, hb23, hb24⟩ := hb2
  obtain ⟨F', hW1, hW2⟩ := hW (mS κ b T []) F
  refine a_callW (pc := 486) C hW1 yw_L_unit ml_L_116 ws_L_unit rfl rfl (by decide) (by show _ ≤ 11; omega) (by show _ ≤ 396; omega) ⟨by show _ ≤ 601024; omega, by show _ ≤ 7293034; omega⟩ dL_law_486 (fun ro w h => ?_)
  obtain ⟨rfl, rfl⟩ := h
  refine a_istore (pc := 489) (L' := [(0, .ref bs), (1, .ref (a 0)), (2, .ref (b 0)), (3, .ref u), (4, .int (nI (5 * j))), (5, .int (nI kk))]) C (by decide) rfl dL_law_489 ?_
  refine a_aloadn (pc := 491) C 2 rfl rfl dL_law_491 ?_
  refine a_aloadn (pc := 492) C 0 rfl rfl dL_law_492 ?_
  refine a_iload (pc := 493) C 4 rfl dL_law_493 ?_
  refine a_iconst (pc := 495) (v := nI 1) C ci_1 dL_law_495 ?_
  refine a_iadd (pc := 496) (v := nI ((5 * j) + 1)) C (nI_add _ _) dL_law_496 ?_
  refine a_sld (pc := 497) C hX hbl hbA (by omega) hL dL_law_497 ?_
  refine a_aloadn (pc := 498) C 0 rfl rfl dL_law_498 ?_
  refine a_iload (pc := 499) C 4 rfl dL_law_499 ?_
  refine a_iconst (pc := 501) (v := nI 2) C ci_2 dL_law_501 ?_
  refine a_iadd (pc := 502) (v := nI ((5 * j) + 2)) C (nI_add _ _) dL_law_502 ?_
  refine a_sld (pc := 503) C hX hbl hbA (by omega) hL dL_law_503 ?_
  refine aw_perm (ws' := lM κ a b u S' F' T) lW_perm ?_
  refine a_callV (pc := 504) C (hR (cS κ a S' [oc κ u F'])) yv_X6_unit ml_L_118 wi_X6_unit wl_X6_unit 0 rfl rfl rfl rfl rfl (by decide) (by show _ ≤ 11; omega) (by show _ ≤ 396; omega) ⟨by show _ ≤ 601024; omega, by show _ ≤ 7293034; omega⟩ dL_law_504 (fun ro w h => ?_)
  obtain ⟨rfl, rfl⟩ := h
  refine a_istore (pc := 507) (L' := [(0, .ref bs), (1, .ref (a 0)), (2, .ref (b 0)), (3, .ref u), (4, .int (nI (5 * j))), (5, .int (nI kk)), (6, .int v)]) C (by decide) rfl dL_law_507 ?_
  refine a_aloadn (pc := 509) C 2 rfl rfl dL_law_509 ?_
  obtain ⟨rm3, ⟨hb31, hb32, hb33, hb34⟩, hT3⟩ := thr_c κ b T'
  refine a_callV (pc := 510) C (hT3 (cS κ a S' [oc κ u F'])) yv_X6_thrown ml_L_98 wi_X6_thrown wl_X6_thrown 0 rfl rfl rfl rfl rfl (by decide) (by show _ ≤ 11; omega) (by show _ ≤ 396; omega) ⟨by show _ ≤ 601024; omega, by show _ ≤ 7293034; omega⟩ dL_law_510 (fun ro w h => ?_)
  obtain ⟨rfl, rfl⟩ := h
  refine aw_perm (ws' := lW κ a b u S' F' T') lW_perm.symm ?_
  refine aw_st (st' := [.int (nI kk)]) (by show [Value.int T'.1] = _; rw [hth]) ?_
  refine a_iload (pc := 513) C 5 rfl dL_law_513 ?_
  refine a_icn_eq_y (pc := 515) (tgt := 520) C (by omega) (by omega) rfl (by decide) dL_law_515 ?_
  refine a_iload (pc := 520) C 5 rfl dL_law_520 ?_
  refine a_ifn_ne (pc := 522) (tgt := 537) C (by omega) (by decide) dL_law_522 (fun c1 => ?_) (fun c1 => ?_)
  · refine a_goto (pc := 537) (tgt := 1848) C (by decide) dL_law_537 ?_
    refine aw_locals (L' := [(0, .ref bs), (1, .ref (a 0)), (2, .ref (b 0)), (3, .ref u), (4, .int (nI (5 * j)))]) [0, 1, 2, 3, 4] rfl ?_
    refine aw_room (k' := k0 + 402) (n' := n0 + 4010) (by omega) (by omega) ?_
    exact next S' F' T' hI'
  · have hv := hW2 c1
    refine a_aloadn (pc := 525) C 3 rfl rfl dL_law_525 ?_
    refine a_iconst (pc := 526) (v := nI 0) C ci_0 dL_law_526 ?_
    refine a_lald (pc := 527) C 33 rfl (by decide) (by decide) dL_law_527 ?_
    refine a_iload (pc := 528) C 6 rfl dL_law_528 ?_
    refine a_i2l (pc := 530) (v := v.toInt64) C rfl dL_law_530 ?_
    refine a_lcmp (pc := 531) (v := lg_cmp (F' 0) v.toInt64) C rfl dL_law_531 ?_
    refine a_if_eq_y (pc := 532) (tgt := 537) C (lg_cmp_0.mpr hv) (by decide) dL_law_532 ?_
    refine a_goto (pc := 537) (tgt := 1848) C (by decide) dL_law_537 ?_
    refine aw_locals (L' := [(0, .ref bs), (1, .ref (a 0)), (2, .ref (b 0)), (3, .ref u), (4, .int (nI (5 * j)))]) [0, 1, 2, 3, 4] rfl ?_
    refine aw_room (k' := k0 + 402) (n' := n0 + 4010) (by omega) (by omega) ?_
    exact next S' F' T' hI'

set_option maxHeartbeats 4000000 in
set_option maxRecDepth 100000 in
theorem lc_order {g : aG} {κ : aK} {a b : Nat → Nat} {u bs L : Nat} {xs : Nat → Int32} (C : Cx g κ RL cL_law 9 room_1) (hX : va_X bs L xs (g_s g) (g_s g).heap) (hbl : bs < (g_s g).heap.size) (hbA : ¬ kA κ bs) (hL : L < 2 ^ 31) {j : Nat} (h5 : 5 * j + 5 ≤ L) {I : SC → SM → Prop} {S : SC} {F : Nat → Int64} {T : SM} (hI : I S T) (hK : ∀ (z1 : Int32) (z2 : Int32), KI yL_order cL_order 5 [(0, 10, 13, 21)] yX6_order cX6_order 3 I κ a b u [.int z1, .int z2]) {k0 n0 : Nat} (hk : k0 + 402 ≤ 601024) (hn : n0 + 4010 ≤ 7293034) (next : ∀ S' F' T', I S' T' → aw g κ 9 1848 [(0, .ref bs), (1, .ref (a 0)), (2, .ref (b 0)), (3, .ref u), (4, .int (nI (5 * j)))] [] (lW κ a b u S' F' T') (k0 + 402) (n0 + 4010)) : aw g κ 9 540 [(0, .ref bs), (1, .ref (a 0)), (2, .ref (b 0)), (3, .ref u), (4, .int (nI (5 * j)))] [] (lW κ a b u S F T) k0 n0 := by
  refine a_aloadn (pc := 540) C 1 rfl rfl dL_law_540 ?_
  refine a_aloadn (pc := 541) C 0 rfl rfl dL_law_541 ?_
  refine a_iload (pc := 542) C 4 rfl dL_law_542 ?_
  refine a_iconst (pc := 544) (v := nI 1) C ci_1 dL_law_544 ?_
  refine a_iadd (pc := 545) (v := nI ((5 * j) + 1)) C (nI_add _ _) dL_law_545 ?_
  refine a_sld (pc := 546) C hX hbl hbA (by omega) hL dL_law_546 ?_
  refine a_aloadn (pc := 547) C 0 rfl rfl dL_law_547 ?_
  refine a_iload (pc := 548) C 4 rfl dL_law_548 ?_
  refine a_iconst (pc := 550) (v := nI 2) C ci_2 dL_law_550 ?_
  refine a_iadd (pc := 551) (v := nI ((5 * j) + 2)) C (nI_add _ _) dL_law_551 ?_
  refine a_sld (pc := 552) C hX hbl hbA (by omega) hL dL_law_552 ?_
  refine a_aloadn (pc := 553) C 3 rfl rfl dL_law_553 ?_
  obtain ⟨S', T', kk, v, hI', hkk, ⟨rm1, hb1, hW⟩, ⟨rm2, hb2, hR⟩, hth⟩ := hK (xs ((5 * j) + 1)) (xs ((5 * j) + 2)) S T hI
  obtain ⟨hb11, hb12, hb13, hb14⟩ := hb1
  obtain ⟨hb21, hb22, hb23, hb24⟩ := hb2
  obtain ⟨F', hW1, hW2⟩ := hW (mS κ b T []) F
  refine a_callW (pc := 554) C hW1 yw_L_order ml_L_119 ws_L_order rfl rfl (by decide) (by show _ ≤ 11; omega) (by show _ ≤ 396; omega) ⟨by show _ ≤ 601024; omega, by show _ ≤ 7293034; omega⟩ dL_law_554 (fun ro w h => ?_)
  obtain ⟨rfl, rfl⟩ := h
  refine a_istore (pc := 557) (L' := [(0, .ref bs), (1, .ref (a 0)), (2, .ref (b 0)), (3, .ref u), (4, .int (nI (5 * j))), (5, .int (nI kk))]) C (by decide) rfl dL_law_557 ?_
  refine a_aloadn (pc := 559) C 2 rfl rfl dL_law_559 ?_
  refine a_aloadn (pc := 560) C 0 rfl rfl dL_law_560 ?_
  refine a_iload (pc := 561) C 4 rfl dL_law_561 ?_
  refine a_iconst (pc := 563) (v := nI 1) C ci_1 dL_law_563 ?_
  refine a_iadd (pc := 564) (v := nI ((5 * j) + 1)) C (nI_add _ _) dL_law_564 ?_
  refine a_sld (pc := 565) C hX hbl hbA (by omega) hL dL_law_565 ?_
  refine a_aloadn (pc := 566) C 0 rfl rfl dL_law_566 ?_
  refine a_iload (pc := 567) C 4 rfl dL_law_567 ?_
  refine a_iconst (pc := 569) (v := nI 2) C ci_2 dL_law_569 ?_
  refine a_iadd (pc := 570) (v := nI ((5 * j) + 2)) C (nI_add _ _) dL_law_570 ?_
  refine a_sld (pc := 571) C hX hbl hbA (by omega) hL dL_law_571 ?_
  refine aw_perm (ws' := lM κ a b u S' F' T) lW_perm ?_
  refine a_callV (pc := 572) C (hR (cS κ a S' [oc κ u F'])) yv_X6_order ml_L_121 wi_X6_order wl_X6_order 0 rfl rfl rfl rfl rfl (by decide) (by show _ ≤ 11; omega) (by show _ ≤ 396; omega) ⟨by show _ ≤ 601024; omega, by show _ ≤ 7293034; omega⟩ dL_law_572 (fun ro w h => ?_)
  obtain ⟨rfl, rfl⟩ := h
  refine a_istore (pc := 575) (L' := [(0, .ref bs), (1, .ref (a 0)), (2, .ref (b 0)), (3, .ref u), (4, .int (nI (5 * j))), (5, .int (nI kk)), (6, .int v)]) C (by decide) rfl dL_law_575 ?_
  refine a_aloadn (pc := 577) C 2 rfl rfl dL_law_577 ?_
  obtain ⟨rm3, ⟨hb31, hb32, hb33, hb34⟩, hT3⟩ := thr_c κ b T'
  refine a_callV (pc := 578) C (hT3 (cS κ a S' [oc κ u F'])) yv_X6_thrown ml_L_98 wi_X6_thrown wl_X6_thrown 0 rfl rfl rfl rfl rfl (by decide) (by show _ ≤ 11; omega) (by show _ ≤ 396; omega) ⟨by show _ ≤ 601024; omega, by show _ ≤ 7293034; omega⟩ dL_law_578 (fun ro w h => ?_)
  obtain ⟨rfl, rfl⟩ := h
  refine aw_perm (ws' := lW κ a b u S' F' T') lW_perm.symm ?_
  refine aw_st (st' := [.int (nI kk)]) (by show [Value.int T'.1] = _; rw [hth]) ?_
  refine a_iload (pc := 581) C 5 rfl dL_law_581 ?_
  refine a_icn_eq_y (pc := 583) (tgt := 588) C (by omega) (by omega) rfl (by decide) dL_law_583 ?_
  refine a_iload (pc := 588) C 5 rfl dL_law_588 ?_
  refine a_ifn_ne (pc := 590) (tgt := 605) C (by omega) (by decide) dL_law_590 (fun c1 => ?_) (fun c1 => ?_)
  · refine a_goto (pc := 605) (tgt := 1848) C (by decide) dL_law_605 ?_
    refine aw_locals (L' := [(0, .ref bs), (1, .ref (a 0)), (2, .ref (b 0)), (3, .ref u), (4, .int (nI (5 * j)))]) [0, 1, 2, 3, 4] rfl ?_
    refine aw_room (k' := k0 + 402) (n' := n0 + 4010) (by omega) (by omega) ?_
    exact next S' F' T' hI'
  · have hv := hW2 c1
    refine a_aloadn (pc := 593) C 3 rfl rfl dL_law_593 ?_
    refine a_iconst (pc := 594) (v := nI 0) C ci_0 dL_law_594 ?_
    refine a_lald (pc := 595) C 33 rfl (by decide) (by decide) dL_law_595 ?_
    refine a_iload (pc := 596) C 6 rfl dL_law_596 ?_
    refine a_i2l (pc := 598) (v := v.toInt64) C rfl dL_law_598 ?_
    refine a_lcmp (pc := 599) (v := lg_cmp (F' 0) v.toInt64) C rfl dL_law_599 ?_
    refine a_if_eq_y (pc := 600) (tgt := 605) C (lg_cmp_0.mpr hv) (by decide) dL_law_600 ?_
    refine a_goto (pc := 605) (tgt := 1848) C (by decide) dL_law_605 ?_
    refine aw_locals (L' := [(0, .ref bs), (1, .ref (a 0)), (2, .ref (b 0)), (3, .ref u), (4, .int (nI (5 * j)))]) [0, 1, 2, 3, 4] rfl ?_
    refine aw_room (k' := k0 + 402) (n' := n0 + 4010) (by omega) (by omega) ?_
    exact next S' F' T' hI'

set_option maxHeartbeats 4000000 in
set_option maxRecDepth 100000 in
theorem lc_isLinked {g : aG} {κ : aK} {a b : Nat → Nat} {u bs L : Nat} {xs : Nat → Int32} (C : Cx g κ RL cL_law 9 room_1) (hX : va_X bs L xs (g_s g) (g_s g).heap) (hbl : bs < (g_s g).heap.size) (hbA : ¬ kA κ bs) (hL : L < 2 ^ 31) {j : Nat} (h5 : 5 * j + 5 ≤ L) {I : SC → SM → Prop} {S : SC} {F : Nat → Int64} {T : SM} (hI : I S T) (hK : ∀ (z1 : Int32) (z2 : Int32), KB yL_isLinked cL_isLinked 5 [(0, 17, 20, 21)] yX6_isLinked cX6_isLinked 3 I κ a b u [.int z1, .int z2]) {k0 n0 : Nat} (hk : k0 + 402 ≤ 601024) (hn : n0 + 4010 ≤ 7293034) (next : ∀ S' F' T', I S' T' → aw g κ 9 1848 [(0, .ref bs), (1, .ref (a 0)), (2, .ref (b 0)), (3, .ref u), (4, .int (nI (5 * j)))] [] (lW κ a b u S' F' T') (k0 + 402) (n0 + 4010)) : aw g κ 9 608 [(0, .ref bs), (1, .ref (a 0)), (2, .ref (b 0)), (3, .ref u), (4, .int (nI (5 * j)))] [] (lW κ a b u S F T) k0 n0 := by
  refine a_aloadn (pc := 608) C 1 rfl rfl dL_law_608 ?_
  refine a_aloadn (pc := 609) C 0 rfl rfl dL_law_609 ?_
  refine a_iload (pc := 610) C 4 rfl dL_law_610 ?_
  refine a_iconst (pc := 612) (v := nI 1) C ci_1 dL_law_612 ?_
  refine a_iadd (pc := 613) (v := nI ((5 * j) + 1)) C (nI_add _ _) dL_law_613 ?_
  refine a_sld (pc := 614) C hX hbl hbA (by omega) hL dL_law_614 ?_
  refine a_aloadn (pc := 615) C 0 rfl rfl dL_law_615 ?_
  refine a_iload (pc := 616) C 4 rfl dL_law_616 ?_
  refine a_iconst (pc := 618) (v := nI 2) C ci_2 dL_law_618 ?_
  refine a_iadd (pc := 619) (v := nI ((5 * j) + 2)) C (nI_add _ _) dL_law_619 ?_
  refine a_sld (pc := 620) C hX hbl hbA (by omega) hL dL_law_620 ?_
  refine a_aloadn (pc := 621) C 3 rfl rfl dL_law_621 ?_
  obtain ⟨S', T', kk, v, hI', hkk, ⟨rm1, hb1, hW⟩, ⟨rm2, hb2, hR⟩, hth⟩ := hK (xs ((5 * j) + 1)) (xs ((5 * j) + 2)) S T hI
  obtain ⟨hb11, hb12, hb13, hb14⟩ := hb1
  obtain ⟨hb21, hb22, hb23, hb24⟩ := hb2
  obtain ⟨F', hW1, hW2⟩ := hW (mS κ b T []) F
  refine a_callW (pc := 622) C hW1 yw_L_isLinked ml_L_122 ws_L_isLinked rfl rfl (by decide) (by show _ ≤ 11; omega) (by show _ ≤ 396; omega) ⟨by show _ ≤ 601024; omega, by show _ ≤ 7293034; omega⟩ dL_law_622 (fun ro w h => ?_)
  obtain ⟨rfl, rfl⟩ := h
  refine a_istore (pc := 625) (L' := [(0, .ref bs), (1, .ref (a 0)), (2, .ref (b 0)), (3, .ref u), (4, .int (nI (5 * j))), (5, .int (nI kk))]) C (by decide) rfl dL_law_625 ?_
  refine a_aloadn (pc := 627) C 2 rfl rfl dL_law_627 ?_
  refine a_aloadn (pc := 628) C 0 rfl rfl dL_law_628 ?_
  refine a_iload (pc := 629) C 4 rfl dL_law_629 ?_
  refine a_iconst (pc := 631) (v := nI 1) C ci_1 dL_law_631 ?_
  refine a_iadd (pc := 632) (v := nI ((5 * j) + 1)) C (nI_add _ _) dL_law_632 ?_
  refine a_sld (pc := 633) C hX hbl hbA (by omega) hL dL_law_633 ?_
  refine a_aloadn (pc := 634) C 0 rfl rfl dL_law_634 ?_
  refine a_iload (pc := 635) C 4 rfl dL_law_635 ?_
  refine a_iconst (pc := 637) (v := nI 2) C ci_2 dL_law_637 ?_
  refine a_iadd (pc := 638) (v := nI ((5 * j) + 2)) C (nI_add _ _) dL_law_638 ?_
  refine a_sld (pc := 639) C hX hbl hbA (by omega) hL dL_law_639 ?_
  refine aw_perm (ws' := lM κ a b u S' F' T) lW_perm ?_
  refine a_callV (pc := 640) C (hR (cS κ a S' [oc κ u F'])) yv_X6_isLinked ml_L_124 wi_X6_isLinked wl_X6_isLinked 0 rfl rfl rfl rfl rfl (by decide) (by show _ ≤ 11; omega) (by show _ ≤ 396; omega) ⟨by show _ ≤ 601024; omega, by show _ ≤ 7293034; omega⟩ dL_law_640 (fun ro w h => ?_)
  obtain ⟨rfl, rfl⟩ := h
  refine a_istore (pc := 643) (L' := [(0, .ref bs), (1, .ref (a 0)), (2, .ref (b 0)), (3, .ref u), (4, .int (nI (5 * j))), (5, .int (nI kk)), (6, .int (b2i v))]) C (by decide) rfl dL_law_643 ?_
  refine a_aloadn (pc := 645) C 2 rfl rfl dL_law_645 ?_
  obtain ⟨rm3, ⟨hb31, hb32, hb33, hb34⟩, hT3⟩ := thr_c κ b T'
  refine a_callV (pc := 646) C (hT3 (cS κ a S' [oc κ u F'])) yv_X6_thrown ml_L_98 wi_X6_thrown wl_X6_thrown 0 rfl rfl rfl rfl rfl (by decide) (by show _ ≤ 11; omega) (by show _ ≤ 396; omega) ⟨by show _ ≤ 601024; omega, by show _ ≤ 7293034; omega⟩ dL_law_646 (fun ro w h => ?_)
  obtain ⟨rfl, rfl⟩ := h
  refine aw_perm (ws' := lW κ a b u S' F' T') lW_perm.symm ?_
  refine aw_st (st' := [.int (nI kk)]) (by show [Value.int T'.1] = _; rw [hth]) ?_
  refine a_iload (pc := 649) C 5 rfl dL_law_649 ?_
  refine a_icn_eq_y (pc := 651) (tgt := 656) C (by omega) (by omega) rfl (by decide) dL_law_651 ?_
  refine a_iload (pc := 656) C 5 rfl dL_law_656 ?_
  refine a_ifn_ne (pc := 658) (tgt := 680) C (by omega) (by decide) dL_law_658 (fun c1 => ?_) (fun c1 => ?_)
  · refine a_goto (pc := 680) (tgt := 1848) C (by decide) dL_law_680 ?_
    refine aw_locals (L' := [(0, .ref bs), (1, .ref (a 0)), (2, .ref (b 0)), (3, .ref u), (4, .int (nI (5 * j)))]) [0, 1, 2, 3, 4] rfl ?_
    refine aw_room (k' := k0 + 402) (n' := n0 + 4010) (by omega) (by omega) ?_
    exact next S' F' T' hI'
  · have hv := hW2 c1
    refine a_aloadn (pc := 661) C 3 rfl rfl dL_law_661 ?_
    refine a_iconst (pc := 662) (v := nI 0) C ci_0 dL_law_662 ?_
    refine a_lald (pc := 663) C 33 rfl (by decide) (by decide) dL_law_663 ?_
    refine a_iload (pc := 664) C 6 rfl dL_law_664 ?_
    refine a_ifb_eq (pc := 666) (tgt := 673) C (by decide) dL_law_666 (fun c2 => ?_) (fun c2 => ?_)
    · refine a_lconst (pc := 673) (v := 0) C rfl dL_law_673 ?_
      refine a_lcmp (pc := 674) (v := lg_cmp (F' 0) (0 : Int64)) C rfl dL_law_674 ?_
      refine a_if_eq_y (pc := 675) (tgt := 680) C (lg_cmp_0.mpr (by rw [hv, c2]; rfl)) (by decide) dL_law_675 ?_
      refine a_goto (pc := 680) (tgt := 1848) C (by decide) dL_law_680 ?_
      refine aw_locals (L' := [(0, .ref bs), (1, .ref (a 0)), (2, .ref (b 0)), (3, .ref u), (4, .int (nI (5 * j)))]) [0, 1, 2, 3, 4] rfl ?_
      refine aw_room (k' := k0 + 402) (n' := n0 + 4010) (by omega) (by omega) ?_
      exact next S' F' T' hI'
    · refine a_lconst (pc := 669) (v := 1) C rfl dL_law_669 ?_
      refine a_goto (pc := 670) (tgt := 674) C (by decide) dL_law_670 ?_
      refine a_lcmp (pc := 674) (v := lg_cmp (F' 0) (1 : Int64)) C rfl dL_law_674 ?_
      refine a_if_eq_y (pc := 675) (tgt := 680) C (lg_cmp_0.mpr (by rw [hv, c2]; rfl)) (by decide) dL_law_675 ?_
      refine a_goto (pc := 680) (tgt := 1848) C (by decide) dL_law_680 ?_
      refine aw_locals (L' := [(0, .ref bs), (1, .ref (a 0)), (2, .ref (b 0)), (3, .ref u), (4, .int (nI (5 * j)))]) [0, 1, 2, 3, 4] rfl ?_
      refine aw_room (k' := k0 + 402) (n' := n0 + 4010) (by omega) (by omega) ?_
      exact next S' F' T' hI'

set_option maxHeartbeats 4000000 in
set_option maxRecDepth 100000 in
theorem lc_row {g : aG} {κ : aK} {a b : Nat → Nat} {u bs L : Nat} {xs : Nat → Int32} (C : Cx g κ RL cL_law 9 room_1) (hX : va_X bs L xs (g_s g) (g_s g).heap) (hbl : bs < (g_s g).heap.size) (hbA : ¬ kA κ bs) (hL : L < 2 ^ 31) {j : Nat} (h5 : 5 * j + 5 ≤ L) {I : SC → SM → Prop} {S : SC} {F : Nat → Int64} {T : SM} (hI : I S T) (hK : ∀ (z1 : Int32) (z2 : Bool) (z3 : Int32), KI yL_row cL_row 6 [(0, 12, 15, 21)] yX6_row cX6_row 6 I κ a b u [.int z1, .int (b2i z2), .int z3]) {k0 n0 : Nat} (hk : k0 + 402 ≤ 601024) (hn : n0 + 4010 ≤ 7293034) (next : ∀ S' F' T', I S' T' → aw g κ 9 1848 [(0, .ref bs), (1, .ref (a 0)), (2, .ref (b 0)), (3, .ref u), (4, .int (nI (5 * j)))] [] (lW κ a b u S' F' T') (k0 + 402) (n0 + 4010)) : aw g κ 9 683 [(0, .ref bs), (1, .ref (a 0)), (2, .ref (b 0)), (3, .ref u), (4, .int (nI (5 * j)))] [] (lW κ a b u S F T) k0 n0 := by
  refine a_aloadn (pc := 683) C 1 rfl rfl dL_law_683 ?_
  refine a_aloadn (pc := 684) C 0 rfl rfl dL_law_684 ?_
  refine a_iload (pc := 685) C 4 rfl dL_law_685 ?_
  refine a_iconst (pc := 687) (v := nI 1) C ci_1 dL_law_687 ?_
  refine a_iadd (pc := 688) (v := nI ((5 * j) + 1)) C (nI_add _ _) dL_law_688 ?_
  refine a_sld (pc := 689) C hX hbl hbA (by omega) hL dL_law_689 ?_
  refine a_aloadn (pc := 690) C 0 rfl rfl dL_law_690 ?_
  refine a_iload (pc := 691) C 4 rfl dL_law_691 ?_
  refine a_iconst (pc := 693) (v := nI 2) C ci_2 dL_law_693 ?_
  refine a_iadd (pc := 694) (v := nI ((5 * j) + 2)) C (nI_add _ _) dL_law_694 ?_
  refine a_sld (pc := 695) C hX hbl hbA (by omega) hL dL_law_695 ?_
  refine a_if_eq (pc := 696) (tgt := 703) C (by decide) dL_law_696 (fun c1 => ?_) (fun c1 => ?_)
  · refine a_iconst (pc := 703) (v := nI 0) C ci_0 dL_law_703 ?_
    refine aw_st (st' := [.int (b2i false), .int (xs ((5 * j) + 1)), .ref (a 0)]) (congrArg (fun zz9 => ([.int zz9, .int (xs ((5 * j) + 1)), .ref (a 0)] : List Value)) b2i_f.symm) ?_
    refine a_aloadn (pc := 704) C 0 rfl rfl dL_law_704 ?_
    refine a_iload (pc := 705) C 4 rfl dL_law_705 ?_
    refine a_iconst (pc := 707) (v := nI 3) C ci_3 dL_law_707 ?_
    refine a_iadd (pc := 708) (v := nI ((5 * j) + 3)) C (nI_add _ _) dL_law_708 ?_
    refine a_sld (pc := 709) C hX hbl hbA (by omega) hL dL_law_709 ?_
    refine a_aloadn (pc := 710) C 3 rfl rfl dL_law_710 ?_
    obtain ⟨S', T', kk, v, hI', hkk, ⟨rm1, hb1, hW⟩, ⟨rm2, hb2, hR⟩, hth⟩ := hK (xs ((5 * j) + 1)) false (xs ((5 * j) + 3)) S T hI
    obtain ⟨hb11, hb12, hb13, hb14⟩ := hb1
    obtain ⟨hb21, hb22, hb23, hb24⟩ := hb2
    obtain ⟨F', hW1, hW2⟩ := hW (mS κ b T []) F
    refine a_callW (pc := 711) C hW1 yw_L_row ml_L_125 ws_L_row rfl rfl (by decide) (by show _ ≤ 11; omega) (by show _ ≤ 396; omega) ⟨by show _ ≤ 601024; omega, by show _ ≤ 7293034; omega⟩ dL_law_711 (fun ro w h => ?_)
    obtain ⟨rfl, rfl⟩ := h
    refine a_istore (pc := 714) (L' := [(0, .ref bs), (1, .ref (a 0)), (2, .ref (b 0)), (3, .ref u), (4, .int (nI (5 * j))), (5, .int (nI kk))]) C (by decide) rfl dL_law_714 ?_
    refine a_aloadn (pc := 716) C 2 rfl rfl dL_law_716 ?_
    refine a_aloadn (pc := 717) C 0 rfl rfl dL_law_717 ?_
    refine a_iload (pc := 718) C 4 rfl dL_law_718 ?_
    refine a_iconst (pc := 720) (v := nI 1) C ci_1 dL_law_720 ?_
    refine a_iadd (pc := 721) (v := nI ((5 * j) + 1)) C (nI_add _ _) dL_law_721 ?_
    refine a_sld (pc := 722) C hX hbl hbA (by omega) hL dL_law_722 ?_
    refine a_aloadn (pc := 723) C 0 rfl rfl dL_law_723 ?_
    refine a_iload (pc := 724) C 4 rfl dL_law_724 ?_
    refine a_iconst (pc := 726) (v := nI 2) C ci_2 dL_law_726 ?_
    refine a_iadd (pc := 727) (v := nI ((5 * j) + 2)) C (nI_add _ _) dL_law_727 ?_
    refine a_sld (pc := 728) C hX hbl hbA (by omega) hL dL_law_728 ?_
    refine a_if_eq_y (pc := 729) (tgt := 736) C c1 (by decide) dL_law_729 ?_
    refine a_iconst (pc := 736) (v := nI 0) C ci_0 dL_law_736 ?_
    refine aw_st (st' := [.int (b2i false), .int (xs ((5 * j) + 1)), .ref (b 0)]) (congrArg (fun zz9 => ([.int zz9, .int (xs ((5 * j) + 1)), .ref (b 0)] : List Value)) b2i_f.symm) ?_
    refine a_aloadn (pc := 737) C 0 rfl rfl dL_law_737 ?_
    refine a_iload (pc := 738) C 4 rfl dL_law_738 ?_
    refine a_iconst (pc := 740) (v := nI 3) C ci_3 dL_law_740 ?_
    refine a_iadd (pc := 741) (v := nI ((5 * j) + 3)) C (nI_add _ _) dL_law_741 ?_
    refine a_sld (pc := 742) C hX hbl hbA (by omega) hL dL_law_742 ?_
    refine aw_perm (ws' := lM κ a b u S' F' T) lW_perm ?_
    refine a_callV (pc := 743) C (hR (cS κ a S' [oc κ u F'])) yv_X6_row ml_L_128 wi_X6_row wl_X6_row 0 rfl rfl rfl rfl rfl (by decide) (by show _ ≤ 11; omega) (by show _ ≤ 396; omega) ⟨by show _ ≤ 601024; omega, by show _ ≤ 7293034; omega⟩ dL_law_743 (fun ro w h => ?_)
    obtain ⟨rfl, rfl⟩ := h
    refine a_istore (pc := 746) (L' := [(0, .ref bs), (1, .ref (a 0)), (2, .ref (b 0)), (3, .ref u), (4, .int (nI (5 * j))), (5, .int (nI kk)), (6, .int v)]) C (by decide) rfl dL_law_746 ?_
    refine a_aloadn (pc := 748) C 2 rfl rfl dL_law_748 ?_
    obtain ⟨rm3, ⟨hb31, hb32, hb33, hb34⟩, hT3⟩ := thr_c κ b T'
    refine a_callV (pc := 749) C (hT3 (cS κ a S' [oc κ u F'])) yv_X6_thrown ml_L_98 wi_X6_thrown wl_X6_thrown 0 rfl rfl rfl rfl rfl (by decide) (by show _ ≤ 11; omega) (by show _ ≤ 396; omega) ⟨by show _ ≤ 601024; omega, by show _ ≤ 7293034; omega⟩ dL_law_749 (fun ro w h => ?_)
    obtain ⟨rfl, rfl⟩ := h
    refine aw_perm (ws' := lW κ a b u S' F' T') lW_perm.symm ?_
    refine aw_st (st' := [.int (nI kk)]) (by show [Value.int T'.1] = _; rw [hth]) ?_
    refine a_iload (pc := 752) C 5 rfl dL_law_752 ?_
    refine a_icn_eq_y (pc := 754) (tgt := 759) C (by omega) (by omega) rfl (by decide) dL_law_754 ?_
    refine a_iload (pc := 759) C 5 rfl dL_law_759 ?_
    refine a_ifn_ne (pc := 761) (tgt := 776) C (by omega) (by decide) dL_law_761 (fun c2 => ?_) (fun c2 => ?_)
    · refine a_goto (pc := 776) (tgt := 1848) C (by decide) dL_law_776 ?_
      refine aw_locals (L' := [(0, .ref bs), (1, .ref (a 0)), (2, .ref (b 0)), (3, .ref u), (4, .int (nI (5 * j)))]) [0, 1, 2, 3, 4] rfl ?_
      refine aw_room (k' := k0 + 402) (n' := n0 + 4010) (by omega) (by omega) ?_
      exact next S' F' T' hI'
    · have hv := hW2 c2
      refine a_aloadn (pc := 764) C 3 rfl rfl dL_law_764 ?_
      refine a_iconst (pc := 765) (v := nI 0) C ci_0 dL_law_765 ?_
      refine a_lald (pc := 766) C 33 rfl (by decide) (by decide) dL_law_766 ?_
      refine a_iload (pc := 767) C 6 rfl dL_law_767 ?_
      refine a_i2l (pc := 769) (v := v.toInt64) C rfl dL_law_769 ?_
      refine a_lcmp (pc := 770) (v := lg_cmp (F' 0) v.toInt64) C rfl dL_law_770 ?_
      refine a_if_eq_y (pc := 771) (tgt := 776) C (lg_cmp_0.mpr hv) (by decide) dL_law_771 ?_
      refine a_goto (pc := 776) (tgt := 1848) C (by decide) dL_law_776 ?_
      refine aw_locals (L' := [(0, .ref bs), (1, .ref (a 0)), (2, .ref (b 0)), (3, .ref u), (4, .int (nI (5 * j)))]) [0, 1, 2, 3, 4] rfl ?_
      refine aw_room (k' := k0 + 402) (n' := n0 + 4010) (by omega) (by omega) ?_
      exact next S' F' T' hI'
  · refine a_iconst (pc := 699) (v := nI 1) C ci_1 dL_law_699 ?_
    refine a_goto (pc := 700) (tgt := 704) C (by decide) dL_law_700 ?_
    refine aw_st (st' := [.int (b2i true), .int (xs ((5 * j) + 1)), .ref (a 0)]) (congrArg (fun zz9 => ([.int zz9, .int (xs ((5 * j) + 1)), .ref (a 0)] : List Value)) b2i_t.symm) ?_
    refine a_aloadn (pc := 704) C 0 rfl rfl dL_law_704 ?_
    refine a_iload (pc := 705) C 4 rfl dL_law_705 ?_
    refine a_iconst (pc := 707) (v := nI 3) C ci_3 dL_law_707 ?_
    refine a_iadd (pc := 708) (v := nI ((5 * j) + 3)) C (nI_add _ _) dL_law_708 ?_
    refine a_sld (pc := 709) C hX hbl hbA (by omega) hL dL_law_709 ?_
    refine a_aloadn (pc := 710) C 3 rfl rfl dL_law_710 ?_
    obtain ⟨S', T', kk, v, hI', hkk, ⟨rm1, hb1, hW⟩, ⟨rm2, hb2, hR⟩, hth⟩ := hK (xs ((5 * j) + 1)) true (xs ((5 * j) + 3)) S T hI
    obtain ⟨hb11, hb12, hb13, hb14⟩ := hb1
    obtain ⟨hb21, hb22, hb23, hb24⟩ := hb2
    obtain ⟨F', hW1, hW2⟩ := hW (mS κ b T []) F
    refine a_callW (pc := 711) C hW1 yw_L_row ml_L_125 ws_L_row rfl rfl (by decide) (by show _ ≤ 11; omega) (by show _ ≤ 396; omega) ⟨by show _ ≤ 601024; omega, by show _ ≤ 7293034; omega⟩ dL_law_711 (fun ro w h => ?_)
    obtain ⟨rfl, rfl⟩ := h
    refine a_istore (pc := 714) (L' := [(0, .ref bs), (1, .ref (a 0)), (2, .ref (b 0)), (3, .ref u), (4, .int (nI (5 * j))), (5, .int (nI kk))]) C (by decide) rfl dL_law_714 ?_
    refine a_aloadn (pc := 716) C 2 rfl rfl dL_law_716 ?_
    refine a_aloadn (pc := 717) C 0 rfl rfl dL_law_717 ?_
    refine a_iload (pc := 718) C 4 rfl dL_law_718 ?_
    refine a_iconst (pc := 720) (v := nI 1) C ci_1 dL_law_720 ?_
    refine a_iadd (pc := 721) (v := nI ((5 * j) + 1)) C (nI_add _ _) dL_law_721 ?_
    refine a_sld (pc := 722) C hX hbl hbA (by omega) hL dL_law_722 ?_
    refine a_aloadn (pc := 723) C 0 rfl rfl dL_law_723 ?_
    refine a_iload (pc := 724) C 4 rfl dL_law_724 ?_
    refine a_iconst (pc := 726) (v := nI 2) C ci_2 dL_law_726 ?_
    refine a_iadd (pc := 727) (v := nI ((5 * j) + 2)) C (nI_add _ _) dL_law_727 ?_
    refine a_sld (pc := 728) C hX hbl hbA (by omega) hL dL_law_728 ?_
    refine a_if_eq_n (pc := 729) C c1 dL_law_729 ⟨736, by decide⟩ ?_
    refine a_iconst (pc := 732) (v := nI 1) C ci_1 dL_law_732 ?_
    refine a_goto (pc := 733) (tgt := 737) C (by decide) dL_law_733 ?_
    refine aw_st (st' := [.int (b2i true), .int (xs ((5 * j) + 1)), .ref (b 0)]) (congrArg (fun zz9 => ([.int zz9, .int (xs ((5 * j) + 1)), .ref (b 0)] : List Value)) b2i_t.symm) ?_
    refine a_aloadn (pc := 737) C 0 rfl rfl dL_law_737 ?_
    refine a_iload (pc := 738) C 4 rfl dL_law_738 ?_
    refine a_iconst (pc := 740) (v := nI 3) C ci_3 dL_law_740 ?_
    refine a_iadd (pc := 741) (v := nI ((5 * j) + 3)) C (nI_add _ _) dL_law_741 ?_
    refine a_sld (pc := 742) C hX hbl hbA (by omega) hL dL_law_742 ?_
    refine aw_perm (ws' := lM κ a b u S' F' T) lW_perm ?_
    refine a_callV (pc := 743) C (hR (cS κ a S' [oc κ u F'])) yv_X6_row ml_L_128 wi_X6_row wl_X6_row 0 rfl rfl rfl rfl rfl (by decide) (by show _ ≤ 11; omega) (by show _ ≤ 396; omega) ⟨by show _ ≤ 601024; omega, by show _ ≤ 7293034; omega⟩ dL_law_743 (fun ro w h => ?_)
    obtain ⟨rfl, rfl⟩ := h
    refine a_istore (pc := 746) (L' := [(0, .ref bs), (1, .ref (a 0)), (2, .ref (b 0)), (3, .ref u), (4, .int (nI (5 * j))), (5, .int (nI kk)), (6, .int v)]) C (by decide) rfl dL_law_746 ?_
    refine a_aloadn (pc := 748) C 2 rfl rfl dL_law_748 ?_
    obtain ⟨rm3, ⟨hb31, hb32, hb33, hb34⟩, hT3⟩ := thr_c κ b T'
    refine a_callV (pc := 749) C (hT3 (cS κ a S' [oc κ u F'])) yv_X6_thrown ml_L_98 wi_X6_thrown wl_X6_thrown 0 rfl rfl rfl rfl rfl (by decide) (by show _ ≤ 11; omega) (by show _ ≤ 396; omega) ⟨by show _ ≤ 601024; omega, by show _ ≤ 7293034; omega⟩ dL_law_749 (fun ro w h => ?_)
    obtain ⟨rfl, rfl⟩ := h
    refine aw_perm (ws' := lW κ a b u S' F' T') lW_perm.symm ?_
    refine aw_st (st' := [.int (nI kk)]) (by show [Value.int T'.1] = _; rw [hth]) ?_
    refine a_iload (pc := 752) C 5 rfl dL_law_752 ?_
    refine a_icn_eq_y (pc := 754) (tgt := 759) C (by omega) (by omega) rfl (by decide) dL_law_754 ?_
    refine a_iload (pc := 759) C 5 rfl dL_law_759 ?_
    refine a_ifn_ne (pc := 761) (tgt := 776) C (by omega) (by decide) dL_law_761 (fun c3 => ?_) (fun c3 => ?_)
    · refine a_goto (pc := 776) (tgt := 1848) C (by decide) dL_law_776 ?_
      refine aw_locals (L' := [(0, .ref bs), (1, .ref (a 0)), (2, .ref (b 0)), (3, .ref u), (4, .int (nI (5 * j)))]) [0, 1, 2, 3, 4] rfl ?_
      refine aw_room (k' := k0 + 402) (n' := n0 + 4010) (by omega) (by omega) ?_
      exact next S' F' T' hI'
    · have hv := hW2 c3
      refine a_aloadn (pc := 764) C 3 rfl rfl dL_law_764 ?_
      refine a_iconst (pc := 765) (v := nI 0) C ci_0 dL_law_765 ?_
      refine a_lald (pc := 766) C 33 rfl (by decide) (by decide) dL_law_766 ?_
      refine a_iload (pc := 767) C 6 rfl dL_law_767 ?_
      refine a_i2l (pc := 769) (v := v.toInt64) C rfl dL_law_769 ?_
      refine a_lcmp (pc := 770) (v := lg_cmp (F' 0) v.toInt64) C rfl dL_law_770 ?_
      refine a_if_eq_y (pc := 771) (tgt := 776) C (lg_cmp_0.mpr hv) (by decide) dL_law_771 ?_
      refine a_goto (pc := 776) (tgt := 1848) C (by decide) dL_law_776 ?_
      refine aw_locals (L' := [(0, .ref bs), (1, .ref (a 0)), (2, .ref (b 0)), (3, .ref u), (4, .int (nI (5 * j)))]) [0, 1, 2, 3, 4] rfl ?_
      refine aw_room (k' := k0 + 402) (n' := n0 + 4010) (by omega) (by omega) ?_
      exact next S' F' T' hI'

set_option maxHeartbeats 4000000 in
set_option maxRecDepth 100000 in
theorem lc_way {g : aG} {κ : aK} {a b : Nat → Nat} {u bs L : Nat} {xs : Nat → Int32} (C : Cx g κ RL cL_law 9 room_1) (hX : va_X bs L xs (g_s g) (g_s g).heap) (hbl : bs < (g_s g).heap.size) (hbA : ¬ kA κ bs) (hL : L < 2 ^ 31) {j : Nat} (h5 : 5 * j + 5 ≤ L) {I : SC → SM → Prop} {S : SC} {F : Nat → Int64} {T : SM} (hI : I S T) (hK : ∀ (z1 : Int32) (z2 : Int32) (z3 : Int32), KI yL_way cL_way 6 [(0, 12, 15, 21), (0, 12, 19, 13)] yX6_way cX6_way 8 I κ a b u [.int z1, .int z2, .int z3]) {k0 n0 : Nat} (hk : k0 + 402 ≤ 601024) (hn : n0 + 4010 ≤ 7293034) (next : ∀ S' F' T', I S' T' → aw g κ 9 1848 [(0, .ref bs), (1, .ref (a 0)), (2, .ref (b 0)), (3, .ref u), (4, .int (nI (5 * j)))] [] (lW κ a b u S' F' T') (k0 + 402) (n0 + 4010)) : aw g κ 9 779 [(0, .ref bs), (1, .ref (a 0)), (2, .ref (b 0)), (3, .ref u), (4, .int (nI (5 * j)))] [] (lW κ a b u S F T) k0 n0 := by
  refine a_aloadn (pc := 779) C 1 rfl rfl dL_law_779 ?_
  refine a_aloadn (pc := 780) C 0 rfl rfl dL_law_780 ?_
  refine a_iload (pc := 781) C 4 rfl dL_law_781 ?_
  refine a_iconst (pc := 783) (v := nI 1) C ci_1 dL_law_783 ?_
  refine a_iadd (pc := 784) (v := nI ((5 * j) + 1)) C (nI_add _ _) dL_law_784 ?_
  refine a_sld (pc := 785) C hX hbl hbA (by omega) hL dL_law_785 ?_
  refine a_aloadn (pc := 786) C 0 rfl rfl dL_law_786 ?_
  refine a_iload (pc := 787) C 4 rfl dL_law_787 ?_
  refine a_iconst (pc := 789) (v := nI 2) C ci_2 dL_law_789 ?_
  refine a_iadd (pc := 790) (v := nI ((5 * j) + 2)) C (nI_add _ _) dL_law_790 ?_
  refine a_sld (pc := 791) C hX hbl hbA (by omega) hL dL_law_791 ?_
  refine a_aloadn (pc := 792) C 0 rfl rfl dL_law_792 ?_
  refine a_iload (pc := 793) C 4 rfl dL_law_793 ?_
  refine a_iconst (pc := 795) (v := nI 3) C ci_3 dL_law_795 ?_
  refine a_iadd (pc := 796) (v := nI ((5 * j) + 3)) C (nI_add _ _) dL_law_796 ?_
  refine a_sld (pc := 797) C hX hbl hbA (by omega) hL dL_law_797 ?_
  refine a_aloadn (pc := 798) C 3 rfl rfl dL_law_798 ?_
  obtain ⟨S', T', kk, v, hI', hkk, ⟨rm1, hb1, hW⟩, ⟨rm2, hb2, hR⟩, hth⟩ := hK (xs ((5 * j) + 1)) (xs ((5 * j) + 2)) (xs ((5 * j) + 3)) S T hI
  obtain ⟨hb11, hb12, hb13, hb14⟩ := hb1
  obtain ⟨hb21, hb22, hb23, hb24⟩ := hb2
  obtain ⟨F', hW1, hW2⟩ := hW (mS κ b T []) F
  refine a_callW (pc := 799) C hW1 yw_L_way ml_L_129 ws_L_way rfl rfl (by decide) (by show _ ≤ 11; omega) (by show _ ≤ 396; omega) ⟨by show _ ≤ 601024; omega, by show _ ≤ 7293034; omega⟩ dL_law_799 (fun ro w h => ?_)
  obtain ⟨rfl, rfl⟩ := h
  refine a_istore (pc := 802) (L' := [(0, .ref bs), (1, .ref (a 0)), (2, .ref (b 0)), (3, .ref u), (4, .int (nI (5 * j))), (5, .int (nI kk))]) C (by decide) rfl dL_law_802 ?_
  refine a_aloadn (pc := 804) C 2 rfl rfl dL_law_804 ?_
  refine a_aloadn (pc := 805) C 0 rfl rfl dL_law_805 ?_
  refine a_iload (pc := 806) C 4 rfl dL_law_806 ?_
  refine a_iconst (pc := 808) (v := nI 1) C ci_1 dL_law_808 ?_
  refine a_iadd (pc := 809) (v := nI ((5 * j) + 1)) C (nI_add _ _) dL_law_809 ?_
  refine a_sld (pc := 810) C hX hbl hbA (by omega) hL dL_law_810 ?_
  refine a_aloadn (pc := 811) C 0 rfl rfl dL_law_811 ?_
  refine a_iload (pc := 812) C 4 rfl dL_law_812 ?_
  refine a_iconst (pc := 814) (v := nI 2) C ci_2 dL_law_814 ?_
  refine a_iadd (pc := 815) (v := nI ((5 * j) + 2)) C (nI_add _ _) dL_law_815 ?_
  refine a_sld (pc := 816) C hX hbl hbA (by omega) hL dL_law_816 ?_
  refine a_aloadn (pc := 817) C 0 rfl rfl dL_law_817 ?_
  refine a_iload (pc := 818) C 4 rfl dL_law_818 ?_
  refine a_iconst (pc := 820) (v := nI 3) C ci_3 dL_law_820 ?_
  refine a_iadd (pc := 821) (v := nI ((5 * j) + 3)) C (nI_add _ _) dL_law_821 ?_
  refine a_sld (pc := 822) C hX hbl hbA (by omega) hL dL_law_822 ?_
  refine aw_perm (ws' := lM κ a b u S' F' T) lW_perm ?_
  refine a_callV (pc := 823) C (hR (cS κ a S' [oc κ u F'])) yv_X6_way ml_L_131 wi_X6_way wl_X6_way 0 rfl rfl rfl rfl rfl (by decide) (by show _ ≤ 11; omega) (by show _ ≤ 396; omega) ⟨by show _ ≤ 601024; omega, by show _ ≤ 7293034; omega⟩ dL_law_823 (fun ro w h => ?_)
  obtain ⟨rfl, rfl⟩ := h
  refine a_istore (pc := 826) (L' := [(0, .ref bs), (1, .ref (a 0)), (2, .ref (b 0)), (3, .ref u), (4, .int (nI (5 * j))), (5, .int (nI kk)), (6, .int v)]) C (by decide) rfl dL_law_826 ?_
  refine a_aloadn (pc := 828) C 2 rfl rfl dL_law_828 ?_
  obtain ⟨rm3, ⟨hb31, hb32, hb33, hb34⟩, hT3⟩ := thr_c κ b T'
  refine a_callV (pc := 829) C (hT3 (cS κ a S' [oc κ u F'])) yv_X6_thrown ml_L_98 wi_X6_thrown wl_X6_thrown 0 rfl rfl rfl rfl rfl (by decide) (by show _ ≤ 11; omega) (by show _ ≤ 396; omega) ⟨by show _ ≤ 601024; omega, by show _ ≤ 7293034; omega⟩ dL_law_829 (fun ro w h => ?_)
  obtain ⟨rfl, rfl⟩ := h
  refine aw_perm (ws' := lW κ a b u S' F' T') lW_perm.symm ?_
  refine aw_st (st' := [.int (nI kk)]) (by show [Value.int T'.1] = _; rw [hth]) ?_
  refine a_iload (pc := 832) C 5 rfl dL_law_832 ?_
  refine a_icn_eq_y (pc := 834) (tgt := 839) C (by omega) (by omega) rfl (by decide) dL_law_834 ?_
  refine a_iload (pc := 839) C 5 rfl dL_law_839 ?_
  refine a_ifn_ne (pc := 841) (tgt := 856) C (by omega) (by decide) dL_law_841 (fun c1 => ?_) (fun c1 => ?_)
  · refine a_goto (pc := 856) (tgt := 1848) C (by decide) dL_law_856 ?_
    refine aw_locals (L' := [(0, .ref bs), (1, .ref (a 0)), (2, .ref (b 0)), (3, .ref u), (4, .int (nI (5 * j)))]) [0, 1, 2, 3, 4] rfl ?_
    refine aw_room (k' := k0 + 402) (n' := n0 + 4010) (by omega) (by omega) ?_
    exact next S' F' T' hI'
  · have hv := hW2 c1
    refine a_aloadn (pc := 844) C 3 rfl rfl dL_law_844 ?_
    refine a_iconst (pc := 845) (v := nI 0) C ci_0 dL_law_845 ?_
    refine a_lald (pc := 846) C 33 rfl (by decide) (by decide) dL_law_846 ?_
    refine a_iload (pc := 847) C 6 rfl dL_law_847 ?_
    refine a_i2l (pc := 849) (v := v.toInt64) C rfl dL_law_849 ?_
    refine a_lcmp (pc := 850) (v := lg_cmp (F' 0) v.toInt64) C rfl dL_law_850 ?_
    refine a_if_eq_y (pc := 851) (tgt := 856) C (lg_cmp_0.mpr hv) (by decide) dL_law_851 ?_
    refine a_goto (pc := 856) (tgt := 1848) C (by decide) dL_law_856 ?_
    refine aw_locals (L' := [(0, .ref bs), (1, .ref (a 0)), (2, .ref (b 0)), (3, .ref u), (4, .int (nI (5 * j)))]) [0, 1, 2, 3, 4] rfl ?_
    refine aw_room (k' := k0 + 402) (n' := n0 + 4010) (by omega) (by omega) ?_
    exact next S' F' T' hI'

set_option maxHeartbeats 4000000 in
set_option maxRecDepth 100000 in
theorem lc_between {g : aG} {κ : aK} {a b : Nat → Nat} {u bs L : Nat} {xs : Nat → Int32} (C : Cx g κ RL cL_law 9 room_1) (hX : va_X bs L xs (g_s g) (g_s g).heap) (hbl : bs < (g_s g).heap.size) (hbA : ¬ kA κ bs) (hL : L < 2 ^ 31) {j : Nat} (h5 : 5 * j + 5 ≤ L) {I : SC → SM → Prop} {S : SC} {F : Nat → Int64} {T : SM} (hI : I S T) (hK : ∀ (z1 : Int32) (z2 : Int32), KI yL_between cL_between 5 [(0, 10, 13, 21)] yX6_between cX6_between 3 I κ a b u [.int z1, .int z2]) {k0 n0 : Nat} (hk : k0 + 402 ≤ 601024) (hn : n0 + 4010 ≤ 7293034) (next : ∀ S' F' T', I S' T' → aw g κ 9 1848 [(0, .ref bs), (1, .ref (a 0)), (2, .ref (b 0)), (3, .ref u), (4, .int (nI (5 * j)))] [] (lW κ a b u S' F' T') (k0 + 402) (n0 + 4010)) : aw g κ 9 859 [(0, .ref bs), (1, .ref (a 0)), (2, .ref (b 0)), (3, .ref u), (4, .int (nI (5 * j)))] [] (lW κ a b u S F T) k0 n0 := by
  refine a_aloadn (pc := 859) C 1 rfl rfl dL_law_859 ?_
  refine a_aloadn (pc := 860) C 0 rfl rfl dL_law_860 ?_
  refine a_iload (pc := 861) C 4 rfl dL_law_861 ?_
  refine a_iconst (pc := 863) (v := nI 1) C ci_1 dL_law_863 ?_
  refine a_iadd (pc := 864) (v := nI ((5 * j) + 1)) C (nI_add _ _) dL_law_864 ?_
  refine a_sld (pc := 865) C hX hbl hbA (by omega) hL dL_law_865 ?_
  refine a_aloadn (pc := 866) C 0 rfl rfl dL_law_866 ?_
  refine a_iload (pc := 867) C 4 rfl dL_law_867 ?_
  refine a_iconst (pc := 869) (v := nI 2) C ci_2 dL_law_869 ?_
  refine a_iadd (pc := 870) (v := nI ((5 * j) + 2)) C (nI_add _ _) dL_law_870 ?_
  refine a_sld (pc := 871) C hX hbl hbA (by omega) hL dL_law_871 ?_
  refine a_aloadn (pc := 872) C 3 rfl rfl dL_law_872 ?_
  obtain ⟨S', T', kk, v, hI', hkk, ⟨rm1, hb1, hW⟩, ⟨rm2, hb2, hR⟩, hth⟩ := hK (xs ((5 * j) + 1)) (xs ((5 * j) + 2)) S T hI
  obtain ⟨hb11, hb12, hb13, hb14⟩ := hb1
  obtain ⟨hb21, hb22, hb23, hb24⟩ := hb2
  obtain ⟨F', hW1, hW2⟩ := hW (mS κ b T []) F
  refine a_callW (pc := 873) C hW1 yw_L_between ml_L_132 ws_L_between rfl rfl (by decide) (by show _ ≤ 11; omega) (by show _ ≤ 396; omega) ⟨by show _ ≤ 601024; omega, by show _ ≤ 7293034; omega⟩ dL_law_873 (fun ro w h => ?_)
  obtain ⟨rfl, rfl⟩ := h
  refine a_istore (pc := 876) (L' := [(0, .ref bs), (1, .ref (a 0)), (2, .ref (b 0)), (3, .ref u), (4, .int (nI (5 * j))), (5, .int (nI kk))]) C (by decide) rfl dL_law_876 ?_
  refine a_aloadn (pc := 878) C 2 rfl rfl dL_law_878 ?_
  refine a_aloadn (pc := 879) C 0 rfl rfl dL_law_879 ?_
  refine a_iload (pc := 880) C 4 rfl dL_law_880 ?_
  refine a_iconst (pc := 882) (v := nI 1) C ci_1 dL_law_882 ?_
  refine a_iadd (pc := 883) (v := nI ((5 * j) + 1)) C (nI_add _ _) dL_law_883 ?_
  refine a_sld (pc := 884) C hX hbl hbA (by omega) hL dL_law_884 ?_
  refine a_aloadn (pc := 885) C 0 rfl rfl dL_law_885 ?_
  refine a_iload (pc := 886) C 4 rfl dL_law_886 ?_
  refine a_iconst (pc := 888) (v := nI 2) C ci_2 dL_law_888 ?_
  refine a_iadd (pc := 889) (v := nI ((5 * j) + 2)) C (nI_add _ _) dL_law_889 ?_
  refine a_sld (pc := 890) C hX hbl hbA (by omega) hL dL_law_890 ?_
  refine aw_perm (ws' := lM κ a b u S' F' T) lW_perm ?_
  refine a_callV (pc := 891) C (hR (cS κ a S' [oc κ u F'])) yv_X6_between ml_L_134 wi_X6_between wl_X6_between 0 rfl rfl rfl rfl rfl (by decide) (by show _ ≤ 11; omega) (by show _ ≤ 396; omega) ⟨by show _ ≤ 601024; omega, by show _ ≤ 7293034; omega⟩ dL_law_891 (fun ro w h => ?_)
  obtain ⟨rfl, rfl⟩ := h
  refine a_istore (pc := 894) (L' := [(0, .ref bs), (1, .ref (a 0)), (2, .ref (b 0)), (3, .ref u), (4, .int (nI (5 * j))), (5, .int (nI kk)), (6, .int v)]) C (by decide) rfl dL_law_894 ?_
  refine a_aloadn (pc := 896) C 2 rfl rfl dL_law_896 ?_
  obtain ⟨rm3, ⟨hb31, hb32, hb33, hb34⟩, hT3⟩ := thr_c κ b T'
  refine a_callV (pc := 897) C (hT3 (cS κ a S' [oc κ u F'])) yv_X6_thrown ml_L_98 wi_X6_thrown wl_X6_thrown 0 rfl rfl rfl rfl rfl (by decide) (by show _ ≤ 11; omega) (by show _ ≤ 396; omega) ⟨by show _ ≤ 601024; omega, by show _ ≤ 7293034; omega⟩ dL_law_897 (fun ro w h => ?_)
  obtain ⟨rfl, rfl⟩ := h
  refine aw_perm (ws' := lW κ a b u S' F' T') lW_perm.symm ?_
  refine aw_st (st' := [.int (nI kk)]) (by show [Value.int T'.1] = _; rw [hth]) ?_
  refine a_iload (pc := 900) C 5 rfl dL_law_900 ?_
  refine a_icn_eq_y (pc := 902) (tgt := 907) C (by omega) (by omega) rfl (by decide) dL_law_902 ?_
  refine a_iload (pc := 907) C 5 rfl dL_law_907 ?_
  refine a_ifn_ne (pc := 909) (tgt := 924) C (by omega) (by decide) dL_law_909 (fun c1 => ?_) (fun c1 => ?_)
  · refine a_goto (pc := 924) (tgt := 1848) C (by decide) dL_law_924 ?_
    refine aw_locals (L' := [(0, .ref bs), (1, .ref (a 0)), (2, .ref (b 0)), (3, .ref u), (4, .int (nI (5 * j)))]) [0, 1, 2, 3, 4] rfl ?_
    refine aw_room (k' := k0 + 402) (n' := n0 + 4010) (by omega) (by omega) ?_
    exact next S' F' T' hI'
  · have hv := hW2 c1
    refine a_aloadn (pc := 912) C 3 rfl rfl dL_law_912 ?_
    refine a_iconst (pc := 913) (v := nI 0) C ci_0 dL_law_913 ?_
    refine a_lald (pc := 914) C 33 rfl (by decide) (by decide) dL_law_914 ?_
    refine a_iload (pc := 915) C 6 rfl dL_law_915 ?_
    refine a_i2l (pc := 917) (v := v.toInt64) C rfl dL_law_917 ?_
    refine a_lcmp (pc := 918) (v := lg_cmp (F' 0) v.toInt64) C rfl dL_law_918 ?_
    refine a_if_eq_y (pc := 919) (tgt := 924) C (lg_cmp_0.mpr hv) (by decide) dL_law_919 ?_
    refine a_goto (pc := 924) (tgt := 1848) C (by decide) dL_law_924 ?_
    refine aw_locals (L' := [(0, .ref bs), (1, .ref (a 0)), (2, .ref (b 0)), (3, .ref u), (4, .int (nI (5 * j)))]) [0, 1, 2, 3, 4] rfl ?_
    refine aw_room (k' := k0 + 402) (n' := n0 + 4010) (by omega) (by omega) ?_
    exact next S' F' T' hI'

set_option maxHeartbeats 4000000 in
set_option maxRecDepth 100000 in
theorem lc_addFind {g : aG} {κ : aK} {a b : Nat → Nat} {u bs L : Nat} {xs : Nat → Int32} (C : Cx g κ RL cL_law 9 room_1) (hX : va_X bs L xs (g_s g) (g_s g).heap) (hbl : bs < (g_s g).heap.size) (hbA : ¬ kA κ bs) (hL : L < 2 ^ 31) {j : Nat} (h5 : 5 * j + 5 ≤ L) {I : SC → SM → Prop} {S : SC} {F : Nat → Int64} {T : SM} (hI : I S T) (hK : ∀ (z1 : Int32) (z2 : Int32) (z3 : Int32) (z4 : Int32), KI yL_addFind cL_addFind 7 [(0, 14, 17, 21), (0, 14, 21, 13), (0, 14, 25, 15)] yX6_addFind cX6_addFind 6 I κ a b u [.int z1, .int z2, .int z3, .int z4]) {k0 n0 : Nat} (hk : k0 + 402 ≤ 601024) (hn : n0 + 4010 ≤ 7293034) (next : ∀ S' F' T', I S' T' → aw g κ 9 1848 [(0, .ref bs), (1, .ref (a 0)), (2, .ref (b 0)), (3, .ref u), (4, .int (nI (5 * j)))] [] (lW κ a b u S' F' T') (k0 + 402) (n0 + 4010)) : aw g κ 9 927 [(0, .ref bs), (1, .ref (a 0)), (2, .ref (b 0)), (3, .ref u), (4, .int (nI (5 * j)))] [] (lW κ a b u S F T) k0 n0 := by
  refine a_aloadn (pc := 927) C 1 rfl rfl dL_law_927 ?_
  refine a_aloadn (pc := 928) C 0 rfl rfl dL_law_928 ?_
  refine a_iload (pc := 929) C 4 rfl dL_law_929 ?_
  refine a_iconst (pc := 931) (v := nI 1) C ci_1 dL_law_931 ?_
  refine a_iadd (pc := 932) (v := nI ((5 * j) + 1)) C (nI_add _ _) dL_law_932 ?_
  refine a_sld (pc := 933) C hX hbl hbA (by omega) hL dL_law_933 ?_
  refine a_aloadn (pc := 934) C 0 rfl rfl dL_law_934 ?_
  refine a_iload (pc := 935) C 4 rfl dL_law_935 ?_
  refine a_iconst (pc := 937) (v := nI 2) C ci_2 dL_law_937 ?_
  refine a_iadd (pc := 938) (v := nI ((5 * j) + 2)) C (nI_add _ _) dL_law_938 ?_
  refine a_sld (pc := 939) C hX hbl hbA (by omega) hL dL_law_939 ?_
  refine a_aloadn (pc := 940) C 0 rfl rfl dL_law_940 ?_
  refine a_iload (pc := 941) C 4 rfl dL_law_941 ?_
  refine a_iconst (pc := 943) (v := nI 3) C ci_3 dL_law_943 ?_
  refine a_iadd (pc := 944) (v := nI ((5 * j) + 3)) C (nI_add _ _) dL_law_944 ?_
  refine a_sld (pc := 945) C hX hbl hbA (by omega) hL dL_law_945 ?_
  refine a_aloadn (pc := 946) C 0 rfl rfl dL_law_946 ?_
  refine a_iload (pc := 947) C 4 rfl dL_law_947 ?_
  refine a_iconst (pc := 949) (v := nI 4) C ci_4 dL_law_949 ?_
  refine a_iadd (pc := 950) (v := nI ((5 * j) + 4)) C (nI_add _ _) dL_law_950 ?_
  refine a_sld (pc := 951) C hX hbl hbA (by omega) hL dL_law_951 ?_
  refine a_aloadn (pc := 952) C 3 rfl rfl dL_law_952 ?_
  obtain ⟨S', T', kk, v, hI', hkk, ⟨rm1, hb1, hW⟩, ⟨rm2, hb2, hR⟩, hth⟩ := hK (xs ((5 * j) + 1)) (xs ((5 * j) + 2)) (xs ((5 * j) + 3)) (xs ((5 * j) + 4)) S T hI
  obtain ⟨hb11, hb12, hb13, hb14⟩ := hb1
  obtain ⟨hb21, hb22, hb23, hb24⟩ := hb2
  obtain ⟨F', hW1, hW2⟩ := hW (mS κ b T []) F
  refine a_callW (pc := 953) C hW1 yw_L_addFind ml_L_135 ws_L_addFind rfl rfl (by decide) (by show _ ≤ 11; omega) (by show _ ≤ 396; omega) ⟨by show _ ≤ 601024; omega, by show _ ≤ 7293034; omega⟩ dL_law_953 (fun ro w h => ?_)
  obtain ⟨rfl, rfl⟩ := h
  refine a_istore (pc := 956) (L' := [(0, .ref bs), (1, .ref (a 0)), (2, .ref (b 0)), (3, .ref u), (4, .int (nI (5 * j))), (5, .int (nI kk))]) C (by decide) rfl dL_law_956 ?_
  refine a_aloadn (pc := 958) C 2 rfl rfl dL_law_958 ?_
  refine a_aloadn (pc := 959) C 0 rfl rfl dL_law_959 ?_
  refine a_iload (pc := 960) C 4 rfl dL_law_960 ?_
  refine a_iconst (pc := 962) (v := nI 1) C ci_1 dL_law_962 ?_
  refine a_iadd (pc := 963) (v := nI ((5 * j) + 1)) C (nI_add _ _) dL_law_963 ?_
  refine a_sld (pc := 964) C hX hbl hbA (by omega) hL dL_law_964 ?_
  refine a_aloadn (pc := 965) C 0 rfl rfl dL_law_965 ?_
  refine a_iload (pc := 966) C 4 rfl dL_law_966 ?_
  refine a_iconst (pc := 968) (v := nI 2) C ci_2 dL_law_968 ?_
  refine a_iadd (pc := 969) (v := nI ((5 * j) + 2)) C (nI_add _ _) dL_law_969 ?_
  refine a_sld (pc := 970) C hX hbl hbA (by omega) hL dL_law_970 ?_
  refine a_aloadn (pc := 971) C 0 rfl rfl dL_law_971 ?_
  refine a_iload (pc := 972) C 4 rfl dL_law_972 ?_
  refine a_iconst (pc := 974) (v := nI 3) C ci_3 dL_law_974 ?_
  refine a_iadd (pc := 975) (v := nI ((5 * j) + 3)) C (nI_add _ _) dL_law_975 ?_
  refine a_sld (pc := 976) C hX hbl hbA (by omega) hL dL_law_976 ?_
  refine a_aloadn (pc := 977) C 0 rfl rfl dL_law_977 ?_
  refine a_iload (pc := 978) C 4 rfl dL_law_978 ?_
  refine a_iconst (pc := 980) (v := nI 4) C ci_4 dL_law_980 ?_
  refine a_iadd (pc := 981) (v := nI ((5 * j) + 4)) C (nI_add _ _) dL_law_981 ?_
  refine a_sld (pc := 982) C hX hbl hbA (by omega) hL dL_law_982 ?_
  refine aw_perm (ws' := lM κ a b u S' F' T) lW_perm ?_
  refine a_callV (pc := 983) C (hR (cS κ a S' [oc κ u F'])) yv_X6_addFind ml_L_138 wi_X6_addFind wl_X6_addFind 0 rfl rfl rfl rfl rfl (by decide) (by show _ ≤ 11; omega) (by show _ ≤ 396; omega) ⟨by show _ ≤ 601024; omega, by show _ ≤ 7293034; omega⟩ dL_law_983 (fun ro w h => ?_)
  obtain ⟨rfl, rfl⟩ := h
  refine a_istore (pc := 986) (L' := [(0, .ref bs), (1, .ref (a 0)), (2, .ref (b 0)), (3, .ref u), (4, .int (nI (5 * j))), (5, .int (nI kk)), (6, .int v)]) C (by decide) rfl dL_law_986 ?_
  refine a_aloadn (pc := 988) C 2 rfl rfl dL_law_988 ?_
  obtain ⟨rm3, ⟨hb31, hb32, hb33, hb34⟩, hT3⟩ := thr_c κ b T'
  refine a_callV (pc := 989) C (hT3 (cS κ a S' [oc κ u F'])) yv_X6_thrown ml_L_98 wi_X6_thrown wl_X6_thrown 0 rfl rfl rfl rfl rfl (by decide) (by show _ ≤ 11; omega) (by show _ ≤ 396; omega) ⟨by show _ ≤ 601024; omega, by show _ ≤ 7293034; omega⟩ dL_law_989 (fun ro w h => ?_)
  obtain ⟨rfl, rfl⟩ := h
  refine aw_perm (ws' := lW κ a b u S' F' T') lW_perm.symm ?_
  refine aw_st (st' := [.int (nI kk)]) (by show [Value.int T'.1] = _; rw [hth]) ?_
  refine a_iload (pc := 992) C 5 rfl dL_law_992 ?_
  refine a_icn_eq_y (pc := 994) (tgt := 999) C (by omega) (by omega) rfl (by decide) dL_law_994 ?_
  refine a_iload (pc := 999) C 5 rfl dL_law_999 ?_
  refine a_ifn_ne (pc := 1001) (tgt := 1016) C (by omega) (by decide) dL_law_1001 (fun c1 => ?_) (fun c1 => ?_)
  · refine a_goto (pc := 1016) (tgt := 1848) C (by decide) dL_law_1016 ?_
    refine aw_locals (L' := [(0, .ref bs), (1, .ref (a 0)), (2, .ref (b 0)), (3, .ref u), (4, .int (nI (5 * j)))]) [0, 1, 2, 3, 4] rfl ?_
    refine aw_room (k' := k0 + 402) (n' := n0 + 4010) (by omega) (by omega) ?_
    exact next S' F' T' hI'
  · have hv := hW2 c1
    refine a_aloadn (pc := 1004) C 3 rfl rfl dL_law_1004 ?_
    refine a_iconst (pc := 1005) (v := nI 0) C ci_0 dL_law_1005 ?_
    refine a_lald (pc := 1006) C 33 rfl (by decide) (by decide) dL_law_1006 ?_
    refine a_iload (pc := 1007) C 6 rfl dL_law_1007 ?_
    refine a_i2l (pc := 1009) (v := v.toInt64) C rfl dL_law_1009 ?_
    refine a_lcmp (pc := 1010) (v := lg_cmp (F' 0) v.toInt64) C rfl dL_law_1010 ?_
    refine a_if_eq_y (pc := 1011) (tgt := 1016) C (lg_cmp_0.mpr hv) (by decide) dL_law_1011 ?_
    refine a_goto (pc := 1016) (tgt := 1848) C (by decide) dL_law_1016 ?_
    refine aw_locals (L' := [(0, .ref bs), (1, .ref (a 0)), (2, .ref (b 0)), (3, .ref u), (4, .int (nI (5 * j)))]) [0, 1, 2, 3, 4] rfl ?_
    refine aw_room (k' := k0 + 402) (n' := n0 + 4010) (by omega) (by omega) ?_
    exact next S' F' T' hI'

set_option maxHeartbeats 4000000 in
set_option maxRecDepth 100000 in
theorem lc_place {g : aG} {κ : aK} {a b : Nat → Nat} {u bs L : Nat} {xs : Nat → Int32} (C : Cx g κ RL cL_law 9 room_1) (hX : va_X bs L xs (g_s g) (g_s g).heap) (hbl : bs < (g_s g).heap.size) (hbA : ¬ kA κ bs) (hL : L < 2 ^ 31) {j : Nat} (h5 : 5 * j + 5 ≤ L) {I : SC → SM → Prop} {S : SC} {F : Nat → Int64} {T : SM} (hI : I S T) (hK : ∀ (z1 : Int32) (z2 : Int32) (z3 : Int32) (z4 : Int32), KI yL_place cL_place 7 [(0, 14, 17, 21), (0, 14, 21, 13)] yX6_place cX6_place 6 I κ a b u [.int z1, .int z2, .int z3, .int z4]) {k0 n0 : Nat} (hk : k0 + 402 ≤ 601024) (hn : n0 + 4010 ≤ 7293034) (next : ∀ S' F' T', I S' T' → aw g κ 9 1848 [(0, .ref bs), (1, .ref (a 0)), (2, .ref (b 0)), (3, .ref u), (4, .int (nI (5 * j)))] [] (lW κ a b u S' F' T') (k0 + 402) (n0 + 4010)) : aw g κ 9 1019 [(0, .ref bs), (1, .ref (a 0)), (2, .ref (b 0)), (3, .ref u), (4, .int (nI (5 * j)))] [] (lW κ a b u S F T) k0 n0 := by
  refine a_aloadn (pc := 1019) C 1 rfl rfl dL_law_1019 ?_
  refine a_aloadn (pc := 1020) C 0 rfl rfl dL_law_1020 ?_
  refine a_iload (pc := 1021) C 4 rfl dL_law_1021 ?_
  refine a_iconst (pc := 1023) (v := nI 1) C ci_1 dL_law_1023 ?_
  refine a_iadd (pc := 1024) (v := nI ((5 * j) + 1)) C (nI_add _ _) dL_law_1024 ?_
  refine a_sld (pc := 1025) C hX hbl hbA (by omega) hL dL_law_1025 ?_
  refine a_aloadn (pc := 1026) C 0 rfl rfl dL_law_1026 ?_
  refine a_iload (pc := 1027) C 4 rfl dL_law_1027 ?_
  refine a_iconst (pc := 1029) (v := nI 2) C ci_2 dL_law_1029 ?_
  refine a_iadd (pc := 1030) (v := nI ((5 * j) + 2)) C (nI_add _ _) dL_law_1030 ?_
  refine a_sld (pc := 1031) C hX hbl hbA (by omega) hL dL_law_1031 ?_
  refine a_aloadn (pc := 1032) C 0 rfl rfl dL_law_1032 ?_
  refine a_iload (pc := 1033) C 4 rfl dL_law_1033 ?_
  refine a_iconst (pc := 1035) (v := nI 3) C ci_3 dL_law_1035 ?_
  refine a_iadd (pc := 1036) (v := nI ((5 * j) + 3)) C (nI_add _ _) dL_law_1036 ?_
  refine a_sld (pc := 1037) C hX hbl hbA (by omega) hL dL_law_1037 ?_
  refine a_aloadn (pc := 1038) C 0 rfl rfl dL_law_1038 ?_
  refine a_iload (pc := 1039) C 4 rfl dL_law_1039 ?_
  refine a_iconst (pc := 1041) (v := nI 4) C ci_4 dL_law_1041 ?_
  refine a_iadd (pc := 1042) (v := nI ((5 * j) + 4)) C (nI_add _ _) dL_law_1042 ?_
  refine a_sld (pc := 1043) C hX hbl hbA (by omega) hL dL_law_1043 ?_
  refine a_aloadn (pc := 1044) C 3 rfl rfl dL_law_1044 ?_
  obtain ⟨S', T', kk, v, hI', hkk, ⟨rm1, hb1, hW⟩, ⟨rm2, hb2, hR⟩, hth⟩ := hK (xs ((5 * j) + 1)) (xs ((5 * j) + 2)) (xs ((5 * j) + 3)) (xs ((5 * j) + 4)) S T hI
  obtain ⟨hb11, hb12, hb13, hb14⟩ := hb1
  obtain ⟨hb21, hb22, hb23, hb24⟩ := hb2
  obtain ⟨F', hW1, hW2⟩ := hW (mS κ b T []) F
  refine a_callW (pc := 1045) C hW1 yw_L_place ml_L_139 ws_L_place rfl rfl (by decide) (by show _ ≤ 11; omega) (by show _ ≤ 396; omega) ⟨by show _ ≤ 601024; omega, by show _ ≤ 7293034; omega⟩ dL_law_1045 (fun ro w h => ?_)
  obtain ⟨rfl, rfl⟩ := h
  refine a_istore (pc := 1048) (L' := [(0, .ref bs), (1, .ref (a 0)), (2, .ref (b 0)), (3, .ref u), (4, .int (nI (5 * j))), (5, .int (nI kk))]) C (by decide) rfl dL_law_1048 ?_
  refine a_aloadn (pc := 1050) C 2 rfl rfl dL_law_1050 ?_
  refine a_aloadn (pc := 1051) C 0 rfl rfl dL_law_1051 ?_
  refine a_iload (pc := 1052) C 4 rfl dL_law_1052 ?_
  refine a_iconst (pc := 1054) (v := nI 1) C ci_1 dL_law_1054 ?_
  refine a_iadd (pc := 1055) (v := nI ((5 * j) + 1)) C (nI_add _ _) dL_law_1055 ?_
  refine a_sld (pc := 1056) C hX hbl hbA (by omega) hL dL_law_1056 ?_
  refine a_aloadn (pc := 1057) C 0 rfl rfl dL_law_1057 ?_
  refine a_iload (pc := 1058) C 4 rfl dL_law_1058 ?_
  refine a_iconst (pc := 1060) (v := nI 2) C ci_2 dL_law_1060 ?_
  refine a_iadd (pc := 1061) (v := nI ((5 * j) + 2)) C (nI_add _ _) dL_law_1061 ?_
  refine a_sld (pc := 1062) C hX hbl hbA (by omega) hL dL_law_1062 ?_
  refine a_aloadn (pc := 1063) C 0 rfl rfl dL_law_1063 ?_
  refine a_iload (pc := 1064) C 4 rfl dL_law_1064 ?_
  refine a_iconst (pc := 1066) (v := nI 3) C ci_3 dL_law_1066 ?_
  refine a_iadd (pc := 1067) (v := nI ((5 * j) + 3)) C (nI_add _ _) dL_law_1067 ?_
  refine a_sld (pc := 1068) C hX hbl hbA (by omega) hL dL_law_1068 ?_
  refine a_aloadn (pc := 1069) C 0 rfl rfl dL_law_1069 ?_
  refine a_iload (pc := 1070) C 4 rfl dL_law_1070 ?_
  refine a_iconst (pc := 1072) (v := nI 4) C ci_4 dL_law_1072 ?_
  refine a_iadd (pc := 1073) (v := nI ((5 * j) + 4)) C (nI_add _ _) dL_law_1073 ?_
  refine a_sld (pc := 1074) C hX hbl hbA (by omega) hL dL_law_1074 ?_
  refine aw_perm (ws' := lM κ a b u S' F' T) lW_perm ?_
  refine a_callV (pc := 1075) C (hR (cS κ a S' [oc κ u F'])) yv_X6_place ml_L_141 wi_X6_place wl_X6_place 0 rfl rfl rfl rfl rfl (by decide) (by show _ ≤ 11; omega) (by show _ ≤ 396; omega) ⟨by show _ ≤ 601024; omega, by show _ ≤ 7293034; omega⟩ dL_law_1075 (fun ro w h => ?_)
  obtain ⟨rfl, rfl⟩ := h
  refine a_istore (pc := 1078) (L' := [(0, .ref bs), (1, .ref (a 0)), (2, .ref (b 0)), (3, .ref u), (4, .int (nI (5 * j))), (5, .int (nI kk)), (6, .int v)]) C (by decide) rfl dL_law_1078 ?_
  refine a_aloadn (pc := 1080) C 2 rfl rfl dL_law_1080 ?_
  obtain ⟨rm3, ⟨hb31, hb32, hb33, hb34⟩, hT3⟩ := thr_c κ b T'
  refine a_callV (pc := 1081) C (hT3 (cS κ a S' [oc κ u F'])) yv_X6_thrown ml_L_98 wi_X6_thrown wl_X6_thrown 0 rfl rfl rfl rfl rfl (by decide) (by show _ ≤ 11; omega) (by show _ ≤ 396; omega) ⟨by show _ ≤ 601024; omega, by show _ ≤ 7293034; omega⟩ dL_law_1081 (fun ro w h => ?_)
  obtain ⟨rfl, rfl⟩ := h
  refine aw_perm (ws' := lW κ a b u S' F' T') lW_perm.symm ?_
  refine aw_st (st' := [.int (nI kk)]) (by show [Value.int T'.1] = _; rw [hth]) ?_
  refine a_iload (pc := 1084) C 5 rfl dL_law_1084 ?_
  refine a_icn_eq_y (pc := 1086) (tgt := 1091) C (by omega) (by omega) rfl (by decide) dL_law_1086 ?_
  refine a_iload (pc := 1091) C 5 rfl dL_law_1091 ?_
  refine a_ifn_ne (pc := 1093) (tgt := 1108) C (by omega) (by decide) dL_law_1093 (fun c1 => ?_) (fun c1 => ?_)
  · refine a_goto (pc := 1108) (tgt := 1848) C (by decide) dL_law_1108 ?_
    refine aw_locals (L' := [(0, .ref bs), (1, .ref (a 0)), (2, .ref (b 0)), (3, .ref u), (4, .int (nI (5 * j)))]) [0, 1, 2, 3, 4] rfl ?_
    refine aw_room (k' := k0 + 402) (n' := n0 + 4010) (by omega) (by omega) ?_
    exact next S' F' T' hI'
  · have hv := hW2 c1
    refine a_aloadn (pc := 1096) C 3 rfl rfl dL_law_1096 ?_
    refine a_iconst (pc := 1097) (v := nI 0) C ci_0 dL_law_1097 ?_
    refine a_lald (pc := 1098) C 33 rfl (by decide) (by decide) dL_law_1098 ?_
    refine a_iload (pc := 1099) C 6 rfl dL_law_1099 ?_
    refine a_i2l (pc := 1101) (v := v.toInt64) C rfl dL_law_1101 ?_
    refine a_lcmp (pc := 1102) (v := lg_cmp (F' 0) v.toInt64) C rfl dL_law_1102 ?_
    refine a_if_eq_y (pc := 1103) (tgt := 1108) C (lg_cmp_0.mpr hv) (by decide) dL_law_1103 ?_
    refine a_goto (pc := 1108) (tgt := 1848) C (by decide) dL_law_1108 ?_
    refine aw_locals (L' := [(0, .ref bs), (1, .ref (a 0)), (2, .ref (b 0)), (3, .ref u), (4, .int (nI (5 * j)))]) [0, 1, 2, 3, 4] rfl ?_
    refine aw_room (k' := k0 + 402) (n' := n0 + 4010) (by omega) (by omega) ?_
    exact next S' F' T' hI'

set_option maxHeartbeats 4000000 in
set_option maxRecDepth 100000 in
theorem lc_move {g : aG} {κ : aK} {a b : Nat → Nat} {u bs L : Nat} {xs : Nat → Int32} (C : Cx g κ RL cL_law 9 room_1) (hX : va_X bs L xs (g_s g) (g_s g).heap) (hbl : bs < (g_s g).heap.size) (hbA : ¬ kA κ bs) (hL : L < 2 ^ 31) {j : Nat} (h5 : 5 * j + 5 ≤ L) {I : SC → SM → Prop} {S : SC} {F : Nat → Int64} {T : SM} (hI : I S T) (hK : ∀ (z1 : Int32) (z2 : Int32), KI yL_move cL_move 5 [(0, 10, 13, 21)] yX6_move cX6_move 4 I κ a b u [.int z1, .int z2]) {k0 n0 : Nat} (hk : k0 + 402 ≤ 601024) (hn : n0 + 4010 ≤ 7293034) (next : ∀ S' F' T', I S' T' → aw g κ 9 1848 [(0, .ref bs), (1, .ref (a 0)), (2, .ref (b 0)), (3, .ref u), (4, .int (nI (5 * j)))] [] (lW κ a b u S' F' T') (k0 + 402) (n0 + 4010)) : aw g κ 9 1111 [(0, .ref bs), (1, .ref (a 0)), (2, .ref (b 0)), (3, .ref u), (4, .int (nI (5 * j)))] [] (lW κ a b u S F T) k0 n0 := by
  refine a_aloadn (pc := 1111) C 1 rfl rfl dL_law_1111 ?_
  refine a_aloadn (pc := 1112) C 0 rfl rfl dL_law_1112 ?_
  refine a_iload (pc := 1113) C 4 rfl dL_law_1113 ?_
  refine a_iconst (pc := 1115) (v := nI 1) C ci_1 dL_law_1115 ?_
  refine a_iadd (pc := 1116) (v := nI ((5 * j) + 1)) C (nI_add _ _) dL_law_1116 ?_
  refine a_sld (pc := 1117) C hX hbl hbA (by omega) hL dL_law_1117 ?_
  refine a_aloadn (pc := 1118) C 0 rfl rfl dL_law_1118 ?_
  refine a_iload (pc := 1119) C 4 rfl dL_law_1119 ?_
  refine a_iconst (pc := 1121) (v := nI 2) C ci_2 dL_law_1121 ?_
  refine a_iadd (pc := 1122) (v := nI ((5 * j) + 2)) C (nI_add _ _) dL_law_1122 ?_
  refine a_sld (pc := 1123) C hX hbl hbA (by omega) hL dL_law_1123 ?_
  refine a_aloadn (pc := 1124) C 3 rfl rfl dL_law_1124 ?_
  obtain ⟨S', T', kk, v, hI', hkk, ⟨rm1, hb1, hW⟩, ⟨rm2, hb2, hR⟩, hth⟩ := hK (xs ((5 * j) + 1)) (xs ((5 * j) + 2)) S T hI
  obtain ⟨hb11, hb12, hb13, hb14⟩ := hb1
  obtain ⟨hb21, hb22, hb23, hb24⟩ := hb2
  obtain ⟨F', hW1, hW2⟩ := hW (mS κ b T []) F
  refine a_callW (pc := 1125) C hW1 yw_L_move ml_L_142 ws_L_move rfl rfl (by decide) (by show _ ≤ 11; omega) (by show _ ≤ 396; omega) ⟨by show _ ≤ 601024; omega, by show _ ≤ 7293034; omega⟩ dL_law_1125 (fun ro w h => ?_)
  obtain ⟨rfl, rfl⟩ := h
  refine a_istore (pc := 1128) (L' := [(0, .ref bs), (1, .ref (a 0)), (2, .ref (b 0)), (3, .ref u), (4, .int (nI (5 * j))), (5, .int (nI kk))]) C (by decide) rfl dL_law_1128 ?_
  refine a_aloadn (pc := 1130) C 2 rfl rfl dL_law_1130 ?_
  refine a_aloadn (pc := 1131) C 0 rfl rfl dL_law_1131 ?_
  refine a_iload (pc := 1132) C 4 rfl dL_law_1132 ?_
  refine a_iconst (pc := 1134) (v := nI 1) C ci_1 dL_law_1134 ?_
  refine a_iadd (pc := 1135) (v := nI ((5 * j) + 1)) C (nI_add _ _) dL_law_1135 ?_
  refine a_sld (pc := 1136) C hX hbl hbA (by omega) hL dL_law_1136 ?_
  refine a_aloadn (pc := 1137) C 0 rfl rfl dL_law_1137 ?_
  refine a_iload (pc := 1138) C 4 rfl dL_law_1138 ?_
  refine a_iconst (pc := 1140) (v := nI 2) C ci_2 dL_law_1140 ?_
  refine a_iadd (pc := 1141) (v := nI ((5 * j) + 2)) C (nI_add _ _) dL_law_1141 ?_
  refine a_sld (pc := 1142) C hX hbl hbA (by omega) hL dL_law_1142 ?_
  refine aw_perm (ws' := lM κ a b u S' F' T) lW_perm ?_
  refine a_callV (pc := 1143) C (hR (cS κ a S' [oc κ u F'])) yv_X6_move ml_L_144 wi_X6_move wl_X6_move 0 rfl rfl rfl rfl rfl (by decide) (by show _ ≤ 11; omega) (by show _ ≤ 396; omega) ⟨by show _ ≤ 601024; omega, by show _ ≤ 7293034; omega⟩ dL_law_1143 (fun ro w h => ?_)
  obtain ⟨rfl, rfl⟩ := h
  refine a_istore (pc := 1146) (L' := [(0, .ref bs), (1, .ref (a 0)), (2, .ref (b 0)), (3, .ref u), (4, .int (nI (5 * j))), (5, .int (nI kk)), (6, .int v)]) C (by decide) rfl dL_law_1146 ?_
  refine a_aloadn (pc := 1148) C 2 rfl rfl dL_law_1148 ?_
  obtain ⟨rm3, ⟨hb31, hb32, hb33, hb34⟩, hT3⟩ := thr_c κ b T'
  refine a_callV (pc := 1149) C (hT3 (cS κ a S' [oc κ u F'])) yv_X6_thrown ml_L_98 wi_X6_thrown wl_X6_thrown 0 rfl rfl rfl rfl rfl (by decide) (by show _ ≤ 11; omega) (by show _ ≤ 396; omega) ⟨by show _ ≤ 601024; omega, by show _ ≤ 7293034; omega⟩ dL_law_1149 (fun ro w h => ?_)
  obtain ⟨rfl, rfl⟩ := h
  refine aw_perm (ws' := lW κ a b u S' F' T') lW_perm.symm ?_
  refine aw_st (st' := [.int (nI kk)]) (by show [Value.int T'.1] = _; rw [hth]) ?_
  refine a_iload (pc := 1152) C 5 rfl dL_law_1152 ?_
  refine a_icn_eq_y (pc := 1154) (tgt := 1159) C (by omega) (by omega) rfl (by decide) dL_law_1154 ?_
  refine a_iload (pc := 1159) C 5 rfl dL_law_1159 ?_
  refine a_ifn_ne (pc := 1161) (tgt := 1176) C (by omega) (by decide) dL_law_1161 (fun c1 => ?_) (fun c1 => ?_)
  · refine a_goto (pc := 1176) (tgt := 1848) C (by decide) dL_law_1176 ?_
    refine aw_locals (L' := [(0, .ref bs), (1, .ref (a 0)), (2, .ref (b 0)), (3, .ref u), (4, .int (nI (5 * j)))]) [0, 1, 2, 3, 4] rfl ?_
    refine aw_room (k' := k0 + 402) (n' := n0 + 4010) (by omega) (by omega) ?_
    exact next S' F' T' hI'
  · have hv := hW2 c1
    refine a_aloadn (pc := 1164) C 3 rfl rfl dL_law_1164 ?_
    refine a_iconst (pc := 1165) (v := nI 0) C ci_0 dL_law_1165 ?_
    refine a_lald (pc := 1166) C 33 rfl (by decide) (by decide) dL_law_1166 ?_
    refine a_iload (pc := 1167) C 6 rfl dL_law_1167 ?_
    refine a_i2l (pc := 1169) (v := v.toInt64) C rfl dL_law_1169 ?_
    refine a_lcmp (pc := 1170) (v := lg_cmp (F' 0) v.toInt64) C rfl dL_law_1170 ?_
    refine a_if_eq_y (pc := 1171) (tgt := 1176) C (lg_cmp_0.mpr hv) (by decide) dL_law_1171 ?_
    refine a_goto (pc := 1176) (tgt := 1848) C (by decide) dL_law_1176 ?_
    refine aw_locals (L' := [(0, .ref bs), (1, .ref (a 0)), (2, .ref (b 0)), (3, .ref u), (4, .int (nI (5 * j)))]) [0, 1, 2, 3, 4] rfl ?_
    refine aw_room (k' := k0 + 402) (n' := n0 + 4010) (by omega) (by omega) ?_
    exact next S' F' T' hI'

set_option maxHeartbeats 4000000 in
set_option maxRecDepth 100000 in
theorem lc_find {g : aG} {κ : aK} {a b : Nat → Nat} {u bs L : Nat} {xs : Nat → Int32} (C : Cx g κ RL cL_law 9 room_1) (hX : va_X bs L xs (g_s g) (g_s g).heap) (hbl : bs < (g_s g).heap.size) (hbA : ¬ kA κ bs) (hL : L < 2 ^ 31) {j : Nat} (h5 : 5 * j + 5 ≤ L) {I : SC → SM → Prop} {S : SC} {F : Nat → Int64} {T : SM} (hI : I S T) (hK : ∀ (z1 : Int32) (z2 : Int32), KI yL_find cL_find 5 [(0, 10, 13, 21)] yX6_find cX6_find 3 I κ a b u [.int z1, .int z2]) {k0 n0 : Nat} (hk : k0 + 402 ≤ 601024) (hn : n0 + 4010 ≤ 7293034) (next : ∀ S' F' T', I S' T' → aw g κ 9 1848 [(0, .ref bs), (1, .ref (a 0)), (2, .ref (b 0)), (3, .ref u), (4, .int (nI (5 * j)))] [] (lW κ a b u S' F' T') (k0 + 402) (n0 + 4010)) : aw g κ 9 1179 [(0, .ref bs), (1, .ref (a 0)), (2, .ref (b 0)), (3, .ref u), (4, .int (nI (5 * j)))] [] (lW κ a b u S F T) k0 n0 := by
  refine a_aloadn (pc := 1179) C 1 rfl rfl dL_law_1179 ?_
  refine a_aloadn (pc := 1180) C 0 rfl rfl dL_law_1180 ?_
  refine a_iload (pc := 1181) C 4 rfl dL_law_1181 ?_
  refine a_iconst (pc := 1183) (v := nI 1) C ci_1 dL_law_1183 ?_
  refine a_iadd (pc := 1184) (v := nI ((5 * j) + 1)) C (nI_add _ _) dL_law_1184 ?_
  refine a_sld (pc := 1185) C hX hbl hbA (by omega) hL dL_law_1185 ?_
  refine a_aloadn (pc := 1186) C 0 rfl rfl dL_law_1186 ?_
  refine a_iload (pc := 1187) C 4 rfl dL_law_1187 ?_
  refine a_iconst (pc := 1189) (v := nI 2) C ci_2 dL_law_1189 ?_
  refine a_iadd (pc := 1190) (v := nI ((5 * j) + 2)) C (nI_add _ _) dL_law_1190 ?_
  refine a_sld (pc := 1191) C hX hbl hbA (by omega) hL dL_law_1191 ?_
  refine a_aloadn (pc := 1192) C 3 rfl rfl dL_law_1192 ?_
  obtain ⟨S', T', kk, v, hI', hkk, ⟨rm1, hb1, hW⟩, ⟨rm2, hb2, hR⟩, hth⟩ := hK (xs ((5 * j) + 1)) (xs ((5 * j) + 2)) S T hI
  obtain ⟨hb11, hb12, hb13, hb14⟩ := hb1
  obtain ⟨hb21, hb22, hb23, hb24⟩ := hb2
  obtain ⟨F', hW1, hW2⟩ := hW (mS κ b T []) F
  refine a_callW (pc := 1193) C hW1 yw_L_find ml_L_145 ws_L_find rfl rfl (by decide) (by show _ ≤ 11; omega) (by show _ ≤ 396; omega) ⟨by show _ ≤ 601024; omega, by show _ ≤ 7293034; omega⟩ dL_law_1193 (fun ro w h => ?_)
  obtain ⟨rfl, rfl⟩ := h
  refine a_istore (pc := 1196) (L' := [(0, .ref bs), (1, .ref (a 0)), (2, .ref (b 0)), (3, .ref u), (4, .int (nI (5 * j))), (5, .int (nI kk))]) C (by decide) rfl dL_law_1196 ?_
  refine a_aloadn (pc := 1198) C 2 rfl rfl dL_law_1198 ?_
  refine a_aloadn (pc := 1199) C 0 rfl rfl dL_law_1199 ?_
  refine a_iload (pc := 1200) C 4 rfl dL_law_1200 ?_
  refine a_iconst (pc := 1202) (v := nI 1) C ci_1 dL_law_1202 ?_
  refine a_iadd (pc := 1203) (v := nI ((5 * j) + 1)) C (nI_add _ _) dL_law_1203 ?_
  refine a_sld (pc := 1204) C hX hbl hbA (by omega) hL dL_law_1204 ?_
  refine a_aloadn (pc := 1205) C 0 rfl rfl dL_law_1205 ?_
  refine a_iload (pc := 1206) C 4 rfl dL_law_1206 ?_
  refine a_iconst (pc := 1208) (v := nI 2) C ci_2 dL_law_1208 ?_
  refine a_iadd (pc := 1209) (v := nI ((5 * j) + 2)) C (nI_add _ _) dL_law_1209 ?_
  refine a_sld (pc := 1210) C hX hbl hbA (by omega) hL dL_law_1210 ?_
  refine aw_perm (ws' := lM κ a b u S' F' T) lW_perm ?_
  refine a_callV (pc := 1211) C (hR (cS κ a S' [oc κ u F'])) yv_X6_find ml_L_147 wi_X6_find wl_X6_find 0 rfl rfl rfl rfl rfl (by decide) (by show _ ≤ 11; omega) (by show _ ≤ 396; omega) ⟨by show _ ≤ 601024; omega, by show _ ≤ 7293034; omega⟩ dL_law_1211 (fun ro w h => ?_)
  obtain ⟨rfl, rfl⟩ := h
  refine a_istore (pc := 1214) (L' := [(0, .ref bs), (1, .ref (a 0)), (2, .ref (b 0)), (3, .ref u), (4, .int (nI (5 * j))), (5, .int (nI kk)), (6, .int v)]) C (by decide) rfl dL_law_1214 ?_
  refine a_aloadn (pc := 1216) C 2 rfl rfl dL_law_1216 ?_
  obtain ⟨rm3, ⟨hb31, hb32, hb33, hb34⟩, hT3⟩ := thr_c κ b T'
  refine a_callV (pc := 1217) C (hT3 (cS κ a S' [oc κ u F'])) yv_X6_thrown ml_L_98 wi_X6_thrown wl_X6_thrown 0 rfl rfl rfl rfl rfl (by decide) (by show _ ≤ 11; omega) (by show _ ≤ 396; omega) ⟨by show _ ≤ 601024; omega, by show _ ≤ 7293034; omega⟩ dL_law_1217 (fun ro w h => ?_)
  obtain ⟨rfl, rfl⟩ := h
  refine aw_perm (ws' := lW κ a b u S' F' T') lW_perm.symm ?_
  refine aw_st (st' := [.int (nI kk)]) (by show [Value.int T'.1] = _; rw [hth]) ?_
  refine a_iload (pc := 1220) C 5 rfl dL_law_1220 ?_
  refine a_icn_eq_y (pc := 1222) (tgt := 1227) C (by omega) (by omega) rfl (by decide) dL_law_1222 ?_
  refine a_iload (pc := 1227) C 5 rfl dL_law_1227 ?_
  refine a_ifn_ne (pc := 1229) (tgt := 1244) C (by omega) (by decide) dL_law_1229 (fun c1 => ?_) (fun c1 => ?_)
  · refine a_goto (pc := 1244) (tgt := 1848) C (by decide) dL_law_1244 ?_
    refine aw_locals (L' := [(0, .ref bs), (1, .ref (a 0)), (2, .ref (b 0)), (3, .ref u), (4, .int (nI (5 * j)))]) [0, 1, 2, 3, 4] rfl ?_
    refine aw_room (k' := k0 + 402) (n' := n0 + 4010) (by omega) (by omega) ?_
    exact next S' F' T' hI'
  · have hv := hW2 c1
    refine a_aloadn (pc := 1232) C 3 rfl rfl dL_law_1232 ?_
    refine a_iconst (pc := 1233) (v := nI 0) C ci_0 dL_law_1233 ?_
    refine a_lald (pc := 1234) C 33 rfl (by decide) (by decide) dL_law_1234 ?_
    refine a_iload (pc := 1235) C 6 rfl dL_law_1235 ?_
    refine a_i2l (pc := 1237) (v := v.toInt64) C rfl dL_law_1237 ?_
    refine a_lcmp (pc := 1238) (v := lg_cmp (F' 0) v.toInt64) C rfl dL_law_1238 ?_
    refine a_if_eq_y (pc := 1239) (tgt := 1244) C (lg_cmp_0.mpr hv) (by decide) dL_law_1239 ?_
    refine a_goto (pc := 1244) (tgt := 1848) C (by decide) dL_law_1244 ?_
    refine aw_locals (L' := [(0, .ref bs), (1, .ref (a 0)), (2, .ref (b 0)), (3, .ref u), (4, .int (nI (5 * j)))]) [0, 1, 2, 3, 4] rfl ?_
    refine aw_room (k' := k0 + 402) (n' := n0 + 4010) (by omega) (by omega) ?_
    exact next S' F' T' hI'

set_option maxHeartbeats 4000000 in
set_option maxRecDepth 100000 in
theorem lc_date {g : aG} {κ : aK} {a b : Nat → Nat} {u bs L : Nat} {xs : Nat → Int32} (C : Cx g κ RL cL_law 9 room_1) (hX : va_X bs L xs (g_s g) (g_s g).heap) (hbl : bs < (g_s g).heap.size) (hbA : ¬ kA κ bs) (hL : L < 2 ^ 31) {j : Nat} (h5 : 5 * j + 5 ≤ L) {I : SC → SM → Prop} {S : SC} {F : Nat → Int64} {T : SM} (hI : I S T) (hK : ∀ (z1 : Int32) (z2 : Int32) (z3 : Int32), KI yL_date cL_date 6 [(0, 12, 15, 21), (0, 12, 19, 13)] yX6_date cX6_date 5 I κ a b u [.int z1, .int z2, .int z3]) {k0 n0 : Nat} (hk : k0 + 402 ≤ 601024) (hn : n0 + 4010 ≤ 7293034) (next : ∀ S' F' T', I S' T' → aw g κ 9 1848 [(0, .ref bs), (1, .ref (a 0)), (2, .ref (b 0)), (3, .ref u), (4, .int (nI (5 * j)))] [] (lW κ a b u S' F' T') (k0 + 402) (n0 + 4010)) : aw g κ 9 1247 [(0, .ref bs), (1, .ref (a 0)), (2, .ref (b 0)), (3, .ref u), (4, .int (nI (5 * j)))] [] (lW κ a b u S F T) k0 n0 := by
  refine a_aloadn (pc := 1247) C 1 rfl rfl dL_law_1247 ?_
  refine a_aloadn (pc := 1248) C 0 rfl rfl dL_law_1248 ?_
  refine a_iload (pc := 1249) C 4 rfl dL_law_1249 ?_
  refine a_iconst (pc := 1251) (v := nI 1) C ci_1 dL_law_1251 ?_
  refine a_iadd (pc := 1252) (v := nI ((5 * j) + 1)) C (nI_add _ _) dL_law_1252 ?_
  refine a_sld (pc := 1253) C hX hbl hbA (by omega) hL dL_law_1253 ?_
  refine a_aloadn (pc := 1254) C 0 rfl rfl dL_law_1254 ?_
  refine a_iload (pc := 1255) C 4 rfl dL_law_1255 ?_
  refine a_iconst (pc := 1257) (v := nI 2) C ci_2 dL_law_1257 ?_
  refine a_iadd (pc := 1258) (v := nI ((5 * j) + 2)) C (nI_add _ _) dL_law_1258 ?_
  refine a_sld (pc := 1259) C hX hbl hbA (by omega) hL dL_law_1259 ?_
  refine a_aloadn (pc := 1260) C 0 rfl rfl dL_law_1260 ?_
  refine a_iload (pc := 1261) C 4 rfl dL_law_1261 ?_
  refine a_iconst (pc := 1263) (v := nI 3) C ci_3 dL_law_1263 ?_
  refine a_iadd (pc := 1264) (v := nI ((5 * j) + 3)) C (nI_add _ _) dL_law_1264 ?_
  refine a_sld (pc := 1265) C hX hbl hbA (by omega) hL dL_law_1265 ?_
  refine a_aloadn (pc := 1266) C 3 rfl rfl dL_law_1266 ?_
  obtain ⟨S', T', kk, v, hI', hkk, ⟨rm1, hb1, hW⟩, ⟨rm2, hb2, hR⟩, hth⟩ := hK (xs ((5 * j) + 1)) (xs ((5 * j) + 2)) (xs ((5 * j) + 3)) S T hI
  obtain ⟨hb11, hb12, hb13, hb14⟩ := hb1
  obtain ⟨hb21, hb22, hb23, hb24⟩ := hb2
  obtain ⟨F', hW1, hW2⟩ := hW (mS κ b T []) F
  refine a_callW (pc := 1267) C hW1 yw_L_date ml_L_148 ws_L_date rfl rfl (by decide) (by show _ ≤ 11; omega) (by show _ ≤ 396; omega) ⟨by show _ ≤ 601024; omega, by show _ ≤ 7293034; omega⟩ dL_law_1267 (fun ro w h => ?_)
  obtain ⟨rfl, rfl⟩ := h
  refine a_istore (pc := 1270) (L' := [(0, .ref bs), (1, .ref (a 0)), (2, .ref (b 0)), (3, .ref u), (4, .int (nI (5 * j))), (5, .int (nI kk))]) C (by decide) rfl dL_law_1270 ?_
  refine a_aloadn (pc := 1272) C 2 rfl rfl dL_law_1272 ?_
  refine a_aloadn (pc := 1273) C 0 rfl rfl dL_law_1273 ?_
  refine a_iload (pc := 1274) C 4 rfl dL_law_1274 ?_
  refine a_iconst (pc := 1276) (v := nI 1) C ci_1 dL_law_1276 ?_
  refine a_iadd (pc := 1277) (v := nI ((5 * j) + 1)) C (nI_add _ _) dL_law_1277 ?_
  refine a_sld (pc := 1278) C hX hbl hbA (by omega) hL dL_law_1278 ?_
  refine a_aloadn (pc := 1279) C 0 rfl rfl dL_law_1279 ?_
  refine a_iload (pc := 1280) C 4 rfl dL_law_1280 ?_
  refine a_iconst (pc := 1282) (v := nI 2) C ci_2 dL_law_1282 ?_
  refine a_iadd (pc := 1283) (v := nI ((5 * j) + 2)) C (nI_add _ _) dL_law_1283 ?_
  refine a_sld (pc := 1284) C hX hbl hbA (by omega) hL dL_law_1284 ?_
  refine a_aloadn (pc := 1285) C 0 rfl rfl dL_law_1285 ?_
  refine a_iload (pc := 1286) C 4 rfl dL_law_1286 ?_
  refine a_iconst (pc := 1288) (v := nI 3) C ci_3 dL_law_1288 ?_
  refine a_iadd (pc := 1289) (v := nI ((5 * j) + 3)) C (nI_add _ _) dL_law_1289 ?_
  refine a_sld (pc := 1290) C hX hbl hbA (by omega) hL dL_law_1290 ?_
  refine aw_perm (ws' := lM κ a b u S' F' T) lW_perm ?_
  refine a_callV (pc := 1291) C (hR (cS κ a S' [oc κ u F'])) yv_X6_date ml_L_150 wi_X6_date wl_X6_date 0 rfl rfl rfl rfl rfl (by decide) (by show _ ≤ 11; omega) (by show _ ≤ 396; omega) ⟨by show _ ≤ 601024; omega, by show _ ≤ 7293034; omega⟩ dL_law_1291 (fun ro w h => ?_)
  obtain ⟨rfl, rfl⟩ := h
  refine a_istore (pc := 1294) (L' := [(0, .ref bs), (1, .ref (a 0)), (2, .ref (b 0)), (3, .ref u), (4, .int (nI (5 * j))), (5, .int (nI kk)), (6, .int v)]) C (by decide) rfl dL_law_1294 ?_
  refine a_aloadn (pc := 1296) C 2 rfl rfl dL_law_1296 ?_
  obtain ⟨rm3, ⟨hb31, hb32, hb33, hb34⟩, hT3⟩ := thr_c κ b T'
  refine a_callV (pc := 1297) C (hT3 (cS κ a S' [oc κ u F'])) yv_X6_thrown ml_L_98 wi_X6_thrown wl_X6_thrown 0 rfl rfl rfl rfl rfl (by decide) (by show _ ≤ 11; omega) (by show _ ≤ 396; omega) ⟨by show _ ≤ 601024; omega, by show _ ≤ 7293034; omega⟩ dL_law_1297 (fun ro w h => ?_)
  obtain ⟨rfl, rfl⟩ := h
  refine aw_perm (ws' := lW κ a b u S' F' T') lW_perm.symm ?_
  refine aw_st (st' := [.int (nI kk)]) (by show [Value.int T'.1] = _; rw [hth]) ?_
  refine a_iload (pc := 1300) C 5 rfl dL_law_1300 ?_
  refine a_icn_eq_y (pc := 1302) (tgt := 1307) C (by omega) (by omega) rfl (by decide) dL_law_1302 ?_
  refine a_iload (pc := 1307) C 5 rfl dL_law_1307 ?_
  refine a_ifn_ne (pc := 1309) (tgt := 1324) C (by omega) (by decide) dL_law_1309 (fun c1 => ?_) (fun c1 => ?_)
  · refine a_goto (pc := 1324) (tgt := 1848) C (by decide) dL_law_1324 ?_
    refine aw_locals (L' := [(0, .ref bs), (1, .ref (a 0)), (2, .ref (b 0)), (3, .ref u), (4, .int (nI (5 * j)))]) [0, 1, 2, 3, 4] rfl ?_
    refine aw_room (k' := k0 + 402) (n' := n0 + 4010) (by omega) (by omega) ?_
    exact next S' F' T' hI'
  · have hv := hW2 c1
    refine a_aloadn (pc := 1312) C 3 rfl rfl dL_law_1312 ?_
    refine a_iconst (pc := 1313) (v := nI 0) C ci_0 dL_law_1313 ?_
    refine a_lald (pc := 1314) C 33 rfl (by decide) (by decide) dL_law_1314 ?_
    refine a_iload (pc := 1315) C 6 rfl dL_law_1315 ?_
    refine a_i2l (pc := 1317) (v := v.toInt64) C rfl dL_law_1317 ?_
    refine a_lcmp (pc := 1318) (v := lg_cmp (F' 0) v.toInt64) C rfl dL_law_1318 ?_
    refine a_if_eq_y (pc := 1319) (tgt := 1324) C (lg_cmp_0.mpr hv) (by decide) dL_law_1319 ?_
    refine a_goto (pc := 1324) (tgt := 1848) C (by decide) dL_law_1324 ?_
    refine aw_locals (L' := [(0, .ref bs), (1, .ref (a 0)), (2, .ref (b 0)), (3, .ref u), (4, .int (nI (5 * j)))]) [0, 1, 2, 3, 4] rfl ?_
    refine aw_room (k' := k0 + 402) (n' := n0 + 4010) (by omega) (by omega) ?_
    exact next S' F' T' hI'

set_option maxHeartbeats 4000000 in
set_option maxRecDepth 100000 in
theorem lc_bound {g : aG} {κ : aK} {a b : Nat → Nat} {u bs L : Nat} {xs : Nat → Int32} (C : Cx g κ RL cL_law 9 room_1) (hX : va_X bs L xs (g_s g) (g_s g).heap) (hbl : bs < (g_s g).heap.size) (hbA : ¬ kA κ bs) (hL : L < 2 ^ 31) {j : Nat} (h5 : 5 * j + 5 ≤ L) {I : SC → SM → Prop} {S : SC} {F : Nat → Int64} {T : SM} (hI : I S T) (hK : ∀ (z1 : Int32) (z2 : Bool), KI yL_bound cL_bound 5 [(0, 10, 13, 21)] yX6_bound cX6_bound 3 I κ a b u [.int z1, .int (b2i z2)]) {k0 n0 : Nat} (hk : k0 + 402 ≤ 601024) (hn : n0 + 4010 ≤ 7293034) (next : ∀ S' F' T', I S' T' → aw g κ 9 1848 [(0, .ref bs), (1, .ref (a 0)), (2, .ref (b 0)), (3, .ref u), (4, .int (nI (5 * j)))] [] (lW κ a b u S' F' T') (k0 + 402) (n0 + 4010)) : aw g κ 9 1327 [(0, .ref bs), (1, .ref (a 0)), (2, .ref (b 0)), (3, .ref u), (4, .int (nI (5 * j)))] [] (lW κ a b u S F T) k0 n0 := by
  refine a_aloadn (pc := 1327) C 1 rfl rfl dL_law_1327 ?_
  refine a_aloadn (pc := 1328) C 0 rfl rfl dL_law_1328 ?_
  refine a_iload (pc := 1329) C 4 rfl dL_law_1329 ?_
  refine a_iconst (pc := 1331) (v := nI 1) C ci_1 dL_law_1331 ?_
  refine a_iadd (pc := 1332) (v := nI ((5 * j) + 1)) C (nI_add _ _) dL_law_1332 ?_
  refine a_sld (pc := 1333) C hX hbl hbA (by omega) hL dL_law_1333 ?_
  refine a_aloadn (pc := 1334) C 0 rfl rfl dL_law_1334 ?_
  refine a_iload (pc := 1335) C 4 rfl dL_law_1335 ?_
  refine a_iconst (pc := 1337) (v := nI 2) C ci_2 dL_law_1337 ?_
  refine a_iadd (pc := 1338) (v := nI ((5 * j) + 2)) C (nI_add _ _) dL_law_1338 ?_
  refine a_sld (pc := 1339) C hX hbl hbA (by omega) hL dL_law_1339 ?_
  refine a_if_eq (pc := 1340) (tgt := 1347) C (by decide) dL_law_1340 (fun c1 => ?_) (fun c1 => ?_)
  · refine a_iconst (pc := 1347) (v := nI 0) C ci_0 dL_law_1347 ?_
    refine aw_st (st' := [.int (b2i false), .int (xs ((5 * j) + 1)), .ref (a 0)]) (congrArg (fun zz9 => ([.int zz9, .int (xs ((5 * j) + 1)), .ref (a 0)] : List Value)) b2i_f.symm) ?_
    refine a_aloadn (pc := 1348) C 3 rfl rfl dL_law_1348 ?_
    obtain ⟨S', T', kk, v, hI', hkk, ⟨rm1, hb1, hW⟩, ⟨rm2, hb2, hR⟩, hth⟩ := hK (xs ((5 * j) + 1)) false S T hI
    obtain ⟨hb11, hb12, hb13, hb14⟩ := hb1
    obtain ⟨hb21, hb22, hb23, hb24⟩ := hb2
    obtain ⟨F', hW1, hW2⟩ := hW (mS κ b T []) F
    refine a_callW (pc := 1349) C hW1 yw_L_bound ml_L_151 ws_L_bound rfl rfl (by decide) (by show _ ≤ 11; omega) (by show _ ≤ 396; omega) ⟨by show _ ≤ 601024; omega, by show _ ≤ 7293034; omega⟩ dL_law_1349 (fun ro w h => ?_)
    obtain ⟨rfl, rfl⟩ := h
    refine a_istore (pc := 1352) (L' := [(0, .ref bs), (1, .ref (a 0)), (2, .ref (b 0)), (3, .ref u), (4, .int (nI (5 * j))), (5, .int (nI kk))]) C (by decide) rfl dL_law_1352 ?_
    refine a_aloadn (pc := 1354) C 2 rfl rfl dL_law_1354 ?_
    refine a_aloadn (pc := 1355) C 0 rfl rfl dL_law_1355 ?_
    refine a_iload (pc := 1356) C 4 rfl dL_law_1356 ?_
    refine a_iconst (pc := 1358) (v := nI 1) C ci_1 dL_law_1358 ?_
    refine a_iadd (pc := 1359) (v := nI ((5 * j) + 1)) C (nI_add _ _) dL_law_1359 ?_
    refine a_sld (pc := 1360) C hX hbl hbA (by omega) hL dL_law_1360 ?_
    refine a_aloadn (pc := 1361) C 0 rfl rfl dL_law_1361 ?_
    refine a_iload (pc := 1362) C 4 rfl dL_law_1362 ?_
    refine a_iconst (pc := 1364) (v := nI 2) C ci_2 dL_law_1364 ?_
    refine a_iadd (pc := 1365) (v := nI ((5 * j) + 2)) C (nI_add _ _) dL_law_1365 ?_
    refine a_sld (pc := 1366) C hX hbl hbA (by omega) hL dL_law_1366 ?_
    refine a_if_eq_y (pc := 1367) (tgt := 1374) C c1 (by decide) dL_law_1367 ?_
    refine a_iconst (pc := 1374) (v := nI 0) C ci_0 dL_law_1374 ?_
    refine aw_st (st' := [.int (b2i false), .int (xs ((5 * j) + 1)), .ref (b 0)]) (congrArg (fun zz9 => ([.int zz9, .int (xs ((5 * j) + 1)), .ref (b 0)] : List Value)) b2i_f.symm) ?_
    refine aw_perm (ws' := lM κ a b u S' F' T) lW_perm ?_
    refine a_callV (pc := 1375) C (hR (cS κ a S' [oc κ u F'])) yv_X6_bound ml_L_154 wi_X6_bound wl_X6_bound 0 rfl rfl rfl rfl rfl (by decide) (by show _ ≤ 11; omega) (by show _ ≤ 396; omega) ⟨by show _ ≤ 601024; omega, by show _ ≤ 7293034; omega⟩ dL_law_1375 (fun ro w h => ?_)
    obtain ⟨rfl, rfl⟩ := h
    refine a_istore (pc := 1378) (L' := [(0, .ref bs), (1, .ref (a 0)), (2, .ref (b 0)), (3, .ref u), (4, .int (nI (5 * j))), (5, .int (nI kk)), (6, .int v)]) C (by decide) rfl dL_law_1378 ?_
    refine a_aloadn (pc := 1380) C 2 rfl rfl dL_law_1380 ?_
    obtain ⟨rm3, ⟨hb31, hb32, hb33, hb34⟩, hT3⟩ := thr_c κ b T'
    refine a_callV (pc := 1381) C (hT3 (cS κ a S' [oc κ u F'])) yv_X6_thrown ml_L_98 wi_X6_thrown wl_X6_thrown 0 rfl rfl rfl rfl rfl (by decide) (by show _ ≤ 11; omega) (by show _ ≤ 396; omega) ⟨by show _ ≤ 601024; omega, by show _ ≤ 7293034; omega⟩ dL_law_1381 (fun ro w h => ?_)
    obtain ⟨rfl, rfl⟩ := h
    refine aw_perm (ws' := lW κ a b u S' F' T') lW_perm.symm ?_
    refine aw_st (st' := [.int (nI kk)]) (by show [Value.int T'.1] = _; rw [hth]) ?_
    refine a_iload (pc := 1384) C 5 rfl dL_law_1384 ?_
    refine a_icn_eq_y (pc := 1386) (tgt := 1391) C (by omega) (by omega) rfl (by decide) dL_law_1386 ?_
    refine a_iload (pc := 1391) C 5 rfl dL_law_1391 ?_
    refine a_ifn_ne (pc := 1393) (tgt := 1408) C (by omega) (by decide) dL_law_1393 (fun c2 => ?_) (fun c2 => ?_)
    · refine a_goto (pc := 1408) (tgt := 1848) C (by decide) dL_law_1408 ?_
      refine aw_locals (L' := [(0, .ref bs), (1, .ref (a 0)), (2, .ref (b 0)), (3, .ref u), (4, .int (nI (5 * j)))]) [0, 1, 2, 3, 4] rfl ?_
      refine aw_room (k' := k0 + 402) (n' := n0 + 4010) (by omega) (by omega) ?_
      exact next S' F' T' hI'
    · have hv := hW2 c2
      refine a_aloadn (pc := 1396) C 3 rfl rfl dL_law_1396 ?_
      refine a_iconst (pc := 1397) (v := nI 0) C ci_0 dL_law_1397 ?_
      refine a_lald (pc := 1398) C 33 rfl (by decide) (by decide) dL_law_1398 ?_
      refine a_iload (pc := 1399) C 6 rfl dL_law_1399 ?_
      refine a_i2l (pc := 1401) (v := v.toInt64) C rfl dL_law_1401 ?_
      refine a_lcmp (pc := 1402) (v := lg_cmp (F' 0) v.toInt64) C rfl dL_law_1402 ?_
      refine a_if_eq_y (pc := 1403) (tgt := 1408) C (lg_cmp_0.mpr hv) (by decide) dL_law_1403 ?_
      refine a_goto (pc := 1408) (tgt := 1848) C (by decide) dL_law_1408 ?_
      refine aw_locals (L' := [(0, .ref bs), (1, .ref (a 0)), (2, .ref (b 0)), (3, .ref u), (4, .int (nI (5 * j)))]) [0, 1, 2, 3, 4] rfl ?_
      refine aw_room (k' := k0 + 402) (n' := n0 + 4010) (by omega) (by omega) ?_
      exact next S' F' T' hI'
  · refine a_iconst (pc := 1343) (v := nI 1) C ci_1 dL_law_1343 ?_
    refine a_goto (pc := 1344) (tgt := 1348) C (by decide) dL_law_1344 ?_
    refine aw_st (st' := [.int (b2i true), .int (xs ((5 * j) + 1)), .ref (a 0)]) (congrArg (fun zz9 => ([.int zz9, .int (xs ((5 * j) + 1)), .ref (a 0)] : List Value)) b2i_t.symm) ?_
    refine a_aloadn (pc := 1348) C 3 rfl rfl dL_law_1348 ?_
    obtain ⟨S', T', kk, v, hI', hkk, ⟨rm1, hb1, hW⟩, ⟨rm2, hb2, hR⟩, hth⟩ := hK (xs ((5 * j) + 1)) true S T hI
    obtain ⟨hb11, hb12, hb13, hb14⟩ := hb1
    obtain ⟨hb21, hb22, hb23, hb24⟩ := hb2
    obtain ⟨F', hW1, hW2⟩ := hW (mS κ b T []) F
    refine a_callW (pc := 1349) C hW1 yw_L_bound ml_L_151 ws_L_bound rfl rfl (by decide) (by show _ ≤ 11; omega) (by show _ ≤ 396; omega) ⟨by show _ ≤ 601024; omega, by show _ ≤ 7293034; omega⟩ dL_law_1349 (fun ro w h => ?_)
    obtain ⟨rfl, rfl⟩ := h
    refine a_istore (pc := 1352) (L' := [(0, .ref bs), (1, .ref (a 0)), (2, .ref (b 0)), (3, .ref u), (4, .int (nI (5 * j))), (5, .int (nI kk))]) C (by decide) rfl dL_law_1352 ?_
    refine a_aloadn (pc := 1354) C 2 rfl rfl dL_law_1354 ?_
    refine a_aloadn (pc := 1355) C 0 rfl rfl dL_law_1355 ?_
    refine a_iload (pc := 1356) C 4 rfl dL_law_1356 ?_
    refine a_iconst (pc := 1358) (v := nI 1) C ci_1 dL_law_1358 ?_
    refine a_iadd (pc := 1359) (v := nI ((5 * j) + 1)) C (nI_add _ _) dL_law_1359 ?_
    refine a_sld (pc := 1360) C hX hbl hbA (by omega) hL dL_law_1360 ?_
    refine a_aloadn (pc := 1361) C 0 rfl rfl dL_law_1361 ?_
    refine a_iload (pc := 1362) C 4 rfl dL_law_1362 ?_
    refine a_iconst (pc := 1364) (v := nI 2) C ci_2 dL_law_1364 ?_
    refine a_iadd (pc := 1365) (v := nI ((5 * j) + 2)) C (nI_add _ _) dL_law_1365 ?_
    refine a_sld (pc := 1366) C hX hbl hbA (by omega) hL dL_law_1366 ?_
    refine a_if_eq_n (pc := 1367) C c1 dL_law_1367 ⟨1374, by decide⟩ ?_
    refine a_iconst (pc := 1370) (v := nI 1) C ci_1 dL_law_1370 ?_
    refine a_goto (pc := 1371) (tgt := 1375) C (by decide) dL_law_1371 ?_
    refine aw_st (st' := [.int (b2i true), .int (xs ((5 * j) + 1)), .ref (b 0)]) (congrArg (fun zz9 => ([.int zz9, .int (xs ((5 * j) + 1)), .ref (b 0)] : List Value)) b2i_t.symm) ?_
    refine aw_perm (ws' := lM κ a b u S' F' T) lW_perm ?_
    refine a_callV (pc := 1375) C (hR (cS κ a S' [oc κ u F'])) yv_X6_bound ml_L_154 wi_X6_bound wl_X6_bound 0 rfl rfl rfl rfl rfl (by decide) (by show _ ≤ 11; omega) (by show _ ≤ 396; omega) ⟨by show _ ≤ 601024; omega, by show _ ≤ 7293034; omega⟩ dL_law_1375 (fun ro w h => ?_)
    obtain ⟨rfl, rfl⟩ := h
    refine a_istore (pc := 1378) (L' := [(0, .ref bs), (1, .ref (a 0)), (2, .ref (b 0)), (3, .ref u), (4, .int (nI (5 * j))), (5, .int (nI kk)), (6, .int v)]) C (by decide) rfl dL_law_1378 ?_
    refine a_aloadn (pc := 1380) C 2 rfl rfl dL_law_1380 ?_
    obtain ⟨rm3, ⟨hb31, hb32, hb33, hb34⟩, hT3⟩ := thr_c κ b T'
    refine a_callV (pc := 1381) C (hT3 (cS κ a S' [oc κ u F'])) yv_X6_thrown ml_L_98 wi_X6_thrown wl_X6_thrown 0 rfl rfl rfl rfl rfl (by decide) (by show _ ≤ 11; omega) (by show _ ≤ 396; omega) ⟨by show _ ≤ 601024; omega, by show _ ≤ 7293034; omega⟩ dL_law_1381 (fun ro w h => ?_)
    obtain ⟨rfl, rfl⟩ := h
    refine aw_perm (ws' := lW κ a b u S' F' T') lW_perm.symm ?_
    refine aw_st (st' := [.int (nI kk)]) (by show [Value.int T'.1] = _; rw [hth]) ?_
    refine a_iload (pc := 1384) C 5 rfl dL_law_1384 ?_
    refine a_icn_eq_y (pc := 1386) (tgt := 1391) C (by omega) (by omega) rfl (by decide) dL_law_1386 ?_
    refine a_iload (pc := 1391) C 5 rfl dL_law_1391 ?_
    refine a_ifn_ne (pc := 1393) (tgt := 1408) C (by omega) (by decide) dL_law_1393 (fun c3 => ?_) (fun c3 => ?_)
    · refine a_goto (pc := 1408) (tgt := 1848) C (by decide) dL_law_1408 ?_
      refine aw_locals (L' := [(0, .ref bs), (1, .ref (a 0)), (2, .ref (b 0)), (3, .ref u), (4, .int (nI (5 * j)))]) [0, 1, 2, 3, 4] rfl ?_
      refine aw_room (k' := k0 + 402) (n' := n0 + 4010) (by omega) (by omega) ?_
      exact next S' F' T' hI'
    · have hv := hW2 c3
      refine a_aloadn (pc := 1396) C 3 rfl rfl dL_law_1396 ?_
      refine a_iconst (pc := 1397) (v := nI 0) C ci_0 dL_law_1397 ?_
      refine a_lald (pc := 1398) C 33 rfl (by decide) (by decide) dL_law_1398 ?_
      refine a_iload (pc := 1399) C 6 rfl dL_law_1399 ?_
      refine a_i2l (pc := 1401) (v := v.toInt64) C rfl dL_law_1401 ?_
      refine a_lcmp (pc := 1402) (v := lg_cmp (F' 0) v.toInt64) C rfl dL_law_1402 ?_
      refine a_if_eq_y (pc := 1403) (tgt := 1408) C (lg_cmp_0.mpr hv) (by decide) dL_law_1403 ?_
      refine a_goto (pc := 1408) (tgt := 1848) C (by decide) dL_law_1408 ?_
      refine aw_locals (L' := [(0, .ref bs), (1, .ref (a 0)), (2, .ref (b 0)), (3, .ref u), (4, .int (nI (5 * j)))]) [0, 1, 2, 3, 4] rfl ?_
      refine aw_room (k' := k0 + 402) (n' := n0 + 4010) (by omega) (by omega) ?_
      exact next S' F' T' hI'

set_option maxHeartbeats 4000000 in
set_option maxRecDepth 100000 in
theorem lc_doubt {g : aG} {κ : aK} {a b : Nat → Nat} {u bs L : Nat} {xs : Nat → Int32} (C : Cx g κ RL cL_law 9 room_1) (hX : va_X bs L xs (g_s g) (g_s g).heap) (hbl : bs < (g_s g).heap.size) (hbA : ¬ kA κ bs) (hL : L < 2 ^ 31) {j : Nat} (h5 : 5 * j + 5 ≤ L) {I : SC → SM → Prop} {S : SC} {F : Nat → Int64} {T : SM} (hI : I S T) (hK : ∀ (z1 : Int32), KI yL_doubt cL_doubt 4 [(0, 9, 12, 21)] yX6_doubt cX6_doubt 4 I κ a b u [.int z1]) {k0 n0 : Nat} (hk : k0 + 402 ≤ 601024) (hn : n0 + 4010 ≤ 7293034) (next : ∀ S' F' T', I S' T' → aw g κ 9 1848 [(0, .ref bs), (1, .ref (a 0)), (2, .ref (b 0)), (3, .ref u), (4, .int (nI (5 * j)))] [] (lW κ a b u S' F' T') (k0 + 402) (n0 + 4010)) : aw g κ 9 1411 [(0, .ref bs), (1, .ref (a 0)), (2, .ref (b 0)), (3, .ref u), (4, .int (nI (5 * j)))] [] (lW κ a b u S F T) k0 n0 := by
  refine a_aloadn (pc := 1411) C 1 rfl rfl dL_law_1411 ?_
  refine a_aloadn (pc := 1412) C 0 rfl rfl dL_law_1412 ?_
  refine a_iload (pc := 1413) C 4 rfl dL_law_1413 ?_
  refine a_iconst (pc := 1415) (v := nI 1) C ci_1 dL_law_1415 ?_
  refine a_iadd (pc := 1416) (v := nI ((5 * j) + 1)) C (nI_add _ _) dL_law_1416 ?_
  refine a_sld (pc := 1417) C hX hbl hbA (by omega) hL dL_law_1417 ?_
  refine a_aloadn (pc := 1418) C 3 rfl rfl dL_law_1418 ?_
  obtain ⟨S', T', kk, v, hI', hkk, ⟨rm1, hb1, hW⟩, ⟨rm2, hb2, hR⟩, hth⟩ := hK (xs ((5 * j) + 1)) S T hI
  obtain ⟨hb11, hb12, hb13, hb14⟩ := hb1
  obtain ⟨hb21, hb22, hb23, hb24⟩ := hb2
  obtain ⟨F', hW1, hW2⟩ := hW (mS κ b T []) F
  refine a_callW (pc := 1419) C hW1 yw_L_doubt ml_L_155 ws_L_doubt rfl rfl (by decide) (by show _ ≤ 11; omega) (by show _ ≤ 396; omega) ⟨by show _ ≤ 601024; omega, by show _ ≤ 7293034; omega⟩ dL_law_1419 (fun ro w h => ?_)
  obtain ⟨rfl, rfl⟩ := h
  refine a_istore (pc := 1422) (L' := [(0, .ref bs), (1, .ref (a 0)), (2, .ref (b 0)), (3, .ref u), (4, .int (nI (5 * j))), (5, .int (nI kk))]) C (by decide) rfl dL_law_1422 ?_
  refine a_aloadn (pc := 1424) C 2 rfl rfl dL_law_1424 ?_
  refine a_aloadn (pc := 1425) C 0 rfl rfl dL_law_1425 ?_
  refine a_iload (pc := 1426) C 4 rfl dL_law_1426 ?_
  refine a_iconst (pc := 1428) (v := nI 1) C ci_1 dL_law_1428 ?_
  refine a_iadd (pc := 1429) (v := nI ((5 * j) + 1)) C (nI_add _ _) dL_law_1429 ?_
  refine a_sld (pc := 1430) C hX hbl hbA (by omega) hL dL_law_1430 ?_
  refine aw_perm (ws' := lM κ a b u S' F' T) lW_perm ?_
  refine a_callV (pc := 1431) C (hR (cS κ a S' [oc κ u F'])) yv_X6_doubt ml_L_157 wi_X6_doubt wl_X6_doubt 0 rfl rfl rfl rfl rfl (by decide) (by show _ ≤ 11; omega) (by show _ ≤ 396; omega) ⟨by show _ ≤ 601024; omega, by show _ ≤ 7293034; omega⟩ dL_law_1431 (fun ro w h => ?_)
  obtain ⟨rfl, rfl⟩ := h
  refine a_istore (pc := 1434) (L' := [(0, .ref bs), (1, .ref (a 0)), (2, .ref (b 0)), (3, .ref u), (4, .int (nI (5 * j))), (5, .int (nI kk)), (6, .int v)]) C (by decide) rfl dL_law_1434 ?_
  refine a_aloadn (pc := 1436) C 2 rfl rfl dL_law_1436 ?_
  obtain ⟨rm3, ⟨hb31, hb32, hb33, hb34⟩, hT3⟩ := thr_c κ b T'
  refine a_callV (pc := 1437) C (hT3 (cS κ a S' [oc κ u F'])) yv_X6_thrown ml_L_98 wi_X6_thrown wl_X6_thrown 0 rfl rfl rfl rfl rfl (by decide) (by show _ ≤ 11; omega) (by show _ ≤ 396; omega) ⟨by show _ ≤ 601024; omega, by show _ ≤ 7293034; omega⟩ dL_law_1437 (fun ro w h => ?_)
  obtain ⟨rfl, rfl⟩ := h
  refine aw_perm (ws' := lW κ a b u S' F' T') lW_perm.symm ?_
  refine aw_st (st' := [.int (nI kk)]) (by show [Value.int T'.1] = _; rw [hth]) ?_
  refine a_iload (pc := 1440) C 5 rfl dL_law_1440 ?_
  refine a_icn_eq_y (pc := 1442) (tgt := 1447) C (by omega) (by omega) rfl (by decide) dL_law_1442 ?_
  refine a_iload (pc := 1447) C 5 rfl dL_law_1447 ?_
  refine a_ifn_ne (pc := 1449) (tgt := 1464) C (by omega) (by decide) dL_law_1449 (fun c1 => ?_) (fun c1 => ?_)
  · refine a_goto (pc := 1464) (tgt := 1848) C (by decide) dL_law_1464 ?_
    refine aw_locals (L' := [(0, .ref bs), (1, .ref (a 0)), (2, .ref (b 0)), (3, .ref u), (4, .int (nI (5 * j)))]) [0, 1, 2, 3, 4] rfl ?_
    refine aw_room (k' := k0 + 402) (n' := n0 + 4010) (by omega) (by omega) ?_
    exact next S' F' T' hI'
  · have hv := hW2 c1
    refine a_aloadn (pc := 1452) C 3 rfl rfl dL_law_1452 ?_
    refine a_iconst (pc := 1453) (v := nI 0) C ci_0 dL_law_1453 ?_
    refine a_lald (pc := 1454) C 33 rfl (by decide) (by decide) dL_law_1454 ?_
    refine a_iload (pc := 1455) C 6 rfl dL_law_1455 ?_
    refine a_i2l (pc := 1457) (v := v.toInt64) C rfl dL_law_1457 ?_
    refine a_lcmp (pc := 1458) (v := lg_cmp (F' 0) v.toInt64) C rfl dL_law_1458 ?_
    refine a_if_eq_y (pc := 1459) (tgt := 1464) C (lg_cmp_0.mpr hv) (by decide) dL_law_1459 ?_
    refine a_goto (pc := 1464) (tgt := 1848) C (by decide) dL_law_1464 ?_
    refine aw_locals (L' := [(0, .ref bs), (1, .ref (a 0)), (2, .ref (b 0)), (3, .ref u), (4, .int (nI (5 * j)))]) [0, 1, 2, 3, 4] rfl ?_
    refine aw_room (k' := k0 + 402) (n' := n0 + 4010) (by omega) (by omega) ?_
    exact next S' F' T' hI'

set_option maxHeartbeats 4000000 in
set_option maxRecDepth 100000 in
theorem lc_nearest {g : aG} {κ : aK} {a b : Nat → Nat} {u bs L : Nat} {xs : Nat → Int32} (C : Cx g κ RL cL_law 9 room_1) (hX : va_X bs L xs (g_s g) (g_s g).heap) (hbl : bs < (g_s g).heap.size) (hbA : ¬ kA κ bs) (hL : L < 2 ^ 31) {j : Nat} (h5 : 5 * j + 5 ≤ L) {I : SC → SM → Prop} {S : SC} {F : Nat → Int64} {T : SM} (hI : I S T) (hK : ∀ (z1 : Int32) (z2 : Int32) (z3 : Int32) (z4 : Int32), KI yL_nearest cL_nearest 7 [(0, 14, 17, 13)] yX6_nearest cX6_nearest 12 I κ a b u [.int z1, .int z2, .int z3, .int z4]) {k0 n0 : Nat} (hk : k0 + 402 ≤ 601024) (hn : n0 + 4010 ≤ 7293034) (next : ∀ S' F' T', I S' T' → aw g κ 9 1848 [(0, .ref bs), (1, .ref (a 0)), (2, .ref (b 0)), (3, .ref u), (4, .int (nI (5 * j)))] [] (lW κ a b u S' F' T') (k0 + 402) (n0 + 4010)) : aw g κ 9 1467 [(0, .ref bs), (1, .ref (a 0)), (2, .ref (b 0)), (3, .ref u), (4, .int (nI (5 * j)))] [] (lW κ a b u S F T) k0 n0 := by
  refine a_aloadn (pc := 1467) C 1 rfl rfl dL_law_1467 ?_
  refine a_aloadn (pc := 1468) C 0 rfl rfl dL_law_1468 ?_
  refine a_iload (pc := 1469) C 4 rfl dL_law_1469 ?_
  refine a_iconst (pc := 1471) (v := nI 1) C ci_1 dL_law_1471 ?_
  refine a_iadd (pc := 1472) (v := nI ((5 * j) + 1)) C (nI_add _ _) dL_law_1472 ?_
  refine a_sld (pc := 1473) C hX hbl hbA (by omega) hL dL_law_1473 ?_
  refine a_aloadn (pc := 1474) C 0 rfl rfl dL_law_1474 ?_
  refine a_iload (pc := 1475) C 4 rfl dL_law_1475 ?_
  refine a_iconst (pc := 1477) (v := nI 2) C ci_2 dL_law_1477 ?_
  refine a_iadd (pc := 1478) (v := nI ((5 * j) + 2)) C (nI_add _ _) dL_law_1478 ?_
  refine a_sld (pc := 1479) C hX hbl hbA (by omega) hL dL_law_1479 ?_
  refine a_aloadn (pc := 1480) C 0 rfl rfl dL_law_1480 ?_
  refine a_iload (pc := 1481) C 4 rfl dL_law_1481 ?_
  refine a_iconst (pc := 1483) (v := nI 3) C ci_3 dL_law_1483 ?_
  refine a_iadd (pc := 1484) (v := nI ((5 * j) + 3)) C (nI_add _ _) dL_law_1484 ?_
  refine a_sld (pc := 1485) C hX hbl hbA (by omega) hL dL_law_1485 ?_
  refine a_aloadn (pc := 1486) C 0 rfl rfl dL_law_1486 ?_
  refine a_iload (pc := 1487) C 4 rfl dL_law_1487 ?_
  refine a_iconst (pc := 1489) (v := nI 4) C ci_4 dL_law_1489 ?_
  refine a_iadd (pc := 1490) (v := nI ((5 * j) + 4)) C (nI_add _ _) dL_law_1490 ?_
  refine a_sld (pc := 1491) C hX hbl hbA (by omega) hL dL_law_1491 ?_
  refine a_aloadn (pc := 1492) C 3 rfl rfl dL_law_1492 ?_
  obtain ⟨S', T', kk, v, hI', hkk, ⟨rm1, hb1, hW⟩, ⟨rm2, hb2, hR⟩, hth⟩ := hK (xs ((5 * j) + 1)) (xs ((5 * j) + 2)) (xs ((5 * j) + 3)) (xs ((5 * j) + 4)) S T hI
  obtain ⟨hb11, hb12, hb13, hb14⟩ := hb1
  obtain ⟨hb21, hb22, hb23, hb24⟩ := hb2
  obtain ⟨F', hW1, hW2⟩ := hW (mS κ b T []) F
  refine a_callW (pc := 1493) C hW1 yw_L_nearest ml_L_158 ws_L_nearest rfl rfl (by decide) (by show _ ≤ 11; omega) (by show _ ≤ 396; omega) ⟨by show _ ≤ 601024; omega, by show _ ≤ 7293034; omega⟩ dL_law_1493 (fun ro w h => ?_)
  obtain ⟨rfl, rfl⟩ := h
  refine a_istore (pc := 1496) (L' := [(0, .ref bs), (1, .ref (a 0)), (2, .ref (b 0)), (3, .ref u), (4, .int (nI (5 * j))), (5, .int (nI kk))]) C (by decide) rfl dL_law_1496 ?_
  refine a_aloadn (pc := 1498) C 2 rfl rfl dL_law_1498 ?_
  refine a_aloadn (pc := 1499) C 0 rfl rfl dL_law_1499 ?_
  refine a_iload (pc := 1500) C 4 rfl dL_law_1500 ?_
  refine a_iconst (pc := 1502) (v := nI 1) C ci_1 dL_law_1502 ?_
  refine a_iadd (pc := 1503) (v := nI ((5 * j) + 1)) C (nI_add _ _) dL_law_1503 ?_
  refine a_sld (pc := 1504) C hX hbl hbA (by omega) hL dL_law_1504 ?_
  refine a_aloadn (pc := 1505) C 0 rfl rfl dL_law_1505 ?_
  refine a_iload (pc := 1506) C 4 rfl dL_law_1506 ?_
  refine a_iconst (pc := 1508) (v := nI 2) C ci_2 dL_law_1508 ?_
  refine a_iadd (pc := 1509) (v := nI ((5 * j) + 2)) C (nI_add _ _) dL_law_1509 ?_
  refine a_sld (pc := 1510) C hX hbl hbA (by omega) hL dL_law_1510 ?_
  refine a_aloadn (pc := 1511) C 0 rfl rfl dL_law_1511 ?_
  refine a_iload (pc := 1512) C 4 rfl dL_law_1512 ?_
  refine a_iconst (pc := 1514) (v := nI 3) C ci_3 dL_law_1514 ?_
  refine a_iadd (pc := 1515) (v := nI ((5 * j) + 3)) C (nI_add _ _) dL_law_1515 ?_
  refine a_sld (pc := 1516) C hX hbl hbA (by omega) hL dL_law_1516 ?_
  refine a_aloadn (pc := 1517) C 0 rfl rfl dL_law_1517 ?_
  refine a_iload (pc := 1518) C 4 rfl dL_law_1518 ?_
  refine a_iconst (pc := 1520) (v := nI 4) C ci_4 dL_law_1520 ?_
  refine a_iadd (pc := 1521) (v := nI ((5 * j) + 4)) C (nI_add _ _) dL_law_1521 ?_
  refine a_sld (pc := 1522) C hX hbl hbA (by omega) hL dL_law_1522 ?_
  refine aw_perm (ws' := lM κ a b u S' F' T) lW_perm ?_
  refine a_callV (pc := 1523) C (hR (cS κ a S' [oc κ u F'])) yv_X6_nearest ml_L_160 wi_X6_nearest wl_X6_nearest 0 rfl rfl rfl rfl rfl (by decide) (by show _ ≤ 11; omega) (by show _ ≤ 396; omega) ⟨by show _ ≤ 601024; omega, by show _ ≤ 7293034; omega⟩ dL_law_1523 (fun ro w h => ?_)
  obtain ⟨rfl, rfl⟩ := h
  refine a_istore (pc := 1526) (L' := [(0, .ref bs), (1, .ref (a 0)), (2, .ref (b 0)), (3, .ref u), (4, .int (nI (5 * j))), (5, .int (nI kk)), (6, .int v)]) C (by decide) rfl dL_law_1526 ?_
  refine a_aloadn (pc := 1528) C 2 rfl rfl dL_law_1528 ?_
  obtain ⟨rm3, ⟨hb31, hb32, hb33, hb34⟩, hT3⟩ := thr_c κ b T'
  refine a_callV (pc := 1529) C (hT3 (cS κ a S' [oc κ u F'])) yv_X6_thrown ml_L_98 wi_X6_thrown wl_X6_thrown 0 rfl rfl rfl rfl rfl (by decide) (by show _ ≤ 11; omega) (by show _ ≤ 396; omega) ⟨by show _ ≤ 601024; omega, by show _ ≤ 7293034; omega⟩ dL_law_1529 (fun ro w h => ?_)
  obtain ⟨rfl, rfl⟩ := h
  refine aw_perm (ws' := lW κ a b u S' F' T') lW_perm.symm ?_
  refine aw_st (st' := [.int (nI kk)]) (by show [Value.int T'.1] = _; rw [hth]) ?_
  refine a_iload (pc := 1532) C 5 rfl dL_law_1532 ?_
  refine a_icn_eq_y (pc := 1534) (tgt := 1539) C (by omega) (by omega) rfl (by decide) dL_law_1534 ?_
  refine a_iload (pc := 1539) C 5 rfl dL_law_1539 ?_
  refine a_ifn_ne (pc := 1541) (tgt := 1556) C (by omega) (by decide) dL_law_1541 (fun c1 => ?_) (fun c1 => ?_)
  · refine a_goto (pc := 1556) (tgt := 1848) C (by decide) dL_law_1556 ?_
    refine aw_locals (L' := [(0, .ref bs), (1, .ref (a 0)), (2, .ref (b 0)), (3, .ref u), (4, .int (nI (5 * j)))]) [0, 1, 2, 3, 4] rfl ?_
    refine aw_room (k' := k0 + 402) (n' := n0 + 4010) (by omega) (by omega) ?_
    exact next S' F' T' hI'
  · have hv := hW2 c1
    refine a_aloadn (pc := 1544) C 3 rfl rfl dL_law_1544 ?_
    refine a_iconst (pc := 1545) (v := nI 0) C ci_0 dL_law_1545 ?_
    refine a_lald (pc := 1546) C 33 rfl (by decide) (by decide) dL_law_1546 ?_
    refine a_iload (pc := 1547) C 6 rfl dL_law_1547 ?_
    refine a_i2l (pc := 1549) (v := v.toInt64) C rfl dL_law_1549 ?_
    refine a_lcmp (pc := 1550) (v := lg_cmp (F' 0) v.toInt64) C rfl dL_law_1550 ?_
    refine a_if_eq_y (pc := 1551) (tgt := 1556) C (lg_cmp_0.mpr hv) (by decide) dL_law_1551 ?_
    refine a_goto (pc := 1556) (tgt := 1848) C (by decide) dL_law_1556 ?_
    refine aw_locals (L' := [(0, .ref bs), (1, .ref (a 0)), (2, .ref (b 0)), (3, .ref u), (4, .int (nI (5 * j)))]) [0, 1, 2, 3, 4] rfl ?_
    refine aw_room (k' := k0 + 402) (n' := n0 + 4010) (by omega) (by omega) ?_
    exact next S' F' T' hI'

set_option maxHeartbeats 4000000 in
set_option maxRecDepth 100000 in
theorem lc_dig {g : aG} {κ : aK} {a b : Nat → Nat} {u bs L : Nat} {xs : Nat → Int32} (C : Cx g κ RL cL_law 9 room_1) (hX : va_X bs L xs (g_s g) (g_s g).heap) (hbl : bs < (g_s g).heap.size) (hbA : ¬ kA κ bs) (hL : L < 2 ^ 31) {j : Nat} (h5 : 5 * j + 5 ≤ L) {I : SC → SM → Prop} {S : SC} {F : Nat → Int64} {T : SM} (hI : I S T) (hK : ∀ (z1 : Int32), KI yL_dig cL_dig 4 [(0, 9, 12, 21), (0, 9, 15, 15)] yX6_dig cX6_dig 4 I κ a b u [.int z1]) {k0 n0 : Nat} (hk : k0 + 402 ≤ 601024) (hn : n0 + 4010 ≤ 7293034) (next : ∀ S' F' T', I S' T' → aw g κ 9 1848 [(0, .ref bs), (1, .ref (a 0)), (2, .ref (b 0)), (3, .ref u), (4, .int (nI (5 * j)))] [] (lW κ a b u S' F' T') (k0 + 402) (n0 + 4010)) : aw g κ 9 1559 [(0, .ref bs), (1, .ref (a 0)), (2, .ref (b 0)), (3, .ref u), (4, .int (nI (5 * j)))] [] (lW κ a b u S F T) k0 n0 := by
  refine a_aloadn (pc := 1559) C 1 rfl rfl dL_law_1559 ?_
  refine a_aloadn (pc := 1560) C 0 rfl rfl dL_law_1560 ?_
  refine a_iload (pc := 1561) C 4 rfl dL_law_1561 ?_
  refine a_iconst (pc := 1563) (v := nI 1) C ci_1 dL_law_1563 ?_
  refine a_iadd (pc := 1564) (v := nI ((5 * j) + 1)) C (nI_add _ _) dL_law_1564 ?_
  refine a_sld (pc := 1565) C hX hbl hbA (by omega) hL dL_law_1565 ?_
  refine a_aloadn (pc := 1566) C 3 rfl rfl dL_law_1566 ?_
  obtain ⟨S', T', kk, v, hI', hkk, ⟨rm1, hb1, hW⟩, ⟨rm2, hb2, hR⟩, hth⟩ := hK (xs ((5 * j) + 1)) S T hI
  obtain ⟨hb11, hb12, hb13, hb14⟩ := hb1
  obtain ⟨hb21, hb22, hb23, hb24⟩ := hb2
  obtain ⟨F', hW1, hW2⟩ := hW (mS κ b T []) F
  refine a_callW (pc := 1567) C hW1 yw_L_dig ml_L_161 ws_L_dig rfl rfl (by decide) (by show _ ≤ 11; omega) (by show _ ≤ 396; omega) ⟨by show _ ≤ 601024; omega, by show _ ≤ 7293034; omega⟩ dL_law_1567 (fun ro w h => ?_)
  obtain ⟨rfl, rfl⟩ := h
  refine a_istore (pc := 1570) (L' := [(0, .ref bs), (1, .ref (a 0)), (2, .ref (b 0)), (3, .ref u), (4, .int (nI (5 * j))), (5, .int (nI kk))]) C (by decide) rfl dL_law_1570 ?_
  refine a_aloadn (pc := 1572) C 2 rfl rfl dL_law_1572 ?_
  refine a_aloadn (pc := 1573) C 0 rfl rfl dL_law_1573 ?_
  refine a_iload (pc := 1574) C 4 rfl dL_law_1574 ?_
  refine a_iconst (pc := 1576) (v := nI 1) C ci_1 dL_law_1576 ?_
  refine a_iadd (pc := 1577) (v := nI ((5 * j) + 1)) C (nI_add _ _) dL_law_1577 ?_
  refine a_sld (pc := 1578) C hX hbl hbA (by omega) hL dL_law_1578 ?_
  refine aw_perm (ws' := lM κ a b u S' F' T) lW_perm ?_
  refine a_callV (pc := 1579) C (hR (cS κ a S' [oc κ u F'])) yv_X6_dig ml_L_163 wi_X6_dig wl_X6_dig 0 rfl rfl rfl rfl rfl (by decide) (by show _ ≤ 11; omega) (by show _ ≤ 396; omega) ⟨by show _ ≤ 601024; omega, by show _ ≤ 7293034; omega⟩ dL_law_1579 (fun ro w h => ?_)
  obtain ⟨rfl, rfl⟩ := h
  refine a_istore (pc := 1582) (L' := [(0, .ref bs), (1, .ref (a 0)), (2, .ref (b 0)), (3, .ref u), (4, .int (nI (5 * j))), (5, .int (nI kk)), (6, .int v)]) C (by decide) rfl dL_law_1582 ?_
  refine a_aloadn (pc := 1584) C 2 rfl rfl dL_law_1584 ?_
  obtain ⟨rm3, ⟨hb31, hb32, hb33, hb34⟩, hT3⟩ := thr_c κ b T'
  refine a_callV (pc := 1585) C (hT3 (cS κ a S' [oc κ u F'])) yv_X6_thrown ml_L_98 wi_X6_thrown wl_X6_thrown 0 rfl rfl rfl rfl rfl (by decide) (by show _ ≤ 11; omega) (by show _ ≤ 396; omega) ⟨by show _ ≤ 601024; omega, by show _ ≤ 7293034; omega⟩ dL_law_1585 (fun ro w h => ?_)
  obtain ⟨rfl, rfl⟩ := h
  refine aw_perm (ws' := lW κ a b u S' F' T') lW_perm.symm ?_
  refine aw_st (st' := [.int (nI kk)]) (by show [Value.int T'.1] = _; rw [hth]) ?_
  refine a_iload (pc := 1588) C 5 rfl dL_law_1588 ?_
  refine a_icn_eq_y (pc := 1590) (tgt := 1595) C (by omega) (by omega) rfl (by decide) dL_law_1590 ?_
  refine a_iload (pc := 1595) C 5 rfl dL_law_1595 ?_
  refine a_ifn_ne (pc := 1597) (tgt := 1612) C (by omega) (by decide) dL_law_1597 (fun c1 => ?_) (fun c1 => ?_)
  · refine a_goto (pc := 1612) (tgt := 1848) C (by decide) dL_law_1612 ?_
    refine aw_locals (L' := [(0, .ref bs), (1, .ref (a 0)), (2, .ref (b 0)), (3, .ref u), (4, .int (nI (5 * j)))]) [0, 1, 2, 3, 4] rfl ?_
    refine aw_room (k' := k0 + 402) (n' := n0 + 4010) (by omega) (by omega) ?_
    exact next S' F' T' hI'
  · have hv := hW2 c1
    refine a_aloadn (pc := 1600) C 3 rfl rfl dL_law_1600 ?_
    refine a_iconst (pc := 1601) (v := nI 0) C ci_0 dL_law_1601 ?_
    refine a_lald (pc := 1602) C 33 rfl (by decide) (by decide) dL_law_1602 ?_
    refine a_iload (pc := 1603) C 6 rfl dL_law_1603 ?_
    refine a_i2l (pc := 1605) (v := v.toInt64) C rfl dL_law_1605 ?_
    refine a_lcmp (pc := 1606) (v := lg_cmp (F' 0) v.toInt64) C rfl dL_law_1606 ?_
    refine a_if_eq_y (pc := 1607) (tgt := 1612) C (lg_cmp_0.mpr hv) (by decide) dL_law_1607 ?_
    refine a_goto (pc := 1612) (tgt := 1848) C (by decide) dL_law_1612 ?_
    refine aw_locals (L' := [(0, .ref bs), (1, .ref (a 0)), (2, .ref (b 0)), (3, .ref u), (4, .int (nI (5 * j)))]) [0, 1, 2, 3, 4] rfl ?_
    refine aw_room (k' := k0 + 402) (n' := n0 + 4010) (by omega) (by omega) ?_
    exact next S' F' T' hI'

set_option maxHeartbeats 4000000 in
set_option maxRecDepth 100000 in
theorem lc_next {g : aG} {κ : aK} {a b : Nat → Nat} {u bs L : Nat} {xs : Nat → Int32} (C : Cx g κ RL cL_law 9 room_1) (hX : va_X bs L xs (g_s g) (g_s g).heap) (hbl : bs < (g_s g).heap.size) (hbA : ¬ kA κ bs) (hL : L < 2 ^ 31) {j : Nat} (h5 : 5 * j + 5 ≤ L) {I : SC → SM → Prop} {S : SC} {F : Nat → Int64} {T : SM} (hI : I S T) (hK : ∀ (z1 : Int32), KI yL_next cL_next 4 [(0, 9, 12, 21)] yX6_next cX6_next 4 I κ a b u [.int z1]) {k0 n0 : Nat} (hk : k0 + 402 ≤ 601024) (hn : n0 + 4010 ≤ 7293034) (next : ∀ S' F' T', I S' T' → aw g κ 9 1848 [(0, .ref bs), (1, .ref (a 0)), (2, .ref (b 0)), (3, .ref u), (4, .int (nI (5 * j)))] [] (lW κ a b u S' F' T') (k0 + 402) (n0 + 4010)) : aw g κ 9 1615 [(0, .ref bs), (1, .ref (a 0)), (2, .ref (b 0)), (3, .ref u), (4, .int (nI (5 * j)))] [] (lW κ a b u S F T) k0 n0 := by
  refine a_aloadn (pc := 1615) C 1 rfl rfl dL_law_1615 ?_
  refine a_aloadn (pc := 1616) C 0 rfl rfl dL_law_1616 ?_
  refine a_iload (pc := 1617) C 4 rfl dL_law_1617 ?_
  refine a_iconst (pc := 1619) (v := nI 1) C ci_1 dL_law_1619 ?_
  refine a_iadd (pc := 1620) (v := nI ((5 * j) + 1)) C (nI_add _ _) dL_law_1620 ?_
  refine a_sld (pc := 1621) C hX hbl hbA (by omega) hL dL_law_1621 ?_
  refine a_aloadn (pc := 1622) C 3 rfl rfl dL_law_1622 ?_
  obtain ⟨S', T', kk, v, hI', hkk, ⟨rm1, hb1, hW⟩, ⟨rm2, hb2, hR⟩, hth⟩ := hK (xs ((5 * j) + 1)) S T hI
  obtain ⟨hb11, hb12, hb13, hb14⟩ := hb1
  obtain ⟨hb21, hb22, hb23, hb24⟩ := hb2
  obtain ⟨F', hW1, hW2⟩ := hW (mS κ b T []) F
  refine a_callW (pc := 1623) C hW1 yw_L_next ml_L_164 ws_L_next rfl rfl (by decide) (by show _ ≤ 11; omega) (by show _ ≤ 396; omega) ⟨by show _ ≤ 601024; omega, by show _ ≤ 7293034; omega⟩ dL_law_1623 (fun ro w h => ?_)
  obtain ⟨rfl, rfl⟩ := h
  refine a_istore (pc := 1626) (L' := [(0, .ref bs), (1, .ref (a 0)), (2, .ref (b 0)), (3, .ref u), (4, .int (nI (5 * j))), (5, .int (nI kk))]) C (by decide) rfl dL_law_1626 ?_
  refine a_aloadn (pc := 1628) C 2 rfl rfl dL_law_1628 ?_
  refine a_aloadn (pc := 1629) C 0 rfl rfl dL_law_1629 ?_
  refine a_iload (pc := 1630) C 4 rfl dL_law_1630 ?_
  refine a_iconst (pc := 1632) (v := nI 1) C ci_1 dL_law_1632 ?_
  refine a_iadd (pc := 1633) (v := nI ((5 * j) + 1)) C (nI_add _ _) dL_law_1633 ?_
  refine a_sld (pc := 1634) C hX hbl hbA (by omega) hL dL_law_1634 ?_
  refine aw_perm (ws' := lM κ a b u S' F' T) lW_perm ?_
  refine a_callV (pc := 1635) C (hR (cS κ a S' [oc κ u F'])) yv_X6_next ml_L_166 wi_X6_next wl_X6_next 0 rfl rfl rfl rfl rfl (by decide) (by show _ ≤ 11; omega) (by show _ ≤ 396; omega) ⟨by show _ ≤ 601024; omega, by show _ ≤ 7293034; omega⟩ dL_law_1635 (fun ro w h => ?_)
  obtain ⟨rfl, rfl⟩ := h
  refine a_istore (pc := 1638) (L' := [(0, .ref bs), (1, .ref (a 0)), (2, .ref (b 0)), (3, .ref u), (4, .int (nI (5 * j))), (5, .int (nI kk)), (6, .int v)]) C (by decide) rfl dL_law_1638 ?_
  refine a_aloadn (pc := 1640) C 2 rfl rfl dL_law_1640 ?_
  obtain ⟨rm3, ⟨hb31, hb32, hb33, hb34⟩, hT3⟩ := thr_c κ b T'
  refine a_callV (pc := 1641) C (hT3 (cS κ a S' [oc κ u F'])) yv_X6_thrown ml_L_98 wi_X6_thrown wl_X6_thrown 0 rfl rfl rfl rfl rfl (by decide) (by show _ ≤ 11; omega) (by show _ ≤ 396; omega) ⟨by show _ ≤ 601024; omega, by show _ ≤ 7293034; omega⟩ dL_law_1641 (fun ro w h => ?_)
  obtain ⟨rfl, rfl⟩ := h
  refine aw_perm (ws' := lW κ a b u S' F' T') lW_perm.symm ?_
  refine aw_st (st' := [.int (nI kk)]) (by show [Value.int T'.1] = _; rw [hth]) ?_
  refine a_iload (pc := 1644) C 5 rfl dL_law_1644 ?_
  refine a_icn_eq_y (pc := 1646) (tgt := 1651) C (by omega) (by omega) rfl (by decide) dL_law_1646 ?_
  refine a_iload (pc := 1651) C 5 rfl dL_law_1651 ?_
  refine a_ifn_ne (pc := 1653) (tgt := 1668) C (by omega) (by decide) dL_law_1653 (fun c1 => ?_) (fun c1 => ?_)
  · refine a_goto (pc := 1668) (tgt := 1848) C (by decide) dL_law_1668 ?_
    refine aw_locals (L' := [(0, .ref bs), (1, .ref (a 0)), (2, .ref (b 0)), (3, .ref u), (4, .int (nI (5 * j)))]) [0, 1, 2, 3, 4] rfl ?_
    refine aw_room (k' := k0 + 402) (n' := n0 + 4010) (by omega) (by omega) ?_
    exact next S' F' T' hI'
  · have hv := hW2 c1
    refine a_aloadn (pc := 1656) C 3 rfl rfl dL_law_1656 ?_
    refine a_iconst (pc := 1657) (v := nI 0) C ci_0 dL_law_1657 ?_
    refine a_lald (pc := 1658) C 33 rfl (by decide) (by decide) dL_law_1658 ?_
    refine a_iload (pc := 1659) C 6 rfl dL_law_1659 ?_
    refine a_i2l (pc := 1661) (v := v.toInt64) C rfl dL_law_1661 ?_
    refine a_lcmp (pc := 1662) (v := lg_cmp (F' 0) v.toInt64) C rfl dL_law_1662 ?_
    refine a_if_eq_y (pc := 1663) (tgt := 1668) C (lg_cmp_0.mpr hv) (by decide) dL_law_1663 ?_
    refine a_goto (pc := 1668) (tgt := 1848) C (by decide) dL_law_1668 ?_
    refine aw_locals (L' := [(0, .ref bs), (1, .ref (a 0)), (2, .ref (b 0)), (3, .ref u), (4, .int (nI (5 * j)))]) [0, 1, 2, 3, 4] rfl ?_
    refine aw_room (k' := k0 + 402) (n' := n0 + 4010) (by omega) (by omega) ?_
    exact next S' F' T' hI'

set_option maxHeartbeats 4000000 in
set_option maxRecDepth 100000 in
theorem lc_setPhase {g : aG} {κ : aK} {a b : Nat → Nat} {u bs L : Nat} {xs : Nat → Int32} (C : Cx g κ RL cL_law 9 room_1) (hX : va_X bs L xs (g_s g) (g_s g).heap) (hbl : bs < (g_s g).heap.size) (hbA : ¬ kA κ bs) (hL : L < 2 ^ 31) {j : Nat} (h5 : 5 * j + 5 ≤ L) {I : SC → SM → Prop} {S : SC} {F : Nat → Int64} {T : SM} (hI : I S T) (hK : ∀ (z1 : Int32) (z2 : Int32), KI yL_setPhase cL_setPhase 5 [(0, 10, 13, 21), (0, 10, 17, 13)] yX6_setPhase cX6_setPhase 4 I κ a b u [.int z1, .int z2]) {k0 n0 : Nat} (hk : k0 + 402 ≤ 601024) (hn : n0 + 4010 ≤ 7293034) (next : ∀ S' F' T', I S' T' → aw g κ 9 1848 [(0, .ref bs), (1, .ref (a 0)), (2, .ref (b 0)), (3, .ref u), (4, .int (nI (5 * j)))] [] (lW κ a b u S' F' T') (k0 + 402) (n0 + 4010)) : aw g κ 9 1671 [(0, .ref bs), (1, .ref (a 0)), (2, .ref (b 0)), (3, .ref u), (4, .int (nI (5 * j)))] [] (lW κ a b u S F T) k0 n0 := by
  refine a_aloadn (pc := 1671) C 1 rfl rfl dL_law_1671 ?_
  refine a_aloadn (pc := 1672) C 0 rfl rfl dL_law_1672 ?_
  refine a_iload (pc := 1673) C 4 rfl dL_law_1673 ?_
  refine a_iconst (pc := 1675) (v := nI 1) C ci_1 dL_law_1675 ?_
  refine a_iadd (pc := 1676) (v := nI ((5 * j) + 1)) C (nI_add _ _) dL_law_1676 ?_
  refine a_sld (pc := 1677) C hX hbl hbA (by omega) hL dL_law_1677 ?_
  refine a_aloadn (pc := 1678) C 0 rfl rfl dL_law_1678 ?_
  refine a_iload (pc := 1679) C 4 rfl dL_law_1679 ?_
  refine a_iconst (pc := 1681) (v := nI 2) C ci_2 dL_law_1681 ?_
  refine a_iadd (pc := 1682) (v := nI ((5 * j) + 2)) C (nI_add _ _) dL_law_1682 ?_
  refine a_sld (pc := 1683) C hX hbl hbA (by omega) hL dL_law_1683 ?_
  refine a_aloadn (pc := 1684) C 3 rfl rfl dL_law_1684 ?_
  obtain ⟨S', T', kk, v, hI', hkk, ⟨rm1, hb1, hW⟩, ⟨rm2, hb2, hR⟩, hth⟩ := hK (xs ((5 * j) + 1)) (xs ((5 * j) + 2)) S T hI
  obtain ⟨hb11, hb12, hb13, hb14⟩ := hb1
  obtain ⟨hb21, hb22, hb23, hb24⟩ := hb2
  obtain ⟨F', hW1, hW2⟩ := hW (mS κ b T []) F
  refine a_callW (pc := 1685) C hW1 yw_L_setPhase ml_L_167 ws_L_setPhase rfl rfl (by decide) (by show _ ≤ 11; omega) (by show _ ≤ 396; omega) ⟨by show _ ≤ 601024; omega, by show _ ≤ 7293034; omega⟩ dL_law_1685 (fun ro w h => ?_)
  obtain ⟨rfl, rfl⟩ := h
  refine a_istore (pc := 1688) (L' := [(0, .ref bs), (1, .ref (a 0)), (2, .ref (b 0)), (3, .ref u), (4, .int (nI (5 * j))), (5, .int (nI kk))]) C (by decide) rfl dL_law_1688 ?_
  refine a_aloadn (pc := 1690) C 2 rfl rfl dL_law_1690 ?_
  refine a_aloadn (pc := 1691) C 0 rfl rfl dL_law_1691 ?_
  refine a_iload (pc := 1692) C 4 rfl dL_law_1692 ?_
  refine a_iconst (pc := 1694) (v := nI 1) C ci_1 dL_law_1694 ?_
  refine a_iadd (pc := 1695) (v := nI ((5 * j) + 1)) C (nI_add _ _) dL_law_1695 ?_
  refine a_sld (pc := 1696) C hX hbl hbA (by omega) hL dL_law_1696 ?_
  refine a_aloadn (pc := 1697) C 0 rfl rfl dL_law_1697 ?_
  refine a_iload (pc := 1698) C 4 rfl dL_law_1698 ?_
  refine a_iconst (pc := 1700) (v := nI 2) C ci_2 dL_law_1700 ?_
  refine a_iadd (pc := 1701) (v := nI ((5 * j) + 2)) C (nI_add _ _) dL_law_1701 ?_
  refine a_sld (pc := 1702) C hX hbl hbA (by omega) hL dL_law_1702 ?_
  refine aw_perm (ws' := lM κ a b u S' F' T) lW_perm ?_
  refine a_callV (pc := 1703) C (hR (cS κ a S' [oc κ u F'])) yv_X6_setPhase ml_L_169 wi_X6_setPhase wl_X6_setPhase 0 rfl rfl rfl rfl rfl (by decide) (by show _ ≤ 11; omega) (by show _ ≤ 396; omega) ⟨by show _ ≤ 601024; omega, by show _ ≤ 7293034; omega⟩ dL_law_1703 (fun ro w h => ?_)
  obtain ⟨rfl, rfl⟩ := h
  refine a_istore (pc := 1706) (L' := [(0, .ref bs), (1, .ref (a 0)), (2, .ref (b 0)), (3, .ref u), (4, .int (nI (5 * j))), (5, .int (nI kk)), (6, .int v)]) C (by decide) rfl dL_law_1706 ?_
  refine a_aloadn (pc := 1708) C 2 rfl rfl dL_law_1708 ?_
  obtain ⟨rm3, ⟨hb31, hb32, hb33, hb34⟩, hT3⟩ := thr_c κ b T'
  refine a_callV (pc := 1709) C (hT3 (cS κ a S' [oc κ u F'])) yv_X6_thrown ml_L_98 wi_X6_thrown wl_X6_thrown 0 rfl rfl rfl rfl rfl (by decide) (by show _ ≤ 11; omega) (by show _ ≤ 396; omega) ⟨by show _ ≤ 601024; omega, by show _ ≤ 7293034; omega⟩ dL_law_1709 (fun ro w h => ?_)
  obtain ⟨rfl, rfl⟩ := h
  refine aw_perm (ws' := lW κ a b u S' F' T') lW_perm.symm ?_
  refine aw_st (st' := [.int (nI kk)]) (by show [Value.int T'.1] = _; rw [hth]) ?_
  refine a_iload (pc := 1712) C 5 rfl dL_law_1712 ?_
  refine a_icn_eq_y (pc := 1714) (tgt := 1719) C (by omega) (by omega) rfl (by decide) dL_law_1714 ?_
  refine a_iload (pc := 1719) C 5 rfl dL_law_1719 ?_
  refine a_ifn_ne (pc := 1721) (tgt := 1736) C (by omega) (by decide) dL_law_1721 (fun c1 => ?_) (fun c1 => ?_)
  · refine a_goto (pc := 1736) (tgt := 1848) C (by decide) dL_law_1736 ?_
    refine aw_locals (L' := [(0, .ref bs), (1, .ref (a 0)), (2, .ref (b 0)), (3, .ref u), (4, .int (nI (5 * j)))]) [0, 1, 2, 3, 4] rfl ?_
    refine aw_room (k' := k0 + 402) (n' := n0 + 4010) (by omega) (by omega) ?_
    exact next S' F' T' hI'
  · have hv := hW2 c1
    refine a_aloadn (pc := 1724) C 3 rfl rfl dL_law_1724 ?_
    refine a_iconst (pc := 1725) (v := nI 0) C ci_0 dL_law_1725 ?_
    refine a_lald (pc := 1726) C 33 rfl (by decide) (by decide) dL_law_1726 ?_
    refine a_iload (pc := 1727) C 6 rfl dL_law_1727 ?_
    refine a_i2l (pc := 1729) (v := v.toInt64) C rfl dL_law_1729 ?_
    refine a_lcmp (pc := 1730) (v := lg_cmp (F' 0) v.toInt64) C rfl dL_law_1730 ?_
    refine a_if_eq_y (pc := 1731) (tgt := 1736) C (lg_cmp_0.mpr hv) (by decide) dL_law_1731 ?_
    refine a_goto (pc := 1736) (tgt := 1848) C (by decide) dL_law_1736 ?_
    refine aw_locals (L' := [(0, .ref bs), (1, .ref (a 0)), (2, .ref (b 0)), (3, .ref u), (4, .int (nI (5 * j)))]) [0, 1, 2, 3, 4] rfl ?_
    refine aw_room (k' := k0 + 402) (n' := n0 + 4010) (by omega) (by omega) ?_
    exact next S' F' T' hI'
