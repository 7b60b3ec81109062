/-! THE CASES: every call leaves states that belong together, and is answered alike -/
theorem wc_ok {y : MethodName} {cc : ByteArray} {maxL : Nat} {hh : List (Nat × Nat × Nat × Nat)} {κ : aK} {a : Nat → Nat} {u : Nat} {S S' : SC} {zs : List Value} {v : Int64} {rm : Room} (h : ∀ (X : va_W) (F : Nat → Int64), CW y cc maxL (some .int) hh rm κ (.ref (a 0) :: (zs ++ [.ref u])) (cS κ a S (oc κ u F :: X)) (aD (some (.int (nI 0))) (cS κ a S' (oc κ u (va_up F 0 v) :: X)))) (hr : rmB rm 1 6) : WC y cc maxL hh κ a u S S' zs 0 v := ⟨rm, hr, fun X F => ⟨va_up F 0 v, h X F, fun _ => up_s _ _ _⟩⟩
theorem wc_no {y : MethodName} {cc : ByteArray} {maxL : Nat} {hh : List (Nat × Nat × Nat × Nat)} {κ : aK} {a : Nat → Nat} {u k : Nat} {S S' : SC} {zs : List Value} {v : Int64} {rm : Room} (h : ∀ (X : va_W) (F : Nat → Int64), CW y cc maxL (some .int) hh rm κ (.ref (a 0) :: (zs ++ [.ref u])) (cS κ a S (oc κ u F :: X)) (aD (some (.int (nI k))) (cS κ a S' (oc κ u F :: X)))) (hr : rmB rm 1 6) (hk : ¬ k = 0) : WC y cc maxL hh κ a u S S' zs k v := ⟨rm, hr, fun X F => ⟨F, h X F, fun c => absurd c hk⟩⟩
theorem rc_of {y : MethodName} {cc : ByteArray} {maxL : Nat} {ret : Option FieldType} {κ : aK} {b : Nat → Nat} {T T' : SM} {zs : List Value} {v : Value} {rm : Room} (h : ∀ X : va_W, CM y cc maxL ret rm κ (.ref (b 0) :: zs) (mS κ b T X) (aD (some v) (mS κ b T' X))) (hr : rmB rm 400 4000) : RC y cc maxL ret κ b T T' zs v := ⟨rm, hr, h⟩
theorem rc_eq {y : MethodName} {cc : ByteArray} {maxL : Nat} {ret : Option FieldType} {κ : aK} {b : Nat → Nat} {T T' : SM} {zs : List Value} {v v' : Value} {rm : Room} (e : v = v') (h : ∀ X : va_W, CM y cc maxL ret rm κ (.ref (b 0) :: zs) (mS κ b T X) (aD (some v') (mS κ b T' X))) (hr : rmB rm 400 4000) : RC y cc maxL ret κ b T T' zs v := ⟨rm, hr, fun X => by rw [e]; exact h X⟩
theorem cc_of {y : MethodName} {cc : ByteArray} {maxL : Nat} {ret : Option FieldType} {κ : aK} {a : Nat → Nat} {S S' : SC} {zs : List Value} {v : Value} {rm : Room} (h : ∀ X : va_W, CM y cc maxL ret rm κ (.ref (a 0) :: zs) (cS κ a S X) (aD (some v) (cS κ a S' X))) (hr : rmB rm 0 0) : CC1 y cc maxL ret κ a S S' zs v := ⟨rm, hr, h⟩
set_option maxHeartbeats 2000000 in
set_option maxRecDepth 100000 in
theorem k_addUnit (κ : aK) (a b : Nat → Nat) (u : Nat) : ∀ (z1 : Int32), KI yL_addUnit cL_addUnit 4 [(0, 9, 12, 13), (0, 9, 15, 15)] yX6_addUnit cX6_addUnit 2 II κ a b u [.int z1] := by
  intro z1
  intro S T hI
  obtain ⟨n, dug, dtd, so, ph, uf, ul, r, ki, lt, er, mz, bd, bo, me, dE, eE, lE, li, fB, fA, sL, f, fu, fs, ff, fl, xs, ys, zs, oL, oU, lo, up⟩ := S
  obtain ⟨th, un, ss, fi, la, da, dg, ps, rn, ks, os, ts, fn, fp, b2, e2, l2, k2, be, ab⟩ := T
  have hI : IV n dug dtd so ph uf ul r ki lt er mz bd bo me eE lE li fB fA f fu fs ff fl xs ys zs lo up un ss fi la da dg ps rn ks os ts fn fp b2 e2 l2 k2 be ab := hI
  have hI0 := hI
  obtain ⟨⟨⟨hn, hr, hf, hm⟩, hbo, hlt, her, hfu, hb2, hos, hts, hv, hfn, hre⟩, ⟨q1, q2, q3, q4, q5, q6, q7, q8, q9⟩, hF, hG, hD1, hD2, hJ⟩ := hI
  subst hm q1 q2 q3 q4 q5 q6 q7 q8 q9
  obtain ⟨hA, hB, hB2⟩ := AG_of hv hD1 hD2
  by_cases hs : okU 4 z1
  · by_cases c : n < 40
    · obtain ⟨g1, g2, g3, g4⟩ := (NEWS (oL := oL) (oU := oU) (lo := lo) (up := up) (uf := uf) (ul := ul) (ff := ff) (dtd := dtd) (be := be) (ab := ab) (fB := fB) (fA := fA) (me := me) (lE := lE) (li := li) (e0 := e2) (l0 := l2) (k0 := k2) (show n + 1 ≤ 40 by omega) (RV_s hv) hre hos hts hb2 (fun i hi => hG.2.2 i (by omega)) (fun j hj => Nat.lt_succ_of_lt (hfn j hj)) (irr_add (c0 := bo) (d1 := dE) (e1 := eE) hv hD1))
      have hI1 : VA (n + 1) r f (n + 1) ki lt er (nJ ki lt er bo (n + 1) r) fu (sJ ks os ts b2 (n + 1) r) ks os ts := ⟨⟨by omega, hr, hf, rfl⟩, nJ_lt hbo (by omega), hlt, her, hfu, sJ_lt hb2 (by omega), hos, hts, RV_s hv, fun j hj => Nat.lt_succ_of_lt (hfn j hj), hre⟩
      exact ⟨((n + 1), dug, dtd, (va_up so n z1), ph, uf, ul, r, ki, lt, er, (n + 1), (nB ki lt er bo (n + 1) r), (nJ ki lt er bo (n + 1) r), (nM ki lt er bo (n + 1) r me), (nD ki lt er bo (n + 1) r dE), (nE ki lt er bo (n + 1) r dE eE), (nL ki lt er bo (n + 1) r dE eE lE), (nK ki lt er bo (n + 1) r dE eE li), (nfB ki lt er bo (n + 1) r dE eE fB), (nfA ki lt er bo (n + 1) r dE eE lE fA), sL, f, fu, fs, ff, fl, xs, ys, zs, (nOL dtd uf (nJ ki lt er bo (n + 1) r) fu ff oL (n + 1) f), (nOU dtd ul (nJ ki lt er bo (n + 1) r) oU (n + 1)), (nLo (nOL dtd uf (nJ ki lt er bo (n + 1) r) fu ff oL (n + 1) f) (nE ki lt er bo (n + 1) r dE eE) lo (n + 1)), (nUp (nOU dtd ul (nJ ki lt er bo (n + 1) r) oU (n + 1)) (nL ki lt er bo (n + 1) r dE eE lE) up (n + 1))), ((nI 0), (n + 1), (va_up so n z1), uf, ul, dtd, dug, ph, r, ks, os, ts, f, fp, (sJ ks os ts b2 (n + 1) r), (sE ks os ts b2 (n + 1) r e2), (sLt (sE ks os ts b2 (n + 1) r e2) (n + 1) l2), (sLi (sE ks os ts b2 (n + 1) r e2) (n + 1) k2), (sRk (sE ks os ts b2 (n + 1) r e2) (n + 1) be), (sRk (sLt (sE ks os ts b2 (n + 1) r e2) (n + 1) l2) (n + 1) ab)), 0, _, ⟨hI1, ⟨rfl, rfl, rfl, rfl, rfl, rfl, rfl, rfl, rfl⟩, hF, g1, g2, g3, g4⟩, by decide, wc_ok (fun X F => c_L_addUnit κ a hs c hr hf hbo hlt her hfu) ⟨by decide, by decide, by decide, by decide⟩, rc_eq (congrArg Value.int (rfl)) (fun X => c_X6_addUnit κ b hs c hr hb2 hos hts) ⟨by decide, by decide, by decide, by decide⟩, rfl⟩
    · have c : n = 40 := by omega
      exact ⟨(n, dug, dtd, so, ph, uf, ul, r, ki, lt, er, n, bd, bo, me, dE, eE, lE, li, fB, fA, sL, f, fu, fs, ff, fl, xs, ys, zs, oL, oU, lo, up), (nI 2, n, so, uf, ul, dtd, dug, ph, r, ks, os, ts, f, fp, b2, e2, l2, k2, be, ab), 2, nI 0, hI0, by decide, wc_no (fun X F => c_L_addUnit_b2 κ a hs c) ⟨by decide, by decide, by decide, by decide⟩ (by decide), rc_of (fun X => c_X6_addUnit_b2 κ b hs c) ⟨by decide, by decide, by decide, by decide⟩, rfl⟩
  · exact ⟨(n, dug, dtd, so, ph, uf, ul, r, ki, lt, er, n, bd, bo, me, dE, eE, lE, li, fB, fA, sL, f, fu, fs, ff, fl, xs, ys, zs, oL, oU, lo, up), (nI 1, n, so, uf, ul, dtd, dug, ph, r, ks, os, ts, f, fp, b2, e2, l2, k2, be, ab), 1, nI 0, hI0, by decide, wc_no (fun X F => c_L_addUnit_b1 κ a hs) ⟨by decide, by decide, by decide, by decide⟩ (by decide), rc_of (fun X => c_X6_addUnit_b1 κ b hs) ⟨by decide, by decide, by decide, by decide⟩, rfl⟩
set_option maxHeartbeats 2000000 in
set_option maxRecDepth 100000 in
theorem k_takeBack (κ : aK) (a b : Nat → Nat) (u : Nat) : ∀ (z1 : Int32), KI yL_takeBack cL_takeBack 4 [(0, 9, 12, 21)] yX6_takeBack cX6_takeBack 3 II κ a b u [.int z1] := by
  intro z1
  intro S T hI
  obtain ⟨n, dug, dtd, so, ph, uf, ul, r, ki, lt, er, mz, bd, bo, me, dE, eE, lE, li, fB, fA, sL, f, fu, fs, ff, fl, xs, ys, zs, oL, oU, lo, up⟩ := S
  obtain ⟨th, un, ss, fi, la, da, dg, ps, rn, ks, os, ts, fn, fp, b2, e2, l2, k2, be, ab⟩ := T
  have hI : IV n dug dtd so ph uf ul r ki lt er mz bd bo me eE lE li fB fA f fu fs ff fl xs ys zs lo up un ss fi la da dg ps rn ks os ts fn fp b2 e2 l2 k2 be ab := hI
  have hI0 := hI
  obtain ⟨⟨⟨hn, hr, hf, hm⟩, hbo, hlt, her, hfu, hb2, hos, hts, hv, hfn, hre⟩, ⟨q1, q2, q3, q4, q5, q6, q7, q8, q9⟩, hF, hG, hD1, hD2, hJ⟩ := hI
  subst hm q1 q2 q3 q4 q5 q6 q7 q8 q9
  obtain ⟨hA, hB, hB2⟩ := AG_of hv hD1 hD2
  by_cases c : okU r z1
  · obtain ⟨j, hj, rfl⟩ := c
    obtain ⟨g1, g2, g3, g4⟩ := (NEWS (oL := oL) (oU := oU) (lo := lo) (up := up) (uf := uf) (ul := ul) (ff := ff) (dtd := dtd) (be := be) (ab := ab) (fB := fB) (fA := fA) (me := me) (lE := lE) (li := li) (e0 := e2) (l0 := l2) (k0 := k2) hn (RV_sft (j := j) hv) (RE_sft hre) (sft_lt hos) (sft_lt hts) hb2 hG.2.2 hfn (irr_sft (c0 := bo) (d1 := dE) (e1 := eE) hv hD1))
    have hI1 : VA n (r - 1) f n (sft ki j r) (sft lt j r) (sft er j r) (nJ (sft ki j r) (sft lt j r) (sft er j r) bo n (r - 1)) fu (sJ (sft ks j r) (sft os j r) (sft ts j r) b2 n (r - 1)) (sft ks j r) (sft os j r) (sft ts j r) := ⟨⟨hn, by omega, hf, rfl⟩, nJ_lt hbo hn, sft_lt hlt, sft_lt her, hfu, sJ_lt hb2 hn, sft_lt hos, sft_lt hts, RV_sft hv, hfn, RE_sft hre⟩
    exact ⟨(n, dug, dtd, so, ph, uf, ul, (r - 1), (sft ki j r), (sft lt j r), (sft er j r), n, (nB (sft ki j r) (sft lt j r) (sft er j r) bo n (r - 1)), (nJ (sft ki j r) (sft lt j r) (sft er j r) bo n (r - 1)), (nM (sft ki j r) (sft lt j r) (sft er j r) bo n (r - 1) me), (nD (sft ki j r) (sft lt j r) (sft er j r) bo n (r - 1) dE), (nE (sft ki j r) (sft lt j r) (sft er j r) bo n (r - 1) dE eE), (nL (sft ki j r) (sft lt j r) (sft er j r) bo n (r - 1) dE eE lE), (nK (sft ki j r) (sft lt j r) (sft er j r) bo n (r - 1) dE eE li), (nfB (sft ki j r) (sft lt j r) (sft er j r) bo n (r - 1) dE eE fB), (nfA (sft ki j r) (sft lt j r) (sft er j r) bo n (r - 1) dE eE lE fA), sL, f, fu, fs, ff, fl, xs, ys, zs, (nOL dtd uf (nJ (sft ki j r) (sft lt j r) (sft er j r) bo n (r - 1)) fu ff oL n f), (nOU dtd ul (nJ (sft ki j r) (sft lt j r) (sft er j r) bo n (r - 1)) oU n), (nLo (nOL dtd uf (nJ (sft ki j r) (sft lt j r) (sft er j r) bo n (r - 1)) fu ff oL n f) (nE (sft ki j r) (sft lt j r) (sft er j r) bo n (r - 1) dE eE) lo n), (nUp (nOU dtd ul (nJ (sft ki j r) (sft lt j r) (sft er j r) bo n (r - 1)) oU n) (nL (sft ki j r) (sft lt j r) (sft er j r) bo n (r - 1) dE eE lE) up n)), ((nI 0), n, so, uf, ul, dtd, dug, ph, (r - 1), (sft ks j r), (sft os j r), (sft ts j r), f, fp, (sJ (sft ks j r) (sft os j r) (sft ts j r) b2 n (r - 1)), (sE (sft ks j r) (sft os j r) (sft ts j r) b2 n (r - 1) e2), (sLt (sE (sft ks j r) (sft os j r) (sft ts j r) b2 n (r - 1) e2) n l2), (sLi (sE (sft ks j r) (sft os j r) (sft ts j r) b2 n (r - 1) e2) n k2), (sRk (sE (sft ks j r) (sft os j r) (sft ts j r) b2 n (r - 1) e2) n be), (sRk (sLt (sE (sft ks j r) (sft os j r) (sft ts j r) b2 n (r - 1) e2) n l2) n ab)), 0, _, ⟨hI1, ⟨rfl, rfl, rfl, rfl, rfl, rfl, rfl, rfl, rfl⟩, hF, g1, g2, g3, g4⟩, by decide, wc_ok (fun X F => c_L_takeBack κ a hn hr hj hf hbo hlt her hfu) ⟨by decide, by decide, by decide, by decide⟩, rc_eq (congrArg Value.int (rfl)) (fun X => c_X6_takeBack κ b hn hr hb2 hos hts hj) ⟨by decide, by decide, by decide, by decide⟩, rfl⟩
  · exact ⟨(n, dug, dtd, so, ph, uf, ul, r, ki, lt, er, n, bd, bo, me, dE, eE, lE, li, fB, fA, sL, f, fu, fs, ff, fl, xs, ys, zs, oL, oU, lo, up), (nI 1, n, so, uf, ul, dtd, dug, ph, r, ks, os, ts, f, fp, b2, e2, l2, k2, be, ab), 1, nI 0, hI0, by decide, wc_no (fun X F => c_L_takeBack_b1 κ a hr c) ⟨by decide, by decide, by decide, by decide⟩ (by decide), rc_of (fun X => c_X6_takeBack_b1 κ b hr c) ⟨by decide, by decide, by decide, by decide⟩, rfl⟩
set_option maxHeartbeats 2000000 in
set_option maxRecDepth 100000 in
theorem k_relation (κ : aK) (a b : Nat → Nat) (u : Nat) : ∀ (z1 : Int32) (z2 : Int32), KI yL_relation cL_relation 5 [(0, 10, 13, 21)] yX6_relation cX6_relation 3 II κ a b u [.int z1, .int z2] := by
  intro z1 z2
  intro S T hI
  obtain ⟨n, dug, dtd, so, ph, uf, ul, r, ki, lt, er, mz, bd, bo, me, dE, eE, lE, li, fB, fA, sL, f, fu, fs, ff, fl, xs, ys, zs, oL, oU, lo, up⟩ := S
  obtain ⟨th, un, ss, fi, la, da, dg, ps, rn, ks, os, ts, fn, fp, b2, e2, l2, k2, be, ab⟩ := T
  have hI : IV n dug dtd so ph uf ul r ki lt er mz bd bo me eE lE li fB fA f fu fs ff fl xs ys zs lo up un ss fi la da dg ps rn ks os ts fn fp b2 e2 l2 k2 be ab := hI
  have hI0 := hI
  obtain ⟨⟨⟨hn, hr, hf, hm⟩, hbo, hlt, her, hfu, hb2, hos, hts, hv, hfn, hre⟩, ⟨q1, q2, q3, q4, q5, q6, q7, q8, q9⟩, hF, hG, hD1, hD2, hJ⟩ := hI
  subst hm q1 q2 q3 q4 q5 q6 q7 q8 q9
  obtain ⟨hA, hB, hB2⟩ := AG_of hv hD1 hD2
  by_cases c : okU r z1
  · obtain ⟨j, hj, rfl⟩ := c
    by_cases c2 : okU 3 z2
    · obtain ⟨q, hq, rfl⟩ := c2
      exact ⟨(n, dug, dtd, so, ph, uf, ul, r, ki, lt, er, n, bd, bo, me, dE, eE, lE, li, fB, fA, sL, f, fu, fs, ff, fl, xs, ys, zs, oL, oU, lo, up), ((nI 0), n, so, uf, ul, dtd, dug, ph, r, ks, os, ts, f, fp, b2, e2, l2, k2, be, ab), 0, _, hI0, by decide, wc_ok (fun X F => c_L_relation κ a hr hj hq) ⟨by decide, by decide, by decide, by decide⟩, rc_eq (congrArg Value.int (rt_eq hre hj hq)) (fun X => c_X6_relation κ b hr hj hq) ⟨by decide, by decide, by decide, by decide⟩, rfl⟩
    · exact ⟨(n, dug, dtd, so, ph, uf, ul, r, ki, lt, er, n, bd, bo, me, dE, eE, lE, li, fB, fA, sL, f, fu, fs, ff, fl, xs, ys, zs, oL, oU, lo, up), (nI 1, n, so, uf, ul, dtd, dug, ph, r, ks, os, ts, f, fp, b2, e2, l2, k2, be, ab), 1, nI 0, hI0, by decide, wc_no (fun X F => c_L_relation_b2 κ a hr hj c2) ⟨by decide, by decide, by decide, by decide⟩ (by decide), rc_of (fun X => c_X6_relation_b1 κ b hr (fun h => c2 h.2)) ⟨by decide, by decide, by decide, by decide⟩, rfl⟩
  · exact ⟨(n, dug, dtd, so, ph, uf, ul, r, ki, lt, er, n, bd, bo, me, dE, eE, lE, li, fB, fA, sL, f, fu, fs, ff, fl, xs, ys, zs, oL, oU, lo, up), (nI 1, n, so, uf, ul, dtd, dug, ph, r, ks, os, ts, f, fp, b2, e2, l2, k2, be, ab), 1, nI 0, hI0, by decide, wc_no (fun X F => c_L_relation_b1 κ a hr c) ⟨by decide, by decide, by decide, by decide⟩ (by decide), rc_of (fun X => c_X6_relation_b1 κ b hr (fun h => c h.1)) ⟨by decide, by decide, by decide, by decide⟩, rfl⟩
set_option maxHeartbeats 2000000 in
set_option maxRecDepth 100000 in
theorem k_count (κ : aK) (a b : Nat → Nat) (u : Nat) : ∀ (z1 : Int32), KI yL_count cL_count 4 [(0, 9, 12, 21)] yX6_count cX6_count 2 II κ a b u [.int z1] := by
  intro z1
  intro S T hI
  obtain ⟨n, dug, dtd, so, ph, uf, ul, r, ki, lt, er, mz, bd, bo, me, dE, eE, lE, li, fB, fA, sL, f, fu, fs, ff, fl, xs, ys, zs, oL, oU, lo, up⟩ := S
  obtain ⟨th, un, ss, fi, la, da, dg, ps, rn, ks, os, ts, fn, fp, b2, e2, l2, k2, be, ab⟩ := T
  have hI : IV n dug dtd so ph uf ul r ki lt er mz bd bo me eE lE li fB fA f fu fs ff fl xs ys zs lo up un ss fi la da dg ps rn ks os ts fn fp b2 e2 l2 k2 be ab := hI
  have hI0 := hI
  obtain ⟨⟨⟨hn, hr, hf, hm⟩, hbo, hlt, her, hfu, hb2, hos, hts, hv, hfn, hre⟩, ⟨q1, q2, q3, q4, q5, q6, q7, q8, q9⟩, hF, hG, hD1, hD2, hJ⟩ := hI
  subst hm q1 q2 q3 q4 q5 q6 q7 q8 q9
  obtain ⟨hA, hB, hB2⟩ := AG_of hv hD1 hD2
  by_cases c : okU 9 z1
  · obtain ⟨q, hq, rfl⟩ := c
    exact ⟨(n, dug, dtd, so, ph, uf, ul, r, ki, lt, er, n, bd, bo, me, dE, eE, lE, li, fB, fA, sL, f, fu, fs, ff, fl, xs, ys, zs, oL, oU, lo, up), ((nI 0), n, so, uf, ul, dtd, dug, ph, r, ks, os, ts, f, fp, b2, e2, l2, k2, be, ab), 0, _, hI0, by decide, wc_ok (fun X F => c_L_count κ a hn hn hbo hq) ⟨by decide, by decide, by decide, by decide⟩, rc_eq (congrArg Value.int (ct_eq rfl hn hB hA hF hG hfn hJ hq)) (fun X => c_X6_count κ b hn hf hb2 hF.1 hfu hq) ⟨by decide, by decide, by decide, by decide⟩, rfl⟩
  · exact ⟨(n, dug, dtd, so, ph, uf, ul, r, ki, lt, er, n, bd, bo, me, dE, eE, lE, li, fB, fA, sL, f, fu, fs, ff, fl, xs, ys, zs, oL, oU, lo, up), (nI 1, n, so, uf, ul, dtd, dug, ph, r, ks, os, ts, f, fp, b2, e2, l2, k2, be, ab), 1, nI 0, hI0, by decide, wc_no (fun X F => c_L_count_b1 κ a c) ⟨by decide, by decide, by decide, by decide⟩ (by decide), rc_of (fun X => c_X6_count_b1 κ b c) ⟨by decide, by decide, by decide, by decide⟩, rfl⟩
set_option maxHeartbeats 2000000 in
set_option maxRecDepth 100000 in
theorem k_unit (κ : aK) (a b : Nat → Nat) (u : Nat) : ∀ (z1 : Int32) (z2 : Int32), KI yL_unit cL_unit 5 [(0, 10, 13, 21)] yX6_unit cX6_unit 3 II κ a b u [.int z1, .int z2] := by
  intro z1 z2
  intro S T hI
  obtain ⟨n, dug, dtd, so, ph, uf, ul, r, ki, lt, er, mz, bd, bo, me, dE, eE, lE, li, fB, fA, sL, f, fu, fs, ff, fl, xs, ys, zs, oL, oU, lo, up⟩ := S
  obtain ⟨th, un, ss, fi, la, da, dg, ps, rn, ks, os, ts, fn, fp, b2, e2, l2, k2, be, ab⟩ := T
  have hI : IV n dug dtd so ph uf ul r ki lt er mz bd bo me eE lE li fB fA f fu fs ff fl xs ys zs lo up un ss fi la da dg ps rn ks os ts fn fp b2 e2 l2 k2 be ab := hI
  have hI0 := hI
  obtain ⟨⟨⟨hn, hr, hf, hm⟩, hbo, hlt, her, hfu, hb2, hos, hts, hv, hfn, hre⟩, ⟨q1, q2, q3, q4, q5, q6, q7, q8, q9⟩, hF, hG, hD1, hD2, hJ⟩ := hI
  subst hm q1 q2 q3 q4 q5 q6 q7 q8 q9
  obtain ⟨hA, hB, hB2⟩ := AG_of hv hD1 hD2
  by_cases c : okU n z1
  · obtain ⟨j, hj, rfl⟩ := c
    by_cases c2 : okU 10 z2
    · obtain ⟨q, hq, rfl⟩ := c2
      exact ⟨(n, dug, dtd, so, ph, uf, ul, r, ki, lt, er, n, bd, bo, me, dE, eE, lE, li, fB, fA, sL, f, fu, fs, ff, fl, xs, ys, zs, oL, oU, lo, up), ((nI 0), n, so, uf, ul, dtd, dug, ph, r, ks, os, ts, f, fp, b2, e2, l2, k2, be, ab), 0, _, hI0, by decide, wc_ok (fun X F => c_L_unit κ a hn hf hbo hfu hj hq) ⟨by decide, by decide, by decide, by decide⟩, rc_eq (congrArg Value.int (ut_eq hn hB hA hG hj hq)) (fun X => c_X6_unit κ b hn hf hb2 hF.1 hfu hj hq) ⟨by decide, by decide, by decide, by decide⟩, rfl⟩
    · exact ⟨(n, dug, dtd, so, ph, uf, ul, r, ki, lt, er, n, bd, bo, me, dE, eE, lE, li, fB, fA, sL, f, fu, fs, ff, fl, xs, ys, zs, oL, oU, lo, up), (nI 1, n, so, uf, ul, dtd, dug, ph, r, ks, os, ts, f, fp, b2, e2, l2, k2, be, ab), 1, nI 0, hI0, by decide, wc_no (fun X F => c_L_unit_b2 κ a hn hj c2) ⟨by decide, by decide, by decide, by decide⟩ (by decide), rc_of (fun X => c_X6_unit_b1 κ b hn (fun h => c2 h.2)) ⟨by decide, by decide, by decide, by decide⟩, rfl⟩
  · exact ⟨(n, dug, dtd, so, ph, uf, ul, r, ki, lt, er, n, bd, bo, me, dE, eE, lE, li, fB, fA, sL, f, fu, fs, ff, fl, xs, ys, zs, oL, oU, lo, up), (nI 1, n, so, uf, ul, dtd, dug, ph, r, ks, os, ts, f, fp, b2, e2, l2, k2, be, ab), 1, nI 0, hI0, by decide, wc_no (fun X F => c_L_unit_b1 κ a hn c) ⟨by decide, by decide, by decide, by decide⟩ (by decide), rc_of (fun X => c_X6_unit_b1 κ b hn (fun h => c h.1)) ⟨by decide, by decide, by decide, by decide⟩, rfl⟩
